/-! the shape of a tree, out of the levels of its row -/
def eG (L : Nat → Nat) (n p : Nat) : Nat → Nat → Nat
  | 0, q => q
  | f + 1, q => if q < n ∧ L p < L q then eG L n p f (q + 1) else q
/-- where the subtree of a place ends -/
def eN (L : Nat → Nat) (n p : Nat) : Nat := eG L n p (n - (p + 1)) (p + 1)
def isE (L : Nat → Nat) (n p e : Nat) : Prop := p < e ∧ e ≤ n ∧ (∀ q : Nat, p < q → q < e → L p < L q) ∧ (e < n → L e ≤ L p)
/-- levels of a tree -/
def WL (L : Nat → Nat) (n : Nat) : Prop := (0 < n → L 0 = 0) ∧ ∀ p : Nat, p + 1 < n → 1 ≤ L (p + 1) ∧ L (p + 1) ≤ L p + 1
theorem eG_spec (L : Nat → Nat) (n p : Nat) : ∀ (f q : Nat), p < q → q ≤ n → n - q ≤ f → (∀ r : Nat, p < r → r < q → L p < L r) → isE L n p (eG L n p f q) := by
  intro f
  induction f with
  | zero =>
    intro q h1 h2 h3 h4
    exact ⟨h1, h2, h4, fun h => by
      change q < n at h
      omega⟩
  | succ f ih =>
    intro q h1 h2 h3 h4
    unfold eG
    by_cases c : q < n ∧ L p < L q
    · rw [if_pos c]
      refine ih (q + 1) (by omega) (by omega) (by omega) (fun r hr hr2 => ?_)
      by_cases e : r = q
      · rw [e]; exact c.2
      · exact h4 r hr (by omega)
    · rw [if_neg c]
      exact ⟨h1, h2, h4, fun h => by omega⟩
theorem eN_spec {L : Nat → Nat} {n p : Nat} (hp : p < n) : isE L n p (eN L n p) := eG_spec L n p _ _ (by omega) (by omega) (by omega) (fun r h1 h2 => by omega)
theorem isE_uniq {L : Nat → Nat} {n p e e' : Nat} (h : isE L n p e) (h' : isE L n p e') : e = e' := by
  obtain ⟨a1, a2, a3, a4⟩ := h
  obtain ⟨b1, b2, b3, b4⟩ := h'
  rcases Nat.lt_trichotomy e e' with c | c | c
  · have h1 := a4 (by omega)
    have h2 := b3 e a1 c
    omega
  · exact c
  · have h1 := b4 (by omega)
    have h2 := a3 e' b1 c
    omega
theorem eN_gt {L : Nat → Nat} {n p : Nat} (hp : p < n) : p < eN L n p := (eN_spec hp).1
theorem eN_le {L : Nat → Nat} {n p : Nat} (hp : p < n) : eN L n p ≤ n := (eN_spec hp).2.1
theorem eN_in {L : Nat → Nat} {n p q : Nat} (hp : p < n) (h1 : p < q) (h2 : q < eN L n p) : L p < L q := (eN_spec hp).2.2.1 q h1 h2
theorem eN_at {L : Nat → Nat} {n p : Nat} (hp : p < n) (h : eN L n p < n) : L (eN L n p) ≤ L p := (eN_spec hp).2.2.2 h
/-- a place with nothing lower between lies inside -/
theorem eN_of {L : Nat → Nat} {n p q : Nat} (hp : p < n) (h1 : p < q) (h2 : q < n) (h : ∀ r : Nat, p < r → r ≤ q → L p < L r) : q < eN L n p := by
  refine Decidable.byContradiction (fun c => ?_)
  have a := eN_at (L := L) hp (by omega)
  have b := h (eN L n p) (eN_gt hp) (by omega)
  omega
theorem eN_nest {L : Nat → Nat} {n p q : Nat} (hp : p < n) (h1 : p < q) (h2 : q < eN L n p) : eN L n q ≤ eN L n p := by
  have hq : q < n := Nat.lt_of_lt_of_le h2 (eN_le hp)
  refine Decidable.byContradiction (fun c => ?_)
  have hE := eN_le (L := L) hq
  have a := eN_in (L := L) hq (q := eN L n p) h2 (by omega)
  have b := eN_at (L := L) hp (by omega)
  have d := eN_in (L := L) hp h1 h2
  omega
theorem WL.mono {L : Nat → Nat} {n : Nat} (h : WL L n) {p : Nat} : ∀ {q : Nat}, p ≤ q → q < n → p + L q ≤ q + L p := by
  intro q
  induction q with
  | zero => intro h1 _; have : p = 0 := by omega
            subst this; omega
  | succ q ih =>
    intro h1 h2
    by_cases c : p = q + 1
    · subst c; omega
    · have a := ih (by omega) (by omega)
      have b := (h.2 q h2).2
      omega
theorem WL.le {L : Nat → Nat} {n : Nat} (h : WL L n) {p : Nat} (hp : p < n) : L p ≤ p := by
  have a := h.mono (p := 0) (q := p) (by omega) hp
  have b := h.1 (by omega)
  omega
/-- the place in postorder -/
def po (L : Nat → Nat) (n p : Nat) : Nat := eN L n p - 1 - L p
theorem po_add {L : Nat → Nat} {n p : Nat} (h : WL L n) (hp : p < n) : po L n p + 1 + L p = eN L n p := by
  have a := h.le hp
  have b := eN_gt (L := L) hp
  unfold po
  omega
theorem po_lt {L : Nat → Nat} {n p : Nat} (h : WL L n) (hp : p < n) : po L n p < n := by
  have a := po_add h hp
  have b := eN_le (L := L) hp
  omega
theorem po_anc {L : Nat → Nat} {n p q : Nat} (h : WL L n) (hp : p < n) (h1 : p < q) (h2 : q < eN L n p) : po L n q < po L n p := by
  have hq : q < n := Nat.lt_of_lt_of_le h2 (eN_le hp)
  have a := po_add h hp
  have b := po_add h hq
  have c := eN_nest hp h1 h2
  have d := eN_in hp h1 h2
  omega
/-- left of a subtree -/
theorem po_left {L : Nat → Nat} {n p q : Nat} (h : WL L n) (hp : p < n) (hq : q < n) (h2 : eN L n p ≤ q) : po L n p + L q < q := by
  have a := po_add h hp
  have b := h.mono (p := eN L n p) (q := q) h2 hq
  have c := eN_at (L := L) hp (by omega)
  omega
theorem po_right {L : Nat → Nat} {n p q : Nat} (h : WL L n) (hp : p < n) (hq : q < n) (h2 : eN L n p ≤ q) : po L n p < po L n q := by
  have a := po_left h hp hq h2
  have b := po_add h hq
  have c := eN_gt (L := L) hq
  omega
theorem po_inj {L : Nat → Nat} {n p q : Nat} (h : WL L n) (hp : p < n) (hq : q < n) (e : po L n p = po L n q) : p = q := by
  rcases Nat.lt_trichotomy p q with c | c | c
  · by_cases d : q < eN L n p
    · have := po_anc h hp c d; omega
    · have := po_right h hp hq (by omega); omega
  · exact c
  · by_cases d : p < eN L n q
    · have := po_anc h hq c d; omega
    · have := po_right h hq hp (by omega); omega
/-- the first place in postorder of a subtree -/
theorem po_first {L : Nat → Nat} {n p : Nat} (h : WL L n) (hp : p < n) : po L n p + 1 - (eN L n p - p) = p - L p := by
  have a := po_add h hp
  have b := h.le hp
  have c := eN_gt (L := L) hp
  omega
/-- below in postorder is below in the tree -/
theorem po_below {L : Nat → Nat} {n p q : Nat} (h : WL L n) (hp : p < n) (hq : q < n) : (p - L p ≤ po L n q ∧ po L n q < po L n p) ↔ (p < q ∧ q < eN L n p) := by
  have a := po_add h hp
  have b := po_add h hq
  have lp := h.le hp
  have lq := h.le hq
  have gp := eN_gt (L := L) hp
  have gq := eN_gt (L := L) hq
  constructor
  · intro ⟨h1, h2⟩
    rcases Nat.lt_trichotomy p q with c | c | c
    · refine ⟨c, Decidable.byContradiction (fun d => ?_)⟩
      have := po_right h hp hq (by omega)
      omega
    · subst c; omega
    · by_cases d : p < eN L n q
      · have := po_anc h hq c d; omega
      · have := po_left h hq hp (by omega); omega
  · intro ⟨h1, h2⟩
    refine ⟨?_, po_anc h hp h1 h2⟩
    have m := h.mono (p := p) (q := q) (by omega) hq
    omega
theorem pige : ∀ (n : Nat) (f : Nat → Nat), (∀ i : Nat, i < n → f i < n) → (∀ i j : Nat, i < n → j < n → f i = f j → i = j) → ∀ j : Nat, j < n → ∃ i : Nat, i < n ∧ f i = j := by
  intro n
  induction n with
  | zero => intro f _ _ j hj; omega
  | succ n ih =>
    intro f hf hi j hj
    have key : ∀ k : Nat, k < n → ∃ i : Nat, i < n ∧ (if f i = n then f n else f i) = k := by
      refine ih (fun i => if f i = n then f n else f i) (fun i h => ?_) (fun i k h1 h2 e => ?_)
      · change (if f i = n then f n else f i) < n
        have a := hf i (by omega)
        have b := hf n (by omega)
        split
        · have c : f n ≠ n := fun z => by
            have := hi i n (by omega) (by omega) (by omega)
            omega
          omega
        · omega
      · change (if f i = n then f n else f i) = (if f k = n then f n else f k) at e
        split at e
        · split at e
          · exact hi i k (by omega) (by omega) (by omega)
          · have := hi n k (by omega) (by omega) e
            omega
        · split at e
          · have := hi i n (by omega) (by omega) e
            omega
          · exact hi i k (by omega) (by omega) e
    by_cases c : j = f n
    · exact ⟨n, by omega, c.symm⟩
    · by_cases d : j < n
      · obtain ⟨i, h1, h2⟩ := key j d
        split at h2
        · omega
        · exact ⟨i, by omega, h2⟩
      · have e : j = n := by omega
        subst e
        have b := hf j (by omega)
        obtain ⟨i, h1, h2⟩ := key (f j) (by omega)
        split at h2
        · rename_i z
          exact ⟨i, by omega, z⟩
        · have := hi i j (by omega) (by omega) h2
          omega
theorem po_surj {L : Nat → Nat} {n : Nat} (h : WL L n) {j : Nat} (hj : j < n) : ∃ p : Nat, p < n ∧ po L n p = j := pige n (po L n) (fun _ hp => po_lt h hp) (fun _ _ hp hq e => po_inj h hp hq e) j hj
/-! parents -/
def pG (L : Nat → Nat) (p : Nat) : Nat → Nat
  | 0 => 0
  | q + 1 => if L q < L p then q else pG L p q
def par (L : Nat → Nat) (p : Nat) : Nat := pG L p p
theorem pG_spec (L : Nat → Nat) (p : Nat) : ∀ f : Nat, f ≤ p → (∀ r : Nat, f ≤ r → r < p → L p ≤ L r) → (∃ q : Nat, q < f ∧ L q < L p) → pG L p f < f ∧ L (pG L p f) < L p ∧ ∀ r : Nat, pG L p f < r → r < p → L p ≤ L r := by
  intro f
  induction f with
  | zero => intro _ _ ⟨q, hq, _⟩; omega
  | succ f ih =>
    intro h1 h2 ⟨q, hq, hl⟩
    unfold pG
    by_cases c : L f < L p
    · rw [if_pos c]
      exact ⟨by omega, c, fun r hr hr2 => h2 r (by omega) hr2⟩
    · rw [if_neg c]
      have a := ih (by omega) (fun r hr hr2 => by
        by_cases e : r = f
        · subst e; omega
        · exact h2 r (by omega) hr2) ⟨q, by
          by_cases e : q = f
          · subst e; omega
          · omega, hl⟩
      exact ⟨by omega, a.2⟩
theorem par_spec {L : Nat → Nat} {n p : Nat} (h : WL L n) (h0 : 0 < p) (hp : p < n) : par L p < p ∧ L (par L p) + 1 = L p ∧ ∀ r : Nat, par L p < r → r < p → L p ≤ L r := by
  have a1 : 1 ≤ L p := by
    have := (h.2 (p - 1) (by omega)).1
    rwa [show p - 1 + 1 = p from by omega] at this
  have a2 := h.1 (by omega)
  obtain ⟨b1, b2, b3⟩ := pG_spec L p p (Nat.le_refl _) (fun r h1 h2 => by omega) ⟨0, h0, by omega⟩
  refine ⟨b1, ?_, b3⟩
  change L (pG L p p) + 1 = L p
  have c := (h.2 (pG L p p) (by omega)).2
  by_cases e : pG L p p + 1 = p
  · rw [e] at c; omega
  · have d := b3 (pG L p p + 1) (by omega) (by omega)
    omega
theorem par_uniq {L : Nat → Nat} {n p q : Nat} (h : WL L n) (hp : p < n) (h1 : q < p) (h2 : L q < L p) (h3 : ∀ r : Nat, q < r → r < p → L p ≤ L r) : par L p = q := by
  obtain ⟨b1, b2, b3⟩ := par_spec h (by omega) hp
  rcases Nat.lt_trichotomy (par L p) q with c | c | c
  · have := b3 q c h1; omega
  · exact c
  · have := h3 (par L p) c b1; omega
theorem par_in {L : Nat → Nat} {n p : Nat} (h : WL L n) (h0 : 0 < p) (hp : p < n) : p < eN L n (par L p) := by
  obtain ⟨b1, b2, b3⟩ := par_spec h h0 hp
  refine eN_of (by omega) b1 hp (fun r h1 h2 => ?_)
  by_cases e : r = p
  · subst e; omega
  · have := b3 r h1 (by omega); omega
/-- the children of a place are those of its subtree that are one level down -/
theorem par_iff {L : Nat → Nat} {n a p : Nat} (h : WL L n) (ha : a < n) (h1 : a < p) (h2 : p < eN L n a) : par L p = a ↔ L p = L a + 1 := by
  have hp : p < n := Nat.lt_of_lt_of_le h2 (eN_le ha)
  constructor
  · intro e
    have := (par_spec h (by omega) hp).2.1
    rw [e] at this
    omega
  · intro e
    refine par_uniq h hp h1 (by omega) (fun r h3 h4 => ?_)
    have := eN_in (L := L) ha h3 (by omega)
    omega
theorem par_key {L : Nat → Nat} {n p : Nat} (h : WL L n) (h0 : 0 < p) (hp : p < n) : p = par L p + 1 ↔ L (p - 1) < L p := by
  obtain ⟨b1, b2, b3⟩ := par_spec h h0 hp
  constructor
  · intro e
    rw [show p - 1 = par L p from by omega]
    omega
  · intro e
    have := par_uniq h hp (q := p - 1) (by omega) e (fun r h1 h2 => by omega)
    omega
/-! rows of places -/
def rg (i j : Nat) : List Nat := List.range' i (j - i)
theorem rg_nil {i j : Nat} (h : j ≤ i) : rg i j = [] := by
  unfold rg
  rw [show j - i = 0 from by omega]
  rfl
theorem rg_cons {i j : Nat} (h : i < j) : rg i j = i :: rg (i + 1) j := by
  unfold rg
  rw [show j - i = (j - (i + 1)) + 1 from by omega]
  rfl
theorem rg_len (i j : Nat) : (rg i j).length = j - i := by
  unfold rg
  simp
theorem mem_rg {i j z : Nat} : z ∈ rg i j ↔ i ≤ z ∧ z < j := by
  unfold rg
  rw [List.mem_range'_1]
  omega
theorem rg_lt : ∀ (k i j b : Nat), j - i ≤ k → (rg i j).filter (fun z => decide (z < b)) = rg i (min b j) := by
  intro k
  induction k with
  | zero =>
    intro i j b h
    rw [rg_nil (by omega), rg_nil (by omega)]
    rfl
  | succ k ih =>
    intro i j b h
    by_cases c : i < j
    · rw [rg_cons c]
      by_cases d : i < b
      · rw [List.filter_cons_of_pos (by simpa using d), ih (i + 1) j b (by omega), rg_cons (i := i) (j := min b j) (by omega)]
      · rw [List.filter_cons_of_neg (by simpa using d), ih (i + 1) j b (by omega), rg_nil (by omega), rg_nil (by omega)]
    · rw [rg_nil (by omega), rg_nil (by omega)]
      rfl
theorem rg_ge : ∀ (k i j b : Nat), j - i ≤ k → i ≤ b → (rg i j).filter (fun z => !decide (z < b)) = rg (min b j) j := by
  intro k
  induction k with
  | zero =>
    intro i j b h _
    rw [rg_nil (by omega), rg_nil (by omega)]
    rfl
  | succ k ih =>
    intro i j b h hb
    by_cases c : i < j
    · rw [rg_cons c]
      by_cases d : i < b
      · rw [List.filter_cons_of_neg (by simp [d]), ih (i + 1) j b (by omega) (by omega)]
      · have e : i = b := by omega
        subst e
        rw [List.filter_cons_of_pos (by simp), show min i j = i from by omega, rg_cons c]
        refine congrArg _ ?_
        refine List.filter_eq_self.mpr (fun z hz => ?_)
        have := mem_rg.mp hz
        simp
        omega
    · rw [rg_nil (by omega), rg_nil (by omega)]
      rfl
theorem rg_app {i j k : Nat} (h1 : i ≤ j) (h2 : j ≤ k) : rg i k = rg i j ++ rg j k := by
  unfold rg
  have h := List.range'_append_1 (s := i) (m := j - i) (n := k - j)
  rw [show i + (j - i) = j from by omega, show j - i + (k - j) = k - i from by omega] at h
  exact h.symm
theorem rg_nodup (i j : Nat) : (rg i j).Nodup := List.nodup_range'
theorem rg_srt (i j : Nat) : (rg i j).Pairwise (fun u v => u < v) := List.pairwise_lt_range'
/-- the same row, its last place first -/
def rr (a b : Nat) : List Nat := (rg a b).reverse
theorem rr_nil {a b : Nat} (h : b ≤ a) : rr a b = [] := by
  unfold rr
  rw [rg_nil h]
  rfl
theorem rr_cons {a b : Nat} (h : a < b) : rr a b = (b - 1) :: rr a (b - 1) := by
  unfold rr
  rw [rg_app (i := a) (j := b - 1) (k := b) (by omega) (by omega), rg_cons (i := b - 1) (j := b) (by omega), rg_nil (i := b - 1 + 1) (j := b) (by omega), List.reverse_append]
  rfl
theorem mem_rr {a b z : Nat} : z ∈ rr a b ↔ a ≤ z ∧ z < b := by
  unfold rr
  rw [List.mem_reverse]
  exact mem_rg
theorem rr_len (a b : Nat) : (rr a b).length = b - a := by
  unfold rr
  rw [List.length_reverse, rg_len]
theorem rr_nodup (a b : Nat) : (rr a b).Nodup := List.pairwise_reverse.mpr ((rg_nodup a b).imp (fun h => h.symm))
theorem rr_in {a x f : Nat} (h1 : a ≤ f) (h2 : f ≤ x) : (rr a x).filter (fun z => decide (f ≤ z ∧ z < x)) = rr f x := by
  have e : (rr a x).filter (fun z => decide (f ≤ z ∧ z < x)) = (rr a x).filter (fun z => !decide (z < f)) := List.filter_congr (fun z hz => by
    have := mem_rr.mp hz
    by_cases c : z < f
    · simp [c]; omega
    · simp [c]; omega)
  rw [e]
  unfold rr
  rw [List.filter_reverse, rg_ge _ a x f (Nat.le_refl _) h1, show min f x = f from by omega]
theorem rr_out {a x f : Nat} (h1 : a ≤ f) (h2 : f ≤ x) : (rr a x).filter (fun z => !decide (f ≤ z ∧ z < x)) = rr a f := by
  have e : (rr a x).filter (fun z => !decide (f ≤ z ∧ z < x)) = (rr a x).filter (fun z => decide (z < f)) := List.filter_congr (fun z hz => by
    have := mem_rr.mp hz
    by_cases c : z < f
    · simp [c]
    · simp [c]; omega)
  rw [e]
  unfold rr
  rw [List.filter_reverse, rg_lt _ a x f (Nat.le_refl _), show min f x = f from by omega]
/-! least costs of two rows of places -/
def ccE (e0 e1 : Nat → Nat) (dl il : Nat → Int) (pr : Nat → Nat → Int) : CP := (fun u v => decide (u < v ∧ v < e0 u), fun u v => decide (u < v ∧ v < e1 u), dl, il, pr)
def ccF (f g : Nat → Nat) (dl il : Nat → Int) (pr : Nat → Nat → Int) : CP := (fun u v => decide (f u ≤ v ∧ v < u), fun u v => decide (g u ≤ v ∧ v < u), dl, il, pr)
theorem fE_in {e : Nat → Nat} {i j : Nat} (h : i < e i) : (rg (i + 1) j).filter (fun v => decide (i < v ∧ v < e i)) = rg (i + 1) (min (e i) j) := by
  rw [← rg_lt _ (i + 1) j (e i) (Nat.le_refl _)]
  refine List.filter_congr (fun z hz => ?_)
  have := mem_rg.mp hz
  by_cases c : z < e i
  · simp [c]; omega
  · simp [c]
theorem fE_out {e : Nat → Nat} {i j : Nat} (h : i < e i) : (rg (i + 1) j).filter (fun v => !decide (i < v ∧ v < e i)) = rg (min (e i) j) j := by
  rw [← rg_ge _ (i + 1) j (e i) (Nat.le_refl _) h]
  refine List.filter_congr (fun z hz => ?_)
  have := mem_rg.mp hz
  by_cases c : z < e i
  · simp [c]; omega
  · simp [c]
theorem E_cc {e0 e1 : Nat → Nat} {dl il : Nat → Int} {pr : Nat → Nat → Int} {i j k l : Nat} (h1 : i < j) (h2 : k < l) (h3 : i < e0 i) (h4 : k < e1 k) : dd (ccE e0 e1 dl il pr) (rg i j) (rg k l) = min (min (dl i + dd (ccE e0 e1 dl il pr) (rg (i + 1) j) (rg k l)) (il k + dd (ccE e0 e1 dl il pr) (rg i j) (rg (k + 1) l))) (pr i k + dd (ccE e0 e1 dl il pr) (rg (i + 1) (min (e0 i) j)) (rg (k + 1) (min (e1 k) l)) + dd (ccE e0 e1 dl il pr) (rg (min (e0 i) j) j) (rg (min (e1 k) l) l)) := by
  rw [rg_cons h1, rg_cons h2, dd_cc]
  simp only [ccE]
  rw [fE_in h3, fE_in h4, fE_out h3, fE_out h4]
theorem F_cc {f g : Nat → Nat} {dl il : Nat → Int} {pr : Nat → Nat → Int} {a b c d : Nat} (h1 : a < b) (h2 : c < d) (h3 : a ≤ f (b - 1)) (h4 : f (b - 1) ≤ b - 1) (h5 : c ≤ g (d - 1)) (h6 : g (d - 1) ≤ d - 1) : dd (ccF f g dl il pr) (rr a b) (rr c d) = min (min (dl (b - 1) + dd (ccF f g dl il pr) (rr a (b - 1)) (rr c d)) (il (d - 1) + dd (ccF f g dl il pr) (rr a b) (rr c (d - 1)))) (pr (b - 1) (d - 1) + dd (ccF f g dl il pr) (rr (f (b - 1)) (b - 1)) (rr (g (d - 1)) (d - 1)) + dd (ccF f g dl il pr) (rr a (f (b - 1))) (rr c (g (d - 1)))) := by
  rw [rr_cons h1, rr_cons h2, dd_cc]
  simp only [ccF]
  rw [rr_in h3 h4, rr_in h5 h6, rr_out h3 h4, rr_out h5 h6]
