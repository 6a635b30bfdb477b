/-! different subtrees: counted in any order -/
noncomputable def cf (R : Nat → Nat → Prop) : List Nat → Int
  | [] => 0
  | x :: l => cf R l + (if bo (∃ y : Nat, y ∈ l ∧ R y x) = true then 0 else 1)
theorem cf_0 {R : Nat → Nat → Prop} {x : Nat} {l : List Nat} (h : ∃ y : Nat, y ∈ l ∧ R y x) : cf R (x :: l) = cf R l := by
  rw [cf, if_pos (bo_iff.mpr h)]
  omega
theorem cf_1 {R : Nat → Nat → Prop} {x : Nat} {l : List Nat} (h : ¬ ∃ y : Nat, y ∈ l ∧ R y x) : cf R (x :: l) = cf R l + 1 := by
  rw [cf, if_neg (fun z => h (bo_iff.mp z))]
theorem cf_perm {R : Nat → Nat → Prop} (hs : ∀ x y : Nat, R x y → R y x) (ht : ∀ x y z : Nat, R x y → R y z → R x z) {l1 l2 : List Nat} (h : List.Perm l1 l2) : cf R l1 = cf R l2 := by
  induction h with
  | nil => rfl
  | cons x h ih =>
    rename_i a b
    by_cases c : ∃ y : Nat, y ∈ a ∧ R y x
    · have c2 : ∃ y : Nat, y ∈ b ∧ R y x := by
        obtain ⟨y, h1, h2⟩ := c
        exact ⟨y, h.mem_iff.mp h1, h2⟩
      rw [cf_0 c, cf_0 c2, ih]
    · have c2 : ¬ ∃ y : Nat, y ∈ b ∧ R y x := fun ⟨y, h1, h2⟩ => c ⟨y, h.mem_iff.mpr h1, h2⟩
      rw [cf_1 c, cf_1 c2, ih]
  | swap x y l =>
    by_cases r : R x y
    · have e : cf R (y :: x :: l) = cf R (x :: l) := cf_0 ⟨x, List.mem_cons_self, r⟩
      have e2 : cf R (x :: y :: l) = cf R (y :: l) := cf_0 ⟨y, List.mem_cons_self, hs _ _ r⟩
      rw [e, e2]
      by_cases c : ∃ z : Nat, z ∈ l ∧ R z x
      · obtain ⟨z, h1, h2⟩ := c
        rw [cf_0 ⟨z, h1, h2⟩, cf_0 ⟨z, h1, ht _ _ _ h2 r⟩]
      · have c2 : ¬ ∃ z : Nat, z ∈ l ∧ R z y := fun ⟨z, h1, h2⟩ => c ⟨z, h1, ht _ _ _ h2 (hs _ _ r)⟩
        rw [cf_1 c, cf_1 c2]
    · have n1 : ∀ z : Nat, (∃ w : Nat, w ∈ z :: l ∧ True) → True := fun _ _ => trivial
      have k1 : (∃ z : Nat, z ∈ x :: l ∧ R z y) ↔ ∃ z : Nat, z ∈ l ∧ R z y := by
        constructor
        · intro ⟨z, h1, h2⟩
          rcases List.mem_cons.mp h1 with h1 | h1
          · subst h1
            exact absurd h2 r
          · exact ⟨z, h1, h2⟩
        · intro ⟨z, h1, h2⟩
          exact ⟨z, List.mem_cons_of_mem _ h1, h2⟩
      have k2 : (∃ z : Nat, z ∈ y :: l ∧ R z x) ↔ ∃ z : Nat, z ∈ l ∧ R z x := by
        constructor
        · intro ⟨z, h1, h2⟩
          rcases List.mem_cons.mp h1 with h1 | h1
          · subst h1
            exact absurd (hs _ _ h2) r
          · exact ⟨z, h1, h2⟩
        · intro ⟨z, h1, h2⟩
          exact ⟨z, List.mem_cons_of_mem _ h1, h2⟩
      by_cases c : ∃ z : Nat, z ∈ l ∧ R z x
      · by_cases d : ∃ z : Nat, z ∈ l ∧ R z y
        · rw [cf_0 (k1.mpr d), cf_0 (k2.mpr c), cf_0 c, cf_0 d]
        · rw [cf_1 (fun z => d (k1.mp z)), cf_0 (k2.mpr c), cf_0 c, cf_1 d]
      · by_cases d : ∃ z : Nat, z ∈ l ∧ R z y
        · rw [cf_0 (k1.mpr d), cf_1 (fun z => c (k2.mp z)), cf_1 c, cf_0 d]
        · rw [cf_1 (fun z => d (k1.mp z)), cf_1 (fun z => c (k2.mp z)), cf_1 c, cf_1 d]
  | trans _ _ ih1 ih2 => exact ih1.trans ih2
theorem cf_set {R : Nat → Nat → Prop} (hs : ∀ x y : Nat, R x y → R y x) (ht : ∀ x y z : Nat, R x y → R y z → R x z) : ∀ (l1 l2 : List Nat), l1.Nodup → l2.Nodup → (∀ x : Nat, x ∈ l1 ↔ x ∈ l2) → cf R l1 = cf R l2 := by
  intro l1
  induction l1 with
  | nil =>
    intro l2 _ _ h
    cases l2 with
    | nil => rfl
    | cons y l => exact absurd ((h y).mpr List.mem_cons_self) List.not_mem_nil
  | cons x l1 ih =>
    intro l2 n1 n2 h
    obtain ⟨s, t, e⟩ := List.append_of_mem ((h x).mp List.mem_cons_self)
    subst e
    have n1' := List.nodup_cons.mp n1
    have pr : List.Perm (s ++ x :: t) (x :: (s ++ t)) := List.perm_middle
    have n2' : (x :: (s ++ t)).Nodup := by
      have a := List.pairwise_append.mp n2
      have b := List.pairwise_cons.mp a.2.1
      refine List.pairwise_cons.mpr ⟨fun y hy => ?_, List.pairwise_append.mpr ⟨a.1, b.2, fun u hu v hv => a.2.2 u hu v (List.mem_cons_of_mem _ hv)⟩⟩
      rcases List.mem_append.mp hy with hy | hy
      · exact fun z => a.2.2 y hy x List.mem_cons_self z.symm
      · exact b.1 y hy
    have n2c := List.nodup_cons.mp n2'
    rw [cf_perm hs ht pr]
    have m : ∀ y : Nat, y ∈ l1 ↔ y ∈ s ++ t := fun y => by
      have a := h y
      rw [pr.mem_iff, List.mem_cons, List.mem_cons] at a
      constructor
      · intro hy
        rcases a.mp (Or.inr hy) with d | d
        · exact absurd (d ▸ hy) n1'.1
        · exact d
      · intro hy
        rcases a.mpr (Or.inr hy) with d | d
        · exact absurd (d ▸ hy) n2c.1
        · exact d
    have e := ih (s ++ t) n1'.2 n2c.2 m
    by_cases c : ∃ y : Nat, y ∈ l1 ∧ R y x
    · have c2 : ∃ y : Nat, y ∈ s ++ t ∧ R y x := by
        obtain ⟨y, h1, h2⟩ := c
        exact ⟨y, (m y).mp h1, h2⟩
      rw [cf_0 c, cf_0 c2, e]
    · have c2 : ¬ ∃ y : Nat, y ∈ s ++ t ∧ R y x := fun ⟨y, h1, h2⟩ => c ⟨y, (m y).mpr h1, h2⟩
      rw [cf_1 c, cf_1 c2, e]
/-- rows laid by steps -/
def lr (f : Nat → Nat) (b : List Nat) : Nat → List Nat
  | 0 => b
  | k + 1 => f k :: lr f b k
theorem lr_mem {f : Nat → Nat} {b : List Nat} {z : Nat} : ∀ k : Nat, z ∈ lr f b k ↔ z ∈ b ∨ ∃ i : Nat, i < k ∧ z = f i := by
  intro k
  induction k with
  | zero => exact ⟨Or.inl, fun h => h.elim id (fun ⟨i, h, _⟩ => absurd h (Nat.not_lt_zero _))⟩
  | succ k ih =>
    unfold lr
    rw [List.mem_cons, ih]
    constructor
    · intro h
      rcases h with h | h | ⟨i, h1, h2⟩
      · exact Or.inr ⟨k, by omega, h⟩
      · exact Or.inl h
      · exact Or.inr ⟨i, by omega, h2⟩
    · intro h
      rcases h with h | ⟨i, h1, h2⟩
      · exact Or.inr (Or.inl h)
      · by_cases c : i = k
        · subst c
          exact Or.inl h2
        · exact Or.inr (Or.inr ⟨i, by omega, h2⟩)
theorem lr_nd {f : Nat → Nat} {b : List Nat} (hb : b.Nodup) : ∀ k : Nat, (∀ i j : Nat, i < k → j < k → f i = f j → i = j) → (∀ i : Nat, i < k → f i ∉ b) → (lr f b k).Nodup := by
  intro k
  induction k with
  | zero => intro _ _; exact hb
  | succ k ih =>
    intro h1 h2
    unfold lr
    refine List.nodup_cons.mpr ⟨fun h => ?_, ih (fun i j a b => h1 i j (by omega) (by omega)) (fun i a => h2 i (by omega))⟩
    rcases (lr_mem k).mp h with h | ⟨i, a, e⟩
    · exact h2 k (by omega) h
    · have := h1 k i (by omega) (by omega) e
      omega
def ml (v : Nat → Bool) : Nat → List Nat
  | 0 => []
  | k + 1 => if v k = true then k :: ml v k else ml v k
theorem ml_mem {v : Nat → Bool} {z : Nat} : ∀ k : Nat, z ∈ ml v k ↔ z < k ∧ v z = true := by
  intro k
  induction k with
  | zero => exact ⟨fun h => absurd h List.not_mem_nil, fun h => absurd h.1 (Nat.not_lt_zero _)⟩
  | succ k ih =>
    unfold ml
    split
    · rw [List.mem_cons, ih]
      rename_i c
      constructor
      · intro h
        rcases h with h | h
        · subst h
          exact ⟨by omega, c⟩
        · exact ⟨by omega, h.2⟩
      · intro h
        by_cases d : z = k
        · exact Or.inl d
        · exact Or.inr ⟨by omega, h.2⟩
    · rw [ih]
      rename_i c
      constructor
      · intro h
        exact ⟨by omega, h.2⟩
      · intro h
        have : z ≠ k := fun y => c (y ▸ h.2)
        exact ⟨by omega, h.2⟩
theorem ml_nd {v : Nat → Bool} : ∀ k : Nat, (ml v k).Nodup := by
  intro k
  induction k with
  | zero => exact List.nodup_nil
  | succ k ih =>
    unfold ml
    split
    · refine List.nodup_cons.mpr ⟨fun h => ?_, ih⟩
      have := ((ml_mem k).mp h).1
      omega
    · exact ih
section DIFF
variable {C : Nat → Nat → Int}
def SR (C : Nat → Nat → Int) (i j : Nat) : Prop := Sm C (i / 12) (i % 12) (j / 12) (j % 12)
def va (C : Nat → Nat → Int) (k : Nat) : Bool := decide (k % 12 < cn C (k / 12))
/-- a node's place, as the reference numbers places -/
def pcd (C : Nat → Nat → Int) (t x : Nat) : Nat := 12 * t + fG (nd C t) x (cn C t)
theorem Sm_sym {t a u b : Nat} (h : Sm C t a u b) : Sm C u b t a := by
  obtain ⟨h1, h2⟩ := h
  refine ⟨h1.symm, fun k hk => ?_⟩
  obtain ⟨a1, a2, a3⟩ := h2 k (by omega)
  exact ⟨a1.symm, a2.symm, a3.symm⟩
theorem Sm_trans {t a u b v c : Nat} (h : Sm C t a u b) (h' : Sm C u b v c) : Sm C t a v c := by
  refine ⟨h.1.trans h'.1, fun k hk => ?_⟩
  obtain ⟨a1, a2, a3⟩ := h.2 k hk
  obtain ⟨b1, b2, b3⟩ := h'.2 k (by have := h.1; omega)
  exact ⟨a1.trans b1, a2.trans b2, a3.trans b3⟩
theorem pcd_spec (hW : WF C) {t x : Nat} (ht : t < 2) (hx : x < cn C t) : ∃ p : Nat, p < cn C t ∧ nd C t p = x ∧ pcd C t x = 12 * t + p ∧ pcd C t x / 12 = t ∧ pcd C t x % 12 = p := by
  have a := fG_spec (nd C t) x (cn C t) (hW.surj ht hx)
  have n12 := hW.n12 ht
  refine ⟨_, a.1, a.2, rfl, ?_, ?_⟩ <;> unfold pcd <;> omega
theorem pcd_nd (hW : WF C) {t p : Nat} (ht : t < 2) (hp : p < cn C t) : pcd C t (nd C t p) = 12 * t + p := by
  obtain ⟨q, hq, e, e2, _⟩ := pcd_spec hW ht (hW.ndl ht hp)
  rw [e2, hW.inj ht hq hp e]
/-- the two ways of counting -/
theorem cf_both (hW : WF C) : cf (SR C) (lr (pcd C 1) (lr (pcd C 0) [] (cn C 0)) (cn C 1)) = cf (SR C) (ml (va C) 24) := by
  have n0 := hW.n12 (t := 0) (by omega)
  have n1 := hW.n12 (t := 1) (by omega)
  refine cf_set (R := SR C) (fun x y h => Sm_sym (C := C) h) (fun x y z h h2 => Sm_trans (C := C) h h2) _ _ (lr_nd (lr_nd List.nodup_nil _ (fun i j hi hj e => ?_) (fun _ _ h => absurd h List.not_mem_nil)) _ (fun i j hi hj e => ?_) (fun i hi h => ?_)) (ml_nd _) (fun z => ?_)
  · obtain ⟨p, _, a, b, _⟩ := pcd_spec hW (t := 0) (by omega) hi
    obtain ⟨q, _, a', b', _⟩ := pcd_spec hW (t := 0) (by omega) hj
    have : p = q := by omega
    rw [← a, ← a', this]
  · obtain ⟨p, _, a, b, _⟩ := pcd_spec hW (t := 1) (by omega) hi
    obtain ⟨q, _, a', b', _⟩ := pcd_spec hW (t := 1) (by omega) hj
    have : p = q := by omega
    rw [← a, ← a', this]
  · rcases (lr_mem _).mp h with h | ⟨j, hj, e⟩
    · exact absurd h List.not_mem_nil
    · obtain ⟨p, _, a, b, _⟩ := pcd_spec hW (t := 1) (by omega) hi
      obtain ⟨q, hq, a', b', _⟩ := pcd_spec hW (t := 0) (by omega) hj
      omega
  · rw [lr_mem, lr_mem, ml_mem]
    constructor
    · intro h
      rcases h with (h | ⟨i, hi, e⟩) | ⟨i, hi, e⟩
      · exact absurd h List.not_mem_nil
      · obtain ⟨p, hp, a, b, c, d⟩ := pcd_spec hW (t := 0) (by omega) hi
        rw [← e] at c d b
        refine ⟨by omega, decide_eq_true ?_⟩
        rw [c, d]
        exact hp
      · obtain ⟨p, hp, a, b, c, d⟩ := pcd_spec hW (t := 1) (by omega) hi
        rw [← e] at c d b
        refine ⟨by omega, decide_eq_true ?_⟩
        rw [c, d]
        exact hp
    · intro ⟨h1, h2⟩
      have h3 : z % 12 < cn C (z / 12) := of_decide_eq_true h2
      by_cases c : z / 12 = 0
      · rw [c] at h3
        refine Or.inl (Or.inr ⟨nd C 0 (z % 12), hW.ndl (by omega) h3, ?_⟩)
        rw [pcd_nd hW (by omega) h3]
        omega
      · have c1 : z / 12 = 1 := by omega
        rw [c1] at h3
        refine Or.inr ⟨nd C 1 (z % 12), hW.ndl (by omega) h3, ?_⟩
        rw [pcd_nd hW (by omega) h3]
        omega
theorem cf_bd {R : Nat → Nat → Prop} : ∀ l : List Nat, 0 ≤ cf R l ∧ cf R l ≤ l.length := by
  intro l
  induction l with
  | nil => exact ⟨Int.le_refl _, Int.le_refl _⟩
  | cons x l ih =>
    rw [cf, List.length_cons]
    split <;> omega
theorem SR_pcd (hW : WF C) {t p k : Nat} (ht : t < 2) (hp : p < cn C t) : SR C k (12 * t + p) ↔ Sm C (k / 12) (k % 12) t p := by
  have n12 := hW.n12 ht
  unfold SR
  rw [show (12 * t + p) / 12 = t from by omega, show (12 * t + p) % 12 = p from by omega]
theorem ml_len {v : Nat → Bool} : ∀ k : Nat, (ml v k).length ≤ k := by
  intro k
  induction k with
  | zero => exact Nat.le_refl _
  | succ k ih =>
    unfold ml
    split
    · rw [List.length_cons]
      omega
    · omega
theorem ag_differentSubtrees (hW : WF C) : Agree nm0 0 (-2000000) 2000000 C (fun M Q _ => wp_X10_differentSubtrees M Q) (fun M Q => wp_X11_differentSubtrees M Q) := by
  have n0 := hW.n12 (t := 0) (by omega)
  have n1 := hW.n12 (t := 1) (by omega)
  have ln := ml_len (v := va C) 24
  have cb := cf_bd (R := SR C) (ml (va C) 24)
  refine agree_q (cf (SR C) (ml (va C) 24)) hW (fun M Q XQ hI hB h => ?_) (fun M Q hC hB h => ?_)
  · have hX := hI.1
    unfold wp_X10_differentSubtrees
    refine ⟨fun n x3 x4 M1 => ∃ a : Nat, x4 = (a : Int) ∧ a ≤ cn C 0 ∧ n = 50 - a ∧ M = M1 ∧ x3 = cf (SR C) (lr (pcd C 0) [] a), fun n x3 x4 M1 => ∃ b : Nat, x4 = (b : Int) ∧ b ≤ cn C 1 ∧ n = 20 - b ∧ M = M1 ∧ x3 = cf (SR C) (lr (pcd C 1) (lr (pcd C 0) [] (cn C 0)) b), ?_, ?_, ?_⟩
    · exact ⟨_, 0, rfl, Nat.zero_le _, rfl, rfl, rfl⟩
    · intro n x3 x4 M1 ⟨a, e4, ha, hn, eM, e3⟩
      subst e4; subst eM; subst e3
      unfold wph_X10_differentSubtrees_21 wpj_X10_differentSubtrees_45
      rw [hX.n (t := 0) (o := 11) rfl (by omega)]
      refine ⟨⟨by omega, by omega⟩, ⟨by omega, by omega⟩, fun z => ⟨20, by omega, 0, rfl, Nat.zero_le _, rfl, rfl, ?_⟩, fun z => ?_⟩
      · rw [show a = cn C 0 from by omega]
        rfl
      · obtain ⟨p, hp, ep, ec, _⟩ := pcd_spec hW (t := 0) (x := a) (by omega) (by omega)
        refine sp_occurs (t := 0) (u := 0) (m := a) hW hX hB rfl rfl (by omega) (by omega) ha hp rfl (by rw [ep]) (fun v h1 h2 => ?_)
        have iff : v = 1 ↔ ∃ y : Nat, y ∈ lr (pcd C 0) [] a ∧ SR C y (pcd C 0 a) := by
          rw [h2, ec]
          constructor
          · intro ⟨q, hq, l, s⟩
            refine ⟨pcd C 0 (nd C 0 q), (lr_mem _).mpr (Or.inr ⟨_, l, rfl⟩), (SR_pcd hW (by omega) hp).mpr ?_⟩
            rw [pcd_nd hW (by omega) hq, show (12 * 0 + q) / 12 = 0 from by omega, show (12 * 0 + q) % 12 = q from by omega]
            exact s
          · intro ⟨y, hy, s⟩
            rcases (lr_mem _).mp hy with hy | ⟨i, hi, e⟩
            · exact absurd hy List.not_mem_nil
            · obtain ⟨q, hq, eq, eqc, d1, d2⟩ := pcd_spec hW (t := 0) (x := i) (by omega) (by omega)
              have s2 := (SR_pcd hW (by omega) hp).mp s
              rw [e, d1, d2] at s2
              exact ⟨q, hq, by omega, s2⟩
        refine ⟨by rcases h1 with rfl | rfl; exact r01.1; exact r01.2, fun w => ⟨50 - (a + 1), by omega, a + 1, by omega, by omega, rfl, rfl, ?_⟩, fun w => ⟨50 - (a + 1), by omega, a + 1, by omega, by omega, rfl, rfl, ?_⟩⟩
        · exact (cf_0 (iff.mp (by omega))).symm
        · exact (cf_1 (fun y => by have := iff.mpr y; omega)).symm
    · intro n x3 x4 M1 ⟨b, e4, hb, hn, eM, e3⟩
      subst e4; subst eM; subst e3
      unfold wph_X10_differentSubtrees_54 wpj_X10_differentSubtrees_92
      rw [hX.n (t := 1) (o := 12) rfl (by omega)]
      refine ⟨⟨by omega, by omega⟩, ⟨by omega, by omega⟩, fun z => ?_, fun z => ?_⟩
      · rw [show b = cn C 1 from by omega, cf_both hW]
        exact h M Fr.rf hB hI
      · obtain ⟨p, hp, ep, ec, _⟩ := pcd_spec hW (t := 1) (x := b) (by omega) (by omega)
        rw [hX.n (t := 0) (o := 11) rfl (by omega)]
        refine sp_occurs (t := 0) (u := 1) (m := cn C 0) hW hX hB rfl rfl (by omega) (by omega) (Nat.le_refl _) hp rfl (by rw [ep]) (fun v h1 h2 => ⟨by rcases h1 with rfl | rfl; exact r01.1; exact r01.2, fun w => ⟨20 - (b + 1), by omega, b + 1, by omega, by omega, rfl, rfl, ?_⟩, fun w => ?_⟩)
        · obtain ⟨q, hq, l, s⟩ := h2.mp (by omega)
          refine (cf_0 ⟨pcd C 0 (nd C 0 q), (lr_mem _).mpr (Or.inl ((lr_mem _).mpr (Or.inr ⟨_, l, rfl⟩))), ?_⟩).symm
          rw [ec, SR_pcd hW (by omega) hp, pcd_nd hW (by omega) hq, show (12 * 0 + q) / 12 = 0 from by omega, show (12 * 0 + q) % 12 = q from by omega]
          exact s
        · refine sp_occurs (t := 1) (u := 1) (m := b) hW hX hB rfl rfl (by omega) (by omega) hb hp rfl (by rw [ep]) (fun v' h1' h2' => ⟨by rcases h1' with rfl | rfl; exact r01.1; exact r01.2, fun w' => ⟨20 - (b + 1), by omega, b + 1, by omega, by omega, rfl, rfl, ?_⟩, fun w' => ⟨20 - (b + 1), by omega, b + 1, by omega, by omega, rfl, rfl, ?_⟩⟩)
          · obtain ⟨q, hq, l, s⟩ := h2'.mp (by omega)
            refine (cf_0 ⟨pcd C 1 (nd C 1 q), (lr_mem _).mpr (Or.inr ⟨_, l, rfl⟩), ?_⟩).symm
            rw [ec, SR_pcd hW (by omega) hp, pcd_nd hW (by omega) hq, show (12 * 1 + q) / 12 = 1 from by omega, show (12 * 1 + q) % 12 = q from by omega]
            exact s
          · refine (cf_1 (fun ⟨y, hy, s⟩ => ?_)).symm
            rw [ec, SR_pcd hW (by omega) hp] at s
            rcases (lr_mem _).mp hy with hy | ⟨i, hi, e⟩
            · rcases (lr_mem _).mp hy with hy | ⟨i, hi, e⟩
              · exact absurd hy List.not_mem_nil
              · obtain ⟨q, hq, eq, eqc, d1, d2⟩ := pcd_spec hW (t := 0) (x := i) (by omega) hi
                rw [e, d1, d2] at s
                have := h2.mpr ⟨q, hq, by omega, s⟩
                omega
            · obtain ⟨q, hq, eq, eqc, d1, d2⟩ := pcd_spec hW (t := 1) (x := i) (by omega) (by omega)
              rw [e, d1, d2] at s
              have := h2'.mpr ⟨q, hq, by omega, s⟩
              omega
  · unfold wp_X11_differentSubtrees
    refine ⟨fun n x1 x2 M1 => ∃ k : Nat, x2 = (k : Int) ∧ k ≤ 24 ∧ n = 100 * (24 - k) + 90 ∧ (Fr Pm M M1 ∧ Bd M1 ∧ Core C M1 ∧ Sz C M1 ∧ M1 13 23 0 = 0) ∧ x1 = cf (SR C) (ml (va C) k), fun n x1 x2 x3 x4 M1 => ∃ k i : Nat, x2 = (k : Int) ∧ x4 = (i : Int) ∧ k < 24 ∧ i ≤ k ∧ n = 100 * (24 - k) + 50 - i ∧ (Fr Pm M M1 ∧ Bd M1 ∧ Core C M1 ∧ Sz C M1 ∧ M1 13 23 0 = 0) ∧ x1 = cf (SR C) (ml (va C) k) ∧ (x3 = 0 ∨ x3 = 1) ∧ (x3 = 1 ↔ va C k = true ∧ ∀ j : Nat, j < i → va C j = true → ¬ SR C j k), ?_, ?_, ?_⟩
    · unfold wpe_X11_differentSubtrees
      exact thr0 hC hB (fun M1 F1 B1 C1 e1 => sp_measures hW C1 B1 (fun M2 F2 B2 S2 => ⟨_, 0, rfl, by omega, rfl, ⟨(Pg_m F1).tr (P4_m F2), B2, C1.z F2, S2, (F2 13 23 0 rfl).trans e1⟩, rfl⟩))
    · intro n x1 x2 M1 ⟨k, e2, hk, hn, G, e1⟩
      subst e2; subst e1
      obtain ⟨F1, B1, C1, S1, t1⟩ := G
      unfold wph_X11_differentSubtrees_13 wpj_X11_differentSubtrees_40
      refine ⟨⟨by omega, by omega⟩, fun z => ?_, fun z => ?_⟩
      · rw [show k = 24 from by omega]
        exact h M1 F1 B1 C1 t1
      · have e : M1 13 5 (((k : Int) / 12).toNat) = (cn C (k / 12) : Int) := by
          rw [show ((k : Int) / 12).toNat = k / 12 from by omega]
          exact C1.n hW (by omega)
        rw [e]
        have vk : va C k = true ↔ k % 12 < cn C (k / 12) := decide_eq_true_iff
        have n12 := hW.n12 (show k / 12 < 2 from by omega)
        refine ⟨by omega, by omega, by omega, ⟨by omega, by omega⟩, ⟨by omega, by omega⟩, fun w => ⟨100 * (24 - k) + 50, by omega, k, 0, rfl, rfl, by omega, Nat.zero_le _, rfl, ⟨F1, B1, C1, S1, t1⟩, rfl, Or.inl rfl, fun y => absurd y (by decide), fun y => ?_⟩, fun w => ⟨100 * (24 - k) + 50, by omega, k, 0, rfl, rfl, by omega, Nat.zero_le _, rfl, ⟨F1, B1, C1, S1, t1⟩, rfl, Or.inr rfl, fun _ => ⟨vk.mpr (by omega), fun j hj => absurd hj (Nat.not_lt_zero _)⟩, fun _ => rfl⟩⟩
        have := vk.mp y.1
        omega
    · intro n x1 x2 x3 x4 M1 ⟨k, i, e2, e4, hk, hi, hn, G, e1, h3, H⟩
      subst e2; subst e4; subst e1
      obtain ⟨F1, B1, C1, S1, t1⟩ := G
      have out : ∀ v : Int, (v = 0 ∨ v = 1) → (v = 1 ↔ va C k = true ∧ ∀ j : Nat, j < k → va C j = true → ¬ SR C j k) → ∃ n1 : Nat, n1 < n ∧ ∃ k1 : Nat, (k : Int) + 1 = (k1 : Int) ∧ k1 ≤ 24 ∧ n1 = 100 * (24 - k1) + 90 ∧ (Fr Pm M M1 ∧ Bd M1 ∧ Core C M1 ∧ Sz C M1 ∧ M1 13 23 0 = 0) ∧ cf (SR C) (ml (va C) k) + v = cf (SR C) (ml (va C) k1) := fun v hv hv2 => ⟨100 * (24 - (k + 1)) + 90, by omega, k + 1, by omega, by omega, rfl, ⟨F1, B1, C1, S1, t1⟩, by
        rw [ml]
        by_cases c : va C k = true
        · rw [if_pos c]
          by_cases d : ∃ y : Nat, y ∈ ml (va C) k ∧ SR C y k
          · rw [cf_0 d]
            obtain ⟨y, hy, s⟩ := d
            have m := (ml_mem k).mp hy
            have : v ≠ 1 := fun z => (hv2.mp z).2 y m.1 m.2 s
            omega
          · rw [cf_1 d, hv2.mpr ⟨c, fun j hj vj s => d ⟨j, (ml_mem k).mpr ⟨hj, vj⟩, s⟩⟩]
        · rw [if_neg c]
          have : v ≠ 1 := fun z => c (hv2.mp z).1
          omega⟩
      have J94 : (i = k ∨ x3 = 0) → wpj_X11_differentSubtrees_94 (cf (SR C) (ml (va C) k)) k x3 M1 (fun (x1 : Int) (x2 : Int) (M1 : Mem) => ∃ n1 : Nat, n1 < n ∧ ∃ k : Nat, x2 = (k : Int) ∧ k ≤ 24 ∧ n1 = 100 * (24 - k) + 90 ∧ (Fr Pm M M1 ∧ Bd M1 ∧ Core C M1 ∧ Sz C M1 ∧ M1 13 23 0 = 0) ∧ x1 = cf (SR C) (ml (va C) k)) (fun (x1 : Int) (x2 : Int) (x3 : Int) (x4 : Int) (M1 : Mem) => ∃ n1 : Nat, n1 < n ∧ ∃ k i : Nat, x2 = (k : Int) ∧ x4 = (i : Int) ∧ k < 24 ∧ i ≤ k ∧ n1 = 100 * (24 - k) + 50 - i ∧ (Fr Pm M M1 ∧ Bd M1 ∧ Core C M1 ∧ Sz C M1 ∧ M1 13 23 0 = 0) ∧ x1 = cf (SR C) (ml (va C) k) ∧ (x3 = 0 ∨ x3 = 1) ∧ (x3 = 1 ↔ va C k = true ∧ ∀ j : Nat, j < i → va C j = true → ¬ SR C j k)) Q := fun hik => by
        unfold wpj_X11_differentSubtrees_94 wpj_X11_differentSubtrees_104
        have full : x3 = 1 ↔ va C k = true ∧ ∀ j : Nat, j < k → va C j = true → ¬ SR C j k := by
          constructor
          · intro z
            have a := H.mp z
            rw [show i = k from by omega] at a
            exact a
          · intro z
            exact H.mpr ⟨z.1, fun j hj => z.2 j (by omega)⟩
        refine ⟨by rcases h3 with rfl | rfl; exact r01.1; exact r01.2, fun z y29 e29 => ?_, fun z y29 e29 => ?_⟩
        · subst e29
          have x0 : x3 = 0 := z
          exact out 0 (Or.inl rfl) ⟨fun w => absurd w (by decide), fun w => by have := full.mpr w; omega⟩
        · subst e29
          exact out 1 (Or.inr rfl) ⟨fun _ => full.mp (by omega), fun _ => rfl⟩
      unfold wph_X11_differentSubtrees_44 wpj_X11_differentSubtrees_82 wpj_X11_differentSubtrees_87
      refine ⟨⟨by omega, by omega⟩, ⟨by omega, by omega⟩, fun z => J94 (Or.inl (by omega)), fun z => ⟨by rcases h3 with rfl | rfl; exact r01.1; exact r01.2, fun w => J94 (Or.inr w), fun w => ?_⟩⟩
      have x1 : x3 = 1 := by omega
      obtain ⟨vk, pre⟩ := H.mp x1
      have e : M1 13 5 (((i : Int) / 12).toNat) = (cn C (i / 12) : Int) := by
        rw [show ((i : Int) / 12).toNat = i / 12 from by omega]
        exact C1.n hW (by omega)
      rw [e]
      have n12 := hW.n12 (show i / 12 < 2 from by omega)
      have vi : va C i = true ↔ i % 12 < cn C (i / 12) := decide_eq_true_iff
      have vk' : k % 12 < cn C (k / 12) := decide_eq_true_iff.mp vk
      have nx : ∀ v : Int, (v = 0 ∨ v = 1) → (v = 1 ↔ (va C i = true → ¬ SR C i k)) → ∃ n1 : Nat, n1 < n ∧ ∃ k1 i1 : Nat, (k : Int) = (k1 : Int) ∧ (i : Int) + 1 = (i1 : Int) ∧ k1 < 24 ∧ i1 ≤ k1 ∧ n1 = 100 * (24 - k1) + 50 - i1 ∧ (Fr Pm M M1 ∧ Bd M1 ∧ Core C M1 ∧ Sz C M1 ∧ M1 13 23 0 = 0) ∧ cf (SR C) (ml (va C) k) = cf (SR C) (ml (va C) k1) ∧ (v = 0 ∨ v = 1) ∧ (v = 1 ↔ va C k1 = true ∧ ∀ j : Nat, j < i1 → va C j = true → ¬ SR C j k1) := fun v hv hv2 => ⟨100 * (24 - k) + 50 - (i + 1), by omega, k, i + 1, rfl, by omega, hk, by omega, rfl, ⟨F1, B1, C1, S1, t1⟩, rfl, hv, fun y => ⟨vk, fun j hj => by
        by_cases c : j = i
        · subst c
          exact hv2.mp y
        · exact pre j (by omega)⟩, fun y => hv2.mpr (y.2 i (by omega))⟩
      refine ⟨by omega, by omega, by omega, ⟨by omega, by omega⟩, ⟨by omega, by omega⟩, fun y => nx 1 (Or.inr rfl) ⟨fun _ u => ?_, fun _ => rfl⟩, fun y => ?_⟩
      · have := vi.mp u
        omega
      · refine sp_isSame (t := i / 12) (a := i % 12) (u := k / 12) (b := k % 12) hW C1 B1 S1 (by omega) (by omega) (by omega) vk' (by omega) (by omega) (fun v h1 h2 => ⟨by rcases h1 with rfl | rfl; exact r01.1; exact r01.2, fun u => nx 0 (Or.inl rfl) ⟨fun u2 => absurd u2 (by decide), fun u2 => absurd (h2.mp (by omega)) (u2 (vi.mpr (by omega)))⟩, fun u => nx 1 (Or.inr rfl) ⟨fun _ _ s => ?_, fun _ => rfl⟩⟩)
        have := h2.mpr s
        omega
end DIFF
