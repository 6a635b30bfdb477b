/-! top-down distances: alignments of children -/
def cfl (d i : Nat → Int) (pr : Nat → Nat → Int) : CP := (fun _ _ => false, fun _ _ => false, d, i, pr)
def AL (d i : Nat → Int) (pr : Nat → Nat → Int) (xs ys : List Nat) : Int := dd (cfl d i pr) xs ys
section ALS
variable {d i : Nat → Int} {pr : Nat → Nat → Int}
theorem AL_nn : AL d i pr [] [] = 0 := dd_nn _
theorem AL_cn (x : Nat) (xs : List Nat) : AL d i pr (x :: xs) [] = d x + AL d i pr xs [] := dd_cn _ _ _
theorem AL_nc (y : Nat) (ys : List Nat) : AL d i pr [] (y :: ys) = i y + AL d i pr [] ys := dd_nc _ _ _
theorem AL_cc (x : Nat) (xs : List Nat) (y : Nat) (ys : List Nat) : AL d i pr (x :: xs) (y :: ys) = min (min (d x + AL d i pr xs (y :: ys)) (i y + AL d i pr (x :: xs) ys)) (pr x y + AL d i pr xs ys) := by
  have h := dd_cc (cfl d i pr) x xs y ys
  have e1 : ∀ l : List Nat, l.filter (fun _ => false) = [] := fun l => List.filter_eq_nil_iff.mpr (fun _ _ => by simp)
  have e2 : ∀ l : List Nat, l.filter (fun _ => !false) = l := fun l => List.filter_eq_self.mpr (fun _ _ => rfl)
  have f1 : xs.filter (fun z => (cfl d i pr).1 x z) = [] := e1 xs
  have f2 : ys.filter (fun z => (cfl d i pr).2.1 y z) = [] := e1 ys
  have f3 : xs.filter (fun z => !(cfl d i pr).1 x z) = xs := e2 xs
  have f4 : ys.filter (fun z => !(cfl d i pr).2.1 y z) = ys := e2 ys
  rw [f1, f2, f3, f4, dd_nn] at h
  unfold AL
  rw [h]
  change min (min (d x + _) (i y + _)) (pr x y + 0 + _) = _
  rw [Int.add_zero]
theorem AL_bd {B : Int} : ∀ (xs ys : List Nat), (∀ x ∈ xs, 0 ≤ d x ∧ d x ≤ B) → (∀ y ∈ ys, 0 ≤ i y ∧ i y ≤ B) → (∀ x ∈ xs, ∀ y ∈ ys, 0 ≤ pr x y) → 0 ≤ AL d i pr xs ys ∧ AL d i pr xs ys ≤ B * ((xs.length : Int) + ys.length) := by
  intro xs
  induction xs with
  | nil =>
    intro ys
    induction ys with
    | nil => intro _ _ _; rw [AL_nn]; simp
    | cons y ys ih =>
      intro h1 h2 h3
      have a := ih h1 (fun z hz => h2 z (List.mem_cons_of_mem _ hz)) (fun x hx => by cases hx)
      have b := h2 y List.mem_cons_self
      rw [AL_nc]
      simp only [List.length_cons, List.length_nil] at a ⊢
      rw [show ((ys.length + 1 : Nat) : Int) = (ys.length : Int) + 1 from by omega, show B * (((0 : Nat) : Int) + ((ys.length : Int) + 1)) = B * (((0 : Nat) : Int) + (ys.length : Int)) + B from by rw [← Int.add_assoc, Int.mul_add, Int.mul_one]]
      omega
  | cons x xs ihx =>
    intro ys
    induction ys with
    | nil =>
      intro h1 h2 h3
      have a := ihx [] (fun z hz => h1 z (List.mem_cons_of_mem _ hz)) h2 (fun x _ y hy => by cases hy)
      have b := h1 x List.mem_cons_self
      rw [AL_cn]
      simp only [List.length_cons, List.length_nil] at a ⊢
      rw [show ((xs.length + 1 : Nat) : Int) + ((0 : Nat) : Int) = ((xs.length : Int) + ((0 : Nat) : Int)) + 1 from by omega, Int.mul_add, Int.mul_one]
      omega
    | cons y ys ihy =>
      intro h1 h2 h3
      have t1 : ∀ z ∈ xs, 0 ≤ d z ∧ d z ≤ B := fun z hz => h1 z (List.mem_cons_of_mem _ hz)
      have t2 : ∀ z ∈ ys, 0 ≤ i z ∧ i z ≤ B := fun z hz => h2 z (List.mem_cons_of_mem _ hz)
      have a1 := ihx (y :: ys) t1 h2 (fun x hx => h3 x (List.mem_cons_of_mem _ hx))
      have a2 := ihy h1 t2 (fun x hx y hy => h3 x hx y (List.mem_cons_of_mem _ hy))
      have a3 := ihx ys t1 t2 (fun x hx y hy => h3 x (List.mem_cons_of_mem _ hx) y (List.mem_cons_of_mem _ hy))
      have b1 := h1 x List.mem_cons_self
      have b2 := h2 y List.mem_cons_self
      have b3 := h3 x List.mem_cons_self y List.mem_cons_self
      rw [AL_cc]
      simp only [List.length_cons] at a1 a2 ⊢
      rw [show ((xs.length + 1 : Nat) : Int) + ((ys.length + 1 : Nat) : Int) = ((xs.length : Int) + ((ys.length + 1 : Nat) : Int)) + 1 from by omega, Int.mul_add, Int.mul_one]
      omega
/-- from either end -/
theorem AL_rev (N : Nat) (xs ys : List Nat) (hx : xs.Pairwise (fun u v => u < v)) (hy : ys.Pairwise (fun u v => u < v)) (hxN : ∀ x ∈ xs, x ≤ N) (hyN : ∀ y ∈ ys, y ≤ N) : AL d i pr xs.reverse ys.reverse = AL d i pr xs ys := by
  have fo : ∀ l : List Nat, (∀ u ∈ l, u ≤ N) → FO (fun _ _ => false) (fun u => N - u) (fun u => u) l := fun l hl => ⟨fun u hu v hv => by
    have a := hl u hu
    have b := hl v hv
    constructor
    · intro h
      cases h
    · intro h
      have a1 : N - u < N - v := h.1
      have a2 : u < v := h.2
      omega, fun u _ v _ w _ h => by cases h⟩
  have sr : ∀ l : List Nat, l.Pairwise (fun u v => u < v) → (∀ u ∈ l, u ≤ N) → Srt (fun u => N - u) l.reverse := fun l h hl => by
    unfold Srt
    rw [List.pairwise_reverse]
    refine h.imp_of_mem (fun {u v} hu hv h2 => ?_)
    have a := hl u hu
    have b := hl v hv
    dsimp only
    omega
  exact dd_mir (cfl d i pr) (fun u => N - u) (fun u => u) (fun u => N - u) (fun u => u) _ _ _ _ (List.reverse_perm xs) (List.reverse_perm ys) (sr xs hx hxN) (sr ys hy hyN) hx hy (fo xs hxN) (fo ys hyN)
end ALS
theorem take_step {l r : List Nat} {k y : Nat} (h : l.drop k = y :: r) : (l.take (k + 1)).reverse = y :: (l.take k).reverse ∧ l.drop (k + 1) = r ∧ k < l.length := by
  have hk : k < l.length := Decidable.byContradiction (fun c => by
    rw [List.drop_eq_nil_of_le (by omega)] at h
    cases h)
  have h0 : l[k] = y ∧ l.drop (k + 1) = r := by
    rw [List.drop_eq_getElem_cons hk] at h
    injection h with h1 h2
    exact ⟨h1, h2⟩
  refine ⟨?_, h0.2, hk⟩
  rw [List.take_succ_eq_append_getElem hk, List.reverse_append, h0.1]
  rfl
section TD
variable {C : Nat → Nat → Int}
def delS (C : Nat → Nat → Int) (x : Nat) : Int := sm (cdl C) x (ce C 0 x)
def insS (C : Nat → Nat → Int) (y : Nat) : Int := sm (cil C) y (ce C 1 y)
/-- children from a place on, and up to it -/
def chF (C : Nat → Nat → Int) (t a i : Nat) : List Nat := (rg i (ce C t a)).filter (fun x => decide (cL C t x = cL C t a + 1))
def chl (C : Nat → Nat → Int) (t a : Nat) : List Nat := chF C t a (a + 1)
def tdG (C : Nat → Nat → Int) : Nat → Nat → Nat → Int
  | 0, _, _ => 0
  | f + 1, a, b => cpl C a b + AL (delS C) (insS C) (fun x y => if C 2 x = C 2 (12 + y) then tdG C f x y else 1000000) (chl C 0 a) (chl C 1 b)
def td (C : Nat → Nat → Int) (a b : Nat) : Int := tdG C (cn C 0 - a) a b
def tdc (C : Nat → Nat → Int) (a b : Nat) : Int := if C 2 a = C 2 (12 + b) then td C a b else 1000000
theorem mem_chF {t a i x : Nat} : x ∈ chF C t a i ↔ (i ≤ x ∧ x < ce C t a) ∧ cL C t x = cL C t a + 1 := by
  unfold chF
  rw [List.mem_filter, mem_rg, decide_eq_true_eq]
theorem chF_srt (t a i : Nat) : (chF C t a i).Pairwise (fun u v => u < v) := (rg_srt _ _).filter _
theorem chF_len (hW : WF C) {t a : Nat} (ht : t < 2) (ha : a < cn C t) : (chl C t a).length ≤ 11 := by
  have n := hW.n12 ht
  have z := hW.e (C := C) (t := t) ha
  have f := fl_le (fun x => decide (cL C t x = cL C t a + 1)) (rg (a + 1) (ce C t a))
  rw [rg_len] at f
  unfold chl chF
  omega
theorem delS_bd (hW : WF C) {x : Nat} (hx : x < cn C 0) : 0 ≤ delS C x ∧ delS C x ≤ 600 := by
  have n := hW.n12 (t := 0) (by omega)
  have z := hW.e (C := C) (t := 0) hx
  have s := sm_bd (cdl C) (i := x) (j := ce C 0 x) (fun k _ h => hW.dl (by omega))
  unfold delS
  omega
theorem insS_bd (hW : WF C) {x : Nat} (hx : x < cn C 1) : 0 ≤ insS C x ∧ insS C x ≤ 600 := by
  have n := hW.n12 (t := 1) (by omega)
  have z := hW.e (C := C) (t := 1) hx
  have s := sm_bd (cil C) (i := x) (j := ce C 1 x) (fun k _ h => hW.il (by omega))
  unfold insS
  omega
theorem chl_in (hW : WF C) {t a x : Nat} (ha : a < cn C t) (h : x ∈ chl C t a) : a < x ∧ x < cn C t := by
  have z := hW.e (C := C) (t := t) ha
  have m := mem_chF.mp h
  omega
theorem tdG_irr (hW : WF C) : ∀ (f f' a b : Nat), a < cn C 0 → cn C 0 - a ≤ f → cn C 0 - a ≤ f' → tdG C f a b = tdG C f' a b := by
  intro f
  induction f with
  | zero => intro f' a b h1 h2; omega
  | succ f ih =>
    intro f' a b h1 h2 h3
    cases f' with
    | zero => omega
    | succ f' =>
      unfold tdG AL
      refine congrArg _ (dd_congr _ _ _ _ (fun _ _ _ _ => rfl) (fun _ _ _ _ => rfl) (fun _ _ => rfl) (fun _ _ => rfl) (fun x hx y hy => ?_))
      have m := chl_in hW h1 hx
      change (if C 2 x = C 2 (12 + y) then tdG C f x y else 1000000) = (if C 2 x = C 2 (12 + y) then tdG C f' x y else 1000000)
      rw [ih f' x y m.2 (by omega) (by omega)]
theorem td_eq (hW : WF C) {a b : Nat} (ha : a < cn C 0) : td C a b = cpl C a b + AL (delS C) (insS C) (tdc C) (chl C 0 a) (chl C 1 b) := by
  unfold td
  rw [show cn C 0 - a = (cn C 0 - a - 1) + 1 from by omega]
  have u : tdG C (cn C 0 - a - 1 + 1) a b = cpl C a b + AL (delS C) (insS C) (fun x y => if C 2 x = C 2 (12 + y) then tdG C (cn C 0 - a - 1) x y else 1000000) (chl C 0 a) (chl C 1 b) := rfl
  rw [u]
  unfold AL
  refine congrArg _ (dd_congr _ _ _ _ (fun _ _ _ _ => rfl) (fun _ _ _ _ => rfl) (fun _ _ => rfl) (fun _ _ => rfl) (fun x hx y hy => ?_))
  have m := chl_in hW ha hx
  change (if C 2 x = C 2 (12 + y) then tdG C (cn C 0 - a - 1) x y else 1000000) = (if C 2 x = C 2 (12 + y) then tdG C (cn C 0 - x) x y else 1000000)
  rw [tdG_irr hW (cn C 0 - a - 1) (cn C 0 - x) x y m.2 (by omega) (Nat.le_refl _)]
theorem tdG_nn (hW : WF C) : ∀ (f a b : Nat), a < cn C 0 → b < cn C 1 → 0 ≤ tdG C f a b := by
  intro f
  induction f with
  | zero => intro a b _ _; exact Int.le_refl _
  | succ f ih =>
    intro a b ha hb
    unfold tdG
    have p := hW.pl (q := b) ha
    have q := (AL_bd (d := delS C) (i := insS C) (pr := fun x y => if C 2 x = C 2 (12 + y) then tdG C f x y else 1000000) (B := 600) (chl C 0 a) (chl C 1 b) (fun x hx => delS_bd hW (chl_in hW ha hx).2) (fun y hy => insS_bd hW (chl_in hW hb hy).2) (fun x hx y hy => by
      split
      · exact ih x y (chl_in hW ha hx).2 (chl_in hW hb hy).2
      · omega)).1
    omega
theorem tdc_nn (hW : WF C) {a b : Nat} (ha : a < cn C 0) (hb : b < cn C 1) : 0 ≤ tdc C a b := by
  unfold tdc
  split
  · exact tdG_nn hW _ a b ha hb
  · omega
/-- sublists of the children cost little -/
theorem ALs_bd (hW : WF C) {a b : Nat} (ha : a < cn C 0) (hb : b < cn C 1) {xs ys : List Nat} (hx : ∀ x ∈ xs, x ∈ chl C 0 a) (hy : ∀ y ∈ ys, y ∈ chl C 1 b) (lx : xs.length ≤ 11) (ly : ys.length ≤ 11) : 0 ≤ AL (delS C) (insS C) (tdc C) xs ys ∧ AL (delS C) (insS C) (tdc C) xs ys ≤ 13200 := by
  have q := AL_bd (d := delS C) (i := insS C) (pr := tdc C) (B := 600) xs ys (fun x h => delS_bd hW (chl_in hW ha (hx x h)).2) (fun y h => insS_bd hW (chl_in hW hb (hy y h)).2) (fun x h y g => tdc_nn hW (chl_in hW ha (hx x h)).2 (chl_in hW hb (hy y g)).2)
  omega
theorem td_bd (hW : WF C) {a b : Nat} (ha : a < cn C 0) (hb : b < cn C 1) : 0 ≤ td C a b ∧ td C a b ≤ 13250 := by
  rw [td_eq hW ha]
  have p := hW.pl (q := b) ha
  have q := ALs_bd hW ha hb (xs := chl C 0 a) (ys := chl C 1 b) (fun _ h => h) (fun _ h => h) (chF_len hW (by omega) ha) (chF_len hW (by omega) hb)
  omega
/-- a boundary between children -/
def ChS (C : Nat → Nat → Int) (t a i : Nat) : Prop := a < i ∧ i ≤ ce C t a ∧ (i < ce C t a → cL C t i = cL C t a + 1)
theorem ChS.first (hW : WF C) {t a : Nat} (ht : t < 2) (ha : a < cn C t) : ChS C t a (a + 1) := by
  have z := hW.e (C := C) (t := t) ha
  refine ⟨by omega, by omega, fun h => ?_⟩
  have p := ((hW.wl ht).2 a (by omega)).2
  have q := eN_in (L := cL C t) (n := cn C t) ha (q := a + 1) (by omega) h
  omega
theorem ChS.next (hW : WF C) {t a i : Nat} (ht : t < 2) (ha : a < cn C t) (h : ChS C t a i) (hi : i < ce C t a) : ChS C t a (ce C t i) ∧ chF C t a i = i :: chF C t a (ce C t i) ∧ i < ce C t i := by
  have z := hW.e (C := C) (t := t) ha
  have hin : i < cn C t := by omega
  have zi := hW.e (C := C) (t := t) hin
  obtain ⟨k1, k2, k3⟩ := h
  have ne : ce C t i ≤ ce C t a := eN_nest (L := cL C t) (n := cn C t) ha k1 hi
  have li := k3 hi
  refine ⟨⟨by omega, ne, fun g => ?_⟩, ?_, zi.1⟩
  · have p := eN_at (L := cL C t) (n := cn C t) hin (by unfold ce at g z; omega)
    have q := eN_in (L := cL C t) (n := cn C t) ha (q := ce C t i) (by omega) g
    unfold ce at p q ⊢
    omega
  · unfold chF
    rw [rg_cons hi, List.filter_cons_of_pos (by simpa using li), rg_app (i := i + 1) (j := ce C t i) (k := ce C t a) (by omega) ne, List.filter_append]
    have e : (rg (i + 1) (ce C t i)).filter (fun x => decide (cL C t x = cL C t a + 1)) = [] := List.filter_eq_nil_iff.mpr (fun x hx => by
      have m := mem_rg.mp hx
      have q := eN_in (L := cL C t) (n := cn C t) hin (q := x) (by omega) m.2
      rw [decide_eq_true_eq]
      omega)
    rw [e, List.nil_append]
theorem chF_end {t a i : Nat} (h : ce C t a ≤ i) : chF C t a i = [] := by
  unfold chF
  rw [rg_nil h]
  rfl
def P22 (o k : Nat) : Bool := o == 13 && k == 22
/-- the table of pairs behind a place -/
def TpM (C : Nat → Nat → Int) (M : Mem) (dn : Nat → Nat → Prop) : Prop := ∀ x y : Nat, x < cn C 0 → y < cn C 1 → dn x y → M 13 21 (12 * x + y) = (if C 2 x = C 2 (12 + y) then td C x y else 100000)
theorem Fr22 {M M1 : Mem} {P : Nat → Nat → Bool} (h : Fr P22 M M1) (hP : ∀ o k : Nat, P22 o k = true → P o k = true) : Fr P M M1 := h.mono hP
set_option maxHeartbeats 8000000 in
theorem sp_topOf {M : Mem} {Q : Int → Mem → Prop} {a b : Nat} {p0 p1 : Int} (hW : WF C) (hC : Core C M) (hB : Bd M) (hS : Sz C M) (hT : TpM C M (fun x _ => a < x)) (ha : a < cn C 0) (hb : b < cn C 1) (e0 : p0 = a) (e1 : p1 = b) (K : ∀ M' : Mem, Fr P22 M M' → Bd M' → Q (td C a b) M') : wp_X11_topOf M p0 p1 Q := by
  subst e0; subst e1
  have n0 := hW.n12 (t := 0) (by omega)
  have n1 := hW.n12 (t := 1) (by omega)
  have za := hW.e (C := C) (t := 0) ha
  have zb := hW.e (C := C) (t := 1) hb
  have lx := chF_len hW (t := 0) (by omega) ha
  have ly := chF_len hW (t := 1) (by omega) hb
  have BB : ∀ h k : Nat, 0 ≤ AL (delS C) (insS C) (tdc C) ((chl C 0 a).take h).reverse ((chl C 1 b).take k).reverse ∧ AL (delS C) (insS C) (tdc C) ((chl C 0 a).take h).reverse ((chl C 1 b).take k).reverse ≤ 13200 := fun h k => by
    have t1 := List.length_take_le h (chl C 0 a)
    have t2 := List.length_take_le k (chl C 1 b)
    have t3 := List.length_take_le' h (chl C 0 a)
    have t4 := List.length_take_le' k (chl C 1 b)
    exact ALs_bd hW ha hb (fun x hx => List.mem_of_mem_take (List.mem_reverse.mp hx)) (fun x hx => List.mem_of_mem_take (List.mem_reverse.mp hx)) (by rw [List.length_reverse]; omega) (by rw [List.length_reverse]; omega)
  unfold wp_X11_topOf
  refine ⟨fun n x3 x4 x5 x6 M1 => ∃ k j : Nat, x3 = (ce C 0 a : Int) ∧ x4 = (ce C 1 b : Int) ∧ x5 = k ∧ x6 = j ∧ ChS C 1 b j ∧ (chl C 1 b).drop k = chF C 1 b j ∧ k ≤ (chl C 1 b).length ∧ n = 100000 + (50 - j) ∧ Fr P22 M M1 ∧ Bd M1 ∧ (∀ k' : Nat, k' ≤ k → M1 13 22 k' = AL (delS C) (insS C) (tdc C) [] ((chl C 1 b).take k').reverse),
    fun n x3 x4 x5 x6 M1 => ∃ h i : Nat, x3 = (ce C 0 a : Int) ∧ x4 = (ce C 1 b : Int) ∧ x5 = ((chl C 1 b).length : Int) ∧ x6 = i ∧ ChS C 0 a i ∧ (chl C 0 a).drop h = chF C 0 a i ∧ h ≤ (chl C 0 a).length ∧ n = (50 - i) * 1000 ∧ Fr P22 M M1 ∧ Bd M1 ∧ (∀ k' : Nat, k' ≤ (chl C 1 b).length → M1 13 22 k' = AL (delS C) (insS C) (tdc C) ((chl C 0 a).take h).reverse ((chl C 1 b).take k').reverse),
    fun n x3 x4 x5 x6 x7 x8 x9 x10 M1 => ∃ h i k j : Nat, x3 = (ce C 0 a : Int) ∧ x4 = (ce C 1 b : Int) ∧ x5 = ((chl C 1 b).length : Int) ∧ x6 = i ∧ x7 = delS C i ∧ x8 = AL (delS C) (insS C) (tdc C) ((chl C 0 a).take h).reverse ((chl C 1 b).take k).reverse ∧ x9 = (k : Int) + 1 ∧ x10 = j ∧ ChS C 0 a i ∧ i < ce C 0 a ∧ (chl C 0 a).drop h = chF C 0 a i ∧ ChS C 1 b j ∧ (chl C 1 b).drop k = chF C 1 b j ∧ k ≤ (chl C 1 b).length ∧ n = (50 - i) * 1000 - 100 - j ∧ Fr P22 M M1 ∧ Bd M1 ∧ (∀ k' : Nat, k' ≤ k → M1 13 22 k' = AL (delS C) (insS C) (tdc C) ((chl C 0 a).take (h + 1)).reverse ((chl C 1 b).take k').reverse) ∧ (∀ k' : Nat, k < k' → k' ≤ (chl C 1 b).length → M1 13 22 k' = AL (delS C) (insS C) (tdc C) ((chl C 0 a).take h).reverse ((chl C 1 b).take k').reverse), ?_, ?_, ?_, ?_⟩
  · unfold wpe_X11_topOf
    rw [Int.toNat_natCast, show (12 + (b : Int)).toNat = 12 + b from by omega, hS.s0 ha, hS.s1 hb]
    refine ⟨⟨by omega, by omega⟩, fun y2 e2 => ⟨⟨by omega, by omega⟩, fun y4 e4 M5 e5 y7 e7 => ⟨_, 0, b + 1, by omega, by omega, rfl, by omega, ChS.first hW (by omega) hb, rfl, Nat.zero_le _, rfl, e5 ▸ Fr.rf.set rfl, e5 ▸ hB.set (by omega) (by omega), fun k' hk' => ?_⟩⟩⟩
    rw [show k' = 0 from by omega, e5, mset_eq]
    exact AL_nn.symm
  · intro n x3 x4 x5 x6 M1 ⟨k, j, e3, e4, e5, e6, hj, hd, hk, hn, hF, hB1, hr⟩
    subst e3; subst e4; subst e5; subst e6; subst hn
    have S1 := hS.fr hF rfl
    have C1 : Core C M1 := hC.fr hF rfl rfl rfl rfl rfl rfl rfl
    have hj1 := hj.1
    have hj2 := hj.2.1
    unfold wph_X11_topOf_37
    refine ⟨⟨by omega, by omega⟩, ⟨by omega, by omega⟩, fun h y11 e11 => ?_, fun h => ?_⟩
    · have e : k = (chl C 1 b).length := by
        rw [chF_end (by omega)] at hd
        have := congrArg List.length hd
        rw [List.length_drop, List.length_nil] at this
        omega
      subst e
      exact ⟨(50 - (a + 1)) * 1000, by omega, 0, a + 1, rfl, rfl, rfl, by omega, ChS.first hW (by omega) ha, rfl, Nat.zero_le _, rfl, hF, hB1, fun k' hk' => hr k' hk'⟩
    · obtain ⟨c1, c2, c3⟩ := hj.next hW (by omega) hb (by omega)
      rw [c2] at hd
      obtain ⟨d1, d2, d3⟩ := take_step hd
      have zj := hW.e (C := C) (t := 1) (p := j) (by have := c1.2.1; omega)
      have b1 := BB 0 (k + 1)
      have b2 := BB 0 k
      rw [show (((k : Int) + 1) - 1).toNat = k from by omega, show ((k : Int) + 1).toNat = k + 1 from by omega, show (12 + (j : Int)).toNat = 12 + j from by omega, S1.s1 (p := j) (by omega), hr k (Nat.le_refl _)]
      refine ⟨⟨by omega, by omega⟩, ⟨by omega, by omega⟩, sp_inserting hW C1 (i := j) (j := ce C 1 j) rfl (by omega) (by omega) (by omega) ⟨⟨by omega, by omega⟩, fun M16 e16 => ⟨⟨by omega, by omega⟩, fun y19 e19 => ?_⟩⟩⟩
      have v : AL (delS C) (insS C) (tdc C) [] ((chl C 1 b).take k).reverse + sm (cil C) j (ce C 1 j) = AL (delS C) (insS C) (tdc C) [] ((chl C 1 b).take (k + 1)).reverse := by
        rw [d1, AL_nc, Int.add_comm]
        rfl
      rw [v] at e16
      have b1' : 0 ≤ AL (delS C) (insS C) (tdc C) [] ((chl C 1 b).take (k + 1)).reverse ∧ AL (delS C) (insS C) (tdc C) [] ((chl C 1 b).take (k + 1)).reverse ≤ 13200 := b1
      have f16 : Fr P22 M M16 := e16 ▸ hF.set rfl
      rw [(hS.fr f16 rfl).s1 (p := j) (by omega)] at e19
      refine ⟨100000 + (50 - ce C 1 j), by omega, k + 1, ce C 1 j, rfl, rfl, by omega, by omega, c1, d2, by omega, rfl, f16, e16 ▸ hB1.set (by omega) (by omega), fun k' hk' => ?_⟩
      rw [e16, mset_i]
      by_cases c : k' = k + 1
      · rw [if_pos c, c]
      · rw [if_neg c]
        exact hr k' (by omega)
  · intro n x3 x4 x5 x6 M1 ⟨h, i, e3, e4, e5, e6, hi, hd, hh, hn, hF, hB1, hr⟩
    subst e3; subst e4; subst e5; subst e6; subst hn
    have S1 := hS.fr hF rfl
    have C1 : Core C M1 := hC.fr hF rfl rfl rfl rfl rfl rfl rfl
    have hi1 := hi.1
    have hi2 := hi.2.1
    unfold wph_X11_topOf_106
    refine ⟨⟨by omega, by omega⟩, ⟨by omega, by omega⟩, fun g => sp_pair hW C1 hB1 rfl rfl ha hb ?_, fun g => ?_⟩
    · have e : h = (chl C 0 a).length := by
        rw [chF_end (by omega)] at hd
        have := congrArg List.length hd
        rw [List.length_drop, List.length_nil] at this
        omega
      subst e
      rw [Int.toNat_natCast, hr _ (Nat.le_refl _), List.take_length, List.take_length, AL_rev (cn C 0 + cn C 1) (chl C 0 a) (chl C 1 b) (chF_srt 0 a (a + 1)) (chF_srt 1 b (b + 1)) (fun x hx => by have := chl_in hW ha hx; omega) (fun x hx => by have := chl_in hW hb hx; omega), ← td_eq hW ha]
      exact ⟨⟨by omega, by omega⟩, K M1 hF hB1⟩
    · obtain ⟨c1, c2, c3⟩ := hi.next hW (by omega) ha (by omega)
      have zi := hW.e (C := C) (t := 0) (p := i) (by have := c1.2.1; omega)
      have hd' := hd
      rw [c2] at hd'
      obtain ⟨d1, d2, d3⟩ := take_step hd'
      have b0 := BB (h + 1) 0
      have ha1 := hi.1
      rw [Int.toNat_natCast, S1.s0 (p := i) (by omega)]
      refine ⟨⟨by omega, by omega⟩, sp_deletingAll hW C1 (i := i) (j := ce C 0 i) rfl (by omega) (by omega) (by omega) (fun y29 e29 M30 e30 y32 e32 => ?_)⟩
      have v0 := hr 0 (Nat.zero_le _)
      have v : AL (delS C) (insS C) (tdc C) ((chl C 0 a).take (h + 1)).reverse ((chl C 1 b).take 0).reverse = M1 13 22 0 + sm (cdl C) i (ce C 0 i) := by
        rw [d1, v0]
        change AL (delS C) (insS C) (tdc C) (i :: ((chl C 0 a).take h).reverse) [] = _
        rw [AL_cn, Int.add_comm]
        rfl
      rw [← v] at e30
      refine ⟨(50 - i) * 1000 - 100 - (b + 1), by omega, h, i, 0, b + 1, rfl, rfl, rfl, rfl, rfl, by rw [e29]; exact v0, rfl, by omega, hi, by omega, hd, ChS.first hW (by omega) hb, rfl, Nat.zero_le _, rfl, e30 ▸ hF.set rfl, e30 ▸ hB1.set (by omega) (by omega), fun k' hk' => ?_, fun k' hk1 hk2 => ?_⟩
      · rw [show k' = 0 from by omega, e30, mset_eq]
      · rw [e30, mset_ne (by omega)]
        exact hr k' hk2
  · intro n x3 x4 x5 x6 x7 x8 x9 x10 M1 ⟨h, i, k, j, e3, e4, e5, e6, e7, e8, e9, e10, hi, hie, hd, hj, hdj, hk, hn, hF, hB1, hr1, hr2⟩
    subst e3; subst e4; subst e5; subst e6; subst e7; subst e8; subst e9; subst e10; subst hn
    have S1 := hS.fr hF rfl
    have C1 : Core C M1 := hC.fr hF rfl rfl rfl rfl rfl rfl rfl
    obtain ⟨c1, c2, c3⟩ := hi.next hW (by omega) ha hie
    have hd' := hd
    rw [c2] at hd'
    obtain ⟨d1, d2, d3⟩ := take_step hd'
    have hin : i < cn C 0 := by omega
    have zi := hW.e (C := C) (t := 0) hin
    have hai := hi.1
    have hi2 := hi.2.1
    have hj1 := hj.1
    have hj2 := hj.2.1
    have c12 := c1.2.1
    unfold wph_X11_topOf_157
    refine ⟨⟨by omega, by omega⟩, ⟨by omega, by omega⟩, fun g => ?_, fun g => ?_⟩
    · have e : k = (chl C 1 b).length := by
        rw [chF_end (by omega)] at hdj
        have := congrArg List.length hdj
        rw [List.length_drop, List.length_nil] at this
        omega
      subst e
      rw [Int.toNat_natCast, S1.s0 hin]
      refine ⟨⟨by omega, by omega⟩, fun y37 e37 => ⟨(50 - ce C 0 i) * 1000, by omega, h + 1, ce C 0 i, rfl, rfl, rfl, by omega, c1, d2, by omega, rfl, hF, hB1, hr1⟩⟩
    · obtain ⟨q1, q2, q3⟩ := hj.next hW (by omega) hb (by omega)
      rw [q2] at hdj
      obtain ⟨r1, r2, r3⟩ := take_step hdj
      have hjn : j < cn C 1 := by omega
      have zj := hW.e (C := C) (t := 1) hjn
      have hbj := hj.1
      have b1 := BB h (k + 1)
      have b2 := BB (h + 1) k
      have b3 := BB h k
      have b4 := BB (h + 1) (k + 1)
      have ds := delS_bd hW hin
      have is := insS_bd hW hjn
      have tb := td_bd hW hin hjn
      have v := AL_cc (d := delS C) (i := insS C) (pr := tdc C) i ((chl C 0 a).take h).reverse j ((chl C 1 b).take k).reverse
      rw [← d1, ← r1] at v
      have J245 : ∀ (s0 : Int), s0 = AL (delS C) (insS C) (tdc C) ((chl C 0 a).take (h + 1)).reverse ((chl C 1 b).take (k + 1)).reverse → wpj_X11_topOf_245 (a : Int) (b : Int) (ce C 0 a : Int) (ce C 1 b : Int) ((chl C 1 b).length : Int) (i : Int) (delS C i) ((k : Int) + 1) (j : Int) s0 M1 (fun (x3 x4 x5 x6 : Int) (M1 : Mem) => ∃ n1 : Nat, n1 < (50 - i) * 1000 - 100 - j ∧ ∃ k j : Nat, x3 = (ce C 0 a : Int) ∧ x4 = (ce C 1 b : Int) ∧ x5 = k ∧ x6 = j ∧ ChS C 1 b j ∧ (chl C 1 b).drop k = chF C 1 b j ∧ k ≤ (chl C 1 b).length ∧ n1 = 100000 + (50 - j) ∧ Fr P22 M M1 ∧ Bd M1 ∧ (∀ k' : Nat, k' ≤ k → M1 13 22 k' = AL (delS C) (insS C) (tdc C) [] ((chl C 1 b).take k').reverse)) (fun (x3 x4 x5 x6 : Int) (M1 : Mem) => ∃ n1 : Nat, n1 < (50 - i) * 1000 - 100 - j ∧ ∃ h i : Nat, x3 = (ce C 0 a : Int) ∧ x4 = (ce C 1 b : Int) ∧ x5 = ((chl C 1 b).length : Int) ∧ x6 = i ∧ ChS C 0 a i ∧ (chl C 0 a).drop h = chF C 0 a i ∧ h ≤ (chl C 0 a).length ∧ n1 = (50 - i) * 1000 ∧ Fr P22 M M1 ∧ Bd M1 ∧ (∀ k' : Nat, k' ≤ (chl C 1 b).length → M1 13 22 k' = AL (delS C) (insS C) (tdc C) ((chl C 0 a).take h).reverse ((chl C 1 b).take k').reverse)) (fun (x3 x4 x5 x6 x7 x8 x9 x10 : Int) (M1 : Mem) => ∃ n1 : Nat, n1 < (50 - i) * 1000 - 100 - j ∧ ∃ h i k j : Nat, x3 = (ce C 0 a : Int) ∧ x4 = (ce C 1 b : Int) ∧ x5 = ((chl C 1 b).length : Int) ∧ x6 = i ∧ x7 = delS C i ∧ x8 = AL (delS C) (insS C) (tdc C) ((chl C 0 a).take h).reverse ((chl C 1 b).take k).reverse ∧ x9 = (k : Int) + 1 ∧ x10 = j ∧ ChS C 0 a i ∧ i < ce C 0 a ∧ (chl C 0 a).drop h = chF C 0 a i ∧ ChS C 1 b j ∧ (chl C 1 b).drop k = chF C 1 b j ∧ k ≤ (chl C 1 b).length ∧ n1 = (50 - i) * 1000 - 100 - j ∧ Fr P22 M M1 ∧ Bd M1 ∧ (∀ k' : Nat, k' ≤ k → M1 13 22 k' = AL (delS C) (insS C) (tdc C) ((chl C 0 a).take (h + 1)).reverse ((chl C 1 b).take k').reverse) ∧ (∀ k' : Nat, k < k' → k' ≤ (chl C 1 b).length → M1 13 22 k' = AL (delS C) (insS C) (tdc C) ((chl C 0 a).take h).reverse ((chl C 1 b).take k').reverse)) Q := by
        intro s0 es
        subst es
        unfold wpj_X11_topOf_245
        rw [show ((k : Int) + 1).toNat = k + 1 from by omega]
        refine ⟨⟨by omega, by omega⟩, fun y53 e53 => ⟨⟨by omega, by omega⟩, fun M54 e54 => ⟨⟨by omega, by omega⟩, fun y57 e57 => ?_⟩⟩⟩
        have f54 : Fr P22 M M54 := e54 ▸ hF.set rfl
        rw [show (12 + (j : Int)).toNat = 12 + j from by omega, (hS.fr f54 rfl).s1 hjn] at e57
        refine ⟨(50 - i) * 1000 - 100 - ce C 1 j, by omega, h, i, k + 1, ce C 1 j, rfl, rfl, rfl, rfl, rfl, by rw [e53]; exact hr2 (k + 1) (by omega) (by omega), by omega, by omega, hi, hie, hd, q1, r2, by omega, rfl, f54, e54 ▸ hB1.set (by omega) (by omega), fun k' hk' => ?_, fun k' hk1 hk2 => ?_⟩
        · rw [e54, mset_i]
          by_cases c : k' = k + 1
          · rw [if_pos c, c]
          · rw [if_neg c]
            exact hr1 k' (by omega)
        · rw [e54, mset_ne (by omega)]
          exact hr2 k' (by omega) hk2
      rw [show ((k : Int) + 1).toNat = k + 1 from by omega, show ((k : Int) + 1 - 1).toNat = k from by omega, show (12 + (j : Int)).toNat = 12 + j from by omega, S1.s1 hjn, hr2 (k + 1) (by omega) (by omega), hr1 k (Nat.le_refl _)]
      refine ⟨⟨by omega, by omega⟩, ⟨by omega, by omega⟩, ⟨by omega, by omega⟩, sp_inserting hW C1 (i := j) (j := ce C 1 j) rfl (by omega) (by omega) (by omega) ?_⟩
      have is' : sm (cil C) j (ce C 1 j) = insS C j := rfl
      rw [is']
      refine sp_lesser ⟨by omega, by omega⟩ ⟨by omega, by omega⟩ (sp_alk C1 hB1 (p := i) (q := j) rfl rfl (by omega) (by omega) ⟨inR_ite _, fun g2 => J245 _ ?_, fun g2 => ?_⟩)
      · have ne : ¬ (C 2 i = C 2 (12 + j)) := fun z => by rw [if_pos z] at g2; cases g2
        have t0 : tdc C i j = 1000000 := if_neg ne
        rw [t0] at v
        omega
      · have ye : C 2 i = C 2 (12 + j) := Decidable.byContradiction (fun z => g2 (if_neg z))
        have t0 : tdc C i j = td C i j := if_pos ye
        have ht := hT i j hin hjn hai
        rw [← hF 13 21 (12 * i + j) rfl, if_pos ye] at ht
        rw [show (12 * (i : Int) + (j : Int)).toNat = 12 * i + j from by omega, ht]
        rw [t0] at v
        exact ⟨⟨by omega, by omega⟩, sp_lesser ⟨by omega, by omega⟩ ⟨by omega, by omega⟩ (J245 _ (by omega))⟩
/-- the top-down distance -/
def TDV (C : Nat → Nat → Int) : Int := if cn C 0 = 0 ∨ cn C 1 = 0 then sm (cdl C) 0 (cn C 0) + sm (cil C) 0 (cn C 1) else min (sm (cdl C) 0 (cn C 0) + sm (cil C) 0 (cn C 1)) (tdc C 0 0)
def PTp (o k : Nat) : Bool := o == 13 && (k == 4 || k == 21 || k == 22 || k == 23)
theorem sp_topDownM {M : Mem} {Q : Int → Mem → Prop} (hW : WF C) (hC : Core C M) (hB : Bd M) (K : ∀ M' : Mem, Fr PTp M M' → Bd M' → M' 13 23 0 = 0 → Q (TDV C) M') : wp_X11_topDownDistance M Q := by
  have n0 := hW.n12 (t := 0) (by omega)
  have n1 := hW.n12 (t := 1) (by omega)
  have sb0 := sm_bd (cdl C) (i := 0) (j := cn C 0) (fun k _ h => hW.dl h)
  have sb1 := sm_bd (cil C) (i := 0) (j := cn C 1) (fun k _ h => hW.il h)
  unfold wp_X11_topDownDistance
  refine ⟨fun n x1 x2 M1 => ∃ s : Nat, x1 = sm (cdl C) 0 (cn C 0) + sm (cil C) 0 (cn C 1) ∧ x2 = (s : Int) - 1 ∧ s ≤ cn C 0 ∧ n = s * 100 ∧ Fr PTp M M1 ∧ Bd M1 ∧ Sz C M1 ∧ M1 13 23 0 = 0 ∧ TpM C M1 (fun x _ => s ≤ x),
    fun n x1 x2 x3 M1 => ∃ a u : Nat, x1 = sm (cdl C) 0 (cn C 0) + sm (cil C) 0 (cn C 1) ∧ x2 = a ∧ x3 = (u : Int) - 1 ∧ a < cn C 0 ∧ u ≤ cn C 1 ∧ n = a * 100 + 1 + u ∧ Fr PTp M M1 ∧ Bd M1 ∧ Sz C M1 ∧ M1 13 23 0 = 0 ∧ TpM C M1 (fun x y => a < x ∨ x = a ∧ u ≤ y), ?_, ?_, ?_⟩
  · unfold wpe_X11_topDownDistance
    intro M1 e1
    have f1 : Fr PTp M M1 := e1 ▸ Fr.rf.set rfl
    have B1 : Bd M1 := e1 ▸ hB.set (by omega) (by omega)
    have t1 : M1 13 23 0 = 0 := by rw [e1, mset_eq]
    refine sp_measures hW (hC.fr f1 rfl rfl rfl rfl rfl rfl rfl) B1 (fun M3 F3 B3 S3 => ?_)
    have f3 : Fr PTp M M3 := f1.tr (F3.mono (fun o k h => by
      simp only [P4, Bool.and_eq_true, beq_iff_eq] at h
      simp only [PTp, Bool.and_eq_true, Bool.or_eq_true, beq_iff_eq]
      omega))
    have C3 : Core C M3 := hC.fr f3 rfl rfl rfl rfl rfl rfl rfl
    rw [C3 5 0 rfl, hW.n (t := 0) (by omega)]
    refine sp_deletingAll hW C3 (i := 0) (j := cn C 0) rfl rfl (Nat.zero_le _) (Nat.le_refl _) ?_
    rw [C3 5 1 rfl, hW.n (t := 1) (by omega)]
    refine sp_inserting hW C3 (i := 0) (j := cn C 1) rfl rfl (Nat.zero_le _) (Nat.le_refl _) (fun y8 e8 y9 e9 => ⟨_, cn C 0, e8, ?_, Nat.le_refl _, rfl, f3, B3, S3, by rw [F3 13 23 0 rfl]; exact t1, fun x y hx hy h => by omega⟩)
    rw [e9, C3 5 0 rfl, hW.n (t := 0) (by omega)]
  · intro n x1 x2 M1 ⟨s, e1, e2, hs, hn, hF, hB1, hS, h23, hT⟩
    subst e1; subst e2; subst hn
    have C1 : Core C M1 := hC.fr hF rfl rfl rfl rfl rfl rfl rfl
    unfold wph_X11_topDownDistance_42
    rw [C1 5 0 rfl, C1 5 1 rfl, hW.n (t := 0) (by omega), hW.n (t := 1) (by omega)]
    refine ⟨⟨by omega, by omega⟩, fun h => ⟨⟨by omega, by omega⟩, fun h2 => ?_, fun h2 => ⟨⟨by omega, by omega⟩, fun h3 => ?_, fun h3 => ?_⟩⟩, fun h y18 e18 => ⟨(s - 1) * 100 + 1 + cn C 1, by omega, s - 1, cn C 1, rfl, by omega, by omega, by omega, by omega, rfl, hF, hB1, hS, h23, fun x y hx hy hd => hT x y hx hy (by omega)⟩⟩
    · have := K M1 hF hB1 h23
      unfold TDV at this
      rwa [if_pos (Or.inl (by omega))] at this
    · have := K M1 hF hB1 h23
      unfold TDV at this
      rwa [if_pos (Or.inr (by omega))] at this
    · have ht := hT 0 0 (by omega) (by omega) (by omega)
      have := K M1 hF hB1 h23
      have tb := td_bd hW (a := 0) (b := 0) (by omega) (by omega)
      unfold TDV at this
      rw [if_neg (by omega)] at this
      rw [show 12 * 0 + 0 = 0 from rfl] at ht
      rw [ht]
      unfold tdc at this
      by_cases c : C 2 0 = C 2 (12 + 0)
      · rw [if_pos c] at this ⊢
        exact sp_lesser ⟨by omega, by omega⟩ ⟨by omega, by omega⟩ this
      · rw [if_neg c] at this ⊢
        refine sp_lesser ⟨by omega, by omega⟩ ⟨by omega, by omega⟩ ?_
        rw [show min (sm (cdl C) 0 (cn C 0) + sm (cil C) 0 (cn C 1)) 100000 = min (sm (cdl C) 0 (cn C 0) + sm (cil C) 0 (cn C 1)) 1000000 from by omega]
        exact this
  · intro n x1 x2 x3 M1 ⟨a, u, e1, e2, e3, ha, hu, hn, hF, hB1, hS, h23, hT⟩
    subst e1; subst e2; subst e3; subst hn
    have C1 : Core C M1 := hC.fr hF rfl rfl rfl rfl rfl rfl rfl
    unfold wph_X11_topDownDistance_55
    refine ⟨⟨by omega, by omega⟩, fun h => ⟨a * 100, by omega, a, rfl, by omega, by omega, rfl, hF, hB1, hS, h23, fun x y hx hy hd => hT x y hx hy (by omega)⟩, fun h => ?_⟩
    have hb : u - 1 < cn C 1 := by omega
    have go : ∀ (M2 : Mem) (s0 : Int), Fr P22 M1 M2 → Bd M2 → s0 = (if C 2 a = C 2 (12 + (u - 1)) then td C a (u - 1) else 100000) → wpj_X11_topDownDistance_89 (sm (cdl C) 0 (cn C 0) + sm (cil C) 0 (cn C 1)) (a : Int) ((u : Int) - 1) s0 ((12 * (a : Int)) + ((u : Int) - 1)) M2 (fun (x1 x2 : Int) (M1 : Mem) => ∃ n1 : Nat, n1 < a * 100 + 1 + u ∧ ∃ s : Nat, x1 = sm (cdl C) 0 (cn C 0) + sm (cil C) 0 (cn C 1) ∧ x2 = (s : Int) - 1 ∧ s ≤ cn C 0 ∧ n1 = s * 100 ∧ Fr PTp M M1 ∧ Bd M1 ∧ Sz C M1 ∧ M1 13 23 0 = 0 ∧ TpM C M1 (fun x _ => s ≤ x)) (fun (x1 x2 x3 : Int) (M1 : Mem) => ∃ n1 : Nat, n1 < a * 100 + 1 + u ∧ ∃ a u : Nat, x1 = sm (cdl C) 0 (cn C 0) + sm (cil C) 0 (cn C 1) ∧ x2 = a ∧ x3 = (u : Int) - 1 ∧ a < cn C 0 ∧ u ≤ cn C 1 ∧ n1 = a * 100 + 1 + u ∧ Fr PTp M M1 ∧ Bd M1 ∧ Sz C M1 ∧ M1 13 23 0 = 0 ∧ TpM C M1 (fun x y => a < x ∨ x = a ∧ u ≤ y)) Q := by
      intro M2 s0 F2 B2 es
      have tb := td_bd hW ha hb
      have sb : 0 ≤ s0 ∧ s0 ≤ 100000 := by
        rw [es]
        split <;> omega
      unfold wpj_X11_topDownDistance_89
      rw [show ((12 * (a : Int)) + ((u : Int) - 1)).toNat = 12 * a + (u - 1) from by omega]
      refine ⟨⟨by omega, by omega⟩, fun M27 e27 => ?_⟩
      have f2 : Fr PTp M M2 := hF.tr (F2.mono (fun o k h => by
        simp only [P22, Bool.and_eq_true, beq_iff_eq] at h
        simp only [PTp, Bool.and_eq_true, Bool.or_eq_true, beq_iff_eq]
        omega))
      subst e27
      have f3 : Fr (fun o k => o == 13 && k == 21) M2 (mset M2 13 21 (12 * a + (u - 1)) s0) := Fr.rf.set rfl
      refine ⟨a * 100 + 1 + (u - 1), by omega, a, u - 1, rfl, rfl, by omega, ha, by omega, rfl, f2.set rfl, B2.set (by omega) (by omega), (hS.fr F2 rfl).fr f3 rfl, by rw [f3 13 23 0 rfl, F2 13 23 0 rfl]; exact h23, fun x y hx hy hd => ?_⟩
      rw [mset_i]
      by_cases c : 12 * x + y = 12 * a + (u - 1)
      · have c1 : x = a := by omega
        have c2 : y = u - 1 := by omega
        rw [if_pos c, c1, c2, es]
      · rw [if_neg c, F2 13 21 _ rfl]
        refine hT x y hx hy ?_
        rcases hd with hd | hd
        · exact Or.inl hd
        · refine Or.inr ⟨hd.1, ?_⟩
          have := hd.1
          subst this
          omega
    refine sp_alk C1 hB1 (p := a) (q := u - 1) rfl (by omega) (by omega) (by omega) ⟨inR_ite _, fun g => go M1 _ Fr.rf hB1 ?_, fun g => sp_topOf hW C1 hB1 hS (fun x y hx hy hd => hT x y hx hy (Or.inl hd)) ha hb rfl (by omega) (fun M2 F2 B2 => go M2 _ F2 B2 ?_)⟩
    · have ne : ¬ (C 2 a = C 2 (12 + (u - 1))) := fun z => by rw [if_pos z] at g; cases g
      rw [if_neg ne]
    · have ye : C 2 a = C 2 (12 + (u - 1)) := Decidable.byContradiction (fun z => g (if_neg z))
      rw [if_pos ye]
end TD
