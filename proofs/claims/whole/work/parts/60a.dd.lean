/-! least costs of two rows of nodes: the first one's costs (ancestor tests, deleting, inserting, pairing) are a packet c -/
theorem mem_of_flt {p : Nat → Bool} {l : List Nat} {z : Nat} (h : z ∈ l.filter p) : z ∈ l := (List.mem_filter.mp h).1
abbrev CP : Type := (Nat → Nat → Bool) × (Nat → Nat → Bool) × (Nat → Int) × (Nat → Int) × (Nat → Nat → Int)
def dd (c : CP) : List Nat → List Nat → Int
  | [], [] => 0
  | x :: xs, [] => c.2.2.1 x + dd c xs []
  | [], y :: ys => c.2.2.2.1 y + dd c [] ys
  | x :: xs, y :: ys => min (min (c.2.2.1 x + dd c xs (y :: ys)) (c.2.2.2.1 y + dd c (x :: xs) ys)) (c.2.2.2.2 x y + dd c (xs.filter (fun z => c.1 x z)) (ys.filter (fun z => c.2.1 y z)) + dd c (xs.filter (fun z => !c.1 x z)) (ys.filter (fun z => !c.2.1 y z)))
termination_by xs ys => xs.length + ys.length
decreasing_by
  all_goals first
    | (simp only [List.length_cons]; omega)
    | (refine Nat.lt_of_le_of_lt (m := xs.length + ys.length) (Nat.add_le_add ?_ ?_) (by simp only [List.length_cons]; omega)
       · rw [List.length_unattach]
         exact Nat.le_trans (List.length_filter_le _ _) (Nat.le_of_eq List.length_attach)
       · rw [List.length_unattach]
         exact Nat.le_trans (List.length_filter_le _ _) (Nat.le_of_eq List.length_attach))
theorem dd_nn (c : CP) : dd c [] [] = 0 := by rw [dd]
theorem dd_cn (c : CP) (x : Nat) (xs : List Nat) : dd c (x :: xs) [] = c.2.2.1 x + dd c xs [] := by rw [dd]
theorem dd_nc (c : CP) (y : Nat) (ys : List Nat) : dd c [] (y :: ys) = c.2.2.2.1 y + dd c [] ys := by rw [dd]
theorem dd_cc (c : CP) (x : Nat) (xs : List Nat) (y : Nat) (ys : List Nat) : dd c (x :: xs) (y :: ys) = min (min (c.2.2.1 x + dd c xs (y :: ys)) (c.2.2.2.1 y + dd c (x :: xs) ys)) (c.2.2.2.2 x y + dd c (xs.filter (fun z => c.1 x z)) (ys.filter (fun z => c.2.1 y z)) + dd c (xs.filter (fun z => !c.1 x z)) (ys.filter (fun z => !c.2.1 y z))) := by rw [dd]
def csw (c : CP) : CP := (c.2.1, c.1, c.2.2.2.1, c.2.2.1, fun y x => c.2.2.2.2 x y)
theorem fl_le (p : Nat → Bool) (xs : List Nat) : (xs.filter p).length ≤ xs.length := List.length_filter_le p xs
theorem dd_swap (c : CP) : ∀ (N : Nat) (xs ys : List Nat), xs.length + ys.length ≤ N → dd c xs ys = dd (csw c) ys xs := by
  intro N
  induction N with
  | zero =>
    intro xs ys h
    have h1 : xs = [] := List.length_eq_zero_iff.mp (by omega)
    have h2 : ys = [] := List.length_eq_zero_iff.mp (by omega)
    subst h1; subst h2
    rw [dd_nn, dd_nn]
  | succ N ih =>
    intro xs ys h
    cases xs with
    | nil =>
      cases ys with
      | nil => rw [dd_nn, dd_nn]
      | cons y ys =>
        simp only [List.length_cons, List.length_nil] at h
        rw [dd_nc, dd_cn, ih [] ys (by simp only [List.length_nil]; omega)]
        rfl
    | cons x xs =>
      cases ys with
      | nil =>
        simp only [List.length_cons, List.length_nil] at h
        rw [dd_cn, dd_nc, ih xs [] (by simp only [List.length_nil]; omega)]
        rfl
      | cons y ys =>
        simp only [List.length_cons] at h
        have f1 := fl_le (fun z => c.1 x z) xs
        have f2 := fl_le (fun z => c.2.1 y z) ys
        have f3 := fl_le (fun z => !c.1 x z) xs
        have f4 := fl_le (fun z => !c.2.1 y z) ys
        rw [dd_cc c, dd_cc (csw c), ih xs (y :: ys) (by simp only [List.length_cons]; omega), ih (x :: xs) ys (by simp only [List.length_cons]; omega), ih _ _ (show (xs.filter (fun z => c.1 x z)).length + (ys.filter (fun z => c.2.1 y z)).length ≤ N by omega), ih _ _ (show (xs.filter (fun z => !c.1 x z)).length + (ys.filter (fun z => !c.2.1 y z)).length ≤ N by omega)]
        simp only [csw]
        omega
theorem dd_sw (c : CP) (xs ys : List Nat) : dd c xs ys = dd (csw c) ys xs := dd_swap c _ xs ys (Nat.le_refl _)
/-- the first of a row deleted -/
theorem dd_hl (c : CP) (x : Nat) (xs ys : List Nat) : dd c (x :: xs) ys ≤ c.2.2.1 x + dd c xs ys := by
  cases ys with
  | nil => rw [dd_cn]; omega
  | cons y ys => rw [dd_cc]; omega
theorem dd_hr (c : CP) (y : Nat) (xs ys : List Nat) : dd c xs (y :: ys) ≤ c.2.2.2.1 y + dd c xs ys := by
  cases xs with
  | nil => rw [dd_nc]; omega
  | cons x xs => rw [dd_cc]; omega
theorem dd_hp (c : CP) (x y : Nat) (xs ys : List Nat) : dd c (x :: xs) (y :: ys) ≤ c.2.2.2.2 x y + dd c (xs.filter (fun z => c.1 x z)) (ys.filter (fun z => c.2.1 y z)) + dd c (xs.filter (fun z => !c.1 x z)) (ys.filter (fun z => !c.2.1 y z)) := by
  rw [dd_cc]; omega
/-- any node deleted -/
theorem dd_dlN (c : CP) : ∀ (N : Nat) (A B ys : List Nat) (z : Nat), A.length + B.length + ys.length ≤ N → dd c (A ++ z :: B) ys ≤ c.2.2.1 z + dd c (A ++ B) ys := by
  intro N
  induction N with
  | zero =>
    intro A B ys z h
    have h1 : A = [] := List.length_eq_zero_iff.mp (by omega)
    subst h1
    exact dd_hl c z B ys
  | succ N ih =>
    intro A B ys z h
    cases A with
    | nil => exact dd_hl c z B ys
    | cons a A =>
      simp only [List.length_cons] at h
      cases ys with
      | nil =>
        simp only [List.cons_append]
        rw [dd_cn, dd_cn]
        have h1 := ih A B [] z (by simp only [List.length_nil] at h ⊢; omega)
        omega
      | cons y ys =>
        simp only [List.length_cons] at h
        have h1 := ih A B (y :: ys) z (by simp only [List.length_cons]; omega)
        have h2 := ih (a :: A) B ys z (by simp only [List.length_cons]; omega)
        simp only [List.cons_append] at h2 ⊢
        rw [dd_cc c a (A ++ z :: B), dd_cc c a (A ++ B)]
        have f1 := fl_le (fun z => c.1 a z) A
        have f2 := fl_le (fun z => c.1 a z) B
        have f3 := fl_le (fun z => !c.1 a z) A
        have f4 := fl_le (fun z => !c.1 a z) B
        have f5 := fl_le (fun z => c.2.1 y z) ys
        have f6 := fl_le (fun z => !c.2.1 y z) ys
        have h3 := ih (A.filter (fun z => c.1 a z)) (B.filter (fun z => c.1 a z)) (ys.filter (fun z => c.2.1 y z)) z (by omega)
        have h4 := ih (A.filter (fun z => !c.1 a z)) (B.filter (fun z => !c.1 a z)) (ys.filter (fun z => !c.2.1 y z)) z (by omega)
        simp only [List.filter_append, List.filter_cons]
        by_cases p : c.1 a z = true
        · simp only [p, if_true, Bool.not_true]
          simp only [Bool.false_eq_true, if_false]
          omega
        · simp only [Bool.not_eq_true] at p
          simp only [p, Bool.not_false, if_true]
          simp only [Bool.false_eq_true, if_false]
          omega
theorem dd_dl (c : CP) (A B ys : List Nat) (z : Nat) : dd c (A ++ z :: B) ys ≤ c.2.2.1 z + dd c (A ++ B) ys := dd_dlN c _ A B ys z (Nat.le_refl _)
theorem dd_il (c : CP) (xs A B : List Nat) (z : Nat) : dd c xs (A ++ z :: B) ≤ c.2.2.2.1 z + dd c xs (A ++ B) := by
  rw [dd_sw c xs (A ++ z :: B), dd_sw c xs (A ++ B)]
  exact dd_dl (csw c) A B xs z
/-- rows side by side: no node of the first part is above one of the second -/
theorem dd_catN (c : CP) : ∀ (N : Nat) (A B A' B' : List Nat), A.length + A'.length ≤ N → (∀ a ∈ A, ∀ b ∈ B, c.1 a b = false) → (∀ a ∈ A', ∀ b ∈ B', c.2.1 a b = false) → dd c (A ++ B) (A' ++ B') ≤ dd c A A' + dd c B B' := by
  intro N
  induction N with
  | zero =>
    intro A B A' B' h _ _
    have h1 : A = [] := List.length_eq_zero_iff.mp (by omega)
    have h2 : A' = [] := List.length_eq_zero_iff.mp (by omega)
    subst h1; subst h2
    rw [dd_nn]
    simp only [List.nil_append]
    omega
  | succ N ih =>
    intro A B A' B' h hA hB
    cases A with
    | nil =>
      cases A' with
      | nil =>
        rw [dd_nn]
        simp only [List.nil_append]
        omega
      | cons a' A' =>
        simp only [List.length_cons, List.length_nil] at h
        have h1 := ih [] B A' B' (by simp only [List.length_nil]; omega) hA (fun a ha => hB a (List.mem_cons_of_mem _ ha))
        have h2 := dd_hr c a' B (A' ++ B')
        rw [dd_nc]
        simp only [List.nil_append, List.cons_append] at h1 ⊢
        omega
    | cons a A =>
      cases A' with
      | nil =>
        simp only [List.length_cons, List.length_nil] at h
        have h1 := ih A B [] B' (by simp only [List.length_nil]; omega) (fun x hx => hA x (List.mem_cons_of_mem _ hx)) hB
        have h2 := dd_hl c a (A ++ B) B'
        rw [dd_cn]
        simp only [List.nil_append, List.cons_append] at h1 ⊢
        omega
      | cons a' A' =>
        simp only [List.length_cons] at h
        have h1 := ih A B (a' :: A') B' (by simp only [List.length_cons]; omega) (fun x hx => hA x (List.mem_cons_of_mem _ hx)) hB
        have h2 := ih (a :: A) B A' B' (by simp only [List.length_cons]; omega) hA (fun x hx => hB x (List.mem_cons_of_mem _ hx))
        have f3 := fl_le (fun z => !c.1 a z) A
        have f6 := fl_le (fun z => !c.2.1 a' z) A'
        have h3 := ih (A.filter (fun z => !c.1 a z)) B (A'.filter (fun z => !c.2.1 a' z)) B' (by omega) (fun x hx => hA x (List.mem_cons_of_mem _ (mem_of_flt hx))) (fun x hx => hB x (List.mem_cons_of_mem _ (mem_of_flt hx)))
        have e1 : B.filter (fun z => c.1 a z) = [] := List.filter_eq_nil_iff.mpr (fun b hb => by simp [hA a List.mem_cons_self b hb])
        have e2 : B.filter (fun z => !c.1 a z) = B := List.filter_eq_self.mpr (fun b hb => by simp [hA a List.mem_cons_self b hb])
        have e3 : B'.filter (fun z => c.2.1 a' z) = [] := List.filter_eq_nil_iff.mpr (fun b hb => by simp [hB a' List.mem_cons_self b hb])
        have e4 : B'.filter (fun z => !c.2.1 a' z) = B' := List.filter_eq_self.mpr (fun b hb => by simp [hB a' List.mem_cons_self b hb])
        simp only [List.cons_append] at h1 h2 ⊢
        rw [dd_cc c a (A ++ B), dd_cc c a A]
        simp only [List.filter_append, e1, e2, e3, e4, List.append_nil]
        omega
theorem dd_cat (c : CP) (A B A' B' : List Nat) (hA : ∀ a ∈ A, ∀ b ∈ B, c.1 a b = false) (hB : ∀ a ∈ A', ∀ b ∈ B', c.2.1 a b = false) : dd c (A ++ B) (A' ++ B') ≤ dd c A A' + dd c B B' := dd_catN c _ A B A' B' (Nat.le_refl _) hA hB
/-- the last roots of two rows paired -/
theorem dd_last (c : CP) (A B A' B' : List Nat) (r s : Nat) (hA : ∀ a ∈ A, ∀ b ∈ r :: B, c.1 a b = false) (hB : ∀ a ∈ A', ∀ b ∈ s :: B', c.2.1 a b = false) (hr : ∀ b ∈ B, c.1 r b = true) (hs : ∀ b ∈ B', c.2.1 s b = true) : dd c (A ++ r :: B) (A' ++ s :: B') ≤ c.2.2.2.2 r s + dd c B B' + dd c A A' := by
  have h1 := dd_cat c A (r :: B) A' (s :: B') hA hB
  have h2 := dd_hp c r s B B'
  rw [List.filter_eq_self.mpr (fun b hb => hr b hb), List.filter_eq_self.mpr (fun b hb => hs b hb), List.filter_eq_nil_iff.mpr (fun b hb => by simp [hr b hb]), List.filter_eq_nil_iff.mpr (fun b hb => by simp [hs b hb]), dd_nn] at h2
  omega
/-- the same costs under other names -/
theorem dd_mapN (c c' : CP) (f g : Nat → Nat) : ∀ (N : Nat) (xs ys : List Nat), xs.length + ys.length ≤ N → (∀ x ∈ xs, ∀ z ∈ xs, c.1 (f x) (f z) = c'.1 x z) → (∀ y ∈ ys, ∀ z ∈ ys, c.2.1 (g y) (g z) = c'.2.1 y z) → (∀ x ∈ xs, c.2.2.1 (f x) = c'.2.2.1 x) → (∀ y ∈ ys, c.2.2.2.1 (g y) = c'.2.2.2.1 y) → (∀ x ∈ xs, ∀ y ∈ ys, c.2.2.2.2 (f x) (g y) = c'.2.2.2.2 x y) → dd c (xs.map f) (ys.map g) = dd c' xs ys := by
  intro N
  induction N with
  | zero =>
    intro xs ys h _ _ _ _ _
    have h1 : xs = [] := List.length_eq_zero_iff.mp (by omega)
    have h2 : ys = [] := List.length_eq_zero_iff.mp (by omega)
    subst h1; subst h2
    simp only [List.map_nil]
    rw [dd_nn, dd_nn]
  | succ N ih =>
    intro xs ys h h1 h2 h3 h4 h5
    have T {p : Nat → Prop} {x : Nat} {xs : List Nat} (h : ∀ z ∈ x :: xs, p z) : ∀ z ∈ xs, p z := fun z hz => h z (List.mem_cons_of_mem _ hz)
    cases xs with
    | nil =>
      cases ys with
      | nil => simp only [List.map_nil]; rw [dd_nn, dd_nn]
      | cons y ys =>
        simp only [List.length_cons, List.length_nil] at h
        have e := ih [] ys (by simp only [List.length_nil]; omega) h1 (fun a ha => T (T h2 a ha)) h3 (T h4) (fun x hx => T (h5 x hx))
        simp only [List.map_nil, List.map_cons] at e ⊢
        rw [dd_nc, dd_nc, e, h4 y List.mem_cons_self]
    | cons x xs =>
      cases ys with
      | nil =>
        simp only [List.length_cons, List.length_nil] at h
        have e := ih xs [] (by simp only [List.length_nil]; omega) (fun a ha => T (T h1 a ha)) h2 (T h3) h4 (T h5)
        simp only [List.map_nil, List.map_cons] at e ⊢
        rw [dd_cn, dd_cn, e, h3 x List.mem_cons_self]
      | cons y ys =>
        simp only [List.length_cons] at h
        have g1 := fun a ha => T (T h1 a ha)
        have g2 := fun a ha => T (T h2 a ha)
        have e1 := ih xs (y :: ys) (by simp only [List.length_cons]; omega) g1 h2 (T h3) h4 (T h5)
        have e2 := ih (x :: xs) ys (by simp only [List.length_cons]; omega) h1 g2 h3 (T h4) (fun x hx => T (h5 x hx))
        have S {p : Nat → Prop} {q : Nat → Bool} {xs : List Nat} (h : ∀ z ∈ xs, p z) : ∀ z ∈ xs.filter q, p z := fun z hz => h z (mem_of_flt hz)
        have f1 := fl_le (fun z => c'.1 x z) xs
        have f2 := fl_le (fun z => c'.2.1 y z) ys
        have f3 := fl_le (fun z => !c'.1 x z) xs
        have f4 := fl_le (fun z => !c'.2.1 y z) ys
        have e3 := ih (xs.filter (fun z => c'.1 x z)) (ys.filter (fun z => c'.2.1 y z)) (by omega) (fun a ha => S (S g1 a ha)) (fun a ha => S (S g2 a ha)) (S (T h3)) (S (T h4)) (fun a ha => S (T (S (T h5) a ha)))
        have e4 := ih (xs.filter (fun z => !c'.1 x z)) (ys.filter (fun z => !c'.2.1 y z)) (by omega) (fun a ha => S (S g1 a ha)) (fun a ha => S (S g2 a ha)) (S (T h3)) (S (T h4)) (fun a ha => S (T (S (T h5) a ha)))
        have m1 : (xs.map f).filter (fun z => c.1 (f x) z) = (xs.filter (fun z => c'.1 x z)).map f := by
          rw [List.filter_map]
          exact congrArg _ (List.filter_congr (fun z hz => h1 x List.mem_cons_self z (List.mem_cons_of_mem _ hz)))
        have m2 : (ys.map g).filter (fun z => c.2.1 (g y) z) = (ys.filter (fun z => c'.2.1 y z)).map g := by
          rw [List.filter_map]
          exact congrArg _ (List.filter_congr (fun z hz => h2 y List.mem_cons_self z (List.mem_cons_of_mem _ hz)))
        have m3 : (xs.map f).filter (fun z => !c.1 (f x) z) = (xs.filter (fun z => !c'.1 x z)).map f := by
          rw [List.filter_map]
          exact congrArg _ (List.filter_congr (fun z hz => congrArg _ (h1 x List.mem_cons_self z (List.mem_cons_of_mem _ hz))))
        have m4 : (ys.map g).filter (fun z => !c.2.1 (g y) z) = (ys.filter (fun z => !c'.2.1 y z)).map g := by
          rw [List.filter_map]
          exact congrArg _ (List.filter_congr (fun z hz => congrArg _ (h2 y List.mem_cons_self z (List.mem_cons_of_mem _ hz))))
        simp only [List.map_cons] at e1 e2 ⊢
        rw [dd_cc c, dd_cc c', m1, m2, m3, m4, e1, e2, e3, e4, h3 x List.mem_cons_self, h4 y List.mem_cons_self, h5 x List.mem_cons_self y List.mem_cons_self]
theorem dd_map (c c' : CP) (f g : Nat → Nat) (xs ys : List Nat) (h1 : ∀ x ∈ xs, ∀ z ∈ xs, c.1 (f x) (f z) = c'.1 x z) (h2 : ∀ y ∈ ys, ∀ z ∈ ys, c.2.1 (g y) (g z) = c'.2.1 y z) (h3 : ∀ x ∈ xs, c.2.2.1 (f x) = c'.2.2.1 x) (h4 : ∀ y ∈ ys, c.2.2.2.1 (g y) = c'.2.2.2.1 y) (h5 : ∀ x ∈ xs, ∀ y ∈ ys, c.2.2.2.2 (f x) (g y) = c'.2.2.2.2 x y) : dd c (xs.map f) (ys.map g) = dd c' xs ys := dd_mapN c c' f g _ xs ys (Nat.le_refl _) h1 h2 h3 h4 h5
theorem dd_congr (c c' : CP) (xs ys : List Nat) (h1 : ∀ x ∈ xs, ∀ z ∈ xs, c.1 x z = c'.1 x z) (h2 : ∀ y ∈ ys, ∀ z ∈ ys, c.2.1 y z = c'.2.1 y z) (h3 : ∀ x ∈ xs, c.2.2.1 x = c'.2.2.1 x) (h4 : ∀ y ∈ ys, c.2.2.2.1 y = c'.2.2.2.1 y) (h5 : ∀ x ∈ xs, ∀ y ∈ ys, c.2.2.2.2 x y = c'.2.2.2.2 x y) : dd c xs ys = dd c' xs ys := by
  have h := dd_map c c' id id xs ys h1 h2 h3 h4 h5
  simpa using h
