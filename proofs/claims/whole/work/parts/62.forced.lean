/-! bounds of least costs; least costs with one pair that must be -/
def CBd (c : CP) (xs ys : List Nat) : Prop := (∀ x ∈ xs, 0 ≤ c.2.2.1 x ∧ c.2.2.1 x ≤ 50) ∧ (∀ y ∈ ys, 0 ≤ c.2.2.2.1 y ∧ c.2.2.2.1 y ≤ 50) ∧ ∀ x ∈ xs, ∀ y ∈ ys, 0 ≤ c.2.2.2.2 x y ∧ (c.2.2.2.2 x y ≤ 50 ∨ c.2.2.2.2 x y = 1000000)
theorem CBd.mono {c : CP} {xs ys xs' ys' : List Nat} (h : CBd c xs ys) (h1 : ∀ x ∈ xs', x ∈ xs) (h2 : ∀ y ∈ ys', y ∈ ys) : CBd c xs' ys' := ⟨fun x hx => h.1 x (h1 x hx), fun y hy => h.2.1 y (h2 y hy), fun x hx y hy => h.2.2 x (h1 x hx) y (h2 y hy)⟩
theorem CBd.tl {c : CP} {x : Nat} {xs ys : List Nat} (h : CBd c (x :: xs) ys) : CBd c xs ys := h.mono (fun _ hz => List.mem_cons_of_mem _ hz) (fun _ hz => hz)
theorem CBd.tr {c : CP} {y : Nat} {xs ys : List Nat} (h : CBd c xs (y :: ys)) : CBd c xs ys := h.mono (fun _ hz => hz) (fun _ hz => List.mem_cons_of_mem _ hz)
theorem CBd.fl {c : CP} {xs ys : List Nat} (h : CBd c xs ys) (p q : Nat → Bool) : CBd c (xs.filter p) (ys.filter q) := h.mono (fun _ hz => mem_of_flt hz) (fun _ hz => mem_of_flt hz)
theorem fl_sum (p : Nat → Bool) : ∀ xs : List Nat, (xs.filter p).length + (xs.filter (fun z => !p z)).length = xs.length := by
  intro xs
  induction xs with
  | nil => rfl
  | cons x xs ih =>
    simp only [List.filter_cons]
    by_cases c : p x = true
    · simp only [c, if_true, Bool.not_true, Bool.false_eq_true, if_false, List.length_cons]
      omega
    · simp only [Bool.not_eq_true] at c
      simp only [c, Bool.false_eq_true, if_false, Bool.not_false, if_true, List.length_cons]
      omega
theorem dd_bdN (c : CP) : ∀ (N : Nat) (xs ys : List Nat), xs.length + ys.length ≤ N → CBd c xs ys → 0 ≤ dd c xs ys ∧ dd c xs ys ≤ 50 * ((xs.length : Int) + ys.length) := by
  intro N
  induction N with
  | zero =>
    intro xs ys h _
    have h1 : xs = [] := List.length_eq_zero_iff.mp (by omega)
    have h2 : ys = [] := List.length_eq_zero_iff.mp (by omega)
    subst h1; subst h2
    rw [dd_nn]
    simp
  | succ N ih =>
    intro xs ys h hb
    cases xs with
    | nil =>
      cases ys with
      | nil => rw [dd_nn]; simp
      | cons y ys =>
        simp only [List.length_cons, List.length_nil] at h ⊢
        have a := ih [] ys (by simp only [List.length_nil]; omega) hb.tr
        have b := hb.2.1 y List.mem_cons_self
        simp only [List.length_nil] at a
        rw [dd_nc]
        omega
    | cons x xs =>
      cases ys with
      | nil =>
        simp only [List.length_cons, List.length_nil] at h ⊢
        have a := ih xs [] (by simp only [List.length_nil]; omega) hb.tl
        have b := hb.1 x List.mem_cons_self
        simp only [List.length_nil] at a
        rw [dd_cn]
        omega
      | cons y ys =>
        simp only [List.length_cons] at h
        have a1 := ih xs (y :: ys) (by simp only [List.length_cons]; omega) hb.tl
        have a2 := ih (x :: xs) ys (by simp only [List.length_cons]; omega) hb.tr
        have f1 := fl_le (fun z => c.1 x z) xs
        have f2 := fl_le (fun z => c.2.1 y z) ys
        have f3 := fl_le (fun z => !c.1 x z) xs
        have f4 := fl_le (fun z => !c.2.1 y z) ys
        have a3 := ih (xs.filter (fun z => c.1 x z)) (ys.filter (fun z => c.2.1 y z)) (by omega) (hb.tl.tr.fl _ _)
        have a4 := ih (xs.filter (fun z => !c.1 x z)) (ys.filter (fun z => !c.2.1 y z)) (by omega) (hb.tl.tr.fl _ _)
        have b1 := hb.1 x List.mem_cons_self
        have b2 := hb.2.1 y List.mem_cons_self
        have b3 := hb.2.2 x List.mem_cons_self y List.mem_cons_self
        simp only [List.length_cons] at a1 a2 ⊢
        rw [dd_cc]
        omega
theorem dd_bd {c : CP} {xs ys : List Nat} (h : CBd c xs ys) : 0 ≤ dd c xs ys ∧ dd c xs ys ≤ 50 * ((xs.length : Int) + ys.length) := dd_bdN c _ xs ys (Nat.le_refl _) h
/-- least costs, capped, of two rows in which a and b can only be paired with one another -/
def df (c : CP) (a b : Int) : List Nat → List Nat → Int
  | [], [] => 0
  | x :: xs, [] => min 100000 (if (x : Int) = a then 100000 else c.2.2.1 x + df c a b xs [])
  | [], y :: ys => min 100000 (if (y : Int) = b then 100000 else c.2.2.2.1 y + df c a b [] ys)
  | x :: xs, y :: ys => min (min (min 100000 (if (x : Int) = a then 100000 else c.2.2.1 x + df c a b xs (y :: ys))) (if (y : Int) = b then 100000 else c.2.2.2.1 y + df c a b (x :: xs) ys)) (if c.2.2.2.2 x y < 1000000 ∧ ((x : Int) = a ↔ (y : Int) = b) then c.2.2.2.2 x y + df c a b (xs.filter (fun z => c.1 x z)) (ys.filter (fun z => c.2.1 y z)) + df c a b (xs.filter (fun z => !c.1 x z)) (ys.filter (fun z => !c.2.1 y z)) else 100000)
termination_by xs ys => xs.length + ys.length
decreasing_by
  all_goals first
    | (simp only [List.length_cons]; omega)
    | (refine Nat.lt_of_le_of_lt (m := xs.length + ys.length) (Nat.add_le_add ?_ ?_) (by simp only [List.length_cons]; omega)
       · rw [List.length_unattach]
         exact Nat.le_trans (List.length_filter_le _ _) (Nat.le_of_eq List.length_attach)
       · rw [List.length_unattach]
         exact Nat.le_trans (List.length_filter_le _ _) (Nat.le_of_eq List.length_attach))
theorem df_nn (c : CP) (a b : Int) : df c a b [] [] = 0 := by rw [df]
theorem df_cn (c : CP) (a b : Int) (x : Nat) (xs : List Nat) : df c a b (x :: xs) [] = min 100000 (if (x : Int) = a then 100000 else c.2.2.1 x + df c a b xs []) := by rw [df]
theorem df_nc (c : CP) (a b : Int) (y : Nat) (ys : List Nat) : df c a b [] (y :: ys) = min 100000 (if (y : Int) = b then 100000 else c.2.2.2.1 y + df c a b [] ys) := by rw [df]
theorem df_cc (c : CP) (a b : Int) (x : Nat) (xs : List Nat) (y : Nat) (ys : List Nat) : df c a b (x :: xs) (y :: ys) = min (min (min 100000 (if (x : Int) = a then 100000 else c.2.2.1 x + df c a b xs (y :: ys))) (if (y : Int) = b then 100000 else c.2.2.2.1 y + df c a b (x :: xs) ys)) (if c.2.2.2.2 x y < 1000000 ∧ ((x : Int) = a ↔ (y : Int) = b) then c.2.2.2.2 x y + df c a b (xs.filter (fun z => c.1 x z)) (ys.filter (fun z => c.2.1 y z)) + df c a b (xs.filter (fun z => !c.1 x z)) (ys.filter (fun z => !c.2.1 y z)) else 100000) := by rw [df]
theorem df_noneN (c : CP) (a b : Int) : ∀ (N : Nat) (xs ys : List Nat), xs.length + ys.length ≤ N → xs.length + ys.length ≤ 24 → CBd c xs ys → (∀ x ∈ xs, (x : Int) ≠ a) → (∀ y ∈ ys, (y : Int) ≠ b) → df c a b xs ys = dd c xs ys := by
  intro N
  induction N with
  | zero =>
    intro xs ys h _ _ _ _
    have h1 : xs = [] := List.length_eq_zero_iff.mp (by omega)
    have h2 : ys = [] := List.length_eq_zero_iff.mp (by omega)
    subst h1; subst h2
    rw [dd_nn, df_nn]
  | succ N ih =>
    intro xs ys h h24 hb hx hy
    have T {p : Nat → Prop} {x : Nat} {xs : List Nat} (h : ∀ z ∈ x :: xs, p z) : ∀ z ∈ xs, p z := fun z hz => h z (List.mem_cons_of_mem _ hz)
    have S {p : Nat → Prop} {q : Nat → Bool} {xs : List Nat} (h : ∀ z ∈ xs, p z) : ∀ z ∈ xs.filter q, p z := fun z hz => h z (mem_of_flt hz)
    have BD := dd_bd hb
    cases xs with
    | nil =>
      cases ys with
      | nil => rw [dd_nn, df_nn]
      | cons y ys =>
        simp only [List.length_cons, List.length_nil] at h h24 BD
        have e := ih [] ys (by simp only [List.length_nil]; omega) (by simp only [List.length_nil]; omega) hb.tr hx (T hy)
        have b2 := hb.2.1 y List.mem_cons_self
        rw [dd_nc] at BD ⊢
        rw [df_nc, if_neg (hy y List.mem_cons_self), e]
        omega
    | cons x xs =>
      cases ys with
      | nil =>
        simp only [List.length_cons, List.length_nil] at h h24 BD
        have e := ih xs [] (by simp only [List.length_nil]; omega) (by simp only [List.length_nil]; omega) hb.tl (T hx) hy
        have b1 := hb.1 x List.mem_cons_self
        rw [dd_cn] at BD ⊢
        rw [df_cn, if_neg (hx x List.mem_cons_self), e]
        omega
      | cons y ys =>
        simp only [List.length_cons] at h h24 BD
        have f1 := fl_le (fun z => c.1 x z) xs
        have f2 := fl_le (fun z => c.2.1 y z) ys
        have f3 := fl_le (fun z => !c.1 x z) xs
        have f4 := fl_le (fun z => !c.2.1 y z) ys
        have e1 := ih xs (y :: ys) (by simp only [List.length_cons]; omega) (by simp only [List.length_cons]; omega) hb.tl (T hx) hy
        have e2 := ih (x :: xs) ys (by simp only [List.length_cons]; omega) (by simp only [List.length_cons]; omega) hb.tr hx (T hy)
        have e3 := ih (xs.filter (fun z => c.1 x z)) (ys.filter (fun z => c.2.1 y z)) (by omega) (by omega) (hb.tl.tr.fl _ _) (S (T hx)) (S (T hy))
        have e4 := ih (xs.filter (fun z => !c.1 x z)) (ys.filter (fun z => !c.2.1 y z)) (by omega) (by omega) (hb.tl.tr.fl _ _) (S (T hx)) (S (T hy))
        have b3 := hb.2.2 x List.mem_cons_self y List.mem_cons_self
        have d3 := dd_bd (hb.tl.tr.fl (fun z => c.1 x z) (fun z => c.2.1 y z))
        have d4 := dd_bd (hb.tl.tr.fl (fun z => !c.1 x z) (fun z => !c.2.1 y z))
        rw [dd_cc] at BD ⊢
        rw [df_cc, if_neg (hx x List.mem_cons_self), if_neg (hy y List.mem_cons_self), e1, e2, e3, e4]
        have hxy : ((x : Int) = a ↔ (y : Int) = b) := ⟨fun z => absurd z (hx x List.mem_cons_self), fun z => absurd z (hy y List.mem_cons_self)⟩
        by_cases q : c.2.2.2.2 x y < 1000000
        · rw [if_pos ⟨q, hxy⟩]
          omega
        · rw [if_neg (fun z => q z.1)]
          omega
theorem df_none {c : CP} {a b : Int} {xs ys : List Nat} (h : xs.length + ys.length ≤ 24) (hb : CBd c xs ys) (hx : ∀ x ∈ xs, (x : Int) ≠ a) (hy : ∀ y ∈ ys, (y : Int) ≠ b) : df c a b xs ys = dd c xs ys := df_noneN c a b _ xs ys (Nat.le_refl _) h hb hx hy
theorem df_posN (c : CP) (a b : Int) : ∀ (N : Nat) (xs ys : List Nat), xs.length + ys.length ≤ N → CBd c xs ys → 0 ≤ df c a b xs ys ∧ df c a b xs ys ≤ 100000 := by
  intro N
  induction N with
  | zero =>
    intro xs ys h _
    have h1 : xs = [] := List.length_eq_zero_iff.mp (by omega)
    have h2 : ys = [] := List.length_eq_zero_iff.mp (by omega)
    subst h1; subst h2
    rw [df_nn]
    omega
  | succ N ih =>
    intro xs ys h hb
    cases xs with
    | nil =>
      cases ys with
      | nil => rw [df_nn]; omega
      | cons y ys =>
        simp only [List.length_cons, List.length_nil] at h
        have e := ih [] ys (by simp only [List.length_nil]; omega) hb.tr
        have b2 := hb.2.1 y List.mem_cons_self
        rw [df_nc]
        split <;> omega
    | cons x xs =>
      cases ys with
      | nil =>
        simp only [List.length_cons, List.length_nil] at h
        have e := ih xs [] (by simp only [List.length_nil]; omega) hb.tl
        have b1 := hb.1 x List.mem_cons_self
        rw [df_cn]
        split <;> omega
      | cons y ys =>
        simp only [List.length_cons] at h
        have f1 := fl_le (fun z => c.1 x z) xs
        have f2 := fl_le (fun z => c.2.1 y z) ys
        have f3 := fl_le (fun z => !c.1 x z) xs
        have f4 := fl_le (fun z => !c.2.1 y z) ys
        have e1 := ih xs (y :: ys) (by simp only [List.length_cons]; omega) hb.tl
        have e2 := ih (x :: xs) ys (by simp only [List.length_cons]; omega) hb.tr
        have e3 := ih (xs.filter (fun z => c.1 x z)) (ys.filter (fun z => c.2.1 y z)) (by omega) (hb.tl.tr.fl _ _)
        have e4 := ih (xs.filter (fun z => !c.1 x z)) (ys.filter (fun z => !c.2.1 y z)) (by omega) (hb.tl.tr.fl _ _)
        have b1 := hb.1 x List.mem_cons_self
        have b2 := hb.2.1 y List.mem_cons_self
        have b3 := hb.2.2 x List.mem_cons_self y List.mem_cons_self
        rw [df_cc]
        split <;> split <;> split <;> omega
theorem df_pos {c : CP} {a b : Int} {xs ys : List Nat} (h : CBd c xs ys) : 0 ≤ df c a b xs ys ∧ df c a b xs ys ≤ 100000 := df_posN c a b _ xs ys (Nat.le_refl _) h
theorem fl_or {z : Nat} {xs : List Nat} (p : Nat → Bool) (h : z ∈ xs) : z ∈ xs.filter p ∨ z ∈ xs.filter (fun z => !p z) := by
  cases c : p z with
  | true => exact Or.inl (List.mem_filter.mpr ⟨h, c⟩)
  | false => exact Or.inr (List.mem_filter.mpr ⟨h, by simp [c]⟩)
/-- one of the two that must be paired is wanting -/
theorem df_oneN (c : CP) (a b : Nat) : ∀ (N : Nat) (xs ys : List Nat), xs.length + ys.length ≤ N → CBd c xs ys → ((a ∈ xs ∧ b ∉ ys) ∨ (a ∉ xs ∧ b ∈ ys)) → df c a b xs ys = 100000 := by
  intro N
  induction N with
  | zero =>
    intro xs ys h _ hab
    have h1 : xs = [] := List.length_eq_zero_iff.mp (by omega)
    have h2 : ys = [] := List.length_eq_zero_iff.mp (by omega)
    subst h1; subst h2
    rcases hab with ⟨z, _⟩ | ⟨_, z⟩ <;> cases z
  | succ N ih =>
    intro xs ys h hb hab
    cases xs with
    | nil =>
      cases ys with
      | nil => rcases hab with ⟨z, _⟩ | ⟨_, z⟩ <;> cases z
      | cons y ys =>
        simp only [List.length_cons, List.length_nil] at h
        have b2 := hb.2.1 y List.mem_cons_self
        rw [df_nc]
        by_cases q : (y : Int) = b
        · rw [if_pos q]; omega
        · rw [if_neg q, ih [] ys (by simp only [List.length_nil]; omega) hb.tr ?_]
          · omega
          · rcases hab with ⟨z, _⟩ | ⟨z1, z2⟩
            · cases z
            · refine Or.inr ⟨z1, ?_⟩
              rcases List.mem_cons.mp z2 with e | e
              · exact absurd (by rw [e]) q
              · exact e
    | cons x xs =>
      cases ys with
      | nil =>
        simp only [List.length_cons, List.length_nil] at h
        have b1 := hb.1 x List.mem_cons_self
        rw [df_cn]
        by_cases q : (x : Int) = a
        · rw [if_pos q]; omega
        · rw [if_neg q, ih xs [] (by simp only [List.length_nil]; omega) hb.tl ?_]
          · omega
          · rcases hab with ⟨z1, z2⟩ | ⟨_, z⟩
            · refine Or.inl ⟨?_, z2⟩
              rcases List.mem_cons.mp z1 with e | e
              · exact absurd (by rw [e]) q
              · exact e
            · cases z
      | cons y ys =>
        simp only [List.length_cons] at h
        have f1 := fl_le (fun z => c.1 x z) xs
        have f2 := fl_le (fun z => c.2.1 y z) ys
        have f3 := fl_le (fun z => !c.1 x z) xs
        have f4 := fl_le (fun z => !c.2.1 y z) ys
        have b1 := hb.1 x List.mem_cons_self
        have b2 := hb.2.1 y List.mem_cons_self
        have b3 := hb.2.2 x List.mem_cons_self y List.mem_cons_self
        have g3 := df_pos (a := a) (b := b) (hb.tl.tr.fl (fun z => c.1 x z) (fun z => c.2.1 y z))
        have g4 := df_pos (a := a) (b := b) (hb.tl.tr.fl (fun z => !c.1 x z) (fun z => !c.2.1 y z))
        have O1 : 100000 ≤ (if (x : Int) = a then 100000 else c.2.2.1 x + df c a b xs (y :: ys)) := by
          by_cases q : (x : Int) = a
          · rw [if_pos q]; omega
          · rw [if_neg q, ih xs (y :: ys) (by simp only [List.length_cons]; omega) hb.tl ?_]
            · omega
            · rcases hab with ⟨z1, z2⟩ | ⟨z1, z2⟩
              · refine Or.inl ⟨?_, z2⟩
                rcases List.mem_cons.mp z1 with e | e
                · exact absurd (by rw [e]) q
                · exact e
              · exact Or.inr ⟨fun z => z1 (List.mem_cons_of_mem _ z), z2⟩
        have O2 : 100000 ≤ (if (y : Int) = b then 100000 else c.2.2.2.1 y + df c a b (x :: xs) ys) := by
          by_cases q : (y : Int) = b
          · rw [if_pos q]; omega
          · rw [if_neg q, ih (x :: xs) ys (by simp only [List.length_cons]; omega) hb.tr ?_]
            · omega
            · rcases hab with ⟨z1, z2⟩ | ⟨z1, z2⟩
              · exact Or.inl ⟨z1, fun z => z2 (List.mem_cons_of_mem _ z)⟩
              · refine Or.inr ⟨z1, ?_⟩
                rcases List.mem_cons.mp z2 with e | e
                · exact absurd (by rw [e]) q
                · exact e
        have O3 : 100000 ≤ (if c.2.2.2.2 x y < 1000000 ∧ ((x : Int) = a ↔ (y : Int) = b) then c.2.2.2.2 x y + df c a b (xs.filter (fun z => c.1 x z)) (ys.filter (fun z => c.2.1 y z)) + df c a b (xs.filter (fun z => !c.1 x z)) (ys.filter (fun z => !c.2.1 y z)) else 100000) := by
          split
          · rename_i hq
            rcases hab with ⟨z1, z2⟩ | ⟨z1, z2⟩
            · have hy : ¬ ((y : Int) = b) := fun e => z2 (by rw [show b = y from by omega]; exact List.mem_cons_self)
              have hx : ¬ ((x : Int) = a) := fun e => hy (hq.2.mp e)
              have m : a ∈ xs := by
                rcases List.mem_cons.mp z1 with e | e
                · exact absurd (by rw [e]) hx
                · exact e
              have m2 : b ∉ ys := fun z => z2 (List.mem_cons_of_mem _ z)
              rcases fl_or (fun z => c.1 x z) m with w | w
              · have e := ih _ _ (by omega) (hb.tl.tr.fl (fun z => c.1 x z) (fun z => c.2.1 y z)) (Or.inl ⟨w, fun z => m2 (mem_of_flt z)⟩)
                omega
              · have e := ih _ _ (by omega) (hb.tl.tr.fl (fun z => !c.1 x z) (fun z => !c.2.1 y z)) (Or.inl ⟨w, fun z => m2 (mem_of_flt z)⟩)
                omega
            · have hx : ¬ ((x : Int) = a) := fun e => z1 (by rw [show a = x from by omega]; exact List.mem_cons_self)
              have hy : ¬ ((y : Int) = b) := fun e => hx (hq.2.mpr e)
              have m : b ∈ ys := by
                rcases List.mem_cons.mp z2 with e | e
                · exact absurd (by rw [e]) hy
                · exact e
              have m2 : a ∉ xs := fun z => z1 (List.mem_cons_of_mem _ z)
              rcases fl_or (fun z => c.2.1 y z) m with w | w
              · have e := ih _ _ (by omega) (hb.tl.tr.fl (fun z => c.1 x z) (fun z => c.2.1 y z)) (Or.inr ⟨fun z => m2 (mem_of_flt z), w⟩)
                omega
              · have e := ih _ _ (by omega) (hb.tl.tr.fl (fun z => !c.1 x z) (fun z => !c.2.1 y z)) (Or.inr ⟨fun z => m2 (mem_of_flt z), w⟩)
                omega
          · omega
        rw [df_cc]
        omega
theorem df_one {c : CP} {a b : Nat} {xs ys : List Nat} (hb : CBd c xs ys) (h : (a ∈ xs ∧ b ∉ ys) ∨ (a ∉ xs ∧ b ∈ ys)) : df c a b xs ys = 100000 := df_oneN c a b _ xs ys (Nat.le_refl _) hb h
/-- the packet with one pair made so cheap that every cheapest mapping has it -/
def cfav (c : CP) (a b : Nat) : CP := (c.1, c.2.1, c.2.2.1, c.2.2.2.1, fun x y => if x = a ∧ y = b then c.2.2.2.2 x y - 1000000 else c.2.2.2.2 x y)
theorem dd_fav_none (c : CP) (a b : Nat) {xs ys : List Nat} (h : a ∉ xs ∨ b ∉ ys) : dd (cfav c a b) xs ys = dd c xs ys := by
  refine dd_congr (cfav c a b) c xs ys (fun _ _ _ _ => rfl) (fun _ _ _ _ => rfl) (fun _ _ => rfl) (fun _ _ => rfl) (fun x hx y hy => ?_)
  exact if_neg (fun z => by
    rcases h with e | e
    · exact e (z.1 ▸ hx)
    · exact e (z.2 ▸ hy))
set_option maxHeartbeats 8000000 in
theorem df_bothN (c : CP) (a b : Nat) : ∀ (N : Nat) (xs ys : List Nat), xs.length + ys.length ≤ N → xs.length + ys.length ≤ 24 → CBd c xs ys → xs.Nodup → ys.Nodup → a ∈ xs → b ∈ ys → c.2.2.2.2 a b ≤ 50 → df c a b xs ys ≤ 50 * ((xs.length : Int) + ys.length) ∧ dd (cfav c a b) xs ys = df c a b xs ys - 1000000 := by
  intro N
  induction N with
  | zero =>
    intro xs ys h _ _ _ _ ha _ _
    have h1 : xs = [] := List.length_eq_zero_iff.mp (by omega)
    subst h1
    cases ha
  | succ N ih =>
    intro xs ys h h24 hb nx ny ha hbb hab
    cases xs with
    | nil => cases ha
    | cons x xs =>
      cases ys with
      | nil => cases hbb
      | cons y ys =>
        simp only [List.length_cons] at h h24 ⊢
        have f1 := fl_le (fun z => c.1 x z) xs
        have f2 := fl_le (fun z => c.2.1 y z) ys
        have f3 := fl_le (fun z => !c.1 x z) xs
        have f4 := fl_le (fun z => !c.2.1 y z) ys
        have s1 := fl_sum (fun z => c.1 x z) xs
        have s2 := fl_sum (fun z => c.2.1 y z) ys
        have b1 := hb.1 x List.mem_cons_self
        have b2 := hb.2.1 y List.mem_cons_self
        have b3 := hb.2.2 x List.mem_cons_self y List.mem_cons_self
        have nx' := List.nodup_cons.mp nx
        have ny' := List.nodup_cons.mp ny
        have B3 := hb.tl.tr.fl (fun z => c.1 x z) (fun z => c.2.1 y z)
        have B4 := hb.tl.tr.fl (fun z => !c.1 x z) (fun z => !c.2.1 y z)
        have p3 := df_pos (a := a) (b := b) B3
        have p4 := df_pos (a := a) (b := b) B4
        have d3 := dd_bd B3
        have d4 := dd_bd B4
        -- three options: each is real in both, or real in neither
        have O1 : ((x : Int) ≠ a ∧ dd (cfav c a b) xs (y :: ys) = df c a b xs (y :: ys) - 1000000 ∧ df c a b xs (y :: ys) ≤ 50 * ((xs.length : Int) + (ys.length + 1)) ∧ 0 ≤ df c a b xs (y :: ys)) ∨ ((x : Int) = a ∧ 0 ≤ dd (cfav c a b) xs (y :: ys)) := by
          by_cases q : (x : Int) = a
          · have e : x = a := by omega
            have m : a ∉ xs := e ▸ nx'.1
            refine Or.inr ⟨q, ?_⟩
            rw [dd_fav_none c a b (Or.inl m)]
            exact (dd_bd hb.tl).1
          · have m : a ∈ xs := by
              rcases List.mem_cons.mp ha with e | e
              · exact absurd (by rw [e]) q
              · exact e
            have e := ih xs (y :: ys) (by simp only [List.length_cons]; omega) (by simp only [List.length_cons]; omega) hb.tl nx'.2 ny m hbb hab
            simp only [List.length_cons] at e
            exact Or.inl ⟨q, e.2, by omega, (df_pos hb.tl).1⟩
        have O2 : ((y : Int) ≠ b ∧ dd (cfav c a b) (x :: xs) ys = df c a b (x :: xs) ys - 1000000 ∧ df c a b (x :: xs) ys ≤ 50 * ((xs.length : Int) + 1 + ys.length) ∧ 0 ≤ df c a b (x :: xs) ys) ∨ ((y : Int) = b ∧ 0 ≤ dd (cfav c a b) (x :: xs) ys) := by
          by_cases q : (y : Int) = b
          · have e : y = b := by omega
            have m : b ∉ ys := e ▸ ny'.1
            refine Or.inr ⟨q, ?_⟩
            rw [dd_fav_none c a b (Or.inr m)]
            exact (dd_bd hb.tr).1
          · have m : b ∈ ys := by
              rcases List.mem_cons.mp hbb with e | e
              · exact absurd (by rw [e]) q
              · exact e
            have e := ih (x :: xs) ys (by simp only [List.length_cons]; omega) (by simp only [List.length_cons]; omega) hb.tr nx ny'.2 ha m hab
            simp only [List.length_cons] at e
            exact Or.inl ⟨q, e.2, by omega, (df_pos hb.tr).1⟩
        have O3 : ((c.2.2.2.2 x y < 1000000 ∧ ((x : Int) = a ↔ (y : Int) = b)) ∧ (cfav c a b).2.2.2.2 x y + dd (cfav c a b) (xs.filter (fun z => c.1 x z)) (ys.filter (fun z => c.2.1 y z)) + dd (cfav c a b) (xs.filter (fun z => !c.1 x z)) (ys.filter (fun z => !c.2.1 y z)) = c.2.2.2.2 x y + df c a b (xs.filter (fun z => c.1 x z)) (ys.filter (fun z => c.2.1 y z)) + df c a b (xs.filter (fun z => !c.1 x z)) (ys.filter (fun z => !c.2.1 y z)) - 1000000) ∨ (0 ≤ (cfav c a b).2.2.2.2 x y + dd (cfav c a b) (xs.filter (fun z => c.1 x z)) (ys.filter (fun z => c.2.1 y z)) + dd (cfav c a b) (xs.filter (fun z => !c.1 x z)) (ys.filter (fun z => !c.2.1 y z)) ∧ ((c.2.2.2.2 x y < 1000000 ∧ ((x : Int) = a ↔ (y : Int) = b)) → 100000 ≤ c.2.2.2.2 x y + df c a b (xs.filter (fun z => c.1 x z)) (ys.filter (fun z => c.2.1 y z)) + df c a b (xs.filter (fun z => !c.1 x z)) (ys.filter (fun z => !c.2.1 y z)))) := by
          have NI : ∀ (l : List Nat) (z : Nat), z ∉ l → ∀ w ∈ l, (w : Int) ≠ (z : Int) := fun l z hz w hw e => hz (by rw [show z = w from by omega]; exact hw)
          by_cases qx : x = a
          · have m : a ∉ xs := qx ▸ nx'.1
            have g3 := dd_fav_none c a b (xs := xs.filter (fun z => c.1 x z)) (ys := ys.filter (fun z => c.2.1 y z)) (Or.inl (fun z => m (mem_of_flt z)))
            have g4 := dd_fav_none c a b (xs := xs.filter (fun z => !c.1 x z)) (ys := ys.filter (fun z => !c.2.1 y z)) (Or.inl (fun z => m (mem_of_flt z)))
            by_cases qy : y = b
            · have m2 : b ∉ ys := qy ▸ ny'.1
              have e3 := df_none (a := (a : Int)) (b := (b : Int)) (xs := xs.filter (fun z => c.1 x z)) (ys := ys.filter (fun z => c.2.1 y z)) (by omega) B3 (NI _ a (fun z => m (mem_of_flt z))) (NI _ b (fun z => m2 (mem_of_flt z)))
              have e4 := df_none (a := (a : Int)) (b := (b : Int)) (xs := xs.filter (fun z => !c.1 x z)) (ys := ys.filter (fun z => !c.2.1 y z)) (by omega) B4 (NI _ a (fun z => m (mem_of_flt z))) (NI _ b (fun z => m2 (mem_of_flt z)))
              have hp : (cfav c a b).2.2.2.2 x y = c.2.2.2.2 x y - 1000000 := if_pos ⟨qx, qy⟩
              have hab' : c.2.2.2.2 x y ≤ 50 := by rw [qx, qy]; exact hab
              refine Or.inl ⟨⟨by omega, ⟨fun _ => by rw [qy], fun _ => by rw [qx]⟩⟩, ?_⟩
              rw [g3, g4, e3, e4, hp]
              omega
            · have hp : (cfav c a b).2.2.2.2 x y = c.2.2.2.2 x y := if_neg (fun z => qy z.2)
              refine Or.inr ⟨by rw [g3, g4, hp]; omega, fun z => absurd (z.2.mp (by rw [qx])) (by omega)⟩
          · have hp : (cfav c a b).2.2.2.2 x y = c.2.2.2.2 x y := if_neg (fun z => qx z.1)
            have m : a ∈ xs := by
              rcases List.mem_cons.mp ha with e | e
              · exact absurd e.symm qx
              · exact e
            by_cases qy : y = b
            · have m2 : b ∉ ys := qy ▸ ny'.1
              have g3 := dd_fav_none c a b (xs := xs.filter (fun z => c.1 x z)) (ys := ys.filter (fun z => c.2.1 y z)) (Or.inr (fun z => m2 (mem_of_flt z)))
              have g4 := dd_fav_none c a b (xs := xs.filter (fun z => !c.1 x z)) (ys := ys.filter (fun z => !c.2.1 y z)) (Or.inr (fun z => m2 (mem_of_flt z)))
              refine Or.inr ⟨by rw [g3, g4, hp]; omega, fun z => absurd (z.2.mpr (by rw [qy])) (by omega)⟩
            · have m2 : b ∈ ys := by
                rcases List.mem_cons.mp hbb with e | e
                · exact absurd e.symm qy
                · exact e
              have hxy : ((x : Int) = a ↔ (y : Int) = b) := ⟨fun z => absurd z (by omega), fun z => absurd z (by omega)⟩
              have N1 := nx'.2.filter (fun z => c.1 x z)
              have N2 := ny'.2.filter (fun z => c.2.1 y z)
              have N3 := nx'.2.filter (fun z => !c.1 x z)
              have N4 := ny'.2.filter (fun z => !c.2.1 y z)
              have ex {p : Nat → Bool} {z : Nat} {l : List Nat} (h1 : z ∈ l.filter p) : z ∉ l.filter (fun z => !p z) := fun h2 => by
                have a1 := (List.mem_filter.mp h1).2
                have a2 := (List.mem_filter.mp h2).2
                simp [a1] at a2
              have ex' {p : Nat → Bool} {z : Nat} {l : List Nat} (h1 : z ∈ l.filter (fun z => !p z)) : z ∉ l.filter p := fun h2 => ex h2 h1
              rcases fl_or (fun z => c.1 x z) m with w | w
              · rcases fl_or (fun z => c.2.1 y z) m2 with v | v
                · have e3 := ih _ _ (by omega) (by omega) B3 N1 N2 w v hab
                  have g4 := dd_fav_none c a b (xs := xs.filter (fun z => !c.1 x z)) (ys := ys.filter (fun z => !c.2.1 y z)) (Or.inl (ex w))
                  have e4 := df_none (a := (a : Int)) (b := (b : Int)) (xs := xs.filter (fun z => !c.1 x z)) (ys := ys.filter (fun z => !c.2.1 y z)) (by omega) B4 (NI _ a (ex w)) (NI _ b (ex v))
                  by_cases q : c.2.2.2.2 x y < 1000000
                  · refine Or.inl ⟨⟨q, hxy⟩, ?_⟩
                    rw [hp, e3.2, g4, e4]
                    omega
                  · refine Or.inr ⟨?_, fun z => absurd z.1 q⟩
                    rw [hp, e3.2, g4]
                    omega
                · have g3 := dd_fav_none c a b (xs := xs.filter (fun z => c.1 x z)) (ys := ys.filter (fun z => c.2.1 y z)) (Or.inr (ex' v))
                  have g4 := dd_fav_none c a b (xs := xs.filter (fun z => !c.1 x z)) (ys := ys.filter (fun z => !c.2.1 y z)) (Or.inl (ex w))
                  have e3 := df_one B3 (Or.inl ⟨w, ex' v⟩)
                  refine Or.inr ⟨by rw [g3, g4, hp]; omega, fun _ => by omega⟩
              · rcases fl_or (fun z => c.2.1 y z) m2 with v | v
                · have g3 := dd_fav_none c a b (xs := xs.filter (fun z => c.1 x z)) (ys := ys.filter (fun z => c.2.1 y z)) (Or.inl (ex' w))
                  have g4 := dd_fav_none c a b (xs := xs.filter (fun z => !c.1 x z)) (ys := ys.filter (fun z => !c.2.1 y z)) (Or.inr (ex v))
                  have e3 := df_one B3 (Or.inr ⟨ex' w, v⟩)
                  refine Or.inr ⟨by rw [g3, g4, hp]; omega, fun _ => by omega⟩
                · have e4 := ih _ _ (by omega) (by omega) B4 N3 N4 w v hab
                  have g3 := dd_fav_none c a b (xs := xs.filter (fun z => c.1 x z)) (ys := ys.filter (fun z => c.2.1 y z)) (Or.inl (ex' w))
                  have e3 := df_none (a := (a : Int)) (b := (b : Int)) (xs := xs.filter (fun z => c.1 x z)) (ys := ys.filter (fun z => c.2.1 y z)) (by omega) B3 (NI _ a (ex' w)) (NI _ b (ex' v))
                  by_cases q : c.2.2.2.2 x y < 1000000
                  · refine Or.inl ⟨⟨q, hxy⟩, ?_⟩
                    rw [hp, e4.2, g3, e3]
                    omega
                  · refine Or.inr ⟨?_, fun z => absurd z.1 q⟩
                    rw [hp, e4.2, g3]
                    omega
        -- a real option is small
        have SM : ((x : Int) ≠ a) ∨ ((y : Int) ≠ b) ∨ (c.2.2.2.2 x y < 1000000 ∧ ((x : Int) = a ↔ (y : Int) = b)) ∧ c.2.2.2.2 x y + df c a b (xs.filter (fun z => c.1 x z)) (ys.filter (fun z => c.2.1 y z)) + df c a b (xs.filter (fun z => !c.1 x z)) (ys.filter (fun z => !c.2.1 y z)) ≤ 50 * ((xs.length : Int) + 1 + (ys.length + 1)) := by
          by_cases qx : (x : Int) = a
          · by_cases qy : (y : Int) = b
            · refine Or.inr (Or.inr ?_)
              have ex : x = a := by omega
              have ey : y = b := by omega
              have m : a ∉ xs := ex ▸ nx'.1
              have m2 : b ∉ ys := ey ▸ ny'.1
              have NI : ∀ (l : List Nat) (z : Nat), z ∉ l → ∀ w ∈ l, (w : Int) ≠ (z : Int) := fun l z hz w hw e => hz (by rw [show z = w from by omega]; exact hw)
              have e3 := df_none (a := (a : Int)) (b := (b : Int)) (xs := xs.filter (fun z => c.1 x z)) (ys := ys.filter (fun z => c.2.1 y z)) (by omega) B3 (NI _ a (fun z => m (mem_of_flt z))) (NI _ b (fun z => m2 (mem_of_flt z)))
              have e4 := df_none (a := (a : Int)) (b := (b : Int)) (xs := xs.filter (fun z => !c.1 x z)) (ys := ys.filter (fun z => !c.2.1 y z)) (by omega) B4 (NI _ a (fun z => m (mem_of_flt z))) (NI _ b (fun z => m2 (mem_of_flt z)))
              have hab' : c.2.2.2.2 x y ≤ 50 := by rw [ex, ey]; exact hab
              refine ⟨⟨by omega, ⟨fun _ => qy, fun _ => qx⟩⟩, ?_⟩
              rw [e3, e4]
              omega
            · exact Or.inr (Or.inl qy)
          · exact Or.inl qx
        rw [df_cc, dd_cc]
        change _ ∧ min (min (c.2.2.1 x + dd (cfav c a b) xs (y :: ys)) (c.2.2.2.1 y + dd (cfav c a b) (x :: xs) ys)) ((cfav c a b).2.2.2.2 x y + dd (cfav c a b) (xs.filter (fun z => c.1 x z)) (ys.filter (fun z => c.2.1 y z)) + dd (cfav c a b) (xs.filter (fun z => !c.1 x z)) (ys.filter (fun z => !c.2.1 y z))) = _
        clear ih f1 f2 f3 f4 s1 s2 p3 p4 d3 d4 B3 B4 nx ny nx' ny' hb ha hbb hab h
        generalize dd (cfav c a b) xs (y :: ys) = A1 at O1 ⊢
        generalize df c a b xs (y :: ys) = E1 at O1 ⊢
        generalize dd (cfav c a b) (x :: xs) ys = A2 at O2 ⊢
        generalize df c a b (x :: xs) ys = E2 at O2 ⊢
        generalize (cfav c a b).2.2.2.2 x y + dd (cfav c a b) (xs.filter (fun z => c.1 x z)) (ys.filter (fun z => c.2.1 y z)) + dd (cfav c a b) (xs.filter (fun z => !c.1 x z)) (ys.filter (fun z => !c.2.1 y z)) = A3 at O3 ⊢
        generalize c.2.2.2.2 x y + df c a b (xs.filter (fun z => c.1 x z)) (ys.filter (fun z => c.2.1 y z)) + df c a b (xs.filter (fun z => !c.1 x z)) (ys.filter (fun z => !c.2.1 y z)) = E3 at O3 SM ⊢
        by_cases k3 : c.2.2.2.2 x y < 1000000 ∧ ((x : Int) = a ↔ (y : Int) = b)
        · rw [if_pos k3]
          by_cases k1 : (x : Int) = a
          · rw [if_pos k1]
            by_cases k2 : (y : Int) = b
            · rw [if_pos k2]; omega
            · rw [if_neg k2]; omega
          · rw [if_neg k1]
            by_cases k2 : (y : Int) = b
            · rw [if_pos k2]; omega
            · rw [if_neg k2]; omega
        · rw [if_neg k3]
          by_cases k1 : (x : Int) = a
          · rw [if_pos k1]
            by_cases k2 : (y : Int) = b
            · rw [if_pos k2]; omega
            · rw [if_neg k2]; omega
          · rw [if_neg k1]
            by_cases k2 : (y : Int) = b
            · rw [if_pos k2]; omega
            · rw [if_neg k2]; omega
theorem df_both {c : CP} {a b : Nat} {xs ys : List Nat} (h : xs.length + ys.length ≤ 24) (hb : CBd c xs ys) (nx : xs.Nodup) (ny : ys.Nodup) (ha : a ∈ xs) (hbb : b ∈ ys) (hab : c.2.2.2.2 a b ≤ 50) : df c a b xs ys ≤ 50 * ((xs.length : Int) + ys.length) ∧ dd (cfav c a b) xs ys = df c a b xs ys - 1000000 := df_bothN c a b _ xs ys (Nat.le_refl _) h hb nx ny ha hbb hab
