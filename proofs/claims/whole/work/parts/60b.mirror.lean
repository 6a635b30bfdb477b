/-! two orders of the same forest give the same least cost: an u v says that u is above v; p and q are places in the two orders -/
def FO (an : Nat → Nat → Bool) (p q : Nat → Nat) (S : List Nat) : Prop := (∀ u ∈ S, ∀ v ∈ S, (an u v = true ↔ (p u < p v ∧ q u < q v))) ∧ (∀ u ∈ S, ∀ v ∈ S, ∀ w ∈ S, an u w = true → an v w = true → u = v ∨ an u v = true ∨ an v u = true)
def Srt (p : Nat → Nat) (xs : List Nat) : Prop := xs.Pairwise (fun u v => p u < p v)
theorem FO.mono {an : Nat → Nat → Bool} {p q : Nat → Nat} {S T : List Nat} (h : FO an p q S) (hT : ∀ u ∈ T, u ∈ S) : FO an p q T := ⟨fun u hu v hv => h.1 u (hT u hu) v (hT v hv), fun u hu v hv w hw => h.2 u (hT u hu) v (hT v hv) w (hT w hw)⟩
theorem FO.symm {an : Nat → Nat → Bool} {p q : Nat → Nat} {S : List Nat} (h : FO an p q S) : FO an q p S := ⟨fun u hu v hv => (h.1 u hu v hv).trans ⟨fun z => ⟨z.2, z.1⟩, fun z => ⟨z.2, z.1⟩⟩, h.2⟩
theorem fo_split {an : Nat → Nat → Bool} {p q : Nat → Nat} {xs R : List Nat} {r : Nat} (hP : xs.Perm (r :: R)) (hp : Srt p xs) (hq : Srt q (r :: R)) (hF : FO an p q (r :: R)) :
    ∃ A B : List Nat, xs = A ++ r :: B ∧ (A ++ B).Perm R ∧ (∀ b ∈ B, an r b = true) ∧ (∀ a ∈ A, ∀ b ∈ r :: B, an a b = false) ∧ (∀ a ∈ A, an r a = false) ∧ Srt p A ∧ Srt p B ∧ Srt p (A ++ B) := by
  have hm : r ∈ xs := hP.mem_iff.mpr List.mem_cons_self
  obtain ⟨A, B, rfl⟩ := List.append_of_mem hm
  have hAB : (A ++ B).Perm R := (List.perm_middle.symm.trans hP).cons_inv
  have s1 := List.pairwise_append.mp hp
  have s2 := List.pairwise_cons.mp s1.2.1
  have s3 := List.pairwise_cons.mp hq
  have hB : ∀ b ∈ B, b ∈ R := fun b hb => hAB.mem_iff.mp (List.mem_append_right _ hb)
  have hA : ∀ a ∈ A, a ∈ R := fun a ha => hAB.mem_iff.mp (List.mem_append_left _ ha)
  have i1 : ∀ b ∈ B, an r b = true := fun b hb => (hF.1 r List.mem_cons_self b (List.mem_cons_of_mem _ (hB b hb))).mpr ⟨s2.1 b hb, s3.1 b (hB b hb)⟩
  have i2 : ∀ a ∈ A, an r a = false := fun a ha => by
    have h1 := s1.2.2 a ha r List.mem_cons_self
    cases h : an r a with
    | false => rfl
    | true =>
      have h2 := ((hF.1 r List.mem_cons_self a (List.mem_cons_of_mem _ (hA a ha))).mp h).1
      omega
  have i3 : ∀ a ∈ A, an a r = false := fun a ha => by
    have h1 := s3.1 a (hA a ha)
    cases h : an a r with
    | false => rfl
    | true =>
      have h2 := ((hF.1 a (List.mem_cons_of_mem _ (hA a ha)) r List.mem_cons_self).mp h).2
      omega
  refine ⟨A, B, rfl, hAB, i1, fun a ha b hb => ?_, i2, s1.1, s2.2, List.pairwise_append.mpr ⟨s1.1, s2.2, fun a ha b hb => s1.2.2 a ha b (List.mem_cons_of_mem _ hb)⟩⟩
  rcases List.mem_cons.mp hb with rfl | hb
  · exact i3 a ha
  · cases h : an a b with
    | false => rfl
    | true =>
      have h1 := s1.2.2 a ha r List.mem_cons_self
      rcases hF.2 a (List.mem_cons_of_mem _ (hA a ha)) r List.mem_cons_self b (List.mem_cons_of_mem _ (hB b hb)) h (i1 b hb) with e | e | e
      · rw [e] at h1; omega
      · rw [i3 a ha] at e; cases e
      · rw [i2 a ha] at e; cases e
theorem dd_mirN (c : CP) (p q p' q' : Nat → Nat) : ∀ (N : Nat) (xs ys xs' ys' : List Nat), xs'.length + ys'.length ≤ N → xs.Perm xs' → ys.Perm ys' → Srt p xs → Srt p' ys → Srt q xs' → Srt q' ys' → FO c.1 p q xs' → FO c.2.1 p' q' ys' → dd c xs ys ≤ dd c xs' ys' := by
  intro N
  induction N with
  | zero =>
    intro xs ys xs' ys' h hx hy _ _ _ _ _ _
    have h1 : xs' = [] := List.length_eq_zero_iff.mp (by omega)
    have h2 : ys' = [] := List.length_eq_zero_iff.mp (by omega)
    subst h1; subst h2
    rw [List.perm_nil.mp hx, List.perm_nil.mp hy]
    exact Int.le_refl _
  | succ N ih =>
    intro xs ys xs' ys' h hx hy hp hp' hq hq' hF hF'
    have tl {z : Nat} {zs : List Nat} {an : Nat → Nat → Bool} {a b : Nat → Nat} (f : FO an a b (z :: zs)) : FO an a b zs := f.mono (fun u hu => List.mem_cons_of_mem _ hu)
    cases xs' with
    | nil =>
      have e := List.perm_nil.mp hx
      subst e
      cases ys' with
      | nil => rw [List.perm_nil.mp hy]; exact Int.le_refl _
      | cons s S =>
        simp only [List.length_cons, List.length_nil] at h
        obtain ⟨A, B, rfl, hAB, i1, i2, i3, sA, sB, sAB⟩ := fo_split hy hp' hq' hF'
        have h1 := dd_il c [] A B s
        have h2 := ih [] (A ++ B) [] S (by simp only [List.length_nil]; omega) hx hAB hp sAB hq (List.pairwise_cons.mp hq').2 hF (tl hF')
        rw [dd_nc]
        omega
    | cons r R =>
      obtain ⟨A, B, rfl, hAB, i1, i2, i3, sA, sB, sAB⟩ := fo_split hx hp hq hF
      have qR := (List.pairwise_cons.mp hq).2
      cases ys' with
      | nil =>
        simp only [List.length_cons, List.length_nil] at h
        have e := List.perm_nil.mp hy
        subst e
        have h1 := dd_dl c A B [] r
        have h2 := ih (A ++ B) [] R [] (by simp only [List.length_nil]; omega) hAB hy sAB hp' qR hq' (tl hF) hF'
        rw [dd_cn]
        omega
      | cons s S =>
        simp only [List.length_cons] at h
        obtain ⟨A', B', rfl, hAB', j1, j2, j3, tA, tB, tAB⟩ := fo_split hy hp' hq' hF'
        have qS := (List.pairwise_cons.mp hq').2
        have a1 := dd_dl c A B (A' ++ s :: B') r
        have a2 := ih (A ++ B) (A' ++ s :: B') R (s :: S) (by simp only [List.length_cons]; omega) hAB hy sAB hp' qR hq' (tl hF) hF'
        have b1 := dd_il c (A ++ r :: B) A' B' s
        have b2 := ih (A ++ r :: B) (A' ++ B') (r :: R) S (by simp only [List.length_cons]; omega) hx hAB' hp tAB hq qS hF (tl hF')
        have c1 := dd_last c A B A' B' r s i2 j2 i1 j1
        have f1 := fl_le (fun z => c.1 r z) R
        have f2 := fl_le (fun z => c.2.1 s z) S
        have f3 := fl_le (fun z => !c.1 r z) R
        have f4 := fl_le (fun z => !c.2.1 s z) S
        have pB : B.Perm (R.filter (fun z => c.1 r z)) := by
          have h := hAB.filter (fun z => c.1 r z)
          rw [List.filter_append, List.filter_eq_nil_iff.mpr (fun a ha => by simp [i3 a ha]), List.filter_eq_self.mpr (fun b hb => i1 b hb), List.nil_append] at h
          exact h
        have pA : A.Perm (R.filter (fun z => !c.1 r z)) := by
          have h := hAB.filter (fun z => !c.1 r z)
          rw [List.filter_append, List.filter_eq_self.mpr (fun a ha => by simp [i3 a ha]), List.filter_eq_nil_iff.mpr (fun b hb => by simp [i1 b hb]), List.append_nil] at h
          exact h
        have pB' : B'.Perm (S.filter (fun z => c.2.1 s z)) := by
          have h := hAB'.filter (fun z => c.2.1 s z)
          rw [List.filter_append, List.filter_eq_nil_iff.mpr (fun a ha => by simp [j3 a ha]), List.filter_eq_self.mpr (fun b hb => j1 b hb), List.nil_append] at h
          exact h
        have pA' : A'.Perm (S.filter (fun z => !c.2.1 s z)) := by
          have h := hAB'.filter (fun z => !c.2.1 s z)
          rw [List.filter_append, List.filter_eq_self.mpr (fun a ha => by simp [j3 a ha]), List.filter_eq_nil_iff.mpr (fun b hb => by simp [j1 b hb]), List.append_nil] at h
          exact h
        have fm {z : Nat} {zs : List Nat} {w : Nat → Bool} {an : Nat → Nat → Bool} {a b : Nat → Nat} (f : FO an a b (z :: zs)) : FO an a b (zs.filter w) := f.mono (fun u hu => List.mem_cons_of_mem _ (mem_of_flt hu))
        have d1 := ih B B' _ _ (by omega) pB pB' sB tB (qR.filter _) (qS.filter _) (fm hF) (fm hF')
        have d2 := ih A A' _ _ (by omega) pA pA' sA tA (qR.filter _) (qS.filter _) (fm hF) (fm hF')
        rw [dd_cc c r R s S]
        omega
/-- both orders cost the same -/
theorem dd_mir (c : CP) (p q p' q' : Nat → Nat) (xs ys xs' ys' : List Nat) (hx : xs.Perm xs') (hy : ys.Perm ys') (hp : Srt p xs) (hp' : Srt p' ys) (hq : Srt q xs') (hq' : Srt q' ys') (hF : FO c.1 p q xs') (hF' : FO c.2.1 p' q' ys') : dd c xs ys = dd c xs' ys' := by
  refine Int.le_antisymm (dd_mirN c p q p' q' _ xs ys xs' ys' (Nat.le_refl _) hx hy hp hp' hq hq' hF hF') ?_
  exact dd_mirN c q p q' p' _ xs' ys' xs ys (Nat.le_refl _) hx.symm hy.symm hq hq' hp hp' (hF.symm.mono (fun u hu => hx.mem_iff.mp hu)) (hF'.symm.mono (fun u hu => hy.mem_iff.mp hu))
