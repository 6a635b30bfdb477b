/-! calls that change one thing -/
def updC (C : Nat → Nat → Int) (k0 i0 : Nat) (v : Int) (k i : Nat) : Int := if k = k0 ∧ i = i0 then v else C k i
section UPD
variable {C : Nat → Nat → Int} {k0 i0 : Nat} {v a x : Int}
theorem upd_ne {k i : Nat} (h : k ≠ k0) : updC C k0 i0 v k i = C k i := if_neg (fun z => h z.1)
theorem cn_upd {t : Nat} (h : k0 ≠ 5) : cn (updC C k0 i0 v) t = cn C t := by
  unfold cn
  rw [upd_ne (by omega)]
theorem cL_upd {t : Nat} (h : k0 ≠ 1) : cL (updC C k0 i0 v) t = cL C t := by
  funext p
  unfold cL
  rw [upd_ne (by omega)]
theorem nd_upd {t p : Nat} (h : k0 ≠ 0) : nd (updC C k0 i0 v) t p = nd C t p := by
  unfold nd
  rw [upd_ne (by omega)]
theorem ce_upd {t p : Nat} (h : k0 ≠ 1) (h5 : k0 ≠ 5) : ce (updC C k0 i0 v) t p = ce C t p := by
  unfold ce
  rw [cL_upd h, cn_upd h5]
theorem Core.upd {M : Mem} (h : Core C M) : Core (updC C k0 i0 v) (mset M 13 k0 i0 v) := by
  intro k i hk
  unfold updC
  by_cases c : k = k0 ∧ i = i0
  · rw [if_pos c, c.1, c.2, mset_eq]
  · rw [if_neg c, mset_ne (by omega)]
    exact h k i hk
theorem WF.upd (hW : WF C) (h : k0 = 3 ∧ (0 ≤ v ∧ v ≤ 99) ∨ (k0 = 6 ∨ k0 = 7) ∧ (0 ≤ v ∧ v ≤ 50)) : WF (updC C k0 i0 v) := by
  refine ⟨fun t ht => ?_, fun t p ht hp => ?_, fun t p q ht hp hq e => ?_, fun i hi => ?_, ?_⟩
  · rw [cn_upd (by omega), cL_upd (by omega), upd_ne (by omega)]
    exact hW.1 t ht
  · rw [cn_upd (by omega)] at hp ⊢
    rw [cL_upd (by omega), upd_ne (by omega), upd_ne (by omega), upd_ne (k := 0) (by omega)]
    obtain ⟨r1, r2, r3, r4⟩ := hW.2.1 t p ht hp
    refine ⟨r1, r2, ?_, r4⟩
    unfold updC
    split
    · omega
    · exact r3
  · rw [cn_upd (by omega)] at hp hq
    rw [upd_ne (by omega), upd_ne (by omega)] at e
    exact hW.2.2.1 t p q ht hp hq e
  · unfold updC
    split
    · omega
    · exact hW.2.2.2.1 i hi
  · unfold updC
    split
    · omega
    · exact hW.2.2.2.2
theorem WF.clr {t : Nat} (hW : WF C) (ht : t < 2) : WF (updC C 5 t 0) ∧ cn (updC C 5 t 0) t = 0 ∧ ∀ u : Nat, u ≠ t → cn (updC C 5 t 0) u = cn C u := by
  have e0 : cn (updC C 5 t 0) t = 0 := by
    unfold cn updC
    rw [if_pos ⟨rfl, rfl⟩]
    rfl
  have e1 : ∀ u : Nat, u ≠ t → cn (updC C 5 t 0) u = cn C u := fun u hu => by
    unfold cn updC
    rw [if_neg (fun z => hu z.2)]
  refine ⟨⟨fun u hu => ?_, fun u p hu hp => ?_, fun u p q hu hp hq e => ?_, fun i hi => ?_, ?_⟩, e0, e1⟩
  · by_cases c : u = t
    · subst c
      rw [e0]
      refine ⟨if_pos ⟨rfl, rfl⟩, by omega, fun z => absurd z (by omega), fun p hp => absurd hp (by omega)⟩
    · rw [e1 u c, cL_upd (by omega)]
      unfold updC
      rw [if_neg (fun z => c z.2)]
      exact hW.1 u hu
  · by_cases c : u = t
    · subst c
      rw [e0] at hp
      exact absurd hp (Nat.not_lt_zero _)
    · rw [e1 u c] at hp ⊢
      rw [cL_upd (by omega), upd_ne (by omega), upd_ne (by omega), upd_ne (by omega), upd_ne (by omega)]
      exact hW.2.1 u p hu hp
  · by_cases c : u = t
    · subst c
      rw [e0] at hp
      exact absurd hp (Nat.not_lt_zero _)
    · rw [e1 u c] at hp hq
      rw [upd_ne (by omega), upd_ne (by omega)] at e
      exact hW.2.2.1 u p q hu hp hq e
  · rw [upd_ne (by omega)]
    exact hW.2.2.2.1 i hi
  · rw [upd_ne (by omega)]
    exact hW.2.2.2.2
/-- after a change nothing is settled -/
theorem mut_K {C' : Nat → Nat → Int} {M M1 : Mem} {P : Mem → Prop} (hX : Cls C' M1) (hF : Fr Pc M M1) (hB : Bd M1) (z9 : M1 9 4 0 = 0) (z10 : M1 10 4 0 = 0) (h : ∀ M' : Mem, Fr Pc M M' → Bd M' → IK C' M' → P M') : ∀ M2 : Mem, M2 = mset M1 0 8 0 0 → P M2 := by
  intro M2 e
  subst e
  refine h _ (Pc_set hF (by omega)) (hB.set (by omega) (by omega)) ⟨hX.fr (P := fun o _ => o == 0) (fun o k i h => ?_) (kt_all (fun k => ⟨rfl, rfl, rfl⟩)), ?_, ?_, Or.inl mset_eq⟩
  · rw [mset_ne]
    rintro ⟨rfl, _⟩
    cases h
  · rw [mset_ne (by omega)]
    exact z9
  · rw [mset_ne (by omega)]
    exact z10
theorem sp_in1 {M : Mem} {p0 p1 p2 : Int} {Q : Int → Mem → Prop} (h1 : inR p1) (h2 : inR p2) (h : p1 ≤ p0 ∧ p0 ≤ p2) (K : Q 1 M) : wp_X11_in M p0 p1 p2 Q := by
  refine sp_in ⟨by have := h1.1; omega, by have := h2.2; omega⟩ h1 h2 ?_
  rwa [if_pos h]
theorem sp_in0 {M : Mem} {p0 p1 p2 : Int} {Q : Int → Mem → Prop} (h0 : inR p0) (h1 : inR p1) (h2 : inR p2) (h : ¬ (p1 ≤ p0 ∧ p0 ≤ p2)) (K : Q 0 M) : wp_X11_in M p0 p1 p2 Q := by
  refine sp_in h0 h1 h2 ?_
  rwa [if_neg h]
theorem Pm_set {M M1 : Mem} {k i : Nat} {w : Int} (h : Fr Pm M M1) : Fr Pm M (mset M1 13 k i w) := h.set rfl
theorem ag_clear (hW : WF C) (h0 : inR a) : Agree nm0 1 (-2000000) 2000000 C (fun M Q XQ => wp_X10_clear M a (fun M' => Q 0 M') XQ) (fun M Q => wp_X11_clear M a (fun M' => Q 0 M')) := by
  by_cases c : 0 ≤ a ∧ a ≤ 1
  · obtain ⟨t, rfl⟩ : ∃ t : Nat, a = t := ⟨a.toNat, by omega⟩
    have ht : t < 2 := by omega
    obtain ⟨hW', e0, e1⟩ := hW.clr ht
    refine agree_c (updC C 5 t 0) 0 hW' (fun M Q XQ hI hB h => ?_) (fun M Q hC hB h => ?_)
    · unfold wp_X10_clear wpe_X10_clear
      obtain ⟨hX, z9, z10, _⟩ := hI
      refine sp_num1 ht rfl (fun hT => ⟨hT, fun M3 e3 => ?_⟩)
      have ne : ∀ o k i : Nat, ¬ (o = 11 + t ∧ k = 8 ∧ i = 0) → M3 o k i = M o k i := fun o k i z => by
        rw [e3, mset_ne z]
      refine mut_K (P := fun M4 => Q 0 M4) ⟨fun u hu => ?_, fun u p hu hp => ?_, fun k w hk hw => ?_, ?_⟩ ?_ ?_ ?_ ?_ h
      · by_cases d : u = t
        · subst d
          rw [e3, mset_eq, e0]
          rfl
        · rw [ne _ _ _ (by omega), e1 u d]
          exact hX.1 u hu
      · by_cases d : u = t
        · subst d
          rw [e0] at hp
          exact absurd hp (Nat.not_lt_zero _)
        · rw [e1 u d] at hp
          have n1 : ∀ k i : Nat, M3 (11 + u) k i = M (11 + u) k i := fun k i => ne _ k i (by omega)
          simp only [n1]
          unfold ce
          rw [cL_upd (by omega), e1 u d, nd_upd (by omega), nd_upd (by omega), upd_ne (by omega), upd_ne (by omega)]
          exact hX.2.1 u p hu hp
      · rw [ne _ _ _ (by omega), upd_ne (by omega)]
        exact hX.2.2.1 k w hk hw
      · rw [ne _ _ _ (by omega), upd_ne (by omega)]
        exact hX.2.2.2
      · rw [e3]
        exact Pc_set Fr.rf (by omega)
      · rw [e3]
        exact hB.set (by omega) (by omega)
      · rw [ne _ _ _ (by omega)]
        exact z9
      · rw [ne _ _ _ (by omega)]
        exact z10
    · unfold wp_X11_clear wpe_X11_clear
      refine sp_tree1 ht (go1 hC hB rfl (fun M' F F' B C' e => ⟨r01.2, fun z => absurd z (by decide), fun _ => ⟨by omega, fun M7 e7 => ?_⟩⟩))
      rw [Int.toNat_natCast] at e7
      subst e7
      refine h _ (Pm_set F') (B.set (by omega) (by omega)) C'.upd ?_
      rw [mset_ne (by omega)]
      exact e
  · refine agree_x 1 hW (by omega) (fun M Q XQ hI hB h => ?_) (fun M Q hC hB h => ?_)
    · unfold wp_X10_clear wpe_X10_clear
      exact sp_treeNumbered h0 (fun t ht e => absurd (by omega) c) (fun _ => h M Fr.rf hB hI)
    · unfold wp_X11_clear wpe_X11_clear
      exact sp_tree0 h0 c (go0 hC hB rfl h (fun M' z => ⟨r01.1, fun _ => z, fun z => absurd rfl z⟩))
theorem ag_setMovePrice (hW : WF C) (h0 : inR a) : Agree (fun _ => "java/lang/IllegalArgumentException") 1 (-2000000) 2000000 C (fun M Q XQ => wp_X10_setMovePrice M a Q XQ) (fun M Q => wp_X11_setMovePrice M a Q) := by
  by_cases c : 0 ≤ a ∧ a ≤ 50
  · have mb := hW.2.2.2.2
    refine agree_c (updC C 7 0 a) (C 7 0) (hW.upd (Or.inr ⟨Or.inr rfl, c⟩)) (fun M Q XQ hI hB h => ?_) (fun M Q hC hB h => ?_)
    · unfold wp_X10_setMovePrice wpe_X10_setMovePrice
      obtain ⟨hX, z9, z10, _⟩ := hI
      refine sp_needAtMost h0 ⟨by decide, by decide⟩ (fun _ _ y3 e3 M4 e4 => ?_) (fun z => absurd c z)
      rw [hX.2.2.2] at e3
      subst e3
      have ne : ∀ o k i : Nat, ¬ (o = 1 ∧ k = 3 ∧ i = 0) → M4 o k i = M o k i := fun o k i z => by
        rw [e4, mset_ne z]
      refine mut_K (P := fun M4 => Q (C 7 0) M4) ⟨fun u hu => ?_, fun u p hu hp => ?_, fun k w hk hw => ?_, ?_⟩ ?_ ?_ ?_ ?_ h
      · rw [ne _ _ _ (by omega), cn_upd (by omega)]
        exact hX.1 u hu
      · rw [cn_upd (by omega)] at hp
        have n1 : ∀ k i : Nat, M4 (11 + u) k i = M (11 + u) k i := fun k i => ne _ k i (by omega)
        simp only [n1]
        rw [cn_upd (by omega), ce_upd (by omega) (by omega), cL_upd (by omega), nd_upd (by omega), nd_upd (by omega), upd_ne (by omega), upd_ne (by omega)]
        exact hX.2.1 u p hu hp
      · rw [ne _ _ _ (by omega), upd_ne (by omega)]
        exact hX.2.2.1 k w hk hw
      · rw [e4, mset_eq]
        exact (if_pos ⟨rfl, rfl⟩).symm
      · rw [e4]
        exact Pc_set Fr.rf (by omega)
      · rw [e4]
        exact hB.set (by omega) (by omega)
      · rw [ne _ _ _ (by omega)]
        exact z9
      · rw [ne _ _ _ (by omega)]
        exact z10
    · unfold wp_X11_setMovePrice wpe_X11_setMovePrice
      refine sp_in1 ⟨by decide, by decide⟩ ⟨by decide, by decide⟩ c (go1 hC hB rfl (fun M' F F' B C' e => ⟨r01.2, fun _ y7 e7 M8 e8 => ?_, fun z => absurd (by decide) z⟩))
      subst e8
      rw [e7, C' 7 0 rfl]
      refine h _ (Pm_set F') (B.set (by omega) (by omega)) C'.upd ?_
      rw [mset_ne (by omega)]
      exact e
  · refine agree_x 1 hW (by omega) (fun M Q XQ hI hB h => ?_) (fun M Q hC hB h => ?_)
    · unfold wp_X10_setMovePrice wpe_X10_setMovePrice
      exact sp_needAtMost h0 ⟨by decide, by decide⟩ (fun z1 z2 => absurd ⟨z1, z2⟩ c) (fun _ => h M Fr.rf hB hI)
    · unfold wp_X11_setMovePrice wpe_X11_setMovePrice
      exact sp_in0 h0 ⟨by decide, by decide⟩ ⟨by decide, by decide⟩ c (go0 hC hB rfl h (fun M' z => ⟨r01.1, fun z => absurd rfl z, fun _ => z⟩))
theorem ag_setLabel {v : Int} (hW : WF C) (h0 : inR a) (h1 : inR x) (h2 : inR v) : Agree nm0 2 (-2000000) 2000000 C (fun M Q XQ => wp_X10_setLabel M a x v Q XQ) (fun M Q => wp_X11_setLabel M a x v Q) := by
  by_cases c : vN C a x
  · obtain ⟨t, p, ht, rfl, rfl, hp⟩ := vN_node hW c
    have l := hW.ndl ht hp
    have n12 := hW.n12 ht
    by_cases d : 0 ≤ v ∧ v ≤ 99
    · have lb := hW.lb ht hp
      refine agree_c (updC C 3 (12 * t + p) v) (C 3 (12 * t + p)) (hW.upd (Or.inl ⟨rfl, d⟩)) (fun M Q XQ hI hB h => ?_) (fun M Q hC hB h => ?_)
      · unfold wp_X10_setLabel wpe_X10_setLabel
        obtain ⟨hX, z9, z10, _⟩ := hI
        refine sp_with1 hW hX hB ht l rfl rfl (fun hT => ⟨hT, sp_needAtMost h2 ⟨by decide, by decide⟩ (fun _ _ => ⟨by omega, fun y6 e6 => ⟨by omega, fun M7 e7 => ?_⟩⟩) (fun z => absurd d z)⟩)
        rw [Int.toNat_natCast] at e6 e7
        rw [hX.lb rfl ht hp] at e6
        subst e6
        have ne : ∀ o k i : Nat, ¬ (o = 11 + t ∧ k = 1 ∧ i = nd C t p) → M7 o k i = M o k i := fun o k i z => by
          rw [e7, mset_ne z]
        refine mut_K (P := fun M4 => Q (C 3 (12 * t + p)) M4) ⟨fun u hu => ?_, fun u q hu hq => ?_, fun k w hk hw => ?_, ?_⟩ ?_ ?_ ?_ ?_ h
        · rw [ne _ _ _ (by omega), cn_upd (by omega)]
          exact hX.1 u hu
        · rw [cn_upd (by omega)] at hq
          have g := hX.2.1 u q hu hq
          rw [cn_upd (by omega), ce_upd (by omega) (by omega), cL_upd (by omega), nd_upd (by omega), nd_upd (by omega), upd_ne (by omega), ne _ 3 _ (by omega), ne _ 5 _ (by omega), ne _ 6 _ (by omega), ne _ 7 _ (by omega), ne _ 2 _ (by omega), ne _ 4 _ (by omega), ne _ 0 _ (by omega)]
          refine ⟨g.1, g.2.1, g.2.2.1, g.2.2.2.1, g.2.2.2.2.1, g.2.2.2.2.2.1, g.2.2.2.2.2.2.1, ?_⟩
          have n12u := hW.n12 hu
          unfold updC
          by_cases e : u = t ∧ q = p
          · obtain ⟨rfl, rfl⟩ := e
            rw [e7, mset_eq, if_pos ⟨rfl, rfl⟩]
          · rw [if_neg (by omega), ne _ _ _ (fun z => e ?_)]
            · exact g.2.2.2.2.2.2.2
            · have eu : u = t := by omega
              subst eu
              exact ⟨rfl, hW.inj hu hq hp z.2.2⟩
        · rw [ne _ _ _ (by omega), upd_ne (by omega)]
          exact hX.2.2.1 k w hk hw
        · rw [ne _ _ _ (by omega), upd_ne (by omega)]
          exact hX.2.2.2
        · rw [e7]
          exact Pc_set Fr.rf (by omega)
        · rw [e7]
          exact hB.set (by omega) (by omega)
        · rw [ne _ _ _ (by omega)]
          exact z9
        · rw [ne _ _ _ (by omega)]
          exact z10
      · unfold wp_X11_setLabel wpe_X11_setLabel
        refine sp_node1 hW hC hB ht l rfl rfl (sp_in1 ⟨by decide, by decide⟩ ⟨by decide, by decide⟩ d (go1 hC hB rfl (fun M' F F' B C' e => ⟨r01.2, fun _ => sp_place hW C' B ht hp rfl rfl (fun y11 e11 => ?_), fun z => absurd (by decide) z⟩)))
        subst e11
        refine ⟨by omega, fun y13 e13 => ⟨by omega, fun M14 e14 => ?_⟩⟩
        rw [show (12 * (t : Int) + (p : Int)).toNat = 12 * t + p from by omega] at e13 e14
        subst e14
        rw [e13, C' 3 _ rfl]
        refine h _ (Pm_set F') (B.set (by omega) (by omega)) C'.upd ?_
        rw [mset_ne (by omega)]
        exact e
    · refine agree_x 2 hW (by omega) (fun M Q XQ hI hB h => ?_) (fun M Q hC hB h => ?_)
      · unfold wp_X10_setLabel wpe_X10_setLabel
        exact sp_with1 hW hI.1 hB ht l rfl rfl (fun hT => ⟨hT, sp_needAtMost h2 ⟨by decide, by decide⟩ (fun z1 z2 => absurd ⟨z1, z2⟩ d) (fun _ => h M Fr.rf hB hI)⟩)
      · unfold wp_X11_setLabel wpe_X11_setLabel
        exact sp_node1 hW hC hB ht l rfl rfl (sp_in0 h2 ⟨by decide, by decide⟩ ⟨by decide, by decide⟩ d (sp_go 2 hB r01.2 r01.1 r01.2 rfl (fun M' F B e => ⟨r01.1, fun z => absurd rfl z, fun _ => h M' (Pg_m F) B (hC.g F) e⟩)))
  · refine agree_x 1 hW (by omega) (fun M Q XQ hI hB h => ?_) (fun M Q hC hB h => ?_)
    · unfold wp_X10_setLabel wpe_X10_setLabel
      exact sp_with0 hI.1 hB h0 h1 c (h M Fr.rf hB hI)
    · unfold wp_X11_setLabel wpe_X11_setLabel
      exact sp_node0 hW hC hB h0 h1 c (sp_in h2 ⟨by decide, by decide⟩ ⟨by decide, by decide⟩ (sp_go 1 hB r01.1 (inR_ite _) r01.2 rfl (fun M' F B e => ⟨r01.1, fun z => absurd rfl z, fun _ => h M' (Pg_m F) B (hC.g F) e⟩)))
end UPD
