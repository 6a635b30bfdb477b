/-! questions about the trees as they are -/
section LOOKS
variable {C : Nat → Nat → Int} {a x : Int}
theorem nch_bd {t p : Nat} (hn : cn C t ≤ 12) (hp : p < cn C t) : 0 ≤ nch C t p ∧ nch C t p ≤ 600 := by
  have e := eN_le (L := cL C t) hp
  have b := sm_bd (cI C t p) (i := p + 1) (j := ce C t p) (fun k _ _ => cI_bd p k)
  unfold nch
  unfold ce at b ⊢
  omega
theorem go0 {M : Mem} {p0 : Int} {wq : Int → Mem → Prop} {Q : Int → Mem → Prop} (hC : Core C M) (hB : Bd M) (e : p0 = 0) (h : ∀ M' : Mem, Fr Pm M M' → Bd M' → Core C M' → M' 13 23 0 = 1 → Q 0 M') (K : ∀ M' : Mem, Q 0 M' → wq 0 M') : wp_X11_goes M p0 1 1 wq := by
  subst e
  exact sp_go 1 hB r01.1 r01.2 r01.2 rfl (fun M' F B e => K M' (h M' (Pg_m F) B (hC.g F) e))
theorem go1 {M : Mem} {p0 : Int} {wq : Int → Mem → Prop} (hC : Core C M) (hB : Bd M) (e : p0 = 1) (K : ∀ M' : Mem, Fr Pg M M' → Fr Pm M M' → Bd M' → Core C M' → M' 13 23 0 = 0 → wq 1 M') : wp_X11_goes M p0 1 1 wq := by
  subst e
  exact sp_go 0 hB r01.2 r01.2 r01.2 rfl (fun M' F B e => K M' F (Pg_m F) B (hC.g F) e)
theorem ag_labelOf (hW : WF C) (h0 : inR a) (h1 : inR x) : Agree nm0 1 (-2000000) 2000000 C (fun M Q XQ => wp_X10_labelOf M a x Q XQ) (fun M Q => wp_X11_labelOf M a x Q) := by
  by_cases c : vN C a x
  · obtain ⟨t, p, ht, rfl, rfl, hp⟩ := vN_node hW c
    have l := hW.ndl ht hp
    have n12 := hW.n12 ht
    have bb := hW.lb ht hp
    refine agree_q (C 3 (12 * t + p)) hW (fun M Q XQ hI hB h => ?_) (fun M Q hC hB h => ?_)
    · unfold wp_X10_labelOf wpe_X10_labelOf
      refine sp_with1 hW hI.1 hB ht l rfl rfl (fun hT => ⟨hT, by omega, ?_⟩)
      rw [Int.toNat_natCast, hI.1.lb rfl ht hp]
      exact h M Fr.rf hB hI
    · unfold wp_X11_labelOf wpe_X11_labelOf
      refine sp_node1 hW hC hB ht l rfl rfl (go1 hC hB rfl (fun M' F F' B C' e => ⟨r01.2, fun z => absurd z (by decide), fun _ => sp_place hW C' B ht hp rfl rfl ⟨by omega, ?_⟩⟩))
      rw [show (12 * (t : Int) + (p : Int)).toNat = 12 * t + p from by omega, C' 3 _ rfl]
      exact h M' F' B C' e
  · refine agree_x 1 hW (by omega) (fun M Q XQ hI hB h => ?_) (fun M Q hC hB h => ?_)
    · unfold wp_X10_labelOf wpe_X10_labelOf
      exact sp_with0 hI.1 hB h0 h1 c (h M Fr.rf hB hI)
    · unfold wp_X11_labelOf wpe_X11_labelOf
      exact sp_node0 hW hC hB h0 h1 c (go0 hC hB rfl h (fun M' z => ⟨r01.1, fun _ => z, fun z => absurd rfl z⟩))
theorem ag_parentOf (hW : WF C) (h0 : inR a) (h1 : inR x) : Agree nm0 1 (-2000000) 2000000 C (fun M Q XQ => wp_X10_parentOf M a x Q XQ) (fun M Q => wp_X11_parentOf M a x Q) := by
  by_cases c : vN C a x
  · obtain ⟨t, p, ht, rfl, rfl, hp⟩ := vN_node hW c
    have l := hW.ndl ht hp
    have n12 := hW.n12 ht
    have pb : p ≠ 0 → nd C t (par (cL C t) p) < cn C t := fun q => by
      have ps := par_spec (hW.wl ht) (by omega) hp
      exact hW.ndl ht (by omega)
    refine agree_q (if p = 0 then -1 else (nd C t (par (cL C t) p) : Int)) hW (fun M Q XQ hI hB h => ?_) (fun M Q hC hB h => ?_)
    · unfold wp_X10_parentOf wpe_X10_parentOf
      refine sp_with1 hW hI.1 hB ht l rfl rfl (fun hT => ⟨hT, by omega, ?_⟩)
      rw [Int.toNat_natCast, hI.1.pa rfl ht hp]
      exact h M Fr.rf hB hI
    · unfold wp_X11_parentOf wpe_X11_parentOf
      refine sp_node1 hW hC hB ht l rfl rfl (go1 hC hB rfl (fun M' F F' B C' e => ⟨r01.2, fun _ => sp_place hW C' B ht hp rfl rfl (sp_parent hW C' ht hp rfl rfl ?_), fun z => absurd (by decide) z⟩))
      have hh := h M' F' B C' e
      by_cases q : p = 0
      · rw [if_pos q] at hh ⊢
        exact ⟨⟨by decide, by decide⟩, fun z => absurd z (by decide), fun _ => hh⟩
      · have ps := par_spec (hW.wl ht) (by omega) hp
        rw [if_neg q] at hh ⊢
        refine ⟨⟨by omega, by omega⟩, fun _ => ⟨by omega, ?_⟩, fun z => absurd (by omega) z⟩
        rw [show (12 * (t : Int) + (par (cL C t) p : Int)).toNat = 12 * t + par (cL C t) p from by omega, C' 0 _ rfl, hW.ndi ht (by omega)]
        exact hh
  · refine agree_x 1 hW (by omega) (fun M Q XQ hI hB h => ?_) (fun M Q hC hB h => ?_)
    · unfold wp_X10_parentOf wpe_X10_parentOf
      exact sp_with0 hI.1 hB h0 h1 c (h M Fr.rf hB hI)
    · unfold wp_X11_parentOf wpe_X11_parentOf
      exact sp_node0 hW hC hB h0 h1 c (go0 hC hB rfl h (fun M' z => ⟨r01.1, fun z => absurd rfl z, fun _ => z⟩))
theorem ag_children (hW : WF C) (h0 : inR a) (h1 : inR x) : Agree nm0 1 (-2000000) 2000000 C (fun M Q XQ => wp_X10_children M a x Q XQ) (fun M Q => wp_X11_children M a x Q) := by
  by_cases c : vN C a x
  · obtain ⟨t, p, ht, rfl, rfl, hp⟩ := vN_node hW c
    have l := hW.ndl ht hp
    have nb := nch_bd (hW.n12 ht) hp
    refine agree_q (nch C t p) hW (fun M Q XQ hI hB h => ?_) (fun M Q hC hB h => ?_)
    · unfold wp_X10_children wpe_X10_children
      exact sp_with1 hW hI.1 hB ht l rfl rfl (fun hT => ⟨hT, sp_childCount hW hI.1 hB rfl ht hp rfl (h M Fr.rf hB hI)⟩)
    · unfold wp_X11_children wpe_X11_children
      exact sp_measures hW hC hB (fun M1 F1 B1 S1 => sp_node1 hW (hC.z F1) B1 ht l rfl rfl (go1 (hC.z F1) B1 rfl (fun M' F F' B C' e => ⟨r01.2, fun z => absurd z (by decide), fun _ => sp_place hW C' B ht hp rfl rfl (sp_childrenOf hW C' (S1.g F) ht hp rfl rfl (h M' ((P4_m F1).tr F') B C' e))⟩)))
  · refine agree_x 1 hW (by omega) (fun M Q XQ hI hB h => ?_) (fun M Q hC hB h => ?_)
    · unfold wp_X10_children wpe_X10_children
      exact sp_with0 hI.1 hB h0 h1 c (h M Fr.rf hB hI)
    · unfold wp_X11_children wpe_X11_children
      exact sp_measures hW hC hB (fun M1 F1 B1 S1 => sp_node0 hW (hC.z F1) B1 h0 h1 c (go0 (hC.z F1) B1 rfl (fun M' F B C' e => h M' ((P4_m F1).tr F) B C' e) (fun M' z => ⟨r01.1, fun _ => z, fun z => absurd rfl z⟩)))
theorem ag_subtreeSize (hW : WF C) (h0 : inR a) (h1 : inR x) : Agree nm0 1 (-2000000) 2000000 C (fun M Q XQ => wp_X10_subtreeSize M a x Q XQ) (fun M Q => wp_X11_subtreeSize M a x Q) := by
  by_cases c : vN C a x
  · obtain ⟨t, p, ht, rfl, rfl, hp⟩ := vN_node hW c
    have l := hW.ndl ht hp
    have n12 := hW.n12 ht
    have eb := hW.e hp
    refine agree_q ((ce C t p : Int) - p) hW (fun M Q XQ hI hB h => ?_) (fun M Q hC hB h => ?_)
    · unfold wp_X10_subtreeSize wpe_X10_subtreeSize
      refine sp_with1 hW hI.1 hB ht l rfl rfl (fun hT => ⟨hT, by omega, ?_⟩)
      rw [Int.toNat_natCast, hI.1.sz rfl ht hp]
      exact h M Fr.rf hB hI
    · unfold wp_X11_subtreeSize wpe_X11_subtreeSize
      refine sp_measures hW hC hB (fun M1 F1 B1 S1 => sp_node1 hW (hC.z F1) B1 ht l rfl rfl (go1 (hC.z F1) B1 rfl (fun M' F F' B C' e => ⟨r01.2, fun z => absurd z (by decide), fun _ => sp_place hW C' B ht hp rfl rfl ⟨by omega, ?_⟩⟩)))
      rw [show (12 * (t : Int) + (p : Int)).toNat = 12 * t + p from by omega, (S1.g F) t p ht hp]
      exact h M' ((P4_m F1).tr F') B C' e
  · refine agree_x 1 hW (by omega) (fun M Q XQ hI hB h => ?_) (fun M Q hC hB h => ?_)
    · unfold wp_X10_subtreeSize wpe_X10_subtreeSize
      exact sp_with0 hI.1 hB h0 h1 c (h M Fr.rf hB hI)
    · unfold wp_X11_subtreeSize wpe_X11_subtreeSize
      exact sp_measures hW hC hB (fun M1 F1 B1 S1 => sp_node0 hW (hC.z F1) B1 h0 h1 c (go0 (hC.z F1) B1 rfl (fun M' F B C' e => h M' ((P4_m F1).tr F) B C' e) (fun M' z => ⟨r01.1, fun _ => z, fun z => absurd rfl z⟩)))
theorem ag_isKeyroot (hW : WF C) (h0 : inR a) (h1 : inR x) : Agree nm0 1 0 1 C (fun M Q XQ => wp_X10_isKeyroot M a x Q XQ) (fun M Q => wp_X11_isKeyroot M a x Q) := by
  by_cases c : vN C a x
  · obtain ⟨t, p, ht, rfl, rfl, hp⟩ := vN_node hW c
    have l := hW.ndl ht hp
    have n12 := hW.n12 ht
    refine agree_q (if p = 0 ∨ cL C t p ≤ cL C t (p - 1) then 1 else 0) hW (fun M Q XQ hI hB h => ?_) (fun M Q hC hB h => ?_)
    · unfold wp_X10_isKeyroot wpe_X10_isKeyroot
      exact sp_with1 hW hI.1 hB ht l rfl rfl (fun hT => ⟨hT, sp_isKey hW hI.1 hB rfl ht hp rfl ⟨ite01 _, h M Fr.rf hB hI⟩⟩)
    · unfold wp_X11_isKeyroot wpe_X11_isKeyroot wpj_X11_isKeyroot_55
      refine sp_node1 hW hC hB ht l rfl rfl (go1 hC hB rfl (fun M' F F' B C' e => ⟨r01.2, fun _ => sp_place hW C' B ht hp rfl rfl ⟨⟨by omega, by omega⟩, fun z => ?_, fun z => ⟨by omega, by omega, B.r _ _ _, B.r _ _ _, ?_⟩⟩, fun z => absurd (by decide) z⟩))
      · have hh := h M' F' B C' e
        rwa [if_pos (by omega)] at hh
      · have hh := h M' F' B C' e
        rw [show (12 * (t : Int) + (p : Int) - 1).toNat = 12 * t + (p - 1) from by omega, show (12 * (t : Int) + (p : Int)).toNat = 12 * t + p from by omega, C' 1 _ rfl, C' 1 _ rfl, hW.l ht hp, hW.l ht (by omega)]
        refine ⟨fun z => ?_, fun z => ?_⟩
        · rwa [if_neg (by omega)] at hh
        · rwa [if_pos (by omega)] at hh
  · refine agree_x 1 hW (by omega) (fun M Q XQ hI hB h => ?_) (fun M Q hC hB h => ?_)
    · unfold wp_X10_isKeyroot wpe_X10_isKeyroot
      exact sp_with0 hI.1 hB h0 h1 c (h M Fr.rf hB hI)
    · unfold wp_X11_isKeyroot wpe_X11_isKeyroot
      exact sp_node0 hW hC hB h0 h1 c (go0 hC hB rfl h (fun M' z => ⟨r01.1, fun z => absurd rfl z, fun _ => z⟩))
theorem ag_inPreorder (hW : WF C) (h0 : inR a) (h1 : inR x) : Agree nm0 1 (-2000000) 2000000 C (fun M Q XQ => wp_X10_inPreorder M a x Q XQ) (fun M Q => wp_X11_inPreorder M a x Q) := by
  by_cases c : vN C a x
  · obtain ⟨t, p, ht, rfl, rfl, hp⟩ := vN_of c
    have n12 := hW.n12 ht
    have lb := hW.ndl ht hp
    refine agree_q (nd C t p : Int) hW (fun M Q XQ hI hB h => ?_) (fun M Q hC hB h => ?_)
    · unfold wp_X10_inPreorder wpe_X10_inPreorder
      refine sp_num1 ht rfl (fun hT => ⟨hT, sp_needIndex h1 (hB.r _ _ _) (fun _ _ => ⟨by omega, ?_⟩) (fun z => absurd ?_ z)⟩)
      · rw [Int.toNat_natCast, hI.1.pre rfl ht hp]
        exact h M Fr.rf hB hI
      · rw [hI.1.n rfl ht]
        omega
    · unfold wp_X11_inPreorder wpe_X11_inPreorder
      refine sp_node1 hW hC hB ht hp rfl rfl (go1 hC hB rfl (fun M' F F' B C' e => ⟨r01.2, fun z => absurd z (by decide), fun _ => ⟨by omega, ?_⟩⟩))
      rw [show (12 * (t : Int) + (p : Int)).toNat = 12 * t + p from by omega, C' 0 _ rfl, hW.ndi ht hp]
      exact h M' F' B C' e
  · refine agree_x 1 hW (by omega) (fun M Q XQ hI hB h => ?_) (fun M Q hC hB h => ?_)
    · unfold wp_X10_inPreorder wpe_X10_inPreorder
      refine sp_treeNumbered h0 (fun t ht e => ⟨isT_of ht, sp_needIndex h1 (hB.r _ _ _) (fun z1 z2 => absurd ?_ c) (fun _ => h M Fr.rf hB hI)⟩) (fun _ => h M Fr.rf hB hI)
      rw [hI.1.n rfl ht] at z2
      exact ⟨by omega, by omega, by rw [e, Int.toNat_natCast]; exact z2⟩
    · unfold wp_X11_inPreorder wpe_X11_inPreorder
      exact sp_node0 hW hC hB h0 h1 c (go0 hC hB rfl h (fun M' z => ⟨r01.1, fun _ => z, fun z => absurd rfl z⟩))
theorem ag_inPostorder (hW : WF C) (h0 : inR a) (h1 : inR x) : Agree nm0 1 (-2000000) 2000000 C (fun M Q XQ => wp_X10_inPostorder M a x Q XQ) (fun M Q => wp_X11_inPostorder M a x Q) := by
  by_cases c : vN C a x
  · obtain ⟨t, p, ht, rfl, rfl, hp⟩ := vN_of c
    have n12 := hW.n12 ht
    obtain ⟨r, hr, er⟩ := po_surj (hW.wl ht) hp
    have lb := hW.ndl ht hr
    refine agree_q (nd C t r : Int) hW (fun M Q XQ hI hB h => ?_) (fun M Q hC hB h => ?_)
    · unfold wp_X10_inPostorder wpe_X10_inPostorder
      refine sp_num1 ht rfl (fun hT => ⟨hT, sp_needIndex h1 (hB.r _ _ _) (fun _ _ => ⟨by omega, ?_⟩) (fun z => absurd ?_ z)⟩)
      · rw [Int.toNat_natCast, ← er, hI.1.ps rfl ht hr]
        exact h M Fr.rf hB hI
      · rw [hI.1.n rfl ht]
        omega
    · unfold wp_X11_inPostorder wpe_X11_inPostorder
      refine sp_measures hW hC hB (fun M1 F1 B1 S1 => sp_node1 hW (hC.z F1) B1 ht hp rfl rfl (go1 (hC.z F1) B1 rfl (fun M' F F' B C' e => ⟨r01.2, fun z => absurd z (by decide), fun _ => sp_byPost hW C' (S1.g F) ht hr rfl (by rw [er]) ⟨by omega, ?_⟩⟩)))
      rw [show (12 * (t : Int) + (r : Int)).toNat = 12 * t + r from by omega, C' 0 _ rfl, hW.ndi ht hr]
      exact h M' ((P4_m F1).tr F') B C' e
  · refine agree_x 1 hW (by omega) (fun M Q XQ hI hB h => ?_) (fun M Q hC hB h => ?_)
    · unfold wp_X10_inPostorder wpe_X10_inPostorder
      refine sp_treeNumbered h0 (fun t ht e => ⟨isT_of ht, sp_needIndex h1 (hB.r _ _ _) (fun z1 z2 => absurd ?_ c) (fun _ => h M Fr.rf hB hI)⟩) (fun _ => h M Fr.rf hB hI)
      rw [hI.1.n rfl ht] at z2
      exact ⟨by omega, by omega, by rw [e, Int.toNat_natCast]; exact z2⟩
    · unfold wp_X11_inPostorder wpe_X11_inPostorder
      exact sp_measures hW hC hB (fun M1 F1 B1 S1 => sp_node0 hW (hC.z F1) B1 h0 h1 c (go0 (hC.z F1) B1 rfl (fun M' F B C' e => h M' ((P4_m F1).tr F) B C' e) (fun M' z => ⟨r01.1, fun _ => z, fun z => absurd rfl z⟩)))
end LOOKS
