/-! calls that lay a leaf; prices; children -/
section GRW
variable {C : Nat → Nat → Int} {a x : Int}
theorem ag_childAt {q : Int} (hW : WF C) (h0 : inR a) (h1 : inR x) (h2 : inR q) : Agree nm0 1 (-2000000) 2000000 C (fun M Q XQ => wp_X10_childAt M a x q Q XQ) (fun M Q => wp_X11_childAt M a x q Q) := by
  by_cases c : vN C a x
  · obtain ⟨t, p, ht, rfl, rfl, hp⟩ := vN_node hW c
    have l := hW.ndl ht hp
    have n12 := hW.n12 ht
    have nb := nch_bd n12 hp
    by_cases d : 0 ≤ q ∧ q < nch C t p
    · obtain ⟨k, rfl⟩ : ∃ k : Nat, q = k := ⟨q.toNat, by omega⟩
      have cs := chd_spec hW ht hp k (by omega)
      have ep := hW.e hp
      have cc : chd C t p k < cn C t := by
        have := cs.2.2.2.2 d.2
        omega
      have lc := hW.ndl ht cc
      refine agree_q (nd C t (chd C t p k) : Int) hW (fun M Q XQ hI hB h => ?_) (fun M Q hC hB h => ?_)
      · unfold wp_X10_childAt wpe_X10_childAt
        exact sp_with1 hW hI.1 hB ht l rfl rfl (fun hT => ⟨hT, sp_childCount hW hI.1 hB rfl ht hp rfl (sp_needIndex h2 ⟨by omega, by omega⟩ (fun _ _ => sp_nthChild hW hI.1 hB rfl ht hp d.2 rfl rfl (h M Fr.rf hB hI)) (fun z => absurd d z))⟩)
      · unfold wp_X11_childAt wpe_X11_childAt wpj_X11_childAt_27 wpj_X11_childAt_57
        refine sp_measures hW hC hB (fun M1 F1 B1 S1 => sp_node1 hW (hC.z F1) B1 ht l rfl rfl ⟨r01.2, fun z => absurd z (by decide), fun _ => sp_place hW (hC.z F1) B1 ht hp rfl rfl ⟨r01.2, fun z => absurd z (by decide), fun _ => sp_childrenOf hW (hC.z F1) S1 ht hp rfl rfl (sp_in1 ⟨by decide, by decide⟩ ⟨by omega, by omega⟩ (by omega) ⟨r01.2, fun z => absurd z (by decide), fun _ => go1 (hC.z F1) B1 rfl (fun M' F F' B C' e => ⟨r01.2, fun _ => sp_child hW C' (S1.g F) ht hp (by omega) rfl rfl rfl ⟨by omega, ?_⟩, fun z => absurd (by decide) z⟩)⟩)⟩⟩)
        rw [show (12 * (t : Int) + (chd C t p k : Int)).toNat = 12 * t + chd C t p k from by omega, C' 0 _ rfl, hW.ndi ht cc]
        exact h M' ((P4_m F1).tr F') B C' e
    · refine agree_x 1 hW (by omega) (fun M Q XQ hI hB h => ?_) (fun M Q hC hB h => ?_)
      · unfold wp_X10_childAt wpe_X10_childAt
        exact sp_with1 hW hI.1 hB ht l rfl rfl (fun hT => ⟨hT, sp_childCount hW hI.1 hB rfl ht hp rfl (sp_needIndex h2 ⟨by omega, by omega⟩ (fun z1 z2 => absurd ⟨z1, z2⟩ d) (fun _ => h M Fr.rf hB hI))⟩)
      · unfold wp_X11_childAt wpe_X11_childAt wpj_X11_childAt_27 wpj_X11_childAt_56 wpj_X11_childAt_57
        exact sp_measures hW hC hB (fun M1 F1 B1 S1 => sp_node1 hW (hC.z F1) B1 ht l rfl rfl ⟨r01.2, fun z => absurd z (by decide), fun _ => sp_place hW (hC.z F1) B1 ht hp rfl rfl ⟨r01.2, fun z => absurd z (by decide), fun _ => sp_childrenOf hW (hC.z F1) S1 ht hp rfl rfl (sp_in0 h2 ⟨by decide, by decide⟩ ⟨by omega, by omega⟩ (by omega) ⟨r01.1, fun _ => go0 (hC.z F1) B1 rfl (fun M' F B C' e => h M' ((P4_m F1).tr F) B C' e) (fun M' z => ⟨r01.1, fun z => absurd rfl z, fun _ => z⟩), fun z => absurd rfl z⟩)⟩⟩)
  · refine agree_x 1 hW (by omega) (fun M Q XQ hI hB h => ?_) (fun M Q hC hB h => ?_)
    · unfold wp_X10_childAt wpe_X10_childAt
      exact sp_with0 hI.1 hB h0 h1 c (h M Fr.rf hB hI)
    · unfold wp_X11_childAt wpe_X11_childAt wpj_X11_childAt_27 wpj_X11_childAt_56 wpj_X11_childAt_57
      exact sp_measures hW hC hB (fun M1 F1 B1 S1 => sp_node0 hW (hC.z F1) B1 h0 h1 c ⟨r01.1, fun _ => ⟨r01.1, fun _ => go0 (hC.z F1) B1 rfl (fun M' F B C' e => h M' ((P4_m F1).tr F) B C' e) (fun M' z => ⟨r01.1, fun z => absurd rfl z, fun _ => z⟩), fun z => absurd rfl z⟩, fun z => absurd rfl z⟩)
/-- the class's half of laying a leaf -/
theorem lay_K {t s L : Nat} {kd lb p0 p1 : Int} {M : Mem} {P : Mem → Prop} (hW : WF C) (hI : IK C M) (hB : Bd M) (ht : t < 2) (h12 : cn C t < 12) (hf : fits C t s L) (hk : 0 ≤ kd ∧ kd ≤ 3) (hl : 0 ≤ lb ∧ lb ≤ 99) (e0 : p0 = (if s = 0 then -1 else (nd (insC C t s L kd lb) t (par (cL (insC C t s L kd lb) t) s) : Int))) (e1 : p1 = s) (h : ∀ M' : Mem, Fr Pc M M' → Bd M' → IK (insC C t s L kd lb) M' → P M') : wp_X9_insert M (11 + t) p0 p1 kd lb (fun M10 => ∀ M11 : Mem, M11 = mset M10 0 8 0 0 → P M11) := by
  obtain ⟨hX, z9, z10, _⟩ := hI
  refine sp_insert hW hX hB rfl ht h12 (insC_is hf.1 h12) hf hk hl e0 e1 (fun M' F B X => ?_)
  refine mut_K X (Pc_of F (fun o k ho => Pobj_no (by omega))) B ?_ ?_ h
  · rw [F 9 4 0 (Pobj_no (by omega))]
    exact z9
  · rw [F 10 4 0 (Pobj_no (by omega))]
    exact z10
/-- the reference's -/
theorem lay_M {t s L : Nat} {kd lb p0 p1 p2 p3 : Int} {M : Mem} {Q : Mem → Prop} (hW : WF C) (hC : Core C M) (hB : Bd M) (ht : t < 2) (h12 : cn C t < 12) (hs : s ≤ cn C t) (hL : L < 12) (hk : 0 ≤ kd ∧ kd ≤ 3) (hl : 0 ≤ lb ∧ lb ≤ 99) (e0 : p0 = t) (e1 : p1 = s) (e2 : p2 = (cn C t : Int)) (e3 : p3 = L) (K : ∀ M' : Mem, Fr Pm M M' → Bd M' → Core (insC C t s L kd lb) M' → M' 13 23 0 = M 13 23 0 → Q M') : wp_X11_lays M p0 p1 p2 p3 kd lb Q := by
  refine sp_lays hC hB ht (hW.n ht) h12 hs hL hk hl e0 e1 e2 e3 (fun M' F B I => K M' (F.mono (fun o k h1 => ?_)) B (fun k i hk => I.uniq (insC_is hs h12) hk) (F 13 23 0 rfl))
  simp only [Pcore, Bool.and_eq_true] at h1
  exact h1.1
theorem ag_addRoot {k l : Int} (hW : WF C) (h0 : inR a) (h1 : inR k) (h2 : inR l) : Agree nm0 3 (-2000000) 2000000 C (fun M Q XQ => wp_X10_addRoot M a k l (fun M' => Q 0 M') XQ) (fun M Q => wp_X11_addRoot M a k l (fun M' => Q 0 M')) := by
  by_cases c : 0 ≤ a ∧ a ≤ 1
  · obtain ⟨t, rfl⟩ : ∃ t : Nat, a = t := ⟨a.toNat, by omega⟩
    have ht : t < 2 := by omega
    have n12 := hW.n12 ht
    by_cases ck : 0 ≤ k ∧ k ≤ 3
    · by_cases cl : 0 ≤ l ∧ l ≤ 99
      · by_cases cz : cn C t = 0
        · have hf : fits C t 0 0 := ⟨by omega, fun _ => ⟨rfl, cz⟩, fun z => absurd z (by omega), fun z => absurd z (by omega)⟩
          refine agree_c (insC C t 0 0 k l) 0 ((insC_is hf.1 (by omega)).wf hW ht hf (by omega) ck cl) (fun M Q XQ hI hB h => ?_) (fun M Q hC hB h => ?_)
          · unfold wp_X10_addRoot wpe_X10_addRoot
            refine sp_num1 ht rfl (fun hT => ⟨hT, sp_needIndex h1 ⟨by decide, by decide⟩ (fun _ _ => sp_needAtMost h2 ⟨by decide, by decide⟩ (fun _ _ => ⟨hB.r _ _ _, fun _ => lay_K (P := fun M' => Q 0 M') hW hI hB ht (by omega) hf ck cl (by rw [if_pos rfl]) rfl h, fun z => absurd ?_ z⟩) (fun z => absurd cl z)) (fun z => absurd (by omega) z)⟩)
            rw [hI.1.n rfl ht, cz]
            rfl
          · unfold wp_X11_addRoot wpe_X11_addRoot wpj_X11_addRoot_26 wpj_X11_addRoot_52
            refine sp_tree1 ht ⟨r01.2, fun z => absurd z (by decide), fun _ => sp_in1 ⟨by decide, by decide⟩ ⟨by decide, by decide⟩ ck ⟨r01.2, fun z => absurd z (by decide), fun _ => sp_in1 ⟨by decide, by decide⟩ ⟨by decide, by decide⟩ cl ⟨r01.2, fun z => absurd z (by decide), fun _ => ⟨by omega, hB.r _ _ _, fun z => absurd ?_ z, fun _ => sp_go 0 hB r01.2 r01.2 r01.2 rfl (fun M' F B e => ⟨r01.2, fun z => absurd z (by decide), fun _ => lay_M (s := 0) (L := 0) hW (hC.g F) B ht (by omega) hf.1 (by decide) ck cl rfl rfl (by rw [cz]; rfl) rfl (fun M2 F2 B2 C2 e2 => h M2 ((Pg_m F).tr F2) B2 C2 (e2.trans e))⟩)⟩⟩⟩⟩
            rw [Int.toNat_natCast, hC.n hW ht, cz]
            rfl
        · refine agree_x 3 hW (by omega) (fun M Q XQ hI hB h => ?_) (fun M Q hC hB h => ?_)
          · unfold wp_X10_addRoot wpe_X10_addRoot
            refine sp_num1 ht rfl (fun hT => ⟨hT, sp_needIndex h1 ⟨by decide, by decide⟩ (fun _ _ => sp_needAtMost h2 ⟨by decide, by decide⟩ (fun _ _ => ⟨hB.r _ _ _, fun z => absurd z ?_, fun _ => h M Fr.rf hB hI⟩) (fun z => absurd cl z)) (fun z => absurd (by omega) z)⟩)
            rw [hI.1.n rfl ht]
            omega
          · unfold wp_X11_addRoot wpe_X11_addRoot wpj_X11_addRoot_26 wpj_X11_addRoot_51 wpj_X11_addRoot_52
            refine sp_tree1 ht ⟨r01.2, fun z => absurd z (by decide), fun _ => sp_in1 ⟨by decide, by decide⟩ ⟨by decide, by decide⟩ ck ⟨r01.2, fun z => absurd z (by decide), fun _ => sp_in1 ⟨by decide, by decide⟩ ⟨by decide, by decide⟩ cl ⟨r01.2, fun z => absurd z (by decide), fun _ => ⟨by omega, hB.r _ _ _, fun _ => sp_go 3 hB r01.2 r01.2 r01.1 rfl (fun M' F B e => ⟨r01.1, fun _ => h M' (Pg_m F) B (hC.g F) e, fun z => absurd rfl z⟩), fun z => absurd ?_ z⟩⟩⟩⟩
            rw [Int.toNat_natCast, hC.n hW ht]
            omega
      · refine agree_x 2 hW (by omega) (fun M Q XQ hI hB h => ?_) (fun M Q hC hB h => ?_)
        · unfold wp_X10_addRoot wpe_X10_addRoot
          exact sp_num1 ht rfl (fun hT => ⟨hT, sp_needIndex h1 ⟨by decide, by decide⟩ (fun _ _ => sp_needAtMost h2 ⟨by decide, by decide⟩ (fun z1 z2 => absurd ⟨z1, z2⟩ cl) (fun _ => h M Fr.rf hB hI)) (fun z => absurd (by omega) z)⟩)
        · unfold wp_X11_addRoot wpe_X11_addRoot wpj_X11_addRoot_26 wpj_X11_addRoot_51 wpj_X11_addRoot_52
          exact sp_tree1 ht ⟨r01.2, fun z => absurd z (by decide), fun _ => sp_in1 ⟨by decide, by decide⟩ ⟨by decide, by decide⟩ ck ⟨r01.2, fun z => absurd z (by decide), fun _ => sp_in0 h2 ⟨by decide, by decide⟩ ⟨by decide, by decide⟩ cl ⟨r01.2, fun z => absurd z (by decide), fun _ => ⟨by omega, hB.r _ _ _, fun _ => sp_go 2 hB r01.2 r01.1 r01.1 rfl (fun M' F B e => ⟨r01.1, fun _ => h M' (Pg_m F) B (hC.g F) e, fun z => absurd rfl z⟩), fun _ => sp_go 2 hB r01.2 r01.1 r01.2 rfl (fun M' F B e => ⟨r01.1, fun _ => h M' (Pg_m F) B (hC.g F) e, fun z => absurd rfl z⟩)⟩⟩⟩⟩
    · refine agree_x 1 hW (by omega) (fun M Q XQ hI hB h => ?_) (fun M Q hC hB h => ?_)
      · unfold wp_X10_addRoot wpe_X10_addRoot
        exact sp_num1 ht rfl (fun hT => ⟨hT, sp_needIndex h1 ⟨by decide, by decide⟩ (fun z1 z2 => absurd (by omega) ck) (fun _ => h M Fr.rf hB hI)⟩)
      · unfold wp_X11_addRoot wpe_X11_addRoot wpj_X11_addRoot_25 wpj_X11_addRoot_26 wpj_X11_addRoot_51 wpj_X11_addRoot_52
        exact sp_tree1 ht ⟨r01.2, fun z => absurd z (by decide), fun _ => sp_in0 h1 ⟨by decide, by decide⟩ ⟨by decide, by decide⟩ ck ⟨r01.1, fun _ => sp_in h2 ⟨by decide, by decide⟩ ⟨by decide, by decide⟩ ⟨r01.2, fun z => absurd z (by decide), fun _ => ⟨by omega, hB.r _ _ _, fun _ => sp_go 1 hB r01.1 (inR_ite _) r01.1 rfl (fun M' F B e => ⟨r01.1, fun _ => h M' (Pg_m F) B (hC.g F) e, fun z => absurd rfl z⟩), fun _ => sp_go 1 hB r01.1 (inR_ite _) r01.2 rfl (fun M' F B e => ⟨r01.1, fun _ => h M' (Pg_m F) B (hC.g F) e, fun z => absurd rfl z⟩)⟩⟩, fun z => absurd rfl z⟩⟩
  · refine agree_x 1 hW (by omega) (fun M Q XQ hI hB h => ?_) (fun M Q hC hB h => ?_)
    · unfold wp_X10_addRoot wpe_X10_addRoot
      exact sp_treeNumbered h0 (fun t ht e => absurd (by omega) c) (fun _ => h M Fr.rf hB hI)
    · unfold wp_X11_addRoot wpe_X11_addRoot wpj_X11_addRoot_25 wpj_X11_addRoot_26 wpj_X11_addRoot_51 wpj_X11_addRoot_52
      exact sp_tree0 h0 c ⟨r01.1, fun _ => sp_in h2 ⟨by decide, by decide⟩ ⟨by decide, by decide⟩ ⟨r01.1, fun _ => sp_go 1 hB r01.1 (inR_ite _) r01.1 rfl (fun M' F B e => ⟨r01.1, fun _ => h M' (Pg_m F) B (hC.g F) e, fun z => absurd rfl z⟩), fun z => absurd rfl z⟩, fun z => absurd rfl z⟩
end GRW
