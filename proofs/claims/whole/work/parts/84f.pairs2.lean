/-! questions about one node of each tree -/
section TWO
variable {C : Nat → Nat → Int} {x y : Int}
def v2 (C : Nat → Nat → Int) (x y : Int) : Prop := (0 ≤ x ∧ x < (cn C 0 : Int)) ∧ 0 ≤ y ∧ y < (cn C 1 : Int)
theorem v2_node (hW : WF C) (h : v2 C x y) : ∃ p q : Nat, x = (nd C 0 p : Int) ∧ y = (nd C 1 q : Int) ∧ p < cn C 0 ∧ q < cn C 1 := by
  obtain ⟨⟨h1, h2⟩, h3, h4⟩ := h
  obtain ⟨p, hp, ep⟩ := hW.surj (t := 0) (by omega) (show x.toNat < cn C 0 from by omega)
  obtain ⟨q, hq, eq⟩ := hW.surj (t := 1) (by omega) (show y.toNat < cn C 1 from by omega)
  exact ⟨p, q, by rw [ep]; omega, by rw [eq]; omega, hp, hq⟩
theorem sp_nn1 {M : Mem} {p q : Nat} {Q : Mem → Prop} {XQ : String → Mem → Prop} (hW : WF C) (hX : Cls C M) (hB : Bd M) (hp : p < cn C 0) (hq : q < cn C 1) (K : Q M) : wp_X10_needNodes M (nd C 0 p) (nd C 1 q) Q XQ := by
  have lp := hW.ndl (t := 0) (by omega) hp
  have lq := hW.ndl (t := 1) (by omega) hq
  have n0 := hW.n12 (t := 0) (by omega)
  have n1 := hW.n12 (t := 1) (by omega)
  unfold wp_X10_needNodes wpe_X10_needNodes
  refine sp_needIndex ⟨by omega, by omega⟩ (hB.r _ _ _) (fun _ _ => sp_needIndex ⟨by omega, by omega⟩ (hB.r _ _ _) (fun _ _ => K) (fun z => absurd ?_ z)) (fun z => absurd ?_ z)
  · rw [hX.n (t := 1) rfl (by omega)]
    omega
  · rw [hX.n (t := 0) rfl (by omega)]
    omega
theorem sp_nn0 {M : Mem} {Q : Mem → Prop} {XQ : String → Mem → Prop} (hX : Cls C M) (hB : Bd M) (h0 : inR x) (h1 : inR y) (h : ¬ v2 C x y) (K : XQ "java/lang/IndexOutOfBoundsException" M) : wp_X10_needNodes M x y Q XQ := by
  unfold wp_X10_needNodes wpe_X10_needNodes
  refine sp_needIndex h0 (hB.r _ _ _) (fun z1 z2 => sp_needIndex h1 (hB.r _ _ _) (fun z3 z4 => absurd ?_ h) (fun _ => K)) (fun _ => K)
  rw [hX.n (t := 0) rfl (by omega)] at z2
  rw [hX.n (t := 1) rfl (by omega)] at z4
  exact ⟨⟨z1, z2⟩, z3, z4⟩
theorem v2_l (hW : WF C) (h0 : vN C 0 x) (h1 : vN C 1 y) : v2 C x y := ⟨⟨h0.2.1, h0.2.2⟩, h1.2.1, h1.2.2⟩
theorem ag_subtreeDistance (hW : WF C) (h0 : inR x) (h1 : inR y) : Agree nm0 1 (-2000000) 2000000 C (fun M Q XQ => wp_X10_subtreeDistance M x y Q XQ) (fun M Q => wp_X11_subtreeDistance M x y Q) := by
  have n0 := hW.n12 (t := 0) (by omega)
  have n1 := hW.n12 (t := 1) (by omega)
  by_cases c : v2 C x y
  · obtain ⟨p, q, rfl, rfl, hp, hq⟩ := v2_node hW c
    have lp := hW.ndl (t := 0) (by omega) hp
    have lq := hW.ndl (t := 1) (by omega) hq
    have ep := hW.e hp
    have eq := hW.e hq
    have db := DD_bd hW (i := p) (k := q) ep.2 eq.2
    refine agree_q (DD C p (ce C 0 p) q (ce C 1 q)) hW (fun M Q XQ hI hB h => ?_) (fun M Q hC hB h => ?_)
    · unfold wp_X10_subtreeDistance wpe_X10_subtreeDistance
      refine sp_nn1 hW hI.1 hB hp hq (sp_laysolve (Q := fun M6 => wp_X9_postPlace M6 11 (nd C 0 p) (fun y7 M8 => wp_X9_postPlace M8 12 (nd C 1 q) (fun y9 M10 => wp_X2_between M10 y7 y9 (fun y11 M12 => Q y11 M12)))) hW hI hB (fun M' F B I L T => ?_))
      have p0 := po_lt (hW.wl (t := 0) (by omega)) hp
      have p1 := po_lt (hW.wl (t := 1) (by omega)) hq
      refine sp_postPlace (t := 0) hW I.1 rfl (by omega) hp rfl (sp_postPlace (t := 1) hW I.1 rfl (by omega) hq rfl (sp_between rfl rfl (by omega) (by omega) ?_))
      have e : RQ C (pln C) (rF C 0 0 (po (cL C 0) (cn C 0) p)) (po (cL C 0) (cn C 0) p + 1) (rF C 1 0 (po (cL C 1) (cn C 1) q)) (po (cL C 1) (cn C 1) q + 1) = _ := RQ_sub hW p0 p1
      rw [T _ _ p0 p1 trivial, e, po_pl hW (by omega) hp, po_pl hW (by omega) hq]
      exact h M' (Pdd_c F) B I
    · unfold wp_X11_subtreeDistance wpe_X11_subtreeDistance wpj_X11_subtreeDistance_24
      refine sp_node1 (t := 0) hW hC hB (by omega) lp rfl rfl ⟨r01.2, fun z => absurd z (by decide), fun _ => sp_node1 (t := 1) hW hC hB (by omega) lq rfl rfl ⟨r01.2, fun z => absurd z (by decide), fun _ => go1 hC hB rfl (fun M1 F1 F1' B1 C1 e1 => ⟨r01.2, fun _ => sp_fillD hW C1 B1 (fun M2 F2 B2 S2 T2 => sp_place (t := 0) hW (C1.f F2) B2 (by omega) hp rfl rfl (sp_place (t := 1) hW (C1.f F2) B2 (by omega) hq rfl rfl ⟨by omega, by omega, sp_at ?_⟩)), fun z => absurd (by decide) z⟩)⟩⟩
      rw [Int.toNat_natCast, show (12 + (q : Int)).toNat = 12 + q from by omega, S2.s0 hp, S2 1 q (by omega) hq]
      have z0 : ((((p : Int) * 13 + (p + ((ce C 0 p : Int) - p))) * 13 + q) * 13 + (q + ((ce C 1 q : Int) - q))) = (ix p (ce C 0 p) q (ce C 1 q) : Int) := by
        unfold ix
        omega
      rw [z0, Int.toNat_natCast, T2 _ _ _ _ (by omega) ep.2 (by omega) eq.2]
      refine ⟨?_, h M2 (F1'.tr (P48_m F2)) B2 (C1.f F2) ((F2 13 23 0 rfl).trans e1)⟩
      unfold ix
      omega
  · refine agree_x 1 hW (by omega) (fun M Q XQ hI hB h => ?_) (fun M Q hC hB h => ?_)
    · unfold wp_X10_subtreeDistance wpe_X10_subtreeDistance
      exact sp_nn0 hI.1 hB h0 h1 c (h M Fr.rf hB hI)
    · have J : wpj_X11_subtreeDistance_23 x y M Q := by
        unfold wpj_X11_subtreeDistance_23 wpj_X11_subtreeDistance_24
        exact go0 hC hB rfl h (fun M' z => ⟨r01.1, fun z => absurd rfl z, fun _ => z⟩)
      unfold wp_X11_subtreeDistance wpe_X11_subtreeDistance
      by_cases d : vN C 0 x
      · refine sp_node1 (t := 0) (y := x.toNat) hW hC hB (by omega) (by have d1 : 0 ≤ x ∧ x < (cn C 0 : Int) := d.2; omega) rfl (by have d1 : 0 ≤ x ∧ x < (cn C 0 : Int) := d.2; omega) ⟨r01.2, fun z => absurd z (by decide), fun _ => sp_node0 hW hC hB r01.2 h1 (fun z => c (v2_l hW d z)) ⟨r01.1, fun _ => J, fun z => absurd rfl z⟩⟩
      · exact sp_node0 hW hC hB r01.1 h0 d ⟨r01.1, fun _ => J, fun z => absurd rfl z⟩
theorem ag_areEqual (hW : WF C) (h0 : inR x) (h1 : inR y) : Agree nm0 1 0 1 C (fun M Q XQ => wp_X10_areEqual M x y Q XQ) (fun M Q => wp_X11_areEqual M x y Q) := by
  by_cases c : v2 C x y
  · obtain ⟨p, q, rfl, rfl, hp, hq⟩ := v2_node hW c
    have lp := hW.ndl (t := 0) (by omega) hp
    have lq := hW.ndl (t := 1) (by omega) hq
    have bq : ∀ v : Int, (v = 0 ∨ v = 1) → (v = 1 ↔ Sm C 0 p 1 q) → v = if bo (Sm C 0 p 1 q) then 1 else 0 := fun v h2 h3 => by
      by_cases s : Sm C 0 p 1 q
      · rw [if_pos (bo_iff.mpr s)]
        exact h3.mpr s
      · rw [if_neg (fun z => s (bo_iff.mp z))]
        have : v ≠ 1 := fun z => s (h3.mp z)
        omega
    refine agree_q (if bo (Sm C 0 p 1 q) then 1 else 0) hW (fun M Q XQ hI hB h => ?_) (fun M Q hC hB h => ?_)
    · unfold wp_X10_areEqual wpe_X10_areEqual
      refine sp_nn1 hW hI.1 hB hp hq (sp_same (t := 0) (u := 1) hW hI.1 hB rfl rfl (by omega) (by omega) hp hq rfl rfl (fun v h2 h3 => ⟨h2, ?_⟩))
      rw [bq v h2 h3]
      exact h M Fr.rf hB hI
    · unfold wp_X11_areEqual wpe_X11_areEqual wpj_X11_areEqual_28
      refine sp_measures hW hC hB (fun M1 F1 B1 S1 => sp_node1 (t := 0) hW (hC.z F1) B1 (by omega) lp rfl rfl ⟨r01.2, fun z => absurd z (by decide), fun _ => sp_node1 (t := 1) hW (hC.z F1) B1 (by omega) lq rfl rfl ⟨r01.2, fun z => absurd z (by decide), fun _ => go1 (hC.z F1) B1 rfl (fun M' F F' B C' e => ⟨r01.2, fun z => absurd z (by decide), fun _ => sp_place (t := 0) hW C' B (by omega) hp rfl rfl (sp_place (t := 1) hW C' B (by omega) hq rfl rfl (sp_isSame (t := 0) (u := 1) hW C' B (S1.g F) (by omega) (by omega) hp hq (by omega) (by omega) (fun v h2 h3 => ⟨by rcases h2 with rfl | rfl; exact r01.1; exact r01.2, fun z => ?_, fun z => ?_⟩)))⟩)⟩⟩)
      · have hh := h M' ((P4_m F1).tr F') B C' e
        rw [← bq v h2 h3, z] at hh
        exact hh
      · have hh := h M' ((P4_m F1).tr F') B C' e
        rw [← bq v h2 h3, show v = 1 from by omega] at hh
        exact hh
  · refine agree_x 1 hW (by omega) (fun M Q XQ hI hB h => ?_) (fun M Q hC hB h => ?_)
    · unfold wp_X10_areEqual wpe_X10_areEqual
      exact sp_nn0 hI.1 hB h0 h1 c (h M Fr.rf hB hI)
    · unfold wp_X11_areEqual wpe_X11_areEqual
      refine sp_measures hW hC hB (fun M1 F1 B1 S1 => ?_)
      have J : wpj_X11_areEqual_27 x y M1 Q := by
        unfold wpj_X11_areEqual_27 wpj_X11_areEqual_28
        exact go0 (hC.z F1) B1 rfl (fun M' F B C' e => h M' ((P4_m F1).tr F) B C' e) (fun M' z => ⟨r01.1, fun _ => z, fun z => absurd rfl z⟩)
      by_cases d : vN C 0 x
      · refine sp_node1 (t := 0) (y := x.toNat) hW (hC.z F1) B1 (by omega) (by have d1 : 0 ≤ x ∧ x < (cn C 0 : Int) := d.2; omega) rfl (by have d1 : 0 ≤ x ∧ x < (cn C 0 : Int) := d.2; omega) ⟨r01.2, fun z => absurd z (by decide), fun _ => sp_node0 hW (hC.z F1) B1 r01.2 h1 (fun z => c (v2_l hW d z)) ⟨r01.1, fun _ => J, fun z => absurd rfl z⟩⟩
      · exact sp_node0 hW (hC.z F1) B1 r01.1 h0 d ⟨r01.1, fun _ => J, fun z => absurd rfl z⟩
theorem sp_favour {M : Mem} {u v : Nat} {p0 p1 : Int} {Q : Mem → Prop} (hW : WF C) (hL : LayQ C (pln C) M) (hB : Bd M) (hu : u < cn C 0) (hv : v < cn C 1) (e0 : p0 = u) (e1 : p1 = v) (K : ∀ M' : Mem, Fr Pdd M M' → Bd M' → LayQ C (fvp C u v) M' → Q M') : wp_X3_favour M p0 p1 Q := by
  subst e0; subst e1
  have n0 := hW.n12 (t := 0) (by omega)
  have n1 := hW.n12 (t := 1) (by omega)
  unfold wp_X3_favour wpe_X3_favour
  rw [show ((u : Int) * 12 + (v : Int)).toNat = u * 12 + v from by omega, hL.2.2 u v hu hv]
  refine ⟨by omega, by omega, fun M2 e2 => ?_⟩
  have g := hW.prr (p := pl C 0 0 u) (q := pl C 1 0 v) (pl_lt hW (by omega) hu)
  have pb : -1000000 ≤ pln C u v - 1000000 ∧ pln C u v - 1000000 ≤ 2000000 := by
    unfold pln
    omega
  refine K M2 ?_ ?_ ⟨?_, ?_, fun p q hp hq => ?_⟩
  · rw [e2]
    exact Fr.rf.set rfl
  · rw [e2]
    exact hB.set (by omega) (by omega)
  · have n9 : ∀ k i : Nat, M2 9 k i = M 9 k i := fun k i => by rw [e2, mset_ne (by omega)]
    unfold RowP
    simp only [n9]
    exact hL.1
  · have n10 : ∀ k i : Nat, M2 10 k i = M 10 k i := fun k i => by rw [e2, mset_ne (by omega)]
    unfold RowP
    simp only [n10]
    exact hL.2.1
  · rw [e2, mset_i]
    change _ = (if p = u ∧ q = v then cpr C (pl C 0 0 p) (pl C 1 0 q) - 1000000 else cpr C (pl C 0 0 p) (pl C 1 0 q))
    by_cases c : p = u ∧ q = v
    · obtain ⟨rfl, rfl⟩ := c
      rw [if_pos rfl, if_pos ⟨rfl, rfl⟩]
      rfl
    · rw [if_neg (by omega), if_neg c]
      exact hL.2.2 p q hp hq
theorem df_un (hW : WF C) {p q : Nat} (hp : p < cn C 0) (hq : q < cn C 1) (h : ¬ (C 2 p = C 2 (12 + q))) : df (cc C) p q (rg 0 (cn C 0)) (rg 0 (cn C 1)) = 100000 := by
  have g := hW.prr (q := q) hp
  refine df_unN (cc C) p q ?_ _ _ _ (Nat.le_refl _) (hW.cbd (Nat.le_refl _) (Nat.le_refl _)) (Or.inl (mem_rg.mpr ⟨Nat.zero_le _, hp⟩))
  change ¬ (cpr C p q < 1000000)
  omega
theorem ag_canBePaired (hW : WF C) (h0 : inR x) (h1 : inR y) : Agree nm0 1 0 1 C (fun M Q XQ => wp_X10_canBePaired M x y Q XQ) (fun M Q => wp_X11_canBePaired M x y Q) := by
  have n0 := hW.n12 (t := 0) (by omega)
  have n1 := hW.n12 (t := 1) (by omega)
  have db := DI_bd hW
  by_cases c : v2 C x y
  · obtain ⟨p, q, rfl, rfl, hp, hq⟩ := v2_node hW c
    have lp := hW.ndl (t := 0) (by omega) hp
    have lq := hW.ndl (t := 1) (by omega) hq
    have fb := df_pos (a := p) (b := q) (hW.cbd (i := 0) (k := 0) (Nat.le_refl (cn C 0)) (Nat.le_refl (cn C 1)))
    refine agree_q (if df (cc C) p q (rg 0 (cn C 0)) (rg 0 (cn C 1)) = DI C then 1 else 0) hW (fun M Q XQ hI hB h => ?_) (fun M Q hC hB h => ?_)
    · unfold wp_X10_canBePaired wpe_X10_canBePaired
      have k0 := hI.1.kd (t := 0) (o := 11) rfl (by omega) hp
      have k1 := hI.1.kd (t := 1) (o := 12) rfl (by omega) hq
      rw [show 12 * 0 + p = p from by omega] at k0
      refine sp_nn1 hW hI.1 hB hp hq ⟨by omega, by omega, hB.r _ _ _, hB.r _ _ _, fun z => ?_, fun z => ?_⟩
      · rw [Int.toNat_natCast, Int.toNat_natCast, k0, k1] at z
        have pk := hW.prr (q := q) hp
        have pk2 : cpr C p q ≤ 50 := by
          rcases pk with pk | pk
          · omega
          · exact absurd z pk.1
        have p0 := po_lt (hW.wl (t := 0) (by omega)) hp
        have p1 := po_lt (hW.wl (t := 1) (by omega)) hq
        have kf : cpr C (pl C 0 0 (po (cL C 0) (cn C 0) p)) (pl C 1 0 (po (cL C 1) (cn C 1) q)) ≤ 50 := by
          rw [po_pl hW (by omega) hp, po_pl hW (by omega) hq]
          exact pk2
        refine sp_distK hW hI hB (fun M1 F1 B1 I1 L1 => sp_postPlace (t := 0) hW I1.1 rfl (by omega) hp rfl (sp_postPlace (t := 1) hW I1.1 rfl (by omega) hq rfl (sp_favour hW L1 B1 p0 p1 rfl rfl (fun M2 F2 B2 L2 => sp_solve hW (QBd_fav hW p0 p1 kf) L2 B2 (fun M3 F3 B3 T3 => ?_)))))
        have L3 := L2.eq F3
        refine sp_wholeD hW L3 T3 ?_
        rw [RQ_fav hW p0 p1 kf, po_pl hW (by omega) hp, po_pl hW (by omega) hq]
        have FF : Fr Pdd M M3 := (F1.tr F2).tr (Pdd_of F3 (fun _ _ => P3_of))
        have hh := h M3 (Pdd_c FF) B3 (hI.dd FF L3.z)
        refine ⟨⟨by omega, by omega⟩, ⟨by omega, by omega⟩, fun w => ?_, fun w => ?_⟩
        · rwa [if_neg (by omega)] at hh
        · rwa [if_pos (by omega)] at hh
      · rw [Int.toNat_natCast, Int.toNat_natCast, k0, k1] at z
        have hh := h M Fr.rf hB hI
        rwa [df_un hW hp hq z, if_neg (by omega)] at hh
    · unfold wp_X11_canBePaired wpe_X11_canBePaired wpj_X11_canBePaired_24
      refine sp_node1 (t := 0) hW hC hB (by omega) lp rfl rfl ⟨r01.2, fun z => absurd z (by decide), fun _ => sp_node1 (t := 1) hW hC hB (by omega) lq rfl rfl ⟨r01.2, fun z => absurd z (by decide), fun _ => go1 hC hB rfl (fun M1 F1 F1' B1 C1 e1 => ⟨r01.2, fun _ => sp_fillD hW C1 B1 (fun M2 F2 B2 S2 T2 => sp_place (t := 0) hW (C1.f F2) B2 (by omega) hp rfl rfl (sp_place (t := 1) hW (C1.f F2) B2 (by omega) hq rfl rfl (sp_fills hW (C1.f F2) B2 ⟨by omega, by omega⟩ ⟨by omega, by omega⟩ (fun M3 F3 B3 S3 T3 => ?_)))), fun z => absurd (by decide) z⟩)⟩⟩
      have hh := h M3 ((F1'.tr (P48_m F2)).tr (P48_m F3)) B3 ((C1.f F2).f F3) (((F3 13 23 0 rfl).trans (F2 13 23 0 rfl)).trans e1)
      refine ⟨⟨by omega, by omega⟩, ⟨by omega, by omega⟩, fun w => ?_, fun w => ?_⟩
      · rwa [if_neg w] at hh
      · rwa [if_pos (by omega)] at hh
  · refine agree_x 1 hW (by omega) (fun M Q XQ hI hB h => ?_) (fun M Q hC hB h => ?_)
    · unfold wp_X10_canBePaired wpe_X10_canBePaired
      exact sp_nn0 hI.1 hB h0 h1 c (h M Fr.rf hB hI)
    · have J : wpj_X11_canBePaired_23 x y M Q := by
        unfold wpj_X11_canBePaired_23 wpj_X11_canBePaired_24
        exact go0 hC hB rfl h (fun M' z => ⟨r01.1, fun z => absurd rfl z, fun _ => z⟩)
      unfold wp_X11_canBePaired wpe_X11_canBePaired
      by_cases d : vN C 0 x
      · refine sp_node1 (t := 0) (y := x.toNat) hW hC hB (by omega) (by have d1 : 0 ≤ x ∧ x < (cn C 0 : Int) := d.2; omega) rfl (by have d1 : 0 ≤ x ∧ x < (cn C 0 : Int) := d.2; omega) ⟨r01.2, fun z => absurd z (by decide), fun _ => sp_node0 hW hC hB r01.2 h1 (fun z => c (v2_l hW d z)) ⟨r01.1, fun _ => J, fun z => absurd rfl z⟩⟩
      · exact sp_node0 hW hC hB r01.1 h0 d ⟨r01.1, fun _ => J, fun z => absurd rfl z⟩
end TWO
