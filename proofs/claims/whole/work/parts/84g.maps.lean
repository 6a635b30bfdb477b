/-! questions about the mapping, the script and the moves -/
section MAPS
variable {C : Nat → Nat → Int} {x : Int}
theorem P13_m {P : Nat → Nat → Bool} {M M' : Mem} (h : Fr P M M') (hp : ∀ o k : Nat, P o k = true → o = 13) : Fr Pm M M' := h.mono (fun o k h1 => by
  rw [hp o k h1]
  rfl)
theorem PMp_o {o k : Nat} (h : PMp o k = true) : o = 13 := by
  simp only [PMp, Bool.and_eq_true, beq_iff_eq] at h
  exact h.1
theorem PSc_o {o k : Nat} (h : PSc o k = true) : o = 13 := by
  simp only [PSc, Bool.and_eq_true, beq_iff_eq] at h
  exact h.1
theorem PTr_o {o k : Nat} (h : PTr o k = true) : o = 13 := by
  simp only [PTr, Bool.and_eq_true, beq_iff_eq] at h
  exact h.1
theorem v1_node (hW : WF C) (h : vN C 0 x) : ∃ p : Nat, x = (nd C 0 p : Int) ∧ p < cn C 0 := by
  have d1 : 0 ≤ x ∧ x < (cn C 0 : Int) := h.2
  obtain ⟨p, hp, ep⟩ := hW.surj (t := 0) (by omega) (show x.toNat < cn C 0 from by omega)
  exact ⟨p, by rw [ep]; omega, hp⟩
theorem sp_n1 {M : Mem} {p : Nat} {Q : Mem → Prop} {XQ : String → Mem → Prop} (hW : WF C) (hX : Cls C M) (hB : Bd M) (hp : p < cn C 0) (K : Q M) : wp_X10_needIndex M (nd C 0 p) (M 11 8 0) Q XQ := by
  have lp := hW.ndl (t := 0) (by omega) hp
  have n0 := hW.n12 (t := 0) (by omega)
  refine sp_needIndex ⟨by omega, by omega⟩ (hB.r _ _ _) (fun _ _ => K) (fun z => absurd ?_ z)
  rw [hX.n (t := 0) rfl (by omega)]
  omega
theorem sp_n0 {M : Mem} {Q : Mem → Prop} {XQ : String → Mem → Prop} (hX : Cls C M) (hB : Bd M) (h0 : inR x) (h : ¬ vN C 0 x) (K : XQ "java/lang/IndexOutOfBoundsException" M) : wp_X10_needIndex M x (M 11 8 0) Q XQ := by
  refine sp_needIndex h0 (hB.r _ _ _) (fun z1 z2 => absurd ?_ h) (fun _ => K)
  rw [hX.n (t := 0) rfl (by omega)] at z2
  exact ⟨by omega, z1, z2⟩
theorem PN_bd (hW : WF C) (p : Nat) : -1 ≤ PN C p ∧ PN C p ≤ 12 := by
  have n1 := hW.n12 (t := 1) (by omega)
  unfold PN
  rcases pt_rg hW p with z | ⟨b, z, hb, _⟩
  · rw [if_pos z]
    omega
  · have lb := hW.ndl (t := 1) (by omega) hb
    rw [if_neg (by omega), z, Int.toNat_natCast]
    omega
theorem TN_bd (hW : WF C) (p : Nat) : -1 ≤ TN C p ∧ TN C p ≤ 12 := by
  have n1 := hW.n12 (t := 1) (by omega)
  unfold TN
  rcases mt_rg C p with z | ⟨b, z, hb, _⟩
  · rw [if_pos z]
    omega
  · have lb := hW.ndl (t := 1) (by omega) hb
    rw [if_neg (by omega), z, Int.toNat_natCast]
    omega
theorem ag_pairs (hW : WF C) : Agree nm0 0 (-2000000) 2000000 C (fun M Q _ => wp_X10_pairs M Q) (fun M Q => wp_X11_pairs M Q) := by
  have n0 := hW.n12 (t := 0) (by omega)
  have cb := cntp_bd C (cn C 0)
  refine agree_q (cntp C (cn C 0)) hW (fun M Q XQ hI hB h => ?_) (fun M Q hC hB h => ?_)
  · unfold wp_X10_pairs wpe_X10_pairs
    refine sp_settle hW hI hB (fun M' F B I S => ?_)
    rw [S.1.2.2]
    exact h M' F B I
  · unfold wp_X11_pairs
    refine ⟨fun n x2 x3 M1 => ∃ k : Nat, x3 = k ∧ k ≤ cn C 0 ∧ n = 20 - k ∧ x2 = cntp C k ∧ Fr Pm M M1 ∧ Bd M1 ∧ Core C M1 ∧ M1 13 23 0 = 0 ∧ ∀ y : Nat, y < cn C 0 → M1 13 9 y = pt C y, ?_, ?_⟩
    · unfold wpe_X11_pairs
      refine thr0 hC hB (fun M1 F1 B1 C1 e1 => sp_maps hW C1 B1 (fun M2 F2 B2 S2 I2 => ⟨20, 0, rfl, Nat.zero_le _, rfl, ?_, (Pg_m F1).tr (P13_m F2 (fun _ _ => PMp_o)), B2, C1.fr F2 rfl rfl rfl rfl rfl rfl rfl, (F2 13 23 0 rfl).trans e1, I2.1⟩))
      unfold cntp
      rw [sm_self _ (Nat.le_refl _)]
    · intro n x2 x3 M1 ⟨k, e3, hk, hn, e2, F1, B1, C1, t1, H⟩
      subst e3; subst e2
      unfold wph_X11_pairs_14 wpj_X11_pairs_40
      rw [C1.n hW (t := 0) (by omega), Int.toNat_natCast]
      refine ⟨⟨by omega, by omega⟩, ⟨by omega, by omega⟩, fun z => ?_, fun z => ⟨by omega, B1.r _ _ _, fun z2 y10 e10 => ⟨20 - (k + 1), by omega, k + 1, by omega, by omega, rfl, ?_, F1, B1, C1, t1, H⟩, fun z2 y10 e10 => ⟨20 - (k + 1), by omega, k + 1, by omega, by omega, rfl, ?_, F1, B1, C1, t1, H⟩⟩⟩
      · have := h M1 F1 B1 C1 t1
        rwa [show cn C 0 = k from by omega] at this
      · rw [H k (by omega)] at z2
        rw [e10]
        unfold cntp
        rw [sm_succ _ (Nat.zero_le _), if_neg z2]
      · rw [H k (by omega)] at z2
        rw [e10]
        unfold cntp
        rw [sm_succ _ (Nat.zero_le _), if_pos (Decidable.byContradiction z2)]
theorem ag_partnerOf (hW : WF C) (h0 : inR x) : Agree nm0 1 (-2000000) 2000000 C (fun M Q XQ => wp_X10_partnerOf M x Q XQ) (fun M Q => wp_X11_partnerOf M x Q) := by
  have n0 := hW.n12 (t := 0) (by omega)
  have n1 := hW.n12 (t := 1) (by omega)
  by_cases c : vN C 0 x
  · obtain ⟨p, rfl, hp⟩ := v1_node hW c
    have lp := hW.ndl (t := 0) (by omega) hp
    have pb := PN_bd hW p
    refine agree_q (PN C p) hW (fun M Q XQ hI hB h => ?_) (fun M Q hC hB h => ?_)
    · unfold wp_X10_partnerOf wpe_X10_partnerOf
      refine sp_n1 hW hI.1 hB hp (sp_settle hW hI hB (fun M' F B I S => ⟨by omega, ?_⟩))
      rw [Int.toNat_natCast, S.1.1 p hp, if_pos hp]
      exact h M' F B I
    · unfold wp_X11_partnerOf wpe_X11_partnerOf
      refine sp_node1 (t := 0) hW hC hB (by omega) lp rfl rfl (go1 hC hB rfl (fun M1 F1 F1' B1 C1 e1 => ⟨r01.2, fun _ => sp_maps hW C1 B1 (fun M2 F2 B2 S2 I2 => ?_), fun z => absurd (by decide) z⟩))
      have C2 : Core C M2 := C1.fr F2 rfl rfl rfl rfl rfl rfl rfl
      refine sp_place (t := 0) hW C2 B2 (by omega) hp rfl rfl ⟨by omega, fun y12 e12 => ?_⟩
      rw [Int.toNat_natCast, I2.1 p hp] at e12
      subst e12
      have hh := h M2 (F1'.tr (P13_m F2 (fun _ _ => PMp_o))) B2 C2 ((F2 13 23 0 rfl).trans e1)
      unfold PN at hh
      rcases pt_rg hW p with z | ⟨b, z, hb, _⟩
      · rw [z] at hh ⊢
        exact ⟨rm1, fun z => absurd rfl z, fun _ => hh⟩
      · rw [z, if_neg (by omega), Int.toNat_natCast] at hh
        rw [z]
        refine ⟨⟨by omega, by omega⟩, fun _ => ⟨by omega, ?_⟩, fun w => absurd (by omega) w⟩
        rw [show (12 + (b : Int)).toNat = 12 * 1 + b from by omega, C2 0 _ rfl, hW.ndi (t := 1) (by omega) hb]
        exact hh
  · refine agree_x 1 hW (by omega) (fun M Q XQ hI hB h => ?_) (fun M Q hC hB h => ?_)
    · unfold wp_X10_partnerOf wpe_X10_partnerOf
      exact sp_n0 hI.1 hB h0 c (h M Fr.rf hB hI)
    · unfold wp_X11_partnerOf wpe_X11_partnerOf
      exact sp_node0 hW hC hB r01.1 h0 c (go0 hC hB rfl h (fun M' z => ⟨r01.1, fun z => absurd rfl z, fun _ => z⟩))
theorem ag_distanceWithMoves (hW : WF C) : Agree nm0 0 (-2000000) 2000000 C (fun M Q _ => wp_X10_distanceWithMoves M Q) (fun M Q => wp_X11_distanceWithMoves M Q) := by
  have db := DI_bd hW
  have n0 := hW.n12 (t := 0) (by omega)
  have mb := mgn_bd hW _ (Nat.le_refl (cn C 0))
  refine agree_q (DI C - mgn C (cn C 0)) hW (fun M Q XQ hI hB h => ?_) (fun M Q hC hB h => ?_)
  · unfold wp_X10_distanceWithMoves wpe_X10_distanceWithMoves
    refine sp_settle hW hI hB (fun M1 F1 B1 I1 S1 => sp_distK hW I1 B1 (fun M2 F2 B2 I2 _ => ?_))
    rw [F2 8 5 0 rfl, S1.2.2.2.2.2]
    exact h M2 (F1.tr (Pdd_c F2)) B2 I2
  · unfold wp_X11_distanceWithMoves wpe_X11_distanceWithMoves
    refine thr0 hC hB (fun M1 F1 B1 C1 e1 => sp_maps hW C1 B1 (fun M2 F2 B2 S2 I2 => ?_))
    have C2 : Core C M2 := C1.fr F2 rfl rfl rfl rfl rfl rfl rfl
    refine sp_travels hW C2 B2 S2 I2 (DI_bd hW) (fun M3 F3 B3 H3 => h M3 (((Pg_m F1).tr (P13_m F2 (fun _ _ => PMp_o))).tr (P13_m F3 (fun _ _ => PTr_o))) B3 (C2.fr F3 rfl rfl rfl rfl rfl rfl rfl) (((F3 13 23 0 rfl).trans (F2 13 23 0 rfl)).trans e1))
theorem ag_moves (hW : WF C) : Agree nm0 0 (-2000000) 2000000 C (fun M Q _ => wp_X10_moves M Q) (fun M Q => wp_X11_moves M Q) := by
  have n0 := hW.n12 (t := 0) (by omega)
  have cb := mcnt_bd (C := C) (cn C 0)
  refine agree_q (mcnt C (cn C 0)) hW (fun M Q XQ hI hB h => ?_) (fun M Q hC hB h => ?_)
  · unfold wp_X10_moves wpe_X10_moves
    refine sp_settle hW hI hB (fun M' F B I S => ?_)
    rw [S.2.2.2.2.1]
    exact h M' F B I
  · unfold wp_X11_moves
    refine ⟨fun n x2 x3 M1 => ∃ k : Nat, x3 = k ∧ k ≤ cn C 0 ∧ n = 20 - k ∧ x2 = mcnt C k ∧ Fr Pm M M1 ∧ Bd M1 ∧ Core C M1 ∧ M1 13 23 0 = 0 ∧ ∀ y : Nat, y < cn C 0 → M1 13 10 y = mt C y, ?_, ?_⟩
    · unfold wpe_X11_moves
      refine thr0 hC hB (fun M1 F1 B1 C1 e1 => sp_maps hW C1 B1 (fun M2 F2 B2 S2 I2 => ?_))
      have C2 : Core C M2 := C1.fr F2 rfl rfl rfl rfl rfl rfl rfl
      refine sp_travels hW C2 B2 S2 I2 (DI_bd hW) (fun M3 F3 B3 H3 => ⟨20, 0, rfl, Nat.zero_le _, rfl, ?_, ((Pg_m F1).tr (P13_m F2 (fun _ _ => PMp_o))).tr (P13_m F3 (fun _ _ => PTr_o)), B3, C2.fr F3 rfl rfl rfl rfl rfl rfl rfl, ((F3 13 23 0 rfl).trans (F2 13 23 0 rfl)).trans e1, H3⟩)
      unfold mcnt
      rw [sm_self _ (Nat.le_refl _)]
    · intro n x2 x3 M1 ⟨k, e3, hk, hn, e2, F1, B1, C1, t1, H⟩
      subst e3; subst e2
      unfold wph_X11_moves_18 wpj_X11_moves_44
      rw [C1.n hW (t := 0) (by omega), Int.toNat_natCast]
      refine ⟨⟨by omega, by omega⟩, ⟨by omega, by omega⟩, fun z => ?_, fun z => ⟨by omega, B1.r _ _ _, fun z2 y10 e10 => ⟨20 - (k + 1), by omega, k + 1, by omega, by omega, rfl, ?_, F1, B1, C1, t1, H⟩, fun z2 y10 e10 => ⟨20 - (k + 1), by omega, k + 1, by omega, by omega, rfl, ?_, F1, B1, C1, t1, H⟩⟩⟩
      · have := h M1 F1 B1 C1 t1
        rwa [show cn C 0 = k from by omega] at this
      · rw [H k (by omega)] at z2
        rw [e10]
        unfold mcnt
        rw [sm_succ _ (Nat.zero_le _), if_neg z2]
      · rw [H k (by omega)] at z2
        rw [e10]
        unfold mcnt
        rw [sm_succ _ (Nat.zero_le _), if_pos (Decidable.byContradiction z2)]
theorem ag_movesTo (hW : WF C) (h0 : inR x) : Agree nm0 1 (-2000000) 2000000 C (fun M Q XQ => wp_X10_movesTo M x Q XQ) (fun M Q => wp_X11_movesTo M x Q) := by
  have n0 := hW.n12 (t := 0) (by omega)
  have n1 := hW.n12 (t := 1) (by omega)
  by_cases c : vN C 0 x
  · obtain ⟨p, rfl, hp⟩ := v1_node hW c
    have lp := hW.ndl (t := 0) (by omega) hp
    have pb := TN_bd hW p
    refine agree_q (TN C p) hW (fun M Q XQ hI hB h => ?_) (fun M Q hC hB h => ?_)
    · unfold wp_X10_movesTo wpe_X10_movesTo
      refine sp_n1 hW hI.1 hB hp (sp_settle hW hI hB (fun M' F B I S => ⟨by omega, ?_⟩))
      rw [Int.toNat_natCast, S.2.2.2.1 p hp, if_pos hp]
      exact h M' F B I
    · unfold wp_X11_movesTo wpe_X11_movesTo
      refine sp_node1 (t := 0) hW hC hB (by omega) lp rfl rfl (go1 hC hB rfl (fun M1 F1 F1' B1 C1 e1 => ⟨r01.2, fun _ => sp_maps hW C1 B1 (fun M2 F2 B2 S2 I2 => ?_), fun z => absurd (by decide) z⟩))
      have C2 : Core C M2 := C1.fr F2 rfl rfl rfl rfl rfl rfl rfl
      refine sp_travels hW C2 B2 S2 I2 (DI_bd hW) (fun M3 F3 B3 H3 => ?_)
      have C3 : Core C M3 := C2.fr F3 rfl rfl rfl rfl rfl rfl rfl
      refine sp_place (t := 0) hW C3 B3 (by omega) hp rfl rfl ⟨by omega, fun y12 e12 => ?_⟩
      rw [Int.toNat_natCast, H3 p hp] at e12
      subst e12
      have hh := h M3 ((F1'.tr (P13_m F2 (fun _ _ => PMp_o))).tr (P13_m F3 (fun _ _ => PTr_o))) B3 C3 (((F3 13 23 0 rfl).trans (F2 13 23 0 rfl)).trans e1)
      unfold TN at hh
      rcases mt_rg C p with z | ⟨b, z, hb, _⟩
      · rw [z] at hh ⊢
        exact ⟨rm1, fun z => absurd rfl z, fun _ => hh⟩
      · rw [z, if_neg (by omega), Int.toNat_natCast] at hh
        rw [z]
        refine ⟨⟨by omega, by omega⟩, fun _ => ⟨by omega, ?_⟩, fun w => absurd (by omega) w⟩
        rw [show (12 + (b : Int)).toNat = 12 * 1 + b from by omega, C3 0 _ rfl, hW.ndi (t := 1) (by omega) hb]
        exact hh
  · refine agree_x 1 hW (by omega) (fun M Q XQ hI hB h => ?_) (fun M Q hC hB h => ?_)
    · unfold wp_X10_movesTo wpe_X10_movesTo
      exact sp_n0 hI.1 hB h0 c (h M Fr.rf hB hI)
    · unfold wp_X11_movesTo wpe_X11_movesTo
      exact sp_node0 hW hC hB r01.1 h0 c (go0 hC hB rfl h (fun M' z => ⟨r01.1, fun z => absurd rfl z, fun _ => z⟩))
/-! the script -/
theorem sD_in {k w p : Nat} (h : (w, p) ∈ sD C k) : w = 0 ∧ ∃ z : Nat, z < k ∧ p = pl C 0 0 z := by
  induction k with
  | zero => cases h
  | succ k ih =>
    unfold sD at h
    split at h
    · rcases List.mem_append.mp h with h | h
      · obtain ⟨a, z, b, d⟩ := ih h
        exact ⟨a, z, by omega, d⟩
      · have e := List.mem_singleton.mp h
        rw [Prod.mk.injEq] at e
        exact ⟨e.1, k, by omega, e.2⟩
    · obtain ⟨a, z, b, d⟩ := ih h
      exact ⟨a, z, by omega, d⟩
theorem sR_in {k w p : Nat} (h : (w, p) ∈ sR C k) : (w, p) ∈ sD C (cn C 0) ∨ w = 1 ∧ p < k := by
  induction k with
  | zero => exact Or.inl h
  | succ k ih =>
    unfold sR at h
    split at h
    · rcases List.mem_append.mp h with h | h
      · rcases ih h with a | a
        · exact Or.inl a
        · exact Or.inr ⟨a.1, by omega⟩
      · have e := List.mem_singleton.mp h
        rw [Prod.mk.injEq] at e
        exact Or.inr ⟨e.1, by omega⟩
    · rcases ih h with a | a
      · exact Or.inl a
      · exact Or.inr ⟨a.1, by omega⟩
theorem sI_in {k w p : Nat} (h : (w, p) ∈ sI C k) : (w, p) ∈ sR C (cn C 0) ∨ w = 2 ∧ p < k := by
  induction k with
  | zero => exact Or.inl h
  | succ k ih =>
    unfold sI at h
    split at h
    · rcases ih h with a | a
      · exact Or.inl a
      · exact Or.inr ⟨a.1, by omega⟩
    · rcases List.mem_append.mp h with h | h
      · rcases ih h with a | a
        · exact Or.inl a
        · exact Or.inr ⟨a.1, by omega⟩
      · have e := List.mem_singleton.mp h
        rw [Prod.mk.injEq] at e
        exact Or.inr ⟨e.1, by omega⟩
theorem SL_in (hW : WF C) {w p : Nat} (h : (w, p) ∈ SL C) : w < 3 ∧ p < cn C (wT w) := by
  rcases sI_in h with a | a
  · rcases sR_in a with b | b
    · obtain ⟨d, z, hz, e⟩ := sD_in b
      subst d; subst e
      exact ⟨by omega, pl_lt (b := 0) hW (t := 0) (by omega) hz⟩
    · obtain ⟨d, e⟩ := b
      subst d
      exact ⟨by omega, e⟩
  · obtain ⟨d, e⟩ := a
    subst d
    exact ⟨by omega, e⟩
end MAPS
