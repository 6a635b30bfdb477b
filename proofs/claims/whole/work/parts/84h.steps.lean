/-! the script, step by step -/
section STEPS
variable {C : Nat → Nat → Int} {x : Int}
theorem SL_get {k : Nat} (h : k < (SL C).length) : ∃ w p : Nat, (SL C)[k]? = some (w, p) ∧ (w, p) ∈ SL C := by
  refine ⟨((SL C)[k]).1, ((SL C)[k]).2, List.getElem?_eq_getElem h, List.getElem_mem h⟩
theorem ScrI.fr {P : Nat → Nat → Bool} {M M' : Mem} (h : ScrI C M) (F : Fr P M M') (h4 : P 13 4 = false) (h9 : P 13 9 = false) (h11 : P 13 11 = false) (h14 : P 13 14 = false) (h15 : P 13 15 = false) (h16 : P 13 16 = false) (h17 : P 13 17 = false) : ScrI C M' := by
  obtain ⟨⟨a1, a2⟩, b, ⟨c1, c2⟩, d⟩ := h
  refine ⟨⟨fun y hy => (F 13 9 y h9).trans (a1 y hy), fun z hz => ?_⟩, fun t p ht hp => (F 13 4 _ h4).trans (b t p ht hp), ⟨(F 13 16 0 h16).trans c1, fun k w p hk => ⟨(F 13 14 k h14).trans (c2 k w p hk).1, (F 13 15 k h15).trans (c2 k w p hk).2⟩⟩, (F 13 17 0 h17).trans d⟩
  rw [F 13 11 z h11]
  exact a2 z hz
theorem sp_isStep {M : Mem} {Q : Int → Mem → Prop} (hW : WF C) (hC : Core C M) (hB : Bd M) (h0 : inR x) (K1 : 0 ≤ x ∧ x < (SL C).length → ∀ M' : Mem, Fr Pm M M' → Bd M' → Core C M' → ScrI C M' → M' 13 23 0 = 0 → Q 1 M') (K0 : ¬ (0 ≤ x ∧ x < (SL C).length) → ∀ M' : Mem, Fr Pm M M' → Bd M' → Core C M' → M' 13 23 0 = 1 → Q 0 M') : wp_X11_isStep M x Q := by
  have sl := SL_le hW
  unfold wp_X11_isStep wpe_X11_isStep
  refine sp_scripts hW hC hB (fun M1 F1 B1 I1 => ?_)
  have C1 : Core C M1 := hC.fr F1 rfl rfl rfl rfl rfl rfl rfl
  have G1 := P13_m F1 (fun _ _ => PSc_o)
  rw [I1.2.2.1.1]
  by_cases c : 0 ≤ x ∧ x < (SL C).length
  · refine sp_in1 ⟨by decide, by decide⟩ ⟨by omega, by omega⟩ (by omega) (go1 C1 B1 rfl (fun M2 F2 F2' B2 C2 e2 => ⟨Or.inr rfl, K1 c M2 (G1.tr F2') B2 C2 (I1.fr F2 rfl rfl rfl rfl rfl rfl rfl) e2⟩))
  · refine sp_in0 h0 ⟨by decide, by decide⟩ ⟨by omega, by omega⟩ (by omega) (sp_go 1 B1 r01.1 r01.2 r01.2 rfl (fun M2 F2 B2 e2 => ⟨Or.inl rfl, K0 c M2 (G1.tr (Pg_m F2)) B2 (C1.g F2) e2⟩))
theorem sp_stepIx {M : Mem} {Q : Mem → Prop} {XQ : String → Mem → Prop} (hW : WF C) (hS : St1 C M) (h0 : inR x) (K1 : 0 ≤ x ∧ x < (SL C).length → Q M) (K0 : ¬ (0 ≤ x ∧ x < (SL C).length) → XQ "java/lang/IndexOutOfBoundsException" M) : wp_X10_needIndex M x (M 7 4 0) Q XQ := by
  have sl := SL_le hW
  rw [hS.2.1.1]
  exact sp_needIndex h0 ⟨by omega, by omega⟩ (fun z1 z2 => K1 ⟨z1, z2⟩) (fun z => K0 z)
theorem ag_steps (hW : WF C) : Agree nm0 0 (-2000000) 2000000 C (fun M Q _ => wp_X10_steps M Q) (fun M Q => wp_X11_steps M Q) := by
  have sl := SL_le hW
  refine agree_q ((SL C).length : Int) hW (fun M Q XQ hI hB h => ?_) (fun M Q hC hB h => ?_)
  · unfold wp_X10_steps wpe_X10_steps
    refine sp_settle hW hI hB (fun M' F B I S => ?_)
    rw [S.2.1.1]
    exact h M' F B I
  · unfold wp_X11_steps wpe_X11_steps
    refine thr0 hC hB (fun M1 F1 B1 C1 e1 => sp_scripts hW C1 B1 (fun M2 F2 B2 I2 => ?_))
    rw [I2.2.2.1.1]
    exact h M2 ((Pg_m F1).tr (P13_m F2 (fun _ _ => PSc_o))) B2 (C1.fr F2 rfl rfl rfl rfl rfl rfl rfl) ((F2 13 23 0 rfl).trans e1)
theorem ag_stepKind (hW : WF C) (h0 : inR x) : Agree nm0 1 (-2000000) 2000000 C (fun M Q XQ => wp_X10_stepKind M x Q XQ) (fun M Q => wp_X11_stepKind M x Q) := by
  have sl := SL_le hW
  by_cases c : 0 ≤ x ∧ x < (SL C).length
  · obtain ⟨k, rfl⟩ : ∃ k : Nat, x = k := ⟨x.toNat, by omega⟩
    obtain ⟨w, p, gk, gi⟩ := SL_get (C := C) (k := k) (by omega)
    have hw := (SL_in hW gi).1
    refine agree_q (w : Int) hW (fun M Q XQ hI hB h => ?_) (fun M Q hC hB h => ?_)
    · unfold wp_X10_stepKind wpe_X10_stepKind
      refine sp_settle hW hI hB (fun M' F B I S => sp_stepIx hW S h0 (fun _ => ⟨by omega, ?_⟩) (fun z => absurd c z))
      rw [Int.toNat_natCast, (S.2.1.2 k w p gk).1]
      exact h M' F B I
    · unfold wp_X11_stepKind wpe_X11_stepKind
      refine sp_isStep hW hC hB h0 (fun _ M' F B C' I e => ⟨r01.2, fun z => absurd z (by decide), fun _ => ⟨by omega, ?_⟩⟩) (fun z => absurd c z)
      rw [Int.toNat_natCast, (I.2.2.1.2 k w p gk).1]
      exact h M' F B C' e
  · refine agree_x 1 hW (by omega) (fun M Q XQ hI hB h => ?_) (fun M Q hC hB h => ?_)
    · unfold wp_X10_stepKind wpe_X10_stepKind
      exact sp_settle hW hI hB (fun M' F B I S => sp_stepIx hW S h0 (fun z => absurd z c) (fun _ => h M' F B I))
    · unfold wp_X11_stepKind wpe_X11_stepKind
      exact sp_isStep hW hC hB h0 (fun z => absurd z c) (fun _ M' F B C' e => ⟨r01.1, fun _ => h M' F B C' e, fun z => absurd rfl z⟩)
theorem wT_lt {w : Nat} : wT w < 2 := by
  unfold wT
  split <;> omega
theorem ag_stepNode (hW : WF C) (h0 : inR x) : Agree nm0 1 (-2000000) 2000000 C (fun M Q XQ => wp_X10_stepNode M x Q XQ) (fun M Q => wp_X11_stepNode M x Q) := by
  have sl := SL_le hW
  by_cases c : 0 ≤ x ∧ x < (SL C).length
  · obtain ⟨k, rfl⟩ : ∃ k : Nat, x = k := ⟨x.toNat, by omega⟩
    obtain ⟨w, p, gk, gi⟩ := SL_get (C := C) (k := k) (by omega)
    obtain ⟨hw, hp⟩ := SL_in hW gi
    have n12 := hW.n12 (wT_lt (w := w))
    have lb := hW.ndl (wT_lt (w := w)) hp
    refine agree_q (nd C (wT w) p : Int) hW (fun M Q XQ hI hB h => ?_) (fun M Q hC hB h => ?_)
    · unfold wp_X10_stepNode wpe_X10_stepNode
      refine sp_settle hW hI hB (fun M' F B I S => sp_stepIx hW S h0 (fun _ => ⟨by omega, ?_⟩) (fun z => absurd c z))
      rw [Int.toNat_natCast, (S.2.1.2 k w p gk).2]
      exact h M' F B I
    · unfold wp_X11_stepNode wpe_X11_stepNode wpj_X11_stepNode_28
      refine sp_isStep hW hC hB h0 (fun _ M' F B C' I e => ⟨r01.2, fun z => absurd z (by decide), fun _ => ?_⟩) (fun z => absurd c z)
      have hh := h M' F B C' e
      rw [← hW.ndi wT_lt hp] at hh
      rw [Int.toNat_natCast, (I.2.2.1.2 k w p gk).1, (I.2.2.1.2 k w p gk).2]
      refine ⟨by omega, ⟨by omega, by omega⟩, fun z => ⟨by omega, by omega, ?_⟩, fun z => ⟨by omega, by omega, ?_⟩⟩
      · rw [show (0 + (p : Int)).toNat = p from by omega, C' 0 _ rfl]
        unfold wT at hh
        rw [if_neg (by omega), show 12 * 0 + p = p from by omega] at hh
        exact hh
      · rw [show (12 + (p : Int)).toNat = 12 * 1 + p from by omega, C' 0 _ rfl]
        unfold wT at hh
        rw [if_pos (by omega)] at hh
        exact hh
  · refine agree_x 1 hW (by omega) (fun M Q XQ hI hB h => ?_) (fun M Q hC hB h => ?_)
    · unfold wp_X10_stepNode wpe_X10_stepNode
      exact sp_settle hW hI hB (fun M' F B I S => sp_stepIx hW S h0 (fun z => absurd z c) (fun _ => h M' F B I))
    · unfold wp_X11_stepNode wpe_X11_stepNode
      exact sp_isStep hW hC hB h0 (fun z => absurd z c) (fun _ M' F B C' e => ⟨r01.1, fun _ => h M' F B C' e, fun z => absurd rfl z⟩)
def pwt (w : Nat) : Nat := if w = 2 then 0 else if w = 0 then 1 else 2
theorem ag_stepPrice (hW : WF C) (h0 : inR x) : Agree nm0 1 (-2000000) 2000000 C (fun M Q XQ => wp_X10_stepPrice M x Q XQ) (fun M Q => wp_X11_stepPrice M x Q) := by
  have sl := SL_le hW
  by_cases c : 0 ≤ x ∧ x < (SL C).length
  · obtain ⟨k, rfl⟩ : ∃ k : Nat, x = k := ⟨x.toNat, by omega⟩
    obtain ⟨w, p, gk, gi⟩ := SL_get (C := C) (k := k) (by omega)
    obtain ⟨hw, hp⟩ := SL_in hW gi
    have n12 := hW.n12 (wT_lt (w := w))
    have kd := hW.k (wT_lt (w := w)) hp
    have ln := hW.ndl (wT_lt (w := w)) hp
    have pw : pwt w ≤ 2 := by
      unfold pwt
      split
      · omega
      · split <;> omega
    have pb := hW.2.2.2.1 (3 * (C 2 (12 * wT w + p)).toNat + pwt w) (by omega)
    refine agree_q (C 6 (3 * (C 2 (12 * wT w + p)).toNat + pwt w)) hW (fun M Q XQ hI hB h => ?_) (fun M Q hC hB h => ?_)
    · unfold wp_X10_stepPrice wpe_X10_stepPrice
      refine sp_settle hW hI hB (fun M' F B I S => sp_stepIx hW S h0 (fun _ => ?_) (fun z => absurd c z))
      unfold wp_X7_priceOf wpe_X7_priceOf
      rw [Int.toNat_natCast, (S.2.1.2 k w p gk).1, (S.2.1.2 k w p gk).2]
      refine ⟨by omega, fun y2 e2 => ⟨by omega, ⟨by omega, by omega⟩, fun z => ⟨by omega, fun y7 e7 => ⟨by omega, ⟨by omega, by omega⟩, fun z2 => ?_, fun z2 => ?_⟩⟩, fun z => ?_⟩⟩
      · subst e2
        have w1 : w = 1 := by omega
        subst w1
        rw [Int.toNat_natCast, I.1.kd (t := wT 1) (o := 11) rfl (by decide) hp] at e7
        subst e7
        refine ⟨by omega, ?_⟩
        rw [I.1.2.2.1 _ 2 (by omega) (by omega)]
        exact h M' F B I
      · subst e2
        have w0 : w = 0 := by omega
        subst w0
        rw [Int.toNat_natCast, I.1.kd (t := wT 0) (o := 11) rfl (by decide) hp] at e7
        subst e7
        refine ⟨by omega, ?_⟩
        rw [I.1.2.2.1 _ 1 (by omega) (by omega)]
        exact h M' F B I
      · subst e2
        have w2 : w = 2 := by omega
        subst w2
        rw [Int.toNat_natCast, I.1.kd (t := wT 2) (o := 12) rfl (by decide) hp]
        refine ⟨by omega, by omega, ?_⟩
        rw [I.1.2.2.1 _ 0 (by omega) (by omega)]
        exact h M' F B I
    · unfold wp_X11_stepPrice wpe_X11_stepPrice wpj_X11_stepPrice_54
      refine sp_isStep hW hC hB h0 (fun _ M' F B C' I e => ⟨r01.2, fun _ => ?_, fun z => absurd (by decide) z⟩) (fun z => absurd c z)
      have hh := h M' F B C' e
      rw [Int.toNat_natCast, (I.2.2.1.2 k w p gk).1, (I.2.2.1.2 k w p gk).2]
      refine ⟨by omega, fun y6 e6 => ?_⟩
      subst e6
      refine ⟨⟨by omega, by omega⟩, fun z => ⟨by omega, ⟨by omega, by omega⟩, fun z2 => ?_, fun z2 => ?_⟩, fun z => ⟨by omega, ?_⟩⟩
      · have w1 : w = 1 := by omega
        subst w1
        refine sp_priceOf (t := wT 1) (p := p) (w := 2) rfl rfl rfl (by have := wT_lt (w := 1); omega) (by omega) (by rw [C' 2 _ rfl]; omega) ?_
        rw [C' 2 _ rfl, show (3 * C 2 (12 * wT 1 + p) + ((2 : Nat) : Int)).toNat = 3 * (C 2 (12 * wT 1 + p)).toNat + pwt 1 from by rw [show pwt 1 = 2 from rfl]; omega, C' 6 _ rfl]
        exact hh
      · have w0 : w = 0 := by omega
        subst w0
        refine sp_priceOf (t := wT 0) (p := p) (w := 1) rfl rfl rfl (by have := wT_lt (w := 0); omega) (by omega) (by rw [C' 2 _ rfl]; omega) ?_
        rw [C' 2 _ rfl, show (3 * C 2 (12 * wT 0 + p) + ((1 : Nat) : Int)).toNat = 3 * (C 2 (12 * wT 0 + p)).toNat + pwt 0 from by rw [show pwt 0 = 1 from rfl]; omega, C' 6 _ rfl]
        exact hh
      · have w2 : w = 2 := by omega
        subst w2
        refine sp_priceOf (t := wT 2) (p := p) (w := 0) rfl rfl rfl (by have := wT_lt (w := 2); omega) (by omega) (by rw [C' 2 _ rfl]; omega) ?_
        rw [C' 2 _ rfl, show (3 * C 2 (12 * wT 2 + p) + ((0 : Nat) : Int)).toNat = 3 * (C 2 (12 * wT 2 + p)).toNat + pwt 2 from by rw [show pwt 2 = 0 from rfl]; omega, C' 6 _ rfl]
        exact hh
  · refine agree_x 1 hW (by omega) (fun M Q XQ hI hB h => ?_) (fun M Q hC hB h => ?_)
    · unfold wp_X10_stepPrice wpe_X10_stepPrice
      exact sp_settle hW hI hB (fun M' F B I S => sp_stepIx hW S h0 (fun z => absurd z c) (fun _ => h M' F B I))
    · unfold wp_X11_stepPrice wpe_X11_stepPrice
      exact sp_isStep hW hC hB h0 (fun z => absurd z c) (fun _ M' F B C' e => ⟨r01.1, fun z => absurd rfl z, fun _ => h M' F B C' e⟩)
end STEPS
