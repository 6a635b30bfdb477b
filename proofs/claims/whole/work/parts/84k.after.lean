/-! sizeAfter, labelAfter, depthAfter -/
section AFTER
variable {C : Nat → Nat → Int} {x y : Int}
theorem P7f_c {M M' : Mem} (h : Fr P7f M M') : Fr Pc M M' := Pc_of h (fun o k ho => by
  cases e : P7f o k with
  | false => rfl
  | true =>
    simp only [P7f, Bool.and_eq_true, beq_iff_eq] at e
    omega)
theorem IK.sf {M M' : Mem} (hI : IK C M) (F : Fr P7f M M') : IK C M' := hI.fr F (kt_all (fun k => ⟨rfl, rfl, rfl⟩)) rfl (fun _ => rfl) (fun k hk => by rcases hk with rfl | rfl | rfl | rfl <;> rfl) (fun _ => rfl) ⟨(F 9 4 0 rfl).trans hI.2.1, (F 10 4 0 rfl).trans hI.2.2.1⟩
theorem St1.sf {M M' : Mem} (hS : St1 C M) (F : Fr P7f M M') : St1 C M' := hS.fr (fun k i => F 6 k i rfl) (fun k i hk => F 7 k i (by rcases hk with rfl | rfl | rfl | rfl <;> rfl)) (fun k i => F 8 k i rfl)
theorem sp_afterIx {M : Mem} {Q : Mem → Prop} {XQ : String → Mem → Prop} (hW : WF C) (hS : St1 C M) (h0 : inR x) (K1 : 0 ≤ x ∧ x ≤ (SL C).length → Q M) (K0 : ¬ (0 ≤ x ∧ x ≤ (SL C).length) → XQ "java/lang/IndexOutOfBoundsException" M) : wp_X10_needIndex M x (M 7 4 0 + 1) Q XQ := by
  have sl := SL_le hW
  rw [hS.2.1.1]
  exact sp_needIndex h0 ⟨by omega, by omega⟩ (fun z1 z2 => K1 ⟨z1, by omega⟩) (fun z => K0 (fun w => z ⟨w.1, by omega⟩))
theorem Core.gr {M M' : Mem} (h : Core C M) (F : Fr Pgr M M') : Core C M' := h.fr F rfl rfl rfl rfl rfl rfl rfl
theorem ag_sizeAfter (hW : WF C) (h0 : inR x) : Agree nm0 1 (-2000000) 2000000 C (fun M Q XQ => wp_X10_sizeAfter M x Q XQ) (fun M Q => wp_X11_sizeAfter M x Q) := by
  have sl := SL_le hW
  have i0 : inR 0 := r01.1
  have il : inR ((SL C).length : Int) := ⟨by omega, by omega⟩
  by_cases c : 0 ≤ x ∧ x ≤ (SL C).length
  · obtain ⟨m, rfl⟩ : ∃ m : Nat, x = m := ⟨x.toNat, by omega⟩
    have cb := cS_bd (C := C) (u := Uu C m) (m := m) (cn C (Uu C m))
    have n12 := hW.n12 (Uu_lt (C := C) (m := m))
    refine agree_q (cS C (Uu C m) m (cn C (Uu C m))) hW (fun M Q XQ hI hB h => ?_) (fun M Q hC hB h => ?_)
    · unfold wp_X10_sizeAfter wpe_X10_sizeAfter
      refine sp_settle hW hI hB (fun M1 F1 B1 I1 S1 => sp_afterIx hW S1 h0 (fun _ => sp_showForest hW I1.1 B1 S1 (by omega) rfl (fun M2 F2 B2 h8 _ _ => ?_)) (fun z => absurd c z))
      rw [h8]
      exact h M2 (F1.tr (P7f_c F2)) B2 (I1.sf F2)
    · unfold wp_X11_sizeAfter wpe_X11_sizeAfter
      refine sp_scripts hW hC hB (fun M1 F1 B1 I1 => ?_)
      have C1 : Core C M1 := hC.fr F1 rfl rfl rfl rfl rfl rfl rfl
      rw [I1.2.2.1.1]
      exact sp_in1 i0 il c (go1 C1 B1 rfl (fun M2 F2 F2' B2 C2 e2 => ⟨r01.2, fun z => absurd z (by decide), fun _ => sp_grows hW C2 B2 (I1.fr F2 rfl rfl rfl rfl rfl rfl rfl) (by omega) rfl (fun M3 F3 B3 _ _ => h M3 (((P13_m F1 (fun _ _ => PSc_o)).tr F2').tr (P13_m F3 (fun _ _ => Pgr_o))) B3 (C2.gr F3) ((F3 13 23 0 rfl).trans e2))⟩))
  · refine agree_x 1 hW (by omega) (fun M Q XQ hI hB h => ?_) (fun M Q hC hB h => ?_)
    · unfold wp_X10_sizeAfter wpe_X10_sizeAfter
      exact sp_settle hW hI hB (fun M1 F1 B1 I1 S1 => sp_afterIx hW S1 h0 (fun z => absurd z c) (fun _ => h M1 F1 B1 I1))
    · unfold wp_X11_sizeAfter wpe_X11_sizeAfter
      refine sp_scripts hW hC hB (fun M1 F1 B1 I1 => ?_)
      have C1 : Core C M1 := hC.fr F1 rfl rfl rfl rfl rfl rfl rfl
      rw [I1.2.2.1.1]
      exact sp_in0 h0 i0 il c (go0 C1 B1 rfl (fun M' F B C' e => h M' ((P13_m F1 (fun _ _ => PSc_o)).tr F) B C' e) (fun M' z => ⟨r01.1, fun _ => z, fun z => absurd rfl z⟩))
/-- the reference lays the forest and looks for a place -/
theorem sp_isGrown {M : Mem} {Q : Int → Mem → Prop} (hW : WF C) (hC : Core C M) (hB : Bd M) (h0 : inR x) (h1 : inR y) (K1 : ∀ m : Nat, x = m → m ≤ (SL C).length → 0 ≤ y ∧ y < cS C (Uu C m) m (cn C (Uu C m)) → ∀ M' : Mem, Fr Pm M M' → Bd M' → Core C M' → Sz C M' → M' 13 20 0 = (Uu C m : Int) → (∀ q : Nat, q < cn C (Uu C m) → sw C (Uu C m) m q → M' 13 18 (cS C (Uu C m) m q).toNat = q ∧ M' 13 19 (cS C (Uu C m) m q).toNat = lbA C m q) → M' 13 23 0 = 0 → Q 1 M') (K0 : ¬ (∃ m : Nat, x = m ∧ m ≤ (SL C).length ∧ 0 ≤ y ∧ y < cS C (Uu C m) m (cn C (Uu C m))) → ∀ M' : Mem, Fr Pm M M' → Bd M' → Core C M' → M' 13 23 0 = 1 → Q 0 M') : wp_X11_isGrown M x y Q := by
  have sl := SL_le hW
  have i0 : inR 0 := r01.1
  have il : inR ((SL C).length : Int) := ⟨by omega, by omega⟩
  unfold wp_X11_isGrown wpe_X11_isGrown
  refine sp_scripts hW hC hB (fun M1 F1 B1 I1 => ?_)
  have C1 : Core C M1 := hC.fr F1 rfl rfl rfl rfl rfl rfl rfl
  have G1 := P13_m F1 (fun _ _ => PSc_o)
  rw [I1.2.2.1.1]
  have bad : (¬ (∃ m : Nat, x = m ∧ m ≤ (SL C).length ∧ 0 ≤ y ∧ y < cS C (Uu C m) m (cn C (Uu C m)))) → ∀ M2 : Mem, Fr Pm M M2 → Bd M2 → Core C M2 → wpj_X11_isGrown_36 x y M2 Q := fun ne M2 F2 B2 C2 => by
    unfold wpj_X11_isGrown_36 wpj_X11_isGrown_37
    exact sp_go 1 B2 r01.1 r01.2 r01.2 rfl (fun M3 F3 B3 e3 => ⟨Or.inl rfl, K0 ne M3 (F2.tr (Pg_m F3)) B3 (C2.g F3) e3⟩)
  by_cases c : 0 ≤ x ∧ x ≤ (SL C).length
  · obtain ⟨m, rfl⟩ : ∃ m : Nat, x = m := ⟨x.toNat, by omega⟩
    have cb := cS_bd (C := C) (u := Uu C m) (m := m) (cn C (Uu C m))
    have n12 := hW.n12 (Uu_lt (C := C) (m := m))
    refine sp_in1 i0 il c ⟨r01.2, fun z => absurd z (by decide), fun _ => sp_grows hW C1 B1 I1 (by omega) rfl (fun M3 F3 B3 h20 hq => ?_)⟩
    have G3 := G1.tr (P13_m F3 (fun _ _ => Pgr_o))
    by_cases d : 0 ≤ y ∧ y < cS C (Uu C m) m (cn C (Uu C m))
    · refine sp_in1 i0 ⟨by omega, by omega⟩ (by omega) ⟨r01.2, fun z => absurd z (by decide), fun _ => ?_⟩
      unfold wpj_X11_isGrown_37
      exact go1 (C1.gr F3) B3 rfl (fun M4 F4 F4' B4 C4 e4 => ⟨Or.inr rfl, K1 m rfl (by omega) d M4 (G3.tr F4') B4 C4 (fun t p ht hp => ((F4 13 4 _ rfl).trans (F3 13 4 _ rfl)).trans (I1.2.1 t p ht hp)) ((F4 13 20 0 rfl).trans h20) (fun q h1 h2 => ⟨(F4 13 18 _ rfl).trans (hq q h1 h2).1, (F4 13 19 _ rfl).trans (hq q h1 h2).2⟩) e4⟩)
    · refine sp_in0 h1 i0 ⟨by omega, by omega⟩ (by omega) ⟨r01.1, fun _ => bad (fun ⟨m', e, _, w⟩ => d ?_) M3 G3 B3 (C1.gr F3), fun z => absurd rfl z⟩
      have : m' = m := by omega
      subst this
      exact w
  · exact sp_in0 h0 i0 il c ⟨r01.1, fun _ => bad (fun ⟨m', e, w, _⟩ => c (by omega)) M1 G1 B1 C1, fun z => absurd rfl z⟩
/-- what both calls of the class begin with -/
theorem sp_shows {M : Mem} {Q : Mem → Prop} {XQ : String → Mem → Prop} (hW : WF C) (hI : IK C M) (hB : Bd M) (h0 : inR x) (h1 : inR y) (K1 : ∀ m p : Nat, x = m → m ≤ (SL C).length → p < cn C (Uu C m) → sw C (Uu C m) m p → y = cS C (Uu C m) m p → ∀ M' : Mem, Fr Pc M M' → Bd M' → IK C M' → St1 C M' → M' 7 7 y.toNat = (nd C (Uu C m) p : Int) → (∀ q : Nat, q < cn C (Uu C m) → (M' 7 6 (nd C (Uu C m) q) = 0 ∨ M' 7 6 (nd C (Uu C m) q) = 1) ∧ (M' 7 6 (nd C (Uu C m) q) = 1 ↔ sw C (Uu C m) m q)) → Q M') (K0 : ¬ (∃ m : Nat, x = m ∧ m ≤ (SL C).length ∧ 0 ≤ y ∧ y < cS C (Uu C m) m (cn C (Uu C m))) → ∀ M' : Mem, Fr Pc M M' → Bd M' → IK C M' → XQ "java/lang/IndexOutOfBoundsException" M') : wp_X10_settle M (fun M2 => wp_X10_needIndex M2 x ((M2 7 4 0) + 1) (fun M4 => wp_X7_showForest M4 x (fun M6 => wp_X10_needIndex M6 y ((M6 7 8 0)) (fun M8 => Q M8) XQ)) XQ) := by
  have sl := SL_le hW
  refine sp_settle hW hI hB (fun M1 F1 B1 I1 S1 => sp_afterIx hW S1 h0 (fun c => ?_) (fun z => K0 (fun ⟨m, e, l, _⟩ => z (by omega)) M1 F1 B1 I1))
  obtain ⟨m, rfl⟩ : ∃ m : Nat, x = m := ⟨x.toNat, by omega⟩
  have cb := cS_bd (C := C) (u := Uu C m) (m := m) (cn C (Uu C m))
  have n12 := hW.n12 (Uu_lt (C := C) (m := m))
  refine sp_showForest hW I1.1 B1 S1 (by omega) rfl (fun M2 F2 B2 h8 h7 h6 => ?_)
  have F := F1.tr (P7f_c F2)
  rw [h8]
  refine sp_needIndex h1 ⟨by omega, by omega⟩ (fun z1 z2 => ?_) (fun z => K0 (fun ⟨m', e, _, w⟩ => z ?_) M2 F B2 (I1.sf F2))
  · obtain ⟨q, a, b, d⟩ := cS_sur _ y z1 z2
    refine K1 m q rfl (by omega) a b d.symm M2 F B2 (I1.sf F2) (S1.sf F2) ?_ h6
    rw [← d]
    exact h7 q a b
  · have : m' = m := by omega
    subst this
    exact w
theorem lbA_bd {m p : Nat} (hW : WF C) (hp : p < cn C (Uu C m)) : 0 ≤ lbA C m p ∧ lbA C m p ≤ 99 := by
  unfold lbA
  split
  · rename_i c
    rcases pt_rg hW p with z | ⟨b, z, hb, _⟩
    · exact absurd z (hs_rl (bo_iff.mp c.2))
    · rw [z, Int.toNat_natCast]
      exact hW.lb (t := 1) (by omega) hb
  · exact hW.lb Uu_lt hp
theorem ag_labelAfter (hW : WF C) (h0 : inR x) (h1 : inR y) : Agree nm0 1 (-2000000) 2000000 C (fun M Q XQ => wp_X10_labelAfter M x y Q XQ) (fun M Q => wp_X11_labelAfter M x y Q) := by
  have sl := SL_le hW
  by_cases c : ∃ m : Nat, x = m ∧ m ≤ (SL C).length ∧ 0 ≤ y ∧ y < cS C (Uu C m) m (cn C (Uu C m))
  · obtain ⟨m, rfl, hm, y1, y2⟩ := c
    have n12 := hW.n12 (Uu_lt (C := C) (m := m))
    obtain ⟨p, hp, sp, ep⟩ := cS_sur _ y y1 y2
    have cb := cS_bd (C := C) (u := Uu C m) (m := m) p
    have lb := lbA_bd hW hp
    refine agree_q (lbA C m p) hW (fun M Q XQ hI hB h => ?_) (fun M Q hC hB h => ?_)
    · unfold wp_X10_labelAfter wpe_X10_labelAfter
      refine sp_shows (Q := fun M8 => ((0 : Int) ≤ y ∧ y < 12) ∧ wp_X7_shownLabel M8 m ((M8 7 7 y.toNat)) (fun y10 M11 => Q y10 M11)) hW hI hB h0 h1 (fun m' p' em hm' hp' sp' ep' M1 F1 B1 I1 S1 e7 e6 => ?_) (fun z => absurd ⟨m, rfl, hm, y1, y2⟩ z)
      have : m = m' := by omega
      subst this
      have pp : p' = p := by
        rcases Nat.lt_trichotomy p' p with d | d | d
        · have := cS_lt sp' d
          omega
        · exact d
        · have := cS_lt sp d
          omega
      subst pp
      exact ⟨by omega, sp_shownLabel hW I1.1 B1 S1 hm hp rfl e7 (h M1 F1 B1 I1)⟩
    · unfold wp_X11_labelAfter wpe_X11_labelAfter
      refine sp_isGrown hW hC hB h0 h1 (fun m' em hm' _ M1 F1 B1 C1 S1 h20 hq e1 => ⟨r01.2, fun z => absurd z (by decide), fun _ => ⟨by omega, ?_⟩⟩) (fun z => absurd ⟨m, rfl, hm, y1, y2⟩ z)
      have : m = m' := by omega
      subst this
      rw [← ep, (hq p hp sp).2]
      exact h M1 F1 B1 C1 e1
  · refine agree_x 1 hW (by omega) (fun M Q XQ hI hB h => ?_) (fun M Q hC hB h => ?_)
    · unfold wp_X10_labelAfter wpe_X10_labelAfter
      refine sp_shows (Q := fun M8 => ((0 : Int) ≤ y ∧ y < 12) ∧ wp_X7_shownLabel M8 x ((M8 7 7 y.toNat)) (fun y10 M11 => Q y10 M11)) hW hI hB h0 h1 (fun m p em hm hp sp ep M1 F1 B1 I1 S1 e7 e6 => absurd ⟨m, em, hm, ?_, ?_⟩ c) (fun _ M1 F1 B1 I1 => h M1 F1 B1 I1)
      · have := cS_bd (C := C) (u := Uu C m) (m := m) p
        omega
      · rw [ep]
        exact cS_lt sp hp
    · unfold wp_X11_labelAfter wpe_X11_labelAfter
      exact sp_isGrown hW hC hB h0 h1 (fun m em hm hy M1 F1 B1 C1 S1 h20 hq e1 => absurd ⟨m, em, hm, hy⟩ c) (fun _ M1 F1 B1 C1 e1 => ⟨r01.1, fun _ => h M1 F1 B1 C1 e1, fun z => absurd rfl z⟩)
theorem dpF_eq {u m p a b : Nat} (h : a ≤ b) (e : cS C u m a = cS C u m b) : sm (dpF C u m p) 0 a = sm (dpF C u m p) 0 b := by
  induction b with
  | zero =>
    rw [show a = 0 from by omega]
  | succ b ih =>
    by_cases c : a = b + 1
    · rw [c]
    · have m1 := cS_mono (C := C) (u := u) (m := m) (show a ≤ b from by omega)
      have m2 := cS_mono (C := C) (u := u) (m := m) (show b ≤ b + 1 from by omega)
      have ns : ¬ sw C u m b := fun z => by
        have := cS_lt z (show b < b + 1 from by omega)
        omega
      rw [sm_succ _ (Nat.zero_le _), ← ih (by omega) (by omega)]
      unfold dpF
      rw [if_neg (fun z => ns (bo_iff.mp z).1)]
      omega
theorem dpF_eq2 {u m p a b : Nat} (e : cS C u m a = cS C u m b) : sm (dpF C u m p) 0 a = sm (dpF C u m p) 0 b := by
  by_cases h : a ≤ b
  · exact dpF_eq h e
  · exact (dpF_eq (by omega) e.symm).symm
theorem ag_depthAfter (hW : WF C) (h0 : inR x) (h1 : inR y) : Agree nm0 1 (-2000000) 2000000 C (fun M Q XQ => wp_X10_depthAfter M x y Q XQ) (fun M Q => wp_X11_depthAfter M x y Q) := by
  have sl := SL_le hW
  by_cases c : ∃ m : Nat, x = m ∧ m ≤ (SL C).length ∧ 0 ≤ y ∧ y < cS C (Uu C m) m (cn C (Uu C m))
  · obtain ⟨m, rfl, hm, y1, y2⟩ := c
    have ul : Uu C m < 2 := Uu_lt
    have n12 := hW.n12 ul
    obtain ⟨p, hp, sp, ep⟩ := cS_sur _ y y1 y2
    have cb := cS_bd (C := C) (u := Uu C m) (m := m) p
    have db := sm_bd (dpF C (Uu C m) m p) (i := 0) (j := p) (fun k _ _ => dpF_bd _ _ _)
    refine agree_q (sm (dpF C (Uu C m) m p) 0 p) hW (fun M Q XQ hI hB h => ?_) (fun M Q hC hB h => ?_)
    · unfold wp_X10_depthAfter wpe_X10_depthAfter
      refine sp_shows (Q := fun M8 => ((0 : Int) ≤ y ∧ y < 12) ∧ wp_X7_shownDepth M8 m ((M8 7 7 y.toNat)) (fun y10 M11 => Q y10 M11)) hW hI hB h0 h1 (fun m' p' em hm' hp' sp' ep' M1 F1 B1 I1 S1 e7 e6 => ?_) (fun z => absurd ⟨m, rfl, hm, y1, y2⟩ z)
      have : m = m' := by omega
      subst this
      have pp : p' = p := by
        rcases Nat.lt_trichotomy p' p with d | d | d
        · have := cS_lt sp' d
          omega
        · exact d
        · have := cS_lt sp d
          omega
      subst pp
      exact ⟨by omega, sp_shownDepth hW I1.1 B1 S1.2.2.1 hm hp rfl e7 e6 (h M1 F1 B1 I1)⟩
    · unfold wp_X11_depthAfter
      refine ⟨fun n x3 x4 M1 => ∃ k : Nat, x4 = (k : Int) ∧ (k : Int) ≤ y ∧ n = 20 - k ∧ (Fr Pm M M1 ∧ Bd M1 ∧ Core C M1 ∧ Sz C M1 ∧ M1 13 20 0 = (Uu C m : Int) ∧ (∀ q : Nat, q < cn C (Uu C m) → sw C (Uu C m) m q → M1 13 18 (cS C (Uu C m) m q).toNat = q) ∧ M1 13 23 0 = 0) ∧ ∀ q : Nat, q ≤ p → cS C (Uu C m) m q = k → x3 = sm (dpF C (Uu C m) m p) 0 q, ?_, ?_⟩
      · unfold wpe_X11_depthAfter
        refine sp_isGrown hW hC hB h0 h1 (fun m' em hm' _ M1 F1 B1 C1 S1 h20 hq e1 => ⟨r01.2, fun _ => ?_, fun z => absurd (by decide) z⟩) (fun z => absurd ⟨m, rfl, hm, y1, y2⟩ z)
        have : m = m' := by omega
        subst this
        refine ⟨20, 0, rfl, y1, rfl, ⟨F1, B1, C1, S1, h20, fun q h2 h3 => (hq q h2 h3).1, e1⟩, fun q _ e => ?_⟩
        have a := dpF_eq2 (C := C) (u := Uu C m) (m := m) (p := p) (a := q) (b := 0) (by rw [e, cS_0]; rfl)
        rw [a, sm_self _ (Nat.le_refl _)]
      · intro n x3 x4 M1 ⟨k, e4, hk, hn, ⟨F1, B1, C1, S1, h20, hq, e1⟩, H⟩
        subst e4
        unfold wph_X11_depthAfter_16 wpj_X11_depthAfter_65
        refine ⟨⟨by omega, by omega⟩, h1, fun z => ?_, fun z => ?_⟩
        · have ky : (k : Int) = y := by omega
          rw [H p (Nat.le_refl _) (by omega)]
          exact h M1 F1 B1 C1 e1
        · obtain ⟨q, a, b, d⟩ := cS_sur (C := C) (u := Uu C m) (m := m) p (k : Int) (by omega) (by omega)
          have hqn : q < cn C (Uu C m) := by omega
          have eq := hW.e hqn
          have g1 := hq q hqn b
          have g2 := hq p hp sp
          rw [d, Int.toNat_natCast] at g1
          rw [ep] at g2
          rw [Int.toNat_natCast, g1, g2, h20, show (12 * (Uu C m : Int) + (q : Int)).toNat = 12 * Uu C m + q from by omega, S1 _ _ ul hqn]
          have xq := H q (by omega) d
          have nx : ∀ v : Int, v = x3 + dpF C (Uu C m) m p q → ∃ n1 : Nat, n1 < n ∧ ∃ k1 : Nat, (k : Int) + 1 = (k1 : Int) ∧ (k1 : Int) ≤ y ∧ n1 = 20 - k1 ∧ (Fr Pm M M1 ∧ Bd M1 ∧ Core C M1 ∧ Sz C M1 ∧ M1 13 20 0 = (Uu C m : Int) ∧ (∀ q : Nat, q < cn C (Uu C m) → sw C (Uu C m) m q → M1 13 18 (cS C (Uu C m) m q).toNat = q) ∧ M1 13 23 0 = 0) ∧ ∀ q : Nat, q ≤ p → cS C (Uu C m) m q = k1 → v = sm (dpF C (Uu C m) m p) 0 q := fun v ev => ⟨20 - (k + 1), by omega, k + 1, by omega, by omega, rfl, ⟨F1, B1, C1, S1, h20, hq, e1⟩, fun q' h2 h3 => by
            have t : cS C (Uu C m) m (q + 1) = cS C (Uu C m) m q' := by
              rw [cS_s, sB_1 b, d, h3]
              omega
            rw [ev, xq, ← dpF_eq2 t, sm_succ _ (Nat.zero_le _)]⟩
          refine ⟨by omega, by omega, by omega, by omega, ⟨by omega, by omega⟩, ⟨by omega, by omega⟩, fun z2 y15 e15 => nx _ ?_, fun z2 y15 e15 => nx _ ?_⟩
          · rw [e15]
            unfold dpF
            rw [if_neg (fun w => by have := (bo_iff.mp w).2; omega)]
          · rw [e15]
            unfold dpF
            rw [if_pos (bo_iff.mpr ⟨b, by omega⟩)]
  · refine agree_x 1 hW (by omega) (fun M Q XQ hI hB h => ?_) (fun M Q hC hB h => ?_)
    · unfold wp_X10_depthAfter wpe_X10_depthAfter
      refine sp_shows (Q := fun M8 => ((0 : Int) ≤ y ∧ y < 12) ∧ wp_X7_shownDepth M8 x ((M8 7 7 y.toNat)) (fun y10 M11 => Q y10 M11)) hW hI hB h0 h1 (fun m p em hm hp sp ep M1 F1 B1 I1 S1 e7 e6 => absurd ⟨m, em, hm, ?_, ?_⟩ c) (fun _ M1 F1 B1 I1 => h M1 F1 B1 I1)
      · have := cS_bd (C := C) (u := Uu C m) (m := m) p
        omega
      · rw [ep]
        exact cS_lt sp hp
    · unfold wp_X11_depthAfter
      refine ⟨fun _ _ _ _ => False, ?_, fun _ _ _ _ f => f.elim⟩
      unfold wpe_X11_depthAfter
      exact sp_isGrown hW hC hB h0 h1 (fun m em hm hy M1 F1 B1 C1 S1 h20 hq e1 => absurd ⟨m, em, hm, hy⟩ c) (fun _ M1 F1 B1 C1 e1 => ⟨r01.1, fun z => absurd rfl z, fun _ => h M1 F1 B1 C1 e1⟩)
end AFTER
