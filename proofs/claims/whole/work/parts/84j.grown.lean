/-! what the forest shows -/
noncomputable def dpF (C : Nat → Nat → Int) (u m p q : Nat) : Int := if bo (sw C u m q ∧ p < ce C u q) = true then 1 else 0
section GROWN
variable {C : Nat → Nat → Int} {M : Mem} {m : Nat}
theorem sR_rl {k p : Nat} (h : (1, p) ∈ sR C k) : rlP C p = true := by
  induction k with
  | zero =>
    have a := (sD_in (C := C) (k := cn C 0) h).1
    exact absurd a (by decide)
  | succ k ih =>
    unfold sR at h
    split at h
    · rename_i c
      rcases List.mem_append.mp h with h | h
      · exact ih h
      · have e := List.mem_singleton.mp h
        rw [Prod.mk.injEq] at e
        rw [e.2]
        exact c
    · exact ih h
theorem SL_rl {p : Nat} (h : (1, p) ∈ SL C) : pt C p ≠ -1 := by
  have a : (1, p) ∈ sR C (cn C 0) := by
    rcases sI_in h with a | a
    · exact a
    · exact absurd a.1 (by decide)
  have b := sR_rl a
  unfold rlP at b
  rw [Bool.and_eq_true] at b
  exact of_decide_eq_true b.1
theorem hs_rl {p : Nat} (h : hs C m 1 p) : pt C p ≠ -1 := by
  obtain ⟨k, _, e⟩ := h
  exact SL_rl (List.mem_of_getElem? e)
theorem sp_shownLabel {Q : Int → Mem → Prop} {p : Nat} {p0 p1 : Int} (hW : WF C) (hX : Cls C M) (hB : Bd M) (hS : St1 C M) (hm : m ≤ (SL C).length) (hp : p < cn C (Uu C m)) (e0 : p0 = m) (e1 : p1 = (nd C (Uu C m) p : Int)) (K : Q (lbA C m p) M) : wp_X7_shownLabel M p0 p1 Q := by
  subst e0; subst e1
  have sl := SL_le hW
  have ul : Uu C m < 2 := Uu_lt
  have n12 := hW.n12 ul
  obtain ⟨mp, st, oo, mv⟩ := hS
  have lp := hW.ndl ul hp
  have uo : Uu C m = 0 ↔ m ≤ OO C := by
    unfold Uu
    split <;> omega
  unfold wp_X7_shownLabel
  refine ⟨fun n x3 M1 => ∃ s : Nat, x3 = (s : Int) ∧ s ≤ m ∧ n = 30 - s ∧ M = M1 ∧ Uu C m = 0 ∧ ¬ hs C s 1 p, ?_, ?_⟩
  · unfold wpe_X7_shownLabel
    rw [oo]
    refine ⟨⟨by omega, by omega⟩, ⟨by omega, by omega⟩, fun z => ⟨_, 0, rfl, Nat.zero_le _, rfl, rfl, by omega, hs_0⟩, fun z => ⟨by omega, ?_⟩⟩
    have u1 : Uu C m = 1 := by omega
    have g := hX.lb (t := Uu C m) (o := 12) (by omega) ul hp
    rw [Int.toNat_natCast, g]
    unfold lbA at K
    rwa [if_neg (by omega)] at K
  · intro n x3 M1 ⟨s, e3, hs', hn, eM, u0, nh⟩
    subst e3; subst eM
    unfold wph_X7_shownLabel_23 wpj_X7_shownLabel_82
    have hp0 : p < cn C 0 := by rwa [u0] at hp
    have n0 := hW.n12 (t := 0) (by omega)
    rw [u0] at lp
    rw [show nd C (Uu C m) p = nd C 0 p from by rw [u0]]
    refine ⟨⟨by omega, by omega⟩, ⟨by omega, by omega⟩, fun z => ⟨by omega, ?_⟩, fun z => ?_⟩
    · have es : s = m := by omega
      subst es
      have g := hX.lb (t := 0) (o := 11) rfl (by omega) hp0
      rw [Int.toNat_natCast, g]
      unfold lbA at K
      rw [if_neg (fun y => nh (bo_iff.mp y.2)), u0] at K
      exact K
    · obtain ⟨w, p', gk, gi⟩ := SL_get (C := C) (k := s) (by omega)
      obtain ⟨hw, hp'⟩ := SL_in hW gi
      have q2 := (st.2 s w p' gk).1
      have q3 := (st.2 s w p' gk).2
      have lp' := hW.ndl (wT_lt (w := w)) hp'
      have nw := hW.n12 (wT_lt (w := w))
      have next : ¬ (w = 1 ∧ p' = p) → ∃ n1 : Nat, n1 < n ∧ ∃ s1 : Nat, (s : Int) + 1 = (s1 : Int) ∧ s1 ≤ m ∧ n1 = 30 - s1 ∧ M = M ∧ Uu C m = 0 ∧ ¬ hs C s1 1 p := fun c => ⟨30 - (s + 1), by omega, s + 1, by omega, by omega, rfl, rfl, u0, fun y => by
        rcases (hs_s gk).mp y with d | d
        · exact nh d
        · exact c d⟩
      rw [Int.toNat_natCast, q2, q3, Int.toNat_natCast]
      refine ⟨by omega, ⟨by omega, by omega⟩, fun z1 => next (fun y => z1 (by omega)), fun z1 => ⟨by omega, ⟨by omega, by omega⟩, ⟨by omega, by omega⟩, fun z2 => next (fun y => ?_), fun z2 => ?_⟩⟩
      · refine z2 ?_
        rw [y.1, y.2]
        rfl
      · have w1 : w = 1 := by omega
        subst w1
        have ep : p' = p := hW.inj (t := 0) (by omega) hp' hp0 (show nd C 0 p' = nd C 0 p from by
          have : (nd C (wT 1) p' : Int) = (nd C 0 p : Int) := Decidable.byContradiction z2
          rw [show wT 1 = 0 from rfl] at this
          omega)
        subst ep
        have hm1 : hs C m 1 p' := ⟨s, by omega, gk⟩
        have nt := hs_rl hm1
        have e6 := mp.1 p' hp0
        rw [if_pos hp0] at e6
        unfold PN at e6
        rw [if_neg nt] at e6
        rcases pt_rg hW p' with y | ⟨b, y, hb, _⟩
        · exact absurd y nt
        · rw [y, Int.toNat_natCast] at e6
          have lb := hW.ndl (t := 1) (by omega) hb
          have n1 := hW.n12 (t := 1) (by omega)
          rw [e6, Int.toNat_natCast]
          have g := hX.lb (t := 1) (o := 12) rfl (by omega) hb
          rw [g]
          unfold lbA at K
          rw [if_pos ⟨u0, bo_iff.mpr hm1⟩, y, Int.toNat_natCast] at K
          exact ⟨by omega, ⟨by omega, by omega⟩, fun y2 => absurd y2 (by omega), fun _ => ⟨by omega, by omega, K⟩⟩
theorem dpF_bd (u p q : Nat) : 0 ≤ dpF C u m p q ∧ dpF C u m p q ≤ 50 := by
  unfold dpF
  split <;> omega
theorem sp_shownDepth {Q : Int → Mem → Prop} {p : Nat} {p0 p1 : Int} (hW : WF C) (hX : Cls C M) (hB : Bd M) (hoo : M 7 5 0 = (OO C : Int)) (hm : m ≤ (SL C).length) (hp : p < cn C (Uu C m)) (e0 : p0 = m) (e1 : p1 = (nd C (Uu C m) p : Int)) (H : ∀ q : Nat, q < cn C (Uu C m) → (M 7 6 (nd C (Uu C m) q) = 0 ∨ M 7 6 (nd C (Uu C m) q) = 1) ∧ (M 7 6 (nd C (Uu C m) q) = 1 ↔ sw C (Uu C m) m q)) (K : Q (sm (dpF C (Uu C m) m p) 0 p) M) : wp_X7_shownDepth M p0 p1 Q := by
  subst e0; subst e1
  have sl := SL_le hW
  have ul : Uu C m < 2 := Uu_lt
  have n12 := hW.n12 ul
  have lp := hW.ndl ul hp
  have uo : Uu C m = 0 ↔ m ≤ OO C := by
    unfold Uu
    split <;> omega
  generalize eu : Uu C m = u at *
  have hT : isT (11 + u) := isT_of ul
  unfold wp_X7_shownDepth
  refine ⟨fun n r3 x4 x5 M1 => ∃ q : Nat, r3 = 11 + u ∧ x5 = (q : Int) ∧ q ≤ p ∧ n = 20 - q ∧ x4 = sm (dpF C u m p) 0 q ∧ M = M1, ?_, ?_⟩
  · unfold wpe_X7_shownDepth wp_X7_treeAfter wpe_X7_treeAfter
    rw [hoo]
    refine ⟨⟨by omega, by omega⟩, ⟨by omega, by omega⟩, fun z => ?_, fun z => ?_⟩
    · have u1 : u = 1 := by omega
      subst u1
      exact ⟨hT, _, 0, rfl, rfl, Nat.zero_le _, rfl, (sm_self _ (Nat.le_refl _)).symm, rfl⟩
    · have u0 : u = 0 := by omega
      subst u0
      exact ⟨hT, _, 0, rfl, rfl, Nat.zero_le _, rfl, (sm_self _ (Nat.le_refl _)).symm, rfl⟩
  · intro n r3 x4 x5 M1 ⟨q, er, e5, hq, hn, e4, eM⟩
    subst er; subst e5; subst e4; subst eM
    unfold wph_X7_shownDepth_12 wpj_X7_shownDepth_60
    rw [Int.toNat_natCast, hX.pp rfl ul hp, Int.toNat_natCast]
    have next : ∀ v : Int, v = sm (dpF C u m p) 0 q + dpF C u m p q → q < p → ∃ n1 : Nat, n1 < n ∧ ∃ q1 : Nat, 11 + u = 11 + u ∧ (q : Int) + 1 = (q1 : Int) ∧ q1 ≤ p ∧ n1 = 20 - q1 ∧ v = sm (dpF C u m p) 0 q1 ∧ M = M := fun v e h => ⟨20 - (q + 1), by omega, q + 1, rfl, by omega, by omega, rfl, by rw [e, sm_succ _ (Nat.zero_le _)], rfl⟩
    refine ⟨hT, by omega, ⟨by omega, by omega⟩, ⟨by omega, by omega⟩, fun z => ?_, fun z => ⟨by omega, fun y8 e8 => ?_⟩⟩
    · have : q = p := by omega
      subst this
      exact K
    · have hqp : q < p := by omega
      have hqn : q < cn C u := by omega
      have lq := hW.ndl ul hqn
      rw [hX.pre rfl ul hqn] at e8
      subst e8
      rw [Int.toNat_natCast]
      have h6 := H q hqn
      refine ⟨by omega, hB.r _ _ _, fun z2 => ⟨hT, next _ ?_ hqp⟩, fun z2 => sp_end hW hX rfl ul hqn rfl ?_⟩
      · unfold dpF
        rw [if_neg (fun y => by have := h6.2.mpr (bo_iff.mp y).1; omega)]
        omega
      · have ys : sw C u m q := h6.2.mp (by have := h6.1; omega)
        have eq := hW.e hqn
        rw [hX.pp rfl ul hp]
        refine ⟨by omega, ⟨by omega, by omega⟩, ⟨by omega, by omega⟩, fun z3 => ⟨hT, next _ ?_ hqp⟩, fun z3 => ⟨hT, next _ ?_ hqp⟩⟩
        · unfold dpF
          rw [if_neg (fun y => by have := (bo_iff.mp y).2; omega)]
          omega
        · unfold dpF
          rw [if_pos (bo_iff.mpr ⟨ys, by omega⟩)]
/-- the reference's half -/
theorem sp_does {Q : Int → Mem → Prop} {w p : Nat} {p0 p1 p2 : Int} (hW : WF C) (hB : Bd M) (hS : StM M (SL C)) (hm : m ≤ (SL C).length) (hw : w < 3) (hp : p < 12) (e0 : p0 = m) (e1 : p1 = w) (e2 : p2 = p) (K : ∀ v : Int, (v = 0 ∨ v = 1) → (v = 1 ↔ hs C m w p) → Q v M) : wp_X11_does M p0 p1 p2 Q := by
  subst e0; subst e1; subst e2
  have sl := SL_le hW
  unfold wp_X11_does
  refine ⟨fun n x4 x5 M1 => ∃ s : Nat, x5 = (s : Int) ∧ s ≤ m ∧ n = 30 - s ∧ M = M1 ∧ (x4 = 0 ∨ x4 = 1) ∧ (x4 = 1 ↔ hs C s w p), ?_, ?_⟩
  · exact ⟨_, 0, rfl, Nat.zero_le _, rfl, rfl, Or.inl rfl, fun z => absurd z (by decide), fun z => absurd z hs_0⟩
  · intro n x4 x5 M1 ⟨s, e5, hs', hn, eM, h4, h4'⟩
    subst e5; subst eM
    unfold wph_X11_does_6 wpj_X11_does_39 wpj_X11_does_43 wpj_X11_does_44
    refine ⟨⟨by omega, by omega⟩, ⟨by omega, by omega⟩, fun z => ⟨h4, K x4 h4 ?_⟩, fun z => ?_⟩
    · rwa [show s = m from by omega] at h4'
    · obtain ⟨w', p', gk, gi⟩ := SL_get (C := C) (k := s) (by omega)
      have q2 := (hS.2 s w' p' gk).1
      have q3 := (hS.2 s w' p' gk).2
      have next : ∀ v : Int, (v = 0 ∨ v = 1) → (v = 1 ↔ hs C s w p ∨ w' = w ∧ p' = p) → ∃ n1 : Nat, n1 < n ∧ ∃ s1 : Nat, (s : Int) + 1 = (s1 : Int) ∧ s1 ≤ m ∧ n1 = 30 - s1 ∧ M = M ∧ (v = 0 ∨ v = 1) ∧ (v = 1 ↔ hs C s1 w p) := fun v h1 h2 => ⟨30 - (s + 1), by omega, s + 1, by omega, by omega, rfl, rfl, h1, h2.trans (hs_s gk).symm⟩
      rw [Int.toNat_natCast, q2, q3]
      have hw' := (SL_in hW gi).1
      have hp' := (SL_in hW gi).2
      have nw := hW.n12 (wT_lt (w := w'))
      refine ⟨⟨by omega, by omega⟩, fun z1 => next 1 (Or.inr rfl) ⟨fun _ => Or.inl (h4'.mp (by omega)), fun _ => rfl⟩, fun z1 => ⟨by omega, ⟨by omega, by omega⟩, ⟨by omega, by omega⟩, fun z2 => next 0 (Or.inl rfl) ⟨fun y => absurd y (by decide), fun y => ?_⟩, fun z2 => ⟨by omega, ⟨by omega, by omega⟩, ⟨by omega, by omega⟩, fun z3 => next 0 (Or.inl rfl) ⟨fun y => absurd y (by decide), fun y => ?_⟩, fun z3 => next 1 (Or.inr rfl) ⟨fun _ => Or.inr ⟨by omega, by omega⟩, fun _ => rfl⟩⟩⟩⟩
      · rcases y with y | y
        · have := h4'.mpr y
          omega
        · exact absurd (by rw [y.1]) z2
      · rcases y with y | y
        · have := h4'.mpr y
          omega
        · exact absurd (by rw [y.2]) z3
def Pgr (o k : Nat) : Bool := o == 13 && (k == 18 || k == 19 || k == 20)
theorem Pgr_o {o k : Nat} (h : Pgr o k = true) : o = 13 := by
  simp only [Pgr, Bool.and_eq_true, beq_iff_eq] at h
  exact h.1
theorem sp_grows {Q : Int → Mem → Prop} {p0 : Int} (hW : WF C) (hC : Core C M) (hB : Bd M) (hI : ScrI C M) (hm : m ≤ (SL C).length) (e0 : p0 = m) (K : ∀ M' : Mem, Fr Pgr M M' → Bd M' → M' 13 20 0 = (Uu C m : Int) → (∀ q : Nat, q < cn C (Uu C m) → sw C (Uu C m) m q → M' 13 18 (cS C (Uu C m) m q).toNat = q ∧ M' 13 19 (cS C (Uu C m) m q).toNat = lbA C m q) → Q (cS C (Uu C m) m (cn C (Uu C m))) M') : wp_X11_grows M p0 Q := by
  subst e0
  have sl := SL_le hW
  have ul : Uu C m < 2 := Uu_lt
  have n12 := hW.n12 ul
  have uo : Uu C m = 0 ↔ m ≤ OO C := by
    unfold Uu
    split <;> omega
  have lbE : ∀ q : Nat, lbA C m q = if Uu C m = 0 ∧ bo (hs C m 1 q) = true then C 3 (12 + (pt C q).toNat) else C 3 (12 * Uu C m + q) := fun _ => rfl
  generalize eu : Uu C m = u at *
  unfold wp_X11_grows
  refine ⟨fun n x2 x3 M1 => ∃ p : Nat, x2 = cS C u m p ∧ x3 = (p : Int) ∧ p ≤ cn C u ∧ n = 20 - p ∧ Fr Pgr M M1 ∧ Bd M1 ∧ M1 13 20 0 = (u : Int) ∧ ∀ q : Nat, q < p → sw C u m q → M1 13 18 (cS C u m q).toNat = q ∧ M1 13 19 (cS C u m q).toNat = lbA C m q, ?_, ?_⟩
  · unfold wpe_X11_grows wpj_X11_grows_14
    rw [hI.2.2.2]
    have st : ∀ v : Int, v = (u : Int) → ∀ M4 : Mem, M4 = mset M 13 20 0 v → ∃ n1 : Nat, ∃ p : Nat, (0 : Int) = cS C u m p ∧ (0 : Int) = (p : Int) ∧ p ≤ cn C u ∧ n1 = 20 - p ∧ Fr Pgr M M4 ∧ Bd M4 ∧ M4 13 20 0 = (u : Int) ∧ ∀ q : Nat, q < p → sw C u m q → M4 13 18 (cS C u m q).toNat = q ∧ M4 13 19 (cS C u m q).toNat = lbA C m q := fun v ev M4 e4 => ⟨_, 0, cS_0.symm, rfl, Nat.zero_le _, rfl, by rw [e4]; exact Fr.rf.set rfl, by rw [e4]; exact hB.set (by omega) (by omega), by rw [e4, mset_eq, ev], fun q hq => absurd hq (Nat.not_lt_zero _)⟩
    exact ⟨⟨by omega, by omega⟩, ⟨by omega, by omega⟩, fun z => st 1 (by omega), fun z => st 0 (by omega)⟩
  · intro n x2 x3 M1 ⟨p, e2, e3, hp, hn, F1, B1, H20, H⟩
    subst e2; subst e3
    have C1 : Core C M1 := hC.fr F1 rfl rfl rfl rfl rfl rfl rfl
    have I1 : ScrI C M1 := hI.fr F1 rfl rfl rfl rfl rfl rfl rfl
    have cb := cS_bd (C := C) (u := u) (m := m) p
    unfold wph_X11_grows_21
    rw [H20, Int.toNat_natCast, C1.n hW ul, Int.toNat_natCast]
    refine ⟨by omega, ⟨by omega, by omega⟩, ⟨by omega, by omega⟩, fun z => ?_, fun z => ?_⟩
    · rw [show p = cn C u from by omega] at H ⊢
      exact K M1 F1 B1 H20 H
    · have hpn : p < cn C u := by omega
      have skip : ¬ sw C u m p → ∃ n1 : Nat, n1 < n ∧ ∃ p1 : Nat, cS C u m p = cS C u m p1 ∧ (p : Int) + 1 = (p1 : Int) ∧ p1 ≤ cn C u ∧ n1 = 20 - p1 ∧ Fr Pgr M M1 ∧ Bd M1 ∧ M1 13 20 0 = (u : Int) ∧ ∀ q : Nat, q < p1 → sw C u m q → M1 13 18 (cS C u m q).toNat = q ∧ M1 13 19 (cS C u m q).toNat = lbA C m q := fun ns => ⟨20 - (p + 1), by omega, p + 1, by rw [cS_s, sB_0 ns]; omega, by omega, by omega, rfl, F1, B1, H20, fun q hq h => H q (by
        have : q ≠ p := fun y => ns (y ▸ h)
        omega) h⟩
      have take : sw C u m p → wpj_X11_grows_73 m (cS C u m p) p M1 (fun (x2 : Int) (x3 : Int) (M1 : Mem) => ∃ n1 : Nat, n1 < n ∧ ∃ p : Nat, x2 = cS C u m p ∧ x3 = (p : Int) ∧ p ≤ cn C u ∧ n1 = 20 - p ∧ Fr Pgr M M1 ∧ Bd M1 ∧ M1 13 20 0 = (u : Int) ∧ ∀ q : Nat, q < p → sw C u m q → M1 13 18 (cS C u m q).toNat = q ∧ M1 13 19 (cS C u m q).toNat = lbA C m q) Q := fun ys => by
        unfold wpj_X11_grows_73
        refine ⟨by omega, fun M22 e22 => ?_⟩
        have F2 : Fr Pgr M M22 := by
          rw [e22]
          exact F1.set rfl
        have B2 : Bd M22 := by
          rw [e22]
          exact B1.set (by omega) (by omega)
        have C2 : Core C M22 := hC.fr F2 rfl rfl rfl rfl rfl rfl rfl
        have I2 : ScrI C M22 := hI.fr F2 rfl rfl rfl rfl rfl rfl rfl
        have h20 : M22 13 20 0 = (u : Int) := by rw [e22, mset_ne (by omega), H20]
        have fin : ∀ s0 s1 : Int, s1 = cS C u m p → s0 = lbA C m p → wpj_X11_grows_133 m (cS C u m p) p s0 s1 M22 (fun (x2 : Int) (x3 : Int) (M1 : Mem) => ∃ n1 : Nat, n1 < n ∧ ∃ p : Nat, x2 = cS C u m p ∧ x3 = (p : Int) ∧ p ≤ cn C u ∧ n1 = 20 - p ∧ Fr Pgr M M1 ∧ Bd M1 ∧ M1 13 20 0 = (u : Int) ∧ ∀ q : Nat, q < p → sw C u m q → M1 13 18 (cS C u m q).toNat = q ∧ M1 13 19 (cS C u m q).toNat = lbA C m q) Q := fun s0 s1 h1 h0 => by
          subst h1
          unfold wpj_X11_grows_133 wpj_X11_grows_137
          have lbb : -2000000 ≤ s0 ∧ s0 ≤ 2000000 := by
            rw [h0, lbE]
            split
            · have a := hB 13 3 (12 + (pt C p).toNat)
              rw [hC 3 _ rfl] at a
              exact a
            · have a := hB 13 3 (12 * u + p)
              rw [hC 3 _ rfl] at a
              exact a
          refine ⟨by omega, fun M33 e33 => ⟨20 - (p + 1), by omega, p + 1, by rw [cS_s, sB_1 ys], by omega, by omega, rfl, ?_, ?_, ?_, fun q hq hq2 => ?_⟩⟩
          · rw [e33]
            exact F2.set rfl
          · rw [e33]
            exact B2.set lbb.1 lbb.2
          · rw [e33, mset_ne (by omega), h20]
          · rw [e33, mset_ne (by omega), mset_i, e22, mset_i, mset_ne (by omega)]
            by_cases c : q = p
            · subst c
              rw [if_pos rfl, if_pos rfl]
              exact ⟨rfl, h0⟩
            · have lt := cS_lt hq2 (show q < p from by omega)
              have cq := cS_bd (C := C) (u := u) (m := m) q
              rw [if_neg (by omega), if_neg (by omega)]
              exact H q (by omega) hq2
        have l119 : ¬ (u = 0 ∧ bo (hs C m 1 p) = true) → wpj_X11_grows_119 m (cS C u m p) p (cS C u m p) M22 (fun (x2 : Int) (x3 : Int) (M1 : Mem) => ∃ n1 : Nat, n1 < n ∧ ∃ p : Nat, x2 = cS C u m p ∧ x3 = (p : Int) ∧ p ≤ cn C u ∧ n1 = 20 - p ∧ Fr Pgr M M1 ∧ Bd M1 ∧ M1 13 20 0 = (u : Int) ∧ ∀ q : Nat, q < p → sw C u m q → M1 13 18 (cS C u m q).toNat = q ∧ M1 13 19 (cS C u m q).toNat = lbA C m q) Q := fun c => by
          unfold wpj_X11_grows_119
          rw [h20]
          refine ⟨by omega, fin _ _ rfl ?_⟩
          rw [show (12 * (u : Int) + (p : Int)).toNat = 12 * u + p from by omega, C2 3 _ rfl, lbE, if_neg c]
        rw [h20]
        refine ⟨⟨by omega, by omega⟩, fun c => l119 (fun y => c (by rw [y.1]; rfl)), fun c => ?_⟩
        have u0 : u = 0 := by omega
        refine sp_does (w := 1) (p := p) hW B2 I2.2.2.1 hm (by omega) (by omega) rfl rfl rfl (fun v h1 h2 => ⟨by rcases h1 with rfl | rfl; exact r01.1; exact r01.2, fun y => l119 (fun y2 => ?_), fun y => ?_⟩)
        · have := h2.mpr (bo_iff.mp y2.2)
          omega
        · have hm1 : hs C m 1 p := h2.mp (by omega)
          have nt := hs_rl hm1
          have hp0 : p < cn C 0 := by rwa [u0] at hpn
          have e9 : M22 13 9 p = pt C p := I2.1.1 p hp0
          have n1 := hW.n12 (t := 1) (by omega)
          rcases pt_rg hW p with y3 | ⟨b, y3, hb, _⟩
          · exact absurd y3 nt
          · rw [Int.toNat_natCast, e9, y3]
            refine ⟨by omega, by omega, fin _ _ rfl ?_⟩
            rw [show (12 + (b : Int)).toNat = 12 + b from by omega, C2 3 _ rfl, lbE, if_pos ⟨u0, bo_iff.mpr hm1⟩, y3, Int.toNat_natCast]
      refine ⟨⟨by omega, by omega⟩, fun c => ⟨by omega, B1.r _ _ _, fun c2 => take ?_, fun c2 => ?_⟩, fun c => ?_⟩
      · have i := I1.1.2 p (by omega)
        refine ⟨fun y => absurd y (by omega), fun _ => Or.inl (prd_iff.mpr ?_)⟩
        exact i.2.mp (by have := i.1; omega)
      · have i := I1.1.2 p (by omega)
        have np : ¬ (prd C p = true) := fun y => by
          have := i.2.mpr (prd_iff.mp y)
          omega
        refine sp_does (w := 2) (p := p) hW B1 I1.2.2.1 hm (by omega) (by omega) rfl rfl rfl (fun v h1 h2 => ⟨by rcases h1 with rfl | rfl; exact r01.1; exact r01.2, fun y => skip (fun y2 => ?_), fun y => take ?_⟩)
        · rcases y2.2 (by omega) with d | d
          · exact np d
          · have := h2.mpr d
            omega
        · exact ⟨fun y2 => absurd y2 (by omega), fun _ => Or.inr (h2.mp (by omega))⟩
      · refine sp_does (w := 0) (p := p) hW B1 I1.2.2.1 hm (by omega) (by omega) rfl rfl rfl (fun v h1 h2 => ⟨by rcases h1 with rfl | rfl; exact r01.1; exact r01.2, fun y => skip (fun y2 => ?_), fun y => take ?_⟩)
        · exact y2.1 (by omega) (h2.mp (by omega))
        · exact ⟨fun _ y2 => by have := h2.mpr y2; omega, fun y2 => absurd y2 (by omega)⟩
end GROWN
