/-! prices, and the distances -/
section DISTS
variable {C : Nat → Nat → Int} {a x y : Int}
theorem ag_setPrices {k p1 p2 p3 : Int} (hW : WF C) (h0 : inR k) (h1 : inR p1) (h2 : inR p2) (h3 : inR p3) : Agree nm0 2 (-2000000) 2000000 C (fun M Q XQ => wp_X10_setPrices M k p1 p2 p3 (fun M' => Q 0 M') XQ) (fun M Q => wp_X11_setPrices M k p1 p2 p3 (fun M' => Q 0 M')) := by
  have i0 : inR 0 := r01.1
  have i3 : inR 3 := ⟨by decide, by decide⟩
  have i4 : inR 4 := ⟨by decide, by decide⟩
  have i50 : inR 50 := ⟨by decide, by decide⟩
  have B42 : ∀ (M : Mem) (Q : Int → Mem → Prop) (y1 c : Int), Core C M → Bd M → inR y1 → (c = if y1 = 0 then 1 else 2) → (∀ M' : Mem, Fr Pm M M' → Bd M' → Core C M' → M' 13 23 0 = c → Q 0 M') → wpj_X11_setPrices_42 k p1 p2 p3 y1 M (fun M' => Q 0 M') := fun M Q y1 c hC hB hy e K => by
    unfold wpj_X11_setPrices_42 wpj_X11_setPrices_43
    refine sp_go c hB hy r01.1 r01.2 (by rw [e]; split <;> rfl) (fun M' F B e' => ?_)
    rw [if_neg (by rw [e]; split <;> decide)]
    exact ⟨r01.1, fun _ => K M' (Pg_m F) B (hC.g F) e', fun z => absurd rfl z⟩
  by_cases ck : 0 ≤ k ∧ k ≤ 3
  · obtain ⟨j, rfl⟩ : ∃ j : Nat, k = j := ⟨k.toNat, by omega⟩
    by_cases c1 : 0 ≤ p1 ∧ p1 ≤ 50
    · by_cases c2 : 0 ≤ p2 ∧ p2 ≤ 50
      · by_cases c3 : 0 ≤ p3 ∧ p3 ≤ 50
        · refine agree_c (updC (updC (updC C 6 (3 * j) p1) 6 (3 * j + 1) p2) 6 (3 * j + 2) p3) 0 (((hW.upd (Or.inr ⟨Or.inl rfl, c1⟩)).upd (Or.inr ⟨Or.inl rfl, c2⟩)).upd (Or.inr ⟨Or.inl rfl, c3⟩)) (fun M Q XQ hI hB h => ?_) (fun M Q hC hB h => ?_)
          · unfold wp_X10_setPrices wpe_X10_setPrices
            obtain ⟨hX, z9, z10, _⟩ := hI
            refine sp_needIndex h0 i4 (fun _ _ => sp_needAtMost h1 i50 (fun _ _ => sp_needAtMost h2 i50 (fun _ _ => sp_needAtMost h3 i50 (fun _ _ => ⟨by omega, fun M9 e9 => ⟨by omega, fun M11 e11 => ⟨by omega, fun M13 e13 => ?_⟩⟩⟩) (fun z => absurd c3 z)) (fun z => absurd c2 z)) (fun z => absurd c1 z)) (fun z => absurd (by omega) z)
            rw [Int.toNat_natCast] at e9 e11 e13
            have ne : ∀ o k i : Nat, ¬ (o = 1 ∧ k < 3) → M13 o k i = M o k i := fun o k i z => by
              rw [e13, mset_ne (by omega), e11, mset_ne (by omega), e9, mset_ne (by omega)]
            refine mut_K (P := fun M4 => Q 0 M4) ⟨fun u hu => ?_, fun u p hu hp => ?_, fun k w hk hw => ?_, ?_⟩ ?_ ?_ ?_ ?_ h
            · rw [ne _ _ _ (by omega), cn_upd (by omega), cn_upd (by omega), cn_upd (by omega)]
              exact hX.1 u hu
            · rw [cn_upd (by omega), cn_upd (by omega), cn_upd (by omega)] at hp
              have n1 : ∀ k i : Nat, M13 (11 + u) k i = M (11 + u) k i := fun k i => ne _ k i (by omega)
              simp only [n1]
              rw [cn_upd (by omega), cn_upd (by omega), cn_upd (by omega), ce_upd (by omega) (by omega), ce_upd (by omega) (by omega), ce_upd (by omega) (by omega), cL_upd (by omega), cL_upd (by omega), cL_upd (by omega), nd_upd (by omega), nd_upd (by omega), nd_upd (by omega), nd_upd (by omega), nd_upd (by omega), nd_upd (by omega), upd_ne (by omega), upd_ne (by omega), upd_ne (by omega), upd_ne (by omega), upd_ne (by omega), upd_ne (by omega)]
              exact hX.2.1 u p hu hp
            · have g := hX.2.2.1 k w hk hw
              have : w = 0 ∨ w = 1 ∨ w = 2 := by omega
              by_cases d : k = j
              · subst d
                rcases this with rfl | rfl | rfl
                · rw [e13, mset_ne (by omega), e11, mset_ne (by omega), e9, mset_eq]
                  unfold updC
                  rw [if_neg (by omega), if_neg (by omega), if_pos (by omega)]
                · rw [e13, mset_ne (by omega), e11, mset_eq]
                  unfold updC
                  rw [if_neg (by omega), if_pos (by omega)]
                · rw [e13, mset_eq]
                  unfold updC
                  rw [if_pos (by omega)]
              · rw [e13, mset_ne (by omega), e11, mset_ne (by omega), e9, mset_ne (by omega)]
                unfold updC
                rw [if_neg (by omega), if_neg (by omega), if_neg (by omega)]
                exact g
            · rw [ne _ _ _ (by omega), upd_ne (by omega), upd_ne (by omega), upd_ne (by omega)]
              exact hX.2.2.2
            · rw [e13, e11, e9]
              exact Pc_set (Pc_set (Pc_set Fr.rf (by omega)) (by omega)) (by omega)
            · rw [e13, e11, e9]
              exact ((hB.set (by omega) (by omega)).set (by omega) (by omega)).set (by omega) (by omega)
            · rw [ne _ _ _ (by omega)]
              exact z9
            · rw [ne _ _ _ (by omega)]
              exact z10
          · unfold wp_X11_setPrices wpe_X11_setPrices wpj_X11_setPrices_43
            refine sp_in1 i0 i3 ck (sp_in1 i0 i50 c1 ⟨r01.2, fun z => absurd z (by decide), fun _ => sp_in1 i0 i50 c2 ⟨r01.2, fun z => absurd z (by decide), fun _ => sp_in1 i0 i50 c3 ⟨r01.2, fun z => absurd z (by decide), fun _ => sp_go 0 hB r01.2 r01.2 r01.2 rfl (fun M' F B e => ⟨r01.2, fun z => absurd z (by decide), fun _ => ⟨by omega, fun M19 e19 => ⟨by omega, fun M21 e21 => ⟨by omega, fun M23 e23 => ?_⟩⟩⟩⟩)⟩⟩⟩)
            rw [show (3 * (j : Int)).toNat = 3 * j from by omega] at e19
            rw [show (3 * (j : Int) + 1).toNat = 3 * j + 1 from by omega] at e21
            rw [show (3 * (j : Int) + 2).toNat = 3 * j + 2 from by omega] at e23
            subst e19
            subst e21
            subst e23
            refine h _ (Pm_set (Pm_set (Pm_set (Pg_m F)))) (((B.set (by omega) (by omega)).set (by omega) (by omega)).set (by omega) (by omega)) (hC.g F).upd.upd.upd ?_
            rw [mset_ne (by omega), mset_ne (by omega), mset_ne (by omega)]
            exact e
        · refine agree_x 2 hW (by omega) (fun M Q XQ hI hB h => ?_) (fun M Q hC hB h => ?_)
          · unfold wp_X10_setPrices wpe_X10_setPrices
            exact sp_needIndex h0 i4 (fun _ _ => sp_needAtMost h1 i50 (fun _ _ => sp_needAtMost h2 i50 (fun _ _ => sp_needAtMost h3 i50 (fun z1 z2 => absurd ⟨z1, z2⟩ c3) (fun z => h M Fr.rf hB hI)) (fun z => absurd c2 z)) (fun z => absurd c1 z)) (fun z => absurd (by omega) z)
          · unfold wp_X11_setPrices wpe_X11_setPrices
            exact sp_in1 i0 i3 ck (sp_in1 i0 i50 c1 ⟨r01.2, fun z => absurd z (by decide), fun _ => sp_in1 i0 i50 c2 ⟨r01.2, fun z => absurd z (by decide), fun _ => sp_in0 h3 i0 i50 c3 ⟨r01.1, fun _ => B42 M Q 1 2 hC hB r01.2 rfl h, fun z => absurd rfl z⟩⟩⟩)
      · refine agree_x 2 hW (by omega) (fun M Q XQ hI hB h => ?_) (fun M Q hC hB h => ?_)
        · unfold wp_X10_setPrices wpe_X10_setPrices
          exact sp_needIndex h0 i4 (fun _ _ => sp_needAtMost h1 i50 (fun _ _ => sp_needAtMost h2 i50 (fun z1 z2 => absurd ⟨z1, z2⟩ c2) (fun z => h M Fr.rf hB hI)) (fun z => absurd c1 z)) (fun z => absurd (by omega) z)
        · unfold wp_X11_setPrices wpe_X11_setPrices
          exact sp_in1 i0 i3 ck (sp_in1 i0 i50 c1 ⟨r01.2, fun z => absurd z (by decide), fun _ => sp_in0 h2 i0 i50 c2 ⟨r01.1, fun _ => B42 M Q 1 2 hC hB r01.2 rfl h, fun z => absurd rfl z⟩⟩)
    · refine agree_x 2 hW (by omega) (fun M Q XQ hI hB h => ?_) (fun M Q hC hB h => ?_)
      · unfold wp_X10_setPrices wpe_X10_setPrices
        exact sp_needIndex h0 i4 (fun _ _ => sp_needAtMost h1 i50 (fun z1 z2 => absurd ⟨z1, z2⟩ c1) (fun z => h M Fr.rf hB hI)) (fun z => absurd (by omega) z)
      · unfold wp_X11_setPrices wpe_X11_setPrices
        exact sp_in1 i0 i3 ck (sp_in0 h1 i0 i50 c1 ⟨r01.1, fun _ => B42 M Q 1 2 hC hB r01.2 rfl h, fun z => absurd rfl z⟩)
  · refine agree_x 1 hW (by omega) (fun M Q XQ hI hB h => ?_) (fun M Q hC hB h => ?_)
    · unfold wp_X10_setPrices wpe_X10_setPrices
      exact sp_needIndex h0 i4 (fun z1 z2 => absurd (by omega) ck) (fun _ => h M Fr.rf hB hI)
    · unfold wp_X11_setPrices wpe_X11_setPrices wpj_X11_setPrices_43
      exact sp_in0 h0 i0 i3 ck (sp_in h1 i0 i50 ⟨inR_ite _, fun _ => B42 M Q 0 1 hC hB r01.1 rfl h, fun _ => sp_in h2 i0 i50 ⟨inR_ite _, fun _ => B42 M Q 0 1 hC hB r01.1 rfl h, fun _ => sp_in h3 i0 i50 ⟨inR_ite _, fun _ => B42 M Q 0 1 hC hB r01.1 rfl h, fun _ => sp_go 1 hB r01.1 r01.2 r01.2 rfl (fun M' F B e => ⟨r01.1, fun _ => h M' (Pg_m F) B (hC.g F) e, fun z => absurd rfl z⟩)⟩⟩⟩)
/-- the class works a distance out -/
def Pdd (o k : Nat) : Bool := o == 9 || o == 10 || o == 3 || (o == 2 && k == 3)
theorem Pdd_of {P : Nat → Nat → Bool} {M M' : Mem} (h : Fr P M M') (hp : ∀ o k : Nat, P o k = true → o = 9 ∨ o = 10 ∨ o = 3 ∨ o = 2 ∧ k = 3) : Fr Pdd M M' := h.mono (fun o k h1 => by
  rcases hp o k h1 with rfl | rfl | rfl | ⟨rfl, rfl⟩ <;> rfl)
theorem PL_of {o k : Nat} (h : PL o k = true) : o = 9 ∨ o = 10 ∨ o = 3 ∨ o = 2 ∧ k = 3 := by
  simp only [PL, Bool.or_eq_true, Bool.and_eq_true, beq_iff_eq] at h
  omega
theorem P3_of {o k : Nat} (h : P3 o k = true) : o = 9 ∨ o = 10 ∨ o = 3 ∨ o = 2 ∧ k = 3 := by
  simp only [P3, Bool.and_eq_true, beq_iff_eq] at h
  omega
theorem Pdd_c {M M' : Mem} (h : Fr Pdd M M') : Fr Pc M M' := Pc_of h (fun o k ho => by
  cases e : Pdd o k with
  | false => rfl
  | true =>
    simp only [Pdd, Bool.or_eq_true, Bool.and_eq_true, beq_iff_eq] at e
    omega)
theorem IK.dd {M M' : Mem} (hI : IK C M) (F : Fr Pdd M M') (z : M' 9 4 0 = 0 ∧ M' 10 4 0 = 0) : IK C M' := hI.fr F (kt_all (fun k => ⟨rfl, rfl, rfl⟩)) rfl (fun _ => rfl) (fun k hk => by rcases hk with rfl | rfl | rfl | rfl <;> rfl) (fun _ => rfl) z
theorem LayQ.eq {pr : Nat → Nat → Int} {M M' : Mem} (h : LayQ C pr M) (F : Fr P3 M M') : LayQ C pr M' := by
  unfold LayQ RowP at h ⊢
  simp only [F 9 _ _ rfl, F 10 _ _ rfl, F 2 _ _ rfl]
  exact h
def pln (C : Nat → Nat → Int) (p q : Nat) : Int := cpr C (pl C 0 0 p) (pl C 1 0 q)
theorem sp_laysolve {M : Mem} {Q : Mem → Prop} (hW : WF C) (hI : IK C M) (hB : Bd M) (K : ∀ M' : Mem, Fr Pdd M M' → Bd M' → IK C M' → LayQ C (pln C) M' → OT C (pln C) M' (fun _ _ => True) → Q M') : wp_X3_layPostorder M (fun M2 => wp_X2_solve M2 (fun M4 => Q M4)) := by
  unfold wp_X3_layPostorder wpe_X3_layPostorder
  refine sp_lay (b := 0) hW hI.1 hB (by omega) rfl hI.2.1 hI.2.2.1 (fun M1 F1 B1 L1 => ?_)
  have LQ : LayQ C (pln C) M1 := L1
  refine sp_solve hW (QBd_plain hW) LQ B1 (fun M2 F2 B2 T2 => ?_)
  have F : Fr Pdd M M2 := (Pdd_of F1 (fun _ _ => PL_of)).tr (Pdd_of F2 (fun _ _ => P3_of))
  have LQ2 := LQ.eq F2
  exact K M2 F B2 (hI.dd F LQ2.z) LQ2 T2
theorem sp_distK {M : Mem} {Q : Int → Mem → Prop} (hW : WF C) (hI : IK C M) (hB : Bd M) (K : ∀ M' : Mem, Fr Pdd M M' → Bd M' → IK C M' → LayQ C (pln C) M' → Q (DI C) M') : wp_X10_distance M Q := by
  unfold wp_X10_distance wpe_X10_distance
  refine sp_laysolve (Q := fun M4 => wp_X2_whole M4 (fun y5 M6 => Q y5 M6)) hW hI hB (fun M' F B I L T => sp_wholeD hW L T ?_)
  rw [show RQ C (pln C) 0 (cn C 0) 0 (cn C 1) = DI C from RQ_dist hW]
  exact K M' F B I L
theorem P48_m {M M' : Mem} (h : Fr P48 M M') : Fr Pm M M' := h.mono (fun o k h1 => by
  simp only [P48, Bool.and_eq_true] at h1
  exact h1.1)
theorem Core.f {M M' : Mem} (h : Core C M) (F : Fr P48 M M') : Core C M' := h.fr F rfl rfl rfl rfl rfl rfl rfl
theorem rm1 : inR (-1) := ⟨by decide, by decide⟩
/-- the reference clears what it threw -/
theorem thr0 {M : Mem} {P : Mem → Prop} (hC : Core C M) (hB : Bd M) (K : ∀ M1 : Mem, Fr Pg M M1 → Bd M1 → Core C M1 → M1 13 23 0 = 0 → P M1) : ∀ M1 : Mem, M1 = mset M 13 23 0 0 → P M1 := by
  intro M1 e
  subst e
  have F : Fr Pg M (mset M 13 23 0 0) := Fr.rf.set rfl
  exact K _ F (hB.set (by omega) (by omega)) (hC.g F) mset_eq
theorem sp_fillD {M : Mem} {Q : Int → Mem → Prop} (hW : WF C) (hC : Core C M) (hB : Bd M) (K : ∀ M' : Mem, Fr P48 M M' → Bd M' → Sz C M' → TbD C M' → Q (DI C) M') : wp_X11_fills M (-1) (-1) Q := by
  refine sp_fills hW hC hB rm1 rm1 (fun M' F B S T => ?_)
  rw [df_m1 hW (Nat.le_refl _) (Nat.le_refl _)]
  exact K M' F B S (TbF.toD hW T)
theorem m_distance {M : Mem} {Q : Int → Mem → Prop} (hW : WF C) (hC : Core C M) (hB : Bd M) (h : ∀ M' : Mem, Fr Pm M M' → Bd M' → Core C M' → M' 13 23 0 = 0 → Q (DI C) M') : wp_X11_distance M Q := by
  unfold wp_X11_distance wpe_X11_distance
  exact thr0 hC hB (fun M1 F1 B1 C1 e1 => sp_fillD hW C1 B1 (fun M' F B _ _ => h M' ((Pg_m F1).tr (P48_m F)) B (C1.f F) ((F 13 23 0 rfl).trans e1)))
theorem ag_distance (hW : WF C) : Agree nm0 0 (-2000000) 2000000 C (fun M Q _ => wp_X10_distance M Q) (fun M Q => wp_X11_distance M Q) :=
  have db := DI_bd hW
  agree_q (DI C) hW (fun M Q _ hI hB h => sp_distK hW hI hB (fun M' F B I _ => h M' (Pdd_c F) B I)) (fun _ _ hC hB h => m_distance hW hC hB h)
theorem ag_distanceByForests (hW : WF C) : Agree nm0 0 (-2000000) 2000000 C (fun M Q _ => wp_X10_distanceByForests M Q) (fun M Q => wp_X11_distanceByForests M Q) := by
  have db := DI_bd hW
  refine agree_q (DI C) hW (fun M Q _ hI hB h => ?_) (fun M Q hC hB h => ?_)
  · unfold wp_X10_distanceByForests wpe_X10_distanceByForests wp_X3_layPostorder wpe_X3_layPostorder
    refine sp_lay (b := 0) hW hI.1 hB (by omega) rfl hI.2.1 hI.2.2.1 (fun M1 F1 B1 L1 => sp_forget (b := 0) hW B1 (fun M2 F2 B2 T2 => ?_))
    have L2 : LayP C M2 0 := by
      unfold LayP RowP at L1 ⊢
      simp only [F2 9 _ _ rfl, F2 10 _ _ rfl, F2 2 _ _ rfl]
      exact L1
    rw [L2.1.1, L2.2.1.1]
    refine sp_least (i := 0) (k := 0) hW L2 B2 T2 rfl rfl rfl rfl rfl (Nat.zero_le _) (Nat.le_refl _) (Nat.zero_le _) (Nat.le_refl _) (fun _ _ _ => Nat.zero_le _) (fun _ _ _ => Nat.zero_le _) (fun M3 F3 B3 T3 => ?_)
    rw [show RD C 0 0 (cn C 0) 0 (cn C 1) = DI C from RQ_dist hW]
    have P41c : ∀ {M M' : Mem}, Fr P41 M M' → Fr Pc M M' := fun h => Pc_of h (fun o k ho => by
      cases e : P41 o k with
      | false => rfl
      | true =>
        simp only [P41, Bool.and_eq_true, beq_iff_eq] at e
        omega)
    have Ia : IK C M1 := hI.dd (Pdd_of F1 (fun _ _ => PL_of)) L1.z
    have Ib : IK C M2 := Ia.fr F2 (kt_all (fun k => ⟨rfl, rfl, rfl⟩)) rfl (fun _ => rfl) (fun _ _ => rfl) (fun _ => rfl) L2.z
    have Ic : IK C M3 := Ib.fr F3 (kt_all (fun k => ⟨rfl, rfl, rfl⟩)) rfl (fun _ => rfl) (fun _ _ => rfl) (fun _ => rfl) ⟨(F3 9 4 0 rfl).trans L2.z.1, (F3 10 4 0 rfl).trans L2.z.2⟩
    exact h M3 (((Pc_of F1 PL13).tr (P41c F2)).tr (P41c F3)) B3 Ic
  · unfold wp_X11_distanceByForests wpe_X11_distanceByForests
    exact m_distance hW hC hB h
theorem TDV_bd (hW : WF C) : 0 ≤ TDV C ∧ TDV C ≤ 1200 := by
  have n0 := hW.n12 (t := 0) (by omega)
  have n1 := hW.n12 (t := 1) (by omega)
  have sb0 := sm_bd (cdl C) (i := 0) (j := cn C 0) (fun k _ h => hW.dl h)
  have sb1 := sm_bd (cil C) (i := 0) (j := cn C 1) (fun k _ h => hW.il h)
  unfold TDV
  split
  · omega
  · have tn := tdc_nn hW (a := 0) (b := 0) (by omega) (by omega)
    omega
theorem ag_topDownDistance (hW : WF C) : Agree nm0 0 (-2000000) 2000000 C (fun M Q _ => wp_X10_topDownDistance M Q) (fun M Q => wp_X11_topDownDistance M Q) := by
  have db := TDV_bd hW
  refine agree_q (TDV C) hW (fun M Q _ hI hB h => ?_) (fun M Q hC hB h => ?_)
  · unfold wp_X10_topDownDistance wpe_X10_topDownDistance wp_X3_layPostorder wpe_X3_layPostorder
    refine sp_lay (b := 0) hW hI.1 hB (by omega) rfl hI.2.1 hI.2.2.1 (fun M1 F1 B1 L1 => sp_solveT hW L1 B1 (fun M2 F2 B2 => ?_))
    have Ia : IK C M1 := hI.dd (Pdd_of F1 (fun _ _ => PL_of)) L1.z
    have Ib : IK C M2 := Ia.fr F2 (kt_all (fun k => ⟨rfl, rfl, rfl⟩)) rfl (fun _ => rfl) (fun _ _ => rfl) (fun _ => rfl) ⟨(F2 9 4 0 rfl).trans L1.z.1, (F2 10 4 0 rfl).trans L1.z.2⟩
    refine h M2 ((Pc_of F1 PL13).tr (Pc_of F2 (fun o k ho => ?_))) B2 Ib
    cases e : P5 o k with
    | false => rfl
    | true =>
      simp only [P5, beq_iff_eq] at e
      omega
  · refine sp_topDownM hW hC hB (fun M' F B e => h M' (F.mono (fun o k h1 => ?_)) B (hC.fr F rfl rfl rfl rfl rfl rfl rfl) e)
    simp only [PTp, Bool.and_eq_true] at h1
    exact h1.1
end DISTS
