/-! the class chooses the same mapping -/
section CMAP
variable {C : Nat → Nat → Int}
theorem sm_back (hW : WF C) {u v : Nat} (h : u ≤ v) (hv : v ≤ cn C 1) : sm (fn C 1 1) u v = sm (cil C) (cn C 1 - v) (cn C 1 - u) := by
  have a := RD_back (i := 0) (j := 0) hW (Nat.le_refl _) (Nat.zero_le _) h hv
  unfold RD at a
  rw [rr_nil (a := 0) (Nat.le_refl _), dd_rrr, rg_nil (i := cn C 0 - 0) (Nat.le_refl _), dd_sr _ _ _ _ (Nat.le_refl _)] at a
  exact a
theorem Okr.back (hW : WF C) {t i e : Nat} (ht : t < 2) (hi : i < cn C t) (hw : Whl C t i e) : Okr C t 1 (cn C t - e) (cn C t - i) := fun x h1 h2 => by
  have he := hw.1
  have a := rF_1 hW (t := t) (p := x) (b := 1) (by omega) (by decide)
  have b := hw.2 (pl C t 1 x) (by omega) (by omega)
  omega
theorem RD_to (hW : WF C) {i j k l : Nat} (h1 : i ≤ j) (hj : j ≤ cn C 0) (h2 : k ≤ l) (hl : l ≤ cn C 1) : RD C 1 (cn C 0 - j) (cn C 0 - i) (cn C 1 - l) (cn C 1 - k) = DD C i j k l := by
  rw [RD_back hW (by omega) (by omega) (by omega) (by omega), show cn C 0 - (cn C 0 - i) = i from by omega, show cn C 0 - (cn C 0 - j) = j from by omega, show cn C 1 - (cn C 1 - k) = k from by omega, show cn C 1 - (cn C 1 - l) = l from by omega]
  rfl
/-- a row's place, its interval and that of the other tree -/
def CtxP (C : Nat → Nat → Int) (M : Mem) (i e j l : Nat) : Prop := M 6 4 (cn C 0 - 1 - i) = ((cn C 0 - e : Nat) : Int) ∧ M 6 5 (cn C 0 - 1 - i) = ((cn C 1 - l : Nat) : Int) ∧ M 6 6 (cn C 0 - 1 - i) = ((cn C 1 - j : Nat) : Int)
theorem CtxP.fr {M M' : Mem} {i e j l : Nat} (h : CtxP C M i e j l) (hF : Fr P41 M M') : CtxP C M' i e j l := ⟨by rw [hF 6 4 _ rfl]; exact h.1, by rw [hF 6 5 _ rfl]; exact h.2.1, by rw [hF 6 6 _ rfl]; exact h.2.2⟩
/-- places that hold the tables and the rows -/
def RWI (C : Nat → Nat → Int) (M : Mem) : Prop := LayP C M 1 ∧ Bd M ∧ FT C 1 M
theorem sp_leastWith {M : Mem} {Q : Int → Mem → Prop} {i e j l b : Nat} {p0 p1 : Int} (hW : WF C) (hR : RWI C M) (hX : CtxP C M i e j l) (hi : i < e) (hw : Whl C 0 i e) (hv : Whl C 1 j l) (hb1 : j ≤ b) (hb2 : b < l) (e0 : p0 = ((cn C 0 - 1 - i : Nat) : Int)) (e1 : p1 = ((cn C 1 - 1 - b : Nat) : Int))
    (K : ∀ (M' : Mem) (v : Int), Fr P41 M M' → RWI C M' → 0 ≤ v → v ≤ 1000000 → (v = DD C i e j l ↔ fC C i e j l b = true) → Q v M') : wp_X4_leastWith M p0 p1 Q := by
  subst e0; subst e1
  have n0 := hW.n12 (t := 0) (by omega)
  have n1 := hW.n12 (t := 1) (by omega)
  have he := hw.1
  have hl := hv.1
  have z0 := hW.e (C := C) (t := 0) (p := i) (by omega)
  have z1 := hW.e (C := C) (t := 1) (p := b) (by omega)
  have w0 := hw.2 i (Nat.le_refl _) hi
  have w1 := hv.2 b hb1 hb2
  have p0 : pl C 0 1 (cn C 0 - 1 - i) = i := by
    have : pl C 0 1 (cn C 0 - 1 - i) = cn C 0 - 1 - (cn C 0 - 1 - i) := if_neg (by decide)
    omega
  have p1 : pl C 1 1 (cn C 1 - 1 - b) = b := by
    have : pl C 1 1 (cn C 1 - 1 - b) = cn C 1 - 1 - (cn C 1 - 1 - b) := if_neg (by decide)
    omega
  have f0 := (rF_1 hW (t := 0) (p := cn C 0 - 1 - i) (b := 1) (by omega) (by decide)).2
  have f1 := (rF_1 hW (t := 1) (p := cn C 1 - 1 - b) (b := 1) (by omega) (by decide)).2
  rw [p0] at f0
  rw [p1] at f1
  obtain ⟨L, B, T⟩ := hR
  have pp := hW.prr (p := i) (q := b) (by omega)
  have d5 := DD_bd (i := i) (j := e) (k := j) (l := l) hW he hl
  unfold wp_X4_leastWith wpe_X4_leastWith
  rw [show (((cn C 0 - 1 - i : Nat) : Int) * 12 + ((cn C 1 - 1 - b : Nat) : Int)).toNat = (cn C 0 - 1 - i) * 12 + (cn C 1 - 1 - b) from by omega, L.2.2 _ _ (by omega) (by omega), p0, p1]
  refine ⟨⟨by omega, by omega⟩, fun y2 e2 => ?_⟩
  subst e2
  refine ⟨⟨by omega, by omega⟩, fun h => ⟨⟨by omega, by omega⟩, fun y6 e6 => ⟨⟨by omega, by omega⟩, fun y8 e8 => ?_⟩⟩, fun h => ?_⟩
  · rw [Int.toNat_natCast, (L.1.2.1 _ (by omega)).2.1] at e6
    rw [Int.toNat_natCast, (L.2.1.2.1 _ (by omega)).2.1] at e8
    have r1 := RD_to hW (i := i + 1) (j := ce C 0 i) (k := b + 1) (l := ce C 1 b) (by omega) (by omega) (by omega) (by omega)
    have r2 := RD_to hW (i := ce C 0 i) (j := e) (k := ce C 1 b) (l := l) (by omega) (by omega) (by omega) (by omega)
    have d1 := DD_bd (i := i + 1) (j := ce C 0 i) (k := b + 1) (l := ce C 1 b) hW (by omega) (by omega)
    have d2 := DD_bd (i := ce C 0 i) (j := e) (k := ce C 1 b) (l := l) hW (by omega) (by omega)
    have s1 := sm_bd (cil C) (i := j) (j := b) (fun k _ h4 => hW.il (by omega))
    refine sp_least hW L B T (i := cn C 0 - ce C 0 i) (j := cn C 0 - (i + 1)) (k := cn C 1 - ce C 1 b) (l := cn C 1 - (b + 1)) (by omega) (by omega) (by omega) (by omega) rfl (by omega) (by omega) (by omega) (by omega) ?_ ?_ (fun M10 F10 B10 T10 => ?_)
    · by_cases c : i + 1 < cn C 0
      · exact Okr.back hW (by omega) c (Whl.inn (by omega))
      · intro x h1 h2
        omega
    · by_cases c : b + 1 < cn C 1
      · exact Okr.back hW (by omega) c (Whl.inn (by omega))
      · intro x h1 h2
        omega
    have L10 := L.fr41 F10
    have X10 := hX.fr F10
    rw [r1, Int.toNat_natCast, X10.1, X10.2.1]
    refine ⟨⟨by omega, by omega⟩, ⟨by omega, by omega⟩, ?_⟩
    refine sp_least hW L10 B10 T10 (i := cn C 0 - e) (j := cn C 0 - ce C 0 i) (k := cn C 1 - l) (l := cn C 1 - ce C 1 b) rfl (by omega) rfl (by omega) rfl (by omega) (by omega) (by omega) (by omega) ?_ ?_ (fun M14 F14 B14 T14 => ?_)
    · by_cases c : ce C 0 i < cn C 0
      · exact Okr.back hW (by omega) c (hw.tl (by omega))
      · intro x h1 h2
        omega
    · by_cases c : ce C 1 b < cn C 1
      · exact Okr.back hW (by omega) c (hv.tl (by omega))
      · intro x h1 h2
        omega
    have L14 := L10.fr41 F14
    have X14 := X10.fr F14
    rw [r2, X14.2.2]
    refine ⟨⟨by omega, by omega⟩, sp_allAlone (u := cn C 1 - b) (v := cn C 1 - j) (by omega) rfl (by omega) (by omega) ?_⟩
    rw [L14.2.1.2.2 _ (by omega), L14.2.1.2.2 _ (by omega)]
    have ap := sm_app (fn C 1 1) (i := 0) (j := cn C 1 - b) (k := cn C 1 - j) (Nat.zero_le _) (by omega)
    have sb := sm_back hW (u := cn C 1 - b) (v := cn C 1 - j) (by omega) (by omega)
    rw [show cn C 1 - (cn C 1 - j) = j from by omega, show cn C 1 - (cn C 1 - b) = b from by omega] at sb
    refine K M14 _ (F10.tr F14) ⟨L14, B14, T14⟩ (by omega) (by omega) ?_
    unfold fC
    rw [Bool.and_eq_true, decide_eq_true_eq, decide_eq_true_eq]
    omega
  · refine K M 1000000 Fr.rf ⟨L, B, T⟩ (by omega) (by omega) ?_
    unfold fC
    rw [Bool.and_eq_true, decide_eq_true_eq, decide_eq_true_eq]
    omega
theorem sp_firstPartner {M : Mem} {Q : Int → Mem → Prop} {i e j l : Nat} {p0 : Int} (hW : WF C) (hR : RWI C M) (hX : CtxP C M i e j l) (hi : i < e) (hw : Whl C 0 i e) (hv : Whl C 1 j l) (hjl : j ≤ l) (e0 : p0 = ((cn C 0 - 1 - i : Nat) : Int))
    (K : ∀ M' : Mem, Fr P41 M M' → RWI C M' → Q (if fpt C i e j l = -1 then -1 else (cn C 1 : Int) - 1 - fpt C i e j l) M') : wp_X4_firstPartner M p0 Q := by
  subst e0
  have n0 := hW.n12 (t := 0) (by omega)
  have n1 := hW.n12 (t := 1) (by omega)
  have he := hw.1
  have hl := hv.1
  have d5 := DD_bd (i := i) (j := e) (k := j) (l := l) hW he hl
  unfold wp_X4_firstPartner
  refine ⟨fun n x2 x3 M1 => ∃ b : Nat, x2 = DD C i e j l ∧ x3 = (cn C 1 : Int) - 1 - b ∧ j ≤ b ∧ b ≤ l ∧ n = 20 - b ∧ Fr P41 M M1 ∧ RWI C M1 ∧ ∀ c : Nat, j ≤ c → c < b → fC C i e j l c = false, ?_, ?_⟩
  · unfold wpe_X4_firstPartner
    rw [Int.toNat_natCast, hX.1, hX.2.1, hX.2.2]
    refine ⟨⟨by omega, by omega⟩, ⟨by omega, by omega⟩, ⟨by omega, by omega⟩, ?_⟩
    refine sp_least hW hR.1 hR.2.1 hR.2.2 (i := cn C 0 - e) (j := cn C 0 - i) (k := cn C 1 - l) (l := cn C 1 - j) rfl (by omega) rfl rfl rfl (by omega) (by omega) (by omega) (by omega) (Okr.back hW (by omega) (by omega) hw) ?_ (fun M5 F5 B5 T5 => ⟨⟨by omega, by omega⟩, fun y7 e7 => ⟨_, j, RD_to hW (by omega) he hjl hl, ?_, Nat.le_refl _, hjl, rfl, F5, ⟨hR.1.fr41 F5, B5, T5⟩, fun c h1 h2 => by omega⟩⟩)
    · by_cases c : j < cn C 1
      · exact Okr.back hW (by omega) c hv
      · intro x h1 h2
        omega
    · rw [e7, (hX.fr F5).2.2]
      omega
  · intro n x2 x3 M1 ⟨b, e2, e3, h1, h2, hn, hF, hR1, hN⟩
    subst e2; subst e3; subst hn
    have X1 := hX.fr hF
    unfold wph_X4_firstPartner_39
    rw [Int.toNat_natCast, X1.2.1]
    refine ⟨⟨by omega, by omega⟩, ⟨by omega, by omega⟩, ⟨by omega, by omega⟩, fun h => ?_, fun h => ?_⟩
    · have e : fpt C i e j l = -1 := by
        rcases fst1_cases (fC C i e j l) (l - j) j with ⟨g1, _⟩ | ⟨c, _, g2, g3, g4, _⟩
        · exact g1
        · rw [hN c g2 (by omega)] at g4
          cases g4
      rw [if_pos e] at K
      exact K M1 hF hR1
    · refine sp_leastWith hW hR1 X1 hi hw hv h1 (by omega) rfl (by omega) (fun M2 v F2 R2 v1 v2 hv3 => ⟨⟨by omega, by omega⟩, ⟨by omega, by omega⟩, fun h3 => ⟨20 - (b + 1), by omega, b + 1, rfl, by omega, by omega, by omega, rfl, hF.tr F2, R2, fun c g1 g2 => ?_⟩, fun h3 => ?_⟩)
      · by_cases e : c = b
        · subst e
          cases g : fC C i e j l c with
          | false => rfl
          | true => exact absurd (hv3.mpr g) h3
        · exact hN c g1 (by omega)
      · have hb := hv3.mp (Decidable.byContradiction h3)
        have e : fpt C i e j l = b := by
          rcases fst1_cases (fC C i e j l) (l - j) j with ⟨_, g1⟩ | ⟨c, g0, g2, g3, g4, g5⟩
          · rw [g1 b h1 (by omega)] at hb
            cases hb
          · have : c = b := by
              rcases Nat.lt_trichotomy c b with q | q | q
              · rw [hN c g2 q] at g4
                cases g4
              · exact q
              · rw [g5 b h1 q] at hb
                cases hb
            subst this
            exact g0
        have := K M2 (hF.tr F2) R2
        rw [if_neg (by omega), e] at this
        exact this
end CMAP
