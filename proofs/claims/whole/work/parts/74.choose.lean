section CHOOSE
variable {C : Nat → Nat → Int}
def P6 (o k : Nat) : Bool := o == 6
set_option maxHeartbeats 4000000 in
theorem sp_pairC {M : Mem} {Q : Mem → Prop} {p q fr a b : Nat} {p0 p1 : Int} (hW : WF C) (hL : LayP C M 1) (hB : Bd M) (e0 : p0 = p) (e1 : p1 = q) (hp : p < cn C 0) (hq : q < cn C 1) (ha : pl C 0 1 p = a) (hb : pl C 1 1 q = b) (hf : M 6 4 p = (fr : Int)) (hfr : fr ≤ rF C 0 1 p) (hc : 0 ≤ M 6 7 0 ∧ M 6 7 0 ≤ 1000)
    (K : ∀ M' : Mem, Fr P6 M M' → Bd M' → (∀ c : Nat, M' 6 2 c = if c = nd C 0 a then (nd C 1 b : Int) else M 6 2 c) → (∀ c : Nat, M' 6 3 c = if c = nd C 1 b then (nd C 0 a : Int) else M 6 3 c) → M' 6 7 0 = M 6 7 0 + 1 → (∀ c : Nat, M' 6 4 c = if rF C 0 1 p ≤ c ∧ c < p then (rF C 0 1 p : Int) else M 6 4 c) → (∀ c : Nat, M' 6 5 c = if rF C 0 1 p ≤ c ∧ c < p then (rF C 1 1 q : Int) else M 6 5 c) → (∀ c : Nat, M' 6 6 c = if rF C 0 1 p ≤ c ∧ c < p then (q : Int) else if fr ≤ c ∧ c < rF C 0 1 p then (rF C 1 1 q : Int) else M 6 6 c) → Q M') : wp_X4_pair M p0 p1 Q := by
  subst e0; subst e1
  have n0 := hW.n12 (t := 0) (by omega)
  have n1 := hW.n12 (t := 1) (by omega)
  have la := pl_lt (b := 1) hW (t := 0) (by omega) hp
  have lb := pl_lt (b := 1) hW (t := 1) (by omega) hq
  rw [ha] at la
  rw [hb] at lb
  have na := hW.ndl (t := 0) (by omega) la
  have nb := hW.ndl (t := 1) (by omega) lb
  have s0 := (rF_sz (b := 1) hW (t := 0) (by omega) hp).1
  have s1 := (rF_sz (b := 1) hW (t := 1) (by omega) hq).1
  have r0 := hL.1.2.1 p hp
  have r1 := hL.2.1.2.1 q hq
  rw [ha] at r0
  rw [hb] at r1
  unfold wp_X4_pair
  refine ⟨fun n x3 x4 x5 M1 => ∃ c : Nat, x3 = (rF C 0 1 p : Int) ∧ x4 = (rF C 1 1 q : Int) ∧ x5 = c ∧ fr ≤ c ∧ c ≤ rF C 0 1 p ∧ n = 1000 + (20 - c) ∧ Fr P6 M M1 ∧ Bd M1 ∧ ((∀ c : Nat, M1 6 2 c = if c = nd C 0 a then (nd C 1 b : Int) else M 6 2 c) ∧ (∀ c : Nat, M1 6 3 c = if c = nd C 1 b then (nd C 0 a : Int) else M 6 3 c) ∧ M1 6 7 0 = M 6 7 0 + 1) ∧ (∀ z : Nat, M1 6 4 z = M 6 4 z) ∧ (∀ z : Nat, M1 6 5 z = M 6 5 z) ∧ (∀ z : Nat, M1 6 6 z = if fr ≤ z ∧ z < c then (rF C 1 1 q : Int) else M 6 6 z),
    fun n x3 x4 x5 M1 => ∃ c : Nat, x3 = (rF C 0 1 p : Int) ∧ x4 = (rF C 1 1 q : Int) ∧ x5 = c ∧ rF C 0 1 p ≤ c ∧ c ≤ p ∧ n = 20 - c ∧ Fr P6 M M1 ∧ Bd M1 ∧ ((∀ c : Nat, M1 6 2 c = if c = nd C 0 a then (nd C 1 b : Int) else M 6 2 c) ∧ (∀ c : Nat, M1 6 3 c = if c = nd C 1 b then (nd C 0 a : Int) else M 6 3 c) ∧ M1 6 7 0 = M 6 7 0 + 1) ∧ (∀ z : Nat, M1 6 4 z = if rF C 0 1 p ≤ z ∧ z < c then (rF C 0 1 p : Int) else M 6 4 z) ∧ (∀ z : Nat, M1 6 5 z = if rF C 0 1 p ≤ z ∧ z < c then (rF C 1 1 q : Int) else M 6 5 z) ∧ (∀ z : Nat, M1 6 6 z = if rF C 0 1 p ≤ z ∧ z < c then (q : Int) else if fr ≤ z ∧ z < rF C 0 1 p then (rF C 1 1 q : Int) else M 6 6 z), ?_, ?_, ?_⟩
  · unfold wpe_X4_pair
    rw [Int.toNat_natCast, Int.toNat_natCast, r0.1, r1.1, r0.2.1, r1.2.1]
    refine ⟨⟨by omega, by omega⟩, fun y2 e2 => ⟨⟨by omega, by omega⟩, fun y4 e4 => ⟨⟨by omega, by omega⟩, ⟨by omega, by omega⟩, ⟨by omega, by omega⟩, fun M7 e7 => ⟨⟨by omega, by omega⟩, ⟨by omega, by omega⟩, ?_⟩⟩⟩⟩
    rw [Int.toNat_natCast] at e7
    have a7 : M7 10 0 q = (nd C 1 b : Int) := by rw [e7, mset_ne (by omega)]; exact r1.1
    have b7 : M7 9 0 p = (nd C 0 a : Int) := by rw [e7, mset_ne (by omega)]; exact r0.1
    rw [a7, b7, Int.toNat_natCast]
    refine ⟨⟨by omega, by omega⟩, fun M11 e11 M13 e13 => ⟨⟨by omega, by omega⟩, fun y15 e15 => ?_⟩⟩
    have c11 : M11 6 7 0 = M 6 7 0 := by rw [e11, mset_ne (by omega), e7, mset_ne (by omega)]
    rw [c11] at e13
    refine ⟨_, fr, e2, e4, ?_, Nat.le_refl _, hfr, rfl, ?_, ?_, ⟨fun c => ?_, fun c => ?_, ?_⟩, fun z => ?_, fun z => ?_, fun z => ?_⟩
    · rw [e15, e13, mset_ne (by omega), e11, mset_ne (by omega), e7, mset_ne (by omega)]
      exact hf
    · rw [e13, e11, e7]
      exact ((Fr.rf.set rfl).set rfl).set rfl
    · rw [e13, e11, e7]
      exact ((hB.set (by omega) (by omega)).set (by omega) (by omega)).set (by omega) (by omega)
    · rw [e13, mset_ne (by omega), e11, mset_ne (by omega), e7, mset_i]
    · rw [e13, mset_ne (by omega), e11, mset_i, e7, mset_ne (by omega)]
    · rw [e13, mset_eq]
    · rw [e13, mset_ne (by omega), e11, mset_ne (by omega), e7, mset_ne (by omega)]
    · rw [e13, mset_ne (by omega), e11, mset_ne (by omega), e7, mset_ne (by omega)]
    · rw [e13, mset_ne (by omega), e11, mset_ne (by omega), e7, mset_ne (by omega), if_neg (by omega)]
  · intro n x3 x4 x5 M1 ⟨c, e3, e4, e5, h1, h2, hn, hF, hB1, hD, g4, g5, g6⟩
    subst e3; subst e4; subst e5; subst hn
    unfold wph_X4_pair_103
    refine ⟨⟨by omega, by omega⟩, ⟨by omega, by omega⟩, fun h => ⟨20 - rF C 0 1 p, by omega, rF C 0 1 p, rfl, rfl, rfl, Nat.le_refl _, s0, rfl, hF, hB1, hD, fun z => ?_, fun z => ?_, fun z => ?_⟩, fun h => ⟨⟨by omega, by omega⟩, fun M19 e19 => ?_⟩⟩
    · rw [g4, if_neg (by omega)]
    · rw [g5, if_neg (by omega)]
    · rw [g6, if_neg (c := rF C 0 1 p ≤ z ∧ z < rF C 0 1 p) (by omega), show c = rF C 0 1 p from by omega]
    · rw [Int.toNat_natCast] at e19
      subst e19
      refine ⟨1000 + (20 - (c + 1)), by omega, c + 1, rfl, rfl, by omega, by omega, by omega, rfl, hF.set rfl, hB1.set (by omega) (by omega), ⟨fun z => by rw [mset_ne (by omega)]; exact hD.1 z, fun z => by rw [mset_ne (by omega)]; exact hD.2.1 z, by rw [mset_ne (by omega)]; exact hD.2.2⟩, fun z => by rw [mset_ne (by omega)]; exact g4 z, fun z => by rw [mset_ne (by omega)]; exact g5 z, fun z => ?_⟩
      rw [mset_i, g6]
      by_cases d : z = c
      · rw [if_pos d, if_pos (by omega)]
      · rw [if_neg d]
        by_cases e : fr ≤ z ∧ z < c
        · rw [if_pos e, if_pos (by omega)]
        · rw [if_neg e, if_neg (by omega)]
  · intro n x3 x4 x5 M1 ⟨c, e3, e4, e5, h1, h2, hn, hF, hB1, hD, g4, g5, g6⟩
    subst e3; subst e4; subst e5; subst hn
    unfold wph_X4_pair_127
    refine ⟨⟨by omega, by omega⟩, ⟨by omega, by omega⟩, fun h => ?_, fun h => ⟨⟨by omega, by omega⟩, fun M24 e24 => ⟨⟨by omega, by omega⟩, fun M26 e26 => ⟨⟨by omega, by omega⟩, fun M28 e28 => ?_⟩⟩⟩⟩
    · have e : c = p := by omega
      subst e
      exact K M1 hF hB1 hD.1 hD.2.1 hD.2.2 g4 g5 g6
    · rw [Int.toNat_natCast] at e24 e26 e28
      refine ⟨20 - (c + 1), by omega, c + 1, rfl, rfl, by omega, by omega, by omega, rfl, ?_, ?_, ⟨fun z => ?_, fun z => ?_, ?_⟩, fun z => ?_, fun z => ?_, fun z => ?_⟩
      · rw [e28, e26, e24]
        exact ((hF.set rfl).set rfl).set rfl
      · rw [e28, e26, e24]
        exact ((hB1.set (by omega) (by omega)).set (by omega) (by omega)).set (by omega) (by omega)
      · rw [e28, mset_ne (by omega), e26, mset_ne (by omega), e24, mset_ne (by omega)]
        exact hD.1 z
      · rw [e28, mset_ne (by omega), e26, mset_ne (by omega), e24, mset_ne (by omega)]
        exact hD.2.1 z
      · rw [e28, mset_ne (by omega), e26, mset_ne (by omega), e24, mset_ne (by omega)]
        exact hD.2.2
      · rw [e28, mset_ne (by omega), e26, mset_ne (by omega), e24, mset_i, g4]
        by_cases d : z = c
        · rw [if_pos d, if_pos (by omega)]
        · rw [if_neg d]
          by_cases e : rF C 0 1 p ≤ z ∧ z < c
          · rw [if_pos e, if_pos (by omega)]
          · rw [if_neg e, if_neg (by omega)]
      · rw [e28, mset_ne (by omega), e26, mset_i, e24, mset_ne (by omega), g5]
        by_cases d : z = c
        · rw [if_pos d, if_pos (by omega)]
        · rw [if_neg d]
          by_cases e : rF C 0 1 p ≤ z ∧ z < c
          · rw [if_pos e, if_pos (by omega)]
          · rw [if_neg e, if_neg (by omega)]
      · rw [e28, mset_i, e26, mset_ne (by omega), e24, mset_ne (by omega), g6]
        by_cases d : z = c
        · rw [if_pos d, if_pos (by omega)]
        · rw [if_neg d]
          by_cases e : rF C 0 1 p ≤ z ∧ z < c
          · rw [if_pos e, if_pos (by omega)]
          · rw [if_neg e, if_neg (c := rF C 0 1 p ≤ z ∧ z < c + 1) (by omega)]
/-- the partner's node -/
def PN (C : Nat → Nat → Int) (y : Nat) : Int := if pt C y = -1 then -1 else (nd C 1 (pt C y).toNat : Int)
def cntp (C : Nat → Nat → Int) (x : Nat) : Int := sm (fun y => if pt C y = -1 then 0 else 1) 0 x
def MP (C : Nat → Nat → Int) (M : Mem) (x : Nat) : Prop := (∀ y : Nat, y < cn C 0 → M 6 2 (nd C 0 y) = if y < x then PN C y else -1) ∧ (∀ b : Nat, b < cn C 1 → (M 6 3 (nd C 1 b) ≠ -1 ↔ ∃ y : Nat, y < x ∧ pt C y = b)) ∧ M 6 7 0 = cntp C x
/-- what is still open lies in intervals, group by group -/
def CI (C : Nat → Nat → Int) (M : Mem) (x : Nat) : Prop := ∃ E J L : Nat → Nat, ∀ y : Nat, x ≤ y → y < cn C 0 → CtxP C M y (E y) (J y) (L y) ∧ y < E y ∧ J y ≤ L y ∧ Whl C 0 y (E y) ∧ Whl C 1 (J y) (L y) ∧ (∀ z : Nat, y ≤ z → z < E y → E z = E y ∧ J z = J y ∧ L z = L y) ∧ ((y = x ∨ E (y - 1) = y) → ∀ z : Nat, y ≤ z → z < E y → pt C z = ch C y (E y) (J y) (L y) z)
def PCM (o k : Nat) : Bool := o == 6 || (o == 4 && k == 1)
theorem cntp_bd (C : Nat → Nat → Int) (x : Nat) : 0 ≤ cntp C x ∧ cntp C x ≤ 50 * x := by
  have a := sm_bd (fun y => if pt C y = -1 then 0 else 1) (i := 0) (j := x) (fun k _ _ => by
    split <;> omega)
  unfold cntp
  omega
set_option maxHeartbeats 8000000 in
theorem sp_choose {M : Mem} {Q : Mem → Prop} (hW : WF C) (hR : RWI C M) (K : ∀ M' : Mem, Fr PCM M M' → Bd M' → MP C M' (cn C 0) → Q M') : wp_X4_choose M Q := by
  have n0 := hW.n12 (t := 0) (by omega)
  have n1 := hW.n12 (t := 1) (by omega)
  unfold wp_X4_choose
  refine ⟨fun n x1 M1 => ∃ x : Nat, x1 = (cn C 0 : Int) - 1 - x ∧ x ≤ cn C 0 ∧ n = 20 - x ∧ Fr PCM M M1 ∧ RWI C M1 ∧ MP C M1 x ∧ CI C M1 x, ?_, ?_⟩
  · unfold wpe_X4_choose
    refine sp_fill (by omega) (fun M2 a2 b2 c2 => sp_fill (by omega) (fun M4 a4 b4 c4 => sp_fill (by omega) (fun M6 a6 b6 c6 => sp_fill (by omega) (fun M8 a8 b8 c8 => ?_))))
    have B2 := hR.2.1.fill (by omega) (by omega) a2 b2 c2
    have B4 := B2.fill (by omega) (by omega) a4 b4 c4
    have B6 := B4.fill (by omega) (by omega) a6 b6 c6
    have B8 := B6.fill (by omega) (by omega) a8 b8 c8
    have v8 : M8 10 5 0 = (cn C 1 : Int) := by
      rw [b8 10 5 0 (by omega), b6 10 5 0 (by omega), b4 10 5 0 (by omega), b2 10 5 0 (by omega)]
      exact hR.1.2.1.1
    rw [v8]
    refine sp_fill (by omega) (fun M10 a10 b10 c10 M11 e11 y12 e12 => ?_)
    have B10 := B8.fill (by omega) (by omega) a10 b10 c10
    have oth : ∀ o k i : Nat, o ≠ 6 → M11 o k i = M o k i := fun o k i ho => by
      rw [e11, mset_ne (by omega), b10 o k i (by omega), b8 o k i (by omega), b6 o k i (by omega), b4 o k i (by omega), b2 o k i (by omega)]
    have F11 : Fr P6 M M11 := fun o k i h => oth o k i (by simpa [P6] using h)
    have f2 : ∀ i : Nat, i < 12 → M11 6 2 i = -1 := fun i hi => by
      rw [e11, mset_ne (by omega), b10 6 2 i (by omega), b8 6 2 i (by omega), b6 6 2 i (by omega), b4 6 2 i (by omega)]
      exact a2 i hi
    have f3 : ∀ i : Nat, i < 12 → M11 6 3 i = -1 := fun i hi => by
      rw [e11, mset_ne (by omega), b10 6 3 i (by omega), b8 6 3 i (by omega), b6 6 3 i (by omega)]
      exact a4 i hi
    have f4 : ∀ i : Nat, i < 12 → M11 6 4 i = 0 := fun i hi => by
      rw [e11, mset_ne (by omega), b10 6 4 i (by omega), b8 6 4 i (by omega)]
      exact a6 i hi
    have f5 : ∀ i : Nat, i < 12 → M11 6 5 i = 0 := fun i hi => by
      rw [e11, mset_ne (by omega), b10 6 5 i (by omega)]
      exact a8 i hi
    have f6 : ∀ i : Nat, i < 12 → M11 6 6 i = (cn C 1 : Int) := fun i hi => by
      rw [e11, mset_ne (by omega)]
      exact a10 i hi
    refine ⟨_, 0, ?_, Nat.zero_le _, rfl, F11.mono (fun o k h => ?_), ⟨hR.1.fr F11 (fun _ => rfl) (fun _ => rfl) rfl, ?_, fun i j k l h1 h2 h3 h4 => ?_⟩, ⟨fun y hy => ?_, fun b hb => ?_, ?_⟩, ⟨fun _ => cn C 0, fun _ => 0, fun _ => cn C 1, fun y h1 h2 => ⟨⟨?_, ?_, ?_⟩, h2, Nat.zero_le _, Whl.all.tl (Nat.zero_le _), Whl.all, fun z _ _ => ⟨rfl, rfl, rfl⟩, fun hy z h3 h4 => ?_⟩⟩⟩
    · rw [e12, oth 9 5 0 (by omega), hR.1.1.1]
      omega
    · simp only [P6, beq_iff_eq] at h
      simp only [PCM, Bool.or_eq_true, beq_iff_eq]
      exact Or.inl h
    · rw [e11]
      exact B10.set (by omega) (by omega)
    · rw [oth 4 1 _ (by omega)]
      exact hR.2.2 i j k l h1 h2 h3 h4
    · have := hW.ndl (t := 0) (by omega) hy
      rw [f2 _ (by omega), if_neg (Nat.not_lt_zero _)]
    · have := hW.ndl (t := 1) (by omega) hb
      rw [f3 _ (by omega)]
      exact ⟨fun h => absurd rfl h, fun ⟨y, hy, _⟩ => absurd hy (Nat.not_lt_zero _)⟩
    · rw [e11, mset_eq]
      unfold cntp
      rw [sm_self _ (Nat.le_refl _)]
    · rw [f4 _ (by omega)]
      dsimp only
      omega
    · rw [f5 _ (by omega)]
      dsimp only
      omega
    · rw [f6 _ (by omega)]
      dsimp only
      omega
    · have e : y = 0 := by
        rcases hy with hy | hy
        · exact hy
        · dsimp only at hy
          omega
      subst e
      rfl
  · intro n x1 M1 ⟨x, e1, hx, hn, hF, hR1, hM, hI⟩
    subst e1; subst hn
    unfold wph_X4_choose_67
    refine ⟨⟨by omega, by omega⟩, fun h => K M1 hF hR1.2.1 ((show x = cn C 0 from by omega) ▸ hM), fun h => ?_⟩
    have hx' : x < cn C 0 := by omega
    obtain ⟨E, J, L, hE⟩ := hI
    obtain ⟨c1, c2, c3, c4, c5, c6, c7⟩ := hE x (Nat.le_refl _) hx'
    have c7 := c7 (Or.inl rfl)
    have he := c4.1
    have hl := c5.1
    have z0 := hW.e (C := C) (t := 0) hx'
    have w0 := c4.2 x (Nat.le_refl _) c2
    have hpx : pt C x = ch C x (E x) (J x) (L x) x := c7 x (Nat.le_refl _) c2
    refine sp_firstPartner hW hR1 c1 c2 c4 c5 c3 (by omega) (fun M2 F2 R2 => ?_)
    have E2 : ∀ y : Nat, x ≤ y → y < cn C 0 → CtxP C M2 y (E y) (J y) (L y) := fun y h1 h2 => (hE y h1 h2).1.fr F2
    have F2' : Fr PCM M1 M2 := F2.mono (fun o k h => by
      simp only [P41, Bool.and_eq_true, beq_iff_eq] at h
      simp only [PCM, Bool.or_eq_true, Bool.and_eq_true, beq_iff_eq]
      exact Or.inr h)
    have m62 : ∀ i : Nat, M2 6 2 i = M1 6 2 i := fun i => F2 6 2 i rfl
    have m63 : ∀ i : Nat, M2 6 3 i = M1 6 3 i := fun i => F2 6 3 i rfl
    have m67 : M2 6 7 0 = M1 6 7 0 := F2 6 7 0 rfl
    rcases fpt_rg C x (E x) (J x) (L x) with r | ⟨b, r, b1, b2, b3⟩
    · have hp : pt C x = -1 := by rw [hpx, ch_no hW c4 c2 r, if_pos rfl]
      rw [if_pos r]
      refine ⟨⟨by decide, by decide⟩, fun _ => ?_, fun h2 => absurd rfl h2⟩
      unfold wpj_X4_choose_88
      refine ⟨20 - (x + 1), by omega, x + 1, by omega, by omega, rfl, hF.tr F2', R2, ⟨fun y hy => ?_, fun b hb => ?_, ?_⟩, ⟨E, J, L, fun y h1 h2 => ?_⟩⟩
      · rw [m62, hM.1 y hy]
        by_cases c : y = x
        · subst c
          rw [if_neg (Nat.lt_irrefl _), if_pos (by omega)]
          unfold PN
          rw [if_pos hp]
        · by_cases d : y < x
          · rw [if_pos d, if_pos (by omega)]
          · rw [if_neg d, if_neg (by omega)]
      · rw [m63, hM.2.1 b hb]
        constructor
        · intro ⟨y, h1, h2⟩
          exact ⟨y, by omega, h2⟩
        · intro ⟨y, h1, h2⟩
          refine ⟨y, ?_, h2⟩
          have : y ≠ x := fun e => by rw [e, hp] at h2; omega
          omega
      · rw [m67, hM.2.2]
        unfold cntp
        rw [sm_succ _ (Nat.zero_le _), if_pos hp]
        omega
      · obtain ⟨q1, q2, q3, q4, q5, q6, q7⟩ := hE y (by omega) h2
        refine ⟨E2 y (by omega) h2, q2, q3, q4, q5, q6, fun hs z h3 h4 => ?_⟩
        by_cases c : E (y - 1) = y
        · exact q7 (Or.inr c) z h3 h4
        · have e : y = x + 1 := by omega
          subst e
          by_cases d : x + 1 < E x
          · obtain ⟨g1, g2, g3⟩ := c6 (x + 1) (by omega) d
            rw [g1] at h4 ⊢
            rw [g2, g3, c7 z (by omega) h4, ch_no hW c4 c2 r, if_neg (by omega)]
          · exact absurd (show E (x + 1 - 1) = x + 1 from by rw [show x + 1 - 1 = x from by omega]; omega) c
    · have hp : pt C x = b := by rw [hpx, ch_yes hW c4 c2 r, if_pos rfl]
      rw [if_neg (by omega), r]
      have hb : b < cn C 1 := by omega
      have z1 := hW.e (C := C) (t := 1) hb
      have w1 := c5.2 b b1 b2
      have p0 : pl C 0 1 (cn C 0 - 1 - x) = x := by
        have : pl C 0 1 (cn C 0 - 1 - x) = cn C 0 - 1 - (cn C 0 - 1 - x) := if_neg (by decide)
        omega
      have p1 : pl C 1 1 (cn C 1 - 1 - b) = b := by
        have : pl C 1 1 (cn C 1 - 1 - b) = cn C 1 - 1 - (cn C 1 - 1 - b) := if_neg (by decide)
        omega
      have f0 := (rF_1 hW (t := 0) (p := cn C 0 - 1 - x) (b := 1) (by omega) (by decide)).2
      have f1 := (rF_1 hW (t := 1) (p := cn C 1 - 1 - b) (b := 1) (by omega) (by decide)).2
      rw [p0] at f0
      rw [p1] at f1
      have cb := cntp_bd C x
      refine ⟨⟨by omega, by omega⟩, fun h2 => absurd h2 (by omega), fun _ => ?_⟩
      refine sp_pairC hW R2.1 R2.2.1 (p := cn C 0 - 1 - x) (q := cn C 1 - 1 - b) (by omega) (by omega) (by omega) (by omega) p0 p1 (E2 x (Nat.le_refl _) hx').1 (by omega) (by rw [m67, hM.2.2]; omega) (fun M3 F3 B3 g2 g3 g7 g4 g5 g6 => ?_)
      unfold wpj_X4_choose_88
      have F3' : Fr PCM M2 M3 := F3.mono (fun o k h => by
        simp only [P6, beq_iff_eq] at h
        simp only [PCM, Bool.or_eq_true, beq_iff_eq]
        exact Or.inl h)
      refine ⟨20 - (x + 1), by omega, x + 1, by omega, by omega, rfl, (hF.tr F2').tr F3', ⟨R2.1.fr F3 (fun _ => rfl) (fun _ => rfl) rfl, B3, fun i j k l h1 h2 h3 h4 => by rw [F3 4 1 _ rfl]; exact R2.2.2 i j k l h1 h2 h3 h4⟩, ⟨fun y hy => ?_, fun b' hb' => ?_, ?_⟩, ⟨fun y => if x < y ∧ y < ce C 0 x then ce C 0 x else E y, fun y => if x < y ∧ y < ce C 0 x then b + 1 else if ce C 0 x ≤ y ∧ y < E x then ce C 1 b else J y, fun y => if x < y ∧ y < ce C 0 x then ce C 1 b else L y, fun y h1 h2 => ?_⟩⟩
      · rw [g2, m62, hM.1 y hy]
        by_cases c : y = x
        · subst c
          rw [if_pos rfl, if_pos (by omega)]
          unfold PN
          rw [if_neg (by omega), hp, Int.toNat_natCast]
        · rw [if_neg (fun e => c (hW.inj (t := 0) (by omega) hy hx' e))]
          by_cases d : y < x
          · rw [if_pos d, if_pos (by omega)]
          · rw [if_neg d, if_neg (by omega)]
      · rw [g3, m63]
        by_cases c : b' = b
        · subst c
          rw [if_pos rfl]
          exact ⟨fun _ => ⟨x, by omega, hp⟩, fun _ => by omega⟩
        · rw [if_neg (fun e => c (hW.inj (t := 1) (by omega) hb' hb e)), hM.2.1 b' hb']
          constructor
          · intro ⟨y, h1, h2⟩
            exact ⟨y, by omega, h2⟩
          · intro ⟨y, h1, h2⟩
            refine ⟨y, ?_, h2⟩
            have : y ≠ x := fun e => by rw [e, hp] at h2; omega
            omega
      · rw [g7, m67, hM.2.2]
        unfold cntp
        rw [sm_succ _ (Nat.zero_le _), if_neg (by omega)]
      · obtain ⟨q1, q2, q3, q4, q5, q6, q7⟩ := hE y (by omega) h2
        have q1 := E2 y (by omega) h2
        dsimp only
        by_cases c : x < y ∧ y < ce C 0 x
        · -- below the pair
          rw [if_pos c, if_pos c, if_pos c]
          refine ⟨⟨?_, ?_, ?_⟩, c.2, by omega, (Whl.inn hx').tl (by omega), Whl.inn hb, fun z h3 h4 => ?_, fun hs z h3 h4 => ?_⟩
          · rw [g4, if_pos (by omega)]
            omega
          · rw [g5, if_pos (by omega)]
            omega
          · rw [g6, if_pos (by omega)]
            omega
          · rw [if_pos ⟨by omega, h4⟩, if_pos ⟨by omega, h4⟩, if_pos ⟨by omega, h4⟩]
            exact ⟨rfl, rfl, rfl⟩
          · have e : y = x + 1 := by
              rcases hs with hs | hs
              · exact hs
              · by_cases d : x < y - 1 ∧ y - 1 < ce C 0 x
                · rw [if_pos d] at hs
                  omega
                · omega
            subst e
            rw [c7 z (by omega) (by omega), ch_yes hW c4 c2 r, if_neg (by omega), if_pos h4]
        · rw [if_neg c, if_neg c, if_neg c]
          by_cases d : ce C 0 x ≤ y ∧ y < E x
          · -- behind the pair, in its interval
            obtain ⟨k1, k2, k3⟩ := c6 y (by omega) d.2
            rw [if_pos d, k1, k3]
            rw [k1] at q4
            refine ⟨⟨?_, ?_, ?_⟩, d.2, w1, q4, c5.tl (by omega), fun z h3 h4 => ?_, fun hs z h3 h4 => ?_⟩
            · rw [g4, if_neg (by omega), q1.1, k1]
            · rw [g5, if_neg (by omega), q1.2.1, k3]
            · rw [g6, if_neg (by omega), if_pos (by omega)]
              omega
            · obtain ⟨k1', k2', k3'⟩ := c6 z (by omega) h4
              rw [if_neg (by omega), if_neg (by omega), if_pos (by omega), if_neg (by omega), k1', k3']
              exact ⟨rfl, rfl, rfl⟩
            · have e : y = ce C 0 x := by
                rcases hs with hs | hs
                · omega
                · by_cases d' : x < y - 1 ∧ y - 1 < ce C 0 x
                  · rw [if_pos d'] at hs
                    omega
                  · rw [if_neg d'] at hs
                    by_cases d2 : y - 1 = x
                    · omega
                    · have := (c6 (y - 1) (by omega) (by omega)).1
                      omega
              subst e
              rw [c7 z (by omega) h4, ch_yes hW c4 c2 r, if_neg (by omega), if_neg (by omega)]
          · -- behind the interval
            rw [if_neg d]
            have hy : E x ≤ y := by omega
            refine ⟨⟨?_, ?_, ?_⟩, q2, q3, q4, q5, fun z h3 h4 => ?_, fun hs z h3 h4 => ?_⟩
            · rw [g4, if_neg (by omega)]
              exact q1.1
            · rw [g5, if_neg (by omega)]
              exact q1.2.1
            · rw [g6, if_neg (by omega), if_neg (by omega)]
              exact q1.2.2
            · rw [if_neg (by omega), if_neg (by omega), if_neg (by omega), if_neg (by omega)]
              exact q6 z h3 h4
            · refine q7 (Or.inr ?_) z h3 h4
              by_cases c' : y = E x
              · subst c'
                exact (c6 (E x - 1) (by omega) (by omega)).1
              · rcases hs with hs | hs
                · omega
                · rw [if_neg (by omega)] at hs
                  exact hs
end CHOOSE
