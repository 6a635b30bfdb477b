/-! moves: what they are, and the class's -/
noncomputable def bo (P : Prop) : Bool := @decide P (Classical.propDecidable P)
theorem bo_iff {P : Prop} : bo P = true ↔ P := by
  unfold bo
  exact @decide_eq_true_iff P (Classical.propDecidable P)
theorem bo_f {P : Prop} (h : ¬ P) : bo P = false := by
  cases c : bo P with
  | false => rfl
  | true => exact absurd (bo_iff.mp c) h
section MOVES
variable {C : Nat → Nat → Int}
noncomputable def mvc (C : Nat → Nat → Int) (T : Nat → Bool) (a b : Nat) : Bool := bo ((∀ x : Nat, a ≤ x → x < ce C 0 a → pt C x = -1) ∧ Sm C 0 a 1 b ∧ 0 < svg C a b ∧ ∀ y : Nat, b ≤ y → y < ce C 1 b → prd C y = false ∧ T y = false)
noncomputable def mvf (C : Nat → Nat → Int) (T : Nat → Bool) (a : Nat) : Int := fst1 (mvc C T a) 0 (cn C 1)
noncomputable def mS (C : Nat → Nat → Int) : Nat → Nat × (Nat → Bool)
  | 0 => (0, fun _ => false)
  | p + 1 => if p < (mS C p).1 then mS C p else if mvf C (mS C p).2 p = -1 then mS C p else (ce C 0 p, fun y => (mS C p).2 y || (decide ((mvf C (mS C p).2 p).toNat ≤ y) && decide (y < ce C 1 (mvf C (mS C p).2 p).toNat)))
/-- where a place moves to -/
noncomputable def mt (C : Nat → Nat → Int) (p : Nat) : Int := if p < (mS C p).1 then -1 else mvf C (mS C p).2 p
noncomputable def gn (C : Nat → Nat → Int) (p : Nat) : Int := if mt C p = -1 then 0 else svg C p (mt C p).toNat
noncomputable def mcnt (C : Nat → Nat → Int) (x : Nat) : Int := sm (fun y => if mt C y = -1 then 0 else 1) 0 x
noncomputable def mgn (C : Nat → Nat → Int) (x : Nat) : Int := sm (gn C) 0 x
noncomputable def TN (C : Nat → Nat → Int) (x : Nat) : Int := if mt C x = -1 then -1 else (nd C 1 (mt C x).toNat : Int)
theorem mvf_rg (C : Nat → Nat → Int) (T : Nat → Bool) (a : Nat) : (mvf C T a = -1 ∧ ∀ b : Nat, b < cn C 1 → mvc C T a b = false) ∨ ∃ b : Nat, mvf C T a = b ∧ b < cn C 1 ∧ mvc C T a b = true ∧ ∀ c : Nat, c < b → mvc C T a c = false := by
  rcases fst1_cases (mvc C T a) (cn C 1) 0 with ⟨h1, h2⟩ | ⟨b, h1, _, h3, h4, h5⟩
  · exact Or.inl ⟨h1, fun b hb => h2 b (Nat.zero_le _) (by omega)⟩
  · exact Or.inr ⟨b, h1, by omega, h4, fun c hc => h5 c (Nat.zero_le _) hc⟩
theorem mt_rg (C : Nat → Nat → Int) (p : Nat) : mt C p = -1 ∨ ∃ b : Nat, mt C p = b ∧ b < cn C 1 ∧ mvc C (mS C p).2 p b = true := by
  unfold mt
  split
  · exact Or.inl rfl
  · rcases mvf_rg C (mS C p).2 p with h | ⟨b, h1, h2, h3, _⟩
    · exact Or.inl h.1
    · exact Or.inr ⟨b, h1, h2, h3⟩
theorem mvc_sv {T : Nat → Bool} {a b : Nat} (h : mvc C T a b = true) : 0 < svg C a b := (bo_iff.mp h).2.2.1
theorem mS_le (hW : WF C) : ∀ p : Nat, p ≤ cn C 0 → (mS C p).1 ≤ cn C 0 := by
  intro p
  induction p with
  | zero => intro _; exact Nat.zero_le _
  | succ p ih =>
    intro h
    have a := ih (by omega)
    unfold mS
    split
    · exact a
    · split
      · exact a
      · exact (hW.e (C := C) (t := 0) (p := p) (by omega)).2
theorem gn_bd (hW : WF C) {p : Nat} (hp : p < cn C 0) : 0 ≤ gn C p ∧ gn C p ≤ 1200 := by
  unfold gn
  rcases mt_rg C p with h | ⟨b, h1, h2, h3⟩
  · rw [if_pos h]
    omega
  · rw [if_neg (by omega), h1, Int.toNat_natCast]
    have := svg_bd hW hp h2
    have := mvc_sv h3
    omega
theorem mgn_bd (hW : WF C) : ∀ x : Nat, x ≤ cn C 0 → 0 ≤ mgn C x ∧ mgn C x ≤ 1200 * x := by
  intro x
  induction x with
  | zero =>
    intro _
    unfold mgn
    rw [sm_self _ (Nat.le_refl _)]
    omega
  | succ x ih =>
    intro h
    have a := ih (by omega)
    have b := gn_bd hW (p := x) (by omega)
    unfold mgn at a ⊢
    rw [sm_succ _ (Nat.zero_le _)]
    omega
theorem mcnt_bd (x : Nat) : 0 ≤ mcnt C x ∧ mcnt C x ≤ 50 * x := by
  have a := sm_bd (fun y => if mt C y = -1 then 0 else 1) (i := 0) (j := x) (fun k _ _ => by
    split <;> omega)
  unfold mcnt
  omega
def P8 (o k : Nat) : Bool := o == 8
theorem P8_kt : ∀ o k : Nat, kt o k = true → P8 o k = false := fun o k h => by
  simp only [kt, Bool.or_eq_true, beq_iff_eq] at h
  simp only [P8, beq_eq_false_iff_ne]
  omega
def ClP (C : Nat → Nat → Int) (M : Mem) (T : Nat → Bool) : Prop := ∀ y : Nat, y < cn C 1 → (M 8 3 (nd C 1 y) ≠ -1 ↔ (prd C y = true ∨ T y = true))
theorem sp_firstTarget {M : Mem} {Q : Int → Mem → Prop} {T : Nat → Bool} {a : Nat} {p0 : Int} (hW : WF C) (hX : Cls C M) (hB : Bd M) (hM : ∀ x : Nat, x < cn C 0 → M 6 2 (nd C 0 x) = PN C x) (hT : ClP C M T) (ha : a < cn C 0) (e0 : p0 = (nd C 0 a : Int)) (K : Q (if mvf C T a = -1 then -1 else (nd C 1 (mvf C T a).toNat : Int)) M) : wp_X5_firstTarget M p0 Q := by
  subst e0
  have n0 := hW.n12 (t := 0) (by omega)
  have n1 := hW.n12 (t := 1) (by omega)
  have za := hW.e (C := C) (t := 0) ha
  unfold wp_X5_firstTarget
  refine ⟨fun n x3 M1 => ∃ b : Nat, x3 = b ∧ b ≤ cn C 1 ∧ n = 50 - b ∧ (∀ x : Nat, a ≤ x → x < ce C 0 a → pt C x = -1) ∧ (∀ c : Nat, c < b → mvc C T a c = false) ∧ M = M1, ?_, ?_⟩
  · unfold wpe_X5_firstTarget
    refine sp_isUnmarked hW hX hB (t := 0) rfl (by omega) ha rfl (fun v hv hs => ⟨by rcases hv with z | z <;> rw [z] <;> exact ⟨by decide, by decide⟩, fun h => ⟨_, 0, rfl, Nat.zero_le _, rfl, fun x h1 h2 => ?_, fun c hc => absurd hc (Nat.not_lt_zero _), rfl⟩, fun h => ?_⟩)
    · have := hs.mp (by omega) x h1 h2
      rw [hM x (by omega)] at this
      exact (PN_iff hW x).mp this
    · have no : ¬ ∀ x : Nat, a ≤ x → x < ce C 0 a → pt C x = -1 := fun z => by
        have := hs.mpr (fun k h1 h2 => by rw [hM k (by omega)]; exact (PN_iff hW k).mpr (z k h1 h2))
        omega
      have e : mvf C T a = -1 := by
        rcases mvf_rg C T a with g | ⟨b, _, _, g, _⟩
        · exact g.1
        · exact absurd (bo_iff.mp g).1 no
      rw [if_pos e] at K
      exact K
  · intro n x3 M1 ⟨b, e3, hb, hn, hp, hi, eM⟩
    subst e3; subst hn; subst eM
    unfold wph_X5_firstTarget_33
    rw [hX.n (o := 12) (t := 1) rfl (by omega), Int.toNat_natCast]
    refine ⟨⟨by omega, by omega⟩, ⟨by omega, by omega⟩, fun h => ?_, fun h => ⟨⟨by omega, by omega⟩, fun y9 e9 => ?_⟩⟩
    · have e : mvf C T a = -1 := by
        rcases mvf_rg C T a with g | ⟨c, _, g1, g2, _⟩
        · exact g.1
        · rw [hi c (by omega)] at g2
          cases g2
      rw [if_pos e] at K
      exact K
    · have lb : b < cn C 1 := by omega
      rw [hX.pre (o := 12) (t := 1) rfl (by omega) lb] at e9
      subst e9
      have no : mvc C T a b = false → wpj_X5_firstTarget_92 (nd C 0 a : Int) (b : Int) M (fun (x3 : Int) (M1 : Mem) => ∃ n1 : Nat, n1 < 50 - b ∧ ∃ b : Nat, x3 = b ∧ b ≤ cn C 1 ∧ n1 = 50 - b ∧ (∀ x : Nat, a ≤ x → x < ce C 0 a → pt C x = -1) ∧ (∀ c : Nat, c < b → mvc C T a c = false) ∧ M = M1) Q := by
        intro hc
        unfold wpj_X5_firstTarget_92
        refine ⟨50 - (b + 1), by omega, b + 1, by omega, by omega, rfl, hp, fun c hc' => ?_, rfl⟩
        by_cases d : c = b
        · rw [d]; exact hc
        · exact hi c (by omega)
      refine sp_isUnmarked hW hX hB (t := 1) rfl (by omega) lb rfl (fun v hv hs => ⟨by rcases hv with z | z <;> rw [z] <;> exact ⟨by decide, by decide⟩, fun h2 => no (bo_f (fun z => ?_)), fun h2 => ?_⟩)
      · have := hs.mpr (fun k h1 h2 => Decidable.byContradiction (fun w => by
          have zb := hW.e (C := C) (t := 1) lb
          have q := z.2.2.2 k h1 h2
          rcases (hT k (by omega)).mp w with r | r
          · rw [r] at q
            cases q.1
          · rw [r] at q
            cases q.2))
        omega
      · have un := hs.mp (by omega)
        refine sp_same hW hX hB (t := 0) (u := 1) rfl rfl (by omega) (by omega) ha lb rfl rfl (fun v' hv' hs' => ⟨by rcases hv' with z | z <;> rw [z] <;> exact ⟨by decide, by decide⟩, fun h3 => no (bo_f (fun z => by have := hs'.mpr z.2.1; omega)), fun h3 => ?_⟩)
        have sb := svg_bd hW ha lb
        refine sp_gain hW hX hB ha lb rfl rfl ⟨⟨by omega, by omega⟩, fun h4 => no (bo_f (fun z => by have := z.2.2.1; omega)), fun h4 => ?_⟩
        have yes : mvc C T a b = true := bo_iff.mpr ⟨hp, hs'.mp (by omega), by omega, fun y h1 h2 => by
          have zb := hW.e (C := C) (t := 1) lb
          have q := un y h1 h2
          constructor
          · cases c : prd C y with
            | false => rfl
            | true => exact absurd q ((hT y (by omega)).mpr (Or.inl c))
          · cases c : T y with
            | false => rfl
            | true => exact absurd q ((hT y (by omega)).mpr (Or.inr c))⟩
        have e : mvf C T a = b := by
          rcases mvf_rg C T a with g | ⟨c, g0, g1, g2, g3⟩
          · rw [g.2 b lb] at yes
            cases yes
          · have : c = b := by
              rcases Nat.lt_trichotomy c b with q | q | q
              · rw [hi c q] at g2
                cases g2
              · exact q
              · rw [g3 b q] at yes
                cases yes
            subst this
            exact g0
        rw [if_neg (by omega), e, Int.toNat_natCast] at K
        exact K
set_option maxHeartbeats 4000000 in
theorem sp_move {M : Mem} {Q : Mem → Prop} {a b : Nat} {p0 p1 : Int} (hW : WF C) (hX : Cls C M) (hB : Bd M) (ha : a < cn C 0) (hb : b < cn C 1) (e0 : p0 = (nd C 0 a : Int)) (e1 : p1 = (nd C 1 b : Int)) (h4 : 0 ≤ M 8 4 0 ∧ M 8 4 0 ≤ 1000) (h5 : 0 ≤ M 8 5 0 ∧ M 8 5 0 ≤ 100000)
    (K : ∀ M' : Mem, Fr P8 M M' → Bd M' → (∀ c : Nat, M' 8 2 c = if c = nd C 0 a then (nd C 1 b : Int) else M 8 2 c) → M' 8 4 0 = M 8 4 0 + 1 → M' 8 5 0 = M 8 5 0 + svg C a b → (∀ y : Nat, y < cn C 1 → M' 8 3 (nd C 1 y) = if b ≤ y ∧ y < ce C 1 b then (nd C 0 a : Int) else M 8 3 (nd C 1 y)) → Q M') : wp_X5_move M p0 p1 Q := by
  subst e0; subst e1
  have n0 := hW.n12 (t := 0) (by omega)
  have n1 := hW.n12 (t := 1) (by omega)
  have la := hW.ndl (t := 0) (by omega) ha
  have lb := hW.ndl (t := 1) (by omega) hb
  have zb := hW.e (C := C) (t := 1) hb
  have sb := svg_bd hW ha hb
  unfold wp_X5_move
  refine ⟨fun n x4 M1 => ∃ k : Nat, x4 = k ∧ b ≤ k ∧ k ≤ ce C 1 b ∧ n = 50 - k ∧ Fr P8 M M1 ∧ Bd M1 ∧ (∀ c : Nat, M1 8 2 c = if c = nd C 0 a then (nd C 1 b : Int) else M 8 2 c) ∧ M1 8 4 0 = M 8 4 0 + 1 ∧ M1 8 5 0 = M 8 5 0 + svg C a b ∧ (∀ y : Nat, y < cn C 1 → M1 8 3 (nd C 1 y) = if b ≤ y ∧ y < k then (nd C 0 a : Int) else M 8 3 (nd C 1 y)), ?_, ?_⟩
  · unfold wpe_X5_move
    rw [Int.toNat_natCast, Int.toNat_natCast]
    refine ⟨⟨by omega, by omega⟩, fun M1 e1 M3 e3 => ?_⟩
    have a1 : M1 8 4 0 = M 8 4 0 := by rw [e1, mset_ne (by omega)]
    rw [a1] at e3
    have F3 : Fr P8 M M3 := by
      rw [e3, e1]
      exact (Fr.rf.set rfl).set rfl
    have B3 : Bd M3 := by
      rw [e3, e1]
      exact (hB.set (by omega) (by omega)).set (by omega) (by omega)
    have a5 : M3 8 5 0 = M 8 5 0 := by rw [e3, mset_ne (by omega), e1, mset_ne (by omega)]
    refine sp_gain hW (hX.fr F3 P8_kt) B3 ha hb rfl rfl (fun M6 e6 => ⟨⟨by omega, by omega⟩, fun y8 e8 => ?_⟩)
    rw [a5] at e6
    have F6 : Fr P8 M M6 := e6 ▸ F3.set rfl
    have X6 := hX.fr F6 P8_kt
    rw [X6.pp (o := 12) (t := 1) rfl (by omega) hb] at e8
    refine ⟨_, b, e8, Nat.le_refl _, by omega, rfl, F6, e6 ▸ B3.set (by omega) (by omega), fun c => ?_, ?_, by rw [e6, mset_eq], fun y hy => ?_⟩
    · rw [e6, mset_ne (by omega), e3, mset_ne (by omega), e1, mset_i]
    · rw [e6, mset_ne (by omega), e3, mset_eq]
    · rw [if_neg (by omega), e6, mset_ne (by omega), e3, mset_ne (by omega), e1, mset_ne (by omega)]
  · intro n x4 M1 ⟨k, e4, h1, h2, hn, hF, hB1, g2, g4, g5, g3⟩
    subst e4; subst hn
    have X1 := hX.fr hF P8_kt
    unfold wph_X5_move_48
    refine sp_end hW X1 (t := 1) rfl (by omega) hb rfl ⟨⟨by omega, by omega⟩, ⟨by omega, by omega⟩, fun h => ?_, fun h => ?_⟩
    · have e : k = ce C 1 b := by omega
      subst e
      exact K M1 hF hB1 g2 g4 g5 g3
    · have lk : k < cn C 1 := by omega
      have ln := hW.ndl (t := 1) (by omega) lk
      rw [Int.toNat_natCast, X1.pre (o := 12) (t := 1) rfl (by omega) lk, Int.toNat_natCast]
      refine ⟨⟨by omega, by omega⟩, ⟨by omega, by omega⟩, fun M15 e15 => ?_⟩
      subst e15
      refine ⟨50 - (k + 1), by omega, k + 1, by omega, by omega, by omega, rfl, hF.set rfl, hB1.set (by omega) (by omega), fun c => by rw [mset_ne (by omega)]; exact g2 c, by rw [mset_ne (by omega)]; exact g4, by rw [mset_ne (by omega)]; exact g5, fun y hy => ?_⟩
      rw [mset_i]
      by_cases c : y = k
      · subst c
        rw [if_pos rfl, if_pos (by omega)]
      · rw [if_neg (fun e => c (hW.inj (t := 1) (by omega) hy lk e)), g3 y hy]
        by_cases d : b ≤ y ∧ y < k
        · rw [if_pos d, if_pos (by omega)]
        · rw [if_neg d, if_neg (by omega)]
def MvC (C : Nat → Nat → Int) (M : Mem) (x : Nat) : Prop := (∀ y : Nat, y < cn C 0 → M 8 2 (nd C 0 y) = if y < x then TN C y else -1) ∧ M 8 4 0 = mcnt C x ∧ M 8 5 0 = mgn C x
set_option maxHeartbeats 4000000 in
theorem sp_find {M : Mem} {Q : Mem → Prop} (hW : WF C) (hX : Cls C M) (hB : Bd M) (hM : MP C M (cn C 0)) (K : ∀ M' : Mem, Fr P8 M M' → Bd M' → MvC C M' (cn C 0) → Q M') : wp_X5_find M Q := by
  have n0 := hW.n12 (t := 0) (by omega)
  have n1 := hW.n12 (t := 1) (by omega)
  unfold wp_X5_find
  refine ⟨fun n x2 x3 M1 => ∃ p : Nat, x2 = ((mS C p).1 : Int) ∧ x3 = p ∧ p ≤ cn C 0 ∧ n = 50 - p ∧ Fr P8 M M1 ∧ Bd M1 ∧ MvC C M1 p ∧ ClP C M1 (mS C p).2, ?_, ?_⟩
  · unfold wpe_X5_find
    refine sp_fill (by omega) (fun M2 a2 b2 c2 M3 e3 M4 e4 M5 e5 => ?_)
    have B2 := hB.fill (by omega) (by omega) a2 b2 c2
    have B3 : Bd M3 := fun o k i => by
      rw [e3]
      unfold mcopy
      split
      · exact B2 _ _ _
      · exact B2 _ _ _
    have r3 : ∀ o k i : Nat, ¬ (o = 8 ∧ k = 3) → M3 o k i = M2 o k i := fun o k i h => by
      rw [e3]
      unfold mcopy
      exact if_neg (fun z => h ⟨z.1, z.2.1⟩)
    refine ⟨_, 0, rfl, rfl, Nat.zero_le _, rfl, fun o k i h => ?_, ?_, ⟨fun y hy => ?_, ?_, ?_⟩, fun y hy => ?_⟩
    · have ho : o ≠ 8 := by simpa [P8] using h
      rw [e5, mset_ne (by omega), e4, mset_ne (by omega), r3 o k i (by omega), b2 o k i (by omega)]
    · rw [e5, e4]
      exact (B3.set (by omega) (by omega)).set (by omega) (by omega)
    · have := hW.ndl (t := 0) (by omega) hy
      rw [if_neg (Nat.not_lt_zero _), e5, mset_ne (by omega), e4, mset_ne (by omega), r3 _ _ _ (by omega)]
      exact a2 _ (by omega)
    · rw [e5, mset_ne (by omega), e4, mset_eq]
      unfold mcnt
      rw [sm_self _ (Nat.le_refl _)]
    · rw [e5, mset_eq]
      unfold mgn
      rw [sm_self _ (Nat.le_refl _)]
    · have ly := hW.ndl (t := 1) (by omega) hy
      have v : M5 8 3 (nd C 1 y) = M 6 3 (nd C 1 y) := by
        rw [e5, mset_ne (by omega), e4, mset_ne (by omega), e3]
        unfold mcopy
        rw [if_pos ⟨rfl, rfl, by omega⟩]
        exact b2 _ _ _ (by omega)
      rw [v, hM.2.1 y hy, ← prd_iff]
      constructor
      · intro h
        exact Or.inl h
      · rintro (h | h)
        · exact h
        · cases h
  · intro n x2 x3 M1 ⟨p, e2, e3, hp, hn, hF, hB1, hV, hT⟩
    subst e2; subst e3; subst hn
    have X1 := hX.fr hF P8_kt
    have ml := mS_le hW p hp
    unfold wph_X5_find_48
    rw [X1.n (o := 11) (t := 0) rfl (by omega), Int.toNat_natCast]
    refine ⟨⟨by omega, by omega⟩, ⟨by omega, by omega⟩, fun h => K M1 hF hB1 ((show p = cn C 0 from by omega) ▸ hV), fun h => ⟨⟨by omega, by omega⟩, fun y10 e10 => ⟨⟨by omega, by omega⟩, ⟨by omega, by omega⟩, fun h2 => ?_, fun h2 => ?_⟩⟩⟩
    · have lp : p < cn C 0 := by omega
      rw [X1.pre (o := 11) (t := 0) rfl (by omega) lp] at e10
      subst e10
      have ep : mt C p = mvf C (mS C p).2 p := if_neg (by omega)
      refine sp_firstTarget hW X1 hB1 (fun x hx => by rw [hF 6 2 _ rfl, hM.1 x hx, if_pos hx]) hT lp rfl ?_
      unfold wpj_X5_find_79
      rcases mvf_rg C (mS C p).2 p with g | ⟨b, g0, g1, g2, g3⟩
      · rw [if_pos g.1]
        refine ⟨⟨by decide, by decide⟩, fun _ => ?_, fun z => absurd rfl z⟩
        unfold wpj_X5_find_102
        have es : mS C (p + 1) = mS C p := by
          change (if p < (mS C p).1 then mS C p else if mvf C (mS C p).2 p = -1 then mS C p else _) = _
          rw [if_neg (by omega), if_pos g.1]
        refine ⟨50 - (p + 1), by omega, p + 1, by rw [es], by omega, by omega, rfl, hF, hB1, ⟨fun y hy => ?_, ?_, ?_⟩, by rw [es]; exact hT⟩
        · rw [hV.1 y hy]
          by_cases c : y = p
          · subst c
            rw [if_neg (Nat.lt_irrefl _), if_pos (by omega)]
            unfold TN
            rw [if_pos (by rw [ep]; exact g.1)]
          · by_cases d : y < p
            · rw [if_pos d, if_pos (by omega)]
            · rw [if_neg d, if_neg (by omega)]
        · rw [hV.2.1]
          unfold mcnt
          rw [sm_succ _ (Nat.zero_le _), if_pos (by rw [ep]; exact g.1)]
          omega
        · rw [hV.2.2]
          unfold mgn
          rw [sm_succ _ (Nat.zero_le _)]
          unfold gn
          rw [if_pos (c := mt C p = -1) (by rw [ep]; exact g.1)]
          omega
      · rw [if_neg (by omega), g0, Int.toNat_natCast]
        have lb := hW.ndl (t := 1) (by omega) g1
        have em : mt C p = b := by rw [ep, g0]
        have cb := mcnt_bd (C := C) p
        have gb := mgn_bd hW p (by omega)
        refine ⟨⟨by omega, by omega⟩, fun z => absurd z (by omega), fun _ => ?_⟩
        refine sp_move hW X1 hB1 lp g1 rfl rfl (by rw [hV.2.1]; omega) (by rw [hV.2.2]; omega) (fun M2 F2 B2 r2 r4 r5 r3 => ?_)
        refine sp_end hW (X1.fr F2 P8_kt) (t := 0) rfl (by omega) lp rfl ?_
        unfold wpj_X5_find_102
        have es : mS C (p + 1) = (ce C 0 p, fun y => (mS C p).2 y || (decide (b ≤ y) && decide (y < ce C 1 b))) := by
          change (if p < (mS C p).1 then mS C p else if mvf C (mS C p).2 p = -1 then mS C p else (ce C 0 p, fun y => (mS C p).2 y || (decide ((mvf C (mS C p).2 p).toNat ≤ y) && decide (y < ce C 1 (mvf C (mS C p).2 p).toNat)))) = _
          rw [if_neg (by omega), if_neg (by omega), g0, Int.toNat_natCast]
        refine ⟨50 - (p + 1), by omega, p + 1, by rw [es], by omega, by omega, rfl, hF.tr F2, B2, ⟨fun y hy => ?_, ?_, ?_⟩, fun y hy => ?_⟩
        · rw [r2, hV.1 y hy]
          by_cases c : y = p
          · subst c
            rw [if_pos rfl, if_pos (by omega)]
            unfold TN
            rw [if_neg (by omega), em, Int.toNat_natCast]
          · rw [if_neg (fun e => c (hW.inj (t := 0) (by omega) hy lp e))]
            by_cases d : y < p
            · rw [if_pos d, if_pos (by omega)]
            · rw [if_neg d, if_neg (by omega)]
        · rw [r4, hV.2.1]
          unfold mcnt
          rw [sm_succ _ (Nat.zero_le _), if_neg (by omega)]
        · rw [r5, hV.2.2]
          unfold mgn
          rw [sm_succ _ (Nat.zero_le _)]
          unfold gn
          rw [if_neg (c := mt C p = -1) (by omega), em, Int.toNat_natCast]
        · rw [es, r3 y hy]
          dsimp only
          have q := hT y hy
          by_cases c : b ≤ y ∧ y < ce C 1 b
          · rw [if_pos c, decide_eq_true c.1, decide_eq_true c.2]
            simp
          · rw [if_neg c, q]
            have : (decide (b ≤ y) && decide (y < ce C 1 b)) = false := by
              rw [Bool.and_eq_false_iff, decide_eq_false_iff_not, decide_eq_false_iff_not]
              omega
            rw [this, Bool.or_false]
    · have lp : p < cn C 0 := by omega
      have ep : mt C p = -1 := if_pos (by omega)
      have es : mS C (p + 1) = mS C p := by
        change (if p < (mS C p).1 then mS C p else _) = _
        rw [if_pos (by omega)]
      unfold wpj_X5_find_79
      refine ⟨⟨by decide, by decide⟩, fun _ => ?_, fun z => absurd rfl z⟩
      unfold wpj_X5_find_102
      refine ⟨50 - (p + 1), by omega, p + 1, by rw [es], by omega, by omega, rfl, hF, hB1, ⟨fun y hy => ?_, ?_, ?_⟩, by rw [es]; exact hT⟩
      · rw [hV.1 y hy]
        by_cases c : y = p
        · subst c
          rw [if_neg (Nat.lt_irrefl _), if_pos (by omega)]
          unfold TN
          rw [if_pos ep]
        · by_cases d : y < p
          · rw [if_pos d, if_pos (by omega)]
          · rw [if_neg d, if_neg (by omega)]
      · rw [hV.2.1]
        unfold mcnt
        rw [sm_succ _ (Nat.zero_le _), if_pos ep]
        omega
      · rw [hV.2.2]
        unfold mgn
        rw [sm_succ _ (Nat.zero_le _)]
        unfold gn
        rw [if_pos (c := mt C p = -1) ep]
        omega
end MOVES
