/-! moves: the reference's -/
section TRAV
variable {C : Nat → Nat → Int}
def TaM (M : Mem) (T : Nat → Bool) : Prop := ∀ y : Nat, y < 12 → (T y = true → M 13 12 y = 1) ∧ (T y = false → M 13 12 y = 0)
theorem sp_canMove {M : Mem} {Q : Int → Mem → Prop} {T : Nat → Bool} {a b : Nat} {p0 p1 : Int} (hW : WF C) (hC : Core C M) (hB : Bd M) (hS : Sz C M) (hM : MapI C M) (hT : TaM M T) (ha : a < cn C 0) (hb : b < cn C 1) (e0 : p0 = a) (e1 : p1 = b) (K : ∀ v : Int, (v = 0 ∨ v = 1) → (v = 1 ↔ mvc C T a b = true) → Q v M) : wp_X11_canMove M p0 p1 Q := by
  subst e0; subst e1
  have n0 := hW.n12 (t := 0) (by omega)
  have n1 := hW.n12 (t := 1) (by omega)
  have za := hW.e (C := C) (t := 0) ha
  have zb := hW.e (C := C) (t := 1) hb
  have sb := svg_bd hW ha hb
  have mv := hW.mv
  have sv : svg C a b = sm (cdl C) a (ce C 0 a) + sm (cil C) b (ce C 1 b) - C 7 0 := rfl
  unfold wp_X11_canMove
  refine ⟨fun n x3 x4 M1 => ∃ k : Nat, x4 = k ∧ b + k ≤ ce C 1 b ∧ n = 200 - k ∧ (x3 = 0 ∨ x3 = 1) ∧ (x3 = 1 ↔ (Sm C 0 a 1 b ∧ 0 < svg C a b ∧ ∀ y : Nat, b ≤ y → y < b + k → prd C y = false ∧ T y = false)) ∧ M = M1,
    fun n x3 x4 M1 => ∃ k : Nat, x4 = k ∧ a + k ≤ ce C 0 a ∧ n = 100 - k ∧ (x3 = 0 ∨ x3 = 1) ∧ (x3 = 1 ↔ (Sm C 0 a 1 b ∧ 0 < svg C a b ∧ (∀ y : Nat, b ≤ y → y < ce C 1 b → prd C y = false ∧ T y = false) ∧ ∀ x : Nat, a ≤ x → x < a + k → pt C x = -1)) ∧ M = M1, ?_, ?_, ?_⟩
  · unfold wpe_X11_canMove
    refine sp_isSame hW hC hB hS (t := 0) (u := 1) (by omega) (by omega) ha hb (by omega) (by omega) (fun v hv hs => ⟨by rcases hv with z | z <;> rw [z] <;> exact ⟨by decide, by decide⟩, fun h => ?_, fun h => ?_⟩)
    · unfold wpj_X11_canMove_53 wpj_X11_canMove_54
      exact ⟨_, 0, rfl, by omega, rfl, Or.inl rfl, ⟨fun z => by omega, fun z => by have := hs.mpr z.1; omega⟩, rfl⟩
    · rw [Int.toNat_natCast, hS.s0 ha]
      refine ⟨⟨by omega, by omega⟩, sp_deletingAll hW hC (i := a) (j := ce C 0 a) rfl (by omega) (by omega) (by omega) ?_⟩
      rw [show (12 + (b : Int)).toNat = 12 + b from by omega, hS.s1 hb]
      refine ⟨⟨by omega, by omega⟩, sp_inserting hW hC (i := b) (j := ce C 1 b) rfl (by omega) (by omega) (by omega) ?_⟩
      rw [hC 7 0 rfl]
      unfold wpj_X11_canMove_53 wpj_X11_canMove_54
      exact ⟨⟨by omega, by omega⟩, ⟨by omega, by omega⟩, fun h2 => ⟨_, 0, rfl, by omega, rfl, Or.inl rfl, ⟨fun z => by omega, fun z => by have := z.2.1; omega⟩, rfl⟩, fun h2 => ⟨_, 0, rfl, by omega, rfl, Or.inr rfl, ⟨fun _ => ⟨hs.mp (by omega), by omega, fun y h3 h4 => by omega⟩, fun _ => rfl⟩, rfl⟩⟩
  · intro n x3 x4 M1 ⟨k, e4, hk, hn, h01, hi, eM⟩
    subst e4; subst hn; subst eM
    have r3 : inR x3 := by rcases h01 with z | z <;> rw [z] <;> exact ⟨by decide, by decide⟩
    unfold wph_X11_canMove_58
    rw [show (12 + (b : Int)).toNat = 12 + b from by omega, hS.s1 hb]
    refine ⟨⟨by omega, by omega⟩, ⟨by omega, by omega⟩, ⟨by omega, by omega⟩, fun h => ⟨100 - 0, by omega, 0, rfl, by omega, rfl, h01, ?_, rfl⟩, fun h => ⟨r3, fun h2 => ?_, fun h2 => ?_⟩⟩
    · rw [hi]
      constructor
      · intro z
        exact ⟨z.1, z.2.1, fun y h1 h2 => z.2.2 y h1 (by omega), fun x h1 h2 => by omega⟩
      · intro z
        exact ⟨z.1, z.2.1, fun y h1 h2 => z.2.2.1 y h1 (by omega)⟩
    · unfold wpj_X11_canMove_104 wpj_X11_canMove_105
      exact ⟨200 - (k + 1), by omega, k + 1, by omega, by omega, rfl, Or.inl rfl, ⟨fun z => by omega, fun z => by have := hi.mpr ⟨z.1, z.2.1, fun y h3 h4 => z.2.2 y h3 (by omega)⟩; omega⟩, rfl⟩
    · have h1 := hi.mp (by omega)
      have no : ¬ (prd C (b + k) = false ∧ T (b + k) = false) → wpj_X11_canMove_104 (a : Int) (b : Int) (k : Int) M (fun (x3 x4 : Int) (M1 : Mem) => ∃ n1 : Nat, n1 < 200 - k ∧ ∃ k : Nat, x4 = k ∧ b + k ≤ ce C 1 b ∧ n1 = 200 - k ∧ (x3 = 0 ∨ x3 = 1) ∧ (x3 = 1 ↔ (Sm C 0 a 1 b ∧ 0 < svg C a b ∧ ∀ y : Nat, b ≤ y → y < b + k → prd C y = false ∧ T y = false)) ∧ M = M1) (fun (x3 x4 : Int) (M1 : Mem) => ∃ n1 : Nat, n1 < 200 - k ∧ ∃ k : Nat, x4 = k ∧ a + k ≤ ce C 0 a ∧ n1 = 100 - k ∧ (x3 = 0 ∨ x3 = 1) ∧ (x3 = 1 ↔ (Sm C 0 a 1 b ∧ 0 < svg C a b ∧ (∀ y : Nat, b ≤ y → y < ce C 1 b → prd C y = false ∧ T y = false) ∧ ∀ x : Nat, a ≤ x → x < a + k → pt C x = -1)) ∧ M = M1) Q := by
        intro hq
        unfold wpj_X11_canMove_104 wpj_X11_canMove_105
        exact ⟨200 - (k + 1), by omega, k + 1, by omega, by omega, rfl, Or.inl rfl, ⟨fun z => by omega, fun z => absurd (z.2.2 (b + k) (by omega) (by omega)) hq⟩, rfl⟩
      rw [show ((b : Int) + (k : Int)).toNat = b + k from by omega]
      have p1 := hM.2 (b + k) (by omega)
      have t1 := hT (b + k) (by omega)
      refine ⟨⟨by omega, by omega⟩, hB.r _ _ _, fun h3 => no (fun z => ?_), fun h3 => ⟨⟨by omega, by omega⟩, hB.r _ _ _, fun h4 => no (fun z => ?_), fun h4 => ?_⟩⟩
      · have : M 13 11 (b + k) = 1 := by
          rcases p1.1 with w | w
          · exact absurd w h3
          · exact w
        rw [prd_iff.mpr (p1.2.mp this)] at z
        cases z.1
      · exact h4 (t1.2 z.2)
      · unfold wpj_X11_canMove_105
        refine ⟨200 - (k + 1), by omega, k + 1, by omega, by omega, rfl, Or.inr rfl, ⟨fun _ => ⟨h1.1, h1.2.1, fun y h5 h6 => ?_⟩, fun _ => rfl⟩, rfl⟩
        by_cases c : y = b + k
        · subst c
          constructor
          · cases d : prd C (b + k) with
            | false => rfl
            | true => exact absurd (p1.2.mpr (prd_iff.mp d)) (fun w => h3 (by rw [w]; decide))
          · cases d : T (b + k) with
            | false => rfl
            | true => have := t1.1 d; omega
        · exact h1.2.2 y h5 (by omega)
  · intro n x3 x4 M1 ⟨k, e4, hk, hn, h01, hi, eM⟩
    subst e4; subst hn; subst eM
    have r3 : inR x3 := by rcases h01 with z | z <;> rw [z] <;> exact ⟨by decide, by decide⟩
    unfold wph_X11_canMove_115
    rw [Int.toNat_natCast, hS.s0 ha]
    refine ⟨⟨by omega, by omega⟩, ⟨by omega, by omega⟩, ⟨by omega, by omega⟩, fun h => ⟨h01, K x3 h01 ?_⟩, fun h => ⟨r3, fun h2 => ?_, fun h2 => ?_⟩⟩
    · rw [hi]
      unfold mvc
      rw [bo_iff]
      constructor
      · intro z
        exact ⟨fun x h1 h2 => z.2.2.2 x h1 (by omega), z.1, z.2.1, z.2.2.1⟩
      · intro z
        exact ⟨z.2.1, z.2.2.1, z.2.2.2, fun x h1 h2 => z.1 x h1 (by omega)⟩
    · unfold wpj_X11_canMove_147 wpj_X11_canMove_148
      exact ⟨100 - (k + 1), by omega, k + 1, by omega, by omega, rfl, Or.inl rfl, ⟨fun z => by omega, fun z => by have := hi.mpr ⟨z.1, z.2.1, z.2.2.1, fun y h3 h4 => z.2.2.2 y h3 (by omega)⟩; omega⟩, rfl⟩
    · have h1 := hi.mp (by omega)
      rw [show ((a : Int) + (k : Int)).toNat = a + k from by omega]
      have p1 := hM.1 (a + k) (by omega)
      have pr := pt_int hW (a + k)
      rw [p1]
      refine ⟨⟨by omega, by omega⟩, ⟨by omega, by omega⟩, fun h3 => ?_, fun h3 => ?_⟩
      · unfold wpj_X11_canMove_147 wpj_X11_canMove_148
        exact ⟨100 - (k + 1), by omega, k + 1, by omega, by omega, rfl, Or.inl rfl, ⟨fun z => by omega, fun z => absurd (z.2.2.2 (a + k) (by omega) (by omega)) h3⟩, rfl⟩
      · unfold wpj_X11_canMove_148
        refine ⟨100 - (k + 1), by omega, k + 1, by omega, by omega, rfl, Or.inr rfl, ⟨fun _ => ⟨h1.1, h1.2.1, h1.2.2.1, fun x h5 h6 => ?_⟩, fun _ => rfl⟩, rfl⟩
        by_cases c : x = a + k
        · subst c
          exact Decidable.byContradiction h3
        · exact h1.2.2.2 x h5 (by omega)
theorem mS_jump {a b : Nat} (h1 : (mS C a).1 ≤ a) (hf : mvf C (mS C a).2 a = b) : ∀ p : Nat, a < p → p ≤ ce C 0 a → mS C p = (ce C 0 a, fun y => (mS C a).2 y || (decide (b ≤ y) && decide (y < ce C 1 b))) := by
  intro p
  induction p with
  | zero => intro h; omega
  | succ p ih =>
    intro g1 g2
    have u : mS C (p + 1) = if p < (mS C p).1 then mS C p else if mvf C (mS C p).2 p = -1 then mS C p else (ce C 0 p, fun y => (mS C p).2 y || (decide ((mvf C (mS C p).2 p).toNat ≤ y) && decide (y < ce C 1 (mvf C (mS C p).2 p).toNat))) := rfl
    by_cases c : p = a
    · subst c
      rw [u, if_neg (by omega), if_neg (by omega), hf, Int.toNat_natCast]
    · have e := ih (by omega) (by omega)
      rw [u, e, if_pos (by omega)]
theorem mt_jump {a b p : Nat} (h1 : (mS C a).1 ≤ a) (hf : mvf C (mS C a).2 a = b) (g1 : a < p) (g2 : p < ce C 0 a) : mt C p = -1 := by
  unfold mt
  rw [mS_jump h1 hf p g1 (by omega)]
  exact if_pos g2
def PTr (o k : Nat) : Bool := o == 13 && (k == 10 || k == 12)
set_option maxHeartbeats 8000000 in
theorem sp_travels {M : Mem} {Q : Int → Mem → Prop} {p0 : Int} (hW : WF C) (hC : Core C M) (hB : Bd M) (hS : Sz C M) (hM : MapI C M) (hp : 0 ≤ p0 ∧ p0 ≤ 1200) (K : ∀ M' : Mem, Fr PTr M M' → Bd M' → (∀ x : Nat, x < cn C 0 → M' 13 10 x = mt C x) → Q (p0 - mgn C (cn C 0)) M') : wp_X11_travels M p0 Q := by
  have n0 := hW.n12 (t := 0) (by omega)
  have n1 := hW.n12 (t := 1) (by omega)
  have mv := hW.mv
  unfold wp_X11_travels
  refine ⟨fun n x2 x3 M1 => ∃ k : Nat, x2 = p0 ∧ x3 = k ∧ k ≤ 12 ∧ n = 100000 + (20 - k) ∧ Fr PTr M M1 ∧ Bd M1 ∧ ∀ i : Nat, i < k → M1 13 12 i = 0 ∧ M1 13 10 i = -1,
    fun n x2 x3 M1 => ∃ a : Nat, x2 = p0 - mgn C a ∧ x3 = a ∧ a ≤ cn C 0 ∧ (mS C a).1 ≤ a ∧ n = (20 - a) * 1000 ∧ Fr PTr M M1 ∧ Bd M1 ∧ TaM M1 (mS C a).2 ∧ (∀ x : Nat, x < cn C 0 → M1 13 10 x = if x < a then mt C x else -1),
    fun n x2 x3 x4 M1 => ∃ a b : Nat, x2 = p0 - mgn C a ∧ x3 = a ∧ x4 = b ∧ a < cn C 0 ∧ b ≤ cn C 1 ∧ (mS C a).1 ≤ a ∧ n = (20 - a) * 1000 - 1 - b ∧ Fr PTr M M1 ∧ Bd M1 ∧ TaM M1 (mS C a).2 ∧ (∀ x : Nat, x < cn C 0 → M1 13 10 x = if x < a then mt C x else -1) ∧ (∀ c : Nat, c < b → mvc C (mS C a).2 a c = false),
    fun n x2 x3 x4 x5 M1 => ∃ a b k : Nat, x2 = p0 - mgn C a ∧ x3 = a ∧ x4 = b ∧ x5 = k ∧ a < cn C 0 ∧ b < cn C 1 ∧ a + k ≤ ce C 0 a ∧ (mS C a).1 ≤ a ∧ n = (20 - a) * 1000 - 100 - k ∧ Fr PTr M M1 ∧ Bd M1 ∧ TaM M1 (fun y => (mS C a).2 y || (decide (b ≤ y) && decide (y < b + k))) ∧ (∀ x : Nat, x < cn C 0 → M1 13 10 x = if x < a + 1 then mt C x else -1) ∧ mvf C (mS C a).2 a = b, ?_, ?_, ?_, ?_, ?_⟩
  · unfold wpe_X11_travels
    exact ⟨_, 0, rfl, rfl, Nat.zero_le _, rfl, Fr.rf, hB, fun i h => absurd h (Nat.not_lt_zero _)⟩
  · intro n x2 x3 M1 ⟨k, e2, e3, hk, hn, hF, hB1, hz⟩
    subst e2; subst e3; subst hn
    unfold wph_X11_travels_4
    refine ⟨⟨by omega, by omega⟩, fun h => ⟨(20 - 0) * 1000, by omega, 0, ?_, rfl, Nat.zero_le _, Nat.zero_le _, rfl, hF, hB1, fun y hy => ?_, fun x hx => ?_⟩, fun h => ⟨⟨by omega, by omega⟩, fun M3 e3 => ⟨⟨by omega, by omega⟩, fun M5 e5 => ?_⟩⟩⟩
    · unfold mgn
      rw [sm_self _ (Nat.le_refl _)]
      omega
    · exact ⟨(fun h => by cases h), fun _ => (hz y (by omega)).1⟩
    · rw [(hz x (by omega)).2, if_neg (Nat.not_lt_zero _)]
    · rw [Int.toNat_natCast] at e3 e5
      refine ⟨100000 + (20 - (k + 1)), by omega, k + 1, rfl, by omega, by omega, rfl, ?_, ?_, fun i hi => ?_⟩
      · rw [e5, e3]
        exact (hF.set rfl).set rfl
      · rw [e5, e3]
        exact (hB1.set (by omega) (by omega)).set (by omega) (by omega)
      · rw [e5, mset_i, mset_ne (by omega), e3, mset_i, mset_ne (by omega)]
        by_cases c : i = k
        · rw [if_pos c, if_pos c]
          exact ⟨rfl, rfl⟩
        · rw [if_neg c, if_neg c]
          exact hz i (by omega)
  · intro n x2 x3 M1 ⟨a, e2, e3, ha, hs, hn, hF, hB1, hT, hD⟩
    subst e2; subst e3; subst hn
    have C1 : Core C M1 := hC.fr hF rfl rfl rfl rfl rfl rfl rfl
    unfold wph_X11_travels_32
    rw [C1 5 0 rfl, hW.n (t := 0) (by omega)]
    refine ⟨⟨by omega, by omega⟩, ⟨by omega, by omega⟩, fun h => ?_, fun h => ⟨(20 - a) * 1000 - 1 - 0, by omega, a, 0, rfl, rfl, rfl, by omega, Nat.zero_le _, hs, rfl, hF, hB1, hT, hD, fun c hc => absurd hc (Nat.not_lt_zero _)⟩⟩
    have e : a = cn C 0 := by omega
    subst e
    exact K M1 hF hB1 (fun x hx => by rw [hD x hx, if_pos hx])
  · intro n x2 x3 x4 M1 ⟨a, b, e2, e3, e4, ha, hb, hs, hn, hF, hB1, hT, hD, hN⟩
    subst e2; subst e3; subst e4; subst hn
    have C1 : Core C M1 := hC.fr hF rfl rfl rfl rfl rfl rfl rfl
    have S1 : Sz C M1 := hS.fr hF rfl
    have I1 : MapI C M1 := hM.fr hF rfl rfl
    have za := hW.e (C := C) (t := 0) ha
    have em : mt C a = mvf C (mS C a).2 a := if_neg (by omega)
    unfold wph_X11_travels_45 wpj_X11_travels_91 wpj_X11_travels_85 wpj_X11_travels_197
    rw [C1 5 1 rfl, hW.n (t := 1) (by omega)]
    refine ⟨⟨by omega, by omega⟩, ⟨by omega, by omega⟩, fun h => ⟨⟨by omega, by omega⟩, ⟨by omega, by omega⟩, fun _ => ?_, fun h2 => absurd h h2⟩, fun h => ?_⟩
    · have ef : mvf C (mS C a).2 a = -1 := by
        rcases mvf_rg C (mS C a).2 a with g | ⟨c, _, g1, g2, _⟩
        · exact g.1
        · rw [hN c (by omega)] at g2
          cases g2
      have es : mS C (a + 1) = mS C a := by
        change (if a < (mS C a).1 then mS C a else if mvf C (mS C a).2 a = -1 then mS C a else _) = _
        rw [if_neg (by omega), if_pos ef]
      refine ⟨(20 - (a + 1)) * 1000, by omega, a + 1, ?_, by omega, by omega, by rw [es]; omega, rfl, hF, hB1, by rw [es]; exact hT, fun x hx => ?_⟩
      · unfold mgn
        rw [sm_succ _ (Nat.zero_le _)]
        have : gn C a = 0 := if_pos (by rw [em]; exact ef)
        omega
      · rw [hD x hx]
        by_cases c : x = a
        · subst c
          rw [if_neg (Nat.lt_irrefl _), if_pos (by omega), em, ef]
        · by_cases d : x < a
          · rw [if_pos d, if_pos (by omega)]
          · rw [if_neg d, if_neg (by omega)]
    · have lb : b < cn C 1 := by omega
      have zb := hW.e (C := C) (t := 1) lb
      have go : mvc C (mS C a).2 a b = false → ∃ n1 : Nat, n1 < (20 - a) * 1000 - 1 - b ∧ ∃ a' b' : Nat, p0 - mgn C a = p0 - mgn C a' ∧ (a : Int) = a' ∧ (b : Int) + 1 = b' ∧ a' < cn C 0 ∧ b' ≤ cn C 1 ∧ (mS C a').1 ≤ a' ∧ n1 = (20 - a') * 1000 - 1 - b' ∧ Fr PTr M M1 ∧ Bd M1 ∧ TaM M1 (mS C a').2 ∧ (∀ x : Nat, x < cn C 0 → M1 13 10 x = if x < a' then mt C x else -1) ∧ (∀ c : Nat, c < b' → mvc C (mS C a').2 a' c = false) := by
        intro hc
        refine ⟨(20 - a) * 1000 - 1 - (b + 1), by omega, a, b + 1, rfl, rfl, by omega, ha, by omega, hs, rfl, hF, hB1, hT, hD, fun c hc' => ?_⟩
        by_cases d : c = b
        · rw [d]; exact hc
        · exact hN c (by omega)
      rw [Int.toNat_natCast, show (12 + (b : Int)).toNat = 12 + b from by omega, S1.s0 ha, S1.s1 lb]
      refine ⟨⟨by omega, by omega⟩, ⟨by omega, by omega⟩, ⟨by omega, by omega⟩, ⟨by omega, by omega⟩, fun h2 => go (bo_f (fun z => by have := z.2.1.1; omega)), fun h2 => ?_⟩
      refine sp_canMove hW C1 hB1 S1 I1 hT ha lb rfl rfl (fun v hv hi => ⟨by rcases hv with z | z <;> rw [z] <;> exact ⟨by decide, by decide⟩, fun h3 => ?_, fun h3 => go ?_⟩)
      · have yes := hi.mp (by omega)
        have ef : mvf C (mS C a).2 a = b := by
          rcases mvf_rg C (mS C a).2 a with g | ⟨c, g0, g1, g2, g3⟩
          · rw [g.2 b lb] at yes
            cases yes
          · have : c = b := by
              rcases Nat.lt_trichotomy c b with q | q | q
              · rw [hN c q] at g2
                cases g2
              · exact q
              · rw [g3 b q] at yes
                cases yes
            subst this
            exact g0
        rw [C1 5 1 rfl, hW.n (t := 1) (by omega)]
        refine ⟨⟨by omega, by omega⟩, ⟨by omega, by omega⟩, fun h4 => absurd h4 (by omega), fun _ => ⟨⟨by omega, by omega⟩, fun M25 e25 => ?_⟩⟩
        subst e25
        refine ⟨(20 - a) * 1000 - 100 - 0, by omega, a, b, 0, rfl, rfl, rfl, rfl, ha, lb, by omega, hs, rfl, hF.set rfl, hB1.set (by omega) (by omega), fun y hy => ?_, fun x hx => ?_, ef⟩
        · rw [mset_ne (by omega)]
          constructor
          · intro h
            simp only [Bool.or_eq_true, Bool.and_eq_true, decide_eq_true_eq] at h
            rcases h with h | h
            · exact (hT y hy).1 h
            · omega
          · intro h
            simp only [Bool.or_eq_false_iff] at h
            exact (hT y hy).2 h.1
        · rw [mset_i, hD x hx]
          by_cases c : x = a
          · subst c
            rw [if_pos rfl, if_pos (by omega), em, ef]
          · rw [if_neg c]
            by_cases d : x < a
            · rw [if_pos d, if_pos (by omega)]
            · rw [if_neg d, if_neg (by omega)]
      · cases c : mvc C (mS C a).2 a b with
        | false => rfl
        | true => exact absurd (hi.mpr c) (by omega)
  · intro n x2 x3 x4 x5 M1 ⟨a, b, k, e2, e3, e4, e5, ha, hb, hk, hs, hn, hF, hB1, hT, hD, ef⟩
    subst e2; subst e3; subst e4; subst e5; subst hn
    have C1 : Core C M1 := hC.fr hF rfl rfl rfl rfl rfl rfl rfl
    have S1 : Sz C M1 := hS.fr hF rfl
    have za := hW.e (C := C) (t := 0) ha
    have zb := hW.e (C := C) (t := 1) hb
    have em : mt C a = b := by
      have : mt C a = mvf C (mS C a).2 a := if_neg (by omega)
      rw [this, ef]
    have hc : mvc C (mS C a).2 a b = true := by
      rcases mvf_rg C (mS C a).2 a with g | ⟨c, g0, g1, g2, g3⟩
      · rw [g.1] at ef
        omega
      · have : c = b := by omega
        subst this
        exact g2
    have sz := (bo_iff.mp hc).2.1.1
    unfold wph_X11_travels_113 wpj_X11_travels_197
    rw [Int.toNat_natCast, S1.s0 ha]
    refine ⟨⟨by omega, by omega⟩, ⟨by omega, by omega⟩, ⟨by omega, by omega⟩, fun h => ⟨⟨by omega, by omega⟩, sp_deletingAll hW C1 (i := a) (j := ce C 0 a) rfl (by omega) (by omega) (by omega) ?_⟩, fun h => ⟨⟨by omega, by omega⟩, fun M40 e40 => ?_⟩⟩
    · rw [show (12 + (b : Int)).toNat = 12 + b from by omega, S1.s1 hb]
      refine ⟨⟨by omega, by omega⟩, sp_inserting hW C1 (i := b) (j := ce C 1 b) rfl (by omega) (by omega) (by omega) (fun y37 e37 => ⟨⟨by omega, by omega⟩, fun y39 e39 => ?_⟩)⟩
      rw [C1 7 0 rfl] at e37
      rw [S1.s0 ha] at e39
      have mj := mS_jump hs ef (ce C 0 a) za.1 (Nat.le_refl _)
      have ga : gn C a = svg C a b := by
        unfold gn
        rw [if_neg (by omega), em, Int.toNat_natCast]
      have gz : ∀ j : Nat, a + 1 ≤ j → j ≤ ce C 0 a → sm (gn C) (a + 1) j = 0 := by
        intro j
        induction j with
        | zero => intro h1 _; omega
        | succ j ih =>
          intro h1 h2
          by_cases c : a + 1 ≤ j
          · rw [sm_succ _ c, ih c (by omega)]
            have : gn C j = 0 := if_pos (mt_jump hs ef (by omega) (by omega))
            omega
          · rw [sm_self _ (by omega)]
      have mg : mgn C (ce C 0 a) = mgn C a + svg C a b := by
        unfold mgn
        rw [sm_app _ (i := 0) (j := a) (k := ce C 0 a) (Nat.zero_le _) (by omega), sm_head _ (i := a) za.1, gz _ (by omega) (Nat.le_refl _), ga]
        omega
      have sv : svg C a b = sm (cdl C) a (ce C 0 a) + sm (cil C) b (ce C 1 b) - C 7 0 := rfl
      refine ⟨(20 - ce C 0 a) * 1000, by omega, ce C 0 a, by omega, by omega, by omega, by rw [mj]; exact Nat.le_refl _, rfl, hF, hB1, fun y hy => ?_, fun x hx => ?_⟩
      · rw [mj]
        rw [show b + k = ce C 1 b from by omega] at hT
        exact hT y hy
      · rw [hD x hx]
        by_cases c : x < a + 1
        · rw [if_pos c, if_pos (by omega)]
        · rw [if_neg c]
          by_cases d : x < ce C 0 a
          · rw [if_pos d, mt_jump hs ef (by omega) d]
          · rw [if_neg d]
    · rw [show ((b : Int) + (k : Int)).toNat = b + k from by omega] at e40
      subst e40
      refine ⟨(20 - a) * 1000 - 100 - (k + 1), by omega, a, b, k + 1, rfl, rfl, rfl, by omega, ha, hb, by omega, hs, rfl, hF.set rfl, hB1.set (by omega) (by omega), fun y hy => ?_, fun x hx => by rw [mset_ne (by omega)]; exact hD x hx, ef⟩
      rw [mset_i]
      have q := hT y hy
      simp only [Bool.or_eq_true, Bool.and_eq_true, decide_eq_true_eq, Bool.or_eq_false_iff, Bool.and_eq_false_iff, decide_eq_false_iff_not] at q ⊢
      by_cases c : y = b + k
      · rw [if_pos c]
        exact ⟨fun _ => rfl, fun h => by omega⟩
      · rw [if_neg c]
        constructor
        · intro h
          refine q.1 ?_
          rcases h with h | h
          · exact Or.inl h
          · exact Or.inr (by omega)
        · intro h
          exact q.2 ⟨h.1, by omega⟩
end TRAV
