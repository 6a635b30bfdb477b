/-! whether subtrees are equal, unmarked, and what they cost: the methods -/
section SAME
variable {C : Nat → Nat → Int} {M : Mem} {Q : Int → Mem → Prop} {t a u b o o' : Nat} {p0 p1 p3 : Int}
set_option maxHeartbeats 4000000 in
theorem sp_isSame (hW : WF C) (hC : Core C M) (hB : Bd M) (hS : Sz C M) (ht : t < 2) (hu : u < 2) (ha : a < cn C t) (hb : b < cn C u) (e0 : p0 = ((12 * t + a : Nat) : Int)) (e1 : p1 = ((12 * u + b : Nat) : Int)) (K : ∀ v : Int, (v = 0 ∨ v = 1) → (v = 1 ↔ Sm C t a u b) → Q v M) : wp_X11_isSame M p0 p1 Q := by
  subst e0; subst e1
  have na := hW.n12 ht
  have nb := hW.n12 hu
  have za := hW.e (C := C) (t := t) ha
  have zb := hW.e (C := C) (t := u) hb
  have iff := Sm_L hW ht hu ha hb
  unfold wp_X11_isSame
  refine ⟨fun n x3 x4 M1 => ∃ k : Nat, x4 = k ∧ k ≤ ce C t a - a ∧ n = 50 - k ∧ (x3 = 0 ∨ x3 = 1) ∧ (x3 = 1 ↔ (ce C t a - a = ce C u b - b ∧ ∀ j : Nat, j < k → C 2 (12 * t + (a + j)) = C 2 (12 * u + (b + j)) ∧ C 3 (12 * t + (a + j)) = C 3 (12 * u + (b + j)) ∧ (cL C t (a + j) : Int) - cL C t a = (cL C u (b + j) : Int) - cL C u b)) ∧ M = M1, ?_, ?_⟩
  · unfold wpe_X11_isSame
    rw [Int.toNat_natCast, Int.toNat_natCast, hS t a ht ha, hS u b hu hb]
    unfold wpj_X11_isSame_20
    refine ⟨⟨by omega, by omega⟩, ⟨by omega, by omega⟩, ⟨by omega, by omega⟩, ⟨by omega, by omega⟩, fun h => ⟨_, 0, rfl, Nat.zero_le _, rfl, Or.inl rfl, ⟨fun z => by omega, fun z => by omega⟩, rfl⟩, fun h => ⟨_, 0, rfl, Nat.zero_le _, rfl, Or.inr rfl, ⟨fun _ => ⟨by omega, fun j hj => absurd hj (Nat.not_lt_zero _)⟩, fun _ => rfl⟩, rfl⟩⟩
  · intro n x3 x4 M1 ⟨k, e4, hk, hn, h01, hi, eM⟩
    subst e4; subst hn; subst eM
    unfold wph_X11_isSame_24
    rw [Int.toNat_natCast, hS t a ht ha]
    have r3 : inR x3 := by rcases h01 with z | z <;> rw [z] <;> exact ⟨by decide, by decide⟩
    refine ⟨⟨by omega, by omega⟩, ⟨by omega, by omega⟩, ⟨by omega, by omega⟩, fun h => ⟨h01, K x3 h01 ?_⟩, fun h => ⟨r3, fun h2 => ⟨h01, K x3 h01 ?_⟩, fun h2 => ?_⟩⟩
    · rw [iff, hi]
      unfold SmL
      constructor
      · intro z
        exact ⟨z.1, fun j hj => z.2 j (by omega)⟩
      · intro z
        exact ⟨z.1, fun j hj => z.2 j (by omega)⟩
    · rw [iff]
      constructor
      · intro z
        omega
      · intro z
        exact hi.mpr ⟨z.1, fun j hj => z.2 j (by omega)⟩
    · have h1 := hi.mp (by omega)
      have no : ¬ (C 2 (12 * t + (a + k)) = C 2 (12 * u + (b + k)) ∧ C 3 (12 * t + (a + k)) = C 3 (12 * u + (b + k)) ∧ (cL C t (a + k) : Int) - cL C t a = (cL C u (b + k) : Int) - cL C u b) → wpj_X11_isSame_120 ((12 * t + a : Nat) : Int) ((12 * u + b : Nat) : Int) (k : Int) M (fun (x3 x4 : Int) (M1 : Mem) => ∃ n1 : Nat, n1 < 50 - k ∧ ∃ k : Nat, x4 = k ∧ k ≤ ce C t a - a ∧ n1 = 50 - k ∧ (x3 = 0 ∨ x3 = 1) ∧ (x3 = 1 ↔ (ce C t a - a = ce C u b - b ∧ ∀ j : Nat, j < k → C 2 (12 * t + (a + j)) = C 2 (12 * u + (b + j)) ∧ C 3 (12 * t + (a + j)) = C 3 (12 * u + (b + j)) ∧ (cL C t (a + j) : Int) - cL C t a = (cL C u (b + j) : Int) - cL C u b)) ∧ M = M1) Q := by
        intro hn
        unfold wpj_X11_isSame_120 wpj_X11_isSame_121
        exact ⟨50 - (k + 1), by omega, k + 1, by omega, by omega, rfl, Or.inl rfl, ⟨fun z => by omega, fun z => absurd (z.2 k (by omega)) hn⟩, rfl⟩
      rw [show (((12 * t + a : Nat) : Int) + (k : Int)).toNat = 12 * t + (a + k) from by omega, show (((12 * u + b : Nat) : Int) + (k : Int)).toNat = 12 * u + (b + k) from by omega, Int.toNat_natCast, hC 2 _ rfl, hC 2 _ rfl, hC 3 _ rfl, hC 3 _ rfl, hC 1 _ rfl, hC 1 _ rfl, hC 1 _ rfl, hC 1 _ rfl, hW.l ht (p := a + k) (by omega), hW.l ht ha, hW.l hu (p := b + k) (by omega), hW.l hu hb]
      have k1 := hW.k ht (p := a + k) (by omega)
      have k2 := hW.k hu (p := b + k) (by omega)
      have l1 := hW.lb ht (p := a + k) (by omega)
      have l2 := hW.lb hu (p := b + k) (by omega)
      have v1 := hW.l12 ht (p := a + k) (by omega)
      have v2 := hW.l12 ht ha
      have v3 := hW.l12 hu (p := b + k) (by omega)
      have v4 := hW.l12 hu hb
      refine ⟨⟨by omega, by omega⟩, ⟨by omega, by omega⟩, ⟨by omega, by omega⟩, ⟨by omega, by omega⟩, fun h3 => no (fun z => h3 z.1), fun h3 => ⟨⟨by omega, by omega⟩, ⟨by omega, by omega⟩, ⟨by omega, by omega⟩, ⟨by omega, by omega⟩, fun h4 => no (fun z => h4 z.2.1), fun h4 => ⟨⟨by omega, by omega⟩, ⟨by omega, by omega⟩, ⟨by omega, by omega⟩, ⟨by omega, by omega⟩, ⟨by omega, by omega⟩, ⟨by omega, by omega⟩, fun h5 => no (fun z => h5 z.2.2), fun h5 => ?_⟩⟩⟩
      unfold wpj_X11_isSame_121
      refine ⟨50 - (k + 1), by omega, k + 1, by omega, by omega, rfl, Or.inr rfl, ⟨fun _ => ⟨h1.1, fun j hj => ?_⟩, fun _ => rfl⟩, rfl⟩
      by_cases c : j = k
      · subst c
        exact ⟨Decidable.byContradiction h3, Decidable.byContradiction h4, Decidable.byContradiction h5⟩
      · exact h1.2 j (by omega)
set_option maxHeartbeats 4000000 in
theorem sp_same (hW : WF C) (hX : Cls C M) (hB : Bd M) (ho : o = 11 + t) (ho' : o' = 11 + u) (ht : t < 2) (hu : u < 2) (ha : a < cn C t) (hb : b < cn C u) (e1 : p1 = (nd C t a : Int)) (e3 : p3 = (nd C u b : Int)) (K : ∀ v : Int, (v = 0 ∨ v = 1) → (v = 1 ↔ Sm C t a u b) → Q v M) : wp_X9_sameSubtrees M o p1 o' p3 Q := by
  subst e1; subst e3
  have na := hW.n12 ht
  have nb := hW.n12 hu
  have za := hW.e (C := C) (t := t) ha
  have zb := hW.e (C := C) (t := u) hb
  have la := hW.ndl ht ha
  have lb := hW.ndl hu hb
  have K0 : ¬ Sm C t a u b → Q 0 M := fun h => K 0 (Or.inl rfl) ⟨fun z => by omega, fun z => absurd z h⟩
  unfold wp_X9_sameSubtrees
  refine ⟨fun n x4 M1 => ∃ k : Nat, x4 = k ∧ k ≤ ce C t a - a ∧ n = 50 - k ∧ (ce C t a - a = ce C u b - b ∧ ∀ j : Nat, j < k → C 2 (12 * t + (a + j)) = C 2 (12 * u + (b + j)) ∧ C 3 (12 * t + (a + j)) = C 3 (12 * u + (b + j)) ∧ ce C t (a + j) - (a + j) = ce C u (b + j) - (b + j)) ∧ M = M1, ?_, ?_⟩
  · unfold wpe_X9_sameSubtrees
    rw [Int.toNat_natCast, Int.toNat_natCast, hX.sz ho ht ha, hX.sz ho' hu hb]
    exact ⟨⟨by omega, by omega⟩, ⟨by omega, by omega⟩, ⟨by omega, by omega⟩, ⟨by omega, by omega⟩, fun h => ⟨_, 0, rfl, Nat.zero_le _, rfl, ⟨by omega, fun j hj => absurd hj (Nat.not_lt_zero _)⟩, rfl⟩, fun h => K0 (fun z => by have := z.1; omega)⟩
  · intro n x4 M1 ⟨k, e4, hk, hn, hi, eM⟩
    subst e4; subst hn; subst eM
    unfold wph_X9_sameSubtrees_20
    rw [Int.toNat_natCast, Int.toNat_natCast, hX.sz ho ht ha, hX.pp ho ht ha, hX.pp ho' hu hb]
    refine ⟨⟨by omega, by omega⟩, ⟨by omega, by omega⟩, ⟨by omega, by omega⟩, fun h => K 1 (Or.inr rfl) ⟨fun _ => ⟨hi.1, fun j hj => hi.2 j (by omega)⟩, fun _ => rfl⟩, fun h => ⟨⟨by omega, by omega⟩, ⟨by omega, by omega⟩, fun y12 e12 => ⟨⟨by omega, by omega⟩, ⟨by omega, by omega⟩, fun y15 e15 => ?_⟩⟩⟩
    rw [show ((a : Int) + (k : Int)).toNat = a + k from by omega, hX.pre ho ht (p := a + k) (by omega)] at e12
    rw [show ((b : Int) + (k : Int)).toNat = b + k from by omega, hX.pre ho' hu (p := b + k) (by omega)] at e15
    subst e12; subst e15
    have lk := hW.ndl ht (p := a + k) (by omega)
    have lk' := hW.ndl hu (p := b + k) (by omega)
    have zk := hW.e (C := C) (t := t) (p := a + k) (by omega)
    have zk' := hW.e (C := C) (t := u) (p := b + k) (by omega)
    simp only [Int.toNat_natCast]
    rw [hX.kd ho ht (p := a + k) (by omega), hX.kd ho' hu (p := b + k) (by omega), hX.lb ho ht (p := a + k) (by omega), hX.lb ho' hu (p := b + k) (by omega), hX.sz ho ht (p := a + k) (by omega), hX.sz ho' hu (p := b + k) (by omega)]
    have k1 := hW.k ht (p := a + k) (by omega)
    have k2 := hW.k hu (p := b + k) (by omega)
    have l1 := hW.lb ht (p := a + k) (by omega)
    have l2 := hW.lb hu (p := b + k) (by omega)
    refine ⟨⟨by omega, by omega⟩, ⟨by omega, by omega⟩, ⟨by omega, by omega⟩, ⟨by omega, by omega⟩, fun h3 => K0 (fun z => h3 (z.2 k (by omega)).1), fun h3 => ⟨⟨by omega, by omega⟩, ⟨by omega, by omega⟩, ⟨by omega, by omega⟩, ⟨by omega, by omega⟩, fun h4 => K0 (fun z => h4 (z.2 k (by omega)).2.1), fun h4 => ⟨⟨by omega, by omega⟩, ⟨by omega, by omega⟩, ⟨by omega, by omega⟩, ⟨by omega, by omega⟩, fun h5 => ⟨50 - (k + 1), by omega, k + 1, by omega, by omega, rfl, ⟨hi.1, fun j hj => ?_⟩, trivial⟩, fun h5 => K0 (fun z => h5 (by have := (z.2 k (by omega)).2.2; omega))⟩⟩⟩
    by_cases c : j = k
    · subst c
      exact ⟨Decidable.byContradiction h3, Decidable.byContradiction h4, by omega⟩
    · exact hi.2 j (by omega)
theorem sp_isUnmarked {po pk : Nat} (hW : WF C) (hX : Cls C M) (hB : Bd M) (ho : o = 11 + t) (ht : t < 2) (ha : a < cn C t) (e0 : p0 = (nd C t a : Int)) (K : ∀ v : Int, (v = 0 ∨ v = 1) → (v = 1 ↔ ∀ k : Nat, a ≤ k → k < ce C t a → M po pk (nd C t k) = -1) → Q v M) : wp_X9_isUnmarked M o p0 po pk 12 Q := by
  subst e0
  have na := hW.n12 ht
  have za := hW.e (C := C) (t := t) ha
  have la := hW.ndl ht ha
  unfold wp_X9_isUnmarked
  refine ⟨fun n x3 M1 => ∃ k : Nat, x3 = k ∧ a ≤ k ∧ k ≤ ce C t a ∧ n = 50 - k ∧ (∀ j : Nat, a ≤ j → j < k → M po pk (nd C t j) = -1) ∧ M = M1, ?_, ?_⟩
  · unfold wpe_X9_isUnmarked
    rw [Int.toNat_natCast, hX.pp ho ht ha]
    exact ⟨⟨by omega, by omega⟩, fun y2 e2 => ⟨_, a, e2, Nat.le_refl _, by omega, rfl, fun j h1 h2 => by omega, rfl⟩⟩
  · intro n x3 M1 ⟨k, e3, h1, h2, hn, hi, eM⟩
    subst e3; subst hn; subst eM
    unfold wph_X9_isUnmarked_7
    refine sp_end hW hX ho ht ha rfl ⟨⟨by omega, by omega⟩, ⟨by omega, by omega⟩, fun h => K 1 (Or.inr rfl) ⟨fun _ j g1 g2 => hi j g1 (by omega), fun _ => rfl⟩, fun h => ?_⟩
    have lk := hW.ndl ht (p := k) (by omega)
    rw [Int.toNat_natCast, hX.pre ho ht (p := k) (by omega), Int.toNat_natCast]
    refine ⟨⟨by omega, by omega⟩, ⟨by omega, by omega⟩, hB.r _ _ _, fun h3 => ⟨50 - (k + 1), by omega, k + 1, by omega, by omega, by omega, rfl, fun j g1 g2 => ?_, rfl⟩, fun h3 => K 0 (Or.inl rfl) ⟨fun z => by omega, fun z => absurd (z k h1 (by omega)) h3⟩⟩
    by_cases c : j = k
    · rw [c]
      exact h3
    · exact hi j g1 (by omega)
theorem sp_subtreePrice {w : Nat} (hW : WF C) (hX : Cls C M) (hB : Bd M) (ho : o = 11 + t) (ht : t < 2) (hw : w = 1 - t) (ha : a < cn C t) (e0 : p0 = (nd C t a : Int)) (K : Q (sm (al C t) a (ce C t a)) M) : wp_X9_subtreePrice M o p0 1 w 4 Q := by
  subst e0
  have na := hW.n12 ht
  have za := hW.e (C := C) (t := t) ha
  have la := hW.ndl ht ha
  unfold wp_X9_subtreePrice
  refine ⟨fun n x3 x4 M1 => ∃ k : Nat, x4 = k ∧ a ≤ k ∧ k ≤ ce C t a ∧ n = 50 - k ∧ x3 = sm (al C t) a k ∧ M = M1, ?_, ?_⟩
  · unfold wpe_X9_subtreePrice
    rw [Int.toNat_natCast, hX.pp ho ht ha]
    exact ⟨⟨by omega, by omega⟩, fun y2 e2 => ⟨_, a, e2, Nat.le_refl _, by omega, rfl, (sm_self _ (Nat.le_refl _)).symm, rfl⟩⟩
  · intro n x3 x4 M1 ⟨k, e4, h1, h2, hn, e3, eM⟩
    subst e4; subst hn; subst eM; subst e3
    unfold wph_X9_subtreePrice_10
    refine sp_end hW hX ho ht ha rfl ⟨⟨by omega, by omega⟩, ⟨by omega, by omega⟩, fun h => ?_, fun h => ?_⟩
    · rw [show k = ce C t a from by omega]
      exact K
    · have lk := hW.ndl ht (p := k) (by omega)
      have kk := hW.k ht (p := k) (by omega)
      rw [Int.toNat_natCast, hX.pre ho ht (p := k) (by omega), Int.toNat_natCast, hX.kd ho ht (p := k) (by omega), al_rd hW hX ht hw (p := k) (by omega)]
      exact ⟨⟨by omega, by omega⟩, ⟨by omega, by omega⟩, ⟨by omega, by omega⟩, fun y11 e11 => ⟨50 - (k + 1), by omega, k + 1, by omega, by omega, by omega, rfl, by rw [e11, sm_succ _ h1], rfl⟩⟩
/-- what a move saves -/
def svg (C : Nat → Nat → Int) (a b : Nat) : Int := sm (cdl C) a (ce C 0 a) + sm (cil C) b (ce C 1 b) - C 7 0
theorem svg_bd (hW : WF C) (ha : a < cn C 0) (hb : b < cn C 1) : -50 ≤ svg C a b ∧ svg C a b ≤ 1200 ∧ 0 ≤ sm (cdl C) a (ce C 0 a) ∧ sm (cdl C) a (ce C 0 a) ≤ 600 ∧ 0 ≤ sm (cil C) b (ce C 1 b) ∧ sm (cil C) b (ce C 1 b) ≤ 600 := by
  have n0 := hW.n12 (t := 0) (by omega)
  have n1 := hW.n12 (t := 1) (by omega)
  have za := hW.e (C := C) (t := 0) ha
  have zb := hW.e (C := C) (t := 1) hb
  have s1 := sm_bd (cdl C) (i := a) (j := ce C 0 a) (fun k _ h => hW.dl (by omega))
  have s2 := sm_bd (cil C) (i := b) (j := ce C 1 b) (fun k _ h => hW.il (by omega))
  have m := hW.mv
  unfold svg
  omega
theorem sp_gain (hW : WF C) (hX : Cls C M) (hB : Bd M) (ha : a < cn C 0) (hb : b < cn C 1) (e0 : p0 = (nd C 0 a : Int)) (e1 : p1 = (nd C 1 b : Int)) (K : Q (svg C a b) M) : wp_X5_gain M p0 p1 Q := by
  unfold wp_X5_gain wpe_X5_gain
  refine sp_subtreePrice hW hX hB (t := 0) rfl (by omega) rfl ha e0 (sp_subtreePrice hW hX hB (t := 1) rfl (by omega) rfl hb e1 ?_)
  rw [hX.2.2.2]
  exact K
theorem sp_occurs {p1 : Int} {m : Nat} (hW : WF C) (hX : Cls C M) (hB : Bd M) (ho : o = 11 + t) (ho' : o' = 11 + u) (ht : t < 2) (hu : u < 2) (hm : m ≤ cn C t) (hb : b < cn C u) (e1 : p1 = m) (e3 : p3 = (nd C u b : Int)) (K : ∀ v : Int, (v = 0 ∨ v = 1) → (v = 1 ↔ ∃ a : Nat, a < cn C t ∧ nd C t a < m ∧ Sm C t a u b) → Q v M) : wp_X9_occursAmong M o p1 o' p3 Q := by
  subst e1
  have na := hW.n12 ht
  unfold wp_X9_occursAmong
  refine ⟨fun n x4 M1 => ∃ k : Nat, x4 = k ∧ k ≤ m ∧ n = m - k ∧ (∀ a : Nat, a < cn C t → nd C t a < k → ¬ Sm C t a u b) ∧ M = M1, ?_, ?_⟩
  · exact ⟨_, 0, rfl, Nat.zero_le _, rfl, fun a _ h => absurd h (Nat.not_lt_zero _), rfl⟩
  · intro n x4 M1 ⟨k, e4, hk, hn, hi, eM⟩
    subst e4; subst hn; subst eM
    unfold wph_X9_occursAmong_3
    refine ⟨⟨by omega, by omega⟩, ⟨by omega, by omega⟩, fun h => K 0 (Or.inl rfl) ⟨fun z => by omega, fun ⟨a, g1, g2, g3⟩ => absurd g3 (hi a g1 (by omega))⟩, fun h => ?_⟩
    obtain ⟨a, ha, hnd⟩ := hW.surj ht (x := k) (by omega)
    refine sp_same hW hX hB ho ho' ht hu ha hb (by rw [hnd]) e3 (fun v hv hs => ⟨by rcases hv with z | z <;> rw [z] <;> exact ⟨by decide, by decide⟩, fun h2 => ⟨m - (k + 1), by omega, k + 1, by omega, by omega, rfl, fun a' g1 g2 g3 => ?_, rfl⟩, fun h2 => K 1 (Or.inr rfl) ⟨fun _ => ⟨a, ha, by omega, hs.mp (by omega)⟩, fun _ => rfl⟩⟩)
    by_cases c : nd C t a' = k
    · have := hW.inj ht g1 ha (by omega)
      subst this
      have := hs.mpr g3
      omega
    · exact hi a' g1 (by omega) g3
end SAME
