/-! both sides lay a new leaf -/
theorem eN_congr {L L' : Nat → Nat} {n p : Nat} (h : ∀ q : Nat, q < n → L' q = L q) (hp : p < n) : eN L' n p = eN L n p := by
  have a := eN_spec (L := L) hp
  refine isE_uniq (eN_spec (L := L') hp) ⟨a.1, a.2.1, fun q h1 h2 => ?_, fun h1 => ?_⟩
  · rw [h p hp, h q (by have := a.2.1; omega)]
    exact a.2.2.1 q h1 h2
  · rw [h p hp, h _ h1]
    exact a.2.2.2 h1
theorem po_congr {L L' : Nat → Nat} {n p : Nat} (h : ∀ q : Nat, q < n → L' q = L q) (hp : p < n) : po L' n p = po L n p := by
  unfold po
  rw [eN_congr h hp, h p hp]
theorem par_congr {L L' : Nat → Nat} {n p : Nat} (h : ∀ q : Nat, q < n → L' q = L q) (w : WL L n) (w' : WL L' n) (h0 : 0 < p) (hp : p < n) : par L' p = par L p := by
  have a := par_spec w h0 hp
  refine par_uniq w' hp a.1 ?_ (fun r h1 h2 => ?_)
  · rw [h p hp, h _ (by omega)]
    omega
  · rw [h p hp, h r (by omega)]
    exact a.2.2 r h1 h2
section LAYS
variable {C C' : Nat → Nat → Int} {M : Mem} {t s L o : Nat} {kd lb : Int}
def Pcore (o k : Nat) : Bool := o == 13 && (k == 0 || k == 1 || k == 2 || k == 3 || k == 5)
theorem Pcore_no {o k : Nat} (h : ¬ (o = 13 ∧ (k < 4 ∨ k = 5))) : Pcore o k = false := by
  cases e : Pcore o k with
  | false => rfl
  | true =>
    refine absurd ?_ h
    simp only [Pcore, Bool.and_eq_true, Bool.or_eq_true, beq_iff_eq] at e
    omega
theorem Pcore_yes {k : Nat} (h : k < 4 ∨ k = 5) : Pcore 13 k = true := by
  unfold Pcore
  have : k = 0 ∨ k = 1 ∨ k = 2 ∨ k = 3 ∨ k = 5 := by omega
  rcases this with rfl | rfl | rfl | rfl | rfl <;> rfl
theorem sp_lays {Q : Mem → Prop} {p0 p1 p2 p3 : Int} (hC : Core C M) (hB : Bd M) (ht : t < 2) (h5 : C 5 t = (cn C t : Int)) (h12 : cn C t < 12) (hs : s ≤ cn C t) (hL : L < 12) (hk : 0 ≤ kd ∧ kd ≤ 3) (hl : 0 ≤ lb ∧ lb ≤ 99) (e0 : p0 = t) (e1 : p1 = s) (e2 : p2 = (cn C t : Int)) (e3 : p3 = L) (K : ∀ M' : Mem, Fr Pcore M M' → Bd M' → Ins C (M' 13) t s L kd lb → Q M') : wp_X11_lays M p0 p1 p2 p3 kd lb Q := by
  subst e0; subst e1; subst e2; subst e3
  have hc : ∀ k i : Nat, k < 4 ∨ k = 5 ∨ k = 6 ∨ k = 7 → M 13 k i = C k i := fun k i hk => hC k i (by
    have : k = 0 ∨ k = 1 ∨ k = 2 ∨ k = 3 ∨ k = 5 ∨ k = 6 ∨ k = 7 := by omega
    rcases this with rfl | rfl | rfl | rfl | rfl | rfl | rfl <;> rfl)
  unfold wp_X11_lays
  refine ⟨fun n x7 x8 M1 => Fr Pcore M M1 ∧ Bd M1 ∧ x7 = 12 * (t : Int) ∧ ∃ j : Nat, x8 = 12 * (t : Int) + j ∧ n = j ∧ s ≤ j ∧ j ≤ cn C t ∧ (∀ i : Nat, M1 13 5 i = C 5 i) ∧ (∀ k i : Nat, k < 4 → i ≤ 12 * t + j ∨ 12 * t + cn C t < i → M1 13 k i = C k i) ∧ (∀ k p : Nat, k < 4 → j ≤ p → p < cn C t → M1 13 k (12 * t + (p + 1)) = C k (12 * t + p)), ?_, ?_⟩
  · unfold wpe_X11_lays
    intro y1 e1
    subst e1
    refine ⟨by omega, fun y3 e3 => ?_⟩
    rw [Int.toNat_natCast, hc 5 t (by omega), h5] at e3
    subst e3
    exact ⟨_, Fr.rf, hB, rfl, cn C t, rfl, rfl, hs, Nat.le_refl _, fun i => hc 5 i (by omega), fun k i hk _ => hc k i (by omega), fun k p hk h1 h2 => by omega⟩
  · intro n x7 x8 M1 ⟨F1, B1, ex7, j, ex8, hn, hj, hjn, H5, Hlo, Hhi⟩
    subst ex7; subst ex8
    unfold wph_X11_lays_17
    rw [show (12 * (t : Int) + (s : Int)).toNat = 12 * t + s from by omega, show (12 * (t : Int) + (j : Int)).toNat = 12 * t + j from by omega, show (12 * (t : Int) + (j : Int) - 1).toNat = 12 * t + j - 1 from by omega, Int.toNat_natCast]
    refine ⟨⟨by omega, by omega⟩, ⟨by omega, by omega⟩, fun h => ?_, fun h => ?_⟩
    · have ej : j = s := by omega
      subst ej
      refine ⟨by omega, fun M7 e7 => ⟨by omega, fun M9 e9 => ⟨by omega, fun M11 e11 => ⟨by omega, fun M13 e13 => ⟨by omega, by omega, fun M16 e16 => ?_⟩⟩⟩⟩⟩
      have v5 : M13 13 5 t = (cn C t : Int) := by
        rw [e13, mset_ne (by omega), e11, mset_ne (by omega), e9, mset_ne (by omega), e7, mset_ne (by omega), H5, h5]
      rw [v5] at e16
      have V5 : ∀ i : Nat, M16 13 5 i = if i = t then (cn C t : Int) + 1 else C 5 i := fun i => by
        rw [e16, mset_i, e13, mset_ne (by omega), e11, mset_ne (by omega), e9, mset_ne (by omega), e7, mset_ne (by omega), H5]
      have V0 : ∀ i : Nat, M16 13 0 i = if i = 12 * t + j then (cn C t : Int) else M1 13 0 i := fun i => by
        rw [e16, mset_ne (by omega), e13, mset_ne (by omega), e11, mset_ne (by omega), e9, mset_ne (by omega), e7, mset_i]
      have V1 : ∀ i : Nat, M16 13 1 i = if i = 12 * t + j then (L : Int) else M1 13 1 i := fun i => by
        rw [e16, mset_ne (by omega), e13, mset_ne (by omega), e11, mset_ne (by omega), e9, mset_i, e7, mset_ne (by omega)]
      have V2 : ∀ i : Nat, M16 13 2 i = if i = 12 * t + j then kd else M1 13 2 i := fun i => by
        rw [e16, mset_ne (by omega), e13, mset_ne (by omega), e11, mset_i, e9, mset_ne (by omega), e7, mset_ne (by omega)]
      have V3 : ∀ i : Nat, M16 13 3 i = if i = 12 * t + j then lb else M1 13 3 i := fun i => by
        rw [e16, mset_ne (by omega), e13, mset_i, e11, mset_ne (by omega), e9, mset_ne (by omega), e7, mset_ne (by omega)]
      have V : ∀ k i : Nat, k < 4 → i ≠ 12 * t + j → M16 13 k i = M1 13 k i := fun k i hk hi => by
        have : k = 0 ∨ k = 1 ∨ k = 2 ∨ k = 3 := by omega
        rcases this with rfl | rfl | rfl | rfl
        · rw [V0, if_neg hi]
        · rw [V1, if_neg hi]
        · rw [V2, if_neg hi]
        · rw [V3, if_neg hi]
      have F : Fr Pcore M M16 := by
        rw [e16, e13, e11, e9, e7]
        exact ((((F1.set (Pcore_yes (by omega))).set (Pcore_yes (by omega))).set (Pcore_yes (by omega))).set (Pcore_yes (by omega))).set (Pcore_yes (by omega))
      have B : Bd M16 := by
        rw [e16, e13, e11, e9, e7]
        exact ((((B1.set (by omega) (by omega)).set (by omega) (by omega)).set (by omega) (by omega)).set (by omega) (by omega)).set (by omega) (by omega)
      refine K M16 F B ⟨?_, fun k i hk hi => ?_, fun i hi => ?_, fun i => ?_, fun i => ?_, fun k p hk hp => ?_, fun k p hk h1 h2 => ?_, ?_, ?_, ?_, ?_⟩
      · rw [V5, if_pos rfl]
      · rw [V k i hk (by omega)]
        exact Hlo k i hk (by omega)
      · rw [V5, if_neg hi]
      · rw [F 13 6 i (Pcore_no (by omega)), hc 6 i (by omega)]
      · rw [F 13 7 i (Pcore_no (by omega)), hc 7 i (by omega)]
      · rw [V k _ hk (by omega)]
        exact Hlo k _ hk (by omega)
      · rw [V k _ hk (by omega)]
        exact Hhi k p hk h1 h2
      · rw [V0, if_pos rfl]
      · rw [V1, if_pos rfl]
      · rw [V2, if_pos rfl]
      · rw [V3, if_pos rfl]
    · have hx : 12 * t + j - 1 < 12 * t + j := by omega
      refine ⟨by omega, by omega, fun M19 e19 => ⟨by omega, by omega, fun M22 e22 => ⟨by omega, by omega, fun M25 e25 => ⟨by omega, by omega, fun M28 e28 => ?_⟩⟩⟩⟩
      have V : ∀ k i : Nat, k < 4 → M28 13 k i = if i = 12 * t + j then M1 13 k (12 * t + j - 1) else M1 13 k i := fun k i hk => by
        have : k = 0 ∨ k = 1 ∨ k = 2 ∨ k = 3 := by omega
        rcases this with rfl | rfl | rfl | rfl
        · rw [e28, mset_ne (by omega), e25, mset_ne (by omega), e22, mset_ne (by omega), e19, mset_i]
        · rw [e28, mset_ne (by omega), e25, mset_ne (by omega), e22, mset_i, e19, mset_ne (by omega), mset_ne (by omega)]
        · rw [e28, mset_ne (by omega), e25, mset_i, e22, mset_ne (by omega), mset_ne (by omega), e19, mset_ne (by omega), mset_ne (by omega)]
        · rw [e28, mset_i, e25, mset_ne (by omega), mset_ne (by omega), e22, mset_ne (by omega), mset_ne (by omega), e19, mset_ne (by omega), mset_ne (by omega)]
      have F : Fr Pcore M M28 := by
        rw [e28, e25, e22, e19]
        exact (((F1.set (Pcore_yes (by omega))).set (Pcore_yes (by omega))).set (Pcore_yes (by omega))).set (Pcore_yes (by omega))
      have B19 : Bd M19 := by
        rw [e19]
        exact B1.set (B1 _ _ _).1 (B1 _ _ _).2
      have B22 : Bd M22 := by
        rw [e22]
        exact B19.set (B19 _ _ _).1 (B19 _ _ _).2
      have B25 : Bd M25 := by
        rw [e25]
        exact B22.set (B22 _ _ _).1 (B22 _ _ _).2
      have B : Bd M28 := by
        rw [e28]
        exact B25.set (B25 _ _ _).1 (B25 _ _ _).2
      refine ⟨j - 1, by omega, F, B, rfl, j - 1, by omega, rfl, by omega, by omega, fun i => ?_, fun k i hk hi => ?_, fun k p hk h1 h2 => ?_⟩
      · rw [e28, mset_ne (by omega), e25, mset_ne (by omega), e22, mset_ne (by omega), e19, mset_ne (by omega)]
        exact H5 i
      · rw [V k i hk, if_neg (by omega)]
        exact Hlo k i hk (by omega)
      · rw [V k _ hk]
        by_cases c : p + 1 = j
        · rw [if_pos (by omega), Hlo k _ hk (by omega), show 12 * t + j - 1 = 12 * t + p from by omega]
        · rw [if_neg (by omega)]
          exact Hhi k p hk (by omega) h2
end LAYS
