/-! tools: one memory, its bounds, what a call may change -/
def Bd (M : Mem) : Prop := ∀ o k i : Nat, -2000000 ≤ M o k i ∧ M o k i ≤ 2000000
theorem Bd.r {M : Mem} (h : Bd M) (o k i : Nat) : inR (M o k i) := by
  have h1 := h o k i
  exact ⟨by omega, by omega⟩
theorem inR_lo {x : Int} (h1 : -2147483648 ≤ x) (h2 : x < 2147483648) : inR x := ⟨h1, h2⟩
theorem inR_nat {n : Nat} (h : n < 2147483648) : inR (n : Int) := ⟨by omega, by omega⟩
theorem mset_eq {M : Mem} {o k i : Nat} {v : Int} : mset M o k i v o k i = v := by
  unfold mset
  exact if_pos ⟨rfl, rfl, rfl⟩
theorem mset_ne {M : Mem} {o k i o1 k1 i1 : Nat} {v : Int} (h : ¬ (o1 = o ∧ k1 = k ∧ i1 = i)) : mset M o k i v o1 k1 i1 = M o1 k1 i1 := by
  unfold mset
  exact if_neg h
theorem mset_i {M : Mem} {o k i j : Nat} {v : Int} : mset M o k i v o k j = if j = i then v else M o k j := by
  by_cases h : j = i
  · subst h
    rw [mset_eq, if_pos rfl]
  · rw [mset_ne (by omega), if_neg h]
theorem Bd.set {M : Mem} (h : Bd M) {o k i : Nat} {v : Int} (h1 : -2000000 ≤ v) (h2 : v ≤ 2000000) : Bd (mset M o k i v) := by
  intro o1 k1 i1
  by_cases c : o1 = o ∧ k1 = k ∧ i1 = i
  · obtain ⟨rfl, rfl, rfl⟩ := c
    rw [mset_eq]
    exact ⟨h1, h2⟩
  · rw [mset_ne c]
    exact h o1 k1 i1
/-- what may change: the fields that P names -/
def Fr (P : Nat → Nat → Bool) (M M' : Mem) : Prop := ∀ o k i : Nat, P o k = false → M' o k i = M o k i
theorem Fr.rf {P : Nat → Nat → Bool} {M : Mem} : Fr P M M := fun _ _ _ _ => rfl
theorem Fr.tr {P : Nat → Nat → Bool} {M M1 M2 : Mem} (h : Fr P M M1) (h2 : Fr P M1 M2) : Fr P M M2 := fun o k i hp => (h2 o k i hp).trans (h o k i hp)
theorem Fr.set {P : Nat → Nat → Bool} {M M1 : Mem} {o k i : Nat} {v : Int} (h : Fr P M M1) (hp : P o k = true) : Fr P M (mset M1 o k i v) := by
  intro o1 k1 i1 h1
  rw [mset_ne, h o1 k1 i1 h1]
  rintro ⟨rfl, rfl, _⟩
  rw [hp] at h1
  cases h1
theorem Fr.mono {P P' : Nat → Nat → Bool} {M M1 : Mem} (h : Fr P M M1) (hp : ∀ o k : Nat, P o k = true → P' o k = true) : Fr P' M M1 := fun o k i h1 => h o k i (by
  cases h2 : P o k with
  | false => rfl
  | true => rw [hp o k h2] at h1; cases h1)
theorem sp_fill {M : Mem} {o k N : Nat} {v : Int} {Q : Mem → Prop} (hN : N < 1000000) (K : ∀ M' : Mem, (∀ i : Nat, i < N → M' o k i = v) → (∀ o1 k1 i1 : Nat, ¬ (o1 = o ∧ k1 = k) → M' o1 k1 i1 = M o1 k1 i1) → (∀ i : Nat, N ≤ i → M' o k i = M o k i) → Q M') : wp_J7_fill_53178 M o k N v Q := by
  unfold wp_J7_fill_53178
  refine ⟨fun n x2 x3 M1 => n = N - x2.toNat ∧ 0 ≤ x2 ∧ x2 ≤ N ∧ x3 = N ∧ (∀ i : Nat, i < x2.toNat → M1 o k i = v) ∧ (∀ o1 k1 i1 : Nat, ¬ (o1 = o ∧ k1 = k) → M1 o1 k1 i1 = M o1 k1 i1) ∧ (∀ i : Nat, x2.toNat ≤ i → M1 o k i = M o k i), ?_, ?_⟩
  · unfold wpe_J7_fill_53178
    intro y1 e1
    exact ⟨_, rfl, by omega, by omega, e1, fun i hi => absurd hi (Nat.not_lt_zero _), fun _ _ _ _ => rfl, fun _ _ => rfl⟩
  · intro n x2 x3 M1 ⟨hn, h0, hle, h3, ha, hb, hc⟩
    unfold wph_J7_fill_53178_5
    refine ⟨⟨by omega, by omega⟩, ⟨by omega, by omega⟩, fun h => K M1 (fun i hi => ha i (by omega)) hb (fun i hi => hc i (by omega)), fun h => ⟨by omega, fun M5 e5 => ?_⟩⟩
    subst e5
    refine ⟨_, ?_, rfl, by omega, by omega, h3, fun i hi => ?_, fun o1 k1 i1 h1 => ?_, fun i hi => ?_⟩
    · omega
    · rw [mset_i]
      split
      · rfl
      · exact ha i (by omega)
    · rw [mset_ne (fun z => h1 ⟨z.1, z.2.1⟩)]
      exact hb o1 k1 i1 h1
    · rw [mset_ne (by omega)]
      exact hc i (by omega)
theorem Bd.fill {M M' : Mem} {o k N : Nat} {v : Int} (h : Bd M) (h1 : -2000000 ≤ v) (h2 : v ≤ 2000000) (ha : ∀ i : Nat, i < N → M' o k i = v) (hb : ∀ o1 k1 i1 : Nat, ¬ (o1 = o ∧ k1 = k) → M' o1 k1 i1 = M o1 k1 i1) (hc : ∀ i : Nat, N ≤ i → M' o k i = M o k i) : Bd M' := by
  intro o1 k1 i1
  by_cases c : o1 = o ∧ k1 = k
  · obtain ⟨rfl, rfl⟩ := c
    by_cases d : i1 < N
    · rw [ha i1 d]
      exact ⟨h1, h2⟩
    · rw [hc i1 (by omega)]
      exact h o1 k1 i1
  · rw [hb o1 k1 i1 c]
    exact h o1 k1 i1
/-! the reference's small methods -/
theorem sp_in {M : Mem} {p0 p1 p2 : Int} {Q : Int → Mem → Prop} (h0 : inR p0) (h1 : inR p1) (h2 : inR p2) (K : Q (if p1 ≤ p0 ∧ p0 ≤ p2 then 1 else 0) M) : wp_X11_in M p0 p1 p2 Q := by
  unfold wp_X11_in wpe_X11_in
  refine ⟨h0, h1, fun h => ?_, fun h => ⟨h0, h2, fun h' => ?_, fun h' => ?_⟩⟩
  · rwa [if_neg (by omega)] at K
  · rwa [if_neg (by omega)] at K
  · rwa [if_pos (by omega)] at K
theorem ite01 {c : Prop} (d : Decidable c) : (if c then (1 : Int) else 0) = 0 ∨ (if c then (1 : Int) else 0) = 1 := by
  by_cases h : c
  · exact Or.inr (if_pos h)
  · exact Or.inl (if_neg h)
theorem inR_ite {c : Prop} (d : Decidable c) : inR (if c then (1 : Int) else 0) := by
  rcases ite01 d with h | h <;> rw [h] <;> exact ⟨by decide, by decide⟩
theorem sp_isTree {M : Mem} {p0 : Int} {Q : Int → Mem → Prop} (h0 : inR p0) (K : Q (if 0 ≤ p0 ∧ p0 ≤ 1 then 1 else 0) M) : wp_X11_isTree M p0 Q := by
  unfold wp_X11_isTree wpe_X11_isTree
  exact sp_in h0 ⟨by decide, by decide⟩ ⟨by decide, by decide⟩ ⟨ite01 _, K⟩
theorem sp_isNode {M : Mem} {p0 p1 : Int} {Q : Int → Mem → Prop} (hB : Bd M) (h0 : inR p0) (h1 : inR p1) (K : Q (if (0 ≤ p0 ∧ p0 ≤ 1) ∧ 0 ≤ p1 ∧ p1 < M 13 5 p0.toNat then 1 else 0) M) : wp_X11_isNode M p0 p1 Q := by
  unfold wp_X11_isNode wpe_X11_isNode
  refine sp_isTree h0 ⟨inR_ite _, fun h => ?_, fun h => ?_⟩
  · rwa [if_neg (fun z => by rw [if_pos z.1] at h; cases h)] at K
  · have hc : 0 ≤ p0 ∧ p0 ≤ 1 := Decidable.byContradiction (fun z => h (if_neg z))
    have hb := hB 13 5 p0.toNat
    refine ⟨by omega, sp_in h1 ⟨by decide, by decide⟩ ⟨by omega, by omega⟩ ⟨inR_ite _, fun h2 => ?_, fun h2 => ?_⟩⟩
    · rwa [if_neg (fun z => by rw [if_pos (by omega)] at h2; cases h2)] at K
    · have h3 : 0 ≤ p1 ∧ p1 ≤ M 13 5 p0.toNat - 1 := Decidable.byContradiction (fun z => h2 (if_neg z))
      rwa [if_pos (by omega)] at K
theorem sp_goes {M : Mem} {p0 p1 p2 c : Int} {Q : Int → Mem → Prop} (h0 : inR p0) (h1 : inR p1) (h2 : inR p2) (e : c = if p0 = 0 then 1 else if p1 = 0 then 2 else if p2 = 0 then 3 else 0) (K : Q (if c = 0 then 1 else 0) (mset M 13 23 0 c)) : wp_X11_goes M p0 p1 p2 Q := by
  have J : ∀ s0 : Int, s0 = c → wpj_X11_goes_26 p0 p1 p2 s0 M Q := by
    intro s0 hs
    subst hs
    unfold wpj_X11_goes_26
    intro M7 e7
    subst e7
    rw [mset_eq]
    refine ⟨?_, fun h => ?_, fun h => ?_⟩
    · rw [e]
      split
      · exact ⟨by decide, by decide⟩
      · split
        · exact ⟨by decide, by decide⟩
        · split <;> exact ⟨by decide, by decide⟩
    · rwa [if_neg h] at K
    · rwa [if_pos (Decidable.byContradiction h)] at K
  unfold wp_X11_goes wpe_X11_goes
  refine ⟨h0, fun h => ⟨h1, fun h' => ⟨h2, fun h'' => ?_, fun h'' => ?_⟩, fun h' => ?_⟩, fun h => ?_⟩
  · exact J _ (by rw [e, if_neg h, if_neg h', if_neg h''])
  · exact J _ (by rw [e, if_neg h, if_neg h', if_pos (Decidable.byContradiction h'')])
  · exact J _ (by rw [e, if_neg h, if_pos (Decidable.byContradiction h')])
  · exact J _ (by rw [e, if_pos (Decidable.byContradiction h)])
theorem sp_lesser {M : Mem} {p0 p1 : Int} {Q : Int → Mem → Prop} (h0 : inR p0) (h1 : inR p1) (K : Q (min p0 p1) M) : wp_X11_lesser M p0 p1 Q := by
  unfold wp_X11_lesser wpe_X11_lesser
  refine ⟨h0, h1, fun h => ?_, fun h => ?_⟩
  · rwa [show min p0 p1 = p1 from by omega] at K
  · rwa [show min p0 p1 = p0 from by omega] at K
theorem sp_at {M : Mem} {p0 p1 p2 p3 : Int} {Q : Int → Mem → Prop} (K : Q ((((p0 * 13 + p1) * 13) + p2) * 13 + p3) M) : wp_X11_at M p0 p1 p2 p3 Q := K
theorem sp_alike {M : Mem} {p0 p1 : Int} {p q : Nat} {Q : Int → Mem → Prop} (e0 : p0 = p) (e1 : p1 = q) (hp : p < 24) (hq : q < 12) (hB : Bd M) (K : Q (if M 13 2 p = M 13 2 (12 + q) then 1 else 0) M) : wp_X11_alike M p0 p1 Q := by
  subst e0; subst e1
  unfold wp_X11_alike wpe_X11_alike
  simp only [Int.toNat_natCast, show ((12 : Int) + (q : Int)).toNat = 12 + q from by omega]
  refine ⟨by omega, by omega, hB.r _ _ _, hB.r _ _ _, fun h => ?_, fun h => ?_⟩
  · rwa [if_neg h] at K
  · rwa [if_pos (Decidable.byContradiction h)] at K
theorem sp_priceOf {M : Mem} {p0 p1 p2 : Int} {t p w : Nat} {Q : Int → Mem → Prop} (e0 : p0 = t) (e1 : p1 = p) (e2 : p2 = w) (hp : 12 * t + p < 24) (hw : w < 3) (hk : 0 ≤ M 13 2 (12 * t + p) ∧ M 13 2 (12 * t + p) < 4) (K : Q (M 13 6 (3 * M 13 2 (12 * t + p) + w).toNat) M) : wp_X11_priceOf M p0 p1 p2 Q := by
  subst e0; subst e1; subst e2
  unfold wp_X11_priceOf wpe_X11_priceOf
  simp only [show (12 * (t : Int) + (p : Int)).toNat = 12 * t + p from by omega]
  exact ⟨by omega, by omega, K⟩
theorem sp_pairing {M : Mem} {p0 p1 : Int} {p q : Nat} {Q : Int → Mem → Prop} (e0 : p0 = p) (e1 : p1 = q) (hp : p < 24) (hq : q < 12) (hB : Bd M) (hk : 0 ≤ M 13 2 p ∧ M 13 2 p < 4) (K : Q (if M 13 3 p = M 13 3 (12 + q) then 0 else M 13 6 (3 * M 13 2 p + 2).toNat) M) : wp_X11_pairing M p0 p1 Q := by
  subst e0; subst e1
  unfold wp_X11_pairing wpe_X11_pairing
  simp only [Int.toNat_natCast, show ((12 : Int) + (q : Int)).toNat = 12 + q from by omega]
  refine ⟨by omega, by omega, hB.r _ _ _, hB.r _ _ _, fun h => ?_, fun h => ?_⟩
  · rw [if_neg h] at K
    refine sp_priceOf (t := 0) (p := p) (w := 2) rfl rfl rfl (by omega) (by omega) ?_ ?_
    · simpa using hk
    · simpa using K
  · rwa [if_pos (Decidable.byContradiction h)] at K
/-! the class's small methods -/
theorem sp_needIndex {M : Mem} {p0 p1 : Int} {Q : Mem → Prop} {XQ : String → Mem → Prop} (h0 : inR p0) (h1 : inR p1) (K : 0 ≤ p0 → p0 < p1 → Q M) (KX : ¬ (0 ≤ p0 ∧ p0 < p1) → XQ "java/lang/IndexOutOfBoundsException" M) : wp_X10_needIndex M p0 p1 Q XQ := by
  unfold wp_X10_needIndex wpe_X10_needIndex wpj_X10_needIndex_9
  exact ⟨h0, fun h => KX (by omega), fun h => ⟨h0, h1, fun h2 => K (by omega) h2, fun h2 => KX (by omega)⟩⟩
theorem sp_needAtMost {M : Mem} {p0 p1 : Int} {Q : Mem → Prop} {XQ : String → Mem → Prop} (h0 : inR p0) (h1 : inR p1) (K : 0 ≤ p0 → p0 ≤ p1 → Q M) (KX : ¬ (0 ≤ p0 ∧ p0 ≤ p1) → XQ "java/lang/IllegalArgumentException" M) : wp_X10_needAtMost M p0 p1 Q XQ := by
  unfold wp_X10_needAtMost wpe_X10_needAtMost wpj_X10_needAtMost_9
  exact ⟨h0, fun h => KX (by omega), fun h => ⟨h0, h1, fun h2 => K (by omega) h2, fun h2 => KX (by omega)⟩⟩
theorem sp_treeNumbered {M : Mem} {p0 : Int} {Q : Nat → Mem → Prop} {XQ : String → Mem → Prop} (h0 : inR p0) (K : ∀ t : Nat, t < 2 → p0 = t → Q (11 + t) M) (KX : ¬ (0 ≤ p0 ∧ p0 ≤ 1) → XQ "java/lang/IndexOutOfBoundsException" M) : wp_X10_treeNumbered M p0 Q XQ := by
  unfold wp_X10_treeNumbered wpe_X10_treeNumbered
  refine sp_needIndex h0 ⟨by decide, by decide⟩ (fun ha hb => ⟨h0, fun h => ?_, fun h => ?_⟩) (fun h => KX (by omega))
  · exact K 1 (by omega) (by omega)
  · exact K 0 (by omega) (by omega)
theorem isT_of {t : Nat} (h : t < 2) : isT (11 + t) := by
  unfold isT
  omega
theorem sp_treeWith {M : Mem} {p0 p1 : Int} {Q : Nat → Mem → Prop} {XQ : String → Mem → Prop} (hB : Bd M) (h0 : inR p0) (h1 : inR p1) (K : ∀ t x : Nat, t < 2 → p0 = t → p1 = x → (x : Int) < M (11 + t) 8 0 → Q (11 + t) M) (KX : ¬ ((0 ≤ p0 ∧ p0 ≤ 1) ∧ 0 ≤ p1 ∧ p1 < M (11 + p0.toNat) 8 0) → XQ "java/lang/IndexOutOfBoundsException" M) : wp_X10_treeWith M p0 p1 Q XQ := by
  unfold wp_X10_treeWith wpe_X10_treeWith
  refine sp_treeNumbered h0 (fun t ht e => ⟨isT_of ht, sp_needIndex h1 (hB.r _ _ _) (fun ha hb => ?_) (fun h => KX ?_)⟩) (fun h => KX (fun z => h z.1))
  · have ex : p1 = (p1.toNat : Int) := by omega
    exact K t p1.toNat ht e ex (by omega)
  · subst e
    simp only [Int.toNat_natCast]
    exact fun z => h z.2
theorem sp_endOf {M : Mem} {o x : Nat} {p0 : Int} {Q : Int → Mem → Prop} (e : p0 = x) (hx : x < 12) (K : Q (M o 5 x + M o 6 x) M) : wp_X9_endOf M o p0 Q := by
  subst e
  unfold wp_X9_endOf wpe_X9_endOf
  simp only [Int.toNat_natCast]
  exact ⟨by omega, by omega, K⟩
theorem sp_allAlone {M : Mem} {o u v : Nat} {p0 p1 : Int} {Q : Int → Mem → Prop} (e0 : p0 = u) (e1 : p1 = v) (hu : u < 13) (hv : v < 13) (K : Q (M o 4 v - M o 4 u) M) : wp_X6_allAlone M o p0 p1 Q := by
  subst e0; subst e1
  unfold wp_X6_allAlone wpe_X6_allAlone
  simp only [Int.toNat_natCast]
  exact ⟨by omega, by omega, K⟩
