/-! what the reference keeps: trees by levels, prices, sizes; its table of least costs -/
def kc (k : Nat) : Bool := k == 0 || k == 1 || k == 2 || k == 3 || k == 5 || k == 6 || k == 7
theorem kc_of {k : Nat} (h : kc k = true) : k = 0 ∨ k = 1 ∨ k = 2 ∨ k = 3 ∨ k = 5 ∨ k = 6 ∨ k = 7 := by
  simp only [kc, Bool.or_eq_true, beq_iff_eq] at h
  omega
def Core (C : Nat → Nat → Int) (M : Mem) : Prop := ∀ k i : Nat, kc k = true → M 13 k i = C k i
theorem Core.fr {C : Nat → Nat → Int} {P : Nat → Nat → Bool} {M M' : Mem} (h : Core C M) (hF : Fr P M M') (h0 : P 13 0 = false) (h1 : P 13 1 = false) (h2 : P 13 2 = false) (h3 : P 13 3 = false) (h5 : P 13 5 = false) (h6 : P 13 6 = false) (h7 : P 13 7 = false) : Core C M' := by
  intro k i hk
  rw [hF 13 k i ?_]
  · exact h k i hk
  · rcases kc_of hk with rfl | rfl | rfl | rfl | rfl | rfl | rfl <;> assumption
def cn (C : Nat → Nat → Int) (t : Nat) : Nat := (C 5 t).toNat
def cL (C : Nat → Nat → Int) (t p : Nat) : Nat := (C 1 (12 * t + p)).toNat
def ce (C : Nat → Nat → Int) (t p : Nat) : Nat := eN (cL C t) (cn C t) p
def WF (C : Nat → Nat → Int) : Prop := (∀ t : Nat, t < 2 → C 5 t = (cn C t : Int) ∧ cn C t ≤ 12 ∧ WL (cL C t) (cn C t)) ∧ (∀ t p : Nat, t < 2 → p < cn C t → C 1 (12 * t + p) = (cL C t p : Int) ∧ (0 ≤ C 2 (12 * t + p) ∧ C 2 (12 * t + p) ≤ 3) ∧ (0 ≤ C 3 (12 * t + p) ∧ C 3 (12 * t + p) ≤ 99) ∧ (0 ≤ C 0 (12 * t + p) ∧ C 0 (12 * t + p) < (cn C t : Int))) ∧ (∀ t p q : Nat, t < 2 → p < cn C t → q < cn C t → C 0 (12 * t + p) = C 0 (12 * t + q) → p = q) ∧ (∀ i : Nat, i < 12 → 0 ≤ C 6 i ∧ C 6 i ≤ 50) ∧ (0 ≤ C 7 0 ∧ C 7 0 ≤ 50)
section WFS
variable {C : Nat → Nat → Int}
theorem WF.n (h : WF C) {t : Nat} (ht : t < 2) : C 5 t = (cn C t : Int) := (h.1 t ht).1
theorem WF.n12 (h : WF C) {t : Nat} (ht : t < 2) : cn C t ≤ 12 := (h.1 t ht).2.1
theorem WF.wl (h : WF C) {t : Nat} (ht : t < 2) : WL (cL C t) (cn C t) := (h.1 t ht).2.2
theorem WF.l (h : WF C) {t p : Nat} (ht : t < 2) (hp : p < cn C t) : C 1 (12 * t + p) = (cL C t p : Int) := (h.2.1 t p ht hp).1
theorem WF.k (h : WF C) {t p : Nat} (ht : t < 2) (hp : p < cn C t) : 0 ≤ C 2 (12 * t + p) ∧ C 2 (12 * t + p) ≤ 3 := (h.2.1 t p ht hp).2.1
theorem WF.k0 (h : WF C) {p : Nat} (hp : p < cn C 0) : 0 ≤ C 2 p ∧ C 2 p ≤ 3 := by
  have a := h.k (t := 0) (by omega) hp
  rwa [show 12 * 0 + p = p from by omega] at a
theorem WF.k1 (h : WF C) {p : Nat} (hp : p < cn C 1) : 0 ≤ C 2 (12 + p) ∧ C 2 (12 + p) ≤ 3 := h.k (t := 1) (by omega) hp
theorem WF.ndr (h : WF C) {t p : Nat} (ht : t < 2) (hp : p < cn C t) : 0 ≤ C 0 (12 * t + p) ∧ C 0 (12 * t + p) < (cn C t : Int) := (h.2.1 t p ht hp).2.2.2
theorem WF.lb (h : WF C) {t p : Nat} (ht : t < 2) (hp : p < cn C t) : 0 ≤ C 3 (12 * t + p) ∧ C 3 (12 * t + p) ≤ 99 := (h.2.1 t p ht hp).2.2.1
theorem WF.pr (h : WF C) {i : Nat} (hi : i < 12) : 0 ≤ C 6 i ∧ C 6 i ≤ 50 := h.2.2.2.1 i hi
theorem WF.mv (h : WF C) : 0 ≤ C 7 0 ∧ C 7 0 ≤ 50 := h.2.2.2.2
theorem WF.l12 (h : WF C) {t p : Nat} (ht : t < 2) (hp : p < cn C t) : cL C t p < 12 := by
  have a := (h.wl ht).le hp
  have b := h.n12 ht
  omega
theorem WF.e (h : WF C) {t p : Nat} (hp : p < cn C t) : p < ce C t p ∧ ce C t p ≤ cn C t := ⟨eN_gt hp, eN_le hp⟩
end WFS
def Sz (C : Nat → Nat → Int) (M : Mem) : Prop := ∀ t p : Nat, t < 2 → p < cn C t → M 13 4 (12 * t + p) = (ce C t p : Int) - p
theorem Sz.s0 {C : Nat → Nat → Int} {M : Mem} (h : Sz C M) {p : Nat} (hp : p < cn C 0) : M 13 4 p = (ce C 0 p : Int) - p := by
  have a := h 0 p (by omega) hp
  rwa [show 12 * 0 + p = p from by omega] at a
theorem Sz.s1 {C : Nat → Nat → Int} {M : Mem} (h : Sz C M) {p : Nat} (hp : p < cn C 1) : M 13 4 (12 + p) = (ce C 1 p : Int) - p := h 1 p (by omega) hp
theorem Sz.fr {C : Nat → Nat → Int} {P : Nat → Nat → Bool} {M M' : Mem} (h : Sz C M) (hF : Fr P M M') (h4 : P 13 4 = false) : Sz C M' := fun t p ht hp => by rw [hF 13 4 _ h4]; exact h t p ht hp
def cdl (C : Nat → Nat → Int) (p : Nat) : Int := C 6 (3 * C 2 p + 1).toNat
def cil (C : Nat → Nat → Int) (q : Nat) : Int := C 6 (3 * C 2 (12 + q)).toNat
def crl (C : Nat → Nat → Int) (p : Nat) : Int := C 6 (3 * C 2 p + 2).toNat
def cpl (C : Nat → Nat → Int) (p q : Nat) : Int := if C 3 p = C 3 (12 + q) then 0 else crl C p
def cpr (C : Nat → Nat → Int) (p q : Nat) : Int := if C 2 p = C 2 (12 + q) then cpl C p q else 1000000
def cc (C : Nat → Nat → Int) : CP := ccE (ce C 0) (ce C 1) (cdl C) (cil C) (cpr C)
section COSTS
variable {C : Nat → Nat → Int}
theorem WF.dl (h : WF C) {p : Nat} (hp : p < cn C 0) : 0 ≤ cdl C p ∧ cdl C p ≤ 50 := by
  have a := h.k0 hp
  exact h.pr (by omega)
theorem WF.il (h : WF C) {p : Nat} (hp : p < cn C 1) : 0 ≤ cil C p ∧ cil C p ≤ 50 := by
  have a := h.k1 hp
  exact h.pr (by omega)
theorem WF.pl (h : WF C) {p q : Nat} (hp : p < cn C 0) : 0 ≤ cpl C p q ∧ cpl C p q ≤ 50 := by
  have a := h.k0 hp
  unfold cpl
  split
  · omega
  · exact h.pr (by omega)
theorem WF.prr (h : WF C) {p q : Nat} (hp : p < cn C 0) : (C 2 p = C 2 (12 + q) ∧ cpr C p q = cpl C p q ∧ 0 ≤ cpr C p q ∧ cpr C p q ≤ 50) ∨ (¬ (C 2 p = C 2 (12 + q)) ∧ cpr C p q = 1000000) := by
  have a := h.pl (q := q) hp
  by_cases e : C 2 p = C 2 (12 + q)
  · have e2 : cpr C p q = cpl C p q := if_pos e
    exact Or.inl ⟨e, e2, by omega, by omega⟩
  · exact Or.inr ⟨e, if_neg e⟩
theorem WF.cbd (h : WF C) {i j k l : Nat} (hj : j ≤ cn C 0) (hl : l ≤ cn C 1) : CBd (cc C) (rg i j) (rg k l) := by
  refine ⟨fun x hx => ?_, fun y hy => ?_, fun x hx y hy => ?_⟩
  · have := mem_rg.mp hx
    exact h.dl (by omega)
  · have := mem_rg.mp hy
    exact h.il (by omega)
  · have := mem_rg.mp hx
    have a := h.prr (p := x) (q := y) (by omega)
    change 0 ≤ cpr C x y ∧ (cpr C x y ≤ 50 ∨ cpr C x y = 1000000)
    omega
end COSTS
theorem Ef_cc {e0 e1 : Nat → Nat} {dl il : Nat → Int} {pr : Nat → Nat → Int} {a b : Int} {i j k l : Nat} (h1 : i < j) (h2 : k < l) (h3 : i < e0 i) (h4 : k < e1 k) : df (ccE e0 e1 dl il pr) a b (rg i j) (rg k l) = min (min (min 100000 (if (i : Int) = a then 100000 else dl i + df (ccE e0 e1 dl il pr) a b (rg (i + 1) j) (rg k l))) (if (k : Int) = b then 100000 else il k + df (ccE e0 e1 dl il pr) a b (rg i j) (rg (k + 1) l))) (if pr i k < 1000000 ∧ ((i : Int) = a ↔ (k : Int) = b) then pr i k + df (ccE e0 e1 dl il pr) a b (rg (i + 1) (min (e0 i) j)) (rg (k + 1) (min (e1 k) l)) + df (ccE e0 e1 dl il pr) a b (rg (min (e0 i) j) j) (rg (min (e1 k) l) l) else 100000) := by
  rw [rg_cons h1, rg_cons h2, df_cc]
  dsimp only [ccE]
  rw [fE_in h3, fE_in h4, fE_out h3, fE_out h4]
  congr
/-! reading with the core -/
section READS
variable {C : Nat → Nat → Int} {M : Mem} {Q : Int → Mem → Prop}
theorem sp_del (hW : WF C) (hC : Core C M) {p0 p1 p2 : Int} {p : Nat} (e0 : p0 = 0) (e1 : p1 = p) (e2 : p2 = 1) (hp : p < cn C 0) (K : Q (cdl C p) M) : wp_X11_priceOf M p0 p1 p2 Q := by
  have a := hW.k0 hp
  have n := hW.n12 (t := 0) (by omega)
  have r : M 13 2 p = C 2 p := hC 2 p rfl
  refine sp_priceOf (t := 0) (p := p) (w := 1) e0 e1 e2 (by omega) (by omega) ?_ ?_
  · rw [show 12 * 0 + p = p from by omega, r]
    omega
  · rw [show 12 * 0 + p = p from by omega, r, hC 6 _ rfl]
    exact K
theorem sp_ins (hW : WF C) (hC : Core C M) {p0 p1 p2 : Int} {p : Nat} (e0 : p0 = 1) (e1 : p1 = p) (e2 : p2 = 0) (hp : p < cn C 1) (K : Q (cil C p) M) : wp_X11_priceOf M p0 p1 p2 Q := by
  have a := hW.k1 hp
  have n := hW.n12 (t := 1) (by omega)
  have r : M 13 2 (12 + p) = C 2 (12 + p) := hC 2 _ rfl
  refine sp_priceOf (t := 1) (p := p) (w := 0) e0 e1 e2 (by omega) (by omega) ?_ ?_
  · rw [show 12 * 1 + p = 12 + p from by omega, r]
    omega
  · rw [show 12 * 1 + p = 12 + p from by omega, r, hC 6 _ rfl]
    rw [show 3 * C 2 (12 + p) + ((0 : Nat) : Int) = 3 * C 2 (12 + p) from by omega]
    exact K
theorem sp_pair (hW : WF C) (hC : Core C M) (hB : Bd M) {p0 p1 : Int} {p q : Nat} (e0 : p0 = p) (e1 : p1 = q) (hp : p < cn C 0) (hq : q < cn C 1) (K : Q (cpl C p q) M) : wp_X11_pairing M p0 p1 Q := by
  have a := hW.k0 hp
  have n := hW.n12 (t := 0) (by omega)
  have n' := hW.n12 (t := 1) (by omega)
  have r : M 13 2 p = C 2 p := hC 2 p rfl
  refine sp_pairing e0 e1 (by omega) (by omega) hB (by rw [r]; omega) ?_
  rw [hC 3 p rfl, hC 3 (12 + q) rfl, r, hC 6 _ rfl]
  exact K
theorem sp_alk (hC : Core C M) (hB : Bd M) {p0 p1 : Int} {p q : Nat} (e0 : p0 = p) (e1 : p1 = q) (hp : p < 24) (hq : q < 12) (K : Q (if C 2 p = C 2 (12 + q) then 1 else 0) M) : wp_X11_alike M p0 p1 Q := by
  refine sp_alike e0 e1 hp hq hB ?_
  rw [hC 2 p rfl, hC 2 (12 + q) rfl]
  exact K
end READS
def P4 (o k : Nat) : Bool := o == 13 && k == 4
def SzI (C : Nat → Nat → Int) (M M1 : Mem) (t p : Nat) : Prop := Fr P4 M M1 ∧ Bd M1 ∧ ∀ t' p' : Nat, (t' < t ∧ p' < cn C t' ∨ t' = t ∧ p' < p) → M1 13 4 (12 * t' + p') = (ce C t' p' : Int) - p'
theorem sp_measures {C : Nat → Nat → Int} {M : Mem} {Q : Mem → Prop} (hW : WF C) (hC : Core C M) (hB : Bd M) (K : ∀ M' : Mem, Fr P4 M M' → Bd M' → Sz C M' → Q M') : wp_X11_measures M Q := by
  unfold wp_X11_measures
  refine ⟨fun n x1 M1 => ∃ t : Nat, x1 = t ∧ t ≤ 2 ∧ n = (2 - t) * 1000 ∧ SzI C M M1 t 0, fun n x1 x2 M1 => ∃ t p : Nat, x1 = t ∧ x2 = p ∧ t < 2 ∧ p ≤ cn C t ∧ n = (2 - t) * 1000 - 1 - 20 * p ∧ SzI C M M1 t p, fun n x1 x2 x3 M1 => ∃ t p q : Nat, x1 = t ∧ x2 = p ∧ x3 = q ∧ t < 2 ∧ p < cn C t ∧ p < q ∧ q ≤ cn C t ∧ n = (2 - t) * 1000 - 2 - 20 * p - (q - (p + 1)) ∧ (∀ r : Nat, p < r → r < q → cL C t p < cL C t r) ∧ SzI C M M1 t p, ?_, ?_, ?_, ?_⟩
  · unfold wpe_X11_measures
    exact ⟨_, 0, rfl, by omega, rfl, Fr.rf, hB, fun t' p' h => by omega⟩
  · intro n x1 M1 ⟨t, e, ht, hn, hF, hB1, hS⟩
    subst e; subst hn
    unfold wph_X11_measures_2
    refine ⟨⟨by omega, by omega⟩, fun h => K M1 hF hB1 (fun t' p' h1 h2 => hS t' p' (Or.inl ⟨by omega, h2⟩)), fun h => ⟨(2 - t) * 1000 - 1 - 20 * 0, by omega, t, 0, rfl, rfl, by omega, by omega, rfl, hF, hB1, hS⟩⟩
  · intro n x1 x2 M1 ⟨t, p, e1, e2, ht, hp, hn, hF, hB1, hS⟩
    subst e1; subst e2; subst hn
    have C1 : Core C M1 := hC.fr hF rfl rfl rfl rfl rfl rfl rfl
    have n12 := hW.n12 ht
    unfold wph_X11_measures_9
    simp only [Int.toNat_natCast]
    rw [C1 5 t rfl, hW.n ht]
    refine ⟨⟨by omega, by omega⟩, ⟨by omega, by omega⟩, ⟨by omega, by omega⟩, fun h => ⟨(2 - (t + 1)) * 1000, by omega, t + 1, by omega, by omega, rfl, hF, hB1, fun t' p' h2 => hS t' p' (by
      rcases h2 with h3 | h3
      · by_cases e : t' = t
        · subst e; exact Or.inr ⟨rfl, by omega⟩
        · exact Or.inl ⟨by omega, h3.2⟩
      · omega)⟩, fun h y7 e7 => ⟨(2 - t) * 1000 - 2 - 20 * p - (p + 1 - (p + 1)), by omega, t, p, p + 1, rfl, rfl, by omega, ht, by omega, by omega, by omega, rfl, fun r h1 h2 => by omega, hF, hB1, hS⟩⟩
  · intro n x1 x2 x3 M1 ⟨t, p, q, e1, e2, e3, ht, hp, hpq, hq, hn, hL, hF, hB1, hS⟩
    subst e1; subst e2; subst e3; subst hn
    have C1 : Core C M1 := hC.fr hF rfl rfl rfl rfl rfl rfl rfl
    have n12 := hW.n12 ht
    have ix : ∀ p : Nat, (12 * (t : Int) + (p : Int)).toNat = 12 * t + p := fun p => by omega
    have W64 : q = ce C t p → wpj_X11_measures_64 (t : Int) (p : Int) (q : Int) M1 (fun (x1 : Int) (M2 : Mem) => ∃ n1 : Nat, n1 < (2 - t) * 1000 - 2 - 20 * p - (q - (p + 1)) ∧ ∃ t : Nat, x1 = t ∧ t ≤ 2 ∧ n1 = (2 - t) * 1000 ∧ SzI C M M2 t 0) (fun (x1 : Int) (x2 : Int) (M2 : Mem) => ∃ n1 : Nat, n1 < (2 - t) * 1000 - 2 - 20 * p - (q - (p + 1)) ∧ ∃ t p : Nat, x1 = t ∧ x2 = p ∧ t < 2 ∧ p ≤ cn C t ∧ n1 = (2 - t) * 1000 - 1 - 20 * p ∧ SzI C M M2 t p) (fun (x1 : Int) (x2 : Int) (x3 : Int) (M2 : Mem) => ∃ n1 : Nat, n1 < (2 - t) * 1000 - 2 - 20 * p - (q - (p + 1)) ∧ ∃ t p q : Nat, x1 = t ∧ x2 = p ∧ x3 = q ∧ t < 2 ∧ p < cn C t ∧ p < q ∧ q ≤ cn C t ∧ n1 = (2 - t) * 1000 - 2 - 20 * p - (q - (p + 1)) ∧ (∀ r : Nat, p < r → r < q → cL C t p < cL C t r) ∧ SzI C M M2 t p) Q := by
      intro eq
      unfold wpj_X11_measures_64
      rw [ix]
      refine ⟨⟨by omega, by omega⟩, fun M17 e17 => ?_⟩
      subst e17
      refine ⟨(2 - t) * 1000 - 1 - 20 * (p + 1), by omega, t, p + 1, rfl, by omega, ht, by omega, rfl, hF.set rfl, hB1.set (by omega) (by omega), fun t' p' h2 => ?_⟩
      rw [mset_i]
      by_cases c : 12 * t' + p' = 12 * t + p
      · have c1 : t' = t := by
          rcases h2 with h3 | h3
          · have := hW.n12 (t := t') (by omega)
            omega
          · exact h3.1
        subst c1
        have c2 : p' = p := by omega
        subst c2
        rw [if_pos rfl, ← eq]
      · rw [if_neg c]
        exact hS t' p' (by
          rcases h2 with h3 | h3
          · exact Or.inl h3
          · refine Or.inr ⟨h3.1, ?_⟩
            have := h3.1
            subst this
            omega)
    unfold wph_X11_measures_23
    simp only [Int.toNat_natCast]
    rw [ix, ix, C1 5 t rfl, hW.n ht]
    refine ⟨⟨by omega, by omega⟩, ⟨by omega, by omega⟩, ⟨by omega, by omega⟩, fun h => W64 (isE_uniq ⟨hpq, hq, hL, fun z => by omega⟩ (eN_spec hp)), fun h => ⟨⟨by omega, by omega⟩, ⟨by omega, by omega⟩, hB1.r _ _ _, hB1.r _ _ _, fun h2 => W64 (isE_uniq ⟨hpq, hq, hL, fun z => ?_⟩ (eN_spec hp)), fun h2 => ?_⟩⟩
    · rw [C1 1 _ rfl, C1 1 _ rfl, hW.l ht z, hW.l ht hp] at h2
      omega
    · rw [C1 1 _ rfl, C1 1 _ rfl, hW.l ht (p := q) (by omega), hW.l ht hp] at h2
      refine ⟨(2 - t) * 1000 - 2 - 20 * p - (q + 1 - (p + 1)), by omega, t, p, q + 1, rfl, rfl, by omega, ht, hp, by omega, by omega, rfl, fun r h3 h4 => ?_, hF, hB1, hS⟩
      by_cases e : r = q
      · subst e; omega
      · exact hL r h3 (by omega)
/-! the table -/
def ix (i e j l : Nat) : Nat := ((i * 13 + e) * 13 + j) * 13 + l
theorem ix_inj {i e j l i' e' j' l' : Nat} (h1 : e < 13) (h2 : j < 13) (h3 : l < 13) (h1' : e' < 13) (h2' : j' < 13) (h3' : l' < 13) (h : ix i e j l = ix i' e' j' l') : i = i' ∧ e = e' ∧ j = j' ∧ l = l' := by
  unfold ix at h
  omega
theorem ix_int (i e j l : Nat) : (((((i : Int) * 13 + (e : Int)) * 13) + (j : Int)) * 13 + (l : Int)) = (ix i e j l : Int) := by
  unfold ix
  omega
theorem ix_lt {i e j l : Nat} (h0 : i < 13) (h1 : e < 13) (h2 : j < 13) (h3 : l < 13) : ix i e j l < 28561 := by
  unfold ix
  omega
section COST
variable {C : Nat → Nat → Int} {M : Mem} {Q : Int → Mem → Prop} {a b : Int} {i e j l : Nat}
def TbF (C : Nat → Nat → Int) (a b : Int) (M : Mem) (dn : Nat → Nat → Nat → Nat → Prop) : Prop := ∀ i e j l : Nat, i ≤ e → e ≤ cn C 0 → j ≤ l → l ≤ cn C 1 → dn i e j l → M 13 8 (ix i e j l) = df (cc C) a b (rg i e) (rg j l)
theorem cost_eq (hW : WF C) (hi : i ≤ e) (he : e ≤ cn C 0) (hj : j ≤ l) (hl : l ≤ cn C 1) (hne : ¬ (i = e ∧ j = l)) :
    (fun x2 : Int => if i < e ∧ j < l ∧ C 2 i = C 2 (12 + j) ∧ ((i : Int) = a ↔ (j : Int) = b) then min x2 (cpl C i j + df (cc C) a b (rg (i + 1) (min (ce C 0 i) e)) (rg (j + 1) (min (ce C 1 j) l)) + df (cc C) a b (rg (min (ce C 0 i) e) e) (rg (min (ce C 1 j) l) l)) else x2) ((fun x1 : Int => if j < l ∧ (j : Int) ≠ b then min x1 (cil C j + df (cc C) a b (rg i e) (rg (j + 1) l)) else x1) (if i < e ∧ (i : Int) ≠ a then min 100000 (cdl C i + df (cc C) a b (rg (i + 1) e) (rg j l)) else 100000)) = df (cc C) a b (rg i e) (rg j l) := by
  by_cases c1 : i < e
  · have z1 := (hW.e (t := 0) (p := i) (by omega)).1
    by_cases c2 : j < l
    · have z2 := (hW.e (t := 1) (p := j) (by omega)).1
      have pp := hW.prr (p := i) (q := j) (by omega)
      have E : df (cc C) a b (rg i e) (rg j l) = _ := Ef_cc (e0 := ce C 0) (e1 := ce C 1) (dl := cdl C) (il := cil C) (pr := cpr C) c1 c2 z1 z2
      rw [E]
      change _ = min (min (min 100000 (if (i : Int) = a then 100000 else cdl C i + df (cc C) a b (rg (i + 1) e) (rg j l))) (if (j : Int) = b then 100000 else cil C j + df (cc C) a b (rg i e) (rg (j + 1) l))) (if cpr C i j < 1000000 ∧ ((i : Int) = a ↔ (j : Int) = b) then cpr C i j + df (cc C) a b (rg (i + 1) (min (ce C 0 i) e)) (rg (j + 1) (min (ce C 1 j) l)) + df (cc C) a b (rg (min (ce C 0 i) e) e) (rg (min (ce C 1 j) l) l) else 100000)
      dsimp only
      by_cases q1 : (i : Int) = a
      · rw [if_neg (c := i < e ∧ (i : Int) ≠ a) (fun z => z.2 q1), if_pos (c := (i : Int) = a) q1]
        by_cases q2 : (j : Int) = b
        · rw [if_neg (c := j < l ∧ (j : Int) ≠ b) (fun z => z.2 q2), if_pos (c := (j : Int) = b) q2]
          by_cases q3 : C 2 i = C 2 (12 + j)
          · rw [if_pos ⟨c1, c2, q3, ⟨fun _ => q2, fun _ => q1⟩⟩, if_pos ⟨by omega, ⟨fun _ => q2, fun _ => q1⟩⟩]
            omega
          · rw [if_neg (fun z => q3 z.2.2.1), if_neg (fun z => by omega)]
            omega
        · rw [if_pos (c := j < l ∧ (j : Int) ≠ b) ⟨c2, q2⟩, if_neg (c := (j : Int) = b) q2, if_neg (fun z => q2 (z.2.2.2.mp q1)), if_neg (fun z => q2 (z.2.mp q1))]
          omega
      · rw [if_pos (c := i < e ∧ (i : Int) ≠ a) ⟨c1, q1⟩, if_neg (c := (i : Int) = a) q1]
        by_cases q2 : (j : Int) = b
        · rw [if_neg (c := j < l ∧ (j : Int) ≠ b) (fun z => z.2 q2), if_pos (c := (j : Int) = b) q2, if_neg (fun z => q1 (z.2.2.2.mpr q2)), if_neg (fun z => q1 (z.2.mpr q2))]
          omega
        · have hh : ((i : Int) = a ↔ (j : Int) = b) := ⟨fun z => absurd z q1, fun z => absurd z q2⟩
          rw [if_pos (c := j < l ∧ (j : Int) ≠ b) ⟨c2, q2⟩, if_neg (c := (j : Int) = b) q2]
          by_cases q3 : C 2 i = C 2 (12 + j)
          · rw [if_pos ⟨c1, c2, q3, hh⟩, if_pos ⟨by omega, hh⟩]
            omega
          · rw [if_neg (fun z => q3 z.2.2.1), if_neg (fun z => by omega)]
            omega
    · rw [rg_nil (i := j) (j := l) (by omega), rg_cons c1, df_cn]
      dsimp only
      rw [if_neg (c := j < l ∧ (j : Int) ≠ b) (fun z => c2 z.1), if_neg (fun z => c2 z.2.1)]
      by_cases q1 : (i : Int) = a
      · rw [if_neg (c := i < e ∧ (i : Int) ≠ a) (fun z => z.2 q1), if_pos (c := (i : Int) = a) q1]
        omega
      · rw [if_pos (c := i < e ∧ (i : Int) ≠ a) ⟨c1, q1⟩, if_neg (c := (i : Int) = a) q1]
        rfl
  · have c2 : j < l := by omega
    rw [rg_nil (i := i) (j := e) (by omega), rg_cons (i := j) (j := l) c2, df_nc]
    dsimp only
    rw [if_neg (c := i < e ∧ (i : Int) ≠ a) (fun z => c1 z.1), if_neg (fun z => c1 z.1)]
    by_cases q2 : (j : Int) = b
    · rw [if_neg (c := j < l ∧ (j : Int) ≠ b) (fun z => z.2 q2), if_pos (c := (j : Int) = b) q2]
      omega
    · rw [if_pos (c := j < l ∧ (j : Int) ≠ b) ⟨c2, q2⟩, if_neg (c := (j : Int) = b) q2]
      rfl
theorem sp_cost (hW : WF C) (hC : Core C M) (hB : Bd M) (hS : Sz C M) (hi : i ≤ e) (he : e ≤ cn C 0) (hj : j ≤ l) (hl : l ≤ cn C 1) (ha : inR a) (hb : inR b) (T : TbF C a b M (fun i' e' j' l' => i < i' ∨ i' = i ∧ e' = e ∧ j < j')) (K : Q (df (cc C) a b (rg i e) (rg j l)) M) : wp_X11_cost M i e j l a b Q := by
  have n0 := hW.n12 (t := 0) (by omega)
  have n1 := hW.n12 (t := 1) (by omega)
  have BD : ∀ i' e' j' l' : Nat, e' ≤ cn C 0 → l' ≤ cn C 1 → 0 ≤ df (cc C) a b (rg i' e') (rg j' l') ∧ df (cc C) a b (rg i' e') (rg j' l') ≤ 100000 := fun i' e' j' l' h1 h2 => df_pos (hW.cbd h1 h2)
  have J100 : ∀ x2 : Int, 0 ≤ x2 → x2 ≤ 100000 → Q (if i < e ∧ j < l ∧ C 2 i = C 2 (12 + j) ∧ ((i : Int) = a ↔ (j : Int) = b) then min x2 (cpl C i j + df (cc C) a b (rg (i + 1) (min (ce C 0 i) e)) (rg (j + 1) (min (ce C 1 j) l)) + df (cc C) a b (rg (min (ce C 0 i) e) e) (rg (min (ce C 1 j) l) l)) else x2) M → wpj_X11_cost_100 i e j l a b x2 M Q := by
    intro x2 h1 h2 K2
    unfold wpj_X11_cost_100
    refine ⟨⟨by omega, by omega⟩, ⟨by omega, by omega⟩, fun h => ?_, fun h => ⟨⟨by omega, by omega⟩, ⟨by omega, by omega⟩, fun h' => ?_, fun h' => ?_⟩⟩
    · rwa [if_neg (fun z => by omega)] at K2
    · rwa [if_neg (fun z => by omega)] at K2
    · have hie : i < e := by omega
      have hjl : j < l := by omega
      have z1 := hW.e (t := 0) (p := i) (by omega)
      have z2 := hW.e (t := 1) (p := j) (by omega)
      have J142 : ∀ s0 s1 : Int, inR s0 → inR s1 → C 2 i = C 2 (12 + j) → (s1 ≠ s0 ↔ ¬ ((i : Int) = a ↔ (j : Int) = b)) → wpj_X11_cost_142 i e j l a b x2 s0 s1 M Q := by
        intro s0 s1 r0 r1 hk hs
        unfold wpj_X11_cost_142
        refine ⟨r1, r0, fun h3 => ?_, fun h3 => ?_⟩
        · rwa [if_neg (fun z => (hs.mp h3) z.2.2.2)] at K2
        · have hab : ((i : Int) = a ↔ (j : Int) = b) := Decidable.byContradiction (fun z => h3 (hs.mpr z))
          rw [if_pos ⟨hie, hjl, hk, hab⟩] at K2
          have m1 := hS.s0 (p := i) (by omega)
          have m2 := hS.s1 (p := j) (by omega)
          rw [show ((i : Int)).toNat = i from by omega, m1]
          refine ⟨⟨by omega, by omega⟩, sp_lesser ⟨by omega, by omega⟩ ⟨by omega, by omega⟩ ?_⟩
          rw [show min ((i : Int) + ((ce C 0 i : Int) - (i : Int))) (e : Int) = ((min (ce C 0 i) e : Nat) : Int) from by omega, show (12 + (j : Int)).toNat = 12 + j from by omega, m2]
          refine ⟨⟨by omega, by omega⟩, sp_lesser ⟨by omega, by omega⟩ ⟨by omega, by omega⟩ ?_⟩
          rw [show min ((j : Int) + ((ce C 1 j : Int) - (j : Int))) (l : Int) = ((min (ce C 1 j) l : Nat) : Int) from by omega]
          refine sp_pair hW hC hB rfl rfl (by omega) (by omega) (sp_at ?_)
          rw [show ((i : Int) + 1) = ((i + 1 : Nat) : Int) from by omega, show ((j : Int) + 1) = ((j + 1 : Nat) : Int) from by omega, ix_int]
          have L1 := ix_lt (i := i + 1) (e := min (ce C 0 i) e) (j := j + 1) (l := min (ce C 1 j) l) (by omega) (by omega) (by omega) (by omega)
          have L2 := ix_lt (i := min (ce C 0 i) e) (e := e) (j := min (ce C 1 j) l) (l := l) (by omega) (by omega) (by omega) (by omega)
          refine ⟨⟨by omega, by omega⟩, sp_at ?_⟩
          rw [ix_int]
          refine ⟨⟨by omega, by omega⟩, ?_⟩
          simp only [Int.toNat_natCast]
          rw [T (i + 1) (min (ce C 0 i) e) (j + 1) (min (ce C 1 j) l) (by omega) (by omega) (by omega) (by omega) (Or.inl (by omega)), T (min (ce C 0 i) e) e (min (ce C 1 j) l) l (by omega) (by omega) (by omega) (by omega) (Or.inl (by omega))]
          have b1 := BD (i + 1) (min (ce C 0 i) e) (j + 1) (min (ce C 1 j) l) (by omega) (by omega)
          have b2 := BD (min (ce C 0 i) e) e (min (ce C 1 j) l) l (by omega) (by omega)
          have b3 := hW.pl (p := i) (q := j) (by omega)
          exact sp_lesser ⟨by omega, by omega⟩ ⟨by omega, by omega⟩ K2
      refine sp_alk hC hB rfl rfl (by omega) (by omega) ⟨inR_ite _, fun h3 => ?_, fun h3 => ?_⟩
      · have hk : ¬ (C 2 i = C 2 (12 + j)) := fun z => by rw [if_pos z] at h3; cases h3
        rwa [if_neg (fun z => hk z.2.2.1)] at K2
      · have hk : C 2 i = C 2 (12 + j) := Decidable.byContradiction (fun z => h3 (if_neg z))
        unfold wpj_X11_cost_131
        refine ⟨⟨by omega, by omega⟩, ha, fun h4 => ⟨⟨by omega, by omega⟩, hb, fun h5 => ?_, fun h5 => ?_⟩, fun h4 => ⟨⟨by omega, by omega⟩, hb, fun h5 => ?_, fun h5 => ?_⟩⟩
        · exact J142 0 0 ⟨by decide, by decide⟩ ⟨by decide, by decide⟩ hk (by omega)
        · exact J142 1 0 ⟨by decide, by decide⟩ ⟨by decide, by decide⟩ hk (by omega)
        · exact J142 0 1 ⟨by decide, by decide⟩ ⟨by decide, by decide⟩ hk (by omega)
        · exact J142 1 1 ⟨by decide, by decide⟩ ⟨by decide, by decide⟩ hk (by omega)
  have J58 : ∀ x1 : Int, 0 ≤ x1 → x1 ≤ 100000 → Q ((fun x2 : Int => if i < e ∧ j < l ∧ C 2 i = C 2 (12 + j) ∧ ((i : Int) = a ↔ (j : Int) = b) then min x2 (cpl C i j + df (cc C) a b (rg (i + 1) (min (ce C 0 i) e)) (rg (j + 1) (min (ce C 1 j) l)) + df (cc C) a b (rg (min (ce C 0 i) e) e) (rg (min (ce C 1 j) l) l)) else x2) (if j < l ∧ (j : Int) ≠ b then min x1 (cil C j + df (cc C) a b (rg i e) (rg (j + 1) l)) else x1)) M → wpj_X11_cost_58 i e j l a b x1 M Q := by
    intro x1 h1 h2 K2
    unfold wpj_X11_cost_58
    refine ⟨⟨by omega, by omega⟩, ⟨by omega, by omega⟩, fun h => ?_, fun h => ⟨⟨by omega, by omega⟩, hb, fun h' => ?_, fun h' => ?_⟩⟩
    · rw [if_neg (c := j < l ∧ (j : Int) ≠ b) (fun z => by omega)] at K2
      exact J100 _ h1 h2 K2
    · rw [if_neg (c := j < l ∧ (j : Int) ≠ b) (fun z => z.2 h')] at K2
      exact J100 _ h1 h2 K2
    · rw [if_pos (c := j < l ∧ (j : Int) ≠ b) ⟨by omega, h'⟩] at K2
      refine sp_ins hW hC rfl rfl rfl (by omega) (sp_at ?_)
      rw [show ((j : Int) + 1) = ((j + 1 : Nat) : Int) from by omega, ix_int]
      have L1 := ix_lt (i := i) (e := e) (j := j + 1) (l := l) (by omega) (by omega) (by omega) (by omega)
      refine ⟨⟨by omega, by omega⟩, ?_⟩
      simp only [Int.toNat_natCast]
      rw [T i e (j + 1) l hi he (by omega) hl (Or.inr ⟨rfl, rfl, by omega⟩)]
      have b1 := BD i e (j + 1) l he hl
      have b3 := hW.il (p := j) (by omega)
      exact sp_lesser ⟨by omega, by omega⟩ ⟨by omega, by omega⟩ (J100 _ (by omega) (by omega) K2)
  have J13 : ¬ (i = e ∧ j = l) → wpj_X11_cost_13 i e j l a b M Q := by
    intro hne
    have K2 := K
    rw [← cost_eq hW hi he hj hl hne] at K2
    unfold wpj_X11_cost_13
    refine ⟨⟨by omega, by omega⟩, ⟨by omega, by omega⟩, fun h => ?_, fun h => ⟨⟨by omega, by omega⟩, ha, fun h' => ?_, fun h' => ?_⟩⟩
    · rw [if_neg (c := i < e ∧ (i : Int) ≠ a) (fun z => by omega)] at K2
      exact J58 _ (by omega) (by omega) K2
    · rw [if_neg (c := i < e ∧ (i : Int) ≠ a) (fun z => z.2 h')] at K2
      exact J58 _ (by omega) (by omega) K2
    · rw [if_pos (c := i < e ∧ (i : Int) ≠ a) ⟨by omega, h'⟩] at K2
      refine sp_del hW hC rfl rfl rfl (by omega) (sp_at ?_)
      rw [show ((i : Int) + 1) = ((i + 1 : Nat) : Int) from by omega, ix_int]
      have L1 := ix_lt (i := i + 1) (e := e) (j := j) (l := l) (by omega) (by omega) (by omega) (by omega)
      refine ⟨⟨by omega, by omega⟩, ?_⟩
      simp only [Int.toNat_natCast]
      rw [T (i + 1) e j l (by omega) he hj hl (Or.inl (by omega))]
      have b1 := BD (i + 1) e j l he hl
      have b3 := hW.dl (p := i) (by omega)
      exact sp_lesser ⟨by omega, by omega⟩ ⟨by omega, by omega⟩ (J58 _ (by omega) (by omega) K2)
  unfold wp_X11_cost wpe_X11_cost
  refine ⟨⟨by omega, by omega⟩, ⟨by omega, by omega⟩, fun h => J13 (fun z => h (by rw [z.1])), fun h => ⟨⟨by omega, by omega⟩, ⟨by omega, by omega⟩, fun h' => J13 (fun z => h' (by rw [z.2])), fun h' => ?_⟩⟩
  rw [rg_nil (by omega), rg_nil (by omega), df_nn] at K
  exact K
end COST
