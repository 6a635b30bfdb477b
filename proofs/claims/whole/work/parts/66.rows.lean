/-! the class's rows of places: postorder (b = 0) and preorder backwards (b = 1) -/
def fG (f : Nat → Nat) (v : Nat) : Nat → Nat
  | 0 => 0
  | k + 1 => if f k = v then k else fG f v k
theorem fG_spec (f : Nat → Nat) (v : Nat) : ∀ k : Nat, (∃ q : Nat, q < k ∧ f q = v) → fG f v k < k ∧ f (fG f v k) = v := by
  intro k
  induction k with
  | zero => intro ⟨q, h, _⟩; omega
  | succ k ih =>
    intro ⟨q, h1, h2⟩
    unfold fG
    by_cases c : f k = v
    · rw [if_pos c]
      exact ⟨by omega, c⟩
    · rw [if_neg c]
      have a := ih ⟨q, by
        by_cases e : q = k
        · subst e; exact absurd h2 c
        · omega, h2⟩
      exact ⟨by omega, a.2⟩
def pl (C : Nat → Nat → Int) (t b p : Nat) : Nat := if b = 0 then fG (po (cL C t) (cn C t)) p (cn C t) else cn C t - 1 - p
/-- where the subtree of a place of a row begins -/
def rF (C : Nat → Nat → Int) (t b p : Nat) : Nat := p + 1 - (ce C t (pl C t b p) - pl C t b p)
section ROWP
variable {C : Nat → Nat → Int} {t b p q : Nat}
theorem pl_lt (hW : WF C) (ht : t < 2) (hp : p < cn C t) : pl C t b p < cn C t := by
  unfold pl
  split
  · exact (fG_spec _ _ _ (po_surj (hW.wl ht) hp)).1
  · omega
theorem pl_po (hW : WF C) (ht : t < 2) (hp : p < cn C t) : po (cL C t) (cn C t) (pl C t 0 p) = p := by
  unfold pl
  rw [if_pos rfl]
  exact (fG_spec _ _ _ (po_surj (hW.wl ht) hp)).2
theorem po_pl (hW : WF C) (ht : t < 2) (hp : p < cn C t) : pl C t 0 (po (cL C t) (cn C t) p) = p := po_inj (hW.wl ht) (pl_lt hW ht (po_lt (hW.wl ht) hp)) hp (pl_po hW ht (po_lt (hW.wl ht) hp))
theorem rF_0 (hW : WF C) (ht : t < 2) (hp : p < cn C t) : rF C t 0 p = pl C t 0 p - cL C t (pl C t 0 p) ∧ cL C t (pl C t 0 p) ≤ pl C t 0 p ∧ ce C t (pl C t 0 p) = p + 1 + cL C t (pl C t 0 p) := by
  have l := pl_lt (b := 0) hW ht hp
  have a := po_first (hW.wl ht) l
  have c := po_add (hW.wl ht) l
  rw [pl_po hW ht hp] at a c
  exact ⟨a, (hW.wl ht).le l, c.symm⟩
theorem rF_1 (hW : WF C) (hp : p < cn C t) (hb : b ≠ 0) : pl C t b p = cn C t - 1 - p ∧ rF C t b p + ce C t (pl C t b p) = cn C t := by
  have e : pl C t b p = cn C t - 1 - p := if_neg hb
  have l := hW.e (C := C) (t := t) (p := pl C t b p) (by omega)
  refine ⟨e, ?_⟩
  unfold rF
  omega
/-- its size, once more -/
theorem rF_sz (hW : WF C) (ht : t < 2) (hp : p < cn C t) : rF C t b p ≤ p ∧ (rF C t b p : Int) = (p : Int) - ((ce C t (pl C t b p) : Int) - pl C t b p) + 1 := by
  by_cases hb : b = 0
  · subst hb
    have a := rF_0 hW ht hp
    have l := hW.e (C := C) (t := t) (pl_lt (b := 0) hW ht hp)
    omega
  · have a := rF_1 hW hp hb
    have l := hW.e (C := C) (t := t) (p := pl C t b p) (by omega)
    omega
theorem rF_anc (hW : WF C) (ht : t < 2) (hp : p < cn C t) (hq : q < cn C t) : (rF C t b p ≤ q ∧ q < p) ↔ (pl C t b p < pl C t b q ∧ pl C t b q < ce C t (pl C t b p)) := by
  by_cases hb : b = 0
  · subst hb
    have a := rF_0 hW ht hp
    have x := po_below (hW.wl ht) (p := pl C t 0 p) (q := pl C t 0 q) (pl_lt hW ht hp) (pl_lt hW ht hq)
    rw [pl_po hW ht hp, pl_po hW ht hq, ← a.1] at x
    exact x
  · have a := rF_1 hW hp hb
    have d := rF_1 hW hq hb
    have l := hW.e (C := C) (t := t) (p := pl C t b p) (by omega)
    omega
theorem rF_nest (hW : WF C) (ht : t < 2) (hp : p < cn C t) (h1 : rF C t b p ≤ q) (h2 : q ≤ p) : rF C t b p ≤ rF C t b q := by
  by_cases e : q = p
  · subst e; omega
  · have an := (rF_anc (b := b) hW ht hp (q := q) (by omega)).mp ⟨h1, by omega⟩
    have lp := pl_lt (b := b) hW ht hp
    by_cases hb : b = 0
    · subst hb
      have a := rF_0 hW ht hp
      have d := rF_0 hW ht (p := q) (by omega)
      have m := (hW.wl ht).mono (p := pl C t 0 p) (q := pl C t 0 q) (by omega) (pl_lt hW ht (by omega))
      omega
    · have a := rF_1 hW hp hb
      have d := rF_1 hW (p := q) (t := t) (by omega) hb
      have ne := eN_nest (L := cL C t) (n := cn C t) lp an.1 an.2
      unfold ce at a d
      omega
end ROWP
def al (C : Nat → Nat → Int) (t p : Nat) : Int := if t = 0 then cdl C p else cil C p
theorem WF.alb {C : Nat → Nat → Int} (h : WF C) {t p : Nat} (ht : t < 2) (hp : p < cn C t) : 0 ≤ al C t p ∧ al C t p ≤ 50 := by
  change 0 ≤ (if t = 0 then cdl C p else cil C p) ∧ (if t = 0 then cdl C p else cil C p) ≤ 50
  split
  · rename_i e
    subst e
    exact h.dl hp
  · have e : t = 1 := by omega
    subst e
    exact h.il hp
def fn (C : Nat → Nat → Int) (t b p : Nat) : Int := al C t (pl C t b p)
def RowP (C : Nat → Nat → Int) (M : Mem) (o t b : Nat) : Prop := M o 5 0 = (cn C t : Int) ∧ (∀ p : Nat, p < cn C t → M o 0 p = (nd C t (pl C t b p) : Int) ∧ M o 1 p = (rF C t b p : Int) ∧ M o 2 p = (if pl C t b p = 0 ∨ cL C t (pl C t b p) ≤ cL C t (pl C t b p - 1) then 1 else 0) ∧ M o 3 p = fn C t b p) ∧ ∀ p : Nat, p ≤ cn C t → M o 4 p = sm (fn C t b) 0 p
theorem al_rd {C : Nat → Nat → Int} {M : Mem} (hW : WF C) (hX : Cls C M) {t p w : Nat} (ht : t < 2) (hw : w = 1 - t) (hp : p < cn C t) : M 1 w (C 2 (12 * t + p)).toNat = al C t p := by
  have k := hW.k ht hp
  rw [hX.2.2.1 _ w (by omega) (by omega)]
  unfold al
  have e : t = 0 ∨ t = 1 := by omega
  rcases e with e | e
  · subst e
    rw [if_pos rfl]
    unfold cdl
    rw [show 12 * 0 + p = p from by omega] at k ⊢
    exact congrArg _ (by omega)
  · subst e
    rw [if_neg (by omega)]
    unfold cil
    rw [show 12 * 1 + p = 12 + p from by omega] at k ⊢
    exact congrArg _ (by omega)
set_option maxHeartbeats 4000000 in
theorem sp_fillrow {C : Nat → Nat → Int} {M : Mem} {Q : Mem → Prop} {o o' t b w : Nat} {p1 : Int} (hW : WF C) (hX : Cls C M) (hB : Bd M) (ht : t < 2) (ho : o = 9 + t) (ho' : o' = 11 + t) (hw : w = 1 - t) (hb : b < 2) (e1 : p1 = b) (hz : M o 4 0 = 0) (K : ∀ M' : Mem, Fr (fun o1 _ => o1 == o) M M' → Bd M' → RowP C M' o t b → Q M') : wp_X6_fill M o o' p1 1 w 4 Q := by
  subst e1
  have n12 := hW.n12 ht
  have hP : ∀ o1 k : Nat, kt o1 k = true → (o1 == o) = false := fun o1 k h => by
    simp only [kt, Bool.or_eq_true, beq_iff_eq] at h
    simp only [beq_eq_false_iff_ne]
    omega
  have AB : ∀ q : Nat, q < cn C t → 0 ≤ fn C t b q ∧ fn C t b q ≤ 50 := fun q hq => hW.alb ht (pl_lt hW ht hq)
  unfold wp_X6_fill
  refine ⟨fun n x4 M1 => ∃ p : Nat, x4 = p ∧ p ≤ cn C t ∧ n = cn C t - p ∧ Fr (fun o1 _ => o1 == o) M M1 ∧ Bd M1 ∧ M1 o 5 0 = (cn C t : Int) ∧ (∀ q : Nat, q < p → M1 o 0 q = (nd C t (pl C t b q) : Int) ∧ M1 o 1 q = (rF C t b q : Int) ∧ M1 o 2 q = (if pl C t b q = 0 ∨ cL C t (pl C t b q) ≤ cL C t (pl C t b q - 1) then 1 else 0) ∧ M1 o 3 q = fn C t b q) ∧ (∀ q : Nat, q ≤ p → M1 o 4 q = sm (fn C t b) 0 q), ?_, ?_⟩
  · unfold wpe_X6_fill
    intro M1 e1
    subst e1
    rw [hX.n ho' ht]
    refine ⟨_, 0, rfl, Nat.zero_le _, rfl, Fr.rf.set (by simp), hB.set (by omega) (by omega), mset_eq, fun q hq => absurd hq (Nat.not_lt_zero _), fun q hq => ?_⟩
    rw [show q = 0 from by omega, mset_ne (by omega), hz, sm_self _ (Nat.le_refl _)]
  · intro n x4 M1 ⟨p, e4, hp, hn, hF, hB1, h5, hR, hS⟩
    subst e4; subst hn
    have X1 : Cls C M1 := hX.fr hF hP
    unfold wph_X6_fill_11
    rw [h5]
    have J48 : ∀ s0 : Int, p < cn C t → s0 = (nd C t (pl C t b p) : Int) → wpj_X6_fill_48 o o' (b : Int) 1 w 4 (p : Int) s0 M1 (fun (x4 : Int) (M2 : Mem) => ∃ n1 : Nat, n1 < cn C t - p ∧ ∃ p : Nat, x4 = p ∧ p ≤ cn C t ∧ n1 = cn C t - p ∧ Fr (fun o1 _ => o1 == o) M M2 ∧ Bd M2 ∧ M2 o 5 0 = (cn C t : Int) ∧ (∀ q : Nat, q < p → M2 o 0 q = (nd C t (pl C t b q) : Int) ∧ M2 o 1 q = (rF C t b q : Int) ∧ M2 o 2 q = (if pl C t b q = 0 ∨ cL C t (pl C t b q) ≤ cL C t (pl C t b q - 1) then 1 else 0) ∧ M2 o 3 q = fn C t b q) ∧ (∀ q : Nat, q ≤ p → M2 o 4 q = sm (fn C t b) 0 q)) Q := by
      intro s0 hpn es
      subst es
      have lx := pl_lt (b := b) hW ht hpn
      have ly := hW.ndl ht lx
      have zx := hW.e (C := C) (t := t) lx
      have fz := rF_sz (b := b) hW ht hpn
      have kx := hW.k ht lx
      unfold wpj_X6_fill_48
      simp only [Int.toNat_natCast]
      refine ⟨⟨by omega, by omega⟩, fun M9 e9 => ⟨⟨by omega, by omega⟩, ⟨by omega, by omega⟩, fun M12 e12 => ?_⟩⟩
      have F9 : Fr (fun o1 _ => o1 == o) M M9 := e9 ▸ hF.set (by simp)
      have B9 : Bd M9 := e9 ▸ hB1.set (by omega) (by omega)
      have X9 := hX.fr F9 hP
      rw [X9.sz ho' ht lx, ← fz.2] at e12
      have F12 : Fr (fun o1 _ => o1 == o) M M12 := e12 ▸ F9.set (by simp)
      have B12 : Bd M12 := e12 ▸ B9.set (by omega) (by omega)
      refine sp_isKey hW (hX.fr F12 hP) B12 ho' ht lx rfl ⟨⟨by omega, by omega⟩, ite01 _, fun M16 e16 => ?_⟩
      have F16 : Fr (fun o1 _ => o1 == o) M M16 := e16 ▸ F12.set (by simp)
      have B16 : Bd M16 := e16 ▸ B12.set (by split <;> omega) (by split <;> omega)
      have X16 := hX.fr F16 hP
      have k16 := X16.kd ho' ht lx
      have a16 := al_rd hW X16 ht hw lx
      rw [k16, a16]
      refine ⟨⟨by omega, by omega⟩, ⟨by omega, by omega⟩, ⟨by omega, by omega⟩, fun M21 e21 => ⟨⟨by omega, by omega⟩, ⟨by omega, by omega⟩, ⟨by omega, by omega⟩, fun M25 e25 => ?_⟩⟩
      have hal := AB p hpn
      change M21 = mset M16 o 3 p (fn C t b p) at e21
      have F21 : Fr (fun o1 _ => o1 == o) M M21 := e21 ▸ F16.set (by simp)
      have B21 : Bd M21 := e21 ▸ B16.set (by omega) (by omega)
      have r4 : M21 o 4 p = sm (fn C t b) 0 p := by
        rw [e21, mset_ne (by omega), e16, mset_ne (by omega), e12, mset_ne (by omega), e9, mset_ne (by omega)]
        exact hS p (Nat.le_refl _)
      have r3 : M21 o 3 p = fn C t b p := by rw [e21, mset_eq]
      have sb := sm_bd (fn C t b) (i := 0) (j := p) (fun k _ h2 => AB k (by omega))
      rw [r4, r3, ← sm_succ _ (Nat.zero_le _), show ((p : Int) + 1).toNat = p + 1 from by omega] at e25
      have sb1 := sm_bd (fn C t b) (i := 0) (j := p + 1) (fun k _ h2 => AB k (by omega))
      refine ⟨cn C t - (p + 1), by omega, p + 1, by omega, by omega, rfl, e25 ▸ F21.set (by simp), e25 ▸ B21.set (by omega) (by omega), ?_, fun q hq => ?_, fun q hq => ?_⟩
      · rw [e25, mset_ne (by omega), e21, mset_ne (by omega), e16, mset_ne (by omega), e12, mset_ne (by omega), e9, mset_ne (by omega)]
        exact h5
      · by_cases c : q = p
        · subst c
          refine ⟨?_, ?_, ?_, ?_⟩
          · rw [e25, mset_ne (by omega), e21, mset_ne (by omega), e16, mset_ne (by omega), e12, mset_ne (by omega), e9, mset_eq]
          · rw [e25, mset_ne (by omega), e21, mset_ne (by omega), e16, mset_ne (by omega), e12, mset_eq]
          · rw [e25, mset_ne (by omega), e21, mset_ne (by omega), e16, mset_eq]
          · rw [e25, mset_ne (by omega), r3]
        · have hh := hR q (by omega)
          refine ⟨?_, ?_, ?_, ?_⟩
          · rw [e25, mset_ne (by omega), e21, mset_ne (by omega), e16, mset_ne (by omega), e12, mset_ne (by omega), e9, mset_ne (by omega)]
            exact hh.1
          · rw [e25, mset_ne (by omega), e21, mset_ne (by omega), e16, mset_ne (by omega), e12, mset_ne (by omega), e9, mset_ne (by omega)]
            exact hh.2.1
          · rw [e25, mset_ne (by omega), e21, mset_ne (by omega), e16, mset_ne (by omega), e12, mset_ne (by omega), e9, mset_ne (by omega)]
            exact hh.2.2.1
          · rw [e25, mset_ne (by omega), e21, mset_ne (by omega), e16, mset_ne (by omega), e12, mset_ne (by omega), e9, mset_ne (by omega)]
            exact hh.2.2.2
      · rw [e25, mset_i]
        by_cases c : q = p + 1
        · rw [if_pos c, c]
        · rw [if_neg c, e21, mset_ne (by omega), e16, mset_ne (by omega), e12, mset_ne (by omega), e9, mset_ne (by omega)]
          exact hS q (by omega)
    refine ⟨⟨by omega, by omega⟩, ⟨by omega, by omega⟩, fun h => K M1 hF hB1 ⟨h5, fun q hq => hR q (by omega), fun q hq => hS q (by omega)⟩, fun h => ⟨⟨by omega, by omega⟩, fun h2 => ⟨⟨by omega, by omega⟩, J48 _ (by omega) ?_⟩, fun h2 => ⟨⟨by omega, by omega⟩, J48 _ (by omega) ?_⟩⟩⟩
    · have e : b = 0 := by omega
      subst e
      have a := X1.ps ho' ht (pl_lt (b := 0) hW ht (p := p) (by omega))
      rw [pl_po hW ht (p := p) (by omega)] at a
      simp only [Int.toNat_natCast]
      exact a
    · have e : pl C t b p = cn C t - 1 - p := if_neg (by omega)
      rw [show ((cn C t : Int) - 1 - (p : Int)).toNat = pl C t b p from by omega]
      exact X1.pre ho' ht (pl_lt (b := b) hW ht (p := p) (by omega))
def LayP (C : Nat → Nat → Int) (M : Mem) (b : Nat) : Prop := RowP C M 9 0 b ∧ RowP C M 10 1 b ∧ ∀ p q : Nat, p < cn C 0 → q < cn C 1 → M 2 3 (p * 12 + q) = cpr C (pl C 0 b p) (pl C 1 b q)
theorem RowP.fr {C : Nat → Nat → Int} {P : Nat → Nat → Bool} {M M' : Mem} {o t b : Nat} (h : RowP C M o t b) (hF : Fr P M M') (h0 : P o 0 = false) (h1 : P o 1 = false) (h2 : P o 2 = false) (h3 : P o 3 = false) (h4 : P o 4 = false) (h5 : P o 5 = false) : RowP C M' o t b := by
  refine ⟨by rw [hF o 5 0 h5]; exact h.1, fun p hp => ?_, fun p hp => by rw [hF o 4 p h4]; exact h.2.2 p hp⟩
  rw [hF o 0 p h0, hF o 1 p h1, hF o 2 p h2, hF o 3 p h3]
  exact h.2.1 p hp
theorem sp_pairingPrice {C : Nat → Nat → Int} {M : Mem} {Q : Int → Mem → Prop} {p q : Nat} {p0 p1 : Int} (hW : WF C) (hX : Cls C M) (hB : Bd M) (hp : p < cn C 0) (hq : q < cn C 1) (e0 : p0 = (nd C 0 p : Int)) (e1 : p1 = (nd C 1 q : Int)) (K : Q (cpr C p q) M) : wp_X1_pairingPrice M p0 p1 Q := by
  subst e0; subst e1
  have n0 := hW.n12 (t := 0) (by omega)
  have n1 := hW.n12 (t := 1) (by omega)
  have l0 := hW.ndl (t := 0) (by omega) hp
  have l1 := hW.ndl (t := 1) (by omega) hq
  have k0 := hW.k0 hp
  unfold wp_X1_pairingPrice wpe_X1_pairingPrice
  simp only [Int.toNat_natCast]
  have a1 := hX.kd (o := 11) (t := 0) rfl (by omega) hp
  have a2 := hX.kd (o := 12) (t := 1) rfl (by omega) hq
  have b1 := hX.lb (o := 11) (t := 0) rfl (by omega) hp
  have b2 := hX.lb (o := 12) (t := 1) rfl (by omega) hq
  rw [show 12 * 0 + p = p from by omega] at a1 b1
  rw [show 12 * 1 + q = 12 + q from by omega] at a2 b2
  have r1 := hB.r 11 0 (nd C 0 p)
  have r2 := hB.r 12 0 (nd C 1 q)
  have r3 := hB.r 11 1 (nd C 0 p)
  have r4 := hB.r 12 1 (nd C 1 q)
  rw [a1] at r1 ⊢
  rw [a2] at r2 ⊢
  rw [b1] at r3 ⊢
  rw [b2] at r4 ⊢
  have e2 := hX.2.2.1 (C 2 p).toNat 2 (by omega) (by omega)
  refine ⟨⟨by omega, by omega⟩, ⟨by omega, by omega⟩, r1, r2, fun h => ⟨⟨by omega, by omega⟩, ⟨by omega, by omega⟩, r3, r4, fun h2 => ⟨⟨by omega, by omega⟩, ⟨by omega, by omega⟩, ?_⟩, fun h2 => ?_⟩, fun h => ?_⟩
  · unfold cpr cpl at K
    rw [if_pos h, if_neg h2] at K
    rw [e2]
    unfold crl at K
    rw [show 3 * (C 2 p).toNat + 2 = (3 * C 2 p + 2).toNat from by omega]
    exact K
  · unfold cpr cpl at K
    rwa [if_pos h, if_pos (Decidable.byContradiction h2)] at K
  · unfold cpr at K
    rwa [if_neg h] at K
def PL (o k : Nat) : Bool := o == 9 || o == 10 || (o == 2 && k == 3)
theorem PL_kt : ∀ o k : Nat, kt o k = true → PL o k = false := fun o k h => by
  simp only [kt, Bool.or_eq_true, beq_iff_eq] at h
  simp only [PL, Bool.or_eq_false_iff, Bool.and_eq_false_iff, beq_eq_false_iff_ne]
  omega
set_option maxHeartbeats 4000000 in
theorem sp_lay {C : Nat → Nat → Int} {M : Mem} {Q : Mem → Prop} {b : Nat} {p0 : Int} (hW : WF C) (hX : Cls C M) (hB : Bd M) (hb : b < 2) (e0 : p0 = b) (hz1 : M 9 4 0 = 0) (hz2 : M 10 4 0 = 0) (K : ∀ M' : Mem, Fr PL M M' → Bd M' → LayP C M' b → Q M') : wp_X3_lay M p0 Q := by
  have n0 := hW.n12 (t := 0) (by omega)
  have n1 := hW.n12 (t := 1) (by omega)
  unfold wp_X3_lay
  refine ⟨fun n x2 M1 => ∃ p : Nat, x2 = p ∧ p ≤ cn C 0 ∧ n = (13 - p) * 20 ∧ Fr PL M M1 ∧ Bd M1 ∧ RowP C M1 9 0 b ∧ RowP C M1 10 1 b ∧ (∀ i j : Nat, i < cn C 0 → j < cn C 1 → i < p → M1 2 3 (i * 12 + j) = cpr C (pl C 0 b i) (pl C 1 b j)),
    fun n x2 x3 M1 => ∃ p q : Nat, x2 = p ∧ x3 = q ∧ p < cn C 0 ∧ q ≤ cn C 1 ∧ n = (13 - p) * 20 - 1 - q ∧ Fr PL M M1 ∧ Bd M1 ∧ RowP C M1 9 0 b ∧ RowP C M1 10 1 b ∧ (∀ i j : Nat, i < cn C 0 → j < cn C 1 → (i < p ∨ i = p ∧ j < q) → M1 2 3 (i * 12 + j) = cpr C (pl C 0 b i) (pl C 1 b j)), ?_, ?_, ?_⟩
  · unfold wpe_X3_lay
    refine sp_fillrow hW hX hB (t := 0) (by omega) rfl rfl rfl hb e0 hz1 (fun M2 F2 B2 R2 => ?_)
    have m2 : Fr PL M M2 := F2.mono (fun o k h => by simp only [beq_iff_eq] at h; subst h; rfl)
    refine sp_fillrow hW (hX.fr m2 PL_kt) B2 (t := 1) (by omega) rfl rfl rfl hb e0 (by rw [F2 10 4 0 rfl]; exact hz2) (fun M4 F4 B4 R4 => ?_)
    have m4 : Fr PL M2 M4 := F4.mono (fun o k h => by simp only [beq_iff_eq] at h; subst h; rfl)
    exact ⟨_, 0, rfl, Nat.zero_le _, rfl, m2.tr m4, B4, R2.fr F4 rfl rfl rfl rfl rfl rfl, R4, fun i j h1 h2 h3 => absurd h3 (Nat.not_lt_zero _)⟩
  · intro n x2 M1 ⟨p, e2, hp, hn, hF, hB1, R1, R2, hT⟩
    subst e2; subst hn
    unfold wph_X3_lay_46
    rw [R1.1]
    refine ⟨⟨by omega, by omega⟩, ⟨by omega, by omega⟩, fun h => K M1 hF hB1 ⟨R1, R2, fun i j h1 h2 => hT i j h1 h2 (by omega)⟩, fun h => ⟨(13 - p) * 20 - 1 - 0, by omega, p, 0, rfl, rfl, by omega, by omega, rfl, hF, hB1, R1, R2, fun i j h1 h2 h3 => hT i j h1 h2 (by omega)⟩⟩
  · intro n x2 x3 M1 ⟨p, q, e2, e3, hp, hq, hn, hF, hB1, R1, R2, hT⟩
    subst e2; subst e3; subst hn
    unfold wph_X3_lay_59
    rw [R2.1]
    refine ⟨⟨by omega, by omega⟩, ⟨by omega, by omega⟩, fun h => ⟨(13 - (p + 1)) * 20, by omega, p + 1, by omega, by omega, rfl, hF, hB1, R1, R2, fun i j h1 h2 h3 => hT i j h1 h2 (by omega)⟩, fun h => ⟨⟨by omega, by omega⟩, ⟨by omega, by omega⟩, ?_⟩⟩
    have X1 := hX.fr hF PL_kt
    have lp := pl_lt (b := b) hW (t := 0) (by omega) hp
    have lq := pl_lt (b := b) hW (t := 1) (p := q) (by omega) (by omega)
    have cb := hW.prr (p := pl C 0 b p) (q := pl C 1 b q) lp
    simp only [Int.toNat_natCast]
    refine sp_pairingPrice hW X1 hB1 lp lq (R1.2.1 p hp).1 (R2.2.1 q (by omega)).1 ?_
    rw [show ((p : Int) * 12 + (q : Int)).toNat = p * 12 + q from by omega]
    refine ⟨⟨by omega, by omega⟩, fun M15 e15 => ?_⟩
    subst e15
    have hs : Fr (fun o k => o == 2 && k == 3) M1 (mset M1 2 3 (p * 12 + q) (cpr C (pl C 0 b p) (pl C 1 b q))) := Fr.rf.set rfl
    refine ⟨(13 - p) * 20 - 1 - (q + 1), by omega, p, q + 1, rfl, by omega, hp, by omega, rfl, hF.set rfl, hB1.set (by omega) (by omega), R1.fr hs rfl rfl rfl rfl rfl rfl, R2.fr hs rfl rfl rfl rfl rfl rfl, fun i j h1 h2 h3 => ?_⟩
    rw [mset_i]
    by_cases c : i * 12 + j = p * 12 + q
    · have c1 : i = p := by omega
      have c2 : j = q := by omega
      subst c1; subst c2
      rw [if_pos rfl]
    · rw [if_neg c]
      refine hT i j h1 h2 ?_
      rcases h3 with h3 | h3
      · exact Or.inl h3
      · refine Or.inr ⟨h3.1, ?_⟩
        have := h3.1
        subst this
        omega
