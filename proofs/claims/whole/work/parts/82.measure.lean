/-! the class measures a tree anew -/
def Pme (u : Nat) (o k : Nat) : Bool := o == u && (k == 4 || k == 5 || k == 6 || k == 7)
theorem Pme_no {u o k : Nat} (h : ¬ (o = u ∧ (k = 4 ∨ k = 5 ∨ k = 6 ∨ k = 7))) : Pme u o k = false := by
  cases e : Pme u o k with
  | false => rfl
  | true =>
    refine absurd ?_ h
    simp only [Pme, Bool.and_eq_true, Bool.or_eq_true, beq_iff_eq] at e
    omega
theorem Pme_yes {u k : Nat} (h : k = 4 ∨ k = 5 ∨ k = 6 ∨ k = 7) : Pme u u k = true := by
  unfold Pme
  rcases h with rfl | rfl | rfl | rfl <;> simp
section MEAS
variable {C : Nat → Nat → Int} {M : Mem} {t o : Nat}
/-- how far the sizes are summed: the places at or above s have been added -/
def szE (C : Nat → Nat → Int) (t s p e : Nat) : Prop := p < e ∧ e ≤ ce C t p ∧ (e < ce C t p → cL C t e = cL C t p + 1) ∧ (∀ y : Nat, s ≤ y → p < y → y < e → cL C t y ≠ cL C t p + 1) ∧ (s ≤ ce C t p → s ≤ e) ∧ (ce C t p ≤ s → e = ce C t p)
theorem szE_init {p : Nat} (hp : p < cn C t) : szE C t (cn C t) p (ce C t p) := by
  have a := eN_gt (L := cL C t) hp
  have b := eN_le (L := cL C t) hp
  refine ⟨a, Nat.le_refl _, fun h => absurd h (Nat.lt_irrefl _), fun y h1 _ h2 => ?_, fun h => h, fun _ => rfl⟩
  unfold ce at h2
  omega
theorem szE_end (hW : WF C) (ht : t < 2) {s p e : Nat} (hp : p < cn C t) (hs : s ≤ p + 1) (h : szE C t s p e) : e = p + 1 := by
  obtain ⟨h1, h2, h3, h4, h5, h6⟩ := h
  refine Decidable.byContradiction (fun c => ?_)
  have b := (hW.e hp).2
  have q := h4 (p + 1) hs (by omega) (by omega)
  have u := eN_in (L := cL C t) hp (show p < p + 1 from by omega) (show p + 1 < eN (cL C t) (cn C t) p from by unfold ce at h2; omega)
  have v := ((hW.wl ht).2 p (by omega)).2
  omega
theorem szE_par (hW : WF C) (ht : t < 2) {x e : Nat} (h0 : 0 < x) (hx : x < cn C t) (h : szE C t (x + 1) (par (cL C t) x) e) : e = ce C t x ∧ szE C t x (par (cL C t) x) x := by
  obtain ⟨h1, h2, h3, h4, h5, h6⟩ := h
  have ps := par_spec (hW.wl ht) h0 hx
  have pin := par_in (hW.wl ht) h0 hx
  have hp : par (cL C t) x < cn C t := by omega
  have ne := eN_nest (L := cL C t) hp ps.1 pin
  have ex := hW.e hx
  have ep := hW.e hp
  have le : x + 1 ≤ e := h5 (by unfold ce; omega)
  constructor
  · rcases Nat.lt_trichotomy e (ce C t x) with c | c | c
    · have a := h3 (by unfold ce at c ⊢; omega)
      have b := eN_in (L := cL C t) hx (show x < e from by omega) (by unfold ce at c; exact c)
      omega
    · exact c
    · have a := h4 (ce C t x) (by omega) (by omega) c
      have b := eN_in (L := cL C t) hp (show par (cL C t) x < ce C t x from by omega) (by unfold ce at c h2 ⊢; omega)
      have d := eN_at (L := cL C t) hx (show eN (cL C t) (cn C t) x < cn C t from by unfold ce at c h2 ep; omega)
      unfold ce at a b
      omega
  · refine ⟨ps.1, by unfold ce; omega, fun _ => by omega, fun y a _ b => by omega, fun _ => Nat.le_refl _, fun a => ?_⟩
    unfold ce at a
    omega
theorem szE_oth (hW : WF C) (ht : t < 2) {x p e : Nat} (h0 : 0 < x) (hx : x < cn C t) (hp : p < cn C t) (hn : par (cL C t) x ≠ p) (h : szE C t (x + 1) p e) : szE C t x p e := by
  obtain ⟨h1, h2, h3, h4, h5, h6⟩ := h
  refine ⟨h1, h2, h3, fun y a b c d => ?_, fun a => ?_, fun a => h6 (by omega)⟩
  · by_cases z : y = x
    · subst z
      exact hn ((par_iff (hW.wl ht) hp b (by unfold ce at h2; omega)).mpr d)
    · exact h4 y (by omega) b c d
  · by_cases z : x + 1 ≤ ce C t p
    · have := h5 z
      omega
    · have := h6 (by omega)
      omega
theorem sp_measure {Q : Mem → Prop} (hW : WF C) (ho : o = 11 + t) (ht : t < 2) (hB : Bd M) (h8 : M o 8 0 = (cn C t : Int)) (h3 : ∀ p : Nat, p < cn C t → M o 3 p = (nd C t p : Int)) (h2 : ∀ p : Nat, p < cn C t → M o 2 (nd C t p) = (if p = 0 then -1 else (nd C t (par (cL C t) p) : Int))) (K : ∀ M' : Mem, Fr (Pme o) M M' → Bd M' → (∀ p : Nat, p < cn C t → M' o 5 (nd C t p) = p ∧ M' o 6 (nd C t p) = (ce C t p : Int) - p ∧ M' o 7 (nd C t p) = (cL C t p : Int) ∧ M' o 4 (po (cL C t) (cn C t) p) = (nd C t p : Int)) → Q M') : wp_X9_measure M o Q := by
  have n12 := hW.n12 ht
  have wl := hW.wl ht
  have f0 : ∀ (M1 : Mem) (k i : Nat), Fr (Pme o) M M1 → (k = 8 ∨ k = 3 ∨ k = 2) → M1 o k i = M o k i := fun M1 k i F hk => F o k i (Pme_no (by omega))
  unfold wp_X9_measure
  refine ⟨fun n x M1 => Fr (Pme o) M M1 ∧ Bd M1 ∧ ∃ s : Nat, x = (s : Int) ∧ s ≤ cn C t ∧ n = 60 + (cn C t - s) ∧ ∀ p : Nat, p < s → M1 o 5 (nd C t p) = p ∧ M1 o 6 (nd C t p) = 1 ∧ M1 o 7 (nd C t p) = (cL C t p : Int), fun n x M1 => Fr (Pme o) M M1 ∧ Bd M1 ∧ ∃ s : Nat, x = (s : Int) - 1 ∧ s ≤ cn C t ∧ n = 20 + s ∧ ∀ p : Nat, p < cn C t → M1 o 5 (nd C t p) = p ∧ M1 o 7 (nd C t p) = (cL C t p : Int) ∧ ∃ e : Nat, szE C t s p e ∧ M1 o 6 (nd C t p) = (ce C t p : Int) + 1 - e, fun n x M1 => Fr (Pme o) M M1 ∧ Bd M1 ∧ ∃ s : Nat, x = (s : Int) ∧ s ≤ cn C t ∧ n = cn C t - s ∧ (∀ p : Nat, p < cn C t → M1 o 5 (nd C t p) = p ∧ M1 o 6 (nd C t p) = (ce C t p : Int) - p ∧ M1 o 7 (nd C t p) = (cL C t p : Int)) ∧ ∀ p : Nat, p < cn C t → nd C t p < s → M1 o 4 (po (cL C t) (cn C t) p) = (nd C t p : Int), ?_, ?_, ?_, ?_⟩
  · unfold wpe_X9_measure
    exact ⟨_, Fr.rf, hB, 0, rfl, Nat.zero_le _, rfl, fun p hp => absurd hp (Nat.not_lt_zero _)⟩
  · intro n x M1 ⟨F1, B1, s, ex, hs, hn, H⟩
    subst ex
    unfold wph_X9_measure_2
    rw [f0 M1 8 0 F1 (by omega), h8]
    refine ⟨⟨by omega, by omega⟩, ⟨by omega, by omega⟩, fun h y4 e4 => ?_, fun h => ⟨by omega, fun y6 e6 => ?_⟩⟩
    · subst e4
      have es : s = cn C t := by omega
      rw [es] at H
      refine ⟨20 + cn C t, by omega, F1, B1, cn C t, rfl, Nat.le_refl _, rfl, fun p hp => ⟨(H p hp).1, (H p hp).2.2, ce C t p, szE_init hp, ?_⟩⟩
      rw [(H p hp).2.1]
      omega
    · have hsn : s < cn C t := by omega
      have l := hW.ndl ht hsn
      rw [Int.toNat_natCast, f0 M1 3 s F1 (by omega), h3 s hsn] at e6
      subst e6
      simp only [Int.toNat_natCast]
      refine ⟨by omega, fun M7 e7 => ⟨by omega, fun M9 e9 => ?_⟩⟩
      have F9 : Fr (Pme o) M M9 := by
        rw [e9, e7]
        exact (F1.set (Pme_yes (by omega))).set (Pme_yes (by omega))
      have B9 : Bd M9 := by
        rw [e9, e7]
        exact (B1.set (by omega) (by omega)).set (by omega) (by omega)
      have V5 : ∀ i : Nat, M9 o 5 i = if i = nd C t s then (s : Int) else M1 o 5 i := fun i => by
        rw [e9, mset_ne (by omega), e7, mset_i]
      have V6 : ∀ i : Nat, M9 o 6 i = if i = nd C t s then 1 else M1 o 6 i := fun i => by
        rw [e9, mset_i]
        split
        · rfl
        · rw [e7, mset_ne (by omega)]
      have V7 : ∀ i : Nat, M9 o 7 i = M1 o 7 i := fun i => by
        rw [e9, mset_ne (by omega), e7, mset_ne (by omega)]
      have J : ∀ (s0 s1 : Int) (Qx : Prop), s1 = (nd C t s : Int) → s0 = (cL C t s : Int) → wpj_X9_measure_63 o (s : Int) s0 s1 M9 (fun (x1 : Int) (M1 : Mem) => ∃ n1 : Nat, n1 < n ∧ (fun n x M1 => Fr (Pme o) M M1 ∧ Bd M1 ∧ ∃ s : Nat, x = (s : Int) ∧ s ≤ cn C t ∧ n = 60 + (cn C t - s) ∧ ∀ p : Nat, p < s → M1 o 5 (nd C t p) = p ∧ M1 o 6 (nd C t p) = 1 ∧ M1 o 7 (nd C t p) = (cL C t p : Int)) n1 x1 M1) (fun _ _ => Qx) (fun _ _ => Qx) Q := by
        intro s0 s1 Qx g1 g0
        subst g1; subst g0
        unfold wpj_X9_measure_63
        simp only [Int.toNat_natCast]
        refine ⟨by omega, fun M16 e16 => ⟨60 + (cn C t - (s + 1)), by omega, ?_, ?_, s + 1, by omega, by omega, rfl, fun p hp => ?_⟩⟩
        · rw [e16]
          exact F9.set (Pme_yes (by omega))
        · have := hW.l12 ht hsn
          rw [e16]
          exact B9.set (by omega) (by omega)
        · rw [e16, mset_ne (by omega), mset_ne (by omega), mset_i, V5, V6, V7]
          by_cases c : p = s
          · subst c
            rw [if_pos rfl, if_pos rfl, if_pos rfl]
            exact ⟨rfl, rfl, rfl⟩
          · have q : nd C t p ≠ nd C t s := fun e => c (hW.inj ht (by omega) hsn e)
            rw [if_neg q, if_neg q, if_neg q]
            exact H p (by omega)
      have E2 : M9 o 2 (nd C t s) = (if s = 0 then -1 else (nd C t (par (cL C t) s) : Int)) := by
        rw [f0 M9 2 _ F9 (by omega), h2 s hsn]
      refine ⟨by omega, B9.r _ _ _, fun h9 => ?_, fun h9 => ?_⟩
      · rw [E2] at h9 ⊢
        have s0 : s ≠ 0 := fun z => h9 (if_pos z)
        rw [if_neg s0]
        have ps := par_spec wl (by omega) hsn
        have lp := hW.ndl ht (show par (cL C t) s < cn C t from by omega)
        refine ⟨by omega, by omega, ?_⟩
        rw [Int.toNat_natCast, V7, (H _ ps.1).2.2]
        exact J _ _ True rfl (by omega)
      · rw [E2] at h9
        have s0 : s = 0 := Decidable.byContradiction (fun z => h9 (by rw [if_neg z]; omega))
        refine J _ _ True rfl ?_
        have := wl.1 (by omega)
        rw [s0, this]
        rfl
  · intro n x M1 ⟨F1, B1, s, ex, hs, hn, H⟩
    subst ex
    unfold wph_X9_measure_77
    refine ⟨⟨by omega, by omega⟩, fun h => ?_, fun h => ⟨by omega, fun y21 e21 => ?_⟩⟩
    · refine ⟨cn C t, by omega, F1, B1, 0, rfl, Nat.zero_le _, by omega, fun p hp => ?_, fun p _ hp => absurd hp (Nat.not_lt_zero _)⟩
      obtain ⟨a, b, e, d, f⟩ := H p hp
      refine ⟨a, ?_, b⟩
      rw [f, szE_end hW ht hp (by omega) d]
      omega
    · have hx : s - 1 < cn C t := by omega
      have l := hW.ndl ht hx
      rw [show ((s : Int) - 1).toNat = s - 1 from by omega, f0 M1 3 _ F1 (by omega), h3 _ hx] at e21
      subst e21
      have ps := par_spec wl (p := s - 1) (by omega) hx
      have hp : par (cL C t) (s - 1) < cn C t := by omega
      have lp := hW.ndl ht hp
      have E2 : M1 o 2 (nd C t (s - 1)) = (nd C t (par (cL C t) (s - 1)) : Int) := by
        rw [f0 M1 2 _ F1 (by omega), h2 _ hx, if_neg (by omega)]
      simp only [Int.toNat_natCast]
      rw [E2]
      simp only [Int.toNat_natCast]
      refine ⟨by omega, by omega, by omega, by omega, fun M25 e25 => ?_⟩
      have hs1 : s - 1 + 1 = s := by omega
      obtain ⟨_, _, e, d, f⟩ := H _ hp
      obtain ⟨_, _, e', d', f'⟩ := H _ hx
      have ee := szE_end hW ht hx (by omega) d'
      rw [← hs1] at d
      obtain ⟨g1, g2⟩ := szE_par hW ht (by omega) hx d
      have ex := hW.e hx
      have ep := hW.e hp
      have val : M1 o 6 (nd C t (par (cL C t) (s - 1))) + M1 o 6 (nd C t (s - 1)) = (ce C t (par (cL C t) (s - 1)) : Int) + 1 - (s - 1 : Nat) := by
        rw [f, f', ee, g1]
        omega
      rw [val] at e25
      refine ⟨20 + (s - 1), by omega, ?_, ?_, s - 1, by omega, by omega, rfl, fun p hpn => ?_⟩
      · rw [e25]
        exact F1.set (Pme_yes (by omega))
      · rw [e25]
        exact B1.set (by omega) (by omega)
      · rw [e25, mset_ne (by omega), mset_ne (by omega), mset_i]
        obtain ⟨a, b, e2, d2, f2⟩ := H p hpn
        refine ⟨a, b, ?_⟩
        by_cases c : p = par (cL C t) (s - 1)
        · rw [c, if_pos rfl]
          exact ⟨s - 1, g2, rfl⟩
        · rw [if_neg (fun z => c (hW.inj ht hpn hp z))]
          rw [← hs1] at d2
          exact ⟨e2, szE_oth hW ht (by omega) hx hpn (fun z => c z.symm) d2, f2⟩
  · intro n x M1 ⟨F1, B1, s, ex, hs, hn, H, G⟩
    subst ex
    unfold wph_X9_measure_116
    rw [f0 M1 8 0 F1 (by omega), h8]
    refine ⟨⟨by omega, by omega⟩, ⟨by omega, by omega⟩, fun h => K M1 F1 B1 (fun p hp => ⟨(H p hp).1, (H p hp).2.1, (H p hp).2.2, G p hp ?_⟩), fun h => ?_⟩
    · have := hW.ndl ht hp
      omega
    · obtain ⟨p, hp, ep⟩ := hW.surj ht (show s < cn C t from by omega)
      have pa := po_add wl hp
      have plt := po_lt wl hp
      obtain ⟨a, b, d⟩ := H p hp
      unfold wp_X9_postPlace wpe_X9_postPlace
      simp only [Int.toNat_natCast]
      rw [← ep, a, b, d, show (p : Int) - (cL C t p : Int) + ((ce C t p : Int) - p) - 1 = (po (cL C t) (cn C t) p : Int) from by unfold ce; omega]
      have l := hW.ndl ht hp
      refine ⟨⟨by omega, by omega⟩, ⟨by omega, by omega⟩, ⟨by omega, by omega⟩, by omega, fun M32 e32 => ?_⟩
      rw [Int.toNat_natCast] at e32
      refine ⟨cn C t - (s + 1), by omega, ?_, ?_, s + 1, by omega, by omega, rfl, fun q hq => ?_, fun q hq hl => ?_⟩
      · rw [e32]
        exact F1.set (Pme_yes (by omega))
      · rw [e32]
        exact B1.set (by omega) (by omega)
      · rw [e32, mset_ne (by omega), mset_ne (by omega), mset_ne (by omega)]
        exact H q hq
      · rw [e32, mset_i]
        by_cases c : q = p
        · subst c
          rw [if_pos rfl]
        · rw [if_neg (fun z => c (po_inj wl hq hp z))]
          refine G q hq ?_
          have : nd C t q ≠ nd C t p := fun z => c (hW.inj ht hq hp z)
          omega
end MEAS
