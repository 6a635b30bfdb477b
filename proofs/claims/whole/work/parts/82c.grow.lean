/-! the class lays a new leaf -/
def Pobj (u o _k : Nat) : Bool := o == u
theorem Pobj_no {u o k : Nat} (h : o ≠ u) : Pobj u o k = false := by
  unfold Pobj
  exact beq_eq_false_iff_ne.mpr h
theorem Pobj_yes {u k : Nat} : Pobj u u k = true := by
  unfold Pobj
  simp
section GROW
variable {C C' : Nat → Nat → Int} {M : Mem} {t s L o : Nat} {kd lb : Int}
theorem sp_insert {Q : Mem → Prop} {p0 p1 : Int} (hW : WF C) (hX : Cls C M) (hB : Bd M) (ho : o = 11 + t) (ht : t < 2) (h12 : cn C t < 12) (hI : Ins C C' t s L kd lb) (hf : fits C t s L) (hk : 0 ≤ kd ∧ kd ≤ 3) (hl : 0 ≤ lb ∧ lb ≤ 99) (e0 : p0 = (if s = 0 then -1 else (nd C' t (par (cL C' t) s) : Int))) (e1 : p1 = s) (K : ∀ M' : Mem, Fr (Pobj o) M M' → Bd M' → Cls C' M' → Q M') : wp_X9_insert M o p0 p1 kd lb Q := by
  subst e1
  have f1 := hf.1
  have hW' := hI.wf hW ht hf h12 hk hl
  have hn := hI.n
  have h8 := hX.n ho ht
  unfold wp_X9_insert
  refine ⟨fun n x5 M1 => Fr (Pobj o) M M1 ∧ Bd M1 ∧ ∃ j : Nat, x5 = (j : Int) ∧ n = j ∧ s ≤ j ∧ j ≤ cn C t ∧ (∀ k i : Nat, k ≠ 3 → M1 o k i = M o k i) ∧ (∀ i : Nat, i ≤ j → M1 o 3 i = M o 3 i) ∧ (∀ p : Nat, j ≤ p → p < cn C t → M1 o 3 (p + 1) = M o 3 p), ?_, ?_⟩
  · unfold wpe_X9_insert
    rw [h8]
    refine ⟨⟨by omega, by omega⟩, fun h => by omega, fun _ => ⟨⟨by omega, by omega⟩, fun h => by omega, fun _ => ⟨⟨by omega, by omega⟩, ⟨by omega, by omega⟩, fun _ y8 e8 => ?_, fun h => by omega⟩⟩⟩
    subst e8
    exact ⟨_, Fr.rf, hB, cn C t, rfl, rfl, f1, Nat.le_refl _, fun _ _ _ => rfl, fun _ _ => rfl, fun p h1 h2 => by omega⟩
  · intro n x5 M1 ⟨F1, B1, j, ex, hnj, hj, hjn, Ho, Hlo, Hhi⟩
    subst ex
    unfold wph_X9_insert_28
    rw [Int.toNat_natCast, Int.toNat_natCast, show ((j : Int) - 1).toNat = j - 1 from by omega]
    refine ⟨⟨by omega, by omega⟩, ⟨by omega, by omega⟩, fun h => ?_, fun h => ?_⟩
    · have ej : j = s := by omega
      rw [ej] at Hlo Hhi
      have a8 : M1 o 8 0 = (cn C t : Int) := by rw [Ho 8 0 (by omega), h8]
      rw [a8]
      refine ⟨by omega, fun M12 e12 => ?_⟩
      have b8 : M12 o 8 0 = (cn C t : Int) := by rw [e12, mset_ne (by omega), a8]
      rw [b8, Int.toNat_natCast]
      refine ⟨by omega, fun M14 e14 => ?_⟩
      have c8 : M14 o 8 0 = (cn C t : Int) := by rw [e14, mset_ne (by omega), b8]
      rw [c8, Int.toNat_natCast]
      refine ⟨by omega, fun M16 e16 => ?_⟩
      have d8 : M16 o 8 0 = (cn C t : Int) := by rw [e16, mset_ne (by omega), c8]
      rw [d8, Int.toNat_natCast]
      refine ⟨by omega, fun M18 e18 => ?_⟩
      have g8 : M18 o 8 0 = (cn C t : Int) := by rw [e18, mset_ne (by omega), d8]
      rw [g8]
      intro M20 e20
      have pb : -2000000 ≤ p0 ∧ p0 ≤ 2000000 := by
        rw [e0]
        split
        · omega
        · have a := par_spec (hW'.wl ht) (p := s) (by omega) (by omega)
          have b := hW'.ndl ht (p := par (cL C' t) s) (by omega)
          omega
      have F20 : Fr (Pobj o) M M20 := by
        rw [e20, e18, e16, e14, e12]
        exact ((((F1.set Pobj_yes).set Pobj_yes).set Pobj_yes).set Pobj_yes).set Pobj_yes
      have B20 : Bd M20 := by
        rw [e20, e18, e16, e14, e12]
        exact ((((B1.set (by omega) (by omega)).set pb.1 pb.2).set (by omega) (by omega)).set (by omega) (by omega)).set (by omega) (by omega)
      have V8 : M20 o 8 0 = (cn C' t : Int) := by
        rw [e20, mset_eq, hn]
        omega
      have V3 : ∀ i : Nat, M20 o 3 i = if i = s then (cn C t : Int) else M1 o 3 i := fun i => by
        rw [e20, mset_ne (by omega), e18, mset_ne (by omega), e16, mset_ne (by omega), e14, mset_ne (by omega), e12, mset_i]
      have V2 : ∀ i : Nat, M20 o 2 i = if i = cn C t then p0 else M o 2 i := fun i => by
        rw [e20, mset_ne (by omega), e18, mset_ne (by omega), e16, mset_ne (by omega), e14, mset_i, e12, mset_ne (by omega), Ho 2 i (by omega)]
      have V0 : ∀ i : Nat, M20 o 0 i = if i = cn C t then kd else M o 0 i := fun i => by
        rw [e20, mset_ne (by omega), e18, mset_ne (by omega), e16, mset_i, e14, mset_ne (by omega), e12, mset_ne (by omega), Ho 0 i (by omega)]
      have V1 : ∀ i : Nat, M20 o 1 i = if i = cn C t then lb else M o 1 i := fun i => by
        rw [e20, mset_ne (by omega), e18, mset_i, e16, mset_ne (by omega), e14, mset_ne (by omega), e12, mset_ne (by omega), Ho 1 i (by omega)]
      have old : ∀ p : Nat, p < cn C t → nd C t p ≠ cn C t := fun p hp => by
        have := hW.ndl ht hp
        omega
      have z0 : ∀ p : Nat, p < cn C t → (sh s p = 0 ↔ p = 0) := fun p hp => by
        unfold sh
        have b := hf.2.1
        split <;> omega
      refine sp_measure hW' ho ht B20 V8 (fun p hp => ?_) (fun p hp => ?_) (fun M' F' B' R => ?_)
      · rw [hn] at hp
        rw [V3]
        rcases sh_cov f1 hp with rfl | ⟨q, hq, rfl⟩
        · rw [if_pos rfl, hI.nds]
        · rw [if_neg sh_ne, hI.nd f1 hq, ← hX.pre ho ht hq]
          unfold sh
          split
          · exact Hlo q (by omega)
          · exact Hhi q (by omega) hq
      · rw [hn] at hp
        rw [V2]
        rcases sh_cov f1 hp with rfl | ⟨q, hq, rfl⟩
        · rw [hI.nds, if_pos rfl]
          exact e0
        · rw [hI.nd f1 hq, if_neg (old q hq), hX.pa ho ht hq]
          by_cases c : q = 0
          · rw [if_pos c, if_pos ((z0 q hq).mpr c)]
          · have ps := par_spec (hW.wl ht) (by omega) hq
            rw [if_neg c, if_neg (fun z => c ((z0 q hq).mp z)), hI.par hW ht hf (by omega) hq, hI.nd f1 (by omega)]
      · have FF : Fr (Pobj o) M M' := F20.tr (F'.mono (fun o1 k1 h1 => by
          simp only [Pme, Bool.and_eq_true] at h1
          exact h1.1))
        have fk : ∀ k i : Nat, k < 4 ∨ k = 8 → M' o k i = M20 o k i := fun k i hk => F' o k i (Pme_no (by omega))
        refine K M' FF B' ⟨fun u hu => ?_, fun u p hu hp => ?_, fun k w hk hw => ?_, ?_⟩
        · by_cases c : u = t
          · subst c
            rw [← ho, fk 8 0 (by omega), V8]
          · rw [FF _ _ _ (Pobj_no (by omega)), hI.on c]
            exact hX.1 u hu
        · by_cases c : u = t
          · subst c
            rw [← ho]
            obtain ⟨r5, r6, r7, r4⟩ := R p hp
            rw [fk 3 _ (by omega), fk 2 _ (by omega), fk 0 _ (by omega), fk 1 _ (by omega)]
            refine ⟨?_, r5, r6, r7, ?_, r4, ?_, ?_⟩
            · rw [hn] at hp
              rw [V3]
              rcases sh_cov f1 hp with rfl | ⟨q, hq, rfl⟩
              · rw [if_pos rfl, hI.nds]
              · rw [if_neg sh_ne, hI.nd f1 hq, ← hX.pre ho ht hq]
                unfold sh
                split
                · exact Hlo q (by omega)
                · exact Hhi q (by omega) hq
            · rw [hn] at hp
              rw [V2]
              rcases sh_cov f1 hp with rfl | ⟨q, hq, rfl⟩
              · rw [hI.nds, if_pos rfl]
                exact e0
              · rw [hI.nd f1 hq, if_neg (old q hq), hX.pa ho ht hq]
                by_cases c : q = 0
                · rw [if_pos c, if_pos ((z0 q hq).mpr c)]
                · have ps := par_spec (hW.wl ht) (by omega) hq
                  rw [if_neg c, if_neg (fun z => c ((z0 q hq).mp z)), hI.par hW ht hf (by omega) hq, hI.nd f1 (by omega)]
            · rw [hn] at hp
              rw [V0]
              rcases sh_cov f1 hp with rfl | ⟨q, hq, rfl⟩
              · rw [hI.nds, if_pos rfl, hI.2.2.2.2.2.2.2.2.2.1]
              · rw [hI.nd f1 hq, if_neg (old q hq), hX.kd ho ht hq, hI.c f1 (by omega) hq]
            · rw [hn] at hp
              rw [V1]
              rcases sh_cov f1 hp with rfl | ⟨q, hq, rfl⟩
              · rw [hI.nds, if_pos rfl, hI.2.2.2.2.2.2.2.2.2.2]
              · rw [hI.nd f1 hq, if_neg (old q hq), hX.lb ho ht hq, hI.c f1 (by omega) hq]
          · have nc := hI.on c
            rw [nc] at hp
            have n12 := hW.n12 hu
            have el : ∀ q : Nat, q < cn C u → cL C' u q = cL C u q := fun q hq => by
              unfold cL
              rw [hI.oc c (by omega) (by omega)]
            have en : ∀ q : Nat, q < cn C u → nd C' u q = nd C u q := fun q hq => by
              unfold nd
              rw [hI.oc c (by omega) (by omega)]
            have hu' : 11 + u ≠ o := by omega
            simp only [FF _ _ _ (Pobj_no hu')]
            have w' := hW'.wl hu
            rw [nc] at w'
            have g := hX.2.1 u p hu hp
            rw [nc, en p hp, el p hp, po_congr el hp, hI.oc c (by omega) (by omega), hI.oc c (by omega) (by omega)]
            have ec : ce C' u p = ce C u p := by
              unfold ce
              rw [nc]
              exact eN_congr el hp
            rw [ec]
            refine ⟨g.1, g.2.1, g.2.2.1, g.2.2.2.1, ?_, g.2.2.2.2.2⟩
            rw [g.2.2.2.2.1]
            by_cases d : p = 0
            · rw [if_pos d, if_pos d]
            · have ps := par_spec (hW.wl hu) (by omega) hp
              rw [if_neg d, if_neg d, par_congr el (hW.wl hu) w' (by omega) hp, en _ (by omega)]
        · rw [FF _ _ _ (Pobj_no (by omega)), hI.2.2.2.1]
          exact hX.2.2.1 k w hk hw
        · rw [FF _ _ _ (Pobj_no (by omega)), hI.2.2.2.2.1]
          exact hX.2.2.2
    · refine ⟨by omega, by omega, fun M24 e24 => ⟨j - 1, by omega, ?_, ?_, j - 1, by omega, rfl, by omega, by omega, fun k i hk => ?_, fun i hi => ?_, fun p h1 h2 => ?_⟩⟩
      · rw [e24]
        exact F1.set Pobj_yes
      · rw [e24]
        exact B1.set (B1 _ _ _).1 (B1 _ _ _).2
      · rw [e24, mset_ne (by omega)]
        exact Ho k i hk
      · rw [e24, mset_i, if_neg (by omega)]
        exact Hlo i (by omega)
      · rw [e24, mset_i]
        by_cases c : p + 1 = j
        · rw [if_pos c, show j - 1 = p from by omega]
          exact Hlo p (by omega)
        · rw [if_neg c]
          exact Hhi p (by omega) h2
end GROW
