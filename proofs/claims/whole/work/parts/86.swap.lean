/-! the trees swapped -/
def swC (C : Nat → Nat → Int) (k i : Nat) : Int := if k < 4 then (if i < 12 then C k (12 + i) else if i < 24 then C k (i - 12) else C k i) else if k = 5 then (if i = 0 then C 5 1 else if i = 1 then C 5 0 else C 5 i) else C k i
def swM (M : Mem) : Mem := fun o k i => if o = 11 then M 12 k i else if o = 12 then M 11 k i else M o k i
section SWAP
variable {C : Nat → Nat → Int} {M : Mem}
theorem swC_4 {k t p : Nat} (hk : k < 4) (ht : t < 2) (hp : p < 12) : swC C k (12 * t + p) = C k (12 * (1 - t) + p) := by
  unfold swC
  rw [if_pos hk]
  have : t = 0 ∨ t = 1 := by omega
  rcases this with rfl | rfl
  · rw [if_pos (by omega), show 12 + (12 * 0 + p) = 12 * (1 - 0) + p from by omega]
  · rw [if_neg (by omega), if_pos (by omega), show 12 * 1 + p - 12 = 12 * (1 - 1) + p from by omega]
theorem swC_5 {t : Nat} (ht : t < 2) : swC C 5 t = C 5 (1 - t) := by
  unfold swC
  have : t = 0 ∨ t = 1 := by omega
  rcases this with rfl | rfl <;> rfl
theorem swC_67 {k i : Nat} (hk : k = 6 ∨ k = 7) : swC C k i = C k i := by
  unfold swC
  rw [if_neg (by omega), if_neg (by omega)]
theorem swE {k i : Nat} (hk : k < 4) : (if i < 12 then C k (12 + i) else if 12 ≤ i ∧ i < 12 + 12 then C k (i - 12) else C k i) = swC C k i := by
  unfold swC
  rw [if_pos hk]
  by_cases c : i < 12
  · rw [if_pos c, if_pos c]
  · rw [if_neg c, if_neg c]
    by_cases d : i < 24
    · rw [if_pos (by omega), if_pos d]
    · rw [if_neg (by omega), if_neg d]
theorem cn_sw {t : Nat} (ht : t < 2) : cn (swC C) t = cn C (1 - t) := by
  unfold cn
  rw [swC_5 ht]
theorem cL_sw {t p : Nat} (ht : t < 2) (hp : p < 12) : cL (swC C) t p = cL C (1 - t) p := by
  unfold cL
  rw [swC_4 (by omega) ht hp]
theorem nd_sw {t p : Nat} (ht : t < 2) (hp : p < 12) : nd (swC C) t p = nd C (1 - t) p := by
  unfold nd
  rw [swC_4 (by omega) ht hp]
theorem WF.sw (hW : WF C) : WF (swC C) := by
  refine ⟨fun t ht => ?_, fun t p ht hp => ?_, fun t p q ht hp hq e => ?_, fun i hi => ?_, ?_⟩
  · have a := hW.1 (1 - t) (by omega)
    rw [cn_sw ht, swC_5 ht]
    refine ⟨a.1, a.2.1, fun h => ?_, fun p hp => ?_⟩
    · rw [cL_sw ht (by omega)]
      exact a.2.2.1 h
    · have n12 := a.2.1
      rw [cL_sw ht (by omega), cL_sw ht (by omega)]
      exact a.2.2.2 p hp
  · have n12 := (hW.1 (1 - t) (by omega)).2.1
    rw [cn_sw ht] at hp ⊢
    have a := hW.2.1 (1 - t) p (by omega) hp
    rw [swC_4 (by omega) ht (by omega), swC_4 (by omega) ht (by omega), swC_4 (by omega) ht (by omega), swC_4 (by omega) ht (by omega), cL_sw ht (by omega)]
    exact a
  · have n12 := (hW.1 (1 - t) (by omega)).2.1
    rw [cn_sw ht] at hp hq
    rw [swC_4 (by omega) ht (by omega), swC_4 (by omega) ht (by omega)] at e
    exact hW.2.2.1 (1 - t) p q (by omega) hp hq e
  · rw [swC_67 (by omega)]
    exact hW.2.2.2.1 i hi
  · rw [swC_67 (by omega)]
    exact hW.2.2.2.2
theorem swM_t {t k i : Nat} (ht : t < 2) : swM M (11 + t) k i = M (11 + (1 - t)) k i := by
  unfold swM
  have : t = 0 ∨ t = 1 := by omega
  rcases this with rfl | rfl
  · rw [if_pos (by omega)]
  · rw [if_neg (by omega), if_pos (by omega)]
theorem swM_o {o k i : Nat} (h : o ≠ 11 ∧ o ≠ 12) : swM M o k i = M o k i := by
  unfold swM
  rw [if_neg h.1, if_neg h.2]
theorem Cls.sw (hW : WF C) (hX : Cls C M) : Cls (swC C) (swM M) := by
  refine ⟨fun t ht => ?_, fun t p ht hp => ?_, fun k w hk hw => ?_, ?_⟩
  · rw [swM_t ht, cn_sw ht]
    exact hX.1 (1 - t) (by omega)
  · have h1 : 1 - t < 2 := by omega
    have n12 := hW.n12 h1
    rw [cn_sw ht] at hp
    have el : ∀ q : Nat, q < cn C (1 - t) → cL (swC C) t q = cL C (1 - t) q := fun q hq => cL_sw ht (by omega)
    have w' := (hW.sw).wl ht
    rw [cn_sw ht] at w'
    have g := hX.2.1 (1 - t) p h1 hp
    have ec : ce (swC C) t p = ce C (1 - t) p := by
      unfold ce
      rw [cn_sw ht]
      exact eN_congr el hp
    rw [cn_sw ht, nd_sw ht (by omega), el p hp, po_congr el hp, ec, swC_4 (by omega) ht (by omega), swC_4 (by omega) ht (by omega)]
    simp only [swM_t ht]
    refine ⟨g.1, g.2.1, g.2.2.1, g.2.2.2.1, ?_, g.2.2.2.2.2⟩
    rw [g.2.2.2.2.1]
    by_cases d : p = 0
    · rw [if_pos d, if_pos d]
    · have ps := par_spec (hW.wl h1) (by omega) hp
      rw [if_neg d, if_neg d, par_congr el (hW.wl h1) w' (by omega) hp, nd_sw ht (by omega)]
  · rw [swM_o (by omega), swC_67 (by omega)]
    exact hX.2.2.1 k w hk hw
  · rw [swM_o (by omega), swC_67 (by omega)]
    exact hX.2.2.2
/-- the class's memory, its trees having changed places -/
theorem IK.sw (hW : WF C) (hI : IK C M) : IK (swC C) (mset (swM M) 0 8 0 0) := by
  have X := hI.1.sw hW
  refine ⟨X.fr (P := fun o _ => o == 0) (fun o k i h => ?_) (kt_all (fun k => ⟨rfl, rfl, rfl⟩)), ?_, ?_, Or.inl mset_eq⟩
  · rw [mset_ne]
    rintro ⟨rfl, _⟩
    cases h
  · rw [mset_ne (by omega), swM_o (by omega)]
    exact hI.2.1
  · rw [mset_ne (by omega), swM_o (by omega)]
    exact hI.2.2.1
theorem Bd.sw (hB : Bd M) : Bd (mset (swM M) 0 8 0 0) := by
  refine Bd.set (fun o k i => ?_) (by omega) (by omega)
  unfold swM
  split
  · exact hB 12 k i
  · split
    · exact hB 11 k i
    · exact hB o k i
theorem sp_swaps {Q : Mem → Prop} {kk n i j : Nat} {p1 p2 : Int} (hB : Bd M) (e1 : p1 = i) (e2 : p2 = j) (hi : i < n) (hj : j < n) (hij : i ≠ j) (K : ∀ M' : Mem, (∀ o k x : Nat, ¬ (o = 13 ∧ k = kk ∧ (x = i ∨ x = j)) → M' o k x = M o k x) → M' 13 kk i = M 13 kk j → M' 13 kk j = M 13 kk i → Bd M' → Q M') : wp_X11_swaps M 13 kk n p1 p2 Q := by
  subst e1; subst e2
  unfold wp_X11_swaps wpe_X11_swaps
  rw [Int.toNat_natCast, Int.toNat_natCast]
  refine ⟨by omega, fun y2 e2 => ⟨by omega, by omega, fun M4 e4 => ⟨by omega, fun M6 e6 => ?_⟩⟩⟩
  subst e2; subst e4; subst e6
  refine K _ (fun o k x h => ?_) ?_ ?_ ?_
  · rw [mset_ne (by omega), mset_ne (by omega)]
  · rw [mset_ne (by omega), mset_eq]
  · rw [mset_eq]
  · exact (hB.set (hB _ _ _).1 (hB _ _ _).2).set (hB _ _ _).1 (hB _ _ _).2
theorem m_swapTrees {Q : Mem → Prop} (hW : WF C) (hC : Core C M) (hB : Bd M) (h : ∀ M' : Mem, Fr Pm M M' → Bd M' → Core (swC C) M' → Q M') : wp_X11_swapTrees M Q := by
  unfold wp_X11_swapTrees
  refine ⟨fun n x1 M1 => ∃ s : Nat, x1 = (s : Int) ∧ s ≤ 12 ∧ n = 20 - s ∧ Fr Pm M M1 ∧ Bd M1 ∧ (∀ k i : Nat, k < 4 → M1 13 k i = if i < s then C k (12 + i) else if 12 ≤ i ∧ i < 12 + s then C k (i - 12) else C k i) ∧ ∀ k i : Nat, k = 5 ∨ k = 6 ∨ k = 7 → M1 13 k i = C k i, ?_, ?_⟩
  · unfold wpe_X11_swapTrees
    refine thr0 hC hB (fun M1 F1 B1 C1 e1 => ⟨_, 0, rfl, by omega, rfl, Pg_m F1, B1, fun k i hk => ?_, fun k i hk => C1 k i ?_⟩)
    · rw [if_neg (by omega), if_neg (by omega)]
      refine C1 k i ?_
      have : k = 0 ∨ k = 1 ∨ k = 2 ∨ k = 3 := by omega
      rcases this with rfl | rfl | rfl | rfl <;> rfl
    · rcases hk with rfl | rfl | rfl <;> rfl
  · intro n x1 M1 ⟨s, e, hs, hn, F1, B1, H4, H5⟩
    subst e
    unfold wph_X11_swapTrees_7
    refine ⟨⟨by omega, by omega⟩, fun z => ?_, fun z => ?_⟩
    · have es : s = 12 := by omega
      subst es
      refine sp_swaps (i := 0) (j := 1) B1 rfl rfl (by omega) (by omega) (by omega) (fun M2 N2 v0 v1 B2 => h M2 (fun o k i ho => ?_) B2 (fun k i hk => ?_))
      · rw [N2 o k i (fun y => by rw [y.1] at ho; cases ho)]
        exact F1 o k i ho
      · rcases kc_of hk with rfl | rfl | rfl | rfl | rfl | rfl | rfl
        · rw [N2 _ _ _ (by omega), H4 _ _ (by omega)]
          exact swE (by omega)
        · rw [N2 _ _ _ (by omega), H4 _ _ (by omega)]
          exact swE (by omega)
        · rw [N2 _ _ _ (by omega), H4 _ _ (by omega)]
          exact swE (by omega)
        · rw [N2 _ _ _ (by omega), H4 _ _ (by omega)]
          exact swE (by omega)
        · unfold swC
          rw [if_neg (by omega), if_pos rfl]
          by_cases c : i = 0
          · subst c
            rw [if_pos rfl, v0, H5 _ _ (by omega)]
          · by_cases d : i = 1
            · subst d
              rw [if_neg (by omega), if_pos rfl, v1, H5 _ _ (by omega)]
            · rw [if_neg c, if_neg d, N2 _ _ _ (by omega), H5 _ _ (by omega)]
        · rw [N2 _ _ _ (by omega), H5 _ _ (by omega), swC_67 (by omega)]
        · rw [N2 _ _ _ (by omega), H5 _ _ (by omega), swC_67 (by omega)]
    · have hs12 : s < 12 := by omega
      have p12 : (12 : Int) + (s : Int) = ((12 + s : Nat) : Int) := by omega
      refine sp_swaps (i := s) (j := 12 + s) B1 rfl p12 (by omega) (by omega) (by omega) (fun M2 N2 a0 b0 B2 => ?_)
      refine sp_swaps (i := s) (j := 12 + s) B2 rfl p12 (by omega) (by omega) (by omega) (fun M3 N3 a1 b1 B3 => ?_)
      refine sp_swaps (i := s) (j := 12 + s) B3 rfl p12 (by omega) (by omega) (by omega) (fun M4 N4 a2 b2 B4 => ?_)
      refine sp_swaps (i := s) (j := 12 + s) B4 rfl p12 (by omega) (by omega) (by omega) (fun M5 N5 a3 b3 B5 => ?_)
      have V : ∀ k i : Nat, k < 4 → M5 13 k i = if i = s then M1 13 k (12 + s) else if i = 12 + s then M1 13 k s else M1 13 k i := fun k i hk => by
        by_cases c : i = s
        · subst c
          rw [if_pos rfl]
          have : k = 0 ∨ k = 1 ∨ k = 2 ∨ k = 3 := by omega
          rcases this with rfl | rfl | rfl | rfl
          · rw [N5 _ _ _ (by omega), N4 _ _ _ (by omega), N3 _ _ _ (by omega), a0]
          · rw [N5 _ _ _ (by omega), N4 _ _ _ (by omega), a1, N2 _ _ _ (by omega)]
          · rw [N5 _ _ _ (by omega), a2, N3 _ _ _ (by omega), N2 _ _ _ (by omega)]
          · rw [a3, N4 _ _ _ (by omega), N3 _ _ _ (by omega), N2 _ _ _ (by omega)]
        · rw [if_neg c]
          by_cases d : i = 12 + s
          · subst d
            rw [if_pos rfl]
            have : k = 0 ∨ k = 1 ∨ k = 2 ∨ k = 3 := by omega
            rcases this with rfl | rfl | rfl | rfl
            · rw [N5 _ _ _ (by omega), N4 _ _ _ (by omega), N3 _ _ _ (by omega), b0]
            · rw [N5 _ _ _ (by omega), N4 _ _ _ (by omega), b1, N2 _ _ _ (by omega)]
            · rw [N5 _ _ _ (by omega), b2, N3 _ _ _ (by omega), N2 _ _ _ (by omega)]
            · rw [b3, N4 _ _ _ (by omega), N3 _ _ _ (by omega), N2 _ _ _ (by omega)]
          · rw [if_neg d, N5 _ _ _ (by omega), N4 _ _ _ (by omega), N3 _ _ _ (by omega), N2 _ _ _ (by omega)]
      refine ⟨20 - (s + 1), by omega, s + 1, by omega, by omega, rfl, fun o k i ho => ?_, B5, fun k i hk => ?_, fun k i hk => ?_⟩
      · have no : ¬ (o = 13) := fun y => by rw [y] at ho; cases ho
        rw [N5 _ _ _ (by omega), N4 _ _ _ (by omega), N3 _ _ _ (by omega), N2 _ _ _ (by omega)]
        exact F1 o k i ho
      · rw [V k i hk]
        by_cases c : i = s
        · subst c
          rw [if_pos rfl, if_pos (by omega), H4 k _ hk, if_neg (by omega), if_neg (by omega)]
        · rw [if_neg c]
          by_cases d : i = 12 + s
          · subst d
            rw [if_pos rfl, if_neg (by omega), if_pos (by omega), H4 k _ hk, if_neg (by omega), if_neg (by omega), show 12 + s - 12 = s from by omega]
          · rw [if_neg d, H4 k i hk]
            by_cases e : i < s
            · rw [if_pos e, if_pos (by omega)]
            · rw [if_neg e, if_neg (show ¬ (i < s + 1) from by omega)]
              by_cases f : 12 ≤ i ∧ i < 12 + s
              · rw [if_pos f, if_pos (by omega)]
              · rw [if_neg f, if_neg (by omega)]
      · rw [N5 _ _ _ (by omega), N4 _ _ _ (by omega), N3 _ _ _ (by omega), N2 _ _ _ (by omega)]
        exact H5 k i hk
end SWAP
