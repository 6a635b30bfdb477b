def P48 (o k : Nat) : Bool := o == 13 && (k == 4 || k == 8)
theorem P4_P48 : ∀ o k : Nat, P4 o k = true → P48 o k = true := fun o k h => by
  simp only [P4, P48, Bool.and_eq_true, Bool.or_eq_true, beq_iff_eq] at h ⊢
  omega
def FI (C : Nat → Nat → Int) (a b : Int) (M M1 : Mem) (dn : Nat → Nat → Nat → Nat → Prop) : Prop := Fr P48 M M1 ∧ Bd M1 ∧ Sz C M1 ∧ TbF C a b M1 dn
theorem FI.to {C : Nat → Nat → Int} {a b : Int} {M M1 : Mem} {dn dn' : Nat → Nat → Nat → Nat → Prop} (h : FI C a b M M1 dn) (hd : ∀ i e j l : Nat, i ≤ e → e ≤ cn C 0 → j ≤ l → l ≤ cn C 1 → dn' i e j l → dn i e j l) : FI C a b M M1 dn' := ⟨h.1, h.2.1, h.2.2.1, fun i e j l h1 h2 h3 h4 h5 => h.2.2.2 i e j l h1 h2 h3 h4 (hd i e j l h1 h2 h3 h4 h5)⟩
set_option maxHeartbeats 4000000 in
theorem sp_fills {C : Nat → Nat → Int} {M : Mem} {Q : Int → Mem → Prop} {a b : Int} (hW : WF C) (hC : Core C M) (hB : Bd M) (ha : inR a) (hb : inR b) (K : ∀ M' : Mem, Fr P48 M M' → Bd M' → Sz C M' → TbF C a b M' (fun _ _ _ _ => True) → Q (df (cc C) a b (rg 0 (cn C 0)) (rg 0 (cn C 1))) M') : wp_X11_fills M a b Q := by
  have n0 := hW.n12 (t := 0) (by omega)
  have n1 := hW.n12 (t := 1) (by omega)
  unfold wp_X11_fills
  refine ⟨fun n x3 M1 => ∃ s : Nat, x3 = (s : Int) - 1 ∧ s ≤ cn C 0 + 1 ∧ n = s * 1000000 ∧ FI C a b M M1 (fun i' _ _ _ => s ≤ i'),
    fun n x3 x4 M1 => ∃ i e : Nat, x3 = i ∧ x4 = e ∧ i ≤ cn C 0 ∧ i ≤ e ∧ e ≤ cn C 0 + 1 ∧ n = i * 1000000 + (14 - e) * 50000 ∧ FI C a b M M1 (fun i' e' _ _ => i < i' ∨ i' = i ∧ e' < e),
    fun n x3 x4 x5 M1 => ∃ i e u : Nat, x3 = i ∧ x4 = e ∧ x5 = (u : Int) - 1 ∧ i ≤ e ∧ e ≤ cn C 0 ∧ u ≤ cn C 1 + 1 ∧ n = i * 1000000 + (13 - e) * 50000 + 1 + u * 2500 ∧ FI C a b M M1 (fun i' e' j' _ => i < i' ∨ i' = i ∧ (e' < e ∨ e' = e ∧ u ≤ j')),
    fun n x3 x4 x5 x6 M1 => ∃ i e j l : Nat, x3 = i ∧ x4 = e ∧ x5 = j ∧ x6 = l ∧ i ≤ e ∧ e ≤ cn C 0 ∧ j ≤ l ∧ l ≤ cn C 1 + 1 ∧ j ≤ cn C 1 ∧ n = i * 1000000 + (13 - e) * 50000 + 2 + j * 2500 + (14 - l) * 10 ∧ FI C a b M M1 (fun i' e' j' l' => i < i' ∨ i' = i ∧ (e' < e ∨ e' = e ∧ (j < j' ∨ j' = j ∧ l' < l))), ?_, ?_, ?_, ?_, ?_⟩
  · unfold wpe_X11_fills
    refine sp_measures hW hC hB (fun M' hF hB' hS' y3 e3 => ⟨_, cn C 0 + 1, ?_, by omega, rfl, hF.mono P4_P48, hB', hS', fun i e j l h1 h2 h3 h4 h5 => by omega⟩)
    have C1 : Core C M' := hC.fr hF rfl rfl rfl rfl rfl rfl rfl
    rw [e3, C1 5 0 rfl, hW.n (by omega)]
    omega
  · intro n x3 M1 ⟨s, e1, hs, hn, hI⟩
    subst e1; subst hn
    have C1 : Core C M1 := hC.fr hI.1 rfl rfl rfl rfl rfl rfl rfl
    unfold wph_X11_fills_11
    refine ⟨⟨by omega, by omega⟩, fun h => sp_at ?_, fun h => ?_⟩
    · have L := ix_lt (i := 0) (e := cn C 0) (j := 0) (l := cn C 1) (by omega) (by omega) (by omega) (by omega)
      rw [C1 5 0 rfl, C1 5 1 rfl, hW.n (t := 0) (by omega), hW.n (t := 1) (by omega)]
      rw [show (((((0 : Int) * 13 + (cn C 0 : Int)) * 13) + (0 : Int)) * 13 + (cn C 1 : Int)) = (ix 0 (cn C 0) 0 (cn C 1) : Int) from by unfold ix; omega]
      refine ⟨⟨by omega, by omega⟩, ?_⟩
      simp only [Int.toNat_natCast]
      rw [hI.2.2.2 0 (cn C 0) 0 (cn C 1) (by omega) (by omega) (by omega) (by omega) (by omega)]
      exact K M1 hI.1 hI.2.1 hI.2.2.1 (fun i e j l h1 h2 h3 h4 _ => hI.2.2.2 i e j l h1 h2 h3 h4 (by omega))
    · exact ⟨(s - 1) * 1000000 + (14 - (s - 1)) * 50000, by omega, s - 1, s - 1, by omega, by omega, by omega, by omega, by omega, rfl, hI.to (fun i e j l h1 h2 h3 h4 h5 => by omega)⟩
  · intro n x3 x4 M1 ⟨i, e, e1, e2, hi, hie, he, hn, hI⟩
    subst e1; subst e2; subst hn
    have C1 : Core C M1 := hC.fr hI.1 rfl rfl rfl rfl rfl rfl rfl
    unfold wph_X11_fills_18
    rw [C1 5 0 rfl, C1 5 1 rfl, hW.n (t := 0) (by omega), hW.n (t := 1) (by omega)]
    refine ⟨⟨by omega, by omega⟩, ⟨by omega, by omega⟩, fun h => ⟨i * 1000000, by omega, i, by omega, by omega, rfl, hI.to (fun i e j l h1 h2 h3 h4 h5 => by omega)⟩, fun h y12 e12 => ⟨i * 1000000 + (13 - e) * 50000 + 1 + (cn C 1 + 1) * 2500, by omega, i, e, cn C 1 + 1, rfl, rfl, by omega, hie, by omega, by omega, rfl, hI.to (fun i e j l h1 h2 h3 h4 h5 => by omega)⟩⟩
  · intro n x3 x4 x5 M1 ⟨i, e, u, e1, e2, e3, hie, he, hu, hn, hI⟩
    subst e1; subst e2; subst e3; subst hn
    unfold wph_X11_fills_37
    refine ⟨⟨by omega, by omega⟩, fun h => ⟨i * 1000000 + (14 - (e + 1)) * 50000, by omega, i, e + 1, rfl, by omega, by omega, by omega, by omega, rfl, hI.to (fun i e j l h1 h2 h3 h4 h5 => by omega)⟩, fun h => ⟨i * 1000000 + (13 - e) * 50000 + 2 + (u - 1) * 2500 + (14 - (u - 1)) * 10, by omega, i, e, u - 1, u - 1, rfl, rfl, by omega, by omega, hie, he, by omega, by omega, by omega, rfl, hI.to (fun i e j l h1 h2 h3 h4 h5 => by omega)⟩⟩
  · intro n x3 x4 x5 x6 M1 ⟨i, e, j, l, e1, e2, e3, e4, hie, he, hjl, hl, hj, hn, hI⟩
    subst e1; subst e2; subst e3; subst e4; subst hn
    have C1 : Core C M1 := hC.fr hI.1 rfl rfl rfl rfl rfl rfl rfl
    unfold wph_X11_fills_46
    rw [C1 5 1 rfl, hW.n (t := 1) (by omega)]
    refine ⟨⟨by omega, by omega⟩, ⟨by omega, by omega⟩, fun h => ⟨i * 1000000 + (13 - e) * 50000 + 1 + j * 2500, by omega, i, e, j, rfl, rfl, by omega, hie, he, by omega, rfl, hI.to (fun i e j l h1 h2 h3 h4 h5 => by omega)⟩, fun h => sp_at ?_⟩
    rw [ix_int]
    have L := ix_lt (i := i) (e := e) (j := j) (l := l) (by omega) (by omega) (by omega) (by omega)
    have b1 := df_pos (a := a) (b := b) (hW.cbd (i := i) (j := e) (k := j) (l := l) (by omega) (by omega))
    refine sp_cost hW C1 hI.2.1 hI.2.2.1 hie he hjl (by omega) ha hb (fun i' e' j' l' h1 h2 h3 h4 h5 => hI.2.2.2 i' e' j' l' h1 h2 h3 h4 (by omega)) ?_
    refine sp_lesser ⟨by omega, by omega⟩ ⟨by omega, by omega⟩ ?_
    rw [show min (df (cc C) a b (rg i e) (rg j l)) 100000 = df (cc C) a b (rg i e) (rg j l) from by omega]
    simp only [Int.toNat_natCast]
    refine ⟨⟨by omega, by omega⟩, fun M24 e24 => ?_⟩
    subst e24
    refine ⟨i * 1000000 + (13 - e) * 50000 + 2 + j * 2500 + (14 - (l + 1)) * 10, by omega, i, e, j, l + 1, rfl, rfl, rfl, by omega, hie, he, by omega, by omega, hj, rfl, hI.1.set rfl, hI.2.1.set (by omega) (by omega), fun t p ht hp => ?_, fun i' e' j' l' h1 h2 h3 h4 h5 => ?_⟩
    · rw [mset_ne (by omega)]
      exact hI.2.2.1 t p ht hp
    · rw [mset_i]
      by_cases c : ix i' e' j' l' = ix i e j l
      · obtain ⟨r1, r2, r3, r4⟩ := ix_inj (by omega) (by omega) (by omega) (by omega) (by omega) (by omega) c
        subst r1; subst r2; subst r3; subst r4
        rw [if_pos rfl]
      · rw [if_neg c]
        refine hI.2.2.2 i' e' j' l' h1 h2 h3 h4 ?_
        have hne : ¬ (i' = i ∧ e' = e ∧ j' = j ∧ l' = l) := fun z => c (by rw [z.1, z.2.1, z.2.2.1, z.2.2.2])
        omega
/-! sums over places -/
def sG (f : Nat → Int) (i : Nat) : Nat → Int
  | 0 => 0
  | k + 1 => sG f i k + f (i + k)
def sm (f : Nat → Int) (i j : Nat) : Int := sG f i (j - i)
theorem sm_self (f : Nat → Int) {i j : Nat} (h : j ≤ i) : sm f i j = 0 := by
  unfold sm
  rw [show j - i = 0 from by omega]
  rfl
theorem sm_succ (f : Nat → Int) {i j : Nat} (h : i ≤ j) : sm f i (j + 1) = sm f i j + f j := by
  unfold sm
  rw [show j + 1 - i = (j - i) + 1 from by omega]
  change sG f i (j - i) + f (i + (j - i)) = _
  rw [show i + (j - i) = j from by omega]
theorem sm_app (f : Nat → Int) {i j : Nat} : ∀ {k : Nat}, i ≤ j → j ≤ k → sm f i k = sm f i j + sm f j k := by
  intro k
  induction k with
  | zero => intro h1 h2; rw [sm_self f (i := i) (j := 0) (by omega), sm_self f (i := i) (j := j) (by omega), sm_self f (i := j) (j := 0) (by omega)]; rfl
  | succ k ih =>
    intro h1 h2
    by_cases c : j ≤ k
    · have a := ih h1 c
      rw [sm_succ f (by omega), sm_succ f c, a]
      omega
    · have e : j = k + 1 := by omega
      subst e
      rw [sm_self f (i := k + 1) (j := k + 1) (by omega)]
      omega
theorem sm_head (f : Nat → Int) {i j : Nat} (h : i < j) : sm f i j = f i + sm f (i + 1) j := by
  rw [sm_app f (i := i) (j := i + 1) (k := j) (by omega) (by omega), sm_succ f (i := i) (j := i) (by omega), sm_self f (i := i) (j := i) (by omega)]
  omega
theorem sm_bd (f : Nat → Int) {i : Nat} : ∀ {j : Nat}, (∀ k : Nat, i ≤ k → k < j → 0 ≤ f k ∧ f k ≤ 50) → 0 ≤ sm f i j ∧ sm f i j ≤ 50 * (j - i : Nat) := by
  intro j
  induction j with
  | zero => intro _; rw [sm_self f (by omega)]; omega
  | succ j ih =>
    intro h
    by_cases c : i ≤ j
    · have a := ih (fun k h1 h2 => h k h1 (by omega))
      have b := h j c (by omega)
      rw [sm_succ f c]
      omega
    · rw [sm_self f (by omega)]
      omega
theorem sm_congr {f g : Nat → Int} {i : Nat} : ∀ {j : Nat}, (∀ k : Nat, i ≤ k → k < j → f k = g k) → sm f i j = sm g i j := by
  intro j
  induction j with
  | zero => intro _; rw [sm_self f (by omega), sm_self g (by omega)]
  | succ j ih =>
    intro h
    by_cases c : i ≤ j
    · rw [sm_succ f c, sm_succ g c, ih (fun k h1 h2 => h k h1 (by omega)), h j c (by omega)]
    · rw [sm_self f (by omega), sm_self g (by omega)]
theorem dd_sl (c : CP) : ∀ (k i j : Nat), j - i ≤ k → dd c (rg i j) [] = sm c.2.2.1 i j := by
  intro k
  induction k with
  | zero => intro i j h; rw [rg_nil (by omega), dd_nn, sm_self _ (by omega)]
  | succ k ih =>
    intro i j h
    by_cases c1 : i < j
    · rw [rg_cons c1, dd_cn, ih (i + 1) j (by omega), sm_head _ c1]
    · rw [rg_nil (by omega), dd_nn, sm_self _ (by omega)]
theorem dd_sr (c : CP) : ∀ (k i j : Nat), j - i ≤ k → dd c [] (rg i j) = sm c.2.2.2.1 i j := by
  intro k
  induction k with
  | zero => intro i j h; rw [rg_nil (by omega), dd_nn, sm_self _ (by omega)]
  | succ k ih =>
    intro i j h
    by_cases c1 : i < j
    · rw [rg_cons c1, dd_nc, ih (i + 1) j (by omega), sm_head _ c1]
    · rw [rg_nil (by omega), dd_nn, sm_self _ (by omega)]
section SUMS
variable {C : Nat → Nat → Int} {M : Mem} {Q : Int → Mem → Prop}
theorem sp_inserting (hW : WF C) (hC : Core C M) {p0 p1 : Int} {i j : Nat} (e0 : p0 = i) (e1 : p1 = j) (hi : i ≤ j) (hj : j ≤ cn C 1) (K : Q (sm (cil C) i j) M) : wp_X11_inserting M p0 p1 Q := by
  subst e0; subst e1
  have n1 := hW.n12 (t := 1) (by omega)
  unfold wp_X11_inserting
  refine ⟨fun n x3 x4 M1 => ∃ k : Nat, x4 = k ∧ i ≤ k ∧ k ≤ j ∧ n = j - k ∧ x3 = sm (cil C) i k ∧ M1 = M, ?_, ?_⟩
  · exact ⟨_, i, rfl, Nat.le_refl _, hi, rfl, (sm_self _ (Nat.le_refl _)).symm, rfl⟩
  · intro n x3 x4 M1 ⟨k, e4, h1, h2, hn, e3, eM⟩
    subst e4; subst hn; subst e3; subst eM
    unfold wph_X11_inserting_5
    refine ⟨⟨by omega, by omega⟩, ⟨by omega, by omega⟩, fun h => ?_, fun h => sp_ins hW hC rfl rfl rfl (by omega) (fun y6 e6 => ⟨j - (k + 1), by omega, k + 1, by omega, by omega, by omega, rfl, ?_, rfl⟩)⟩
    · rw [show k = j from by omega]
      exact K
    · rw [e6, sm_succ _ h1]
theorem sp_deletingAll (hW : WF C) (hC : Core C M) {p0 p1 : Int} {i j : Nat} (e0 : p0 = i) (e1 : p1 = j) (hi : i ≤ j) (hj : j ≤ cn C 0) (K : Q (sm (cdl C) i j) M) : wp_X11_deletingAll M p0 p1 Q := by
  subst e0; subst e1
  have n1 := hW.n12 (t := 0) (by omega)
  unfold wp_X11_deletingAll
  refine ⟨fun n x3 x4 M1 => ∃ k : Nat, x4 = k ∧ i ≤ k ∧ k ≤ j ∧ n = j - k ∧ x3 = sm (cdl C) i k ∧ M1 = M, ?_, ?_⟩
  · exact ⟨_, i, rfl, Nat.le_refl _, hi, rfl, (sm_self _ (Nat.le_refl _)).symm, rfl⟩
  · intro n x3 x4 M1 ⟨k, e4, h1, h2, hn, e3, eM⟩
    subst e4; subst hn; subst e3; subst eM
    unfold wph_X11_deletingAll_5
    refine ⟨⟨by omega, by omega⟩, ⟨by omega, by omega⟩, fun h => ?_, fun h => sp_del hW hC rfl rfl rfl (by omega) (fun y6 e6 => ⟨j - (k + 1), by omega, k + 1, by omega, by omega, by omega, rfl, ?_, rfl⟩)⟩
    · rw [show k = j from by omega]
      exact K
    · rw [e6, sm_succ _ h1]
end SUMS
