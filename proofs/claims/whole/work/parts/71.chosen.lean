/-! the chosen mapping -/
def DD (C : Nat → Nat → Int) (i j k l : Nat) : Int := dd (cc C) (rg i j) (rg k l)
theorem DD_bd {C : Nat → Nat → Int} (hW : WF C) {i j k l : Nat} (hj : j ≤ cn C 0) (hl : l ≤ cn C 1) : 0 ≤ DD C i j k l ∧ DD C i j k l ≤ 1200 := by
  have a := dd_bd (hW.cbd (i := i) (k := k) hj hl)
  have n0 := hW.n12 (t := 0) (by omega)
  have n1 := hW.n12 (t := 1) (by omega)
  rw [rg_len, rg_len] at a
  unfold DD
  omega
/-- whether a place can be the partner -/
def fC (C : Nat → Nat → Int) (i e j l b : Nat) : Bool := decide (C 2 i = C 2 (12 + b)) && decide (sm (cil C) j b + cpl C i b + DD C (i + 1) (ce C 0 i) (b + 1) (ce C 1 b) + DD C (ce C 0 i) e (ce C 1 b) l = DD C i e j l)
def fst1 (P : Nat → Bool) (j : Nat) : Nat → Int
  | 0 => -1
  | k + 1 => if P j = true then (j : Int) else fst1 P (j + 1) k
/-- the first partner, -1 if there is none -/
def fpt (C : Nat → Nat → Int) (i e j l : Nat) : Int := fst1 (fC C i e j l) j (l - j)
theorem fst1_cases (P : Nat → Bool) : ∀ (k j : Nat), (fst1 P j k = -1 ∧ ∀ b : Nat, j ≤ b → b < j + k → P b = false) ∨ ∃ b : Nat, fst1 P j k = b ∧ j ≤ b ∧ b < j + k ∧ P b = true ∧ ∀ c : Nat, j ≤ c → c < b → P c = false := by
  intro k
  induction k with
  | zero => intro j; exact Or.inl ⟨rfl, fun b h1 h2 => by omega⟩
  | succ k ih =>
    intro j
    unfold fst1
    by_cases c : P j = true
    · rw [if_pos c]
      exact Or.inr ⟨j, rfl, Nat.le_refl _, by omega, c, fun c h1 h2 => by omega⟩
    · rw [if_neg c]
      have cf : P j = false := by simpa using c
      rcases ih (j + 1) with ⟨h1, h2⟩ | ⟨b, h1, h2, h3, h4, h5⟩
      · refine Or.inl ⟨h1, fun b g1 g2 => ?_⟩
        by_cases e : b = j
        · rw [e]; exact cf
        · exact h2 b (by omega) (by omega)
      · refine Or.inr ⟨b, h1, by omega, by omega, h4, fun c g1 g2 => ?_⟩
        by_cases e : c = j
        · rw [e]; exact cf
        · exact h5 c (by omega) g2
theorem fst1_step (P : Nat → Bool) {j : Nat} (k : Nat) (h : P j = false) : fst1 P j (k + 1) = fst1 P (j + 1) k := by
  unfold fst1
  rw [if_neg (by rw [h]; decide)]
  cases k <;> rfl
theorem fst1_hit (P : Nat → Bool) {j : Nat} (k : Nat) (h : P j = true) : fst1 P j (k + 1) = j := by
  unfold fst1
  rw [if_pos h]
def chG (C : Nat → Nat → Int) : Nat → Nat → Nat → Nat → Nat → Nat → Int
  | 0, _, _, _, _, _ => -1
  | f + 1, i, e, j, l, x => if e ≤ i then -1 else if fpt C i e j l < 0 then (if x = i then -1 else chG C f (i + 1) e j l x) else if x = i then fpt C i e j l else if x < ce C 0 i then chG C f (i + 1) (ce C 0 i) ((fpt C i e j l).toNat + 1) (ce C 1 (fpt C i e j l).toNat) x else chG C f (ce C 0 i) e (ce C 1 (fpt C i e j l).toNat) l x
/-- the partners of the places of a row, chosen one behind the other -/
def ch (C : Nat → Nat → Int) (i e j l x : Nat) : Int := chG C (e - i) i e j l x
/-- a row of places that holds whole subtrees -/
def Whl (C : Nat → Nat → Int) (t i e : Nat) : Prop := e ≤ cn C t ∧ ∀ x : Nat, i ≤ x → x < e → ce C t x ≤ e
theorem Whl.all {C : Nat → Nat → Int} {t : Nat} : Whl C t 0 (cn C t) := ⟨Nat.le_refl _, fun _ _ h => eN_le h⟩
theorem Whl.tl {C : Nat → Nat → Int} {t i i' e : Nat} (h : Whl C t i e) (hi : i ≤ i') : Whl C t i' e := ⟨h.1, fun x h1 h2 => h.2 x (by omega) h2⟩
theorem Whl.inn {C : Nat → Nat → Int} {t i : Nat} (h : i < cn C t) : Whl C t (i + 1) (ce C t i) := ⟨eN_le h, fun x h1 h2 => eN_nest h (by omega) h2⟩
section CH
variable {C : Nat → Nat → Int}
theorem fpt_rg (C : Nat → Nat → Int) (i e j l : Nat) : fpt C i e j l = -1 ∨ ∃ b : Nat, fpt C i e j l = b ∧ j ≤ b ∧ b < l ∧ C 2 i = C 2 (12 + b) := by
  rcases fst1_cases (fC C i e j l) (l - j) j with ⟨h1, h2⟩ | ⟨b, h1, h2, h3, h4, h5⟩
  · exact Or.inl h1
  · refine Or.inr ⟨b, h1, h2, by omega, ?_⟩
    unfold fC at h4
    rw [Bool.and_eq_true, decide_eq_true_eq, decide_eq_true_eq] at h4
    exact h4.1
theorem chG_irr (hW : WF C) : ∀ (f f' i e j l x : Nat), e - i ≤ f → e - i ≤ f' → Whl C 0 i e → chG C f i e j l x = chG C f' i e j l x := by
  intro f
  induction f with
  | zero =>
    intro f' i e j l x h1 h2 hw
    cases f' with
    | zero => rfl
    | succ f' =>
      unfold chG
      rw [if_pos (by omega)]
  | succ f ih =>
    intro f' i e j l x h1 h2 hw
    cases f' with
    | zero =>
      unfold chG
      rw [if_pos (by omega)]
    | succ f' =>
      unfold chG
      by_cases c : e ≤ i
      · rw [if_pos c, if_pos c]
      · have z := hW.e (C := C) (t := 0) (p := i) (by have := hw.1; omega)
        have w := hw.2 i (Nat.le_refl _) (by omega)
        rw [if_neg c, if_neg c, ih f' (i + 1) e j l x (by omega) (by omega) (hw.tl (by omega)), ih f' (i + 1) (ce C 0 i) _ _ x (by omega) (by omega) (Whl.inn (by have := hw.1; omega)), ih f' (ce C 0 i) e _ _ x (by omega) (by omega) (hw.tl (by omega))]
theorem ch_nil {i e j l x : Nat} (h : e ≤ i) : ch C i e j l x = -1 := by
  unfold ch
  rw [show e - i = 0 from by omega]
  rfl
theorem ch_no (hW : WF C) {i e j l x : Nat} (hw : Whl C 0 i e) (h : i < e) (hf : fpt C i e j l = -1) : ch C i e j l x = if x = i then -1 else ch C (i + 1) e j l x := by
  unfold ch
  rw [show e - i = (e - (i + 1)) + 1 from by omega]
  unfold chG
  rw [if_neg (by omega), if_pos (by omega)]
  cases h : e - (i + 1) <;> rfl
theorem ch_yes (hW : WF C) {i e j l x b : Nat} (hw : Whl C 0 i e) (h : i < e) (hf : fpt C i e j l = b) : ch C i e j l x = if x = i then (b : Int) else if x < ce C 0 i then ch C (i + 1) (ce C 0 i) (b + 1) (ce C 1 b) x else ch C (ce C 0 i) e (ce C 1 b) l x := by
  have hn := hw.1
  have z := hW.e (C := C) (t := 0) (p := i) (by omega)
  have w := hw.2 i (Nat.le_refl _) h
  unfold ch
  rw [show e - i = (e - (i + 1)) + 1 from by omega]
  have u : ∀ f : Nat, chG C (f + 1) i e j l x = if e ≤ i then -1 else if fpt C i e j l < 0 then (if x = i then -1 else chG C f (i + 1) e j l x) else if x = i then fpt C i e j l else if x < ce C 0 i then chG C f (i + 1) (ce C 0 i) ((fpt C i e j l).toNat + 1) (ce C 1 (fpt C i e j l).toNat) x else chG C f (ce C 0 i) e (ce C 1 (fpt C i e j l).toNat) l x := fun f => rfl
  rw [u, if_neg (by omega), if_neg (by omega), hf, Int.toNat_natCast, chG_irr hW (e - (i + 1)) (ce C 0 i - (i + 1)) (i + 1) (ce C 0 i) _ _ x (by omega) (Nat.le_refl _) (Whl.inn (by omega)), chG_irr hW (e - (i + 1)) (e - ce C 0 i) (ce C 0 i) e _ _ x (by omega) (Nat.le_refl _) (hw.tl (by omega))]
/-- the partner of a place of tree 0, -1 if it has none -/
def pt (C : Nat → Nat → Int) (x : Nat) : Int := ch C 0 (cn C 0) 0 (cn C 1) x
theorem chG_rg (hW : WF C) : ∀ (f i e j l x : Nat), e - i ≤ f → Whl C 0 i e → Whl C 1 j l → j ≤ l → chG C f i e j l x = -1 ∨ ∃ b : Nat, chG C f i e j l x = b ∧ j ≤ b ∧ b < l ∧ C 2 x = C 2 (12 + b) := by
  intro f
  induction f with
  | zero => intro i e j l x _ _ _ _; exact Or.inl rfl
  | succ f ih =>
    intro i e j l x h1 hw hv hjl
    have u : chG C (f + 1) i e j l x = if e ≤ i then -1 else if fpt C i e j l < 0 then (if x = i then -1 else chG C f (i + 1) e j l x) else if x = i then fpt C i e j l else if x < ce C 0 i then chG C f (i + 1) (ce C 0 i) ((fpt C i e j l).toNat + 1) (ce C 1 (fpt C i e j l).toNat) x else chG C f (ce C 0 i) e (ce C 1 (fpt C i e j l).toNat) l x := rfl
    rw [u]
    by_cases c : e ≤ i
    · rw [if_pos c]; exact Or.inl rfl
    · have hn := hw.1
      have hn1 := hv.1
      have z := hW.e (C := C) (t := 0) (p := i) (by omega)
      have w := hw.2 i (Nat.le_refl _) (by omega)
      rw [if_neg c]
      rcases fpt_rg C i e j l with hf | ⟨b, hf, b1, b2, b3⟩
      · rw [if_pos (by omega)]
        by_cases d : x = i
        · rw [if_pos d]; exact Or.inl rfl
        · rw [if_neg d]; exact ih (i + 1) e j l x (by omega) (hw.tl (by omega)) hv hjl
      · rw [if_neg (by omega), hf, Int.toNat_natCast]
        have z1 := hW.e (C := C) (t := 1) (p := b) (by omega)
        have w1 := hv.2 b b1 b2
        by_cases d : x = i
        · rw [if_pos d]
          subst d
          exact Or.inr ⟨b, rfl, b1, b2, b3⟩
        · rw [if_neg d]
          by_cases g : x < ce C 0 i
          · rw [if_pos g]
            rcases ih (i + 1) (ce C 0 i) (b + 1) (ce C 1 b) x (by omega) (Whl.inn (by omega)) (Whl.inn (by omega)) (by omega) with r | ⟨b', r1, r2, r3, r4⟩
            · exact Or.inl r
            · exact Or.inr ⟨b', r1, by omega, by omega, r4⟩
          · rw [if_neg g]
            rcases ih (ce C 0 i) e (ce C 1 b) l x (by omega) (hw.tl (by omega)) (hv.tl (by omega)) w1 with r | ⟨b', r1, r2, r3, r4⟩
            · exact Or.inl r
            · exact Or.inr ⟨b', r1, by omega, by omega, r4⟩
theorem pt_rg (hW : WF C) (x : Nat) : pt C x = -1 ∨ ∃ b : Nat, pt C x = b ∧ b < cn C 1 ∧ C 2 x = C 2 (12 + b) := by
  rcases chG_rg hW (cn C 0 - 0) 0 (cn C 0) 0 (cn C 1) x (Nat.le_refl _) Whl.all Whl.all (Nat.zero_le _) with r | ⟨b, r1, _, r3, r4⟩
  · exact Or.inl r
  · exact Or.inr ⟨b, r1, r3, r4⟩
end CH
/-! the reference chooses it -/
section MCH
variable {C : Nat → Nat → Int} {M : Mem}
def TbD (C : Nat → Nat → Int) (M : Mem) : Prop := ∀ i e j l : Nat, i ≤ e → e ≤ cn C 0 → j ≤ l → l ≤ cn C 1 → M 13 8 (ix i e j l) = DD C i e j l
theorem TbF.toD (hW : WF C) (h : TbF C (-1) (-1) M (fun _ _ _ _ => True)) : TbD C M := fun i e j l h1 h2 h3 h4 => by
  rw [h i e j l h1 h2 h3 h4 trivial]
  exact df_m1 hW h2 h4
set_option maxHeartbeats 4000000 in
theorem sp_first {Q : Int → Mem → Prop} {i e j l : Nat} {p0 p1 p2 p3 : Int} (hW : WF C) (hC : Core C M) (hB : Bd M) (hS : Sz C M) (hT : TbD C M) (e0 : p0 = i) (e1 : p1 = e) (e2 : p2 = j) (e3 : p3 = l) (hi : i < e) (hw : Whl C 0 i e) (hv : Whl C 1 j l) (hjl : j ≤ l) (K : Q (fpt C i e j l) M) : wp_X11_first M p0 p1 p2 p3 Q := by
  subst e0; subst e1; subst e2; subst e3
  have n0 := hW.n12 (t := 0) (by omega)
  have n1 := hW.n12 (t := 1) (by omega)
  have he := hw.1
  have hl := hv.1
  have z := hW.e (C := C) (t := 0) (p := i) (by omega)
  have w := hw.2 i (Nat.le_refl _) hi
  unfold wp_X11_first
  refine ⟨fun n x5 x6 x7 x8 M1 => ∃ s : Nat, x5 = DD C i e j l ∧ x6 = (ce C 0 i : Int) ∧ x8 = (s : Int) - 1 ∧ j ≤ s ∧ s ≤ l ∧ n = s + 1 ∧ x7 = fst1 (fC C i e j l) s (l - s) ∧ M1 = M, ?_, ?_⟩
  · unfold wpe_X11_first
    refine sp_at ?_
    rw [ix_int]
    have L := ix_lt (i := i) (e := e) (j := j) (l := l) (by omega) (by omega) (by omega) (by omega)
    simp only [Int.toNat_natCast]
    refine ⟨⟨by omega, by omega⟩, fun y4 e4 => ⟨⟨by omega, by omega⟩, fun y6 e6 y7 e7 => ⟨_, l, ?_, ?_, e7, hjl, Nat.le_refl _, rfl, ?_, trivial⟩⟩⟩
    · rw [e4, hT i e j l (by omega) he hjl hl]
    · rw [e6, hS.s0 (p := i) (by omega)]
      omega
    · rw [Nat.sub_self]
      rfl
  · intro n x5 x6 x7 x8 M1 ⟨s, e5, e6, e8, h1, h2, hn, e7, eM⟩
    have eM := eM.symm
    subst e5; subst e6; subst e8; subst hn; subst eM
    have F := fst1_cases (fC C i e j l) (l - s) s
    have r7 : inR x7 := by
      rw [e7]
      rcases F with ⟨f1, _⟩ | ⟨b, f1, _, f3, _⟩
      · rw [f1]; exact ⟨by decide, by decide⟩
      · rw [f1]; exact ⟨by omega, by omega⟩
    unfold wph_X11_first_34
    refine ⟨⟨by omega, by omega⟩, ⟨by omega, by omega⟩, fun h => ?_, fun h => ?_⟩
    · rw [e7, show s = j from by omega]
      exact K
    · have hb : s - 1 < cn C 1 := by omega
      have zb := hW.e (C := C) (t := 1) hb
      have wb := hv.2 (s - 1) (by omega) (by omega)
      have no : fC C i e j l (s - 1) = false → wpj_X11_first_125 (i : Int) (e : Int) (j : Int) (l : Int) (DD C i e j l) (ce C 0 i : Int) x7 ((s : Int) - 1) M (fun (x5 x6 x7 x8 : Int) (M1 : Mem) => ∃ n1 : Nat, n1 < s + 1 ∧ ∃ s : Nat, x5 = DD C i e j l ∧ x6 = (ce C 0 i : Int) ∧ x8 = (s : Int) - 1 ∧ j ≤ s ∧ s ≤ l ∧ n1 = s + 1 ∧ x7 = fst1 (fC C i e j l) s (l - s) ∧ M1 = M) Q := by
        intro hc
        unfold wpj_X11_first_125 wpj_X11_first_126 wpj_X11_first_140
        refine ⟨⟨by decide, by decide⟩, fun _ => ⟨s - 1 + 1, by omega, s - 1, rfl, rfl, by omega, by omega, by omega, rfl, ?_, rfl⟩, fun h3 => absurd rfl h3⟩
        rw [e7, show l - (s - 1) = (l - s) + 1 from by omega, fst1_step _ _ hc, show s - 1 + 1 = s from by omega]
      rw [show (12 + ((s : Int) - 1)).toNat = 12 + (s - 1) from by omega, hS.s1 hb]
      refine ⟨⟨by omega, by omega⟩, fun y12 e12 => ?_⟩
      have v12 : y12 = (ce C 1 (s - 1) : Int) := by omega
      clear e12
      subst v12
      refine sp_alk hC hB (p := i) (q := s - 1) rfl (by omega) (by omega) (by omega) ⟨inR_ite _, fun h3 => no ?_, fun h3 => ?_⟩
      · have : ¬ (C 2 i = C 2 (12 + (s - 1))) := fun q => by rw [if_pos q] at h3; cases h3
        unfold fC
        rw [decide_eq_false this]
        rfl
      · have hk : C 2 i = C 2 (12 + (s - 1)) := Decidable.byContradiction (fun q => h3 (if_neg q))
        refine sp_inserting hW hC (i := j) (j := s - 1) rfl (by omega) (by omega) (by omega) (sp_pair hW hC hB (p := i) (q := s - 1) rfl (by omega) (by omega) (by omega) (sp_at ?_))
        rw [show ((i : Int) + 1) = ((i + 1 : Nat) : Int) from by omega, show ((s : Int) - 1 + 1) = ((s - 1 + 1 : Nat) : Int) from by omega, ix_int]
        have L1 := ix_lt (i := i + 1) (e := ce C 0 i) (j := s - 1 + 1) (l := ce C 1 (s - 1)) (by omega) (by omega) (by omega) (by omega)
        have L2 := ix_lt (i := ce C 0 i) (e := e) (j := ce C 1 (s - 1)) (l := l) (by omega) (by omega) (by omega) (by omega)
        refine ⟨⟨by omega, by omega⟩, sp_at ?_⟩
        rw [ix_int]
        simp only [Int.toNat_natCast]
        rw [hT (i + 1) (ce C 0 i) (s - 1 + 1) (ce C 1 (s - 1)) (by omega) (by omega) (by omega) (by omega), hT (ce C 0 i) e (ce C 1 (s - 1)) l (by omega) (by omega) (by omega) (by omega)]
        have b1 := sm_bd (cil C) (i := j) (j := s - 1) (fun k _ h4 => hW.il (by omega))
        have b2 := hW.pl (p := i) (q := s - 1) (by omega)
        have b3 := DD_bd (i := i + 1) (j := ce C 0 i) (k := s - 1 + 1) (l := ce C 1 (s - 1)) hW (by omega) (by omega)
        have b4 := DD_bd (i := ce C 0 i) (j := e) (k := ce C 1 (s - 1)) (l := l) hW (by omega) (by omega)
        have b5 := DD_bd (i := i) (j := e) (k := j) (l := l) hW (by omega) (by omega)
        refine ⟨⟨by omega, by omega⟩, ⟨by omega, by omega⟩, ⟨by omega, by omega⟩, fun h4 => no ?_, fun h4 => ?_⟩
        · unfold fC
          rw [decide_eq_false h4, Bool.and_false]
        · have hc : fC C i e j l (s - 1) = true := by
            unfold fC
            rw [decide_eq_true hk, decide_eq_true (Decidable.byContradiction h4)]
            rfl
          unfold wpj_X11_first_126 wpj_X11_first_140
          refine ⟨⟨by decide, by decide⟩, fun h5 => absurd h5 (by decide), fun _ => ⟨s - 1 + 1, by omega, s - 1, rfl, rfl, by omega, by omega, by omega, rfl, ?_, rfl⟩⟩
          rw [show l - (s - 1) = (l - s) + 1 from by omega, fst1_hit _ _ hc]
          omega
end MCH
