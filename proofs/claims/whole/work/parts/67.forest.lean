/-! the class's recursion over forests -/
def crow (C : Nat → Nat → Int) (b : Nat) : CP := ccF (rF C 0 b) (rF C 1 b) (fn C 0 b) (fn C 1 b) (fun p q => cpr C (pl C 0 b p) (pl C 1 b q))
theorem crow_bd {C : Nat → Nat → Int} {b i j k l : Nat} (hW : WF C) (hj : j ≤ cn C 0) (hl : l ≤ cn C 1) : CBd (crow C b) (rr i j) (rr k l) := by
  refine ⟨fun x hx => ?_, fun y hy => ?_, fun x hx y hy => ?_⟩
  · have := mem_rr.mp hx
    exact hW.alb (t := 0) (by omega) (pl_lt hW (by omega) (by omega))
  · have := mem_rr.mp hy
    exact hW.alb (t := 1) (by omega) (pl_lt hW (by omega) (by omega))
  · have := mem_rr.mp hx
    have a := hW.prr (p := pl C 0 b x) (q := pl C 1 b y) (pl_lt hW (by omega) (by omega))
    change 0 ≤ cpr C (pl C 0 b x) (pl C 1 b y) ∧ (cpr C (pl C 0 b x) (pl C 1 b y) ≤ 50 ∨ cpr C (pl C 0 b x) (pl C 1 b y) = 1000000)
    omega
def RD (C : Nat → Nat → Int) (b i j k l : Nat) : Int := dd (crow C b) (rr i j) (rr k l)
theorem RD_bd {C : Nat → Nat → Int} {b i j k l : Nat} (hW : WF C) (hj : j ≤ cn C 0) (hl : l ≤ cn C 1) : 0 ≤ RD C b i j k l ∧ RD C b i j k l ≤ 1200 := by
  have a := dd_bd (crow_bd (b := b) (i := i) (k := k) hW hj hl)
  have n0 := hW.n12 (t := 0) (by omega)
  have n1 := hW.n12 (t := 1) (by omega)
  rw [rr_len, rr_len] at a
  unfold RD
  omega
theorem dd_rl (c : CP) (i : Nat) : ∀ j : Nat, dd c (rr i j) [] = sm c.2.2.1 i j := by
  intro j
  induction j with
  | zero => rw [rr_nil (by omega), dd_nn, sm_self _ (by omega)]
  | succ j ih =>
    by_cases h : i < j + 1
    · rw [rr_cons h, dd_cn, show j + 1 - 1 = j from by omega, ih, sm_succ _ (by omega)]
      omega
    · rw [rr_nil (by omega), dd_nn, sm_self _ (by omega)]
theorem dd_rrr (c : CP) (i : Nat) : ∀ j : Nat, dd c [] (rr i j) = sm c.2.2.2.1 i j := by
  intro j
  induction j with
  | zero => rw [rr_nil (by omega), dd_nn, sm_self _ (by omega)]
  | succ j ih =>
    by_cases h : i < j + 1
    · rw [rr_cons h, dd_nc, show j + 1 - 1 = j from by omega, ih, sm_succ _ (by omega)]
      omega
    · rw [rr_nil (by omega), dd_nn, sm_self _ (by omega)]
/-- rows of places that hold whole subtrees -/
def Okr (C : Nat → Nat → Int) (t b i j : Nat) : Prop := ∀ x : Nat, i ≤ x → x < j → i ≤ rF C t b x
theorem Okr.sub {C : Nat → Nat → Int} {t b i j k : Nat} (h : Okr C t b i j) (hk : k ≤ j) : Okr C t b i k := fun x h1 h2 => h x h1 (by omega)
theorem Okr.inn {C : Nat → Nat → Int} {t b x : Nat} (hW : WF C) (ht : t < 2) (hx : x < cn C t) : Okr C t b (rF C t b x) x := fun y h1 h2 => rF_nest hW ht hx h1 (by omega)
theorem Okr.all {C : Nat → Nat → Int} {t b j : Nat} : Okr C t b 0 j := fun _ _ _ => Nat.zero_le _
theorem RD_rec {C : Nat → Nat → Int} {b i j k l : Nat} (hW : WF C) (h1 : i < j) (h2 : k < l) (hj : j ≤ cn C 0) (hl : l ≤ cn C 1) (o1 : Okr C 0 b i j) (o2 : Okr C 1 b k l) : RD C b i j k l = min (min (fn C 0 b (j - 1) + RD C b i (j - 1) k l) (fn C 1 b (l - 1) + RD C b i j k (l - 1))) (cpr C (pl C 0 b (j - 1)) (pl C 1 b (l - 1)) + RD C b (rF C 0 b (j - 1)) (j - 1) (rF C 1 b (l - 1)) (l - 1) + RD C b i (rF C 0 b (j - 1)) k (rF C 1 b (l - 1))) :=
  F_cc (f := rF C 0 b) (g := rF C 1 b) (dl := fn C 0 b) (il := fn C 1 b) (pr := fun p q => cpr C (pl C 0 b p) (pl C 1 b q)) h1 h2 (o1 (j - 1) (by omega) (by omega)) (rF_sz hW (by omega) (by omega)).1 (o2 (l - 1) (by omega) (by omega)) (rF_sz hW (by omega) (by omega)).1
def tri (b : Nat) : Nat := b * (b - 1) / 2
theorem tri_all : ∀ b : Fin 13, 1 ≤ b.val → ((b.val : Int) * ((b.val : Int) - 1)) / 2 = (tri b.val : Int) ∧ 0 ≤ (b.val : Int) * ((b.val : Int) - 1) ∧ (b.val : Int) * ((b.val : Int) - 1) < 200 ∧ tri b.val + b.val ≤ 78 := by decide +kernel
theorem tri_mono : ∀ b b' : Fin 13, b.val < b'.val → tri b.val + b.val ≤ tri b'.val := by decide +kernel
theorem tri_ok {b : Nat} (h1 : 1 ≤ b) (h2 : b ≤ 12) : ((b : Int) * ((b : Int) - 1)) / 2 = (tri b : Int) ∧ 0 ≤ (b : Int) * ((b : Int) - 1) ∧ (b : Int) * ((b : Int) - 1) < 200 ∧ tri b + b ≤ 78 := tri_all ⟨b, by omega⟩ h1
theorem tri_inj {a b a' b' : Nat} (h1 : a < b) (h2 : b ≤ 12) (h1' : a' < b') (h2' : b' ≤ 12) (e : tri b + a = tri b' + a') : a = a' ∧ b = b' := by
  rcases Nat.lt_trichotomy b b' with c | c | c
  · have := tri_mono ⟨b, by omega⟩ ⟨b', by omega⟩ c
    dsimp only at this
    omega
  · subst c
    exact ⟨by omega, rfl⟩
  · have := tri_mono ⟨b', by omega⟩ ⟨b, by omega⟩ c
    dsimp only at this
    omega
def cx (a b c d : Nat) : Nat := (tri b + a) * 78 + tri d + c
theorem cx_inj {a b c d a' b' c' d' : Nat} (h1 : a < b) (h2 : b ≤ 12) (h3 : c < d) (h4 : d ≤ 12) (h1' : a' < b') (h2' : b' ≤ 12) (h3' : c' < d') (h4' : d' ≤ 12) (e : cx a b c d = cx a' b' c' d') : a = a' ∧ b = b' ∧ c = c' ∧ d = d' := by
  have t1 := (tri_ok (b := b) (by omega) h2).2.2.2
  have t2 := (tri_ok (b := d) (by omega) h4).2.2.2
  have t3 := (tri_ok (b := b') (by omega) h2').2.2.2
  have t4 := (tri_ok (b := d') (by omega) h4').2.2.2
  unfold cx at e
  have p := tri_inj h1 h2 h1' h2' (by omega)
  have q := tri_inj h3 h4 h3' h4' (by omega)
  exact ⟨p.1, p.2, q.1, q.2⟩
def FT (C : Nat → Nat → Int) (b : Nat) (M : Mem) : Prop := ∀ i j k l : Nat, i < j → j ≤ cn C 0 → k < l → l ≤ cn C 1 → M 4 1 (cx i j k l) = -1 ∨ M 4 1 (cx i j k l) = RD C b i j k l
def P41 (o k : Nat) : Bool := o == 4 && k == 1
theorem LayP.fr {C : Nat → Nat → Int} {P : Nat → Nat → Bool} {M M' : Mem} {b : Nat} (h : LayP C M b) (hF : Fr P M M') (h9 : ∀ k : Nat, P 9 k = false) (h10 : ∀ k : Nat, P 10 k = false) (h2 : P 2 3 = false) : LayP C M' b := ⟨h.1.fr hF (h9 _) (h9 _) (h9 _) (h9 _) (h9 _) (h9 _), h.2.1.fr hF (h10 _) (h10 _) (h10 _) (h10 _) (h10 _) (h10 _), fun p q hp hq => by rw [hF 2 3 _ h2]; exact h.2.2 p q hp hq⟩
theorem LayP.fr41 {C : Nat → Nat → Int} {M M' : Mem} {b : Nat} (h : LayP C M b) (hF : Fr P41 M M') : LayP C M' b := h.fr hF (fun _ => rfl) (fun _ => rfl) rfl
set_option maxHeartbeats 4000000 in
theorem sp_leastN {C : Nat → Nat → Int} {b : Nat} (hW : WF C) : ∀ (n : Nat) {M : Mem} {Q : Int → Mem → Prop} {i j k l e : Nat} {p1 p2 p3 p4 p5 : Int}, LayP C M b → Bd M → FT C b M → p1 = i → p2 = j → p3 = k → p4 = l → p5 = e → i ≤ j → j ≤ cn C 0 → k ≤ l → l ≤ cn C 1 → Okr C 0 b i j → Okr C 1 b k l → (j - i) + (l - k) < n → (j - i) + (l - k) + e ≤ 24 → (∀ M' : Mem, Fr P41 M M' → Bd M' → FT C b M' → Q (RD C b i j k l) M') → wpn_X0_least n M p1 p2 p3 p4 p5 Q := by
  have n0 := hW.n12 (t := 0) (by omega)
  have n1 := hW.n12 (t := 1) (by omega)
  intro n
  induction n with
  | zero => intro M Q i j k l e p1 p2 p3 p4 p5 _ _ _ _ _ _ _ _ _ _ _ _ _ _ h; omega
  | succ n ih =>
    intro M Q i j k l e p1 p2 p3 p4 p5 hL hB hT e1 e2 e3 e4 e5 hij hj hkl hl o1 o2 hn he K
    subst e1; subst e2; subst e3; subst e4; subst e5
    change wpe_X0_least (wpn_X0_least n) (i : Int) (j : Int) (k : Int) (l : Int) (e : Int) M Q
    have J36 : (i = j ∨ k = l) → wpj_X0_least_36 (wpn_X0_least n) (i : Int) (j : Int) (k : Int) (l : Int) (e : Int) M Q := by
      intro hz
      unfold wpj_X0_least_36
      refine sp_allAlone rfl rfl (by omega) (by omega) (sp_allAlone rfl rfl (by omega) (by omega) ?_)
      rw [hL.1.2.2 j hj, hL.1.2.2 i (by omega), hL.2.1.2.2 l hl, hL.2.1.2.2 k (by omega)]
      have s1 := sm_app (fn C 0 b) (i := 0) (j := i) (k := j) (Nat.zero_le _) hij
      have s2 := sm_app (fn C 1 b) (i := 0) (j := k) (k := l) (Nat.zero_le _) hkl
      have ev : RD C b i j k l = sm (fn C 0 b) i j + sm (fn C 1 b) k l := by
        unfold RD
        rcases hz with hz | hz
        · subst hz
          rw [rr_nil (Nat.le_refl _), dd_rrr, sm_self _ (Nat.le_refl _)]
          change sm (fn C 1 b) k l = _
          omega
        · subst hz
          rw [rr_nil (a := k) (Nat.le_refl _), dd_rl, sm_self (fn C 1 b) (Nat.le_refl _)]
          change sm (fn C 0 b) i j = _
          omega
      rw [show sm (fn C 0 b) 0 j - sm (fn C 0 b) 0 i + (sm (fn C 1 b) 0 l - sm (fn C 1 b) 0 k) = RD C b i j k l from by omega]
      exact K M Fr.rf hB hT
    unfold wpe_X0_least
    refine ⟨⟨by omega, by omega⟩, ⟨by omega, by omega⟩, fun h => J36 (Or.inl (by omega)), fun h => ⟨⟨by omega, by omega⟩, ⟨by omega, by omega⟩, fun h' => J36 (Or.inr (by omega)), fun h' => ⟨⟨by omega, by omega⟩, fun h3 => ?_, fun h3 => absurd h3 (by omega)⟩⟩⟩
    have t1 := tri_ok (b := j) (by omega) (by omega)
    have t2 := tri_ok (b := l) (by omega) (by omega)
    refine ⟨⟨by omega, by omega⟩, ⟨by omega, by omega⟩, fun y11 e11 => ?_⟩
    rw [t1.1, t2.1, show (((tri j : Int) + (i : Int)) * 78 + (tri l : Int)) + (k : Int) = (cx i j k l : Int) from by unfold cx; omega] at e11
    subst e11
    have cb : cx i j k l < 6084 := by unfold cx; omega
    simp only [Int.toNat_natCast]
    refine ⟨⟨by omega, by omega⟩, hB.r _ _ _, fun hm y15 e15 y16 e16 => ?_, fun hm => ⟨⟨by omega, by omega⟩, ?_⟩⟩
    · have f1 := rF_sz (b := b) hW (t := 0) (p := j - 1) (by omega) (by omega)
      have f2 := rF_sz (b := b) hW (t := 1) (p := l - 1) (by omega) (by omega)
      have g1 := o1 (j - 1) (by omega) (by omega)
      have g2 := o2 (l - 1) (by omega) (by omega)
      have a1 := hW.alb (t := 0) (p := pl C 0 b (j - 1)) (by omega) (pl_lt hW (by omega) (by omega))
      have a2 := hW.alb (t := 1) (p := pl C 1 b (l - 1)) (by omega) (pl_lt hW (by omega) (by omega))
      change 0 ≤ fn C 0 b (j - 1) ∧ fn C 0 b (j - 1) ≤ 50 at a1
      change 0 ≤ fn C 1 b (l - 1) ∧ fn C 1 b (l - 1) ≤ 50 at a2
      have a3 := hW.prr (p := pl C 0 b (j - 1)) (q := pl C 1 b (l - 1)) (pl_lt hW (by omega) (by omega))
      have rec1 := RD_rec (b := b) hW (i := i) (j := j) (k := k) (l := l) (by omega) (by omega) hj hl o1 o2
      have r1 := RD_bd (b := b) (i := i) (j := j - 1) (k := k) (l := l) hW (by omega) (by omega)
      have r2 := RD_bd (b := b) (i := i) (j := j) (k := k) (l := l - 1) hW (by omega) (by omega)
      have r3 := RD_bd (b := b) (i := rF C 0 b (j - 1)) (j := j - 1) (k := rF C 1 b (l - 1)) (l := l - 1) hW (by omega) (by omega)
      have r4 := RD_bd (b := b) (i := i) (j := rF C 0 b (j - 1)) (k := k) (l := rF C 1 b (l - 1)) hW (by omega) (by omega)
      have y15' : y15 = ((j - 1 : Nat) : Int) := by omega
      have y16' : y16 = ((l - 1 : Nat) : Int) := by omega
      clear e15 e16
      subst y15'; subst y16'
      have J257 : ∀ (M5 : Mem) (x11 : Int), Fr P41 M M5 → Bd M5 → FT C b M5 → x11 = RD C b i j k l → wpj_X0_least_257 (wpn_X0_least n) (i : Int) (j : Int) (k : Int) (l : Int) (e : Int) (cx i j k l : Int) x11 M5 Q := by
        intro M5 x11 F5 B5 T5 ex
        subst ex
        unfold wpj_X0_least_257
        simp only [Int.toNat_natCast]
        refine ⟨⟨by omega, by omega⟩, fun M46 e46 => ?_⟩
        subst e46
        refine K _ (F5.set rfl) (B5.set (by omega) (by omega)) (fun i' j' k' l' h1 h2 h3 h4 => ?_)
        rw [mset_i]
        by_cases c : cx i' j' k' l' = cx i j k l
        · obtain ⟨q1, q2, q3, q4⟩ := cx_inj h1 (by omega) h3 (by omega) (by omega) (by omega) (by omega) (by omega) c
          subst q1; subst q2; subst q3; subst q4
          exact Or.inr (if_pos rfl)
        · rw [if_neg c]
          exact T5 i' j' k' l' h1 h2 h3 h4
      refine ih hL hB hT rfl rfl rfl rfl (by omega : (e : Int) + 1 = ((e + 1 : Nat) : Int)) (by omega) (by omega) hkl hl (o1.sub (by omega)) o2 (by omega) (by omega) (fun M18 F18 B18 T18 => ⟨⟨by omega, by omega⟩, ?_⟩)
      have L18 := hL.fr41 F18
      refine ih L18 B18 T18 rfl rfl rfl rfl (by omega : (e : Int) + 1 = ((e + 1 : Nat) : Int)) hij hj (by omega) (by omega) o1 (o2.sub (by omega)) (by omega) (by omega) (fun M21 F21 B21 T21 => ⟨⟨by omega, by omega⟩, ?_⟩)
      have L21 := L18.fr41 F21
      simp only [Int.toNat_natCast]
      rw [(L18.1.2.1 (j - 1) (by omega)).2.2.2, (L21.2.1.2.1 (l - 1) (by omega)).2.2.2]
      refine ⟨⟨by omega, by omega⟩, ⟨by omega, by omega⟩, fun y25 e25 => ⟨⟨by omega, by omega⟩, fun y27 e27 => ?_⟩⟩
      rw [show (((j - 1 : Nat) : Int) * 12 + ((l - 1 : Nat) : Int)).toNat = (j - 1) * 12 + (l - 1) from by omega, L21.2.2 (j - 1) (l - 1) (by omega) (by omega)] at e27
      refine ⟨⟨by omega, by omega⟩, fun h4 => J257 M21 y25 (F18.tr F21) B21 T21 (by omega), fun h4 => ⟨⟨by omega, by omega⟩, ⟨by omega, by omega⟩, ?_⟩⟩
      rw [(L21.1.2.1 (j - 1) (by omega)).2.1, (L21.2.1.2.1 (l - 1) (by omega)).2.1]
      refine ih L21 B21 T21 rfl rfl rfl rfl (by omega : (e : Int) + 1 = ((e + 1 : Nat) : Int)) f1.1 (by omega) f2.1 (by omega) (Okr.inn hW (by omega) (by omega)) (Okr.inn hW (by omega) (by omega)) (by omega) (by omega) (fun M33 F33 B33 T33 => ⟨⟨by omega, by omega⟩, ⟨by omega, by omega⟩, ?_⟩)
      have L33 := L21.fr41 F33
      rw [(L33.1.2.1 (j - 1) (by omega)).2.1, (L33.2.1.2.1 (l - 1) (by omega)).2.1]
      refine ih L33 B33 T33 rfl rfl rfl rfl (by omega : (e : Int) + 1 = ((e + 1 : Nat) : Int)) g1 (by omega) g2 (by omega) (o1.sub (by omega)) (o2.sub (by omega)) (by omega) (by omega) (fun M37 F37 B37 T37 => ⟨⟨by omega, by omega⟩, ⟨by omega, by omega⟩, fun y40 e40 => ?_⟩)
      exact J257 M37 y40 (((F18.tr F21).tr F33).tr F37) B37 T37 (by omega)
    · rcases hT i j k l (by omega) hj (by omega) hl with z | z
      · exact absurd z hm
      · rw [z]
        exact K M Fr.rf hB hT
theorem sp_least {C : Nat → Nat → Int} {b : Nat} {M : Mem} {Q : Int → Mem → Prop} {i j k l : Nat} {p1 p2 p3 p4 p5 : Int} (hW : WF C) (hL : LayP C M b) (hB : Bd M) (hT : FT C b M) (e1 : p1 = i) (e2 : p2 = j) (e3 : p3 = k) (e4 : p4 = l) (e5 : p5 = 0) (hij : i ≤ j) (hj : j ≤ cn C 0) (hkl : k ≤ l) (hl : l ≤ cn C 1) (o1 : Okr C 0 b i j) (o2 : Okr C 1 b k l) (K : ∀ M' : Mem, Fr P41 M M' → Bd M' → FT C b M' → Q (RD C b i j k l) M') : wp_X0_least M p1 p2 p3 p4 p5 Q := by
  have n0 := hW.n12 (t := 0) (by omega)
  have n1 := hW.n12 (t := 1) (by omega)
  unfold wp_X0_least
  exact ⟨27, rfl, sp_leastN hW 27 hL hB hT e1 e2 e3 e4 (e := 0) e5 hij hj hkl hl o1 o2 (by omega) (by omega) K⟩
theorem sp_forget {C : Nat → Nat → Int} {b : Nat} {M : Mem} {Q : Mem → Prop} (hW : WF C) (hB : Bd M) (K : ∀ M' : Mem, Fr P41 M M' → Bd M' → FT C b M' → Q M') : wp_X0_forget M Q := by
  have n0 := hW.n12 (t := 0) (by omega)
  have n1 := hW.n12 (t := 1) (by omega)
  unfold wp_X0_forget wpe_X0_forget
  refine sp_fill (by omega) (fun M' ha hb hc => K M' (fun o k i h => hb o k i (fun z => by
    rw [z.1, z.2] at h
    cases h)) (hB.fill (by omega) (by omega) ha hb hc) (fun i j k l h1 h2 h3 h4 => Or.inl (ha _ ?_)))
  have t1 := (tri_ok (b := j) (by omega) (by omega)).2.2.2
  have t2 := (tri_ok (b := l) (by omega) (by omega)).2.2.2
  unfold cx
  omega
/-! the chosen mapping looks at rows backwards; distances over rows in postorder -/
