section SOLVE
variable {C : Nat → Nat → Int} {pr : Nat → Nat → Int}
theorem RQ_col {i u k : Nat} (h : i ≤ u) : RQ C pr i (u + 1) k k = RQ C pr i u k k + fn C 0 0 u := by
  unfold RQ
  rw [rr_nil (a := k) (Nat.le_refl _), dd_rl, dd_rl]
  exact sm_succ _ h
theorem RQ_row {i v k : Nat} (h : k ≤ v) : RQ C pr i i k (v + 1) = RQ C pr i i k v + fn C 1 0 v := by
  unfold RQ
  rw [rr_nil (a := i) (Nat.le_refl _), dd_rrr, dd_rrr]
  exact sm_succ _ h
theorem OT.to {M M' : Mem} {dn dn' : Nat → Nat → Prop} (h : OT C pr M dn) (e : ∀ c : Nat, M' 3 1 c = M 3 1 c) (hd : ∀ x y : Nat, x < cn C 0 → y < cn C 1 → dn' x y → dn x y) : OT C pr M' dn' := fun x y hx hy hz => by rw [e]; exact h x y hx hy (hd x y hx hy hz)
theorem OF.to {M : Mem} {i j : Nat} {dn dn' : Nat → Nat → Prop} (h : OF C pr M i j dn) (hd : ∀ u v : Nat, rF C 0 0 i ≤ u → u ≤ i + 1 → rF C 1 0 j ≤ v → v ≤ j + 1 → dn' u v → dn u v) : OF C pr M i j dn' := fun u v h1 h2 h3 h4 h5 => h u v h1 h2 h3 h4 (hd u v h1 h2 h3 h4 h5)
set_option maxHeartbeats 8000000 in
theorem sp_solveForests {M : Mem} {Q : Mem → Prop} {i j : Nat} {p0 p1 : Int} (hW : WF C) (hq : QBd C pr) (hL : LayQ C pr M) (hB : Bd M) (hT : OT C pr M (PT C i j)) (e0 : p0 = i) (e1 : p1 = j) (hi : i < cn C 0) (hj : j < cn C 1) (ki : keyP C 0 i) (kj : keyP C 1 j)
    (K : ∀ M' : Mem, Fr P3 M M' → Bd M' → OT C pr M' (PT C i (j + 1)) → Q M') : wp_X2_solveForests M p0 p1 Q := by
  subst e0; subst e1
  have n0 := hW.n12 (t := 0) (by omega)
  have n1 := hW.n12 (t := 1) (by omega)
  have fi := (rF_sz (b := 0) hW (t := 0) (by omega) hi).1
  have fj := (rF_sz (b := 0) hW (t := 1) (by omega) hj).1
  unfold wp_X2_solveForests
  refine ⟨fun n x5 x6 x7 M1 => ∃ u : Nat, x5 = (rF C 0 0 i : Int) ∧ x6 = (rF C 1 0 j : Int) ∧ x7 = u ∧ rF C 0 0 i ≤ u ∧ u ≤ i + 1 ∧ n = 10000 + (20 - u) ∧ Fr P3 M M1 ∧ Bd M1 ∧ OT C pr M1 (PT C i j) ∧ OF C pr M1 i j (fun u' v' => v' = rF C 1 0 j ∧ u' ≤ u),
    fun n x5 x6 x7 M1 => ∃ v : Nat, x5 = (rF C 0 0 i : Int) ∧ x6 = (rF C 1 0 j : Int) ∧ x7 = v ∧ rF C 1 0 j ≤ v ∧ v ≤ j + 1 ∧ n = 5000 + (20 - v) ∧ Fr P3 M M1 ∧ Bd M1 ∧ OT C pr M1 (PT C i j) ∧ OF C pr M1 i j (fun u' v' => v' = rF C 1 0 j ∨ u' = rF C 0 0 i ∧ v' ≤ v),
    fun n x5 x6 x7 M1 => ∃ X : Nat, x5 = (rF C 0 0 i : Int) ∧ x6 = (rF C 1 0 j : Int) ∧ x7 = X ∧ rF C 0 0 i ≤ X ∧ X ≤ i + 1 ∧ n = (20 - X) * 40 ∧ Fr P3 M M1 ∧ Bd M1 ∧ OT C pr M1 (fun x y => PT C i j x y ∨ rF C 0 0 x = rF C 0 0 i ∧ rF C 1 0 y = rF C 1 0 j ∧ y ≤ j ∧ x < X) ∧ OF C pr M1 i j (fun u' v' => v' = rF C 1 0 j ∨ u' ≤ X),
    fun n x5 x6 x7 x8 M1 => ∃ X Y : Nat, x5 = (rF C 0 0 i : Int) ∧ x6 = (rF C 1 0 j : Int) ∧ x7 = X ∧ x8 = Y ∧ rF C 0 0 i ≤ X ∧ X ≤ i ∧ rF C 1 0 j ≤ Y ∧ Y ≤ j + 1 ∧ n = (20 - X) * 40 - 1 - Y ∧ Fr P3 M M1 ∧ Bd M1 ∧ OT C pr M1 (fun x y => PT C i j x y ∨ rF C 0 0 x = rF C 0 0 i ∧ rF C 1 0 y = rF C 1 0 j ∧ y ≤ j ∧ (x < X ∨ x = X ∧ y < Y)) ∧ OF C pr M1 i j (fun u' v' => v' = rF C 1 0 j ∨ u' ≤ X ∨ u' = X + 1 ∧ v' ≤ Y), ?_, ?_, ?_, ?_, ?_⟩
  · unfold wpe_X2_solveForests
    simp only [Int.toNat_natCast]
    refine ⟨⟨by omega, by omega⟩, fun y2 e2 => ⟨⟨by omega, by omega⟩, fun y4 e4 M5 e5 => ?_⟩⟩
    rw [(hL.1.2.1 i hi).2.1] at e2
    rw [(hL.2.1.2.1 j hj).2.1] at e4
    subst e5
    refine ⟨_, rF C 0 0 i, e2, e4, e2, Nat.le_refl _, by omega, rfl, Fr.rf.set rfl, hB.set (by omega) (by omega), hT.to (fun c => mset_ne (by omega)) (fun _ _ _ _ z => z), fun u v h1 h2 h3 h4 h5 => ?_⟩
    have eu : u = rF C 0 0 i := by omega
    rw [eu, h5.1, RQ_0, Nat.sub_self, Nat.sub_self]
    exact mset_eq
  · intro n x5 x6 x7 M1 ⟨u, e5, e6, e7, h1, h2, hn, hF, hB1, hT1, hO⟩
    subst e5; subst e6; subst e7; subst hn
    unfold wph_X2_solveForests_45
    refine ⟨⟨by omega, by omega⟩, ⟨by omega, by omega⟩, fun h => ⟨5000 + (20 - rF C 1 0 j), by omega, rF C 1 0 j, rfl, rfl, rfl, Nat.le_refl _, by omega, rfl, hF, hB1, hT1, fun u' v' g1 g2 g3 g4 g5 => hO u' v' g1 g2 g3 g4 (by omega)⟩, fun h => ?_⟩
    have L1 := hL.fr hF
    rw [show (((u : Int) - (rF C 0 0 i : Int)) * 13).toNat = (u - rF C 0 0 i) * 13 from by omega, show (((u : Int) - (rF C 0 0 i : Int) + 1) * 13).toNat = (u + 1 - rF C 0 0 i) * 13 from by omega, Int.toNat_natCast, (L1.1.2.1 u (by omega)).2.2.2]
    have o1 := hO u (rF C 1 0 j) (by omega) (by omega) (Nat.le_refl _) (by omega) ⟨rfl, Nat.le_refl _⟩
    rw [Nat.sub_self, Nat.add_zero] at o1
    have rc := RQ_col (C := C) (pr := pr) (k := rF C 1 0 j) h1
    have q1 := hq.1 (rF C 0 0 i) (u + 1) (rF C 1 0 j) (rF C 1 0 j) (by omega) (by omega)
    rw [o1, ← rc]
    refine ⟨⟨by omega, by omega⟩, ⟨by omega, by omega⟩, ⟨by omega, by omega⟩, fun M12 e12 => ?_⟩
    subst e12
    refine ⟨10000 + (20 - (u + 1)), by omega, u + 1, rfl, rfl, by omega, by omega, by omega, rfl, hF.set rfl, hB1.set (by omega) (by omega), hT1.to (fun c => mset_ne (by omega)) (fun _ _ _ _ z => z), fun u' v' g1 g2 g3 g4 g5 => ?_⟩
    rw [mset_i, g5.1, Nat.sub_self, Nat.add_zero]
    by_cases c : u' = u + 1
    · subst c
      rw [if_pos rfl]
    · rw [if_neg (by omega)]
      have o2 := hO u' (rF C 1 0 j) g1 g2 (Nat.le_refl _) (by omega) ⟨rfl, by omega⟩
      rw [Nat.sub_self, Nat.add_zero] at o2
      exact o2
  · intro n x5 x6 x7 M1 ⟨v, e5, e6, e7, h1, h2, hn, hF, hB1, hT1, hO⟩
    subst e5; subst e6; subst e7; subst hn
    unfold wph_X2_solveForests_97
    refine ⟨⟨by omega, by omega⟩, ⟨by omega, by omega⟩, fun h => ⟨(20 - rF C 0 0 i) * 40, by omega, rF C 0 0 i, rfl, rfl, rfl, Nat.le_refl _, by omega, rfl, hF, hB1, hT1.to (fun _ => rfl) (fun x y hx hy z => by
      rcases z with z | z
      · exact z
      · have := (rF_sz (b := 0) hW (t := 0) (by omega) hx).1
        omega), fun u' v' g1 g2 g3 g4 g5 => hO u' v' g1 g2 g3 g4 (by omega)⟩, fun h => ?_⟩
    have L1 := hL.fr hF
    rw [show ((v : Int) - (rF C 1 0 j : Int)).toNat = v - rF C 1 0 j from by omega, show ((v : Int) - (rF C 1 0 j : Int) + 1).toNat = v + 1 - rF C 1 0 j from by omega, Int.toNat_natCast, (L1.2.1.2.1 v (by omega)).2.2.2]
    have o1 := hO (rF C 0 0 i) v (Nat.le_refl _) (by omega) (by omega) (by omega) (Or.inr ⟨rfl, Nat.le_refl _⟩)
    rw [Nat.sub_self, Nat.zero_mul, Nat.zero_add] at o1
    have rc := RQ_row (C := C) (pr := pr) (i := rF C 0 0 i) h1
    have q1 := hq.1 (rF C 0 0 i) (rF C 0 0 i) (rF C 1 0 j) (v + 1) (by omega) (by omega)
    rw [o1, ← rc]
    refine ⟨⟨by omega, by omega⟩, ⟨by omega, by omega⟩, ⟨by omega, by omega⟩, fun M19 e19 => ?_⟩
    subst e19
    refine ⟨5000 + (20 - (v + 1)), by omega, v + 1, rfl, rfl, by omega, by omega, by omega, rfl, hF.set rfl, hB1.set (by omega) (by omega), hT1.to (fun c => mset_ne (by omega)) (fun _ _ _ _ z => z), fun u' v' g1 g2 g3 g4 g5 => ?_⟩
    rw [mset_i]
    by_cases c : (u' - rF C 0 0 i) * 13 + (v' - rF C 1 0 j) = v + 1 - rF C 1 0 j
    · rw [if_pos c]
      have c1 : u' = rF C 0 0 i := by omega
      have c2 : v' = v + 1 := by omega
      rw [c1, c2]
    · rw [if_neg c]
      refine hO u' v' g1 g2 g3 g4 ?_
      rcases g5 with g5 | g5
      · exact Or.inl g5
      · refine Or.inr ⟨g5.1, ?_⟩
        have := g5.1
        subst this
        omega
  · intro n x5 x6 x7 M1 ⟨X, e5, e6, e7, h1, h2, hn, hF, hB1, hT1, hO⟩
    subst e5; subst e6; subst e7; subst hn
    unfold wph_X2_solveForests_144
    refine ⟨⟨by omega, by omega⟩, ⟨by omega, by omega⟩, fun h => K M1 hF hB1 (hT1.to (fun _ => rfl) (fun x y hx hy z => ?_)), fun h => ⟨(20 - X) * 40 - 1 - rF C 1 0 j, by omega, X, rF C 1 0 j, rfl, rfl, rfl, rfl, by omega, by omega, Nat.le_refl _, by omega, rfl, hF, hB1, hT1.to (fun _ => rfl) (fun x y hx hy z => ?_), hO.to (fun u v g1 g2 g3 g4 g5 => by omega)⟩⟩
    · obtain ⟨i', j', z1, z2, z3, z4, z5, z6, z7, z8, z9⟩ := z
      by_cases c : i' = i ∧ j' = j
      · obtain ⟨c1, c2⟩ := c
        subst c1; subst c2
        exact Or.inr ⟨z5.symm, z6.symm, z4, by omega⟩
      · exact Or.inl ⟨i', j', z1, z2, z3, z4, z5, z6, z7, z8, by omega⟩
    · rcases z with z | ⟨z1, z2, z3, z4⟩
      · exact Or.inl z
      · have := (rF_sz (b := 0) hW (t := 1) (by omega) hy).1
        exact Or.inr ⟨z1, z2, z3, by omega⟩
  · intro n x5 x6 x7 x8 M1 ⟨X, Y, e5, e6, e7, e8, h1, h2, h3, h4, hn, hF, hB1, hT1, hO⟩
    subst e5; subst e6; subst e7; subst e8; subst hn
    unfold wph_X2_solveForests_154
    refine ⟨⟨by omega, by omega⟩, ⟨by omega, by omega⟩, fun h => ⟨(20 - (X + 1)) * 40, by omega, X + 1, rfl, rfl, by omega, by omega, by omega, rfl, hF, hB1, hT1.to (fun _ => rfl) (fun x y hx hy z => by
      rcases z with z | ⟨z1, z2, z3, z4⟩
      · exact Or.inl z
      · exact Or.inr ⟨z1, z2, z3, by omega⟩), hO.to (fun u v g1 g2 g3 g4 g5 => by omega)⟩, fun h => ?_⟩
    have L1 := hL.fr hF
    have nx := rF_nest (b := 0) hW (t := 0) (q := X) (by omega) hi h1 h2
    have ny := rF_nest (b := 0) hW (t := 1) (q := Y) (by omega) hj h3 (by omega)
    have sx := (rF_sz (b := 0) hW (t := 0) (p := X) (by omega) (by omega)).1
    have sy := (rF_sz (b := 0) hW (t := 1) (p := Y) (by omega) (by omega)).1
    refine sp_solveCell hW hq L1 hB1 rfl rfl rfl rfl h1 h3 (by omega) (by omega) nx ny ?_ ?_ ?_ ?_ ?_ (fun M' F' B' r1 r2 r3 r4 r5 => ?_)
    · exact hO X (Y + 1) h1 (by omega) (by omega) (by omega) (Or.inr (Or.inl (Nat.le_refl _)))
    · exact hO (X + 1) Y (by omega) (by omega) h3 (by omega) (Or.inr (Or.inr ⟨rfl, Nat.le_refl _⟩))
    · exact hO X Y h1 (by omega) h3 (by omega) (Or.inr (Or.inl (Nat.le_refl _)))
    · exact hO (rF C 0 0 X) (rF C 1 0 Y) nx (by omega) ny (by omega) (Or.inr (Or.inl (by omega)))
    · intro hne
      exact hT1 X Y (by omega) (by omega) (Or.inl (PT_in hW hi hj ki kj h1 h2 h3 (by omega) hne))
    · refine ⟨(20 - X) * 40 - 1 - (Y + 1), by omega, X, Y + 1, rfl, rfl, rfl, by omega, h1, h2, by omega, by omega, rfl, hF.tr F', B', fun x y hx hy z => ?_, fun u v g1 g2 g3 g4 g5 => ?_⟩
      · by_cases c : rF C 0 0 X = rF C 0 0 i ∧ rF C 1 0 Y = rF C 1 0 j
        · by_cases d : x * 12 + y = X * 12 + Y
          · have d1 : x = X := by omega
            have d2 : y = Y := by omega
            subst d1; subst d2
            rw [r3 c.1 c.2, c.1, c.2]
          · rw [r4 _ d]
            refine hT1 x y hx hy ?_
            rcases z with z | ⟨z1, z2, z3, z4⟩
            · exact Or.inl z
            · refine Or.inr ⟨z1, z2, z3, ?_⟩
              rcases z4 with z4 | z4
              · exact Or.inl z4
              · refine Or.inr ⟨z4.1, ?_⟩
                have := z4.1
                subst this
                omega
        · rw [r5 c]
          refine hT1 x y hx hy ?_
          rcases z with z | ⟨z1, z2, z3, z4⟩
          · exact Or.inl z
          · refine Or.inr ⟨z1, z2, z3, ?_⟩
            rcases z4 with z4 | z4
            · exact Or.inl z4
            · refine Or.inr ⟨z4.1, Decidable.byContradiction (fun w => c ?_)⟩
              have e2 : y = Y := by omega
              rw [← z4.1, ← e2]
              exact ⟨z1, z2⟩
      · by_cases c : (u - rF C 0 0 i) * 13 + (v - rF C 1 0 j) = (X + 1 - rF C 0 0 i) * 13 + (Y + 1 - rF C 1 0 j)
        · have c1 : u = X + 1 := by omega
          have c2 : v = Y + 1 := by omega
          subst c1; subst c2
          exact r1
        · rw [r2 _ c]
          refine hO u v g1 g2 g3 g4 ?_
          rcases g5 with g5 | g5 | g5
          · exact Or.inl g5
          · exact Or.inr (Or.inl g5)
          · refine Or.inr (Or.inr ⟨g5.1, ?_⟩)
            have := g5.1
            subst this
            omega
theorem PT_all (hW : WF C) {x y : Nat} (hx : x < cn C 0) (hy : y < cn C 1) : PT C (cn C 0) 0 x y := by
  obtain ⟨a, a1, a2, a3, a4⟩ := key_ex hW (t := 0) (by omega) _ x (Nat.le_refl _) hx
  obtain ⟨b, b1, b2, b3, b4⟩ := key_ex hW (t := 1) (by omega) _ y (Nat.le_refl _) hy
  exact ⟨a, b, a4, b4, a1, b1, a3, b3, a2, b2, Or.inl a2⟩
set_option maxHeartbeats 4000000 in
theorem sp_solve {M : Mem} {Q : Mem → Prop} (hW : WF C) (hq : QBd C pr) (hL : LayQ C pr M) (hB : Bd M)
    (K : ∀ M' : Mem, Fr P3 M M' → Bd M' → OT C pr M' (fun _ _ => True) → Q M') : wp_X2_solve M Q := by
  have n0 := hW.n12 (t := 0) (by omega)
  have n1 := hW.n12 (t := 1) (by omega)
  unfold wp_X2_solve
  refine ⟨fun n x3 M1 => ∃ i : Nat, x3 = i ∧ i ≤ cn C 0 ∧ n = (20 - i) * 40 ∧ Fr P3 M M1 ∧ Bd M1 ∧ OT C pr M1 (PT C i 0),
    fun n x3 x4 M1 => ∃ i j : Nat, x3 = i ∧ x4 = j ∧ i < cn C 0 ∧ j ≤ cn C 1 ∧ n = (20 - i) * 40 - 1 - j ∧ Fr P3 M M1 ∧ Bd M1 ∧ OT C pr M1 (PT C i j), ?_, ?_, ?_⟩
  · unfold wpe_X2_solve
    refine ⟨_, 0, rfl, Nat.zero_le _, rfl, Fr.rf, hB, fun x y hx hy z => ?_⟩
    obtain ⟨i', j', z1, z2, z3, z4, z5, z6, z7, z8, z9⟩ := z
    omega
  · intro n x3 M1 ⟨i, e3, hi, hn, hF, hB1, hT⟩
    subst e3; subst hn
    have L1 := hL.fr hF
    unfold wph_X2_solve_18
    rw [L1.1.1]
    refine ⟨⟨by omega, by omega⟩, ⟨by omega, by omega⟩, fun h => K M1 hF hB1 (fun x y hx hy _ => hT x y hx hy (by
      rw [show i = cn C 0 from by omega]
      exact PT_all hW hx hy)), fun h => ⟨(20 - i) * 40 - 1 - 0, by omega, i, 0, rfl, rfl, by omega, Nat.zero_le _, rfl, hF, hB1, hT⟩⟩
  · intro n x3 x4 M1 ⟨i, j, e3, e4, hi, hj, hn, hF, hB1, hT⟩
    subst e3; subst e4; subst hn
    have L1 := hL.fr hF
    have go : ∀ M2 : Mem, Fr P3 M1 M2 → Bd M2 → j < cn C 1 → OT C pr M2 (PT C i (j + 1)) → wpj_X2_solve_64 (i : Int) (j : Int) M2 (fun (x3 : Int) (M1 : Mem) => ∃ n1 : Nat, n1 < (20 - i) * 40 - 1 - j ∧ ∃ i : Nat, x3 = i ∧ i ≤ cn C 0 ∧ n1 = (20 - i) * 40 ∧ Fr P3 M M1 ∧ Bd M1 ∧ OT C pr M1 (PT C i 0)) (fun (x3 x4 : Int) (M1 : Mem) => ∃ n1 : Nat, n1 < (20 - i) * 40 - 1 - j ∧ ∃ i j : Nat, x3 = i ∧ x4 = j ∧ i < cn C 0 ∧ j ≤ cn C 1 ∧ n1 = (20 - i) * 40 - 1 - j ∧ Fr P3 M M1 ∧ Bd M1 ∧ OT C pr M1 (PT C i j)) Q := by
      intro M2 F2 B2 hj2 T2
      unfold wpj_X2_solve_64
      exact ⟨(20 - i) * 40 - 1 - (j + 1), by omega, i, j + 1, rfl, by omega, hi, by omega, rfl, hF.tr F2, B2, T2⟩
    have skip : ¬ (keyP C 0 i ∧ keyP C 1 j) → OT C pr M1 (PT C i (j + 1)) := fun hk => hT.to (fun _ => rfl) (fun x y hx hy z => by
      obtain ⟨i', j', z1, z2, z3, z4, z5, z6, z7, z8, z9⟩ := z
      by_cases c : i' = i ∧ j' = j
      · obtain ⟨c1, c2⟩ := c
        subst c1; subst c2
        exact absurd ⟨z1, z2⟩ hk
      · exact ⟨i', j', z1, z2, z3, z4, z5, z6, z7, z8, by omega⟩)
    unfold wph_X2_solve_29
    rw [L1.2.1.1]
    refine ⟨⟨by omega, by omega⟩, ⟨by omega, by omega⟩, fun h => ⟨(20 - (i + 1)) * 40, by omega, i + 1, by omega, by omega, rfl, hF, hB1, hT.to (fun _ => rfl) (fun x y hx hy z => ?_)⟩, fun h => ?_⟩
    · obtain ⟨i', j', z1, z2, z3, z4, z5, z6, z7, z8, z9⟩ := z
      exact ⟨i', j', z1, z2, z3, z4, z5, z6, z7, z8, by omega⟩
    · have r1 := (L1.1.2.1 i hi).2.2.1
      have r2 := (L1.2.1.2.1 j (by omega)).2.2.1
      have b1 := hB1.r 9 2 i
      have b2 := hB1.r 10 2 j
      simp only [Int.toNat_natCast]
      refine ⟨⟨by omega, by omega⟩, b1, fun h2 => go M1 Fr.rf hB1 (by omega) (skip (fun z => ?_)), fun h2 => ⟨⟨by omega, by omega⟩, b2, fun h3 => go M1 Fr.rf hB1 (by omega) (skip (fun z => ?_)), fun h3 => ?_⟩⟩
      · rw [r1, if_pos (c := pl C 0 0 i = 0 ∨ cL C 0 (pl C 0 0 i) ≤ cL C 0 (pl C 0 0 i - 1)) z.1] at h2
        cases h2
      · rw [r2, if_pos (c := pl C 1 0 j = 0 ∨ cL C 1 (pl C 1 0 j) ≤ cL C 1 (pl C 1 0 j - 1)) z.2] at h3
        cases h3
      · have k1 : keyP C 0 i := Decidable.byContradiction (p := pl C 0 0 i = 0 ∨ cL C 0 (pl C 0 0 i) ≤ cL C 0 (pl C 0 0 i - 1)) (fun z => h2 (by rw [r1, if_neg z]))
        have k2 : keyP C 1 j := Decidable.byContradiction (p := pl C 1 0 j = 0 ∨ cL C 1 (pl C 1 0 j) ≤ cL C 1 (pl C 1 0 j - 1)) (fun z => h3 (by rw [r2, if_neg z]))
        exact sp_solveForests hW hq L1 hB1 hT rfl rfl hi (by omega) k1 k2 (fun M2 F2 B2 T2 => go M2 F2 B2 (by omega) T2)
theorem sp_between {M : Mem} {Q : Int → Mem → Prop} {p q : Nat} {p0 p1 : Int} (e0 : p0 = p) (e1 : p1 = q) (hp : p < 12) (hq : q < 12) (K : Q (M 3 1 (p * 12 + q)) M) : wp_X2_between M p0 p1 Q := by
  subst e0; subst e1
  unfold wp_X2_between wpe_X2_between
  rw [show ((p : Int) * 12 + (q : Int)).toNat = p * 12 + q from by omega]
  exact ⟨⟨by omega, by omega⟩, K⟩
theorem sp_withoutPairs {M : Mem} {Q : Int → Mem → Prop} {b : Nat} (hW : WF C) (h1 : RowP C M 9 0 b) (h2 : RowP C M 10 1 b) (K : Q (sm (fn C 0 b) 0 (cn C 0) + sm (fn C 1 b) 0 (cn C 1)) M) : wp_X3_withoutPairs M Q := by
  have n0 := hW.n12 (t := 0) (by omega)
  have n1 := hW.n12 (t := 1) (by omega)
  unfold wp_X3_withoutPairs wpe_X3_withoutPairs
  refine sp_allAlone (u := 0) rfl h1.1 (by omega) (by omega) (sp_allAlone (u := 0) rfl h2.1 (by omega) (by omega) ?_)
  rw [h1.2.2 _ (Nat.le_refl _), h1.2.2 0 (Nat.zero_le _), h2.2.2 _ (Nat.le_refl _), h2.2.2 0 (Nat.zero_le _), sm_self (fn C 0 b) (Nat.le_refl 0), sm_self (fn C 1 b) (Nat.le_refl 0)]
  rw [show sm (fn C 0 b) 0 (cn C 0) - 0 + (sm (fn C 1 b) 0 (cn C 1) - 0) = sm (fn C 0 b) 0 (cn C 0) + sm (fn C 1 b) 0 (cn C 1) from by omega]
  exact K
theorem eN_root {L : Nat → Nat} {n : Nat} (h : WL L n) (hn : 0 < n) : eN L n 0 = n := by
  have a := eN_le (L := L) hn
  refine Decidable.byContradiction (fun c => ?_)
  have b := eN_at (L := L) hn (by omega)
  have g := eN_gt (L := L) hn
  have z := h.1 hn
  have w := (h.2 (eN L n 0 - 1) (by omega)).1
  rw [show eN L n 0 - 1 + 1 = eN L n 0 from by omega] at w
  omega
theorem pl_root (hW : WF C) {t : Nat} (ht : t < 2) (hn : 0 < cn C t) : pl C t 0 (cn C t - 1) = 0 ∧ rF C t 0 (cn C t - 1) = 0 := by
  have a := po_add (hW.wl ht) hn
  have z := (hW.wl ht).1 hn
  have e := eN_root (hW.wl ht) hn
  have p := po_pl hW ht hn
  rw [show po (cL C t) (cn C t) 0 = cn C t - 1 from by omega] at p
  refine ⟨p, ?_⟩
  have f := rF_0 hW ht (p := cn C t - 1) (by omega)
  rw [p] at f
  omega
theorem sp_wholeD {M : Mem} {Q : Int → Mem → Prop} (hW : WF C) (hL : LayQ C pr M) (hT : OT C pr M (fun _ _ => True)) (K : Q (RQ C pr 0 (cn C 0) 0 (cn C 1)) M) : wp_X2_whole M Q := by
  have n0 := hW.n12 (t := 0) (by omega)
  have n1 := hW.n12 (t := 1) (by omega)
  have J26 : cn C 0 = 0 ∨ cn C 1 = 0 → wpj_X2_whole_26 M Q := by
    intro hz
    unfold wpj_X2_whole_26
    refine sp_withoutPairs hW hL.1 hL.2.1 ?_
    have e : RQ C pr 0 (cn C 0) 0 (cn C 1) = sm (fn C 0 0) 0 (cn C 0) + sm (fn C 1 0) 0 (cn C 1) := by
      unfold RQ
      rcases hz with hz | hz
      · rw [hz, rr_nil (b := 0) (Nat.le_refl _), dd_rrr, sm_self _ (Nat.le_refl _)]
        change sm (fn C 1 0) 0 (cn C 1) = _
        omega
      · rw [hz, rr_nil (b := 0) (Nat.le_refl _), dd_rl, sm_self (fn C 1 0) (Nat.le_refl _)]
        change sm (fn C 0 0) 0 (cn C 0) = _
        omega
    rw [← e]
    exact K
  unfold wp_X2_whole wpe_X2_whole
  rw [hL.1.1, hL.2.1.1]
  refine ⟨⟨by omega, by omega⟩, fun h => J26 (Or.inl (by omega)), fun h => ⟨⟨by omega, by omega⟩, fun h2 => ?_, fun h2 => J26 (Or.inr (by omega))⟩⟩
  refine sp_between (p := cn C 0 - 1) (q := cn C 1 - 1) (by omega) (by omega) (by omega) (by omega) ?_
  rw [hT (cn C 0 - 1) (cn C 1 - 1) (by omega) (by omega) trivial, (pl_root hW (t := 0) (by omega) (by omega)).2, (pl_root hW (t := 1) (by omega) (by omega)).2, show cn C 0 - 1 + 1 = cn C 0 from by omega, show cn C 1 - 1 + 1 = cn C 1 from by omega]
  exact K
end SOLVE
