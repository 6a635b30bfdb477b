/-! distances by keyroots, over rows in postorder, for any prices of pairs -/
def crq (C : Nat → Nat → Int) (pr : Nat → Nat → Int) : CP := ccF (rF C 0 0) (rF C 1 0) (fn C 0 0) (fn C 1 0) pr
def RQ (C : Nat → Nat → Int) (pr : Nat → Nat → Int) (i j k l : Nat) : Int := dd (crq C pr) (rr i j) (rr k l)
def LayQ (C : Nat → Nat → Int) (pr : Nat → Nat → Int) (M : Mem) : Prop := RowP C M 9 0 0 ∧ RowP C M 10 1 0 ∧ ∀ p q : Nat, p < cn C 0 → q < cn C 1 → M 2 3 (p * 12 + q) = pr p q
def QBd (C : Nat → Nat → Int) (pr : Nat → Nat → Int) : Prop := (∀ i j k l : Nat, j ≤ cn C 0 → l ≤ cn C 1 → -1000000 ≤ RQ C pr i j k l ∧ RQ C pr i j k l ≤ 1200) ∧ ∀ p q : Nat, p < cn C 0 → q < cn C 1 → -1000000 ≤ pr p q ∧ pr p q ≤ 1000000
def keyP (C : Nat → Nat → Int) (t p : Nat) : Prop := pl C t 0 p = 0 ∨ cL C t (pl C t 0 p) ≤ cL C t (pl C t 0 p - 1)
theorem key_ex {C : Nat → Nat → Int} (hW : WF C) {t : Nat} (ht : t < 2) : ∀ (d x : Nat), cn C t - x ≤ d → x < cn C t → ∃ z : Nat, x ≤ z ∧ z < cn C t ∧ rF C t 0 z = rF C t 0 x ∧ keyP C t z := by
  intro d
  induction d with
  | zero => intro x h1 h2; omega
  | succ d ih =>
    intro x h1 h2
    by_cases c : pl C t 0 x = 0 ∨ cL C t (pl C t 0 x) ≤ cL C t (pl C t 0 x - 1)
    · exact ⟨x, Nat.le_refl _, h2, rfl, c⟩
    · have W := hW.wl ht
      have lx := pl_lt (b := 0) hW ht h2
      have k := (par_key W (p := pl C t 0 x) (by omega) lx).mpr (by omega)
      have q := par_spec W (p := pl C t 0 x) (by omega) lx
      have li := par_in W (p := pl C t 0 x) (by omega) lx
      have lq : par (cL C t) (pl C t 0 x) < cn C t := by omega
      have up := po_anc W lq q.1 li
      rw [pl_po hW ht h2] at up
      have hy := po_lt W lq
      have fy := rF_0 hW ht hy
      rw [po_pl hW ht lq] at fy
      have fx := rF_0 hW ht h2
      obtain ⟨z, z1, z2, z3, z4⟩ := ih (po (cL C t) (cn C t) (par (cL C t) (pl C t 0 x))) (by omega) hy
      exact ⟨z, by omega, z2, by omega, z4⟩
theorem rr_app {a b c : Nat} (h1 : a ≤ b) (h2 : b ≤ c) : rr a c = rr b c ++ rr a b := by
  unfold rr
  rw [rg_app h1 h2, List.reverse_append]
section KEY
variable {C : Nat → Nat → Int} {pr : Nat → Nat → Int}
theorem RQ_rec (hW : WF C) {i j k l : Nat} (h1 : i ≤ j) (h2 : k ≤ l) (hj : j < cn C 0) (hl : l < cn C 1) (o1 : i ≤ rF C 0 0 j) (o2 : k ≤ rF C 1 0 l) : RQ C pr i (j + 1) k (l + 1) = min (min (fn C 0 0 j + RQ C pr i j k (l + 1)) (fn C 1 0 l + RQ C pr i (j + 1) k l)) (pr j l + RQ C pr (rF C 0 0 j) j (rF C 1 0 l) l + RQ C pr i (rF C 0 0 j) k (rF C 1 0 l)) :=
  F_cc (f := rF C 0 0) (g := rF C 1 0) (dl := fn C 0 0) (il := fn C 1 0) (pr := pr) (a := i) (b := j + 1) (c := k) (d := l + 1) (by omega) (by omega) o1 (rF_sz hW (by omega) hj).1 o2 (rF_sz hW (by omega) hl).1
theorem RQ_0 {i k : Nat} : RQ C pr i i k k = 0 := by
  unfold RQ
  rw [rr_nil (Nat.le_refl _), rr_nil (Nat.le_refl _), dd_nn]
/-- the tree's distance stands for the pair of its roots -/
theorem RQ_tree (hW : WF C) {i j k l : Nat} (h1 : i ≤ j) (h2 : k ≤ l) (hj : j < cn C 0) (hl : l < cn C 1) (o1 : i ≤ rF C 0 0 j) (o2 : k ≤ rF C 1 0 l) : RQ C pr i (j + 1) k (l + 1) = min (min (fn C 0 0 j + RQ C pr i j k (l + 1)) (fn C 1 0 l + RQ C pr i (j + 1) k l)) (RQ C pr (rF C 0 0 j) (j + 1) (rF C 1 0 l) (l + 1) + RQ C pr i (rF C 0 0 j) k (rF C 1 0 l)) := by
  have f1 := rF_sz (b := 0) hW (t := 0) (by omega) hj
  have f2 := rF_sz (b := 0) hW (t := 1) (by omega) hl
  have r := RQ_rec (pr := pr) hW h1 h2 hj hl o1 o2
  have tr := RQ_rec (pr := pr) hW f1.1 f2.1 hj hl (Nat.le_refl _) (Nat.le_refl _)
  rw [RQ_0] at tr
  have cat : RQ C pr i (j + 1) k (l + 1) ≤ RQ C pr (rF C 0 0 j) (j + 1) (rF C 1 0 l) (l + 1) + RQ C pr i (rF C 0 0 j) k (rF C 1 0 l) := by
    unfold RQ
    rw [rr_app (a := i) (b := rF C 0 0 j) (c := j + 1) o1 (by omega), rr_app (a := k) (b := rF C 1 0 l) (c := l + 1) o2 (by omega)]
    refine dd_cat _ _ _ _ _ (fun a ha b hb => ?_) (fun a ha b hb => ?_)
    · have a1 := mem_rr.mp ha
      have b1 := mem_rr.mp hb
      have n := rF_nest (b := 0) hW (t := 0) (by omega) hj a1.1 (by omega)
      change decide (rF C 0 0 a ≤ b ∧ b < a) = false
      exact decide_eq_false (by omega)
    · have a1 := mem_rr.mp ha
      have b1 := mem_rr.mp hb
      have n := rF_nest (b := 0) hW (t := 1) (by omega) hl a1.1 (by omega)
      change decide (rF C 1 0 a ≤ b ∧ b < a) = false
      exact decide_eq_false (by omega)
  omega
def P3 (o k : Nat) : Bool := o == 3 && (k == 1 || k == 2)
theorem LayQ.fr {M M' : Mem} (h : LayQ C pr M) (hF : Fr P3 M M') : LayQ C pr M' := ⟨h.1.fr hF rfl rfl rfl rfl rfl rfl, h.2.1.fr hF rfl rfl rfl rfl rfl rfl, fun p q hp hq => by rw [hF 2 3 _ rfl]; exact h.2.2 p q hp hq⟩
set_option maxHeartbeats 4000000 in
theorem sp_solveCell {M : Mem} {Q : Mem → Prop} {i k x y : Nat} {p0 p1 p2 p3 : Int} (hW : WF C) (hq : QBd C pr) (hL : LayQ C pr M) (hB : Bd M) (e0 : p0 = i) (e1 : p1 = k) (e2 : p2 = x) (e3 : p3 = y) (h1 : i ≤ x) (h2 : k ≤ y) (hx : x < cn C 0) (hy : y < cn C 1) (o1 : i ≤ rF C 0 0 x) (o2 : k ≤ rF C 1 0 y)
    (c1 : M 3 2 ((x - i) * 13 + (y + 1 - k)) = RQ C pr i x k (y + 1)) (c2 : M 3 2 ((x + 1 - i) * 13 + (y - k)) = RQ C pr i (x + 1) k y) (c3 : M 3 2 ((x - i) * 13 + (y - k)) = RQ C pr i x k y) (c4 : M 3 2 ((rF C 0 0 x - i) * 13 + (rF C 1 0 y - k)) = RQ C pr i (rF C 0 0 x) k (rF C 1 0 y)) (c5 : ¬ (rF C 0 0 x = i ∧ rF C 1 0 y = k) → M 3 1 (x * 12 + y) = RQ C pr (rF C 0 0 x) (x + 1) (rF C 1 0 y) (y + 1))
    (K : ∀ M' : Mem, Fr P3 M M' → Bd M' → M' 3 2 ((x + 1 - i) * 13 + (y + 1 - k)) = RQ C pr i (x + 1) k (y + 1) → (∀ c : Nat, c ≠ (x + 1 - i) * 13 + (y + 1 - k) → M' 3 2 c = M 3 2 c) → (rF C 0 0 x = i → rF C 1 0 y = k → M' 3 1 (x * 12 + y) = RQ C pr i (x + 1) k (y + 1)) → (∀ c : Nat, c ≠ x * 12 + y → M' 3 1 c = M 3 1 c) → (¬ (rF C 0 0 x = i ∧ rF C 1 0 y = k) → ∀ c : Nat, M' 3 1 c = M 3 1 c) → Q M') : wp_X2_solveCell M p0 p1 p2 p3 Q := by
  subst e0; subst e1; subst e2; subst e3
  have n0 := hW.n12 (t := 0) (by omega)
  have n1 := hW.n12 (t := 1) (by omega)
  have f1 := rF_sz (b := 0) hW (t := 0) (by omega) hx
  have f2 := rF_sz (b := 0) hW (t := 1) (by omega) hy
  have r := RQ_rec (pr := pr) hW h1 h2 hx hy o1 o2
  have rt := RQ_tree (pr := pr) hW h1 h2 hx hy o1 o2
  have q1 := hq.1 i x k (y + 1) (by omega) (by omega)
  have q2 := hq.1 i (x + 1) k y (by omega) (by omega)
  have q3 := hq.1 i x k y (by omega) (by omega)
  have q4 := hq.1 i (rF C 0 0 x) k (rF C 1 0 y) (by omega) (by omega)
  have q5 := hq.1 (rF C 0 0 x) (x + 1) (rF C 1 0 y) (y + 1) (by omega) (by omega)
  have q6 := hq.1 i (x + 1) k (y + 1) (by omega) (by omega)
  have q7 := hq.2 x y hx hy
  have a1 := hW.alb (t := 0) (p := pl C 0 0 x) (by omega) (pl_lt hW (by omega) hx)
  have a2 := hW.alb (t := 1) (p := pl C 1 0 y) (by omega) (pl_lt hW (by omega) hy)
  change 0 ≤ fn C 0 0 x ∧ fn C 0 0 x ≤ 50 at a1
  change 0 ≤ fn C 1 0 y ∧ fn C 1 0 y ≤ 50 at a2
  have R1 := hL.1.2.1 x hx
  have R2 := hL.2.1.2.1 y hy
  unfold wp_X2_solveCell wpe_X2_solveCell
  intro y1 ey1 y2 ey2
  have z1 : y1 = (((x + 1 - i) * 13 + (y + 1 - k) : Nat) : Int) := by omega
  have z2 : y2 = ((x * 12 + y : Nat) : Int) := by omega
  clear ey1 ey2
  subst z1; subst z2
  have J197 : ∀ (M5 : Mem) (x9 : Int), Fr P3 M M5 → Bd M5 → (∀ c : Nat, M5 3 2 c = M 3 2 c) → (rF C 0 0 x = i → rF C 1 0 y = k → M5 3 1 (x * 12 + y) = RQ C pr i (x + 1) k (y + 1)) → (∀ c : Nat, c ≠ x * 12 + y → M5 3 1 c = M 3 1 c) → (¬ (rF C 0 0 x = i ∧ rF C 1 0 y = k) → ∀ c : Nat, M5 3 1 c = M 3 1 c) → x9 = RQ C pr i (x + 1) k (y + 1) → wpj_X2_solveCell_197 (i : Int) (k : Int) (x : Int) (y : Int) (((x + 1 - i) * 13 + (y + 1 - k) : Nat) : Int) x9 M5 Q := by
    intro M5 x9 F5 B5 E2 E1 E3 E4 ex
    subst ex
    unfold wpj_X2_solveCell_197
    rw [Int.toNat_natCast]
    refine ⟨⟨by omega, by omega⟩, fun M33 e33 => ?_⟩
    subst e33
    refine K _ (F5.set rfl) (B5.set (by omega) (by omega)) mset_eq (fun c hc => ?_) (fun g1 g2 => ?_) (fun c hc => ?_) (fun g c => ?_)
    · rw [mset_ne (by omega)]
      exact E2 c
    · rw [mset_ne (by omega)]
      exact E1 g1 g2
    · rw [mset_ne (by omega)]
      exact E3 c hc
    · rw [mset_ne (by omega)]
      exact E4 g c
  have J150 : ∀ x9 : Int, ¬ (rF C 0 0 x = i ∧ rF C 1 0 y = k) → x9 = min (RQ C pr i x k (y + 1) + fn C 0 0 x) (RQ C pr i (x + 1) k y + fn C 1 0 y) → wpj_X2_solveCell_150 (i : Int) (k : Int) (x : Int) (y : Int) (((x + 1 - i) * 13 + (y + 1 - k) : Nat) : Int) ((x * 12 + y : Nat) : Int) x9 M Q := by
    intro x9 hne ex
    unfold wpj_X2_solveCell_150
    rw [Int.toNat_natCast, Int.toNat_natCast, R1.2.1, R2.2.1, Int.toNat_natCast, c5 hne]
    refine ⟨⟨by omega, by omega⟩, ⟨by omega, by omega⟩, fun y27 e27 => ?_⟩
    have z27 : y27 = (((rF C 0 0 x - i) * 13 + (rF C 1 0 y - k) : Nat) : Int) := by omega
    clear e27
    subst z27
    rw [Int.toNat_natCast, c4]
    refine ⟨⟨by omega, by omega⟩, ⟨by omega, by omega⟩, ⟨by omega, by omega⟩, ⟨by omega, by omega⟩, fun y32 e32 => ?_⟩
    exact J197 M y32 Fr.rf hB (fun _ => rfl) (fun g1 g2 => absurd ⟨g1, g2⟩ hne) (fun _ _ => rfl) (fun _ _ => rfl) (by omega)
  rw [show ((((x + 1 - i) * 13 + (y + 1 - k) : Nat) : Int) - 13).toNat = (x - i) * 13 + (y + 1 - k) from by omega, show ((((x + 1 - i) * 13 + (y + 1 - k) : Nat) : Int) - 1).toNat = (x + 1 - i) * 13 + (y - k) from by omega, Int.toNat_natCast, Int.toNat_natCast, c1, c2, R1.2.2.2, R2.2.2.2]
  refine ⟨⟨by omega, by omega⟩, ⟨by omega, by omega⟩, ⟨by omega, by omega⟩, ⟨by omega, by omega⟩, ⟨by omega, by omega⟩, ⟨by omega, by omega⟩, fun y9 e9 => ⟨⟨by omega, by omega⟩, ?_⟩⟩
  rw [R1.2.1, R2.2.1]
  refine ⟨⟨by omega, by omega⟩, ⟨by omega, by omega⟩, fun g => J150 y9 (fun z => g (by rw [z.1])) e9, fun g => ⟨⟨by omega, by omega⟩, ⟨by omega, by omega⟩, ⟨by omega, by omega⟩, fun g' => J150 y9 (fun z => g' (by rw [z.2])) e9, fun g' => ?_⟩⟩
  have fe1 : rF C 0 0 x = i := by omega
  have fe2 : rF C 1 0 y = k := by omega
  rw [show ((((x + 1 - i) * 13 + (y + 1 - k) : Nat) : Int) - 13 - 1).toNat = (x - i) * 13 + (y - k) from by omega, c3, Int.toNat_natCast, hL.2.2 x y hx hy]
  refine ⟨⟨by omega, by omega⟩, ⟨by omega, by omega⟩, ⟨by omega, by omega⟩, ⟨by omega, by omega⟩, fun y22 e22 => ⟨⟨by omega, by omega⟩, fun M23 e23 => ?_⟩⟩
  rw [fe1, fe2, RQ_0] at r
  have v : y22 = RQ C pr i (x + 1) k (y + 1) := by omega
  subst v
  subst e23
  refine J197 _ _ (Fr.rf.set rfl) (hB.set (by omega) (by omega)) (fun c => mset_ne (by omega)) (fun _ _ => mset_eq) (fun c hc => mset_ne (by omega)) (fun g => absurd ⟨fe1, fe2⟩ g) rfl
/-- the pairs of subtrees that stand once all pairs of keyroots before i, j are done -/
def PT (C : Nat → Nat → Int) (i j x y : Nat) : Prop := ∃ i' j' : Nat, keyP C 0 i' ∧ keyP C 1 j' ∧ x ≤ i' ∧ y ≤ j' ∧ rF C 0 0 i' = rF C 0 0 x ∧ rF C 1 0 j' = rF C 1 0 y ∧ i' < cn C 0 ∧ j' < cn C 1 ∧ (i' < i ∨ i' = i ∧ j' < j)
def OT (C : Nat → Nat → Int) (pr : Nat → Nat → Int) (M : Mem) (dn : Nat → Nat → Prop) : Prop := ∀ x y : Nat, x < cn C 0 → y < cn C 1 → dn x y → M 3 1 (x * 12 + y) = RQ C pr (rF C 0 0 x) (x + 1) (rF C 1 0 y) (y + 1)
def OF (C : Nat → Nat → Int) (pr : Nat → Nat → Int) (M : Mem) (i j : Nat) (dn : Nat → Nat → Prop) : Prop := ∀ u v : Nat, rF C 0 0 i ≤ u → u ≤ i + 1 → rF C 1 0 j ≤ v → v ≤ j + 1 → dn u v → M 3 2 ((u - rF C 0 0 i) * 13 + (v - rF C 1 0 j)) = RQ C pr (rF C 0 0 i) u (rF C 1 0 j) v
/-- the pairs of subtrees in the forests of two keyroots that are no pair of their left paths stand already -/
theorem PT_in (hW : WF C) {i j x y : Nat} (hi : i < cn C 0) (hj : j < cn C 1) (ki : keyP C 0 i) (kj : keyP C 1 j) (h1 : rF C 0 0 i ≤ x) (h2 : x ≤ i) (h3 : rF C 1 0 j ≤ y) (h4 : y ≤ j) (hne : ¬ (rF C 0 0 x = rF C 0 0 i ∧ rF C 1 0 y = rF C 1 0 j)) : PT C i j x y := by
  have one : ∀ (t i x : Nat), t < 2 → i < cn C t → keyP C t i → rF C t 0 i ≤ x → x ≤ i → ∃ z : Nat, keyP C t z ∧ x ≤ z ∧ rF C t 0 z = rF C t 0 x ∧ z ≤ i ∧ (rF C t 0 x = rF C t 0 i → z = i) ∧ (rF C t 0 x ≠ rF C t 0 i → z < i) := by
    intro t i x ht hi ki h1 h2
    by_cases c : rF C t 0 x = rF C t 0 i
    · exact ⟨i, ki, h2, c.symm, Nat.le_refl _, fun _ => rfl, fun z => absurd c z⟩
    · have ne := rF_nest (b := 0) hW ht hi h1 h2
      obtain ⟨z, z1, z2, z3, z4⟩ := key_ex hW ht _ x (Nat.le_refl _) (by omega)
      have hz : z < i := by
        refine Decidable.byContradiction (fun q => ?_)
        have m := rF_nest (b := 0) hW ht z2 (q := i) (by
          have := (rF_sz (b := 0) hW ht (p := x) (by omega)).1
          omega) (by omega)
        omega
      exact ⟨z, z4, z1, z3, by omega, fun q => absurd q c, fun _ => hz⟩
  obtain ⟨a, a1, a2, a3, a4, a5, a6⟩ := one 0 i x (by omega) hi ki h1 h2
  obtain ⟨b, b1, b2, b3, b4, b5, b6⟩ := one 1 j y (by omega) hj kj h3 h4
  refine ⟨a, b, a1, b1, a2, b2, a3, b3, by omega, by omega, ?_⟩
  by_cases c : rF C 0 0 x = rF C 0 0 i
  · have c2 : rF C 1 0 y ≠ rF C 1 0 j := fun z => hne ⟨c, z⟩
    exact Or.inr ⟨a5 c, b6 c2⟩
  · exact Or.inl (a6 c)
end KEY
