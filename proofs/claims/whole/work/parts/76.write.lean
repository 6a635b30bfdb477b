/-! the class's script; equal subtrees -/
section WRITE
variable {C : Nat → Nat → Int}
def wT (w : Nat) : Nat := if w = 2 then 1 else 0
def StC (C : Nat → Nat → Int) (M : Mem) (L : List (Nat × Nat)) : Prop := M 7 4 0 = (L.length : Int) ∧ ∀ k w p : Nat, L[k]? = some (w, p) → M 7 2 k = w ∧ M 7 3 k = (nd C (wT w) p : Int)
def P7s (o k : Nat) : Bool := o == 7 && (k == 2 || k == 3 || k == 4)
theorem sp_writeStep {M : Mem} {Q : Mem → Prop} {L : List (Nat × Nat)} {p0 p1 : Int} {w p : Nat} (hB : Bd M) (hS : StC C M L) (hl : L.length < 24) (e0 : p0 = w) (e1 : p1 = (nd C (wT w) p : Int)) (hw : w < 3) (hp : nd C (wT w) p < 12) (K : ∀ M' : Mem, Fr P7s M M' → Bd M' → StC C M' (L ++ [(w, p)]) → Q M') : wp_X7_writeStep M p0 p1 Q := by
  subst e0; subst e1
  unfold wp_X7_writeStep wpe_X7_writeStep
  rw [hS.1, Int.toNat_natCast]
  refine ⟨⟨by omega, by omega⟩, fun h => absurd h (by omega), fun h => ⟨⟨by omega, by omega⟩, fun M1 e1 => ?_⟩⟩
  have a1 : M1 7 4 0 = (L.length : Int) := by rw [e1, mset_ne (by omega)]; exact hS.1
  rw [a1, Int.toNat_natCast]
  refine ⟨⟨by omega, by omega⟩, fun M3 e3 M5 e5 => ?_⟩
  have a3 : M3 7 4 0 = (L.length : Int) := by rw [e3, mset_ne (by omega)]; exact a1
  rw [a3] at e5
  refine K M5 ?_ ?_ ⟨?_, fun k w' p' hk => ?_⟩
  · rw [e5, e3, e1]
    exact ((Fr.rf.set rfl).set rfl).set rfl
  · rw [e5, e3, e1]
    exact ((hB.set (by omega) (by omega)).set (by omega) (by omega)).set (by omega) (by omega)
  · rw [e5, mset_eq, List.length_append]
    simp
  · rw [e5, mset_ne (by omega), mset_ne (by omega), e3, mset_ne (by omega), mset_i, e1, mset_i, mset_ne (by omega)]
    by_cases c : k < L.length
    · rw [List.getElem?_append_left c] at hk
      rw [if_neg (by omega), if_neg (by omega)]
      exact hS.2 k w' p' hk
    · rw [List.getElem?_append_right (by omega)] at hk
      by_cases d : k = L.length
      · subst d
        rw [Nat.sub_self] at hk
        injection hk with hk
        injection hk with h1 h2
        subst h1; subst h2
        rw [if_pos rfl, if_pos rfl]
        exact ⟨rfl, rfl⟩
      · rw [List.getElem?_eq_none (by simp; omega)] at hk
        cases hk
theorem PN_iff (hW : WF C) (x : Nat) : PN C x = -1 ↔ pt C x = -1 := by
  unfold PN
  by_cases c : pt C x = -1
  · rw [if_pos c]
    exact ⟨fun _ => c, fun _ => rfl⟩
  · rw [if_neg c]
    exact ⟨fun h => by omega, fun h => absurd h c⟩
def P7w (o k : Nat) : Bool := o == 7 && (k == 2 || k == 3 || k == 4 || k == 5)
theorem P7s_w : ∀ o k : Nat, P7s o k = true → P7w o k = true := fun o k h => by
  simp only [P7s, Bool.and_eq_true, Bool.or_eq_true, beq_iff_eq] at h
  simp only [P7w, Bool.and_eq_true, Bool.or_eq_true, beq_iff_eq]
  omega
theorem P7w_kt : ∀ o k : Nat, kt o k = true → P7w o k = false := fun o k h => by
  simp only [kt, Bool.or_eq_true, beq_iff_eq] at h
  simp only [P7w, Bool.and_eq_false_iff, beq_eq_false_iff_ne]
  omega
theorem MP.fr {P : Nat → Nat → Bool} {M M' : Mem} {x : Nat} (h : MP C M x) (hF : Fr P M M') (h2 : P 6 2 = false) (h3 : P 6 3 = false) (h7 : P 6 7 = false) : MP C M' x := ⟨fun y hy => by rw [hF 6 2 _ h2]; exact h.1 y hy, fun b hb => by rw [hF 6 3 _ h3]; exact h.2.1 b hb, by rw [hF 6 7 0 h7]; exact h.2.2⟩
theorem StC.fr {P : Nat → Nat → Bool} {M M' : Mem} {L : List (Nat × Nat)} (h : StC C M L) (hF : Fr P M M') (h2 : P 7 2 = false) (h3 : P 7 3 = false) (h4 : P 7 4 = false) : StC C M' L := ⟨by rw [hF 7 4 0 h4]; exact h.1, fun k w p hk => by rw [hF 7 2 k h2, hF 7 3 k h3]; exact h.2 k w p hk⟩
set_option maxHeartbeats 4000000 in
theorem sp_write {M : Mem} {Q : Mem → Prop} (hW : WF C) (hX : Cls C M) (hB : Bd M) (hM : MP C M (cn C 0)) (K : ∀ M' : Mem, Fr P7w M M' → Bd M' → StC C M' (SL C) → M' 7 5 0 = (OO C : Int) → Q M') : wp_X7_write M Q := by
  have n0 := hW.n12 (t := 0) (by omega)
  have n1 := hW.n12 (t := 1) (by omega)
  unfold wp_X7_write
  refine ⟨fun n x2 M1 => ∃ k : Nat, x2 = k ∧ k ≤ cn C 0 ∧ n = 200 + (20 - k) ∧ Fr P7w M M1 ∧ Bd M1 ∧ StC C M1 (sD C k),
    fun n x2 M1 => ∃ k : Nat, x2 = k ∧ k ≤ cn C 0 ∧ n = 100 + (20 - k) ∧ Fr P7w M M1 ∧ Bd M1 ∧ StC C M1 (sR C k),
    fun n x2 M1 => ∃ k : Nat, x2 = k ∧ k ≤ cn C 1 ∧ n = 20 - k ∧ Fr P7w M M1 ∧ Bd M1 ∧ StC C M1 (sI C k) ∧ M1 7 5 0 = (OO C : Int), ?_, ?_, ?_, ?_⟩
  · unfold wpe_X7_write
    intro M1 e1
    subst e1
    exact ⟨_, 0, rfl, Nat.zero_le _, rfl, Fr.rf.set rfl, hB.set (by omega) (by omega), mset_eq, fun k w p hk => by cases hk⟩
  · intro n x2 M1 ⟨k, e2, hk, hn, hF, hB1, hT⟩
    subst e2; subst hn
    have X1 := hX.fr hF P7w_kt
    have M1' := hM.fr hF rfl rfl rfl
    unfold wph_X7_write_23
    rw [X1.n (o := 11) (t := 0) rfl (by omega), Int.toNat_natCast]
    refine ⟨⟨by omega, by omega⟩, ⟨by omega, by omega⟩, fun h => ⟨100 + (20 - 0), by omega, 0, rfl, Nat.zero_le _, rfl, hF, hB1, (show sR C 0 = sD C k from by rw [show k = cn C 0 from by omega]; rfl) ▸ hT⟩, fun h => ?_⟩
    have lk := pl_lt (b := 0) hW (t := 0) (p := k) (by omega) (by omega)
    have ln := hW.ndl (t := 0) (by omega) lk
    have sl := sD_le (C := C) k
    have ps := X1.ps (o := 11) (t := 0) rfl (by omega) lk
    rw [pl_po hW (by omega) (by omega)] at ps
    have bb := hB1.r 6 2 (nd C 0 (pl C 0 0 k))
    have m2 := M1'.1 _ lk
    rw [if_pos lk] at m2
    rw [ps, Int.toNat_natCast]
    rw [m2] at bb ⊢
    unfold wpj_X7_write_60
    refine ⟨⟨by omega, by omega⟩, ⟨by omega, by omega⟩, bb, fun h2 => ⟨200 + (20 - (k + 1)), by omega, k + 1, by omega, by omega, rfl, hF, hB1, ?_⟩, fun h2 => ⟨⟨by omega, by omega⟩, sp_writeStep hB1 hT (by omega) (w := 0) rfl rfl (by omega) (show nd C 0 (pl C 0 0 k) < 12 from by omega) (fun M2 F2 B2 T2 => ⟨200 + (20 - (k + 1)), by omega, k + 1, by omega, by omega, rfl, hF.tr (F2.mono P7s_w), B2, ?_⟩)⟩⟩
    · unfold sD
      rw [if_neg (fun z => h2 ((PN_iff hW _).mpr z))]
      exact hT
    · unfold sD
      rw [if_pos ((PN_iff hW _).mp (Decidable.byContradiction h2))]
      exact T2
  · intro n x2 M1 ⟨k, e2, hk, hn, hF, hB1, hT⟩
    subst e2; subst hn
    have X1 := hX.fr hF P7w_kt
    have M1' := hM.fr hF rfl rfl rfl
    unfold wph_X7_write_68
    rw [X1.n (o := 11) (t := 0) rfl (by omega), Int.toNat_natCast]
    refine ⟨⟨by omega, by omega⟩, ⟨by omega, by omega⟩, fun h M15 e15 => ?_, fun h => ?_⟩
    · have ek : k = cn C 0 := by omega
      subst ek
      have s := sR_all hW
      rw [hT.1] at e15
      have f : Fr (fun o k => o == 7 && k == 5) M1 M15 := e15 ▸ Fr.rf.set rfl
      unfold OO at s
      exact ⟨20 - 0, by omega, 0, rfl, Nat.zero_le _, rfl, e15 ▸ hF.set rfl, e15 ▸ hB1.set (by omega) (by omega), hT.fr f rfl rfl rfl, by rw [e15, mset_eq]; rfl⟩
    · have lk : k < cn C 0 := by omega
      have ln := hW.ndl (t := 0) (by omega) lk
      have sl := sR_le (C := C) k
      have m2 := M1'.1 _ lk
      rw [if_pos lk] at m2
      rw [X1.pre (o := 11) (t := 0) rfl (by omega) lk, Int.toNat_natCast, m2]
      have no : ¬ (rlP C k = true) → wpj_X7_write_130 (k : Int) M1 (fun (x2 : Int) (M2 : Mem) => ∃ n1 : Nat, n1 < 100 + (20 - k) ∧ ∃ k : Nat, x2 = k ∧ k ≤ cn C 0 ∧ n1 = 200 + (20 - k) ∧ Fr P7w M M2 ∧ Bd M2 ∧ StC C M2 (sD C k)) (fun (x2 : Int) (M2 : Mem) => ∃ n1 : Nat, n1 < 100 + (20 - k) ∧ ∃ k : Nat, x2 = k ∧ k ≤ cn C 0 ∧ n1 = 100 + (20 - k) ∧ Fr P7w M M2 ∧ Bd M2 ∧ StC C M2 (sR C k)) (fun (x2 : Int) (M2 : Mem) => ∃ n1 : Nat, n1 < 100 + (20 - k) ∧ ∃ k : Nat, x2 = k ∧ k ≤ cn C 1 ∧ n1 = 20 - k ∧ Fr P7w M M2 ∧ Bd M2 ∧ StC C M2 (sI C k) ∧ M2 7 5 0 = (OO C : Int)) Q := by
        intro hr
        unfold wpj_X7_write_130
        refine ⟨100 + (20 - (k + 1)), by omega, k + 1, by omega, by omega, rfl, hF, hB1, ?_⟩
        unfold sR
        rw [if_neg hr]
        exact hT
      refine ⟨⟨by omega, by omega⟩, ⟨by omega, by omega⟩, fun y18 e18 => ?_⟩
      rcases pt_rg hW k with r | ⟨b, r, b1, b2⟩
      · have v : y18 = -1 := by rw [e18]; exact (PN_iff hW k).mpr r
        subst v
        refine ⟨⟨by decide, by decide⟩, fun _ => no ?_, fun h2 => absurd rfl h2⟩
        unfold rlP
        rw [decide_eq_false (by omega)]
        simp
      · have v : y18 = (nd C 1 b : Int) := by
          rw [e18]
          unfold PN
          rw [if_neg (by omega), r, Int.toNat_natCast]
        clear e18
        subst v
        have lb := hW.ndl (t := 1) (by omega) b1
        have l0 := X1.lb (o := 11) (t := 0) rfl (by omega) lk
        have l1 := X1.lb (o := 12) (t := 1) rfl (by omega) b1
        have q0 := hB1.r 11 1 (nd C 0 k)
        have q1 := hB1.r 12 1 (nd C 1 b)
        rw [show 12 * 0 + k = k from by omega] at l0
        rw [show 12 * 1 + b = 12 + b from by omega] at l1
        simp only [Int.toNat_natCast]
        rw [l0] at q0 ⊢
        rw [l1] at q1 ⊢
        refine ⟨⟨by omega, by omega⟩, fun h2 => absurd h2 (by omega), fun _ => ⟨⟨by omega, by omega⟩, ⟨by omega, by omega⟩, ⟨by omega, by omega⟩, q1, q0, fun h3 => no ?_, fun h3 => ⟨⟨by omega, by omega⟩, sp_writeStep hB1 hT (by omega) (w := 1) (p := k) rfl rfl (by omega) (show nd C 0 k < 12 from by omega) (fun M2 F2 B2 T2 => ?_)⟩⟩⟩
        · unfold rlP
          rw [r, Int.toNat_natCast, decide_eq_false (p := C 3 k ≠ C 3 (12 + b)) (fun z => z h3.symm)]
          simp
        · unfold wpj_X7_write_130
          refine ⟨100 + (20 - (k + 1)), by omega, k + 1, by omega, by omega, rfl, hF.tr (F2.mono P7s_w), B2, ?_⟩
          unfold sR
          rw [if_pos]
          · exact T2
          · unfold rlP
            rw [r, Int.toNat_natCast, decide_eq_true (p := C 3 k ≠ C 3 (12 + b)) (fun z => h3 z.symm), decide_eq_true (by omega)]
            rfl
  · intro n x2 M1 ⟨k, e2, hk, hn, hF, hB1, hT, hO⟩
    subst e2; subst hn
    have X1 := hX.fr hF P7w_kt
    have M1' := hM.fr hF rfl rfl rfl
    unfold wph_X7_write_146
    rw [X1.n (o := 12) (t := 1) rfl (by omega), Int.toNat_natCast]
    refine ⟨⟨by omega, by omega⟩, ⟨by omega, by omega⟩, fun h => K M1 hF hB1 ((show SL C = sI C k from by rw [show k = cn C 1 from by omega]; rfl) ▸ hT) hO, fun h => ?_⟩
    have lk : k < cn C 1 := by omega
    have ln := hW.ndl (t := 1) (by omega) lk
    have sl := sI_le hW k
    have bb := hB1.r 6 3 (nd C 1 k)
    have m3 := M1'.2.1 k lk
    rw [X1.pre (o := 12) (t := 1) rfl (by omega) lk, Int.toNat_natCast]
    unfold wpj_X7_write_183
    refine ⟨⟨by omega, by omega⟩, ⟨by omega, by omega⟩, bb, fun h2 => ⟨20 - (k + 1), by omega, k + 1, by omega, by omega, rfl, hF, hB1, ?_, hO⟩, fun h2 => ⟨⟨by omega, by omega⟩, sp_writeStep hB1 hT (by omega) (w := 2) (p := k) rfl rfl (by omega) (show nd C 1 k < 12 from by omega) (fun M2 F2 B2 T2 => ⟨20 - (k + 1), by omega, k + 1, by omega, by omega, rfl, hF.tr (F2.mono P7s_w), B2, ?_, by rw [F2 7 5 0 rfl]; exact hO⟩)⟩⟩
    · unfold sI
      rw [if_pos (prd_iff.mpr (m3.mp h2))]
      exact hT
    · unfold sI
      rw [if_neg (fun z => h2 (m3.mpr (prd_iff.mp z)))]
      exact T2
/-! equal subtrees: by sizes, or by levels -/
def Sm (C : Nat → Nat → Int) (t a u b : Nat) : Prop := ce C t a - a = ce C u b - b ∧ ∀ k : Nat, k < ce C t a - a → C 2 (12 * t + (a + k)) = C 2 (12 * u + (b + k)) ∧ C 3 (12 * t + (a + k)) = C 3 (12 * u + (b + k)) ∧ ce C t (a + k) - (a + k) = ce C u (b + k) - (b + k)
def SmL (C : Nat → Nat → Int) (t a u b : Nat) : Prop := ce C t a - a = ce C u b - b ∧ ∀ k : Nat, k < ce C t a - a → C 2 (12 * t + (a + k)) = C 2 (12 * u + (b + k)) ∧ C 3 (12 * t + (a + k)) = C 3 (12 * u + (b + k)) ∧ (cL C t (a + k) : Int) - cL C t a = (cL C u (b + k) : Int) - cL C u b
theorem par_ce {L : Nat → Nat} {n p q : Nat} (h : WL L n) (hp : p < n) (h1 : q < p) (h2 : p < eN L n q) (h3 : ∀ r : Nat, q < r → r < p → eN L n r ≤ p) : par L p = q := by
  have s := par_spec h (by omega) hp
  have i := par_in h (by omega) hp
  refine par_uniq h hp h1 (eN_in (n := n) (by omega) h1 h2) (fun r r1 r2 => Decidable.byContradiction (fun c => ?_))
  have g : r ≤ par L p := Decidable.byContradiction (fun d => by
    have := s.2.2 r (by omega) r2
    omega)
  have := h3 (par L p) (by omega) s.1
  omega
theorem ce_par {L : Nat → Nat} {n p r : Nat} (h : WL L n) (h0 : 0 < p) (hp : p < n) (h1 : par L p < r) (h2 : r < p) : eN L n r ≤ p := by
  refine Decidable.byContradiction (fun c => ?_)
  have a := eN_in (L := L) (n := n) (p := r) (q := p) (by omega) h2 (by omega)
  have b := (par_spec h h0 hp).2.2 r h1 h2
  omega
theorem Sm_L (hW : WF C) {t a u b : Nat} (ht : t < 2) (hu : u < 2) (ha : a < cn C t) (hb : b < cn C u) : Sm C t a u b ↔ SmL C t a u b := by
  have za := hW.e (C := C) (t := t) ha
  have zb := hW.e (C := C) (t := u) hb
  constructor
  · intro ⟨h1, h2⟩
    have lev : ∀ (N k : Nat), k ≤ N → k < ce C t a - a → (cL C t (a + k) : Int) - cL C t a = (cL C u (b + k) : Int) - cL C u b := by
      intro N
      induction N with
      | zero =>
        intro k hk h
        rw [show a + k = a from by omega, show b + k = b from by omega]
        omega
      | succ N ih =>
        intro k hk h
        by_cases c : k ≤ N
        · exact ih k c h
        · have W := hW.wl ht
          have W' := hW.wl hu
          have hp : a + k < cn C t := by omega
          have hp' : b + k < cn C u := by omega
          have s := par_spec W (p := a + k) (by omega) hp
          have i := par_in W (p := a + k) (by omega) hp
          -- the parent lies inside
          have ga : a ≤ par (cL C t) (a + k) := by
            refine Decidable.byContradiction (fun d => ?_)
            have := ce_par W (p := a + k) (r := a) (by omega) hp (by omega) (by omega)
            unfold ce at h
            omega
          obtain ⟨j, hj⟩ : ∃ j : Nat, par (cL C t) (a + k) = a + j := ⟨par (cL C t) (a + k) - a, by omega⟩
          have szj := (h2 j (by omega)).2.2
          have pb : par (cL C u) (b + k) = b + j := by
            refine par_ce W' hp' (by omega) ?_ (fun r r1 r2 => ?_)
            · have zj := hW.e (C := C) (t := t) (p := a + j) (by omega)
              rw [hj] at i
              unfold ce at szj zj
              omega
            · have hr := (h2 (r - b) (by omega)).2.2
              have e1 := ce_par W (p := a + k) (r := a + (r - b)) (by omega) hp (by omega) (by omega)
              have zr := hW.e (C := C) (t := t) (p := a + (r - b)) (by omega)
              have zr' := hW.e (C := C) (t := u) (p := r) (by omega)
              rw [show b + (r - b) = r from by omega] at hr
              unfold ce at hr zr zr'
              omega
          have s' := par_spec W' (p := b + k) (by omega) hp'
          rw [hj] at s
          rw [pb] at s'
          have e := ih j (by omega) (by omega)
          omega
    exact ⟨h1, fun k hk => ⟨(h2 k hk).1, (h2 k hk).2.1, lev k k (Nat.le_refl _) hk⟩⟩
  · intro ⟨h1, h2⟩
    refine ⟨h1, fun k hk => ⟨(h2 k hk).1, (h2 k hk).2.1, ?_⟩⟩
    have hp : a + k < cn C t := by omega
    have hp' : b + k < cn C u := by omega
    have zk := hW.e (C := C) (t := t) hp
    have nk : ce C t (a + k) ≤ ce C t a := by
      by_cases c : k = 0
      · rw [c]; exact Nat.le_refl _
      · exact eN_nest ha (by omega) (by unfold ce at hk za; omega)
    have E : isE (cL C u) (cn C u) (b + k) (b + (ce C t (a + k) - a)) := by
      refine ⟨by omega, by omega, fun q q1 q2 => ?_, fun q1 => ?_⟩
      · have a1 := eN_in (L := cL C t) hp (q := a + (q - b)) (by omega) (by unfold ce at q2 zk; omega)
        have a2 := (h2 k hk).2.2
        have a3 := (h2 (q - b) (by omega)).2.2
        rw [show b + (q - b) = q from by omega] at a3
        omega
      · by_cases c : ce C t (a + k) < ce C t a
        · have a1 := eN_at (L := cL C t) hp (by unfold ce at c za; omega)
          have a2 := (h2 k hk).2.2
          have a3 := (h2 (ce C t (a + k) - a) (by omega)).2.2
          rw [show a + (ce C t (a + k) - a) = ce C t (a + k) from by omega] at a3
          unfold ce at a3 ⊢
          omega
        · have e : b + (ce C t (a + k) - a) = ce C u b := by omega
          rw [e] at q1 ⊢
          have a1 := eN_at (L := cL C u) hb (by unfold ce at q1; omega)
          by_cases d : k = 0
          · rw [d]
            exact a1
          · have a2 := eN_in (L := cL C u) hb (q := b + k) (by omega) (by unfold ce at h1 zb hk; omega)
            unfold ce
            omega
    have := isE_uniq E (eN_spec hp')
    unfold ce at this zk ⊢
    omega
end WRITE
