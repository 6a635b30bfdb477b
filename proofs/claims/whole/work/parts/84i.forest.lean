/-! the forest behind some steps -/
def hs (C : Nat → Nat → Int) (m w p : Nat) : Prop := ∃ k : Nat, k < m ∧ (SL C)[k]? = some (w, p)
def Uu (C : Nat → Nat → Int) (m : Nat) : Nat := if OO C < m then 1 else 0
def sw (C : Nat → Nat → Int) (u m q : Nat) : Prop := (u = 0 → ¬ hs C m 0 q) ∧ (u ≠ 0 → prd C q = true ∨ hs C m 2 q)
noncomputable def sB (C : Nat → Nat → Int) (u m q : Nat) : Int := if bo (sw C u m q) = true then 1 else 0
noncomputable def cS (C : Nat → Nat → Int) (u m q : Nat) : Int := sm (sB C u m) 0 q
noncomputable def lbA (C : Nat → Nat → Int) (m q : Nat) : Int := if Uu C m = 0 ∧ bo (hs C m 1 q) = true then C 3 (12 + (pt C q).toNat) else C 3 (12 * Uu C m + q)
section FOREST
variable {C : Nat → Nat → Int} {M : Mem} {u m : Nat}
theorem Uu_lt : Uu C m < 2 := by
  unfold Uu
  split <;> omega
theorem hs_0 {w p : Nat} : ¬ hs C 0 w p := fun ⟨k, h, _⟩ => Nat.not_lt_zero _ h
theorem hs_s {s w p w' p' : Nat} (e : (SL C)[s]? = some (w, p)) : hs C (s + 1) w' p' ↔ hs C s w' p' ∨ w = w' ∧ p = p' := by
  constructor
  · intro ⟨k, h1, h2⟩
    by_cases c : k = s
    · subst c
      rw [e, Option.some.injEq, Prod.mk.injEq] at h2
      exact Or.inr h2
    · exact Or.inl ⟨k, by omega, h2⟩
  · intro h
    rcases h with ⟨k, h1, h2⟩ | ⟨h1, h2⟩
    · exact ⟨k, by omega, h2⟩
    · subst h1; subst h2
      exact ⟨s, by omega, e⟩
theorem sB_bd (q : Nat) : 0 ≤ sB C u m q ∧ sB C u m q ≤ 50 := by
  unfold sB
  split <;> omega
theorem sB_1 {q : Nat} (h : sw C u m q) : sB C u m q = 1 := if_pos (bo_iff.mpr h)
theorem sB_0 {q : Nat} (h : ¬ sw C u m q) : sB C u m q = 0 := if_neg (fun z => h (bo_iff.mp z))
theorem cS_s (q : Nat) : cS C u m (q + 1) = cS C u m q + sB C u m q := sm_succ _ (Nat.zero_le _)
theorem cS_0 : cS C u m 0 = 0 := sm_self _ (Nat.le_refl _)
theorem cS_bd : ∀ q : Nat, 0 ≤ cS C u m q ∧ cS C u m q ≤ q := by
  intro q
  induction q with
  | zero =>
    rw [cS_0]
    omega
  | succ q ih =>
    rw [cS_s]
    by_cases c : sw C u m q
    · rw [sB_1 c]
      omega
    · rw [sB_0 c]
      omega
theorem cS_mono {p : Nat} : ∀ {q : Nat}, p ≤ q → cS C u m p ≤ cS C u m q := by
  intro q h
  induction q with
  | zero =>
    rw [show p = 0 from by omega]
    exact Int.le_refl _
  | succ q ih =>
    by_cases c : p = q + 1
    · rw [c]
      exact Int.le_refl _
    · have a := ih (by omega)
      have b := sB_bd (C := C) (u := u) (m := m) q
      rw [cS_s]
      omega
theorem cS_lt {p q : Nat} (hp : sw C u m p) (h : p < q) : cS C u m p < cS C u m q := by
  have a := cS_mono (C := C) (u := u) (m := m) (p := p + 1) (q := q) h
  rw [cS_s, sB_1 hp] at a
  omega
theorem cS_sur : ∀ (n : Nat) (z : Int), 0 ≤ z → z < cS C u m n → ∃ q : Nat, q < n ∧ sw C u m q ∧ cS C u m q = z := by
  intro n
  induction n with
  | zero =>
    intro z h1 h2
    rw [cS_0] at h2
    omega
  | succ n ih =>
    intro z h1 h2
    rw [cS_s] at h2
    by_cases c : z < cS C u m n
    · obtain ⟨q, a, b, d⟩ := ih z h1 c
      exact ⟨q, by omega, b, d⟩
    · by_cases d : sw C u m n
      · rw [sB_1 d] at h2
        exact ⟨n, by omega, d, by omega⟩
      · rw [sB_0 d] at h2
        omega
def P7f (o k : Nat) : Bool := o == 7 && (k == 6 || k == 7 || k == 8)
/-- the class's half -/
theorem sp_showForest {Q : Mem → Prop} {p0 : Int} (hW : WF C) (hX : Cls C M) (hB : Bd M) (hS : St1 C M) (hm : m ≤ (SL C).length) (e0 : p0 = m) (K : ∀ M' : Mem, Fr P7f M M' → Bd M' → M' 7 8 0 = cS C (Uu C m) m (cn C (Uu C m)) → (∀ q : Nat, q < cn C (Uu C m) → sw C (Uu C m) m q → M' 7 7 (cS C (Uu C m) m q).toNat = (nd C (Uu C m) q : Int)) → (∀ q : Nat, q < cn C (Uu C m) → (M' 7 6 (nd C (Uu C m) q) = 0 ∨ M' 7 6 (nd C (Uu C m) q) = 1) ∧ (M' 7 6 (nd C (Uu C m) q) = 1 ↔ sw C (Uu C m) m q)) → Q M') : wp_X7_showForest M p0 Q := by
  subst e0
  have sl := SL_le hW
  have ul : Uu C m < 2 := Uu_lt
  have n12 := hW.n12 ul
  obtain ⟨mp, st, oo, mv⟩ := hS
  generalize eu : Uu C m = u at *
  have hT : isT (11 + u) := isT_of ul
  have uo : u = 0 ↔ m ≤ OO C := by
    rw [← eu]
    unfold Uu
    split <;> omega
  unfold wp_X7_showForest
  refine ⟨fun n r2 x3 x4 M1 => ∃ k : Nat, r2 = 11 + u ∧ x3 = (if u = 0 then 1 else 0) ∧ x4 = (k : Int) ∧ k ≤ cn C u ∧ n = 200 + (20 - k) ∧ Fr P7f M M1 ∧ Bd M1 ∧ ∀ q : Nat, q < cn C u → nd C u q < k → (M1 7 6 (nd C u q) = 0 ∨ M1 7 6 (nd C u q) = 1) ∧ (M1 7 6 (nd C u q) = 1 ↔ sw C u 0 q), fun n r2 x3 x4 M1 => ∃ s : Nat, r2 = 11 + u ∧ x3 = (if u = 0 then 1 else 0) ∧ x4 = (s : Int) ∧ s ≤ m ∧ n = 100 + (30 - s) ∧ Fr P7f M M1 ∧ Bd M1 ∧ ∀ q : Nat, q < cn C u → (M1 7 6 (nd C u q) = 0 ∨ M1 7 6 (nd C u q) = 1) ∧ (M1 7 6 (nd C u q) = 1 ↔ sw C u s q), fun n r2 x4 M1 => ∃ p : Nat, r2 = 11 + u ∧ x4 = (p : Int) ∧ p ≤ cn C u ∧ n = 20 - p ∧ Fr P7f M M1 ∧ Bd M1 ∧ (∀ q : Nat, q < cn C u → (M1 7 6 (nd C u q) = 0 ∨ M1 7 6 (nd C u q) = 1) ∧ (M1 7 6 (nd C u q) = 1 ↔ sw C u m q)) ∧ M1 7 8 0 = cS C u m p ∧ (∀ q : Nat, q < p → sw C u m q → M1 7 7 (cS C u m q).toNat = (nd C u q : Int)), ?_, ?_, ?_, ?_⟩
  · unfold wpe_X7_showForest wp_X7_treeAfter wpe_X7_treeAfter wpj_X7_showForest_19
    rw [oo]
    refine ⟨⟨by omega, by omega⟩, ⟨by omega, by omega⟩, fun z => ?_, fun z => ?_⟩
    · have u1 : u = 1 := by omega
      subst u1
      exact ⟨hT, ⟨by omega, by omega⟩, ⟨by omega, by omega⟩, fun _ => ⟨hT, _, 0, rfl, rfl, rfl, Nat.zero_le _, rfl, Fr.rf, hB, fun q _ h => absurd h (Nat.not_lt_zero _)⟩, fun w => absurd (by rw [oo]; exact z) w⟩
    · have u0 : u = 0 := by omega
      subst u0
      exact ⟨hT, ⟨by omega, by omega⟩, ⟨by omega, by omega⟩, fun w => absurd (by rw [oo] at w; exact w) z, fun _ => ⟨hT, _, 0, rfl, rfl, rfl, Nat.zero_le _, rfl, Fr.rf, hB, fun q _ h => absurd h (Nat.not_lt_zero _)⟩⟩
  · intro n r2 x3 x4 M1 ⟨k, er, e3, e4, hk, hn, F1, B1, H⟩
    subst er; subst e3; subst e4
    unfold wph_X7_showForest_23 wpj_X7_showForest_56
    have X1 := hX.fr F1 (kt_all (fun k => ⟨rfl, rfl, rfl⟩))
    rw [X1.n rfl ul]
    have J : ∀ s0 : Int, (s0 = 0 ∨ s0 = 1) → k < cn C u → (∀ q : Nat, q < cn C u → nd C u q = k → (s0 = 1 ↔ sw C u 0 q)) → wpj_X7_showForest_61 m (11 + u) (if u = 0 then 1 else 0) k s0 k M1 (fun (r2 : Nat) (x3 : Int) (x4 : Int) (M1 : Mem) => ∃ n1 : Nat, n1 < n ∧ (fun n r2 x3 x4 M1 => ∃ k : Nat, r2 = 11 + u ∧ x3 = (if u = 0 then 1 else 0) ∧ x4 = (k : Int) ∧ k ≤ cn C u ∧ n = 200 + (20 - k) ∧ Fr P7f M M1 ∧ Bd M1 ∧ ∀ q : Nat, q < cn C u → nd C u q < k → (M1 7 6 (nd C u q) = 0 ∨ M1 7 6 (nd C u q) = 1) ∧ (M1 7 6 (nd C u q) = 1 ↔ sw C u 0 q)) n1 r2 x3 x4 M1) (fun _ _ _ _ => True) (fun _ _ _ => True) Q := fun s0 h1 h2 h3 => by
      unfold wpj_X7_showForest_61
      refine ⟨hT, by omega, h1, fun M14 e14 => ⟨200 + (20 - (k + 1)), by omega, k + 1, rfl, rfl, by omega, by omega, rfl, ?_, ?_, fun q hq hl => ?_⟩⟩
      · rw [e14]
        exact F1.set rfl
      · rw [e14]
        exact B1.set (by omega) (by omega)
      · rw [e14, mset_i, Int.toNat_natCast]
        by_cases c : nd C u q = k
        · rw [if_pos c]
          exact ⟨h1, h3 q hq c⟩
        · rw [if_neg c]
          exact H q hq (by omega)
    refine ⟨hT, ⟨by omega, by omega⟩, ⟨by omega, by omega⟩, fun z => ?_, fun z => ⟨?_, fun z2 => ?_, fun z2 => ?_⟩⟩
    · refine ⟨130, by omega, 0, rfl, rfl, rfl, Nat.zero_le _, rfl, F1, B1, fun q hq => H q hq ?_⟩
      have := hW.ndl ul hq
      omega
    · split
      · exact r01.2
      · exact r01.1
    · have u0 : u = 0 := Decidable.byContradiction (fun w => z2 (if_neg w))
      refine ⟨hT, J 1 (Or.inr rfl) (by omega) (fun q hq _ => ⟨fun _ => ⟨fun _ => hs_0, fun w => absurd u0 w⟩, fun _ => rfl⟩)⟩
    · have u0 : u ≠ 0 := fun w => z2 (by rw [if_pos w]; decide)
      have u1 : u = 1 := by omega
      refine ⟨by omega, B1.r _ _ _, fun z3 => J 0 (Or.inl rfl) (by omega) (fun q hq hq2 => ?_), fun z3 => ⟨hT, J 1 (Or.inr rfl) (by omega) (fun q hq hq2 => ?_)⟩⟩
      · rw [Int.toNat_natCast, F1 6 3 _ rfl, ← hq2] at z3
        subst u1
        refine ⟨fun w => absurd w (by decide), fun w => ?_⟩
        rcases w.2 (by omega) with w | w
        · obtain ⟨y, hy, ey⟩ := prd_iff.mp w
          exact absurd z3 ((mp.2.1 q hq).mpr ⟨y, hy, ey⟩)
        · exact absurd w hs_0
      · rw [Int.toNat_natCast, F1 6 3 _ rfl, ← hq2] at z3
        subst u1
        obtain ⟨y, hy, ey⟩ := (mp.2.1 q hq).mp z3
        exact ⟨fun _ => ⟨fun w => absurd w (by omega), fun _ => Or.inl (prd_iff.mpr ⟨y, hy, ey⟩)⟩, fun _ => rfl⟩
  · intro n r2 x3 x4 M1 ⟨s, er, e3, e4, hs', hn, F1, B1, H⟩
    subst er; subst e3; subst e4
    unfold wph_X7_showForest_71 wpj_X7_showForest_107 wpj_X7_showForest_135
    refine ⟨hT, ⟨by omega, by omega⟩, ⟨by omega, by omega⟩, fun z M20 e20 => ?_, fun z => ?_⟩
    · have es : s = m := by omega
      subst es
      refine ⟨20, by omega, 0, rfl, rfl, Nat.zero_le _, rfl, ?_, ?_, fun q hq => ?_, ?_, fun q hq => absurd hq (Nat.not_lt_zero _)⟩
      · rw [e20]
        exact F1.set rfl
      · rw [e20]
        exact B1.set (by omega) (by omega)
      · rw [e20, mset_ne (by omega)]
        exact H q hq
      · rw [e20, mset_eq, cS_0]
    · obtain ⟨w, p, gk, gi⟩ := SL_get (C := C) (k := s) (by omega)
      obtain ⟨hw, hp⟩ := SL_in hW gi
      have q2 := (st.2 s w p gk).1
      have q3 := (st.2 s w p gk).2
      have lp := hW.ndl (wT_lt (w := w)) hp
      have nw := hW.n12 (wT_lt (w := w))
      rw [Int.toNat_natCast, F1 7 2 s rfl, F1 7 3 s rfl, q2, q3, Int.toNat_natCast]
      have keep : (u = 0 → w ≠ 0) → (u ≠ 0 → w ≠ 2) → ∀ q : Nat, sw C u (s + 1) q ↔ sw C u s q := fun h1 h2 q => by
        unfold sw
        rw [hs_s gk, hs_s gk]
        constructor
        · intro ⟨a, b⟩
          refine ⟨fun c d => a c (Or.inl d), fun c => ?_⟩
          rcases b c with d | d | d
          · exact Or.inl d
          · exact Or.inr d
          · exact absurd d.1 (h2 c)
        · intro ⟨a, b⟩
          refine ⟨fun c d => ?_, fun c => ?_⟩
          · rcases d with d | d
            · exact a c d
            · exact h1 c d.1
          · rcases b c with d | d
            · exact Or.inl d
            · exact Or.inr (Or.inl d)
      have stay : (u = 0 → w ≠ 0) → (u ≠ 0 → w ≠ 2) → ∃ n1 : Nat, n1 < n ∧ ∃ s1 : Nat, 11 + u = 11 + u ∧ (if u = 0 then (1 : Int) else 0) = (if u = 0 then 1 else 0) ∧ (s : Int) + 1 = (s1 : Int) ∧ s1 ≤ m ∧ n1 = 100 + (30 - s1) ∧ Fr P7f M M1 ∧ Bd M1 ∧ ∀ q : Nat, q < cn C u → (M1 7 6 (nd C u q) = 0 ∨ M1 7 6 (nd C u q) = 1) ∧ (M1 7 6 (nd C u q) = 1 ↔ sw C u s1 q) := fun h1 h2 => ⟨100 + (30 - (s + 1)), by omega, s + 1, rfl, rfl, by omega, by omega, rfl, F1, B1, fun q hq => ⟨(H q hq).1, (H q hq).2.trans (keep h1 h2 q).symm⟩⟩
      refine ⟨?_, fun z3 => ?_, fun z3 => ?_⟩
      · split
        · exact r01.2
        · exact r01.1
      · have u0 : u ≠ 0 := fun y => by rw [if_pos y] at z3; exact absurd z3 (by decide)
        have u1 : u = 1 := by omega
        refine ⟨hT, ?_, fun z4 => absurd z3 z4, fun _ => ⟨by omega, ⟨by omega, by omega⟩, fun z5 => ⟨hT, stay (fun y => absurd y u0) (fun _ y => z5 (by omega))⟩, fun z5 => ⟨by omega, by omega, fun M35 e35 => ⟨hT, 100 + (30 - (s + 1)), by omega, s + 1, rfl, rfl, by omega, by omega, rfl, ?_, ?_, fun q hq => ?_⟩⟩⟩⟩
        · rw [if_neg u0]
          exact r01.1
        · rw [e35]
          exact F1.set rfl
        · rw [e35]
          exact B1.set (by omega) (by omega)
        · have w2 : w = 2 := by omega
          subst w2
          subst u1
          have hp' : p < cn C 1 := hp
          rw [e35, mset_i]
          by_cases c : q = p
          · subst c
            rw [if_pos (show nd C 1 q = nd C (wT 2) q from rfl)]
            exact ⟨Or.inr rfl, fun _ => ⟨fun y => absurd y (by omega), fun _ => Or.inr ((hs_s gk).mpr (Or.inr ⟨rfl, rfl⟩))⟩, fun _ => rfl⟩
          · have hne : nd C 1 q ≠ nd C (wT 2) p := fun y => c (hW.inj (t := 1) (by omega) hq hp' y)
            rw [if_neg hne]
            refine ⟨(H q hq).1, (H q hq).2.trans ⟨fun y => ⟨fun y2 => absurd y2 (by omega), fun y2 => ?_⟩, fun y => ⟨fun y2 => absurd y2 (by omega), fun y2 => ?_⟩⟩⟩
            · rcases y.2 y2 with d | d
              · exact Or.inl d
              · exact Or.inr ((hs_s gk).mpr (Or.inl d))
            · rcases y.2 y2 with d | d
              · exact Or.inl d
              · rcases (hs_s gk).mp d with d | d
                · exact Or.inr d
                · exact absurd d.2.symm c
      · have u0 : u = 0 := Decidable.byContradiction (fun y => z3 (if_neg y))
        refine ⟨by omega, ⟨by omega, by omega⟩, fun z4 => ⟨hT, ?_, fun z5 => ⟨hT, stay (fun _ y => z4 (by omega)) (fun y => absurd u0 y)⟩, fun z5 => absurd z3 z5⟩, fun z4 => ⟨by omega, by omega, fun M27 e27 => ⟨hT, 100 + (30 - (s + 1)), by omega, s + 1, rfl, rfl, by omega, by omega, rfl, ?_, ?_, fun q hq => ?_⟩⟩⟩
        · rw [if_pos u0]
          exact r01.2
        · rw [e27]
          exact F1.set rfl
        · rw [e27]
          exact B1.set (by omega) (by omega)
        · have w0 : w = 0 := by omega
          subst w0
          subst u0
          have hp' : p < cn C 0 := hp
          rw [e27, mset_i]
          by_cases c : q = p
          · subst c
            rw [if_pos (show nd C 0 q = nd C (wT 0) q from rfl)]
            exact ⟨Or.inl rfl, fun y => absurd y (by decide), fun y => absurd ((hs_s gk).mpr (Or.inr ⟨rfl, rfl⟩)) (y.1 rfl)⟩
          · have hne : nd C 0 q ≠ nd C (wT 0) p := fun y => c (hW.inj (t := 0) (by omega) hq hp' y)
            rw [if_neg hne]
            refine ⟨(H q hq).1, (H q hq).2.trans ⟨fun y => ⟨fun y2 y3 => ?_, fun y2 => absurd rfl y2⟩, fun y => ⟨fun y2 y3 => y.1 y2 ((hs_s gk).mpr (Or.inl y3)), fun y2 => absurd rfl y2⟩⟩⟩
            rcases (hs_s gk).mp y3 with d | d
            · exact y.1 y2 d
            · exact absurd d.2.symm c
  · intro n r2 x4 M1 ⟨p, er, e4, hp, hn, F1, B1, H, H8, H7⟩
    subst er; subst e4
    unfold wph_X7_showForest_149 wpj_X7_showForest_199
    have X1 := hX.fr F1 (kt_all (fun k => ⟨rfl, rfl, rfl⟩))
    rw [X1.n rfl ul, Int.toNat_natCast]
    refine ⟨hT, ⟨by omega, by omega⟩, ⟨by omega, by omega⟩, fun z => ?_, fun z => ?_⟩
    · have ep : p = cn C u := by omega
      rw [ep] at H8 H7
      exact K M1 F1 B1 H8 H7 H
    · have hpn : p < cn C u := by omega
      have lp := hW.ndl ul hpn
      rw [X1.pre rfl ul hpn, Int.toNat_natCast, H8]
      have cb := cS_bd (C := C) (u := u) (m := m) p
      have h6 := H p hpn
      refine ⟨by omega, by omega, B1.r _ _ _, fun z2 => ⟨hT, 20 - (p + 1), by omega, p + 1, rfl, by omega, by omega, rfl, F1, B1, H, ?_, fun q hq hq2 => ?_⟩, fun z2 => ⟨by omega, by omega, fun M45 e45 M47 e47 => ⟨hT, 20 - (p + 1), by omega, p + 1, rfl, by omega, by omega, rfl, ?_, ?_, fun q hq => ?_, ?_, fun q hq hq2 => ?_⟩⟩⟩
      · have ns : ¬ sw C u m p := fun y => by
          have := h6.2.mpr y
          omega
        rw [H8, cS_s, sB_0 ns]
        omega
      · have ns : ¬ sw C u m p := fun y => by
          have := h6.2.mpr y
          omega
        refine H7 q ?_ hq2
        have : q ≠ p := fun y => ns (y ▸ hq2)
        omega
      · rw [e47, e45]
        exact (F1.set rfl).set rfl
      · have v8 : M45 7 8 0 = cS C u m p := by rw [e45, mset_ne (by omega), H8]
        rw [e47, v8]
        refine Bd.set ?_ (by omega) (by omega)
        rw [e45]
        exact B1.set (by omega) (by omega)
      · rw [e47, mset_ne (by omega), e45, mset_ne (by omega)]
        exact H q hq
      · have ys : sw C u m p := h6.2.mp (by have := h6.1; omega)
        have v8 : M45 7 8 0 = cS C u m p := by rw [e45, mset_ne (by omega), H8]
        rw [e47, mset_eq, v8, cS_s, sB_1 ys]
      · rw [e47, mset_ne (by omega), e45, mset_i]
        by_cases c : q = p
        · subst c
          rw [if_pos rfl]
        · have lt := cS_lt hq2 (show q < p from by omega)
          have cq := cS_bd (C := C) (u := u) (m := m) q
          rw [if_neg (by omega)]
          exact H7 q (by omega) hq2
end FOREST
