def PJ (o k : Nat) : Bool := o == 13 && k == 13
theorem sp_job {M : Mem} {Q : Mem → Prop} {k : Nat} {p0 p1 p2 p3 p4 : Int} (hB : Bd M) (e0 : p0 = k) (hk : k < 24) (r1 : 0 ≤ p1 ∧ p1 ≤ 1000) (r2 : 0 ≤ p2 ∧ p2 ≤ 1000) (r3 : 0 ≤ p3 ∧ p3 ≤ 1000) (r4 : 0 ≤ p4 ∧ p4 ≤ 1000)
    (K : ∀ M' : Mem, Fr PJ M M' → Bd M' → M' 13 13 (4 * k) = p1 → M' 13 13 (4 * k + 1) = p2 → M' 13 13 (4 * k + 2) = p3 → M' 13 13 (4 * k + 3) = p4 → (∀ c : Nat, c < 4 * k → M' 13 13 c = M 13 13 c) → Q M') : wp_X11_job M p0 p1 p2 p3 p4 Q := by
  subst e0
  unfold wp_X11_job wpe_X11_job
  rw [show (4 * (k : Int)).toNat = 4 * k from by omega, show (4 * (k : Int) + 1).toNat = 4 * k + 1 from by omega, show (4 * (k : Int) + 2).toNat = 4 * k + 2 from by omega, show (4 * (k : Int) + 3).toNat = 4 * k + 3 from by omega]
  refine ⟨⟨by omega, by omega⟩, fun M1 e1 => ⟨⟨by omega, by omega⟩, fun M3 e3 => ⟨⟨by omega, by omega⟩, fun M5 e5 => ⟨⟨by omega, by omega⟩, fun M7 e7 => ?_⟩⟩⟩⟩
  refine K M7 ?_ ?_ ?_ ?_ ?_ ?_ (fun c hc => ?_)
  · rw [e7, e5, e3, e1]
    exact (((Fr.rf.set rfl).set rfl).set rfl).set rfl
  · rw [e7, e5, e3, e1]
    exact (((hB.set (by omega) (by omega)).set (by omega) (by omega)).set (by omega) (by omega)).set (by omega) (by omega)
  · rw [e7, mset_ne (by omega), e5, mset_ne (by omega), e3, mset_ne (by omega), e1, mset_eq]
  · rw [e7, mset_ne (by omega), e5, mset_ne (by omega), e3, mset_eq]
  · rw [e7, mset_ne (by omega), e5, mset_eq]
  · rw [e7, mset_eq]
  · rw [e7, mset_ne (by omega), e5, mset_ne (by omega), e3, mset_ne (by omega), e1, mset_ne (by omega)]
def P9 (o k : Nat) : Bool := o == 13 && (k == 9 || k == 11 || k == 13)
def JB (C : Nat → Nat → Int) (i e j l : Nat) : Prop := i ≤ e ∧ Whl C 0 i e ∧ j ≤ l ∧ Whl C 1 j l ∧ ∀ x : Nat, i ≤ x → x < e → pt C x = ch C i e j l x
def DN (C : Nat → Nat → Int) (M : Mem) (x : Nat) : Prop := M 13 9 x = pt C x ∧ ∀ b : Nat, pt C x = b → M 13 11 b = 1
def js (M : Mem) (s : Nat) : Int := sm (fun k => M 13 13 (4 * k + 1) - M 13 13 (4 * k)) 0 s
def CS (C : Nat → Nat → Int) (M M1 : Mem) (s : Nat) (cur : Nat → Prop) : Prop := Fr P9 M M1 ∧ Bd M1 ∧ (∀ k : Nat, k < s → ∃ i e j l : Nat, M1 13 13 (4 * k) = i ∧ M1 13 13 (4 * k + 1) = e ∧ M1 13 13 (4 * k + 2) = j ∧ M1 13 13 (4 * k + 3) = l ∧ JB C i e j l) ∧ (∀ x : Nat, x < cn C 0 → DN C M1 x ∨ (∃ k : Nat, k < s ∧ M1 13 13 (4 * k) ≤ x ∧ (x : Int) < M1 13 13 (4 * k + 1)) ∨ cur x) ∧ ∀ b : Nat, b < 12 → M1 13 11 b = 0 ∨ M1 13 11 b = 1 ∧ ∃ x : Nat, x < cn C 0 ∧ pt C x = b
/-- the reference's mapping stands -/
def MapI (C : Nat → Nat → Int) (M : Mem) : Prop := (∀ x : Nat, x < cn C 0 → M 13 9 x = pt C x) ∧ ∀ b : Nat, b < 12 → (M 13 11 b = 0 ∨ M 13 11 b = 1) ∧ (M 13 11 b = 1 ↔ ∃ x : Nat, x < cn C 0 ∧ pt C x = b)
theorem sm_nn (f : Nat → Int) {i : Nat} : ∀ {j : Nat}, (∀ k : Nat, i ≤ k → k < j → 0 ≤ f k) → 0 ≤ sm f i j := by
  intro j
  induction j with
  | zero => intro _; rw [sm_self f (by omega)]; exact Int.le_refl _
  | succ j ih =>
    intro h
    by_cases c : i ≤ j
    · have a := ih (fun k h1 h2 => h k h1 (by omega))
      have b := h j c (by omega)
      rw [sm_succ f c]
      omega
    · rw [sm_self f (by omega)]
      exact Int.le_refl _
set_option maxHeartbeats 8000000 in
theorem sp_chooses {C : Nat → Nat → Int} {M : Mem} {Q : Mem → Prop} (hW : WF C) (hC : Core C M) (hB : Bd M) (hS : Sz C M) (hT : TbD C M) (hz : ∀ b : Nat, b < 12 → M 13 11 b = 0) (K : ∀ M' : Mem, Fr P9 M M' → Bd M' → MapI C M' → Q M') : wp_X11_chooses M Q := by
  have n0 := hW.n12 (t := 0) (by omega)
  have n1 := hW.n12 (t := 1) (by omega)
  unfold wp_X11_chooses
  refine ⟨fun n x1 M1 => ∃ s u : Nat, x1 = s ∧ (u : Int) = js M1 s ∧ s + u ≤ 13 ∧ n = 10 * u + 3 * s + 1 ∧ CS C M M1 s (fun _ => False),
    fun n x1 x2 x3 x4 x5 M1 => ∃ s u i e j l : Nat, x1 = s ∧ x2 = i ∧ x3 = e ∧ x4 = j ∧ x5 = l ∧ (u : Int) = js M1 s + (e - i : Nat) ∧ s + u ≤ 13 ∧ n = 10 * u + 3 * s + 2 ∧ JB C i e j l ∧ CS C M M1 s (fun x => i ≤ x ∧ x < e), ?_, ?_, ?_⟩
  · unfold wpe_X11_chooses
    rw [hC 5 0 rfl, hC 5 1 rfl, hW.n (t := 0) (by omega), hW.n (t := 1) (by omega)]
    refine sp_job hB (k := 0) rfl (by omega) (by omega) (by omega) (by omega) (by omega) (fun M2 F2 B2 r1 r2 r3 r4 _ => ⟨_, 1, cn C 0, rfl, ?_, by omega, rfl, F2.mono (fun o k h => ?_), B2, fun k hk => ?_, fun x hx => Or.inr (Or.inl ⟨0, by omega, ?_, ?_⟩), fun b hb => Or.inl ?_⟩)
    · unfold js
      rw [sm_succ _ (Nat.zero_le _), sm_self _ (Nat.le_refl _)]
      change (cn C 0 : Int) = 0 + (M2 13 13 (4 * 0 + 1) - M2 13 13 (4 * 0))
      rw [r1, r2]
      omega
    · simp only [PJ, Bool.and_eq_true, beq_iff_eq] at h
      simp only [P9, Bool.and_eq_true, Bool.or_eq_true, beq_iff_eq]
      omega
    · have e : k = 0 := by omega
      subst e
      exact ⟨0, cn C 0, 0, cn C 1, r1, r2, r3, r4, Nat.zero_le _, Whl.all, Nat.zero_le _, Whl.all, fun x _ _ => rfl⟩
    · rw [r1]
      omega
    · rw [r2]
      omega
    · rw [F2 13 11 b rfl]
      exact hz b hb
  · intro n x1 M1 ⟨s, u, e1, hu, hs, hn, hF, hB1, hJ, hD, hP⟩
    subst e1; subst hn
    unfold wph_X11_chooses_21
    refine ⟨⟨by omega, by omega⟩, fun h => K M1 hF hB1 ⟨fun x hx => ?_, fun b hb => ⟨?_, ?_⟩⟩, fun h => ?_⟩
    · rcases hD x hx with d | ⟨k, hk, _⟩ | d
      · exact d.1
      · omega
      · exact d.elim
    · rcases hP b hb with p | p
      · exact Or.inl p
      · exact Or.inr p.1
    · constructor
      · intro h1
        rcases hP b hb with p | p
        · rw [p] at h1
          cases h1
        · exact p.2
      · intro ⟨x, hx, hpx⟩
        rcases hD x hx with d | ⟨k, hk, _⟩ | d
        · exact d.2 b hpx
        · omega
        · exact d.elim
    · obtain ⟨i, e, j, l, q1, q2, q3, q4, q5⟩ := hJ (s - 1) (by omega)
      rw [show (4 * ((s : Int) + -1)).toNat = 4 * (s - 1) from by omega, show (4 * ((s : Int) + -1) + 1).toNat = 4 * (s - 1) + 1 from by omega, show (4 * ((s : Int) + -1) + 2).toNat = 4 * (s - 1) + 2 from by omega, show (4 * ((s : Int) + -1) + 3).toNat = 4 * (s - 1) + 3 from by omega]
      have js1 : js M1 s = js M1 (s - 1) + (e - i : Nat) := by
        have hs1 : s = (s - 1) + 1 := by omega
        have z := sm_succ (fun k => M1 13 13 (4 * k + 1) - M1 13 13 (4 * k)) (i := 0) (j := s - 1) (Nat.zero_le _)
        rw [← hs1] at z
        unfold js
        rw [z]
        rw [q1, q2]
        have := q5.1
        omega
      refine ⟨⟨by omega, by omega⟩, fun y6 e6 => ⟨⟨by omega, by omega⟩, fun y8 e8 => ⟨⟨by omega, by omega⟩, fun y10 e10 => ⟨⟨by omega, by omega⟩, fun y12 e12 => ⟨10 * u + 3 * (s - 1) + 2, by omega, s - 1, u, i, e, j, l, by omega, by rw [e6, q1], by rw [e8, q2], by rw [e10, q3], by rw [e12, q4], by omega, by omega, rfl, q5, hF, hB1, fun k hk => hJ k (by omega), fun x hx => ?_, hP⟩⟩⟩⟩⟩
      rcases hD x hx with d | ⟨k, hk, d1, d2⟩ | d
      · exact Or.inl d
      · by_cases c : k = s - 1
        · subst c
          rw [q1] at d1
          rw [q2] at d2
          exact Or.inr (Or.inr ⟨by omega, by omega⟩)
        · exact Or.inr (Or.inl ⟨k, by omega, d1, d2⟩)
      · exact d.elim
  · intro n x1 x2 x3 x4 x5 M1 ⟨s, u, i, e, j, l, e1, e2, e3, e4, e5, hu, hs, hn, hjb, hF, hB1, hJ, hD, hP⟩
    subst e1; subst e2; subst e3; subst e4; subst e5; subst hn
    obtain ⟨j1, j2, j3, j4, j5⟩ := hjb
    have js0 : 0 ≤ js M1 s := sm_nn _ (fun k _ hk => by
      obtain ⟨i', e', j', l', q1, q2, q3, q4, q5⟩ := hJ k hk
      rw [q1, q2]
      have := q5.1
      omega)
    have he := j2.1
    have hl := j4.1
    have C1 : Core C M1 := hC.fr hF rfl rfl rfl rfl rfl rfl rfl
    have S1 : Sz C M1 := hS.fr hF rfl
    have T1 : TbD C M1 := fun i e j l h1 h2 h3 h4 => by rw [hF 13 8 _ rfl]; exact hT i e j l h1 h2 h3 h4
    unfold wph_X11_chooses_72
    refine ⟨⟨by omega, by omega⟩, ⟨by omega, by omega⟩, fun h => ⟨10 * u + 3 * s + 1, by omega, s, u, rfl, by omega, hs, rfl, hF, hB1, hJ, fun x hx => ?_, hP⟩, fun h => ?_⟩
    · rcases hD x hx with d | d | d
      · exact Or.inl d
      · exact Or.inr (Or.inl d)
      · omega
    · have hie : i < e := by omega
      refine sp_first hW C1 hB1 S1 T1 rfl rfl rfl rfl hie j2 j4 j3 ?_
      simp only [Int.toNat_natCast]
      refine ⟨⟨by omega, by omega⟩, fun M18 e18 => ?_⟩
      have z := hW.e (C := C) (t := 0) (p := i) (by omega)
      have w := j2.2 i (Nat.le_refl _) hie
      have rg := fpt_rg C i e j l
      have F18 : Fr P9 M1 M18 := e18 ▸ Fr.rf.set rfl
      have B18 : Bd M18 := e18 ▸ hB1.set (by rcases rg with r | ⟨b, r, _⟩ <;> omega) (by rcases rg with r | ⟨b, r, _⟩ <;> omega)
      have S18 : Sz C M18 := S1.fr F18 rfl
      have J18 : ∀ c : Nat, M18 13 13 c = M1 13 13 c := fun c => by rw [e18]; exact mset_ne (by omega)
      have Q18 : ∀ c : Nat, M18 13 11 c = M1 13 11 c := fun c => by rw [e18]; exact mset_ne (by omega)
      have hpi : pt C i = fpt C i e j l := by
        rw [j5 i (Nat.le_refl _) hie]
        rcases rg with r | ⟨b, r, _⟩
        · rw [ch_no hW j2 hie r, if_pos rfl, r]
        · rw [ch_yes hW j2 hie r, if_pos rfl, r]
      have D18 : ∀ x : Nat, x ≠ i → DN C M1 x → DN C M18 x := fun x hx d => ⟨by rw [e18, mset_ne (by omega)]; exact d.1, fun b hb => by rw [Q18]; exact d.2 b hb⟩
      rcases rg with r | ⟨b, r, b1, b2, b3⟩
      · -- no partner
        have W113 : ∀ s0 : Int, s0 = 1 → wpj_X11_chooses_113 (s : Int) (i : Int) (e : Int) (j : Int) (l : Int) (fpt C i e j l) s0 M18 (fun (x1 : Int) (M1 : Mem) => ∃ n1 : Nat, n1 < 10 * u + 3 * s + 2 ∧ ∃ s u : Nat, x1 = s ∧ (u : Int) = js M1 s ∧ s + u ≤ 13 ∧ n1 = 10 * u + 3 * s + 1 ∧ CS C M M1 s (fun _ => False)) (fun (x1 x2 x3 x4 x5 : Int) (M1 : Mem) => ∃ n1 : Nat, n1 < 10 * u + 3 * s + 2 ∧ ∃ s u i e j l : Nat, x1 = s ∧ x2 = i ∧ x3 = e ∧ x4 = j ∧ x5 = l ∧ (u : Int) = js M1 s + (e - i : Nat) ∧ s + u ≤ 13 ∧ n1 = 10 * u + 3 * s + 2 ∧ JB C i e j l ∧ CS C M M1 s (fun x => i ≤ x ∧ x < e)) Q := by
          intro s0 es
          subst es
          unfold wpj_X11_chooses_113 wpj_X11_chooses_176
          refine ⟨by rw [r]; exact ⟨by decide, by decide⟩, fun _ y32 e32 => ⟨10 * (u - 1) + 3 * s + 2, by omega, s, u - 1, i + 1, e, j, l, rfl, by omega, rfl, rfl, rfl, ?_, by omega, rfl, ⟨by omega, j2.tl (by omega), j3, j4, fun x hx1 hx2 => ?_⟩, hF.tr F18, B18, fun k hk => ?_, fun x hx => ?_, fun c hc => ?_⟩, fun h2 => absurd r h2⟩
          · have : js M18 s = js M1 s := sm_congr (fun k _ _ => by rw [J18, J18])
            omega
          · rw [j5 x (by omega) hx2, ch_no hW j2 hie r, if_neg (by omega)]
          · obtain ⟨i', e', j', l', q1, q2, q3, q4, q5⟩ := hJ k hk
            exact ⟨i', e', j', l', by rw [J18]; exact q1, by rw [J18]; exact q2, by rw [J18]; exact q3, by rw [J18]; exact q4, q5⟩
          · by_cases c : x = i
            · subst c
              refine Or.inl ⟨by rw [e18, mset_eq, hpi], fun b hb => ?_⟩
              rw [hpi, r] at hb
              omega
            · rcases hD x hx with d | ⟨k, hk, d1, d2⟩ | d
              · exact Or.inl (D18 x c d)
              · exact Or.inr (Or.inl ⟨k, hk, by rw [J18]; exact d1, by rw [J18]; exact d2⟩)
              · exact Or.inr (Or.inr ⟨by omega, d.2⟩)
          · rw [Q18]
            exact hP c hc
        refine ⟨by rw [r]; exact ⟨by decide, by decide⟩, fun h2 => absurd r h2, fun _ => W113 1 rfl⟩
      · -- a partner
        have z1 := hW.e (C := C) (t := 1) (p := b) (by omega)
        have w1 := j4.2 b b1 b2
        refine ⟨⟨by omega, by omega⟩, fun _ => ⟨⟨by omega, by omega⟩, ?_⟩, fun h2 => absurd (by omega) h2⟩
        rw [S18.s0 (p := i) (by omega), r]
        unfold wpj_X11_chooses_113
        simp only [Int.toNat_natCast]
        refine ⟨⟨by omega, by omega⟩, fun h2 => absurd h2 (by omega), fun _ => ⟨⟨by omega, by omega⟩, fun M25 e25 => ⟨⟨by omega, by omega⟩, ?_⟩⟩⟩
        have F25 : Fr P9 M18 M25 := e25 ▸ Fr.rf.set rfl
        have B25 : Bd M25 := e25 ▸ B18.set (by omega) (by omega)
        have S25 : Sz C M25 := S18.fr F25 rfl
        rw [show (12 + (b : Int)).toNat = 12 + b from by omega, S25.s1 (p := b) (by omega)]
        refine sp_job B25 (k := s) rfl (by omega) ⟨by omega, by omega⟩ ⟨by omega, by omega⟩ ⟨by omega, by omega⟩ ⟨by omega, by omega⟩ (fun M29 F29 B29 r1 r2 r3 r4 r5 => ?_)
        have F29' : Fr P9 M25 M29 := F29.mono (fun o k h => by
          simp only [PJ, Bool.and_eq_true, beq_iff_eq] at h
          simp only [P9, Bool.and_eq_true, Bool.or_eq_true, beq_iff_eq]
          omega)
        have S29 : Sz C M29 := S25.fr F29 rfl
        have J29 : ∀ c : Nat, c < 4 * s → M29 13 13 c = M1 13 13 c := fun c hc => by
          rw [r5 c hc, e25, mset_ne (by omega)]
          exact J18 c
        have Q29 : ∀ c : Nat, M29 13 11 c = if c = b then 1 else M1 13 11 c := fun c => by
          rw [F29 13 11 c rfl, e25, mset_i, Q18]
        have N29 : ∀ c : Nat, M29 13 9 c = if c = i then (b : Int) else M1 13 9 c := fun c => by
          rw [F29 13 9 c rfl, e25, mset_ne (by omega), e18, mset_i, r]
        rw [S29.s1 (p := b) (by omega)]
        refine ⟨⟨by omega, by omega⟩, fun y31 e31 => ?_⟩
        unfold wpj_X11_chooses_176
        intro y32 e32
        have js1 : js M29 (s + 1) = js M1 s + (ce C 0 i - (i + 1) : Nat) := by
          unfold js
          rw [sm_succ _ (Nat.zero_le _), sm_congr (g := fun k => M1 13 13 (4 * k + 1) - M1 13 13 (4 * k)) (fun k _ hk => by rw [J29 _ (by omega), J29 _ (by omega)])]
          rw [r1, r2]
          omega
        refine ⟨10 * (u - 1) + 3 * (s + 1) + 2, by omega, s + 1, u - 1, ce C 0 i, e, ce C 1 b, l, by omega, by omega, rfl, by omega, rfl, by omega, by omega, rfl, ⟨w, j2.tl (by omega), w1, j4.tl (by omega), fun x hx1 hx2 => ?_⟩, ((hF.tr F18).tr F25).tr F29', B29, fun k hk => ?_, fun x hx => ?_, fun c hc => ?_⟩
        · rw [j5 x (by omega) hx2, ch_yes hW j2 hie r, if_neg (by omega), if_neg (by omega)]
        · by_cases c : k = s
          · subst c
            refine ⟨i + 1, ce C 0 i, b + 1, ce C 1 b, by omega, by omega, by omega, by omega, by omega, Whl.inn (by omega), by omega, Whl.inn (by omega), fun x hx1 hx2 => ?_⟩
            rw [j5 x (by omega) (by omega), ch_yes hW j2 hie r, if_neg (by omega), if_pos hx2]
          · obtain ⟨i', e', j', l', q1, q2, q3, q4, q5⟩ := hJ k (by omega)
            exact ⟨i', e', j', l', by rw [J29 _ (by omega)]; exact q1, by rw [J29 _ (by omega)]; exact q2, by rw [J29 _ (by omega)]; exact q3, by rw [J29 _ (by omega)]; exact q4, q5⟩
        · by_cases c : x = i
          · subst c
            refine Or.inl ⟨by rw [N29, if_pos rfl, hpi, r], fun b' hb' => ?_⟩
            rw [hpi, r] at hb'
            rw [Q29, if_pos (by omega)]
          · rcases hD x hx with d | ⟨k, hk, d1, d2⟩ | d
            · refine Or.inl ⟨by rw [N29, if_neg c]; exact d.1, fun b' hb' => ?_⟩
              rw [Q29]
              by_cases e : b' = b
              · rw [if_pos e]
              · rw [if_neg e]
                exact d.2 b' hb'
            · exact Or.inr (Or.inl ⟨k, by omega, by rw [J29 _ (by omega)]; exact d1, by rw [J29 _ (by omega)]; exact d2⟩)
            · by_cases g : x < ce C 0 i
              · exact Or.inr (Or.inl ⟨s, by omega, by rw [r1]; omega, by rw [r2]; omega⟩)
              · exact Or.inr (Or.inr ⟨by omega, d.2⟩)
        · rw [Q29]
          by_cases e : c = b
          · rw [if_pos e]
            exact Or.inr ⟨rfl, i, by omega, by rw [hpi, r, e]⟩
          · rw [if_neg e]
            exact hP c hc
def PMp (o k : Nat) : Bool := o == 13 && (k == 4 || k == 8 || k == 9 || k == 11 || k == 13)
theorem sp_maps {C : Nat → Nat → Int} {M : Mem} {Q : Int → Mem → Prop} (hW : WF C) (hC : Core C M) (hB : Bd M) (K : ∀ M' : Mem, Fr PMp M M' → Bd M' → Sz C M' → MapI C M' → Q (DI C) M') : wp_X11_maps M Q := by
  have n0 := hW.n12 (t := 0) (by omega)
  have n1 := hW.n12 (t := 1) (by omega)
  unfold wp_X11_maps
  refine ⟨fun n x1 x2 M1 => ∃ k : Nat, x1 = DI C ∧ x2 = k ∧ k ≤ 12 ∧ n = 12 - k ∧ Fr PMp M M1 ∧ Bd M1 ∧ Sz C M1 ∧ TbD C M1 ∧ ∀ b : Nat, b < k → M1 13 11 b = 0, ?_, ?_⟩
  · unfold wpe_X11_maps
    refine sp_fills hW hC hB ⟨by decide, by decide⟩ ⟨by decide, by decide⟩ (fun M2 F2 B2 S2 T2 => ⟨_, 0, df_m1 hW (Nat.le_refl _) (Nat.le_refl _), rfl, Nat.zero_le _, rfl, F2.mono (fun o k h => ?_), B2, S2, T2.toD hW, fun b hb => absurd hb (Nat.not_lt_zero _)⟩)
    simp only [P48, Bool.and_eq_true, Bool.or_eq_true, beq_iff_eq] at h
    simp only [PMp, Bool.and_eq_true, Bool.or_eq_true, beq_iff_eq]
    omega
  · intro n x1 x2 M1 ⟨k, e1, e2, hk, hn, hF, hB1, hS, hT, hz⟩
    subst e1; subst e2; subst hn
    have C1 : Core C M1 := hC.fr hF rfl rfl rfl rfl rfl rfl rfl
    unfold wph_X11_maps_9
    simp only [Int.toNat_natCast]
    refine ⟨⟨by omega, by omega⟩, fun h => sp_chooses hW C1 hB1 hS hT (fun b hb => hz b (by omega)) (fun M' F' B' I' => K M' (hF.tr (F'.mono (fun o k h => ?_))) B' (hS.fr F' rfl) I'), fun h => ⟨⟨by omega, by omega⟩, fun M7 e7 => ?_⟩⟩
    · simp only [P9, Bool.and_eq_true, Bool.or_eq_true, beq_iff_eq] at h
      simp only [PMp, Bool.and_eq_true, Bool.or_eq_true, beq_iff_eq]
      omega
    · subst e7
      have f : Fr (fun o k => o == 13 && k == 11) M1 (mset M1 13 11 k 0) := Fr.rf.set rfl
      refine ⟨12 - (k + 1), by omega, k + 1, trivial, by omega, by omega, rfl, hF.set rfl, hB1.set (by omega) (by omega), hS.fr f rfl, fun i e j l h1 h2 h3 h4 => by rw [f 13 8 _ rfl]; exact hT i e j l h1 h2 h3 h4, fun b hb => ?_⟩
      rw [mset_i]
      split
      · rfl
      · exact hz b (by omega)
