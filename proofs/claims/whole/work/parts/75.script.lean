/-! the script -/
section SCRIPT
variable {C : Nat → Nat → Int}
def prd (C : Nat → Nat → Int) (b : Nat) : Bool := (rg 0 (cn C 0)).any (fun x => decide (pt C x = (b : Int)))
theorem prd_iff {b : Nat} : prd C b = true ↔ ∃ x : Nat, x < cn C 0 ∧ pt C x = b := by
  unfold prd
  rw [List.any_eq_true]
  constructor
  · rintro ⟨x, h1, h2⟩
    exact ⟨x, (mem_rg.mp h1).2, of_decide_eq_true h2⟩
  · rintro ⟨x, h1, h2⟩
    exact ⟨x, mem_rg.mpr ⟨Nat.zero_le _, h1⟩, decide_eq_true h2⟩
def rlP (C : Nat → Nat → Int) (x : Nat) : Bool := decide (pt C x ≠ -1) && decide (C 3 x ≠ C 3 (12 + (pt C x).toNat))
def sD (C : Nat → Nat → Int) : Nat → List (Nat × Nat)
  | 0 => []
  | k + 1 => if pt C (pl C 0 0 k) = -1 then sD C k ++ [(0, pl C 0 0 k)] else sD C k
def sR (C : Nat → Nat → Int) : Nat → List (Nat × Nat)
  | 0 => sD C (cn C 0)
  | k + 1 => if rlP C k = true then sR C k ++ [(1, k)] else sR C k
def sI (C : Nat → Nat → Int) : Nat → List (Nat × Nat)
  | 0 => sR C (cn C 0)
  | k + 1 => if prd C k = true then sI C k else sI C k ++ [(2, k)]
/-- all steps, and how many of them delete or relabel -/
def SL (C : Nat → Nat → Int) : List (Nat × Nat) := sI C (cn C 1)
def OO (C : Nat → Nat → Int) : Nat := (sR C (cn C 0)).length
theorem sD_len : ∀ k : Nat, (sD C k).length = ((rg 0 k).filter (fun z => decide (pt C (pl C 0 0 z) = -1))).length := by
  intro k
  induction k with
  | zero => rfl
  | succ k ih =>
    unfold sD
    rw [rg_app (i := 0) (j := k) (k := k + 1) (by omega) (by omega), rg_cons (i := k) (j := k + 1) (by omega), rg_nil (i := k + 1) (j := k + 1) (by omega), List.filter_append, List.length_append, ← ih]
    by_cases c : pt C (pl C 0 0 k) = -1
    · rw [if_pos c, List.filter_cons_of_pos (by simpa using c)]
      simp
    · rw [if_neg c, List.filter_cons_of_neg (by simpa using c)]
      simp
theorem sD_all (hW : WF C) : (sD C (cn C 0)).length = ((rg 0 (cn C 0)).filter (fun z => decide (pt C z = -1))).length := by
  rw [sD_len]
  have p := (rr_post hW (t := 0) (by omega) (Nat.le_refl (cn C 0)) (Nat.le_refl (cn C 0)) (post_all hW (by omega))).1
  have q := (p.filter (fun z => decide (pt C z = -1))).length_eq
  rw [List.filter_map, List.length_map] at q
  unfold rr at q
  rw [List.filter_reverse, List.length_reverse] at q
  exact q
theorem sR_len : ∀ k : Nat, k ≤ cn C 0 → (sR C k).length + ((rg 0 k).filter (fun z => decide (pt C z = -1))).length ≤ (sD C (cn C 0)).length + k := by
  intro k
  induction k with
  | zero => intro _; exact Nat.le_refl _
  | succ k ih =>
    intro h
    have a := ih (by omega)
    unfold sR
    rw [rg_app (i := 0) (j := k) (k := k + 1) (by omega) (by omega), rg_cons (i := k) (j := k + 1) (by omega), rg_nil (i := k + 1) (j := k + 1) (by omega), List.filter_append, List.length_append]
    by_cases c : pt C k = -1
    · have r : ¬ (rlP C k = true) := by
        unfold rlP
        rw [decide_eq_false (by omega)]
        simp
      rw [if_neg r, List.filter_cons_of_pos (by simpa using c)]
      simp only [List.filter_nil, List.length_cons, List.length_nil]
      omega
    · rw [List.filter_cons_of_neg (by simpa using c)]
      simp only [List.filter_nil, List.length_nil]
      by_cases r : rlP C k = true
      · rw [if_pos r, List.length_append]
        simp only [List.length_cons, List.length_nil]
        omega
      · rw [if_neg r]
        omega
theorem sR_all (hW : WF C) : OO C ≤ cn C 0 := by
  have a := sR_len (C := C) (cn C 0) (Nat.le_refl _)
  have b := sD_all hW
  unfold OO
  omega
theorem sD_le : ∀ k : Nat, (sD C k).length ≤ k := by
  intro k
  have a := fl_le (fun z => decide (pt C (pl C 0 0 z) = -1)) (rg 0 k)
  rw [sD_len]
  rw [rg_len] at a
  omega
theorem sR_le : ∀ k : Nat, (sR C k).length ≤ cn C 0 + k := by
  intro k
  induction k with
  | zero => exact sD_le _
  | succ k ih =>
    unfold sR
    split
    · rw [List.length_append]
      simp only [List.length_cons, List.length_nil]
      omega
    · omega
theorem sI_le (hW : WF C) : ∀ k : Nat, OO C ≤ (sI C k).length ∧ (sI C k).length ≤ cn C 0 + k := by
  intro k
  induction k with
  | zero => exact ⟨Nat.le_refl _, sR_all hW⟩
  | succ k ih =>
    unfold sI
    split
    · omega
    · rw [List.length_append]
      simp only [List.length_cons, List.length_nil]
      omega
theorem SL_le (hW : WF C) : OO C ≤ (SL C).length ∧ (SL C).length ≤ 24 := by
  have a := sI_le hW (cn C 1)
  have n0 := hW.n12 (t := 0) (by omega)
  have n1 := hW.n12 (t := 1) (by omega)
  unfold SL
  omega
/-- the reference's rows of steps -/
def StM (M : Mem) (L : List (Nat × Nat)) : Prop := M 13 16 0 = (L.length : Int) ∧ ∀ k w p : Nat, L[k]? = some (w, p) → M 13 14 k = w ∧ M 13 15 k = p
def PSt (o k : Nat) : Bool := o == 13 && (k == 14 || k == 15 || k == 16)
theorem sp_notes {M : Mem} {Q : Mem → Prop} {L : List (Nat × Nat)} {p0 p1 : Int} {w p : Nat} (hB : Bd M) (hS : StM M L) (hl : L.length < 24) (e0 : p0 = w) (e1 : p1 = p) (hw : w < 3) (hp : p < 12) (K : ∀ M' : Mem, Fr PSt M M' → Bd M' → StM M' (L ++ [(w, p)]) → Q M') : wp_X11_notes M p0 p1 Q := by
  subst e0; subst e1
  unfold wp_X11_notes wpe_X11_notes
  rw [hS.1, Int.toNat_natCast]
  refine ⟨⟨by omega, by omega⟩, fun M1 e1 => ?_⟩
  have a1 : M1 13 16 0 = (L.length : Int) := by rw [e1, mset_ne (by omega)]; exact hS.1
  rw [a1, Int.toNat_natCast]
  refine ⟨⟨by omega, by omega⟩, fun M3 e3 M5 e5 => ?_⟩
  have a3 : M3 13 16 0 = (L.length : Int) := by rw [e3, mset_ne (by omega)]; exact a1
  rw [a3] at e5
  refine K M5 ?_ ?_ ⟨?_, fun k w' p' hk => ?_⟩
  · rw [e5, e3, e1]
    exact ((Fr.rf.set rfl).set rfl).set rfl
  · rw [e5, e3, e1]
    exact ((hB.set (by omega) (by omega)).set (by omega) (by omega)).set (by omega) (by omega)
  · rw [e5, mset_eq, List.length_append]
    simp
  · rw [e5, mset_ne (by omega), mset_ne (by omega), e3, mset_ne (by omega), mset_i, e1, mset_i, mset_ne (by omega)]
    by_cases c : k < L.length
    · rw [List.getElem?_append_left c] at hk
      rw [if_neg (by omega), if_neg (by omega)]
      exact hS.2 k w' p' hk
    · rw [List.getElem?_append_right (by omega)] at hk
      by_cases d : k = L.length
      · subst d
        rw [Nat.sub_self] at hk
        injection hk with hk
        injection hk with h1 h2
        rw [if_pos rfl, if_pos rfl, h1, h2]
        exact ⟨rfl, rfl⟩
      · rw [List.getElem?_eq_none (by simp; omega)] at hk
        cases hk
def PSc (o k : Nat) : Bool := o == 13 && (k == 4 || k == 8 || k == 9 || k == 11 || k == 13 || k == 14 || k == 15 || k == 16 || k == 17)
/-- the reference's script stands -/
def ScrI (C : Nat → Nat → Int) (M : Mem) : Prop := MapI C M ∧ Sz C M ∧ StM M (SL C) ∧ M 13 17 0 = (OO C : Int)
theorem MapI.fr {P : Nat → Nat → Bool} {M M' : Mem} (h : MapI C M) (hF : Fr P M M') (h9 : P 13 9 = false) (h11 : P 13 11 = false) : MapI C M' := ⟨fun x hx => by rw [hF 13 9 x h9]; exact h.1 x hx, fun b hb => by rw [hF 13 11 b h11]; exact h.2 b hb⟩
theorem pt_int (hW : WF C) (x : Nat) : -1 ≤ pt C x ∧ pt C x < 12 ∧ pt C x < cn C 1 ∨ pt C x = -1 := by
  have n1 := hW.n12 (t := 1) (by omega)
  rcases pt_rg hW x with r | ⟨b, r, r1, _⟩ <;> omega
set_option maxHeartbeats 4000000 in
theorem sp_scripts {M : Mem} {Q : Mem → Prop} (hW : WF C) (hC : Core C M) (hB : Bd M) (K : ∀ M' : Mem, Fr PSc M M' → Bd M' → ScrI C M' → Q M') : wp_X11_scripts M Q := by
  have n0 := hW.n12 (t := 0) (by omega)
  have n1 := hW.n12 (t := 1) (by omega)
  unfold wp_X11_scripts
  refine ⟨fun n x2 M1 => ∃ k : Nat, x2 = k ∧ k ≤ cn C 0 ∧ n = 200 + (20 - k) ∧ Fr PSc M M1 ∧ Bd M1 ∧ MapI C M1 ∧ Sz C M1 ∧ StM M1 (sD C k),
    fun n x2 M1 => ∃ k : Nat, x2 = k ∧ k ≤ cn C 0 ∧ n = 100 + (20 - k) ∧ Fr PSc M M1 ∧ Bd M1 ∧ MapI C M1 ∧ Sz C M1 ∧ StM M1 (sR C k),
    fun n x2 M1 => ∃ k : Nat, x2 = k ∧ k ≤ cn C 1 ∧ n = 20 - k ∧ Fr PSc M M1 ∧ Bd M1 ∧ MapI C M1 ∧ Sz C M1 ∧ StM M1 (sI C k) ∧ M1 13 17 0 = (OO C : Int), ?_, ?_, ?_, ?_⟩
  · unfold wpe_X11_scripts
    refine sp_maps hW hC hB (fun M2 F2 B2 S2 I2 M3 e3 => ?_)
    subst e3
    have f : Fr (fun o k => o == 13 && k == 16) M2 (mset M2 13 16 0 0) := Fr.rf.set rfl
    refine ⟨_, 0, rfl, Nat.zero_le _, rfl, (F2.mono (fun o k h => ?_)).set rfl, B2.set (by omega) (by omega), I2.fr f rfl rfl, S2.fr f rfl, mset_eq, fun k w p hk => ?_⟩
    · simp only [PMp, Bool.and_eq_true, Bool.or_eq_true, beq_iff_eq] at h
      simp only [PSc, Bool.and_eq_true, Bool.or_eq_true, beq_iff_eq]
      omega
    · cases hk
  · intro n x2 M1 ⟨k, e2, hk, hn, hF, hB1, hI, hS, hT⟩
    subst e2; subst hn
    have C1 : Core C M1 := hC.fr hF rfl rfl rfl rfl rfl rfl rfl
    unfold wph_X11_scripts_12
    rw [C1 5 0 rfl, hW.n (t := 0) (by omega)]
    refine ⟨⟨by omega, by omega⟩, ⟨by omega, by omega⟩, fun h => ⟨100 + (20 - 0), by omega, 0, rfl, Nat.zero_le _, rfl, hF, hB1, hI, hS, (show sR C 0 = sD C k from by rw [show k = cn C 0 from by omega]; rfl) ▸ hT⟩, fun h => ?_⟩
    have lk := pl_lt (b := 0) hW (t := 0) (p := k) (by omega) (by omega)
    have sl := sD_le (C := C) k
    refine sp_byPost hW C1 hS (t := 0) (p := pl C 0 0 k) (by omega) lk rfl (by rw [pl_po hW (by omega) (by omega)]) ?_
    rw [Int.toNat_natCast, hI.1 _ lk]
    have pr := pt_int hW (pl C 0 0 k)
    unfold wpj_X11_scripts_45
    refine ⟨⟨by omega, by omega⟩, ⟨by omega, by omega⟩, fun h2 => ⟨200 + (20 - (k + 1)), by omega, k + 1, by omega, by omega, rfl, hF, hB1, hI, hS, ?_⟩, fun h2 => sp_notes hB1 hT (by omega) (w := 0) rfl rfl (by omega) (by omega) (fun M2 F2 B2 T2 => ⟨200 + (20 - (k + 1)), by omega, k + 1, by omega, by omega, rfl, hF.tr (F2.mono (fun o k h => ?_)), B2, hI.fr F2 rfl rfl, hS.fr F2 rfl, ?_⟩)⟩
    · unfold sD
      rw [if_neg h2]
      exact hT
    · simp only [PSt, Bool.and_eq_true, Bool.or_eq_true, beq_iff_eq] at h
      simp only [PSc, Bool.and_eq_true, Bool.or_eq_true, beq_iff_eq]
      omega
    · unfold sD
      rw [if_pos (Decidable.byContradiction h2)]
      exact T2
  · intro n x2 M1 ⟨k, e2, hk, hn, hF, hB1, hI, hS, hT⟩
    subst e2; subst hn
    have C1 : Core C M1 := hC.fr hF rfl rfl rfl rfl rfl rfl rfl
    unfold wph_X11_scripts_53
    rw [C1 5 0 rfl, hW.n (t := 0) (by omega)]
    refine ⟨⟨by omega, by omega⟩, ⟨by omega, by omega⟩, fun h M17 e17 => ?_, fun h => ?_⟩
    · have ek : k = cn C 0 := by omega
      subst ek
      have s := sR_all hW
      rw [hT.1] at e17
      have f : Fr (fun o k => o == 13 && k == 17) M1 M17 := e17 ▸ Fr.rf.set rfl
      unfold OO at s
      refine ⟨20 - 0, by omega, 0, rfl, Nat.zero_le _, rfl, e17 ▸ hF.set rfl, e17 ▸ hB1.set (by omega) (by omega), hI.fr f rfl rfl, hS.fr f rfl, ⟨by rw [f 13 16 0 rfl]; exact hT.1, fun k w p hk => by rw [f 13 14 k rfl, f 13 15 k rfl]; exact hT.2 k w p hk⟩, by rw [e17, mset_eq]; rfl⟩
    · have sl := sR_le (C := C) k
      have pr := pt_int hW k
      rw [Int.toNat_natCast, hI.1 k (by omega)]
      have no : ¬ (rlP C k = true) → wpj_X11_scripts_102 (k : Int) M1 (fun (x2 : Int) (M2 : Mem) => ∃ n1 : Nat, n1 < 100 + (20 - k) ∧ ∃ k : Nat, x2 = k ∧ k ≤ cn C 0 ∧ n1 = 200 + (20 - k) ∧ Fr PSc M M2 ∧ Bd M2 ∧ MapI C M2 ∧ Sz C M2 ∧ StM M2 (sD C k)) (fun (x2 : Int) (M2 : Mem) => ∃ n1 : Nat, n1 < 100 + (20 - k) ∧ ∃ k : Nat, x2 = k ∧ k ≤ cn C 0 ∧ n1 = 100 + (20 - k) ∧ Fr PSc M M2 ∧ Bd M2 ∧ MapI C M2 ∧ Sz C M2 ∧ StM M2 (sR C k)) (fun (x2 : Int) (M2 : Mem) => ∃ n1 : Nat, n1 < 100 + (20 - k) ∧ ∃ k : Nat, x2 = k ∧ k ≤ cn C 1 ∧ n1 = 20 - k ∧ Fr PSc M M2 ∧ Bd M2 ∧ MapI C M2 ∧ Sz C M2 ∧ StM M2 (sI C k) ∧ M2 13 17 0 = (OO C : Int)) Q := by
        intro hr
        unfold wpj_X11_scripts_102
        refine ⟨100 + (20 - (k + 1)), by omega, k + 1, by omega, by omega, rfl, hF, hB1, hI, hS, ?_⟩
        unfold sR
        rw [if_neg hr]
        exact hT
      refine ⟨⟨by omega, by omega⟩, ⟨by omega, by omega⟩, fun h2 => no ?_, fun h2 => ?_⟩
      · unfold rlP
        rw [decide_eq_false (by omega)]
        simp
      · have rb := hB1.r 13 3 k
        have rb' := hB1.r 13 3 (12 + pt C k).toNat
        rw [C1 3 k rfl] at rb ⊢
        rw [C1 3 _ rfl] at rb' ⊢
        rw [show (12 + pt C k).toNat = 12 + (pt C k).toNat from by omega] at rb' ⊢
        refine ⟨⟨by omega, by omega⟩, ⟨by omega, by omega⟩, ⟨by omega, by omega⟩, rb, rb', fun h3 => no ?_, fun h3 => sp_notes hB1 hT (by omega) (w := 1) rfl rfl (by omega) (by omega) (fun M2 F2 B2 T2 => ?_)⟩
        · unfold rlP
          rw [decide_eq_false (p := C 3 k ≠ C 3 (12 + (pt C k).toNat)) (fun z => z h3)]
          simp
        · unfold wpj_X11_scripts_102
          refine ⟨100 + (20 - (k + 1)), by omega, k + 1, by omega, by omega, rfl, hF.tr (F2.mono (fun o k h => ?_)), B2, hI.fr F2 rfl rfl, hS.fr F2 rfl, ?_⟩
          · simp only [PSt, Bool.and_eq_true, Bool.or_eq_true, beq_iff_eq] at h
            simp only [PSc, Bool.and_eq_true, Bool.or_eq_true, beq_iff_eq]
            omega
          · unfold sR
            rw [if_pos]
            · exact T2
            · unfold rlP
              rw [decide_eq_true (p := pt C k ≠ -1) h2, decide_eq_true (p := C 3 k ≠ C 3 (12 + (pt C k).toNat)) h3]
              rfl
  · intro n x2 M1 ⟨k, e2, hk, hn, hF, hB1, hI, hS, hT, hO⟩
    subst e2; subst hn
    have C1 : Core C M1 := hC.fr hF rfl rfl rfl rfl rfl rfl rfl
    unfold wph_X11_scripts_118
    rw [C1 5 1 rfl, hW.n (t := 1) (by omega)]
    refine ⟨⟨by omega, by omega⟩, ⟨by omega, by omega⟩, fun h => K M1 hF hB1 ⟨hI, hS, (show SL C = sI C k from by rw [show k = cn C 1 from by omega]; rfl) ▸ hT, hO⟩, fun h => ?_⟩
    have sl := sI_le hW k
    have bb := hI.2 k (by omega)
    rw [Int.toNat_natCast]
    unfold wpj_X11_scripts_143
    refine ⟨⟨by omega, by omega⟩, by rcases bb.1 with z | z <;> rw [z] <;> exact ⟨by decide, by decide⟩, fun h2 => ⟨20 - (k + 1), by omega, k + 1, by omega, by omega, rfl, hF, hB1, hI, hS, ?_, hO⟩, fun h2 => sp_notes hB1 hT (by omega) (w := 2) rfl rfl (by omega) (by omega) (fun M2 F2 B2 T2 => ⟨20 - (k + 1), by omega, k + 1, by omega, by omega, rfl, hF.tr (F2.mono (fun o k h => ?_)), B2, hI.fr F2 rfl rfl, hS.fr F2 rfl, ?_, by rw [F2 13 17 0 rfl]; exact hO⟩)⟩
    · unfold sI
      rw [if_pos (prd_iff.mpr (bb.2.mp (by rcases bb.1 with z | z; exact absurd z h2; exact z)))]
      exact hT
    · simp only [PSt, Bool.and_eq_true, Bool.or_eq_true, beq_iff_eq] at h
      simp only [PSc, Bool.and_eq_true, Bool.or_eq_true, beq_iff_eq]
      omega
    · unfold sI
      rw [if_neg (fun z => h2 (fun y => by have := bb.2.mpr (prd_iff.mp z); omega))]
      exact T2
end SCRIPT
