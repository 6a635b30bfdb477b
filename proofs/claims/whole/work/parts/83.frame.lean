/-! what stands between two calls -/
def Pc (o _k : Nat) : Bool := decide (o < 13)
def Pm (o _k : Nat) : Bool := o == 13
def St1 (C : Nat → Nat → Int) (M : Mem) : Prop := MP C M (cn C 0) ∧ StC C M (SL C) ∧ M 7 5 0 = (OO C : Int) ∧ MvC C M (cn C 0)
def IK (C : Nat → Nat → Int) (M : Mem) : Prop := Cls C M ∧ M 9 4 0 = 0 ∧ M 10 4 0 = 0 ∧ (M 0 8 0 = 0 ∨ M 0 8 0 = 1 ∧ St1 C M)
theorem Pc_no {o k : Nat} (h : 13 ≤ o) : Pc o k = false := by
  unfold Pc
  exact decide_eq_false (by omega)
theorem Pc_of {P : Nat → Nat → Bool} {M M' : Mem} (h : Fr P M M') (hp : ∀ o k : Nat, 13 ≤ o → P o k = false) : Fr Pc M M' := h.mono (fun o k h1 => by
  unfold Pc
  refine decide_eq_true (Decidable.byContradiction (fun c => ?_))
  rw [hp o k (by omega)] at h1
  cases h1)
theorem Pc_set {M M1 : Mem} {o k i : Nat} {v : Int} (h : Fr Pc M M1) (ho : o < 13) : Fr Pc M (mset M1 o k i v) := h.set (decide_eq_true ho)
section FRM
variable {C : Nat → Nat → Int} {M M' : Mem}
theorem MP.eq {x : Nat} (h : MP C M x) (e : ∀ k i : Nat, M' 6 k i = M 6 k i) : MP C M' x := by
  unfold MP
  simp only [e]
  exact h
theorem StC.eq {L : List (Nat × Nat)} (h : StC C M L) (e : ∀ k i : Nat, k = 2 ∨ k = 3 ∨ k = 4 ∨ k = 5 → M' 7 k i = M 7 k i) : StC C M' L := by
  unfold StC
  rw [e 4 0 (by omega)]
  refine ⟨h.1, fun k w p hk => ?_⟩
  rw [e 2 k (by omega), e 3 k (by omega)]
  exact h.2 k w p hk
theorem MvC.eq {x : Nat} (h : MvC C M x) (e : ∀ k i : Nat, M' 8 k i = M 8 k i) : MvC C M' x := by
  unfold MvC
  simp only [e]
  exact h
theorem St1.fr (h : St1 C M) (e6 : ∀ k i : Nat, M' 6 k i = M 6 k i) (e7 : ∀ k i : Nat, k = 2 ∨ k = 3 ∨ k = 4 ∨ k = 5 → M' 7 k i = M 7 k i) (e8 : ∀ k i : Nat, M' 8 k i = M 8 k i) : St1 C M' := ⟨h.1.eq e6, h.2.1.eq e7, (e7 5 0 (by omega)).trans h.2.2.1, h.2.2.2.eq e8⟩
/-- what changes only rows, tables and what is shown keeps all that stands -/
theorem IK.fr {P : Nat → Nat → Bool} (h : IK C M) (hF : Fr P M M') (hk : ∀ o k : Nat, kt o k = true → P o k = false) (h0 : P 0 8 = false) (h6 : ∀ k : Nat, P 6 k = false) (h7 : ∀ k : Nat, k = 2 ∨ k = 3 ∨ k = 4 ∨ k = 5 → P 7 k = false) (h8 : ∀ k : Nat, P 8 k = false) (hz : M' 9 4 0 = 0 ∧ M' 10 4 0 = 0) : IK C M' := by
  obtain ⟨a, b, c, d⟩ := h
  refine ⟨a.fr hF hk, hz.1, hz.2, ?_⟩
  rw [hF 0 8 0 h0]
  rcases d with d | d
  · exact Or.inl d
  · exact Or.inr ⟨d.1, d.2.fr (fun k i => hF 6 k i (h6 k)) (fun k i hk => hF 7 k i (h7 k hk)) (fun k i => hF 8 k i (h8 k))⟩
theorem kt_of {o k : Nat} (h : kt o k = true) : o = 11 ∨ o = 12 ∨ o = 1 := by
  simp only [kt, Bool.or_eq_true, beq_iff_eq] at h
  omega
theorem kt_all {P : Nat → Nat → Bool} (h : ∀ k : Nat, P 11 k = false ∧ P 12 k = false ∧ P 1 k = false) : ∀ o k : Nat, kt o k = true → P o k = false := fun o k hk => by
  rcases kt_of hk with rfl | rfl | rfl
  · exact (h k).1
  · exact (h k).2.1
  · exact (h k).2.2
theorem LayP.z {b : Nat} (h : LayP C M b) : M 9 4 0 = 0 ∧ M 10 4 0 = 0 := by
  have a := h.1.2.2 0 (Nat.zero_le _)
  have c := h.2.1.2.2 0 (Nat.zero_le _)
  rw [sm_self _ (Nat.le_refl _)] at a c
  exact ⟨a, c⟩
theorem LayQ.z {pr : Nat → Nat → Int} (h : LayQ C pr M) : M 9 4 0 = 0 ∧ M 10 4 0 = 0 := by
  have a := h.1.2.2 0 (Nat.zero_le _)
  have c := h.2.1.2.2 0 (Nat.zero_le _)
  rw [sm_self _ (Nat.le_refl _)] at a c
  exact ⟨a, c⟩
theorem PL13 : ∀ o k : Nat, 13 ≤ o → PL o k = false := fun o k h => by
  cases e : PL o k with
  | false => rfl
  | true =>
    simp only [PL, Bool.or_eq_true, Bool.and_eq_true, beq_iff_eq] at e
    omega
theorem sp_settle {Q : Mem → Prop} (hW : WF C) (hI : IK C M) (hB : Bd M) (K : ∀ M' : Mem, Fr Pc M M' → Bd M' → IK C M' → St1 C M' → Q M') : wp_X10_settle M Q := by
  obtain ⟨hX, z9, z10, hs⟩ := hI
  unfold wp_X10_settle wpe_X10_settle
  refine ⟨hB.r _ _ _, fun h => ?_, fun h => ?_⟩
  · unfold wp_X3_layPreorderBackwards wpe_X3_layPreorderBackwards
    refine sp_lay (b := 1) hW hX hB (by omega) rfl z9 z10 (fun M1 F1 B1 L1 => ?_)
    have X1 := hX.fr F1 (kt_all (fun k => ⟨rfl, rfl, rfl⟩))
    have z1 := L1.z
    refine sp_forget (b := 1) hW B1 (fun M2 F2 B2 T2 => ?_)
    have X2 := X1.fr F2 (kt_all (fun k => ⟨rfl, rfl, rfl⟩))
    have L2 : LayP C M2 1 := by
      unfold LayP RowP at L1 ⊢
      simp only [F2 9 _ _ rfl, F2 10 _ _ rfl, F2 2 _ _ rfl]
      exact L1
    refine sp_choose hW ⟨L2, B2, T2⟩ (fun M3 F3 B3 mp => ?_)
    have X3 := X2.fr F3 (kt_all (fun k => ⟨rfl, rfl, rfl⟩))
    refine sp_write hW X3 B3 mp (fun M4 F4 B4 st oo => ?_)
    have X4 := X3.fr F4 (kt_all (fun k => ⟨rfl, rfl, rfl⟩))
    have mp4 : MP C M4 (cn C 0) := mp.eq (fun k i => F4 6 k i rfl)
    refine sp_find hW X4 B4 mp4 (fun M5 F5 B5 mv => ?_)
    have X5 := X4.fr F5 (kt_all (fun k => ⟨rfl, rfl, rfl⟩))
    intro M13 e13
    have st5 : St1 C M5 := ⟨mp4.eq (fun k i => F5 6 k i rfl), st.eq (fun k i _ => F5 7 k i rfl), (F5 7 5 0 rfl).trans oo, mv⟩
    have st13 : St1 C M13 := st5.fr (fun k i => by rw [e13, mset_ne (by omega)]) (fun k i _ => by rw [e13, mset_ne (by omega)]) (fun k i => by rw [e13, mset_ne (by omega)])
    have F : Fr Pc M M5 := ((((Pc_of F1 PL13).tr (Pc_of F2 (fun o k h => by
      cases e : P41 o k with
      | false => rfl
      | true =>
        simp only [P41, Bool.and_eq_true, beq_iff_eq] at e
        omega))).tr (Pc_of F3 (fun o k h => by
      cases e : PCM o k with
      | false => rfl
      | true =>
        simp only [PCM, Bool.or_eq_true, Bool.and_eq_true, beq_iff_eq] at e
        omega))).tr (Pc_of F4 (fun o k h => by
      cases e : P7w o k with
      | false => rfl
      | true =>
        simp only [P7w, Bool.or_eq_true, Bool.and_eq_true, beq_iff_eq] at e
        omega))).tr (Pc_of F5 (fun o k h => by
      cases e : P8 o k with
      | false => rfl
      | true =>
        simp only [P8, beq_iff_eq] at e
        omega))
    refine K M13 ?_ ?_ ⟨?_, ?_, ?_, Or.inr ⟨?_, st13⟩⟩ st13
    · rw [e13]
      exact Pc_set F (by omega)
    · rw [e13]
      exact B5.set (by omega) (by omega)
    · exact X5.fr (P := fun o k => o == 0) (fun o k i h => by
        rw [e13, mset_ne]
        rintro ⟨rfl, _⟩
        cases h) (kt_all (fun k => ⟨rfl, rfl, rfl⟩))
    · rw [e13, mset_ne (by omega), F5 9 4 0 rfl, F4 9 4 0 rfl, F3 9 4 0 rfl, F2 9 4 0 rfl]
      exact z1.1
    · rw [e13, mset_ne (by omega), F5 10 4 0 rfl, F4 10 4 0 rfl, F3 10 4 0 rfl, F2 10 4 0 rfl]
      exact z1.2
    · rw [e13, mset_eq]
  · rcases hs with hs | hs
    · exact absurd hs h
    · exact K M Fr.rf hB ⟨hX, z9, z10, Or.inr hs⟩ hs.2
end FRM
