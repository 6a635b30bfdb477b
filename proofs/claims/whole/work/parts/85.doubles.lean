/-! doubles that are numbers -/
def okD : FP.Core.Datum → Prop
  | .nan => False
  | .inf _ => True
  | .fin _ c q => c < 9007199254740992 ∧ q ≤ 971
theorem fp_qmax : FP.Core.Fmt.qmax FP.Core.b64 = 971 := by decide +kernel
theorem fp_qmin : FP.Core.Fmt.qmin FP.Core.b64 = -1074 := by decide +kernel
theorem fp_tails : FP.Core.Fmt.tails FP.Core.b64 = 4503599627370496 := by decide +kernel
theorem fp_exps : FP.Core.Fmt.exps FP.Core.b64 = 2048 := by decide +kernel
theorem fp_p : (2 : Nat) ^ (FP.Core.Fmt.p FP.Core.b64) = 9007199254740992 := by decide +kernel
theorem ok_bound {s : Bool} {c : Nat} {q : Int} (h : c < 9007199254740992) : okD (FP.Core.bound FP.Core.b64 s c q) := by
  unfold FP.Core.bound
  rw [fp_qmax]
  split
  · rename_i h2
    exact ⟨h, h2⟩
  · trivial
theorem ok_settle {s : Bool} {c : Nat} {q : Int} : okD (FP.Core.settle FP.Core.b64 s c q) := by
  unfold FP.Core.settle
  rw [fp_p, fp_tails]
  split
  · rename_i h
    exact ok_bound h
  · exact ok_bound (by omega)
theorem ok_rr {s : Bool} {n d : Nat} {e : Int} : okD (FP.Core.roundRatio FP.Core.b64 s n d e) := by
  unfold FP.Core.roundRatio
  split
  · rw [fp_qmin]
    exact ⟨by omega, by omega⟩
  · unfold FP.Core.roundAt
    exact ok_settle
theorem ok_round {d : FP.Core.Datum} (h : d ≠ .nan) : okD (FP.Core.round FP.Core.b64 d) := by
  cases d with
  | nan => exact absurd rfl h
  | inf s => trivial
  | fin s c q => exact ok_rr
theorem enc_ok {d : FP.Core.Datum} (h : okD d) : ∃ s e t : Nat, s ≤ 1 ∧ e ≤ 2047 ∧ t < 4503599627370496 ∧ (e = 2047 → t = 0) ∧ FP.Core.encode FP.Core.b64 d = (s * 2048 + e) * 4503599627370496 + t := by
  have hb : ∀ s : Bool, s.toNat ≤ 1 := fun s => by cases s <;> decide
  cases d with
  | nan => exact h.elim
  | inf s =>
    refine ⟨s.toNat, 2047, 0, hb s, by omega, by omega, fun _ => rfl, ?_⟩
    unfold FP.Core.encode FP.Core.assemble
    rw [fp_exps, fp_tails]
  | fin s c q =>
    obtain ⟨h1, h2⟩ := h
    unfold FP.Core.encode
    rw [fp_tails, fp_qmin]
    dsimp only
    by_cases k : c < 4503599627370496
    · refine ⟨s.toNat, 0, c, hb s, by omega, k, fun z => absurd z (by omega), ?_⟩
      rw [if_pos k]
      unfold FP.Core.assemble
      rw [fp_exps, fp_tails]
    · refine ⟨s.toNat, (q - -1074).toNat + 1, c - 4503599627370496, hb s, by omega, by omega, fun z => absurd z (by omega), ?_⟩
      rw [if_neg k]
      unfold FP.Core.assemble
      rw [fp_exps, fp_tails]
theorem enc_toNat {d : FP.Core.Datum} (h : okD d) : (UInt64.ofNat (FP.Core.encode FP.Core.b64 d)).toNat = FP.Core.encode FP.Core.b64 d := by
  obtain ⟨s, e, t, h1, h2, h3, h4, h5⟩ := enc_ok h
  rw [UInt64.toNat_ofNat', h5]
  omega
theorem vf_ok {d : FP.Core.Datum} (h : okD d) : vf_n64 (UInt64.ofNat (FP.Core.encode FP.Core.b64 d)) := by
  have a := enc_toNat h
  obtain ⟨s, e, t, h1, h2, h3, h4, h5⟩ := enc_ok h
  unfold vf_n64
  rw [UInt64.le_iff_toNat_le, UInt64.toNat_and, a, h5]
  have m : (0x7fffffffffffffff : UInt64).toNat = 2 ^ 63 - 1 := by decide +kernel
  have m2 : (0x7ff0000000000000 : UInt64).toNat = 9218868437227405312 := by decide +kernel
  rw [m, m2, Nat.and_two_pow_sub_one_eq_mod]
  omega
theorem dec_ok {d : FP.Core.Datum} (h : okD d) : FP.Core.decode FP.Core.b64 (UInt64.ofNat (FP.Core.encode FP.Core.b64 d)).toNat ≠ .nan := by
  rw [enc_toNat h]
  obtain ⟨s, e, t, h1, h2, h3, h4, h5⟩ := enc_ok h
  unfold FP.Core.decode FP.Core.fieldE FP.Core.fieldT
  rw [fp_exps, fp_tails, h5]
  have e1 : ((s * 2048 + e) * 4503599627370496 + t) / 4503599627370496 % 2048 = e := by omega
  have e2 : ((s * 2048 + e) * 4503599627370496 + t) % 4503599627370496 = t := by omega
  rw [e1, e2]
  by_cases c : e = 2047
  · rw [if_pos (by omega), if_pos (h4 c)]
    exact fun z => nomatch z
  · rw [if_neg (by omega)]
    split
    · exact fun z => nomatch z
    · exact fun z => nomatch z
def chkI (y : Nat) : Bool := match FP.Core.decode FP.Core.b64 (FP.i2d (Int32.ofInt (y : Int))).toNat with
  | .fin _ c _ => decide (y = 0) || decide (c ≠ 0)
  | _ => false
theorem chkI_all : (List.range 1201).all chkI = true := by decide +kernel
theorem i2d_fin {y : Int} (h : 0 ≤ y ∧ y ≤ 1200) : ∃ (s : Bool) (c : Nat) (q : Int), FP.Core.decode FP.Core.b64 (FP.i2d (Int32.ofInt y)).toNat = .fin s c q ∧ (y ≠ 0 → c ≠ 0) := by
  obtain ⟨n, rfl⟩ : ∃ n : Nat, y = n := ⟨y.toNat, by omega⟩
  have a := List.all_eq_true.mp chkI_all n (List.mem_range.mpr (by omega))
  unfold chkI at a
  split at a
  · rename_i s c q e
    refine ⟨s, c, q, e, fun z => ?_⟩
    rcases Bool.or_eq_true _ _ ▸ a with b | b
    · exact absurd (of_decide_eq_true b) (by omega)
    · exact of_decide_eq_true b
  · cases a
theorem one_fin : ∃ (s : Bool) (c : Nat) (q : Int), FP.Core.decode FP.Core.b64 FP.dconst1.toNat = .fin s c q := by
  refine ⟨false, 4503599627370496, -52, ?_⟩
  decide +kernel
theorem sim_ok {y z : Int} (hy : 0 ≤ y ∧ y ≤ 1200) (hz : 1 ≤ z ∧ z ≤ 1200) : vf_n64 (FP.ddiv (FP.i2d (Int32.ofInt y)) (FP.i2d (Int32.ofInt z))) ∧ vf_n64 (FP.dsub FP.dconst1 (FP.ddiv (FP.i2d (Int32.ofInt y)) (FP.i2d (Int32.ofInt z)))) := by
  obtain ⟨s, c, q, e, _⟩ := i2d_fin hy
  obtain ⟨t, d, r, e', d0⟩ := i2d_fin (y := z) (by omega)
  obtain ⟨u, f, g, e1⟩ := one_fin
  have dz : d ≠ 0 := d0 (by omega)
  have hq : okD (FP.Core.quotient FP.Core.b64 (FP.Core.decode FP.Core.b64 (FP.i2d (Int32.ofInt y)).toNat) (FP.Core.decode FP.Core.b64 (FP.i2d (Int32.ofInt z)).toNat)) := by
    rw [e, e']
    unfold FP.Core.quotient
    dsimp only
    rw [if_neg dz]
    exact ok_rr
  refine ⟨vf_ok hq, ?_⟩
  have hd : FP.Core.decode FP.Core.b64 (FP.ddiv (FP.i2d (Int32.ofInt y)) (FP.i2d (Int32.ofInt z))).toNat ≠ .nan := dec_ok hq
  refine vf_ok (d := FP.Core.round FP.Core.b64 (FP.Core.exactSum (FP.Core.decode FP.Core.b64 FP.dconst1.toNat) (FP.Core.negate (FP.Core.decode FP.Core.b64 (FP.ddiv (FP.i2d (Int32.ofInt y)) (FP.i2d (Int32.ofInt z))).toNat)))) (ok_round ?_)
  rw [e1]
  cases k : FP.Core.decode FP.Core.b64 (FP.ddiv (FP.i2d (Int32.ofInt y)) (FP.i2d (Int32.ofInt z))).toNat with
  | nan => exact absurd k hd
  | inf b => exact fun z => nomatch z
  | fin b c q => exact fun z => nomatch z
section SIM
variable {C : Nat → Nat → Int}
theorem fn_sum0 (hW : WF C) : sm (fn C 0 0) 0 (cn C 0) = sm (cdl C) 0 (cn C 0) := by
  have a := RQ_post (pr := pln C) (pr' := cpr C) (i := 0) (j := cn C 0) (k := 0) (l := 0) (a := 0) (b := cn C 0) (c := 0) (d := 0) hW (fun _ _ _ _ => rfl) (Nat.le_refl _) (Nat.le_refl _) (Nat.zero_le _) (Nat.zero_le _) (post_all hW (by omega)) (fun z hz => ⟨fun h => absurd h.2 (Nat.not_lt_zero _), fun h => absurd h.2 (Nat.not_lt_zero _)⟩)
  unfold RQ at a
  rw [rr_nil (Nat.le_refl _), rg_nil (Nat.le_refl _), dd_rl, dd_sl _ _ _ _ (Nat.le_refl _)] at a
  exact a
theorem fn_sum1 (hW : WF C) : sm (fn C 1 0) 0 (cn C 1) = sm (cil C) 0 (cn C 1) := by
  have a := RQ_post (pr := pln C) (pr' := cpr C) (i := 0) (j := 0) (k := 0) (l := cn C 1) (a := 0) (b := 0) (c := 0) (d := cn C 1) hW (fun _ _ _ _ => rfl) (Nat.zero_le _) (Nat.zero_le _) (Nat.le_refl _) (Nat.le_refl _) (fun z hz => ⟨fun h => absurd h.2 (Nat.not_lt_zero _), fun h => absurd h.2 (Nat.not_lt_zero _)⟩) (post_all hW (by omega))
  unfold RQ at a
  rw [rr_nil (Nat.le_refl _), rg_nil (Nat.le_refl _), dd_rrr, dd_sr _ _ _ _ (Nat.le_refl _)] at a
  exact a
/-- the greatest cost -/
def AW (C : Nat → Nat → Int) : Int := sm (cdl C) 0 (cn C 0) + sm (cil C) 0 (cn C 1)
theorem AW_bd (hW : WF C) : 0 ≤ AW C ∧ AW C ≤ 1200 := by
  have n0 := hW.n12 (t := 0) (by omega)
  have n1 := hW.n12 (t := 1) (by omega)
  have a := sm_bd (cdl C) (i := 0) (j := cn C 0) (fun k _ h => hW.dl h)
  have b := sm_bd (cil C) (i := 0) (j := cn C 1) (fun k _ h => hW.il h)
  unfold AW
  omega
def SIM (C : Nat → Nat → Int) : UInt64 := if AW C = 0 then FP.dconst1 else FP.dsub FP.dconst1 (FP.ddiv (FP.i2d (Int32.ofInt (DI C))) (FP.i2d (Int32.ofInt (AW C))))
theorem k_similarity {M : Mem} {Q : UInt64 → Mem → Prop} (hW : WF C) (hI : IK C M) (hB : Bd M) (h : ∀ M' : Mem, Fr Pc M M' → Bd M' → IK C M' → Q (SIM C) M') : wp_X10_similarity M Q := by
  have ab := AW_bd hW
  have db := DI_bd hW
  unfold wp_X10_similarity wpe_X10_similarity
  refine sp_distK hW hI hB (fun M1 F1 B1 I1 L1 => sp_withoutPairs (b := 0) hW L1.1 L1.2.1 ?_)
  rw [fn_sum0 hW, fn_sum1 hW]
  have hh := h M1 (Pdd_c F1) B1 I1
  change inR (AW C) ∧ ((AW C ≠ 0 → vf_n64 (FP.ddiv (FP.i2d (Int32.ofInt (DI C))) (FP.i2d (Int32.ofInt (AW C)))) ∧ vf_n64 (FP.dsub FP.dconst1 (FP.ddiv (FP.i2d (Int32.ofInt (DI C))) (FP.i2d (Int32.ofInt (AW C))))) ∧ Q (FP.dsub FP.dconst1 (FP.ddiv (FP.i2d (Int32.ofInt (DI C))) (FP.i2d (Int32.ofInt (AW C))))) M1) ∧ (¬ (AW C ≠ 0) → Q FP.dconst1 M1))
  unfold SIM at hh
  refine ⟨⟨by omega, by omega⟩, fun z => ?_, fun z => ?_⟩
  · rw [if_neg z] at hh
    have s := sim_ok db (z := AW C) (by omega)
    exact ⟨s.1, s.2, hh⟩
  · rw [if_pos (Decidable.byContradiction z)] at hh
    exact hh
theorem m_similarity {M : Mem} {Q : UInt64 → Mem → Prop} (hW : WF C) (hC : Core C M) (hB : Bd M) (h : ∀ M' : Mem, Fr Pm M M' → Bd M' → Core C M' → Q (SIM C) M') : wp_X11_similarity M Q := by
  have ab := AW_bd hW
  have db := DI_bd hW
  unfold wp_X11_similarity wpe_X11_similarity
  refine thr0 hC hB (fun M1 F1 B1 C1 e1 => ?_)
  rw [C1.n hW (t := 0) (by omega)]
  refine sp_deletingAll hW C1 (i := 0) rfl rfl (Nat.zero_le _) (Nat.le_refl _) ?_
  rw [C1.n hW (t := 1) (by omega)]
  refine sp_inserting hW C1 (i := 0) rfl rfl (Nat.zero_le _) (Nat.le_refl _) (fun y6 e6 => ?_)
  have e6' : y6 = AW C := e6
  subst e6'
  refine ⟨⟨by omega, by omega⟩, fun z => sp_fillD hW C1 B1 (fun M2 F2 B2 _ _ => ?_), fun z => ?_⟩
  · have hh := h M2 ((Pg_m F1).tr (P48_m F2)) B2 (C1.f F2)
    unfold SIM at hh
    rw [if_neg z] at hh
    have s := sim_ok db (z := AW C) (by omega)
    exact ⟨s.1, s.2, hh⟩
  · have hh := h M1 (Pg_m F1) B1 C1
    unfold SIM at hh
    rw [if_pos (Decidable.byContradiction z)] at hh
    exact hh
end SIM
