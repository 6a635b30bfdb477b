/-! rows for the law's own body -/
def XS (s : State) (A : Nat → Prop) (b0 L : Nat) (xs : Nat → Int32) : Prop := va_X b0 L xs s s.heap ∧ b0 < s.heap.size ∧ ¬ A b0 ∧ L ≤ 3072
def ci (xs : Nat → Int32) (i : Nat) : Int := (xs i).toInt
theorem ci_r {xs : Nat → Int32} {i : Nat} : inR (ci xs i) := ⟨Int32.le_toInt _, Int32.toInt_lt _⟩
theorem ci_v {xs : Nat → Int32} {i : Nat} : iv (ci xs i) = .int (xs i) := congrArg Value.int (Int32.ofInt_toInt _)
abbrev lv5 (a : Nat → Nat) (b : Nat → Nat → Nat) (b0 : Nat) (i : Int) : List (Nat × Value) := [(0, .ref b0), (1, .ref (a 0)), (2, .ref (a 13)), (3, .ref (b 14 0)), (4, iv i)]
abbrev lv6 (a : Nat → Nat) (b : Nat → Nat → Nat) (b0 : Nat) (i cd : Int) : List (Nat × Value) := [(0, .ref b0), (1, .ref (a 0)), (2, .ref (a 13)), (3, .ref (b 14 0)), (4, iv i), (5, iv cd)]
abbrev lv7 (a : Nat → Nat) (b : Nat → Nat → Nat) (b0 : Nat) (i cd r : Int) : List (Nat × Value) := [(0, .ref b0), (1, .ref (a 0)), (2, .ref (a 13)), (3, .ref (b 14 0)), (4, iv i), (5, iv cd), (6, iv r)]
/-- class and reference stand for one abstract state -/
def StB (C : Nat → Nat → Int) (M : Mem) : Prop := WF C ∧ IK C M ∧ Core C M ∧ Bd M
theorem and63 (x : Int32) : ∃ n : Nat, n < 64 ∧ x &&& 63 = Int32.ofInt n := by
  have h : (x &&& 63).toBitVec.toNat ≤ 63 := by
    rw [Int32.toBitVec_and, BitVec.toNat_and]
    exact Nat.and_le_right
  refine ⟨(x &&& 63).toBitVec.toNat, by omega, ?_⟩
  apply Int32.toBitVec_inj.mp
  rw [Int32.toBitVec_ofInt, BitVec.ofInt_natCast, BitVec.ofNat_toNat, BitVec.setWidth_eq]
section LAW
variable {p : Program} {l : Launch} {e : Env} {R : Room} {s : State} {m : MethodId} {args : Array Value} {below : List Frame} {meth : Method} {c : Code} {D : va_G} {g : GT} {A : Nat → Prop} {a : Nat → Nat} {b : Nat → Nat → Nat} {nL : Nat} {k n : Nat} {Q : State → Prop} {M : Mem} {lv lv1 : List (Nat × Value)} {pc : Nat} {st st0 : List Value} {own : String} {Ts : List Cond} {cc : ByteArray} {x y : Int} {b0 L : Nat} {xs : Nat → Int32}
theorem V_widen {k1 n1 : Nat} (h1 : k ≤ k1) (h2 : n ≤ n1) (kk : vV p l e R s m args below meth c D g A a b nL k1 n1 Q M lv pc st) : vV p l e R s m args below meth c D g A a b nL k n Q M lv pc st := fun H locs ls hP hD hS hl => W.widen h1 h2 (kk H locs ls hP hD hS hl)
theorem V_sld (X : vC p s m args meth c D g A own Ts cc nL) (hX : XS s A b0 L xs) (hx : 0 ≤ x ∧ x < (L : Int)) (hdg : decode cc pc = .ok (.iaload, 1)) (kk : vV p l e R s m args below meth c D g A a b nL k n Q M lv (pc + 1) (iv (ci xs x.toNat) :: st)) : vV p l e R s m args below meth c D g A a b nL k n Q M lv pc (iv x :: .ref b0 :: st) := by
  intro H locs ls hP hD hS hl
  have hL := hX.2.2.2
  refine va_sld X.1 X.2.1 hX.1 hX.2.1 hX.2.2.1 hS (ofI_in hx (by omega)) hdg ?_
  rw [ofI_cl hx.1 (by omega), ← ci_v]
  exact kk H locs ls hP hD hS hl
/-- one int of the script: aload_0, iload 4, iconst j, iadd, iaload -/
theorem V_cell (X : vC p s m args meth c D g A own Ts cc nL) (hX : XS s A b0 L xs) {i j q0 q4 : Nat} {z : Int} (hz : z = (j : Int)) (hi : i + j < L) (h0 : lv[q0]? = some (0, .ref b0)) (h4 : lv[q4]? = some (4, iv i)) (d0 : decode cc pc = .ok (.aload_n 0, 1)) (d1 : decode cc (pc + 1) = .ok (.iload 4, 2)) (d2 : decode cc (pc + 3) = .ok (.iconst z, 1)) (d3 : decode cc (pc + 4) = .ok (.iadd, 1)) (d4 : decode cc (pc + 5) = .ok (.iaload, 1)) (kk : vV p l e R s m args below meth c D g A a b nL k n Q M lv (pc + 6) (iv (ci xs (i + j)) :: st)) : vV p l e R s m args below meth c D g A a b nL k n Q M lv pc st := by
  subst hz
  refine V_aload_n X d0 rfl h0 (V_iload X d1 h4 (V_iconst X d2 (V_iadd X d3 (V_sld X hX ⟨by omega, by omega⟩ d4 ?_))))
  rw [show ((i : Int) + (j : Int)).toNat = i + j from by omega]
  exact kk
theorem V_iand63 (X : vC p s m args meth c D g A own Ts cc nL) {i : Nat} (hdg : decode cc pc = .ok (.iand, 1)) (kk : ∀ z : Nat, z < 64 → vV p l e R s m args below meth c D g A a b nL k n Q M lv (pc + 1) (iv z :: st)) : vV p l e R s m args below meth c D g A a b nL k n Q M lv pc (iv 63 :: iv (ci xs i) :: st) := by
  intro H locs ls hP hD hS hl
  obtain ⟨z, hz, e⟩ := and63 (xs i)
  rw [ci_v]
  refine lv_iand X.1 X.2.1 hdg ?_
  rw [show (xs i &&& Int32.ofInt 63) = Int32.ofInt z from e]
  exact kk z hz H locs ls hP hD hS hl
theorem V_switchIn (X : vC p s m args meth c D g A own Ts cc nL) {dflt hi off : Int} {offs : Array Int} {len z tgt : Nat} (hdg : decode cc pc = .ok (.tableswitch dflt 0 hi offs, len)) (h1 : (z : Int) ≤ hi) (h2 : z < 64) (ho : offs[z]? = some off) (ht : (pc : Int) + off = (tgt : Int)) (kk : vV p l e R s m args below meth c D g A a b nL k n Q M lv tgt st) : vV p l e R s m args below meth c D g A a b nL k n Q M lv pc (iv z :: st) := by
  intro H locs ls hP hD hS hl
  have ez : (Int32.ofInt z).toInt = z := ofI_toInt ⟨by omega, by omega⟩
  exact lv_tableIn X.1 X.2.1 hdg (by rw [ez]; omega) (by rw [ez]; omega) (by rw [ez, show ((z : Int) - 0).toNat = z from by omega]; exact ho) ht (kk H locs ls hP hD hS hl)
theorem V_switchOut (X : vC p s m args meth c D g A own Ts cc nL) {dflt hi : Int} {offs : Array Int} {len z tgt : Nat} (hdg : decode cc pc = .ok (.tableswitch dflt 0 hi offs, len)) (h1 : hi < (z : Int)) (h2 : z < 64) (ht : (pc : Int) + dflt = (tgt : Int)) (kk : vV p l e R s m args below meth c D g A a b nL k n Q M lv tgt st) : vV p l e R s m args below meth c D g A a b nL k n Q M lv pc (iv z :: st) := by
  intro H locs ls hP hD hS hl
  have ez : (Int32.ofInt z).toInt = z := ofI_toInt ⟨by omega, by omega⟩
  exact lv_tableOut X.1 X.2.1 hdg (Or.inr (by rw [ez]; exact h1)) ht (kk H locs ls hP hD hS hl)
theorem V_lald0 (X : vC p s m args meth c D g A own Ts cc nL) (hdg : decode cc pc = .ok (.laload, 1)) (kk : vV p l e R s m args below meth c D g A a b nL k n Q M lv (pc + 1) (.long (Int64.ofInt (M 14 0 0)) :: st)) : vV p l e R s m args below meth c D g A a b nL k n Q M lv pc (iv 0 :: .ref (b 14 0) :: st) := by
  intro H locs ls hP hD hS hl
  have hin : vp_in (Int32.ofInt 0) 1 := ofI_in (x := 0) ⟨by omega, by omega⟩ (by decide)
  refine va_lald X.1 X.2.1 X.2.2.2.2.1.1 hP 81 2 gA_14_0 rfl hin hdg ?_
  rw [show (Int32.ofInt 0).toNatClampNeg = 0 from by decide]
  exact kk H locs ls hP hD hS hl
theorem V_lcmp0 (X : vC p s m args meth c D g A own Ts cc nL) (hdg : decode cc pc = .ok (.lcmp, 1)) (kk : vV p l e R s m args below meth c D g A a b nL k n Q M lv (pc + 1) (iv 0 :: st)) : vV p l e R s m args below meth c D g A a b nL k n Q M lv pc (.long (Int64.ofInt x) :: .long (Int64.ofInt x) :: st) := by
  intro H locs ls hP hD hS hl
  refine W.lcmp X.1 X.2.1 hdg ?_
  have ez : lg_cmp (Int64.ofInt x) (Int64.ofInt x) = Int32.ofInt 0 := by
    unfold lg_cmp
    rw [if_neg Int64.lt_irrefl, if_pos rfl]
    rfl
  rw [ez]
  exact kk H locs ls hP hD hS hl
/-- how each void case ends: the reference's code is the class's -/
theorem V_tailA (X : vC p s m args meth c D g A RL wsL_law cL_law 9) (hR : R = room_1) {i : Nat} {cd off : Int} (hc : 0 ≤ cd ∧ cd ≤ 3) (he : M 13 23 0 = cd) (d0 : decode cL_law pc = .ok (.aload_n 2, 1)) (d1 : decode cL_law (pc + 1) = .ok (.invokevirtual 114, 3)) (d2 : decode cL_law (pc + 4) = .ok (.iload 5, 2)) (d3 : decode cL_law (pc + 6) = .ok (.if_icmp .eq 5, 3)) (d4 : decode cL_law (pc + 11) = .ok (.goto off, 3)) (ht : ((pc + 11 : Nat) : Int) + off = ((2145 : Nat) : Int)) (hk : k ≤ R.cells ∧ n ≤ R.slots) (kk : vV p l e R s m args below meth c D g A a b 9 k n Q M (lv5 a b b0 i) 2145 []) : vV p l e R s m args below meth c D g A a b 9 k n Q M (lv6 a b b0 i cd) pc [] := by
  subst hR
  refine V_aload_n X d0 rfl (q := 2) rfl ?_
  refine V_callV_i X (fun r M1 => cd = r ∧ M = M1) gO_13 rfl (As := []) (st := []) (c_X11_thrown l ⟨he.symm, rfl⟩) (cwV 0 X.2.2.2.1 gL_law_X11_thrown rfl rfl rfl (by decide +kernel) ⟨Nat.le_of_ble_eq_true rfl, Nat.le_of_ble_eq_true rfl⟩) rfl (Nat.le_of_ble_eq_true rfl) hk rfl d1 (fun r M1 hw => ?_)
  obtain ⟨rfl, rfl⟩ := hw
  refine V_iload X d2 (q := 5) rfl ?_
  exact V_icmp_eq (tgt := pc + 11) X ⟨by omega, by omega⟩ ⟨by omega, by omega⟩ d3 (by omega) (fun _ => V_goto (tgt := 2145) X d4 ht (V_sub [0, 1, 2, 3, 4] rfl kk)) (fun z => absurd rfl z)
/-- how each int case ends -/
theorem V_tailB (X : vC p s m args meth c D g A RL wsL_law cL_law 9) (hR : R = room_1) {i : Nat} {cd r off : Int} (hc : 0 ≤ cd ∧ cd ≤ 3) (hr : inR r) (he : M 13 23 0 = cd) (ho : cd = 0 → M 14 0 0 = r) (d : decode cL_law pc = .ok (.istore 6, 2)) (d0 : decode cL_law (pc + 2) = .ok (.aload_n 2, 1)) (d1 : decode cL_law (pc + 3) = .ok (.invokevirtual 114, 3)) (d2 : decode cL_law (pc + 6) = .ok (.iload 5, 2)) (d3 : decode cL_law (pc + 8) = .ok (.if_icmp .eq 5, 3)) (d5 : decode cL_law (pc + 13) = .ok (.iload 5, 2)) (d6 : decode cL_law (pc + 15) = .ok (.ifCond .ne 15, 3)) (d7 : decode cL_law (pc + 18) = .ok (.aload_n 3, 1)) (d8 : decode cL_law (pc + 19) = .ok (.iconst 0, 1)) (d9 : decode cL_law (pc + 20) = .ok (.laload, 1)) (d10 : decode cL_law (pc + 21) = .ok (.iload 6, 2)) (d11 : decode cL_law (pc + 23) = .ok (.i2l, 1)) (d12 : decode cL_law (pc + 24) = .ok (.lcmp, 1)) (d13 : decode cL_law (pc + 25) = .ok (.ifCond .eq 5, 3)) (dE : decode cL_law (pc + 30) = .ok (.goto off, 3)) (ht : ((pc + 30 : Nat) : Int) + off = ((2145 : Nat) : Int)) (hk : k ≤ R.cells ∧ n ≤ R.slots) (kk : vV p l e R s m args below meth c D g A a b 9 k n Q M (lv5 a b b0 i) 2145 []) : vV p l e R s m args below meth c D g A a b 9 k n Q M (lv6 a b b0 i cd) pc [iv r] := by
  subst hR
  refine V_istore (lv1 := lv7 a b b0 i cd r) X [1, 2, 3, 4, 5, 6, 0] d (by decide) rfl ?_
  refine V_aload_n X d0 rfl (q := 2) rfl ?_
  refine V_callV_i X (fun r M1 => cd = r ∧ M = M1) gO_13 rfl (As := []) (st := []) (c_X11_thrown l ⟨he.symm, rfl⟩) (cwV 0 X.2.2.2.1 gL_law_X11_thrown rfl rfl rfl (by decide +kernel) ⟨Nat.le_of_ble_eq_true rfl, Nat.le_of_ble_eq_true rfl⟩) rfl (Nat.le_of_ble_eq_true rfl) hk rfl d1 (fun r1 M1 hw => ?_)
  obtain ⟨rfl, rfl⟩ := hw
  refine V_iload X d2 (q := 5) rfl ?_
  have fin : vV p l e room_1 s m args below meth c D g A a b 9 (k + 0) (n + 0) Q M (lv7 a b b0 i cd r) (pc + 30) [] := V_goto (tgt := 2145) X dE ht (V_sub [0, 1, 2, 3, 4] rfl kk)
  refine V_icmp_eq (tgt := pc + 13) X ⟨by omega, by omega⟩ ⟨by omega, by omega⟩ d3 (by omega) (fun _ => ?_) (fun z => absurd rfl z)
  refine V_iload X d5 (q := 5) rfl ?_
  refine V_if_ne (tgt := pc + 30) X ⟨by omega, by omega⟩ d6 (by omega) (fun _ => fin) (fun z => ?_)
  have z0 := Decidable.byContradiction z
  refine V_aload_n X d7 rfl (q := 3) rfl (V_iconst X d8 (V_lald0 X d9 (V_iload X d10 (q := 6) rfl (V_i2l X d11 ?_))))
  rw [ho z0, show j32 r = r from ofI_toInt hr]
  exact V_lcmp0 X d12 (V_if_eq (tgt := pc + 30) X inR_0 d13 (by omega) (fun _ => fin) (fun w => absurd rfl w))
/-- how each boolean case ends -/
theorem V_tailZ (X : vC p s m args meth c D g A RL wsL_law cL_law 9) (hR : R = room_1) {i : Nat} {cd r off : Int} (hc : 0 ≤ cd ∧ cd ≤ 3) (hr : 0 ≤ r ∧ r ≤ 1) (he : M 13 23 0 = cd) (ho : cd = 0 → M 14 0 0 = r) (d : decode cL_law pc = .ok (.istore 6, 2)) (d0 : decode cL_law (pc + 2) = .ok (.aload_n 2, 1)) (d1 : decode cL_law (pc + 3) = .ok (.invokevirtual 114, 3)) (d2 : decode cL_law (pc + 6) = .ok (.iload 5, 2)) (d3 : decode cL_law (pc + 8) = .ok (.if_icmp .eq 5, 3)) (d5 : decode cL_law (pc + 13) = .ok (.iload 5, 2)) (d6 : decode cL_law (pc + 15) = .ok (.ifCond .ne 22, 3)) (d7 : decode cL_law (pc + 18) = .ok (.aload_n 3, 1)) (d8 : decode cL_law (pc + 19) = .ok (.iconst 0, 1)) (d9 : decode cL_law (pc + 20) = .ok (.laload, 1)) (d10 : decode cL_law (pc + 21) = .ok (.iload 6, 2)) (d11 : decode cL_law (pc + 23) = .ok (.ifCond .eq 7, 3)) (d12 : decode cL_law (pc + 26) = .ok (.lconst 1, 1)) (d13 : decode cL_law (pc + 27) = .ok (.goto 4, 3)) (d14 : decode cL_law (pc + 30) = .ok (.lconst 0, 1)) (d15 : decode cL_law (pc + 31) = .ok (.lcmp, 1)) (d16 : decode cL_law (pc + 32) = .ok (.ifCond .eq 5, 3)) (dE : decode cL_law (pc + 37) = .ok (.goto off, 3)) (ht : ((pc + 37 : Nat) : Int) + off = ((2145 : Nat) : Int)) (hk : k ≤ R.cells ∧ n ≤ R.slots) (kk : vV p l e R s m args below meth c D g A a b 9 k n Q M (lv5 a b b0 i) 2145 []) : vV p l e R s m args below meth c D g A a b 9 k n Q M (lv6 a b b0 i cd) pc [iv r] := by
  subst hR
  refine V_istore (lv1 := lv7 a b b0 i cd r) X [1, 2, 3, 4, 5, 6, 0] d (by decide) rfl ?_
  refine V_aload_n X d0 rfl (q := 2) rfl ?_
  refine V_callV_i X (fun r M1 => cd = r ∧ M = M1) gO_13 rfl (As := []) (st := []) (c_X11_thrown l ⟨he.symm, rfl⟩) (cwV 0 X.2.2.2.1 gL_law_X11_thrown rfl rfl rfl (by decide +kernel) ⟨Nat.le_of_ble_eq_true rfl, Nat.le_of_ble_eq_true rfl⟩) rfl (Nat.le_of_ble_eq_true rfl) hk rfl d1 (fun r1 M1 hw => ?_)
  obtain ⟨rfl, rfl⟩ := hw
  refine V_iload X d2 (q := 5) rfl ?_
  have fin : vV p l e room_1 s m args below meth c D g A a b 9 (k + 0) (n + 0) Q M (lv7 a b b0 i cd r) (pc + 37) [] := V_goto (tgt := 2145) X dE ht (V_sub [0, 1, 2, 3, 4] rfl kk)
  refine V_icmp_eq (tgt := pc + 13) X ⟨by omega, by omega⟩ ⟨by omega, by omega⟩ d3 (by omega) (fun _ => ?_) (fun z => absurd rfl z)
  refine V_iload X d5 (q := 5) rfl ?_
  refine V_if_ne (tgt := pc + 37) X ⟨by omega, by omega⟩ d6 (by omega) (fun _ => fin) (fun z => ?_)
  have z0 := Decidable.byContradiction z
  refine V_aload_n X d7 rfl (q := 3) rfl (V_iconst X d8 (V_lald0 X d9 (V_iload X d10 (q := 6) rfl ?_)))
  have ce : ∀ v : Int, v = M 14 0 0 → vV p l e room_1 s m args below meth c D g A a b 9 (k + 0) (n + 0) Q M (lv7 a b b0 i cd r) (pc + 31) [.long (Int64.ofInt v), .long (Int64.ofInt (M 14 0 0))] := fun v hv => by
    rw [hv]
    exact V_lcmp0 X d15 (V_if_eq (tgt := pc + 37) X inR_0 d16 (by omega) (fun _ => fin) (fun w => absurd rfl w))
  have h14 := ho z0
  refine V_if_eq (tgt := pc + 30) X ⟨by omega, by omega⟩ d11 (by omega) (fun w => V_lconst (y := 0) X d14 (by decide) (ce 0 (by omega))) (fun w => V_lconst (y := 1) X d12 (by decide) (V_goto (tgt := pc + 31) X d13 (by omega) (ce 1 (by omega))))
end LAW
