/-! the law's two other cases: swapTrees and similarity -/
section CASES2
variable {p : Program} {l : Launch} {e : Env} {s : State} {m : MethodId} {args : Array Value} {below : List Frame} {meth : Method} {c : Code} {D : va_G} {g : GT} {A : Nat → Prop} {a : Nat → Nat} {b : Nat → Nat → Nat} {k n : Nat} {Q : State → Prop} {M : Mem} {b0 L : Nat} {xs : Nat → Int32} {C : Nat → Nat → Int} {i : Nat}
theorem V_dstore {nL : Nat} {own : String} {Ts : List Cond} {cc : ByteArray} {R : Room} {lv lv1 : List (Nat × Value)} {pc : Nat} {st : List Value} (X : vC p s m args meth c D g A own Ts cc nL) {j : Nat} {u : UInt64} (ks : List Nat) (hdg : decode cc pc = .ok (.dstore j, 2)) (hn : j + 1 < nL) (hk : lv_pick ((j, Value.double u) :: lv.filter (fun q => !(q.1 == j) && (!(q.1 == j + 1) && !(q.1 + 1 == j && q.2.category == 2)))) ks = lv1) (kk : vV p l e R s m args below meth c D g A a b nL k n Q M lv1 (pc + 2) st) : vV p l e R s m args below meth c D g A a b nL k n Q M lv pc (.double u :: st) := fun H locs ls hP hD hS hl => lv_dstore X.1 X.2.1 hdg hl hn rfl (fun ls1 hl1 => kk H locs ls1 hP hD hS (lv_sub hl1 ks hk))
set_option maxHeartbeats 1000000 in
set_option maxRecDepth 20000 in
theorem law_4 (X : vC p s m args meth c D g A RL wsL_law cL_law 9) (hS : StB C M) (hk : k + 8 ≤ room_1.cells ∧ n + 60 ≤ room_1.slots) (K : ∀ (C' : Nat → Nat → Int) (M' : Mem), StB C' M' → vV p l e room_1 s m args below meth c D g A (swA a) (swB b) 9 (k + 8) (n + 60) Q M' (lv5 a b b0 i) 2145 []) : vV p l e room_1 s m args below meth c D g A a b 9 k n Q M (lv5 a b b0 i) 484 [] := by
  obtain ⟨hW, hI, hC, hB⟩ := hS
  refine V_aload_n X dL_law_484 rfl (q := 1) rfl ?_
  refine V_callV_u X (fun w1 => w1 = swL g a b M) gO_0 rfl (As := []) (st := []) (c_X10_swapTrees l) (cwV 0 X.2.2.2.1 gL_law_X10_swapTrees rfl rfl rfl (by decide +kernel) ⟨Nat.le_of_ble_eq_true rfl, Nat.le_of_ble_eq_true rfl⟩) rfl (Nat.le_of_ble_eq_true rfl) ⟨by omega, by omega⟩ rfl dL_law_485 (fun w1 hw => ?_)
  subst hw
  refine U_sw ?_
  have hC1 : Core C (mset (swM M) 0 8 0 0) := fun kk ii h => by
    have e := hC kk ii h
    rw [mset_ne (by omega), swM_o (by omega)]
    exact e
  refine V_aload_n X dL_law_488 rfl (q := 2) rfl ?_
  refine V_callV_v X (fun M3 => StB (swC C) M3) gO_13 rfl (As := []) (st := []) (c_X11_swapTrees l (Q := (fun M3 => StB (swC C) M3)) (m_swapTrees hW hC1 hB.sw (fun M' F B C' => ⟨hW.sw, (hI.sw hW).pm F, C', B⟩))) (cwV 0 X.2.2.2.1 gL_law_X11_swapTrees rfl rfl rfl (by decide +kernel) ⟨Nat.le_of_ble_eq_true rfl, Nat.le_of_ble_eq_true rfl⟩) rfl (Nat.le_of_ble_eq_true rfl) ⟨by omega, by omega⟩ rfl dL_law_489 (fun M3 S3 => ?_)
  exact V_widen (k1 := k + 8) (n1 := n + 60) (by omega) (by omega) (V_goto (tgt := 2145) X dL_law_492 (by decide) (K _ M3 S3))
set_option maxHeartbeats 1000000 in
set_option maxRecDepth 20000 in
theorem law_21 (X : vC p s m args meth c D g A RL wsL_law cL_law 9) (hS : StB C M) (hk : k + 8 ≤ room_1.cells ∧ n + 60 ≤ room_1.slots) (K : ∀ (C' : Nat → Nat → Int) (M' : Mem), StB C' M' → vV p l e room_1 s m args below meth c D g A a b 9 (k + 8) (n + 60) Q M' (lv5 a b b0 i) 2145 []) : vV p l e room_1 s m args below meth c D g A a b 9 k n Q M (lv5 a b b0 i) 1417 [] := by
  obtain ⟨hW, hI, hC, hB⟩ := hS
  refine V_aload_n X dL_law_1417 rfl (q := 1) rfl ?_
  refine V_callV_d X (fun r M1 => r = SIM C ∧ HPq C C M1) gO_0 rfl (As := []) (st := []) (c_X10_similarity l (Q := (fun r M1 => r = SIM C ∧ HPq C C M1)) (k_similarity hW hI hB (fun M' F B I => ⟨rfl, I, hC.pc F, B⟩))) (cwV 0 X.2.2.2.1 gL_law_X10_similarity rfl rfl rfl (by decide +kernel) ⟨Nat.le_of_ble_eq_true rfl, Nat.le_of_ble_eq_true rfl⟩) rfl (Nat.le_of_ble_eq_true rfl) ⟨by omega, by omega⟩ rfl dL_law_1418 (fun r M1 hw => ?_)
  obtain ⟨e1, hw1⟩ := hw
  rw [e1]
  refine V_dstore (lv1 := [(5, .double (SIM C)), (0, .ref b0), (1, .ref (a 0)), (2, .ref (a 13)), (3, .ref (b 14 0)), (4, iv i)]) X [0, 1, 2, 3, 4, 5] dL_law_1421 (by decide) rfl ?_
  refine V_aload_n X dL_law_1423 rfl (q := 3) rfl ?_
  refine V_callV_d X (fun r M3 => r = SIM C ∧ StB C M3) gO_13 rfl (As := []) (st := []) (c_X11_similarity l (Q := (fun r M3 => r = SIM C ∧ StB C M3)) (m_similarity hW hw1.2.1 hw1.2.2 (fun M' F B C' => ⟨rfl, hW, hw1.1.pm F, C', B⟩))) (cwV 0 X.2.2.2.1 gL_law_X11_similarity rfl rfl rfl (by decide +kernel) ⟨Nat.le_of_ble_eq_true rfl, Nat.le_of_ble_eq_true rfl⟩) rfl (Nat.le_of_ble_eq_true rfl) ⟨by omega, by omega⟩ rfl dL_law_1424 (fun r M3 hw => ?_)
  obtain ⟨e3, S3⟩ := hw
  rw [e3]
  refine V_widen (k1 := k + 8) (n1 := n + 60) (by omega) (by omega) ?_
  refine V_dstore (lv1 := [(7, .double (SIM C)), (5, .double (SIM C)), (0, .ref b0), (1, .ref (a 0)), (2, .ref (a 13)), (3, .ref (b 14 0)), (4, iv i)]) X [0, 1, 2, 3, 4, 5, 6] dL_law_1427 (by decide) rfl ?_
  intro H locs ls hP hD hS hl
  have fin : W p l e room_1 s m args below meth c H locs (k + 8) (n + 60) Q (F0 m 1455 ls []) := lv_goto (tgt := 2145) X.1 X.2.1 dL_law_1455 (by decide) (K C M3 S3 H locs ls hP hD hS (lv_sub hl [2, 3, 4, 5, 6] rfl))
  refine lv_dload X.1 X.2.1 dL_law_1429 (lv_at hl 1 rfl) (lv_dload X.1 X.2.1 dL_law_1431 (lv_at hl 0 rfl) (lv_dcmp X.1 X.2.1 dL_law_1433 ?_))
  refine lv_if_eq (tgt := 1455) X.1 X.2.1 dL_law_1434 (by decide) (fun _ => fin) (fun v0 => ?_)
  refine lv_dload X.1 X.2.1 dL_law_1437 (lv_at hl 1 rfl) (lv_dload X.1 X.2.1 dL_law_1439 (lv_at hl 1 rfl) (lv_dcmp X.1 X.2.1 dL_law_1441 ?_))
  refine lv_if_eq (tgt := 1453) X.1 X.2.1 dL_law_1442 (by decide) (fun z => absurd z v0) (fun _ => ?_)
  refine lv_dload X.1 X.2.1 dL_law_1445 (lv_at hl 0 rfl) (lv_dload X.1 X.2.1 dL_law_1447 (lv_at hl 0 rfl) (lv_dcmp X.1 X.2.1 dL_law_1449 ?_))
  exact lv_if_ne (tgt := 1455) X.1 X.2.1 dL_law_1450 (by decide) (fun _ => fin) (fun z => absurd z v0)
end CASES2
