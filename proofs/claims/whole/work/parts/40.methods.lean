set_option maxRecDepth 20000 in
theorem ggX11_inPreorder_X11_isNode : GoodIn wsX11_inPreorder wsX11_isNode := goodIn_r _ [6, 7, 8, 9, 5, 10, 11, 12, 13, 19, 20, 21, 22, 23, 24, 25, 26, 27, 28, 29, 30, 31, 32, 33, 34, 35, 36, 37, 38, 39, 40, 41, 42] (by decide +kernel) (by decide +kernel)
set_option maxRecDepth 20000 in
theorem gX11_inPreorder_X11_isNode : GoodIn wsX11_inPreorder (wsV RX11 98 RX11 yX11_isNode wsX11_isNode) := goodIn_app (goodIn_of _ (by decide +kernel)) ggX11_inPreorder_X11_isNode
set_option maxRecDepth 20000 in
theorem ggX11_inPreorder_X11_goes : GoodIn wsX11_inPreorder wsX11_goes := goodIn_r _ [17, 18, 19, 20, 21, 22, 23, 24, 25, 26, 27, 28, 29, 30, 31, 32, 33, 34, 35, 36, 37, 38, 39, 40, 41, 42] (by decide +kernel) (by decide +kernel)
set_option maxRecDepth 20000 in
theorem gX11_inPreorder_X11_goes : GoodIn wsX11_inPreorder (wsV RX11 87 RX11 yX11_goes wsX11_goes) := goodIn_app (goodIn_of _ (by decide +kernel)) ggX11_inPreorder_X11_goes
theorem dX11_inPreorder_0 : decode cX11_inPreorder 0 = .ok (.aload_n 0, 1) := by decide +kernel
theorem dX11_inPreorder_1 : decode cX11_inPreorder 1 = .ok (.aload_n 0, 1) := by decide +kernel
theorem dX11_inPreorder_2 : decode cX11_inPreorder 2 = .ok (.iload_n 1, 1) := by decide +kernel
theorem dX11_inPreorder_3 : decode cX11_inPreorder 3 = .ok (.iload_n 2, 1) := by decide +kernel
theorem dX11_inPreorder_4 : decode cX11_inPreorder 4 = .ok (.invokevirtual 98, 3) := by decide +kernel
theorem dX11_inPreorder_7 : decode cX11_inPreorder 7 = .ok (.iconst 1, 1) := by decide +kernel
theorem dX11_inPreorder_8 : decode cX11_inPreorder 8 = .ok (.iconst 1, 1) := by decide +kernel
theorem dX11_inPreorder_9 : decode cX11_inPreorder 9 = .ok (.invokevirtual 87, 3) := by decide +kernel
theorem dX11_inPreorder_12 : decode cX11_inPreorder 12 = .ok (.ifCond .eq 17, 3) := by decide +kernel
theorem dX11_inPreorder_15 : decode cX11_inPreorder 15 = .ok (.aload_n 0, 1) := by decide +kernel
theorem dX11_inPreorder_16 : decode cX11_inPreorder 16 = .ok (.getfield 7, 3) := by decide +kernel
theorem dX11_inPreorder_19 : decode cX11_inPreorder 19 = .ok (.bipush 12, 2) := by decide +kernel
theorem dX11_inPreorder_21 : decode cX11_inPreorder 21 = .ok (.iload_n 1, 1) := by decide +kernel
theorem dX11_inPreorder_22 : decode cX11_inPreorder 22 = .ok (.imul, 1) := by decide +kernel
theorem dX11_inPreorder_23 : decode cX11_inPreorder 23 = .ok (.iload_n 2, 1) := by decide +kernel
theorem dX11_inPreorder_24 : decode cX11_inPreorder 24 = .ok (.iadd, 1) := by decide +kernel
theorem dX11_inPreorder_25 : decode cX11_inPreorder 25 = .ok (.iaload, 1) := by decide +kernel
theorem dX11_inPreorder_26 : decode cX11_inPreorder 26 = .ok (.goto 4, 3) := by decide +kernel
theorem dX11_inPreorder_29 : decode cX11_inPreorder 29 = .ok (.iconst 0, 1) := by decide +kernel
theorem dX11_inPreorder_30 : decode cX11_inPreorder 30 = .ok (.ireturn, 1) := by decide +kernel
theorem lk_X11_inPreorder_f7 : Cond.fieldLink RX11 7 "TreeComparerModel" "node" "[I" ∈ wsX11_inPreorder := by decide +kernel
theorem hi_X11_inPreorder_11 : ∀ w ∈ u_ws RX11 TX11 24, w ∈ wsX11_inPreorder := by decide +kernel
def wpe_X11_inPreorder (p0 : Int) (p1 : Int) (M : Mem) (Q : Int → Mem → Prop) : Prop := wp_X11_isNode M p0 p1 (fun y1 M2 => wp_X11_goes M2 y1 1 1 (fun y3 M4 => inR y3 ∧ ((y3 = 0 → Q 0 M4) ∧ (¬ (y3 = 0) → ((0 : Int) ≤ (12 * p0) + p1 ∧ (12 * p0) + p1 < 24) ∧ Q ((M4 13 0 ((12 * p0) + p1).toNat)) M4))))
def wp_X11_inPreorder (M : Mem) (p0 : Int) (p1 : Int) (Q : Int → Mem → Prop) : Prop := wpe_X11_inPreorder p0 p1 M Q
set_option maxHeartbeats 4000000 in
set_option maxRecDepth 100000 in
theorem wke_X11_inPreorder {p : Program} {l : Launch} {e : Env} {s : State} {m : MethodId} {args : Array Value} {below : List Frame} {meth : Method} {c : Code} {D : va_G} {g : GT} {A : Nat → Prop} {a : Nat → Nat} {b : Nat → Nat → Nat} (X : vC p s m args meth c D g A RX11 wsX11_inPreorder cX11_inPreorder 3) (hr : meth.sig.returnType = (some .int)) {p0 : Int} {p1 : Int} {M : Mem} {Q : Int → Mem → Prop} (hw : wpe_X11_inPreorder p0 p1 M Q) : vV p l e ({ frames := 3, cells := 0, slots := 0, locals := 64 } : Room) s m args below meth c D g A a b 3 0 0 (MQ below (cQi D g A a b Q) args s 0 0 A) M [(0, .ref (a 13)), (1, iv p0), (2, iv p1)] 0 [] := by
  unfold wpe_X11_inPreorder at hw
  refine V_aload_n X dX11_inPreorder_0 rfl (q := 0) rfl ?_
  refine V_aload_n X dX11_inPreorder_1 rfl (q := 0) rfl ?_
  refine V_iload_n X dX11_inPreorder_2 rfl (q := 1) rfl ?_
  refine V_iload_n X dX11_inPreorder_3 rfl (q := 2) rfl ?_
  refine V_callV_i X _ gO_13 rfl (As := [iv p0, iv p1]) (st := [.ref (a 13)]) (c_X11_isNode l hw) (cwV 2 X.2.2.2.1 gX11_inPreorder_X11_isNode rfl rfl rfl (by decide +kernel) ⟨Nat.le_of_ble_eq_true rfl, Nat.le_of_ble_eq_true rfl⟩) rfl (Nat.le_of_ble_eq_true rfl) ⟨Nat.le_of_ble_eq_true rfl, Nat.le_of_ble_eq_true rfl⟩ rfl dX11_inPreorder_4 (fun y1 M2 hw => ?_)
  refine V_iconst X dX11_inPreorder_7 ?_
  refine V_iconst X dX11_inPreorder_8 ?_
  refine V_callV_i X _ gO_13 rfl (As := [iv y1, iv 1, iv 1]) (st := []) (c_X11_goes l hw) (cwV 3 X.2.2.2.1 gX11_inPreorder_X11_goes rfl rfl rfl (by decide +kernel) ⟨Nat.le_of_ble_eq_true rfl, Nat.le_of_ble_eq_true rfl⟩) rfl (Nat.le_of_ble_eq_true rfl) ⟨Nat.le_of_ble_eq_true rfl, Nat.le_of_ble_eq_true rfl⟩ rfl dX11_inPreorder_9 (fun y3 M4 hw => ?_)
  obtain ⟨h5, hw⟩ := hw
  refine V_if_eq (tgt := 29) X h5 dX11_inPreorder_12 (by decide) (fun q6 => ?_) (fun q6 => ?_)
  · have hw := hw.1 q6
    refine V_iconst X dX11_inPreorder_29 ?_
    exact V_iret X hr hw dX11_inPreorder_30
  · have hw := hw.2 q6
    refine V_aload_n X dX11_inPreorder_15 rfl (q := 0) rfl ?_
    refine V_get (C := RX11) (T := TX11) (N := 24) (ci := 11) X hi_X11_inPreorder_11 gO_13 rfl 0 (by decide) lk_X11_inPreorder_f7 (fun _ h9 => h9) rfl dX11_inPreorder_16 ?_
    refine V_bipush X dX11_inPreorder_19 rfl ?_
    refine V_iload_n X dX11_inPreorder_21 rfl (q := 1) rfl ?_
    refine V_imul X dX11_inPreorder_22 ?_
    refine V_iload_n X dX11_inPreorder_23 rfl (q := 2) rfl ?_
    refine V_iadd X dX11_inPreorder_24 ?_
    obtain ⟨h7, hw⟩ := hw
    refine V_iald X (gA_13_0) h7 (by decide) dX11_inPreorder_25 ?_
    refine V_goto (tgt := 30) X dX11_inPreorder_26 (by decide) ?_
    exact V_iret X hr hw dX11_inPreorder_30
set_option maxHeartbeats 4000000 in
set_option maxRecDepth 100000 in
theorem c_X11_inPreorder (l : Launch) {p0 : Int} {p1 : Int} {D : va_G} {g : GT} {A : Nat → Prop} {a : Nat → Nat} {b : Nat → Nat → Nat} {M : Mem} {Q : Int → Mem → Prop} (hw : wp_X11_inPreorder M p0 p1 Q) : Met l yX11_inPreorder wsX11_inPreorder ({ frames := 3, cells := 0, slots := 0, locals := 64 } : Room) (cPc D g A a b M [.ref (a 13), iv p0, iv p1]) (cQi D g A a b Q) 0 0 A := by
  refine Met.ofW (cc := cX11_inPreorder) (maxL := 3) (ret := (some .int)) (by decide) rfl ?_
  intro p e s m args below meth c s₁ B hml hv
  obtain ⟨rfl, hP, hD, hG⟩ := hv
  have X : vC p s m _ meth c D g A RX11 wsX11_inPreorder cX11_inPreorder 3 := ⟨B.exec, B.bytes, findClass_of_methodNamed B.named, atoms_spec (ws := wsX11_inPreorder) B.pre, hG, hml, B.notSynchronized⟩
  have hr := B.returns
  have hl := lv_entry ([.ref (a 13), iv p0, iv p1]) (n := 3) (Nat.le_of_ble_eq_true rfl)
  rw [lg_entry_eq]
  generalize (lg_sl ([.ref (a 13), iv p0, iv p1]) ++ List.replicate (3 - (lg_sl ([.ref (a 13), iv p0, iv p1])).length) Slot.unset).toArray = ls at hl ⊢
  have hl : lv_has ls 3 [(0, .ref (a 13)), (1, iv p0), (2, iv p1)] := hl
  exact wke_X11_inPreorder X hr  hw s.heap [] ls hP hD va_S.rf hl

set_option maxRecDepth 20000 in
theorem ggX10_distanceByForests_X3_layPostorder : GoodIn wsX10_distanceByForests wsX3_layPostorder := goodIn_r _ [6, 7, 8, 9, 4, 10, 11, 12, 13, 14, 15, 16, 17, 18, 19, 20, 21, 22, 23, 24, 25, 26, 27, 28, 29, 30, 31, 32, 33, 34, 35, 36, 37, 38, 69, 70, 71, 72, 79, 80, 81, 82, 83, 84, 73, 74, 75, 76, 77, 78, 85, 86, 87, 88, 89, 90, 91, 92, 93] (by decide +kernel) (by decide +kernel)
set_option maxRecDepth 20000 in
theorem gX10_distanceByForests_X3_layPostorder_n164 : GoodIn wsX10_distanceByForests (wsX3_layPostorder) := ggX10_distanceByForests_X3_layPostorder
set_option maxRecDepth 20000 in
theorem ggX10_distanceByForests_X0_forget : GoodIn wsX10_distanceByForests wsX0_forget := goodIn_r _ [42, 43, 44, 45, 46, 47, 94, 95] (by decide +kernel) (by decide +kernel)
set_option maxRecDepth 20000 in
theorem gX10_distanceByForests_X0_forget_n174 : GoodIn wsX10_distanceByForests (wsX0_forget) := ggX10_distanceByForests_X0_forget
set_option maxRecDepth 20000 in
theorem ggX10_distanceByForests_X0_least : GoodIn wsX10_distanceByForests wsX0_least := goodIn_r _ [49, 50, 43, 51, 52, 53, 54, 55, 56, 16, 57, 58, 24, 59, 48, 40, 94, 95, 69, 70, 71, 72, 73, 74, 75, 76, 77, 78] (by decide +kernel) (by decide +kernel)
set_option maxRecDepth 20000 in
theorem gX10_distanceByForests_X0_least_n185 : GoodIn wsX10_distanceByForests (wsX0_least) := ggX10_distanceByForests_X0_least
theorem dX10_distanceByForests_0 : decode cX10_distanceByForests 0 = .ok (.aload_n 0, 1) := by decide +kernel
theorem dX10_distanceByForests_1 : decode cX10_distanceByForests 1 = .ok (.getfield 21, 3) := by decide +kernel
theorem dX10_distanceByForests_4 : decode cX10_distanceByForests 4 = .ok (.invokevirtual 164, 3) := by decide +kernel
theorem dX10_distanceByForests_7 : decode cX10_distanceByForests 7 = .ok (.aload_n 0, 1) := by decide +kernel
theorem dX10_distanceByForests_8 : decode cX10_distanceByForests 8 = .ok (.getfield 37, 3) := by decide +kernel
theorem dX10_distanceByForests_11 : decode cX10_distanceByForests 11 = .ok (.invokevirtual 174, 3) := by decide +kernel
theorem dX10_distanceByForests_14 : decode cX10_distanceByForests 14 = .ok (.aload_n 0, 1) := by decide +kernel
theorem dX10_distanceByForests_15 : decode cX10_distanceByForests 15 = .ok (.getfield 37, 3) := by decide +kernel
theorem dX10_distanceByForests_18 : decode cX10_distanceByForests 18 = .ok (.iconst 0, 1) := by decide +kernel
theorem dX10_distanceByForests_19 : decode cX10_distanceByForests 19 = .ok (.aload_n 0, 1) := by decide +kernel
theorem dX10_distanceByForests_20 : decode cX10_distanceByForests 20 = .ok (.getfield 21, 3) := by decide +kernel
theorem dX10_distanceByForests_23 : decode cX10_distanceByForests 23 = .ok (.getfield 177, 3) := by decide +kernel
theorem dX10_distanceByForests_26 : decode cX10_distanceByForests 26 = .ok (.getfield 180, 3) := by decide +kernel
theorem dX10_distanceByForests_29 : decode cX10_distanceByForests 29 = .ok (.iconst 0, 1) := by decide +kernel
theorem dX10_distanceByForests_30 : decode cX10_distanceByForests 30 = .ok (.aload_n 0, 1) := by decide +kernel
theorem dX10_distanceByForests_31 : decode cX10_distanceByForests 31 = .ok (.getfield 21, 3) := by decide +kernel
theorem dX10_distanceByForests_34 : decode cX10_distanceByForests 34 = .ok (.getfield 183, 3) := by decide +kernel
theorem dX10_distanceByForests_37 : decode cX10_distanceByForests 37 = .ok (.getfield 180, 3) := by decide +kernel
theorem dX10_distanceByForests_40 : decode cX10_distanceByForests 40 = .ok (.iconst 0, 1) := by decide +kernel
theorem dX10_distanceByForests_41 : decode cX10_distanceByForests 41 = .ok (.invokestatic 185, 3) := by decide +kernel
theorem dX10_distanceByForests_44 : decode cX10_distanceByForests 44 = .ok (.ireturn, 1) := by decide +kernel
theorem lk_X10_distanceByForests_f21 : Cond.fieldLink RX10 21 "TreeComparer" "layout" "LTreeComparer$Layout;" ∈ wsX10_distanceByForests := by decide +kernel
theorem hi_X10_distanceByForests_10 : ∀ w ∈ u_ws RX10 TX10 9, w ∈ wsX10_distanceByForests := by decide +kernel
theorem lk_X10_distanceByForests_i3 : Cond.initialized RX3 ∈ wsX10_distanceByForests := by decide +kernel
theorem lk_X10_distanceByForests_im164 : Cond.instanceMethod yX3_layPostorder ∈ wsX10_distanceByForests := by decide +kernel
theorem lk_X10_distanceByForests_se164 : Cond.selects RX3 yX3_layPostorder yX3_layPostorder ∈ wsX10_distanceByForests := by decide +kernel
theorem lk_X10_distanceByForests_f37 : Cond.fieldLink RX10 37 "TreeComparer" "forests" "LTreeComparer$ForestTable;" ∈ wsX10_distanceByForests := by decide +kernel
theorem lk_X10_distanceByForests_i0 : Cond.initialized RX0 ∈ wsX10_distanceByForests := by decide +kernel
theorem lk_X10_distanceByForests_im174 : Cond.instanceMethod yX0_forget ∈ wsX10_distanceByForests := by decide +kernel
theorem lk_X10_distanceByForests_se174 : Cond.selects RX0 yX0_forget yX0_forget ∈ wsX10_distanceByForests := by decide +kernel
theorem hi_X10_distanceByForests_3 : ∀ w ∈ u_ws RX3 TX3 4, w ∈ wsX10_distanceByForests := by decide +kernel
theorem hi_X10_distanceByForests_6 : ∀ w ∈ u_ws RX6 TX6 6, w ∈ wsX10_distanceByForests := by decide +kernel
theorem lk_X10_distanceByForests_im185 : Cond.static yX0_least ∈ wsX10_distanceByForests := by decide +kernel
def wpe_X10_distanceByForests (M : Mem) (Q : Int → Mem → Prop) : Prop := wp_X3_layPostorder M (fun M2 => wp_X0_forget M2 (fun M4 => wp_X0_least M4 0 ((M4 9 5 0)) 0 ((M4 10 5 0)) 0 (fun y5 M6 => Q y5 M6)))
def wp_X10_distanceByForests (M : Mem) (Q : Int → Mem → Prop) : Prop := wpe_X10_distanceByForests M Q
set_option maxHeartbeats 4000000 in
set_option maxRecDepth 100000 in
theorem wke_X10_distanceByForests {p : Program} {l : Launch} {e : Env} {s : State} {m : MethodId} {args : Array Value} {below : List Frame} {meth : Method} {c : Code} {D : va_G} {g : GT} {A : Nat → Prop} {a : Nat → Nat} {b : Nat → Nat → Nat} (X : vC p s m args meth c D g A RX10 wsX10_distanceByForests cX10_distanceByForests 1) (hr : meth.sig.returnType = (some .int)) {M : Mem} {Q : Int → Mem → Prop} (hw : wpe_X10_distanceByForests M Q) : vV p l e ({ frames := 29, cells := 0, slots := 0, locals := 992 } : Room) s m args below meth c D g A a b 1 0 0 (MQ below (cQi D g A a b Q) args s 0 0 A) M [(0, .ref (a 0))] 0 [] := by
  unfold wpe_X10_distanceByForests at hw
  refine V_aload_n X dX10_distanceByForests_0 rfl (q := 0) rfl ?_
  refine V_get (C := RX10) (T := TX10) (N := 9) (ci := 10) X hi_X10_distanceByForests_10 gO_0 rfl 1 (by decide) lk_X10_distanceByForests_f21 (fun _ h9 => h9) rfl dX10_distanceByForests_1 ?_
  refine V_callVN_v X _ gO_2 rfl (As := []) (st := []) (c_X3_layPostorder l hw) ⟨va_cnB 0 X.2.2.2.1 gX10_distanceByForests_X3_layPostorder_n164 rfl rfl rfl (X.2.2.2.2.1.2.1 _ (List.mem_of_getElem? (i := 95) rfl)) (X.2.2.2.1 _ lk_X10_distanceByForests_i3) (by decide +kernel) ⟨Nat.le_of_ble_eq_true rfl, Nat.le_of_ble_eq_true rfl⟩, X.2.2.2.1 _ lk_X10_distanceByForests_im164, X.2.2.2.1 _ lk_X10_distanceByForests_se164⟩ rfl (Nat.le_of_ble_eq_true rfl) ⟨Nat.le_of_ble_eq_true rfl, Nat.le_of_ble_eq_true rfl⟩ rfl dX10_distanceByForests_4 (fun M2 hw => ?_)
  refine V_aload_n X dX10_distanceByForests_7 rfl (q := 0) rfl ?_
  refine V_get (C := RX10) (T := TX10) (N := 9) (ci := 10) X hi_X10_distanceByForests_10 gO_0 rfl 3 (by decide) lk_X10_distanceByForests_f37 (fun _ h9 => h9) rfl dX10_distanceByForests_8 ?_
  refine V_callVN_v X _ gO_4 rfl (As := []) (st := []) (c_X0_forget l hw) ⟨va_cnB 0 X.2.2.2.1 gX10_distanceByForests_X0_forget_n174 rfl rfl rfl (X.2.2.2.2.1.2.1 _ (List.mem_of_getElem? (i := 103) rfl)) (X.2.2.2.1 _ lk_X10_distanceByForests_i0) (by decide +kernel) ⟨Nat.le_of_ble_eq_true rfl, Nat.le_of_ble_eq_true rfl⟩, X.2.2.2.1 _ lk_X10_distanceByForests_im174, X.2.2.2.1 _ lk_X10_distanceByForests_se174⟩ rfl (Nat.le_of_ble_eq_true rfl) ⟨Nat.le_of_ble_eq_true rfl, Nat.le_of_ble_eq_true rfl⟩ rfl dX10_distanceByForests_11 (fun M4 hw => ?_)
  refine V_aload_n X dX10_distanceByForests_14 rfl (q := 0) rfl ?_
  refine V_get (C := RX10) (T := TX10) (N := 9) (ci := 10) X hi_X10_distanceByForests_10 gO_0 rfl 3 (by decide) lk_X10_distanceByForests_f37 (fun _ h9 => h9) rfl dX10_distanceByForests_15 ?_
  refine V_iconst X dX10_distanceByForests_18 ?_
  refine V_aload_n X dX10_distanceByForests_19 rfl (q := 0) rfl ?_
  refine V_get (C := RX10) (T := TX10) (N := 9) (ci := 10) X hi_X10_distanceByForests_10 gO_0 rfl 1 (by decide) lk_X10_distanceByForests_f21 (fun _ h9 => h9) rfl dX10_distanceByForests_20 ?_
  refine V_getN (C := RX3) (T := TX3) (N := 4) (ci := 3) X hi_X10_distanceByForests_3 gO_2 rfl 1 (by decide) (List.mem_of_getElem? (i := 61) rfl) (fun _ h9 => h9) rfl dX10_distanceByForests_23 ?_
  refine V_getN (C := RX6) (T := TX6) (N := 6) (ci := 6) X hi_X10_distanceByForests_6 gO_9 rfl 5 (by decide) (List.mem_of_getElem? (i := 56) rfl) (fun _ h9 => h9) rfl dX10_distanceByForests_26 ?_
  refine V_iconst X dX10_distanceByForests_29 ?_
  refine V_aload_n X dX10_distanceByForests_30 rfl (q := 0) rfl ?_
  refine V_get (C := RX10) (T := TX10) (N := 9) (ci := 10) X hi_X10_distanceByForests_10 gO_0 rfl 1 (by decide) lk_X10_distanceByForests_f21 (fun _ h9 => h9) rfl dX10_distanceByForests_31 ?_
  refine V_getN (C := RX3) (T := TX3) (N := 4) (ci := 3) X hi_X10_distanceByForests_3 gO_2 rfl 2 (by decide) (List.mem_of_getElem? (i := 66) rfl) (fun _ h9 => h9) rfl dX10_distanceByForests_34 ?_
  refine V_getN (C := RX6) (T := TX6) (N := 6) (ci := 6) X hi_X10_distanceByForests_6 gO_10 rfl 5 (by decide) (List.mem_of_getElem? (i := 56) rfl) (fun _ h9 => h9) rfl dX10_distanceByForests_37 ?_
  refine V_iconst X dX10_distanceByForests_40 ?_
  refine V_callSN_i X _ (As := [.ref (a 4), iv 0, iv ((M4 9 5 0)), iv 0, iv ((M4 10 5 0)), iv 0]) (st := []) (c_X0_least l hw) ⟨va_cnB 6 X.2.2.2.1 gX10_distanceByForests_X0_least_n185 rfl rfl rfl (X.2.2.2.2.1.2.1 _ (List.mem_of_getElem? (i := 104) rfl)) (X.2.2.2.1 _ lk_X10_distanceByForests_i0) (by decide +kernel) ⟨Nat.le_of_ble_eq_true rfl, Nat.le_of_ble_eq_true rfl⟩, X.2.2.2.1 _ lk_X10_distanceByForests_im185, trivial⟩ rfl (Nat.le_of_ble_eq_true rfl) ⟨Nat.le_of_ble_eq_true rfl, Nat.le_of_ble_eq_true rfl⟩ rfl dX10_distanceByForests_41 (fun y5 M6 hw => ?_)
  exact V_iret X hr hw dX10_distanceByForests_44
set_option maxHeartbeats 4000000 in
set_option maxRecDepth 100000 in
theorem c_X10_distanceByForests (l : Launch) {D : va_G} {g : GT} {A : Nat → Prop} {a : Nat → Nat} {b : Nat → Nat → Nat} {M : Mem} {Q : Int → Mem → Prop} (hw : wp_X10_distanceByForests M Q) : Met l yX10_distanceByForests wsX10_distanceByForests ({ frames := 29, cells := 0, slots := 0, locals := 992 } : Room) (cPc D g A a b M [.ref (a 0)]) (cQi D g A a b Q) 0 0 A := by
  refine Met.ofW (cc := cX10_distanceByForests) (maxL := 1) (ret := (some .int)) (by decide) rfl ?_
  intro p e s m args below meth c s₁ B hml hv
  obtain ⟨rfl, hP, hD, hG⟩ := hv
  have X : vC p s m _ meth c D g A RX10 wsX10_distanceByForests cX10_distanceByForests 1 := ⟨B.exec, B.bytes, findClass_of_methodNamed B.named, atoms_spec (ws := wsX10_distanceByForests) B.pre, hG, hml, B.notSynchronized⟩
  have hr := B.returns
  have hl := lv_entry ([.ref (a 0)]) (n := 1) (Nat.le_of_ble_eq_true rfl)
  rw [lg_entry_eq]
  generalize (lg_sl ([.ref (a 0)]) ++ List.replicate (1 - (lg_sl ([.ref (a 0)])).length) Slot.unset).toArray = ls at hl ⊢
  have hl : lv_has ls 1 [(0, .ref (a 0))] := hl
  exact wke_X10_distanceByForests X hr  hw s.heap [] ls hP hD va_S.rf hl

theorem dX11_childrenOf_0 : decode cX11_childrenOf 0 = .ok (.iconst 0, 1) := by decide +kernel
theorem dX11_childrenOf_1 : decode cX11_childrenOf 1 = .ok (.istore_n 3, 1) := by decide +kernel
theorem dX11_childrenOf_2 : decode cX11_childrenOf 2 = .ok (.iconst 1, 1) := by decide +kernel
theorem dX11_childrenOf_3 : decode cX11_childrenOf 3 = .ok (.istore 4, 2) := by decide +kernel
theorem dX11_childrenOf_5 : decode cX11_childrenOf 5 = .ok (.iload 4, 2) := by decide +kernel
theorem dX11_childrenOf_7 : decode cX11_childrenOf 7 = .ok (.aload_n 0, 1) := by decide +kernel
theorem dX11_childrenOf_8 : decode cX11_childrenOf 8 = .ok (.getfield 22, 3) := by decide +kernel
theorem dX11_childrenOf_11 : decode cX11_childrenOf 11 = .ok (.bipush 12, 2) := by decide +kernel
theorem dX11_childrenOf_13 : decode cX11_childrenOf 13 = .ok (.iload_n 1, 1) := by decide +kernel
theorem dX11_childrenOf_14 : decode cX11_childrenOf 14 = .ok (.imul, 1) := by decide +kernel
theorem dX11_childrenOf_15 : decode cX11_childrenOf 15 = .ok (.iload_n 2, 1) := by decide +kernel
theorem dX11_childrenOf_16 : decode cX11_childrenOf 16 = .ok (.iadd, 1) := by decide +kernel
theorem dX11_childrenOf_17 : decode cX11_childrenOf 17 = .ok (.iaload, 1) := by decide +kernel
theorem dX11_childrenOf_18 : decode cX11_childrenOf 18 = .ok (.if_icmp .ge 47, 3) := by decide +kernel
theorem dX11_childrenOf_21 : decode cX11_childrenOf 21 = .ok (.iload_n 3, 1) := by decide +kernel
theorem dX11_childrenOf_22 : decode cX11_childrenOf 22 = .ok (.aload_n 0, 1) := by decide +kernel
theorem dX11_childrenOf_23 : decode cX11_childrenOf 23 = .ok (.getfield 13, 3) := by decide +kernel
theorem dX11_childrenOf_26 : decode cX11_childrenOf 26 = .ok (.bipush 12, 2) := by decide +kernel
theorem dX11_childrenOf_28 : decode cX11_childrenOf 28 = .ok (.iload_n 1, 1) := by decide +kernel
theorem dX11_childrenOf_29 : decode cX11_childrenOf 29 = .ok (.imul, 1) := by decide +kernel
theorem dX11_childrenOf_30 : decode cX11_childrenOf 30 = .ok (.iload_n 2, 1) := by decide +kernel
theorem dX11_childrenOf_31 : decode cX11_childrenOf 31 = .ok (.iadd, 1) := by decide +kernel
theorem dX11_childrenOf_32 : decode cX11_childrenOf 32 = .ok (.iload 4, 2) := by decide +kernel
theorem dX11_childrenOf_34 : decode cX11_childrenOf 34 = .ok (.iadd, 1) := by decide +kernel
theorem dX11_childrenOf_35 : decode cX11_childrenOf 35 = .ok (.iaload, 1) := by decide +kernel
theorem dX11_childrenOf_36 : decode cX11_childrenOf 36 = .ok (.aload_n 0, 1) := by decide +kernel
theorem dX11_childrenOf_37 : decode cX11_childrenOf 37 = .ok (.getfield 13, 3) := by decide +kernel
theorem dX11_childrenOf_40 : decode cX11_childrenOf 40 = .ok (.bipush 12, 2) := by decide +kernel
theorem dX11_childrenOf_42 : decode cX11_childrenOf 42 = .ok (.iload_n 1, 1) := by decide +kernel
theorem dX11_childrenOf_43 : decode cX11_childrenOf 43 = .ok (.imul, 1) := by decide +kernel
theorem dX11_childrenOf_44 : decode cX11_childrenOf 44 = .ok (.iload_n 2, 1) := by decide +kernel
theorem dX11_childrenOf_45 : decode cX11_childrenOf 45 = .ok (.iadd, 1) := by decide +kernel
theorem dX11_childrenOf_46 : decode cX11_childrenOf 46 = .ok (.iaload, 1) := by decide +kernel
theorem dX11_childrenOf_47 : decode cX11_childrenOf 47 = .ok (.iconst 1, 1) := by decide +kernel
theorem dX11_childrenOf_48 : decode cX11_childrenOf 48 = .ok (.iadd, 1) := by decide +kernel
theorem dX11_childrenOf_49 : decode cX11_childrenOf 49 = .ok (.if_icmp .ne 7, 3) := by decide +kernel
theorem dX11_childrenOf_52 : decode cX11_childrenOf 52 = .ok (.iconst 1, 1) := by decide +kernel
theorem dX11_childrenOf_53 : decode cX11_childrenOf 53 = .ok (.goto 4, 3) := by decide +kernel
theorem dX11_childrenOf_56 : decode cX11_childrenOf 56 = .ok (.iconst 0, 1) := by decide +kernel
theorem dX11_childrenOf_57 : decode cX11_childrenOf 57 = .ok (.iadd, 1) := by decide +kernel
theorem dX11_childrenOf_58 : decode cX11_childrenOf 58 = .ok (.istore_n 3, 1) := by decide +kernel
theorem dX11_childrenOf_59 : decode cX11_childrenOf 59 = .ok (.iinc 4 1, 3) := by decide +kernel
theorem dX11_childrenOf_62 : decode cX11_childrenOf 62 = .ok (.goto (-57), 3) := by decide +kernel
theorem dX11_childrenOf_65 : decode cX11_childrenOf 65 = .ok (.iload_n 3, 1) := by decide +kernel
theorem dX11_childrenOf_66 : decode cX11_childrenOf 66 = .ok (.ireturn, 1) := by decide +kernel
theorem lk_X11_childrenOf_f22 : Cond.fieldLink RX11 22 "TreeComparerModel" "size" "[I" ∈ wsX11_childrenOf := by decide +kernel
theorem hi_X11_childrenOf_11 : ∀ w ∈ u_ws RX11 TX11 24, w ∈ wsX11_childrenOf := by decide +kernel
theorem lk_X11_childrenOf_f13 : Cond.fieldLink RX11 13 "TreeComparerModel" "level" "[I" ∈ wsX11_childrenOf := by decide +kernel
def wpj_X11_childrenOf_57 (p0 : Int) (p1 : Int) (x4 : Int) (s0 : Int) (s1 : Int) (M : Mem) (J5 : Int → Int → Mem → Prop) (Q : Int → Mem → Prop) : Prop := (∀ y10 : Int, y10 = s1 + s0 → J5 y10 (x4 + 1) M)
def wph_X11_childrenOf_5 (p0 : Int) (p1 : Int) (x3 : Int) (x4 : Int) (M : Mem) (J5 : Int → Int → Mem → Prop) (Q : Int → Mem → Prop) : Prop := ((0 : Int) ≤ (12 * p0) + p1 ∧ (12 * p0) + p1 < 24) ∧ inR x4 ∧ inR (M 13 4 ((12 * p0) + p1).toNat) ∧ (((M 13 4 ((12 * p0) + p1).toNat) ≤ x4 → Q x3 M) ∧ (¬ ((M 13 4 ((12 * p0) + p1).toNat) ≤ x4) → ((0 : Int) ≤ ((12 * p0) + p1) + x4 ∧ ((12 * p0) + p1) + x4 < 24) ∧ ((0 : Int) ≤ (12 * p0) + p1 ∧ (12 * p0) + p1 < 24) ∧ inR (M 13 1 (((12 * p0) + p1) + x4).toNat) ∧ inR ((M 13 1 ((12 * p0) + p1).toNat) + 1) ∧ (((M 13 1 (((12 * p0) + p1) + x4).toNat) ≠ (M 13 1 ((12 * p0) + p1).toNat) + 1 → wpj_X11_childrenOf_57 p0 p1 x4 0 x3 M J5 Q) ∧ (¬ ((M 13 1 (((12 * p0) + p1) + x4).toNat) ≠ (M 13 1 ((12 * p0) + p1).toNat) + 1) → wpj_X11_childrenOf_57 p0 p1 x4 1 x3 M J5 Q))))
def wpe_X11_childrenOf (p0 : Int) (p1 : Int) (M : Mem) (J5 : Int → Int → Mem → Prop) (Q : Int → Mem → Prop) : Prop := J5 0 1 M
def wp_X11_childrenOf (M : Mem) (p0 : Int) (p1 : Int) (Q : Int → Mem → Prop) : Prop := ∃ (I5 : Nat → Int → Int → Mem → Prop), wpe_X11_childrenOf p0 p1 M (fun (x3 : Int) (x4 : Int) (M1 : Mem) => ∃ n1 : Nat, I5 n1 x3 x4 M1) Q ∧ (∀ (n : Nat) (x3 : Int) (x4 : Int) (M : Mem), I5 n x3 x4 M → wph_X11_childrenOf_5 p0 p1 x3 x4 M (fun (x3 : Int) (x4 : Int) (M1 : Mem) => ∃ n1 : Nat, n1 < n ∧ I5 n1 x3 x4 M1) Q)
set_option maxHeartbeats 4000000 in
set_option maxRecDepth 100000 in
theorem wkj_X11_childrenOf_57 {p : Program} {l : Launch} {e : Env} {s : State} {m : MethodId} {args : Array Value} {below : List Frame} {meth : Method} {c : Code} {D : va_G} {g : GT} {A : Nat → Prop} {a : Nat → Nat} {b : Nat → Nat → Nat} (X : vC p s m args meth c D g A RX11 wsX11_childrenOf cX11_childrenOf 5) (hr : meth.sig.returnType = (some .int)) {p0 : Int} {p1 : Int} {x4 : Int} {s0 : Int} {s1 : Int} {M : Mem} {J5 : Int → Int → Mem → Prop} {Q : Int → Mem → Prop} (hJ5 : ∀ (x3 : Int) (x4 : Int) (M : Mem), J5 x3 x4 M → vV p l e ({ frames := 0, cells := 0, slots := 0, locals := 0 } : Room) s m args below meth c D g A a b 5 0 0 (MQ below (cQi D g A a b Q) args s 0 0 A) M [(0, .ref (a 13)), (1, iv p0), (2, iv p1), (3, iv x3), (4, iv x4)] 5 []) (hw : wpj_X11_childrenOf_57 p0 p1 x4 s0 s1 M J5 Q) : vV p l e ({ frames := 0, cells := 0, slots := 0, locals := 0 } : Room) s m args below meth c D g A a b 5 0 0 (MQ below (cQi D g A a b Q) args s 0 0 A) M [(0, .ref (a 13)), (1, iv p0), (2, iv p1), (4, iv x4)] 57 [iv s0, iv s1] := by
  unfold wpj_X11_childrenOf_57 at hw
  refine V_iadd X dX11_childrenOf_57 ?_
  refine V_top (fun y10 ey10 => ?_)
  have hw := hw y10 ey10
  refine V_istore_n (lv1 := [(0, .ref (a 13)), (1, iv p0), (2, iv p1), (3, iv y10), (4, iv x4)]) X [1, 2, 3, 0, 4] dX11_childrenOf_58 rfl (by decide) rfl ?_
  refine V_iinc (lv1 := [(0, .ref (a 13)), (1, iv p0), (2, iv p1), (3, iv y10), (4, iv (x4 + 1))]) X [1, 2, 3, 4, 0] dX11_childrenOf_59 (q := 4) rfl (by decide) rfl ?_
  refine V_goto (tgt := 5) X dX11_childrenOf_62 (by decide) ?_
  exact hJ5 _ _ _ hw
set_option maxHeartbeats 4000000 in
set_option maxRecDepth 100000 in
theorem wkh_X11_childrenOf_5 {p : Program} {l : Launch} {e : Env} {s : State} {m : MethodId} {args : Array Value} {below : List Frame} {meth : Method} {c : Code} {D : va_G} {g : GT} {A : Nat → Prop} {a : Nat → Nat} {b : Nat → Nat → Nat} (X : vC p s m args meth c D g A RX11 wsX11_childrenOf cX11_childrenOf 5) (hr : meth.sig.returnType = (some .int)) {p0 : Int} {p1 : Int} {x3 : Int} {x4 : Int} {M : Mem} {J5 : Int → Int → Mem → Prop} {Q : Int → Mem → Prop} (hJ5 : ∀ (x3 : Int) (x4 : Int) (M : Mem), J5 x3 x4 M → vV p l e ({ frames := 0, cells := 0, slots := 0, locals := 0 } : Room) s m args below meth c D g A a b 5 0 0 (MQ below (cQi D g A a b Q) args s 0 0 A) M [(0, .ref (a 13)), (1, iv p0), (2, iv p1), (3, iv x3), (4, iv x4)] 5 []) (hw : wph_X11_childrenOf_5 p0 p1 x3 x4 M J5 Q) : vV p l e ({ frames := 0, cells := 0, slots := 0, locals := 0 } : Room) s m args below meth c D g A a b 5 0 0 (MQ below (cQi D g A a b Q) args s 0 0 A) M [(0, .ref (a 13)), (1, iv p0), (2, iv p1), (3, iv x3), (4, iv x4)] 5 [] := by
  unfold wph_X11_childrenOf_5 at hw
  refine V_iload X dX11_childrenOf_5 (q := 4) rfl ?_
  refine V_aload_n X dX11_childrenOf_7 rfl (q := 0) rfl ?_
  refine V_get (C := RX11) (T := TX11) (N := 24) (ci := 11) X hi_X11_childrenOf_11 gO_13 rfl 4 (by decide) lk_X11_childrenOf_f22 (fun _ h9 => h9) rfl dX11_childrenOf_8 ?_
  refine V_bipush X dX11_childrenOf_11 rfl ?_
  refine V_iload_n X dX11_childrenOf_13 rfl (q := 1) rfl ?_
  refine V_imul X dX11_childrenOf_14 ?_
  refine V_iload_n X dX11_childrenOf_15 rfl (q := 2) rfl ?_
  refine V_iadd X dX11_childrenOf_16 ?_
  obtain ⟨h1, hw⟩ := hw
  refine V_iald X (gA_13_4) h1 (by decide) dX11_childrenOf_17 ?_
  obtain ⟨h2, h3, hw⟩ := hw
  refine V_icmp_ge (tgt := 65) X h2 h3 dX11_childrenOf_18 (by decide) (fun q4 => ?_) (fun q4 => ?_)
  · have hw := hw.1 q4
    refine V_iload_n X dX11_childrenOf_65 rfl (q := 3) rfl ?_
    exact V_iret X hr hw dX11_childrenOf_66
  · have hw := hw.2 q4
    refine V_iload_n X dX11_childrenOf_21 rfl (q := 3) rfl ?_
    refine V_aload_n X dX11_childrenOf_22 rfl (q := 0) rfl ?_
    refine V_get (C := RX11) (T := TX11) (N := 24) (ci := 11) X hi_X11_childrenOf_11 gO_13 rfl 1 (by decide) lk_X11_childrenOf_f13 (fun _ h9 => h9) rfl dX11_childrenOf_23 ?_
    refine V_bipush X dX11_childrenOf_26 rfl ?_
    refine V_iload_n X dX11_childrenOf_28 rfl (q := 1) rfl ?_
    refine V_imul X dX11_childrenOf_29 ?_
    refine V_iload_n X dX11_childrenOf_30 rfl (q := 2) rfl ?_
    refine V_iadd X dX11_childrenOf_31 ?_
    refine V_iload X dX11_childrenOf_32 (q := 4) rfl ?_
    refine V_iadd X dX11_childrenOf_34 ?_
    obtain ⟨h5, hw⟩ := hw
    refine V_iald X (gA_13_1) h5 (by decide) dX11_childrenOf_35 ?_
    refine V_aload_n X dX11_childrenOf_36 rfl (q := 0) rfl ?_
    refine V_get (C := RX11) (T := TX11) (N := 24) (ci := 11) X hi_X11_childrenOf_11 gO_13 rfl 1 (by decide) lk_X11_childrenOf_f13 (fun _ h9 => h9) rfl dX11_childrenOf_37 ?_
    refine V_bipush X dX11_childrenOf_40 rfl ?_
    refine V_iload_n X dX11_childrenOf_42 rfl (q := 1) rfl ?_
    refine V_imul X dX11_childrenOf_43 ?_
    refine V_iload_n X dX11_childrenOf_44 rfl (q := 2) rfl ?_
    refine V_iadd X dX11_childrenOf_45 ?_
    obtain ⟨h6, hw⟩ := hw
    refine V_iald X (gA_13_1) h6 (by decide) dX11_childrenOf_46 ?_
    refine V_iconst X dX11_childrenOf_47 ?_
    refine V_iadd X dX11_childrenOf_48 ?_
    obtain ⟨h7, h8, hw⟩ := hw
    refine V_icmp_ne (tgt := 56) X h7 h8 dX11_childrenOf_49 (by decide) (fun q9 => ?_) (fun q9 => ?_)
    · have hw := hw.1 q9
      refine V_iconst X dX11_childrenOf_56 ?_
      refine V_sub (lv1 := [(0, .ref (a 13)), (1, iv p0), (2, iv p1), (4, iv x4)]) [0, 1, 2, 4] rfl ?_
      exact wkj_X11_childrenOf_57 X hr hJ5 hw
    · have hw := hw.2 q9
      refine V_iconst X dX11_childrenOf_52 ?_
      refine V_goto (tgt := 57) X dX11_childrenOf_53 (by decide) ?_
      refine V_sub (lv1 := [(0, .ref (a 13)), (1, iv p0), (2, iv p1), (4, iv x4)]) [0, 1, 2, 4] rfl ?_
      exact wkj_X11_childrenOf_57 X hr hJ5 hw
set_option maxHeartbeats 4000000 in
set_option maxRecDepth 100000 in
theorem wke_X11_childrenOf {p : Program} {l : Launch} {e : Env} {s : State} {m : MethodId} {args : Array Value} {below : List Frame} {meth : Method} {c : Code} {D : va_G} {g : GT} {A : Nat → Prop} {a : Nat → Nat} {b : Nat → Nat → Nat} (X : vC p s m args meth c D g A RX11 wsX11_childrenOf cX11_childrenOf 5) (hr : meth.sig.returnType = (some .int)) {p0 : Int} {p1 : Int} {M : Mem} {J5 : Int → Int → Mem → Prop} {Q : Int → Mem → Prop} (hJ5 : ∀ (x3 : Int) (x4 : Int) (M : Mem), J5 x3 x4 M → vV p l e ({ frames := 0, cells := 0, slots := 0, locals := 0 } : Room) s m args below meth c D g A a b 5 0 0 (MQ below (cQi D g A a b Q) args s 0 0 A) M [(0, .ref (a 13)), (1, iv p0), (2, iv p1), (3, iv x3), (4, iv x4)] 5 []) (hw : wpe_X11_childrenOf p0 p1 M J5 Q) : vV p l e ({ frames := 0, cells := 0, slots := 0, locals := 0 } : Room) s m args below meth c D g A a b 5 0 0 (MQ below (cQi D g A a b Q) args s 0 0 A) M [(0, .ref (a 13)), (1, iv p0), (2, iv p1)] 0 [] := by
  unfold wpe_X11_childrenOf at hw
  refine V_iconst X dX11_childrenOf_0 ?_
  refine V_istore_n (lv1 := [(0, .ref (a 13)), (1, iv p0), (2, iv p1), (3, iv 0)]) X [1, 2, 3, 0] dX11_childrenOf_1 rfl (by decide) rfl ?_
  refine V_iconst X dX11_childrenOf_2 ?_
  refine V_istore (lv1 := [(0, .ref (a 13)), (1, iv p0), (2, iv p1), (3, iv 0), (4, iv 1)]) X [1, 2, 3, 4, 0] dX11_childrenOf_3 (by decide) rfl ?_
  exact hJ5 _ _ _ hw
set_option maxHeartbeats 4000000 in
set_option maxRecDepth 100000 in
theorem c_X11_childrenOf (l : Launch) {p0 : Int} {p1 : Int} {D : va_G} {g : GT} {A : Nat → Prop} {a : Nat → Nat} {b : Nat → Nat → Nat} {M : Mem} {Q : Int → Mem → Prop} (hw : wp_X11_childrenOf M p0 p1 Q) : Met l yX11_childrenOf wsX11_childrenOf ({ frames := 0, cells := 0, slots := 0, locals := 0 } : Room) (cPc D g A a b M [.ref (a 13), iv p0, iv p1]) (cQi D g A a b Q) 0 0 A := by
  refine Met.ofW (cc := cX11_childrenOf) (maxL := 5) (ret := (some .int)) (by decide) rfl ?_
  intro p e s m args below meth c s₁ B hml hv
  obtain ⟨rfl, hP, hD, hG⟩ := hv
  have X : vC p s m _ meth c D g A RX11 wsX11_childrenOf cX11_childrenOf 5 := ⟨B.exec, B.bytes, findClass_of_methodNamed B.named, atoms_spec (ws := wsX11_childrenOf) B.pre, hG, hml, B.notSynchronized⟩
  have hr := B.returns
  have hl := lv_entry ([.ref (a 13), iv p0, iv p1]) (n := 5) (Nat.le_of_ble_eq_true rfl)
  rw [lg_entry_eq]
  generalize (lg_sl ([.ref (a 13), iv p0, iv p1]) ++ List.replicate (5 - (lg_sl ([.ref (a 13), iv p0, iv p1])).length) Slot.unset).toArray = ls at hl ⊢
  have hl : lv_has ls 5 [(0, .ref (a 13)), (1, iv p0), (2, iv p1)] := hl
  obtain ⟨I5, hw, hI5⟩ := hw
  have K : ∀ n : Nat, (∀ (x3 : Int) (x4 : Int) (M : Mem), I5 n x3 x4 M → vV p l e ({ frames := 0, cells := 0, slots := 0, locals := 0 } : Room) s m ([.ref (a 13), iv p0, iv p1] : List Value).toArray below meth c D g A a b 5 0 0 (MQ below (cQi D g A a b Q) ([.ref (a 13), iv p0, iv p1] : List Value).toArray s 0 0 A) M [(0, .ref (a 13)), (1, iv p0), (2, iv p1), (3, iv x3), (4, iv x4)] 5 []) := by
    intro n
    induction n using Nat.strongRecOn with
    | ind n ih =>
      exact fun x3 x4 M hh => wkh_X11_childrenOf_5 X hr (fun _ _ _ ⟨n1, hn, hh⟩ => (ih n1 hn) _ _ _ hh) (hI5 n x3 x4 M hh)
  exact wke_X11_childrenOf X hr  (fun _ _ _ ⟨n1, hh⟩ => (K n1) _ _ _ hh) hw s.heap [] ls hP hD va_S.rf hl

set_option maxRecDepth 20000 in
theorem ggX11_children_X11_measures : GoodIn wsX11_children wsX11_measures := goodIn_r _ [5, 6, 7, 8, 33, 34, 35, 36, 37, 38, 39, 40, 41, 42, 43, 44, 45, 46, 47, 48, 49, 50, 51, 52, 53, 54, 55, 56] (by decide +kernel) (by decide +kernel)
set_option maxRecDepth 20000 in
theorem gX11_children_X11_measures : GoodIn wsX11_children (wsV RX11 95 RX11 yX11_measures wsX11_measures) := goodIn_app (goodIn_of _ (by decide +kernel)) ggX11_children_X11_measures
set_option maxRecDepth 20000 in
theorem ggX11_children_X11_isNode : GoodIn wsX11_children wsX11_isNode := goodIn_r _ [12, 6, 13, 14, 4, 15, 16, 17, 18, 33, 34, 35, 36, 37, 38, 39, 40, 41, 42, 43, 44, 45, 46, 47, 48, 49, 50, 51, 52, 53, 54, 55, 56] (by decide +kernel) (by decide +kernel)
set_option maxRecDepth 20000 in
theorem gX11_children_X11_isNode : GoodIn wsX11_children (wsV RX11 98 RX11 yX11_isNode wsX11_isNode) := goodIn_app (goodIn_of _ (by decide +kernel)) ggX11_children_X11_isNode
set_option maxRecDepth 20000 in
theorem ggX11_children_X11_goes : GoodIn wsX11_children wsX11_goes := goodIn_r _ [22, 23, 33, 34, 35, 36, 37, 38, 39, 40, 41, 42, 43, 44, 45, 46, 47, 48, 49, 50, 51, 52, 53, 54, 55, 56] (by decide +kernel) (by decide +kernel)
set_option maxRecDepth 20000 in
theorem gX11_children_X11_goes : GoodIn wsX11_children (wsV RX11 87 RX11 yX11_goes wsX11_goes) := goodIn_app (goodIn_of _ (by decide +kernel)) ggX11_children_X11_goes
set_option maxRecDepth 20000 in
theorem ggX11_children_X11_place : GoodIn wsX11_children wsX11_place := goodIn_r _ [27, 28, 33, 34, 35, 36, 37, 38, 39, 40, 41, 42, 43, 44, 45, 46, 47, 48, 49, 50, 51, 52, 53, 54, 55, 56] (by decide +kernel) (by decide +kernel)
set_option maxRecDepth 20000 in
theorem gX11_children_X11_place : GoodIn wsX11_children (wsV RX11 102 RX11 yX11_place wsX11_place) := goodIn_app (goodIn_of _ (by decide +kernel)) ggX11_children_X11_place
set_option maxRecDepth 20000 in
theorem ggX11_children_X11_childrenOf : GoodIn wsX11_children wsX11_childrenOf := goodIn_r _ [32, 8, 7, 33, 34, 35, 36, 37, 38, 39, 40, 41, 42, 43, 44, 45, 46, 47, 48, 49, 50, 51, 52, 53, 54, 55, 56] (by decide +kernel) (by decide +kernel)
set_option maxRecDepth 20000 in
theorem gX11_children_X11_childrenOf : GoodIn wsX11_children (wsV RX11 106 RX11 yX11_childrenOf wsX11_childrenOf) := goodIn_app (goodIn_of _ (by decide +kernel)) ggX11_children_X11_childrenOf
theorem dX11_children_0 : decode cX11_children 0 = .ok (.aload_n 0, 1) := by decide +kernel
theorem dX11_children_1 : decode cX11_children 1 = .ok (.invokevirtual 95, 3) := by decide +kernel
theorem dX11_children_4 : decode cX11_children 4 = .ok (.aload_n 0, 1) := by decide +kernel
theorem dX11_children_5 : decode cX11_children 5 = .ok (.aload_n 0, 1) := by decide +kernel
theorem dX11_children_6 : decode cX11_children 6 = .ok (.iload_n 1, 1) := by decide +kernel
theorem dX11_children_7 : decode cX11_children 7 = .ok (.iload_n 2, 1) := by decide +kernel
theorem dX11_children_8 : decode cX11_children 8 = .ok (.invokevirtual 98, 3) := by decide +kernel
theorem dX11_children_11 : decode cX11_children 11 = .ok (.iconst 1, 1) := by decide +kernel
theorem dX11_children_12 : decode cX11_children 12 = .ok (.iconst 1, 1) := by decide +kernel
theorem dX11_children_13 : decode cX11_children 13 = .ok (.invokevirtual 87, 3) := by decide +kernel
theorem dX11_children_16 : decode cX11_children 16 = .ok (.ifCond .eq 17, 3) := by decide +kernel
theorem dX11_children_19 : decode cX11_children 19 = .ok (.aload_n 0, 1) := by decide +kernel
theorem dX11_children_20 : decode cX11_children 20 = .ok (.iload_n 1, 1) := by decide +kernel
theorem dX11_children_21 : decode cX11_children 21 = .ok (.aload_n 0, 1) := by decide +kernel
theorem dX11_children_22 : decode cX11_children 22 = .ok (.iload_n 1, 1) := by decide +kernel
theorem dX11_children_23 : decode cX11_children 23 = .ok (.iload_n 2, 1) := by decide +kernel
theorem dX11_children_24 : decode cX11_children 24 = .ok (.invokevirtual 102, 3) := by decide +kernel
theorem dX11_children_27 : decode cX11_children 27 = .ok (.invokevirtual 106, 3) := by decide +kernel
theorem dX11_children_30 : decode cX11_children 30 = .ok (.goto 4, 3) := by decide +kernel
theorem dX11_children_33 : decode cX11_children 33 = .ok (.iconst 0, 1) := by decide +kernel
theorem dX11_children_34 : decode cX11_children 34 = .ok (.ireturn, 1) := by decide +kernel
def wpe_X11_children (p0 : Int) (p1 : Int) (M : Mem) (Q : Int → Mem → Prop) : Prop := wp_X11_measures M (fun M2 => wp_X11_isNode M2 p0 p1 (fun y3 M4 => wp_X11_goes M4 y3 1 1 (fun y5 M6 => inR y5 ∧ ((y5 = 0 → Q 0 M6) ∧ (¬ (y5 = 0) → wp_X11_place M6 p0 p1 (fun y9 M10 => wp_X11_childrenOf M10 p0 y9 (fun y11 M12 => Q y11 M12)))))))
def wp_X11_children (M : Mem) (p0 : Int) (p1 : Int) (Q : Int → Mem → Prop) : Prop := wpe_X11_children p0 p1 M Q
set_option maxHeartbeats 4000000 in
set_option maxRecDepth 100000 in
theorem wke_X11_children {p : Program} {l : Launch} {e : Env} {s : State} {m : MethodId} {args : Array Value} {below : List Frame} {meth : Method} {c : Code} {D : va_G} {g : GT} {A : Nat → Prop} {a : Nat → Nat} {b : Nat → Nat → Nat} (X : vC p s m args meth c D g A RX11 wsX11_children cX11_children 3) (hr : meth.sig.returnType = (some .int)) {p0 : Int} {p1 : Int} {M : Mem} {Q : Int → Mem → Prop} (hw : wpe_X11_children p0 p1 M Q) : vV p l e ({ frames := 3, cells := 0, slots := 0, locals := 64 } : Room) s m args below meth c D g A a b 3 0 0 (MQ below (cQi D g A a b Q) args s 0 0 A) M [(0, .ref (a 13)), (1, iv p0), (2, iv p1)] 0 [] := by
  unfold wpe_X11_children at hw
  refine V_aload_n X dX11_children_0 rfl (q := 0) rfl ?_
  refine V_callV_v X _ gO_13 rfl (As := []) (st := []) (c_X11_measures l hw) (cwV 0 X.2.2.2.1 gX11_children_X11_measures rfl rfl rfl (by decide +kernel) ⟨Nat.le_of_ble_eq_true rfl, Nat.le_of_ble_eq_true rfl⟩) rfl (Nat.le_of_ble_eq_true rfl) ⟨Nat.le_of_ble_eq_true rfl, Nat.le_of_ble_eq_true rfl⟩ rfl dX11_children_1 (fun M2 hw => ?_)
  refine V_aload_n X dX11_children_4 rfl (q := 0) rfl ?_
  refine V_aload_n X dX11_children_5 rfl (q := 0) rfl ?_
  refine V_iload_n X dX11_children_6 rfl (q := 1) rfl ?_
  refine V_iload_n X dX11_children_7 rfl (q := 2) rfl ?_
  refine V_callV_i X _ gO_13 rfl (As := [iv p0, iv p1]) (st := [.ref (a 13)]) (c_X11_isNode l hw) (cwV 2 X.2.2.2.1 gX11_children_X11_isNode rfl rfl rfl (by decide +kernel) ⟨Nat.le_of_ble_eq_true rfl, Nat.le_of_ble_eq_true rfl⟩) rfl (Nat.le_of_ble_eq_true rfl) ⟨Nat.le_of_ble_eq_true rfl, Nat.le_of_ble_eq_true rfl⟩ rfl dX11_children_8 (fun y3 M4 hw => ?_)
  refine V_iconst X dX11_children_11 ?_
  refine V_iconst X dX11_children_12 ?_
  refine V_callV_i X _ gO_13 rfl (As := [iv y3, iv 1, iv 1]) (st := []) (c_X11_goes l hw) (cwV 3 X.2.2.2.1 gX11_children_X11_goes rfl rfl rfl (by decide +kernel) ⟨Nat.le_of_ble_eq_true rfl, Nat.le_of_ble_eq_true rfl⟩) rfl (Nat.le_of_ble_eq_true rfl) ⟨Nat.le_of_ble_eq_true rfl, Nat.le_of_ble_eq_true rfl⟩ rfl dX11_children_13 (fun y5 M6 hw => ?_)
  obtain ⟨h7, hw⟩ := hw
  refine V_if_eq (tgt := 33) X h7 dX11_children_16 (by decide) (fun q8 => ?_) (fun q8 => ?_)
  · have hw := hw.1 q8
    refine V_iconst X dX11_children_33 ?_
    exact V_iret X hr hw dX11_children_34
  · have hw := hw.2 q8
    refine V_aload_n X dX11_children_19 rfl (q := 0) rfl ?_
    refine V_iload_n X dX11_children_20 rfl (q := 1) rfl ?_
    refine V_aload_n X dX11_children_21 rfl (q := 0) rfl ?_
    refine V_iload_n X dX11_children_22 rfl (q := 1) rfl ?_
    refine V_iload_n X dX11_children_23 rfl (q := 2) rfl ?_
    refine V_callV_i X _ gO_13 rfl (As := [iv p0, iv p1]) (st := [iv p0, .ref (a 13)]) (c_X11_place l hw) (cwV 2 X.2.2.2.1 gX11_children_X11_place rfl rfl rfl (by decide +kernel) ⟨Nat.le_of_ble_eq_true rfl, Nat.le_of_ble_eq_true rfl⟩) rfl (Nat.le_of_ble_eq_true rfl) ⟨Nat.le_of_ble_eq_true rfl, Nat.le_of_ble_eq_true rfl⟩ rfl dX11_children_24 (fun y9 M10 hw => ?_)
    refine V_callV_i X _ gO_13 rfl (As := [iv p0, iv y9]) (st := []) (c_X11_childrenOf l hw) (cwV 2 X.2.2.2.1 gX11_children_X11_childrenOf rfl rfl rfl (by decide +kernel) ⟨Nat.le_of_ble_eq_true rfl, Nat.le_of_ble_eq_true rfl⟩) rfl (Nat.le_of_ble_eq_true rfl) ⟨Nat.le_of_ble_eq_true rfl, Nat.le_of_ble_eq_true rfl⟩ rfl dX11_children_27 (fun y11 M12 hw => ?_)
    refine V_goto (tgt := 34) X dX11_children_30 (by decide) ?_
    exact V_iret X hr hw dX11_children_34
set_option maxHeartbeats 4000000 in
set_option maxRecDepth 100000 in
theorem c_X11_children (l : Launch) {p0 : Int} {p1 : Int} {D : va_G} {g : GT} {A : Nat → Prop} {a : Nat → Nat} {b : Nat → Nat → Nat} {M : Mem} {Q : Int → Mem → Prop} (hw : wp_X11_children M p0 p1 Q) : Met l yX11_children wsX11_children ({ frames := 3, cells := 0, slots := 0, locals := 64 } : Room) (cPc D g A a b M [.ref (a 13), iv p0, iv p1]) (cQi D g A a b Q) 0 0 A := by
  refine Met.ofW (cc := cX11_children) (maxL := 3) (ret := (some .int)) (by decide) rfl ?_
  intro p e s m args below meth c s₁ B hml hv
  obtain ⟨rfl, hP, hD, hG⟩ := hv
  have X : vC p s m _ meth c D g A RX11 wsX11_children cX11_children 3 := ⟨B.exec, B.bytes, findClass_of_methodNamed B.named, atoms_spec (ws := wsX11_children) B.pre, hG, hml, B.notSynchronized⟩
  have hr := B.returns
  have hl := lv_entry ([.ref (a 13), iv p0, iv p1]) (n := 3) (Nat.le_of_ble_eq_true rfl)
  rw [lg_entry_eq]
  generalize (lg_sl ([.ref (a 13), iv p0, iv p1]) ++ List.replicate (3 - (lg_sl ([.ref (a 13), iv p0, iv p1])).length) Slot.unset).toArray = ls at hl ⊢
  have hl : lv_has ls 3 [(0, .ref (a 13)), (1, iv p0), (2, iv p1)] := hl
  exact wke_X11_children X hr  hw s.heap [] ls hP hD va_S.rf hl

set_option maxRecDepth 20000 in
theorem ggX10_setLabel_X10_treeWith : GoodIn wsX10_setLabel wsX10_treeWith := goodIn_ca (goodIn_r _ [6, 7, 8, 9, 5, 10, 11, 12, 13, 14, 15, 16, 22, 23, 24, 25, 26, 27, 28, 29, 30, 31, 32, 33, 34, 35, 36, 37, 38, 39, 40, 41, 42, 43, 44, 45] (by decide +kernel) (by decide +kernel)) (goodIn_sub (fun _ h => List.mem_cons_of_mem _ (List.mem_append_left _ (List.mem_append_right _ h))) (by decide +kernel))
set_option maxRecDepth 20000 in
theorem gX10_setLabel_X10_treeWith : GoodIn wsX10_setLabel (wsV RX10 105 RX10 yX10_treeWith wsX10_treeWith) := goodIn_app (goodIn_of _ (by decide +kernel)) ggX10_setLabel_X10_treeWith
set_option maxRecDepth 20000 in
theorem ggX10_setLabel_X10_needAtMost : GoodIn wsX10_setLabel wsX10_needAtMost := goodIn_ca (goodIn_r _ [19, 20, 21] (by decide +kernel) (by decide +kernel)) (goodIn_sub (fun _ h => List.mem_cons_of_mem _ (List.mem_append_right _ h)) (by decide +kernel))
set_option maxRecDepth 20000 in
theorem gX10_setLabel_X10_needAtMost : GoodIn wsX10_setLabel (va_wsS RX10 85 yX10_needAtMost wsX10_needAtMost) := goodIn_app (goodIn_of _ (by decide +kernel)) ggX10_setLabel_X10_needAtMost
theorem dX10_setLabel_0 : decode cX10_setLabel 0 = .ok (.aload_n 0, 1) := by decide +kernel
theorem dX10_setLabel_1 : decode cX10_setLabel 1 = .ok (.iload_n 1, 1) := by decide +kernel
theorem dX10_setLabel_2 : decode cX10_setLabel 2 = .ok (.iload_n 2, 1) := by decide +kernel
theorem dX10_setLabel_3 : decode cX10_setLabel 3 = .ok (.invokevirtual 105, 3) := by decide +kernel
theorem dX10_setLabel_6 : decode cX10_setLabel 6 = .ok (.astore 4, 2) := by decide +kernel
theorem dX10_setLabel_8 : decode cX10_setLabel 8 = .ok (.iload_n 3, 1) := by decide +kernel
theorem dX10_setLabel_9 : decode cX10_setLabel 9 = .ok (.bipush 99, 2) := by decide +kernel
theorem dX10_setLabel_11 : decode cX10_setLabel 11 = .ok (.invokestatic 85, 3) := by decide +kernel
theorem dX10_setLabel_14 : decode cX10_setLabel 14 = .ok (.aload 4, 2) := by decide +kernel
theorem dX10_setLabel_16 : decode cX10_setLabel 16 = .ok (.getfield 119, 3) := by decide +kernel
theorem dX10_setLabel_19 : decode cX10_setLabel 19 = .ok (.iload_n 2, 1) := by decide +kernel
theorem dX10_setLabel_20 : decode cX10_setLabel 20 = .ok (.iaload, 1) := by decide +kernel
theorem dX10_setLabel_21 : decode cX10_setLabel 21 = .ok (.istore 5, 2) := by decide +kernel
theorem dX10_setLabel_23 : decode cX10_setLabel 23 = .ok (.aload 4, 2) := by decide +kernel
theorem dX10_setLabel_25 : decode cX10_setLabel 25 = .ok (.getfield 119, 3) := by decide +kernel
theorem dX10_setLabel_28 : decode cX10_setLabel 28 = .ok (.iload_n 2, 1) := by decide +kernel
theorem dX10_setLabel_29 : decode cX10_setLabel 29 = .ok (.iload_n 3, 1) := by decide +kernel
theorem dX10_setLabel_30 : decode cX10_setLabel 30 = .ok (.iastore, 1) := by decide +kernel
theorem dX10_setLabel_31 : decode cX10_setLabel 31 = .ok (.aload_n 0, 1) := by decide +kernel
theorem dX10_setLabel_32 : decode cX10_setLabel 32 = .ok (.iconst 0, 1) := by decide +kernel
theorem dX10_setLabel_33 : decode cX10_setLabel 33 = .ok (.putfield 73, 3) := by decide +kernel
theorem dX10_setLabel_36 : decode cX10_setLabel 36 = .ok (.iload 5, 2) := by decide +kernel
theorem dX10_setLabel_38 : decode cX10_setLabel 38 = .ok (.ireturn, 1) := by decide +kernel
theorem hi_X10_setLabel_9 : ∀ w ∈ u_ws RX9 TX9 9, w ∈ wsX10_setLabel := by decide +kernel
theorem lk_X10_setLabel_f73 : Cond.fieldLink RX10 73 "TreeComparer" "settled" "Z" ∈ wsX10_setLabel := by decide +kernel
theorem hi_X10_setLabel_10 : ∀ w ∈ u_ws RX10 TX10 9, w ∈ wsX10_setLabel := by decide +kernel
def wpe_X10_setLabel (p0 : Int) (p1 : Int) (p2 : Int) (M : Mem) (Q : Int → Mem → Prop) (XQ : String → Mem → Prop) : Prop := wp_X10_treeWith M p0 p1 (fun y1 M2 => isT y1 ∧ wp_X10_needAtMost M2 p2 99 (fun M4 => ((0 : Int) ≤ p1 ∧ p1 < 12) ∧ (∀ y6 : Int, y6 = (M4 y1 1 p1.toNat) → ((0 : Int) ≤ p1 ∧ p1 < 12) ∧ (∀ M7 : Mem, M7 = mset M4 y1 1 p1.toNat p2 → (∀ M9 : Mem, M9 = mset M7 0 8 0 0 → Q y6 M9)))) XQ) XQ
def wp_X10_setLabel (M : Mem) (p0 : Int) (p1 : Int) (p2 : Int) (Q : Int → Mem → Prop) (XQ : String → Mem → Prop) : Prop := wpe_X10_setLabel p0 p1 p2 M Q XQ
set_option maxHeartbeats 4000000 in
set_option maxRecDepth 100000 in
theorem wke_X10_setLabel {p : Program} {l : Launch} {e : Env} {s : State} {m : MethodId} {args : Array Value} {below : List Frame} {meth : Method} {c : Code} {D : va_G} {g : GT} {A : Nat → Prop} {a : Nat → Nat} {b : Nat → Nat → Nat} (X : vC p s m args meth c D g A RX10 wsX10_setLabel cX10_setLabel 6) (hr : meth.sig.returnType = (some .int)) {p0 : Int} {p1 : Int} {p2 : Int} (hlt : l.stackTraces = false) (htab : ∀ x ∈ c.exceptionTable.toList, False) {M : Mem} {Q : Int → Mem → Prop} {XQ : String → Mem → Prop} (hw : wpe_X10_setLabel p0 p1 p2 M Q XQ) : vV p l e ({ frames := 9, cells := 3, slots := 18, locals := 155 } : Room) s m args below meth c D g A a b 6 0 0 (vx_MQ below (cQi D g A a b Q) (cX D g A a b XQ) args s 3 18 A) M [(0, .ref (a 0)), (1, iv p0), (2, iv p1), (3, iv p2)] 0 [] := by
  unfold wpe_X10_setLabel at hw
  refine V_aload_n X dX10_setLabel_0 rfl (q := 0) rfl ?_
  refine V_iload_n X dX10_setLabel_1 rfl (q := 1) rfl ?_
  refine V_iload_n X dX10_setLabel_2 rfl (q := 2) rfl ?_
  refine V_callxV_r X _ _ gO_0 rfl (As := [iv p0, iv p1]) (st := []) (c_X10_treeWith l hlt hw) (cwV 2 X.2.2.2.1 gX10_setLabel_X10_treeWith rfl rfl rfl (by decide +kernel) ⟨Nat.le_of_ble_eq_true rfl, Nat.le_of_ble_eq_true rfl⟩) rfl (Nat.le_of_ble_eq_true rfl) ⟨Nat.le_of_ble_eq_true rfl, Nat.le_of_ble_eq_true rfl⟩ rfl dX10_setLabel_3 (fun E ce q9 M9 H9 locs9 ls9 hx9 hP9 hD9 hS9 hl9 h91 h92 h93 => V_xout X htab (Nat.le_of_ble_eq_true rfl) (Nat.le_of_ble_eq_true rfl) hx9 hP9 hD9 hS9 h91 h92 h93) (fun y1 M2 hw => ?_)
  obtain ⟨hy1, hw⟩ := hw
  refine V_astore (lv1 := [(0, .ref (a 0)), (1, iv p0), (2, iv p1), (3, iv p2), (4, .ref (a y1))]) X [1, 2, 3, 4, 0] dX10_setLabel_6 (by decide) rfl ?_
  refine V_iload_n X dX10_setLabel_8 rfl (q := 3) rfl ?_
  refine V_bipush X dX10_setLabel_9 rfl ?_
  refine V_callxS_v X _ _ (As := [iv p2, iv 99]) (st := []) (c_X10_needAtMost l hlt hw) (va_cwS 2 X.2.2.2.1 gX10_setLabel_X10_needAtMost rfl rfl rfl (by decide +kernel) ⟨Nat.le_of_ble_eq_true rfl, Nat.le_of_ble_eq_true rfl⟩) rfl (Nat.le_of_ble_eq_true rfl) ⟨Nat.le_of_ble_eq_true rfl, Nat.le_of_ble_eq_true rfl⟩ rfl dX10_setLabel_11 (fun E ce q9 M9 H9 locs9 ls9 hx9 hP9 hD9 hS9 hl9 h91 h92 h93 => V_xout X htab (Nat.le_of_ble_eq_true rfl) (Nat.le_of_ble_eq_true rfl) hx9 hP9 hD9 hS9 h91 h92 h93) (fun M4 hw => ?_)
  refine V_aload X dX10_setLabel_14 (q := 4) rfl ?_
  refine V_getN (C := RX9) (T := TX9) (N := 9) (ci := 9) X hi_X10_setLabel_9 (gTO hy1) rfl 1 (by decide) (List.mem_of_getElem? (i := 6) rfl) (fun _ h9 => h9) rfl dX10_setLabel_16 ?_
  refine V_iload_n X dX10_setLabel_19 rfl (q := 2) rfl ?_
  obtain ⟨h5, hw⟩ := hw
  refine V_iald X ((gT_1 hy1)) h5 (by decide) dX10_setLabel_20 ?_
  refine V_top (fun y6 ey6 => ?_)
  have hw := hw y6 ey6
  refine V_istore (lv1 := [(0, .ref (a 0)), (1, iv p0), (2, iv p1), (3, iv p2), (4, .ref (a y1)), (5, iv y6)]) X [1, 2, 3, 4, 5, 0] dX10_setLabel_21 (by decide) rfl ?_
  refine V_aload X dX10_setLabel_23 (q := 4) rfl ?_
  refine V_getN (C := RX9) (T := TX9) (N := 9) (ci := 9) X hi_X10_setLabel_9 (gTO hy1) rfl 1 (by decide) (List.mem_of_getElem? (i := 6) rfl) (fun _ h9 => h9) rfl dX10_setLabel_25 ?_
  refine V_iload_n X dX10_setLabel_28 rfl (q := 2) rfl ?_
  refine V_iload_n X dX10_setLabel_29 rfl (q := 3) rfl ?_
  obtain ⟨h8, hw⟩ := hw
  refine V_iast X ((gT_1 hy1)) ((sT_1 hy1)) h8 (by decide) dX10_setLabel_30 (fun M7 eM7 => ?_)
  have hw := hw M7 eM7
  refine V_aload_n X dX10_setLabel_31 rfl (q := 0) rfl ?_
  refine V_iconst X dX10_setLabel_32 ?_
  refine V_put (C := RX10) (T := TX10) (N := 9) (ci := 10) X hi_X10_setLabel_10 gO_0 rfl 8 (by decide) tyX10 tyX10_ok nmX10 rfl (tyX10_ok 8 (by decide)) (Or.inr ⟨rfl, by decide⟩) (show 8 < 9 from by decide) sI_0_8 lk_X10_setLabel_f73 (fun _ h9 => h9) dX10_setLabel_33 (fun M9 eM9 => ?_)
  have hw := hw M9 eM9
  refine V_iload X dX10_setLabel_36 (q := 5) rfl ?_
  exact V_xret (Nat.le_of_ble_eq_true rfl) (Nat.le_of_ble_eq_true rfl) (V_iret X hr hw dX10_setLabel_38)
set_option maxHeartbeats 4000000 in
set_option maxRecDepth 100000 in
theorem c_X10_setLabel (l : Launch) {p0 : Int} {p1 : Int} {p2 : Int} (hlt : l.stackTraces = false) {D : va_G} {g : GT} {A : Nat → Prop} {a : Nat → Nat} {b : Nat → Nat → Nat} {M : Mem} {Q : Int → Mem → Prop} {XQ : String → Mem → Prop} (hw : wp_X10_setLabel M p0 p1 p2 Q XQ) : vx_Met l yX10_setLabel wsX10_setLabel ({ frames := 9, cells := 3, slots := 18, locals := 155 } : Room) (cPc D g A a b M [.ref (a 0), iv p0, iv p1, iv p2]) (cQi D g A a b Q) (cX D g A a b XQ) 3 18 A := by
  refine vx_ofW (cc := cX10_setLabel) (maxL := 6) (ret := (some .int)) (by decide) rfl ?_
  intro p e s m args below meth c s₁ B hml htab hv
  obtain ⟨rfl, hP, hD, hG⟩ := hv
  have X : vC p s m _ meth c D g A RX10 wsX10_setLabel cX10_setLabel 6 := ⟨B.exec, B.bytes, findClass_of_methodNamed B.named, atoms_spec (ws := wsX10_setLabel) B.pre, hG, hml, B.notSynchronized⟩
  have hr := B.returns
  have hl := lv_entry ([.ref (a 0), iv p0, iv p1, iv p2]) (n := 6) (Nat.le_of_ble_eq_true rfl)
  rw [lg_entry_eq]
  generalize (lg_sl ([.ref (a 0), iv p0, iv p1, iv p2]) ++ List.replicate (6 - (lg_sl ([.ref (a 0), iv p0, iv p1, iv p2])).length) Slot.unset).toArray = ls at hl ⊢
  have hl : lv_has ls 6 [(0, .ref (a 0)), (1, iv p0), (2, iv p1), (3, iv p2)] := hl
  exact wke_X10_setLabel X hr hlt htab hw s.heap [] ls hP hD va_S.rf hl

set_option maxRecDepth 20000 in
theorem ggX11_kindOf_X11_isNode : GoodIn wsX11_kindOf wsX11_isNode := goodIn_r _ [6, 7, 8, 9, 5, 10, 11, 12, 13, 24, 25, 26, 27, 28, 29, 30, 31, 32, 33, 34, 35, 36, 37, 38, 39, 40, 41, 42, 43, 44, 45, 46, 47] (by decide +kernel) (by decide +kernel)
set_option maxRecDepth 20000 in
theorem gX11_kindOf_X11_isNode : GoodIn wsX11_kindOf (wsV RX11 98 RX11 yX11_isNode wsX11_isNode) := goodIn_app (goodIn_of _ (by decide +kernel)) ggX11_kindOf_X11_isNode
set_option maxRecDepth 20000 in
theorem ggX11_kindOf_X11_goes : GoodIn wsX11_kindOf wsX11_goes := goodIn_r _ [17, 18, 24, 25, 26, 27, 28, 29, 30, 31, 32, 33, 34, 35, 36, 37, 38, 39, 40, 41, 42, 43, 44, 45, 46, 47] (by decide +kernel) (by decide +kernel)
set_option maxRecDepth 20000 in
theorem gX11_kindOf_X11_goes : GoodIn wsX11_kindOf (wsV RX11 87 RX11 yX11_goes wsX11_goes) := goodIn_app (goodIn_of _ (by decide +kernel)) ggX11_kindOf_X11_goes
set_option maxRecDepth 20000 in
theorem ggX11_kindOf_X11_place : GoodIn wsX11_kindOf wsX11_place := goodIn_r _ [22, 23, 24, 25, 26, 27, 28, 29, 30, 31, 32, 33, 34, 35, 36, 37, 38, 39, 40, 41, 42, 43, 44, 45, 46, 47] (by decide +kernel) (by decide +kernel)
set_option maxRecDepth 20000 in
theorem gX11_kindOf_X11_place : GoodIn wsX11_kindOf (wsV RX11 102 RX11 yX11_place wsX11_place) := goodIn_app (goodIn_of _ (by decide +kernel)) ggX11_kindOf_X11_place
theorem dX11_kindOf_0 : decode cX11_kindOf 0 = .ok (.aload_n 0, 1) := by decide +kernel
theorem dX11_kindOf_1 : decode cX11_kindOf 1 = .ok (.aload_n 0, 1) := by decide +kernel
theorem dX11_kindOf_2 : decode cX11_kindOf 2 = .ok (.iload_n 1, 1) := by decide +kernel
theorem dX11_kindOf_3 : decode cX11_kindOf 3 = .ok (.iload_n 2, 1) := by decide +kernel
theorem dX11_kindOf_4 : decode cX11_kindOf 4 = .ok (.invokevirtual 98, 3) := by decide +kernel
theorem dX11_kindOf_7 : decode cX11_kindOf 7 = .ok (.iconst 1, 1) := by decide +kernel
theorem dX11_kindOf_8 : decode cX11_kindOf 8 = .ok (.iconst 1, 1) := by decide +kernel
theorem dX11_kindOf_9 : decode cX11_kindOf 9 = .ok (.invokevirtual 87, 3) := by decide +kernel
theorem dX11_kindOf_12 : decode cX11_kindOf 12 = .ok (.ifCond .eq 22, 3) := by decide +kernel
theorem dX11_kindOf_15 : decode cX11_kindOf 15 = .ok (.aload_n 0, 1) := by decide +kernel
theorem dX11_kindOf_16 : decode cX11_kindOf 16 = .ok (.getfield 16, 3) := by decide +kernel
theorem dX11_kindOf_19 : decode cX11_kindOf 19 = .ok (.bipush 12, 2) := by decide +kernel
theorem dX11_kindOf_21 : decode cX11_kindOf 21 = .ok (.iload_n 1, 1) := by decide +kernel
theorem dX11_kindOf_22 : decode cX11_kindOf 22 = .ok (.imul, 1) := by decide +kernel
theorem dX11_kindOf_23 : decode cX11_kindOf 23 = .ok (.aload_n 0, 1) := by decide +kernel
theorem dX11_kindOf_24 : decode cX11_kindOf 24 = .ok (.iload_n 1, 1) := by decide +kernel
theorem dX11_kindOf_25 : decode cX11_kindOf 25 = .ok (.iload_n 2, 1) := by decide +kernel
theorem dX11_kindOf_26 : decode cX11_kindOf 26 = .ok (.invokevirtual 102, 3) := by decide +kernel
theorem dX11_kindOf_29 : decode cX11_kindOf 29 = .ok (.iadd, 1) := by decide +kernel
theorem dX11_kindOf_30 : decode cX11_kindOf 30 = .ok (.iaload, 1) := by decide +kernel
theorem dX11_kindOf_31 : decode cX11_kindOf 31 = .ok (.goto 4, 3) := by decide +kernel
theorem dX11_kindOf_34 : decode cX11_kindOf 34 = .ok (.iconst 0, 1) := by decide +kernel
theorem dX11_kindOf_35 : decode cX11_kindOf 35 = .ok (.ireturn, 1) := by decide +kernel
theorem lk_X11_kindOf_f16 : Cond.fieldLink RX11 16 "TreeComparerModel" "kind" "[I" ∈ wsX11_kindOf := by decide +kernel
theorem hi_X11_kindOf_11 : ∀ w ∈ u_ws RX11 TX11 24, w ∈ wsX11_kindOf := by decide +kernel
def wpe_X11_kindOf (p0 : Int) (p1 : Int) (M : Mem) (Q : Int → Mem → Prop) : Prop := wp_X11_isNode M p0 p1 (fun y1 M2 => wp_X11_goes M2 y1 1 1 (fun y3 M4 => inR y3 ∧ ((y3 = 0 → Q 0 M4) ∧ (¬ (y3 = 0) → wp_X11_place M4 p0 p1 (fun y7 M8 => ((0 : Int) ≤ (12 * p0) + y7 ∧ (12 * p0) + y7 < 24) ∧ Q ((M8 13 2 ((12 * p0) + y7).toNat)) M8)))))
def wp_X11_kindOf (M : Mem) (p0 : Int) (p1 : Int) (Q : Int → Mem → Prop) : Prop := wpe_X11_kindOf p0 p1 M Q
set_option maxHeartbeats 4000000 in
set_option maxRecDepth 100000 in
theorem wke_X11_kindOf {p : Program} {l : Launch} {e : Env} {s : State} {m : MethodId} {args : Array Value} {below : List Frame} {meth : Method} {c : Code} {D : va_G} {g : GT} {A : Nat → Prop} {a : Nat → Nat} {b : Nat → Nat → Nat} (X : vC p s m args meth c D g A RX11 wsX11_kindOf cX11_kindOf 3) (hr : meth.sig.returnType = (some .int)) {p0 : Int} {p1 : Int} {M : Mem} {Q : Int → Mem → Prop} (hw : wpe_X11_kindOf p0 p1 M Q) : vV p l e ({ frames := 3, cells := 0, slots := 0, locals := 64 } : Room) s m args below meth c D g A a b 3 0 0 (MQ below (cQi D g A a b Q) args s 0 0 A) M [(0, .ref (a 13)), (1, iv p0), (2, iv p1)] 0 [] := by
  unfold wpe_X11_kindOf at hw
  refine V_aload_n X dX11_kindOf_0 rfl (q := 0) rfl ?_
  refine V_aload_n X dX11_kindOf_1 rfl (q := 0) rfl ?_
  refine V_iload_n X dX11_kindOf_2 rfl (q := 1) rfl ?_
  refine V_iload_n X dX11_kindOf_3 rfl (q := 2) rfl ?_
  refine V_callV_i X _ gO_13 rfl (As := [iv p0, iv p1]) (st := [.ref (a 13)]) (c_X11_isNode l hw) (cwV 2 X.2.2.2.1 gX11_kindOf_X11_isNode rfl rfl rfl (by decide +kernel) ⟨Nat.le_of_ble_eq_true rfl, Nat.le_of_ble_eq_true rfl⟩) rfl (Nat.le_of_ble_eq_true rfl) ⟨Nat.le_of_ble_eq_true rfl, Nat.le_of_ble_eq_true rfl⟩ rfl dX11_kindOf_4 (fun y1 M2 hw => ?_)
  refine V_iconst X dX11_kindOf_7 ?_
  refine V_iconst X dX11_kindOf_8 ?_
  refine V_callV_i X _ gO_13 rfl (As := [iv y1, iv 1, iv 1]) (st := []) (c_X11_goes l hw) (cwV 3 X.2.2.2.1 gX11_kindOf_X11_goes rfl rfl rfl (by decide +kernel) ⟨Nat.le_of_ble_eq_true rfl, Nat.le_of_ble_eq_true rfl⟩) rfl (Nat.le_of_ble_eq_true rfl) ⟨Nat.le_of_ble_eq_true rfl, Nat.le_of_ble_eq_true rfl⟩ rfl dX11_kindOf_9 (fun y3 M4 hw => ?_)
  obtain ⟨h5, hw⟩ := hw
  refine V_if_eq (tgt := 34) X h5 dX11_kindOf_12 (by decide) (fun q6 => ?_) (fun q6 => ?_)
  · have hw := hw.1 q6
    refine V_iconst X dX11_kindOf_34 ?_
    exact V_iret X hr hw dX11_kindOf_35
  · have hw := hw.2 q6
    refine V_aload_n X dX11_kindOf_15 rfl (q := 0) rfl ?_
    refine V_get (C := RX11) (T := TX11) (N := 24) (ci := 11) X hi_X11_kindOf_11 gO_13 rfl 2 (by decide) lk_X11_kindOf_f16 (fun _ h9 => h9) rfl dX11_kindOf_16 ?_
    refine V_bipush X dX11_kindOf_19 rfl ?_
    refine V_iload_n X dX11_kindOf_21 rfl (q := 1) rfl ?_
    refine V_imul X dX11_kindOf_22 ?_
    refine V_aload_n X dX11_kindOf_23 rfl (q := 0) rfl ?_
    refine V_iload_n X dX11_kindOf_24 rfl (q := 1) rfl ?_
    refine V_iload_n X dX11_kindOf_25 rfl (q := 2) rfl ?_
    refine V_callV_i X _ gO_13 rfl (As := [iv p0, iv p1]) (st := [iv (12 * p0), .ref (b 13 2)]) (c_X11_place l hw) (cwV 2 X.2.2.2.1 gX11_kindOf_X11_place rfl rfl rfl (by decide +kernel) ⟨Nat.le_of_ble_eq_true rfl, Nat.le_of_ble_eq_true rfl⟩) rfl (Nat.le_of_ble_eq_true rfl) ⟨Nat.le_of_ble_eq_true rfl, Nat.le_of_ble_eq_true rfl⟩ rfl dX11_kindOf_26 (fun y7 M8 hw => ?_)
    refine V_iadd X dX11_kindOf_29 ?_
    obtain ⟨h9, hw⟩ := hw
    refine V_iald X (gA_13_2) h9 (by decide) dX11_kindOf_30 ?_
    refine V_goto (tgt := 35) X dX11_kindOf_31 (by decide) ?_
    exact V_iret X hr hw dX11_kindOf_35
set_option maxHeartbeats 4000000 in
set_option maxRecDepth 100000 in
theorem c_X11_kindOf (l : Launch) {p0 : Int} {p1 : Int} {D : va_G} {g : GT} {A : Nat → Prop} {a : Nat → Nat} {b : Nat → Nat → Nat} {M : Mem} {Q : Int → Mem → Prop} (hw : wp_X11_kindOf M p0 p1 Q) : Met l yX11_kindOf wsX11_kindOf ({ frames := 3, cells := 0, slots := 0, locals := 64 } : Room) (cPc D g A a b M [.ref (a 13), iv p0, iv p1]) (cQi D g A a b Q) 0 0 A := by
  refine Met.ofW (cc := cX11_kindOf) (maxL := 3) (ret := (some .int)) (by decide) rfl ?_
  intro p e s m args below meth c s₁ B hml hv
  obtain ⟨rfl, hP, hD, hG⟩ := hv
  have X : vC p s m _ meth c D g A RX11 wsX11_kindOf cX11_kindOf 3 := ⟨B.exec, B.bytes, findClass_of_methodNamed B.named, atoms_spec (ws := wsX11_kindOf) B.pre, hG, hml, B.notSynchronized⟩
  have hr := B.returns
  have hl := lv_entry ([.ref (a 13), iv p0, iv p1]) (n := 3) (Nat.le_of_ble_eq_true rfl)
  rw [lg_entry_eq]
  generalize (lg_sl ([.ref (a 13), iv p0, iv p1]) ++ List.replicate (3 - (lg_sl ([.ref (a 13), iv p0, iv p1])).length) Slot.unset).toArray = ls at hl ⊢
  have hl : lv_has ls 3 [(0, .ref (a 13)), (1, iv p0), (2, iv p1)] := hl
  exact wke_X11_kindOf X hr  hw s.heap [] ls hP hD va_S.rf hl

set_option maxRecDepth 20000 in
theorem ggX11_labelOf_X11_isNode : GoodIn wsX11_labelOf wsX11_isNode := goodIn_r _ [6, 7, 8, 9, 5, 10, 11, 12, 13, 24, 25, 26, 27, 28, 29, 30, 31, 32, 33, 34, 35, 36, 37, 38, 39, 40, 41, 42, 43, 44, 45, 46, 47] (by decide +kernel) (by decide +kernel)
set_option maxRecDepth 20000 in
theorem gX11_labelOf_X11_isNode : GoodIn wsX11_labelOf (wsV RX11 98 RX11 yX11_isNode wsX11_isNode) := goodIn_app (goodIn_of _ (by decide +kernel)) ggX11_labelOf_X11_isNode
set_option maxRecDepth 20000 in
theorem ggX11_labelOf_X11_goes : GoodIn wsX11_labelOf wsX11_goes := goodIn_r _ [17, 18, 24, 25, 26, 27, 28, 29, 30, 31, 32, 33, 34, 35, 36, 37, 38, 39, 40, 41, 42, 43, 44, 45, 46, 47] (by decide +kernel) (by decide +kernel)
set_option maxRecDepth 20000 in
theorem gX11_labelOf_X11_goes : GoodIn wsX11_labelOf (wsV RX11 87 RX11 yX11_goes wsX11_goes) := goodIn_app (goodIn_of _ (by decide +kernel)) ggX11_labelOf_X11_goes
set_option maxRecDepth 20000 in
theorem ggX11_labelOf_X11_place : GoodIn wsX11_labelOf wsX11_place := goodIn_r _ [22, 23, 24, 25, 26, 27, 28, 29, 30, 31, 32, 33, 34, 35, 36, 37, 38, 39, 40, 41, 42, 43, 44, 45, 46, 47] (by decide +kernel) (by decide +kernel)
set_option maxRecDepth 20000 in
theorem gX11_labelOf_X11_place : GoodIn wsX11_labelOf (wsV RX11 102 RX11 yX11_place wsX11_place) := goodIn_app (goodIn_of _ (by decide +kernel)) ggX11_labelOf_X11_place
theorem dX11_labelOf_0 : decode cX11_labelOf 0 = .ok (.aload_n 0, 1) := by decide +kernel
theorem dX11_labelOf_1 : decode cX11_labelOf 1 = .ok (.aload_n 0, 1) := by decide +kernel
theorem dX11_labelOf_2 : decode cX11_labelOf 2 = .ok (.iload_n 1, 1) := by decide +kernel
theorem dX11_labelOf_3 : decode cX11_labelOf 3 = .ok (.iload_n 2, 1) := by decide +kernel
theorem dX11_labelOf_4 : decode cX11_labelOf 4 = .ok (.invokevirtual 98, 3) := by decide +kernel
theorem dX11_labelOf_7 : decode cX11_labelOf 7 = .ok (.iconst 1, 1) := by decide +kernel
theorem dX11_labelOf_8 : decode cX11_labelOf 8 = .ok (.iconst 1, 1) := by decide +kernel
theorem dX11_labelOf_9 : decode cX11_labelOf 9 = .ok (.invokevirtual 87, 3) := by decide +kernel
theorem dX11_labelOf_12 : decode cX11_labelOf 12 = .ok (.ifCond .eq 22, 3) := by decide +kernel
theorem dX11_labelOf_15 : decode cX11_labelOf 15 = .ok (.aload_n 0, 1) := by decide +kernel
theorem dX11_labelOf_16 : decode cX11_labelOf 16 = .ok (.getfield 19, 3) := by decide +kernel
theorem dX11_labelOf_19 : decode cX11_labelOf 19 = .ok (.bipush 12, 2) := by decide +kernel
theorem dX11_labelOf_21 : decode cX11_labelOf 21 = .ok (.iload_n 1, 1) := by decide +kernel
theorem dX11_labelOf_22 : decode cX11_labelOf 22 = .ok (.imul, 1) := by decide +kernel
theorem dX11_labelOf_23 : decode cX11_labelOf 23 = .ok (.aload_n 0, 1) := by decide +kernel
theorem dX11_labelOf_24 : decode cX11_labelOf 24 = .ok (.iload_n 1, 1) := by decide +kernel
theorem dX11_labelOf_25 : decode cX11_labelOf 25 = .ok (.iload_n 2, 1) := by decide +kernel
theorem dX11_labelOf_26 : decode cX11_labelOf 26 = .ok (.invokevirtual 102, 3) := by decide +kernel
theorem dX11_labelOf_29 : decode cX11_labelOf 29 = .ok (.iadd, 1) := by decide +kernel
theorem dX11_labelOf_30 : decode cX11_labelOf 30 = .ok (.iaload, 1) := by decide +kernel
theorem dX11_labelOf_31 : decode cX11_labelOf 31 = .ok (.goto 4, 3) := by decide +kernel
theorem dX11_labelOf_34 : decode cX11_labelOf 34 = .ok (.iconst 0, 1) := by decide +kernel
theorem dX11_labelOf_35 : decode cX11_labelOf 35 = .ok (.ireturn, 1) := by decide +kernel
theorem lk_X11_labelOf_f19 : Cond.fieldLink RX11 19 "TreeComparerModel" "label" "[I" ∈ wsX11_labelOf := by decide +kernel
theorem hi_X11_labelOf_11 : ∀ w ∈ u_ws RX11 TX11 24, w ∈ wsX11_labelOf := by decide +kernel
def wpe_X11_labelOf (p0 : Int) (p1 : Int) (M : Mem) (Q : Int → Mem → Prop) : Prop := wp_X11_isNode M p0 p1 (fun y1 M2 => wp_X11_goes M2 y1 1 1 (fun y3 M4 => inR y3 ∧ ((y3 = 0 → Q 0 M4) ∧ (¬ (y3 = 0) → wp_X11_place M4 p0 p1 (fun y7 M8 => ((0 : Int) ≤ (12 * p0) + y7 ∧ (12 * p0) + y7 < 24) ∧ Q ((M8 13 3 ((12 * p0) + y7).toNat)) M8)))))
def wp_X11_labelOf (M : Mem) (p0 : Int) (p1 : Int) (Q : Int → Mem → Prop) : Prop := wpe_X11_labelOf p0 p1 M Q
set_option maxHeartbeats 4000000 in
set_option maxRecDepth 100000 in
theorem wke_X11_labelOf {p : Program} {l : Launch} {e : Env} {s : State} {m : MethodId} {args : Array Value} {below : List Frame} {meth : Method} {c : Code} {D : va_G} {g : GT} {A : Nat → Prop} {a : Nat → Nat} {b : Nat → Nat → Nat} (X : vC p s m args meth c D g A RX11 wsX11_labelOf cX11_labelOf 3) (hr : meth.sig.returnType = (some .int)) {p0 : Int} {p1 : Int} {M : Mem} {Q : Int → Mem → Prop} (hw : wpe_X11_labelOf p0 p1 M Q) : vV p l e ({ frames := 3, cells := 0, slots := 0, locals := 64 } : Room) s m args below meth c D g A a b 3 0 0 (MQ below (cQi D g A a b Q) args s 0 0 A) M [(0, .ref (a 13)), (1, iv p0), (2, iv p1)] 0 [] := by
  unfold wpe_X11_labelOf at hw
  refine V_aload_n X dX11_labelOf_0 rfl (q := 0) rfl ?_
  refine V_aload_n X dX11_labelOf_1 rfl (q := 0) rfl ?_
  refine V_iload_n X dX11_labelOf_2 rfl (q := 1) rfl ?_
  refine V_iload_n X dX11_labelOf_3 rfl (q := 2) rfl ?_
  refine V_callV_i X _ gO_13 rfl (As := [iv p0, iv p1]) (st := [.ref (a 13)]) (c_X11_isNode l hw) (cwV 2 X.2.2.2.1 gX11_labelOf_X11_isNode rfl rfl rfl (by decide +kernel) ⟨Nat.le_of_ble_eq_true rfl, Nat.le_of_ble_eq_true rfl⟩) rfl (Nat.le_of_ble_eq_true rfl) ⟨Nat.le_of_ble_eq_true rfl, Nat.le_of_ble_eq_true rfl⟩ rfl dX11_labelOf_4 (fun y1 M2 hw => ?_)
  refine V_iconst X dX11_labelOf_7 ?_
  refine V_iconst X dX11_labelOf_8 ?_
  refine V_callV_i X _ gO_13 rfl (As := [iv y1, iv 1, iv 1]) (st := []) (c_X11_goes l hw) (cwV 3 X.2.2.2.1 gX11_labelOf_X11_goes rfl rfl rfl (by decide +kernel) ⟨Nat.le_of_ble_eq_true rfl, Nat.le_of_ble_eq_true rfl⟩) rfl (Nat.le_of_ble_eq_true rfl) ⟨Nat.le_of_ble_eq_true rfl, Nat.le_of_ble_eq_true rfl⟩ rfl dX11_labelOf_9 (fun y3 M4 hw => ?_)
  obtain ⟨h5, hw⟩ := hw
  refine V_if_eq (tgt := 34) X h5 dX11_labelOf_12 (by decide) (fun q6 => ?_) (fun q6 => ?_)
  · have hw := hw.1 q6
    refine V_iconst X dX11_labelOf_34 ?_
    exact V_iret X hr hw dX11_labelOf_35
  · have hw := hw.2 q6
    refine V_aload_n X dX11_labelOf_15 rfl (q := 0) rfl ?_
    refine V_get (C := RX11) (T := TX11) (N := 24) (ci := 11) X hi_X11_labelOf_11 gO_13 rfl 3 (by decide) lk_X11_labelOf_f19 (fun _ h9 => h9) rfl dX11_labelOf_16 ?_
    refine V_bipush X dX11_labelOf_19 rfl ?_
    refine V_iload_n X dX11_labelOf_21 rfl (q := 1) rfl ?_
    refine V_imul X dX11_labelOf_22 ?_
    refine V_aload_n X dX11_labelOf_23 rfl (q := 0) rfl ?_
    refine V_iload_n X dX11_labelOf_24 rfl (q := 1) rfl ?_
    refine V_iload_n X dX11_labelOf_25 rfl (q := 2) rfl ?_
    refine V_callV_i X _ gO_13 rfl (As := [iv p0, iv p1]) (st := [iv (12 * p0), .ref (b 13 3)]) (c_X11_place l hw) (cwV 2 X.2.2.2.1 gX11_labelOf_X11_place rfl rfl rfl (by decide +kernel) ⟨Nat.le_of_ble_eq_true rfl, Nat.le_of_ble_eq_true rfl⟩) rfl (Nat.le_of_ble_eq_true rfl) ⟨Nat.le_of_ble_eq_true rfl, Nat.le_of_ble_eq_true rfl⟩ rfl dX11_labelOf_26 (fun y7 M8 hw => ?_)
    refine V_iadd X dX11_labelOf_29 ?_
    obtain ⟨h9, hw⟩ := hw
    refine V_iald X (gA_13_3) h9 (by decide) dX11_labelOf_30 ?_
    refine V_goto (tgt := 35) X dX11_labelOf_31 (by decide) ?_
    exact V_iret X hr hw dX11_labelOf_35
set_option maxHeartbeats 4000000 in
set_option maxRecDepth 100000 in
theorem c_X11_labelOf (l : Launch) {p0 : Int} {p1 : Int} {D : va_G} {g : GT} {A : Nat → Prop} {a : Nat → Nat} {b : Nat → Nat → Nat} {M : Mem} {Q : Int → Mem → Prop} (hw : wp_X11_labelOf M p0 p1 Q) : Met l yX11_labelOf wsX11_labelOf ({ frames := 3, cells := 0, slots := 0, locals := 64 } : Room) (cPc D g A a b M [.ref (a 13), iv p0, iv p1]) (cQi D g A a b Q) 0 0 A := by
  refine Met.ofW (cc := cX11_labelOf) (maxL := 3) (ret := (some .int)) (by decide) rfl ?_
  intro p e s m args below meth c s₁ B hml hv
  obtain ⟨rfl, hP, hD, hG⟩ := hv
  have X : vC p s m _ meth c D g A RX11 wsX11_labelOf cX11_labelOf 3 := ⟨B.exec, B.bytes, findClass_of_methodNamed B.named, atoms_spec (ws := wsX11_labelOf) B.pre, hG, hml, B.notSynchronized⟩
  have hr := B.returns
  have hl := lv_entry ([.ref (a 13), iv p0, iv p1]) (n := 3) (Nat.le_of_ble_eq_true rfl)
  rw [lg_entry_eq]
  generalize (lg_sl ([.ref (a 13), iv p0, iv p1]) ++ List.replicate (3 - (lg_sl ([.ref (a 13), iv p0, iv p1])).length) Slot.unset).toArray = ls at hl ⊢
  have hl : lv_has ls 3 [(0, .ref (a 13)), (1, iv p0), (2, iv p1)] := hl
  exact wke_X11_labelOf X hr  hw s.heap [] ls hP hD va_S.rf hl

set_option maxRecDepth 20000 in
theorem ggX10_subtreeDistance_X10_needNodes : GoodIn wsX10_subtreeDistance wsX10_needNodes := goodIn_ca (goodIn_r _ [8, 3, 9, 10, 7, 11, 12, 13, 77, 78, 79, 80, 81, 82, 83, 84, 85, 86, 87, 88, 89, 90, 91, 92, 93, 94, 95, 96, 97, 98, 99, 100] (by decide +kernel) (by decide +kernel)) (goodIn_sub (fun _ h => List.mem_cons_of_mem _ (List.mem_append_right _ h)) (by decide +kernel))
set_option maxRecDepth 20000 in
theorem gX10_subtreeDistance_X10_needNodes : GoodIn wsX10_subtreeDistance (wsV RX10 189 RX10 yX10_needNodes wsX10_needNodes) := goodIn_app (goodIn_of _ (by decide +kernel)) ggX10_subtreeDistance_X10_needNodes
set_option maxRecDepth 20000 in
theorem ggX10_subtreeDistance_X3_layPostorder : GoodIn wsX10_subtreeDistance wsX3_layPostorder := goodIn_r _ [17, 18, 19, 20, 15, 21, 22, 23, 24, 25, 26, 27, 28, 29, 30, 31, 32, 33, 34, 35, 36, 37, 38, 39, 40, 41, 42, 43, 44, 45, 46, 47, 48, 49, 101, 102, 103, 104, 86, 87, 88, 89, 90, 91, 105, 106, 107, 108, 109, 110, 92, 93, 94, 95, 96, 97, 98, 99, 100] (by decide +kernel) (by decide +kernel)
set_option maxRecDepth 20000 in
theorem gX10_subtreeDistance_X3_layPostorder_n164 : GoodIn wsX10_subtreeDistance (wsX3_layPostorder) := ggX10_subtreeDistance_X3_layPostorder
set_option maxRecDepth 20000 in
theorem ggX10_subtreeDistance_X2_solve : GoodIn wsX10_subtreeDistance wsX2_solve := goodIn_r _ [53, 54, 55, 56, 57, 51, 58, 59, 60, 61, 62, 63, 64, 65, 66, 67, 68, 111, 112, 113, 101, 102, 103, 104, 105, 106, 107, 108, 109, 110] (by decide +kernel) (by decide +kernel)
set_option maxRecDepth 20000 in
theorem gX10_subtreeDistance_X2_solve_n167 : GoodIn wsX10_subtreeDistance (wsX2_solve) := ggX10_subtreeDistance_X2_solve
set_option maxRecDepth 20000 in
theorem ggX10_subtreeDistance_X9_postPlace : GoodIn wsX10_subtreeDistance wsX9_postPlace := goodIn_r _ [71, 41, 72, 73, 92, 93, 94, 95, 96, 97, 98, 99, 100] (by decide +kernel) (by decide +kernel)
set_option maxRecDepth 20000 in
theorem gX10_subtreeDistance_X9_postPlace_n192 : GoodIn wsX10_subtreeDistance (wsX9_postPlace) := ggX10_subtreeDistance_X9_postPlace
set_option maxRecDepth 20000 in
theorem ggX10_subtreeDistance_X2_between : GoodIn wsX10_subtreeDistance wsX2_between := goodIn_r _ [76, 68, 111, 112, 113] (by decide +kernel) (by decide +kernel)
set_option maxRecDepth 20000 in
theorem gX10_subtreeDistance_X2_between_n195 : GoodIn wsX10_subtreeDistance (wsX2_between) := ggX10_subtreeDistance_X2_between
theorem dX10_subtreeDistance_0 : decode cX10_subtreeDistance 0 = .ok (.aload_n 0, 1) := by decide +kernel
theorem dX10_subtreeDistance_1 : decode cX10_subtreeDistance 1 = .ok (.iload_n 1, 1) := by decide +kernel
theorem dX10_subtreeDistance_2 : decode cX10_subtreeDistance 2 = .ok (.iload_n 2, 1) := by decide +kernel
theorem dX10_subtreeDistance_3 : decode cX10_subtreeDistance 3 = .ok (.invokevirtual 189, 3) := by decide +kernel
theorem dX10_subtreeDistance_6 : decode cX10_subtreeDistance 6 = .ok (.aload_n 0, 1) := by decide +kernel
theorem dX10_subtreeDistance_7 : decode cX10_subtreeDistance 7 = .ok (.getfield 21, 3) := by decide +kernel
theorem dX10_subtreeDistance_10 : decode cX10_subtreeDistance 10 = .ok (.invokevirtual 164, 3) := by decide +kernel
theorem dX10_subtreeDistance_13 : decode cX10_subtreeDistance 13 = .ok (.aload_n 0, 1) := by decide +kernel
theorem dX10_subtreeDistance_14 : decode cX10_subtreeDistance 14 = .ok (.getfield 30, 3) := by decide +kernel
theorem dX10_subtreeDistance_17 : decode cX10_subtreeDistance 17 = .ok (.invokevirtual 167, 3) := by decide +kernel
theorem dX10_subtreeDistance_20 : decode cX10_subtreeDistance 20 = .ok (.aload_n 0, 1) := by decide +kernel
theorem dX10_subtreeDistance_21 : decode cX10_subtreeDistance 21 = .ok (.getfield 30, 3) := by decide +kernel
theorem dX10_subtreeDistance_24 : decode cX10_subtreeDistance 24 = .ok (.aload_n 0, 1) := by decide +kernel
theorem dX10_subtreeDistance_25 : decode cX10_subtreeDistance 25 = .ok (.getfield 10, 3) := by decide +kernel
theorem dX10_subtreeDistance_28 : decode cX10_subtreeDistance 28 = .ok (.getfield 123, 3) := by decide +kernel
theorem dX10_subtreeDistance_31 : decode cX10_subtreeDistance 31 = .ok (.iload_n 1, 1) := by decide +kernel
theorem dX10_subtreeDistance_32 : decode cX10_subtreeDistance 32 = .ok (.invokevirtual 192, 3) := by decide +kernel
theorem dX10_subtreeDistance_35 : decode cX10_subtreeDistance 35 = .ok (.aload_n 0, 1) := by decide +kernel
theorem dX10_subtreeDistance_36 : decode cX10_subtreeDistance 36 = .ok (.getfield 10, 3) := by decide +kernel
theorem dX10_subtreeDistance_39 : decode cX10_subtreeDistance 39 = .ok (.getfield 127, 3) := by decide +kernel
theorem dX10_subtreeDistance_42 : decode cX10_subtreeDistance 42 = .ok (.iload_n 2, 1) := by decide +kernel
theorem dX10_subtreeDistance_43 : decode cX10_subtreeDistance 43 = .ok (.invokevirtual 192, 3) := by decide +kernel
theorem dX10_subtreeDistance_46 : decode cX10_subtreeDistance 46 = .ok (.invokevirtual 195, 3) := by decide +kernel
theorem dX10_subtreeDistance_49 : decode cX10_subtreeDistance 49 = .ok (.ireturn, 1) := by decide +kernel
theorem lk_X10_subtreeDistance_f21 : Cond.fieldLink RX10 21 "TreeComparer" "layout" "LTreeComparer$Layout;" ∈ wsX10_subtreeDistance := by decide +kernel
theorem hi_X10_subtreeDistance_10 : ∀ w ∈ u_ws RX10 TX10 9, w ∈ wsX10_subtreeDistance := by decide +kernel
theorem lk_X10_subtreeDistance_i3 : Cond.initialized RX3 ∈ wsX10_subtreeDistance := by decide +kernel
theorem lk_X10_subtreeDistance_im164 : Cond.instanceMethod yX3_layPostorder ∈ wsX10_subtreeDistance := by decide +kernel
theorem lk_X10_subtreeDistance_se164 : Cond.selects RX3 yX3_layPostorder yX3_layPostorder ∈ wsX10_subtreeDistance := by decide +kernel
theorem lk_X10_subtreeDistance_f30 : Cond.fieldLink RX10 30 "TreeComparer" "keyroots" "LTreeComparer$KeyrootTable;" ∈ wsX10_subtreeDistance := by decide +kernel
theorem lk_X10_subtreeDistance_i2 : Cond.initialized RX2 ∈ wsX10_subtreeDistance := by decide +kernel
theorem lk_X10_subtreeDistance_im167 : Cond.instanceMethod yX2_solve ∈ wsX10_subtreeDistance := by decide +kernel
theorem lk_X10_subtreeDistance_se167 : Cond.selects RX2 yX2_solve yX2_solve ∈ wsX10_subtreeDistance := by decide +kernel
theorem lk_X10_subtreeDistance_f10 : Cond.fieldLink RX10 10 "TreeComparer" "given" "LTreeComparer$Given;" ∈ wsX10_subtreeDistance := by decide +kernel
theorem hi_X10_subtreeDistance_1 : ∀ w ∈ u_ws RX1 TX1 6, w ∈ wsX10_subtreeDistance := by decide +kernel
theorem lk_X10_subtreeDistance_i9 : Cond.initialized RX9 ∈ wsX10_subtreeDistance := by decide +kernel
theorem lk_X10_subtreeDistance_im192 : Cond.instanceMethod yX9_postPlace ∈ wsX10_subtreeDistance := by decide +kernel
theorem lk_X10_subtreeDistance_se192 : Cond.selects RX9 yX9_postPlace yX9_postPlace ∈ wsX10_subtreeDistance := by decide +kernel
theorem lk_X10_subtreeDistance_im195 : Cond.instanceMethod yX2_between ∈ wsX10_subtreeDistance := by decide +kernel
theorem lk_X10_subtreeDistance_se195 : Cond.selects RX2 yX2_between yX2_between ∈ wsX10_subtreeDistance := by decide +kernel
def wpe_X10_subtreeDistance (p0 : Int) (p1 : Int) (M : Mem) (Q : Int → Mem → Prop) (XQ : String → Mem → Prop) : Prop := wp_X10_needNodes M p0 p1 (fun M2 => wp_X3_layPostorder M2 (fun M4 => wp_X2_solve M4 (fun M6 => wp_X9_postPlace M6 11 p0 (fun y7 M8 => wp_X9_postPlace M8 12 p1 (fun y9 M10 => wp_X2_between M10 y7 y9 (fun y11 M12 => Q y11 M12)))))) XQ
def wp_X10_subtreeDistance (M : Mem) (p0 : Int) (p1 : Int) (Q : Int → Mem → Prop) (XQ : String → Mem → Prop) : Prop := wpe_X10_subtreeDistance p0 p1 M Q XQ
set_option maxHeartbeats 4000000 in
set_option maxRecDepth 100000 in
theorem wke_X10_subtreeDistance {p : Program} {l : Launch} {e : Env} {s : State} {m : MethodId} {args : Array Value} {below : List Frame} {meth : Method} {c : Code} {D : va_G} {g : GT} {A : Nat → Prop} {a : Nat → Nat} {b : Nat → Nat → Nat} (X : vC p s m args meth c D g A RX10 wsX10_subtreeDistance cX10_subtreeDistance 3) (hr : meth.sig.returnType = (some .int)) {p0 : Int} {p1 : Int} (hlt : l.stackTraces = false) (htab : ∀ x ∈ c.exceptionTable.toList, False) {M : Mem} {Q : Int → Mem → Prop} {XQ : String → Mem → Prop} (hw : wpe_X10_subtreeDistance p0 p1 M Q XQ) : vV p l e ({ frames := 8, cells := 2, slots := 12, locals := 133 } : Room) s m args below meth c D g A a b 3 0 0 (vx_MQ below (cQi D g A a b Q) (cX D g A a b XQ) args s 2 12 A) M [(0, .ref (a 0)), (1, iv p0), (2, iv p1)] 0 [] := by
  unfold wpe_X10_subtreeDistance at hw
  refine V_aload_n X dX10_subtreeDistance_0 rfl (q := 0) rfl ?_
  refine V_iload_n X dX10_subtreeDistance_1 rfl (q := 1) rfl ?_
  refine V_iload_n X dX10_subtreeDistance_2 rfl (q := 2) rfl ?_
  refine V_callxV_v X _ _ gO_0 rfl (As := [iv p0, iv p1]) (st := []) (c_X10_needNodes l hlt hw) (cwV 2 X.2.2.2.1 gX10_subtreeDistance_X10_needNodes rfl rfl rfl (by decide +kernel) ⟨Nat.le_of_ble_eq_true rfl, Nat.le_of_ble_eq_true rfl⟩) rfl (Nat.le_of_ble_eq_true rfl) ⟨Nat.le_of_ble_eq_true rfl, Nat.le_of_ble_eq_true rfl⟩ rfl dX10_subtreeDistance_3 (fun E ce q9 M9 H9 locs9 ls9 hx9 hP9 hD9 hS9 hl9 h91 h92 h93 => V_xout X htab (Nat.le_of_ble_eq_true rfl) (Nat.le_of_ble_eq_true rfl) hx9 hP9 hD9 hS9 h91 h92 h93) (fun M2 hw => ?_)
  refine V_aload_n X dX10_subtreeDistance_6 rfl (q := 0) rfl ?_
  refine V_get (C := RX10) (T := TX10) (N := 9) (ci := 10) X hi_X10_subtreeDistance_10 gO_0 rfl 1 (by decide) lk_X10_subtreeDistance_f21 (fun _ h9 => h9) rfl dX10_subtreeDistance_7 ?_
  refine V_callVN_v X _ gO_2 rfl (As := []) (st := []) (c_X3_layPostorder l hw) ⟨va_cnB 0 X.2.2.2.1 gX10_subtreeDistance_X3_layPostorder_n164 rfl rfl rfl (X.2.2.2.2.1.2.1 _ (List.mem_of_getElem? (i := 95) rfl)) (X.2.2.2.1 _ lk_X10_subtreeDistance_i3) (by decide +kernel) ⟨Nat.le_of_ble_eq_true rfl, Nat.le_of_ble_eq_true rfl⟩, X.2.2.2.1 _ lk_X10_subtreeDistance_im164, X.2.2.2.1 _ lk_X10_subtreeDistance_se164⟩ rfl (Nat.le_of_ble_eq_true rfl) ⟨Nat.le_of_ble_eq_true rfl, Nat.le_of_ble_eq_true rfl⟩ rfl dX10_subtreeDistance_10 (fun M4 hw => ?_)
  refine V_aload_n X dX10_subtreeDistance_13 rfl (q := 0) rfl ?_
  refine V_get (C := RX10) (T := TX10) (N := 9) (ci := 10) X hi_X10_subtreeDistance_10 gO_0 rfl 2 (by decide) lk_X10_subtreeDistance_f30 (fun _ h9 => h9) rfl dX10_subtreeDistance_14 ?_
  refine V_callVN_v X _ gO_3 rfl (As := []) (st := []) (c_X2_solve l hw) ⟨va_cnB 0 X.2.2.2.1 gX10_subtreeDistance_X2_solve_n167 rfl rfl rfl (X.2.2.2.2.1.2.1 _ (List.mem_of_getElem? (i := 99) rfl)) (X.2.2.2.1 _ lk_X10_subtreeDistance_i2) (by decide +kernel) ⟨Nat.le_of_ble_eq_true rfl, Nat.le_of_ble_eq_true rfl⟩, X.2.2.2.1 _ lk_X10_subtreeDistance_im167, X.2.2.2.1 _ lk_X10_subtreeDistance_se167⟩ rfl (Nat.le_of_ble_eq_true rfl) ⟨Nat.le_of_ble_eq_true rfl, Nat.le_of_ble_eq_true rfl⟩ rfl dX10_subtreeDistance_17 (fun M6 hw => ?_)
  refine V_aload_n X dX10_subtreeDistance_20 rfl (q := 0) rfl ?_
  refine V_get (C := RX10) (T := TX10) (N := 9) (ci := 10) X hi_X10_subtreeDistance_10 gO_0 rfl 2 (by decide) lk_X10_subtreeDistance_f30 (fun _ h9 => h9) rfl dX10_subtreeDistance_21 ?_
  refine V_aload_n X dX10_subtreeDistance_24 rfl (q := 0) rfl ?_
  refine V_get (C := RX10) (T := TX10) (N := 9) (ci := 10) X hi_X10_subtreeDistance_10 gO_0 rfl 0 (by decide) lk_X10_subtreeDistance_f10 (fun _ h9 => h9) rfl dX10_subtreeDistance_25 ?_
  refine V_getN (C := RX1) (T := TX1) (N := 6) (ci := 1) X hi_X10_subtreeDistance_1 gO_1 rfl 4 (by decide) (List.mem_of_getElem? (i := 38) rfl) (fun _ h9 => h9) rfl dX10_subtreeDistance_28 ?_
  refine V_iload_n X dX10_subtreeDistance_31 rfl (q := 1) rfl ?_
  refine V_callVN_i X _ gO_11 rfl (As := [iv p0]) (st := [.ref (a 3)]) (c_X9_postPlace l (by first | exact Or.inl rfl | exact Or.inr rfl) hw) ⟨va_cnB 1 X.2.2.2.1 gX10_subtreeDistance_X9_postPlace_n192 rfl rfl rfl (X.2.2.2.2.1.2.1 _ (List.mem_of_getElem? (i := 126) rfl)) (X.2.2.2.1 _ lk_X10_subtreeDistance_i9) (by decide +kernel) ⟨Nat.le_of_ble_eq_true rfl, Nat.le_of_ble_eq_true rfl⟩, X.2.2.2.1 _ lk_X10_subtreeDistance_im192, X.2.2.2.1 _ lk_X10_subtreeDistance_se192⟩ rfl (Nat.le_of_ble_eq_true rfl) ⟨Nat.le_of_ble_eq_true rfl, Nat.le_of_ble_eq_true rfl⟩ rfl dX10_subtreeDistance_32 (fun y7 M8 hw => ?_)
  refine V_aload_n X dX10_subtreeDistance_35 rfl (q := 0) rfl ?_
  refine V_get (C := RX10) (T := TX10) (N := 9) (ci := 10) X hi_X10_subtreeDistance_10 gO_0 rfl 0 (by decide) lk_X10_subtreeDistance_f10 (fun _ h9 => h9) rfl dX10_subtreeDistance_36 ?_
  refine V_getN (C := RX1) (T := TX1) (N := 6) (ci := 1) X hi_X10_subtreeDistance_1 gO_1 rfl 5 (by decide) (List.mem_of_getElem? (i := 42) rfl) (fun _ h9 => h9) rfl dX10_subtreeDistance_39 ?_
  refine V_iload_n X dX10_subtreeDistance_42 rfl (q := 2) rfl ?_
  refine V_callVN_i X _ gO_12 rfl (As := [iv p1]) (st := [iv y7, .ref (a 3)]) (c_X9_postPlace l (by first | exact Or.inl rfl | exact Or.inr rfl) hw) ⟨va_cnB 1 X.2.2.2.1 gX10_subtreeDistance_X9_postPlace_n192 rfl rfl rfl (X.2.2.2.2.1.2.1 _ (List.mem_of_getElem? (i := 126) rfl)) (X.2.2.2.1 _ lk_X10_subtreeDistance_i9) (by decide +kernel) ⟨Nat.le_of_ble_eq_true rfl, Nat.le_of_ble_eq_true rfl⟩, X.2.2.2.1 _ lk_X10_subtreeDistance_im192, X.2.2.2.1 _ lk_X10_subtreeDistance_se192⟩ rfl (Nat.le_of_ble_eq_true rfl) ⟨Nat.le_of_ble_eq_true rfl, Nat.le_of_ble_eq_true rfl⟩ rfl dX10_subtreeDistance_43 (fun y9 M10 hw => ?_)
  refine V_callVN_i X _ gO_3 rfl (As := [iv y7, iv y9]) (st := []) (c_X2_between l hw) ⟨va_cnB 2 X.2.2.2.1 gX10_subtreeDistance_X2_between_n195 rfl rfl rfl (X.2.2.2.2.1.2.1 _ (List.mem_of_getElem? (i := 127) rfl)) (X.2.2.2.1 _ lk_X10_subtreeDistance_i2) (by decide +kernel) ⟨Nat.le_of_ble_eq_true rfl, Nat.le_of_ble_eq_true rfl⟩, X.2.2.2.1 _ lk_X10_subtreeDistance_im195, X.2.2.2.1 _ lk_X10_subtreeDistance_se195⟩ rfl (Nat.le_of_ble_eq_true rfl) ⟨Nat.le_of_ble_eq_true rfl, Nat.le_of_ble_eq_true rfl⟩ rfl dX10_subtreeDistance_46 (fun y11 M12 hw => ?_)
  exact V_xret (Nat.le_of_ble_eq_true rfl) (Nat.le_of_ble_eq_true rfl) (V_iret X hr hw dX10_subtreeDistance_49)
set_option maxHeartbeats 4000000 in
set_option maxRecDepth 100000 in
theorem c_X10_subtreeDistance (l : Launch) {p0 : Int} {p1 : Int} (hlt : l.stackTraces = false) {D : va_G} {g : GT} {A : Nat → Prop} {a : Nat → Nat} {b : Nat → Nat → Nat} {M : Mem} {Q : Int → Mem → Prop} {XQ : String → Mem → Prop} (hw : wp_X10_subtreeDistance M p0 p1 Q XQ) : vx_Met l yX10_subtreeDistance wsX10_subtreeDistance ({ frames := 8, cells := 2, slots := 12, locals := 133 } : Room) (cPc D g A a b M [.ref (a 0), iv p0, iv p1]) (cQi D g A a b Q) (cX D g A a b XQ) 2 12 A := by
  refine vx_ofW (cc := cX10_subtreeDistance) (maxL := 3) (ret := (some .int)) (by decide) rfl ?_
  intro p e s m args below meth c s₁ B hml htab hv
  obtain ⟨rfl, hP, hD, hG⟩ := hv
  have X : vC p s m _ meth c D g A RX10 wsX10_subtreeDistance cX10_subtreeDistance 3 := ⟨B.exec, B.bytes, findClass_of_methodNamed B.named, atoms_spec (ws := wsX10_subtreeDistance) B.pre, hG, hml, B.notSynchronized⟩
  have hr := B.returns
  have hl := lv_entry ([.ref (a 0), iv p0, iv p1]) (n := 3) (Nat.le_of_ble_eq_true rfl)
  rw [lg_entry_eq]
  generalize (lg_sl ([.ref (a 0), iv p0, iv p1]) ++ List.replicate (3 - (lg_sl ([.ref (a 0), iv p0, iv p1])).length) Slot.unset).toArray = ls at hl ⊢
  have hl : lv_has ls 3 [(0, .ref (a 0)), (1, iv p0), (2, iv p1)] := hl
  exact wke_X10_subtreeDistance X hr hlt htab hw s.heap [] ls hP hD va_S.rf hl
