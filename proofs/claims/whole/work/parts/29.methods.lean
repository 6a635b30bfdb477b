set_option maxRecDepth 20000 in
theorem ggX10_topDownDistance_X3_layPostorder : GoodIn wsX10_topDownDistance wsX3_layPostorder := goodIn_r _ [6, 7, 8, 9, 4, 10, 11, 12, 13, 14, 15, 16, 17, 18, 19, 20, 21, 22, 23, 24, 25, 26, 27, 28, 29, 30, 31, 32, 33, 34, 35, 36, 37, 38, 78, 79, 80, 81, 82, 83, 84, 85, 86, 87, 88, 89, 90, 91, 92, 93, 94, 95, 96, 97, 98, 99, 100, 101, 102] (by decide +kernel) (by decide +kernel)
set_option maxRecDepth 20000 in
theorem gX10_topDownDistance_X3_layPostorder_n164 : GoodIn wsX10_topDownDistance (wsX3_layPostorder) := ggX10_topDownDistance_X3_layPostorder
set_option maxRecDepth 20000 in
theorem ggX10_topDownDistance_X8_solve : GoodIn wsX10_topDownDistance wsX8_solve := goodIn_r _ [42, 43, 44, 45, 46, 47, 48, 49, 50, 51, 52, 40, 53, 54, 55, 56, 57, 58, 59, 60, 61, 62, 63, 16, 64, 65, 24, 66, 4, 67, 68, 11, 13, 103, 104, 105, 106, 107, 78, 79, 80, 81, 88, 89, 90, 91, 92, 93] (by decide +kernel) (by decide +kernel)
set_option maxRecDepth 20000 in
theorem gX10_topDownDistance_X8_solve_n198 : GoodIn wsX10_topDownDistance (wsX8_solve) := ggX10_topDownDistance_X8_solve
theorem dX10_topDownDistance_0 : decode cX10_topDownDistance 0 = .ok (.aload_n 0, 1) := by decide +kernel
theorem dX10_topDownDistance_1 : decode cX10_topDownDistance 1 = .ok (.getfield 21, 3) := by decide +kernel
theorem dX10_topDownDistance_4 : decode cX10_topDownDistance 4 = .ok (.invokevirtual 164, 3) := by decide +kernel
theorem dX10_topDownDistance_7 : decode cX10_topDownDistance 7 = .ok (.aload_n 0, 1) := by decide +kernel
theorem dX10_topDownDistance_8 : decode cX10_topDownDistance 8 = .ok (.getfield 44, 3) := by decide +kernel
theorem dX10_topDownDistance_11 : decode cX10_topDownDistance 11 = .ok (.invokevirtual 198, 3) := by decide +kernel
theorem dX10_topDownDistance_14 : decode cX10_topDownDistance 14 = .ok (.ireturn, 1) := by decide +kernel
theorem lk_X10_topDownDistance_f21 : Cond.fieldLink RX10 21 "TreeComparer" "layout" "LTreeComparer$Layout;" ∈ wsX10_topDownDistance := by decide +kernel
theorem hi_X10_topDownDistance_10 : ∀ w ∈ u_ws RX10 TX10 9, w ∈ wsX10_topDownDistance := by decide +kernel
theorem lk_X10_topDownDistance_i3 : Cond.initialized RX3 ∈ wsX10_topDownDistance := by decide +kernel
theorem lk_X10_topDownDistance_im164 : Cond.instanceMethod yX3_layPostorder ∈ wsX10_topDownDistance := by decide +kernel
theorem lk_X10_topDownDistance_se164 : Cond.selects RX3 yX3_layPostorder yX3_layPostorder ∈ wsX10_topDownDistance := by decide +kernel
theorem lk_X10_topDownDistance_f44 : Cond.fieldLink RX10 44 "TreeComparer" "topDown" "LTreeComparer$TopDownTable;" ∈ wsX10_topDownDistance := by decide +kernel
theorem lk_X10_topDownDistance_i8 : Cond.initialized RX8 ∈ wsX10_topDownDistance := by decide +kernel
theorem lk_X10_topDownDistance_im198 : Cond.instanceMethod yX8_solve ∈ wsX10_topDownDistance := by decide +kernel
theorem lk_X10_topDownDistance_se198 : Cond.selects RX8 yX8_solve yX8_solve ∈ wsX10_topDownDistance := by decide +kernel
def wpe_X10_topDownDistance (M : Mem) (Q : Int → Mem → Prop) : Prop := wp_X3_layPostorder M (fun M2 => wp_X8_solve M2 (fun y3 M4 => Q y3 M4))
def wp_X10_topDownDistance (M : Mem) (Q : Int → Mem → Prop) : Prop := wpe_X10_topDownDistance M Q
set_option maxHeartbeats 4000000 in
set_option maxRecDepth 100000 in
theorem wke_X10_topDownDistance {p : Program} {l : Launch} {e : Env} {s : State} {m : MethodId} {args : Array Value} {below : List Frame} {meth : Method} {c : Code} {D : va_G} {g : GT} {A : Nat → Prop} {a : Nat → Nat} {b : Nat → Nat → Nat} (X : vC p s m args meth c D g A RX10 wsX10_topDownDistance cX10_topDownDistance 1) (hr : meth.sig.returnType = (some .int)) {M : Mem} {Q : Int → Mem → Prop} (hw : wpe_X10_topDownDistance M Q) : vV p l e ({ frames := 4, cells := 0, slots := 0, locals := 101 } : Room) s m args below meth c D g A a b 1 0 0 (MQ below (cQi D g A a b Q) args s 0 0 A) M [(0, .ref (a 0))] 0 [] := by
  unfold wpe_X10_topDownDistance at hw
  refine V_aload_n X dX10_topDownDistance_0 rfl (q := 0) rfl ?_
  refine V_get (C := RX10) (T := TX10) (N := 9) (ci := 10) X hi_X10_topDownDistance_10 gO_0 rfl 1 (by decide) lk_X10_topDownDistance_f21 (fun _ h9 => h9) rfl dX10_topDownDistance_1 ?_
  refine V_callVN_v X _ gO_2 rfl (As := []) (st := []) (c_X3_layPostorder l hw) ⟨va_cnB 0 X.2.2.2.1 gX10_topDownDistance_X3_layPostorder_n164 rfl rfl rfl (X.2.2.2.2.1.2.1 _ (List.mem_of_getElem? (i := 95) rfl)) (X.2.2.2.1 _ lk_X10_topDownDistance_i3) (by decide +kernel) ⟨Nat.le_of_ble_eq_true rfl, Nat.le_of_ble_eq_true rfl⟩, X.2.2.2.1 _ lk_X10_topDownDistance_im164, X.2.2.2.1 _ lk_X10_topDownDistance_se164⟩ rfl (Nat.le_of_ble_eq_true rfl) ⟨Nat.le_of_ble_eq_true rfl, Nat.le_of_ble_eq_true rfl⟩ rfl dX10_topDownDistance_4 (fun M2 hw => ?_)
  refine V_aload_n X dX10_topDownDistance_7 rfl (q := 0) rfl ?_
  refine V_get (C := RX10) (T := TX10) (N := 9) (ci := 10) X hi_X10_topDownDistance_10 gO_0 rfl 4 (by decide) lk_X10_topDownDistance_f44 (fun _ h9 => h9) rfl dX10_topDownDistance_8 ?_
  refine V_callVN_i X _ gO_5 rfl (As := []) (st := []) (c_X8_solve l hw) ⟨va_cnB 0 X.2.2.2.1 gX10_topDownDistance_X8_solve_n198 rfl rfl rfl (X.2.2.2.2.1.2.1 _ (List.mem_of_getElem? (i := 106) rfl)) (X.2.2.2.1 _ lk_X10_topDownDistance_i8) (by decide +kernel) ⟨Nat.le_of_ble_eq_true rfl, Nat.le_of_ble_eq_true rfl⟩, X.2.2.2.1 _ lk_X10_topDownDistance_im198, X.2.2.2.1 _ lk_X10_topDownDistance_se198⟩ rfl (Nat.le_of_ble_eq_true rfl) ⟨Nat.le_of_ble_eq_true rfl, Nat.le_of_ble_eq_true rfl⟩ rfl dX10_topDownDistance_11 (fun y3 M4 hw => ?_)
  exact V_iret X hr hw dX10_topDownDistance_14
set_option maxHeartbeats 4000000 in
set_option maxRecDepth 100000 in
theorem c_X10_topDownDistance (l : Launch) {D : va_G} {g : GT} {A : Nat → Prop} {a : Nat → Nat} {b : Nat → Nat → Nat} {M : Mem} {Q : Int → Mem → Prop} (hw : wp_X10_topDownDistance M Q) : Met l yX10_topDownDistance wsX10_topDownDistance ({ frames := 4, cells := 0, slots := 0, locals := 101 } : Room) (cPc D g A a b M [.ref (a 0)]) (cQi D g A a b Q) 0 0 A := by
  refine Met.ofW (cc := cX10_topDownDistance) (maxL := 1) (ret := (some .int)) (by decide) rfl ?_
  intro p e s m args below meth c s₁ B hml hv
  obtain ⟨rfl, hP, hD, hG⟩ := hv
  have X : vC p s m _ meth c D g A RX10 wsX10_topDownDistance cX10_topDownDistance 1 := ⟨B.exec, B.bytes, findClass_of_methodNamed B.named, atoms_spec (ws := wsX10_topDownDistance) B.pre, hG, hml, B.notSynchronized⟩
  have hr := B.returns
  have hl := lv_entry ([.ref (a 0)]) (n := 1) (Nat.le_of_ble_eq_true rfl)
  rw [lg_entry_eq]
  generalize (lg_sl ([.ref (a 0)]) ++ List.replicate (1 - (lg_sl ([.ref (a 0)])).length) Slot.unset).toArray = ls at hl ⊢
  have hl : lv_has ls 1 [(0, .ref (a 0))] := hl
  exact wke_X10_topDownDistance X hr  hw s.heap [] ls hP hD va_S.rf hl

set_option maxRecDepth 20000 in
theorem ggX10_parentOf_X10_treeWith : GoodIn wsX10_parentOf wsX10_treeWith := goodIn_ca (goodIn_r _ [5, 6, 7, 8, 4, 9, 10, 11, 12, 13, 14, 15, 16, 17, 18, 19, 20, 21, 22, 23, 24, 25, 26, 27, 28, 29, 30, 31, 32, 33, 34, 35, 36, 37, 38, 39] (by decide +kernel) (by decide +kernel)) (goodIn_sub (fun _ h => List.mem_cons_of_mem _ (List.mem_append_right _ h)) (by decide +kernel))
set_option maxRecDepth 20000 in
theorem gX10_parentOf_X10_treeWith : GoodIn wsX10_parentOf (wsV RX10 105 RX10 yX10_treeWith wsX10_treeWith) := goodIn_app (goodIn_of _ (by decide +kernel)) ggX10_parentOf_X10_treeWith
theorem dX10_parentOf_0 : decode cX10_parentOf 0 = .ok (.aload_n 0, 1) := by decide +kernel
theorem dX10_parentOf_1 : decode cX10_parentOf 1 = .ok (.iload_n 1, 1) := by decide +kernel
theorem dX10_parentOf_2 : decode cX10_parentOf 2 = .ok (.iload_n 2, 1) := by decide +kernel
theorem dX10_parentOf_3 : decode cX10_parentOf 3 = .ok (.invokevirtual 105, 3) := by decide +kernel
theorem dX10_parentOf_6 : decode cX10_parentOf 6 = .ok (.getfield 142, 3) := by decide +kernel
theorem dX10_parentOf_9 : decode cX10_parentOf 9 = .ok (.iload_n 2, 1) := by decide +kernel
theorem dX10_parentOf_10 : decode cX10_parentOf 10 = .ok (.iaload, 1) := by decide +kernel
theorem dX10_parentOf_11 : decode cX10_parentOf 11 = .ok (.ireturn, 1) := by decide +kernel
theorem hi_X10_parentOf_9 : ∀ w ∈ u_ws RX9 TX9 9, w ∈ wsX10_parentOf := by decide +kernel
def wpe_X10_parentOf (p0 : Int) (p1 : Int) (M : Mem) (Q : Int → Mem → Prop) (XQ : String → Mem → Prop) : Prop := wp_X10_treeWith M p0 p1 (fun y1 M2 => isT y1 ∧ ((0 : Int) ≤ p1 ∧ p1 < 12) ∧ Q ((M2 y1 2 p1.toNat)) M2) XQ
def wp_X10_parentOf (M : Mem) (p0 : Int) (p1 : Int) (Q : Int → Mem → Prop) (XQ : String → Mem → Prop) : Prop := wpe_X10_parentOf p0 p1 M Q XQ
set_option maxHeartbeats 4000000 in
set_option maxRecDepth 100000 in
theorem wke_X10_parentOf {p : Program} {l : Launch} {e : Env} {s : State} {m : MethodId} {args : Array Value} {below : List Frame} {meth : Method} {c : Code} {D : va_G} {g : GT} {A : Nat → Prop} {a : Nat → Nat} {b : Nat → Nat → Nat} (X : vC p s m args meth c D g A RX10 wsX10_parentOf cX10_parentOf 3) (hr : meth.sig.returnType = (some .int)) {p0 : Int} {p1 : Int} (hlt : l.stackTraces = false) (htab : ∀ x ∈ c.exceptionTable.toList, False) {M : Mem} {Q : Int → Mem → Prop} {XQ : String → Mem → Prop} (hw : wpe_X10_parentOf p0 p1 M Q XQ) : vV p l e ({ frames := 9, cells := 2, slots := 12, locals := 155 } : Room) s m args below meth c D g A a b 3 0 0 (vx_MQ below (cQi D g A a b Q) (cX D g A a b XQ) args s 2 12 A) M [(0, .ref (a 0)), (1, iv p0), (2, iv p1)] 0 [] := by
  unfold wpe_X10_parentOf at hw
  refine V_aload_n X dX10_parentOf_0 rfl (q := 0) rfl ?_
  refine V_iload_n X dX10_parentOf_1 rfl (q := 1) rfl ?_
  refine V_iload_n X dX10_parentOf_2 rfl (q := 2) rfl ?_
  refine V_callxV_r X _ _ gO_0 rfl (As := [iv p0, iv p1]) (st := []) (c_X10_treeWith l hlt hw) (cwV 2 X.2.2.2.1 gX10_parentOf_X10_treeWith rfl rfl rfl (by decide +kernel) ⟨Nat.le_of_ble_eq_true rfl, Nat.le_of_ble_eq_true rfl⟩) rfl (Nat.le_of_ble_eq_true rfl) ⟨Nat.le_of_ble_eq_true rfl, Nat.le_of_ble_eq_true rfl⟩ rfl dX10_parentOf_3 (fun E ce q9 M9 H9 locs9 ls9 hx9 hP9 hD9 hS9 hl9 h91 h92 h93 => V_xout X htab (Nat.le_of_ble_eq_true rfl) (Nat.le_of_ble_eq_true rfl) hx9 hP9 hD9 hS9 h91 h92 h93) (fun y1 M2 hw => ?_)
  obtain ⟨hy1, hw⟩ := hw
  refine V_getN (C := RX9) (T := TX9) (N := 9) (ci := 9) X hi_X10_parentOf_9 (gTO hy1) rfl 2 (by decide) (List.mem_of_getElem? (i := 7) rfl) (fun _ h9 => h9) rfl dX10_parentOf_6 ?_
  refine V_iload_n X dX10_parentOf_9 rfl (q := 2) rfl ?_
  obtain ⟨h3, hw⟩ := hw
  refine V_iald X ((gT_2 hy1)) h3 (by decide) dX10_parentOf_10 ?_
  exact V_xret (Nat.le_of_ble_eq_true rfl) (Nat.le_of_ble_eq_true rfl) (V_iret X hr hw dX10_parentOf_11)
set_option maxHeartbeats 4000000 in
set_option maxRecDepth 100000 in
theorem c_X10_parentOf (l : Launch) {p0 : Int} {p1 : Int} (hlt : l.stackTraces = false) {D : va_G} {g : GT} {A : Nat → Prop} {a : Nat → Nat} {b : Nat → Nat → Nat} {M : Mem} {Q : Int → Mem → Prop} {XQ : String → Mem → Prop} (hw : wp_X10_parentOf M p0 p1 Q XQ) : vx_Met l yX10_parentOf wsX10_parentOf ({ frames := 9, cells := 2, slots := 12, locals := 155 } : Room) (cPc D g A a b M [.ref (a 0), iv p0, iv p1]) (cQi D g A a b Q) (cX D g A a b XQ) 2 12 A := by
  refine vx_ofW (cc := cX10_parentOf) (maxL := 3) (ret := (some .int)) (by decide) rfl ?_
  intro p e s m args below meth c s₁ B hml htab hv
  obtain ⟨rfl, hP, hD, hG⟩ := hv
  have X : vC p s m _ meth c D g A RX10 wsX10_parentOf cX10_parentOf 3 := ⟨B.exec, B.bytes, findClass_of_methodNamed B.named, atoms_spec (ws := wsX10_parentOf) B.pre, hG, hml, B.notSynchronized⟩
  have hr := B.returns
  have hl := lv_entry ([.ref (a 0), iv p0, iv p1]) (n := 3) (Nat.le_of_ble_eq_true rfl)
  rw [lg_entry_eq]
  generalize (lg_sl ([.ref (a 0), iv p0, iv p1]) ++ List.replicate (3 - (lg_sl ([.ref (a 0), iv p0, iv p1])).length) Slot.unset).toArray = ls at hl ⊢
  have hl : lv_has ls 3 [(0, .ref (a 0)), (1, iv p0), (2, iv p1)] := hl
  exact wke_X10_parentOf X hr hlt htab hw s.heap [] ls hP hD va_S.rf hl

set_option maxRecDepth 20000 in
theorem ggX10_kindOf_X10_treeWith : GoodIn wsX10_kindOf wsX10_treeWith := goodIn_ca (goodIn_r _ [5, 6, 7, 8, 4, 9, 10, 11, 12, 13, 14, 15, 16, 17, 18, 19, 20, 21, 22, 23, 24, 25, 26, 27, 28, 29, 30, 31, 32, 33, 34, 35, 36, 37, 38, 39] (by decide +kernel) (by decide +kernel)) (goodIn_sub (fun _ h => List.mem_cons_of_mem _ (List.mem_append_right _ h)) (by decide +kernel))
set_option maxRecDepth 20000 in
theorem gX10_kindOf_X10_treeWith : GoodIn wsX10_kindOf (wsV RX10 105 RX10 yX10_treeWith wsX10_treeWith) := goodIn_app (goodIn_of _ (by decide +kernel)) ggX10_kindOf_X10_treeWith
theorem dX10_kindOf_0 : decode cX10_kindOf 0 = .ok (.aload_n 0, 1) := by decide +kernel
theorem dX10_kindOf_1 : decode cX10_kindOf 1 = .ok (.iload_n 1, 1) := by decide +kernel
theorem dX10_kindOf_2 : decode cX10_kindOf 2 = .ok (.iload_n 2, 1) := by decide +kernel
theorem dX10_kindOf_3 : decode cX10_kindOf 3 = .ok (.invokevirtual 105, 3) := by decide +kernel
theorem dX10_kindOf_6 : decode cX10_kindOf 6 = .ok (.getfield 145, 3) := by decide +kernel
theorem dX10_kindOf_9 : decode cX10_kindOf 9 = .ok (.iload_n 2, 1) := by decide +kernel
theorem dX10_kindOf_10 : decode cX10_kindOf 10 = .ok (.iaload, 1) := by decide +kernel
theorem dX10_kindOf_11 : decode cX10_kindOf 11 = .ok (.ireturn, 1) := by decide +kernel
theorem hi_X10_kindOf_9 : ∀ w ∈ u_ws RX9 TX9 9, w ∈ wsX10_kindOf := by decide +kernel
def wpe_X10_kindOf (p0 : Int) (p1 : Int) (M : Mem) (Q : Int → Mem → Prop) (XQ : String → Mem → Prop) : Prop := wp_X10_treeWith M p0 p1 (fun y1 M2 => isT y1 ∧ ((0 : Int) ≤ p1 ∧ p1 < 12) ∧ Q ((M2 y1 0 p1.toNat)) M2) XQ
def wp_X10_kindOf (M : Mem) (p0 : Int) (p1 : Int) (Q : Int → Mem → Prop) (XQ : String → Mem → Prop) : Prop := wpe_X10_kindOf p0 p1 M Q XQ
set_option maxHeartbeats 4000000 in
set_option maxRecDepth 100000 in
theorem wke_X10_kindOf {p : Program} {l : Launch} {e : Env} {s : State} {m : MethodId} {args : Array Value} {below : List Frame} {meth : Method} {c : Code} {D : va_G} {g : GT} {A : Nat → Prop} {a : Nat → Nat} {b : Nat → Nat → Nat} (X : vC p s m args meth c D g A RX10 wsX10_kindOf cX10_kindOf 3) (hr : meth.sig.returnType = (some .int)) {p0 : Int} {p1 : Int} (hlt : l.stackTraces = false) (htab : ∀ x ∈ c.exceptionTable.toList, False) {M : Mem} {Q : Int → Mem → Prop} {XQ : String → Mem → Prop} (hw : wpe_X10_kindOf p0 p1 M Q XQ) : vV p l e ({ frames := 9, cells := 2, slots := 12, locals := 155 } : Room) s m args below meth c D g A a b 3 0 0 (vx_MQ below (cQi D g A a b Q) (cX D g A a b XQ) args s 2 12 A) M [(0, .ref (a 0)), (1, iv p0), (2, iv p1)] 0 [] := by
  unfold wpe_X10_kindOf at hw
  refine V_aload_n X dX10_kindOf_0 rfl (q := 0) rfl ?_
  refine V_iload_n X dX10_kindOf_1 rfl (q := 1) rfl ?_
  refine V_iload_n X dX10_kindOf_2 rfl (q := 2) rfl ?_
  refine V_callxV_r X _ _ gO_0 rfl (As := [iv p0, iv p1]) (st := []) (c_X10_treeWith l hlt hw) (cwV 2 X.2.2.2.1 gX10_kindOf_X10_treeWith rfl rfl rfl (by decide +kernel) ⟨Nat.le_of_ble_eq_true rfl, Nat.le_of_ble_eq_true rfl⟩) rfl (Nat.le_of_ble_eq_true rfl) ⟨Nat.le_of_ble_eq_true rfl, Nat.le_of_ble_eq_true rfl⟩ rfl dX10_kindOf_3 (fun E ce q9 M9 H9 locs9 ls9 hx9 hP9 hD9 hS9 hl9 h91 h92 h93 => V_xout X htab (Nat.le_of_ble_eq_true rfl) (Nat.le_of_ble_eq_true rfl) hx9 hP9 hD9 hS9 h91 h92 h93) (fun y1 M2 hw => ?_)
  obtain ⟨hy1, hw⟩ := hw
  refine V_getN (C := RX9) (T := TX9) (N := 9) (ci := 9) X hi_X10_kindOf_9 (gTO hy1) rfl 0 (by decide) (List.mem_of_getElem? (i := 3) rfl) (fun _ h9 => h9) rfl dX10_kindOf_6 ?_
  refine V_iload_n X dX10_kindOf_9 rfl (q := 2) rfl ?_
  obtain ⟨h3, hw⟩ := hw
  refine V_iald X ((gT_0 hy1)) h3 (by decide) dX10_kindOf_10 ?_
  exact V_xret (Nat.le_of_ble_eq_true rfl) (Nat.le_of_ble_eq_true rfl) (V_iret X hr hw dX10_kindOf_11)
set_option maxHeartbeats 4000000 in
set_option maxRecDepth 100000 in
theorem c_X10_kindOf (l : Launch) {p0 : Int} {p1 : Int} (hlt : l.stackTraces = false) {D : va_G} {g : GT} {A : Nat → Prop} {a : Nat → Nat} {b : Nat → Nat → Nat} {M : Mem} {Q : Int → Mem → Prop} {XQ : String → Mem → Prop} (hw : wp_X10_kindOf M p0 p1 Q XQ) : vx_Met l yX10_kindOf wsX10_kindOf ({ frames := 9, cells := 2, slots := 12, locals := 155 } : Room) (cPc D g A a b M [.ref (a 0), iv p0, iv p1]) (cQi D g A a b Q) (cX D g A a b XQ) 2 12 A := by
  refine vx_ofW (cc := cX10_kindOf) (maxL := 3) (ret := (some .int)) (by decide) rfl ?_
  intro p e s m args below meth c s₁ B hml htab hv
  obtain ⟨rfl, hP, hD, hG⟩ := hv
  have X : vC p s m _ meth c D g A RX10 wsX10_kindOf cX10_kindOf 3 := ⟨B.exec, B.bytes, findClass_of_methodNamed B.named, atoms_spec (ws := wsX10_kindOf) B.pre, hG, hml, B.notSynchronized⟩
  have hr := B.returns
  have hl := lv_entry ([.ref (a 0), iv p0, iv p1]) (n := 3) (Nat.le_of_ble_eq_true rfl)
  rw [lg_entry_eq]
  generalize (lg_sl ([.ref (a 0), iv p0, iv p1]) ++ List.replicate (3 - (lg_sl ([.ref (a 0), iv p0, iv p1])).length) Slot.unset).toArray = ls at hl ⊢
  have hl : lv_has ls 3 [(0, .ref (a 0)), (1, iv p0), (2, iv p1)] := hl
  exact wke_X10_kindOf X hr hlt htab hw s.heap [] ls hP hD va_S.rf hl

set_option maxRecDepth 20000 in
theorem ggX10_labelOf_X10_treeWith : GoodIn wsX10_labelOf wsX10_treeWith := goodIn_ca (goodIn_r _ [5, 6, 7, 8, 4, 9, 10, 11, 12, 13, 14, 15, 16, 17, 18, 19, 20, 21, 22, 23, 24, 25, 26, 27, 28, 29, 30, 31, 32, 33, 34, 35, 36, 37, 38, 39] (by decide +kernel) (by decide +kernel)) (goodIn_sub (fun _ h => List.mem_cons_of_mem _ (List.mem_append_right _ h)) (by decide +kernel))
set_option maxRecDepth 20000 in
theorem gX10_labelOf_X10_treeWith : GoodIn wsX10_labelOf (wsV RX10 105 RX10 yX10_treeWith wsX10_treeWith) := goodIn_app (goodIn_of _ (by decide +kernel)) ggX10_labelOf_X10_treeWith
theorem dX10_labelOf_0 : decode cX10_labelOf 0 = .ok (.aload_n 0, 1) := by decide +kernel
theorem dX10_labelOf_1 : decode cX10_labelOf 1 = .ok (.iload_n 1, 1) := by decide +kernel
theorem dX10_labelOf_2 : decode cX10_labelOf 2 = .ok (.iload_n 2, 1) := by decide +kernel
theorem dX10_labelOf_3 : decode cX10_labelOf 3 = .ok (.invokevirtual 105, 3) := by decide +kernel
theorem dX10_labelOf_6 : decode cX10_labelOf 6 = .ok (.getfield 119, 3) := by decide +kernel
theorem dX10_labelOf_9 : decode cX10_labelOf 9 = .ok (.iload_n 2, 1) := by decide +kernel
theorem dX10_labelOf_10 : decode cX10_labelOf 10 = .ok (.iaload, 1) := by decide +kernel
theorem dX10_labelOf_11 : decode cX10_labelOf 11 = .ok (.ireturn, 1) := by decide +kernel
theorem hi_X10_labelOf_9 : ∀ w ∈ u_ws RX9 TX9 9, w ∈ wsX10_labelOf := by decide +kernel
def wpe_X10_labelOf (p0 : Int) (p1 : Int) (M : Mem) (Q : Int → Mem → Prop) (XQ : String → Mem → Prop) : Prop := wp_X10_treeWith M p0 p1 (fun y1 M2 => isT y1 ∧ ((0 : Int) ≤ p1 ∧ p1 < 12) ∧ Q ((M2 y1 1 p1.toNat)) M2) XQ
def wp_X10_labelOf (M : Mem) (p0 : Int) (p1 : Int) (Q : Int → Mem → Prop) (XQ : String → Mem → Prop) : Prop := wpe_X10_labelOf p0 p1 M Q XQ
set_option maxHeartbeats 4000000 in
set_option maxRecDepth 100000 in
theorem wke_X10_labelOf {p : Program} {l : Launch} {e : Env} {s : State} {m : MethodId} {args : Array Value} {below : List Frame} {meth : Method} {c : Code} {D : va_G} {g : GT} {A : Nat → Prop} {a : Nat → Nat} {b : Nat → Nat → Nat} (X : vC p s m args meth c D g A RX10 wsX10_labelOf cX10_labelOf 3) (hr : meth.sig.returnType = (some .int)) {p0 : Int} {p1 : Int} (hlt : l.stackTraces = false) (htab : ∀ x ∈ c.exceptionTable.toList, False) {M : Mem} {Q : Int → Mem → Prop} {XQ : String → Mem → Prop} (hw : wpe_X10_labelOf p0 p1 M Q XQ) : vV p l e ({ frames := 9, cells := 2, slots := 12, locals := 155 } : Room) s m args below meth c D g A a b 3 0 0 (vx_MQ below (cQi D g A a b Q) (cX D g A a b XQ) args s 2 12 A) M [(0, .ref (a 0)), (1, iv p0), (2, iv p1)] 0 [] := by
  unfold wpe_X10_labelOf at hw
  refine V_aload_n X dX10_labelOf_0 rfl (q := 0) rfl ?_
  refine V_iload_n X dX10_labelOf_1 rfl (q := 1) rfl ?_
  refine V_iload_n X dX10_labelOf_2 rfl (q := 2) rfl ?_
  refine V_callxV_r X _ _ gO_0 rfl (As := [iv p0, iv p1]) (st := []) (c_X10_treeWith l hlt hw) (cwV 2 X.2.2.2.1 gX10_labelOf_X10_treeWith rfl rfl rfl (by decide +kernel) ⟨Nat.le_of_ble_eq_true rfl, Nat.le_of_ble_eq_true rfl⟩) rfl (Nat.le_of_ble_eq_true rfl) ⟨Nat.le_of_ble_eq_true rfl, Nat.le_of_ble_eq_true rfl⟩ rfl dX10_labelOf_3 (fun E ce q9 M9 H9 locs9 ls9 hx9 hP9 hD9 hS9 hl9 h91 h92 h93 => V_xout X htab (Nat.le_of_ble_eq_true rfl) (Nat.le_of_ble_eq_true rfl) hx9 hP9 hD9 hS9 h91 h92 h93) (fun y1 M2 hw => ?_)
  obtain ⟨hy1, hw⟩ := hw
  refine V_getN (C := RX9) (T := TX9) (N := 9) (ci := 9) X hi_X10_labelOf_9 (gTO hy1) rfl 1 (by decide) (List.mem_of_getElem? (i := 6) rfl) (fun _ h9 => h9) rfl dX10_labelOf_6 ?_
  refine V_iload_n X dX10_labelOf_9 rfl (q := 2) rfl ?_
  obtain ⟨h3, hw⟩ := hw
  refine V_iald X ((gT_1 hy1)) h3 (by decide) dX10_labelOf_10 ?_
  exact V_xret (Nat.le_of_ble_eq_true rfl) (Nat.le_of_ble_eq_true rfl) (V_iret X hr hw dX10_labelOf_11)
set_option maxHeartbeats 4000000 in
set_option maxRecDepth 100000 in
theorem c_X10_labelOf (l : Launch) {p0 : Int} {p1 : Int} (hlt : l.stackTraces = false) {D : va_G} {g : GT} {A : Nat → Prop} {a : Nat → Nat} {b : Nat → Nat → Nat} {M : Mem} {Q : Int → Mem → Prop} {XQ : String → Mem → Prop} (hw : wp_X10_labelOf M p0 p1 Q XQ) : vx_Met l yX10_labelOf wsX10_labelOf ({ frames := 9, cells := 2, slots := 12, locals := 155 } : Room) (cPc D g A a b M [.ref (a 0), iv p0, iv p1]) (cQi D g A a b Q) (cX D g A a b XQ) 2 12 A := by
  refine vx_ofW (cc := cX10_labelOf) (maxL := 3) (ret := (some .int)) (by decide) rfl ?_
  intro p e s m args below meth c s₁ B hml htab hv
  obtain ⟨rfl, hP, hD, hG⟩ := hv
  have X : vC p s m _ meth c D g A RX10 wsX10_labelOf cX10_labelOf 3 := ⟨B.exec, B.bytes, findClass_of_methodNamed B.named, atoms_spec (ws := wsX10_labelOf) B.pre, hG, hml, B.notSynchronized⟩
  have hr := B.returns
  have hl := lv_entry ([.ref (a 0), iv p0, iv p1]) (n := 3) (Nat.le_of_ble_eq_true rfl)
  rw [lg_entry_eq]
  generalize (lg_sl ([.ref (a 0), iv p0, iv p1]) ++ List.replicate (3 - (lg_sl ([.ref (a 0), iv p0, iv p1])).length) Slot.unset).toArray = ls at hl ⊢
  have hl : lv_has ls 3 [(0, .ref (a 0)), (1, iv p0), (2, iv p1)] := hl
  exact wke_X10_labelOf X hr hlt htab hw s.heap [] ls hP hD va_S.rf hl

set_option maxRecDepth 20000 in
theorem ggX10_subtreeSize_X10_treeWith : GoodIn wsX10_subtreeSize wsX10_treeWith := goodIn_ca (goodIn_r _ [5, 6, 7, 8, 4, 9, 10, 11, 12, 13, 14, 15, 16, 17, 18, 19, 20, 21, 22, 23, 24, 25, 26, 27, 28, 29, 30, 31, 32, 33, 34, 35, 36, 37, 38, 39] (by decide +kernel) (by decide +kernel)) (goodIn_sub (fun _ h => List.mem_cons_of_mem _ (List.mem_append_right _ h)) (by decide +kernel))
set_option maxRecDepth 20000 in
theorem gX10_subtreeSize_X10_treeWith : GoodIn wsX10_subtreeSize (wsV RX10 105 RX10 yX10_treeWith wsX10_treeWith) := goodIn_app (goodIn_of _ (by decide +kernel)) ggX10_subtreeSize_X10_treeWith
theorem dX10_subtreeSize_0 : decode cX10_subtreeSize 0 = .ok (.aload_n 0, 1) := by decide +kernel
theorem dX10_subtreeSize_1 : decode cX10_subtreeSize 1 = .ok (.iload_n 1, 1) := by decide +kernel
theorem dX10_subtreeSize_2 : decode cX10_subtreeSize 2 = .ok (.iload_n 2, 1) := by decide +kernel
theorem dX10_subtreeSize_3 : decode cX10_subtreeSize 3 = .ok (.invokevirtual 105, 3) := by decide +kernel
theorem dX10_subtreeSize_6 : decode cX10_subtreeSize 6 = .ok (.getfield 157, 3) := by decide +kernel
theorem dX10_subtreeSize_9 : decode cX10_subtreeSize 9 = .ok (.iload_n 2, 1) := by decide +kernel
theorem dX10_subtreeSize_10 : decode cX10_subtreeSize 10 = .ok (.iaload, 1) := by decide +kernel
theorem dX10_subtreeSize_11 : decode cX10_subtreeSize 11 = .ok (.ireturn, 1) := by decide +kernel
theorem hi_X10_subtreeSize_9 : ∀ w ∈ u_ws RX9 TX9 9, w ∈ wsX10_subtreeSize := by decide +kernel
def wpe_X10_subtreeSize (p0 : Int) (p1 : Int) (M : Mem) (Q : Int → Mem → Prop) (XQ : String → Mem → Prop) : Prop := wp_X10_treeWith M p0 p1 (fun y1 M2 => isT y1 ∧ ((0 : Int) ≤ p1 ∧ p1 < 12) ∧ Q ((M2 y1 6 p1.toNat)) M2) XQ
def wp_X10_subtreeSize (M : Mem) (p0 : Int) (p1 : Int) (Q : Int → Mem → Prop) (XQ : String → Mem → Prop) : Prop := wpe_X10_subtreeSize p0 p1 M Q XQ
set_option maxHeartbeats 4000000 in
set_option maxRecDepth 100000 in
theorem wke_X10_subtreeSize {p : Program} {l : Launch} {e : Env} {s : State} {m : MethodId} {args : Array Value} {below : List Frame} {meth : Method} {c : Code} {D : va_G} {g : GT} {A : Nat → Prop} {a : Nat → Nat} {b : Nat → Nat → Nat} (X : vC p s m args meth c D g A RX10 wsX10_subtreeSize cX10_subtreeSize 3) (hr : meth.sig.returnType = (some .int)) {p0 : Int} {p1 : Int} (hlt : l.stackTraces = false) (htab : ∀ x ∈ c.exceptionTable.toList, False) {M : Mem} {Q : Int → Mem → Prop} {XQ : String → Mem → Prop} (hw : wpe_X10_subtreeSize p0 p1 M Q XQ) : vV p l e ({ frames := 9, cells := 2, slots := 12, locals := 155 } : Room) s m args below meth c D g A a b 3 0 0 (vx_MQ below (cQi D g A a b Q) (cX D g A a b XQ) args s 2 12 A) M [(0, .ref (a 0)), (1, iv p0), (2, iv p1)] 0 [] := by
  unfold wpe_X10_subtreeSize at hw
  refine V_aload_n X dX10_subtreeSize_0 rfl (q := 0) rfl ?_
  refine V_iload_n X dX10_subtreeSize_1 rfl (q := 1) rfl ?_
  refine V_iload_n X dX10_subtreeSize_2 rfl (q := 2) rfl ?_
  refine V_callxV_r X _ _ gO_0 rfl (As := [iv p0, iv p1]) (st := []) (c_X10_treeWith l hlt hw) (cwV 2 X.2.2.2.1 gX10_subtreeSize_X10_treeWith rfl rfl rfl (by decide +kernel) ⟨Nat.le_of_ble_eq_true rfl, Nat.le_of_ble_eq_true rfl⟩) rfl (Nat.le_of_ble_eq_true rfl) ⟨Nat.le_of_ble_eq_true rfl, Nat.le_of_ble_eq_true rfl⟩ rfl dX10_subtreeSize_3 (fun E ce q9 M9 H9 locs9 ls9 hx9 hP9 hD9 hS9 hl9 h91 h92 h93 => V_xout X htab (Nat.le_of_ble_eq_true rfl) (Nat.le_of_ble_eq_true rfl) hx9 hP9 hD9 hS9 h91 h92 h93) (fun y1 M2 hw => ?_)
  obtain ⟨hy1, hw⟩ := hw
  refine V_getN (C := RX9) (T := TX9) (N := 9) (ci := 9) X hi_X10_subtreeSize_9 (gTO hy1) rfl 6 (by decide) (List.mem_of_getElem? (i := 18) rfl) (fun _ h9 => h9) rfl dX10_subtreeSize_6 ?_
  refine V_iload_n X dX10_subtreeSize_9 rfl (q := 2) rfl ?_
  obtain ⟨h3, hw⟩ := hw
  refine V_iald X ((gT_6 hy1)) h3 (by decide) dX10_subtreeSize_10 ?_
  exact V_xret (Nat.le_of_ble_eq_true rfl) (Nat.le_of_ble_eq_true rfl) (V_iret X hr hw dX10_subtreeSize_11)
set_option maxHeartbeats 4000000 in
set_option maxRecDepth 100000 in
theorem c_X10_subtreeSize (l : Launch) {p0 : Int} {p1 : Int} (hlt : l.stackTraces = false) {D : va_G} {g : GT} {A : Nat → Prop} {a : Nat → Nat} {b : Nat → Nat → Nat} {M : Mem} {Q : Int → Mem → Prop} {XQ : String → Mem → Prop} (hw : wp_X10_subtreeSize M p0 p1 Q XQ) : vx_Met l yX10_subtreeSize wsX10_subtreeSize ({ frames := 9, cells := 2, slots := 12, locals := 155 } : Room) (cPc D g A a b M [.ref (a 0), iv p0, iv p1]) (cQi D g A a b Q) (cX D g A a b XQ) 2 12 A := by
  refine vx_ofW (cc := cX10_subtreeSize) (maxL := 3) (ret := (some .int)) (by decide) rfl ?_
  intro p e s m args below meth c s₁ B hml htab hv
  obtain ⟨rfl, hP, hD, hG⟩ := hv
  have X : vC p s m _ meth c D g A RX10 wsX10_subtreeSize cX10_subtreeSize 3 := ⟨B.exec, B.bytes, findClass_of_methodNamed B.named, atoms_spec (ws := wsX10_subtreeSize) B.pre, hG, hml, B.notSynchronized⟩
  have hr := B.returns
  have hl := lv_entry ([.ref (a 0), iv p0, iv p1]) (n := 3) (Nat.le_of_ble_eq_true rfl)
  rw [lg_entry_eq]
  generalize (lg_sl ([.ref (a 0), iv p0, iv p1]) ++ List.replicate (3 - (lg_sl ([.ref (a 0), iv p0, iv p1])).length) Slot.unset).toArray = ls at hl ⊢
  have hl : lv_has ls 3 [(0, .ref (a 0)), (1, iv p0), (2, iv p1)] := hl
  exact wke_X10_subtreeSize X hr hlt htab hw s.heap [] ls hP hD va_S.rf hl

theorem dX11_byPostorder_0 : decode cX11_byPostorder 0 = .ok (.iconst 0, 1) := by decide +kernel
theorem dX11_byPostorder_1 : decode cX11_byPostorder 1 = .ok (.istore_n 3, 1) := by decide +kernel
theorem dX11_byPostorder_2 : decode cX11_byPostorder 2 = .ok (.iload_n 3, 1) := by decide +kernel
theorem dX11_byPostorder_3 : decode cX11_byPostorder 3 = .ok (.aload_n 0, 1) := by decide +kernel
theorem dX11_byPostorder_4 : decode cX11_byPostorder 4 = .ok (.getfield 13, 3) := by decide +kernel
theorem dX11_byPostorder_7 : decode cX11_byPostorder 7 = .ok (.bipush 12, 2) := by decide +kernel
theorem dX11_byPostorder_9 : decode cX11_byPostorder 9 = .ok (.iload_n 1, 1) := by decide +kernel
theorem dX11_byPostorder_10 : decode cX11_byPostorder 10 = .ok (.imul, 1) := by decide +kernel
theorem dX11_byPostorder_11 : decode cX11_byPostorder 11 = .ok (.iload_n 3, 1) := by decide +kernel
theorem dX11_byPostorder_12 : decode cX11_byPostorder 12 = .ok (.iadd, 1) := by decide +kernel
theorem dX11_byPostorder_13 : decode cX11_byPostorder 13 = .ok (.iaload, 1) := by decide +kernel
theorem dX11_byPostorder_14 : decode cX11_byPostorder 14 = .ok (.isub, 1) := by decide +kernel
theorem dX11_byPostorder_15 : decode cX11_byPostorder 15 = .ok (.aload_n 0, 1) := by decide +kernel
theorem dX11_byPostorder_16 : decode cX11_byPostorder 16 = .ok (.getfield 22, 3) := by decide +kernel
theorem dX11_byPostorder_19 : decode cX11_byPostorder 19 = .ok (.bipush 12, 2) := by decide +kernel
theorem dX11_byPostorder_21 : decode cX11_byPostorder 21 = .ok (.iload_n 1, 1) := by decide +kernel
theorem dX11_byPostorder_22 : decode cX11_byPostorder 22 = .ok (.imul, 1) := by decide +kernel
theorem dX11_byPostorder_23 : decode cX11_byPostorder 23 = .ok (.iload_n 3, 1) := by decide +kernel
theorem dX11_byPostorder_24 : decode cX11_byPostorder 24 = .ok (.iadd, 1) := by decide +kernel
theorem dX11_byPostorder_25 : decode cX11_byPostorder 25 = .ok (.iaload, 1) := by decide +kernel
theorem dX11_byPostorder_26 : decode cX11_byPostorder 26 = .ok (.iadd, 1) := by decide +kernel
theorem dX11_byPostorder_27 : decode cX11_byPostorder 27 = .ok (.iconst 1, 1) := by decide +kernel
theorem dX11_byPostorder_28 : decode cX11_byPostorder 28 = .ok (.isub, 1) := by decide +kernel
theorem dX11_byPostorder_29 : decode cX11_byPostorder 29 = .ok (.iload_n 2, 1) := by decide +kernel
theorem dX11_byPostorder_30 : decode cX11_byPostorder 30 = .ok (.if_icmp .eq 9, 3) := by decide +kernel
theorem dX11_byPostorder_33 : decode cX11_byPostorder 33 = .ok (.iinc 3 1, 3) := by decide +kernel
theorem dX11_byPostorder_36 : decode cX11_byPostorder 36 = .ok (.goto (-34), 3) := by decide +kernel
theorem dX11_byPostorder_39 : decode cX11_byPostorder 39 = .ok (.iload_n 3, 1) := by decide +kernel
theorem dX11_byPostorder_40 : decode cX11_byPostorder 40 = .ok (.ireturn, 1) := by decide +kernel
theorem lk_X11_byPostorder_f13 : Cond.fieldLink RX11 13 "TreeComparerModel" "level" "[I" ∈ wsX11_byPostorder := by decide +kernel
theorem hi_X11_byPostorder_11 : ∀ w ∈ u_ws RX11 TX11 24, w ∈ wsX11_byPostorder := by decide +kernel
theorem lk_X11_byPostorder_f22 : Cond.fieldLink RX11 22 "TreeComparerModel" "size" "[I" ∈ wsX11_byPostorder := by decide +kernel
def wph_X11_byPostorder_2 (p0 : Int) (p1 : Int) (x3 : Int) (M : Mem) (J2 : Int → Mem → Prop) (Q : Int → Mem → Prop) : Prop := ((0 : Int) ≤ (12 * p0) + x3 ∧ (12 * p0) + x3 < 24) ∧ ((0 : Int) ≤ (12 * p0) + x3 ∧ (12 * p0) + x3 < 24) ∧ inR (((x3 - (M 13 1 ((12 * p0) + x3).toNat)) + (M 13 4 ((12 * p0) + x3).toNat)) - 1) ∧ inR p1 ∧ ((((x3 - (M 13 1 ((12 * p0) + x3).toNat)) + (M 13 4 ((12 * p0) + x3).toNat)) - 1 = p1 → Q x3 M) ∧ (¬ (((x3 - (M 13 1 ((12 * p0) + x3).toNat)) + (M 13 4 ((12 * p0) + x3).toNat)) - 1 = p1) → J2 (x3 + 1) M))
def wpe_X11_byPostorder (p0 : Int) (p1 : Int) (M : Mem) (J2 : Int → Mem → Prop) (Q : Int → Mem → Prop) : Prop := J2 0 M
def wp_X11_byPostorder (M : Mem) (p0 : Int) (p1 : Int) (Q : Int → Mem → Prop) : Prop := ∃ (I2 : Nat → Int → Mem → Prop), wpe_X11_byPostorder p0 p1 M (fun (x3 : Int) (M1 : Mem) => ∃ n1 : Nat, I2 n1 x3 M1) Q ∧ (∀ (n : Nat) (x3 : Int) (M : Mem), I2 n x3 M → wph_X11_byPostorder_2 p0 p1 x3 M (fun (x3 : Int) (M1 : Mem) => ∃ n1 : Nat, n1 < n ∧ I2 n1 x3 M1) Q)
set_option maxHeartbeats 4000000 in
set_option maxRecDepth 100000 in
theorem wkh_X11_byPostorder_2 {p : Program} {l : Launch} {e : Env} {s : State} {m : MethodId} {args : Array Value} {below : List Frame} {meth : Method} {c : Code} {D : va_G} {g : GT} {A : Nat → Prop} {a : Nat → Nat} {b : Nat → Nat → Nat} (X : vC p s m args meth c D g A RX11 wsX11_byPostorder cX11_byPostorder 4) (hr : meth.sig.returnType = (some .int)) {p0 : Int} {p1 : Int} {x3 : Int} {M : Mem} {J2 : Int → Mem → Prop} {Q : Int → Mem → Prop} (hJ2 : ∀ (x3 : Int) (M : Mem), J2 x3 M → vV p l e ({ frames := 0, cells := 0, slots := 0, locals := 0 } : Room) s m args below meth c D g A a b 4 0 0 (MQ below (cQi D g A a b Q) args s 0 0 A) M [(0, .ref (a 13)), (1, iv p0), (2, iv p1), (3, iv x3)] 2 []) (hw : wph_X11_byPostorder_2 p0 p1 x3 M J2 Q) : vV p l e ({ frames := 0, cells := 0, slots := 0, locals := 0 } : Room) s m args below meth c D g A a b 4 0 0 (MQ below (cQi D g A a b Q) args s 0 0 A) M [(0, .ref (a 13)), (1, iv p0), (2, iv p1), (3, iv x3)] 2 [] := by
  unfold wph_X11_byPostorder_2 at hw
  refine V_iload_n X dX11_byPostorder_2 rfl (q := 3) rfl ?_
  refine V_aload_n X dX11_byPostorder_3 rfl (q := 0) rfl ?_
  refine V_get (C := RX11) (T := TX11) (N := 24) (ci := 11) X hi_X11_byPostorder_11 gO_13 rfl 1 (by decide) lk_X11_byPostorder_f13 (fun _ h9 => h9) rfl dX11_byPostorder_4 ?_
  refine V_bipush X dX11_byPostorder_7 rfl ?_
  refine V_iload_n X dX11_byPostorder_9 rfl (q := 1) rfl ?_
  refine V_imul X dX11_byPostorder_10 ?_
  refine V_iload_n X dX11_byPostorder_11 rfl (q := 3) rfl ?_
  refine V_iadd X dX11_byPostorder_12 ?_
  obtain ⟨h1, hw⟩ := hw
  refine V_iald X (gA_13_1) h1 (by decide) dX11_byPostorder_13 ?_
  refine V_isub X dX11_byPostorder_14 ?_
  refine V_aload_n X dX11_byPostorder_15 rfl (q := 0) rfl ?_
  refine V_get (C := RX11) (T := TX11) (N := 24) (ci := 11) X hi_X11_byPostorder_11 gO_13 rfl 4 (by decide) lk_X11_byPostorder_f22 (fun _ h9 => h9) rfl dX11_byPostorder_16 ?_
  refine V_bipush X dX11_byPostorder_19 rfl ?_
  refine V_iload_n X dX11_byPostorder_21 rfl (q := 1) rfl ?_
  refine V_imul X dX11_byPostorder_22 ?_
  refine V_iload_n X dX11_byPostorder_23 rfl (q := 3) rfl ?_
  refine V_iadd X dX11_byPostorder_24 ?_
  obtain ⟨h2, hw⟩ := hw
  refine V_iald X (gA_13_4) h2 (by decide) dX11_byPostorder_25 ?_
  refine V_iadd X dX11_byPostorder_26 ?_
  refine V_iconst X dX11_byPostorder_27 ?_
  refine V_isub X dX11_byPostorder_28 ?_
  refine V_iload_n X dX11_byPostorder_29 rfl (q := 2) rfl ?_
  obtain ⟨h3, h4, hw⟩ := hw
  refine V_icmp_eq (tgt := 39) X h3 h4 dX11_byPostorder_30 (by decide) (fun q5 => ?_) (fun q5 => ?_)
  · have hw := hw.1 q5
    refine V_iload_n X dX11_byPostorder_39 rfl (q := 3) rfl ?_
    exact V_iret X hr hw dX11_byPostorder_40
  · have hw := hw.2 q5
    refine V_iinc (lv1 := [(0, .ref (a 13)), (1, iv p0), (2, iv p1), (3, iv (x3 + 1))]) X [1, 2, 3, 0] dX11_byPostorder_33 (q := 3) rfl (by decide) rfl ?_
    refine V_goto (tgt := 2) X dX11_byPostorder_36 (by decide) ?_
    exact hJ2 _ _ hw
set_option maxHeartbeats 4000000 in
set_option maxRecDepth 100000 in
theorem wke_X11_byPostorder {p : Program} {l : Launch} {e : Env} {s : State} {m : MethodId} {args : Array Value} {below : List Frame} {meth : Method} {c : Code} {D : va_G} {g : GT} {A : Nat → Prop} {a : Nat → Nat} {b : Nat → Nat → Nat} (X : vC p s m args meth c D g A RX11 wsX11_byPostorder cX11_byPostorder 4) (hr : meth.sig.returnType = (some .int)) {p0 : Int} {p1 : Int} {M : Mem} {J2 : Int → Mem → Prop} {Q : Int → Mem → Prop} (hJ2 : ∀ (x3 : Int) (M : Mem), J2 x3 M → vV p l e ({ frames := 0, cells := 0, slots := 0, locals := 0 } : Room) s m args below meth c D g A a b 4 0 0 (MQ below (cQi D g A a b Q) args s 0 0 A) M [(0, .ref (a 13)), (1, iv p0), (2, iv p1), (3, iv x3)] 2 []) (hw : wpe_X11_byPostorder p0 p1 M J2 Q) : vV p l e ({ frames := 0, cells := 0, slots := 0, locals := 0 } : Room) s m args below meth c D g A a b 4 0 0 (MQ below (cQi D g A a b Q) args s 0 0 A) M [(0, .ref (a 13)), (1, iv p0), (2, iv p1)] 0 [] := by
  unfold wpe_X11_byPostorder at hw
  refine V_iconst X dX11_byPostorder_0 ?_
  refine V_istore_n (lv1 := [(0, .ref (a 13)), (1, iv p0), (2, iv p1), (3, iv 0)]) X [1, 2, 3, 0] dX11_byPostorder_1 rfl (by decide) rfl ?_
  exact hJ2 _ _ hw
set_option maxHeartbeats 4000000 in
set_option maxRecDepth 100000 in
theorem c_X11_byPostorder (l : Launch) {p0 : Int} {p1 : Int} {D : va_G} {g : GT} {A : Nat → Prop} {a : Nat → Nat} {b : Nat → Nat → Nat} {M : Mem} {Q : Int → Mem → Prop} (hw : wp_X11_byPostorder M p0 p1 Q) : Met l yX11_byPostorder wsX11_byPostorder ({ frames := 0, cells := 0, slots := 0, locals := 0 } : Room) (cPc D g A a b M [.ref (a 13), iv p0, iv p1]) (cQi D g A a b Q) 0 0 A := by
  refine Met.ofW (cc := cX11_byPostorder) (maxL := 4) (ret := (some .int)) (by decide) rfl ?_
  intro p e s m args below meth c s₁ B hml hv
  obtain ⟨rfl, hP, hD, hG⟩ := hv
  have X : vC p s m _ meth c D g A RX11 wsX11_byPostorder cX11_byPostorder 4 := ⟨B.exec, B.bytes, findClass_of_methodNamed B.named, atoms_spec (ws := wsX11_byPostorder) B.pre, hG, hml, B.notSynchronized⟩
  have hr := B.returns
  have hl := lv_entry ([.ref (a 13), iv p0, iv p1]) (n := 4) (Nat.le_of_ble_eq_true rfl)
  rw [lg_entry_eq]
  generalize (lg_sl ([.ref (a 13), iv p0, iv p1]) ++ List.replicate (4 - (lg_sl ([.ref (a 13), iv p0, iv p1])).length) Slot.unset).toArray = ls at hl ⊢
  have hl : lv_has ls 4 [(0, .ref (a 13)), (1, iv p0), (2, iv p1)] := hl
  obtain ⟨I2, hw, hI2⟩ := hw
  have K : ∀ n : Nat, (∀ (x3 : Int) (M : Mem), I2 n x3 M → vV p l e ({ frames := 0, cells := 0, slots := 0, locals := 0 } : Room) s m ([.ref (a 13), iv p0, iv p1] : List Value).toArray below meth c D g A a b 4 0 0 (MQ below (cQi D g A a b Q) ([.ref (a 13), iv p0, iv p1] : List Value).toArray s 0 0 A) M [(0, .ref (a 13)), (1, iv p0), (2, iv p1), (3, iv x3)] 2 []) := by
    intro n
    induction n using Nat.strongRecOn with
    | ind n ih =>
      exact fun x3 M hh => wkh_X11_byPostorder_2 X hr (fun _ _ ⟨n1, hn, hh⟩ => (ih n1 hn) _ _ hh) (hI2 n x3 M hh)
  exact wke_X11_byPostorder X hr  (fun _ _ ⟨n1, hh⟩ => (K n1) _ _ hh) hw s.heap [] ls hP hD va_S.rf hl

set_option maxRecDepth 20000 in
theorem ggX11_inserting_X11_priceOf : GoodIn wsX11_inserting wsX11_priceOf := goodIn_r _ [5, 6, 7, 8, 9, 10, 11, 12, 13, 14, 15, 16, 17, 18, 19, 20, 21, 22, 23, 24, 25, 26, 27, 28, 29, 30, 31] (by decide +kernel) (by decide +kernel)
set_option maxRecDepth 20000 in
theorem gX11_inserting_X11_priceOf : GoodIn wsX11_inserting (wsV RX11 83 RX11 yX11_priceOf wsX11_priceOf) := goodIn_app (goodIn_of _ (by decide +kernel)) ggX11_inserting_X11_priceOf
theorem dX11_inserting_0 : decode cX11_inserting 0 = .ok (.iconst 0, 1) := by decide +kernel
theorem dX11_inserting_1 : decode cX11_inserting 1 = .ok (.istore_n 3, 1) := by decide +kernel
theorem dX11_inserting_2 : decode cX11_inserting 2 = .ok (.iload_n 1, 1) := by decide +kernel
theorem dX11_inserting_3 : decode cX11_inserting 3 = .ok (.istore 4, 2) := by decide +kernel
theorem dX11_inserting_5 : decode cX11_inserting 5 = .ok (.iload 4, 2) := by decide +kernel
theorem dX11_inserting_7 : decode cX11_inserting 7 = .ok (.iload_n 2, 1) := by decide +kernel
theorem dX11_inserting_8 : decode cX11_inserting 8 = .ok (.if_icmp .ge 20, 3) := by decide +kernel
theorem dX11_inserting_11 : decode cX11_inserting 11 = .ok (.iload_n 3, 1) := by decide +kernel
theorem dX11_inserting_12 : decode cX11_inserting 12 = .ok (.aload_n 0, 1) := by decide +kernel
theorem dX11_inserting_13 : decode cX11_inserting 13 = .ok (.iconst 1, 1) := by decide +kernel
theorem dX11_inserting_14 : decode cX11_inserting 14 = .ok (.iload 4, 2) := by decide +kernel
theorem dX11_inserting_16 : decode cX11_inserting 16 = .ok (.iconst 0, 1) := by decide +kernel
theorem dX11_inserting_17 : decode cX11_inserting 17 = .ok (.invokevirtual 83, 3) := by decide +kernel
theorem dX11_inserting_20 : decode cX11_inserting 20 = .ok (.iadd, 1) := by decide +kernel
theorem dX11_inserting_21 : decode cX11_inserting 21 = .ok (.istore_n 3, 1) := by decide +kernel
theorem dX11_inserting_22 : decode cX11_inserting 22 = .ok (.iinc 4 1, 3) := by decide +kernel
theorem dX11_inserting_25 : decode cX11_inserting 25 = .ok (.goto (-20), 3) := by decide +kernel
theorem dX11_inserting_28 : decode cX11_inserting 28 = .ok (.iload_n 3, 1) := by decide +kernel
theorem dX11_inserting_29 : decode cX11_inserting 29 = .ok (.ireturn, 1) := by decide +kernel
def wph_X11_inserting_5 (p0 : Int) (p1 : Int) (x3 : Int) (x4 : Int) (M : Mem) (J5 : Int → Int → Mem → Prop) (Q : Int → Mem → Prop) : Prop := inR x4 ∧ inR p1 ∧ ((p1 ≤ x4 → Q x3 M) ∧ (¬ (p1 ≤ x4) → wp_X11_priceOf M 1 x4 0 (fun y4 M5 => (∀ y6 : Int, y6 = x3 + y4 → J5 y6 (x4 + 1) M5))))
def wpe_X11_inserting (p0 : Int) (p1 : Int) (M : Mem) (J5 : Int → Int → Mem → Prop) (Q : Int → Mem → Prop) : Prop := J5 0 p0 M
def wp_X11_inserting (M : Mem) (p0 : Int) (p1 : Int) (Q : Int → Mem → Prop) : Prop := ∃ (I5 : Nat → Int → Int → Mem → Prop), wpe_X11_inserting p0 p1 M (fun (x3 : Int) (x4 : Int) (M1 : Mem) => ∃ n1 : Nat, I5 n1 x3 x4 M1) Q ∧ (∀ (n : Nat) (x3 : Int) (x4 : Int) (M : Mem), I5 n x3 x4 M → wph_X11_inserting_5 p0 p1 x3 x4 M (fun (x3 : Int) (x4 : Int) (M1 : Mem) => ∃ n1 : Nat, n1 < n ∧ I5 n1 x3 x4 M1) Q)
set_option maxHeartbeats 4000000 in
set_option maxRecDepth 100000 in
theorem wkh_X11_inserting_5 {p : Program} {l : Launch} {e : Env} {s : State} {m : MethodId} {args : Array Value} {below : List Frame} {meth : Method} {c : Code} {D : va_G} {g : GT} {A : Nat → Prop} {a : Nat → Nat} {b : Nat → Nat → Nat} (X : vC p s m args meth c D g A RX11 wsX11_inserting cX11_inserting 5) (hr : meth.sig.returnType = (some .int)) {p0 : Int} {p1 : Int} {x3 : Int} {x4 : Int} {M : Mem} {J5 : Int → Int → Mem → Prop} {Q : Int → Mem → Prop} (hJ5 : ∀ (x3 : Int) (x4 : Int) (M : Mem), J5 x3 x4 M → vV p l e ({ frames := 1, cells := 0, slots := 0, locals := 23 } : Room) s m args below meth c D g A a b 5 0 0 (MQ below (cQi D g A a b Q) args s 0 0 A) M [(0, .ref (a 13)), (2, iv p1), (3, iv x3), (4, iv x4)] 5 []) (hw : wph_X11_inserting_5 p0 p1 x3 x4 M J5 Q) : vV p l e ({ frames := 1, cells := 0, slots := 0, locals := 23 } : Room) s m args below meth c D g A a b 5 0 0 (MQ below (cQi D g A a b Q) args s 0 0 A) M [(0, .ref (a 13)), (2, iv p1), (3, iv x3), (4, iv x4)] 5 [] := by
  unfold wph_X11_inserting_5 at hw
  refine V_iload X dX11_inserting_5 (q := 3) rfl ?_
  refine V_iload_n X dX11_inserting_7 rfl (q := 1) rfl ?_
  obtain ⟨h1, h2, hw⟩ := hw
  refine V_icmp_ge (tgt := 28) X h1 h2 dX11_inserting_8 (by decide) (fun q3 => ?_) (fun q3 => ?_)
  · have hw := hw.1 q3
    refine V_iload_n X dX11_inserting_28 rfl (q := 2) rfl ?_
    exact V_iret X hr hw dX11_inserting_29
  · have hw := hw.2 q3
    refine V_iload_n X dX11_inserting_11 rfl (q := 2) rfl ?_
    refine V_aload_n X dX11_inserting_12 rfl (q := 0) rfl ?_
    refine V_iconst X dX11_inserting_13 ?_
    refine V_iload X dX11_inserting_14 (q := 3) rfl ?_
    refine V_iconst X dX11_inserting_16 ?_
    refine V_callV_i X _ gO_13 rfl (As := [iv 1, iv x4, iv 0]) (st := [iv x3]) (c_X11_priceOf l hw) (cwV 3 X.2.2.2.1 gX11_inserting_X11_priceOf rfl rfl rfl (by decide +kernel) ⟨Nat.le_of_ble_eq_true rfl, Nat.le_of_ble_eq_true rfl⟩) rfl (Nat.le_of_ble_eq_true rfl) ⟨Nat.le_of_ble_eq_true rfl, Nat.le_of_ble_eq_true rfl⟩ rfl dX11_inserting_17 (fun y4 M5 hw => ?_)
    refine V_iadd X dX11_inserting_20 ?_
    refine V_top (fun y6 ey6 => ?_)
    have hw := hw y6 ey6
    refine V_istore_n (lv1 := [(0, .ref (a 13)), (2, iv p1), (3, iv y6), (4, iv x4)]) X [1, 2, 0, 3] dX11_inserting_21 rfl (by decide) rfl ?_
    refine V_iinc (lv1 := [(0, .ref (a 13)), (2, iv p1), (3, iv y6), (4, iv (x4 + 1))]) X [1, 2, 3, 0] dX11_inserting_22 (q := 3) rfl (by decide) rfl ?_
    refine V_goto (tgt := 5) X dX11_inserting_25 (by decide) ?_
    exact hJ5 _ _ _ hw
set_option maxHeartbeats 4000000 in
set_option maxRecDepth 100000 in
theorem wke_X11_inserting {p : Program} {l : Launch} {e : Env} {s : State} {m : MethodId} {args : Array Value} {below : List Frame} {meth : Method} {c : Code} {D : va_G} {g : GT} {A : Nat → Prop} {a : Nat → Nat} {b : Nat → Nat → Nat} (X : vC p s m args meth c D g A RX11 wsX11_inserting cX11_inserting 5) (hr : meth.sig.returnType = (some .int)) {p0 : Int} {p1 : Int} {M : Mem} {J5 : Int → Int → Mem → Prop} {Q : Int → Mem → Prop} (hJ5 : ∀ (x3 : Int) (x4 : Int) (M : Mem), J5 x3 x4 M → vV p l e ({ frames := 1, cells := 0, slots := 0, locals := 23 } : Room) s m args below meth c D g A a b 5 0 0 (MQ below (cQi D g A a b Q) args s 0 0 A) M [(0, .ref (a 13)), (2, iv p1), (3, iv x3), (4, iv x4)] 5 []) (hw : wpe_X11_inserting p0 p1 M J5 Q) : vV p l e ({ frames := 1, cells := 0, slots := 0, locals := 23 } : Room) s m args below meth c D g A a b 5 0 0 (MQ below (cQi D g A a b Q) args s 0 0 A) M [(0, .ref (a 13)), (1, iv p0), (2, iv p1)] 0 [] := by
  unfold wpe_X11_inserting at hw
  refine V_iconst X dX11_inserting_0 ?_
  refine V_istore_n (lv1 := [(0, .ref (a 13)), (1, iv p0), (2, iv p1), (3, iv 0)]) X [1, 2, 3, 0] dX11_inserting_1 rfl (by decide) rfl ?_
  refine V_iload_n X dX11_inserting_2 rfl (q := 1) rfl ?_
  refine V_istore (lv1 := [(0, .ref (a 13)), (1, iv p0), (2, iv p1), (3, iv 0), (4, iv p0)]) X [1, 2, 3, 4, 0] dX11_inserting_3 (by decide) rfl ?_
  refine V_sub (lv1 := [(0, .ref (a 13)), (2, iv p1), (3, iv 0), (4, iv p0)]) [0, 2, 3, 4] rfl ?_
  exact hJ5 _ _ _ hw
set_option maxHeartbeats 4000000 in
set_option maxRecDepth 100000 in
theorem c_X11_inserting (l : Launch) {p0 : Int} {p1 : Int} {D : va_G} {g : GT} {A : Nat → Prop} {a : Nat → Nat} {b : Nat → Nat → Nat} {M : Mem} {Q : Int → Mem → Prop} (hw : wp_X11_inserting M p0 p1 Q) : Met l yX11_inserting wsX11_inserting ({ frames := 1, cells := 0, slots := 0, locals := 23 } : Room) (cPc D g A a b M [.ref (a 13), iv p0, iv p1]) (cQi D g A a b Q) 0 0 A := by
  refine Met.ofW (cc := cX11_inserting) (maxL := 5) (ret := (some .int)) (by decide) rfl ?_
  intro p e s m args below meth c s₁ B hml hv
  obtain ⟨rfl, hP, hD, hG⟩ := hv
  have X : vC p s m _ meth c D g A RX11 wsX11_inserting cX11_inserting 5 := ⟨B.exec, B.bytes, findClass_of_methodNamed B.named, atoms_spec (ws := wsX11_inserting) B.pre, hG, hml, B.notSynchronized⟩
  have hr := B.returns
  have hl := lv_entry ([.ref (a 13), iv p0, iv p1]) (n := 5) (Nat.le_of_ble_eq_true rfl)
  rw [lg_entry_eq]
  generalize (lg_sl ([.ref (a 13), iv p0, iv p1]) ++ List.replicate (5 - (lg_sl ([.ref (a 13), iv p0, iv p1])).length) Slot.unset).toArray = ls at hl ⊢
  have hl : lv_has ls 5 [(0, .ref (a 13)), (1, iv p0), (2, iv p1)] := hl
  obtain ⟨I5, hw, hI5⟩ := hw
  have K : ∀ n : Nat, (∀ (x3 : Int) (x4 : Int) (M : Mem), I5 n x3 x4 M → vV p l e ({ frames := 1, cells := 0, slots := 0, locals := 23 } : Room) s m ([.ref (a 13), iv p0, iv p1] : List Value).toArray below meth c D g A a b 5 0 0 (MQ below (cQi D g A a b Q) ([.ref (a 13), iv p0, iv p1] : List Value).toArray s 0 0 A) M [(0, .ref (a 13)), (2, iv p1), (3, iv x3), (4, iv x4)] 5 []) := by
    intro n
    induction n using Nat.strongRecOn with
    | ind n ih =>
      exact fun x3 x4 M hh => wkh_X11_inserting_5 X hr (fun _ _ _ ⟨n1, hn, hh⟩ => (ih n1 hn) _ _ _ hh) (hI5 n x3 x4 M hh)
  exact wke_X11_inserting X hr  (fun _ _ _ ⟨n1, hh⟩ => (K n1) _ _ _ hh) hw s.heap [] ls hP hD va_S.rf hl

set_option maxRecDepth 20000 in
theorem ggX11_first_X11_at : GoodIn wsX11_first wsX11_at := goodIn_r _ [6] (by decide +kernel) (by decide +kernel)
set_option maxRecDepth 20000 in
theorem gX11_first_X11_at : GoodIn wsX11_first (va_wsS RX11 123 yX11_at wsX11_at) := goodIn_app (goodIn_of _ (by decide +kernel)) ggX11_first_X11_at
set_option maxRecDepth 20000 in
theorem ggX11_first_X11_alike : GoodIn wsX11_first wsX11_alike := goodIn_r _ [10, 11, 26, 27, 28, 29, 30, 31, 32, 33, 34, 35, 36, 37, 38, 39, 40, 41, 42, 43, 44, 45, 46, 47, 48, 49] (by decide +kernel) (by decide +kernel)
set_option maxRecDepth 20000 in
theorem gX11_first_X11_alike : GoodIn wsX11_first (wsV RX11 130 RX11 yX11_alike wsX11_alike) := goodIn_app (goodIn_of _ (by decide +kernel)) ggX11_first_X11_alike
set_option maxRecDepth 20000 in
theorem ggX11_first_X11_inserting : GoodIn wsX11_first wsX11_inserting := goodIn_r _ [15, 16, 17, 18, 5, 19, 20, 11, 26, 27, 28, 29, 30, 31, 32, 33, 34, 35, 36, 37, 38, 39, 40, 41, 42, 43, 44, 45, 46, 47, 48, 49] (by decide +kernel) (by decide +kernel)
set_option maxRecDepth 20000 in
theorem gX11_first_X11_inserting : GoodIn wsX11_first (wsV RX11 147 RX11 yX11_inserting wsX11_inserting) := goodIn_app (goodIn_of _ (by decide +kernel)) ggX11_first_X11_inserting
set_option maxRecDepth 20000 in
theorem ggX11_first_X11_pairing : GoodIn wsX11_first wsX11_pairing := goodIn_r _ [24, 25, 16, 17, 18, 5, 19, 20, 11, 26, 27, 28, 29, 30, 31, 32, 33, 34, 35, 36, 37, 38, 39, 40, 41, 42, 43, 44, 45, 46, 47, 48, 49] (by decide +kernel) (by decide +kernel)
set_option maxRecDepth 20000 in
theorem gX11_first_X11_pairing : GoodIn wsX11_first (wsV RX11 133 RX11 yX11_pairing wsX11_pairing) := goodIn_app (goodIn_of _ (by decide +kernel)) ggX11_first_X11_pairing
theorem dX11_first_0 : decode cX11_first 0 = .ok (.aload_n 0, 1) := by decide +kernel
theorem dX11_first_1 : decode cX11_first 1 = .ok (.getfield 35, 3) := by decide +kernel
theorem dX11_first_4 : decode cX11_first 4 = .ok (.iload_n 1, 1) := by decide +kernel
theorem dX11_first_5 : decode cX11_first 5 = .ok (.iload_n 2, 1) := by decide +kernel
theorem dX11_first_6 : decode cX11_first 6 = .ok (.iload_n 3, 1) := by decide +kernel
theorem dX11_first_7 : decode cX11_first 7 = .ok (.iload 4, 2) := by decide +kernel
theorem dX11_first_9 : decode cX11_first 9 = .ok (.invokestatic 123, 3) := by decide +kernel
theorem dX11_first_12 : decode cX11_first 12 = .ok (.iaload, 1) := by decide +kernel
theorem dX11_first_13 : decode cX11_first 13 = .ok (.istore 5, 2) := by decide +kernel
theorem dX11_first_15 : decode cX11_first 15 = .ok (.iload_n 1, 1) := by decide +kernel
theorem dX11_first_16 : decode cX11_first 16 = .ok (.aload_n 0, 1) := by decide +kernel
theorem dX11_first_17 : decode cX11_first 17 = .ok (.getfield 22, 3) := by decide +kernel
theorem dX11_first_20 : decode cX11_first 20 = .ok (.iload_n 1, 1) := by decide +kernel
theorem dX11_first_21 : decode cX11_first 21 = .ok (.iaload, 1) := by decide +kernel
theorem dX11_first_22 : decode cX11_first 22 = .ok (.iadd, 1) := by decide +kernel
theorem dX11_first_23 : decode cX11_first 23 = .ok (.istore 6, 2) := by decide +kernel
theorem dX11_first_25 : decode cX11_first 25 = .ok (.iconst (-1), 1) := by decide +kernel
theorem dX11_first_26 : decode cX11_first 26 = .ok (.istore 7, 2) := by decide +kernel
theorem dX11_first_28 : decode cX11_first 28 = .ok (.iload 4, 2) := by decide +kernel
theorem dX11_first_30 : decode cX11_first 30 = .ok (.iconst 1, 1) := by decide +kernel
theorem dX11_first_31 : decode cX11_first 31 = .ok (.isub, 1) := by decide +kernel
theorem dX11_first_32 : decode cX11_first 32 = .ok (.istore 8, 2) := by decide +kernel
theorem dX11_first_34 : decode cX11_first 34 = .ok (.iload 8, 2) := by decide +kernel
theorem dX11_first_36 : decode cX11_first 36 = .ok (.iload_n 3, 1) := by decide +kernel
theorem dX11_first_37 : decode cX11_first 37 = .ok (.if_icmp .lt 111, 3) := by decide +kernel
theorem dX11_first_40 : decode cX11_first 40 = .ok (.iload 8, 2) := by decide +kernel
theorem dX11_first_42 : decode cX11_first 42 = .ok (.aload_n 0, 1) := by decide +kernel
theorem dX11_first_43 : decode cX11_first 43 = .ok (.getfield 22, 3) := by decide +kernel
theorem dX11_first_46 : decode cX11_first 46 = .ok (.bipush 12, 2) := by decide +kernel
theorem dX11_first_48 : decode cX11_first 48 = .ok (.iload 8, 2) := by decide +kernel
theorem dX11_first_50 : decode cX11_first 50 = .ok (.iadd, 1) := by decide +kernel
theorem dX11_first_51 : decode cX11_first 51 = .ok (.iaload, 1) := by decide +kernel
theorem dX11_first_52 : decode cX11_first 52 = .ok (.iadd, 1) := by decide +kernel
theorem dX11_first_53 : decode cX11_first 53 = .ok (.istore 9, 2) := by decide +kernel
theorem dX11_first_55 : decode cX11_first 55 = .ok (.aload_n 0, 1) := by decide +kernel
theorem dX11_first_56 : decode cX11_first 56 = .ok (.iload_n 1, 1) := by decide +kernel
theorem dX11_first_57 : decode cX11_first 57 = .ok (.iload 8, 2) := by decide +kernel
theorem dX11_first_59 : decode cX11_first 59 = .ok (.invokevirtual 130, 3) := by decide +kernel
theorem dX11_first_62 : decode cX11_first 62 = .ok (.ifCond .eq 63, 3) := by decide +kernel
theorem dX11_first_65 : decode cX11_first 65 = .ok (.aload_n 0, 1) := by decide +kernel
theorem dX11_first_66 : decode cX11_first 66 = .ok (.iload_n 3, 1) := by decide +kernel
theorem dX11_first_67 : decode cX11_first 67 = .ok (.iload 8, 2) := by decide +kernel
theorem dX11_first_69 : decode cX11_first 69 = .ok (.invokevirtual 147, 3) := by decide +kernel
theorem dX11_first_72 : decode cX11_first 72 = .ok (.aload_n 0, 1) := by decide +kernel
theorem dX11_first_73 : decode cX11_first 73 = .ok (.iload_n 1, 1) := by decide +kernel
theorem dX11_first_74 : decode cX11_first 74 = .ok (.iload 8, 2) := by decide +kernel
theorem dX11_first_76 : decode cX11_first 76 = .ok (.invokevirtual 133, 3) := by decide +kernel
theorem dX11_first_79 : decode cX11_first 79 = .ok (.iadd, 1) := by decide +kernel
theorem dX11_first_80 : decode cX11_first 80 = .ok (.aload_n 0, 1) := by decide +kernel
theorem dX11_first_81 : decode cX11_first 81 = .ok (.getfield 35, 3) := by decide +kernel
theorem dX11_first_84 : decode cX11_first 84 = .ok (.iload_n 1, 1) := by decide +kernel
theorem dX11_first_85 : decode cX11_first 85 = .ok (.iconst 1, 1) := by decide +kernel
theorem dX11_first_86 : decode cX11_first 86 = .ok (.iadd, 1) := by decide +kernel
theorem dX11_first_87 : decode cX11_first 87 = .ok (.iload 6, 2) := by decide +kernel
theorem dX11_first_89 : decode cX11_first 89 = .ok (.iload 8, 2) := by decide +kernel
theorem dX11_first_91 : decode cX11_first 91 = .ok (.iconst 1, 1) := by decide +kernel
theorem dX11_first_92 : decode cX11_first 92 = .ok (.iadd, 1) := by decide +kernel
theorem dX11_first_93 : decode cX11_first 93 = .ok (.iload 9, 2) := by decide +kernel
theorem dX11_first_95 : decode cX11_first 95 = .ok (.invokestatic 123, 3) := by decide +kernel
theorem dX11_first_98 : decode cX11_first 98 = .ok (.iaload, 1) := by decide +kernel
theorem dX11_first_99 : decode cX11_first 99 = .ok (.iadd, 1) := by decide +kernel
theorem dX11_first_100 : decode cX11_first 100 = .ok (.aload_n 0, 1) := by decide +kernel
theorem dX11_first_101 : decode cX11_first 101 = .ok (.getfield 35, 3) := by decide +kernel
theorem dX11_first_104 : decode cX11_first 104 = .ok (.iload 6, 2) := by decide +kernel
theorem dX11_first_106 : decode cX11_first 106 = .ok (.iload_n 2, 1) := by decide +kernel
theorem dX11_first_107 : decode cX11_first 107 = .ok (.iload 9, 2) := by decide +kernel
theorem dX11_first_109 : decode cX11_first 109 = .ok (.iload 4, 2) := by decide +kernel
theorem dX11_first_111 : decode cX11_first 111 = .ok (.invokestatic 123, 3) := by decide +kernel
theorem dX11_first_114 : decode cX11_first 114 = .ok (.iaload, 1) := by decide +kernel
theorem dX11_first_115 : decode cX11_first 115 = .ok (.iadd, 1) := by decide +kernel
theorem dX11_first_116 : decode cX11_first 116 = .ok (.iload 5, 2) := by decide +kernel
theorem dX11_first_118 : decode cX11_first 118 = .ok (.if_icmp .ne 7, 3) := by decide +kernel
theorem dX11_first_121 : decode cX11_first 121 = .ok (.iconst 1, 1) := by decide +kernel
theorem dX11_first_122 : decode cX11_first 122 = .ok (.goto 4, 3) := by decide +kernel
theorem dX11_first_125 : decode cX11_first 125 = .ok (.iconst 0, 1) := by decide +kernel
theorem dX11_first_126 : decode cX11_first 126 = .ok (.istore 10, 2) := by decide +kernel
theorem dX11_first_128 : decode cX11_first 128 = .ok (.iload 10, 2) := by decide +kernel
theorem dX11_first_130 : decode cX11_first 130 = .ok (.ifCond .eq 8, 3) := by decide +kernel
theorem dX11_first_133 : decode cX11_first 133 = .ok (.iload 8, 2) := by decide +kernel
theorem dX11_first_135 : decode cX11_first 135 = .ok (.goto 5, 3) := by decide +kernel
theorem dX11_first_138 : decode cX11_first 138 = .ok (.iload 7, 2) := by decide +kernel
theorem dX11_first_140 : decode cX11_first 140 = .ok (.istore 7, 2) := by decide +kernel
theorem dX11_first_142 : decode cX11_first 142 = .ok (.iinc 8 (-1), 3) := by decide +kernel
theorem dX11_first_145 : decode cX11_first 145 = .ok (.goto (-111), 3) := by decide +kernel
theorem dX11_first_148 : decode cX11_first 148 = .ok (.iload 7, 2) := by decide +kernel
theorem dX11_first_150 : decode cX11_first 150 = .ok (.ireturn, 1) := by decide +kernel
theorem lk_X11_first_f35 : Cond.fieldLink RX11 35 "TreeComparerModel" "least" "[I" ∈ wsX11_first := by decide +kernel
theorem hi_X11_first_11 : ∀ w ∈ u_ws RX11 TX11 24, w ∈ wsX11_first := by decide +kernel
theorem lk_X11_first_f22 : Cond.fieldLink RX11 22 "TreeComparerModel" "size" "[I" ∈ wsX11_first := by decide +kernel
def wpj_X11_first_140 (p0 : Int) (p1 : Int) (p2 : Int) (p3 : Int) (x5 : Int) (x6 : Int) (x8 : Int) (s0 : Int) (M : Mem) (J34 : Int → Int → Int → Int → Mem → Prop) (Q : Int → Mem → Prop) : Prop := J34 x5 x6 s0 (x8 + (-1)) M
def wpj_X11_first_126 (p0 : Int) (p1 : Int) (p2 : Int) (p3 : Int) (x5 : Int) (x6 : Int) (x7 : Int) (x8 : Int) (s0 : Int) (M : Mem) (J34 : Int → Int → Int → Int → Mem → Prop) (Q : Int → Mem → Prop) : Prop := inR s0 ∧ ((s0 = 0 → wpj_X11_first_140 p0 p1 p2 p3 x5 x6 x8 x7 M J34 Q) ∧ (¬ (s0 = 0) → wpj_X11_first_140 p0 p1 p2 p3 x5 x6 x8 x8 M J34 Q))
def wpj_X11_first_125 (p0 : Int) (p1 : Int) (p2 : Int) (p3 : Int) (x5 : Int) (x6 : Int) (x7 : Int) (x8 : Int) (M : Mem) (J34 : Int → Int → Int → Int → Mem → Prop) (Q : Int → Mem → Prop) : Prop := wpj_X11_first_126 p0 p1 p2 p3 x5 x6 x7 x8 0 M J34 Q
def wph_X11_first_34 (p0 : Int) (p1 : Int) (p2 : Int) (p3 : Int) (x5 : Int) (x6 : Int) (x7 : Int) (x8 : Int) (M : Mem) (J34 : Int → Int → Int → Int → Mem → Prop) (Q : Int → Mem → Prop) : Prop := inR x8 ∧ inR p2 ∧ ((x8 < p2 → Q x7 M) ∧ (¬ (x8 < p2) → ((0 : Int) ≤ 12 + x8 ∧ 12 + x8 < 24) ∧ (∀ y12 : Int, y12 = x8 + (M 13 4 (12 + x8).toNat) → wp_X11_alike M p0 x8 (fun y13 M14 => inR y13 ∧ ((y13 = 0 → wpj_X11_first_125 p0 p1 p2 p3 x5 x6 x7 x8 M14 J34 Q) ∧ (¬ (y13 = 0) → wp_X11_inserting M14 p2 x8 (fun y17 M18 => wp_X11_pairing M18 p0 x8 (fun y19 M20 => wp_X11_at M20 (p0 + 1) x6 (x8 + 1) y12 (fun y21 M22 => ((0 : Int) ≤ y21 ∧ y21 < 28561) ∧ wp_X11_at M22 x6 p1 y12 p3 (fun y24 M25 => ((0 : Int) ≤ y24 ∧ y24 < 28561) ∧ inR (((y17 + y19) + (M22 13 8 y21.toNat)) + (M25 13 8 y24.toNat)) ∧ inR x5 ∧ ((((y17 + y19) + (M22 13 8 y21.toNat)) + (M25 13 8 y24.toNat) ≠ x5 → wpj_X11_first_125 p0 p1 p2 p3 x5 x6 x7 x8 M25 J34 Q) ∧ (¬ (((y17 + y19) + (M22 13 8 y21.toNat)) + (M25 13 8 y24.toNat) ≠ x5) → wpj_X11_first_126 p0 p1 p2 p3 x5 x6 x7 x8 1 M25 J34 Q))))))))))))
def wpe_X11_first (p0 : Int) (p1 : Int) (p2 : Int) (p3 : Int) (M : Mem) (J34 : Int → Int → Int → Int → Mem → Prop) (Q : Int → Mem → Prop) : Prop := wp_X11_at M p0 p1 p2 p3 (fun y1 M2 => ((0 : Int) ≤ y1 ∧ y1 < 28561) ∧ (∀ y4 : Int, y4 = (M2 13 8 y1.toNat) → ((0 : Int) ≤ p0 ∧ p0 < 24) ∧ (∀ y6 : Int, y6 = p0 + (M2 13 4 p0.toNat) → (∀ y7 : Int, y7 = p3 - 1 → J34 y4 y6 (-1) y7 M2))))
def wp_X11_first (M : Mem) (p0 : Int) (p1 : Int) (p2 : Int) (p3 : Int) (Q : Int → Mem → Prop) : Prop := ∃ (I34 : Nat → Int → Int → Int → Int → Mem → Prop), wpe_X11_first p0 p1 p2 p3 M (fun (x5 : Int) (x6 : Int) (x7 : Int) (x8 : Int) (M1 : Mem) => ∃ n1 : Nat, I34 n1 x5 x6 x7 x8 M1) Q ∧ (∀ (n : Nat) (x5 : Int) (x6 : Int) (x7 : Int) (x8 : Int) (M : Mem), I34 n x5 x6 x7 x8 M → wph_X11_first_34 p0 p1 p2 p3 x5 x6 x7 x8 M (fun (x5 : Int) (x6 : Int) (x7 : Int) (x8 : Int) (M1 : Mem) => ∃ n1 : Nat, n1 < n ∧ I34 n1 x5 x6 x7 x8 M1) Q)
set_option maxHeartbeats 4000000 in
set_option maxRecDepth 100000 in
theorem wkj_X11_first_140 {p : Program} {l : Launch} {e : Env} {s : State} {m : MethodId} {args : Array Value} {below : List Frame} {meth : Method} {c : Code} {D : va_G} {g : GT} {A : Nat → Prop} {a : Nat → Nat} {b : Nat → Nat → Nat} (X : vC p s m args meth c D g A RX11 wsX11_first cX11_first 11) (hr : meth.sig.returnType = (some .int)) {p0 : Int} {p1 : Int} {p2 : Int} {p3 : Int} {x5 : Int} {x6 : Int} {x8 : Int} {s0 : Int} {M : Mem} {J34 : Int → Int → Int → Int → Mem → Prop} {Q : Int → Mem → Prop} (hJ34 : ∀ (x5 : Int) (x6 : Int) (x7 : Int) (x8 : Int) (M : Mem), J34 x5 x6 x7 x8 M → vV p l e ({ frames := 2, cells := 0, slots := 0, locals := 47 } : Room) s m args below meth c D g A a b 11 0 0 (MQ below (cQi D g A a b Q) args s 0 0 A) M [(0, .ref (a 13)), (1, iv p0), (2, iv p1), (3, iv p2), (4, iv p3), (5, iv x5), (6, iv x6), (7, iv x7), (8, iv x8)] 34 []) (hw : wpj_X11_first_140 p0 p1 p2 p3 x5 x6 x8 s0 M J34 Q) : vV p l e ({ frames := 2, cells := 0, slots := 0, locals := 47 } : Room) s m args below meth c D g A a b 11 0 0 (MQ below (cQi D g A a b Q) args s 0 0 A) M [(0, .ref (a 13)), (1, iv p0), (2, iv p1), (3, iv p2), (4, iv p3), (5, iv x5), (6, iv x6), (8, iv x8)] 140 [iv s0] := by
  unfold wpj_X11_first_140 at hw
  refine V_istore (lv1 := [(0, .ref (a 13)), (1, iv p0), (2, iv p1), (3, iv p2), (4, iv p3), (5, iv x5), (6, iv x6), (7, iv s0), (8, iv x8)]) X [1, 2, 3, 4, 5, 6, 7, 0, 8] dX11_first_140 (by decide) rfl ?_
  refine V_iinc (lv1 := [(0, .ref (a 13)), (1, iv p0), (2, iv p1), (3, iv p2), (4, iv p3), (5, iv x5), (6, iv x6), (7, iv s0), (8, iv (x8 + (-1)))]) X [1, 2, 3, 4, 5, 6, 7, 8, 0] dX11_first_142 (q := 8) rfl (by decide) rfl ?_
  refine V_goto (tgt := 34) X dX11_first_145 (by decide) ?_
  exact hJ34 _ _ _ _ _ hw
set_option maxHeartbeats 4000000 in
set_option maxRecDepth 100000 in
theorem wkj_X11_first_126 {p : Program} {l : Launch} {e : Env} {s : State} {m : MethodId} {args : Array Value} {below : List Frame} {meth : Method} {c : Code} {D : va_G} {g : GT} {A : Nat → Prop} {a : Nat → Nat} {b : Nat → Nat → Nat} (X : vC p s m args meth c D g A RX11 wsX11_first cX11_first 11) (hr : meth.sig.returnType = (some .int)) {p0 : Int} {p1 : Int} {p2 : Int} {p3 : Int} {x5 : Int} {x6 : Int} {x7 : Int} {x8 : Int} {s0 : Int} {M : Mem} {J34 : Int → Int → Int → Int → Mem → Prop} {Q : Int → Mem → Prop} (hJ34 : ∀ (x5 : Int) (x6 : Int) (x7 : Int) (x8 : Int) (M : Mem), J34 x5 x6 x7 x8 M → vV p l e ({ frames := 2, cells := 0, slots := 0, locals := 47 } : Room) s m args below meth c D g A a b 11 0 0 (MQ below (cQi D g A a b Q) args s 0 0 A) M [(0, .ref (a 13)), (1, iv p0), (2, iv p1), (3, iv p2), (4, iv p3), (5, iv x5), (6, iv x6), (7, iv x7), (8, iv x8)] 34 []) (hw : wpj_X11_first_126 p0 p1 p2 p3 x5 x6 x7 x8 s0 M J34 Q) : vV p l e ({ frames := 2, cells := 0, slots := 0, locals := 47 } : Room) s m args below meth c D g A a b 11 0 0 (MQ below (cQi D g A a b Q) args s 0 0 A) M [(0, .ref (a 13)), (1, iv p0), (2, iv p1), (3, iv p2), (4, iv p3), (5, iv x5), (6, iv x6), (7, iv x7), (8, iv x8)] 126 [iv s0] := by
  unfold wpj_X11_first_126 at hw
  refine V_istore (lv1 := [(0, .ref (a 13)), (1, iv p0), (2, iv p1), (3, iv p2), (4, iv p3), (5, iv x5), (6, iv x6), (7, iv x7), (8, iv x8), (10, iv s0)]) X [1, 2, 3, 4, 5, 6, 7, 8, 9, 0] dX11_first_126 (by decide) rfl ?_
  refine V_iload X dX11_first_128 (q := 9) rfl ?_
  obtain ⟨h30, hw⟩ := hw
  refine V_if_eq (tgt := 138) X h30 dX11_first_130 (by decide) (fun q31 => ?_) (fun q31 => ?_)
  · have hw := hw.1 q31
    refine V_iload X dX11_first_138 (q := 7) rfl ?_
    refine V_sub (lv1 := [(0, .ref (a 13)), (1, iv p0), (2, iv p1), (3, iv p2), (4, iv p3), (5, iv x5), (6, iv x6), (8, iv x8)]) [0, 1, 2, 3, 4, 5, 6, 8] rfl ?_
    exact wkj_X11_first_140 X hr hJ34 hw
  · have hw := hw.2 q31
    refine V_iload X dX11_first_133 (q := 8) rfl ?_
    refine V_goto (tgt := 140) X dX11_first_135 (by decide) ?_
    refine V_sub (lv1 := [(0, .ref (a 13)), (1, iv p0), (2, iv p1), (3, iv p2), (4, iv p3), (5, iv x5), (6, iv x6), (8, iv x8)]) [0, 1, 2, 3, 4, 5, 6, 8] rfl ?_
    exact wkj_X11_first_140 X hr hJ34 hw
set_option maxHeartbeats 4000000 in
set_option maxRecDepth 100000 in
theorem wkj_X11_first_125 {p : Program} {l : Launch} {e : Env} {s : State} {m : MethodId} {args : Array Value} {below : List Frame} {meth : Method} {c : Code} {D : va_G} {g : GT} {A : Nat → Prop} {a : Nat → Nat} {b : Nat → Nat → Nat} (X : vC p s m args meth c D g A RX11 wsX11_first cX11_first 11) (hr : meth.sig.returnType = (some .int)) {p0 : Int} {p1 : Int} {p2 : Int} {p3 : Int} {x5 : Int} {x6 : Int} {x7 : Int} {x8 : Int} {M : Mem} {J34 : Int → Int → Int → Int → Mem → Prop} {Q : Int → Mem → Prop} (hJ34 : ∀ (x5 : Int) (x6 : Int) (x7 : Int) (x8 : Int) (M : Mem), J34 x5 x6 x7 x8 M → vV p l e ({ frames := 2, cells := 0, slots := 0, locals := 47 } : Room) s m args below meth c D g A a b 11 0 0 (MQ below (cQi D g A a b Q) args s 0 0 A) M [(0, .ref (a 13)), (1, iv p0), (2, iv p1), (3, iv p2), (4, iv p3), (5, iv x5), (6, iv x6), (7, iv x7), (8, iv x8)] 34 []) (hw : wpj_X11_first_125 p0 p1 p2 p3 x5 x6 x7 x8 M J34 Q) : vV p l e ({ frames := 2, cells := 0, slots := 0, locals := 47 } : Room) s m args below meth c D g A a b 11 0 0 (MQ below (cQi D g A a b Q) args s 0 0 A) M [(0, .ref (a 13)), (1, iv p0), (2, iv p1), (3, iv p2), (4, iv p3), (5, iv x5), (6, iv x6), (7, iv x7), (8, iv x8)] 125 [] := by
  unfold wpj_X11_first_125 at hw
  refine V_iconst X dX11_first_125 ?_
  exact wkj_X11_first_126 X hr hJ34 hw
set_option maxHeartbeats 4000000 in
set_option maxRecDepth 100000 in
theorem wkh_X11_first_34 {p : Program} {l : Launch} {e : Env} {s : State} {m : MethodId} {args : Array Value} {below : List Frame} {meth : Method} {c : Code} {D : va_G} {g : GT} {A : Nat → Prop} {a : Nat → Nat} {b : Nat → Nat → Nat} (X : vC p s m args meth c D g A RX11 wsX11_first cX11_first 11) (hr : meth.sig.returnType = (some .int)) {p0 : Int} {p1 : Int} {p2 : Int} {p3 : Int} {x5 : Int} {x6 : Int} {x7 : Int} {x8 : Int} {M : Mem} {J34 : Int → Int → Int → Int → Mem → Prop} {Q : Int → Mem → Prop} (hJ34 : ∀ (x5 : Int) (x6 : Int) (x7 : Int) (x8 : Int) (M : Mem), J34 x5 x6 x7 x8 M → vV p l e ({ frames := 2, cells := 0, slots := 0, locals := 47 } : Room) s m args below meth c D g A a b 11 0 0 (MQ below (cQi D g A a b Q) args s 0 0 A) M [(0, .ref (a 13)), (1, iv p0), (2, iv p1), (3, iv p2), (4, iv p3), (5, iv x5), (6, iv x6), (7, iv x7), (8, iv x8)] 34 []) (hw : wph_X11_first_34 p0 p1 p2 p3 x5 x6 x7 x8 M J34 Q) : vV p l e ({ frames := 2, cells := 0, slots := 0, locals := 47 } : Room) s m args below meth c D g A a b 11 0 0 (MQ below (cQi D g A a b Q) args s 0 0 A) M [(0, .ref (a 13)), (1, iv p0), (2, iv p1), (3, iv p2), (4, iv p3), (5, iv x5), (6, iv x6), (7, iv x7), (8, iv x8)] 34 [] := by
  unfold wph_X11_first_34 at hw
  refine V_iload X dX11_first_34 (q := 8) rfl ?_
  refine V_iload_n X dX11_first_36 rfl (q := 3) rfl ?_
  obtain ⟨h8, h9, hw⟩ := hw
  refine V_icmp_lt (tgt := 148) X h8 h9 dX11_first_37 (by decide) (fun q10 => ?_) (fun q10 => ?_)
  · have hw := hw.1 q10
    refine V_iload X dX11_first_148 (q := 7) rfl ?_
    exact V_iret X hr hw dX11_first_150
  · have hw := hw.2 q10
    refine V_iload X dX11_first_40 (q := 8) rfl ?_
    refine V_aload_n X dX11_first_42 rfl (q := 0) rfl ?_
    refine V_get (C := RX11) (T := TX11) (N := 24) (ci := 11) X hi_X11_first_11 gO_13 rfl 4 (by decide) lk_X11_first_f22 (fun _ h9 => h9) rfl dX11_first_43 ?_
    refine V_bipush X dX11_first_46 rfl ?_
    refine V_iload X dX11_first_48 (q := 8) rfl ?_
    refine V_iadd X dX11_first_50 ?_
    obtain ⟨h11, hw⟩ := hw
    refine V_iald X (gA_13_4) h11 (by decide) dX11_first_51 ?_
    refine V_iadd X dX11_first_52 ?_
    refine V_top (fun y12 ey12 => ?_)
    have hw := hw y12 ey12
    refine V_istore (lv1 := [(0, .ref (a 13)), (1, iv p0), (2, iv p1), (3, iv p2), (4, iv p3), (5, iv x5), (6, iv x6), (7, iv x7), (8, iv x8), (9, iv y12)]) X [1, 2, 3, 4, 5, 6, 7, 8, 9, 0] dX11_first_53 (by decide) rfl ?_
    refine V_aload_n X dX11_first_55 rfl (q := 0) rfl ?_
    refine V_iload_n X dX11_first_56 rfl (q := 1) rfl ?_
    refine V_iload X dX11_first_57 (q := 8) rfl ?_
    refine V_callV_i X _ gO_13 rfl (As := [iv p0, iv x8]) (st := []) (c_X11_alike l hw) (cwV 2 X.2.2.2.1 gX11_first_X11_alike rfl rfl rfl (by decide +kernel) ⟨Nat.le_of_ble_eq_true rfl, Nat.le_of_ble_eq_true rfl⟩) rfl (Nat.le_of_ble_eq_true rfl) ⟨Nat.le_of_ble_eq_true rfl, Nat.le_of_ble_eq_true rfl⟩ rfl dX11_first_59 (fun y13 M14 hw => ?_)
    obtain ⟨h15, hw⟩ := hw
    refine V_if_eq (tgt := 125) X h15 dX11_first_62 (by decide) (fun q16 => ?_) (fun q16 => ?_)
    · have hw := hw.1 q16
      refine V_sub (lv1 := [(0, .ref (a 13)), (1, iv p0), (2, iv p1), (3, iv p2), (4, iv p3), (5, iv x5), (6, iv x6), (7, iv x7), (8, iv x8)]) [0, 1, 2, 3, 4, 5, 6, 7, 8] rfl ?_
      exact wkj_X11_first_125 X hr hJ34 hw
    · have hw := hw.2 q16
      refine V_aload_n X dX11_first_65 rfl (q := 0) rfl ?_
      refine V_iload_n X dX11_first_66 rfl (q := 3) rfl ?_
      refine V_iload X dX11_first_67 (q := 8) rfl ?_
      refine V_callV_i X _ gO_13 rfl (As := [iv p2, iv x8]) (st := []) (c_X11_inserting l hw) (cwV 2 X.2.2.2.1 gX11_first_X11_inserting rfl rfl rfl (by decide +kernel) ⟨Nat.le_of_ble_eq_true rfl, Nat.le_of_ble_eq_true rfl⟩) rfl (Nat.le_of_ble_eq_true rfl) ⟨Nat.le_of_ble_eq_true rfl, Nat.le_of_ble_eq_true rfl⟩ rfl dX11_first_69 (fun y17 M18 hw => ?_)
      refine V_aload_n X dX11_first_72 rfl (q := 0) rfl ?_
      refine V_iload_n X dX11_first_73 rfl (q := 1) rfl ?_
      refine V_iload X dX11_first_74 (q := 8) rfl ?_
      refine V_callV_i X _ gO_13 rfl (As := [iv p0, iv x8]) (st := [iv y17]) (c_X11_pairing l hw) (cwV 2 X.2.2.2.1 gX11_first_X11_pairing rfl rfl rfl (by decide +kernel) ⟨Nat.le_of_ble_eq_true rfl, Nat.le_of_ble_eq_true rfl⟩) rfl (Nat.le_of_ble_eq_true rfl) ⟨Nat.le_of_ble_eq_true rfl, Nat.le_of_ble_eq_true rfl⟩ rfl dX11_first_76 (fun y19 M20 hw => ?_)
      refine V_iadd X dX11_first_79 ?_
      refine V_aload_n X dX11_first_80 rfl (q := 0) rfl ?_
      refine V_get (C := RX11) (T := TX11) (N := 24) (ci := 11) X hi_X11_first_11 gO_13 rfl 8 (by decide) lk_X11_first_f35 (fun _ h9 => h9) rfl dX11_first_81 ?_
      refine V_iload_n X dX11_first_84 rfl (q := 1) rfl ?_
      refine V_iconst X dX11_first_85 ?_
      refine V_iadd X dX11_first_86 ?_
      refine V_iload X dX11_first_87 (q := 6) rfl ?_
      refine V_iload X dX11_first_89 (q := 8) rfl ?_
      refine V_iconst X dX11_first_91 ?_
      refine V_iadd X dX11_first_92 ?_
      refine V_iload X dX11_first_93 (q := 9) rfl ?_
      refine V_callS_i X _ (As := [iv (p0 + 1), iv x6, iv (x8 + 1), iv y12]) (st := [.ref (b 13 8), iv (y17 + y19)]) (c_X11_at l hw) (va_cwS 4 X.2.2.2.1 gX11_first_X11_at rfl rfl rfl (by decide +kernel) ⟨Nat.le_of_ble_eq_true rfl, Nat.le_of_ble_eq_true rfl⟩) rfl (Nat.le_of_ble_eq_true rfl) ⟨Nat.le_of_ble_eq_true rfl, Nat.le_of_ble_eq_true rfl⟩ rfl dX11_first_95 (fun y21 M22 hw => ?_)
      obtain ⟨h23, hw⟩ := hw
      refine V_iald X (gA_13_8) h23 (by decide) dX11_first_98 ?_
      refine V_iadd X dX11_first_99 ?_
      refine V_aload_n X dX11_first_100 rfl (q := 0) rfl ?_
      refine V_get (C := RX11) (T := TX11) (N := 24) (ci := 11) X hi_X11_first_11 gO_13 rfl 8 (by decide) lk_X11_first_f35 (fun _ h9 => h9) rfl dX11_first_101 ?_
      refine V_iload X dX11_first_104 (q := 6) rfl ?_
      refine V_iload_n X dX11_first_106 rfl (q := 2) rfl ?_
      refine V_iload X dX11_first_107 (q := 9) rfl ?_
      refine V_iload X dX11_first_109 (q := 4) rfl ?_
      refine V_callS_i X _ (As := [iv x6, iv p1, iv y12, iv p3]) (st := [.ref (b 13 8), iv ((y17 + y19) + (M22 13 8 y21.toNat))]) (c_X11_at l hw) (va_cwS 4 X.2.2.2.1 gX11_first_X11_at rfl rfl rfl (by decide +kernel) ⟨Nat.le_of_ble_eq_true rfl, Nat.le_of_ble_eq_true rfl⟩) rfl (Nat.le_of_ble_eq_true rfl) ⟨Nat.le_of_ble_eq_true rfl, Nat.le_of_ble_eq_true rfl⟩ rfl dX11_first_111 (fun y24 M25 hw => ?_)
      obtain ⟨h26, hw⟩ := hw
      refine V_iald X (gA_13_8) h26 (by decide) dX11_first_114 ?_
      refine V_iadd X dX11_first_115 ?_
      refine V_iload X dX11_first_116 (q := 5) rfl ?_
      obtain ⟨h27, h28, hw⟩ := hw
      refine V_icmp_ne (tgt := 125) X h27 h28 dX11_first_118 (by decide) (fun q29 => ?_) (fun q29 => ?_)
      · have hw := hw.1 q29
        refine V_sub (lv1 := [(0, .ref (a 13)), (1, iv p0), (2, iv p1), (3, iv p2), (4, iv p3), (5, iv x5), (6, iv x6), (7, iv x7), (8, iv x8)]) [0, 1, 2, 3, 4, 5, 6, 7, 8] rfl ?_
        exact wkj_X11_first_125 X hr hJ34 hw
      · have hw := hw.2 q29
        refine V_iconst X dX11_first_121 ?_
        refine V_goto (tgt := 126) X dX11_first_122 (by decide) ?_
        refine V_sub (lv1 := [(0, .ref (a 13)), (1, iv p0), (2, iv p1), (3, iv p2), (4, iv p3), (5, iv x5), (6, iv x6), (7, iv x7), (8, iv x8)]) [0, 1, 2, 3, 4, 5, 6, 7, 8] rfl ?_
        exact wkj_X11_first_126 X hr hJ34 hw
set_option maxHeartbeats 4000000 in
set_option maxRecDepth 100000 in
theorem wke_X11_first {p : Program} {l : Launch} {e : Env} {s : State} {m : MethodId} {args : Array Value} {below : List Frame} {meth : Method} {c : Code} {D : va_G} {g : GT} {A : Nat → Prop} {a : Nat → Nat} {b : Nat → Nat → Nat} (X : vC p s m args meth c D g A RX11 wsX11_first cX11_first 11) (hr : meth.sig.returnType = (some .int)) {p0 : Int} {p1 : Int} {p2 : Int} {p3 : Int} {M : Mem} {J34 : Int → Int → Int → Int → Mem → Prop} {Q : Int → Mem → Prop} (hJ34 : ∀ (x5 : Int) (x6 : Int) (x7 : Int) (x8 : Int) (M : Mem), J34 x5 x6 x7 x8 M → vV p l e ({ frames := 2, cells := 0, slots := 0, locals := 47 } : Room) s m args below meth c D g A a b 11 0 0 (MQ below (cQi D g A a b Q) args s 0 0 A) M [(0, .ref (a 13)), (1, iv p0), (2, iv p1), (3, iv p2), (4, iv p3), (5, iv x5), (6, iv x6), (7, iv x7), (8, iv x8)] 34 []) (hw : wpe_X11_first p0 p1 p2 p3 M J34 Q) : vV p l e ({ frames := 2, cells := 0, slots := 0, locals := 47 } : Room) s m args below meth c D g A a b 11 0 0 (MQ below (cQi D g A a b Q) args s 0 0 A) M [(0, .ref (a 13)), (1, iv p0), (2, iv p1), (3, iv p2), (4, iv p3)] 0 [] := by
  unfold wpe_X11_first at hw
  refine V_aload_n X dX11_first_0 rfl (q := 0) rfl ?_
  refine V_get (C := RX11) (T := TX11) (N := 24) (ci := 11) X hi_X11_first_11 gO_13 rfl 8 (by decide) lk_X11_first_f35 (fun _ h9 => h9) rfl dX11_first_1 ?_
  refine V_iload_n X dX11_first_4 rfl (q := 1) rfl ?_
  refine V_iload_n X dX11_first_5 rfl (q := 2) rfl ?_
  refine V_iload_n X dX11_first_6 rfl (q := 3) rfl ?_
  refine V_iload X dX11_first_7 (q := 4) rfl ?_
  refine V_callS_i X _ (As := [iv p0, iv p1, iv p2, iv p3]) (st := [.ref (b 13 8)]) (c_X11_at l hw) (va_cwS 4 X.2.2.2.1 gX11_first_X11_at rfl rfl rfl (by decide +kernel) ⟨Nat.le_of_ble_eq_true rfl, Nat.le_of_ble_eq_true rfl⟩) rfl (Nat.le_of_ble_eq_true rfl) ⟨Nat.le_of_ble_eq_true rfl, Nat.le_of_ble_eq_true rfl⟩ rfl dX11_first_9 (fun y1 M2 hw => ?_)
  obtain ⟨h3, hw⟩ := hw
  refine V_iald X (gA_13_8) h3 (by decide) dX11_first_12 ?_
  refine V_top (fun y4 ey4 => ?_)
  have hw := hw y4 ey4
  refine V_istore (lv1 := [(0, .ref (a 13)), (1, iv p0), (2, iv p1), (3, iv p2), (4, iv p3), (5, iv y4)]) X [1, 2, 3, 4, 5, 0] dX11_first_13 (by decide) rfl ?_
  refine V_iload_n X dX11_first_15 rfl (q := 1) rfl ?_
  refine V_aload_n X dX11_first_16 rfl (q := 0) rfl ?_
  refine V_get (C := RX11) (T := TX11) (N := 24) (ci := 11) X hi_X11_first_11 gO_13 rfl 4 (by decide) lk_X11_first_f22 (fun _ h9 => h9) rfl dX11_first_17 ?_
  refine V_iload_n X dX11_first_20 rfl (q := 1) rfl ?_
  obtain ⟨h5, hw⟩ := hw
  refine V_iald X (gA_13_4) h5 (by decide) dX11_first_21 ?_
  refine V_iadd X dX11_first_22 ?_
  refine V_top (fun y6 ey6 => ?_)
  have hw := hw y6 ey6
  refine V_istore (lv1 := [(0, .ref (a 13)), (1, iv p0), (2, iv p1), (3, iv p2), (4, iv p3), (5, iv y4), (6, iv y6)]) X [1, 2, 3, 4, 5, 6, 0] dX11_first_23 (by decide) rfl ?_
  refine V_iconst X dX11_first_25 ?_
  refine V_istore (lv1 := [(0, .ref (a 13)), (1, iv p0), (2, iv p1), (3, iv p2), (4, iv p3), (5, iv y4), (6, iv y6), (7, iv (-1))]) X [1, 2, 3, 4, 5, 6, 7, 0] dX11_first_26 (by decide) rfl ?_
  refine V_iload X dX11_first_28 (q := 4) rfl ?_
  refine V_iconst X dX11_first_30 ?_
  refine V_isub X dX11_first_31 ?_
  refine V_top (fun y7 ey7 => ?_)
  have hw := hw y7 ey7
  refine V_istore (lv1 := [(0, .ref (a 13)), (1, iv p0), (2, iv p1), (3, iv p2), (4, iv p3), (5, iv y4), (6, iv y6), (7, iv (-1)), (8, iv y7)]) X [1, 2, 3, 4, 5, 6, 7, 8, 0] dX11_first_32 (by decide) rfl ?_
  exact hJ34 _ _ _ _ _ hw
set_option maxHeartbeats 4000000 in
set_option maxRecDepth 100000 in
theorem c_X11_first (l : Launch) {p0 : Int} {p1 : Int} {p2 : Int} {p3 : Int} {D : va_G} {g : GT} {A : Nat → Prop} {a : Nat → Nat} {b : Nat → Nat → Nat} {M : Mem} {Q : Int → Mem → Prop} (hw : wp_X11_first M p0 p1 p2 p3 Q) : Met l yX11_first wsX11_first ({ frames := 2, cells := 0, slots := 0, locals := 47 } : Room) (cPc D g A a b M [.ref (a 13), iv p0, iv p1, iv p2, iv p3]) (cQi D g A a b Q) 0 0 A := by
  refine Met.ofW (cc := cX11_first) (maxL := 11) (ret := (some .int)) (by decide) rfl ?_
  intro p e s m args below meth c s₁ B hml hv
  obtain ⟨rfl, hP, hD, hG⟩ := hv
  have X : vC p s m _ meth c D g A RX11 wsX11_first cX11_first 11 := ⟨B.exec, B.bytes, findClass_of_methodNamed B.named, atoms_spec (ws := wsX11_first) B.pre, hG, hml, B.notSynchronized⟩
  have hr := B.returns
  have hl := lv_entry ([.ref (a 13), iv p0, iv p1, iv p2, iv p3]) (n := 11) (Nat.le_of_ble_eq_true rfl)
  rw [lg_entry_eq]
  generalize (lg_sl ([.ref (a 13), iv p0, iv p1, iv p2, iv p3]) ++ List.replicate (11 - (lg_sl ([.ref (a 13), iv p0, iv p1, iv p2, iv p3])).length) Slot.unset).toArray = ls at hl ⊢
  have hl : lv_has ls 11 [(0, .ref (a 13)), (1, iv p0), (2, iv p1), (3, iv p2), (4, iv p3)] := hl
  obtain ⟨I34, hw, hI34⟩ := hw
  have K : ∀ n : Nat, (∀ (x5 : Int) (x6 : Int) (x7 : Int) (x8 : Int) (M : Mem), I34 n x5 x6 x7 x8 M → vV p l e ({ frames := 2, cells := 0, slots := 0, locals := 47 } : Room) s m ([.ref (a 13), iv p0, iv p1, iv p2, iv p3] : List Value).toArray below meth c D g A a b 11 0 0 (MQ below (cQi D g A a b Q) ([.ref (a 13), iv p0, iv p1, iv p2, iv p3] : List Value).toArray s 0 0 A) M [(0, .ref (a 13)), (1, iv p0), (2, iv p1), (3, iv p2), (4, iv p3), (5, iv x5), (6, iv x6), (7, iv x7), (8, iv x8)] 34 []) := by
    intro n
    induction n using Nat.strongRecOn with
    | ind n ih =>
      exact fun x5 x6 x7 x8 M hh => wkh_X11_first_34 X hr (fun _ _ _ _ _ ⟨n1, hn, hh⟩ => (ih n1 hn) _ _ _ _ _ hh) (hI34 n x5 x6 x7 x8 M hh)
  exact wke_X11_first X hr  (fun _ _ _ _ _ ⟨n1, hh⟩ => (K n1) _ _ _ _ _ hh) hw s.heap [] ls hP hD va_S.rf hl

theorem dX11_job_0 : decode cX11_job 0 = .ok (.aload_n 0, 1) := by decide +kernel
theorem dX11_job_1 : decode cX11_job 1 = .ok (.getfield 51, 3) := by decide +kernel
theorem dX11_job_4 : decode cX11_job 4 = .ok (.iconst 4, 1) := by decide +kernel
theorem dX11_job_5 : decode cX11_job 5 = .ok (.iload_n 1, 1) := by decide +kernel
theorem dX11_job_6 : decode cX11_job 6 = .ok (.imul, 1) := by decide +kernel
theorem dX11_job_7 : decode cX11_job 7 = .ok (.iload_n 2, 1) := by decide +kernel
theorem dX11_job_8 : decode cX11_job 8 = .ok (.iastore, 1) := by decide +kernel
theorem dX11_job_9 : decode cX11_job 9 = .ok (.aload_n 0, 1) := by decide +kernel
theorem dX11_job_10 : decode cX11_job 10 = .ok (.getfield 51, 3) := by decide +kernel
theorem dX11_job_13 : decode cX11_job 13 = .ok (.iconst 4, 1) := by decide +kernel
theorem dX11_job_14 : decode cX11_job 14 = .ok (.iload_n 1, 1) := by decide +kernel
theorem dX11_job_15 : decode cX11_job 15 = .ok (.imul, 1) := by decide +kernel
theorem dX11_job_16 : decode cX11_job 16 = .ok (.iconst 1, 1) := by decide +kernel
theorem dX11_job_17 : decode cX11_job 17 = .ok (.iadd, 1) := by decide +kernel
theorem dX11_job_18 : decode cX11_job 18 = .ok (.iload_n 3, 1) := by decide +kernel
theorem dX11_job_19 : decode cX11_job 19 = .ok (.iastore, 1) := by decide +kernel
theorem dX11_job_20 : decode cX11_job 20 = .ok (.aload_n 0, 1) := by decide +kernel
theorem dX11_job_21 : decode cX11_job 21 = .ok (.getfield 51, 3) := by decide +kernel
theorem dX11_job_24 : decode cX11_job 24 = .ok (.iconst 4, 1) := by decide +kernel
theorem dX11_job_25 : decode cX11_job 25 = .ok (.iload_n 1, 1) := by decide +kernel
theorem dX11_job_26 : decode cX11_job 26 = .ok (.imul, 1) := by decide +kernel
theorem dX11_job_27 : decode cX11_job 27 = .ok (.iconst 2, 1) := by decide +kernel
theorem dX11_job_28 : decode cX11_job 28 = .ok (.iadd, 1) := by decide +kernel
theorem dX11_job_29 : decode cX11_job 29 = .ok (.iload 4, 2) := by decide +kernel
theorem dX11_job_31 : decode cX11_job 31 = .ok (.iastore, 1) := by decide +kernel
theorem dX11_job_32 : decode cX11_job 32 = .ok (.aload_n 0, 1) := by decide +kernel
theorem dX11_job_33 : decode cX11_job 33 = .ok (.getfield 51, 3) := by decide +kernel
theorem dX11_job_36 : decode cX11_job 36 = .ok (.iconst 4, 1) := by decide +kernel
theorem dX11_job_37 : decode cX11_job 37 = .ok (.iload_n 1, 1) := by decide +kernel
theorem dX11_job_38 : decode cX11_job 38 = .ok (.imul, 1) := by decide +kernel
theorem dX11_job_39 : decode cX11_job 39 = .ok (.iconst 3, 1) := by decide +kernel
theorem dX11_job_40 : decode cX11_job 40 = .ok (.iadd, 1) := by decide +kernel
theorem dX11_job_41 : decode cX11_job 41 = .ok (.iload 5, 2) := by decide +kernel
theorem dX11_job_43 : decode cX11_job 43 = .ok (.iastore, 1) := by decide +kernel
theorem dX11_job_44 : decode cX11_job 44 = .ok (.return_, 1) := by decide +kernel
theorem lk_X11_job_f51 : Cond.fieldLink RX11 51 "TreeComparerModel" "jobs" "[I" ∈ wsX11_job := by decide +kernel
theorem hi_X11_job_11 : ∀ w ∈ u_ws RX11 TX11 24, w ∈ wsX11_job := by decide +kernel
def wpe_X11_job (p0 : Int) (p1 : Int) (p2 : Int) (p3 : Int) (p4 : Int) (M : Mem) (Q : Mem → Prop) : Prop := ((0 : Int) ≤ 4 * p0 ∧ 4 * p0 < 96) ∧ (∀ M1 : Mem, M1 = mset M 13 13 (4 * p0).toNat p1 → ((0 : Int) ≤ (4 * p0) + 1 ∧ (4 * p0) + 1 < 96) ∧ (∀ M3 : Mem, M3 = mset M1 13 13 ((4 * p0) + 1).toNat p2 → ((0 : Int) ≤ (4 * p0) + 2 ∧ (4 * p0) + 2 < 96) ∧ (∀ M5 : Mem, M5 = mset M3 13 13 ((4 * p0) + 2).toNat p3 → ((0 : Int) ≤ (4 * p0) + 3 ∧ (4 * p0) + 3 < 96) ∧ (∀ M7 : Mem, M7 = mset M5 13 13 ((4 * p0) + 3).toNat p4 → Q M7))))
def wp_X11_job (M : Mem) (p0 : Int) (p1 : Int) (p2 : Int) (p3 : Int) (p4 : Int) (Q : Mem → Prop) : Prop := wpe_X11_job p0 p1 p2 p3 p4 M Q
set_option maxHeartbeats 4000000 in
set_option maxRecDepth 100000 in
theorem wke_X11_job {p : Program} {l : Launch} {e : Env} {s : State} {m : MethodId} {args : Array Value} {below : List Frame} {meth : Method} {c : Code} {D : va_G} {g : GT} {A : Nat → Prop} {a : Nat → Nat} {b : Nat → Nat → Nat} (X : vC p s m args meth c D g A RX11 wsX11_job cX11_job 6) (hr : meth.sig.returnType = none) {p0 : Int} {p1 : Int} {p2 : Int} {p3 : Int} {p4 : Int} {M : Mem} {Q : Mem → Prop} (hw : wpe_X11_job p0 p1 p2 p3 p4 M Q) : vV p l e ({ frames := 0, cells := 0, slots := 0, locals := 0 } : Room) s m args below meth c D g A a b 6 0 0 (MQ below (cQv D g A a b Q) args s 0 0 A) M [(0, .ref (a 13)), (1, iv p0), (2, iv p1), (3, iv p2), (4, iv p3), (5, iv p4)] 0 [] := by
  unfold wpe_X11_job at hw
  refine V_aload_n X dX11_job_0 rfl (q := 0) rfl ?_
  refine V_get (C := RX11) (T := TX11) (N := 24) (ci := 11) X hi_X11_job_11 gO_13 rfl 13 (by decide) lk_X11_job_f51 (fun _ h9 => h9) rfl dX11_job_1 ?_
  refine V_iconst X dX11_job_4 ?_
  refine V_iload_n X dX11_job_5 rfl (q := 1) rfl ?_
  refine V_imul X dX11_job_6 ?_
  refine V_iload_n X dX11_job_7 rfl (q := 2) rfl ?_
  obtain ⟨h2, hw⟩ := hw
  refine V_iast X (gA_13_13) (sA_13_13) h2 (by decide) dX11_job_8 (fun M1 eM1 => ?_)
  have hw := hw M1 eM1
  refine V_aload_n X dX11_job_9 rfl (q := 0) rfl ?_
  refine V_get (C := RX11) (T := TX11) (N := 24) (ci := 11) X hi_X11_job_11 gO_13 rfl 13 (by decide) lk_X11_job_f51 (fun _ h9 => h9) rfl dX11_job_10 ?_
  refine V_iconst X dX11_job_13 ?_
  refine V_iload_n X dX11_job_14 rfl (q := 1) rfl ?_
  refine V_imul X dX11_job_15 ?_
  refine V_iconst X dX11_job_16 ?_
  refine V_iadd X dX11_job_17 ?_
  refine V_iload_n X dX11_job_18 rfl (q := 3) rfl ?_
  obtain ⟨h4, hw⟩ := hw
  refine V_iast X (gA_13_13) (sA_13_13) h4 (by decide) dX11_job_19 (fun M3 eM3 => ?_)
  have hw := hw M3 eM3
  refine V_aload_n X dX11_job_20 rfl (q := 0) rfl ?_
  refine V_get (C := RX11) (T := TX11) (N := 24) (ci := 11) X hi_X11_job_11 gO_13 rfl 13 (by decide) lk_X11_job_f51 (fun _ h9 => h9) rfl dX11_job_21 ?_
  refine V_iconst X dX11_job_24 ?_
  refine V_iload_n X dX11_job_25 rfl (q := 1) rfl ?_
  refine V_imul X dX11_job_26 ?_
  refine V_iconst X dX11_job_27 ?_
  refine V_iadd X dX11_job_28 ?_
  refine V_iload X dX11_job_29 (q := 4) rfl ?_
  obtain ⟨h6, hw⟩ := hw
  refine V_iast X (gA_13_13) (sA_13_13) h6 (by decide) dX11_job_31 (fun M5 eM5 => ?_)
  have hw := hw M5 eM5
  refine V_aload_n X dX11_job_32 rfl (q := 0) rfl ?_
  refine V_get (C := RX11) (T := TX11) (N := 24) (ci := 11) X hi_X11_job_11 gO_13 rfl 13 (by decide) lk_X11_job_f51 (fun _ h9 => h9) rfl dX11_job_33 ?_
  refine V_iconst X dX11_job_36 ?_
  refine V_iload_n X dX11_job_37 rfl (q := 1) rfl ?_
  refine V_imul X dX11_job_38 ?_
  refine V_iconst X dX11_job_39 ?_
  refine V_iadd X dX11_job_40 ?_
  refine V_iload X dX11_job_41 (q := 5) rfl ?_
  obtain ⟨h8, hw⟩ := hw
  refine V_iast X (gA_13_13) (sA_13_13) h8 (by decide) dX11_job_43 (fun M7 eM7 => ?_)
  have hw := hw M7 eM7
  exact V_vret X hr hw dX11_job_44
set_option maxHeartbeats 4000000 in
set_option maxRecDepth 100000 in
theorem c_X11_job (l : Launch) {p0 : Int} {p1 : Int} {p2 : Int} {p3 : Int} {p4 : Int} {D : va_G} {g : GT} {A : Nat → Prop} {a : Nat → Nat} {b : Nat → Nat → Nat} {M : Mem} {Q : Mem → Prop} (hw : wp_X11_job M p0 p1 p2 p3 p4 Q) : Met l yX11_job wsX11_job ({ frames := 0, cells := 0, slots := 0, locals := 0 } : Room) (cPc D g A a b M [.ref (a 13), iv p0, iv p1, iv p2, iv p3, iv p4]) (cQv D g A a b Q) 0 0 A := by
  refine Met.ofW (cc := cX11_job) (maxL := 6) (ret := none) (by decide) rfl ?_
  intro p e s m args below meth c s₁ B hml hv
  obtain ⟨rfl, hP, hD, hG⟩ := hv
  have X : vC p s m _ meth c D g A RX11 wsX11_job cX11_job 6 := ⟨B.exec, B.bytes, findClass_of_methodNamed B.named, atoms_spec (ws := wsX11_job) B.pre, hG, hml, B.notSynchronized⟩
  have hr := B.returns
  have hl := lv_entry ([.ref (a 13), iv p0, iv p1, iv p2, iv p3, iv p4]) (n := 6) (Nat.le_of_ble_eq_true rfl)
  rw [lg_entry_eq]
  generalize (lg_sl ([.ref (a 13), iv p0, iv p1, iv p2, iv p3, iv p4]) ++ List.replicate (6 - (lg_sl ([.ref (a 13), iv p0, iv p1, iv p2, iv p3, iv p4])).length) Slot.unset).toArray = ls at hl ⊢
  have hl : lv_has ls 6 [(0, .ref (a 13)), (1, iv p0), (2, iv p1), (3, iv p2), (4, iv p3), (5, iv p4)] := hl
  exact wke_X11_job X hr  hw s.heap [] ls hP hD va_S.rf hl
