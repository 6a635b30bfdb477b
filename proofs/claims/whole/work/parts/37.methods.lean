set_option maxRecDepth 20000 in
theorem ggX10_inPostorder_X10_treeNumbered : GoodIn wsX10_inPostorder wsX10_treeNumbered := goodIn_ca (goodIn_r _ [5, 6, 7, 8, 4, 9, 10, 11, 21, 22, 23, 24, 25, 26, 27, 28, 29, 30, 31, 32, 33, 34, 35] (by decide +kernel) (by decide +kernel)) (goodIn_sub (fun _ h => List.mem_cons_of_mem _ (List.mem_append_right _ h)) (by decide +kernel))
set_option maxRecDepth 20000 in
theorem gX10_inPostorder_X10_treeNumbered : GoodIn wsX10_inPostorder (wsV RX10 77 RX10 yX10_treeNumbered wsX10_treeNumbered) := goodIn_app (goodIn_of _ (by decide +kernel)) ggX10_inPostorder_X10_treeNumbered
set_option maxRecDepth 20000 in
theorem ggX10_inPostorder_X10_needIndex : GoodIn wsX10_inPostorder wsX10_needIndex := goodIn_ca (goodIn_r _ [9, 10, 11] (by decide +kernel) (by decide +kernel)) (goodIn_sub (fun _ h => List.mem_cons_of_mem _ (List.mem_append_right _ h)) (by decide +kernel))
set_option maxRecDepth 20000 in
theorem gX10_inPostorder_X10_needIndex : GoodIn wsX10_inPostorder (va_wsS RX10 81 yX10_needIndex wsX10_needIndex) := goodIn_app (goodIn_of _ (by decide +kernel)) ggX10_inPostorder_X10_needIndex
theorem dX10_inPostorder_0 : decode cX10_inPostorder 0 = .ok (.aload_n 0, 1) := by decide +kernel
theorem dX10_inPostorder_1 : decode cX10_inPostorder 1 = .ok (.iload_n 1, 1) := by decide +kernel
theorem dX10_inPostorder_2 : decode cX10_inPostorder 2 = .ok (.invokevirtual 77, 3) := by decide +kernel
theorem dX10_inPostorder_5 : decode cX10_inPostorder 5 = .ok (.astore_n 3, 1) := by decide +kernel
theorem dX10_inPostorder_6 : decode cX10_inPostorder 6 = .ok (.iload_n 2, 1) := by decide +kernel
theorem dX10_inPostorder_7 : decode cX10_inPostorder 7 = .ok (.aload_n 3, 1) := by decide +kernel
theorem dX10_inPostorder_8 : decode cX10_inPostorder 8 = .ok (.getfield 88, 3) := by decide +kernel
theorem dX10_inPostorder_11 : decode cX10_inPostorder 11 = .ok (.invokestatic 81, 3) := by decide +kernel
theorem dX10_inPostorder_14 : decode cX10_inPostorder 14 = .ok (.aload_n 3, 1) := by decide +kernel
theorem dX10_inPostorder_15 : decode cX10_inPostorder 15 = .ok (.getfield 154, 3) := by decide +kernel
theorem dX10_inPostorder_18 : decode cX10_inPostorder 18 = .ok (.iload_n 2, 1) := by decide +kernel
theorem dX10_inPostorder_19 : decode cX10_inPostorder 19 = .ok (.iaload, 1) := by decide +kernel
theorem dX10_inPostorder_20 : decode cX10_inPostorder 20 = .ok (.ireturn, 1) := by decide +kernel
theorem hi_X10_inPostorder_9 : ∀ w ∈ u_ws RX9 TX9 9, w ∈ wsX10_inPostorder := by decide +kernel
def wpe_X10_inPostorder (p0 : Int) (p1 : Int) (M : Mem) (Q : Int → Mem → Prop) (XQ : String → Mem → Prop) : Prop := wp_X10_treeNumbered M p0 (fun y1 M2 => isT y1 ∧ wp_X10_needIndex M2 p1 ((M2 y1 8 0)) (fun M4 => ((0 : Int) ≤ p1 ∧ p1 < 12) ∧ Q ((M4 y1 4 p1.toNat)) M4) XQ) XQ
def wp_X10_inPostorder (M : Mem) (p0 : Int) (p1 : Int) (Q : Int → Mem → Prop) (XQ : String → Mem → Prop) : Prop := wpe_X10_inPostorder p0 p1 M Q XQ
set_option maxHeartbeats 4000000 in
set_option maxRecDepth 100000 in
theorem wke_X10_inPostorder {p : Program} {l : Launch} {e : Env} {s : State} {m : MethodId} {args : Array Value} {below : List Frame} {meth : Method} {c : Code} {D : va_G} {g : GT} {A : Nat → Prop} {a : Nat → Nat} {b : Nat → Nat → Nat} (X : vC p s m args meth c D g A RX10 wsX10_inPostorder cX10_inPostorder 4) (hr : meth.sig.returnType = (some .int)) {p0 : Int} {p1 : Int} (hlt : l.stackTraces = false) (htab : ∀ x ∈ c.exceptionTable.toList, False) {M : Mem} {Q : Int → Mem → Prop} {XQ : String → Mem → Prop} (hw : wpe_X10_inPostorder p0 p1 M Q XQ) : vV p l e ({ frames := 8, cells := 2, slots := 12, locals := 132 } : Room) s m args below meth c D g A a b 4 0 0 (vx_MQ below (cQi D g A a b Q) (cX D g A a b XQ) args s 2 12 A) M [(0, .ref (a 0)), (1, iv p0), (2, iv p1)] 0 [] := by
  unfold wpe_X10_inPostorder at hw
  refine V_aload_n X dX10_inPostorder_0 rfl (q := 0) rfl ?_
  refine V_iload_n X dX10_inPostorder_1 rfl (q := 1) rfl ?_
  refine V_callxV_r X _ _ gO_0 rfl (As := [iv p0]) (st := []) (c_X10_treeNumbered l hlt hw) (cwV 1 X.2.2.2.1 gX10_inPostorder_X10_treeNumbered rfl rfl rfl (by decide +kernel) ⟨Nat.le_of_ble_eq_true rfl, Nat.le_of_ble_eq_true rfl⟩) rfl (Nat.le_of_ble_eq_true rfl) ⟨Nat.le_of_ble_eq_true rfl, Nat.le_of_ble_eq_true rfl⟩ rfl dX10_inPostorder_2 (fun E ce q9 M9 H9 locs9 ls9 hx9 hP9 hD9 hS9 hl9 h91 h92 h93 => V_xout X htab (Nat.le_of_ble_eq_true rfl) (Nat.le_of_ble_eq_true rfl) hx9 hP9 hD9 hS9 h91 h92 h93) (fun y1 M2 hw => ?_)
  obtain ⟨hy1, hw⟩ := hw
  refine V_astore_n (lv1 := [(0, .ref (a 0)), (1, iv p0), (2, iv p1), (3, .ref (a y1))]) X [1, 2, 3, 0] dX10_inPostorder_5 rfl (by decide) rfl ?_
  refine V_iload_n X dX10_inPostorder_6 rfl (q := 2) rfl ?_
  refine V_aload_n X dX10_inPostorder_7 rfl (q := 3) rfl ?_
  refine V_getN (C := RX9) (T := TX9) (N := 9) (ci := 9) X hi_X10_inPostorder_9 (gTO hy1) rfl 8 (by decide) (List.mem_of_getElem? (i := 20) rfl) (fun _ h9 => h9) rfl dX10_inPostorder_8 ?_
  refine V_callxS_v X _ _ (As := [iv p1, iv ((M2 y1 8 0))]) (st := []) (c_X10_needIndex l hlt hw) (va_cwS 2 X.2.2.2.1 gX10_inPostorder_X10_needIndex rfl rfl rfl (by decide +kernel) ⟨Nat.le_of_ble_eq_true rfl, Nat.le_of_ble_eq_true rfl⟩) rfl (Nat.le_of_ble_eq_true rfl) ⟨Nat.le_of_ble_eq_true rfl, Nat.le_of_ble_eq_true rfl⟩ rfl dX10_inPostorder_11 (fun E ce q9 M9 H9 locs9 ls9 hx9 hP9 hD9 hS9 hl9 h91 h92 h93 => V_xout X htab (Nat.le_of_ble_eq_true rfl) (Nat.le_of_ble_eq_true rfl) hx9 hP9 hD9 hS9 h91 h92 h93) (fun M4 hw => ?_)
  refine V_aload_n X dX10_inPostorder_14 rfl (q := 3) rfl ?_
  refine V_getN (C := RX9) (T := TX9) (N := 9) (ci := 9) X hi_X10_inPostorder_9 (gTO hy1) rfl 4 (by decide) (List.mem_of_getElem? (i := 14) rfl) (fun _ h9 => h9) rfl dX10_inPostorder_15 ?_
  refine V_iload_n X dX10_inPostorder_18 rfl (q := 2) rfl ?_
  obtain ⟨h5, hw⟩ := hw
  refine V_iald X ((gT_4 hy1)) h5 (by decide) dX10_inPostorder_19 ?_
  exact V_xret (Nat.le_of_ble_eq_true rfl) (Nat.le_of_ble_eq_true rfl) (V_iret X hr hw dX10_inPostorder_20)
set_option maxHeartbeats 4000000 in
set_option maxRecDepth 100000 in
theorem c_X10_inPostorder (l : Launch) {p0 : Int} {p1 : Int} (hlt : l.stackTraces = false) {D : va_G} {g : GT} {A : Nat → Prop} {a : Nat → Nat} {b : Nat → Nat → Nat} {M : Mem} {Q : Int → Mem → Prop} {XQ : String → Mem → Prop} (hw : wp_X10_inPostorder M p0 p1 Q XQ) : vx_Met l yX10_inPostorder wsX10_inPostorder ({ frames := 8, cells := 2, slots := 12, locals := 132 } : Room) (cPc D g A a b M [.ref (a 0), iv p0, iv p1]) (cQi D g A a b Q) (cX D g A a b XQ) 2 12 A := by
  refine vx_ofW (cc := cX10_inPostorder) (maxL := 4) (ret := (some .int)) (by decide) rfl ?_
  intro p e s m args below meth c s₁ B hml htab hv
  obtain ⟨rfl, hP, hD, hG⟩ := hv
  have X : vC p s m _ meth c D g A RX10 wsX10_inPostorder cX10_inPostorder 4 := ⟨B.exec, B.bytes, findClass_of_methodNamed B.named, atoms_spec (ws := wsX10_inPostorder) B.pre, hG, hml, B.notSynchronized⟩
  have hr := B.returns
  have hl := lv_entry ([.ref (a 0), iv p0, iv p1]) (n := 4) (Nat.le_of_ble_eq_true rfl)
  rw [lg_entry_eq]
  generalize (lg_sl ([.ref (a 0), iv p0, iv p1]) ++ List.replicate (4 - (lg_sl ([.ref (a 0), iv p0, iv p1])).length) Slot.unset).toArray = ls at hl ⊢
  have hl : lv_has ls 4 [(0, .ref (a 0)), (1, iv p0), (2, iv p1)] := hl
  exact wke_X10_inPostorder X hr hlt htab hw s.heap [] ls hP hD va_S.rf hl

set_option maxRecDepth 20000 in
theorem ggX10_stepKind_X10_settle : GoodIn wsX10_stepKind wsX10_settle := goodIn_r _ [6, 7, 8, 9, 10, 1, 11, 12, 13, 14, 15, 16, 17, 18, 19, 20, 21, 22, 23, 24, 25, 26, 27, 28, 29, 30, 31, 32, 33, 34, 35, 36, 37, 38, 39, 40, 41, 42, 43, 44, 45, 46, 47, 48, 49, 50, 51, 52, 53, 54, 55, 56, 57, 58, 59, 60, 61, 62, 63, 64, 65, 66, 67, 68, 69, 70, 71, 72, 73, 74, 75, 76, 77, 78, 79, 80, 81, 82, 83, 84, 85, 86, 87, 88, 89, 90, 91, 92, 93, 94, 95, 96, 97, 98, 99, 100, 101, 102, 103, 104, 105, 106, 107, 108, 109, 110, 111, 112, 113, 114, 115, 116, 117, 118, 119, 120, 121, 122, 123, 124, 125, 126, 127, 128, 129, 130, 131, 132, 133, 134, 135, 136, 137, 138, 139, 140, 141, 142, 143, 144, 145, 146, 147, 148, 149, 150, 151, 157, 158, 159, 160, 161, 162, 163, 164, 165, 175, 176, 177, 178, 179, 180, 181, 182, 183, 184, 185, 186, 187, 188, 189, 190, 191, 192, 193, 194, 195, 196, 197, 198, 199, 200, 201, 202, 203, 204, 205, 206, 207, 208, 209, 166, 167, 168, 169, 170, 171, 172, 173, 174, 210, 211, 212, 213, 214, 215] (by decide +kernel) (by decide +kernel)
set_option maxRecDepth 20000 in
theorem gX10_stepKind_X10_settle : GoodIn wsX10_stepKind (wsV RX10 206 RX10 yX10_settle wsX10_settle) := goodIn_app (goodIn_of _ (by decide +kernel)) ggX10_stepKind_X10_settle
set_option maxRecDepth 20000 in
theorem ggX10_stepKind_X10_needIndex : GoodIn wsX10_stepKind wsX10_needIndex := goodIn_ca (goodIn_r _ [154, 155, 156] (by decide +kernel) (by decide +kernel)) (goodIn_sub (fun _ h => List.mem_cons_of_mem _ (List.mem_append_right _ h)) (by decide +kernel))
set_option maxRecDepth 20000 in
theorem gX10_stepKind_X10_needIndex : GoodIn wsX10_stepKind (va_wsS RX10 81 yX10_needIndex wsX10_needIndex) := goodIn_app (goodIn_of _ (by decide +kernel)) ggX10_stepKind_X10_needIndex
theorem dX10_stepKind_0 : decode cX10_stepKind 0 = .ok (.aload_n 0, 1) := by decide +kernel
theorem dX10_stepKind_1 : decode cX10_stepKind 1 = .ok (.invokevirtual 206, 3) := by decide +kernel
theorem dX10_stepKind_4 : decode cX10_stepKind 4 = .ok (.iload_n 1, 1) := by decide +kernel
theorem dX10_stepKind_5 : decode cX10_stepKind 5 = .ok (.aload_n 0, 1) := by decide +kernel
theorem dX10_stepKind_6 : decode cX10_stepKind 6 = .ok (.getfield 62, 3) := by decide +kernel
theorem dX10_stepKind_9 : decode cX10_stepKind 9 = .ok (.getfield 217, 3) := by decide +kernel
theorem dX10_stepKind_12 : decode cX10_stepKind 12 = .ok (.invokestatic 81, 3) := by decide +kernel
theorem dX10_stepKind_15 : decode cX10_stepKind 15 = .ok (.aload_n 0, 1) := by decide +kernel
theorem dX10_stepKind_16 : decode cX10_stepKind 16 = .ok (.getfield 62, 3) := by decide +kernel
theorem dX10_stepKind_19 : decode cX10_stepKind 19 = .ok (.getfield 218, 3) := by decide +kernel
theorem dX10_stepKind_22 : decode cX10_stepKind 22 = .ok (.iload_n 1, 1) := by decide +kernel
theorem dX10_stepKind_23 : decode cX10_stepKind 23 = .ok (.iaload, 1) := by decide +kernel
theorem dX10_stepKind_24 : decode cX10_stepKind 24 = .ok (.ireturn, 1) := by decide +kernel
theorem lk_X10_stepKind_f62 : Cond.fieldLink RX10 62 "TreeComparer" "script" "LTreeComparer$Script;" ∈ wsX10_stepKind := by decide +kernel
theorem hi_X10_stepKind_10 : ∀ w ∈ u_ws RX10 TX10 9, w ∈ wsX10_stepKind := by decide +kernel
theorem hi_X10_stepKind_7 : ∀ w ∈ u_ws RX7 TX7 9, w ∈ wsX10_stepKind := by decide +kernel
def wpe_X10_stepKind (p0 : Int) (M : Mem) (Q : Int → Mem → Prop) (XQ : String → Mem → Prop) : Prop := wp_X10_settle M (fun M2 => wp_X10_needIndex M2 p0 ((M2 7 4 0)) (fun M4 => ((0 : Int) ≤ p0 ∧ p0 < 24) ∧ Q ((M4 7 2 p0.toNat)) M4) XQ)
def wp_X10_stepKind (M : Mem) (p0 : Int) (Q : Int → Mem → Prop) (XQ : String → Mem → Prop) : Prop := wpe_X10_stepKind p0 M Q XQ
set_option maxHeartbeats 4000000 in
set_option maxRecDepth 100000 in
theorem wke_X10_stepKind {p : Program} {l : Launch} {e : Env} {s : State} {m : MethodId} {args : Array Value} {below : List Frame} {meth : Method} {c : Code} {D : va_G} {g : GT} {A : Nat → Prop} {a : Nat → Nat} {b : Nat → Nat → Nat} (X : vC p s m args meth c D g A RX10 wsX10_stepKind cX10_stepKind 2) (hr : meth.sig.returnType = (some .int)) {p0 : Int} (hlt : l.stackTraces = false) (htab : ∀ x ∈ c.exceptionTable.toList, False) {M : Mem} {Q : Int → Mem → Prop} {XQ : String → Mem → Prop} (hw : wpe_X10_stepKind p0 M Q XQ) : vV p l e ({ frames := 33, cells := 1, slots := 6, locals := 1084 } : Room) s m args below meth c D g A a b 2 0 0 (vx_MQ below (cQi D g A a b Q) (cX D g A a b XQ) args s 1 6 A) M [(0, .ref (a 0)), (1, iv p0)] 0 [] := by
  unfold wpe_X10_stepKind at hw
  refine V_aload_n X dX10_stepKind_0 rfl (q := 0) rfl ?_
  refine V_callV_v X _ gO_0 rfl (As := []) (st := []) (c_X10_settle l hw) (cwV 0 X.2.2.2.1 gX10_stepKind_X10_settle rfl rfl rfl (by decide +kernel) ⟨Nat.le_of_ble_eq_true rfl, Nat.le_of_ble_eq_true rfl⟩) rfl (Nat.le_of_ble_eq_true rfl) ⟨Nat.le_of_ble_eq_true rfl, Nat.le_of_ble_eq_true rfl⟩ rfl dX10_stepKind_1 (fun M2 hw => ?_)
  refine V_iload_n X dX10_stepKind_4 rfl (q := 1) rfl ?_
  refine V_aload_n X dX10_stepKind_5 rfl (q := 0) rfl ?_
  refine V_get (C := RX10) (T := TX10) (N := 9) (ci := 10) X hi_X10_stepKind_10 gO_0 rfl 6 (by decide) lk_X10_stepKind_f62 (fun _ h9 => h9) rfl dX10_stepKind_6 ?_
  refine V_getN (C := RX7) (T := TX7) (N := 9) (ci := 7) X hi_X10_stepKind_7 gO_7 rfl 4 (by decide) (List.mem_of_getElem? (i := 79) rfl) (fun _ h9 => h9) rfl dX10_stepKind_9 ?_
  refine V_callxS_v X _ _ (As := [iv p0, iv ((M2 7 4 0))]) (st := []) (c_X10_needIndex l hlt hw) (va_cwS 2 X.2.2.2.1 gX10_stepKind_X10_needIndex rfl rfl rfl (by decide +kernel) ⟨Nat.le_of_ble_eq_true rfl, Nat.le_of_ble_eq_true rfl⟩) rfl (Nat.le_of_ble_eq_true rfl) ⟨Nat.le_of_ble_eq_true rfl, Nat.le_of_ble_eq_true rfl⟩ rfl dX10_stepKind_12 (fun E ce q9 M9 H9 locs9 ls9 hx9 hP9 hD9 hS9 hl9 h91 h92 h93 => V_xout X htab (Nat.le_of_ble_eq_true rfl) (Nat.le_of_ble_eq_true rfl) hx9 hP9 hD9 hS9 h91 h92 h93) (fun M4 hw => ?_)
  refine V_aload_n X dX10_stepKind_15 rfl (q := 0) rfl ?_
  refine V_get (C := RX10) (T := TX10) (N := 9) (ci := 10) X hi_X10_stepKind_10 gO_0 rfl 6 (by decide) lk_X10_stepKind_f62 (fun _ h9 => h9) rfl dX10_stepKind_16 ?_
  refine V_getN (C := RX7) (T := TX7) (N := 9) (ci := 7) X hi_X10_stepKind_7 gO_7 rfl 2 (by decide) (List.mem_of_getElem? (i := 77) rfl) (fun _ h9 => h9) rfl dX10_stepKind_19 ?_
  refine V_iload_n X dX10_stepKind_22 rfl (q := 1) rfl ?_
  obtain ⟨h5, hw⟩ := hw
  refine V_iald X (gA_7_2) h5 (by decide) dX10_stepKind_23 ?_
  exact V_xret (Nat.le_of_ble_eq_true rfl) (Nat.le_of_ble_eq_true rfl) (V_iret X hr hw dX10_stepKind_24)
set_option maxHeartbeats 4000000 in
set_option maxRecDepth 100000 in
theorem c_X10_stepKind (l : Launch) {p0 : Int} (hlt : l.stackTraces = false) {D : va_G} {g : GT} {A : Nat → Prop} {a : Nat → Nat} {b : Nat → Nat → Nat} {M : Mem} {Q : Int → Mem → Prop} {XQ : String → Mem → Prop} (hw : wp_X10_stepKind M p0 Q XQ) : vx_Met l yX10_stepKind wsX10_stepKind ({ frames := 33, cells := 1, slots := 6, locals := 1084 } : Room) (cPc D g A a b M [.ref (a 0), iv p0]) (cQi D g A a b Q) (cX D g A a b XQ) 1 6 A := by
  refine vx_ofW (cc := cX10_stepKind) (maxL := 2) (ret := (some .int)) (by decide) rfl ?_
  intro p e s m args below meth c s₁ B hml htab hv
  obtain ⟨rfl, hP, hD, hG⟩ := hv
  have X : vC p s m _ meth c D g A RX10 wsX10_stepKind cX10_stepKind 2 := ⟨B.exec, B.bytes, findClass_of_methodNamed B.named, atoms_spec (ws := wsX10_stepKind) B.pre, hG, hml, B.notSynchronized⟩
  have hr := B.returns
  have hl := lv_entry ([.ref (a 0), iv p0]) (n := 2) (Nat.le_of_ble_eq_true rfl)
  rw [lg_entry_eq]
  generalize (lg_sl ([.ref (a 0), iv p0]) ++ List.replicate (2 - (lg_sl ([.ref (a 0), iv p0])).length) Slot.unset).toArray = ls at hl ⊢
  have hl : lv_has ls 2 [(0, .ref (a 0)), (1, iv p0)] := hl
  exact wke_X10_stepKind X hr hlt htab hw s.heap [] ls hP hD va_S.rf hl

set_option maxRecDepth 20000 in
theorem ggX10_stepNode_X10_settle : GoodIn wsX10_stepNode wsX10_settle := goodIn_r _ [6, 7, 8, 9, 10, 1, 11, 12, 13, 14, 15, 16, 17, 18, 19, 20, 21, 22, 23, 24, 25, 26, 27, 28, 29, 30, 31, 32, 33, 34, 35, 36, 37, 38, 39, 40, 41, 42, 43, 44, 45, 46, 47, 48, 49, 50, 51, 52, 53, 54, 55, 56, 57, 58, 59, 60, 61, 62, 63, 64, 65, 66, 67, 68, 69, 70, 71, 72, 73, 74, 75, 76, 77, 78, 79, 80, 81, 82, 83, 84, 85, 86, 87, 88, 89, 90, 91, 92, 93, 94, 95, 96, 97, 98, 99, 100, 101, 102, 103, 104, 105, 106, 107, 108, 109, 110, 111, 112, 113, 114, 115, 116, 117, 118, 119, 120, 121, 122, 123, 124, 125, 126, 127, 128, 129, 130, 131, 132, 133, 134, 135, 136, 137, 138, 139, 140, 141, 142, 143, 144, 145, 146, 147, 148, 149, 150, 151, 157, 158, 159, 160, 161, 162, 163, 164, 165, 175, 176, 177, 178, 179, 180, 181, 182, 183, 184, 185, 186, 187, 188, 189, 190, 191, 192, 193, 194, 195, 196, 197, 198, 199, 200, 201, 202, 203, 204, 205, 206, 207, 208, 209, 166, 167, 168, 169, 170, 171, 172, 173, 174, 210, 211, 212, 213, 214, 215] (by decide +kernel) (by decide +kernel)
set_option maxRecDepth 20000 in
theorem gX10_stepNode_X10_settle : GoodIn wsX10_stepNode (wsV RX10 206 RX10 yX10_settle wsX10_settle) := goodIn_app (goodIn_of _ (by decide +kernel)) ggX10_stepNode_X10_settle
set_option maxRecDepth 20000 in
theorem ggX10_stepNode_X10_needIndex : GoodIn wsX10_stepNode wsX10_needIndex := goodIn_ca (goodIn_r _ [154, 155, 156] (by decide +kernel) (by decide +kernel)) (goodIn_sub (fun _ h => List.mem_cons_of_mem _ (List.mem_append_right _ h)) (by decide +kernel))
set_option maxRecDepth 20000 in
theorem gX10_stepNode_X10_needIndex : GoodIn wsX10_stepNode (va_wsS RX10 81 yX10_needIndex wsX10_needIndex) := goodIn_app (goodIn_of _ (by decide +kernel)) ggX10_stepNode_X10_needIndex
theorem dX10_stepNode_0 : decode cX10_stepNode 0 = .ok (.aload_n 0, 1) := by decide +kernel
theorem dX10_stepNode_1 : decode cX10_stepNode 1 = .ok (.invokevirtual 206, 3) := by decide +kernel
theorem dX10_stepNode_4 : decode cX10_stepNode 4 = .ok (.iload_n 1, 1) := by decide +kernel
theorem dX10_stepNode_5 : decode cX10_stepNode 5 = .ok (.aload_n 0, 1) := by decide +kernel
theorem dX10_stepNode_6 : decode cX10_stepNode 6 = .ok (.getfield 62, 3) := by decide +kernel
theorem dX10_stepNode_9 : decode cX10_stepNode 9 = .ok (.getfield 217, 3) := by decide +kernel
theorem dX10_stepNode_12 : decode cX10_stepNode 12 = .ok (.invokestatic 81, 3) := by decide +kernel
theorem dX10_stepNode_15 : decode cX10_stepNode 15 = .ok (.aload_n 0, 1) := by decide +kernel
theorem dX10_stepNode_16 : decode cX10_stepNode 16 = .ok (.getfield 62, 3) := by decide +kernel
theorem dX10_stepNode_19 : decode cX10_stepNode 19 = .ok (.getfield 221, 3) := by decide +kernel
theorem dX10_stepNode_22 : decode cX10_stepNode 22 = .ok (.iload_n 1, 1) := by decide +kernel
theorem dX10_stepNode_23 : decode cX10_stepNode 23 = .ok (.iaload, 1) := by decide +kernel
theorem dX10_stepNode_24 : decode cX10_stepNode 24 = .ok (.ireturn, 1) := by decide +kernel
theorem lk_X10_stepNode_f62 : Cond.fieldLink RX10 62 "TreeComparer" "script" "LTreeComparer$Script;" ∈ wsX10_stepNode := by decide +kernel
theorem hi_X10_stepNode_10 : ∀ w ∈ u_ws RX10 TX10 9, w ∈ wsX10_stepNode := by decide +kernel
theorem hi_X10_stepNode_7 : ∀ w ∈ u_ws RX7 TX7 9, w ∈ wsX10_stepNode := by decide +kernel
def wpe_X10_stepNode (p0 : Int) (M : Mem) (Q : Int → Mem → Prop) (XQ : String → Mem → Prop) : Prop := wp_X10_settle M (fun M2 => wp_X10_needIndex M2 p0 ((M2 7 4 0)) (fun M4 => ((0 : Int) ≤ p0 ∧ p0 < 24) ∧ Q ((M4 7 3 p0.toNat)) M4) XQ)
def wp_X10_stepNode (M : Mem) (p0 : Int) (Q : Int → Mem → Prop) (XQ : String → Mem → Prop) : Prop := wpe_X10_stepNode p0 M Q XQ
set_option maxHeartbeats 4000000 in
set_option maxRecDepth 100000 in
theorem wke_X10_stepNode {p : Program} {l : Launch} {e : Env} {s : State} {m : MethodId} {args : Array Value} {below : List Frame} {meth : Method} {c : Code} {D : va_G} {g : GT} {A : Nat → Prop} {a : Nat → Nat} {b : Nat → Nat → Nat} (X : vC p s m args meth c D g A RX10 wsX10_stepNode cX10_stepNode 2) (hr : meth.sig.returnType = (some .int)) {p0 : Int} (hlt : l.stackTraces = false) (htab : ∀ x ∈ c.exceptionTable.toList, False) {M : Mem} {Q : Int → Mem → Prop} {XQ : String → Mem → Prop} (hw : wpe_X10_stepNode p0 M Q XQ) : vV p l e ({ frames := 33, cells := 1, slots := 6, locals := 1084 } : Room) s m args below meth c D g A a b 2 0 0 (vx_MQ below (cQi D g A a b Q) (cX D g A a b XQ) args s 1 6 A) M [(0, .ref (a 0)), (1, iv p0)] 0 [] := by
  unfold wpe_X10_stepNode at hw
  refine V_aload_n X dX10_stepNode_0 rfl (q := 0) rfl ?_
  refine V_callV_v X _ gO_0 rfl (As := []) (st := []) (c_X10_settle l hw) (cwV 0 X.2.2.2.1 gX10_stepNode_X10_settle rfl rfl rfl (by decide +kernel) ⟨Nat.le_of_ble_eq_true rfl, Nat.le_of_ble_eq_true rfl⟩) rfl (Nat.le_of_ble_eq_true rfl) ⟨Nat.le_of_ble_eq_true rfl, Nat.le_of_ble_eq_true rfl⟩ rfl dX10_stepNode_1 (fun M2 hw => ?_)
  refine V_iload_n X dX10_stepNode_4 rfl (q := 1) rfl ?_
  refine V_aload_n X dX10_stepNode_5 rfl (q := 0) rfl ?_
  refine V_get (C := RX10) (T := TX10) (N := 9) (ci := 10) X hi_X10_stepNode_10 gO_0 rfl 6 (by decide) lk_X10_stepNode_f62 (fun _ h9 => h9) rfl dX10_stepNode_6 ?_
  refine V_getN (C := RX7) (T := TX7) (N := 9) (ci := 7) X hi_X10_stepNode_7 gO_7 rfl 4 (by decide) (List.mem_of_getElem? (i := 79) rfl) (fun _ h9 => h9) rfl dX10_stepNode_9 ?_
  refine V_callxS_v X _ _ (As := [iv p0, iv ((M2 7 4 0))]) (st := []) (c_X10_needIndex l hlt hw) (va_cwS 2 X.2.2.2.1 gX10_stepNode_X10_needIndex rfl rfl rfl (by decide +kernel) ⟨Nat.le_of_ble_eq_true rfl, Nat.le_of_ble_eq_true rfl⟩) rfl (Nat.le_of_ble_eq_true rfl) ⟨Nat.le_of_ble_eq_true rfl, Nat.le_of_ble_eq_true rfl⟩ rfl dX10_stepNode_12 (fun E ce q9 M9 H9 locs9 ls9 hx9 hP9 hD9 hS9 hl9 h91 h92 h93 => V_xout X htab (Nat.le_of_ble_eq_true rfl) (Nat.le_of_ble_eq_true rfl) hx9 hP9 hD9 hS9 h91 h92 h93) (fun M4 hw => ?_)
  refine V_aload_n X dX10_stepNode_15 rfl (q := 0) rfl ?_
  refine V_get (C := RX10) (T := TX10) (N := 9) (ci := 10) X hi_X10_stepNode_10 gO_0 rfl 6 (by decide) lk_X10_stepNode_f62 (fun _ h9 => h9) rfl dX10_stepNode_16 ?_
  refine V_getN (C := RX7) (T := TX7) (N := 9) (ci := 7) X hi_X10_stepNode_7 gO_7 rfl 3 (by decide) (List.mem_of_getElem? (i := 78) rfl) (fun _ h9 => h9) rfl dX10_stepNode_19 ?_
  refine V_iload_n X dX10_stepNode_22 rfl (q := 1) rfl ?_
  obtain ⟨h5, hw⟩ := hw
  refine V_iald X (gA_7_3) h5 (by decide) dX10_stepNode_23 ?_
  exact V_xret (Nat.le_of_ble_eq_true rfl) (Nat.le_of_ble_eq_true rfl) (V_iret X hr hw dX10_stepNode_24)
set_option maxHeartbeats 4000000 in
set_option maxRecDepth 100000 in
theorem c_X10_stepNode (l : Launch) {p0 : Int} (hlt : l.stackTraces = false) {D : va_G} {g : GT} {A : Nat → Prop} {a : Nat → Nat} {b : Nat → Nat → Nat} {M : Mem} {Q : Int → Mem → Prop} {XQ : String → Mem → Prop} (hw : wp_X10_stepNode M p0 Q XQ) : vx_Met l yX10_stepNode wsX10_stepNode ({ frames := 33, cells := 1, slots := 6, locals := 1084 } : Room) (cPc D g A a b M [.ref (a 0), iv p0]) (cQi D g A a b Q) (cX D g A a b XQ) 1 6 A := by
  refine vx_ofW (cc := cX10_stepNode) (maxL := 2) (ret := (some .int)) (by decide) rfl ?_
  intro p e s m args below meth c s₁ B hml htab hv
  obtain ⟨rfl, hP, hD, hG⟩ := hv
  have X : vC p s m _ meth c D g A RX10 wsX10_stepNode cX10_stepNode 2 := ⟨B.exec, B.bytes, findClass_of_methodNamed B.named, atoms_spec (ws := wsX10_stepNode) B.pre, hG, hml, B.notSynchronized⟩
  have hr := B.returns
  have hl := lv_entry ([.ref (a 0), iv p0]) (n := 2) (Nat.le_of_ble_eq_true rfl)
  rw [lg_entry_eq]
  generalize (lg_sl ([.ref (a 0), iv p0]) ++ List.replicate (2 - (lg_sl ([.ref (a 0), iv p0])).length) Slot.unset).toArray = ls at hl ⊢
  have hl : lv_has ls 2 [(0, .ref (a 0)), (1, iv p0)] := hl
  exact wke_X10_stepNode X hr hlt htab hw s.heap [] ls hP hD va_S.rf hl

set_option maxRecDepth 20000 in
theorem ggX10_needNodes_X10_needIndex : GoodIn wsX10_needNodes wsX10_needIndex := goodIn_ca (goodIn_r _ [5, 6, 7] (by decide +kernel) (by decide +kernel)) (goodIn_sub (fun _ h => List.mem_cons_of_mem _ (List.mem_append_right _ h)) (by decide +kernel))
set_option maxRecDepth 20000 in
theorem gX10_needNodes_X10_needIndex : GoodIn wsX10_needNodes (va_wsS RX10 81 yX10_needIndex wsX10_needIndex) := goodIn_app (goodIn_of _ (by decide +kernel)) ggX10_needNodes_X10_needIndex
theorem dX10_needNodes_0 : decode cX10_needNodes 0 = .ok (.iload_n 1, 1) := by decide +kernel
theorem dX10_needNodes_1 : decode cX10_needNodes 1 = .ok (.aload_n 0, 1) := by decide +kernel
theorem dX10_needNodes_2 : decode cX10_needNodes 2 = .ok (.getfield 10, 3) := by decide +kernel
theorem dX10_needNodes_5 : decode cX10_needNodes 5 = .ok (.getfield 123, 3) := by decide +kernel
theorem dX10_needNodes_8 : decode cX10_needNodes 8 = .ok (.getfield 88, 3) := by decide +kernel
theorem dX10_needNodes_11 : decode cX10_needNodes 11 = .ok (.invokestatic 81, 3) := by decide +kernel
theorem dX10_needNodes_14 : decode cX10_needNodes 14 = .ok (.iload_n 2, 1) := by decide +kernel
theorem dX10_needNodes_15 : decode cX10_needNodes 15 = .ok (.aload_n 0, 1) := by decide +kernel
theorem dX10_needNodes_16 : decode cX10_needNodes 16 = .ok (.getfield 10, 3) := by decide +kernel
theorem dX10_needNodes_19 : decode cX10_needNodes 19 = .ok (.getfield 127, 3) := by decide +kernel
theorem dX10_needNodes_22 : decode cX10_needNodes 22 = .ok (.getfield 88, 3) := by decide +kernel
theorem dX10_needNodes_25 : decode cX10_needNodes 25 = .ok (.invokestatic 81, 3) := by decide +kernel
theorem dX10_needNodes_28 : decode cX10_needNodes 28 = .ok (.return_, 1) := by decide +kernel
theorem lk_X10_needNodes_f10 : Cond.fieldLink RX10 10 "TreeComparer" "given" "LTreeComparer$Given;" ∈ wsX10_needNodes := by decide +kernel
theorem hi_X10_needNodes_10 : ∀ w ∈ u_ws RX10 TX10 9, w ∈ wsX10_needNodes := by decide +kernel
theorem hi_X10_needNodes_1 : ∀ w ∈ u_ws RX1 TX1 6, w ∈ wsX10_needNodes := by decide +kernel
theorem hi_X10_needNodes_9 : ∀ w ∈ u_ws RX9 TX9 9, w ∈ wsX10_needNodes := by decide +kernel
def wpe_X10_needNodes (p0 : Int) (p1 : Int) (M : Mem) (Q : Mem → Prop) (XQ : String → Mem → Prop) : Prop := wp_X10_needIndex M p0 ((M 11 8 0)) (fun M2 => wp_X10_needIndex M2 p1 ((M2 12 8 0)) (fun M4 => Q M4) XQ) XQ
def wp_X10_needNodes (M : Mem) (p0 : Int) (p1 : Int) (Q : Mem → Prop) (XQ : String → Mem → Prop) : Prop := wpe_X10_needNodes p0 p1 M Q XQ
set_option maxHeartbeats 4000000 in
set_option maxRecDepth 100000 in
theorem wke_X10_needNodes {p : Program} {l : Launch} {e : Env} {s : State} {m : MethodId} {args : Array Value} {below : List Frame} {meth : Method} {c : Code} {D : va_G} {g : GT} {A : Nat → Prop} {a : Nat → Nat} {b : Nat → Nat → Nat} (X : vC p s m args meth c D g A RX10 wsX10_needNodes cX10_needNodes 3) (hr : meth.sig.returnType = none) {p0 : Int} {p1 : Int} (hlt : l.stackTraces = false) (htab : ∀ x ∈ c.exceptionTable.toList, False) {M : Mem} {Q : Mem → Prop} {XQ : String → Mem → Prop} (hw : wpe_X10_needNodes p0 p1 M Q XQ) : vV p l e ({ frames := 7, cells := 2, slots := 12, locals := 111 } : Room) s m args below meth c D g A a b 3 0 0 (vx_MQ below (cQv D g A a b Q) (cX D g A a b XQ) args s 2 12 A) M [(0, .ref (a 0)), (1, iv p0), (2, iv p1)] 0 [] := by
  unfold wpe_X10_needNodes at hw
  refine V_iload_n X dX10_needNodes_0 rfl (q := 1) rfl ?_
  refine V_aload_n X dX10_needNodes_1 rfl (q := 0) rfl ?_
  refine V_get (C := RX10) (T := TX10) (N := 9) (ci := 10) X hi_X10_needNodes_10 gO_0 rfl 0 (by decide) lk_X10_needNodes_f10 (fun _ h9 => h9) rfl dX10_needNodes_2 ?_
  refine V_getN (C := RX1) (T := TX1) (N := 6) (ci := 1) X hi_X10_needNodes_1 gO_1 rfl 4 (by decide) (List.mem_of_getElem? (i := 38) rfl) (fun _ h9 => h9) rfl dX10_needNodes_5 ?_
  refine V_getN (C := RX9) (T := TX9) (N := 9) (ci := 9) X hi_X10_needNodes_9 gO_11 rfl 8 (by decide) (List.mem_of_getElem? (i := 20) rfl) (fun _ h9 => h9) rfl dX10_needNodes_8 ?_
  refine V_callxS_v X _ _ (As := [iv p0, iv ((M 11 8 0))]) (st := []) (c_X10_needIndex l hlt hw) (va_cwS 2 X.2.2.2.1 gX10_needNodes_X10_needIndex rfl rfl rfl (by decide +kernel) ⟨Nat.le_of_ble_eq_true rfl, Nat.le_of_ble_eq_true rfl⟩) rfl (Nat.le_of_ble_eq_true rfl) ⟨Nat.le_of_ble_eq_true rfl, Nat.le_of_ble_eq_true rfl⟩ rfl dX10_needNodes_11 (fun E ce q9 M9 H9 locs9 ls9 hx9 hP9 hD9 hS9 hl9 h91 h92 h93 => V_xout X htab (Nat.le_of_ble_eq_true rfl) (Nat.le_of_ble_eq_true rfl) hx9 hP9 hD9 hS9 h91 h92 h93) (fun M2 hw => ?_)
  refine V_iload_n X dX10_needNodes_14 rfl (q := 2) rfl ?_
  refine V_aload_n X dX10_needNodes_15 rfl (q := 0) rfl ?_
  refine V_get (C := RX10) (T := TX10) (N := 9) (ci := 10) X hi_X10_needNodes_10 gO_0 rfl 0 (by decide) lk_X10_needNodes_f10 (fun _ h9 => h9) rfl dX10_needNodes_16 ?_
  refine V_getN (C := RX1) (T := TX1) (N := 6) (ci := 1) X hi_X10_needNodes_1 gO_1 rfl 5 (by decide) (List.mem_of_getElem? (i := 42) rfl) (fun _ h9 => h9) rfl dX10_needNodes_19 ?_
  refine V_getN (C := RX9) (T := TX9) (N := 9) (ci := 9) X hi_X10_needNodes_9 gO_12 rfl 8 (by decide) (List.mem_of_getElem? (i := 20) rfl) (fun _ h9 => h9) rfl dX10_needNodes_22 ?_
  refine V_callxS_v X _ _ (As := [iv p1, iv ((M2 12 8 0))]) (st := []) (c_X10_needIndex l hlt hw) (va_cwS 2 X.2.2.2.1 gX10_needNodes_X10_needIndex rfl rfl rfl (by decide +kernel) ⟨Nat.le_of_ble_eq_true rfl, Nat.le_of_ble_eq_true rfl⟩) rfl (Nat.le_of_ble_eq_true rfl) ⟨Nat.le_of_ble_eq_true rfl, Nat.le_of_ble_eq_true rfl⟩ rfl dX10_needNodes_25 (fun E ce q9 M9 H9 locs9 ls9 hx9 hP9 hD9 hS9 hl9 h91 h92 h93 => V_xout X htab (Nat.le_of_ble_eq_true rfl) (Nat.le_of_ble_eq_true rfl) hx9 hP9 hD9 hS9 h91 h92 h93) (fun M4 hw => ?_)
  exact V_xret (Nat.le_of_ble_eq_true rfl) (Nat.le_of_ble_eq_true rfl) (V_vret X hr hw dX10_needNodes_28)
set_option maxHeartbeats 4000000 in
set_option maxRecDepth 100000 in
theorem c_X10_needNodes (l : Launch) {p0 : Int} {p1 : Int} (hlt : l.stackTraces = false) {D : va_G} {g : GT} {A : Nat → Prop} {a : Nat → Nat} {b : Nat → Nat → Nat} {M : Mem} {Q : Mem → Prop} {XQ : String → Mem → Prop} (hw : wp_X10_needNodes M p0 p1 Q XQ) : vx_Met l yX10_needNodes wsX10_needNodes ({ frames := 7, cells := 2, slots := 12, locals := 111 } : Room) (cPc D g A a b M [.ref (a 0), iv p0, iv p1]) (cQv D g A a b Q) (cX D g A a b XQ) 2 12 A := by
  refine vx_ofW (cc := cX10_needNodes) (maxL := 3) (ret := none) (by decide) rfl ?_
  intro p e s m args below meth c s₁ B hml htab hv
  obtain ⟨rfl, hP, hD, hG⟩ := hv
  have X : vC p s m _ meth c D g A RX10 wsX10_needNodes cX10_needNodes 3 := ⟨B.exec, B.bytes, findClass_of_methodNamed B.named, atoms_spec (ws := wsX10_needNodes) B.pre, hG, hml, B.notSynchronized⟩
  have hr := B.returns
  have hl := lv_entry ([.ref (a 0), iv p0, iv p1]) (n := 3) (Nat.le_of_ble_eq_true rfl)
  rw [lg_entry_eq]
  generalize (lg_sl ([.ref (a 0), iv p0, iv p1]) ++ List.replicate (3 - (lg_sl ([.ref (a 0), iv p0, iv p1])).length) Slot.unset).toArray = ls at hl ⊢
  have hl : lv_has ls 3 [(0, .ref (a 0)), (1, iv p0), (2, iv p1)] := hl
  exact wke_X10_needNodes X hr hlt htab hw s.heap [] ls hP hD va_S.rf hl

set_option maxRecDepth 20000 in
theorem ggX11_clear_X11_isTree : GoodIn wsX11_clear wsX11_isTree := goodIn_r _ [5, 6, 7, 4, 8] (by decide +kernel) (by decide +kernel)
set_option maxRecDepth 20000 in
theorem gX11_clear_X11_isTree : GoodIn wsX11_clear (va_wsS RX11 79 yX11_isTree wsX11_isTree) := goodIn_app (goodIn_of _ (by decide +kernel)) ggX11_clear_X11_isTree
set_option maxRecDepth 20000 in
theorem ggX11_clear_X11_goes : GoodIn wsX11_clear wsX11_goes := goodIn_r _ [12, 13, 14, 15, 16, 17, 18, 19, 20, 21, 22, 23, 24, 25, 26, 27, 28, 29, 30, 31, 32, 33, 34, 35, 36, 37] (by decide +kernel) (by decide +kernel)
set_option maxRecDepth 20000 in
theorem gX11_clear_X11_goes : GoodIn wsX11_clear (wsV RX11 87 RX11 yX11_goes wsX11_goes) := goodIn_app (goodIn_of _ (by decide +kernel)) ggX11_clear_X11_goes
theorem dX11_clear_0 : decode cX11_clear 0 = .ok (.aload_n 0, 1) := by decide +kernel
theorem dX11_clear_1 : decode cX11_clear 1 = .ok (.iload_n 1, 1) := by decide +kernel
theorem dX11_clear_2 : decode cX11_clear 2 = .ok (.invokestatic 79, 3) := by decide +kernel
theorem dX11_clear_5 : decode cX11_clear 5 = .ok (.iconst 1, 1) := by decide +kernel
theorem dX11_clear_6 : decode cX11_clear 6 = .ok (.iconst 1, 1) := by decide +kernel
theorem dX11_clear_7 : decode cX11_clear 7 = .ok (.invokevirtual 87, 3) := by decide +kernel
theorem dX11_clear_10 : decode cX11_clear 10 = .ok (.ifCond .eq 10, 3) := by decide +kernel
theorem dX11_clear_13 : decode cX11_clear 13 = .ok (.aload_n 0, 1) := by decide +kernel
theorem dX11_clear_14 : decode cX11_clear 14 = .ok (.getfield 25, 3) := by decide +kernel
theorem dX11_clear_17 : decode cX11_clear 17 = .ok (.iload_n 1, 1) := by decide +kernel
theorem dX11_clear_18 : decode cX11_clear 18 = .ok (.iconst 0, 1) := by decide +kernel
theorem dX11_clear_19 : decode cX11_clear 19 = .ok (.iastore, 1) := by decide +kernel
theorem dX11_clear_20 : decode cX11_clear 20 = .ok (.return_, 1) := by decide +kernel
theorem lk_X11_clear_f25 : Cond.fieldLink RX11 25 "TreeComparerModel" "many" "[I" ∈ wsX11_clear := by decide +kernel
theorem hi_X11_clear_11 : ∀ w ∈ u_ws RX11 TX11 24, w ∈ wsX11_clear := by decide +kernel
def wpe_X11_clear (p0 : Int) (M : Mem) (Q : Mem → Prop) : Prop := wp_X11_isTree M p0 (fun y1 M2 => wp_X11_goes M2 y1 1 1 (fun y3 M4 => inR y3 ∧ ((y3 = 0 → Q M4) ∧ (¬ (y3 = 0) → ((0 : Int) ≤ p0 ∧ p0 < 2) ∧ (∀ M7 : Mem, M7 = mset M4 13 5 p0.toNat 0 → Q M7)))))
def wp_X11_clear (M : Mem) (p0 : Int) (Q : Mem → Prop) : Prop := wpe_X11_clear p0 M Q
set_option maxHeartbeats 4000000 in
set_option maxRecDepth 100000 in
theorem wke_X11_clear {p : Program} {l : Launch} {e : Env} {s : State} {m : MethodId} {args : Array Value} {below : List Frame} {meth : Method} {c : Code} {D : va_G} {g : GT} {A : Nat → Prop} {a : Nat → Nat} {b : Nat → Nat → Nat} (X : vC p s m args meth c D g A RX11 wsX11_clear cX11_clear 2) (hr : meth.sig.returnType = none) {p0 : Int} {M : Mem} {Q : Mem → Prop} (hw : wpe_X11_clear p0 M Q) : vV p l e ({ frames := 2, cells := 0, slots := 0, locals := 42 } : Room) s m args below meth c D g A a b 2 0 0 (MQ below (cQv D g A a b Q) args s 0 0 A) M [(0, .ref (a 13)), (1, iv p0)] 0 [] := by
  unfold wpe_X11_clear at hw
  refine V_aload_n X dX11_clear_0 rfl (q := 0) rfl ?_
  refine V_iload_n X dX11_clear_1 rfl (q := 1) rfl ?_
  refine V_callS_i X _ (As := [iv p0]) (st := [.ref (a 13)]) (c_X11_isTree l hw) (va_cwS 1 X.2.2.2.1 gX11_clear_X11_isTree rfl rfl rfl (by decide +kernel) ⟨Nat.le_of_ble_eq_true rfl, Nat.le_of_ble_eq_true rfl⟩) rfl (Nat.le_of_ble_eq_true rfl) ⟨Nat.le_of_ble_eq_true rfl, Nat.le_of_ble_eq_true rfl⟩ rfl dX11_clear_2 (fun y1 M2 hw => ?_)
  refine V_iconst X dX11_clear_5 ?_
  refine V_iconst X dX11_clear_6 ?_
  refine V_callV_i X _ gO_13 rfl (As := [iv y1, iv 1, iv 1]) (st := []) (c_X11_goes l hw) (cwV 3 X.2.2.2.1 gX11_clear_X11_goes rfl rfl rfl (by decide +kernel) ⟨Nat.le_of_ble_eq_true rfl, Nat.le_of_ble_eq_true rfl⟩) rfl (Nat.le_of_ble_eq_true rfl) ⟨Nat.le_of_ble_eq_true rfl, Nat.le_of_ble_eq_true rfl⟩ rfl dX11_clear_7 (fun y3 M4 hw => ?_)
  obtain ⟨h5, hw⟩ := hw
  refine V_if_eq (tgt := 20) X h5 dX11_clear_10 (by decide) (fun q6 => ?_) (fun q6 => ?_)
  · have hw := hw.1 q6
    exact V_vret X hr hw dX11_clear_20
  · have hw := hw.2 q6
    refine V_aload_n X dX11_clear_13 rfl (q := 0) rfl ?_
    refine V_get (C := RX11) (T := TX11) (N := 24) (ci := 11) X hi_X11_clear_11 gO_13 rfl 5 (by decide) lk_X11_clear_f25 (fun _ h9 => h9) rfl dX11_clear_14 ?_
    refine V_iload_n X dX11_clear_17 rfl (q := 1) rfl ?_
    refine V_iconst X dX11_clear_18 ?_
    obtain ⟨h8, hw⟩ := hw
    refine V_iast X (gA_13_5) (sA_13_5) h8 (by decide) dX11_clear_19 (fun M7 eM7 => ?_)
    have hw := hw M7 eM7
    exact V_vret X hr hw dX11_clear_20
set_option maxHeartbeats 4000000 in
set_option maxRecDepth 100000 in
theorem c_X11_clear (l : Launch) {p0 : Int} {D : va_G} {g : GT} {A : Nat → Prop} {a : Nat → Nat} {b : Nat → Nat → Nat} {M : Mem} {Q : Mem → Prop} (hw : wp_X11_clear M p0 Q) : Met l yX11_clear wsX11_clear ({ frames := 2, cells := 0, slots := 0, locals := 42 } : Room) (cPc D g A a b M [.ref (a 13), iv p0]) (cQv D g A a b Q) 0 0 A := by
  refine Met.ofW (cc := cX11_clear) (maxL := 2) (ret := none) (by decide) rfl ?_
  intro p e s m args below meth c s₁ B hml hv
  obtain ⟨rfl, hP, hD, hG⟩ := hv
  have X : vC p s m _ meth c D g A RX11 wsX11_clear cX11_clear 2 := ⟨B.exec, B.bytes, findClass_of_methodNamed B.named, atoms_spec (ws := wsX11_clear) B.pre, hG, hml, B.notSynchronized⟩
  have hr := B.returns
  have hl := lv_entry ([.ref (a 13), iv p0]) (n := 2) (Nat.le_of_ble_eq_true rfl)
  rw [lg_entry_eq]
  generalize (lg_sl ([.ref (a 13), iv p0]) ++ List.replicate (2 - (lg_sl ([.ref (a 13), iv p0])).length) Slot.unset).toArray = ls at hl ⊢
  have hl : lv_has ls 2 [(0, .ref (a 13)), (1, iv p0)] := hl
  exact wke_X11_clear X hr  hw s.heap [] ls hP hD va_S.rf hl

set_option maxRecDepth 20000 in
theorem ggX10_partnerOf_X10_needIndex : GoodIn wsX10_partnerOf wsX10_needIndex := goodIn_ca (goodIn_r _ [6, 7, 8] (by decide +kernel) (by decide +kernel)) (goodIn_sub (fun _ h => List.mem_cons_of_mem _ (List.mem_append_right _ h)) (by decide +kernel))
set_option maxRecDepth 20000 in
theorem gX10_partnerOf_X10_needIndex : GoodIn wsX10_partnerOf (va_wsS RX10 81 yX10_needIndex wsX10_needIndex) := goodIn_app (goodIn_of _ (by decide +kernel)) ggX10_partnerOf_X10_needIndex
set_option maxRecDepth 20000 in
theorem ggX10_partnerOf_X10_settle : GoodIn wsX10_partnerOf wsX10_settle := goodIn_r _ [12, 13, 14, 15, 2, 16, 17, 18, 19, 20, 21, 22, 23, 24, 25, 26, 27, 28, 29, 30, 31, 32, 33, 34, 35, 36, 37, 38, 39, 40, 41, 42, 43, 44, 45, 46, 47, 48, 49, 50, 51, 52, 53, 54, 55, 56, 57, 58, 59, 60, 61, 62, 63, 64, 65, 66, 67, 68, 69, 70, 71, 72, 73, 74, 75, 76, 77, 78, 79, 80, 81, 82, 83, 84, 85, 86, 87, 88, 89, 90, 91, 92, 93, 94, 95, 96, 97, 98, 99, 100, 101, 102, 103, 104, 105, 106, 107, 108, 109, 110, 111, 112, 113, 114, 115, 116, 117, 118, 119, 120, 121, 122, 123, 124, 125, 126, 127, 128, 129, 130, 131, 132, 133, 134, 135, 136, 137, 138, 139, 140, 141, 142, 143, 144, 145, 146, 147, 148, 149, 150, 151, 152, 153, 154, 155, 156, 157, 158, 159, 160, 161, 162, 163, 164, 165, 166, 190, 191, 192, 193, 167, 168, 169, 170, 171, 172, 194, 195, 196, 197, 198, 199, 173, 174, 175, 176, 177, 178, 179, 180, 181, 200, 201, 182, 183, 184, 185, 186, 187, 188, 189, 202, 203, 204, 205, 206, 207, 208, 209, 210, 211, 212, 213, 214, 215, 216] (by decide +kernel) (by decide +kernel)
set_option maxRecDepth 20000 in
theorem gX10_partnerOf_X10_settle : GoodIn wsX10_partnerOf (wsV RX10 206 RX10 yX10_settle wsX10_settle) := goodIn_app (goodIn_of _ (by decide +kernel)) ggX10_partnerOf_X10_settle
theorem dX10_partnerOf_0 : decode cX10_partnerOf 0 = .ok (.iload_n 1, 1) := by decide +kernel
theorem dX10_partnerOf_1 : decode cX10_partnerOf 1 = .ok (.aload_n 0, 1) := by decide +kernel
theorem dX10_partnerOf_2 : decode cX10_partnerOf 2 = .ok (.getfield 10, 3) := by decide +kernel
theorem dX10_partnerOf_5 : decode cX10_partnerOf 5 = .ok (.getfield 123, 3) := by decide +kernel
theorem dX10_partnerOf_8 : decode cX10_partnerOf 8 = .ok (.getfield 88, 3) := by decide +kernel
theorem dX10_partnerOf_11 : decode cX10_partnerOf 11 = .ok (.invokestatic 81, 3) := by decide +kernel
theorem dX10_partnerOf_14 : decode cX10_partnerOf 14 = .ok (.aload_n 0, 1) := by decide +kernel
theorem dX10_partnerOf_15 : decode cX10_partnerOf 15 = .ok (.invokevirtual 206, 3) := by decide +kernel
theorem dX10_partnerOf_18 : decode cX10_partnerOf 18 = .ok (.aload_n 0, 1) := by decide +kernel
theorem dX10_partnerOf_19 : decode cX10_partnerOf 19 = .ok (.getfield 53, 3) := by decide +kernel
theorem dX10_partnerOf_22 : decode cX10_partnerOf 22 = .ok (.getfield 210, 3) := by decide +kernel
theorem dX10_partnerOf_25 : decode cX10_partnerOf 25 = .ok (.iload_n 1, 1) := by decide +kernel
theorem dX10_partnerOf_26 : decode cX10_partnerOf 26 = .ok (.iaload, 1) := by decide +kernel
theorem dX10_partnerOf_27 : decode cX10_partnerOf 27 = .ok (.ireturn, 1) := by decide +kernel
theorem lk_X10_partnerOf_f10 : Cond.fieldLink RX10 10 "TreeComparer" "given" "LTreeComparer$Given;" ∈ wsX10_partnerOf := by decide +kernel
theorem hi_X10_partnerOf_10 : ∀ w ∈ u_ws RX10 TX10 9, w ∈ wsX10_partnerOf := by decide +kernel
theorem hi_X10_partnerOf_1 : ∀ w ∈ u_ws RX1 TX1 6, w ∈ wsX10_partnerOf := by decide +kernel
theorem hi_X10_partnerOf_9 : ∀ w ∈ u_ws RX9 TX9 9, w ∈ wsX10_partnerOf := by decide +kernel
theorem lk_X10_partnerOf_f53 : Cond.fieldLink RX10 53 "TreeComparer" "mapping" "LTreeComparer$Mapping;" ∈ wsX10_partnerOf := by decide +kernel
theorem hi_X10_partnerOf_4 : ∀ w ∈ u_ws RX4 TX4 8, w ∈ wsX10_partnerOf := by decide +kernel
def wpe_X10_partnerOf (p0 : Int) (M : Mem) (Q : Int → Mem → Prop) (XQ : String → Mem → Prop) : Prop := wp_X10_needIndex M p0 ((M 11 8 0)) (fun M2 => wp_X10_settle M2 (fun M4 => ((0 : Int) ≤ p0 ∧ p0 < 12) ∧ Q ((M4 6 2 p0.toNat)) M4)) XQ
def wp_X10_partnerOf (M : Mem) (p0 : Int) (Q : Int → Mem → Prop) (XQ : String → Mem → Prop) : Prop := wpe_X10_partnerOf p0 M Q XQ
set_option maxHeartbeats 4000000 in
set_option maxRecDepth 100000 in
theorem wke_X10_partnerOf {p : Program} {l : Launch} {e : Env} {s : State} {m : MethodId} {args : Array Value} {below : List Frame} {meth : Method} {c : Code} {D : va_G} {g : GT} {A : Nat → Prop} {a : Nat → Nat} {b : Nat → Nat → Nat} (X : vC p s m args meth c D g A RX10 wsX10_partnerOf cX10_partnerOf 2) (hr : meth.sig.returnType = (some .int)) {p0 : Int} (hlt : l.stackTraces = false) (htab : ∀ x ∈ c.exceptionTable.toList, False) {M : Mem} {Q : Int → Mem → Prop} {XQ : String → Mem → Prop} (hw : wpe_X10_partnerOf p0 M Q XQ) : vV p l e ({ frames := 33, cells := 1, slots := 6, locals := 1084 } : Room) s m args below meth c D g A a b 2 0 0 (vx_MQ below (cQi D g A a b Q) (cX D g A a b XQ) args s 1 6 A) M [(0, .ref (a 0)), (1, iv p0)] 0 [] := by
  unfold wpe_X10_partnerOf at hw
  refine V_iload_n X dX10_partnerOf_0 rfl (q := 1) rfl ?_
  refine V_aload_n X dX10_partnerOf_1 rfl (q := 0) rfl ?_
  refine V_get (C := RX10) (T := TX10) (N := 9) (ci := 10) X hi_X10_partnerOf_10 gO_0 rfl 0 (by decide) lk_X10_partnerOf_f10 (fun _ h9 => h9) rfl dX10_partnerOf_2 ?_
  refine V_getN (C := RX1) (T := TX1) (N := 6) (ci := 1) X hi_X10_partnerOf_1 gO_1 rfl 4 (by decide) (List.mem_of_getElem? (i := 38) rfl) (fun _ h9 => h9) rfl dX10_partnerOf_5 ?_
  refine V_getN (C := RX9) (T := TX9) (N := 9) (ci := 9) X hi_X10_partnerOf_9 gO_11 rfl 8 (by decide) (List.mem_of_getElem? (i := 20) rfl) (fun _ h9 => h9) rfl dX10_partnerOf_8 ?_
  refine V_callxS_v X _ _ (As := [iv p0, iv ((M 11 8 0))]) (st := []) (c_X10_needIndex l hlt hw) (va_cwS 2 X.2.2.2.1 gX10_partnerOf_X10_needIndex rfl rfl rfl (by decide +kernel) ⟨Nat.le_of_ble_eq_true rfl, Nat.le_of_ble_eq_true rfl⟩) rfl (Nat.le_of_ble_eq_true rfl) ⟨Nat.le_of_ble_eq_true rfl, Nat.le_of_ble_eq_true rfl⟩ rfl dX10_partnerOf_11 (fun E ce q9 M9 H9 locs9 ls9 hx9 hP9 hD9 hS9 hl9 h91 h92 h93 => V_xout X htab (Nat.le_of_ble_eq_true rfl) (Nat.le_of_ble_eq_true rfl) hx9 hP9 hD9 hS9 h91 h92 h93) (fun M2 hw => ?_)
  refine V_aload_n X dX10_partnerOf_14 rfl (q := 0) rfl ?_
  refine V_callV_v X _ gO_0 rfl (As := []) (st := []) (c_X10_settle l hw) (cwV 0 X.2.2.2.1 gX10_partnerOf_X10_settle rfl rfl rfl (by decide +kernel) ⟨Nat.le_of_ble_eq_true rfl, Nat.le_of_ble_eq_true rfl⟩) rfl (Nat.le_of_ble_eq_true rfl) ⟨Nat.le_of_ble_eq_true rfl, Nat.le_of_ble_eq_true rfl⟩ rfl dX10_partnerOf_15 (fun M4 hw => ?_)
  refine V_aload_n X dX10_partnerOf_18 rfl (q := 0) rfl ?_
  refine V_get (C := RX10) (T := TX10) (N := 9) (ci := 10) X hi_X10_partnerOf_10 gO_0 rfl 5 (by decide) lk_X10_partnerOf_f53 (fun _ h9 => h9) rfl dX10_partnerOf_19 ?_
  refine V_getN (C := RX4) (T := TX4) (N := 8) (ci := 4) X hi_X10_partnerOf_4 gO_6 rfl 2 (by decide) (List.mem_of_getElem? (i := 73) rfl) (fun _ h9 => h9) rfl dX10_partnerOf_22 ?_
  refine V_iload_n X dX10_partnerOf_25 rfl (q := 1) rfl ?_
  obtain ⟨h5, hw⟩ := hw
  refine V_iald X (gA_6_2) h5 (by decide) dX10_partnerOf_26 ?_
  exact V_xret (Nat.le_of_ble_eq_true rfl) (Nat.le_of_ble_eq_true rfl) (V_iret X hr hw dX10_partnerOf_27)
set_option maxHeartbeats 4000000 in
set_option maxRecDepth 100000 in
theorem c_X10_partnerOf (l : Launch) {p0 : Int} (hlt : l.stackTraces = false) {D : va_G} {g : GT} {A : Nat → Prop} {a : Nat → Nat} {b : Nat → Nat → Nat} {M : Mem} {Q : Int → Mem → Prop} {XQ : String → Mem → Prop} (hw : wp_X10_partnerOf M p0 Q XQ) : vx_Met l yX10_partnerOf wsX10_partnerOf ({ frames := 33, cells := 1, slots := 6, locals := 1084 } : Room) (cPc D g A a b M [.ref (a 0), iv p0]) (cQi D g A a b Q) (cX D g A a b XQ) 1 6 A := by
  refine vx_ofW (cc := cX10_partnerOf) (maxL := 2) (ret := (some .int)) (by decide) rfl ?_
  intro p e s m args below meth c s₁ B hml htab hv
  obtain ⟨rfl, hP, hD, hG⟩ := hv
  have X : vC p s m _ meth c D g A RX10 wsX10_partnerOf cX10_partnerOf 2 := ⟨B.exec, B.bytes, findClass_of_methodNamed B.named, atoms_spec (ws := wsX10_partnerOf) B.pre, hG, hml, B.notSynchronized⟩
  have hr := B.returns
  have hl := lv_entry ([.ref (a 0), iv p0]) (n := 2) (Nat.le_of_ble_eq_true rfl)
  rw [lg_entry_eq]
  generalize (lg_sl ([.ref (a 0), iv p0]) ++ List.replicate (2 - (lg_sl ([.ref (a 0), iv p0])).length) Slot.unset).toArray = ls at hl ⊢
  have hl : lv_has ls 2 [(0, .ref (a 0)), (1, iv p0)] := hl
  exact wke_X10_partnerOf X hr hlt htab hw s.heap [] ls hP hD va_S.rf hl

set_option maxRecDepth 20000 in
theorem ggX10_areEqual_X10_needNodes : GoodIn wsX10_areEqual wsX10_needNodes := goodIn_ca (goodIn_r _ [6, 1, 7, 8, 5, 9, 10, 11, 20, 21, 22, 23, 24, 25, 26, 27, 28, 29, 30, 31, 32, 33, 34, 35, 36, 37, 38, 39, 40, 41, 42, 43] (by decide +kernel) (by decide +kernel)) (goodIn_sub (fun _ h => List.mem_cons_of_mem _ (List.mem_append_right _ h)) (by decide +kernel))
set_option maxRecDepth 20000 in
theorem gX10_areEqual_X10_needNodes : GoodIn wsX10_areEqual (wsV RX10 189 RX10 yX10_needNodes wsX10_needNodes) := goodIn_app (goodIn_of _ (by decide +kernel)) ggX10_areEqual_X10_needNodes
set_option maxRecDepth 20000 in
theorem ggX10_areEqual_X9_sameSubtrees : GoodIn wsX10_areEqual wsX9_sameSubtrees := goodIn_r _ [14, 15, 16, 17, 18, 19, 35, 36, 37, 38, 39, 40, 41, 42, 43] (by decide +kernel) (by decide +kernel)
set_option maxRecDepth 20000 in
theorem gX10_areEqual_X9_sameSubtrees_n243 : GoodIn wsX10_areEqual (wsX9_sameSubtrees) := ggX10_areEqual_X9_sameSubtrees
theorem dX10_areEqual_0 : decode cX10_areEqual 0 = .ok (.aload_n 0, 1) := by decide +kernel
theorem dX10_areEqual_1 : decode cX10_areEqual 1 = .ok (.iload_n 1, 1) := by decide +kernel
theorem dX10_areEqual_2 : decode cX10_areEqual 2 = .ok (.iload_n 2, 1) := by decide +kernel
theorem dX10_areEqual_3 : decode cX10_areEqual 3 = .ok (.invokevirtual 189, 3) := by decide +kernel
theorem dX10_areEqual_6 : decode cX10_areEqual 6 = .ok (.aload_n 0, 1) := by decide +kernel
theorem dX10_areEqual_7 : decode cX10_areEqual 7 = .ok (.getfield 10, 3) := by decide +kernel
theorem dX10_areEqual_10 : decode cX10_areEqual 10 = .ok (.getfield 123, 3) := by decide +kernel
theorem dX10_areEqual_13 : decode cX10_areEqual 13 = .ok (.iload_n 1, 1) := by decide +kernel
theorem dX10_areEqual_14 : decode cX10_areEqual 14 = .ok (.aload_n 0, 1) := by decide +kernel
theorem dX10_areEqual_15 : decode cX10_areEqual 15 = .ok (.getfield 10, 3) := by decide +kernel
theorem dX10_areEqual_18 : decode cX10_areEqual 18 = .ok (.getfield 127, 3) := by decide +kernel
theorem dX10_areEqual_21 : decode cX10_areEqual 21 = .ok (.iload_n 2, 1) := by decide +kernel
theorem dX10_areEqual_22 : decode cX10_areEqual 22 = .ok (.invokestatic 243, 3) := by decide +kernel
theorem dX10_areEqual_25 : decode cX10_areEqual 25 = .ok (.ireturn, 1) := by decide +kernel
theorem lk_X10_areEqual_f10 : Cond.fieldLink RX10 10 "TreeComparer" "given" "LTreeComparer$Given;" ∈ wsX10_areEqual := by decide +kernel
theorem hi_X10_areEqual_10 : ∀ w ∈ u_ws RX10 TX10 9, w ∈ wsX10_areEqual := by decide +kernel
theorem hi_X10_areEqual_1 : ∀ w ∈ u_ws RX1 TX1 6, w ∈ wsX10_areEqual := by decide +kernel
theorem lk_X10_areEqual_i9 : Cond.initialized RX9 ∈ wsX10_areEqual := by decide +kernel
theorem lk_X10_areEqual_im243 : Cond.static yX9_sameSubtrees ∈ wsX10_areEqual := by decide +kernel
def wpe_X10_areEqual (p0 : Int) (p1 : Int) (M : Mem) (Q : Int → Mem → Prop) (XQ : String → Mem → Prop) : Prop := wp_X10_needNodes M p0 p1 (fun M2 => wp_X9_sameSubtrees M2 11 p0 12 p1 (fun y3 M4 => (y3 = 0 ∨ y3 = 1) ∧ Q y3 M4)) XQ
def wp_X10_areEqual (M : Mem) (p0 : Int) (p1 : Int) (Q : Int → Mem → Prop) (XQ : String → Mem → Prop) : Prop := wpe_X10_areEqual p0 p1 M Q XQ
set_option maxHeartbeats 4000000 in
set_option maxRecDepth 100000 in
theorem wke_X10_areEqual {p : Program} {l : Launch} {e : Env} {s : State} {m : MethodId} {args : Array Value} {below : List Frame} {meth : Method} {c : Code} {D : va_G} {g : GT} {A : Nat → Prop} {a : Nat → Nat} {b : Nat → Nat → Nat} (X : vC p s m args meth c D g A RX10 wsX10_areEqual cX10_areEqual 3) (hr : meth.sig.returnType = (some .boolean)) {p0 : Int} {p1 : Int} (hlt : l.stackTraces = false) (htab : ∀ x ∈ c.exceptionTable.toList, False) {M : Mem} {Q : Int → Mem → Prop} {XQ : String → Mem → Prop} (hw : wpe_X10_areEqual p0 p1 M Q XQ) : vV p l e ({ frames := 8, cells := 2, slots := 12, locals := 133 } : Room) s m args below meth c D g A a b 3 0 0 (vx_MQ below (cQi D g A a b Q) (cX D g A a b XQ) args s 2 12 A) M [(0, .ref (a 0)), (1, iv p0), (2, iv p1)] 0 [] := by
  unfold wpe_X10_areEqual at hw
  refine V_aload_n X dX10_areEqual_0 rfl (q := 0) rfl ?_
  refine V_iload_n X dX10_areEqual_1 rfl (q := 1) rfl ?_
  refine V_iload_n X dX10_areEqual_2 rfl (q := 2) rfl ?_
  refine V_callxV_v X _ _ gO_0 rfl (As := [iv p0, iv p1]) (st := []) (c_X10_needNodes l hlt hw) (cwV 2 X.2.2.2.1 gX10_areEqual_X10_needNodes rfl rfl rfl (by decide +kernel) ⟨Nat.le_of_ble_eq_true rfl, Nat.le_of_ble_eq_true rfl⟩) rfl (Nat.le_of_ble_eq_true rfl) ⟨Nat.le_of_ble_eq_true rfl, Nat.le_of_ble_eq_true rfl⟩ rfl dX10_areEqual_3 (fun E ce q9 M9 H9 locs9 ls9 hx9 hP9 hD9 hS9 hl9 h91 h92 h93 => V_xout X htab (Nat.le_of_ble_eq_true rfl) (Nat.le_of_ble_eq_true rfl) hx9 hP9 hD9 hS9 h91 h92 h93) (fun M2 hw => ?_)
  refine V_aload_n X dX10_areEqual_6 rfl (q := 0) rfl ?_
  refine V_get (C := RX10) (T := TX10) (N := 9) (ci := 10) X hi_X10_areEqual_10 gO_0 rfl 0 (by decide) lk_X10_areEqual_f10 (fun _ h9 => h9) rfl dX10_areEqual_7 ?_
  refine V_getN (C := RX1) (T := TX1) (N := 6) (ci := 1) X hi_X10_areEqual_1 gO_1 rfl 4 (by decide) (List.mem_of_getElem? (i := 38) rfl) (fun _ h9 => h9) rfl dX10_areEqual_10 ?_
  refine V_iload_n X dX10_areEqual_13 rfl (q := 1) rfl ?_
  refine V_aload_n X dX10_areEqual_14 rfl (q := 0) rfl ?_
  refine V_get (C := RX10) (T := TX10) (N := 9) (ci := 10) X hi_X10_areEqual_10 gO_0 rfl 0 (by decide) lk_X10_areEqual_f10 (fun _ h9 => h9) rfl dX10_areEqual_15 ?_
  refine V_getN (C := RX1) (T := TX1) (N := 6) (ci := 1) X hi_X10_areEqual_1 gO_1 rfl 5 (by decide) (List.mem_of_getElem? (i := 42) rfl) (fun _ h9 => h9) rfl dX10_areEqual_18 ?_
  refine V_iload_n X dX10_areEqual_21 rfl (q := 2) rfl ?_
  refine V_callSN_i X _ (As := [.ref (a 11), iv p0, .ref (a 12), iv p1]) (st := []) (c_X9_sameSubtrees l (by first | exact Or.inl rfl | exact Or.inr rfl) (by first | exact Or.inl rfl | exact Or.inr rfl) hw) ⟨va_cnB 4 X.2.2.2.1 gX10_areEqual_X9_sameSubtrees_n243 rfl rfl rfl (X.2.2.2.2.1.2.1 _ (List.mem_of_getElem? (i := 134) rfl)) (X.2.2.2.1 _ lk_X10_areEqual_i9) (by decide +kernel) ⟨Nat.le_of_ble_eq_true rfl, Nat.le_of_ble_eq_true rfl⟩, X.2.2.2.1 _ lk_X10_areEqual_im243, trivial⟩ rfl (Nat.le_of_ble_eq_true rfl) ⟨Nat.le_of_ble_eq_true rfl, Nat.le_of_ble_eq_true rfl⟩ rfl dX10_areEqual_22 (fun y3 M4 hw => ?_)
  obtain ⟨h5, hw⟩ := hw
  exact V_xret (Nat.le_of_ble_eq_true rfl) (Nat.le_of_ble_eq_true rfl) (V_zret X hr h5 hw dX10_areEqual_25)
set_option maxHeartbeats 4000000 in
set_option maxRecDepth 100000 in
theorem c_X10_areEqual (l : Launch) {p0 : Int} {p1 : Int} (hlt : l.stackTraces = false) {D : va_G} {g : GT} {A : Nat → Prop} {a : Nat → Nat} {b : Nat → Nat → Nat} {M : Mem} {Q : Int → Mem → Prop} {XQ : String → Mem → Prop} (hw : wp_X10_areEqual M p0 p1 Q XQ) : vx_Met l yX10_areEqual wsX10_areEqual ({ frames := 8, cells := 2, slots := 12, locals := 133 } : Room) (cPc D g A a b M [.ref (a 0), iv p0, iv p1]) (cQi D g A a b Q) (cX D g A a b XQ) 2 12 A := by
  refine vx_ofW (cc := cX10_areEqual) (maxL := 3) (ret := (some .boolean)) (by decide) rfl ?_
  intro p e s m args below meth c s₁ B hml htab hv
  obtain ⟨rfl, hP, hD, hG⟩ := hv
  have X : vC p s m _ meth c D g A RX10 wsX10_areEqual cX10_areEqual 3 := ⟨B.exec, B.bytes, findClass_of_methodNamed B.named, atoms_spec (ws := wsX10_areEqual) B.pre, hG, hml, B.notSynchronized⟩
  have hr := B.returns
  have hl := lv_entry ([.ref (a 0), iv p0, iv p1]) (n := 3) (Nat.le_of_ble_eq_true rfl)
  rw [lg_entry_eq]
  generalize (lg_sl ([.ref (a 0), iv p0, iv p1]) ++ List.replicate (3 - (lg_sl ([.ref (a 0), iv p0, iv p1])).length) Slot.unset).toArray = ls at hl ⊢
  have hl : lv_has ls 3 [(0, .ref (a 0)), (1, iv p0), (2, iv p1)] := hl
  exact wke_X10_areEqual X hr hlt htab hw s.heap [] ls hP hD va_S.rf hl

set_option maxRecDepth 20000 in
theorem ggX10_movesTo_X10_needIndex : GoodIn wsX10_movesTo wsX10_needIndex := goodIn_ca (goodIn_r _ [6, 7, 8] (by decide +kernel) (by decide +kernel)) (goodIn_sub (fun _ h => List.mem_cons_of_mem _ (List.mem_append_right _ h)) (by decide +kernel))
set_option maxRecDepth 20000 in
theorem gX10_movesTo_X10_needIndex : GoodIn wsX10_movesTo (va_wsS RX10 81 yX10_needIndex wsX10_needIndex) := goodIn_app (goodIn_of _ (by decide +kernel)) ggX10_movesTo_X10_needIndex
set_option maxRecDepth 20000 in
theorem ggX10_movesTo_X10_settle : GoodIn wsX10_movesTo wsX10_settle := goodIn_r _ [12, 13, 14, 15, 16, 17, 2, 18, 19, 20, 21, 22, 23, 24, 25, 26, 27, 28, 29, 30, 31, 32, 33, 34, 35, 36, 37, 38, 39, 40, 41, 42, 43, 44, 45, 46, 47, 48, 49, 50, 51, 52, 53, 54, 55, 56, 57, 58, 59, 60, 61, 62, 63, 64, 65, 66, 67, 68, 69, 70, 71, 72, 73, 74, 75, 76, 77, 78, 79, 80, 81, 82, 83, 84, 85, 86, 87, 88, 89, 90, 91, 92, 93, 94, 95, 96, 97, 98, 99, 100, 101, 102, 103, 104, 105, 106, 107, 108, 109, 110, 111, 112, 113, 114, 115, 116, 117, 118, 119, 120, 121, 122, 123, 124, 125, 126, 127, 128, 129, 130, 131, 132, 133, 134, 135, 136, 137, 138, 139, 140, 141, 142, 143, 144, 145, 146, 147, 148, 149, 150, 151, 152, 153, 154, 155, 156, 157, 158, 159, 160, 161, 162, 163, 164, 165, 166, 188, 189, 190, 191, 167, 168, 169, 170, 171, 172, 192, 193, 194, 195, 196, 197, 173, 174, 175, 176, 177, 178, 179, 180, 181, 198, 199, 200, 201, 202, 203, 204, 205, 206, 207, 208, 209, 210, 211, 212, 213, 214, 215, 216, 182, 183, 184, 185, 186, 187] (by decide +kernel) (by decide +kernel)
set_option maxRecDepth 20000 in
theorem gX10_movesTo_X10_settle : GoodIn wsX10_movesTo (wsV RX10 206 RX10 yX10_settle wsX10_settle) := goodIn_app (goodIn_of _ (by decide +kernel)) ggX10_movesTo_X10_settle
theorem dX10_movesTo_0 : decode cX10_movesTo 0 = .ok (.iload_n 1, 1) := by decide +kernel
theorem dX10_movesTo_1 : decode cX10_movesTo 1 = .ok (.aload_n 0, 1) := by decide +kernel
theorem dX10_movesTo_2 : decode cX10_movesTo 2 = .ok (.getfield 10, 3) := by decide +kernel
theorem dX10_movesTo_5 : decode cX10_movesTo 5 = .ok (.getfield 123, 3) := by decide +kernel
theorem dX10_movesTo_8 : decode cX10_movesTo 8 = .ok (.getfield 88, 3) := by decide +kernel
theorem dX10_movesTo_11 : decode cX10_movesTo 11 = .ok (.invokestatic 81, 3) := by decide +kernel
theorem dX10_movesTo_14 : decode cX10_movesTo 14 = .ok (.aload_n 0, 1) := by decide +kernel
theorem dX10_movesTo_15 : decode cX10_movesTo 15 = .ok (.invokevirtual 206, 3) := by decide +kernel
theorem dX10_movesTo_18 : decode cX10_movesTo 18 = .ok (.aload_n 0, 1) := by decide +kernel
theorem dX10_movesTo_19 : decode cX10_movesTo 19 = .ok (.getfield 69, 3) := by decide +kernel
theorem dX10_movesTo_22 : decode cX10_movesTo 22 = .ok (.getfield 251, 3) := by decide +kernel
theorem dX10_movesTo_25 : decode cX10_movesTo 25 = .ok (.iload_n 1, 1) := by decide +kernel
theorem dX10_movesTo_26 : decode cX10_movesTo 26 = .ok (.iaload, 1) := by decide +kernel
theorem dX10_movesTo_27 : decode cX10_movesTo 27 = .ok (.ireturn, 1) := by decide +kernel
theorem lk_X10_movesTo_f10 : Cond.fieldLink RX10 10 "TreeComparer" "given" "LTreeComparer$Given;" ∈ wsX10_movesTo := by decide +kernel
theorem hi_X10_movesTo_10 : ∀ w ∈ u_ws RX10 TX10 9, w ∈ wsX10_movesTo := by decide +kernel
theorem hi_X10_movesTo_1 : ∀ w ∈ u_ws RX1 TX1 6, w ∈ wsX10_movesTo := by decide +kernel
theorem hi_X10_movesTo_9 : ∀ w ∈ u_ws RX9 TX9 9, w ∈ wsX10_movesTo := by decide +kernel
theorem lk_X10_movesTo_f69 : Cond.fieldLink RX10 69 "TreeComparer" "moving" "LTreeComparer$Moves;" ∈ wsX10_movesTo := by decide +kernel
theorem hi_X10_movesTo_5 : ∀ w ∈ u_ws RX5 TX5 6, w ∈ wsX10_movesTo := by decide +kernel
def wpe_X10_movesTo (p0 : Int) (M : Mem) (Q : Int → Mem → Prop) (XQ : String → Mem → Prop) : Prop := wp_X10_needIndex M p0 ((M 11 8 0)) (fun M2 => wp_X10_settle M2 (fun M4 => ((0 : Int) ≤ p0 ∧ p0 < 12) ∧ Q ((M4 8 2 p0.toNat)) M4)) XQ
def wp_X10_movesTo (M : Mem) (p0 : Int) (Q : Int → Mem → Prop) (XQ : String → Mem → Prop) : Prop := wpe_X10_movesTo p0 M Q XQ
set_option maxHeartbeats 4000000 in
set_option maxRecDepth 100000 in
theorem wke_X10_movesTo {p : Program} {l : Launch} {e : Env} {s : State} {m : MethodId} {args : Array Value} {below : List Frame} {meth : Method} {c : Code} {D : va_G} {g : GT} {A : Nat → Prop} {a : Nat → Nat} {b : Nat → Nat → Nat} (X : vC p s m args meth c D g A RX10 wsX10_movesTo cX10_movesTo 2) (hr : meth.sig.returnType = (some .int)) {p0 : Int} (hlt : l.stackTraces = false) (htab : ∀ x ∈ c.exceptionTable.toList, False) {M : Mem} {Q : Int → Mem → Prop} {XQ : String → Mem → Prop} (hw : wpe_X10_movesTo p0 M Q XQ) : vV p l e ({ frames := 33, cells := 1, slots := 6, locals := 1084 } : Room) s m args below meth c D g A a b 2 0 0 (vx_MQ below (cQi D g A a b Q) (cX D g A a b XQ) args s 1 6 A) M [(0, .ref (a 0)), (1, iv p0)] 0 [] := by
  unfold wpe_X10_movesTo at hw
  refine V_iload_n X dX10_movesTo_0 rfl (q := 1) rfl ?_
  refine V_aload_n X dX10_movesTo_1 rfl (q := 0) rfl ?_
  refine V_get (C := RX10) (T := TX10) (N := 9) (ci := 10) X hi_X10_movesTo_10 gO_0 rfl 0 (by decide) lk_X10_movesTo_f10 (fun _ h9 => h9) rfl dX10_movesTo_2 ?_
  refine V_getN (C := RX1) (T := TX1) (N := 6) (ci := 1) X hi_X10_movesTo_1 gO_1 rfl 4 (by decide) (List.mem_of_getElem? (i := 38) rfl) (fun _ h9 => h9) rfl dX10_movesTo_5 ?_
  refine V_getN (C := RX9) (T := TX9) (N := 9) (ci := 9) X hi_X10_movesTo_9 gO_11 rfl 8 (by decide) (List.mem_of_getElem? (i := 20) rfl) (fun _ h9 => h9) rfl dX10_movesTo_8 ?_
  refine V_callxS_v X _ _ (As := [iv p0, iv ((M 11 8 0))]) (st := []) (c_X10_needIndex l hlt hw) (va_cwS 2 X.2.2.2.1 gX10_movesTo_X10_needIndex rfl rfl rfl (by decide +kernel) ⟨Nat.le_of_ble_eq_true rfl, Nat.le_of_ble_eq_true rfl⟩) rfl (Nat.le_of_ble_eq_true rfl) ⟨Nat.le_of_ble_eq_true rfl, Nat.le_of_ble_eq_true rfl⟩ rfl dX10_movesTo_11 (fun E ce q9 M9 H9 locs9 ls9 hx9 hP9 hD9 hS9 hl9 h91 h92 h93 => V_xout X htab (Nat.le_of_ble_eq_true rfl) (Nat.le_of_ble_eq_true rfl) hx9 hP9 hD9 hS9 h91 h92 h93) (fun M2 hw => ?_)
  refine V_aload_n X dX10_movesTo_14 rfl (q := 0) rfl ?_
  refine V_callV_v X _ gO_0 rfl (As := []) (st := []) (c_X10_settle l hw) (cwV 0 X.2.2.2.1 gX10_movesTo_X10_settle rfl rfl rfl (by decide +kernel) ⟨Nat.le_of_ble_eq_true rfl, Nat.le_of_ble_eq_true rfl⟩) rfl (Nat.le_of_ble_eq_true rfl) ⟨Nat.le_of_ble_eq_true rfl, Nat.le_of_ble_eq_true rfl⟩ rfl dX10_movesTo_15 (fun M4 hw => ?_)
  refine V_aload_n X dX10_movesTo_18 rfl (q := 0) rfl ?_
  refine V_get (C := RX10) (T := TX10) (N := 9) (ci := 10) X hi_X10_movesTo_10 gO_0 rfl 7 (by decide) lk_X10_movesTo_f69 (fun _ h9 => h9) rfl dX10_movesTo_19 ?_
  refine V_getN (C := RX5) (T := TX5) (N := 6) (ci := 5) X hi_X10_movesTo_5 gO_8 rfl 2 (by decide) (List.mem_of_getElem? (i := 82) rfl) (fun _ h9 => h9) rfl dX10_movesTo_22 ?_
  refine V_iload_n X dX10_movesTo_25 rfl (q := 1) rfl ?_
  obtain ⟨h5, hw⟩ := hw
  refine V_iald X (gA_8_2) h5 (by decide) dX10_movesTo_26 ?_
  exact V_xret (Nat.le_of_ble_eq_true rfl) (Nat.le_of_ble_eq_true rfl) (V_iret X hr hw dX10_movesTo_27)
set_option maxHeartbeats 4000000 in
set_option maxRecDepth 100000 in
theorem c_X10_movesTo (l : Launch) {p0 : Int} (hlt : l.stackTraces = false) {D : va_G} {g : GT} {A : Nat → Prop} {a : Nat → Nat} {b : Nat → Nat → Nat} {M : Mem} {Q : Int → Mem → Prop} {XQ : String → Mem → Prop} (hw : wp_X10_movesTo M p0 Q XQ) : vx_Met l yX10_movesTo wsX10_movesTo ({ frames := 33, cells := 1, slots := 6, locals := 1084 } : Room) (cPc D g A a b M [.ref (a 0), iv p0]) (cQi D g A a b Q) (cX D g A a b XQ) 1 6 A := by
  refine vx_ofW (cc := cX10_movesTo) (maxL := 2) (ret := (some .int)) (by decide) rfl ?_
  intro p e s m args below meth c s₁ B hml htab hv
  obtain ⟨rfl, hP, hD, hG⟩ := hv
  have X : vC p s m _ meth c D g A RX10 wsX10_movesTo cX10_movesTo 2 := ⟨B.exec, B.bytes, findClass_of_methodNamed B.named, atoms_spec (ws := wsX10_movesTo) B.pre, hG, hml, B.notSynchronized⟩
  have hr := B.returns
  have hl := lv_entry ([.ref (a 0), iv p0]) (n := 2) (Nat.le_of_ble_eq_true rfl)
  rw [lg_entry_eq]
  generalize (lg_sl ([.ref (a 0), iv p0]) ++ List.replicate (2 - (lg_sl ([.ref (a 0), iv p0])).length) Slot.unset).toArray = ls at hl ⊢
  have hl : lv_has ls 2 [(0, .ref (a 0)), (1, iv p0)] := hl
  exact wke_X10_movesTo X hr hlt htab hw s.heap [] ls hP hD va_S.rf hl

set_option maxRecDepth 20000 in
theorem ggX11_nodes_X11_isTree : GoodIn wsX11_nodes wsX11_isTree := goodIn_r _ [5, 6, 7, 4, 8] (by decide +kernel) (by decide +kernel)
set_option maxRecDepth 20000 in
theorem gX11_nodes_X11_isTree : GoodIn wsX11_nodes (va_wsS RX11 79 yX11_isTree wsX11_isTree) := goodIn_app (goodIn_of _ (by decide +kernel)) ggX11_nodes_X11_isTree
set_option maxRecDepth 20000 in
theorem ggX11_nodes_X11_goes : GoodIn wsX11_nodes wsX11_goes := goodIn_r _ [12, 13, 14, 15, 16, 17, 18, 19, 20, 21, 22, 23, 24, 25, 26, 27, 28, 29, 30, 31, 32, 33, 34, 35, 36, 37] (by decide +kernel) (by decide +kernel)
set_option maxRecDepth 20000 in
theorem gX11_nodes_X11_goes : GoodIn wsX11_nodes (wsV RX11 87 RX11 yX11_goes wsX11_goes) := goodIn_app (goodIn_of _ (by decide +kernel)) ggX11_nodes_X11_goes
theorem dX11_nodes_0 : decode cX11_nodes 0 = .ok (.aload_n 0, 1) := by decide +kernel
theorem dX11_nodes_1 : decode cX11_nodes 1 = .ok (.iload_n 1, 1) := by decide +kernel
theorem dX11_nodes_2 : decode cX11_nodes 2 = .ok (.invokestatic 79, 3) := by decide +kernel
theorem dX11_nodes_5 : decode cX11_nodes 5 = .ok (.iconst 1, 1) := by decide +kernel
theorem dX11_nodes_6 : decode cX11_nodes 6 = .ok (.iconst 1, 1) := by decide +kernel
theorem dX11_nodes_7 : decode cX11_nodes 7 = .ok (.invokevirtual 87, 3) := by decide +kernel
theorem dX11_nodes_10 : decode cX11_nodes 10 = .ok (.ifCond .eq 12, 3) := by decide +kernel
theorem dX11_nodes_13 : decode cX11_nodes 13 = .ok (.aload_n 0, 1) := by decide +kernel
theorem dX11_nodes_14 : decode cX11_nodes 14 = .ok (.getfield 25, 3) := by decide +kernel
theorem dX11_nodes_17 : decode cX11_nodes 17 = .ok (.iload_n 1, 1) := by decide +kernel
theorem dX11_nodes_18 : decode cX11_nodes 18 = .ok (.iaload, 1) := by decide +kernel
theorem dX11_nodes_19 : decode cX11_nodes 19 = .ok (.goto 4, 3) := by decide +kernel
theorem dX11_nodes_22 : decode cX11_nodes 22 = .ok (.iconst 0, 1) := by decide +kernel
theorem dX11_nodes_23 : decode cX11_nodes 23 = .ok (.ireturn, 1) := by decide +kernel
theorem lk_X11_nodes_f25 : Cond.fieldLink RX11 25 "TreeComparerModel" "many" "[I" ∈ wsX11_nodes := by decide +kernel
theorem hi_X11_nodes_11 : ∀ w ∈ u_ws RX11 TX11 24, w ∈ wsX11_nodes := by decide +kernel
def wpe_X11_nodes (p0 : Int) (M : Mem) (Q : Int → Mem → Prop) : Prop := wp_X11_isTree M p0 (fun y1 M2 => wp_X11_goes M2 y1 1 1 (fun y3 M4 => inR y3 ∧ ((y3 = 0 → Q 0 M4) ∧ (¬ (y3 = 0) → ((0 : Int) ≤ p0 ∧ p0 < 2) ∧ Q ((M4 13 5 p0.toNat)) M4))))
def wp_X11_nodes (M : Mem) (p0 : Int) (Q : Int → Mem → Prop) : Prop := wpe_X11_nodes p0 M Q
set_option maxHeartbeats 4000000 in
set_option maxRecDepth 100000 in
theorem wke_X11_nodes {p : Program} {l : Launch} {e : Env} {s : State} {m : MethodId} {args : Array Value} {below : List Frame} {meth : Method} {c : Code} {D : va_G} {g : GT} {A : Nat → Prop} {a : Nat → Nat} {b : Nat → Nat → Nat} (X : vC p s m args meth c D g A RX11 wsX11_nodes cX11_nodes 2) (hr : meth.sig.returnType = (some .int)) {p0 : Int} {M : Mem} {Q : Int → Mem → Prop} (hw : wpe_X11_nodes p0 M Q) : vV p l e ({ frames := 2, cells := 0, slots := 0, locals := 42 } : Room) s m args below meth c D g A a b 2 0 0 (MQ below (cQi D g A a b Q) args s 0 0 A) M [(0, .ref (a 13)), (1, iv p0)] 0 [] := by
  unfold wpe_X11_nodes at hw
  refine V_aload_n X dX11_nodes_0 rfl (q := 0) rfl ?_
  refine V_iload_n X dX11_nodes_1 rfl (q := 1) rfl ?_
  refine V_callS_i X _ (As := [iv p0]) (st := [.ref (a 13)]) (c_X11_isTree l hw) (va_cwS 1 X.2.2.2.1 gX11_nodes_X11_isTree rfl rfl rfl (by decide +kernel) ⟨Nat.le_of_ble_eq_true rfl, Nat.le_of_ble_eq_true rfl⟩) rfl (Nat.le_of_ble_eq_true rfl) ⟨Nat.le_of_ble_eq_true rfl, Nat.le_of_ble_eq_true rfl⟩ rfl dX11_nodes_2 (fun y1 M2 hw => ?_)
  refine V_iconst X dX11_nodes_5 ?_
  refine V_iconst X dX11_nodes_6 ?_
  refine V_callV_i X _ gO_13 rfl (As := [iv y1, iv 1, iv 1]) (st := []) (c_X11_goes l hw) (cwV 3 X.2.2.2.1 gX11_nodes_X11_goes rfl rfl rfl (by decide +kernel) ⟨Nat.le_of_ble_eq_true rfl, Nat.le_of_ble_eq_true rfl⟩) rfl (Nat.le_of_ble_eq_true rfl) ⟨Nat.le_of_ble_eq_true rfl, Nat.le_of_ble_eq_true rfl⟩ rfl dX11_nodes_7 (fun y3 M4 hw => ?_)
  obtain ⟨h5, hw⟩ := hw
  refine V_if_eq (tgt := 22) X h5 dX11_nodes_10 (by decide) (fun q6 => ?_) (fun q6 => ?_)
  · have hw := hw.1 q6
    refine V_iconst X dX11_nodes_22 ?_
    exact V_iret X hr hw dX11_nodes_23
  · have hw := hw.2 q6
    refine V_aload_n X dX11_nodes_13 rfl (q := 0) rfl ?_
    refine V_get (C := RX11) (T := TX11) (N := 24) (ci := 11) X hi_X11_nodes_11 gO_13 rfl 5 (by decide) lk_X11_nodes_f25 (fun _ h9 => h9) rfl dX11_nodes_14 ?_
    refine V_iload_n X dX11_nodes_17 rfl (q := 1) rfl ?_
    obtain ⟨h7, hw⟩ := hw
    refine V_iald X (gA_13_5) h7 (by decide) dX11_nodes_18 ?_
    refine V_goto (tgt := 23) X dX11_nodes_19 (by decide) ?_
    exact V_iret X hr hw dX11_nodes_23
set_option maxHeartbeats 4000000 in
set_option maxRecDepth 100000 in
theorem c_X11_nodes (l : Launch) {p0 : Int} {D : va_G} {g : GT} {A : Nat → Prop} {a : Nat → Nat} {b : Nat → Nat → Nat} {M : Mem} {Q : Int → Mem → Prop} (hw : wp_X11_nodes M p0 Q) : Met l yX11_nodes wsX11_nodes ({ frames := 2, cells := 0, slots := 0, locals := 42 } : Room) (cPc D g A a b M [.ref (a 13), iv p0]) (cQi D g A a b Q) 0 0 A := by
  refine Met.ofW (cc := cX11_nodes) (maxL := 2) (ret := (some .int)) (by decide) rfl ?_
  intro p e s m args below meth c s₁ B hml hv
  obtain ⟨rfl, hP, hD, hG⟩ := hv
  have X : vC p s m _ meth c D g A RX11 wsX11_nodes cX11_nodes 2 := ⟨B.exec, B.bytes, findClass_of_methodNamed B.named, atoms_spec (ws := wsX11_nodes) B.pre, hG, hml, B.notSynchronized⟩
  have hr := B.returns
  have hl := lv_entry ([.ref (a 13), iv p0]) (n := 2) (Nat.le_of_ble_eq_true rfl)
  rw [lg_entry_eq]
  generalize (lg_sl ([.ref (a 13), iv p0]) ++ List.replicate (2 - (lg_sl ([.ref (a 13), iv p0])).length) Slot.unset).toArray = ls at hl ⊢
  have hl : lv_has ls 2 [(0, .ref (a 13)), (1, iv p0)] := hl
  exact wke_X11_nodes X hr  hw s.heap [] ls hP hD va_S.rf hl

set_option maxRecDepth 20000 in
theorem ggX9_nthChild_X9_endOf : GoodIn wsX9_nthChild wsX9_endOf := goodIn_r _ [8, 1, 9, 10, 11, 12, 13, 14, 15, 16, 17, 18] (by decide +kernel) (by decide +kernel)
set_option maxRecDepth 20000 in
theorem gX9_nthChild_X9_endOf : GoodIn wsX9_nthChild (wsV RX9 47 RX9 yX9_endOf wsX9_endOf) := goodIn_app (goodIn_of _ (by decide +kernel)) ggX9_nthChild_X9_endOf
theorem dX9_nthChild_0 : decode cX9_nthChild 0 = .ok (.iload_n 2, 1) := by decide +kernel
theorem dX9_nthChild_1 : decode cX9_nthChild 1 = .ok (.istore_n 3, 1) := by decide +kernel
theorem dX9_nthChild_2 : decode cX9_nthChild 2 = .ok (.aload_n 0, 1) := by decide +kernel
theorem dX9_nthChild_3 : decode cX9_nthChild 3 = .ok (.getfield 27, 3) := by decide +kernel
theorem dX9_nthChild_6 : decode cX9_nthChild 6 = .ok (.iload_n 1, 1) := by decide +kernel
theorem dX9_nthChild_7 : decode cX9_nthChild 7 = .ok (.iaload, 1) := by decide +kernel
theorem dX9_nthChild_8 : decode cX9_nthChild 8 = .ok (.iconst 1, 1) := by decide +kernel
theorem dX9_nthChild_9 : decode cX9_nthChild 9 = .ok (.iadd, 1) := by decide +kernel
theorem dX9_nthChild_10 : decode cX9_nthChild 10 = .ok (.istore 4, 2) := by decide +kernel
theorem dX9_nthChild_12 : decode cX9_nthChild 12 = .ok (.iload 4, 2) := by decide +kernel
theorem dX9_nthChild_14 : decode cX9_nthChild 14 = .ok (.aload_n 0, 1) := by decide +kernel
theorem dX9_nthChild_15 : decode cX9_nthChild 15 = .ok (.iload_n 1, 1) := by decide +kernel
theorem dX9_nthChild_16 : decode cX9_nthChild 16 = .ok (.invokevirtual 47, 3) := by decide +kernel
theorem dX9_nthChild_19 : decode cX9_nthChild 19 = .ok (.if_icmp .ge 40, 3) := by decide +kernel
theorem dX9_nthChild_22 : decode cX9_nthChild 22 = .ok (.aload_n 0, 1) := by decide +kernel
theorem dX9_nthChild_23 : decode cX9_nthChild 23 = .ok (.getfield 18, 3) := by decide +kernel
theorem dX9_nthChild_26 : decode cX9_nthChild 26 = .ok (.aload_n 0, 1) := by decide +kernel
theorem dX9_nthChild_27 : decode cX9_nthChild 27 = .ok (.getfield 21, 3) := by decide +kernel
theorem dX9_nthChild_30 : decode cX9_nthChild 30 = .ok (.iload 4, 2) := by decide +kernel
theorem dX9_nthChild_32 : decode cX9_nthChild 32 = .ok (.iaload, 1) := by decide +kernel
theorem dX9_nthChild_33 : decode cX9_nthChild 33 = .ok (.iaload, 1) := by decide +kernel
theorem dX9_nthChild_34 : decode cX9_nthChild 34 = .ok (.iload_n 1, 1) := by decide +kernel
theorem dX9_nthChild_35 : decode cX9_nthChild 35 = .ok (.if_icmp .ne 18, 3) := by decide +kernel
theorem dX9_nthChild_38 : decode cX9_nthChild 38 = .ok (.iload_n 3, 1) := by decide +kernel
theorem dX9_nthChild_39 : decode cX9_nthChild 39 = .ok (.ifCond .ne 11, 3) := by decide +kernel
theorem dX9_nthChild_42 : decode cX9_nthChild 42 = .ok (.aload_n 0, 1) := by decide +kernel
theorem dX9_nthChild_43 : decode cX9_nthChild 43 = .ok (.getfield 21, 3) := by decide +kernel
theorem dX9_nthChild_46 : decode cX9_nthChild 46 = .ok (.iload 4, 2) := by decide +kernel
theorem dX9_nthChild_48 : decode cX9_nthChild 48 = .ok (.iaload, 1) := by decide +kernel
theorem dX9_nthChild_49 : decode cX9_nthChild 49 = .ok (.ireturn, 1) := by decide +kernel
theorem dX9_nthChild_50 : decode cX9_nthChild 50 = .ok (.iinc 3 (-1), 3) := by decide +kernel
theorem dX9_nthChild_53 : decode cX9_nthChild 53 = .ok (.iinc 4 1, 3) := by decide +kernel
theorem dX9_nthChild_56 : decode cX9_nthChild 56 = .ok (.goto (-44), 3) := by decide +kernel
theorem dX9_nthChild_59 : decode cX9_nthChild 59 = .ok (.iconst (-1), 1) := by decide +kernel
theorem dX9_nthChild_60 : decode cX9_nthChild 60 = .ok (.ireturn, 1) := by decide +kernel
theorem lk_X9_nthChild_f27 : Cond.fieldLink RX9 27 "TreeComparer$Tree" "prePlace" "[I" ∈ wsX9_nthChild := by decide +kernel
theorem hi_X9_nthChild_9 : ∀ w ∈ u_ws RX9 TX9 9, w ∈ wsX9_nthChild := by decide +kernel
theorem lk_X9_nthChild_f18 : Cond.fieldLink RX9 18 "TreeComparer$Tree" "parent" "[I" ∈ wsX9_nthChild := by decide +kernel
theorem lk_X9_nthChild_f21 : Cond.fieldLink RX9 21 "TreeComparer$Tree" "preorder" "[I" ∈ wsX9_nthChild := by decide +kernel
def wpj_X9_nthChild_53 (o : Nat) (p0 : Int) (p1 : Int) (x3 : Int) (x4 : Int) (M : Mem) (J12 : Int → Int → Mem → Prop) (Q : Int → Mem → Prop) : Prop := J12 x3 (x4 + 1) M
def wph_X9_nthChild_12 (o : Nat) (p0 : Int) (p1 : Int) (x3 : Int) (x4 : Int) (M : Mem) (J12 : Int → Int → Mem → Prop) (Q : Int → Mem → Prop) : Prop := wp_X9_endOf M o p0 (fun y3 M4 => inR x4 ∧ inR y3 ∧ ((y3 ≤ x4 → Q (-1) M4) ∧ (¬ (y3 ≤ x4) → ((0 : Int) ≤ x4 ∧ x4 < 12) ∧ ((0 : Int) ≤ (M4 o 3 x4.toNat) ∧ (M4 o 3 x4.toNat) < 12) ∧ inR (M4 o 2 ((M4 o 3 x4.toNat)).toNat) ∧ inR p0 ∧ (((M4 o 2 ((M4 o 3 x4.toNat)).toNat) ≠ p0 → wpj_X9_nthChild_53 o p0 p1 x3 x4 M4 J12 Q) ∧ (¬ ((M4 o 2 ((M4 o 3 x4.toNat)).toNat) ≠ p0) → inR x3 ∧ ((x3 ≠ 0 → wpj_X9_nthChild_53 o p0 p1 (x3 + (-1)) x4 M4 J12 Q) ∧ (¬ (x3 ≠ 0) → ((0 : Int) ≤ x4 ∧ x4 < 12) ∧ Q ((M4 o 3 x4.toNat)) M4)))))))
def wpe_X9_nthChild (o : Nat) (p0 : Int) (p1 : Int) (M : Mem) (J12 : Int → Int → Mem → Prop) (Q : Int → Mem → Prop) : Prop := ((0 : Int) ≤ p0 ∧ p0 < 12) ∧ (∀ y2 : Int, y2 = (M o 5 p0.toNat) + 1 → J12 p1 y2 M)
def wp_X9_nthChild (M : Mem) (o : Nat) (p0 : Int) (p1 : Int) (Q : Int → Mem → Prop) : Prop := ∃ (I12 : Nat → Int → Int → Mem → Prop), wpe_X9_nthChild o p0 p1 M (fun (x3 : Int) (x4 : Int) (M1 : Mem) => ∃ n1 : Nat, I12 n1 x3 x4 M1) Q ∧ (∀ (n : Nat) (x3 : Int) (x4 : Int) (M : Mem), I12 n x3 x4 M → wph_X9_nthChild_12 o p0 p1 x3 x4 M (fun (x3 : Int) (x4 : Int) (M1 : Mem) => ∃ n1 : Nat, n1 < n ∧ I12 n1 x3 x4 M1) Q)
set_option maxHeartbeats 4000000 in
set_option maxRecDepth 100000 in
theorem wkj_X9_nthChild_53 {p : Program} {l : Launch} {e : Env} {s : State} {m : MethodId} {args : Array Value} {below : List Frame} {meth : Method} {c : Code} {D : va_G} {g : GT} {A : Nat → Prop} {a : Nat → Nat} {b : Nat → Nat → Nat} (X : vC p s m args meth c D g A RX9 wsX9_nthChild cX9_nthChild 5) (hr : meth.sig.returnType = (some .int)) {o : Nat} {p0 : Int} {p1 : Int} (ho : isT o) {x3 : Int} {x4 : Int} {M : Mem} {J12 : Int → Int → Mem → Prop} {Q : Int → Mem → Prop} (hJ12 : ∀ (x3 : Int) (x4 : Int) (M : Mem), J12 x3 x4 M → vV p l e ({ frames := 1, cells := 0, slots := 0, locals := 21 } : Room) s m args below meth c D g A a b 5 0 0 (MQ below (cQi D g A a b Q) args s 0 0 A) M [(0, .ref (a o)), (1, iv p0), (3, iv x3), (4, iv x4)] 12 []) (hw : wpj_X9_nthChild_53 o p0 p1 x3 x4 M J12 Q) : vV p l e ({ frames := 1, cells := 0, slots := 0, locals := 21 } : Room) s m args below meth c D g A a b 5 0 0 (MQ below (cQi D g A a b Q) args s 0 0 A) M [(0, .ref (a o)), (1, iv p0), (3, iv x3), (4, iv x4)] 53 [] := by
  unfold wpj_X9_nthChild_53 at hw
  refine V_iinc (lv1 := [(0, .ref (a o)), (1, iv p0), (3, iv x3), (4, iv (x4 + 1))]) X [1, 2, 3, 0] dX9_nthChild_53 (q := 3) rfl (by decide) rfl ?_
  refine V_goto (tgt := 12) X dX9_nthChild_56 (by decide) ?_
  exact hJ12 _ _ _ hw
set_option maxHeartbeats 4000000 in
set_option maxRecDepth 100000 in
theorem wkh_X9_nthChild_12 {p : Program} {l : Launch} {e : Env} {s : State} {m : MethodId} {args : Array Value} {below : List Frame} {meth : Method} {c : Code} {D : va_G} {g : GT} {A : Nat → Prop} {a : Nat → Nat} {b : Nat → Nat → Nat} (X : vC p s m args meth c D g A RX9 wsX9_nthChild cX9_nthChild 5) (hr : meth.sig.returnType = (some .int)) {o : Nat} {p0 : Int} {p1 : Int} (ho : isT o) {x3 : Int} {x4 : Int} {M : Mem} {J12 : Int → Int → Mem → Prop} {Q : Int → Mem → Prop} (hJ12 : ∀ (x3 : Int) (x4 : Int) (M : Mem), J12 x3 x4 M → vV p l e ({ frames := 1, cells := 0, slots := 0, locals := 21 } : Room) s m args below meth c D g A a b 5 0 0 (MQ below (cQi D g A a b Q) args s 0 0 A) M [(0, .ref (a o)), (1, iv p0), (3, iv x3), (4, iv x4)] 12 []) (hw : wph_X9_nthChild_12 o p0 p1 x3 x4 M J12 Q) : vV p l e ({ frames := 1, cells := 0, slots := 0, locals := 21 } : Room) s m args below meth c D g A a b 5 0 0 (MQ below (cQi D g A a b Q) args s 0 0 A) M [(0, .ref (a o)), (1, iv p0), (3, iv x3), (4, iv x4)] 12 [] := by
  unfold wph_X9_nthChild_12 at hw
  refine V_iload X dX9_nthChild_12 (q := 3) rfl ?_
  refine V_aload_n X dX9_nthChild_14 rfl (q := 0) rfl ?_
  refine V_iload_n X dX9_nthChild_15 rfl (q := 1) rfl ?_
  refine V_callV_i X _ (gTO ho) rfl (As := [iv p0]) (st := [iv x4]) (c_X9_endOf l ho hw) (cwV 1 X.2.2.2.1 gX9_nthChild_X9_endOf rfl rfl rfl (by decide +kernel) ⟨Nat.le_of_ble_eq_true rfl, Nat.le_of_ble_eq_true rfl⟩) rfl (Nat.le_of_ble_eq_true rfl) ⟨Nat.le_of_ble_eq_true rfl, Nat.le_of_ble_eq_true rfl⟩ rfl dX9_nthChild_16 (fun y3 M4 hw => ?_)
  obtain ⟨h5, h6, hw⟩ := hw
  refine V_icmp_ge (tgt := 59) X h5 h6 dX9_nthChild_19 (by decide) (fun q7 => ?_) (fun q7 => ?_)
  · have hw := hw.1 q7
    refine V_iconst X dX9_nthChild_59 ?_
    exact V_iret X hr hw dX9_nthChild_60
  · have hw := hw.2 q7
    refine V_aload_n X dX9_nthChild_22 rfl (q := 0) rfl ?_
    refine V_get (C := RX9) (T := TX9) (N := 9) (ci := 9) X hi_X9_nthChild_9 (gTO ho) rfl 2 (by decide) lk_X9_nthChild_f18 (fun _ h9 => h9) rfl dX9_nthChild_23 ?_
    refine V_aload_n X dX9_nthChild_26 rfl (q := 0) rfl ?_
    refine V_get (C := RX9) (T := TX9) (N := 9) (ci := 9) X hi_X9_nthChild_9 (gTO ho) rfl 3 (by decide) lk_X9_nthChild_f21 (fun _ h9 => h9) rfl dX9_nthChild_27 ?_
    refine V_iload X dX9_nthChild_30 (q := 3) rfl ?_
    obtain ⟨h8, hw⟩ := hw
    refine V_iald X ((gT_3 ho)) h8 (by decide) dX9_nthChild_32 ?_
    obtain ⟨h9, hw⟩ := hw
    refine V_iald X ((gT_2 ho)) h9 (by decide) dX9_nthChild_33 ?_
    refine V_iload_n X dX9_nthChild_34 rfl (q := 1) rfl ?_
    obtain ⟨h10, h11, hw⟩ := hw
    refine V_icmp_ne (tgt := 53) X h10 h11 dX9_nthChild_35 (by decide) (fun q12 => ?_) (fun q12 => ?_)
    · have hw := hw.1 q12
      exact wkj_X9_nthChild_53 X hr ho hJ12 hw
    · have hw := hw.2 q12
      refine V_iload_n X dX9_nthChild_38 rfl (q := 2) rfl ?_
      obtain ⟨h13, hw⟩ := hw
      refine V_if_ne (tgt := 50) X h13 dX9_nthChild_39 (by decide) (fun q14 => ?_) (fun q14 => ?_)
      · have hw := hw.1 q14
        refine V_iinc (lv1 := [(0, .ref (a o)), (1, iv p0), (3, iv (x3 + (-1))), (4, iv x4)]) X [1, 2, 0, 3] dX9_nthChild_50 (q := 2) rfl (by decide) rfl ?_
        exact wkj_X9_nthChild_53 X hr ho hJ12 hw
      · have hw := hw.2 q14
        refine V_aload_n X dX9_nthChild_42 rfl (q := 0) rfl ?_
        refine V_get (C := RX9) (T := TX9) (N := 9) (ci := 9) X hi_X9_nthChild_9 (gTO ho) rfl 3 (by decide) lk_X9_nthChild_f21 (fun _ h9 => h9) rfl dX9_nthChild_43 ?_
        refine V_iload X dX9_nthChild_46 (q := 3) rfl ?_
        obtain ⟨h15, hw⟩ := hw
        refine V_iald X ((gT_3 ho)) h15 (by decide) dX9_nthChild_48 ?_
        exact V_iret X hr hw dX9_nthChild_49
set_option maxHeartbeats 4000000 in
set_option maxRecDepth 100000 in
theorem wke_X9_nthChild {p : Program} {l : Launch} {e : Env} {s : State} {m : MethodId} {args : Array Value} {below : List Frame} {meth : Method} {c : Code} {D : va_G} {g : GT} {A : Nat → Prop} {a : Nat → Nat} {b : Nat → Nat → Nat} (X : vC p s m args meth c D g A RX9 wsX9_nthChild cX9_nthChild 5) (hr : meth.sig.returnType = (some .int)) {o : Nat} {p0 : Int} {p1 : Int} (ho : isT o) {M : Mem} {J12 : Int → Int → Mem → Prop} {Q : Int → Mem → Prop} (hJ12 : ∀ (x3 : Int) (x4 : Int) (M : Mem), J12 x3 x4 M → vV p l e ({ frames := 1, cells := 0, slots := 0, locals := 21 } : Room) s m args below meth c D g A a b 5 0 0 (MQ below (cQi D g A a b Q) args s 0 0 A) M [(0, .ref (a o)), (1, iv p0), (3, iv x3), (4, iv x4)] 12 []) (hw : wpe_X9_nthChild o p0 p1 M J12 Q) : vV p l e ({ frames := 1, cells := 0, slots := 0, locals := 21 } : Room) s m args below meth c D g A a b 5 0 0 (MQ below (cQi D g A a b Q) args s 0 0 A) M [(0, .ref (a o)), (1, iv p0), (2, iv p1)] 0 [] := by
  unfold wpe_X9_nthChild at hw
  refine V_iload_n X dX9_nthChild_0 rfl (q := 2) rfl ?_
  refine V_istore_n (lv1 := [(0, .ref (a o)), (1, iv p0), (2, iv p1), (3, iv p1)]) X [1, 2, 3, 0] dX9_nthChild_1 rfl (by decide) rfl ?_
  refine V_aload_n X dX9_nthChild_2 rfl (q := 0) rfl ?_
  refine V_get (C := RX9) (T := TX9) (N := 9) (ci := 9) X hi_X9_nthChild_9 (gTO ho) rfl 5 (by decide) lk_X9_nthChild_f27 (fun _ h9 => h9) rfl dX9_nthChild_3 ?_
  refine V_iload_n X dX9_nthChild_6 rfl (q := 1) rfl ?_
  obtain ⟨h1, hw⟩ := hw
  refine V_iald X ((gT_5 ho)) h1 (by decide) dX9_nthChild_7 ?_
  refine V_iconst X dX9_nthChild_8 ?_
  refine V_iadd X dX9_nthChild_9 ?_
  refine V_top (fun y2 ey2 => ?_)
  have hw := hw y2 ey2
  refine V_istore (lv1 := [(0, .ref (a o)), (1, iv p0), (2, iv p1), (3, iv p1), (4, iv y2)]) X [1, 2, 3, 4, 0] dX9_nthChild_10 (by decide) rfl ?_
  refine V_sub (lv1 := [(0, .ref (a o)), (1, iv p0), (3, iv p1), (4, iv y2)]) [0, 1, 3, 4] rfl ?_
  exact hJ12 _ _ _ hw
set_option maxHeartbeats 4000000 in
set_option maxRecDepth 100000 in
theorem c_X9_nthChild (l : Launch) {o : Nat} {p0 : Int} {p1 : Int} (ho : isT o) {D : va_G} {g : GT} {A : Nat → Prop} {a : Nat → Nat} {b : Nat → Nat → Nat} {M : Mem} {Q : Int → Mem → Prop} (hw : wp_X9_nthChild M o p0 p1 Q) : Met l yX9_nthChild wsX9_nthChild ({ frames := 1, cells := 0, slots := 0, locals := 21 } : Room) (cPc D g A a b M [.ref (a o), iv p0, iv p1]) (cQi D g A a b Q) 0 0 A := by
  refine Met.ofW (cc := cX9_nthChild) (maxL := 5) (ret := (some .int)) (by decide) rfl ?_
  intro p e s m args below meth c s₁ B hml hv
  obtain ⟨rfl, hP, hD, hG⟩ := hv
  have X : vC p s m _ meth c D g A RX9 wsX9_nthChild cX9_nthChild 5 := ⟨B.exec, B.bytes, findClass_of_methodNamed B.named, atoms_spec (ws := wsX9_nthChild) B.pre, hG, hml, B.notSynchronized⟩
  have hr := B.returns
  have hl := lv_entry ([.ref (a o), iv p0, iv p1]) (n := 5) (Nat.le_of_ble_eq_true rfl)
  rw [lg_entry_eq]
  generalize (lg_sl ([.ref (a o), iv p0, iv p1]) ++ List.replicate (5 - (lg_sl ([.ref (a o), iv p0, iv p1])).length) Slot.unset).toArray = ls at hl ⊢
  have hl : lv_has ls 5 [(0, .ref (a o)), (1, iv p0), (2, iv p1)] := hl
  obtain ⟨I12, hw, hI12⟩ := hw
  have K : ∀ n : Nat, (∀ (x3 : Int) (x4 : Int) (M : Mem), I12 n x3 x4 M → vV p l e ({ frames := 1, cells := 0, slots := 0, locals := 21 } : Room) s m ([.ref (a o), iv p0, iv p1] : List Value).toArray below meth c D g A a b 5 0 0 (MQ below (cQi D g A a b Q) ([.ref (a o), iv p0, iv p1] : List Value).toArray s 0 0 A) M [(0, .ref (a o)), (1, iv p0), (3, iv x3), (4, iv x4)] 12 []) := by
    intro n
    induction n using Nat.strongRecOn with
    | ind n ih =>
      exact fun x3 x4 M hh => wkh_X9_nthChild_12 X hr ho (fun _ _ _ ⟨n1, hn, hh⟩ => (ih n1 hn) _ _ _ hh) (hI12 n x3 x4 M hh)
  exact wke_X9_nthChild X hr ho (fun _ _ _ ⟨n1, hh⟩ => (K n1) _ _ _ hh) hw s.heap [] ls hP hD va_S.rf hl
