set_option maxRecDepth 20000 in
theorem ggX10_labelAfter_X10_settle : GoodIn wsX10_labelAfter wsX10_settle := goodIn_r _ [6, 7, 8, 9, 10, 1, 11, 12, 13, 14, 15, 16, 17, 18, 19, 20, 21, 22, 23, 24, 25, 26, 27, 28, 29, 30, 31, 32, 33, 34, 35, 36, 37, 38, 39, 40, 41, 42, 43, 44, 45, 46, 47, 48, 49, 50, 51, 52, 53, 54, 55, 56, 57, 58, 59, 60, 61, 62, 63, 64, 65, 66, 67, 68, 69, 70, 71, 72, 73, 74, 75, 76, 77, 78, 79, 80, 81, 82, 83, 84, 85, 86, 87, 88, 89, 90, 91, 92, 93, 94, 95, 96, 97, 98, 99, 100, 101, 102, 103, 104, 105, 106, 107, 108, 109, 110, 111, 112, 113, 114, 115, 116, 117, 118, 119, 120, 121, 122, 123, 124, 125, 126, 127, 128, 129, 130, 131, 132, 133, 134, 135, 136, 137, 138, 139, 140, 141, 142, 143, 144, 145, 146, 147, 148, 149, 150, 151, 170, 171, 172, 173, 174, 175, 176, 177, 178, 188, 189, 190, 191, 192, 193, 194, 195, 196, 197, 198, 199, 200, 201, 202, 203, 204, 205, 206, 207, 208, 209, 210, 211, 212, 213, 214, 215, 216, 217, 218, 219, 220, 221, 222, 179, 180, 181, 182, 183, 184, 185, 186, 187, 223, 224, 225, 226, 227, 228] (by decide +kernel) (by decide +kernel)
set_option maxRecDepth 20000 in
theorem gX10_labelAfter_X10_settle : GoodIn wsX10_labelAfter (wsV RX10 206 RX10 yX10_settle wsX10_settle) := goodIn_app (goodIn_of _ (by decide +kernel)) ggX10_labelAfter_X10_settle
set_option maxRecDepth 20000 in
theorem ggX10_labelAfter_X10_needIndex : GoodIn wsX10_labelAfter wsX10_needIndex := goodIn_ca (goodIn_r _ [154, 155, 156] (by decide +kernel) (by decide +kernel)) (goodIn_sub (fun _ h => List.mem_cons_of_mem _ (List.mem_append_right _ h)) (by decide +kernel))
set_option maxRecDepth 20000 in
theorem gX10_labelAfter_X10_needIndex : GoodIn wsX10_labelAfter (va_wsS RX10 81 yX10_needIndex wsX10_needIndex) := goodIn_app (goodIn_of _ (by decide +kernel)) ggX10_labelAfter_X10_needIndex
set_option maxRecDepth 20000 in
theorem ggX10_labelAfter_X7_showForest : GoodIn wsX10_labelAfter wsX7_showForest := goodIn_r _ [159, 102, 160, 101, 107, 108, 161, 162, 163, 164, 165, 96, 166, 99, 179, 180, 181, 182, 183, 184, 185, 186, 187, 204, 205, 206, 207, 208, 209, 210, 211, 212, 215, 216, 217, 218, 219, 220, 221, 222, 192, 193, 194, 195, 196, 197] (by decide +kernel) (by decide +kernel)
set_option maxRecDepth 20000 in
theorem gX10_labelAfter_X7_showForest_n227 : GoodIn wsX10_labelAfter (wsX7_showForest) := ggX10_labelAfter_X7_showForest
set_option maxRecDepth 20000 in
theorem ggX10_labelAfter_X7_shownLabel : GoodIn wsX10_labelAfter wsX7_shownLabel := goodIn_r _ [169, 102, 99, 107, 108, 101, 179, 180, 181, 182, 183, 184, 185, 186, 187, 192, 193, 194, 195, 196, 197, 204, 205, 206, 207, 208, 209, 210, 211, 212, 215, 216, 217, 218, 219, 220, 221, 222] (by decide +kernel) (by decide +kernel)
set_option maxRecDepth 20000 in
theorem gX10_labelAfter_X7_shownLabel_n237 : GoodIn wsX10_labelAfter (wsX7_shownLabel) := ggX10_labelAfter_X7_shownLabel
theorem dX10_labelAfter_0 : decode cX10_labelAfter 0 = .ok (.aload_n 0, 1) := by decide +kernel
theorem dX10_labelAfter_1 : decode cX10_labelAfter 1 = .ok (.invokevirtual 206, 3) := by decide +kernel
theorem dX10_labelAfter_4 : decode cX10_labelAfter 4 = .ok (.iload_n 1, 1) := by decide +kernel
theorem dX10_labelAfter_5 : decode cX10_labelAfter 5 = .ok (.aload_n 0, 1) := by decide +kernel
theorem dX10_labelAfter_6 : decode cX10_labelAfter 6 = .ok (.getfield 62, 3) := by decide +kernel
theorem dX10_labelAfter_9 : decode cX10_labelAfter 9 = .ok (.getfield 217, 3) := by decide +kernel
theorem dX10_labelAfter_12 : decode cX10_labelAfter 12 = .ok (.iconst 1, 1) := by decide +kernel
theorem dX10_labelAfter_13 : decode cX10_labelAfter 13 = .ok (.iadd, 1) := by decide +kernel
theorem dX10_labelAfter_14 : decode cX10_labelAfter 14 = .ok (.invokestatic 81, 3) := by decide +kernel
theorem dX10_labelAfter_17 : decode cX10_labelAfter 17 = .ok (.aload_n 0, 1) := by decide +kernel
theorem dX10_labelAfter_18 : decode cX10_labelAfter 18 = .ok (.getfield 62, 3) := by decide +kernel
theorem dX10_labelAfter_21 : decode cX10_labelAfter 21 = .ok (.iload_n 1, 1) := by decide +kernel
theorem dX10_labelAfter_22 : decode cX10_labelAfter 22 = .ok (.invokevirtual 227, 3) := by decide +kernel
theorem dX10_labelAfter_25 : decode cX10_labelAfter 25 = .ok (.iload_n 2, 1) := by decide +kernel
theorem dX10_labelAfter_26 : decode cX10_labelAfter 26 = .ok (.aload_n 0, 1) := by decide +kernel
theorem dX10_labelAfter_27 : decode cX10_labelAfter 27 = .ok (.getfield 62, 3) := by decide +kernel
theorem dX10_labelAfter_30 : decode cX10_labelAfter 30 = .ok (.getfield 231, 3) := by decide +kernel
theorem dX10_labelAfter_33 : decode cX10_labelAfter 33 = .ok (.invokestatic 81, 3) := by decide +kernel
theorem dX10_labelAfter_36 : decode cX10_labelAfter 36 = .ok (.aload_n 0, 1) := by decide +kernel
theorem dX10_labelAfter_37 : decode cX10_labelAfter 37 = .ok (.getfield 62, 3) := by decide +kernel
theorem dX10_labelAfter_40 : decode cX10_labelAfter 40 = .ok (.iload_n 1, 1) := by decide +kernel
theorem dX10_labelAfter_41 : decode cX10_labelAfter 41 = .ok (.aload_n 0, 1) := by decide +kernel
theorem dX10_labelAfter_42 : decode cX10_labelAfter 42 = .ok (.getfield 62, 3) := by decide +kernel
theorem dX10_labelAfter_45 : decode cX10_labelAfter 45 = .ok (.getfield 234, 3) := by decide +kernel
theorem dX10_labelAfter_48 : decode cX10_labelAfter 48 = .ok (.iload_n 2, 1) := by decide +kernel
theorem dX10_labelAfter_49 : decode cX10_labelAfter 49 = .ok (.iaload, 1) := by decide +kernel
theorem dX10_labelAfter_50 : decode cX10_labelAfter 50 = .ok (.invokevirtual 237, 3) := by decide +kernel
theorem dX10_labelAfter_53 : decode cX10_labelAfter 53 = .ok (.ireturn, 1) := by decide +kernel
theorem lk_X10_labelAfter_f62 : Cond.fieldLink RX10 62 "TreeComparer" "script" "LTreeComparer$Script;" ∈ wsX10_labelAfter := by decide +kernel
theorem hi_X10_labelAfter_10 : ∀ w ∈ u_ws RX10 TX10 9, w ∈ wsX10_labelAfter := by decide +kernel
theorem hi_X10_labelAfter_7 : ∀ w ∈ u_ws RX7 TX7 9, w ∈ wsX10_labelAfter := by decide +kernel
theorem lk_X10_labelAfter_i7 : Cond.initialized RX7 ∈ wsX10_labelAfter := by decide +kernel
theorem lk_X10_labelAfter_im227 : Cond.instanceMethod yX7_showForest ∈ wsX10_labelAfter := by decide +kernel
theorem lk_X10_labelAfter_se227 : Cond.selects RX7 yX7_showForest yX7_showForest ∈ wsX10_labelAfter := by decide +kernel
theorem lk_X10_labelAfter_im237 : Cond.instanceMethod yX7_shownLabel ∈ wsX10_labelAfter := by decide +kernel
theorem lk_X10_labelAfter_se237 : Cond.selects RX7 yX7_shownLabel yX7_shownLabel ∈ wsX10_labelAfter := by decide +kernel
def wpe_X10_labelAfter (p0 : Int) (p1 : Int) (M : Mem) (Q : Int → Mem → Prop) (XQ : String → Mem → Prop) : Prop := wp_X10_settle M (fun M2 => wp_X10_needIndex M2 p0 ((M2 7 4 0) + 1) (fun M4 => wp_X7_showForest M4 p0 (fun M6 => wp_X10_needIndex M6 p1 ((M6 7 8 0)) (fun M8 => ((0 : Int) ≤ p1 ∧ p1 < 12) ∧ wp_X7_shownLabel M8 p0 ((M8 7 7 p1.toNat)) (fun y10 M11 => Q y10 M11)) XQ)) XQ)
def wp_X10_labelAfter (M : Mem) (p0 : Int) (p1 : Int) (Q : Int → Mem → Prop) (XQ : String → Mem → Prop) : Prop := wpe_X10_labelAfter p0 p1 M Q XQ
set_option maxHeartbeats 4000000 in
set_option maxRecDepth 100000 in
theorem wke_X10_labelAfter {p : Program} {l : Launch} {e : Env} {s : State} {m : MethodId} {args : Array Value} {below : List Frame} {meth : Method} {c : Code} {D : va_G} {g : GT} {A : Nat → Prop} {a : Nat → Nat} {b : Nat → Nat → Nat} (X : vC p s m args meth c D g A RX10 wsX10_labelAfter cX10_labelAfter 3) (hr : meth.sig.returnType = (some .int)) {p0 : Int} {p1 : Int} (hlt : l.stackTraces = false) (htab : ∀ x ∈ c.exceptionTable.toList, False) {M : Mem} {Q : Int → Mem → Prop} {XQ : String → Mem → Prop} (hw : wpe_X10_labelAfter p0 p1 M Q XQ) : vV p l e ({ frames := 33, cells := 2, slots := 12, locals := 1084 } : Room) s m args below meth c D g A a b 3 0 0 (vx_MQ below (cQi D g A a b Q) (cX D g A a b XQ) args s 2 12 A) M [(0, .ref (a 0)), (1, iv p0), (2, iv p1)] 0 [] := by
  unfold wpe_X10_labelAfter at hw
  refine V_aload_n X dX10_labelAfter_0 rfl (q := 0) rfl ?_
  refine V_callV_v X _ gO_0 rfl (As := []) (st := []) (c_X10_settle l hw) (cwV 0 X.2.2.2.1 gX10_labelAfter_X10_settle rfl rfl rfl (by decide +kernel) ⟨Nat.le_of_ble_eq_true rfl, Nat.le_of_ble_eq_true rfl⟩) rfl (Nat.le_of_ble_eq_true rfl) ⟨Nat.le_of_ble_eq_true rfl, Nat.le_of_ble_eq_true rfl⟩ rfl dX10_labelAfter_1 (fun M2 hw => ?_)
  refine V_iload_n X dX10_labelAfter_4 rfl (q := 1) rfl ?_
  refine V_aload_n X dX10_labelAfter_5 rfl (q := 0) rfl ?_
  refine V_get (C := RX10) (T := TX10) (N := 9) (ci := 10) X hi_X10_labelAfter_10 gO_0 rfl 6 (by decide) lk_X10_labelAfter_f62 (fun _ h9 => h9) rfl dX10_labelAfter_6 ?_
  refine V_getN (C := RX7) (T := TX7) (N := 9) (ci := 7) X hi_X10_labelAfter_7 gO_7 rfl 4 (by decide) (List.mem_of_getElem? (i := 79) rfl) (fun _ h9 => h9) rfl dX10_labelAfter_9 ?_
  refine V_iconst X dX10_labelAfter_12 ?_
  refine V_iadd X dX10_labelAfter_13 ?_
  refine V_callxS_v X _ _ (As := [iv p0, iv ((M2 7 4 0) + 1)]) (st := []) (c_X10_needIndex l hlt hw) (va_cwS 2 X.2.2.2.1 gX10_labelAfter_X10_needIndex rfl rfl rfl (by decide +kernel) ⟨Nat.le_of_ble_eq_true rfl, Nat.le_of_ble_eq_true rfl⟩) rfl (Nat.le_of_ble_eq_true rfl) ⟨Nat.le_of_ble_eq_true rfl, Nat.le_of_ble_eq_true rfl⟩ rfl dX10_labelAfter_14 (fun E ce q9 M9 H9 locs9 ls9 hx9 hP9 hD9 hS9 hl9 h91 h92 h93 => V_xout X htab (Nat.le_of_ble_eq_true rfl) (Nat.le_of_ble_eq_true rfl) hx9 hP9 hD9 hS9 h91 h92 h93) (fun M4 hw => ?_)
  refine V_aload_n X dX10_labelAfter_17 rfl (q := 0) rfl ?_
  refine V_get (C := RX10) (T := TX10) (N := 9) (ci := 10) X hi_X10_labelAfter_10 gO_0 rfl 6 (by decide) lk_X10_labelAfter_f62 (fun _ h9 => h9) rfl dX10_labelAfter_18 ?_
  refine V_iload_n X dX10_labelAfter_21 rfl (q := 1) rfl ?_
  refine V_callVN_v X _ gO_7 rfl (As := [iv p0]) (st := []) (c_X7_showForest l hw) ⟨va_cnB 1 X.2.2.2.1 gX10_labelAfter_X7_showForest_n227 rfl rfl rfl (X.2.2.2.2.1.2.1 _ (List.mem_of_getElem? (i := 130) rfl)) (X.2.2.2.1 _ lk_X10_labelAfter_i7) (by decide +kernel) ⟨Nat.le_of_ble_eq_true rfl, Nat.le_of_ble_eq_true rfl⟩, X.2.2.2.1 _ lk_X10_labelAfter_im227, X.2.2.2.1 _ lk_X10_labelAfter_se227⟩ rfl (Nat.le_of_ble_eq_true rfl) ⟨Nat.le_of_ble_eq_true rfl, Nat.le_of_ble_eq_true rfl⟩ rfl dX10_labelAfter_22 (fun M6 hw => ?_)
  refine V_iload_n X dX10_labelAfter_25 rfl (q := 2) rfl ?_
  refine V_aload_n X dX10_labelAfter_26 rfl (q := 0) rfl ?_
  refine V_get (C := RX10) (T := TX10) (N := 9) (ci := 10) X hi_X10_labelAfter_10 gO_0 rfl 6 (by decide) lk_X10_labelAfter_f62 (fun _ h9 => h9) rfl dX10_labelAfter_27 ?_
  refine V_getN (C := RX7) (T := TX7) (N := 9) (ci := 7) X hi_X10_labelAfter_7 gO_7 rfl 8 (by decide) (List.mem_of_getElem? (i := 81) rfl) (fun _ h9 => h9) rfl dX10_labelAfter_30 ?_
  refine V_callxS_v X _ _ (As := [iv p1, iv ((M6 7 8 0))]) (st := []) (c_X10_needIndex l hlt hw) (va_cwS 2 X.2.2.2.1 gX10_labelAfter_X10_needIndex rfl rfl rfl (by decide +kernel) ⟨Nat.le_of_ble_eq_true rfl, Nat.le_of_ble_eq_true rfl⟩) rfl (Nat.le_of_ble_eq_true rfl) ⟨Nat.le_of_ble_eq_true rfl, Nat.le_of_ble_eq_true rfl⟩ rfl dX10_labelAfter_33 (fun E ce q9 M9 H9 locs9 ls9 hx9 hP9 hD9 hS9 hl9 h91 h92 h93 => V_xout X htab (Nat.le_of_ble_eq_true rfl) (Nat.le_of_ble_eq_true rfl) hx9 hP9 hD9 hS9 h91 h92 h93) (fun M8 hw => ?_)
  refine V_aload_n X dX10_labelAfter_36 rfl (q := 0) rfl ?_
  refine V_get (C := RX10) (T := TX10) (N := 9) (ci := 10) X hi_X10_labelAfter_10 gO_0 rfl 6 (by decide) lk_X10_labelAfter_f62 (fun _ h9 => h9) rfl dX10_labelAfter_37 ?_
  refine V_iload_n X dX10_labelAfter_40 rfl (q := 1) rfl ?_
  refine V_aload_n X dX10_labelAfter_41 rfl (q := 0) rfl ?_
  refine V_get (C := RX10) (T := TX10) (N := 9) (ci := 10) X hi_X10_labelAfter_10 gO_0 rfl 6 (by decide) lk_X10_labelAfter_f62 (fun _ h9 => h9) rfl dX10_labelAfter_42 ?_
  refine V_getN (C := RX7) (T := TX7) (N := 9) (ci := 7) X hi_X10_labelAfter_7 gO_7 rfl 7 (by decide) (List.mem_of_getElem? (i := 80) rfl) (fun _ h9 => h9) rfl dX10_labelAfter_45 ?_
  refine V_iload_n X dX10_labelAfter_48 rfl (q := 2) rfl ?_
  obtain ⟨h9, hw⟩ := hw
  refine V_iald X (gA_7_7) h9 (by decide) dX10_labelAfter_49 ?_
  refine V_callVN_i X _ gO_7 rfl (As := [iv p0, iv ((M8 7 7 p1.toNat))]) (st := []) (c_X7_shownLabel l hw) ⟨va_cnB 2 X.2.2.2.1 gX10_labelAfter_X7_shownLabel_n237 rfl rfl rfl (X.2.2.2.2.1.2.1 _ (List.mem_of_getElem? (i := 131) rfl)) (X.2.2.2.1 _ lk_X10_labelAfter_i7) (by decide +kernel) ⟨Nat.le_of_ble_eq_true rfl, Nat.le_of_ble_eq_true rfl⟩, X.2.2.2.1 _ lk_X10_labelAfter_im237, X.2.2.2.1 _ lk_X10_labelAfter_se237⟩ rfl (Nat.le_of_ble_eq_true rfl) ⟨Nat.le_of_ble_eq_true rfl, Nat.le_of_ble_eq_true rfl⟩ rfl dX10_labelAfter_50 (fun y10 M11 hw => ?_)
  exact V_xret (Nat.le_of_ble_eq_true rfl) (Nat.le_of_ble_eq_true rfl) (V_iret X hr hw dX10_labelAfter_53)
set_option maxHeartbeats 4000000 in
set_option maxRecDepth 100000 in
theorem c_X10_labelAfter (l : Launch) {p0 : Int} {p1 : Int} (hlt : l.stackTraces = false) {D : va_G} {g : GT} {A : Nat → Prop} {a : Nat → Nat} {b : Nat → Nat → Nat} {M : Mem} {Q : Int → Mem → Prop} {XQ : String → Mem → Prop} (hw : wp_X10_labelAfter M p0 p1 Q XQ) : vx_Met l yX10_labelAfter wsX10_labelAfter ({ frames := 33, cells := 2, slots := 12, locals := 1084 } : Room) (cPc D g A a b M [.ref (a 0), iv p0, iv p1]) (cQi D g A a b Q) (cX D g A a b XQ) 2 12 A := by
  refine vx_ofW (cc := cX10_labelAfter) (maxL := 3) (ret := (some .int)) (by decide) rfl ?_
  intro p e s m args below meth c s₁ B hml htab hv
  obtain ⟨rfl, hP, hD, hG⟩ := hv
  have X : vC p s m _ meth c D g A RX10 wsX10_labelAfter cX10_labelAfter 3 := ⟨B.exec, B.bytes, findClass_of_methodNamed B.named, atoms_spec (ws := wsX10_labelAfter) B.pre, hG, hml, B.notSynchronized⟩
  have hr := B.returns
  have hl := lv_entry ([.ref (a 0), iv p0, iv p1]) (n := 3) (Nat.le_of_ble_eq_true rfl)
  rw [lg_entry_eq]
  generalize (lg_sl ([.ref (a 0), iv p0, iv p1]) ++ List.replicate (3 - (lg_sl ([.ref (a 0), iv p0, iv p1])).length) Slot.unset).toArray = ls at hl ⊢
  have hl : lv_has ls 3 [(0, .ref (a 0)), (1, iv p0), (2, iv p1)] := hl
  exact wke_X10_labelAfter X hr hlt htab hw s.heap [] ls hP hD va_S.rf hl

set_option maxRecDepth 20000 in
theorem ggX7_shownDepth_X7_treeAfter : GoodIn wsX7_shownDepth wsX7_treeAfter := goodIn_r _ [6, 7, 8, 24, 25, 26, 27, 28, 29, 30, 31, 32, 33, 34, 35, 36, 37, 38] (by decide +kernel) (by decide +kernel)
set_option maxRecDepth 20000 in
theorem gX7_shownDepth_X7_treeAfter : GoodIn wsX7_shownDepth (wsV RX7 85 RX7 yX7_treeAfter wsX7_treeAfter) := goodIn_app (goodIn_of _ (by decide +kernel)) ggX7_shownDepth_X7_treeAfter
set_option maxRecDepth 20000 in
theorem ggX7_shownDepth_X9_endOf : GoodIn wsX7_shownDepth wsX9_endOf := goodIn_r _ [12, 13, 14, 15, 16, 17, 18, 19, 20, 21, 22, 23] (by decide +kernel) (by decide +kernel)
set_option maxRecDepth 20000 in
theorem gX7_shownDepth_X9_endOf_n95 : GoodIn wsX7_shownDepth (wsX9_endOf) := ggX7_shownDepth_X9_endOf
theorem dX7_shownDepth_0 : decode cX7_shownDepth 0 = .ok (.aload_n 0, 1) := by decide +kernel
theorem dX7_shownDepth_1 : decode cX7_shownDepth 1 = .ok (.iload_n 1, 1) := by decide +kernel
theorem dX7_shownDepth_2 : decode cX7_shownDepth 2 = .ok (.invokevirtual 85, 3) := by decide +kernel
theorem dX7_shownDepth_5 : decode cX7_shownDepth 5 = .ok (.astore_n 3, 1) := by decide +kernel
theorem dX7_shownDepth_6 : decode cX7_shownDepth 6 = .ok (.iconst 0, 1) := by decide +kernel
theorem dX7_shownDepth_7 : decode cX7_shownDepth 7 = .ok (.istore 4, 2) := by decide +kernel
theorem dX7_shownDepth_9 : decode cX7_shownDepth 9 = .ok (.iconst 0, 1) := by decide +kernel
theorem dX7_shownDepth_10 : decode cX7_shownDepth 10 = .ok (.istore 5, 2) := by decide +kernel
theorem dX7_shownDepth_12 : decode cX7_shownDepth 12 = .ok (.iload 5, 2) := by decide +kernel
theorem dX7_shownDepth_14 : decode cX7_shownDepth 14 = .ok (.aload_n 3, 1) := by decide +kernel
theorem dX7_shownDepth_15 : decode cX7_shownDepth 15 = .ok (.getfield 92, 3) := by decide +kernel
theorem dX7_shownDepth_18 : decode cX7_shownDepth 18 = .ok (.iload_n 2, 1) := by decide +kernel
theorem dX7_shownDepth_19 : decode cX7_shownDepth 19 = .ok (.iaload, 1) := by decide +kernel
theorem dX7_shownDepth_20 : decode cX7_shownDepth 20 = .ok (.if_icmp .ge 46, 3) := by decide +kernel
theorem dX7_shownDepth_23 : decode cX7_shownDepth 23 = .ok (.aload_n 3, 1) := by decide +kernel
theorem dX7_shownDepth_24 : decode cX7_shownDepth 24 = .ok (.getfield 61, 3) := by decide +kernel
theorem dX7_shownDepth_27 : decode cX7_shownDepth 27 = .ok (.iload 5, 2) := by decide +kernel
theorem dX7_shownDepth_29 : decode cX7_shownDepth 29 = .ok (.iaload, 1) := by decide +kernel
theorem dX7_shownDepth_30 : decode cX7_shownDepth 30 = .ok (.istore 6, 2) := by decide +kernel
theorem dX7_shownDepth_32 : decode cX7_shownDepth 32 = .ok (.aload_n 0, 1) := by decide +kernel
theorem dX7_shownDepth_33 : decode cX7_shownDepth 33 = .ok (.getfield 18, 3) := by decide +kernel
theorem dX7_shownDepth_36 : decode cX7_shownDepth 36 = .ok (.iload 6, 2) := by decide +kernel
theorem dX7_shownDepth_38 : decode cX7_shownDepth 38 = .ok (.baload, 1) := by decide +kernel
theorem dX7_shownDepth_39 : decode cX7_shownDepth 39 = .ok (.ifCond .eq 21, 3) := by decide +kernel
theorem dX7_shownDepth_42 : decode cX7_shownDepth 42 = .ok (.aload_n 3, 1) := by decide +kernel
theorem dX7_shownDepth_43 : decode cX7_shownDepth 43 = .ok (.iload 6, 2) := by decide +kernel
theorem dX7_shownDepth_45 : decode cX7_shownDepth 45 = .ok (.invokevirtual 95, 3) := by decide +kernel
theorem dX7_shownDepth_48 : decode cX7_shownDepth 48 = .ok (.aload_n 3, 1) := by decide +kernel
theorem dX7_shownDepth_49 : decode cX7_shownDepth 49 = .ok (.getfield 92, 3) := by decide +kernel
theorem dX7_shownDepth_52 : decode cX7_shownDepth 52 = .ok (.iload_n 2, 1) := by decide +kernel
theorem dX7_shownDepth_53 : decode cX7_shownDepth 53 = .ok (.iaload, 1) := by decide +kernel
theorem dX7_shownDepth_54 : decode cX7_shownDepth 54 = .ok (.if_icmp .le 6, 3) := by decide +kernel
theorem dX7_shownDepth_57 : decode cX7_shownDepth 57 = .ok (.iinc 4 1, 3) := by decide +kernel
theorem dX7_shownDepth_60 : decode cX7_shownDepth 60 = .ok (.iinc 5 1, 3) := by decide +kernel
theorem dX7_shownDepth_63 : decode cX7_shownDepth 63 = .ok (.goto (-51), 3) := by decide +kernel
theorem dX7_shownDepth_66 : decode cX7_shownDepth 66 = .ok (.iload 4, 2) := by decide +kernel
theorem dX7_shownDepth_68 : decode cX7_shownDepth 68 = .ok (.ireturn, 1) := by decide +kernel
theorem hi_X7_shownDepth_9 : ∀ w ∈ u_ws RX9 TX9 9, w ∈ wsX7_shownDepth := by decide +kernel
theorem lk_X7_shownDepth_f18 : Cond.fieldLink RX7 18 "TreeComparer$Script" "isShown" "[Z" ∈ wsX7_shownDepth := by decide +kernel
theorem hi_X7_shownDepth_7 : ∀ w ∈ u_ws RX7 TX7 9, w ∈ wsX7_shownDepth := by decide +kernel
theorem lk_X7_shownDepth_i9 : Cond.initialized RX9 ∈ wsX7_shownDepth := by decide +kernel
theorem lk_X7_shownDepth_im95 : Cond.instanceMethod yX9_endOf ∈ wsX7_shownDepth := by decide +kernel
theorem lk_X7_shownDepth_se95 : Cond.selects RX9 yX9_endOf yX9_endOf ∈ wsX7_shownDepth := by decide +kernel
def wpj_X7_shownDepth_60 (p0 : Int) (p1 : Int) (r3 : Nat) (x4 : Int) (x5 : Int) (M : Mem) (J12 : Nat → Int → Int → Mem → Prop) (Q : Int → Mem → Prop) : Prop := isT r3 ∧ J12 r3 x4 (x5 + 1) M
def wph_X7_shownDepth_12 (p0 : Int) (p1 : Int) (r3 : Nat) (x4 : Int) (x5 : Int) (M : Mem) (J12 : Nat → Int → Int → Mem → Prop) (Q : Int → Mem → Prop) : Prop := isT r3 ∧ ((0 : Int) ≤ p1 ∧ p1 < 12) ∧ inR x5 ∧ inR (M r3 5 p1.toNat) ∧ (((M r3 5 p1.toNat) ≤ x5 → Q x4 M) ∧ (¬ ((M r3 5 p1.toNat) ≤ x5) → ((0 : Int) ≤ x5 ∧ x5 < 12) ∧ (∀ y8 : Int, y8 = (M r3 3 x5.toNat) → ((0 : Int) ≤ y8 ∧ y8 < 12) ∧ inR (M 7 6 y8.toNat) ∧ (((M 7 6 y8.toNat) = 0 → wpj_X7_shownDepth_60 p0 p1 r3 x4 x5 M J12 Q) ∧ (¬ ((M 7 6 y8.toNat) = 0) → wp_X9_endOf M r3 y8 (fun y12 M13 => ((0 : Int) ≤ p1 ∧ p1 < 12) ∧ inR y12 ∧ inR (M13 r3 5 p1.toNat) ∧ ((y12 ≤ (M13 r3 5 p1.toNat) → wpj_X7_shownDepth_60 p0 p1 r3 x4 x5 M13 J12 Q) ∧ (¬ (y12 ≤ (M13 r3 5 p1.toNat)) → wpj_X7_shownDepth_60 p0 p1 r3 (x4 + 1) x5 M13 J12 Q))))))))
def wpe_X7_shownDepth (p0 : Int) (p1 : Int) (M : Mem) (J12 : Nat → Int → Int → Mem → Prop) (Q : Int → Mem → Prop) : Prop := wp_X7_treeAfter M p0 (fun y1 M2 => isT y1 ∧ J12 y1 0 0 M2)
def wp_X7_shownDepth (M : Mem) (p0 : Int) (p1 : Int) (Q : Int → Mem → Prop) : Prop := ∃ (I12 : Nat → Nat → Int → Int → Mem → Prop), wpe_X7_shownDepth p0 p1 M (fun (r3 : Nat) (x4 : Int) (x5 : Int) (M1 : Mem) => ∃ n1 : Nat, I12 n1 r3 x4 x5 M1) Q ∧ (∀ (n : Nat) (r3 : Nat) (x4 : Int) (x5 : Int) (M : Mem), I12 n r3 x4 x5 M → wph_X7_shownDepth_12 p0 p1 r3 x4 x5 M (fun (r3 : Nat) (x4 : Int) (x5 : Int) (M1 : Mem) => ∃ n1 : Nat, n1 < n ∧ I12 n1 r3 x4 x5 M1) Q)
set_option maxHeartbeats 4000000 in
set_option maxRecDepth 100000 in
theorem wkj_X7_shownDepth_60 {p : Program} {l : Launch} {e : Env} {s : State} {m : MethodId} {args : Array Value} {below : List Frame} {meth : Method} {c : Code} {D : va_G} {g : GT} {A : Nat → Prop} {a : Nat → Nat} {b : Nat → Nat → Nat} (X : vC p s m args meth c D g A RX7 wsX7_shownDepth cX7_shownDepth 7) (hr : meth.sig.returnType = (some .int)) {p0 : Int} {p1 : Int} {r3 : Nat} {x4 : Int} {x5 : Int} {M : Mem} {J12 : Nat → Int → Int → Mem → Prop} {Q : Int → Mem → Prop} (hJ12 : ∀ (r3 : Nat) (x4 : Int) (x5 : Int) (M : Mem), J12 r3 x4 x5 M → vV p l e ({ frames := 1, cells := 0, slots := 0, locals := 21 } : Room) s m args below meth c D g A a b 7 0 0 (MQ below (cQi D g A a b Q) args s 0 0 A) M [(0, .ref (a 7)), (2, iv p1), (3, .ref (a r3)), (4, iv x4), (5, iv x5)] 12 []) (hw : wpj_X7_shownDepth_60 p0 p1 r3 x4 x5 M J12 Q) : vV p l e ({ frames := 1, cells := 0, slots := 0, locals := 21 } : Room) s m args below meth c D g A a b 7 0 0 (MQ below (cQi D g A a b Q) args s 0 0 A) M [(0, .ref (a 7)), (2, iv p1), (3, .ref (a r3)), (4, iv x4), (5, iv x5)] 60 [] := by
  unfold wpj_X7_shownDepth_60 at hw
  obtain ⟨hr3, hw⟩ := hw
  refine V_iinc (lv1 := [(0, .ref (a 7)), (2, iv p1), (3, .ref (a r3)), (4, iv x4), (5, iv (x5 + 1))]) X [1, 2, 3, 4, 0] dX7_shownDepth_60 (q := 4) rfl (by decide) rfl ?_
  refine V_goto (tgt := 12) X dX7_shownDepth_63 (by decide) ?_
  exact hJ12 _ _ _ _ hw
set_option maxHeartbeats 4000000 in
set_option maxRecDepth 100000 in
theorem wkh_X7_shownDepth_12 {p : Program} {l : Launch} {e : Env} {s : State} {m : MethodId} {args : Array Value} {below : List Frame} {meth : Method} {c : Code} {D : va_G} {g : GT} {A : Nat → Prop} {a : Nat → Nat} {b : Nat → Nat → Nat} (X : vC p s m args meth c D g A RX7 wsX7_shownDepth cX7_shownDepth 7) (hr : meth.sig.returnType = (some .int)) {p0 : Int} {p1 : Int} {r3 : Nat} {x4 : Int} {x5 : Int} {M : Mem} {J12 : Nat → Int → Int → Mem → Prop} {Q : Int → Mem → Prop} (hJ12 : ∀ (r3 : Nat) (x4 : Int) (x5 : Int) (M : Mem), J12 r3 x4 x5 M → vV p l e ({ frames := 1, cells := 0, slots := 0, locals := 21 } : Room) s m args below meth c D g A a b 7 0 0 (MQ below (cQi D g A a b Q) args s 0 0 A) M [(0, .ref (a 7)), (2, iv p1), (3, .ref (a r3)), (4, iv x4), (5, iv x5)] 12 []) (hw : wph_X7_shownDepth_12 p0 p1 r3 x4 x5 M J12 Q) : vV p l e ({ frames := 1, cells := 0, slots := 0, locals := 21 } : Room) s m args below meth c D g A a b 7 0 0 (MQ below (cQi D g A a b Q) args s 0 0 A) M [(0, .ref (a 7)), (2, iv p1), (3, .ref (a r3)), (4, iv x4), (5, iv x5)] 12 [] := by
  unfold wph_X7_shownDepth_12 at hw
  obtain ⟨hr3, hw⟩ := hw
  refine V_iload X dX7_shownDepth_12 (q := 4) rfl ?_
  refine V_aload_n X dX7_shownDepth_14 rfl (q := 2) rfl ?_
  refine V_getN (C := RX9) (T := TX9) (N := 9) (ci := 9) X hi_X7_shownDepth_9 (gTO hr3) rfl 5 (by decide) (List.mem_of_getElem? (i := 16) rfl) (fun _ h9 => h9) rfl dX7_shownDepth_15 ?_
  refine V_iload_n X dX7_shownDepth_18 rfl (q := 1) rfl ?_
  obtain ⟨h3, hw⟩ := hw
  refine V_iald X ((gT_5 hr3)) h3 (by decide) dX7_shownDepth_19 ?_
  obtain ⟨h4, h5, hw⟩ := hw
  refine V_icmp_ge (tgt := 66) X h4 h5 dX7_shownDepth_20 (by decide) (fun q6 => ?_) (fun q6 => ?_)
  · have hw := hw.1 q6
    refine V_iload X dX7_shownDepth_66 (q := 3) rfl ?_
    exact V_iret X hr hw dX7_shownDepth_68
  · have hw := hw.2 q6
    refine V_aload_n X dX7_shownDepth_23 rfl (q := 2) rfl ?_
    refine V_getN (C := RX9) (T := TX9) (N := 9) (ci := 9) X hi_X7_shownDepth_9 (gTO hr3) rfl 3 (by decide) (List.mem_of_getElem? (i := 10) rfl) (fun _ h9 => h9) rfl dX7_shownDepth_24 ?_
    refine V_iload X dX7_shownDepth_27 (q := 4) rfl ?_
    obtain ⟨h7, hw⟩ := hw
    refine V_iald X ((gT_3 hr3)) h7 (by decide) dX7_shownDepth_29 ?_
    refine V_top (fun y8 ey8 => ?_)
    have hw := hw y8 ey8
    refine V_istore (lv1 := [(0, .ref (a 7)), (2, iv p1), (3, .ref (a r3)), (4, iv x4), (5, iv x5), (6, iv y8)]) X [1, 2, 3, 4, 5, 0] dX7_shownDepth_30 (by decide) rfl ?_
    refine V_aload_n X dX7_shownDepth_32 rfl (q := 0) rfl ?_
    refine V_get (C := RX7) (T := TX7) (N := 9) (ci := 7) X hi_X7_shownDepth_7 gO_7 rfl 6 (by decide) lk_X7_shownDepth_f18 (fun _ h9 => h9) rfl dX7_shownDepth_33 ?_
    refine V_iload X dX7_shownDepth_36 (q := 5) rfl ?_
    obtain ⟨h9, hw⟩ := hw
    refine V_zald X (gA_7_6) h9 (by decide) dX7_shownDepth_38 ?_
    obtain ⟨h10, hw⟩ := hw
    refine V_if_eq (tgt := 60) X h10 dX7_shownDepth_39 (by decide) (fun q11 => ?_) (fun q11 => ?_)
    · have hw := hw.1 q11
      refine V_sub (lv1 := [(0, .ref (a 7)), (2, iv p1), (3, .ref (a r3)), (4, iv x4), (5, iv x5)]) [0, 1, 2, 3, 4] rfl ?_
      exact wkj_X7_shownDepth_60 X hr hJ12 hw
    · have hw := hw.2 q11
      refine V_aload_n X dX7_shownDepth_42 rfl (q := 2) rfl ?_
      refine V_iload X dX7_shownDepth_43 (q := 5) rfl ?_
      refine V_callVN_i X _ (gTO hr3) rfl (As := [iv y8]) (st := []) (c_X9_endOf l hr3 hw) ⟨va_cnB 1 X.2.2.2.1 gX7_shownDepth_X9_endOf_n95 rfl rfl rfl (X.2.2.2.2.1.2.1 _ (List.mem_of_getElem? (i := 133) rfl)) (X.2.2.2.1 _ lk_X7_shownDepth_i9) (by decide +kernel) ⟨Nat.le_of_ble_eq_true rfl, Nat.le_of_ble_eq_true rfl⟩, X.2.2.2.1 _ lk_X7_shownDepth_im95, X.2.2.2.1 _ lk_X7_shownDepth_se95⟩ rfl (Nat.le_of_ble_eq_true rfl) ⟨Nat.le_of_ble_eq_true rfl, Nat.le_of_ble_eq_true rfl⟩ rfl dX7_shownDepth_45 (fun y12 M13 hw => ?_)
      refine V_aload_n X dX7_shownDepth_48 rfl (q := 2) rfl ?_
      refine V_getN (C := RX9) (T := TX9) (N := 9) (ci := 9) X hi_X7_shownDepth_9 (gTO hr3) rfl 5 (by decide) (List.mem_of_getElem? (i := 16) rfl) (fun _ h9 => h9) rfl dX7_shownDepth_49 ?_
      refine V_iload_n X dX7_shownDepth_52 rfl (q := 1) rfl ?_
      obtain ⟨h14, hw⟩ := hw
      refine V_iald X ((gT_5 hr3)) h14 (by decide) dX7_shownDepth_53 ?_
      obtain ⟨h15, h16, hw⟩ := hw
      refine V_icmp_le (tgt := 60) X h15 h16 dX7_shownDepth_54 (by decide) (fun q17 => ?_) (fun q17 => ?_)
      · have hw := hw.1 q17
        refine V_sub (lv1 := [(0, .ref (a 7)), (2, iv p1), (3, .ref (a r3)), (4, iv x4), (5, iv x5)]) [0, 1, 2, 3, 4] rfl ?_
        exact wkj_X7_shownDepth_60 X hr hJ12 hw
      · have hw := hw.2 q17
        refine V_iinc (lv1 := [(0, .ref (a 7)), (2, iv p1), (3, .ref (a r3)), (4, iv (x4 + 1)), (5, iv x5), (6, iv y8)]) X [1, 2, 3, 0, 4, 5] dX7_shownDepth_57 (q := 3) rfl (by decide) rfl ?_
        refine V_sub (lv1 := [(0, .ref (a 7)), (2, iv p1), (3, .ref (a r3)), (4, iv (x4 + 1)), (5, iv x5)]) [0, 1, 2, 3, 4] rfl ?_
        exact wkj_X7_shownDepth_60 X hr hJ12 hw
set_option maxHeartbeats 4000000 in
set_option maxRecDepth 100000 in
theorem wke_X7_shownDepth {p : Program} {l : Launch} {e : Env} {s : State} {m : MethodId} {args : Array Value} {below : List Frame} {meth : Method} {c : Code} {D : va_G} {g : GT} {A : Nat → Prop} {a : Nat → Nat} {b : Nat → Nat → Nat} (X : vC p s m args meth c D g A RX7 wsX7_shownDepth cX7_shownDepth 7) (hr : meth.sig.returnType = (some .int)) {p0 : Int} {p1 : Int} {M : Mem} {J12 : Nat → Int → Int → Mem → Prop} {Q : Int → Mem → Prop} (hJ12 : ∀ (r3 : Nat) (x4 : Int) (x5 : Int) (M : Mem), J12 r3 x4 x5 M → vV p l e ({ frames := 1, cells := 0, slots := 0, locals := 21 } : Room) s m args below meth c D g A a b 7 0 0 (MQ below (cQi D g A a b Q) args s 0 0 A) M [(0, .ref (a 7)), (2, iv p1), (3, .ref (a r3)), (4, iv x4), (5, iv x5)] 12 []) (hw : wpe_X7_shownDepth p0 p1 M J12 Q) : vV p l e ({ frames := 1, cells := 0, slots := 0, locals := 21 } : Room) s m args below meth c D g A a b 7 0 0 (MQ below (cQi D g A a b Q) args s 0 0 A) M [(0, .ref (a 7)), (1, iv p0), (2, iv p1)] 0 [] := by
  unfold wpe_X7_shownDepth at hw
  refine V_aload_n X dX7_shownDepth_0 rfl (q := 0) rfl ?_
  refine V_iload_n X dX7_shownDepth_1 rfl (q := 1) rfl ?_
  refine V_callV_r X _ gO_7 rfl (As := [iv p0]) (st := []) (c_X7_treeAfter l hw) (cwV 1 X.2.2.2.1 gX7_shownDepth_X7_treeAfter rfl rfl rfl (by decide +kernel) ⟨Nat.le_of_ble_eq_true rfl, Nat.le_of_ble_eq_true rfl⟩) rfl (Nat.le_of_ble_eq_true rfl) ⟨Nat.le_of_ble_eq_true rfl, Nat.le_of_ble_eq_true rfl⟩ rfl dX7_shownDepth_2 (fun y1 M2 hw => ?_)
  obtain ⟨hy1, hw⟩ := hw
  refine V_astore_n (lv1 := [(0, .ref (a 7)), (1, iv p0), (2, iv p1), (3, .ref (a y1))]) X [1, 2, 3, 0] dX7_shownDepth_5 rfl (by decide) rfl ?_
  refine V_iconst X dX7_shownDepth_6 ?_
  refine V_istore (lv1 := [(0, .ref (a 7)), (1, iv p0), (2, iv p1), (3, .ref (a y1)), (4, iv 0)]) X [1, 2, 3, 4, 0] dX7_shownDepth_7 (by decide) rfl ?_
  refine V_iconst X dX7_shownDepth_9 ?_
  refine V_istore (lv1 := [(0, .ref (a 7)), (1, iv p0), (2, iv p1), (3, .ref (a y1)), (4, iv 0), (5, iv 0)]) X [1, 2, 3, 4, 5, 0] dX7_shownDepth_10 (by decide) rfl ?_
  refine V_sub (lv1 := [(0, .ref (a 7)), (2, iv p1), (3, .ref (a y1)), (4, iv 0), (5, iv 0)]) [0, 2, 3, 4, 5] rfl ?_
  exact hJ12 _ _ _ _ hw
set_option maxHeartbeats 4000000 in
set_option maxRecDepth 100000 in
theorem c_X7_shownDepth (l : Launch) {p0 : Int} {p1 : Int} {D : va_G} {g : GT} {A : Nat → Prop} {a : Nat → Nat} {b : Nat → Nat → Nat} {M : Mem} {Q : Int → Mem → Prop} (hw : wp_X7_shownDepth M p0 p1 Q) : Met l yX7_shownDepth wsX7_shownDepth ({ frames := 1, cells := 0, slots := 0, locals := 21 } : Room) (cPc D g A a b M [.ref (a 7), iv p0, iv p1]) (cQi D g A a b Q) 0 0 A := by
  refine Met.ofW (cc := cX7_shownDepth) (maxL := 7) (ret := (some .int)) (by decide) rfl ?_
  intro p e s m args below meth c s₁ B hml hv
  obtain ⟨rfl, hP, hD, hG⟩ := hv
  have X : vC p s m _ meth c D g A RX7 wsX7_shownDepth cX7_shownDepth 7 := ⟨B.exec, B.bytes, findClass_of_methodNamed B.named, atoms_spec (ws := wsX7_shownDepth) B.pre, hG, hml, B.notSynchronized⟩
  have hr := B.returns
  have hl := lv_entry ([.ref (a 7), iv p0, iv p1]) (n := 7) (Nat.le_of_ble_eq_true rfl)
  rw [lg_entry_eq]
  generalize (lg_sl ([.ref (a 7), iv p0, iv p1]) ++ List.replicate (7 - (lg_sl ([.ref (a 7), iv p0, iv p1])).length) Slot.unset).toArray = ls at hl ⊢
  have hl : lv_has ls 7 [(0, .ref (a 7)), (1, iv p0), (2, iv p1)] := hl
  obtain ⟨I12, hw, hI12⟩ := hw
  have K : ∀ n : Nat, (∀ (r3 : Nat) (x4 : Int) (x5 : Int) (M : Mem), I12 n r3 x4 x5 M → vV p l e ({ frames := 1, cells := 0, slots := 0, locals := 21 } : Room) s m ([.ref (a 7), iv p0, iv p1] : List Value).toArray below meth c D g A a b 7 0 0 (MQ below (cQi D g A a b Q) ([.ref (a 7), iv p0, iv p1] : List Value).toArray s 0 0 A) M [(0, .ref (a 7)), (2, iv p1), (3, .ref (a r3)), (4, iv x4), (5, iv x5)] 12 []) := by
    intro n
    induction n using Nat.strongRecOn with
    | ind n ih =>
      exact fun r3 x4 x5 M hh => wkh_X7_shownDepth_12 X hr (fun _ _ _ _ ⟨n1, hn, hh⟩ => (ih n1 hn) _ _ _ _ hh) (hI12 n r3 x4 x5 M hh)
  exact wke_X7_shownDepth X hr  (fun _ _ _ _ ⟨n1, hh⟩ => (K n1) _ _ _ _ hh) hw s.heap [] ls hP hD va_S.rf hl

set_option maxRecDepth 20000 in
theorem ggX10_depthAfter_X10_settle : GoodIn wsX10_depthAfter wsX10_settle := goodIn_r _ [6, 7, 8, 9, 10, 1, 11, 12, 13, 14, 15, 16, 17, 18, 19, 20, 21, 22, 23, 24, 25, 26, 27, 28, 29, 30, 31, 32, 33, 34, 35, 36, 37, 38, 39, 40, 41, 42, 43, 44, 45, 46, 47, 48, 49, 50, 51, 52, 53, 54, 55, 56, 57, 58, 59, 60, 61, 62, 63, 64, 65, 66, 67, 68, 69, 70, 71, 72, 73, 74, 75, 76, 77, 78, 79, 80, 81, 82, 83, 84, 85, 86, 87, 88, 89, 90, 91, 92, 93, 94, 95, 96, 97, 98, 99, 100, 101, 102, 103, 104, 105, 106, 107, 108, 109, 110, 111, 112, 113, 114, 115, 116, 117, 118, 119, 120, 121, 122, 123, 124, 125, 126, 127, 128, 129, 130, 131, 132, 133, 134, 135, 136, 137, 138, 139, 140, 141, 142, 143, 144, 145, 146, 147, 148, 149, 150, 151, 170, 171, 172, 173, 174, 175, 176, 177, 178, 188, 189, 190, 191, 192, 193, 194, 195, 196, 197, 198, 199, 200, 201, 202, 203, 204, 205, 206, 207, 208, 209, 210, 211, 212, 213, 214, 215, 216, 217, 218, 219, 220, 221, 222, 179, 180, 181, 182, 183, 184, 185, 186, 187, 223, 224, 225, 226, 227, 228] (by decide +kernel) (by decide +kernel)
set_option maxRecDepth 20000 in
theorem gX10_depthAfter_X10_settle : GoodIn wsX10_depthAfter (wsV RX10 206 RX10 yX10_settle wsX10_settle) := goodIn_app (goodIn_of _ (by decide +kernel)) ggX10_depthAfter_X10_settle
set_option maxRecDepth 20000 in
theorem ggX10_depthAfter_X10_needIndex : GoodIn wsX10_depthAfter wsX10_needIndex := goodIn_ca (goodIn_r _ [154, 155, 156] (by decide +kernel) (by decide +kernel)) (goodIn_sub (fun _ h => List.mem_cons_of_mem _ (List.mem_append_right _ h)) (by decide +kernel))
set_option maxRecDepth 20000 in
theorem gX10_depthAfter_X10_needIndex : GoodIn wsX10_depthAfter (va_wsS RX10 81 yX10_needIndex wsX10_needIndex) := goodIn_app (goodIn_of _ (by decide +kernel)) ggX10_depthAfter_X10_needIndex
set_option maxRecDepth 20000 in
theorem ggX10_depthAfter_X7_showForest : GoodIn wsX10_depthAfter wsX7_showForest := goodIn_r _ [159, 102, 160, 101, 107, 108, 161, 162, 163, 164, 165, 96, 166, 99, 179, 180, 181, 182, 183, 184, 185, 186, 187, 204, 205, 206, 207, 208, 209, 210, 211, 212, 215, 216, 217, 218, 219, 220, 221, 222, 192, 193, 194, 195, 196, 197] (by decide +kernel) (by decide +kernel)
set_option maxRecDepth 20000 in
theorem gX10_depthAfter_X7_showForest_n227 : GoodIn wsX10_depthAfter (wsX7_showForest) := ggX10_depthAfter_X7_showForest
set_option maxRecDepth 20000 in
theorem ggX10_depthAfter_X7_shownDepth : GoodIn wsX10_depthAfter wsX7_shownDepth := goodIn_r _ [169, 160, 163, 164, 165, 96, 166, 102, 99, 133, 35, 134, 135, 39, 136, 204, 205, 206, 207, 208, 209, 210, 211, 212, 179, 180, 181, 182, 183, 184, 185, 186, 187, 192, 193, 194, 195, 196, 197] (by decide +kernel) (by decide +kernel)
set_option maxRecDepth 20000 in
theorem gX10_depthAfter_X7_shownDepth_n240 : GoodIn wsX10_depthAfter (wsX7_shownDepth) := ggX10_depthAfter_X7_shownDepth
theorem dX10_depthAfter_0 : decode cX10_depthAfter 0 = .ok (.aload_n 0, 1) := by decide +kernel
theorem dX10_depthAfter_1 : decode cX10_depthAfter 1 = .ok (.invokevirtual 206, 3) := by decide +kernel
theorem dX10_depthAfter_4 : decode cX10_depthAfter 4 = .ok (.iload_n 1, 1) := by decide +kernel
theorem dX10_depthAfter_5 : decode cX10_depthAfter 5 = .ok (.aload_n 0, 1) := by decide +kernel
theorem dX10_depthAfter_6 : decode cX10_depthAfter 6 = .ok (.getfield 62, 3) := by decide +kernel
theorem dX10_depthAfter_9 : decode cX10_depthAfter 9 = .ok (.getfield 217, 3) := by decide +kernel
theorem dX10_depthAfter_12 : decode cX10_depthAfter 12 = .ok (.iconst 1, 1) := by decide +kernel
theorem dX10_depthAfter_13 : decode cX10_depthAfter 13 = .ok (.iadd, 1) := by decide +kernel
theorem dX10_depthAfter_14 : decode cX10_depthAfter 14 = .ok (.invokestatic 81, 3) := by decide +kernel
theorem dX10_depthAfter_17 : decode cX10_depthAfter 17 = .ok (.aload_n 0, 1) := by decide +kernel
theorem dX10_depthAfter_18 : decode cX10_depthAfter 18 = .ok (.getfield 62, 3) := by decide +kernel
theorem dX10_depthAfter_21 : decode cX10_depthAfter 21 = .ok (.iload_n 1, 1) := by decide +kernel
theorem dX10_depthAfter_22 : decode cX10_depthAfter 22 = .ok (.invokevirtual 227, 3) := by decide +kernel
theorem dX10_depthAfter_25 : decode cX10_depthAfter 25 = .ok (.iload_n 2, 1) := by decide +kernel
theorem dX10_depthAfter_26 : decode cX10_depthAfter 26 = .ok (.aload_n 0, 1) := by decide +kernel
theorem dX10_depthAfter_27 : decode cX10_depthAfter 27 = .ok (.getfield 62, 3) := by decide +kernel
theorem dX10_depthAfter_30 : decode cX10_depthAfter 30 = .ok (.getfield 231, 3) := by decide +kernel
theorem dX10_depthAfter_33 : decode cX10_depthAfter 33 = .ok (.invokestatic 81, 3) := by decide +kernel
theorem dX10_depthAfter_36 : decode cX10_depthAfter 36 = .ok (.aload_n 0, 1) := by decide +kernel
theorem dX10_depthAfter_37 : decode cX10_depthAfter 37 = .ok (.getfield 62, 3) := by decide +kernel
theorem dX10_depthAfter_40 : decode cX10_depthAfter 40 = .ok (.iload_n 1, 1) := by decide +kernel
theorem dX10_depthAfter_41 : decode cX10_depthAfter 41 = .ok (.aload_n 0, 1) := by decide +kernel
theorem dX10_depthAfter_42 : decode cX10_depthAfter 42 = .ok (.getfield 62, 3) := by decide +kernel
theorem dX10_depthAfter_45 : decode cX10_depthAfter 45 = .ok (.getfield 234, 3) := by decide +kernel
theorem dX10_depthAfter_48 : decode cX10_depthAfter 48 = .ok (.iload_n 2, 1) := by decide +kernel
theorem dX10_depthAfter_49 : decode cX10_depthAfter 49 = .ok (.iaload, 1) := by decide +kernel
theorem dX10_depthAfter_50 : decode cX10_depthAfter 50 = .ok (.invokevirtual 240, 3) := by decide +kernel
theorem dX10_depthAfter_53 : decode cX10_depthAfter 53 = .ok (.ireturn, 1) := by decide +kernel
theorem lk_X10_depthAfter_f62 : Cond.fieldLink RX10 62 "TreeComparer" "script" "LTreeComparer$Script;" ∈ wsX10_depthAfter := by decide +kernel
theorem hi_X10_depthAfter_10 : ∀ w ∈ u_ws RX10 TX10 9, w ∈ wsX10_depthAfter := by decide +kernel
theorem hi_X10_depthAfter_7 : ∀ w ∈ u_ws RX7 TX7 9, w ∈ wsX10_depthAfter := by decide +kernel
theorem lk_X10_depthAfter_i7 : Cond.initialized RX7 ∈ wsX10_depthAfter := by decide +kernel
theorem lk_X10_depthAfter_im227 : Cond.instanceMethod yX7_showForest ∈ wsX10_depthAfter := by decide +kernel
theorem lk_X10_depthAfter_se227 : Cond.selects RX7 yX7_showForest yX7_showForest ∈ wsX10_depthAfter := by decide +kernel
theorem lk_X10_depthAfter_im240 : Cond.instanceMethod yX7_shownDepth ∈ wsX10_depthAfter := by decide +kernel
theorem lk_X10_depthAfter_se240 : Cond.selects RX7 yX7_shownDepth yX7_shownDepth ∈ wsX10_depthAfter := by decide +kernel
def wpe_X10_depthAfter (p0 : Int) (p1 : Int) (M : Mem) (Q : Int → Mem → Prop) (XQ : String → Mem → Prop) : Prop := wp_X10_settle M (fun M2 => wp_X10_needIndex M2 p0 ((M2 7 4 0) + 1) (fun M4 => wp_X7_showForest M4 p0 (fun M6 => wp_X10_needIndex M6 p1 ((M6 7 8 0)) (fun M8 => ((0 : Int) ≤ p1 ∧ p1 < 12) ∧ wp_X7_shownDepth M8 p0 ((M8 7 7 p1.toNat)) (fun y10 M11 => Q y10 M11)) XQ)) XQ)
def wp_X10_depthAfter (M : Mem) (p0 : Int) (p1 : Int) (Q : Int → Mem → Prop) (XQ : String → Mem → Prop) : Prop := wpe_X10_depthAfter p0 p1 M Q XQ
set_option maxHeartbeats 4000000 in
set_option maxRecDepth 100000 in
theorem wke_X10_depthAfter {p : Program} {l : Launch} {e : Env} {s : State} {m : MethodId} {args : Array Value} {below : List Frame} {meth : Method} {c : Code} {D : va_G} {g : GT} {A : Nat → Prop} {a : Nat → Nat} {b : Nat → Nat → Nat} (X : vC p s m args meth c D g A RX10 wsX10_depthAfter cX10_depthAfter 3) (hr : meth.sig.returnType = (some .int)) {p0 : Int} {p1 : Int} (hlt : l.stackTraces = false) (htab : ∀ x ∈ c.exceptionTable.toList, False) {M : Mem} {Q : Int → Mem → Prop} {XQ : String → Mem → Prop} (hw : wpe_X10_depthAfter p0 p1 M Q XQ) : vV p l e ({ frames := 33, cells := 2, slots := 12, locals := 1084 } : Room) s m args below meth c D g A a b 3 0 0 (vx_MQ below (cQi D g A a b Q) (cX D g A a b XQ) args s 2 12 A) M [(0, .ref (a 0)), (1, iv p0), (2, iv p1)] 0 [] := by
  unfold wpe_X10_depthAfter at hw
  refine V_aload_n X dX10_depthAfter_0 rfl (q := 0) rfl ?_
  refine V_callV_v X _ gO_0 rfl (As := []) (st := []) (c_X10_settle l hw) (cwV 0 X.2.2.2.1 gX10_depthAfter_X10_settle rfl rfl rfl (by decide +kernel) ⟨Nat.le_of_ble_eq_true rfl, Nat.le_of_ble_eq_true rfl⟩) rfl (Nat.le_of_ble_eq_true rfl) ⟨Nat.le_of_ble_eq_true rfl, Nat.le_of_ble_eq_true rfl⟩ rfl dX10_depthAfter_1 (fun M2 hw => ?_)
  refine V_iload_n X dX10_depthAfter_4 rfl (q := 1) rfl ?_
  refine V_aload_n X dX10_depthAfter_5 rfl (q := 0) rfl ?_
  refine V_get (C := RX10) (T := TX10) (N := 9) (ci := 10) X hi_X10_depthAfter_10 gO_0 rfl 6 (by decide) lk_X10_depthAfter_f62 (fun _ h9 => h9) rfl dX10_depthAfter_6 ?_
  refine V_getN (C := RX7) (T := TX7) (N := 9) (ci := 7) X hi_X10_depthAfter_7 gO_7 rfl 4 (by decide) (List.mem_of_getElem? (i := 79) rfl) (fun _ h9 => h9) rfl dX10_depthAfter_9 ?_
  refine V_iconst X dX10_depthAfter_12 ?_
  refine V_iadd X dX10_depthAfter_13 ?_
  refine V_callxS_v X _ _ (As := [iv p0, iv ((M2 7 4 0) + 1)]) (st := []) (c_X10_needIndex l hlt hw) (va_cwS 2 X.2.2.2.1 gX10_depthAfter_X10_needIndex rfl rfl rfl (by decide +kernel) ⟨Nat.le_of_ble_eq_true rfl, Nat.le_of_ble_eq_true rfl⟩) rfl (Nat.le_of_ble_eq_true rfl) ⟨Nat.le_of_ble_eq_true rfl, Nat.le_of_ble_eq_true rfl⟩ rfl dX10_depthAfter_14 (fun E ce q9 M9 H9 locs9 ls9 hx9 hP9 hD9 hS9 hl9 h91 h92 h93 => V_xout X htab (Nat.le_of_ble_eq_true rfl) (Nat.le_of_ble_eq_true rfl) hx9 hP9 hD9 hS9 h91 h92 h93) (fun M4 hw => ?_)
  refine V_aload_n X dX10_depthAfter_17 rfl (q := 0) rfl ?_
  refine V_get (C := RX10) (T := TX10) (N := 9) (ci := 10) X hi_X10_depthAfter_10 gO_0 rfl 6 (by decide) lk_X10_depthAfter_f62 (fun _ h9 => h9) rfl dX10_depthAfter_18 ?_
  refine V_iload_n X dX10_depthAfter_21 rfl (q := 1) rfl ?_
  refine V_callVN_v X _ gO_7 rfl (As := [iv p0]) (st := []) (c_X7_showForest l hw) ⟨va_cnB 1 X.2.2.2.1 gX10_depthAfter_X7_showForest_n227 rfl rfl rfl (X.2.2.2.2.1.2.1 _ (List.mem_of_getElem? (i := 130) rfl)) (X.2.2.2.1 _ lk_X10_depthAfter_i7) (by decide +kernel) ⟨Nat.le_of_ble_eq_true rfl, Nat.le_of_ble_eq_true rfl⟩, X.2.2.2.1 _ lk_X10_depthAfter_im227, X.2.2.2.1 _ lk_X10_depthAfter_se227⟩ rfl (Nat.le_of_ble_eq_true rfl) ⟨Nat.le_of_ble_eq_true rfl, Nat.le_of_ble_eq_true rfl⟩ rfl dX10_depthAfter_22 (fun M6 hw => ?_)
  refine V_iload_n X dX10_depthAfter_25 rfl (q := 2) rfl ?_
  refine V_aload_n X dX10_depthAfter_26 rfl (q := 0) rfl ?_
  refine V_get (C := RX10) (T := TX10) (N := 9) (ci := 10) X hi_X10_depthAfter_10 gO_0 rfl 6 (by decide) lk_X10_depthAfter_f62 (fun _ h9 => h9) rfl dX10_depthAfter_27 ?_
  refine V_getN (C := RX7) (T := TX7) (N := 9) (ci := 7) X hi_X10_depthAfter_7 gO_7 rfl 8 (by decide) (List.mem_of_getElem? (i := 81) rfl) (fun _ h9 => h9) rfl dX10_depthAfter_30 ?_
  refine V_callxS_v X _ _ (As := [iv p1, iv ((M6 7 8 0))]) (st := []) (c_X10_needIndex l hlt hw) (va_cwS 2 X.2.2.2.1 gX10_depthAfter_X10_needIndex rfl rfl rfl (by decide +kernel) ⟨Nat.le_of_ble_eq_true rfl, Nat.le_of_ble_eq_true rfl⟩) rfl (Nat.le_of_ble_eq_true rfl) ⟨Nat.le_of_ble_eq_true rfl, Nat.le_of_ble_eq_true rfl⟩ rfl dX10_depthAfter_33 (fun E ce q9 M9 H9 locs9 ls9 hx9 hP9 hD9 hS9 hl9 h91 h92 h93 => V_xout X htab (Nat.le_of_ble_eq_true rfl) (Nat.le_of_ble_eq_true rfl) hx9 hP9 hD9 hS9 h91 h92 h93) (fun M8 hw => ?_)
  refine V_aload_n X dX10_depthAfter_36 rfl (q := 0) rfl ?_
  refine V_get (C := RX10) (T := TX10) (N := 9) (ci := 10) X hi_X10_depthAfter_10 gO_0 rfl 6 (by decide) lk_X10_depthAfter_f62 (fun _ h9 => h9) rfl dX10_depthAfter_37 ?_
  refine V_iload_n X dX10_depthAfter_40 rfl (q := 1) rfl ?_
  refine V_aload_n X dX10_depthAfter_41 rfl (q := 0) rfl ?_
  refine V_get (C := RX10) (T := TX10) (N := 9) (ci := 10) X hi_X10_depthAfter_10 gO_0 rfl 6 (by decide) lk_X10_depthAfter_f62 (fun _ h9 => h9) rfl dX10_depthAfter_42 ?_
  refine V_getN (C := RX7) (T := TX7) (N := 9) (ci := 7) X hi_X10_depthAfter_7 gO_7 rfl 7 (by decide) (List.mem_of_getElem? (i := 80) rfl) (fun _ h9 => h9) rfl dX10_depthAfter_45 ?_
  refine V_iload_n X dX10_depthAfter_48 rfl (q := 2) rfl ?_
  obtain ⟨h9, hw⟩ := hw
  refine V_iald X (gA_7_7) h9 (by decide) dX10_depthAfter_49 ?_
  refine V_callVN_i X _ gO_7 rfl (As := [iv p0, iv ((M8 7 7 p1.toNat))]) (st := []) (c_X7_shownDepth l hw) ⟨va_cnB 2 X.2.2.2.1 gX10_depthAfter_X7_shownDepth_n240 rfl rfl rfl (X.2.2.2.2.1.2.1 _ (List.mem_of_getElem? (i := 132) rfl)) (X.2.2.2.1 _ lk_X10_depthAfter_i7) (by decide +kernel) ⟨Nat.le_of_ble_eq_true rfl, Nat.le_of_ble_eq_true rfl⟩, X.2.2.2.1 _ lk_X10_depthAfter_im240, X.2.2.2.1 _ lk_X10_depthAfter_se240⟩ rfl (Nat.le_of_ble_eq_true rfl) ⟨Nat.le_of_ble_eq_true rfl, Nat.le_of_ble_eq_true rfl⟩ rfl dX10_depthAfter_50 (fun y10 M11 hw => ?_)
  exact V_xret (Nat.le_of_ble_eq_true rfl) (Nat.le_of_ble_eq_true rfl) (V_iret X hr hw dX10_depthAfter_53)
set_option maxHeartbeats 4000000 in
set_option maxRecDepth 100000 in
theorem c_X10_depthAfter (l : Launch) {p0 : Int} {p1 : Int} (hlt : l.stackTraces = false) {D : va_G} {g : GT} {A : Nat → Prop} {a : Nat → Nat} {b : Nat → Nat → Nat} {M : Mem} {Q : Int → Mem → Prop} {XQ : String → Mem → Prop} (hw : wp_X10_depthAfter M p0 p1 Q XQ) : vx_Met l yX10_depthAfter wsX10_depthAfter ({ frames := 33, cells := 2, slots := 12, locals := 1084 } : Room) (cPc D g A a b M [.ref (a 0), iv p0, iv p1]) (cQi D g A a b Q) (cX D g A a b XQ) 2 12 A := by
  refine vx_ofW (cc := cX10_depthAfter) (maxL := 3) (ret := (some .int)) (by decide) rfl ?_
  intro p e s m args below meth c s₁ B hml htab hv
  obtain ⟨rfl, hP, hD, hG⟩ := hv
  have X : vC p s m _ meth c D g A RX10 wsX10_depthAfter cX10_depthAfter 3 := ⟨B.exec, B.bytes, findClass_of_methodNamed B.named, atoms_spec (ws := wsX10_depthAfter) B.pre, hG, hml, B.notSynchronized⟩
  have hr := B.returns
  have hl := lv_entry ([.ref (a 0), iv p0, iv p1]) (n := 3) (Nat.le_of_ble_eq_true rfl)
  rw [lg_entry_eq]
  generalize (lg_sl ([.ref (a 0), iv p0, iv p1]) ++ List.replicate (3 - (lg_sl ([.ref (a 0), iv p0, iv p1])).length) Slot.unset).toArray = ls at hl ⊢
  have hl : lv_has ls 3 [(0, .ref (a 0)), (1, iv p0), (2, iv p1)] := hl
  exact wke_X10_depthAfter X hr hlt htab hw s.heap [] ls hP hD va_S.rf hl

set_option maxRecDepth 20000 in
theorem ggX11_parentOf_X11_isNode : GoodIn wsX11_parentOf wsX11_isNode := goodIn_r _ [6, 7, 8, 9, 5, 10, 11, 12, 13, 28, 29, 30, 31, 32, 33, 34, 35, 36, 37, 38, 39, 40, 41, 42, 43, 44, 45, 46, 47, 48, 49, 50, 51] (by decide +kernel) (by decide +kernel)
set_option maxRecDepth 20000 in
theorem gX11_parentOf_X11_isNode : GoodIn wsX11_parentOf (wsV RX11 98 RX11 yX11_isNode wsX11_isNode) := goodIn_app (goodIn_of _ (by decide +kernel)) ggX11_parentOf_X11_isNode
set_option maxRecDepth 20000 in
theorem ggX11_parentOf_X11_goes : GoodIn wsX11_parentOf wsX11_goes := goodIn_r _ [17, 18, 28, 29, 30, 31, 32, 33, 34, 35, 36, 37, 38, 39, 40, 41, 42, 43, 44, 45, 46, 47, 48, 49, 50, 51] (by decide +kernel) (by decide +kernel)
set_option maxRecDepth 20000 in
theorem gX11_parentOf_X11_goes : GoodIn wsX11_parentOf (wsV RX11 87 RX11 yX11_goes wsX11_goes) := goodIn_app (goodIn_of _ (by decide +kernel)) ggX11_parentOf_X11_goes
set_option maxRecDepth 20000 in
theorem ggX11_parentOf_X11_place : GoodIn wsX11_parentOf wsX11_place := goodIn_r _ [22, 1, 28, 29, 30, 31, 32, 33, 34, 35, 36, 37, 38, 39, 40, 41, 42, 43, 44, 45, 46, 47, 48, 49, 50, 51] (by decide +kernel) (by decide +kernel)
set_option maxRecDepth 20000 in
theorem gX11_parentOf_X11_place : GoodIn wsX11_parentOf (wsV RX11 102 RX11 yX11_place wsX11_place) := goodIn_app (goodIn_of _ (by decide +kernel)) ggX11_parentOf_X11_place
set_option maxRecDepth 20000 in
theorem ggX11_parentOf_X11_parent : GoodIn wsX11_parentOf wsX11_parent := goodIn_r _ [26, 27, 28, 29, 30, 31, 32, 33, 34, 35, 36, 37, 38, 39, 40, 41, 42, 43, 44, 45, 46, 47, 48, 49, 50, 51] (by decide +kernel) (by decide +kernel)
set_option maxRecDepth 20000 in
theorem gX11_parentOf_X11_parent : GoodIn wsX11_parentOf (wsV RX11 116 RX11 yX11_parent wsX11_parent) := goodIn_app (goodIn_of _ (by decide +kernel)) ggX11_parentOf_X11_parent
theorem dX11_parentOf_0 : decode cX11_parentOf 0 = .ok (.aload_n 0, 1) := by decide +kernel
theorem dX11_parentOf_1 : decode cX11_parentOf 1 = .ok (.aload_n 0, 1) := by decide +kernel
theorem dX11_parentOf_2 : decode cX11_parentOf 2 = .ok (.iload_n 1, 1) := by decide +kernel
theorem dX11_parentOf_3 : decode cX11_parentOf 3 = .ok (.iload_n 2, 1) := by decide +kernel
theorem dX11_parentOf_4 : decode cX11_parentOf 4 = .ok (.invokevirtual 98, 3) := by decide +kernel
theorem dX11_parentOf_7 : decode cX11_parentOf 7 = .ok (.iconst 1, 1) := by decide +kernel
theorem dX11_parentOf_8 : decode cX11_parentOf 8 = .ok (.iconst 1, 1) := by decide +kernel
theorem dX11_parentOf_9 : decode cX11_parentOf 9 = .ok (.invokevirtual 87, 3) := by decide +kernel
theorem dX11_parentOf_12 : decode cX11_parentOf 12 = .ok (.ifCond .ne 5, 3) := by decide +kernel
theorem dX11_parentOf_15 : decode cX11_parentOf 15 = .ok (.iconst 0, 1) := by decide +kernel
theorem dX11_parentOf_16 : decode cX11_parentOf 16 = .ok (.ireturn, 1) := by decide +kernel
theorem dX11_parentOf_17 : decode cX11_parentOf 17 = .ok (.aload_n 0, 1) := by decide +kernel
theorem dX11_parentOf_18 : decode cX11_parentOf 18 = .ok (.iload_n 1, 1) := by decide +kernel
theorem dX11_parentOf_19 : decode cX11_parentOf 19 = .ok (.aload_n 0, 1) := by decide +kernel
theorem dX11_parentOf_20 : decode cX11_parentOf 20 = .ok (.iload_n 1, 1) := by decide +kernel
theorem dX11_parentOf_21 : decode cX11_parentOf 21 = .ok (.iload_n 2, 1) := by decide +kernel
theorem dX11_parentOf_22 : decode cX11_parentOf 22 = .ok (.invokevirtual 102, 3) := by decide +kernel
theorem dX11_parentOf_25 : decode cX11_parentOf 25 = .ok (.invokevirtual 116, 3) := by decide +kernel
theorem dX11_parentOf_28 : decode cX11_parentOf 28 = .ok (.istore_n 3, 1) := by decide +kernel
theorem dX11_parentOf_29 : decode cX11_parentOf 29 = .ok (.iload_n 3, 1) := by decide +kernel
theorem dX11_parentOf_30 : decode cX11_parentOf 30 = .ok (.ifCond .ge 7, 3) := by decide +kernel
theorem dX11_parentOf_33 : decode cX11_parentOf 33 = .ok (.iconst (-1), 1) := by decide +kernel
theorem dX11_parentOf_34 : decode cX11_parentOf 34 = .ok (.goto 14, 3) := by decide +kernel
theorem dX11_parentOf_37 : decode cX11_parentOf 37 = .ok (.aload_n 0, 1) := by decide +kernel
theorem dX11_parentOf_38 : decode cX11_parentOf 38 = .ok (.getfield 7, 3) := by decide +kernel
theorem dX11_parentOf_41 : decode cX11_parentOf 41 = .ok (.bipush 12, 2) := by decide +kernel
theorem dX11_parentOf_43 : decode cX11_parentOf 43 = .ok (.iload_n 1, 1) := by decide +kernel
theorem dX11_parentOf_44 : decode cX11_parentOf 44 = .ok (.imul, 1) := by decide +kernel
theorem dX11_parentOf_45 : decode cX11_parentOf 45 = .ok (.iload_n 3, 1) := by decide +kernel
theorem dX11_parentOf_46 : decode cX11_parentOf 46 = .ok (.iadd, 1) := by decide +kernel
theorem dX11_parentOf_47 : decode cX11_parentOf 47 = .ok (.iaload, 1) := by decide +kernel
theorem dX11_parentOf_48 : decode cX11_parentOf 48 = .ok (.ireturn, 1) := by decide +kernel
theorem lk_X11_parentOf_f7 : Cond.fieldLink RX11 7 "TreeComparerModel" "node" "[I" ∈ wsX11_parentOf := by decide +kernel
theorem hi_X11_parentOf_11 : ∀ w ∈ u_ws RX11 TX11 24, w ∈ wsX11_parentOf := by decide +kernel
def wpe_X11_parentOf (p0 : Int) (p1 : Int) (M : Mem) (Q : Int → Mem → Prop) : Prop := wp_X11_isNode M p0 p1 (fun y1 M2 => wp_X11_goes M2 y1 1 1 (fun y3 M4 => inR y3 ∧ ((y3 ≠ 0 → wp_X11_place M4 p0 p1 (fun y7 M8 => wp_X11_parent M8 p0 y7 (fun y9 M10 => inR y9 ∧ ((0 ≤ y9 → ((0 : Int) ≤ (12 * p0) + y9 ∧ (12 * p0) + y9 < 24) ∧ Q ((M10 13 0 ((12 * p0) + y9).toNat)) M10) ∧ (¬ (0 ≤ y9) → Q (-1) M10))))) ∧ (¬ (y3 ≠ 0) → Q 0 M4))))
def wp_X11_parentOf (M : Mem) (p0 : Int) (p1 : Int) (Q : Int → Mem → Prop) : Prop := wpe_X11_parentOf p0 p1 M Q
set_option maxHeartbeats 4000000 in
set_option maxRecDepth 100000 in
theorem wke_X11_parentOf {p : Program} {l : Launch} {e : Env} {s : State} {m : MethodId} {args : Array Value} {below : List Frame} {meth : Method} {c : Code} {D : va_G} {g : GT} {A : Nat → Prop} {a : Nat → Nat} {b : Nat → Nat → Nat} (X : vC p s m args meth c D g A RX11 wsX11_parentOf cX11_parentOf 4) (hr : meth.sig.returnType = (some .int)) {p0 : Int} {p1 : Int} {M : Mem} {Q : Int → Mem → Prop} (hw : wpe_X11_parentOf p0 p1 M Q) : vV p l e ({ frames := 3, cells := 0, slots := 0, locals := 64 } : Room) s m args below meth c D g A a b 4 0 0 (MQ below (cQi D g A a b Q) args s 0 0 A) M [(0, .ref (a 13)), (1, iv p0), (2, iv p1)] 0 [] := by
  unfold wpe_X11_parentOf at hw
  refine V_aload_n X dX11_parentOf_0 rfl (q := 0) rfl ?_
  refine V_aload_n X dX11_parentOf_1 rfl (q := 0) rfl ?_
  refine V_iload_n X dX11_parentOf_2 rfl (q := 1) rfl ?_
  refine V_iload_n X dX11_parentOf_3 rfl (q := 2) rfl ?_
  refine V_callV_i X _ gO_13 rfl (As := [iv p0, iv p1]) (st := [.ref (a 13)]) (c_X11_isNode l hw) (cwV 2 X.2.2.2.1 gX11_parentOf_X11_isNode rfl rfl rfl (by decide +kernel) ⟨Nat.le_of_ble_eq_true rfl, Nat.le_of_ble_eq_true rfl⟩) rfl (Nat.le_of_ble_eq_true rfl) ⟨Nat.le_of_ble_eq_true rfl, Nat.le_of_ble_eq_true rfl⟩ rfl dX11_parentOf_4 (fun y1 M2 hw => ?_)
  refine V_iconst X dX11_parentOf_7 ?_
  refine V_iconst X dX11_parentOf_8 ?_
  refine V_callV_i X _ gO_13 rfl (As := [iv y1, iv 1, iv 1]) (st := []) (c_X11_goes l hw) (cwV 3 X.2.2.2.1 gX11_parentOf_X11_goes rfl rfl rfl (by decide +kernel) ⟨Nat.le_of_ble_eq_true rfl, Nat.le_of_ble_eq_true rfl⟩) rfl (Nat.le_of_ble_eq_true rfl) ⟨Nat.le_of_ble_eq_true rfl, Nat.le_of_ble_eq_true rfl⟩ rfl dX11_parentOf_9 (fun y3 M4 hw => ?_)
  obtain ⟨h5, hw⟩ := hw
  refine V_if_ne (tgt := 17) X h5 dX11_parentOf_12 (by decide) (fun q6 => ?_) (fun q6 => ?_)
  · have hw := hw.1 q6
    refine V_aload_n X dX11_parentOf_17 rfl (q := 0) rfl ?_
    refine V_iload_n X dX11_parentOf_18 rfl (q := 1) rfl ?_
    refine V_aload_n X dX11_parentOf_19 rfl (q := 0) rfl ?_
    refine V_iload_n X dX11_parentOf_20 rfl (q := 1) rfl ?_
    refine V_iload_n X dX11_parentOf_21 rfl (q := 2) rfl ?_
    refine V_callV_i X _ gO_13 rfl (As := [iv p0, iv p1]) (st := [iv p0, .ref (a 13)]) (c_X11_place l hw) (cwV 2 X.2.2.2.1 gX11_parentOf_X11_place rfl rfl rfl (by decide +kernel) ⟨Nat.le_of_ble_eq_true rfl, Nat.le_of_ble_eq_true rfl⟩) rfl (Nat.le_of_ble_eq_true rfl) ⟨Nat.le_of_ble_eq_true rfl, Nat.le_of_ble_eq_true rfl⟩ rfl dX11_parentOf_22 (fun y7 M8 hw => ?_)
    refine V_callV_i X _ gO_13 rfl (As := [iv p0, iv y7]) (st := []) (c_X11_parent l hw) (cwV 2 X.2.2.2.1 gX11_parentOf_X11_parent rfl rfl rfl (by decide +kernel) ⟨Nat.le_of_ble_eq_true rfl, Nat.le_of_ble_eq_true rfl⟩) rfl (Nat.le_of_ble_eq_true rfl) ⟨Nat.le_of_ble_eq_true rfl, Nat.le_of_ble_eq_true rfl⟩ rfl dX11_parentOf_25 (fun y9 M10 hw => ?_)
    refine V_istore_n (lv1 := [(0, .ref (a 13)), (1, iv p0), (2, iv p1), (3, iv y9)]) X [1, 2, 3, 0] dX11_parentOf_28 rfl (by decide) rfl ?_
    refine V_iload_n X dX11_parentOf_29 rfl (q := 3) rfl ?_
    obtain ⟨h11, hw⟩ := hw
    refine V_if_ge (tgt := 37) X h11 dX11_parentOf_30 (by decide) (fun q12 => ?_) (fun q12 => ?_)
    · have hw := hw.1 q12
      refine V_aload_n X dX11_parentOf_37 rfl (q := 0) rfl ?_
      refine V_get (C := RX11) (T := TX11) (N := 24) (ci := 11) X hi_X11_parentOf_11 gO_13 rfl 0 (by decide) lk_X11_parentOf_f7 (fun _ h9 => h9) rfl dX11_parentOf_38 ?_
      refine V_bipush X dX11_parentOf_41 rfl ?_
      refine V_iload_n X dX11_parentOf_43 rfl (q := 1) rfl ?_
      refine V_imul X dX11_parentOf_44 ?_
      refine V_iload_n X dX11_parentOf_45 rfl (q := 3) rfl ?_
      refine V_iadd X dX11_parentOf_46 ?_
      obtain ⟨h13, hw⟩ := hw
      refine V_iald X (gA_13_0) h13 (by decide) dX11_parentOf_47 ?_
      exact V_iret X hr hw dX11_parentOf_48
    · have hw := hw.2 q12
      refine V_iconst X dX11_parentOf_33 ?_
      refine V_goto (tgt := 48) X dX11_parentOf_34 (by decide) ?_
      exact V_iret X hr hw dX11_parentOf_48
  · have hw := hw.2 q6
    refine V_iconst X dX11_parentOf_15 ?_
    exact V_iret X hr hw dX11_parentOf_16
set_option maxHeartbeats 4000000 in
set_option maxRecDepth 100000 in
theorem c_X11_parentOf (l : Launch) {p0 : Int} {p1 : Int} {D : va_G} {g : GT} {A : Nat → Prop} {a : Nat → Nat} {b : Nat → Nat → Nat} {M : Mem} {Q : Int → Mem → Prop} (hw : wp_X11_parentOf M p0 p1 Q) : Met l yX11_parentOf wsX11_parentOf ({ frames := 3, cells := 0, slots := 0, locals := 64 } : Room) (cPc D g A a b M [.ref (a 13), iv p0, iv p1]) (cQi D g A a b Q) 0 0 A := by
  refine Met.ofW (cc := cX11_parentOf) (maxL := 4) (ret := (some .int)) (by decide) rfl ?_
  intro p e s m args below meth c s₁ B hml hv
  obtain ⟨rfl, hP, hD, hG⟩ := hv
  have X : vC p s m _ meth c D g A RX11 wsX11_parentOf cX11_parentOf 4 := ⟨B.exec, B.bytes, findClass_of_methodNamed B.named, atoms_spec (ws := wsX11_parentOf) B.pre, hG, hml, B.notSynchronized⟩
  have hr := B.returns
  have hl := lv_entry ([.ref (a 13), iv p0, iv p1]) (n := 4) (Nat.le_of_ble_eq_true rfl)
  rw [lg_entry_eq]
  generalize (lg_sl ([.ref (a 13), iv p0, iv p1]) ++ List.replicate (4 - (lg_sl ([.ref (a 13), iv p0, iv p1])).length) Slot.unset).toArray = ls at hl ⊢
  have hl : lv_has ls 4 [(0, .ref (a 13)), (1, iv p0), (2, iv p1)] := hl
  exact wke_X11_parentOf X hr  hw s.heap [] ls hP hD va_S.rf hl

set_option maxRecDepth 20000 in
theorem ggX11_pairs_X11_maps : GoodIn wsX11_pairs wsX11_maps := goodIn_r _ [8, 9, 10, 11, 12, 7, 13, 2, 14, 15, 16, 17, 18, 19, 20, 21, 22, 23, 24, 25, 26, 27, 28, 29, 30, 31, 32, 33, 34, 35, 36, 37, 38, 39, 40, 41, 42, 43, 44, 45, 46, 47, 48, 49, 50, 51, 3, 52, 53, 54, 55, 56, 57, 58, 59, 60, 61, 62, 63, 64, 65, 66, 67, 68, 69, 70, 71, 72, 73, 74, 75, 76, 77, 78, 79, 80, 81, 82, 83, 84, 85, 86, 87] (by decide +kernel) (by decide +kernel)
set_option maxRecDepth 20000 in
theorem gX11_pairs_X11_maps : GoodIn wsX11_pairs (wsV RX11 166 RX11 yX11_maps wsX11_maps) := goodIn_app (goodIn_of _ (by decide +kernel)) ggX11_pairs_X11_maps
theorem dX11_pairs_0 : decode cX11_pairs 0 = .ok (.aload_n 0, 1) := by decide +kernel
theorem dX11_pairs_1 : decode cX11_pairs 1 = .ok (.iconst 0, 1) := by decide +kernel
theorem dX11_pairs_2 : decode cX11_pairs 2 = .ok (.putfield 72, 3) := by decide +kernel
theorem dX11_pairs_5 : decode cX11_pairs 5 = .ok (.aload_n 0, 1) := by decide +kernel
theorem dX11_pairs_6 : decode cX11_pairs 6 = .ok (.invokevirtual 166, 3) := by decide +kernel
theorem dX11_pairs_9 : decode cX11_pairs 9 = .ok (.istore_n 1, 1) := by decide +kernel
theorem dX11_pairs_10 : decode cX11_pairs 10 = .ok (.iconst 0, 1) := by decide +kernel
theorem dX11_pairs_11 : decode cX11_pairs 11 = .ok (.istore_n 2, 1) := by decide +kernel
theorem dX11_pairs_12 : decode cX11_pairs 12 = .ok (.iconst 0, 1) := by decide +kernel
theorem dX11_pairs_13 : decode cX11_pairs 13 = .ok (.istore_n 3, 1) := by decide +kernel
theorem dX11_pairs_14 : decode cX11_pairs 14 = .ok (.iload_n 3, 1) := by decide +kernel
theorem dX11_pairs_15 : decode cX11_pairs 15 = .ok (.aload_n 0, 1) := by decide +kernel
theorem dX11_pairs_16 : decode cX11_pairs 16 = .ok (.getfield 25, 3) := by decide +kernel
theorem dX11_pairs_19 : decode cX11_pairs 19 = .ok (.iconst 0, 1) := by decide +kernel
theorem dX11_pairs_20 : decode cX11_pairs 20 = .ok (.iaload, 1) := by decide +kernel
theorem dX11_pairs_21 : decode cX11_pairs 21 = .ok (.if_icmp .ge 27, 3) := by decide +kernel
theorem dX11_pairs_24 : decode cX11_pairs 24 = .ok (.iload_n 2, 1) := by decide +kernel
theorem dX11_pairs_25 : decode cX11_pairs 25 = .ok (.aload_n 0, 1) := by decide +kernel
theorem dX11_pairs_26 : decode cX11_pairs 26 = .ok (.getfield 38, 3) := by decide +kernel
theorem dX11_pairs_29 : decode cX11_pairs 29 = .ok (.iload_n 3, 1) := by decide +kernel
theorem dX11_pairs_30 : decode cX11_pairs 30 = .ok (.iaload, 1) := by decide +kernel
theorem dX11_pairs_31 : decode cX11_pairs 31 = .ok (.iconst (-1), 1) := by decide +kernel
theorem dX11_pairs_32 : decode cX11_pairs 32 = .ok (.if_icmp .ne 7, 3) := by decide +kernel
theorem dX11_pairs_35 : decode cX11_pairs 35 = .ok (.iconst 0, 1) := by decide +kernel
theorem dX11_pairs_36 : decode cX11_pairs 36 = .ok (.goto 4, 3) := by decide +kernel
theorem dX11_pairs_39 : decode cX11_pairs 39 = .ok (.iconst 1, 1) := by decide +kernel
theorem dX11_pairs_40 : decode cX11_pairs 40 = .ok (.iadd, 1) := by decide +kernel
theorem dX11_pairs_41 : decode cX11_pairs 41 = .ok (.istore_n 2, 1) := by decide +kernel
theorem dX11_pairs_42 : decode cX11_pairs 42 = .ok (.iinc 3 1, 3) := by decide +kernel
theorem dX11_pairs_45 : decode cX11_pairs 45 = .ok (.goto (-31), 3) := by decide +kernel
theorem dX11_pairs_48 : decode cX11_pairs 48 = .ok (.iload_n 2, 1) := by decide +kernel
theorem dX11_pairs_49 : decode cX11_pairs 49 = .ok (.ireturn, 1) := by decide +kernel
theorem lk_X11_pairs_f72 : Cond.fieldLink RX11 72 "TreeComparerModel" "thrown" "I" ∈ wsX11_pairs := by decide +kernel
theorem hi_X11_pairs_11 : ∀ w ∈ u_ws RX11 TX11 24, w ∈ wsX11_pairs := by decide +kernel
theorem lk_X11_pairs_f25 : Cond.fieldLink RX11 25 "TreeComparerModel" "many" "[I" ∈ wsX11_pairs := by decide +kernel
theorem lk_X11_pairs_f38 : Cond.fieldLink RX11 38 "TreeComparerModel" "partner" "[I" ∈ wsX11_pairs := by decide +kernel
def wpj_X11_pairs_40 (x3 : Int) (s0 : Int) (s1 : Int) (M : Mem) (J14 : Int → Int → Mem → Prop) (Q : Int → Mem → Prop) : Prop := (∀ y10 : Int, y10 = s1 + s0 → J14 y10 (x3 + 1) M)
def wph_X11_pairs_14 (x2 : Int) (x3 : Int) (M : Mem) (J14 : Int → Int → Mem → Prop) (Q : Int → Mem → Prop) : Prop := inR x3 ∧ inR (M 13 5 0) ∧ (((M 13 5 0) ≤ x3 → Q x2 M) ∧ (¬ ((M 13 5 0) ≤ x3) → ((0 : Int) ≤ x3 ∧ x3 < 12) ∧ inR (M 13 9 x3.toNat) ∧ (((M 13 9 x3.toNat) ≠ (-1) → wpj_X11_pairs_40 x3 1 x2 M J14 Q) ∧ (¬ ((M 13 9 x3.toNat) ≠ (-1)) → wpj_X11_pairs_40 x3 0 x2 M J14 Q))))
def wpe_X11_pairs (M : Mem) (J14 : Int → Int → Mem → Prop) (Q : Int → Mem → Prop) : Prop := (∀ M1 : Mem, M1 = mset M 13 23 0 0 → wp_X11_maps M1 (fun y2 M3 => J14 0 0 M3))
def wp_X11_pairs (M : Mem) (Q : Int → Mem → Prop) : Prop := ∃ (I14 : Nat → Int → Int → Mem → Prop), wpe_X11_pairs M (fun (x2 : Int) (x3 : Int) (M1 : Mem) => ∃ n1 : Nat, I14 n1 x2 x3 M1) Q ∧ (∀ (n : Nat) (x2 : Int) (x3 : Int) (M : Mem), I14 n x2 x3 M → wph_X11_pairs_14 x2 x3 M (fun (x2 : Int) (x3 : Int) (M1 : Mem) => ∃ n1 : Nat, n1 < n ∧ I14 n1 x2 x3 M1) Q)
set_option maxHeartbeats 4000000 in
set_option maxRecDepth 100000 in
theorem wkj_X11_pairs_40 {p : Program} {l : Launch} {e : Env} {s : State} {m : MethodId} {args : Array Value} {below : List Frame} {meth : Method} {c : Code} {D : va_G} {g : GT} {A : Nat → Prop} {a : Nat → Nat} {b : Nat → Nat → Nat} (X : vC p s m args meth c D g A RX11 wsX11_pairs cX11_pairs 4) (hr : meth.sig.returnType = (some .int)) {x3 : Int} {s0 : Int} {s1 : Int} {M : Mem} {J14 : Int → Int → Mem → Prop} {Q : Int → Mem → Prop} (hJ14 : ∀ (x2 : Int) (x3 : Int) (M : Mem), J14 x2 x3 M → vV p l e ({ frames := 5, cells := 0, slots := 0, locals := 126 } : Room) s m args below meth c D g A a b 4 0 0 (MQ below (cQi D g A a b Q) args s 0 0 A) M [(0, .ref (a 13)), (2, iv x2), (3, iv x3)] 14 []) (hw : wpj_X11_pairs_40 x3 s0 s1 M J14 Q) : vV p l e ({ frames := 5, cells := 0, slots := 0, locals := 126 } : Room) s m args below meth c D g A a b 4 0 0 (MQ below (cQi D g A a b Q) args s 0 0 A) M [(0, .ref (a 13)), (3, iv x3)] 40 [iv s0, iv s1] := by
  unfold wpj_X11_pairs_40 at hw
  refine V_iadd X dX11_pairs_40 ?_
  refine V_top (fun y10 ey10 => ?_)
  have hw := hw y10 ey10
  refine V_istore_n (lv1 := [(0, .ref (a 13)), (2, iv y10), (3, iv x3)]) X [1, 0, 2] dX11_pairs_41 rfl (by decide) rfl ?_
  refine V_iinc (lv1 := [(0, .ref (a 13)), (2, iv y10), (3, iv (x3 + 1))]) X [1, 2, 0] dX11_pairs_42 (q := 2) rfl (by decide) rfl ?_
  refine V_goto (tgt := 14) X dX11_pairs_45 (by decide) ?_
  exact hJ14 _ _ _ hw
set_option maxHeartbeats 4000000 in
set_option maxRecDepth 100000 in
theorem wkh_X11_pairs_14 {p : Program} {l : Launch} {e : Env} {s : State} {m : MethodId} {args : Array Value} {below : List Frame} {meth : Method} {c : Code} {D : va_G} {g : GT} {A : Nat → Prop} {a : Nat → Nat} {b : Nat → Nat → Nat} (X : vC p s m args meth c D g A RX11 wsX11_pairs cX11_pairs 4) (hr : meth.sig.returnType = (some .int)) {x2 : Int} {x3 : Int} {M : Mem} {J14 : Int → Int → Mem → Prop} {Q : Int → Mem → Prop} (hJ14 : ∀ (x2 : Int) (x3 : Int) (M : Mem), J14 x2 x3 M → vV p l e ({ frames := 5, cells := 0, slots := 0, locals := 126 } : Room) s m args below meth c D g A a b 4 0 0 (MQ below (cQi D g A a b Q) args s 0 0 A) M [(0, .ref (a 13)), (2, iv x2), (3, iv x3)] 14 []) (hw : wph_X11_pairs_14 x2 x3 M J14 Q) : vV p l e ({ frames := 5, cells := 0, slots := 0, locals := 126 } : Room) s m args below meth c D g A a b 4 0 0 (MQ below (cQi D g A a b Q) args s 0 0 A) M [(0, .ref (a 13)), (2, iv x2), (3, iv x3)] 14 [] := by
  unfold wph_X11_pairs_14 at hw
  refine V_iload_n X dX11_pairs_14 rfl (q := 2) rfl ?_
  refine V_aload_n X dX11_pairs_15 rfl (q := 0) rfl ?_
  refine V_get (C := RX11) (T := TX11) (N := 24) (ci := 11) X hi_X11_pairs_11 gO_13 rfl 5 (by decide) lk_X11_pairs_f25 (fun _ h9 => h9) rfl dX11_pairs_16 ?_
  refine V_iconst X dX11_pairs_19 ?_
  refine V_iald X (gA_13_5) ⟨by decide, by decide⟩ (by decide) dX11_pairs_20 ?_
  obtain ⟨h4, h5, hw⟩ := hw
  refine V_icmp_ge (tgt := 48) X h4 h5 dX11_pairs_21 (by decide) (fun q6 => ?_) (fun q6 => ?_)
  · have hw := hw.1 q6
    refine V_iload_n X dX11_pairs_48 rfl (q := 1) rfl ?_
    exact V_iret X hr hw dX11_pairs_49
  · have hw := hw.2 q6
    refine V_iload_n X dX11_pairs_24 rfl (q := 1) rfl ?_
    refine V_aload_n X dX11_pairs_25 rfl (q := 0) rfl ?_
    refine V_get (C := RX11) (T := TX11) (N := 24) (ci := 11) X hi_X11_pairs_11 gO_13 rfl 9 (by decide) lk_X11_pairs_f38 (fun _ h9 => h9) rfl dX11_pairs_26 ?_
    refine V_iload_n X dX11_pairs_29 rfl (q := 2) rfl ?_
    obtain ⟨h7, hw⟩ := hw
    refine V_iald X (gA_13_9) h7 (by decide) dX11_pairs_30 ?_
    refine V_iconst X dX11_pairs_31 ?_
    obtain ⟨h8, hw⟩ := hw
    refine V_icmp_ne (tgt := 39) X h8 ⟨by decide, by decide⟩ dX11_pairs_32 (by decide) (fun q9 => ?_) (fun q9 => ?_)
    · have hw := hw.1 q9
      refine V_iconst X dX11_pairs_39 ?_
      refine V_sub (lv1 := [(0, .ref (a 13)), (3, iv x3)]) [0, 2] rfl ?_
      exact wkj_X11_pairs_40 X hr hJ14 hw
    · have hw := hw.2 q9
      refine V_iconst X dX11_pairs_35 ?_
      refine V_goto (tgt := 40) X dX11_pairs_36 (by decide) ?_
      refine V_sub (lv1 := [(0, .ref (a 13)), (3, iv x3)]) [0, 2] rfl ?_
      exact wkj_X11_pairs_40 X hr hJ14 hw
set_option maxHeartbeats 4000000 in
set_option maxRecDepth 100000 in
theorem wke_X11_pairs {p : Program} {l : Launch} {e : Env} {s : State} {m : MethodId} {args : Array Value} {below : List Frame} {meth : Method} {c : Code} {D : va_G} {g : GT} {A : Nat → Prop} {a : Nat → Nat} {b : Nat → Nat → Nat} (X : vC p s m args meth c D g A RX11 wsX11_pairs cX11_pairs 4) (hr : meth.sig.returnType = (some .int)) {M : Mem} {J14 : Int → Int → Mem → Prop} {Q : Int → Mem → Prop} (hJ14 : ∀ (x2 : Int) (x3 : Int) (M : Mem), J14 x2 x3 M → vV p l e ({ frames := 5, cells := 0, slots := 0, locals := 126 } : Room) s m args below meth c D g A a b 4 0 0 (MQ below (cQi D g A a b Q) args s 0 0 A) M [(0, .ref (a 13)), (2, iv x2), (3, iv x3)] 14 []) (hw : wpe_X11_pairs M J14 Q) : vV p l e ({ frames := 5, cells := 0, slots := 0, locals := 126 } : Room) s m args below meth c D g A a b 4 0 0 (MQ below (cQi D g A a b Q) args s 0 0 A) M [(0, .ref (a 13))] 0 [] := by
  unfold wpe_X11_pairs at hw
  refine V_aload_n X dX11_pairs_0 rfl (q := 0) rfl ?_
  refine V_iconst X dX11_pairs_1 ?_
  refine V_put (C := RX11) (T := TX11) (N := 24) (ci := 11) X hi_X11_pairs_11 gO_13 rfl 23 (by decide) tyX11 tyX11_ok nmX11 rfl (tyX11_ok 23 (by decide)) (Or.inl rfl) (show 23 < 24 from by decide) sI_13_23 lk_X11_pairs_f72 (fun _ h9 => h9) dX11_pairs_2 (fun M1 eM1 => ?_)
  have hw := hw M1 eM1
  refine V_aload_n X dX11_pairs_5 rfl (q := 0) rfl ?_
  refine V_callV_i X _ gO_13 rfl (As := []) (st := []) (c_X11_maps l hw) (cwV 0 X.2.2.2.1 gX11_pairs_X11_maps rfl rfl rfl (by decide +kernel) ⟨Nat.le_of_ble_eq_true rfl, Nat.le_of_ble_eq_true rfl⟩) rfl (Nat.le_of_ble_eq_true rfl) ⟨Nat.le_of_ble_eq_true rfl, Nat.le_of_ble_eq_true rfl⟩ rfl dX11_pairs_6 (fun y2 M3 hw => ?_)
  refine V_istore_n (lv1 := [(0, .ref (a 13)), (1, iv y2)]) X [1, 0] dX11_pairs_9 rfl (by decide) rfl ?_
  refine V_iconst X dX11_pairs_10 ?_
  refine V_istore_n (lv1 := [(0, .ref (a 13)), (1, iv y2), (2, iv 0)]) X [1, 2, 0] dX11_pairs_11 rfl (by decide) rfl ?_
  refine V_iconst X dX11_pairs_12 ?_
  refine V_istore_n (lv1 := [(0, .ref (a 13)), (1, iv y2), (2, iv 0), (3, iv 0)]) X [1, 2, 3, 0] dX11_pairs_13 rfl (by decide) rfl ?_
  refine V_sub (lv1 := [(0, .ref (a 13)), (2, iv 0), (3, iv 0)]) [0, 2, 3] rfl ?_
  exact hJ14 _ _ _ hw
set_option maxHeartbeats 4000000 in
set_option maxRecDepth 100000 in
theorem c_X11_pairs (l : Launch) {D : va_G} {g : GT} {A : Nat → Prop} {a : Nat → Nat} {b : Nat → Nat → Nat} {M : Mem} {Q : Int → Mem → Prop} (hw : wp_X11_pairs M Q) : Met l yX11_pairs wsX11_pairs ({ frames := 5, cells := 0, slots := 0, locals := 126 } : Room) (cPc D g A a b M [.ref (a 13)]) (cQi D g A a b Q) 0 0 A := by
  refine Met.ofW (cc := cX11_pairs) (maxL := 4) (ret := (some .int)) (by decide) rfl ?_
  intro p e s m args below meth c s₁ B hml hv
  obtain ⟨rfl, hP, hD, hG⟩ := hv
  have X : vC p s m _ meth c D g A RX11 wsX11_pairs cX11_pairs 4 := ⟨B.exec, B.bytes, findClass_of_methodNamed B.named, atoms_spec (ws := wsX11_pairs) B.pre, hG, hml, B.notSynchronized⟩
  have hr := B.returns
  have hl := lv_entry ([.ref (a 13)]) (n := 4) (Nat.le_of_ble_eq_true rfl)
  rw [lg_entry_eq]
  generalize (lg_sl ([.ref (a 13)]) ++ List.replicate (4 - (lg_sl ([.ref (a 13)])).length) Slot.unset).toArray = ls at hl ⊢
  have hl : lv_has ls 4 [(0, .ref (a 13))] := hl
  obtain ⟨I14, hw, hI14⟩ := hw
  have K : ∀ n : Nat, (∀ (x2 : Int) (x3 : Int) (M : Mem), I14 n x2 x3 M → vV p l e ({ frames := 5, cells := 0, slots := 0, locals := 126 } : Room) s m ([.ref (a 13)] : List Value).toArray below meth c D g A a b 4 0 0 (MQ below (cQi D g A a b Q) ([.ref (a 13)] : List Value).toArray s 0 0 A) M [(0, .ref (a 13)), (2, iv x2), (3, iv x3)] 14 []) := by
    intro n
    induction n using Nat.strongRecOn with
    | ind n ih =>
      exact fun x2 x3 M hh => wkh_X11_pairs_14 X hr (fun _ _ _ ⟨n1, hn, hh⟩ => (ih n1 hn) _ _ _ hh) (hI14 n x2 x3 M hh)
  exact wke_X11_pairs X hr  (fun _ _ _ ⟨n1, hh⟩ => (K n1) _ _ _ hh) hw s.heap [] ls hP hD va_S.rf hl

set_option maxRecDepth 20000 in
theorem ggX10_setPrices_X10_needIndex : GoodIn wsX10_setPrices wsX10_needIndex := goodIn_ca (goodIn_r _ [6, 7, 8] (by decide +kernel) (by decide +kernel)) (goodIn_sub (fun _ h => List.mem_cons_of_mem _ (List.mem_append_left _ (List.mem_append_right _ h))) (by decide +kernel))
set_option maxRecDepth 20000 in
theorem gX10_setPrices_X10_needIndex : GoodIn wsX10_setPrices (va_wsS RX10 81 yX10_needIndex wsX10_needIndex) := goodIn_app (goodIn_of _ (by decide +kernel)) ggX10_setPrices_X10_needIndex
set_option maxRecDepth 20000 in
theorem ggX10_setPrices_X10_needAtMost : GoodIn wsX10_setPrices wsX10_needAtMost := goodIn_ca (goodIn_r _ [11, 12, 13] (by decide +kernel) (by decide +kernel)) (goodIn_sub (fun _ h => List.mem_cons_of_mem _ (List.mem_append_right _ h)) (by decide +kernel))
set_option maxRecDepth 20000 in
theorem gX10_setPrices_X10_needAtMost : GoodIn wsX10_setPrices (va_wsS RX10 85 yX10_needAtMost wsX10_needAtMost) := goodIn_app (goodIn_of _ (by decide +kernel)) ggX10_setPrices_X10_needAtMost
theorem dX10_setPrices_0 : decode cX10_setPrices 0 = .ok (.iload_n 1, 1) := by decide +kernel
theorem dX10_setPrices_1 : decode cX10_setPrices 1 = .ok (.iconst 4, 1) := by decide +kernel
theorem dX10_setPrices_2 : decode cX10_setPrices 2 = .ok (.invokestatic 81, 3) := by decide +kernel
theorem dX10_setPrices_5 : decode cX10_setPrices 5 = .ok (.iload_n 2, 1) := by decide +kernel
theorem dX10_setPrices_6 : decode cX10_setPrices 6 = .ok (.bipush 50, 2) := by decide +kernel
theorem dX10_setPrices_8 : decode cX10_setPrices 8 = .ok (.invokestatic 85, 3) := by decide +kernel
theorem dX10_setPrices_11 : decode cX10_setPrices 11 = .ok (.iload_n 3, 1) := by decide +kernel
theorem dX10_setPrices_12 : decode cX10_setPrices 12 = .ok (.bipush 50, 2) := by decide +kernel
theorem dX10_setPrices_14 : decode cX10_setPrices 14 = .ok (.invokestatic 85, 3) := by decide +kernel
theorem dX10_setPrices_17 : decode cX10_setPrices 17 = .ok (.iload 4, 2) := by decide +kernel
theorem dX10_setPrices_19 : decode cX10_setPrices 19 = .ok (.bipush 50, 2) := by decide +kernel
theorem dX10_setPrices_21 : decode cX10_setPrices 21 = .ok (.invokestatic 85, 3) := by decide +kernel
theorem dX10_setPrices_24 : decode cX10_setPrices 24 = .ok (.aload_n 0, 1) := by decide +kernel
theorem dX10_setPrices_25 : decode cX10_setPrices 25 = .ok (.getfield 10, 3) := by decide +kernel
theorem dX10_setPrices_28 : decode cX10_setPrices 28 = .ok (.getfield 130, 3) := by decide +kernel
theorem dX10_setPrices_31 : decode cX10_setPrices 31 = .ok (.iload_n 1, 1) := by decide +kernel
theorem dX10_setPrices_32 : decode cX10_setPrices 32 = .ok (.iload_n 2, 1) := by decide +kernel
theorem dX10_setPrices_33 : decode cX10_setPrices 33 = .ok (.iastore, 1) := by decide +kernel
theorem dX10_setPrices_34 : decode cX10_setPrices 34 = .ok (.aload_n 0, 1) := by decide +kernel
theorem dX10_setPrices_35 : decode cX10_setPrices 35 = .ok (.getfield 10, 3) := by decide +kernel
theorem dX10_setPrices_38 : decode cX10_setPrices 38 = .ok (.getfield 133, 3) := by decide +kernel
theorem dX10_setPrices_41 : decode cX10_setPrices 41 = .ok (.iload_n 1, 1) := by decide +kernel
theorem dX10_setPrices_42 : decode cX10_setPrices 42 = .ok (.iload_n 3, 1) := by decide +kernel
theorem dX10_setPrices_43 : decode cX10_setPrices 43 = .ok (.iastore, 1) := by decide +kernel
theorem dX10_setPrices_44 : decode cX10_setPrices 44 = .ok (.aload_n 0, 1) := by decide +kernel
theorem dX10_setPrices_45 : decode cX10_setPrices 45 = .ok (.getfield 10, 3) := by decide +kernel
theorem dX10_setPrices_48 : decode cX10_setPrices 48 = .ok (.getfield 136, 3) := by decide +kernel
theorem dX10_setPrices_51 : decode cX10_setPrices 51 = .ok (.iload_n 1, 1) := by decide +kernel
theorem dX10_setPrices_52 : decode cX10_setPrices 52 = .ok (.iload 4, 2) := by decide +kernel
theorem dX10_setPrices_54 : decode cX10_setPrices 54 = .ok (.iastore, 1) := by decide +kernel
theorem dX10_setPrices_55 : decode cX10_setPrices 55 = .ok (.aload_n 0, 1) := by decide +kernel
theorem dX10_setPrices_56 : decode cX10_setPrices 56 = .ok (.iconst 0, 1) := by decide +kernel
theorem dX10_setPrices_57 : decode cX10_setPrices 57 = .ok (.putfield 73, 3) := by decide +kernel
theorem dX10_setPrices_60 : decode cX10_setPrices 60 = .ok (.return_, 1) := by decide +kernel
theorem lk_X10_setPrices_f10 : Cond.fieldLink RX10 10 "TreeComparer" "given" "LTreeComparer$Given;" ∈ wsX10_setPrices := by decide +kernel
theorem hi_X10_setPrices_10 : ∀ w ∈ u_ws RX10 TX10 9, w ∈ wsX10_setPrices := by decide +kernel
theorem hi_X10_setPrices_1 : ∀ w ∈ u_ws RX1 TX1 6, w ∈ wsX10_setPrices := by decide +kernel
theorem lk_X10_setPrices_f73 : Cond.fieldLink RX10 73 "TreeComparer" "settled" "Z" ∈ wsX10_setPrices := by decide +kernel
def wpe_X10_setPrices (p0 : Int) (p1 : Int) (p2 : Int) (p3 : Int) (M : Mem) (Q : Mem → Prop) (XQ : String → Mem → Prop) : Prop := wp_X10_needIndex M p0 4 (fun M2 => wp_X10_needAtMost M2 p1 50 (fun M4 => wp_X10_needAtMost M4 p2 50 (fun M6 => wp_X10_needAtMost M6 p3 50 (fun M8 => ((0 : Int) ≤ p0 ∧ p0 < 4) ∧ (∀ M9 : Mem, M9 = mset M8 1 0 p0.toNat p1 → ((0 : Int) ≤ p0 ∧ p0 < 4) ∧ (∀ M11 : Mem, M11 = mset M9 1 1 p0.toNat p2 → ((0 : Int) ≤ p0 ∧ p0 < 4) ∧ (∀ M13 : Mem, M13 = mset M11 1 2 p0.toNat p3 → (∀ M15 : Mem, M15 = mset M13 0 8 0 0 → Q M15))))) XQ) XQ) XQ) XQ
def wp_X10_setPrices (M : Mem) (p0 : Int) (p1 : Int) (p2 : Int) (p3 : Int) (Q : Mem → Prop) (XQ : String → Mem → Prop) : Prop := wpe_X10_setPrices p0 p1 p2 p3 M Q XQ
set_option maxHeartbeats 4000000 in
set_option maxRecDepth 100000 in
theorem wke_X10_setPrices {p : Program} {l : Launch} {e : Env} {s : State} {m : MethodId} {args : Array Value} {below : List Frame} {meth : Method} {c : Code} {D : va_G} {g : GT} {A : Nat → Prop} {a : Nat → Nat} {b : Nat → Nat → Nat} (X : vC p s m args meth c D g A RX10 wsX10_setPrices cX10_setPrices 5) (hr : meth.sig.returnType = none) {p0 : Int} {p1 : Int} {p2 : Int} {p3 : Int} (hlt : l.stackTraces = false) (htab : ∀ x ∈ c.exceptionTable.toList, False) {M : Mem} {Q : Mem → Prop} {XQ : String → Mem → Prop} (hw : wpe_X10_setPrices p0 p1 p2 p3 M Q XQ) : vV p l e ({ frames := 7, cells := 4, slots := 24, locals := 111 } : Room) s m args below meth c D g A a b 5 0 0 (vx_MQ below (cQv D g A a b Q) (cX D g A a b XQ) args s 4 24 A) M [(0, .ref (a 0)), (1, iv p0), (2, iv p1), (3, iv p2), (4, iv p3)] 0 [] := by
  unfold wpe_X10_setPrices at hw
  refine V_iload_n X dX10_setPrices_0 rfl (q := 1) rfl ?_
  refine V_iconst X dX10_setPrices_1 ?_
  refine V_callxS_v X _ _ (As := [iv p0, iv 4]) (st := []) (c_X10_needIndex l hlt hw) (va_cwS 2 X.2.2.2.1 gX10_setPrices_X10_needIndex rfl rfl rfl (by decide +kernel) ⟨Nat.le_of_ble_eq_true rfl, Nat.le_of_ble_eq_true rfl⟩) rfl (Nat.le_of_ble_eq_true rfl) ⟨Nat.le_of_ble_eq_true rfl, Nat.le_of_ble_eq_true rfl⟩ rfl dX10_setPrices_2 (fun E ce q9 M9 H9 locs9 ls9 hx9 hP9 hD9 hS9 hl9 h91 h92 h93 => V_xout X htab (Nat.le_of_ble_eq_true rfl) (Nat.le_of_ble_eq_true rfl) hx9 hP9 hD9 hS9 h91 h92 h93) (fun M2 hw => ?_)
  refine V_iload_n X dX10_setPrices_5 rfl (q := 2) rfl ?_
  refine V_bipush X dX10_setPrices_6 rfl ?_
  refine V_callxS_v X _ _ (As := [iv p1, iv 50]) (st := []) (c_X10_needAtMost l hlt hw) (va_cwS 2 X.2.2.2.1 gX10_setPrices_X10_needAtMost rfl rfl rfl (by decide +kernel) ⟨Nat.le_of_ble_eq_true rfl, Nat.le_of_ble_eq_true rfl⟩) rfl (Nat.le_of_ble_eq_true rfl) ⟨Nat.le_of_ble_eq_true rfl, Nat.le_of_ble_eq_true rfl⟩ rfl dX10_setPrices_8 (fun E ce q9 M9 H9 locs9 ls9 hx9 hP9 hD9 hS9 hl9 h91 h92 h93 => V_xout X htab (Nat.le_of_ble_eq_true rfl) (Nat.le_of_ble_eq_true rfl) hx9 hP9 hD9 hS9 h91 h92 h93) (fun M4 hw => ?_)
  refine V_iload_n X dX10_setPrices_11 rfl (q := 3) rfl ?_
  refine V_bipush X dX10_setPrices_12 rfl ?_
  refine V_callxS_v X _ _ (As := [iv p2, iv 50]) (st := []) (c_X10_needAtMost l hlt hw) (va_cwS 2 X.2.2.2.1 gX10_setPrices_X10_needAtMost rfl rfl rfl (by decide +kernel) ⟨Nat.le_of_ble_eq_true rfl, Nat.le_of_ble_eq_true rfl⟩) rfl (Nat.le_of_ble_eq_true rfl) ⟨Nat.le_of_ble_eq_true rfl, Nat.le_of_ble_eq_true rfl⟩ rfl dX10_setPrices_14 (fun E ce q9 M9 H9 locs9 ls9 hx9 hP9 hD9 hS9 hl9 h91 h92 h93 => V_xout X htab (Nat.le_of_ble_eq_true rfl) (Nat.le_of_ble_eq_true rfl) hx9 hP9 hD9 hS9 h91 h92 h93) (fun M6 hw => ?_)
  refine V_iload X dX10_setPrices_17 (q := 4) rfl ?_
  refine V_bipush X dX10_setPrices_19 rfl ?_
  refine V_callxS_v X _ _ (As := [iv p3, iv 50]) (st := []) (c_X10_needAtMost l hlt hw) (va_cwS 2 X.2.2.2.1 gX10_setPrices_X10_needAtMost rfl rfl rfl (by decide +kernel) ⟨Nat.le_of_ble_eq_true rfl, Nat.le_of_ble_eq_true rfl⟩) rfl (Nat.le_of_ble_eq_true rfl) ⟨Nat.le_of_ble_eq_true rfl, Nat.le_of_ble_eq_true rfl⟩ rfl dX10_setPrices_21 (fun E ce q9 M9 H9 locs9 ls9 hx9 hP9 hD9 hS9 hl9 h91 h92 h93 => V_xout X htab (Nat.le_of_ble_eq_true rfl) (Nat.le_of_ble_eq_true rfl) hx9 hP9 hD9 hS9 h91 h92 h93) (fun M8 hw => ?_)
  refine V_aload_n X dX10_setPrices_24 rfl (q := 0) rfl ?_
  refine V_get (C := RX10) (T := TX10) (N := 9) (ci := 10) X hi_X10_setPrices_10 gO_0 rfl 0 (by decide) lk_X10_setPrices_f10 (fun _ h9 => h9) rfl dX10_setPrices_25 ?_
  refine V_getN (C := RX1) (T := TX1) (N := 6) (ci := 1) X hi_X10_setPrices_1 gO_1 rfl 0 (by decide) (List.mem_of_getElem? (i := 26) rfl) (fun _ h9 => h9) rfl dX10_setPrices_28 ?_
  refine V_iload_n X dX10_setPrices_31 rfl (q := 1) rfl ?_
  refine V_iload_n X dX10_setPrices_32 rfl (q := 2) rfl ?_
  obtain ⟨h10, hw⟩ := hw
  refine V_iast X (gA_1_0) (sA_1_0) h10 (by decide) dX10_setPrices_33 (fun M9 eM9 => ?_)
  have hw := hw M9 eM9
  refine V_aload_n X dX10_setPrices_34 rfl (q := 0) rfl ?_
  refine V_get (C := RX10) (T := TX10) (N := 9) (ci := 10) X hi_X10_setPrices_10 gO_0 rfl 0 (by decide) lk_X10_setPrices_f10 (fun _ h9 => h9) rfl dX10_setPrices_35 ?_
  refine V_getN (C := RX1) (T := TX1) (N := 6) (ci := 1) X hi_X10_setPrices_1 gO_1 rfl 1 (by decide) (List.mem_of_getElem? (i := 30) rfl) (fun _ h9 => h9) rfl dX10_setPrices_38 ?_
  refine V_iload_n X dX10_setPrices_41 rfl (q := 1) rfl ?_
  refine V_iload_n X dX10_setPrices_42 rfl (q := 3) rfl ?_
  obtain ⟨h12, hw⟩ := hw
  refine V_iast X (gA_1_1) (sA_1_1) h12 (by decide) dX10_setPrices_43 (fun M11 eM11 => ?_)
  have hw := hw M11 eM11
  refine V_aload_n X dX10_setPrices_44 rfl (q := 0) rfl ?_
  refine V_get (C := RX10) (T := TX10) (N := 9) (ci := 10) X hi_X10_setPrices_10 gO_0 rfl 0 (by decide) lk_X10_setPrices_f10 (fun _ h9 => h9) rfl dX10_setPrices_45 ?_
  refine V_getN (C := RX1) (T := TX1) (N := 6) (ci := 1) X hi_X10_setPrices_1 gO_1 rfl 2 (by decide) (List.mem_of_getElem? (i := 32) rfl) (fun _ h9 => h9) rfl dX10_setPrices_48 ?_
  refine V_iload_n X dX10_setPrices_51 rfl (q := 1) rfl ?_
  refine V_iload X dX10_setPrices_52 (q := 4) rfl ?_
  obtain ⟨h14, hw⟩ := hw
  refine V_iast X (gA_1_2) (sA_1_2) h14 (by decide) dX10_setPrices_54 (fun M13 eM13 => ?_)
  have hw := hw M13 eM13
  refine V_aload_n X dX10_setPrices_55 rfl (q := 0) rfl ?_
  refine V_iconst X dX10_setPrices_56 ?_
  refine V_put (C := RX10) (T := TX10) (N := 9) (ci := 10) X hi_X10_setPrices_10 gO_0 rfl 8 (by decide) tyX10 tyX10_ok nmX10 rfl (tyX10_ok 8 (by decide)) (Or.inr ⟨rfl, by decide⟩) (show 8 < 9 from by decide) sI_0_8 lk_X10_setPrices_f73 (fun _ h9 => h9) dX10_setPrices_57 (fun M15 eM15 => ?_)
  have hw := hw M15 eM15
  exact V_xret (Nat.le_of_ble_eq_true rfl) (Nat.le_of_ble_eq_true rfl) (V_vret X hr hw dX10_setPrices_60)
set_option maxHeartbeats 4000000 in
set_option maxRecDepth 100000 in
theorem c_X10_setPrices (l : Launch) {p0 : Int} {p1 : Int} {p2 : Int} {p3 : Int} (hlt : l.stackTraces = false) {D : va_G} {g : GT} {A : Nat → Prop} {a : Nat → Nat} {b : Nat → Nat → Nat} {M : Mem} {Q : Mem → Prop} {XQ : String → Mem → Prop} (hw : wp_X10_setPrices M p0 p1 p2 p3 Q XQ) : vx_Met l yX10_setPrices wsX10_setPrices ({ frames := 7, cells := 4, slots := 24, locals := 111 } : Room) (cPc D g A a b M [.ref (a 0), iv p0, iv p1, iv p2, iv p3]) (cQv D g A a b Q) (cX D g A a b XQ) 4 24 A := by
  refine vx_ofW (cc := cX10_setPrices) (maxL := 5) (ret := none) (by decide) rfl ?_
  intro p e s m args below meth c s₁ B hml htab hv
  obtain ⟨rfl, hP, hD, hG⟩ := hv
  have X : vC p s m _ meth c D g A RX10 wsX10_setPrices cX10_setPrices 5 := ⟨B.exec, B.bytes, findClass_of_methodNamed B.named, atoms_spec (ws := wsX10_setPrices) B.pre, hG, hml, B.notSynchronized⟩
  have hr := B.returns
  have hl := lv_entry ([.ref (a 0), iv p0, iv p1, iv p2, iv p3]) (n := 5) (Nat.le_of_ble_eq_true rfl)
  rw [lg_entry_eq]
  generalize (lg_sl ([.ref (a 0), iv p0, iv p1, iv p2, iv p3]) ++ List.replicate (5 - (lg_sl ([.ref (a 0), iv p0, iv p1, iv p2, iv p3])).length) Slot.unset).toArray = ls at hl ⊢
  have hl : lv_has ls 5 [(0, .ref (a 0)), (1, iv p0), (2, iv p1), (3, iv p2), (4, iv p3)] := hl
  exact wke_X10_setPrices X hr hlt htab hw s.heap [] ls hP hD va_S.rf hl
