set_option maxRecDepth 20000 in
theorem ggX10_childAt_X10_treeWith : GoodIn wsX10_childAt wsX10_treeWith := goodIn_ca (goodIn_r _ [5, 6, 7, 8, 4, 9, 10, 11, 12, 13, 14, 15, 31, 32, 33, 34, 35, 36, 37, 38, 39, 40, 41, 42, 43, 44, 45, 46, 47, 48, 49, 50, 51, 52, 53, 54] (by decide +kernel) (by decide +kernel)) (goodIn_sub (fun _ h => List.mem_cons_of_mem _ (List.mem_append_right _ h)) (by decide +kernel))
set_option maxRecDepth 20000 in
theorem gX10_childAt_X10_treeWith : GoodIn wsX10_childAt (wsV RX10 105 RX10 yX10_treeWith wsX10_treeWith) := goodIn_app (goodIn_of _ (by decide +kernel)) ggX10_childAt_X10_treeWith
set_option maxRecDepth 20000 in
theorem ggX10_childAt_X9_childCount : GoodIn wsX10_childAt wsX9_childCount := goodIn_r _ [19, 20, 21, 22, 23, 24, 25, 17, 26, 27, 31, 32, 33, 34, 35, 36, 37, 38, 39] (by decide +kernel) (by decide +kernel)
set_option maxRecDepth 20000 in
theorem gX10_childAt_X9_childCount_n109 : GoodIn wsX10_childAt (wsX9_childCount) := ggX10_childAt_X9_childCount
set_option maxRecDepth 20000 in
theorem ggX10_childAt_X10_needIndex : GoodIn wsX10_childAt wsX10_needIndex := goodIn_ca (goodIn_r _ [13, 14, 15] (by decide +kernel) (by decide +kernel)) (goodIn_sub (fun _ h => List.mem_cons_of_mem _ (List.mem_append_right _ h)) (by decide +kernel))
set_option maxRecDepth 20000 in
theorem gX10_childAt_X10_needIndex : GoodIn wsX10_childAt (va_wsS RX10 81 yX10_needIndex wsX10_needIndex) := goodIn_app (goodIn_of _ (by decide +kernel)) ggX10_childAt_X10_needIndex
set_option maxRecDepth 20000 in
theorem ggX10_childAt_X9_nthChild : GoodIn wsX10_childAt wsX9_nthChild := goodIn_r _ [30, 20, 21, 22, 23, 24, 25, 17, 26, 27, 31, 32, 33, 34, 35, 36, 37, 38, 39] (by decide +kernel) (by decide +kernel)
set_option maxRecDepth 20000 in
theorem gX10_childAt_X9_nthChild_n148 : GoodIn wsX10_childAt (wsX9_nthChild) := ggX10_childAt_X9_nthChild
theorem dX10_childAt_0 : decode cX10_childAt 0 = .ok (.aload_n 0, 1) := by decide +kernel
theorem dX10_childAt_1 : decode cX10_childAt 1 = .ok (.iload_n 1, 1) := by decide +kernel
theorem dX10_childAt_2 : decode cX10_childAt 2 = .ok (.iload_n 2, 1) := by decide +kernel
theorem dX10_childAt_3 : decode cX10_childAt 3 = .ok (.invokevirtual 105, 3) := by decide +kernel
theorem dX10_childAt_6 : decode cX10_childAt 6 = .ok (.astore 4, 2) := by decide +kernel
theorem dX10_childAt_8 : decode cX10_childAt 8 = .ok (.iload_n 3, 1) := by decide +kernel
theorem dX10_childAt_9 : decode cX10_childAt 9 = .ok (.aload 4, 2) := by decide +kernel
theorem dX10_childAt_11 : decode cX10_childAt 11 = .ok (.iload_n 2, 1) := by decide +kernel
theorem dX10_childAt_12 : decode cX10_childAt 12 = .ok (.invokevirtual 109, 3) := by decide +kernel
theorem dX10_childAt_15 : decode cX10_childAt 15 = .ok (.invokestatic 81, 3) := by decide +kernel
theorem dX10_childAt_18 : decode cX10_childAt 18 = .ok (.aload 4, 2) := by decide +kernel
theorem dX10_childAt_20 : decode cX10_childAt 20 = .ok (.iload_n 2, 1) := by decide +kernel
theorem dX10_childAt_21 : decode cX10_childAt 21 = .ok (.iload_n 3, 1) := by decide +kernel
theorem dX10_childAt_22 : decode cX10_childAt 22 = .ok (.invokevirtual 148, 3) := by decide +kernel
theorem dX10_childAt_25 : decode cX10_childAt 25 = .ok (.ireturn, 1) := by decide +kernel
theorem lk_X10_childAt_i9 : Cond.initialized RX9 ∈ wsX10_childAt := by decide +kernel
theorem lk_X10_childAt_im109 : Cond.instanceMethod yX9_childCount ∈ wsX10_childAt := by decide +kernel
theorem lk_X10_childAt_se109 : Cond.selects RX9 yX9_childCount yX9_childCount ∈ wsX10_childAt := by decide +kernel
theorem lk_X10_childAt_im148 : Cond.instanceMethod yX9_nthChild ∈ wsX10_childAt := by decide +kernel
theorem lk_X10_childAt_se148 : Cond.selects RX9 yX9_nthChild yX9_nthChild ∈ wsX10_childAt := by decide +kernel
def wpe_X10_childAt (p0 : Int) (p1 : Int) (p2 : Int) (M : Mem) (Q : Int → Mem → Prop) (XQ : String → Mem → Prop) : Prop := wp_X10_treeWith M p0 p1 (fun y1 M2 => isT y1 ∧ wp_X9_childCount M2 y1 p1 (fun y3 M4 => wp_X10_needIndex M4 p2 y3 (fun M6 => wp_X9_nthChild M6 y1 p1 p2 (fun y7 M8 => Q y7 M8)) XQ)) XQ
def wp_X10_childAt (M : Mem) (p0 : Int) (p1 : Int) (p2 : Int) (Q : Int → Mem → Prop) (XQ : String → Mem → Prop) : Prop := wpe_X10_childAt p0 p1 p2 M Q XQ
set_option maxHeartbeats 4000000 in
set_option maxRecDepth 100000 in
theorem wke_X10_childAt {p : Program} {l : Launch} {e : Env} {s : State} {m : MethodId} {args : Array Value} {below : List Frame} {meth : Method} {c : Code} {D : va_G} {g : GT} {A : Nat → Prop} {a : Nat → Nat} {b : Nat → Nat → Nat} (X : vC p s m args meth c D g A RX10 wsX10_childAt cX10_childAt 5) (hr : meth.sig.returnType = (some .int)) {p0 : Int} {p1 : Int} {p2 : Int} (hlt : l.stackTraces = false) (htab : ∀ x ∈ c.exceptionTable.toList, False) {M : Mem} {Q : Int → Mem → Prop} {XQ : String → Mem → Prop} (hw : wpe_X10_childAt p0 p1 p2 M Q XQ) : vV p l e ({ frames := 9, cells := 3, slots := 18, locals := 155 } : Room) s m args below meth c D g A a b 5 0 0 (vx_MQ below (cQi D g A a b Q) (cX D g A a b XQ) args s 3 18 A) M [(0, .ref (a 0)), (1, iv p0), (2, iv p1), (3, iv p2)] 0 [] := by
  unfold wpe_X10_childAt at hw
  refine V_aload_n X dX10_childAt_0 rfl (q := 0) rfl ?_
  refine V_iload_n X dX10_childAt_1 rfl (q := 1) rfl ?_
  refine V_iload_n X dX10_childAt_2 rfl (q := 2) rfl ?_
  refine V_callxV_r X _ _ gO_0 rfl (As := [iv p0, iv p1]) (st := []) (c_X10_treeWith l hlt hw) (cwV 2 X.2.2.2.1 gX10_childAt_X10_treeWith rfl rfl rfl (by decide +kernel) ⟨Nat.le_of_ble_eq_true rfl, Nat.le_of_ble_eq_true rfl⟩) rfl (Nat.le_of_ble_eq_true rfl) ⟨Nat.le_of_ble_eq_true rfl, Nat.le_of_ble_eq_true rfl⟩ rfl dX10_childAt_3 (fun E ce q9 M9 H9 locs9 ls9 hx9 hP9 hD9 hS9 hl9 h91 h92 h93 => V_xout X htab (Nat.le_of_ble_eq_true rfl) (Nat.le_of_ble_eq_true rfl) hx9 hP9 hD9 hS9 h91 h92 h93) (fun y1 M2 hw => ?_)
  obtain ⟨hy1, hw⟩ := hw
  refine V_astore (lv1 := [(0, .ref (a 0)), (1, iv p0), (2, iv p1), (3, iv p2), (4, .ref (a y1))]) X [1, 2, 3, 4, 0] dX10_childAt_6 (by decide) rfl ?_
  refine V_iload_n X dX10_childAt_8 rfl (q := 3) rfl ?_
  refine V_aload X dX10_childAt_9 (q := 4) rfl ?_
  refine V_iload_n X dX10_childAt_11 rfl (q := 2) rfl ?_
  refine V_callVN_i X _ (gTO hy1) rfl (As := [iv p1]) (st := [iv p2]) (c_X9_childCount l hy1 hw) ⟨va_cnB 1 X.2.2.2.1 gX10_childAt_X9_childCount_n109 rfl rfl rfl (X.2.2.2.2.1.2.1 _ (List.mem_of_getElem? (i := 122) rfl)) (X.2.2.2.1 _ lk_X10_childAt_i9) (by decide +kernel) ⟨Nat.le_of_ble_eq_true rfl, Nat.le_of_ble_eq_true rfl⟩, X.2.2.2.1 _ lk_X10_childAt_im109, X.2.2.2.1 _ lk_X10_childAt_se109⟩ rfl (Nat.le_of_ble_eq_true rfl) ⟨Nat.le_of_ble_eq_true rfl, Nat.le_of_ble_eq_true rfl⟩ rfl dX10_childAt_12 (fun y3 M4 hw => ?_)
  refine V_callxS_v X _ _ (As := [iv p2, iv y3]) (st := []) (c_X10_needIndex l hlt hw) (va_cwS 2 X.2.2.2.1 gX10_childAt_X10_needIndex rfl rfl rfl (by decide +kernel) ⟨Nat.le_of_ble_eq_true rfl, Nat.le_of_ble_eq_true rfl⟩) rfl (Nat.le_of_ble_eq_true rfl) ⟨Nat.le_of_ble_eq_true rfl, Nat.le_of_ble_eq_true rfl⟩ rfl dX10_childAt_15 (fun E ce q9 M9 H9 locs9 ls9 hx9 hP9 hD9 hS9 hl9 h91 h92 h93 => V_xout X htab (Nat.le_of_ble_eq_true rfl) (Nat.le_of_ble_eq_true rfl) hx9 hP9 hD9 hS9 h91 h92 h93) (fun M6 hw => ?_)
  refine V_aload X dX10_childAt_18 (q := 4) rfl ?_
  refine V_iload_n X dX10_childAt_20 rfl (q := 2) rfl ?_
  refine V_iload_n X dX10_childAt_21 rfl (q := 3) rfl ?_
  refine V_callVN_i X _ (gTO hy1) rfl (As := [iv p1, iv p2]) (st := []) (c_X9_nthChild l hy1 hw) ⟨va_cnB 2 X.2.2.2.1 gX10_childAt_X9_nthChild_n148 rfl rfl rfl (X.2.2.2.2.1.2.1 _ (List.mem_of_getElem? (i := 124) rfl)) (X.2.2.2.1 _ lk_X10_childAt_i9) (by decide +kernel) ⟨Nat.le_of_ble_eq_true rfl, Nat.le_of_ble_eq_true rfl⟩, X.2.2.2.1 _ lk_X10_childAt_im148, X.2.2.2.1 _ lk_X10_childAt_se148⟩ rfl (Nat.le_of_ble_eq_true rfl) ⟨Nat.le_of_ble_eq_true rfl, Nat.le_of_ble_eq_true rfl⟩ rfl dX10_childAt_22 (fun y7 M8 hw => ?_)
  exact V_xret (Nat.le_of_ble_eq_true rfl) (Nat.le_of_ble_eq_true rfl) (V_iret X hr hw dX10_childAt_25)
set_option maxHeartbeats 4000000 in
set_option maxRecDepth 100000 in
theorem c_X10_childAt (l : Launch) {p0 : Int} {p1 : Int} {p2 : Int} (hlt : l.stackTraces = false) {D : va_G} {g : GT} {A : Nat → Prop} {a : Nat → Nat} {b : Nat → Nat → Nat} {M : Mem} {Q : Int → Mem → Prop} {XQ : String → Mem → Prop} (hw : wp_X10_childAt M p0 p1 p2 Q XQ) : vx_Met l yX10_childAt wsX10_childAt ({ frames := 9, cells := 3, slots := 18, locals := 155 } : Room) (cPc D g A a b M [.ref (a 0), iv p0, iv p1, iv p2]) (cQi D g A a b Q) (cX D g A a b XQ) 3 18 A := by
  refine vx_ofW (cc := cX10_childAt) (maxL := 5) (ret := (some .int)) (by decide) rfl ?_
  intro p e s m args below meth c s₁ B hml htab hv
  obtain ⟨rfl, hP, hD, hG⟩ := hv
  have X : vC p s m _ meth c D g A RX10 wsX10_childAt cX10_childAt 5 := ⟨B.exec, B.bytes, findClass_of_methodNamed B.named, atoms_spec (ws := wsX10_childAt) B.pre, hG, hml, B.notSynchronized⟩
  have hr := B.returns
  have hl := lv_entry ([.ref (a 0), iv p0, iv p1, iv p2]) (n := 5) (Nat.le_of_ble_eq_true rfl)
  rw [lg_entry_eq]
  generalize (lg_sl ([.ref (a 0), iv p0, iv p1, iv p2]) ++ List.replicate (5 - (lg_sl ([.ref (a 0), iv p0, iv p1, iv p2])).length) Slot.unset).toArray = ls at hl ⊢
  have hl : lv_has ls 5 [(0, .ref (a 0)), (1, iv p0), (2, iv p1), (3, iv p2)] := hl
  exact wke_X10_childAt X hr hlt htab hw s.heap [] ls hP hD va_S.rf hl

theorem dX11_swaps_0 : decode cX11_swaps 0 = .ok (.aload_n 0, 1) := by decide +kernel
theorem dX11_swaps_1 : decode cX11_swaps 1 = .ok (.iload_n 1, 1) := by decide +kernel
theorem dX11_swaps_2 : decode cX11_swaps 2 = .ok (.iaload, 1) := by decide +kernel
theorem dX11_swaps_3 : decode cX11_swaps 3 = .ok (.istore_n 3, 1) := by decide +kernel
theorem dX11_swaps_4 : decode cX11_swaps 4 = .ok (.aload_n 0, 1) := by decide +kernel
theorem dX11_swaps_5 : decode cX11_swaps 5 = .ok (.iload_n 1, 1) := by decide +kernel
theorem dX11_swaps_6 : decode cX11_swaps 6 = .ok (.aload_n 0, 1) := by decide +kernel
theorem dX11_swaps_7 : decode cX11_swaps 7 = .ok (.iload_n 2, 1) := by decide +kernel
theorem dX11_swaps_8 : decode cX11_swaps 8 = .ok (.iaload, 1) := by decide +kernel
theorem dX11_swaps_9 : decode cX11_swaps 9 = .ok (.iastore, 1) := by decide +kernel
theorem dX11_swaps_10 : decode cX11_swaps 10 = .ok (.aload_n 0, 1) := by decide +kernel
theorem dX11_swaps_11 : decode cX11_swaps 11 = .ok (.iload_n 2, 1) := by decide +kernel
theorem dX11_swaps_12 : decode cX11_swaps 12 = .ok (.iload_n 3, 1) := by decide +kernel
theorem dX11_swaps_13 : decode cX11_swaps 13 = .ok (.iastore, 1) := by decide +kernel
theorem dX11_swaps_14 : decode cX11_swaps 14 = .ok (.return_, 1) := by decide +kernel
def wpe_X11_swaps (po0 pk0 pn0 : Nat) (p1 : Int) (p2 : Int) (M : Mem) (Q : Mem → Prop) : Prop := ((0 : Int) ≤ p1 ∧ p1 < pn0) ∧ (∀ y2 : Int, y2 = (M po0 pk0 p1.toNat) → ((0 : Int) ≤ p2 ∧ p2 < pn0) ∧ ((0 : Int) ≤ p1 ∧ p1 < pn0) ∧ (∀ M4 : Mem, M4 = mset M po0 pk0 p1.toNat ((M po0 pk0 p2.toNat)) → ((0 : Int) ≤ p2 ∧ p2 < pn0) ∧ (∀ M6 : Mem, M6 = mset M4 po0 pk0 p2.toNat y2 → Q M6)))
def wp_X11_swaps (M : Mem) (po0 pk0 pn0 : Nat) (p1 : Int) (p2 : Int) (Q : Mem → Prop) : Prop := wpe_X11_swaps po0 pk0 pn0 p1 p2 M Q
set_option maxHeartbeats 4000000 in
set_option maxRecDepth 100000 in
theorem wke_X11_swaps {p : Program} {l : Launch} {e : Env} {s : State} {m : MethodId} {args : Array Value} {below : List Frame} {meth : Method} {c : Code} {D : va_G} {g : GT} {A : Nat → Prop} {a : Nat → Nat} {b : Nat → Nat → Nat} (X : vC p s m args meth c D g A RX11 wsX11_swaps cX11_swaps 4) (hr : meth.sig.returnType = none) {po0 pk0 pn0 : Nat} {p1 : Int} {p2 : Int} {pq0 : Nat} (ha0 : isArr pq0 po0 pk0 pn0) {M : Mem} {Q : Mem → Prop} (hw : wpe_X11_swaps po0 pk0 pn0 p1 p2 M Q) : vV p l e ({ frames := 0, cells := 0, slots := 0, locals := 0 } : Room) s m args below meth c D g A a b 4 0 0 (MQ below (cQv D g A a b Q) args s 0 0 A) M [(0, .ref (b po0 pk0)), (1, iv p1), (2, iv p2)] 0 [] := by
  unfold wpe_X11_swaps at hw
  refine V_aload_n X dX11_swaps_0 rfl (q := 0) rfl ?_
  refine V_iload_n X dX11_swaps_1 rfl (q := 1) rfl ?_
  obtain ⟨h1, hw⟩ := hw
  refine V_iald X (ha0.1 _ _ _ _) h1 ha0.2.2 dX11_swaps_2 ?_
  refine V_top (fun y2 ey2 => ?_)
  have hw := hw y2 ey2
  refine V_istore_n (lv1 := [(0, .ref (b po0 pk0)), (1, iv p1), (2, iv p2), (3, iv y2)]) X [1, 2, 3, 0] dX11_swaps_3 rfl (by decide) rfl ?_
  refine V_aload_n X dX11_swaps_4 rfl (q := 0) rfl ?_
  refine V_iload_n X dX11_swaps_5 rfl (q := 1) rfl ?_
  refine V_aload_n X dX11_swaps_6 rfl (q := 0) rfl ?_
  refine V_iload_n X dX11_swaps_7 rfl (q := 2) rfl ?_
  obtain ⟨h3, hw⟩ := hw
  refine V_iald X (ha0.1 _ _ _ _) h3 ha0.2.2 dX11_swaps_8 ?_
  obtain ⟨h5, hw⟩ := hw
  refine V_iast X (ha0.1 _ _ _ _) (ha0.2.1 _ _ _ _ _ _) h5 ha0.2.2 dX11_swaps_9 (fun M4 eM4 => ?_)
  have hw := hw M4 eM4
  refine V_aload_n X dX11_swaps_10 rfl (q := 0) rfl ?_
  refine V_iload_n X dX11_swaps_11 rfl (q := 2) rfl ?_
  refine V_iload_n X dX11_swaps_12 rfl (q := 3) rfl ?_
  obtain ⟨h7, hw⟩ := hw
  refine V_iast X (ha0.1 _ _ _ _) (ha0.2.1 _ _ _ _ _ _) h7 ha0.2.2 dX11_swaps_13 (fun M6 eM6 => ?_)
  have hw := hw M6 eM6
  exact V_vret X hr hw dX11_swaps_14
set_option maxHeartbeats 4000000 in
set_option maxRecDepth 100000 in
theorem c_X11_swaps (l : Launch) {po0 pk0 pn0 : Nat} {p1 : Int} {p2 : Int} {pq0 : Nat} (ha0 : isArr pq0 po0 pk0 pn0) {D : va_G} {g : GT} {A : Nat → Prop} {a : Nat → Nat} {b : Nat → Nat → Nat} {M : Mem} {Q : Mem → Prop} (hw : wp_X11_swaps M po0 pk0 pn0 p1 p2 Q) : Met l yX11_swaps wsX11_swaps ({ frames := 0, cells := 0, slots := 0, locals := 0 } : Room) (cPc D g A a b M [.ref (b po0 pk0), iv p1, iv p2]) (cQv D g A a b Q) 0 0 A := by
  refine Met.ofW (cc := cX11_swaps) (maxL := 4) (ret := none) (by decide) rfl ?_
  intro p e s m args below meth c s₁ B hml hv
  obtain ⟨rfl, hP, hD, hG⟩ := hv
  have X : vC p s m _ meth c D g A RX11 wsX11_swaps cX11_swaps 4 := ⟨B.exec, B.bytes, findClass_of_methodNamed B.named, atoms_spec (ws := wsX11_swaps) B.pre, hG, hml, B.notSynchronized⟩
  have hr := B.returns
  have hl := lv_entry ([.ref (b po0 pk0), iv p1, iv p2]) (n := 4) (Nat.le_of_ble_eq_true rfl)
  rw [lg_entry_eq]
  generalize (lg_sl ([.ref (b po0 pk0), iv p1, iv p2]) ++ List.replicate (4 - (lg_sl ([.ref (b po0 pk0), iv p1, iv p2])).length) Slot.unset).toArray = ls at hl ⊢
  have hl : lv_has ls 4 [(0, .ref (b po0 pk0)), (1, iv p1), (2, iv p2)] := hl
  exact wke_X11_swaps X hr ha0 hw s.heap [] ls hP hD va_S.rf hl

set_option maxRecDepth 20000 in
theorem ggX10_setMovePrice_X10_needAtMost : GoodIn wsX10_setMovePrice wsX10_needAtMost := goodIn_ca (goodIn_r _ [6, 7, 8] (by decide +kernel) (by decide +kernel)) (goodIn_sub (fun _ h => List.mem_cons_of_mem _ (List.mem_append_right _ h)) (by decide +kernel))
set_option maxRecDepth 20000 in
theorem gX10_setMovePrice_X10_needAtMost : GoodIn wsX10_setMovePrice (va_wsS RX10 85 yX10_needAtMost wsX10_needAtMost) := goodIn_app (goodIn_of _ (by decide +kernel)) ggX10_setMovePrice_X10_needAtMost
theorem dX10_setMovePrice_0 : decode cX10_setMovePrice 0 = .ok (.iload_n 1, 1) := by decide +kernel
theorem dX10_setMovePrice_1 : decode cX10_setMovePrice 1 = .ok (.bipush 50, 2) := by decide +kernel
theorem dX10_setMovePrice_3 : decode cX10_setMovePrice 3 = .ok (.invokestatic 85, 3) := by decide +kernel
theorem dX10_setMovePrice_6 : decode cX10_setMovePrice 6 = .ok (.aload_n 0, 1) := by decide +kernel
theorem dX10_setMovePrice_7 : decode cX10_setMovePrice 7 = .ok (.getfield 10, 3) := by decide +kernel
theorem dX10_setMovePrice_10 : decode cX10_setMovePrice 10 = .ok (.getfield 139, 3) := by decide +kernel
theorem dX10_setMovePrice_13 : decode cX10_setMovePrice 13 = .ok (.istore_n 2, 1) := by decide +kernel
theorem dX10_setMovePrice_14 : decode cX10_setMovePrice 14 = .ok (.aload_n 0, 1) := by decide +kernel
theorem dX10_setMovePrice_15 : decode cX10_setMovePrice 15 = .ok (.getfield 10, 3) := by decide +kernel
theorem dX10_setMovePrice_18 : decode cX10_setMovePrice 18 = .ok (.iload_n 1, 1) := by decide +kernel
theorem dX10_setMovePrice_19 : decode cX10_setMovePrice 19 = .ok (.putfield 139, 3) := by decide +kernel
theorem dX10_setMovePrice_22 : decode cX10_setMovePrice 22 = .ok (.aload_n 0, 1) := by decide +kernel
theorem dX10_setMovePrice_23 : decode cX10_setMovePrice 23 = .ok (.iconst 0, 1) := by decide +kernel
theorem dX10_setMovePrice_24 : decode cX10_setMovePrice 24 = .ok (.putfield 73, 3) := by decide +kernel
theorem dX10_setMovePrice_27 : decode cX10_setMovePrice 27 = .ok (.iload_n 2, 1) := by decide +kernel
theorem dX10_setMovePrice_28 : decode cX10_setMovePrice 28 = .ok (.ireturn, 1) := by decide +kernel
theorem lk_X10_setMovePrice_f10 : Cond.fieldLink RX10 10 "TreeComparer" "given" "LTreeComparer$Given;" ∈ wsX10_setMovePrice := by decide +kernel
theorem hi_X10_setMovePrice_10 : ∀ w ∈ u_ws RX10 TX10 9, w ∈ wsX10_setMovePrice := by decide +kernel
theorem hi_X10_setMovePrice_1 : ∀ w ∈ u_ws RX1 TX1 6, w ∈ wsX10_setMovePrice := by decide +kernel
theorem lk_X10_setMovePrice_f73 : Cond.fieldLink RX10 73 "TreeComparer" "settled" "Z" ∈ wsX10_setMovePrice := by decide +kernel
def wpe_X10_setMovePrice (p0 : Int) (M : Mem) (Q : Int → Mem → Prop) (XQ : String → Mem → Prop) : Prop := wp_X10_needAtMost M p0 50 (fun M2 => (∀ y3 : Int, y3 = (M2 1 3 0) → (∀ M4 : Mem, M4 = mset M2 1 3 0 p0 → (∀ M5 : Mem, M5 = mset M4 0 8 0 0 → Q y3 M5)))) XQ
def wp_X10_setMovePrice (M : Mem) (p0 : Int) (Q : Int → Mem → Prop) (XQ : String → Mem → Prop) : Prop := wpe_X10_setMovePrice p0 M Q XQ
set_option maxHeartbeats 4000000 in
set_option maxRecDepth 100000 in
theorem wke_X10_setMovePrice {p : Program} {l : Launch} {e : Env} {s : State} {m : MethodId} {args : Array Value} {below : List Frame} {meth : Method} {c : Code} {D : va_G} {g : GT} {A : Nat → Prop} {a : Nat → Nat} {b : Nat → Nat → Nat} (X : vC p s m args meth c D g A RX10 wsX10_setMovePrice cX10_setMovePrice 3) (hr : meth.sig.returnType = (some .int)) {p0 : Int} (hlt : l.stackTraces = false) (htab : ∀ x ∈ c.exceptionTable.toList, False) {M : Mem} {Q : Int → Mem → Prop} {XQ : String → Mem → Prop} (hw : wpe_X10_setMovePrice p0 M Q XQ) : vV p l e ({ frames := 7, cells := 1, slots := 6, locals := 111 } : Room) s m args below meth c D g A a b 3 0 0 (vx_MQ below (cQi D g A a b Q) (cX D g A a b XQ) args s 1 6 A) M [(0, .ref (a 0)), (1, iv p0)] 0 [] := by
  unfold wpe_X10_setMovePrice at hw
  refine V_iload_n X dX10_setMovePrice_0 rfl (q := 1) rfl ?_
  refine V_bipush X dX10_setMovePrice_1 rfl ?_
  refine V_callxS_v X _ _ (As := [iv p0, iv 50]) (st := []) (c_X10_needAtMost l hlt hw) (va_cwS 2 X.2.2.2.1 gX10_setMovePrice_X10_needAtMost rfl rfl rfl (by decide +kernel) ⟨Nat.le_of_ble_eq_true rfl, Nat.le_of_ble_eq_true rfl⟩) rfl (Nat.le_of_ble_eq_true rfl) ⟨Nat.le_of_ble_eq_true rfl, Nat.le_of_ble_eq_true rfl⟩ rfl dX10_setMovePrice_3 (fun E ce q9 M9 H9 locs9 ls9 hx9 hP9 hD9 hS9 hl9 h91 h92 h93 => V_xout X htab (Nat.le_of_ble_eq_true rfl) (Nat.le_of_ble_eq_true rfl) hx9 hP9 hD9 hS9 h91 h92 h93) (fun M2 hw => ?_)
  refine V_aload_n X dX10_setMovePrice_6 rfl (q := 0) rfl ?_
  refine V_get (C := RX10) (T := TX10) (N := 9) (ci := 10) X hi_X10_setMovePrice_10 gO_0 rfl 0 (by decide) lk_X10_setMovePrice_f10 (fun _ h9 => h9) rfl dX10_setMovePrice_7 ?_
  refine V_getN (C := RX1) (T := TX1) (N := 6) (ci := 1) X hi_X10_setMovePrice_1 gO_1 rfl 3 (by decide) (List.mem_of_getElem? (i := 34) rfl) (fun _ h9 => h9) rfl dX10_setMovePrice_10 ?_
  refine V_top (fun y3 ey3 => ?_)
  have hw := hw y3 ey3
  refine V_istore_n (lv1 := [(0, .ref (a 0)), (1, iv p0), (2, iv y3)]) X [1, 2, 0] dX10_setMovePrice_13 rfl (by decide) rfl ?_
  refine V_aload_n X dX10_setMovePrice_14 rfl (q := 0) rfl ?_
  refine V_get (C := RX10) (T := TX10) (N := 9) (ci := 10) X hi_X10_setMovePrice_10 gO_0 rfl 0 (by decide) lk_X10_setMovePrice_f10 (fun _ h9 => h9) rfl dX10_setMovePrice_15 ?_
  refine V_iload_n X dX10_setMovePrice_18 rfl (q := 1) rfl ?_
  refine V_putN (C := RX1) (T := TX1) (N := 6) (ci := 1) X hi_X10_setMovePrice_1 gO_1 rfl 3 (by decide) tyX1 tyX1_ok nmX1 rfl (tyX1_ok 3 (by decide)) (Or.inl rfl) (show 3 < 6 from by decide) sI_1_3 (List.mem_of_getElem? (i := 34) rfl) (fun _ h9 => h9) dX10_setMovePrice_19 (fun M4 eM4 => ?_)
  have hw := hw M4 eM4
  refine V_aload_n X dX10_setMovePrice_22 rfl (q := 0) rfl ?_
  refine V_iconst X dX10_setMovePrice_23 ?_
  refine V_put (C := RX10) (T := TX10) (N := 9) (ci := 10) X hi_X10_setMovePrice_10 gO_0 rfl 8 (by decide) tyX10 tyX10_ok nmX10 rfl (tyX10_ok 8 (by decide)) (Or.inr ⟨rfl, by decide⟩) (show 8 < 9 from by decide) sI_0_8 lk_X10_setMovePrice_f73 (fun _ h9 => h9) dX10_setMovePrice_24 (fun M5 eM5 => ?_)
  have hw := hw M5 eM5
  refine V_iload_n X dX10_setMovePrice_27 rfl (q := 2) rfl ?_
  exact V_xret (Nat.le_of_ble_eq_true rfl) (Nat.le_of_ble_eq_true rfl) (V_iret X hr hw dX10_setMovePrice_28)
set_option maxHeartbeats 4000000 in
set_option maxRecDepth 100000 in
theorem c_X10_setMovePrice (l : Launch) {p0 : Int} (hlt : l.stackTraces = false) {D : va_G} {g : GT} {A : Nat → Prop} {a : Nat → Nat} {b : Nat → Nat → Nat} {M : Mem} {Q : Int → Mem → Prop} {XQ : String → Mem → Prop} (hw : wp_X10_setMovePrice M p0 Q XQ) : vx_Met l yX10_setMovePrice wsX10_setMovePrice ({ frames := 7, cells := 1, slots := 6, locals := 111 } : Room) (cPc D g A a b M [.ref (a 0), iv p0]) (cQi D g A a b Q) (cX D g A a b XQ) 1 6 A := by
  refine vx_ofW (cc := cX10_setMovePrice) (maxL := 3) (ret := (some .int)) (by decide) rfl ?_
  intro p e s m args below meth c s₁ B hml htab hv
  obtain ⟨rfl, hP, hD, hG⟩ := hv
  have X : vC p s m _ meth c D g A RX10 wsX10_setMovePrice cX10_setMovePrice 3 := ⟨B.exec, B.bytes, findClass_of_methodNamed B.named, atoms_spec (ws := wsX10_setMovePrice) B.pre, hG, hml, B.notSynchronized⟩
  have hr := B.returns
  have hl := lv_entry ([.ref (a 0), iv p0]) (n := 3) (Nat.le_of_ble_eq_true rfl)
  rw [lg_entry_eq]
  generalize (lg_sl ([.ref (a 0), iv p0]) ++ List.replicate (3 - (lg_sl ([.ref (a 0), iv p0])).length) Slot.unset).toArray = ls at hl ⊢
  have hl : lv_has ls 3 [(0, .ref (a 0)), (1, iv p0)] := hl
  exact wke_X10_setMovePrice X hr hlt htab hw s.heap [] ls hP hD va_S.rf hl

theorem dX11_place_0 : decode cX11_place 0 = .ok (.iconst 0, 1) := by decide +kernel
theorem dX11_place_1 : decode cX11_place 1 = .ok (.istore_n 3, 1) := by decide +kernel
theorem dX11_place_2 : decode cX11_place 2 = .ok (.aload_n 0, 1) := by decide +kernel
theorem dX11_place_3 : decode cX11_place 3 = .ok (.getfield 7, 3) := by decide +kernel
theorem dX11_place_6 : decode cX11_place 6 = .ok (.bipush 12, 2) := by decide +kernel
theorem dX11_place_8 : decode cX11_place 8 = .ok (.iload_n 1, 1) := by decide +kernel
theorem dX11_place_9 : decode cX11_place 9 = .ok (.imul, 1) := by decide +kernel
theorem dX11_place_10 : decode cX11_place 10 = .ok (.iload_n 3, 1) := by decide +kernel
theorem dX11_place_11 : decode cX11_place 11 = .ok (.iadd, 1) := by decide +kernel
theorem dX11_place_12 : decode cX11_place 12 = .ok (.iaload, 1) := by decide +kernel
theorem dX11_place_13 : decode cX11_place 13 = .ok (.iload_n 2, 1) := by decide +kernel
theorem dX11_place_14 : decode cX11_place 14 = .ok (.if_icmp .eq 9, 3) := by decide +kernel
theorem dX11_place_17 : decode cX11_place 17 = .ok (.iinc 3 1, 3) := by decide +kernel
theorem dX11_place_20 : decode cX11_place 20 = .ok (.goto (-18), 3) := by decide +kernel
theorem dX11_place_23 : decode cX11_place 23 = .ok (.iload_n 3, 1) := by decide +kernel
theorem dX11_place_24 : decode cX11_place 24 = .ok (.ireturn, 1) := by decide +kernel
theorem lk_X11_place_f7 : Cond.fieldLink RX11 7 "TreeComparerModel" "node" "[I" ∈ wsX11_place := by decide +kernel
theorem hi_X11_place_11 : ∀ w ∈ u_ws RX11 TX11 24, w ∈ wsX11_place := by decide +kernel
def wph_X11_place_2 (p0 : Int) (p1 : Int) (x3 : Int) (M : Mem) (J2 : Int → Mem → Prop) (Q : Int → Mem → Prop) : Prop := ((0 : Int) ≤ (12 * p0) + x3 ∧ (12 * p0) + x3 < 24) ∧ inR (M 13 0 ((12 * p0) + x3).toNat) ∧ inR p1 ∧ (((M 13 0 ((12 * p0) + x3).toNat) = p1 → Q x3 M) ∧ (¬ ((M 13 0 ((12 * p0) + x3).toNat) = p1) → J2 (x3 + 1) M))
def wpe_X11_place (p0 : Int) (p1 : Int) (M : Mem) (J2 : Int → Mem → Prop) (Q : Int → Mem → Prop) : Prop := J2 0 M
def wp_X11_place (M : Mem) (p0 : Int) (p1 : Int) (Q : Int → Mem → Prop) : Prop := ∃ (I2 : Nat → Int → Mem → Prop), wpe_X11_place p0 p1 M (fun (x3 : Int) (M1 : Mem) => ∃ n1 : Nat, I2 n1 x3 M1) Q ∧ (∀ (n : Nat) (x3 : Int) (M : Mem), I2 n x3 M → wph_X11_place_2 p0 p1 x3 M (fun (x3 : Int) (M1 : Mem) => ∃ n1 : Nat, n1 < n ∧ I2 n1 x3 M1) Q)
set_option maxHeartbeats 4000000 in
set_option maxRecDepth 100000 in
theorem wkh_X11_place_2 {p : Program} {l : Launch} {e : Env} {s : State} {m : MethodId} {args : Array Value} {below : List Frame} {meth : Method} {c : Code} {D : va_G} {g : GT} {A : Nat → Prop} {a : Nat → Nat} {b : Nat → Nat → Nat} (X : vC p s m args meth c D g A RX11 wsX11_place cX11_place 4) (hr : meth.sig.returnType = (some .int)) {p0 : Int} {p1 : Int} {x3 : Int} {M : Mem} {J2 : Int → Mem → Prop} {Q : Int → Mem → Prop} (hJ2 : ∀ (x3 : Int) (M : Mem), J2 x3 M → vV p l e ({ frames := 0, cells := 0, slots := 0, locals := 0 } : Room) s m args below meth c D g A a b 4 0 0 (MQ below (cQi D g A a b Q) args s 0 0 A) M [(0, .ref (a 13)), (1, iv p0), (2, iv p1), (3, iv x3)] 2 []) (hw : wph_X11_place_2 p0 p1 x3 M J2 Q) : vV p l e ({ frames := 0, cells := 0, slots := 0, locals := 0 } : Room) s m args below meth c D g A a b 4 0 0 (MQ below (cQi D g A a b Q) args s 0 0 A) M [(0, .ref (a 13)), (1, iv p0), (2, iv p1), (3, iv x3)] 2 [] := by
  unfold wph_X11_place_2 at hw
  refine V_aload_n X dX11_place_2 rfl (q := 0) rfl ?_
  refine V_get (C := RX11) (T := TX11) (N := 24) (ci := 11) X hi_X11_place_11 gO_13 rfl 0 (by decide) lk_X11_place_f7 (fun _ h9 => h9) rfl dX11_place_3 ?_
  refine V_bipush X dX11_place_6 rfl ?_
  refine V_iload_n X dX11_place_8 rfl (q := 1) rfl ?_
  refine V_imul X dX11_place_9 ?_
  refine V_iload_n X dX11_place_10 rfl (q := 3) rfl ?_
  refine V_iadd X dX11_place_11 ?_
  obtain ⟨h1, hw⟩ := hw
  refine V_iald X (gA_13_0) h1 (by decide) dX11_place_12 ?_
  refine V_iload_n X dX11_place_13 rfl (q := 2) rfl ?_
  obtain ⟨h2, h3, hw⟩ := hw
  refine V_icmp_eq (tgt := 23) X h2 h3 dX11_place_14 (by decide) (fun q4 => ?_) (fun q4 => ?_)
  · have hw := hw.1 q4
    refine V_iload_n X dX11_place_23 rfl (q := 3) rfl ?_
    exact V_iret X hr hw dX11_place_24
  · have hw := hw.2 q4
    refine V_iinc (lv1 := [(0, .ref (a 13)), (1, iv p0), (2, iv p1), (3, iv (x3 + 1))]) X [1, 2, 3, 0] dX11_place_17 (q := 3) rfl (by decide) rfl ?_
    refine V_goto (tgt := 2) X dX11_place_20 (by decide) ?_
    exact hJ2 _ _ hw
set_option maxHeartbeats 4000000 in
set_option maxRecDepth 100000 in
theorem wke_X11_place {p : Program} {l : Launch} {e : Env} {s : State} {m : MethodId} {args : Array Value} {below : List Frame} {meth : Method} {c : Code} {D : va_G} {g : GT} {A : Nat → Prop} {a : Nat → Nat} {b : Nat → Nat → Nat} (X : vC p s m args meth c D g A RX11 wsX11_place cX11_place 4) (hr : meth.sig.returnType = (some .int)) {p0 : Int} {p1 : Int} {M : Mem} {J2 : Int → Mem → Prop} {Q : Int → Mem → Prop} (hJ2 : ∀ (x3 : Int) (M : Mem), J2 x3 M → vV p l e ({ frames := 0, cells := 0, slots := 0, locals := 0 } : Room) s m args below meth c D g A a b 4 0 0 (MQ below (cQi D g A a b Q) args s 0 0 A) M [(0, .ref (a 13)), (1, iv p0), (2, iv p1), (3, iv x3)] 2 []) (hw : wpe_X11_place p0 p1 M J2 Q) : vV p l e ({ frames := 0, cells := 0, slots := 0, locals := 0 } : Room) s m args below meth c D g A a b 4 0 0 (MQ below (cQi D g A a b Q) args s 0 0 A) M [(0, .ref (a 13)), (1, iv p0), (2, iv p1)] 0 [] := by
  unfold wpe_X11_place at hw
  refine V_iconst X dX11_place_0 ?_
  refine V_istore_n (lv1 := [(0, .ref (a 13)), (1, iv p0), (2, iv p1), (3, iv 0)]) X [1, 2, 3, 0] dX11_place_1 rfl (by decide) rfl ?_
  exact hJ2 _ _ hw
set_option maxHeartbeats 4000000 in
set_option maxRecDepth 100000 in
theorem c_X11_place (l : Launch) {p0 : Int} {p1 : Int} {D : va_G} {g : GT} {A : Nat → Prop} {a : Nat → Nat} {b : Nat → Nat → Nat} {M : Mem} {Q : Int → Mem → Prop} (hw : wp_X11_place M p0 p1 Q) : Met l yX11_place wsX11_place ({ frames := 0, cells := 0, slots := 0, locals := 0 } : Room) (cPc D g A a b M [.ref (a 13), iv p0, iv p1]) (cQi D g A a b Q) 0 0 A := by
  refine Met.ofW (cc := cX11_place) (maxL := 4) (ret := (some .int)) (by decide) rfl ?_
  intro p e s m args below meth c s₁ B hml hv
  obtain ⟨rfl, hP, hD, hG⟩ := hv
  have X : vC p s m _ meth c D g A RX11 wsX11_place cX11_place 4 := ⟨B.exec, B.bytes, findClass_of_methodNamed B.named, atoms_spec (ws := wsX11_place) B.pre, hG, hml, B.notSynchronized⟩
  have hr := B.returns
  have hl := lv_entry ([.ref (a 13), iv p0, iv p1]) (n := 4) (Nat.le_of_ble_eq_true rfl)
  rw [lg_entry_eq]
  generalize (lg_sl ([.ref (a 13), iv p0, iv p1]) ++ List.replicate (4 - (lg_sl ([.ref (a 13), iv p0, iv p1])).length) Slot.unset).toArray = ls at hl ⊢
  have hl : lv_has ls 4 [(0, .ref (a 13)), (1, iv p0), (2, iv p1)] := hl
  obtain ⟨I2, hw, hI2⟩ := hw
  have K : ∀ n : Nat, (∀ (x3 : Int) (M : Mem), I2 n x3 M → vV p l e ({ frames := 0, cells := 0, slots := 0, locals := 0 } : Room) s m ([.ref (a 13), iv p0, iv p1] : List Value).toArray below meth c D g A a b 4 0 0 (MQ below (cQi D g A a b Q) ([.ref (a 13), iv p0, iv p1] : List Value).toArray s 0 0 A) M [(0, .ref (a 13)), (1, iv p0), (2, iv p1), (3, iv x3)] 2 []) := by
    intro n
    induction n using Nat.strongRecOn with
    | ind n ih =>
      exact fun x3 M hh => wkh_X11_place_2 X hr (fun _ _ ⟨n1, hn, hh⟩ => (ih n1 hn) _ _ hh) (hI2 n x3 M hh)
  exact wke_X11_place X hr  (fun _ _ ⟨n1, hh⟩ => (K n1) _ _ hh) hw s.heap [] ls hP hD va_S.rf hl

theorem dX9_postPlace_0 : decode cX9_postPlace 0 = .ok (.aload_n 0, 1) := by decide +kernel
theorem dX9_postPlace_1 : decode cX9_postPlace 1 = .ok (.getfield 27, 3) := by decide +kernel
theorem dX9_postPlace_4 : decode cX9_postPlace 4 = .ok (.iload_n 1, 1) := by decide +kernel
theorem dX9_postPlace_5 : decode cX9_postPlace 5 = .ok (.iaload, 1) := by decide +kernel
theorem dX9_postPlace_6 : decode cX9_postPlace 6 = .ok (.aload_n 0, 1) := by decide +kernel
theorem dX9_postPlace_7 : decode cX9_postPlace 7 = .ok (.getfield 33, 3) := by decide +kernel
theorem dX9_postPlace_10 : decode cX9_postPlace 10 = .ok (.iload_n 1, 1) := by decide +kernel
theorem dX9_postPlace_11 : decode cX9_postPlace 11 = .ok (.iaload, 1) := by decide +kernel
theorem dX9_postPlace_12 : decode cX9_postPlace 12 = .ok (.isub, 1) := by decide +kernel
theorem dX9_postPlace_13 : decode cX9_postPlace 13 = .ok (.aload_n 0, 1) := by decide +kernel
theorem dX9_postPlace_14 : decode cX9_postPlace 14 = .ok (.getfield 30, 3) := by decide +kernel
theorem dX9_postPlace_17 : decode cX9_postPlace 17 = .ok (.iload_n 1, 1) := by decide +kernel
theorem dX9_postPlace_18 : decode cX9_postPlace 18 = .ok (.iaload, 1) := by decide +kernel
theorem dX9_postPlace_19 : decode cX9_postPlace 19 = .ok (.iadd, 1) := by decide +kernel
theorem dX9_postPlace_20 : decode cX9_postPlace 20 = .ok (.iconst 1, 1) := by decide +kernel
theorem dX9_postPlace_21 : decode cX9_postPlace 21 = .ok (.isub, 1) := by decide +kernel
theorem dX9_postPlace_22 : decode cX9_postPlace 22 = .ok (.ireturn, 1) := by decide +kernel
theorem lk_X9_postPlace_f27 : Cond.fieldLink RX9 27 "TreeComparer$Tree" "prePlace" "[I" ∈ wsX9_postPlace := by decide +kernel
theorem hi_X9_postPlace_9 : ∀ w ∈ u_ws RX9 TX9 9, w ∈ wsX9_postPlace := by decide +kernel
theorem lk_X9_postPlace_f33 : Cond.fieldLink RX9 33 "TreeComparer$Tree" "depth" "[I" ∈ wsX9_postPlace := by decide +kernel
theorem lk_X9_postPlace_f30 : Cond.fieldLink RX9 30 "TreeComparer$Tree" "size" "[I" ∈ wsX9_postPlace := by decide +kernel
def wpe_X9_postPlace (o : Nat) (p0 : Int) (M : Mem) (Q : Int → Mem → Prop) : Prop := ((0 : Int) ≤ p0 ∧ p0 < 12) ∧ ((0 : Int) ≤ p0 ∧ p0 < 12) ∧ ((0 : Int) ≤ p0 ∧ p0 < 12) ∧ Q ((((M o 5 p0.toNat) - (M o 7 p0.toNat)) + (M o 6 p0.toNat)) - 1) M
def wp_X9_postPlace (M : Mem) (o : Nat) (p0 : Int) (Q : Int → Mem → Prop) : Prop := wpe_X9_postPlace o p0 M Q
set_option maxHeartbeats 4000000 in
set_option maxRecDepth 100000 in
theorem wke_X9_postPlace {p : Program} {l : Launch} {e : Env} {s : State} {m : MethodId} {args : Array Value} {below : List Frame} {meth : Method} {c : Code} {D : va_G} {g : GT} {A : Nat → Prop} {a : Nat → Nat} {b : Nat → Nat → Nat} (X : vC p s m args meth c D g A RX9 wsX9_postPlace cX9_postPlace 2) (hr : meth.sig.returnType = (some .int)) {o : Nat} {p0 : Int} (ho : isT o) {M : Mem} {Q : Int → Mem → Prop} (hw : wpe_X9_postPlace o p0 M Q) : vV p l e ({ frames := 0, cells := 0, slots := 0, locals := 0 } : Room) s m args below meth c D g A a b 2 0 0 (MQ below (cQi D g A a b Q) args s 0 0 A) M [(0, .ref (a o)), (1, iv p0)] 0 [] := by
  unfold wpe_X9_postPlace at hw
  refine V_aload_n X dX9_postPlace_0 rfl (q := 0) rfl ?_
  refine V_get (C := RX9) (T := TX9) (N := 9) (ci := 9) X hi_X9_postPlace_9 (gTO ho) rfl 5 (by decide) lk_X9_postPlace_f27 (fun _ h9 => h9) rfl dX9_postPlace_1 ?_
  refine V_iload_n X dX9_postPlace_4 rfl (q := 1) rfl ?_
  obtain ⟨h1, hw⟩ := hw
  refine V_iald X ((gT_5 ho)) h1 (by decide) dX9_postPlace_5 ?_
  refine V_aload_n X dX9_postPlace_6 rfl (q := 0) rfl ?_
  refine V_get (C := RX9) (T := TX9) (N := 9) (ci := 9) X hi_X9_postPlace_9 (gTO ho) rfl 7 (by decide) lk_X9_postPlace_f33 (fun _ h9 => h9) rfl dX9_postPlace_7 ?_
  refine V_iload_n X dX9_postPlace_10 rfl (q := 1) rfl ?_
  obtain ⟨h2, hw⟩ := hw
  refine V_iald X ((gT_7 ho)) h2 (by decide) dX9_postPlace_11 ?_
  refine V_isub X dX9_postPlace_12 ?_
  refine V_aload_n X dX9_postPlace_13 rfl (q := 0) rfl ?_
  refine V_get (C := RX9) (T := TX9) (N := 9) (ci := 9) X hi_X9_postPlace_9 (gTO ho) rfl 6 (by decide) lk_X9_postPlace_f30 (fun _ h9 => h9) rfl dX9_postPlace_14 ?_
  refine V_iload_n X dX9_postPlace_17 rfl (q := 1) rfl ?_
  obtain ⟨h3, hw⟩ := hw
  refine V_iald X ((gT_6 ho)) h3 (by decide) dX9_postPlace_18 ?_
  refine V_iadd X dX9_postPlace_19 ?_
  refine V_iconst X dX9_postPlace_20 ?_
  refine V_isub X dX9_postPlace_21 ?_
  exact V_iret X hr hw dX9_postPlace_22
set_option maxHeartbeats 4000000 in
set_option maxRecDepth 100000 in
theorem c_X9_postPlace (l : Launch) {o : Nat} {p0 : Int} (ho : isT o) {D : va_G} {g : GT} {A : Nat → Prop} {a : Nat → Nat} {b : Nat → Nat → Nat} {M : Mem} {Q : Int → Mem → Prop} (hw : wp_X9_postPlace M o p0 Q) : Met l yX9_postPlace wsX9_postPlace ({ frames := 0, cells := 0, slots := 0, locals := 0 } : Room) (cPc D g A a b M [.ref (a o), iv p0]) (cQi D g A a b Q) 0 0 A := by
  refine Met.ofW (cc := cX9_postPlace) (maxL := 2) (ret := (some .int)) (by decide) rfl ?_
  intro p e s m args below meth c s₁ B hml hv
  obtain ⟨rfl, hP, hD, hG⟩ := hv
  have X : vC p s m _ meth c D g A RX9 wsX9_postPlace cX9_postPlace 2 := ⟨B.exec, B.bytes, findClass_of_methodNamed B.named, atoms_spec (ws := wsX9_postPlace) B.pre, hG, hml, B.notSynchronized⟩
  have hr := B.returns
  have hl := lv_entry ([.ref (a o), iv p0]) (n := 2) (Nat.le_of_ble_eq_true rfl)
  rw [lg_entry_eq]
  generalize (lg_sl ([.ref (a o), iv p0]) ++ List.replicate (2 - (lg_sl ([.ref (a o), iv p0])).length) Slot.unset).toArray = ls at hl ⊢
  have hl : lv_has ls 2 [(0, .ref (a o)), (1, iv p0)] := hl
  exact wke_X9_postPlace X hr ho hw s.heap [] ls hP hD va_S.rf hl

set_option maxRecDepth 20000 in
theorem ggX9_occursAmong_X9_sameSubtrees : GoodIn wsX9_occursAmong wsX9_sameSubtrees := goodIn_r _ [4, 5, 6, 7, 8, 9, 10, 11, 12, 13, 14, 15, 16, 17, 18] (by decide +kernel) (by decide +kernel)
set_option maxRecDepth 20000 in
theorem gX9_occursAmong_X9_sameSubtrees : GoodIn wsX9_occursAmong (va_wsS RX9 54 yX9_sameSubtrees wsX9_sameSubtrees) := goodIn_app (goodIn_of _ (by decide +kernel)) ggX9_occursAmong_X9_sameSubtrees
theorem dX9_occursAmong_0 : decode cX9_occursAmong 0 = .ok (.iconst 0, 1) := by decide +kernel
theorem dX9_occursAmong_1 : decode cX9_occursAmong 1 = .ok (.istore 4, 2) := by decide +kernel
theorem dX9_occursAmong_3 : decode cX9_occursAmong 3 = .ok (.iload 4, 2) := by decide +kernel
theorem dX9_occursAmong_5 : decode cX9_occursAmong 5 = .ok (.iload_n 1, 1) := by decide +kernel
theorem dX9_occursAmong_6 : decode cX9_occursAmong 6 = .ok (.if_icmp .ge 22, 3) := by decide +kernel
theorem dX9_occursAmong_9 : decode cX9_occursAmong 9 = .ok (.aload_n 0, 1) := by decide +kernel
theorem dX9_occursAmong_10 : decode cX9_occursAmong 10 = .ok (.iload 4, 2) := by decide +kernel
theorem dX9_occursAmong_12 : decode cX9_occursAmong 12 = .ok (.aload_n 2, 1) := by decide +kernel
theorem dX9_occursAmong_13 : decode cX9_occursAmong 13 = .ok (.iload_n 3, 1) := by decide +kernel
theorem dX9_occursAmong_14 : decode cX9_occursAmong 14 = .ok (.invokestatic 54, 3) := by decide +kernel
theorem dX9_occursAmong_17 : decode cX9_occursAmong 17 = .ok (.ifCond .eq 5, 3) := by decide +kernel
theorem dX9_occursAmong_20 : decode cX9_occursAmong 20 = .ok (.iconst 1, 1) := by decide +kernel
theorem dX9_occursAmong_21 : decode cX9_occursAmong 21 = .ok (.ireturn, 1) := by decide +kernel
theorem dX9_occursAmong_22 : decode cX9_occursAmong 22 = .ok (.iinc 4 1, 3) := by decide +kernel
theorem dX9_occursAmong_25 : decode cX9_occursAmong 25 = .ok (.goto (-22), 3) := by decide +kernel
theorem dX9_occursAmong_28 : decode cX9_occursAmong 28 = .ok (.iconst 0, 1) := by decide +kernel
theorem dX9_occursAmong_29 : decode cX9_occursAmong 29 = .ok (.ireturn, 1) := by decide +kernel
def wph_X9_occursAmong_3 (p0 : Nat) (p1 : Int) (p2 : Nat) (p3 : Int) (x4 : Int) (M : Mem) (J3 : Int → Mem → Prop) (Q : Int → Mem → Prop) : Prop := inR x4 ∧ inR p1 ∧ ((p1 ≤ x4 → Q 0 M) ∧ (¬ (p1 ≤ x4) → wp_X9_sameSubtrees M p0 x4 p2 p3 (fun y4 M5 => inR y4 ∧ ((y4 = 0 → J3 (x4 + 1) M5) ∧ (¬ (y4 = 0) → Q 1 M5)))))
def wpe_X9_occursAmong (p0 : Nat) (p1 : Int) (p2 : Nat) (p3 : Int) (M : Mem) (J3 : Int → Mem → Prop) (Q : Int → Mem → Prop) : Prop := J3 0 M
def wp_X9_occursAmong (M : Mem) (p0 : Nat) (p1 : Int) (p2 : Nat) (p3 : Int) (Q : Int → Mem → Prop) : Prop := ∃ (I3 : Nat → Int → Mem → Prop), wpe_X9_occursAmong p0 p1 p2 p3 M (fun (x4 : Int) (M1 : Mem) => ∃ n1 : Nat, I3 n1 x4 M1) Q ∧ (∀ (n : Nat) (x4 : Int) (M : Mem), I3 n x4 M → wph_X9_occursAmong_3 p0 p1 p2 p3 x4 M (fun (x4 : Int) (M1 : Mem) => ∃ n1 : Nat, n1 < n ∧ I3 n1 x4 M1) Q)
set_option maxHeartbeats 4000000 in
set_option maxRecDepth 100000 in
theorem wkh_X9_occursAmong_3 {p : Program} {l : Launch} {e : Env} {s : State} {m : MethodId} {args : Array Value} {below : List Frame} {meth : Method} {c : Code} {D : va_G} {g : GT} {A : Nat → Prop} {a : Nat → Nat} {b : Nat → Nat → Nat} (X : vC p s m args meth c D g A RX9 wsX9_occursAmong cX9_occursAmong 5) (hr : meth.sig.returnType = (some .boolean)) {p0 : Nat} {p1 : Int} {p2 : Nat} {p3 : Int} (hp0 : isT p0) (hp2 : isT p2) {x4 : Int} {M : Mem} {J3 : Int → Mem → Prop} {Q : Int → Mem → Prop} (hJ3 : ∀ (x4 : Int) (M : Mem), J3 x4 M → vV p l e ({ frames := 1, cells := 0, slots := 0, locals := 26 } : Room) s m args below meth c D g A a b 5 0 0 (MQ below (cQi D g A a b Q) args s 0 0 A) M [(0, .ref (a p0)), (1, iv p1), (2, .ref (a p2)), (3, iv p3), (4, iv x4)] 3 []) (hw : wph_X9_occursAmong_3 p0 p1 p2 p3 x4 M J3 Q) : vV p l e ({ frames := 1, cells := 0, slots := 0, locals := 26 } : Room) s m args below meth c D g A a b 5 0 0 (MQ below (cQi D g A a b Q) args s 0 0 A) M [(0, .ref (a p0)), (1, iv p1), (2, .ref (a p2)), (3, iv p3), (4, iv x4)] 3 [] := by
  unfold wph_X9_occursAmong_3 at hw
  refine V_iload X dX9_occursAmong_3 (q := 4) rfl ?_
  refine V_iload_n X dX9_occursAmong_5 rfl (q := 1) rfl ?_
  obtain ⟨h1, h2, hw⟩ := hw
  refine V_icmp_ge (tgt := 28) X h1 h2 dX9_occursAmong_6 (by decide) (fun q3 => ?_) (fun q3 => ?_)
  · have hw := hw.1 q3
    refine V_iconst X dX9_occursAmong_28 ?_
    exact V_zret X hr (by decide) hw dX9_occursAmong_29
  · have hw := hw.2 q3
    refine V_aload_n X dX9_occursAmong_9 rfl (q := 0) rfl ?_
    refine V_iload X dX9_occursAmong_10 (q := 4) rfl ?_
    refine V_aload_n X dX9_occursAmong_12 rfl (q := 2) rfl ?_
    refine V_iload_n X dX9_occursAmong_13 rfl (q := 3) rfl ?_
    refine V_callS_i X _ (As := [.ref (a p0), iv x4, .ref (a p2), iv p3]) (st := []) (c_X9_sameSubtrees l hp0 hp2 hw) (va_cwS 4 X.2.2.2.1 gX9_occursAmong_X9_sameSubtrees rfl rfl rfl (by decide +kernel) ⟨Nat.le_of_ble_eq_true rfl, Nat.le_of_ble_eq_true rfl⟩) rfl (Nat.le_of_ble_eq_true rfl) ⟨Nat.le_of_ble_eq_true rfl, Nat.le_of_ble_eq_true rfl⟩ rfl dX9_occursAmong_14 (fun y4 M5 hw => ?_)
    obtain ⟨h6, hw⟩ := hw
    refine V_if_eq (tgt := 22) X h6 dX9_occursAmong_17 (by decide) (fun q7 => ?_) (fun q7 => ?_)
    · have hw := hw.1 q7
      refine V_iinc (lv1 := [(0, .ref (a p0)), (1, iv p1), (2, .ref (a p2)), (3, iv p3), (4, iv (x4 + 1))]) X [1, 2, 3, 4, 0] dX9_occursAmong_22 (q := 4) rfl (by decide) rfl ?_
      refine V_goto (tgt := 3) X dX9_occursAmong_25 (by decide) ?_
      exact hJ3 _ _ hw
    · have hw := hw.2 q7
      refine V_iconst X dX9_occursAmong_20 ?_
      exact V_zret X hr (by decide) hw dX9_occursAmong_21
set_option maxHeartbeats 4000000 in
set_option maxRecDepth 100000 in
theorem wke_X9_occursAmong {p : Program} {l : Launch} {e : Env} {s : State} {m : MethodId} {args : Array Value} {below : List Frame} {meth : Method} {c : Code} {D : va_G} {g : GT} {A : Nat → Prop} {a : Nat → Nat} {b : Nat → Nat → Nat} (X : vC p s m args meth c D g A RX9 wsX9_occursAmong cX9_occursAmong 5) (hr : meth.sig.returnType = (some .boolean)) {p0 : Nat} {p1 : Int} {p2 : Nat} {p3 : Int} (hp0 : isT p0) (hp2 : isT p2) {M : Mem} {J3 : Int → Mem → Prop} {Q : Int → Mem → Prop} (hJ3 : ∀ (x4 : Int) (M : Mem), J3 x4 M → vV p l e ({ frames := 1, cells := 0, slots := 0, locals := 26 } : Room) s m args below meth c D g A a b 5 0 0 (MQ below (cQi D g A a b Q) args s 0 0 A) M [(0, .ref (a p0)), (1, iv p1), (2, .ref (a p2)), (3, iv p3), (4, iv x4)] 3 []) (hw : wpe_X9_occursAmong p0 p1 p2 p3 M J3 Q) : vV p l e ({ frames := 1, cells := 0, slots := 0, locals := 26 } : Room) s m args below meth c D g A a b 5 0 0 (MQ below (cQi D g A a b Q) args s 0 0 A) M [(0, .ref (a p0)), (1, iv p1), (2, .ref (a p2)), (3, iv p3)] 0 [] := by
  unfold wpe_X9_occursAmong at hw
  refine V_iconst X dX9_occursAmong_0 ?_
  refine V_istore (lv1 := [(0, .ref (a p0)), (1, iv p1), (2, .ref (a p2)), (3, iv p3), (4, iv 0)]) X [1, 2, 3, 4, 0] dX9_occursAmong_1 (by decide) rfl ?_
  exact hJ3 _ _ hw
set_option maxHeartbeats 4000000 in
set_option maxRecDepth 100000 in
theorem c_X9_occursAmong (l : Launch) {p0 : Nat} {p1 : Int} {p2 : Nat} {p3 : Int} (hp0 : isT p0) (hp2 : isT p2) {D : va_G} {g : GT} {A : Nat → Prop} {a : Nat → Nat} {b : Nat → Nat → Nat} {M : Mem} {Q : Int → Mem → Prop} (hw : wp_X9_occursAmong M p0 p1 p2 p3 Q) : Met l yX9_occursAmong wsX9_occursAmong ({ frames := 1, cells := 0, slots := 0, locals := 26 } : Room) (cPc D g A a b M [.ref (a p0), iv p1, .ref (a p2), iv p3]) (cQi D g A a b Q) 0 0 A := by
  refine Met.ofW (cc := cX9_occursAmong) (maxL := 5) (ret := (some .boolean)) (by decide) rfl ?_
  intro p e s m args below meth c s₁ B hml hv
  obtain ⟨rfl, hP, hD, hG⟩ := hv
  have X : vC p s m _ meth c D g A RX9 wsX9_occursAmong cX9_occursAmong 5 := ⟨B.exec, B.bytes, findClass_of_methodNamed B.named, atoms_spec (ws := wsX9_occursAmong) B.pre, hG, hml, B.notSynchronized⟩
  have hr := B.returns
  have hl := lv_entry ([.ref (a p0), iv p1, .ref (a p2), iv p3]) (n := 5) (Nat.le_of_ble_eq_true rfl)
  rw [lg_entry_eq]
  generalize (lg_sl ([.ref (a p0), iv p1, .ref (a p2), iv p3]) ++ List.replicate (5 - (lg_sl ([.ref (a p0), iv p1, .ref (a p2), iv p3])).length) Slot.unset).toArray = ls at hl ⊢
  have hl : lv_has ls 5 [(0, .ref (a p0)), (1, iv p1), (2, .ref (a p2)), (3, iv p3)] := hl
  obtain ⟨I3, hw, hI3⟩ := hw
  have K : ∀ n : Nat, (∀ (x4 : Int) (M : Mem), I3 n x4 M → vV p l e ({ frames := 1, cells := 0, slots := 0, locals := 26 } : Room) s m ([.ref (a p0), iv p1, .ref (a p2), iv p3] : List Value).toArray below meth c D g A a b 5 0 0 (MQ below (cQi D g A a b Q) ([.ref (a p0), iv p1, .ref (a p2), iv p3] : List Value).toArray s 0 0 A) M [(0, .ref (a p0)), (1, iv p1), (2, .ref (a p2)), (3, iv p3), (4, iv x4)] 3 []) := by
    intro n
    induction n using Nat.strongRecOn with
    | ind n ih =>
      exact fun x4 M hh => wkh_X9_occursAmong_3 X hr hp0 hp2 (fun _ _ ⟨n1, hn, hh⟩ => (ih n1 hn) _ _ hh) (hI3 n x4 M hh)
  exact wke_X9_occursAmong X hr hp0 hp2 (fun _ _ ⟨n1, hh⟩ => (K n1) _ _ hh) hw s.heap [] ls hP hD va_S.rf hl
