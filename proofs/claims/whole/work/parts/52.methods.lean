set_option maxRecDepth 20000 in
theorem ggX10_similarity_X10_distance : GoodIn wsX10_similarity wsX10_distance := goodIn_r _ [6, 1, 7, 8, 9, 10, 11, 12, 13, 14, 15, 16, 17, 18, 19, 20, 21, 22, 23, 24, 25, 26, 27, 28, 29, 30, 31, 32, 33, 34, 35, 36, 37, 38, 39, 40, 41, 42, 43, 44, 45, 46, 47, 48, 49, 50, 51, 52, 53, 54, 55, 56, 57, 58, 59, 60, 61, 62, 63, 64, 65, 66, 67, 68, 69, 70, 71, 72, 73, 74, 75, 76, 77, 78, 79, 80, 81, 82, 83, 84, 85, 86, 87, 88, 89, 90, 91, 92, 93, 94, 95, 96, 97, 98, 99, 100, 101, 102, 103, 104, 105, 106, 107, 108, 109, 110, 111, 112] (by decide +kernel) (by decide +kernel)
set_option maxRecDepth 20000 in
theorem gX10_similarity_X10_distance : GoodIn wsX10_similarity (wsV RX10 200 RX10 yX10_distance wsX10_distance) := goodIn_app (goodIn_of _ (by decide +kernel)) ggX10_similarity_X10_distance
set_option maxRecDepth 20000 in
theorem ggX10_similarity_X3_withoutPairs : GoodIn wsX10_similarity wsX3_withoutPairs := goodIn_r _ [68, 16, 18, 69, 21, 70, 71, 29, 85, 86, 87, 88, 95, 96, 97, 98, 99, 100] (by decide +kernel) (by decide +kernel)
set_option maxRecDepth 20000 in
theorem gX10_similarity_X3_withoutPairs_n203 : GoodIn wsX10_similarity (wsX3_withoutPairs) := ggX10_similarity_X3_withoutPairs
theorem dX10_similarity_0 : decode cX10_similarity 0 = .ok (.aload_n 0, 1) := by decide +kernel
theorem dX10_similarity_1 : decode cX10_similarity 1 = .ok (.invokevirtual 200, 3) := by decide +kernel
theorem dX10_similarity_4 : decode cX10_similarity 4 = .ok (.istore_n 1, 1) := by decide +kernel
theorem dX10_similarity_5 : decode cX10_similarity 5 = .ok (.aload_n 0, 1) := by decide +kernel
theorem dX10_similarity_6 : decode cX10_similarity 6 = .ok (.getfield 21, 3) := by decide +kernel
theorem dX10_similarity_9 : decode cX10_similarity 9 = .ok (.invokevirtual 203, 3) := by decide +kernel
theorem dX10_similarity_12 : decode cX10_similarity 12 = .ok (.istore_n 2, 1) := by decide +kernel
theorem dX10_similarity_13 : decode cX10_similarity 13 = .ok (.iload_n 2, 1) := by decide +kernel
theorem dX10_similarity_14 : decode cX10_similarity 14 = .ok (.ifCond .ne 5, 3) := by decide +kernel
theorem dX10_similarity_17 : decode cX10_similarity 17 = .ok (.dconst 1, 1) := by decide +kernel
theorem dX10_similarity_18 : decode cX10_similarity 18 = .ok (.dreturn, 1) := by decide +kernel
theorem dX10_similarity_19 : decode cX10_similarity 19 = .ok (.dconst 1, 1) := by decide +kernel
theorem dX10_similarity_20 : decode cX10_similarity 20 = .ok (.iload_n 1, 1) := by decide +kernel
theorem dX10_similarity_21 : decode cX10_similarity 21 = .ok (.i2d, 1) := by decide +kernel
theorem dX10_similarity_22 : decode cX10_similarity 22 = .ok (.iload_n 2, 1) := by decide +kernel
theorem dX10_similarity_23 : decode cX10_similarity 23 = .ok (.i2d, 1) := by decide +kernel
theorem dX10_similarity_24 : decode cX10_similarity 24 = .ok (.ddiv, 1) := by decide +kernel
theorem dX10_similarity_25 : decode cX10_similarity 25 = .ok (.dsub, 1) := by decide +kernel
theorem dX10_similarity_26 : decode cX10_similarity 26 = .ok (.dreturn, 1) := by decide +kernel
theorem lk_X10_similarity_f21 : Cond.fieldLink RX10 21 "TreeComparer" "layout" "LTreeComparer$Layout;" ∈ wsX10_similarity := by decide +kernel
theorem hi_X10_similarity_10 : ∀ w ∈ u_ws RX10 TX10 9, w ∈ wsX10_similarity := by decide +kernel
theorem lk_X10_similarity_i3 : Cond.initialized RX3 ∈ wsX10_similarity := by decide +kernel
theorem lk_X10_similarity_im203 : Cond.instanceMethod yX3_withoutPairs ∈ wsX10_similarity := by decide +kernel
theorem lk_X10_similarity_se203 : Cond.selects RX3 yX3_withoutPairs yX3_withoutPairs ∈ wsX10_similarity := by decide +kernel
def wpe_X10_similarity (M : Mem) (Q : UInt64 → Mem → Prop) : Prop := wp_X10_distance M (fun y1 M2 => wp_X3_withoutPairs M2 (fun y3 M4 => inR y3 ∧ ((y3 ≠ 0 → vf_n64 (FP.ddiv (FP.i2d (Int32.ofInt y1)) (FP.i2d (Int32.ofInt y3))) ∧ vf_n64 (FP.dsub FP.dconst1 (FP.ddiv (FP.i2d (Int32.ofInt y1)) (FP.i2d (Int32.ofInt y3)))) ∧ Q (FP.dsub FP.dconst1 (FP.ddiv (FP.i2d (Int32.ofInt y1)) (FP.i2d (Int32.ofInt y3)))) M4) ∧ (¬ (y3 ≠ 0) → Q FP.dconst1 M4))))
def wp_X10_similarity (M : Mem) (Q : UInt64 → Mem → Prop) : Prop := wpe_X10_similarity M Q
set_option maxHeartbeats 4000000 in
set_option maxRecDepth 100000 in
theorem wke_X10_similarity {p : Program} {l : Launch} {e : Env} {s : State} {m : MethodId} {args : Array Value} {below : List Frame} {meth : Method} {c : Code} {D : va_G} {g : GT} {A : Nat → Prop} {a : Nat → Nat} {b : Nat → Nat → Nat} (X : vC p s m args meth c D g A RX10 wsX10_similarity cX10_similarity 3) (hr : meth.sig.returnType = (some .double)) {M : Mem} {Q : UInt64 → Mem → Prop} (hw : wpe_X10_similarity M Q) : vV p l e ({ frames := 5, cells := 0, slots := 0, locals := 142 } : Room) s m args below meth c D g A a b 3 0 0 (MQ below (cQd D g A a b Q) args s 0 0 A) M [(0, .ref (a 0))] 0 [] := by
  unfold wpe_X10_similarity at hw
  refine V_aload_n X dX10_similarity_0 rfl (q := 0) rfl ?_
  refine V_callV_i X _ gO_0 rfl (As := []) (st := []) (c_X10_distance l hw) (cwV 0 X.2.2.2.1 gX10_similarity_X10_distance rfl rfl rfl (by decide +kernel) ⟨Nat.le_of_ble_eq_true rfl, Nat.le_of_ble_eq_true rfl⟩) rfl (Nat.le_of_ble_eq_true rfl) ⟨Nat.le_of_ble_eq_true rfl, Nat.le_of_ble_eq_true rfl⟩ rfl dX10_similarity_1 (fun y1 M2 hw => ?_)
  refine V_istore_n (lv1 := [(0, .ref (a 0)), (1, iv y1)]) X [1, 0] dX10_similarity_4 rfl (by decide) rfl ?_
  refine V_aload_n X dX10_similarity_5 rfl (q := 0) rfl ?_
  refine V_get (C := RX10) (T := TX10) (N := 9) (ci := 10) X hi_X10_similarity_10 gO_0 rfl 1 (by decide) lk_X10_similarity_f21 (fun _ h9 => h9) rfl dX10_similarity_6 ?_
  refine V_callVN_i X _ gO_2 rfl (As := []) (st := []) (c_X3_withoutPairs l hw) ⟨va_cnB 0 X.2.2.2.1 gX10_similarity_X3_withoutPairs_n203 rfl rfl rfl (X.2.2.2.2.1.2.1 _ (List.mem_of_getElem? (i := 109) rfl)) (X.2.2.2.1 _ lk_X10_similarity_i3) (by decide +kernel) ⟨Nat.le_of_ble_eq_true rfl, Nat.le_of_ble_eq_true rfl⟩, X.2.2.2.1 _ lk_X10_similarity_im203, X.2.2.2.1 _ lk_X10_similarity_se203⟩ rfl (Nat.le_of_ble_eq_true rfl) ⟨Nat.le_of_ble_eq_true rfl, Nat.le_of_ble_eq_true rfl⟩ rfl dX10_similarity_9 (fun y3 M4 hw => ?_)
  refine V_istore_n (lv1 := [(0, .ref (a 0)), (1, iv y1), (2, iv y3)]) X [1, 2, 0] dX10_similarity_12 rfl (by decide) rfl ?_
  refine V_iload_n X dX10_similarity_13 rfl (q := 2) rfl ?_
  obtain ⟨h5, hw⟩ := hw
  refine V_if_ne (tgt := 19) X h5 dX10_similarity_14 (by decide) (fun q6 => ?_) (fun q6 => ?_)
  · have hw := hw.1 q6
    refine V_dconst1 X dX10_similarity_19 ?_
    refine V_iload_n X dX10_similarity_20 rfl (q := 1) rfl ?_
    refine V_i2d X dX10_similarity_21 ?_
    refine V_iload_n X dX10_similarity_22 rfl (q := 2) rfl ?_
    refine V_i2d X dX10_similarity_23 ?_
    obtain ⟨h7, hw⟩ := hw
    refine V_ddiv X h7 dX10_similarity_24 ?_
    obtain ⟨h8, hw⟩ := hw
    refine V_dsub X h8 dX10_similarity_25 ?_
    exact V_dret X hr hw dX10_similarity_26
  · have hw := hw.2 q6
    refine V_dconst1 X dX10_similarity_17 ?_
    exact V_dret X hr hw dX10_similarity_18
set_option maxHeartbeats 4000000 in
set_option maxRecDepth 100000 in
theorem c_X10_similarity (l : Launch) {D : va_G} {g : GT} {A : Nat → Prop} {a : Nat → Nat} {b : Nat → Nat → Nat} {M : Mem} {Q : UInt64 → Mem → Prop} (hw : wp_X10_similarity M Q) : Met l yX10_similarity wsX10_similarity ({ frames := 5, cells := 0, slots := 0, locals := 142 } : Room) (cPc D g A a b M [.ref (a 0)]) (cQd D g A a b Q) 0 0 A := by
  refine Met.ofW (cc := cX10_similarity) (maxL := 3) (ret := (some .double)) (by decide) rfl ?_
  intro p e s m args below meth c s₁ B hml hv
  obtain ⟨rfl, hP, hD, hG⟩ := hv
  have X : vC p s m _ meth c D g A RX10 wsX10_similarity cX10_similarity 3 := ⟨B.exec, B.bytes, findClass_of_methodNamed B.named, atoms_spec (ws := wsX10_similarity) B.pre, hG, hml, B.notSynchronized⟩
  have hr := B.returns
  have hl := lv_entry ([.ref (a 0)]) (n := 3) (Nat.le_of_ble_eq_true rfl)
  rw [lg_entry_eq]
  generalize (lg_sl ([.ref (a 0)]) ++ List.replicate (3 - (lg_sl ([.ref (a 0)])).length) Slot.unset).toArray = ls at hl ⊢
  have hl : lv_has ls 3 [(0, .ref (a 0))] := hl
  exact wke_X10_similarity X hr  hw s.heap [] ls hP hD va_S.rf hl

set_option maxRecDepth 20000 in
theorem ggX11_similarity_X11_deletingAll : GoodIn wsX11_similarity wsX11_deletingAll := goodIn_r _ [7, 8, 9, 10, 6, 11, 12, 13, 49, 50, 51, 52, 53, 54, 55, 56, 57, 58, 59, 60, 61, 62, 63, 64, 65, 66, 67, 68, 69, 70, 71, 72] (by decide +kernel) (by decide +kernel)
set_option maxRecDepth 20000 in
theorem gX11_similarity_X11_deletingAll : GoodIn wsX11_similarity (wsV RX11 150 RX11 yX11_deletingAll wsX11_deletingAll) := goodIn_app (goodIn_of _ (by decide +kernel)) ggX11_similarity_X11_deletingAll
set_option maxRecDepth 20000 in
theorem ggX11_similarity_X11_inserting : GoodIn wsX11_similarity wsX11_inserting := goodIn_r _ [17, 8, 9, 10, 6, 11, 12, 13, 49, 50, 51, 52, 53, 54, 55, 56, 57, 58, 59, 60, 61, 62, 63, 64, 65, 66, 67, 68, 69, 70, 71, 72] (by decide +kernel) (by decide +kernel)
set_option maxRecDepth 20000 in
theorem gX11_similarity_X11_inserting : GoodIn wsX11_similarity (wsV RX11 147 RX11 yX11_inserting wsX11_inserting) := goodIn_app (goodIn_of _ (by decide +kernel)) ggX11_similarity_X11_inserting
set_option maxRecDepth 20000 in
theorem ggX11_similarity_X11_fills : GoodIn wsX11_similarity wsX11_fills := goodIn_r _ [21, 2, 22, 23, 24, 25, 26, 6, 27, 28, 29, 30, 31, 32, 33, 34, 35, 36, 8, 9, 10, 11, 12, 13, 37, 38, 39, 40, 41, 42, 43, 44, 45, 46, 47, 48, 49, 50, 51, 52, 53, 54, 55, 56, 57, 58, 59, 60, 61, 62, 63, 64, 65, 66, 67, 68, 69, 70, 71, 72] (by decide +kernel) (by decide +kernel)
set_option maxRecDepth 20000 in
theorem gX11_similarity_X11_fills : GoodIn wsX11_similarity (wsV RX11 140 RX11 yX11_fills wsX11_fills) := goodIn_app (goodIn_of _ (by decide +kernel)) ggX11_similarity_X11_fills
theorem dX11_similarity_0 : decode cX11_similarity 0 = .ok (.aload_n 0, 1) := by decide +kernel
theorem dX11_similarity_1 : decode cX11_similarity 1 = .ok (.iconst 0, 1) := by decide +kernel
theorem dX11_similarity_2 : decode cX11_similarity 2 = .ok (.putfield 72, 3) := by decide +kernel
theorem dX11_similarity_5 : decode cX11_similarity 5 = .ok (.aload_n 0, 1) := by decide +kernel
theorem dX11_similarity_6 : decode cX11_similarity 6 = .ok (.iconst 0, 1) := by decide +kernel
theorem dX11_similarity_7 : decode cX11_similarity 7 = .ok (.aload_n 0, 1) := by decide +kernel
theorem dX11_similarity_8 : decode cX11_similarity 8 = .ok (.getfield 25, 3) := by decide +kernel
theorem dX11_similarity_11 : decode cX11_similarity 11 = .ok (.iconst 0, 1) := by decide +kernel
theorem dX11_similarity_12 : decode cX11_similarity 12 = .ok (.iaload, 1) := by decide +kernel
theorem dX11_similarity_13 : decode cX11_similarity 13 = .ok (.invokevirtual 150, 3) := by decide +kernel
theorem dX11_similarity_16 : decode cX11_similarity 16 = .ok (.aload_n 0, 1) := by decide +kernel
theorem dX11_similarity_17 : decode cX11_similarity 17 = .ok (.iconst 0, 1) := by decide +kernel
theorem dX11_similarity_18 : decode cX11_similarity 18 = .ok (.aload_n 0, 1) := by decide +kernel
theorem dX11_similarity_19 : decode cX11_similarity 19 = .ok (.getfield 25, 3) := by decide +kernel
theorem dX11_similarity_22 : decode cX11_similarity 22 = .ok (.iconst 1, 1) := by decide +kernel
theorem dX11_similarity_23 : decode cX11_similarity 23 = .ok (.iaload, 1) := by decide +kernel
theorem dX11_similarity_24 : decode cX11_similarity 24 = .ok (.invokevirtual 147, 3) := by decide +kernel
theorem dX11_similarity_27 : decode cX11_similarity 27 = .ok (.iadd, 1) := by decide +kernel
theorem dX11_similarity_28 : decode cX11_similarity 28 = .ok (.istore_n 1, 1) := by decide +kernel
theorem dX11_similarity_29 : decode cX11_similarity 29 = .ok (.iload_n 1, 1) := by decide +kernel
theorem dX11_similarity_30 : decode cX11_similarity 30 = .ok (.ifCond .ne 7, 3) := by decide +kernel
theorem dX11_similarity_33 : decode cX11_similarity 33 = .ok (.dconst 1, 1) := by decide +kernel
theorem dX11_similarity_34 : decode cX11_similarity 34 = .ok (.goto 15, 3) := by decide +kernel
theorem dX11_similarity_37 : decode cX11_similarity 37 = .ok (.dconst 1, 1) := by decide +kernel
theorem dX11_similarity_38 : decode cX11_similarity 38 = .ok (.aload_n 0, 1) := by decide +kernel
theorem dX11_similarity_39 : decode cX11_similarity 39 = .ok (.iconst (-1), 1) := by decide +kernel
theorem dX11_similarity_40 : decode cX11_similarity 40 = .ok (.iconst (-1), 1) := by decide +kernel
theorem dX11_similarity_41 : decode cX11_similarity 41 = .ok (.invokevirtual 140, 3) := by decide +kernel
theorem dX11_similarity_44 : decode cX11_similarity 44 = .ok (.i2d, 1) := by decide +kernel
theorem dX11_similarity_45 : decode cX11_similarity 45 = .ok (.iload_n 1, 1) := by decide +kernel
theorem dX11_similarity_46 : decode cX11_similarity 46 = .ok (.i2d, 1) := by decide +kernel
theorem dX11_similarity_47 : decode cX11_similarity 47 = .ok (.ddiv, 1) := by decide +kernel
theorem dX11_similarity_48 : decode cX11_similarity 48 = .ok (.dsub, 1) := by decide +kernel
theorem dX11_similarity_49 : decode cX11_similarity 49 = .ok (.dreturn, 1) := by decide +kernel
theorem lk_X11_similarity_f72 : Cond.fieldLink RX11 72 "TreeComparerModel" "thrown" "I" ∈ wsX11_similarity := by decide +kernel
theorem hi_X11_similarity_11 : ∀ w ∈ u_ws RX11 TX11 24, w ∈ wsX11_similarity := by decide +kernel
theorem lk_X11_similarity_f25 : Cond.fieldLink RX11 25 "TreeComparerModel" "many" "[I" ∈ wsX11_similarity := by decide +kernel
def wpe_X11_similarity (M : Mem) (Q : UInt64 → Mem → Prop) : Prop := (∀ M1 : Mem, M1 = mset M 13 23 0 0 → wp_X11_deletingAll M1 0 ((M1 13 5 0)) (fun y2 M3 => wp_X11_inserting M3 0 ((M3 13 5 1)) (fun y4 M5 => (∀ y6 : Int, y6 = y2 + y4 → inR y6 ∧ ((y6 ≠ 0 → wp_X11_fills M5 (-1) (-1) (fun y9 M10 => vf_n64 (FP.ddiv (FP.i2d (Int32.ofInt y9)) (FP.i2d (Int32.ofInt y6))) ∧ vf_n64 (FP.dsub FP.dconst1 (FP.ddiv (FP.i2d (Int32.ofInt y9)) (FP.i2d (Int32.ofInt y6)))) ∧ Q (FP.dsub FP.dconst1 (FP.ddiv (FP.i2d (Int32.ofInt y9)) (FP.i2d (Int32.ofInt y6)))) M10)) ∧ (¬ (y6 ≠ 0) → Q FP.dconst1 M5))))))
def wp_X11_similarity (M : Mem) (Q : UInt64 → Mem → Prop) : Prop := wpe_X11_similarity M Q
set_option maxHeartbeats 4000000 in
set_option maxRecDepth 100000 in
theorem wke_X11_similarity {p : Program} {l : Launch} {e : Env} {s : State} {m : MethodId} {args : Array Value} {below : List Frame} {meth : Method} {c : Code} {D : va_G} {g : GT} {A : Nat → Prop} {a : Nat → Nat} {b : Nat → Nat → Nat} (X : vC p s m args meth c D g A RX11 wsX11_similarity cX11_similarity 2) (hr : meth.sig.returnType = (some .double)) {M : Mem} {Q : UInt64 → Mem → Prop} (hw : wpe_X11_similarity M Q) : vV p l e ({ frames := 4, cells := 0, slots := 0, locals := 100 } : Room) s m args below meth c D g A a b 2 0 0 (MQ below (cQd D g A a b Q) args s 0 0 A) M [(0, .ref (a 13))] 0 [] := by
  unfold wpe_X11_similarity at hw
  refine V_aload_n X dX11_similarity_0 rfl (q := 0) rfl ?_
  refine V_iconst X dX11_similarity_1 ?_
  refine V_put (C := RX11) (T := TX11) (N := 24) (ci := 11) X hi_X11_similarity_11 gO_13 rfl 23 (by decide) tyX11 tyX11_ok nmX11 rfl (tyX11_ok 23 (by decide)) (Or.inl rfl) (show 23 < 24 from by decide) sI_13_23 lk_X11_similarity_f72 (fun _ h9 => h9) dX11_similarity_2 (fun M1 eM1 => ?_)
  have hw := hw M1 eM1
  refine V_aload_n X dX11_similarity_5 rfl (q := 0) rfl ?_
  refine V_iconst X dX11_similarity_6 ?_
  refine V_aload_n X dX11_similarity_7 rfl (q := 0) rfl ?_
  refine V_get (C := RX11) (T := TX11) (N := 24) (ci := 11) X hi_X11_similarity_11 gO_13 rfl 5 (by decide) lk_X11_similarity_f25 (fun _ h9 => h9) rfl dX11_similarity_8 ?_
  refine V_iconst X dX11_similarity_11 ?_
  refine V_iald X (gA_13_5) ⟨by decide, by decide⟩ (by decide) dX11_similarity_12 ?_
  refine V_callV_i X _ gO_13 rfl (As := [iv 0, iv ((M1 13 5 0))]) (st := []) (c_X11_deletingAll l hw) (cwV 2 X.2.2.2.1 gX11_similarity_X11_deletingAll rfl rfl rfl (by decide +kernel) ⟨Nat.le_of_ble_eq_true rfl, Nat.le_of_ble_eq_true rfl⟩) rfl (Nat.le_of_ble_eq_true rfl) ⟨Nat.le_of_ble_eq_true rfl, Nat.le_of_ble_eq_true rfl⟩ rfl dX11_similarity_13 (fun y2 M3 hw => ?_)
  refine V_aload_n X dX11_similarity_16 rfl (q := 0) rfl ?_
  refine V_iconst X dX11_similarity_17 ?_
  refine V_aload_n X dX11_similarity_18 rfl (q := 0) rfl ?_
  refine V_get (C := RX11) (T := TX11) (N := 24) (ci := 11) X hi_X11_similarity_11 gO_13 rfl 5 (by decide) lk_X11_similarity_f25 (fun _ h9 => h9) rfl dX11_similarity_19 ?_
  refine V_iconst X dX11_similarity_22 ?_
  refine V_iald X (gA_13_5) ⟨by decide, by decide⟩ (by decide) dX11_similarity_23 ?_
  refine V_callV_i X _ gO_13 rfl (As := [iv 0, iv ((M3 13 5 1))]) (st := [iv y2]) (c_X11_inserting l hw) (cwV 2 X.2.2.2.1 gX11_similarity_X11_inserting rfl rfl rfl (by decide +kernel) ⟨Nat.le_of_ble_eq_true rfl, Nat.le_of_ble_eq_true rfl⟩) rfl (Nat.le_of_ble_eq_true rfl) ⟨Nat.le_of_ble_eq_true rfl, Nat.le_of_ble_eq_true rfl⟩ rfl dX11_similarity_24 (fun y4 M5 hw => ?_)
  refine V_iadd X dX11_similarity_27 ?_
  refine V_top (fun y6 ey6 => ?_)
  have hw := hw y6 ey6
  refine V_istore_n (lv1 := [(0, .ref (a 13)), (1, iv y6)]) X [1, 0] dX11_similarity_28 rfl (by decide) rfl ?_
  refine V_iload_n X dX11_similarity_29 rfl (q := 1) rfl ?_
  obtain ⟨h7, hw⟩ := hw
  refine V_if_ne (tgt := 37) X h7 dX11_similarity_30 (by decide) (fun q8 => ?_) (fun q8 => ?_)
  · have hw := hw.1 q8
    refine V_dconst1 X dX11_similarity_37 ?_
    refine V_aload_n X dX11_similarity_38 rfl (q := 0) rfl ?_
    refine V_iconst X dX11_similarity_39 ?_
    refine V_iconst X dX11_similarity_40 ?_
    refine V_callV_i X _ gO_13 rfl (As := [iv (-1), iv (-1)]) (st := [.double FP.dconst1]) (c_X11_fills l hw) (cwV 2 X.2.2.2.1 gX11_similarity_X11_fills rfl rfl rfl (by decide +kernel) ⟨Nat.le_of_ble_eq_true rfl, Nat.le_of_ble_eq_true rfl⟩) rfl (Nat.le_of_ble_eq_true rfl) ⟨Nat.le_of_ble_eq_true rfl, Nat.le_of_ble_eq_true rfl⟩ rfl dX11_similarity_41 (fun y9 M10 hw => ?_)
    refine V_i2d X dX11_similarity_44 ?_
    refine V_iload_n X dX11_similarity_45 rfl (q := 1) rfl ?_
    refine V_i2d X dX11_similarity_46 ?_
    obtain ⟨h11, hw⟩ := hw
    refine V_ddiv X h11 dX11_similarity_47 ?_
    obtain ⟨h12, hw⟩ := hw
    refine V_dsub X h12 dX11_similarity_48 ?_
    exact V_dret X hr hw dX11_similarity_49
  · have hw := hw.2 q8
    refine V_dconst1 X dX11_similarity_33 ?_
    refine V_goto (tgt := 49) X dX11_similarity_34 (by decide) ?_
    exact V_dret X hr hw dX11_similarity_49
set_option maxHeartbeats 4000000 in
set_option maxRecDepth 100000 in
theorem c_X11_similarity (l : Launch) {D : va_G} {g : GT} {A : Nat → Prop} {a : Nat → Nat} {b : Nat → Nat → Nat} {M : Mem} {Q : UInt64 → Mem → Prop} (hw : wp_X11_similarity M Q) : Met l yX11_similarity wsX11_similarity ({ frames := 4, cells := 0, slots := 0, locals := 100 } : Room) (cPc D g A a b M [.ref (a 13)]) (cQd D g A a b Q) 0 0 A := by
  refine Met.ofW (cc := cX11_similarity) (maxL := 2) (ret := (some .double)) (by decide) rfl ?_
  intro p e s m args below meth c s₁ B hml hv
  obtain ⟨rfl, hP, hD, hG⟩ := hv
  have X : vC p s m _ meth c D g A RX11 wsX11_similarity cX11_similarity 2 := ⟨B.exec, B.bytes, findClass_of_methodNamed B.named, atoms_spec (ws := wsX11_similarity) B.pre, hG, hml, B.notSynchronized⟩
  have hr := B.returns
  have hl := lv_entry ([.ref (a 13)]) (n := 2) (Nat.le_of_ble_eq_true rfl)
  rw [lg_entry_eq]
  generalize (lg_sl ([.ref (a 13)]) ++ List.replicate (2 - (lg_sl ([.ref (a 13)])).length) Slot.unset).toArray = ls at hl ⊢
  have hl : lv_has ls 2 [(0, .ref (a 13))] := hl
  exact wke_X11_similarity X hr  hw s.heap [] ls hP hD va_S.rf hl
