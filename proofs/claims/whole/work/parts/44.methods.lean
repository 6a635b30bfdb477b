set_option maxRecDepth 20000 in
theorem ggX11_partnerOf_X11_isNode : GoodIn wsX11_partnerOf wsX11_isNode := goodIn_r _ [7, 8, 9, 10, 6, 11, 12, 13, 14, 83, 84, 85, 86, 87, 88, 89, 90, 91, 92, 93, 94, 95, 96, 97, 98, 99, 100, 101, 102, 103, 104, 105, 106] (by decide +kernel) (by decide +kernel)
set_option maxRecDepth 20000 in
theorem gX11_partnerOf_X11_isNode : GoodIn wsX11_partnerOf (wsV RX11 98 RX11 yX11_isNode wsX11_isNode) := goodIn_app (goodIn_of _ (by decide +kernel)) ggX11_partnerOf_X11_isNode
set_option maxRecDepth 20000 in
theorem ggX11_partnerOf_X11_goes : GoodIn wsX11_partnerOf wsX11_goes := goodIn_r _ [18, 19, 83, 84, 85, 86, 87, 88, 89, 90, 91, 92, 93, 94, 95, 96, 97, 98, 99, 100, 101, 102, 103, 104, 105, 106] (by decide +kernel) (by decide +kernel)
set_option maxRecDepth 20000 in
theorem gX11_partnerOf_X11_goes : GoodIn wsX11_partnerOf (wsV RX11 87 RX11 yX11_goes wsX11_goes) := goodIn_app (goodIn_of _ (by decide +kernel)) ggX11_partnerOf_X11_goes
set_option maxRecDepth 20000 in
theorem ggX11_partnerOf_X11_maps : GoodIn wsX11_partnerOf wsX11_maps := goodIn_r _ [23, 24, 25, 26, 27, 6, 28, 8, 29, 30, 31, 32, 33, 34, 35, 36, 37, 38, 39, 40, 41, 42, 43, 44, 45, 46, 47, 48, 49, 50, 51, 52, 53, 54, 55, 56, 57, 58, 59, 60, 61, 62, 63, 64, 65, 66, 1, 67, 68, 69, 70, 71, 72, 73, 74, 75, 76, 77, 78, 83, 84, 85, 86, 87, 88, 89, 90, 91, 92, 93, 94, 95, 96, 97, 98, 99, 100, 101, 102, 103, 104, 105, 106] (by decide +kernel) (by decide +kernel)
set_option maxRecDepth 20000 in
theorem gX11_partnerOf_X11_maps : GoodIn wsX11_partnerOf (wsV RX11 166 RX11 yX11_maps wsX11_maps) := goodIn_app (goodIn_of _ (by decide +kernel)) ggX11_partnerOf_X11_maps
set_option maxRecDepth 20000 in
theorem ggX11_partnerOf_X11_place : GoodIn wsX11_partnerOf wsX11_place := goodIn_r _ [82, 2, 83, 84, 85, 86, 87, 88, 89, 90, 91, 92, 93, 94, 95, 96, 97, 98, 99, 100, 101, 102, 103, 104, 105, 106] (by decide +kernel) (by decide +kernel)
set_option maxRecDepth 20000 in
theorem gX11_partnerOf_X11_place : GoodIn wsX11_partnerOf (wsV RX11 102 RX11 yX11_place wsX11_place) := goodIn_app (goodIn_of _ (by decide +kernel)) ggX11_partnerOf_X11_place
theorem dX11_partnerOf_0 : decode cX11_partnerOf 0 = .ok (.aload_n 0, 1) := by decide +kernel
theorem dX11_partnerOf_1 : decode cX11_partnerOf 1 = .ok (.aload_n 0, 1) := by decide +kernel
theorem dX11_partnerOf_2 : decode cX11_partnerOf 2 = .ok (.iconst 0, 1) := by decide +kernel
theorem dX11_partnerOf_3 : decode cX11_partnerOf 3 = .ok (.iload_n 1, 1) := by decide +kernel
theorem dX11_partnerOf_4 : decode cX11_partnerOf 4 = .ok (.invokevirtual 98, 3) := by decide +kernel
theorem dX11_partnerOf_7 : decode cX11_partnerOf 7 = .ok (.iconst 1, 1) := by decide +kernel
theorem dX11_partnerOf_8 : decode cX11_partnerOf 8 = .ok (.iconst 1, 1) := by decide +kernel
theorem dX11_partnerOf_9 : decode cX11_partnerOf 9 = .ok (.invokevirtual 87, 3) := by decide +kernel
theorem dX11_partnerOf_12 : decode cX11_partnerOf 12 = .ok (.ifCond .ne 5, 3) := by decide +kernel
theorem dX11_partnerOf_15 : decode cX11_partnerOf 15 = .ok (.iconst 0, 1) := by decide +kernel
theorem dX11_partnerOf_16 : decode cX11_partnerOf 16 = .ok (.ireturn, 1) := by decide +kernel
theorem dX11_partnerOf_17 : decode cX11_partnerOf 17 = .ok (.aload_n 0, 1) := by decide +kernel
theorem dX11_partnerOf_18 : decode cX11_partnerOf 18 = .ok (.invokevirtual 166, 3) := by decide +kernel
theorem dX11_partnerOf_21 : decode cX11_partnerOf 21 = .ok (.istore_n 2, 1) := by decide +kernel
theorem dX11_partnerOf_22 : decode cX11_partnerOf 22 = .ok (.aload_n 0, 1) := by decide +kernel
theorem dX11_partnerOf_23 : decode cX11_partnerOf 23 = .ok (.getfield 38, 3) := by decide +kernel
theorem dX11_partnerOf_26 : decode cX11_partnerOf 26 = .ok (.aload_n 0, 1) := by decide +kernel
theorem dX11_partnerOf_27 : decode cX11_partnerOf 27 = .ok (.iconst 0, 1) := by decide +kernel
theorem dX11_partnerOf_28 : decode cX11_partnerOf 28 = .ok (.iload_n 1, 1) := by decide +kernel
theorem dX11_partnerOf_29 : decode cX11_partnerOf 29 = .ok (.invokevirtual 102, 3) := by decide +kernel
theorem dX11_partnerOf_32 : decode cX11_partnerOf 32 = .ok (.iaload, 1) := by decide +kernel
theorem dX11_partnerOf_33 : decode cX11_partnerOf 33 = .ok (.istore_n 3, 1) := by decide +kernel
theorem dX11_partnerOf_34 : decode cX11_partnerOf 34 = .ok (.iload_n 3, 1) := by decide +kernel
theorem dX11_partnerOf_35 : decode cX11_partnerOf 35 = .ok (.iconst (-1), 1) := by decide +kernel
theorem dX11_partnerOf_36 : decode cX11_partnerOf 36 = .ok (.if_icmp .ne 7, 3) := by decide +kernel
theorem dX11_partnerOf_39 : decode cX11_partnerOf 39 = .ok (.iconst (-1), 1) := by decide +kernel
theorem dX11_partnerOf_40 : decode cX11_partnerOf 40 = .ok (.goto 12, 3) := by decide +kernel
theorem dX11_partnerOf_43 : decode cX11_partnerOf 43 = .ok (.aload_n 0, 1) := by decide +kernel
theorem dX11_partnerOf_44 : decode cX11_partnerOf 44 = .ok (.getfield 7, 3) := by decide +kernel
theorem dX11_partnerOf_47 : decode cX11_partnerOf 47 = .ok (.bipush 12, 2) := by decide +kernel
theorem dX11_partnerOf_49 : decode cX11_partnerOf 49 = .ok (.iload_n 3, 1) := by decide +kernel
theorem dX11_partnerOf_50 : decode cX11_partnerOf 50 = .ok (.iadd, 1) := by decide +kernel
theorem dX11_partnerOf_51 : decode cX11_partnerOf 51 = .ok (.iaload, 1) := by decide +kernel
theorem dX11_partnerOf_52 : decode cX11_partnerOf 52 = .ok (.ireturn, 1) := by decide +kernel
theorem lk_X11_partnerOf_f38 : Cond.fieldLink RX11 38 "TreeComparerModel" "partner" "[I" ∈ wsX11_partnerOf := by decide +kernel
theorem hi_X11_partnerOf_11 : ∀ w ∈ u_ws RX11 TX11 24, w ∈ wsX11_partnerOf := by decide +kernel
theorem lk_X11_partnerOf_f7 : Cond.fieldLink RX11 7 "TreeComparerModel" "node" "[I" ∈ wsX11_partnerOf := by decide +kernel
def wpe_X11_partnerOf (p0 : Int) (M : Mem) (Q : Int → Mem → Prop) : Prop := wp_X11_isNode M 0 p0 (fun y1 M2 => wp_X11_goes M2 y1 1 1 (fun y3 M4 => inR y3 ∧ ((y3 ≠ 0 → wp_X11_maps M4 (fun y7 M8 => wp_X11_place M8 0 p0 (fun y9 M10 => ((0 : Int) ≤ y9 ∧ y9 < 12) ∧ (∀ y12 : Int, y12 = (M10 13 9 y9.toNat) → inR y12 ∧ ((y12 ≠ (-1) → ((0 : Int) ≤ 12 + y12 ∧ 12 + y12 < 24) ∧ Q ((M10 13 0 (12 + y12).toNat)) M10) ∧ (¬ (y12 ≠ (-1)) → Q (-1) M10)))))) ∧ (¬ (y3 ≠ 0) → Q 0 M4))))
def wp_X11_partnerOf (M : Mem) (p0 : Int) (Q : Int → Mem → Prop) : Prop := wpe_X11_partnerOf p0 M Q
set_option maxHeartbeats 4000000 in
set_option maxRecDepth 100000 in
theorem wke_X11_partnerOf {p : Program} {l : Launch} {e : Env} {s : State} {m : MethodId} {args : Array Value} {below : List Frame} {meth : Method} {c : Code} {D : va_G} {g : GT} {A : Nat → Prop} {a : Nat → Nat} {b : Nat → Nat → Nat} (X : vC p s m args meth c D g A RX11 wsX11_partnerOf cX11_partnerOf 4) (hr : meth.sig.returnType = (some .int)) {p0 : Int} {M : Mem} {Q : Int → Mem → Prop} (hw : wpe_X11_partnerOf p0 M Q) : vV p l e ({ frames := 5, cells := 0, slots := 0, locals := 126 } : Room) s m args below meth c D g A a b 4 0 0 (MQ below (cQi D g A a b Q) args s 0 0 A) M [(0, .ref (a 13)), (1, iv p0)] 0 [] := by
  unfold wpe_X11_partnerOf at hw
  refine V_aload_n X dX11_partnerOf_0 rfl (q := 0) rfl ?_
  refine V_aload_n X dX11_partnerOf_1 rfl (q := 0) rfl ?_
  refine V_iconst X dX11_partnerOf_2 ?_
  refine V_iload_n X dX11_partnerOf_3 rfl (q := 1) rfl ?_
  refine V_callV_i X _ gO_13 rfl (As := [iv 0, iv p0]) (st := [.ref (a 13)]) (c_X11_isNode l hw) (cwV 2 X.2.2.2.1 gX11_partnerOf_X11_isNode rfl rfl rfl (by decide +kernel) ⟨Nat.le_of_ble_eq_true rfl, Nat.le_of_ble_eq_true rfl⟩) rfl (Nat.le_of_ble_eq_true rfl) ⟨Nat.le_of_ble_eq_true rfl, Nat.le_of_ble_eq_true rfl⟩ rfl dX11_partnerOf_4 (fun y1 M2 hw => ?_)
  refine V_iconst X dX11_partnerOf_7 ?_
  refine V_iconst X dX11_partnerOf_8 ?_
  refine V_callV_i X _ gO_13 rfl (As := [iv y1, iv 1, iv 1]) (st := []) (c_X11_goes l hw) (cwV 3 X.2.2.2.1 gX11_partnerOf_X11_goes rfl rfl rfl (by decide +kernel) ⟨Nat.le_of_ble_eq_true rfl, Nat.le_of_ble_eq_true rfl⟩) rfl (Nat.le_of_ble_eq_true rfl) ⟨Nat.le_of_ble_eq_true rfl, Nat.le_of_ble_eq_true rfl⟩ rfl dX11_partnerOf_9 (fun y3 M4 hw => ?_)
  obtain ⟨h5, hw⟩ := hw
  refine V_if_ne (tgt := 17) X h5 dX11_partnerOf_12 (by decide) (fun q6 => ?_) (fun q6 => ?_)
  · have hw := hw.1 q6
    refine V_aload_n X dX11_partnerOf_17 rfl (q := 0) rfl ?_
    refine V_callV_i X _ gO_13 rfl (As := []) (st := []) (c_X11_maps l hw) (cwV 0 X.2.2.2.1 gX11_partnerOf_X11_maps rfl rfl rfl (by decide +kernel) ⟨Nat.le_of_ble_eq_true rfl, Nat.le_of_ble_eq_true rfl⟩) rfl (Nat.le_of_ble_eq_true rfl) ⟨Nat.le_of_ble_eq_true rfl, Nat.le_of_ble_eq_true rfl⟩ rfl dX11_partnerOf_18 (fun y7 M8 hw => ?_)
    refine V_istore_n (lv1 := [(0, .ref (a 13)), (1, iv p0), (2, iv y7)]) X [1, 2, 0] dX11_partnerOf_21 rfl (by decide) rfl ?_
    refine V_aload_n X dX11_partnerOf_22 rfl (q := 0) rfl ?_
    refine V_get (C := RX11) (T := TX11) (N := 24) (ci := 11) X hi_X11_partnerOf_11 gO_13 rfl 9 (by decide) lk_X11_partnerOf_f38 (fun _ h9 => h9) rfl dX11_partnerOf_23 ?_
    refine V_aload_n X dX11_partnerOf_26 rfl (q := 0) rfl ?_
    refine V_iconst X dX11_partnerOf_27 ?_
    refine V_iload_n X dX11_partnerOf_28 rfl (q := 1) rfl ?_
    refine V_callV_i X _ gO_13 rfl (As := [iv 0, iv p0]) (st := [.ref (b 13 9)]) (c_X11_place l hw) (cwV 2 X.2.2.2.1 gX11_partnerOf_X11_place rfl rfl rfl (by decide +kernel) ⟨Nat.le_of_ble_eq_true rfl, Nat.le_of_ble_eq_true rfl⟩) rfl (Nat.le_of_ble_eq_true rfl) ⟨Nat.le_of_ble_eq_true rfl, Nat.le_of_ble_eq_true rfl⟩ rfl dX11_partnerOf_29 (fun y9 M10 hw => ?_)
    obtain ⟨h11, hw⟩ := hw
    refine V_iald X (gA_13_9) h11 (by decide) dX11_partnerOf_32 ?_
    refine V_top (fun y12 ey12 => ?_)
    have hw := hw y12 ey12
    refine V_istore_n (lv1 := [(0, .ref (a 13)), (1, iv p0), (2, iv y7), (3, iv y12)]) X [1, 2, 3, 0] dX11_partnerOf_33 rfl (by decide) rfl ?_
    refine V_iload_n X dX11_partnerOf_34 rfl (q := 3) rfl ?_
    refine V_iconst X dX11_partnerOf_35 ?_
    obtain ⟨h13, hw⟩ := hw
    refine V_icmp_ne (tgt := 43) X h13 ⟨by decide, by decide⟩ dX11_partnerOf_36 (by decide) (fun q14 => ?_) (fun q14 => ?_)
    · have hw := hw.1 q14
      refine V_aload_n X dX11_partnerOf_43 rfl (q := 0) rfl ?_
      refine V_get (C := RX11) (T := TX11) (N := 24) (ci := 11) X hi_X11_partnerOf_11 gO_13 rfl 0 (by decide) lk_X11_partnerOf_f7 (fun _ h9 => h9) rfl dX11_partnerOf_44 ?_
      refine V_bipush X dX11_partnerOf_47 rfl ?_
      refine V_iload_n X dX11_partnerOf_49 rfl (q := 3) rfl ?_
      refine V_iadd X dX11_partnerOf_50 ?_
      obtain ⟨h15, hw⟩ := hw
      refine V_iald X (gA_13_0) h15 (by decide) dX11_partnerOf_51 ?_
      exact V_iret X hr hw dX11_partnerOf_52
    · have hw := hw.2 q14
      refine V_iconst X dX11_partnerOf_39 ?_
      refine V_goto (tgt := 52) X dX11_partnerOf_40 (by decide) ?_
      exact V_iret X hr hw dX11_partnerOf_52
  · have hw := hw.2 q6
    refine V_iconst X dX11_partnerOf_15 ?_
    exact V_iret X hr hw dX11_partnerOf_16
set_option maxHeartbeats 4000000 in
set_option maxRecDepth 100000 in
theorem c_X11_partnerOf (l : Launch) {p0 : Int} {D : va_G} {g : GT} {A : Nat → Prop} {a : Nat → Nat} {b : Nat → Nat → Nat} {M : Mem} {Q : Int → Mem → Prop} (hw : wp_X11_partnerOf M p0 Q) : Met l yX11_partnerOf wsX11_partnerOf ({ frames := 5, cells := 0, slots := 0, locals := 126 } : Room) (cPc D g A a b M [.ref (a 13), iv p0]) (cQi D g A a b Q) 0 0 A := by
  refine Met.ofW (cc := cX11_partnerOf) (maxL := 4) (ret := (some .int)) (by decide) rfl ?_
  intro p e s m args below meth c s₁ B hml hv
  obtain ⟨rfl, hP, hD, hG⟩ := hv
  have X : vC p s m _ meth c D g A RX11 wsX11_partnerOf cX11_partnerOf 4 := ⟨B.exec, B.bytes, findClass_of_methodNamed B.named, atoms_spec (ws := wsX11_partnerOf) B.pre, hG, hml, B.notSynchronized⟩
  have hr := B.returns
  have hl := lv_entry ([.ref (a 13), iv p0]) (n := 4) (Nat.le_of_ble_eq_true rfl)
  rw [lg_entry_eq]
  generalize (lg_sl ([.ref (a 13), iv p0]) ++ List.replicate (4 - (lg_sl ([.ref (a 13), iv p0])).length) Slot.unset).toArray = ls at hl ⊢
  have hl : lv_has ls 4 [(0, .ref (a 13)), (1, iv p0)] := hl
  exact wke_X11_partnerOf X hr  hw s.heap [] ls hP hD va_S.rf hl

set_option maxRecDepth 20000 in
theorem ggX11_moves_X11_maps : GoodIn wsX11_moves wsX11_maps := goodIn_r _ [8, 9, 10, 11, 12, 7, 13, 2, 14, 15, 16, 17, 18, 19, 20, 21, 22, 23, 24, 25, 26, 27, 28, 29, 30, 31, 32, 33, 34, 35, 36, 37, 38, 39, 40, 41, 42, 43, 44, 45, 46, 47, 48, 49, 50, 51, 52, 53, 54, 55, 56, 57, 58, 59, 60, 61, 62, 63, 64, 83, 84, 85, 86, 87, 88, 89, 90, 91, 92, 93, 94, 95, 96, 97, 98, 99, 100, 101, 102, 103, 104, 105, 106] (by decide +kernel) (by decide +kernel)
set_option maxRecDepth 20000 in
theorem gX11_moves_X11_maps : GoodIn wsX11_moves (wsV RX11 166 RX11 yX11_maps wsX11_maps) := goodIn_app (goodIn_of _ (by decide +kernel)) ggX11_moves_X11_maps
set_option maxRecDepth 20000 in
theorem ggX11_moves_X11_travels : GoodIn wsX11_moves wsX11_travels := goodIn_r _ [68, 69, 3, 2, 21, 70, 71, 72, 73, 7, 74, 9, 52, 75, 76, 77, 78, 34, 46, 20, 79, 80, 81, 82, 29, 30, 31, 32, 33, 61, 62, 63, 64, 83, 84, 85, 86, 87, 88, 89, 90, 91, 92, 93, 94, 95, 96, 97, 98, 99, 100, 101, 102, 103, 104, 105, 106] (by decide +kernel) (by decide +kernel)
set_option maxRecDepth 20000 in
theorem gX11_moves_X11_travels : GoodIn wsX11_moves (wsV RX11 204 RX11 yX11_travels wsX11_travels) := goodIn_app (goodIn_of _ (by decide +kernel)) ggX11_moves_X11_travels
theorem dX11_moves_0 : decode cX11_moves 0 = .ok (.aload_n 0, 1) := by decide +kernel
theorem dX11_moves_1 : decode cX11_moves 1 = .ok (.iconst 0, 1) := by decide +kernel
theorem dX11_moves_2 : decode cX11_moves 2 = .ok (.putfield 72, 3) := by decide +kernel
theorem dX11_moves_5 : decode cX11_moves 5 = .ok (.aload_n 0, 1) := by decide +kernel
theorem dX11_moves_6 : decode cX11_moves 6 = .ok (.aload_n 0, 1) := by decide +kernel
theorem dX11_moves_7 : decode cX11_moves 7 = .ok (.invokevirtual 166, 3) := by decide +kernel
theorem dX11_moves_10 : decode cX11_moves 10 = .ok (.invokevirtual 204, 3) := by decide +kernel
theorem dX11_moves_13 : decode cX11_moves 13 = .ok (.istore_n 1, 1) := by decide +kernel
theorem dX11_moves_14 : decode cX11_moves 14 = .ok (.iconst 0, 1) := by decide +kernel
theorem dX11_moves_15 : decode cX11_moves 15 = .ok (.istore_n 2, 1) := by decide +kernel
theorem dX11_moves_16 : decode cX11_moves 16 = .ok (.iconst 0, 1) := by decide +kernel
theorem dX11_moves_17 : decode cX11_moves 17 = .ok (.istore_n 3, 1) := by decide +kernel
theorem dX11_moves_18 : decode cX11_moves 18 = .ok (.iload_n 3, 1) := by decide +kernel
theorem dX11_moves_19 : decode cX11_moves 19 = .ok (.aload_n 0, 1) := by decide +kernel
theorem dX11_moves_20 : decode cX11_moves 20 = .ok (.getfield 25, 3) := by decide +kernel
theorem dX11_moves_23 : decode cX11_moves 23 = .ok (.iconst 0, 1) := by decide +kernel
theorem dX11_moves_24 : decode cX11_moves 24 = .ok (.iaload, 1) := by decide +kernel
theorem dX11_moves_25 : decode cX11_moves 25 = .ok (.if_icmp .ge 27, 3) := by decide +kernel
theorem dX11_moves_28 : decode cX11_moves 28 = .ok (.iload_n 2, 1) := by decide +kernel
theorem dX11_moves_29 : decode cX11_moves 29 = .ok (.aload_n 0, 1) := by decide +kernel
theorem dX11_moves_30 : decode cX11_moves 30 = .ok (.getfield 41, 3) := by decide +kernel
theorem dX11_moves_33 : decode cX11_moves 33 = .ok (.iload_n 3, 1) := by decide +kernel
theorem dX11_moves_34 : decode cX11_moves 34 = .ok (.iaload, 1) := by decide +kernel
theorem dX11_moves_35 : decode cX11_moves 35 = .ok (.iconst (-1), 1) := by decide +kernel
theorem dX11_moves_36 : decode cX11_moves 36 = .ok (.if_icmp .ne 7, 3) := by decide +kernel
theorem dX11_moves_39 : decode cX11_moves 39 = .ok (.iconst 0, 1) := by decide +kernel
theorem dX11_moves_40 : decode cX11_moves 40 = .ok (.goto 4, 3) := by decide +kernel
theorem dX11_moves_43 : decode cX11_moves 43 = .ok (.iconst 1, 1) := by decide +kernel
theorem dX11_moves_44 : decode cX11_moves 44 = .ok (.iadd, 1) := by decide +kernel
theorem dX11_moves_45 : decode cX11_moves 45 = .ok (.istore_n 2, 1) := by decide +kernel
theorem dX11_moves_46 : decode cX11_moves 46 = .ok (.iinc 3 1, 3) := by decide +kernel
theorem dX11_moves_49 : decode cX11_moves 49 = .ok (.goto (-31), 3) := by decide +kernel
theorem dX11_moves_52 : decode cX11_moves 52 = .ok (.iload_n 2, 1) := by decide +kernel
theorem dX11_moves_53 : decode cX11_moves 53 = .ok (.ireturn, 1) := by decide +kernel
theorem lk_X11_moves_f72 : Cond.fieldLink RX11 72 "TreeComparerModel" "thrown" "I" ∈ wsX11_moves := by decide +kernel
theorem hi_X11_moves_11 : ∀ w ∈ u_ws RX11 TX11 24, w ∈ wsX11_moves := by decide +kernel
theorem lk_X11_moves_f25 : Cond.fieldLink RX11 25 "TreeComparerModel" "many" "[I" ∈ wsX11_moves := by decide +kernel
theorem lk_X11_moves_f41 : Cond.fieldLink RX11 41 "TreeComparerModel" "moved" "[I" ∈ wsX11_moves := by decide +kernel
def wpj_X11_moves_44 (x3 : Int) (s0 : Int) (s1 : Int) (M : Mem) (J18 : Int → Int → Mem → Prop) (Q : Int → Mem → Prop) : Prop := (∀ y12 : Int, y12 = s1 + s0 → J18 y12 (x3 + 1) M)
def wph_X11_moves_18 (x2 : Int) (x3 : Int) (M : Mem) (J18 : Int → Int → Mem → Prop) (Q : Int → Mem → Prop) : Prop := inR x3 ∧ inR (M 13 5 0) ∧ (((M 13 5 0) ≤ x3 → Q x2 M) ∧ (¬ ((M 13 5 0) ≤ x3) → ((0 : Int) ≤ x3 ∧ x3 < 12) ∧ inR (M 13 10 x3.toNat) ∧ (((M 13 10 x3.toNat) ≠ (-1) → wpj_X11_moves_44 x3 1 x2 M J18 Q) ∧ (¬ ((M 13 10 x3.toNat) ≠ (-1)) → wpj_X11_moves_44 x3 0 x2 M J18 Q))))
def wpe_X11_moves (M : Mem) (J18 : Int → Int → Mem → Prop) (Q : Int → Mem → Prop) : Prop := (∀ M1 : Mem, M1 = mset M 13 23 0 0 → wp_X11_maps M1 (fun y2 M3 => wp_X11_travels M3 y2 (fun y4 M5 => J18 0 0 M5)))
def wp_X11_moves (M : Mem) (Q : Int → Mem → Prop) : Prop := ∃ (I18 : Nat → Int → Int → Mem → Prop), wpe_X11_moves M (fun (x2 : Int) (x3 : Int) (M1 : Mem) => ∃ n1 : Nat, I18 n1 x2 x3 M1) Q ∧ (∀ (n : Nat) (x2 : Int) (x3 : Int) (M : Mem), I18 n x2 x3 M → wph_X11_moves_18 x2 x3 M (fun (x2 : Int) (x3 : Int) (M1 : Mem) => ∃ n1 : Nat, n1 < n ∧ I18 n1 x2 x3 M1) Q)
set_option maxHeartbeats 4000000 in
set_option maxRecDepth 100000 in
theorem wkj_X11_moves_44 {p : Program} {l : Launch} {e : Env} {s : State} {m : MethodId} {args : Array Value} {below : List Frame} {meth : Method} {c : Code} {D : va_G} {g : GT} {A : Nat → Prop} {a : Nat → Nat} {b : Nat → Nat → Nat} (X : vC p s m args meth c D g A RX11 wsX11_moves cX11_moves 4) (hr : meth.sig.returnType = (some .int)) {x3 : Int} {s0 : Int} {s1 : Int} {M : Mem} {J18 : Int → Int → Mem → Prop} {Q : Int → Mem → Prop} (hJ18 : ∀ (x2 : Int) (x3 : Int) (M : Mem), J18 x2 x3 M → vV p l e ({ frames := 5, cells := 0, slots := 0, locals := 126 } : Room) s m args below meth c D g A a b 4 0 0 (MQ below (cQi D g A a b Q) args s 0 0 A) M [(0, .ref (a 13)), (2, iv x2), (3, iv x3)] 18 []) (hw : wpj_X11_moves_44 x3 s0 s1 M J18 Q) : vV p l e ({ frames := 5, cells := 0, slots := 0, locals := 126 } : Room) s m args below meth c D g A a b 4 0 0 (MQ below (cQi D g A a b Q) args s 0 0 A) M [(0, .ref (a 13)), (3, iv x3)] 44 [iv s0, iv s1] := by
  unfold wpj_X11_moves_44 at hw
  refine V_iadd X dX11_moves_44 ?_
  refine V_top (fun y12 ey12 => ?_)
  have hw := hw y12 ey12
  refine V_istore_n (lv1 := [(0, .ref (a 13)), (2, iv y12), (3, iv x3)]) X [1, 0, 2] dX11_moves_45 rfl (by decide) rfl ?_
  refine V_iinc (lv1 := [(0, .ref (a 13)), (2, iv y12), (3, iv (x3 + 1))]) X [1, 2, 0] dX11_moves_46 (q := 2) rfl (by decide) rfl ?_
  refine V_goto (tgt := 18) X dX11_moves_49 (by decide) ?_
  exact hJ18 _ _ _ hw
set_option maxHeartbeats 4000000 in
set_option maxRecDepth 100000 in
theorem wkh_X11_moves_18 {p : Program} {l : Launch} {e : Env} {s : State} {m : MethodId} {args : Array Value} {below : List Frame} {meth : Method} {c : Code} {D : va_G} {g : GT} {A : Nat → Prop} {a : Nat → Nat} {b : Nat → Nat → Nat} (X : vC p s m args meth c D g A RX11 wsX11_moves cX11_moves 4) (hr : meth.sig.returnType = (some .int)) {x2 : Int} {x3 : Int} {M : Mem} {J18 : Int → Int → Mem → Prop} {Q : Int → Mem → Prop} (hJ18 : ∀ (x2 : Int) (x3 : Int) (M : Mem), J18 x2 x3 M → vV p l e ({ frames := 5, cells := 0, slots := 0, locals := 126 } : Room) s m args below meth c D g A a b 4 0 0 (MQ below (cQi D g A a b Q) args s 0 0 A) M [(0, .ref (a 13)), (2, iv x2), (3, iv x3)] 18 []) (hw : wph_X11_moves_18 x2 x3 M J18 Q) : vV p l e ({ frames := 5, cells := 0, slots := 0, locals := 126 } : Room) s m args below meth c D g A a b 4 0 0 (MQ below (cQi D g A a b Q) args s 0 0 A) M [(0, .ref (a 13)), (2, iv x2), (3, iv x3)] 18 [] := by
  unfold wph_X11_moves_18 at hw
  refine V_iload_n X dX11_moves_18 rfl (q := 2) rfl ?_
  refine V_aload_n X dX11_moves_19 rfl (q := 0) rfl ?_
  refine V_get (C := RX11) (T := TX11) (N := 24) (ci := 11) X hi_X11_moves_11 gO_13 rfl 5 (by decide) lk_X11_moves_f25 (fun _ h9 => h9) rfl dX11_moves_20 ?_
  refine V_iconst X dX11_moves_23 ?_
  refine V_iald X (gA_13_5) ⟨by decide, by decide⟩ (by decide) dX11_moves_24 ?_
  obtain ⟨h6, h7, hw⟩ := hw
  refine V_icmp_ge (tgt := 52) X h6 h7 dX11_moves_25 (by decide) (fun q8 => ?_) (fun q8 => ?_)
  · have hw := hw.1 q8
    refine V_iload_n X dX11_moves_52 rfl (q := 1) rfl ?_
    exact V_iret X hr hw dX11_moves_53
  · have hw := hw.2 q8
    refine V_iload_n X dX11_moves_28 rfl (q := 1) rfl ?_
    refine V_aload_n X dX11_moves_29 rfl (q := 0) rfl ?_
    refine V_get (C := RX11) (T := TX11) (N := 24) (ci := 11) X hi_X11_moves_11 gO_13 rfl 10 (by decide) lk_X11_moves_f41 (fun _ h9 => h9) rfl dX11_moves_30 ?_
    refine V_iload_n X dX11_moves_33 rfl (q := 2) rfl ?_
    obtain ⟨h9, hw⟩ := hw
    refine V_iald X (gA_13_10) h9 (by decide) dX11_moves_34 ?_
    refine V_iconst X dX11_moves_35 ?_
    obtain ⟨h10, hw⟩ := hw
    refine V_icmp_ne (tgt := 43) X h10 ⟨by decide, by decide⟩ dX11_moves_36 (by decide) (fun q11 => ?_) (fun q11 => ?_)
    · have hw := hw.1 q11
      refine V_iconst X dX11_moves_43 ?_
      refine V_sub (lv1 := [(0, .ref (a 13)), (3, iv x3)]) [0, 2] rfl ?_
      exact wkj_X11_moves_44 X hr hJ18 hw
    · have hw := hw.2 q11
      refine V_iconst X dX11_moves_39 ?_
      refine V_goto (tgt := 44) X dX11_moves_40 (by decide) ?_
      refine V_sub (lv1 := [(0, .ref (a 13)), (3, iv x3)]) [0, 2] rfl ?_
      exact wkj_X11_moves_44 X hr hJ18 hw
set_option maxHeartbeats 4000000 in
set_option maxRecDepth 100000 in
theorem wke_X11_moves {p : Program} {l : Launch} {e : Env} {s : State} {m : MethodId} {args : Array Value} {below : List Frame} {meth : Method} {c : Code} {D : va_G} {g : GT} {A : Nat → Prop} {a : Nat → Nat} {b : Nat → Nat → Nat} (X : vC p s m args meth c D g A RX11 wsX11_moves cX11_moves 4) (hr : meth.sig.returnType = (some .int)) {M : Mem} {J18 : Int → Int → Mem → Prop} {Q : Int → Mem → Prop} (hJ18 : ∀ (x2 : Int) (x3 : Int) (M : Mem), J18 x2 x3 M → vV p l e ({ frames := 5, cells := 0, slots := 0, locals := 126 } : Room) s m args below meth c D g A a b 4 0 0 (MQ below (cQi D g A a b Q) args s 0 0 A) M [(0, .ref (a 13)), (2, iv x2), (3, iv x3)] 18 []) (hw : wpe_X11_moves M J18 Q) : vV p l e ({ frames := 5, cells := 0, slots := 0, locals := 126 } : Room) s m args below meth c D g A a b 4 0 0 (MQ below (cQi D g A a b Q) args s 0 0 A) M [(0, .ref (a 13))] 0 [] := by
  unfold wpe_X11_moves at hw
  refine V_aload_n X dX11_moves_0 rfl (q := 0) rfl ?_
  refine V_iconst X dX11_moves_1 ?_
  refine V_put (C := RX11) (T := TX11) (N := 24) (ci := 11) X hi_X11_moves_11 gO_13 rfl 23 (by decide) tyX11 tyX11_ok nmX11 rfl (tyX11_ok 23 (by decide)) (Or.inl rfl) (show 23 < 24 from by decide) sI_13_23 lk_X11_moves_f72 (fun _ h9 => h9) dX11_moves_2 (fun M1 eM1 => ?_)
  have hw := hw M1 eM1
  refine V_aload_n X dX11_moves_5 rfl (q := 0) rfl ?_
  refine V_aload_n X dX11_moves_6 rfl (q := 0) rfl ?_
  refine V_callV_i X _ gO_13 rfl (As := []) (st := [.ref (a 13)]) (c_X11_maps l hw) (cwV 0 X.2.2.2.1 gX11_moves_X11_maps rfl rfl rfl (by decide +kernel) ⟨Nat.le_of_ble_eq_true rfl, Nat.le_of_ble_eq_true rfl⟩) rfl (Nat.le_of_ble_eq_true rfl) ⟨Nat.le_of_ble_eq_true rfl, Nat.le_of_ble_eq_true rfl⟩ rfl dX11_moves_7 (fun y2 M3 hw => ?_)
  refine V_callV_i X _ gO_13 rfl (As := [iv y2]) (st := []) (c_X11_travels l hw) (cwV 1 X.2.2.2.1 gX11_moves_X11_travels rfl rfl rfl (by decide +kernel) ⟨Nat.le_of_ble_eq_true rfl, Nat.le_of_ble_eq_true rfl⟩) rfl (Nat.le_of_ble_eq_true rfl) ⟨Nat.le_of_ble_eq_true rfl, Nat.le_of_ble_eq_true rfl⟩ rfl dX11_moves_10 (fun y4 M5 hw => ?_)
  refine V_istore_n (lv1 := [(0, .ref (a 13)), (1, iv y4)]) X [1, 0] dX11_moves_13 rfl (by decide) rfl ?_
  refine V_iconst X dX11_moves_14 ?_
  refine V_istore_n (lv1 := [(0, .ref (a 13)), (1, iv y4), (2, iv 0)]) X [1, 2, 0] dX11_moves_15 rfl (by decide) rfl ?_
  refine V_iconst X dX11_moves_16 ?_
  refine V_istore_n (lv1 := [(0, .ref (a 13)), (1, iv y4), (2, iv 0), (3, iv 0)]) X [1, 2, 3, 0] dX11_moves_17 rfl (by decide) rfl ?_
  refine V_sub (lv1 := [(0, .ref (a 13)), (2, iv 0), (3, iv 0)]) [0, 2, 3] rfl ?_
  exact hJ18 _ _ _ hw
set_option maxHeartbeats 4000000 in
set_option maxRecDepth 100000 in
theorem c_X11_moves (l : Launch) {D : va_G} {g : GT} {A : Nat → Prop} {a : Nat → Nat} {b : Nat → Nat → Nat} {M : Mem} {Q : Int → Mem → Prop} (hw : wp_X11_moves M Q) : Met l yX11_moves wsX11_moves ({ frames := 5, cells := 0, slots := 0, locals := 126 } : Room) (cPc D g A a b M [.ref (a 13)]) (cQi D g A a b Q) 0 0 A := by
  refine Met.ofW (cc := cX11_moves) (maxL := 4) (ret := (some .int)) (by decide) rfl ?_
  intro p e s m args below meth c s₁ B hml hv
  obtain ⟨rfl, hP, hD, hG⟩ := hv
  have X : vC p s m _ meth c D g A RX11 wsX11_moves cX11_moves 4 := ⟨B.exec, B.bytes, findClass_of_methodNamed B.named, atoms_spec (ws := wsX11_moves) B.pre, hG, hml, B.notSynchronized⟩
  have hr := B.returns
  have hl := lv_entry ([.ref (a 13)]) (n := 4) (Nat.le_of_ble_eq_true rfl)
  rw [lg_entry_eq]
  generalize (lg_sl ([.ref (a 13)]) ++ List.replicate (4 - (lg_sl ([.ref (a 13)])).length) Slot.unset).toArray = ls at hl ⊢
  have hl : lv_has ls 4 [(0, .ref (a 13))] := hl
  obtain ⟨I18, hw, hI18⟩ := hw
  have K : ∀ n : Nat, (∀ (x2 : Int) (x3 : Int) (M : Mem), I18 n x2 x3 M → vV p l e ({ frames := 5, cells := 0, slots := 0, locals := 126 } : Room) s m ([.ref (a 13)] : List Value).toArray below meth c D g A a b 4 0 0 (MQ below (cQi D g A a b Q) ([.ref (a 13)] : List Value).toArray s 0 0 A) M [(0, .ref (a 13)), (2, iv x2), (3, iv x3)] 18 []) := by
    intro n
    induction n using Nat.strongRecOn with
    | ind n ih =>
      exact fun x2 x3 M hh => wkh_X11_moves_18 X hr (fun _ _ _ ⟨n1, hn, hh⟩ => (ih n1 hn) _ _ _ hh) (hI18 n x2 x3 M hh)
  exact wke_X11_moves X hr  (fun _ _ _ ⟨n1, hh⟩ => (K n1) _ _ _ hh) hw s.heap [] ls hP hD va_S.rf hl

set_option maxRecDepth 20000 in
theorem ggX11_setLabel_X11_isNode : GoodIn wsX11_setLabel wsX11_isNode := goodIn_r _ [6, 7, 8, 9, 5, 10, 11, 12, 13, 24, 25, 26, 27, 28, 29, 30, 31, 32, 33, 34, 35, 36, 37, 38, 39, 40, 41, 42, 43, 44, 45, 46, 47] (by decide +kernel) (by decide +kernel)
set_option maxRecDepth 20000 in
theorem gX11_setLabel_X11_isNode : GoodIn wsX11_setLabel (wsV RX11 98 RX11 yX11_isNode wsX11_isNode) := goodIn_app (goodIn_of _ (by decide +kernel)) ggX11_setLabel_X11_isNode
set_option maxRecDepth 20000 in
theorem ggX11_setLabel_X11_in : GoodIn wsX11_setLabel wsX11_in := goodIn_r _ [13] (by decide +kernel) (by decide +kernel)
set_option maxRecDepth 20000 in
theorem gX11_setLabel_X11_in : GoodIn wsX11_setLabel (va_wsS RX11 75 yX11_in wsX11_in) := goodIn_app (goodIn_of _ (by decide +kernel)) ggX11_setLabel_X11_in
set_option maxRecDepth 20000 in
theorem ggX11_setLabel_X11_goes : GoodIn wsX11_setLabel wsX11_goes := goodIn_r _ [17, 18, 24, 25, 26, 27, 28, 29, 30, 31, 32, 33, 34, 35, 36, 37, 38, 39, 40, 41, 42, 43, 44, 45, 46, 47] (by decide +kernel) (by decide +kernel)
set_option maxRecDepth 20000 in
theorem gX11_setLabel_X11_goes : GoodIn wsX11_setLabel (wsV RX11 87 RX11 yX11_goes wsX11_goes) := goodIn_app (goodIn_of _ (by decide +kernel)) ggX11_setLabel_X11_goes
set_option maxRecDepth 20000 in
theorem ggX11_setLabel_X11_place : GoodIn wsX11_setLabel wsX11_place := goodIn_r _ [22, 23, 24, 25, 26, 27, 28, 29, 30, 31, 32, 33, 34, 35, 36, 37, 38, 39, 40, 41, 42, 43, 44, 45, 46, 47] (by decide +kernel) (by decide +kernel)
set_option maxRecDepth 20000 in
theorem gX11_setLabel_X11_place : GoodIn wsX11_setLabel (wsV RX11 102 RX11 yX11_place wsX11_place) := goodIn_app (goodIn_of _ (by decide +kernel)) ggX11_setLabel_X11_place
theorem dX11_setLabel_0 : decode cX11_setLabel 0 = .ok (.aload_n 0, 1) := by decide +kernel
theorem dX11_setLabel_1 : decode cX11_setLabel 1 = .ok (.aload_n 0, 1) := by decide +kernel
theorem dX11_setLabel_2 : decode cX11_setLabel 2 = .ok (.iload_n 1, 1) := by decide +kernel
theorem dX11_setLabel_3 : decode cX11_setLabel 3 = .ok (.iload_n 2, 1) := by decide +kernel
theorem dX11_setLabel_4 : decode cX11_setLabel 4 = .ok (.invokevirtual 98, 3) := by decide +kernel
theorem dX11_setLabel_7 : decode cX11_setLabel 7 = .ok (.iload_n 3, 1) := by decide +kernel
theorem dX11_setLabel_8 : decode cX11_setLabel 8 = .ok (.iconst 0, 1) := by decide +kernel
theorem dX11_setLabel_9 : decode cX11_setLabel 9 = .ok (.bipush 99, 2) := by decide +kernel
theorem dX11_setLabel_11 : decode cX11_setLabel 11 = .ok (.invokestatic 75, 3) := by decide +kernel
theorem dX11_setLabel_14 : decode cX11_setLabel 14 = .ok (.iconst 1, 1) := by decide +kernel
theorem dX11_setLabel_15 : decode cX11_setLabel 15 = .ok (.invokevirtual 87, 3) := by decide +kernel
theorem dX11_setLabel_18 : decode cX11_setLabel 18 = .ok (.ifCond .ne 5, 3) := by decide +kernel
theorem dX11_setLabel_21 : decode cX11_setLabel 21 = .ok (.iconst 0, 1) := by decide +kernel
theorem dX11_setLabel_22 : decode cX11_setLabel 22 = .ok (.ireturn, 1) := by decide +kernel
theorem dX11_setLabel_23 : decode cX11_setLabel 23 = .ok (.bipush 12, 2) := by decide +kernel
theorem dX11_setLabel_25 : decode cX11_setLabel 25 = .ok (.iload_n 1, 1) := by decide +kernel
theorem dX11_setLabel_26 : decode cX11_setLabel 26 = .ok (.imul, 1) := by decide +kernel
theorem dX11_setLabel_27 : decode cX11_setLabel 27 = .ok (.aload_n 0, 1) := by decide +kernel
theorem dX11_setLabel_28 : decode cX11_setLabel 28 = .ok (.iload_n 1, 1) := by decide +kernel
theorem dX11_setLabel_29 : decode cX11_setLabel 29 = .ok (.iload_n 2, 1) := by decide +kernel
theorem dX11_setLabel_30 : decode cX11_setLabel 30 = .ok (.invokevirtual 102, 3) := by decide +kernel
theorem dX11_setLabel_33 : decode cX11_setLabel 33 = .ok (.iadd, 1) := by decide +kernel
theorem dX11_setLabel_34 : decode cX11_setLabel 34 = .ok (.istore 4, 2) := by decide +kernel
theorem dX11_setLabel_36 : decode cX11_setLabel 36 = .ok (.aload_n 0, 1) := by decide +kernel
theorem dX11_setLabel_37 : decode cX11_setLabel 37 = .ok (.getfield 19, 3) := by decide +kernel
theorem dX11_setLabel_40 : decode cX11_setLabel 40 = .ok (.iload 4, 2) := by decide +kernel
theorem dX11_setLabel_42 : decode cX11_setLabel 42 = .ok (.iaload, 1) := by decide +kernel
theorem dX11_setLabel_43 : decode cX11_setLabel 43 = .ok (.istore 5, 2) := by decide +kernel
theorem dX11_setLabel_45 : decode cX11_setLabel 45 = .ok (.aload_n 0, 1) := by decide +kernel
theorem dX11_setLabel_46 : decode cX11_setLabel 46 = .ok (.getfield 19, 3) := by decide +kernel
theorem dX11_setLabel_49 : decode cX11_setLabel 49 = .ok (.iload 4, 2) := by decide +kernel
theorem dX11_setLabel_51 : decode cX11_setLabel 51 = .ok (.iload_n 3, 1) := by decide +kernel
theorem dX11_setLabel_52 : decode cX11_setLabel 52 = .ok (.iastore, 1) := by decide +kernel
theorem dX11_setLabel_53 : decode cX11_setLabel 53 = .ok (.iload 5, 2) := by decide +kernel
theorem dX11_setLabel_55 : decode cX11_setLabel 55 = .ok (.ireturn, 1) := by decide +kernel
theorem lk_X11_setLabel_f19 : Cond.fieldLink RX11 19 "TreeComparerModel" "label" "[I" ∈ wsX11_setLabel := by decide +kernel
theorem hi_X11_setLabel_11 : ∀ w ∈ u_ws RX11 TX11 24, w ∈ wsX11_setLabel := by decide +kernel
def wpe_X11_setLabel (p0 : Int) (p1 : Int) (p2 : Int) (M : Mem) (Q : Int → Mem → Prop) : Prop := wp_X11_isNode M p0 p1 (fun y1 M2 => wp_X11_in M2 p2 0 99 (fun y3 M4 => wp_X11_goes M4 y1 y3 1 (fun y5 M6 => inR y5 ∧ ((y5 ≠ 0 → wp_X11_place M6 p0 p1 (fun y9 M10 => (∀ y11 : Int, y11 = (12 * p0) + y9 → ((0 : Int) ≤ y11 ∧ y11 < 24) ∧ (∀ y13 : Int, y13 = (M10 13 3 y11.toNat) → ((0 : Int) ≤ y11 ∧ y11 < 24) ∧ (∀ M14 : Mem, M14 = mset M10 13 3 y11.toNat p2 → Q y13 M14))))) ∧ (¬ (y5 ≠ 0) → Q 0 M6)))))
def wp_X11_setLabel (M : Mem) (p0 : Int) (p1 : Int) (p2 : Int) (Q : Int → Mem → Prop) : Prop := wpe_X11_setLabel p0 p1 p2 M Q
set_option maxHeartbeats 4000000 in
set_option maxRecDepth 100000 in
theorem wke_X11_setLabel {p : Program} {l : Launch} {e : Env} {s : State} {m : MethodId} {args : Array Value} {below : List Frame} {meth : Method} {c : Code} {D : va_G} {g : GT} {A : Nat → Prop} {a : Nat → Nat} {b : Nat → Nat → Nat} (X : vC p s m args meth c D g A RX11 wsX11_setLabel cX11_setLabel 6) (hr : meth.sig.returnType = (some .int)) {p0 : Int} {p1 : Int} {p2 : Int} {M : Mem} {Q : Int → Mem → Prop} (hw : wpe_X11_setLabel p0 p1 p2 M Q) : vV p l e ({ frames := 3, cells := 0, slots := 0, locals := 64 } : Room) s m args below meth c D g A a b 6 0 0 (MQ below (cQi D g A a b Q) args s 0 0 A) M [(0, .ref (a 13)), (1, iv p0), (2, iv p1), (3, iv p2)] 0 [] := by
  unfold wpe_X11_setLabel at hw
  refine V_aload_n X dX11_setLabel_0 rfl (q := 0) rfl ?_
  refine V_aload_n X dX11_setLabel_1 rfl (q := 0) rfl ?_
  refine V_iload_n X dX11_setLabel_2 rfl (q := 1) rfl ?_
  refine V_iload_n X dX11_setLabel_3 rfl (q := 2) rfl ?_
  refine V_callV_i X _ gO_13 rfl (As := [iv p0, iv p1]) (st := [.ref (a 13)]) (c_X11_isNode l hw) (cwV 2 X.2.2.2.1 gX11_setLabel_X11_isNode rfl rfl rfl (by decide +kernel) ⟨Nat.le_of_ble_eq_true rfl, Nat.le_of_ble_eq_true rfl⟩) rfl (Nat.le_of_ble_eq_true rfl) ⟨Nat.le_of_ble_eq_true rfl, Nat.le_of_ble_eq_true rfl⟩ rfl dX11_setLabel_4 (fun y1 M2 hw => ?_)
  refine V_iload_n X dX11_setLabel_7 rfl (q := 3) rfl ?_
  refine V_iconst X dX11_setLabel_8 ?_
  refine V_bipush X dX11_setLabel_9 rfl ?_
  refine V_callS_i X _ (As := [iv p2, iv 0, iv 99]) (st := [iv y1, .ref (a 13)]) (c_X11_in l hw) (va_cwS 3 X.2.2.2.1 gX11_setLabel_X11_in rfl rfl rfl (by decide +kernel) ⟨Nat.le_of_ble_eq_true rfl, Nat.le_of_ble_eq_true rfl⟩) rfl (Nat.le_of_ble_eq_true rfl) ⟨Nat.le_of_ble_eq_true rfl, Nat.le_of_ble_eq_true rfl⟩ rfl dX11_setLabel_11 (fun y3 M4 hw => ?_)
  refine V_iconst X dX11_setLabel_14 ?_
  refine V_callV_i X _ gO_13 rfl (As := [iv y1, iv y3, iv 1]) (st := []) (c_X11_goes l hw) (cwV 3 X.2.2.2.1 gX11_setLabel_X11_goes rfl rfl rfl (by decide +kernel) ⟨Nat.le_of_ble_eq_true rfl, Nat.le_of_ble_eq_true rfl⟩) rfl (Nat.le_of_ble_eq_true rfl) ⟨Nat.le_of_ble_eq_true rfl, Nat.le_of_ble_eq_true rfl⟩ rfl dX11_setLabel_15 (fun y5 M6 hw => ?_)
  obtain ⟨h7, hw⟩ := hw
  refine V_if_ne (tgt := 23) X h7 dX11_setLabel_18 (by decide) (fun q8 => ?_) (fun q8 => ?_)
  · have hw := hw.1 q8
    refine V_bipush X dX11_setLabel_23 rfl ?_
    refine V_iload_n X dX11_setLabel_25 rfl (q := 1) rfl ?_
    refine V_imul X dX11_setLabel_26 ?_
    refine V_aload_n X dX11_setLabel_27 rfl (q := 0) rfl ?_
    refine V_iload_n X dX11_setLabel_28 rfl (q := 1) rfl ?_
    refine V_iload_n X dX11_setLabel_29 rfl (q := 2) rfl ?_
    refine V_callV_i X _ gO_13 rfl (As := [iv p0, iv p1]) (st := [iv (12 * p0)]) (c_X11_place l hw) (cwV 2 X.2.2.2.1 gX11_setLabel_X11_place rfl rfl rfl (by decide +kernel) ⟨Nat.le_of_ble_eq_true rfl, Nat.le_of_ble_eq_true rfl⟩) rfl (Nat.le_of_ble_eq_true rfl) ⟨Nat.le_of_ble_eq_true rfl, Nat.le_of_ble_eq_true rfl⟩ rfl dX11_setLabel_30 (fun y9 M10 hw => ?_)
    refine V_iadd X dX11_setLabel_33 ?_
    refine V_top (fun y11 ey11 => ?_)
    have hw := hw y11 ey11
    refine V_istore (lv1 := [(0, .ref (a 13)), (1, iv p0), (2, iv p1), (3, iv p2), (4, iv y11)]) X [1, 2, 3, 4, 0] dX11_setLabel_34 (by decide) rfl ?_
    refine V_aload_n X dX11_setLabel_36 rfl (q := 0) rfl ?_
    refine V_get (C := RX11) (T := TX11) (N := 24) (ci := 11) X hi_X11_setLabel_11 gO_13 rfl 3 (by decide) lk_X11_setLabel_f19 (fun _ h9 => h9) rfl dX11_setLabel_37 ?_
    refine V_iload X dX11_setLabel_40 (q := 4) rfl ?_
    obtain ⟨h12, hw⟩ := hw
    refine V_iald X (gA_13_3) h12 (by decide) dX11_setLabel_42 ?_
    refine V_top (fun y13 ey13 => ?_)
    have hw := hw y13 ey13
    refine V_istore (lv1 := [(0, .ref (a 13)), (1, iv p0), (2, iv p1), (3, iv p2), (4, iv y11), (5, iv y13)]) X [1, 2, 3, 4, 5, 0] dX11_setLabel_43 (by decide) rfl ?_
    refine V_aload_n X dX11_setLabel_45 rfl (q := 0) rfl ?_
    refine V_get (C := RX11) (T := TX11) (N := 24) (ci := 11) X hi_X11_setLabel_11 gO_13 rfl 3 (by decide) lk_X11_setLabel_f19 (fun _ h9 => h9) rfl dX11_setLabel_46 ?_
    refine V_iload X dX11_setLabel_49 (q := 4) rfl ?_
    refine V_iload_n X dX11_setLabel_51 rfl (q := 3) rfl ?_
    obtain ⟨h15, hw⟩ := hw
    refine V_iast X (gA_13_3) (sA_13_3) h15 (by decide) dX11_setLabel_52 (fun M14 eM14 => ?_)
    have hw := hw M14 eM14
    refine V_iload X dX11_setLabel_53 (q := 5) rfl ?_
    exact V_iret X hr hw dX11_setLabel_55
  · have hw := hw.2 q8
    refine V_iconst X dX11_setLabel_21 ?_
    exact V_iret X hr hw dX11_setLabel_22
set_option maxHeartbeats 4000000 in
set_option maxRecDepth 100000 in
theorem c_X11_setLabel (l : Launch) {p0 : Int} {p1 : Int} {p2 : Int} {D : va_G} {g : GT} {A : Nat → Prop} {a : Nat → Nat} {b : Nat → Nat → Nat} {M : Mem} {Q : Int → Mem → Prop} (hw : wp_X11_setLabel M p0 p1 p2 Q) : Met l yX11_setLabel wsX11_setLabel ({ frames := 3, cells := 0, slots := 0, locals := 64 } : Room) (cPc D g A a b M [.ref (a 13), iv p0, iv p1, iv p2]) (cQi D g A a b Q) 0 0 A := by
  refine Met.ofW (cc := cX11_setLabel) (maxL := 6) (ret := (some .int)) (by decide) rfl ?_
  intro p e s m args below meth c s₁ B hml hv
  obtain ⟨rfl, hP, hD, hG⟩ := hv
  have X : vC p s m _ meth c D g A RX11 wsX11_setLabel cX11_setLabel 6 := ⟨B.exec, B.bytes, findClass_of_methodNamed B.named, atoms_spec (ws := wsX11_setLabel) B.pre, hG, hml, B.notSynchronized⟩
  have hr := B.returns
  have hl := lv_entry ([.ref (a 13), iv p0, iv p1, iv p2]) (n := 6) (Nat.le_of_ble_eq_true rfl)
  rw [lg_entry_eq]
  generalize (lg_sl ([.ref (a 13), iv p0, iv p1, iv p2]) ++ List.replicate (6 - (lg_sl ([.ref (a 13), iv p0, iv p1, iv p2])).length) Slot.unset).toArray = ls at hl ⊢
  have hl : lv_has ls 6 [(0, .ref (a 13)), (1, iv p0), (2, iv p1), (3, iv p2)] := hl
  exact wke_X11_setLabel X hr  hw s.heap [] ls hP hD va_S.rf hl

set_option maxRecDepth 20000 in
theorem ggX11_stepPrice_X11_isStep : GoodIn wsX11_stepPrice wsX11_isStep := goodIn_r _ [7, 8, 9, 10, 11, 6, 12, 13, 14, 15, 16, 17, 18, 19, 20, 21, 22, 23, 24, 25, 26, 27, 28, 29, 30, 31, 32, 33, 34, 35, 36, 37, 38, 39, 40, 41, 42, 43, 44, 45, 46, 47, 48, 49, 50, 51, 52, 53, 54, 55, 56, 57, 58, 59, 60, 61, 62, 63, 64, 65, 66, 67, 68, 69, 70, 71, 72, 73, 74, 75, 76, 77, 78, 79, 80, 81, 82, 1, 2, 83, 84, 85, 86, 87, 88, 89, 90, 91, 92, 93, 94, 95, 96, 97, 98, 99, 100, 101, 102, 103, 104, 105, 106, 107, 108, 109, 110, 111, 112, 113, 114] (by decide +kernel) (by decide +kernel)
set_option maxRecDepth 20000 in
theorem gX11_stepPrice_X11_isStep : GoodIn wsX11_stepPrice (wsV RX11 182 RX11 yX11_isStep wsX11_isStep) := goodIn_app (goodIn_of _ (by decide +kernel)) ggX11_stepPrice_X11_isStep
set_option maxRecDepth 20000 in
theorem ggX11_stepPrice_X11_priceOf : GoodIn wsX11_stepPrice wsX11_priceOf := goodIn_r _ [44, 45, 46, 91, 92, 93, 94, 95, 96, 97, 98, 99, 100, 101, 102, 103, 104, 105, 106, 107, 108, 109, 110, 111, 112, 113, 114] (by decide +kernel) (by decide +kernel)
set_option maxRecDepth 20000 in
theorem gX11_stepPrice_X11_priceOf : GoodIn wsX11_stepPrice (wsV RX11 83 RX11 yX11_priceOf wsX11_priceOf) := goodIn_app (goodIn_of _ (by decide +kernel)) ggX11_stepPrice_X11_priceOf
theorem dX11_stepPrice_0 : decode cX11_stepPrice 0 = .ok (.aload_n 0, 1) := by decide +kernel
theorem dX11_stepPrice_1 : decode cX11_stepPrice 1 = .ok (.iload_n 1, 1) := by decide +kernel
theorem dX11_stepPrice_2 : decode cX11_stepPrice 2 = .ok (.invokevirtual 182, 3) := by decide +kernel
theorem dX11_stepPrice_5 : decode cX11_stepPrice 5 = .ok (.ifCond .ne 5, 3) := by decide +kernel
theorem dX11_stepPrice_8 : decode cX11_stepPrice 8 = .ok (.iconst 0, 1) := by decide +kernel
theorem dX11_stepPrice_9 : decode cX11_stepPrice 9 = .ok (.ireturn, 1) := by decide +kernel
theorem dX11_stepPrice_10 : decode cX11_stepPrice 10 = .ok (.aload_n 0, 1) := by decide +kernel
theorem dX11_stepPrice_11 : decode cX11_stepPrice 11 = .ok (.getfield 54, 3) := by decide +kernel
theorem dX11_stepPrice_14 : decode cX11_stepPrice 14 = .ok (.iload_n 1, 1) := by decide +kernel
theorem dX11_stepPrice_15 : decode cX11_stepPrice 15 = .ok (.iaload, 1) := by decide +kernel
theorem dX11_stepPrice_16 : decode cX11_stepPrice 16 = .ok (.istore_n 2, 1) := by decide +kernel
theorem dX11_stepPrice_17 : decode cX11_stepPrice 17 = .ok (.iload_n 2, 1) := by decide +kernel
theorem dX11_stepPrice_18 : decode cX11_stepPrice 18 = .ok (.iconst 2, 1) := by decide +kernel
theorem dX11_stepPrice_19 : decode cX11_stepPrice 19 = .ok (.if_icmp .ne 18, 3) := by decide +kernel
theorem dX11_stepPrice_22 : decode cX11_stepPrice 22 = .ok (.aload_n 0, 1) := by decide +kernel
theorem dX11_stepPrice_23 : decode cX11_stepPrice 23 = .ok (.iconst 1, 1) := by decide +kernel
theorem dX11_stepPrice_24 : decode cX11_stepPrice 24 = .ok (.aload_n 0, 1) := by decide +kernel
theorem dX11_stepPrice_25 : decode cX11_stepPrice 25 = .ok (.getfield 57, 3) := by decide +kernel
theorem dX11_stepPrice_28 : decode cX11_stepPrice 28 = .ok (.iload_n 1, 1) := by decide +kernel
theorem dX11_stepPrice_29 : decode cX11_stepPrice 29 = .ok (.iaload, 1) := by decide +kernel
theorem dX11_stepPrice_30 : decode cX11_stepPrice 30 = .ok (.iconst 0, 1) := by decide +kernel
theorem dX11_stepPrice_31 : decode cX11_stepPrice 31 = .ok (.invokevirtual 83, 3) := by decide +kernel
theorem dX11_stepPrice_34 : decode cX11_stepPrice 34 = .ok (.goto 23, 3) := by decide +kernel
theorem dX11_stepPrice_37 : decode cX11_stepPrice 37 = .ok (.aload_n 0, 1) := by decide +kernel
theorem dX11_stepPrice_38 : decode cX11_stepPrice 38 = .ok (.iconst 0, 1) := by decide +kernel
theorem dX11_stepPrice_39 : decode cX11_stepPrice 39 = .ok (.aload_n 0, 1) := by decide +kernel
theorem dX11_stepPrice_40 : decode cX11_stepPrice 40 = .ok (.getfield 57, 3) := by decide +kernel
theorem dX11_stepPrice_43 : decode cX11_stepPrice 43 = .ok (.iload_n 1, 1) := by decide +kernel
theorem dX11_stepPrice_44 : decode cX11_stepPrice 44 = .ok (.iaload, 1) := by decide +kernel
theorem dX11_stepPrice_45 : decode cX11_stepPrice 45 = .ok (.iload_n 2, 1) := by decide +kernel
theorem dX11_stepPrice_46 : decode cX11_stepPrice 46 = .ok (.ifCond .ne 7, 3) := by decide +kernel
theorem dX11_stepPrice_49 : decode cX11_stepPrice 49 = .ok (.iconst 1, 1) := by decide +kernel
theorem dX11_stepPrice_50 : decode cX11_stepPrice 50 = .ok (.goto 4, 3) := by decide +kernel
theorem dX11_stepPrice_53 : decode cX11_stepPrice 53 = .ok (.iconst 2, 1) := by decide +kernel
theorem dX11_stepPrice_54 : decode cX11_stepPrice 54 = .ok (.invokevirtual 83, 3) := by decide +kernel
theorem dX11_stepPrice_57 : decode cX11_stepPrice 57 = .ok (.ireturn, 1) := by decide +kernel
theorem lk_X11_stepPrice_f54 : Cond.fieldLink RX11 54 "TreeComparerModel" "stepKind" "[I" ∈ wsX11_stepPrice := by decide +kernel
theorem hi_X11_stepPrice_11 : ∀ w ∈ u_ws RX11 TX11 24, w ∈ wsX11_stepPrice := by decide +kernel
theorem lk_X11_stepPrice_f57 : Cond.fieldLink RX11 57 "TreeComparerModel" "stepPlace" "[I" ∈ wsX11_stepPrice := by decide +kernel
def wpj_X11_stepPrice_54 (p0 : Int) (s0 : Int) (s1 : Int) (s2 : Int) (M : Mem) (Q : Int → Mem → Prop) : Prop := wp_X11_priceOf M s2 s1 s0 (fun y15 M16 => Q y15 M16)
def wpe_X11_stepPrice (p0 : Int) (M : Mem) (Q : Int → Mem → Prop) : Prop := wp_X11_isStep M p0 (fun y1 M2 => inR y1 ∧ ((y1 ≠ 0 → ((0 : Int) ≤ p0 ∧ p0 < 24) ∧ (∀ y6 : Int, y6 = (M2 13 14 p0.toNat) → inR y6 ∧ ((y6 ≠ 2 → ((0 : Int) ≤ p0 ∧ p0 < 24) ∧ inR y6 ∧ ((y6 ≠ 0 → wpj_X11_stepPrice_54 p0 2 ((M2 13 15 p0.toNat)) 0 M2 Q) ∧ (¬ (y6 ≠ 0) → wpj_X11_stepPrice_54 p0 1 ((M2 13 15 p0.toNat)) 0 M2 Q))) ∧ (¬ (y6 ≠ 2) → ((0 : Int) ≤ p0 ∧ p0 < 24) ∧ wp_X11_priceOf M2 1 ((M2 13 15 p0.toNat)) 0 (fun y13 M14 => Q y13 M14))))) ∧ (¬ (y1 ≠ 0) → Q 0 M2)))
def wp_X11_stepPrice (M : Mem) (p0 : Int) (Q : Int → Mem → Prop) : Prop := wpe_X11_stepPrice p0 M Q
set_option maxHeartbeats 4000000 in
set_option maxRecDepth 100000 in
theorem wkj_X11_stepPrice_54 {p : Program} {l : Launch} {e : Env} {s : State} {m : MethodId} {args : Array Value} {below : List Frame} {meth : Method} {c : Code} {D : va_G} {g : GT} {A : Nat → Prop} {a : Nat → Nat} {b : Nat → Nat → Nat} (X : vC p s m args meth c D g A RX11 wsX11_stepPrice cX11_stepPrice 3) (hr : meth.sig.returnType = (some .int)) {p0 : Int} {s0 : Int} {s1 : Int} {s2 : Int} {M : Mem} {Q : Int → Mem → Prop} (hw : wpj_X11_stepPrice_54 p0 s0 s1 s2 M Q) : vV p l e ({ frames := 7, cells := 0, slots := 0, locals := 170 } : Room) s m args below meth c D g A a b 3 0 0 (MQ below (cQi D g A a b Q) args s 0 0 A) M [] 54 [iv s0, iv s1, iv s2, .ref (a 13)] := by
  unfold wpj_X11_stepPrice_54 at hw
  refine V_callV_i X _ gO_13 rfl (As := [iv s2, iv s1, iv s0]) (st := []) (c_X11_priceOf l hw) (cwV 3 X.2.2.2.1 gX11_stepPrice_X11_priceOf rfl rfl rfl (by decide +kernel) ⟨Nat.le_of_ble_eq_true rfl, Nat.le_of_ble_eq_true rfl⟩) rfl (Nat.le_of_ble_eq_true rfl) ⟨Nat.le_of_ble_eq_true rfl, Nat.le_of_ble_eq_true rfl⟩ rfl dX11_stepPrice_54 (fun y15 M16 hw => ?_)
  exact V_iret X hr hw dX11_stepPrice_57
set_option maxHeartbeats 4000000 in
set_option maxRecDepth 100000 in
theorem wke_X11_stepPrice {p : Program} {l : Launch} {e : Env} {s : State} {m : MethodId} {args : Array Value} {below : List Frame} {meth : Method} {c : Code} {D : va_G} {g : GT} {A : Nat → Prop} {a : Nat → Nat} {b : Nat → Nat → Nat} (X : vC p s m args meth c D g A RX11 wsX11_stepPrice cX11_stepPrice 3) (hr : meth.sig.returnType = (some .int)) {p0 : Int} {M : Mem} {Q : Int → Mem → Prop} (hw : wpe_X11_stepPrice p0 M Q) : vV p l e ({ frames := 7, cells := 0, slots := 0, locals := 170 } : Room) s m args below meth c D g A a b 3 0 0 (MQ below (cQi D g A a b Q) args s 0 0 A) M [(0, .ref (a 13)), (1, iv p0)] 0 [] := by
  unfold wpe_X11_stepPrice at hw
  refine V_aload_n X dX11_stepPrice_0 rfl (q := 0) rfl ?_
  refine V_iload_n X dX11_stepPrice_1 rfl (q := 1) rfl ?_
  refine V_callV_i X _ gO_13 rfl (As := [iv p0]) (st := []) (c_X11_isStep l hw) (cwV 1 X.2.2.2.1 gX11_stepPrice_X11_isStep rfl rfl rfl (by decide +kernel) ⟨Nat.le_of_ble_eq_true rfl, Nat.le_of_ble_eq_true rfl⟩) rfl (Nat.le_of_ble_eq_true rfl) ⟨Nat.le_of_ble_eq_true rfl, Nat.le_of_ble_eq_true rfl⟩ rfl dX11_stepPrice_2 (fun y1 M2 hw => ?_)
  obtain ⟨h3, hw⟩ := hw
  refine V_if_ne (tgt := 10) X h3 dX11_stepPrice_5 (by decide) (fun q4 => ?_) (fun q4 => ?_)
  · have hw := hw.1 q4
    refine V_aload_n X dX11_stepPrice_10 rfl (q := 0) rfl ?_
    refine V_get (C := RX11) (T := TX11) (N := 24) (ci := 11) X hi_X11_stepPrice_11 gO_13 rfl 14 (by decide) lk_X11_stepPrice_f54 (fun _ h9 => h9) rfl dX11_stepPrice_11 ?_
    refine V_iload_n X dX11_stepPrice_14 rfl (q := 1) rfl ?_
    obtain ⟨h5, hw⟩ := hw
    refine V_iald X (gA_13_14) h5 (by decide) dX11_stepPrice_15 ?_
    refine V_top (fun y6 ey6 => ?_)
    have hw := hw y6 ey6
    refine V_istore_n (lv1 := [(0, .ref (a 13)), (1, iv p0), (2, iv y6)]) X [1, 2, 0] dX11_stepPrice_16 rfl (by decide) rfl ?_
    refine V_iload_n X dX11_stepPrice_17 rfl (q := 2) rfl ?_
    refine V_iconst X dX11_stepPrice_18 ?_
    obtain ⟨h7, hw⟩ := hw
    refine V_icmp_ne (tgt := 37) X h7 ⟨by decide, by decide⟩ dX11_stepPrice_19 (by decide) (fun q8 => ?_) (fun q8 => ?_)
    · have hw := hw.1 q8
      refine V_aload_n X dX11_stepPrice_37 rfl (q := 0) rfl ?_
      refine V_iconst X dX11_stepPrice_38 ?_
      refine V_aload_n X dX11_stepPrice_39 rfl (q := 0) rfl ?_
      refine V_get (C := RX11) (T := TX11) (N := 24) (ci := 11) X hi_X11_stepPrice_11 gO_13 rfl 15 (by decide) lk_X11_stepPrice_f57 (fun _ h9 => h9) rfl dX11_stepPrice_40 ?_
      refine V_iload_n X dX11_stepPrice_43 rfl (q := 1) rfl ?_
      obtain ⟨h9, hw⟩ := hw
      refine V_iald X (gA_13_15) h9 (by decide) dX11_stepPrice_44 ?_
      refine V_iload_n X dX11_stepPrice_45 rfl (q := 2) rfl ?_
      obtain ⟨h10, hw⟩ := hw
      refine V_if_ne (tgt := 53) X h10 dX11_stepPrice_46 (by decide) (fun q11 => ?_) (fun q11 => ?_)
      · have hw := hw.1 q11
        refine V_iconst X dX11_stepPrice_53 ?_
        refine V_sub (lv1 := []) [] rfl ?_
        exact wkj_X11_stepPrice_54 X hr hw
      · have hw := hw.2 q11
        refine V_iconst X dX11_stepPrice_49 ?_
        refine V_goto (tgt := 54) X dX11_stepPrice_50 (by decide) ?_
        refine V_sub (lv1 := []) [] rfl ?_
        exact wkj_X11_stepPrice_54 X hr hw
    · have hw := hw.2 q8
      refine V_aload_n X dX11_stepPrice_22 rfl (q := 0) rfl ?_
      refine V_iconst X dX11_stepPrice_23 ?_
      refine V_aload_n X dX11_stepPrice_24 rfl (q := 0) rfl ?_
      refine V_get (C := RX11) (T := TX11) (N := 24) (ci := 11) X hi_X11_stepPrice_11 gO_13 rfl 15 (by decide) lk_X11_stepPrice_f57 (fun _ h9 => h9) rfl dX11_stepPrice_25 ?_
      refine V_iload_n X dX11_stepPrice_28 rfl (q := 1) rfl ?_
      obtain ⟨h12, hw⟩ := hw
      refine V_iald X (gA_13_15) h12 (by decide) dX11_stepPrice_29 ?_
      refine V_iconst X dX11_stepPrice_30 ?_
      refine V_callV_i X _ gO_13 rfl (As := [iv 1, iv ((M2 13 15 p0.toNat)), iv 0]) (st := []) (c_X11_priceOf l hw) (cwV 3 X.2.2.2.1 gX11_stepPrice_X11_priceOf rfl rfl rfl (by decide +kernel) ⟨Nat.le_of_ble_eq_true rfl, Nat.le_of_ble_eq_true rfl⟩) rfl (Nat.le_of_ble_eq_true rfl) ⟨Nat.le_of_ble_eq_true rfl, Nat.le_of_ble_eq_true rfl⟩ rfl dX11_stepPrice_31 (fun y13 M14 hw => ?_)
      refine V_goto (tgt := 57) X dX11_stepPrice_34 (by decide) ?_
      exact V_iret X hr hw dX11_stepPrice_57
  · have hw := hw.2 q4
    refine V_iconst X dX11_stepPrice_8 ?_
    exact V_iret X hr hw dX11_stepPrice_9
set_option maxHeartbeats 4000000 in
set_option maxRecDepth 100000 in
theorem c_X11_stepPrice (l : Launch) {p0 : Int} {D : va_G} {g : GT} {A : Nat → Prop} {a : Nat → Nat} {b : Nat → Nat → Nat} {M : Mem} {Q : Int → Mem → Prop} (hw : wp_X11_stepPrice M p0 Q) : Met l yX11_stepPrice wsX11_stepPrice ({ frames := 7, cells := 0, slots := 0, locals := 170 } : Room) (cPc D g A a b M [.ref (a 13), iv p0]) (cQi D g A a b Q) 0 0 A := by
  refine Met.ofW (cc := cX11_stepPrice) (maxL := 3) (ret := (some .int)) (by decide) rfl ?_
  intro p e s m args below meth c s₁ B hml hv
  obtain ⟨rfl, hP, hD, hG⟩ := hv
  have X : vC p s m _ meth c D g A RX11 wsX11_stepPrice cX11_stepPrice 3 := ⟨B.exec, B.bytes, findClass_of_methodNamed B.named, atoms_spec (ws := wsX11_stepPrice) B.pre, hG, hml, B.notSynchronized⟩
  have hr := B.returns
  have hl := lv_entry ([.ref (a 13), iv p0]) (n := 3) (Nat.le_of_ble_eq_true rfl)
  rw [lg_entry_eq]
  generalize (lg_sl ([.ref (a 13), iv p0]) ++ List.replicate (3 - (lg_sl ([.ref (a 13), iv p0])).length) Slot.unset).toArray = ls at hl ⊢
  have hl : lv_has ls 3 [(0, .ref (a 13)), (1, iv p0)] := hl
  exact wke_X11_stepPrice X hr  hw s.heap [] ls hP hD va_S.rf hl

set_option maxRecDepth 20000 in
theorem ggX11_movesTo_X11_isNode : GoodIn wsX11_movesTo wsX11_isNode := goodIn_r _ [7, 8, 9, 10, 6, 11, 12, 13, 14, 102, 103, 104, 105, 106, 107, 108, 109, 110, 111, 112, 113, 114, 115, 116, 117, 118, 119, 120, 121, 122, 123, 124, 125] (by decide +kernel) (by decide +kernel)
set_option maxRecDepth 20000 in
theorem gX11_movesTo_X11_isNode : GoodIn wsX11_movesTo (wsV RX11 98 RX11 yX11_isNode wsX11_isNode) := goodIn_app (goodIn_of _ (by decide +kernel)) ggX11_movesTo_X11_isNode
set_option maxRecDepth 20000 in
theorem ggX11_movesTo_X11_goes : GoodIn wsX11_movesTo wsX11_goes := goodIn_r _ [18, 19, 102, 103, 104, 105, 106, 107, 108, 109, 110, 111, 112, 113, 114, 115, 116, 117, 118, 119, 120, 121, 122, 123, 124, 125] (by decide +kernel) (by decide +kernel)
set_option maxRecDepth 20000 in
theorem gX11_movesTo_X11_goes : GoodIn wsX11_movesTo (wsV RX11 87 RX11 yX11_goes wsX11_goes) := goodIn_app (goodIn_of _ (by decide +kernel)) ggX11_movesTo_X11_goes
set_option maxRecDepth 20000 in
theorem ggX11_movesTo_X11_maps : GoodIn wsX11_movesTo wsX11_maps := goodIn_r _ [23, 24, 25, 26, 27, 6, 28, 8, 29, 30, 31, 32, 33, 34, 35, 36, 37, 38, 39, 40, 41, 42, 43, 44, 45, 46, 47, 48, 49, 50, 51, 52, 53, 54, 55, 56, 57, 58, 59, 60, 61, 62, 63, 64, 65, 66, 67, 68, 69, 70, 71, 72, 73, 74, 75, 76, 77, 78, 79, 102, 103, 104, 105, 106, 107, 108, 109, 110, 111, 112, 113, 114, 115, 116, 117, 118, 119, 120, 121, 122, 123, 124, 125] (by decide +kernel) (by decide +kernel)
set_option maxRecDepth 20000 in
theorem gX11_movesTo_X11_maps : GoodIn wsX11_movesTo (wsV RX11 166 RX11 yX11_maps wsX11_maps) := goodIn_app (goodIn_of _ (by decide +kernel)) ggX11_movesTo_X11_maps
set_option maxRecDepth 20000 in
theorem ggX11_movesTo_X11_travels : GoodIn wsX11_movesTo wsX11_travels := goodIn_r _ [83, 84, 1, 8, 36, 85, 86, 87, 88, 6, 89, 24, 67, 90, 91, 92, 93, 49, 61, 35, 94, 95, 96, 97, 44, 45, 46, 47, 48, 76, 77, 78, 79, 102, 103, 104, 105, 106, 107, 108, 109, 110, 111, 112, 113, 114, 115, 116, 117, 118, 119, 120, 121, 122, 123, 124, 125] (by decide +kernel) (by decide +kernel)
set_option maxRecDepth 20000 in
theorem gX11_movesTo_X11_travels : GoodIn wsX11_movesTo (wsV RX11 204 RX11 yX11_travels wsX11_travels) := goodIn_app (goodIn_of _ (by decide +kernel)) ggX11_movesTo_X11_travels
set_option maxRecDepth 20000 in
theorem ggX11_movesTo_X11_place : GoodIn wsX11_movesTo wsX11_place := goodIn_r _ [101, 2, 102, 103, 104, 105, 106, 107, 108, 109, 110, 111, 112, 113, 114, 115, 116, 117, 118, 119, 120, 121, 122, 123, 124, 125] (by decide +kernel) (by decide +kernel)
set_option maxRecDepth 20000 in
theorem gX11_movesTo_X11_place : GoodIn wsX11_movesTo (wsV RX11 102 RX11 yX11_place wsX11_place) := goodIn_app (goodIn_of _ (by decide +kernel)) ggX11_movesTo_X11_place
theorem dX11_movesTo_0 : decode cX11_movesTo 0 = .ok (.aload_n 0, 1) := by decide +kernel
theorem dX11_movesTo_1 : decode cX11_movesTo 1 = .ok (.aload_n 0, 1) := by decide +kernel
theorem dX11_movesTo_2 : decode cX11_movesTo 2 = .ok (.iconst 0, 1) := by decide +kernel
theorem dX11_movesTo_3 : decode cX11_movesTo 3 = .ok (.iload_n 1, 1) := by decide +kernel
theorem dX11_movesTo_4 : decode cX11_movesTo 4 = .ok (.invokevirtual 98, 3) := by decide +kernel
theorem dX11_movesTo_7 : decode cX11_movesTo 7 = .ok (.iconst 1, 1) := by decide +kernel
theorem dX11_movesTo_8 : decode cX11_movesTo 8 = .ok (.iconst 1, 1) := by decide +kernel
theorem dX11_movesTo_9 : decode cX11_movesTo 9 = .ok (.invokevirtual 87, 3) := by decide +kernel
theorem dX11_movesTo_12 : decode cX11_movesTo 12 = .ok (.ifCond .ne 5, 3) := by decide +kernel
theorem dX11_movesTo_15 : decode cX11_movesTo 15 = .ok (.iconst 0, 1) := by decide +kernel
theorem dX11_movesTo_16 : decode cX11_movesTo 16 = .ok (.ireturn, 1) := by decide +kernel
theorem dX11_movesTo_17 : decode cX11_movesTo 17 = .ok (.aload_n 0, 1) := by decide +kernel
theorem dX11_movesTo_18 : decode cX11_movesTo 18 = .ok (.aload_n 0, 1) := by decide +kernel
theorem dX11_movesTo_19 : decode cX11_movesTo 19 = .ok (.invokevirtual 166, 3) := by decide +kernel
theorem dX11_movesTo_22 : decode cX11_movesTo 22 = .ok (.invokevirtual 204, 3) := by decide +kernel
theorem dX11_movesTo_25 : decode cX11_movesTo 25 = .ok (.istore_n 2, 1) := by decide +kernel
theorem dX11_movesTo_26 : decode cX11_movesTo 26 = .ok (.aload_n 0, 1) := by decide +kernel
theorem dX11_movesTo_27 : decode cX11_movesTo 27 = .ok (.getfield 41, 3) := by decide +kernel
theorem dX11_movesTo_30 : decode cX11_movesTo 30 = .ok (.aload_n 0, 1) := by decide +kernel
theorem dX11_movesTo_31 : decode cX11_movesTo 31 = .ok (.iconst 0, 1) := by decide +kernel
theorem dX11_movesTo_32 : decode cX11_movesTo 32 = .ok (.iload_n 1, 1) := by decide +kernel
theorem dX11_movesTo_33 : decode cX11_movesTo 33 = .ok (.invokevirtual 102, 3) := by decide +kernel
theorem dX11_movesTo_36 : decode cX11_movesTo 36 = .ok (.iaload, 1) := by decide +kernel
theorem dX11_movesTo_37 : decode cX11_movesTo 37 = .ok (.istore_n 3, 1) := by decide +kernel
theorem dX11_movesTo_38 : decode cX11_movesTo 38 = .ok (.iload_n 3, 1) := by decide +kernel
theorem dX11_movesTo_39 : decode cX11_movesTo 39 = .ok (.iconst (-1), 1) := by decide +kernel
theorem dX11_movesTo_40 : decode cX11_movesTo 40 = .ok (.if_icmp .ne 7, 3) := by decide +kernel
theorem dX11_movesTo_43 : decode cX11_movesTo 43 = .ok (.iconst (-1), 1) := by decide +kernel
theorem dX11_movesTo_44 : decode cX11_movesTo 44 = .ok (.goto 12, 3) := by decide +kernel
theorem dX11_movesTo_47 : decode cX11_movesTo 47 = .ok (.aload_n 0, 1) := by decide +kernel
theorem dX11_movesTo_48 : decode cX11_movesTo 48 = .ok (.getfield 7, 3) := by decide +kernel
theorem dX11_movesTo_51 : decode cX11_movesTo 51 = .ok (.bipush 12, 2) := by decide +kernel
theorem dX11_movesTo_53 : decode cX11_movesTo 53 = .ok (.iload_n 3, 1) := by decide +kernel
theorem dX11_movesTo_54 : decode cX11_movesTo 54 = .ok (.iadd, 1) := by decide +kernel
theorem dX11_movesTo_55 : decode cX11_movesTo 55 = .ok (.iaload, 1) := by decide +kernel
theorem dX11_movesTo_56 : decode cX11_movesTo 56 = .ok (.ireturn, 1) := by decide +kernel
theorem lk_X11_movesTo_f41 : Cond.fieldLink RX11 41 "TreeComparerModel" "moved" "[I" ∈ wsX11_movesTo := by decide +kernel
theorem hi_X11_movesTo_11 : ∀ w ∈ u_ws RX11 TX11 24, w ∈ wsX11_movesTo := by decide +kernel
theorem lk_X11_movesTo_f7 : Cond.fieldLink RX11 7 "TreeComparerModel" "node" "[I" ∈ wsX11_movesTo := by decide +kernel
def wpe_X11_movesTo (p0 : Int) (M : Mem) (Q : Int → Mem → Prop) : Prop := wp_X11_isNode M 0 p0 (fun y1 M2 => wp_X11_goes M2 y1 1 1 (fun y3 M4 => inR y3 ∧ ((y3 ≠ 0 → wp_X11_maps M4 (fun y7 M8 => wp_X11_travels M8 y7 (fun y9 M10 => wp_X11_place M10 0 p0 (fun y11 M12 => ((0 : Int) ≤ y11 ∧ y11 < 12) ∧ (∀ y14 : Int, y14 = (M12 13 10 y11.toNat) → inR y14 ∧ ((y14 ≠ (-1) → ((0 : Int) ≤ 12 + y14 ∧ 12 + y14 < 24) ∧ Q ((M12 13 0 (12 + y14).toNat)) M12) ∧ (¬ (y14 ≠ (-1)) → Q (-1) M12))))))) ∧ (¬ (y3 ≠ 0) → Q 0 M4))))
def wp_X11_movesTo (M : Mem) (p0 : Int) (Q : Int → Mem → Prop) : Prop := wpe_X11_movesTo p0 M Q
set_option maxHeartbeats 4000000 in
set_option maxRecDepth 100000 in
theorem wke_X11_movesTo {p : Program} {l : Launch} {e : Env} {s : State} {m : MethodId} {args : Array Value} {below : List Frame} {meth : Method} {c : Code} {D : va_G} {g : GT} {A : Nat → Prop} {a : Nat → Nat} {b : Nat → Nat → Nat} (X : vC p s m args meth c D g A RX11 wsX11_movesTo cX11_movesTo 4) (hr : meth.sig.returnType = (some .int)) {p0 : Int} {M : Mem} {Q : Int → Mem → Prop} (hw : wpe_X11_movesTo p0 M Q) : vV p l e ({ frames := 5, cells := 0, slots := 0, locals := 126 } : Room) s m args below meth c D g A a b 4 0 0 (MQ below (cQi D g A a b Q) args s 0 0 A) M [(0, .ref (a 13)), (1, iv p0)] 0 [] := by
  unfold wpe_X11_movesTo at hw
  refine V_aload_n X dX11_movesTo_0 rfl (q := 0) rfl ?_
  refine V_aload_n X dX11_movesTo_1 rfl (q := 0) rfl ?_
  refine V_iconst X dX11_movesTo_2 ?_
  refine V_iload_n X dX11_movesTo_3 rfl (q := 1) rfl ?_
  refine V_callV_i X _ gO_13 rfl (As := [iv 0, iv p0]) (st := [.ref (a 13)]) (c_X11_isNode l hw) (cwV 2 X.2.2.2.1 gX11_movesTo_X11_isNode rfl rfl rfl (by decide +kernel) ⟨Nat.le_of_ble_eq_true rfl, Nat.le_of_ble_eq_true rfl⟩) rfl (Nat.le_of_ble_eq_true rfl) ⟨Nat.le_of_ble_eq_true rfl, Nat.le_of_ble_eq_true rfl⟩ rfl dX11_movesTo_4 (fun y1 M2 hw => ?_)
  refine V_iconst X dX11_movesTo_7 ?_
  refine V_iconst X dX11_movesTo_8 ?_
  refine V_callV_i X _ gO_13 rfl (As := [iv y1, iv 1, iv 1]) (st := []) (c_X11_goes l hw) (cwV 3 X.2.2.2.1 gX11_movesTo_X11_goes rfl rfl rfl (by decide +kernel) ⟨Nat.le_of_ble_eq_true rfl, Nat.le_of_ble_eq_true rfl⟩) rfl (Nat.le_of_ble_eq_true rfl) ⟨Nat.le_of_ble_eq_true rfl, Nat.le_of_ble_eq_true rfl⟩ rfl dX11_movesTo_9 (fun y3 M4 hw => ?_)
  obtain ⟨h5, hw⟩ := hw
  refine V_if_ne (tgt := 17) X h5 dX11_movesTo_12 (by decide) (fun q6 => ?_) (fun q6 => ?_)
  · have hw := hw.1 q6
    refine V_aload_n X dX11_movesTo_17 rfl (q := 0) rfl ?_
    refine V_aload_n X dX11_movesTo_18 rfl (q := 0) rfl ?_
    refine V_callV_i X _ gO_13 rfl (As := []) (st := [.ref (a 13)]) (c_X11_maps l hw) (cwV 0 X.2.2.2.1 gX11_movesTo_X11_maps rfl rfl rfl (by decide +kernel) ⟨Nat.le_of_ble_eq_true rfl, Nat.le_of_ble_eq_true rfl⟩) rfl (Nat.le_of_ble_eq_true rfl) ⟨Nat.le_of_ble_eq_true rfl, Nat.le_of_ble_eq_true rfl⟩ rfl dX11_movesTo_19 (fun y7 M8 hw => ?_)
    refine V_callV_i X _ gO_13 rfl (As := [iv y7]) (st := []) (c_X11_travels l hw) (cwV 1 X.2.2.2.1 gX11_movesTo_X11_travels rfl rfl rfl (by decide +kernel) ⟨Nat.le_of_ble_eq_true rfl, Nat.le_of_ble_eq_true rfl⟩) rfl (Nat.le_of_ble_eq_true rfl) ⟨Nat.le_of_ble_eq_true rfl, Nat.le_of_ble_eq_true rfl⟩ rfl dX11_movesTo_22 (fun y9 M10 hw => ?_)
    refine V_istore_n (lv1 := [(0, .ref (a 13)), (1, iv p0), (2, iv y9)]) X [1, 2, 0] dX11_movesTo_25 rfl (by decide) rfl ?_
    refine V_aload_n X dX11_movesTo_26 rfl (q := 0) rfl ?_
    refine V_get (C := RX11) (T := TX11) (N := 24) (ci := 11) X hi_X11_movesTo_11 gO_13 rfl 10 (by decide) lk_X11_movesTo_f41 (fun _ h9 => h9) rfl dX11_movesTo_27 ?_
    refine V_aload_n X dX11_movesTo_30 rfl (q := 0) rfl ?_
    refine V_iconst X dX11_movesTo_31 ?_
    refine V_iload_n X dX11_movesTo_32 rfl (q := 1) rfl ?_
    refine V_callV_i X _ gO_13 rfl (As := [iv 0, iv p0]) (st := [.ref (b 13 10)]) (c_X11_place l hw) (cwV 2 X.2.2.2.1 gX11_movesTo_X11_place rfl rfl rfl (by decide +kernel) ⟨Nat.le_of_ble_eq_true rfl, Nat.le_of_ble_eq_true rfl⟩) rfl (Nat.le_of_ble_eq_true rfl) ⟨Nat.le_of_ble_eq_true rfl, Nat.le_of_ble_eq_true rfl⟩ rfl dX11_movesTo_33 (fun y11 M12 hw => ?_)
    obtain ⟨h13, hw⟩ := hw
    refine V_iald X (gA_13_10) h13 (by decide) dX11_movesTo_36 ?_
    refine V_top (fun y14 ey14 => ?_)
    have hw := hw y14 ey14
    refine V_istore_n (lv1 := [(0, .ref (a 13)), (1, iv p0), (2, iv y9), (3, iv y14)]) X [1, 2, 3, 0] dX11_movesTo_37 rfl (by decide) rfl ?_
    refine V_iload_n X dX11_movesTo_38 rfl (q := 3) rfl ?_
    refine V_iconst X dX11_movesTo_39 ?_
    obtain ⟨h15, hw⟩ := hw
    refine V_icmp_ne (tgt := 47) X h15 ⟨by decide, by decide⟩ dX11_movesTo_40 (by decide) (fun q16 => ?_) (fun q16 => ?_)
    · have hw := hw.1 q16
      refine V_aload_n X dX11_movesTo_47 rfl (q := 0) rfl ?_
      refine V_get (C := RX11) (T := TX11) (N := 24) (ci := 11) X hi_X11_movesTo_11 gO_13 rfl 0 (by decide) lk_X11_movesTo_f7 (fun _ h9 => h9) rfl dX11_movesTo_48 ?_
      refine V_bipush X dX11_movesTo_51 rfl ?_
      refine V_iload_n X dX11_movesTo_53 rfl (q := 3) rfl ?_
      refine V_iadd X dX11_movesTo_54 ?_
      obtain ⟨h17, hw⟩ := hw
      refine V_iald X (gA_13_0) h17 (by decide) dX11_movesTo_55 ?_
      exact V_iret X hr hw dX11_movesTo_56
    · have hw := hw.2 q16
      refine V_iconst X dX11_movesTo_43 ?_
      refine V_goto (tgt := 56) X dX11_movesTo_44 (by decide) ?_
      exact V_iret X hr hw dX11_movesTo_56
  · have hw := hw.2 q6
    refine V_iconst X dX11_movesTo_15 ?_
    exact V_iret X hr hw dX11_movesTo_16
set_option maxHeartbeats 4000000 in
set_option maxRecDepth 100000 in
theorem c_X11_movesTo (l : Launch) {p0 : Int} {D : va_G} {g : GT} {A : Nat → Prop} {a : Nat → Nat} {b : Nat → Nat → Nat} {M : Mem} {Q : Int → Mem → Prop} (hw : wp_X11_movesTo M p0 Q) : Met l yX11_movesTo wsX11_movesTo ({ frames := 5, cells := 0, slots := 0, locals := 126 } : Room) (cPc D g A a b M [.ref (a 13), iv p0]) (cQi D g A a b Q) 0 0 A := by
  refine Met.ofW (cc := cX11_movesTo) (maxL := 4) (ret := (some .int)) (by decide) rfl ?_
  intro p e s m args below meth c s₁ B hml hv
  obtain ⟨rfl, hP, hD, hG⟩ := hv
  have X : vC p s m _ meth c D g A RX11 wsX11_movesTo cX11_movesTo 4 := ⟨B.exec, B.bytes, findClass_of_methodNamed B.named, atoms_spec (ws := wsX11_movesTo) B.pre, hG, hml, B.notSynchronized⟩
  have hr := B.returns
  have hl := lv_entry ([.ref (a 13), iv p0]) (n := 4) (Nat.le_of_ble_eq_true rfl)
  rw [lg_entry_eq]
  generalize (lg_sl ([.ref (a 13), iv p0]) ++ List.replicate (4 - (lg_sl ([.ref (a 13), iv p0])).length) Slot.unset).toArray = ls at hl ⊢
  have hl : lv_has ls 4 [(0, .ref (a 13)), (1, iv p0)] := hl
  exact wke_X11_movesTo X hr  hw s.heap [] ls hP hD va_S.rf hl

set_option maxRecDepth 20000 in
theorem ggX11_areEqual_X11_measures : GoodIn wsX11_areEqual wsX11_measures := goodIn_r _ [5, 6, 7, 8, 35, 36, 37, 38, 39, 40, 41, 42, 43, 44, 45, 46, 47, 48, 49, 50, 51, 52, 53, 54, 55, 56, 57, 58] (by decide +kernel) (by decide +kernel)
set_option maxRecDepth 20000 in
theorem gX11_areEqual_X11_measures : GoodIn wsX11_areEqual (wsV RX11 95 RX11 yX11_measures wsX11_measures) := goodIn_app (goodIn_of _ (by decide +kernel)) ggX11_areEqual_X11_measures
set_option maxRecDepth 20000 in
theorem ggX11_areEqual_X11_isNode : GoodIn wsX11_areEqual wsX11_isNode := goodIn_r _ [12, 6, 13, 14, 4, 15, 16, 17, 18, 35, 36, 37, 38, 39, 40, 41, 42, 43, 44, 45, 46, 47, 48, 49, 50, 51, 52, 53, 54, 55, 56, 57, 58] (by decide +kernel) (by decide +kernel)
set_option maxRecDepth 20000 in
theorem gX11_areEqual_X11_isNode : GoodIn wsX11_areEqual (wsV RX11 98 RX11 yX11_isNode wsX11_isNode) := goodIn_app (goodIn_of _ (by decide +kernel)) ggX11_areEqual_X11_isNode
set_option maxRecDepth 20000 in
theorem ggX11_areEqual_X11_goes : GoodIn wsX11_areEqual wsX11_goes := goodIn_r _ [22, 23, 35, 36, 37, 38, 39, 40, 41, 42, 43, 44, 45, 46, 47, 48, 49, 50, 51, 52, 53, 54, 55, 56, 57, 58] (by decide +kernel) (by decide +kernel)
set_option maxRecDepth 20000 in
theorem gX11_areEqual_X11_goes : GoodIn wsX11_areEqual (wsV RX11 87 RX11 yX11_goes wsX11_goes) := goodIn_app (goodIn_of _ (by decide +kernel)) ggX11_areEqual_X11_goes
set_option maxRecDepth 20000 in
theorem ggX11_areEqual_X11_place : GoodIn wsX11_areEqual wsX11_place := goodIn_r _ [27, 28, 35, 36, 37, 38, 39, 40, 41, 42, 43, 44, 45, 46, 47, 48, 49, 50, 51, 52, 53, 54, 55, 56, 57, 58] (by decide +kernel) (by decide +kernel)
set_option maxRecDepth 20000 in
theorem gX11_areEqual_X11_place : GoodIn wsX11_areEqual (wsV RX11 102 RX11 yX11_place wsX11_place) := goodIn_app (goodIn_of _ (by decide +kernel)) ggX11_areEqual_X11_place
set_option maxRecDepth 20000 in
theorem ggX11_areEqual_X11_isSame : GoodIn wsX11_areEqual wsX11_isSame := goodIn_r _ [32, 8, 33, 34, 7, 35, 36, 37, 38, 39, 40, 41, 42, 43, 44, 45, 46, 47, 48, 49, 50, 51, 52, 53, 54, 55, 56, 57, 58] (by decide +kernel) (by decide +kernel)
set_option maxRecDepth 20000 in
theorem gX11_areEqual_X11_isSame : GoodIn wsX11_areEqual (wsV RX11 198 RX11 yX11_isSame wsX11_isSame) := goodIn_app (goodIn_of _ (by decide +kernel)) ggX11_areEqual_X11_isSame
theorem dX11_areEqual_0 : decode cX11_areEqual 0 = .ok (.aload_n 0, 1) := by decide +kernel
theorem dX11_areEqual_1 : decode cX11_areEqual 1 = .ok (.invokevirtual 95, 3) := by decide +kernel
theorem dX11_areEqual_4 : decode cX11_areEqual 4 = .ok (.aload_n 0, 1) := by decide +kernel
theorem dX11_areEqual_5 : decode cX11_areEqual 5 = .ok (.aload_n 0, 1) := by decide +kernel
theorem dX11_areEqual_6 : decode cX11_areEqual 6 = .ok (.iconst 0, 1) := by decide +kernel
theorem dX11_areEqual_7 : decode cX11_areEqual 7 = .ok (.iload_n 1, 1) := by decide +kernel
theorem dX11_areEqual_8 : decode cX11_areEqual 8 = .ok (.invokevirtual 98, 3) := by decide +kernel
theorem dX11_areEqual_11 : decode cX11_areEqual 11 = .ok (.ifCond .eq 16, 3) := by decide +kernel
theorem dX11_areEqual_14 : decode cX11_areEqual 14 = .ok (.aload_n 0, 1) := by decide +kernel
theorem dX11_areEqual_15 : decode cX11_areEqual 15 = .ok (.iconst 1, 1) := by decide +kernel
theorem dX11_areEqual_16 : decode cX11_areEqual 16 = .ok (.iload_n 2, 1) := by decide +kernel
theorem dX11_areEqual_17 : decode cX11_areEqual 17 = .ok (.invokevirtual 98, 3) := by decide +kernel
theorem dX11_areEqual_20 : decode cX11_areEqual 20 = .ok (.ifCond .eq 7, 3) := by decide +kernel
theorem dX11_areEqual_23 : decode cX11_areEqual 23 = .ok (.iconst 1, 1) := by decide +kernel
theorem dX11_areEqual_24 : decode cX11_areEqual 24 = .ok (.goto 4, 3) := by decide +kernel
theorem dX11_areEqual_27 : decode cX11_areEqual 27 = .ok (.iconst 0, 1) := by decide +kernel
theorem dX11_areEqual_28 : decode cX11_areEqual 28 = .ok (.iconst 1, 1) := by decide +kernel
theorem dX11_areEqual_29 : decode cX11_areEqual 29 = .ok (.iconst 1, 1) := by decide +kernel
theorem dX11_areEqual_30 : decode cX11_areEqual 30 = .ok (.invokevirtual 87, 3) := by decide +kernel
theorem dX11_areEqual_33 : decode cX11_areEqual 33 = .ok (.ifCond .eq 29, 3) := by decide +kernel
theorem dX11_areEqual_36 : decode cX11_areEqual 36 = .ok (.aload_n 0, 1) := by decide +kernel
theorem dX11_areEqual_37 : decode cX11_areEqual 37 = .ok (.aload_n 0, 1) := by decide +kernel
theorem dX11_areEqual_38 : decode cX11_areEqual 38 = .ok (.iconst 0, 1) := by decide +kernel
theorem dX11_areEqual_39 : decode cX11_areEqual 39 = .ok (.iload_n 1, 1) := by decide +kernel
theorem dX11_areEqual_40 : decode cX11_areEqual 40 = .ok (.invokevirtual 102, 3) := by decide +kernel
theorem dX11_areEqual_43 : decode cX11_areEqual 43 = .ok (.bipush 12, 2) := by decide +kernel
theorem dX11_areEqual_45 : decode cX11_areEqual 45 = .ok (.aload_n 0, 1) := by decide +kernel
theorem dX11_areEqual_46 : decode cX11_areEqual 46 = .ok (.iconst 1, 1) := by decide +kernel
theorem dX11_areEqual_47 : decode cX11_areEqual 47 = .ok (.iload_n 2, 1) := by decide +kernel
theorem dX11_areEqual_48 : decode cX11_areEqual 48 = .ok (.invokevirtual 102, 3) := by decide +kernel
theorem dX11_areEqual_51 : decode cX11_areEqual 51 = .ok (.iadd, 1) := by decide +kernel
theorem dX11_areEqual_52 : decode cX11_areEqual 52 = .ok (.invokevirtual 198, 3) := by decide +kernel
theorem dX11_areEqual_55 : decode cX11_areEqual 55 = .ok (.ifCond .eq 7, 3) := by decide +kernel
theorem dX11_areEqual_58 : decode cX11_areEqual 58 = .ok (.iconst 1, 1) := by decide +kernel
theorem dX11_areEqual_59 : decode cX11_areEqual 59 = .ok (.goto 4, 3) := by decide +kernel
theorem dX11_areEqual_62 : decode cX11_areEqual 62 = .ok (.iconst 0, 1) := by decide +kernel
theorem dX11_areEqual_63 : decode cX11_areEqual 63 = .ok (.ireturn, 1) := by decide +kernel
def wpj_X11_areEqual_28 (p0 : Int) (p1 : Int) (s0 : Int) (M : Mem) (Q : Int → Mem → Prop) : Prop := wp_X11_goes M s0 1 1 (fun y11 M12 => inR y11 ∧ ((y11 = 0 → Q 0 M12) ∧ (¬ (y11 = 0) → wp_X11_place M12 0 p0 (fun y15 M16 => wp_X11_place M16 1 p1 (fun y17 M18 => wp_X11_isSame M18 y15 (12 + y17) (fun y19 M20 => inR y19 ∧ ((y19 = 0 → Q 0 M20) ∧ (¬ (y19 = 0) → Q 1 M20))))))))
def wpj_X11_areEqual_27 (p0 : Int) (p1 : Int) (M : Mem) (Q : Int → Mem → Prop) : Prop := wpj_X11_areEqual_28 p0 p1 0 M Q
def wpe_X11_areEqual (p0 : Int) (p1 : Int) (M : Mem) (Q : Int → Mem → Prop) : Prop := wp_X11_measures M (fun M2 => wp_X11_isNode M2 0 p0 (fun y3 M4 => inR y3 ∧ ((y3 = 0 → wpj_X11_areEqual_27 p0 p1 M4 Q) ∧ (¬ (y3 = 0) → wp_X11_isNode M4 1 p1 (fun y7 M8 => inR y7 ∧ ((y7 = 0 → wpj_X11_areEqual_27 p0 p1 M8 Q) ∧ (¬ (y7 = 0) → wpj_X11_areEqual_28 p0 p1 1 M8 Q)))))))
def wp_X11_areEqual (M : Mem) (p0 : Int) (p1 : Int) (Q : Int → Mem → Prop) : Prop := wpe_X11_areEqual p0 p1 M Q
set_option maxHeartbeats 4000000 in
set_option maxRecDepth 100000 in
theorem wkj_X11_areEqual_28 {p : Program} {l : Launch} {e : Env} {s : State} {m : MethodId} {args : Array Value} {below : List Frame} {meth : Method} {c : Code} {D : va_G} {g : GT} {A : Nat → Prop} {a : Nat → Nat} {b : Nat → Nat → Nat} (X : vC p s m args meth c D g A RX11 wsX11_areEqual cX11_areEqual 3) (hr : meth.sig.returnType = (some .boolean)) {p0 : Int} {p1 : Int} {s0 : Int} {M : Mem} {Q : Int → Mem → Prop} (hw : wpj_X11_areEqual_28 p0 p1 s0 M Q) : vV p l e ({ frames := 3, cells := 0, slots := 0, locals := 64 } : Room) s m args below meth c D g A a b 3 0 0 (MQ below (cQi D g A a b Q) args s 0 0 A) M [(0, .ref (a 13)), (1, iv p0), (2, iv p1)] 28 [iv s0, .ref (a 13)] := by
  unfold wpj_X11_areEqual_28 at hw
  refine V_iconst X dX11_areEqual_28 ?_
  refine V_iconst X dX11_areEqual_29 ?_
  refine V_callV_i X _ gO_13 rfl (As := [iv s0, iv 1, iv 1]) (st := []) (c_X11_goes l hw) (cwV 3 X.2.2.2.1 gX11_areEqual_X11_goes rfl rfl rfl (by decide +kernel) ⟨Nat.le_of_ble_eq_true rfl, Nat.le_of_ble_eq_true rfl⟩) rfl (Nat.le_of_ble_eq_true rfl) ⟨Nat.le_of_ble_eq_true rfl, Nat.le_of_ble_eq_true rfl⟩ rfl dX11_areEqual_30 (fun y11 M12 hw => ?_)
  obtain ⟨h13, hw⟩ := hw
  refine V_if_eq (tgt := 62) X h13 dX11_areEqual_33 (by decide) (fun q14 => ?_) (fun q14 => ?_)
  · have hw := hw.1 q14
    refine V_iconst X dX11_areEqual_62 ?_
    exact V_zret X hr (by decide) hw dX11_areEqual_63
  · have hw := hw.2 q14
    refine V_aload_n X dX11_areEqual_36 rfl (q := 0) rfl ?_
    refine V_aload_n X dX11_areEqual_37 rfl (q := 0) rfl ?_
    refine V_iconst X dX11_areEqual_38 ?_
    refine V_iload_n X dX11_areEqual_39 rfl (q := 1) rfl ?_
    refine V_callV_i X _ gO_13 rfl (As := [iv 0, iv p0]) (st := [.ref (a 13)]) (c_X11_place l hw) (cwV 2 X.2.2.2.1 gX11_areEqual_X11_place rfl rfl rfl (by decide +kernel) ⟨Nat.le_of_ble_eq_true rfl, Nat.le_of_ble_eq_true rfl⟩) rfl (Nat.le_of_ble_eq_true rfl) ⟨Nat.le_of_ble_eq_true rfl, Nat.le_of_ble_eq_true rfl⟩ rfl dX11_areEqual_40 (fun y15 M16 hw => ?_)
    refine V_bipush X dX11_areEqual_43 rfl ?_
    refine V_aload_n X dX11_areEqual_45 rfl (q := 0) rfl ?_
    refine V_iconst X dX11_areEqual_46 ?_
    refine V_iload_n X dX11_areEqual_47 rfl (q := 2) rfl ?_
    refine V_callV_i X _ gO_13 rfl (As := [iv 1, iv p1]) (st := [iv 12, iv y15, .ref (a 13)]) (c_X11_place l hw) (cwV 2 X.2.2.2.1 gX11_areEqual_X11_place rfl rfl rfl (by decide +kernel) ⟨Nat.le_of_ble_eq_true rfl, Nat.le_of_ble_eq_true rfl⟩) rfl (Nat.le_of_ble_eq_true rfl) ⟨Nat.le_of_ble_eq_true rfl, Nat.le_of_ble_eq_true rfl⟩ rfl dX11_areEqual_48 (fun y17 M18 hw => ?_)
    refine V_iadd X dX11_areEqual_51 ?_
    refine V_callV_i X _ gO_13 rfl (As := [iv y15, iv (12 + y17)]) (st := []) (c_X11_isSame l hw) (cwV 2 X.2.2.2.1 gX11_areEqual_X11_isSame rfl rfl rfl (by decide +kernel) ⟨Nat.le_of_ble_eq_true rfl, Nat.le_of_ble_eq_true rfl⟩) rfl (Nat.le_of_ble_eq_true rfl) ⟨Nat.le_of_ble_eq_true rfl, Nat.le_of_ble_eq_true rfl⟩ rfl dX11_areEqual_52 (fun y19 M20 hw => ?_)
    obtain ⟨h21, hw⟩ := hw
    refine V_if_eq (tgt := 62) X h21 dX11_areEqual_55 (by decide) (fun q22 => ?_) (fun q22 => ?_)
    · have hw := hw.1 q22
      refine V_iconst X dX11_areEqual_62 ?_
      exact V_zret X hr (by decide) hw dX11_areEqual_63
    · have hw := hw.2 q22
      refine V_iconst X dX11_areEqual_58 ?_
      refine V_goto (tgt := 63) X dX11_areEqual_59 (by decide) ?_
      exact V_zret X hr (by decide) hw dX11_areEqual_63
set_option maxHeartbeats 4000000 in
set_option maxRecDepth 100000 in
theorem wkj_X11_areEqual_27 {p : Program} {l : Launch} {e : Env} {s : State} {m : MethodId} {args : Array Value} {below : List Frame} {meth : Method} {c : Code} {D : va_G} {g : GT} {A : Nat → Prop} {a : Nat → Nat} {b : Nat → Nat → Nat} (X : vC p s m args meth c D g A RX11 wsX11_areEqual cX11_areEqual 3) (hr : meth.sig.returnType = (some .boolean)) {p0 : Int} {p1 : Int} {M : Mem} {Q : Int → Mem → Prop} (hw : wpj_X11_areEqual_27 p0 p1 M Q) : vV p l e ({ frames := 3, cells := 0, slots := 0, locals := 64 } : Room) s m args below meth c D g A a b 3 0 0 (MQ below (cQi D g A a b Q) args s 0 0 A) M [(0, .ref (a 13)), (1, iv p0), (2, iv p1)] 27 [.ref (a 13)] := by
  unfold wpj_X11_areEqual_27 at hw
  refine V_iconst X dX11_areEqual_27 ?_
  exact wkj_X11_areEqual_28 X hr hw
set_option maxHeartbeats 4000000 in
set_option maxRecDepth 100000 in
theorem wke_X11_areEqual {p : Program} {l : Launch} {e : Env} {s : State} {m : MethodId} {args : Array Value} {below : List Frame} {meth : Method} {c : Code} {D : va_G} {g : GT} {A : Nat → Prop} {a : Nat → Nat} {b : Nat → Nat → Nat} (X : vC p s m args meth c D g A RX11 wsX11_areEqual cX11_areEqual 3) (hr : meth.sig.returnType = (some .boolean)) {p0 : Int} {p1 : Int} {M : Mem} {Q : Int → Mem → Prop} (hw : wpe_X11_areEqual p0 p1 M Q) : vV p l e ({ frames := 3, cells := 0, slots := 0, locals := 64 } : Room) s m args below meth c D g A a b 3 0 0 (MQ below (cQi D g A a b Q) args s 0 0 A) M [(0, .ref (a 13)), (1, iv p0), (2, iv p1)] 0 [] := by
  unfold wpe_X11_areEqual at hw
  refine V_aload_n X dX11_areEqual_0 rfl (q := 0) rfl ?_
  refine V_callV_v X _ gO_13 rfl (As := []) (st := []) (c_X11_measures l hw) (cwV 0 X.2.2.2.1 gX11_areEqual_X11_measures rfl rfl rfl (by decide +kernel) ⟨Nat.le_of_ble_eq_true rfl, Nat.le_of_ble_eq_true rfl⟩) rfl (Nat.le_of_ble_eq_true rfl) ⟨Nat.le_of_ble_eq_true rfl, Nat.le_of_ble_eq_true rfl⟩ rfl dX11_areEqual_1 (fun M2 hw => ?_)
  refine V_aload_n X dX11_areEqual_4 rfl (q := 0) rfl ?_
  refine V_aload_n X dX11_areEqual_5 rfl (q := 0) rfl ?_
  refine V_iconst X dX11_areEqual_6 ?_
  refine V_iload_n X dX11_areEqual_7 rfl (q := 1) rfl ?_
  refine V_callV_i X _ gO_13 rfl (As := [iv 0, iv p0]) (st := [.ref (a 13)]) (c_X11_isNode l hw) (cwV 2 X.2.2.2.1 gX11_areEqual_X11_isNode rfl rfl rfl (by decide +kernel) ⟨Nat.le_of_ble_eq_true rfl, Nat.le_of_ble_eq_true rfl⟩) rfl (Nat.le_of_ble_eq_true rfl) ⟨Nat.le_of_ble_eq_true rfl, Nat.le_of_ble_eq_true rfl⟩ rfl dX11_areEqual_8 (fun y3 M4 hw => ?_)
  obtain ⟨h5, hw⟩ := hw
  refine V_if_eq (tgt := 27) X h5 dX11_areEqual_11 (by decide) (fun q6 => ?_) (fun q6 => ?_)
  · have hw := hw.1 q6
    exact wkj_X11_areEqual_27 X hr hw
  · have hw := hw.2 q6
    refine V_aload_n X dX11_areEqual_14 rfl (q := 0) rfl ?_
    refine V_iconst X dX11_areEqual_15 ?_
    refine V_iload_n X dX11_areEqual_16 rfl (q := 2) rfl ?_
    refine V_callV_i X _ gO_13 rfl (As := [iv 1, iv p1]) (st := [.ref (a 13)]) (c_X11_isNode l hw) (cwV 2 X.2.2.2.1 gX11_areEqual_X11_isNode rfl rfl rfl (by decide +kernel) ⟨Nat.le_of_ble_eq_true rfl, Nat.le_of_ble_eq_true rfl⟩) rfl (Nat.le_of_ble_eq_true rfl) ⟨Nat.le_of_ble_eq_true rfl, Nat.le_of_ble_eq_true rfl⟩ rfl dX11_areEqual_17 (fun y7 M8 hw => ?_)
    obtain ⟨h9, hw⟩ := hw
    refine V_if_eq (tgt := 27) X h9 dX11_areEqual_20 (by decide) (fun q10 => ?_) (fun q10 => ?_)
    · have hw := hw.1 q10
      exact wkj_X11_areEqual_27 X hr hw
    · have hw := hw.2 q10
      refine V_iconst X dX11_areEqual_23 ?_
      refine V_goto (tgt := 28) X dX11_areEqual_24 (by decide) ?_
      exact wkj_X11_areEqual_28 X hr hw
set_option maxHeartbeats 4000000 in
set_option maxRecDepth 100000 in
theorem c_X11_areEqual (l : Launch) {p0 : Int} {p1 : Int} {D : va_G} {g : GT} {A : Nat → Prop} {a : Nat → Nat} {b : Nat → Nat → Nat} {M : Mem} {Q : Int → Mem → Prop} (hw : wp_X11_areEqual M p0 p1 Q) : Met l yX11_areEqual wsX11_areEqual ({ frames := 3, cells := 0, slots := 0, locals := 64 } : Room) (cPc D g A a b M [.ref (a 13), iv p0, iv p1]) (cQi D g A a b Q) 0 0 A := by
  refine Met.ofW (cc := cX11_areEqual) (maxL := 3) (ret := (some .boolean)) (by decide) rfl ?_
  intro p e s m args below meth c s₁ B hml hv
  obtain ⟨rfl, hP, hD, hG⟩ := hv
  have X : vC p s m _ meth c D g A RX11 wsX11_areEqual cX11_areEqual 3 := ⟨B.exec, B.bytes, findClass_of_methodNamed B.named, atoms_spec (ws := wsX11_areEqual) B.pre, hG, hml, B.notSynchronized⟩
  have hr := B.returns
  have hl := lv_entry ([.ref (a 13), iv p0, iv p1]) (n := 3) (Nat.le_of_ble_eq_true rfl)
  rw [lg_entry_eq]
  generalize (lg_sl ([.ref (a 13), iv p0, iv p1]) ++ List.replicate (3 - (lg_sl ([.ref (a 13), iv p0, iv p1])).length) Slot.unset).toArray = ls at hl ⊢
  have hl : lv_has ls 3 [(0, .ref (a 13)), (1, iv p0), (2, iv p1)] := hl
  exact wke_X11_areEqual X hr  hw s.heap [] ls hP hD va_S.rf hl
