set_option maxRecDepth 20000 in
theorem ggX11_childAt_X11_measures : GoodIn wsX11_childAt wsX11_measures := goodIn_r _ [6, 7, 8, 9, 37, 38, 39, 40, 41, 42, 43, 44, 45, 46, 47, 48, 49, 50, 51, 52, 53, 54, 55, 56, 57, 58, 59, 60] (by decide +kernel) (by decide +kernel)
set_option maxRecDepth 20000 in
theorem gX11_childAt_X11_measures : GoodIn wsX11_childAt (wsV RX11 95 RX11 yX11_measures wsX11_measures) := goodIn_app (goodIn_of _ (by decide +kernel)) ggX11_childAt_X11_measures
set_option maxRecDepth 20000 in
theorem ggX11_childAt_X11_isNode : GoodIn wsX11_childAt wsX11_isNode := goodIn_r _ [13, 7, 14, 15, 5, 16, 17, 18, 19, 37, 38, 39, 40, 41, 42, 43, 44, 45, 46, 47, 48, 49, 50, 51, 52, 53, 54, 55, 56, 57, 58, 59, 60] (by decide +kernel) (by decide +kernel)
set_option maxRecDepth 20000 in
theorem gX11_childAt_X11_isNode : GoodIn wsX11_childAt (wsV RX11 98 RX11 yX11_isNode wsX11_isNode) := goodIn_app (goodIn_of _ (by decide +kernel)) ggX11_childAt_X11_isNode
set_option maxRecDepth 20000 in
theorem ggX11_childAt_X11_place : GoodIn wsX11_childAt wsX11_place := goodIn_r _ [23, 1, 37, 38, 39, 40, 41, 42, 43, 44, 45, 46, 47, 48, 49, 50, 51, 52, 53, 54, 55, 56, 57, 58, 59, 60] (by decide +kernel) (by decide +kernel)
set_option maxRecDepth 20000 in
theorem gX11_childAt_X11_place : GoodIn wsX11_childAt (wsV RX11 102 RX11 yX11_place wsX11_place) := goodIn_app (goodIn_of _ (by decide +kernel)) ggX11_childAt_X11_place
set_option maxRecDepth 20000 in
theorem ggX11_childAt_X11_childrenOf : GoodIn wsX11_childAt wsX11_childrenOf := goodIn_r _ [27, 9, 8, 37, 38, 39, 40, 41, 42, 43, 44, 45, 46, 47, 48, 49, 50, 51, 52, 53, 54, 55, 56, 57, 58, 59, 60] (by decide +kernel) (by decide +kernel)
set_option maxRecDepth 20000 in
theorem gX11_childAt_X11_childrenOf : GoodIn wsX11_childAt (wsV RX11 106 RX11 yX11_childrenOf wsX11_childrenOf) := goodIn_app (goodIn_of _ (by decide +kernel)) ggX11_childAt_X11_childrenOf
set_option maxRecDepth 20000 in
theorem ggX11_childAt_X11_in : GoodIn wsX11_childAt wsX11_in := goodIn_r _ [19] (by decide +kernel) (by decide +kernel)
set_option maxRecDepth 20000 in
theorem gX11_childAt_X11_in : GoodIn wsX11_childAt (va_wsS RX11 75 yX11_in wsX11_in) := goodIn_app (goodIn_of _ (by decide +kernel)) ggX11_childAt_X11_in
set_option maxRecDepth 20000 in
theorem ggX11_childAt_X11_goes : GoodIn wsX11_childAt wsX11_goes := goodIn_r _ [31, 32, 37, 38, 39, 40, 41, 42, 43, 44, 45, 46, 47, 48, 49, 50, 51, 52, 53, 54, 55, 56, 57, 58, 59, 60] (by decide +kernel) (by decide +kernel)
set_option maxRecDepth 20000 in
theorem gX11_childAt_X11_goes : GoodIn wsX11_childAt (wsV RX11 87 RX11 yX11_goes wsX11_goes) := goodIn_app (goodIn_of _ (by decide +kernel)) ggX11_childAt_X11_goes
set_option maxRecDepth 20000 in
theorem ggX11_childAt_X11_child : GoodIn wsX11_childAt wsX11_child := goodIn_r _ [36, 9, 37, 38, 39, 40, 41, 42, 43, 44, 45, 46, 47, 48, 49, 50, 51, 52, 53, 54, 55, 56, 57, 58, 59, 60] (by decide +kernel) (by decide +kernel)
set_option maxRecDepth 20000 in
theorem gX11_childAt_X11_child : GoodIn wsX11_childAt (wsV RX11 109 RX11 yX11_child wsX11_child) := goodIn_app (goodIn_of _ (by decide +kernel)) ggX11_childAt_X11_child
theorem dX11_childAt_0 : decode cX11_childAt 0 = .ok (.aload_n 0, 1) := by decide +kernel
theorem dX11_childAt_1 : decode cX11_childAt 1 = .ok (.invokevirtual 95, 3) := by decide +kernel
theorem dX11_childAt_4 : decode cX11_childAt 4 = .ok (.aload_n 0, 1) := by decide +kernel
theorem dX11_childAt_5 : decode cX11_childAt 5 = .ok (.iload_n 1, 1) := by decide +kernel
theorem dX11_childAt_6 : decode cX11_childAt 6 = .ok (.iload_n 2, 1) := by decide +kernel
theorem dX11_childAt_7 : decode cX11_childAt 7 = .ok (.invokevirtual 98, 3) := by decide +kernel
theorem dX11_childAt_10 : decode cX11_childAt 10 = .ok (.istore 4, 2) := by decide +kernel
theorem dX11_childAt_12 : decode cX11_childAt 12 = .ok (.iload 4, 2) := by decide +kernel
theorem dX11_childAt_14 : decode cX11_childAt 14 = .ok (.ifCond .eq 12, 3) := by decide +kernel
theorem dX11_childAt_17 : decode cX11_childAt 17 = .ok (.aload_n 0, 1) := by decide +kernel
theorem dX11_childAt_18 : decode cX11_childAt 18 = .ok (.iload_n 1, 1) := by decide +kernel
theorem dX11_childAt_19 : decode cX11_childAt 19 = .ok (.iload_n 2, 1) := by decide +kernel
theorem dX11_childAt_20 : decode cX11_childAt 20 = .ok (.invokevirtual 102, 3) := by decide +kernel
theorem dX11_childAt_23 : decode cX11_childAt 23 = .ok (.goto 4, 3) := by decide +kernel
theorem dX11_childAt_26 : decode cX11_childAt 26 = .ok (.iconst 0, 1) := by decide +kernel
theorem dX11_childAt_27 : decode cX11_childAt 27 = .ok (.istore 5, 2) := by decide +kernel
theorem dX11_childAt_29 : decode cX11_childAt 29 = .ok (.aload_n 0, 1) := by decide +kernel
theorem dX11_childAt_30 : decode cX11_childAt 30 = .ok (.iload 4, 2) := by decide +kernel
theorem dX11_childAt_32 : decode cX11_childAt 32 = .ok (.ifCond .eq 24, 3) := by decide +kernel
theorem dX11_childAt_35 : decode cX11_childAt 35 = .ok (.iload_n 3, 1) := by decide +kernel
theorem dX11_childAt_36 : decode cX11_childAt 36 = .ok (.iconst 0, 1) := by decide +kernel
theorem dX11_childAt_37 : decode cX11_childAt 37 = .ok (.aload_n 0, 1) := by decide +kernel
theorem dX11_childAt_38 : decode cX11_childAt 38 = .ok (.iload_n 1, 1) := by decide +kernel
theorem dX11_childAt_39 : decode cX11_childAt 39 = .ok (.iload 5, 2) := by decide +kernel
theorem dX11_childAt_41 : decode cX11_childAt 41 = .ok (.invokevirtual 106, 3) := by decide +kernel
theorem dX11_childAt_44 : decode cX11_childAt 44 = .ok (.iconst 1, 1) := by decide +kernel
theorem dX11_childAt_45 : decode cX11_childAt 45 = .ok (.isub, 1) := by decide +kernel
theorem dX11_childAt_46 : decode cX11_childAt 46 = .ok (.invokestatic 75, 3) := by decide +kernel
theorem dX11_childAt_49 : decode cX11_childAt 49 = .ok (.ifCond .eq 7, 3) := by decide +kernel
theorem dX11_childAt_52 : decode cX11_childAt 52 = .ok (.iconst 1, 1) := by decide +kernel
theorem dX11_childAt_53 : decode cX11_childAt 53 = .ok (.goto 4, 3) := by decide +kernel
theorem dX11_childAt_56 : decode cX11_childAt 56 = .ok (.iconst 0, 1) := by decide +kernel
theorem dX11_childAt_57 : decode cX11_childAt 57 = .ok (.iconst 1, 1) := by decide +kernel
theorem dX11_childAt_58 : decode cX11_childAt 58 = .ok (.iconst 1, 1) := by decide +kernel
theorem dX11_childAt_59 : decode cX11_childAt 59 = .ok (.invokevirtual 87, 3) := by decide +kernel
theorem dX11_childAt_62 : decode cX11_childAt 62 = .ok (.ifCond .ne 5, 3) := by decide +kernel
theorem dX11_childAt_65 : decode cX11_childAt 65 = .ok (.iconst 0, 1) := by decide +kernel
theorem dX11_childAt_66 : decode cX11_childAt 66 = .ok (.ireturn, 1) := by decide +kernel
theorem dX11_childAt_67 : decode cX11_childAt 67 = .ok (.aload_n 0, 1) := by decide +kernel
theorem dX11_childAt_68 : decode cX11_childAt 68 = .ok (.getfield 7, 3) := by decide +kernel
theorem dX11_childAt_71 : decode cX11_childAt 71 = .ok (.bipush 12, 2) := by decide +kernel
theorem dX11_childAt_73 : decode cX11_childAt 73 = .ok (.iload_n 1, 1) := by decide +kernel
theorem dX11_childAt_74 : decode cX11_childAt 74 = .ok (.imul, 1) := by decide +kernel
theorem dX11_childAt_75 : decode cX11_childAt 75 = .ok (.aload_n 0, 1) := by decide +kernel
theorem dX11_childAt_76 : decode cX11_childAt 76 = .ok (.iload_n 1, 1) := by decide +kernel
theorem dX11_childAt_77 : decode cX11_childAt 77 = .ok (.iload 5, 2) := by decide +kernel
theorem dX11_childAt_79 : decode cX11_childAt 79 = .ok (.iload_n 3, 1) := by decide +kernel
theorem dX11_childAt_80 : decode cX11_childAt 80 = .ok (.invokevirtual 109, 3) := by decide +kernel
theorem dX11_childAt_83 : decode cX11_childAt 83 = .ok (.iadd, 1) := by decide +kernel
theorem dX11_childAt_84 : decode cX11_childAt 84 = .ok (.iaload, 1) := by decide +kernel
theorem dX11_childAt_85 : decode cX11_childAt 85 = .ok (.ireturn, 1) := by decide +kernel
theorem lk_X11_childAt_f7 : Cond.fieldLink RX11 7 "TreeComparerModel" "node" "[I" ∈ wsX11_childAt := by decide +kernel
theorem hi_X11_childAt_11 : ∀ w ∈ u_ws RX11 TX11 24, w ∈ wsX11_childAt := by decide +kernel
def wpj_X11_childAt_57 (p0 : Int) (p1 : Int) (p2 : Int) (x5 : Int) (s0 : Int) (M : Mem) (Q : Int → Mem → Prop) : Prop := wp_X11_goes M s0 1 1 (fun y17 M18 => inR y17 ∧ ((y17 ≠ 0 → wp_X11_child M18 p0 x5 p2 (fun y21 M22 => ((0 : Int) ≤ (12 * p0) + y21 ∧ (12 * p0) + y21 < 24) ∧ Q ((M22 13 0 ((12 * p0) + y21).toNat)) M22)) ∧ (¬ (y17 ≠ 0) → Q 0 M18)))
def wpj_X11_childAt_56 (p0 : Int) (p1 : Int) (p2 : Int) (x5 : Int) (M : Mem) (Q : Int → Mem → Prop) : Prop := wpj_X11_childAt_57 p0 p1 p2 x5 0 M Q
def wpj_X11_childAt_27 (p0 : Int) (p1 : Int) (p2 : Int) (x4 : Int) (s0 : Int) (M : Mem) (Q : Int → Mem → Prop) : Prop := inR x4 ∧ ((x4 = 0 → wpj_X11_childAt_56 p0 p1 p2 s0 M Q) ∧ (¬ (x4 = 0) → wp_X11_childrenOf M p0 s0 (fun y11 M12 => wp_X11_in M12 p2 0 (y11 - 1) (fun y13 M14 => inR y13 ∧ ((y13 = 0 → wpj_X11_childAt_56 p0 p1 p2 s0 M14 Q) ∧ (¬ (y13 = 0) → wpj_X11_childAt_57 p0 p1 p2 s0 1 M14 Q))))))
def wpe_X11_childAt (p0 : Int) (p1 : Int) (p2 : Int) (M : Mem) (Q : Int → Mem → Prop) : Prop := wp_X11_measures M (fun M2 => wp_X11_isNode M2 p0 p1 (fun y3 M4 => inR y3 ∧ ((y3 = 0 → wpj_X11_childAt_27 p0 p1 p2 y3 0 M4 Q) ∧ (¬ (y3 = 0) → wp_X11_place M4 p0 p1 (fun y7 M8 => wpj_X11_childAt_27 p0 p1 p2 y3 y7 M8 Q)))))
def wp_X11_childAt (M : Mem) (p0 : Int) (p1 : Int) (p2 : Int) (Q : Int → Mem → Prop) : Prop := wpe_X11_childAt p0 p1 p2 M Q
set_option maxHeartbeats 4000000 in
set_option maxRecDepth 100000 in
theorem wkj_X11_childAt_57 {p : Program} {l : Launch} {e : Env} {s : State} {m : MethodId} {args : Array Value} {below : List Frame} {meth : Method} {c : Code} {D : va_G} {g : GT} {A : Nat → Prop} {a : Nat → Nat} {b : Nat → Nat → Nat} (X : vC p s m args meth c D g A RX11 wsX11_childAt cX11_childAt 6) (hr : meth.sig.returnType = (some .int)) {p0 : Int} {p1 : Int} {p2 : Int} {x5 : Int} {s0 : Int} {M : Mem} {Q : Int → Mem → Prop} (hw : wpj_X11_childAt_57 p0 p1 p2 x5 s0 M Q) : vV p l e ({ frames := 3, cells := 0, slots := 0, locals := 64 } : Room) s m args below meth c D g A a b 6 0 0 (MQ below (cQi D g A a b Q) args s 0 0 A) M [(0, .ref (a 13)), (1, iv p0), (3, iv p2), (5, iv x5)] 57 [iv s0, .ref (a 13)] := by
  unfold wpj_X11_childAt_57 at hw
  refine V_iconst X dX11_childAt_57 ?_
  refine V_iconst X dX11_childAt_58 ?_
  refine V_callV_i X _ gO_13 rfl (As := [iv s0, iv 1, iv 1]) (st := []) (c_X11_goes l hw) (cwV 3 X.2.2.2.1 gX11_childAt_X11_goes rfl rfl rfl (by decide +kernel) ⟨Nat.le_of_ble_eq_true rfl, Nat.le_of_ble_eq_true rfl⟩) rfl (Nat.le_of_ble_eq_true rfl) ⟨Nat.le_of_ble_eq_true rfl, Nat.le_of_ble_eq_true rfl⟩ rfl dX11_childAt_59 (fun y17 M18 hw => ?_)
  obtain ⟨h19, hw⟩ := hw
  refine V_if_ne (tgt := 67) X h19 dX11_childAt_62 (by decide) (fun q20 => ?_) (fun q20 => ?_)
  · have hw := hw.1 q20
    refine V_aload_n X dX11_childAt_67 rfl (q := 0) rfl ?_
    refine V_get (C := RX11) (T := TX11) (N := 24) (ci := 11) X hi_X11_childAt_11 gO_13 rfl 0 (by decide) lk_X11_childAt_f7 (fun _ h9 => h9) rfl dX11_childAt_68 ?_
    refine V_bipush X dX11_childAt_71 rfl ?_
    refine V_iload_n X dX11_childAt_73 rfl (q := 1) rfl ?_
    refine V_imul X dX11_childAt_74 ?_
    refine V_aload_n X dX11_childAt_75 rfl (q := 0) rfl ?_
    refine V_iload_n X dX11_childAt_76 rfl (q := 1) rfl ?_
    refine V_iload X dX11_childAt_77 (q := 3) rfl ?_
    refine V_iload_n X dX11_childAt_79 rfl (q := 2) rfl ?_
    refine V_callV_i X _ gO_13 rfl (As := [iv p0, iv x5, iv p2]) (st := [iv (12 * p0), .ref (b 13 0)]) (c_X11_child l hw) (cwV 3 X.2.2.2.1 gX11_childAt_X11_child rfl rfl rfl (by decide +kernel) ⟨Nat.le_of_ble_eq_true rfl, Nat.le_of_ble_eq_true rfl⟩) rfl (Nat.le_of_ble_eq_true rfl) ⟨Nat.le_of_ble_eq_true rfl, Nat.le_of_ble_eq_true rfl⟩ rfl dX11_childAt_80 (fun y21 M22 hw => ?_)
    refine V_iadd X dX11_childAt_83 ?_
    obtain ⟨h23, hw⟩ := hw
    refine V_iald X (gA_13_0) h23 (by decide) dX11_childAt_84 ?_
    exact V_iret X hr hw dX11_childAt_85
  · have hw := hw.2 q20
    refine V_iconst X dX11_childAt_65 ?_
    exact V_iret X hr hw dX11_childAt_66
set_option maxHeartbeats 4000000 in
set_option maxRecDepth 100000 in
theorem wkj_X11_childAt_56 {p : Program} {l : Launch} {e : Env} {s : State} {m : MethodId} {args : Array Value} {below : List Frame} {meth : Method} {c : Code} {D : va_G} {g : GT} {A : Nat → Prop} {a : Nat → Nat} {b : Nat → Nat → Nat} (X : vC p s m args meth c D g A RX11 wsX11_childAt cX11_childAt 6) (hr : meth.sig.returnType = (some .int)) {p0 : Int} {p1 : Int} {p2 : Int} {x5 : Int} {M : Mem} {Q : Int → Mem → Prop} (hw : wpj_X11_childAt_56 p0 p1 p2 x5 M Q) : vV p l e ({ frames := 3, cells := 0, slots := 0, locals := 64 } : Room) s m args below meth c D g A a b 6 0 0 (MQ below (cQi D g A a b Q) args s 0 0 A) M [(0, .ref (a 13)), (1, iv p0), (3, iv p2), (5, iv x5)] 56 [.ref (a 13)] := by
  unfold wpj_X11_childAt_56 at hw
  refine V_iconst X dX11_childAt_56 ?_
  exact wkj_X11_childAt_57 X hr hw
set_option maxHeartbeats 4000000 in
set_option maxRecDepth 100000 in
theorem wkj_X11_childAt_27 {p : Program} {l : Launch} {e : Env} {s : State} {m : MethodId} {args : Array Value} {below : List Frame} {meth : Method} {c : Code} {D : va_G} {g : GT} {A : Nat → Prop} {a : Nat → Nat} {b : Nat → Nat → Nat} (X : vC p s m args meth c D g A RX11 wsX11_childAt cX11_childAt 6) (hr : meth.sig.returnType = (some .int)) {p0 : Int} {p1 : Int} {p2 : Int} {x4 : Int} {s0 : Int} {M : Mem} {Q : Int → Mem → Prop} (hw : wpj_X11_childAt_27 p0 p1 p2 x4 s0 M Q) : vV p l e ({ frames := 3, cells := 0, slots := 0, locals := 64 } : Room) s m args below meth c D g A a b 6 0 0 (MQ below (cQi D g A a b Q) args s 0 0 A) M [(0, .ref (a 13)), (1, iv p0), (3, iv p2), (4, iv x4)] 27 [iv s0] := by
  unfold wpj_X11_childAt_27 at hw
  refine V_istore (lv1 := [(0, .ref (a 13)), (1, iv p0), (3, iv p2), (4, iv x4), (5, iv s0)]) X [1, 2, 3, 4, 0] dX11_childAt_27 (by decide) rfl ?_
  refine V_aload_n X dX11_childAt_29 rfl (q := 0) rfl ?_
  refine V_iload X dX11_childAt_30 (q := 3) rfl ?_
  obtain ⟨h9, hw⟩ := hw
  refine V_if_eq (tgt := 56) X h9 dX11_childAt_32 (by decide) (fun q10 => ?_) (fun q10 => ?_)
  · have hw := hw.1 q10
    refine V_sub (lv1 := [(0, .ref (a 13)), (1, iv p0), (3, iv p2), (5, iv s0)]) [0, 1, 2, 4] rfl ?_
    exact wkj_X11_childAt_56 X hr hw
  · have hw := hw.2 q10
    refine V_iload_n X dX11_childAt_35 rfl (q := 2) rfl ?_
    refine V_iconst X dX11_childAt_36 ?_
    refine V_aload_n X dX11_childAt_37 rfl (q := 0) rfl ?_
    refine V_iload_n X dX11_childAt_38 rfl (q := 1) rfl ?_
    refine V_iload X dX11_childAt_39 (q := 4) rfl ?_
    refine V_callV_i X _ gO_13 rfl (As := [iv p0, iv s0]) (st := [iv 0, iv p2, .ref (a 13)]) (c_X11_childrenOf l hw) (cwV 2 X.2.2.2.1 gX11_childAt_X11_childrenOf rfl rfl rfl (by decide +kernel) ⟨Nat.le_of_ble_eq_true rfl, Nat.le_of_ble_eq_true rfl⟩) rfl (Nat.le_of_ble_eq_true rfl) ⟨Nat.le_of_ble_eq_true rfl, Nat.le_of_ble_eq_true rfl⟩ rfl dX11_childAt_41 (fun y11 M12 hw => ?_)
    refine V_iconst X dX11_childAt_44 ?_
    refine V_isub X dX11_childAt_45 ?_
    refine V_callS_i X _ (As := [iv p2, iv 0, iv (y11 - 1)]) (st := [.ref (a 13)]) (c_X11_in l hw) (va_cwS 3 X.2.2.2.1 gX11_childAt_X11_in rfl rfl rfl (by decide +kernel) ⟨Nat.le_of_ble_eq_true rfl, Nat.le_of_ble_eq_true rfl⟩) rfl (Nat.le_of_ble_eq_true rfl) ⟨Nat.le_of_ble_eq_true rfl, Nat.le_of_ble_eq_true rfl⟩ rfl dX11_childAt_46 (fun y13 M14 hw => ?_)
    obtain ⟨h15, hw⟩ := hw
    refine V_if_eq (tgt := 56) X h15 dX11_childAt_49 (by decide) (fun q16 => ?_) (fun q16 => ?_)
    · have hw := hw.1 q16
      refine V_sub (lv1 := [(0, .ref (a 13)), (1, iv p0), (3, iv p2), (5, iv s0)]) [0, 1, 2, 4] rfl ?_
      exact wkj_X11_childAt_56 X hr hw
    · have hw := hw.2 q16
      refine V_iconst X dX11_childAt_52 ?_
      refine V_goto (tgt := 57) X dX11_childAt_53 (by decide) ?_
      refine V_sub (lv1 := [(0, .ref (a 13)), (1, iv p0), (3, iv p2), (5, iv s0)]) [0, 1, 2, 4] rfl ?_
      exact wkj_X11_childAt_57 X hr hw
set_option maxHeartbeats 4000000 in
set_option maxRecDepth 100000 in
theorem wke_X11_childAt {p : Program} {l : Launch} {e : Env} {s : State} {m : MethodId} {args : Array Value} {below : List Frame} {meth : Method} {c : Code} {D : va_G} {g : GT} {A : Nat → Prop} {a : Nat → Nat} {b : Nat → Nat → Nat} (X : vC p s m args meth c D g A RX11 wsX11_childAt cX11_childAt 6) (hr : meth.sig.returnType = (some .int)) {p0 : Int} {p1 : Int} {p2 : Int} {M : Mem} {Q : Int → Mem → Prop} (hw : wpe_X11_childAt p0 p1 p2 M Q) : vV p l e ({ frames := 3, cells := 0, slots := 0, locals := 64 } : Room) s m args below meth c D g A a b 6 0 0 (MQ below (cQi D g A a b Q) args s 0 0 A) M [(0, .ref (a 13)), (1, iv p0), (2, iv p1), (3, iv p2)] 0 [] := by
  unfold wpe_X11_childAt at hw
  refine V_aload_n X dX11_childAt_0 rfl (q := 0) rfl ?_
  refine V_callV_v X _ gO_13 rfl (As := []) (st := []) (c_X11_measures l hw) (cwV 0 X.2.2.2.1 gX11_childAt_X11_measures rfl rfl rfl (by decide +kernel) ⟨Nat.le_of_ble_eq_true rfl, Nat.le_of_ble_eq_true rfl⟩) rfl (Nat.le_of_ble_eq_true rfl) ⟨Nat.le_of_ble_eq_true rfl, Nat.le_of_ble_eq_true rfl⟩ rfl dX11_childAt_1 (fun M2 hw => ?_)
  refine V_aload_n X dX11_childAt_4 rfl (q := 0) rfl ?_
  refine V_iload_n X dX11_childAt_5 rfl (q := 1) rfl ?_
  refine V_iload_n X dX11_childAt_6 rfl (q := 2) rfl ?_
  refine V_callV_i X _ gO_13 rfl (As := [iv p0, iv p1]) (st := []) (c_X11_isNode l hw) (cwV 2 X.2.2.2.1 gX11_childAt_X11_isNode rfl rfl rfl (by decide +kernel) ⟨Nat.le_of_ble_eq_true rfl, Nat.le_of_ble_eq_true rfl⟩) rfl (Nat.le_of_ble_eq_true rfl) ⟨Nat.le_of_ble_eq_true rfl, Nat.le_of_ble_eq_true rfl⟩ rfl dX11_childAt_7 (fun y3 M4 hw => ?_)
  refine V_istore (lv1 := [(0, .ref (a 13)), (1, iv p0), (2, iv p1), (3, iv p2), (4, iv y3)]) X [1, 2, 3, 4, 0] dX11_childAt_10 (by decide) rfl ?_
  refine V_iload X dX11_childAt_12 (q := 4) rfl ?_
  obtain ⟨h5, hw⟩ := hw
  refine V_if_eq (tgt := 26) X h5 dX11_childAt_14 (by decide) (fun q6 => ?_) (fun q6 => ?_)
  · have hw := hw.1 q6
    refine V_iconst X dX11_childAt_26 ?_
    refine V_sub (lv1 := [(0, .ref (a 13)), (1, iv p0), (3, iv p2), (4, iv y3)]) [0, 1, 3, 4] rfl ?_
    exact wkj_X11_childAt_27 X hr hw
  · have hw := hw.2 q6
    refine V_aload_n X dX11_childAt_17 rfl (q := 0) rfl ?_
    refine V_iload_n X dX11_childAt_18 rfl (q := 1) rfl ?_
    refine V_iload_n X dX11_childAt_19 rfl (q := 2) rfl ?_
    refine V_callV_i X _ gO_13 rfl (As := [iv p0, iv p1]) (st := []) (c_X11_place l hw) (cwV 2 X.2.2.2.1 gX11_childAt_X11_place rfl rfl rfl (by decide +kernel) ⟨Nat.le_of_ble_eq_true rfl, Nat.le_of_ble_eq_true rfl⟩) rfl (Nat.le_of_ble_eq_true rfl) ⟨Nat.le_of_ble_eq_true rfl, Nat.le_of_ble_eq_true rfl⟩ rfl dX11_childAt_20 (fun y7 M8 hw => ?_)
    refine V_goto (tgt := 27) X dX11_childAt_23 (by decide) ?_
    refine V_sub (lv1 := [(0, .ref (a 13)), (1, iv p0), (3, iv p2), (4, iv y3)]) [0, 1, 3, 4] rfl ?_
    exact wkj_X11_childAt_27 X hr hw
set_option maxHeartbeats 4000000 in
set_option maxRecDepth 100000 in
theorem c_X11_childAt (l : Launch) {p0 : Int} {p1 : Int} {p2 : Int} {D : va_G} {g : GT} {A : Nat → Prop} {a : Nat → Nat} {b : Nat → Nat → Nat} {M : Mem} {Q : Int → Mem → Prop} (hw : wp_X11_childAt M p0 p1 p2 Q) : Met l yX11_childAt wsX11_childAt ({ frames := 3, cells := 0, slots := 0, locals := 64 } : Room) (cPc D g A a b M [.ref (a 13), iv p0, iv p1, iv p2]) (cQi D g A a b Q) 0 0 A := by
  refine Met.ofW (cc := cX11_childAt) (maxL := 6) (ret := (some .int)) (by decide) rfl ?_
  intro p e s m args below meth c s₁ B hml hv
  obtain ⟨rfl, hP, hD, hG⟩ := hv
  have X : vC p s m _ meth c D g A RX11 wsX11_childAt cX11_childAt 6 := ⟨B.exec, B.bytes, findClass_of_methodNamed B.named, atoms_spec (ws := wsX11_childAt) B.pre, hG, hml, B.notSynchronized⟩
  have hr := B.returns
  have hl := lv_entry ([.ref (a 13), iv p0, iv p1, iv p2]) (n := 6) (Nat.le_of_ble_eq_true rfl)
  rw [lg_entry_eq]
  generalize (lg_sl ([.ref (a 13), iv p0, iv p1, iv p2]) ++ List.replicate (6 - (lg_sl ([.ref (a 13), iv p0, iv p1, iv p2])).length) Slot.unset).toArray = ls at hl ⊢
  have hl : lv_has ls 6 [(0, .ref (a 13)), (1, iv p0), (2, iv p1), (3, iv p2)] := hl
  exact wke_X11_childAt X hr  hw s.heap [] ls hP hD va_S.rf hl

set_option maxRecDepth 20000 in
theorem ggX11_setPrices_X11_in : GoodIn wsX11_setPrices wsX11_in := goodIn_r _ [5] (by decide +kernel) (by decide +kernel)
set_option maxRecDepth 20000 in
theorem gX11_setPrices_X11_in : GoodIn wsX11_setPrices (va_wsS RX11 75 yX11_in wsX11_in) := goodIn_app (goodIn_of _ (by decide +kernel)) ggX11_setPrices_X11_in
set_option maxRecDepth 20000 in
theorem ggX11_setPrices_X11_goes : GoodIn wsX11_setPrices wsX11_goes := goodIn_r _ [9, 10, 11, 12, 13, 14, 15, 16, 17, 18, 19, 20, 21, 22, 23, 24, 25, 26, 27, 28, 29, 30, 31, 32, 33, 34] (by decide +kernel) (by decide +kernel)
set_option maxRecDepth 20000 in
theorem gX11_setPrices_X11_goes : GoodIn wsX11_setPrices (wsV RX11 87 RX11 yX11_goes wsX11_goes) := goodIn_app (goodIn_of _ (by decide +kernel)) ggX11_setPrices_X11_goes
theorem dX11_setPrices_0 : decode cX11_setPrices 0 = .ok (.aload_n 0, 1) := by decide +kernel
theorem dX11_setPrices_1 : decode cX11_setPrices 1 = .ok (.iload_n 1, 1) := by decide +kernel
theorem dX11_setPrices_2 : decode cX11_setPrices 2 = .ok (.iconst 0, 1) := by decide +kernel
theorem dX11_setPrices_3 : decode cX11_setPrices 3 = .ok (.iconst 3, 1) := by decide +kernel
theorem dX11_setPrices_4 : decode cX11_setPrices 4 = .ok (.invokestatic 75, 3) := by decide +kernel
theorem dX11_setPrices_7 : decode cX11_setPrices 7 = .ok (.iload_n 2, 1) := by decide +kernel
theorem dX11_setPrices_8 : decode cX11_setPrices 8 = .ok (.iconst 0, 1) := by decide +kernel
theorem dX11_setPrices_9 : decode cX11_setPrices 9 = .ok (.bipush 50, 2) := by decide +kernel
theorem dX11_setPrices_11 : decode cX11_setPrices 11 = .ok (.invokestatic 75, 3) := by decide +kernel
theorem dX11_setPrices_14 : decode cX11_setPrices 14 = .ok (.ifCond .eq 28, 3) := by decide +kernel
theorem dX11_setPrices_17 : decode cX11_setPrices 17 = .ok (.iload_n 3, 1) := by decide +kernel
theorem dX11_setPrices_18 : decode cX11_setPrices 18 = .ok (.iconst 0, 1) := by decide +kernel
theorem dX11_setPrices_19 : decode cX11_setPrices 19 = .ok (.bipush 50, 2) := by decide +kernel
theorem dX11_setPrices_21 : decode cX11_setPrices 21 = .ok (.invokestatic 75, 3) := by decide +kernel
theorem dX11_setPrices_24 : decode cX11_setPrices 24 = .ok (.ifCond .eq 18, 3) := by decide +kernel
theorem dX11_setPrices_27 : decode cX11_setPrices 27 = .ok (.iload 4, 2) := by decide +kernel
theorem dX11_setPrices_29 : decode cX11_setPrices 29 = .ok (.iconst 0, 1) := by decide +kernel
theorem dX11_setPrices_30 : decode cX11_setPrices 30 = .ok (.bipush 50, 2) := by decide +kernel
theorem dX11_setPrices_32 : decode cX11_setPrices 32 = .ok (.invokestatic 75, 3) := by decide +kernel
theorem dX11_setPrices_35 : decode cX11_setPrices 35 = .ok (.ifCond .eq 7, 3) := by decide +kernel
theorem dX11_setPrices_38 : decode cX11_setPrices 38 = .ok (.iconst 1, 1) := by decide +kernel
theorem dX11_setPrices_39 : decode cX11_setPrices 39 = .ok (.goto 4, 3) := by decide +kernel
theorem dX11_setPrices_42 : decode cX11_setPrices 42 = .ok (.iconst 0, 1) := by decide +kernel
theorem dX11_setPrices_43 : decode cX11_setPrices 43 = .ok (.iconst 1, 1) := by decide +kernel
theorem dX11_setPrices_44 : decode cX11_setPrices 44 = .ok (.invokevirtual 87, 3) := by decide +kernel
theorem dX11_setPrices_47 : decode cX11_setPrices 47 = .ok (.ifCond .eq 35, 3) := by decide +kernel
theorem dX11_setPrices_50 : decode cX11_setPrices 50 = .ok (.aload_n 0, 1) := by decide +kernel
theorem dX11_setPrices_51 : decode cX11_setPrices 51 = .ok (.getfield 28, 3) := by decide +kernel
theorem dX11_setPrices_54 : decode cX11_setPrices 54 = .ok (.iconst 3, 1) := by decide +kernel
theorem dX11_setPrices_55 : decode cX11_setPrices 55 = .ok (.iload_n 1, 1) := by decide +kernel
theorem dX11_setPrices_56 : decode cX11_setPrices 56 = .ok (.imul, 1) := by decide +kernel
theorem dX11_setPrices_57 : decode cX11_setPrices 57 = .ok (.iload_n 2, 1) := by decide +kernel
theorem dX11_setPrices_58 : decode cX11_setPrices 58 = .ok (.iastore, 1) := by decide +kernel
theorem dX11_setPrices_59 : decode cX11_setPrices 59 = .ok (.aload_n 0, 1) := by decide +kernel
theorem dX11_setPrices_60 : decode cX11_setPrices 60 = .ok (.getfield 28, 3) := by decide +kernel
theorem dX11_setPrices_63 : decode cX11_setPrices 63 = .ok (.iconst 3, 1) := by decide +kernel
theorem dX11_setPrices_64 : decode cX11_setPrices 64 = .ok (.iload_n 1, 1) := by decide +kernel
theorem dX11_setPrices_65 : decode cX11_setPrices 65 = .ok (.imul, 1) := by decide +kernel
theorem dX11_setPrices_66 : decode cX11_setPrices 66 = .ok (.iconst 1, 1) := by decide +kernel
theorem dX11_setPrices_67 : decode cX11_setPrices 67 = .ok (.iadd, 1) := by decide +kernel
theorem dX11_setPrices_68 : decode cX11_setPrices 68 = .ok (.iload_n 3, 1) := by decide +kernel
theorem dX11_setPrices_69 : decode cX11_setPrices 69 = .ok (.iastore, 1) := by decide +kernel
theorem dX11_setPrices_70 : decode cX11_setPrices 70 = .ok (.aload_n 0, 1) := by decide +kernel
theorem dX11_setPrices_71 : decode cX11_setPrices 71 = .ok (.getfield 28, 3) := by decide +kernel
theorem dX11_setPrices_74 : decode cX11_setPrices 74 = .ok (.iconst 3, 1) := by decide +kernel
theorem dX11_setPrices_75 : decode cX11_setPrices 75 = .ok (.iload_n 1, 1) := by decide +kernel
theorem dX11_setPrices_76 : decode cX11_setPrices 76 = .ok (.imul, 1) := by decide +kernel
theorem dX11_setPrices_77 : decode cX11_setPrices 77 = .ok (.iconst 2, 1) := by decide +kernel
theorem dX11_setPrices_78 : decode cX11_setPrices 78 = .ok (.iadd, 1) := by decide +kernel
theorem dX11_setPrices_79 : decode cX11_setPrices 79 = .ok (.iload 4, 2) := by decide +kernel
theorem dX11_setPrices_81 : decode cX11_setPrices 81 = .ok (.iastore, 1) := by decide +kernel
theorem dX11_setPrices_82 : decode cX11_setPrices 82 = .ok (.return_, 1) := by decide +kernel
theorem lk_X11_setPrices_f28 : Cond.fieldLink RX11 28 "TreeComparerModel" "price" "[I" ∈ wsX11_setPrices := by decide +kernel
theorem hi_X11_setPrices_11 : ∀ w ∈ u_ws RX11 TX11 24, w ∈ wsX11_setPrices := by decide +kernel
def wpj_X11_setPrices_43 (p0 : Int) (p1 : Int) (p2 : Int) (p3 : Int) (s0 : Int) (s1 : Int) (M : Mem) (Q : Mem → Prop) : Prop := wp_X11_goes M s1 s0 1 (fun y15 M16 => inR y15 ∧ ((y15 = 0 → Q M16) ∧ (¬ (y15 = 0) → ((0 : Int) ≤ 3 * p0 ∧ 3 * p0 < 12) ∧ (∀ M19 : Mem, M19 = mset M16 13 6 (3 * p0).toNat p1 → ((0 : Int) ≤ (3 * p0) + 1 ∧ (3 * p0) + 1 < 12) ∧ (∀ M21 : Mem, M21 = mset M19 13 6 ((3 * p0) + 1).toNat p2 → ((0 : Int) ≤ (3 * p0) + 2 ∧ (3 * p0) + 2 < 12) ∧ (∀ M23 : Mem, M23 = mset M21 13 6 ((3 * p0) + 2).toNat p3 → Q M23))))))
def wpj_X11_setPrices_42 (p0 : Int) (p1 : Int) (p2 : Int) (p3 : Int) (s0 : Int) (M : Mem) (Q : Mem → Prop) : Prop := wpj_X11_setPrices_43 p0 p1 p2 p3 0 s0 M Q
def wpe_X11_setPrices (p0 : Int) (p1 : Int) (p2 : Int) (p3 : Int) (M : Mem) (Q : Mem → Prop) : Prop := wp_X11_in M p0 0 3 (fun y1 M2 => wp_X11_in M2 p1 0 50 (fun y3 M4 => inR y3 ∧ ((y3 = 0 → wpj_X11_setPrices_42 p0 p1 p2 p3 y1 M4 Q) ∧ (¬ (y3 = 0) → wp_X11_in M4 p2 0 50 (fun y7 M8 => inR y7 ∧ ((y7 = 0 → wpj_X11_setPrices_42 p0 p1 p2 p3 y1 M8 Q) ∧ (¬ (y7 = 0) → wp_X11_in M8 p3 0 50 (fun y11 M12 => inR y11 ∧ ((y11 = 0 → wpj_X11_setPrices_42 p0 p1 p2 p3 y1 M12 Q) ∧ (¬ (y11 = 0) → wpj_X11_setPrices_43 p0 p1 p2 p3 1 y1 M12 Q))))))))))
def wp_X11_setPrices (M : Mem) (p0 : Int) (p1 : Int) (p2 : Int) (p3 : Int) (Q : Mem → Prop) : Prop := wpe_X11_setPrices p0 p1 p2 p3 M Q
set_option maxHeartbeats 4000000 in
set_option maxRecDepth 100000 in
theorem wkj_X11_setPrices_43 {p : Program} {l : Launch} {e : Env} {s : State} {m : MethodId} {args : Array Value} {below : List Frame} {meth : Method} {c : Code} {D : va_G} {g : GT} {A : Nat → Prop} {a : Nat → Nat} {b : Nat → Nat → Nat} (X : vC p s m args meth c D g A RX11 wsX11_setPrices cX11_setPrices 5) (hr : meth.sig.returnType = none) {p0 : Int} {p1 : Int} {p2 : Int} {p3 : Int} {s0 : Int} {s1 : Int} {M : Mem} {Q : Mem → Prop} (hw : wpj_X11_setPrices_43 p0 p1 p2 p3 s0 s1 M Q) : vV p l e ({ frames := 1, cells := 0, slots := 0, locals := 23 } : Room) s m args below meth c D g A a b 5 0 0 (MQ below (cQv D g A a b Q) args s 0 0 A) M [(0, .ref (a 13)), (1, iv p0), (2, iv p1), (3, iv p2), (4, iv p3)] 43 [iv s0, iv s1, .ref (a 13)] := by
  unfold wpj_X11_setPrices_43 at hw
  refine V_iconst X dX11_setPrices_43 ?_
  refine V_callV_i X _ gO_13 rfl (As := [iv s1, iv s0, iv 1]) (st := []) (c_X11_goes l hw) (cwV 3 X.2.2.2.1 gX11_setPrices_X11_goes rfl rfl rfl (by decide +kernel) ⟨Nat.le_of_ble_eq_true rfl, Nat.le_of_ble_eq_true rfl⟩) rfl (Nat.le_of_ble_eq_true rfl) ⟨Nat.le_of_ble_eq_true rfl, Nat.le_of_ble_eq_true rfl⟩ rfl dX11_setPrices_44 (fun y15 M16 hw => ?_)
  obtain ⟨h17, hw⟩ := hw
  refine V_if_eq (tgt := 82) X h17 dX11_setPrices_47 (by decide) (fun q18 => ?_) (fun q18 => ?_)
  · have hw := hw.1 q18
    exact V_vret X hr hw dX11_setPrices_82
  · have hw := hw.2 q18
    refine V_aload_n X dX11_setPrices_50 rfl (q := 0) rfl ?_
    refine V_get (C := RX11) (T := TX11) (N := 24) (ci := 11) X hi_X11_setPrices_11 gO_13 rfl 6 (by decide) lk_X11_setPrices_f28 (fun _ h9 => h9) rfl dX11_setPrices_51 ?_
    refine V_iconst X dX11_setPrices_54 ?_
    refine V_iload_n X dX11_setPrices_55 rfl (q := 1) rfl ?_
    refine V_imul X dX11_setPrices_56 ?_
    refine V_iload_n X dX11_setPrices_57 rfl (q := 2) rfl ?_
    obtain ⟨h20, hw⟩ := hw
    refine V_iast X (gA_13_6) (sA_13_6) h20 (by decide) dX11_setPrices_58 (fun M19 eM19 => ?_)
    have hw := hw M19 eM19
    refine V_aload_n X dX11_setPrices_59 rfl (q := 0) rfl ?_
    refine V_get (C := RX11) (T := TX11) (N := 24) (ci := 11) X hi_X11_setPrices_11 gO_13 rfl 6 (by decide) lk_X11_setPrices_f28 (fun _ h9 => h9) rfl dX11_setPrices_60 ?_
    refine V_iconst X dX11_setPrices_63 ?_
    refine V_iload_n X dX11_setPrices_64 rfl (q := 1) rfl ?_
    refine V_imul X dX11_setPrices_65 ?_
    refine V_iconst X dX11_setPrices_66 ?_
    refine V_iadd X dX11_setPrices_67 ?_
    refine V_iload_n X dX11_setPrices_68 rfl (q := 3) rfl ?_
    obtain ⟨h22, hw⟩ := hw
    refine V_iast X (gA_13_6) (sA_13_6) h22 (by decide) dX11_setPrices_69 (fun M21 eM21 => ?_)
    have hw := hw M21 eM21
    refine V_aload_n X dX11_setPrices_70 rfl (q := 0) rfl ?_
    refine V_get (C := RX11) (T := TX11) (N := 24) (ci := 11) X hi_X11_setPrices_11 gO_13 rfl 6 (by decide) lk_X11_setPrices_f28 (fun _ h9 => h9) rfl dX11_setPrices_71 ?_
    refine V_iconst X dX11_setPrices_74 ?_
    refine V_iload_n X dX11_setPrices_75 rfl (q := 1) rfl ?_
    refine V_imul X dX11_setPrices_76 ?_
    refine V_iconst X dX11_setPrices_77 ?_
    refine V_iadd X dX11_setPrices_78 ?_
    refine V_iload X dX11_setPrices_79 (q := 4) rfl ?_
    obtain ⟨h24, hw⟩ := hw
    refine V_iast X (gA_13_6) (sA_13_6) h24 (by decide) dX11_setPrices_81 (fun M23 eM23 => ?_)
    have hw := hw M23 eM23
    exact V_vret X hr hw dX11_setPrices_82
set_option maxHeartbeats 4000000 in
set_option maxRecDepth 100000 in
theorem wkj_X11_setPrices_42 {p : Program} {l : Launch} {e : Env} {s : State} {m : MethodId} {args : Array Value} {below : List Frame} {meth : Method} {c : Code} {D : va_G} {g : GT} {A : Nat → Prop} {a : Nat → Nat} {b : Nat → Nat → Nat} (X : vC p s m args meth c D g A RX11 wsX11_setPrices cX11_setPrices 5) (hr : meth.sig.returnType = none) {p0 : Int} {p1 : Int} {p2 : Int} {p3 : Int} {s0 : Int} {M : Mem} {Q : Mem → Prop} (hw : wpj_X11_setPrices_42 p0 p1 p2 p3 s0 M Q) : vV p l e ({ frames := 1, cells := 0, slots := 0, locals := 23 } : Room) s m args below meth c D g A a b 5 0 0 (MQ below (cQv D g A a b Q) args s 0 0 A) M [(0, .ref (a 13)), (1, iv p0), (2, iv p1), (3, iv p2), (4, iv p3)] 42 [iv s0, .ref (a 13)] := by
  unfold wpj_X11_setPrices_42 at hw
  refine V_iconst X dX11_setPrices_42 ?_
  exact wkj_X11_setPrices_43 X hr hw
set_option maxHeartbeats 4000000 in
set_option maxRecDepth 100000 in
theorem wke_X11_setPrices {p : Program} {l : Launch} {e : Env} {s : State} {m : MethodId} {args : Array Value} {below : List Frame} {meth : Method} {c : Code} {D : va_G} {g : GT} {A : Nat → Prop} {a : Nat → Nat} {b : Nat → Nat → Nat} (X : vC p s m args meth c D g A RX11 wsX11_setPrices cX11_setPrices 5) (hr : meth.sig.returnType = none) {p0 : Int} {p1 : Int} {p2 : Int} {p3 : Int} {M : Mem} {Q : Mem → Prop} (hw : wpe_X11_setPrices p0 p1 p2 p3 M Q) : vV p l e ({ frames := 1, cells := 0, slots := 0, locals := 23 } : Room) s m args below meth c D g A a b 5 0 0 (MQ below (cQv D g A a b Q) args s 0 0 A) M [(0, .ref (a 13)), (1, iv p0), (2, iv p1), (3, iv p2), (4, iv p3)] 0 [] := by
  unfold wpe_X11_setPrices at hw
  refine V_aload_n X dX11_setPrices_0 rfl (q := 0) rfl ?_
  refine V_iload_n X dX11_setPrices_1 rfl (q := 1) rfl ?_
  refine V_iconst X dX11_setPrices_2 ?_
  refine V_iconst X dX11_setPrices_3 ?_
  refine V_callS_i X _ (As := [iv p0, iv 0, iv 3]) (st := [.ref (a 13)]) (c_X11_in l hw) (va_cwS 3 X.2.2.2.1 gX11_setPrices_X11_in rfl rfl rfl (by decide +kernel) ⟨Nat.le_of_ble_eq_true rfl, Nat.le_of_ble_eq_true rfl⟩) rfl (Nat.le_of_ble_eq_true rfl) ⟨Nat.le_of_ble_eq_true rfl, Nat.le_of_ble_eq_true rfl⟩ rfl dX11_setPrices_4 (fun y1 M2 hw => ?_)
  refine V_iload_n X dX11_setPrices_7 rfl (q := 2) rfl ?_
  refine V_iconst X dX11_setPrices_8 ?_
  refine V_bipush X dX11_setPrices_9 rfl ?_
  refine V_callS_i X _ (As := [iv p1, iv 0, iv 50]) (st := [iv y1, .ref (a 13)]) (c_X11_in l hw) (va_cwS 3 X.2.2.2.1 gX11_setPrices_X11_in rfl rfl rfl (by decide +kernel) ⟨Nat.le_of_ble_eq_true rfl, Nat.le_of_ble_eq_true rfl⟩) rfl (Nat.le_of_ble_eq_true rfl) ⟨Nat.le_of_ble_eq_true rfl, Nat.le_of_ble_eq_true rfl⟩ rfl dX11_setPrices_11 (fun y3 M4 hw => ?_)
  obtain ⟨h5, hw⟩ := hw
  refine V_if_eq (tgt := 42) X h5 dX11_setPrices_14 (by decide) (fun q6 => ?_) (fun q6 => ?_)
  · have hw := hw.1 q6
    exact wkj_X11_setPrices_42 X hr hw
  · have hw := hw.2 q6
    refine V_iload_n X dX11_setPrices_17 rfl (q := 3) rfl ?_
    refine V_iconst X dX11_setPrices_18 ?_
    refine V_bipush X dX11_setPrices_19 rfl ?_
    refine V_callS_i X _ (As := [iv p2, iv 0, iv 50]) (st := [iv y1, .ref (a 13)]) (c_X11_in l hw) (va_cwS 3 X.2.2.2.1 gX11_setPrices_X11_in rfl rfl rfl (by decide +kernel) ⟨Nat.le_of_ble_eq_true rfl, Nat.le_of_ble_eq_true rfl⟩) rfl (Nat.le_of_ble_eq_true rfl) ⟨Nat.le_of_ble_eq_true rfl, Nat.le_of_ble_eq_true rfl⟩ rfl dX11_setPrices_21 (fun y7 M8 hw => ?_)
    obtain ⟨h9, hw⟩ := hw
    refine V_if_eq (tgt := 42) X h9 dX11_setPrices_24 (by decide) (fun q10 => ?_) (fun q10 => ?_)
    · have hw := hw.1 q10
      exact wkj_X11_setPrices_42 X hr hw
    · have hw := hw.2 q10
      refine V_iload X dX11_setPrices_27 (q := 4) rfl ?_
      refine V_iconst X dX11_setPrices_29 ?_
      refine V_bipush X dX11_setPrices_30 rfl ?_
      refine V_callS_i X _ (As := [iv p3, iv 0, iv 50]) (st := [iv y1, .ref (a 13)]) (c_X11_in l hw) (va_cwS 3 X.2.2.2.1 gX11_setPrices_X11_in rfl rfl rfl (by decide +kernel) ⟨Nat.le_of_ble_eq_true rfl, Nat.le_of_ble_eq_true rfl⟩) rfl (Nat.le_of_ble_eq_true rfl) ⟨Nat.le_of_ble_eq_true rfl, Nat.le_of_ble_eq_true rfl⟩ rfl dX11_setPrices_32 (fun y11 M12 hw => ?_)
      obtain ⟨h13, hw⟩ := hw
      refine V_if_eq (tgt := 42) X h13 dX11_setPrices_35 (by decide) (fun q14 => ?_) (fun q14 => ?_)
      · have hw := hw.1 q14
        exact wkj_X11_setPrices_42 X hr hw
      · have hw := hw.2 q14
        refine V_iconst X dX11_setPrices_38 ?_
        refine V_goto (tgt := 43) X dX11_setPrices_39 (by decide) ?_
        exact wkj_X11_setPrices_43 X hr hw
set_option maxHeartbeats 4000000 in
set_option maxRecDepth 100000 in
theorem c_X11_setPrices (l : Launch) {p0 : Int} {p1 : Int} {p2 : Int} {p3 : Int} {D : va_G} {g : GT} {A : Nat → Prop} {a : Nat → Nat} {b : Nat → Nat → Nat} {M : Mem} {Q : Mem → Prop} (hw : wp_X11_setPrices M p0 p1 p2 p3 Q) : Met l yX11_setPrices wsX11_setPrices ({ frames := 1, cells := 0, slots := 0, locals := 23 } : Room) (cPc D g A a b M [.ref (a 13), iv p0, iv p1, iv p2, iv p3]) (cQv D g A a b Q) 0 0 A := by
  refine Met.ofW (cc := cX11_setPrices) (maxL := 5) (ret := none) (by decide) rfl ?_
  intro p e s m args below meth c s₁ B hml hv
  obtain ⟨rfl, hP, hD, hG⟩ := hv
  have X : vC p s m _ meth c D g A RX11 wsX11_setPrices cX11_setPrices 5 := ⟨B.exec, B.bytes, findClass_of_methodNamed B.named, atoms_spec (ws := wsX11_setPrices) B.pre, hG, hml, B.notSynchronized⟩
  have hr := B.returns
  have hl := lv_entry ([.ref (a 13), iv p0, iv p1, iv p2, iv p3]) (n := 5) (Nat.le_of_ble_eq_true rfl)
  rw [lg_entry_eq]
  generalize (lg_sl ([.ref (a 13), iv p0, iv p1, iv p2, iv p3]) ++ List.replicate (5 - (lg_sl ([.ref (a 13), iv p0, iv p1, iv p2, iv p3])).length) Slot.unset).toArray = ls at hl ⊢
  have hl : lv_has ls 5 [(0, .ref (a 13)), (1, iv p0), (2, iv p1), (3, iv p2), (4, iv p3)] := hl
  exact wke_X11_setPrices X hr  hw s.heap [] ls hP hD va_S.rf hl

set_option maxRecDepth 20000 in
theorem ggX11_subtreeDistance_X11_isNode : GoodIn wsX11_subtreeDistance wsX11_isNode := goodIn_r _ [7, 8, 9, 10, 6, 11, 12, 13, 14, 60, 61, 62, 63, 64, 65, 66, 67, 68, 69, 70, 71, 72, 73, 74, 75, 76, 77, 78, 79, 80, 81, 82, 83] (by decide +kernel) (by decide +kernel)
set_option maxRecDepth 20000 in
theorem gX11_subtreeDistance_X11_isNode : GoodIn wsX11_subtreeDistance (wsV RX11 98 RX11 yX11_isNode wsX11_isNode) := goodIn_app (goodIn_of _ (by decide +kernel)) ggX11_subtreeDistance_X11_isNode
set_option maxRecDepth 20000 in
theorem ggX11_subtreeDistance_X11_goes : GoodIn wsX11_subtreeDistance wsX11_goes := goodIn_r _ [18, 19, 60, 61, 62, 63, 64, 65, 66, 67, 68, 69, 70, 71, 72, 73, 74, 75, 76, 77, 78, 79, 80, 81, 82, 83] (by decide +kernel) (by decide +kernel)
set_option maxRecDepth 20000 in
theorem gX11_subtreeDistance_X11_goes : GoodIn wsX11_subtreeDistance (wsV RX11 87 RX11 yX11_goes wsX11_goes) := goodIn_app (goodIn_of _ (by decide +kernel)) ggX11_subtreeDistance_X11_goes
set_option maxRecDepth 20000 in
theorem ggX11_subtreeDistance_X11_fills : GoodIn wsX11_subtreeDistance wsX11_fills := goodIn_r _ [23, 8, 1, 24, 25, 26, 27, 6, 28, 29, 2, 30, 31, 32, 33, 34, 35, 36, 37, 38, 39, 40, 41, 42, 43, 44, 45, 46, 47, 48, 49, 50, 51, 52, 53, 54, 60, 61, 62, 63, 64, 65, 66, 67, 68, 69, 70, 71, 72, 73, 74, 75, 76, 77, 78, 79, 80, 81, 82, 83] (by decide +kernel) (by decide +kernel)
set_option maxRecDepth 20000 in
theorem gX11_subtreeDistance_X11_fills : GoodIn wsX11_subtreeDistance (wsV RX11 140 RX11 yX11_fills wsX11_fills) := goodIn_app (goodIn_of _ (by decide +kernel)) ggX11_subtreeDistance_X11_fills
set_option maxRecDepth 20000 in
theorem ggX11_subtreeDistance_X11_place : GoodIn wsX11_subtreeDistance wsX11_place := goodIn_r _ [58, 59, 60, 61, 62, 63, 64, 65, 66, 67, 68, 69, 70, 71, 72, 73, 74, 75, 76, 77, 78, 79, 80, 81, 82, 83] (by decide +kernel) (by decide +kernel)
set_option maxRecDepth 20000 in
theorem gX11_subtreeDistance_X11_place : GoodIn wsX11_subtreeDistance (wsV RX11 102 RX11 yX11_place wsX11_place) := goodIn_app (goodIn_of _ (by decide +kernel)) ggX11_subtreeDistance_X11_place
set_option maxRecDepth 20000 in
theorem ggX11_subtreeDistance_X11_at : GoodIn wsX11_subtreeDistance wsX11_at := goodIn_r _ [32] (by decide +kernel) (by decide +kernel)
set_option maxRecDepth 20000 in
theorem gX11_subtreeDistance_X11_at : GoodIn wsX11_subtreeDistance (va_wsS RX11 123 yX11_at wsX11_at) := goodIn_app (goodIn_of _ (by decide +kernel)) ggX11_subtreeDistance_X11_at
theorem dX11_subtreeDistance_0 : decode cX11_subtreeDistance 0 = .ok (.aload_n 0, 1) := by decide +kernel
theorem dX11_subtreeDistance_1 : decode cX11_subtreeDistance 1 = .ok (.aload_n 0, 1) := by decide +kernel
theorem dX11_subtreeDistance_2 : decode cX11_subtreeDistance 2 = .ok (.iconst 0, 1) := by decide +kernel
theorem dX11_subtreeDistance_3 : decode cX11_subtreeDistance 3 = .ok (.iload_n 1, 1) := by decide +kernel
theorem dX11_subtreeDistance_4 : decode cX11_subtreeDistance 4 = .ok (.invokevirtual 98, 3) := by decide +kernel
theorem dX11_subtreeDistance_7 : decode cX11_subtreeDistance 7 = .ok (.ifCond .eq 16, 3) := by decide +kernel
theorem dX11_subtreeDistance_10 : decode cX11_subtreeDistance 10 = .ok (.aload_n 0, 1) := by decide +kernel
theorem dX11_subtreeDistance_11 : decode cX11_subtreeDistance 11 = .ok (.iconst 1, 1) := by decide +kernel
theorem dX11_subtreeDistance_12 : decode cX11_subtreeDistance 12 = .ok (.iload_n 2, 1) := by decide +kernel
theorem dX11_subtreeDistance_13 : decode cX11_subtreeDistance 13 = .ok (.invokevirtual 98, 3) := by decide +kernel
theorem dX11_subtreeDistance_16 : decode cX11_subtreeDistance 16 = .ok (.ifCond .eq 7, 3) := by decide +kernel
theorem dX11_subtreeDistance_19 : decode cX11_subtreeDistance 19 = .ok (.iconst 1, 1) := by decide +kernel
theorem dX11_subtreeDistance_20 : decode cX11_subtreeDistance 20 = .ok (.goto 4, 3) := by decide +kernel
theorem dX11_subtreeDistance_23 : decode cX11_subtreeDistance 23 = .ok (.iconst 0, 1) := by decide +kernel
theorem dX11_subtreeDistance_24 : decode cX11_subtreeDistance 24 = .ok (.iconst 1, 1) := by decide +kernel
theorem dX11_subtreeDistance_25 : decode cX11_subtreeDistance 25 = .ok (.iconst 1, 1) := by decide +kernel
theorem dX11_subtreeDistance_26 : decode cX11_subtreeDistance 26 = .ok (.invokevirtual 87, 3) := by decide +kernel
theorem dX11_subtreeDistance_29 : decode cX11_subtreeDistance 29 = .ok (.ifCond .ne 5, 3) := by decide +kernel
theorem dX11_subtreeDistance_32 : decode cX11_subtreeDistance 32 = .ok (.iconst 0, 1) := by decide +kernel
theorem dX11_subtreeDistance_33 : decode cX11_subtreeDistance 33 = .ok (.ireturn, 1) := by decide +kernel
theorem dX11_subtreeDistance_34 : decode cX11_subtreeDistance 34 = .ok (.aload_n 0, 1) := by decide +kernel
theorem dX11_subtreeDistance_35 : decode cX11_subtreeDistance 35 = .ok (.iconst (-1), 1) := by decide +kernel
theorem dX11_subtreeDistance_36 : decode cX11_subtreeDistance 36 = .ok (.iconst (-1), 1) := by decide +kernel
theorem dX11_subtreeDistance_37 : decode cX11_subtreeDistance 37 = .ok (.invokevirtual 140, 3) := by decide +kernel
theorem dX11_subtreeDistance_40 : decode cX11_subtreeDistance 40 = .ok (.istore_n 3, 1) := by decide +kernel
theorem dX11_subtreeDistance_41 : decode cX11_subtreeDistance 41 = .ok (.aload_n 0, 1) := by decide +kernel
theorem dX11_subtreeDistance_42 : decode cX11_subtreeDistance 42 = .ok (.iconst 0, 1) := by decide +kernel
theorem dX11_subtreeDistance_43 : decode cX11_subtreeDistance 43 = .ok (.iload_n 1, 1) := by decide +kernel
theorem dX11_subtreeDistance_44 : decode cX11_subtreeDistance 44 = .ok (.invokevirtual 102, 3) := by decide +kernel
theorem dX11_subtreeDistance_47 : decode cX11_subtreeDistance 47 = .ok (.istore 4, 2) := by decide +kernel
theorem dX11_subtreeDistance_49 : decode cX11_subtreeDistance 49 = .ok (.aload_n 0, 1) := by decide +kernel
theorem dX11_subtreeDistance_50 : decode cX11_subtreeDistance 50 = .ok (.iconst 1, 1) := by decide +kernel
theorem dX11_subtreeDistance_51 : decode cX11_subtreeDistance 51 = .ok (.iload_n 2, 1) := by decide +kernel
theorem dX11_subtreeDistance_52 : decode cX11_subtreeDistance 52 = .ok (.invokevirtual 102, 3) := by decide +kernel
theorem dX11_subtreeDistance_55 : decode cX11_subtreeDistance 55 = .ok (.istore 5, 2) := by decide +kernel
theorem dX11_subtreeDistance_57 : decode cX11_subtreeDistance 57 = .ok (.aload_n 0, 1) := by decide +kernel
theorem dX11_subtreeDistance_58 : decode cX11_subtreeDistance 58 = .ok (.getfield 35, 3) := by decide +kernel
theorem dX11_subtreeDistance_61 : decode cX11_subtreeDistance 61 = .ok (.iload 4, 2) := by decide +kernel
theorem dX11_subtreeDistance_63 : decode cX11_subtreeDistance 63 = .ok (.iload 4, 2) := by decide +kernel
theorem dX11_subtreeDistance_65 : decode cX11_subtreeDistance 65 = .ok (.aload_n 0, 1) := by decide +kernel
theorem dX11_subtreeDistance_66 : decode cX11_subtreeDistance 66 = .ok (.getfield 22, 3) := by decide +kernel
theorem dX11_subtreeDistance_69 : decode cX11_subtreeDistance 69 = .ok (.iload 4, 2) := by decide +kernel
theorem dX11_subtreeDistance_71 : decode cX11_subtreeDistance 71 = .ok (.iaload, 1) := by decide +kernel
theorem dX11_subtreeDistance_72 : decode cX11_subtreeDistance 72 = .ok (.iadd, 1) := by decide +kernel
theorem dX11_subtreeDistance_73 : decode cX11_subtreeDistance 73 = .ok (.iload 5, 2) := by decide +kernel
theorem dX11_subtreeDistance_75 : decode cX11_subtreeDistance 75 = .ok (.iload 5, 2) := by decide +kernel
theorem dX11_subtreeDistance_77 : decode cX11_subtreeDistance 77 = .ok (.aload_n 0, 1) := by decide +kernel
theorem dX11_subtreeDistance_78 : decode cX11_subtreeDistance 78 = .ok (.getfield 22, 3) := by decide +kernel
theorem dX11_subtreeDistance_81 : decode cX11_subtreeDistance 81 = .ok (.bipush 12, 2) := by decide +kernel
theorem dX11_subtreeDistance_83 : decode cX11_subtreeDistance 83 = .ok (.iload 5, 2) := by decide +kernel
theorem dX11_subtreeDistance_85 : decode cX11_subtreeDistance 85 = .ok (.iadd, 1) := by decide +kernel
theorem dX11_subtreeDistance_86 : decode cX11_subtreeDistance 86 = .ok (.iaload, 1) := by decide +kernel
theorem dX11_subtreeDistance_87 : decode cX11_subtreeDistance 87 = .ok (.iadd, 1) := by decide +kernel
theorem dX11_subtreeDistance_88 : decode cX11_subtreeDistance 88 = .ok (.invokestatic 123, 3) := by decide +kernel
theorem dX11_subtreeDistance_91 : decode cX11_subtreeDistance 91 = .ok (.iaload, 1) := by decide +kernel
theorem dX11_subtreeDistance_92 : decode cX11_subtreeDistance 92 = .ok (.ireturn, 1) := by decide +kernel
theorem lk_X11_subtreeDistance_f35 : Cond.fieldLink RX11 35 "TreeComparerModel" "least" "[I" ∈ wsX11_subtreeDistance := by decide +kernel
theorem hi_X11_subtreeDistance_11 : ∀ w ∈ u_ws RX11 TX11 24, w ∈ wsX11_subtreeDistance := by decide +kernel
theorem lk_X11_subtreeDistance_f22 : Cond.fieldLink RX11 22 "TreeComparerModel" "size" "[I" ∈ wsX11_subtreeDistance := by decide +kernel
def wpj_X11_subtreeDistance_24 (p0 : Int) (p1 : Int) (s0 : Int) (M : Mem) (Q : Int → Mem → Prop) : Prop := wp_X11_goes M s0 1 1 (fun y9 M10 => inR y9 ∧ ((y9 ≠ 0 → wp_X11_fills M10 (-1) (-1) (fun y13 M14 => wp_X11_place M14 0 p0 (fun y15 M16 => wp_X11_place M16 1 p1 (fun y17 M18 => ((0 : Int) ≤ y15 ∧ y15 < 24) ∧ ((0 : Int) ≤ 12 + y17 ∧ 12 + y17 < 24) ∧ wp_X11_at M18 y15 (y15 + (M18 13 4 y15.toNat)) y17 (y17 + (M18 13 4 (12 + y17).toNat)) (fun y21 M22 => ((0 : Int) ≤ y21 ∧ y21 < 28561) ∧ Q ((M22 13 8 y21.toNat)) M22))))) ∧ (¬ (y9 ≠ 0) → Q 0 M10)))
def wpj_X11_subtreeDistance_23 (p0 : Int) (p1 : Int) (M : Mem) (Q : Int → Mem → Prop) : Prop := wpj_X11_subtreeDistance_24 p0 p1 0 M Q
def wpe_X11_subtreeDistance (p0 : Int) (p1 : Int) (M : Mem) (Q : Int → Mem → Prop) : Prop := wp_X11_isNode M 0 p0 (fun y1 M2 => inR y1 ∧ ((y1 = 0 → wpj_X11_subtreeDistance_23 p0 p1 M2 Q) ∧ (¬ (y1 = 0) → wp_X11_isNode M2 1 p1 (fun y5 M6 => inR y5 ∧ ((y5 = 0 → wpj_X11_subtreeDistance_23 p0 p1 M6 Q) ∧ (¬ (y5 = 0) → wpj_X11_subtreeDistance_24 p0 p1 1 M6 Q))))))
def wp_X11_subtreeDistance (M : Mem) (p0 : Int) (p1 : Int) (Q : Int → Mem → Prop) : Prop := wpe_X11_subtreeDistance p0 p1 M Q
set_option maxHeartbeats 4000000 in
set_option maxRecDepth 100000 in
theorem wkj_X11_subtreeDistance_24 {p : Program} {l : Launch} {e : Env} {s : State} {m : MethodId} {args : Array Value} {below : List Frame} {meth : Method} {c : Code} {D : va_G} {g : GT} {A : Nat → Prop} {a : Nat → Nat} {b : Nat → Nat → Nat} (X : vC p s m args meth c D g A RX11 wsX11_subtreeDistance cX11_subtreeDistance 6) (hr : meth.sig.returnType = (some .int)) {p0 : Int} {p1 : Int} {s0 : Int} {M : Mem} {Q : Int → Mem → Prop} (hw : wpj_X11_subtreeDistance_24 p0 p1 s0 M Q) : vV p l e ({ frames := 4, cells := 0, slots := 0, locals := 100 } : Room) s m args below meth c D g A a b 6 0 0 (MQ below (cQi D g A a b Q) args s 0 0 A) M [(0, .ref (a 13)), (1, iv p0), (2, iv p1)] 24 [iv s0, .ref (a 13)] := by
  unfold wpj_X11_subtreeDistance_24 at hw
  refine V_iconst X dX11_subtreeDistance_24 ?_
  refine V_iconst X dX11_subtreeDistance_25 ?_
  refine V_callV_i X _ gO_13 rfl (As := [iv s0, iv 1, iv 1]) (st := []) (c_X11_goes l hw) (cwV 3 X.2.2.2.1 gX11_subtreeDistance_X11_goes rfl rfl rfl (by decide +kernel) ⟨Nat.le_of_ble_eq_true rfl, Nat.le_of_ble_eq_true rfl⟩) rfl (Nat.le_of_ble_eq_true rfl) ⟨Nat.le_of_ble_eq_true rfl, Nat.le_of_ble_eq_true rfl⟩ rfl dX11_subtreeDistance_26 (fun y9 M10 hw => ?_)
  obtain ⟨h11, hw⟩ := hw
  refine V_if_ne (tgt := 34) X h11 dX11_subtreeDistance_29 (by decide) (fun q12 => ?_) (fun q12 => ?_)
  · have hw := hw.1 q12
    refine V_aload_n X dX11_subtreeDistance_34 rfl (q := 0) rfl ?_
    refine V_iconst X dX11_subtreeDistance_35 ?_
    refine V_iconst X dX11_subtreeDistance_36 ?_
    refine V_callV_i X _ gO_13 rfl (As := [iv (-1), iv (-1)]) (st := []) (c_X11_fills l hw) (cwV 2 X.2.2.2.1 gX11_subtreeDistance_X11_fills rfl rfl rfl (by decide +kernel) ⟨Nat.le_of_ble_eq_true rfl, Nat.le_of_ble_eq_true rfl⟩) rfl (Nat.le_of_ble_eq_true rfl) ⟨Nat.le_of_ble_eq_true rfl, Nat.le_of_ble_eq_true rfl⟩ rfl dX11_subtreeDistance_37 (fun y13 M14 hw => ?_)
    refine V_istore_n (lv1 := [(0, .ref (a 13)), (1, iv p0), (2, iv p1), (3, iv y13)]) X [1, 2, 3, 0] dX11_subtreeDistance_40 rfl (by decide) rfl ?_
    refine V_aload_n X dX11_subtreeDistance_41 rfl (q := 0) rfl ?_
    refine V_iconst X dX11_subtreeDistance_42 ?_
    refine V_iload_n X dX11_subtreeDistance_43 rfl (q := 1) rfl ?_
    refine V_callV_i X _ gO_13 rfl (As := [iv 0, iv p0]) (st := []) (c_X11_place l hw) (cwV 2 X.2.2.2.1 gX11_subtreeDistance_X11_place rfl rfl rfl (by decide +kernel) ⟨Nat.le_of_ble_eq_true rfl, Nat.le_of_ble_eq_true rfl⟩) rfl (Nat.le_of_ble_eq_true rfl) ⟨Nat.le_of_ble_eq_true rfl, Nat.le_of_ble_eq_true rfl⟩ rfl dX11_subtreeDistance_44 (fun y15 M16 hw => ?_)
    refine V_istore (lv1 := [(0, .ref (a 13)), (1, iv p0), (2, iv p1), (3, iv y13), (4, iv y15)]) X [1, 2, 3, 4, 0] dX11_subtreeDistance_47 (by decide) rfl ?_
    refine V_aload_n X dX11_subtreeDistance_49 rfl (q := 0) rfl ?_
    refine V_iconst X dX11_subtreeDistance_50 ?_
    refine V_iload_n X dX11_subtreeDistance_51 rfl (q := 2) rfl ?_
    refine V_callV_i X _ gO_13 rfl (As := [iv 1, iv p1]) (st := []) (c_X11_place l hw) (cwV 2 X.2.2.2.1 gX11_subtreeDistance_X11_place rfl rfl rfl (by decide +kernel) ⟨Nat.le_of_ble_eq_true rfl, Nat.le_of_ble_eq_true rfl⟩) rfl (Nat.le_of_ble_eq_true rfl) ⟨Nat.le_of_ble_eq_true rfl, Nat.le_of_ble_eq_true rfl⟩ rfl dX11_subtreeDistance_52 (fun y17 M18 hw => ?_)
    refine V_istore (lv1 := [(0, .ref (a 13)), (1, iv p0), (2, iv p1), (3, iv y13), (4, iv y15), (5, iv y17)]) X [1, 2, 3, 4, 5, 0] dX11_subtreeDistance_55 (by decide) rfl ?_
    refine V_aload_n X dX11_subtreeDistance_57 rfl (q := 0) rfl ?_
    refine V_get (C := RX11) (T := TX11) (N := 24) (ci := 11) X hi_X11_subtreeDistance_11 gO_13 rfl 8 (by decide) lk_X11_subtreeDistance_f35 (fun _ h9 => h9) rfl dX11_subtreeDistance_58 ?_
    refine V_iload X dX11_subtreeDistance_61 (q := 4) rfl ?_
    refine V_iload X dX11_subtreeDistance_63 (q := 4) rfl ?_
    refine V_aload_n X dX11_subtreeDistance_65 rfl (q := 0) rfl ?_
    refine V_get (C := RX11) (T := TX11) (N := 24) (ci := 11) X hi_X11_subtreeDistance_11 gO_13 rfl 4 (by decide) lk_X11_subtreeDistance_f22 (fun _ h9 => h9) rfl dX11_subtreeDistance_66 ?_
    refine V_iload X dX11_subtreeDistance_69 (q := 4) rfl ?_
    obtain ⟨h19, hw⟩ := hw
    refine V_iald X (gA_13_4) h19 (by decide) dX11_subtreeDistance_71 ?_
    refine V_iadd X dX11_subtreeDistance_72 ?_
    refine V_iload X dX11_subtreeDistance_73 (q := 5) rfl ?_
    refine V_iload X dX11_subtreeDistance_75 (q := 5) rfl ?_
    refine V_aload_n X dX11_subtreeDistance_77 rfl (q := 0) rfl ?_
    refine V_get (C := RX11) (T := TX11) (N := 24) (ci := 11) X hi_X11_subtreeDistance_11 gO_13 rfl 4 (by decide) lk_X11_subtreeDistance_f22 (fun _ h9 => h9) rfl dX11_subtreeDistance_78 ?_
    refine V_bipush X dX11_subtreeDistance_81 rfl ?_
    refine V_iload X dX11_subtreeDistance_83 (q := 5) rfl ?_
    refine V_iadd X dX11_subtreeDistance_85 ?_
    obtain ⟨h20, hw⟩ := hw
    refine V_iald X (gA_13_4) h20 (by decide) dX11_subtreeDistance_86 ?_
    refine V_iadd X dX11_subtreeDistance_87 ?_
    refine V_callS_i X _ (As := [iv y15, iv (y15 + (M18 13 4 y15.toNat)), iv y17, iv (y17 + (M18 13 4 (12 + y17).toNat))]) (st := [.ref (b 13 8)]) (c_X11_at l hw) (va_cwS 4 X.2.2.2.1 gX11_subtreeDistance_X11_at rfl rfl rfl (by decide +kernel) ⟨Nat.le_of_ble_eq_true rfl, Nat.le_of_ble_eq_true rfl⟩) rfl (Nat.le_of_ble_eq_true rfl) ⟨Nat.le_of_ble_eq_true rfl, Nat.le_of_ble_eq_true rfl⟩ rfl dX11_subtreeDistance_88 (fun y21 M22 hw => ?_)
    obtain ⟨h23, hw⟩ := hw
    refine V_iald X (gA_13_8) h23 (by decide) dX11_subtreeDistance_91 ?_
    exact V_iret X hr hw dX11_subtreeDistance_92
  · have hw := hw.2 q12
    refine V_iconst X dX11_subtreeDistance_32 ?_
    exact V_iret X hr hw dX11_subtreeDistance_33
set_option maxHeartbeats 4000000 in
set_option maxRecDepth 100000 in
theorem wkj_X11_subtreeDistance_23 {p : Program} {l : Launch} {e : Env} {s : State} {m : MethodId} {args : Array Value} {below : List Frame} {meth : Method} {c : Code} {D : va_G} {g : GT} {A : Nat → Prop} {a : Nat → Nat} {b : Nat → Nat → Nat} (X : vC p s m args meth c D g A RX11 wsX11_subtreeDistance cX11_subtreeDistance 6) (hr : meth.sig.returnType = (some .int)) {p0 : Int} {p1 : Int} {M : Mem} {Q : Int → Mem → Prop} (hw : wpj_X11_subtreeDistance_23 p0 p1 M Q) : vV p l e ({ frames := 4, cells := 0, slots := 0, locals := 100 } : Room) s m args below meth c D g A a b 6 0 0 (MQ below (cQi D g A a b Q) args s 0 0 A) M [(0, .ref (a 13)), (1, iv p0), (2, iv p1)] 23 [.ref (a 13)] := by
  unfold wpj_X11_subtreeDistance_23 at hw
  refine V_iconst X dX11_subtreeDistance_23 ?_
  exact wkj_X11_subtreeDistance_24 X hr hw
set_option maxHeartbeats 4000000 in
set_option maxRecDepth 100000 in
theorem wke_X11_subtreeDistance {p : Program} {l : Launch} {e : Env} {s : State} {m : MethodId} {args : Array Value} {below : List Frame} {meth : Method} {c : Code} {D : va_G} {g : GT} {A : Nat → Prop} {a : Nat → Nat} {b : Nat → Nat → Nat} (X : vC p s m args meth c D g A RX11 wsX11_subtreeDistance cX11_subtreeDistance 6) (hr : meth.sig.returnType = (some .int)) {p0 : Int} {p1 : Int} {M : Mem} {Q : Int → Mem → Prop} (hw : wpe_X11_subtreeDistance p0 p1 M Q) : vV p l e ({ frames := 4, cells := 0, slots := 0, locals := 100 } : Room) s m args below meth c D g A a b 6 0 0 (MQ below (cQi D g A a b Q) args s 0 0 A) M [(0, .ref (a 13)), (1, iv p0), (2, iv p1)] 0 [] := by
  unfold wpe_X11_subtreeDistance at hw
  refine V_aload_n X dX11_subtreeDistance_0 rfl (q := 0) rfl ?_
  refine V_aload_n X dX11_subtreeDistance_1 rfl (q := 0) rfl ?_
  refine V_iconst X dX11_subtreeDistance_2 ?_
  refine V_iload_n X dX11_subtreeDistance_3 rfl (q := 1) rfl ?_
  refine V_callV_i X _ gO_13 rfl (As := [iv 0, iv p0]) (st := [.ref (a 13)]) (c_X11_isNode l hw) (cwV 2 X.2.2.2.1 gX11_subtreeDistance_X11_isNode rfl rfl rfl (by decide +kernel) ⟨Nat.le_of_ble_eq_true rfl, Nat.le_of_ble_eq_true rfl⟩) rfl (Nat.le_of_ble_eq_true rfl) ⟨Nat.le_of_ble_eq_true rfl, Nat.le_of_ble_eq_true rfl⟩ rfl dX11_subtreeDistance_4 (fun y1 M2 hw => ?_)
  obtain ⟨h3, hw⟩ := hw
  refine V_if_eq (tgt := 23) X h3 dX11_subtreeDistance_7 (by decide) (fun q4 => ?_) (fun q4 => ?_)
  · have hw := hw.1 q4
    exact wkj_X11_subtreeDistance_23 X hr hw
  · have hw := hw.2 q4
    refine V_aload_n X dX11_subtreeDistance_10 rfl (q := 0) rfl ?_
    refine V_iconst X dX11_subtreeDistance_11 ?_
    refine V_iload_n X dX11_subtreeDistance_12 rfl (q := 2) rfl ?_
    refine V_callV_i X _ gO_13 rfl (As := [iv 1, iv p1]) (st := [.ref (a 13)]) (c_X11_isNode l hw) (cwV 2 X.2.2.2.1 gX11_subtreeDistance_X11_isNode rfl rfl rfl (by decide +kernel) ⟨Nat.le_of_ble_eq_true rfl, Nat.le_of_ble_eq_true rfl⟩) rfl (Nat.le_of_ble_eq_true rfl) ⟨Nat.le_of_ble_eq_true rfl, Nat.le_of_ble_eq_true rfl⟩ rfl dX11_subtreeDistance_13 (fun y5 M6 hw => ?_)
    obtain ⟨h7, hw⟩ := hw
    refine V_if_eq (tgt := 23) X h7 dX11_subtreeDistance_16 (by decide) (fun q8 => ?_) (fun q8 => ?_)
    · have hw := hw.1 q8
      exact wkj_X11_subtreeDistance_23 X hr hw
    · have hw := hw.2 q8
      refine V_iconst X dX11_subtreeDistance_19 ?_
      refine V_goto (tgt := 24) X dX11_subtreeDistance_20 (by decide) ?_
      exact wkj_X11_subtreeDistance_24 X hr hw
set_option maxHeartbeats 4000000 in
set_option maxRecDepth 100000 in
theorem c_X11_subtreeDistance (l : Launch) {p0 : Int} {p1 : Int} {D : va_G} {g : GT} {A : Nat → Prop} {a : Nat → Nat} {b : Nat → Nat → Nat} {M : Mem} {Q : Int → Mem → Prop} (hw : wp_X11_subtreeDistance M p0 p1 Q) : Met l yX11_subtreeDistance wsX11_subtreeDistance ({ frames := 4, cells := 0, slots := 0, locals := 100 } : Room) (cPc D g A a b M [.ref (a 13), iv p0, iv p1]) (cQi D g A a b Q) 0 0 A := by
  refine Met.ofW (cc := cX11_subtreeDistance) (maxL := 6) (ret := (some .int)) (by decide) rfl ?_
  intro p e s m args below meth c s₁ B hml hv
  obtain ⟨rfl, hP, hD, hG⟩ := hv
  have X : vC p s m _ meth c D g A RX11 wsX11_subtreeDistance cX11_subtreeDistance 6 := ⟨B.exec, B.bytes, findClass_of_methodNamed B.named, atoms_spec (ws := wsX11_subtreeDistance) B.pre, hG, hml, B.notSynchronized⟩
  have hr := B.returns
  have hl := lv_entry ([.ref (a 13), iv p0, iv p1]) (n := 6) (Nat.le_of_ble_eq_true rfl)
  rw [lg_entry_eq]
  generalize (lg_sl ([.ref (a 13), iv p0, iv p1]) ++ List.replicate (6 - (lg_sl ([.ref (a 13), iv p0, iv p1])).length) Slot.unset).toArray = ls at hl ⊢
  have hl : lv_has ls 6 [(0, .ref (a 13)), (1, iv p0), (2, iv p1)] := hl
  exact wke_X11_subtreeDistance X hr  hw s.heap [] ls hP hD va_S.rf hl
