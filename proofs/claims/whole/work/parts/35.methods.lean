set_option maxRecDepth 20000 in
theorem ggX2_solve_X2_solveForests : GoodIn wsX2_solve wsX2_solveForests := goodIn_r _ [6, 1, 7, 8, 9, 10, 5, 11, 12, 13, 14, 15, 16, 17, 18, 19, 20, 21, 22, 23, 24, 25, 26, 27, 28, 29] (by decide +kernel) (by decide +kernel)
set_option maxRecDepth 20000 in
theorem gX2_solve_X2_solveForests : GoodIn wsX2_solve (wsV RX2 41 RX2 yX2_solveForests wsX2_solveForests) := goodIn_app (goodIn_of _ (by decide +kernel)) ggX2_solve_X2_solveForests
theorem dX2_solve_0 : decode cX2_solve 0 = .ok (.aload_n 0, 1) := by decide +kernel
theorem dX2_solve_1 : decode cX2_solve 1 = .ok (.getfield 18, 3) := by decide +kernel
theorem dX2_solve_4 : decode cX2_solve 4 = .ok (.getfield 22, 3) := by decide +kernel
theorem dX2_solve_7 : decode cX2_solve 7 = .ok (.astore_n 1, 1) := by decide +kernel
theorem dX2_solve_8 : decode cX2_solve 8 = .ok (.aload_n 0, 1) := by decide +kernel
theorem dX2_solve_9 : decode cX2_solve 9 = .ok (.getfield 18, 3) := by decide +kernel
theorem dX2_solve_12 : decode cX2_solve 12 = .ok (.getfield 28, 3) := by decide +kernel
theorem dX2_solve_15 : decode cX2_solve 15 = .ok (.astore_n 2, 1) := by decide +kernel
theorem dX2_solve_16 : decode cX2_solve 16 = .ok (.iconst 0, 1) := by decide +kernel
theorem dX2_solve_17 : decode cX2_solve 17 = .ok (.istore_n 3, 1) := by decide +kernel
theorem dX2_solve_18 : decode cX2_solve 18 = .ok (.iload_n 3, 1) := by decide +kernel
theorem dX2_solve_19 : decode cX2_solve 19 = .ok (.aload_n 1, 1) := by decide +kernel
theorem dX2_solve_20 : decode cX2_solve 20 = .ok (.getfield 31, 3) := by decide +kernel
theorem dX2_solve_23 : decode cX2_solve 23 = .ok (.if_icmp .ge 53, 3) := by decide +kernel
theorem dX2_solve_26 : decode cX2_solve 26 = .ok (.iconst 0, 1) := by decide +kernel
theorem dX2_solve_27 : decode cX2_solve 27 = .ok (.istore 4, 2) := by decide +kernel
theorem dX2_solve_29 : decode cX2_solve 29 = .ok (.iload 4, 2) := by decide +kernel
theorem dX2_solve_31 : decode cX2_solve 31 = .ok (.aload_n 2, 1) := by decide +kernel
theorem dX2_solve_32 : decode cX2_solve 32 = .ok (.getfield 31, 3) := by decide +kernel
theorem dX2_solve_35 : decode cX2_solve 35 = .ok (.if_icmp .ge 35, 3) := by decide +kernel
theorem dX2_solve_38 : decode cX2_solve 38 = .ok (.aload_n 1, 1) := by decide +kernel
theorem dX2_solve_39 : decode cX2_solve 39 = .ok (.getfield 37, 3) := by decide +kernel
theorem dX2_solve_42 : decode cX2_solve 42 = .ok (.iload_n 3, 1) := by decide +kernel
theorem dX2_solve_43 : decode cX2_solve 43 = .ok (.baload, 1) := by decide +kernel
theorem dX2_solve_44 : decode cX2_solve 44 = .ok (.ifCond .eq 20, 3) := by decide +kernel
theorem dX2_solve_47 : decode cX2_solve 47 = .ok (.aload_n 2, 1) := by decide +kernel
theorem dX2_solve_48 : decode cX2_solve 48 = .ok (.getfield 37, 3) := by decide +kernel
theorem dX2_solve_51 : decode cX2_solve 51 = .ok (.iload 4, 2) := by decide +kernel
theorem dX2_solve_53 : decode cX2_solve 53 = .ok (.baload, 1) := by decide +kernel
theorem dX2_solve_54 : decode cX2_solve 54 = .ok (.ifCond .eq 10, 3) := by decide +kernel
theorem dX2_solve_57 : decode cX2_solve 57 = .ok (.aload_n 0, 1) := by decide +kernel
theorem dX2_solve_58 : decode cX2_solve 58 = .ok (.iload_n 3, 1) := by decide +kernel
theorem dX2_solve_59 : decode cX2_solve 59 = .ok (.iload 4, 2) := by decide +kernel
theorem dX2_solve_61 : decode cX2_solve 61 = .ok (.invokevirtual 41, 3) := by decide +kernel
theorem dX2_solve_64 : decode cX2_solve 64 = .ok (.iinc 4 1, 3) := by decide +kernel
theorem dX2_solve_67 : decode cX2_solve 67 = .ok (.goto (-38), 3) := by decide +kernel
theorem dX2_solve_70 : decode cX2_solve 70 = .ok (.iinc 3 1, 3) := by decide +kernel
theorem dX2_solve_73 : decode cX2_solve 73 = .ok (.goto (-55), 3) := by decide +kernel
theorem dX2_solve_76 : decode cX2_solve 76 = .ok (.return_, 1) := by decide +kernel
theorem lk_X2_solve_f18 : Cond.fieldLink RX2 18 "TreeComparer$KeyrootTable" "layout" "LTreeComparer$Layout;" ∈ wsX2_solve := by decide +kernel
theorem hi_X2_solve_2 : ∀ w ∈ u_ws RX2 TX2 3, w ∈ wsX2_solve := by decide +kernel
theorem hi_X2_solve_3 : ∀ w ∈ u_ws RX3 TX3 4, w ∈ wsX2_solve := by decide +kernel
theorem hi_X2_solve_6 : ∀ w ∈ u_ws RX6 TX6 6, w ∈ wsX2_solve := by decide +kernel
def wpj_X2_solve_64 (x3 : Int) (x4 : Int) (M : Mem) (J18 : Int → Mem → Prop) (J29 : Int → Int → Mem → Prop) (Q : Mem → Prop) : Prop := J29 x3 (x4 + 1) M
def wph_X2_solve_29 (x3 : Int) (x4 : Int) (M : Mem) (J18 : Int → Mem → Prop) (J29 : Int → Int → Mem → Prop) (Q : Mem → Prop) : Prop := inR x4 ∧ inR (M 10 5 0) ∧ (((M 10 5 0) ≤ x4 → J18 (x3 + 1) M) ∧ (¬ ((M 10 5 0) ≤ x4) → ((0 : Int) ≤ x3 ∧ x3 < 12) ∧ inR (M 9 2 x3.toNat) ∧ (((M 9 2 x3.toNat) = 0 → wpj_X2_solve_64 x3 x4 M J18 J29 Q) ∧ (¬ ((M 9 2 x3.toNat) = 0) → ((0 : Int) ≤ x4 ∧ x4 < 12) ∧ inR (M 10 2 x4.toNat) ∧ (((M 10 2 x4.toNat) = 0 → wpj_X2_solve_64 x3 x4 M J18 J29 Q) ∧ (¬ ((M 10 2 x4.toNat) = 0) → wp_X2_solveForests M x3 x4 (fun M14 => wpj_X2_solve_64 x3 x4 M14 J18 J29 Q)))))))
def wph_X2_solve_18 (x3 : Int) (M : Mem) (J18 : Int → Mem → Prop) (J29 : Int → Int → Mem → Prop) (Q : Mem → Prop) : Prop := inR x3 ∧ inR (M 9 5 0) ∧ (((M 9 5 0) ≤ x3 → Q M) ∧ (¬ ((M 9 5 0) ≤ x3) → J29 x3 0 M))
def wpe_X2_solve (M : Mem) (J18 : Int → Mem → Prop) (J29 : Int → Int → Mem → Prop) (Q : Mem → Prop) : Prop := J18 0 M
def wp_X2_solve (M : Mem) (Q : Mem → Prop) : Prop := ∃ (I18 : Nat → Int → Mem → Prop) (I29 : Nat → Int → Int → Mem → Prop), wpe_X2_solve M (fun (x3 : Int) (M1 : Mem) => ∃ n1 : Nat, I18 n1 x3 M1) (fun (x3 : Int) (x4 : Int) (M1 : Mem) => ∃ n1 : Nat, I29 n1 x3 x4 M1) Q ∧ (∀ (n : Nat) (x3 : Int) (M : Mem), I18 n x3 M → wph_X2_solve_18 x3 M (fun (x3 : Int) (M1 : Mem) => ∃ n1 : Nat, n1 < n ∧ I18 n1 x3 M1) (fun (x3 : Int) (x4 : Int) (M1 : Mem) => ∃ n1 : Nat, n1 < n ∧ I29 n1 x3 x4 M1) Q) ∧ (∀ (n : Nat) (x3 : Int) (x4 : Int) (M : Mem), I29 n x3 x4 M → wph_X2_solve_29 x3 x4 M (fun (x3 : Int) (M1 : Mem) => ∃ n1 : Nat, n1 < n ∧ I18 n1 x3 M1) (fun (x3 : Int) (x4 : Int) (M1 : Mem) => ∃ n1 : Nat, n1 < n ∧ I29 n1 x3 x4 M1) Q)
set_option maxHeartbeats 4000000 in
set_option maxRecDepth 100000 in
theorem wkj_X2_solve_64 {p : Program} {l : Launch} {e : Env} {s : State} {m : MethodId} {args : Array Value} {below : List Frame} {meth : Method} {c : Code} {D : va_G} {g : GT} {A : Nat → Prop} {a : Nat → Nat} {b : Nat → Nat → Nat} (X : vC p s m args meth c D g A RX2 wsX2_solve cX2_solve 5) (hr : meth.sig.returnType = none) {x3 : Int} {x4 : Int} {M : Mem} {J18 : Int → Mem → Prop} {J29 : Int → Int → Mem → Prop} {Q : Mem → Prop} (hJ18 : ∀ (x3 : Int) (M : Mem), J18 x3 M → vV p l e ({ frames := 3, cells := 0, slots := 0, locals := 98 } : Room) s m args below meth c D g A a b 5 0 0 (MQ below (cQv D g A a b Q) args s 0 0 A) M [(0, .ref (a 3)), (1, .ref (a 9)), (2, .ref (a 10)), (3, iv x3)] 18 []) (hJ29 : ∀ (x3 : Int) (x4 : Int) (M : Mem), J29 x3 x4 M → vV p l e ({ frames := 3, cells := 0, slots := 0, locals := 98 } : Room) s m args below meth c D g A a b 5 0 0 (MQ below (cQv D g A a b Q) args s 0 0 A) M [(0, .ref (a 3)), (1, .ref (a 9)), (2, .ref (a 10)), (3, iv x3), (4, iv x4)] 29 []) (hw : wpj_X2_solve_64 x3 x4 M J18 J29 Q) : vV p l e ({ frames := 3, cells := 0, slots := 0, locals := 98 } : Room) s m args below meth c D g A a b 5 0 0 (MQ below (cQv D g A a b Q) args s 0 0 A) M [(0, .ref (a 3)), (1, .ref (a 9)), (2, .ref (a 10)), (3, iv x3), (4, iv x4)] 64 [] := by
  unfold wpj_X2_solve_64 at hw
  refine V_iinc (lv1 := [(0, .ref (a 3)), (1, .ref (a 9)), (2, .ref (a 10)), (3, iv x3), (4, iv (x4 + 1))]) X [1, 2, 3, 4, 0] dX2_solve_64 (q := 4) rfl (by decide) rfl ?_
  refine V_goto (tgt := 29) X dX2_solve_67 (by decide) ?_
  exact hJ29 _ _ _ hw
set_option maxHeartbeats 4000000 in
set_option maxRecDepth 100000 in
theorem wkh_X2_solve_29 {p : Program} {l : Launch} {e : Env} {s : State} {m : MethodId} {args : Array Value} {below : List Frame} {meth : Method} {c : Code} {D : va_G} {g : GT} {A : Nat → Prop} {a : Nat → Nat} {b : Nat → Nat → Nat} (X : vC p s m args meth c D g A RX2 wsX2_solve cX2_solve 5) (hr : meth.sig.returnType = none) {x3 : Int} {x4 : Int} {M : Mem} {J18 : Int → Mem → Prop} {J29 : Int → Int → Mem → Prop} {Q : Mem → Prop} (hJ18 : ∀ (x3 : Int) (M : Mem), J18 x3 M → vV p l e ({ frames := 3, cells := 0, slots := 0, locals := 98 } : Room) s m args below meth c D g A a b 5 0 0 (MQ below (cQv D g A a b Q) args s 0 0 A) M [(0, .ref (a 3)), (1, .ref (a 9)), (2, .ref (a 10)), (3, iv x3)] 18 []) (hJ29 : ∀ (x3 : Int) (x4 : Int) (M : Mem), J29 x3 x4 M → vV p l e ({ frames := 3, cells := 0, slots := 0, locals := 98 } : Room) s m args below meth c D g A a b 5 0 0 (MQ below (cQv D g A a b Q) args s 0 0 A) M [(0, .ref (a 3)), (1, .ref (a 9)), (2, .ref (a 10)), (3, iv x3), (4, iv x4)] 29 []) (hw : wph_X2_solve_29 x3 x4 M J18 J29 Q) : vV p l e ({ frames := 3, cells := 0, slots := 0, locals := 98 } : Room) s m args below meth c D g A a b 5 0 0 (MQ below (cQv D g A a b Q) args s 0 0 A) M [(0, .ref (a 3)), (1, .ref (a 9)), (2, .ref (a 10)), (3, iv x3), (4, iv x4)] 29 [] := by
  unfold wph_X2_solve_29 at hw
  refine V_iload X dX2_solve_29 (q := 4) rfl ?_
  refine V_aload_n X dX2_solve_31 rfl (q := 2) rfl ?_
  refine V_getN (C := RX6) (T := TX6) (N := 6) (ci := 6) X hi_X2_solve_6 gO_10 rfl 5 (by decide) (List.mem_of_getElem? (i := 53) rfl) (fun _ h9 => h9) rfl dX2_solve_32 ?_
  obtain ⟨h4, h5, hw⟩ := hw
  refine V_icmp_ge (tgt := 70) X h4 h5 dX2_solve_35 (by decide) (fun q6 => ?_) (fun q6 => ?_)
  · have hw := hw.1 q6
    refine V_iinc (lv1 := [(0, .ref (a 3)), (1, .ref (a 9)), (2, .ref (a 10)), (3, iv (x3 + 1)), (4, iv x4)]) X [1, 2, 3, 0, 4] dX2_solve_70 (q := 3) rfl (by decide) rfl ?_
    refine V_goto (tgt := 18) X dX2_solve_73 (by decide) ?_
    refine V_sub (lv1 := [(0, .ref (a 3)), (1, .ref (a 9)), (2, .ref (a 10)), (3, iv (x3 + 1))]) [0, 1, 2, 3] rfl ?_
    exact hJ18 _ _ hw
  · have hw := hw.2 q6
    refine V_aload_n X dX2_solve_38 rfl (q := 1) rfl ?_
    refine V_getN (C := RX6) (T := TX6) (N := 6) (ci := 6) X hi_X2_solve_6 gO_9 rfl 2 (by decide) (List.mem_of_getElem? (i := 49) rfl) (fun _ h9 => h9) rfl dX2_solve_39 ?_
    refine V_iload_n X dX2_solve_42 rfl (q := 3) rfl ?_
    obtain ⟨h7, hw⟩ := hw
    refine V_zald X (gA_9_2) h7 (by decide) dX2_solve_43 ?_
    obtain ⟨h8, hw⟩ := hw
    refine V_if_eq (tgt := 64) X h8 dX2_solve_44 (by decide) (fun q9 => ?_) (fun q9 => ?_)
    · have hw := hw.1 q9
      exact wkj_X2_solve_64 X hr hJ18 hJ29 hw
    · have hw := hw.2 q9
      refine V_aload_n X dX2_solve_47 rfl (q := 2) rfl ?_
      refine V_getN (C := RX6) (T := TX6) (N := 6) (ci := 6) X hi_X2_solve_6 gO_10 rfl 2 (by decide) (List.mem_of_getElem? (i := 49) rfl) (fun _ h9 => h9) rfl dX2_solve_48 ?_
      refine V_iload X dX2_solve_51 (q := 4) rfl ?_
      obtain ⟨h10, hw⟩ := hw
      refine V_zald X (gA_10_2) h10 (by decide) dX2_solve_53 ?_
      obtain ⟨h11, hw⟩ := hw
      refine V_if_eq (tgt := 64) X h11 dX2_solve_54 (by decide) (fun q12 => ?_) (fun q12 => ?_)
      · have hw := hw.1 q12
        exact wkj_X2_solve_64 X hr hJ18 hJ29 hw
      · have hw := hw.2 q12
        refine V_aload_n X dX2_solve_57 rfl (q := 0) rfl ?_
        refine V_iload_n X dX2_solve_58 rfl (q := 3) rfl ?_
        refine V_iload X dX2_solve_59 (q := 4) rfl ?_
        refine V_callV_v X _ gO_3 rfl (As := [iv x3, iv x4]) (st := []) (c_X2_solveForests l hw) (cwV 2 X.2.2.2.1 gX2_solve_X2_solveForests rfl rfl rfl (by decide +kernel) ⟨Nat.le_of_ble_eq_true rfl, Nat.le_of_ble_eq_true rfl⟩) rfl (Nat.le_of_ble_eq_true rfl) ⟨Nat.le_of_ble_eq_true rfl, Nat.le_of_ble_eq_true rfl⟩ rfl dX2_solve_61 (fun M14 hw => ?_)
        exact wkj_X2_solve_64 X hr hJ18 hJ29 hw
set_option maxHeartbeats 4000000 in
set_option maxRecDepth 100000 in
theorem wkh_X2_solve_18 {p : Program} {l : Launch} {e : Env} {s : State} {m : MethodId} {args : Array Value} {below : List Frame} {meth : Method} {c : Code} {D : va_G} {g : GT} {A : Nat → Prop} {a : Nat → Nat} {b : Nat → Nat → Nat} (X : vC p s m args meth c D g A RX2 wsX2_solve cX2_solve 5) (hr : meth.sig.returnType = none) {x3 : Int} {M : Mem} {J18 : Int → Mem → Prop} {J29 : Int → Int → Mem → Prop} {Q : Mem → Prop} (hJ18 : ∀ (x3 : Int) (M : Mem), J18 x3 M → vV p l e ({ frames := 3, cells := 0, slots := 0, locals := 98 } : Room) s m args below meth c D g A a b 5 0 0 (MQ below (cQv D g A a b Q) args s 0 0 A) M [(0, .ref (a 3)), (1, .ref (a 9)), (2, .ref (a 10)), (3, iv x3)] 18 []) (hJ29 : ∀ (x3 : Int) (x4 : Int) (M : Mem), J29 x3 x4 M → vV p l e ({ frames := 3, cells := 0, slots := 0, locals := 98 } : Room) s m args below meth c D g A a b 5 0 0 (MQ below (cQv D g A a b Q) args s 0 0 A) M [(0, .ref (a 3)), (1, .ref (a 9)), (2, .ref (a 10)), (3, iv x3), (4, iv x4)] 29 []) (hw : wph_X2_solve_18 x3 M J18 J29 Q) : vV p l e ({ frames := 3, cells := 0, slots := 0, locals := 98 } : Room) s m args below meth c D g A a b 5 0 0 (MQ below (cQv D g A a b Q) args s 0 0 A) M [(0, .ref (a 3)), (1, .ref (a 9)), (2, .ref (a 10)), (3, iv x3)] 18 [] := by
  unfold wph_X2_solve_18 at hw
  refine V_iload_n X dX2_solve_18 rfl (q := 3) rfl ?_
  refine V_aload_n X dX2_solve_19 rfl (q := 1) rfl ?_
  refine V_getN (C := RX6) (T := TX6) (N := 6) (ci := 6) X hi_X2_solve_6 gO_9 rfl 5 (by decide) (List.mem_of_getElem? (i := 53) rfl) (fun _ h9 => h9) rfl dX2_solve_20 ?_
  obtain ⟨h1, h2, hw⟩ := hw
  refine V_icmp_ge (tgt := 76) X h1 h2 dX2_solve_23 (by decide) (fun q3 => ?_) (fun q3 => ?_)
  · have hw := hw.1 q3
    exact V_vret X hr hw dX2_solve_76
  · have hw := hw.2 q3
    refine V_iconst X dX2_solve_26 ?_
    refine V_istore (lv1 := [(0, .ref (a 3)), (1, .ref (a 9)), (2, .ref (a 10)), (3, iv x3), (4, iv 0)]) X [1, 2, 3, 4, 0] dX2_solve_27 (by decide) rfl ?_
    exact hJ29 _ _ _ hw
set_option maxHeartbeats 4000000 in
set_option maxRecDepth 100000 in
theorem wke_X2_solve {p : Program} {l : Launch} {e : Env} {s : State} {m : MethodId} {args : Array Value} {below : List Frame} {meth : Method} {c : Code} {D : va_G} {g : GT} {A : Nat → Prop} {a : Nat → Nat} {b : Nat → Nat → Nat} (X : vC p s m args meth c D g A RX2 wsX2_solve cX2_solve 5) (hr : meth.sig.returnType = none) {M : Mem} {J18 : Int → Mem → Prop} {J29 : Int → Int → Mem → Prop} {Q : Mem → Prop} (hJ18 : ∀ (x3 : Int) (M : Mem), J18 x3 M → vV p l e ({ frames := 3, cells := 0, slots := 0, locals := 98 } : Room) s m args below meth c D g A a b 5 0 0 (MQ below (cQv D g A a b Q) args s 0 0 A) M [(0, .ref (a 3)), (1, .ref (a 9)), (2, .ref (a 10)), (3, iv x3)] 18 []) (hJ29 : ∀ (x3 : Int) (x4 : Int) (M : Mem), J29 x3 x4 M → vV p l e ({ frames := 3, cells := 0, slots := 0, locals := 98 } : Room) s m args below meth c D g A a b 5 0 0 (MQ below (cQv D g A a b Q) args s 0 0 A) M [(0, .ref (a 3)), (1, .ref (a 9)), (2, .ref (a 10)), (3, iv x3), (4, iv x4)] 29 []) (hw : wpe_X2_solve M J18 J29 Q) : vV p l e ({ frames := 3, cells := 0, slots := 0, locals := 98 } : Room) s m args below meth c D g A a b 5 0 0 (MQ below (cQv D g A a b Q) args s 0 0 A) M [(0, .ref (a 3))] 0 [] := by
  unfold wpe_X2_solve at hw
  refine V_aload_n X dX2_solve_0 rfl (q := 0) rfl ?_
  refine V_get (C := RX2) (T := TX2) (N := 3) (ci := 2) X hi_X2_solve_2 gO_3 rfl 0 (by decide) lk_X2_solve_f18 (fun _ h9 => h9) rfl dX2_solve_1 ?_
  refine V_getN (C := RX3) (T := TX3) (N := 4) (ci := 3) X hi_X2_solve_3 gO_2 rfl 1 (by decide) (List.mem_of_getElem? (i := 57) rfl) (fun _ h9 => h9) rfl dX2_solve_4 ?_
  refine V_astore_n (lv1 := [(0, .ref (a 3)), (1, .ref (a 9))]) X [1, 0] dX2_solve_7 rfl (by decide) rfl ?_
  refine V_aload_n X dX2_solve_8 rfl (q := 0) rfl ?_
  refine V_get (C := RX2) (T := TX2) (N := 3) (ci := 2) X hi_X2_solve_2 gO_3 rfl 0 (by decide) lk_X2_solve_f18 (fun _ h9 => h9) rfl dX2_solve_9 ?_
  refine V_getN (C := RX3) (T := TX3) (N := 4) (ci := 3) X hi_X2_solve_3 gO_2 rfl 2 (by decide) (List.mem_of_getElem? (i := 62) rfl) (fun _ h9 => h9) rfl dX2_solve_12 ?_
  refine V_astore_n (lv1 := [(0, .ref (a 3)), (1, .ref (a 9)), (2, .ref (a 10))]) X [1, 2, 0] dX2_solve_15 rfl (by decide) rfl ?_
  refine V_iconst X dX2_solve_16 ?_
  refine V_istore_n (lv1 := [(0, .ref (a 3)), (1, .ref (a 9)), (2, .ref (a 10)), (3, iv 0)]) X [1, 2, 3, 0] dX2_solve_17 rfl (by decide) rfl ?_
  exact hJ18 _ _ hw
set_option maxHeartbeats 4000000 in
set_option maxRecDepth 100000 in
theorem c_X2_solve (l : Launch) {D : va_G} {g : GT} {A : Nat → Prop} {a : Nat → Nat} {b : Nat → Nat → Nat} {M : Mem} {Q : Mem → Prop} (hw : wp_X2_solve M Q) : Met l yX2_solve wsX2_solve ({ frames := 3, cells := 0, slots := 0, locals := 98 } : Room) (cPc D g A a b M [.ref (a 3)]) (cQv D g A a b Q) 0 0 A := by
  refine Met.ofW (cc := cX2_solve) (maxL := 5) (ret := none) (by decide) rfl ?_
  intro p e s m args below meth c s₁ B hml hv
  obtain ⟨rfl, hP, hD, hG⟩ := hv
  have X : vC p s m _ meth c D g A RX2 wsX2_solve cX2_solve 5 := ⟨B.exec, B.bytes, findClass_of_methodNamed B.named, atoms_spec (ws := wsX2_solve) B.pre, hG, hml, B.notSynchronized⟩
  have hr := B.returns
  have hl := lv_entry ([.ref (a 3)]) (n := 5) (Nat.le_of_ble_eq_true rfl)
  rw [lg_entry_eq]
  generalize (lg_sl ([.ref (a 3)]) ++ List.replicate (5 - (lg_sl ([.ref (a 3)])).length) Slot.unset).toArray = ls at hl ⊢
  have hl : lv_has ls 5 [(0, .ref (a 3))] := hl
  obtain ⟨I18, I29, hw, hI18, hI29⟩ := hw
  have K : ∀ n : Nat, (∀ (x3 : Int) (M : Mem), I18 n x3 M → vV p l e ({ frames := 3, cells := 0, slots := 0, locals := 98 } : Room) s m ([.ref (a 3)] : List Value).toArray below meth c D g A a b 5 0 0 (MQ below (cQv D g A a b Q) ([.ref (a 3)] : List Value).toArray s 0 0 A) M [(0, .ref (a 3)), (1, .ref (a 9)), (2, .ref (a 10)), (3, iv x3)] 18 []) ∧ (∀ (x3 : Int) (x4 : Int) (M : Mem), I29 n x3 x4 M → vV p l e ({ frames := 3, cells := 0, slots := 0, locals := 98 } : Room) s m ([.ref (a 3)] : List Value).toArray below meth c D g A a b 5 0 0 (MQ below (cQv D g A a b Q) ([.ref (a 3)] : List Value).toArray s 0 0 A) M [(0, .ref (a 3)), (1, .ref (a 9)), (2, .ref (a 10)), (3, iv x3), (4, iv x4)] 29 []) := by
    intro n
    induction n using Nat.strongRecOn with
    | ind n ih =>
      exact ⟨fun x3 M hh => wkh_X2_solve_18 X hr (fun _ _ ⟨n1, hn, hh⟩ => (ih n1 hn).1 _ _ hh) (fun _ _ _ ⟨n1, hn, hh⟩ => (ih n1 hn).2 _ _ _ hh) (hI18 n x3 M hh), fun x3 x4 M hh => wkh_X2_solve_29 X hr (fun _ _ ⟨n1, hn, hh⟩ => (ih n1 hn).1 _ _ hh) (fun _ _ _ ⟨n1, hn, hh⟩ => (ih n1 hn).2 _ _ _ hh) (hI29 n x3 x4 M hh)⟩
  exact wke_X2_solve X hr  (fun _ _ ⟨n1, hh⟩ => (K n1).1 _ _ hh) (fun _ _ _ ⟨n1, hh⟩ => (K n1).2 _ _ _ hh) hw s.heap [] ls hP hD va_S.rf hl

set_option maxRecDepth 20000 in
theorem ggX2_whole_X3_withoutPairs : GoodIn wsX2_whole wsX3_withoutPairs := goodIn_r _ [5, 6, 7, 8, 9, 10, 11, 12, 22, 23, 24, 25, 26, 27, 28, 29, 30, 31] (by decide +kernel) (by decide +kernel)
set_option maxRecDepth 20000 in
theorem gX2_whole_X3_withoutPairs_n64 : GoodIn wsX2_whole (wsX3_withoutPairs) := ggX2_whole_X3_withoutPairs
set_option maxRecDepth 20000 in
theorem ggX2_whole_X2_between : GoodIn wsX2_whole wsX2_between := goodIn_r _ [17, 18, 19, 20, 21] (by decide +kernel) (by decide +kernel)
set_option maxRecDepth 20000 in
theorem gX2_whole_X2_between : GoodIn wsX2_whole (wsV RX2 68 RX2 yX2_between wsX2_between) := goodIn_app (goodIn_of _ (by decide +kernel)) ggX2_whole_X2_between
theorem dX2_whole_0 : decode cX2_whole 0 = .ok (.aload_n 0, 1) := by decide +kernel
theorem dX2_whole_1 : decode cX2_whole 1 = .ok (.getfield 18, 3) := by decide +kernel
theorem dX2_whole_4 : decode cX2_whole 4 = .ok (.getfield 22, 3) := by decide +kernel
theorem dX2_whole_7 : decode cX2_whole 7 = .ok (.getfield 31, 3) := by decide +kernel
theorem dX2_whole_10 : decode cX2_whole 10 = .ok (.ifCond .eq 16, 3) := by decide +kernel
theorem dX2_whole_13 : decode cX2_whole 13 = .ok (.aload_n 0, 1) := by decide +kernel
theorem dX2_whole_14 : decode cX2_whole 14 = .ok (.getfield 18, 3) := by decide +kernel
theorem dX2_whole_17 : decode cX2_whole 17 = .ok (.getfield 28, 3) := by decide +kernel
theorem dX2_whole_20 : decode cX2_whole 20 = .ok (.getfield 31, 3) := by decide +kernel
theorem dX2_whole_23 : decode cX2_whole 23 = .ok (.ifCond .ne 11, 3) := by decide +kernel
theorem dX2_whole_26 : decode cX2_whole 26 = .ok (.aload_n 0, 1) := by decide +kernel
theorem dX2_whole_27 : decode cX2_whole 27 = .ok (.getfield 18, 3) := by decide +kernel
theorem dX2_whole_30 : decode cX2_whole 30 = .ok (.invokevirtual 64, 3) := by decide +kernel
theorem dX2_whole_33 : decode cX2_whole 33 = .ok (.ireturn, 1) := by decide +kernel
theorem dX2_whole_34 : decode cX2_whole 34 = .ok (.aload_n 0, 1) := by decide +kernel
theorem dX2_whole_35 : decode cX2_whole 35 = .ok (.aload_n 0, 1) := by decide +kernel
theorem dX2_whole_36 : decode cX2_whole 36 = .ok (.getfield 18, 3) := by decide +kernel
theorem dX2_whole_39 : decode cX2_whole 39 = .ok (.getfield 22, 3) := by decide +kernel
theorem dX2_whole_42 : decode cX2_whole 42 = .ok (.getfield 31, 3) := by decide +kernel
theorem dX2_whole_45 : decode cX2_whole 45 = .ok (.iconst 1, 1) := by decide +kernel
theorem dX2_whole_46 : decode cX2_whole 46 = .ok (.isub, 1) := by decide +kernel
theorem dX2_whole_47 : decode cX2_whole 47 = .ok (.aload_n 0, 1) := by decide +kernel
theorem dX2_whole_48 : decode cX2_whole 48 = .ok (.getfield 18, 3) := by decide +kernel
theorem dX2_whole_51 : decode cX2_whole 51 = .ok (.getfield 28, 3) := by decide +kernel
theorem dX2_whole_54 : decode cX2_whole 54 = .ok (.getfield 31, 3) := by decide +kernel
theorem dX2_whole_57 : decode cX2_whole 57 = .ok (.iconst 1, 1) := by decide +kernel
theorem dX2_whole_58 : decode cX2_whole 58 = .ok (.isub, 1) := by decide +kernel
theorem dX2_whole_59 : decode cX2_whole 59 = .ok (.invokevirtual 68, 3) := by decide +kernel
theorem dX2_whole_62 : decode cX2_whole 62 = .ok (.ireturn, 1) := by decide +kernel
theorem lk_X2_whole_f18 : Cond.fieldLink RX2 18 "TreeComparer$KeyrootTable" "layout" "LTreeComparer$Layout;" ∈ wsX2_whole := by decide +kernel
theorem hi_X2_whole_2 : ∀ w ∈ u_ws RX2 TX2 3, w ∈ wsX2_whole := by decide +kernel
theorem hi_X2_whole_3 : ∀ w ∈ u_ws RX3 TX3 4, w ∈ wsX2_whole := by decide +kernel
theorem hi_X2_whole_6 : ∀ w ∈ u_ws RX6 TX6 6, w ∈ wsX2_whole := by decide +kernel
theorem lk_X2_whole_i3 : Cond.initialized RX3 ∈ wsX2_whole := by decide +kernel
theorem lk_X2_whole_im64 : Cond.instanceMethod yX3_withoutPairs ∈ wsX2_whole := by decide +kernel
theorem lk_X2_whole_se64 : Cond.selects RX3 yX3_withoutPairs yX3_withoutPairs ∈ wsX2_whole := by decide +kernel
def wpj_X2_whole_26 (M : Mem) (Q : Int → Mem → Prop) : Prop := wp_X3_withoutPairs M (fun y7 M8 => Q y7 M8)
def wpe_X2_whole (M : Mem) (Q : Int → Mem → Prop) : Prop := inR (M 9 5 0) ∧ (((M 9 5 0) = 0 → wpj_X2_whole_26 M Q) ∧ (¬ ((M 9 5 0) = 0) → inR (M 10 5 0) ∧ (((M 10 5 0) ≠ 0 → wp_X2_between M ((M 9 5 0) - 1) ((M 10 5 0) - 1) (fun y5 M6 => Q y5 M6)) ∧ (¬ ((M 10 5 0) ≠ 0) → wpj_X2_whole_26 M Q))))
def wp_X2_whole (M : Mem) (Q : Int → Mem → Prop) : Prop := wpe_X2_whole M Q
set_option maxHeartbeats 4000000 in
set_option maxRecDepth 100000 in
theorem wkj_X2_whole_26 {p : Program} {l : Launch} {e : Env} {s : State} {m : MethodId} {args : Array Value} {below : List Frame} {meth : Method} {c : Code} {D : va_G} {g : GT} {A : Nat → Prop} {a : Nat → Nat} {b : Nat → Nat → Nat} (X : vC p s m args meth c D g A RX2 wsX2_whole cX2_whole 1) (hr : meth.sig.returnType = (some .int)) {M : Mem} {Q : Int → Mem → Prop} (hw : wpj_X2_whole_26 M Q) : vV p l e ({ frames := 2, cells := 0, slots := 0, locals := 42 } : Room) s m args below meth c D g A a b 1 0 0 (MQ below (cQi D g A a b Q) args s 0 0 A) M [(0, .ref (a 3))] 26 [] := by
  unfold wpj_X2_whole_26 at hw
  refine V_aload_n X dX2_whole_26 rfl (q := 0) rfl ?_
  refine V_get (C := RX2) (T := TX2) (N := 3) (ci := 2) X hi_X2_whole_2 gO_3 rfl 0 (by decide) lk_X2_whole_f18 (fun _ h9 => h9) rfl dX2_whole_27 ?_
  refine V_callVN_i X _ gO_2 rfl (As := []) (st := []) (c_X3_withoutPairs l hw) ⟨va_cnB 0 X.2.2.2.1 gX2_whole_X3_withoutPairs_n64 rfl rfl rfl (X.2.2.2.2.1.2.1 _ (List.mem_of_getElem? (i := 101) rfl)) (X.2.2.2.1 _ lk_X2_whole_i3) (by decide +kernel) ⟨Nat.le_of_ble_eq_true rfl, Nat.le_of_ble_eq_true rfl⟩, X.2.2.2.1 _ lk_X2_whole_im64, X.2.2.2.1 _ lk_X2_whole_se64⟩ rfl (Nat.le_of_ble_eq_true rfl) ⟨Nat.le_of_ble_eq_true rfl, Nat.le_of_ble_eq_true rfl⟩ rfl dX2_whole_30 (fun y7 M8 hw => ?_)
  exact V_iret X hr hw dX2_whole_33
set_option maxHeartbeats 4000000 in
set_option maxRecDepth 100000 in
theorem wke_X2_whole {p : Program} {l : Launch} {e : Env} {s : State} {m : MethodId} {args : Array Value} {below : List Frame} {meth : Method} {c : Code} {D : va_G} {g : GT} {A : Nat → Prop} {a : Nat → Nat} {b : Nat → Nat → Nat} (X : vC p s m args meth c D g A RX2 wsX2_whole cX2_whole 1) (hr : meth.sig.returnType = (some .int)) {M : Mem} {Q : Int → Mem → Prop} (hw : wpe_X2_whole M Q) : vV p l e ({ frames := 2, cells := 0, slots := 0, locals := 42 } : Room) s m args below meth c D g A a b 1 0 0 (MQ below (cQi D g A a b Q) args s 0 0 A) M [(0, .ref (a 3))] 0 [] := by
  unfold wpe_X2_whole at hw
  refine V_aload_n X dX2_whole_0 rfl (q := 0) rfl ?_
  refine V_get (C := RX2) (T := TX2) (N := 3) (ci := 2) X hi_X2_whole_2 gO_3 rfl 0 (by decide) lk_X2_whole_f18 (fun _ h9 => h9) rfl dX2_whole_1 ?_
  refine V_getN (C := RX3) (T := TX3) (N := 4) (ci := 3) X hi_X2_whole_3 gO_2 rfl 1 (by decide) (List.mem_of_getElem? (i := 57) rfl) (fun _ h9 => h9) rfl dX2_whole_4 ?_
  refine V_getN (C := RX6) (T := TX6) (N := 6) (ci := 6) X hi_X2_whole_6 gO_9 rfl 5 (by decide) (List.mem_of_getElem? (i := 53) rfl) (fun _ h9 => h9) rfl dX2_whole_7 ?_
  obtain ⟨h1, hw⟩ := hw
  refine V_if_eq (tgt := 26) X h1 dX2_whole_10 (by decide) (fun q2 => ?_) (fun q2 => ?_)
  · have hw := hw.1 q2
    exact wkj_X2_whole_26 X hr hw
  · have hw := hw.2 q2
    refine V_aload_n X dX2_whole_13 rfl (q := 0) rfl ?_
    refine V_get (C := RX2) (T := TX2) (N := 3) (ci := 2) X hi_X2_whole_2 gO_3 rfl 0 (by decide) lk_X2_whole_f18 (fun _ h9 => h9) rfl dX2_whole_14 ?_
    refine V_getN (C := RX3) (T := TX3) (N := 4) (ci := 3) X hi_X2_whole_3 gO_2 rfl 2 (by decide) (List.mem_of_getElem? (i := 62) rfl) (fun _ h9 => h9) rfl dX2_whole_17 ?_
    refine V_getN (C := RX6) (T := TX6) (N := 6) (ci := 6) X hi_X2_whole_6 gO_10 rfl 5 (by decide) (List.mem_of_getElem? (i := 53) rfl) (fun _ h9 => h9) rfl dX2_whole_20 ?_
    obtain ⟨h3, hw⟩ := hw
    refine V_if_ne (tgt := 34) X h3 dX2_whole_23 (by decide) (fun q4 => ?_) (fun q4 => ?_)
    · have hw := hw.1 q4
      refine V_aload_n X dX2_whole_34 rfl (q := 0) rfl ?_
      refine V_aload_n X dX2_whole_35 rfl (q := 0) rfl ?_
      refine V_get (C := RX2) (T := TX2) (N := 3) (ci := 2) X hi_X2_whole_2 gO_3 rfl 0 (by decide) lk_X2_whole_f18 (fun _ h9 => h9) rfl dX2_whole_36 ?_
      refine V_getN (C := RX3) (T := TX3) (N := 4) (ci := 3) X hi_X2_whole_3 gO_2 rfl 1 (by decide) (List.mem_of_getElem? (i := 57) rfl) (fun _ h9 => h9) rfl dX2_whole_39 ?_
      refine V_getN (C := RX6) (T := TX6) (N := 6) (ci := 6) X hi_X2_whole_6 gO_9 rfl 5 (by decide) (List.mem_of_getElem? (i := 53) rfl) (fun _ h9 => h9) rfl dX2_whole_42 ?_
      refine V_iconst X dX2_whole_45 ?_
      refine V_isub X dX2_whole_46 ?_
      refine V_aload_n X dX2_whole_47 rfl (q := 0) rfl ?_
      refine V_get (C := RX2) (T := TX2) (N := 3) (ci := 2) X hi_X2_whole_2 gO_3 rfl 0 (by decide) lk_X2_whole_f18 (fun _ h9 => h9) rfl dX2_whole_48 ?_
      refine V_getN (C := RX3) (T := TX3) (N := 4) (ci := 3) X hi_X2_whole_3 gO_2 rfl 2 (by decide) (List.mem_of_getElem? (i := 62) rfl) (fun _ h9 => h9) rfl dX2_whole_51 ?_
      refine V_getN (C := RX6) (T := TX6) (N := 6) (ci := 6) X hi_X2_whole_6 gO_10 rfl 5 (by decide) (List.mem_of_getElem? (i := 53) rfl) (fun _ h9 => h9) rfl dX2_whole_54 ?_
      refine V_iconst X dX2_whole_57 ?_
      refine V_isub X dX2_whole_58 ?_
      refine V_callV_i X _ gO_3 rfl (As := [iv ((M 9 5 0) - 1), iv ((M 10 5 0) - 1)]) (st := []) (c_X2_between l hw) (cwV 2 X.2.2.2.1 gX2_whole_X2_between rfl rfl rfl (by decide +kernel) ⟨Nat.le_of_ble_eq_true rfl, Nat.le_of_ble_eq_true rfl⟩) rfl (Nat.le_of_ble_eq_true rfl) ⟨Nat.le_of_ble_eq_true rfl, Nat.le_of_ble_eq_true rfl⟩ rfl dX2_whole_59 (fun y5 M6 hw => ?_)
      exact V_iret X hr hw dX2_whole_62
    · have hw := hw.2 q4
      exact wkj_X2_whole_26 X hr hw
set_option maxHeartbeats 4000000 in
set_option maxRecDepth 100000 in
theorem c_X2_whole (l : Launch) {D : va_G} {g : GT} {A : Nat → Prop} {a : Nat → Nat} {b : Nat → Nat → Nat} {M : Mem} {Q : Int → Mem → Prop} (hw : wp_X2_whole M Q) : Met l yX2_whole wsX2_whole ({ frames := 2, cells := 0, slots := 0, locals := 42 } : Room) (cPc D g A a b M [.ref (a 3)]) (cQi D g A a b Q) 0 0 A := by
  refine Met.ofW (cc := cX2_whole) (maxL := 1) (ret := (some .int)) (by decide) rfl ?_
  intro p e s m args below meth c s₁ B hml hv
  obtain ⟨rfl, hP, hD, hG⟩ := hv
  have X : vC p s m _ meth c D g A RX2 wsX2_whole cX2_whole 1 := ⟨B.exec, B.bytes, findClass_of_methodNamed B.named, atoms_spec (ws := wsX2_whole) B.pre, hG, hml, B.notSynchronized⟩
  have hr := B.returns
  have hl := lv_entry ([.ref (a 3)]) (n := 1) (Nat.le_of_ble_eq_true rfl)
  rw [lg_entry_eq]
  generalize (lg_sl ([.ref (a 3)]) ++ List.replicate (1 - (lg_sl ([.ref (a 3)])).length) Slot.unset).toArray = ls at hl ⊢
  have hl : lv_has ls 1 [(0, .ref (a 3))] := hl
  exact wke_X2_whole X hr  hw s.heap [] ls hP hD va_S.rf hl

set_option maxRecDepth 20000 in
theorem ggX10_distance_X3_layPostorder : GoodIn wsX10_distance wsX3_layPostorder := goodIn_r _ [6, 7, 8, 9, 4, 10, 11, 12, 13, 14, 15, 16, 17, 18, 19, 20, 21, 22, 23, 24, 25, 26, 27, 28, 29, 30, 31, 32, 33, 34, 35, 36, 37, 38, 80, 81, 82, 83, 84, 85, 86, 87, 88, 89, 90, 91, 92, 93, 94, 95, 96, 97, 98, 99, 100, 101, 102, 103, 104] (by decide +kernel) (by decide +kernel)
set_option maxRecDepth 20000 in
theorem gX10_distance_X3_layPostorder_n164 : GoodIn wsX10_distance (wsX3_layPostorder) := ggX10_distance_X3_layPostorder
set_option maxRecDepth 20000 in
theorem ggX10_distance_X2_solve : GoodIn wsX10_distance wsX2_solve := goodIn_r _ [42, 43, 44, 45, 46, 40, 47, 48, 49, 50, 51, 52, 53, 54, 55, 56, 57, 105, 106, 107, 80, 81, 82, 83, 90, 91, 92, 93, 94, 95] (by decide +kernel) (by decide +kernel)
set_option maxRecDepth 20000 in
theorem gX10_distance_X2_solve_n167 : GoodIn wsX10_distance (wsX2_solve) := ggX10_distance_X2_solve
set_option maxRecDepth 20000 in
theorem ggX10_distance_X2_whole : GoodIn wsX10_distance wsX2_whole := goodIn_r _ [60, 43, 61, 4, 62, 63, 11, 13, 64, 16, 65, 66, 24, 67, 68, 69, 40, 70, 57, 105, 106, 107, 80, 81, 82, 83, 90, 91, 92, 93, 94, 95] (by decide +kernel) (by decide +kernel)
set_option maxRecDepth 20000 in
theorem gX10_distance_X2_whole_n170 : GoodIn wsX10_distance (wsX2_whole) := ggX10_distance_X2_whole
theorem dX10_distance_0 : decode cX10_distance 0 = .ok (.aload_n 0, 1) := by decide +kernel
theorem dX10_distance_1 : decode cX10_distance 1 = .ok (.getfield 21, 3) := by decide +kernel
theorem dX10_distance_4 : decode cX10_distance 4 = .ok (.invokevirtual 164, 3) := by decide +kernel
theorem dX10_distance_7 : decode cX10_distance 7 = .ok (.aload_n 0, 1) := by decide +kernel
theorem dX10_distance_8 : decode cX10_distance 8 = .ok (.getfield 30, 3) := by decide +kernel
theorem dX10_distance_11 : decode cX10_distance 11 = .ok (.invokevirtual 167, 3) := by decide +kernel
theorem dX10_distance_14 : decode cX10_distance 14 = .ok (.aload_n 0, 1) := by decide +kernel
theorem dX10_distance_15 : decode cX10_distance 15 = .ok (.getfield 30, 3) := by decide +kernel
theorem dX10_distance_18 : decode cX10_distance 18 = .ok (.invokevirtual 170, 3) := by decide +kernel
theorem dX10_distance_21 : decode cX10_distance 21 = .ok (.ireturn, 1) := by decide +kernel
theorem lk_X10_distance_f21 : Cond.fieldLink RX10 21 "TreeComparer" "layout" "LTreeComparer$Layout;" ∈ wsX10_distance := by decide +kernel
theorem hi_X10_distance_10 : ∀ w ∈ u_ws RX10 TX10 9, w ∈ wsX10_distance := by decide +kernel
theorem lk_X10_distance_i3 : Cond.initialized RX3 ∈ wsX10_distance := by decide +kernel
theorem lk_X10_distance_im164 : Cond.instanceMethod yX3_layPostorder ∈ wsX10_distance := by decide +kernel
theorem lk_X10_distance_se164 : Cond.selects RX3 yX3_layPostorder yX3_layPostorder ∈ wsX10_distance := by decide +kernel
theorem lk_X10_distance_f30 : Cond.fieldLink RX10 30 "TreeComparer" "keyroots" "LTreeComparer$KeyrootTable;" ∈ wsX10_distance := by decide +kernel
theorem lk_X10_distance_i2 : Cond.initialized RX2 ∈ wsX10_distance := by decide +kernel
theorem lk_X10_distance_im167 : Cond.instanceMethod yX2_solve ∈ wsX10_distance := by decide +kernel
theorem lk_X10_distance_se167 : Cond.selects RX2 yX2_solve yX2_solve ∈ wsX10_distance := by decide +kernel
theorem lk_X10_distance_im170 : Cond.instanceMethod yX2_whole ∈ wsX10_distance := by decide +kernel
theorem lk_X10_distance_se170 : Cond.selects RX2 yX2_whole yX2_whole ∈ wsX10_distance := by decide +kernel
def wpe_X10_distance (M : Mem) (Q : Int → Mem → Prop) : Prop := wp_X3_layPostorder M (fun M2 => wp_X2_solve M2 (fun M4 => wp_X2_whole M4 (fun y5 M6 => Q y5 M6)))
def wp_X10_distance (M : Mem) (Q : Int → Mem → Prop) : Prop := wpe_X10_distance M Q
set_option maxHeartbeats 4000000 in
set_option maxRecDepth 100000 in
theorem wke_X10_distance {p : Program} {l : Launch} {e : Env} {s : State} {m : MethodId} {args : Array Value} {below : List Frame} {meth : Method} {c : Code} {D : va_G} {g : GT} {A : Nat → Prop} {a : Nat → Nat} {b : Nat → Nat → Nat} (X : vC p s m args meth c D g A RX10 wsX10_distance cX10_distance 1) (hr : meth.sig.returnType = (some .int)) {M : Mem} {Q : Int → Mem → Prop} (hw : wpe_X10_distance M Q) : vV p l e ({ frames := 4, cells := 0, slots := 0, locals := 122 } : Room) s m args below meth c D g A a b 1 0 0 (MQ below (cQi D g A a b Q) args s 0 0 A) M [(0, .ref (a 0))] 0 [] := by
  unfold wpe_X10_distance at hw
  refine V_aload_n X dX10_distance_0 rfl (q := 0) rfl ?_
  refine V_get (C := RX10) (T := TX10) (N := 9) (ci := 10) X hi_X10_distance_10 gO_0 rfl 1 (by decide) lk_X10_distance_f21 (fun _ h9 => h9) rfl dX10_distance_1 ?_
  refine V_callVN_v X _ gO_2 rfl (As := []) (st := []) (c_X3_layPostorder l hw) ⟨va_cnB 0 X.2.2.2.1 gX10_distance_X3_layPostorder_n164 rfl rfl rfl (X.2.2.2.2.1.2.1 _ (List.mem_of_getElem? (i := 95) rfl)) (X.2.2.2.1 _ lk_X10_distance_i3) (by decide +kernel) ⟨Nat.le_of_ble_eq_true rfl, Nat.le_of_ble_eq_true rfl⟩, X.2.2.2.1 _ lk_X10_distance_im164, X.2.2.2.1 _ lk_X10_distance_se164⟩ rfl (Nat.le_of_ble_eq_true rfl) ⟨Nat.le_of_ble_eq_true rfl, Nat.le_of_ble_eq_true rfl⟩ rfl dX10_distance_4 (fun M2 hw => ?_)
  refine V_aload_n X dX10_distance_7 rfl (q := 0) rfl ?_
  refine V_get (C := RX10) (T := TX10) (N := 9) (ci := 10) X hi_X10_distance_10 gO_0 rfl 2 (by decide) lk_X10_distance_f30 (fun _ h9 => h9) rfl dX10_distance_8 ?_
  refine V_callVN_v X _ gO_3 rfl (As := []) (st := []) (c_X2_solve l hw) ⟨va_cnB 0 X.2.2.2.1 gX10_distance_X2_solve_n167 rfl rfl rfl (X.2.2.2.2.1.2.1 _ (List.mem_of_getElem? (i := 99) rfl)) (X.2.2.2.1 _ lk_X10_distance_i2) (by decide +kernel) ⟨Nat.le_of_ble_eq_true rfl, Nat.le_of_ble_eq_true rfl⟩, X.2.2.2.1 _ lk_X10_distance_im167, X.2.2.2.1 _ lk_X10_distance_se167⟩ rfl (Nat.le_of_ble_eq_true rfl) ⟨Nat.le_of_ble_eq_true rfl, Nat.le_of_ble_eq_true rfl⟩ rfl dX10_distance_11 (fun M4 hw => ?_)
  refine V_aload_n X dX10_distance_14 rfl (q := 0) rfl ?_
  refine V_get (C := RX10) (T := TX10) (N := 9) (ci := 10) X hi_X10_distance_10 gO_0 rfl 2 (by decide) lk_X10_distance_f30 (fun _ h9 => h9) rfl dX10_distance_15 ?_
  refine V_callVN_i X _ gO_3 rfl (As := []) (st := []) (c_X2_whole l hw) ⟨va_cnB 0 X.2.2.2.1 gX10_distance_X2_whole_n170 rfl rfl rfl (X.2.2.2.2.1.2.1 _ (List.mem_of_getElem? (i := 100) rfl)) (X.2.2.2.1 _ lk_X10_distance_i2) (by decide +kernel) ⟨Nat.le_of_ble_eq_true rfl, Nat.le_of_ble_eq_true rfl⟩, X.2.2.2.1 _ lk_X10_distance_im170, X.2.2.2.1 _ lk_X10_distance_se170⟩ rfl (Nat.le_of_ble_eq_true rfl) ⟨Nat.le_of_ble_eq_true rfl, Nat.le_of_ble_eq_true rfl⟩ rfl dX10_distance_18 (fun y5 M6 hw => ?_)
  exact V_iret X hr hw dX10_distance_21
set_option maxHeartbeats 4000000 in
set_option maxRecDepth 100000 in
theorem c_X10_distance (l : Launch) {D : va_G} {g : GT} {A : Nat → Prop} {a : Nat → Nat} {b : Nat → Nat → Nat} {M : Mem} {Q : Int → Mem → Prop} (hw : wp_X10_distance M Q) : Met l yX10_distance wsX10_distance ({ frames := 4, cells := 0, slots := 0, locals := 122 } : Room) (cPc D g A a b M [.ref (a 0)]) (cQi D g A a b Q) 0 0 A := by
  refine Met.ofW (cc := cX10_distance) (maxL := 1) (ret := (some .int)) (by decide) rfl ?_
  intro p e s m args below meth c s₁ B hml hv
  obtain ⟨rfl, hP, hD, hG⟩ := hv
  have X : vC p s m _ meth c D g A RX10 wsX10_distance cX10_distance 1 := ⟨B.exec, B.bytes, findClass_of_methodNamed B.named, atoms_spec (ws := wsX10_distance) B.pre, hG, hml, B.notSynchronized⟩
  have hr := B.returns
  have hl := lv_entry ([.ref (a 0)]) (n := 1) (Nat.le_of_ble_eq_true rfl)
  rw [lg_entry_eq]
  generalize (lg_sl ([.ref (a 0)]) ++ List.replicate (1 - (lg_sl ([.ref (a 0)])).length) Slot.unset).toArray = ls at hl ⊢
  have hl : lv_has ls 1 [(0, .ref (a 0))] := hl
  exact wke_X10_distance X hr  hw s.heap [] ls hP hD va_S.rf hl

set_option maxRecDepth 20000 in
theorem ggX10_distanceWithMoves_X10_settle : GoodIn wsX10_distanceWithMoves wsX10_settle := goodIn_r _ [6, 7, 8, 9, 10, 11, 1, 12, 13, 14, 15, 16, 17, 18, 19, 20, 21, 22, 23, 24, 25, 26, 27, 28, 29, 30, 31, 32, 33, 34, 35, 36, 37, 38, 39, 40, 41, 42, 43, 44, 45, 46, 47, 48, 49, 50, 51, 52, 53, 54, 55, 56, 57, 58, 59, 60, 61, 62, 63, 64, 65, 66, 67, 68, 69, 70, 71, 72, 73, 74, 75, 76, 77, 78, 79, 80, 81, 82, 83, 84, 85, 86, 87, 88, 89, 90, 91, 92, 93, 94, 95, 96, 97, 98, 99, 100, 101, 102, 103, 104, 105, 106, 107, 108, 109, 110, 111, 112, 113, 114, 115, 116, 117, 118, 119, 120, 121, 122, 123, 124, 125, 126, 127, 128, 129, 130, 131, 132, 133, 134, 135, 136, 137, 138, 139, 140, 141, 142, 143, 144, 145, 146, 147, 148, 149, 150, 151, 186, 187, 188, 189, 190, 191, 192, 193, 194, 201, 202, 203, 204, 205, 206, 207, 208, 209, 210, 211, 212, 213, 214, 215, 216, 217, 218, 219, 220, 221, 222, 223, 224, 225, 226, 227, 228, 229, 230, 231, 232, 233, 234, 235, 236, 237, 238, 239, 240, 241, 242, 243, 244, 195, 196, 197, 198, 199, 200] (by decide +kernel) (by decide +kernel)
set_option maxRecDepth 20000 in
theorem gX10_distanceWithMoves_X10_settle : GoodIn wsX10_distanceWithMoves (wsV RX10 206 RX10 yX10_settle wsX10_settle) := goodIn_app (goodIn_of _ (by decide +kernel)) ggX10_distanceWithMoves_X10_settle
set_option maxRecDepth 20000 in
theorem ggX10_distanceWithMoves_X10_distance : GoodIn wsX10_distanceWithMoves wsX10_distance := goodIn_r _ [155, 8, 156, 157, 13, 158, 159, 16, 17, 18, 19, 20, 21, 22, 23, 24, 25, 26, 27, 28, 29, 30, 31, 32, 33, 34, 35, 36, 37, 38, 39, 40, 41, 42, 43, 44, 45, 46, 47, 160, 161, 162, 163, 164, 165, 166, 167, 168, 169, 170, 171, 172, 173, 174, 78, 79, 80, 175, 176, 177, 178, 179, 180, 181, 82, 83, 84, 182, 183, 184, 185, 186, 187, 188, 189, 190, 191, 192, 193, 194, 201, 202, 203, 204, 205, 206, 207, 208, 209, 210, 211, 212, 213, 214, 215, 216, 217, 218, 219, 220, 221, 222, 223, 224, 225, 245, 246, 247] (by decide +kernel) (by decide +kernel)
set_option maxRecDepth 20000 in
theorem gX10_distanceWithMoves_X10_distance : GoodIn wsX10_distanceWithMoves (wsV RX10 200 RX10 yX10_distance wsX10_distance) := goodIn_app (goodIn_of _ (by decide +kernel)) ggX10_distanceWithMoves_X10_distance
theorem dX10_distanceWithMoves_0 : decode cX10_distanceWithMoves 0 = .ok (.aload_n 0, 1) := by decide +kernel
theorem dX10_distanceWithMoves_1 : decode cX10_distanceWithMoves 1 = .ok (.invokevirtual 206, 3) := by decide +kernel
theorem dX10_distanceWithMoves_4 : decode cX10_distanceWithMoves 4 = .ok (.aload_n 0, 1) := by decide +kernel
theorem dX10_distanceWithMoves_5 : decode cX10_distanceWithMoves 5 = .ok (.invokevirtual 200, 3) := by decide +kernel
theorem dX10_distanceWithMoves_8 : decode cX10_distanceWithMoves 8 = .ok (.aload_n 0, 1) := by decide +kernel
theorem dX10_distanceWithMoves_9 : decode cX10_distanceWithMoves 9 = .ok (.getfield 69, 3) := by decide +kernel
theorem dX10_distanceWithMoves_12 : decode cX10_distanceWithMoves 12 = .ok (.getfield 254, 3) := by decide +kernel
theorem dX10_distanceWithMoves_15 : decode cX10_distanceWithMoves 15 = .ok (.isub, 1) := by decide +kernel
theorem dX10_distanceWithMoves_16 : decode cX10_distanceWithMoves 16 = .ok (.ireturn, 1) := by decide +kernel
theorem lk_X10_distanceWithMoves_f69 : Cond.fieldLink RX10 69 "TreeComparer" "moving" "LTreeComparer$Moves;" ∈ wsX10_distanceWithMoves := by decide +kernel
theorem hi_X10_distanceWithMoves_10 : ∀ w ∈ u_ws RX10 TX10 9, w ∈ wsX10_distanceWithMoves := by decide +kernel
theorem hi_X10_distanceWithMoves_5 : ∀ w ∈ u_ws RX5 TX5 6, w ∈ wsX10_distanceWithMoves := by decide +kernel
def wpe_X10_distanceWithMoves (M : Mem) (Q : Int → Mem → Prop) : Prop := wp_X10_settle M (fun M2 => wp_X10_distance M2 (fun y3 M4 => Q (y3 - (M4 8 5 0)) M4))
def wp_X10_distanceWithMoves (M : Mem) (Q : Int → Mem → Prop) : Prop := wpe_X10_distanceWithMoves M Q
set_option maxHeartbeats 4000000 in
set_option maxRecDepth 100000 in
theorem wke_X10_distanceWithMoves {p : Program} {l : Launch} {e : Env} {s : State} {m : MethodId} {args : Array Value} {below : List Frame} {meth : Method} {c : Code} {D : va_G} {g : GT} {A : Nat → Prop} {a : Nat → Nat} {b : Nat → Nat → Nat} (X : vC p s m args meth c D g A RX10 wsX10_distanceWithMoves cX10_distanceWithMoves 1) (hr : meth.sig.returnType = (some .int)) {M : Mem} {Q : Int → Mem → Prop} (hw : wpe_X10_distanceWithMoves M Q) : vV p l e ({ frames := 33, cells := 0, slots := 0, locals := 1084 } : Room) s m args below meth c D g A a b 1 0 0 (MQ below (cQi D g A a b Q) args s 0 0 A) M [(0, .ref (a 0))] 0 [] := by
  unfold wpe_X10_distanceWithMoves at hw
  refine V_aload_n X dX10_distanceWithMoves_0 rfl (q := 0) rfl ?_
  refine V_callV_v X _ gO_0 rfl (As := []) (st := []) (c_X10_settle l hw) (cwV 0 X.2.2.2.1 gX10_distanceWithMoves_X10_settle rfl rfl rfl (by decide +kernel) ⟨Nat.le_of_ble_eq_true rfl, Nat.le_of_ble_eq_true rfl⟩) rfl (Nat.le_of_ble_eq_true rfl) ⟨Nat.le_of_ble_eq_true rfl, Nat.le_of_ble_eq_true rfl⟩ rfl dX10_distanceWithMoves_1 (fun M2 hw => ?_)
  refine V_aload_n X dX10_distanceWithMoves_4 rfl (q := 0) rfl ?_
  refine V_callV_i X _ gO_0 rfl (As := []) (st := []) (c_X10_distance l hw) (cwV 0 X.2.2.2.1 gX10_distanceWithMoves_X10_distance rfl rfl rfl (by decide +kernel) ⟨Nat.le_of_ble_eq_true rfl, Nat.le_of_ble_eq_true rfl⟩) rfl (Nat.le_of_ble_eq_true rfl) ⟨Nat.le_of_ble_eq_true rfl, Nat.le_of_ble_eq_true rfl⟩ rfl dX10_distanceWithMoves_5 (fun y3 M4 hw => ?_)
  refine V_aload_n X dX10_distanceWithMoves_8 rfl (q := 0) rfl ?_
  refine V_get (C := RX10) (T := TX10) (N := 9) (ci := 10) X hi_X10_distanceWithMoves_10 gO_0 rfl 7 (by decide) lk_X10_distanceWithMoves_f69 (fun _ h9 => h9) rfl dX10_distanceWithMoves_9 ?_
  refine V_getN (C := RX5) (T := TX5) (N := 6) (ci := 5) X hi_X10_distanceWithMoves_5 gO_8 rfl 5 (by decide) (List.mem_of_getElem? (i := 84) rfl) (fun _ h9 => h9) rfl dX10_distanceWithMoves_12 ?_
  refine V_isub X dX10_distanceWithMoves_15 ?_
  exact V_iret X hr hw dX10_distanceWithMoves_16
set_option maxHeartbeats 4000000 in
set_option maxRecDepth 100000 in
theorem c_X10_distanceWithMoves (l : Launch) {D : va_G} {g : GT} {A : Nat → Prop} {a : Nat → Nat} {b : Nat → Nat → Nat} {M : Mem} {Q : Int → Mem → Prop} (hw : wp_X10_distanceWithMoves M Q) : Met l yX10_distanceWithMoves wsX10_distanceWithMoves ({ frames := 33, cells := 0, slots := 0, locals := 1084 } : Room) (cPc D g A a b M [.ref (a 0)]) (cQi D g A a b Q) 0 0 A := by
  refine Met.ofW (cc := cX10_distanceWithMoves) (maxL := 1) (ret := (some .int)) (by decide) rfl ?_
  intro p e s m args below meth c s₁ B hml hv
  obtain ⟨rfl, hP, hD, hG⟩ := hv
  have X : vC p s m _ meth c D g A RX10 wsX10_distanceWithMoves cX10_distanceWithMoves 1 := ⟨B.exec, B.bytes, findClass_of_methodNamed B.named, atoms_spec (ws := wsX10_distanceWithMoves) B.pre, hG, hml, B.notSynchronized⟩
  have hr := B.returns
  have hl := lv_entry ([.ref (a 0)]) (n := 1) (Nat.le_of_ble_eq_true rfl)
  rw [lg_entry_eq]
  generalize (lg_sl ([.ref (a 0)]) ++ List.replicate (1 - (lg_sl ([.ref (a 0)])).length) Slot.unset).toArray = ls at hl ⊢
  have hl : lv_has ls 1 [(0, .ref (a 0))] := hl
  exact wke_X10_distanceWithMoves X hr  hw s.heap [] ls hP hD va_S.rf hl

theorem dX10_needAtMost_0 : decode cX10_needAtMost 0 = .ok (.iload_n 0, 1) := by decide +kernel
theorem dX10_needAtMost_1 : decode cX10_needAtMost 1 = .ok (.ifCond .lt 8, 3) := by decide +kernel
theorem dX10_needAtMost_4 : decode cX10_needAtMost 4 = .ok (.iload_n 0, 1) := by decide +kernel
theorem dX10_needAtMost_5 : decode cX10_needAtMost 5 = .ok (.iload_n 1, 1) := by decide +kernel
theorem dX10_needAtMost_6 : decode cX10_needAtMost 6 = .ok (.if_icmp .le 14, 3) := by decide +kernel
theorem dX10_needAtMost_9 : decode cX10_needAtMost 9 = .ok (.new 274, 3) := by decide +kernel
theorem dX10_needAtMost_12 : decode cX10_needAtMost 12 = .ok (.dup, 1) := by decide +kernel
theorem dX10_needAtMost_13 : decode cX10_needAtMost 13 = .ok (.ldc_w 276, 3) := by decide +kernel
theorem dX10_needAtMost_16 : decode cX10_needAtMost 16 = .ok (.invokespecial 278, 3) := by decide +kernel
theorem dX10_needAtMost_19 : decode cX10_needAtMost 19 = .ok (.athrow, 1) := by decide +kernel
theorem dX10_needAtMost_20 : decode cX10_needAtMost 20 = .ok (.return_, 1) := by decide +kernel
theorem lk_X10_needAtMost_k274 : Cond.classLink RX10 274 "java/lang/IllegalArgumentException" ∈ wsX10_needAtMost := by decide +kernel
theorem lk_X10_needAtMost_ie274 : Cond.initialized "java/lang/IllegalArgumentException" ∈ wsX10_needAtMost := by decide +kernel
theorem at_X10_needAtMost_278 {args : Array Value} {s : State} (h1 : ∀ w ∈ wsX10_needAtMost, w.before args s = true) (h2 : ∀ w ∈ NWs, va_Nw w s) : ∀ w ∈ vx_atS RX10 278 "java/lang/IllegalArgumentException" ["java/lang/RuntimeException", "java/lang/Exception"], w.before args s = true := atS_of h1 h2 (by decide +kernel) (by decide +kernel)
def wpj_X10_needAtMost_9 (p0 : Int) (p1 : Int) (M : Mem) (Q : Mem → Prop) (XQ : String → Mem → Prop) : Prop := XQ "java/lang/IllegalArgumentException" M
def wpe_X10_needAtMost (p0 : Int) (p1 : Int) (M : Mem) (Q : Mem → Prop) (XQ : String → Mem → Prop) : Prop := inR p0 ∧ ((p0 < 0 → wpj_X10_needAtMost_9 p0 p1 M Q XQ) ∧ (¬ (p0 < 0) → inR p0 ∧ inR p1 ∧ ((p0 ≤ p1 → Q M) ∧ (¬ (p0 ≤ p1) → wpj_X10_needAtMost_9 p0 p1 M Q XQ))))
def wp_X10_needAtMost (M : Mem) (p0 : Int) (p1 : Int) (Q : Mem → Prop) (XQ : String → Mem → Prop) : Prop := wpe_X10_needAtMost p0 p1 M Q XQ
set_option maxHeartbeats 4000000 in
set_option maxRecDepth 100000 in
theorem wkj_X10_needAtMost_9 {p : Program} {l : Launch} {e : Env} {s : State} {m : MethodId} {args : Array Value} {below : List Frame} {meth : Method} {c : Code} {D : va_G} {g : GT} {A : Nat → Prop} {a : Nat → Nat} {b : Nat → Nat → Nat} (X : vC p s m args meth c D g A RX10 wsX10_needAtMost cX10_needAtMost 2) (hr : meth.sig.returnType = none) {p0 : Int} {p1 : Int} (hlt : l.stackTraces = false) (htab : ∀ x ∈ c.exceptionTable.toList, False) {M : Mem} {Q : Mem → Prop} {XQ : String → Mem → Prop} (hw : wpj_X10_needAtMost_9 p0 p1 M Q XQ) : vV p l e ({ frames := 6, cells := 1, slots := 6, locals := 90 } : Room) s m args below meth c D g A a b 2 0 0 (vx_MQ below (cQv D g A a b Q) (cX D g A a b XQ) args s 1 6 A) M [] 9 [] := by
  unfold wpj_X10_needAtMost_9 at hw
  exact V_throwSW (cls := "java/lang/IllegalArgumentException") (text := "a label or a price is out of its range") (names := ["java/lang/RuntimeException", "java/lang/Exception"]) X hlt lk_X10_needAtMost_k274 lk_X10_needAtMost_ie274 (X.2.2.2.2.1.2.2.2.2.2 (RX10, 276, "a label or a price is out of its range") (by decide +kernel)) (at_X10_needAtMost_278 X.2.2.2.1 X.2.2.2.2.1.2.1) htab (by decide +kernel) (Nat.le_of_ble_eq_true rfl) (Nat.le_of_ble_eq_true rfl) (Nat.le_of_ble_eq_true rfl) (Nat.le_of_ble_eq_true rfl) (Nat.le_of_ble_eq_true rfl) (Nat.le_of_ble_eq_true rfl) hw dX10_needAtMost_9 dX10_needAtMost_12 dX10_needAtMost_13 dX10_needAtMost_16 dX10_needAtMost_19
set_option maxHeartbeats 4000000 in
set_option maxRecDepth 100000 in
theorem wke_X10_needAtMost {p : Program} {l : Launch} {e : Env} {s : State} {m : MethodId} {args : Array Value} {below : List Frame} {meth : Method} {c : Code} {D : va_G} {g : GT} {A : Nat → Prop} {a : Nat → Nat} {b : Nat → Nat → Nat} (X : vC p s m args meth c D g A RX10 wsX10_needAtMost cX10_needAtMost 2) (hr : meth.sig.returnType = none) {p0 : Int} {p1 : Int} (hlt : l.stackTraces = false) (htab : ∀ x ∈ c.exceptionTable.toList, False) {M : Mem} {Q : Mem → Prop} {XQ : String → Mem → Prop} (hw : wpe_X10_needAtMost p0 p1 M Q XQ) : vV p l e ({ frames := 6, cells := 1, slots := 6, locals := 90 } : Room) s m args below meth c D g A a b 2 0 0 (vx_MQ below (cQv D g A a b Q) (cX D g A a b XQ) args s 1 6 A) M [(0, iv p0), (1, iv p1)] 0 [] := by
  unfold wpe_X10_needAtMost at hw
  refine V_iload_n X dX10_needAtMost_0 rfl (q := 0) rfl ?_
  obtain ⟨h1, hw⟩ := hw
  refine V_if_lt (tgt := 9) X h1 dX10_needAtMost_1 (by decide) (fun q2 => ?_) (fun q2 => ?_)
  · have hw := hw.1 q2
    refine V_sub (lv1 := []) [] rfl ?_
    exact wkj_X10_needAtMost_9 X hr hlt htab hw
  · have hw := hw.2 q2
    refine V_iload_n X dX10_needAtMost_4 rfl (q := 0) rfl ?_
    refine V_iload_n X dX10_needAtMost_5 rfl (q := 1) rfl ?_
    obtain ⟨h3, h4, hw⟩ := hw
    refine V_icmp_le (tgt := 20) X h3 h4 dX10_needAtMost_6 (by decide) (fun q5 => ?_) (fun q5 => ?_)
    · have hw := hw.1 q5
      exact V_xret (Nat.le_of_ble_eq_true rfl) (Nat.le_of_ble_eq_true rfl) (V_vret X hr hw dX10_needAtMost_20)
    · have hw := hw.2 q5
      refine V_sub (lv1 := []) [] rfl ?_
      exact wkj_X10_needAtMost_9 X hr hlt htab hw
set_option maxHeartbeats 4000000 in
set_option maxRecDepth 100000 in
theorem c_X10_needAtMost (l : Launch) {p0 : Int} {p1 : Int} (hlt : l.stackTraces = false) {D : va_G} {g : GT} {A : Nat → Prop} {a : Nat → Nat} {b : Nat → Nat → Nat} {M : Mem} {Q : Mem → Prop} {XQ : String → Mem → Prop} (hw : wp_X10_needAtMost M p0 p1 Q XQ) : vx_Met l yX10_needAtMost wsX10_needAtMost ({ frames := 6, cells := 1, slots := 6, locals := 90 } : Room) (cPc D g A a b M [iv p0, iv p1]) (cQv D g A a b Q) (cX D g A a b XQ) 1 6 A := by
  refine vx_ofW (cc := cX10_needAtMost) (maxL := 2) (ret := none) (by decide) rfl ?_
  intro p e s m args below meth c s₁ B hml htab hv
  obtain ⟨rfl, hP, hD, hG⟩ := hv
  have X : vC p s m _ meth c D g A RX10 wsX10_needAtMost cX10_needAtMost 2 := ⟨B.exec, B.bytes, findClass_of_methodNamed B.named, atoms_spec (ws := wsX10_needAtMost) B.pre, hG, hml, B.notSynchronized⟩
  have hr := B.returns
  have hl := lv_entry ([iv p0, iv p1]) (n := 2) (Nat.le_of_ble_eq_true rfl)
  rw [lg_entry_eq]
  generalize (lg_sl ([iv p0, iv p1]) ++ List.replicate (2 - (lg_sl ([iv p0, iv p1])).length) Slot.unset).toArray = ls at hl ⊢
  have hl : lv_has ls 2 [(0, iv p0), (1, iv p1)] := hl
  exact wke_X10_needAtMost X hr hlt htab hw s.heap [] ls hP hD va_S.rf hl

theorem dX11_goes_0 : decode cX11_goes 0 = .ok (.aload_n 0, 1) := by decide +kernel
theorem dX11_goes_1 : decode cX11_goes 1 = .ok (.iload_n 1, 1) := by decide +kernel
theorem dX11_goes_2 : decode cX11_goes 2 = .ok (.ifCond .ne 7, 3) := by decide +kernel
theorem dX11_goes_5 : decode cX11_goes 5 = .ok (.iconst 1, 1) := by decide +kernel
theorem dX11_goes_6 : decode cX11_goes 6 = .ok (.goto 20, 3) := by decide +kernel
theorem dX11_goes_9 : decode cX11_goes 9 = .ok (.iload_n 2, 1) := by decide +kernel
theorem dX11_goes_10 : decode cX11_goes 10 = .ok (.ifCond .ne 7, 3) := by decide +kernel
theorem dX11_goes_13 : decode cX11_goes 13 = .ok (.iconst 2, 1) := by decide +kernel
theorem dX11_goes_14 : decode cX11_goes 14 = .ok (.goto 12, 3) := by decide +kernel
theorem dX11_goes_17 : decode cX11_goes 17 = .ok (.iload_n 3, 1) := by decide +kernel
theorem dX11_goes_18 : decode cX11_goes 18 = .ok (.ifCond .ne 7, 3) := by decide +kernel
theorem dX11_goes_21 : decode cX11_goes 21 = .ok (.iconst 3, 1) := by decide +kernel
theorem dX11_goes_22 : decode cX11_goes 22 = .ok (.goto 4, 3) := by decide +kernel
theorem dX11_goes_25 : decode cX11_goes 25 = .ok (.iconst 0, 1) := by decide +kernel
theorem dX11_goes_26 : decode cX11_goes 26 = .ok (.putfield 72, 3) := by decide +kernel
theorem dX11_goes_29 : decode cX11_goes 29 = .ok (.aload_n 0, 1) := by decide +kernel
theorem dX11_goes_30 : decode cX11_goes 30 = .ok (.getfield 72, 3) := by decide +kernel
theorem dX11_goes_33 : decode cX11_goes 33 = .ok (.ifCond .ne 7, 3) := by decide +kernel
theorem dX11_goes_36 : decode cX11_goes 36 = .ok (.iconst 1, 1) := by decide +kernel
theorem dX11_goes_37 : decode cX11_goes 37 = .ok (.goto 4, 3) := by decide +kernel
theorem dX11_goes_40 : decode cX11_goes 40 = .ok (.iconst 0, 1) := by decide +kernel
theorem dX11_goes_41 : decode cX11_goes 41 = .ok (.ireturn, 1) := by decide +kernel
theorem lk_X11_goes_f72 : Cond.fieldLink RX11 72 "TreeComparerModel" "thrown" "I" ∈ wsX11_goes := by decide +kernel
theorem hi_X11_goes_11 : ∀ w ∈ u_ws RX11 TX11 24, w ∈ wsX11_goes := by decide +kernel
def wpj_X11_goes_26 (p0 : Int) (p1 : Int) (p2 : Int) (s0 : Int) (M : Mem) (Q : Int → Mem → Prop) : Prop := (∀ M7 : Mem, M7 = mset M 13 23 0 s0 → inR (M7 13 23 0) ∧ (((M7 13 23 0) ≠ 0 → Q 0 M7) ∧ (¬ ((M7 13 23 0) ≠ 0) → Q 1 M7)))
def wpe_X11_goes (p0 : Int) (p1 : Int) (p2 : Int) (M : Mem) (Q : Int → Mem → Prop) : Prop := inR p0 ∧ ((p0 ≠ 0 → inR p1 ∧ ((p1 ≠ 0 → inR p2 ∧ ((p2 ≠ 0 → wpj_X11_goes_26 p0 p1 p2 0 M Q) ∧ (¬ (p2 ≠ 0) → wpj_X11_goes_26 p0 p1 p2 3 M Q))) ∧ (¬ (p1 ≠ 0) → wpj_X11_goes_26 p0 p1 p2 2 M Q))) ∧ (¬ (p0 ≠ 0) → wpj_X11_goes_26 p0 p1 p2 1 M Q))
def wp_X11_goes (M : Mem) (p0 : Int) (p1 : Int) (p2 : Int) (Q : Int → Mem → Prop) : Prop := wpe_X11_goes p0 p1 p2 M Q
set_option maxHeartbeats 4000000 in
set_option maxRecDepth 100000 in
theorem wkj_X11_goes_26 {p : Program} {l : Launch} {e : Env} {s : State} {m : MethodId} {args : Array Value} {below : List Frame} {meth : Method} {c : Code} {D : va_G} {g : GT} {A : Nat → Prop} {a : Nat → Nat} {b : Nat → Nat → Nat} (X : vC p s m args meth c D g A RX11 wsX11_goes cX11_goes 4) (hr : meth.sig.returnType = (some .boolean)) {p0 : Int} {p1 : Int} {p2 : Int} {s0 : Int} {M : Mem} {Q : Int → Mem → Prop} (hw : wpj_X11_goes_26 p0 p1 p2 s0 M Q) : vV p l e ({ frames := 0, cells := 0, slots := 0, locals := 0 } : Room) s m args below meth c D g A a b 4 0 0 (MQ below (cQi D g A a b Q) args s 0 0 A) M [(0, .ref (a 13))] 26 [iv s0, .ref (a 13)] := by
  unfold wpj_X11_goes_26 at hw
  refine V_put (C := RX11) (T := TX11) (N := 24) (ci := 11) X hi_X11_goes_11 gO_13 rfl 23 (by decide) tyX11 tyX11_ok nmX11 rfl (tyX11_ok 23 (by decide)) (Or.inl rfl) (show 23 < 24 from by decide) sI_13_23 lk_X11_goes_f72 (fun _ h9 => h9) dX11_goes_26 (fun M7 eM7 => ?_)
  have hw := hw M7 eM7
  refine V_aload_n X dX11_goes_29 rfl (q := 0) rfl ?_
  refine V_get (C := RX11) (T := TX11) (N := 24) (ci := 11) X hi_X11_goes_11 gO_13 rfl 23 (by decide) lk_X11_goes_f72 (fun _ h9 => h9) rfl dX11_goes_30 ?_
  obtain ⟨h8, hw⟩ := hw
  refine V_if_ne (tgt := 40) X h8 dX11_goes_33 (by decide) (fun q9 => ?_) (fun q9 => ?_)
  · have hw := hw.1 q9
    refine V_iconst X dX11_goes_40 ?_
    exact V_zret X hr (by decide) hw dX11_goes_41
  · have hw := hw.2 q9
    refine V_iconst X dX11_goes_36 ?_
    refine V_goto (tgt := 41) X dX11_goes_37 (by decide) ?_
    exact V_zret X hr (by decide) hw dX11_goes_41
set_option maxHeartbeats 4000000 in
set_option maxRecDepth 100000 in
theorem wke_X11_goes {p : Program} {l : Launch} {e : Env} {s : State} {m : MethodId} {args : Array Value} {below : List Frame} {meth : Method} {c : Code} {D : va_G} {g : GT} {A : Nat → Prop} {a : Nat → Nat} {b : Nat → Nat → Nat} (X : vC p s m args meth c D g A RX11 wsX11_goes cX11_goes 4) (hr : meth.sig.returnType = (some .boolean)) {p0 : Int} {p1 : Int} {p2 : Int} {M : Mem} {Q : Int → Mem → Prop} (hw : wpe_X11_goes p0 p1 p2 M Q) : vV p l e ({ frames := 0, cells := 0, slots := 0, locals := 0 } : Room) s m args below meth c D g A a b 4 0 0 (MQ below (cQi D g A a b Q) args s 0 0 A) M [(0, .ref (a 13)), (1, iv p0), (2, iv p1), (3, iv p2)] 0 [] := by
  unfold wpe_X11_goes at hw
  refine V_aload_n X dX11_goes_0 rfl (q := 0) rfl ?_
  refine V_iload_n X dX11_goes_1 rfl (q := 1) rfl ?_
  obtain ⟨h1, hw⟩ := hw
  refine V_if_ne (tgt := 9) X h1 dX11_goes_2 (by decide) (fun q2 => ?_) (fun q2 => ?_)
  · have hw := hw.1 q2
    refine V_iload_n X dX11_goes_9 rfl (q := 2) rfl ?_
    obtain ⟨h3, hw⟩ := hw
    refine V_if_ne (tgt := 17) X h3 dX11_goes_10 (by decide) (fun q4 => ?_) (fun q4 => ?_)
    · have hw := hw.1 q4
      refine V_iload_n X dX11_goes_17 rfl (q := 3) rfl ?_
      obtain ⟨h5, hw⟩ := hw
      refine V_if_ne (tgt := 25) X h5 dX11_goes_18 (by decide) (fun q6 => ?_) (fun q6 => ?_)
      · have hw := hw.1 q6
        refine V_iconst X dX11_goes_25 ?_
        refine V_sub (lv1 := [(0, .ref (a 13))]) [0] rfl ?_
        exact wkj_X11_goes_26 X hr hw
      · have hw := hw.2 q6
        refine V_iconst X dX11_goes_21 ?_
        refine V_goto (tgt := 26) X dX11_goes_22 (by decide) ?_
        refine V_sub (lv1 := [(0, .ref (a 13))]) [0] rfl ?_
        exact wkj_X11_goes_26 X hr hw
    · have hw := hw.2 q4
      refine V_iconst X dX11_goes_13 ?_
      refine V_goto (tgt := 26) X dX11_goes_14 (by decide) ?_
      refine V_sub (lv1 := [(0, .ref (a 13))]) [0] rfl ?_
      exact wkj_X11_goes_26 X hr hw
  · have hw := hw.2 q2
    refine V_iconst X dX11_goes_5 ?_
    refine V_goto (tgt := 26) X dX11_goes_6 (by decide) ?_
    refine V_sub (lv1 := [(0, .ref (a 13))]) [0] rfl ?_
    exact wkj_X11_goes_26 X hr hw
set_option maxHeartbeats 4000000 in
set_option maxRecDepth 100000 in
theorem c_X11_goes (l : Launch) {p0 : Int} {p1 : Int} {p2 : Int} {D : va_G} {g : GT} {A : Nat → Prop} {a : Nat → Nat} {b : Nat → Nat → Nat} {M : Mem} {Q : Int → Mem → Prop} (hw : wp_X11_goes M p0 p1 p2 Q) : Met l yX11_goes wsX11_goes ({ frames := 0, cells := 0, slots := 0, locals := 0 } : Room) (cPc D g A a b M [.ref (a 13), iv p0, iv p1, iv p2]) (cQi D g A a b Q) 0 0 A := by
  refine Met.ofW (cc := cX11_goes) (maxL := 4) (ret := (some .boolean)) (by decide) rfl ?_
  intro p e s m args below meth c s₁ B hml hv
  obtain ⟨rfl, hP, hD, hG⟩ := hv
  have X : vC p s m _ meth c D g A RX11 wsX11_goes cX11_goes 4 := ⟨B.exec, B.bytes, findClass_of_methodNamed B.named, atoms_spec (ws := wsX11_goes) B.pre, hG, hml, B.notSynchronized⟩
  have hr := B.returns
  have hl := lv_entry ([.ref (a 13), iv p0, iv p1, iv p2]) (n := 4) (Nat.le_of_ble_eq_true rfl)
  rw [lg_entry_eq]
  generalize (lg_sl ([.ref (a 13), iv p0, iv p1, iv p2]) ++ List.replicate (4 - (lg_sl ([.ref (a 13), iv p0, iv p1, iv p2])).length) Slot.unset).toArray = ls at hl ⊢
  have hl : lv_has ls 4 [(0, .ref (a 13)), (1, iv p0), (2, iv p1), (3, iv p2)] := hl
  exact wke_X11_goes X hr  hw s.heap [] ls hP hD va_S.rf hl

set_option maxRecDepth 20000 in
theorem ggX11_isStep_X11_scripts : GoodIn wsX11_isStep wsX11_scripts := goodIn_r _ [6, 1, 7, 8, 9, 10, 11, 12, 13, 14, 5, 15, 16, 17, 18, 19, 20, 21, 22, 23, 24, 25, 26, 27, 28, 29, 30, 31, 32, 33, 34, 35, 36, 37, 38, 39, 40, 41, 42, 43, 44, 45, 46, 47, 48, 49, 50, 51, 52, 53, 54, 55, 56, 57, 58, 59, 60, 61, 62, 63, 64, 65, 66, 67, 68, 69, 70, 71, 72, 73, 74, 75, 76, 77, 78, 87, 88, 89, 90, 91, 92, 93, 94, 95, 96, 97, 98, 99, 100, 101, 102, 103, 104, 105, 106, 107, 108, 109, 110] (by decide +kernel) (by decide +kernel)
set_option maxRecDepth 20000 in
theorem gX11_isStep_X11_scripts : GoodIn wsX11_isStep (wsV RX11 179 RX11 yX11_scripts wsX11_scripts) := goodIn_app (goodIn_of _ (by decide +kernel)) ggX11_isStep_X11_scripts
set_option maxRecDepth 20000 in
theorem ggX11_isStep_X11_in : GoodIn wsX11_isStep wsX11_in := goodIn_r _ [81] (by decide +kernel) (by decide +kernel)
set_option maxRecDepth 20000 in
theorem gX11_isStep_X11_in : GoodIn wsX11_isStep (va_wsS RX11 75 yX11_in wsX11_in) := goodIn_app (goodIn_of _ (by decide +kernel)) ggX11_isStep_X11_in
set_option maxRecDepth 20000 in
theorem ggX11_isStep_X11_goes : GoodIn wsX11_isStep wsX11_goes := goodIn_r _ [85, 86, 87, 88, 89, 90, 91, 92, 93, 94, 95, 96, 97, 98, 99, 100, 101, 102, 103, 104, 105, 106, 107, 108, 109, 110] (by decide +kernel) (by decide +kernel)
set_option maxRecDepth 20000 in
theorem gX11_isStep_X11_goes : GoodIn wsX11_isStep (wsV RX11 87 RX11 yX11_goes wsX11_goes) := goodIn_app (goodIn_of _ (by decide +kernel)) ggX11_isStep_X11_goes
theorem dX11_isStep_0 : decode cX11_isStep 0 = .ok (.aload_n 0, 1) := by decide +kernel
theorem dX11_isStep_1 : decode cX11_isStep 1 = .ok (.invokevirtual 179, 3) := by decide +kernel
theorem dX11_isStep_4 : decode cX11_isStep 4 = .ok (.aload_n 0, 1) := by decide +kernel
theorem dX11_isStep_5 : decode cX11_isStep 5 = .ok (.iload_n 1, 1) := by decide +kernel
theorem dX11_isStep_6 : decode cX11_isStep 6 = .ok (.iconst 0, 1) := by decide +kernel
theorem dX11_isStep_7 : decode cX11_isStep 7 = .ok (.aload_n 0, 1) := by decide +kernel
theorem dX11_isStep_8 : decode cX11_isStep 8 = .ok (.getfield 169, 3) := by decide +kernel
theorem dX11_isStep_11 : decode cX11_isStep 11 = .ok (.iconst 1, 1) := by decide +kernel
theorem dX11_isStep_12 : decode cX11_isStep 12 = .ok (.isub, 1) := by decide +kernel
theorem dX11_isStep_13 : decode cX11_isStep 13 = .ok (.invokestatic 75, 3) := by decide +kernel
theorem dX11_isStep_16 : decode cX11_isStep 16 = .ok (.iconst 1, 1) := by decide +kernel
theorem dX11_isStep_17 : decode cX11_isStep 17 = .ok (.iconst 1, 1) := by decide +kernel
theorem dX11_isStep_18 : decode cX11_isStep 18 = .ok (.invokevirtual 87, 3) := by decide +kernel
theorem dX11_isStep_21 : decode cX11_isStep 21 = .ok (.ireturn, 1) := by decide +kernel
theorem lk_X11_isStep_f169 : Cond.fieldLink RX11 169 "TreeComparerModel" "steps" "I" ∈ wsX11_isStep := by decide +kernel
theorem hi_X11_isStep_11 : ∀ w ∈ u_ws RX11 TX11 24, w ∈ wsX11_isStep := by decide +kernel
def wpe_X11_isStep (p0 : Int) (M : Mem) (Q : Int → Mem → Prop) : Prop := wp_X11_scripts M (fun M2 => wp_X11_in M2 p0 0 ((M2 13 16 0) - 1) (fun y3 M4 => wp_X11_goes M4 y3 1 1 (fun y5 M6 => (y5 = 0 ∨ y5 = 1) ∧ Q y5 M6)))
def wp_X11_isStep (M : Mem) (p0 : Int) (Q : Int → Mem → Prop) : Prop := wpe_X11_isStep p0 M Q
set_option maxHeartbeats 4000000 in
set_option maxRecDepth 100000 in
theorem wke_X11_isStep {p : Program} {l : Launch} {e : Env} {s : State} {m : MethodId} {args : Array Value} {below : List Frame} {meth : Method} {c : Code} {D : va_G} {g : GT} {A : Nat → Prop} {a : Nat → Nat} {b : Nat → Nat → Nat} (X : vC p s m args meth c D g A RX11 wsX11_isStep cX11_isStep 2) (hr : meth.sig.returnType = (some .boolean)) {p0 : Int} {M : Mem} {Q : Int → Mem → Prop} (hw : wpe_X11_isStep p0 M Q) : vV p l e ({ frames := 6, cells := 0, slots := 0, locals := 149 } : Room) s m args below meth c D g A a b 2 0 0 (MQ below (cQi D g A a b Q) args s 0 0 A) M [(0, .ref (a 13)), (1, iv p0)] 0 [] := by
  unfold wpe_X11_isStep at hw
  refine V_aload_n X dX11_isStep_0 rfl (q := 0) rfl ?_
  refine V_callV_v X _ gO_13 rfl (As := []) (st := []) (c_X11_scripts l hw) (cwV 0 X.2.2.2.1 gX11_isStep_X11_scripts rfl rfl rfl (by decide +kernel) ⟨Nat.le_of_ble_eq_true rfl, Nat.le_of_ble_eq_true rfl⟩) rfl (Nat.le_of_ble_eq_true rfl) ⟨Nat.le_of_ble_eq_true rfl, Nat.le_of_ble_eq_true rfl⟩ rfl dX11_isStep_1 (fun M2 hw => ?_)
  refine V_aload_n X dX11_isStep_4 rfl (q := 0) rfl ?_
  refine V_iload_n X dX11_isStep_5 rfl (q := 1) rfl ?_
  refine V_iconst X dX11_isStep_6 ?_
  refine V_aload_n X dX11_isStep_7 rfl (q := 0) rfl ?_
  refine V_get (C := RX11) (T := TX11) (N := 24) (ci := 11) X hi_X11_isStep_11 gO_13 rfl 16 (by decide) lk_X11_isStep_f169 (fun _ h9 => h9) rfl dX11_isStep_8 ?_
  refine V_iconst X dX11_isStep_11 ?_
  refine V_isub X dX11_isStep_12 ?_
  refine V_callS_i X _ (As := [iv p0, iv 0, iv ((M2 13 16 0) - 1)]) (st := [.ref (a 13)]) (c_X11_in l hw) (va_cwS 3 X.2.2.2.1 gX11_isStep_X11_in rfl rfl rfl (by decide +kernel) ⟨Nat.le_of_ble_eq_true rfl, Nat.le_of_ble_eq_true rfl⟩) rfl (Nat.le_of_ble_eq_true rfl) ⟨Nat.le_of_ble_eq_true rfl, Nat.le_of_ble_eq_true rfl⟩ rfl dX11_isStep_13 (fun y3 M4 hw => ?_)
  refine V_iconst X dX11_isStep_16 ?_
  refine V_iconst X dX11_isStep_17 ?_
  refine V_callV_i X _ gO_13 rfl (As := [iv y3, iv 1, iv 1]) (st := []) (c_X11_goes l hw) (cwV 3 X.2.2.2.1 gX11_isStep_X11_goes rfl rfl rfl (by decide +kernel) ⟨Nat.le_of_ble_eq_true rfl, Nat.le_of_ble_eq_true rfl⟩) rfl (Nat.le_of_ble_eq_true rfl) ⟨Nat.le_of_ble_eq_true rfl, Nat.le_of_ble_eq_true rfl⟩ rfl dX11_isStep_18 (fun y5 M6 hw => ?_)
  obtain ⟨h7, hw⟩ := hw
  exact V_zret X hr h7 hw dX11_isStep_21
set_option maxHeartbeats 4000000 in
set_option maxRecDepth 100000 in
theorem c_X11_isStep (l : Launch) {p0 : Int} {D : va_G} {g : GT} {A : Nat → Prop} {a : Nat → Nat} {b : Nat → Nat → Nat} {M : Mem} {Q : Int → Mem → Prop} (hw : wp_X11_isStep M p0 Q) : Met l yX11_isStep wsX11_isStep ({ frames := 6, cells := 0, slots := 0, locals := 149 } : Room) (cPc D g A a b M [.ref (a 13), iv p0]) (cQi D g A a b Q) 0 0 A := by
  refine Met.ofW (cc := cX11_isStep) (maxL := 2) (ret := (some .boolean)) (by decide) rfl ?_
  intro p e s m args below meth c s₁ B hml hv
  obtain ⟨rfl, hP, hD, hG⟩ := hv
  have X : vC p s m _ meth c D g A RX11 wsX11_isStep cX11_isStep 2 := ⟨B.exec, B.bytes, findClass_of_methodNamed B.named, atoms_spec (ws := wsX11_isStep) B.pre, hG, hml, B.notSynchronized⟩
  have hr := B.returns
  have hl := lv_entry ([.ref (a 13), iv p0]) (n := 2) (Nat.le_of_ble_eq_true rfl)
  rw [lg_entry_eq]
  generalize (lg_sl ([.ref (a 13), iv p0]) ++ List.replicate (2 - (lg_sl ([.ref (a 13), iv p0])).length) Slot.unset).toArray = ls at hl ⊢
  have hl : lv_has ls 2 [(0, .ref (a 13)), (1, iv p0)] := hl
  exact wke_X11_isStep X hr  hw s.heap [] ls hP hD va_S.rf hl

set_option maxRecDepth 20000 in
theorem ggX11_stepKind_X11_isStep : GoodIn wsX11_stepKind wsX11_isStep := goodIn_r _ [6, 7, 8, 9, 10, 5, 11, 12, 13, 14, 15, 16, 17, 18, 19, 20, 21, 22, 23, 24, 25, 26, 27, 28, 29, 30, 31, 32, 33, 34, 35, 36, 37, 38, 39, 40, 41, 42, 43, 44, 45, 46, 47, 48, 49, 50, 51, 52, 53, 54, 55, 56, 57, 58, 59, 60, 61, 62, 63, 64, 65, 66, 67, 68, 69, 70, 71, 72, 73, 74, 75, 76, 77, 78, 79, 80, 81, 1, 82, 83, 84, 85, 86, 87, 88, 89, 90, 91, 92, 93, 94, 95, 96, 97, 98, 99, 100, 101, 102, 103, 104, 105, 106, 107, 108, 109, 110, 111, 112, 113, 114] (by decide +kernel) (by decide +kernel)
set_option maxRecDepth 20000 in
theorem gX11_stepKind_X11_isStep : GoodIn wsX11_stepKind (wsV RX11 182 RX11 yX11_isStep wsX11_isStep) := goodIn_app (goodIn_of _ (by decide +kernel)) ggX11_stepKind_X11_isStep
theorem dX11_stepKind_0 : decode cX11_stepKind 0 = .ok (.aload_n 0, 1) := by decide +kernel
theorem dX11_stepKind_1 : decode cX11_stepKind 1 = .ok (.iload_n 1, 1) := by decide +kernel
theorem dX11_stepKind_2 : decode cX11_stepKind 2 = .ok (.invokevirtual 182, 3) := by decide +kernel
theorem dX11_stepKind_5 : decode cX11_stepKind 5 = .ok (.ifCond .eq 12, 3) := by decide +kernel
theorem dX11_stepKind_8 : decode cX11_stepKind 8 = .ok (.aload_n 0, 1) := by decide +kernel
theorem dX11_stepKind_9 : decode cX11_stepKind 9 = .ok (.getfield 54, 3) := by decide +kernel
theorem dX11_stepKind_12 : decode cX11_stepKind 12 = .ok (.iload_n 1, 1) := by decide +kernel
theorem dX11_stepKind_13 : decode cX11_stepKind 13 = .ok (.iaload, 1) := by decide +kernel
theorem dX11_stepKind_14 : decode cX11_stepKind 14 = .ok (.goto 4, 3) := by decide +kernel
theorem dX11_stepKind_17 : decode cX11_stepKind 17 = .ok (.iconst 0, 1) := by decide +kernel
theorem dX11_stepKind_18 : decode cX11_stepKind 18 = .ok (.ireturn, 1) := by decide +kernel
theorem lk_X11_stepKind_f54 : Cond.fieldLink RX11 54 "TreeComparerModel" "stepKind" "[I" ∈ wsX11_stepKind := by decide +kernel
theorem hi_X11_stepKind_11 : ∀ w ∈ u_ws RX11 TX11 24, w ∈ wsX11_stepKind := by decide +kernel
def wpe_X11_stepKind (p0 : Int) (M : Mem) (Q : Int → Mem → Prop) : Prop := wp_X11_isStep M p0 (fun y1 M2 => inR y1 ∧ ((y1 = 0 → Q 0 M2) ∧ (¬ (y1 = 0) → ((0 : Int) ≤ p0 ∧ p0 < 24) ∧ Q ((M2 13 14 p0.toNat)) M2)))
def wp_X11_stepKind (M : Mem) (p0 : Int) (Q : Int → Mem → Prop) : Prop := wpe_X11_stepKind p0 M Q
set_option maxHeartbeats 4000000 in
set_option maxRecDepth 100000 in
theorem wke_X11_stepKind {p : Program} {l : Launch} {e : Env} {s : State} {m : MethodId} {args : Array Value} {below : List Frame} {meth : Method} {c : Code} {D : va_G} {g : GT} {A : Nat → Prop} {a : Nat → Nat} {b : Nat → Nat → Nat} (X : vC p s m args meth c D g A RX11 wsX11_stepKind cX11_stepKind 2) (hr : meth.sig.returnType = (some .int)) {p0 : Int} {M : Mem} {Q : Int → Mem → Prop} (hw : wpe_X11_stepKind p0 M Q) : vV p l e ({ frames := 7, cells := 0, slots := 0, locals := 170 } : Room) s m args below meth c D g A a b 2 0 0 (MQ below (cQi D g A a b Q) args s 0 0 A) M [(0, .ref (a 13)), (1, iv p0)] 0 [] := by
  unfold wpe_X11_stepKind at hw
  refine V_aload_n X dX11_stepKind_0 rfl (q := 0) rfl ?_
  refine V_iload_n X dX11_stepKind_1 rfl (q := 1) rfl ?_
  refine V_callV_i X _ gO_13 rfl (As := [iv p0]) (st := []) (c_X11_isStep l hw) (cwV 1 X.2.2.2.1 gX11_stepKind_X11_isStep rfl rfl rfl (by decide +kernel) ⟨Nat.le_of_ble_eq_true rfl, Nat.le_of_ble_eq_true rfl⟩) rfl (Nat.le_of_ble_eq_true rfl) ⟨Nat.le_of_ble_eq_true rfl, Nat.le_of_ble_eq_true rfl⟩ rfl dX11_stepKind_2 (fun y1 M2 hw => ?_)
  obtain ⟨h3, hw⟩ := hw
  refine V_if_eq (tgt := 17) X h3 dX11_stepKind_5 (by decide) (fun q4 => ?_) (fun q4 => ?_)
  · have hw := hw.1 q4
    refine V_iconst X dX11_stepKind_17 ?_
    exact V_iret X hr hw dX11_stepKind_18
  · have hw := hw.2 q4
    refine V_aload_n X dX11_stepKind_8 rfl (q := 0) rfl ?_
    refine V_get (C := RX11) (T := TX11) (N := 24) (ci := 11) X hi_X11_stepKind_11 gO_13 rfl 14 (by decide) lk_X11_stepKind_f54 (fun _ h9 => h9) rfl dX11_stepKind_9 ?_
    refine V_iload_n X dX11_stepKind_12 rfl (q := 1) rfl ?_
    obtain ⟨h5, hw⟩ := hw
    refine V_iald X (gA_13_14) h5 (by decide) dX11_stepKind_13 ?_
    refine V_goto (tgt := 18) X dX11_stepKind_14 (by decide) ?_
    exact V_iret X hr hw dX11_stepKind_18
set_option maxHeartbeats 4000000 in
set_option maxRecDepth 100000 in
theorem c_X11_stepKind (l : Launch) {p0 : Int} {D : va_G} {g : GT} {A : Nat → Prop} {a : Nat → Nat} {b : Nat → Nat → Nat} {M : Mem} {Q : Int → Mem → Prop} (hw : wp_X11_stepKind M p0 Q) : Met l yX11_stepKind wsX11_stepKind ({ frames := 7, cells := 0, slots := 0, locals := 170 } : Room) (cPc D g A a b M [.ref (a 13), iv p0]) (cQi D g A a b Q) 0 0 A := by
  refine Met.ofW (cc := cX11_stepKind) (maxL := 2) (ret := (some .int)) (by decide) rfl ?_
  intro p e s m args below meth c s₁ B hml hv
  obtain ⟨rfl, hP, hD, hG⟩ := hv
  have X : vC p s m _ meth c D g A RX11 wsX11_stepKind cX11_stepKind 2 := ⟨B.exec, B.bytes, findClass_of_methodNamed B.named, atoms_spec (ws := wsX11_stepKind) B.pre, hG, hml, B.notSynchronized⟩
  have hr := B.returns
  have hl := lv_entry ([.ref (a 13), iv p0]) (n := 2) (Nat.le_of_ble_eq_true rfl)
  rw [lg_entry_eq]
  generalize (lg_sl ([.ref (a 13), iv p0]) ++ List.replicate (2 - (lg_sl ([.ref (a 13), iv p0])).length) Slot.unset).toArray = ls at hl ⊢
  have hl : lv_has ls 2 [(0, .ref (a 13)), (1, iv p0)] := hl
  exact wke_X11_stepKind X hr  hw s.heap [] ls hP hD va_S.rf hl

theorem dX7_treeAfter_0 : decode cX7_treeAfter 0 = .ok (.iload_n 1, 1) := by decide +kernel
theorem dX7_treeAfter_1 : decode cX7_treeAfter 1 = .ok (.aload_n 0, 1) := by decide +kernel
theorem dX7_treeAfter_2 : decode cX7_treeAfter 2 = .ok (.getfield 67, 3) := by decide +kernel
theorem dX7_treeAfter_5 : decode cX7_treeAfter 5 = .ok (.if_icmp .gt 13, 3) := by decide +kernel
theorem dX7_treeAfter_8 : decode cX7_treeAfter 8 = .ok (.aload_n 0, 1) := by decide +kernel
theorem dX7_treeAfter_9 : decode cX7_treeAfter 9 = .ok (.getfield 25, 3) := by decide +kernel
theorem dX7_treeAfter_12 : decode cX7_treeAfter 12 = .ok (.getfield 33, 3) := by decide +kernel
theorem dX7_treeAfter_15 : decode cX7_treeAfter 15 = .ok (.goto 10, 3) := by decide +kernel
theorem dX7_treeAfter_18 : decode cX7_treeAfter 18 = .ok (.aload_n 0, 1) := by decide +kernel
theorem dX7_treeAfter_19 : decode cX7_treeAfter 19 = .ok (.getfield 25, 3) := by decide +kernel
theorem dX7_treeAfter_22 : decode cX7_treeAfter 22 = .ok (.getfield 39, 3) := by decide +kernel
theorem dX7_treeAfter_25 : decode cX7_treeAfter 25 = .ok (.areturn, 1) := by decide +kernel
theorem lk_X7_treeAfter_f67 : Cond.fieldLink RX7 67 "TreeComparer$Script" "oldCount" "I" ∈ wsX7_treeAfter := by decide +kernel
theorem hi_X7_treeAfter_7 : ∀ w ∈ u_ws RX7 TX7 9, w ∈ wsX7_treeAfter := by decide +kernel
theorem lk_X7_treeAfter_f25 : Cond.fieldLink RX7 25 "TreeComparer$Script" "given" "LTreeComparer$Given;" ∈ wsX7_treeAfter := by decide +kernel
theorem hi_X7_treeAfter_1 : ∀ w ∈ u_ws RX1 TX1 6, w ∈ wsX7_treeAfter := by decide +kernel
def wpe_X7_treeAfter (p0 : Int) (M : Mem) (Q : Nat → Mem → Prop) : Prop := inR p0 ∧ inR (M 7 5 0) ∧ (((M 7 5 0) < p0 → Q 12 M) ∧ (¬ ((M 7 5 0) < p0) → Q 11 M))
def wp_X7_treeAfter (M : Mem) (p0 : Int) (Q : Nat → Mem → Prop) : Prop := wpe_X7_treeAfter p0 M Q
set_option maxHeartbeats 4000000 in
set_option maxRecDepth 100000 in
theorem wke_X7_treeAfter {p : Program} {l : Launch} {e : Env} {s : State} {m : MethodId} {args : Array Value} {below : List Frame} {meth : Method} {c : Code} {D : va_G} {g : GT} {A : Nat → Prop} {a : Nat → Nat} {b : Nat → Nat → Nat} (X : vC p s m args meth c D g A RX7 wsX7_treeAfter cX7_treeAfter 2) (hr : meth.sig.returnType = (some (.object "TreeComparer$Tree"))) {p0 : Int} {M : Mem} {Q : Nat → Mem → Prop} (hw : wpe_X7_treeAfter p0 M Q) : vV p l e ({ frames := 0, cells := 0, slots := 0, locals := 0 } : Room) s m args below meth c D g A a b 2 0 0 (MQ below (cQr D g A a b Q) args s 0 0 A) M [(0, .ref (a 7)), (1, iv p0)] 0 [] := by
  unfold wpe_X7_treeAfter at hw
  refine V_iload_n X dX7_treeAfter_0 rfl (q := 1) rfl ?_
  refine V_aload_n X dX7_treeAfter_1 rfl (q := 0) rfl ?_
  refine V_get (C := RX7) (T := TX7) (N := 9) (ci := 7) X hi_X7_treeAfter_7 gO_7 rfl 5 (by decide) lk_X7_treeAfter_f67 (fun _ h9 => h9) rfl dX7_treeAfter_2 ?_
  obtain ⟨h1, h2, hw⟩ := hw
  refine V_icmp_gt (tgt := 18) X h1 h2 dX7_treeAfter_5 (by decide) (fun q3 => ?_) (fun q3 => ?_)
  · have hw := hw.1 q3
    refine V_aload_n X dX7_treeAfter_18 rfl (q := 0) rfl ?_
    refine V_get (C := RX7) (T := TX7) (N := 9) (ci := 7) X hi_X7_treeAfter_7 gO_7 rfl 0 (by decide) lk_X7_treeAfter_f25 (fun _ h9 => h9) rfl dX7_treeAfter_19 ?_
    refine V_getN (C := RX1) (T := TX1) (N := 6) (ci := 1) X hi_X7_treeAfter_1 gO_1 rfl 5 (by decide) (List.mem_of_getElem? (i := 39) rfl) (fun _ h9 => h9) rfl dX7_treeAfter_22 ?_
    exact V_aret X hr hw dX7_treeAfter_25
  · have hw := hw.2 q3
    refine V_aload_n X dX7_treeAfter_8 rfl (q := 0) rfl ?_
    refine V_get (C := RX7) (T := TX7) (N := 9) (ci := 7) X hi_X7_treeAfter_7 gO_7 rfl 0 (by decide) lk_X7_treeAfter_f25 (fun _ h9 => h9) rfl dX7_treeAfter_9 ?_
    refine V_getN (C := RX1) (T := TX1) (N := 6) (ci := 1) X hi_X7_treeAfter_1 gO_1 rfl 4 (by decide) (List.mem_of_getElem? (i := 35) rfl) (fun _ h9 => h9) rfl dX7_treeAfter_12 ?_
    refine V_goto (tgt := 25) X dX7_treeAfter_15 (by decide) ?_
    exact V_aret X hr hw dX7_treeAfter_25
set_option maxHeartbeats 4000000 in
set_option maxRecDepth 100000 in
theorem c_X7_treeAfter (l : Launch) {p0 : Int} {D : va_G} {g : GT} {A : Nat → Prop} {a : Nat → Nat} {b : Nat → Nat → Nat} {M : Mem} {Q : Nat → Mem → Prop} (hw : wp_X7_treeAfter M p0 Q) : Met l yX7_treeAfter wsX7_treeAfter ({ frames := 0, cells := 0, slots := 0, locals := 0 } : Room) (cPc D g A a b M [.ref (a 7), iv p0]) (cQr D g A a b Q) 0 0 A := by
  refine Met.ofW (cc := cX7_treeAfter) (maxL := 2) (ret := (some (.object "TreeComparer$Tree"))) (by decide) rfl ?_
  intro p e s m args below meth c s₁ B hml hv
  obtain ⟨rfl, hP, hD, hG⟩ := hv
  have X : vC p s m _ meth c D g A RX7 wsX7_treeAfter cX7_treeAfter 2 := ⟨B.exec, B.bytes, findClass_of_methodNamed B.named, atoms_spec (ws := wsX7_treeAfter) B.pre, hG, hml, B.notSynchronized⟩
  have hr := B.returns
  have hl := lv_entry ([.ref (a 7), iv p0]) (n := 2) (Nat.le_of_ble_eq_true rfl)
  rw [lg_entry_eq]
  generalize (lg_sl ([.ref (a 7), iv p0]) ++ List.replicate (2 - (lg_sl ([.ref (a 7), iv p0])).length) Slot.unset).toArray = ls at hl ⊢
  have hl : lv_has ls 2 [(0, .ref (a 7)), (1, iv p0)] := hl
  exact wke_X7_treeAfter X hr  hw s.heap [] ls hP hD va_S.rf hl

theorem dX7_priceOf_0 : decode cX7_priceOf 0 = .ok (.aload_n 0, 1) := by decide +kernel
theorem dX7_priceOf_1 : decode cX7_priceOf 1 = .ok (.getfield 15, 3) := by decide +kernel
theorem dX7_priceOf_4 : decode cX7_priceOf 4 = .ok (.iload_n 1, 1) := by decide +kernel
theorem dX7_priceOf_5 : decode cX7_priceOf 5 = .ok (.iaload, 1) := by decide +kernel
theorem dX7_priceOf_6 : decode cX7_priceOf 6 = .ok (.istore_n 2, 1) := by decide +kernel
theorem dX7_priceOf_7 : decode cX7_priceOf 7 = .ok (.aload_n 0, 1) := by decide +kernel
theorem dX7_priceOf_8 : decode cX7_priceOf 8 = .ok (.getfield 9, 3) := by decide +kernel
theorem dX7_priceOf_11 : decode cX7_priceOf 11 = .ok (.iload_n 1, 1) := by decide +kernel
theorem dX7_priceOf_12 : decode cX7_priceOf 12 = .ok (.iaload, 1) := by decide +kernel
theorem dX7_priceOf_13 : decode cX7_priceOf 13 = .ok (.iconst 2, 1) := by decide +kernel
theorem dX7_priceOf_14 : decode cX7_priceOf 14 = .ok (.if_icmp .ne 24, 3) := by decide +kernel
theorem dX7_priceOf_17 : decode cX7_priceOf 17 = .ok (.aload_n 0, 1) := by decide +kernel
theorem dX7_priceOf_18 : decode cX7_priceOf 18 = .ok (.getfield 25, 3) := by decide +kernel
theorem dX7_priceOf_21 : decode cX7_priceOf 21 = .ok (.getfield 73, 3) := by decide +kernel
theorem dX7_priceOf_24 : decode cX7_priceOf 24 = .ok (.aload_n 0, 1) := by decide +kernel
theorem dX7_priceOf_25 : decode cX7_priceOf 25 = .ok (.getfield 25, 3) := by decide +kernel
theorem dX7_priceOf_28 : decode cX7_priceOf 28 = .ok (.getfield 39, 3) := by decide +kernel
theorem dX7_priceOf_31 : decode cX7_priceOf 31 = .ok (.getfield 76, 3) := by decide +kernel
theorem dX7_priceOf_34 : decode cX7_priceOf 34 = .ok (.iload_n 2, 1) := by decide +kernel
theorem dX7_priceOf_35 : decode cX7_priceOf 35 = .ok (.iaload, 1) := by decide +kernel
theorem dX7_priceOf_36 : decode cX7_priceOf 36 = .ok (.iaload, 1) := by decide +kernel
theorem dX7_priceOf_37 : decode cX7_priceOf 37 = .ok (.ireturn, 1) := by decide +kernel
theorem dX7_priceOf_38 : decode cX7_priceOf 38 = .ok (.aload_n 0, 1) := by decide +kernel
theorem dX7_priceOf_39 : decode cX7_priceOf 39 = .ok (.getfield 25, 3) := by decide +kernel
theorem dX7_priceOf_42 : decode cX7_priceOf 42 = .ok (.getfield 33, 3) := by decide +kernel
theorem dX7_priceOf_45 : decode cX7_priceOf 45 = .ok (.getfield 76, 3) := by decide +kernel
theorem dX7_priceOf_48 : decode cX7_priceOf 48 = .ok (.iload_n 2, 1) := by decide +kernel
theorem dX7_priceOf_49 : decode cX7_priceOf 49 = .ok (.iaload, 1) := by decide +kernel
theorem dX7_priceOf_50 : decode cX7_priceOf 50 = .ok (.istore_n 3, 1) := by decide +kernel
theorem dX7_priceOf_51 : decode cX7_priceOf 51 = .ok (.aload_n 0, 1) := by decide +kernel
theorem dX7_priceOf_52 : decode cX7_priceOf 52 = .ok (.getfield 9, 3) := by decide +kernel
theorem dX7_priceOf_55 : decode cX7_priceOf 55 = .ok (.iload_n 1, 1) := by decide +kernel
theorem dX7_priceOf_56 : decode cX7_priceOf 56 = .ok (.iaload, 1) := by decide +kernel
theorem dX7_priceOf_57 : decode cX7_priceOf 57 = .ok (.ifCond .ne 15, 3) := by decide +kernel
theorem dX7_priceOf_60 : decode cX7_priceOf 60 = .ok (.aload_n 0, 1) := by decide +kernel
theorem dX7_priceOf_61 : decode cX7_priceOf 61 = .ok (.getfield 25, 3) := by decide +kernel
theorem dX7_priceOf_64 : decode cX7_priceOf 64 = .ok (.getfield 79, 3) := by decide +kernel
theorem dX7_priceOf_67 : decode cX7_priceOf 67 = .ok (.iload_n 3, 1) := by decide +kernel
theorem dX7_priceOf_68 : decode cX7_priceOf 68 = .ok (.iaload, 1) := by decide +kernel
theorem dX7_priceOf_69 : decode cX7_priceOf 69 = .ok (.goto 12, 3) := by decide +kernel
theorem dX7_priceOf_72 : decode cX7_priceOf 72 = .ok (.aload_n 0, 1) := by decide +kernel
theorem dX7_priceOf_73 : decode cX7_priceOf 73 = .ok (.getfield 25, 3) := by decide +kernel
theorem dX7_priceOf_76 : decode cX7_priceOf 76 = .ok (.getfield 82, 3) := by decide +kernel
theorem dX7_priceOf_79 : decode cX7_priceOf 79 = .ok (.iload_n 3, 1) := by decide +kernel
theorem dX7_priceOf_80 : decode cX7_priceOf 80 = .ok (.iaload, 1) := by decide +kernel
theorem dX7_priceOf_81 : decode cX7_priceOf 81 = .ok (.ireturn, 1) := by decide +kernel
theorem lk_X7_priceOf_f15 : Cond.fieldLink RX7 15 "TreeComparer$Script" "node" "[I" ∈ wsX7_priceOf := by decide +kernel
theorem hi_X7_priceOf_7 : ∀ w ∈ u_ws RX7 TX7 9, w ∈ wsX7_priceOf := by decide +kernel
theorem lk_X7_priceOf_f9 : Cond.fieldLink RX7 9 "TreeComparer$Script" "edit" "[I" ∈ wsX7_priceOf := by decide +kernel
theorem lk_X7_priceOf_f25 : Cond.fieldLink RX7 25 "TreeComparer$Script" "given" "LTreeComparer$Given;" ∈ wsX7_priceOf := by decide +kernel
theorem hi_X7_priceOf_1 : ∀ w ∈ u_ws RX1 TX1 6, w ∈ wsX7_priceOf := by decide +kernel
theorem hi_X7_priceOf_9 : ∀ w ∈ u_ws RX9 TX9 9, w ∈ wsX7_priceOf := by decide +kernel
def wpe_X7_priceOf (p0 : Int) (M : Mem) (Q : Int → Mem → Prop) : Prop := ((0 : Int) ≤ p0 ∧ p0 < 24) ∧ (∀ y2 : Int, y2 = (M 7 3 p0.toNat) → ((0 : Int) ≤ p0 ∧ p0 < 24) ∧ inR (M 7 2 p0.toNat) ∧ (((M 7 2 p0.toNat) ≠ 2 → ((0 : Int) ≤ y2 ∧ y2 < 12) ∧ (∀ y7 : Int, y7 = (M 11 0 y2.toNat) → ((0 : Int) ≤ p0 ∧ p0 < 24) ∧ inR (M 7 2 p0.toNat) ∧ (((M 7 2 p0.toNat) ≠ 0 → ((0 : Int) ≤ y7 ∧ y7 < 4) ∧ Q ((M 1 2 y7.toNat)) M) ∧ (¬ ((M 7 2 p0.toNat) ≠ 0) → ((0 : Int) ≤ y7 ∧ y7 < 4) ∧ Q ((M 1 1 y7.toNat)) M)))) ∧ (¬ ((M 7 2 p0.toNat) ≠ 2) → ((0 : Int) ≤ y2 ∧ y2 < 12) ∧ ((0 : Int) ≤ (M 12 0 y2.toNat) ∧ (M 12 0 y2.toNat) < 4) ∧ Q ((M 1 0 ((M 12 0 y2.toNat)).toNat)) M)))
def wp_X7_priceOf (M : Mem) (p0 : Int) (Q : Int → Mem → Prop) : Prop := wpe_X7_priceOf p0 M Q
set_option maxHeartbeats 4000000 in
set_option maxRecDepth 100000 in
theorem wke_X7_priceOf {p : Program} {l : Launch} {e : Env} {s : State} {m : MethodId} {args : Array Value} {below : List Frame} {meth : Method} {c : Code} {D : va_G} {g : GT} {A : Nat → Prop} {a : Nat → Nat} {b : Nat → Nat → Nat} (X : vC p s m args meth c D g A RX7 wsX7_priceOf cX7_priceOf 4) (hr : meth.sig.returnType = (some .int)) {p0 : Int} {M : Mem} {Q : Int → Mem → Prop} (hw : wpe_X7_priceOf p0 M Q) : vV p l e ({ frames := 0, cells := 0, slots := 0, locals := 0 } : Room) s m args below meth c D g A a b 4 0 0 (MQ below (cQi D g A a b Q) args s 0 0 A) M [(0, .ref (a 7)), (1, iv p0)] 0 [] := by
  unfold wpe_X7_priceOf at hw
  refine V_aload_n X dX7_priceOf_0 rfl (q := 0) rfl ?_
  refine V_get (C := RX7) (T := TX7) (N := 9) (ci := 7) X hi_X7_priceOf_7 gO_7 rfl 3 (by decide) lk_X7_priceOf_f15 (fun _ h9 => h9) rfl dX7_priceOf_1 ?_
  refine V_iload_n X dX7_priceOf_4 rfl (q := 1) rfl ?_
  obtain ⟨h1, hw⟩ := hw
  refine V_iald X (gA_7_3) h1 (by decide) dX7_priceOf_5 ?_
  refine V_top (fun y2 ey2 => ?_)
  have hw := hw y2 ey2
  refine V_istore_n (lv1 := [(0, .ref (a 7)), (1, iv p0), (2, iv y2)]) X [1, 2, 0] dX7_priceOf_6 rfl (by decide) rfl ?_
  refine V_aload_n X dX7_priceOf_7 rfl (q := 0) rfl ?_
  refine V_get (C := RX7) (T := TX7) (N := 9) (ci := 7) X hi_X7_priceOf_7 gO_7 rfl 2 (by decide) lk_X7_priceOf_f9 (fun _ h9 => h9) rfl dX7_priceOf_8 ?_
  refine V_iload_n X dX7_priceOf_11 rfl (q := 1) rfl ?_
  obtain ⟨h3, hw⟩ := hw
  refine V_iald X (gA_7_2) h3 (by decide) dX7_priceOf_12 ?_
  refine V_iconst X dX7_priceOf_13 ?_
  obtain ⟨h4, hw⟩ := hw
  refine V_icmp_ne (tgt := 38) X h4 ⟨by decide, by decide⟩ dX7_priceOf_14 (by decide) (fun q5 => ?_) (fun q5 => ?_)
  · have hw := hw.1 q5
    refine V_aload_n X dX7_priceOf_38 rfl (q := 0) rfl ?_
    refine V_get (C := RX7) (T := TX7) (N := 9) (ci := 7) X hi_X7_priceOf_7 gO_7 rfl 0 (by decide) lk_X7_priceOf_f25 (fun _ h9 => h9) rfl dX7_priceOf_39 ?_
    refine V_getN (C := RX1) (T := TX1) (N := 6) (ci := 1) X hi_X7_priceOf_1 gO_1 rfl 4 (by decide) (List.mem_of_getElem? (i := 35) rfl) (fun _ h9 => h9) rfl dX7_priceOf_42 ?_
    refine V_getN (C := RX9) (T := TX9) (N := 9) (ci := 9) X hi_X7_priceOf_9 gO_11 rfl 0 (by decide) (List.mem_of_getElem? (i := 2) rfl) (fun _ h9 => h9) rfl dX7_priceOf_45 ?_
    refine V_iload_n X dX7_priceOf_48 rfl (q := 2) rfl ?_
    obtain ⟨h6, hw⟩ := hw
    refine V_iald X (gA_11_0) h6 (by decide) dX7_priceOf_49 ?_
    refine V_top (fun y7 ey7 => ?_)
    have hw := hw y7 ey7
    refine V_istore_n (lv1 := [(0, .ref (a 7)), (1, iv p0), (2, iv y2), (3, iv y7)]) X [1, 2, 3, 0] dX7_priceOf_50 rfl (by decide) rfl ?_
    refine V_aload_n X dX7_priceOf_51 rfl (q := 0) rfl ?_
    refine V_get (C := RX7) (T := TX7) (N := 9) (ci := 7) X hi_X7_priceOf_7 gO_7 rfl 2 (by decide) lk_X7_priceOf_f9 (fun _ h9 => h9) rfl dX7_priceOf_52 ?_
    refine V_iload_n X dX7_priceOf_55 rfl (q := 1) rfl ?_
    obtain ⟨h8, hw⟩ := hw
    refine V_iald X (gA_7_2) h8 (by decide) dX7_priceOf_56 ?_
    obtain ⟨h9, hw⟩ := hw
    refine V_if_ne (tgt := 72) X h9 dX7_priceOf_57 (by decide) (fun q10 => ?_) (fun q10 => ?_)
    · have hw := hw.1 q10
      refine V_aload_n X dX7_priceOf_72 rfl (q := 0) rfl ?_
      refine V_get (C := RX7) (T := TX7) (N := 9) (ci := 7) X hi_X7_priceOf_7 gO_7 rfl 0 (by decide) lk_X7_priceOf_f25 (fun _ h9 => h9) rfl dX7_priceOf_73 ?_
      refine V_getN (C := RX1) (T := TX1) (N := 6) (ci := 1) X hi_X7_priceOf_1 gO_1 rfl 2 (by decide) (List.mem_of_getElem? (i := 31) rfl) (fun _ h9 => h9) rfl dX7_priceOf_76 ?_
      refine V_iload_n X dX7_priceOf_79 rfl (q := 3) rfl ?_
      obtain ⟨h11, hw⟩ := hw
      refine V_iald X (gA_1_2) h11 (by decide) dX7_priceOf_80 ?_
      exact V_iret X hr hw dX7_priceOf_81
    · have hw := hw.2 q10
      refine V_aload_n X dX7_priceOf_60 rfl (q := 0) rfl ?_
      refine V_get (C := RX7) (T := TX7) (N := 9) (ci := 7) X hi_X7_priceOf_7 gO_7 rfl 0 (by decide) lk_X7_priceOf_f25 (fun _ h9 => h9) rfl dX7_priceOf_61 ?_
      refine V_getN (C := RX1) (T := TX1) (N := 6) (ci := 1) X hi_X7_priceOf_1 gO_1 rfl 1 (by decide) (List.mem_of_getElem? (i := 29) rfl) (fun _ h9 => h9) rfl dX7_priceOf_64 ?_
      refine V_iload_n X dX7_priceOf_67 rfl (q := 3) rfl ?_
      obtain ⟨h12, hw⟩ := hw
      refine V_iald X (gA_1_1) h12 (by decide) dX7_priceOf_68 ?_
      refine V_goto (tgt := 81) X dX7_priceOf_69 (by decide) ?_
      exact V_iret X hr hw dX7_priceOf_81
  · have hw := hw.2 q5
    refine V_aload_n X dX7_priceOf_17 rfl (q := 0) rfl ?_
    refine V_get (C := RX7) (T := TX7) (N := 9) (ci := 7) X hi_X7_priceOf_7 gO_7 rfl 0 (by decide) lk_X7_priceOf_f25 (fun _ h9 => h9) rfl dX7_priceOf_18 ?_
    refine V_getN (C := RX1) (T := TX1) (N := 6) (ci := 1) X hi_X7_priceOf_1 gO_1 rfl 0 (by decide) (List.mem_of_getElem? (i := 23) rfl) (fun _ h9 => h9) rfl dX7_priceOf_21 ?_
    refine V_aload_n X dX7_priceOf_24 rfl (q := 0) rfl ?_
    refine V_get (C := RX7) (T := TX7) (N := 9) (ci := 7) X hi_X7_priceOf_7 gO_7 rfl 0 (by decide) lk_X7_priceOf_f25 (fun _ h9 => h9) rfl dX7_priceOf_25 ?_
    refine V_getN (C := RX1) (T := TX1) (N := 6) (ci := 1) X hi_X7_priceOf_1 gO_1 rfl 5 (by decide) (List.mem_of_getElem? (i := 39) rfl) (fun _ h9 => h9) rfl dX7_priceOf_28 ?_
    refine V_getN (C := RX9) (T := TX9) (N := 9) (ci := 9) X hi_X7_priceOf_9 gO_12 rfl 0 (by decide) (List.mem_of_getElem? (i := 2) rfl) (fun _ h9 => h9) rfl dX7_priceOf_31 ?_
    refine V_iload_n X dX7_priceOf_34 rfl (q := 2) rfl ?_
    obtain ⟨h13, hw⟩ := hw
    refine V_iald X (gA_12_0) h13 (by decide) dX7_priceOf_35 ?_
    obtain ⟨h14, hw⟩ := hw
    refine V_iald X (gA_1_0) h14 (by decide) dX7_priceOf_36 ?_
    exact V_iret X hr hw dX7_priceOf_37
set_option maxHeartbeats 4000000 in
set_option maxRecDepth 100000 in
theorem c_X7_priceOf (l : Launch) {p0 : Int} {D : va_G} {g : GT} {A : Nat → Prop} {a : Nat → Nat} {b : Nat → Nat → Nat} {M : Mem} {Q : Int → Mem → Prop} (hw : wp_X7_priceOf M p0 Q) : Met l yX7_priceOf wsX7_priceOf ({ frames := 0, cells := 0, slots := 0, locals := 0 } : Room) (cPc D g A a b M [.ref (a 7), iv p0]) (cQi D g A a b Q) 0 0 A := by
  refine Met.ofW (cc := cX7_priceOf) (maxL := 4) (ret := (some .int)) (by decide) rfl ?_
  intro p e s m args below meth c s₁ B hml hv
  obtain ⟨rfl, hP, hD, hG⟩ := hv
  have X : vC p s m _ meth c D g A RX7 wsX7_priceOf cX7_priceOf 4 := ⟨B.exec, B.bytes, findClass_of_methodNamed B.named, atoms_spec (ws := wsX7_priceOf) B.pre, hG, hml, B.notSynchronized⟩
  have hr := B.returns
  have hl := lv_entry ([.ref (a 7), iv p0]) (n := 4) (Nat.le_of_ble_eq_true rfl)
  rw [lg_entry_eq]
  generalize (lg_sl ([.ref (a 7), iv p0]) ++ List.replicate (4 - (lg_sl ([.ref (a 7), iv p0])).length) Slot.unset).toArray = ls at hl ⊢
  have hl : lv_has ls 4 [(0, .ref (a 7)), (1, iv p0)] := hl
  exact wke_X7_priceOf X hr  hw s.heap [] ls hP hD va_S.rf hl
