set_option maxRecDepth 20000 in
theorem ggX11_swapTrees_X11_swaps : GoodIn wsX11_swapTrees wsX11_swaps := goodIn_r _ [10] (by decide +kernel) (by decide +kernel)
set_option maxRecDepth 20000 in
theorem gX11_swapTrees_X11_swaps : GoodIn wsX11_swapTrees (va_wsS RX11 112 yX11_swaps wsX11_swaps) := goodIn_app (goodIn_of _ (by decide +kernel)) ggX11_swapTrees_X11_swaps
theorem dX11_swapTrees_0 : decode cX11_swapTrees 0 = .ok (.aload_n 0, 1) := by decide +kernel
theorem dX11_swapTrees_1 : decode cX11_swapTrees 1 = .ok (.iconst 0, 1) := by decide +kernel
theorem dX11_swapTrees_2 : decode cX11_swapTrees 2 = .ok (.putfield 72, 3) := by decide +kernel
theorem dX11_swapTrees_5 : decode cX11_swapTrees 5 = .ok (.iconst 0, 1) := by decide +kernel
theorem dX11_swapTrees_6 : decode cX11_swapTrees 6 = .ok (.istore_n 1, 1) := by decide +kernel
theorem dX11_swapTrees_7 : decode cX11_swapTrees 7 = .ok (.iload_n 1, 1) := by decide +kernel
theorem dX11_swapTrees_8 : decode cX11_swapTrees 8 = .ok (.bipush 12, 2) := by decide +kernel
theorem dX11_swapTrees_10 : decode cX11_swapTrees 10 = .ok (.if_icmp .ge 57, 3) := by decide +kernel
theorem dX11_swapTrees_13 : decode cX11_swapTrees 13 = .ok (.aload_n 0, 1) := by decide +kernel
theorem dX11_swapTrees_14 : decode cX11_swapTrees 14 = .ok (.getfield 7, 3) := by decide +kernel
theorem dX11_swapTrees_17 : decode cX11_swapTrees 17 = .ok (.iload_n 1, 1) := by decide +kernel
theorem dX11_swapTrees_18 : decode cX11_swapTrees 18 = .ok (.bipush 12, 2) := by decide +kernel
theorem dX11_swapTrees_20 : decode cX11_swapTrees 20 = .ok (.iload_n 1, 1) := by decide +kernel
theorem dX11_swapTrees_21 : decode cX11_swapTrees 21 = .ok (.iadd, 1) := by decide +kernel
theorem dX11_swapTrees_22 : decode cX11_swapTrees 22 = .ok (.invokestatic 112, 3) := by decide +kernel
theorem dX11_swapTrees_25 : decode cX11_swapTrees 25 = .ok (.aload_n 0, 1) := by decide +kernel
theorem dX11_swapTrees_26 : decode cX11_swapTrees 26 = .ok (.getfield 13, 3) := by decide +kernel
theorem dX11_swapTrees_29 : decode cX11_swapTrees 29 = .ok (.iload_n 1, 1) := by decide +kernel
theorem dX11_swapTrees_30 : decode cX11_swapTrees 30 = .ok (.bipush 12, 2) := by decide +kernel
theorem dX11_swapTrees_32 : decode cX11_swapTrees 32 = .ok (.iload_n 1, 1) := by decide +kernel
theorem dX11_swapTrees_33 : decode cX11_swapTrees 33 = .ok (.iadd, 1) := by decide +kernel
theorem dX11_swapTrees_34 : decode cX11_swapTrees 34 = .ok (.invokestatic 112, 3) := by decide +kernel
theorem dX11_swapTrees_37 : decode cX11_swapTrees 37 = .ok (.aload_n 0, 1) := by decide +kernel
theorem dX11_swapTrees_38 : decode cX11_swapTrees 38 = .ok (.getfield 16, 3) := by decide +kernel
theorem dX11_swapTrees_41 : decode cX11_swapTrees 41 = .ok (.iload_n 1, 1) := by decide +kernel
theorem dX11_swapTrees_42 : decode cX11_swapTrees 42 = .ok (.bipush 12, 2) := by decide +kernel
theorem dX11_swapTrees_44 : decode cX11_swapTrees 44 = .ok (.iload_n 1, 1) := by decide +kernel
theorem dX11_swapTrees_45 : decode cX11_swapTrees 45 = .ok (.iadd, 1) := by decide +kernel
theorem dX11_swapTrees_46 : decode cX11_swapTrees 46 = .ok (.invokestatic 112, 3) := by decide +kernel
theorem dX11_swapTrees_49 : decode cX11_swapTrees 49 = .ok (.aload_n 0, 1) := by decide +kernel
theorem dX11_swapTrees_50 : decode cX11_swapTrees 50 = .ok (.getfield 19, 3) := by decide +kernel
theorem dX11_swapTrees_53 : decode cX11_swapTrees 53 = .ok (.iload_n 1, 1) := by decide +kernel
theorem dX11_swapTrees_54 : decode cX11_swapTrees 54 = .ok (.bipush 12, 2) := by decide +kernel
theorem dX11_swapTrees_56 : decode cX11_swapTrees 56 = .ok (.iload_n 1, 1) := by decide +kernel
theorem dX11_swapTrees_57 : decode cX11_swapTrees 57 = .ok (.iadd, 1) := by decide +kernel
theorem dX11_swapTrees_58 : decode cX11_swapTrees 58 = .ok (.invokestatic 112, 3) := by decide +kernel
theorem dX11_swapTrees_61 : decode cX11_swapTrees 61 = .ok (.iinc 1 1, 3) := by decide +kernel
theorem dX11_swapTrees_64 : decode cX11_swapTrees 64 = .ok (.goto (-57), 3) := by decide +kernel
theorem dX11_swapTrees_67 : decode cX11_swapTrees 67 = .ok (.aload_n 0, 1) := by decide +kernel
theorem dX11_swapTrees_68 : decode cX11_swapTrees 68 = .ok (.getfield 25, 3) := by decide +kernel
theorem dX11_swapTrees_71 : decode cX11_swapTrees 71 = .ok (.iconst 0, 1) := by decide +kernel
theorem dX11_swapTrees_72 : decode cX11_swapTrees 72 = .ok (.iconst 1, 1) := by decide +kernel
theorem dX11_swapTrees_73 : decode cX11_swapTrees 73 = .ok (.invokestatic 112, 3) := by decide +kernel
theorem dX11_swapTrees_76 : decode cX11_swapTrees 76 = .ok (.return_, 1) := by decide +kernel
theorem lk_X11_swapTrees_f72 : Cond.fieldLink RX11 72 "TreeComparerModel" "thrown" "I" ∈ wsX11_swapTrees := by decide +kernel
theorem hi_X11_swapTrees_11 : ∀ w ∈ u_ws RX11 TX11 24, w ∈ wsX11_swapTrees := by decide +kernel
theorem lk_X11_swapTrees_f25 : Cond.fieldLink RX11 25 "TreeComparerModel" "many" "[I" ∈ wsX11_swapTrees := by decide +kernel
theorem lk_X11_swapTrees_f7 : Cond.fieldLink RX11 7 "TreeComparerModel" "node" "[I" ∈ wsX11_swapTrees := by decide +kernel
theorem lk_X11_swapTrees_f13 : Cond.fieldLink RX11 13 "TreeComparerModel" "level" "[I" ∈ wsX11_swapTrees := by decide +kernel
theorem lk_X11_swapTrees_f16 : Cond.fieldLink RX11 16 "TreeComparerModel" "kind" "[I" ∈ wsX11_swapTrees := by decide +kernel
theorem lk_X11_swapTrees_f19 : Cond.fieldLink RX11 19 "TreeComparerModel" "label" "[I" ∈ wsX11_swapTrees := by decide +kernel
def wph_X11_swapTrees_7 (x1 : Int) (M : Mem) (J7 : Int → Mem → Prop) (Q : Mem → Prop) : Prop := inR x1 ∧ ((12 ≤ x1 → wp_X11_swaps M 13 5 2 0 1 (fun M5 => Q M5)) ∧ (¬ (12 ≤ x1) → wp_X11_swaps M 13 0 24 x1 (12 + x1) (fun M7 => wp_X11_swaps M7 13 1 24 x1 (12 + x1) (fun M9 => wp_X11_swaps M9 13 2 24 x1 (12 + x1) (fun M11 => wp_X11_swaps M11 13 3 24 x1 (12 + x1) (fun M13 => J7 (x1 + 1) M13))))))
def wpe_X11_swapTrees (M : Mem) (J7 : Int → Mem → Prop) (Q : Mem → Prop) : Prop := (∀ M1 : Mem, M1 = mset M 13 23 0 0 → J7 0 M1)
def wp_X11_swapTrees (M : Mem) (Q : Mem → Prop) : Prop := ∃ (I7 : Nat → Int → Mem → Prop), wpe_X11_swapTrees M (fun (x1 : Int) (M1 : Mem) => ∃ n1 : Nat, I7 n1 x1 M1) Q ∧ (∀ (n : Nat) (x1 : Int) (M : Mem), I7 n x1 M → wph_X11_swapTrees_7 x1 M (fun (x1 : Int) (M1 : Mem) => ∃ n1 : Nat, n1 < n ∧ I7 n1 x1 M1) Q)
set_option maxHeartbeats 4000000 in
set_option maxRecDepth 100000 in
theorem wkh_X11_swapTrees_7 {p : Program} {l : Launch} {e : Env} {s : State} {m : MethodId} {args : Array Value} {below : List Frame} {meth : Method} {c : Code} {D : va_G} {g : GT} {A : Nat → Prop} {a : Nat → Nat} {b : Nat → Nat → Nat} (X : vC p s m args meth c D g A RX11 wsX11_swapTrees cX11_swapTrees 2) (hr : meth.sig.returnType = none) {x1 : Int} {M : Mem} {J7 : Int → Mem → Prop} {Q : Mem → Prop} (hJ7 : ∀ (x1 : Int) (M : Mem), J7 x1 M → vV p l e ({ frames := 1, cells := 0, slots := 0, locals := 23 } : Room) s m args below meth c D g A a b 2 0 0 (MQ below (cQv D g A a b Q) args s 0 0 A) M [(0, .ref (a 13)), (1, iv x1)] 7 []) (hw : wph_X11_swapTrees_7 x1 M J7 Q) : vV p l e ({ frames := 1, cells := 0, slots := 0, locals := 23 } : Room) s m args below meth c D g A a b 2 0 0 (MQ below (cQv D g A a b Q) args s 0 0 A) M [(0, .ref (a 13)), (1, iv x1)] 7 [] := by
  unfold wph_X11_swapTrees_7 at hw
  refine V_iload_n X dX11_swapTrees_7 rfl (q := 1) rfl ?_
  refine V_bipush X dX11_swapTrees_8 rfl ?_
  obtain ⟨h2, hw⟩ := hw
  refine V_icmp_ge (tgt := 67) X h2 ⟨by decide, by decide⟩ dX11_swapTrees_10 (by decide) (fun q3 => ?_) (fun q3 => ?_)
  · have hw := hw.1 q3
    refine V_aload_n X dX11_swapTrees_67 rfl (q := 0) rfl ?_
    refine V_get (C := RX11) (T := TX11) (N := 24) (ci := 11) X hi_X11_swapTrees_11 gO_13 rfl 5 (by decide) lk_X11_swapTrees_f25 (fun _ h9 => h9) rfl dX11_swapTrees_68 ?_
    refine V_iconst X dX11_swapTrees_71 ?_
    refine V_iconst X dX11_swapTrees_72 ?_
    refine V_callS_v X _ (As := [.ref (b 13 5), iv 0, iv 1]) (st := []) (c_X11_swaps l arr_13_5 hw) (va_cwS 3 X.2.2.2.1 gX11_swapTrees_X11_swaps rfl rfl rfl (by decide +kernel) ⟨Nat.le_of_ble_eq_true rfl, Nat.le_of_ble_eq_true rfl⟩) rfl (Nat.le_of_ble_eq_true rfl) ⟨Nat.le_of_ble_eq_true rfl, Nat.le_of_ble_eq_true rfl⟩ rfl dX11_swapTrees_73 (fun M5 hw => ?_)
    exact V_vret X hr hw dX11_swapTrees_76
  · have hw := hw.2 q3
    refine V_aload_n X dX11_swapTrees_13 rfl (q := 0) rfl ?_
    refine V_get (C := RX11) (T := TX11) (N := 24) (ci := 11) X hi_X11_swapTrees_11 gO_13 rfl 0 (by decide) lk_X11_swapTrees_f7 (fun _ h9 => h9) rfl dX11_swapTrees_14 ?_
    refine V_iload_n X dX11_swapTrees_17 rfl (q := 1) rfl ?_
    refine V_bipush X dX11_swapTrees_18 rfl ?_
    refine V_iload_n X dX11_swapTrees_20 rfl (q := 1) rfl ?_
    refine V_iadd X dX11_swapTrees_21 ?_
    refine V_callS_v X _ (As := [.ref (b 13 0), iv x1, iv (12 + x1)]) (st := []) (c_X11_swaps l arr_13_0 hw) (va_cwS 3 X.2.2.2.1 gX11_swapTrees_X11_swaps rfl rfl rfl (by decide +kernel) ⟨Nat.le_of_ble_eq_true rfl, Nat.le_of_ble_eq_true rfl⟩) rfl (Nat.le_of_ble_eq_true rfl) ⟨Nat.le_of_ble_eq_true rfl, Nat.le_of_ble_eq_true rfl⟩ rfl dX11_swapTrees_22 (fun M7 hw => ?_)
    refine V_aload_n X dX11_swapTrees_25 rfl (q := 0) rfl ?_
    refine V_get (C := RX11) (T := TX11) (N := 24) (ci := 11) X hi_X11_swapTrees_11 gO_13 rfl 1 (by decide) lk_X11_swapTrees_f13 (fun _ h9 => h9) rfl dX11_swapTrees_26 ?_
    refine V_iload_n X dX11_swapTrees_29 rfl (q := 1) rfl ?_
    refine V_bipush X dX11_swapTrees_30 rfl ?_
    refine V_iload_n X dX11_swapTrees_32 rfl (q := 1) rfl ?_
    refine V_iadd X dX11_swapTrees_33 ?_
    refine V_callS_v X _ (As := [.ref (b 13 1), iv x1, iv (12 + x1)]) (st := []) (c_X11_swaps l arr_13_1 hw) (va_cwS 3 X.2.2.2.1 gX11_swapTrees_X11_swaps rfl rfl rfl (by decide +kernel) ⟨Nat.le_of_ble_eq_true rfl, Nat.le_of_ble_eq_true rfl⟩) rfl (Nat.le_of_ble_eq_true rfl) ⟨Nat.le_of_ble_eq_true rfl, Nat.le_of_ble_eq_true rfl⟩ rfl dX11_swapTrees_34 (fun M9 hw => ?_)
    refine V_aload_n X dX11_swapTrees_37 rfl (q := 0) rfl ?_
    refine V_get (C := RX11) (T := TX11) (N := 24) (ci := 11) X hi_X11_swapTrees_11 gO_13 rfl 2 (by decide) lk_X11_swapTrees_f16 (fun _ h9 => h9) rfl dX11_swapTrees_38 ?_
    refine V_iload_n X dX11_swapTrees_41 rfl (q := 1) rfl ?_
    refine V_bipush X dX11_swapTrees_42 rfl ?_
    refine V_iload_n X dX11_swapTrees_44 rfl (q := 1) rfl ?_
    refine V_iadd X dX11_swapTrees_45 ?_
    refine V_callS_v X _ (As := [.ref (b 13 2), iv x1, iv (12 + x1)]) (st := []) (c_X11_swaps l arr_13_2 hw) (va_cwS 3 X.2.2.2.1 gX11_swapTrees_X11_swaps rfl rfl rfl (by decide +kernel) ⟨Nat.le_of_ble_eq_true rfl, Nat.le_of_ble_eq_true rfl⟩) rfl (Nat.le_of_ble_eq_true rfl) ⟨Nat.le_of_ble_eq_true rfl, Nat.le_of_ble_eq_true rfl⟩ rfl dX11_swapTrees_46 (fun M11 hw => ?_)
    refine V_aload_n X dX11_swapTrees_49 rfl (q := 0) rfl ?_
    refine V_get (C := RX11) (T := TX11) (N := 24) (ci := 11) X hi_X11_swapTrees_11 gO_13 rfl 3 (by decide) lk_X11_swapTrees_f19 (fun _ h9 => h9) rfl dX11_swapTrees_50 ?_
    refine V_iload_n X dX11_swapTrees_53 rfl (q := 1) rfl ?_
    refine V_bipush X dX11_swapTrees_54 rfl ?_
    refine V_iload_n X dX11_swapTrees_56 rfl (q := 1) rfl ?_
    refine V_iadd X dX11_swapTrees_57 ?_
    refine V_callS_v X _ (As := [.ref (b 13 3), iv x1, iv (12 + x1)]) (st := []) (c_X11_swaps l arr_13_3 hw) (va_cwS 3 X.2.2.2.1 gX11_swapTrees_X11_swaps rfl rfl rfl (by decide +kernel) ⟨Nat.le_of_ble_eq_true rfl, Nat.le_of_ble_eq_true rfl⟩) rfl (Nat.le_of_ble_eq_true rfl) ⟨Nat.le_of_ble_eq_true rfl, Nat.le_of_ble_eq_true rfl⟩ rfl dX11_swapTrees_58 (fun M13 hw => ?_)
    refine V_iinc (lv1 := [(0, .ref (a 13)), (1, iv (x1 + 1))]) X [1, 0] dX11_swapTrees_61 (q := 1) rfl (by decide) rfl ?_
    refine V_goto (tgt := 7) X dX11_swapTrees_64 (by decide) ?_
    exact hJ7 _ _ hw
set_option maxHeartbeats 4000000 in
set_option maxRecDepth 100000 in
theorem wke_X11_swapTrees {p : Program} {l : Launch} {e : Env} {s : State} {m : MethodId} {args : Array Value} {below : List Frame} {meth : Method} {c : Code} {D : va_G} {g : GT} {A : Nat → Prop} {a : Nat → Nat} {b : Nat → Nat → Nat} (X : vC p s m args meth c D g A RX11 wsX11_swapTrees cX11_swapTrees 2) (hr : meth.sig.returnType = none) {M : Mem} {J7 : Int → Mem → Prop} {Q : Mem → Prop} (hJ7 : ∀ (x1 : Int) (M : Mem), J7 x1 M → vV p l e ({ frames := 1, cells := 0, slots := 0, locals := 23 } : Room) s m args below meth c D g A a b 2 0 0 (MQ below (cQv D g A a b Q) args s 0 0 A) M [(0, .ref (a 13)), (1, iv x1)] 7 []) (hw : wpe_X11_swapTrees M J7 Q) : vV p l e ({ frames := 1, cells := 0, slots := 0, locals := 23 } : Room) s m args below meth c D g A a b 2 0 0 (MQ below (cQv D g A a b Q) args s 0 0 A) M [(0, .ref (a 13))] 0 [] := by
  unfold wpe_X11_swapTrees at hw
  refine V_aload_n X dX11_swapTrees_0 rfl (q := 0) rfl ?_
  refine V_iconst X dX11_swapTrees_1 ?_
  refine V_put (C := RX11) (T := TX11) (N := 24) (ci := 11) X hi_X11_swapTrees_11 gO_13 rfl 23 (by decide) tyX11 tyX11_ok nmX11 rfl (tyX11_ok 23 (by decide)) (Or.inl rfl) (show 23 < 24 from by decide) sI_13_23 lk_X11_swapTrees_f72 (fun _ h9 => h9) dX11_swapTrees_2 (fun M1 eM1 => ?_)
  have hw := hw M1 eM1
  refine V_iconst X dX11_swapTrees_5 ?_
  refine V_istore_n (lv1 := [(0, .ref (a 13)), (1, iv 0)]) X [1, 0] dX11_swapTrees_6 rfl (by decide) rfl ?_
  exact hJ7 _ _ hw
set_option maxHeartbeats 4000000 in
set_option maxRecDepth 100000 in
theorem c_X11_swapTrees (l : Launch) {D : va_G} {g : GT} {A : Nat → Prop} {a : Nat → Nat} {b : Nat → Nat → Nat} {M : Mem} {Q : Mem → Prop} (hw : wp_X11_swapTrees M Q) : Met l yX11_swapTrees wsX11_swapTrees ({ frames := 1, cells := 0, slots := 0, locals := 23 } : Room) (cPc D g A a b M [.ref (a 13)]) (cQv D g A a b Q) 0 0 A := by
  refine Met.ofW (cc := cX11_swapTrees) (maxL := 2) (ret := none) (by decide) rfl ?_
  intro p e s m args below meth c s₁ B hml hv
  obtain ⟨rfl, hP, hD, hG⟩ := hv
  have X : vC p s m _ meth c D g A RX11 wsX11_swapTrees cX11_swapTrees 2 := ⟨B.exec, B.bytes, findClass_of_methodNamed B.named, atoms_spec (ws := wsX11_swapTrees) B.pre, hG, hml, B.notSynchronized⟩
  have hr := B.returns
  have hl := lv_entry ([.ref (a 13)]) (n := 2) (Nat.le_of_ble_eq_true rfl)
  rw [lg_entry_eq]
  generalize (lg_sl ([.ref (a 13)]) ++ List.replicate (2 - (lg_sl ([.ref (a 13)])).length) Slot.unset).toArray = ls at hl ⊢
  have hl : lv_has ls 2 [(0, .ref (a 13))] := hl
  obtain ⟨I7, hw, hI7⟩ := hw
  have K : ∀ n : Nat, (∀ (x1 : Int) (M : Mem), I7 n x1 M → vV p l e ({ frames := 1, cells := 0, slots := 0, locals := 23 } : Room) s m ([.ref (a 13)] : List Value).toArray below meth c D g A a b 2 0 0 (MQ below (cQv D g A a b Q) ([.ref (a 13)] : List Value).toArray s 0 0 A) M [(0, .ref (a 13)), (1, iv x1)] 7 []) := by
    intro n
    induction n using Nat.strongRecOn with
    | ind n ih =>
      exact fun x1 M hh => wkh_X11_swapTrees_7 X hr (fun _ _ ⟨n1, hn, hh⟩ => (ih n1 hn) _ _ hh) (hI7 n x1 M hh)
  exact wke_X11_swapTrees X hr  (fun _ _ ⟨n1, hh⟩ => (K n1) _ _ hh) hw s.heap [] ls hP hD va_S.rf hl

set_option maxRecDepth 20000 in
theorem ggX11_depthAfter_X11_isGrown : GoodIn wsX11_depthAfter wsX11_isGrown := goodIn_r _ [8, 9, 10, 11, 12, 7, 13, 14, 15, 16, 17, 18, 19, 20, 21, 22, 23, 24, 25, 26, 27, 28, 29, 30, 31, 32, 33, 2, 34, 35, 36, 37, 38, 39, 40, 41, 42, 43, 44, 45, 46, 47, 48, 49, 50, 51, 52, 53, 54, 55, 56, 57, 58, 59, 60, 61, 62, 63, 64, 65, 66, 67, 68, 69, 70, 71, 72, 73, 74, 75, 76, 77, 78, 79, 80, 81, 82, 83, 84, 85, 86, 87, 88, 89, 90, 91, 3, 1, 92, 93, 94, 95, 96, 97, 98, 99, 100, 101, 102, 103, 104, 105, 106, 107, 108, 109, 110, 111, 112, 113, 114, 115, 116, 117, 118, 119, 120, 121, 122, 123, 124, 125] (by decide +kernel) (by decide +kernel)
set_option maxRecDepth 20000 in
theorem gX11_depthAfter_X11_isGrown : GoodIn wsX11_depthAfter (wsV RX11 195 RX11 yX11_isGrown wsX11_isGrown) := goodIn_app (goodIn_of _ (by decide +kernel)) ggX11_depthAfter_X11_isGrown
theorem dX11_depthAfter_0 : decode cX11_depthAfter 0 = .ok (.aload_n 0, 1) := by decide +kernel
theorem dX11_depthAfter_1 : decode cX11_depthAfter 1 = .ok (.iload_n 1, 1) := by decide +kernel
theorem dX11_depthAfter_2 : decode cX11_depthAfter 2 = .ok (.iload_n 2, 1) := by decide +kernel
theorem dX11_depthAfter_3 : decode cX11_depthAfter 3 = .ok (.invokevirtual 195, 3) := by decide +kernel
theorem dX11_depthAfter_6 : decode cX11_depthAfter 6 = .ok (.ifCond .ne 5, 3) := by decide +kernel
theorem dX11_depthAfter_9 : decode cX11_depthAfter 9 = .ok (.iconst 0, 1) := by decide +kernel
theorem dX11_depthAfter_10 : decode cX11_depthAfter 10 = .ok (.ireturn, 1) := by decide +kernel
theorem dX11_depthAfter_11 : decode cX11_depthAfter 11 = .ok (.iconst 0, 1) := by decide +kernel
theorem dX11_depthAfter_12 : decode cX11_depthAfter 12 = .ok (.istore_n 3, 1) := by decide +kernel
theorem dX11_depthAfter_13 : decode cX11_depthAfter 13 = .ok (.iconst 0, 1) := by decide +kernel
theorem dX11_depthAfter_14 : decode cX11_depthAfter 14 = .ok (.istore 4, 2) := by decide +kernel
theorem dX11_depthAfter_16 : decode cX11_depthAfter 16 = .ok (.iload 4, 2) := by decide +kernel
theorem dX11_depthAfter_18 : decode cX11_depthAfter 18 = .ok (.iload_n 2, 1) := by decide +kernel
theorem dX11_depthAfter_19 : decode cX11_depthAfter 19 = .ok (.if_icmp .ge 54, 3) := by decide +kernel
theorem dX11_depthAfter_22 : decode cX11_depthAfter 22 = .ok (.iload_n 3, 1) := by decide +kernel
theorem dX11_depthAfter_23 : decode cX11_depthAfter 23 = .ok (.aload_n 0, 1) := by decide +kernel
theorem dX11_depthAfter_24 : decode cX11_depthAfter 24 = .ok (.getfield 60, 3) := by decide +kernel
theorem dX11_depthAfter_27 : decode cX11_depthAfter 27 = .ok (.iload 4, 2) := by decide +kernel
theorem dX11_depthAfter_29 : decode cX11_depthAfter 29 = .ok (.iaload, 1) := by decide +kernel
theorem dX11_depthAfter_30 : decode cX11_depthAfter 30 = .ok (.aload_n 0, 1) := by decide +kernel
theorem dX11_depthAfter_31 : decode cX11_depthAfter 31 = .ok (.getfield 22, 3) := by decide +kernel
theorem dX11_depthAfter_34 : decode cX11_depthAfter 34 = .ok (.bipush 12, 2) := by decide +kernel
theorem dX11_depthAfter_36 : decode cX11_depthAfter 36 = .ok (.aload_n 0, 1) := by decide +kernel
theorem dX11_depthAfter_37 : decode cX11_depthAfter 37 = .ok (.getfield 185, 3) := by decide +kernel
theorem dX11_depthAfter_40 : decode cX11_depthAfter 40 = .ok (.imul, 1) := by decide +kernel
theorem dX11_depthAfter_41 : decode cX11_depthAfter 41 = .ok (.aload_n 0, 1) := by decide +kernel
theorem dX11_depthAfter_42 : decode cX11_depthAfter 42 = .ok (.getfield 60, 3) := by decide +kernel
theorem dX11_depthAfter_45 : decode cX11_depthAfter 45 = .ok (.iload 4, 2) := by decide +kernel
theorem dX11_depthAfter_47 : decode cX11_depthAfter 47 = .ok (.iaload, 1) := by decide +kernel
theorem dX11_depthAfter_48 : decode cX11_depthAfter 48 = .ok (.iadd, 1) := by decide +kernel
theorem dX11_depthAfter_49 : decode cX11_depthAfter 49 = .ok (.iaload, 1) := by decide +kernel
theorem dX11_depthAfter_50 : decode cX11_depthAfter 50 = .ok (.iadd, 1) := by decide +kernel
theorem dX11_depthAfter_51 : decode cX11_depthAfter 51 = .ok (.aload_n 0, 1) := by decide +kernel
theorem dX11_depthAfter_52 : decode cX11_depthAfter 52 = .ok (.getfield 60, 3) := by decide +kernel
theorem dX11_depthAfter_55 : decode cX11_depthAfter 55 = .ok (.iload_n 2, 1) := by decide +kernel
theorem dX11_depthAfter_56 : decode cX11_depthAfter 56 = .ok (.iaload, 1) := by decide +kernel
theorem dX11_depthAfter_57 : decode cX11_depthAfter 57 = .ok (.if_icmp .le 7, 3) := by decide +kernel
theorem dX11_depthAfter_60 : decode cX11_depthAfter 60 = .ok (.iconst 1, 1) := by decide +kernel
theorem dX11_depthAfter_61 : decode cX11_depthAfter 61 = .ok (.goto 4, 3) := by decide +kernel
theorem dX11_depthAfter_64 : decode cX11_depthAfter 64 = .ok (.iconst 0, 1) := by decide +kernel
theorem dX11_depthAfter_65 : decode cX11_depthAfter 65 = .ok (.iadd, 1) := by decide +kernel
theorem dX11_depthAfter_66 : decode cX11_depthAfter 66 = .ok (.istore_n 3, 1) := by decide +kernel
theorem dX11_depthAfter_67 : decode cX11_depthAfter 67 = .ok (.iinc 4 1, 3) := by decide +kernel
theorem dX11_depthAfter_70 : decode cX11_depthAfter 70 = .ok (.goto (-54), 3) := by decide +kernel
theorem dX11_depthAfter_73 : decode cX11_depthAfter 73 = .ok (.iload_n 3, 1) := by decide +kernel
theorem dX11_depthAfter_74 : decode cX11_depthAfter 74 = .ok (.ireturn, 1) := by decide +kernel
theorem lk_X11_depthAfter_f60 : Cond.fieldLink RX11 60 "TreeComparerModel" "wood" "[I" ∈ wsX11_depthAfter := by decide +kernel
theorem hi_X11_depthAfter_11 : ∀ w ∈ u_ws RX11 TX11 24, w ∈ wsX11_depthAfter := by decide +kernel
theorem lk_X11_depthAfter_f22 : Cond.fieldLink RX11 22 "TreeComparerModel" "size" "[I" ∈ wsX11_depthAfter := by decide +kernel
theorem lk_X11_depthAfter_f185 : Cond.fieldLink RX11 185 "TreeComparerModel" "woodTree" "I" ∈ wsX11_depthAfter := by decide +kernel
def wpj_X11_depthAfter_65 (p0 : Int) (p1 : Int) (x4 : Int) (s0 : Int) (s1 : Int) (M : Mem) (J16 : Int → Int → Mem → Prop) (Q : Int → Mem → Prop) : Prop := (∀ y15 : Int, y15 = s1 + s0 → J16 y15 (x4 + 1) M)
def wph_X11_depthAfter_16 (p0 : Int) (p1 : Int) (x3 : Int) (x4 : Int) (M : Mem) (J16 : Int → Int → Mem → Prop) (Q : Int → Mem → Prop) : Prop := inR x4 ∧ inR p1 ∧ ((p1 ≤ x4 → Q x3 M) ∧ (¬ (p1 ≤ x4) → ((0 : Int) ≤ x4 ∧ x4 < 12) ∧ ((0 : Int) ≤ x4 ∧ x4 < 12) ∧ ((0 : Int) ≤ (12 * (M 13 20 0)) + (M 13 18 x4.toNat) ∧ (12 * (M 13 20 0)) + (M 13 18 x4.toNat) < 24) ∧ ((0 : Int) ≤ p1 ∧ p1 < 12) ∧ inR ((M 13 18 x4.toNat) + (M 13 4 ((12 * (M 13 20 0)) + (M 13 18 x4.toNat)).toNat)) ∧ inR (M 13 18 p1.toNat) ∧ (((M 13 18 x4.toNat) + (M 13 4 ((12 * (M 13 20 0)) + (M 13 18 x4.toNat)).toNat) ≤ (M 13 18 p1.toNat) → wpj_X11_depthAfter_65 p0 p1 x4 0 x3 M J16 Q) ∧ (¬ ((M 13 18 x4.toNat) + (M 13 4 ((12 * (M 13 20 0)) + (M 13 18 x4.toNat)).toNat) ≤ (M 13 18 p1.toNat)) → wpj_X11_depthAfter_65 p0 p1 x4 1 x3 M J16 Q))))
def wpe_X11_depthAfter (p0 : Int) (p1 : Int) (M : Mem) (J16 : Int → Int → Mem → Prop) (Q : Int → Mem → Prop) : Prop := wp_X11_isGrown M p0 p1 (fun y1 M2 => inR y1 ∧ ((y1 ≠ 0 → J16 0 0 M2) ∧ (¬ (y1 ≠ 0) → Q 0 M2)))
def wp_X11_depthAfter (M : Mem) (p0 : Int) (p1 : Int) (Q : Int → Mem → Prop) : Prop := ∃ (I16 : Nat → Int → Int → Mem → Prop), wpe_X11_depthAfter p0 p1 M (fun (x3 : Int) (x4 : Int) (M1 : Mem) => ∃ n1 : Nat, I16 n1 x3 x4 M1) Q ∧ (∀ (n : Nat) (x3 : Int) (x4 : Int) (M : Mem), I16 n x3 x4 M → wph_X11_depthAfter_16 p0 p1 x3 x4 M (fun (x3 : Int) (x4 : Int) (M1 : Mem) => ∃ n1 : Nat, n1 < n ∧ I16 n1 x3 x4 M1) Q)
set_option maxHeartbeats 4000000 in
set_option maxRecDepth 100000 in
theorem wkj_X11_depthAfter_65 {p : Program} {l : Launch} {e : Env} {s : State} {m : MethodId} {args : Array Value} {below : List Frame} {meth : Method} {c : Code} {D : va_G} {g : GT} {A : Nat → Prop} {a : Nat → Nat} {b : Nat → Nat → Nat} (X : vC p s m args meth c D g A RX11 wsX11_depthAfter cX11_depthAfter 5) (hr : meth.sig.returnType = (some .int)) {p0 : Int} {p1 : Int} {x4 : Int} {s0 : Int} {s1 : Int} {M : Mem} {J16 : Int → Int → Mem → Prop} {Q : Int → Mem → Prop} (hJ16 : ∀ (x3 : Int) (x4 : Int) (M : Mem), J16 x3 x4 M → vV p l e ({ frames := 7, cells := 0, slots := 0, locals := 171 } : Room) s m args below meth c D g A a b 5 0 0 (MQ below (cQi D g A a b Q) args s 0 0 A) M [(0, .ref (a 13)), (2, iv p1), (3, iv x3), (4, iv x4)] 16 []) (hw : wpj_X11_depthAfter_65 p0 p1 x4 s0 s1 M J16 Q) : vV p l e ({ frames := 7, cells := 0, slots := 0, locals := 171 } : Room) s m args below meth c D g A a b 5 0 0 (MQ below (cQi D g A a b Q) args s 0 0 A) M [(0, .ref (a 13)), (2, iv p1), (4, iv x4)] 65 [iv s0, iv s1] := by
  unfold wpj_X11_depthAfter_65 at hw
  refine V_iadd X dX11_depthAfter_65 ?_
  refine V_top (fun y15 ey15 => ?_)
  have hw := hw y15 ey15
  refine V_istore_n (lv1 := [(0, .ref (a 13)), (2, iv p1), (3, iv y15), (4, iv x4)]) X [1, 2, 0, 3] dX11_depthAfter_66 rfl (by decide) rfl ?_
  refine V_iinc (lv1 := [(0, .ref (a 13)), (2, iv p1), (3, iv y15), (4, iv (x4 + 1))]) X [1, 2, 3, 0] dX11_depthAfter_67 (q := 3) rfl (by decide) rfl ?_
  refine V_goto (tgt := 16) X dX11_depthAfter_70 (by decide) ?_
  exact hJ16 _ _ _ hw
set_option maxHeartbeats 4000000 in
set_option maxRecDepth 100000 in
theorem wkh_X11_depthAfter_16 {p : Program} {l : Launch} {e : Env} {s : State} {m : MethodId} {args : Array Value} {below : List Frame} {meth : Method} {c : Code} {D : va_G} {g : GT} {A : Nat → Prop} {a : Nat → Nat} {b : Nat → Nat → Nat} (X : vC p s m args meth c D g A RX11 wsX11_depthAfter cX11_depthAfter 5) (hr : meth.sig.returnType = (some .int)) {p0 : Int} {p1 : Int} {x3 : Int} {x4 : Int} {M : Mem} {J16 : Int → Int → Mem → Prop} {Q : Int → Mem → Prop} (hJ16 : ∀ (x3 : Int) (x4 : Int) (M : Mem), J16 x3 x4 M → vV p l e ({ frames := 7, cells := 0, slots := 0, locals := 171 } : Room) s m args below meth c D g A a b 5 0 0 (MQ below (cQi D g A a b Q) args s 0 0 A) M [(0, .ref (a 13)), (2, iv p1), (3, iv x3), (4, iv x4)] 16 []) (hw : wph_X11_depthAfter_16 p0 p1 x3 x4 M J16 Q) : vV p l e ({ frames := 7, cells := 0, slots := 0, locals := 171 } : Room) s m args below meth c D g A a b 5 0 0 (MQ below (cQi D g A a b Q) args s 0 0 A) M [(0, .ref (a 13)), (2, iv p1), (3, iv x3), (4, iv x4)] 16 [] := by
  unfold wph_X11_depthAfter_16 at hw
  refine V_iload X dX11_depthAfter_16 (q := 3) rfl ?_
  refine V_iload_n X dX11_depthAfter_18 rfl (q := 1) rfl ?_
  obtain ⟨h5, h6, hw⟩ := hw
  refine V_icmp_ge (tgt := 73) X h5 h6 dX11_depthAfter_19 (by decide) (fun q7 => ?_) (fun q7 => ?_)
  · have hw := hw.1 q7
    refine V_iload_n X dX11_depthAfter_73 rfl (q := 2) rfl ?_
    exact V_iret X hr hw dX11_depthAfter_74
  · have hw := hw.2 q7
    refine V_iload_n X dX11_depthAfter_22 rfl (q := 2) rfl ?_
    refine V_aload_n X dX11_depthAfter_23 rfl (q := 0) rfl ?_
    refine V_get (C := RX11) (T := TX11) (N := 24) (ci := 11) X hi_X11_depthAfter_11 gO_13 rfl 18 (by decide) lk_X11_depthAfter_f60 (fun _ h9 => h9) rfl dX11_depthAfter_24 ?_
    refine V_iload X dX11_depthAfter_27 (q := 3) rfl ?_
    obtain ⟨h8, hw⟩ := hw
    refine V_iald X (gA_13_18) h8 (by decide) dX11_depthAfter_29 ?_
    refine V_aload_n X dX11_depthAfter_30 rfl (q := 0) rfl ?_
    refine V_get (C := RX11) (T := TX11) (N := 24) (ci := 11) X hi_X11_depthAfter_11 gO_13 rfl 4 (by decide) lk_X11_depthAfter_f22 (fun _ h9 => h9) rfl dX11_depthAfter_31 ?_
    refine V_bipush X dX11_depthAfter_34 rfl ?_
    refine V_aload_n X dX11_depthAfter_36 rfl (q := 0) rfl ?_
    refine V_get (C := RX11) (T := TX11) (N := 24) (ci := 11) X hi_X11_depthAfter_11 gO_13 rfl 20 (by decide) lk_X11_depthAfter_f185 (fun _ h9 => h9) rfl dX11_depthAfter_37 ?_
    refine V_imul X dX11_depthAfter_40 ?_
    refine V_aload_n X dX11_depthAfter_41 rfl (q := 0) rfl ?_
    refine V_get (C := RX11) (T := TX11) (N := 24) (ci := 11) X hi_X11_depthAfter_11 gO_13 rfl 18 (by decide) lk_X11_depthAfter_f60 (fun _ h9 => h9) rfl dX11_depthAfter_42 ?_
    refine V_iload X dX11_depthAfter_45 (q := 3) rfl ?_
    obtain ⟨h9, hw⟩ := hw
    refine V_iald X (gA_13_18) h9 (by decide) dX11_depthAfter_47 ?_
    refine V_iadd X dX11_depthAfter_48 ?_
    obtain ⟨h10, hw⟩ := hw
    refine V_iald X (gA_13_4) h10 (by decide) dX11_depthAfter_49 ?_
    refine V_iadd X dX11_depthAfter_50 ?_
    refine V_aload_n X dX11_depthAfter_51 rfl (q := 0) rfl ?_
    refine V_get (C := RX11) (T := TX11) (N := 24) (ci := 11) X hi_X11_depthAfter_11 gO_13 rfl 18 (by decide) lk_X11_depthAfter_f60 (fun _ h9 => h9) rfl dX11_depthAfter_52 ?_
    refine V_iload_n X dX11_depthAfter_55 rfl (q := 1) rfl ?_
    obtain ⟨h11, hw⟩ := hw
    refine V_iald X (gA_13_18) h11 (by decide) dX11_depthAfter_56 ?_
    obtain ⟨h12, h13, hw⟩ := hw
    refine V_icmp_le (tgt := 64) X h12 h13 dX11_depthAfter_57 (by decide) (fun q14 => ?_) (fun q14 => ?_)
    · have hw := hw.1 q14
      refine V_iconst X dX11_depthAfter_64 ?_
      refine V_sub (lv1 := [(0, .ref (a 13)), (2, iv p1), (4, iv x4)]) [0, 1, 3] rfl ?_
      exact wkj_X11_depthAfter_65 X hr hJ16 hw
    · have hw := hw.2 q14
      refine V_iconst X dX11_depthAfter_60 ?_
      refine V_goto (tgt := 65) X dX11_depthAfter_61 (by decide) ?_
      refine V_sub (lv1 := [(0, .ref (a 13)), (2, iv p1), (4, iv x4)]) [0, 1, 3] rfl ?_
      exact wkj_X11_depthAfter_65 X hr hJ16 hw
set_option maxHeartbeats 4000000 in
set_option maxRecDepth 100000 in
theorem wke_X11_depthAfter {p : Program} {l : Launch} {e : Env} {s : State} {m : MethodId} {args : Array Value} {below : List Frame} {meth : Method} {c : Code} {D : va_G} {g : GT} {A : Nat → Prop} {a : Nat → Nat} {b : Nat → Nat → Nat} (X : vC p s m args meth c D g A RX11 wsX11_depthAfter cX11_depthAfter 5) (hr : meth.sig.returnType = (some .int)) {p0 : Int} {p1 : Int} {M : Mem} {J16 : Int → Int → Mem → Prop} {Q : Int → Mem → Prop} (hJ16 : ∀ (x3 : Int) (x4 : Int) (M : Mem), J16 x3 x4 M → vV p l e ({ frames := 7, cells := 0, slots := 0, locals := 171 } : Room) s m args below meth c D g A a b 5 0 0 (MQ below (cQi D g A a b Q) args s 0 0 A) M [(0, .ref (a 13)), (2, iv p1), (3, iv x3), (4, iv x4)] 16 []) (hw : wpe_X11_depthAfter p0 p1 M J16 Q) : vV p l e ({ frames := 7, cells := 0, slots := 0, locals := 171 } : Room) s m args below meth c D g A a b 5 0 0 (MQ below (cQi D g A a b Q) args s 0 0 A) M [(0, .ref (a 13)), (1, iv p0), (2, iv p1)] 0 [] := by
  unfold wpe_X11_depthAfter at hw
  refine V_aload_n X dX11_depthAfter_0 rfl (q := 0) rfl ?_
  refine V_iload_n X dX11_depthAfter_1 rfl (q := 1) rfl ?_
  refine V_iload_n X dX11_depthAfter_2 rfl (q := 2) rfl ?_
  refine V_callV_i X _ gO_13 rfl (As := [iv p0, iv p1]) (st := []) (c_X11_isGrown l hw) (cwV 2 X.2.2.2.1 gX11_depthAfter_X11_isGrown rfl rfl rfl (by decide +kernel) ⟨Nat.le_of_ble_eq_true rfl, Nat.le_of_ble_eq_true rfl⟩) rfl (Nat.le_of_ble_eq_true rfl) ⟨Nat.le_of_ble_eq_true rfl, Nat.le_of_ble_eq_true rfl⟩ rfl dX11_depthAfter_3 (fun y1 M2 hw => ?_)
  obtain ⟨h3, hw⟩ := hw
  refine V_if_ne (tgt := 11) X h3 dX11_depthAfter_6 (by decide) (fun q4 => ?_) (fun q4 => ?_)
  · have hw := hw.1 q4
    refine V_iconst X dX11_depthAfter_11 ?_
    refine V_istore_n (lv1 := [(0, .ref (a 13)), (1, iv p0), (2, iv p1), (3, iv 0)]) X [1, 2, 3, 0] dX11_depthAfter_12 rfl (by decide) rfl ?_
    refine V_iconst X dX11_depthAfter_13 ?_
    refine V_istore (lv1 := [(0, .ref (a 13)), (1, iv p0), (2, iv p1), (3, iv 0), (4, iv 0)]) X [1, 2, 3, 4, 0] dX11_depthAfter_14 (by decide) rfl ?_
    refine V_sub (lv1 := [(0, .ref (a 13)), (2, iv p1), (3, iv 0), (4, iv 0)]) [0, 2, 3, 4] rfl ?_
    exact hJ16 _ _ _ hw
  · have hw := hw.2 q4
    refine V_iconst X dX11_depthAfter_9 ?_
    exact V_iret X hr hw dX11_depthAfter_10
set_option maxHeartbeats 4000000 in
set_option maxRecDepth 100000 in
theorem c_X11_depthAfter (l : Launch) {p0 : Int} {p1 : Int} {D : va_G} {g : GT} {A : Nat → Prop} {a : Nat → Nat} {b : Nat → Nat → Nat} {M : Mem} {Q : Int → Mem → Prop} (hw : wp_X11_depthAfter M p0 p1 Q) : Met l yX11_depthAfter wsX11_depthAfter ({ frames := 7, cells := 0, slots := 0, locals := 171 } : Room) (cPc D g A a b M [.ref (a 13), iv p0, iv p1]) (cQi D g A a b Q) 0 0 A := by
  refine Met.ofW (cc := cX11_depthAfter) (maxL := 5) (ret := (some .int)) (by decide) rfl ?_
  intro p e s m args below meth c s₁ B hml hv
  obtain ⟨rfl, hP, hD, hG⟩ := hv
  have X : vC p s m _ meth c D g A RX11 wsX11_depthAfter cX11_depthAfter 5 := ⟨B.exec, B.bytes, findClass_of_methodNamed B.named, atoms_spec (ws := wsX11_depthAfter) B.pre, hG, hml, B.notSynchronized⟩
  have hr := B.returns
  have hl := lv_entry ([.ref (a 13), iv p0, iv p1]) (n := 5) (Nat.le_of_ble_eq_true rfl)
  rw [lg_entry_eq]
  generalize (lg_sl ([.ref (a 13), iv p0, iv p1]) ++ List.replicate (5 - (lg_sl ([.ref (a 13), iv p0, iv p1])).length) Slot.unset).toArray = ls at hl ⊢
  have hl : lv_has ls 5 [(0, .ref (a 13)), (1, iv p0), (2, iv p1)] := hl
  obtain ⟨I16, hw, hI16⟩ := hw
  have K : ∀ n : Nat, (∀ (x3 : Int) (x4 : Int) (M : Mem), I16 n x3 x4 M → vV p l e ({ frames := 7, cells := 0, slots := 0, locals := 171 } : Room) s m ([.ref (a 13), iv p0, iv p1] : List Value).toArray below meth c D g A a b 5 0 0 (MQ below (cQi D g A a b Q) ([.ref (a 13), iv p0, iv p1] : List Value).toArray s 0 0 A) M [(0, .ref (a 13)), (2, iv p1), (3, iv x3), (4, iv x4)] 16 []) := by
    intro n
    induction n using Nat.strongRecOn with
    | ind n ih =>
      exact fun x3 x4 M hh => wkh_X11_depthAfter_16 X hr (fun _ _ _ ⟨n1, hn, hh⟩ => (ih n1 hn) _ _ _ hh) (hI16 n x3 x4 M hh)
  exact wke_X11_depthAfter X hr  (fun _ _ _ ⟨n1, hh⟩ => (K n1) _ _ _ hh) hw s.heap [] ls hP hD va_S.rf hl

set_option maxRecDepth 20000 in
theorem ggX10_canBePaired_X10_needNodes : GoodIn wsX10_canBePaired wsX10_needNodes := goodIn_ca (goodIn_r _ [9, 1, 10, 11, 8, 12, 13, 14, 96, 97, 98, 99, 100, 101, 102, 103, 104, 105, 106, 107, 108, 109, 110, 111, 112, 113, 114, 115, 116, 117, 118, 119] (by decide +kernel) (by decide +kernel)) (goodIn_sub (fun _ h => List.mem_cons_of_mem _ (List.mem_append_right _ h)) (by decide +kernel))
set_option maxRecDepth 20000 in
theorem gX10_canBePaired_X10_needNodes : GoodIn wsX10_canBePaired (wsV RX10 189 RX10 yX10_needNodes wsX10_needNodes) := goodIn_app (goodIn_of _ (by decide +kernel)) ggX10_canBePaired_X10_needNodes
set_option maxRecDepth 20000 in
theorem ggX10_canBePaired_X10_distance : GoodIn wsX10_canBePaired wsX10_distance := goodIn_r _ [18, 2, 3, 19, 20, 21, 22, 23, 24, 25, 26, 27, 28, 29, 30, 31, 32, 33, 34, 35, 36, 37, 38, 39, 40, 41, 42, 43, 44, 45, 46, 47, 48, 49, 50, 51, 52, 53, 54, 55, 56, 57, 58, 59, 60, 61, 62, 63, 64, 65, 66, 67, 68, 69, 70, 71, 72, 73, 74, 75, 76, 77, 78, 79, 80, 81, 82, 83, 84, 85, 86, 96, 97, 98, 99, 100, 101, 102, 103, 104, 120, 121, 122, 123, 105, 106, 107, 108, 109, 110, 124, 125, 126, 127, 128, 129, 111, 112, 113, 114, 115, 116, 117, 118, 119, 130, 131, 132] (by decide +kernel) (by decide +kernel)
set_option maxRecDepth 20000 in
theorem gX10_canBePaired_X10_distance : GoodIn wsX10_canBePaired (wsV RX10 200 RX10 yX10_distance wsX10_distance) := goodIn_app (goodIn_of _ (by decide +kernel)) ggX10_canBePaired_X10_distance
set_option maxRecDepth 20000 in
theorem ggX10_canBePaired_X9_postPlace : GoodIn wsX10_canBePaired wsX9_postPlace := goodIn_r _ [89, 46, 90, 91, 111, 112, 113, 114, 115, 116, 117, 118, 119] (by decide +kernel) (by decide +kernel)
set_option maxRecDepth 20000 in
theorem gX10_canBePaired_X9_postPlace_n192 : GoodIn wsX10_canBePaired (wsX9_postPlace) := ggX10_canBePaired_X9_postPlace
set_option maxRecDepth 20000 in
theorem ggX10_canBePaired_X3_favour : GoodIn wsX10_canBePaired wsX3_favour := goodIn_r _ [94, 30, 95, 120, 121, 122, 123] (by decide +kernel) (by decide +kernel)
set_option maxRecDepth 20000 in
theorem gX10_canBePaired_X3_favour_n213 : GoodIn wsX10_canBePaired (wsX3_favour) := ggX10_canBePaired_X3_favour
set_option maxRecDepth 20000 in
theorem ggX10_canBePaired_X2_solve : GoodIn wsX10_canBePaired wsX2_solve := goodIn_r _ [58, 59, 60, 61, 62, 56, 63, 64, 65, 66, 67, 68, 69, 70, 71, 72, 73, 130, 131, 132, 120, 121, 122, 123, 124, 125, 126, 127, 128, 129] (by decide +kernel) (by decide +kernel)
set_option maxRecDepth 20000 in
theorem gX10_canBePaired_X2_solve_n167 : GoodIn wsX10_canBePaired (wsX2_solve) := ggX10_canBePaired_X2_solve
set_option maxRecDepth 20000 in
theorem ggX10_canBePaired_X2_whole : GoodIn wsX10_canBePaired wsX2_whole := goodIn_r _ [76, 59, 77, 20, 78, 79, 27, 29, 80, 32, 81, 82, 40, 83, 84, 85, 56, 86, 73, 130, 131, 132, 120, 121, 122, 123, 124, 125, 126, 127, 128, 129] (by decide +kernel) (by decide +kernel)
set_option maxRecDepth 20000 in
theorem gX10_canBePaired_X2_whole_n170 : GoodIn wsX10_canBePaired (wsX2_whole) := ggX10_canBePaired_X2_whole
theorem dX10_canBePaired_0 : decode cX10_canBePaired 0 = .ok (.aload_n 0, 1) := by decide +kernel
theorem dX10_canBePaired_1 : decode cX10_canBePaired 1 = .ok (.iload_n 1, 1) := by decide +kernel
theorem dX10_canBePaired_2 : decode cX10_canBePaired 2 = .ok (.iload_n 2, 1) := by decide +kernel
theorem dX10_canBePaired_3 : decode cX10_canBePaired 3 = .ok (.invokevirtual 189, 3) := by decide +kernel
theorem dX10_canBePaired_6 : decode cX10_canBePaired 6 = .ok (.aload_n 0, 1) := by decide +kernel
theorem dX10_canBePaired_7 : decode cX10_canBePaired 7 = .ok (.getfield 10, 3) := by decide +kernel
theorem dX10_canBePaired_10 : decode cX10_canBePaired 10 = .ok (.getfield 123, 3) := by decide +kernel
theorem dX10_canBePaired_13 : decode cX10_canBePaired 13 = .ok (.getfield 145, 3) := by decide +kernel
theorem dX10_canBePaired_16 : decode cX10_canBePaired 16 = .ok (.iload_n 1, 1) := by decide +kernel
theorem dX10_canBePaired_17 : decode cX10_canBePaired 17 = .ok (.iaload, 1) := by decide +kernel
theorem dX10_canBePaired_18 : decode cX10_canBePaired 18 = .ok (.aload_n 0, 1) := by decide +kernel
theorem dX10_canBePaired_19 : decode cX10_canBePaired 19 = .ok (.getfield 10, 3) := by decide +kernel
theorem dX10_canBePaired_22 : decode cX10_canBePaired 22 = .ok (.getfield 127, 3) := by decide +kernel
theorem dX10_canBePaired_25 : decode cX10_canBePaired 25 = .ok (.getfield 145, 3) := by decide +kernel
theorem dX10_canBePaired_28 : decode cX10_canBePaired 28 = .ok (.iload_n 2, 1) := by decide +kernel
theorem dX10_canBePaired_29 : decode cX10_canBePaired 29 = .ok (.iaload, 1) := by decide +kernel
theorem dX10_canBePaired_30 : decode cX10_canBePaired 30 = .ok (.if_icmp .eq 5, 3) := by decide +kernel
theorem dX10_canBePaired_33 : decode cX10_canBePaired 33 = .ok (.iconst 0, 1) := by decide +kernel
theorem dX10_canBePaired_34 : decode cX10_canBePaired 34 = .ok (.ireturn, 1) := by decide +kernel
theorem dX10_canBePaired_35 : decode cX10_canBePaired 35 = .ok (.aload_n 0, 1) := by decide +kernel
theorem dX10_canBePaired_36 : decode cX10_canBePaired 36 = .ok (.invokevirtual 200, 3) := by decide +kernel
theorem dX10_canBePaired_39 : decode cX10_canBePaired 39 = .ok (.istore_n 3, 1) := by decide +kernel
theorem dX10_canBePaired_40 : decode cX10_canBePaired 40 = .ok (.aload_n 0, 1) := by decide +kernel
theorem dX10_canBePaired_41 : decode cX10_canBePaired 41 = .ok (.getfield 21, 3) := by decide +kernel
theorem dX10_canBePaired_44 : decode cX10_canBePaired 44 = .ok (.aload_n 0, 1) := by decide +kernel
theorem dX10_canBePaired_45 : decode cX10_canBePaired 45 = .ok (.getfield 10, 3) := by decide +kernel
theorem dX10_canBePaired_48 : decode cX10_canBePaired 48 = .ok (.getfield 123, 3) := by decide +kernel
theorem dX10_canBePaired_51 : decode cX10_canBePaired 51 = .ok (.iload_n 1, 1) := by decide +kernel
theorem dX10_canBePaired_52 : decode cX10_canBePaired 52 = .ok (.invokevirtual 192, 3) := by decide +kernel
theorem dX10_canBePaired_55 : decode cX10_canBePaired 55 = .ok (.aload_n 0, 1) := by decide +kernel
theorem dX10_canBePaired_56 : decode cX10_canBePaired 56 = .ok (.getfield 10, 3) := by decide +kernel
theorem dX10_canBePaired_59 : decode cX10_canBePaired 59 = .ok (.getfield 127, 3) := by decide +kernel
theorem dX10_canBePaired_62 : decode cX10_canBePaired 62 = .ok (.iload_n 2, 1) := by decide +kernel
theorem dX10_canBePaired_63 : decode cX10_canBePaired 63 = .ok (.invokevirtual 192, 3) := by decide +kernel
theorem dX10_canBePaired_66 : decode cX10_canBePaired 66 = .ok (.invokevirtual 213, 3) := by decide +kernel
theorem dX10_canBePaired_69 : decode cX10_canBePaired 69 = .ok (.aload_n 0, 1) := by decide +kernel
theorem dX10_canBePaired_70 : decode cX10_canBePaired 70 = .ok (.getfield 30, 3) := by decide +kernel
theorem dX10_canBePaired_73 : decode cX10_canBePaired 73 = .ok (.invokevirtual 167, 3) := by decide +kernel
theorem dX10_canBePaired_76 : decode cX10_canBePaired 76 = .ok (.aload_n 0, 1) := by decide +kernel
theorem dX10_canBePaired_77 : decode cX10_canBePaired 77 = .ok (.getfield 30, 3) := by decide +kernel
theorem dX10_canBePaired_80 : decode cX10_canBePaired 80 = .ok (.invokevirtual 170, 3) := by decide +kernel
theorem dX10_canBePaired_83 : decode cX10_canBePaired 83 = .ok (.ldc 216, 2) := by decide +kernel
theorem dX10_canBePaired_85 : decode cX10_canBePaired 85 = .ok (.iadd, 1) := by decide +kernel
theorem dX10_canBePaired_86 : decode cX10_canBePaired 86 = .ok (.iload_n 3, 1) := by decide +kernel
theorem dX10_canBePaired_87 : decode cX10_canBePaired 87 = .ok (.if_icmp .ne 7, 3) := by decide +kernel
theorem dX10_canBePaired_90 : decode cX10_canBePaired 90 = .ok (.iconst 1, 1) := by decide +kernel
theorem dX10_canBePaired_91 : decode cX10_canBePaired 91 = .ok (.goto 4, 3) := by decide +kernel
theorem dX10_canBePaired_94 : decode cX10_canBePaired 94 = .ok (.iconst 0, 1) := by decide +kernel
theorem dX10_canBePaired_95 : decode cX10_canBePaired 95 = .ok (.ireturn, 1) := by decide +kernel
theorem lk_X10_canBePaired_f10 : Cond.fieldLink RX10 10 "TreeComparer" "given" "LTreeComparer$Given;" ∈ wsX10_canBePaired := by decide +kernel
theorem hi_X10_canBePaired_10 : ∀ w ∈ u_ws RX10 TX10 9, w ∈ wsX10_canBePaired := by decide +kernel
theorem hi_X10_canBePaired_1 : ∀ w ∈ u_ws RX1 TX1 6, w ∈ wsX10_canBePaired := by decide +kernel
theorem hi_X10_canBePaired_9 : ∀ w ∈ u_ws RX9 TX9 9, w ∈ wsX10_canBePaired := by decide +kernel
theorem lk_X10_canBePaired_f21 : Cond.fieldLink RX10 21 "TreeComparer" "layout" "LTreeComparer$Layout;" ∈ wsX10_canBePaired := by decide +kernel
theorem lk_X10_canBePaired_i9 : Cond.initialized RX9 ∈ wsX10_canBePaired := by decide +kernel
theorem lk_X10_canBePaired_im192 : Cond.instanceMethod yX9_postPlace ∈ wsX10_canBePaired := by decide +kernel
theorem lk_X10_canBePaired_se192 : Cond.selects RX9 yX9_postPlace yX9_postPlace ∈ wsX10_canBePaired := by decide +kernel
theorem lk_X10_canBePaired_i3 : Cond.initialized RX3 ∈ wsX10_canBePaired := by decide +kernel
theorem lk_X10_canBePaired_im213 : Cond.instanceMethod yX3_favour ∈ wsX10_canBePaired := by decide +kernel
theorem lk_X10_canBePaired_se213 : Cond.selects RX3 yX3_favour yX3_favour ∈ wsX10_canBePaired := by decide +kernel
theorem lk_X10_canBePaired_f30 : Cond.fieldLink RX10 30 "TreeComparer" "keyroots" "LTreeComparer$KeyrootTable;" ∈ wsX10_canBePaired := by decide +kernel
theorem lk_X10_canBePaired_i2 : Cond.initialized RX2 ∈ wsX10_canBePaired := by decide +kernel
theorem lk_X10_canBePaired_im167 : Cond.instanceMethod yX2_solve ∈ wsX10_canBePaired := by decide +kernel
theorem lk_X10_canBePaired_se167 : Cond.selects RX2 yX2_solve yX2_solve ∈ wsX10_canBePaired := by decide +kernel
theorem lk_X10_canBePaired_im170 : Cond.instanceMethod yX2_whole ∈ wsX10_canBePaired := by decide +kernel
theorem lk_X10_canBePaired_se170 : Cond.selects RX2 yX2_whole yX2_whole ∈ wsX10_canBePaired := by decide +kernel
theorem lk_X10_canBePaired_c216 : Cond.constant RX10 216 (1000000) ∈ wsX10_canBePaired := by decide +kernel
def wpe_X10_canBePaired (p0 : Int) (p1 : Int) (M : Mem) (Q : Int → Mem → Prop) (XQ : String → Mem → Prop) : Prop := wp_X10_needNodes M p0 p1 (fun M2 => ((0 : Int) ≤ p0 ∧ p0 < 12) ∧ ((0 : Int) ≤ p1 ∧ p1 < 12) ∧ inR (M2 11 0 p0.toNat) ∧ inR (M2 12 0 p1.toNat) ∧ (((M2 11 0 p0.toNat) = (M2 12 0 p1.toNat) → wp_X10_distance M2 (fun y8 M9 => wp_X9_postPlace M9 11 p0 (fun y10 M11 => wp_X9_postPlace M11 12 p1 (fun y12 M13 => wp_X3_favour M13 y10 y12 (fun M15 => wp_X2_solve M15 (fun M17 => wp_X2_whole M17 (fun y18 M19 => inR (y18 + 1000000) ∧ inR y8 ∧ ((y18 + 1000000 ≠ y8 → Q 0 M19) ∧ (¬ (y18 + 1000000 ≠ y8) → Q 1 M19))))))))) ∧ (¬ ((M2 11 0 p0.toNat) = (M2 12 0 p1.toNat)) → Q 0 M2))) XQ
def wp_X10_canBePaired (M : Mem) (p0 : Int) (p1 : Int) (Q : Int → Mem → Prop) (XQ : String → Mem → Prop) : Prop := wpe_X10_canBePaired p0 p1 M Q XQ
set_option maxHeartbeats 4000000 in
set_option maxRecDepth 100000 in
theorem wke_X10_canBePaired {p : Program} {l : Launch} {e : Env} {s : State} {m : MethodId} {args : Array Value} {below : List Frame} {meth : Method} {c : Code} {D : va_G} {g : GT} {A : Nat → Prop} {a : Nat → Nat} {b : Nat → Nat → Nat} (X : vC p s m args meth c D g A RX10 wsX10_canBePaired cX10_canBePaired 4) (hr : meth.sig.returnType = (some .boolean)) {p0 : Int} {p1 : Int} (hlt : l.stackTraces = false) (htab : ∀ x ∈ c.exceptionTable.toList, False) {M : Mem} {Q : Int → Mem → Prop} {XQ : String → Mem → Prop} (hw : wpe_X10_canBePaired p0 p1 M Q XQ) : vV p l e ({ frames := 8, cells := 2, slots := 12, locals := 142 } : Room) s m args below meth c D g A a b 4 0 0 (vx_MQ below (cQi D g A a b Q) (cX D g A a b XQ) args s 2 12 A) M [(0, .ref (a 0)), (1, iv p0), (2, iv p1)] 0 [] := by
  unfold wpe_X10_canBePaired at hw
  refine V_aload_n X dX10_canBePaired_0 rfl (q := 0) rfl ?_
  refine V_iload_n X dX10_canBePaired_1 rfl (q := 1) rfl ?_
  refine V_iload_n X dX10_canBePaired_2 rfl (q := 2) rfl ?_
  refine V_callxV_v X _ _ gO_0 rfl (As := [iv p0, iv p1]) (st := []) (c_X10_needNodes l hlt hw) (cwV 2 X.2.2.2.1 gX10_canBePaired_X10_needNodes rfl rfl rfl (by decide +kernel) ⟨Nat.le_of_ble_eq_true rfl, Nat.le_of_ble_eq_true rfl⟩) rfl (Nat.le_of_ble_eq_true rfl) ⟨Nat.le_of_ble_eq_true rfl, Nat.le_of_ble_eq_true rfl⟩ rfl dX10_canBePaired_3 (fun E ce q9 M9 H9 locs9 ls9 hx9 hP9 hD9 hS9 hl9 h91 h92 h93 => V_xout X htab (Nat.le_of_ble_eq_true rfl) (Nat.le_of_ble_eq_true rfl) hx9 hP9 hD9 hS9 h91 h92 h93) (fun M2 hw => ?_)
  refine V_aload_n X dX10_canBePaired_6 rfl (q := 0) rfl ?_
  refine V_get (C := RX10) (T := TX10) (N := 9) (ci := 10) X hi_X10_canBePaired_10 gO_0 rfl 0 (by decide) lk_X10_canBePaired_f10 (fun _ h9 => h9) rfl dX10_canBePaired_7 ?_
  refine V_getN (C := RX1) (T := TX1) (N := 6) (ci := 1) X hi_X10_canBePaired_1 gO_1 rfl 4 (by decide) (List.mem_of_getElem? (i := 38) rfl) (fun _ h9 => h9) rfl dX10_canBePaired_10 ?_
  refine V_getN (C := RX9) (T := TX9) (N := 9) (ci := 9) X hi_X10_canBePaired_9 gO_11 rfl 0 (by decide) (List.mem_of_getElem? (i := 3) rfl) (fun _ h9 => h9) rfl dX10_canBePaired_13 ?_
  refine V_iload_n X dX10_canBePaired_16 rfl (q := 1) rfl ?_
  obtain ⟨h3, hw⟩ := hw
  refine V_iald X (gA_11_0) h3 (by decide) dX10_canBePaired_17 ?_
  refine V_aload_n X dX10_canBePaired_18 rfl (q := 0) rfl ?_
  refine V_get (C := RX10) (T := TX10) (N := 9) (ci := 10) X hi_X10_canBePaired_10 gO_0 rfl 0 (by decide) lk_X10_canBePaired_f10 (fun _ h9 => h9) rfl dX10_canBePaired_19 ?_
  refine V_getN (C := RX1) (T := TX1) (N := 6) (ci := 1) X hi_X10_canBePaired_1 gO_1 rfl 5 (by decide) (List.mem_of_getElem? (i := 42) rfl) (fun _ h9 => h9) rfl dX10_canBePaired_22 ?_
  refine V_getN (C := RX9) (T := TX9) (N := 9) (ci := 9) X hi_X10_canBePaired_9 gO_12 rfl 0 (by decide) (List.mem_of_getElem? (i := 3) rfl) (fun _ h9 => h9) rfl dX10_canBePaired_25 ?_
  refine V_iload_n X dX10_canBePaired_28 rfl (q := 2) rfl ?_
  obtain ⟨h4, hw⟩ := hw
  refine V_iald X (gA_12_0) h4 (by decide) dX10_canBePaired_29 ?_
  obtain ⟨h5, h6, hw⟩ := hw
  refine V_icmp_eq (tgt := 35) X h5 h6 dX10_canBePaired_30 (by decide) (fun q7 => ?_) (fun q7 => ?_)
  · have hw := hw.1 q7
    refine V_aload_n X dX10_canBePaired_35 rfl (q := 0) rfl ?_
    refine V_callV_i X _ gO_0 rfl (As := []) (st := []) (c_X10_distance l hw) (cwV 0 X.2.2.2.1 gX10_canBePaired_X10_distance rfl rfl rfl (by decide +kernel) ⟨Nat.le_of_ble_eq_true rfl, Nat.le_of_ble_eq_true rfl⟩) rfl (Nat.le_of_ble_eq_true rfl) ⟨Nat.le_of_ble_eq_true rfl, Nat.le_of_ble_eq_true rfl⟩ rfl dX10_canBePaired_36 (fun y8 M9 hw => ?_)
    refine V_istore_n (lv1 := [(0, .ref (a 0)), (1, iv p0), (2, iv p1), (3, iv y8)]) X [1, 2, 3, 0] dX10_canBePaired_39 rfl (by decide) rfl ?_
    refine V_aload_n X dX10_canBePaired_40 rfl (q := 0) rfl ?_
    refine V_get (C := RX10) (T := TX10) (N := 9) (ci := 10) X hi_X10_canBePaired_10 gO_0 rfl 1 (by decide) lk_X10_canBePaired_f21 (fun _ h9 => h9) rfl dX10_canBePaired_41 ?_
    refine V_aload_n X dX10_canBePaired_44 rfl (q := 0) rfl ?_
    refine V_get (C := RX10) (T := TX10) (N := 9) (ci := 10) X hi_X10_canBePaired_10 gO_0 rfl 0 (by decide) lk_X10_canBePaired_f10 (fun _ h9 => h9) rfl dX10_canBePaired_45 ?_
    refine V_getN (C := RX1) (T := TX1) (N := 6) (ci := 1) X hi_X10_canBePaired_1 gO_1 rfl 4 (by decide) (List.mem_of_getElem? (i := 38) rfl) (fun _ h9 => h9) rfl dX10_canBePaired_48 ?_
    refine V_iload_n X dX10_canBePaired_51 rfl (q := 1) rfl ?_
    refine V_callVN_i X _ gO_11 rfl (As := [iv p0]) (st := [.ref (a 2)]) (c_X9_postPlace l (by first | exact Or.inl rfl | exact Or.inr rfl) hw) ⟨va_cnB 1 X.2.2.2.1 gX10_canBePaired_X9_postPlace_n192 rfl rfl rfl (X.2.2.2.2.1.2.1 _ (List.mem_of_getElem? (i := 126) rfl)) (X.2.2.2.1 _ lk_X10_canBePaired_i9) (by decide +kernel) ⟨Nat.le_of_ble_eq_true rfl, Nat.le_of_ble_eq_true rfl⟩, X.2.2.2.1 _ lk_X10_canBePaired_im192, X.2.2.2.1 _ lk_X10_canBePaired_se192⟩ rfl (Nat.le_of_ble_eq_true rfl) ⟨Nat.le_of_ble_eq_true rfl, Nat.le_of_ble_eq_true rfl⟩ rfl dX10_canBePaired_52 (fun y10 M11 hw => ?_)
    refine V_aload_n X dX10_canBePaired_55 rfl (q := 0) rfl ?_
    refine V_get (C := RX10) (T := TX10) (N := 9) (ci := 10) X hi_X10_canBePaired_10 gO_0 rfl 0 (by decide) lk_X10_canBePaired_f10 (fun _ h9 => h9) rfl dX10_canBePaired_56 ?_
    refine V_getN (C := RX1) (T := TX1) (N := 6) (ci := 1) X hi_X10_canBePaired_1 gO_1 rfl 5 (by decide) (List.mem_of_getElem? (i := 42) rfl) (fun _ h9 => h9) rfl dX10_canBePaired_59 ?_
    refine V_iload_n X dX10_canBePaired_62 rfl (q := 2) rfl ?_
    refine V_callVN_i X _ gO_12 rfl (As := [iv p1]) (st := [iv y10, .ref (a 2)]) (c_X9_postPlace l (by first | exact Or.inl rfl | exact Or.inr rfl) hw) ⟨va_cnB 1 X.2.2.2.1 gX10_canBePaired_X9_postPlace_n192 rfl rfl rfl (X.2.2.2.2.1.2.1 _ (List.mem_of_getElem? (i := 126) rfl)) (X.2.2.2.1 _ lk_X10_canBePaired_i9) (by decide +kernel) ⟨Nat.le_of_ble_eq_true rfl, Nat.le_of_ble_eq_true rfl⟩, X.2.2.2.1 _ lk_X10_canBePaired_im192, X.2.2.2.1 _ lk_X10_canBePaired_se192⟩ rfl (Nat.le_of_ble_eq_true rfl) ⟨Nat.le_of_ble_eq_true rfl, Nat.le_of_ble_eq_true rfl⟩ rfl dX10_canBePaired_63 (fun y12 M13 hw => ?_)
    refine V_callVN_v X _ gO_2 rfl (As := [iv y10, iv y12]) (st := []) (c_X3_favour l hw) ⟨va_cnB 2 X.2.2.2.1 gX10_canBePaired_X3_favour_n213 rfl rfl rfl (X.2.2.2.2.1.2.1 _ (List.mem_of_getElem? (i := 128) rfl)) (X.2.2.2.1 _ lk_X10_canBePaired_i3) (by decide +kernel) ⟨Nat.le_of_ble_eq_true rfl, Nat.le_of_ble_eq_true rfl⟩, X.2.2.2.1 _ lk_X10_canBePaired_im213, X.2.2.2.1 _ lk_X10_canBePaired_se213⟩ rfl (Nat.le_of_ble_eq_true rfl) ⟨Nat.le_of_ble_eq_true rfl, Nat.le_of_ble_eq_true rfl⟩ rfl dX10_canBePaired_66 (fun M15 hw => ?_)
    refine V_aload_n X dX10_canBePaired_69 rfl (q := 0) rfl ?_
    refine V_get (C := RX10) (T := TX10) (N := 9) (ci := 10) X hi_X10_canBePaired_10 gO_0 rfl 2 (by decide) lk_X10_canBePaired_f30 (fun _ h9 => h9) rfl dX10_canBePaired_70 ?_
    refine V_callVN_v X _ gO_3 rfl (As := []) (st := []) (c_X2_solve l hw) ⟨va_cnB 0 X.2.2.2.1 gX10_canBePaired_X2_solve_n167 rfl rfl rfl (X.2.2.2.2.1.2.1 _ (List.mem_of_getElem? (i := 99) rfl)) (X.2.2.2.1 _ lk_X10_canBePaired_i2) (by decide +kernel) ⟨Nat.le_of_ble_eq_true rfl, Nat.le_of_ble_eq_true rfl⟩, X.2.2.2.1 _ lk_X10_canBePaired_im167, X.2.2.2.1 _ lk_X10_canBePaired_se167⟩ rfl (Nat.le_of_ble_eq_true rfl) ⟨Nat.le_of_ble_eq_true rfl, Nat.le_of_ble_eq_true rfl⟩ rfl dX10_canBePaired_73 (fun M17 hw => ?_)
    refine V_aload_n X dX10_canBePaired_76 rfl (q := 0) rfl ?_
    refine V_get (C := RX10) (T := TX10) (N := 9) (ci := 10) X hi_X10_canBePaired_10 gO_0 rfl 2 (by decide) lk_X10_canBePaired_f30 (fun _ h9 => h9) rfl dX10_canBePaired_77 ?_
    refine V_callVN_i X _ gO_3 rfl (As := []) (st := []) (c_X2_whole l hw) ⟨va_cnB 0 X.2.2.2.1 gX10_canBePaired_X2_whole_n170 rfl rfl rfl (X.2.2.2.2.1.2.1 _ (List.mem_of_getElem? (i := 100) rfl)) (X.2.2.2.1 _ lk_X10_canBePaired_i2) (by decide +kernel) ⟨Nat.le_of_ble_eq_true rfl, Nat.le_of_ble_eq_true rfl⟩, X.2.2.2.1 _ lk_X10_canBePaired_im170, X.2.2.2.1 _ lk_X10_canBePaired_se170⟩ rfl (Nat.le_of_ble_eq_true rfl) ⟨Nat.le_of_ble_eq_true rfl, Nat.le_of_ble_eq_true rfl⟩ rfl dX10_canBePaired_80 (fun y18 M19 hw => ?_)
    refine V_ldc (x := 1000000) X lk_X10_canBePaired_c216 (by decide) dX10_canBePaired_83 ?_
    refine V_iadd X dX10_canBePaired_85 ?_
    refine V_iload_n X dX10_canBePaired_86 rfl (q := 3) rfl ?_
    obtain ⟨h20, h21, hw⟩ := hw
    refine V_icmp_ne (tgt := 94) X h20 h21 dX10_canBePaired_87 (by decide) (fun q22 => ?_) (fun q22 => ?_)
    · have hw := hw.1 q22
      refine V_iconst X dX10_canBePaired_94 ?_
      exact V_xret (Nat.le_of_ble_eq_true rfl) (Nat.le_of_ble_eq_true rfl) (V_zret X hr (by decide) hw dX10_canBePaired_95)
    · have hw := hw.2 q22
      refine V_iconst X dX10_canBePaired_90 ?_
      refine V_goto (tgt := 95) X dX10_canBePaired_91 (by decide) ?_
      exact V_xret (Nat.le_of_ble_eq_true rfl) (Nat.le_of_ble_eq_true rfl) (V_zret X hr (by decide) hw dX10_canBePaired_95)
  · have hw := hw.2 q7
    refine V_iconst X dX10_canBePaired_33 ?_
    exact V_xret (Nat.le_of_ble_eq_true rfl) (Nat.le_of_ble_eq_true rfl) (V_zret X hr (by decide) hw dX10_canBePaired_34)
set_option maxHeartbeats 4000000 in
set_option maxRecDepth 100000 in
theorem c_X10_canBePaired (l : Launch) {p0 : Int} {p1 : Int} (hlt : l.stackTraces = false) {D : va_G} {g : GT} {A : Nat → Prop} {a : Nat → Nat} {b : Nat → Nat → Nat} {M : Mem} {Q : Int → Mem → Prop} {XQ : String → Mem → Prop} (hw : wp_X10_canBePaired M p0 p1 Q XQ) : vx_Met l yX10_canBePaired wsX10_canBePaired ({ frames := 8, cells := 2, slots := 12, locals := 142 } : Room) (cPc D g A a b M [.ref (a 0), iv p0, iv p1]) (cQi D g A a b Q) (cX D g A a b XQ) 2 12 A := by
  refine vx_ofW (cc := cX10_canBePaired) (maxL := 4) (ret := (some .boolean)) (by decide) rfl ?_
  intro p e s m args below meth c s₁ B hml htab hv
  obtain ⟨rfl, hP, hD, hG⟩ := hv
  have X : vC p s m _ meth c D g A RX10 wsX10_canBePaired cX10_canBePaired 4 := ⟨B.exec, B.bytes, findClass_of_methodNamed B.named, atoms_spec (ws := wsX10_canBePaired) B.pre, hG, hml, B.notSynchronized⟩
  have hr := B.returns
  have hl := lv_entry ([.ref (a 0), iv p0, iv p1]) (n := 4) (Nat.le_of_ble_eq_true rfl)
  rw [lg_entry_eq]
  generalize (lg_sl ([.ref (a 0), iv p0, iv p1]) ++ List.replicate (4 - (lg_sl ([.ref (a 0), iv p0, iv p1])).length) Slot.unset).toArray = ls at hl ⊢
  have hl : lv_has ls 4 [(0, .ref (a 0)), (1, iv p0), (2, iv p1)] := hl
  exact wke_X10_canBePaired X hr hlt htab hw s.heap [] ls hP hD va_S.rf hl

set_option maxRecDepth 20000 in
theorem ggX10_differentSubtrees_X9_occursAmong : GoodIn wsX10_differentSubtrees wsX9_occursAmong := goodIn_r _ [4, 5, 6, 3, 7, 8, 9, 10, 11, 12, 28, 29, 30, 31, 32, 33, 34, 35, 36] (by decide +kernel) (by decide +kernel)
set_option maxRecDepth 20000 in
theorem gX10_differentSubtrees_X9_occursAmong_n247 : GoodIn wsX10_differentSubtrees (wsX9_occursAmong) := ggX10_differentSubtrees_X9_occursAmong
theorem dX10_differentSubtrees_0 : decode cX10_differentSubtrees 0 = .ok (.aload_n 0, 1) := by decide +kernel
theorem dX10_differentSubtrees_1 : decode cX10_differentSubtrees 1 = .ok (.getfield 10, 3) := by decide +kernel
theorem dX10_differentSubtrees_4 : decode cX10_differentSubtrees 4 = .ok (.getfield 123, 3) := by decide +kernel
theorem dX10_differentSubtrees_7 : decode cX10_differentSubtrees 7 = .ok (.astore_n 1, 1) := by decide +kernel
theorem dX10_differentSubtrees_8 : decode cX10_differentSubtrees 8 = .ok (.aload_n 0, 1) := by decide +kernel
theorem dX10_differentSubtrees_9 : decode cX10_differentSubtrees 9 = .ok (.getfield 10, 3) := by decide +kernel
theorem dX10_differentSubtrees_12 : decode cX10_differentSubtrees 12 = .ok (.getfield 127, 3) := by decide +kernel
theorem dX10_differentSubtrees_15 : decode cX10_differentSubtrees 15 = .ok (.astore_n 2, 1) := by decide +kernel
theorem dX10_differentSubtrees_16 : decode cX10_differentSubtrees 16 = .ok (.iconst 0, 1) := by decide +kernel
theorem dX10_differentSubtrees_17 : decode cX10_differentSubtrees 17 = .ok (.istore_n 3, 1) := by decide +kernel
theorem dX10_differentSubtrees_18 : decode cX10_differentSubtrees 18 = .ok (.iconst 0, 1) := by decide +kernel
theorem dX10_differentSubtrees_19 : decode cX10_differentSubtrees 19 = .ok (.istore 4, 2) := by decide +kernel
theorem dX10_differentSubtrees_21 : decode cX10_differentSubtrees 21 = .ok (.iload 4, 2) := by decide +kernel
theorem dX10_differentSubtrees_23 : decode cX10_differentSubtrees 23 = .ok (.aload_n 1, 1) := by decide +kernel
theorem dX10_differentSubtrees_24 : decode cX10_differentSubtrees 24 = .ok (.getfield 88, 3) := by decide +kernel
theorem dX10_differentSubtrees_27 : decode cX10_differentSubtrees 27 = .ok (.if_icmp .ge 24, 3) := by decide +kernel
theorem dX10_differentSubtrees_30 : decode cX10_differentSubtrees 30 = .ok (.aload_n 1, 1) := by decide +kernel
theorem dX10_differentSubtrees_31 : decode cX10_differentSubtrees 31 = .ok (.iload 4, 2) := by decide +kernel
theorem dX10_differentSubtrees_33 : decode cX10_differentSubtrees 33 = .ok (.aload_n 1, 1) := by decide +kernel
theorem dX10_differentSubtrees_34 : decode cX10_differentSubtrees 34 = .ok (.iload 4, 2) := by decide +kernel
theorem dX10_differentSubtrees_36 : decode cX10_differentSubtrees 36 = .ok (.invokestatic 247, 3) := by decide +kernel
theorem dX10_differentSubtrees_39 : decode cX10_differentSubtrees 39 = .ok (.ifCond .ne 6, 3) := by decide +kernel
theorem dX10_differentSubtrees_42 : decode cX10_differentSubtrees 42 = .ok (.iinc 3 1, 3) := by decide +kernel
theorem dX10_differentSubtrees_45 : decode cX10_differentSubtrees 45 = .ok (.iinc 4 1, 3) := by decide +kernel
theorem dX10_differentSubtrees_48 : decode cX10_differentSubtrees 48 = .ok (.goto (-27), 3) := by decide +kernel
theorem dX10_differentSubtrees_51 : decode cX10_differentSubtrees 51 = .ok (.iconst 0, 1) := by decide +kernel
theorem dX10_differentSubtrees_52 : decode cX10_differentSubtrees 52 = .ok (.istore 4, 2) := by decide +kernel
theorem dX10_differentSubtrees_54 : decode cX10_differentSubtrees 54 = .ok (.iload 4, 2) := by decide +kernel
theorem dX10_differentSubtrees_56 : decode cX10_differentSubtrees 56 = .ok (.aload_n 2, 1) := by decide +kernel
theorem dX10_differentSubtrees_57 : decode cX10_differentSubtrees 57 = .ok (.getfield 88, 3) := by decide +kernel
theorem dX10_differentSubtrees_60 : decode cX10_differentSubtrees 60 = .ok (.if_icmp .ge 38, 3) := by decide +kernel
theorem dX10_differentSubtrees_63 : decode cX10_differentSubtrees 63 = .ok (.aload_n 1, 1) := by decide +kernel
theorem dX10_differentSubtrees_64 : decode cX10_differentSubtrees 64 = .ok (.aload_n 1, 1) := by decide +kernel
theorem dX10_differentSubtrees_65 : decode cX10_differentSubtrees 65 = .ok (.getfield 88, 3) := by decide +kernel
theorem dX10_differentSubtrees_68 : decode cX10_differentSubtrees 68 = .ok (.aload_n 2, 1) := by decide +kernel
theorem dX10_differentSubtrees_69 : decode cX10_differentSubtrees 69 = .ok (.iload 4, 2) := by decide +kernel
theorem dX10_differentSubtrees_71 : decode cX10_differentSubtrees 71 = .ok (.invokestatic 247, 3) := by decide +kernel
theorem dX10_differentSubtrees_74 : decode cX10_differentSubtrees 74 = .ok (.ifCond .ne 18, 3) := by decide +kernel
theorem dX10_differentSubtrees_77 : decode cX10_differentSubtrees 77 = .ok (.aload_n 2, 1) := by decide +kernel
theorem dX10_differentSubtrees_78 : decode cX10_differentSubtrees 78 = .ok (.iload 4, 2) := by decide +kernel
theorem dX10_differentSubtrees_80 : decode cX10_differentSubtrees 80 = .ok (.aload_n 2, 1) := by decide +kernel
theorem dX10_differentSubtrees_81 : decode cX10_differentSubtrees 81 = .ok (.iload 4, 2) := by decide +kernel
theorem dX10_differentSubtrees_83 : decode cX10_differentSubtrees 83 = .ok (.invokestatic 247, 3) := by decide +kernel
theorem dX10_differentSubtrees_86 : decode cX10_differentSubtrees 86 = .ok (.ifCond .ne 6, 3) := by decide +kernel
theorem dX10_differentSubtrees_89 : decode cX10_differentSubtrees 89 = .ok (.iinc 3 1, 3) := by decide +kernel
theorem dX10_differentSubtrees_92 : decode cX10_differentSubtrees 92 = .ok (.iinc 4 1, 3) := by decide +kernel
theorem dX10_differentSubtrees_95 : decode cX10_differentSubtrees 95 = .ok (.goto (-41), 3) := by decide +kernel
theorem dX10_differentSubtrees_98 : decode cX10_differentSubtrees 98 = .ok (.iload_n 3, 1) := by decide +kernel
theorem dX10_differentSubtrees_99 : decode cX10_differentSubtrees 99 = .ok (.ireturn, 1) := by decide +kernel
theorem lk_X10_differentSubtrees_f10 : Cond.fieldLink RX10 10 "TreeComparer" "given" "LTreeComparer$Given;" ∈ wsX10_differentSubtrees := by decide +kernel
theorem hi_X10_differentSubtrees_10 : ∀ w ∈ u_ws RX10 TX10 9, w ∈ wsX10_differentSubtrees := by decide +kernel
theorem hi_X10_differentSubtrees_1 : ∀ w ∈ u_ws RX1 TX1 6, w ∈ wsX10_differentSubtrees := by decide +kernel
theorem hi_X10_differentSubtrees_9 : ∀ w ∈ u_ws RX9 TX9 9, w ∈ wsX10_differentSubtrees := by decide +kernel
theorem lk_X10_differentSubtrees_i9 : Cond.initialized RX9 ∈ wsX10_differentSubtrees := by decide +kernel
theorem lk_X10_differentSubtrees_im247 : Cond.static yX9_occursAmong ∈ wsX10_differentSubtrees := by decide +kernel
def wpj_X10_differentSubtrees_92 (x3 : Int) (x4 : Int) (M : Mem) (J21 : Int → Int → Mem → Prop) (J54 : Int → Int → Mem → Prop) (Q : Int → Mem → Prop) : Prop := J54 x3 (x4 + 1) M
def wph_X10_differentSubtrees_54 (x3 : Int) (x4 : Int) (M : Mem) (J21 : Int → Int → Mem → Prop) (J54 : Int → Int → Mem → Prop) (Q : Int → Mem → Prop) : Prop := inR x4 ∧ inR (M 12 8 0) ∧ (((M 12 8 0) ≤ x4 → Q x3 M) ∧ (¬ ((M 12 8 0) ≤ x4) → wp_X9_occursAmong M 11 ((M 11 8 0)) 12 x4 (fun y11 M12 => inR y11 ∧ ((y11 ≠ 0 → wpj_X10_differentSubtrees_92 x3 x4 M12 J21 J54 Q) ∧ (¬ (y11 ≠ 0) → wp_X9_occursAmong M12 12 x4 12 x4 (fun y15 M16 => inR y15 ∧ ((y15 ≠ 0 → wpj_X10_differentSubtrees_92 x3 x4 M16 J21 J54 Q) ∧ (¬ (y15 ≠ 0) → wpj_X10_differentSubtrees_92 (x3 + 1) x4 M16 J21 J54 Q))))))))
def wpj_X10_differentSubtrees_45 (x3 : Int) (x4 : Int) (M : Mem) (J21 : Int → Int → Mem → Prop) (J54 : Int → Int → Mem → Prop) (Q : Int → Mem → Prop) : Prop := J21 x3 (x4 + 1) M
def wph_X10_differentSubtrees_21 (x3 : Int) (x4 : Int) (M : Mem) (J21 : Int → Int → Mem → Prop) (J54 : Int → Int → Mem → Prop) (Q : Int → Mem → Prop) : Prop := inR x4 ∧ inR (M 11 8 0) ∧ (((M 11 8 0) ≤ x4 → J54 x3 0 M) ∧ (¬ ((M 11 8 0) ≤ x4) → wp_X9_occursAmong M 11 x4 11 x4 (fun y4 M5 => inR y4 ∧ ((y4 ≠ 0 → wpj_X10_differentSubtrees_45 x3 x4 M5 J21 J54 Q) ∧ (¬ (y4 ≠ 0) → wpj_X10_differentSubtrees_45 (x3 + 1) x4 M5 J21 J54 Q)))))
def wpe_X10_differentSubtrees (M : Mem) (J21 : Int → Int → Mem → Prop) (J54 : Int → Int → Mem → Prop) (Q : Int → Mem → Prop) : Prop := J21 0 0 M
def wp_X10_differentSubtrees (M : Mem) (Q : Int → Mem → Prop) : Prop := ∃ (I21 : Nat → Int → Int → Mem → Prop) (I54 : Nat → Int → Int → Mem → Prop), wpe_X10_differentSubtrees M (fun (x3 : Int) (x4 : Int) (M1 : Mem) => ∃ n1 : Nat, I21 n1 x3 x4 M1) (fun (x3 : Int) (x4 : Int) (M1 : Mem) => ∃ n1 : Nat, I54 n1 x3 x4 M1) Q ∧ (∀ (n : Nat) (x3 : Int) (x4 : Int) (M : Mem), I21 n x3 x4 M → wph_X10_differentSubtrees_21 x3 x4 M (fun (x3 : Int) (x4 : Int) (M1 : Mem) => ∃ n1 : Nat, n1 < n ∧ I21 n1 x3 x4 M1) (fun (x3 : Int) (x4 : Int) (M1 : Mem) => ∃ n1 : Nat, n1 < n ∧ I54 n1 x3 x4 M1) Q) ∧ (∀ (n : Nat) (x3 : Int) (x4 : Int) (M : Mem), I54 n x3 x4 M → wph_X10_differentSubtrees_54 x3 x4 M (fun (x3 : Int) (x4 : Int) (M1 : Mem) => ∃ n1 : Nat, n1 < n ∧ I21 n1 x3 x4 M1) (fun (x3 : Int) (x4 : Int) (M1 : Mem) => ∃ n1 : Nat, n1 < n ∧ I54 n1 x3 x4 M1) Q)
set_option maxHeartbeats 4000000 in
set_option maxRecDepth 100000 in
theorem wkj_X10_differentSubtrees_92 {p : Program} {l : Launch} {e : Env} {s : State} {m : MethodId} {args : Array Value} {below : List Frame} {meth : Method} {c : Code} {D : va_G} {g : GT} {A : Nat → Prop} {a : Nat → Nat} {b : Nat → Nat → Nat} (X : vC p s m args meth c D g A RX10 wsX10_differentSubtrees cX10_differentSubtrees 5) (hr : meth.sig.returnType = (some .int)) {x3 : Int} {x4 : Int} {M : Mem} {J21 : Int → Int → Mem → Prop} {J54 : Int → Int → Mem → Prop} {Q : Int → Mem → Prop} (hJ21 : ∀ (x3 : Int) (x4 : Int) (M : Mem), J21 x3 x4 M → vV p l e ({ frames := 2, cells := 0, slots := 0, locals := 50 } : Room) s m args below meth c D g A a b 5 0 0 (MQ below (cQi D g A a b Q) args s 0 0 A) M [(1, .ref (a 11)), (2, .ref (a 12)), (3, iv x3), (4, iv x4)] 21 []) (hJ54 : ∀ (x3 : Int) (x4 : Int) (M : Mem), J54 x3 x4 M → vV p l e ({ frames := 2, cells := 0, slots := 0, locals := 50 } : Room) s m args below meth c D g A a b 5 0 0 (MQ below (cQi D g A a b Q) args s 0 0 A) M [(1, .ref (a 11)), (2, .ref (a 12)), (3, iv x3), (4, iv x4)] 54 []) (hw : wpj_X10_differentSubtrees_92 x3 x4 M J21 J54 Q) : vV p l e ({ frames := 2, cells := 0, slots := 0, locals := 50 } : Room) s m args below meth c D g A a b 5 0 0 (MQ below (cQi D g A a b Q) args s 0 0 A) M [(1, .ref (a 11)), (2, .ref (a 12)), (3, iv x3), (4, iv x4)] 92 [] := by
  unfold wpj_X10_differentSubtrees_92 at hw
  refine V_iinc (lv1 := [(1, .ref (a 11)), (2, .ref (a 12)), (3, iv x3), (4, iv (x4 + 1))]) X [1, 2, 3, 0] dX10_differentSubtrees_92 (q := 3) rfl (by decide) rfl ?_
  refine V_goto (tgt := 54) X dX10_differentSubtrees_95 (by decide) ?_
  exact hJ54 _ _ _ hw
set_option maxHeartbeats 4000000 in
set_option maxRecDepth 100000 in
theorem wkh_X10_differentSubtrees_54 {p : Program} {l : Launch} {e : Env} {s : State} {m : MethodId} {args : Array Value} {below : List Frame} {meth : Method} {c : Code} {D : va_G} {g : GT} {A : Nat → Prop} {a : Nat → Nat} {b : Nat → Nat → Nat} (X : vC p s m args meth c D g A RX10 wsX10_differentSubtrees cX10_differentSubtrees 5) (hr : meth.sig.returnType = (some .int)) {x3 : Int} {x4 : Int} {M : Mem} {J21 : Int → Int → Mem → Prop} {J54 : Int → Int → Mem → Prop} {Q : Int → Mem → Prop} (hJ21 : ∀ (x3 : Int) (x4 : Int) (M : Mem), J21 x3 x4 M → vV p l e ({ frames := 2, cells := 0, slots := 0, locals := 50 } : Room) s m args below meth c D g A a b 5 0 0 (MQ below (cQi D g A a b Q) args s 0 0 A) M [(1, .ref (a 11)), (2, .ref (a 12)), (3, iv x3), (4, iv x4)] 21 []) (hJ54 : ∀ (x3 : Int) (x4 : Int) (M : Mem), J54 x3 x4 M → vV p l e ({ frames := 2, cells := 0, slots := 0, locals := 50 } : Room) s m args below meth c D g A a b 5 0 0 (MQ below (cQi D g A a b Q) args s 0 0 A) M [(1, .ref (a 11)), (2, .ref (a 12)), (3, iv x3), (4, iv x4)] 54 []) (hw : wph_X10_differentSubtrees_54 x3 x4 M J21 J54 Q) : vV p l e ({ frames := 2, cells := 0, slots := 0, locals := 50 } : Room) s m args below meth c D g A a b 5 0 0 (MQ below (cQi D g A a b Q) args s 0 0 A) M [(1, .ref (a 11)), (2, .ref (a 12)), (3, iv x3), (4, iv x4)] 54 [] := by
  unfold wph_X10_differentSubtrees_54 at hw
  refine V_iload X dX10_differentSubtrees_54 (q := 3) rfl ?_
  refine V_aload_n X dX10_differentSubtrees_56 rfl (q := 1) rfl ?_
  refine V_getN (C := RX9) (T := TX9) (N := 9) (ci := 9) X hi_X10_differentSubtrees_9 gO_12 rfl 8 (by decide) (List.mem_of_getElem? (i := 20) rfl) (fun _ h9 => h9) rfl dX10_differentSubtrees_57 ?_
  obtain ⟨h8, h9, hw⟩ := hw
  refine V_icmp_ge (tgt := 98) X h8 h9 dX10_differentSubtrees_60 (by decide) (fun q10 => ?_) (fun q10 => ?_)
  · have hw := hw.1 q10
    refine V_iload_n X dX10_differentSubtrees_98 rfl (q := 2) rfl ?_
    exact V_iret X hr hw dX10_differentSubtrees_99
  · have hw := hw.2 q10
    refine V_aload_n X dX10_differentSubtrees_63 rfl (q := 0) rfl ?_
    refine V_aload_n X dX10_differentSubtrees_64 rfl (q := 0) rfl ?_
    refine V_getN (C := RX9) (T := TX9) (N := 9) (ci := 9) X hi_X10_differentSubtrees_9 gO_11 rfl 8 (by decide) (List.mem_of_getElem? (i := 20) rfl) (fun _ h9 => h9) rfl dX10_differentSubtrees_65 ?_
    refine V_aload_n X dX10_differentSubtrees_68 rfl (q := 1) rfl ?_
    refine V_iload X dX10_differentSubtrees_69 (q := 3) rfl ?_
    refine V_callSN_i X _ (As := [.ref (a 11), iv ((M 11 8 0)), .ref (a 12), iv x4]) (st := []) (c_X9_occursAmong l (by first | exact Or.inl rfl | exact Or.inr rfl) (by first | exact Or.inl rfl | exact Or.inr rfl) hw) ⟨va_cnB 4 X.2.2.2.1 gX10_differentSubtrees_X9_occursAmong_n247 rfl rfl rfl (X.2.2.2.2.1.2.1 _ (List.mem_of_getElem? (i := 120) rfl)) (X.2.2.2.1 _ lk_X10_differentSubtrees_i9) (by decide +kernel) ⟨Nat.le_of_ble_eq_true rfl, Nat.le_of_ble_eq_true rfl⟩, X.2.2.2.1 _ lk_X10_differentSubtrees_im247, trivial⟩ rfl (Nat.le_of_ble_eq_true rfl) ⟨Nat.le_of_ble_eq_true rfl, Nat.le_of_ble_eq_true rfl⟩ rfl dX10_differentSubtrees_71 (fun y11 M12 hw => ?_)
    obtain ⟨h13, hw⟩ := hw
    refine V_if_ne (tgt := 92) X h13 dX10_differentSubtrees_74 (by decide) (fun q14 => ?_) (fun q14 => ?_)
    · have hw := hw.1 q14
      exact wkj_X10_differentSubtrees_92 X hr hJ21 hJ54 hw
    · have hw := hw.2 q14
      refine V_aload_n X dX10_differentSubtrees_77 rfl (q := 1) rfl ?_
      refine V_iload X dX10_differentSubtrees_78 (q := 3) rfl ?_
      refine V_aload_n X dX10_differentSubtrees_80 rfl (q := 1) rfl ?_
      refine V_iload X dX10_differentSubtrees_81 (q := 3) rfl ?_
      refine V_callSN_i X _ (As := [.ref (a 12), iv x4, .ref (a 12), iv x4]) (st := []) (c_X9_occursAmong l (by first | exact Or.inl rfl | exact Or.inr rfl) (by first | exact Or.inl rfl | exact Or.inr rfl) hw) ⟨va_cnB 4 X.2.2.2.1 gX10_differentSubtrees_X9_occursAmong_n247 rfl rfl rfl (X.2.2.2.2.1.2.1 _ (List.mem_of_getElem? (i := 120) rfl)) (X.2.2.2.1 _ lk_X10_differentSubtrees_i9) (by decide +kernel) ⟨Nat.le_of_ble_eq_true rfl, Nat.le_of_ble_eq_true rfl⟩, X.2.2.2.1 _ lk_X10_differentSubtrees_im247, trivial⟩ rfl (Nat.le_of_ble_eq_true rfl) ⟨Nat.le_of_ble_eq_true rfl, Nat.le_of_ble_eq_true rfl⟩ rfl dX10_differentSubtrees_83 (fun y15 M16 hw => ?_)
      obtain ⟨h17, hw⟩ := hw
      refine V_if_ne (tgt := 92) X h17 dX10_differentSubtrees_86 (by decide) (fun q18 => ?_) (fun q18 => ?_)
      · have hw := hw.1 q18
        exact wkj_X10_differentSubtrees_92 X hr hJ21 hJ54 hw
      · have hw := hw.2 q18
        refine V_iinc (lv1 := [(1, .ref (a 11)), (2, .ref (a 12)), (3, iv (x3 + 1)), (4, iv x4)]) X [1, 2, 0, 3] dX10_differentSubtrees_89 (q := 2) rfl (by decide) rfl ?_
        exact wkj_X10_differentSubtrees_92 X hr hJ21 hJ54 hw
set_option maxHeartbeats 4000000 in
set_option maxRecDepth 100000 in
theorem wkj_X10_differentSubtrees_45 {p : Program} {l : Launch} {e : Env} {s : State} {m : MethodId} {args : Array Value} {below : List Frame} {meth : Method} {c : Code} {D : va_G} {g : GT} {A : Nat → Prop} {a : Nat → Nat} {b : Nat → Nat → Nat} (X : vC p s m args meth c D g A RX10 wsX10_differentSubtrees cX10_differentSubtrees 5) (hr : meth.sig.returnType = (some .int)) {x3 : Int} {x4 : Int} {M : Mem} {J21 : Int → Int → Mem → Prop} {J54 : Int → Int → Mem → Prop} {Q : Int → Mem → Prop} (hJ21 : ∀ (x3 : Int) (x4 : Int) (M : Mem), J21 x3 x4 M → vV p l e ({ frames := 2, cells := 0, slots := 0, locals := 50 } : Room) s m args below meth c D g A a b 5 0 0 (MQ below (cQi D g A a b Q) args s 0 0 A) M [(1, .ref (a 11)), (2, .ref (a 12)), (3, iv x3), (4, iv x4)] 21 []) (hJ54 : ∀ (x3 : Int) (x4 : Int) (M : Mem), J54 x3 x4 M → vV p l e ({ frames := 2, cells := 0, slots := 0, locals := 50 } : Room) s m args below meth c D g A a b 5 0 0 (MQ below (cQi D g A a b Q) args s 0 0 A) M [(1, .ref (a 11)), (2, .ref (a 12)), (3, iv x3), (4, iv x4)] 54 []) (hw : wpj_X10_differentSubtrees_45 x3 x4 M J21 J54 Q) : vV p l e ({ frames := 2, cells := 0, slots := 0, locals := 50 } : Room) s m args below meth c D g A a b 5 0 0 (MQ below (cQi D g A a b Q) args s 0 0 A) M [(1, .ref (a 11)), (2, .ref (a 12)), (3, iv x3), (4, iv x4)] 45 [] := by
  unfold wpj_X10_differentSubtrees_45 at hw
  refine V_iinc (lv1 := [(1, .ref (a 11)), (2, .ref (a 12)), (3, iv x3), (4, iv (x4 + 1))]) X [1, 2, 3, 0] dX10_differentSubtrees_45 (q := 3) rfl (by decide) rfl ?_
  refine V_goto (tgt := 21) X dX10_differentSubtrees_48 (by decide) ?_
  exact hJ21 _ _ _ hw
set_option maxHeartbeats 4000000 in
set_option maxRecDepth 100000 in
theorem wkh_X10_differentSubtrees_21 {p : Program} {l : Launch} {e : Env} {s : State} {m : MethodId} {args : Array Value} {below : List Frame} {meth : Method} {c : Code} {D : va_G} {g : GT} {A : Nat → Prop} {a : Nat → Nat} {b : Nat → Nat → Nat} (X : vC p s m args meth c D g A RX10 wsX10_differentSubtrees cX10_differentSubtrees 5) (hr : meth.sig.returnType = (some .int)) {x3 : Int} {x4 : Int} {M : Mem} {J21 : Int → Int → Mem → Prop} {J54 : Int → Int → Mem → Prop} {Q : Int → Mem → Prop} (hJ21 : ∀ (x3 : Int) (x4 : Int) (M : Mem), J21 x3 x4 M → vV p l e ({ frames := 2, cells := 0, slots := 0, locals := 50 } : Room) s m args below meth c D g A a b 5 0 0 (MQ below (cQi D g A a b Q) args s 0 0 A) M [(1, .ref (a 11)), (2, .ref (a 12)), (3, iv x3), (4, iv x4)] 21 []) (hJ54 : ∀ (x3 : Int) (x4 : Int) (M : Mem), J54 x3 x4 M → vV p l e ({ frames := 2, cells := 0, slots := 0, locals := 50 } : Room) s m args below meth c D g A a b 5 0 0 (MQ below (cQi D g A a b Q) args s 0 0 A) M [(1, .ref (a 11)), (2, .ref (a 12)), (3, iv x3), (4, iv x4)] 54 []) (hw : wph_X10_differentSubtrees_21 x3 x4 M J21 J54 Q) : vV p l e ({ frames := 2, cells := 0, slots := 0, locals := 50 } : Room) s m args below meth c D g A a b 5 0 0 (MQ below (cQi D g A a b Q) args s 0 0 A) M [(1, .ref (a 11)), (2, .ref (a 12)), (3, iv x3), (4, iv x4)] 21 [] := by
  unfold wph_X10_differentSubtrees_21 at hw
  refine V_iload X dX10_differentSubtrees_21 (q := 3) rfl ?_
  refine V_aload_n X dX10_differentSubtrees_23 rfl (q := 0) rfl ?_
  refine V_getN (C := RX9) (T := TX9) (N := 9) (ci := 9) X hi_X10_differentSubtrees_9 gO_11 rfl 8 (by decide) (List.mem_of_getElem? (i := 20) rfl) (fun _ h9 => h9) rfl dX10_differentSubtrees_24 ?_
  obtain ⟨h1, h2, hw⟩ := hw
  refine V_icmp_ge (tgt := 51) X h1 h2 dX10_differentSubtrees_27 (by decide) (fun q3 => ?_) (fun q3 => ?_)
  · have hw := hw.1 q3
    refine V_iconst X dX10_differentSubtrees_51 ?_
    refine V_istore (lv1 := [(1, .ref (a 11)), (2, .ref (a 12)), (3, iv x3), (4, iv 0)]) X [1, 2, 3, 0] dX10_differentSubtrees_52 (by decide) rfl ?_
    exact hJ54 _ _ _ hw
  · have hw := hw.2 q3
    refine V_aload_n X dX10_differentSubtrees_30 rfl (q := 0) rfl ?_
    refine V_iload X dX10_differentSubtrees_31 (q := 3) rfl ?_
    refine V_aload_n X dX10_differentSubtrees_33 rfl (q := 0) rfl ?_
    refine V_iload X dX10_differentSubtrees_34 (q := 3) rfl ?_
    refine V_callSN_i X _ (As := [.ref (a 11), iv x4, .ref (a 11), iv x4]) (st := []) (c_X9_occursAmong l (by first | exact Or.inl rfl | exact Or.inr rfl) (by first | exact Or.inl rfl | exact Or.inr rfl) hw) ⟨va_cnB 4 X.2.2.2.1 gX10_differentSubtrees_X9_occursAmong_n247 rfl rfl rfl (X.2.2.2.2.1.2.1 _ (List.mem_of_getElem? (i := 120) rfl)) (X.2.2.2.1 _ lk_X10_differentSubtrees_i9) (by decide +kernel) ⟨Nat.le_of_ble_eq_true rfl, Nat.le_of_ble_eq_true rfl⟩, X.2.2.2.1 _ lk_X10_differentSubtrees_im247, trivial⟩ rfl (Nat.le_of_ble_eq_true rfl) ⟨Nat.le_of_ble_eq_true rfl, Nat.le_of_ble_eq_true rfl⟩ rfl dX10_differentSubtrees_36 (fun y4 M5 hw => ?_)
    obtain ⟨h6, hw⟩ := hw
    refine V_if_ne (tgt := 45) X h6 dX10_differentSubtrees_39 (by decide) (fun q7 => ?_) (fun q7 => ?_)
    · have hw := hw.1 q7
      exact wkj_X10_differentSubtrees_45 X hr hJ21 hJ54 hw
    · have hw := hw.2 q7
      refine V_iinc (lv1 := [(1, .ref (a 11)), (2, .ref (a 12)), (3, iv (x3 + 1)), (4, iv x4)]) X [1, 2, 0, 3] dX10_differentSubtrees_42 (q := 2) rfl (by decide) rfl ?_
      exact wkj_X10_differentSubtrees_45 X hr hJ21 hJ54 hw
set_option maxHeartbeats 4000000 in
set_option maxRecDepth 100000 in
theorem wke_X10_differentSubtrees {p : Program} {l : Launch} {e : Env} {s : State} {m : MethodId} {args : Array Value} {below : List Frame} {meth : Method} {c : Code} {D : va_G} {g : GT} {A : Nat → Prop} {a : Nat → Nat} {b : Nat → Nat → Nat} (X : vC p s m args meth c D g A RX10 wsX10_differentSubtrees cX10_differentSubtrees 5) (hr : meth.sig.returnType = (some .int)) {M : Mem} {J21 : Int → Int → Mem → Prop} {J54 : Int → Int → Mem → Prop} {Q : Int → Mem → Prop} (hJ21 : ∀ (x3 : Int) (x4 : Int) (M : Mem), J21 x3 x4 M → vV p l e ({ frames := 2, cells := 0, slots := 0, locals := 50 } : Room) s m args below meth c D g A a b 5 0 0 (MQ below (cQi D g A a b Q) args s 0 0 A) M [(1, .ref (a 11)), (2, .ref (a 12)), (3, iv x3), (4, iv x4)] 21 []) (hJ54 : ∀ (x3 : Int) (x4 : Int) (M : Mem), J54 x3 x4 M → vV p l e ({ frames := 2, cells := 0, slots := 0, locals := 50 } : Room) s m args below meth c D g A a b 5 0 0 (MQ below (cQi D g A a b Q) args s 0 0 A) M [(1, .ref (a 11)), (2, .ref (a 12)), (3, iv x3), (4, iv x4)] 54 []) (hw : wpe_X10_differentSubtrees M J21 J54 Q) : vV p l e ({ frames := 2, cells := 0, slots := 0, locals := 50 } : Room) s m args below meth c D g A a b 5 0 0 (MQ below (cQi D g A a b Q) args s 0 0 A) M [(0, .ref (a 0))] 0 [] := by
  unfold wpe_X10_differentSubtrees at hw
  refine V_aload_n X dX10_differentSubtrees_0 rfl (q := 0) rfl ?_
  refine V_get (C := RX10) (T := TX10) (N := 9) (ci := 10) X hi_X10_differentSubtrees_10 gO_0 rfl 0 (by decide) lk_X10_differentSubtrees_f10 (fun _ h9 => h9) rfl dX10_differentSubtrees_1 ?_
  refine V_getN (C := RX1) (T := TX1) (N := 6) (ci := 1) X hi_X10_differentSubtrees_1 gO_1 rfl 4 (by decide) (List.mem_of_getElem? (i := 38) rfl) (fun _ h9 => h9) rfl dX10_differentSubtrees_4 ?_
  refine V_astore_n (lv1 := [(0, .ref (a 0)), (1, .ref (a 11))]) X [1, 0] dX10_differentSubtrees_7 rfl (by decide) rfl ?_
  refine V_aload_n X dX10_differentSubtrees_8 rfl (q := 0) rfl ?_
  refine V_get (C := RX10) (T := TX10) (N := 9) (ci := 10) X hi_X10_differentSubtrees_10 gO_0 rfl 0 (by decide) lk_X10_differentSubtrees_f10 (fun _ h9 => h9) rfl dX10_differentSubtrees_9 ?_
  refine V_getN (C := RX1) (T := TX1) (N := 6) (ci := 1) X hi_X10_differentSubtrees_1 gO_1 rfl 5 (by decide) (List.mem_of_getElem? (i := 42) rfl) (fun _ h9 => h9) rfl dX10_differentSubtrees_12 ?_
  refine V_astore_n (lv1 := [(0, .ref (a 0)), (1, .ref (a 11)), (2, .ref (a 12))]) X [1, 2, 0] dX10_differentSubtrees_15 rfl (by decide) rfl ?_
  refine V_iconst X dX10_differentSubtrees_16 ?_
  refine V_istore_n (lv1 := [(0, .ref (a 0)), (1, .ref (a 11)), (2, .ref (a 12)), (3, iv 0)]) X [1, 2, 3, 0] dX10_differentSubtrees_17 rfl (by decide) rfl ?_
  refine V_iconst X dX10_differentSubtrees_18 ?_
  refine V_istore (lv1 := [(0, .ref (a 0)), (1, .ref (a 11)), (2, .ref (a 12)), (3, iv 0), (4, iv 0)]) X [1, 2, 3, 4, 0] dX10_differentSubtrees_19 (by decide) rfl ?_
  refine V_sub (lv1 := [(1, .ref (a 11)), (2, .ref (a 12)), (3, iv 0), (4, iv 0)]) [1, 2, 3, 4] rfl ?_
  exact hJ21 _ _ _ hw
set_option maxHeartbeats 4000000 in
set_option maxRecDepth 100000 in
theorem c_X10_differentSubtrees (l : Launch) {D : va_G} {g : GT} {A : Nat → Prop} {a : Nat → Nat} {b : Nat → Nat → Nat} {M : Mem} {Q : Int → Mem → Prop} (hw : wp_X10_differentSubtrees M Q) : Met l yX10_differentSubtrees wsX10_differentSubtrees ({ frames := 2, cells := 0, slots := 0, locals := 50 } : Room) (cPc D g A a b M [.ref (a 0)]) (cQi D g A a b Q) 0 0 A := by
  refine Met.ofW (cc := cX10_differentSubtrees) (maxL := 5) (ret := (some .int)) (by decide) rfl ?_
  intro p e s m args below meth c s₁ B hml hv
  obtain ⟨rfl, hP, hD, hG⟩ := hv
  have X : vC p s m _ meth c D g A RX10 wsX10_differentSubtrees cX10_differentSubtrees 5 := ⟨B.exec, B.bytes, findClass_of_methodNamed B.named, atoms_spec (ws := wsX10_differentSubtrees) B.pre, hG, hml, B.notSynchronized⟩
  have hr := B.returns
  have hl := lv_entry ([.ref (a 0)]) (n := 5) (Nat.le_of_ble_eq_true rfl)
  rw [lg_entry_eq]
  generalize (lg_sl ([.ref (a 0)]) ++ List.replicate (5 - (lg_sl ([.ref (a 0)])).length) Slot.unset).toArray = ls at hl ⊢
  have hl : lv_has ls 5 [(0, .ref (a 0))] := hl
  obtain ⟨I21, I54, hw, hI21, hI54⟩ := hw
  have K : ∀ n : Nat, (∀ (x3 : Int) (x4 : Int) (M : Mem), I21 n x3 x4 M → vV p l e ({ frames := 2, cells := 0, slots := 0, locals := 50 } : Room) s m ([.ref (a 0)] : List Value).toArray below meth c D g A a b 5 0 0 (MQ below (cQi D g A a b Q) ([.ref (a 0)] : List Value).toArray s 0 0 A) M [(1, .ref (a 11)), (2, .ref (a 12)), (3, iv x3), (4, iv x4)] 21 []) ∧ (∀ (x3 : Int) (x4 : Int) (M : Mem), I54 n x3 x4 M → vV p l e ({ frames := 2, cells := 0, slots := 0, locals := 50 } : Room) s m ([.ref (a 0)] : List Value).toArray below meth c D g A a b 5 0 0 (MQ below (cQi D g A a b Q) ([.ref (a 0)] : List Value).toArray s 0 0 A) M [(1, .ref (a 11)), (2, .ref (a 12)), (3, iv x3), (4, iv x4)] 54 []) := by
    intro n
    induction n using Nat.strongRecOn with
    | ind n ih =>
      exact ⟨fun x3 x4 M hh => wkh_X10_differentSubtrees_21 X hr (fun _ _ _ ⟨n1, hn, hh⟩ => (ih n1 hn).1 _ _ _ hh) (fun _ _ _ ⟨n1, hn, hh⟩ => (ih n1 hn).2 _ _ _ hh) (hI21 n x3 x4 M hh), fun x3 x4 M hh => wkh_X10_differentSubtrees_54 X hr (fun _ _ _ ⟨n1, hn, hh⟩ => (ih n1 hn).1 _ _ _ hh) (fun _ _ _ ⟨n1, hn, hh⟩ => (ih n1 hn).2 _ _ _ hh) (hI54 n x3 x4 M hh)⟩
  exact wke_X10_differentSubtrees X hr  (fun _ _ _ ⟨n1, hh⟩ => (K n1).1 _ _ _ hh) (fun _ _ _ ⟨n1, hh⟩ => (K n1).2 _ _ _ hh) hw s.heap [] ls hP hD va_S.rf hl
