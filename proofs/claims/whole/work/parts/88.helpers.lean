set_option maxRecDepth 20000 in
theorem ggL_setLabel_X10_setLabel : GoodIn wsL_setLabel wsX10_setLabel := goodIn_ca (goodIn_ca (goodIn_r _ [7, 8, 9, 10, 11, 6, 12, 13, 14, 15, 16, 17, 18, 19, 20, 21, 22, 23, 24, 25, 26, 27, 28, 29, 30, 31, 32, 33, 34, 35, 36, 37, 38, 39, 40, 41, 42, 43, 44, 45, 46, 47, 48, 49, 50, 51] (by decide +kernel) (by decide +kernel)) (goodIn_sub (fun _ h => List.mem_cons_of_mem _ (List.mem_append_left _ (List.mem_append_right _ h))) (by decide +kernel))) (goodIn_sub (fun _ h => List.mem_cons_of_mem _ (List.mem_append_right _ h)) (by decide +kernel))
set_option maxRecDepth 20000 in
theorem gL_setLabel_X10_setLabel : GoodIn wsL_setLabel (wsV RL 23 RX10 yX10_setLabel wsX10_setLabel) := goodIn_app (goodIn_of _ (by decide +kernel)) ggL_setLabel_X10_setLabel
theorem dL_setLabel_0 : decode cL_setLabel 0 = .ok (.aload 4, 2) := by decide +kernel
theorem dL_setLabel_2 : decode cL_setLabel 2 = .ok (.iconst 0, 1) := by decide +kernel
theorem dL_setLabel_3 : decode cL_setLabel 3 = .ok (.aload_n 0, 1) := by decide +kernel
theorem dL_setLabel_4 : decode cL_setLabel 4 = .ok (.iload_n 1, 1) := by decide +kernel
theorem dL_setLabel_5 : decode cL_setLabel 5 = .ok (.iload_n 2, 1) := by decide +kernel
theorem dL_setLabel_6 : decode cL_setLabel 6 = .ok (.iload_n 3, 1) := by decide +kernel
theorem dL_setLabel_7 : decode cL_setLabel 7 = .ok (.invokevirtual 23, 3) := by decide +kernel
theorem dL_setLabel_10 : decode cL_setLabel 10 = .ok (.i2l, 1) := by decide +kernel
theorem dL_setLabel_11 : decode cL_setLabel 11 = .ok (.lastore, 1) := by decide +kernel
theorem dL_setLabel_12 : decode cL_setLabel 12 = .ok (.goto 11, 3) := by decide +kernel
theorem dL_setLabel_15 : decode cL_setLabel 15 = .ok (.astore 5, 2) := by decide +kernel
theorem dL_setLabel_17 : decode cL_setLabel 17 = .ok (.iconst 1, 1) := by decide +kernel
theorem dL_setLabel_18 : decode cL_setLabel 18 = .ok (.ireturn, 1) := by decide +kernel
theorem dL_setLabel_19 : decode cL_setLabel 19 = .ok (.astore 5, 2) := by decide +kernel
theorem dL_setLabel_21 : decode cL_setLabel 21 = .ok (.iconst 2, 1) := by decide +kernel
theorem dL_setLabel_22 : decode cL_setLabel 22 = .ok (.ireturn, 1) := by decide +kernel
theorem dL_setLabel_23 : decode cL_setLabel 23 = .ok (.iconst 0, 1) := by decide +kernel
theorem dL_setLabel_24 : decode cL_setLabel 24 = .ok (.ireturn, 1) := by decide +kernel
set_option maxHeartbeats 4000000 in
set_option maxRecDepth 100000 in
theorem c_L_setLabel (l : Launch) {p1 p2 p3 : Int} (hlt : l.stackTraces = false) {D : va_G} {g : GT} {A : Nat → Prop} {a : Nat → Nat} {b : Nat → Nat → Nat} {M : Mem} {Q : Int → Mem → Prop} (hw : wp_X10_setLabel M p1 p2 p3 (fun r M1 => Q 0 (mset M1 14 0 0 (j32 r))) (fun E M1 => (E = "java/lang/IndexOutOfBoundsException" ∧ Q 1 M1) ∨ (E = "java/lang/IllegalArgumentException" ∧ Q 2 M1))) : vx_Met l yL_setLabel wsL_setLabel ({ frames := 10, cells := 3, slots := 18, locals := 180 } : Room) (cPh D g A a b M [.ref (a 0), iv p1, iv p2, iv p3, .ref (b 14 0)]) (cQi D g A a b Q) (cX D g A a b (fun _ _ => False)) 3 18 A := by
  refine vx_ofWH (cc := cL_setLabel) (maxL := 6) (ret := some .int) (hh := [(0, 12, 15, 13), (0, 12, 19, 15)]) (by decide) rfl ?_
  intro p e s m args below meth c s₁ B hml hv
  obtain ⟨rfl, hP, hD, hG, hY⟩ := hv
  have X : vC p s m _ meth c D g A RL wsL_setLabel cL_setLabel 6 := ⟨B.exec, B.bytes, findClass_of_methodNamed B.named, atoms_spec (ws := wsL_setLabel) B.pre, hG, hml, B.notSynchronized⟩
  have htab := vx_table (x := yL_setLabel) (hh := [(0, 12, 15, 13), (0, 12, 19, 15)]) B (X.2.2.2.1 (Cond.codeWith yL_setLabel cL_setLabel 6 (some .int) [(0, 12, 15, 13), (0, 12, 19, 15)]) List.mem_cons_self)
  have hr := B.returns
  have hl := lv_entry ([.ref (a 0), iv p1, iv p2, iv p3, .ref (b 14 0)]) (n := 6) (Nat.le_of_ble_eq_true rfl)
  rw [lg_entry_eq]
  generalize (lg_sl ([.ref (a 0), iv p1, iv p2, iv p3, .ref (b 14 0)]) ++ List.replicate (6 - (lg_sl ([.ref (a 0), iv p1, iv p2, iv p3, .ref (b 14 0)])).length) Slot.unset).toArray = ls at hl ⊢
  have hl : lv_has ls 6 [(0, .ref (a 0)), (1, iv p1), (2, iv p2), (3, iv p3), (4, .ref (b 14 0))] := hl
  suffices hV : vV p l e _ s m _ below meth c D g A a b 6 0 0 (vx_MQ below (cQi D g A a b Q) (cX D g A a b (fun _ _ => False)) _ s 3 18 A) M [(0, .ref (a 0)), (1, iv p1), (2, iv p2), (3, iv p3), (4, .ref (b 14 0))] 0 [] from hV s.heap [] ls hP hD va_S.rf hl
  refine V_aload X dL_setLabel_0 (q := 4) rfl ?_
  refine V_iconst X dL_setLabel_2 ?_
  refine V_aload_n X dL_setLabel_3 rfl (q := 0) rfl ?_
  refine V_iload_n X dL_setLabel_4 rfl (q := 1) rfl ?_
  refine V_iload_n X dL_setLabel_5 rfl (q := 2) rfl ?_
  refine V_iload_n X dL_setLabel_6 rfl (q := 3) rfl ?_
  refine V_callxV_i X _ _ gO_0 rfl (As := [iv p1, iv p2, iv p3]) (st := [iv 0, .ref (b 14 0)]) (c_X10_setLabel l hlt hw) (cwV 3 X.2.2.2.1 gL_setLabel_X10_setLabel rfl rfl rfl (by decide +kernel) ⟨Nat.le_of_ble_eq_true rfl, Nat.le_of_ble_eq_true rfl⟩) rfl (Nat.le_of_ble_eq_true rfl) ⟨Nat.le_of_ble_eq_true rfl, Nat.le_of_ble_eq_true rfl⟩ rfl dL_setLabel_7 (fun E ce q9 M9 H9 locs9 ls9 hx9 hP9 hD9 hS9 hl9 h91 h92 h93 => ?_) (fun r M1 hw => ?_)
  · rcases hx9 with ⟨rfl, hw⟩ | ⟨rfl, hw⟩
    · refine V_catch X [] ⟨0, 12, 15, 13⟩ [⟨0, 12, 19, 15⟩] (by rw [htab]; rfl) (fun z hz => nomatch hz) (by decide +kernel) (by decide) (List.mem_of_getElem? (i := 1) rfl) (hY.2 _ _ (Or.inl rfl)) hP9 hD9 hS9 hl9 h91 h92 h93 (fun q => ?_)
      refine V_astore (lv1 := [(0, .ref (a 0)), (1, iv p1), (2, iv p2), (3, iv p3), (4, .ref (b 14 0)), (5, .ref q)]) X [1, 2, 3, 4, 5, 0] dL_setLabel_15 (by decide) rfl ?_
      refine V_iconst X dL_setLabel_17 ?_
      exact V_xret (Nat.le_of_ble_eq_true rfl) (Nat.le_of_ble_eq_true rfl) (V_iret X hr hw dL_setLabel_18)
    · refine V_catch X [⟨0, 12, 15, 13⟩] ⟨0, 12, 19, 15⟩ [] (by rw [htab]; rfl) (fun z hz => ?_) (by decide +kernel) (by decide) (List.mem_of_getElem? (i := 2) rfl) (hY.2 _ _ (Or.inr (Or.inl rfl))) hP9 hD9 hS9 hl9 h91 h92 h93 (fun q => ?_)
      · rw [List.mem_singleton] at hz
        subst hz
        exact Or.inr ⟨by decide, _, List.mem_of_getElem? (i := 1) rfl, hY.1.1⟩
      · refine V_astore (lv1 := [(0, .ref (a 0)), (1, iv p1), (2, iv p2), (3, iv p3), (4, .ref (b 14 0)), (5, .ref q)]) X [1, 2, 3, 4, 5, 0] dL_setLabel_19 (by decide) rfl ?_
        refine V_iconst X dL_setLabel_21 ?_
        exact V_xret (Nat.le_of_ble_eq_true rfl) (Nat.le_of_ble_eq_true rfl) (V_iret X hr hw dL_setLabel_22)
  · refine V_i2l X dL_setLabel_10 (V_last0 X dL_setLabel_11 (fun M2 e2 => ?_))
    subst e2
    refine V_goto (tgt := 23) X dL_setLabel_12 (by decide) ?_
    refine V_iconst X dL_setLabel_23 ?_
    exact V_xret (Nat.le_of_ble_eq_true rfl) (Nat.le_of_ble_eq_true rfl) (V_iret X hr hw dL_setLabel_24)
