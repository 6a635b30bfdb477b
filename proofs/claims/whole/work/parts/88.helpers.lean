/-! the law's helpers -/
set_option maxRecDepth 20000 in
theorem ggL_addRoot_X10_addRoot : GoodIn wsL_addRoot wsX10_addRoot := goodIn_ca (goodIn_ca (goodIn_ca (goodIn_r _ [8, 9, 10, 11, 12, 13, 14, 7, 15, 16, 17, 18, 19, 20, 21, 22, 23, 24, 25, 26, 27, 28, 29, 30, 31, 32, 33, 34, 35, 36, 37, 38, 39, 40, 41, 42, 43, 44, 45, 46, 47, 48, 49, 50, 51, 52, 53, 54, 55, 56, 57, 58, 59, 60, 61, 62, 63, 64, 65, 66, 67, 68, 69, 70, 71] (by decide +kernel) (by decide +kernel)) (goodIn_sub (fun _ h => List.mem_cons_of_mem _ (List.mem_append_left _ (List.mem_append_left _ (List.mem_append_right _ h)))) (by decide +kernel))) (goodIn_sub (fun _ h => List.mem_cons_of_mem _ (List.mem_append_left _ (List.mem_append_right _ h))) (by decide +kernel))) (goodIn_sub (fun _ h => List.mem_cons_of_mem _ (List.mem_append_right _ h)) (by decide +kernel))
set_option maxRecDepth 20000 in
theorem gL_addRoot_X10_addRoot : GoodIn wsL_addRoot (wsV RL 7 RX10 yX10_addRoot wsX10_addRoot) := goodIn_app (goodIn_of _ (by decide +kernel)) ggL_addRoot_X10_addRoot
theorem dL_addRoot_0 : decode cL_addRoot 0 = .ok (.aload_n 0, 1) := by decide +kernel
theorem dL_addRoot_1 : decode cL_addRoot 1 = .ok (.iload_n 1, 1) := by decide +kernel
theorem dL_addRoot_2 : decode cL_addRoot 2 = .ok (.iload_n 2, 1) := by decide +kernel
theorem dL_addRoot_3 : decode cL_addRoot 3 = .ok (.iload_n 3, 1) := by decide +kernel
theorem dL_addRoot_4 : decode cL_addRoot 4 = .ok (.invokevirtual 7, 3) := by decide +kernel
theorem dL_addRoot_7 : decode cL_addRoot 7 = .ok (.goto 15, 3) := by decide +kernel
theorem dL_addRoot_10 : decode cL_addRoot 10 = .ok (.astore 4, 2) := by decide +kernel
theorem dL_addRoot_12 : decode cL_addRoot 12 = .ok (.iconst 1, 1) := by decide +kernel
theorem dL_addRoot_13 : decode cL_addRoot 13 = .ok (.ireturn, 1) := by decide +kernel
theorem dL_addRoot_14 : decode cL_addRoot 14 = .ok (.astore 4, 2) := by decide +kernel
theorem dL_addRoot_16 : decode cL_addRoot 16 = .ok (.iconst 2, 1) := by decide +kernel
theorem dL_addRoot_17 : decode cL_addRoot 17 = .ok (.ireturn, 1) := by decide +kernel
theorem dL_addRoot_18 : decode cL_addRoot 18 = .ok (.astore 4, 2) := by decide +kernel
theorem dL_addRoot_20 : decode cL_addRoot 20 = .ok (.iconst 3, 1) := by decide +kernel
theorem dL_addRoot_21 : decode cL_addRoot 21 = .ok (.ireturn, 1) := by decide +kernel
theorem dL_addRoot_22 : decode cL_addRoot 22 = .ok (.iconst 0, 1) := by decide +kernel
theorem dL_addRoot_23 : decode cL_addRoot 23 = .ok (.ireturn, 1) := by decide +kernel
set_option maxHeartbeats 4000000 in
set_option maxRecDepth 100000 in
theorem c_L_addRoot (l : Launch) {p1 p2 p3 : Int} (hlt : l.stackTraces = false) {D : va_G} {g : GT} {A : Nat → Prop} {a : Nat → Nat} {b : Nat → Nat → Nat} {M : Mem} {Q : Int → Mem → Prop} (hw : wp_X10_addRoot M p1 p2 p3 (fun M1 => Q 0 M1) (fun E M1 => (E = "java/lang/IndexOutOfBoundsException" ∧ Q 1 M1) ∨ (E = "java/lang/IllegalArgumentException" ∧ Q 2 M1) ∨ (E = "java/lang/IllegalStateException" ∧ Q 3 M1))) : vx_Met l yL_addRoot wsL_addRoot ({ frames := 9, cells := 4, slots := 24, locals := 172 } : Room) (cPh D g A a b M [.ref (a 0), iv p1, iv p2, iv p3]) (cQi D g A a b Q) (cX D g A a b (fun _ _ => False)) 4 24 A := by
  refine vx_ofWH (cc := cL_addRoot) (maxL := 5) (ret := some .int) (hh := [(0, 7, 10, 13), (0, 7, 14, 15), (0, 7, 18, 17)]) (by decide) rfl ?_
  intro p e s m args below meth c s₁ B hml hv
  obtain ⟨rfl, hP, hD, hG, hY⟩ := hv
  have X : vC p s m _ meth c D g A RL wsL_addRoot cL_addRoot 5 := ⟨B.exec, B.bytes, findClass_of_methodNamed B.named, atoms_spec (ws := wsL_addRoot) B.pre, hG, hml, B.notSynchronized⟩
  have htab := vx_table (x := yL_addRoot) (hh := [(0, 7, 10, 13), (0, 7, 14, 15), (0, 7, 18, 17)]) B (X.2.2.2.1 (Cond.codeWith yL_addRoot cL_addRoot 5 (some .int) [(0, 7, 10, 13), (0, 7, 14, 15), (0, 7, 18, 17)]) List.mem_cons_self)
  have hr := B.returns
  have hl := lv_entry ([.ref (a 0), iv p1, iv p2, iv p3]) (n := 5) (Nat.le_of_ble_eq_true rfl)
  rw [lg_entry_eq]
  generalize (lg_sl ([.ref (a 0), iv p1, iv p2, iv p3]) ++ List.replicate (5 - (lg_sl ([.ref (a 0), iv p1, iv p2, iv p3])).length) Slot.unset).toArray = ls at hl ⊢
  have hl : lv_has ls 5 [(0, .ref (a 0)), (1, iv p1), (2, iv p2), (3, iv p3)] := hl
  suffices hV : vV p l e _ s m _ below meth c D g A a b 5 0 0 (vx_MQ below (cQi D g A a b Q) (cX D g A a b (fun _ _ => False)) _ s 4 24 A) M [(0, .ref (a 0)), (1, iv p1), (2, iv p2), (3, iv p3)] 0 [] from hV s.heap [] ls hP hD va_S.rf hl
  refine V_aload_n X dL_addRoot_0 rfl (q := 0) rfl ?_
  refine V_iload_n X dL_addRoot_1 rfl (q := 1) rfl ?_
  refine V_iload_n X dL_addRoot_2 rfl (q := 2) rfl ?_
  refine V_iload_n X dL_addRoot_3 rfl (q := 3) rfl ?_
  refine V_callxV_v X _ _ gO_0 rfl (As := [iv p1, iv p2, iv p3]) (st := []) (c_X10_addRoot l hlt hw) (cwV 3 X.2.2.2.1 gL_addRoot_X10_addRoot rfl rfl rfl (by decide +kernel) ⟨Nat.le_of_ble_eq_true rfl, Nat.le_of_ble_eq_true rfl⟩) rfl (Nat.le_of_ble_eq_true rfl) ⟨Nat.le_of_ble_eq_true rfl, Nat.le_of_ble_eq_true rfl⟩ rfl dL_addRoot_4 (fun E ce q9 M9 H9 locs9 ls9 hx9 hP9 hD9 hS9 hl9 h91 h92 h93 => ?_) (fun M1 hw => ?_)
  · rcases hx9 with ⟨rfl, hw⟩ | ⟨rfl, hw⟩ | ⟨rfl, hw⟩
    · refine V_catch X [] ⟨0, 7, 10, 13⟩ [⟨0, 7, 14, 15⟩, ⟨0, 7, 18, 17⟩] (by rw [htab]; rfl) (fun z hz => ?_) (by decide +kernel) (by decide) (List.mem_of_getElem? (i := 1) rfl) (hY.2 _ _ (Or.inl rfl)) hP9 hD9 hS9 hl9 h91 h92 h93 (fun q => ?_)
      · exact nomatch hz
      · refine V_astore (lv1 := [(0, .ref (a 0)), (1, iv p1), (2, iv p2), (3, iv p3), (4, .ref q)]) X [1, 2, 3, 4, 0] dL_addRoot_10 (by decide) rfl ?_
        refine V_iconst X dL_addRoot_12 ?_
        exact V_xret (Nat.le_of_ble_eq_true rfl) (Nat.le_of_ble_eq_true rfl) (V_iret X hr hw dL_addRoot_13)
    · refine V_catch X [⟨0, 7, 10, 13⟩] ⟨0, 7, 14, 15⟩ [⟨0, 7, 18, 17⟩] (by rw [htab]; rfl) (fun z hz => ?_) (by decide +kernel) (by decide) (List.mem_of_getElem? (i := 2) rfl) (hY.2 _ _ (Or.inr (Or.inl rfl))) hP9 hD9 hS9 hl9 h91 h92 h93 (fun q => ?_)
      · have hz2 : z = ⟨0, 7, 10, 13⟩ := by
          simpa using hz
        subst hz2
        exact Or.inr ⟨by decide, _, List.mem_of_getElem? (i := 1) rfl, hY.1.1⟩
      · refine V_astore (lv1 := [(0, .ref (a 0)), (1, iv p1), (2, iv p2), (3, iv p3), (4, .ref q)]) X [1, 2, 3, 4, 0] dL_addRoot_14 (by decide) rfl ?_
        refine V_iconst X dL_addRoot_16 ?_
        exact V_xret (Nat.le_of_ble_eq_true rfl) (Nat.le_of_ble_eq_true rfl) (V_iret X hr hw dL_addRoot_17)
    · refine V_catch X [⟨0, 7, 10, 13⟩, ⟨0, 7, 14, 15⟩] ⟨0, 7, 18, 17⟩ [] (by rw [htab]; rfl) (fun z hz => ?_) (by decide +kernel) (by decide) (List.mem_of_getElem? (i := 3) rfl) (hY.2 _ _ (Or.inr (Or.inr rfl))) hP9 hD9 hS9 hl9 h91 h92 h93 (fun q => ?_)
      · have hz2 : z = ⟨0, 7, 10, 13⟩ ∨ z = ⟨0, 7, 14, 15⟩ := by
          simpa using hz
        rcases hz2 with rfl | rfl
        · exact Or.inr ⟨by decide, _, List.mem_of_getElem? (i := 1) rfl, hY.1.2.1⟩
        · exact Or.inr ⟨by decide, _, List.mem_of_getElem? (i := 2) rfl, hY.1.2.2⟩
      · refine V_astore (lv1 := [(0, .ref (a 0)), (1, iv p1), (2, iv p2), (3, iv p3), (4, .ref q)]) X [1, 2, 3, 4, 0] dL_addRoot_18 (by decide) rfl ?_
        refine V_iconst X dL_addRoot_20 ?_
        exact V_xret (Nat.le_of_ble_eq_true rfl) (Nat.le_of_ble_eq_true rfl) (V_iret X hr hw dL_addRoot_21)
  · exact V_goto (tgt := 22) X dL_addRoot_7 (by decide) (V_iconst X dL_addRoot_22 (V_xret (Nat.le_of_ble_eq_true rfl) (Nat.le_of_ble_eq_true rfl) (V_iret X hr hw dL_addRoot_23)))
set_option maxRecDepth 20000 in
theorem ggL_add_X10_add : GoodIn wsL_add wsX10_add := goodIn_ca (goodIn_ca (goodIn_ca (goodIn_r _ [8, 9, 10, 11, 12, 13, 14, 7, 15, 16, 17, 18, 19, 20, 21, 22, 23, 24, 25, 26, 27, 28, 29, 30, 31, 32, 33, 34, 35, 36, 37, 38, 39, 40, 41, 42, 43, 44, 45, 46, 47, 48, 49, 50, 51, 52, 53, 54, 55, 56, 57, 58, 59, 60, 61, 62, 63, 64, 65, 66, 67, 68, 69, 70, 71, 72, 73, 74, 75, 76, 77, 78, 79, 80, 81, 82, 83, 84, 85, 86, 87, 88, 89] (by decide +kernel) (by decide +kernel)) (goodIn_sub (fun _ h => List.mem_cons_of_mem _ (List.mem_append_left _ (List.mem_append_left _ (List.mem_append_right _ h)))) (by decide +kernel))) (goodIn_sub (fun _ h => List.mem_cons_of_mem _ (List.mem_append_left _ (List.mem_append_right _ h))) (by decide +kernel))) (goodIn_sub (fun _ h => List.mem_cons_of_mem _ (List.mem_append_right _ h)) (by decide +kernel))
set_option maxRecDepth 20000 in
theorem gL_add_X10_add : GoodIn wsL_add (wsV RL 19 RX10 yX10_add wsX10_add) := goodIn_app (goodIn_of _ (by decide +kernel)) ggL_add_X10_add
theorem dL_add_0 : decode cL_add 0 = .ok (.aload 6, 2) := by decide +kernel
theorem dL_add_2 : decode cL_add 2 = .ok (.iconst 0, 1) := by decide +kernel
theorem dL_add_3 : decode cL_add 3 = .ok (.aload_n 0, 1) := by decide +kernel
theorem dL_add_4 : decode cL_add 4 = .ok (.iload_n 1, 1) := by decide +kernel
theorem dL_add_5 : decode cL_add 5 = .ok (.iload_n 2, 1) := by decide +kernel
theorem dL_add_6 : decode cL_add 6 = .ok (.iload_n 3, 1) := by decide +kernel
theorem dL_add_7 : decode cL_add 7 = .ok (.iload 4, 2) := by decide +kernel
theorem dL_add_9 : decode cL_add 9 = .ok (.iload 5, 2) := by decide +kernel
theorem dL_add_11 : decode cL_add 11 = .ok (.invokevirtual 19, 3) := by decide +kernel
theorem dL_add_14 : decode cL_add 14 = .ok (.i2l, 1) := by decide +kernel
theorem dL_add_15 : decode cL_add 15 = .ok (.lastore, 1) := by decide +kernel
theorem dL_add_16 : decode cL_add 16 = .ok (.goto 15, 3) := by decide +kernel
theorem dL_add_19 : decode cL_add 19 = .ok (.astore 7, 2) := by decide +kernel
theorem dL_add_21 : decode cL_add 21 = .ok (.iconst 1, 1) := by decide +kernel
theorem dL_add_22 : decode cL_add 22 = .ok (.ireturn, 1) := by decide +kernel
theorem dL_add_23 : decode cL_add 23 = .ok (.astore 7, 2) := by decide +kernel
theorem dL_add_25 : decode cL_add 25 = .ok (.iconst 2, 1) := by decide +kernel
theorem dL_add_26 : decode cL_add 26 = .ok (.ireturn, 1) := by decide +kernel
theorem dL_add_27 : decode cL_add 27 = .ok (.astore 7, 2) := by decide +kernel
theorem dL_add_29 : decode cL_add 29 = .ok (.iconst 3, 1) := by decide +kernel
theorem dL_add_30 : decode cL_add 30 = .ok (.ireturn, 1) := by decide +kernel
theorem dL_add_31 : decode cL_add 31 = .ok (.iconst 0, 1) := by decide +kernel
theorem dL_add_32 : decode cL_add 32 = .ok (.ireturn, 1) := by decide +kernel
set_option maxHeartbeats 4000000 in
set_option maxRecDepth 100000 in
theorem c_L_add (l : Launch) {p1 p2 p3 p4 p5 : Int} (hlt : l.stackTraces = false) {D : va_G} {g : GT} {A : Nat → Prop} {a : Nat → Nat} {b : Nat → Nat → Nat} {M : Mem} {Q : Int → Mem → Prop} (hw : wp_X10_add M p1 p2 p3 p4 p5 (fun r M1 => Q 0 (mset M1 14 0 0 (j32 r))) (fun E M1 => (E = "java/lang/IndexOutOfBoundsException" ∧ Q 1 M1) ∨ (E = "java/lang/IllegalArgumentException" ∧ Q 2 M1) ∨ (E = "java/lang/IllegalStateException" ∧ Q 3 M1))) : vx_Met l yL_add wsL_add ({ frames := 10, cells := 6, slots := 36, locals := 195 } : Room) (cPh D g A a b M [.ref (a 0), iv p1, iv p2, iv p3, iv p4, iv p5, .ref (b 14 0)]) (cQi D g A a b Q) (cX D g A a b (fun _ _ => False)) 6 36 A := by
  refine vx_ofWH (cc := cL_add) (maxL := 8) (ret := some .int) (hh := [(0, 16, 19, 13), (0, 16, 23, 15), (0, 16, 27, 17)]) (by decide) rfl ?_
  intro p e s m args below meth c s₁ B hml hv
  obtain ⟨rfl, hP, hD, hG, hY⟩ := hv
  have X : vC p s m _ meth c D g A RL wsL_add cL_add 8 := ⟨B.exec, B.bytes, findClass_of_methodNamed B.named, atoms_spec (ws := wsL_add) B.pre, hG, hml, B.notSynchronized⟩
  have htab := vx_table (x := yL_add) (hh := [(0, 16, 19, 13), (0, 16, 23, 15), (0, 16, 27, 17)]) B (X.2.2.2.1 (Cond.codeWith yL_add cL_add 8 (some .int) [(0, 16, 19, 13), (0, 16, 23, 15), (0, 16, 27, 17)]) List.mem_cons_self)
  have hr := B.returns
  have hl := lv_entry ([.ref (a 0), iv p1, iv p2, iv p3, iv p4, iv p5, .ref (b 14 0)]) (n := 8) (Nat.le_of_ble_eq_true rfl)
  rw [lg_entry_eq]
  generalize (lg_sl ([.ref (a 0), iv p1, iv p2, iv p3, iv p4, iv p5, .ref (b 14 0)]) ++ List.replicate (8 - (lg_sl ([.ref (a 0), iv p1, iv p2, iv p3, iv p4, iv p5, .ref (b 14 0)])).length) Slot.unset).toArray = ls at hl ⊢
  have hl : lv_has ls 8 [(0, .ref (a 0)), (1, iv p1), (2, iv p2), (3, iv p3), (4, iv p4), (5, iv p5), (6, .ref (b 14 0))] := hl
  suffices hV : vV p l e _ s m _ below meth c D g A a b 8 0 0 (vx_MQ below (cQi D g A a b Q) (cX D g A a b (fun _ _ => False)) _ s 6 36 A) M [(0, .ref (a 0)), (1, iv p1), (2, iv p2), (3, iv p3), (4, iv p4), (5, iv p5), (6, .ref (b 14 0))] 0 [] from hV s.heap [] ls hP hD va_S.rf hl
  refine V_aload X dL_add_0 (q := 6) rfl ?_
  refine V_iconst X dL_add_2 ?_
  refine V_aload_n X dL_add_3 rfl (q := 0) rfl ?_
  refine V_iload_n X dL_add_4 rfl (q := 1) rfl ?_
  refine V_iload_n X dL_add_5 rfl (q := 2) rfl ?_
  refine V_iload_n X dL_add_6 rfl (q := 3) rfl ?_
  refine V_iload X dL_add_7 (q := 4) rfl ?_
  refine V_iload X dL_add_9 (q := 5) rfl ?_
  refine V_callxV_i X _ _ gO_0 rfl (As := [iv p1, iv p2, iv p3, iv p4, iv p5]) (st := [iv 0, .ref (b 14 0)]) (c_X10_add l hlt hw) (cwV 5 X.2.2.2.1 gL_add_X10_add rfl rfl rfl (by decide +kernel) ⟨Nat.le_of_ble_eq_true rfl, Nat.le_of_ble_eq_true rfl⟩) rfl (Nat.le_of_ble_eq_true rfl) ⟨Nat.le_of_ble_eq_true rfl, Nat.le_of_ble_eq_true rfl⟩ rfl dL_add_11 (fun E ce q9 M9 H9 locs9 ls9 hx9 hP9 hD9 hS9 hl9 h91 h92 h93 => ?_) (fun r M1 hw => ?_)
  · rcases hx9 with ⟨rfl, hw⟩ | ⟨rfl, hw⟩ | ⟨rfl, hw⟩
    · refine V_catch X [] ⟨0, 16, 19, 13⟩ [⟨0, 16, 23, 15⟩, ⟨0, 16, 27, 17⟩] (by rw [htab]; rfl) (fun z hz => ?_) (by decide +kernel) (by decide) (List.mem_of_getElem? (i := 1) rfl) (hY.2 _ _ (Or.inl rfl)) hP9 hD9 hS9 hl9 h91 h92 h93 (fun q => ?_)
      · exact nomatch hz
      · refine V_astore (lv1 := [(0, .ref (a 0)), (1, iv p1), (2, iv p2), (3, iv p3), (4, iv p4), (5, iv p5), (6, .ref (b 14 0)), (7, .ref q)]) X [1, 2, 3, 4, 5, 6, 7, 0] dL_add_19 (by decide) rfl ?_
        refine V_iconst X dL_add_21 ?_
        exact V_xret (Nat.le_of_ble_eq_true rfl) (Nat.le_of_ble_eq_true rfl) (V_iret X hr hw dL_add_22)
    · refine V_catch X [⟨0, 16, 19, 13⟩] ⟨0, 16, 23, 15⟩ [⟨0, 16, 27, 17⟩] (by rw [htab]; rfl) (fun z hz => ?_) (by decide +kernel) (by decide) (List.mem_of_getElem? (i := 2) rfl) (hY.2 _ _ (Or.inr (Or.inl rfl))) hP9 hD9 hS9 hl9 h91 h92 h93 (fun q => ?_)
      · have hz2 : z = ⟨0, 16, 19, 13⟩ := by
          simpa using hz
        subst hz2
        exact Or.inr ⟨by decide, _, List.mem_of_getElem? (i := 1) rfl, hY.1.1⟩
      · refine V_astore (lv1 := [(0, .ref (a 0)), (1, iv p1), (2, iv p2), (3, iv p3), (4, iv p4), (5, iv p5), (6, .ref (b 14 0)), (7, .ref q)]) X [1, 2, 3, 4, 5, 6, 7, 0] dL_add_23 (by decide) rfl ?_
        refine V_iconst X dL_add_25 ?_
        exact V_xret (Nat.le_of_ble_eq_true rfl) (Nat.le_of_ble_eq_true rfl) (V_iret X hr hw dL_add_26)
    · refine V_catch X [⟨0, 16, 19, 13⟩, ⟨0, 16, 23, 15⟩] ⟨0, 16, 27, 17⟩ [] (by rw [htab]; rfl) (fun z hz => ?_) (by decide +kernel) (by decide) (List.mem_of_getElem? (i := 3) rfl) (hY.2 _ _ (Or.inr (Or.inr rfl))) hP9 hD9 hS9 hl9 h91 h92 h93 (fun q => ?_)
      · have hz2 : z = ⟨0, 16, 19, 13⟩ ∨ z = ⟨0, 16, 23, 15⟩ := by
          simpa using hz
        rcases hz2 with rfl | rfl
        · exact Or.inr ⟨by decide, _, List.mem_of_getElem? (i := 1) rfl, hY.1.2.1⟩
        · exact Or.inr ⟨by decide, _, List.mem_of_getElem? (i := 2) rfl, hY.1.2.2⟩
      · refine V_astore (lv1 := [(0, .ref (a 0)), (1, iv p1), (2, iv p2), (3, iv p3), (4, iv p4), (5, iv p5), (6, .ref (b 14 0)), (7, .ref q)]) X [1, 2, 3, 4, 5, 6, 7, 0] dL_add_27 (by decide) rfl ?_
        refine V_iconst X dL_add_29 ?_
        exact V_xret (Nat.le_of_ble_eq_true rfl) (Nat.le_of_ble_eq_true rfl) (V_iret X hr hw dL_add_30)
  · refine V_i2l X dL_add_14 (V_last0 X dL_add_15 (fun M2 e2 => ?_))
    subst e2
    exact V_goto (tgt := 31) X dL_add_16 (by decide) (V_iconst X dL_add_31 (V_xret (Nat.le_of_ble_eq_true rfl) (Nat.le_of_ble_eq_true rfl) (V_iret X hr hw dL_add_32)))
set_option maxRecDepth 20000 in
theorem ggL_setLabel_X10_setLabel : GoodIn wsL_setLabel wsX10_setLabel := goodIn_ca (goodIn_ca (goodIn_r _ [7, 8, 9, 10, 11, 6, 12, 13, 14, 15, 16, 17, 18, 19, 20, 21, 22, 23, 24, 25, 26, 27, 28, 29, 30, 31, 32, 33, 34, 35, 36, 37, 38, 39, 40, 41, 42, 43, 44, 45, 46, 47, 48, 49, 50, 51] (by decide +kernel) (by decide +kernel)) (goodIn_sub (fun _ h => List.mem_cons_of_mem _ (List.mem_append_left _ (List.mem_append_right _ h))) (by decide +kernel))) (goodIn_sub (fun _ h => List.mem_cons_of_mem _ (List.mem_append_right _ h)) (by decide +kernel))
set_option maxRecDepth 20000 in
theorem gL_setLabel_X10_setLabel : GoodIn wsL_setLabel (wsV RL 23 RX10 yX10_setLabel wsX10_setLabel) := goodIn_app (goodIn_of _ (by decide +kernel)) ggL_setLabel_X10_setLabel
theorem dL_setLabel_0 : decode cL_setLabel 0 = .ok (.aload 4, 2) := by decide +kernel
theorem dL_setLabel_2 : decode cL_setLabel 2 = .ok (.iconst 0, 1) := by decide +kernel
theorem dL_setLabel_3 : decode cL_setLabel 3 = .ok (.aload_n 0, 1) := by decide +kernel
theorem dL_setLabel_4 : decode cL_setLabel 4 = .ok (.iload_n 1, 1) := by decide +kernel
theorem dL_setLabel_5 : decode cL_setLabel 5 = .ok (.iload_n 2, 1) := by decide +kernel
theorem dL_setLabel_6 : decode cL_setLabel 6 = .ok (.iload_n 3, 1) := by decide +kernel
theorem dL_setLabel_7 : decode cL_setLabel 7 = .ok (.invokevirtual 23, 3) := by decide +kernel
theorem dL_setLabel_10 : decode cL_setLabel 10 = .ok (.i2l, 1) := by decide +kernel
theorem dL_setLabel_11 : decode cL_setLabel 11 = .ok (.lastore, 1) := by decide +kernel
theorem dL_setLabel_12 : decode cL_setLabel 12 = .ok (.goto 11, 3) := by decide +kernel
theorem dL_setLabel_15 : decode cL_setLabel 15 = .ok (.astore 5, 2) := by decide +kernel
theorem dL_setLabel_17 : decode cL_setLabel 17 = .ok (.iconst 1, 1) := by decide +kernel
theorem dL_setLabel_18 : decode cL_setLabel 18 = .ok (.ireturn, 1) := by decide +kernel
theorem dL_setLabel_19 : decode cL_setLabel 19 = .ok (.astore 5, 2) := by decide +kernel
theorem dL_setLabel_21 : decode cL_setLabel 21 = .ok (.iconst 2, 1) := by decide +kernel
theorem dL_setLabel_22 : decode cL_setLabel 22 = .ok (.ireturn, 1) := by decide +kernel
theorem dL_setLabel_23 : decode cL_setLabel 23 = .ok (.iconst 0, 1) := by decide +kernel
theorem dL_setLabel_24 : decode cL_setLabel 24 = .ok (.ireturn, 1) := by decide +kernel
set_option maxHeartbeats 4000000 in
set_option maxRecDepth 100000 in
theorem c_L_setLabel (l : Launch) {p1 p2 p3 : Int} (hlt : l.stackTraces = false) {D : va_G} {g : GT} {A : Nat → Prop} {a : Nat → Nat} {b : Nat → Nat → Nat} {M : Mem} {Q : Int → Mem → Prop} (hw : wp_X10_setLabel M p1 p2 p3 (fun r M1 => Q 0 (mset M1 14 0 0 (j32 r))) (fun E M1 => (E = "java/lang/IndexOutOfBoundsException" ∧ Q 1 M1) ∨ (E = "java/lang/IllegalArgumentException" ∧ Q 2 M1))) : vx_Met l yL_setLabel wsL_setLabel ({ frames := 10, cells := 3, slots := 18, locals := 195 } : Room) (cPh D g A a b M [.ref (a 0), iv p1, iv p2, iv p3, .ref (b 14 0)]) (cQi D g A a b Q) (cX D g A a b (fun _ _ => False)) 3 18 A := by
  refine vx_ofWH (cc := cL_setLabel) (maxL := 6) (ret := some .int) (hh := [(0, 12, 15, 13), (0, 12, 19, 15)]) (by decide) rfl ?_
  intro p e s m args below meth c s₁ B hml hv
  obtain ⟨rfl, hP, hD, hG, hY⟩ := hv
  have X : vC p s m _ meth c D g A RL wsL_setLabel cL_setLabel 6 := ⟨B.exec, B.bytes, findClass_of_methodNamed B.named, atoms_spec (ws := wsL_setLabel) B.pre, hG, hml, B.notSynchronized⟩
  have htab := vx_table (x := yL_setLabel) (hh := [(0, 12, 15, 13), (0, 12, 19, 15)]) B (X.2.2.2.1 (Cond.codeWith yL_setLabel cL_setLabel 6 (some .int) [(0, 12, 15, 13), (0, 12, 19, 15)]) List.mem_cons_self)
  have hr := B.returns
  have hl := lv_entry ([.ref (a 0), iv p1, iv p2, iv p3, .ref (b 14 0)]) (n := 6) (Nat.le_of_ble_eq_true rfl)
  rw [lg_entry_eq]
  generalize (lg_sl ([.ref (a 0), iv p1, iv p2, iv p3, .ref (b 14 0)]) ++ List.replicate (6 - (lg_sl ([.ref (a 0), iv p1, iv p2, iv p3, .ref (b 14 0)])).length) Slot.unset).toArray = ls at hl ⊢
  have hl : lv_has ls 6 [(0, .ref (a 0)), (1, iv p1), (2, iv p2), (3, iv p3), (4, .ref (b 14 0))] := hl
  suffices hV : vV p l e _ s m _ below meth c D g A a b 6 0 0 (vx_MQ below (cQi D g A a b Q) (cX D g A a b (fun _ _ => False)) _ s 3 18 A) M [(0, .ref (a 0)), (1, iv p1), (2, iv p2), (3, iv p3), (4, .ref (b 14 0))] 0 [] from hV s.heap [] ls hP hD va_S.rf hl
  refine V_aload X dL_setLabel_0 (q := 4) rfl ?_
  refine V_iconst X dL_setLabel_2 ?_
  refine V_aload_n X dL_setLabel_3 rfl (q := 0) rfl ?_
  refine V_iload_n X dL_setLabel_4 rfl (q := 1) rfl ?_
  refine V_iload_n X dL_setLabel_5 rfl (q := 2) rfl ?_
  refine V_iload_n X dL_setLabel_6 rfl (q := 3) rfl ?_
  refine V_callxV_i X _ _ gO_0 rfl (As := [iv p1, iv p2, iv p3]) (st := [iv 0, .ref (b 14 0)]) (c_X10_setLabel l hlt hw) (cwV 3 X.2.2.2.1 gL_setLabel_X10_setLabel rfl rfl rfl (by decide +kernel) ⟨Nat.le_of_ble_eq_true rfl, Nat.le_of_ble_eq_true rfl⟩) rfl (Nat.le_of_ble_eq_true rfl) ⟨Nat.le_of_ble_eq_true rfl, Nat.le_of_ble_eq_true rfl⟩ rfl dL_setLabel_7 (fun E ce q9 M9 H9 locs9 ls9 hx9 hP9 hD9 hS9 hl9 h91 h92 h93 => ?_) (fun r M1 hw => ?_)
  · rcases hx9 with ⟨rfl, hw⟩ | ⟨rfl, hw⟩
    · refine V_catch X [] ⟨0, 12, 15, 13⟩ [⟨0, 12, 19, 15⟩] (by rw [htab]; rfl) (fun z hz => ?_) (by decide +kernel) (by decide) (List.mem_of_getElem? (i := 1) rfl) (hY.2 _ _ (Or.inl rfl)) hP9 hD9 hS9 hl9 h91 h92 h93 (fun q => ?_)
      · exact nomatch hz
      · refine V_astore (lv1 := [(0, .ref (a 0)), (1, iv p1), (2, iv p2), (3, iv p3), (4, .ref (b 14 0)), (5, .ref q)]) X [1, 2, 3, 4, 5, 0] dL_setLabel_15 (by decide) rfl ?_
        refine V_iconst X dL_setLabel_17 ?_
        exact V_xret (Nat.le_of_ble_eq_true rfl) (Nat.le_of_ble_eq_true rfl) (V_iret X hr hw dL_setLabel_18)
    · refine V_catch X [⟨0, 12, 15, 13⟩] ⟨0, 12, 19, 15⟩ [] (by rw [htab]; rfl) (fun z hz => ?_) (by decide +kernel) (by decide) (List.mem_of_getElem? (i := 2) rfl) (hY.2 _ _ (Or.inr (Or.inl rfl))) hP9 hD9 hS9 hl9 h91 h92 h93 (fun q => ?_)
      · have hz2 : z = ⟨0, 12, 15, 13⟩ := by
          simpa using hz
        subst hz2
        exact Or.inr ⟨by decide, _, List.mem_of_getElem? (i := 1) rfl, hY.1.1⟩
      · refine V_astore (lv1 := [(0, .ref (a 0)), (1, iv p1), (2, iv p2), (3, iv p3), (4, .ref (b 14 0)), (5, .ref q)]) X [1, 2, 3, 4, 5, 0] dL_setLabel_19 (by decide) rfl ?_
        refine V_iconst X dL_setLabel_21 ?_
        exact V_xret (Nat.le_of_ble_eq_true rfl) (Nat.le_of_ble_eq_true rfl) (V_iret X hr hw dL_setLabel_22)
  · refine V_i2l X dL_setLabel_10 (V_last0 X dL_setLabel_11 (fun M2 e2 => ?_))
    subst e2
    exact V_goto (tgt := 23) X dL_setLabel_12 (by decide) (V_iconst X dL_setLabel_23 (V_xret (Nat.le_of_ble_eq_true rfl) (Nat.le_of_ble_eq_true rfl) (V_iret X hr hw dL_setLabel_24)))
set_option maxRecDepth 20000 in
theorem ggL_clear_X10_clear : GoodIn wsL_clear wsX10_clear := goodIn_ca (goodIn_r _ [6, 7, 8, 9, 10, 5, 11, 12, 13, 14, 15, 16, 17, 18, 19, 20, 21, 22, 23, 24, 25, 26, 27, 28, 29, 30, 31, 32, 33, 34, 35, 36, 37, 38, 39, 40, 41] (by decide +kernel) (by decide +kernel)) (goodIn_sub (fun _ h => List.mem_cons_of_mem _ (List.mem_append_right _ h)) (by decide +kernel))
set_option maxRecDepth 20000 in
theorem gL_clear_X10_clear : GoodIn wsL_clear (wsV RL 27 RX10 yX10_clear wsX10_clear) := goodIn_app (goodIn_of _ (by decide +kernel)) ggL_clear_X10_clear
theorem dL_clear_0 : decode cL_clear 0 = .ok (.aload_n 0, 1) := by decide +kernel
theorem dL_clear_1 : decode cL_clear 1 = .ok (.iload_n 1, 1) := by decide +kernel
theorem dL_clear_2 : decode cL_clear 2 = .ok (.invokevirtual 27, 3) := by decide +kernel
theorem dL_clear_5 : decode cL_clear 5 = .ok (.goto 6, 3) := by decide +kernel
theorem dL_clear_8 : decode cL_clear 8 = .ok (.astore_n 2, 1) := by decide +kernel
theorem dL_clear_9 : decode cL_clear 9 = .ok (.iconst 1, 1) := by decide +kernel
theorem dL_clear_10 : decode cL_clear 10 = .ok (.ireturn, 1) := by decide +kernel
theorem dL_clear_11 : decode cL_clear 11 = .ok (.iconst 0, 1) := by decide +kernel
theorem dL_clear_12 : decode cL_clear 12 = .ok (.ireturn, 1) := by decide +kernel
set_option maxHeartbeats 4000000 in
set_option maxRecDepth 100000 in
theorem c_L_clear (l : Launch) {p1 : Int} (hlt : l.stackTraces = false) {D : va_G} {g : GT} {A : Nat → Prop} {a : Nat → Nat} {b : Nat → Nat → Nat} {M : Mem} {Q : Int → Mem → Prop} (hw : wp_X10_clear M p1 (fun M1 => Q 0 M1) (fun E M1 => (E = "java/lang/IndexOutOfBoundsException" ∧ Q 1 M1))) : vx_Met l yL_clear wsL_clear ({ frames := 9, cells := 1, slots := 6, locals := 172 } : Room) (cPh D g A a b M [.ref (a 0), iv p1]) (cQi D g A a b Q) (cX D g A a b (fun _ _ => False)) 1 6 A := by
  refine vx_ofWH (cc := cL_clear) (maxL := 3) (ret := some .int) (hh := [(0, 5, 8, 13)]) (by decide) rfl ?_
  intro p e s m args below meth c s₁ B hml hv
  obtain ⟨rfl, hP, hD, hG, hY⟩ := hv
  have X : vC p s m _ meth c D g A RL wsL_clear cL_clear 3 := ⟨B.exec, B.bytes, findClass_of_methodNamed B.named, atoms_spec (ws := wsL_clear) B.pre, hG, hml, B.notSynchronized⟩
  have htab := vx_table (x := yL_clear) (hh := [(0, 5, 8, 13)]) B (X.2.2.2.1 (Cond.codeWith yL_clear cL_clear 3 (some .int) [(0, 5, 8, 13)]) List.mem_cons_self)
  have hr := B.returns
  have hl := lv_entry ([.ref (a 0), iv p1]) (n := 3) (Nat.le_of_ble_eq_true rfl)
  rw [lg_entry_eq]
  generalize (lg_sl ([.ref (a 0), iv p1]) ++ List.replicate (3 - (lg_sl ([.ref (a 0), iv p1])).length) Slot.unset).toArray = ls at hl ⊢
  have hl : lv_has ls 3 [(0, .ref (a 0)), (1, iv p1)] := hl
  suffices hV : vV p l e _ s m _ below meth c D g A a b 3 0 0 (vx_MQ below (cQi D g A a b Q) (cX D g A a b (fun _ _ => False)) _ s 1 6 A) M [(0, .ref (a 0)), (1, iv p1)] 0 [] from hV s.heap [] ls hP hD va_S.rf hl
  refine V_aload_n X dL_clear_0 rfl (q := 0) rfl ?_
  refine V_iload_n X dL_clear_1 rfl (q := 1) rfl ?_
  refine V_callxV_v X _ _ gO_0 rfl (As := [iv p1]) (st := []) (c_X10_clear l hlt hw) (cwV 1 X.2.2.2.1 gL_clear_X10_clear rfl rfl rfl (by decide +kernel) ⟨Nat.le_of_ble_eq_true rfl, Nat.le_of_ble_eq_true rfl⟩) rfl (Nat.le_of_ble_eq_true rfl) ⟨Nat.le_of_ble_eq_true rfl, Nat.le_of_ble_eq_true rfl⟩ rfl dL_clear_2 (fun E ce q9 M9 H9 locs9 ls9 hx9 hP9 hD9 hS9 hl9 h91 h92 h93 => ?_) (fun M1 hw => ?_)
  · obtain ⟨rfl, hw⟩ := hx9
    refine V_catch X [] ⟨0, 5, 8, 13⟩ [] (by rw [htab]; rfl) (fun z hz => ?_) (by decide +kernel) (by decide) (List.mem_of_getElem? (i := 1) rfl) (hY.2 _ _ (Or.inl rfl)) hP9 hD9 hS9 hl9 h91 h92 h93 (fun q => ?_)
    · exact nomatch hz
    · refine V_astore_n (lv1 := [(0, .ref (a 0)), (1, iv p1), (2, .ref q)]) X [1, 2, 0] dL_clear_8 rfl (by decide) rfl ?_
      refine V_iconst X dL_clear_9 ?_
      exact V_xret (Nat.le_of_ble_eq_true rfl) (Nat.le_of_ble_eq_true rfl) (V_iret X hr hw dL_clear_10)
  · exact V_goto (tgt := 11) X dL_clear_5 (by decide) (V_iconst X dL_clear_11 (V_xret (Nat.le_of_ble_eq_true rfl) (Nat.le_of_ble_eq_true rfl) (V_iret X hr hw dL_clear_12)))
set_option maxRecDepth 20000 in
theorem ggL_setPrices_X10_setPrices : GoodIn wsL_setPrices wsX10_setPrices := goodIn_ca (goodIn_ca (goodIn_r _ [7, 8, 9, 10, 11, 6, 12, 13, 14, 15, 16, 17, 18, 19, 20, 21, 22, 23, 24, 25, 26, 27, 28, 29, 30, 31, 32, 33, 34] (by decide +kernel) (by decide +kernel)) (goodIn_sub (fun _ h => List.mem_cons_of_mem _ (List.mem_append_left _ (List.mem_append_right _ h))) (by decide +kernel))) (goodIn_sub (fun _ h => List.mem_cons_of_mem _ (List.mem_append_right _ h)) (by decide +kernel))
set_option maxRecDepth 20000 in
theorem gL_setPrices_X10_setPrices : GoodIn wsL_setPrices (wsV RL 31 RX10 yX10_setPrices wsX10_setPrices) := goodIn_app (goodIn_of _ (by decide +kernel)) ggL_setPrices_X10_setPrices
theorem dL_setPrices_0 : decode cL_setPrices 0 = .ok (.aload_n 0, 1) := by decide +kernel
theorem dL_setPrices_1 : decode cL_setPrices 1 = .ok (.iload_n 1, 1) := by decide +kernel
theorem dL_setPrices_2 : decode cL_setPrices 2 = .ok (.iload_n 2, 1) := by decide +kernel
theorem dL_setPrices_3 : decode cL_setPrices 3 = .ok (.iload_n 3, 1) := by decide +kernel
theorem dL_setPrices_4 : decode cL_setPrices 4 = .ok (.iload 4, 2) := by decide +kernel
theorem dL_setPrices_6 : decode cL_setPrices 6 = .ok (.invokevirtual 31, 3) := by decide +kernel
theorem dL_setPrices_9 : decode cL_setPrices 9 = .ok (.goto 11, 3) := by decide +kernel
theorem dL_setPrices_12 : decode cL_setPrices 12 = .ok (.astore 5, 2) := by decide +kernel
theorem dL_setPrices_14 : decode cL_setPrices 14 = .ok (.iconst 1, 1) := by decide +kernel
theorem dL_setPrices_15 : decode cL_setPrices 15 = .ok (.ireturn, 1) := by decide +kernel
theorem dL_setPrices_16 : decode cL_setPrices 16 = .ok (.astore 5, 2) := by decide +kernel
theorem dL_setPrices_18 : decode cL_setPrices 18 = .ok (.iconst 2, 1) := by decide +kernel
theorem dL_setPrices_19 : decode cL_setPrices 19 = .ok (.ireturn, 1) := by decide +kernel
theorem dL_setPrices_20 : decode cL_setPrices 20 = .ok (.iconst 0, 1) := by decide +kernel
theorem dL_setPrices_21 : decode cL_setPrices 21 = .ok (.ireturn, 1) := by decide +kernel
set_option maxHeartbeats 4000000 in
set_option maxRecDepth 100000 in
theorem c_L_setPrices (l : Launch) {p1 p2 p3 p4 : Int} (hlt : l.stackTraces = false) {D : va_G} {g : GT} {A : Nat → Prop} {a : Nat → Nat} {b : Nat → Nat → Nat} {M : Mem} {Q : Int → Mem → Prop} (hw : wp_X10_setPrices M p1 p2 p3 p4 (fun M1 => Q 0 M1) (fun E M1 => (E = "java/lang/IndexOutOfBoundsException" ∧ Q 1 M1) ∨ (E = "java/lang/IllegalArgumentException" ∧ Q 2 M1))) : vx_Met l yL_setPrices wsL_setPrices ({ frames := 8, cells := 4, slots := 24, locals := 151 } : Room) (cPh D g A a b M [.ref (a 0), iv p1, iv p2, iv p3, iv p4]) (cQi D g A a b Q) (cX D g A a b (fun _ _ => False)) 4 24 A := by
  refine vx_ofWH (cc := cL_setPrices) (maxL := 6) (ret := some .int) (hh := [(0, 9, 12, 13), (0, 9, 16, 15)]) (by decide) rfl ?_
  intro p e s m args below meth c s₁ B hml hv
  obtain ⟨rfl, hP, hD, hG, hY⟩ := hv
  have X : vC p s m _ meth c D g A RL wsL_setPrices cL_setPrices 6 := ⟨B.exec, B.bytes, findClass_of_methodNamed B.named, atoms_spec (ws := wsL_setPrices) B.pre, hG, hml, B.notSynchronized⟩
  have htab := vx_table (x := yL_setPrices) (hh := [(0, 9, 12, 13), (0, 9, 16, 15)]) B (X.2.2.2.1 (Cond.codeWith yL_setPrices cL_setPrices 6 (some .int) [(0, 9, 12, 13), (0, 9, 16, 15)]) List.mem_cons_self)
  have hr := B.returns
  have hl := lv_entry ([.ref (a 0), iv p1, iv p2, iv p3, iv p4]) (n := 6) (Nat.le_of_ble_eq_true rfl)
  rw [lg_entry_eq]
  generalize (lg_sl ([.ref (a 0), iv p1, iv p2, iv p3, iv p4]) ++ List.replicate (6 - (lg_sl ([.ref (a 0), iv p1, iv p2, iv p3, iv p4])).length) Slot.unset).toArray = ls at hl ⊢
  have hl : lv_has ls 6 [(0, .ref (a 0)), (1, iv p1), (2, iv p2), (3, iv p3), (4, iv p4)] := hl
  suffices hV : vV p l e _ s m _ below meth c D g A a b 6 0 0 (vx_MQ below (cQi D g A a b Q) (cX D g A a b (fun _ _ => False)) _ s 4 24 A) M [(0, .ref (a 0)), (1, iv p1), (2, iv p2), (3, iv p3), (4, iv p4)] 0 [] from hV s.heap [] ls hP hD va_S.rf hl
  refine V_aload_n X dL_setPrices_0 rfl (q := 0) rfl ?_
  refine V_iload_n X dL_setPrices_1 rfl (q := 1) rfl ?_
  refine V_iload_n X dL_setPrices_2 rfl (q := 2) rfl ?_
  refine V_iload_n X dL_setPrices_3 rfl (q := 3) rfl ?_
  refine V_iload X dL_setPrices_4 (q := 4) rfl ?_
  refine V_callxV_v X _ _ gO_0 rfl (As := [iv p1, iv p2, iv p3, iv p4]) (st := []) (c_X10_setPrices l hlt hw) (cwV 4 X.2.2.2.1 gL_setPrices_X10_setPrices rfl rfl rfl (by decide +kernel) ⟨Nat.le_of_ble_eq_true rfl, Nat.le_of_ble_eq_true rfl⟩) rfl (Nat.le_of_ble_eq_true rfl) ⟨Nat.le_of_ble_eq_true rfl, Nat.le_of_ble_eq_true rfl⟩ rfl dL_setPrices_6 (fun E ce q9 M9 H9 locs9 ls9 hx9 hP9 hD9 hS9 hl9 h91 h92 h93 => ?_) (fun M1 hw => ?_)
  · rcases hx9 with ⟨rfl, hw⟩ | ⟨rfl, hw⟩
    · refine V_catch X [] ⟨0, 9, 12, 13⟩ [⟨0, 9, 16, 15⟩] (by rw [htab]; rfl) (fun z hz => ?_) (by decide +kernel) (by decide) (List.mem_of_getElem? (i := 1) rfl) (hY.2 _ _ (Or.inl rfl)) hP9 hD9 hS9 hl9 h91 h92 h93 (fun q => ?_)
      · exact nomatch hz
      · refine V_astore (lv1 := [(0, .ref (a 0)), (1, iv p1), (2, iv p2), (3, iv p3), (4, iv p4), (5, .ref q)]) X [1, 2, 3, 4, 5, 0] dL_setPrices_12 (by decide) rfl ?_
        refine V_iconst X dL_setPrices_14 ?_
        exact V_xret (Nat.le_of_ble_eq_true rfl) (Nat.le_of_ble_eq_true rfl) (V_iret X hr hw dL_setPrices_15)
    · refine V_catch X [⟨0, 9, 12, 13⟩] ⟨0, 9, 16, 15⟩ [] (by rw [htab]; rfl) (fun z hz => ?_) (by decide +kernel) (by decide) (List.mem_of_getElem? (i := 2) rfl) (hY.2 _ _ (Or.inr (Or.inl rfl))) hP9 hD9 hS9 hl9 h91 h92 h93 (fun q => ?_)
      · have hz2 : z = ⟨0, 9, 12, 13⟩ := by
          simpa using hz
        subst hz2
        exact Or.inr ⟨by decide, _, List.mem_of_getElem? (i := 1) rfl, hY.1.1⟩
      · refine V_astore (lv1 := [(0, .ref (a 0)), (1, iv p1), (2, iv p2), (3, iv p3), (4, iv p4), (5, .ref q)]) X [1, 2, 3, 4, 5, 0] dL_setPrices_16 (by decide) rfl ?_
        refine V_iconst X dL_setPrices_18 ?_
        exact V_xret (Nat.le_of_ble_eq_true rfl) (Nat.le_of_ble_eq_true rfl) (V_iret X hr hw dL_setPrices_19)
  · exact V_goto (tgt := 20) X dL_setPrices_9 (by decide) (V_iconst X dL_setPrices_20 (V_xret (Nat.le_of_ble_eq_true rfl) (Nat.le_of_ble_eq_true rfl) (V_iret X hr hw dL_setPrices_21)))
set_option maxRecDepth 20000 in
theorem ggL_setMovePrice_X10_setMovePrice : GoodIn wsL_setMovePrice wsX10_setMovePrice := goodIn_ca (goodIn_r _ [6, 7, 8, 9, 10, 5, 11, 12, 13, 14, 15, 16, 17, 18, 19, 20, 21, 22, 23, 24, 25, 26, 27, 28] (by decide +kernel) (by decide +kernel)) (goodIn_sub (fun _ h => List.mem_cons_of_mem _ (List.mem_append_right _ h)) (by decide +kernel))
set_option maxRecDepth 20000 in
theorem gL_setMovePrice_X10_setMovePrice : GoodIn wsL_setMovePrice (wsV RL 35 RX10 yX10_setMovePrice wsX10_setMovePrice) := goodIn_app (goodIn_of _ (by decide +kernel)) ggL_setMovePrice_X10_setMovePrice
theorem dL_setMovePrice_0 : decode cL_setMovePrice 0 = .ok (.aload_n 2, 1) := by decide +kernel
theorem dL_setMovePrice_1 : decode cL_setMovePrice 1 = .ok (.iconst 0, 1) := by decide +kernel
theorem dL_setMovePrice_2 : decode cL_setMovePrice 2 = .ok (.aload_n 0, 1) := by decide +kernel
theorem dL_setMovePrice_3 : decode cL_setMovePrice 3 = .ok (.iload_n 1, 1) := by decide +kernel
theorem dL_setMovePrice_4 : decode cL_setMovePrice 4 = .ok (.invokevirtual 35, 3) := by decide +kernel
theorem dL_setMovePrice_7 : decode cL_setMovePrice 7 = .ok (.i2l, 1) := by decide +kernel
theorem dL_setMovePrice_8 : decode cL_setMovePrice 8 = .ok (.lastore, 1) := by decide +kernel
theorem dL_setMovePrice_9 : decode cL_setMovePrice 9 = .ok (.goto 6, 3) := by decide +kernel
theorem dL_setMovePrice_12 : decode cL_setMovePrice 12 = .ok (.astore_n 3, 1) := by decide +kernel
theorem dL_setMovePrice_13 : decode cL_setMovePrice 13 = .ok (.iconst 1, 1) := by decide +kernel
theorem dL_setMovePrice_14 : decode cL_setMovePrice 14 = .ok (.ireturn, 1) := by decide +kernel
theorem dL_setMovePrice_15 : decode cL_setMovePrice 15 = .ok (.iconst 0, 1) := by decide +kernel
theorem dL_setMovePrice_16 : decode cL_setMovePrice 16 = .ok (.ireturn, 1) := by decide +kernel
set_option maxHeartbeats 4000000 in
set_option maxRecDepth 100000 in
theorem c_L_setMovePrice (l : Launch) {p1 : Int} (hlt : l.stackTraces = false) {D : va_G} {g : GT} {A : Nat → Prop} {a : Nat → Nat} {b : Nat → Nat → Nat} {M : Mem} {Q : Int → Mem → Prop} (hw : wp_X10_setMovePrice M p1 (fun r M1 => Q 0 (mset M1 14 0 0 (j32 r))) (fun E M1 => (E = "java/lang/IllegalArgumentException" ∧ Q 1 M1))) : vx_Met l yL_setMovePrice wsL_setMovePrice ({ frames := 8, cells := 1, slots := 6, locals := 151 } : Room) (cPh D g A a b M [.ref (a 0), iv p1, .ref (b 14 0)]) (cQi D g A a b Q) (cX D g A a b (fun _ _ => False)) 1 6 A := by
  refine vx_ofWH (cc := cL_setMovePrice) (maxL := 4) (ret := some .int) (hh := [(0, 9, 12, 15)]) (by decide) rfl ?_
  intro p e s m args below meth c s₁ B hml hv
  obtain ⟨rfl, hP, hD, hG, hY⟩ := hv
  have X : vC p s m _ meth c D g A RL wsL_setMovePrice cL_setMovePrice 4 := ⟨B.exec, B.bytes, findClass_of_methodNamed B.named, atoms_spec (ws := wsL_setMovePrice) B.pre, hG, hml, B.notSynchronized⟩
  have htab := vx_table (x := yL_setMovePrice) (hh := [(0, 9, 12, 15)]) B (X.2.2.2.1 (Cond.codeWith yL_setMovePrice cL_setMovePrice 4 (some .int) [(0, 9, 12, 15)]) List.mem_cons_self)
  have hr := B.returns
  have hl := lv_entry ([.ref (a 0), iv p1, .ref (b 14 0)]) (n := 4) (Nat.le_of_ble_eq_true rfl)
  rw [lg_entry_eq]
  generalize (lg_sl ([.ref (a 0), iv p1, .ref (b 14 0)]) ++ List.replicate (4 - (lg_sl ([.ref (a 0), iv p1, .ref (b 14 0)])).length) Slot.unset).toArray = ls at hl ⊢
  have hl : lv_has ls 4 [(0, .ref (a 0)), (1, iv p1), (2, .ref (b 14 0))] := hl
  suffices hV : vV p l e _ s m _ below meth c D g A a b 4 0 0 (vx_MQ below (cQi D g A a b Q) (cX D g A a b (fun _ _ => False)) _ s 1 6 A) M [(0, .ref (a 0)), (1, iv p1), (2, .ref (b 14 0))] 0 [] from hV s.heap [] ls hP hD va_S.rf hl
  refine V_aload_n X dL_setMovePrice_0 rfl (q := 2) rfl ?_
  refine V_iconst X dL_setMovePrice_1 ?_
  refine V_aload_n X dL_setMovePrice_2 rfl (q := 0) rfl ?_
  refine V_iload_n X dL_setMovePrice_3 rfl (q := 1) rfl ?_
  refine V_callxV_i X _ _ gO_0 rfl (As := [iv p1]) (st := [iv 0, .ref (b 14 0)]) (c_X10_setMovePrice l hlt hw) (cwV 1 X.2.2.2.1 gL_setMovePrice_X10_setMovePrice rfl rfl rfl (by decide +kernel) ⟨Nat.le_of_ble_eq_true rfl, Nat.le_of_ble_eq_true rfl⟩) rfl (Nat.le_of_ble_eq_true rfl) ⟨Nat.le_of_ble_eq_true rfl, Nat.le_of_ble_eq_true rfl⟩ rfl dL_setMovePrice_4 (fun E ce q9 M9 H9 locs9 ls9 hx9 hP9 hD9 hS9 hl9 h91 h92 h93 => ?_) (fun r M1 hw => ?_)
  · obtain ⟨rfl, hw⟩ := hx9
    refine V_catch X [] ⟨0, 9, 12, 15⟩ [] (by rw [htab]; rfl) (fun z hz => ?_) (by decide +kernel) (by decide) (List.mem_of_getElem? (i := 1) rfl) (hY.2 _ _ (Or.inr (Or.inl rfl))) hP9 hD9 hS9 hl9 h91 h92 h93 (fun q => ?_)
    · exact nomatch hz
    · refine V_astore_n (lv1 := [(0, .ref (a 0)), (1, iv p1), (2, .ref (b 14 0)), (3, .ref q)]) X [1, 2, 3, 0] dL_setMovePrice_12 rfl (by decide) rfl ?_
      refine V_iconst X dL_setMovePrice_13 ?_
      exact V_xret (Nat.le_of_ble_eq_true rfl) (Nat.le_of_ble_eq_true rfl) (V_iret X hr hw dL_setMovePrice_14)
  · refine V_i2l X dL_setMovePrice_7 (V_last0 X dL_setMovePrice_8 (fun M2 e2 => ?_))
    subst e2
    exact V_goto (tgt := 15) X dL_setMovePrice_9 (by decide) (V_iconst X dL_setMovePrice_15 (V_xret (Nat.le_of_ble_eq_true rfl) (Nat.le_of_ble_eq_true rfl) (V_iret X hr hw dL_setMovePrice_16)))
set_option maxRecDepth 20000 in
theorem ggL_nodes_X10_nodes : GoodIn wsL_nodes wsX10_nodes := goodIn_ca (goodIn_r _ [6, 7, 8, 9, 5, 10, 11, 12, 13, 14, 15, 16, 17, 18, 19, 20, 21, 22, 23, 24, 25, 26, 27, 28, 29, 30, 31, 32, 33, 34, 35, 36, 37, 38, 39, 40] (by decide +kernel) (by decide +kernel)) (goodIn_sub (fun _ h => List.mem_cons_of_mem _ (List.mem_append_right _ h)) (by decide +kernel))
set_option maxRecDepth 20000 in
theorem gL_nodes_X10_nodes : GoodIn wsL_nodes (wsV RL 39 RX10 yX10_nodes wsX10_nodes) := goodIn_app (goodIn_of _ (by decide +kernel)) ggL_nodes_X10_nodes
theorem dL_nodes_0 : decode cL_nodes 0 = .ok (.aload_n 2, 1) := by decide +kernel
theorem dL_nodes_1 : decode cL_nodes 1 = .ok (.iconst 0, 1) := by decide +kernel
theorem dL_nodes_2 : decode cL_nodes 2 = .ok (.aload_n 0, 1) := by decide +kernel
theorem dL_nodes_3 : decode cL_nodes 3 = .ok (.iload_n 1, 1) := by decide +kernel
theorem dL_nodes_4 : decode cL_nodes 4 = .ok (.invokevirtual 39, 3) := by decide +kernel
theorem dL_nodes_7 : decode cL_nodes 7 = .ok (.i2l, 1) := by decide +kernel
theorem dL_nodes_8 : decode cL_nodes 8 = .ok (.lastore, 1) := by decide +kernel
theorem dL_nodes_9 : decode cL_nodes 9 = .ok (.goto 6, 3) := by decide +kernel
theorem dL_nodes_12 : decode cL_nodes 12 = .ok (.astore_n 3, 1) := by decide +kernel
theorem dL_nodes_13 : decode cL_nodes 13 = .ok (.iconst 1, 1) := by decide +kernel
theorem dL_nodes_14 : decode cL_nodes 14 = .ok (.ireturn, 1) := by decide +kernel
theorem dL_nodes_15 : decode cL_nodes 15 = .ok (.iconst 0, 1) := by decide +kernel
theorem dL_nodes_16 : decode cL_nodes 16 = .ok (.ireturn, 1) := by decide +kernel
set_option maxHeartbeats 4000000 in
set_option maxRecDepth 100000 in
theorem c_L_nodes (l : Launch) {p1 : Int} (hlt : l.stackTraces = false) {D : va_G} {g : GT} {A : Nat → Prop} {a : Nat → Nat} {b : Nat → Nat → Nat} {M : Mem} {Q : Int → Mem → Prop} (hw : wp_X10_nodes M p1 (fun r M1 => Q 0 (mset M1 14 0 0 (j32 r))) (fun E M1 => (E = "java/lang/IndexOutOfBoundsException" ∧ Q 1 M1))) : vx_Met l yL_nodes wsL_nodes ({ frames := 9, cells := 1, slots := 6, locals := 172 } : Room) (cPh D g A a b M [.ref (a 0), iv p1, .ref (b 14 0)]) (cQi D g A a b Q) (cX D g A a b (fun _ _ => False)) 1 6 A := by
  refine vx_ofWH (cc := cL_nodes) (maxL := 4) (ret := some .int) (hh := [(0, 9, 12, 13)]) (by decide) rfl ?_
  intro p e s m args below meth c s₁ B hml hv
  obtain ⟨rfl, hP, hD, hG, hY⟩ := hv
  have X : vC p s m _ meth c D g A RL wsL_nodes cL_nodes 4 := ⟨B.exec, B.bytes, findClass_of_methodNamed B.named, atoms_spec (ws := wsL_nodes) B.pre, hG, hml, B.notSynchronized⟩
  have htab := vx_table (x := yL_nodes) (hh := [(0, 9, 12, 13)]) B (X.2.2.2.1 (Cond.codeWith yL_nodes cL_nodes 4 (some .int) [(0, 9, 12, 13)]) List.mem_cons_self)
  have hr := B.returns
  have hl := lv_entry ([.ref (a 0), iv p1, .ref (b 14 0)]) (n := 4) (Nat.le_of_ble_eq_true rfl)
  rw [lg_entry_eq]
  generalize (lg_sl ([.ref (a 0), iv p1, .ref (b 14 0)]) ++ List.replicate (4 - (lg_sl ([.ref (a 0), iv p1, .ref (b 14 0)])).length) Slot.unset).toArray = ls at hl ⊢
  have hl : lv_has ls 4 [(0, .ref (a 0)), (1, iv p1), (2, .ref (b 14 0))] := hl
  suffices hV : vV p l e _ s m _ below meth c D g A a b 4 0 0 (vx_MQ below (cQi D g A a b Q) (cX D g A a b (fun _ _ => False)) _ s 1 6 A) M [(0, .ref (a 0)), (1, iv p1), (2, .ref (b 14 0))] 0 [] from hV s.heap [] ls hP hD va_S.rf hl
  refine V_aload_n X dL_nodes_0 rfl (q := 2) rfl ?_
  refine V_iconst X dL_nodes_1 ?_
  refine V_aload_n X dL_nodes_2 rfl (q := 0) rfl ?_
  refine V_iload_n X dL_nodes_3 rfl (q := 1) rfl ?_
  refine V_callxV_i X _ _ gO_0 rfl (As := [iv p1]) (st := [iv 0, .ref (b 14 0)]) (c_X10_nodes l hlt hw) (cwV 1 X.2.2.2.1 gL_nodes_X10_nodes rfl rfl rfl (by decide +kernel) ⟨Nat.le_of_ble_eq_true rfl, Nat.le_of_ble_eq_true rfl⟩) rfl (Nat.le_of_ble_eq_true rfl) ⟨Nat.le_of_ble_eq_true rfl, Nat.le_of_ble_eq_true rfl⟩ rfl dL_nodes_4 (fun E ce q9 M9 H9 locs9 ls9 hx9 hP9 hD9 hS9 hl9 h91 h92 h93 => ?_) (fun r M1 hw => ?_)
  · obtain ⟨rfl, hw⟩ := hx9
    refine V_catch X [] ⟨0, 9, 12, 13⟩ [] (by rw [htab]; rfl) (fun z hz => ?_) (by decide +kernel) (by decide) (List.mem_of_getElem? (i := 1) rfl) (hY.2 _ _ (Or.inl rfl)) hP9 hD9 hS9 hl9 h91 h92 h93 (fun q => ?_)
    · exact nomatch hz
    · refine V_astore_n (lv1 := [(0, .ref (a 0)), (1, iv p1), (2, .ref (b 14 0)), (3, .ref q)]) X [1, 2, 3, 0] dL_nodes_12 rfl (by decide) rfl ?_
      refine V_iconst X dL_nodes_13 ?_
      exact V_xret (Nat.le_of_ble_eq_true rfl) (Nat.le_of_ble_eq_true rfl) (V_iret X hr hw dL_nodes_14)
  · refine V_i2l X dL_nodes_7 (V_last0 X dL_nodes_8 (fun M2 e2 => ?_))
    subst e2
    exact V_goto (tgt := 15) X dL_nodes_9 (by decide) (V_iconst X dL_nodes_15 (V_xret (Nat.le_of_ble_eq_true rfl) (Nat.le_of_ble_eq_true rfl) (V_iret X hr hw dL_nodes_16)))
set_option maxRecDepth 20000 in
theorem ggL_parentOf_X10_parentOf : GoodIn wsL_parentOf wsX10_parentOf := goodIn_ca (goodIn_r _ [6, 7, 8, 9, 5, 10, 11, 12, 13, 14, 15, 16, 17, 18, 19, 20, 21, 22, 23, 24, 25, 26, 27, 28, 29, 30, 31, 32, 33, 34, 35, 36, 37, 38, 39, 40, 41, 42, 43, 44] (by decide +kernel) (by decide +kernel)) (goodIn_sub (fun _ h => List.mem_cons_of_mem _ (List.mem_append_right _ h)) (by decide +kernel))
set_option maxRecDepth 20000 in
theorem gL_parentOf_X10_parentOf : GoodIn wsL_parentOf (wsV RL 42 RX10 yX10_parentOf wsX10_parentOf) := goodIn_app (goodIn_of _ (by decide +kernel)) ggL_parentOf_X10_parentOf
theorem dL_parentOf_0 : decode cL_parentOf 0 = .ok (.aload_n 3, 1) := by decide +kernel
theorem dL_parentOf_1 : decode cL_parentOf 1 = .ok (.iconst 0, 1) := by decide +kernel
theorem dL_parentOf_2 : decode cL_parentOf 2 = .ok (.aload_n 0, 1) := by decide +kernel
theorem dL_parentOf_3 : decode cL_parentOf 3 = .ok (.iload_n 1, 1) := by decide +kernel
theorem dL_parentOf_4 : decode cL_parentOf 4 = .ok (.iload_n 2, 1) := by decide +kernel
theorem dL_parentOf_5 : decode cL_parentOf 5 = .ok (.invokevirtual 42, 3) := by decide +kernel
theorem dL_parentOf_8 : decode cL_parentOf 8 = .ok (.i2l, 1) := by decide +kernel
theorem dL_parentOf_9 : decode cL_parentOf 9 = .ok (.lastore, 1) := by decide +kernel
theorem dL_parentOf_10 : decode cL_parentOf 10 = .ok (.goto 7, 3) := by decide +kernel
theorem dL_parentOf_13 : decode cL_parentOf 13 = .ok (.astore 4, 2) := by decide +kernel
theorem dL_parentOf_15 : decode cL_parentOf 15 = .ok (.iconst 1, 1) := by decide +kernel
theorem dL_parentOf_16 : decode cL_parentOf 16 = .ok (.ireturn, 1) := by decide +kernel
theorem dL_parentOf_17 : decode cL_parentOf 17 = .ok (.iconst 0, 1) := by decide +kernel
theorem dL_parentOf_18 : decode cL_parentOf 18 = .ok (.ireturn, 1) := by decide +kernel
set_option maxHeartbeats 4000000 in
set_option maxRecDepth 100000 in
theorem c_L_parentOf (l : Launch) {p1 p2 : Int} (hlt : l.stackTraces = false) {D : va_G} {g : GT} {A : Nat → Prop} {a : Nat → Nat} {b : Nat → Nat → Nat} {M : Mem} {Q : Int → Mem → Prop} (hw : wp_X10_parentOf M p1 p2 (fun r M1 => Q 0 (mset M1 14 0 0 (j32 r))) (fun E M1 => (E = "java/lang/IndexOutOfBoundsException" ∧ Q 1 M1))) : vx_Met l yL_parentOf wsL_parentOf ({ frames := 10, cells := 2, slots := 12, locals := 195 } : Room) (cPh D g A a b M [.ref (a 0), iv p1, iv p2, .ref (b 14 0)]) (cQi D g A a b Q) (cX D g A a b (fun _ _ => False)) 2 12 A := by
  refine vx_ofWH (cc := cL_parentOf) (maxL := 5) (ret := some .int) (hh := [(0, 10, 13, 13)]) (by decide) rfl ?_
  intro p e s m args below meth c s₁ B hml hv
  obtain ⟨rfl, hP, hD, hG, hY⟩ := hv
  have X : vC p s m _ meth c D g A RL wsL_parentOf cL_parentOf 5 := ⟨B.exec, B.bytes, findClass_of_methodNamed B.named, atoms_spec (ws := wsL_parentOf) B.pre, hG, hml, B.notSynchronized⟩
  have htab := vx_table (x := yL_parentOf) (hh := [(0, 10, 13, 13)]) B (X.2.2.2.1 (Cond.codeWith yL_parentOf cL_parentOf 5 (some .int) [(0, 10, 13, 13)]) List.mem_cons_self)
  have hr := B.returns
  have hl := lv_entry ([.ref (a 0), iv p1, iv p2, .ref (b 14 0)]) (n := 5) (Nat.le_of_ble_eq_true rfl)
  rw [lg_entry_eq]
  generalize (lg_sl ([.ref (a 0), iv p1, iv p2, .ref (b 14 0)]) ++ List.replicate (5 - (lg_sl ([.ref (a 0), iv p1, iv p2, .ref (b 14 0)])).length) Slot.unset).toArray = ls at hl ⊢
  have hl : lv_has ls 5 [(0, .ref (a 0)), (1, iv p1), (2, iv p2), (3, .ref (b 14 0))] := hl
  suffices hV : vV p l e _ s m _ below meth c D g A a b 5 0 0 (vx_MQ below (cQi D g A a b Q) (cX D g A a b (fun _ _ => False)) _ s 2 12 A) M [(0, .ref (a 0)), (1, iv p1), (2, iv p2), (3, .ref (b 14 0))] 0 [] from hV s.heap [] ls hP hD va_S.rf hl
  refine V_aload_n X dL_parentOf_0 rfl (q := 3) rfl ?_
  refine V_iconst X dL_parentOf_1 ?_
  refine V_aload_n X dL_parentOf_2 rfl (q := 0) rfl ?_
  refine V_iload_n X dL_parentOf_3 rfl (q := 1) rfl ?_
  refine V_iload_n X dL_parentOf_4 rfl (q := 2) rfl ?_
  refine V_callxV_i X _ _ gO_0 rfl (As := [iv p1, iv p2]) (st := [iv 0, .ref (b 14 0)]) (c_X10_parentOf l hlt hw) (cwV 2 X.2.2.2.1 gL_parentOf_X10_parentOf rfl rfl rfl (by decide +kernel) ⟨Nat.le_of_ble_eq_true rfl, Nat.le_of_ble_eq_true rfl⟩) rfl (Nat.le_of_ble_eq_true rfl) ⟨Nat.le_of_ble_eq_true rfl, Nat.le_of_ble_eq_true rfl⟩ rfl dL_parentOf_5 (fun E ce q9 M9 H9 locs9 ls9 hx9 hP9 hD9 hS9 hl9 h91 h92 h93 => ?_) (fun r M1 hw => ?_)
  · obtain ⟨rfl, hw⟩ := hx9
    refine V_catch X [] ⟨0, 10, 13, 13⟩ [] (by rw [htab]; rfl) (fun z hz => ?_) (by decide +kernel) (by decide) (List.mem_of_getElem? (i := 1) rfl) (hY.2 _ _ (Or.inl rfl)) hP9 hD9 hS9 hl9 h91 h92 h93 (fun q => ?_)
    · exact nomatch hz
    · refine V_astore (lv1 := [(0, .ref (a 0)), (1, iv p1), (2, iv p2), (3, .ref (b 14 0)), (4, .ref q)]) X [1, 2, 3, 4, 0] dL_parentOf_13 (by decide) rfl ?_
      refine V_iconst X dL_parentOf_15 ?_
      exact V_xret (Nat.le_of_ble_eq_true rfl) (Nat.le_of_ble_eq_true rfl) (V_iret X hr hw dL_parentOf_16)
  · refine V_i2l X dL_parentOf_8 (V_last0 X dL_parentOf_9 (fun M2 e2 => ?_))
    subst e2
    exact V_goto (tgt := 17) X dL_parentOf_10 (by decide) (V_iconst X dL_parentOf_17 (V_xret (Nat.le_of_ble_eq_true rfl) (Nat.le_of_ble_eq_true rfl) (V_iret X hr hw dL_parentOf_18)))
set_option maxRecDepth 20000 in
theorem ggL_kindOf_X10_kindOf : GoodIn wsL_kindOf wsX10_kindOf := goodIn_ca (goodIn_r _ [6, 7, 8, 9, 5, 10, 11, 12, 13, 14, 15, 16, 17, 18, 19, 20, 21, 22, 23, 24, 25, 26, 27, 28, 29, 30, 31, 32, 33, 34, 35, 36, 37, 38, 39, 40, 41, 42, 43, 44] (by decide +kernel) (by decide +kernel)) (goodIn_sub (fun _ h => List.mem_cons_of_mem _ (List.mem_append_right _ h)) (by decide +kernel))
set_option maxRecDepth 20000 in
theorem gL_kindOf_X10_kindOf : GoodIn wsL_kindOf (wsV RL 46 RX10 yX10_kindOf wsX10_kindOf) := goodIn_app (goodIn_of _ (by decide +kernel)) ggL_kindOf_X10_kindOf
theorem dL_kindOf_0 : decode cL_kindOf 0 = .ok (.aload_n 3, 1) := by decide +kernel
theorem dL_kindOf_1 : decode cL_kindOf 1 = .ok (.iconst 0, 1) := by decide +kernel
theorem dL_kindOf_2 : decode cL_kindOf 2 = .ok (.aload_n 0, 1) := by decide +kernel
theorem dL_kindOf_3 : decode cL_kindOf 3 = .ok (.iload_n 1, 1) := by decide +kernel
theorem dL_kindOf_4 : decode cL_kindOf 4 = .ok (.iload_n 2, 1) := by decide +kernel
theorem dL_kindOf_5 : decode cL_kindOf 5 = .ok (.invokevirtual 46, 3) := by decide +kernel
theorem dL_kindOf_8 : decode cL_kindOf 8 = .ok (.i2l, 1) := by decide +kernel
theorem dL_kindOf_9 : decode cL_kindOf 9 = .ok (.lastore, 1) := by decide +kernel
theorem dL_kindOf_10 : decode cL_kindOf 10 = .ok (.goto 7, 3) := by decide +kernel
theorem dL_kindOf_13 : decode cL_kindOf 13 = .ok (.astore 4, 2) := by decide +kernel
theorem dL_kindOf_15 : decode cL_kindOf 15 = .ok (.iconst 1, 1) := by decide +kernel
theorem dL_kindOf_16 : decode cL_kindOf 16 = .ok (.ireturn, 1) := by decide +kernel
theorem dL_kindOf_17 : decode cL_kindOf 17 = .ok (.iconst 0, 1) := by decide +kernel
theorem dL_kindOf_18 : decode cL_kindOf 18 = .ok (.ireturn, 1) := by decide +kernel
set_option maxHeartbeats 4000000 in
set_option maxRecDepth 100000 in
theorem c_L_kindOf (l : Launch) {p1 p2 : Int} (hlt : l.stackTraces = false) {D : va_G} {g : GT} {A : Nat → Prop} {a : Nat → Nat} {b : Nat → Nat → Nat} {M : Mem} {Q : Int → Mem → Prop} (hw : wp_X10_kindOf M p1 p2 (fun r M1 => Q 0 (mset M1 14 0 0 (j32 r))) (fun E M1 => (E = "java/lang/IndexOutOfBoundsException" ∧ Q 1 M1))) : vx_Met l yL_kindOf wsL_kindOf ({ frames := 10, cells := 2, slots := 12, locals := 195 } : Room) (cPh D g A a b M [.ref (a 0), iv p1, iv p2, .ref (b 14 0)]) (cQi D g A a b Q) (cX D g A a b (fun _ _ => False)) 2 12 A := by
  refine vx_ofWH (cc := cL_kindOf) (maxL := 5) (ret := some .int) (hh := [(0, 10, 13, 13)]) (by decide) rfl ?_
  intro p e s m args below meth c s₁ B hml hv
  obtain ⟨rfl, hP, hD, hG, hY⟩ := hv
  have X : vC p s m _ meth c D g A RL wsL_kindOf cL_kindOf 5 := ⟨B.exec, B.bytes, findClass_of_methodNamed B.named, atoms_spec (ws := wsL_kindOf) B.pre, hG, hml, B.notSynchronized⟩
  have htab := vx_table (x := yL_kindOf) (hh := [(0, 10, 13, 13)]) B (X.2.2.2.1 (Cond.codeWith yL_kindOf cL_kindOf 5 (some .int) [(0, 10, 13, 13)]) List.mem_cons_self)
  have hr := B.returns
  have hl := lv_entry ([.ref (a 0), iv p1, iv p2, .ref (b 14 0)]) (n := 5) (Nat.le_of_ble_eq_true rfl)
  rw [lg_entry_eq]
  generalize (lg_sl ([.ref (a 0), iv p1, iv p2, .ref (b 14 0)]) ++ List.replicate (5 - (lg_sl ([.ref (a 0), iv p1, iv p2, .ref (b 14 0)])).length) Slot.unset).toArray = ls at hl ⊢
  have hl : lv_has ls 5 [(0, .ref (a 0)), (1, iv p1), (2, iv p2), (3, .ref (b 14 0))] := hl
  suffices hV : vV p l e _ s m _ below meth c D g A a b 5 0 0 (vx_MQ below (cQi D g A a b Q) (cX D g A a b (fun _ _ => False)) _ s 2 12 A) M [(0, .ref (a 0)), (1, iv p1), (2, iv p2), (3, .ref (b 14 0))] 0 [] from hV s.heap [] ls hP hD va_S.rf hl
  refine V_aload_n X dL_kindOf_0 rfl (q := 3) rfl ?_
  refine V_iconst X dL_kindOf_1 ?_
  refine V_aload_n X dL_kindOf_2 rfl (q := 0) rfl ?_
  refine V_iload_n X dL_kindOf_3 rfl (q := 1) rfl ?_
  refine V_iload_n X dL_kindOf_4 rfl (q := 2) rfl ?_
  refine V_callxV_i X _ _ gO_0 rfl (As := [iv p1, iv p2]) (st := [iv 0, .ref (b 14 0)]) (c_X10_kindOf l hlt hw) (cwV 2 X.2.2.2.1 gL_kindOf_X10_kindOf rfl rfl rfl (by decide +kernel) ⟨Nat.le_of_ble_eq_true rfl, Nat.le_of_ble_eq_true rfl⟩) rfl (Nat.le_of_ble_eq_true rfl) ⟨Nat.le_of_ble_eq_true rfl, Nat.le_of_ble_eq_true rfl⟩ rfl dL_kindOf_5 (fun E ce q9 M9 H9 locs9 ls9 hx9 hP9 hD9 hS9 hl9 h91 h92 h93 => ?_) (fun r M1 hw => ?_)
  · obtain ⟨rfl, hw⟩ := hx9
    refine V_catch X [] ⟨0, 10, 13, 13⟩ [] (by rw [htab]; rfl) (fun z hz => ?_) (by decide +kernel) (by decide) (List.mem_of_getElem? (i := 1) rfl) (hY.2 _ _ (Or.inl rfl)) hP9 hD9 hS9 hl9 h91 h92 h93 (fun q => ?_)
    · exact nomatch hz
    · refine V_astore (lv1 := [(0, .ref (a 0)), (1, iv p1), (2, iv p2), (3, .ref (b 14 0)), (4, .ref q)]) X [1, 2, 3, 4, 0] dL_kindOf_13 (by decide) rfl ?_
      refine V_iconst X dL_kindOf_15 ?_
      exact V_xret (Nat.le_of_ble_eq_true rfl) (Nat.le_of_ble_eq_true rfl) (V_iret X hr hw dL_kindOf_16)
  · refine V_i2l X dL_kindOf_8 (V_last0 X dL_kindOf_9 (fun M2 e2 => ?_))
    subst e2
    exact V_goto (tgt := 17) X dL_kindOf_10 (by decide) (V_iconst X dL_kindOf_17 (V_xret (Nat.le_of_ble_eq_true rfl) (Nat.le_of_ble_eq_true rfl) (V_iret X hr hw dL_kindOf_18)))
set_option maxRecDepth 20000 in
theorem ggL_labelOf_X10_labelOf : GoodIn wsL_labelOf wsX10_labelOf := goodIn_ca (goodIn_r _ [6, 7, 8, 9, 5, 10, 11, 12, 13, 14, 15, 16, 17, 18, 19, 20, 21, 22, 23, 24, 25, 26, 27, 28, 29, 30, 31, 32, 33, 34, 35, 36, 37, 38, 39, 40, 41, 42, 43, 44] (by decide +kernel) (by decide +kernel)) (goodIn_sub (fun _ h => List.mem_cons_of_mem _ (List.mem_append_right _ h)) (by decide +kernel))
set_option maxRecDepth 20000 in
theorem gL_labelOf_X10_labelOf : GoodIn wsL_labelOf (wsV RL 49 RX10 yX10_labelOf wsX10_labelOf) := goodIn_app (goodIn_of _ (by decide +kernel)) ggL_labelOf_X10_labelOf
theorem dL_labelOf_0 : decode cL_labelOf 0 = .ok (.aload_n 3, 1) := by decide +kernel
theorem dL_labelOf_1 : decode cL_labelOf 1 = .ok (.iconst 0, 1) := by decide +kernel
theorem dL_labelOf_2 : decode cL_labelOf 2 = .ok (.aload_n 0, 1) := by decide +kernel
theorem dL_labelOf_3 : decode cL_labelOf 3 = .ok (.iload_n 1, 1) := by decide +kernel
theorem dL_labelOf_4 : decode cL_labelOf 4 = .ok (.iload_n 2, 1) := by decide +kernel
theorem dL_labelOf_5 : decode cL_labelOf 5 = .ok (.invokevirtual 49, 3) := by decide +kernel
theorem dL_labelOf_8 : decode cL_labelOf 8 = .ok (.i2l, 1) := by decide +kernel
theorem dL_labelOf_9 : decode cL_labelOf 9 = .ok (.lastore, 1) := by decide +kernel
theorem dL_labelOf_10 : decode cL_labelOf 10 = .ok (.goto 7, 3) := by decide +kernel
theorem dL_labelOf_13 : decode cL_labelOf 13 = .ok (.astore 4, 2) := by decide +kernel
theorem dL_labelOf_15 : decode cL_labelOf 15 = .ok (.iconst 1, 1) := by decide +kernel
theorem dL_labelOf_16 : decode cL_labelOf 16 = .ok (.ireturn, 1) := by decide +kernel
theorem dL_labelOf_17 : decode cL_labelOf 17 = .ok (.iconst 0, 1) := by decide +kernel
theorem dL_labelOf_18 : decode cL_labelOf 18 = .ok (.ireturn, 1) := by decide +kernel
set_option maxHeartbeats 4000000 in
set_option maxRecDepth 100000 in
theorem c_L_labelOf (l : Launch) {p1 p2 : Int} (hlt : l.stackTraces = false) {D : va_G} {g : GT} {A : Nat → Prop} {a : Nat → Nat} {b : Nat → Nat → Nat} {M : Mem} {Q : Int → Mem → Prop} (hw : wp_X10_labelOf M p1 p2 (fun r M1 => Q 0 (mset M1 14 0 0 (j32 r))) (fun E M1 => (E = "java/lang/IndexOutOfBoundsException" ∧ Q 1 M1))) : vx_Met l yL_labelOf wsL_labelOf ({ frames := 10, cells := 2, slots := 12, locals := 195 } : Room) (cPh D g A a b M [.ref (a 0), iv p1, iv p2, .ref (b 14 0)]) (cQi D g A a b Q) (cX D g A a b (fun _ _ => False)) 2 12 A := by
  refine vx_ofWH (cc := cL_labelOf) (maxL := 5) (ret := some .int) (hh := [(0, 10, 13, 13)]) (by decide) rfl ?_
  intro p e s m args below meth c s₁ B hml hv
  obtain ⟨rfl, hP, hD, hG, hY⟩ := hv
  have X : vC p s m _ meth c D g A RL wsL_labelOf cL_labelOf 5 := ⟨B.exec, B.bytes, findClass_of_methodNamed B.named, atoms_spec (ws := wsL_labelOf) B.pre, hG, hml, B.notSynchronized⟩
  have htab := vx_table (x := yL_labelOf) (hh := [(0, 10, 13, 13)]) B (X.2.2.2.1 (Cond.codeWith yL_labelOf cL_labelOf 5 (some .int) [(0, 10, 13, 13)]) List.mem_cons_self)
  have hr := B.returns
  have hl := lv_entry ([.ref (a 0), iv p1, iv p2, .ref (b 14 0)]) (n := 5) (Nat.le_of_ble_eq_true rfl)
  rw [lg_entry_eq]
  generalize (lg_sl ([.ref (a 0), iv p1, iv p2, .ref (b 14 0)]) ++ List.replicate (5 - (lg_sl ([.ref (a 0), iv p1, iv p2, .ref (b 14 0)])).length) Slot.unset).toArray = ls at hl ⊢
  have hl : lv_has ls 5 [(0, .ref (a 0)), (1, iv p1), (2, iv p2), (3, .ref (b 14 0))] := hl
  suffices hV : vV p l e _ s m _ below meth c D g A a b 5 0 0 (vx_MQ below (cQi D g A a b Q) (cX D g A a b (fun _ _ => False)) _ s 2 12 A) M [(0, .ref (a 0)), (1, iv p1), (2, iv p2), (3, .ref (b 14 0))] 0 [] from hV s.heap [] ls hP hD va_S.rf hl
  refine V_aload_n X dL_labelOf_0 rfl (q := 3) rfl ?_
  refine V_iconst X dL_labelOf_1 ?_
  refine V_aload_n X dL_labelOf_2 rfl (q := 0) rfl ?_
  refine V_iload_n X dL_labelOf_3 rfl (q := 1) rfl ?_
  refine V_iload_n X dL_labelOf_4 rfl (q := 2) rfl ?_
  refine V_callxV_i X _ _ gO_0 rfl (As := [iv p1, iv p2]) (st := [iv 0, .ref (b 14 0)]) (c_X10_labelOf l hlt hw) (cwV 2 X.2.2.2.1 gL_labelOf_X10_labelOf rfl rfl rfl (by decide +kernel) ⟨Nat.le_of_ble_eq_true rfl, Nat.le_of_ble_eq_true rfl⟩) rfl (Nat.le_of_ble_eq_true rfl) ⟨Nat.le_of_ble_eq_true rfl, Nat.le_of_ble_eq_true rfl⟩ rfl dL_labelOf_5 (fun E ce q9 M9 H9 locs9 ls9 hx9 hP9 hD9 hS9 hl9 h91 h92 h93 => ?_) (fun r M1 hw => ?_)
  · obtain ⟨rfl, hw⟩ := hx9
    refine V_catch X [] ⟨0, 10, 13, 13⟩ [] (by rw [htab]; rfl) (fun z hz => ?_) (by decide +kernel) (by decide) (List.mem_of_getElem? (i := 1) rfl) (hY.2 _ _ (Or.inl rfl)) hP9 hD9 hS9 hl9 h91 h92 h93 (fun q => ?_)
    · exact nomatch hz
    · refine V_astore (lv1 := [(0, .ref (a 0)), (1, iv p1), (2, iv p2), (3, .ref (b 14 0)), (4, .ref q)]) X [1, 2, 3, 4, 0] dL_labelOf_13 (by decide) rfl ?_
      refine V_iconst X dL_labelOf_15 ?_
      exact V_xret (Nat.le_of_ble_eq_true rfl) (Nat.le_of_ble_eq_true rfl) (V_iret X hr hw dL_labelOf_16)
  · refine V_i2l X dL_labelOf_8 (V_last0 X dL_labelOf_9 (fun M2 e2 => ?_))
    subst e2
    exact V_goto (tgt := 17) X dL_labelOf_10 (by decide) (V_iconst X dL_labelOf_17 (V_xret (Nat.le_of_ble_eq_true rfl) (Nat.le_of_ble_eq_true rfl) (V_iret X hr hw dL_labelOf_18)))
set_option maxRecDepth 20000 in
theorem ggL_children_X10_children : GoodIn wsL_children wsX10_children := goodIn_ca (goodIn_r _ [6, 7, 8, 9, 5, 10, 11, 12, 13, 14, 15, 16, 17, 18, 19, 20, 21, 22, 23, 24, 25, 26, 27, 28, 29, 30, 31, 32, 33, 34, 35, 36, 37, 38, 39, 40, 41, 42, 43, 44, 45, 46, 47, 48, 49, 50, 51, 52, 53, 54, 55, 56] (by decide +kernel) (by decide +kernel)) (goodIn_sub (fun _ h => List.mem_cons_of_mem _ (List.mem_append_right _ h)) (by decide +kernel))
set_option maxRecDepth 20000 in
theorem gL_children_X10_children : GoodIn wsL_children (wsV RL 52 RX10 yX10_children wsX10_children) := goodIn_app (goodIn_of _ (by decide +kernel)) ggL_children_X10_children
theorem dL_children_0 : decode cL_children 0 = .ok (.aload_n 3, 1) := by decide +kernel
theorem dL_children_1 : decode cL_children 1 = .ok (.iconst 0, 1) := by decide +kernel
theorem dL_children_2 : decode cL_children 2 = .ok (.aload_n 0, 1) := by decide +kernel
theorem dL_children_3 : decode cL_children 3 = .ok (.iload_n 1, 1) := by decide +kernel
theorem dL_children_4 : decode cL_children 4 = .ok (.iload_n 2, 1) := by decide +kernel
theorem dL_children_5 : decode cL_children 5 = .ok (.invokevirtual 52, 3) := by decide +kernel
theorem dL_children_8 : decode cL_children 8 = .ok (.i2l, 1) := by decide +kernel
theorem dL_children_9 : decode cL_children 9 = .ok (.lastore, 1) := by decide +kernel
theorem dL_children_10 : decode cL_children 10 = .ok (.goto 7, 3) := by decide +kernel
theorem dL_children_13 : decode cL_children 13 = .ok (.astore 4, 2) := by decide +kernel
theorem dL_children_15 : decode cL_children 15 = .ok (.iconst 1, 1) := by decide +kernel
theorem dL_children_16 : decode cL_children 16 = .ok (.ireturn, 1) := by decide +kernel
theorem dL_children_17 : decode cL_children 17 = .ok (.iconst 0, 1) := by decide +kernel
theorem dL_children_18 : decode cL_children 18 = .ok (.ireturn, 1) := by decide +kernel
set_option maxHeartbeats 4000000 in
set_option maxRecDepth 100000 in
theorem c_L_children (l : Launch) {p1 p2 : Int} (hlt : l.stackTraces = false) {D : va_G} {g : GT} {A : Nat → Prop} {a : Nat → Nat} {b : Nat → Nat → Nat} {M : Mem} {Q : Int → Mem → Prop} (hw : wp_X10_children M p1 p2 (fun r M1 => Q 0 (mset M1 14 0 0 (j32 r))) (fun E M1 => (E = "java/lang/IndexOutOfBoundsException" ∧ Q 1 M1))) : vx_Met l yL_children wsL_children ({ frames := 10, cells := 2, slots := 12, locals := 195 } : Room) (cPh D g A a b M [.ref (a 0), iv p1, iv p2, .ref (b 14 0)]) (cQi D g A a b Q) (cX D g A a b (fun _ _ => False)) 2 12 A := by
  refine vx_ofWH (cc := cL_children) (maxL := 5) (ret := some .int) (hh := [(0, 10, 13, 13)]) (by decide) rfl ?_
  intro p e s m args below meth c s₁ B hml hv
  obtain ⟨rfl, hP, hD, hG, hY⟩ := hv
  have X : vC p s m _ meth c D g A RL wsL_children cL_children 5 := ⟨B.exec, B.bytes, findClass_of_methodNamed B.named, atoms_spec (ws := wsL_children) B.pre, hG, hml, B.notSynchronized⟩
  have htab := vx_table (x := yL_children) (hh := [(0, 10, 13, 13)]) B (X.2.2.2.1 (Cond.codeWith yL_children cL_children 5 (some .int) [(0, 10, 13, 13)]) List.mem_cons_self)
  have hr := B.returns
  have hl := lv_entry ([.ref (a 0), iv p1, iv p2, .ref (b 14 0)]) (n := 5) (Nat.le_of_ble_eq_true rfl)
  rw [lg_entry_eq]
  generalize (lg_sl ([.ref (a 0), iv p1, iv p2, .ref (b 14 0)]) ++ List.replicate (5 - (lg_sl ([.ref (a 0), iv p1, iv p2, .ref (b 14 0)])).length) Slot.unset).toArray = ls at hl ⊢
  have hl : lv_has ls 5 [(0, .ref (a 0)), (1, iv p1), (2, iv p2), (3, .ref (b 14 0))] := hl
  suffices hV : vV p l e _ s m _ below meth c D g A a b 5 0 0 (vx_MQ below (cQi D g A a b Q) (cX D g A a b (fun _ _ => False)) _ s 2 12 A) M [(0, .ref (a 0)), (1, iv p1), (2, iv p2), (3, .ref (b 14 0))] 0 [] from hV s.heap [] ls hP hD va_S.rf hl
  refine V_aload_n X dL_children_0 rfl (q := 3) rfl ?_
  refine V_iconst X dL_children_1 ?_
  refine V_aload_n X dL_children_2 rfl (q := 0) rfl ?_
  refine V_iload_n X dL_children_3 rfl (q := 1) rfl ?_
  refine V_iload_n X dL_children_4 rfl (q := 2) rfl ?_
  refine V_callxV_i X _ _ gO_0 rfl (As := [iv p1, iv p2]) (st := [iv 0, .ref (b 14 0)]) (c_X10_children l hlt hw) (cwV 2 X.2.2.2.1 gL_children_X10_children rfl rfl rfl (by decide +kernel) ⟨Nat.le_of_ble_eq_true rfl, Nat.le_of_ble_eq_true rfl⟩) rfl (Nat.le_of_ble_eq_true rfl) ⟨Nat.le_of_ble_eq_true rfl, Nat.le_of_ble_eq_true rfl⟩ rfl dL_children_5 (fun E ce q9 M9 H9 locs9 ls9 hx9 hP9 hD9 hS9 hl9 h91 h92 h93 => ?_) (fun r M1 hw => ?_)
  · obtain ⟨rfl, hw⟩ := hx9
    refine V_catch X [] ⟨0, 10, 13, 13⟩ [] (by rw [htab]; rfl) (fun z hz => ?_) (by decide +kernel) (by decide) (List.mem_of_getElem? (i := 1) rfl) (hY.2 _ _ (Or.inl rfl)) hP9 hD9 hS9 hl9 h91 h92 h93 (fun q => ?_)
    · exact nomatch hz
    · refine V_astore (lv1 := [(0, .ref (a 0)), (1, iv p1), (2, iv p2), (3, .ref (b 14 0)), (4, .ref q)]) X [1, 2, 3, 4, 0] dL_children_13 (by decide) rfl ?_
      refine V_iconst X dL_children_15 ?_
      exact V_xret (Nat.le_of_ble_eq_true rfl) (Nat.le_of_ble_eq_true rfl) (V_iret X hr hw dL_children_16)
  · refine V_i2l X dL_children_8 (V_last0 X dL_children_9 (fun M2 e2 => ?_))
    subst e2
    exact V_goto (tgt := 17) X dL_children_10 (by decide) (V_iconst X dL_children_17 (V_xret (Nat.le_of_ble_eq_true rfl) (Nat.le_of_ble_eq_true rfl) (V_iret X hr hw dL_children_18)))
set_option maxRecDepth 20000 in
theorem ggL_childAt_X10_childAt : GoodIn wsL_childAt wsX10_childAt := goodIn_ca (goodIn_r _ [6, 7, 8, 9, 5, 10, 11, 12, 13, 14, 15, 16, 17, 18, 19, 20, 21, 22, 23, 24, 25, 26, 27, 28, 29, 30, 31, 32, 33, 34, 35, 36, 37, 38, 39, 40, 41, 42, 43, 44, 45, 46, 47, 48, 49, 50, 51, 52, 53, 54, 55, 56, 57, 58, 59] (by decide +kernel) (by decide +kernel)) (goodIn_sub (fun _ h => List.mem_cons_of_mem _ (List.mem_append_right _ h)) (by decide +kernel))
set_option maxRecDepth 20000 in
theorem gL_childAt_X10_childAt : GoodIn wsL_childAt (wsV RL 55 RX10 yX10_childAt wsX10_childAt) := goodIn_app (goodIn_of _ (by decide +kernel)) ggL_childAt_X10_childAt
theorem dL_childAt_0 : decode cL_childAt 0 = .ok (.aload 4, 2) := by decide +kernel
theorem dL_childAt_2 : decode cL_childAt 2 = .ok (.iconst 0, 1) := by decide +kernel
theorem dL_childAt_3 : decode cL_childAt 3 = .ok (.aload_n 0, 1) := by decide +kernel
theorem dL_childAt_4 : decode cL_childAt 4 = .ok (.iload_n 1, 1) := by decide +kernel
theorem dL_childAt_5 : decode cL_childAt 5 = .ok (.iload_n 2, 1) := by decide +kernel
theorem dL_childAt_6 : decode cL_childAt 6 = .ok (.iload_n 3, 1) := by decide +kernel
theorem dL_childAt_7 : decode cL_childAt 7 = .ok (.invokevirtual 55, 3) := by decide +kernel
theorem dL_childAt_10 : decode cL_childAt 10 = .ok (.i2l, 1) := by decide +kernel
theorem dL_childAt_11 : decode cL_childAt 11 = .ok (.lastore, 1) := by decide +kernel
theorem dL_childAt_12 : decode cL_childAt 12 = .ok (.goto 7, 3) := by decide +kernel
theorem dL_childAt_15 : decode cL_childAt 15 = .ok (.astore 5, 2) := by decide +kernel
theorem dL_childAt_17 : decode cL_childAt 17 = .ok (.iconst 1, 1) := by decide +kernel
theorem dL_childAt_18 : decode cL_childAt 18 = .ok (.ireturn, 1) := by decide +kernel
theorem dL_childAt_19 : decode cL_childAt 19 = .ok (.iconst 0, 1) := by decide +kernel
theorem dL_childAt_20 : decode cL_childAt 20 = .ok (.ireturn, 1) := by decide +kernel
set_option maxHeartbeats 4000000 in
set_option maxRecDepth 100000 in
theorem c_L_childAt (l : Launch) {p1 p2 p3 : Int} (hlt : l.stackTraces = false) {D : va_G} {g : GT} {A : Nat → Prop} {a : Nat → Nat} {b : Nat → Nat → Nat} {M : Mem} {Q : Int → Mem → Prop} (hw : wp_X10_childAt M p1 p2 p3 (fun r M1 => Q 0 (mset M1 14 0 0 (j32 r))) (fun E M1 => (E = "java/lang/IndexOutOfBoundsException" ∧ Q 1 M1))) : vx_Met l yL_childAt wsL_childAt ({ frames := 10, cells := 3, slots := 18, locals := 195 } : Room) (cPh D g A a b M [.ref (a 0), iv p1, iv p2, iv p3, .ref (b 14 0)]) (cQi D g A a b Q) (cX D g A a b (fun _ _ => False)) 3 18 A := by
  refine vx_ofWH (cc := cL_childAt) (maxL := 6) (ret := some .int) (hh := [(0, 12, 15, 13)]) (by decide) rfl ?_
  intro p e s m args below meth c s₁ B hml hv
  obtain ⟨rfl, hP, hD, hG, hY⟩ := hv
  have X : vC p s m _ meth c D g A RL wsL_childAt cL_childAt 6 := ⟨B.exec, B.bytes, findClass_of_methodNamed B.named, atoms_spec (ws := wsL_childAt) B.pre, hG, hml, B.notSynchronized⟩
  have htab := vx_table (x := yL_childAt) (hh := [(0, 12, 15, 13)]) B (X.2.2.2.1 (Cond.codeWith yL_childAt cL_childAt 6 (some .int) [(0, 12, 15, 13)]) List.mem_cons_self)
  have hr := B.returns
  have hl := lv_entry ([.ref (a 0), iv p1, iv p2, iv p3, .ref (b 14 0)]) (n := 6) (Nat.le_of_ble_eq_true rfl)
  rw [lg_entry_eq]
  generalize (lg_sl ([.ref (a 0), iv p1, iv p2, iv p3, .ref (b 14 0)]) ++ List.replicate (6 - (lg_sl ([.ref (a 0), iv p1, iv p2, iv p3, .ref (b 14 0)])).length) Slot.unset).toArray = ls at hl ⊢
  have hl : lv_has ls 6 [(0, .ref (a 0)), (1, iv p1), (2, iv p2), (3, iv p3), (4, .ref (b 14 0))] := hl
  suffices hV : vV p l e _ s m _ below meth c D g A a b 6 0 0 (vx_MQ below (cQi D g A a b Q) (cX D g A a b (fun _ _ => False)) _ s 3 18 A) M [(0, .ref (a 0)), (1, iv p1), (2, iv p2), (3, iv p3), (4, .ref (b 14 0))] 0 [] from hV s.heap [] ls hP hD va_S.rf hl
  refine V_aload X dL_childAt_0 (q := 4) rfl ?_
  refine V_iconst X dL_childAt_2 ?_
  refine V_aload_n X dL_childAt_3 rfl (q := 0) rfl ?_
  refine V_iload_n X dL_childAt_4 rfl (q := 1) rfl ?_
  refine V_iload_n X dL_childAt_5 rfl (q := 2) rfl ?_
  refine V_iload_n X dL_childAt_6 rfl (q := 3) rfl ?_
  refine V_callxV_i X _ _ gO_0 rfl (As := [iv p1, iv p2, iv p3]) (st := [iv 0, .ref (b 14 0)]) (c_X10_childAt l hlt hw) (cwV 3 X.2.2.2.1 gL_childAt_X10_childAt rfl rfl rfl (by decide +kernel) ⟨Nat.le_of_ble_eq_true rfl, Nat.le_of_ble_eq_true rfl⟩) rfl (Nat.le_of_ble_eq_true rfl) ⟨Nat.le_of_ble_eq_true rfl, Nat.le_of_ble_eq_true rfl⟩ rfl dL_childAt_7 (fun E ce q9 M9 H9 locs9 ls9 hx9 hP9 hD9 hS9 hl9 h91 h92 h93 => ?_) (fun r M1 hw => ?_)
  · obtain ⟨rfl, hw⟩ := hx9
    refine V_catch X [] ⟨0, 12, 15, 13⟩ [] (by rw [htab]; rfl) (fun z hz => ?_) (by decide +kernel) (by decide) (List.mem_of_getElem? (i := 1) rfl) (hY.2 _ _ (Or.inl rfl)) hP9 hD9 hS9 hl9 h91 h92 h93 (fun q => ?_)
    · exact nomatch hz
    · refine V_astore (lv1 := [(0, .ref (a 0)), (1, iv p1), (2, iv p2), (3, iv p3), (4, .ref (b 14 0)), (5, .ref q)]) X [1, 2, 3, 4, 5, 0] dL_childAt_15 (by decide) rfl ?_
      refine V_iconst X dL_childAt_17 ?_
      exact V_xret (Nat.le_of_ble_eq_true rfl) (Nat.le_of_ble_eq_true rfl) (V_iret X hr hw dL_childAt_18)
  · refine V_i2l X dL_childAt_10 (V_last0 X dL_childAt_11 (fun M2 e2 => ?_))
    subst e2
    exact V_goto (tgt := 19) X dL_childAt_12 (by decide) (V_iconst X dL_childAt_19 (V_xret (Nat.le_of_ble_eq_true rfl) (Nat.le_of_ble_eq_true rfl) (V_iret X hr hw dL_childAt_20)))
set_option maxRecDepth 20000 in
theorem ggL_inPreorder_X10_inPreorder : GoodIn wsL_inPreorder wsX10_inPreorder := goodIn_ca (goodIn_r _ [6, 7, 8, 9, 5, 10, 11, 12, 13, 14, 15, 16, 17, 18, 19, 20, 21, 22, 23, 24, 25, 26, 27, 28, 29, 30, 31, 32, 33, 34, 35, 36, 37, 38, 39, 40] (by decide +kernel) (by decide +kernel)) (goodIn_sub (fun _ h => List.mem_cons_of_mem _ (List.mem_append_right _ h)) (by decide +kernel))
set_option maxRecDepth 20000 in
theorem gL_inPreorder_X10_inPreorder : GoodIn wsL_inPreorder (wsV RL 58 RX10 yX10_inPreorder wsX10_inPreorder) := goodIn_app (goodIn_of _ (by decide +kernel)) ggL_inPreorder_X10_inPreorder
theorem dL_inPreorder_0 : decode cL_inPreorder 0 = .ok (.aload_n 3, 1) := by decide +kernel
theorem dL_inPreorder_1 : decode cL_inPreorder 1 = .ok (.iconst 0, 1) := by decide +kernel
theorem dL_inPreorder_2 : decode cL_inPreorder 2 = .ok (.aload_n 0, 1) := by decide +kernel
theorem dL_inPreorder_3 : decode cL_inPreorder 3 = .ok (.iload_n 1, 1) := by decide +kernel
theorem dL_inPreorder_4 : decode cL_inPreorder 4 = .ok (.iload_n 2, 1) := by decide +kernel
theorem dL_inPreorder_5 : decode cL_inPreorder 5 = .ok (.invokevirtual 58, 3) := by decide +kernel
theorem dL_inPreorder_8 : decode cL_inPreorder 8 = .ok (.i2l, 1) := by decide +kernel
theorem dL_inPreorder_9 : decode cL_inPreorder 9 = .ok (.lastore, 1) := by decide +kernel
theorem dL_inPreorder_10 : decode cL_inPreorder 10 = .ok (.goto 7, 3) := by decide +kernel
theorem dL_inPreorder_13 : decode cL_inPreorder 13 = .ok (.astore 4, 2) := by decide +kernel
theorem dL_inPreorder_15 : decode cL_inPreorder 15 = .ok (.iconst 1, 1) := by decide +kernel
theorem dL_inPreorder_16 : decode cL_inPreorder 16 = .ok (.ireturn, 1) := by decide +kernel
theorem dL_inPreorder_17 : decode cL_inPreorder 17 = .ok (.iconst 0, 1) := by decide +kernel
theorem dL_inPreorder_18 : decode cL_inPreorder 18 = .ok (.ireturn, 1) := by decide +kernel
set_option maxHeartbeats 4000000 in
set_option maxRecDepth 100000 in
theorem c_L_inPreorder (l : Launch) {p1 p2 : Int} (hlt : l.stackTraces = false) {D : va_G} {g : GT} {A : Nat → Prop} {a : Nat → Nat} {b : Nat → Nat → Nat} {M : Mem} {Q : Int → Mem → Prop} (hw : wp_X10_inPreorder M p1 p2 (fun r M1 => Q 0 (mset M1 14 0 0 (j32 r))) (fun E M1 => (E = "java/lang/IndexOutOfBoundsException" ∧ Q 1 M1))) : vx_Met l yL_inPreorder wsL_inPreorder ({ frames := 9, cells := 2, slots := 12, locals := 172 } : Room) (cPh D g A a b M [.ref (a 0), iv p1, iv p2, .ref (b 14 0)]) (cQi D g A a b Q) (cX D g A a b (fun _ _ => False)) 2 12 A := by
  refine vx_ofWH (cc := cL_inPreorder) (maxL := 5) (ret := some .int) (hh := [(0, 10, 13, 13)]) (by decide) rfl ?_
  intro p e s m args below meth c s₁ B hml hv
  obtain ⟨rfl, hP, hD, hG, hY⟩ := hv
  have X : vC p s m _ meth c D g A RL wsL_inPreorder cL_inPreorder 5 := ⟨B.exec, B.bytes, findClass_of_methodNamed B.named, atoms_spec (ws := wsL_inPreorder) B.pre, hG, hml, B.notSynchronized⟩
  have htab := vx_table (x := yL_inPreorder) (hh := [(0, 10, 13, 13)]) B (X.2.2.2.1 (Cond.codeWith yL_inPreorder cL_inPreorder 5 (some .int) [(0, 10, 13, 13)]) List.mem_cons_self)
  have hr := B.returns
  have hl := lv_entry ([.ref (a 0), iv p1, iv p2, .ref (b 14 0)]) (n := 5) (Nat.le_of_ble_eq_true rfl)
  rw [lg_entry_eq]
  generalize (lg_sl ([.ref (a 0), iv p1, iv p2, .ref (b 14 0)]) ++ List.replicate (5 - (lg_sl ([.ref (a 0), iv p1, iv p2, .ref (b 14 0)])).length) Slot.unset).toArray = ls at hl ⊢
  have hl : lv_has ls 5 [(0, .ref (a 0)), (1, iv p1), (2, iv p2), (3, .ref (b 14 0))] := hl
  suffices hV : vV p l e _ s m _ below meth c D g A a b 5 0 0 (vx_MQ below (cQi D g A a b Q) (cX D g A a b (fun _ _ => False)) _ s 2 12 A) M [(0, .ref (a 0)), (1, iv p1), (2, iv p2), (3, .ref (b 14 0))] 0 [] from hV s.heap [] ls hP hD va_S.rf hl
  refine V_aload_n X dL_inPreorder_0 rfl (q := 3) rfl ?_
  refine V_iconst X dL_inPreorder_1 ?_
  refine V_aload_n X dL_inPreorder_2 rfl (q := 0) rfl ?_
  refine V_iload_n X dL_inPreorder_3 rfl (q := 1) rfl ?_
  refine V_iload_n X dL_inPreorder_4 rfl (q := 2) rfl ?_
  refine V_callxV_i X _ _ gO_0 rfl (As := [iv p1, iv p2]) (st := [iv 0, .ref (b 14 0)]) (c_X10_inPreorder l hlt hw) (cwV 2 X.2.2.2.1 gL_inPreorder_X10_inPreorder rfl rfl rfl (by decide +kernel) ⟨Nat.le_of_ble_eq_true rfl, Nat.le_of_ble_eq_true rfl⟩) rfl (Nat.le_of_ble_eq_true rfl) ⟨Nat.le_of_ble_eq_true rfl, Nat.le_of_ble_eq_true rfl⟩ rfl dL_inPreorder_5 (fun E ce q9 M9 H9 locs9 ls9 hx9 hP9 hD9 hS9 hl9 h91 h92 h93 => ?_) (fun r M1 hw => ?_)
  · obtain ⟨rfl, hw⟩ := hx9
    refine V_catch X [] ⟨0, 10, 13, 13⟩ [] (by rw [htab]; rfl) (fun z hz => ?_) (by decide +kernel) (by decide) (List.mem_of_getElem? (i := 1) rfl) (hY.2 _ _ (Or.inl rfl)) hP9 hD9 hS9 hl9 h91 h92 h93 (fun q => ?_)
    · exact nomatch hz
    · refine V_astore (lv1 := [(0, .ref (a 0)), (1, iv p1), (2, iv p2), (3, .ref (b 14 0)), (4, .ref q)]) X [1, 2, 3, 4, 0] dL_inPreorder_13 (by decide) rfl ?_
      refine V_iconst X dL_inPreorder_15 ?_
      exact V_xret (Nat.le_of_ble_eq_true rfl) (Nat.le_of_ble_eq_true rfl) (V_iret X hr hw dL_inPreorder_16)
  · refine V_i2l X dL_inPreorder_8 (V_last0 X dL_inPreorder_9 (fun M2 e2 => ?_))
    subst e2
    exact V_goto (tgt := 17) X dL_inPreorder_10 (by decide) (V_iconst X dL_inPreorder_17 (V_xret (Nat.le_of_ble_eq_true rfl) (Nat.le_of_ble_eq_true rfl) (V_iret X hr hw dL_inPreorder_18)))
set_option maxRecDepth 20000 in
theorem ggL_inPostorder_X10_inPostorder : GoodIn wsL_inPostorder wsX10_inPostorder := goodIn_ca (goodIn_r _ [6, 7, 8, 9, 5, 10, 11, 12, 13, 14, 15, 16, 17, 18, 19, 20, 21, 22, 23, 24, 25, 26, 27, 28, 29, 30, 31, 32, 33, 34, 35, 36, 37, 38, 39, 40] (by decide +kernel) (by decide +kernel)) (goodIn_sub (fun _ h => List.mem_cons_of_mem _ (List.mem_append_right _ h)) (by decide +kernel))
set_option maxRecDepth 20000 in
theorem gL_inPostorder_X10_inPostorder : GoodIn wsL_inPostorder (wsV RL 61 RX10 yX10_inPostorder wsX10_inPostorder) := goodIn_app (goodIn_of _ (by decide +kernel)) ggL_inPostorder_X10_inPostorder
theorem dL_inPostorder_0 : decode cL_inPostorder 0 = .ok (.aload_n 3, 1) := by decide +kernel
theorem dL_inPostorder_1 : decode cL_inPostorder 1 = .ok (.iconst 0, 1) := by decide +kernel
theorem dL_inPostorder_2 : decode cL_inPostorder 2 = .ok (.aload_n 0, 1) := by decide +kernel
theorem dL_inPostorder_3 : decode cL_inPostorder 3 = .ok (.iload_n 1, 1) := by decide +kernel
theorem dL_inPostorder_4 : decode cL_inPostorder 4 = .ok (.iload_n 2, 1) := by decide +kernel
theorem dL_inPostorder_5 : decode cL_inPostorder 5 = .ok (.invokevirtual 61, 3) := by decide +kernel
theorem dL_inPostorder_8 : decode cL_inPostorder 8 = .ok (.i2l, 1) := by decide +kernel
theorem dL_inPostorder_9 : decode cL_inPostorder 9 = .ok (.lastore, 1) := by decide +kernel
theorem dL_inPostorder_10 : decode cL_inPostorder 10 = .ok (.goto 7, 3) := by decide +kernel
theorem dL_inPostorder_13 : decode cL_inPostorder 13 = .ok (.astore 4, 2) := by decide +kernel
theorem dL_inPostorder_15 : decode cL_inPostorder 15 = .ok (.iconst 1, 1) := by decide +kernel
theorem dL_inPostorder_16 : decode cL_inPostorder 16 = .ok (.ireturn, 1) := by decide +kernel
theorem dL_inPostorder_17 : decode cL_inPostorder 17 = .ok (.iconst 0, 1) := by decide +kernel
theorem dL_inPostorder_18 : decode cL_inPostorder 18 = .ok (.ireturn, 1) := by decide +kernel
set_option maxHeartbeats 4000000 in
set_option maxRecDepth 100000 in
theorem c_L_inPostorder (l : Launch) {p1 p2 : Int} (hlt : l.stackTraces = false) {D : va_G} {g : GT} {A : Nat → Prop} {a : Nat → Nat} {b : Nat → Nat → Nat} {M : Mem} {Q : Int → Mem → Prop} (hw : wp_X10_inPostorder M p1 p2 (fun r M1 => Q 0 (mset M1 14 0 0 (j32 r))) (fun E M1 => (E = "java/lang/IndexOutOfBoundsException" ∧ Q 1 M1))) : vx_Met l yL_inPostorder wsL_inPostorder ({ frames := 9, cells := 2, slots := 12, locals := 172 } : Room) (cPh D g A a b M [.ref (a 0), iv p1, iv p2, .ref (b 14 0)]) (cQi D g A a b Q) (cX D g A a b (fun _ _ => False)) 2 12 A := by
  refine vx_ofWH (cc := cL_inPostorder) (maxL := 5) (ret := some .int) (hh := [(0, 10, 13, 13)]) (by decide) rfl ?_
  intro p e s m args below meth c s₁ B hml hv
  obtain ⟨rfl, hP, hD, hG, hY⟩ := hv
  have X : vC p s m _ meth c D g A RL wsL_inPostorder cL_inPostorder 5 := ⟨B.exec, B.bytes, findClass_of_methodNamed B.named, atoms_spec (ws := wsL_inPostorder) B.pre, hG, hml, B.notSynchronized⟩
  have htab := vx_table (x := yL_inPostorder) (hh := [(0, 10, 13, 13)]) B (X.2.2.2.1 (Cond.codeWith yL_inPostorder cL_inPostorder 5 (some .int) [(0, 10, 13, 13)]) List.mem_cons_self)
  have hr := B.returns
  have hl := lv_entry ([.ref (a 0), iv p1, iv p2, .ref (b 14 0)]) (n := 5) (Nat.le_of_ble_eq_true rfl)
  rw [lg_entry_eq]
  generalize (lg_sl ([.ref (a 0), iv p1, iv p2, .ref (b 14 0)]) ++ List.replicate (5 - (lg_sl ([.ref (a 0), iv p1, iv p2, .ref (b 14 0)])).length) Slot.unset).toArray = ls at hl ⊢
  have hl : lv_has ls 5 [(0, .ref (a 0)), (1, iv p1), (2, iv p2), (3, .ref (b 14 0))] := hl
  suffices hV : vV p l e _ s m _ below meth c D g A a b 5 0 0 (vx_MQ below (cQi D g A a b Q) (cX D g A a b (fun _ _ => False)) _ s 2 12 A) M [(0, .ref (a 0)), (1, iv p1), (2, iv p2), (3, .ref (b 14 0))] 0 [] from hV s.heap [] ls hP hD va_S.rf hl
  refine V_aload_n X dL_inPostorder_0 rfl (q := 3) rfl ?_
  refine V_iconst X dL_inPostorder_1 ?_
  refine V_aload_n X dL_inPostorder_2 rfl (q := 0) rfl ?_
  refine V_iload_n X dL_inPostorder_3 rfl (q := 1) rfl ?_
  refine V_iload_n X dL_inPostorder_4 rfl (q := 2) rfl ?_
  refine V_callxV_i X _ _ gO_0 rfl (As := [iv p1, iv p2]) (st := [iv 0, .ref (b 14 0)]) (c_X10_inPostorder l hlt hw) (cwV 2 X.2.2.2.1 gL_inPostorder_X10_inPostorder rfl rfl rfl (by decide +kernel) ⟨Nat.le_of_ble_eq_true rfl, Nat.le_of_ble_eq_true rfl⟩) rfl (Nat.le_of_ble_eq_true rfl) ⟨Nat.le_of_ble_eq_true rfl, Nat.le_of_ble_eq_true rfl⟩ rfl dL_inPostorder_5 (fun E ce q9 M9 H9 locs9 ls9 hx9 hP9 hD9 hS9 hl9 h91 h92 h93 => ?_) (fun r M1 hw => ?_)
  · obtain ⟨rfl, hw⟩ := hx9
    refine V_catch X [] ⟨0, 10, 13, 13⟩ [] (by rw [htab]; rfl) (fun z hz => ?_) (by decide +kernel) (by decide) (List.mem_of_getElem? (i := 1) rfl) (hY.2 _ _ (Or.inl rfl)) hP9 hD9 hS9 hl9 h91 h92 h93 (fun q => ?_)
    · exact nomatch hz
    · refine V_astore (lv1 := [(0, .ref (a 0)), (1, iv p1), (2, iv p2), (3, .ref (b 14 0)), (4, .ref q)]) X [1, 2, 3, 4, 0] dL_inPostorder_13 (by decide) rfl ?_
      refine V_iconst X dL_inPostorder_15 ?_
      exact V_xret (Nat.le_of_ble_eq_true rfl) (Nat.le_of_ble_eq_true rfl) (V_iret X hr hw dL_inPostorder_16)
  · refine V_i2l X dL_inPostorder_8 (V_last0 X dL_inPostorder_9 (fun M2 e2 => ?_))
    subst e2
    exact V_goto (tgt := 17) X dL_inPostorder_10 (by decide) (V_iconst X dL_inPostorder_17 (V_xret (Nat.le_of_ble_eq_true rfl) (Nat.le_of_ble_eq_true rfl) (V_iret X hr hw dL_inPostorder_18)))
set_option maxRecDepth 20000 in
theorem ggL_subtreeSize_X10_subtreeSize : GoodIn wsL_subtreeSize wsX10_subtreeSize := goodIn_ca (goodIn_r _ [6, 7, 8, 9, 5, 10, 11, 12, 13, 14, 15, 16, 17, 18, 19, 20, 21, 22, 23, 24, 25, 26, 27, 28, 29, 30, 31, 32, 33, 34, 35, 36, 37, 38, 39, 40, 41, 42, 43, 44] (by decide +kernel) (by decide +kernel)) (goodIn_sub (fun _ h => List.mem_cons_of_mem _ (List.mem_append_right _ h)) (by decide +kernel))
set_option maxRecDepth 20000 in
theorem gL_subtreeSize_X10_subtreeSize : GoodIn wsL_subtreeSize (wsV RL 64 RX10 yX10_subtreeSize wsX10_subtreeSize) := goodIn_app (goodIn_of _ (by decide +kernel)) ggL_subtreeSize_X10_subtreeSize
theorem dL_subtreeSize_0 : decode cL_subtreeSize 0 = .ok (.aload_n 3, 1) := by decide +kernel
theorem dL_subtreeSize_1 : decode cL_subtreeSize 1 = .ok (.iconst 0, 1) := by decide +kernel
theorem dL_subtreeSize_2 : decode cL_subtreeSize 2 = .ok (.aload_n 0, 1) := by decide +kernel
theorem dL_subtreeSize_3 : decode cL_subtreeSize 3 = .ok (.iload_n 1, 1) := by decide +kernel
theorem dL_subtreeSize_4 : decode cL_subtreeSize 4 = .ok (.iload_n 2, 1) := by decide +kernel
theorem dL_subtreeSize_5 : decode cL_subtreeSize 5 = .ok (.invokevirtual 64, 3) := by decide +kernel
theorem dL_subtreeSize_8 : decode cL_subtreeSize 8 = .ok (.i2l, 1) := by decide +kernel
theorem dL_subtreeSize_9 : decode cL_subtreeSize 9 = .ok (.lastore, 1) := by decide +kernel
theorem dL_subtreeSize_10 : decode cL_subtreeSize 10 = .ok (.goto 7, 3) := by decide +kernel
theorem dL_subtreeSize_13 : decode cL_subtreeSize 13 = .ok (.astore 4, 2) := by decide +kernel
theorem dL_subtreeSize_15 : decode cL_subtreeSize 15 = .ok (.iconst 1, 1) := by decide +kernel
theorem dL_subtreeSize_16 : decode cL_subtreeSize 16 = .ok (.ireturn, 1) := by decide +kernel
theorem dL_subtreeSize_17 : decode cL_subtreeSize 17 = .ok (.iconst 0, 1) := by decide +kernel
theorem dL_subtreeSize_18 : decode cL_subtreeSize 18 = .ok (.ireturn, 1) := by decide +kernel
set_option maxHeartbeats 4000000 in
set_option maxRecDepth 100000 in
theorem c_L_subtreeSize (l : Launch) {p1 p2 : Int} (hlt : l.stackTraces = false) {D : va_G} {g : GT} {A : Nat → Prop} {a : Nat → Nat} {b : Nat → Nat → Nat} {M : Mem} {Q : Int → Mem → Prop} (hw : wp_X10_subtreeSize M p1 p2 (fun r M1 => Q 0 (mset M1 14 0 0 (j32 r))) (fun E M1 => (E = "java/lang/IndexOutOfBoundsException" ∧ Q 1 M1))) : vx_Met l yL_subtreeSize wsL_subtreeSize ({ frames := 10, cells := 2, slots := 12, locals := 195 } : Room) (cPh D g A a b M [.ref (a 0), iv p1, iv p2, .ref (b 14 0)]) (cQi D g A a b Q) (cX D g A a b (fun _ _ => False)) 2 12 A := by
  refine vx_ofWH (cc := cL_subtreeSize) (maxL := 5) (ret := some .int) (hh := [(0, 10, 13, 13)]) (by decide) rfl ?_
  intro p e s m args below meth c s₁ B hml hv
  obtain ⟨rfl, hP, hD, hG, hY⟩ := hv
  have X : vC p s m _ meth c D g A RL wsL_subtreeSize cL_subtreeSize 5 := ⟨B.exec, B.bytes, findClass_of_methodNamed B.named, atoms_spec (ws := wsL_subtreeSize) B.pre, hG, hml, B.notSynchronized⟩
  have htab := vx_table (x := yL_subtreeSize) (hh := [(0, 10, 13, 13)]) B (X.2.2.2.1 (Cond.codeWith yL_subtreeSize cL_subtreeSize 5 (some .int) [(0, 10, 13, 13)]) List.mem_cons_self)
  have hr := B.returns
  have hl := lv_entry ([.ref (a 0), iv p1, iv p2, .ref (b 14 0)]) (n := 5) (Nat.le_of_ble_eq_true rfl)
  rw [lg_entry_eq]
  generalize (lg_sl ([.ref (a 0), iv p1, iv p2, .ref (b 14 0)]) ++ List.replicate (5 - (lg_sl ([.ref (a 0), iv p1, iv p2, .ref (b 14 0)])).length) Slot.unset).toArray = ls at hl ⊢
  have hl : lv_has ls 5 [(0, .ref (a 0)), (1, iv p1), (2, iv p2), (3, .ref (b 14 0))] := hl
  suffices hV : vV p l e _ s m _ below meth c D g A a b 5 0 0 (vx_MQ below (cQi D g A a b Q) (cX D g A a b (fun _ _ => False)) _ s 2 12 A) M [(0, .ref (a 0)), (1, iv p1), (2, iv p2), (3, .ref (b 14 0))] 0 [] from hV s.heap [] ls hP hD va_S.rf hl
  refine V_aload_n X dL_subtreeSize_0 rfl (q := 3) rfl ?_
  refine V_iconst X dL_subtreeSize_1 ?_
  refine V_aload_n X dL_subtreeSize_2 rfl (q := 0) rfl ?_
  refine V_iload_n X dL_subtreeSize_3 rfl (q := 1) rfl ?_
  refine V_iload_n X dL_subtreeSize_4 rfl (q := 2) rfl ?_
  refine V_callxV_i X _ _ gO_0 rfl (As := [iv p1, iv p2]) (st := [iv 0, .ref (b 14 0)]) (c_X10_subtreeSize l hlt hw) (cwV 2 X.2.2.2.1 gL_subtreeSize_X10_subtreeSize rfl rfl rfl (by decide +kernel) ⟨Nat.le_of_ble_eq_true rfl, Nat.le_of_ble_eq_true rfl⟩) rfl (Nat.le_of_ble_eq_true rfl) ⟨Nat.le_of_ble_eq_true rfl, Nat.le_of_ble_eq_true rfl⟩ rfl dL_subtreeSize_5 (fun E ce q9 M9 H9 locs9 ls9 hx9 hP9 hD9 hS9 hl9 h91 h92 h93 => ?_) (fun r M1 hw => ?_)
  · obtain ⟨rfl, hw⟩ := hx9
    refine V_catch X [] ⟨0, 10, 13, 13⟩ [] (by rw [htab]; rfl) (fun z hz => ?_) (by decide +kernel) (by decide) (List.mem_of_getElem? (i := 1) rfl) (hY.2 _ _ (Or.inl rfl)) hP9 hD9 hS9 hl9 h91 h92 h93 (fun q => ?_)
    · exact nomatch hz
    · refine V_astore (lv1 := [(0, .ref (a 0)), (1, iv p1), (2, iv p2), (3, .ref (b 14 0)), (4, .ref q)]) X [1, 2, 3, 4, 0] dL_subtreeSize_13 (by decide) rfl ?_
      refine V_iconst X dL_subtreeSize_15 ?_
      exact V_xret (Nat.le_of_ble_eq_true rfl) (Nat.le_of_ble_eq_true rfl) (V_iret X hr hw dL_subtreeSize_16)
  · refine V_i2l X dL_subtreeSize_8 (V_last0 X dL_subtreeSize_9 (fun M2 e2 => ?_))
    subst e2
    exact V_goto (tgt := 17) X dL_subtreeSize_10 (by decide) (V_iconst X dL_subtreeSize_17 (V_xret (Nat.le_of_ble_eq_true rfl) (Nat.le_of_ble_eq_true rfl) (V_iret X hr hw dL_subtreeSize_18)))
set_option maxRecDepth 20000 in
theorem ggL_isKeyroot_X10_isKeyroot : GoodIn wsL_isKeyroot wsX10_isKeyroot := goodIn_ca (goodIn_r _ [6, 7, 8, 9, 5, 10, 11, 12, 13, 14, 15, 16, 17, 18, 19, 20, 21, 22, 23, 24, 25, 26, 27, 28, 29, 30, 31, 32, 33, 34, 35, 36, 37, 38, 39, 40, 41, 42, 43, 44, 45, 46, 47, 48, 49, 50] (by decide +kernel) (by decide +kernel)) (goodIn_sub (fun _ h => List.mem_cons_of_mem _ (List.mem_append_right _ h)) (by decide +kernel))
set_option maxRecDepth 20000 in
theorem gL_isKeyroot_X10_isKeyroot : GoodIn wsL_isKeyroot (wsV RL 67 RX10 yX10_isKeyroot wsX10_isKeyroot) := goodIn_app (goodIn_of _ (by decide +kernel)) ggL_isKeyroot_X10_isKeyroot
theorem dL_isKeyroot_0 : decode cL_isKeyroot 0 = .ok (.aload_n 3, 1) := by decide +kernel
theorem dL_isKeyroot_1 : decode cL_isKeyroot 1 = .ok (.iconst 0, 1) := by decide +kernel
theorem dL_isKeyroot_2 : decode cL_isKeyroot 2 = .ok (.aload_n 0, 1) := by decide +kernel
theorem dL_isKeyroot_3 : decode cL_isKeyroot 3 = .ok (.iload_n 1, 1) := by decide +kernel
theorem dL_isKeyroot_4 : decode cL_isKeyroot 4 = .ok (.iload_n 2, 1) := by decide +kernel
theorem dL_isKeyroot_5 : decode cL_isKeyroot 5 = .ok (.invokevirtual 67, 3) := by decide +kernel
theorem dL_isKeyroot_8 : decode cL_isKeyroot 8 = .ok (.ifCond .eq 7, 3) := by decide +kernel
theorem dL_isKeyroot_11 : decode cL_isKeyroot 11 = .ok (.lconst 1, 1) := by decide +kernel
theorem dL_isKeyroot_12 : decode cL_isKeyroot 12 = .ok (.goto 4, 3) := by decide +kernel
theorem dL_isKeyroot_15 : decode cL_isKeyroot 15 = .ok (.lconst 0, 1) := by decide +kernel
theorem dL_isKeyroot_16 : decode cL_isKeyroot 16 = .ok (.lastore, 1) := by decide +kernel
theorem dL_isKeyroot_17 : decode cL_isKeyroot 17 = .ok (.goto 7, 3) := by decide +kernel
theorem dL_isKeyroot_20 : decode cL_isKeyroot 20 = .ok (.astore 4, 2) := by decide +kernel
theorem dL_isKeyroot_22 : decode cL_isKeyroot 22 = .ok (.iconst 1, 1) := by decide +kernel
theorem dL_isKeyroot_23 : decode cL_isKeyroot 23 = .ok (.ireturn, 1) := by decide +kernel
theorem dL_isKeyroot_24 : decode cL_isKeyroot 24 = .ok (.iconst 0, 1) := by decide +kernel
theorem dL_isKeyroot_25 : decode cL_isKeyroot 25 = .ok (.ireturn, 1) := by decide +kernel
set_option maxHeartbeats 4000000 in
set_option maxRecDepth 100000 in
theorem c_L_isKeyroot (l : Launch) {p1 p2 : Int} (hlt : l.stackTraces = false) {D : va_G} {g : GT} {A : Nat → Prop} {a : Nat → Nat} {b : Nat → Nat → Nat} {M : Mem} {Q : Int → Mem → Prop} (hw : wp_X10_isKeyroot M p1 p2 (fun r M1 => (r = 0 ∨ r = 1) ∧ Q 0 (mset M1 14 0 0 r)) (fun E M1 => (E = "java/lang/IndexOutOfBoundsException" ∧ Q 1 M1))) : vx_Met l yL_isKeyroot wsL_isKeyroot ({ frames := 10, cells := 2, slots := 12, locals := 195 } : Room) (cPh D g A a b M [.ref (a 0), iv p1, iv p2, .ref (b 14 0)]) (cQi D g A a b Q) (cX D g A a b (fun _ _ => False)) 2 12 A := by
  refine vx_ofWH (cc := cL_isKeyroot) (maxL := 5) (ret := some .int) (hh := [(0, 17, 20, 13)]) (by decide) rfl ?_
  intro p e s m args below meth c s₁ B hml hv
  obtain ⟨rfl, hP, hD, hG, hY⟩ := hv
  have X : vC p s m _ meth c D g A RL wsL_isKeyroot cL_isKeyroot 5 := ⟨B.exec, B.bytes, findClass_of_methodNamed B.named, atoms_spec (ws := wsL_isKeyroot) B.pre, hG, hml, B.notSynchronized⟩
  have htab := vx_table (x := yL_isKeyroot) (hh := [(0, 17, 20, 13)]) B (X.2.2.2.1 (Cond.codeWith yL_isKeyroot cL_isKeyroot 5 (some .int) [(0, 17, 20, 13)]) List.mem_cons_self)
  have hr := B.returns
  have hl := lv_entry ([.ref (a 0), iv p1, iv p2, .ref (b 14 0)]) (n := 5) (Nat.le_of_ble_eq_true rfl)
  rw [lg_entry_eq]
  generalize (lg_sl ([.ref (a 0), iv p1, iv p2, .ref (b 14 0)]) ++ List.replicate (5 - (lg_sl ([.ref (a 0), iv p1, iv p2, .ref (b 14 0)])).length) Slot.unset).toArray = ls at hl ⊢
  have hl : lv_has ls 5 [(0, .ref (a 0)), (1, iv p1), (2, iv p2), (3, .ref (b 14 0))] := hl
  suffices hV : vV p l e _ s m _ below meth c D g A a b 5 0 0 (vx_MQ below (cQi D g A a b Q) (cX D g A a b (fun _ _ => False)) _ s 2 12 A) M [(0, .ref (a 0)), (1, iv p1), (2, iv p2), (3, .ref (b 14 0))] 0 [] from hV s.heap [] ls hP hD va_S.rf hl
  refine V_aload_n X dL_isKeyroot_0 rfl (q := 3) rfl ?_
  refine V_iconst X dL_isKeyroot_1 ?_
  refine V_aload_n X dL_isKeyroot_2 rfl (q := 0) rfl ?_
  refine V_iload_n X dL_isKeyroot_3 rfl (q := 1) rfl ?_
  refine V_iload_n X dL_isKeyroot_4 rfl (q := 2) rfl ?_
  refine V_callxV_i X _ _ gO_0 rfl (As := [iv p1, iv p2]) (st := [iv 0, .ref (b 14 0)]) (c_X10_isKeyroot l hlt hw) (cwV 2 X.2.2.2.1 gL_isKeyroot_X10_isKeyroot rfl rfl rfl (by decide +kernel) ⟨Nat.le_of_ble_eq_true rfl, Nat.le_of_ble_eq_true rfl⟩) rfl (Nat.le_of_ble_eq_true rfl) ⟨Nat.le_of_ble_eq_true rfl, Nat.le_of_ble_eq_true rfl⟩ rfl dL_isKeyroot_5 (fun E ce q9 M9 H9 locs9 ls9 hx9 hP9 hD9 hS9 hl9 h91 h92 h93 => ?_) (fun r M1 hw => ?_)
  · obtain ⟨rfl, hw⟩ := hx9
    refine V_catch X [] ⟨0, 17, 20, 13⟩ [] (by rw [htab]; rfl) (fun z hz => ?_) (by decide +kernel) (by decide) (List.mem_of_getElem? (i := 1) rfl) (hY.2 _ _ (Or.inl rfl)) hP9 hD9 hS9 hl9 h91 h92 h93 (fun q => ?_)
    · exact nomatch hz
    · refine V_astore (lv1 := [(0, .ref (a 0)), (1, iv p1), (2, iv p2), (3, .ref (b 14 0)), (4, .ref q)]) X [1, 2, 3, 4, 0] dL_isKeyroot_20 (by decide) rfl ?_
      refine V_iconst X dL_isKeyroot_22 ?_
      exact V_xret (Nat.le_of_ble_eq_true rfl) (Nat.le_of_ble_eq_true rfl) (V_iret X hr hw dL_isKeyroot_23)
  · obtain ⟨h01, hw⟩ := hw
    refine V_if_eq (x := r) (tgt := 15) X ⟨by omega, by omega⟩ dL_isKeyroot_8 (by decide) (fun q8 => V_lconst (y := 0) X dL_isKeyroot_15 (by decide) (V_last0 X dL_isKeyroot_16 (fun M2 e2 => ?_))) (fun q8 => V_lconst (y := 1) X dL_isKeyroot_11 (by decide) (V_goto (tgt := 16) X dL_isKeyroot_12 (by decide) (V_last0 X dL_isKeyroot_16 (fun M2 e2 => ?_))))
    · subst e2
      rw [q8] at hw
      exact V_goto (tgt := 24) X dL_isKeyroot_17 (by decide) (V_iconst X dL_isKeyroot_24 (V_xret (Nat.le_of_ble_eq_true rfl) (Nat.le_of_ble_eq_true rfl) (V_iret X hr hw dL_isKeyroot_25)))
    · subst e2
      rw [show r = 1 from by omega] at hw
      exact V_goto (tgt := 24) X dL_isKeyroot_17 (by decide) (V_iconst X dL_isKeyroot_24 (V_xret (Nat.le_of_ble_eq_true rfl) (Nat.le_of_ble_eq_true rfl) (V_iret X hr hw dL_isKeyroot_25)))
set_option maxRecDepth 20000 in
theorem ggL_subtreeDistance_X10_subtreeDistance : GoodIn wsL_subtreeDistance wsX10_subtreeDistance := goodIn_ca (goodIn_r _ [6, 7, 8, 9, 10, 11, 12, 5, 13, 14, 15, 16, 17, 18, 19, 20, 21, 22, 23, 24, 25, 26, 27, 28, 29, 30, 31, 32, 33, 34, 35, 36, 37, 38, 39, 40, 41, 42, 43, 44, 45, 46, 47, 48, 49, 50, 51, 52, 53, 54, 55, 56, 57, 58, 59, 60, 61, 62, 63, 64, 65, 66, 67, 68, 69, 70, 71, 72, 73, 74, 75, 76, 77, 78, 79, 80, 81, 82, 83, 84, 85, 86, 87, 88, 89, 90, 91, 92, 93, 94, 95, 96, 97, 98, 99, 100, 101, 102, 103, 104, 105, 106, 107, 108, 109, 110, 111, 112, 113, 114, 115, 116, 117, 118] (by decide +kernel) (by decide +kernel)) (goodIn_sub (fun _ h => List.mem_cons_of_mem _ (List.mem_append_right _ h)) (by decide +kernel))
set_option maxRecDepth 20000 in
theorem gL_subtreeDistance_X10_subtreeDistance : GoodIn wsL_subtreeDistance (wsV RL 71 RX10 yX10_subtreeDistance wsX10_subtreeDistance) := goodIn_app (goodIn_of _ (by decide +kernel)) ggL_subtreeDistance_X10_subtreeDistance
theorem dL_subtreeDistance_0 : decode cL_subtreeDistance 0 = .ok (.aload_n 3, 1) := by decide +kernel
theorem dL_subtreeDistance_1 : decode cL_subtreeDistance 1 = .ok (.iconst 0, 1) := by decide +kernel
theorem dL_subtreeDistance_2 : decode cL_subtreeDistance 2 = .ok (.aload_n 0, 1) := by decide +kernel
theorem dL_subtreeDistance_3 : decode cL_subtreeDistance 3 = .ok (.iload_n 1, 1) := by decide +kernel
theorem dL_subtreeDistance_4 : decode cL_subtreeDistance 4 = .ok (.iload_n 2, 1) := by decide +kernel
theorem dL_subtreeDistance_5 : decode cL_subtreeDistance 5 = .ok (.invokevirtual 71, 3) := by decide +kernel
theorem dL_subtreeDistance_8 : decode cL_subtreeDistance 8 = .ok (.i2l, 1) := by decide +kernel
theorem dL_subtreeDistance_9 : decode cL_subtreeDistance 9 = .ok (.lastore, 1) := by decide +kernel
theorem dL_subtreeDistance_10 : decode cL_subtreeDistance 10 = .ok (.goto 7, 3) := by decide +kernel
theorem dL_subtreeDistance_13 : decode cL_subtreeDistance 13 = .ok (.astore 4, 2) := by decide +kernel
theorem dL_subtreeDistance_15 : decode cL_subtreeDistance 15 = .ok (.iconst 1, 1) := by decide +kernel
theorem dL_subtreeDistance_16 : decode cL_subtreeDistance 16 = .ok (.ireturn, 1) := by decide +kernel
theorem dL_subtreeDistance_17 : decode cL_subtreeDistance 17 = .ok (.iconst 0, 1) := by decide +kernel
theorem dL_subtreeDistance_18 : decode cL_subtreeDistance 18 = .ok (.ireturn, 1) := by decide +kernel
set_option maxHeartbeats 4000000 in
set_option maxRecDepth 100000 in
theorem c_L_subtreeDistance (l : Launch) {p1 p2 : Int} (hlt : l.stackTraces = false) {D : va_G} {g : GT} {A : Nat → Prop} {a : Nat → Nat} {b : Nat → Nat → Nat} {M : Mem} {Q : Int → Mem → Prop} (hw : wp_X10_subtreeDistance M p1 p2 (fun r M1 => Q 0 (mset M1 14 0 0 (j32 r))) (fun E M1 => (E = "java/lang/IndexOutOfBoundsException" ∧ Q 1 M1))) : vx_Met l yL_subtreeDistance wsL_subtreeDistance ({ frames := 9, cells := 2, slots := 12, locals := 173 } : Room) (cPh D g A a b M [.ref (a 0), iv p1, iv p2, .ref (b 14 0)]) (cQi D g A a b Q) (cX D g A a b (fun _ _ => False)) 2 12 A := by
  refine vx_ofWH (cc := cL_subtreeDistance) (maxL := 5) (ret := some .int) (hh := [(0, 10, 13, 13)]) (by decide) rfl ?_
  intro p e s m args below meth c s₁ B hml hv
  obtain ⟨rfl, hP, hD, hG, hY⟩ := hv
  have X : vC p s m _ meth c D g A RL wsL_subtreeDistance cL_subtreeDistance 5 := ⟨B.exec, B.bytes, findClass_of_methodNamed B.named, atoms_spec (ws := wsL_subtreeDistance) B.pre, hG, hml, B.notSynchronized⟩
  have htab := vx_table (x := yL_subtreeDistance) (hh := [(0, 10, 13, 13)]) B (X.2.2.2.1 (Cond.codeWith yL_subtreeDistance cL_subtreeDistance 5 (some .int) [(0, 10, 13, 13)]) List.mem_cons_self)
  have hr := B.returns
  have hl := lv_entry ([.ref (a 0), iv p1, iv p2, .ref (b 14 0)]) (n := 5) (Nat.le_of_ble_eq_true rfl)
  rw [lg_entry_eq]
  generalize (lg_sl ([.ref (a 0), iv p1, iv p2, .ref (b 14 0)]) ++ List.replicate (5 - (lg_sl ([.ref (a 0), iv p1, iv p2, .ref (b 14 0)])).length) Slot.unset).toArray = ls at hl ⊢
  have hl : lv_has ls 5 [(0, .ref (a 0)), (1, iv p1), (2, iv p2), (3, .ref (b 14 0))] := hl
  suffices hV : vV p l e _ s m _ below meth c D g A a b 5 0 0 (vx_MQ below (cQi D g A a b Q) (cX D g A a b (fun _ _ => False)) _ s 2 12 A) M [(0, .ref (a 0)), (1, iv p1), (2, iv p2), (3, .ref (b 14 0))] 0 [] from hV s.heap [] ls hP hD va_S.rf hl
  refine V_aload_n X dL_subtreeDistance_0 rfl (q := 3) rfl ?_
  refine V_iconst X dL_subtreeDistance_1 ?_
  refine V_aload_n X dL_subtreeDistance_2 rfl (q := 0) rfl ?_
  refine V_iload_n X dL_subtreeDistance_3 rfl (q := 1) rfl ?_
  refine V_iload_n X dL_subtreeDistance_4 rfl (q := 2) rfl ?_
  refine V_callxV_i X _ _ gO_0 rfl (As := [iv p1, iv p2]) (st := [iv 0, .ref (b 14 0)]) (c_X10_subtreeDistance l hlt hw) (cwV 2 X.2.2.2.1 gL_subtreeDistance_X10_subtreeDistance rfl rfl rfl (by decide +kernel) ⟨Nat.le_of_ble_eq_true rfl, Nat.le_of_ble_eq_true rfl⟩) rfl (Nat.le_of_ble_eq_true rfl) ⟨Nat.le_of_ble_eq_true rfl, Nat.le_of_ble_eq_true rfl⟩ rfl dL_subtreeDistance_5 (fun E ce q9 M9 H9 locs9 ls9 hx9 hP9 hD9 hS9 hl9 h91 h92 h93 => ?_) (fun r M1 hw => ?_)
  · obtain ⟨rfl, hw⟩ := hx9
    refine V_catch X [] ⟨0, 10, 13, 13⟩ [] (by rw [htab]; rfl) (fun z hz => ?_) (by decide +kernel) (by decide) (List.mem_of_getElem? (i := 1) rfl) (hY.2 _ _ (Or.inl rfl)) hP9 hD9 hS9 hl9 h91 h92 h93 (fun q => ?_)
    · exact nomatch hz
    · refine V_astore (lv1 := [(0, .ref (a 0)), (1, iv p1), (2, iv p2), (3, .ref (b 14 0)), (4, .ref q)]) X [1, 2, 3, 4, 0] dL_subtreeDistance_13 (by decide) rfl ?_
      refine V_iconst X dL_subtreeDistance_15 ?_
      exact V_xret (Nat.le_of_ble_eq_true rfl) (Nat.le_of_ble_eq_true rfl) (V_iret X hr hw dL_subtreeDistance_16)
  · refine V_i2l X dL_subtreeDistance_8 (V_last0 X dL_subtreeDistance_9 (fun M2 e2 => ?_))
    subst e2
    exact V_goto (tgt := 17) X dL_subtreeDistance_10 (by decide) (V_iconst X dL_subtreeDistance_17 (V_xret (Nat.le_of_ble_eq_true rfl) (Nat.le_of_ble_eq_true rfl) (V_iret X hr hw dL_subtreeDistance_18)))
set_option maxRecDepth 20000 in
theorem ggL_partnerOf_X10_partnerOf : GoodIn wsL_partnerOf wsX10_partnerOf := goodIn_ca (goodIn_r _ [6, 7, 8, 9, 10, 5, 11, 12, 13, 14, 15, 16, 17, 18, 19, 20, 21, 22, 23, 24, 25, 26, 27, 28, 29, 30, 31, 32, 33, 34, 35, 36, 37, 38, 39, 40, 41, 42, 43, 44, 45, 46, 47, 48, 49, 50, 51, 52, 53, 54, 55, 56, 57, 58, 59, 60, 61, 62, 63, 64, 65, 66, 67, 68, 69, 70, 71, 72, 73, 74, 75, 76, 77, 78, 79, 80, 81, 82, 83, 84, 85, 86, 87, 88, 89, 90, 91, 92, 93, 94, 95, 96, 97, 98, 99, 100, 101, 102, 103, 104, 105, 106, 107, 108, 109, 110, 111, 112, 113, 114, 115, 116, 117, 118, 119, 120, 121, 122, 123, 124, 125, 126, 127, 128, 129, 130, 131, 132, 133, 134, 135, 136, 137, 138, 139, 140, 141, 142, 143, 144, 145, 146, 147, 148, 149, 150, 151, 152, 153, 154, 155, 156, 157, 158, 159, 160, 161, 162, 163, 164, 165, 166, 167, 168, 169, 170, 171, 172, 173, 174, 175, 176, 177, 178, 179, 180, 181, 182, 183, 184, 185, 186, 187, 188, 189, 190, 191, 192, 193, 194, 195, 196, 197, 198, 199, 200, 201, 202, 203, 204, 205, 206, 207, 208, 209, 210, 211, 212, 213, 214, 215, 216, 217, 218, 219, 220, 221] (by decide +kernel) (by decide +kernel)) (goodIn_sub (fun _ h => List.mem_cons_of_mem _ (List.mem_append_right _ h)) (by decide +kernel))
set_option maxRecDepth 20000 in
theorem gL_partnerOf_X10_partnerOf : GoodIn wsL_partnerOf (wsV RL 74 RX10 yX10_partnerOf wsX10_partnerOf) := goodIn_app (goodIn_of _ (by decide +kernel)) ggL_partnerOf_X10_partnerOf
theorem dL_partnerOf_0 : decode cL_partnerOf 0 = .ok (.aload_n 2, 1) := by decide +kernel
theorem dL_partnerOf_1 : decode cL_partnerOf 1 = .ok (.iconst 0, 1) := by decide +kernel
theorem dL_partnerOf_2 : decode cL_partnerOf 2 = .ok (.aload_n 0, 1) := by decide +kernel
theorem dL_partnerOf_3 : decode cL_partnerOf 3 = .ok (.iload_n 1, 1) := by decide +kernel
theorem dL_partnerOf_4 : decode cL_partnerOf 4 = .ok (.invokevirtual 74, 3) := by decide +kernel
theorem dL_partnerOf_7 : decode cL_partnerOf 7 = .ok (.i2l, 1) := by decide +kernel
theorem dL_partnerOf_8 : decode cL_partnerOf 8 = .ok (.lastore, 1) := by decide +kernel
theorem dL_partnerOf_9 : decode cL_partnerOf 9 = .ok (.goto 6, 3) := by decide +kernel
theorem dL_partnerOf_12 : decode cL_partnerOf 12 = .ok (.astore_n 3, 1) := by decide +kernel
theorem dL_partnerOf_13 : decode cL_partnerOf 13 = .ok (.iconst 1, 1) := by decide +kernel
theorem dL_partnerOf_14 : decode cL_partnerOf 14 = .ok (.ireturn, 1) := by decide +kernel
theorem dL_partnerOf_15 : decode cL_partnerOf 15 = .ok (.iconst 0, 1) := by decide +kernel
theorem dL_partnerOf_16 : decode cL_partnerOf 16 = .ok (.ireturn, 1) := by decide +kernel
set_option maxHeartbeats 4000000 in
set_option maxRecDepth 100000 in
theorem c_L_partnerOf (l : Launch) {p1 : Int} (hlt : l.stackTraces = false) {D : va_G} {g : GT} {A : Nat → Prop} {a : Nat → Nat} {b : Nat → Nat → Nat} {M : Mem} {Q : Int → Mem → Prop} (hw : wp_X10_partnerOf M p1 (fun r M1 => Q 0 (mset M1 14 0 0 (j32 r))) (fun E M1 => (E = "java/lang/IndexOutOfBoundsException" ∧ Q 1 M1))) : vx_Met l yL_partnerOf wsL_partnerOf ({ frames := 34, cells := 1, slots := 6, locals := 1124 } : Room) (cPh D g A a b M [.ref (a 0), iv p1, .ref (b 14 0)]) (cQi D g A a b Q) (cX D g A a b (fun _ _ => False)) 1 6 A := by
  refine vx_ofWH (cc := cL_partnerOf) (maxL := 4) (ret := some .int) (hh := [(0, 9, 12, 13)]) (by decide) rfl ?_
  intro p e s m args below meth c s₁ B hml hv
  obtain ⟨rfl, hP, hD, hG, hY⟩ := hv
  have X : vC p s m _ meth c D g A RL wsL_partnerOf cL_partnerOf 4 := ⟨B.exec, B.bytes, findClass_of_methodNamed B.named, atoms_spec (ws := wsL_partnerOf) B.pre, hG, hml, B.notSynchronized⟩
  have htab := vx_table (x := yL_partnerOf) (hh := [(0, 9, 12, 13)]) B (X.2.2.2.1 (Cond.codeWith yL_partnerOf cL_partnerOf 4 (some .int) [(0, 9, 12, 13)]) List.mem_cons_self)
  have hr := B.returns
  have hl := lv_entry ([.ref (a 0), iv p1, .ref (b 14 0)]) (n := 4) (Nat.le_of_ble_eq_true rfl)
  rw [lg_entry_eq]
  generalize (lg_sl ([.ref (a 0), iv p1, .ref (b 14 0)]) ++ List.replicate (4 - (lg_sl ([.ref (a 0), iv p1, .ref (b 14 0)])).length) Slot.unset).toArray = ls at hl ⊢
  have hl : lv_has ls 4 [(0, .ref (a 0)), (1, iv p1), (2, .ref (b 14 0))] := hl
  suffices hV : vV p l e _ s m _ below meth c D g A a b 4 0 0 (vx_MQ below (cQi D g A a b Q) (cX D g A a b (fun _ _ => False)) _ s 1 6 A) M [(0, .ref (a 0)), (1, iv p1), (2, .ref (b 14 0))] 0 [] from hV s.heap [] ls hP hD va_S.rf hl
  refine V_aload_n X dL_partnerOf_0 rfl (q := 2) rfl ?_
  refine V_iconst X dL_partnerOf_1 ?_
  refine V_aload_n X dL_partnerOf_2 rfl (q := 0) rfl ?_
  refine V_iload_n X dL_partnerOf_3 rfl (q := 1) rfl ?_
  refine V_callxV_i X _ _ gO_0 rfl (As := [iv p1]) (st := [iv 0, .ref (b 14 0)]) (c_X10_partnerOf l hlt hw) (cwV 1 X.2.2.2.1 gL_partnerOf_X10_partnerOf rfl rfl rfl (by decide +kernel) ⟨Nat.le_of_ble_eq_true rfl, Nat.le_of_ble_eq_true rfl⟩) rfl (Nat.le_of_ble_eq_true rfl) ⟨Nat.le_of_ble_eq_true rfl, Nat.le_of_ble_eq_true rfl⟩ rfl dL_partnerOf_4 (fun E ce q9 M9 H9 locs9 ls9 hx9 hP9 hD9 hS9 hl9 h91 h92 h93 => ?_) (fun r M1 hw => ?_)
  · obtain ⟨rfl, hw⟩ := hx9
    refine V_catch X [] ⟨0, 9, 12, 13⟩ [] (by rw [htab]; rfl) (fun z hz => ?_) (by decide +kernel) (by decide) (List.mem_of_getElem? (i := 1) rfl) (hY.2 _ _ (Or.inl rfl)) hP9 hD9 hS9 hl9 h91 h92 h93 (fun q => ?_)
    · exact nomatch hz
    · refine V_astore_n (lv1 := [(0, .ref (a 0)), (1, iv p1), (2, .ref (b 14 0)), (3, .ref q)]) X [1, 2, 3, 0] dL_partnerOf_12 rfl (by decide) rfl ?_
      refine V_iconst X dL_partnerOf_13 ?_
      exact V_xret (Nat.le_of_ble_eq_true rfl) (Nat.le_of_ble_eq_true rfl) (V_iret X hr hw dL_partnerOf_14)
  · refine V_i2l X dL_partnerOf_7 (V_last0 X dL_partnerOf_8 (fun M2 e2 => ?_))
    subst e2
    exact V_goto (tgt := 15) X dL_partnerOf_9 (by decide) (V_iconst X dL_partnerOf_15 (V_xret (Nat.le_of_ble_eq_true rfl) (Nat.le_of_ble_eq_true rfl) (V_iret X hr hw dL_partnerOf_16)))
set_option maxRecDepth 20000 in
theorem ggL_canBePaired_X10_canBePaired : GoodIn wsL_canBePaired wsX10_canBePaired := goodIn_ca (goodIn_r _ [6, 7, 8, 9, 10, 11, 12, 13, 5, 14, 15, 16, 17, 18, 19, 20, 21, 22, 23, 24, 25, 26, 27, 28, 29, 30, 31, 32, 33, 34, 35, 36, 37, 38, 39, 40, 41, 42, 43, 44, 45, 46, 47, 48, 49, 50, 51, 52, 53, 54, 55, 56, 57, 58, 59, 60, 61, 62, 63, 64, 65, 66, 67, 68, 69, 70, 71, 72, 73, 74, 75, 76, 77, 78, 79, 80, 81, 82, 83, 84, 85, 86, 87, 88, 89, 90, 91, 92, 93, 94, 95, 96, 97, 98, 99, 100, 101, 102, 103, 104, 105, 106, 107, 108, 109, 110, 111, 112, 113, 114, 115, 116, 117, 118, 119, 120, 121, 122, 123, 124, 125, 126, 127, 128, 129, 130, 131, 132, 133, 134, 135, 136, 137] (by decide +kernel) (by decide +kernel)) (goodIn_sub (fun _ h => List.mem_cons_of_mem _ (List.mem_append_right _ h)) (by decide +kernel))
set_option maxRecDepth 20000 in
theorem gL_canBePaired_X10_canBePaired : GoodIn wsL_canBePaired (wsV RL 77 RX10 yX10_canBePaired wsX10_canBePaired) := goodIn_app (goodIn_of _ (by decide +kernel)) ggL_canBePaired_X10_canBePaired
theorem dL_canBePaired_0 : decode cL_canBePaired 0 = .ok (.aload_n 3, 1) := by decide +kernel
theorem dL_canBePaired_1 : decode cL_canBePaired 1 = .ok (.iconst 0, 1) := by decide +kernel
theorem dL_canBePaired_2 : decode cL_canBePaired 2 = .ok (.aload_n 0, 1) := by decide +kernel
theorem dL_canBePaired_3 : decode cL_canBePaired 3 = .ok (.iload_n 1, 1) := by decide +kernel
theorem dL_canBePaired_4 : decode cL_canBePaired 4 = .ok (.iload_n 2, 1) := by decide +kernel
theorem dL_canBePaired_5 : decode cL_canBePaired 5 = .ok (.invokevirtual 77, 3) := by decide +kernel
theorem dL_canBePaired_8 : decode cL_canBePaired 8 = .ok (.ifCond .eq 7, 3) := by decide +kernel
theorem dL_canBePaired_11 : decode cL_canBePaired 11 = .ok (.lconst 1, 1) := by decide +kernel
theorem dL_canBePaired_12 : decode cL_canBePaired 12 = .ok (.goto 4, 3) := by decide +kernel
theorem dL_canBePaired_15 : decode cL_canBePaired 15 = .ok (.lconst 0, 1) := by decide +kernel
theorem dL_canBePaired_16 : decode cL_canBePaired 16 = .ok (.lastore, 1) := by decide +kernel
theorem dL_canBePaired_17 : decode cL_canBePaired 17 = .ok (.goto 7, 3) := by decide +kernel
theorem dL_canBePaired_20 : decode cL_canBePaired 20 = .ok (.astore 4, 2) := by decide +kernel
theorem dL_canBePaired_22 : decode cL_canBePaired 22 = .ok (.iconst 1, 1) := by decide +kernel
theorem dL_canBePaired_23 : decode cL_canBePaired 23 = .ok (.ireturn, 1) := by decide +kernel
theorem dL_canBePaired_24 : decode cL_canBePaired 24 = .ok (.iconst 0, 1) := by decide +kernel
theorem dL_canBePaired_25 : decode cL_canBePaired 25 = .ok (.ireturn, 1) := by decide +kernel
set_option maxHeartbeats 4000000 in
set_option maxRecDepth 100000 in
theorem c_L_canBePaired (l : Launch) {p1 p2 : Int} (hlt : l.stackTraces = false) {D : va_G} {g : GT} {A : Nat → Prop} {a : Nat → Nat} {b : Nat → Nat → Nat} {M : Mem} {Q : Int → Mem → Prop} (hw : wp_X10_canBePaired M p1 p2 (fun r M1 => (r = 0 ∨ r = 1) ∧ Q 0 (mset M1 14 0 0 r)) (fun E M1 => (E = "java/lang/IndexOutOfBoundsException" ∧ Q 1 M1))) : vx_Met l yL_canBePaired wsL_canBePaired ({ frames := 9, cells := 2, slots := 12, locals := 182 } : Room) (cPh D g A a b M [.ref (a 0), iv p1, iv p2, .ref (b 14 0)]) (cQi D g A a b Q) (cX D g A a b (fun _ _ => False)) 2 12 A := by
  refine vx_ofWH (cc := cL_canBePaired) (maxL := 5) (ret := some .int) (hh := [(0, 17, 20, 13)]) (by decide) rfl ?_
  intro p e s m args below meth c s₁ B hml hv
  obtain ⟨rfl, hP, hD, hG, hY⟩ := hv
  have X : vC p s m _ meth c D g A RL wsL_canBePaired cL_canBePaired 5 := ⟨B.exec, B.bytes, findClass_of_methodNamed B.named, atoms_spec (ws := wsL_canBePaired) B.pre, hG, hml, B.notSynchronized⟩
  have htab := vx_table (x := yL_canBePaired) (hh := [(0, 17, 20, 13)]) B (X.2.2.2.1 (Cond.codeWith yL_canBePaired cL_canBePaired 5 (some .int) [(0, 17, 20, 13)]) List.mem_cons_self)
  have hr := B.returns
  have hl := lv_entry ([.ref (a 0), iv p1, iv p2, .ref (b 14 0)]) (n := 5) (Nat.le_of_ble_eq_true rfl)
  rw [lg_entry_eq]
  generalize (lg_sl ([.ref (a 0), iv p1, iv p2, .ref (b 14 0)]) ++ List.replicate (5 - (lg_sl ([.ref (a 0), iv p1, iv p2, .ref (b 14 0)])).length) Slot.unset).toArray = ls at hl ⊢
  have hl : lv_has ls 5 [(0, .ref (a 0)), (1, iv p1), (2, iv p2), (3, .ref (b 14 0))] := hl
  suffices hV : vV p l e _ s m _ below meth c D g A a b 5 0 0 (vx_MQ below (cQi D g A a b Q) (cX D g A a b (fun _ _ => False)) _ s 2 12 A) M [(0, .ref (a 0)), (1, iv p1), (2, iv p2), (3, .ref (b 14 0))] 0 [] from hV s.heap [] ls hP hD va_S.rf hl
  refine V_aload_n X dL_canBePaired_0 rfl (q := 3) rfl ?_
  refine V_iconst X dL_canBePaired_1 ?_
  refine V_aload_n X dL_canBePaired_2 rfl (q := 0) rfl ?_
  refine V_iload_n X dL_canBePaired_3 rfl (q := 1) rfl ?_
  refine V_iload_n X dL_canBePaired_4 rfl (q := 2) rfl ?_
  refine V_callxV_i X _ _ gO_0 rfl (As := [iv p1, iv p2]) (st := [iv 0, .ref (b 14 0)]) (c_X10_canBePaired l hlt hw) (cwV 2 X.2.2.2.1 gL_canBePaired_X10_canBePaired rfl rfl rfl (by decide +kernel) ⟨Nat.le_of_ble_eq_true rfl, Nat.le_of_ble_eq_true rfl⟩) rfl (Nat.le_of_ble_eq_true rfl) ⟨Nat.le_of_ble_eq_true rfl, Nat.le_of_ble_eq_true rfl⟩ rfl dL_canBePaired_5 (fun E ce q9 M9 H9 locs9 ls9 hx9 hP9 hD9 hS9 hl9 h91 h92 h93 => ?_) (fun r M1 hw => ?_)
  · obtain ⟨rfl, hw⟩ := hx9
    refine V_catch X [] ⟨0, 17, 20, 13⟩ [] (by rw [htab]; rfl) (fun z hz => ?_) (by decide +kernel) (by decide) (List.mem_of_getElem? (i := 1) rfl) (hY.2 _ _ (Or.inl rfl)) hP9 hD9 hS9 hl9 h91 h92 h93 (fun q => ?_)
    · exact nomatch hz
    · refine V_astore (lv1 := [(0, .ref (a 0)), (1, iv p1), (2, iv p2), (3, .ref (b 14 0)), (4, .ref q)]) X [1, 2, 3, 4, 0] dL_canBePaired_20 (by decide) rfl ?_
      refine V_iconst X dL_canBePaired_22 ?_
      exact V_xret (Nat.le_of_ble_eq_true rfl) (Nat.le_of_ble_eq_true rfl) (V_iret X hr hw dL_canBePaired_23)
  · obtain ⟨h01, hw⟩ := hw
    refine V_if_eq (x := r) (tgt := 15) X ⟨by omega, by omega⟩ dL_canBePaired_8 (by decide) (fun q8 => V_lconst (y := 0) X dL_canBePaired_15 (by decide) (V_last0 X dL_canBePaired_16 (fun M2 e2 => ?_))) (fun q8 => V_lconst (y := 1) X dL_canBePaired_11 (by decide) (V_goto (tgt := 16) X dL_canBePaired_12 (by decide) (V_last0 X dL_canBePaired_16 (fun M2 e2 => ?_))))
    · subst e2
      rw [q8] at hw
      exact V_goto (tgt := 24) X dL_canBePaired_17 (by decide) (V_iconst X dL_canBePaired_24 (V_xret (Nat.le_of_ble_eq_true rfl) (Nat.le_of_ble_eq_true rfl) (V_iret X hr hw dL_canBePaired_25)))
    · subst e2
      rw [show r = 1 from by omega] at hw
      exact V_goto (tgt := 24) X dL_canBePaired_17 (by decide) (V_iconst X dL_canBePaired_24 (V_xret (Nat.le_of_ble_eq_true rfl) (Nat.le_of_ble_eq_true rfl) (V_iret X hr hw dL_canBePaired_25)))
set_option maxRecDepth 20000 in
theorem ggL_stepKind_X10_stepKind : GoodIn wsL_stepKind wsX10_stepKind := goodIn_ca (goodIn_r _ [6, 7, 8, 9, 10, 5, 11, 12, 13, 14, 15, 16, 17, 18, 19, 20, 21, 22, 23, 24, 25, 26, 27, 28, 29, 30, 31, 32, 33, 34, 35, 36, 37, 38, 39, 40, 41, 42, 43, 44, 45, 46, 47, 48, 49, 50, 51, 52, 53, 54, 55, 56, 57, 58, 59, 60, 61, 62, 63, 64, 65, 66, 67, 68, 69, 70, 71, 72, 73, 74, 75, 76, 77, 78, 79, 80, 81, 82, 83, 84, 85, 86, 87, 88, 89, 90, 91, 92, 93, 94, 95, 96, 97, 98, 99, 100, 101, 102, 103, 104, 105, 106, 107, 108, 109, 110, 111, 112, 113, 114, 115, 116, 117, 118, 119, 120, 121, 122, 123, 124, 125, 126, 127, 128, 129, 130, 131, 132, 133, 134, 135, 136, 137, 138, 139, 140, 141, 142, 143, 144, 145, 146, 147, 148, 149, 150, 151, 152, 153, 154, 155, 156, 157, 158, 159, 160, 161, 162, 163, 164, 165, 166, 167, 168, 169, 170, 171, 172, 173, 174, 175, 176, 177, 178, 179, 180, 181, 182, 183, 184, 185, 186, 187, 188, 189, 190, 191, 192, 193, 194, 195, 196, 197, 198, 199, 200, 201, 202, 203, 204, 205, 206, 207, 208, 209, 210, 211, 212, 213, 214, 215, 216, 217, 218, 219, 220] (by decide +kernel) (by decide +kernel)) (goodIn_sub (fun _ h => List.mem_cons_of_mem _ (List.mem_append_right _ h)) (by decide +kernel))
set_option maxRecDepth 20000 in
theorem gL_stepKind_X10_stepKind : GoodIn wsL_stepKind (wsV RL 80 RX10 yX10_stepKind wsX10_stepKind) := goodIn_app (goodIn_of _ (by decide +kernel)) ggL_stepKind_X10_stepKind
theorem dL_stepKind_0 : decode cL_stepKind 0 = .ok (.aload_n 2, 1) := by decide +kernel
theorem dL_stepKind_1 : decode cL_stepKind 1 = .ok (.iconst 0, 1) := by decide +kernel
theorem dL_stepKind_2 : decode cL_stepKind 2 = .ok (.aload_n 0, 1) := by decide +kernel
theorem dL_stepKind_3 : decode cL_stepKind 3 = .ok (.iload_n 1, 1) := by decide +kernel
theorem dL_stepKind_4 : decode cL_stepKind 4 = .ok (.invokevirtual 80, 3) := by decide +kernel
theorem dL_stepKind_7 : decode cL_stepKind 7 = .ok (.i2l, 1) := by decide +kernel
theorem dL_stepKind_8 : decode cL_stepKind 8 = .ok (.lastore, 1) := by decide +kernel
theorem dL_stepKind_9 : decode cL_stepKind 9 = .ok (.goto 6, 3) := by decide +kernel
theorem dL_stepKind_12 : decode cL_stepKind 12 = .ok (.astore_n 3, 1) := by decide +kernel
theorem dL_stepKind_13 : decode cL_stepKind 13 = .ok (.iconst 1, 1) := by decide +kernel
theorem dL_stepKind_14 : decode cL_stepKind 14 = .ok (.ireturn, 1) := by decide +kernel
theorem dL_stepKind_15 : decode cL_stepKind 15 = .ok (.iconst 0, 1) := by decide +kernel
theorem dL_stepKind_16 : decode cL_stepKind 16 = .ok (.ireturn, 1) := by decide +kernel
set_option maxHeartbeats 4000000 in
set_option maxRecDepth 100000 in
theorem c_L_stepKind (l : Launch) {p1 : Int} (hlt : l.stackTraces = false) {D : va_G} {g : GT} {A : Nat → Prop} {a : Nat → Nat} {b : Nat → Nat → Nat} {M : Mem} {Q : Int → Mem → Prop} (hw : wp_X10_stepKind M p1 (fun r M1 => Q 0 (mset M1 14 0 0 (j32 r))) (fun E M1 => (E = "java/lang/IndexOutOfBoundsException" ∧ Q 1 M1))) : vx_Met l yL_stepKind wsL_stepKind ({ frames := 34, cells := 1, slots := 6, locals := 1124 } : Room) (cPh D g A a b M [.ref (a 0), iv p1, .ref (b 14 0)]) (cQi D g A a b Q) (cX D g A a b (fun _ _ => False)) 1 6 A := by
  refine vx_ofWH (cc := cL_stepKind) (maxL := 4) (ret := some .int) (hh := [(0, 9, 12, 13)]) (by decide) rfl ?_
  intro p e s m args below meth c s₁ B hml hv
  obtain ⟨rfl, hP, hD, hG, hY⟩ := hv
  have X : vC p s m _ meth c D g A RL wsL_stepKind cL_stepKind 4 := ⟨B.exec, B.bytes, findClass_of_methodNamed B.named, atoms_spec (ws := wsL_stepKind) B.pre, hG, hml, B.notSynchronized⟩
  have htab := vx_table (x := yL_stepKind) (hh := [(0, 9, 12, 13)]) B (X.2.2.2.1 (Cond.codeWith yL_stepKind cL_stepKind 4 (some .int) [(0, 9, 12, 13)]) List.mem_cons_self)
  have hr := B.returns
  have hl := lv_entry ([.ref (a 0), iv p1, .ref (b 14 0)]) (n := 4) (Nat.le_of_ble_eq_true rfl)
  rw [lg_entry_eq]
  generalize (lg_sl ([.ref (a 0), iv p1, .ref (b 14 0)]) ++ List.replicate (4 - (lg_sl ([.ref (a 0), iv p1, .ref (b 14 0)])).length) Slot.unset).toArray = ls at hl ⊢
  have hl : lv_has ls 4 [(0, .ref (a 0)), (1, iv p1), (2, .ref (b 14 0))] := hl
  suffices hV : vV p l e _ s m _ below meth c D g A a b 4 0 0 (vx_MQ below (cQi D g A a b Q) (cX D g A a b (fun _ _ => False)) _ s 1 6 A) M [(0, .ref (a 0)), (1, iv p1), (2, .ref (b 14 0))] 0 [] from hV s.heap [] ls hP hD va_S.rf hl
  refine V_aload_n X dL_stepKind_0 rfl (q := 2) rfl ?_
  refine V_iconst X dL_stepKind_1 ?_
  refine V_aload_n X dL_stepKind_2 rfl (q := 0) rfl ?_
  refine V_iload_n X dL_stepKind_3 rfl (q := 1) rfl ?_
  refine V_callxV_i X _ _ gO_0 rfl (As := [iv p1]) (st := [iv 0, .ref (b 14 0)]) (c_X10_stepKind l hlt hw) (cwV 1 X.2.2.2.1 gL_stepKind_X10_stepKind rfl rfl rfl (by decide +kernel) ⟨Nat.le_of_ble_eq_true rfl, Nat.le_of_ble_eq_true rfl⟩) rfl (Nat.le_of_ble_eq_true rfl) ⟨Nat.le_of_ble_eq_true rfl, Nat.le_of_ble_eq_true rfl⟩ rfl dL_stepKind_4 (fun E ce q9 M9 H9 locs9 ls9 hx9 hP9 hD9 hS9 hl9 h91 h92 h93 => ?_) (fun r M1 hw => ?_)
  · obtain ⟨rfl, hw⟩ := hx9
    refine V_catch X [] ⟨0, 9, 12, 13⟩ [] (by rw [htab]; rfl) (fun z hz => ?_) (by decide +kernel) (by decide) (List.mem_of_getElem? (i := 1) rfl) (hY.2 _ _ (Or.inl rfl)) hP9 hD9 hS9 hl9 h91 h92 h93 (fun q => ?_)
    · exact nomatch hz
    · refine V_astore_n (lv1 := [(0, .ref (a 0)), (1, iv p1), (2, .ref (b 14 0)), (3, .ref q)]) X [1, 2, 3, 0] dL_stepKind_12 rfl (by decide) rfl ?_
      refine V_iconst X dL_stepKind_13 ?_
      exact V_xret (Nat.le_of_ble_eq_true rfl) (Nat.le_of_ble_eq_true rfl) (V_iret X hr hw dL_stepKind_14)
  · refine V_i2l X dL_stepKind_7 (V_last0 X dL_stepKind_8 (fun M2 e2 => ?_))
    subst e2
    exact V_goto (tgt := 15) X dL_stepKind_9 (by decide) (V_iconst X dL_stepKind_15 (V_xret (Nat.le_of_ble_eq_true rfl) (Nat.le_of_ble_eq_true rfl) (V_iret X hr hw dL_stepKind_16)))
set_option maxRecDepth 20000 in
theorem ggL_stepNode_X10_stepNode : GoodIn wsL_stepNode wsX10_stepNode := goodIn_ca (goodIn_r _ [6, 7, 8, 9, 10, 5, 11, 12, 13, 14, 15, 16, 17, 18, 19, 20, 21, 22, 23, 24, 25, 26, 27, 28, 29, 30, 31, 32, 33, 34, 35, 36, 37, 38, 39, 40, 41, 42, 43, 44, 45, 46, 47, 48, 49, 50, 51, 52, 53, 54, 55, 56, 57, 58, 59, 60, 61, 62, 63, 64, 65, 66, 67, 68, 69, 70, 71, 72, 73, 74, 75, 76, 77, 78, 79, 80, 81, 82, 83, 84, 85, 86, 87, 88, 89, 90, 91, 92, 93, 94, 95, 96, 97, 98, 99, 100, 101, 102, 103, 104, 105, 106, 107, 108, 109, 110, 111, 112, 113, 114, 115, 116, 117, 118, 119, 120, 121, 122, 123, 124, 125, 126, 127, 128, 129, 130, 131, 132, 133, 134, 135, 136, 137, 138, 139, 140, 141, 142, 143, 144, 145, 146, 147, 148, 149, 150, 151, 152, 153, 154, 155, 156, 157, 158, 159, 160, 161, 162, 163, 164, 165, 166, 167, 168, 169, 170, 171, 172, 173, 174, 175, 176, 177, 178, 179, 180, 181, 182, 183, 184, 185, 186, 187, 188, 189, 190, 191, 192, 193, 194, 195, 196, 197, 198, 199, 200, 201, 202, 203, 204, 205, 206, 207, 208, 209, 210, 211, 212, 213, 214, 215, 216, 217, 218, 219, 220] (by decide +kernel) (by decide +kernel)) (goodIn_sub (fun _ h => List.mem_cons_of_mem _ (List.mem_append_right _ h)) (by decide +kernel))
set_option maxRecDepth 20000 in
theorem gL_stepNode_X10_stepNode : GoodIn wsL_stepNode (wsV RL 83 RX10 yX10_stepNode wsX10_stepNode) := goodIn_app (goodIn_of _ (by decide +kernel)) ggL_stepNode_X10_stepNode
theorem dL_stepNode_0 : decode cL_stepNode 0 = .ok (.aload_n 2, 1) := by decide +kernel
theorem dL_stepNode_1 : decode cL_stepNode 1 = .ok (.iconst 0, 1) := by decide +kernel
theorem dL_stepNode_2 : decode cL_stepNode 2 = .ok (.aload_n 0, 1) := by decide +kernel
theorem dL_stepNode_3 : decode cL_stepNode 3 = .ok (.iload_n 1, 1) := by decide +kernel
theorem dL_stepNode_4 : decode cL_stepNode 4 = .ok (.invokevirtual 83, 3) := by decide +kernel
theorem dL_stepNode_7 : decode cL_stepNode 7 = .ok (.i2l, 1) := by decide +kernel
theorem dL_stepNode_8 : decode cL_stepNode 8 = .ok (.lastore, 1) := by decide +kernel
theorem dL_stepNode_9 : decode cL_stepNode 9 = .ok (.goto 6, 3) := by decide +kernel
theorem dL_stepNode_12 : decode cL_stepNode 12 = .ok (.astore_n 3, 1) := by decide +kernel
theorem dL_stepNode_13 : decode cL_stepNode 13 = .ok (.iconst 1, 1) := by decide +kernel
theorem dL_stepNode_14 : decode cL_stepNode 14 = .ok (.ireturn, 1) := by decide +kernel
theorem dL_stepNode_15 : decode cL_stepNode 15 = .ok (.iconst 0, 1) := by decide +kernel
theorem dL_stepNode_16 : decode cL_stepNode 16 = .ok (.ireturn, 1) := by decide +kernel
set_option maxHeartbeats 4000000 in
set_option maxRecDepth 100000 in
theorem c_L_stepNode (l : Launch) {p1 : Int} (hlt : l.stackTraces = false) {D : va_G} {g : GT} {A : Nat → Prop} {a : Nat → Nat} {b : Nat → Nat → Nat} {M : Mem} {Q : Int → Mem → Prop} (hw : wp_X10_stepNode M p1 (fun r M1 => Q 0 (mset M1 14 0 0 (j32 r))) (fun E M1 => (E = "java/lang/IndexOutOfBoundsException" ∧ Q 1 M1))) : vx_Met l yL_stepNode wsL_stepNode ({ frames := 34, cells := 1, slots := 6, locals := 1124 } : Room) (cPh D g A a b M [.ref (a 0), iv p1, .ref (b 14 0)]) (cQi D g A a b Q) (cX D g A a b (fun _ _ => False)) 1 6 A := by
  refine vx_ofWH (cc := cL_stepNode) (maxL := 4) (ret := some .int) (hh := [(0, 9, 12, 13)]) (by decide) rfl ?_
  intro p e s m args below meth c s₁ B hml hv
  obtain ⟨rfl, hP, hD, hG, hY⟩ := hv
  have X : vC p s m _ meth c D g A RL wsL_stepNode cL_stepNode 4 := ⟨B.exec, B.bytes, findClass_of_methodNamed B.named, atoms_spec (ws := wsL_stepNode) B.pre, hG, hml, B.notSynchronized⟩
  have htab := vx_table (x := yL_stepNode) (hh := [(0, 9, 12, 13)]) B (X.2.2.2.1 (Cond.codeWith yL_stepNode cL_stepNode 4 (some .int) [(0, 9, 12, 13)]) List.mem_cons_self)
  have hr := B.returns
  have hl := lv_entry ([.ref (a 0), iv p1, .ref (b 14 0)]) (n := 4) (Nat.le_of_ble_eq_true rfl)
  rw [lg_entry_eq]
  generalize (lg_sl ([.ref (a 0), iv p1, .ref (b 14 0)]) ++ List.replicate (4 - (lg_sl ([.ref (a 0), iv p1, .ref (b 14 0)])).length) Slot.unset).toArray = ls at hl ⊢
  have hl : lv_has ls 4 [(0, .ref (a 0)), (1, iv p1), (2, .ref (b 14 0))] := hl
  suffices hV : vV p l e _ s m _ below meth c D g A a b 4 0 0 (vx_MQ below (cQi D g A a b Q) (cX D g A a b (fun _ _ => False)) _ s 1 6 A) M [(0, .ref (a 0)), (1, iv p1), (2, .ref (b 14 0))] 0 [] from hV s.heap [] ls hP hD va_S.rf hl
  refine V_aload_n X dL_stepNode_0 rfl (q := 2) rfl ?_
  refine V_iconst X dL_stepNode_1 ?_
  refine V_aload_n X dL_stepNode_2 rfl (q := 0) rfl ?_
  refine V_iload_n X dL_stepNode_3 rfl (q := 1) rfl ?_
  refine V_callxV_i X _ _ gO_0 rfl (As := [iv p1]) (st := [iv 0, .ref (b 14 0)]) (c_X10_stepNode l hlt hw) (cwV 1 X.2.2.2.1 gL_stepNode_X10_stepNode rfl rfl rfl (by decide +kernel) ⟨Nat.le_of_ble_eq_true rfl, Nat.le_of_ble_eq_true rfl⟩) rfl (Nat.le_of_ble_eq_true rfl) ⟨Nat.le_of_ble_eq_true rfl, Nat.le_of_ble_eq_true rfl⟩ rfl dL_stepNode_4 (fun E ce q9 M9 H9 locs9 ls9 hx9 hP9 hD9 hS9 hl9 h91 h92 h93 => ?_) (fun r M1 hw => ?_)
  · obtain ⟨rfl, hw⟩ := hx9
    refine V_catch X [] ⟨0, 9, 12, 13⟩ [] (by rw [htab]; rfl) (fun z hz => ?_) (by decide +kernel) (by decide) (List.mem_of_getElem? (i := 1) rfl) (hY.2 _ _ (Or.inl rfl)) hP9 hD9 hS9 hl9 h91 h92 h93 (fun q => ?_)
    · exact nomatch hz
    · refine V_astore_n (lv1 := [(0, .ref (a 0)), (1, iv p1), (2, .ref (b 14 0)), (3, .ref q)]) X [1, 2, 3, 0] dL_stepNode_12 rfl (by decide) rfl ?_
      refine V_iconst X dL_stepNode_13 ?_
      exact V_xret (Nat.le_of_ble_eq_true rfl) (Nat.le_of_ble_eq_true rfl) (V_iret X hr hw dL_stepNode_14)
  · refine V_i2l X dL_stepNode_7 (V_last0 X dL_stepNode_8 (fun M2 e2 => ?_))
    subst e2
    exact V_goto (tgt := 15) X dL_stepNode_9 (by decide) (V_iconst X dL_stepNode_15 (V_xret (Nat.le_of_ble_eq_true rfl) (Nat.le_of_ble_eq_true rfl) (V_iret X hr hw dL_stepNode_16)))
set_option maxRecDepth 20000 in
theorem ggL_stepPrice_X10_stepPrice : GoodIn wsL_stepPrice wsX10_stepPrice := goodIn_ca (goodIn_r _ [6, 7, 8, 9, 10, 5, 11, 12, 13, 14, 15, 16, 17, 18, 19, 20, 21, 22, 23, 24, 25, 26, 27, 28, 29, 30, 31, 32, 33, 34, 35, 36, 37, 38, 39, 40, 41, 42, 43, 44, 45, 46, 47, 48, 49, 50, 51, 52, 53, 54, 55, 56, 57, 58, 59, 60, 61, 62, 63, 64, 65, 66, 67, 68, 69, 70, 71, 72, 73, 74, 75, 76, 77, 78, 79, 80, 81, 82, 83, 84, 85, 86, 87, 88, 89, 90, 91, 92, 93, 94, 95, 96, 97, 98, 99, 100, 101, 102, 103, 104, 105, 106, 107, 108, 109, 110, 111, 112, 113, 114, 115, 116, 117, 118, 119, 120, 121, 122, 123, 124, 125, 126, 127, 128, 129, 130, 131, 132, 133, 134, 135, 136, 137, 138, 139, 140, 141, 142, 143, 144, 145, 146, 147, 148, 149, 150, 151, 152, 153, 154, 155, 156, 157, 158, 159, 160, 161, 162, 163, 164, 165, 166, 167, 168, 169, 170, 171, 172, 173, 174, 175, 176, 177, 178, 179, 180, 181, 182, 183, 184, 185, 186, 187, 188, 189, 190, 191, 192, 193, 194, 195, 196, 197, 198, 199, 200, 201, 202, 203, 204, 205, 206, 207, 208, 209, 210, 211, 212, 213, 214, 215, 216, 217, 218, 219, 220, 221, 222, 223] (by decide +kernel) (by decide +kernel)) (goodIn_sub (fun _ h => List.mem_cons_of_mem _ (List.mem_append_right _ h)) (by decide +kernel))
set_option maxRecDepth 20000 in
theorem gL_stepPrice_X10_stepPrice : GoodIn wsL_stepPrice (wsV RL 86 RX10 yX10_stepPrice wsX10_stepPrice) := goodIn_app (goodIn_of _ (by decide +kernel)) ggL_stepPrice_X10_stepPrice
theorem dL_stepPrice_0 : decode cL_stepPrice 0 = .ok (.aload_n 2, 1) := by decide +kernel
theorem dL_stepPrice_1 : decode cL_stepPrice 1 = .ok (.iconst 0, 1) := by decide +kernel
theorem dL_stepPrice_2 : decode cL_stepPrice 2 = .ok (.aload_n 0, 1) := by decide +kernel
theorem dL_stepPrice_3 : decode cL_stepPrice 3 = .ok (.iload_n 1, 1) := by decide +kernel
theorem dL_stepPrice_4 : decode cL_stepPrice 4 = .ok (.invokevirtual 86, 3) := by decide +kernel
theorem dL_stepPrice_7 : decode cL_stepPrice 7 = .ok (.i2l, 1) := by decide +kernel
theorem dL_stepPrice_8 : decode cL_stepPrice 8 = .ok (.lastore, 1) := by decide +kernel
theorem dL_stepPrice_9 : decode cL_stepPrice 9 = .ok (.goto 6, 3) := by decide +kernel
theorem dL_stepPrice_12 : decode cL_stepPrice 12 = .ok (.astore_n 3, 1) := by decide +kernel
theorem dL_stepPrice_13 : decode cL_stepPrice 13 = .ok (.iconst 1, 1) := by decide +kernel
theorem dL_stepPrice_14 : decode cL_stepPrice 14 = .ok (.ireturn, 1) := by decide +kernel
theorem dL_stepPrice_15 : decode cL_stepPrice 15 = .ok (.iconst 0, 1) := by decide +kernel
theorem dL_stepPrice_16 : decode cL_stepPrice 16 = .ok (.ireturn, 1) := by decide +kernel
set_option maxHeartbeats 4000000 in
set_option maxRecDepth 100000 in
theorem c_L_stepPrice (l : Launch) {p1 : Int} (hlt : l.stackTraces = false) {D : va_G} {g : GT} {A : Nat → Prop} {a : Nat → Nat} {b : Nat → Nat → Nat} {M : Mem} {Q : Int → Mem → Prop} (hw : wp_X10_stepPrice M p1 (fun r M1 => Q 0 (mset M1 14 0 0 (j32 r))) (fun E M1 => (E = "java/lang/IndexOutOfBoundsException" ∧ Q 1 M1))) : vx_Met l yL_stepPrice wsL_stepPrice ({ frames := 34, cells := 1, slots := 6, locals := 1124 } : Room) (cPh D g A a b M [.ref (a 0), iv p1, .ref (b 14 0)]) (cQi D g A a b Q) (cX D g A a b (fun _ _ => False)) 1 6 A := by
  refine vx_ofWH (cc := cL_stepPrice) (maxL := 4) (ret := some .int) (hh := [(0, 9, 12, 13)]) (by decide) rfl ?_
  intro p e s m args below meth c s₁ B hml hv
  obtain ⟨rfl, hP, hD, hG, hY⟩ := hv
  have X : vC p s m _ meth c D g A RL wsL_stepPrice cL_stepPrice 4 := ⟨B.exec, B.bytes, findClass_of_methodNamed B.named, atoms_spec (ws := wsL_stepPrice) B.pre, hG, hml, B.notSynchronized⟩
  have htab := vx_table (x := yL_stepPrice) (hh := [(0, 9, 12, 13)]) B (X.2.2.2.1 (Cond.codeWith yL_stepPrice cL_stepPrice 4 (some .int) [(0, 9, 12, 13)]) List.mem_cons_self)
  have hr := B.returns
  have hl := lv_entry ([.ref (a 0), iv p1, .ref (b 14 0)]) (n := 4) (Nat.le_of_ble_eq_true rfl)
  rw [lg_entry_eq]
  generalize (lg_sl ([.ref (a 0), iv p1, .ref (b 14 0)]) ++ List.replicate (4 - (lg_sl ([.ref (a 0), iv p1, .ref (b 14 0)])).length) Slot.unset).toArray = ls at hl ⊢
  have hl : lv_has ls 4 [(0, .ref (a 0)), (1, iv p1), (2, .ref (b 14 0))] := hl
  suffices hV : vV p l e _ s m _ below meth c D g A a b 4 0 0 (vx_MQ below (cQi D g A a b Q) (cX D g A a b (fun _ _ => False)) _ s 1 6 A) M [(0, .ref (a 0)), (1, iv p1), (2, .ref (b 14 0))] 0 [] from hV s.heap [] ls hP hD va_S.rf hl
  refine V_aload_n X dL_stepPrice_0 rfl (q := 2) rfl ?_
  refine V_iconst X dL_stepPrice_1 ?_
  refine V_aload_n X dL_stepPrice_2 rfl (q := 0) rfl ?_
  refine V_iload_n X dL_stepPrice_3 rfl (q := 1) rfl ?_
  refine V_callxV_i X _ _ gO_0 rfl (As := [iv p1]) (st := [iv 0, .ref (b 14 0)]) (c_X10_stepPrice l hlt hw) (cwV 1 X.2.2.2.1 gL_stepPrice_X10_stepPrice rfl rfl rfl (by decide +kernel) ⟨Nat.le_of_ble_eq_true rfl, Nat.le_of_ble_eq_true rfl⟩) rfl (Nat.le_of_ble_eq_true rfl) ⟨Nat.le_of_ble_eq_true rfl, Nat.le_of_ble_eq_true rfl⟩ rfl dL_stepPrice_4 (fun E ce q9 M9 H9 locs9 ls9 hx9 hP9 hD9 hS9 hl9 h91 h92 h93 => ?_) (fun r M1 hw => ?_)
  · obtain ⟨rfl, hw⟩ := hx9
    refine V_catch X [] ⟨0, 9, 12, 13⟩ [] (by rw [htab]; rfl) (fun z hz => ?_) (by decide +kernel) (by decide) (List.mem_of_getElem? (i := 1) rfl) (hY.2 _ _ (Or.inl rfl)) hP9 hD9 hS9 hl9 h91 h92 h93 (fun q => ?_)
    · exact nomatch hz
    · refine V_astore_n (lv1 := [(0, .ref (a 0)), (1, iv p1), (2, .ref (b 14 0)), (3, .ref q)]) X [1, 2, 3, 0] dL_stepPrice_12 rfl (by decide) rfl ?_
      refine V_iconst X dL_stepPrice_13 ?_
      exact V_xret (Nat.le_of_ble_eq_true rfl) (Nat.le_of_ble_eq_true rfl) (V_iret X hr hw dL_stepPrice_14)
  · refine V_i2l X dL_stepPrice_7 (V_last0 X dL_stepPrice_8 (fun M2 e2 => ?_))
    subst e2
    exact V_goto (tgt := 15) X dL_stepPrice_9 (by decide) (V_iconst X dL_stepPrice_15 (V_xret (Nat.le_of_ble_eq_true rfl) (Nat.le_of_ble_eq_true rfl) (V_iret X hr hw dL_stepPrice_16)))
set_option maxRecDepth 20000 in
theorem ggL_sizeAfter_X10_sizeAfter : GoodIn wsL_sizeAfter wsX10_sizeAfter := goodIn_ca (goodIn_r _ [6, 7, 8, 9, 10, 5, 11, 12, 13, 14, 15, 16, 17, 18, 19, 20, 21, 22, 23, 24, 25, 26, 27, 28, 29, 30, 31, 32, 33, 34, 35, 36, 37, 38, 39, 40, 41, 42, 43, 44, 45, 46, 47, 48, 49, 50, 51, 52, 53, 54, 55, 56, 57, 58, 59, 60, 61, 62, 63, 64, 65, 66, 67, 68, 69, 70, 71, 72, 73, 74, 75, 76, 77, 78, 79, 80, 81, 82, 83, 84, 85, 86, 87, 88, 89, 90, 91, 92, 93, 94, 95, 96, 97, 98, 99, 100, 101, 102, 103, 104, 105, 106, 107, 108, 109, 110, 111, 112, 113, 114, 115, 116, 117, 118, 119, 120, 121, 122, 123, 124, 125, 126, 127, 128, 129, 130, 131, 132, 133, 134, 135, 136, 137, 138, 139, 140, 141, 142, 143, 144, 145, 146, 147, 148, 149, 150, 151, 152, 153, 154, 155, 156, 157, 158, 159, 160, 161, 162, 163, 164, 165, 166, 167, 168, 169, 170, 171, 172, 173, 174, 175, 176, 177, 178, 179, 180, 181, 182, 183, 184, 185, 186, 187, 188, 189, 190, 191, 192, 193, 194, 195, 196, 197, 198, 199, 200, 201, 202, 203, 204, 205, 206, 207, 208, 209, 210, 211, 212, 213, 214, 215, 216, 217, 218, 219, 220, 221, 222, 223, 224, 225, 226, 227, 228, 229, 230] (by decide +kernel) (by decide +kernel)) (goodIn_sub (fun _ h => List.mem_cons_of_mem _ (List.mem_append_right _ h)) (by decide +kernel))
set_option maxRecDepth 20000 in
theorem gL_sizeAfter_X10_sizeAfter : GoodIn wsL_sizeAfter (wsV RL 89 RX10 yX10_sizeAfter wsX10_sizeAfter) := goodIn_app (goodIn_of _ (by decide +kernel)) ggL_sizeAfter_X10_sizeAfter
theorem dL_sizeAfter_0 : decode cL_sizeAfter 0 = .ok (.aload_n 2, 1) := by decide +kernel
theorem dL_sizeAfter_1 : decode cL_sizeAfter 1 = .ok (.iconst 0, 1) := by decide +kernel
theorem dL_sizeAfter_2 : decode cL_sizeAfter 2 = .ok (.aload_n 0, 1) := by decide +kernel
theorem dL_sizeAfter_3 : decode cL_sizeAfter 3 = .ok (.iload_n 1, 1) := by decide +kernel
theorem dL_sizeAfter_4 : decode cL_sizeAfter 4 = .ok (.invokevirtual 89, 3) := by decide +kernel
theorem dL_sizeAfter_7 : decode cL_sizeAfter 7 = .ok (.i2l, 1) := by decide +kernel
theorem dL_sizeAfter_8 : decode cL_sizeAfter 8 = .ok (.lastore, 1) := by decide +kernel
theorem dL_sizeAfter_9 : decode cL_sizeAfter 9 = .ok (.goto 6, 3) := by decide +kernel
theorem dL_sizeAfter_12 : decode cL_sizeAfter 12 = .ok (.astore_n 3, 1) := by decide +kernel
theorem dL_sizeAfter_13 : decode cL_sizeAfter 13 = .ok (.iconst 1, 1) := by decide +kernel
theorem dL_sizeAfter_14 : decode cL_sizeAfter 14 = .ok (.ireturn, 1) := by decide +kernel
theorem dL_sizeAfter_15 : decode cL_sizeAfter 15 = .ok (.iconst 0, 1) := by decide +kernel
theorem dL_sizeAfter_16 : decode cL_sizeAfter 16 = .ok (.ireturn, 1) := by decide +kernel
set_option maxHeartbeats 4000000 in
set_option maxRecDepth 100000 in
theorem c_L_sizeAfter (l : Launch) {p1 : Int} (hlt : l.stackTraces = false) {D : va_G} {g : GT} {A : Nat → Prop} {a : Nat → Nat} {b : Nat → Nat → Nat} {M : Mem} {Q : Int → Mem → Prop} (hw : wp_X10_sizeAfter M p1 (fun r M1 => Q 0 (mset M1 14 0 0 (j32 r))) (fun E M1 => (E = "java/lang/IndexOutOfBoundsException" ∧ Q 1 M1))) : vx_Met l yL_sizeAfter wsL_sizeAfter ({ frames := 34, cells := 1, slots := 6, locals := 1124 } : Room) (cPh D g A a b M [.ref (a 0), iv p1, .ref (b 14 0)]) (cQi D g A a b Q) (cX D g A a b (fun _ _ => False)) 1 6 A := by
  refine vx_ofWH (cc := cL_sizeAfter) (maxL := 4) (ret := some .int) (hh := [(0, 9, 12, 13)]) (by decide) rfl ?_
  intro p e s m args below meth c s₁ B hml hv
  obtain ⟨rfl, hP, hD, hG, hY⟩ := hv
  have X : vC p s m _ meth c D g A RL wsL_sizeAfter cL_sizeAfter 4 := ⟨B.exec, B.bytes, findClass_of_methodNamed B.named, atoms_spec (ws := wsL_sizeAfter) B.pre, hG, hml, B.notSynchronized⟩
  have htab := vx_table (x := yL_sizeAfter) (hh := [(0, 9, 12, 13)]) B (X.2.2.2.1 (Cond.codeWith yL_sizeAfter cL_sizeAfter 4 (some .int) [(0, 9, 12, 13)]) List.mem_cons_self)
  have hr := B.returns
  have hl := lv_entry ([.ref (a 0), iv p1, .ref (b 14 0)]) (n := 4) (Nat.le_of_ble_eq_true rfl)
  rw [lg_entry_eq]
  generalize (lg_sl ([.ref (a 0), iv p1, .ref (b 14 0)]) ++ List.replicate (4 - (lg_sl ([.ref (a 0), iv p1, .ref (b 14 0)])).length) Slot.unset).toArray = ls at hl ⊢
  have hl : lv_has ls 4 [(0, .ref (a 0)), (1, iv p1), (2, .ref (b 14 0))] := hl
  suffices hV : vV p l e _ s m _ below meth c D g A a b 4 0 0 (vx_MQ below (cQi D g A a b Q) (cX D g A a b (fun _ _ => False)) _ s 1 6 A) M [(0, .ref (a 0)), (1, iv p1), (2, .ref (b 14 0))] 0 [] from hV s.heap [] ls hP hD va_S.rf hl
  refine V_aload_n X dL_sizeAfter_0 rfl (q := 2) rfl ?_
  refine V_iconst X dL_sizeAfter_1 ?_
  refine V_aload_n X dL_sizeAfter_2 rfl (q := 0) rfl ?_
  refine V_iload_n X dL_sizeAfter_3 rfl (q := 1) rfl ?_
  refine V_callxV_i X _ _ gO_0 rfl (As := [iv p1]) (st := [iv 0, .ref (b 14 0)]) (c_X10_sizeAfter l hlt hw) (cwV 1 X.2.2.2.1 gL_sizeAfter_X10_sizeAfter rfl rfl rfl (by decide +kernel) ⟨Nat.le_of_ble_eq_true rfl, Nat.le_of_ble_eq_true rfl⟩) rfl (Nat.le_of_ble_eq_true rfl) ⟨Nat.le_of_ble_eq_true rfl, Nat.le_of_ble_eq_true rfl⟩ rfl dL_sizeAfter_4 (fun E ce q9 M9 H9 locs9 ls9 hx9 hP9 hD9 hS9 hl9 h91 h92 h93 => ?_) (fun r M1 hw => ?_)
  · obtain ⟨rfl, hw⟩ := hx9
    refine V_catch X [] ⟨0, 9, 12, 13⟩ [] (by rw [htab]; rfl) (fun z hz => ?_) (by decide +kernel) (by decide) (List.mem_of_getElem? (i := 1) rfl) (hY.2 _ _ (Or.inl rfl)) hP9 hD9 hS9 hl9 h91 h92 h93 (fun q => ?_)
    · exact nomatch hz
    · refine V_astore_n (lv1 := [(0, .ref (a 0)), (1, iv p1), (2, .ref (b 14 0)), (3, .ref q)]) X [1, 2, 3, 0] dL_sizeAfter_12 rfl (by decide) rfl ?_
      refine V_iconst X dL_sizeAfter_13 ?_
      exact V_xret (Nat.le_of_ble_eq_true rfl) (Nat.le_of_ble_eq_true rfl) (V_iret X hr hw dL_sizeAfter_14)
  · refine V_i2l X dL_sizeAfter_7 (V_last0 X dL_sizeAfter_8 (fun M2 e2 => ?_))
    subst e2
    exact V_goto (tgt := 15) X dL_sizeAfter_9 (by decide) (V_iconst X dL_sizeAfter_15 (V_xret (Nat.le_of_ble_eq_true rfl) (Nat.le_of_ble_eq_true rfl) (V_iret X hr hw dL_sizeAfter_16)))
set_option maxRecDepth 20000 in
theorem ggL_labelAfter_X10_labelAfter : GoodIn wsL_labelAfter wsX10_labelAfter := goodIn_ca (goodIn_r _ [6, 7, 8, 9, 10, 5, 11, 12, 13, 14, 15, 16, 17, 18, 19, 20, 21, 22, 23, 24, 25, 26, 27, 28, 29, 30, 31, 32, 33, 34, 35, 36, 37, 38, 39, 40, 41, 42, 43, 44, 45, 46, 47, 48, 49, 50, 51, 52, 53, 54, 55, 56, 57, 58, 59, 60, 61, 62, 63, 64, 65, 66, 67, 68, 69, 70, 71, 72, 73, 74, 75, 76, 77, 78, 79, 80, 81, 82, 83, 84, 85, 86, 87, 88, 89, 90, 91, 92, 93, 94, 95, 96, 97, 98, 99, 100, 101, 102, 103, 104, 105, 106, 107, 108, 109, 110, 111, 112, 113, 114, 115, 116, 117, 118, 119, 120, 121, 122, 123, 124, 125, 126, 127, 128, 129, 130, 131, 132, 133, 134, 135, 136, 137, 138, 139, 140, 141, 142, 143, 144, 145, 146, 147, 148, 149, 150, 151, 152, 153, 154, 155, 156, 157, 158, 159, 160, 161, 162, 163, 164, 165, 166, 167, 168, 169, 170, 171, 172, 173, 174, 175, 176, 177, 178, 179, 180, 181, 182, 183, 184, 185, 186, 187, 188, 189, 190, 191, 192, 193, 194, 195, 196, 197, 198, 199, 200, 201, 202, 203, 204, 205, 206, 207, 208, 209, 210, 211, 212, 213, 214, 215, 216, 217, 218, 219, 220, 221, 222, 223, 224, 225, 226, 227, 228, 229, 230, 231, 232, 233] (by decide +kernel) (by decide +kernel)) (goodIn_sub (fun _ h => List.mem_cons_of_mem _ (List.mem_append_right _ h)) (by decide +kernel))
set_option maxRecDepth 20000 in
theorem gL_labelAfter_X10_labelAfter : GoodIn wsL_labelAfter (wsV RL 92 RX10 yX10_labelAfter wsX10_labelAfter) := goodIn_app (goodIn_of _ (by decide +kernel)) ggL_labelAfter_X10_labelAfter
theorem dL_labelAfter_0 : decode cL_labelAfter 0 = .ok (.aload_n 3, 1) := by decide +kernel
theorem dL_labelAfter_1 : decode cL_labelAfter 1 = .ok (.iconst 0, 1) := by decide +kernel
theorem dL_labelAfter_2 : decode cL_labelAfter 2 = .ok (.aload_n 0, 1) := by decide +kernel
theorem dL_labelAfter_3 : decode cL_labelAfter 3 = .ok (.iload_n 1, 1) := by decide +kernel
theorem dL_labelAfter_4 : decode cL_labelAfter 4 = .ok (.iload_n 2, 1) := by decide +kernel
theorem dL_labelAfter_5 : decode cL_labelAfter 5 = .ok (.invokevirtual 92, 3) := by decide +kernel
theorem dL_labelAfter_8 : decode cL_labelAfter 8 = .ok (.i2l, 1) := by decide +kernel
theorem dL_labelAfter_9 : decode cL_labelAfter 9 = .ok (.lastore, 1) := by decide +kernel
theorem dL_labelAfter_10 : decode cL_labelAfter 10 = .ok (.goto 7, 3) := by decide +kernel
theorem dL_labelAfter_13 : decode cL_labelAfter 13 = .ok (.astore 4, 2) := by decide +kernel
theorem dL_labelAfter_15 : decode cL_labelAfter 15 = .ok (.iconst 1, 1) := by decide +kernel
theorem dL_labelAfter_16 : decode cL_labelAfter 16 = .ok (.ireturn, 1) := by decide +kernel
theorem dL_labelAfter_17 : decode cL_labelAfter 17 = .ok (.iconst 0, 1) := by decide +kernel
theorem dL_labelAfter_18 : decode cL_labelAfter 18 = .ok (.ireturn, 1) := by decide +kernel
set_option maxHeartbeats 4000000 in
set_option maxRecDepth 100000 in
theorem c_L_labelAfter (l : Launch) {p1 p2 : Int} (hlt : l.stackTraces = false) {D : va_G} {g : GT} {A : Nat → Prop} {a : Nat → Nat} {b : Nat → Nat → Nat} {M : Mem} {Q : Int → Mem → Prop} (hw : wp_X10_labelAfter M p1 p2 (fun r M1 => Q 0 (mset M1 14 0 0 (j32 r))) (fun E M1 => (E = "java/lang/IndexOutOfBoundsException" ∧ Q 1 M1))) : vx_Met l yL_labelAfter wsL_labelAfter ({ frames := 34, cells := 2, slots := 12, locals := 1124 } : Room) (cPh D g A a b M [.ref (a 0), iv p1, iv p2, .ref (b 14 0)]) (cQi D g A a b Q) (cX D g A a b (fun _ _ => False)) 2 12 A := by
  refine vx_ofWH (cc := cL_labelAfter) (maxL := 5) (ret := some .int) (hh := [(0, 10, 13, 13)]) (by decide) rfl ?_
  intro p e s m args below meth c s₁ B hml hv
  obtain ⟨rfl, hP, hD, hG, hY⟩ := hv
  have X : vC p s m _ meth c D g A RL wsL_labelAfter cL_labelAfter 5 := ⟨B.exec, B.bytes, findClass_of_methodNamed B.named, atoms_spec (ws := wsL_labelAfter) B.pre, hG, hml, B.notSynchronized⟩
  have htab := vx_table (x := yL_labelAfter) (hh := [(0, 10, 13, 13)]) B (X.2.2.2.1 (Cond.codeWith yL_labelAfter cL_labelAfter 5 (some .int) [(0, 10, 13, 13)]) List.mem_cons_self)
  have hr := B.returns
  have hl := lv_entry ([.ref (a 0), iv p1, iv p2, .ref (b 14 0)]) (n := 5) (Nat.le_of_ble_eq_true rfl)
  rw [lg_entry_eq]
  generalize (lg_sl ([.ref (a 0), iv p1, iv p2, .ref (b 14 0)]) ++ List.replicate (5 - (lg_sl ([.ref (a 0), iv p1, iv p2, .ref (b 14 0)])).length) Slot.unset).toArray = ls at hl ⊢
  have hl : lv_has ls 5 [(0, .ref (a 0)), (1, iv p1), (2, iv p2), (3, .ref (b 14 0))] := hl
  suffices hV : vV p l e _ s m _ below meth c D g A a b 5 0 0 (vx_MQ below (cQi D g A a b Q) (cX D g A a b (fun _ _ => False)) _ s 2 12 A) M [(0, .ref (a 0)), (1, iv p1), (2, iv p2), (3, .ref (b 14 0))] 0 [] from hV s.heap [] ls hP hD va_S.rf hl
  refine V_aload_n X dL_labelAfter_0 rfl (q := 3) rfl ?_
  refine V_iconst X dL_labelAfter_1 ?_
  refine V_aload_n X dL_labelAfter_2 rfl (q := 0) rfl ?_
  refine V_iload_n X dL_labelAfter_3 rfl (q := 1) rfl ?_
  refine V_iload_n X dL_labelAfter_4 rfl (q := 2) rfl ?_
  refine V_callxV_i X _ _ gO_0 rfl (As := [iv p1, iv p2]) (st := [iv 0, .ref (b 14 0)]) (c_X10_labelAfter l hlt hw) (cwV 2 X.2.2.2.1 gL_labelAfter_X10_labelAfter rfl rfl rfl (by decide +kernel) ⟨Nat.le_of_ble_eq_true rfl, Nat.le_of_ble_eq_true rfl⟩) rfl (Nat.le_of_ble_eq_true rfl) ⟨Nat.le_of_ble_eq_true rfl, Nat.le_of_ble_eq_true rfl⟩ rfl dL_labelAfter_5 (fun E ce q9 M9 H9 locs9 ls9 hx9 hP9 hD9 hS9 hl9 h91 h92 h93 => ?_) (fun r M1 hw => ?_)
  · obtain ⟨rfl, hw⟩ := hx9
    refine V_catch X [] ⟨0, 10, 13, 13⟩ [] (by rw [htab]; rfl) (fun z hz => ?_) (by decide +kernel) (by decide) (List.mem_of_getElem? (i := 1) rfl) (hY.2 _ _ (Or.inl rfl)) hP9 hD9 hS9 hl9 h91 h92 h93 (fun q => ?_)
    · exact nomatch hz
    · refine V_astore (lv1 := [(0, .ref (a 0)), (1, iv p1), (2, iv p2), (3, .ref (b 14 0)), (4, .ref q)]) X [1, 2, 3, 4, 0] dL_labelAfter_13 (by decide) rfl ?_
      refine V_iconst X dL_labelAfter_15 ?_
      exact V_xret (Nat.le_of_ble_eq_true rfl) (Nat.le_of_ble_eq_true rfl) (V_iret X hr hw dL_labelAfter_16)
  · refine V_i2l X dL_labelAfter_8 (V_last0 X dL_labelAfter_9 (fun M2 e2 => ?_))
    subst e2
    exact V_goto (tgt := 17) X dL_labelAfter_10 (by decide) (V_iconst X dL_labelAfter_17 (V_xret (Nat.le_of_ble_eq_true rfl) (Nat.le_of_ble_eq_true rfl) (V_iret X hr hw dL_labelAfter_18)))
set_option maxRecDepth 20000 in
theorem ggL_depthAfter_X10_depthAfter : GoodIn wsL_depthAfter wsX10_depthAfter := goodIn_ca (goodIn_r _ [6, 7, 8, 9, 10, 5, 11, 12, 13, 14, 15, 16, 17, 18, 19, 20, 21, 22, 23, 24, 25, 26, 27, 28, 29, 30, 31, 32, 33, 34, 35, 36, 37, 38, 39, 40, 41, 42, 43, 44, 45, 46, 47, 48, 49, 50, 51, 52, 53, 54, 55, 56, 57, 58, 59, 60, 61, 62, 63, 64, 65, 66, 67, 68, 69, 70, 71, 72, 73, 74, 75, 76, 77, 78, 79, 80, 81, 82, 83, 84, 85, 86, 87, 88, 89, 90, 91, 92, 93, 94, 95, 96, 97, 98, 99, 100, 101, 102, 103, 104, 105, 106, 107, 108, 109, 110, 111, 112, 113, 114, 115, 116, 117, 118, 119, 120, 121, 122, 123, 124, 125, 126, 127, 128, 129, 130, 131, 132, 133, 134, 135, 136, 137, 138, 139, 140, 141, 142, 143, 144, 145, 146, 147, 148, 149, 150, 151, 152, 153, 154, 155, 156, 157, 158, 159, 160, 161, 162, 163, 164, 165, 166, 167, 168, 169, 170, 171, 172, 173, 174, 175, 176, 177, 178, 179, 180, 181, 182, 183, 184, 185, 186, 187, 188, 189, 190, 191, 192, 193, 194, 195, 196, 197, 198, 199, 200, 201, 202, 203, 204, 205, 206, 207, 208, 209, 210, 211, 212, 213, 214, 215, 216, 217, 218, 219, 220, 221, 222, 223, 224, 225, 226, 227, 228, 229, 230, 231, 232, 233] (by decide +kernel) (by decide +kernel)) (goodIn_sub (fun _ h => List.mem_cons_of_mem _ (List.mem_append_right _ h)) (by decide +kernel))
set_option maxRecDepth 20000 in
theorem gL_depthAfter_X10_depthAfter : GoodIn wsL_depthAfter (wsV RL 95 RX10 yX10_depthAfter wsX10_depthAfter) := goodIn_app (goodIn_of _ (by decide +kernel)) ggL_depthAfter_X10_depthAfter
theorem dL_depthAfter_0 : decode cL_depthAfter 0 = .ok (.aload_n 3, 1) := by decide +kernel
theorem dL_depthAfter_1 : decode cL_depthAfter 1 = .ok (.iconst 0, 1) := by decide +kernel
theorem dL_depthAfter_2 : decode cL_depthAfter 2 = .ok (.aload_n 0, 1) := by decide +kernel
theorem dL_depthAfter_3 : decode cL_depthAfter 3 = .ok (.iload_n 1, 1) := by decide +kernel
theorem dL_depthAfter_4 : decode cL_depthAfter 4 = .ok (.iload_n 2, 1) := by decide +kernel
theorem dL_depthAfter_5 : decode cL_depthAfter 5 = .ok (.invokevirtual 95, 3) := by decide +kernel
theorem dL_depthAfter_8 : decode cL_depthAfter 8 = .ok (.i2l, 1) := by decide +kernel
theorem dL_depthAfter_9 : decode cL_depthAfter 9 = .ok (.lastore, 1) := by decide +kernel
theorem dL_depthAfter_10 : decode cL_depthAfter 10 = .ok (.goto 7, 3) := by decide +kernel
theorem dL_depthAfter_13 : decode cL_depthAfter 13 = .ok (.astore 4, 2) := by decide +kernel
theorem dL_depthAfter_15 : decode cL_depthAfter 15 = .ok (.iconst 1, 1) := by decide +kernel
theorem dL_depthAfter_16 : decode cL_depthAfter 16 = .ok (.ireturn, 1) := by decide +kernel
theorem dL_depthAfter_17 : decode cL_depthAfter 17 = .ok (.iconst 0, 1) := by decide +kernel
theorem dL_depthAfter_18 : decode cL_depthAfter 18 = .ok (.ireturn, 1) := by decide +kernel
set_option maxHeartbeats 4000000 in
set_option maxRecDepth 100000 in
theorem c_L_depthAfter (l : Launch) {p1 p2 : Int} (hlt : l.stackTraces = false) {D : va_G} {g : GT} {A : Nat → Prop} {a : Nat → Nat} {b : Nat → Nat → Nat} {M : Mem} {Q : Int → Mem → Prop} (hw : wp_X10_depthAfter M p1 p2 (fun r M1 => Q 0 (mset M1 14 0 0 (j32 r))) (fun E M1 => (E = "java/lang/IndexOutOfBoundsException" ∧ Q 1 M1))) : vx_Met l yL_depthAfter wsL_depthAfter ({ frames := 34, cells := 2, slots := 12, locals := 1124 } : Room) (cPh D g A a b M [.ref (a 0), iv p1, iv p2, .ref (b 14 0)]) (cQi D g A a b Q) (cX D g A a b (fun _ _ => False)) 2 12 A := by
  refine vx_ofWH (cc := cL_depthAfter) (maxL := 5) (ret := some .int) (hh := [(0, 10, 13, 13)]) (by decide) rfl ?_
  intro p e s m args below meth c s₁ B hml hv
  obtain ⟨rfl, hP, hD, hG, hY⟩ := hv
  have X : vC p s m _ meth c D g A RL wsL_depthAfter cL_depthAfter 5 := ⟨B.exec, B.bytes, findClass_of_methodNamed B.named, atoms_spec (ws := wsL_depthAfter) B.pre, hG, hml, B.notSynchronized⟩
  have htab := vx_table (x := yL_depthAfter) (hh := [(0, 10, 13, 13)]) B (X.2.2.2.1 (Cond.codeWith yL_depthAfter cL_depthAfter 5 (some .int) [(0, 10, 13, 13)]) List.mem_cons_self)
  have hr := B.returns
  have hl := lv_entry ([.ref (a 0), iv p1, iv p2, .ref (b 14 0)]) (n := 5) (Nat.le_of_ble_eq_true rfl)
  rw [lg_entry_eq]
  generalize (lg_sl ([.ref (a 0), iv p1, iv p2, .ref (b 14 0)]) ++ List.replicate (5 - (lg_sl ([.ref (a 0), iv p1, iv p2, .ref (b 14 0)])).length) Slot.unset).toArray = ls at hl ⊢
  have hl : lv_has ls 5 [(0, .ref (a 0)), (1, iv p1), (2, iv p2), (3, .ref (b 14 0))] := hl
  suffices hV : vV p l e _ s m _ below meth c D g A a b 5 0 0 (vx_MQ below (cQi D g A a b Q) (cX D g A a b (fun _ _ => False)) _ s 2 12 A) M [(0, .ref (a 0)), (1, iv p1), (2, iv p2), (3, .ref (b 14 0))] 0 [] from hV s.heap [] ls hP hD va_S.rf hl
  refine V_aload_n X dL_depthAfter_0 rfl (q := 3) rfl ?_
  refine V_iconst X dL_depthAfter_1 ?_
  refine V_aload_n X dL_depthAfter_2 rfl (q := 0) rfl ?_
  refine V_iload_n X dL_depthAfter_3 rfl (q := 1) rfl ?_
  refine V_iload_n X dL_depthAfter_4 rfl (q := 2) rfl ?_
  refine V_callxV_i X _ _ gO_0 rfl (As := [iv p1, iv p2]) (st := [iv 0, .ref (b 14 0)]) (c_X10_depthAfter l hlt hw) (cwV 2 X.2.2.2.1 gL_depthAfter_X10_depthAfter rfl rfl rfl (by decide +kernel) ⟨Nat.le_of_ble_eq_true rfl, Nat.le_of_ble_eq_true rfl⟩) rfl (Nat.le_of_ble_eq_true rfl) ⟨Nat.le_of_ble_eq_true rfl, Nat.le_of_ble_eq_true rfl⟩ rfl dL_depthAfter_5 (fun E ce q9 M9 H9 locs9 ls9 hx9 hP9 hD9 hS9 hl9 h91 h92 h93 => ?_) (fun r M1 hw => ?_)
  · obtain ⟨rfl, hw⟩ := hx9
    refine V_catch X [] ⟨0, 10, 13, 13⟩ [] (by rw [htab]; rfl) (fun z hz => ?_) (by decide +kernel) (by decide) (List.mem_of_getElem? (i := 1) rfl) (hY.2 _ _ (Or.inl rfl)) hP9 hD9 hS9 hl9 h91 h92 h93 (fun q => ?_)
    · exact nomatch hz
    · refine V_astore (lv1 := [(0, .ref (a 0)), (1, iv p1), (2, iv p2), (3, .ref (b 14 0)), (4, .ref q)]) X [1, 2, 3, 4, 0] dL_depthAfter_13 (by decide) rfl ?_
      refine V_iconst X dL_depthAfter_15 ?_
      exact V_xret (Nat.le_of_ble_eq_true rfl) (Nat.le_of_ble_eq_true rfl) (V_iret X hr hw dL_depthAfter_16)
  · refine V_i2l X dL_depthAfter_8 (V_last0 X dL_depthAfter_9 (fun M2 e2 => ?_))
    subst e2
    exact V_goto (tgt := 17) X dL_depthAfter_10 (by decide) (V_iconst X dL_depthAfter_17 (V_xret (Nat.le_of_ble_eq_true rfl) (Nat.le_of_ble_eq_true rfl) (V_iret X hr hw dL_depthAfter_18)))
set_option maxRecDepth 20000 in
theorem ggL_areEqual_X10_areEqual : GoodIn wsL_areEqual wsX10_areEqual := goodIn_ca (goodIn_r _ [6, 7, 8, 9, 10, 5, 11, 12, 13, 14, 15, 16, 17, 18, 19, 20, 21, 22, 23, 24, 25, 26, 27, 28, 29, 30, 31, 32, 33, 34, 35, 36, 37, 38, 39, 40, 41, 42, 43, 44, 45, 46, 47, 48] (by decide +kernel) (by decide +kernel)) (goodIn_sub (fun _ h => List.mem_cons_of_mem _ (List.mem_append_right _ h)) (by decide +kernel))
set_option maxRecDepth 20000 in
theorem gL_areEqual_X10_areEqual : GoodIn wsL_areEqual (wsV RL 98 RX10 yX10_areEqual wsX10_areEqual) := goodIn_app (goodIn_of _ (by decide +kernel)) ggL_areEqual_X10_areEqual
theorem dL_areEqual_0 : decode cL_areEqual 0 = .ok (.aload_n 3, 1) := by decide +kernel
theorem dL_areEqual_1 : decode cL_areEqual 1 = .ok (.iconst 0, 1) := by decide +kernel
theorem dL_areEqual_2 : decode cL_areEqual 2 = .ok (.aload_n 0, 1) := by decide +kernel
theorem dL_areEqual_3 : decode cL_areEqual 3 = .ok (.iload_n 1, 1) := by decide +kernel
theorem dL_areEqual_4 : decode cL_areEqual 4 = .ok (.iload_n 2, 1) := by decide +kernel
theorem dL_areEqual_5 : decode cL_areEqual 5 = .ok (.invokevirtual 98, 3) := by decide +kernel
theorem dL_areEqual_8 : decode cL_areEqual 8 = .ok (.ifCond .eq 7, 3) := by decide +kernel
theorem dL_areEqual_11 : decode cL_areEqual 11 = .ok (.lconst 1, 1) := by decide +kernel
theorem dL_areEqual_12 : decode cL_areEqual 12 = .ok (.goto 4, 3) := by decide +kernel
theorem dL_areEqual_15 : decode cL_areEqual 15 = .ok (.lconst 0, 1) := by decide +kernel
theorem dL_areEqual_16 : decode cL_areEqual 16 = .ok (.lastore, 1) := by decide +kernel
theorem dL_areEqual_17 : decode cL_areEqual 17 = .ok (.goto 7, 3) := by decide +kernel
theorem dL_areEqual_20 : decode cL_areEqual 20 = .ok (.astore 4, 2) := by decide +kernel
theorem dL_areEqual_22 : decode cL_areEqual 22 = .ok (.iconst 1, 1) := by decide +kernel
theorem dL_areEqual_23 : decode cL_areEqual 23 = .ok (.ireturn, 1) := by decide +kernel
theorem dL_areEqual_24 : decode cL_areEqual 24 = .ok (.iconst 0, 1) := by decide +kernel
theorem dL_areEqual_25 : decode cL_areEqual 25 = .ok (.ireturn, 1) := by decide +kernel
set_option maxHeartbeats 4000000 in
set_option maxRecDepth 100000 in
theorem c_L_areEqual (l : Launch) {p1 p2 : Int} (hlt : l.stackTraces = false) {D : va_G} {g : GT} {A : Nat → Prop} {a : Nat → Nat} {b : Nat → Nat → Nat} {M : Mem} {Q : Int → Mem → Prop} (hw : wp_X10_areEqual M p1 p2 (fun r M1 => (r = 0 ∨ r = 1) ∧ Q 0 (mset M1 14 0 0 r)) (fun E M1 => (E = "java/lang/IndexOutOfBoundsException" ∧ Q 1 M1))) : vx_Met l yL_areEqual wsL_areEqual ({ frames := 9, cells := 2, slots := 12, locals := 173 } : Room) (cPh D g A a b M [.ref (a 0), iv p1, iv p2, .ref (b 14 0)]) (cQi D g A a b Q) (cX D g A a b (fun _ _ => False)) 2 12 A := by
  refine vx_ofWH (cc := cL_areEqual) (maxL := 5) (ret := some .int) (hh := [(0, 17, 20, 13)]) (by decide) rfl ?_
  intro p e s m args below meth c s₁ B hml hv
  obtain ⟨rfl, hP, hD, hG, hY⟩ := hv
  have X : vC p s m _ meth c D g A RL wsL_areEqual cL_areEqual 5 := ⟨B.exec, B.bytes, findClass_of_methodNamed B.named, atoms_spec (ws := wsL_areEqual) B.pre, hG, hml, B.notSynchronized⟩
  have htab := vx_table (x := yL_areEqual) (hh := [(0, 17, 20, 13)]) B (X.2.2.2.1 (Cond.codeWith yL_areEqual cL_areEqual 5 (some .int) [(0, 17, 20, 13)]) List.mem_cons_self)
  have hr := B.returns
  have hl := lv_entry ([.ref (a 0), iv p1, iv p2, .ref (b 14 0)]) (n := 5) (Nat.le_of_ble_eq_true rfl)
  rw [lg_entry_eq]
  generalize (lg_sl ([.ref (a 0), iv p1, iv p2, .ref (b 14 0)]) ++ List.replicate (5 - (lg_sl ([.ref (a 0), iv p1, iv p2, .ref (b 14 0)])).length) Slot.unset).toArray = ls at hl ⊢
  have hl : lv_has ls 5 [(0, .ref (a 0)), (1, iv p1), (2, iv p2), (3, .ref (b 14 0))] := hl
  suffices hV : vV p l e _ s m _ below meth c D g A a b 5 0 0 (vx_MQ below (cQi D g A a b Q) (cX D g A a b (fun _ _ => False)) _ s 2 12 A) M [(0, .ref (a 0)), (1, iv p1), (2, iv p2), (3, .ref (b 14 0))] 0 [] from hV s.heap [] ls hP hD va_S.rf hl
  refine V_aload_n X dL_areEqual_0 rfl (q := 3) rfl ?_
  refine V_iconst X dL_areEqual_1 ?_
  refine V_aload_n X dL_areEqual_2 rfl (q := 0) rfl ?_
  refine V_iload_n X dL_areEqual_3 rfl (q := 1) rfl ?_
  refine V_iload_n X dL_areEqual_4 rfl (q := 2) rfl ?_
  refine V_callxV_i X _ _ gO_0 rfl (As := [iv p1, iv p2]) (st := [iv 0, .ref (b 14 0)]) (c_X10_areEqual l hlt hw) (cwV 2 X.2.2.2.1 gL_areEqual_X10_areEqual rfl rfl rfl (by decide +kernel) ⟨Nat.le_of_ble_eq_true rfl, Nat.le_of_ble_eq_true rfl⟩) rfl (Nat.le_of_ble_eq_true rfl) ⟨Nat.le_of_ble_eq_true rfl, Nat.le_of_ble_eq_true rfl⟩ rfl dL_areEqual_5 (fun E ce q9 M9 H9 locs9 ls9 hx9 hP9 hD9 hS9 hl9 h91 h92 h93 => ?_) (fun r M1 hw => ?_)
  · obtain ⟨rfl, hw⟩ := hx9
    refine V_catch X [] ⟨0, 17, 20, 13⟩ [] (by rw [htab]; rfl) (fun z hz => ?_) (by decide +kernel) (by decide) (List.mem_of_getElem? (i := 1) rfl) (hY.2 _ _ (Or.inl rfl)) hP9 hD9 hS9 hl9 h91 h92 h93 (fun q => ?_)
    · exact nomatch hz
    · refine V_astore (lv1 := [(0, .ref (a 0)), (1, iv p1), (2, iv p2), (3, .ref (b 14 0)), (4, .ref q)]) X [1, 2, 3, 4, 0] dL_areEqual_20 (by decide) rfl ?_
      refine V_iconst X dL_areEqual_22 ?_
      exact V_xret (Nat.le_of_ble_eq_true rfl) (Nat.le_of_ble_eq_true rfl) (V_iret X hr hw dL_areEqual_23)
  · obtain ⟨h01, hw⟩ := hw
    refine V_if_eq (x := r) (tgt := 15) X ⟨by omega, by omega⟩ dL_areEqual_8 (by decide) (fun q8 => V_lconst (y := 0) X dL_areEqual_15 (by decide) (V_last0 X dL_areEqual_16 (fun M2 e2 => ?_))) (fun q8 => V_lconst (y := 1) X dL_areEqual_11 (by decide) (V_goto (tgt := 16) X dL_areEqual_12 (by decide) (V_last0 X dL_areEqual_16 (fun M2 e2 => ?_))))
    · subst e2
      rw [q8] at hw
      exact V_goto (tgt := 24) X dL_areEqual_17 (by decide) (V_iconst X dL_areEqual_24 (V_xret (Nat.le_of_ble_eq_true rfl) (Nat.le_of_ble_eq_true rfl) (V_iret X hr hw dL_areEqual_25)))
    · subst e2
      rw [show r = 1 from by omega] at hw
      exact V_goto (tgt := 24) X dL_areEqual_17 (by decide) (V_iconst X dL_areEqual_24 (V_xret (Nat.le_of_ble_eq_true rfl) (Nat.le_of_ble_eq_true rfl) (V_iret X hr hw dL_areEqual_25)))
set_option maxRecDepth 20000 in
theorem ggL_movesTo_X10_movesTo : GoodIn wsL_movesTo wsX10_movesTo := goodIn_ca (goodIn_r _ [6, 7, 8, 9, 10, 5, 11, 12, 13, 14, 15, 16, 17, 18, 19, 20, 21, 22, 23, 24, 25, 26, 27, 28, 29, 30, 31, 32, 33, 34, 35, 36, 37, 38, 39, 40, 41, 42, 43, 44, 45, 46, 47, 48, 49, 50, 51, 52, 53, 54, 55, 56, 57, 58, 59, 60, 61, 62, 63, 64, 65, 66, 67, 68, 69, 70, 71, 72, 73, 74, 75, 76, 77, 78, 79, 80, 81, 82, 83, 84, 85, 86, 87, 88, 89, 90, 91, 92, 93, 94, 95, 96, 97, 98, 99, 100, 101, 102, 103, 104, 105, 106, 107, 108, 109, 110, 111, 112, 113, 114, 115, 116, 117, 118, 119, 120, 121, 122, 123, 124, 125, 126, 127, 128, 129, 130, 131, 132, 133, 134, 135, 136, 137, 138, 139, 140, 141, 142, 143, 144, 145, 146, 147, 148, 149, 150, 151, 152, 153, 154, 155, 156, 157, 158, 159, 160, 161, 162, 163, 164, 165, 166, 167, 168, 169, 170, 171, 172, 173, 174, 175, 176, 177, 178, 179, 180, 181, 182, 183, 184, 185, 186, 187, 188, 189, 190, 191, 192, 193, 194, 195, 196, 197, 198, 199, 200, 201, 202, 203, 204, 205, 206, 207, 208, 209, 210, 211, 212, 213, 214, 215, 216, 217, 218, 219, 220, 221] (by decide +kernel) (by decide +kernel)) (goodIn_sub (fun _ h => List.mem_cons_of_mem _ (List.mem_append_right _ h)) (by decide +kernel))
set_option maxRecDepth 20000 in
theorem gL_movesTo_X10_movesTo : GoodIn wsL_movesTo (wsV RL 101 RX10 yX10_movesTo wsX10_movesTo) := goodIn_app (goodIn_of _ (by decide +kernel)) ggL_movesTo_X10_movesTo
theorem dL_movesTo_0 : decode cL_movesTo 0 = .ok (.aload_n 2, 1) := by decide +kernel
theorem dL_movesTo_1 : decode cL_movesTo 1 = .ok (.iconst 0, 1) := by decide +kernel
theorem dL_movesTo_2 : decode cL_movesTo 2 = .ok (.aload_n 0, 1) := by decide +kernel
theorem dL_movesTo_3 : decode cL_movesTo 3 = .ok (.iload_n 1, 1) := by decide +kernel
theorem dL_movesTo_4 : decode cL_movesTo 4 = .ok (.invokevirtual 101, 3) := by decide +kernel
theorem dL_movesTo_7 : decode cL_movesTo 7 = .ok (.i2l, 1) := by decide +kernel
theorem dL_movesTo_8 : decode cL_movesTo 8 = .ok (.lastore, 1) := by decide +kernel
theorem dL_movesTo_9 : decode cL_movesTo 9 = .ok (.goto 6, 3) := by decide +kernel
theorem dL_movesTo_12 : decode cL_movesTo 12 = .ok (.astore_n 3, 1) := by decide +kernel
theorem dL_movesTo_13 : decode cL_movesTo 13 = .ok (.iconst 1, 1) := by decide +kernel
theorem dL_movesTo_14 : decode cL_movesTo 14 = .ok (.ireturn, 1) := by decide +kernel
theorem dL_movesTo_15 : decode cL_movesTo 15 = .ok (.iconst 0, 1) := by decide +kernel
theorem dL_movesTo_16 : decode cL_movesTo 16 = .ok (.ireturn, 1) := by decide +kernel
set_option maxHeartbeats 4000000 in
set_option maxRecDepth 100000 in
theorem c_L_movesTo (l : Launch) {p1 : Int} (hlt : l.stackTraces = false) {D : va_G} {g : GT} {A : Nat → Prop} {a : Nat → Nat} {b : Nat → Nat → Nat} {M : Mem} {Q : Int → Mem → Prop} (hw : wp_X10_movesTo M p1 (fun r M1 => Q 0 (mset M1 14 0 0 (j32 r))) (fun E M1 => (E = "java/lang/IndexOutOfBoundsException" ∧ Q 1 M1))) : vx_Met l yL_movesTo wsL_movesTo ({ frames := 34, cells := 1, slots := 6, locals := 1124 } : Room) (cPh D g A a b M [.ref (a 0), iv p1, .ref (b 14 0)]) (cQi D g A a b Q) (cX D g A a b (fun _ _ => False)) 1 6 A := by
  refine vx_ofWH (cc := cL_movesTo) (maxL := 4) (ret := some .int) (hh := [(0, 9, 12, 13)]) (by decide) rfl ?_
  intro p e s m args below meth c s₁ B hml hv
  obtain ⟨rfl, hP, hD, hG, hY⟩ := hv
  have X : vC p s m _ meth c D g A RL wsL_movesTo cL_movesTo 4 := ⟨B.exec, B.bytes, findClass_of_methodNamed B.named, atoms_spec (ws := wsL_movesTo) B.pre, hG, hml, B.notSynchronized⟩
  have htab := vx_table (x := yL_movesTo) (hh := [(0, 9, 12, 13)]) B (X.2.2.2.1 (Cond.codeWith yL_movesTo cL_movesTo 4 (some .int) [(0, 9, 12, 13)]) List.mem_cons_self)
  have hr := B.returns
  have hl := lv_entry ([.ref (a 0), iv p1, .ref (b 14 0)]) (n := 4) (Nat.le_of_ble_eq_true rfl)
  rw [lg_entry_eq]
  generalize (lg_sl ([.ref (a 0), iv p1, .ref (b 14 0)]) ++ List.replicate (4 - (lg_sl ([.ref (a 0), iv p1, .ref (b 14 0)])).length) Slot.unset).toArray = ls at hl ⊢
  have hl : lv_has ls 4 [(0, .ref (a 0)), (1, iv p1), (2, .ref (b 14 0))] := hl
  suffices hV : vV p l e _ s m _ below meth c D g A a b 4 0 0 (vx_MQ below (cQi D g A a b Q) (cX D g A a b (fun _ _ => False)) _ s 1 6 A) M [(0, .ref (a 0)), (1, iv p1), (2, .ref (b 14 0))] 0 [] from hV s.heap [] ls hP hD va_S.rf hl
  refine V_aload_n X dL_movesTo_0 rfl (q := 2) rfl ?_
  refine V_iconst X dL_movesTo_1 ?_
  refine V_aload_n X dL_movesTo_2 rfl (q := 0) rfl ?_
  refine V_iload_n X dL_movesTo_3 rfl (q := 1) rfl ?_
  refine V_callxV_i X _ _ gO_0 rfl (As := [iv p1]) (st := [iv 0, .ref (b 14 0)]) (c_X10_movesTo l hlt hw) (cwV 1 X.2.2.2.1 gL_movesTo_X10_movesTo rfl rfl rfl (by decide +kernel) ⟨Nat.le_of_ble_eq_true rfl, Nat.le_of_ble_eq_true rfl⟩) rfl (Nat.le_of_ble_eq_true rfl) ⟨Nat.le_of_ble_eq_true rfl, Nat.le_of_ble_eq_true rfl⟩ rfl dL_movesTo_4 (fun E ce q9 M9 H9 locs9 ls9 hx9 hP9 hD9 hS9 hl9 h91 h92 h93 => ?_) (fun r M1 hw => ?_)
  · obtain ⟨rfl, hw⟩ := hx9
    refine V_catch X [] ⟨0, 9, 12, 13⟩ [] (by rw [htab]; rfl) (fun z hz => ?_) (by decide +kernel) (by decide) (List.mem_of_getElem? (i := 1) rfl) (hY.2 _ _ (Or.inl rfl)) hP9 hD9 hS9 hl9 h91 h92 h93 (fun q => ?_)
    · exact nomatch hz
    · refine V_astore_n (lv1 := [(0, .ref (a 0)), (1, iv p1), (2, .ref (b 14 0)), (3, .ref q)]) X [1, 2, 3, 0] dL_movesTo_12 rfl (by decide) rfl ?_
      refine V_iconst X dL_movesTo_13 ?_
      exact V_xret (Nat.le_of_ble_eq_true rfl) (Nat.le_of_ble_eq_true rfl) (V_iret X hr hw dL_movesTo_14)
  · refine V_i2l X dL_movesTo_7 (V_last0 X dL_movesTo_8 (fun M2 e2 => ?_))
    subst e2
    exact V_goto (tgt := 15) X dL_movesTo_9 (by decide) (V_iconst X dL_movesTo_15 (V_xret (Nat.le_of_ble_eq_true rfl) (Nat.le_of_ble_eq_true rfl) (V_iret X hr hw dL_movesTo_16)))
