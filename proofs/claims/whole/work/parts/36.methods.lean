set_option maxRecDepth 20000 in
theorem ggX10_stepPrice_X10_settle : GoodIn wsX10_stepPrice wsX10_settle := goodIn_r _ [6, 7, 8, 9, 10, 1, 11, 12, 13, 14, 15, 16, 17, 18, 19, 20, 21, 22, 23, 24, 25, 26, 27, 28, 29, 30, 31, 32, 33, 34, 35, 36, 37, 38, 39, 40, 41, 42, 43, 44, 45, 46, 47, 48, 49, 50, 51, 52, 53, 54, 55, 56, 57, 58, 59, 60, 61, 62, 63, 64, 65, 66, 67, 68, 69, 70, 71, 72, 73, 74, 75, 76, 77, 78, 79, 80, 81, 82, 83, 84, 85, 86, 87, 88, 89, 90, 91, 92, 93, 94, 95, 96, 97, 98, 99, 100, 101, 102, 103, 104, 105, 106, 107, 108, 109, 110, 111, 112, 113, 114, 115, 116, 117, 118, 119, 120, 121, 122, 123, 124, 125, 126, 127, 128, 129, 130, 131, 132, 133, 134, 135, 136, 137, 138, 139, 140, 141, 142, 143, 144, 145, 146, 147, 148, 149, 150, 151, 160, 161, 162, 163, 164, 165, 166, 167, 168, 178, 179, 180, 181, 182, 183, 184, 185, 186, 187, 188, 189, 190, 191, 192, 193, 194, 195, 196, 197, 198, 199, 200, 201, 202, 203, 204, 205, 206, 207, 208, 209, 210, 211, 212, 169, 170, 171, 172, 173, 174, 175, 176, 177, 213, 214, 215, 216, 217, 218] (by decide +kernel) (by decide +kernel)
set_option maxRecDepth 20000 in
theorem gX10_stepPrice_X10_settle : GoodIn wsX10_stepPrice (wsV RX10 206 RX10 yX10_settle wsX10_settle) := goodIn_app (goodIn_of _ (by decide +kernel)) ggX10_stepPrice_X10_settle
set_option maxRecDepth 20000 in
theorem ggX10_stepPrice_X10_needIndex : GoodIn wsX10_stepPrice wsX10_needIndex := goodIn_ca (goodIn_r _ [154, 155, 156] (by decide +kernel) (by decide +kernel)) (goodIn_sub (fun _ h => List.mem_cons_of_mem _ (List.mem_append_right _ h)) (by decide +kernel))
set_option maxRecDepth 20000 in
theorem gX10_stepPrice_X10_needIndex : GoodIn wsX10_stepPrice (va_wsS RX10 81 yX10_needIndex wsX10_needIndex) := goodIn_app (goodIn_of _ (by decide +kernel)) ggX10_stepPrice_X10_needIndex
set_option maxRecDepth 20000 in
theorem ggX10_stepPrice_X7_priceOf : GoodIn wsX10_stepPrice wsX7_priceOf := goodIn_r _ [159, 108, 107, 99, 169, 170, 171, 172, 173, 174, 175, 176, 177, 182, 183, 184, 185, 186, 187, 194, 195, 196, 197, 198, 199, 200, 201, 202] (by decide +kernel) (by decide +kernel)
set_option maxRecDepth 20000 in
theorem gX10_stepPrice_X7_priceOf_n224 : GoodIn wsX10_stepPrice (wsX7_priceOf) := ggX10_stepPrice_X7_priceOf
theorem dX10_stepPrice_0 : decode cX10_stepPrice 0 = .ok (.aload_n 0, 1) := by decide +kernel
theorem dX10_stepPrice_1 : decode cX10_stepPrice 1 = .ok (.invokevirtual 206, 3) := by decide +kernel
theorem dX10_stepPrice_4 : decode cX10_stepPrice 4 = .ok (.iload_n 1, 1) := by decide +kernel
theorem dX10_stepPrice_5 : decode cX10_stepPrice 5 = .ok (.aload_n 0, 1) := by decide +kernel
theorem dX10_stepPrice_6 : decode cX10_stepPrice 6 = .ok (.getfield 62, 3) := by decide +kernel
theorem dX10_stepPrice_9 : decode cX10_stepPrice 9 = .ok (.getfield 217, 3) := by decide +kernel
theorem dX10_stepPrice_12 : decode cX10_stepPrice 12 = .ok (.invokestatic 81, 3) := by decide +kernel
theorem dX10_stepPrice_15 : decode cX10_stepPrice 15 = .ok (.aload_n 0, 1) := by decide +kernel
theorem dX10_stepPrice_16 : decode cX10_stepPrice 16 = .ok (.getfield 62, 3) := by decide +kernel
theorem dX10_stepPrice_19 : decode cX10_stepPrice 19 = .ok (.iload_n 1, 1) := by decide +kernel
theorem dX10_stepPrice_20 : decode cX10_stepPrice 20 = .ok (.invokevirtual 224, 3) := by decide +kernel
theorem dX10_stepPrice_23 : decode cX10_stepPrice 23 = .ok (.ireturn, 1) := by decide +kernel
theorem lk_X10_stepPrice_f62 : Cond.fieldLink RX10 62 "TreeComparer" "script" "LTreeComparer$Script;" ∈ wsX10_stepPrice := by decide +kernel
theorem hi_X10_stepPrice_10 : ∀ w ∈ u_ws RX10 TX10 9, w ∈ wsX10_stepPrice := by decide +kernel
theorem hi_X10_stepPrice_7 : ∀ w ∈ u_ws RX7 TX7 9, w ∈ wsX10_stepPrice := by decide +kernel
theorem lk_X10_stepPrice_i7 : Cond.initialized RX7 ∈ wsX10_stepPrice := by decide +kernel
theorem lk_X10_stepPrice_im224 : Cond.instanceMethod yX7_priceOf ∈ wsX10_stepPrice := by decide +kernel
theorem lk_X10_stepPrice_se224 : Cond.selects RX7 yX7_priceOf yX7_priceOf ∈ wsX10_stepPrice := by decide +kernel
def wpe_X10_stepPrice (p0 : Int) (M : Mem) (Q : Int → Mem → Prop) (XQ : String → Mem → Prop) : Prop := wp_X10_settle M (fun M2 => wp_X10_needIndex M2 p0 ((M2 7 4 0)) (fun M4 => wp_X7_priceOf M4 p0 (fun y5 M6 => Q y5 M6)) XQ)
def wp_X10_stepPrice (M : Mem) (p0 : Int) (Q : Int → Mem → Prop) (XQ : String → Mem → Prop) : Prop := wpe_X10_stepPrice p0 M Q XQ
set_option maxHeartbeats 4000000 in
set_option maxRecDepth 100000 in
theorem wke_X10_stepPrice {p : Program} {l : Launch} {e : Env} {s : State} {m : MethodId} {args : Array Value} {below : List Frame} {meth : Method} {c : Code} {D : va_G} {g : GT} {A : Nat → Prop} {a : Nat → Nat} {b : Nat → Nat → Nat} (X : vC p s m args meth c D g A RX10 wsX10_stepPrice cX10_stepPrice 2) (hr : meth.sig.returnType = (some .int)) {p0 : Int} (hlt : l.stackTraces = false) (htab : ∀ x ∈ c.exceptionTable.toList, False) {M : Mem} {Q : Int → Mem → Prop} {XQ : String → Mem → Prop} (hw : wpe_X10_stepPrice p0 M Q XQ) : vV p l e ({ frames := 33, cells := 1, slots := 6, locals := 1084 } : Room) s m args below meth c D g A a b 2 0 0 (vx_MQ below (cQi D g A a b Q) (cX D g A a b XQ) args s 1 6 A) M [(0, .ref (a 0)), (1, iv p0)] 0 [] := by
  unfold wpe_X10_stepPrice at hw
  refine V_aload_n X dX10_stepPrice_0 rfl (q := 0) rfl ?_
  refine V_callV_v X _ gO_0 rfl (As := []) (st := []) (c_X10_settle l hw) (cwV 0 X.2.2.2.1 gX10_stepPrice_X10_settle rfl rfl rfl (by decide +kernel) ⟨Nat.le_of_ble_eq_true rfl, Nat.le_of_ble_eq_true rfl⟩) rfl (Nat.le_of_ble_eq_true rfl) ⟨Nat.le_of_ble_eq_true rfl, Nat.le_of_ble_eq_true rfl⟩ rfl dX10_stepPrice_1 (fun M2 hw => ?_)
  refine V_iload_n X dX10_stepPrice_4 rfl (q := 1) rfl ?_
  refine V_aload_n X dX10_stepPrice_5 rfl (q := 0) rfl ?_
  refine V_get (C := RX10) (T := TX10) (N := 9) (ci := 10) X hi_X10_stepPrice_10 gO_0 rfl 6 (by decide) lk_X10_stepPrice_f62 (fun _ h9 => h9) rfl dX10_stepPrice_6 ?_
  refine V_getN (C := RX7) (T := TX7) (N := 9) (ci := 7) X hi_X10_stepPrice_7 gO_7 rfl 4 (by decide) (List.mem_of_getElem? (i := 79) rfl) (fun _ h9 => h9) rfl dX10_stepPrice_9 ?_
  refine V_callxS_v X _ _ (As := [iv p0, iv ((M2 7 4 0))]) (st := []) (c_X10_needIndex l hlt hw) (va_cwS 2 X.2.2.2.1 gX10_stepPrice_X10_needIndex rfl rfl rfl (by decide +kernel) ⟨Nat.le_of_ble_eq_true rfl, Nat.le_of_ble_eq_true rfl⟩) rfl (Nat.le_of_ble_eq_true rfl) ⟨Nat.le_of_ble_eq_true rfl, Nat.le_of_ble_eq_true rfl⟩ rfl dX10_stepPrice_12 (fun E ce q9 M9 H9 locs9 ls9 hx9 hP9 hD9 hS9 hl9 h91 h92 h93 => V_xout X htab (Nat.le_of_ble_eq_true rfl) (Nat.le_of_ble_eq_true rfl) hx9 hP9 hD9 hS9 h91 h92 h93) (fun M4 hw => ?_)
  refine V_aload_n X dX10_stepPrice_15 rfl (q := 0) rfl ?_
  refine V_get (C := RX10) (T := TX10) (N := 9) (ci := 10) X hi_X10_stepPrice_10 gO_0 rfl 6 (by decide) lk_X10_stepPrice_f62 (fun _ h9 => h9) rfl dX10_stepPrice_16 ?_
  refine V_iload_n X dX10_stepPrice_19 rfl (q := 1) rfl ?_
  refine V_callVN_i X _ gO_7 rfl (As := [iv p0]) (st := []) (c_X7_priceOf l hw) ⟨va_cnB 1 X.2.2.2.1 gX10_stepPrice_X7_priceOf_n224 rfl rfl rfl (X.2.2.2.2.1.2.1 _ (List.mem_of_getElem? (i := 129) rfl)) (X.2.2.2.1 _ lk_X10_stepPrice_i7) (by decide +kernel) ⟨Nat.le_of_ble_eq_true rfl, Nat.le_of_ble_eq_true rfl⟩, X.2.2.2.1 _ lk_X10_stepPrice_im224, X.2.2.2.1 _ lk_X10_stepPrice_se224⟩ rfl (Nat.le_of_ble_eq_true rfl) ⟨Nat.le_of_ble_eq_true rfl, Nat.le_of_ble_eq_true rfl⟩ rfl dX10_stepPrice_20 (fun y5 M6 hw => ?_)
  exact V_xret (Nat.le_of_ble_eq_true rfl) (Nat.le_of_ble_eq_true rfl) (V_iret X hr hw dX10_stepPrice_23)
set_option maxHeartbeats 4000000 in
set_option maxRecDepth 100000 in
theorem c_X10_stepPrice (l : Launch) {p0 : Int} (hlt : l.stackTraces = false) {D : va_G} {g : GT} {A : Nat → Prop} {a : Nat → Nat} {b : Nat → Nat → Nat} {M : Mem} {Q : Int → Mem → Prop} {XQ : String → Mem → Prop} (hw : wp_X10_stepPrice M p0 Q XQ) : vx_Met l yX10_stepPrice wsX10_stepPrice ({ frames := 33, cells := 1, slots := 6, locals := 1084 } : Room) (cPc D g A a b M [.ref (a 0), iv p0]) (cQi D g A a b Q) (cX D g A a b XQ) 1 6 A := by
  refine vx_ofW (cc := cX10_stepPrice) (maxL := 2) (ret := (some .int)) (by decide) rfl ?_
  intro p e s m args below meth c s₁ B hml htab hv
  obtain ⟨rfl, hP, hD, hG⟩ := hv
  have X : vC p s m _ meth c D g A RX10 wsX10_stepPrice cX10_stepPrice 2 := ⟨B.exec, B.bytes, findClass_of_methodNamed B.named, atoms_spec (ws := wsX10_stepPrice) B.pre, hG, hml, B.notSynchronized⟩
  have hr := B.returns
  have hl := lv_entry ([.ref (a 0), iv p0]) (n := 2) (Nat.le_of_ble_eq_true rfl)
  rw [lg_entry_eq]
  generalize (lg_sl ([.ref (a 0), iv p0]) ++ List.replicate (2 - (lg_sl ([.ref (a 0), iv p0])).length) Slot.unset).toArray = ls at hl ⊢
  have hl : lv_has ls 2 [(0, .ref (a 0)), (1, iv p0)] := hl
  exact wke_X10_stepPrice X hr hlt htab hw s.heap [] ls hP hD va_S.rf hl

theorem dX11_does_0 : decode cX11_does 0 = .ok (.iconst 0, 1) := by decide +kernel
theorem dX11_does_1 : decode cX11_does 1 = .ok (.istore 4, 2) := by decide +kernel
theorem dX11_does_3 : decode cX11_does 3 = .ok (.iconst 0, 1) := by decide +kernel
theorem dX11_does_4 : decode cX11_does 4 = .ok (.istore 5, 2) := by decide +kernel
theorem dX11_does_6 : decode cX11_does 6 = .ok (.iload 5, 2) := by decide +kernel
theorem dX11_does_8 : decode cX11_does 8 = .ok (.iload_n 1, 1) := by decide +kernel
theorem dX11_does_9 : decode cX11_does 9 = .ok (.if_icmp .ge 43, 3) := by decide +kernel
theorem dX11_does_12 : decode cX11_does 12 = .ok (.iload 4, 2) := by decide +kernel
theorem dX11_does_14 : decode cX11_does 14 = .ok (.ifCond .ne 25, 3) := by decide +kernel
theorem dX11_does_17 : decode cX11_does 17 = .ok (.aload_n 0, 1) := by decide +kernel
theorem dX11_does_18 : decode cX11_does 18 = .ok (.getfield 54, 3) := by decide +kernel
theorem dX11_does_21 : decode cX11_does 21 = .ok (.iload 5, 2) := by decide +kernel
theorem dX11_does_23 : decode cX11_does 23 = .ok (.iaload, 1) := by decide +kernel
theorem dX11_does_24 : decode cX11_does 24 = .ok (.iload_n 2, 1) := by decide +kernel
theorem dX11_does_25 : decode cX11_does 25 = .ok (.if_icmp .ne 18, 3) := by decide +kernel
theorem dX11_does_28 : decode cX11_does 28 = .ok (.aload_n 0, 1) := by decide +kernel
theorem dX11_does_29 : decode cX11_does 29 = .ok (.getfield 57, 3) := by decide +kernel
theorem dX11_does_32 : decode cX11_does 32 = .ok (.iload 5, 2) := by decide +kernel
theorem dX11_does_34 : decode cX11_does 34 = .ok (.iaload, 1) := by decide +kernel
theorem dX11_does_35 : decode cX11_does 35 = .ok (.iload_n 3, 1) := by decide +kernel
theorem dX11_does_36 : decode cX11_does 36 = .ok (.if_icmp .ne 7, 3) := by decide +kernel
theorem dX11_does_39 : decode cX11_does 39 = .ok (.iconst 1, 1) := by decide +kernel
theorem dX11_does_40 : decode cX11_does 40 = .ok (.goto 4, 3) := by decide +kernel
theorem dX11_does_43 : decode cX11_does 43 = .ok (.iconst 0, 1) := by decide +kernel
theorem dX11_does_44 : decode cX11_does 44 = .ok (.istore 4, 2) := by decide +kernel
theorem dX11_does_46 : decode cX11_does 46 = .ok (.iinc 5 1, 3) := by decide +kernel
theorem dX11_does_49 : decode cX11_does 49 = .ok (.goto (-43), 3) := by decide +kernel
theorem dX11_does_52 : decode cX11_does 52 = .ok (.iload 4, 2) := by decide +kernel
theorem dX11_does_54 : decode cX11_does 54 = .ok (.ireturn, 1) := by decide +kernel
theorem lk_X11_does_f54 : Cond.fieldLink RX11 54 "TreeComparerModel" "stepKind" "[I" ∈ wsX11_does := by decide +kernel
theorem hi_X11_does_11 : ∀ w ∈ u_ws RX11 TX11 24, w ∈ wsX11_does := by decide +kernel
theorem lk_X11_does_f57 : Cond.fieldLink RX11 57 "TreeComparerModel" "stepPlace" "[I" ∈ wsX11_does := by decide +kernel
def wpj_X11_does_44 (p0 : Int) (p1 : Int) (p2 : Int) (x5 : Int) (s0 : Int) (M : Mem) (J6 : Int → Int → Mem → Prop) (Q : Int → Mem → Prop) : Prop := J6 s0 (x5 + 1) M
def wpj_X11_does_43 (p0 : Int) (p1 : Int) (p2 : Int) (x5 : Int) (M : Mem) (J6 : Int → Int → Mem → Prop) (Q : Int → Mem → Prop) : Prop := wpj_X11_does_44 p0 p1 p2 x5 0 M J6 Q
def wpj_X11_does_39 (p0 : Int) (p1 : Int) (p2 : Int) (x5 : Int) (M : Mem) (J6 : Int → Int → Mem → Prop) (Q : Int → Mem → Prop) : Prop := wpj_X11_does_44 p0 p1 p2 x5 1 M J6 Q
def wph_X11_does_6 (p0 : Int) (p1 : Int) (p2 : Int) (x4 : Int) (x5 : Int) (M : Mem) (J6 : Int → Int → Mem → Prop) (Q : Int → Mem → Prop) : Prop := inR x5 ∧ inR p0 ∧ ((p0 ≤ x5 → (x4 = 0 ∨ x4 = 1) ∧ Q x4 M) ∧ (¬ (p0 ≤ x5) → inR x4 ∧ ((x4 ≠ 0 → wpj_X11_does_39 p0 p1 p2 x5 M J6 Q) ∧ (¬ (x4 ≠ 0) → ((0 : Int) ≤ x5 ∧ x5 < 24) ∧ inR (M 13 14 x5.toNat) ∧ inR p1 ∧ (((M 13 14 x5.toNat) ≠ p1 → wpj_X11_does_43 p0 p1 p2 x5 M J6 Q) ∧ (¬ ((M 13 14 x5.toNat) ≠ p1) → ((0 : Int) ≤ x5 ∧ x5 < 24) ∧ inR (M 13 15 x5.toNat) ∧ inR p2 ∧ (((M 13 15 x5.toNat) ≠ p2 → wpj_X11_does_43 p0 p1 p2 x5 M J6 Q) ∧ (¬ ((M 13 15 x5.toNat) ≠ p2) → wpj_X11_does_39 p0 p1 p2 x5 M J6 Q))))))))
def wpe_X11_does (p0 : Int) (p1 : Int) (p2 : Int) (M : Mem) (J6 : Int → Int → Mem → Prop) (Q : Int → Mem → Prop) : Prop := J6 0 0 M
def wp_X11_does (M : Mem) (p0 : Int) (p1 : Int) (p2 : Int) (Q : Int → Mem → Prop) : Prop := ∃ (I6 : Nat → Int → Int → Mem → Prop), wpe_X11_does p0 p1 p2 M (fun (x4 : Int) (x5 : Int) (M1 : Mem) => ∃ n1 : Nat, I6 n1 x4 x5 M1) Q ∧ (∀ (n : Nat) (x4 : Int) (x5 : Int) (M : Mem), I6 n x4 x5 M → wph_X11_does_6 p0 p1 p2 x4 x5 M (fun (x4 : Int) (x5 : Int) (M1 : Mem) => ∃ n1 : Nat, n1 < n ∧ I6 n1 x4 x5 M1) Q)
set_option maxHeartbeats 4000000 in
set_option maxRecDepth 100000 in
theorem wkj_X11_does_44 {p : Program} {l : Launch} {e : Env} {s : State} {m : MethodId} {args : Array Value} {below : List Frame} {meth : Method} {c : Code} {D : va_G} {g : GT} {A : Nat → Prop} {a : Nat → Nat} {b : Nat → Nat → Nat} (X : vC p s m args meth c D g A RX11 wsX11_does cX11_does 6) (hr : meth.sig.returnType = (some .boolean)) {p0 : Int} {p1 : Int} {p2 : Int} {x5 : Int} {s0 : Int} {M : Mem} {J6 : Int → Int → Mem → Prop} {Q : Int → Mem → Prop} (hJ6 : ∀ (x4 : Int) (x5 : Int) (M : Mem), J6 x4 x5 M → vV p l e ({ frames := 0, cells := 0, slots := 0, locals := 0 } : Room) s m args below meth c D g A a b 6 0 0 (MQ below (cQi D g A a b Q) args s 0 0 A) M [(0, .ref (a 13)), (1, iv p0), (2, iv p1), (3, iv p2), (4, iv x4), (5, iv x5)] 6 []) (hw : wpj_X11_does_44 p0 p1 p2 x5 s0 M J6 Q) : vV p l e ({ frames := 0, cells := 0, slots := 0, locals := 0 } : Room) s m args below meth c D g A a b 6 0 0 (MQ below (cQi D g A a b Q) args s 0 0 A) M [(0, .ref (a 13)), (1, iv p0), (2, iv p1), (3, iv p2), (5, iv x5)] 44 [iv s0] := by
  unfold wpj_X11_does_44 at hw
  refine V_istore (lv1 := [(0, .ref (a 13)), (1, iv p0), (2, iv p1), (3, iv p2), (4, iv s0), (5, iv x5)]) X [1, 2, 3, 4, 0, 5] dX11_does_44 (by decide) rfl ?_
  refine V_iinc (lv1 := [(0, .ref (a 13)), (1, iv p0), (2, iv p1), (3, iv p2), (4, iv s0), (5, iv (x5 + 1))]) X [1, 2, 3, 4, 5, 0] dX11_does_46 (q := 5) rfl (by decide) rfl ?_
  refine V_goto (tgt := 6) X dX11_does_49 (by decide) ?_
  exact hJ6 _ _ _ hw
set_option maxHeartbeats 4000000 in
set_option maxRecDepth 100000 in
theorem wkj_X11_does_43 {p : Program} {l : Launch} {e : Env} {s : State} {m : MethodId} {args : Array Value} {below : List Frame} {meth : Method} {c : Code} {D : va_G} {g : GT} {A : Nat → Prop} {a : Nat → Nat} {b : Nat → Nat → Nat} (X : vC p s m args meth c D g A RX11 wsX11_does cX11_does 6) (hr : meth.sig.returnType = (some .boolean)) {p0 : Int} {p1 : Int} {p2 : Int} {x5 : Int} {M : Mem} {J6 : Int → Int → Mem → Prop} {Q : Int → Mem → Prop} (hJ6 : ∀ (x4 : Int) (x5 : Int) (M : Mem), J6 x4 x5 M → vV p l e ({ frames := 0, cells := 0, slots := 0, locals := 0 } : Room) s m args below meth c D g A a b 6 0 0 (MQ below (cQi D g A a b Q) args s 0 0 A) M [(0, .ref (a 13)), (1, iv p0), (2, iv p1), (3, iv p2), (4, iv x4), (5, iv x5)] 6 []) (hw : wpj_X11_does_43 p0 p1 p2 x5 M J6 Q) : vV p l e ({ frames := 0, cells := 0, slots := 0, locals := 0 } : Room) s m args below meth c D g A a b 6 0 0 (MQ below (cQi D g A a b Q) args s 0 0 A) M [(0, .ref (a 13)), (1, iv p0), (2, iv p1), (3, iv p2), (5, iv x5)] 43 [] := by
  unfold wpj_X11_does_43 at hw
  refine V_iconst X dX11_does_43 ?_
  exact wkj_X11_does_44 X hr hJ6 hw
set_option maxHeartbeats 4000000 in
set_option maxRecDepth 100000 in
theorem wkj_X11_does_39 {p : Program} {l : Launch} {e : Env} {s : State} {m : MethodId} {args : Array Value} {below : List Frame} {meth : Method} {c : Code} {D : va_G} {g : GT} {A : Nat → Prop} {a : Nat → Nat} {b : Nat → Nat → Nat} (X : vC p s m args meth c D g A RX11 wsX11_does cX11_does 6) (hr : meth.sig.returnType = (some .boolean)) {p0 : Int} {p1 : Int} {p2 : Int} {x5 : Int} {M : Mem} {J6 : Int → Int → Mem → Prop} {Q : Int → Mem → Prop} (hJ6 : ∀ (x4 : Int) (x5 : Int) (M : Mem), J6 x4 x5 M → vV p l e ({ frames := 0, cells := 0, slots := 0, locals := 0 } : Room) s m args below meth c D g A a b 6 0 0 (MQ below (cQi D g A a b Q) args s 0 0 A) M [(0, .ref (a 13)), (1, iv p0), (2, iv p1), (3, iv p2), (4, iv x4), (5, iv x5)] 6 []) (hw : wpj_X11_does_39 p0 p1 p2 x5 M J6 Q) : vV p l e ({ frames := 0, cells := 0, slots := 0, locals := 0 } : Room) s m args below meth c D g A a b 6 0 0 (MQ below (cQi D g A a b Q) args s 0 0 A) M [(0, .ref (a 13)), (1, iv p0), (2, iv p1), (3, iv p2), (5, iv x5)] 39 [] := by
  unfold wpj_X11_does_39 at hw
  refine V_iconst X dX11_does_39 ?_
  refine V_goto (tgt := 44) X dX11_does_40 (by decide) ?_
  exact wkj_X11_does_44 X hr hJ6 hw
set_option maxHeartbeats 4000000 in
set_option maxRecDepth 100000 in
theorem wkh_X11_does_6 {p : Program} {l : Launch} {e : Env} {s : State} {m : MethodId} {args : Array Value} {below : List Frame} {meth : Method} {c : Code} {D : va_G} {g : GT} {A : Nat → Prop} {a : Nat → Nat} {b : Nat → Nat → Nat} (X : vC p s m args meth c D g A RX11 wsX11_does cX11_does 6) (hr : meth.sig.returnType = (some .boolean)) {p0 : Int} {p1 : Int} {p2 : Int} {x4 : Int} {x5 : Int} {M : Mem} {J6 : Int → Int → Mem → Prop} {Q : Int → Mem → Prop} (hJ6 : ∀ (x4 : Int) (x5 : Int) (M : Mem), J6 x4 x5 M → vV p l e ({ frames := 0, cells := 0, slots := 0, locals := 0 } : Room) s m args below meth c D g A a b 6 0 0 (MQ below (cQi D g A a b Q) args s 0 0 A) M [(0, .ref (a 13)), (1, iv p0), (2, iv p1), (3, iv p2), (4, iv x4), (5, iv x5)] 6 []) (hw : wph_X11_does_6 p0 p1 p2 x4 x5 M J6 Q) : vV p l e ({ frames := 0, cells := 0, slots := 0, locals := 0 } : Room) s m args below meth c D g A a b 6 0 0 (MQ below (cQi D g A a b Q) args s 0 0 A) M [(0, .ref (a 13)), (1, iv p0), (2, iv p1), (3, iv p2), (4, iv x4), (5, iv x5)] 6 [] := by
  unfold wph_X11_does_6 at hw
  refine V_iload X dX11_does_6 (q := 5) rfl ?_
  refine V_iload_n X dX11_does_8 rfl (q := 1) rfl ?_
  obtain ⟨h1, h2, hw⟩ := hw
  refine V_icmp_ge (tgt := 52) X h1 h2 dX11_does_9 (by decide) (fun q3 => ?_) (fun q3 => ?_)
  · have hw := hw.1 q3
    refine V_iload X dX11_does_52 (q := 4) rfl ?_
    obtain ⟨h4, hw⟩ := hw
    exact V_zret X hr h4 hw dX11_does_54
  · have hw := hw.2 q3
    refine V_iload X dX11_does_12 (q := 4) rfl ?_
    obtain ⟨h5, hw⟩ := hw
    refine V_if_ne (tgt := 39) X h5 dX11_does_14 (by decide) (fun q6 => ?_) (fun q6 => ?_)
    · have hw := hw.1 q6
      refine V_sub (lv1 := [(0, .ref (a 13)), (1, iv p0), (2, iv p1), (3, iv p2), (5, iv x5)]) [0, 1, 2, 3, 5] rfl ?_
      exact wkj_X11_does_39 X hr hJ6 hw
    · have hw := hw.2 q6
      refine V_aload_n X dX11_does_17 rfl (q := 0) rfl ?_
      refine V_get (C := RX11) (T := TX11) (N := 24) (ci := 11) X hi_X11_does_11 gO_13 rfl 14 (by decide) lk_X11_does_f54 (fun _ h9 => h9) rfl dX11_does_18 ?_
      refine V_iload X dX11_does_21 (q := 5) rfl ?_
      obtain ⟨h7, hw⟩ := hw
      refine V_iald X (gA_13_14) h7 (by decide) dX11_does_23 ?_
      refine V_iload_n X dX11_does_24 rfl (q := 2) rfl ?_
      obtain ⟨h8, h9, hw⟩ := hw
      refine V_icmp_ne (tgt := 43) X h8 h9 dX11_does_25 (by decide) (fun q10 => ?_) (fun q10 => ?_)
      · have hw := hw.1 q10
        refine V_sub (lv1 := [(0, .ref (a 13)), (1, iv p0), (2, iv p1), (3, iv p2), (5, iv x5)]) [0, 1, 2, 3, 5] rfl ?_
        exact wkj_X11_does_43 X hr hJ6 hw
      · have hw := hw.2 q10
        refine V_aload_n X dX11_does_28 rfl (q := 0) rfl ?_
        refine V_get (C := RX11) (T := TX11) (N := 24) (ci := 11) X hi_X11_does_11 gO_13 rfl 15 (by decide) lk_X11_does_f57 (fun _ h9 => h9) rfl dX11_does_29 ?_
        refine V_iload X dX11_does_32 (q := 5) rfl ?_
        obtain ⟨h11, hw⟩ := hw
        refine V_iald X (gA_13_15) h11 (by decide) dX11_does_34 ?_
        refine V_iload_n X dX11_does_35 rfl (q := 3) rfl ?_
        obtain ⟨h12, h13, hw⟩ := hw
        refine V_icmp_ne (tgt := 43) X h12 h13 dX11_does_36 (by decide) (fun q14 => ?_) (fun q14 => ?_)
        · have hw := hw.1 q14
          refine V_sub (lv1 := [(0, .ref (a 13)), (1, iv p0), (2, iv p1), (3, iv p2), (5, iv x5)]) [0, 1, 2, 3, 5] rfl ?_
          exact wkj_X11_does_43 X hr hJ6 hw
        · have hw := hw.2 q14
          refine V_sub (lv1 := [(0, .ref (a 13)), (1, iv p0), (2, iv p1), (3, iv p2), (5, iv x5)]) [0, 1, 2, 3, 5] rfl ?_
          exact wkj_X11_does_39 X hr hJ6 hw
set_option maxHeartbeats 4000000 in
set_option maxRecDepth 100000 in
theorem wke_X11_does {p : Program} {l : Launch} {e : Env} {s : State} {m : MethodId} {args : Array Value} {below : List Frame} {meth : Method} {c : Code} {D : va_G} {g : GT} {A : Nat → Prop} {a : Nat → Nat} {b : Nat → Nat → Nat} (X : vC p s m args meth c D g A RX11 wsX11_does cX11_does 6) (hr : meth.sig.returnType = (some .boolean)) {p0 : Int} {p1 : Int} {p2 : Int} {M : Mem} {J6 : Int → Int → Mem → Prop} {Q : Int → Mem → Prop} (hJ6 : ∀ (x4 : Int) (x5 : Int) (M : Mem), J6 x4 x5 M → vV p l e ({ frames := 0, cells := 0, slots := 0, locals := 0 } : Room) s m args below meth c D g A a b 6 0 0 (MQ below (cQi D g A a b Q) args s 0 0 A) M [(0, .ref (a 13)), (1, iv p0), (2, iv p1), (3, iv p2), (4, iv x4), (5, iv x5)] 6 []) (hw : wpe_X11_does p0 p1 p2 M J6 Q) : vV p l e ({ frames := 0, cells := 0, slots := 0, locals := 0 } : Room) s m args below meth c D g A a b 6 0 0 (MQ below (cQi D g A a b Q) args s 0 0 A) M [(0, .ref (a 13)), (1, iv p0), (2, iv p1), (3, iv p2)] 0 [] := by
  unfold wpe_X11_does at hw
  refine V_iconst X dX11_does_0 ?_
  refine V_istore (lv1 := [(0, .ref (a 13)), (1, iv p0), (2, iv p1), (3, iv p2), (4, iv 0)]) X [1, 2, 3, 4, 0] dX11_does_1 (by decide) rfl ?_
  refine V_iconst X dX11_does_3 ?_
  refine V_istore (lv1 := [(0, .ref (a 13)), (1, iv p0), (2, iv p1), (3, iv p2), (4, iv 0), (5, iv 0)]) X [1, 2, 3, 4, 5, 0] dX11_does_4 (by decide) rfl ?_
  exact hJ6 _ _ _ hw
set_option maxHeartbeats 4000000 in
set_option maxRecDepth 100000 in
theorem c_X11_does (l : Launch) {p0 : Int} {p1 : Int} {p2 : Int} {D : va_G} {g : GT} {A : Nat → Prop} {a : Nat → Nat} {b : Nat → Nat → Nat} {M : Mem} {Q : Int → Mem → Prop} (hw : wp_X11_does M p0 p1 p2 Q) : Met l yX11_does wsX11_does ({ frames := 0, cells := 0, slots := 0, locals := 0 } : Room) (cPc D g A a b M [.ref (a 13), iv p0, iv p1, iv p2]) (cQi D g A a b Q) 0 0 A := by
  refine Met.ofW (cc := cX11_does) (maxL := 6) (ret := (some .boolean)) (by decide) rfl ?_
  intro p e s m args below meth c s₁ B hml hv
  obtain ⟨rfl, hP, hD, hG⟩ := hv
  have X : vC p s m _ meth c D g A RX11 wsX11_does cX11_does 6 := ⟨B.exec, B.bytes, findClass_of_methodNamed B.named, atoms_spec (ws := wsX11_does) B.pre, hG, hml, B.notSynchronized⟩
  have hr := B.returns
  have hl := lv_entry ([.ref (a 13), iv p0, iv p1, iv p2]) (n := 6) (Nat.le_of_ble_eq_true rfl)
  rw [lg_entry_eq]
  generalize (lg_sl ([.ref (a 13), iv p0, iv p1, iv p2]) ++ List.replicate (6 - (lg_sl ([.ref (a 13), iv p0, iv p1, iv p2])).length) Slot.unset).toArray = ls at hl ⊢
  have hl : lv_has ls 6 [(0, .ref (a 13)), (1, iv p0), (2, iv p1), (3, iv p2)] := hl
  obtain ⟨I6, hw, hI6⟩ := hw
  have K : ∀ n : Nat, (∀ (x4 : Int) (x5 : Int) (M : Mem), I6 n x4 x5 M → vV p l e ({ frames := 0, cells := 0, slots := 0, locals := 0 } : Room) s m ([.ref (a 13), iv p0, iv p1, iv p2] : List Value).toArray below meth c D g A a b 6 0 0 (MQ below (cQi D g A a b Q) ([.ref (a 13), iv p0, iv p1, iv p2] : List Value).toArray s 0 0 A) M [(0, .ref (a 13)), (1, iv p0), (2, iv p1), (3, iv p2), (4, iv x4), (5, iv x5)] 6 []) := by
    intro n
    induction n using Nat.strongRecOn with
    | ind n ih =>
      exact fun x4 x5 M hh => wkh_X11_does_6 X hr (fun _ _ _ ⟨n1, hn, hh⟩ => (ih n1 hn) _ _ _ hh) (hI6 n x4 x5 M hh)
  exact wke_X11_does X hr  (fun _ _ _ ⟨n1, hh⟩ => (K n1) _ _ _ hh) hw s.heap [] ls hP hD va_S.rf hl

set_option maxRecDepth 20000 in
theorem ggX11_grows_X11_does : GoodIn wsX11_grows wsX11_does := goodIn_r _ [13, 14, 15, 16, 17, 18, 19, 20, 21, 22, 23, 24, 25, 26, 27, 28, 29, 30, 31, 32, 33, 34, 35, 36, 37, 38, 39] (by decide +kernel) (by decide +kernel)
set_option maxRecDepth 20000 in
theorem gX11_grows_X11_does : GoodIn wsX11_grows (wsV RX11 188 RX11 yX11_does wsX11_does) := goodIn_app (goodIn_of _ (by decide +kernel)) ggX11_grows_X11_does
theorem dX11_grows_0 : decode cX11_grows 0 = .ok (.aload_n 0, 1) := by decide +kernel
theorem dX11_grows_1 : decode cX11_grows 1 = .ok (.iload_n 1, 1) := by decide +kernel
theorem dX11_grows_2 : decode cX11_grows 2 = .ok (.aload_n 0, 1) := by decide +kernel
theorem dX11_grows_3 : decode cX11_grows 3 = .ok (.getfield 176, 3) := by decide +kernel
theorem dX11_grows_6 : decode cX11_grows 6 = .ok (.if_icmp .gt 7, 3) := by decide +kernel
theorem dX11_grows_9 : decode cX11_grows 9 = .ok (.iconst 0, 1) := by decide +kernel
theorem dX11_grows_10 : decode cX11_grows 10 = .ok (.goto 4, 3) := by decide +kernel
theorem dX11_grows_13 : decode cX11_grows 13 = .ok (.iconst 1, 1) := by decide +kernel
theorem dX11_grows_14 : decode cX11_grows 14 = .ok (.putfield 185, 3) := by decide +kernel
theorem dX11_grows_17 : decode cX11_grows 17 = .ok (.iconst 0, 1) := by decide +kernel
theorem dX11_grows_18 : decode cX11_grows 18 = .ok (.istore_n 2, 1) := by decide +kernel
theorem dX11_grows_19 : decode cX11_grows 19 = .ok (.iconst 0, 1) := by decide +kernel
theorem dX11_grows_20 : decode cX11_grows 20 = .ok (.istore_n 3, 1) := by decide +kernel
theorem dX11_grows_21 : decode cX11_grows 21 = .ok (.iload_n 3, 1) := by decide +kernel
theorem dX11_grows_22 : decode cX11_grows 22 = .ok (.aload_n 0, 1) := by decide +kernel
theorem dX11_grows_23 : decode cX11_grows 23 = .ok (.getfield 25, 3) := by decide +kernel
theorem dX11_grows_26 : decode cX11_grows 26 = .ok (.aload_n 0, 1) := by decide +kernel
theorem dX11_grows_27 : decode cX11_grows 27 = .ok (.getfield 185, 3) := by decide +kernel
theorem dX11_grows_30 : decode cX11_grows 30 = .ok (.iaload, 1) := by decide +kernel
theorem dX11_grows_31 : decode cX11_grows 31 = .ok (.if_icmp .ge 112, 3) := by decide +kernel
theorem dX11_grows_34 : decode cX11_grows 34 = .ok (.aload_n 0, 1) := by decide +kernel
theorem dX11_grows_35 : decode cX11_grows 35 = .ok (.getfield 185, 3) := by decide +kernel
theorem dX11_grows_38 : decode cX11_grows 38 = .ok (.ifCond .ne 16, 3) := by decide +kernel
theorem dX11_grows_41 : decode cX11_grows 41 = .ok (.aload_n 0, 1) := by decide +kernel
theorem dX11_grows_42 : decode cX11_grows 42 = .ok (.iload_n 1, 1) := by decide +kernel
theorem dX11_grows_43 : decode cX11_grows 43 = .ok (.iconst 0, 1) := by decide +kernel
theorem dX11_grows_44 : decode cX11_grows 44 = .ok (.iload_n 3, 1) := by decide +kernel
theorem dX11_grows_45 : decode cX11_grows 45 = .ok (.invokevirtual 188, 3) := by decide +kernel
theorem dX11_grows_48 : decode cX11_grows 48 = .ok (.ifCond .ne 89, 3) := by decide +kernel
theorem dX11_grows_51 : decode cX11_grows 51 = .ok (.goto 22, 3) := by decide +kernel
theorem dX11_grows_54 : decode cX11_grows 54 = .ok (.aload_n 0, 1) := by decide +kernel
theorem dX11_grows_55 : decode cX11_grows 55 = .ok (.getfield 44, 3) := by decide +kernel
theorem dX11_grows_58 : decode cX11_grows 58 = .ok (.iload_n 3, 1) := by decide +kernel
theorem dX11_grows_59 : decode cX11_grows 59 = .ok (.baload, 1) := by decide +kernel
theorem dX11_grows_60 : decode cX11_grows 60 = .ok (.ifCond .ne 13, 3) := by decide +kernel
theorem dX11_grows_63 : decode cX11_grows 63 = .ok (.aload_n 0, 1) := by decide +kernel
theorem dX11_grows_64 : decode cX11_grows 64 = .ok (.iload_n 1, 1) := by decide +kernel
theorem dX11_grows_65 : decode cX11_grows 65 = .ok (.iconst 2, 1) := by decide +kernel
theorem dX11_grows_66 : decode cX11_grows 66 = .ok (.iload_n 3, 1) := by decide +kernel
theorem dX11_grows_67 : decode cX11_grows 67 = .ok (.invokevirtual 188, 3) := by decide +kernel
theorem dX11_grows_70 : decode cX11_grows 70 = .ok (.ifCond .eq 67, 3) := by decide +kernel
theorem dX11_grows_73 : decode cX11_grows 73 = .ok (.aload_n 0, 1) := by decide +kernel
theorem dX11_grows_74 : decode cX11_grows 74 = .ok (.getfield 60, 3) := by decide +kernel
theorem dX11_grows_77 : decode cX11_grows 77 = .ok (.iload_n 2, 1) := by decide +kernel
theorem dX11_grows_78 : decode cX11_grows 78 = .ok (.iload_n 3, 1) := by decide +kernel
theorem dX11_grows_79 : decode cX11_grows 79 = .ok (.iastore, 1) := by decide +kernel
theorem dX11_grows_80 : decode cX11_grows 80 = .ok (.aload_n 0, 1) := by decide +kernel
theorem dX11_grows_81 : decode cX11_grows 81 = .ok (.getfield 63, 3) := by decide +kernel
theorem dX11_grows_84 : decode cX11_grows 84 = .ok (.iload_n 2, 1) := by decide +kernel
theorem dX11_grows_85 : decode cX11_grows 85 = .ok (.aload_n 0, 1) := by decide +kernel
theorem dX11_grows_86 : decode cX11_grows 86 = .ok (.getfield 185, 3) := by decide +kernel
theorem dX11_grows_89 : decode cX11_grows 89 = .ok (.ifCond .ne 30, 3) := by decide +kernel
theorem dX11_grows_92 : decode cX11_grows 92 = .ok (.aload_n 0, 1) := by decide +kernel
theorem dX11_grows_93 : decode cX11_grows 93 = .ok (.iload_n 1, 1) := by decide +kernel
theorem dX11_grows_94 : decode cX11_grows 94 = .ok (.iconst 1, 1) := by decide +kernel
theorem dX11_grows_95 : decode cX11_grows 95 = .ok (.iload_n 3, 1) := by decide +kernel
theorem dX11_grows_96 : decode cX11_grows 96 = .ok (.invokevirtual 188, 3) := by decide +kernel
theorem dX11_grows_99 : decode cX11_grows 99 = .ok (.ifCond .eq 20, 3) := by decide +kernel
theorem dX11_grows_102 : decode cX11_grows 102 = .ok (.aload_n 0, 1) := by decide +kernel
theorem dX11_grows_103 : decode cX11_grows 103 = .ok (.getfield 19, 3) := by decide +kernel
theorem dX11_grows_106 : decode cX11_grows 106 = .ok (.bipush 12, 2) := by decide +kernel
theorem dX11_grows_108 : decode cX11_grows 108 = .ok (.aload_n 0, 1) := by decide +kernel
theorem dX11_grows_109 : decode cX11_grows 109 = .ok (.getfield 38, 3) := by decide +kernel
theorem dX11_grows_112 : decode cX11_grows 112 = .ok (.iload_n 3, 1) := by decide +kernel
theorem dX11_grows_113 : decode cX11_grows 113 = .ok (.iaload, 1) := by decide +kernel
theorem dX11_grows_114 : decode cX11_grows 114 = .ok (.iadd, 1) := by decide +kernel
theorem dX11_grows_115 : decode cX11_grows 115 = .ok (.iaload, 1) := by decide +kernel
theorem dX11_grows_116 : decode cX11_grows 116 = .ok (.goto 17, 3) := by decide +kernel
theorem dX11_grows_119 : decode cX11_grows 119 = .ok (.aload_n 0, 1) := by decide +kernel
theorem dX11_grows_120 : decode cX11_grows 120 = .ok (.getfield 19, 3) := by decide +kernel
theorem dX11_grows_123 : decode cX11_grows 123 = .ok (.bipush 12, 2) := by decide +kernel
theorem dX11_grows_125 : decode cX11_grows 125 = .ok (.aload_n 0, 1) := by decide +kernel
theorem dX11_grows_126 : decode cX11_grows 126 = .ok (.getfield 185, 3) := by decide +kernel
theorem dX11_grows_129 : decode cX11_grows 129 = .ok (.imul, 1) := by decide +kernel
theorem dX11_grows_130 : decode cX11_grows 130 = .ok (.iload_n 3, 1) := by decide +kernel
theorem dX11_grows_131 : decode cX11_grows 131 = .ok (.iadd, 1) := by decide +kernel
theorem dX11_grows_132 : decode cX11_grows 132 = .ok (.iaload, 1) := by decide +kernel
theorem dX11_grows_133 : decode cX11_grows 133 = .ok (.iastore, 1) := by decide +kernel
theorem dX11_grows_134 : decode cX11_grows 134 = .ok (.iinc 2 1, 3) := by decide +kernel
theorem dX11_grows_137 : decode cX11_grows 137 = .ok (.iinc 3 1, 3) := by decide +kernel
theorem dX11_grows_140 : decode cX11_grows 140 = .ok (.goto (-119), 3) := by decide +kernel
theorem dX11_grows_143 : decode cX11_grows 143 = .ok (.iload_n 2, 1) := by decide +kernel
theorem dX11_grows_144 : decode cX11_grows 144 = .ok (.ireturn, 1) := by decide +kernel
theorem lk_X11_grows_f176 : Cond.fieldLink RX11 176 "TreeComparerModel" "ofOld" "I" ∈ wsX11_grows := by decide +kernel
theorem hi_X11_grows_11 : ∀ w ∈ u_ws RX11 TX11 24, w ∈ wsX11_grows := by decide +kernel
theorem lk_X11_grows_f185 : Cond.fieldLink RX11 185 "TreeComparerModel" "woodTree" "I" ∈ wsX11_grows := by decide +kernel
theorem lk_X11_grows_f25 : Cond.fieldLink RX11 25 "TreeComparerModel" "many" "[I" ∈ wsX11_grows := by decide +kernel
theorem lk_X11_grows_f44 : Cond.fieldLink RX11 44 "TreeComparerModel" "paired" "[Z" ∈ wsX11_grows := by decide +kernel
theorem lk_X11_grows_f60 : Cond.fieldLink RX11 60 "TreeComparerModel" "wood" "[I" ∈ wsX11_grows := by decide +kernel
theorem lk_X11_grows_f63 : Cond.fieldLink RX11 63 "TreeComparerModel" "woodLabel" "[I" ∈ wsX11_grows := by decide +kernel
theorem lk_X11_grows_f19 : Cond.fieldLink RX11 19 "TreeComparerModel" "label" "[I" ∈ wsX11_grows := by decide +kernel
theorem lk_X11_grows_f38 : Cond.fieldLink RX11 38 "TreeComparerModel" "partner" "[I" ∈ wsX11_grows := by decide +kernel
def wpj_X11_grows_137 (p0 : Int) (x2 : Int) (x3 : Int) (M : Mem) (J21 : Int → Int → Mem → Prop) (Q : Int → Mem → Prop) : Prop := J21 x2 (x3 + 1) M
def wpj_X11_grows_133 (p0 : Int) (x2 : Int) (x3 : Int) (s0 : Int) (s1 : Int) (M : Mem) (J21 : Int → Int → Mem → Prop) (Q : Int → Mem → Prop) : Prop := ((0 : Int) ≤ s1 ∧ s1 < 12) ∧ (∀ M33 : Mem, M33 = mset M 13 19 s1.toNat s0 → wpj_X11_grows_137 p0 (x2 + 1) x3 M33 J21 Q)
def wpj_X11_grows_119 (p0 : Int) (x2 : Int) (x3 : Int) (s0 : Int) (M : Mem) (J21 : Int → Int → Mem → Prop) (Q : Int → Mem → Prop) : Prop := ((0 : Int) ≤ (12 * (M 13 20 0)) + x3 ∧ (12 * (M 13 20 0)) + x3 < 24) ∧ wpj_X11_grows_133 p0 x2 x3 ((M 13 3 ((12 * (M 13 20 0)) + x3).toNat)) s0 M J21 Q
def wpj_X11_grows_73 (p0 : Int) (x2 : Int) (x3 : Int) (M : Mem) (J21 : Int → Int → Mem → Prop) (Q : Int → Mem → Prop) : Prop := ((0 : Int) ≤ x2 ∧ x2 < 12) ∧ (∀ M22 : Mem, M22 = mset M 13 18 x2.toNat x3 → inR (M22 13 20 0) ∧ (((M22 13 20 0) ≠ 0 → wpj_X11_grows_119 p0 x2 x3 x2 M22 J21 Q) ∧ (¬ ((M22 13 20 0) ≠ 0) → wp_X11_does M22 p0 1 x3 (fun y26 M27 => inR y26 ∧ ((y26 = 0 → wpj_X11_grows_119 p0 x2 x3 x2 M27 J21 Q) ∧ (¬ (y26 = 0) → ((0 : Int) ≤ x3 ∧ x3 < 12) ∧ ((0 : Int) ≤ 12 + (M27 13 9 x3.toNat) ∧ 12 + (M27 13 9 x3.toNat) < 24) ∧ wpj_X11_grows_133 p0 x2 x3 ((M27 13 3 (12 + (M27 13 9 x3.toNat)).toNat)) x2 M27 J21 Q))))))
def wph_X11_grows_21 (p0 : Int) (x2 : Int) (x3 : Int) (M : Mem) (J21 : Int → Int → Mem → Prop) (Q : Int → Mem → Prop) : Prop := ((0 : Int) ≤ (M 13 20 0) ∧ (M 13 20 0) < 2) ∧ inR x3 ∧ inR (M 13 5 ((M 13 20 0)).toNat) ∧ (((M 13 5 ((M 13 20 0)).toNat) ≤ x3 → Q x2 M) ∧ (¬ ((M 13 5 ((M 13 20 0)).toNat) ≤ x3) → inR (M 13 20 0) ∧ (((M 13 20 0) ≠ 0 → ((0 : Int) ≤ x3 ∧ x3 < 12) ∧ inR (M 13 11 x3.toNat) ∧ (((M 13 11 x3.toNat) ≠ 0 → wpj_X11_grows_73 p0 x2 x3 M J21 Q) ∧ (¬ ((M 13 11 x3.toNat) ≠ 0) → wp_X11_does M p0 2 x3 (fun y14 M15 => inR y14 ∧ ((y14 = 0 → wpj_X11_grows_137 p0 x2 x3 M15 J21 Q) ∧ (¬ (y14 = 0) → wpj_X11_grows_73 p0 x2 x3 M15 J21 Q)))))) ∧ (¬ ((M 13 20 0) ≠ 0) → wp_X11_does M p0 0 x3 (fun y18 M19 => inR y18 ∧ ((y18 ≠ 0 → wpj_X11_grows_137 p0 x2 x3 M19 J21 Q) ∧ (¬ (y18 ≠ 0) → wpj_X11_grows_73 p0 x2 x3 M19 J21 Q)))))))
def wpj_X11_grows_14 (p0 : Int) (s0 : Int) (M : Mem) (J21 : Int → Int → Mem → Prop) (Q : Int → Mem → Prop) : Prop := (∀ M4 : Mem, M4 = mset M 13 20 0 s0 → J21 0 0 M4)
def wpe_X11_grows (p0 : Int) (M : Mem) (J21 : Int → Int → Mem → Prop) (Q : Int → Mem → Prop) : Prop := inR p0 ∧ inR (M 13 17 0) ∧ (((M 13 17 0) < p0 → wpj_X11_grows_14 p0 1 M J21 Q) ∧ (¬ ((M 13 17 0) < p0) → wpj_X11_grows_14 p0 0 M J21 Q))
def wp_X11_grows (M : Mem) (p0 : Int) (Q : Int → Mem → Prop) : Prop := ∃ (I21 : Nat → Int → Int → Mem → Prop), wpe_X11_grows p0 M (fun (x2 : Int) (x3 : Int) (M1 : Mem) => ∃ n1 : Nat, I21 n1 x2 x3 M1) Q ∧ (∀ (n : Nat) (x2 : Int) (x3 : Int) (M : Mem), I21 n x2 x3 M → wph_X11_grows_21 p0 x2 x3 M (fun (x2 : Int) (x3 : Int) (M1 : Mem) => ∃ n1 : Nat, n1 < n ∧ I21 n1 x2 x3 M1) Q)
set_option maxHeartbeats 4000000 in
set_option maxRecDepth 100000 in
theorem wkj_X11_grows_137 {p : Program} {l : Launch} {e : Env} {s : State} {m : MethodId} {args : Array Value} {below : List Frame} {meth : Method} {c : Code} {D : va_G} {g : GT} {A : Nat → Prop} {a : Nat → Nat} {b : Nat → Nat → Nat} (X : vC p s m args meth c D g A RX11 wsX11_grows cX11_grows 4) (hr : meth.sig.returnType = (some .int)) {p0 : Int} {x2 : Int} {x3 : Int} {M : Mem} {J21 : Int → Int → Mem → Prop} {Q : Int → Mem → Prop} (hJ21 : ∀ (x2 : Int) (x3 : Int) (M : Mem), J21 x2 x3 M → vV p l e ({ frames := 1, cells := 0, slots := 0, locals := 25 } : Room) s m args below meth c D g A a b 4 0 0 (MQ below (cQi D g A a b Q) args s 0 0 A) M [(0, .ref (a 13)), (1, iv p0), (2, iv x2), (3, iv x3)] 21 []) (hw : wpj_X11_grows_137 p0 x2 x3 M J21 Q) : vV p l e ({ frames := 1, cells := 0, slots := 0, locals := 25 } : Room) s m args below meth c D g A a b 4 0 0 (MQ below (cQi D g A a b Q) args s 0 0 A) M [(0, .ref (a 13)), (1, iv p0), (2, iv x2), (3, iv x3)] 137 [] := by
  unfold wpj_X11_grows_137 at hw
  refine V_iinc (lv1 := [(0, .ref (a 13)), (1, iv p0), (2, iv x2), (3, iv (x3 + 1))]) X [1, 2, 3, 0] dX11_grows_137 (q := 3) rfl (by decide) rfl ?_
  refine V_goto (tgt := 21) X dX11_grows_140 (by decide) ?_
  exact hJ21 _ _ _ hw
set_option maxHeartbeats 4000000 in
set_option maxRecDepth 100000 in
theorem wkj_X11_grows_133 {p : Program} {l : Launch} {e : Env} {s : State} {m : MethodId} {args : Array Value} {below : List Frame} {meth : Method} {c : Code} {D : va_G} {g : GT} {A : Nat → Prop} {a : Nat → Nat} {b : Nat → Nat → Nat} (X : vC p s m args meth c D g A RX11 wsX11_grows cX11_grows 4) (hr : meth.sig.returnType = (some .int)) {p0 : Int} {x2 : Int} {x3 : Int} {s0 : Int} {s1 : Int} {M : Mem} {J21 : Int → Int → Mem → Prop} {Q : Int → Mem → Prop} (hJ21 : ∀ (x2 : Int) (x3 : Int) (M : Mem), J21 x2 x3 M → vV p l e ({ frames := 1, cells := 0, slots := 0, locals := 25 } : Room) s m args below meth c D g A a b 4 0 0 (MQ below (cQi D g A a b Q) args s 0 0 A) M [(0, .ref (a 13)), (1, iv p0), (2, iv x2), (3, iv x3)] 21 []) (hw : wpj_X11_grows_133 p0 x2 x3 s0 s1 M J21 Q) : vV p l e ({ frames := 1, cells := 0, slots := 0, locals := 25 } : Room) s m args below meth c D g A a b 4 0 0 (MQ below (cQi D g A a b Q) args s 0 0 A) M [(0, .ref (a 13)), (1, iv p0), (2, iv x2), (3, iv x3)] 133 [iv s0, iv s1, .ref (b 13 19)] := by
  unfold wpj_X11_grows_133 at hw
  obtain ⟨h34, hw⟩ := hw
  refine V_iast X (gA_13_19) (sA_13_19) h34 (by decide) dX11_grows_133 (fun M33 eM33 => ?_)
  have hw := hw M33 eM33
  refine V_iinc (lv1 := [(0, .ref (a 13)), (1, iv p0), (2, iv (x2 + 1)), (3, iv x3)]) X [1, 2, 0, 3] dX11_grows_134 (q := 2) rfl (by decide) rfl ?_
  exact wkj_X11_grows_137 X hr hJ21 hw
set_option maxHeartbeats 4000000 in
set_option maxRecDepth 100000 in
theorem wkj_X11_grows_119 {p : Program} {l : Launch} {e : Env} {s : State} {m : MethodId} {args : Array Value} {below : List Frame} {meth : Method} {c : Code} {D : va_G} {g : GT} {A : Nat → Prop} {a : Nat → Nat} {b : Nat → Nat → Nat} (X : vC p s m args meth c D g A RX11 wsX11_grows cX11_grows 4) (hr : meth.sig.returnType = (some .int)) {p0 : Int} {x2 : Int} {x3 : Int} {s0 : Int} {M : Mem} {J21 : Int → Int → Mem → Prop} {Q : Int → Mem → Prop} (hJ21 : ∀ (x2 : Int) (x3 : Int) (M : Mem), J21 x2 x3 M → vV p l e ({ frames := 1, cells := 0, slots := 0, locals := 25 } : Room) s m args below meth c D g A a b 4 0 0 (MQ below (cQi D g A a b Q) args s 0 0 A) M [(0, .ref (a 13)), (1, iv p0), (2, iv x2), (3, iv x3)] 21 []) (hw : wpj_X11_grows_119 p0 x2 x3 s0 M J21 Q) : vV p l e ({ frames := 1, cells := 0, slots := 0, locals := 25 } : Room) s m args below meth c D g A a b 4 0 0 (MQ below (cQi D g A a b Q) args s 0 0 A) M [(0, .ref (a 13)), (1, iv p0), (2, iv x2), (3, iv x3)] 119 [iv s0, .ref (b 13 19)] := by
  unfold wpj_X11_grows_119 at hw
  refine V_aload_n X dX11_grows_119 rfl (q := 0) rfl ?_
  refine V_get (C := RX11) (T := TX11) (N := 24) (ci := 11) X hi_X11_grows_11 gO_13 rfl 3 (by decide) lk_X11_grows_f19 (fun _ h9 => h9) rfl dX11_grows_120 ?_
  refine V_bipush X dX11_grows_123 rfl ?_
  refine V_aload_n X dX11_grows_125 rfl (q := 0) rfl ?_
  refine V_get (C := RX11) (T := TX11) (N := 24) (ci := 11) X hi_X11_grows_11 gO_13 rfl 20 (by decide) lk_X11_grows_f185 (fun _ h9 => h9) rfl dX11_grows_126 ?_
  refine V_imul X dX11_grows_129 ?_
  refine V_iload_n X dX11_grows_130 rfl (q := 3) rfl ?_
  refine V_iadd X dX11_grows_131 ?_
  obtain ⟨h32, hw⟩ := hw
  refine V_iald X (gA_13_3) h32 (by decide) dX11_grows_132 ?_
  exact wkj_X11_grows_133 X hr hJ21 hw
set_option maxHeartbeats 4000000 in
set_option maxRecDepth 100000 in
theorem wkj_X11_grows_73 {p : Program} {l : Launch} {e : Env} {s : State} {m : MethodId} {args : Array Value} {below : List Frame} {meth : Method} {c : Code} {D : va_G} {g : GT} {A : Nat → Prop} {a : Nat → Nat} {b : Nat → Nat → Nat} (X : vC p s m args meth c D g A RX11 wsX11_grows cX11_grows 4) (hr : meth.sig.returnType = (some .int)) {p0 : Int} {x2 : Int} {x3 : Int} {M : Mem} {J21 : Int → Int → Mem → Prop} {Q : Int → Mem → Prop} (hJ21 : ∀ (x2 : Int) (x3 : Int) (M : Mem), J21 x2 x3 M → vV p l e ({ frames := 1, cells := 0, slots := 0, locals := 25 } : Room) s m args below meth c D g A a b 4 0 0 (MQ below (cQi D g A a b Q) args s 0 0 A) M [(0, .ref (a 13)), (1, iv p0), (2, iv x2), (3, iv x3)] 21 []) (hw : wpj_X11_grows_73 p0 x2 x3 M J21 Q) : vV p l e ({ frames := 1, cells := 0, slots := 0, locals := 25 } : Room) s m args below meth c D g A a b 4 0 0 (MQ below (cQi D g A a b Q) args s 0 0 A) M [(0, .ref (a 13)), (1, iv p0), (2, iv x2), (3, iv x3)] 73 [] := by
  unfold wpj_X11_grows_73 at hw
  refine V_aload_n X dX11_grows_73 rfl (q := 0) rfl ?_
  refine V_get (C := RX11) (T := TX11) (N := 24) (ci := 11) X hi_X11_grows_11 gO_13 rfl 18 (by decide) lk_X11_grows_f60 (fun _ h9 => h9) rfl dX11_grows_74 ?_
  refine V_iload_n X dX11_grows_77 rfl (q := 2) rfl ?_
  refine V_iload_n X dX11_grows_78 rfl (q := 3) rfl ?_
  obtain ⟨h23, hw⟩ := hw
  refine V_iast X (gA_13_18) (sA_13_18) h23 (by decide) dX11_grows_79 (fun M22 eM22 => ?_)
  have hw := hw M22 eM22
  refine V_aload_n X dX11_grows_80 rfl (q := 0) rfl ?_
  refine V_get (C := RX11) (T := TX11) (N := 24) (ci := 11) X hi_X11_grows_11 gO_13 rfl 19 (by decide) lk_X11_grows_f63 (fun _ h9 => h9) rfl dX11_grows_81 ?_
  refine V_iload_n X dX11_grows_84 rfl (q := 2) rfl ?_
  refine V_aload_n X dX11_grows_85 rfl (q := 0) rfl ?_
  refine V_get (C := RX11) (T := TX11) (N := 24) (ci := 11) X hi_X11_grows_11 gO_13 rfl 20 (by decide) lk_X11_grows_f185 (fun _ h9 => h9) rfl dX11_grows_86 ?_
  obtain ⟨h24, hw⟩ := hw
  refine V_if_ne (tgt := 119) X h24 dX11_grows_89 (by decide) (fun q25 => ?_) (fun q25 => ?_)
  · have hw := hw.1 q25
    exact wkj_X11_grows_119 X hr hJ21 hw
  · have hw := hw.2 q25
    refine V_aload_n X dX11_grows_92 rfl (q := 0) rfl ?_
    refine V_iload_n X dX11_grows_93 rfl (q := 1) rfl ?_
    refine V_iconst X dX11_grows_94 ?_
    refine V_iload_n X dX11_grows_95 rfl (q := 3) rfl ?_
    refine V_callV_i X _ gO_13 rfl (As := [iv p0, iv 1, iv x3]) (st := [iv x2, .ref (b 13 19)]) (c_X11_does l hw) (cwV 3 X.2.2.2.1 gX11_grows_X11_does rfl rfl rfl (by decide +kernel) ⟨Nat.le_of_ble_eq_true rfl, Nat.le_of_ble_eq_true rfl⟩) rfl (Nat.le_of_ble_eq_true rfl) ⟨Nat.le_of_ble_eq_true rfl, Nat.le_of_ble_eq_true rfl⟩ rfl dX11_grows_96 (fun y26 M27 hw => ?_)
    obtain ⟨h28, hw⟩ := hw
    refine V_if_eq (tgt := 119) X h28 dX11_grows_99 (by decide) (fun q29 => ?_) (fun q29 => ?_)
    · have hw := hw.1 q29
      exact wkj_X11_grows_119 X hr hJ21 hw
    · have hw := hw.2 q29
      refine V_aload_n X dX11_grows_102 rfl (q := 0) rfl ?_
      refine V_get (C := RX11) (T := TX11) (N := 24) (ci := 11) X hi_X11_grows_11 gO_13 rfl 3 (by decide) lk_X11_grows_f19 (fun _ h9 => h9) rfl dX11_grows_103 ?_
      refine V_bipush X dX11_grows_106 rfl ?_
      refine V_aload_n X dX11_grows_108 rfl (q := 0) rfl ?_
      refine V_get (C := RX11) (T := TX11) (N := 24) (ci := 11) X hi_X11_grows_11 gO_13 rfl 9 (by decide) lk_X11_grows_f38 (fun _ h9 => h9) rfl dX11_grows_109 ?_
      refine V_iload_n X dX11_grows_112 rfl (q := 3) rfl ?_
      obtain ⟨h30, hw⟩ := hw
      refine V_iald X (gA_13_9) h30 (by decide) dX11_grows_113 ?_
      refine V_iadd X dX11_grows_114 ?_
      obtain ⟨h31, hw⟩ := hw
      refine V_iald X (gA_13_3) h31 (by decide) dX11_grows_115 ?_
      refine V_goto (tgt := 133) X dX11_grows_116 (by decide) ?_
      exact wkj_X11_grows_133 X hr hJ21 hw
set_option maxHeartbeats 4000000 in
set_option maxRecDepth 100000 in
theorem wkh_X11_grows_21 {p : Program} {l : Launch} {e : Env} {s : State} {m : MethodId} {args : Array Value} {below : List Frame} {meth : Method} {c : Code} {D : va_G} {g : GT} {A : Nat → Prop} {a : Nat → Nat} {b : Nat → Nat → Nat} (X : vC p s m args meth c D g A RX11 wsX11_grows cX11_grows 4) (hr : meth.sig.returnType = (some .int)) {p0 : Int} {x2 : Int} {x3 : Int} {M : Mem} {J21 : Int → Int → Mem → Prop} {Q : Int → Mem → Prop} (hJ21 : ∀ (x2 : Int) (x3 : Int) (M : Mem), J21 x2 x3 M → vV p l e ({ frames := 1, cells := 0, slots := 0, locals := 25 } : Room) s m args below meth c D g A a b 4 0 0 (MQ below (cQi D g A a b Q) args s 0 0 A) M [(0, .ref (a 13)), (1, iv p0), (2, iv x2), (3, iv x3)] 21 []) (hw : wph_X11_grows_21 p0 x2 x3 M J21 Q) : vV p l e ({ frames := 1, cells := 0, slots := 0, locals := 25 } : Room) s m args below meth c D g A a b 4 0 0 (MQ below (cQi D g A a b Q) args s 0 0 A) M [(0, .ref (a 13)), (1, iv p0), (2, iv x2), (3, iv x3)] 21 [] := by
  unfold wph_X11_grows_21 at hw
  refine V_iload_n X dX11_grows_21 rfl (q := 3) rfl ?_
  refine V_aload_n X dX11_grows_22 rfl (q := 0) rfl ?_
  refine V_get (C := RX11) (T := TX11) (N := 24) (ci := 11) X hi_X11_grows_11 gO_13 rfl 5 (by decide) lk_X11_grows_f25 (fun _ h9 => h9) rfl dX11_grows_23 ?_
  refine V_aload_n X dX11_grows_26 rfl (q := 0) rfl ?_
  refine V_get (C := RX11) (T := TX11) (N := 24) (ci := 11) X hi_X11_grows_11 gO_13 rfl 20 (by decide) lk_X11_grows_f185 (fun _ h9 => h9) rfl dX11_grows_27 ?_
  obtain ⟨h5, hw⟩ := hw
  refine V_iald X (gA_13_5) h5 (by decide) dX11_grows_30 ?_
  obtain ⟨h6, h7, hw⟩ := hw
  refine V_icmp_ge (tgt := 143) X h6 h7 dX11_grows_31 (by decide) (fun q8 => ?_) (fun q8 => ?_)
  · have hw := hw.1 q8
    refine V_iload_n X dX11_grows_143 rfl (q := 2) rfl ?_
    exact V_iret X hr hw dX11_grows_144
  · have hw := hw.2 q8
    refine V_aload_n X dX11_grows_34 rfl (q := 0) rfl ?_
    refine V_get (C := RX11) (T := TX11) (N := 24) (ci := 11) X hi_X11_grows_11 gO_13 rfl 20 (by decide) lk_X11_grows_f185 (fun _ h9 => h9) rfl dX11_grows_35 ?_
    obtain ⟨h9, hw⟩ := hw
    refine V_if_ne (tgt := 54) X h9 dX11_grows_38 (by decide) (fun q10 => ?_) (fun q10 => ?_)
    · have hw := hw.1 q10
      refine V_aload_n X dX11_grows_54 rfl (q := 0) rfl ?_
      refine V_get (C := RX11) (T := TX11) (N := 24) (ci := 11) X hi_X11_grows_11 gO_13 rfl 11 (by decide) lk_X11_grows_f44 (fun _ h9 => h9) rfl dX11_grows_55 ?_
      refine V_iload_n X dX11_grows_58 rfl (q := 3) rfl ?_
      obtain ⟨h11, hw⟩ := hw
      refine V_zald X (gA_13_11) h11 (by decide) dX11_grows_59 ?_
      obtain ⟨h12, hw⟩ := hw
      refine V_if_ne (tgt := 73) X h12 dX11_grows_60 (by decide) (fun q13 => ?_) (fun q13 => ?_)
      · have hw := hw.1 q13
        exact wkj_X11_grows_73 X hr hJ21 hw
      · have hw := hw.2 q13
        refine V_aload_n X dX11_grows_63 rfl (q := 0) rfl ?_
        refine V_iload_n X dX11_grows_64 rfl (q := 1) rfl ?_
        refine V_iconst X dX11_grows_65 ?_
        refine V_iload_n X dX11_grows_66 rfl (q := 3) rfl ?_
        refine V_callV_i X _ gO_13 rfl (As := [iv p0, iv 2, iv x3]) (st := []) (c_X11_does l hw) (cwV 3 X.2.2.2.1 gX11_grows_X11_does rfl rfl rfl (by decide +kernel) ⟨Nat.le_of_ble_eq_true rfl, Nat.le_of_ble_eq_true rfl⟩) rfl (Nat.le_of_ble_eq_true rfl) ⟨Nat.le_of_ble_eq_true rfl, Nat.le_of_ble_eq_true rfl⟩ rfl dX11_grows_67 (fun y14 M15 hw => ?_)
        obtain ⟨h16, hw⟩ := hw
        refine V_if_eq (tgt := 137) X h16 dX11_grows_70 (by decide) (fun q17 => ?_) (fun q17 => ?_)
        · have hw := hw.1 q17
          exact wkj_X11_grows_137 X hr hJ21 hw
        · have hw := hw.2 q17
          exact wkj_X11_grows_73 X hr hJ21 hw
    · have hw := hw.2 q10
      refine V_aload_n X dX11_grows_41 rfl (q := 0) rfl ?_
      refine V_iload_n X dX11_grows_42 rfl (q := 1) rfl ?_
      refine V_iconst X dX11_grows_43 ?_
      refine V_iload_n X dX11_grows_44 rfl (q := 3) rfl ?_
      refine V_callV_i X _ gO_13 rfl (As := [iv p0, iv 0, iv x3]) (st := []) (c_X11_does l hw) (cwV 3 X.2.2.2.1 gX11_grows_X11_does rfl rfl rfl (by decide +kernel) ⟨Nat.le_of_ble_eq_true rfl, Nat.le_of_ble_eq_true rfl⟩) rfl (Nat.le_of_ble_eq_true rfl) ⟨Nat.le_of_ble_eq_true rfl, Nat.le_of_ble_eq_true rfl⟩ rfl dX11_grows_45 (fun y18 M19 hw => ?_)
      obtain ⟨h20, hw⟩ := hw
      refine V_if_ne (tgt := 137) X h20 dX11_grows_48 (by decide) (fun q21 => ?_) (fun q21 => ?_)
      · have hw := hw.1 q21
        exact wkj_X11_grows_137 X hr hJ21 hw
      · have hw := hw.2 q21
        refine V_goto (tgt := 73) X dX11_grows_51 (by decide) ?_
        exact wkj_X11_grows_73 X hr hJ21 hw
set_option maxHeartbeats 4000000 in
set_option maxRecDepth 100000 in
theorem wkj_X11_grows_14 {p : Program} {l : Launch} {e : Env} {s : State} {m : MethodId} {args : Array Value} {below : List Frame} {meth : Method} {c : Code} {D : va_G} {g : GT} {A : Nat → Prop} {a : Nat → Nat} {b : Nat → Nat → Nat} (X : vC p s m args meth c D g A RX11 wsX11_grows cX11_grows 4) (hr : meth.sig.returnType = (some .int)) {p0 : Int} {s0 : Int} {M : Mem} {J21 : Int → Int → Mem → Prop} {Q : Int → Mem → Prop} (hJ21 : ∀ (x2 : Int) (x3 : Int) (M : Mem), J21 x2 x3 M → vV p l e ({ frames := 1, cells := 0, slots := 0, locals := 25 } : Room) s m args below meth c D g A a b 4 0 0 (MQ below (cQi D g A a b Q) args s 0 0 A) M [(0, .ref (a 13)), (1, iv p0), (2, iv x2), (3, iv x3)] 21 []) (hw : wpj_X11_grows_14 p0 s0 M J21 Q) : vV p l e ({ frames := 1, cells := 0, slots := 0, locals := 25 } : Room) s m args below meth c D g A a b 4 0 0 (MQ below (cQi D g A a b Q) args s 0 0 A) M [(0, .ref (a 13)), (1, iv p0)] 14 [iv s0, .ref (a 13)] := by
  unfold wpj_X11_grows_14 at hw
  refine V_put (C := RX11) (T := TX11) (N := 24) (ci := 11) X hi_X11_grows_11 gO_13 rfl 20 (by decide) tyX11 tyX11_ok nmX11 rfl (tyX11_ok 20 (by decide)) (Or.inl rfl) (show 20 < 24 from by decide) sI_13_20 lk_X11_grows_f185 (fun _ h9 => h9) dX11_grows_14 (fun M4 eM4 => ?_)
  have hw := hw M4 eM4
  refine V_iconst X dX11_grows_17 ?_
  refine V_istore_n (lv1 := [(0, .ref (a 13)), (1, iv p0), (2, iv 0)]) X [1, 2, 0] dX11_grows_18 rfl (by decide) rfl ?_
  refine V_iconst X dX11_grows_19 ?_
  refine V_istore_n (lv1 := [(0, .ref (a 13)), (1, iv p0), (2, iv 0), (3, iv 0)]) X [1, 2, 3, 0] dX11_grows_20 rfl (by decide) rfl ?_
  exact hJ21 _ _ _ hw
set_option maxHeartbeats 4000000 in
set_option maxRecDepth 100000 in
theorem wke_X11_grows {p : Program} {l : Launch} {e : Env} {s : State} {m : MethodId} {args : Array Value} {below : List Frame} {meth : Method} {c : Code} {D : va_G} {g : GT} {A : Nat → Prop} {a : Nat → Nat} {b : Nat → Nat → Nat} (X : vC p s m args meth c D g A RX11 wsX11_grows cX11_grows 4) (hr : meth.sig.returnType = (some .int)) {p0 : Int} {M : Mem} {J21 : Int → Int → Mem → Prop} {Q : Int → Mem → Prop} (hJ21 : ∀ (x2 : Int) (x3 : Int) (M : Mem), J21 x2 x3 M → vV p l e ({ frames := 1, cells := 0, slots := 0, locals := 25 } : Room) s m args below meth c D g A a b 4 0 0 (MQ below (cQi D g A a b Q) args s 0 0 A) M [(0, .ref (a 13)), (1, iv p0), (2, iv x2), (3, iv x3)] 21 []) (hw : wpe_X11_grows p0 M J21 Q) : vV p l e ({ frames := 1, cells := 0, slots := 0, locals := 25 } : Room) s m args below meth c D g A a b 4 0 0 (MQ below (cQi D g A a b Q) args s 0 0 A) M [(0, .ref (a 13)), (1, iv p0)] 0 [] := by
  unfold wpe_X11_grows at hw
  refine V_aload_n X dX11_grows_0 rfl (q := 0) rfl ?_
  refine V_iload_n X dX11_grows_1 rfl (q := 1) rfl ?_
  refine V_aload_n X dX11_grows_2 rfl (q := 0) rfl ?_
  refine V_get (C := RX11) (T := TX11) (N := 24) (ci := 11) X hi_X11_grows_11 gO_13 rfl 17 (by decide) lk_X11_grows_f176 (fun _ h9 => h9) rfl dX11_grows_3 ?_
  obtain ⟨h1, h2, hw⟩ := hw
  refine V_icmp_gt (tgt := 13) X h1 h2 dX11_grows_6 (by decide) (fun q3 => ?_) (fun q3 => ?_)
  · have hw := hw.1 q3
    refine V_iconst X dX11_grows_13 ?_
    exact wkj_X11_grows_14 X hr hJ21 hw
  · have hw := hw.2 q3
    refine V_iconst X dX11_grows_9 ?_
    refine V_goto (tgt := 14) X dX11_grows_10 (by decide) ?_
    exact wkj_X11_grows_14 X hr hJ21 hw
set_option maxHeartbeats 4000000 in
set_option maxRecDepth 100000 in
theorem c_X11_grows (l : Launch) {p0 : Int} {D : va_G} {g : GT} {A : Nat → Prop} {a : Nat → Nat} {b : Nat → Nat → Nat} {M : Mem} {Q : Int → Mem → Prop} (hw : wp_X11_grows M p0 Q) : Met l yX11_grows wsX11_grows ({ frames := 1, cells := 0, slots := 0, locals := 25 } : Room) (cPc D g A a b M [.ref (a 13), iv p0]) (cQi D g A a b Q) 0 0 A := by
  refine Met.ofW (cc := cX11_grows) (maxL := 4) (ret := (some .int)) (by decide) rfl ?_
  intro p e s m args below meth c s₁ B hml hv
  obtain ⟨rfl, hP, hD, hG⟩ := hv
  have X : vC p s m _ meth c D g A RX11 wsX11_grows cX11_grows 4 := ⟨B.exec, B.bytes, findClass_of_methodNamed B.named, atoms_spec (ws := wsX11_grows) B.pre, hG, hml, B.notSynchronized⟩
  have hr := B.returns
  have hl := lv_entry ([.ref (a 13), iv p0]) (n := 4) (Nat.le_of_ble_eq_true rfl)
  rw [lg_entry_eq]
  generalize (lg_sl ([.ref (a 13), iv p0]) ++ List.replicate (4 - (lg_sl ([.ref (a 13), iv p0])).length) Slot.unset).toArray = ls at hl ⊢
  have hl : lv_has ls 4 [(0, .ref (a 13)), (1, iv p0)] := hl
  obtain ⟨I21, hw, hI21⟩ := hw
  have K : ∀ n : Nat, (∀ (x2 : Int) (x3 : Int) (M : Mem), I21 n x2 x3 M → vV p l e ({ frames := 1, cells := 0, slots := 0, locals := 25 } : Room) s m ([.ref (a 13), iv p0] : List Value).toArray below meth c D g A a b 4 0 0 (MQ below (cQi D g A a b Q) ([.ref (a 13), iv p0] : List Value).toArray s 0 0 A) M [(0, .ref (a 13)), (1, iv p0), (2, iv x2), (3, iv x3)] 21 []) := by
    intro n
    induction n using Nat.strongRecOn with
    | ind n ih =>
      exact fun x2 x3 M hh => wkh_X11_grows_21 X hr (fun _ _ _ ⟨n1, hn, hh⟩ => (ih n1 hn) _ _ _ hh) (hI21 n x2 x3 M hh)
  exact wke_X11_grows X hr  (fun _ _ _ ⟨n1, hh⟩ => (K n1) _ _ _ hh) hw s.heap [] ls hP hD va_S.rf hl

set_option maxRecDepth 20000 in
theorem ggX11_isGrown_X11_scripts : GoodIn wsX11_isGrown wsX11_scripts := goodIn_r _ [6, 1, 7, 8, 9, 10, 11, 12, 13, 14, 5, 15, 16, 17, 18, 19, 20, 21, 22, 23, 24, 25, 26, 27, 28, 29, 30, 31, 32, 33, 34, 35, 36, 37, 38, 39, 40, 41, 42, 43, 44, 45, 46, 47, 48, 49, 50, 51, 52, 53, 54, 55, 56, 57, 58, 59, 60, 61, 62, 63, 64, 65, 66, 67, 68, 69, 70, 71, 72, 73, 74, 75, 76, 77, 78, 98, 99, 100, 101, 102, 103, 104, 105, 106, 107, 108, 109, 110, 111, 112, 113, 114, 115, 116, 117, 118, 119, 120, 121] (by decide +kernel) (by decide +kernel)
set_option maxRecDepth 20000 in
theorem gX11_isGrown_X11_scripts : GoodIn wsX11_isGrown (wsV RX11 179 RX11 yX11_scripts wsX11_scripts) := goodIn_app (goodIn_of _ (by decide +kernel)) ggX11_isGrown_X11_scripts
set_option maxRecDepth 20000 in
theorem ggX11_isGrown_X11_in : GoodIn wsX11_isGrown wsX11_in := goodIn_r _ [81] (by decide +kernel) (by decide +kernel)
set_option maxRecDepth 20000 in
theorem gX11_isGrown_X11_in : GoodIn wsX11_isGrown (va_wsS RX11 75 yX11_in wsX11_in) := goodIn_app (goodIn_of _ (by decide +kernel)) ggX11_isGrown_X11_in
set_option maxRecDepth 20000 in
theorem ggX11_isGrown_X11_grows : GoodIn wsX11_isGrown wsX11_grows := goodIn_r _ [85, 10, 86, 7, 11, 87, 88, 9, 8, 89, 90, 91, 5, 92, 77, 78, 98, 99, 100, 101, 102, 103, 104, 105, 106, 107, 108, 109, 110, 111, 112, 113, 114, 115, 116, 117, 118, 119, 120, 121] (by decide +kernel) (by decide +kernel)
set_option maxRecDepth 20000 in
theorem gX11_isGrown_X11_grows : GoodIn wsX11_isGrown (wsV RX11 191 RX11 yX11_grows wsX11_grows) := goodIn_app (goodIn_of _ (by decide +kernel)) ggX11_isGrown_X11_grows
set_option maxRecDepth 20000 in
theorem ggX11_isGrown_X11_goes : GoodIn wsX11_isGrown wsX11_goes := goodIn_r _ [96, 97, 98, 99, 100, 101, 102, 103, 104, 105, 106, 107, 108, 109, 110, 111, 112, 113, 114, 115, 116, 117, 118, 119, 120, 121] (by decide +kernel) (by decide +kernel)
set_option maxRecDepth 20000 in
theorem gX11_isGrown_X11_goes : GoodIn wsX11_isGrown (wsV RX11 87 RX11 yX11_goes wsX11_goes) := goodIn_app (goodIn_of _ (by decide +kernel)) ggX11_isGrown_X11_goes
theorem dX11_isGrown_0 : decode cX11_isGrown 0 = .ok (.aload_n 0, 1) := by decide +kernel
theorem dX11_isGrown_1 : decode cX11_isGrown 1 = .ok (.invokevirtual 179, 3) := by decide +kernel
theorem dX11_isGrown_4 : decode cX11_isGrown 4 = .ok (.aload_n 0, 1) := by decide +kernel
theorem dX11_isGrown_5 : decode cX11_isGrown 5 = .ok (.iload_n 1, 1) := by decide +kernel
theorem dX11_isGrown_6 : decode cX11_isGrown 6 = .ok (.iconst 0, 1) := by decide +kernel
theorem dX11_isGrown_7 : decode cX11_isGrown 7 = .ok (.aload_n 0, 1) := by decide +kernel
theorem dX11_isGrown_8 : decode cX11_isGrown 8 = .ok (.getfield 169, 3) := by decide +kernel
theorem dX11_isGrown_11 : decode cX11_isGrown 11 = .ok (.invokestatic 75, 3) := by decide +kernel
theorem dX11_isGrown_14 : decode cX11_isGrown 14 = .ok (.ifCond .eq 22, 3) := by decide +kernel
theorem dX11_isGrown_17 : decode cX11_isGrown 17 = .ok (.iload_n 2, 1) := by decide +kernel
theorem dX11_isGrown_18 : decode cX11_isGrown 18 = .ok (.iconst 0, 1) := by decide +kernel
theorem dX11_isGrown_19 : decode cX11_isGrown 19 = .ok (.aload_n 0, 1) := by decide +kernel
theorem dX11_isGrown_20 : decode cX11_isGrown 20 = .ok (.iload_n 1, 1) := by decide +kernel
theorem dX11_isGrown_21 : decode cX11_isGrown 21 = .ok (.invokevirtual 191, 3) := by decide +kernel
theorem dX11_isGrown_24 : decode cX11_isGrown 24 = .ok (.iconst 1, 1) := by decide +kernel
theorem dX11_isGrown_25 : decode cX11_isGrown 25 = .ok (.isub, 1) := by decide +kernel
theorem dX11_isGrown_26 : decode cX11_isGrown 26 = .ok (.invokestatic 75, 3) := by decide +kernel
theorem dX11_isGrown_29 : decode cX11_isGrown 29 = .ok (.ifCond .eq 7, 3) := by decide +kernel
theorem dX11_isGrown_32 : decode cX11_isGrown 32 = .ok (.iconst 1, 1) := by decide +kernel
theorem dX11_isGrown_33 : decode cX11_isGrown 33 = .ok (.goto 4, 3) := by decide +kernel
theorem dX11_isGrown_36 : decode cX11_isGrown 36 = .ok (.iconst 0, 1) := by decide +kernel
theorem dX11_isGrown_37 : decode cX11_isGrown 37 = .ok (.iconst 1, 1) := by decide +kernel
theorem dX11_isGrown_38 : decode cX11_isGrown 38 = .ok (.iconst 1, 1) := by decide +kernel
theorem dX11_isGrown_39 : decode cX11_isGrown 39 = .ok (.invokevirtual 87, 3) := by decide +kernel
theorem dX11_isGrown_42 : decode cX11_isGrown 42 = .ok (.ireturn, 1) := by decide +kernel
theorem lk_X11_isGrown_f169 : Cond.fieldLink RX11 169 "TreeComparerModel" "steps" "I" ∈ wsX11_isGrown := by decide +kernel
theorem hi_X11_isGrown_11 : ∀ w ∈ u_ws RX11 TX11 24, w ∈ wsX11_isGrown := by decide +kernel
def wpj_X11_isGrown_37 (p0 : Int) (p1 : Int) (s0 : Int) (M : Mem) (Q : Int → Mem → Prop) : Prop := wp_X11_goes M s0 1 1 (fun y13 M14 => (y13 = 0 ∨ y13 = 1) ∧ Q y13 M14)
def wpj_X11_isGrown_36 (p0 : Int) (p1 : Int) (M : Mem) (Q : Int → Mem → Prop) : Prop := wpj_X11_isGrown_37 p0 p1 0 M Q
def wpe_X11_isGrown (p0 : Int) (p1 : Int) (M : Mem) (Q : Int → Mem → Prop) : Prop := wp_X11_scripts M (fun M2 => wp_X11_in M2 p0 0 ((M2 13 16 0)) (fun y3 M4 => inR y3 ∧ ((y3 = 0 → wpj_X11_isGrown_36 p0 p1 M4 Q) ∧ (¬ (y3 = 0) → wp_X11_grows M4 p0 (fun y7 M8 => wp_X11_in M8 p1 0 (y7 - 1) (fun y9 M10 => inR y9 ∧ ((y9 = 0 → wpj_X11_isGrown_36 p0 p1 M10 Q) ∧ (¬ (y9 = 0) → wpj_X11_isGrown_37 p0 p1 1 M10 Q))))))))
def wp_X11_isGrown (M : Mem) (p0 : Int) (p1 : Int) (Q : Int → Mem → Prop) : Prop := wpe_X11_isGrown p0 p1 M Q
set_option maxHeartbeats 4000000 in
set_option maxRecDepth 100000 in
theorem wkj_X11_isGrown_37 {p : Program} {l : Launch} {e : Env} {s : State} {m : MethodId} {args : Array Value} {below : List Frame} {meth : Method} {c : Code} {D : va_G} {g : GT} {A : Nat → Prop} {a : Nat → Nat} {b : Nat → Nat → Nat} (X : vC p s m args meth c D g A RX11 wsX11_isGrown cX11_isGrown 3) (hr : meth.sig.returnType = (some .boolean)) {p0 : Int} {p1 : Int} {s0 : Int} {M : Mem} {Q : Int → Mem → Prop} (hw : wpj_X11_isGrown_37 p0 p1 s0 M Q) : vV p l e ({ frames := 6, cells := 0, slots := 0, locals := 149 } : Room) s m args below meth c D g A a b 3 0 0 (MQ below (cQi D g A a b Q) args s 0 0 A) M [] 37 [iv s0, .ref (a 13)] := by
  unfold wpj_X11_isGrown_37 at hw
  refine V_iconst X dX11_isGrown_37 ?_
  refine V_iconst X dX11_isGrown_38 ?_
  refine V_callV_i X _ gO_13 rfl (As := [iv s0, iv 1, iv 1]) (st := []) (c_X11_goes l hw) (cwV 3 X.2.2.2.1 gX11_isGrown_X11_goes rfl rfl rfl (by decide +kernel) ⟨Nat.le_of_ble_eq_true rfl, Nat.le_of_ble_eq_true rfl⟩) rfl (Nat.le_of_ble_eq_true rfl) ⟨Nat.le_of_ble_eq_true rfl, Nat.le_of_ble_eq_true rfl⟩ rfl dX11_isGrown_39 (fun y13 M14 hw => ?_)
  obtain ⟨h15, hw⟩ := hw
  exact V_zret X hr h15 hw dX11_isGrown_42
set_option maxHeartbeats 4000000 in
set_option maxRecDepth 100000 in
theorem wkj_X11_isGrown_36 {p : Program} {l : Launch} {e : Env} {s : State} {m : MethodId} {args : Array Value} {below : List Frame} {meth : Method} {c : Code} {D : va_G} {g : GT} {A : Nat → Prop} {a : Nat → Nat} {b : Nat → Nat → Nat} (X : vC p s m args meth c D g A RX11 wsX11_isGrown cX11_isGrown 3) (hr : meth.sig.returnType = (some .boolean)) {p0 : Int} {p1 : Int} {M : Mem} {Q : Int → Mem → Prop} (hw : wpj_X11_isGrown_36 p0 p1 M Q) : vV p l e ({ frames := 6, cells := 0, slots := 0, locals := 149 } : Room) s m args below meth c D g A a b 3 0 0 (MQ below (cQi D g A a b Q) args s 0 0 A) M [] 36 [.ref (a 13)] := by
  unfold wpj_X11_isGrown_36 at hw
  refine V_iconst X dX11_isGrown_36 ?_
  exact wkj_X11_isGrown_37 X hr hw
set_option maxHeartbeats 4000000 in
set_option maxRecDepth 100000 in
theorem wke_X11_isGrown {p : Program} {l : Launch} {e : Env} {s : State} {m : MethodId} {args : Array Value} {below : List Frame} {meth : Method} {c : Code} {D : va_G} {g : GT} {A : Nat → Prop} {a : Nat → Nat} {b : Nat → Nat → Nat} (X : vC p s m args meth c D g A RX11 wsX11_isGrown cX11_isGrown 3) (hr : meth.sig.returnType = (some .boolean)) {p0 : Int} {p1 : Int} {M : Mem} {Q : Int → Mem → Prop} (hw : wpe_X11_isGrown p0 p1 M Q) : vV p l e ({ frames := 6, cells := 0, slots := 0, locals := 149 } : Room) s m args below meth c D g A a b 3 0 0 (MQ below (cQi D g A a b Q) args s 0 0 A) M [(0, .ref (a 13)), (1, iv p0), (2, iv p1)] 0 [] := by
  unfold wpe_X11_isGrown at hw
  refine V_aload_n X dX11_isGrown_0 rfl (q := 0) rfl ?_
  refine V_callV_v X _ gO_13 rfl (As := []) (st := []) (c_X11_scripts l hw) (cwV 0 X.2.2.2.1 gX11_isGrown_X11_scripts rfl rfl rfl (by decide +kernel) ⟨Nat.le_of_ble_eq_true rfl, Nat.le_of_ble_eq_true rfl⟩) rfl (Nat.le_of_ble_eq_true rfl) ⟨Nat.le_of_ble_eq_true rfl, Nat.le_of_ble_eq_true rfl⟩ rfl dX11_isGrown_1 (fun M2 hw => ?_)
  refine V_aload_n X dX11_isGrown_4 rfl (q := 0) rfl ?_
  refine V_iload_n X dX11_isGrown_5 rfl (q := 1) rfl ?_
  refine V_iconst X dX11_isGrown_6 ?_
  refine V_aload_n X dX11_isGrown_7 rfl (q := 0) rfl ?_
  refine V_get (C := RX11) (T := TX11) (N := 24) (ci := 11) X hi_X11_isGrown_11 gO_13 rfl 16 (by decide) lk_X11_isGrown_f169 (fun _ h9 => h9) rfl dX11_isGrown_8 ?_
  refine V_callS_i X _ (As := [iv p0, iv 0, iv ((M2 13 16 0))]) (st := [.ref (a 13)]) (c_X11_in l hw) (va_cwS 3 X.2.2.2.1 gX11_isGrown_X11_in rfl rfl rfl (by decide +kernel) ⟨Nat.le_of_ble_eq_true rfl, Nat.le_of_ble_eq_true rfl⟩) rfl (Nat.le_of_ble_eq_true rfl) ⟨Nat.le_of_ble_eq_true rfl, Nat.le_of_ble_eq_true rfl⟩ rfl dX11_isGrown_11 (fun y3 M4 hw => ?_)
  obtain ⟨h5, hw⟩ := hw
  refine V_if_eq (tgt := 36) X h5 dX11_isGrown_14 (by decide) (fun q6 => ?_) (fun q6 => ?_)
  · have hw := hw.1 q6
    refine V_sub (lv1 := []) [] rfl ?_
    exact wkj_X11_isGrown_36 X hr hw
  · have hw := hw.2 q6
    refine V_iload_n X dX11_isGrown_17 rfl (q := 2) rfl ?_
    refine V_iconst X dX11_isGrown_18 ?_
    refine V_aload_n X dX11_isGrown_19 rfl (q := 0) rfl ?_
    refine V_iload_n X dX11_isGrown_20 rfl (q := 1) rfl ?_
    refine V_callV_i X _ gO_13 rfl (As := [iv p0]) (st := [iv 0, iv p1, .ref (a 13)]) (c_X11_grows l hw) (cwV 1 X.2.2.2.1 gX11_isGrown_X11_grows rfl rfl rfl (by decide +kernel) ⟨Nat.le_of_ble_eq_true rfl, Nat.le_of_ble_eq_true rfl⟩) rfl (Nat.le_of_ble_eq_true rfl) ⟨Nat.le_of_ble_eq_true rfl, Nat.le_of_ble_eq_true rfl⟩ rfl dX11_isGrown_21 (fun y7 M8 hw => ?_)
    refine V_iconst X dX11_isGrown_24 ?_
    refine V_isub X dX11_isGrown_25 ?_
    refine V_callS_i X _ (As := [iv p1, iv 0, iv (y7 - 1)]) (st := [.ref (a 13)]) (c_X11_in l hw) (va_cwS 3 X.2.2.2.1 gX11_isGrown_X11_in rfl rfl rfl (by decide +kernel) ⟨Nat.le_of_ble_eq_true rfl, Nat.le_of_ble_eq_true rfl⟩) rfl (Nat.le_of_ble_eq_true rfl) ⟨Nat.le_of_ble_eq_true rfl, Nat.le_of_ble_eq_true rfl⟩ rfl dX11_isGrown_26 (fun y9 M10 hw => ?_)
    obtain ⟨h11, hw⟩ := hw
    refine V_if_eq (tgt := 36) X h11 dX11_isGrown_29 (by decide) (fun q12 => ?_) (fun q12 => ?_)
    · have hw := hw.1 q12
      refine V_sub (lv1 := []) [] rfl ?_
      exact wkj_X11_isGrown_36 X hr hw
    · have hw := hw.2 q12
      refine V_iconst X dX11_isGrown_32 ?_
      refine V_goto (tgt := 37) X dX11_isGrown_33 (by decide) ?_
      refine V_sub (lv1 := []) [] rfl ?_
      exact wkj_X11_isGrown_37 X hr hw
set_option maxHeartbeats 4000000 in
set_option maxRecDepth 100000 in
theorem c_X11_isGrown (l : Launch) {p0 : Int} {p1 : Int} {D : va_G} {g : GT} {A : Nat → Prop} {a : Nat → Nat} {b : Nat → Nat → Nat} {M : Mem} {Q : Int → Mem → Prop} (hw : wp_X11_isGrown M p0 p1 Q) : Met l yX11_isGrown wsX11_isGrown ({ frames := 6, cells := 0, slots := 0, locals := 149 } : Room) (cPc D g A a b M [.ref (a 13), iv p0, iv p1]) (cQi D g A a b Q) 0 0 A := by
  refine Met.ofW (cc := cX11_isGrown) (maxL := 3) (ret := (some .boolean)) (by decide) rfl ?_
  intro p e s m args below meth c s₁ B hml hv
  obtain ⟨rfl, hP, hD, hG⟩ := hv
  have X : vC p s m _ meth c D g A RX11 wsX11_isGrown cX11_isGrown 3 := ⟨B.exec, B.bytes, findClass_of_methodNamed B.named, atoms_spec (ws := wsX11_isGrown) B.pre, hG, hml, B.notSynchronized⟩
  have hr := B.returns
  have hl := lv_entry ([.ref (a 13), iv p0, iv p1]) (n := 3) (Nat.le_of_ble_eq_true rfl)
  rw [lg_entry_eq]
  generalize (lg_sl ([.ref (a 13), iv p0, iv p1]) ++ List.replicate (3 - (lg_sl ([.ref (a 13), iv p0, iv p1])).length) Slot.unset).toArray = ls at hl ⊢
  have hl : lv_has ls 3 [(0, .ref (a 13)), (1, iv p0), (2, iv p1)] := hl
  exact wke_X11_isGrown X hr  hw s.heap [] ls hP hD va_S.rf hl

set_option maxRecDepth 20000 in
theorem ggX11_labelAfter_X11_isGrown : GoodIn wsX11_labelAfter wsX11_isGrown := goodIn_r _ [6, 7, 8, 9, 10, 5, 11, 12, 13, 14, 15, 16, 17, 18, 19, 20, 21, 22, 23, 24, 25, 26, 27, 28, 29, 30, 31, 32, 33, 34, 35, 36, 37, 38, 39, 40, 41, 42, 43, 44, 45, 46, 47, 48, 49, 50, 51, 52, 53, 54, 55, 56, 57, 58, 59, 60, 61, 62, 63, 64, 65, 66, 67, 68, 69, 70, 71, 72, 73, 74, 75, 76, 77, 78, 79, 80, 81, 82, 83, 84, 85, 86, 87, 88, 89, 90, 91, 92, 1, 93, 94, 95, 96, 97, 98, 99, 100, 101, 102, 103, 104, 105, 106, 107, 108, 109, 110, 111, 112, 113, 114, 115, 116, 117, 118, 119, 120, 121, 122, 123, 124, 125] (by decide +kernel) (by decide +kernel)
set_option maxRecDepth 20000 in
theorem gX11_labelAfter_X11_isGrown : GoodIn wsX11_labelAfter (wsV RX11 195 RX11 yX11_isGrown wsX11_isGrown) := goodIn_app (goodIn_of _ (by decide +kernel)) ggX11_labelAfter_X11_isGrown
theorem dX11_labelAfter_0 : decode cX11_labelAfter 0 = .ok (.aload_n 0, 1) := by decide +kernel
theorem dX11_labelAfter_1 : decode cX11_labelAfter 1 = .ok (.iload_n 1, 1) := by decide +kernel
theorem dX11_labelAfter_2 : decode cX11_labelAfter 2 = .ok (.iload_n 2, 1) := by decide +kernel
theorem dX11_labelAfter_3 : decode cX11_labelAfter 3 = .ok (.invokevirtual 195, 3) := by decide +kernel
theorem dX11_labelAfter_6 : decode cX11_labelAfter 6 = .ok (.ifCond .eq 12, 3) := by decide +kernel
theorem dX11_labelAfter_9 : decode cX11_labelAfter 9 = .ok (.aload_n 0, 1) := by decide +kernel
theorem dX11_labelAfter_10 : decode cX11_labelAfter 10 = .ok (.getfield 63, 3) := by decide +kernel
theorem dX11_labelAfter_13 : decode cX11_labelAfter 13 = .ok (.iload_n 2, 1) := by decide +kernel
theorem dX11_labelAfter_14 : decode cX11_labelAfter 14 = .ok (.iaload, 1) := by decide +kernel
theorem dX11_labelAfter_15 : decode cX11_labelAfter 15 = .ok (.goto 4, 3) := by decide +kernel
theorem dX11_labelAfter_18 : decode cX11_labelAfter 18 = .ok (.iconst 0, 1) := by decide +kernel
theorem dX11_labelAfter_19 : decode cX11_labelAfter 19 = .ok (.ireturn, 1) := by decide +kernel
theorem lk_X11_labelAfter_f63 : Cond.fieldLink RX11 63 "TreeComparerModel" "woodLabel" "[I" ∈ wsX11_labelAfter := by decide +kernel
theorem hi_X11_labelAfter_11 : ∀ w ∈ u_ws RX11 TX11 24, w ∈ wsX11_labelAfter := by decide +kernel
def wpe_X11_labelAfter (p0 : Int) (p1 : Int) (M : Mem) (Q : Int → Mem → Prop) : Prop := wp_X11_isGrown M p0 p1 (fun y1 M2 => inR y1 ∧ ((y1 = 0 → Q 0 M2) ∧ (¬ (y1 = 0) → ((0 : Int) ≤ p1 ∧ p1 < 12) ∧ Q ((M2 13 19 p1.toNat)) M2)))
def wp_X11_labelAfter (M : Mem) (p0 : Int) (p1 : Int) (Q : Int → Mem → Prop) : Prop := wpe_X11_labelAfter p0 p1 M Q
set_option maxHeartbeats 4000000 in
set_option maxRecDepth 100000 in
theorem wke_X11_labelAfter {p : Program} {l : Launch} {e : Env} {s : State} {m : MethodId} {args : Array Value} {below : List Frame} {meth : Method} {c : Code} {D : va_G} {g : GT} {A : Nat → Prop} {a : Nat → Nat} {b : Nat → Nat → Nat} (X : vC p s m args meth c D g A RX11 wsX11_labelAfter cX11_labelAfter 3) (hr : meth.sig.returnType = (some .int)) {p0 : Int} {p1 : Int} {M : Mem} {Q : Int → Mem → Prop} (hw : wpe_X11_labelAfter p0 p1 M Q) : vV p l e ({ frames := 7, cells := 0, slots := 0, locals := 171 } : Room) s m args below meth c D g A a b 3 0 0 (MQ below (cQi D g A a b Q) args s 0 0 A) M [(0, .ref (a 13)), (1, iv p0), (2, iv p1)] 0 [] := by
  unfold wpe_X11_labelAfter at hw
  refine V_aload_n X dX11_labelAfter_0 rfl (q := 0) rfl ?_
  refine V_iload_n X dX11_labelAfter_1 rfl (q := 1) rfl ?_
  refine V_iload_n X dX11_labelAfter_2 rfl (q := 2) rfl ?_
  refine V_callV_i X _ gO_13 rfl (As := [iv p0, iv p1]) (st := []) (c_X11_isGrown l hw) (cwV 2 X.2.2.2.1 gX11_labelAfter_X11_isGrown rfl rfl rfl (by decide +kernel) ⟨Nat.le_of_ble_eq_true rfl, Nat.le_of_ble_eq_true rfl⟩) rfl (Nat.le_of_ble_eq_true rfl) ⟨Nat.le_of_ble_eq_true rfl, Nat.le_of_ble_eq_true rfl⟩ rfl dX11_labelAfter_3 (fun y1 M2 hw => ?_)
  obtain ⟨h3, hw⟩ := hw
  refine V_if_eq (tgt := 18) X h3 dX11_labelAfter_6 (by decide) (fun q4 => ?_) (fun q4 => ?_)
  · have hw := hw.1 q4
    refine V_iconst X dX11_labelAfter_18 ?_
    exact V_iret X hr hw dX11_labelAfter_19
  · have hw := hw.2 q4
    refine V_aload_n X dX11_labelAfter_9 rfl (q := 0) rfl ?_
    refine V_get (C := RX11) (T := TX11) (N := 24) (ci := 11) X hi_X11_labelAfter_11 gO_13 rfl 19 (by decide) lk_X11_labelAfter_f63 (fun _ h9 => h9) rfl dX11_labelAfter_10 ?_
    refine V_iload_n X dX11_labelAfter_13 rfl (q := 2) rfl ?_
    obtain ⟨h5, hw⟩ := hw
    refine V_iald X (gA_13_19) h5 (by decide) dX11_labelAfter_14 ?_
    refine V_goto (tgt := 19) X dX11_labelAfter_15 (by decide) ?_
    exact V_iret X hr hw dX11_labelAfter_19
set_option maxHeartbeats 4000000 in
set_option maxRecDepth 100000 in
theorem c_X11_labelAfter (l : Launch) {p0 : Int} {p1 : Int} {D : va_G} {g : GT} {A : Nat → Prop} {a : Nat → Nat} {b : Nat → Nat → Nat} {M : Mem} {Q : Int → Mem → Prop} (hw : wp_X11_labelAfter M p0 p1 Q) : Met l yX11_labelAfter wsX11_labelAfter ({ frames := 7, cells := 0, slots := 0, locals := 171 } : Room) (cPc D g A a b M [.ref (a 13), iv p0, iv p1]) (cQi D g A a b Q) 0 0 A := by
  refine Met.ofW (cc := cX11_labelAfter) (maxL := 3) (ret := (some .int)) (by decide) rfl ?_
  intro p e s m args below meth c s₁ B hml hv
  obtain ⟨rfl, hP, hD, hG⟩ := hv
  have X : vC p s m _ meth c D g A RX11 wsX11_labelAfter cX11_labelAfter 3 := ⟨B.exec, B.bytes, findClass_of_methodNamed B.named, atoms_spec (ws := wsX11_labelAfter) B.pre, hG, hml, B.notSynchronized⟩
  have hr := B.returns
  have hl := lv_entry ([.ref (a 13), iv p0, iv p1]) (n := 3) (Nat.le_of_ble_eq_true rfl)
  rw [lg_entry_eq]
  generalize (lg_sl ([.ref (a 13), iv p0, iv p1]) ++ List.replicate (3 - (lg_sl ([.ref (a 13), iv p0, iv p1])).length) Slot.unset).toArray = ls at hl ⊢
  have hl : lv_has ls 3 [(0, .ref (a 13)), (1, iv p0), (2, iv p1)] := hl
  exact wke_X11_labelAfter X hr  hw s.heap [] ls hP hD va_S.rf hl

theorem dX3_favour_0 : decode cX3_favour 0 = .ok (.aload_n 0, 1) := by decide +kernel
theorem dX3_favour_1 : decode cX3_favour 1 = .ok (.getfield 21, 3) := by decide +kernel
theorem dX3_favour_4 : decode cX3_favour 4 = .ok (.iload_n 1, 1) := by decide +kernel
theorem dX3_favour_5 : decode cX3_favour 5 = .ok (.bipush 12, 2) := by decide +kernel
theorem dX3_favour_7 : decode cX3_favour 7 = .ok (.imul, 1) := by decide +kernel
theorem dX3_favour_8 : decode cX3_favour 8 = .ok (.iload_n 2, 1) := by decide +kernel
theorem dX3_favour_9 : decode cX3_favour 9 = .ok (.iadd, 1) := by decide +kernel
theorem dX3_favour_10 : decode cX3_favour 10 = .ok (.dup2, 1) := by decide +kernel
theorem dX3_favour_11 : decode cX3_favour 11 = .ok (.iaload, 1) := by decide +kernel
theorem dX3_favour_12 : decode cX3_favour 12 = .ok (.ldc 61, 2) := by decide +kernel
theorem dX3_favour_14 : decode cX3_favour 14 = .ok (.isub, 1) := by decide +kernel
theorem dX3_favour_15 : decode cX3_favour 15 = .ok (.iastore, 1) := by decide +kernel
theorem dX3_favour_16 : decode cX3_favour 16 = .ok (.return_, 1) := by decide +kernel
theorem lk_X3_favour_f21 : Cond.fieldLink RX3 21 "TreeComparer$Layout" "pairing" "[I" ∈ wsX3_favour := by decide +kernel
theorem hi_X3_favour_3 : ∀ w ∈ u_ws RX3 TX3 4, w ∈ wsX3_favour := by decide +kernel
theorem lk_X3_favour_c61 : Cond.constant RX3 61 (1000000) ∈ wsX3_favour := by decide +kernel
def wpe_X3_favour (p0 : Int) (p1 : Int) (M : Mem) (Q : Mem → Prop) : Prop := ((0 : Int) ≤ (p0 * 12) + p1 ∧ (p0 * 12) + p1 < 144) ∧ ((0 : Int) ≤ (p0 * 12) + p1 ∧ (p0 * 12) + p1 < 144) ∧ (∀ M2 : Mem, M2 = mset M 2 3 ((p0 * 12) + p1).toNat ((M 2 3 ((p0 * 12) + p1).toNat) - 1000000) → Q M2)
def wp_X3_favour (M : Mem) (p0 : Int) (p1 : Int) (Q : Mem → Prop) : Prop := wpe_X3_favour p0 p1 M Q
set_option maxHeartbeats 4000000 in
set_option maxRecDepth 100000 in
theorem wke_X3_favour {p : Program} {l : Launch} {e : Env} {s : State} {m : MethodId} {args : Array Value} {below : List Frame} {meth : Method} {c : Code} {D : va_G} {g : GT} {A : Nat → Prop} {a : Nat → Nat} {b : Nat → Nat → Nat} (X : vC p s m args meth c D g A RX3 wsX3_favour cX3_favour 3) (hr : meth.sig.returnType = none) {p0 : Int} {p1 : Int} {M : Mem} {Q : Mem → Prop} (hw : wpe_X3_favour p0 p1 M Q) : vV p l e ({ frames := 0, cells := 0, slots := 0, locals := 0 } : Room) s m args below meth c D g A a b 3 0 0 (MQ below (cQv D g A a b Q) args s 0 0 A) M [(0, .ref (a 2)), (1, iv p0), (2, iv p1)] 0 [] := by
  unfold wpe_X3_favour at hw
  refine V_aload_n X dX3_favour_0 rfl (q := 0) rfl ?_
  refine V_get (C := RX3) (T := TX3) (N := 4) (ci := 3) X hi_X3_favour_3 gO_2 rfl 3 (by decide) lk_X3_favour_f21 (fun _ h9 => h9) rfl dX3_favour_1 ?_
  refine V_iload_n X dX3_favour_4 rfl (q := 1) rfl ?_
  refine V_bipush X dX3_favour_5 rfl ?_
  refine V_imul X dX3_favour_7 ?_
  refine V_iload_n X dX3_favour_8 rfl (q := 2) rfl ?_
  refine V_iadd X dX3_favour_9 ?_
  refine V_dup2 X dX3_favour_10 rfl rfl ?_
  obtain ⟨h1, hw⟩ := hw
  refine V_iald X (gA_2_3) h1 (by decide) dX3_favour_11 ?_
  refine V_ldc (x := 1000000) X lk_X3_favour_c61 (by decide) dX3_favour_12 ?_
  refine V_isub X dX3_favour_14 ?_
  obtain ⟨h3, hw⟩ := hw
  refine V_iast X (gA_2_3) (sA_2_3) h3 (by decide) dX3_favour_15 (fun M2 eM2 => ?_)
  have hw := hw M2 eM2
  exact V_vret X hr hw dX3_favour_16
set_option maxHeartbeats 4000000 in
set_option maxRecDepth 100000 in
theorem c_X3_favour (l : Launch) {p0 : Int} {p1 : Int} {D : va_G} {g : GT} {A : Nat → Prop} {a : Nat → Nat} {b : Nat → Nat → Nat} {M : Mem} {Q : Mem → Prop} (hw : wp_X3_favour M p0 p1 Q) : Met l yX3_favour wsX3_favour ({ frames := 0, cells := 0, slots := 0, locals := 0 } : Room) (cPc D g A a b M [.ref (a 2), iv p0, iv p1]) (cQv D g A a b Q) 0 0 A := by
  refine Met.ofW (cc := cX3_favour) (maxL := 3) (ret := none) (by decide) rfl ?_
  intro p e s m args below meth c s₁ B hml hv
  obtain ⟨rfl, hP, hD, hG⟩ := hv
  have X : vC p s m _ meth c D g A RX3 wsX3_favour cX3_favour 3 := ⟨B.exec, B.bytes, findClass_of_methodNamed B.named, atoms_spec (ws := wsX3_favour) B.pre, hG, hml, B.notSynchronized⟩
  have hr := B.returns
  have hl := lv_entry ([.ref (a 2), iv p0, iv p1]) (n := 3) (Nat.le_of_ble_eq_true rfl)
  rw [lg_entry_eq]
  generalize (lg_sl ([.ref (a 2), iv p0, iv p1]) ++ List.replicate (3 - (lg_sl ([.ref (a 2), iv p0, iv p1])).length) Slot.unset).toArray = ls at hl ⊢
  have hl : lv_has ls 3 [(0, .ref (a 2)), (1, iv p0), (2, iv p1)] := hl
  exact wke_X3_favour X hr  hw s.heap [] ls hP hD va_S.rf hl

set_option maxRecDepth 20000 in
theorem ggX10_inPreorder_X10_treeNumbered : GoodIn wsX10_inPreorder wsX10_treeNumbered := goodIn_ca (goodIn_r _ [5, 6, 7, 8, 4, 9, 10, 11, 21, 22, 23, 24, 25, 26, 27, 28, 29, 30, 31, 32, 33, 34, 35] (by decide +kernel) (by decide +kernel)) (goodIn_sub (fun _ h => List.mem_cons_of_mem _ (List.mem_append_right _ h)) (by decide +kernel))
set_option maxRecDepth 20000 in
theorem gX10_inPreorder_X10_treeNumbered : GoodIn wsX10_inPreorder (wsV RX10 77 RX10 yX10_treeNumbered wsX10_treeNumbered) := goodIn_app (goodIn_of _ (by decide +kernel)) ggX10_inPreorder_X10_treeNumbered
set_option maxRecDepth 20000 in
theorem ggX10_inPreorder_X10_needIndex : GoodIn wsX10_inPreorder wsX10_needIndex := goodIn_ca (goodIn_r _ [9, 10, 11] (by decide +kernel) (by decide +kernel)) (goodIn_sub (fun _ h => List.mem_cons_of_mem _ (List.mem_append_right _ h)) (by decide +kernel))
set_option maxRecDepth 20000 in
theorem gX10_inPreorder_X10_needIndex : GoodIn wsX10_inPreorder (va_wsS RX10 81 yX10_needIndex wsX10_needIndex) := goodIn_app (goodIn_of _ (by decide +kernel)) ggX10_inPreorder_X10_needIndex
theorem dX10_inPreorder_0 : decode cX10_inPreorder 0 = .ok (.aload_n 0, 1) := by decide +kernel
theorem dX10_inPreorder_1 : decode cX10_inPreorder 1 = .ok (.iload_n 1, 1) := by decide +kernel
theorem dX10_inPreorder_2 : decode cX10_inPreorder 2 = .ok (.invokevirtual 77, 3) := by decide +kernel
theorem dX10_inPreorder_5 : decode cX10_inPreorder 5 = .ok (.astore_n 3, 1) := by decide +kernel
theorem dX10_inPreorder_6 : decode cX10_inPreorder 6 = .ok (.iload_n 2, 1) := by decide +kernel
theorem dX10_inPreorder_7 : decode cX10_inPreorder 7 = .ok (.aload_n 3, 1) := by decide +kernel
theorem dX10_inPreorder_8 : decode cX10_inPreorder 8 = .ok (.getfield 88, 3) := by decide +kernel
theorem dX10_inPreorder_11 : decode cX10_inPreorder 11 = .ok (.invokestatic 81, 3) := by decide +kernel
theorem dX10_inPreorder_14 : decode cX10_inPreorder 14 = .ok (.aload_n 3, 1) := by decide +kernel
theorem dX10_inPreorder_15 : decode cX10_inPreorder 15 = .ok (.getfield 151, 3) := by decide +kernel
theorem dX10_inPreorder_18 : decode cX10_inPreorder 18 = .ok (.iload_n 2, 1) := by decide +kernel
theorem dX10_inPreorder_19 : decode cX10_inPreorder 19 = .ok (.iaload, 1) := by decide +kernel
theorem dX10_inPreorder_20 : decode cX10_inPreorder 20 = .ok (.ireturn, 1) := by decide +kernel
theorem hi_X10_inPreorder_9 : ∀ w ∈ u_ws RX9 TX9 9, w ∈ wsX10_inPreorder := by decide +kernel
def wpe_X10_inPreorder (p0 : Int) (p1 : Int) (M : Mem) (Q : Int → Mem → Prop) (XQ : String → Mem → Prop) : Prop := wp_X10_treeNumbered M p0 (fun y1 M2 => isT y1 ∧ wp_X10_needIndex M2 p1 ((M2 y1 8 0)) (fun M4 => ((0 : Int) ≤ p1 ∧ p1 < 12) ∧ Q ((M4 y1 3 p1.toNat)) M4) XQ) XQ
def wp_X10_inPreorder (M : Mem) (p0 : Int) (p1 : Int) (Q : Int → Mem → Prop) (XQ : String → Mem → Prop) : Prop := wpe_X10_inPreorder p0 p1 M Q XQ
set_option maxHeartbeats 4000000 in
set_option maxRecDepth 100000 in
theorem wke_X10_inPreorder {p : Program} {l : Launch} {e : Env} {s : State} {m : MethodId} {args : Array Value} {below : List Frame} {meth : Method} {c : Code} {D : va_G} {g : GT} {A : Nat → Prop} {a : Nat → Nat} {b : Nat → Nat → Nat} (X : vC p s m args meth c D g A RX10 wsX10_inPreorder cX10_inPreorder 4) (hr : meth.sig.returnType = (some .int)) {p0 : Int} {p1 : Int} (hlt : l.stackTraces = false) (htab : ∀ x ∈ c.exceptionTable.toList, False) {M : Mem} {Q : Int → Mem → Prop} {XQ : String → Mem → Prop} (hw : wpe_X10_inPreorder p0 p1 M Q XQ) : vV p l e ({ frames := 8, cells := 2, slots := 12, locals := 132 } : Room) s m args below meth c D g A a b 4 0 0 (vx_MQ below (cQi D g A a b Q) (cX D g A a b XQ) args s 2 12 A) M [(0, .ref (a 0)), (1, iv p0), (2, iv p1)] 0 [] := by
  unfold wpe_X10_inPreorder at hw
  refine V_aload_n X dX10_inPreorder_0 rfl (q := 0) rfl ?_
  refine V_iload_n X dX10_inPreorder_1 rfl (q := 1) rfl ?_
  refine V_callxV_r X _ _ gO_0 rfl (As := [iv p0]) (st := []) (c_X10_treeNumbered l hlt hw) (cwV 1 X.2.2.2.1 gX10_inPreorder_X10_treeNumbered rfl rfl rfl (by decide +kernel) ⟨Nat.le_of_ble_eq_true rfl, Nat.le_of_ble_eq_true rfl⟩) rfl (Nat.le_of_ble_eq_true rfl) ⟨Nat.le_of_ble_eq_true rfl, Nat.le_of_ble_eq_true rfl⟩ rfl dX10_inPreorder_2 (fun E ce q9 M9 H9 locs9 ls9 hx9 hP9 hD9 hS9 hl9 h91 h92 h93 => V_xout X htab (Nat.le_of_ble_eq_true rfl) (Nat.le_of_ble_eq_true rfl) hx9 hP9 hD9 hS9 h91 h92 h93) (fun y1 M2 hw => ?_)
  obtain ⟨hy1, hw⟩ := hw
  refine V_astore_n (lv1 := [(0, .ref (a 0)), (1, iv p0), (2, iv p1), (3, .ref (a y1))]) X [1, 2, 3, 0] dX10_inPreorder_5 rfl (by decide) rfl ?_
  refine V_iload_n X dX10_inPreorder_6 rfl (q := 2) rfl ?_
  refine V_aload_n X dX10_inPreorder_7 rfl (q := 3) rfl ?_
  refine V_getN (C := RX9) (T := TX9) (N := 9) (ci := 9) X hi_X10_inPreorder_9 (gTO hy1) rfl 8 (by decide) (List.mem_of_getElem? (i := 20) rfl) (fun _ h9 => h9) rfl dX10_inPreorder_8 ?_
  refine V_callxS_v X _ _ (As := [iv p1, iv ((M2 y1 8 0))]) (st := []) (c_X10_needIndex l hlt hw) (va_cwS 2 X.2.2.2.1 gX10_inPreorder_X10_needIndex rfl rfl rfl (by decide +kernel) ⟨Nat.le_of_ble_eq_true rfl, Nat.le_of_ble_eq_true rfl⟩) rfl (Nat.le_of_ble_eq_true rfl) ⟨Nat.le_of_ble_eq_true rfl, Nat.le_of_ble_eq_true rfl⟩ rfl dX10_inPreorder_11 (fun E ce q9 M9 H9 locs9 ls9 hx9 hP9 hD9 hS9 hl9 h91 h92 h93 => V_xout X htab (Nat.le_of_ble_eq_true rfl) (Nat.le_of_ble_eq_true rfl) hx9 hP9 hD9 hS9 h91 h92 h93) (fun M4 hw => ?_)
  refine V_aload_n X dX10_inPreorder_14 rfl (q := 3) rfl ?_
  refine V_getN (C := RX9) (T := TX9) (N := 9) (ci := 9) X hi_X10_inPreorder_9 (gTO hy1) rfl 3 (by decide) (List.mem_of_getElem? (i := 11) rfl) (fun _ h9 => h9) rfl dX10_inPreorder_15 ?_
  refine V_iload_n X dX10_inPreorder_18 rfl (q := 2) rfl ?_
  obtain ⟨h5, hw⟩ := hw
  refine V_iald X ((gT_3 hy1)) h5 (by decide) dX10_inPreorder_19 ?_
  exact V_xret (Nat.le_of_ble_eq_true rfl) (Nat.le_of_ble_eq_true rfl) (V_iret X hr hw dX10_inPreorder_20)
set_option maxHeartbeats 4000000 in
set_option maxRecDepth 100000 in
theorem c_X10_inPreorder (l : Launch) {p0 : Int} {p1 : Int} (hlt : l.stackTraces = false) {D : va_G} {g : GT} {A : Nat → Prop} {a : Nat → Nat} {b : Nat → Nat → Nat} {M : Mem} {Q : Int → Mem → Prop} {XQ : String → Mem → Prop} (hw : wp_X10_inPreorder M p0 p1 Q XQ) : vx_Met l yX10_inPreorder wsX10_inPreorder ({ frames := 8, cells := 2, slots := 12, locals := 132 } : Room) (cPc D g A a b M [.ref (a 0), iv p0, iv p1]) (cQi D g A a b Q) (cX D g A a b XQ) 2 12 A := by
  refine vx_ofW (cc := cX10_inPreorder) (maxL := 4) (ret := (some .int)) (by decide) rfl ?_
  intro p e s m args below meth c s₁ B hml htab hv
  obtain ⟨rfl, hP, hD, hG⟩ := hv
  have X : vC p s m _ meth c D g A RX10 wsX10_inPreorder cX10_inPreorder 4 := ⟨B.exec, B.bytes, findClass_of_methodNamed B.named, atoms_spec (ws := wsX10_inPreorder) B.pre, hG, hml, B.notSynchronized⟩
  have hr := B.returns
  have hl := lv_entry ([.ref (a 0), iv p0, iv p1]) (n := 4) (Nat.le_of_ble_eq_true rfl)
  rw [lg_entry_eq]
  generalize (lg_sl ([.ref (a 0), iv p0, iv p1]) ++ List.replicate (4 - (lg_sl ([.ref (a 0), iv p0, iv p1])).length) Slot.unset).toArray = ls at hl ⊢
  have hl : lv_has ls 4 [(0, .ref (a 0)), (1, iv p0), (2, iv p1)] := hl
  exact wke_X10_inPreorder X hr hlt htab hw s.heap [] ls hP hD va_S.rf hl
