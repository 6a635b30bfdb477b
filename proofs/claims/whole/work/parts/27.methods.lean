set_option maxRecDepth 20000 in
theorem ggX9_childCount_X9_endOf : GoodIn wsX9_childCount wsX9_endOf := goodIn_r _ [8, 1, 9, 10, 11, 12, 13, 14, 15, 16, 17, 18] (by decide +kernel) (by decide +kernel)
set_option maxRecDepth 20000 in
theorem gX9_childCount_X9_endOf : GoodIn wsX9_childCount (wsV RX9 47 RX9 yX9_endOf wsX9_endOf) := goodIn_app (goodIn_of _ (by decide +kernel)) ggX9_childCount_X9_endOf
theorem dX9_childCount_0 : decode cX9_childCount 0 = .ok (.iconst 0, 1) := by decide +kernel
theorem dX9_childCount_1 : decode cX9_childCount 1 = .ok (.istore_n 2, 1) := by decide +kernel
theorem dX9_childCount_2 : decode cX9_childCount 2 = .ok (.aload_n 0, 1) := by decide +kernel
theorem dX9_childCount_3 : decode cX9_childCount 3 = .ok (.getfield 27, 3) := by decide +kernel
theorem dX9_childCount_6 : decode cX9_childCount 6 = .ok (.iload_n 1, 1) := by decide +kernel
theorem dX9_childCount_7 : decode cX9_childCount 7 = .ok (.iaload, 1) := by decide +kernel
theorem dX9_childCount_8 : decode cX9_childCount 8 = .ok (.iconst 1, 1) := by decide +kernel
theorem dX9_childCount_9 : decode cX9_childCount 9 = .ok (.iadd, 1) := by decide +kernel
theorem dX9_childCount_10 : decode cX9_childCount 10 = .ok (.istore_n 3, 1) := by decide +kernel
theorem dX9_childCount_11 : decode cX9_childCount 11 = .ok (.iload_n 3, 1) := by decide +kernel
theorem dX9_childCount_12 : decode cX9_childCount 12 = .ok (.aload_n 0, 1) := by decide +kernel
theorem dX9_childCount_13 : decode cX9_childCount 13 = .ok (.iload_n 1, 1) := by decide +kernel
theorem dX9_childCount_14 : decode cX9_childCount 14 = .ok (.invokevirtual 47, 3) := by decide +kernel
theorem dX9_childCount_17 : decode cX9_childCount 17 = .ok (.if_icmp .ge 27, 3) := by decide +kernel
theorem dX9_childCount_20 : decode cX9_childCount 20 = .ok (.aload_n 0, 1) := by decide +kernel
theorem dX9_childCount_21 : decode cX9_childCount 21 = .ok (.getfield 18, 3) := by decide +kernel
theorem dX9_childCount_24 : decode cX9_childCount 24 = .ok (.aload_n 0, 1) := by decide +kernel
theorem dX9_childCount_25 : decode cX9_childCount 25 = .ok (.getfield 21, 3) := by decide +kernel
theorem dX9_childCount_28 : decode cX9_childCount 28 = .ok (.iload_n 3, 1) := by decide +kernel
theorem dX9_childCount_29 : decode cX9_childCount 29 = .ok (.iaload, 1) := by decide +kernel
theorem dX9_childCount_30 : decode cX9_childCount 30 = .ok (.iaload, 1) := by decide +kernel
theorem dX9_childCount_31 : decode cX9_childCount 31 = .ok (.iload_n 1, 1) := by decide +kernel
theorem dX9_childCount_32 : decode cX9_childCount 32 = .ok (.if_icmp .ne 6, 3) := by decide +kernel
theorem dX9_childCount_35 : decode cX9_childCount 35 = .ok (.iinc 2 1, 3) := by decide +kernel
theorem dX9_childCount_38 : decode cX9_childCount 38 = .ok (.iinc 3 1, 3) := by decide +kernel
theorem dX9_childCount_41 : decode cX9_childCount 41 = .ok (.goto (-30), 3) := by decide +kernel
theorem dX9_childCount_44 : decode cX9_childCount 44 = .ok (.iload_n 2, 1) := by decide +kernel
theorem dX9_childCount_45 : decode cX9_childCount 45 = .ok (.ireturn, 1) := by decide +kernel
theorem lk_X9_childCount_f27 : Cond.fieldLink RX9 27 "TreeComparer$Tree" "prePlace" "[I" ∈ wsX9_childCount := by decide +kernel
theorem hi_X9_childCount_9 : ∀ w ∈ u_ws RX9 TX9 9, w ∈ wsX9_childCount := by decide +kernel
theorem lk_X9_childCount_f18 : Cond.fieldLink RX9 18 "TreeComparer$Tree" "parent" "[I" ∈ wsX9_childCount := by decide +kernel
theorem lk_X9_childCount_f21 : Cond.fieldLink RX9 21 "TreeComparer$Tree" "preorder" "[I" ∈ wsX9_childCount := by decide +kernel
def wpj_X9_childCount_38 (o : Nat) (p0 : Int) (x2 : Int) (x3 : Int) (M : Mem) (J11 : Int → Int → Mem → Prop) (Q : Int → Mem → Prop) : Prop := J11 x2 (x3 + 1) M
def wph_X9_childCount_11 (o : Nat) (p0 : Int) (x2 : Int) (x3 : Int) (M : Mem) (J11 : Int → Int → Mem → Prop) (Q : Int → Mem → Prop) : Prop := wp_X9_endOf M o p0 (fun y3 M4 => inR x3 ∧ inR y3 ∧ ((y3 ≤ x3 → Q x2 M4) ∧ (¬ (y3 ≤ x3) → ((0 : Int) ≤ x3 ∧ x3 < 12) ∧ ((0 : Int) ≤ (M4 o 3 x3.toNat) ∧ (M4 o 3 x3.toNat) < 12) ∧ inR (M4 o 2 ((M4 o 3 x3.toNat)).toNat) ∧ inR p0 ∧ (((M4 o 2 ((M4 o 3 x3.toNat)).toNat) ≠ p0 → wpj_X9_childCount_38 o p0 x2 x3 M4 J11 Q) ∧ (¬ ((M4 o 2 ((M4 o 3 x3.toNat)).toNat) ≠ p0) → wpj_X9_childCount_38 o p0 (x2 + 1) x3 M4 J11 Q)))))
def wpe_X9_childCount (o : Nat) (p0 : Int) (M : Mem) (J11 : Int → Int → Mem → Prop) (Q : Int → Mem → Prop) : Prop := ((0 : Int) ≤ p0 ∧ p0 < 12) ∧ (∀ y2 : Int, y2 = (M o 5 p0.toNat) + 1 → J11 0 y2 M)
def wp_X9_childCount (M : Mem) (o : Nat) (p0 : Int) (Q : Int → Mem → Prop) : Prop := ∃ (I11 : Nat → Int → Int → Mem → Prop), wpe_X9_childCount o p0 M (fun (x2 : Int) (x3 : Int) (M1 : Mem) => ∃ n1 : Nat, I11 n1 x2 x3 M1) Q ∧ (∀ (n : Nat) (x2 : Int) (x3 : Int) (M : Mem), I11 n x2 x3 M → wph_X9_childCount_11 o p0 x2 x3 M (fun (x2 : Int) (x3 : Int) (M1 : Mem) => ∃ n1 : Nat, n1 < n ∧ I11 n1 x2 x3 M1) Q)
set_option maxHeartbeats 4000000 in
set_option maxRecDepth 100000 in
theorem wkj_X9_childCount_38 {p : Program} {l : Launch} {e : Env} {s : State} {m : MethodId} {args : Array Value} {below : List Frame} {meth : Method} {c : Code} {D : va_G} {g : GT} {A : Nat → Prop} {a : Nat → Nat} {b : Nat → Nat → Nat} (X : vC p s m args meth c D g A RX9 wsX9_childCount cX9_childCount 4) (hr : meth.sig.returnType = (some .int)) {o : Nat} {p0 : Int} (ho : isT o) {x2 : Int} {x3 : Int} {M : Mem} {J11 : Int → Int → Mem → Prop} {Q : Int → Mem → Prop} (hJ11 : ∀ (x2 : Int) (x3 : Int) (M : Mem), J11 x2 x3 M → vV p l e ({ frames := 1, cells := 0, slots := 0, locals := 21 } : Room) s m args below meth c D g A a b 4 0 0 (MQ below (cQi D g A a b Q) args s 0 0 A) M [(0, .ref (a o)), (1, iv p0), (2, iv x2), (3, iv x3)] 11 []) (hw : wpj_X9_childCount_38 o p0 x2 x3 M J11 Q) : vV p l e ({ frames := 1, cells := 0, slots := 0, locals := 21 } : Room) s m args below meth c D g A a b 4 0 0 (MQ below (cQi D g A a b Q) args s 0 0 A) M [(0, .ref (a o)), (1, iv p0), (2, iv x2), (3, iv x3)] 38 [] := by
  unfold wpj_X9_childCount_38 at hw
  refine V_iinc (lv1 := [(0, .ref (a o)), (1, iv p0), (2, iv x2), (3, iv (x3 + 1))]) X [1, 2, 3, 0] dX9_childCount_38 (q := 3) rfl (by decide) rfl ?_
  refine V_goto (tgt := 11) X dX9_childCount_41 (by decide) ?_
  exact hJ11 _ _ _ hw
set_option maxHeartbeats 4000000 in
set_option maxRecDepth 100000 in
theorem wkh_X9_childCount_11 {p : Program} {l : Launch} {e : Env} {s : State} {m : MethodId} {args : Array Value} {below : List Frame} {meth : Method} {c : Code} {D : va_G} {g : GT} {A : Nat → Prop} {a : Nat → Nat} {b : Nat → Nat → Nat} (X : vC p s m args meth c D g A RX9 wsX9_childCount cX9_childCount 4) (hr : meth.sig.returnType = (some .int)) {o : Nat} {p0 : Int} (ho : isT o) {x2 : Int} {x3 : Int} {M : Mem} {J11 : Int → Int → Mem → Prop} {Q : Int → Mem → Prop} (hJ11 : ∀ (x2 : Int) (x3 : Int) (M : Mem), J11 x2 x3 M → vV p l e ({ frames := 1, cells := 0, slots := 0, locals := 21 } : Room) s m args below meth c D g A a b 4 0 0 (MQ below (cQi D g A a b Q) args s 0 0 A) M [(0, .ref (a o)), (1, iv p0), (2, iv x2), (3, iv x3)] 11 []) (hw : wph_X9_childCount_11 o p0 x2 x3 M J11 Q) : vV p l e ({ frames := 1, cells := 0, slots := 0, locals := 21 } : Room) s m args below meth c D g A a b 4 0 0 (MQ below (cQi D g A a b Q) args s 0 0 A) M [(0, .ref (a o)), (1, iv p0), (2, iv x2), (3, iv x3)] 11 [] := by
  unfold wph_X9_childCount_11 at hw
  refine V_iload_n X dX9_childCount_11 rfl (q := 3) rfl ?_
  refine V_aload_n X dX9_childCount_12 rfl (q := 0) rfl ?_
  refine V_iload_n X dX9_childCount_13 rfl (q := 1) rfl ?_
  refine V_callV_i X _ (gTO ho) rfl (As := [iv p0]) (st := [iv x3]) (c_X9_endOf l ho hw) (cwV 1 X.2.2.2.1 gX9_childCount_X9_endOf rfl rfl rfl (by decide +kernel) ⟨Nat.le_of_ble_eq_true rfl, Nat.le_of_ble_eq_true rfl⟩) rfl (Nat.le_of_ble_eq_true rfl) ⟨Nat.le_of_ble_eq_true rfl, Nat.le_of_ble_eq_true rfl⟩ rfl dX9_childCount_14 (fun y3 M4 hw => ?_)
  obtain ⟨h5, h6, hw⟩ := hw
  refine V_icmp_ge (tgt := 44) X h5 h6 dX9_childCount_17 (by decide) (fun q7 => ?_) (fun q7 => ?_)
  · have hw := hw.1 q7
    refine V_iload_n X dX9_childCount_44 rfl (q := 2) rfl ?_
    exact V_iret X hr hw dX9_childCount_45
  · have hw := hw.2 q7
    refine V_aload_n X dX9_childCount_20 rfl (q := 0) rfl ?_
    refine V_get (C := RX9) (T := TX9) (N := 9) (ci := 9) X hi_X9_childCount_9 (gTO ho) rfl 2 (by decide) lk_X9_childCount_f18 (fun _ h9 => h9) rfl dX9_childCount_21 ?_
    refine V_aload_n X dX9_childCount_24 rfl (q := 0) rfl ?_
    refine V_get (C := RX9) (T := TX9) (N := 9) (ci := 9) X hi_X9_childCount_9 (gTO ho) rfl 3 (by decide) lk_X9_childCount_f21 (fun _ h9 => h9) rfl dX9_childCount_25 ?_
    refine V_iload_n X dX9_childCount_28 rfl (q := 3) rfl ?_
    obtain ⟨h8, hw⟩ := hw
    refine V_iald X ((gT_3 ho)) h8 (by decide) dX9_childCount_29 ?_
    obtain ⟨h9, hw⟩ := hw
    refine V_iald X ((gT_2 ho)) h9 (by decide) dX9_childCount_30 ?_
    refine V_iload_n X dX9_childCount_31 rfl (q := 1) rfl ?_
    obtain ⟨h10, h11, hw⟩ := hw
    refine V_icmp_ne (tgt := 38) X h10 h11 dX9_childCount_32 (by decide) (fun q12 => ?_) (fun q12 => ?_)
    · have hw := hw.1 q12
      exact wkj_X9_childCount_38 X hr ho hJ11 hw
    · have hw := hw.2 q12
      refine V_iinc (lv1 := [(0, .ref (a o)), (1, iv p0), (2, iv (x2 + 1)), (3, iv x3)]) X [1, 2, 0, 3] dX9_childCount_35 (q := 2) rfl (by decide) rfl ?_
      exact wkj_X9_childCount_38 X hr ho hJ11 hw
set_option maxHeartbeats 4000000 in
set_option maxRecDepth 100000 in
theorem wke_X9_childCount {p : Program} {l : Launch} {e : Env} {s : State} {m : MethodId} {args : Array Value} {below : List Frame} {meth : Method} {c : Code} {D : va_G} {g : GT} {A : Nat → Prop} {a : Nat → Nat} {b : Nat → Nat → Nat} (X : vC p s m args meth c D g A RX9 wsX9_childCount cX9_childCount 4) (hr : meth.sig.returnType = (some .int)) {o : Nat} {p0 : Int} (ho : isT o) {M : Mem} {J11 : Int → Int → Mem → Prop} {Q : Int → Mem → Prop} (hJ11 : ∀ (x2 : Int) (x3 : Int) (M : Mem), J11 x2 x3 M → vV p l e ({ frames := 1, cells := 0, slots := 0, locals := 21 } : Room) s m args below meth c D g A a b 4 0 0 (MQ below (cQi D g A a b Q) args s 0 0 A) M [(0, .ref (a o)), (1, iv p0), (2, iv x2), (3, iv x3)] 11 []) (hw : wpe_X9_childCount o p0 M J11 Q) : vV p l e ({ frames := 1, cells := 0, slots := 0, locals := 21 } : Room) s m args below meth c D g A a b 4 0 0 (MQ below (cQi D g A a b Q) args s 0 0 A) M [(0, .ref (a o)), (1, iv p0)] 0 [] := by
  unfold wpe_X9_childCount at hw
  refine V_iconst X dX9_childCount_0 ?_
  refine V_istore_n (lv1 := [(0, .ref (a o)), (1, iv p0), (2, iv 0)]) X [1, 2, 0] dX9_childCount_1 rfl (by decide) rfl ?_
  refine V_aload_n X dX9_childCount_2 rfl (q := 0) rfl ?_
  refine V_get (C := RX9) (T := TX9) (N := 9) (ci := 9) X hi_X9_childCount_9 (gTO ho) rfl 5 (by decide) lk_X9_childCount_f27 (fun _ h9 => h9) rfl dX9_childCount_3 ?_
  refine V_iload_n X dX9_childCount_6 rfl (q := 1) rfl ?_
  obtain ⟨h1, hw⟩ := hw
  refine V_iald X ((gT_5 ho)) h1 (by decide) dX9_childCount_7 ?_
  refine V_iconst X dX9_childCount_8 ?_
  refine V_iadd X dX9_childCount_9 ?_
  refine V_top (fun y2 ey2 => ?_)
  have hw := hw y2 ey2
  refine V_istore_n (lv1 := [(0, .ref (a o)), (1, iv p0), (2, iv 0), (3, iv y2)]) X [1, 2, 3, 0] dX9_childCount_10 rfl (by decide) rfl ?_
  exact hJ11 _ _ _ hw
set_option maxHeartbeats 4000000 in
set_option maxRecDepth 100000 in
theorem c_X9_childCount (l : Launch) {o : Nat} {p0 : Int} (ho : isT o) {D : va_G} {g : GT} {A : Nat → Prop} {a : Nat → Nat} {b : Nat → Nat → Nat} {M : Mem} {Q : Int → Mem → Prop} (hw : wp_X9_childCount M o p0 Q) : Met l yX9_childCount wsX9_childCount ({ frames := 1, cells := 0, slots := 0, locals := 21 } : Room) (cPc D g A a b M [.ref (a o), iv p0]) (cQi D g A a b Q) 0 0 A := by
  refine Met.ofW (cc := cX9_childCount) (maxL := 4) (ret := (some .int)) (by decide) rfl ?_
  intro p e s m args below meth c s₁ B hml hv
  obtain ⟨rfl, hP, hD, hG⟩ := hv
  have X : vC p s m _ meth c D g A RX9 wsX9_childCount cX9_childCount 4 := ⟨B.exec, B.bytes, findClass_of_methodNamed B.named, atoms_spec (ws := wsX9_childCount) B.pre, hG, hml, B.notSynchronized⟩
  have hr := B.returns
  have hl := lv_entry ([.ref (a o), iv p0]) (n := 4) (Nat.le_of_ble_eq_true rfl)
  rw [lg_entry_eq]
  generalize (lg_sl ([.ref (a o), iv p0]) ++ List.replicate (4 - (lg_sl ([.ref (a o), iv p0])).length) Slot.unset).toArray = ls at hl ⊢
  have hl : lv_has ls 4 [(0, .ref (a o)), (1, iv p0)] := hl
  obtain ⟨I11, hw, hI11⟩ := hw
  have K : ∀ n : Nat, (∀ (x2 : Int) (x3 : Int) (M : Mem), I11 n x2 x3 M → vV p l e ({ frames := 1, cells := 0, slots := 0, locals := 21 } : Room) s m ([.ref (a o), iv p0] : List Value).toArray below meth c D g A a b 4 0 0 (MQ below (cQi D g A a b Q) ([.ref (a o), iv p0] : List Value).toArray s 0 0 A) M [(0, .ref (a o)), (1, iv p0), (2, iv x2), (3, iv x3)] 11 []) := by
    intro n
    induction n using Nat.strongRecOn with
    | ind n ih =>
      exact fun x2 x3 M hh => wkh_X9_childCount_11 X hr ho (fun _ _ _ ⟨n1, hn, hh⟩ => (ih n1 hn) _ _ _ hh) (hI11 n x2 x3 M hh)
  exact wke_X9_childCount X hr ho (fun _ _ _ ⟨n1, hh⟩ => (K n1) _ _ _ hh) hw s.heap [] ls hP hD va_S.rf hl

set_option maxRecDepth 20000 in
theorem ggX10_children_X10_treeWith : GoodIn wsX10_children wsX10_treeWith := goodIn_ca (goodIn_r _ [5, 6, 7, 8, 4, 9, 10, 11, 12, 13, 14, 15, 28, 29, 30, 31, 32, 33, 34, 35, 36, 37, 38, 39, 40, 41, 42, 43, 44, 45, 46, 47, 48, 49, 50, 51] (by decide +kernel) (by decide +kernel)) (goodIn_sub (fun _ h => List.mem_cons_of_mem _ (List.mem_append_right _ h)) (by decide +kernel))
set_option maxRecDepth 20000 in
theorem gX10_children_X10_treeWith : GoodIn wsX10_children (wsV RX10 105 RX10 yX10_treeWith wsX10_treeWith) := goodIn_app (goodIn_of _ (by decide +kernel)) ggX10_children_X10_treeWith
set_option maxRecDepth 20000 in
theorem ggX10_children_X9_childCount : GoodIn wsX10_children wsX9_childCount := goodIn_r _ [19, 20, 21, 22, 23, 24, 25, 17, 26, 27, 28, 29, 30, 31, 32, 33, 34, 35, 36] (by decide +kernel) (by decide +kernel)
set_option maxRecDepth 20000 in
theorem gX10_children_X9_childCount_n109 : GoodIn wsX10_children (wsX9_childCount) := ggX10_children_X9_childCount
theorem dX10_children_0 : decode cX10_children 0 = .ok (.aload_n 0, 1) := by decide +kernel
theorem dX10_children_1 : decode cX10_children 1 = .ok (.iload_n 1, 1) := by decide +kernel
theorem dX10_children_2 : decode cX10_children 2 = .ok (.iload_n 2, 1) := by decide +kernel
theorem dX10_children_3 : decode cX10_children 3 = .ok (.invokevirtual 105, 3) := by decide +kernel
theorem dX10_children_6 : decode cX10_children 6 = .ok (.iload_n 2, 1) := by decide +kernel
theorem dX10_children_7 : decode cX10_children 7 = .ok (.invokevirtual 109, 3) := by decide +kernel
theorem dX10_children_10 : decode cX10_children 10 = .ok (.ireturn, 1) := by decide +kernel
theorem lk_X10_children_i9 : Cond.initialized RX9 ∈ wsX10_children := by decide +kernel
theorem lk_X10_children_im109 : Cond.instanceMethod yX9_childCount ∈ wsX10_children := by decide +kernel
theorem lk_X10_children_se109 : Cond.selects RX9 yX9_childCount yX9_childCount ∈ wsX10_children := by decide +kernel
def wpe_X10_children (p0 : Int) (p1 : Int) (M : Mem) (Q : Int → Mem → Prop) (XQ : String → Mem → Prop) : Prop := wp_X10_treeWith M p0 p1 (fun y1 M2 => isT y1 ∧ wp_X9_childCount M2 y1 p1 (fun y3 M4 => Q y3 M4)) XQ
def wp_X10_children (M : Mem) (p0 : Int) (p1 : Int) (Q : Int → Mem → Prop) (XQ : String → Mem → Prop) : Prop := wpe_X10_children p0 p1 M Q XQ
set_option maxHeartbeats 4000000 in
set_option maxRecDepth 100000 in
theorem wke_X10_children {p : Program} {l : Launch} {e : Env} {s : State} {m : MethodId} {args : Array Value} {below : List Frame} {meth : Method} {c : Code} {D : va_G} {g : GT} {A : Nat → Prop} {a : Nat → Nat} {b : Nat → Nat → Nat} (X : vC p s m args meth c D g A RX10 wsX10_children cX10_children 3) (hr : meth.sig.returnType = (some .int)) {p0 : Int} {p1 : Int} (hlt : l.stackTraces = false) (htab : ∀ x ∈ c.exceptionTable.toList, False) {M : Mem} {Q : Int → Mem → Prop} {XQ : String → Mem → Prop} (hw : wpe_X10_children p0 p1 M Q XQ) : vV p l e ({ frames := 9, cells := 2, slots := 12, locals := 155 } : Room) s m args below meth c D g A a b 3 0 0 (vx_MQ below (cQi D g A a b Q) (cX D g A a b XQ) args s 2 12 A) M [(0, .ref (a 0)), (1, iv p0), (2, iv p1)] 0 [] := by
  unfold wpe_X10_children at hw
  refine V_aload_n X dX10_children_0 rfl (q := 0) rfl ?_
  refine V_iload_n X dX10_children_1 rfl (q := 1) rfl ?_
  refine V_iload_n X dX10_children_2 rfl (q := 2) rfl ?_
  refine V_callxV_r X _ _ gO_0 rfl (As := [iv p0, iv p1]) (st := []) (c_X10_treeWith l hlt hw) (cwV 2 X.2.2.2.1 gX10_children_X10_treeWith rfl rfl rfl (by decide +kernel) ⟨Nat.le_of_ble_eq_true rfl, Nat.le_of_ble_eq_true rfl⟩) rfl (Nat.le_of_ble_eq_true rfl) ⟨Nat.le_of_ble_eq_true rfl, Nat.le_of_ble_eq_true rfl⟩ rfl dX10_children_3 (fun E ce q9 M9 H9 locs9 ls9 hx9 hP9 hD9 hS9 hl9 h91 h92 h93 => V_xout X htab (Nat.le_of_ble_eq_true rfl) (Nat.le_of_ble_eq_true rfl) hx9 hP9 hD9 hS9 h91 h92 h93) (fun y1 M2 hw => ?_)
  obtain ⟨hy1, hw⟩ := hw
  refine V_iload_n X dX10_children_6 rfl (q := 2) rfl ?_
  refine V_callVN_i X _ (gTO hy1) rfl (As := [iv p1]) (st := []) (c_X9_childCount l hy1 hw) ⟨va_cnB 1 X.2.2.2.1 gX10_children_X9_childCount_n109 rfl rfl rfl (X.2.2.2.2.1.2.1 _ (List.mem_of_getElem? (i := 122) rfl)) (X.2.2.2.1 _ lk_X10_children_i9) (by decide +kernel) ⟨Nat.le_of_ble_eq_true rfl, Nat.le_of_ble_eq_true rfl⟩, X.2.2.2.1 _ lk_X10_children_im109, X.2.2.2.1 _ lk_X10_children_se109⟩ rfl (Nat.le_of_ble_eq_true rfl) ⟨Nat.le_of_ble_eq_true rfl, Nat.le_of_ble_eq_true rfl⟩ rfl dX10_children_7 (fun y3 M4 hw => ?_)
  exact V_xret (Nat.le_of_ble_eq_true rfl) (Nat.le_of_ble_eq_true rfl) (V_iret X hr hw dX10_children_10)
set_option maxHeartbeats 4000000 in
set_option maxRecDepth 100000 in
theorem c_X10_children (l : Launch) {p0 : Int} {p1 : Int} (hlt : l.stackTraces = false) {D : va_G} {g : GT} {A : Nat → Prop} {a : Nat → Nat} {b : Nat → Nat → Nat} {M : Mem} {Q : Int → Mem → Prop} {XQ : String → Mem → Prop} (hw : wp_X10_children M p0 p1 Q XQ) : vx_Met l yX10_children wsX10_children ({ frames := 9, cells := 2, slots := 12, locals := 155 } : Room) (cPc D g A a b M [.ref (a 0), iv p0, iv p1]) (cQi D g A a b Q) (cX D g A a b XQ) 2 12 A := by
  refine vx_ofW (cc := cX10_children) (maxL := 3) (ret := (some .int)) (by decide) rfl ?_
  intro p e s m args below meth c s₁ B hml htab hv
  obtain ⟨rfl, hP, hD, hG⟩ := hv
  have X : vC p s m _ meth c D g A RX10 wsX10_children cX10_children 3 := ⟨B.exec, B.bytes, findClass_of_methodNamed B.named, atoms_spec (ws := wsX10_children) B.pre, hG, hml, B.notSynchronized⟩
  have hr := B.returns
  have hl := lv_entry ([.ref (a 0), iv p0, iv p1]) (n := 3) (Nat.le_of_ble_eq_true rfl)
  rw [lg_entry_eq]
  generalize (lg_sl ([.ref (a 0), iv p0, iv p1]) ++ List.replicate (3 - (lg_sl ([.ref (a 0), iv p0, iv p1])).length) Slot.unset).toArray = ls at hl ⊢
  have hl : lv_has ls 3 [(0, .ref (a 0)), (1, iv p0), (2, iv p1)] := hl
  exact wke_X10_children X hr hlt htab hw s.heap [] ls hP hD va_S.rf hl

set_option maxRecDepth 20000 in
theorem ggX10_isKeyroot_X10_treeWith : GoodIn wsX10_isKeyroot wsX10_treeWith := goodIn_ca (goodIn_r _ [5, 6, 7, 8, 4, 9, 10, 11, 12, 13, 14, 15, 22, 23, 24, 25, 26, 27, 28, 29, 30, 31, 32, 33, 34, 35, 36, 37, 38, 39, 40, 41, 42, 43, 44, 45] (by decide +kernel) (by decide +kernel)) (goodIn_sub (fun _ h => List.mem_cons_of_mem _ (List.mem_append_right _ h)) (by decide +kernel))
set_option maxRecDepth 20000 in
theorem gX10_isKeyroot_X10_treeWith : GoodIn wsX10_isKeyroot (wsV RX10 105 RX10 yX10_treeWith wsX10_treeWith) := goodIn_app (goodIn_of _ (by decide +kernel)) ggX10_isKeyroot_X10_treeWith
set_option maxRecDepth 20000 in
theorem ggX10_isKeyroot_X9_isKey : GoodIn wsX10_isKeyroot wsX9_isKey := goodIn_r _ [19, 20, 21, 22, 23, 24, 25, 26, 27, 28, 29, 30] (by decide +kernel) (by decide +kernel)
set_option maxRecDepth 20000 in
theorem gX10_isKeyroot_X9_isKey_n160 : GoodIn wsX10_isKeyroot (wsX9_isKey) := ggX10_isKeyroot_X9_isKey
theorem dX10_isKeyroot_0 : decode cX10_isKeyroot 0 = .ok (.aload_n 0, 1) := by decide +kernel
theorem dX10_isKeyroot_1 : decode cX10_isKeyroot 1 = .ok (.iload_n 1, 1) := by decide +kernel
theorem dX10_isKeyroot_2 : decode cX10_isKeyroot 2 = .ok (.iload_n 2, 1) := by decide +kernel
theorem dX10_isKeyroot_3 : decode cX10_isKeyroot 3 = .ok (.invokevirtual 105, 3) := by decide +kernel
theorem dX10_isKeyroot_6 : decode cX10_isKeyroot 6 = .ok (.iload_n 2, 1) := by decide +kernel
theorem dX10_isKeyroot_7 : decode cX10_isKeyroot 7 = .ok (.invokevirtual 160, 3) := by decide +kernel
theorem dX10_isKeyroot_10 : decode cX10_isKeyroot 10 = .ok (.ireturn, 1) := by decide +kernel
theorem lk_X10_isKeyroot_i9 : Cond.initialized RX9 ∈ wsX10_isKeyroot := by decide +kernel
theorem lk_X10_isKeyroot_im160 : Cond.instanceMethod yX9_isKey ∈ wsX10_isKeyroot := by decide +kernel
theorem lk_X10_isKeyroot_se160 : Cond.selects RX9 yX9_isKey yX9_isKey ∈ wsX10_isKeyroot := by decide +kernel
def wpe_X10_isKeyroot (p0 : Int) (p1 : Int) (M : Mem) (Q : Int → Mem → Prop) (XQ : String → Mem → Prop) : Prop := wp_X10_treeWith M p0 p1 (fun y1 M2 => isT y1 ∧ wp_X9_isKey M2 y1 p1 (fun y3 M4 => (y3 = 0 ∨ y3 = 1) ∧ Q y3 M4)) XQ
def wp_X10_isKeyroot (M : Mem) (p0 : Int) (p1 : Int) (Q : Int → Mem → Prop) (XQ : String → Mem → Prop) : Prop := wpe_X10_isKeyroot p0 p1 M Q XQ
set_option maxHeartbeats 4000000 in
set_option maxRecDepth 100000 in
theorem wke_X10_isKeyroot {p : Program} {l : Launch} {e : Env} {s : State} {m : MethodId} {args : Array Value} {below : List Frame} {meth : Method} {c : Code} {D : va_G} {g : GT} {A : Nat → Prop} {a : Nat → Nat} {b : Nat → Nat → Nat} (X : vC p s m args meth c D g A RX10 wsX10_isKeyroot cX10_isKeyroot 3) (hr : meth.sig.returnType = (some .boolean)) {p0 : Int} {p1 : Int} (hlt : l.stackTraces = false) (htab : ∀ x ∈ c.exceptionTable.toList, False) {M : Mem} {Q : Int → Mem → Prop} {XQ : String → Mem → Prop} (hw : wpe_X10_isKeyroot p0 p1 M Q XQ) : vV p l e ({ frames := 9, cells := 2, slots := 12, locals := 155 } : Room) s m args below meth c D g A a b 3 0 0 (vx_MQ below (cQi D g A a b Q) (cX D g A a b XQ) args s 2 12 A) M [(0, .ref (a 0)), (1, iv p0), (2, iv p1)] 0 [] := by
  unfold wpe_X10_isKeyroot at hw
  refine V_aload_n X dX10_isKeyroot_0 rfl (q := 0) rfl ?_
  refine V_iload_n X dX10_isKeyroot_1 rfl (q := 1) rfl ?_
  refine V_iload_n X dX10_isKeyroot_2 rfl (q := 2) rfl ?_
  refine V_callxV_r X _ _ gO_0 rfl (As := [iv p0, iv p1]) (st := []) (c_X10_treeWith l hlt hw) (cwV 2 X.2.2.2.1 gX10_isKeyroot_X10_treeWith rfl rfl rfl (by decide +kernel) ⟨Nat.le_of_ble_eq_true rfl, Nat.le_of_ble_eq_true rfl⟩) rfl (Nat.le_of_ble_eq_true rfl) ⟨Nat.le_of_ble_eq_true rfl, Nat.le_of_ble_eq_true rfl⟩ rfl dX10_isKeyroot_3 (fun E ce q9 M9 H9 locs9 ls9 hx9 hP9 hD9 hS9 hl9 h91 h92 h93 => V_xout X htab (Nat.le_of_ble_eq_true rfl) (Nat.le_of_ble_eq_true rfl) hx9 hP9 hD9 hS9 h91 h92 h93) (fun y1 M2 hw => ?_)
  obtain ⟨hy1, hw⟩ := hw
  refine V_iload_n X dX10_isKeyroot_6 rfl (q := 2) rfl ?_
  refine V_callVN_i X _ (gTO hy1) rfl (As := [iv p1]) (st := []) (c_X9_isKey l hy1 hw) ⟨va_cnB 1 X.2.2.2.1 gX10_isKeyroot_X9_isKey_n160 rfl rfl rfl (X.2.2.2.2.1.2.1 _ (List.mem_of_getElem? (i := 125) rfl)) (X.2.2.2.1 _ lk_X10_isKeyroot_i9) (by decide +kernel) ⟨Nat.le_of_ble_eq_true rfl, Nat.le_of_ble_eq_true rfl⟩, X.2.2.2.1 _ lk_X10_isKeyroot_im160, X.2.2.2.1 _ lk_X10_isKeyroot_se160⟩ rfl (Nat.le_of_ble_eq_true rfl) ⟨Nat.le_of_ble_eq_true rfl, Nat.le_of_ble_eq_true rfl⟩ rfl dX10_isKeyroot_7 (fun y3 M4 hw => ?_)
  obtain ⟨h5, hw⟩ := hw
  exact V_xret (Nat.le_of_ble_eq_true rfl) (Nat.le_of_ble_eq_true rfl) (V_zret X hr h5 hw dX10_isKeyroot_10)
set_option maxHeartbeats 4000000 in
set_option maxRecDepth 100000 in
theorem c_X10_isKeyroot (l : Launch) {p0 : Int} {p1 : Int} (hlt : l.stackTraces = false) {D : va_G} {g : GT} {A : Nat → Prop} {a : Nat → Nat} {b : Nat → Nat → Nat} {M : Mem} {Q : Int → Mem → Prop} {XQ : String → Mem → Prop} (hw : wp_X10_isKeyroot M p0 p1 Q XQ) : vx_Met l yX10_isKeyroot wsX10_isKeyroot ({ frames := 9, cells := 2, slots := 12, locals := 155 } : Room) (cPc D g A a b M [.ref (a 0), iv p0, iv p1]) (cQi D g A a b Q) (cX D g A a b XQ) 2 12 A := by
  refine vx_ofW (cc := cX10_isKeyroot) (maxL := 3) (ret := (some .boolean)) (by decide) rfl ?_
  intro p e s m args below meth c s₁ B hml htab hv
  obtain ⟨rfl, hP, hD, hG⟩ := hv
  have X : vC p s m _ meth c D g A RX10 wsX10_isKeyroot cX10_isKeyroot 3 := ⟨B.exec, B.bytes, findClass_of_methodNamed B.named, atoms_spec (ws := wsX10_isKeyroot) B.pre, hG, hml, B.notSynchronized⟩
  have hr := B.returns
  have hl := lv_entry ([.ref (a 0), iv p0, iv p1]) (n := 3) (Nat.le_of_ble_eq_true rfl)
  rw [lg_entry_eq]
  generalize (lg_sl ([.ref (a 0), iv p0, iv p1]) ++ List.replicate (3 - (lg_sl ([.ref (a 0), iv p0, iv p1])).length) Slot.unset).toArray = ls at hl ⊢
  have hl : lv_has ls 3 [(0, .ref (a 0)), (1, iv p0), (2, iv p1)] := hl
  exact wke_X10_isKeyroot X hr hlt htab hw s.heap [] ls hP hD va_S.rf hl

set_option maxRecDepth 20000 in
theorem ggX3_withoutPairs_X6_allAlone : GoodIn wsX3_withoutPairs wsX6_allAlone := goodIn_r _ [6, 7, 12, 13, 14, 15, 16, 17] (by decide +kernel) (by decide +kernel)
set_option maxRecDepth 20000 in
theorem gX3_withoutPairs_X6_allAlone_n62 : GoodIn wsX3_withoutPairs (wsX6_allAlone) := ggX3_withoutPairs_X6_allAlone
theorem dX3_withoutPairs_0 : decode cX3_withoutPairs 0 = .ok (.aload_n 0, 1) := by decide +kernel
theorem dX3_withoutPairs_1 : decode cX3_withoutPairs 1 = .ok (.getfield 12, 3) := by decide +kernel
theorem dX3_withoutPairs_4 : decode cX3_withoutPairs 4 = .ok (.iconst 0, 1) := by decide +kernel
theorem dX3_withoutPairs_5 : decode cX3_withoutPairs 5 = .ok (.aload_n 0, 1) := by decide +kernel
theorem dX3_withoutPairs_6 : decode cX3_withoutPairs 6 = .ok (.getfield 12, 3) := by decide +kernel
theorem dX3_withoutPairs_9 : decode cX3_withoutPairs 9 = .ok (.getfield 50, 3) := by decide +kernel
theorem dX3_withoutPairs_12 : decode cX3_withoutPairs 12 = .ok (.invokevirtual 62, 3) := by decide +kernel
theorem dX3_withoutPairs_15 : decode cX3_withoutPairs 15 = .ok (.aload_n 0, 1) := by decide +kernel
theorem dX3_withoutPairs_16 : decode cX3_withoutPairs 16 = .ok (.getfield 18, 3) := by decide +kernel
theorem dX3_withoutPairs_19 : decode cX3_withoutPairs 19 = .ok (.iconst 0, 1) := by decide +kernel
theorem dX3_withoutPairs_20 : decode cX3_withoutPairs 20 = .ok (.aload_n 0, 1) := by decide +kernel
theorem dX3_withoutPairs_21 : decode cX3_withoutPairs 21 = .ok (.getfield 18, 3) := by decide +kernel
theorem dX3_withoutPairs_24 : decode cX3_withoutPairs 24 = .ok (.getfield 50, 3) := by decide +kernel
theorem dX3_withoutPairs_27 : decode cX3_withoutPairs 27 = .ok (.invokevirtual 62, 3) := by decide +kernel
theorem dX3_withoutPairs_30 : decode cX3_withoutPairs 30 = .ok (.iadd, 1) := by decide +kernel
theorem dX3_withoutPairs_31 : decode cX3_withoutPairs 31 = .ok (.ireturn, 1) := by decide +kernel
theorem lk_X3_withoutPairs_f12 : Cond.fieldLink RX3 12 "TreeComparer$Layout" "old" "LTreeComparer$Row;" ∈ wsX3_withoutPairs := by decide +kernel
theorem hi_X3_withoutPairs_3 : ∀ w ∈ u_ws RX3 TX3 4, w ∈ wsX3_withoutPairs := by decide +kernel
theorem hi_X3_withoutPairs_6 : ∀ w ∈ u_ws RX6 TX6 6, w ∈ wsX3_withoutPairs := by decide +kernel
theorem lk_X3_withoutPairs_i6 : Cond.initialized RX6 ∈ wsX3_withoutPairs := by decide +kernel
theorem lk_X3_withoutPairs_im62 : Cond.instanceMethod yX6_allAlone ∈ wsX3_withoutPairs := by decide +kernel
theorem lk_X3_withoutPairs_se62 : Cond.selects RX6 yX6_allAlone yX6_allAlone ∈ wsX3_withoutPairs := by decide +kernel
theorem lk_X3_withoutPairs_f18 : Cond.fieldLink RX3 18 "TreeComparer$Layout" "current" "LTreeComparer$Row;" ∈ wsX3_withoutPairs := by decide +kernel
def wpe_X3_withoutPairs (M : Mem) (Q : Int → Mem → Prop) : Prop := wp_X6_allAlone M 9 0 ((M 9 5 0)) (fun y1 M2 => wp_X6_allAlone M2 10 0 ((M2 10 5 0)) (fun y3 M4 => Q (y1 + y3) M4))
def wp_X3_withoutPairs (M : Mem) (Q : Int → Mem → Prop) : Prop := wpe_X3_withoutPairs M Q
set_option maxHeartbeats 4000000 in
set_option maxRecDepth 100000 in
theorem wke_X3_withoutPairs {p : Program} {l : Launch} {e : Env} {s : State} {m : MethodId} {args : Array Value} {below : List Frame} {meth : Method} {c : Code} {D : va_G} {g : GT} {A : Nat → Prop} {a : Nat → Nat} {b : Nat → Nat → Nat} (X : vC p s m args meth c D g A RX3 wsX3_withoutPairs cX3_withoutPairs 1) (hr : meth.sig.returnType = (some .int)) {M : Mem} {Q : Int → Mem → Prop} (hw : wpe_X3_withoutPairs M Q) : vV p l e ({ frames := 1, cells := 0, slots := 0, locals := 22 } : Room) s m args below meth c D g A a b 1 0 0 (MQ below (cQi D g A a b Q) args s 0 0 A) M [(0, .ref (a 2))] 0 [] := by
  unfold wpe_X3_withoutPairs at hw
  refine V_aload_n X dX3_withoutPairs_0 rfl (q := 0) rfl ?_
  refine V_get (C := RX3) (T := TX3) (N := 4) (ci := 3) X hi_X3_withoutPairs_3 gO_2 rfl 1 (by decide) lk_X3_withoutPairs_f12 (fun _ h9 => h9) rfl dX3_withoutPairs_1 ?_
  refine V_iconst X dX3_withoutPairs_4 ?_
  refine V_aload_n X dX3_withoutPairs_5 rfl (q := 0) rfl ?_
  refine V_get (C := RX3) (T := TX3) (N := 4) (ci := 3) X hi_X3_withoutPairs_3 gO_2 rfl 1 (by decide) lk_X3_withoutPairs_f12 (fun _ h9 => h9) rfl dX3_withoutPairs_6 ?_
  refine V_getN (C := RX6) (T := TX6) (N := 6) (ci := 6) X hi_X3_withoutPairs_6 gO_9 rfl 5 (by decide) (List.mem_of_getElem? (i := 55) rfl) (fun _ h9 => h9) rfl dX3_withoutPairs_9 ?_
  refine V_callVN_i X _ gO_9 rfl (As := [iv 0, iv ((M 9 5 0))]) (st := []) (c_X6_allAlone l (by first | exact Or.inl rfl | exact Or.inr rfl) hw) ⟨va_cnB 2 X.2.2.2.1 gX3_withoutPairs_X6_allAlone_n62 rfl rfl rfl (X.2.2.2.2.1.2.1 _ (List.mem_of_getElem? (i := 102) rfl)) (X.2.2.2.1 _ lk_X3_withoutPairs_i6) (by decide +kernel) ⟨Nat.le_of_ble_eq_true rfl, Nat.le_of_ble_eq_true rfl⟩, X.2.2.2.1 _ lk_X3_withoutPairs_im62, X.2.2.2.1 _ lk_X3_withoutPairs_se62⟩ rfl (Nat.le_of_ble_eq_true rfl) ⟨Nat.le_of_ble_eq_true rfl, Nat.le_of_ble_eq_true rfl⟩ rfl dX3_withoutPairs_12 (fun y1 M2 hw => ?_)
  refine V_aload_n X dX3_withoutPairs_15 rfl (q := 0) rfl ?_
  refine V_get (C := RX3) (T := TX3) (N := 4) (ci := 3) X hi_X3_withoutPairs_3 gO_2 rfl 2 (by decide) lk_X3_withoutPairs_f18 (fun _ h9 => h9) rfl dX3_withoutPairs_16 ?_
  refine V_iconst X dX3_withoutPairs_19 ?_
  refine V_aload_n X dX3_withoutPairs_20 rfl (q := 0) rfl ?_
  refine V_get (C := RX3) (T := TX3) (N := 4) (ci := 3) X hi_X3_withoutPairs_3 gO_2 rfl 2 (by decide) lk_X3_withoutPairs_f18 (fun _ h9 => h9) rfl dX3_withoutPairs_21 ?_
  refine V_getN (C := RX6) (T := TX6) (N := 6) (ci := 6) X hi_X3_withoutPairs_6 gO_10 rfl 5 (by decide) (List.mem_of_getElem? (i := 55) rfl) (fun _ h9 => h9) rfl dX3_withoutPairs_24 ?_
  refine V_callVN_i X _ gO_10 rfl (As := [iv 0, iv ((M2 10 5 0))]) (st := [iv y1]) (c_X6_allAlone l (by first | exact Or.inl rfl | exact Or.inr rfl) hw) ⟨va_cnB 2 X.2.2.2.1 gX3_withoutPairs_X6_allAlone_n62 rfl rfl rfl (X.2.2.2.2.1.2.1 _ (List.mem_of_getElem? (i := 102) rfl)) (X.2.2.2.1 _ lk_X3_withoutPairs_i6) (by decide +kernel) ⟨Nat.le_of_ble_eq_true rfl, Nat.le_of_ble_eq_true rfl⟩, X.2.2.2.1 _ lk_X3_withoutPairs_im62, X.2.2.2.1 _ lk_X3_withoutPairs_se62⟩ rfl (Nat.le_of_ble_eq_true rfl) ⟨Nat.le_of_ble_eq_true rfl, Nat.le_of_ble_eq_true rfl⟩ rfl dX3_withoutPairs_27 (fun y3 M4 hw => ?_)
  refine V_iadd X dX3_withoutPairs_30 ?_
  exact V_iret X hr hw dX3_withoutPairs_31
set_option maxHeartbeats 4000000 in
set_option maxRecDepth 100000 in
theorem c_X3_withoutPairs (l : Launch) {D : va_G} {g : GT} {A : Nat → Prop} {a : Nat → Nat} {b : Nat → Nat → Nat} {M : Mem} {Q : Int → Mem → Prop} (hw : wp_X3_withoutPairs M Q) : Met l yX3_withoutPairs wsX3_withoutPairs ({ frames := 1, cells := 0, slots := 0, locals := 22 } : Room) (cPc D g A a b M [.ref (a 2)]) (cQi D g A a b Q) 0 0 A := by
  refine Met.ofW (cc := cX3_withoutPairs) (maxL := 1) (ret := (some .int)) (by decide) rfl ?_
  intro p e s m args below meth c s₁ B hml hv
  obtain ⟨rfl, hP, hD, hG⟩ := hv
  have X : vC p s m _ meth c D g A RX3 wsX3_withoutPairs cX3_withoutPairs 1 := ⟨B.exec, B.bytes, findClass_of_methodNamed B.named, atoms_spec (ws := wsX3_withoutPairs) B.pre, hG, hml, B.notSynchronized⟩
  have hr := B.returns
  have hl := lv_entry ([.ref (a 2)]) (n := 1) (Nat.le_of_ble_eq_true rfl)
  rw [lg_entry_eq]
  generalize (lg_sl ([.ref (a 2)]) ++ List.replicate (1 - (lg_sl ([.ref (a 2)])).length) Slot.unset).toArray = ls at hl ⊢
  have hl : lv_has ls 1 [(0, .ref (a 2))] := hl
  exact wke_X3_withoutPairs X hr  hw s.heap [] ls hP hD va_S.rf hl

theorem dX8_listChildren_0 : decode cX8_listChildren 0 = .ok (.iconst 0, 1) := by decide +kernel
theorem dX8_listChildren_1 : decode cX8_listChildren 1 = .ok (.istore_n 3, 1) := by decide +kernel
theorem dX8_listChildren_2 : decode cX8_listChildren 2 = .ok (.iload_n 1, 1) := by decide +kernel
theorem dX8_listChildren_3 : decode cX8_listChildren 3 = .ok (.iconst 1, 1) := by decide +kernel
theorem dX8_listChildren_4 : decode cX8_listChildren 4 = .ok (.isub, 1) := by decide +kernel
theorem dX8_listChildren_5 : decode cX8_listChildren 5 = .ok (.istore 4, 2) := by decide +kernel
theorem dX8_listChildren_7 : decode cX8_listChildren 7 = .ok (.iload_n 1, 1) := by decide +kernel
theorem dX8_listChildren_8 : decode cX8_listChildren 8 = .ok (.iconst 1, 1) := by decide +kernel
theorem dX8_listChildren_9 : decode cX8_listChildren 9 = .ok (.isub, 1) := by decide +kernel
theorem dX8_listChildren_10 : decode cX8_listChildren 10 = .ok (.istore 5, 2) := by decide +kernel
theorem dX8_listChildren_12 : decode cX8_listChildren 12 = .ok (.iload 5, 2) := by decide +kernel
theorem dX8_listChildren_14 : decode cX8_listChildren 14 = .ok (.aload_n 0, 1) := by decide +kernel
theorem dX8_listChildren_15 : decode cX8_listChildren 15 = .ok (.getfield 68, 3) := by decide +kernel
theorem dX8_listChildren_18 : decode cX8_listChildren 18 = .ok (.iload_n 1, 1) := by decide +kernel
theorem dX8_listChildren_19 : decode cX8_listChildren 19 = .ok (.iaload, 1) := by decide +kernel
theorem dX8_listChildren_20 : decode cX8_listChildren 20 = .ok (.if_icmp .lt 41, 3) := by decide +kernel
theorem dX8_listChildren_23 : decode cX8_listChildren 23 = .ok (.iload 5, 2) := by decide +kernel
theorem dX8_listChildren_25 : decode cX8_listChildren 25 = .ok (.iload 4, 2) := by decide +kernel
theorem dX8_listChildren_27 : decode cX8_listChildren 27 = .ok (.if_icmp .ne 28, 3) := by decide +kernel
theorem dX8_listChildren_30 : decode cX8_listChildren 30 = .ok (.iload_n 3, 1) := by decide +kernel
theorem dX8_listChildren_31 : decode cX8_listChildren 31 = .ok (.aload_n 2, 1) := by decide +kernel
theorem dX8_listChildren_32 : decode cX8_listChildren 32 = .ok (.arraylength, 1) := by decide +kernel
theorem dX8_listChildren_33 : decode cX8_listChildren 33 = .ok (.if_icmp .ge 22, 3) := by decide +kernel
theorem dX8_listChildren_36 : decode cX8_listChildren 36 = .ok (.aload_n 2, 1) := by decide +kernel
theorem dX8_listChildren_37 : decode cX8_listChildren 37 = .ok (.iload_n 3, 1) := by decide +kernel
theorem dX8_listChildren_38 : decode cX8_listChildren 38 = .ok (.iload 5, 2) := by decide +kernel
theorem dX8_listChildren_40 : decode cX8_listChildren 40 = .ok (.iastore, 1) := by decide +kernel
theorem dX8_listChildren_41 : decode cX8_listChildren 41 = .ok (.iinc 3 1, 3) := by decide +kernel
theorem dX8_listChildren_44 : decode cX8_listChildren 44 = .ok (.aload_n 0, 1) := by decide +kernel
theorem dX8_listChildren_45 : decode cX8_listChildren 45 = .ok (.getfield 68, 3) := by decide +kernel
theorem dX8_listChildren_48 : decode cX8_listChildren 48 = .ok (.iload 5, 2) := by decide +kernel
theorem dX8_listChildren_50 : decode cX8_listChildren 50 = .ok (.iaload, 1) := by decide +kernel
theorem dX8_listChildren_51 : decode cX8_listChildren 51 = .ok (.iconst 1, 1) := by decide +kernel
theorem dX8_listChildren_52 : decode cX8_listChildren 52 = .ok (.isub, 1) := by decide +kernel
theorem dX8_listChildren_53 : decode cX8_listChildren 53 = .ok (.istore 4, 2) := by decide +kernel
theorem dX8_listChildren_55 : decode cX8_listChildren 55 = .ok (.iinc 5 (-1), 3) := by decide +kernel
theorem dX8_listChildren_58 : decode cX8_listChildren 58 = .ok (.goto (-46), 3) := by decide +kernel
theorem dX8_listChildren_61 : decode cX8_listChildren 61 = .ok (.iload_n 3, 1) := by decide +kernel
theorem dX8_listChildren_62 : decode cX8_listChildren 62 = .ok (.ireturn, 1) := by decide +kernel
theorem hi_X8_listChildren_6 : ∀ w ∈ u_ws RX6 TX6 6, w ∈ wsX8_listChildren := by decide +kernel
def wpj_X8_listChildren_55 (p0 : Nat) (p1 : Int) (po2 pk2 pn2 : Nat) (x3 : Int) (x4 : Int) (x5 : Int) (M : Mem) (J12 : Int → Int → Int → Mem → Prop) (Q : Int → Mem → Prop) : Prop := J12 x3 x4 (x5 + (-1)) M
def wph_X8_listChildren_12 (p0 : Nat) (p1 : Int) (po2 pk2 pn2 : Nat) (x3 : Int) (x4 : Int) (x5 : Int) (M : Mem) (J12 : Int → Int → Int → Mem → Prop) (Q : Int → Mem → Prop) : Prop := ((0 : Int) ≤ p1 ∧ p1 < 12) ∧ inR x5 ∧ inR (M p0 1 p1.toNat) ∧ ((x5 < (M p0 1 p1.toNat) → Q x3 M) ∧ (¬ (x5 < (M p0 1 p1.toNat)) → inR x5 ∧ inR x4 ∧ ((x5 ≠ x4 → wpj_X8_listChildren_55 p0 p1 po2 pk2 pn2 x3 x4 x5 M J12 Q) ∧ (¬ (x5 ≠ x4) → inR x3 ∧ inR (pn2 : Int) ∧ (((pn2 : Int) ≤ x3 → wpj_X8_listChildren_55 p0 p1 po2 pk2 pn2 x3 x4 x5 M J12 Q) ∧ (¬ ((pn2 : Int) ≤ x3) → ((0 : Int) ≤ x3 ∧ x3 < pn2) ∧ (∀ M13 : Mem, M13 = mset M po2 pk2 x3.toNat x5 → ((0 : Int) ≤ x5 ∧ x5 < 12) ∧ (∀ y16 : Int, y16 = (M13 p0 1 x5.toNat) - 1 → wpj_X8_listChildren_55 p0 p1 po2 pk2 pn2 (x3 + 1) y16 x5 M13 J12 Q))))))))
def wpe_X8_listChildren (p0 : Nat) (p1 : Int) (po2 pk2 pn2 : Nat) (M : Mem) (J12 : Int → Int → Int → Mem → Prop) (Q : Int → Mem → Prop) : Prop := (∀ y1 : Int, y1 = p1 - 1 → (∀ y2 : Int, y2 = p1 - 1 → J12 0 y1 y2 M))
def wp_X8_listChildren (M : Mem) (p0 : Nat) (p1 : Int) (po2 pk2 pn2 : Nat) (Q : Int → Mem → Prop) : Prop := ∃ (I12 : Nat → Int → Int → Int → Mem → Prop), wpe_X8_listChildren p0 p1 po2 pk2 pn2 M (fun (x3 : Int) (x4 : Int) (x5 : Int) (M1 : Mem) => ∃ n1 : Nat, I12 n1 x3 x4 x5 M1) Q ∧ (∀ (n : Nat) (x3 : Int) (x4 : Int) (x5 : Int) (M : Mem), I12 n x3 x4 x5 M → wph_X8_listChildren_12 p0 p1 po2 pk2 pn2 x3 x4 x5 M (fun (x3 : Int) (x4 : Int) (x5 : Int) (M1 : Mem) => ∃ n1 : Nat, n1 < n ∧ I12 n1 x3 x4 x5 M1) Q)
set_option maxHeartbeats 4000000 in
set_option maxRecDepth 100000 in
theorem wkj_X8_listChildren_55 {p : Program} {l : Launch} {e : Env} {s : State} {m : MethodId} {args : Array Value} {below : List Frame} {meth : Method} {c : Code} {D : va_G} {g : GT} {A : Nat → Prop} {a : Nat → Nat} {b : Nat → Nat → Nat} (X : vC p s m args meth c D g A RX8 wsX8_listChildren cX8_listChildren 6) (hr : meth.sig.returnType = (some .int)) {p0 : Nat} {p1 : Int} {po2 pk2 pn2 : Nat} (hp0 : isR p0) {pq2 : Nat} (ha2 : isArr pq2 po2 pk2 pn2) {x3 : Int} {x4 : Int} {x5 : Int} {M : Mem} {J12 : Int → Int → Int → Mem → Prop} {Q : Int → Mem → Prop} (hJ12 : ∀ (x3 : Int) (x4 : Int) (x5 : Int) (M : Mem), J12 x3 x4 x5 M → vV p l e ({ frames := 0, cells := 0, slots := 0, locals := 0 } : Room) s m args below meth c D g A a b 6 0 0 (MQ below (cQi D g A a b Q) args s 0 0 A) M [(0, .ref (a p0)), (1, iv p1), (2, .ref (b po2 pk2)), (3, iv x3), (4, iv x4), (5, iv x5)] 12 []) (hw : wpj_X8_listChildren_55 p0 p1 po2 pk2 pn2 x3 x4 x5 M J12 Q) : vV p l e ({ frames := 0, cells := 0, slots := 0, locals := 0 } : Room) s m args below meth c D g A a b 6 0 0 (MQ below (cQi D g A a b Q) args s 0 0 A) M [(0, .ref (a p0)), (1, iv p1), (2, .ref (b po2 pk2)), (3, iv x3), (4, iv x4), (5, iv x5)] 55 [] := by
  unfold wpj_X8_listChildren_55 at hw
  refine V_iinc (lv1 := [(0, .ref (a p0)), (1, iv p1), (2, .ref (b po2 pk2)), (3, iv x3), (4, iv x4), (5, iv (x5 + (-1)))]) X [1, 2, 3, 4, 5, 0] dX8_listChildren_55 (q := 5) rfl (by decide) rfl ?_
  refine V_goto (tgt := 12) X dX8_listChildren_58 (by decide) ?_
  exact hJ12 _ _ _ _ hw
set_option maxHeartbeats 4000000 in
set_option maxRecDepth 100000 in
theorem wkh_X8_listChildren_12 {p : Program} {l : Launch} {e : Env} {s : State} {m : MethodId} {args : Array Value} {below : List Frame} {meth : Method} {c : Code} {D : va_G} {g : GT} {A : Nat → Prop} {a : Nat → Nat} {b : Nat → Nat → Nat} (X : vC p s m args meth c D g A RX8 wsX8_listChildren cX8_listChildren 6) (hr : meth.sig.returnType = (some .int)) {p0 : Nat} {p1 : Int} {po2 pk2 pn2 : Nat} (hp0 : isR p0) {pq2 : Nat} (ha2 : isArr pq2 po2 pk2 pn2) {x3 : Int} {x4 : Int} {x5 : Int} {M : Mem} {J12 : Int → Int → Int → Mem → Prop} {Q : Int → Mem → Prop} (hJ12 : ∀ (x3 : Int) (x4 : Int) (x5 : Int) (M : Mem), J12 x3 x4 x5 M → vV p l e ({ frames := 0, cells := 0, slots := 0, locals := 0 } : Room) s m args below meth c D g A a b 6 0 0 (MQ below (cQi D g A a b Q) args s 0 0 A) M [(0, .ref (a p0)), (1, iv p1), (2, .ref (b po2 pk2)), (3, iv x3), (4, iv x4), (5, iv x5)] 12 []) (hw : wph_X8_listChildren_12 p0 p1 po2 pk2 pn2 x3 x4 x5 M J12 Q) : vV p l e ({ frames := 0, cells := 0, slots := 0, locals := 0 } : Room) s m args below meth c D g A a b 6 0 0 (MQ below (cQi D g A a b Q) args s 0 0 A) M [(0, .ref (a p0)), (1, iv p1), (2, .ref (b po2 pk2)), (3, iv x3), (4, iv x4), (5, iv x5)] 12 [] := by
  unfold wph_X8_listChildren_12 at hw
  refine V_iload X dX8_listChildren_12 (q := 5) rfl ?_
  refine V_aload_n X dX8_listChildren_14 rfl (q := 0) rfl ?_
  refine V_getN (C := RX6) (T := TX6) (N := 6) (ci := 6) X hi_X8_listChildren_6 (gRO hp0) rfl 1 (by decide) (List.mem_of_getElem? (i := 47) rfl) (fun _ h9 => h9) rfl dX8_listChildren_15 ?_
  refine V_iload_n X dX8_listChildren_18 rfl (q := 1) rfl ?_
  obtain ⟨h3, hw⟩ := hw
  refine V_iald X ((gR_1 hp0)) h3 (by decide) dX8_listChildren_19 ?_
  obtain ⟨h4, h5, hw⟩ := hw
  refine V_icmp_lt (tgt := 61) X h4 h5 dX8_listChildren_20 (by decide) (fun q6 => ?_) (fun q6 => ?_)
  · have hw := hw.1 q6
    refine V_iload_n X dX8_listChildren_61 rfl (q := 3) rfl ?_
    exact V_iret X hr hw dX8_listChildren_62
  · have hw := hw.2 q6
    refine V_iload X dX8_listChildren_23 (q := 5) rfl ?_
    refine V_iload X dX8_listChildren_25 (q := 4) rfl ?_
    obtain ⟨h7, h8, hw⟩ := hw
    refine V_icmp_ne (tgt := 55) X h7 h8 dX8_listChildren_27 (by decide) (fun q9 => ?_) (fun q9 => ?_)
    · have hw := hw.1 q9
      exact wkj_X8_listChildren_55 X hr hp0 ha2 hJ12 hw
    · have hw := hw.2 q9
      refine V_iload_n X dX8_listChildren_30 rfl (q := 3) rfl ?_
      refine V_aload_n X dX8_listChildren_31 rfl (q := 2) rfl ?_
      refine V_alen X (ha2.1 _ _ _ _) dX8_listChildren_32 ?_
      obtain ⟨h10, h11, hw⟩ := hw
      refine V_icmp_ge (tgt := 55) X h10 h11 dX8_listChildren_33 (by decide) (fun q12 => ?_) (fun q12 => ?_)
      · have hw := hw.1 q12
        exact wkj_X8_listChildren_55 X hr hp0 ha2 hJ12 hw
      · have hw := hw.2 q12
        refine V_aload_n X dX8_listChildren_36 rfl (q := 2) rfl ?_
        refine V_iload_n X dX8_listChildren_37 rfl (q := 3) rfl ?_
        refine V_iload X dX8_listChildren_38 (q := 5) rfl ?_
        obtain ⟨h14, hw⟩ := hw
        refine V_iast X (ha2.1 _ _ _ _) (ha2.2.1 _ _ _ _ _ _) h14 ha2.2.2 dX8_listChildren_40 (fun M13 eM13 => ?_)
        have hw := hw M13 eM13
        refine V_iinc (lv1 := [(0, .ref (a p0)), (1, iv p1), (2, .ref (b po2 pk2)), (3, iv (x3 + 1)), (4, iv x4), (5, iv x5)]) X [1, 2, 3, 0, 4, 5] dX8_listChildren_41 (q := 3) rfl (by decide) rfl ?_
        refine V_aload_n X dX8_listChildren_44 rfl (q := 0) rfl ?_
        refine V_getN (C := RX6) (T := TX6) (N := 6) (ci := 6) X hi_X8_listChildren_6 (gRO hp0) rfl 1 (by decide) (List.mem_of_getElem? (i := 47) rfl) (fun _ h9 => h9) rfl dX8_listChildren_45 ?_
        refine V_iload X dX8_listChildren_48 (q := 5) rfl ?_
        obtain ⟨h15, hw⟩ := hw
        refine V_iald X ((gR_1 hp0)) h15 (by decide) dX8_listChildren_50 ?_
        refine V_iconst X dX8_listChildren_51 ?_
        refine V_isub X dX8_listChildren_52 ?_
        refine V_top (fun y16 ey16 => ?_)
        have hw := hw y16 ey16
        refine V_istore (lv1 := [(0, .ref (a p0)), (1, iv p1), (2, .ref (b po2 pk2)), (3, iv (x3 + 1)), (4, iv y16), (5, iv x5)]) X [1, 2, 3, 4, 0, 5] dX8_listChildren_53 (by decide) rfl ?_
        exact wkj_X8_listChildren_55 X hr hp0 ha2 hJ12 hw
set_option maxHeartbeats 4000000 in
set_option maxRecDepth 100000 in
theorem wke_X8_listChildren {p : Program} {l : Launch} {e : Env} {s : State} {m : MethodId} {args : Array Value} {below : List Frame} {meth : Method} {c : Code} {D : va_G} {g : GT} {A : Nat → Prop} {a : Nat → Nat} {b : Nat → Nat → Nat} (X : vC p s m args meth c D g A RX8 wsX8_listChildren cX8_listChildren 6) (hr : meth.sig.returnType = (some .int)) {p0 : Nat} {p1 : Int} {po2 pk2 pn2 : Nat} (hp0 : isR p0) {pq2 : Nat} (ha2 : isArr pq2 po2 pk2 pn2) {M : Mem} {J12 : Int → Int → Int → Mem → Prop} {Q : Int → Mem → Prop} (hJ12 : ∀ (x3 : Int) (x4 : Int) (x5 : Int) (M : Mem), J12 x3 x4 x5 M → vV p l e ({ frames := 0, cells := 0, slots := 0, locals := 0 } : Room) s m args below meth c D g A a b 6 0 0 (MQ below (cQi D g A a b Q) args s 0 0 A) M [(0, .ref (a p0)), (1, iv p1), (2, .ref (b po2 pk2)), (3, iv x3), (4, iv x4), (5, iv x5)] 12 []) (hw : wpe_X8_listChildren p0 p1 po2 pk2 pn2 M J12 Q) : vV p l e ({ frames := 0, cells := 0, slots := 0, locals := 0 } : Room) s m args below meth c D g A a b 6 0 0 (MQ below (cQi D g A a b Q) args s 0 0 A) M [(0, .ref (a p0)), (1, iv p1), (2, .ref (b po2 pk2))] 0 [] := by
  unfold wpe_X8_listChildren at hw
  refine V_iconst X dX8_listChildren_0 ?_
  refine V_istore_n (lv1 := [(0, .ref (a p0)), (1, iv p1), (2, .ref (b po2 pk2)), (3, iv 0)]) X [1, 2, 3, 0] dX8_listChildren_1 rfl (by decide) rfl ?_
  refine V_iload_n X dX8_listChildren_2 rfl (q := 1) rfl ?_
  refine V_iconst X dX8_listChildren_3 ?_
  refine V_isub X dX8_listChildren_4 ?_
  refine V_top (fun y1 ey1 => ?_)
  have hw := hw y1 ey1
  refine V_istore (lv1 := [(0, .ref (a p0)), (1, iv p1), (2, .ref (b po2 pk2)), (3, iv 0), (4, iv y1)]) X [1, 2, 3, 4, 0] dX8_listChildren_5 (by decide) rfl ?_
  refine V_iload_n X dX8_listChildren_7 rfl (q := 1) rfl ?_
  refine V_iconst X dX8_listChildren_8 ?_
  refine V_isub X dX8_listChildren_9 ?_
  refine V_top (fun y2 ey2 => ?_)
  have hw := hw y2 ey2
  refine V_istore (lv1 := [(0, .ref (a p0)), (1, iv p1), (2, .ref (b po2 pk2)), (3, iv 0), (4, iv y1), (5, iv y2)]) X [1, 2, 3, 4, 5, 0] dX8_listChildren_10 (by decide) rfl ?_
  exact hJ12 _ _ _ _ hw
set_option maxHeartbeats 4000000 in
set_option maxRecDepth 100000 in
theorem c_X8_listChildren (l : Launch) {p0 : Nat} {p1 : Int} {po2 pk2 pn2 : Nat} (hp0 : isR p0) {pq2 : Nat} (ha2 : isArr pq2 po2 pk2 pn2) {D : va_G} {g : GT} {A : Nat → Prop} {a : Nat → Nat} {b : Nat → Nat → Nat} {M : Mem} {Q : Int → Mem → Prop} (hw : wp_X8_listChildren M p0 p1 po2 pk2 pn2 Q) : Met l yX8_listChildren wsX8_listChildren ({ frames := 0, cells := 0, slots := 0, locals := 0 } : Room) (cPc D g A a b M [.ref (a p0), iv p1, .ref (b po2 pk2)]) (cQi D g A a b Q) 0 0 A := by
  refine Met.ofW (cc := cX8_listChildren) (maxL := 6) (ret := (some .int)) (by decide) rfl ?_
  intro p e s m args below meth c s₁ B hml hv
  obtain ⟨rfl, hP, hD, hG⟩ := hv
  have X : vC p s m _ meth c D g A RX8 wsX8_listChildren cX8_listChildren 6 := ⟨B.exec, B.bytes, findClass_of_methodNamed B.named, atoms_spec (ws := wsX8_listChildren) B.pre, hG, hml, B.notSynchronized⟩
  have hr := B.returns
  have hl := lv_entry ([.ref (a p0), iv p1, .ref (b po2 pk2)]) (n := 6) (Nat.le_of_ble_eq_true rfl)
  rw [lg_entry_eq]
  generalize (lg_sl ([.ref (a p0), iv p1, .ref (b po2 pk2)]) ++ List.replicate (6 - (lg_sl ([.ref (a p0), iv p1, .ref (b po2 pk2)])).length) Slot.unset).toArray = ls at hl ⊢
  have hl : lv_has ls 6 [(0, .ref (a p0)), (1, iv p1), (2, .ref (b po2 pk2))] := hl
  obtain ⟨I12, hw, hI12⟩ := hw
  have K : ∀ n : Nat, (∀ (x3 : Int) (x4 : Int) (x5 : Int) (M : Mem), I12 n x3 x4 x5 M → vV p l e ({ frames := 0, cells := 0, slots := 0, locals := 0 } : Room) s m ([.ref (a p0), iv p1, .ref (b po2 pk2)] : List Value).toArray below meth c D g A a b 6 0 0 (MQ below (cQi D g A a b Q) ([.ref (a p0), iv p1, .ref (b po2 pk2)] : List Value).toArray s 0 0 A) M [(0, .ref (a p0)), (1, iv p1), (2, .ref (b po2 pk2)), (3, iv x3), (4, iv x4), (5, iv x5)] 12 []) := by
    intro n
    induction n using Nat.strongRecOn with
    | ind n ih =>
      exact fun x3 x4 x5 M hh => wkh_X8_listChildren_12 X hr hp0 ha2 (fun _ _ _ _ ⟨n1, hn, hh⟩ => (ih n1 hn) _ _ _ _ hh) (hI12 n x3 x4 x5 M hh)
  exact wke_X8_listChildren X hr hp0 ha2 (fun _ _ _ _ ⟨n1, hh⟩ => (K n1) _ _ _ _ hh) hw s.heap [] ls hP hD va_S.rf hl

set_option maxRecDepth 20000 in
theorem ggX8_subtreeAlone_X6_allAlone : GoodIn wsX8_subtreeAlone wsX6_allAlone := goodIn_r _ [4, 5, 6, 7, 8, 9, 10, 11] (by decide +kernel) (by decide +kernel)
set_option maxRecDepth 20000 in
theorem gX8_subtreeAlone_X6_allAlone_n71 : GoodIn wsX8_subtreeAlone (wsX6_allAlone) := ggX8_subtreeAlone_X6_allAlone
theorem dX8_subtreeAlone_0 : decode cX8_subtreeAlone 0 = .ok (.aload_n 0, 1) := by decide +kernel
theorem dX8_subtreeAlone_1 : decode cX8_subtreeAlone 1 = .ok (.aload_n 0, 1) := by decide +kernel
theorem dX8_subtreeAlone_2 : decode cX8_subtreeAlone 2 = .ok (.getfield 68, 3) := by decide +kernel
theorem dX8_subtreeAlone_5 : decode cX8_subtreeAlone 5 = .ok (.iload_n 1, 1) := by decide +kernel
theorem dX8_subtreeAlone_6 : decode cX8_subtreeAlone 6 = .ok (.iaload, 1) := by decide +kernel
theorem dX8_subtreeAlone_7 : decode cX8_subtreeAlone 7 = .ok (.iload_n 1, 1) := by decide +kernel
theorem dX8_subtreeAlone_8 : decode cX8_subtreeAlone 8 = .ok (.iconst 1, 1) := by decide +kernel
theorem dX8_subtreeAlone_9 : decode cX8_subtreeAlone 9 = .ok (.iadd, 1) := by decide +kernel
theorem dX8_subtreeAlone_10 : decode cX8_subtreeAlone 10 = .ok (.invokevirtual 71, 3) := by decide +kernel
theorem dX8_subtreeAlone_13 : decode cX8_subtreeAlone 13 = .ok (.ireturn, 1) := by decide +kernel
theorem hi_X8_subtreeAlone_6 : ∀ w ∈ u_ws RX6 TX6 6, w ∈ wsX8_subtreeAlone := by decide +kernel
theorem lk_X8_subtreeAlone_i6 : Cond.initialized RX6 ∈ wsX8_subtreeAlone := by decide +kernel
theorem lk_X8_subtreeAlone_im71 : Cond.instanceMethod yX6_allAlone ∈ wsX8_subtreeAlone := by decide +kernel
theorem lk_X8_subtreeAlone_se71 : Cond.selects RX6 yX6_allAlone yX6_allAlone ∈ wsX8_subtreeAlone := by decide +kernel
def wpe_X8_subtreeAlone (p0 : Nat) (p1 : Int) (M : Mem) (Q : Int → Mem → Prop) : Prop := ((0 : Int) ≤ p1 ∧ p1 < 12) ∧ wp_X6_allAlone M p0 ((M p0 1 p1.toNat)) (p1 + 1) (fun y2 M3 => Q y2 M3)
def wp_X8_subtreeAlone (M : Mem) (p0 : Nat) (p1 : Int) (Q : Int → Mem → Prop) : Prop := wpe_X8_subtreeAlone p0 p1 M Q
set_option maxHeartbeats 4000000 in
set_option maxRecDepth 100000 in
theorem wke_X8_subtreeAlone {p : Program} {l : Launch} {e : Env} {s : State} {m : MethodId} {args : Array Value} {below : List Frame} {meth : Method} {c : Code} {D : va_G} {g : GT} {A : Nat → Prop} {a : Nat → Nat} {b : Nat → Nat → Nat} (X : vC p s m args meth c D g A RX8 wsX8_subtreeAlone cX8_subtreeAlone 2) (hr : meth.sig.returnType = (some .int)) {p0 : Nat} {p1 : Int} (hp0 : isR p0) {M : Mem} {Q : Int → Mem → Prop} (hw : wpe_X8_subtreeAlone p0 p1 M Q) : vV p l e ({ frames := 1, cells := 0, slots := 0, locals := 22 } : Room) s m args below meth c D g A a b 2 0 0 (MQ below (cQi D g A a b Q) args s 0 0 A) M [(0, .ref (a p0)), (1, iv p1)] 0 [] := by
  unfold wpe_X8_subtreeAlone at hw
  refine V_aload_n X dX8_subtreeAlone_0 rfl (q := 0) rfl ?_
  refine V_aload_n X dX8_subtreeAlone_1 rfl (q := 0) rfl ?_
  refine V_getN (C := RX6) (T := TX6) (N := 6) (ci := 6) X hi_X8_subtreeAlone_6 (gRO hp0) rfl 1 (by decide) (List.mem_of_getElem? (i := 47) rfl) (fun _ h9 => h9) rfl dX8_subtreeAlone_2 ?_
  refine V_iload_n X dX8_subtreeAlone_5 rfl (q := 1) rfl ?_
  obtain ⟨h1, hw⟩ := hw
  refine V_iald X ((gR_1 hp0)) h1 (by decide) dX8_subtreeAlone_6 ?_
  refine V_iload_n X dX8_subtreeAlone_7 rfl (q := 1) rfl ?_
  refine V_iconst X dX8_subtreeAlone_8 ?_
  refine V_iadd X dX8_subtreeAlone_9 ?_
  refine V_callVN_i X _ (gRO hp0) rfl (As := [iv ((M p0 1 p1.toNat)), iv (p1 + 1)]) (st := []) (c_X6_allAlone l hp0 hw) ⟨va_cnB 2 X.2.2.2.1 gX8_subtreeAlone_X6_allAlone_n71 rfl rfl rfl (X.2.2.2.2.1.2.1 _ (List.mem_of_getElem? (i := 107) rfl)) (X.2.2.2.1 _ lk_X8_subtreeAlone_i6) (by decide +kernel) ⟨Nat.le_of_ble_eq_true rfl, Nat.le_of_ble_eq_true rfl⟩, X.2.2.2.1 _ lk_X8_subtreeAlone_im71, X.2.2.2.1 _ lk_X8_subtreeAlone_se71⟩ rfl (Nat.le_of_ble_eq_true rfl) ⟨Nat.le_of_ble_eq_true rfl, Nat.le_of_ble_eq_true rfl⟩ rfl dX8_subtreeAlone_10 (fun y2 M3 hw => ?_)
  exact V_iret X hr hw dX8_subtreeAlone_13
set_option maxHeartbeats 4000000 in
set_option maxRecDepth 100000 in
theorem c_X8_subtreeAlone (l : Launch) {p0 : Nat} {p1 : Int} (hp0 : isR p0) {D : va_G} {g : GT} {A : Nat → Prop} {a : Nat → Nat} {b : Nat → Nat → Nat} {M : Mem} {Q : Int → Mem → Prop} (hw : wp_X8_subtreeAlone M p0 p1 Q) : Met l yX8_subtreeAlone wsX8_subtreeAlone ({ frames := 1, cells := 0, slots := 0, locals := 22 } : Room) (cPc D g A a b M [.ref (a p0), iv p1]) (cQi D g A a b Q) 0 0 A := by
  refine Met.ofW (cc := cX8_subtreeAlone) (maxL := 2) (ret := (some .int)) (by decide) rfl ?_
  intro p e s m args below meth c s₁ B hml hv
  obtain ⟨rfl, hP, hD, hG⟩ := hv
  have X : vC p s m _ meth c D g A RX8 wsX8_subtreeAlone cX8_subtreeAlone 2 := ⟨B.exec, B.bytes, findClass_of_methodNamed B.named, atoms_spec (ws := wsX8_subtreeAlone) B.pre, hG, hml, B.notSynchronized⟩
  have hr := B.returns
  have hl := lv_entry ([.ref (a p0), iv p1]) (n := 2) (Nat.le_of_ble_eq_true rfl)
  rw [lg_entry_eq]
  generalize (lg_sl ([.ref (a p0), iv p1]) ++ List.replicate (2 - (lg_sl ([.ref (a p0), iv p1])).length) Slot.unset).toArray = ls at hl ⊢
  have hl : lv_has ls 2 [(0, .ref (a p0)), (1, iv p1)] := hl
  exact wke_X8_subtreeAlone X hr hp0 hw s.heap [] ls hP hD va_S.rf hl
