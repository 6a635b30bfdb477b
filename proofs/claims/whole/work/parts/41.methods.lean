theorem dX11_child_0 : decode cX11_child 0 = .ok (.iload_n 2, 1) := by decide +kernel
theorem dX11_child_1 : decode cX11_child 1 = .ok (.iconst 1, 1) := by decide +kernel
theorem dX11_child_2 : decode cX11_child 2 = .ok (.iadd, 1) := by decide +kernel
theorem dX11_child_3 : decode cX11_child 3 = .ok (.istore 4, 2) := by decide +kernel
theorem dX11_child_5 : decode cX11_child 5 = .ok (.iconst 0, 1) := by decide +kernel
theorem dX11_child_6 : decode cX11_child 6 = .ok (.istore 5, 2) := by decide +kernel
theorem dX11_child_8 : decode cX11_child 8 = .ok (.iload 5, 2) := by decide +kernel
theorem dX11_child_10 : decode cX11_child 10 = .ok (.iload_n 3, 1) := by decide +kernel
theorem dX11_child_11 : decode cX11_child 11 = .ok (.if_icmp .ge 26, 3) := by decide +kernel
theorem dX11_child_14 : decode cX11_child 14 = .ok (.iload 4, 2) := by decide +kernel
theorem dX11_child_16 : decode cX11_child 16 = .ok (.aload_n 0, 1) := by decide +kernel
theorem dX11_child_17 : decode cX11_child 17 = .ok (.getfield 22, 3) := by decide +kernel
theorem dX11_child_20 : decode cX11_child 20 = .ok (.bipush 12, 2) := by decide +kernel
theorem dX11_child_22 : decode cX11_child 22 = .ok (.iload_n 1, 1) := by decide +kernel
theorem dX11_child_23 : decode cX11_child 23 = .ok (.imul, 1) := by decide +kernel
theorem dX11_child_24 : decode cX11_child 24 = .ok (.iload 4, 2) := by decide +kernel
theorem dX11_child_26 : decode cX11_child 26 = .ok (.iadd, 1) := by decide +kernel
theorem dX11_child_27 : decode cX11_child 27 = .ok (.iaload, 1) := by decide +kernel
theorem dX11_child_28 : decode cX11_child 28 = .ok (.iadd, 1) := by decide +kernel
theorem dX11_child_29 : decode cX11_child 29 = .ok (.istore 4, 2) := by decide +kernel
theorem dX11_child_31 : decode cX11_child 31 = .ok (.iinc 5 1, 3) := by decide +kernel
theorem dX11_child_34 : decode cX11_child 34 = .ok (.goto (-26), 3) := by decide +kernel
theorem dX11_child_37 : decode cX11_child 37 = .ok (.iload 4, 2) := by decide +kernel
theorem dX11_child_39 : decode cX11_child 39 = .ok (.ireturn, 1) := by decide +kernel
theorem lk_X11_child_f22 : Cond.fieldLink RX11 22 "TreeComparerModel" "size" "[I" ∈ wsX11_child := by decide +kernel
theorem hi_X11_child_11 : ∀ w ∈ u_ws RX11 TX11 24, w ∈ wsX11_child := by decide +kernel
def wph_X11_child_8 (p0 : Int) (p1 : Int) (p2 : Int) (x4 : Int) (x5 : Int) (M : Mem) (J8 : Int → Int → Mem → Prop) (Q : Int → Mem → Prop) : Prop := inR x5 ∧ inR p2 ∧ ((p2 ≤ x5 → Q x4 M) ∧ (¬ (p2 ≤ x5) → ((0 : Int) ≤ (12 * p0) + x4 ∧ (12 * p0) + x4 < 24) ∧ (∀ y6 : Int, y6 = x4 + (M 13 4 ((12 * p0) + x4).toNat) → J8 y6 (x5 + 1) M)))
def wpe_X11_child (p0 : Int) (p1 : Int) (p2 : Int) (M : Mem) (J8 : Int → Int → Mem → Prop) (Q : Int → Mem → Prop) : Prop := (∀ y1 : Int, y1 = p1 + 1 → J8 y1 0 M)
def wp_X11_child (M : Mem) (p0 : Int) (p1 : Int) (p2 : Int) (Q : Int → Mem → Prop) : Prop := ∃ (I8 : Nat → Int → Int → Mem → Prop), wpe_X11_child p0 p1 p2 M (fun (x4 : Int) (x5 : Int) (M1 : Mem) => ∃ n1 : Nat, I8 n1 x4 x5 M1) Q ∧ (∀ (n : Nat) (x4 : Int) (x5 : Int) (M : Mem), I8 n x4 x5 M → wph_X11_child_8 p0 p1 p2 x4 x5 M (fun (x4 : Int) (x5 : Int) (M1 : Mem) => ∃ n1 : Nat, n1 < n ∧ I8 n1 x4 x5 M1) Q)
set_option maxHeartbeats 4000000 in
set_option maxRecDepth 100000 in
theorem wkh_X11_child_8 {p : Program} {l : Launch} {e : Env} {s : State} {m : MethodId} {args : Array Value} {below : List Frame} {meth : Method} {c : Code} {D : va_G} {g : GT} {A : Nat → Prop} {a : Nat → Nat} {b : Nat → Nat → Nat} (X : vC p s m args meth c D g A RX11 wsX11_child cX11_child 6) (hr : meth.sig.returnType = (some .int)) {p0 : Int} {p1 : Int} {p2 : Int} {x4 : Int} {x5 : Int} {M : Mem} {J8 : Int → Int → Mem → Prop} {Q : Int → Mem → Prop} (hJ8 : ∀ (x4 : Int) (x5 : Int) (M : Mem), J8 x4 x5 M → vV p l e ({ frames := 0, cells := 0, slots := 0, locals := 0 } : Room) s m args below meth c D g A a b 6 0 0 (MQ below (cQi D g A a b Q) args s 0 0 A) M [(0, .ref (a 13)), (1, iv p0), (3, iv p2), (4, iv x4), (5, iv x5)] 8 []) (hw : wph_X11_child_8 p0 p1 p2 x4 x5 M J8 Q) : vV p l e ({ frames := 0, cells := 0, slots := 0, locals := 0 } : Room) s m args below meth c D g A a b 6 0 0 (MQ below (cQi D g A a b Q) args s 0 0 A) M [(0, .ref (a 13)), (1, iv p0), (3, iv p2), (4, iv x4), (5, iv x5)] 8 [] := by
  unfold wph_X11_child_8 at hw
  refine V_iload X dX11_child_8 (q := 4) rfl ?_
  refine V_iload_n X dX11_child_10 rfl (q := 2) rfl ?_
  obtain ⟨h2, h3, hw⟩ := hw
  refine V_icmp_ge (tgt := 37) X h2 h3 dX11_child_11 (by decide) (fun q4 => ?_) (fun q4 => ?_)
  · have hw := hw.1 q4
    refine V_iload X dX11_child_37 (q := 3) rfl ?_
    exact V_iret X hr hw dX11_child_39
  · have hw := hw.2 q4
    refine V_iload X dX11_child_14 (q := 3) rfl ?_
    refine V_aload_n X dX11_child_16 rfl (q := 0) rfl ?_
    refine V_get (C := RX11) (T := TX11) (N := 24) (ci := 11) X hi_X11_child_11 gO_13 rfl 4 (by decide) lk_X11_child_f22 (fun _ h9 => h9) rfl dX11_child_17 ?_
    refine V_bipush X dX11_child_20 rfl ?_
    refine V_iload_n X dX11_child_22 rfl (q := 1) rfl ?_
    refine V_imul X dX11_child_23 ?_
    refine V_iload X dX11_child_24 (q := 3) rfl ?_
    refine V_iadd X dX11_child_26 ?_
    obtain ⟨h5, hw⟩ := hw
    refine V_iald X (gA_13_4) h5 (by decide) dX11_child_27 ?_
    refine V_iadd X dX11_child_28 ?_
    refine V_top (fun y6 ey6 => ?_)
    have hw := hw y6 ey6
    refine V_istore (lv1 := [(0, .ref (a 13)), (1, iv p0), (3, iv p2), (4, iv y6), (5, iv x5)]) X [1, 2, 3, 0, 4] dX11_child_29 (by decide) rfl ?_
    refine V_iinc (lv1 := [(0, .ref (a 13)), (1, iv p0), (3, iv p2), (4, iv y6), (5, iv (x5 + 1))]) X [1, 2, 3, 4, 0] dX11_child_31 (q := 4) rfl (by decide) rfl ?_
    refine V_goto (tgt := 8) X dX11_child_34 (by decide) ?_
    exact hJ8 _ _ _ hw
set_option maxHeartbeats 4000000 in
set_option maxRecDepth 100000 in
theorem wke_X11_child {p : Program} {l : Launch} {e : Env} {s : State} {m : MethodId} {args : Array Value} {below : List Frame} {meth : Method} {c : Code} {D : va_G} {g : GT} {A : Nat → Prop} {a : Nat → Nat} {b : Nat → Nat → Nat} (X : vC p s m args meth c D g A RX11 wsX11_child cX11_child 6) (hr : meth.sig.returnType = (some .int)) {p0 : Int} {p1 : Int} {p2 : Int} {M : Mem} {J8 : Int → Int → Mem → Prop} {Q : Int → Mem → Prop} (hJ8 : ∀ (x4 : Int) (x5 : Int) (M : Mem), J8 x4 x5 M → vV p l e ({ frames := 0, cells := 0, slots := 0, locals := 0 } : Room) s m args below meth c D g A a b 6 0 0 (MQ below (cQi D g A a b Q) args s 0 0 A) M [(0, .ref (a 13)), (1, iv p0), (3, iv p2), (4, iv x4), (5, iv x5)] 8 []) (hw : wpe_X11_child p0 p1 p2 M J8 Q) : vV p l e ({ frames := 0, cells := 0, slots := 0, locals := 0 } : Room) s m args below meth c D g A a b 6 0 0 (MQ below (cQi D g A a b Q) args s 0 0 A) M [(0, .ref (a 13)), (1, iv p0), (2, iv p1), (3, iv p2)] 0 [] := by
  unfold wpe_X11_child at hw
  refine V_iload_n X dX11_child_0 rfl (q := 2) rfl ?_
  refine V_iconst X dX11_child_1 ?_
  refine V_iadd X dX11_child_2 ?_
  refine V_top (fun y1 ey1 => ?_)
  have hw := hw y1 ey1
  refine V_istore (lv1 := [(0, .ref (a 13)), (1, iv p0), (2, iv p1), (3, iv p2), (4, iv y1)]) X [1, 2, 3, 4, 0] dX11_child_3 (by decide) rfl ?_
  refine V_iconst X dX11_child_5 ?_
  refine V_istore (lv1 := [(0, .ref (a 13)), (1, iv p0), (2, iv p1), (3, iv p2), (4, iv y1), (5, iv 0)]) X [1, 2, 3, 4, 5, 0] dX11_child_6 (by decide) rfl ?_
  refine V_sub (lv1 := [(0, .ref (a 13)), (1, iv p0), (3, iv p2), (4, iv y1), (5, iv 0)]) [0, 1, 3, 4, 5] rfl ?_
  exact hJ8 _ _ _ hw
set_option maxHeartbeats 4000000 in
set_option maxRecDepth 100000 in
theorem c_X11_child (l : Launch) {p0 : Int} {p1 : Int} {p2 : Int} {D : va_G} {g : GT} {A : Nat → Prop} {a : Nat → Nat} {b : Nat → Nat → Nat} {M : Mem} {Q : Int → Mem → Prop} (hw : wp_X11_child M p0 p1 p2 Q) : Met l yX11_child wsX11_child ({ frames := 0, cells := 0, slots := 0, locals := 0 } : Room) (cPc D g A a b M [.ref (a 13), iv p0, iv p1, iv p2]) (cQi D g A a b Q) 0 0 A := by
  refine Met.ofW (cc := cX11_child) (maxL := 6) (ret := (some .int)) (by decide) rfl ?_
  intro p e s m args below meth c s₁ B hml hv
  obtain ⟨rfl, hP, hD, hG⟩ := hv
  have X : vC p s m _ meth c D g A RX11 wsX11_child cX11_child 6 := ⟨B.exec, B.bytes, findClass_of_methodNamed B.named, atoms_spec (ws := wsX11_child) B.pre, hG, hml, B.notSynchronized⟩
  have hr := B.returns
  have hl := lv_entry ([.ref (a 13), iv p0, iv p1, iv p2]) (n := 6) (Nat.le_of_ble_eq_true rfl)
  rw [lg_entry_eq]
  generalize (lg_sl ([.ref (a 13), iv p0, iv p1, iv p2]) ++ List.replicate (6 - (lg_sl ([.ref (a 13), iv p0, iv p1, iv p2])).length) Slot.unset).toArray = ls at hl ⊢
  have hl : lv_has ls 6 [(0, .ref (a 13)), (1, iv p0), (2, iv p1), (3, iv p2)] := hl
  obtain ⟨I8, hw, hI8⟩ := hw
  have K : ∀ n : Nat, (∀ (x4 : Int) (x5 : Int) (M : Mem), I8 n x4 x5 M → vV p l e ({ frames := 0, cells := 0, slots := 0, locals := 0 } : Room) s m ([.ref (a 13), iv p0, iv p1, iv p2] : List Value).toArray below meth c D g A a b 6 0 0 (MQ below (cQi D g A a b Q) ([.ref (a 13), iv p0, iv p1, iv p2] : List Value).toArray s 0 0 A) M [(0, .ref (a 13)), (1, iv p0), (3, iv p2), (4, iv x4), (5, iv x5)] 8 []) := by
    intro n
    induction n using Nat.strongRecOn with
    | ind n ih =>
      exact fun x4 x5 M hh => wkh_X11_child_8 X hr (fun _ _ _ ⟨n1, hn, hh⟩ => (ih n1 hn) _ _ _ hh) (hI8 n x4 x5 M hh)
  exact wke_X11_child X hr  (fun _ _ _ ⟨n1, hh⟩ => (K n1) _ _ _ hh) hw s.heap [] ls hP hD va_S.rf hl

set_option maxRecDepth 20000 in
theorem ggX11_stepNode_X11_isStep : GoodIn wsX11_stepNode wsX11_isStep := goodIn_r _ [8, 9, 10, 11, 12, 7, 13, 14, 15, 16, 17, 18, 19, 20, 21, 22, 23, 24, 25, 26, 27, 28, 29, 30, 31, 32, 33, 34, 35, 36, 37, 38, 39, 40, 41, 42, 43, 44, 45, 46, 47, 48, 49, 50, 51, 52, 53, 54, 55, 56, 57, 58, 59, 60, 61, 62, 63, 64, 65, 66, 67, 68, 69, 70, 71, 72, 73, 74, 75, 76, 77, 78, 79, 80, 81, 82, 83, 2, 3, 84, 85, 86, 87, 88, 89, 90, 91, 92, 93, 94, 95, 96, 97, 98, 99, 100, 101, 102, 103, 104, 105, 106, 107, 108, 109, 110, 111, 112, 113, 114, 115] (by decide +kernel) (by decide +kernel)
set_option maxRecDepth 20000 in
theorem gX11_stepNode_X11_isStep : GoodIn wsX11_stepNode (wsV RX11 182 RX11 yX11_isStep wsX11_isStep) := goodIn_app (goodIn_of _ (by decide +kernel)) ggX11_stepNode_X11_isStep
theorem dX11_stepNode_0 : decode cX11_stepNode 0 = .ok (.aload_n 0, 1) := by decide +kernel
theorem dX11_stepNode_1 : decode cX11_stepNode 1 = .ok (.iload_n 1, 1) := by decide +kernel
theorem dX11_stepNode_2 : decode cX11_stepNode 2 = .ok (.invokevirtual 182, 3) := by decide +kernel
theorem dX11_stepNode_5 : decode cX11_stepNode 5 = .ok (.ifCond .eq 34, 3) := by decide +kernel
theorem dX11_stepNode_8 : decode cX11_stepNode 8 = .ok (.aload_n 0, 1) := by decide +kernel
theorem dX11_stepNode_9 : decode cX11_stepNode 9 = .ok (.getfield 7, 3) := by decide +kernel
theorem dX11_stepNode_12 : decode cX11_stepNode 12 = .ok (.aload_n 0, 1) := by decide +kernel
theorem dX11_stepNode_13 : decode cX11_stepNode 13 = .ok (.getfield 54, 3) := by decide +kernel
theorem dX11_stepNode_16 : decode cX11_stepNode 16 = .ok (.iload_n 1, 1) := by decide +kernel
theorem dX11_stepNode_17 : decode cX11_stepNode 17 = .ok (.iaload, 1) := by decide +kernel
theorem dX11_stepNode_18 : decode cX11_stepNode 18 = .ok (.iconst 2, 1) := by decide +kernel
theorem dX11_stepNode_19 : decode cX11_stepNode 19 = .ok (.if_icmp .ne 8, 3) := by decide +kernel
theorem dX11_stepNode_22 : decode cX11_stepNode 22 = .ok (.bipush 12, 2) := by decide +kernel
theorem dX11_stepNode_24 : decode cX11_stepNode 24 = .ok (.goto 4, 3) := by decide +kernel
theorem dX11_stepNode_27 : decode cX11_stepNode 27 = .ok (.iconst 0, 1) := by decide +kernel
theorem dX11_stepNode_28 : decode cX11_stepNode 28 = .ok (.aload_n 0, 1) := by decide +kernel
theorem dX11_stepNode_29 : decode cX11_stepNode 29 = .ok (.getfield 57, 3) := by decide +kernel
theorem dX11_stepNode_32 : decode cX11_stepNode 32 = .ok (.iload_n 1, 1) := by decide +kernel
theorem dX11_stepNode_33 : decode cX11_stepNode 33 = .ok (.iaload, 1) := by decide +kernel
theorem dX11_stepNode_34 : decode cX11_stepNode 34 = .ok (.iadd, 1) := by decide +kernel
theorem dX11_stepNode_35 : decode cX11_stepNode 35 = .ok (.iaload, 1) := by decide +kernel
theorem dX11_stepNode_36 : decode cX11_stepNode 36 = .ok (.goto 4, 3) := by decide +kernel
theorem dX11_stepNode_39 : decode cX11_stepNode 39 = .ok (.iconst 0, 1) := by decide +kernel
theorem dX11_stepNode_40 : decode cX11_stepNode 40 = .ok (.ireturn, 1) := by decide +kernel
theorem lk_X11_stepNode_f7 : Cond.fieldLink RX11 7 "TreeComparerModel" "node" "[I" ∈ wsX11_stepNode := by decide +kernel
theorem hi_X11_stepNode_11 : ∀ w ∈ u_ws RX11 TX11 24, w ∈ wsX11_stepNode := by decide +kernel
theorem lk_X11_stepNode_f54 : Cond.fieldLink RX11 54 "TreeComparerModel" "stepKind" "[I" ∈ wsX11_stepNode := by decide +kernel
theorem lk_X11_stepNode_f57 : Cond.fieldLink RX11 57 "TreeComparerModel" "stepPlace" "[I" ∈ wsX11_stepNode := by decide +kernel
def wpj_X11_stepNode_28 (p0 : Int) (s0 : Int) (M : Mem) (Q : Int → Mem → Prop) : Prop := ((0 : Int) ≤ p0 ∧ p0 < 24) ∧ ((0 : Int) ≤ s0 + (M 13 15 p0.toNat) ∧ s0 + (M 13 15 p0.toNat) < 24) ∧ Q ((M 13 0 (s0 + (M 13 15 p0.toNat)).toNat)) M
def wpe_X11_stepNode (p0 : Int) (M : Mem) (Q : Int → Mem → Prop) : Prop := wp_X11_isStep M p0 (fun y1 M2 => inR y1 ∧ ((y1 = 0 → Q 0 M2) ∧ (¬ (y1 = 0) → ((0 : Int) ≤ p0 ∧ p0 < 24) ∧ inR (M2 13 14 p0.toNat) ∧ (((M2 13 14 p0.toNat) ≠ 2 → wpj_X11_stepNode_28 p0 0 M2 Q) ∧ (¬ ((M2 13 14 p0.toNat) ≠ 2) → wpj_X11_stepNode_28 p0 12 M2 Q)))))
def wp_X11_stepNode (M : Mem) (p0 : Int) (Q : Int → Mem → Prop) : Prop := wpe_X11_stepNode p0 M Q
set_option maxHeartbeats 4000000 in
set_option maxRecDepth 100000 in
theorem wkj_X11_stepNode_28 {p : Program} {l : Launch} {e : Env} {s : State} {m : MethodId} {args : Array Value} {below : List Frame} {meth : Method} {c : Code} {D : va_G} {g : GT} {A : Nat → Prop} {a : Nat → Nat} {b : Nat → Nat → Nat} (X : vC p s m args meth c D g A RX11 wsX11_stepNode cX11_stepNode 2) (hr : meth.sig.returnType = (some .int)) {p0 : Int} {s0 : Int} {M : Mem} {Q : Int → Mem → Prop} (hw : wpj_X11_stepNode_28 p0 s0 M Q) : vV p l e ({ frames := 7, cells := 0, slots := 0, locals := 170 } : Room) s m args below meth c D g A a b 2 0 0 (MQ below (cQi D g A a b Q) args s 0 0 A) M [(0, .ref (a 13)), (1, iv p0)] 28 [iv s0, .ref (b 13 0)] := by
  unfold wpj_X11_stepNode_28 at hw
  refine V_aload_n X dX11_stepNode_28 rfl (q := 0) rfl ?_
  refine V_get (C := RX11) (T := TX11) (N := 24) (ci := 11) X hi_X11_stepNode_11 gO_13 rfl 15 (by decide) lk_X11_stepNode_f57 (fun _ h9 => h9) rfl dX11_stepNode_29 ?_
  refine V_iload_n X dX11_stepNode_32 rfl (q := 1) rfl ?_
  obtain ⟨h8, hw⟩ := hw
  refine V_iald X (gA_13_15) h8 (by decide) dX11_stepNode_33 ?_
  refine V_iadd X dX11_stepNode_34 ?_
  obtain ⟨h9, hw⟩ := hw
  refine V_iald X (gA_13_0) h9 (by decide) dX11_stepNode_35 ?_
  refine V_goto (tgt := 40) X dX11_stepNode_36 (by decide) ?_
  exact V_iret X hr hw dX11_stepNode_40
set_option maxHeartbeats 4000000 in
set_option maxRecDepth 100000 in
theorem wke_X11_stepNode {p : Program} {l : Launch} {e : Env} {s : State} {m : MethodId} {args : Array Value} {below : List Frame} {meth : Method} {c : Code} {D : va_G} {g : GT} {A : Nat → Prop} {a : Nat → Nat} {b : Nat → Nat → Nat} (X : vC p s m args meth c D g A RX11 wsX11_stepNode cX11_stepNode 2) (hr : meth.sig.returnType = (some .int)) {p0 : Int} {M : Mem} {Q : Int → Mem → Prop} (hw : wpe_X11_stepNode p0 M Q) : vV p l e ({ frames := 7, cells := 0, slots := 0, locals := 170 } : Room) s m args below meth c D g A a b 2 0 0 (MQ below (cQi D g A a b Q) args s 0 0 A) M [(0, .ref (a 13)), (1, iv p0)] 0 [] := by
  unfold wpe_X11_stepNode at hw
  refine V_aload_n X dX11_stepNode_0 rfl (q := 0) rfl ?_
  refine V_iload_n X dX11_stepNode_1 rfl (q := 1) rfl ?_
  refine V_callV_i X _ gO_13 rfl (As := [iv p0]) (st := []) (c_X11_isStep l hw) (cwV 1 X.2.2.2.1 gX11_stepNode_X11_isStep rfl rfl rfl (by decide +kernel) ⟨Nat.le_of_ble_eq_true rfl, Nat.le_of_ble_eq_true rfl⟩) rfl (Nat.le_of_ble_eq_true rfl) ⟨Nat.le_of_ble_eq_true rfl, Nat.le_of_ble_eq_true rfl⟩ rfl dX11_stepNode_2 (fun y1 M2 hw => ?_)
  obtain ⟨h3, hw⟩ := hw
  refine V_if_eq (tgt := 39) X h3 dX11_stepNode_5 (by decide) (fun q4 => ?_) (fun q4 => ?_)
  · have hw := hw.1 q4
    refine V_iconst X dX11_stepNode_39 ?_
    exact V_iret X hr hw dX11_stepNode_40
  · have hw := hw.2 q4
    refine V_aload_n X dX11_stepNode_8 rfl (q := 0) rfl ?_
    refine V_get (C := RX11) (T := TX11) (N := 24) (ci := 11) X hi_X11_stepNode_11 gO_13 rfl 0 (by decide) lk_X11_stepNode_f7 (fun _ h9 => h9) rfl dX11_stepNode_9 ?_
    refine V_aload_n X dX11_stepNode_12 rfl (q := 0) rfl ?_
    refine V_get (C := RX11) (T := TX11) (N := 24) (ci := 11) X hi_X11_stepNode_11 gO_13 rfl 14 (by decide) lk_X11_stepNode_f54 (fun _ h9 => h9) rfl dX11_stepNode_13 ?_
    refine V_iload_n X dX11_stepNode_16 rfl (q := 1) rfl ?_
    obtain ⟨h5, hw⟩ := hw
    refine V_iald X (gA_13_14) h5 (by decide) dX11_stepNode_17 ?_
    refine V_iconst X dX11_stepNode_18 ?_
    obtain ⟨h6, hw⟩ := hw
    refine V_icmp_ne (tgt := 27) X h6 ⟨by decide, by decide⟩ dX11_stepNode_19 (by decide) (fun q7 => ?_) (fun q7 => ?_)
    · have hw := hw.1 q7
      refine V_iconst X dX11_stepNode_27 ?_
      exact wkj_X11_stepNode_28 X hr hw
    · have hw := hw.2 q7
      refine V_bipush X dX11_stepNode_22 rfl ?_
      refine V_goto (tgt := 28) X dX11_stepNode_24 (by decide) ?_
      exact wkj_X11_stepNode_28 X hr hw
set_option maxHeartbeats 4000000 in
set_option maxRecDepth 100000 in
theorem c_X11_stepNode (l : Launch) {p0 : Int} {D : va_G} {g : GT} {A : Nat → Prop} {a : Nat → Nat} {b : Nat → Nat → Nat} {M : Mem} {Q : Int → Mem → Prop} (hw : wp_X11_stepNode M p0 Q) : Met l yX11_stepNode wsX11_stepNode ({ frames := 7, cells := 0, slots := 0, locals := 170 } : Room) (cPc D g A a b M [.ref (a 13), iv p0]) (cQi D g A a b Q) 0 0 A := by
  refine Met.ofW (cc := cX11_stepNode) (maxL := 2) (ret := (some .int)) (by decide) rfl ?_
  intro p e s m args below meth c s₁ B hml hv
  obtain ⟨rfl, hP, hD, hG⟩ := hv
  have X : vC p s m _ meth c D g A RX11 wsX11_stepNode cX11_stepNode 2 := ⟨B.exec, B.bytes, findClass_of_methodNamed B.named, atoms_spec (ws := wsX11_stepNode) B.pre, hG, hml, B.notSynchronized⟩
  have hr := B.returns
  have hl := lv_entry ([.ref (a 13), iv p0]) (n := 2) (Nat.le_of_ble_eq_true rfl)
  rw [lg_entry_eq]
  generalize (lg_sl ([.ref (a 13), iv p0]) ++ List.replicate (2 - (lg_sl ([.ref (a 13), iv p0])).length) Slot.unset).toArray = ls at hl ⊢
  have hl : lv_has ls 2 [(0, .ref (a 13)), (1, iv p0)] := hl
  exact wke_X11_stepNode X hr  hw s.heap [] ls hP hD va_S.rf hl

set_option maxRecDepth 20000 in
theorem ggX9_spotFor_X9_nthChild : GoodIn wsX9_spotFor wsX9_nthChild := goodIn_r _ [6, 1, 7, 8, 9, 10, 11, 5, 12, 13, 14, 15, 16, 17, 18, 19, 20, 21, 22] (by decide +kernel) (by decide +kernel)
set_option maxRecDepth 20000 in
theorem gX9_spotFor_X9_nthChild : GoodIn wsX9_spotFor (wsV RX9 50 RX9 yX9_nthChild wsX9_nthChild) := goodIn_app (goodIn_of _ (by decide +kernel)) ggX9_spotFor_X9_nthChild
set_option maxRecDepth 20000 in
theorem ggX9_spotFor_X9_endOf : GoodIn wsX9_spotFor wsX9_endOf := goodIn_r _ [12, 1, 13, 14, 15, 16, 17, 18, 19, 20, 21, 22] (by decide +kernel) (by decide +kernel)
set_option maxRecDepth 20000 in
theorem gX9_spotFor_X9_endOf : GoodIn wsX9_spotFor (wsV RX9 47 RX9 yX9_endOf wsX9_endOf) := goodIn_app (goodIn_of _ (by decide +kernel)) ggX9_spotFor_X9_endOf
theorem dX9_spotFor_0 : decode cX9_spotFor 0 = .ok (.iload_n 2, 1) := by decide +kernel
theorem dX9_spotFor_1 : decode cX9_spotFor 1 = .ok (.ifCond .ne 7, 3) := by decide +kernel
theorem dX9_spotFor_4 : decode cX9_spotFor 4 = .ok (.iconst (-1), 1) := by decide +kernel
theorem dX9_spotFor_5 : decode cX9_spotFor 5 = .ok (.goto 11, 3) := by decide +kernel
theorem dX9_spotFor_8 : decode cX9_spotFor 8 = .ok (.aload_n 0, 1) := by decide +kernel
theorem dX9_spotFor_9 : decode cX9_spotFor 9 = .ok (.iload_n 1, 1) := by decide +kernel
theorem dX9_spotFor_10 : decode cX9_spotFor 10 = .ok (.iload_n 2, 1) := by decide +kernel
theorem dX9_spotFor_11 : decode cX9_spotFor 11 = .ok (.iconst 1, 1) := by decide +kernel
theorem dX9_spotFor_12 : decode cX9_spotFor 12 = .ok (.isub, 1) := by decide +kernel
theorem dX9_spotFor_13 : decode cX9_spotFor 13 = .ok (.invokevirtual 50, 3) := by decide +kernel
theorem dX9_spotFor_16 : decode cX9_spotFor 16 = .ok (.istore_n 3, 1) := by decide +kernel
theorem dX9_spotFor_17 : decode cX9_spotFor 17 = .ok (.iload_n 3, 1) := by decide +kernel
theorem dX9_spotFor_18 : decode cX9_spotFor 18 = .ok (.iconst (-1), 1) := by decide +kernel
theorem dX9_spotFor_19 : decode cX9_spotFor 19 = .ok (.if_icmp .ne 14, 3) := by decide +kernel
theorem dX9_spotFor_22 : decode cX9_spotFor 22 = .ok (.aload_n 0, 1) := by decide +kernel
theorem dX9_spotFor_23 : decode cX9_spotFor 23 = .ok (.getfield 27, 3) := by decide +kernel
theorem dX9_spotFor_26 : decode cX9_spotFor 26 = .ok (.iload_n 1, 1) := by decide +kernel
theorem dX9_spotFor_27 : decode cX9_spotFor 27 = .ok (.iaload, 1) := by decide +kernel
theorem dX9_spotFor_28 : decode cX9_spotFor 28 = .ok (.iconst 1, 1) := by decide +kernel
theorem dX9_spotFor_29 : decode cX9_spotFor 29 = .ok (.iadd, 1) := by decide +kernel
theorem dX9_spotFor_30 : decode cX9_spotFor 30 = .ok (.goto 8, 3) := by decide +kernel
theorem dX9_spotFor_33 : decode cX9_spotFor 33 = .ok (.aload_n 0, 1) := by decide +kernel
theorem dX9_spotFor_34 : decode cX9_spotFor 34 = .ok (.iload_n 3, 1) := by decide +kernel
theorem dX9_spotFor_35 : decode cX9_spotFor 35 = .ok (.invokevirtual 47, 3) := by decide +kernel
theorem dX9_spotFor_38 : decode cX9_spotFor 38 = .ok (.ireturn, 1) := by decide +kernel
theorem lk_X9_spotFor_f27 : Cond.fieldLink RX9 27 "TreeComparer$Tree" "prePlace" "[I" ∈ wsX9_spotFor := by decide +kernel
theorem hi_X9_spotFor_9 : ∀ w ∈ u_ws RX9 TX9 9, w ∈ wsX9_spotFor := by decide +kernel
def wpj_X9_spotFor_16 (o : Nat) (p0 : Int) (p1 : Int) (s0 : Int) (M : Mem) (Q : Int → Mem → Prop) : Prop := inR s0 ∧ ((s0 ≠ (-1) → wp_X9_endOf M o s0 (fun y7 M8 => Q y7 M8)) ∧ (¬ (s0 ≠ (-1)) → ((0 : Int) ≤ p0 ∧ p0 < 12) ∧ Q ((M o 5 p0.toNat) + 1) M))
def wpe_X9_spotFor (o : Nat) (p0 : Int) (p1 : Int) (M : Mem) (Q : Int → Mem → Prop) : Prop := inR p1 ∧ ((p1 ≠ 0 → wp_X9_nthChild M o p0 (p1 - 1) (fun y3 M4 => wpj_X9_spotFor_16 o p0 p1 y3 M4 Q)) ∧ (¬ (p1 ≠ 0) → wpj_X9_spotFor_16 o p0 p1 (-1) M Q))
def wp_X9_spotFor (M : Mem) (o : Nat) (p0 : Int) (p1 : Int) (Q : Int → Mem → Prop) : Prop := wpe_X9_spotFor o p0 p1 M Q
set_option maxHeartbeats 4000000 in
set_option maxRecDepth 100000 in
theorem wkj_X9_spotFor_16 {p : Program} {l : Launch} {e : Env} {s : State} {m : MethodId} {args : Array Value} {below : List Frame} {meth : Method} {c : Code} {D : va_G} {g : GT} {A : Nat → Prop} {a : Nat → Nat} {b : Nat → Nat → Nat} (X : vC p s m args meth c D g A RX9 wsX9_spotFor cX9_spotFor 4) (hr : meth.sig.returnType = (some .int)) {o : Nat} {p0 : Int} {p1 : Int} (ho : isT o) {s0 : Int} {M : Mem} {Q : Int → Mem → Prop} (hw : wpj_X9_spotFor_16 o p0 p1 s0 M Q) : vV p l e ({ frames := 2, cells := 0, slots := 0, locals := 45 } : Room) s m args below meth c D g A a b 4 0 0 (MQ below (cQi D g A a b Q) args s 0 0 A) M [(0, .ref (a o)), (1, iv p0)] 16 [iv s0] := by
  unfold wpj_X9_spotFor_16 at hw
  refine V_istore_n (lv1 := [(0, .ref (a o)), (1, iv p0), (3, iv s0)]) X [1, 2, 0] dX9_spotFor_16 rfl (by decide) rfl ?_
  refine V_iload_n X dX9_spotFor_17 rfl (q := 2) rfl ?_
  refine V_iconst X dX9_spotFor_18 ?_
  obtain ⟨h5, hw⟩ := hw
  refine V_icmp_ne (tgt := 33) X h5 ⟨by decide, by decide⟩ dX9_spotFor_19 (by decide) (fun q6 => ?_) (fun q6 => ?_)
  · have hw := hw.1 q6
    refine V_aload_n X dX9_spotFor_33 rfl (q := 0) rfl ?_
    refine V_iload_n X dX9_spotFor_34 rfl (q := 2) rfl ?_
    refine V_callV_i X _ (gTO ho) rfl (As := [iv s0]) (st := []) (c_X9_endOf l ho hw) (cwV 1 X.2.2.2.1 gX9_spotFor_X9_endOf rfl rfl rfl (by decide +kernel) ⟨Nat.le_of_ble_eq_true rfl, Nat.le_of_ble_eq_true rfl⟩) rfl (Nat.le_of_ble_eq_true rfl) ⟨Nat.le_of_ble_eq_true rfl, Nat.le_of_ble_eq_true rfl⟩ rfl dX9_spotFor_35 (fun y7 M8 hw => ?_)
    exact V_iret X hr hw dX9_spotFor_38
  · have hw := hw.2 q6
    refine V_aload_n X dX9_spotFor_22 rfl (q := 0) rfl ?_
    refine V_get (C := RX9) (T := TX9) (N := 9) (ci := 9) X hi_X9_spotFor_9 (gTO ho) rfl 5 (by decide) lk_X9_spotFor_f27 (fun _ h9 => h9) rfl dX9_spotFor_23 ?_
    refine V_iload_n X dX9_spotFor_26 rfl (q := 1) rfl ?_
    obtain ⟨h9, hw⟩ := hw
    refine V_iald X ((gT_5 ho)) h9 (by decide) dX9_spotFor_27 ?_
    refine V_iconst X dX9_spotFor_28 ?_
    refine V_iadd X dX9_spotFor_29 ?_
    refine V_goto (tgt := 38) X dX9_spotFor_30 (by decide) ?_
    exact V_iret X hr hw dX9_spotFor_38
set_option maxHeartbeats 4000000 in
set_option maxRecDepth 100000 in
theorem wke_X9_spotFor {p : Program} {l : Launch} {e : Env} {s : State} {m : MethodId} {args : Array Value} {below : List Frame} {meth : Method} {c : Code} {D : va_G} {g : GT} {A : Nat → Prop} {a : Nat → Nat} {b : Nat → Nat → Nat} (X : vC p s m args meth c D g A RX9 wsX9_spotFor cX9_spotFor 4) (hr : meth.sig.returnType = (some .int)) {o : Nat} {p0 : Int} {p1 : Int} (ho : isT o) {M : Mem} {Q : Int → Mem → Prop} (hw : wpe_X9_spotFor o p0 p1 M Q) : vV p l e ({ frames := 2, cells := 0, slots := 0, locals := 45 } : Room) s m args below meth c D g A a b 4 0 0 (MQ below (cQi D g A a b Q) args s 0 0 A) M [(0, .ref (a o)), (1, iv p0), (2, iv p1)] 0 [] := by
  unfold wpe_X9_spotFor at hw
  refine V_iload_n X dX9_spotFor_0 rfl (q := 2) rfl ?_
  obtain ⟨h1, hw⟩ := hw
  refine V_if_ne (tgt := 8) X h1 dX9_spotFor_1 (by decide) (fun q2 => ?_) (fun q2 => ?_)
  · have hw := hw.1 q2
    refine V_aload_n X dX9_spotFor_8 rfl (q := 0) rfl ?_
    refine V_iload_n X dX9_spotFor_9 rfl (q := 1) rfl ?_
    refine V_iload_n X dX9_spotFor_10 rfl (q := 2) rfl ?_
    refine V_iconst X dX9_spotFor_11 ?_
    refine V_isub X dX9_spotFor_12 ?_
    refine V_callV_i X _ (gTO ho) rfl (As := [iv p0, iv (p1 - 1)]) (st := []) (c_X9_nthChild l ho hw) (cwV 2 X.2.2.2.1 gX9_spotFor_X9_nthChild rfl rfl rfl (by decide +kernel) ⟨Nat.le_of_ble_eq_true rfl, Nat.le_of_ble_eq_true rfl⟩) rfl (Nat.le_of_ble_eq_true rfl) ⟨Nat.le_of_ble_eq_true rfl, Nat.le_of_ble_eq_true rfl⟩ rfl dX9_spotFor_13 (fun y3 M4 hw => ?_)
    refine V_sub (lv1 := [(0, .ref (a o)), (1, iv p0)]) [0, 1] rfl ?_
    exact wkj_X9_spotFor_16 X hr ho hw
  · have hw := hw.2 q2
    refine V_iconst X dX9_spotFor_4 ?_
    refine V_goto (tgt := 16) X dX9_spotFor_5 (by decide) ?_
    refine V_sub (lv1 := [(0, .ref (a o)), (1, iv p0)]) [0, 1] rfl ?_
    exact wkj_X9_spotFor_16 X hr ho hw
set_option maxHeartbeats 4000000 in
set_option maxRecDepth 100000 in
theorem c_X9_spotFor (l : Launch) {o : Nat} {p0 : Int} {p1 : Int} (ho : isT o) {D : va_G} {g : GT} {A : Nat → Prop} {a : Nat → Nat} {b : Nat → Nat → Nat} {M : Mem} {Q : Int → Mem → Prop} (hw : wp_X9_spotFor M o p0 p1 Q) : Met l yX9_spotFor wsX9_spotFor ({ frames := 2, cells := 0, slots := 0, locals := 45 } : Room) (cPc D g A a b M [.ref (a o), iv p0, iv p1]) (cQi D g A a b Q) 0 0 A := by
  refine Met.ofW (cc := cX9_spotFor) (maxL := 4) (ret := (some .int)) (by decide) rfl ?_
  intro p e s m args below meth c s₁ B hml hv
  obtain ⟨rfl, hP, hD, hG⟩ := hv
  have X : vC p s m _ meth c D g A RX9 wsX9_spotFor cX9_spotFor 4 := ⟨B.exec, B.bytes, findClass_of_methodNamed B.named, atoms_spec (ws := wsX9_spotFor) B.pre, hG, hml, B.notSynchronized⟩
  have hr := B.returns
  have hl := lv_entry ([.ref (a o), iv p0, iv p1]) (n := 4) (Nat.le_of_ble_eq_true rfl)
  rw [lg_entry_eq]
  generalize (lg_sl ([.ref (a o), iv p0, iv p1]) ++ List.replicate (4 - (lg_sl ([.ref (a o), iv p0, iv p1])).length) Slot.unset).toArray = ls at hl ⊢
  have hl : lv_has ls 4 [(0, .ref (a o)), (1, iv p0), (2, iv p1)] := hl
  exact wke_X9_spotFor X hr ho hw s.heap [] ls hP hD va_S.rf hl

set_option maxRecDepth 20000 in
theorem ggX11_inPostorder_X11_measures : GoodIn wsX11_inPostorder wsX11_measures := goodIn_r _ [6, 7, 8, 9, 29, 30, 31, 32, 33, 34, 35, 36, 37, 38, 39, 40, 41, 42, 43, 44, 45, 46, 47, 48, 49, 50, 51, 52] (by decide +kernel) (by decide +kernel)
set_option maxRecDepth 20000 in
theorem gX11_inPostorder_X11_measures : GoodIn wsX11_inPostorder (wsV RX11 95 RX11 yX11_measures wsX11_measures) := goodIn_app (goodIn_of _ (by decide +kernel)) ggX11_inPostorder_X11_measures
set_option maxRecDepth 20000 in
theorem ggX11_inPostorder_X11_isNode : GoodIn wsX11_inPostorder wsX11_isNode := goodIn_r _ [13, 7, 14, 15, 5, 16, 17, 18, 19, 29, 30, 31, 32, 33, 34, 35, 36, 37, 38, 39, 40, 41, 42, 43, 44, 45, 46, 47, 48, 49, 50, 51, 52] (by decide +kernel) (by decide +kernel)
set_option maxRecDepth 20000 in
theorem gX11_inPostorder_X11_isNode : GoodIn wsX11_inPostorder (wsV RX11 98 RX11 yX11_isNode wsX11_isNode) := goodIn_app (goodIn_of _ (by decide +kernel)) ggX11_inPostorder_X11_isNode
set_option maxRecDepth 20000 in
theorem ggX11_inPostorder_X11_goes : GoodIn wsX11_inPostorder wsX11_goes := goodIn_r _ [23, 24, 29, 30, 31, 32, 33, 34, 35, 36, 37, 38, 39, 40, 41, 42, 43, 44, 45, 46, 47, 48, 49, 50, 51, 52] (by decide +kernel) (by decide +kernel)
set_option maxRecDepth 20000 in
theorem gX11_inPostorder_X11_goes : GoodIn wsX11_inPostorder (wsV RX11 87 RX11 yX11_goes wsX11_goes) := goodIn_app (goodIn_of _ (by decide +kernel)) ggX11_inPostorder_X11_goes
set_option maxRecDepth 20000 in
theorem ggX11_inPostorder_X11_byPostorder : GoodIn wsX11_inPostorder wsX11_byPostorder := goodIn_r _ [28, 8, 9, 29, 30, 31, 32, 33, 34, 35, 36, 37, 38, 39, 40, 41, 42, 43, 44, 45, 46, 47, 48, 49, 50, 51, 52] (by decide +kernel) (by decide +kernel)
set_option maxRecDepth 20000 in
theorem gX11_inPostorder_X11_byPostorder : GoodIn wsX11_inPostorder (wsV RX11 119 RX11 yX11_byPostorder wsX11_byPostorder) := goodIn_app (goodIn_of _ (by decide +kernel)) ggX11_inPostorder_X11_byPostorder
theorem dX11_inPostorder_0 : decode cX11_inPostorder 0 = .ok (.aload_n 0, 1) := by decide +kernel
theorem dX11_inPostorder_1 : decode cX11_inPostorder 1 = .ok (.invokevirtual 95, 3) := by decide +kernel
theorem dX11_inPostorder_4 : decode cX11_inPostorder 4 = .ok (.aload_n 0, 1) := by decide +kernel
theorem dX11_inPostorder_5 : decode cX11_inPostorder 5 = .ok (.aload_n 0, 1) := by decide +kernel
theorem dX11_inPostorder_6 : decode cX11_inPostorder 6 = .ok (.iload_n 1, 1) := by decide +kernel
theorem dX11_inPostorder_7 : decode cX11_inPostorder 7 = .ok (.iload_n 2, 1) := by decide +kernel
theorem dX11_inPostorder_8 : decode cX11_inPostorder 8 = .ok (.invokevirtual 98, 3) := by decide +kernel
theorem dX11_inPostorder_11 : decode cX11_inPostorder 11 = .ok (.iconst 1, 1) := by decide +kernel
theorem dX11_inPostorder_12 : decode cX11_inPostorder 12 = .ok (.iconst 1, 1) := by decide +kernel
theorem dX11_inPostorder_13 : decode cX11_inPostorder 13 = .ok (.invokevirtual 87, 3) := by decide +kernel
theorem dX11_inPostorder_16 : decode cX11_inPostorder 16 = .ok (.ifCond .eq 22, 3) := by decide +kernel
theorem dX11_inPostorder_19 : decode cX11_inPostorder 19 = .ok (.aload_n 0, 1) := by decide +kernel
theorem dX11_inPostorder_20 : decode cX11_inPostorder 20 = .ok (.getfield 7, 3) := by decide +kernel
theorem dX11_inPostorder_23 : decode cX11_inPostorder 23 = .ok (.bipush 12, 2) := by decide +kernel
theorem dX11_inPostorder_25 : decode cX11_inPostorder 25 = .ok (.iload_n 1, 1) := by decide +kernel
theorem dX11_inPostorder_26 : decode cX11_inPostorder 26 = .ok (.imul, 1) := by decide +kernel
theorem dX11_inPostorder_27 : decode cX11_inPostorder 27 = .ok (.aload_n 0, 1) := by decide +kernel
theorem dX11_inPostorder_28 : decode cX11_inPostorder 28 = .ok (.iload_n 1, 1) := by decide +kernel
theorem dX11_inPostorder_29 : decode cX11_inPostorder 29 = .ok (.iload_n 2, 1) := by decide +kernel
theorem dX11_inPostorder_30 : decode cX11_inPostorder 30 = .ok (.invokevirtual 119, 3) := by decide +kernel
theorem dX11_inPostorder_33 : decode cX11_inPostorder 33 = .ok (.iadd, 1) := by decide +kernel
theorem dX11_inPostorder_34 : decode cX11_inPostorder 34 = .ok (.iaload, 1) := by decide +kernel
theorem dX11_inPostorder_35 : decode cX11_inPostorder 35 = .ok (.goto 4, 3) := by decide +kernel
theorem dX11_inPostorder_38 : decode cX11_inPostorder 38 = .ok (.iconst 0, 1) := by decide +kernel
theorem dX11_inPostorder_39 : decode cX11_inPostorder 39 = .ok (.ireturn, 1) := by decide +kernel
theorem lk_X11_inPostorder_f7 : Cond.fieldLink RX11 7 "TreeComparerModel" "node" "[I" ∈ wsX11_inPostorder := by decide +kernel
theorem hi_X11_inPostorder_11 : ∀ w ∈ u_ws RX11 TX11 24, w ∈ wsX11_inPostorder := by decide +kernel
def wpe_X11_inPostorder (p0 : Int) (p1 : Int) (M : Mem) (Q : Int → Mem → Prop) : Prop := wp_X11_measures M (fun M2 => wp_X11_isNode M2 p0 p1 (fun y3 M4 => wp_X11_goes M4 y3 1 1 (fun y5 M6 => inR y5 ∧ ((y5 = 0 → Q 0 M6) ∧ (¬ (y5 = 0) → wp_X11_byPostorder M6 p0 p1 (fun y9 M10 => ((0 : Int) ≤ (12 * p0) + y9 ∧ (12 * p0) + y9 < 24) ∧ Q ((M10 13 0 ((12 * p0) + y9).toNat)) M10))))))
def wp_X11_inPostorder (M : Mem) (p0 : Int) (p1 : Int) (Q : Int → Mem → Prop) : Prop := wpe_X11_inPostorder p0 p1 M Q
set_option maxHeartbeats 4000000 in
set_option maxRecDepth 100000 in
theorem wke_X11_inPostorder {p : Program} {l : Launch} {e : Env} {s : State} {m : MethodId} {args : Array Value} {below : List Frame} {meth : Method} {c : Code} {D : va_G} {g : GT} {A : Nat → Prop} {a : Nat → Nat} {b : Nat → Nat → Nat} (X : vC p s m args meth c D g A RX11 wsX11_inPostorder cX11_inPostorder 3) (hr : meth.sig.returnType = (some .int)) {p0 : Int} {p1 : Int} {M : Mem} {Q : Int → Mem → Prop} (hw : wpe_X11_inPostorder p0 p1 M Q) : vV p l e ({ frames := 3, cells := 0, slots := 0, locals := 64 } : Room) s m args below meth c D g A a b 3 0 0 (MQ below (cQi D g A a b Q) args s 0 0 A) M [(0, .ref (a 13)), (1, iv p0), (2, iv p1)] 0 [] := by
  unfold wpe_X11_inPostorder at hw
  refine V_aload_n X dX11_inPostorder_0 rfl (q := 0) rfl ?_
  refine V_callV_v X _ gO_13 rfl (As := []) (st := []) (c_X11_measures l hw) (cwV 0 X.2.2.2.1 gX11_inPostorder_X11_measures rfl rfl rfl (by decide +kernel) ⟨Nat.le_of_ble_eq_true rfl, Nat.le_of_ble_eq_true rfl⟩) rfl (Nat.le_of_ble_eq_true rfl) ⟨Nat.le_of_ble_eq_true rfl, Nat.le_of_ble_eq_true rfl⟩ rfl dX11_inPostorder_1 (fun M2 hw => ?_)
  refine V_aload_n X dX11_inPostorder_4 rfl (q := 0) rfl ?_
  refine V_aload_n X dX11_inPostorder_5 rfl (q := 0) rfl ?_
  refine V_iload_n X dX11_inPostorder_6 rfl (q := 1) rfl ?_
  refine V_iload_n X dX11_inPostorder_7 rfl (q := 2) rfl ?_
  refine V_callV_i X _ gO_13 rfl (As := [iv p0, iv p1]) (st := [.ref (a 13)]) (c_X11_isNode l hw) (cwV 2 X.2.2.2.1 gX11_inPostorder_X11_isNode rfl rfl rfl (by decide +kernel) ⟨Nat.le_of_ble_eq_true rfl, Nat.le_of_ble_eq_true rfl⟩) rfl (Nat.le_of_ble_eq_true rfl) ⟨Nat.le_of_ble_eq_true rfl, Nat.le_of_ble_eq_true rfl⟩ rfl dX11_inPostorder_8 (fun y3 M4 hw => ?_)
  refine V_iconst X dX11_inPostorder_11 ?_
  refine V_iconst X dX11_inPostorder_12 ?_
  refine V_callV_i X _ gO_13 rfl (As := [iv y3, iv 1, iv 1]) (st := []) (c_X11_goes l hw) (cwV 3 X.2.2.2.1 gX11_inPostorder_X11_goes rfl rfl rfl (by decide +kernel) ⟨Nat.le_of_ble_eq_true rfl, Nat.le_of_ble_eq_true rfl⟩) rfl (Nat.le_of_ble_eq_true rfl) ⟨Nat.le_of_ble_eq_true rfl, Nat.le_of_ble_eq_true rfl⟩ rfl dX11_inPostorder_13 (fun y5 M6 hw => ?_)
  obtain ⟨h7, hw⟩ := hw
  refine V_if_eq (tgt := 38) X h7 dX11_inPostorder_16 (by decide) (fun q8 => ?_) (fun q8 => ?_)
  · have hw := hw.1 q8
    refine V_iconst X dX11_inPostorder_38 ?_
    exact V_iret X hr hw dX11_inPostorder_39
  · have hw := hw.2 q8
    refine V_aload_n X dX11_inPostorder_19 rfl (q := 0) rfl ?_
    refine V_get (C := RX11) (T := TX11) (N := 24) (ci := 11) X hi_X11_inPostorder_11 gO_13 rfl 0 (by decide) lk_X11_inPostorder_f7 (fun _ h9 => h9) rfl dX11_inPostorder_20 ?_
    refine V_bipush X dX11_inPostorder_23 rfl ?_
    refine V_iload_n X dX11_inPostorder_25 rfl (q := 1) rfl ?_
    refine V_imul X dX11_inPostorder_26 ?_
    refine V_aload_n X dX11_inPostorder_27 rfl (q := 0) rfl ?_
    refine V_iload_n X dX11_inPostorder_28 rfl (q := 1) rfl ?_
    refine V_iload_n X dX11_inPostorder_29 rfl (q := 2) rfl ?_
    refine V_callV_i X _ gO_13 rfl (As := [iv p0, iv p1]) (st := [iv (12 * p0), .ref (b 13 0)]) (c_X11_byPostorder l hw) (cwV 2 X.2.2.2.1 gX11_inPostorder_X11_byPostorder rfl rfl rfl (by decide +kernel) ⟨Nat.le_of_ble_eq_true rfl, Nat.le_of_ble_eq_true rfl⟩) rfl (Nat.le_of_ble_eq_true rfl) ⟨Nat.le_of_ble_eq_true rfl, Nat.le_of_ble_eq_true rfl⟩ rfl dX11_inPostorder_30 (fun y9 M10 hw => ?_)
    refine V_iadd X dX11_inPostorder_33 ?_
    obtain ⟨h11, hw⟩ := hw
    refine V_iald X (gA_13_0) h11 (by decide) dX11_inPostorder_34 ?_
    refine V_goto (tgt := 39) X dX11_inPostorder_35 (by decide) ?_
    exact V_iret X hr hw dX11_inPostorder_39
set_option maxHeartbeats 4000000 in
set_option maxRecDepth 100000 in
theorem c_X11_inPostorder (l : Launch) {p0 : Int} {p1 : Int} {D : va_G} {g : GT} {A : Nat → Prop} {a : Nat → Nat} {b : Nat → Nat → Nat} {M : Mem} {Q : Int → Mem → Prop} (hw : wp_X11_inPostorder M p0 p1 Q) : Met l yX11_inPostorder wsX11_inPostorder ({ frames := 3, cells := 0, slots := 0, locals := 64 } : Room) (cPc D g A a b M [.ref (a 13), iv p0, iv p1]) (cQi D g A a b Q) 0 0 A := by
  refine Met.ofW (cc := cX11_inPostorder) (maxL := 3) (ret := (some .int)) (by decide) rfl ?_
  intro p e s m args below meth c s₁ B hml hv
  obtain ⟨rfl, hP, hD, hG⟩ := hv
  have X : vC p s m _ meth c D g A RX11 wsX11_inPostorder cX11_inPostorder 3 := ⟨B.exec, B.bytes, findClass_of_methodNamed B.named, atoms_spec (ws := wsX11_inPostorder) B.pre, hG, hml, B.notSynchronized⟩
  have hr := B.returns
  have hl := lv_entry ([.ref (a 13), iv p0, iv p1]) (n := 3) (Nat.le_of_ble_eq_true rfl)
  rw [lg_entry_eq]
  generalize (lg_sl ([.ref (a 13), iv p0, iv p1]) ++ List.replicate (3 - (lg_sl ([.ref (a 13), iv p0, iv p1])).length) Slot.unset).toArray = ls at hl ⊢
  have hl : lv_has ls 3 [(0, .ref (a 13)), (1, iv p0), (2, iv p1)] := hl
  exact wke_X11_inPostorder X hr  hw s.heap [] ls hP hD va_S.rf hl

set_option maxRecDepth 20000 in
theorem ggX11_subtreeSize_X11_measures : GoodIn wsX11_subtreeSize wsX11_measures := goodIn_r _ [6, 7, 8, 1, 29, 30, 31, 32, 33, 34, 35, 36, 37, 38, 39, 40, 41, 42, 43, 44, 45, 46, 47, 48, 49, 50, 51, 52] (by decide +kernel) (by decide +kernel)
set_option maxRecDepth 20000 in
theorem gX11_subtreeSize_X11_measures : GoodIn wsX11_subtreeSize (wsV RX11 95 RX11 yX11_measures wsX11_measures) := goodIn_app (goodIn_of _ (by decide +kernel)) ggX11_subtreeSize_X11_measures
set_option maxRecDepth 20000 in
theorem ggX11_subtreeSize_X11_isNode : GoodIn wsX11_subtreeSize wsX11_isNode := goodIn_r _ [12, 7, 13, 14, 5, 15, 16, 17, 18, 29, 30, 31, 32, 33, 34, 35, 36, 37, 38, 39, 40, 41, 42, 43, 44, 45, 46, 47, 48, 49, 50, 51, 52] (by decide +kernel) (by decide +kernel)
set_option maxRecDepth 20000 in
theorem gX11_subtreeSize_X11_isNode : GoodIn wsX11_subtreeSize (wsV RX11 98 RX11 yX11_isNode wsX11_isNode) := goodIn_app (goodIn_of _ (by decide +kernel)) ggX11_subtreeSize_X11_isNode
set_option maxRecDepth 20000 in
theorem ggX11_subtreeSize_X11_goes : GoodIn wsX11_subtreeSize wsX11_goes := goodIn_r _ [22, 23, 29, 30, 31, 32, 33, 34, 35, 36, 37, 38, 39, 40, 41, 42, 43, 44, 45, 46, 47, 48, 49, 50, 51, 52] (by decide +kernel) (by decide +kernel)
set_option maxRecDepth 20000 in
theorem gX11_subtreeSize_X11_goes : GoodIn wsX11_subtreeSize (wsV RX11 87 RX11 yX11_goes wsX11_goes) := goodIn_app (goodIn_of _ (by decide +kernel)) ggX11_subtreeSize_X11_goes
set_option maxRecDepth 20000 in
theorem ggX11_subtreeSize_X11_place : GoodIn wsX11_subtreeSize wsX11_place := goodIn_r _ [27, 28, 29, 30, 31, 32, 33, 34, 35, 36, 37, 38, 39, 40, 41, 42, 43, 44, 45, 46, 47, 48, 49, 50, 51, 52] (by decide +kernel) (by decide +kernel)
set_option maxRecDepth 20000 in
theorem gX11_subtreeSize_X11_place : GoodIn wsX11_subtreeSize (wsV RX11 102 RX11 yX11_place wsX11_place) := goodIn_app (goodIn_of _ (by decide +kernel)) ggX11_subtreeSize_X11_place
theorem dX11_subtreeSize_0 : decode cX11_subtreeSize 0 = .ok (.aload_n 0, 1) := by decide +kernel
theorem dX11_subtreeSize_1 : decode cX11_subtreeSize 1 = .ok (.invokevirtual 95, 3) := by decide +kernel
theorem dX11_subtreeSize_4 : decode cX11_subtreeSize 4 = .ok (.aload_n 0, 1) := by decide +kernel
theorem dX11_subtreeSize_5 : decode cX11_subtreeSize 5 = .ok (.aload_n 0, 1) := by decide +kernel
theorem dX11_subtreeSize_6 : decode cX11_subtreeSize 6 = .ok (.iload_n 1, 1) := by decide +kernel
theorem dX11_subtreeSize_7 : decode cX11_subtreeSize 7 = .ok (.iload_n 2, 1) := by decide +kernel
theorem dX11_subtreeSize_8 : decode cX11_subtreeSize 8 = .ok (.invokevirtual 98, 3) := by decide +kernel
theorem dX11_subtreeSize_11 : decode cX11_subtreeSize 11 = .ok (.iconst 1, 1) := by decide +kernel
theorem dX11_subtreeSize_12 : decode cX11_subtreeSize 12 = .ok (.iconst 1, 1) := by decide +kernel
theorem dX11_subtreeSize_13 : decode cX11_subtreeSize 13 = .ok (.invokevirtual 87, 3) := by decide +kernel
theorem dX11_subtreeSize_16 : decode cX11_subtreeSize 16 = .ok (.ifCond .eq 22, 3) := by decide +kernel
theorem dX11_subtreeSize_19 : decode cX11_subtreeSize 19 = .ok (.aload_n 0, 1) := by decide +kernel
theorem dX11_subtreeSize_20 : decode cX11_subtreeSize 20 = .ok (.getfield 22, 3) := by decide +kernel
theorem dX11_subtreeSize_23 : decode cX11_subtreeSize 23 = .ok (.bipush 12, 2) := by decide +kernel
theorem dX11_subtreeSize_25 : decode cX11_subtreeSize 25 = .ok (.iload_n 1, 1) := by decide +kernel
theorem dX11_subtreeSize_26 : decode cX11_subtreeSize 26 = .ok (.imul, 1) := by decide +kernel
theorem dX11_subtreeSize_27 : decode cX11_subtreeSize 27 = .ok (.aload_n 0, 1) := by decide +kernel
theorem dX11_subtreeSize_28 : decode cX11_subtreeSize 28 = .ok (.iload_n 1, 1) := by decide +kernel
theorem dX11_subtreeSize_29 : decode cX11_subtreeSize 29 = .ok (.iload_n 2, 1) := by decide +kernel
theorem dX11_subtreeSize_30 : decode cX11_subtreeSize 30 = .ok (.invokevirtual 102, 3) := by decide +kernel
theorem dX11_subtreeSize_33 : decode cX11_subtreeSize 33 = .ok (.iadd, 1) := by decide +kernel
theorem dX11_subtreeSize_34 : decode cX11_subtreeSize 34 = .ok (.iaload, 1) := by decide +kernel
theorem dX11_subtreeSize_35 : decode cX11_subtreeSize 35 = .ok (.goto 4, 3) := by decide +kernel
theorem dX11_subtreeSize_38 : decode cX11_subtreeSize 38 = .ok (.iconst 0, 1) := by decide +kernel
theorem dX11_subtreeSize_39 : decode cX11_subtreeSize 39 = .ok (.ireturn, 1) := by decide +kernel
theorem lk_X11_subtreeSize_f22 : Cond.fieldLink RX11 22 "TreeComparerModel" "size" "[I" ∈ wsX11_subtreeSize := by decide +kernel
theorem hi_X11_subtreeSize_11 : ∀ w ∈ u_ws RX11 TX11 24, w ∈ wsX11_subtreeSize := by decide +kernel
def wpe_X11_subtreeSize (p0 : Int) (p1 : Int) (M : Mem) (Q : Int → Mem → Prop) : Prop := wp_X11_measures M (fun M2 => wp_X11_isNode M2 p0 p1 (fun y3 M4 => wp_X11_goes M4 y3 1 1 (fun y5 M6 => inR y5 ∧ ((y5 = 0 → Q 0 M6) ∧ (¬ (y5 = 0) → wp_X11_place M6 p0 p1 (fun y9 M10 => ((0 : Int) ≤ (12 * p0) + y9 ∧ (12 * p0) + y9 < 24) ∧ Q ((M10 13 4 ((12 * p0) + y9).toNat)) M10))))))
def wp_X11_subtreeSize (M : Mem) (p0 : Int) (p1 : Int) (Q : Int → Mem → Prop) : Prop := wpe_X11_subtreeSize p0 p1 M Q
set_option maxHeartbeats 4000000 in
set_option maxRecDepth 100000 in
theorem wke_X11_subtreeSize {p : Program} {l : Launch} {e : Env} {s : State} {m : MethodId} {args : Array Value} {below : List Frame} {meth : Method} {c : Code} {D : va_G} {g : GT} {A : Nat → Prop} {a : Nat → Nat} {b : Nat → Nat → Nat} (X : vC p s m args meth c D g A RX11 wsX11_subtreeSize cX11_subtreeSize 3) (hr : meth.sig.returnType = (some .int)) {p0 : Int} {p1 : Int} {M : Mem} {Q : Int → Mem → Prop} (hw : wpe_X11_subtreeSize p0 p1 M Q) : vV p l e ({ frames := 3, cells := 0, slots := 0, locals := 64 } : Room) s m args below meth c D g A a b 3 0 0 (MQ below (cQi D g A a b Q) args s 0 0 A) M [(0, .ref (a 13)), (1, iv p0), (2, iv p1)] 0 [] := by
  unfold wpe_X11_subtreeSize at hw
  refine V_aload_n X dX11_subtreeSize_0 rfl (q := 0) rfl ?_
  refine V_callV_v X _ gO_13 rfl (As := []) (st := []) (c_X11_measures l hw) (cwV 0 X.2.2.2.1 gX11_subtreeSize_X11_measures rfl rfl rfl (by decide +kernel) ⟨Nat.le_of_ble_eq_true rfl, Nat.le_of_ble_eq_true rfl⟩) rfl (Nat.le_of_ble_eq_true rfl) ⟨Nat.le_of_ble_eq_true rfl, Nat.le_of_ble_eq_true rfl⟩ rfl dX11_subtreeSize_1 (fun M2 hw => ?_)
  refine V_aload_n X dX11_subtreeSize_4 rfl (q := 0) rfl ?_
  refine V_aload_n X dX11_subtreeSize_5 rfl (q := 0) rfl ?_
  refine V_iload_n X dX11_subtreeSize_6 rfl (q := 1) rfl ?_
  refine V_iload_n X dX11_subtreeSize_7 rfl (q := 2) rfl ?_
  refine V_callV_i X _ gO_13 rfl (As := [iv p0, iv p1]) (st := [.ref (a 13)]) (c_X11_isNode l hw) (cwV 2 X.2.2.2.1 gX11_subtreeSize_X11_isNode rfl rfl rfl (by decide +kernel) ⟨Nat.le_of_ble_eq_true rfl, Nat.le_of_ble_eq_true rfl⟩) rfl (Nat.le_of_ble_eq_true rfl) ⟨Nat.le_of_ble_eq_true rfl, Nat.le_of_ble_eq_true rfl⟩ rfl dX11_subtreeSize_8 (fun y3 M4 hw => ?_)
  refine V_iconst X dX11_subtreeSize_11 ?_
  refine V_iconst X dX11_subtreeSize_12 ?_
  refine V_callV_i X _ gO_13 rfl (As := [iv y3, iv 1, iv 1]) (st := []) (c_X11_goes l hw) (cwV 3 X.2.2.2.1 gX11_subtreeSize_X11_goes rfl rfl rfl (by decide +kernel) ⟨Nat.le_of_ble_eq_true rfl, Nat.le_of_ble_eq_true rfl⟩) rfl (Nat.le_of_ble_eq_true rfl) ⟨Nat.le_of_ble_eq_true rfl, Nat.le_of_ble_eq_true rfl⟩ rfl dX11_subtreeSize_13 (fun y5 M6 hw => ?_)
  obtain ⟨h7, hw⟩ := hw
  refine V_if_eq (tgt := 38) X h7 dX11_subtreeSize_16 (by decide) (fun q8 => ?_) (fun q8 => ?_)
  · have hw := hw.1 q8
    refine V_iconst X dX11_subtreeSize_38 ?_
    exact V_iret X hr hw dX11_subtreeSize_39
  · have hw := hw.2 q8
    refine V_aload_n X dX11_subtreeSize_19 rfl (q := 0) rfl ?_
    refine V_get (C := RX11) (T := TX11) (N := 24) (ci := 11) X hi_X11_subtreeSize_11 gO_13 rfl 4 (by decide) lk_X11_subtreeSize_f22 (fun _ h9 => h9) rfl dX11_subtreeSize_20 ?_
    refine V_bipush X dX11_subtreeSize_23 rfl ?_
    refine V_iload_n X dX11_subtreeSize_25 rfl (q := 1) rfl ?_
    refine V_imul X dX11_subtreeSize_26 ?_
    refine V_aload_n X dX11_subtreeSize_27 rfl (q := 0) rfl ?_
    refine V_iload_n X dX11_subtreeSize_28 rfl (q := 1) rfl ?_
    refine V_iload_n X dX11_subtreeSize_29 rfl (q := 2) rfl ?_
    refine V_callV_i X _ gO_13 rfl (As := [iv p0, iv p1]) (st := [iv (12 * p0), .ref (b 13 4)]) (c_X11_place l hw) (cwV 2 X.2.2.2.1 gX11_subtreeSize_X11_place rfl rfl rfl (by decide +kernel) ⟨Nat.le_of_ble_eq_true rfl, Nat.le_of_ble_eq_true rfl⟩) rfl (Nat.le_of_ble_eq_true rfl) ⟨Nat.le_of_ble_eq_true rfl, Nat.le_of_ble_eq_true rfl⟩ rfl dX11_subtreeSize_30 (fun y9 M10 hw => ?_)
    refine V_iadd X dX11_subtreeSize_33 ?_
    obtain ⟨h11, hw⟩ := hw
    refine V_iald X (gA_13_4) h11 (by decide) dX11_subtreeSize_34 ?_
    refine V_goto (tgt := 39) X dX11_subtreeSize_35 (by decide) ?_
    exact V_iret X hr hw dX11_subtreeSize_39
set_option maxHeartbeats 4000000 in
set_option maxRecDepth 100000 in
theorem c_X11_subtreeSize (l : Launch) {p0 : Int} {p1 : Int} {D : va_G} {g : GT} {A : Nat → Prop} {a : Nat → Nat} {b : Nat → Nat → Nat} {M : Mem} {Q : Int → Mem → Prop} (hw : wp_X11_subtreeSize M p0 p1 Q) : Met l yX11_subtreeSize wsX11_subtreeSize ({ frames := 3, cells := 0, slots := 0, locals := 64 } : Room) (cPc D g A a b M [.ref (a 13), iv p0, iv p1]) (cQi D g A a b Q) 0 0 A := by
  refine Met.ofW (cc := cX11_subtreeSize) (maxL := 3) (ret := (some .int)) (by decide) rfl ?_
  intro p e s m args below meth c s₁ B hml hv
  obtain ⟨rfl, hP, hD, hG⟩ := hv
  have X : vC p s m _ meth c D g A RX11 wsX11_subtreeSize cX11_subtreeSize 3 := ⟨B.exec, B.bytes, findClass_of_methodNamed B.named, atoms_spec (ws := wsX11_subtreeSize) B.pre, hG, hml, B.notSynchronized⟩
  have hr := B.returns
  have hl := lv_entry ([.ref (a 13), iv p0, iv p1]) (n := 3) (Nat.le_of_ble_eq_true rfl)
  rw [lg_entry_eq]
  generalize (lg_sl ([.ref (a 13), iv p0, iv p1]) ++ List.replicate (3 - (lg_sl ([.ref (a 13), iv p0, iv p1])).length) Slot.unset).toArray = ls at hl ⊢
  have hl : lv_has ls 3 [(0, .ref (a 13)), (1, iv p0), (2, iv p1)] := hl
  exact wke_X11_subtreeSize X hr  hw s.heap [] ls hP hD va_S.rf hl

theorem dX11_parent_0 : decode cX11_parent 0 = .ok (.iload_n 2, 1) := by decide +kernel
theorem dX11_parent_1 : decode cX11_parent 1 = .ok (.iconst 1, 1) := by decide +kernel
theorem dX11_parent_2 : decode cX11_parent 2 = .ok (.isub, 1) := by decide +kernel
theorem dX11_parent_3 : decode cX11_parent 3 = .ok (.istore_n 3, 1) := by decide +kernel
theorem dX11_parent_4 : decode cX11_parent 4 = .ok (.iload_n 3, 1) := by decide +kernel
theorem dX11_parent_5 : decode cX11_parent 5 = .ok (.ifCond .lt 34, 3) := by decide +kernel
theorem dX11_parent_8 : decode cX11_parent 8 = .ok (.aload_n 0, 1) := by decide +kernel
theorem dX11_parent_9 : decode cX11_parent 9 = .ok (.getfield 13, 3) := by decide +kernel
theorem dX11_parent_12 : decode cX11_parent 12 = .ok (.bipush 12, 2) := by decide +kernel
theorem dX11_parent_14 : decode cX11_parent 14 = .ok (.iload_n 1, 1) := by decide +kernel
theorem dX11_parent_15 : decode cX11_parent 15 = .ok (.imul, 1) := by decide +kernel
theorem dX11_parent_16 : decode cX11_parent 16 = .ok (.iload_n 3, 1) := by decide +kernel
theorem dX11_parent_17 : decode cX11_parent 17 = .ok (.iadd, 1) := by decide +kernel
theorem dX11_parent_18 : decode cX11_parent 18 = .ok (.iaload, 1) := by decide +kernel
theorem dX11_parent_19 : decode cX11_parent 19 = .ok (.aload_n 0, 1) := by decide +kernel
theorem dX11_parent_20 : decode cX11_parent 20 = .ok (.getfield 13, 3) := by decide +kernel
theorem dX11_parent_23 : decode cX11_parent 23 = .ok (.bipush 12, 2) := by decide +kernel
theorem dX11_parent_25 : decode cX11_parent 25 = .ok (.iload_n 1, 1) := by decide +kernel
theorem dX11_parent_26 : decode cX11_parent 26 = .ok (.imul, 1) := by decide +kernel
theorem dX11_parent_27 : decode cX11_parent 27 = .ok (.iload_n 2, 1) := by decide +kernel
theorem dX11_parent_28 : decode cX11_parent 28 = .ok (.iadd, 1) := by decide +kernel
theorem dX11_parent_29 : decode cX11_parent 29 = .ok (.iaload, 1) := by decide +kernel
theorem dX11_parent_30 : decode cX11_parent 30 = .ok (.if_icmp .lt 9, 3) := by decide +kernel
theorem dX11_parent_33 : decode cX11_parent 33 = .ok (.iinc 3 (-1), 3) := by decide +kernel
theorem dX11_parent_36 : decode cX11_parent 36 = .ok (.goto (-32), 3) := by decide +kernel
theorem dX11_parent_39 : decode cX11_parent 39 = .ok (.iload_n 3, 1) := by decide +kernel
theorem dX11_parent_40 : decode cX11_parent 40 = .ok (.ireturn, 1) := by decide +kernel
theorem lk_X11_parent_f13 : Cond.fieldLink RX11 13 "TreeComparerModel" "level" "[I" ∈ wsX11_parent := by decide +kernel
theorem hi_X11_parent_11 : ∀ w ∈ u_ws RX11 TX11 24, w ∈ wsX11_parent := by decide +kernel
def wph_X11_parent_4 (p0 : Int) (p1 : Int) (x3 : Int) (M : Mem) (J4 : Int → Mem → Prop) (Q : Int → Mem → Prop) : Prop := inR x3 ∧ ((x3 < 0 → Q x3 M) ∧ (¬ (x3 < 0) → ((0 : Int) ≤ (12 * p0) + x3 ∧ (12 * p0) + x3 < 24) ∧ ((0 : Int) ≤ (12 * p0) + p1 ∧ (12 * p0) + p1 < 24) ∧ inR (M 13 1 ((12 * p0) + x3).toNat) ∧ inR (M 13 1 ((12 * p0) + p1).toNat) ∧ (((M 13 1 ((12 * p0) + x3).toNat) < (M 13 1 ((12 * p0) + p1).toNat) → Q x3 M) ∧ (¬ ((M 13 1 ((12 * p0) + x3).toNat) < (M 13 1 ((12 * p0) + p1).toNat)) → J4 (x3 + (-1)) M))))
def wpe_X11_parent (p0 : Int) (p1 : Int) (M : Mem) (J4 : Int → Mem → Prop) (Q : Int → Mem → Prop) : Prop := (∀ y1 : Int, y1 = p1 - 1 → J4 y1 M)
def wp_X11_parent (M : Mem) (p0 : Int) (p1 : Int) (Q : Int → Mem → Prop) : Prop := ∃ (I4 : Nat → Int → Mem → Prop), wpe_X11_parent p0 p1 M (fun (x3 : Int) (M1 : Mem) => ∃ n1 : Nat, I4 n1 x3 M1) Q ∧ (∀ (n : Nat) (x3 : Int) (M : Mem), I4 n x3 M → wph_X11_parent_4 p0 p1 x3 M (fun (x3 : Int) (M1 : Mem) => ∃ n1 : Nat, n1 < n ∧ I4 n1 x3 M1) Q)
set_option maxHeartbeats 4000000 in
set_option maxRecDepth 100000 in
theorem wkh_X11_parent_4 {p : Program} {l : Launch} {e : Env} {s : State} {m : MethodId} {args : Array Value} {below : List Frame} {meth : Method} {c : Code} {D : va_G} {g : GT} {A : Nat → Prop} {a : Nat → Nat} {b : Nat → Nat → Nat} (X : vC p s m args meth c D g A RX11 wsX11_parent cX11_parent 4) (hr : meth.sig.returnType = (some .int)) {p0 : Int} {p1 : Int} {x3 : Int} {M : Mem} {J4 : Int → Mem → Prop} {Q : Int → Mem → Prop} (hJ4 : ∀ (x3 : Int) (M : Mem), J4 x3 M → vV p l e ({ frames := 0, cells := 0, slots := 0, locals := 0 } : Room) s m args below meth c D g A a b 4 0 0 (MQ below (cQi D g A a b Q) args s 0 0 A) M [(0, .ref (a 13)), (1, iv p0), (2, iv p1), (3, iv x3)] 4 []) (hw : wph_X11_parent_4 p0 p1 x3 M J4 Q) : vV p l e ({ frames := 0, cells := 0, slots := 0, locals := 0 } : Room) s m args below meth c D g A a b 4 0 0 (MQ below (cQi D g A a b Q) args s 0 0 A) M [(0, .ref (a 13)), (1, iv p0), (2, iv p1), (3, iv x3)] 4 [] := by
  unfold wph_X11_parent_4 at hw
  refine V_iload_n X dX11_parent_4 rfl (q := 3) rfl ?_
  obtain ⟨h2, hw⟩ := hw
  refine V_if_lt (tgt := 39) X h2 dX11_parent_5 (by decide) (fun q3 => ?_) (fun q3 => ?_)
  · have hw := hw.1 q3
    refine V_iload_n X dX11_parent_39 rfl (q := 3) rfl ?_
    exact V_iret X hr hw dX11_parent_40
  · have hw := hw.2 q3
    refine V_aload_n X dX11_parent_8 rfl (q := 0) rfl ?_
    refine V_get (C := RX11) (T := TX11) (N := 24) (ci := 11) X hi_X11_parent_11 gO_13 rfl 1 (by decide) lk_X11_parent_f13 (fun _ h9 => h9) rfl dX11_parent_9 ?_
    refine V_bipush X dX11_parent_12 rfl ?_
    refine V_iload_n X dX11_parent_14 rfl (q := 1) rfl ?_
    refine V_imul X dX11_parent_15 ?_
    refine V_iload_n X dX11_parent_16 rfl (q := 3) rfl ?_
    refine V_iadd X dX11_parent_17 ?_
    obtain ⟨h4, hw⟩ := hw
    refine V_iald X (gA_13_1) h4 (by decide) dX11_parent_18 ?_
    refine V_aload_n X dX11_parent_19 rfl (q := 0) rfl ?_
    refine V_get (C := RX11) (T := TX11) (N := 24) (ci := 11) X hi_X11_parent_11 gO_13 rfl 1 (by decide) lk_X11_parent_f13 (fun _ h9 => h9) rfl dX11_parent_20 ?_
    refine V_bipush X dX11_parent_23 rfl ?_
    refine V_iload_n X dX11_parent_25 rfl (q := 1) rfl ?_
    refine V_imul X dX11_parent_26 ?_
    refine V_iload_n X dX11_parent_27 rfl (q := 2) rfl ?_
    refine V_iadd X dX11_parent_28 ?_
    obtain ⟨h5, hw⟩ := hw
    refine V_iald X (gA_13_1) h5 (by decide) dX11_parent_29 ?_
    obtain ⟨h6, h7, hw⟩ := hw
    refine V_icmp_lt (tgt := 39) X h6 h7 dX11_parent_30 (by decide) (fun q8 => ?_) (fun q8 => ?_)
    · have hw := hw.1 q8
      refine V_iload_n X dX11_parent_39 rfl (q := 3) rfl ?_
      exact V_iret X hr hw dX11_parent_40
    · have hw := hw.2 q8
      refine V_iinc (lv1 := [(0, .ref (a 13)), (1, iv p0), (2, iv p1), (3, iv (x3 + (-1)))]) X [1, 2, 3, 0] dX11_parent_33 (q := 3) rfl (by decide) rfl ?_
      refine V_goto (tgt := 4) X dX11_parent_36 (by decide) ?_
      exact hJ4 _ _ hw
set_option maxHeartbeats 4000000 in
set_option maxRecDepth 100000 in
theorem wke_X11_parent {p : Program} {l : Launch} {e : Env} {s : State} {m : MethodId} {args : Array Value} {below : List Frame} {meth : Method} {c : Code} {D : va_G} {g : GT} {A : Nat → Prop} {a : Nat → Nat} {b : Nat → Nat → Nat} (X : vC p s m args meth c D g A RX11 wsX11_parent cX11_parent 4) (hr : meth.sig.returnType = (some .int)) {p0 : Int} {p1 : Int} {M : Mem} {J4 : Int → Mem → Prop} {Q : Int → Mem → Prop} (hJ4 : ∀ (x3 : Int) (M : Mem), J4 x3 M → vV p l e ({ frames := 0, cells := 0, slots := 0, locals := 0 } : Room) s m args below meth c D g A a b 4 0 0 (MQ below (cQi D g A a b Q) args s 0 0 A) M [(0, .ref (a 13)), (1, iv p0), (2, iv p1), (3, iv x3)] 4 []) (hw : wpe_X11_parent p0 p1 M J4 Q) : vV p l e ({ frames := 0, cells := 0, slots := 0, locals := 0 } : Room) s m args below meth c D g A a b 4 0 0 (MQ below (cQi D g A a b Q) args s 0 0 A) M [(0, .ref (a 13)), (1, iv p0), (2, iv p1)] 0 [] := by
  unfold wpe_X11_parent at hw
  refine V_iload_n X dX11_parent_0 rfl (q := 2) rfl ?_
  refine V_iconst X dX11_parent_1 ?_
  refine V_isub X dX11_parent_2 ?_
  refine V_top (fun y1 ey1 => ?_)
  have hw := hw y1 ey1
  refine V_istore_n (lv1 := [(0, .ref (a 13)), (1, iv p0), (2, iv p1), (3, iv y1)]) X [1, 2, 3, 0] dX11_parent_3 rfl (by decide) rfl ?_
  exact hJ4 _ _ hw
set_option maxHeartbeats 4000000 in
set_option maxRecDepth 100000 in
theorem c_X11_parent (l : Launch) {p0 : Int} {p1 : Int} {D : va_G} {g : GT} {A : Nat → Prop} {a : Nat → Nat} {b : Nat → Nat → Nat} {M : Mem} {Q : Int → Mem → Prop} (hw : wp_X11_parent M p0 p1 Q) : Met l yX11_parent wsX11_parent ({ frames := 0, cells := 0, slots := 0, locals := 0 } : Room) (cPc D g A a b M [.ref (a 13), iv p0, iv p1]) (cQi D g A a b Q) 0 0 A := by
  refine Met.ofW (cc := cX11_parent) (maxL := 4) (ret := (some .int)) (by decide) rfl ?_
  intro p e s m args below meth c s₁ B hml hv
  obtain ⟨rfl, hP, hD, hG⟩ := hv
  have X : vC p s m _ meth c D g A RX11 wsX11_parent cX11_parent 4 := ⟨B.exec, B.bytes, findClass_of_methodNamed B.named, atoms_spec (ws := wsX11_parent) B.pre, hG, hml, B.notSynchronized⟩
  have hr := B.returns
  have hl := lv_entry ([.ref (a 13), iv p0, iv p1]) (n := 4) (Nat.le_of_ble_eq_true rfl)
  rw [lg_entry_eq]
  generalize (lg_sl ([.ref (a 13), iv p0, iv p1]) ++ List.replicate (4 - (lg_sl ([.ref (a 13), iv p0, iv p1])).length) Slot.unset).toArray = ls at hl ⊢
  have hl : lv_has ls 4 [(0, .ref (a 13)), (1, iv p0), (2, iv p1)] := hl
  obtain ⟨I4, hw, hI4⟩ := hw
  have K : ∀ n : Nat, (∀ (x3 : Int) (M : Mem), I4 n x3 M → vV p l e ({ frames := 0, cells := 0, slots := 0, locals := 0 } : Room) s m ([.ref (a 13), iv p0, iv p1] : List Value).toArray below meth c D g A a b 4 0 0 (MQ below (cQi D g A a b Q) ([.ref (a 13), iv p0, iv p1] : List Value).toArray s 0 0 A) M [(0, .ref (a 13)), (1, iv p0), (2, iv p1), (3, iv x3)] 4 []) := by
    intro n
    induction n using Nat.strongRecOn with
    | ind n ih =>
      exact fun x3 M hh => wkh_X11_parent_4 X hr (fun _ _ ⟨n1, hn, hh⟩ => (ih n1 hn) _ _ hh) (hI4 n x3 M hh)
  exact wke_X11_parent X hr  (fun _ _ ⟨n1, hh⟩ => (K n1) _ _ hh) hw s.heap [] ls hP hD va_S.rf hl
