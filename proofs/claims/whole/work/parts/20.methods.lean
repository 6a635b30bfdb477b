theorem dJ7_fill_53178_0 : decode cJ7_fill_53178 0 = .ok (.iconst 0, 1) := by decide +kernel
theorem dJ7_fill_53178_1 : decode cJ7_fill_53178 1 = .ok (.istore_n 2, 1) := by decide +kernel
theorem dJ7_fill_53178_2 : decode cJ7_fill_53178 2 = .ok (.aload_n 0, 1) := by decide +kernel
theorem dJ7_fill_53178_3 : decode cJ7_fill_53178 3 = .ok (.arraylength, 1) := by decide +kernel
theorem dJ7_fill_53178_4 : decode cJ7_fill_53178 4 = .ok (.istore_n 3, 1) := by decide +kernel
theorem dJ7_fill_53178_5 : decode cJ7_fill_53178 5 = .ok (.iload_n 2, 1) := by decide +kernel
theorem dJ7_fill_53178_6 : decode cJ7_fill_53178 6 = .ok (.iload_n 3, 1) := by decide +kernel
theorem dJ7_fill_53178_7 : decode cJ7_fill_53178 7 = .ok (.if_icmp .ge 13, 3) := by decide +kernel
theorem dJ7_fill_53178_10 : decode cJ7_fill_53178 10 = .ok (.aload_n 0, 1) := by decide +kernel
theorem dJ7_fill_53178_11 : decode cJ7_fill_53178 11 = .ok (.iload_n 2, 1) := by decide +kernel
theorem dJ7_fill_53178_12 : decode cJ7_fill_53178 12 = .ok (.iload_n 1, 1) := by decide +kernel
theorem dJ7_fill_53178_13 : decode cJ7_fill_53178 13 = .ok (.iastore, 1) := by decide +kernel
theorem dJ7_fill_53178_14 : decode cJ7_fill_53178 14 = .ok (.iinc 2 1, 3) := by decide +kernel
theorem dJ7_fill_53178_17 : decode cJ7_fill_53178 17 = .ok (.goto (-12), 3) := by decide +kernel
theorem dJ7_fill_53178_20 : decode cJ7_fill_53178 20 = .ok (.return_, 1) := by decide +kernel
def wph_J7_fill_53178_5 (po0 pk0 pn0 : Nat) (p1 : Int) (x2 : Int) (x3 : Int) (M : Mem) (J5 : Int → Int → Mem → Prop) (Q : Mem → Prop) : Prop := inR x2 ∧ inR x3 ∧ ((x3 ≤ x2 → Q M) ∧ (¬ (x3 ≤ x2) → ((0 : Int) ≤ x2 ∧ x2 < pn0) ∧ (∀ M5 : Mem, M5 = mset M po0 pk0 x2.toNat p1 → J5 (x2 + 1) x3 M5)))
def wpe_J7_fill_53178 (po0 pk0 pn0 : Nat) (p1 : Int) (M : Mem) (J5 : Int → Int → Mem → Prop) (Q : Mem → Prop) : Prop := (∀ y1 : Int, y1 = (pn0 : Int) → J5 0 y1 M)
def wp_J7_fill_53178 (M : Mem) (po0 pk0 pn0 : Nat) (p1 : Int) (Q : Mem → Prop) : Prop := ∃ (I5 : Nat → Int → Int → Mem → Prop), wpe_J7_fill_53178 po0 pk0 pn0 p1 M (fun (x2 : Int) (x3 : Int) (M1 : Mem) => ∃ n1 : Nat, I5 n1 x2 x3 M1) Q ∧ (∀ (n : Nat) (x2 : Int) (x3 : Int) (M : Mem), I5 n x2 x3 M → wph_J7_fill_53178_5 po0 pk0 pn0 p1 x2 x3 M (fun (x2 : Int) (x3 : Int) (M1 : Mem) => ∃ n1 : Nat, n1 < n ∧ I5 n1 x2 x3 M1) Q)
set_option maxHeartbeats 4000000 in
set_option maxRecDepth 100000 in
theorem wkh_J7_fill_53178_5 {p : Program} {l : Launch} {e : Env} {s : State} {m : MethodId} {args : Array Value} {below : List Frame} {meth : Method} {c : Code} {D : va_G} {g : GT} {A : Nat → Prop} {a : Nat → Nat} {b : Nat → Nat → Nat} (X : vC p s m args meth c D g A RJ7 wsJ7_fill_53178 cJ7_fill_53178 4) (hr : meth.sig.returnType = none) {po0 pk0 pn0 : Nat} {p1 : Int} {pq0 : Nat} (ha0 : isArr pq0 po0 pk0 pn0) {x2 : Int} {x3 : Int} {M : Mem} {J5 : Int → Int → Mem → Prop} {Q : Mem → Prop} (hJ5 : ∀ (x2 : Int) (x3 : Int) (M : Mem), J5 x2 x3 M → vV p l e ({ frames := 0, cells := 0, slots := 0, locals := 0 } : Room) s m args below meth c D g A a b 4 0 0 (MQ below (cQv D g A a b Q) args s 0 0 A) M [(0, .ref (b po0 pk0)), (1, iv p1), (2, iv x2), (3, iv x3)] 5 []) (hw : wph_J7_fill_53178_5 po0 pk0 pn0 p1 x2 x3 M J5 Q) : vV p l e ({ frames := 0, cells := 0, slots := 0, locals := 0 } : Room) s m args below meth c D g A a b 4 0 0 (MQ below (cQv D g A a b Q) args s 0 0 A) M [(0, .ref (b po0 pk0)), (1, iv p1), (2, iv x2), (3, iv x3)] 5 [] := by
  unfold wph_J7_fill_53178_5 at hw
  refine V_iload_n X dJ7_fill_53178_5 rfl (q := 2) rfl ?_
  refine V_iload_n X dJ7_fill_53178_6 rfl (q := 3) rfl ?_
  obtain ⟨h2, h3, hw⟩ := hw
  refine V_icmp_ge (tgt := 20) X h2 h3 dJ7_fill_53178_7 (by decide) (fun q4 => ?_) (fun q4 => ?_)
  · have hw := hw.1 q4
    exact V_vret X hr hw dJ7_fill_53178_20
  · have hw := hw.2 q4
    refine V_aload_n X dJ7_fill_53178_10 rfl (q := 0) rfl ?_
    refine V_iload_n X dJ7_fill_53178_11 rfl (q := 2) rfl ?_
    refine V_iload_n X dJ7_fill_53178_12 rfl (q := 1) rfl ?_
    obtain ⟨h6, hw⟩ := hw
    refine V_iast X (ha0.1 _ _ _ _) (ha0.2.1 _ _ _ _ _ _) h6 ha0.2.2 dJ7_fill_53178_13 (fun M5 eM5 => ?_)
    have hw := hw M5 eM5
    refine V_iinc (lv1 := [(0, .ref (b po0 pk0)), (1, iv p1), (2, iv (x2 + 1)), (3, iv x3)]) X [1, 2, 0, 3] dJ7_fill_53178_14 (q := 2) rfl (by decide) rfl ?_
    refine V_goto (tgt := 5) X dJ7_fill_53178_17 (by decide) ?_
    exact hJ5 _ _ _ hw
set_option maxHeartbeats 4000000 in
set_option maxRecDepth 100000 in
theorem wke_J7_fill_53178 {p : Program} {l : Launch} {e : Env} {s : State} {m : MethodId} {args : Array Value} {below : List Frame} {meth : Method} {c : Code} {D : va_G} {g : GT} {A : Nat → Prop} {a : Nat → Nat} {b : Nat → Nat → Nat} (X : vC p s m args meth c D g A RJ7 wsJ7_fill_53178 cJ7_fill_53178 4) (hr : meth.sig.returnType = none) {po0 pk0 pn0 : Nat} {p1 : Int} {pq0 : Nat} (ha0 : isArr pq0 po0 pk0 pn0) {M : Mem} {J5 : Int → Int → Mem → Prop} {Q : Mem → Prop} (hJ5 : ∀ (x2 : Int) (x3 : Int) (M : Mem), J5 x2 x3 M → vV p l e ({ frames := 0, cells := 0, slots := 0, locals := 0 } : Room) s m args below meth c D g A a b 4 0 0 (MQ below (cQv D g A a b Q) args s 0 0 A) M [(0, .ref (b po0 pk0)), (1, iv p1), (2, iv x2), (3, iv x3)] 5 []) (hw : wpe_J7_fill_53178 po0 pk0 pn0 p1 M J5 Q) : vV p l e ({ frames := 0, cells := 0, slots := 0, locals := 0 } : Room) s m args below meth c D g A a b 4 0 0 (MQ below (cQv D g A a b Q) args s 0 0 A) M [(0, .ref (b po0 pk0)), (1, iv p1)] 0 [] := by
  unfold wpe_J7_fill_53178 at hw
  refine V_iconst X dJ7_fill_53178_0 ?_
  refine V_istore_n (lv1 := [(0, .ref (b po0 pk0)), (1, iv p1), (2, iv 0)]) X [1, 2, 0] dJ7_fill_53178_1 rfl (by decide) rfl ?_
  refine V_aload_n X dJ7_fill_53178_2 rfl (q := 0) rfl ?_
  refine V_alen X (ha0.1 _ _ _ _) dJ7_fill_53178_3 ?_
  refine V_top (fun y1 ey1 => ?_)
  have hw := hw y1 ey1
  refine V_istore_n (lv1 := [(0, .ref (b po0 pk0)), (1, iv p1), (2, iv 0), (3, iv y1)]) X [1, 2, 3, 0] dJ7_fill_53178_4 rfl (by decide) rfl ?_
  exact hJ5 _ _ _ hw
set_option maxHeartbeats 4000000 in
set_option maxRecDepth 100000 in
theorem c_J7_fill_53178 (l : Launch) {po0 pk0 pn0 : Nat} {p1 : Int} {pq0 : Nat} (ha0 : isArr pq0 po0 pk0 pn0) {D : va_G} {g : GT} {A : Nat → Prop} {a : Nat → Nat} {b : Nat → Nat → Nat} {M : Mem} {Q : Mem → Prop} (hw : wp_J7_fill_53178 M po0 pk0 pn0 p1 Q) : Met l yJ7_fill_53178 wsJ7_fill_53178 ({ frames := 0, cells := 0, slots := 0, locals := 0 } : Room) (cPc D g A a b M [.ref (b po0 pk0), iv p1]) (cQv D g A a b Q) 0 0 A := by
  refine Met.ofW (cc := cJ7_fill_53178) (maxL := 4) (ret := none) (by decide) rfl ?_
  intro p e s m args below meth c s₁ B hml hv
  obtain ⟨rfl, hP, hD, hG⟩ := hv
  have X : vC p s m _ meth c D g A RJ7 wsJ7_fill_53178 cJ7_fill_53178 4 := ⟨B.exec, B.bytes, findClass_of_methodNamed B.named, atoms_spec (ws := wsJ7_fill_53178) B.pre, hG, hml, B.notSynchronized⟩
  have hr := B.returns
  have hl := lv_entry ([.ref (b po0 pk0), iv p1]) (n := 4) (Nat.le_of_ble_eq_true rfl)
  rw [lg_entry_eq]
  generalize (lg_sl ([.ref (b po0 pk0), iv p1]) ++ List.replicate (4 - (lg_sl ([.ref (b po0 pk0), iv p1])).length) Slot.unset).toArray = ls at hl ⊢
  have hl : lv_has ls 4 [(0, .ref (b po0 pk0)), (1, iv p1)] := hl
  obtain ⟨I5, hw, hI5⟩ := hw
  have K : ∀ n : Nat, (∀ (x2 : Int) (x3 : Int) (M : Mem), I5 n x2 x3 M → vV p l e ({ frames := 0, cells := 0, slots := 0, locals := 0 } : Room) s m ([.ref (b po0 pk0), iv p1] : List Value).toArray below meth c D g A a b 4 0 0 (MQ below (cQv D g A a b Q) ([.ref (b po0 pk0), iv p1] : List Value).toArray s 0 0 A) M [(0, .ref (b po0 pk0)), (1, iv p1), (2, iv x2), (3, iv x3)] 5 []) := by
    intro n
    induction n using Nat.strongRecOn with
    | ind n ih =>
      exact fun x2 x3 M hh => wkh_J7_fill_53178_5 X hr ha0 (fun _ _ _ ⟨n1, hn, hh⟩ => (ih n1 hn) _ _ _ hh) (hI5 n x2 x3 M hh)
  exact wke_J7_fill_53178 X hr ha0 (fun _ _ _ ⟨n1, hh⟩ => (K n1) _ _ _ hh) hw s.heap [] ls hP hD va_S.rf hl

theorem dX11_thrown_0 : decode cX11_thrown 0 = .ok (.aload_n 0, 1) := by decide +kernel
theorem dX11_thrown_1 : decode cX11_thrown 1 = .ok (.getfield 72, 3) := by decide +kernel
theorem dX11_thrown_4 : decode cX11_thrown 4 = .ok (.ireturn, 1) := by decide +kernel
theorem lk_X11_thrown_f72 : Cond.fieldLink RX11 72 "TreeComparerModel" "thrown" "I" ∈ wsX11_thrown := by decide +kernel
theorem hi_X11_thrown_11 : ∀ w ∈ u_ws RX11 TX11 24, w ∈ wsX11_thrown := by decide +kernel
def wpe_X11_thrown (M : Mem) (Q : Int → Mem → Prop) : Prop := Q ((M 13 23 0)) M
def wp_X11_thrown (M : Mem) (Q : Int → Mem → Prop) : Prop := wpe_X11_thrown M Q
set_option maxHeartbeats 4000000 in
set_option maxRecDepth 100000 in
theorem wke_X11_thrown {p : Program} {l : Launch} {e : Env} {s : State} {m : MethodId} {args : Array Value} {below : List Frame} {meth : Method} {c : Code} {D : va_G} {g : GT} {A : Nat → Prop} {a : Nat → Nat} {b : Nat → Nat → Nat} (X : vC p s m args meth c D g A RX11 wsX11_thrown cX11_thrown 1) (hr : meth.sig.returnType = (some .int)) {M : Mem} {Q : Int → Mem → Prop} (hw : wpe_X11_thrown M Q) : vV p l e ({ frames := 0, cells := 0, slots := 0, locals := 0 } : Room) s m args below meth c D g A a b 1 0 0 (MQ below (cQi D g A a b Q) args s 0 0 A) M [(0, .ref (a 13))] 0 [] := by
  unfold wpe_X11_thrown at hw
  refine V_aload_n X dX11_thrown_0 rfl (q := 0) rfl ?_
  refine V_get (C := RX11) (T := TX11) (N := 24) (ci := 11) X hi_X11_thrown_11 gO_13 rfl 23 (by decide) lk_X11_thrown_f72 (fun _ h9 => h9) rfl dX11_thrown_1 ?_
  exact V_iret X hr hw dX11_thrown_4
set_option maxHeartbeats 4000000 in
set_option maxRecDepth 100000 in
theorem c_X11_thrown (l : Launch) {D : va_G} {g : GT} {A : Nat → Prop} {a : Nat → Nat} {b : Nat → Nat → Nat} {M : Mem} {Q : Int → Mem → Prop} (hw : wp_X11_thrown M Q) : Met l yX11_thrown wsX11_thrown ({ frames := 0, cells := 0, slots := 0, locals := 0 } : Room) (cPc D g A a b M [.ref (a 13)]) (cQi D g A a b Q) 0 0 A := by
  refine Met.ofW (cc := cX11_thrown) (maxL := 1) (ret := (some .int)) (by decide) rfl ?_
  intro p e s m args below meth c s₁ B hml hv
  obtain ⟨rfl, hP, hD, hG⟩ := hv
  have X : vC p s m _ meth c D g A RX11 wsX11_thrown cX11_thrown 1 := ⟨B.exec, B.bytes, findClass_of_methodNamed B.named, atoms_spec (ws := wsX11_thrown) B.pre, hG, hml, B.notSynchronized⟩
  have hr := B.returns
  have hl := lv_entry ([.ref (a 13)]) (n := 1) (Nat.le_of_ble_eq_true rfl)
  rw [lg_entry_eq]
  generalize (lg_sl ([.ref (a 13)]) ++ List.replicate (1 - (lg_sl ([.ref (a 13)])).length) Slot.unset).toArray = ls at hl ⊢
  have hl : lv_has ls 1 [(0, .ref (a 13))] := hl
  exact wke_X11_thrown X hr  hw s.heap [] ls hP hD va_S.rf hl

theorem dX11_at_0 : decode cX11_at 0 = .ok (.iload_n 0, 1) := by decide +kernel
theorem dX11_at_1 : decode cX11_at 1 = .ok (.bipush 13, 2) := by decide +kernel
theorem dX11_at_3 : decode cX11_at 3 = .ok (.imul, 1) := by decide +kernel
theorem dX11_at_4 : decode cX11_at 4 = .ok (.iload_n 1, 1) := by decide +kernel
theorem dX11_at_5 : decode cX11_at 5 = .ok (.iadd, 1) := by decide +kernel
theorem dX11_at_6 : decode cX11_at 6 = .ok (.bipush 13, 2) := by decide +kernel
theorem dX11_at_8 : decode cX11_at 8 = .ok (.imul, 1) := by decide +kernel
theorem dX11_at_9 : decode cX11_at 9 = .ok (.iload_n 2, 1) := by decide +kernel
theorem dX11_at_10 : decode cX11_at 10 = .ok (.iadd, 1) := by decide +kernel
theorem dX11_at_11 : decode cX11_at 11 = .ok (.bipush 13, 2) := by decide +kernel
theorem dX11_at_13 : decode cX11_at 13 = .ok (.imul, 1) := by decide +kernel
theorem dX11_at_14 : decode cX11_at 14 = .ok (.iload_n 3, 1) := by decide +kernel
theorem dX11_at_15 : decode cX11_at 15 = .ok (.iadd, 1) := by decide +kernel
theorem dX11_at_16 : decode cX11_at 16 = .ok (.ireturn, 1) := by decide +kernel
def wpe_X11_at (p0 : Int) (p1 : Int) (p2 : Int) (p3 : Int) (M : Mem) (Q : Int → Mem → Prop) : Prop := Q ((((((p0 * 13) + p1) * 13) + p2) * 13) + p3) M
def wp_X11_at (M : Mem) (p0 : Int) (p1 : Int) (p2 : Int) (p3 : Int) (Q : Int → Mem → Prop) : Prop := wpe_X11_at p0 p1 p2 p3 M Q
set_option maxHeartbeats 4000000 in
set_option maxRecDepth 100000 in
theorem wke_X11_at {p : Program} {l : Launch} {e : Env} {s : State} {m : MethodId} {args : Array Value} {below : List Frame} {meth : Method} {c : Code} {D : va_G} {g : GT} {A : Nat → Prop} {a : Nat → Nat} {b : Nat → Nat → Nat} (X : vC p s m args meth c D g A RX11 wsX11_at cX11_at 4) (hr : meth.sig.returnType = (some .int)) {p0 : Int} {p1 : Int} {p2 : Int} {p3 : Int} {M : Mem} {Q : Int → Mem → Prop} (hw : wpe_X11_at p0 p1 p2 p3 M Q) : vV p l e ({ frames := 0, cells := 0, slots := 0, locals := 0 } : Room) s m args below meth c D g A a b 4 0 0 (MQ below (cQi D g A a b Q) args s 0 0 A) M [(0, iv p0), (1, iv p1), (2, iv p2), (3, iv p3)] 0 [] := by
  unfold wpe_X11_at at hw
  refine V_iload_n X dX11_at_0 rfl (q := 0) rfl ?_
  refine V_bipush X dX11_at_1 rfl ?_
  refine V_imul X dX11_at_3 ?_
  refine V_iload_n X dX11_at_4 rfl (q := 1) rfl ?_
  refine V_iadd X dX11_at_5 ?_
  refine V_bipush X dX11_at_6 rfl ?_
  refine V_imul X dX11_at_8 ?_
  refine V_iload_n X dX11_at_9 rfl (q := 2) rfl ?_
  refine V_iadd X dX11_at_10 ?_
  refine V_bipush X dX11_at_11 rfl ?_
  refine V_imul X dX11_at_13 ?_
  refine V_iload_n X dX11_at_14 rfl (q := 3) rfl ?_
  refine V_iadd X dX11_at_15 ?_
  exact V_iret X hr hw dX11_at_16
set_option maxHeartbeats 4000000 in
set_option maxRecDepth 100000 in
theorem c_X11_at (l : Launch) {p0 : Int} {p1 : Int} {p2 : Int} {p3 : Int} {D : va_G} {g : GT} {A : Nat → Prop} {a : Nat → Nat} {b : Nat → Nat → Nat} {M : Mem} {Q : Int → Mem → Prop} (hw : wp_X11_at M p0 p1 p2 p3 Q) : Met l yX11_at wsX11_at ({ frames := 0, cells := 0, slots := 0, locals := 0 } : Room) (cPc D g A a b M [iv p0, iv p1, iv p2, iv p3]) (cQi D g A a b Q) 0 0 A := by
  refine Met.ofW (cc := cX11_at) (maxL := 4) (ret := (some .int)) (by decide) rfl ?_
  intro p e s m args below meth c s₁ B hml hv
  obtain ⟨rfl, hP, hD, hG⟩ := hv
  have X : vC p s m _ meth c D g A RX11 wsX11_at cX11_at 4 := ⟨B.exec, B.bytes, findClass_of_methodNamed B.named, atoms_spec (ws := wsX11_at) B.pre, hG, hml, B.notSynchronized⟩
  have hr := B.returns
  have hl := lv_entry ([iv p0, iv p1, iv p2, iv p3]) (n := 4) (Nat.le_of_ble_eq_true rfl)
  rw [lg_entry_eq]
  generalize (lg_sl ([iv p0, iv p1, iv p2, iv p3]) ++ List.replicate (4 - (lg_sl ([iv p0, iv p1, iv p2, iv p3])).length) Slot.unset).toArray = ls at hl ⊢
  have hl : lv_has ls 4 [(0, iv p0), (1, iv p1), (2, iv p2), (3, iv p3)] := hl
  exact wke_X11_at X hr  hw s.heap [] ls hP hD va_S.rf hl

theorem dX11_alike_0 : decode cX11_alike 0 = .ok (.aload_n 0, 1) := by decide +kernel
theorem dX11_alike_1 : decode cX11_alike 1 = .ok (.getfield 16, 3) := by decide +kernel
theorem dX11_alike_4 : decode cX11_alike 4 = .ok (.iload_n 1, 1) := by decide +kernel
theorem dX11_alike_5 : decode cX11_alike 5 = .ok (.iaload, 1) := by decide +kernel
theorem dX11_alike_6 : decode cX11_alike 6 = .ok (.aload_n 0, 1) := by decide +kernel
theorem dX11_alike_7 : decode cX11_alike 7 = .ok (.getfield 16, 3) := by decide +kernel
theorem dX11_alike_10 : decode cX11_alike 10 = .ok (.bipush 12, 2) := by decide +kernel
theorem dX11_alike_12 : decode cX11_alike 12 = .ok (.iload_n 2, 1) := by decide +kernel
theorem dX11_alike_13 : decode cX11_alike 13 = .ok (.iadd, 1) := by decide +kernel
theorem dX11_alike_14 : decode cX11_alike 14 = .ok (.iaload, 1) := by decide +kernel
theorem dX11_alike_15 : decode cX11_alike 15 = .ok (.if_icmp .ne 7, 3) := by decide +kernel
theorem dX11_alike_18 : decode cX11_alike 18 = .ok (.iconst 1, 1) := by decide +kernel
theorem dX11_alike_19 : decode cX11_alike 19 = .ok (.goto 4, 3) := by decide +kernel
theorem dX11_alike_22 : decode cX11_alike 22 = .ok (.iconst 0, 1) := by decide +kernel
theorem dX11_alike_23 : decode cX11_alike 23 = .ok (.ireturn, 1) := by decide +kernel
theorem lk_X11_alike_f16 : Cond.fieldLink RX11 16 "TreeComparerModel" "kind" "[I" ∈ wsX11_alike := by decide +kernel
theorem hi_X11_alike_11 : ∀ w ∈ u_ws RX11 TX11 24, w ∈ wsX11_alike := by decide +kernel
def wpe_X11_alike (p0 : Int) (p1 : Int) (M : Mem) (Q : Int → Mem → Prop) : Prop := ((0 : Int) ≤ p0 ∧ p0 < 24) ∧ ((0 : Int) ≤ 12 + p1 ∧ 12 + p1 < 24) ∧ inR (M 13 2 p0.toNat) ∧ inR (M 13 2 (12 + p1).toNat) ∧ (((M 13 2 p0.toNat) ≠ (M 13 2 (12 + p1).toNat) → Q 0 M) ∧ (¬ ((M 13 2 p0.toNat) ≠ (M 13 2 (12 + p1).toNat)) → Q 1 M))
def wp_X11_alike (M : Mem) (p0 : Int) (p1 : Int) (Q : Int → Mem → Prop) : Prop := wpe_X11_alike p0 p1 M Q
set_option maxHeartbeats 4000000 in
set_option maxRecDepth 100000 in
theorem wke_X11_alike {p : Program} {l : Launch} {e : Env} {s : State} {m : MethodId} {args : Array Value} {below : List Frame} {meth : Method} {c : Code} {D : va_G} {g : GT} {A : Nat → Prop} {a : Nat → Nat} {b : Nat → Nat → Nat} (X : vC p s m args meth c D g A RX11 wsX11_alike cX11_alike 3) (hr : meth.sig.returnType = (some .boolean)) {p0 : Int} {p1 : Int} {M : Mem} {Q : Int → Mem → Prop} (hw : wpe_X11_alike p0 p1 M Q) : vV p l e ({ frames := 0, cells := 0, slots := 0, locals := 0 } : Room) s m args below meth c D g A a b 3 0 0 (MQ below (cQi D g A a b Q) args s 0 0 A) M [(0, .ref (a 13)), (1, iv p0), (2, iv p1)] 0 [] := by
  unfold wpe_X11_alike at hw
  refine V_aload_n X dX11_alike_0 rfl (q := 0) rfl ?_
  refine V_get (C := RX11) (T := TX11) (N := 24) (ci := 11) X hi_X11_alike_11 gO_13 rfl 2 (by decide) lk_X11_alike_f16 (fun _ h9 => h9) rfl dX11_alike_1 ?_
  refine V_iload_n X dX11_alike_4 rfl (q := 1) rfl ?_
  obtain ⟨h1, hw⟩ := hw
  refine V_iald X (gA_13_2) h1 (by decide) dX11_alike_5 ?_
  refine V_aload_n X dX11_alike_6 rfl (q := 0) rfl ?_
  refine V_get (C := RX11) (T := TX11) (N := 24) (ci := 11) X hi_X11_alike_11 gO_13 rfl 2 (by decide) lk_X11_alike_f16 (fun _ h9 => h9) rfl dX11_alike_7 ?_
  refine V_bipush X dX11_alike_10 rfl ?_
  refine V_iload_n X dX11_alike_12 rfl (q := 2) rfl ?_
  refine V_iadd X dX11_alike_13 ?_
  obtain ⟨h2, hw⟩ := hw
  refine V_iald X (gA_13_2) h2 (by decide) dX11_alike_14 ?_
  obtain ⟨h3, h4, hw⟩ := hw
  refine V_icmp_ne (tgt := 22) X h3 h4 dX11_alike_15 (by decide) (fun q5 => ?_) (fun q5 => ?_)
  · have hw := hw.1 q5
    refine V_iconst X dX11_alike_22 ?_
    exact V_zret X hr (by decide) hw dX11_alike_23
  · have hw := hw.2 q5
    refine V_iconst X dX11_alike_18 ?_
    refine V_goto (tgt := 23) X dX11_alike_19 (by decide) ?_
    exact V_zret X hr (by decide) hw dX11_alike_23
set_option maxHeartbeats 4000000 in
set_option maxRecDepth 100000 in
theorem c_X11_alike (l : Launch) {p0 : Int} {p1 : Int} {D : va_G} {g : GT} {A : Nat → Prop} {a : Nat → Nat} {b : Nat → Nat → Nat} {M : Mem} {Q : Int → Mem → Prop} (hw : wp_X11_alike M p0 p1 Q) : Met l yX11_alike wsX11_alike ({ frames := 0, cells := 0, slots := 0, locals := 0 } : Room) (cPc D g A a b M [.ref (a 13), iv p0, iv p1]) (cQi D g A a b Q) 0 0 A := by
  refine Met.ofW (cc := cX11_alike) (maxL := 3) (ret := (some .boolean)) (by decide) rfl ?_
  intro p e s m args below meth c s₁ B hml hv
  obtain ⟨rfl, hP, hD, hG⟩ := hv
  have X : vC p s m _ meth c D g A RX11 wsX11_alike cX11_alike 3 := ⟨B.exec, B.bytes, findClass_of_methodNamed B.named, atoms_spec (ws := wsX11_alike) B.pre, hG, hml, B.notSynchronized⟩
  have hr := B.returns
  have hl := lv_entry ([.ref (a 13), iv p0, iv p1]) (n := 3) (Nat.le_of_ble_eq_true rfl)
  rw [lg_entry_eq]
  generalize (lg_sl ([.ref (a 13), iv p0, iv p1]) ++ List.replicate (3 - (lg_sl ([.ref (a 13), iv p0, iv p1])).length) Slot.unset).toArray = ls at hl ⊢
  have hl : lv_has ls 3 [(0, .ref (a 13)), (1, iv p0), (2, iv p1)] := hl
  exact wke_X11_alike X hr  hw s.heap [] ls hP hD va_S.rf hl

theorem dX11_lesser_0 : decode cX11_lesser 0 = .ok (.iload_n 0, 1) := by decide +kernel
theorem dX11_lesser_1 : decode cX11_lesser 1 = .ok (.iload_n 1, 1) := by decide +kernel
theorem dX11_lesser_2 : decode cX11_lesser 2 = .ok (.if_icmp .ge 7, 3) := by decide +kernel
theorem dX11_lesser_5 : decode cX11_lesser 5 = .ok (.iload_n 0, 1) := by decide +kernel
theorem dX11_lesser_6 : decode cX11_lesser 6 = .ok (.goto 4, 3) := by decide +kernel
theorem dX11_lesser_9 : decode cX11_lesser 9 = .ok (.iload_n 1, 1) := by decide +kernel
theorem dX11_lesser_10 : decode cX11_lesser 10 = .ok (.ireturn, 1) := by decide +kernel
def wpe_X11_lesser (p0 : Int) (p1 : Int) (M : Mem) (Q : Int → Mem → Prop) : Prop := inR p0 ∧ inR p1 ∧ ((p1 ≤ p0 → Q p1 M) ∧ (¬ (p1 ≤ p0) → Q p0 M))
def wp_X11_lesser (M : Mem) (p0 : Int) (p1 : Int) (Q : Int → Mem → Prop) : Prop := wpe_X11_lesser p0 p1 M Q
set_option maxHeartbeats 4000000 in
set_option maxRecDepth 100000 in
theorem wke_X11_lesser {p : Program} {l : Launch} {e : Env} {s : State} {m : MethodId} {args : Array Value} {below : List Frame} {meth : Method} {c : Code} {D : va_G} {g : GT} {A : Nat → Prop} {a : Nat → Nat} {b : Nat → Nat → Nat} (X : vC p s m args meth c D g A RX11 wsX11_lesser cX11_lesser 2) (hr : meth.sig.returnType = (some .int)) {p0 : Int} {p1 : Int} {M : Mem} {Q : Int → Mem → Prop} (hw : wpe_X11_lesser p0 p1 M Q) : vV p l e ({ frames := 0, cells := 0, slots := 0, locals := 0 } : Room) s m args below meth c D g A a b 2 0 0 (MQ below (cQi D g A a b Q) args s 0 0 A) M [(0, iv p0), (1, iv p1)] 0 [] := by
  unfold wpe_X11_lesser at hw
  refine V_iload_n X dX11_lesser_0 rfl (q := 0) rfl ?_
  refine V_iload_n X dX11_lesser_1 rfl (q := 1) rfl ?_
  obtain ⟨h1, h2, hw⟩ := hw
  refine V_icmp_ge (tgt := 9) X h1 h2 dX11_lesser_2 (by decide) (fun q3 => ?_) (fun q3 => ?_)
  · have hw := hw.1 q3
    refine V_iload_n X dX11_lesser_9 rfl (q := 1) rfl ?_
    exact V_iret X hr hw dX11_lesser_10
  · have hw := hw.2 q3
    refine V_iload_n X dX11_lesser_5 rfl (q := 0) rfl ?_
    refine V_goto (tgt := 10) X dX11_lesser_6 (by decide) ?_
    exact V_iret X hr hw dX11_lesser_10
set_option maxHeartbeats 4000000 in
set_option maxRecDepth 100000 in
theorem c_X11_lesser (l : Launch) {p0 : Int} {p1 : Int} {D : va_G} {g : GT} {A : Nat → Prop} {a : Nat → Nat} {b : Nat → Nat → Nat} {M : Mem} {Q : Int → Mem → Prop} (hw : wp_X11_lesser M p0 p1 Q) : Met l yX11_lesser wsX11_lesser ({ frames := 0, cells := 0, slots := 0, locals := 0 } : Room) (cPc D g A a b M [iv p0, iv p1]) (cQi D g A a b Q) 0 0 A := by
  refine Met.ofW (cc := cX11_lesser) (maxL := 2) (ret := (some .int)) (by decide) rfl ?_
  intro p e s m args below meth c s₁ B hml hv
  obtain ⟨rfl, hP, hD, hG⟩ := hv
  have X : vC p s m _ meth c D g A RX11 wsX11_lesser cX11_lesser 2 := ⟨B.exec, B.bytes, findClass_of_methodNamed B.named, atoms_spec (ws := wsX11_lesser) B.pre, hG, hml, B.notSynchronized⟩
  have hr := B.returns
  have hl := lv_entry ([iv p0, iv p1]) (n := 2) (Nat.le_of_ble_eq_true rfl)
  rw [lg_entry_eq]
  generalize (lg_sl ([iv p0, iv p1]) ++ List.replicate (2 - (lg_sl ([iv p0, iv p1])).length) Slot.unset).toArray = ls at hl ⊢
  have hl : lv_has ls 2 [(0, iv p0), (1, iv p1)] := hl
  exact wke_X11_lesser X hr  hw s.heap [] ls hP hD va_S.rf hl

theorem dX11_priceOf_0 : decode cX11_priceOf 0 = .ok (.aload_n 0, 1) := by decide +kernel
theorem dX11_priceOf_1 : decode cX11_priceOf 1 = .ok (.getfield 28, 3) := by decide +kernel
theorem dX11_priceOf_4 : decode cX11_priceOf 4 = .ok (.iconst 3, 1) := by decide +kernel
theorem dX11_priceOf_5 : decode cX11_priceOf 5 = .ok (.aload_n 0, 1) := by decide +kernel
theorem dX11_priceOf_6 : decode cX11_priceOf 6 = .ok (.getfield 16, 3) := by decide +kernel
theorem dX11_priceOf_9 : decode cX11_priceOf 9 = .ok (.bipush 12, 2) := by decide +kernel
theorem dX11_priceOf_11 : decode cX11_priceOf 11 = .ok (.iload_n 1, 1) := by decide +kernel
theorem dX11_priceOf_12 : decode cX11_priceOf 12 = .ok (.imul, 1) := by decide +kernel
theorem dX11_priceOf_13 : decode cX11_priceOf 13 = .ok (.iload_n 2, 1) := by decide +kernel
theorem dX11_priceOf_14 : decode cX11_priceOf 14 = .ok (.iadd, 1) := by decide +kernel
theorem dX11_priceOf_15 : decode cX11_priceOf 15 = .ok (.iaload, 1) := by decide +kernel
theorem dX11_priceOf_16 : decode cX11_priceOf 16 = .ok (.imul, 1) := by decide +kernel
theorem dX11_priceOf_17 : decode cX11_priceOf 17 = .ok (.iload_n 3, 1) := by decide +kernel
theorem dX11_priceOf_18 : decode cX11_priceOf 18 = .ok (.iadd, 1) := by decide +kernel
theorem dX11_priceOf_19 : decode cX11_priceOf 19 = .ok (.iaload, 1) := by decide +kernel
theorem dX11_priceOf_20 : decode cX11_priceOf 20 = .ok (.ireturn, 1) := by decide +kernel
theorem lk_X11_priceOf_f28 : Cond.fieldLink RX11 28 "TreeComparerModel" "price" "[I" ∈ wsX11_priceOf := by decide +kernel
theorem hi_X11_priceOf_11 : ∀ w ∈ u_ws RX11 TX11 24, w ∈ wsX11_priceOf := by decide +kernel
theorem lk_X11_priceOf_f16 : Cond.fieldLink RX11 16 "TreeComparerModel" "kind" "[I" ∈ wsX11_priceOf := by decide +kernel
def wpe_X11_priceOf (p0 : Int) (p1 : Int) (p2 : Int) (M : Mem) (Q : Int → Mem → Prop) : Prop := ((0 : Int) ≤ (12 * p0) + p1 ∧ (12 * p0) + p1 < 24) ∧ ((0 : Int) ≤ (3 * (M 13 2 ((12 * p0) + p1).toNat)) + p2 ∧ (3 * (M 13 2 ((12 * p0) + p1).toNat)) + p2 < 12) ∧ Q ((M 13 6 ((3 * (M 13 2 ((12 * p0) + p1).toNat)) + p2).toNat)) M
def wp_X11_priceOf (M : Mem) (p0 : Int) (p1 : Int) (p2 : Int) (Q : Int → Mem → Prop) : Prop := wpe_X11_priceOf p0 p1 p2 M Q
set_option maxHeartbeats 4000000 in
set_option maxRecDepth 100000 in
theorem wke_X11_priceOf {p : Program} {l : Launch} {e : Env} {s : State} {m : MethodId} {args : Array Value} {below : List Frame} {meth : Method} {c : Code} {D : va_G} {g : GT} {A : Nat → Prop} {a : Nat → Nat} {b : Nat → Nat → Nat} (X : vC p s m args meth c D g A RX11 wsX11_priceOf cX11_priceOf 4) (hr : meth.sig.returnType = (some .int)) {p0 : Int} {p1 : Int} {p2 : Int} {M : Mem} {Q : Int → Mem → Prop} (hw : wpe_X11_priceOf p0 p1 p2 M Q) : vV p l e ({ frames := 0, cells := 0, slots := 0, locals := 0 } : Room) s m args below meth c D g A a b 4 0 0 (MQ below (cQi D g A a b Q) args s 0 0 A) M [(0, .ref (a 13)), (1, iv p0), (2, iv p1), (3, iv p2)] 0 [] := by
  unfold wpe_X11_priceOf at hw
  refine V_aload_n X dX11_priceOf_0 rfl (q := 0) rfl ?_
  refine V_get (C := RX11) (T := TX11) (N := 24) (ci := 11) X hi_X11_priceOf_11 gO_13 rfl 6 (by decide) lk_X11_priceOf_f28 (fun _ h9 => h9) rfl dX11_priceOf_1 ?_
  refine V_iconst X dX11_priceOf_4 ?_
  refine V_aload_n X dX11_priceOf_5 rfl (q := 0) rfl ?_
  refine V_get (C := RX11) (T := TX11) (N := 24) (ci := 11) X hi_X11_priceOf_11 gO_13 rfl 2 (by decide) lk_X11_priceOf_f16 (fun _ h9 => h9) rfl dX11_priceOf_6 ?_
  refine V_bipush X dX11_priceOf_9 rfl ?_
  refine V_iload_n X dX11_priceOf_11 rfl (q := 1) rfl ?_
  refine V_imul X dX11_priceOf_12 ?_
  refine V_iload_n X dX11_priceOf_13 rfl (q := 2) rfl ?_
  refine V_iadd X dX11_priceOf_14 ?_
  obtain ⟨h1, hw⟩ := hw
  refine V_iald X (gA_13_2) h1 (by decide) dX11_priceOf_15 ?_
  refine V_imul X dX11_priceOf_16 ?_
  refine V_iload_n X dX11_priceOf_17 rfl (q := 3) rfl ?_
  refine V_iadd X dX11_priceOf_18 ?_
  obtain ⟨h2, hw⟩ := hw
  refine V_iald X (gA_13_6) h2 (by decide) dX11_priceOf_19 ?_
  exact V_iret X hr hw dX11_priceOf_20
set_option maxHeartbeats 4000000 in
set_option maxRecDepth 100000 in
theorem c_X11_priceOf (l : Launch) {p0 : Int} {p1 : Int} {p2 : Int} {D : va_G} {g : GT} {A : Nat → Prop} {a : Nat → Nat} {b : Nat → Nat → Nat} {M : Mem} {Q : Int → Mem → Prop} (hw : wp_X11_priceOf M p0 p1 p2 Q) : Met l yX11_priceOf wsX11_priceOf ({ frames := 0, cells := 0, slots := 0, locals := 0 } : Room) (cPc D g A a b M [.ref (a 13), iv p0, iv p1, iv p2]) (cQi D g A a b Q) 0 0 A := by
  refine Met.ofW (cc := cX11_priceOf) (maxL := 4) (ret := (some .int)) (by decide) rfl ?_
  intro p e s m args below meth c s₁ B hml hv
  obtain ⟨rfl, hP, hD, hG⟩ := hv
  have X : vC p s m _ meth c D g A RX11 wsX11_priceOf cX11_priceOf 4 := ⟨B.exec, B.bytes, findClass_of_methodNamed B.named, atoms_spec (ws := wsX11_priceOf) B.pre, hG, hml, B.notSynchronized⟩
  have hr := B.returns
  have hl := lv_entry ([.ref (a 13), iv p0, iv p1, iv p2]) (n := 4) (Nat.le_of_ble_eq_true rfl)
  rw [lg_entry_eq]
  generalize (lg_sl ([.ref (a 13), iv p0, iv p1, iv p2]) ++ List.replicate (4 - (lg_sl ([.ref (a 13), iv p0, iv p1, iv p2])).length) Slot.unset).toArray = ls at hl ⊢
  have hl : lv_has ls 4 [(0, .ref (a 13)), (1, iv p0), (2, iv p1), (3, iv p2)] := hl
  exact wke_X11_priceOf X hr  hw s.heap [] ls hP hD va_S.rf hl

set_option maxRecDepth 20000 in
theorem ggX11_pairing_X11_priceOf : GoodIn wsX11_pairing wsX11_priceOf := goodIn_r _ [6, 7, 8, 9, 10, 11, 12, 13, 14, 15, 16, 17, 18, 19, 20, 21, 22, 23, 24, 25, 26, 27, 28, 29, 30, 31, 32] (by decide +kernel) (by decide +kernel)
set_option maxRecDepth 20000 in
theorem gX11_pairing_X11_priceOf : GoodIn wsX11_pairing (wsV RX11 83 RX11 yX11_priceOf wsX11_priceOf) := goodIn_app (goodIn_of _ (by decide +kernel)) ggX11_pairing_X11_priceOf
theorem dX11_pairing_0 : decode cX11_pairing 0 = .ok (.aload_n 0, 1) := by decide +kernel
theorem dX11_pairing_1 : decode cX11_pairing 1 = .ok (.getfield 19, 3) := by decide +kernel
theorem dX11_pairing_4 : decode cX11_pairing 4 = .ok (.iload_n 1, 1) := by decide +kernel
theorem dX11_pairing_5 : decode cX11_pairing 5 = .ok (.iaload, 1) := by decide +kernel
theorem dX11_pairing_6 : decode cX11_pairing 6 = .ok (.aload_n 0, 1) := by decide +kernel
theorem dX11_pairing_7 : decode cX11_pairing 7 = .ok (.getfield 19, 3) := by decide +kernel
theorem dX11_pairing_10 : decode cX11_pairing 10 = .ok (.bipush 12, 2) := by decide +kernel
theorem dX11_pairing_12 : decode cX11_pairing 12 = .ok (.iload_n 2, 1) := by decide +kernel
theorem dX11_pairing_13 : decode cX11_pairing 13 = .ok (.iadd, 1) := by decide +kernel
theorem dX11_pairing_14 : decode cX11_pairing 14 = .ok (.iaload, 1) := by decide +kernel
theorem dX11_pairing_15 : decode cX11_pairing 15 = .ok (.if_icmp .ne 7, 3) := by decide +kernel
theorem dX11_pairing_18 : decode cX11_pairing 18 = .ok (.iconst 0, 1) := by decide +kernel
theorem dX11_pairing_19 : decode cX11_pairing 19 = .ok (.goto 10, 3) := by decide +kernel
theorem dX11_pairing_22 : decode cX11_pairing 22 = .ok (.aload_n 0, 1) := by decide +kernel
theorem dX11_pairing_23 : decode cX11_pairing 23 = .ok (.iconst 0, 1) := by decide +kernel
theorem dX11_pairing_24 : decode cX11_pairing 24 = .ok (.iload_n 1, 1) := by decide +kernel
theorem dX11_pairing_25 : decode cX11_pairing 25 = .ok (.iconst 2, 1) := by decide +kernel
theorem dX11_pairing_26 : decode cX11_pairing 26 = .ok (.invokevirtual 83, 3) := by decide +kernel
theorem dX11_pairing_29 : decode cX11_pairing 29 = .ok (.ireturn, 1) := by decide +kernel
theorem lk_X11_pairing_f19 : Cond.fieldLink RX11 19 "TreeComparerModel" "label" "[I" ∈ wsX11_pairing := by decide +kernel
theorem hi_X11_pairing_11 : ∀ w ∈ u_ws RX11 TX11 24, w ∈ wsX11_pairing := by decide +kernel
def wpe_X11_pairing (p0 : Int) (p1 : Int) (M : Mem) (Q : Int → Mem → Prop) : Prop := ((0 : Int) ≤ p0 ∧ p0 < 24) ∧ ((0 : Int) ≤ 12 + p1 ∧ 12 + p1 < 24) ∧ inR (M 13 3 p0.toNat) ∧ inR (M 13 3 (12 + p1).toNat) ∧ (((M 13 3 p0.toNat) ≠ (M 13 3 (12 + p1).toNat) → wp_X11_priceOf M 0 p0 2 (fun y6 M7 => Q y6 M7)) ∧ (¬ ((M 13 3 p0.toNat) ≠ (M 13 3 (12 + p1).toNat)) → Q 0 M))
def wp_X11_pairing (M : Mem) (p0 : Int) (p1 : Int) (Q : Int → Mem → Prop) : Prop := wpe_X11_pairing p0 p1 M Q
set_option maxHeartbeats 4000000 in
set_option maxRecDepth 100000 in
theorem wke_X11_pairing {p : Program} {l : Launch} {e : Env} {s : State} {m : MethodId} {args : Array Value} {below : List Frame} {meth : Method} {c : Code} {D : va_G} {g : GT} {A : Nat → Prop} {a : Nat → Nat} {b : Nat → Nat → Nat} (X : vC p s m args meth c D g A RX11 wsX11_pairing cX11_pairing 3) (hr : meth.sig.returnType = (some .int)) {p0 : Int} {p1 : Int} {M : Mem} {Q : Int → Mem → Prop} (hw : wpe_X11_pairing p0 p1 M Q) : vV p l e ({ frames := 1, cells := 0, slots := 0, locals := 23 } : Room) s m args below meth c D g A a b 3 0 0 (MQ below (cQi D g A a b Q) args s 0 0 A) M [(0, .ref (a 13)), (1, iv p0), (2, iv p1)] 0 [] := by
  unfold wpe_X11_pairing at hw
  refine V_aload_n X dX11_pairing_0 rfl (q := 0) rfl ?_
  refine V_get (C := RX11) (T := TX11) (N := 24) (ci := 11) X hi_X11_pairing_11 gO_13 rfl 3 (by decide) lk_X11_pairing_f19 (fun _ h9 => h9) rfl dX11_pairing_1 ?_
  refine V_iload_n X dX11_pairing_4 rfl (q := 1) rfl ?_
  obtain ⟨h1, hw⟩ := hw
  refine V_iald X (gA_13_3) h1 (by decide) dX11_pairing_5 ?_
  refine V_aload_n X dX11_pairing_6 rfl (q := 0) rfl ?_
  refine V_get (C := RX11) (T := TX11) (N := 24) (ci := 11) X hi_X11_pairing_11 gO_13 rfl 3 (by decide) lk_X11_pairing_f19 (fun _ h9 => h9) rfl dX11_pairing_7 ?_
  refine V_bipush X dX11_pairing_10 rfl ?_
  refine V_iload_n X dX11_pairing_12 rfl (q := 2) rfl ?_
  refine V_iadd X dX11_pairing_13 ?_
  obtain ⟨h2, hw⟩ := hw
  refine V_iald X (gA_13_3) h2 (by decide) dX11_pairing_14 ?_
  obtain ⟨h3, h4, hw⟩ := hw
  refine V_icmp_ne (tgt := 22) X h3 h4 dX11_pairing_15 (by decide) (fun q5 => ?_) (fun q5 => ?_)
  · have hw := hw.1 q5
    refine V_aload_n X dX11_pairing_22 rfl (q := 0) rfl ?_
    refine V_iconst X dX11_pairing_23 ?_
    refine V_iload_n X dX11_pairing_24 rfl (q := 1) rfl ?_
    refine V_iconst X dX11_pairing_25 ?_
    refine V_callV_i X _ gO_13 rfl (As := [iv 0, iv p0, iv 2]) (st := []) (c_X11_priceOf l hw) (cwV 3 X.2.2.2.1 gX11_pairing_X11_priceOf rfl rfl rfl (by decide +kernel) ⟨Nat.le_of_ble_eq_true rfl, Nat.le_of_ble_eq_true rfl⟩) rfl (Nat.le_of_ble_eq_true rfl) ⟨Nat.le_of_ble_eq_true rfl, Nat.le_of_ble_eq_true rfl⟩ rfl dX11_pairing_26 (fun y6 M7 hw => ?_)
    exact V_iret X hr hw dX11_pairing_29
  · have hw := hw.2 q5
    refine V_iconst X dX11_pairing_18 ?_
    refine V_goto (tgt := 29) X dX11_pairing_19 (by decide) ?_
    exact V_iret X hr hw dX11_pairing_29
set_option maxHeartbeats 4000000 in
set_option maxRecDepth 100000 in
theorem c_X11_pairing (l : Launch) {p0 : Int} {p1 : Int} {D : va_G} {g : GT} {A : Nat → Prop} {a : Nat → Nat} {b : Nat → Nat → Nat} {M : Mem} {Q : Int → Mem → Prop} (hw : wp_X11_pairing M p0 p1 Q) : Met l yX11_pairing wsX11_pairing ({ frames := 1, cells := 0, slots := 0, locals := 23 } : Room) (cPc D g A a b M [.ref (a 13), iv p0, iv p1]) (cQi D g A a b Q) 0 0 A := by
  refine Met.ofW (cc := cX11_pairing) (maxL := 3) (ret := (some .int)) (by decide) rfl ?_
  intro p e s m args below meth c s₁ B hml hv
  obtain ⟨rfl, hP, hD, hG⟩ := hv
  have X : vC p s m _ meth c D g A RX11 wsX11_pairing cX11_pairing 3 := ⟨B.exec, B.bytes, findClass_of_methodNamed B.named, atoms_spec (ws := wsX11_pairing) B.pre, hG, hml, B.notSynchronized⟩
  have hr := B.returns
  have hl := lv_entry ([.ref (a 13), iv p0, iv p1]) (n := 3) (Nat.le_of_ble_eq_true rfl)
  rw [lg_entry_eq]
  generalize (lg_sl ([.ref (a 13), iv p0, iv p1]) ++ List.replicate (3 - (lg_sl ([.ref (a 13), iv p0, iv p1])).length) Slot.unset).toArray = ls at hl ⊢
  have hl : lv_has ls 3 [(0, .ref (a 13)), (1, iv p0), (2, iv p1)] := hl
  exact wke_X11_pairing X hr  hw s.heap [] ls hP hD va_S.rf hl

set_option maxRecDepth 20000 in
theorem ggX11_cost_X11_priceOf : GoodIn wsX11_cost wsX11_priceOf := goodIn_r _ [8, 9, 10, 26, 27, 28, 29, 30, 31, 32, 33, 34, 35, 36, 37, 38, 39, 40, 41, 42, 43, 44, 45, 46, 47, 48, 49] (by decide +kernel) (by decide +kernel)
set_option maxRecDepth 20000 in
theorem gX11_cost_X11_priceOf : GoodIn wsX11_cost (wsV RX11 83 RX11 yX11_priceOf wsX11_priceOf) := goodIn_app (goodIn_of _ (by decide +kernel)) ggX11_cost_X11_priceOf
set_option maxRecDepth 20000 in
theorem ggX11_cost_X11_at : GoodIn wsX11_cost wsX11_at := goodIn_r _ [13] (by decide +kernel) (by decide +kernel)
set_option maxRecDepth 20000 in
theorem gX11_cost_X11_at : GoodIn wsX11_cost (va_wsS RX11 123 yX11_at wsX11_at) := goodIn_app (goodIn_of _ (by decide +kernel)) ggX11_cost_X11_at
set_option maxRecDepth 20000 in
theorem ggX11_cost_X11_lesser : GoodIn wsX11_cost wsX11_lesser := goodIn_r _ [16] (by decide +kernel) (by decide +kernel)
set_option maxRecDepth 20000 in
theorem gX11_cost_X11_lesser : GoodIn wsX11_cost (va_wsS RX11 127 yX11_lesser wsX11_lesser) := goodIn_app (goodIn_of _ (by decide +kernel)) ggX11_cost_X11_lesser
set_option maxRecDepth 20000 in
theorem ggX11_cost_X11_alike : GoodIn wsX11_cost wsX11_alike := goodIn_r _ [20, 10, 26, 27, 28, 29, 30, 31, 32, 33, 34, 35, 36, 37, 38, 39, 40, 41, 42, 43, 44, 45, 46, 47, 48, 49] (by decide +kernel) (by decide +kernel)
set_option maxRecDepth 20000 in
theorem gX11_cost_X11_alike : GoodIn wsX11_cost (wsV RX11 130 RX11 yX11_alike wsX11_alike) := goodIn_app (goodIn_of _ (by decide +kernel)) ggX11_cost_X11_alike
set_option maxRecDepth 20000 in
theorem ggX11_cost_X11_pairing : GoodIn wsX11_cost wsX11_pairing := goodIn_r _ [24, 25, 4, 5, 6, 7, 8, 9, 10, 26, 27, 28, 29, 30, 31, 32, 33, 34, 35, 36, 37, 38, 39, 40, 41, 42, 43, 44, 45, 46, 47, 48, 49] (by decide +kernel) (by decide +kernel)
set_option maxRecDepth 20000 in
theorem gX11_cost_X11_pairing : GoodIn wsX11_cost (wsV RX11 133 RX11 yX11_pairing wsX11_pairing) := goodIn_app (goodIn_of _ (by decide +kernel)) ggX11_cost_X11_pairing
theorem dX11_cost_0 : decode cX11_cost 0 = .ok (.iload_n 1, 1) := by decide +kernel
theorem dX11_cost_1 : decode cX11_cost 1 = .ok (.iload_n 2, 1) := by decide +kernel
theorem dX11_cost_2 : decode cX11_cost 2 = .ok (.if_icmp .ne 11, 3) := by decide +kernel
theorem dX11_cost_5 : decode cX11_cost 5 = .ok (.iload_n 3, 1) := by decide +kernel
theorem dX11_cost_6 : decode cX11_cost 6 = .ok (.iload 4, 2) := by decide +kernel
theorem dX11_cost_8 : decode cX11_cost 8 = .ok (.if_icmp .ne 5, 3) := by decide +kernel
theorem dX11_cost_11 : decode cX11_cost 11 = .ok (.iconst 0, 1) := by decide +kernel
theorem dX11_cost_12 : decode cX11_cost 12 = .ok (.ireturn, 1) := by decide +kernel
theorem dX11_cost_13 : decode cX11_cost 13 = .ok (.ldc 122, 2) := by decide +kernel
theorem dX11_cost_15 : decode cX11_cost 15 = .ok (.istore 7, 2) := by decide +kernel
theorem dX11_cost_17 : decode cX11_cost 17 = .ok (.iload_n 1, 1) := by decide +kernel
theorem dX11_cost_18 : decode cX11_cost 18 = .ok (.iload_n 2, 1) := by decide +kernel
theorem dX11_cost_19 : decode cX11_cost 19 = .ok (.if_icmp .ge 39, 3) := by decide +kernel
theorem dX11_cost_22 : decode cX11_cost 22 = .ok (.iload_n 1, 1) := by decide +kernel
theorem dX11_cost_23 : decode cX11_cost 23 = .ok (.iload 5, 2) := by decide +kernel
theorem dX11_cost_25 : decode cX11_cost 25 = .ok (.if_icmp .eq 33, 3) := by decide +kernel
theorem dX11_cost_28 : decode cX11_cost 28 = .ok (.iload 7, 2) := by decide +kernel
theorem dX11_cost_30 : decode cX11_cost 30 = .ok (.aload_n 0, 1) := by decide +kernel
theorem dX11_cost_31 : decode cX11_cost 31 = .ok (.iconst 0, 1) := by decide +kernel
theorem dX11_cost_32 : decode cX11_cost 32 = .ok (.iload_n 1, 1) := by decide +kernel
theorem dX11_cost_33 : decode cX11_cost 33 = .ok (.iconst 1, 1) := by decide +kernel
theorem dX11_cost_34 : decode cX11_cost 34 = .ok (.invokevirtual 83, 3) := by decide +kernel
theorem dX11_cost_37 : decode cX11_cost 37 = .ok (.aload_n 0, 1) := by decide +kernel
theorem dX11_cost_38 : decode cX11_cost 38 = .ok (.getfield 35, 3) := by decide +kernel
theorem dX11_cost_41 : decode cX11_cost 41 = .ok (.iload_n 1, 1) := by decide +kernel
theorem dX11_cost_42 : decode cX11_cost 42 = .ok (.iconst 1, 1) := by decide +kernel
theorem dX11_cost_43 : decode cX11_cost 43 = .ok (.iadd, 1) := by decide +kernel
theorem dX11_cost_44 : decode cX11_cost 44 = .ok (.iload_n 2, 1) := by decide +kernel
theorem dX11_cost_45 : decode cX11_cost 45 = .ok (.iload_n 3, 1) := by decide +kernel
theorem dX11_cost_46 : decode cX11_cost 46 = .ok (.iload 4, 2) := by decide +kernel
theorem dX11_cost_48 : decode cX11_cost 48 = .ok (.invokestatic 123, 3) := by decide +kernel
theorem dX11_cost_51 : decode cX11_cost 51 = .ok (.iaload, 1) := by decide +kernel
theorem dX11_cost_52 : decode cX11_cost 52 = .ok (.iadd, 1) := by decide +kernel
theorem dX11_cost_53 : decode cX11_cost 53 = .ok (.invokestatic 127, 3) := by decide +kernel
theorem dX11_cost_56 : decode cX11_cost 56 = .ok (.istore 7, 2) := by decide +kernel
theorem dX11_cost_58 : decode cX11_cost 58 = .ok (.iload_n 3, 1) := by decide +kernel
theorem dX11_cost_59 : decode cX11_cost 59 = .ok (.iload 4, 2) := by decide +kernel
theorem dX11_cost_61 : decode cX11_cost 61 = .ok (.if_icmp .ge 39, 3) := by decide +kernel
theorem dX11_cost_64 : decode cX11_cost 64 = .ok (.iload_n 3, 1) := by decide +kernel
theorem dX11_cost_65 : decode cX11_cost 65 = .ok (.iload 6, 2) := by decide +kernel
theorem dX11_cost_67 : decode cX11_cost 67 = .ok (.if_icmp .eq 33, 3) := by decide +kernel
theorem dX11_cost_70 : decode cX11_cost 70 = .ok (.iload 7, 2) := by decide +kernel
theorem dX11_cost_72 : decode cX11_cost 72 = .ok (.aload_n 0, 1) := by decide +kernel
theorem dX11_cost_73 : decode cX11_cost 73 = .ok (.iconst 1, 1) := by decide +kernel
theorem dX11_cost_74 : decode cX11_cost 74 = .ok (.iload_n 3, 1) := by decide +kernel
theorem dX11_cost_75 : decode cX11_cost 75 = .ok (.iconst 0, 1) := by decide +kernel
theorem dX11_cost_76 : decode cX11_cost 76 = .ok (.invokevirtual 83, 3) := by decide +kernel
theorem dX11_cost_79 : decode cX11_cost 79 = .ok (.aload_n 0, 1) := by decide +kernel
theorem dX11_cost_80 : decode cX11_cost 80 = .ok (.getfield 35, 3) := by decide +kernel
theorem dX11_cost_83 : decode cX11_cost 83 = .ok (.iload_n 1, 1) := by decide +kernel
theorem dX11_cost_84 : decode cX11_cost 84 = .ok (.iload_n 2, 1) := by decide +kernel
theorem dX11_cost_85 : decode cX11_cost 85 = .ok (.iload_n 3, 1) := by decide +kernel
theorem dX11_cost_86 : decode cX11_cost 86 = .ok (.iconst 1, 1) := by decide +kernel
theorem dX11_cost_87 : decode cX11_cost 87 = .ok (.iadd, 1) := by decide +kernel
theorem dX11_cost_88 : decode cX11_cost 88 = .ok (.iload 4, 2) := by decide +kernel
theorem dX11_cost_90 : decode cX11_cost 90 = .ok (.invokestatic 123, 3) := by decide +kernel
theorem dX11_cost_93 : decode cX11_cost 93 = .ok (.iaload, 1) := by decide +kernel
theorem dX11_cost_94 : decode cX11_cost 94 = .ok (.iadd, 1) := by decide +kernel
theorem dX11_cost_95 : decode cX11_cost 95 = .ok (.invokestatic 127, 3) := by decide +kernel
theorem dX11_cost_98 : decode cX11_cost 98 = .ok (.istore 7, 2) := by decide +kernel
theorem dX11_cost_100 : decode cX11_cost 100 = .ok (.iload_n 1, 1) := by decide +kernel
theorem dX11_cost_101 : decode cX11_cost 101 = .ok (.iload_n 2, 1) := by decide +kernel
theorem dX11_cost_102 : decode cX11_cost 102 = .ok (.if_icmp .ge 123, 3) := by decide +kernel
theorem dX11_cost_105 : decode cX11_cost 105 = .ok (.iload_n 3, 1) := by decide +kernel
theorem dX11_cost_106 : decode cX11_cost 106 = .ok (.iload 4, 2) := by decide +kernel
theorem dX11_cost_108 : decode cX11_cost 108 = .ok (.if_icmp .ge 117, 3) := by decide +kernel
theorem dX11_cost_111 : decode cX11_cost 111 = .ok (.aload_n 0, 1) := by decide +kernel
theorem dX11_cost_112 : decode cX11_cost 112 = .ok (.iload_n 1, 1) := by decide +kernel
theorem dX11_cost_113 : decode cX11_cost 113 = .ok (.iload_n 3, 1) := by decide +kernel
theorem dX11_cost_114 : decode cX11_cost 114 = .ok (.invokevirtual 130, 3) := by decide +kernel
theorem dX11_cost_117 : decode cX11_cost 117 = .ok (.ifCond .eq 108, 3) := by decide +kernel
theorem dX11_cost_120 : decode cX11_cost 120 = .ok (.iload_n 1, 1) := by decide +kernel
theorem dX11_cost_121 : decode cX11_cost 121 = .ok (.iload 5, 2) := by decide +kernel
theorem dX11_cost_123 : decode cX11_cost 123 = .ok (.if_icmp .ne 7, 3) := by decide +kernel
theorem dX11_cost_126 : decode cX11_cost 126 = .ok (.iconst 1, 1) := by decide +kernel
theorem dX11_cost_127 : decode cX11_cost 127 = .ok (.goto 4, 3) := by decide +kernel
theorem dX11_cost_130 : decode cX11_cost 130 = .ok (.iconst 0, 1) := by decide +kernel
theorem dX11_cost_131 : decode cX11_cost 131 = .ok (.iload_n 3, 1) := by decide +kernel
theorem dX11_cost_132 : decode cX11_cost 132 = .ok (.iload 6, 2) := by decide +kernel
theorem dX11_cost_134 : decode cX11_cost 134 = .ok (.if_icmp .ne 7, 3) := by decide +kernel
theorem dX11_cost_137 : decode cX11_cost 137 = .ok (.iconst 1, 1) := by decide +kernel
theorem dX11_cost_138 : decode cX11_cost 138 = .ok (.goto 4, 3) := by decide +kernel
theorem dX11_cost_141 : decode cX11_cost 141 = .ok (.iconst 0, 1) := by decide +kernel
theorem dX11_cost_142 : decode cX11_cost 142 = .ok (.if_icmp .ne 83, 3) := by decide +kernel
theorem dX11_cost_145 : decode cX11_cost 145 = .ok (.iload_n 1, 1) := by decide +kernel
theorem dX11_cost_146 : decode cX11_cost 146 = .ok (.aload_n 0, 1) := by decide +kernel
theorem dX11_cost_147 : decode cX11_cost 147 = .ok (.getfield 22, 3) := by decide +kernel
theorem dX11_cost_150 : decode cX11_cost 150 = .ok (.iload_n 1, 1) := by decide +kernel
theorem dX11_cost_151 : decode cX11_cost 151 = .ok (.iaload, 1) := by decide +kernel
theorem dX11_cost_152 : decode cX11_cost 152 = .ok (.iadd, 1) := by decide +kernel
theorem dX11_cost_153 : decode cX11_cost 153 = .ok (.iload_n 2, 1) := by decide +kernel
theorem dX11_cost_154 : decode cX11_cost 154 = .ok (.invokestatic 127, 3) := by decide +kernel
theorem dX11_cost_157 : decode cX11_cost 157 = .ok (.istore 8, 2) := by decide +kernel
theorem dX11_cost_159 : decode cX11_cost 159 = .ok (.iload_n 3, 1) := by decide +kernel
theorem dX11_cost_160 : decode cX11_cost 160 = .ok (.aload_n 0, 1) := by decide +kernel
theorem dX11_cost_161 : decode cX11_cost 161 = .ok (.getfield 22, 3) := by decide +kernel
theorem dX11_cost_164 : decode cX11_cost 164 = .ok (.bipush 12, 2) := by decide +kernel
theorem dX11_cost_166 : decode cX11_cost 166 = .ok (.iload_n 3, 1) := by decide +kernel
theorem dX11_cost_167 : decode cX11_cost 167 = .ok (.iadd, 1) := by decide +kernel
theorem dX11_cost_168 : decode cX11_cost 168 = .ok (.iaload, 1) := by decide +kernel
theorem dX11_cost_169 : decode cX11_cost 169 = .ok (.iadd, 1) := by decide +kernel
theorem dX11_cost_170 : decode cX11_cost 170 = .ok (.iload 4, 2) := by decide +kernel
theorem dX11_cost_172 : decode cX11_cost 172 = .ok (.invokestatic 127, 3) := by decide +kernel
theorem dX11_cost_175 : decode cX11_cost 175 = .ok (.istore 9, 2) := by decide +kernel
theorem dX11_cost_177 : decode cX11_cost 177 = .ok (.iload 7, 2) := by decide +kernel
theorem dX11_cost_179 : decode cX11_cost 179 = .ok (.aload_n 0, 1) := by decide +kernel
theorem dX11_cost_180 : decode cX11_cost 180 = .ok (.iload_n 1, 1) := by decide +kernel
theorem dX11_cost_181 : decode cX11_cost 181 = .ok (.iload_n 3, 1) := by decide +kernel
theorem dX11_cost_182 : decode cX11_cost 182 = .ok (.invokevirtual 133, 3) := by decide +kernel
theorem dX11_cost_185 : decode cX11_cost 185 = .ok (.aload_n 0, 1) := by decide +kernel
theorem dX11_cost_186 : decode cX11_cost 186 = .ok (.getfield 35, 3) := by decide +kernel
theorem dX11_cost_189 : decode cX11_cost 189 = .ok (.iload_n 1, 1) := by decide +kernel
theorem dX11_cost_190 : decode cX11_cost 190 = .ok (.iconst 1, 1) := by decide +kernel
theorem dX11_cost_191 : decode cX11_cost 191 = .ok (.iadd, 1) := by decide +kernel
theorem dX11_cost_192 : decode cX11_cost 192 = .ok (.iload 8, 2) := by decide +kernel
theorem dX11_cost_194 : decode cX11_cost 194 = .ok (.iload_n 3, 1) := by decide +kernel
theorem dX11_cost_195 : decode cX11_cost 195 = .ok (.iconst 1, 1) := by decide +kernel
theorem dX11_cost_196 : decode cX11_cost 196 = .ok (.iadd, 1) := by decide +kernel
theorem dX11_cost_197 : decode cX11_cost 197 = .ok (.iload 9, 2) := by decide +kernel
theorem dX11_cost_199 : decode cX11_cost 199 = .ok (.invokestatic 123, 3) := by decide +kernel
theorem dX11_cost_202 : decode cX11_cost 202 = .ok (.iaload, 1) := by decide +kernel
theorem dX11_cost_203 : decode cX11_cost 203 = .ok (.iadd, 1) := by decide +kernel
theorem dX11_cost_204 : decode cX11_cost 204 = .ok (.aload_n 0, 1) := by decide +kernel
theorem dX11_cost_205 : decode cX11_cost 205 = .ok (.getfield 35, 3) := by decide +kernel
theorem dX11_cost_208 : decode cX11_cost 208 = .ok (.iload 8, 2) := by decide +kernel
theorem dX11_cost_210 : decode cX11_cost 210 = .ok (.iload_n 2, 1) := by decide +kernel
theorem dX11_cost_211 : decode cX11_cost 211 = .ok (.iload 9, 2) := by decide +kernel
theorem dX11_cost_213 : decode cX11_cost 213 = .ok (.iload 4, 2) := by decide +kernel
theorem dX11_cost_215 : decode cX11_cost 215 = .ok (.invokestatic 123, 3) := by decide +kernel
theorem dX11_cost_218 : decode cX11_cost 218 = .ok (.iaload, 1) := by decide +kernel
theorem dX11_cost_219 : decode cX11_cost 219 = .ok (.iadd, 1) := by decide +kernel
theorem dX11_cost_220 : decode cX11_cost 220 = .ok (.invokestatic 127, 3) := by decide +kernel
theorem dX11_cost_223 : decode cX11_cost 223 = .ok (.istore 7, 2) := by decide +kernel
theorem dX11_cost_225 : decode cX11_cost 225 = .ok (.iload 7, 2) := by decide +kernel
theorem dX11_cost_227 : decode cX11_cost 227 = .ok (.ireturn, 1) := by decide +kernel
theorem lk_X11_cost_c122 : Cond.constant RX11 122 (100000) ∈ wsX11_cost := by decide +kernel
theorem lk_X11_cost_f35 : Cond.fieldLink RX11 35 "TreeComparerModel" "least" "[I" ∈ wsX11_cost := by decide +kernel
theorem hi_X11_cost_11 : ∀ w ∈ u_ws RX11 TX11 24, w ∈ wsX11_cost := by decide +kernel
theorem lk_X11_cost_f22 : Cond.fieldLink RX11 22 "TreeComparerModel" "size" "[I" ∈ wsX11_cost := by decide +kernel
def wpj_X11_cost_142 (p0 : Int) (p1 : Int) (p2 : Int) (p3 : Int) (p4 : Int) (p5 : Int) (x7 : Int) (s0 : Int) (s1 : Int) (M : Mem) (Q : Int → Mem → Prop) : Prop := inR s1 ∧ inR s0 ∧ ((s1 ≠ s0 → Q x7 M) ∧ (¬ (s1 ≠ s0) → ((0 : Int) ≤ p0 ∧ p0 < 24) ∧ wp_X11_lesser M (p0 + (M 13 4 p0.toNat)) p1 (fun y53 M54 => ((0 : Int) ≤ 12 + p2 ∧ 12 + p2 < 24) ∧ wp_X11_lesser M54 (p2 + (M54 13 4 (12 + p2).toNat)) p3 (fun y56 M57 => wp_X11_pairing M57 p0 p2 (fun y58 M59 => wp_X11_at M59 (p0 + 1) y53 (p2 + 1) y56 (fun y60 M61 => ((0 : Int) ≤ y60 ∧ y60 < 28561) ∧ wp_X11_at M61 y53 p1 y56 p3 (fun y63 M64 => ((0 : Int) ≤ y63 ∧ y63 < 28561) ∧ wp_X11_lesser M64 x7 ((y58 + (M61 13 8 y60.toNat)) + (M64 13 8 y63.toNat)) (fun y66 M67 => Q y66 M67))))))))
def wpj_X11_cost_131 (p0 : Int) (p1 : Int) (p2 : Int) (p3 : Int) (p4 : Int) (p5 : Int) (x7 : Int) (s0 : Int) (M : Mem) (Q : Int → Mem → Prop) : Prop := inR p2 ∧ inR p5 ∧ ((p2 ≠ p5 → wpj_X11_cost_142 p0 p1 p2 p3 p4 p5 x7 0 s0 M Q) ∧ (¬ (p2 ≠ p5) → wpj_X11_cost_142 p0 p1 p2 p3 p4 p5 x7 1 s0 M Q))
def wpj_X11_cost_100 (p0 : Int) (p1 : Int) (p2 : Int) (p3 : Int) (p4 : Int) (p5 : Int) (x7 : Int) (M : Mem) (Q : Int → Mem → Prop) : Prop := inR p0 ∧ inR p1 ∧ ((p1 ≤ p0 → Q x7 M) ∧ (¬ (p1 ≤ p0) → inR p2 ∧ inR p3 ∧ ((p3 ≤ p2 → Q x7 M) ∧ (¬ (p3 ≤ p2) → wp_X11_alike M p0 p2 (fun y39 M40 => inR y39 ∧ ((y39 = 0 → Q x7 M40) ∧ (¬ (y39 = 0) → inR p0 ∧ inR p4 ∧ ((p0 ≠ p4 → wpj_X11_cost_131 p0 p1 p2 p3 p4 p5 x7 0 M40 Q) ∧ (¬ (p0 ≠ p4) → wpj_X11_cost_131 p0 p1 p2 p3 p4 p5 x7 1 M40 Q)))))))))
def wpj_X11_cost_58 (p0 : Int) (p1 : Int) (p2 : Int) (p3 : Int) (p4 : Int) (p5 : Int) (x7 : Int) (M : Mem) (Q : Int → Mem → Prop) : Prop := inR p2 ∧ inR p3 ∧ ((p3 ≤ p2 → wpj_X11_cost_100 p0 p1 p2 p3 p4 p5 x7 M Q) ∧ (¬ (p3 ≤ p2) → inR p2 ∧ inR p5 ∧ ((p2 = p5 → wpj_X11_cost_100 p0 p1 p2 p3 p4 p5 x7 M Q) ∧ (¬ (p2 = p5) → wp_X11_priceOf M 1 p2 0 (fun y26 M27 => wp_X11_at M27 p0 p1 (p2 + 1) p3 (fun y28 M29 => ((0 : Int) ≤ y28 ∧ y28 < 28561) ∧ wp_X11_lesser M29 x7 (y26 + (M29 13 8 y28.toNat)) (fun y31 M32 => wpj_X11_cost_100 p0 p1 p2 p3 p4 p5 y31 M32 Q)))))))
def wpj_X11_cost_13 (p0 : Int) (p1 : Int) (p2 : Int) (p3 : Int) (p4 : Int) (p5 : Int) (M : Mem) (Q : Int → Mem → Prop) : Prop := inR p0 ∧ inR p1 ∧ ((p1 ≤ p0 → wpj_X11_cost_58 p0 p1 p2 p3 p4 p5 100000 M Q) ∧ (¬ (p1 ≤ p0) → inR p0 ∧ inR p4 ∧ ((p0 = p4 → wpj_X11_cost_58 p0 p1 p2 p3 p4 p5 100000 M Q) ∧ (¬ (p0 = p4) → wp_X11_priceOf M 0 p0 1 (fun y13 M14 => wp_X11_at M14 (p0 + 1) p1 p2 p3 (fun y15 M16 => ((0 : Int) ≤ y15 ∧ y15 < 28561) ∧ wp_X11_lesser M16 100000 (y13 + (M16 13 8 y15.toNat)) (fun y18 M19 => wpj_X11_cost_58 p0 p1 p2 p3 p4 p5 y18 M19 Q)))))))
def wpe_X11_cost (p0 : Int) (p1 : Int) (p2 : Int) (p3 : Int) (p4 : Int) (p5 : Int) (M : Mem) (Q : Int → Mem → Prop) : Prop := inR p0 ∧ inR p1 ∧ ((p0 ≠ p1 → wpj_X11_cost_13 p0 p1 p2 p3 p4 p5 M Q) ∧ (¬ (p0 ≠ p1) → inR p2 ∧ inR p3 ∧ ((p2 ≠ p3 → wpj_X11_cost_13 p0 p1 p2 p3 p4 p5 M Q) ∧ (¬ (p2 ≠ p3) → Q 0 M))))
def wp_X11_cost (M : Mem) (p0 : Int) (p1 : Int) (p2 : Int) (p3 : Int) (p4 : Int) (p5 : Int) (Q : Int → Mem → Prop) : Prop := wpe_X11_cost p0 p1 p2 p3 p4 p5 M Q
set_option maxHeartbeats 4000000 in
set_option maxRecDepth 100000 in
theorem wkj_X11_cost_142 {p : Program} {l : Launch} {e : Env} {s : State} {m : MethodId} {args : Array Value} {below : List Frame} {meth : Method} {c : Code} {D : va_G} {g : GT} {A : Nat → Prop} {a : Nat → Nat} {b : Nat → Nat → Nat} (X : vC p s m args meth c D g A RX11 wsX11_cost cX11_cost 10) (hr : meth.sig.returnType = (some .int)) {p0 : Int} {p1 : Int} {p2 : Int} {p3 : Int} {p4 : Int} {p5 : Int} {x7 : Int} {s0 : Int} {s1 : Int} {M : Mem} {Q : Int → Mem → Prop} (hw : wpj_X11_cost_142 p0 p1 p2 p3 p4 p5 x7 s0 s1 M Q) : vV p l e ({ frames := 2, cells := 0, slots := 0, locals := 45 } : Room) s m args below meth c D g A a b 10 0 0 (MQ below (cQi D g A a b Q) args s 0 0 A) M [(0, .ref (a 13)), (1, iv p0), (2, iv p1), (3, iv p2), (4, iv p3), (7, iv x7)] 142 [iv s0, iv s1] := by
  unfold wpj_X11_cost_142 at hw
  obtain ⟨h49, h50, hw⟩ := hw
  refine V_icmp_ne (tgt := 225) X h49 h50 dX11_cost_142 (by decide) (fun q51 => ?_) (fun q51 => ?_)
  · have hw := hw.1 q51
    refine V_iload X dX11_cost_225 (q := 5) rfl ?_
    exact V_iret X hr hw dX11_cost_227
  · have hw := hw.2 q51
    refine V_iload_n X dX11_cost_145 rfl (q := 1) rfl ?_
    refine V_aload_n X dX11_cost_146 rfl (q := 0) rfl ?_
    refine V_get (C := RX11) (T := TX11) (N := 24) (ci := 11) X hi_X11_cost_11 gO_13 rfl 4 (by decide) lk_X11_cost_f22 (fun _ h9 => h9) rfl dX11_cost_147 ?_
    refine V_iload_n X dX11_cost_150 rfl (q := 1) rfl ?_
    obtain ⟨h52, hw⟩ := hw
    refine V_iald X (gA_13_4) h52 (by decide) dX11_cost_151 ?_
    refine V_iadd X dX11_cost_152 ?_
    refine V_iload_n X dX11_cost_153 rfl (q := 2) rfl ?_
    refine V_callS_i X _ (As := [iv (p0 + (M 13 4 p0.toNat)), iv p1]) (st := []) (c_X11_lesser l hw) (va_cwS 2 X.2.2.2.1 gX11_cost_X11_lesser rfl rfl rfl (by decide +kernel) ⟨Nat.le_of_ble_eq_true rfl, Nat.le_of_ble_eq_true rfl⟩) rfl (Nat.le_of_ble_eq_true rfl) ⟨Nat.le_of_ble_eq_true rfl, Nat.le_of_ble_eq_true rfl⟩ rfl dX11_cost_154 (fun y53 M54 hw => ?_)
    refine V_istore (lv1 := [(0, .ref (a 13)), (1, iv p0), (2, iv p1), (3, iv p2), (4, iv p3), (7, iv x7), (8, iv y53)]) X [1, 2, 3, 4, 5, 6, 0] dX11_cost_157 (by decide) rfl ?_
    refine V_iload_n X dX11_cost_159 rfl (q := 3) rfl ?_
    refine V_aload_n X dX11_cost_160 rfl (q := 0) rfl ?_
    refine V_get (C := RX11) (T := TX11) (N := 24) (ci := 11) X hi_X11_cost_11 gO_13 rfl 4 (by decide) lk_X11_cost_f22 (fun _ h9 => h9) rfl dX11_cost_161 ?_
    refine V_bipush X dX11_cost_164 rfl ?_
    refine V_iload_n X dX11_cost_166 rfl (q := 3) rfl ?_
    refine V_iadd X dX11_cost_167 ?_
    obtain ⟨h55, hw⟩ := hw
    refine V_iald X (gA_13_4) h55 (by decide) dX11_cost_168 ?_
    refine V_iadd X dX11_cost_169 ?_
    refine V_iload X dX11_cost_170 (q := 4) rfl ?_
    refine V_callS_i X _ (As := [iv (p2 + (M54 13 4 (12 + p2).toNat)), iv p3]) (st := []) (c_X11_lesser l hw) (va_cwS 2 X.2.2.2.1 gX11_cost_X11_lesser rfl rfl rfl (by decide +kernel) ⟨Nat.le_of_ble_eq_true rfl, Nat.le_of_ble_eq_true rfl⟩) rfl (Nat.le_of_ble_eq_true rfl) ⟨Nat.le_of_ble_eq_true rfl, Nat.le_of_ble_eq_true rfl⟩ rfl dX11_cost_172 (fun y56 M57 hw => ?_)
    refine V_istore (lv1 := [(0, .ref (a 13)), (1, iv p0), (2, iv p1), (3, iv p2), (4, iv p3), (7, iv x7), (8, iv y53), (9, iv y56)]) X [1, 2, 3, 4, 5, 6, 7, 0] dX11_cost_175 (by decide) rfl ?_
    refine V_iload X dX11_cost_177 (q := 5) rfl ?_
    refine V_aload_n X dX11_cost_179 rfl (q := 0) rfl ?_
    refine V_iload_n X dX11_cost_180 rfl (q := 1) rfl ?_
    refine V_iload_n X dX11_cost_181 rfl (q := 3) rfl ?_
    refine V_callV_i X _ gO_13 rfl (As := [iv p0, iv p2]) (st := [iv x7]) (c_X11_pairing l hw) (cwV 2 X.2.2.2.1 gX11_cost_X11_pairing rfl rfl rfl (by decide +kernel) ⟨Nat.le_of_ble_eq_true rfl, Nat.le_of_ble_eq_true rfl⟩) rfl (Nat.le_of_ble_eq_true rfl) ⟨Nat.le_of_ble_eq_true rfl, Nat.le_of_ble_eq_true rfl⟩ rfl dX11_cost_182 (fun y58 M59 hw => ?_)
    refine V_aload_n X dX11_cost_185 rfl (q := 0) rfl ?_
    refine V_get (C := RX11) (T := TX11) (N := 24) (ci := 11) X hi_X11_cost_11 gO_13 rfl 8 (by decide) lk_X11_cost_f35 (fun _ h9 => h9) rfl dX11_cost_186 ?_
    refine V_iload_n X dX11_cost_189 rfl (q := 1) rfl ?_
    refine V_iconst X dX11_cost_190 ?_
    refine V_iadd X dX11_cost_191 ?_
    refine V_iload X dX11_cost_192 (q := 6) rfl ?_
    refine V_iload_n X dX11_cost_194 rfl (q := 3) rfl ?_
    refine V_iconst X dX11_cost_195 ?_
    refine V_iadd X dX11_cost_196 ?_
    refine V_iload X dX11_cost_197 (q := 7) rfl ?_
    refine V_callS_i X _ (As := [iv (p0 + 1), iv y53, iv (p2 + 1), iv y56]) (st := [.ref (b 13 8), iv y58, iv x7]) (c_X11_at l hw) (va_cwS 4 X.2.2.2.1 gX11_cost_X11_at rfl rfl rfl (by decide +kernel) ⟨Nat.le_of_ble_eq_true rfl, Nat.le_of_ble_eq_true rfl⟩) rfl (Nat.le_of_ble_eq_true rfl) ⟨Nat.le_of_ble_eq_true rfl, Nat.le_of_ble_eq_true rfl⟩ rfl dX11_cost_199 (fun y60 M61 hw => ?_)
    obtain ⟨h62, hw⟩ := hw
    refine V_iald X (gA_13_8) h62 (by decide) dX11_cost_202 ?_
    refine V_iadd X dX11_cost_203 ?_
    refine V_aload_n X dX11_cost_204 rfl (q := 0) rfl ?_
    refine V_get (C := RX11) (T := TX11) (N := 24) (ci := 11) X hi_X11_cost_11 gO_13 rfl 8 (by decide) lk_X11_cost_f35 (fun _ h9 => h9) rfl dX11_cost_205 ?_
    refine V_iload X dX11_cost_208 (q := 6) rfl ?_
    refine V_iload_n X dX11_cost_210 rfl (q := 2) rfl ?_
    refine V_iload X dX11_cost_211 (q := 7) rfl ?_
    refine V_iload X dX11_cost_213 (q := 4) rfl ?_
    refine V_callS_i X _ (As := [iv y53, iv p1, iv y56, iv p3]) (st := [.ref (b 13 8), iv (y58 + (M61 13 8 y60.toNat)), iv x7]) (c_X11_at l hw) (va_cwS 4 X.2.2.2.1 gX11_cost_X11_at rfl rfl rfl (by decide +kernel) ⟨Nat.le_of_ble_eq_true rfl, Nat.le_of_ble_eq_true rfl⟩) rfl (Nat.le_of_ble_eq_true rfl) ⟨Nat.le_of_ble_eq_true rfl, Nat.le_of_ble_eq_true rfl⟩ rfl dX11_cost_215 (fun y63 M64 hw => ?_)
    obtain ⟨h65, hw⟩ := hw
    refine V_iald X (gA_13_8) h65 (by decide) dX11_cost_218 ?_
    refine V_iadd X dX11_cost_219 ?_
    refine V_callS_i X _ (As := [iv x7, iv ((y58 + (M61 13 8 y60.toNat)) + (M64 13 8 y63.toNat))]) (st := []) (c_X11_lesser l hw) (va_cwS 2 X.2.2.2.1 gX11_cost_X11_lesser rfl rfl rfl (by decide +kernel) ⟨Nat.le_of_ble_eq_true rfl, Nat.le_of_ble_eq_true rfl⟩) rfl (Nat.le_of_ble_eq_true rfl) ⟨Nat.le_of_ble_eq_true rfl, Nat.le_of_ble_eq_true rfl⟩ rfl dX11_cost_220 (fun y66 M67 hw => ?_)
    refine V_istore (lv1 := [(0, .ref (a 13)), (1, iv p0), (2, iv p1), (3, iv p2), (4, iv p3), (7, iv y66), (8, iv y53), (9, iv y56)]) X [1, 2, 3, 4, 5, 0, 6, 7] dX11_cost_223 (by decide) rfl ?_
    refine V_iload X dX11_cost_225 (q := 5) rfl ?_
    exact V_iret X hr hw dX11_cost_227
set_option maxHeartbeats 4000000 in
set_option maxRecDepth 100000 in
theorem wkj_X11_cost_131 {p : Program} {l : Launch} {e : Env} {s : State} {m : MethodId} {args : Array Value} {below : List Frame} {meth : Method} {c : Code} {D : va_G} {g : GT} {A : Nat → Prop} {a : Nat → Nat} {b : Nat → Nat → Nat} (X : vC p s m args meth c D g A RX11 wsX11_cost cX11_cost 10) (hr : meth.sig.returnType = (some .int)) {p0 : Int} {p1 : Int} {p2 : Int} {p3 : Int} {p4 : Int} {p5 : Int} {x7 : Int} {s0 : Int} {M : Mem} {Q : Int → Mem → Prop} (hw : wpj_X11_cost_131 p0 p1 p2 p3 p4 p5 x7 s0 M Q) : vV p l e ({ frames := 2, cells := 0, slots := 0, locals := 45 } : Room) s m args below meth c D g A a b 10 0 0 (MQ below (cQi D g A a b Q) args s 0 0 A) M [(0, .ref (a 13)), (1, iv p0), (2, iv p1), (3, iv p2), (4, iv p3), (6, iv p5), (7, iv x7)] 131 [iv s0] := by
  unfold wpj_X11_cost_131 at hw
  refine V_iload_n X dX11_cost_131 rfl (q := 3) rfl ?_
  refine V_iload X dX11_cost_132 (q := 5) rfl ?_
  obtain ⟨h46, h47, hw⟩ := hw
  refine V_icmp_ne (tgt := 141) X h46 h47 dX11_cost_134 (by decide) (fun q48 => ?_) (fun q48 => ?_)
  · have hw := hw.1 q48
    refine V_iconst X dX11_cost_141 ?_
    refine V_sub (lv1 := [(0, .ref (a 13)), (1, iv p0), (2, iv p1), (3, iv p2), (4, iv p3), (7, iv x7)]) [0, 1, 2, 3, 4, 6] rfl ?_
    exact wkj_X11_cost_142 X hr hw
  · have hw := hw.2 q48
    refine V_iconst X dX11_cost_137 ?_
    refine V_goto (tgt := 142) X dX11_cost_138 (by decide) ?_
    refine V_sub (lv1 := [(0, .ref (a 13)), (1, iv p0), (2, iv p1), (3, iv p2), (4, iv p3), (7, iv x7)]) [0, 1, 2, 3, 4, 6] rfl ?_
    exact wkj_X11_cost_142 X hr hw
set_option maxHeartbeats 4000000 in
set_option maxRecDepth 100000 in
theorem wkj_X11_cost_100 {p : Program} {l : Launch} {e : Env} {s : State} {m : MethodId} {args : Array Value} {below : List Frame} {meth : Method} {c : Code} {D : va_G} {g : GT} {A : Nat → Prop} {a : Nat → Nat} {b : Nat → Nat → Nat} (X : vC p s m args meth c D g A RX11 wsX11_cost cX11_cost 10) (hr : meth.sig.returnType = (some .int)) {p0 : Int} {p1 : Int} {p2 : Int} {p3 : Int} {p4 : Int} {p5 : Int} {x7 : Int} {M : Mem} {Q : Int → Mem → Prop} (hw : wpj_X11_cost_100 p0 p1 p2 p3 p4 p5 x7 M Q) : vV p l e ({ frames := 2, cells := 0, slots := 0, locals := 45 } : Room) s m args below meth c D g A a b 10 0 0 (MQ below (cQi D g A a b Q) args s 0 0 A) M [(0, .ref (a 13)), (1, iv p0), (2, iv p1), (3, iv p2), (4, iv p3), (5, iv p4), (6, iv p5), (7, iv x7)] 100 [] := by
  unfold wpj_X11_cost_100 at hw
  refine V_iload_n X dX11_cost_100 rfl (q := 1) rfl ?_
  refine V_iload_n X dX11_cost_101 rfl (q := 2) rfl ?_
  obtain ⟨h33, h34, hw⟩ := hw
  refine V_icmp_ge (tgt := 225) X h33 h34 dX11_cost_102 (by decide) (fun q35 => ?_) (fun q35 => ?_)
  · have hw := hw.1 q35
    refine V_iload X dX11_cost_225 (q := 7) rfl ?_
    exact V_iret X hr hw dX11_cost_227
  · have hw := hw.2 q35
    refine V_iload_n X dX11_cost_105 rfl (q := 3) rfl ?_
    refine V_iload X dX11_cost_106 (q := 4) rfl ?_
    obtain ⟨h36, h37, hw⟩ := hw
    refine V_icmp_ge (tgt := 225) X h36 h37 dX11_cost_108 (by decide) (fun q38 => ?_) (fun q38 => ?_)
    · have hw := hw.1 q38
      refine V_iload X dX11_cost_225 (q := 7) rfl ?_
      exact V_iret X hr hw dX11_cost_227
    · have hw := hw.2 q38
      refine V_aload_n X dX11_cost_111 rfl (q := 0) rfl ?_
      refine V_iload_n X dX11_cost_112 rfl (q := 1) rfl ?_
      refine V_iload_n X dX11_cost_113 rfl (q := 3) rfl ?_
      refine V_callV_i X _ gO_13 rfl (As := [iv p0, iv p2]) (st := []) (c_X11_alike l hw) (cwV 2 X.2.2.2.1 gX11_cost_X11_alike rfl rfl rfl (by decide +kernel) ⟨Nat.le_of_ble_eq_true rfl, Nat.le_of_ble_eq_true rfl⟩) rfl (Nat.le_of_ble_eq_true rfl) ⟨Nat.le_of_ble_eq_true rfl, Nat.le_of_ble_eq_true rfl⟩ rfl dX11_cost_114 (fun y39 M40 hw => ?_)
      obtain ⟨h41, hw⟩ := hw
      refine V_if_eq (tgt := 225) X h41 dX11_cost_117 (by decide) (fun q42 => ?_) (fun q42 => ?_)
      · have hw := hw.1 q42
        refine V_iload X dX11_cost_225 (q := 7) rfl ?_
        exact V_iret X hr hw dX11_cost_227
      · have hw := hw.2 q42
        refine V_iload_n X dX11_cost_120 rfl (q := 1) rfl ?_
        refine V_iload X dX11_cost_121 (q := 5) rfl ?_
        obtain ⟨h43, h44, hw⟩ := hw
        refine V_icmp_ne (tgt := 130) X h43 h44 dX11_cost_123 (by decide) (fun q45 => ?_) (fun q45 => ?_)
        · have hw := hw.1 q45
          refine V_iconst X dX11_cost_130 ?_
          refine V_sub (lv1 := [(0, .ref (a 13)), (1, iv p0), (2, iv p1), (3, iv p2), (4, iv p3), (6, iv p5), (7, iv x7)]) [0, 1, 2, 3, 4, 6, 7] rfl ?_
          exact wkj_X11_cost_131 X hr hw
        · have hw := hw.2 q45
          refine V_iconst X dX11_cost_126 ?_
          refine V_goto (tgt := 131) X dX11_cost_127 (by decide) ?_
          refine V_sub (lv1 := [(0, .ref (a 13)), (1, iv p0), (2, iv p1), (3, iv p2), (4, iv p3), (6, iv p5), (7, iv x7)]) [0, 1, 2, 3, 4, 6, 7] rfl ?_
          exact wkj_X11_cost_131 X hr hw
set_option maxHeartbeats 4000000 in
set_option maxRecDepth 100000 in
theorem wkj_X11_cost_58 {p : Program} {l : Launch} {e : Env} {s : State} {m : MethodId} {args : Array Value} {below : List Frame} {meth : Method} {c : Code} {D : va_G} {g : GT} {A : Nat → Prop} {a : Nat → Nat} {b : Nat → Nat → Nat} (X : vC p s m args meth c D g A RX11 wsX11_cost cX11_cost 10) (hr : meth.sig.returnType = (some .int)) {p0 : Int} {p1 : Int} {p2 : Int} {p3 : Int} {p4 : Int} {p5 : Int} {x7 : Int} {M : Mem} {Q : Int → Mem → Prop} (hw : wpj_X11_cost_58 p0 p1 p2 p3 p4 p5 x7 M Q) : vV p l e ({ frames := 2, cells := 0, slots := 0, locals := 45 } : Room) s m args below meth c D g A a b 10 0 0 (MQ below (cQi D g A a b Q) args s 0 0 A) M [(0, .ref (a 13)), (1, iv p0), (2, iv p1), (3, iv p2), (4, iv p3), (5, iv p4), (6, iv p5), (7, iv x7)] 58 [] := by
  unfold wpj_X11_cost_58 at hw
  refine V_iload_n X dX11_cost_58 rfl (q := 3) rfl ?_
  refine V_iload X dX11_cost_59 (q := 4) rfl ?_
  obtain ⟨h20, h21, hw⟩ := hw
  refine V_icmp_ge (tgt := 100) X h20 h21 dX11_cost_61 (by decide) (fun q22 => ?_) (fun q22 => ?_)
  · have hw := hw.1 q22
    exact wkj_X11_cost_100 X hr hw
  · have hw := hw.2 q22
    refine V_iload_n X dX11_cost_64 rfl (q := 3) rfl ?_
    refine V_iload X dX11_cost_65 (q := 6) rfl ?_
    obtain ⟨h23, h24, hw⟩ := hw
    refine V_icmp_eq (tgt := 100) X h23 h24 dX11_cost_67 (by decide) (fun q25 => ?_) (fun q25 => ?_)
    · have hw := hw.1 q25
      exact wkj_X11_cost_100 X hr hw
    · have hw := hw.2 q25
      refine V_iload X dX11_cost_70 (q := 7) rfl ?_
      refine V_aload_n X dX11_cost_72 rfl (q := 0) rfl ?_
      refine V_iconst X dX11_cost_73 ?_
      refine V_iload_n X dX11_cost_74 rfl (q := 3) rfl ?_
      refine V_iconst X dX11_cost_75 ?_
      refine V_callV_i X _ gO_13 rfl (As := [iv 1, iv p2, iv 0]) (st := [iv x7]) (c_X11_priceOf l hw) (cwV 3 X.2.2.2.1 gX11_cost_X11_priceOf rfl rfl rfl (by decide +kernel) ⟨Nat.le_of_ble_eq_true rfl, Nat.le_of_ble_eq_true rfl⟩) rfl (Nat.le_of_ble_eq_true rfl) ⟨Nat.le_of_ble_eq_true rfl, Nat.le_of_ble_eq_true rfl⟩ rfl dX11_cost_76 (fun y26 M27 hw => ?_)
      refine V_aload_n X dX11_cost_79 rfl (q := 0) rfl ?_
      refine V_get (C := RX11) (T := TX11) (N := 24) (ci := 11) X hi_X11_cost_11 gO_13 rfl 8 (by decide) lk_X11_cost_f35 (fun _ h9 => h9) rfl dX11_cost_80 ?_
      refine V_iload_n X dX11_cost_83 rfl (q := 1) rfl ?_
      refine V_iload_n X dX11_cost_84 rfl (q := 2) rfl ?_
      refine V_iload_n X dX11_cost_85 rfl (q := 3) rfl ?_
      refine V_iconst X dX11_cost_86 ?_
      refine V_iadd X dX11_cost_87 ?_
      refine V_iload X dX11_cost_88 (q := 4) rfl ?_
      refine V_callS_i X _ (As := [iv p0, iv p1, iv (p2 + 1), iv p3]) (st := [.ref (b 13 8), iv y26, iv x7]) (c_X11_at l hw) (va_cwS 4 X.2.2.2.1 gX11_cost_X11_at rfl rfl rfl (by decide +kernel) ⟨Nat.le_of_ble_eq_true rfl, Nat.le_of_ble_eq_true rfl⟩) rfl (Nat.le_of_ble_eq_true rfl) ⟨Nat.le_of_ble_eq_true rfl, Nat.le_of_ble_eq_true rfl⟩ rfl dX11_cost_90 (fun y28 M29 hw => ?_)
      obtain ⟨h30, hw⟩ := hw
      refine V_iald X (gA_13_8) h30 (by decide) dX11_cost_93 ?_
      refine V_iadd X dX11_cost_94 ?_
      refine V_callS_i X _ (As := [iv x7, iv (y26 + (M29 13 8 y28.toNat))]) (st := []) (c_X11_lesser l hw) (va_cwS 2 X.2.2.2.1 gX11_cost_X11_lesser rfl rfl rfl (by decide +kernel) ⟨Nat.le_of_ble_eq_true rfl, Nat.le_of_ble_eq_true rfl⟩) rfl (Nat.le_of_ble_eq_true rfl) ⟨Nat.le_of_ble_eq_true rfl, Nat.le_of_ble_eq_true rfl⟩ rfl dX11_cost_95 (fun y31 M32 hw => ?_)
      refine V_istore (lv1 := [(0, .ref (a 13)), (1, iv p0), (2, iv p1), (3, iv p2), (4, iv p3), (5, iv p4), (6, iv p5), (7, iv y31)]) X [1, 2, 3, 4, 5, 6, 7, 0] dX11_cost_98 (by decide) rfl ?_
      exact wkj_X11_cost_100 X hr hw
set_option maxHeartbeats 4000000 in
set_option maxRecDepth 100000 in
theorem wkj_X11_cost_13 {p : Program} {l : Launch} {e : Env} {s : State} {m : MethodId} {args : Array Value} {below : List Frame} {meth : Method} {c : Code} {D : va_G} {g : GT} {A : Nat → Prop} {a : Nat → Nat} {b : Nat → Nat → Nat} (X : vC p s m args meth c D g A RX11 wsX11_cost cX11_cost 10) (hr : meth.sig.returnType = (some .int)) {p0 : Int} {p1 : Int} {p2 : Int} {p3 : Int} {p4 : Int} {p5 : Int} {M : Mem} {Q : Int → Mem → Prop} (hw : wpj_X11_cost_13 p0 p1 p2 p3 p4 p5 M Q) : vV p l e ({ frames := 2, cells := 0, slots := 0, locals := 45 } : Room) s m args below meth c D g A a b 10 0 0 (MQ below (cQi D g A a b Q) args s 0 0 A) M [(0, .ref (a 13)), (1, iv p0), (2, iv p1), (3, iv p2), (4, iv p3), (5, iv p4), (6, iv p5)] 13 [] := by
  unfold wpj_X11_cost_13 at hw
  refine V_ldc (x := 100000) X lk_X11_cost_c122 (by decide) dX11_cost_13 ?_
  refine V_istore (lv1 := [(0, .ref (a 13)), (1, iv p0), (2, iv p1), (3, iv p2), (4, iv p3), (5, iv p4), (6, iv p5), (7, iv 100000)]) X [1, 2, 3, 4, 5, 6, 7, 0] dX11_cost_15 (by decide) rfl ?_
  refine V_iload_n X dX11_cost_17 rfl (q := 1) rfl ?_
  refine V_iload_n X dX11_cost_18 rfl (q := 2) rfl ?_
  obtain ⟨h7, h8, hw⟩ := hw
  refine V_icmp_ge (tgt := 58) X h7 h8 dX11_cost_19 (by decide) (fun q9 => ?_) (fun q9 => ?_)
  · have hw := hw.1 q9
    exact wkj_X11_cost_58 X hr hw
  · have hw := hw.2 q9
    refine V_iload_n X dX11_cost_22 rfl (q := 1) rfl ?_
    refine V_iload X dX11_cost_23 (q := 5) rfl ?_
    obtain ⟨h10, h11, hw⟩ := hw
    refine V_icmp_eq (tgt := 58) X h10 h11 dX11_cost_25 (by decide) (fun q12 => ?_) (fun q12 => ?_)
    · have hw := hw.1 q12
      exact wkj_X11_cost_58 X hr hw
    · have hw := hw.2 q12
      refine V_iload X dX11_cost_28 (q := 7) rfl ?_
      refine V_aload_n X dX11_cost_30 rfl (q := 0) rfl ?_
      refine V_iconst X dX11_cost_31 ?_
      refine V_iload_n X dX11_cost_32 rfl (q := 1) rfl ?_
      refine V_iconst X dX11_cost_33 ?_
      refine V_callV_i X _ gO_13 rfl (As := [iv 0, iv p0, iv 1]) (st := [iv 100000]) (c_X11_priceOf l hw) (cwV 3 X.2.2.2.1 gX11_cost_X11_priceOf rfl rfl rfl (by decide +kernel) ⟨Nat.le_of_ble_eq_true rfl, Nat.le_of_ble_eq_true rfl⟩) rfl (Nat.le_of_ble_eq_true rfl) ⟨Nat.le_of_ble_eq_true rfl, Nat.le_of_ble_eq_true rfl⟩ rfl dX11_cost_34 (fun y13 M14 hw => ?_)
      refine V_aload_n X dX11_cost_37 rfl (q := 0) rfl ?_
      refine V_get (C := RX11) (T := TX11) (N := 24) (ci := 11) X hi_X11_cost_11 gO_13 rfl 8 (by decide) lk_X11_cost_f35 (fun _ h9 => h9) rfl dX11_cost_38 ?_
      refine V_iload_n X dX11_cost_41 rfl (q := 1) rfl ?_
      refine V_iconst X dX11_cost_42 ?_
      refine V_iadd X dX11_cost_43 ?_
      refine V_iload_n X dX11_cost_44 rfl (q := 2) rfl ?_
      refine V_iload_n X dX11_cost_45 rfl (q := 3) rfl ?_
      refine V_iload X dX11_cost_46 (q := 4) rfl ?_
      refine V_callS_i X _ (As := [iv (p0 + 1), iv p1, iv p2, iv p3]) (st := [.ref (b 13 8), iv y13, iv 100000]) (c_X11_at l hw) (va_cwS 4 X.2.2.2.1 gX11_cost_X11_at rfl rfl rfl (by decide +kernel) ⟨Nat.le_of_ble_eq_true rfl, Nat.le_of_ble_eq_true rfl⟩) rfl (Nat.le_of_ble_eq_true rfl) ⟨Nat.le_of_ble_eq_true rfl, Nat.le_of_ble_eq_true rfl⟩ rfl dX11_cost_48 (fun y15 M16 hw => ?_)
      obtain ⟨h17, hw⟩ := hw
      refine V_iald X (gA_13_8) h17 (by decide) dX11_cost_51 ?_
      refine V_iadd X dX11_cost_52 ?_
      refine V_callS_i X _ (As := [iv 100000, iv (y13 + (M16 13 8 y15.toNat))]) (st := []) (c_X11_lesser l hw) (va_cwS 2 X.2.2.2.1 gX11_cost_X11_lesser rfl rfl rfl (by decide +kernel) ⟨Nat.le_of_ble_eq_true rfl, Nat.le_of_ble_eq_true rfl⟩) rfl (Nat.le_of_ble_eq_true rfl) ⟨Nat.le_of_ble_eq_true rfl, Nat.le_of_ble_eq_true rfl⟩ rfl dX11_cost_53 (fun y18 M19 hw => ?_)
      refine V_istore (lv1 := [(0, .ref (a 13)), (1, iv p0), (2, iv p1), (3, iv p2), (4, iv p3), (5, iv p4), (6, iv p5), (7, iv y18)]) X [1, 2, 3, 4, 5, 6, 7, 0] dX11_cost_56 (by decide) rfl ?_
      exact wkj_X11_cost_58 X hr hw
set_option maxHeartbeats 4000000 in
set_option maxRecDepth 100000 in
theorem wke_X11_cost {p : Program} {l : Launch} {e : Env} {s : State} {m : MethodId} {args : Array Value} {below : List Frame} {meth : Method} {c : Code} {D : va_G} {g : GT} {A : Nat → Prop} {a : Nat → Nat} {b : Nat → Nat → Nat} (X : vC p s m args meth c D g A RX11 wsX11_cost cX11_cost 10) (hr : meth.sig.returnType = (some .int)) {p0 : Int} {p1 : Int} {p2 : Int} {p3 : Int} {p4 : Int} {p5 : Int} {M : Mem} {Q : Int → Mem → Prop} (hw : wpe_X11_cost p0 p1 p2 p3 p4 p5 M Q) : vV p l e ({ frames := 2, cells := 0, slots := 0, locals := 45 } : Room) s m args below meth c D g A a b 10 0 0 (MQ below (cQi D g A a b Q) args s 0 0 A) M [(0, .ref (a 13)), (1, iv p0), (2, iv p1), (3, iv p2), (4, iv p3), (5, iv p4), (6, iv p5)] 0 [] := by
  unfold wpe_X11_cost at hw
  refine V_iload_n X dX11_cost_0 rfl (q := 1) rfl ?_
  refine V_iload_n X dX11_cost_1 rfl (q := 2) rfl ?_
  obtain ⟨h1, h2, hw⟩ := hw
  refine V_icmp_ne (tgt := 13) X h1 h2 dX11_cost_2 (by decide) (fun q3 => ?_) (fun q3 => ?_)
  · have hw := hw.1 q3
    exact wkj_X11_cost_13 X hr hw
  · have hw := hw.2 q3
    refine V_iload_n X dX11_cost_5 rfl (q := 3) rfl ?_
    refine V_iload X dX11_cost_6 (q := 4) rfl ?_
    obtain ⟨h4, h5, hw⟩ := hw
    refine V_icmp_ne (tgt := 13) X h4 h5 dX11_cost_8 (by decide) (fun q6 => ?_) (fun q6 => ?_)
    · have hw := hw.1 q6
      exact wkj_X11_cost_13 X hr hw
    · have hw := hw.2 q6
      refine V_iconst X dX11_cost_11 ?_
      exact V_iret X hr hw dX11_cost_12
set_option maxHeartbeats 4000000 in
set_option maxRecDepth 100000 in
theorem c_X11_cost (l : Launch) {p0 : Int} {p1 : Int} {p2 : Int} {p3 : Int} {p4 : Int} {p5 : Int} {D : va_G} {g : GT} {A : Nat → Prop} {a : Nat → Nat} {b : Nat → Nat → Nat} {M : Mem} {Q : Int → Mem → Prop} (hw : wp_X11_cost M p0 p1 p2 p3 p4 p5 Q) : Met l yX11_cost wsX11_cost ({ frames := 2, cells := 0, slots := 0, locals := 45 } : Room) (cPc D g A a b M [.ref (a 13), iv p0, iv p1, iv p2, iv p3, iv p4, iv p5]) (cQi D g A a b Q) 0 0 A := by
  refine Met.ofW (cc := cX11_cost) (maxL := 10) (ret := (some .int)) (by decide) rfl ?_
  intro p e s m args below meth c s₁ B hml hv
  obtain ⟨rfl, hP, hD, hG⟩ := hv
  have X : vC p s m _ meth c D g A RX11 wsX11_cost cX11_cost 10 := ⟨B.exec, B.bytes, findClass_of_methodNamed B.named, atoms_spec (ws := wsX11_cost) B.pre, hG, hml, B.notSynchronized⟩
  have hr := B.returns
  have hl := lv_entry ([.ref (a 13), iv p0, iv p1, iv p2, iv p3, iv p4, iv p5]) (n := 10) (Nat.le_of_ble_eq_true rfl)
  rw [lg_entry_eq]
  generalize (lg_sl ([.ref (a 13), iv p0, iv p1, iv p2, iv p3, iv p4, iv p5]) ++ List.replicate (10 - (lg_sl ([.ref (a 13), iv p0, iv p1, iv p2, iv p3, iv p4, iv p5])).length) Slot.unset).toArray = ls at hl ⊢
  have hl : lv_has ls 10 [(0, .ref (a 13)), (1, iv p0), (2, iv p1), (3, iv p2), (4, iv p3), (5, iv p4), (6, iv p5)] := hl
  exact wke_X11_cost X hr  hw s.heap [] ls hP hD va_S.rf hl
