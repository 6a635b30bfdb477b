theorem dJ7_fill_53178_0 : decode cJ7_fill_53178 0 = .ok (.iconst 0, 1) := by decide +kernel
theorem dJ7_fill_53178_1 : decode cJ7_fill_53178 1 = .ok (.istore_n 2, 1) := by decide +kernel
theorem dJ7_fill_53178_2 : decode cJ7_fill_53178 2 = .ok (.aload_n 0, 1) := by decide +kernel
theorem dJ7_fill_53178_3 : decode cJ7_fill_53178 3 = .ok (.arraylength, 1) := by decide +kernel
theorem dJ7_fill_53178_4 : decode cJ7_fill_53178 4 = .ok (.istore_n 3, 1) := by decide +kernel
theorem dJ7_fill_53178_5 : decode cJ7_fill_53178 5 = .ok (.iload_n 2, 1) := by decide +kernel
theorem dJ7_fill_53178_6 : decode cJ7_fill_53178 6 = .ok (.iload_n 3, 1) := by decide +kernel
theorem dJ7_fill_53178_7 : decode cJ7_fill_53178 7 = .ok (.if_icmp .ge 13, 3) := by decide +kernel
theorem dJ7_fill_53178_10 : decode cJ7_fill_53178 10 = .ok (.aload_n 0, 1) := by decide +kernel
theorem dJ7_fill_53178_11 : decode cJ7_fill_53178 11 = .ok (.iload_n 2, 1) := by decide +kernel
theorem dJ7_fill_53178_12 : decode cJ7_fill_53178 12 = .ok (.iload_n 1, 1) := by decide +kernel
theorem dJ7_fill_53178_13 : decode cJ7_fill_53178 13 = .ok (.iastore, 1) := by decide +kernel
theorem dJ7_fill_53178_14 : decode cJ7_fill_53178 14 = .ok (.iinc 2 1, 3) := by decide +kernel
theorem dJ7_fill_53178_17 : decode cJ7_fill_53178 17 = .ok (.goto (-12), 3) := by decide +kernel
theorem dJ7_fill_53178_20 : decode cJ7_fill_53178 20 = .ok (.return_, 1) := by decide +kernel
def wph_J7_fill_53178_5 (po0 pk0 pn0 : Nat) (p1 : Int) (x2 : Int) (x3 : Int) (M : Mem) (J5 : Int → Int → Mem → Prop) (Q : Mem → Prop) : Prop := inR x2 ∧ inR x3 ∧ ((x3 ≤ x2 → Q M) ∧ (¬ (x3 ≤ x2) → (0 ≤ x2 ∧ x2 < pn0) ∧ (∀ M5 : Mem, M5 = mset M po0 pk0 x2.toNat p1 → J5 (x2 + 1) x3 M5)))
def wpe_J7_fill_53178 (po0 pk0 pn0 : Nat) (p1 : Int) (M : Mem) (J5 : Int → Int → Mem → Prop) (Q : Mem → Prop) : Prop := (∀ y1 : Int, y1 = (pn0 : Int) → J5 0 y1 M)
def wp_J7_fill_53178 (M : Mem) (po0 pk0 pn0 : Nat) (p1 : Int) (Q : Mem → Prop) : Prop := ∃ (I5 : Nat → Int → Int → Mem → Prop), wpe_J7_fill_53178 po0 pk0 pn0 p1 M (fun (x2 : Int) (x3 : Int) (M1 : Mem) => ∃ n1 : Nat, I5 n1 x2 x3 M1) Q ∧ (∀ (n : Nat) (x2 : Int) (x3 : Int) (M : Mem), I5 n x2 x3 M → wph_J7_fill_53178_5 po0 pk0 pn0 p1 x2 x3 M (fun (x2 : Int) (x3 : Int) (M1 : Mem) => ∃ n1 : Nat, n1 < n ∧ I5 n1 x2 x3 M1) Q)
set_option maxHeartbeats 4000000 in
set_option maxRecDepth 100000 in
theorem wkh_J7_fill_53178_5 {p : Program} {l : Launch} {e : Env} {s : State} {m : MethodId} {args : Array Value} {below : List Frame} {meth : Method} {c : Code} {D : va_G} {g : GT} {A : Nat → Prop} {a : Nat → Nat} {b : Nat → Nat → Nat} (X : vC p s m args meth c D g A RJ7 wsJ7_fill_53178 cJ7_fill_53178 4) (hr : meth.sig.returnType = none) {po0 pk0 pn0 : Nat} {p1 : Int} {pq0 : Nat} (ha0 : isArr pq0 po0 pk0 pn0) {x2 : Int} {x3 : Int} {M : Mem} {J5 : Int → Int → Mem → Prop} {Q : Mem → Prop} (hJ5 : ∀ (x2 : Int) (x3 : Int) (M : Mem), J5 x2 x3 M → vV p l e ({ frames := 0, cells := 0, slots := 0, locals := 0 } : Room) s m args below meth c D g A a b 4 0 0 (MQ below (cQv D g A a b Q) args s 0 0 A) M [(0, .ref (b po0 pk0)), (1, iv p1), (2, iv x2), (3, iv x3)] 5 []) (hw : wph_J7_fill_53178_5 po0 pk0 pn0 p1 x2 x3 M J5 Q) : vV p l e ({ frames := 0, cells := 0, slots := 0, locals := 0 } : Room) s m args below meth c D g A a b 4 0 0 (MQ below (cQv D g A a b Q) args s 0 0 A) M [(0, .ref (b po0 pk0)), (1, iv p1), (2, iv x2), (3, iv x3)] 5 [] := by
  unfold wph_J7_fill_53178_5 at hw
  refine V_iload_n X dJ7_fill_53178_5 rfl (q := 2) rfl ?_
  refine V_iload_n X dJ7_fill_53178_6 rfl (q := 3) rfl ?_
  obtain ⟨h2, h3, hw⟩ := hw
  refine V_icmp_ge (tgt := 20) X h2 h3 dJ7_fill_53178_7 (by decide) (fun q4 => ?_) (fun q4 => ?_)
  · have hw := hw.1 q4
    exact V_vret X hr hw dJ7_fill_53178_20
  · have hw := hw.2 q4
    refine V_aload_n X dJ7_fill_53178_10 rfl (q := 0) rfl ?_
    refine V_iload_n X dJ7_fill_53178_11 rfl (q := 2) rfl ?_
    refine V_iload_n X dJ7_fill_53178_12 rfl (q := 1) rfl ?_
    obtain ⟨h6, hw⟩ := hw
    refine V_iast X (ha0.1 _ _ _ _) (ha0.2.1 _ _ _ _ _ _) h6 ha0.2.2 dJ7_fill_53178_13 (fun M5 eM5 => ?_)
    have hw := hw M5 eM5
    refine V_iinc X [1, 2, 0, 3] dJ7_fill_53178_14 (q := 2) rfl (by decide) rfl ?_
    refine V_goto (tgt := 5) X dJ7_fill_53178_17 (by decide) ?_
    exact hJ5 _ _ _ hw
set_option maxHeartbeats 4000000 in
set_option maxRecDepth 100000 in
theorem wke_J7_fill_53178 {p : Program} {l : Launch} {e : Env} {s : State} {m : MethodId} {args : Array Value} {below : List Frame} {meth : Method} {c : Code} {D : va_G} {g : GT} {A : Nat → Prop} {a : Nat → Nat} {b : Nat → Nat → Nat} (X : vC p s m args meth c D g A RJ7 wsJ7_fill_53178 cJ7_fill_53178 4) (hr : meth.sig.returnType = none) {po0 pk0 pn0 : Nat} {p1 : Int} {pq0 : Nat} (ha0 : isArr pq0 po0 pk0 pn0) {M : Mem} {J5 : Int → Int → Mem → Prop} {Q : Mem → Prop} (hJ5 : ∀ (x2 : Int) (x3 : Int) (M : Mem), J5 x2 x3 M → vV p l e ({ frames := 0, cells := 0, slots := 0, locals := 0 } : Room) s m args below meth c D g A a b 4 0 0 (MQ below (cQv D g A a b Q) args s 0 0 A) M [(0, .ref (b po0 pk0)), (1, iv p1), (2, iv x2), (3, iv x3)] 5 []) (hw : wpe_J7_fill_53178 po0 pk0 pn0 p1 M J5 Q) : vV p l e ({ frames := 0, cells := 0, slots := 0, locals := 0 } : Room) s m args below meth c D g A a b 4 0 0 (MQ below (cQv D g A a b Q) args s 0 0 A) M [(0, .ref (b po0 pk0)), (1, iv p1)] 0 [] := by
  unfold wpe_J7_fill_53178 at hw
  refine V_iconst X dJ7_fill_53178_0 ?_
  refine V_istore_n X [1, 2, 0] dJ7_fill_53178_1 rfl (by decide) rfl ?_
  refine V_aload_n X dJ7_fill_53178_2 rfl (q := 0) rfl ?_
  refine V_alen X (ha0.1 _ _ _ _) dJ7_fill_53178_3 ?_
  refine V_top (fun y1 ey1 => ?_)
  have hw := hw y1 ey1
  refine V_istore_n X [1, 2, 3, 0] dJ7_fill_53178_4 rfl (by decide) rfl ?_
  exact hJ5 _ _ _ hw
set_option maxHeartbeats 4000000 in
set_option maxRecDepth 100000 in
theorem c_J7_fill_53178 (l : Launch) {po0 pk0 pn0 : Nat} {p1 : Int} {pq0 : Nat} (ha0 : isArr pq0 po0 pk0 pn0) {D : va_G} {g : GT} {A : Nat → Prop} {a : Nat → Nat} {b : Nat → Nat → Nat} {M : Mem} {Q : Mem → Prop} (hw : wp_J7_fill_53178 M po0 pk0 pn0 p1 Q) : Met l yJ7_fill_53178 wsJ7_fill_53178 ({ frames := 0, cells := 0, slots := 0, locals := 0 } : Room) (cPc D g A a b M [.ref (b po0 pk0), iv p1]) (cQv D g A a b Q) 0 0 A := by
  refine Met.ofW (cc := cJ7_fill_53178) (maxL := 4) (ret := none) (by decide) rfl ?_
  intro p e s m args below meth c s₁ B hml hv
  obtain ⟨rfl, hP, hD, hG⟩ := hv
  have X : vC p s m _ meth c D g A RJ7 wsJ7_fill_53178 cJ7_fill_53178 4 := ⟨B.exec, B.bytes, findClass_of_methodNamed B.named, atoms_spec (ws := wsJ7_fill_53178) B.pre, hG, hml, B.notSynchronized⟩
  have hr := B.returns
  have hl := lv_entry ([.ref (b po0 pk0), iv p1]) (n := 4) (Nat.le_of_ble_eq_true rfl)
  rw [lg_entry_eq]
  generalize (lg_sl ([.ref (b po0 pk0), iv p1]) ++ List.replicate (4 - (lg_sl ([.ref (b po0 pk0), iv p1])).length) Slot.unset).toArray = ls at hl ⊢
  have hl : lv_has ls 4 [(0, .ref (b po0 pk0)), (1, iv p1)] := hl
  obtain ⟨I5, hw, hI5⟩ := hw
  have K : ∀ n : Nat, (∀ (x2 : Int) (x3 : Int) (M : Mem), I5 n x2 x3 M → vV p l e ({ frames := 0, cells := 0, slots := 0, locals := 0 } : Room) s m ([.ref (b po0 pk0), iv p1] : List Value).toArray below meth c D g A a b 4 0 0 (MQ below (cQv D g A a b Q) ([.ref (b po0 pk0), iv p1] : List Value).toArray s 0 0 A) M [(0, .ref (b po0 pk0)), (1, iv p1), (2, iv x2), (3, iv x3)] 5 []) := by
    intro n
    induction n using Nat.strongRecOn with
    | ind n ih =>
      exact fun x2 x3 M hh => wkh_J7_fill_53178_5 X hr ha0 (fun _ _ _ ⟨n1, hn, hh⟩ => (ih n1 hn) _ _ _ hh) (hI5 n x2 x3 M hh)
  exact wke_J7_fill_53178 X hr ha0 (fun _ _ _ ⟨n1, hh⟩ => (K n1) _ _ _ hh) hw s.heap [] ls hP hD va_S.rf hl

theorem dX11_thrown_0 : decode cX11_thrown 0 = .ok (.aload_n 0, 1) := by decide +kernel
theorem dX11_thrown_1 : decode cX11_thrown 1 = .ok (.getfield 72, 3) := by decide +kernel
theorem dX11_thrown_4 : decode cX11_thrown 4 = .ok (.ireturn, 1) := by decide +kernel
theorem lk_X11_thrown_f72 : Cond.fieldLink RX11 72 "TreeComparerModel" "thrown" "I" ∈ wsX11_thrown := by decide +kernel
theorem hi_X11_thrown_11 : ∀ w ∈ u_ws RX11 TX11 24, w ∈ wsX11_thrown := by decide +kernel
def wpe_X11_thrown (M : Mem) (Q : Int → Mem → Prop) : Prop := Q ((M 13 23 0)) M
def wp_X11_thrown (M : Mem) (Q : Int → Mem → Prop) : Prop := wpe_X11_thrown M Q
set_option maxHeartbeats 4000000 in
set_option maxRecDepth 100000 in
theorem wke_X11_thrown {p : Program} {l : Launch} {e : Env} {s : State} {m : MethodId} {args : Array Value} {below : List Frame} {meth : Method} {c : Code} {D : va_G} {g : GT} {A : Nat → Prop} {a : Nat → Nat} {b : Nat → Nat → Nat} (X : vC p s m args meth c D g A RX11 wsX11_thrown cX11_thrown 1) (hr : meth.sig.returnType = (some .int)) {M : Mem} {Q : Int → Mem → Prop} (hw : wpe_X11_thrown M Q) : vV p l e ({ frames := 0, cells := 0, slots := 0, locals := 0 } : Room) s m args below meth c D g A a b 1 0 0 (MQ below (cQi D g A a b Q) args s 0 0 A) M [(0, .ref (a 13))] 0 [] := by
  unfold wpe_X11_thrown at hw
  refine V_aload_n X dX11_thrown_0 rfl (q := 0) rfl ?_
  refine V_get (C := RX11) (T := TX11) (N := 24) (ci := 11) X hi_X11_thrown_11 gO_13 rfl 23 (by decide) lk_X11_thrown_f72 (fun _ h9 => h9) rfl dX11_thrown_1 ?_
  exact V_iret X hr hw dX11_thrown_4
set_option maxHeartbeats 4000000 in
set_option maxRecDepth 100000 in
theorem c_X11_thrown (l : Launch) {D : va_G} {g : GT} {A : Nat → Prop} {a : Nat → Nat} {b : Nat → Nat → Nat} {M : Mem} {Q : Int → Mem → Prop} (hw : wp_X11_thrown M Q) : Met l yX11_thrown wsX11_thrown ({ frames := 0, cells := 0, slots := 0, locals := 0 } : Room) (cPc D g A a b M [.ref (a 13)]) (cQi D g A a b Q) 0 0 A := by
  refine Met.ofW (cc := cX11_thrown) (maxL := 1) (ret := (some .int)) (by decide) rfl ?_
  intro p e s m args below meth c s₁ B hml hv
  obtain ⟨rfl, hP, hD, hG⟩ := hv
  have X : vC p s m _ meth c D g A RX11 wsX11_thrown cX11_thrown 1 := ⟨B.exec, B.bytes, findClass_of_methodNamed B.named, atoms_spec (ws := wsX11_thrown) B.pre, hG, hml, B.notSynchronized⟩
  have hr := B.returns
  have hl := lv_entry ([.ref (a 13)]) (n := 1) (Nat.le_of_ble_eq_true rfl)
  rw [lg_entry_eq]
  generalize (lg_sl ([.ref (a 13)]) ++ List.replicate (1 - (lg_sl ([.ref (a 13)])).length) Slot.unset).toArray = ls at hl ⊢
  have hl : lv_has ls 1 [(0, .ref (a 13))] := hl
  exact wke_X11_thrown X hr  hw s.heap [] ls hP hD va_S.rf hl

theorem dX11_at_0 : decode cX11_at 0 = .ok (.iload_n 0, 1) := by decide +kernel
theorem dX11_at_1 : decode cX11_at 1 = .ok (.bipush 13, 2) := by decide +kernel
theorem dX11_at_3 : decode cX11_at 3 = .ok (.imul, 1) := by decide +kernel
theorem dX11_at_4 : decode cX11_at 4 = .ok (.iload_n 1, 1) := by decide +kernel
theorem dX11_at_5 : decode cX11_at 5 = .ok (.iadd, 1) := by decide +kernel
theorem dX11_at_6 : decode cX11_at 6 = .ok (.bipush 13, 2) := by decide +kernel
theorem dX11_at_8 : decode cX11_at 8 = .ok (.imul, 1) := by decide +kernel
theorem dX11_at_9 : decode cX11_at 9 = .ok (.iload_n 2, 1) := by decide +kernel
theorem dX11_at_10 : decode cX11_at 10 = .ok (.iadd, 1) := by decide +kernel
theorem dX11_at_11 : decode cX11_at 11 = .ok (.bipush 13, 2) := by decide +kernel
theorem dX11_at_13 : decode cX11_at 13 = .ok (.imul, 1) := by decide +kernel
theorem dX11_at_14 : decode cX11_at 14 = .ok (.iload_n 3, 1) := by decide +kernel
theorem dX11_at_15 : decode cX11_at 15 = .ok (.iadd, 1) := by decide +kernel
theorem dX11_at_16 : decode cX11_at 16 = .ok (.ireturn, 1) := by decide +kernel
def wpe_X11_at (p0 : Int) (p1 : Int) (p2 : Int) (p3 : Int) (M : Mem) (Q : Int → Mem → Prop) : Prop := Q ((((((p0 * 13) + p1) * 13) + p2) * 13) + p3) M
def wp_X11_at (M : Mem) (p0 : Int) (p1 : Int) (p2 : Int) (p3 : Int) (Q : Int → Mem → Prop) : Prop := wpe_X11_at p0 p1 p2 p3 M Q
set_option maxHeartbeats 4000000 in
set_option maxRecDepth 100000 in
theorem wke_X11_at {p : Program} {l : Launch} {e : Env} {s : State} {m : MethodId} {args : Array Value} {below : List Frame} {meth : Method} {c : Code} {D : va_G} {g : GT} {A : Nat → Prop} {a : Nat → Nat} {b : Nat → Nat → Nat} (X : vC p s m args meth c D g A RX11 wsX11_at cX11_at 4) (hr : meth.sig.returnType = (some .int)) {p0 : Int} {p1 : Int} {p2 : Int} {p3 : Int} {M : Mem} {Q : Int → Mem → Prop} (hw : wpe_X11_at p0 p1 p2 p3 M Q) : vV p l e ({ frames := 0, cells := 0, slots := 0, locals := 0 } : Room) s m args below meth c D g A a b 4 0 0 (MQ below (cQi D g A a b Q) args s 0 0 A) M [(0, iv p0), (1, iv p1), (2, iv p2), (3, iv p3)] 0 [] := by
  unfold wpe_X11_at at hw
  refine V_iload_n X dX11_at_0 rfl (q := 0) rfl ?_
  refine V_bipush X dX11_at_1 rfl ?_
  refine V_imul X dX11_at_3 ?_
  refine V_iload_n X dX11_at_4 rfl (q := 1) rfl ?_
  refine V_iadd X dX11_at_5 ?_
  refine V_bipush X dX11_at_6 rfl ?_
  refine V_imul X dX11_at_8 ?_
  refine V_iload_n X dX11_at_9 rfl (q := 2) rfl ?_
  refine V_iadd X dX11_at_10 ?_
  refine V_bipush X dX11_at_11 rfl ?_
  refine V_imul X dX11_at_13 ?_
  refine V_iload_n X dX11_at_14 rfl (q := 3) rfl ?_
  refine V_iadd X dX11_at_15 ?_
  exact V_iret X hr hw dX11_at_16
set_option maxHeartbeats 4000000 in
set_option maxRecDepth 100000 in
theorem c_X11_at (l : Launch) {p0 : Int} {p1 : Int} {p2 : Int} {p3 : Int} {D : va_G} {g : GT} {A : Nat → Prop} {a : Nat → Nat} {b : Nat → Nat → Nat} {M : Mem} {Q : Int → Mem → Prop} (hw : wp_X11_at M p0 p1 p2 p3 Q) : Met l yX11_at wsX11_at ({ frames := 0, cells := 0, slots := 0, locals := 0 } : Room) (cPc D g A a b M [iv p0, iv p1, iv p2, iv p3]) (cQi D g A a b Q) 0 0 A := by
  refine Met.ofW (cc := cX11_at) (maxL := 4) (ret := (some .int)) (by decide) rfl ?_
  intro p e s m args below meth c s₁ B hml hv
  obtain ⟨rfl, hP, hD, hG⟩ := hv
  have X : vC p s m _ meth c D g A RX11 wsX11_at cX11_at 4 := ⟨B.exec, B.bytes, findClass_of_methodNamed B.named, atoms_spec (ws := wsX11_at) B.pre, hG, hml, B.notSynchronized⟩
  have hr := B.returns
  have hl := lv_entry ([iv p0, iv p1, iv p2, iv p3]) (n := 4) (Nat.le_of_ble_eq_true rfl)
  rw [lg_entry_eq]
  generalize (lg_sl ([iv p0, iv p1, iv p2, iv p3]) ++ List.replicate (4 - (lg_sl ([iv p0, iv p1, iv p2, iv p3])).length) Slot.unset).toArray = ls at hl ⊢
  have hl : lv_has ls 4 [(0, iv p0), (1, iv p1), (2, iv p2), (3, iv p3)] := hl
  exact wke_X11_at X hr  hw s.heap [] ls hP hD va_S.rf hl

theorem dX11_alike_0 : decode cX11_alike 0 = .ok (.aload_n 0, 1) := by decide +kernel
theorem dX11_alike_1 : decode cX11_alike 1 = .ok (.getfield 16, 3) := by decide +kernel
theorem dX11_alike_4 : decode cX11_alike 4 = .ok (.iload_n 1, 1) := by decide +kernel
theorem dX11_alike_5 : decode cX11_alike 5 = .ok (.iaload, 1) := by decide +kernel
theorem dX11_alike_6 : decode cX11_alike 6 = .ok (.aload_n 0, 1) := by decide +kernel
theorem dX11_alike_7 : decode cX11_alike 7 = .ok (.getfield 16, 3) := by decide +kernel
theorem dX11_alike_10 : decode cX11_alike 10 = .ok (.bipush 12, 2) := by decide +kernel
theorem dX11_alike_12 : decode cX11_alike 12 = .ok (.iload_n 2, 1) := by decide +kernel
theorem dX11_alike_13 : decode cX11_alike 13 = .ok (.iadd, 1) := by decide +kernel
theorem dX11_alike_14 : decode cX11_alike 14 = .ok (.iaload, 1) := by decide +kernel
theorem dX11_alike_15 : decode cX11_alike 15 = .ok (.if_icmp .ne 7, 3) := by decide +kernel
theorem dX11_alike_18 : decode cX11_alike 18 = .ok (.iconst 1, 1) := by decide +kernel
theorem dX11_alike_19 : decode cX11_alike 19 = .ok (.goto 4, 3) := by decide +kernel
theorem dX11_alike_22 : decode cX11_alike 22 = .ok (.iconst 0, 1) := by decide +kernel
theorem dX11_alike_23 : decode cX11_alike 23 = .ok (.ireturn, 1) := by decide +kernel
theorem lk_X11_alike_f16 : Cond.fieldLink RX11 16 "TreeComparerModel" "kind" "[I" ∈ wsX11_alike := by decide +kernel
theorem hi_X11_alike_11 : ∀ w ∈ u_ws RX11 TX11 24, w ∈ wsX11_alike := by decide +kernel
def wpe_X11_alike (p0 : Int) (p1 : Int) (M : Mem) (Q : Int → Mem → Prop) : Prop := (0 ≤ p0 ∧ p0 < 24) ∧ (0 ≤ 12 + p1 ∧ 12 + p1 < 24) ∧ inR (M 13 2 p0.toNat) ∧ inR ((M 13 2 (12 + p1).toNat)) ∧ (((M 13 2 p0.toNat) ≠ (M 13 2 (12 + p1).toNat) → Q 0 M) ∧ (¬ ((M 13 2 p0.toNat) ≠ (M 13 2 (12 + p1).toNat)) → Q 1 M))
def wp_X11_alike (M : Mem) (p0 : Int) (p1 : Int) (Q : Int → Mem → Prop) : Prop := wpe_X11_alike p0 p1 M Q
set_option maxHeartbeats 4000000 in
set_option maxRecDepth 100000 in
theorem wke_X11_alike {p : Program} {l : Launch} {e : Env} {s : State} {m : MethodId} {args : Array Value} {below : List Frame} {meth : Method} {c : Code} {D : va_G} {g : GT} {A : Nat → Prop} {a : Nat → Nat} {b : Nat → Nat → Nat} (X : vC p s m args meth c D g A RX11 wsX11_alike cX11_alike 3) (hr : meth.sig.returnType = (some .boolean)) {p0 : Int} {p1 : Int} {M : Mem} {Q : Int → Mem → Prop} (hw : wpe_X11_alike p0 p1 M Q) : vV p l e ({ frames := 0, cells := 0, slots := 0, locals := 0 } : Room) s m args below meth c D g A a b 3 0 0 (MQ below (cQi D g A a b Q) args s 0 0 A) M [(0, .ref (a 13)), (1, iv p0), (2, iv p1)] 0 [] := by
  unfold wpe_X11_alike at hw
  refine V_aload_n X dX11_alike_0 rfl (q := 0) rfl ?_
  refine V_get (C := RX11) (T := TX11) (N := 24) (ci := 11) X hi_X11_alike_11 gO_13 rfl 2 (by decide) lk_X11_alike_f16 (fun _ h9 => h9) rfl dX11_alike_1 ?_
  refine V_iload_n X dX11_alike_4 rfl (q := 1) rfl ?_
  obtain ⟨h1, hw⟩ := hw
  refine V_iald X (gA_13_2) h1 (by decide) dX11_alike_5 ?_
  refine V_aload_n X dX11_alike_6 rfl (q := 0) rfl ?_
  refine V_get (C := RX11) (T := TX11) (N := 24) (ci := 11) X hi_X11_alike_11 gO_13 rfl 2 (by decide) lk_X11_alike_f16 (fun _ h9 => h9) rfl dX11_alike_7 ?_
  refine V_bipush X dX11_alike_10 rfl ?_
  refine V_iload_n X dX11_alike_12 rfl (q := 2) rfl ?_
  refine V_iadd X dX11_alike_13 ?_
  obtain ⟨h2, hw⟩ := hw
  refine V_iald X (gA_13_2) h2 (by decide) dX11_alike_14 ?_
  obtain ⟨h3, h4, hw⟩ := hw
  refine V_icmp_ne (tgt := 22) X h3 h4 dX11_alike_15 (by decide) (fun q5 => ?_) (fun q5 => ?_)
  · have hw := hw.1 q5
    refine V_iconst X dX11_alike_22 ?_
    exact V_zret X hr (by decide) hw dX11_alike_23
  · have hw := hw.2 q5
    refine V_iconst X dX11_alike_18 ?_
    refine V_goto (tgt := 23) X dX11_alike_19 (by decide) ?_
    exact V_zret X hr (by decide) hw dX11_alike_23
set_option maxHeartbeats 4000000 in
set_option maxRecDepth 100000 in
theorem c_X11_alike (l : Launch) {p0 : Int} {p1 : Int} {D : va_G} {g : GT} {A : Nat → Prop} {a : Nat → Nat} {b : Nat → Nat → Nat} {M : Mem} {Q : Int → Mem → Prop} (hw : wp_X11_alike M p0 p1 Q) : Met l yX11_alike wsX11_alike ({ frames := 0, cells := 0, slots := 0, locals := 0 } : Room) (cPc D g A a b M [.ref (a 13), iv p0, iv p1]) (cQi D g A a b Q) 0 0 A := by
  refine Met.ofW (cc := cX11_alike) (maxL := 3) (ret := (some .boolean)) (by decide) rfl ?_
  intro p e s m args below meth c s₁ B hml hv
  obtain ⟨rfl, hP, hD, hG⟩ := hv
  have X : vC p s m _ meth c D g A RX11 wsX11_alike cX11_alike 3 := ⟨B.exec, B.bytes, findClass_of_methodNamed B.named, atoms_spec (ws := wsX11_alike) B.pre, hG, hml, B.notSynchronized⟩
  have hr := B.returns
  have hl := lv_entry ([.ref (a 13), iv p0, iv p1]) (n := 3) (Nat.le_of_ble_eq_true rfl)
  rw [lg_entry_eq]
  generalize (lg_sl ([.ref (a 13), iv p0, iv p1]) ++ List.replicate (3 - (lg_sl ([.ref (a 13), iv p0, iv p1])).length) Slot.unset).toArray = ls at hl ⊢
  have hl : lv_has ls 3 [(0, .ref (a 13)), (1, iv p0), (2, iv p1)] := hl
  exact wke_X11_alike X hr  hw s.heap [] ls hP hD va_S.rf hl

theorem dX11_lesser_0 : decode cX11_lesser 0 = .ok (.iload_n 0, 1) := by decide +kernel
theorem dX11_lesser_1 : decode cX11_lesser 1 = .ok (.iload_n 1, 1) := by decide +kernel
theorem dX11_lesser_2 : decode cX11_lesser 2 = .ok (.if_icmp .ge 7, 3) := by decide +kernel
theorem dX11_lesser_5 : decode cX11_lesser 5 = .ok (.iload_n 0, 1) := by decide +kernel
theorem dX11_lesser_6 : decode cX11_lesser 6 = .ok (.goto 4, 3) := by decide +kernel
theorem dX11_lesser_9 : decode cX11_lesser 9 = .ok (.iload_n 1, 1) := by decide +kernel
theorem dX11_lesser_10 : decode cX11_lesser 10 = .ok (.ireturn, 1) := by decide +kernel
def wpe_X11_lesser (p0 : Int) (p1 : Int) (M : Mem) (Q : Int → Mem → Prop) : Prop := inR p0 ∧ inR p1 ∧ ((p1 ≤ p0 → Q p1 M) ∧ (¬ (p1 ≤ p0) → Q p0 M))
def wp_X11_lesser (M : Mem) (p0 : Int) (p1 : Int) (Q : Int → Mem → Prop) : Prop := wpe_X11_lesser p0 p1 M Q
set_option maxHeartbeats 4000000 in
set_option maxRecDepth 100000 in
theorem wke_X11_lesser {p : Program} {l : Launch} {e : Env} {s : State} {m : MethodId} {args : Array Value} {below : List Frame} {meth : Method} {c : Code} {D : va_G} {g : GT} {A : Nat → Prop} {a : Nat → Nat} {b : Nat → Nat → Nat} (X : vC p s m args meth c D g A RX11 wsX11_lesser cX11_lesser 2) (hr : meth.sig.returnType = (some .int)) {p0 : Int} {p1 : Int} {M : Mem} {Q : Int → Mem → Prop} (hw : wpe_X11_lesser p0 p1 M Q) : vV p l e ({ frames := 0, cells := 0, slots := 0, locals := 0 } : Room) s m args below meth c D g A a b 2 0 0 (MQ below (cQi D g A a b Q) args s 0 0 A) M [(0, iv p0), (1, iv p1)] 0 [] := by
  unfold wpe_X11_lesser at hw
  refine V_iload_n X dX11_lesser_0 rfl (q := 0) rfl ?_
  refine V_iload_n X dX11_lesser_1 rfl (q := 1) rfl ?_
  obtain ⟨h1, h2, hw⟩ := hw
  refine V_icmp_ge (tgt := 9) X h1 h2 dX11_lesser_2 (by decide) (fun q3 => ?_) (fun q3 => ?_)
  · have hw := hw.1 q3
    refine V_iload_n X dX11_lesser_9 rfl (q := 1) rfl ?_
    exact V_iret X hr hw dX11_lesser_10
  · have hw := hw.2 q3
    refine V_iload_n X dX11_lesser_5 rfl (q := 0) rfl ?_
    refine V_goto (tgt := 10) X dX11_lesser_6 (by decide) ?_
    exact V_iret X hr hw dX11_lesser_10
set_option maxHeartbeats 4000000 in
set_option maxRecDepth 100000 in
theorem c_X11_lesser (l : Launch) {p0 : Int} {p1 : Int} {D : va_G} {g : GT} {A : Nat → Prop} {a : Nat → Nat} {b : Nat → Nat → Nat} {M : Mem} {Q : Int → Mem → Prop} (hw : wp_X11_lesser M p0 p1 Q) : Met l yX11_lesser wsX11_lesser ({ frames := 0, cells := 0, slots := 0, locals := 0 } : Room) (cPc D g A a b M [iv p0, iv p1]) (cQi D g A a b Q) 0 0 A := by
  refine Met.ofW (cc := cX11_lesser) (maxL := 2) (ret := (some .int)) (by decide) rfl ?_
  intro p e s m args below meth c s₁ B hml hv
  obtain ⟨rfl, hP, hD, hG⟩ := hv
  have X : vC p s m _ meth c D g A RX11 wsX11_lesser cX11_lesser 2 := ⟨B.exec, B.bytes, findClass_of_methodNamed B.named, atoms_spec (ws := wsX11_lesser) B.pre, hG, hml, B.notSynchronized⟩
  have hr := B.returns
  have hl := lv_entry ([iv p0, iv p1]) (n := 2) (Nat.le_of_ble_eq_true rfl)
  rw [lg_entry_eq]
  generalize (lg_sl ([iv p0, iv p1]) ++ List.replicate (2 - (lg_sl ([iv p0, iv p1])).length) Slot.unset).toArray = ls at hl ⊢
  have hl : lv_has ls 2 [(0, iv p0), (1, iv p1)] := hl
  exact wke_X11_lesser X hr  hw s.heap [] ls hP hD va_S.rf hl

theorem dX11_priceOf_0 : decode cX11_priceOf 0 = .ok (.aload_n 0, 1) := by decide +kernel
theorem dX11_priceOf_1 : decode cX11_priceOf 1 = .ok (.getfield 28, 3) := by decide +kernel
theorem dX11_priceOf_4 : decode cX11_priceOf 4 = .ok (.iconst 3, 1) := by decide +kernel
theorem dX11_priceOf_5 : decode cX11_priceOf 5 = .ok (.aload_n 0, 1) := by decide +kernel
theorem dX11_priceOf_6 : decode cX11_priceOf 6 = .ok (.getfield 16, 3) := by decide +kernel
theorem dX11_priceOf_9 : decode cX11_priceOf 9 = .ok (.bipush 12, 2) := by decide +kernel
theorem dX11_priceOf_11 : decode cX11_priceOf 11 = .ok (.iload_n 1, 1) := by decide +kernel
theorem dX11_priceOf_12 : decode cX11_priceOf 12 = .ok (.imul, 1) := by decide +kernel
theorem dX11_priceOf_13 : decode cX11_priceOf 13 = .ok (.iload_n 2, 1) := by decide +kernel
theorem dX11_priceOf_14 : decode cX11_priceOf 14 = .ok (.iadd, 1) := by decide +kernel
theorem dX11_priceOf_15 : decode cX11_priceOf 15 = .ok (.iaload, 1) := by decide +kernel
theorem dX11_priceOf_16 : decode cX11_priceOf 16 = .ok (.imul, 1) := by decide +kernel
theorem dX11_priceOf_17 : decode cX11_priceOf 17 = .ok (.iload_n 3, 1) := by decide +kernel
theorem dX11_priceOf_18 : decode cX11_priceOf 18 = .ok (.iadd, 1) := by decide +kernel
theorem dX11_priceOf_19 : decode cX11_priceOf 19 = .ok (.iaload, 1) := by decide +kernel
theorem dX11_priceOf_20 : decode cX11_priceOf 20 = .ok (.ireturn, 1) := by decide +kernel
theorem lk_X11_priceOf_f28 : Cond.fieldLink RX11 28 "TreeComparerModel" "price" "[I" ∈ wsX11_priceOf := by decide +kernel
theorem hi_X11_priceOf_11 : ∀ w ∈ u_ws RX11 TX11 24, w ∈ wsX11_priceOf := by decide +kernel
theorem lk_X11_priceOf_f16 : Cond.fieldLink RX11 16 "TreeComparerModel" "kind" "[I" ∈ wsX11_priceOf := by decide +kernel
def wpe_X11_priceOf (p0 : Int) (p1 : Int) (p2 : Int) (M : Mem) (Q : Int → Mem → Prop) : Prop := (0 ≤ (12 * p0) + p1 ∧ (12 * p0) + p1 < 24) ∧ (0 ≤ (3 * ((M 13 2 ((12 * p0) + p1).toNat))) + p2 ∧ (3 * ((M 13 2 ((12 * p0) + p1).toNat))) + p2 < 12) ∧ Q ((M 13 6 ((3 * ((M 13 2 ((12 * p0) + p1).toNat))) + p2).toNat)) M
def wp_X11_priceOf (M : Mem) (p0 : Int) (p1 : Int) (p2 : Int) (Q : Int → Mem → Prop) : Prop := wpe_X11_priceOf p0 p1 p2 M Q
set_option maxHeartbeats 4000000 in
set_option maxRecDepth 100000 in
theorem wke_X11_priceOf {p : Program} {l : Launch} {e : Env} {s : State} {m : MethodId} {args : Array Value} {below : List Frame} {meth : Method} {c : Code} {D : va_G} {g : GT} {A : Nat → Prop} {a : Nat → Nat} {b : Nat → Nat → Nat} (X : vC p s m args meth c D g A RX11 wsX11_priceOf cX11_priceOf 4) (hr : meth.sig.returnType = (some .int)) {p0 : Int} {p1 : Int} {p2 : Int} {M : Mem} {Q : Int → Mem → Prop} (hw : wpe_X11_priceOf p0 p1 p2 M Q) : vV p l e ({ frames := 0, cells := 0, slots := 0, locals := 0 } : Room) s m args below meth c D g A a b 4 0 0 (MQ below (cQi D g A a b Q) args s 0 0 A) M [(0, .ref (a 13)), (1, iv p0), (2, iv p1), (3, iv p2)] 0 [] := by
  unfold wpe_X11_priceOf at hw
  refine V_aload_n X dX11_priceOf_0 rfl (q := 0) rfl ?_
  refine V_get (C := RX11) (T := TX11) (N := 24) (ci := 11) X hi_X11_priceOf_11 gO_13 rfl 6 (by decide) lk_X11_priceOf_f28 (fun _ h9 => h9) rfl dX11_priceOf_1 ?_
  refine V_iconst X dX11_priceOf_4 ?_
  refine V_aload_n X dX11_priceOf_5 rfl (q := 0) rfl ?_
  refine V_get (C := RX11) (T := TX11) (N := 24) (ci := 11) X hi_X11_priceOf_11 gO_13 rfl 2 (by decide) lk_X11_priceOf_f16 (fun _ h9 => h9) rfl dX11_priceOf_6 ?_
  refine V_bipush X dX11_priceOf_9 rfl ?_
  refine V_iload_n X dX11_priceOf_11 rfl (q := 1) rfl ?_
  refine V_imul X dX11_priceOf_12 ?_
  refine V_iload_n X dX11_priceOf_13 rfl (q := 2) rfl ?_
  refine V_iadd X dX11_priceOf_14 ?_
  obtain ⟨h1, hw⟩ := hw
  refine V_iald X (gA_13_2) h1 (by decide) dX11_priceOf_15 ?_
  refine V_imul X dX11_priceOf_16 ?_
  refine V_iload_n X dX11_priceOf_17 rfl (q := 3) rfl ?_
  refine V_iadd X dX11_priceOf_18 ?_
  obtain ⟨h2, hw⟩ := hw
  refine V_iald X (gA_13_6) h2 (by decide) dX11_priceOf_19 ?_
  exact V_iret X hr hw dX11_priceOf_20
set_option maxHeartbeats 4000000 in
set_option maxRecDepth 100000 in
theorem c_X11_priceOf (l : Launch) {p0 : Int} {p1 : Int} {p2 : Int} {D : va_G} {g : GT} {A : Nat → Prop} {a : Nat → Nat} {b : Nat → Nat → Nat} {M : Mem} {Q : Int → Mem → Prop} (hw : wp_X11_priceOf M p0 p1 p2 Q) : Met l yX11_priceOf wsX11_priceOf ({ frames := 0, cells := 0, slots := 0, locals := 0 } : Room) (cPc D g A a b M [.ref (a 13), iv p0, iv p1, iv p2]) (cQi D g A a b Q) 0 0 A := by
  refine Met.ofW (cc := cX11_priceOf) (maxL := 4) (ret := (some .int)) (by decide) rfl ?_
  intro p e s m args below meth c s₁ B hml hv
  obtain ⟨rfl, hP, hD, hG⟩ := hv
  have X : vC p s m _ meth c D g A RX11 wsX11_priceOf cX11_priceOf 4 := ⟨B.exec, B.bytes, findClass_of_methodNamed B.named, atoms_spec (ws := wsX11_priceOf) B.pre, hG, hml, B.notSynchronized⟩
  have hr := B.returns
  have hl := lv_entry ([.ref (a 13), iv p0, iv p1, iv p2]) (n := 4) (Nat.le_of_ble_eq_true rfl)
  rw [lg_entry_eq]
  generalize (lg_sl ([.ref (a 13), iv p0, iv p1, iv p2]) ++ List.replicate (4 - (lg_sl ([.ref (a 13), iv p0, iv p1, iv p2])).length) Slot.unset).toArray = ls at hl ⊢
  have hl : lv_has ls 4 [(0, .ref (a 13)), (1, iv p0), (2, iv p1), (3, iv p2)] := hl
  exact wke_X11_priceOf X hr  hw s.heap [] ls hP hD va_S.rf hl

set_option maxRecDepth 20000 in
theorem ggX11_pairing_X11_priceOf : GoodIn wsX11_pairing wsX11_priceOf := goodIn_r _ [6, 7, 8, 9, 10, 11, 12, 13, 14, 15, 16, 17, 18, 19, 20, 21, 22, 23, 24, 25, 26, 27, 28, 29, 30, 31, 32] (by decide +kernel) (by decide +kernel)
set_option maxRecDepth 20000 in
theorem gX11_pairing_X11_priceOf : GoodIn wsX11_pairing (wsV RX11 83 RX11 yX11_priceOf wsX11_priceOf) := goodIn_app (goodIn_of _ (by decide +kernel)) ggX11_pairing_X11_priceOf
theorem dX11_pairing_0 : decode cX11_pairing 0 = .ok (.aload_n 0, 1) := by decide +kernel
theorem dX11_pairing_1 : decode cX11_pairing 1 = .ok (.getfield 19, 3) := by decide +kernel
theorem dX11_pairing_4 : decode cX11_pairing 4 = .ok (.iload_n 1, 1) := by decide +kernel
theorem dX11_pairing_5 : decode cX11_pairing 5 = .ok (.iaload, 1) := by decide +kernel
theorem dX11_pairing_6 : decode cX11_pairing 6 = .ok (.aload_n 0, 1) := by decide +kernel
theorem dX11_pairing_7 : decode cX11_pairing 7 = .ok (.getfield 19, 3) := by decide +kernel
theorem dX11_pairing_10 : decode cX11_pairing 10 = .ok (.bipush 12, 2) := by decide +kernel
theorem dX11_pairing_12 : decode cX11_pairing 12 = .ok (.iload_n 2, 1) := by decide +kernel
theorem dX11_pairing_13 : decode cX11_pairing 13 = .ok (.iadd, 1) := by decide +kernel
theorem dX11_pairing_14 : decode cX11_pairing 14 = .ok (.iaload, 1) := by decide +kernel
theorem dX11_pairing_15 : decode cX11_pairing 15 = .ok (.if_icmp .ne 7, 3) := by decide +kernel
theorem dX11_pairing_18 : decode cX11_pairing 18 = .ok (.iconst 0, 1) := by decide +kernel
theorem dX11_pairing_19 : decode cX11_pairing 19 = .ok (.goto 10, 3) := by decide +kernel
theorem dX11_pairing_22 : decode cX11_pairing 22 = .ok (.aload_n 0, 1) := by decide +kernel
theorem dX11_pairing_23 : decode cX11_pairing 23 = .ok (.iconst 0, 1) := by decide +kernel
theorem dX11_pairing_24 : decode cX11_pairing 24 = .ok (.iload_n 1, 1) := by decide +kernel
theorem dX11_pairing_25 : decode cX11_pairing 25 = .ok (.iconst 2, 1) := by decide +kernel
theorem dX11_pairing_26 : decode cX11_pairing 26 = .ok (.invokevirtual 83, 3) := by decide +kernel
theorem dX11_pairing_29 : decode cX11_pairing 29 = .ok (.ireturn, 1) := by decide +kernel
theorem lk_X11_pairing_f19 : Cond.fieldLink RX11 19 "TreeComparerModel" "label" "[I" ∈ wsX11_pairing := by decide +kernel
theorem hi_X11_pairing_11 : ∀ w ∈ u_ws RX11 TX11 24, w ∈ wsX11_pairing := by decide +kernel
def wpe_X11_pairing (p0 : Int) (p1 : Int) (M : Mem) (Q : Int → Mem → Prop) : Prop := (0 ≤ p0 ∧ p0 < 24) ∧ (0 ≤ 12 + p1 ∧ 12 + p1 < 24) ∧ inR (M 13 3 p0.toNat) ∧ inR ((M 13 3 (12 + p1).toNat)) ∧ (((M 13 3 p0.toNat) ≠ (M 13 3 (12 + p1).toNat) → wp_X11_priceOf M 0 p0 2 (fun y6 M7 => Q y6 M7)) ∧ (¬ ((M 13 3 p0.toNat) ≠ (M 13 3 (12 + p1).toNat)) → Q 0 M))
def wp_X11_pairing (M : Mem) (p0 : Int) (p1 : Int) (Q : Int → Mem → Prop) : Prop := wpe_X11_pairing p0 p1 M Q
set_option maxHeartbeats 4000000 in
set_option maxRecDepth 100000 in
theorem wke_X11_pairing {p : Program} {l : Launch} {e : Env} {s : State} {m : MethodId} {args : Array Value} {below : List Frame} {meth : Method} {c : Code} {D : va_G} {g : GT} {A : Nat → Prop} {a : Nat → Nat} {b : Nat → Nat → Nat} (X : vC p s m args meth c D g A RX11 wsX11_pairing cX11_pairing 3) (hr : meth.sig.returnType = (some .int)) {p0 : Int} {p1 : Int} {M : Mem} {Q : Int → Mem → Prop} (hw : wpe_X11_pairing p0 p1 M Q) : vV p l e ({ frames := 1, cells := 0, slots := 0, locals := 23 } : Room) s m args below meth c D g A a b 3 0 0 (MQ below (cQi D g A a b Q) args s 0 0 A) M [(0, .ref (a 13)), (1, iv p0), (2, iv p1)] 0 [] := by
  unfold wpe_X11_pairing at hw
  refine V_aload_n X dX11_pairing_0 rfl (q := 0) rfl ?_
  refine V_get (C := RX11) (T := TX11) (N := 24) (ci := 11) X hi_X11_pairing_11 gO_13 rfl 3 (by decide) lk_X11_pairing_f19 (fun _ h9 => h9) rfl dX11_pairing_1 ?_
  refine V_iload_n X dX11_pairing_4 rfl (q := 1) rfl ?_
  obtain ⟨h1, hw⟩ := hw
  refine V_iald X (gA_13_3) h1 (by decide) dX11_pairing_5 ?_
  refine V_aload_n X dX11_pairing_6 rfl (q := 0) rfl ?_
  refine V_get (C := RX11) (T := TX11) (N := 24) (ci := 11) X hi_X11_pairing_11 gO_13 rfl 3 (by decide) lk_X11_pairing_f19 (fun _ h9 => h9) rfl dX11_pairing_7 ?_
  refine V_bipush X dX11_pairing_10 rfl ?_
  refine V_iload_n X dX11_pairing_12 rfl (q := 2) rfl ?_
  refine V_iadd X dX11_pairing_13 ?_
  obtain ⟨h2, hw⟩ := hw
  refine V_iald X (gA_13_3) h2 (by decide) dX11_pairing_14 ?_
  obtain ⟨h3, h4, hw⟩ := hw
  refine V_icmp_ne (tgt := 22) X h3 h4 dX11_pairing_15 (by decide) (fun q5 => ?_) (fun q5 => ?_)
  · have hw := hw.1 q5
    refine V_aload_n X dX11_pairing_22 rfl (q := 0) rfl ?_
    refine V_iconst X dX11_pairing_23 ?_
    refine V_iload_n X dX11_pairing_24 rfl (q := 1) rfl ?_
    refine V_iconst X dX11_pairing_25 ?_
    refine V_callV_i X _ gO_13 rfl (As := [iv 0, iv p0, iv 2]) (st := []) (c_X11_priceOf l hw) (cwV 3 X.2.2.2.1 gX11_pairing_X11_priceOf rfl rfl rfl (by decide +kernel) ⟨Nat.le_of_ble_eq_true rfl, Nat.le_of_ble_eq_true rfl⟩) rfl (Nat.le_of_ble_eq_true rfl) ⟨Nat.le_of_ble_eq_true rfl, Nat.le_of_ble_eq_true rfl⟩ rfl dX11_pairing_26 (fun y6 M7 hw => ?_)
    exact V_iret X hr hw dX11_pairing_29
  · have hw := hw.2 q5
    refine V_iconst X dX11_pairing_18 ?_
    refine V_goto (tgt := 29) X dX11_pairing_19 (by decide) ?_
    exact V_iret X hr hw dX11_pairing_29
set_option maxHeartbeats 4000000 in
set_option maxRecDepth 100000 in
theorem c_X11_pairing (l : Launch) {p0 : Int} {p1 : Int} {D : va_G} {g : GT} {A : Nat → Prop} {a : Nat → Nat} {b : Nat → Nat → Nat} {M : Mem} {Q : Int → Mem → Prop} (hw : wp_X11_pairing M p0 p1 Q) : Met l yX11_pairing wsX11_pairing ({ frames := 1, cells := 0, slots := 0, locals := 23 } : Room) (cPc D g A a b M [.ref (a 13), iv p0, iv p1]) (cQi D g A a b Q) 0 0 A := by
  refine Met.ofW (cc := cX11_pairing) (maxL := 3) (ret := (some .int)) (by decide) rfl ?_
  intro p e s m args below meth c s₁ B hml hv
  obtain ⟨rfl, hP, hD, hG⟩ := hv
  have X : vC p s m _ meth c D g A RX11 wsX11_pairing cX11_pairing 3 := ⟨B.exec, B.bytes, findClass_of_methodNamed B.named, atoms_spec (ws := wsX11_pairing) B.pre, hG, hml, B.notSynchronized⟩
  have hr := B.returns
  have hl := lv_entry ([.ref (a 13), iv p0, iv p1]) (n := 3) (Nat.le_of_ble_eq_true rfl)
  rw [lg_entry_eq]
  generalize (lg_sl ([.ref (a 13), iv p0, iv p1]) ++ List.replicate (3 - (lg_sl ([.ref (a 13), iv p0, iv p1])).length) Slot.unset).toArray = ls at hl ⊢
  have hl : lv_has ls 3 [(0, .ref (a 13)), (1, iv p0), (2, iv p1)] := hl
  exact wke_X11_pairing X hr  hw s.heap [] ls hP hD va_S.rf hl
