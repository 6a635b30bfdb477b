/-! the constructors (2) -/
def nwX3 (g : GT) (h0 : Nat) (r0 : Nat) (h : Nat → Nat) : va_W := [(h0, .inr (3, [.ref r0, .ref (h 0), .ref (h 6), .ref (h 12)])), ((h 0), .inr (6, [.ref (h 1), .ref (h 2), .ref (h 3), .ref (h 4), .ref (h 5), iv 0])), ((h 1), .inl (g.1, 12, .inl (fun _ => Int32.ofInt 0))), ((h 2), .inl (g.1, 12, .inl (fun _ => Int32.ofInt 0))), ((h 3), .inl (g.2.1, 12, .inl (fun _ => Int32.ofInt 0))), ((h 4), .inl (g.1, 12, .inl (fun _ => Int32.ofInt 0))), ((h 5), .inl (g.1, 13, .inl (fun _ => Int32.ofInt 0))), ((h 6), .inr (6, [.ref (h 7), .ref (h 8), .ref (h 9), .ref (h 10), .ref (h 11), iv 0])), ((h 7), .inl (g.1, 12, .inl (fun _ => Int32.ofInt 0))), ((h 8), .inl (g.1, 12, .inl (fun _ => Int32.ofInt 0))), ((h 9), .inl (g.2.1, 12, .inl (fun _ => Int32.ofInt 0))), ((h 10), .inl (g.1, 12, .inl (fun _ => Int32.ofInt 0))), ((h 11), .inl (g.1, 13, .inl (fun _ => Int32.ofInt 0))), ((h 12), .inl (g.1, 144, .inl (fun _ => Int32.ofInt 0)))]
set_option maxRecDepth 20000 in
theorem ggX3_init_X6_init : GoodIn wsX3_init wsX6_init := goodIn_r _ [13, 14, 2, 3, 9, 15, 16, 17, 18, 19, 20, 21, 22, 23, 24, 25, 26] (by decide +kernel) (by decide +kernel)
set_option maxRecDepth 20000 in
theorem gX3_init_X6_init_n11 : GoodIn wsX3_init (wsX6_init) := ggX3_init_X6_init
theorem dX3_init_0 : decode cX3_init 0 = .ok (.aload_n 0, 1) := by decide +kernel
theorem dX3_init_1 : decode cX3_init 1 = .ok (.invokespecial 3, 3) := by decide +kernel
theorem dX3_init_4 : decode cX3_init 4 = .ok (.aload_n 0, 1) := by decide +kernel
theorem dX3_init_5 : decode cX3_init 5 = .ok (.new 9, 3) := by decide +kernel
theorem dX3_init_8 : decode cX3_init 8 = .ok (.dup, 1) := by decide +kernel
theorem dX3_init_9 : decode cX3_init 9 = .ok (.invokespecial 11, 3) := by decide +kernel
theorem dX3_init_12 : decode cX3_init 12 = .ok (.putfield 12, 3) := by decide +kernel
theorem dX3_init_15 : decode cX3_init 15 = .ok (.aload_n 0, 1) := by decide +kernel
theorem dX3_init_16 : decode cX3_init 16 = .ok (.new 9, 3) := by decide +kernel
theorem dX3_init_19 : decode cX3_init 19 = .ok (.dup, 1) := by decide +kernel
theorem dX3_init_20 : decode cX3_init 20 = .ok (.invokespecial 11, 3) := by decide +kernel
theorem dX3_init_23 : decode cX3_init 23 = .ok (.putfield 18, 3) := by decide +kernel
theorem dX3_init_26 : decode cX3_init 26 = .ok (.aload_n 0, 1) := by decide +kernel
theorem dX3_init_27 : decode cX3_init 27 = .ok (.sipush 144, 3) := by decide +kernel
theorem dX3_init_30 : decode cX3_init 30 = .ok (.newarray .int, 2) := by decide +kernel
theorem dX3_init_32 : decode cX3_init 32 = .ok (.putfield 21, 3) := by decide +kernel
theorem dX3_init_35 : decode cX3_init 35 = .ok (.aload_n 0, 1) := by decide +kernel
theorem dX3_init_36 : decode cX3_init 36 = .ok (.aload_n 1, 1) := by decide +kernel
theorem dX3_init_37 : decode cX3_init 37 = .ok (.putfield 25, 3) := by decide +kernel
theorem dX3_init_40 : decode cX3_init 40 = .ok (.return_, 1) := by decide +kernel
theorem lkI_X3_0 : Cond.methodLink RX3 3 objectInit ∈ wsX3_init := by decide +kernel
theorem lkI_X3_1 : Cond.instanceMethod objectInit ∈ wsX3_init := by decide +kernel
theorem lkI_X3_2 : Cond.code objectInit ⟨#[0xb1]⟩ 1 none ∈ wsX3_init := by decide +kernel
theorem lkI_X3_3 : Cond.classLink RX3 9 RX6 ∈ wsX3_init := by decide +kernel
theorem lkI_X3_4 : Cond.instantiable RX6 6 ∈ wsX3_init := by decide +kernel
theorem lkI_X3_5 : Cond.initialized RX6 ∈ wsX3_init := by decide +kernel
theorem lkI_X3_6 : Cond.instanceMethod yX6_init ∈ wsX3_init := by decide +kernel
theorem lkI_X3_7 : Cond.fieldLink RX3 12 RX3 (TX3 1).2.1 (TX3 1).2.2.1 ∈ wsX3_init := by decide +kernel
theorem lkI_X3_8 : Cond.fieldLink RX3 18 RX3 (TX3 2).2.1 (TX3 2).2.2.1 ∈ wsX3_init := by decide +kernel
theorem lkI_X3_9 : Cond.arrayClass .int ∈ wsX3_init := by decide +kernel
theorem lkI_X3_10 : Cond.fieldLink RX3 21 RX3 (TX3 3).2.1 (TX3 3).2.2.1 ∈ wsX3_init := by decide +kernel
theorem lkI_X3_11 : Cond.fieldLink RX3 25 RX3 (TX3 0).2.1 (TX3 0).2.2.1 ∈ wsX3_init := by decide +kernel
theorem hiI_X3 : ∀ w ∈ u_ws RX3 TX3 4, w ∈ wsX3_init := by decide +kernel
theorem hiI_X3_6 : ∀ w ∈ u_ws RX6 TX6 6, w ∈ wsX3_init := by decide +kernel
set_option maxHeartbeats 4000000 in
set_option maxRecDepth 100000 in
theorem c_I_X3 (l : Launch) {D : va_G} {g : GT} {A : Nat → Prop} {w0 : va_W} {h0 r0 : Nat} : Met l yX3_init wsX3_init ({ frames := 2, cells := 13, slots := 278, locals := 32 } : Room) (uPc D g A (w0 ++ [(h0, .inr (3, [.null, .null, .null, .null]))]) [.ref h0, .ref r0]) (uQv D A (fun w1 => ∃ h : Nat → Nat, w1 = w0 ++ nwX3 g h0 r0 h)) 13 278 A := by
  refine Met.ofW (cc := cX3_init) (maxL := 2) (ret := none) (by decide) rfl ?_
  intro p e s m args below meth c s₁ B hml hv
  obtain ⟨rfl, hP, hD, hG⟩ := hv
  have X : vC p s m _ meth c D g A RX3 wsX3_init cX3_init 2 := ⟨B.exec, B.bytes, findClass_of_methodNamed B.named, atoms_spec (ws := wsX3_init) B.pre, hG, hml, B.notSynchronized⟩
  have hr := B.returns
  have hn : meth.name = "<init>" := (name_of_methodNamed B.named B.method).1
  have hl := lv_entry ([.ref h0, .ref r0]) (n := 2) (Nat.le_of_ble_eq_true rfl)
  rw [lg_entry_eq]
  generalize (lg_sl ([.ref h0, .ref r0]) ++ List.replicate (2 - (lg_sl ([.ref h0, .ref r0])).length) Slot.unset).toArray = ls at hl ⊢
  have hl : lv_has ls 2 [(0, .ref h0), (1, .ref r0)] := hl
  suffices hV : uV p l e ({ frames := 2, cells := 13, slots := 278, locals := 32 } : Room) s m [.ref h0, .ref r0].toArray below meth c D A 2 0 0 (MQ below (uQv D A (fun w1 => ∃ h : Nat → Nat, w1 = w0 ++ nwX3 g h0 r0 h)) [.ref h0, .ref r0].toArray s 13 278 A) w0 [(h0, .inr (3, [.null, .null, .null, .null]))] [(0, .ref h0), (1, .ref r0)] 0 [] from hV s.heap [] ls hP hD va_S.rf hl
  refine U_super (own := RX3) (q := 0) X rfl lkI_X3_0 lkI_X3_1 lkI_X3_2 (Nat.le_of_ble_eq_true rfl) (Nat.le_of_ble_eq_true rfl) dX3_init_0 dX3_init_1 ?_
  refine U_aload_n X dX3_init_4 rfl (q := 0) rfl ?_
  refine U_new (own := RX3) (C := RX6) (T := TX6) (N := 6) (ci := 6) (fs := [.null, .null, .null, .null, .null, iv 0]) X hiI_X3_6 tyX6 tyX6_ok lkI_X3_3 lkI_X3_4 lkI_X3_5 rfl (fun j hj => by rcases (show j = 0 ∨ j = 1 ∨ j = 2 ∨ j = 3 ∨ j = 4 ∨ j = 5 by omega) with rfl | rfl | rfl | rfl | rfl | rfl <;> rfl) ⟨Nat.le_of_ble_eq_true rfl, Nat.le_of_ble_eq_true rfl⟩ dX3_init_5 (fun q0 => ?_)
  refine U_dup X dX3_init_8 rfl ?_
  refine U_callN (As := []) (st := [.ref q0, .ref h0]) X (nwX6 g q0) (c_I_X6 l) ⟨va_cnB 0 X.2.2.2.1 gX3_init_X6_init_n11 rfl rfl rfl (X.2.2.2.2.1.2.1 _ (List.mem_of_getElem? (i := 88) rfl)) (X.2.2.2.1 _ lkI_X3_5) (by decide +kernel) ⟨Nat.le_of_ble_eq_true rfl, Nat.le_of_ble_eq_true rfl⟩, rfl, X.2.2.2.1 _ lkI_X3_6⟩ rfl (Nat.le_of_ble_eq_true rfl) ⟨Nat.le_of_ble_eq_true rfl, Nat.le_of_ble_eq_true rfl⟩ rfl dX3_init_9 (fun h1 => ?_)
  refine U_tl (tl1 := [(h0, .inr (3, [.null, .null, .null, .null])), (q0, .inr (6, [.ref (h1 0), .ref (h1 1), .ref (h1 2), .ref (h1 3), .ref (h1 4), iv 0])), ((h1 0), .inl (g.1, 12, .inl (fun _ => Int32.ofInt 0))), ((h1 1), .inl (g.1, 12, .inl (fun _ => Int32.ofInt 0))), ((h1 2), .inl (g.2.1, 12, .inl (fun _ => Int32.ofInt 0))), ((h1 3), .inl (g.1, 12, .inl (fun _ => Int32.ofInt 0))), ((h1 4), .inl (g.1, 13, .inl (fun _ => Int32.ofInt 0)))]) rfl ?_
  refine U_putF (own := RX3) (j := 0) (C := RX3) (T := TX3) (N := 4) (ci := 3) X hn hiI_X3 tyX3 tyX3_ok nmX3 rfl 1 rfl (Nat.le_of_ble_eq_true rfl) lkI_X3_7 rfl (ty := tyX3 1) (tyX3_ok 1 (Nat.le_of_ble_eq_true rfl)) rfl rfl (Nat.le_of_ble_eq_true rfl) (tl1 := [(h0, .inr (3, [.null, .ref q0, .null, .null])), (q0, .inr (6, [.ref (h1 0), .ref (h1 1), .ref (h1 2), .ref (h1 3), .ref (h1 4), iv 0])), ((h1 0), .inl (g.1, 12, .inl (fun _ => Int32.ofInt 0))), ((h1 1), .inl (g.1, 12, .inl (fun _ => Int32.ofInt 0))), ((h1 2), .inl (g.2.1, 12, .inl (fun _ => Int32.ofInt 0))), ((h1 3), .inl (g.1, 12, .inl (fun _ => Int32.ofInt 0))), ((h1 4), .inl (g.1, 13, .inl (fun _ => Int32.ofInt 0)))]) rfl dX3_init_12 ?_
  refine U_aload_n X dX3_init_15 rfl (q := 0) rfl ?_
  refine U_new (own := RX3) (C := RX6) (T := TX6) (N := 6) (ci := 6) (fs := [.null, .null, .null, .null, .null, iv 0]) X hiI_X3_6 tyX6 tyX6_ok lkI_X3_3 lkI_X3_4 lkI_X3_5 rfl (fun j hj => by rcases (show j = 0 ∨ j = 1 ∨ j = 2 ∨ j = 3 ∨ j = 4 ∨ j = 5 by omega) with rfl | rfl | rfl | rfl | rfl | rfl <;> rfl) ⟨Nat.le_of_ble_eq_true rfl, Nat.le_of_ble_eq_true rfl⟩ dX3_init_16 (fun q1 => ?_)
  refine U_dup X dX3_init_19 rfl ?_
  refine U_callN (As := []) (st := [.ref q1, .ref h0]) X (nwX6 g q1) (c_I_X6 l) ⟨va_cnB 0 X.2.2.2.1 gX3_init_X6_init_n11 rfl rfl rfl (X.2.2.2.2.1.2.1 _ (List.mem_of_getElem? (i := 88) rfl)) (X.2.2.2.1 _ lkI_X3_5) (by decide +kernel) ⟨Nat.le_of_ble_eq_true rfl, Nat.le_of_ble_eq_true rfl⟩, rfl, X.2.2.2.1 _ lkI_X3_6⟩ rfl (Nat.le_of_ble_eq_true rfl) ⟨Nat.le_of_ble_eq_true rfl, Nat.le_of_ble_eq_true rfl⟩ rfl dX3_init_20 (fun h2 => ?_)
  refine U_tl (tl1 := [(h0, .inr (3, [.null, .ref q0, .null, .null])), (q0, .inr (6, [.ref (h1 0), .ref (h1 1), .ref (h1 2), .ref (h1 3), .ref (h1 4), iv 0])), ((h1 0), .inl (g.1, 12, .inl (fun _ => Int32.ofInt 0))), ((h1 1), .inl (g.1, 12, .inl (fun _ => Int32.ofInt 0))), ((h1 2), .inl (g.2.1, 12, .inl (fun _ => Int32.ofInt 0))), ((h1 3), .inl (g.1, 12, .inl (fun _ => Int32.ofInt 0))), ((h1 4), .inl (g.1, 13, .inl (fun _ => Int32.ofInt 0))), (q1, .inr (6, [.ref (h2 0), .ref (h2 1), .ref (h2 2), .ref (h2 3), .ref (h2 4), iv 0])), ((h2 0), .inl (g.1, 12, .inl (fun _ => Int32.ofInt 0))), ((h2 1), .inl (g.1, 12, .inl (fun _ => Int32.ofInt 0))), ((h2 2), .inl (g.2.1, 12, .inl (fun _ => Int32.ofInt 0))), ((h2 3), .inl (g.1, 12, .inl (fun _ => Int32.ofInt 0))), ((h2 4), .inl (g.1, 13, .inl (fun _ => Int32.ofInt 0)))]) rfl ?_
  refine U_putF (own := RX3) (j := 0) (C := RX3) (T := TX3) (N := 4) (ci := 3) X hn hiI_X3 tyX3 tyX3_ok nmX3 rfl 2 rfl (Nat.le_of_ble_eq_true rfl) lkI_X3_8 rfl (ty := tyX3 2) (tyX3_ok 2 (Nat.le_of_ble_eq_true rfl)) rfl rfl (Nat.le_of_ble_eq_true rfl) (tl1 := [(h0, .inr (3, [.null, .ref q0, .ref q1, .null])), (q0, .inr (6, [.ref (h1 0), .ref (h1 1), .ref (h1 2), .ref (h1 3), .ref (h1 4), iv 0])), ((h1 0), .inl (g.1, 12, .inl (fun _ => Int32.ofInt 0))), ((h1 1), .inl (g.1, 12, .inl (fun _ => Int32.ofInt 0))), ((h1 2), .inl (g.2.1, 12, .inl (fun _ => Int32.ofInt 0))), ((h1 3), .inl (g.1, 12, .inl (fun _ => Int32.ofInt 0))), ((h1 4), .inl (g.1, 13, .inl (fun _ => Int32.ofInt 0))), (q1, .inr (6, [.ref (h2 0), .ref (h2 1), .ref (h2 2), .ref (h2 3), .ref (h2 4), iv 0])), ((h2 0), .inl (g.1, 12, .inl (fun _ => Int32.ofInt 0))), ((h2 1), .inl (g.1, 12, .inl (fun _ => Int32.ofInt 0))), ((h2 2), .inl (g.2.1, 12, .inl (fun _ => Int32.ofInt 0))), ((h2 3), .inl (g.1, 12, .inl (fun _ => Int32.ofInt 0))), ((h2 4), .inl (g.1, 13, .inl (fun _ => Int32.ofInt 0)))]) rfl dX3_init_23 ?_
  refine U_aload_n X dX3_init_26 rfl (q := 0) rfl ?_
  refine U_sipush X dX3_init_27 rfl ?_
  refine U_newa (ty := .int) (t0 := 0) (N := 144) (a0 := (144, .inl (fun _ => Int32.ofInt 0))) X lkI_X3_9 rfl (fun _ h => nomatch h) rfl (fun _ => rfl) rfl (Nat.le_of_ble_eq_true rfl) (Nat.le_of_ble_eq_true rfl) ⟨Nat.le_of_ble_eq_true rfl, Nat.le_of_ble_eq_true rfl⟩ dX3_init_30 (fun q2 => ?_)
  refine U_putF (own := RX3) (j := 0) (C := RX3) (T := TX3) (N := 4) (ci := 3) X hn hiI_X3 tyX3 tyX3_ok nmX3 rfl 3 rfl (Nat.le_of_ble_eq_true rfl) lkI_X3_10 rfl (ty := tyX3 3) (tyX3_ok 3 (Nat.le_of_ble_eq_true rfl)) rfl rfl (Nat.le_of_ble_eq_true rfl) (tl1 := [(h0, .inr (3, [.null, .ref q0, .ref q1, .ref q2])), (q0, .inr (6, [.ref (h1 0), .ref (h1 1), .ref (h1 2), .ref (h1 3), .ref (h1 4), iv 0])), ((h1 0), .inl (g.1, 12, .inl (fun _ => Int32.ofInt 0))), ((h1 1), .inl (g.1, 12, .inl (fun _ => Int32.ofInt 0))), ((h1 2), .inl (g.2.1, 12, .inl (fun _ => Int32.ofInt 0))), ((h1 3), .inl (g.1, 12, .inl (fun _ => Int32.ofInt 0))), ((h1 4), .inl (g.1, 13, .inl (fun _ => Int32.ofInt 0))), (q1, .inr (6, [.ref (h2 0), .ref (h2 1), .ref (h2 2), .ref (h2 3), .ref (h2 4), iv 0])), ((h2 0), .inl (g.1, 12, .inl (fun _ => Int32.ofInt 0))), ((h2 1), .inl (g.1, 12, .inl (fun _ => Int32.ofInt 0))), ((h2 2), .inl (g.2.1, 12, .inl (fun _ => Int32.ofInt 0))), ((h2 3), .inl (g.1, 12, .inl (fun _ => Int32.ofInt 0))), ((h2 4), .inl (g.1, 13, .inl (fun _ => Int32.ofInt 0))), (q2, .inl (g.1, 144, .inl (fun _ => Int32.ofInt 0)))]) rfl dX3_init_32 ?_
  refine U_aload_n X dX3_init_35 rfl (q := 0) rfl ?_
  refine U_aload_n X dX3_init_36 rfl (q := 1) rfl ?_
  refine U_putF (own := RX3) (j := 0) (C := RX3) (T := TX3) (N := 4) (ci := 3) X hn hiI_X3 tyX3 tyX3_ok nmX3 rfl 0 rfl (Nat.le_of_ble_eq_true rfl) lkI_X3_11 rfl (ty := tyX3 0) (tyX3_ok 0 (Nat.le_of_ble_eq_true rfl)) rfl rfl (Nat.le_of_ble_eq_true rfl) (tl1 := [(h0, .inr (3, [.ref r0, .ref q0, .ref q1, .ref q2])), (q0, .inr (6, [.ref (h1 0), .ref (h1 1), .ref (h1 2), .ref (h1 3), .ref (h1 4), iv 0])), ((h1 0), .inl (g.1, 12, .inl (fun _ => Int32.ofInt 0))), ((h1 1), .inl (g.1, 12, .inl (fun _ => Int32.ofInt 0))), ((h1 2), .inl (g.2.1, 12, .inl (fun _ => Int32.ofInt 0))), ((h1 3), .inl (g.1, 12, .inl (fun _ => Int32.ofInt 0))), ((h1 4), .inl (g.1, 13, .inl (fun _ => Int32.ofInt 0))), (q1, .inr (6, [.ref (h2 0), .ref (h2 1), .ref (h2 2), .ref (h2 3), .ref (h2 4), iv 0])), ((h2 0), .inl (g.1, 12, .inl (fun _ => Int32.ofInt 0))), ((h2 1), .inl (g.1, 12, .inl (fun _ => Int32.ofInt 0))), ((h2 2), .inl (g.2.1, 12, .inl (fun _ => Int32.ofInt 0))), ((h2 3), .inl (g.1, 12, .inl (fun _ => Int32.ofInt 0))), ((h2 4), .inl (g.1, 13, .inl (fun _ => Int32.ofInt 0))), (q2, .inl (g.1, 144, .inl (fun _ => Int32.ofInt 0)))]) rfl dX3_init_37 ?_
  exact U_vret X hr ⟨fun j => [q0, (h1 0), (h1 1), (h1 2), (h1 3), (h1 4), q1, (h2 0), (h2 1), (h2 2), (h2 3), (h2 4), q2].getD j 0, rfl⟩ dX3_init_40
def nwX2 (g : GT) (h0 : Nat) (r0 : Nat) (h : Nat → Nat) : va_W := [(h0, .inr (2, [.ref r0, .ref (h 0), .ref (h 1)])), ((h 0), .inl (g.1, 144, .inl (fun _ => Int32.ofInt 0))), ((h 1), .inl (g.1, 169, .inl (fun _ => Int32.ofInt 0)))]
theorem dX2_init_0 : decode cX2_init 0 = .ok (.aload_n 0, 1) := by decide +kernel
theorem dX2_init_1 : decode cX2_init 1 = .ok (.invokespecial 3, 3) := by decide +kernel
theorem dX2_init_4 : decode cX2_init 4 = .ok (.aload_n 0, 1) := by decide +kernel
theorem dX2_init_5 : decode cX2_init 5 = .ok (.sipush 144, 3) := by decide +kernel
theorem dX2_init_8 : decode cX2_init 8 = .ok (.newarray .int, 2) := by decide +kernel
theorem dX2_init_10 : decode cX2_init 10 = .ok (.putfield 9, 3) := by decide +kernel
theorem dX2_init_13 : decode cX2_init 13 = .ok (.aload_n 0, 1) := by decide +kernel
theorem dX2_init_14 : decode cX2_init 14 = .ok (.sipush 169, 3) := by decide +kernel
theorem dX2_init_17 : decode cX2_init 17 = .ok (.newarray .int, 2) := by decide +kernel
theorem dX2_init_19 : decode cX2_init 19 = .ok (.putfield 15, 3) := by decide +kernel
theorem dX2_init_22 : decode cX2_init 22 = .ok (.aload_n 0, 1) := by decide +kernel
theorem dX2_init_23 : decode cX2_init 23 = .ok (.aload_n 1, 1) := by decide +kernel
theorem dX2_init_24 : decode cX2_init 24 = .ok (.putfield 18, 3) := by decide +kernel
theorem dX2_init_27 : decode cX2_init 27 = .ok (.return_, 1) := by decide +kernel
theorem lkI_X2_0 : Cond.methodLink RX2 3 objectInit ∈ wsX2_init := by decide +kernel
theorem lkI_X2_1 : Cond.instanceMethod objectInit ∈ wsX2_init := by decide +kernel
theorem lkI_X2_2 : Cond.code objectInit ⟨#[0xb1]⟩ 1 none ∈ wsX2_init := by decide +kernel
theorem lkI_X2_3 : Cond.arrayClass .int ∈ wsX2_init := by decide +kernel
theorem lkI_X2_4 : Cond.fieldLink RX2 9 RX2 (TX2 1).2.1 (TX2 1).2.2.1 ∈ wsX2_init := by decide +kernel
theorem lkI_X2_5 : Cond.fieldLink RX2 15 RX2 (TX2 2).2.1 (TX2 2).2.2.1 ∈ wsX2_init := by decide +kernel
theorem lkI_X2_6 : Cond.fieldLink RX2 18 RX2 (TX2 0).2.1 (TX2 0).2.2.1 ∈ wsX2_init := by decide +kernel
theorem hiI_X2 : ∀ w ∈ u_ws RX2 TX2 3, w ∈ wsX2_init := by decide +kernel
set_option maxHeartbeats 4000000 in
set_option maxRecDepth 100000 in
theorem c_I_X2 (l : Launch) {D : va_G} {g : GT} {A : Nat → Prop} {w0 : va_W} {h0 r0 : Nat} : Met l yX2_init wsX2_init ({ frames := 1, cells := 2, slots := 313, locals := 12 } : Room) (uPc D g A (w0 ++ [(h0, .inr (2, [.null, .null, .null]))]) [.ref h0, .ref r0]) (uQv D A (fun w1 => ∃ h : Nat → Nat, w1 = w0 ++ nwX2 g h0 r0 h)) 2 313 A := by
  refine Met.ofW (cc := cX2_init) (maxL := 2) (ret := none) (by decide) rfl ?_
  intro p e s m args below meth c s₁ B hml hv
  obtain ⟨rfl, hP, hD, hG⟩ := hv
  have X : vC p s m _ meth c D g A RX2 wsX2_init cX2_init 2 := ⟨B.exec, B.bytes, findClass_of_methodNamed B.named, atoms_spec (ws := wsX2_init) B.pre, hG, hml, B.notSynchronized⟩
  have hr := B.returns
  have hn : meth.name = "<init>" := (name_of_methodNamed B.named B.method).1
  have hl := lv_entry ([.ref h0, .ref r0]) (n := 2) (Nat.le_of_ble_eq_true rfl)
  rw [lg_entry_eq]
  generalize (lg_sl ([.ref h0, .ref r0]) ++ List.replicate (2 - (lg_sl ([.ref h0, .ref r0])).length) Slot.unset).toArray = ls at hl ⊢
  have hl : lv_has ls 2 [(0, .ref h0), (1, .ref r0)] := hl
  suffices hV : uV p l e ({ frames := 1, cells := 2, slots := 313, locals := 12 } : Room) s m [.ref h0, .ref r0].toArray below meth c D A 2 0 0 (MQ below (uQv D A (fun w1 => ∃ h : Nat → Nat, w1 = w0 ++ nwX2 g h0 r0 h)) [.ref h0, .ref r0].toArray s 2 313 A) w0 [(h0, .inr (2, [.null, .null, .null]))] [(0, .ref h0), (1, .ref r0)] 0 [] from hV s.heap [] ls hP hD va_S.rf hl
  refine U_super (own := RX2) (q := 0) X rfl lkI_X2_0 lkI_X2_1 lkI_X2_2 (Nat.le_of_ble_eq_true rfl) (Nat.le_of_ble_eq_true rfl) dX2_init_0 dX2_init_1 ?_
  refine U_aload_n X dX2_init_4 rfl (q := 0) rfl ?_
  refine U_sipush X dX2_init_5 rfl ?_
  refine U_newa (ty := .int) (t0 := 0) (N := 144) (a0 := (144, .inl (fun _ => Int32.ofInt 0))) X lkI_X2_3 rfl (fun _ h => nomatch h) rfl (fun _ => rfl) rfl (Nat.le_of_ble_eq_true rfl) (Nat.le_of_ble_eq_true rfl) ⟨Nat.le_of_ble_eq_true rfl, Nat.le_of_ble_eq_true rfl⟩ dX2_init_8 (fun q0 => ?_)
  refine U_putF (own := RX2) (j := 0) (C := RX2) (T := TX2) (N := 3) (ci := 2) X hn hiI_X2 tyX2 tyX2_ok nmX2 rfl 1 rfl (Nat.le_of_ble_eq_true rfl) lkI_X2_4 rfl (ty := tyX2 1) (tyX2_ok 1 (Nat.le_of_ble_eq_true rfl)) rfl rfl (Nat.le_of_ble_eq_true rfl) (tl1 := [(h0, .inr (2, [.null, .ref q0, .null])), (q0, .inl (g.1, 144, .inl (fun _ => Int32.ofInt 0)))]) rfl dX2_init_10 ?_
  refine U_aload_n X dX2_init_13 rfl (q := 0) rfl ?_
  refine U_sipush X dX2_init_14 rfl ?_
  refine U_newa (ty := .int) (t0 := 0) (N := 169) (a0 := (169, .inl (fun _ => Int32.ofInt 0))) X lkI_X2_3 rfl (fun _ h => nomatch h) rfl (fun _ => rfl) rfl (Nat.le_of_ble_eq_true rfl) (Nat.le_of_ble_eq_true rfl) ⟨Nat.le_of_ble_eq_true rfl, Nat.le_of_ble_eq_true rfl⟩ dX2_init_17 (fun q1 => ?_)
  refine U_putF (own := RX2) (j := 0) (C := RX2) (T := TX2) (N := 3) (ci := 2) X hn hiI_X2 tyX2 tyX2_ok nmX2 rfl 2 rfl (Nat.le_of_ble_eq_true rfl) lkI_X2_5 rfl (ty := tyX2 2) (tyX2_ok 2 (Nat.le_of_ble_eq_true rfl)) rfl rfl (Nat.le_of_ble_eq_true rfl) (tl1 := [(h0, .inr (2, [.null, .ref q0, .ref q1])), (q0, .inl (g.1, 144, .inl (fun _ => Int32.ofInt 0))), (q1, .inl (g.1, 169, .inl (fun _ => Int32.ofInt 0)))]) rfl dX2_init_19 ?_
  refine U_aload_n X dX2_init_22 rfl (q := 0) rfl ?_
  refine U_aload_n X dX2_init_23 rfl (q := 1) rfl ?_
  refine U_putF (own := RX2) (j := 0) (C := RX2) (T := TX2) (N := 3) (ci := 2) X hn hiI_X2 tyX2 tyX2_ok nmX2 rfl 0 rfl (Nat.le_of_ble_eq_true rfl) lkI_X2_6 rfl (ty := tyX2 0) (tyX2_ok 0 (Nat.le_of_ble_eq_true rfl)) rfl rfl (Nat.le_of_ble_eq_true rfl) (tl1 := [(h0, .inr (2, [.ref r0, .ref q0, .ref q1])), (q0, .inl (g.1, 144, .inl (fun _ => Int32.ofInt 0))), (q1, .inl (g.1, 169, .inl (fun _ => Int32.ofInt 0)))]) rfl dX2_init_24 ?_
  exact U_vret X hr ⟨fun j => [q0, q1].getD j 0, rfl⟩ dX2_init_27
def nwX0 (g : GT) (h0 : Nat) (r0 : Nat) (h : Nat → Nat) : va_W := [(h0, .inr (0, [.ref r0, .ref (h 0)])), ((h 0), .inl (g.1, 6084, .inl (fun _ => Int32.ofInt 0)))]
theorem dX0_init_0 : decode cX0_init 0 = .ok (.aload_n 0, 1) := by decide +kernel
theorem dX0_init_1 : decode cX0_init 1 = .ok (.invokespecial 3, 3) := by decide +kernel
theorem dX0_init_4 : decode cX0_init 4 = .ok (.aload_n 0, 1) := by decide +kernel
theorem dX0_init_5 : decode cX0_init 5 = .ok (.sipush 6084, 3) := by decide +kernel
theorem dX0_init_8 : decode cX0_init 8 = .ok (.newarray .int, 2) := by decide +kernel
theorem dX0_init_10 : decode cX0_init 10 = .ok (.putfield 11, 3) := by decide +kernel
theorem dX0_init_13 : decode cX0_init 13 = .ok (.aload_n 0, 1) := by decide +kernel
theorem dX0_init_14 : decode cX0_init 14 = .ok (.aload_n 1, 1) := by decide +kernel
theorem dX0_init_15 : decode cX0_init 15 = .ok (.putfield 15, 3) := by decide +kernel
theorem dX0_init_18 : decode cX0_init 18 = .ok (.return_, 1) := by decide +kernel
theorem lkI_X0_0 : Cond.methodLink RX0 3 objectInit ∈ wsX0_init := by decide +kernel
theorem lkI_X0_1 : Cond.instanceMethod objectInit ∈ wsX0_init := by decide +kernel
theorem lkI_X0_2 : Cond.code objectInit ⟨#[0xb1]⟩ 1 none ∈ wsX0_init := by decide +kernel
theorem lkI_X0_3 : Cond.arrayClass .int ∈ wsX0_init := by decide +kernel
theorem lkI_X0_4 : Cond.fieldLink RX0 11 RX0 (TX0 1).2.1 (TX0 1).2.2.1 ∈ wsX0_init := by decide +kernel
theorem lkI_X0_5 : Cond.fieldLink RX0 15 RX0 (TX0 0).2.1 (TX0 0).2.2.1 ∈ wsX0_init := by decide +kernel
theorem hiI_X0 : ∀ w ∈ u_ws RX0 TX0 2, w ∈ wsX0_init := by decide +kernel
set_option maxHeartbeats 4000000 in
set_option maxRecDepth 100000 in
theorem c_I_X0 (l : Launch) {D : va_G} {g : GT} {A : Nat → Prop} {w0 : va_W} {h0 r0 : Nat} : Met l yX0_init wsX0_init ({ frames := 1, cells := 1, slots := 6084, locals := 12 } : Room) (uPc D g A (w0 ++ [(h0, .inr (0, [.null, .null]))]) [.ref h0, .ref r0]) (uQv D A (fun w1 => ∃ h : Nat → Nat, w1 = w0 ++ nwX0 g h0 r0 h)) 1 6084 A := by
  refine Met.ofW (cc := cX0_init) (maxL := 2) (ret := none) (by decide) rfl ?_
  intro p e s m args below meth c s₁ B hml hv
  obtain ⟨rfl, hP, hD, hG⟩ := hv
  have X : vC p s m _ meth c D g A RX0 wsX0_init cX0_init 2 := ⟨B.exec, B.bytes, findClass_of_methodNamed B.named, atoms_spec (ws := wsX0_init) B.pre, hG, hml, B.notSynchronized⟩
  have hr := B.returns
  have hn : meth.name = "<init>" := (name_of_methodNamed B.named B.method).1
  have hl := lv_entry ([.ref h0, .ref r0]) (n := 2) (Nat.le_of_ble_eq_true rfl)
  rw [lg_entry_eq]
  generalize (lg_sl ([.ref h0, .ref r0]) ++ List.replicate (2 - (lg_sl ([.ref h0, .ref r0])).length) Slot.unset).toArray = ls at hl ⊢
  have hl : lv_has ls 2 [(0, .ref h0), (1, .ref r0)] := hl
  suffices hV : uV p l e ({ frames := 1, cells := 1, slots := 6084, locals := 12 } : Room) s m [.ref h0, .ref r0].toArray below meth c D A 2 0 0 (MQ below (uQv D A (fun w1 => ∃ h : Nat → Nat, w1 = w0 ++ nwX0 g h0 r0 h)) [.ref h0, .ref r0].toArray s 1 6084 A) w0 [(h0, .inr (0, [.null, .null]))] [(0, .ref h0), (1, .ref r0)] 0 [] from hV s.heap [] ls hP hD va_S.rf hl
  refine U_super (own := RX0) (q := 0) X rfl lkI_X0_0 lkI_X0_1 lkI_X0_2 (Nat.le_of_ble_eq_true rfl) (Nat.le_of_ble_eq_true rfl) dX0_init_0 dX0_init_1 ?_
  refine U_aload_n X dX0_init_4 rfl (q := 0) rfl ?_
  refine U_sipush X dX0_init_5 rfl ?_
  refine U_newa (ty := .int) (t0 := 0) (N := 6084) (a0 := (6084, .inl (fun _ => Int32.ofInt 0))) X lkI_X0_3 rfl (fun _ h => nomatch h) rfl (fun _ => rfl) rfl (Nat.le_of_ble_eq_true rfl) (Nat.le_of_ble_eq_true rfl) ⟨Nat.le_of_ble_eq_true rfl, Nat.le_of_ble_eq_true rfl⟩ dX0_init_8 (fun q0 => ?_)
  refine U_putF (own := RX0) (j := 0) (C := RX0) (T := TX0) (N := 2) (ci := 0) X hn hiI_X0 tyX0 tyX0_ok nmX0 rfl 1 rfl (Nat.le_of_ble_eq_true rfl) lkI_X0_4 rfl (ty := tyX0 1) (tyX0_ok 1 (Nat.le_of_ble_eq_true rfl)) rfl rfl (Nat.le_of_ble_eq_true rfl) (tl1 := [(h0, .inr (0, [.null, .ref q0])), (q0, .inl (g.1, 6084, .inl (fun _ => Int32.ofInt 0)))]) rfl dX0_init_10 ?_
  refine U_aload_n X dX0_init_13 rfl (q := 0) rfl ?_
  refine U_aload_n X dX0_init_14 rfl (q := 1) rfl ?_
  refine U_putF (own := RX0) (j := 0) (C := RX0) (T := TX0) (N := 2) (ci := 0) X hn hiI_X0 tyX0 tyX0_ok nmX0 rfl 0 rfl (Nat.le_of_ble_eq_true rfl) lkI_X0_5 rfl (ty := tyX0 0) (tyX0_ok 0 (Nat.le_of_ble_eq_true rfl)) rfl rfl (Nat.le_of_ble_eq_true rfl) (tl1 := [(h0, .inr (0, [.ref r0, .ref q0])), (q0, .inl (g.1, 6084, .inl (fun _ => Int32.ofInt 0)))]) rfl dX0_init_15 ?_
  exact U_vret X hr ⟨fun j => [q0].getD j 0, rfl⟩ dX0_init_18
def nwX8 (g : GT) (h0 : Nat) (r0 : Nat) (h : Nat → Nat) : va_W := [(h0, .inr (8, [.ref r0, .ref (h 0), .ref (h 1), .ref (h 2), .ref (h 3)])), ((h 0), .inl (g.1, 144, .inl (fun _ => Int32.ofInt 0))), ((h 1), .inl (g.1, 169, .inl (fun _ => Int32.ofInt 0))), ((h 2), .inl (g.1, 12, .inl (fun _ => Int32.ofInt 0))), ((h 3), .inl (g.1, 12, .inl (fun _ => Int32.ofInt 0)))]
theorem dX8_init_0 : decode cX8_init 0 = .ok (.aload_n 0, 1) := by decide +kernel
theorem dX8_init_1 : decode cX8_init 1 = .ok (.invokespecial 3, 3) := by decide +kernel
theorem dX8_init_4 : decode cX8_init 4 = .ok (.aload_n 0, 1) := by decide +kernel
theorem dX8_init_5 : decode cX8_init 5 = .ok (.sipush 144, 3) := by decide +kernel
theorem dX8_init_8 : decode cX8_init 8 = .ok (.newarray .int, 2) := by decide +kernel
theorem dX8_init_10 : decode cX8_init 10 = .ok (.putfield 9, 3) := by decide +kernel
theorem dX8_init_13 : decode cX8_init 13 = .ok (.aload_n 0, 1) := by decide +kernel
theorem dX8_init_14 : decode cX8_init 14 = .ok (.sipush 169, 3) := by decide +kernel
theorem dX8_init_17 : decode cX8_init 17 = .ok (.newarray .int, 2) := by decide +kernel
theorem dX8_init_19 : decode cX8_init 19 = .ok (.putfield 15, 3) := by decide +kernel
theorem dX8_init_22 : decode cX8_init 22 = .ok (.aload_n 0, 1) := by decide +kernel
theorem dX8_init_23 : decode cX8_init 23 = .ok (.bipush 12, 2) := by decide +kernel
theorem dX8_init_25 : decode cX8_init 25 = .ok (.newarray .int, 2) := by decide +kernel
theorem dX8_init_27 : decode cX8_init 27 = .ok (.putfield 18, 3) := by decide +kernel
theorem dX8_init_30 : decode cX8_init 30 = .ok (.aload_n 0, 1) := by decide +kernel
theorem dX8_init_31 : decode cX8_init 31 = .ok (.bipush 12, 2) := by decide +kernel
theorem dX8_init_33 : decode cX8_init 33 = .ok (.newarray .int, 2) := by decide +kernel
theorem dX8_init_35 : decode cX8_init 35 = .ok (.putfield 21, 3) := by decide +kernel
theorem dX8_init_38 : decode cX8_init 38 = .ok (.aload_n 0, 1) := by decide +kernel
theorem dX8_init_39 : decode cX8_init 39 = .ok (.aload_n 1, 1) := by decide +kernel
theorem dX8_init_40 : decode cX8_init 40 = .ok (.putfield 24, 3) := by decide +kernel
theorem dX8_init_43 : decode cX8_init 43 = .ok (.return_, 1) := by decide +kernel
theorem lkI_X8_0 : Cond.methodLink RX8 3 objectInit ∈ wsX8_init := by decide +kernel
theorem lkI_X8_1 : Cond.instanceMethod objectInit ∈ wsX8_init := by decide +kernel
theorem lkI_X8_2 : Cond.code objectInit ⟨#[0xb1]⟩ 1 none ∈ wsX8_init := by decide +kernel
theorem lkI_X8_3 : Cond.arrayClass .int ∈ wsX8_init := by decide +kernel
theorem lkI_X8_4 : Cond.fieldLink RX8 9 RX8 (TX8 1).2.1 (TX8 1).2.2.1 ∈ wsX8_init := by decide +kernel
theorem lkI_X8_5 : Cond.fieldLink RX8 15 RX8 (TX8 2).2.1 (TX8 2).2.2.1 ∈ wsX8_init := by decide +kernel
theorem lkI_X8_6 : Cond.fieldLink RX8 18 RX8 (TX8 3).2.1 (TX8 3).2.2.1 ∈ wsX8_init := by decide +kernel
theorem lkI_X8_7 : Cond.fieldLink RX8 21 RX8 (TX8 4).2.1 (TX8 4).2.2.1 ∈ wsX8_init := by decide +kernel
theorem lkI_X8_8 : Cond.fieldLink RX8 24 RX8 (TX8 0).2.1 (TX8 0).2.2.1 ∈ wsX8_init := by decide +kernel
theorem hiI_X8 : ∀ w ∈ u_ws RX8 TX8 5, w ∈ wsX8_init := by decide +kernel
set_option maxHeartbeats 4000000 in
set_option maxRecDepth 100000 in
theorem c_I_X8 (l : Launch) {D : va_G} {g : GT} {A : Nat → Prop} {w0 : va_W} {h0 r0 : Nat} : Met l yX8_init wsX8_init ({ frames := 1, cells := 4, slots := 337, locals := 12 } : Room) (uPc D g A (w0 ++ [(h0, .inr (8, [.null, .null, .null, .null, .null]))]) [.ref h0, .ref r0]) (uQv D A (fun w1 => ∃ h : Nat → Nat, w1 = w0 ++ nwX8 g h0 r0 h)) 4 337 A := by
  refine Met.ofW (cc := cX8_init) (maxL := 2) (ret := none) (by decide) rfl ?_
  intro p e s m args below meth c s₁ B hml hv
  obtain ⟨rfl, hP, hD, hG⟩ := hv
  have X : vC p s m _ meth c D g A RX8 wsX8_init cX8_init 2 := ⟨B.exec, B.bytes, findClass_of_methodNamed B.named, atoms_spec (ws := wsX8_init) B.pre, hG, hml, B.notSynchronized⟩
  have hr := B.returns
  have hn : meth.name = "<init>" := (name_of_methodNamed B.named B.method).1
  have hl := lv_entry ([.ref h0, .ref r0]) (n := 2) (Nat.le_of_ble_eq_true rfl)
  rw [lg_entry_eq]
  generalize (lg_sl ([.ref h0, .ref r0]) ++ List.replicate (2 - (lg_sl ([.ref h0, .ref r0])).length) Slot.unset).toArray = ls at hl ⊢
  have hl : lv_has ls 2 [(0, .ref h0), (1, .ref r0)] := hl
  suffices hV : uV p l e ({ frames := 1, cells := 4, slots := 337, locals := 12 } : Room) s m [.ref h0, .ref r0].toArray below meth c D A 2 0 0 (MQ below (uQv D A (fun w1 => ∃ h : Nat → Nat, w1 = w0 ++ nwX8 g h0 r0 h)) [.ref h0, .ref r0].toArray s 4 337 A) w0 [(h0, .inr (8, [.null, .null, .null, .null, .null]))] [(0, .ref h0), (1, .ref r0)] 0 [] from hV s.heap [] ls hP hD va_S.rf hl
  refine U_super (own := RX8) (q := 0) X rfl lkI_X8_0 lkI_X8_1 lkI_X8_2 (Nat.le_of_ble_eq_true rfl) (Nat.le_of_ble_eq_true rfl) dX8_init_0 dX8_init_1 ?_
  refine U_aload_n X dX8_init_4 rfl (q := 0) rfl ?_
  refine U_sipush X dX8_init_5 rfl ?_
  refine U_newa (ty := .int) (t0 := 0) (N := 144) (a0 := (144, .inl (fun _ => Int32.ofInt 0))) X lkI_X8_3 rfl (fun _ h => nomatch h) rfl (fun _ => rfl) rfl (Nat.le_of_ble_eq_true rfl) (Nat.le_of_ble_eq_true rfl) ⟨Nat.le_of_ble_eq_true rfl, Nat.le_of_ble_eq_true rfl⟩ dX8_init_8 (fun q0 => ?_)
  refine U_putF (own := RX8) (j := 0) (C := RX8) (T := TX8) (N := 5) (ci := 8) X hn hiI_X8 tyX8 tyX8_ok nmX8 rfl 1 rfl (Nat.le_of_ble_eq_true rfl) lkI_X8_4 rfl (ty := tyX8 1) (tyX8_ok 1 (Nat.le_of_ble_eq_true rfl)) rfl rfl (Nat.le_of_ble_eq_true rfl) (tl1 := [(h0, .inr (8, [.null, .ref q0, .null, .null, .null])), (q0, .inl (g.1, 144, .inl (fun _ => Int32.ofInt 0)))]) rfl dX8_init_10 ?_
  refine U_aload_n X dX8_init_13 rfl (q := 0) rfl ?_
  refine U_sipush X dX8_init_14 rfl ?_
  refine U_newa (ty := .int) (t0 := 0) (N := 169) (a0 := (169, .inl (fun _ => Int32.ofInt 0))) X lkI_X8_3 rfl (fun _ h => nomatch h) rfl (fun _ => rfl) rfl (Nat.le_of_ble_eq_true rfl) (Nat.le_of_ble_eq_true rfl) ⟨Nat.le_of_ble_eq_true rfl, Nat.le_of_ble_eq_true rfl⟩ dX8_init_17 (fun q1 => ?_)
  refine U_putF (own := RX8) (j := 0) (C := RX8) (T := TX8) (N := 5) (ci := 8) X hn hiI_X8 tyX8 tyX8_ok nmX8 rfl 2 rfl (Nat.le_of_ble_eq_true rfl) lkI_X8_5 rfl (ty := tyX8 2) (tyX8_ok 2 (Nat.le_of_ble_eq_true rfl)) rfl rfl (Nat.le_of_ble_eq_true rfl) (tl1 := [(h0, .inr (8, [.null, .ref q0, .ref q1, .null, .null])), (q0, .inl (g.1, 144, .inl (fun _ => Int32.ofInt 0))), (q1, .inl (g.1, 169, .inl (fun _ => Int32.ofInt 0)))]) rfl dX8_init_19 ?_
  refine U_aload_n X dX8_init_22 rfl (q := 0) rfl ?_
  refine U_bipush X dX8_init_23 rfl ?_
  refine U_newa (ty := .int) (t0 := 0) (N := 12) (a0 := (12, .inl (fun _ => Int32.ofInt 0))) X lkI_X8_3 rfl (fun _ h => nomatch h) rfl (fun _ => rfl) rfl (Nat.le_of_ble_eq_true rfl) (Nat.le_of_ble_eq_true rfl) ⟨Nat.le_of_ble_eq_true rfl, Nat.le_of_ble_eq_true rfl⟩ dX8_init_25 (fun q2 => ?_)
  refine U_putF (own := RX8) (j := 0) (C := RX8) (T := TX8) (N := 5) (ci := 8) X hn hiI_X8 tyX8 tyX8_ok nmX8 rfl 3 rfl (Nat.le_of_ble_eq_true rfl) lkI_X8_6 rfl (ty := tyX8 3) (tyX8_ok 3 (Nat.le_of_ble_eq_true rfl)) rfl rfl (Nat.le_of_ble_eq_true rfl) (tl1 := [(h0, .inr (8, [.null, .ref q0, .ref q1, .ref q2, .null])), (q0, .inl (g.1, 144, .inl (fun _ => Int32.ofInt 0))), (q1, .inl (g.1, 169, .inl (fun _ => Int32.ofInt 0))), (q2, .inl (g.1, 12, .inl (fun _ => Int32.ofInt 0)))]) rfl dX8_init_27 ?_
  refine U_aload_n X dX8_init_30 rfl (q := 0) rfl ?_
  refine U_bipush X dX8_init_31 rfl ?_
  refine U_newa (ty := .int) (t0 := 0) (N := 12) (a0 := (12, .inl (fun _ => Int32.ofInt 0))) X lkI_X8_3 rfl (fun _ h => nomatch h) rfl (fun _ => rfl) rfl (Nat.le_of_ble_eq_true rfl) (Nat.le_of_ble_eq_true rfl) ⟨Nat.le_of_ble_eq_true rfl, Nat.le_of_ble_eq_true rfl⟩ dX8_init_33 (fun q3 => ?_)
  refine U_putF (own := RX8) (j := 0) (C := RX8) (T := TX8) (N := 5) (ci := 8) X hn hiI_X8 tyX8 tyX8_ok nmX8 rfl 4 rfl (Nat.le_of_ble_eq_true rfl) lkI_X8_7 rfl (ty := tyX8 4) (tyX8_ok 4 (Nat.le_of_ble_eq_true rfl)) rfl rfl (Nat.le_of_ble_eq_true rfl) (tl1 := [(h0, .inr (8, [.null, .ref q0, .ref q1, .ref q2, .ref q3])), (q0, .inl (g.1, 144, .inl (fun _ => Int32.ofInt 0))), (q1, .inl (g.1, 169, .inl (fun _ => Int32.ofInt 0))), (q2, .inl (g.1, 12, .inl (fun _ => Int32.ofInt 0))), (q3, .inl (g.1, 12, .inl (fun _ => Int32.ofInt 0)))]) rfl dX8_init_35 ?_
  refine U_aload_n X dX8_init_38 rfl (q := 0) rfl ?_
  refine U_aload_n X dX8_init_39 rfl (q := 1) rfl ?_
  refine U_putF (own := RX8) (j := 0) (C := RX8) (T := TX8) (N := 5) (ci := 8) X hn hiI_X8 tyX8 tyX8_ok nmX8 rfl 0 rfl (Nat.le_of_ble_eq_true rfl) lkI_X8_8 rfl (ty := tyX8 0) (tyX8_ok 0 (Nat.le_of_ble_eq_true rfl)) rfl rfl (Nat.le_of_ble_eq_true rfl) (tl1 := [(h0, .inr (8, [.ref r0, .ref q0, .ref q1, .ref q2, .ref q3])), (q0, .inl (g.1, 144, .inl (fun _ => Int32.ofInt 0))), (q1, .inl (g.1, 169, .inl (fun _ => Int32.ofInt 0))), (q2, .inl (g.1, 12, .inl (fun _ => Int32.ofInt 0))), (q3, .inl (g.1, 12, .inl (fun _ => Int32.ofInt 0)))]) rfl dX8_init_40 ?_
  exact U_vret X hr ⟨fun j => [q0, q1, q2, q3].getD j 0, rfl⟩ dX8_init_43
def nwX4 (g : GT) (h0 : Nat) (r0 : Nat) (r1 : Nat) (h : Nat → Nat) : va_W := [(h0, .inr (4, [.ref r0, .ref r1, .ref (h 0), .ref (h 1), .ref (h 2), .ref (h 3), .ref (h 4), iv 0])), ((h 0), .inl (g.1, 12, .inl (fun _ => Int32.ofInt 0))), ((h 1), .inl (g.1, 12, .inl (fun _ => Int32.ofInt 0))), ((h 2), .inl (g.1, 12, .inl (fun _ => Int32.ofInt 0))), ((h 3), .inl (g.1, 12, .inl (fun _ => Int32.ofInt 0))), ((h 4), .inl (g.1, 12, .inl (fun _ => Int32.ofInt 0)))]
theorem dX4_init_0 : decode cX4_init 0 = .ok (.aload_n 0, 1) := by decide +kernel
theorem dX4_init_1 : decode cX4_init 1 = .ok (.invokespecial 3, 3) := by decide +kernel
theorem dX4_init_4 : decode cX4_init 4 = .ok (.aload_n 0, 1) := by decide +kernel
theorem dX4_init_5 : decode cX4_init 5 = .ok (.bipush 12, 2) := by decide +kernel
theorem dX4_init_7 : decode cX4_init 7 = .ok (.newarray .int, 2) := by decide +kernel
theorem dX4_init_9 : decode cX4_init 9 = .ok (.putfield 9, 3) := by decide +kernel
theorem dX4_init_12 : decode cX4_init 12 = .ok (.aload_n 0, 1) := by decide +kernel
theorem dX4_init_13 : decode cX4_init 13 = .ok (.bipush 12, 2) := by decide +kernel
theorem dX4_init_15 : decode cX4_init 15 = .ok (.newarray .int, 2) := by decide +kernel
theorem dX4_init_17 : decode cX4_init 17 = .ok (.putfield 15, 3) := by decide +kernel
theorem dX4_init_20 : decode cX4_init 20 = .ok (.aload_n 0, 1) := by decide +kernel
theorem dX4_init_21 : decode cX4_init 21 = .ok (.bipush 12, 2) := by decide +kernel
theorem dX4_init_23 : decode cX4_init 23 = .ok (.newarray .int, 2) := by decide +kernel
theorem dX4_init_25 : decode cX4_init 25 = .ok (.putfield 18, 3) := by decide +kernel
theorem dX4_init_28 : decode cX4_init 28 = .ok (.aload_n 0, 1) := by decide +kernel
theorem dX4_init_29 : decode cX4_init 29 = .ok (.bipush 12, 2) := by decide +kernel
theorem dX4_init_31 : decode cX4_init 31 = .ok (.newarray .int, 2) := by decide +kernel
theorem dX4_init_33 : decode cX4_init 33 = .ok (.putfield 21, 3) := by decide +kernel
theorem dX4_init_36 : decode cX4_init 36 = .ok (.aload_n 0, 1) := by decide +kernel
theorem dX4_init_37 : decode cX4_init 37 = .ok (.bipush 12, 2) := by decide +kernel
theorem dX4_init_39 : decode cX4_init 39 = .ok (.newarray .int, 2) := by decide +kernel
theorem dX4_init_41 : decode cX4_init 41 = .ok (.putfield 24, 3) := by decide +kernel
theorem dX4_init_44 : decode cX4_init 44 = .ok (.aload_n 0, 1) := by decide +kernel
theorem dX4_init_45 : decode cX4_init 45 = .ok (.aload_n 1, 1) := by decide +kernel
theorem dX4_init_46 : decode cX4_init 46 = .ok (.putfield 27, 3) := by decide +kernel
theorem dX4_init_49 : decode cX4_init 49 = .ok (.aload_n 0, 1) := by decide +kernel
theorem dX4_init_50 : decode cX4_init 50 = .ok (.aload_n 2, 1) := by decide +kernel
theorem dX4_init_51 : decode cX4_init 51 = .ok (.putfield 31, 3) := by decide +kernel
theorem dX4_init_54 : decode cX4_init 54 = .ok (.return_, 1) := by decide +kernel
theorem lkI_X4_0 : Cond.methodLink RX4 3 objectInit ∈ wsX4_init := by decide +kernel
theorem lkI_X4_1 : Cond.instanceMethod objectInit ∈ wsX4_init := by decide +kernel
theorem lkI_X4_2 : Cond.code objectInit ⟨#[0xb1]⟩ 1 none ∈ wsX4_init := by decide +kernel
theorem lkI_X4_3 : Cond.arrayClass .int ∈ wsX4_init := by decide +kernel
theorem lkI_X4_4 : Cond.fieldLink RX4 9 RX4 (TX4 2).2.1 (TX4 2).2.2.1 ∈ wsX4_init := by decide +kernel
theorem lkI_X4_5 : Cond.fieldLink RX4 15 RX4 (TX4 3).2.1 (TX4 3).2.2.1 ∈ wsX4_init := by decide +kernel
theorem lkI_X4_6 : Cond.fieldLink RX4 18 RX4 (TX4 4).2.1 (TX4 4).2.2.1 ∈ wsX4_init := by decide +kernel
theorem lkI_X4_7 : Cond.fieldLink RX4 21 RX4 (TX4 5).2.1 (TX4 5).2.2.1 ∈ wsX4_init := by decide +kernel
theorem lkI_X4_8 : Cond.fieldLink RX4 24 RX4 (TX4 6).2.1 (TX4 6).2.2.1 ∈ wsX4_init := by decide +kernel
theorem lkI_X4_9 : Cond.fieldLink RX4 27 RX4 (TX4 0).2.1 (TX4 0).2.2.1 ∈ wsX4_init := by decide +kernel
theorem lkI_X4_10 : Cond.fieldLink RX4 31 RX4 (TX4 1).2.1 (TX4 1).2.2.1 ∈ wsX4_init := by decide +kernel
theorem hiI_X4 : ∀ w ∈ u_ws RX4 TX4 8, w ∈ wsX4_init := by decide +kernel
set_option maxHeartbeats 4000000 in
set_option maxRecDepth 100000 in
theorem c_I_X4 (l : Launch) {D : va_G} {g : GT} {A : Nat → Prop} {w0 : va_W} {h0 r0 r1 : Nat} : Met l yX4_init wsX4_init ({ frames := 1, cells := 5, slots := 60, locals := 12 } : Room) (uPc D g A (w0 ++ [(h0, .inr (4, [.null, .null, .null, .null, .null, .null, .null, iv 0]))]) [.ref h0, .ref r0, .ref r1]) (uQv D A (fun w1 => ∃ h : Nat → Nat, w1 = w0 ++ nwX4 g h0 r0 r1 h)) 5 60 A := by
  refine Met.ofW (cc := cX4_init) (maxL := 3) (ret := none) (by decide) rfl ?_
  intro p e s m args below meth c s₁ B hml hv
  obtain ⟨rfl, hP, hD, hG⟩ := hv
  have X : vC p s m _ meth c D g A RX4 wsX4_init cX4_init 3 := ⟨B.exec, B.bytes, findClass_of_methodNamed B.named, atoms_spec (ws := wsX4_init) B.pre, hG, hml, B.notSynchronized⟩
  have hr := B.returns
  have hn : meth.name = "<init>" := (name_of_methodNamed B.named B.method).1
  have hl := lv_entry ([.ref h0, .ref r0, .ref r1]) (n := 3) (Nat.le_of_ble_eq_true rfl)
  rw [lg_entry_eq]
  generalize (lg_sl ([.ref h0, .ref r0, .ref r1]) ++ List.replicate (3 - (lg_sl ([.ref h0, .ref r0, .ref r1])).length) Slot.unset).toArray = ls at hl ⊢
  have hl : lv_has ls 3 [(0, .ref h0), (1, .ref r0), (2, .ref r1)] := hl
  suffices hV : uV p l e ({ frames := 1, cells := 5, slots := 60, locals := 12 } : Room) s m [.ref h0, .ref r0, .ref r1].toArray below meth c D A 3 0 0 (MQ below (uQv D A (fun w1 => ∃ h : Nat → Nat, w1 = w0 ++ nwX4 g h0 r0 r1 h)) [.ref h0, .ref r0, .ref r1].toArray s 5 60 A) w0 [(h0, .inr (4, [.null, .null, .null, .null, .null, .null, .null, iv 0]))] [(0, .ref h0), (1, .ref r0), (2, .ref r1)] 0 [] from hV s.heap [] ls hP hD va_S.rf hl
  refine U_super (own := RX4) (q := 0) X rfl lkI_X4_0 lkI_X4_1 lkI_X4_2 (Nat.le_of_ble_eq_true rfl) (Nat.le_of_ble_eq_true rfl) dX4_init_0 dX4_init_1 ?_
  refine U_aload_n X dX4_init_4 rfl (q := 0) rfl ?_
  refine U_bipush X dX4_init_5 rfl ?_
  refine U_newa (ty := .int) (t0 := 0) (N := 12) (a0 := (12, .inl (fun _ => Int32.ofInt 0))) X lkI_X4_3 rfl (fun _ h => nomatch h) rfl (fun _ => rfl) rfl (Nat.le_of_ble_eq_true rfl) (Nat.le_of_ble_eq_true rfl) ⟨Nat.le_of_ble_eq_true rfl, Nat.le_of_ble_eq_true rfl⟩ dX4_init_7 (fun q0 => ?_)
  refine U_putF (own := RX4) (j := 0) (C := RX4) (T := TX4) (N := 8) (ci := 4) X hn hiI_X4 tyX4 tyX4_ok nmX4 rfl 2 rfl (Nat.le_of_ble_eq_true rfl) lkI_X4_4 rfl (ty := tyX4 2) (tyX4_ok 2 (Nat.le_of_ble_eq_true rfl)) rfl rfl (Nat.le_of_ble_eq_true rfl) (tl1 := [(h0, .inr (4, [.null, .null, .ref q0, .null, .null, .null, .null, iv 0])), (q0, .inl (g.1, 12, .inl (fun _ => Int32.ofInt 0)))]) rfl dX4_init_9 ?_
  refine U_aload_n X dX4_init_12 rfl (q := 0) rfl ?_
  refine U_bipush X dX4_init_13 rfl ?_
  refine U_newa (ty := .int) (t0 := 0) (N := 12) (a0 := (12, .inl (fun _ => Int32.ofInt 0))) X lkI_X4_3 rfl (fun _ h => nomatch h) rfl (fun _ => rfl) rfl (Nat.le_of_ble_eq_true rfl) (Nat.le_of_ble_eq_true rfl) ⟨Nat.le_of_ble_eq_true rfl, Nat.le_of_ble_eq_true rfl⟩ dX4_init_15 (fun q1 => ?_)
  refine U_putF (own := RX4) (j := 0) (C := RX4) (T := TX4) (N := 8) (ci := 4) X hn hiI_X4 tyX4 tyX4_ok nmX4 rfl 3 rfl (Nat.le_of_ble_eq_true rfl) lkI_X4_5 rfl (ty := tyX4 3) (tyX4_ok 3 (Nat.le_of_ble_eq_true rfl)) rfl rfl (Nat.le_of_ble_eq_true rfl) (tl1 := [(h0, .inr (4, [.null, .null, .ref q0, .ref q1, .null, .null, .null, iv 0])), (q0, .inl (g.1, 12, .inl (fun _ => Int32.ofInt 0))), (q1, .inl (g.1, 12, .inl (fun _ => Int32.ofInt 0)))]) rfl dX4_init_17 ?_
  refine U_aload_n X dX4_init_20 rfl (q := 0) rfl ?_
  refine U_bipush X dX4_init_21 rfl ?_
  refine U_newa (ty := .int) (t0 := 0) (N := 12) (a0 := (12, .inl (fun _ => Int32.ofInt 0))) X lkI_X4_3 rfl (fun _ h => nomatch h) rfl (fun _ => rfl) rfl (Nat.le_of_ble_eq_true rfl) (Nat.le_of_ble_eq_true rfl) ⟨Nat.le_of_ble_eq_true rfl, Nat.le_of_ble_eq_true rfl⟩ dX4_init_23 (fun q2 => ?_)
  refine U_putF (own := RX4) (j := 0) (C := RX4) (T := TX4) (N := 8) (ci := 4) X hn hiI_X4 tyX4 tyX4_ok nmX4 rfl 4 rfl (Nat.le_of_ble_eq_true rfl) lkI_X4_6 rfl (ty := tyX4 4) (tyX4_ok 4 (Nat.le_of_ble_eq_true rfl)) rfl rfl (Nat.le_of_ble_eq_true rfl) (tl1 := [(h0, .inr (4, [.null, .null, .ref q0, .ref q1, .ref q2, .null, .null, iv 0])), (q0, .inl (g.1, 12, .inl (fun _ => Int32.ofInt 0))), (q1, .inl (g.1, 12, .inl (fun _ => Int32.ofInt 0))), (q2, .inl (g.1, 12, .inl (fun _ => Int32.ofInt 0)))]) rfl dX4_init_25 ?_
  refine U_aload_n X dX4_init_28 rfl (q := 0) rfl ?_
  refine U_bipush X dX4_init_29 rfl ?_
  refine U_newa (ty := .int) (t0 := 0) (N := 12) (a0 := (12, .inl (fun _ => Int32.ofInt 0))) X lkI_X4_3 rfl (fun _ h => nomatch h) rfl (fun _ => rfl) rfl (Nat.le_of_ble_eq_true rfl) (Nat.le_of_ble_eq_true rfl) ⟨Nat.le_of_ble_eq_true rfl, Nat.le_of_ble_eq_true rfl⟩ dX4_init_31 (fun q3 => ?_)
  refine U_putF (own := RX4) (j := 0) (C := RX4) (T := TX4) (N := 8) (ci := 4) X hn hiI_X4 tyX4 tyX4_ok nmX4 rfl 5 rfl (Nat.le_of_ble_eq_true rfl) lkI_X4_7 rfl (ty := tyX4 5) (tyX4_ok 5 (Nat.le_of_ble_eq_true rfl)) rfl rfl (Nat.le_of_ble_eq_true rfl) (tl1 := [(h0, .inr (4, [.null, .null, .ref q0, .ref q1, .ref q2, .ref q3, .null, iv 0])), (q0, .inl (g.1, 12, .inl (fun _ => Int32.ofInt 0))), (q1, .inl (g.1, 12, .inl (fun _ => Int32.ofInt 0))), (q2, .inl (g.1, 12, .inl (fun _ => Int32.ofInt 0))), (q3, .inl (g.1, 12, .inl (fun _ => Int32.ofInt 0)))]) rfl dX4_init_33 ?_
  refine U_aload_n X dX4_init_36 rfl (q := 0) rfl ?_
  refine U_bipush X dX4_init_37 rfl ?_
  refine U_newa (ty := .int) (t0 := 0) (N := 12) (a0 := (12, .inl (fun _ => Int32.ofInt 0))) X lkI_X4_3 rfl (fun _ h => nomatch h) rfl (fun _ => rfl) rfl (Nat.le_of_ble_eq_true rfl) (Nat.le_of_ble_eq_true rfl) ⟨Nat.le_of_ble_eq_true rfl, Nat.le_of_ble_eq_true rfl⟩ dX4_init_39 (fun q4 => ?_)
  refine U_putF (own := RX4) (j := 0) (C := RX4) (T := TX4) (N := 8) (ci := 4) X hn hiI_X4 tyX4 tyX4_ok nmX4 rfl 6 rfl (Nat.le_of_ble_eq_true rfl) lkI_X4_8 rfl (ty := tyX4 6) (tyX4_ok 6 (Nat.le_of_ble_eq_true rfl)) rfl rfl (Nat.le_of_ble_eq_true rfl) (tl1 := [(h0, .inr (4, [.null, .null, .ref q0, .ref q1, .ref q2, .ref q3, .ref q4, iv 0])), (q0, .inl (g.1, 12, .inl (fun _ => Int32.ofInt 0))), (q1, .inl (g.1, 12, .inl (fun _ => Int32.ofInt 0))), (q2, .inl (g.1, 12, .inl (fun _ => Int32.ofInt 0))), (q3, .inl (g.1, 12, .inl (fun _ => Int32.ofInt 0))), (q4, .inl (g.1, 12, .inl (fun _ => Int32.ofInt 0)))]) rfl dX4_init_41 ?_
  refine U_aload_n X dX4_init_44 rfl (q := 0) rfl ?_
  refine U_aload_n X dX4_init_45 rfl (q := 1) rfl ?_
  refine U_putF (own := RX4) (j := 0) (C := RX4) (T := TX4) (N := 8) (ci := 4) X hn hiI_X4 tyX4 tyX4_ok nmX4 rfl 0 rfl (Nat.le_of_ble_eq_true rfl) lkI_X4_9 rfl (ty := tyX4 0) (tyX4_ok 0 (Nat.le_of_ble_eq_true rfl)) rfl rfl (Nat.le_of_ble_eq_true rfl) (tl1 := [(h0, .inr (4, [.ref r0, .null, .ref q0, .ref q1, .ref q2, .ref q3, .ref q4, iv 0])), (q0, .inl (g.1, 12, .inl (fun _ => Int32.ofInt 0))), (q1, .inl (g.1, 12, .inl (fun _ => Int32.ofInt 0))), (q2, .inl (g.1, 12, .inl (fun _ => Int32.ofInt 0))), (q3, .inl (g.1, 12, .inl (fun _ => Int32.ofInt 0))), (q4, .inl (g.1, 12, .inl (fun _ => Int32.ofInt 0)))]) rfl dX4_init_46 ?_
  refine U_aload_n X dX4_init_49 rfl (q := 0) rfl ?_
  refine U_aload_n X dX4_init_50 rfl (q := 2) rfl ?_
  refine U_putF (own := RX4) (j := 0) (C := RX4) (T := TX4) (N := 8) (ci := 4) X hn hiI_X4 tyX4 tyX4_ok nmX4 rfl 1 rfl (Nat.le_of_ble_eq_true rfl) lkI_X4_10 rfl (ty := tyX4 1) (tyX4_ok 1 (Nat.le_of_ble_eq_true rfl)) rfl rfl (Nat.le_of_ble_eq_true rfl) (tl1 := [(h0, .inr (4, [.ref r0, .ref r1, .ref q0, .ref q1, .ref q2, .ref q3, .ref q4, iv 0])), (q0, .inl (g.1, 12, .inl (fun _ => Int32.ofInt 0))), (q1, .inl (g.1, 12, .inl (fun _ => Int32.ofInt 0))), (q2, .inl (g.1, 12, .inl (fun _ => Int32.ofInt 0))), (q3, .inl (g.1, 12, .inl (fun _ => Int32.ofInt 0))), (q4, .inl (g.1, 12, .inl (fun _ => Int32.ofInt 0)))]) rfl dX4_init_51 ?_
  exact U_vret X hr ⟨fun j => [q0, q1, q2, q3, q4].getD j 0, rfl⟩ dX4_init_54
def nwX7 (g : GT) (h0 : Nat) (r0 : Nat) (r1 : Nat) (h : Nat → Nat) : va_W := [(h0, .inr (7, [.ref r0, .ref r1, .ref (h 0), .ref (h 1), iv 0, iv 0, .ref (h 2), .ref (h 3), iv 0])), ((h 0), .inl (g.1, 24, .inl (fun _ => Int32.ofInt 0))), ((h 1), .inl (g.1, 24, .inl (fun _ => Int32.ofInt 0))), ((h 2), .inl (g.2.1, 12, .inl (fun _ => Int32.ofInt 0))), ((h 3), .inl (g.1, 12, .inl (fun _ => Int32.ofInt 0)))]
theorem dX7_init_0 : decode cX7_init 0 = .ok (.aload_n 0, 1) := by decide +kernel
theorem dX7_init_1 : decode cX7_init 1 = .ok (.invokespecial 3, 3) := by decide +kernel
theorem dX7_init_4 : decode cX7_init 4 = .ok (.aload_n 0, 1) := by decide +kernel
theorem dX7_init_5 : decode cX7_init 5 = .ok (.bipush 24, 2) := by decide +kernel
theorem dX7_init_7 : decode cX7_init 7 = .ok (.newarray .int, 2) := by decide +kernel
theorem dX7_init_9 : decode cX7_init 9 = .ok (.putfield 9, 3) := by decide +kernel
theorem dX7_init_12 : decode cX7_init 12 = .ok (.aload_n 0, 1) := by decide +kernel
theorem dX7_init_13 : decode cX7_init 13 = .ok (.bipush 24, 2) := by decide +kernel
theorem dX7_init_15 : decode cX7_init 15 = .ok (.newarray .int, 2) := by decide +kernel
theorem dX7_init_17 : decode cX7_init 17 = .ok (.putfield 15, 3) := by decide +kernel
theorem dX7_init_20 : decode cX7_init 20 = .ok (.aload_n 0, 1) := by decide +kernel
theorem dX7_init_21 : decode cX7_init 21 = .ok (.bipush 12, 2) := by decide +kernel
theorem dX7_init_23 : decode cX7_init 23 = .ok (.newarray .boolean, 2) := by decide +kernel
theorem dX7_init_25 : decode cX7_init 25 = .ok (.putfield 18, 3) := by decide +kernel
theorem dX7_init_28 : decode cX7_init 28 = .ok (.aload_n 0, 1) := by decide +kernel
theorem dX7_init_29 : decode cX7_init 29 = .ok (.bipush 12, 2) := by decide +kernel
theorem dX7_init_31 : decode cX7_init 31 = .ok (.newarray .int, 2) := by decide +kernel
theorem dX7_init_33 : decode cX7_init 33 = .ok (.putfield 22, 3) := by decide +kernel
theorem dX7_init_36 : decode cX7_init 36 = .ok (.aload_n 0, 1) := by decide +kernel
theorem dX7_init_37 : decode cX7_init 37 = .ok (.aload_n 1, 1) := by decide +kernel
theorem dX7_init_38 : decode cX7_init 38 = .ok (.putfield 25, 3) := by decide +kernel
theorem dX7_init_41 : decode cX7_init 41 = .ok (.aload_n 0, 1) := by decide +kernel
theorem dX7_init_42 : decode cX7_init 42 = .ok (.aload_n 2, 1) := by decide +kernel
theorem dX7_init_43 : decode cX7_init 43 = .ok (.putfield 29, 3) := by decide +kernel
theorem dX7_init_46 : decode cX7_init 46 = .ok (.return_, 1) := by decide +kernel
theorem lkI_X7_0 : Cond.methodLink RX7 3 objectInit ∈ wsX7_init := by decide +kernel
theorem lkI_X7_1 : Cond.instanceMethod objectInit ∈ wsX7_init := by decide +kernel
theorem lkI_X7_2 : Cond.code objectInit ⟨#[0xb1]⟩ 1 none ∈ wsX7_init := by decide +kernel
theorem lkI_X7_3 : Cond.arrayClass .int ∈ wsX7_init := by decide +kernel
theorem lkI_X7_4 : Cond.fieldLink RX7 9 RX7 (TX7 2).2.1 (TX7 2).2.2.1 ∈ wsX7_init := by decide +kernel
theorem lkI_X7_5 : Cond.fieldLink RX7 15 RX7 (TX7 3).2.1 (TX7 3).2.2.1 ∈ wsX7_init := by decide +kernel
theorem lkI_X7_6 : Cond.arrayClass .boolean ∈ wsX7_init := by decide +kernel
theorem lkI_X7_7 : Cond.fieldLink RX7 18 RX7 (TX7 6).2.1 (TX7 6).2.2.1 ∈ wsX7_init := by decide +kernel
theorem lkI_X7_8 : Cond.fieldLink RX7 22 RX7 (TX7 7).2.1 (TX7 7).2.2.1 ∈ wsX7_init := by decide +kernel
theorem lkI_X7_9 : Cond.fieldLink RX7 25 RX7 (TX7 0).2.1 (TX7 0).2.2.1 ∈ wsX7_init := by decide +kernel
theorem lkI_X7_10 : Cond.fieldLink RX7 29 RX7 (TX7 1).2.1 (TX7 1).2.2.1 ∈ wsX7_init := by decide +kernel
theorem hiI_X7 : ∀ w ∈ u_ws RX7 TX7 9, w ∈ wsX7_init := by decide +kernel
set_option maxHeartbeats 4000000 in
set_option maxRecDepth 100000 in
theorem c_I_X7 (l : Launch) {D : va_G} {g : GT} {A : Nat → Prop} {w0 : va_W} {h0 r0 r1 : Nat} : Met l yX7_init wsX7_init ({ frames := 1, cells := 4, slots := 72, locals := 12 } : Room) (uPc D g A (w0 ++ [(h0, .inr (7, [.null, .null, .null, .null, iv 0, iv 0, .null, .null, iv 0]))]) [.ref h0, .ref r0, .ref r1]) (uQv D A (fun w1 => ∃ h : Nat → Nat, w1 = w0 ++ nwX7 g h0 r0 r1 h)) 4 72 A := by
  refine Met.ofW (cc := cX7_init) (maxL := 3) (ret := none) (by decide) rfl ?_
  intro p e s m args below meth c s₁ B hml hv
  obtain ⟨rfl, hP, hD, hG⟩ := hv
  have X : vC p s m _ meth c D g A RX7 wsX7_init cX7_init 3 := ⟨B.exec, B.bytes, findClass_of_methodNamed B.named, atoms_spec (ws := wsX7_init) B.pre, hG, hml, B.notSynchronized⟩
  have hr := B.returns
  have hn : meth.name = "<init>" := (name_of_methodNamed B.named B.method).1
  have hl := lv_entry ([.ref h0, .ref r0, .ref r1]) (n := 3) (Nat.le_of_ble_eq_true rfl)
  rw [lg_entry_eq]
  generalize (lg_sl ([.ref h0, .ref r0, .ref r1]) ++ List.replicate (3 - (lg_sl ([.ref h0, .ref r0, .ref r1])).length) Slot.unset).toArray = ls at hl ⊢
  have hl : lv_has ls 3 [(0, .ref h0), (1, .ref r0), (2, .ref r1)] := hl
  suffices hV : uV p l e ({ frames := 1, cells := 4, slots := 72, locals := 12 } : Room) s m [.ref h0, .ref r0, .ref r1].toArray below meth c D A 3 0 0 (MQ below (uQv D A (fun w1 => ∃ h : Nat → Nat, w1 = w0 ++ nwX7 g h0 r0 r1 h)) [.ref h0, .ref r0, .ref r1].toArray s 4 72 A) w0 [(h0, .inr (7, [.null, .null, .null, .null, iv 0, iv 0, .null, .null, iv 0]))] [(0, .ref h0), (1, .ref r0), (2, .ref r1)] 0 [] from hV s.heap [] ls hP hD va_S.rf hl
  refine U_super (own := RX7) (q := 0) X rfl lkI_X7_0 lkI_X7_1 lkI_X7_2 (Nat.le_of_ble_eq_true rfl) (Nat.le_of_ble_eq_true rfl) dX7_init_0 dX7_init_1 ?_
  refine U_aload_n X dX7_init_4 rfl (q := 0) rfl ?_
  refine U_bipush X dX7_init_5 rfl ?_
  refine U_newa (ty := .int) (t0 := 0) (N := 24) (a0 := (24, .inl (fun _ => Int32.ofInt 0))) X lkI_X7_3 rfl (fun _ h => nomatch h) rfl (fun _ => rfl) rfl (Nat.le_of_ble_eq_true rfl) (Nat.le_of_ble_eq_true rfl) ⟨Nat.le_of_ble_eq_true rfl, Nat.le_of_ble_eq_true rfl⟩ dX7_init_7 (fun q0 => ?_)
  refine U_putF (own := RX7) (j := 0) (C := RX7) (T := TX7) (N := 9) (ci := 7) X hn hiI_X7 tyX7 tyX7_ok nmX7 rfl 2 rfl (Nat.le_of_ble_eq_true rfl) lkI_X7_4 rfl (ty := tyX7 2) (tyX7_ok 2 (Nat.le_of_ble_eq_true rfl)) rfl rfl (Nat.le_of_ble_eq_true rfl) (tl1 := [(h0, .inr (7, [.null, .null, .ref q0, .null, iv 0, iv 0, .null, .null, iv 0])), (q0, .inl (g.1, 24, .inl (fun _ => Int32.ofInt 0)))]) rfl dX7_init_9 ?_
  refine U_aload_n X dX7_init_12 rfl (q := 0) rfl ?_
  refine U_bipush X dX7_init_13 rfl ?_
  refine U_newa (ty := .int) (t0 := 0) (N := 24) (a0 := (24, .inl (fun _ => Int32.ofInt 0))) X lkI_X7_3 rfl (fun _ h => nomatch h) rfl (fun _ => rfl) rfl (Nat.le_of_ble_eq_true rfl) (Nat.le_of_ble_eq_true rfl) ⟨Nat.le_of_ble_eq_true rfl, Nat.le_of_ble_eq_true rfl⟩ dX7_init_15 (fun q1 => ?_)
  refine U_putF (own := RX7) (j := 0) (C := RX7) (T := TX7) (N := 9) (ci := 7) X hn hiI_X7 tyX7 tyX7_ok nmX7 rfl 3 rfl (Nat.le_of_ble_eq_true rfl) lkI_X7_5 rfl (ty := tyX7 3) (tyX7_ok 3 (Nat.le_of_ble_eq_true rfl)) rfl rfl (Nat.le_of_ble_eq_true rfl) (tl1 := [(h0, .inr (7, [.null, .null, .ref q0, .ref q1, iv 0, iv 0, .null, .null, iv 0])), (q0, .inl (g.1, 24, .inl (fun _ => Int32.ofInt 0))), (q1, .inl (g.1, 24, .inl (fun _ => Int32.ofInt 0)))]) rfl dX7_init_17 ?_
  refine U_aload_n X dX7_init_20 rfl (q := 0) rfl ?_
  refine U_bipush X dX7_init_21 rfl ?_
  refine U_newa (ty := .boolean) (t0 := 1) (N := 12) (a0 := (12, .inl (fun _ => Int32.ofInt 0))) X lkI_X7_6 rfl (fun _ h => nomatch h) rfl (fun _ => rfl) rfl (Nat.le_of_ble_eq_true rfl) (Nat.le_of_ble_eq_true rfl) ⟨Nat.le_of_ble_eq_true rfl, Nat.le_of_ble_eq_true rfl⟩ dX7_init_23 (fun q2 => ?_)
  refine U_putF (own := RX7) (j := 0) (C := RX7) (T := TX7) (N := 9) (ci := 7) X hn hiI_X7 tyX7 tyX7_ok nmX7 rfl 6 rfl (Nat.le_of_ble_eq_true rfl) lkI_X7_7 rfl (ty := tyX7 6) (tyX7_ok 6 (Nat.le_of_ble_eq_true rfl)) rfl rfl (Nat.le_of_ble_eq_true rfl) (tl1 := [(h0, .inr (7, [.null, .null, .ref q0, .ref q1, iv 0, iv 0, .ref q2, .null, iv 0])), (q0, .inl (g.1, 24, .inl (fun _ => Int32.ofInt 0))), (q1, .inl (g.1, 24, .inl (fun _ => Int32.ofInt 0))), (q2, .inl (g.2.1, 12, .inl (fun _ => Int32.ofInt 0)))]) rfl dX7_init_25 ?_
  refine U_aload_n X dX7_init_28 rfl (q := 0) rfl ?_
  refine U_bipush X dX7_init_29 rfl ?_
  refine U_newa (ty := .int) (t0 := 0) (N := 12) (a0 := (12, .inl (fun _ => Int32.ofInt 0))) X lkI_X7_3 rfl (fun _ h => nomatch h) rfl (fun _ => rfl) rfl (Nat.le_of_ble_eq_true rfl) (Nat.le_of_ble_eq_true rfl) ⟨Nat.le_of_ble_eq_true rfl, Nat.le_of_ble_eq_true rfl⟩ dX7_init_31 (fun q3 => ?_)
  refine U_putF (own := RX7) (j := 0) (C := RX7) (T := TX7) (N := 9) (ci := 7) X hn hiI_X7 tyX7 tyX7_ok nmX7 rfl 7 rfl (Nat.le_of_ble_eq_true rfl) lkI_X7_8 rfl (ty := tyX7 7) (tyX7_ok 7 (Nat.le_of_ble_eq_true rfl)) rfl rfl (Nat.le_of_ble_eq_true rfl) (tl1 := [(h0, .inr (7, [.null, .null, .ref q0, .ref q1, iv 0, iv 0, .ref q2, .ref q3, iv 0])), (q0, .inl (g.1, 24, .inl (fun _ => Int32.ofInt 0))), (q1, .inl (g.1, 24, .inl (fun _ => Int32.ofInt 0))), (q2, .inl (g.2.1, 12, .inl (fun _ => Int32.ofInt 0))), (q3, .inl (g.1, 12, .inl (fun _ => Int32.ofInt 0)))]) rfl dX7_init_33 ?_
  refine U_aload_n X dX7_init_36 rfl (q := 0) rfl ?_
  refine U_aload_n X dX7_init_37 rfl (q := 1) rfl ?_
  refine U_putF (own := RX7) (j := 0) (C := RX7) (T := TX7) (N := 9) (ci := 7) X hn hiI_X7 tyX7 tyX7_ok nmX7 rfl 0 rfl (Nat.le_of_ble_eq_true rfl) lkI_X7_9 rfl (ty := tyX7 0) (tyX7_ok 0 (Nat.le_of_ble_eq_true rfl)) rfl rfl (Nat.le_of_ble_eq_true rfl) (tl1 := [(h0, .inr (7, [.ref r0, .null, .ref q0, .ref q1, iv 0, iv 0, .ref q2, .ref q3, iv 0])), (q0, .inl (g.1, 24, .inl (fun _ => Int32.ofInt 0))), (q1, .inl (g.1, 24, .inl (fun _ => Int32.ofInt 0))), (q2, .inl (g.2.1, 12, .inl (fun _ => Int32.ofInt 0))), (q3, .inl (g.1, 12, .inl (fun _ => Int32.ofInt 0)))]) rfl dX7_init_38 ?_
  refine U_aload_n X dX7_init_41 rfl (q := 0) rfl ?_
  refine U_aload_n X dX7_init_42 rfl (q := 2) rfl ?_
  refine U_putF (own := RX7) (j := 0) (C := RX7) (T := TX7) (N := 9) (ci := 7) X hn hiI_X7 tyX7 tyX7_ok nmX7 rfl 1 rfl (Nat.le_of_ble_eq_true rfl) lkI_X7_10 rfl (ty := tyX7 1) (tyX7_ok 1 (Nat.le_of_ble_eq_true rfl)) rfl rfl (Nat.le_of_ble_eq_true rfl) (tl1 := [(h0, .inr (7, [.ref r0, .ref r1, .ref q0, .ref q1, iv 0, iv 0, .ref q2, .ref q3, iv 0])), (q0, .inl (g.1, 24, .inl (fun _ => Int32.ofInt 0))), (q1, .inl (g.1, 24, .inl (fun _ => Int32.ofInt 0))), (q2, .inl (g.2.1, 12, .inl (fun _ => Int32.ofInt 0))), (q3, .inl (g.1, 12, .inl (fun _ => Int32.ofInt 0)))]) rfl dX7_init_43 ?_
  exact U_vret X hr ⟨fun j => [q0, q1, q2, q3].getD j 0, rfl⟩ dX7_init_46
def nwX5 (g : GT) (h0 : Nat) (r0 : Nat) (r1 : Nat) (h : Nat → Nat) : va_W := [(h0, .inr (5, [.ref r0, .ref r1, .ref (h 0), .ref (h 1), iv 0, iv 0])), ((h 0), .inl (g.1, 12, .inl (fun _ => Int32.ofInt 0))), ((h 1), .inl (g.1, 12, .inl (fun _ => Int32.ofInt 0)))]
theorem dX5_init_0 : decode cX5_init 0 = .ok (.aload_n 0, 1) := by decide +kernel
theorem dX5_init_1 : decode cX5_init 1 = .ok (.invokespecial 3, 3) := by decide +kernel
theorem dX5_init_4 : decode cX5_init 4 = .ok (.aload_n 0, 1) := by decide +kernel
theorem dX5_init_5 : decode cX5_init 5 = .ok (.bipush 12, 2) := by decide +kernel
theorem dX5_init_7 : decode cX5_init 7 = .ok (.newarray .int, 2) := by decide +kernel
theorem dX5_init_9 : decode cX5_init 9 = .ok (.putfield 9, 3) := by decide +kernel
theorem dX5_init_12 : decode cX5_init 12 = .ok (.aload_n 0, 1) := by decide +kernel
theorem dX5_init_13 : decode cX5_init 13 = .ok (.bipush 12, 2) := by decide +kernel
theorem dX5_init_15 : decode cX5_init 15 = .ok (.newarray .int, 2) := by decide +kernel
theorem dX5_init_17 : decode cX5_init 17 = .ok (.putfield 15, 3) := by decide +kernel
theorem dX5_init_20 : decode cX5_init 20 = .ok (.aload_n 0, 1) := by decide +kernel
theorem dX5_init_21 : decode cX5_init 21 = .ok (.aload_n 1, 1) := by decide +kernel
theorem dX5_init_22 : decode cX5_init 22 = .ok (.putfield 18, 3) := by decide +kernel
theorem dX5_init_25 : decode cX5_init 25 = .ok (.aload_n 0, 1) := by decide +kernel
theorem dX5_init_26 : decode cX5_init 26 = .ok (.aload_n 2, 1) := by decide +kernel
theorem dX5_init_27 : decode cX5_init 27 = .ok (.putfield 22, 3) := by decide +kernel
theorem dX5_init_30 : decode cX5_init 30 = .ok (.return_, 1) := by decide +kernel
theorem lkI_X5_0 : Cond.methodLink RX5 3 objectInit ∈ wsX5_init := by decide +kernel
theorem lkI_X5_1 : Cond.instanceMethod objectInit ∈ wsX5_init := by decide +kernel
theorem lkI_X5_2 : Cond.code objectInit ⟨#[0xb1]⟩ 1 none ∈ wsX5_init := by decide +kernel
theorem lkI_X5_3 : Cond.arrayClass .int ∈ wsX5_init := by decide +kernel
theorem lkI_X5_4 : Cond.fieldLink RX5 9 RX5 (TX5 2).2.1 (TX5 2).2.2.1 ∈ wsX5_init := by decide +kernel
theorem lkI_X5_5 : Cond.fieldLink RX5 15 RX5 (TX5 3).2.1 (TX5 3).2.2.1 ∈ wsX5_init := by decide +kernel
theorem lkI_X5_6 : Cond.fieldLink RX5 18 RX5 (TX5 0).2.1 (TX5 0).2.2.1 ∈ wsX5_init := by decide +kernel
theorem lkI_X5_7 : Cond.fieldLink RX5 22 RX5 (TX5 1).2.1 (TX5 1).2.2.1 ∈ wsX5_init := by decide +kernel
theorem hiI_X5 : ∀ w ∈ u_ws RX5 TX5 6, w ∈ wsX5_init := by decide +kernel
set_option maxHeartbeats 4000000 in
set_option maxRecDepth 100000 in
theorem c_I_X5 (l : Launch) {D : va_G} {g : GT} {A : Nat → Prop} {w0 : va_W} {h0 r0 r1 : Nat} : Met l yX5_init wsX5_init ({ frames := 1, cells := 2, slots := 24, locals := 12 } : Room) (uPc D g A (w0 ++ [(h0, .inr (5, [.null, .null, .null, .null, iv 0, iv 0]))]) [.ref h0, .ref r0, .ref r1]) (uQv D A (fun w1 => ∃ h : Nat → Nat, w1 = w0 ++ nwX5 g h0 r0 r1 h)) 2 24 A := by
  refine Met.ofW (cc := cX5_init) (maxL := 3) (ret := none) (by decide) rfl ?_
  intro p e s m args below meth c s₁ B hml hv
  obtain ⟨rfl, hP, hD, hG⟩ := hv
  have X : vC p s m _ meth c D g A RX5 wsX5_init cX5_init 3 := ⟨B.exec, B.bytes, findClass_of_methodNamed B.named, atoms_spec (ws := wsX5_init) B.pre, hG, hml, B.notSynchronized⟩
  have hr := B.returns
  have hn : meth.name = "<init>" := (name_of_methodNamed B.named B.method).1
  have hl := lv_entry ([.ref h0, .ref r0, .ref r1]) (n := 3) (Nat.le_of_ble_eq_true rfl)
  rw [lg_entry_eq]
  generalize (lg_sl ([.ref h0, .ref r0, .ref r1]) ++ List.replicate (3 - (lg_sl ([.ref h0, .ref r0, .ref r1])).length) Slot.unset).toArray = ls at hl ⊢
  have hl : lv_has ls 3 [(0, .ref h0), (1, .ref r0), (2, .ref r1)] := hl
  suffices hV : uV p l e ({ frames := 1, cells := 2, slots := 24, locals := 12 } : Room) s m [.ref h0, .ref r0, .ref r1].toArray below meth c D A 3 0 0 (MQ below (uQv D A (fun w1 => ∃ h : Nat → Nat, w1 = w0 ++ nwX5 g h0 r0 r1 h)) [.ref h0, .ref r0, .ref r1].toArray s 2 24 A) w0 [(h0, .inr (5, [.null, .null, .null, .null, iv 0, iv 0]))] [(0, .ref h0), (1, .ref r0), (2, .ref r1)] 0 [] from hV s.heap [] ls hP hD va_S.rf hl
  refine U_super (own := RX5) (q := 0) X rfl lkI_X5_0 lkI_X5_1 lkI_X5_2 (Nat.le_of_ble_eq_true rfl) (Nat.le_of_ble_eq_true rfl) dX5_init_0 dX5_init_1 ?_
  refine U_aload_n X dX5_init_4 rfl (q := 0) rfl ?_
  refine U_bipush X dX5_init_5 rfl ?_
  refine U_newa (ty := .int) (t0 := 0) (N := 12) (a0 := (12, .inl (fun _ => Int32.ofInt 0))) X lkI_X5_3 rfl (fun _ h => nomatch h) rfl (fun _ => rfl) rfl (Nat.le_of_ble_eq_true rfl) (Nat.le_of_ble_eq_true rfl) ⟨Nat.le_of_ble_eq_true rfl, Nat.le_of_ble_eq_true rfl⟩ dX5_init_7 (fun q0 => ?_)
  refine U_putF (own := RX5) (j := 0) (C := RX5) (T := TX5) (N := 6) (ci := 5) X hn hiI_X5 tyX5 tyX5_ok nmX5 rfl 2 rfl (Nat.le_of_ble_eq_true rfl) lkI_X5_4 rfl (ty := tyX5 2) (tyX5_ok 2 (Nat.le_of_ble_eq_true rfl)) rfl rfl (Nat.le_of_ble_eq_true rfl) (tl1 := [(h0, .inr (5, [.null, .null, .ref q0, .null, iv 0, iv 0])), (q0, .inl (g.1, 12, .inl (fun _ => Int32.ofInt 0)))]) rfl dX5_init_9 ?_
  refine U_aload_n X dX5_init_12 rfl (q := 0) rfl ?_
  refine U_bipush X dX5_init_13 rfl ?_
  refine U_newa (ty := .int) (t0 := 0) (N := 12) (a0 := (12, .inl (fun _ => Int32.ofInt 0))) X lkI_X5_3 rfl (fun _ h => nomatch h) rfl (fun _ => rfl) rfl (Nat.le_of_ble_eq_true rfl) (Nat.le_of_ble_eq_true rfl) ⟨Nat.le_of_ble_eq_true rfl, Nat.le_of_ble_eq_true rfl⟩ dX5_init_15 (fun q1 => ?_)
  refine U_putF (own := RX5) (j := 0) (C := RX5) (T := TX5) (N := 6) (ci := 5) X hn hiI_X5 tyX5 tyX5_ok nmX5 rfl 3 rfl (Nat.le_of_ble_eq_true rfl) lkI_X5_5 rfl (ty := tyX5 3) (tyX5_ok 3 (Nat.le_of_ble_eq_true rfl)) rfl rfl (Nat.le_of_ble_eq_true rfl) (tl1 := [(h0, .inr (5, [.null, .null, .ref q0, .ref q1, iv 0, iv 0])), (q0, .inl (g.1, 12, .inl (fun _ => Int32.ofInt 0))), (q1, .inl (g.1, 12, .inl (fun _ => Int32.ofInt 0)))]) rfl dX5_init_17 ?_
  refine U_aload_n X dX5_init_20 rfl (q := 0) rfl ?_
  refine U_aload_n X dX5_init_21 rfl (q := 1) rfl ?_
  refine U_putF (own := RX5) (j := 0) (C := RX5) (T := TX5) (N := 6) (ci := 5) X hn hiI_X5 tyX5 tyX5_ok nmX5 rfl 0 rfl (Nat.le_of_ble_eq_true rfl) lkI_X5_6 rfl (ty := tyX5 0) (tyX5_ok 0 (Nat.le_of_ble_eq_true rfl)) rfl rfl (Nat.le_of_ble_eq_true rfl) (tl1 := [(h0, .inr (5, [.ref r0, .null, .ref q0, .ref q1, iv 0, iv 0])), (q0, .inl (g.1, 12, .inl (fun _ => Int32.ofInt 0))), (q1, .inl (g.1, 12, .inl (fun _ => Int32.ofInt 0)))]) rfl dX5_init_22 ?_
  refine U_aload_n X dX5_init_25 rfl (q := 0) rfl ?_
  refine U_aload_n X dX5_init_26 rfl (q := 2) rfl ?_
  refine U_putF (own := RX5) (j := 0) (C := RX5) (T := TX5) (N := 6) (ci := 5) X hn hiI_X5 tyX5 tyX5_ok nmX5 rfl 1 rfl (Nat.le_of_ble_eq_true rfl) lkI_X5_7 rfl (ty := tyX5 1) (tyX5_ok 1 (Nat.le_of_ble_eq_true rfl)) rfl rfl (Nat.le_of_ble_eq_true rfl) (tl1 := [(h0, .inr (5, [.ref r0, .ref r1, .ref q0, .ref q1, iv 0, iv 0])), (q0, .inl (g.1, 12, .inl (fun _ => Int32.ofInt 0))), (q1, .inl (g.1, 12, .inl (fun _ => Int32.ofInt 0)))]) rfl dX5_init_27 ?_
  exact U_vret X hr ⟨fun j => [q0, q1].getD j 0, rfl⟩ dX5_init_30
