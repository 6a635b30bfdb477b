/-! the constructors -/
def fF (n : Nat) (v : Int) : Nat → Int32 := fun i => Int32.ofInt (bif Nat.blt i n then v else 0)
theorem fF_ok (n : Nat) (v : Int) : ∀ i : Nat, fF n v i = if i < n then Int32.ofInt v else (fun _ : Nat => Int32.ofInt 0) i := fun i => by
  unfold fF
  by_cases c : i < n
  · rw [if_pos c, show Nat.blt i n = true from Nat.ble_eq.mpr c]
    rfl
  · rw [if_neg c, show Nat.blt i n = false from by
      cases e : Nat.blt i n with
      | false => rfl
      | true => exact absurd (Nat.ble_eq.mp e) c]
    rfl
section FILL
variable {p : Program} {l : Launch} {e : Env} {R : Room} {s : State} {m : MethodId} {args : Array Value} {below : List Frame} {meth : Method} {c : Code} {D : va_G} {g : GT} {A : Nat → Prop} {k n : Nat} {w0 tl : va_W}
theorem fill_loop {j ad N : Nat} {f f' : Nat → Int32} {v : Int} {tl1 : va_W} (X : vC p s m args meth c D g A RJ7 wsJ7_fill_53178 cJ7_fill_53178 4) (hr : meth.sig.returnType = none) (he : tl[j]? = some (ad, .inl (g.1, N, .inl f))) (hN : N < 2147483648) (ht : tl.set j (ad, .inl (g.1, N, .inl f')) = tl1) (hf : ∀ i, f' i = if i < N then Int32.ofInt v else f i) : ∀ (z i : Nat) (fi : Nat → Int32) (ti : va_W), N = i + z → ti = tl.set j (ad, .inl (g.1, N, .inl fi)) → (∀ y, fi y = if y < i then Int32.ofInt v else f y) → uV p l e R s m args below meth c D A 4 k n (MQ below (uQv D A (fun w1 => w1 = w0 ++ tl1)) args s k n A) w0 ti [(0, .ref ad), (1, iv v), (2, iv i), (3, iv N)] 5 [] := by
  intro z
  have hj : j < tl.length := by
    rcases Nat.lt_or_ge j tl.length with h | h
    · exact h
    · rw [List.getElem?_eq_none h] at he
      cases he
  induction z with
  | zero =>
    intro i fi ti hz hti hfi
    refine U_iload_n X dJ7_fill_53178_5 rfl (q := 2) rfl (U_iload_n X dJ7_fill_53178_6 rfl (q := 3) rfl ?_)
    refine U_icmp_ge (tgt := 20) X ⟨by omega, by omega⟩ ⟨by omega, by omega⟩ dJ7_fill_53178_7 (by decide) (fun _ => U_vret X hr ?_ dJ7_fill_53178_20) (fun q => absurd (by omega) q)
    have ef : fi = f' := by
      funext y
      rw [hfi, hf, hz]
      rfl
    rw [hti, ef, ht]
  | succ z ih =>
    intro i fi ti hz hti hfi
    refine U_iload_n X dJ7_fill_53178_5 rfl (q := 2) rfl (U_iload_n X dJ7_fill_53178_6 rfl (q := 3) rfl ?_)
    refine U_icmp_ge (tgt := 20) X ⟨by omega, by omega⟩ ⟨by omega, by omega⟩ dJ7_fill_53178_7 (by decide) (fun q => absurd q (by omega)) (fun _ => ?_)
    refine U_aload_n X dJ7_fill_53178_10 rfl (q := 0) rfl (U_iload_n X dJ7_fill_53178_11 rfl (q := 2) rfl (U_iload_n X dJ7_fill_53178_12 rfl (q := 1) rfl ?_))
    refine U_iast (j := j) (N := N) (f := fi) (tl1 := tl.set j (ad, .inl (g.1, N, .inl (upd fi (i : Int).toNat (Int32.ofInt v))))) X (by rw [hti, List.getElem?_set_self hj]) ⟨by omega, by omega⟩ hN (by rw [hti, List.set_set]) dJ7_fill_53178_13 ?_
    refine U_iinc (q := 2) (lv1 := [(0, .ref ad), (1, iv v), (2, iv ((i : Int) + 1)), (3, iv N)]) X [1, 2, 0, 3] dJ7_fill_53178_14 rfl (by decide) rfl (U_goto (tgt := 5) X dJ7_fill_53178_17 (by decide) ?_)
    refine ih (i + 1) (upd fi (i : Int).toNat (Int32.ofInt v)) _ (by omega) rfl (fun y => ?_)
    unfold upd
    rw [Int.toNat_natCast]
    by_cases c1 : y = i
    · rw [if_pos c1, if_pos (by omega)]
    · rw [if_neg c1, hfi]
      by_cases c2 : y < i
      · rw [if_pos c2, if_pos (by omega)]
      · rw [if_neg c2, if_neg (by omega)]
end FILL
set_option maxHeartbeats 1000000 in
theorem c_fillU (l : Launch) {D : va_G} {g : GT} {A : Nat → Prop} {w0 tl tl1 : va_W} {j ad N : Nat} {f f' : Nat → Int32} {v : Int} (he : tl[j]? = some (ad, .inl (g.1, N, .inl f))) (hN : N < 2147483648) (ht : tl.set j (ad, .inl (g.1, N, .inl f')) = tl1) (hf : ∀ i, f' i = if i < N then Int32.ofInt v else f i) : Met l yJ7_fill_53178 wsJ7_fill_53178 ({ frames := 0, cells := 0, slots := 0, locals := 0 } : Room) (uPc D g A (w0 ++ tl) [.ref ad, iv v]) (uQv D A (fun w1 => w1 = w0 ++ tl1)) 0 0 A := by
  refine Met.ofW (cc := cJ7_fill_53178) (maxL := 4) (ret := none) (by decide) rfl ?_
  intro p e s m args below meth c s₁ B hml hv
  obtain ⟨rfl, hP, hD, hG⟩ := hv
  have X : vC p s m _ meth c D g A RJ7 wsJ7_fill_53178 cJ7_fill_53178 4 := ⟨B.exec, B.bytes, findClass_of_methodNamed B.named, atoms_spec (ws := wsJ7_fill_53178) B.pre, hG, hml, B.notSynchronized⟩
  have hr := B.returns
  have hl := lv_entry ([.ref ad, iv v]) (n := 4) (Nat.le_of_ble_eq_true rfl)
  rw [lg_entry_eq]
  generalize (lg_sl ([.ref ad, iv v]) ++ List.replicate (4 - (lg_sl ([.ref ad, iv v])).length) Slot.unset).toArray = ls at hl ⊢
  have hl : lv_has ls 4 [(0, .ref ad), (1, iv v)] := hl
  suffices hV : uV p l e ({ frames := 0, cells := 0, slots := 0, locals := 0 } : Room) s m [.ref ad, iv v].toArray below meth c D A 4 0 0 (MQ below (uQv D A (fun w1 => w1 = w0 ++ tl1)) [.ref ad, iv v].toArray s 0 0 A) w0 tl [(0, .ref ad), (1, iv v)] 0 [] from hV s.heap [] ls hP hD va_S.rf hl
  refine U_iconst X dJ7_fill_53178_0 (U_istore_n (lv1 := [(0, .ref ad), (1, iv v), (2, iv 0)]) X [1, 2, 0] dJ7_fill_53178_1 rfl (by decide) rfl ?_)
  refine U_aload_n X dJ7_fill_53178_2 rfl (q := 0) rfl (U_alen X he dJ7_fill_53178_3 (U_istore_n (lv1 := [(0, .ref ad), (1, iv v), (2, iv 0), (3, iv N)]) X [1, 2, 3, 0] dJ7_fill_53178_4 rfl (by decide) rfl ?_))
  refine fill_loop X hr he hN ht hf N 0 f tl (by omega) ?_ (fun y => by rw [if_neg (by omega)])
  have hj : j < tl.length := by
    rcases Nat.lt_or_ge j tl.length with h | h
    · exact h
    · rw [List.getElem?_eq_none h] at he
      cases he
  apply List.ext_getElem?
  intro z
  by_cases c1 : z = j
  · subst c1
    rw [he, List.getElem?_set_self hj]
  · rw [List.getElem?_set_ne (fun q => c1 q.symm)]
def nwX9 (g : GT) (h0 : Nat) (h : Nat → Nat) : va_W := [(h0, .inr (9, [.ref (h 0), .ref (h 1), .ref (h 2), .ref (h 3), .ref (h 4), .ref (h 5), .ref (h 6), .ref (h 7), iv 0])), ((h 0), .inl (g.1, 12, .inl (fun _ => Int32.ofInt 0))), ((h 1), .inl (g.1, 12, .inl (fun _ => Int32.ofInt 0))), ((h 2), .inl (g.1, 12, .inl (fun _ => Int32.ofInt 0))), ((h 3), .inl (g.1, 12, .inl (fun _ => Int32.ofInt 0))), ((h 4), .inl (g.1, 12, .inl (fun _ => Int32.ofInt 0))), ((h 5), .inl (g.1, 12, .inl (fun _ => Int32.ofInt 0))), ((h 6), .inl (g.1, 12, .inl (fun _ => Int32.ofInt 0))), ((h 7), .inl (g.1, 12, .inl (fun _ => Int32.ofInt 0)))]
theorem dX9_init_0 : decode cX9_init 0 = .ok (.aload_n 0, 1) := by decide +kernel
theorem dX9_init_1 : decode cX9_init 1 = .ok (.invokespecial 3, 3) := by decide +kernel
theorem dX9_init_4 : decode cX9_init 4 = .ok (.aload_n 0, 1) := by decide +kernel
theorem dX9_init_5 : decode cX9_init 5 = .ok (.bipush 12, 2) := by decide +kernel
theorem dX9_init_7 : decode cX9_init 7 = .ok (.newarray .int, 2) := by decide +kernel
theorem dX9_init_9 : decode cX9_init 9 = .ok (.putfield 9, 3) := by decide +kernel
theorem dX9_init_12 : decode cX9_init 12 = .ok (.aload_n 0, 1) := by decide +kernel
theorem dX9_init_13 : decode cX9_init 13 = .ok (.bipush 12, 2) := by decide +kernel
theorem dX9_init_15 : decode cX9_init 15 = .ok (.newarray .int, 2) := by decide +kernel
theorem dX9_init_17 : decode cX9_init 17 = .ok (.putfield 15, 3) := by decide +kernel
theorem dX9_init_20 : decode cX9_init 20 = .ok (.aload_n 0, 1) := by decide +kernel
theorem dX9_init_21 : decode cX9_init 21 = .ok (.bipush 12, 2) := by decide +kernel
theorem dX9_init_23 : decode cX9_init 23 = .ok (.newarray .int, 2) := by decide +kernel
theorem dX9_init_25 : decode cX9_init 25 = .ok (.putfield 18, 3) := by decide +kernel
theorem dX9_init_28 : decode cX9_init 28 = .ok (.aload_n 0, 1) := by decide +kernel
theorem dX9_init_29 : decode cX9_init 29 = .ok (.bipush 12, 2) := by decide +kernel
theorem dX9_init_31 : decode cX9_init 31 = .ok (.newarray .int, 2) := by decide +kernel
theorem dX9_init_33 : decode cX9_init 33 = .ok (.putfield 21, 3) := by decide +kernel
theorem dX9_init_36 : decode cX9_init 36 = .ok (.aload_n 0, 1) := by decide +kernel
theorem dX9_init_37 : decode cX9_init 37 = .ok (.bipush 12, 2) := by decide +kernel
theorem dX9_init_39 : decode cX9_init 39 = .ok (.newarray .int, 2) := by decide +kernel
theorem dX9_init_41 : decode cX9_init 41 = .ok (.putfield 24, 3) := by decide +kernel
theorem dX9_init_44 : decode cX9_init 44 = .ok (.aload_n 0, 1) := by decide +kernel
theorem dX9_init_45 : decode cX9_init 45 = .ok (.bipush 12, 2) := by decide +kernel
theorem dX9_init_47 : decode cX9_init 47 = .ok (.newarray .int, 2) := by decide +kernel
theorem dX9_init_49 : decode cX9_init 49 = .ok (.putfield 27, 3) := by decide +kernel
theorem dX9_init_52 : decode cX9_init 52 = .ok (.aload_n 0, 1) := by decide +kernel
theorem dX9_init_53 : decode cX9_init 53 = .ok (.bipush 12, 2) := by decide +kernel
theorem dX9_init_55 : decode cX9_init 55 = .ok (.newarray .int, 2) := by decide +kernel
theorem dX9_init_57 : decode cX9_init 57 = .ok (.putfield 30, 3) := by decide +kernel
theorem dX9_init_60 : decode cX9_init 60 = .ok (.aload_n 0, 1) := by decide +kernel
theorem dX9_init_61 : decode cX9_init 61 = .ok (.bipush 12, 2) := by decide +kernel
theorem dX9_init_63 : decode cX9_init 63 = .ok (.newarray .int, 2) := by decide +kernel
theorem dX9_init_65 : decode cX9_init 65 = .ok (.putfield 33, 3) := by decide +kernel
theorem dX9_init_68 : decode cX9_init 68 = .ok (.return_, 1) := by decide +kernel
theorem lkI_X9_0 : Cond.methodLink RX9 3 objectInit ∈ wsX9_init := by decide +kernel
theorem lkI_X9_1 : Cond.instanceMethod objectInit ∈ wsX9_init := by decide +kernel
theorem lkI_X9_2 : Cond.code objectInit ⟨#[0xb1]⟩ 1 none ∈ wsX9_init := by decide +kernel
theorem lkI_X9_3 : Cond.arrayClass .int ∈ wsX9_init := by decide +kernel
theorem lkI_X9_4 : Cond.fieldLink RX9 9 RX9 (TX9 0).2.1 (TX9 0).2.2.1 ∈ wsX9_init := by decide +kernel
theorem lkI_X9_5 : Cond.fieldLink RX9 15 RX9 (TX9 1).2.1 (TX9 1).2.2.1 ∈ wsX9_init := by decide +kernel
theorem lkI_X9_6 : Cond.fieldLink RX9 18 RX9 (TX9 2).2.1 (TX9 2).2.2.1 ∈ wsX9_init := by decide +kernel
theorem lkI_X9_7 : Cond.fieldLink RX9 21 RX9 (TX9 3).2.1 (TX9 3).2.2.1 ∈ wsX9_init := by decide +kernel
theorem lkI_X9_8 : Cond.fieldLink RX9 24 RX9 (TX9 4).2.1 (TX9 4).2.2.1 ∈ wsX9_init := by decide +kernel
theorem lkI_X9_9 : Cond.fieldLink RX9 27 RX9 (TX9 5).2.1 (TX9 5).2.2.1 ∈ wsX9_init := by decide +kernel
theorem lkI_X9_10 : Cond.fieldLink RX9 30 RX9 (TX9 6).2.1 (TX9 6).2.2.1 ∈ wsX9_init := by decide +kernel
theorem lkI_X9_11 : Cond.fieldLink RX9 33 RX9 (TX9 7).2.1 (TX9 7).2.2.1 ∈ wsX9_init := by decide +kernel
theorem hiI_X9 : ∀ w ∈ u_ws RX9 TX9 9, w ∈ wsX9_init := by decide +kernel
set_option maxHeartbeats 4000000 in
set_option maxRecDepth 100000 in
theorem c_I_X9 (l : Launch) {D : va_G} {g : GT} {A : Nat → Prop} {w0 : va_W} {h0 : Nat} : Met l yX9_init wsX9_init ({ frames := 1, cells := 8, slots := 96, locals := 12 } : Room) (uPc D g A (w0 ++ [(h0, .inr (9, [.null, .null, .null, .null, .null, .null, .null, .null, iv 0]))]) [.ref h0]) (uQv D A (fun w1 => ∃ h : Nat → Nat, w1 = w0 ++ nwX9 g h0 h)) 8 96 A := by
  refine Met.ofW (cc := cX9_init) (maxL := 1) (ret := none) (by decide) rfl ?_
  intro p e s m args below meth c s₁ B hml hv
  obtain ⟨rfl, hP, hD, hG⟩ := hv
  have X : vC p s m _ meth c D g A RX9 wsX9_init cX9_init 1 := ⟨B.exec, B.bytes, findClass_of_methodNamed B.named, atoms_spec (ws := wsX9_init) B.pre, hG, hml, B.notSynchronized⟩
  have hr := B.returns
  have hn : meth.name = "<init>" := (name_of_methodNamed B.named B.method).1
  have hl := lv_entry ([.ref h0]) (n := 1) (Nat.le_of_ble_eq_true rfl)
  rw [lg_entry_eq]
  generalize (lg_sl ([.ref h0]) ++ List.replicate (1 - (lg_sl ([.ref h0])).length) Slot.unset).toArray = ls at hl ⊢
  have hl : lv_has ls 1 [(0, .ref h0)] := hl
  suffices hV : uV p l e ({ frames := 1, cells := 8, slots := 96, locals := 12 } : Room) s m [.ref h0].toArray below meth c D A 1 0 0 (MQ below (uQv D A (fun w1 => ∃ h : Nat → Nat, w1 = w0 ++ nwX9 g h0 h)) [.ref h0].toArray s 8 96 A) w0 [(h0, .inr (9, [.null, .null, .null, .null, .null, .null, .null, .null, iv 0]))] [(0, .ref h0)] 0 [] from hV s.heap [] ls hP hD va_S.rf hl
  refine U_super (own := RX9) (q := 0) X rfl lkI_X9_0 lkI_X9_1 lkI_X9_2 (Nat.le_of_ble_eq_true rfl) (Nat.le_of_ble_eq_true rfl) dX9_init_0 dX9_init_1 ?_
  refine U_aload_n X dX9_init_4 rfl (q := 0) rfl ?_
  refine U_bipush X dX9_init_5 rfl ?_
  refine U_newa (ty := .int) (t0 := 0) (N := 12) (a0 := (12, .inl (fun _ => Int32.ofInt 0))) X lkI_X9_3 rfl (fun _ h => nomatch h) rfl (fun _ => rfl) rfl (Nat.le_of_ble_eq_true rfl) (Nat.le_of_ble_eq_true rfl) ⟨Nat.le_of_ble_eq_true rfl, Nat.le_of_ble_eq_true rfl⟩ dX9_init_7 (fun q0 => ?_)
  refine U_putF (own := RX9) (j := 0) (C := RX9) (T := TX9) (N := 9) (ci := 9) X hn hiI_X9 tyX9 tyX9_ok nmX9 rfl 0 rfl (Nat.le_of_ble_eq_true rfl) lkI_X9_4 rfl (ty := tyX9 0) (tyX9_ok 0 (Nat.le_of_ble_eq_true rfl)) rfl rfl (Nat.le_of_ble_eq_true rfl) (tl1 := [(h0, .inr (9, [.ref q0, .null, .null, .null, .null, .null, .null, .null, iv 0])), (q0, .inl (g.1, 12, .inl (fun _ => Int32.ofInt 0)))]) rfl dX9_init_9 ?_
  refine U_aload_n X dX9_init_12 rfl (q := 0) rfl ?_
  refine U_bipush X dX9_init_13 rfl ?_
  refine U_newa (ty := .int) (t0 := 0) (N := 12) (a0 := (12, .inl (fun _ => Int32.ofInt 0))) X lkI_X9_3 rfl (fun _ h => nomatch h) rfl (fun _ => rfl) rfl (Nat.le_of_ble_eq_true rfl) (Nat.le_of_ble_eq_true rfl) ⟨Nat.le_of_ble_eq_true rfl, Nat.le_of_ble_eq_true rfl⟩ dX9_init_15 (fun q1 => ?_)
  refine U_putF (own := RX9) (j := 0) (C := RX9) (T := TX9) (N := 9) (ci := 9) X hn hiI_X9 tyX9 tyX9_ok nmX9 rfl 1 rfl (Nat.le_of_ble_eq_true rfl) lkI_X9_5 rfl (ty := tyX9 1) (tyX9_ok 1 (Nat.le_of_ble_eq_true rfl)) rfl rfl (Nat.le_of_ble_eq_true rfl) (tl1 := [(h0, .inr (9, [.ref q0, .ref q1, .null, .null, .null, .null, .null, .null, iv 0])), (q0, .inl (g.1, 12, .inl (fun _ => Int32.ofInt 0))), (q1, .inl (g.1, 12, .inl (fun _ => Int32.ofInt 0)))]) rfl dX9_init_17 ?_
  refine U_aload_n X dX9_init_20 rfl (q := 0) rfl ?_
  refine U_bipush X dX9_init_21 rfl ?_
  refine U_newa (ty := .int) (t0 := 0) (N := 12) (a0 := (12, .inl (fun _ => Int32.ofInt 0))) X lkI_X9_3 rfl (fun _ h => nomatch h) rfl (fun _ => rfl) rfl (Nat.le_of_ble_eq_true rfl) (Nat.le_of_ble_eq_true rfl) ⟨Nat.le_of_ble_eq_true rfl, Nat.le_of_ble_eq_true rfl⟩ dX9_init_23 (fun q2 => ?_)
  refine U_putF (own := RX9) (j := 0) (C := RX9) (T := TX9) (N := 9) (ci := 9) X hn hiI_X9 tyX9 tyX9_ok nmX9 rfl 2 rfl (Nat.le_of_ble_eq_true rfl) lkI_X9_6 rfl (ty := tyX9 2) (tyX9_ok 2 (Nat.le_of_ble_eq_true rfl)) rfl rfl (Nat.le_of_ble_eq_true rfl) (tl1 := [(h0, .inr (9, [.ref q0, .ref q1, .ref q2, .null, .null, .null, .null, .null, iv 0])), (q0, .inl (g.1, 12, .inl (fun _ => Int32.ofInt 0))), (q1, .inl (g.1, 12, .inl (fun _ => Int32.ofInt 0))), (q2, .inl (g.1, 12, .inl (fun _ => Int32.ofInt 0)))]) rfl dX9_init_25 ?_
  refine U_aload_n X dX9_init_28 rfl (q := 0) rfl ?_
  refine U_bipush X dX9_init_29 rfl ?_
  refine U_newa (ty := .int) (t0 := 0) (N := 12) (a0 := (12, .inl (fun _ => Int32.ofInt 0))) X lkI_X9_3 rfl (fun _ h => nomatch h) rfl (fun _ => rfl) rfl (Nat.le_of_ble_eq_true rfl) (Nat.le_of_ble_eq_true rfl) ⟨Nat.le_of_ble_eq_true rfl, Nat.le_of_ble_eq_true rfl⟩ dX9_init_31 (fun q3 => ?_)
  refine U_putF (own := RX9) (j := 0) (C := RX9) (T := TX9) (N := 9) (ci := 9) X hn hiI_X9 tyX9 tyX9_ok nmX9 rfl 3 rfl (Nat.le_of_ble_eq_true rfl) lkI_X9_7 rfl (ty := tyX9 3) (tyX9_ok 3 (Nat.le_of_ble_eq_true rfl)) rfl rfl (Nat.le_of_ble_eq_true rfl) (tl1 := [(h0, .inr (9, [.ref q0, .ref q1, .ref q2, .ref q3, .null, .null, .null, .null, iv 0])), (q0, .inl (g.1, 12, .inl (fun _ => Int32.ofInt 0))), (q1, .inl (g.1, 12, .inl (fun _ => Int32.ofInt 0))), (q2, .inl (g.1, 12, .inl (fun _ => Int32.ofInt 0))), (q3, .inl (g.1, 12, .inl (fun _ => Int32.ofInt 0)))]) rfl dX9_init_33 ?_
  refine U_aload_n X dX9_init_36 rfl (q := 0) rfl ?_
  refine U_bipush X dX9_init_37 rfl ?_
  refine U_newa (ty := .int) (t0 := 0) (N := 12) (a0 := (12, .inl (fun _ => Int32.ofInt 0))) X lkI_X9_3 rfl (fun _ h => nomatch h) rfl (fun _ => rfl) rfl (Nat.le_of_ble_eq_true rfl) (Nat.le_of_ble_eq_true rfl) ⟨Nat.le_of_ble_eq_true rfl, Nat.le_of_ble_eq_true rfl⟩ dX9_init_39 (fun q4 => ?_)
  refine U_putF (own := RX9) (j := 0) (C := RX9) (T := TX9) (N := 9) (ci := 9) X hn hiI_X9 tyX9 tyX9_ok nmX9 rfl 4 rfl (Nat.le_of_ble_eq_true rfl) lkI_X9_8 rfl (ty := tyX9 4) (tyX9_ok 4 (Nat.le_of_ble_eq_true rfl)) rfl rfl (Nat.le_of_ble_eq_true rfl) (tl1 := [(h0, .inr (9, [.ref q0, .ref q1, .ref q2, .ref q3, .ref q4, .null, .null, .null, iv 0])), (q0, .inl (g.1, 12, .inl (fun _ => Int32.ofInt 0))), (q1, .inl (g.1, 12, .inl (fun _ => Int32.ofInt 0))), (q2, .inl (g.1, 12, .inl (fun _ => Int32.ofInt 0))), (q3, .inl (g.1, 12, .inl (fun _ => Int32.ofInt 0))), (q4, .inl (g.1, 12, .inl (fun _ => Int32.ofInt 0)))]) rfl dX9_init_41 ?_
  refine U_aload_n X dX9_init_44 rfl (q := 0) rfl ?_
  refine U_bipush X dX9_init_45 rfl ?_
  refine U_newa (ty := .int) (t0 := 0) (N := 12) (a0 := (12, .inl (fun _ => Int32.ofInt 0))) X lkI_X9_3 rfl (fun _ h => nomatch h) rfl (fun _ => rfl) rfl (Nat.le_of_ble_eq_true rfl) (Nat.le_of_ble_eq_true rfl) ⟨Nat.le_of_ble_eq_true rfl, Nat.le_of_ble_eq_true rfl⟩ dX9_init_47 (fun q5 => ?_)
  refine U_putF (own := RX9) (j := 0) (C := RX9) (T := TX9) (N := 9) (ci := 9) X hn hiI_X9 tyX9 tyX9_ok nmX9 rfl 5 rfl (Nat.le_of_ble_eq_true rfl) lkI_X9_9 rfl (ty := tyX9 5) (tyX9_ok 5 (Nat.le_of_ble_eq_true rfl)) rfl rfl (Nat.le_of_ble_eq_true rfl) (tl1 := [(h0, .inr (9, [.ref q0, .ref q1, .ref q2, .ref q3, .ref q4, .ref q5, .null, .null, iv 0])), (q0, .inl (g.1, 12, .inl (fun _ => Int32.ofInt 0))), (q1, .inl (g.1, 12, .inl (fun _ => Int32.ofInt 0))), (q2, .inl (g.1, 12, .inl (fun _ => Int32.ofInt 0))), (q3, .inl (g.1, 12, .inl (fun _ => Int32.ofInt 0))), (q4, .inl (g.1, 12, .inl (fun _ => Int32.ofInt 0))), (q5, .inl (g.1, 12, .inl (fun _ => Int32.ofInt 0)))]) rfl dX9_init_49 ?_
  refine U_aload_n X dX9_init_52 rfl (q := 0) rfl ?_
  refine U_bipush X dX9_init_53 rfl ?_
  refine U_newa (ty := .int) (t0 := 0) (N := 12) (a0 := (12, .inl (fun _ => Int32.ofInt 0))) X lkI_X9_3 rfl (fun _ h => nomatch h) rfl (fun _ => rfl) rfl (Nat.le_of_ble_eq_true rfl) (Nat.le_of_ble_eq_true rfl) ⟨Nat.le_of_ble_eq_true rfl, Nat.le_of_ble_eq_true rfl⟩ dX9_init_55 (fun q6 => ?_)
  refine U_putF (own := RX9) (j := 0) (C := RX9) (T := TX9) (N := 9) (ci := 9) X hn hiI_X9 tyX9 tyX9_ok nmX9 rfl 6 rfl (Nat.le_of_ble_eq_true rfl) lkI_X9_10 rfl (ty := tyX9 6) (tyX9_ok 6 (Nat.le_of_ble_eq_true rfl)) rfl rfl (Nat.le_of_ble_eq_true rfl) (tl1 := [(h0, .inr (9, [.ref q0, .ref q1, .ref q2, .ref q3, .ref q4, .ref q5, .ref q6, .null, iv 0])), (q0, .inl (g.1, 12, .inl (fun _ => Int32.ofInt 0))), (q1, .inl (g.1, 12, .inl (fun _ => Int32.ofInt 0))), (q2, .inl (g.1, 12, .inl (fun _ => Int32.ofInt 0))), (q3, .inl (g.1, 12, .inl (fun _ => Int32.ofInt 0))), (q4, .inl (g.1, 12, .inl (fun _ => Int32.ofInt 0))), (q5, .inl (g.1, 12, .inl (fun _ => Int32.ofInt 0))), (q6, .inl (g.1, 12, .inl (fun _ => Int32.ofInt 0)))]) rfl dX9_init_57 ?_
  refine U_aload_n X dX9_init_60 rfl (q := 0) rfl ?_
  refine U_bipush X dX9_init_61 rfl ?_
  refine U_newa (ty := .int) (t0 := 0) (N := 12) (a0 := (12, .inl (fun _ => Int32.ofInt 0))) X lkI_X9_3 rfl (fun _ h => nomatch h) rfl (fun _ => rfl) rfl (Nat.le_of_ble_eq_true rfl) (Nat.le_of_ble_eq_true rfl) ⟨Nat.le_of_ble_eq_true rfl, Nat.le_of_ble_eq_true rfl⟩ dX9_init_63 (fun q7 => ?_)
  refine U_putF (own := RX9) (j := 0) (C := RX9) (T := TX9) (N := 9) (ci := 9) X hn hiI_X9 tyX9 tyX9_ok nmX9 rfl 7 rfl (Nat.le_of_ble_eq_true rfl) lkI_X9_11 rfl (ty := tyX9 7) (tyX9_ok 7 (Nat.le_of_ble_eq_true rfl)) rfl rfl (Nat.le_of_ble_eq_true rfl) (tl1 := [(h0, .inr (9, [.ref q0, .ref q1, .ref q2, .ref q3, .ref q4, .ref q5, .ref q6, .ref q7, iv 0])), (q0, .inl (g.1, 12, .inl (fun _ => Int32.ofInt 0))), (q1, .inl (g.1, 12, .inl (fun _ => Int32.ofInt 0))), (q2, .inl (g.1, 12, .inl (fun _ => Int32.ofInt 0))), (q3, .inl (g.1, 12, .inl (fun _ => Int32.ofInt 0))), (q4, .inl (g.1, 12, .inl (fun _ => Int32.ofInt 0))), (q5, .inl (g.1, 12, .inl (fun _ => Int32.ofInt 0))), (q6, .inl (g.1, 12, .inl (fun _ => Int32.ofInt 0))), (q7, .inl (g.1, 12, .inl (fun _ => Int32.ofInt 0)))]) rfl dX9_init_65 ?_
  exact U_vret X hr ⟨fun j => [q0, q1, q2, q3, q4, q5, q6, q7].getD j 0, rfl⟩ dX9_init_68
def nwX6 (g : GT) (h0 : Nat) (h : Nat → Nat) : va_W := [(h0, .inr (6, [.ref (h 0), .ref (h 1), .ref (h 2), .ref (h 3), .ref (h 4), iv 0])), ((h 0), .inl (g.1, 12, .inl (fun _ => Int32.ofInt 0))), ((h 1), .inl (g.1, 12, .inl (fun _ => Int32.ofInt 0))), ((h 2), .inl (g.2.1, 12, .inl (fun _ => Int32.ofInt 0))), ((h 3), .inl (g.1, 12, .inl (fun _ => Int32.ofInt 0))), ((h 4), .inl (g.1, 13, .inl (fun _ => Int32.ofInt 0)))]
theorem dX6_init_0 : decode cX6_init 0 = .ok (.aload_n 0, 1) := by decide +kernel
theorem dX6_init_1 : decode cX6_init 1 = .ok (.invokespecial 3, 3) := by decide +kernel
theorem dX6_init_4 : decode cX6_init 4 = .ok (.aload_n 0, 1) := by decide +kernel
theorem dX6_init_5 : decode cX6_init 5 = .ok (.bipush 12, 2) := by decide +kernel
theorem dX6_init_7 : decode cX6_init 7 = .ok (.newarray .int, 2) := by decide +kernel
theorem dX6_init_9 : decode cX6_init 9 = .ok (.putfield 9, 3) := by decide +kernel
theorem dX6_init_12 : decode cX6_init 12 = .ok (.aload_n 0, 1) := by decide +kernel
theorem dX6_init_13 : decode cX6_init 13 = .ok (.bipush 12, 2) := by decide +kernel
theorem dX6_init_15 : decode cX6_init 15 = .ok (.newarray .int, 2) := by decide +kernel
theorem dX6_init_17 : decode cX6_init 17 = .ok (.putfield 15, 3) := by decide +kernel
theorem dX6_init_20 : decode cX6_init 20 = .ok (.aload_n 0, 1) := by decide +kernel
theorem dX6_init_21 : decode cX6_init 21 = .ok (.bipush 12, 2) := by decide +kernel
theorem dX6_init_23 : decode cX6_init 23 = .ok (.newarray .boolean, 2) := by decide +kernel
theorem dX6_init_25 : decode cX6_init 25 = .ok (.putfield 18, 3) := by decide +kernel
theorem dX6_init_28 : decode cX6_init 28 = .ok (.aload_n 0, 1) := by decide +kernel
theorem dX6_init_29 : decode cX6_init 29 = .ok (.bipush 12, 2) := by decide +kernel
theorem dX6_init_31 : decode cX6_init 31 = .ok (.newarray .int, 2) := by decide +kernel
theorem dX6_init_33 : decode cX6_init 33 = .ok (.putfield 22, 3) := by decide +kernel
theorem dX6_init_36 : decode cX6_init 36 = .ok (.aload_n 0, 1) := by decide +kernel
theorem dX6_init_37 : decode cX6_init 37 = .ok (.bipush 13, 2) := by decide +kernel
theorem dX6_init_39 : decode cX6_init 39 = .ok (.newarray .int, 2) := by decide +kernel
theorem dX6_init_41 : decode cX6_init 41 = .ok (.putfield 25, 3) := by decide +kernel
theorem dX6_init_44 : decode cX6_init 44 = .ok (.return_, 1) := by decide +kernel
theorem lkI_X6_0 : Cond.methodLink RX6 3 objectInit ∈ wsX6_init := by decide +kernel
theorem lkI_X6_1 : Cond.instanceMethod objectInit ∈ wsX6_init := by decide +kernel
theorem lkI_X6_2 : Cond.code objectInit ⟨#[0xb1]⟩ 1 none ∈ wsX6_init := by decide +kernel
theorem lkI_X6_3 : Cond.arrayClass .int ∈ wsX6_init := by decide +kernel
theorem lkI_X6_4 : Cond.fieldLink RX6 9 RX6 (TX6 0).2.1 (TX6 0).2.2.1 ∈ wsX6_init := by decide +kernel
theorem lkI_X6_5 : Cond.fieldLink RX6 15 RX6 (TX6 1).2.1 (TX6 1).2.2.1 ∈ wsX6_init := by decide +kernel
theorem lkI_X6_6 : Cond.arrayClass .boolean ∈ wsX6_init := by decide +kernel
theorem lkI_X6_7 : Cond.fieldLink RX6 18 RX6 (TX6 2).2.1 (TX6 2).2.2.1 ∈ wsX6_init := by decide +kernel
theorem lkI_X6_8 : Cond.fieldLink RX6 22 RX6 (TX6 3).2.1 (TX6 3).2.2.1 ∈ wsX6_init := by decide +kernel
theorem lkI_X6_9 : Cond.fieldLink RX6 25 RX6 (TX6 4).2.1 (TX6 4).2.2.1 ∈ wsX6_init := by decide +kernel
theorem hiI_X6 : ∀ w ∈ u_ws RX6 TX6 6, w ∈ wsX6_init := by decide +kernel
set_option maxHeartbeats 4000000 in
set_option maxRecDepth 100000 in
theorem c_I_X6 (l : Launch) {D : va_G} {g : GT} {A : Nat → Prop} {w0 : va_W} {h0 : Nat} : Met l yX6_init wsX6_init ({ frames := 1, cells := 5, slots := 61, locals := 12 } : Room) (uPc D g A (w0 ++ [(h0, .inr (6, [.null, .null, .null, .null, .null, iv 0]))]) [.ref h0]) (uQv D A (fun w1 => ∃ h : Nat → Nat, w1 = w0 ++ nwX6 g h0 h)) 5 61 A := by
  refine Met.ofW (cc := cX6_init) (maxL := 1) (ret := none) (by decide) rfl ?_
  intro p e s m args below meth c s₁ B hml hv
  obtain ⟨rfl, hP, hD, hG⟩ := hv
  have X : vC p s m _ meth c D g A RX6 wsX6_init cX6_init 1 := ⟨B.exec, B.bytes, findClass_of_methodNamed B.named, atoms_spec (ws := wsX6_init) B.pre, hG, hml, B.notSynchronized⟩
  have hr := B.returns
  have hn : meth.name = "<init>" := (name_of_methodNamed B.named B.method).1
  have hl := lv_entry ([.ref h0]) (n := 1) (Nat.le_of_ble_eq_true rfl)
  rw [lg_entry_eq]
  generalize (lg_sl ([.ref h0]) ++ List.replicate (1 - (lg_sl ([.ref h0])).length) Slot.unset).toArray = ls at hl ⊢
  have hl : lv_has ls 1 [(0, .ref h0)] := hl
  suffices hV : uV p l e ({ frames := 1, cells := 5, slots := 61, locals := 12 } : Room) s m [.ref h0].toArray below meth c D A 1 0 0 (MQ below (uQv D A (fun w1 => ∃ h : Nat → Nat, w1 = w0 ++ nwX6 g h0 h)) [.ref h0].toArray s 5 61 A) w0 [(h0, .inr (6, [.null, .null, .null, .null, .null, iv 0]))] [(0, .ref h0)] 0 [] from hV s.heap [] ls hP hD va_S.rf hl
  refine U_super (own := RX6) (q := 0) X rfl lkI_X6_0 lkI_X6_1 lkI_X6_2 (Nat.le_of_ble_eq_true rfl) (Nat.le_of_ble_eq_true rfl) dX6_init_0 dX6_init_1 ?_
  refine U_aload_n X dX6_init_4 rfl (q := 0) rfl ?_
  refine U_bipush X dX6_init_5 rfl ?_
  refine U_newa (ty := .int) (t0 := 0) (N := 12) (a0 := (12, .inl (fun _ => Int32.ofInt 0))) X lkI_X6_3 rfl (fun _ h => nomatch h) rfl (fun _ => rfl) rfl (Nat.le_of_ble_eq_true rfl) (Nat.le_of_ble_eq_true rfl) ⟨Nat.le_of_ble_eq_true rfl, Nat.le_of_ble_eq_true rfl⟩ dX6_init_7 (fun q0 => ?_)
  refine U_putF (own := RX6) (j := 0) (C := RX6) (T := TX6) (N := 6) (ci := 6) X hn hiI_X6 tyX6 tyX6_ok nmX6 rfl 0 rfl (Nat.le_of_ble_eq_true rfl) lkI_X6_4 rfl (ty := tyX6 0) (tyX6_ok 0 (Nat.le_of_ble_eq_true rfl)) rfl rfl (Nat.le_of_ble_eq_true rfl) (tl1 := [(h0, .inr (6, [.ref q0, .null, .null, .null, .null, iv 0])), (q0, .inl (g.1, 12, .inl (fun _ => Int32.ofInt 0)))]) rfl dX6_init_9 ?_
  refine U_aload_n X dX6_init_12 rfl (q := 0) rfl ?_
  refine U_bipush X dX6_init_13 rfl ?_
  refine U_newa (ty := .int) (t0 := 0) (N := 12) (a0 := (12, .inl (fun _ => Int32.ofInt 0))) X lkI_X6_3 rfl (fun _ h => nomatch h) rfl (fun _ => rfl) rfl (Nat.le_of_ble_eq_true rfl) (Nat.le_of_ble_eq_true rfl) ⟨Nat.le_of_ble_eq_true rfl, Nat.le_of_ble_eq_true rfl⟩ dX6_init_15 (fun q1 => ?_)
  refine U_putF (own := RX6) (j := 0) (C := RX6) (T := TX6) (N := 6) (ci := 6) X hn hiI_X6 tyX6 tyX6_ok nmX6 rfl 1 rfl (Nat.le_of_ble_eq_true rfl) lkI_X6_5 rfl (ty := tyX6 1) (tyX6_ok 1 (Nat.le_of_ble_eq_true rfl)) rfl rfl (Nat.le_of_ble_eq_true rfl) (tl1 := [(h0, .inr (6, [.ref q0, .ref q1, .null, .null, .null, iv 0])), (q0, .inl (g.1, 12, .inl (fun _ => Int32.ofInt 0))), (q1, .inl (g.1, 12, .inl (fun _ => Int32.ofInt 0)))]) rfl dX6_init_17 ?_
  refine U_aload_n X dX6_init_20 rfl (q := 0) rfl ?_
  refine U_bipush X dX6_init_21 rfl ?_
  refine U_newa (ty := .boolean) (t0 := 1) (N := 12) (a0 := (12, .inl (fun _ => Int32.ofInt 0))) X lkI_X6_6 rfl (fun _ h => nomatch h) rfl (fun _ => rfl) rfl (Nat.le_of_ble_eq_true rfl) (Nat.le_of_ble_eq_true rfl) ⟨Nat.le_of_ble_eq_true rfl, Nat.le_of_ble_eq_true rfl⟩ dX6_init_23 (fun q2 => ?_)
  refine U_putF (own := RX6) (j := 0) (C := RX6) (T := TX6) (N := 6) (ci := 6) X hn hiI_X6 tyX6 tyX6_ok nmX6 rfl 2 rfl (Nat.le_of_ble_eq_true rfl) lkI_X6_7 rfl (ty := tyX6 2) (tyX6_ok 2 (Nat.le_of_ble_eq_true rfl)) rfl rfl (Nat.le_of_ble_eq_true rfl) (tl1 := [(h0, .inr (6, [.ref q0, .ref q1, .ref q2, .null, .null, iv 0])), (q0, .inl (g.1, 12, .inl (fun _ => Int32.ofInt 0))), (q1, .inl (g.1, 12, .inl (fun _ => Int32.ofInt 0))), (q2, .inl (g.2.1, 12, .inl (fun _ => Int32.ofInt 0)))]) rfl dX6_init_25 ?_
  refine U_aload_n X dX6_init_28 rfl (q := 0) rfl ?_
  refine U_bipush X dX6_init_29 rfl ?_
  refine U_newa (ty := .int) (t0 := 0) (N := 12) (a0 := (12, .inl (fun _ => Int32.ofInt 0))) X lkI_X6_3 rfl (fun _ h => nomatch h) rfl (fun _ => rfl) rfl (Nat.le_of_ble_eq_true rfl) (Nat.le_of_ble_eq_true rfl) ⟨Nat.le_of_ble_eq_true rfl, Nat.le_of_ble_eq_true rfl⟩ dX6_init_31 (fun q3 => ?_)
  refine U_putF (own := RX6) (j := 0) (C := RX6) (T := TX6) (N := 6) (ci := 6) X hn hiI_X6 tyX6 tyX6_ok nmX6 rfl 3 rfl (Nat.le_of_ble_eq_true rfl) lkI_X6_8 rfl (ty := tyX6 3) (tyX6_ok 3 (Nat.le_of_ble_eq_true rfl)) rfl rfl (Nat.le_of_ble_eq_true rfl) (tl1 := [(h0, .inr (6, [.ref q0, .ref q1, .ref q2, .ref q3, .null, iv 0])), (q0, .inl (g.1, 12, .inl (fun _ => Int32.ofInt 0))), (q1, .inl (g.1, 12, .inl (fun _ => Int32.ofInt 0))), (q2, .inl (g.2.1, 12, .inl (fun _ => Int32.ofInt 0))), (q3, .inl (g.1, 12, .inl (fun _ => Int32.ofInt 0)))]) rfl dX6_init_33 ?_
  refine U_aload_n X dX6_init_36 rfl (q := 0) rfl ?_
  refine U_bipush X dX6_init_37 rfl ?_
  refine U_newa (ty := .int) (t0 := 0) (N := 13) (a0 := (13, .inl (fun _ => Int32.ofInt 0))) X lkI_X6_3 rfl (fun _ h => nomatch h) rfl (fun _ => rfl) rfl (Nat.le_of_ble_eq_true rfl) (Nat.le_of_ble_eq_true rfl) ⟨Nat.le_of_ble_eq_true rfl, Nat.le_of_ble_eq_true rfl⟩ dX6_init_39 (fun q4 => ?_)
  refine U_putF (own := RX6) (j := 0) (C := RX6) (T := TX6) (N := 6) (ci := 6) X hn hiI_X6 tyX6 tyX6_ok nmX6 rfl 4 rfl (Nat.le_of_ble_eq_true rfl) lkI_X6_9 rfl (ty := tyX6 4) (tyX6_ok 4 (Nat.le_of_ble_eq_true rfl)) rfl rfl (Nat.le_of_ble_eq_true rfl) (tl1 := [(h0, .inr (6, [.ref q0, .ref q1, .ref q2, .ref q3, .ref q4, iv 0])), (q0, .inl (g.1, 12, .inl (fun _ => Int32.ofInt 0))), (q1, .inl (g.1, 12, .inl (fun _ => Int32.ofInt 0))), (q2, .inl (g.2.1, 12, .inl (fun _ => Int32.ofInt 0))), (q3, .inl (g.1, 12, .inl (fun _ => Int32.ofInt 0))), (q4, .inl (g.1, 13, .inl (fun _ => Int32.ofInt 0)))]) rfl dX6_init_41 ?_
  exact U_vret X hr ⟨fun j => [q0, q1, q2, q3, q4].getD j 0, rfl⟩ dX6_init_44
def nwX1 (g : GT) (h0 : Nat) (h : Nat → Nat) : va_W := [(h0, .inr (1, [.ref (h 0), .ref (h 1), .ref (h 2), iv 1, .ref (h 3), .ref (h 12)])), ((h 0), .inl (g.1, 4, .inl (fF 4 1))), ((h 1), .inl (g.1, 4, .inl (fF 4 1))), ((h 2), .inl (g.1, 4, .inl (fF 4 1))), ((h 3), .inr (9, [.ref (h 4), .ref (h 5), .ref (h 6), .ref (h 7), .ref (h 8), .ref (h 9), .ref (h 10), .ref (h 11), iv 0])), ((h 4), .inl (g.1, 12, .inl (fun _ => Int32.ofInt 0))), ((h 5), .inl (g.1, 12, .inl (fun _ => Int32.ofInt 0))), ((h 6), .inl (g.1, 12, .inl (fun _ => Int32.ofInt 0))), ((h 7), .inl (g.1, 12, .inl (fun _ => Int32.ofInt 0))), ((h 8), .inl (g.1, 12, .inl (fun _ => Int32.ofInt 0))), ((h 9), .inl (g.1, 12, .inl (fun _ => Int32.ofInt 0))), ((h 10), .inl (g.1, 12, .inl (fun _ => Int32.ofInt 0))), ((h 11), .inl (g.1, 12, .inl (fun _ => Int32.ofInt 0))), ((h 12), .inr (9, [.ref (h 13), .ref (h 14), .ref (h 15), .ref (h 16), .ref (h 17), .ref (h 18), .ref (h 19), .ref (h 20), iv 0])), ((h 13), .inl (g.1, 12, .inl (fun _ => Int32.ofInt 0))), ((h 14), .inl (g.1, 12, .inl (fun _ => Int32.ofInt 0))), ((h 15), .inl (g.1, 12, .inl (fun _ => Int32.ofInt 0))), ((h 16), .inl (g.1, 12, .inl (fun _ => Int32.ofInt 0))), ((h 17), .inl (g.1, 12, .inl (fun _ => Int32.ofInt 0))), ((h 18), .inl (g.1, 12, .inl (fun _ => Int32.ofInt 0))), ((h 19), .inl (g.1, 12, .inl (fun _ => Int32.ofInt 0))), ((h 20), .inl (g.1, 12, .inl (fun _ => Int32.ofInt 0)))]
set_option maxRecDepth 20000 in
theorem ggX1_init_J7_fill_53178 : GoodIn wsX1_init wsJ7_fill_53178 := goodIn_r _ [17] (by decide +kernel) (by decide +kernel)
set_option maxRecDepth 20000 in
theorem gX1_init_J7_fill_53178 : GoodIn wsX1_init (va_wsS RX1 21 yJ7_fill_53178 wsJ7_fill_53178) := goodIn_app (goodIn_of _ (by decide +kernel)) ggX1_init_J7_fill_53178
set_option maxRecDepth 20000 in
theorem ggX1_init_X9_init : GoodIn wsX1_init wsX9_init := goodIn_r _ [19, 20, 2, 3, 4, 21, 22, 23, 24, 25, 26, 27, 28, 35, 36, 37, 38, 39, 40, 41, 42, 43] (by decide +kernel) (by decide +kernel)
set_option maxRecDepth 20000 in
theorem gX1_init_X9_init_n33 : GoodIn wsX1_init (wsX9_init) := ggX1_init_X9_init
theorem dX1_init_0 : decode cX1_init 0 = .ok (.aload_n 0, 1) := by decide +kernel
theorem dX1_init_1 : decode cX1_init 1 = .ok (.invokespecial 3, 3) := by decide +kernel
theorem dX1_init_4 : decode cX1_init 4 = .ok (.aload_n 0, 1) := by decide +kernel
theorem dX1_init_5 : decode cX1_init 5 = .ok (.iconst 4, 1) := by decide +kernel
theorem dX1_init_6 : decode cX1_init 6 = .ok (.newarray .int, 2) := by decide +kernel
theorem dX1_init_8 : decode cX1_init 8 = .ok (.putfield 9, 3) := by decide +kernel
theorem dX1_init_11 : decode cX1_init 11 = .ok (.aload_n 0, 1) := by decide +kernel
theorem dX1_init_12 : decode cX1_init 12 = .ok (.iconst 4, 1) := by decide +kernel
theorem dX1_init_13 : decode cX1_init 13 = .ok (.newarray .int, 2) := by decide +kernel
theorem dX1_init_15 : decode cX1_init 15 = .ok (.putfield 15, 3) := by decide +kernel
theorem dX1_init_18 : decode cX1_init 18 = .ok (.aload_n 0, 1) := by decide +kernel
theorem dX1_init_19 : decode cX1_init 19 = .ok (.iconst 4, 1) := by decide +kernel
theorem dX1_init_20 : decode cX1_init 20 = .ok (.newarray .int, 2) := by decide +kernel
theorem dX1_init_22 : decode cX1_init 22 = .ok (.putfield 18, 3) := by decide +kernel
theorem dX1_init_25 : decode cX1_init 25 = .ok (.aload_n 0, 1) := by decide +kernel
theorem dX1_init_26 : decode cX1_init 26 = .ok (.getfield 9, 3) := by decide +kernel
theorem dX1_init_29 : decode cX1_init 29 = .ok (.iconst 1, 1) := by decide +kernel
theorem dX1_init_30 : decode cX1_init 30 = .ok (.invokestatic 21, 3) := by decide +kernel
theorem dX1_init_33 : decode cX1_init 33 = .ok (.aload_n 0, 1) := by decide +kernel
theorem dX1_init_34 : decode cX1_init 34 = .ok (.getfield 15, 3) := by decide +kernel
theorem dX1_init_37 : decode cX1_init 37 = .ok (.iconst 1, 1) := by decide +kernel
theorem dX1_init_38 : decode cX1_init 38 = .ok (.invokestatic 21, 3) := by decide +kernel
theorem dX1_init_41 : decode cX1_init 41 = .ok (.aload_n 0, 1) := by decide +kernel
theorem dX1_init_42 : decode cX1_init 42 = .ok (.getfield 18, 3) := by decide +kernel
theorem dX1_init_45 : decode cX1_init 45 = .ok (.iconst 1, 1) := by decide +kernel
theorem dX1_init_46 : decode cX1_init 46 = .ok (.invokestatic 21, 3) := by decide +kernel
theorem dX1_init_49 : decode cX1_init 49 = .ok (.aload_n 0, 1) := by decide +kernel
theorem dX1_init_50 : decode cX1_init 50 = .ok (.iconst 1, 1) := by decide +kernel
theorem dX1_init_51 : decode cX1_init 51 = .ok (.putfield 27, 3) := by decide +kernel
theorem dX1_init_54 : decode cX1_init 54 = .ok (.aload_n 0, 1) := by decide +kernel
theorem dX1_init_55 : decode cX1_init 55 = .ok (.new 31, 3) := by decide +kernel
theorem dX1_init_58 : decode cX1_init 58 = .ok (.dup, 1) := by decide +kernel
theorem dX1_init_59 : decode cX1_init 59 = .ok (.invokespecial 33, 3) := by decide +kernel
theorem dX1_init_62 : decode cX1_init 62 = .ok (.putfield 34, 3) := by decide +kernel
theorem dX1_init_65 : decode cX1_init 65 = .ok (.aload_n 0, 1) := by decide +kernel
theorem dX1_init_66 : decode cX1_init 66 = .ok (.new 31, 3) := by decide +kernel
theorem dX1_init_69 : decode cX1_init 69 = .ok (.dup, 1) := by decide +kernel
theorem dX1_init_70 : decode cX1_init 70 = .ok (.invokespecial 33, 3) := by decide +kernel
theorem dX1_init_73 : decode cX1_init 73 = .ok (.putfield 38, 3) := by decide +kernel
theorem dX1_init_76 : decode cX1_init 76 = .ok (.return_, 1) := by decide +kernel
theorem lkI_X1_0 : Cond.methodLink RX1 3 objectInit ∈ wsX1_init := by decide +kernel
theorem lkI_X1_1 : Cond.instanceMethod objectInit ∈ wsX1_init := by decide +kernel
theorem lkI_X1_2 : Cond.code objectInit ⟨#[0xb1]⟩ 1 none ∈ wsX1_init := by decide +kernel
theorem lkI_X1_3 : Cond.arrayClass .int ∈ wsX1_init := by decide +kernel
theorem lkI_X1_4 : Cond.fieldLink RX1 9 RX1 (TX1 0).2.1 (TX1 0).2.2.1 ∈ wsX1_init := by decide +kernel
theorem lkI_X1_5 : Cond.fieldLink RX1 15 RX1 (TX1 1).2.1 (TX1 1).2.2.1 ∈ wsX1_init := by decide +kernel
theorem lkI_X1_6 : Cond.fieldLink RX1 18 RX1 (TX1 2).2.1 (TX1 2).2.2.1 ∈ wsX1_init := by decide +kernel
theorem lkI_X1_7 : Cond.fieldLink RX1 27 RX1 (TX1 3).2.1 (TX1 3).2.2.1 ∈ wsX1_init := by decide +kernel
theorem lkI_X1_8 : Cond.classLink RX1 31 RX9 ∈ wsX1_init := by decide +kernel
theorem lkI_X1_9 : Cond.instantiable RX9 9 ∈ wsX1_init := by decide +kernel
theorem lkI_X1_10 : Cond.initialized RX9 ∈ wsX1_init := by decide +kernel
theorem lkI_X1_11 : Cond.instanceMethod yX9_init ∈ wsX1_init := by decide +kernel
theorem lkI_X1_12 : Cond.fieldLink RX1 34 RX1 (TX1 4).2.1 (TX1 4).2.2.1 ∈ wsX1_init := by decide +kernel
theorem lkI_X1_13 : Cond.fieldLink RX1 38 RX1 (TX1 5).2.1 (TX1 5).2.2.1 ∈ wsX1_init := by decide +kernel
theorem hiI_X1 : ∀ w ∈ u_ws RX1 TX1 6, w ∈ wsX1_init := by decide +kernel
theorem hiI_X1_9 : ∀ w ∈ u_ws RX9 TX9 9, w ∈ wsX1_init := by decide +kernel
set_option maxHeartbeats 4000000 in
set_option maxRecDepth 100000 in
theorem c_I_X1 (l : Launch) {D : va_G} {g : GT} {A : Nat → Prop} {w0 : va_W} {h0 : Nat} : Met l yX1_init wsX1_init ({ frames := 2, cells := 21, slots := 222, locals := 32 } : Room) (uPc D g A (w0 ++ [(h0, .inr (1, [.null, .null, .null, iv 0, .null, .null]))]) [.ref h0]) (uQv D A (fun w1 => ∃ h : Nat → Nat, w1 = w0 ++ nwX1 g h0 h)) 21 222 A := by
  refine Met.ofW (cc := cX1_init) (maxL := 1) (ret := none) (by decide) rfl ?_
  intro p e s m args below meth c s₁ B hml hv
  obtain ⟨rfl, hP, hD, hG⟩ := hv
  have X : vC p s m _ meth c D g A RX1 wsX1_init cX1_init 1 := ⟨B.exec, B.bytes, findClass_of_methodNamed B.named, atoms_spec (ws := wsX1_init) B.pre, hG, hml, B.notSynchronized⟩
  have hr := B.returns
  have hn : meth.name = "<init>" := (name_of_methodNamed B.named B.method).1
  have hl := lv_entry ([.ref h0]) (n := 1) (Nat.le_of_ble_eq_true rfl)
  rw [lg_entry_eq]
  generalize (lg_sl ([.ref h0]) ++ List.replicate (1 - (lg_sl ([.ref h0])).length) Slot.unset).toArray = ls at hl ⊢
  have hl : lv_has ls 1 [(0, .ref h0)] := hl
  suffices hV : uV p l e ({ frames := 2, cells := 21, slots := 222, locals := 32 } : Room) s m [.ref h0].toArray below meth c D A 1 0 0 (MQ below (uQv D A (fun w1 => ∃ h : Nat → Nat, w1 = w0 ++ nwX1 g h0 h)) [.ref h0].toArray s 21 222 A) w0 [(h0, .inr (1, [.null, .null, .null, iv 0, .null, .null]))] [(0, .ref h0)] 0 [] from hV s.heap [] ls hP hD va_S.rf hl
  refine U_super (own := RX1) (q := 0) X rfl lkI_X1_0 lkI_X1_1 lkI_X1_2 (Nat.le_of_ble_eq_true rfl) (Nat.le_of_ble_eq_true rfl) dX1_init_0 dX1_init_1 ?_
  refine U_aload_n X dX1_init_4 rfl (q := 0) rfl ?_
  refine U_iconst X dX1_init_5 ?_
  refine U_newa (ty := .int) (t0 := 0) (N := 4) (a0 := (4, .inl (fun _ => Int32.ofInt 0))) X lkI_X1_3 rfl (fun _ h => nomatch h) rfl (fun _ => rfl) rfl (Nat.le_of_ble_eq_true rfl) (Nat.le_of_ble_eq_true rfl) ⟨Nat.le_of_ble_eq_true rfl, Nat.le_of_ble_eq_true rfl⟩ dX1_init_6 (fun q0 => ?_)
  refine U_putF (own := RX1) (j := 0) (C := RX1) (T := TX1) (N := 6) (ci := 1) X hn hiI_X1 tyX1 tyX1_ok nmX1 rfl 0 rfl (Nat.le_of_ble_eq_true rfl) lkI_X1_4 rfl (ty := tyX1 0) (tyX1_ok 0 (Nat.le_of_ble_eq_true rfl)) rfl rfl (Nat.le_of_ble_eq_true rfl) (tl1 := [(h0, .inr (1, [.ref q0, .null, .null, iv 0, .null, .null])), (q0, .inl (g.1, 4, .inl (fun _ => Int32.ofInt 0)))]) rfl dX1_init_8 ?_
  refine U_aload_n X dX1_init_11 rfl (q := 0) rfl ?_
  refine U_iconst X dX1_init_12 ?_
  refine U_newa (ty := .int) (t0 := 0) (N := 4) (a0 := (4, .inl (fun _ => Int32.ofInt 0))) X lkI_X1_3 rfl (fun _ h => nomatch h) rfl (fun _ => rfl) rfl (Nat.le_of_ble_eq_true rfl) (Nat.le_of_ble_eq_true rfl) ⟨Nat.le_of_ble_eq_true rfl, Nat.le_of_ble_eq_true rfl⟩ dX1_init_13 (fun q1 => ?_)
  refine U_putF (own := RX1) (j := 0) (C := RX1) (T := TX1) (N := 6) (ci := 1) X hn hiI_X1 tyX1 tyX1_ok nmX1 rfl 1 rfl (Nat.le_of_ble_eq_true rfl) lkI_X1_5 rfl (ty := tyX1 1) (tyX1_ok 1 (Nat.le_of_ble_eq_true rfl)) rfl rfl (Nat.le_of_ble_eq_true rfl) (tl1 := [(h0, .inr (1, [.ref q0, .ref q1, .null, iv 0, .null, .null])), (q0, .inl (g.1, 4, .inl (fun _ => Int32.ofInt 0))), (q1, .inl (g.1, 4, .inl (fun _ => Int32.ofInt 0)))]) rfl dX1_init_15 ?_
  refine U_aload_n X dX1_init_18 rfl (q := 0) rfl ?_
  refine U_iconst X dX1_init_19 ?_
  refine U_newa (ty := .int) (t0 := 0) (N := 4) (a0 := (4, .inl (fun _ => Int32.ofInt 0))) X lkI_X1_3 rfl (fun _ h => nomatch h) rfl (fun _ => rfl) rfl (Nat.le_of_ble_eq_true rfl) (Nat.le_of_ble_eq_true rfl) ⟨Nat.le_of_ble_eq_true rfl, Nat.le_of_ble_eq_true rfl⟩ dX1_init_20 (fun q2 => ?_)
  refine U_putF (own := RX1) (j := 0) (C := RX1) (T := TX1) (N := 6) (ci := 1) X hn hiI_X1 tyX1 tyX1_ok nmX1 rfl 2 rfl (Nat.le_of_ble_eq_true rfl) lkI_X1_6 rfl (ty := tyX1 2) (tyX1_ok 2 (Nat.le_of_ble_eq_true rfl)) rfl rfl (Nat.le_of_ble_eq_true rfl) (tl1 := [(h0, .inr (1, [.ref q0, .ref q1, .ref q2, iv 0, .null, .null])), (q0, .inl (g.1, 4, .inl (fun _ => Int32.ofInt 0))), (q1, .inl (g.1, 4, .inl (fun _ => Int32.ofInt 0))), (q2, .inl (g.1, 4, .inl (fun _ => Int32.ofInt 0)))]) rfl dX1_init_22 ?_
  refine U_aload_n X dX1_init_25 rfl (q := 0) rfl ?_
  refine U_get (C := RX1) (T := TX1) (N := 6) (ci := 1) X hiI_X1 ((uW_at _ _ 0).trans rfl) rfl 0 (Nat.le_of_ble_eq_true rfl) lkI_X1_4 (fun _ h => h) rfl dX1_init_26 ?_
  refine U_iconst X dX1_init_29 ?_
  refine U_callS (As := [.ref q0, iv 1]) (st := []) (tl1 := [(h0, .inr (1, [.ref q0, .ref q1, .ref q2, iv 0, .null, .null])), (q0, .inl (g.1, 4, .inl (fF 4 1))), (q1, .inl (g.1, 4, .inl (fun _ => Int32.ofInt 0))), (q2, .inl (g.1, 4, .inl (fun _ => Int32.ofInt 0)))]) X (c_fillU l (j := 1) (N := 4) rfl (Nat.le_of_ble_eq_true rfl) rfl (fF_ok 4 1)) (va_cwS 2 X.2.2.2.1 gX1_init_J7_fill_53178 rfl rfl rfl (by decide +kernel) ⟨Nat.le_of_ble_eq_true rfl, Nat.le_of_ble_eq_true rfl⟩) rfl (Nat.le_of_ble_eq_true rfl) ⟨Nat.le_of_ble_eq_true rfl, Nat.le_of_ble_eq_true rfl⟩ rfl dX1_init_30 ?_
  refine U_aload_n X dX1_init_33 rfl (q := 0) rfl ?_
  refine U_get (C := RX1) (T := TX1) (N := 6) (ci := 1) X hiI_X1 ((uW_at _ _ 0).trans rfl) rfl 1 (Nat.le_of_ble_eq_true rfl) lkI_X1_5 (fun _ h => h) rfl dX1_init_34 ?_
  refine U_iconst X dX1_init_37 ?_
  refine U_callS (As := [.ref q1, iv 1]) (st := []) (tl1 := [(h0, .inr (1, [.ref q0, .ref q1, .ref q2, iv 0, .null, .null])), (q0, .inl (g.1, 4, .inl (fF 4 1))), (q1, .inl (g.1, 4, .inl (fF 4 1))), (q2, .inl (g.1, 4, .inl (fun _ => Int32.ofInt 0)))]) X (c_fillU l (j := 2) (N := 4) rfl (Nat.le_of_ble_eq_true rfl) rfl (fF_ok 4 1)) (va_cwS 2 X.2.2.2.1 gX1_init_J7_fill_53178 rfl rfl rfl (by decide +kernel) ⟨Nat.le_of_ble_eq_true rfl, Nat.le_of_ble_eq_true rfl⟩) rfl (Nat.le_of_ble_eq_true rfl) ⟨Nat.le_of_ble_eq_true rfl, Nat.le_of_ble_eq_true rfl⟩ rfl dX1_init_38 ?_
  refine U_aload_n X dX1_init_41 rfl (q := 0) rfl ?_
  refine U_get (C := RX1) (T := TX1) (N := 6) (ci := 1) X hiI_X1 ((uW_at _ _ 0).trans rfl) rfl 2 (Nat.le_of_ble_eq_true rfl) lkI_X1_6 (fun _ h => h) rfl dX1_init_42 ?_
  refine U_iconst X dX1_init_45 ?_
  refine U_callS (As := [.ref q2, iv 1]) (st := []) (tl1 := [(h0, .inr (1, [.ref q0, .ref q1, .ref q2, iv 0, .null, .null])), (q0, .inl (g.1, 4, .inl (fF 4 1))), (q1, .inl (g.1, 4, .inl (fF 4 1))), (q2, .inl (g.1, 4, .inl (fF 4 1)))]) X (c_fillU l (j := 3) (N := 4) rfl (Nat.le_of_ble_eq_true rfl) rfl (fF_ok 4 1)) (va_cwS 2 X.2.2.2.1 gX1_init_J7_fill_53178 rfl rfl rfl (by decide +kernel) ⟨Nat.le_of_ble_eq_true rfl, Nat.le_of_ble_eq_true rfl⟩) rfl (Nat.le_of_ble_eq_true rfl) ⟨Nat.le_of_ble_eq_true rfl, Nat.le_of_ble_eq_true rfl⟩ rfl dX1_init_46 ?_
  refine U_aload_n X dX1_init_49 rfl (q := 0) rfl ?_
  refine U_iconst X dX1_init_50 ?_
  refine U_putF (own := RX1) (j := 0) (C := RX1) (T := TX1) (N := 6) (ci := 1) X hn hiI_X1 tyX1 tyX1_ok nmX1 rfl 3 rfl (Nat.le_of_ble_eq_true rfl) lkI_X1_7 rfl (ty := tyX1 3) (tyX1_ok 3 (Nat.le_of_ble_eq_true rfl)) rfl rfl (Nat.le_of_ble_eq_true rfl) (tl1 := [(h0, .inr (1, [.ref q0, .ref q1, .ref q2, iv 1, .null, .null])), (q0, .inl (g.1, 4, .inl (fF 4 1))), (q1, .inl (g.1, 4, .inl (fF 4 1))), (q2, .inl (g.1, 4, .inl (fF 4 1)))]) rfl dX1_init_51 ?_
  refine U_aload_n X dX1_init_54 rfl (q := 0) rfl ?_
  refine U_new (own := RX1) (C := RX9) (T := TX9) (N := 9) (ci := 9) (fs := [.null, .null, .null, .null, .null, .null, .null, .null, iv 0]) X hiI_X1_9 tyX9 tyX9_ok lkI_X1_8 lkI_X1_9 lkI_X1_10 rfl (fun j hj => by rcases (show j = 0 ∨ j = 1 ∨ j = 2 ∨ j = 3 ∨ j = 4 ∨ j = 5 ∨ j = 6 ∨ j = 7 ∨ j = 8 by omega) with rfl | rfl | rfl | rfl | rfl | rfl | rfl | rfl | rfl <;> rfl) ⟨Nat.le_of_ble_eq_true rfl, Nat.le_of_ble_eq_true rfl⟩ dX1_init_55 (fun q3 => ?_)
  refine U_dup X dX1_init_58 rfl ?_
  refine U_callN (As := []) (st := [.ref q3, .ref h0]) X (nwX9 g q3) (c_I_X9 l) ⟨va_cnB 0 X.2.2.2.1 gX1_init_X9_init_n33 rfl rfl rfl (X.2.2.2.2.1.2.1 _ (List.mem_of_getElem? (i := 86) rfl)) (X.2.2.2.1 _ lkI_X1_10) (by decide +kernel) ⟨Nat.le_of_ble_eq_true rfl, Nat.le_of_ble_eq_true rfl⟩, rfl, X.2.2.2.1 _ lkI_X1_11⟩ rfl (Nat.le_of_ble_eq_true rfl) ⟨Nat.le_of_ble_eq_true rfl, Nat.le_of_ble_eq_true rfl⟩ rfl dX1_init_59 (fun h1 => ?_)
  refine U_tl (tl1 := [(h0, .inr (1, [.ref q0, .ref q1, .ref q2, iv 1, .null, .null])), (q0, .inl (g.1, 4, .inl (fF 4 1))), (q1, .inl (g.1, 4, .inl (fF 4 1))), (q2, .inl (g.1, 4, .inl (fF 4 1))), (q3, .inr (9, [.ref (h1 0), .ref (h1 1), .ref (h1 2), .ref (h1 3), .ref (h1 4), .ref (h1 5), .ref (h1 6), .ref (h1 7), iv 0])), ((h1 0), .inl (g.1, 12, .inl (fun _ => Int32.ofInt 0))), ((h1 1), .inl (g.1, 12, .inl (fun _ => Int32.ofInt 0))), ((h1 2), .inl (g.1, 12, .inl (fun _ => Int32.ofInt 0))), ((h1 3), .inl (g.1, 12, .inl (fun _ => Int32.ofInt 0))), ((h1 4), .inl (g.1, 12, .inl (fun _ => Int32.ofInt 0))), ((h1 5), .inl (g.1, 12, .inl (fun _ => Int32.ofInt 0))), ((h1 6), .inl (g.1, 12, .inl (fun _ => Int32.ofInt 0))), ((h1 7), .inl (g.1, 12, .inl (fun _ => Int32.ofInt 0)))]) rfl ?_
  refine U_putF (own := RX1) (j := 0) (C := RX1) (T := TX1) (N := 6) (ci := 1) X hn hiI_X1 tyX1 tyX1_ok nmX1 rfl 4 rfl (Nat.le_of_ble_eq_true rfl) lkI_X1_12 rfl (ty := tyX1 4) (tyX1_ok 4 (Nat.le_of_ble_eq_true rfl)) rfl rfl (Nat.le_of_ble_eq_true rfl) (tl1 := [(h0, .inr (1, [.ref q0, .ref q1, .ref q2, iv 1, .ref q3, .null])), (q0, .inl (g.1, 4, .inl (fF 4 1))), (q1, .inl (g.1, 4, .inl (fF 4 1))), (q2, .inl (g.1, 4, .inl (fF 4 1))), (q3, .inr (9, [.ref (h1 0), .ref (h1 1), .ref (h1 2), .ref (h1 3), .ref (h1 4), .ref (h1 5), .ref (h1 6), .ref (h1 7), iv 0])), ((h1 0), .inl (g.1, 12, .inl (fun _ => Int32.ofInt 0))), ((h1 1), .inl (g.1, 12, .inl (fun _ => Int32.ofInt 0))), ((h1 2), .inl (g.1, 12, .inl (fun _ => Int32.ofInt 0))), ((h1 3), .inl (g.1, 12, .inl (fun _ => Int32.ofInt 0))), ((h1 4), .inl (g.1, 12, .inl (fun _ => Int32.ofInt 0))), ((h1 5), .inl (g.1, 12, .inl (fun _ => Int32.ofInt 0))), ((h1 6), .inl (g.1, 12, .inl (fun _ => Int32.ofInt 0))), ((h1 7), .inl (g.1, 12, .inl (fun _ => Int32.ofInt 0)))]) rfl dX1_init_62 ?_
  refine U_aload_n X dX1_init_65 rfl (q := 0) rfl ?_
  refine U_new (own := RX1) (C := RX9) (T := TX9) (N := 9) (ci := 9) (fs := [.null, .null, .null, .null, .null, .null, .null, .null, iv 0]) X hiI_X1_9 tyX9 tyX9_ok lkI_X1_8 lkI_X1_9 lkI_X1_10 rfl (fun j hj => by rcases (show j = 0 ∨ j = 1 ∨ j = 2 ∨ j = 3 ∨ j = 4 ∨ j = 5 ∨ j = 6 ∨ j = 7 ∨ j = 8 by omega) with rfl | rfl | rfl | rfl | rfl | rfl | rfl | rfl | rfl <;> rfl) ⟨Nat.le_of_ble_eq_true rfl, Nat.le_of_ble_eq_true rfl⟩ dX1_init_66 (fun q4 => ?_)
  refine U_dup X dX1_init_69 rfl ?_
  refine U_callN (As := []) (st := [.ref q4, .ref h0]) X (nwX9 g q4) (c_I_X9 l) ⟨va_cnB 0 X.2.2.2.1 gX1_init_X9_init_n33 rfl rfl rfl (X.2.2.2.2.1.2.1 _ (List.mem_of_getElem? (i := 86) rfl)) (X.2.2.2.1 _ lkI_X1_10) (by decide +kernel) ⟨Nat.le_of_ble_eq_true rfl, Nat.le_of_ble_eq_true rfl⟩, rfl, X.2.2.2.1 _ lkI_X1_11⟩ rfl (Nat.le_of_ble_eq_true rfl) ⟨Nat.le_of_ble_eq_true rfl, Nat.le_of_ble_eq_true rfl⟩ rfl dX1_init_70 (fun h2 => ?_)
  refine U_tl (tl1 := [(h0, .inr (1, [.ref q0, .ref q1, .ref q2, iv 1, .ref q3, .null])), (q0, .inl (g.1, 4, .inl (fF 4 1))), (q1, .inl (g.1, 4, .inl (fF 4 1))), (q2, .inl (g.1, 4, .inl (fF 4 1))), (q3, .inr (9, [.ref (h1 0), .ref (h1 1), .ref (h1 2), .ref (h1 3), .ref (h1 4), .ref (h1 5), .ref (h1 6), .ref (h1 7), iv 0])), ((h1 0), .inl (g.1, 12, .inl (fun _ => Int32.ofInt 0))), ((h1 1), .inl (g.1, 12, .inl (fun _ => Int32.ofInt 0))), ((h1 2), .inl (g.1, 12, .inl (fun _ => Int32.ofInt 0))), ((h1 3), .inl (g.1, 12, .inl (fun _ => Int32.ofInt 0))), ((h1 4), .inl (g.1, 12, .inl (fun _ => Int32.ofInt 0))), ((h1 5), .inl (g.1, 12, .inl (fun _ => Int32.ofInt 0))), ((h1 6), .inl (g.1, 12, .inl (fun _ => Int32.ofInt 0))), ((h1 7), .inl (g.1, 12, .inl (fun _ => Int32.ofInt 0))), (q4, .inr (9, [.ref (h2 0), .ref (h2 1), .ref (h2 2), .ref (h2 3), .ref (h2 4), .ref (h2 5), .ref (h2 6), .ref (h2 7), iv 0])), ((h2 0), .inl (g.1, 12, .inl (fun _ => Int32.ofInt 0))), ((h2 1), .inl (g.1, 12, .inl (fun _ => Int32.ofInt 0))), ((h2 2), .inl (g.1, 12, .inl (fun _ => Int32.ofInt 0))), ((h2 3), .inl (g.1, 12, .inl (fun _ => Int32.ofInt 0))), ((h2 4), .inl (g.1, 12, .inl (fun _ => Int32.ofInt 0))), ((h2 5), .inl (g.1, 12, .inl (fun _ => Int32.ofInt 0))), ((h2 6), .inl (g.1, 12, .inl (fun _ => Int32.ofInt 0))), ((h2 7), .inl (g.1, 12, .inl (fun _ => Int32.ofInt 0)))]) rfl ?_
  refine U_putF (own := RX1) (j := 0) (C := RX1) (T := TX1) (N := 6) (ci := 1) X hn hiI_X1 tyX1 tyX1_ok nmX1 rfl 5 rfl (Nat.le_of_ble_eq_true rfl) lkI_X1_13 rfl (ty := tyX1 5) (tyX1_ok 5 (Nat.le_of_ble_eq_true rfl)) rfl rfl (Nat.le_of_ble_eq_true rfl) (tl1 := [(h0, .inr (1, [.ref q0, .ref q1, .ref q2, iv 1, .ref q3, .ref q4])), (q0, .inl (g.1, 4, .inl (fF 4 1))), (q1, .inl (g.1, 4, .inl (fF 4 1))), (q2, .inl (g.1, 4, .inl (fF 4 1))), (q3, .inr (9, [.ref (h1 0), .ref (h1 1), .ref (h1 2), .ref (h1 3), .ref (h1 4), .ref (h1 5), .ref (h1 6), .ref (h1 7), iv 0])), ((h1 0), .inl (g.1, 12, .inl (fun _ => Int32.ofInt 0))), ((h1 1), .inl (g.1, 12, .inl (fun _ => Int32.ofInt 0))), ((h1 2), .inl (g.1, 12, .inl (fun _ => Int32.ofInt 0))), ((h1 3), .inl (g.1, 12, .inl (fun _ => Int32.ofInt 0))), ((h1 4), .inl (g.1, 12, .inl (fun _ => Int32.ofInt 0))), ((h1 5), .inl (g.1, 12, .inl (fun _ => Int32.ofInt 0))), ((h1 6), .inl (g.1, 12, .inl (fun _ => Int32.ofInt 0))), ((h1 7), .inl (g.1, 12, .inl (fun _ => Int32.ofInt 0))), (q4, .inr (9, [.ref (h2 0), .ref (h2 1), .ref (h2 2), .ref (h2 3), .ref (h2 4), .ref (h2 5), .ref (h2 6), .ref (h2 7), iv 0])), ((h2 0), .inl (g.1, 12, .inl (fun _ => Int32.ofInt 0))), ((h2 1), .inl (g.1, 12, .inl (fun _ => Int32.ofInt 0))), ((h2 2), .inl (g.1, 12, .inl (fun _ => Int32.ofInt 0))), ((h2 3), .inl (g.1, 12, .inl (fun _ => Int32.ofInt 0))), ((h2 4), .inl (g.1, 12, .inl (fun _ => Int32.ofInt 0))), ((h2 5), .inl (g.1, 12, .inl (fun _ => Int32.ofInt 0))), ((h2 6), .inl (g.1, 12, .inl (fun _ => Int32.ofInt 0))), ((h2 7), .inl (g.1, 12, .inl (fun _ => Int32.ofInt 0)))]) rfl dX1_init_73 ?_
  exact U_vret X hr ⟨fun j => [q0, q1, q2, q3, (h1 0), (h1 1), (h1 2), (h1 3), (h1 4), (h1 5), (h1 6), (h1 7), q4, (h2 0), (h2 1), (h2 2), (h2 3), (h2 4), (h2 5), (h2 6), (h2 7)].getD j 0, rfl⟩ dX1_init_76
