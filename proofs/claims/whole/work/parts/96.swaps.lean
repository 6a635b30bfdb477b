/-! the class exchanges its two trees -/
def swL (g : GT) (a : Nat → Nat) (b : Nat → Nat → Nat) (M : Mem) : va_W := ((WW g a b M).set 1 (a 1, .inr (1, [.ref (b 1 0), .ref (b 1 1), .ref (b 1 2), iv (M 1 3 0), .ref (a 12), .ref (a 11)]))).set 0 (a 0, .inr (10, [.ref (a 1), .ref (a 2), .ref (a 3), .ref (a 4), .ref (a 5), .ref (a 6), .ref (a 7), .ref (a 8), iv 0]))
def swA (a : Nat → Nat) : Nat → Nat := fun o => if o = 11 then a 12 else if o = 12 then a 11 else a o
def swB (b : Nat → Nat → Nat) : Nat → Nat → Nat := fun o => if o = 11 then b 12 else if o = 12 then b 11 else b o
set_option maxRecDepth 20000 in
set_option maxHeartbeats 4000000 in
theorem swL_P {D : va_G} {g : GT} {a : Nat → Nat} {b : Nat → Nat → Nat} {M : Mem} {H : Heap} (h : va_P D vwCl (swL g a b M) H) : va_P D vwCl (WW g (swA a) (swB b) (mset (swM M) 0 8 0 0)) H := h.sub [0, 1, 2, 3, 4, 5, 6, 7, 8, 9, 10, 12, 11, 13, 14, 15, 16, 17, 18, 19, 20, 21, 22, 23, 24, 25, 26, 27, 28, 29, 30, 31, 32, 33, 34, 35, 36, 37, 38, 39, 40, 41, 42, 43, 44, 45, 54, 55, 56, 57, 58, 59, 60, 61, 46, 47, 48, 49, 50, 51, 52, 53, 62, 63, 64, 65, 66, 67, 68, 69, 70, 71, 72, 73, 74, 75, 76, 77, 78, 79, 80, 81] rfl
set_option maxRecDepth 20000 in
set_option maxHeartbeats 4000000 in
theorem swL_D {A : Nat → Prop} {g : GT} {a : Nat → Nat} {b : Nat → Nat → Nat} {M : Mem} (h : va_D A (swL g a b M)) : va_D A (WW g (swA a) (swB b) (mset (swM M) 0 8 0 0)) := h.sub [0, 1, 2, 3, 4, 5, 6, 7, 8, 9, 10, 12, 11, 13, 14, 15, 16, 17, 18, 19, 20, 21, 22, 23, 24, 25, 26, 27, 28, 29, 30, 31, 32, 33, 34, 35, 36, 37, 38, 39, 40, 41, 42, 43, 44, 45, 54, 55, 56, 57, 58, 59, 60, 61, 46, 47, 48, 49, 50, 51, 52, 53, 62, 63, 64, 65, 66, 67, 68, 69, 70, 71, 72, 73, 74, 75, 76, 77, 78, 79, 80, 81] (by decide +kernel) rfl
section SWR
variable {p : Program} {l : Launch} {e : Env} {R : Room} {s : State} {m : MethodId} {args : Array Value} {below : List Frame} {meth : Method} {c : Code} {D : va_G} {g : GT} {A : Nat → Prop} {nL : Nat} {k n : Nat} {Q : State → Prop} {w0 tl : va_W} {lv lv1 : List (Nat × Value)} {pc : Nat} {st st0 : List Value} {own : String} {Ts : List Cond} {cc : ByteArray} {x y : Int} {ym : MethodName} {bytes : ByteArray} {maxL mc ms nn index : Nat} {ret : Option FieldType} {ws : List Cond} {rm : Room} {As : List Value} {a : Nat → Nat} {b : Nat → Nat → Nat} {M : Mem}
theorem U_getN (X : vC p s m args meth c D g A own Ts cc nL) {ref C : String} {T : u_T} {N ci index : Nat} (hin : ∀ w ∈ u_ws C T N, w ∈ Ts) {q ad : Nat} {fs : List Value} (he : (w0 ++ tl)[q]? = some (ad, .inr (ci, fs))) (hc : vwCl[ci]? = some (C, T, N)) (i : Nat) (hi : i < N) {host : String} (hlink : Cond.fieldLinkNest own index ref (T i).2.1 (T i).2.2.1 host ∈ NWs) (hsame : ∀ x, s.fieldFound? (T i).1 (T i).2.1 (T i).2.2.1 = some x → s.fieldFound? ref (T i).2.1 (T i).2.2.1 = some x) {v : Value} (hv : fs[i]? = some v) (hdg : decode cc pc = .ok (.getfield index, 3)) (kk : uV p l e R s m args below meth c D A nL k n Q w0 tl lv (pc + 3) (v :: st)) : uV p l e R s m args below meth c D A nL k n Q w0 tl lv pc (.ref ad :: st) := fun H locs ls hP hD hS hl => va_getN X.1 X.2.1 X.2.2.2.1 hin X.2.2.1 X.2.2.2.2.1.1 hP q he hc i hi (va_Nw.use rfl (X.2.2.2.2.1.2.1 _ hlink)) hsame hv hdg (kk H locs ls hP hD hS hl)
theorem U_putN (X : vC p s m args meth c D g A own Ts cc nL) {ref C : String} {T : u_T} {N ci j ad : Nat} {fs : List Value} (hin : ∀ w ∈ u_ws C T N, w ∈ Ts) (ty0 : Nat → FieldType) (hty : ∀ k, k < N → parseFieldDescriptor (T k).2.2.1 = some (ty0 k)) (hnm : ∀ a, a < N → ∀ b, b < N → a ≠ b → (T a).2.1 ≠ (T b).2.1) (hc : vwCl[ci]? = some (C, T, N)) (i : Nat) (he : tl[j]? = some (ad, .inr (ci, fs))) (hi : i < N) {host : String} (hlink : Cond.fieldLinkNest own index ref (T i).2.1 (T i).2.2.1 host ∈ NWs) (hsame : ∀ x, s.fieldFound? (T i).1 (T i).2.1 (T i).2.2.1 = some x → s.fieldFound? ref (T i).2.1 (T i).2.2.1 = some x) (hfin : (T i).2.2.2 = false) {ty : FieldType} {v : Value} (hd : parseFieldDescriptor (T i).2.2.1 = some ty) (hv : narrow ty v = v) (hfit : _root_.Jvm.fits ty v = true) (hl0 : i < fs.length) {tl1 : va_W} (ht : tl.set j (ad, .inr (ci, fs.set i v)) = tl1) (hdg : decode cc pc = .ok (.putfield index, 3)) (kk : uV p l e R s m args below meth c D A nL k n Q w0 tl1 lv (pc + 3) st) : uV p l e R s m args below meth c D A nL k n Q w0 tl lv pc (v :: .ref ad :: st) := by
  intro H locs ls hP hD hS hl
  have he2 : (w0 ++ tl)[w0.length + j]? = some (ad, .inr (ci, fs)) := (uW_at w0 tl j).trans he
  refine va_putN X.1 X.2.1 X.2.2.2.1 hin ty0 hty hnm X.2.2.1 X.2.2.2.2.1.1 hP hD hS (w0.length + j) he2 hc i hi (va_Nw.use rfl (X.2.2.2.2.1.2.1 _ hlink)) hsame hfin hd hv hfit hl0 hdg (fun H1 locs1 hP1 hD1 hS1 => ?_)
  rw [uW_set, ht] at hP1 hD1
  exact kk H1 locs1 ls hP1 hD1 hS1 hl
/-- a virtual call that changes the list of cells -/
theorem V_callV_u (X : vC p s m args meth c D g A own Ts cc nL) (post : va_W → Prop) {C : String} {T : u_T} {N ci q ad : Nat} {fs : List Value} (he : (WW g a b M)[q]? = some (ad, .inr (ci, fs))) (hc : vwCl[ci]? = some (C, T, N)) (hM : Met l ym ws rm (cPc D g A a b M (.ref ad :: As)) (uQv D A post) mc ms A) (cw : CallW R s args own C index ym bytes maxL ret ws rm mc ms nn) (hn : As.length = nn) (hr : (st.map fun v => v.category).sum ≤ 8) (hf : k + mc ≤ R.cells ∧ n + ms ≤ R.slots) (hst : As.reverse ++ .ref ad :: st = st0) (hdg : decode cc pc = .ok (.invokevirtual index, 3)) (kk : ∀ (w1 : va_W), post w1 → uV p l e R s m args below meth c D A nL (k + mc) (n + ms) Q [] w1 lv (pc + 3) st) : vV p l e R s m args below meth c D g A a b nL k n Q M lv pc st0 := by
  intro H locs ls hP hD hS hl
  subst hst
  exact va_callv (va_runV (V_fix X) hM cw (V_preV X he hc hP hD hS) rfl hn hl.1 rfl (lv_room hr) hdg hf) hS (fun q _ h => h) (fun q h => h) (fun u t H1 locs1 ht hvm hw hB hz hk hS1 => kk u hw H1 locs1 ls (ht ▸ hB.1) hB.2 hS1 hl)
theorem U_world (kk : vV p l e R s m args below meth c D g A a b nL k n Q M lv pc st) : uV p l e R s m args below meth c D A nL k n Q [] (WW g a b M) lv pc st := fun H locs ls hP hD hS hl => kk H locs ls hP hD hS hl
theorem U_sw (kk : vV p l e R s m args below meth c D g A (swA a) (swB b) nL k n Q (mset (swM M) 0 8 0 0) lv pc st) : uV p l e R s m args below meth c D A nL k n Q [] (swL g a b M) lv pc st := fun H locs ls hP hD hS hl => kk H locs ls (swL_P hP) (swL_D hD) hS hl
end SWR
theorem dX10_swapTrees_0 : decode cX10_swapTrees 0 = .ok (.aload_n 0, 1) := by decide +kernel
theorem dX10_swapTrees_1 : decode cX10_swapTrees 1 = .ok (.getfield 10, 3) := by decide +kernel
theorem dX10_swapTrees_4 : decode cX10_swapTrees 4 = .ok (.getfield 123, 3) := by decide +kernel
theorem dX10_swapTrees_7 : decode cX10_swapTrees 7 = .ok (.astore_n 1, 1) := by decide +kernel
theorem dX10_swapTrees_8 : decode cX10_swapTrees 8 = .ok (.aload_n 0, 1) := by decide +kernel
theorem dX10_swapTrees_9 : decode cX10_swapTrees 9 = .ok (.getfield 10, 3) := by decide +kernel
theorem dX10_swapTrees_12 : decode cX10_swapTrees 12 = .ok (.aload_n 0, 1) := by decide +kernel
theorem dX10_swapTrees_13 : decode cX10_swapTrees 13 = .ok (.getfield 10, 3) := by decide +kernel
theorem dX10_swapTrees_16 : decode cX10_swapTrees 16 = .ok (.getfield 127, 3) := by decide +kernel
theorem dX10_swapTrees_19 : decode cX10_swapTrees 19 = .ok (.putfield 123, 3) := by decide +kernel
theorem dX10_swapTrees_22 : decode cX10_swapTrees 22 = .ok (.aload_n 0, 1) := by decide +kernel
theorem dX10_swapTrees_23 : decode cX10_swapTrees 23 = .ok (.getfield 10, 3) := by decide +kernel
theorem dX10_swapTrees_26 : decode cX10_swapTrees 26 = .ok (.aload_n 1, 1) := by decide +kernel
theorem dX10_swapTrees_27 : decode cX10_swapTrees 27 = .ok (.putfield 127, 3) := by decide +kernel
theorem dX10_swapTrees_30 : decode cX10_swapTrees 30 = .ok (.aload_n 0, 1) := by decide +kernel
theorem dX10_swapTrees_31 : decode cX10_swapTrees 31 = .ok (.iconst 0, 1) := by decide +kernel
theorem dX10_swapTrees_32 : decode cX10_swapTrees 32 = .ok (.putfield 73, 3) := by decide +kernel
theorem dX10_swapTrees_35 : decode cX10_swapTrees 35 = .ok (.return_, 1) := by decide +kernel
theorem hiS_10 : ∀ w ∈ u_ws RX10 TX10 9, w ∈ wsX10_swapTrees := by decide +kernel
theorem hiS_1 : ∀ w ∈ u_ws RX1 TX1 6, w ∈ wsX10_swapTrees := by decide +kernel
theorem lkS_10 : Cond.fieldLink RX10 10 RX10 (TX10 0).2.1 (TX10 0).2.2.1 ∈ wsX10_swapTrees := by decide +kernel
theorem lkS_73 : Cond.fieldLink RX10 73 RX10 (TX10 8).2.1 (TX10 8).2.2.1 ∈ wsX10_swapTrees := by decide +kernel
set_option maxHeartbeats 4000000 in
set_option maxRecDepth 100000 in
theorem c_X10_swapTrees (l : Launch) {D : va_G} {g : GT} {A : Nat → Prop} {a : Nat → Nat} {b : Nat → Nat → Nat} {M : Mem} : Met l yX10_swapTrees wsX10_swapTrees ({ frames := 0, cells := 0, slots := 0, locals := 0 } : Room) (cPc D g A a b M [.ref (a 0)]) (uQv D A (fun w1 => w1 = swL g a b M)) 0 0 A := by
  refine Met.ofW (cc := cX10_swapTrees) (maxL := 2) (ret := none) (by decide) rfl ?_
  intro p e s m args below meth c s₁ B hml hv
  obtain ⟨rfl, hP, hD, hG⟩ := hv
  have X : vC p s m _ meth c D g A RX10 wsX10_swapTrees cX10_swapTrees 2 := ⟨B.exec, B.bytes, findClass_of_methodNamed B.named, atoms_spec (ws := wsX10_swapTrees) B.pre, hG, hml, B.notSynchronized⟩
  have hr := B.returns
  have hl := lv_entry ([.ref (a 0)]) (n := 2) (Nat.le_of_ble_eq_true rfl)
  rw [lg_entry_eq]
  generalize (lg_sl ([.ref (a 0)]) ++ List.replicate (2 - (lg_sl ([.ref (a 0)])).length) Slot.unset).toArray = ls at hl ⊢
  have hl : lv_has ls 2 [(0, .ref (a 0))] := hl
  suffices hV : uV p l e ({ frames := 0, cells := 0, slots := 0, locals := 0 } : Room) s m [.ref (a 0)].toArray below meth c D A 2 0 0 (MQ below (uQv D A (fun w1 => w1 = swL g a b M)) [.ref (a 0)].toArray s 0 0 A) [] (WW g a b M) [(0, .ref (a 0))] 0 [] from hV s.heap [] ls hP hD va_S.rf hl
  refine U_aload_n X dX10_swapTrees_0 rfl (q := 0) rfl ?_
  refine U_get (C := RX10) (T := TX10) (N := 9) (ci := 10) (q := 0) X hiS_10 rfl rfl 0 (Nat.le_of_ble_eq_true rfl) lkS_10 (fun _ h => h) rfl dX10_swapTrees_1 ?_
  refine U_getN (C := RX1) (T := TX1) (N := 6) (ci := 1) (q := 1) X hiS_1 rfl rfl 4 (Nat.le_of_ble_eq_true rfl) (host := "TreeComparer") (ref := RX1) (List.mem_of_getElem? (i := 38) rfl) (fun _ h => h) rfl dX10_swapTrees_4 ?_
  refine U_astore_n (lv1 := [(0, .ref (a 0)), (1, .ref (a 11))]) X [1, 0] dX10_swapTrees_7 rfl (by decide) rfl ?_
  refine U_aload_n X dX10_swapTrees_8 rfl (q := 0) rfl ?_
  refine U_get (C := RX10) (T := TX10) (N := 9) (ci := 10) (q := 0) X hiS_10 rfl rfl 0 (Nat.le_of_ble_eq_true rfl) lkS_10 (fun _ h => h) rfl dX10_swapTrees_9 ?_
  refine U_aload_n X dX10_swapTrees_12 rfl (q := 0) rfl ?_
  refine U_get (C := RX10) (T := TX10) (N := 9) (ci := 10) (q := 0) X hiS_10 rfl rfl 0 (Nat.le_of_ble_eq_true rfl) lkS_10 (fun _ h => h) rfl dX10_swapTrees_13 ?_
  refine U_getN (C := RX1) (T := TX1) (N := 6) (ci := 1) (q := 1) X hiS_1 rfl rfl 5 (Nat.le_of_ble_eq_true rfl) (host := "TreeComparer") (ref := RX1) (List.mem_of_getElem? (i := 42) rfl) (fun _ h => h) rfl dX10_swapTrees_16 ?_
  refine U_putN (C := RX1) (T := TX1) (N := 6) (ci := 1) (j := 1) X hiS_1 tyX1 tyX1_ok nmX1 rfl 4 rfl (Nat.le_of_ble_eq_true rfl) (host := "TreeComparer") (ref := RX1) (List.mem_of_getElem? (i := 38) rfl) (fun _ h => h) rfl (ty := tyX1 4) (tyX1_ok 4 (Nat.le_of_ble_eq_true rfl)) rfl rfl (Nat.le_of_ble_eq_true rfl) (tl1 := (WW g a b M).set 1 (a 1, .inr (1, [.ref (b 1 0), .ref (b 1 1), .ref (b 1 2), iv (M 1 3 0), .ref (a 12), .ref (a 12)]))) rfl dX10_swapTrees_19 ?_
  refine U_aload_n X dX10_swapTrees_22 rfl (q := 0) rfl ?_
  refine U_get (C := RX10) (T := TX10) (N := 9) (ci := 10) (q := 0) X hiS_10 rfl rfl 0 (Nat.le_of_ble_eq_true rfl) lkS_10 (fun _ h => h) rfl dX10_swapTrees_23 ?_
  refine U_aload_n X dX10_swapTrees_26 rfl (q := 1) rfl ?_
  refine U_putN (C := RX1) (T := TX1) (N := 6) (ci := 1) (j := 1) X hiS_1 tyX1 tyX1_ok nmX1 rfl 5 rfl (Nat.le_of_ble_eq_true rfl) (host := "TreeComparer") (ref := RX1) (List.mem_of_getElem? (i := 42) rfl) (fun _ h => h) rfl (ty := tyX1 5) (tyX1_ok 5 (Nat.le_of_ble_eq_true rfl)) rfl rfl (Nat.le_of_ble_eq_true rfl) (tl1 := (WW g a b M).set 1 (a 1, .inr (1, [.ref (b 1 0), .ref (b 1 1), .ref (b 1 2), iv (M 1 3 0), .ref (a 12), .ref (a 11)]))) rfl dX10_swapTrees_27 ?_
  refine U_aload_n X dX10_swapTrees_30 rfl (q := 0) rfl ?_
  refine U_iconst X dX10_swapTrees_31 ?_
  intro H locs ls hP hD hS hl
  refine va_put (C := RX10) (T := TX10) (N := 9) (ci := 10) (ty := tyX10 8) (v := iv 0) X.1 X.2.1 X.2.2.2.1 hiS_10 tyX10 tyX10_ok nmX10 X.2.2.1 X.2.2.2.2.1.1 hP hD hS 0 rfl rfl 8 (Nat.le_of_ble_eq_true rfl) (X.2.2.2.1 _ lkS_73) (fun _ h => h) rfl (tyX10_ok 8 (Nat.le_of_ble_eq_true rfl)) rfl rfl (Nat.le_of_ble_eq_true rfl) dX10_swapTrees_32 (fun H1 locs1 hP1 hD1 hS1 => ?_)
  exact U_vret (w0 := []) (tl := swL g a b M) (post := fun w1 => w1 = swL g a b M) X hr rfl dX10_swapTrees_35 H1 locs1 ls hP1 hD1 hS1 hl
