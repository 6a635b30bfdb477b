/-! a world that grows: rows for constructors -/
def uV (p : Program) (l : Launch) (e : Env) (R : Room) (s : State) (m : MethodId) (args : Array Value) (below : List Frame) (meth : Method) (c : Code) (D : va_G) (A : Nat → Prop) (nL : Nat) (k n : Nat) (Q : State → Prop) (w0 tl : va_W) (lv : List (Nat × Value)) (pc : Nat) (st : List Value) : Prop :=
  ∀ (H : Heap) (locs : List Loc) (ls : Array Slot), va_P D vwCl (w0 ++ tl) H → va_D A (w0 ++ tl) → va_S A s.heap H locs → lv_has ls nL lv → W p l e R s m args below meth c H locs k n Q (F0 m pc ls st)
def uPc (D : va_G) (g : GT) (A : Nat → Prop) (ws : va_W) (av : List Value) : Array Value → State → Prop := va_Pc av (fun U => va_P D vwCl ws U.heap ∧ va_D A ws ∧ GX D g A U)
def uB (D : va_G) (A : Nat → Prop) (ws : va_W) (t : State) : Prop := va_P D vwCl ws t.heap ∧ va_D A ws
def uQv (D : va_G) (A : Nat → Prop) (post : va_W → Prop) : Array Value → State → Outcome → State → Prop := va_Qv post (uB D A) A
theorem uPc_blind {D : va_G} {g : GT} {A : Nat → Prop} {ws : va_W} {av : List Value} : FrameBlind (uPc D g A ws av) := fun v U f mk q => ⟨q.1, q.2.1, q.2.2.1, q.2.2.2.calling f mk v⟩
theorem uW_at (w0 tl : va_W) (j : Nat) : (w0 ++ tl)[w0.length + j]? = tl[j]? := by
  rw [List.getElem?_append_right (by omega), Nat.add_sub_cancel_left]
theorem uW_set (w0 tl : va_W) (j : Nat) (v : Nat × va_E) : (w0 ++ tl).set (w0.length + j) v = w0 ++ tl.set j v := by
  rw [List.set_append_right _ _ (by omega), Nat.add_sub_cancel_left]
section UROWS
variable {p : Program} {l : Launch} {e : Env} {R : Room} {s : State} {m : MethodId} {args : Array Value} {below : List Frame} {meth : Method} {c : Code} {D : va_G} {g : GT} {A : Nat → Prop} {nL : Nat} {k n : Nat} {Q : State → Prop} {w0 tl : va_W} {lv lv1 : List (Nat × Value)} {pc : Nat} {st st0 : List Value} {own : String} {Ts : List Cond} {cc : ByteArray} {x y : Int} {ym : MethodName} {bytes : ByteArray} {maxL mc ms nn index : Nat} {ret : Option FieldType} {ws : List Cond} {rm : Room} {As : List Value}
theorem U_preS (X : vC p s m args meth c D g A own Ts cc nL) {wl : va_W} {H : Heap} {locs : List Loc} (hP : va_P D vwCl wl H) (hD : va_D A wl) (hS : va_S A s.heap H locs) : PreS s H (uPc D g A wl As) As :=
  ⟨uPc_blind, fun U hU hW => ⟨rfl, by rw [hU]; exact hP, hD, X.2.2.2.2.1.at hS hU hW⟩⟩
theorem U_tl {tl1 : va_W} (h : tl = tl1) (kk : uV p l e R s m args below meth c D A nL k n Q w0 tl1 lv pc st) : uV p l e R s m args below meth c D A nL k n Q w0 tl lv pc st := h ▸ kk
theorem U_widen {k1 n1 : Nat} (h1 : k ≤ k1) (h2 : n ≤ n1) (kk : uV p l e R s m args below meth c D A nL k1 n1 Q w0 tl lv pc st) : uV p l e R s m args below meth c D A nL k n Q w0 tl lv pc st := fun H locs ls hP hD hS hl => W.widen h1 h2 (kk H locs ls hP hD hS hl)
theorem U_iconst (X : vC p s m args meth c D g A own Ts cc nL) (hdg : decode cc pc = .ok (.iconst x, 1)) (kk : uV p l e R s m args below meth c D A nL k n Q w0 tl lv (pc + 1) (iv x :: st)) : uV p l e R s m args below meth c D A nL k n Q w0 tl lv pc st := fun H locs ls hP hD hS hl => lv_iconst X.1 X.2.1 hdg rfl (kk H locs ls hP hD hS hl)
theorem U_bipush (X : vC p s m args meth c D g A own Ts cc nL) (hdg : decode cc pc = .ok (.bipush x, 2)) (hv : (Int8.ofInt x).toInt32 = Int32.ofInt x) (kk : uV p l e R s m args below meth c D A nL k n Q w0 tl lv (pc + 2) (iv x :: st)) : uV p l e R s m args below meth c D A nL k n Q w0 tl lv pc st := fun H locs ls hP hD hS hl => lv_bipush X.1 X.2.1 hdg hv (kk H locs ls hP hD hS hl)
theorem U_sipush (X : vC p s m args meth c D g A own Ts cc nL) (hdg : decode cc pc = .ok (.sipush x, 3)) (hv : (Int16.ofInt x).toInt32 = Int32.ofInt x) (kk : uV p l e R s m args below meth c D A nL k n Q w0 tl lv (pc + 3) (iv x :: st)) : uV p l e R s m args below meth c D A nL k n Q w0 tl lv pc st := fun H locs ls hP hD hS hl => lv_sipush X.1 X.2.1 hdg hv (kk H locs ls hP hD hS hl)
theorem U_iload_n (X : vC p s m args meth c D g A own Ts cc nL) {j : Fin 4} {i q : Nat} (hdg : decode cc pc = .ok (.iload_n j, 1)) (hi : (j : Nat) = i) (hk : lv[q]? = some (i, iv x)) (kk : uV p l e R s m args below meth c D A nL k n Q w0 tl lv (pc + 1) (iv x :: st)) : uV p l e R s m args below meth c D A nL k n Q w0 tl lv pc st := fun H locs ls hP hD hS hl => lv_iload_n X.1 X.2.1 hdg hi (lv_at hl q hk) (kk H locs ls hP hD hS hl)
theorem U_aload_n (X : vC p s m args meth c D g A own Ts cc nL) {j : Fin 4} {i q ad : Nat} (hdg : decode cc pc = .ok (.aload_n j, 1)) (hi : (j : Nat) = i) (hk : lv[q]? = some (i, .ref ad)) (kk : uV p l e R s m args below meth c D A nL k n Q w0 tl lv (pc + 1) (.ref ad :: st)) : uV p l e R s m args below meth c D A nL k n Q w0 tl lv pc st := fun H locs ls hP hD hS hl => lv_aload_n X.1 X.2.1 hdg hi (lv_at hl q hk) (kk H locs ls hP hD hS hl)
theorem U_istore_n (X : vC p s m args meth c D g A own Ts cc nL) {j : Fin 4} {i : Nat} {x : Int} (ks : List Nat) (hdg : decode cc pc = .ok (.istore_n j, 1)) (hi : (j : Nat) = i) (hn : i < nL) (hk : lv_pick ((i, Value.int (Int32.ofInt x)) :: lv.filter (fun q => !(q.1 == i) && !(q.1 + 1 == i && q.2.category == 2))) ks = lv1) (kk : uV p l e R s m args below meth c D A nL k n Q w0 tl lv1 (pc + 1) st) : uV p l e R s m args below meth c D A nL k n Q w0 tl lv pc (iv x :: st) := fun H locs ls hP hD hS hl => lv_istore_n X.1 X.2.1 hdg hi hl hn rfl (fun ls1 hl1 => kk H locs ls1 hP hD hS (lv_sub hl1 ks hk))
theorem U_astore_n (X : vC p s m args meth c D g A own Ts cc nL) {j : Fin 4} {i : Nat} {ad : Nat} (ks : List Nat) (hdg : decode cc pc = .ok (.astore_n j, 1)) (hi : (j : Nat) = i) (hn : i < nL) (hk : lv_pick ((i, Value.ref ad) :: lv.filter (fun q => !(q.1 == i) && !(q.1 + 1 == i && q.2.category == 2))) ks = lv1) (kk : uV p l e R s m args below meth c D A nL k n Q w0 tl lv1 (pc + 1) st) : uV p l e R s m args below meth c D A nL k n Q w0 tl lv pc (.ref ad :: st) := fun H locs ls hP hD hS hl => lv_astore_n X.1 X.2.1 hdg hi hl hn rfl (fun ls1 hl1 => kk H locs ls1 hP hD hS (lv_sub hl1 ks hk))
theorem U_istore (X : vC p s m args meth c D g A own Ts cc nL) {i : Nat} {x : Int} (ks : List Nat) (hdg : decode cc pc = .ok (.istore i, 2)) (hn : i < nL) (hk : lv_pick ((i, Value.int (Int32.ofInt x)) :: lv.filter (fun q => !(q.1 == i) && !(q.1 + 1 == i && q.2.category == 2))) ks = lv1) (kk : uV p l e R s m args below meth c D A nL k n Q w0 tl lv1 (pc + 2) st) : uV p l e R s m args below meth c D A nL k n Q w0 tl lv pc (iv x :: st) := fun H locs ls hP hD hS hl => lv_istore X.1 X.2.1 hdg hl hn rfl (fun ls1 hl1 => kk H locs ls1 hP hD hS (lv_sub hl1 ks hk))
theorem U_iinc (X : vC p s m args meth c D g A own Ts cc nL) {i q : Nat} {d : Int} (ks : List Nat) (hdg : decode cc pc = .ok (.iinc i d, 3)) (hq : lv[q]? = some (i, iv x)) (hn : i < nL) (hk : lv_pick ((i, Value.int (Int32.ofInt (x + d))) :: lv.filter (fun q => !(q.1 == i) && !(q.1 + 1 == i && q.2.category == 2))) ks = lv1) (kk : uV p l e R s m args below meth c D A nL k n Q w0 tl lv1 (pc + 3) st) : uV p l e R s m args below meth c D A nL k n Q w0 tl lv pc st := fun H locs ls hP hD hS hl => lv_iinc X.1 X.2.1 hdg hl hq (ofI_add x d) hn rfl (fun ls1 hl1 => kk H locs ls1 hP hD hS (lv_sub hl1 ks hk))
theorem U_goto (X : vC p s m args meth c D g A own Ts cc nL) {off : Int} {tgt : Nat} (hdg : decode cc pc = .ok (.goto off, 3)) (ht : (pc : Int) + off = (tgt : Int)) (kk : uV p l e R s m args below meth c D A nL k n Q w0 tl lv tgt st) : uV p l e R s m args below meth c D A nL k n Q w0 tl lv pc st := fun H locs ls hP hD hS hl => lv_goto X.1 X.2.1 hdg ht (kk H locs ls hP hD hS hl)
theorem U_dup (X : vC p s m args meth c D g A own Ts cc nL) {v : Value} (hdg : decode cc pc = .ok (.dup, 1)) (hc : v.category = 1) (kk : uV p l e R s m args below meth c D A nL k n Q w0 tl lv (pc + 1) (v :: v :: st)) : uV p l e R s m args below meth c D A nL k n Q w0 tl lv pc (v :: st) := fun H locs ls hP hD hS hl => lv_dup X.1 X.2.1 hdg hc (kk H locs ls hP hD hS hl)
theorem U_icmp_ge (X : vC p s m args meth c D g A own Ts cc nL) {off : Int} {tgt : Nat} (hx : inR x) (hy : inR y) (hdg : decode cc pc = .ok (.if_icmp .ge off, 3)) (ht : (pc : Int) + off = (tgt : Int)) (kt : y ≤ x → uV p l e R s m args below meth c D A nL k n Q w0 tl lv tgt st) (kf : ¬ (y ≤ x) → uV p l e R s m args below meth c D A nL k n Q w0 tl lv (pc + 3) st)  : uV p l e R s m args below meth c D A nL k n Q w0 tl lv pc (iv y :: iv x :: st) := by
  intro H locs ls hP hD hS hl
  refine lv_icmp_ge X.1 X.2.1 hdg ht (fun h => ?_) (fun h => ?_)
  · exact kt ((ofI_le hy hx).mp h) H locs ls hP hD hS hl
  · exact kf (fun z => h ((ofI_le hy hx).mpr z)) H locs ls hP hD hS hl
theorem U_get (X : vC p s m args meth c D g A own Ts cc nL) {ref C : String} {T : u_T} {N ci index : Nat} (hin : ∀ w ∈ u_ws C T N, w ∈ Ts) {q ad : Nat} {fs : List Value} (he : (w0 ++ tl)[q]? = some (ad, .inr (ci, fs))) (hc : vwCl[ci]? = some (C, T, N)) (i : Nat) (hi : i < N) (hlink : Cond.fieldLink own index ref (T i).2.1 (T i).2.2.1 ∈ Ts) (hsame : ∀ x, s.fieldFound? (T i).1 (T i).2.1 (T i).2.2.1 = some x → s.fieldFound? ref (T i).2.1 (T i).2.2.1 = some x) {v : Value} (hv : fs[i]? = some v) (hdg : decode cc pc = .ok (.getfield index, 3)) (kk : uV p l e R s m args below meth c D A nL k n Q w0 tl lv (pc + 3) (v :: st)) : uV p l e R s m args below meth c D A nL k n Q w0 tl lv pc (.ref ad :: st) := fun H locs ls hP hD hS hl => va_get X.1 X.2.1 X.2.2.2.1 hin X.2.2.1 X.2.2.2.2.1.1 hP q he hc i hi (X.2.2.2.1 _ hlink) hsame hv hdg (kk H locs ls hP hD hS hl)
theorem U_sub (ks : List Nat) (h : lv_pick lv ks = lv1) (kk : uV p l e R s m args below meth c D A nL k n Q w0 tl lv1 pc st) : uV p l e R s m args below meth c D A nL k n Q w0 tl lv pc st := fun H locs ls hP hD hS hl => kk H locs ls hP hD hS (lv_sub hl ks h)
theorem U_super (X : vC p s m args meth c D g A own Ts cc nL) {i : Nat} {ad q : Nat} (hk : lv[q]? = some (0, .ref ad)) (h1 : Cond.methodLink own i objectInit ∈ Ts) (h2 : Cond.instanceMethod objectInit ∈ Ts) (h3 : Cond.code objectInit ⟨#[0xb1]⟩ 1 none ∈ Ts) (hf : 1 ≤ R.frames) (hlo : 12 ≤ R.locals) (d0 : decode cc pc = .ok (.aload_n 0, 1)) (d1 : decode cc (pc + 1) = .ok (.invokespecial i, 3)) (kk : uV p l e R s m args below meth c D A nL k n Q w0 tl lv (pc + 4) []) : uV p l e R s m args below meth c D A nL k n Q w0 tl lv pc [] := by
  refine U_aload_n X d0 rfl hk ?_
  intro H locs ls hP hD hS hl
  refine W.objInit X.1 X.2.1 X.2.2.1 (X.2.2.2.1 _ h1) (X.2.2.2.1 _ h2) (X.2.2.2.1 _ h3) rfl (by rw [X.2.2.2.2.2.1]; exact hl.1) rfl d1 hf (by show 2 * 0 + 0 + 12 ≤ _; omega) ?_
  exact W.eq (g2 := F0 m (pc + 4) ls []) rfl (kk H locs ls hP hD hS hl)
theorem U_new (X : vC p s m args meth c D g A own Ts cc nL) {C : String} {T : u_T} {N ci : Nat} (hin : ∀ w ∈ u_ws C T N, w ∈ Ts) (ty : Nat → FieldType) (hty : ∀ k, k < N → parseFieldDescriptor (T k).2.2.1 = some (ty k)) (hcl : Cond.classLink own index C ∈ Ts) (hinst : Cond.instantiable C N ∈ Ts) (hini : Cond.initialized C ∈ Ts) (hc : vwCl[ci]? = some (C, T, N)) {fs : List Value} (hfs : ∀ j, j < N → defaultValue (ty j) = vp_V fs j) (hk : k + 1 ≤ R.cells ∧ n + N ≤ R.slots) (hdg : decode cc pc = .ok (.new index, 3)) (kk : ∀ q : Nat, uV p l e R s m args below meth c D A nL (k + 1) (n + N) Q w0 (tl ++ [(q, .inr (ci, fs))]) lv (pc + 3) (.ref q :: st)) : uV p l e R s m args below meth c D A nL k n Q w0 tl lv pc st := by
  intro H locs ls hP hD hS hl
  refine va_new X.1 X.2.1 X.2.2.2.1 hin ty hty X.2.2.1 (X.2.2.2.1 _ hcl) (X.2.2.2.1 _ hinst) (X.2.2.2.1 _ hini) X.2.2.2.2.1.1 hP hD hS X.2.2.2.2.1.2.2.2.2.1 hc hfs hk.1 hk.2 hdg (fun q H1 hP1 hD1 hS1 => ?_)
  rw [List.append_assoc] at hP1 hD1
  exact kk q H1 locs ls hP1 hD1 hS1 hl
theorem U_newa (X : vC p s m args meth c D g A own Ts cc nL) {atype : ArrayType} {ty : FieldType} {cA : ClassId} {t0 N : Nat} {a0 : vp_A} (harr : Cond.arrayClass ty ∈ Ts) (hty : newarray.typeOf atype = ty) (hp : ∀ C : String, ty ≠ .object C) (ht : (tysG g)[t0]? = some (cA, ty)) (ha : ∀ cA : ClassId, vp_cell cA a0 = arrV cA N (fun _ => defaultValue ty)) (hx : x = (N : Int)) (hN : N < 2147483648) (hbytes : N * componentBytes ty ≤ 536870912) (hk : k + 1 ≤ R.cells ∧ n + N ≤ R.slots) (hdg : decode cc pc = .ok (.newarray atype, 2)) (kk : ∀ q : Nat, uV p l e R s m args below meth c D A nL (k + 1) (n + N) Q w0 (tl ++ [(q, .inl (cA, a0))]) lv (pc + 2) (.ref q :: st)) : uV p l e R s m args below meth c D A nL k n Q w0 tl lv pc (iv x :: st) := by
  intro H locs ls hP hD hS hl
  subst hx
  refine va_newa X.1 X.2.1 (X.2.2.2.1 _ (hty ▸ harr)) hty X.2.2.2.2.1.1 hP hD hS X.2.2.2.2.1.2.2.2.2.1 ha (n := Int32.ofInt N) (N' := N) (fun z => ?_) (by rw [ofI_cl (by omega) (by omega)]; omega) hbytes hk.1 hk.2 hdg (fun q cB H1 hK1 hP1 hD1 hS1 => ?_)
  · rw [Int32.lt_iff_toInt_lt, ofI_toInt ⟨by omega, by omega⟩] at z
    have z2 : ((0 : Int32)).toInt = 0 := by decide
    omega
  · have e1 := (X.2.2.2.2.1.1.2 t0 _ ht).2
    have e2 := (hK1.2 3 (cB, ty) rfl).2
    have e3 : cB = cA := by
      cases ty with
      | object C => exact absurd rfl (hp C)
      | _ => exact Option.some.inj (Eq.trans (Eq.symm e2) e1)
    subst e3
    rw [List.append_assoc] at hP1 hD1
    exact kk q H1 locs ls hP1 hD1 hS1 hl
theorem U_putF (X : vC p s m args meth c D g A own Ts cc nL) {C : String} {T : u_T} {N ci j ad : Nat} {fs : List Value} (hn : meth.name = "<init>") (hin : ∀ w ∈ u_ws C T N, w ∈ Ts) (ty0 : Nat → FieldType) (hty : ∀ k, k < N → parseFieldDescriptor (T k).2.2.1 = some (ty0 k)) (hnm : ∀ a, a < N → ∀ b, b < N → a ≠ b → (T a).2.1 ≠ (T b).2.1) (hc : vwCl[ci]? = some (C, T, N)) (i : Nat) (he : tl[j]? = some (ad, .inr (ci, fs))) (hi : i < N) (hlink : Cond.fieldLink own index own (T i).2.1 (T i).2.2.1 ∈ Ts) (hdecl : (T i).1 = own) {ty : FieldType} {v : Value} (hd : parseFieldDescriptor (T i).2.2.1 = some ty) (hv : narrow ty v = v) (hfit : _root_.Jvm.fits ty v = true) (hl0 : i < fs.length) {tl1 : va_W} (ht : tl.set j (ad, .inr (ci, fs.set i v)) = tl1) (hdg : decode cc pc = .ok (.putfield index, 3)) (kk : uV p l e R s m args below meth c D A nL k n Q w0 tl1 lv (pc + 3) st) : uV p l e R s m args below meth c D A nL k n Q w0 tl lv pc (v :: .ref ad :: st) := by
  intro H locs ls hP hD hS hl
  have he2 : (w0 ++ tl)[w0.length + j]? = some (ad, .inr (ci, fs)) := (uW_at w0 tl j).trans he
  have hsame : ∀ x, s.fieldFound? (T i).1 (T i).2.1 (T i).2.2.1 = some x → s.fieldFound? own (T i).2.1 (T i).2.2.1 = some x := fun x hx => hdecl ▸ hx
  cases hf : (T i).2.2.2 with
  | true =>
    refine va_putF X.1 X.2.1 X.2.2.2.1 hin ty0 hty hnm X.2.2.1 X.2.2.2.2.1.1 hP hD hS (w0.length + j) he2 hc i hi (X.2.2.2.1 _ hlink) hsame hf hn hdecl hd hv hfit hl0 hdg (fun H1 locs1 hP1 hD1 hS1 => ?_)
    rw [uW_set, ht] at hP1 hD1
    exact kk H1 locs1 ls hP1 hD1 hS1 hl
  | false =>
    refine va_put X.1 X.2.1 X.2.2.2.1 hin ty0 hty hnm X.2.2.1 X.2.2.2.2.1.1 hP hD hS (w0.length + j) he2 hc i hi (X.2.2.2.1 _ hlink) hsame hf hd hv hfit hl0 hdg (fun H1 locs1 hP1 hD1 hS1 => ?_)
    rw [uW_set, ht] at hP1 hD1
    exact kk H1 locs1 ls hP1 hD1 hS1 hl
theorem U_iast (X : vC p s m args meth c D g A own Ts cc nL) {j N ad : Nat} {f : Nat → Int32} (he : tl[j]? = some (ad, .inl (g.1, N, .inl f))) (hx : 0 ≤ x ∧ x < (N : Int)) (hN : N < 2147483648) {tl1 : va_W} (ht : tl.set j (ad, .inl (g.1, N, .inl (upd f x.toNat (Int32.ofInt y)))) = tl1) (hdg : decode cc pc = .ok (.iastore, 1)) (kk : uV p l e R s m args below meth c D A nL k n Q w0 tl1 lv (pc + 1) st) : uV p l e R s m args below meth c D A nL k n Q w0 tl lv pc (iv y :: iv x :: .ref ad :: st) := by
  intro H locs ls hP hD hS hl
  refine va_iast X.1 X.2.1 X.2.2.2.2.1.1 hP hD hS (w0.length + j) 0 ((uW_at w0 tl j).trans he) rfl (ofI_in hx hN) hdg (fun H1 locs1 hP1 hD1 hS1 => ?_)
  rw [ofI_cl hx.1 (by omega), uW_set, ht] at hP1 hD1
  exact kk H1 locs1 ls hP1 hD1 hS1 hl
theorem U_alen (X : vC p s m args meth c D g A own Ts cc nL) {j N ad : Nat} {f : Nat → Int32} (he : tl[j]? = some (ad, .inl (g.1, N, .inl f))) (hdg : decode cc pc = .ok (.arraylength, 1)) (kk : uV p l e R s m args below meth c D A nL k n Q w0 tl lv (pc + 1) (iv (N : Int) :: st)) : uV p l e R s m args below meth c D A nL k n Q w0 tl lv pc (.ref ad :: st) := fun H locs ls hP hD hS hl => va_alen X.1 X.2.1 X.2.2.2.2.1.1 hP (w0.length + j) 0 ((uW_at w0 tl j).trans he) rfl rfl hdg (kk H locs ls hP hD hS hl)
/-- a private constructor of a nest mate -/
theorem U_callN (X : vC p s m args meth c D g A own Ts cc nL) {host : String} {ad : Nat} {z : Nat × va_E} (newL : (Nat → Nat) → va_W) (hM : Met l ym ws rm (uPc D g A ((w0 ++ tl) ++ [z]) (.ref ad :: As)) (uQv D A (fun w1 => ∃ h : Nat → Nat, w1 = (w0 ++ tl) ++ newL h)) mc ms A) (cw : va_CN R s args own index ym host bytes maxL none ws rm mc ms nn ∧ ym.name = "<init>" ∧ (Cond.instanceMethod ym).before args s = true) (hn : As.length = nn) (hr : (st.map fun v => v.category).sum ≤ 8) (hf : k + mc ≤ R.cells ∧ n + ms ≤ R.slots) (hst : As.reverse ++ .ref ad :: st = st0) (hdg : decode cc pc = .ok (.invokespecial index, 3)) (kk : ∀ h : Nat → Nat, uV p l e R s m args below meth c D A nL (k + mc) (n + ms) Q w0 (tl ++ newL h) lv (pc + 3) st) : uV p l e R s m args below meth c D A nL k n Q w0 (tl ++ [z]) lv pc st0 := by
  intro H locs ls hP hD hS hl
  subst hst
  rw [← List.append_assoc] at hP hD
  exact va_callv (va_runIN (V_fix X) hM cw (U_preS X hP hD hS) rfl hn hl.1 rfl (lv_room hr) hdg hf) hS (fun q _ h => h) (fun q h => h) (fun u t H1 locs1 ht hvm hw hB hz hk hS1 => by
    obtain ⟨h, rfl⟩ := hw
    have hB1 := hB.1
    have hB2 := hB.2
    rw [List.append_assoc] at hB1 hB2
    exact kk h H1 locs1 ls (ht ▸ hB1) hB2 hS1 hl)
/-- a public constructor -/
theorem U_callI (X : vC p s m args meth c D g A own Ts cc nL) {ad : Nat} {z : Nat × va_E} (newL : (Nat → Nat) → va_W) (hM : Met l ym ws rm (uPc D g A ((w0 ++ tl) ++ [z]) (.ref ad :: As)) (uQv D A (fun w1 => ∃ h : Nat → Nat, w1 = (w0 ++ tl) ++ newL h)) mc ms A) (cw : CallB R s args own index ym bytes maxL none ws rm mc ms nn ∧ ym.name = "<init>" ∧ (Cond.instanceMethod ym).before args s = true) (hn : As.length = nn) (hr : (st.map fun v => v.category).sum ≤ 8) (hf : k + mc ≤ R.cells ∧ n + ms ≤ R.slots) (hst : As.reverse ++ .ref ad :: st = st0) (hdg : decode cc pc = .ok (.invokespecial index, 3)) (kk : ∀ h : Nat → Nat, uV p l e R s m args below meth c D A nL (k + mc) (n + ms) Q w0 (tl ++ newL h) lv (pc + 3) st) : uV p l e R s m args below meth c D A nL k n Q w0 (tl ++ [z]) lv pc st0 := by
  intro H locs ls hP hD hS hl
  subst hst
  rw [← List.append_assoc] at hP hD
  exact va_callv (va_runI (V_fix X) hM cw (U_preS X hP hD hS) rfl hn hl.1 rfl (lv_room hr) hdg hf) hS (fun q _ h => h) (fun q h => h) (fun u t H1 locs1 ht hvm hw hB hz hk hS1 => by
    obtain ⟨h, rfl⟩ := hw
    have hB1 := hB.1
    have hB2 := hB.2
    rw [List.append_assoc] at hB1 hB2
    exact kk h H1 locs1 ls (ht ▸ hB1) hB2 hS1 hl)
/-- a static method that changes one cell -/
theorem U_callS (X : vC p s m args meth c D g A own Ts cc nL) {tl1 : va_W} (hM : Met l ym ws rm (uPc D g A (w0 ++ tl) As) (uQv D A (fun w1 => w1 = w0 ++ tl1)) mc ms A) (cw : CallB R s args own index ym bytes maxL ret ws rm mc ms nn ∧ (Cond.static ym).before args s = true) (hn : As.length = nn) (hr : (st.map fun v => v.category).sum ≤ 8) (hf : k + mc ≤ R.cells ∧ n + ms ≤ R.slots) (hst : As.reverse ++ st = st0) (hdg : decode cc pc = .ok (.invokestatic index, 3)) (kk : uV p l e R s m args below meth c D A nL (k + mc) (n + ms) Q w0 tl1 lv (pc + 3) st) : uV p l e R s m args below meth c D A nL k n Q w0 tl lv pc st0 := by
  intro H locs ls hP hD hS hl
  subst hst
  exact va_callv (va_runS (V_fix X) hM cw (U_preS X hP hD hS) rfl hn hl.1 rfl (lv_room hr) hdg hf) hS (fun q _ h => h) (fun q h => h) (fun u t H1 locs1 ht hvm hw hB hz hk hS1 => by
    subst hw
    exact kk H1 locs1 ls (ht ▸ hB.1) hB.2 hS1 hl)
theorem U_vret (X : vC p s m args meth c D g A own Ts cc nL) {post : va_W → Prop} (hr : meth.sig.returnType = none) (hw : post (w0 ++ tl)) (hdg : decode cc pc = .ok (.return_, 1)) : uV p l e R s m args below meth c D A nL k n (MQ below (uQv D A post) args s k n A) w0 tl lv pc [] := fun H locs ls hP hD hS hl => W.vret X.1 X.2.1 hr (fun t ht hW => ⟨⟨w0 ++ tl, rfl, hw, by rw [uB, ht]; exact ⟨hP, hD⟩⟩, hS.F ht⟩) hS.2.2 hdg X.2.2.2.2.2.2
end UROWS
