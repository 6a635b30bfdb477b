/-! the rows over the one memory: vV is W with the heap behind the memory -/
/-- what the machine's start gives every method -/
def GX (D : va_G) (g : GT) (A : Nat → Prop) (U : State) : Prop := va_K D vwCl (tysG g) U ∧ (∀ w ∈ NWs, va_Nw w U) ∧ vx_Zq Bundle.tN "UNASSIGNED_STACK" Bundle.steD A U U.heap ∧ vx_Zq Bundle.tN "SUPPRESSED_SENTINEL" Bundle.listD A U U.heap ∧ (∀ q : Nat, U.heap.size ≤ q → A q) ∧ ∀ r ∈ SRs, ∃ sa : Nat, vk_R r.1 r.2.1 r.2.2 sa U
def vC (p : Program) (s : State) (m : MethodId) (args : Array Value) (meth : Method) (c : Code) (D : va_G) (g : GT) (A : Nat → Prop) (own : String) (Ts : List Cond) (cc : ByteArray) (nL : Nat) : Prop :=
  p.tables.exec = Jvm.exec ∧ c.code = cc ∧ s.vm.findClass own = some m.cls ∧ (∀ w ∈ Ts, w.before args s = true) ∧ GX D g A s ∧ c.maxLocals = nL ∧ meth.locks = false
def vV (p : Program) (l : Launch) (e : Env) (R : Room) (s : State) (m : MethodId) (args : Array Value) (below : List Frame) (meth : Method) (c : Code) (D : va_G) (g : GT) (A : Nat → Prop) (a : Nat → Nat) (b : Nat → Nat → Nat) (nL : Nat) (k n : Nat) (Q : State → Prop) (M : Mem) (lv : List (Nat × Value)) (pc : Nat) (st : List Value) : Prop :=
  ∀ (H : Heap) (locs : List Loc) (ls : Array Slot), va_P D vwCl (WW g a b M) H → va_D A (WW g a b M) → va_S A s.heap H locs → lv_has ls nL lv → W p l e R s m args below meth c H locs k n Q (F0 m pc ls st)
/-! numbers -/
theorem ofI_add (x y : Int) : Int32.ofInt x + Int32.ofInt y = Int32.ofInt (x + y) := (Int32.ofInt_add x y).symm
theorem ofI_sub (x y : Int) : Int32.ofInt x - Int32.ofInt y = Int32.ofInt (x - y) := (Int32.ofInt_sub x y).symm
theorem ofI_mul (x y : Int) : Int32.ofInt x * Int32.ofInt y = Int32.ofInt (x * y) := (Int32.ofInt_mul x y).symm
theorem ofI_toInt {x : Int} (h : inR x) : (Int32.ofInt x).toInt = x := Int32.toInt_ofInt_of_le h.1 h.2
theorem ofI_lt {x y : Int} (hx : inR x) (hy : inR y) : Int32.ofInt x < Int32.ofInt y ↔ x < y := by rw [Int32.lt_iff_toInt_lt, ofI_toInt hx, ofI_toInt hy]
theorem ofI_le {x y : Int} (hx : inR x) (hy : inR y) : Int32.ofInt x ≤ Int32.ofInt y ↔ x ≤ y := by rw [Int32.le_iff_toInt_le, ofI_toInt hx, ofI_toInt hy]
theorem ofI_eq {x y : Int} (hx : inR x) (hy : inR y) : Int32.ofInt x = Int32.ofInt y ↔ x = y := by rw [← Int32.toInt_inj, ofI_toInt hx, ofI_toInt hy]
theorem inR_0 : inR 0 := ⟨by decide, by decide⟩
theorem ofI_cl {x : Int} (h0 : 0 ≤ x) (h : x < 2147483648) : (Int32.ofInt x).toNatClampNeg = x.toNat := by
  show (Int32.ofInt x).toInt.toNat = x.toNat
  rw [ofI_toInt ⟨by omega, h⟩]
theorem ofI_in {x : Int} {n : Nat} (h : 0 ≤ x ∧ x < n) (hn : n < 2147483648) : vp_in (Int32.ofInt x) n := by
  rw [vp_in_iff, ofI_toInt ⟨by omega, by omega⟩]
  exact h
theorem ofI_upd (M : Mem) (o k : Nat) (x v : Int) {n : Nat} (h : 0 ≤ x ∧ x < n) (hn : n < 2147483648) : upd (fI M o k) (Int32.ofInt x).toNatClampNeg (Int32.ofInt v) = fI (mset M o k x.toNat v) o k := by
  rw [ofI_cl h.1 (by omega)]
  funext i
  by_cases hi : i = x.toNat
  · subst hi
    simp [upd, fI, mset]
  · simp [upd, fI, mset, hi]
theorem ofI_min {x y : Int} (hx : inR x) (hy : inR y) : (if Int32.ofInt y < Int32.ofInt x then Int32.ofInt y else Int32.ofInt x) = Int32.ofInt (min x y) := by
  by_cases h : y < x
  · rw [if_pos ((ofI_lt hy hx).mpr h)]
    exact congrArg _ (by omega)
  · rw [if_neg (fun z => h ((ofI_lt hy hx).mp z))]
    exact congrArg _ (by omega)
theorem ofI_div {x d : Int} (hx : 0 ≤ x ∧ x < 2147483648) (hd : 0 < d ∧ d < 2147483648) : Int32.ofInt x / Int32.ofInt d = Int32.ofInt (x / d) := by
  obtain ⟨a, rfl⟩ := Int.eq_ofNat_of_zero_le hx.1
  obtain ⟨c, rfl⟩ := Int.eq_ofNat_of_zero_le (Int.le_of_lt hd.1)
  exact pk_div (a := a) (d := c) (by omega) (by omega) (by omega)
theorem ofI_rem {x d : Int} (hx : 0 ≤ x ∧ x < 2147483648) (hd : 0 < d ∧ d < 2147483648) : Int32.ofInt x - Int32.ofInt x / Int32.ofInt d * Int32.ofInt d = Int32.ofInt (x % d) := by
  obtain ⟨a, rfl⟩ := Int.eq_ofNat_of_zero_le hx.1
  obtain ⟨c, rfl⟩ := Int.eq_ofNat_of_zero_le (Int.le_of_lt hd.1)
  exact pk_rem (a := a) (d := c) (by omega) (by omega) (by omega)
section VROWS
variable {p : Program} {l : Launch} {e : Env} {R : Room} {s : State} {m : MethodId} {args : Array Value} {below : List Frame} {meth : Method} {c : Code} {D : va_G} {g : GT} {A : Nat → Prop} {a : Nat → Nat} {b : Nat → Nat → Nat} {nL : Nat} {k n : Nat} {Q : State → Prop} {M : Mem} {lv lv1 : List (Nat × Value)} {pc : Nat} {st : List Value} {own : String} {Ts : List Cond} {cc : ByteArray} {x y : Int}
theorem V_iconst (X : vC p s m args meth c D g A own Ts cc nL) (hdg : decode cc pc = .ok (.iconst x, 1)) (kk : vV p l e R s m args below meth c D g A a b nL k n Q M lv (pc + 1) (iv x :: st)) : vV p l e R s m args below meth c D g A a b nL k n Q M lv pc st := fun H locs ls hP hD hS hl => lv_iconst X.1 X.2.1 hdg rfl (kk H locs ls hP hD hS hl)
theorem V_bipush (X : vC p s m args meth c D g A own Ts cc nL) (hdg : decode cc pc = .ok (.bipush x, 2)) (hv : (Int8.ofInt x).toInt32 = Int32.ofInt x) (kk : vV p l e R s m args below meth c D g A a b nL k n Q M lv (pc + 2) (iv x :: st)) : vV p l e R s m args below meth c D g A a b nL k n Q M lv pc st := fun H locs ls hP hD hS hl => lv_bipush X.1 X.2.1 hdg hv (kk H locs ls hP hD hS hl)
theorem V_sipush (X : vC p s m args meth c D g A own Ts cc nL) (hdg : decode cc pc = .ok (.sipush x, 3)) (hv : (Int16.ofInt x).toInt32 = Int32.ofInt x) (kk : vV p l e R s m args below meth c D g A a b nL k n Q M lv (pc + 3) (iv x :: st)) : vV p l e R s m args below meth c D g A a b nL k n Q M lv pc st := fun H locs ls hP hD hS hl => lv_sipush X.1 X.2.1 hdg hv (kk H locs ls hP hD hS hl)
theorem V_ldc (X : vC p s m args meth c D g A own Ts cc nL) {index : Nat} {v : Int32} (hw : Cond.constant own index v ∈ Ts) (hv : v = Int32.ofInt x) (hdg : decode cc pc = .ok (.ldc index, 2)) (kk : vV p l e R s m args below meth c D g A a b nL k n Q M lv (pc + 2) (iv x :: st)) : vV p l e R s m args below meth c D g A a b nL k n Q M lv pc st := fun H locs ls hP hD hS hl => lv_ldc X.1 X.2.1 X.2.2.1 (X.2.2.2.1 _ hw) hdg (hv ▸ (kk H locs ls hP hD hS hl))
theorem V_iload_n (X : vC p s m args meth c D g A own Ts cc nL) {j : Fin 4} {i q : Nat} (hdg : decode cc pc = .ok (.iload_n j, 1)) (hi : (j : Nat) = i) (hk : lv[q]? = some (i, iv x)) (kk : vV p l e R s m args below meth c D g A a b nL k n Q M lv (pc + 1) (iv x :: st)) : vV p l e R s m args below meth c D g A a b nL k n Q M lv pc st := fun H locs ls hP hD hS hl => lv_iload_n X.1 X.2.1 hdg hi (lv_at hl q hk) (kk H locs ls hP hD hS hl)
theorem V_iload (X : vC p s m args meth c D g A own Ts cc nL) {i q : Nat} (hdg : decode cc pc = .ok (.iload i, 2)) (hk : lv[q]? = some (i, iv x)) (kk : vV p l e R s m args below meth c D g A a b nL k n Q M lv (pc + 2) (iv x :: st)) : vV p l e R s m args below meth c D g A a b nL k n Q M lv pc st := fun H locs ls hP hD hS hl => lv_iload X.1 X.2.1 hdg (lv_at hl q hk) (kk H locs ls hP hD hS hl)
theorem V_aload_n (X : vC p s m args meth c D g A own Ts cc nL) {j : Fin 4} {i q ad : Nat} (hdg : decode cc pc = .ok (.aload_n j, 1)) (hi : (j : Nat) = i) (hk : lv[q]? = some (i, .ref ad)) (kk : vV p l e R s m args below meth c D g A a b nL k n Q M lv (pc + 1) (.ref ad :: st)) : vV p l e R s m args below meth c D g A a b nL k n Q M lv pc st := fun H locs ls hP hD hS hl => lv_aload_n X.1 X.2.1 hdg hi (lv_at hl q hk) (kk H locs ls hP hD hS hl)
theorem V_aload (X : vC p s m args meth c D g A own Ts cc nL) {i q ad : Nat} (hdg : decode cc pc = .ok (.aload i, 2)) (hk : lv[q]? = some (i, .ref ad)) (kk : vV p l e R s m args below meth c D g A a b nL k n Q M lv (pc + 2) (.ref ad :: st)) : vV p l e R s m args below meth c D g A a b nL k n Q M lv pc st := fun H locs ls hP hD hS hl => lv_aload X.1 X.2.1 hdg (lv_at hl q hk) (kk H locs ls hP hD hS hl)
theorem V_istore_n (X : vC p s m args meth c D g A own Ts cc nL) {j : Fin 4} {i : Nat} {x : Int} (ks : List Nat) (hdg : decode cc pc = .ok (.istore_n j, 1)) (hi : (j : Nat) = i) (hn : i < nL) (hk : lv_pick ((i, Value.int (Int32.ofInt x)) :: lv.filter (fun q => !(q.1 == i) && !(q.1 + 1 == i && q.2.category == 2))) ks = lv1) (kk : vV p l e R s m args below meth c D g A a b nL k n Q M lv1 (pc + 1) st) : vV p l e R s m args below meth c D g A a b nL k n Q M lv pc (iv x :: st) := fun H locs ls hP hD hS hl => lv_istore_n X.1 X.2.1 hdg hi hl hn rfl (fun ls1 hl1 => kk H locs ls1 hP hD hS (lv_sub hl1 ks hk))
theorem V_istore (X : vC p s m args meth c D g A own Ts cc nL) {i : Nat} {x : Int} (ks : List Nat) (hdg : decode cc pc = .ok (.istore i, 2)) (hn : i < nL) (hk : lv_pick ((i, Value.int (Int32.ofInt x)) :: lv.filter (fun q => !(q.1 == i) && !(q.1 + 1 == i && q.2.category == 2))) ks = lv1) (kk : vV p l e R s m args below meth c D g A a b nL k n Q M lv1 (pc + 2) st) : vV p l e R s m args below meth c D g A a b nL k n Q M lv pc (iv x :: st) := fun H locs ls hP hD hS hl => lv_istore X.1 X.2.1 hdg hl hn rfl (fun ls1 hl1 => kk H locs ls1 hP hD hS (lv_sub hl1 ks hk))
theorem V_astore_n (X : vC p s m args meth c D g A own Ts cc nL) {j : Fin 4} {i : Nat} {ad : Nat} (ks : List Nat) (hdg : decode cc pc = .ok (.astore_n j, 1)) (hi : (j : Nat) = i) (hn : i < nL) (hk : lv_pick ((i, Value.ref ad) :: lv.filter (fun q => !(q.1 == i) && !(q.1 + 1 == i && q.2.category == 2))) ks = lv1) (kk : vV p l e R s m args below meth c D g A a b nL k n Q M lv1 (pc + 1) st) : vV p l e R s m args below meth c D g A a b nL k n Q M lv pc (.ref ad :: st) := fun H locs ls hP hD hS hl => lv_astore_n X.1 X.2.1 hdg hi hl hn rfl (fun ls1 hl1 => kk H locs ls1 hP hD hS (lv_sub hl1 ks hk))
theorem V_astore (X : vC p s m args meth c D g A own Ts cc nL) {i : Nat} {ad : Nat} (ks : List Nat) (hdg : decode cc pc = .ok (.astore i, 2)) (hn : i < nL) (hk : lv_pick ((i, Value.ref ad) :: lv.filter (fun q => !(q.1 == i) && !(q.1 + 1 == i && q.2.category == 2))) ks = lv1) (kk : vV p l e R s m args below meth c D g A a b nL k n Q M lv1 (pc + 2) st) : vV p l e R s m args below meth c D g A a b nL k n Q M lv pc (.ref ad :: st) := fun H locs ls hP hD hS hl => lv_astore X.1 X.2.1 hdg hl hn rfl (fun ls1 hl1 => kk H locs ls1 hP hD hS (lv_sub hl1 ks hk))
theorem V_iinc (X : vC p s m args meth c D g A own Ts cc nL) {i q : Nat} {d : Int} (ks : List Nat) (hdg : decode cc pc = .ok (.iinc i d, 3)) (hq : lv[q]? = some (i, iv x)) (hn : i < nL) (hk : lv_pick ((i, Value.int (Int32.ofInt (x + d))) :: lv.filter (fun q => !(q.1 == i) && !(q.1 + 1 == i && q.2.category == 2))) ks = lv1) (kk : vV p l e R s m args below meth c D g A a b nL k n Q M lv1 (pc + 3) st) : vV p l e R s m args below meth c D g A a b nL k n Q M lv pc st := fun H locs ls hP hD hS hl => lv_iinc X.1 X.2.1 hdg hl hq (ofI_add x d) hn rfl (fun ls1 hl1 => kk H locs ls1 hP hD hS (lv_sub hl1 ks hk))
theorem V_iadd (X : vC p s m args meth c D g A own Ts cc nL) (hdg : decode cc pc = .ok (.iadd, 1)) (kk : vV p l e R s m args below meth c D g A a b nL k n Q M lv (pc + 1) (iv (x + y) :: st)) : vV p l e R s m args below meth c D g A a b nL k n Q M lv pc (iv y :: iv x :: st) := fun H locs ls hP hD hS hl => lv_iadd X.1 X.2.1 hdg (by rw [ofI_add]; exact (kk H locs ls hP hD hS hl))
theorem V_isub (X : vC p s m args meth c D g A own Ts cc nL) (hdg : decode cc pc = .ok (.isub, 1)) (kk : vV p l e R s m args below meth c D g A a b nL k n Q M lv (pc + 1) (iv (x - y) :: st)) : vV p l e R s m args below meth c D g A a b nL k n Q M lv pc (iv y :: iv x :: st) := fun H locs ls hP hD hS hl => lv_isub X.1 X.2.1 hdg (by rw [ofI_sub]; exact (kk H locs ls hP hD hS hl))
theorem V_imul (X : vC p s m args meth c D g A own Ts cc nL) (hdg : decode cc pc = .ok (.imul, 1)) (kk : vV p l e R s m args below meth c D g A a b nL k n Q M lv (pc + 1) (iv (x * y) :: st)) : vV p l e R s m args below meth c D g A a b nL k n Q M lv pc (iv y :: iv x :: st) := fun H locs ls hP hD hS hl => lv_imul X.1 X.2.1 hdg (by rw [ofI_mul]; exact (kk H locs ls hP hD hS hl))
theorem V_goto (X : vC p s m args meth c D g A own Ts cc nL) {off : Int} {tgt : Nat} (hdg : decode cc pc = .ok (.goto off, 3)) (ht : (pc : Int) + off = (tgt : Int)) (kk : vV p l e R s m args below meth c D g A a b nL k n Q M lv tgt st) : vV p l e R s m args below meth c D g A a b nL k n Q M lv pc st := fun H locs ls hP hD hS hl => lv_goto X.1 X.2.1 hdg ht (kk H locs ls hP hD hS hl)
theorem V_dup (X : vC p s m args meth c D g A own Ts cc nL) {v : Value} (hdg : decode cc pc = .ok (.dup, 1)) (hc : v.category = 1) (kk : vV p l e R s m args below meth c D g A a b nL k n Q M lv (pc + 1) (v :: v :: st)) : vV p l e R s m args below meth c D g A a b nL k n Q M lv pc (v :: st) := fun H locs ls hP hD hS hl => lv_dup X.1 X.2.1 hdg hc (kk H locs ls hP hD hS hl)
theorem V_dup2 (X : vC p s m args meth c D g A own Ts cc nL) {v u : Value} (hdg : decode cc pc = .ok (.dup2, 1)) (hv : v.category = 1) (hu : u.category = 1) (kk : vV p l e R s m args below meth c D g A a b nL k n Q M lv (pc + 1) (v :: u :: v :: u :: st)) : vV p l e R s m args below meth c D g A a b nL k n Q M lv pc (v :: u :: st) := fun H locs ls hP hD hS hl => lv_dup2_11 X.1 X.2.1 hdg hv hu (kk H locs ls hP hD hS hl)
theorem V_dup_x1 (X : vC p s m args meth c D g A own Ts cc nL) {v u : Value} (hdg : decode cc pc = .ok (.dup_x1, 1)) (hv : v.category = 1) (hu : u.category = 1) (kk : vV p l e R s m args below meth c D g A a b nL k n Q M lv (pc + 1) (v :: u :: v :: st)) : vV p l e R s m args below meth c D g A a b nL k n Q M lv pc (v :: u :: st) := fun H locs ls hP hD hS hl => lv_dup_x1 X.1 X.2.1 hdg hv hu (kk H locs ls hP hD hS hl)
theorem V_icmp_lt (X : vC p s m args meth c D g A own Ts cc nL) {off : Int} {tgt : Nat} (hx : inR x) (hy : inR y) (hdg : decode cc pc = .ok (.if_icmp .lt off, 3)) (ht : (pc : Int) + off = (tgt : Int)) (kt : x < y → vV p l e R s m args below meth c D g A a b nL k n Q M lv tgt st) (kf : ¬ (x < y) → vV p l e R s m args below meth c D g A a b nL k n Q M lv (pc + 3) st)  : vV p l e R s m args below meth c D g A a b nL k n Q M lv pc (iv y :: iv x :: st) := by
  intro H locs ls hP hD hS hl
  refine lv_icmp_lt X.1 X.2.1 hdg ht (fun h => ?_) (fun h => ?_)
  · exact kt ((ofI_lt hx hy).mp h) H locs ls hP hD hS hl
  · exact kf (fun z => h ((ofI_lt hx hy).mpr z)) H locs ls hP hD hS hl
theorem V_if_lt (X : vC p s m args meth c D g A own Ts cc nL) {off : Int} {tgt : Nat} (hx : inR x) (hdg : decode cc pc = .ok (.ifCond .lt off, 3)) (ht : (pc : Int) + off = (tgt : Int)) (kt : x < 0 → vV p l e R s m args below meth c D g A a b nL k n Q M lv tgt st) (kf : ¬ (x < 0) → vV p l e R s m args below meth c D g A a b nL k n Q M lv (pc + 3) st)  : vV p l e R s m args below meth c D g A a b nL k n Q M lv pc (iv x :: st) := by
  intro H locs ls hP hD hS hl
  refine lv_if_lt X.1 X.2.1 hdg ht (fun h => ?_) (fun h => ?_)
  · exact kt ((ofI_lt hx inR_0).mp h) H locs ls hP hD hS hl
  · exact kf (fun z => h ((ofI_lt hx inR_0).mpr z)) H locs ls hP hD hS hl
theorem V_icmp_ge (X : vC p s m args meth c D g A own Ts cc nL) {off : Int} {tgt : Nat} (hx : inR x) (hy : inR y) (hdg : decode cc pc = .ok (.if_icmp .ge off, 3)) (ht : (pc : Int) + off = (tgt : Int)) (kt : y ≤ x → vV p l e R s m args below meth c D g A a b nL k n Q M lv tgt st) (kf : ¬ (y ≤ x) → vV p l e R s m args below meth c D g A a b nL k n Q M lv (pc + 3) st)  : vV p l e R s m args below meth c D g A a b nL k n Q M lv pc (iv y :: iv x :: st) := by
  intro H locs ls hP hD hS hl
  refine lv_icmp_ge X.1 X.2.1 hdg ht (fun h => ?_) (fun h => ?_)
  · exact kt ((ofI_le hy hx).mp h) H locs ls hP hD hS hl
  · exact kf (fun z => h ((ofI_le hy hx).mpr z)) H locs ls hP hD hS hl
theorem V_if_ge (X : vC p s m args meth c D g A own Ts cc nL) {off : Int} {tgt : Nat} (hx : inR x) (hdg : decode cc pc = .ok (.ifCond .ge off, 3)) (ht : (pc : Int) + off = (tgt : Int)) (kt : 0 ≤ x → vV p l e R s m args below meth c D g A a b nL k n Q M lv tgt st) (kf : ¬ (0 ≤ x) → vV p l e R s m args below meth c D g A a b nL k n Q M lv (pc + 3) st)  : vV p l e R s m args below meth c D g A a b nL k n Q M lv pc (iv x :: st) := by
  intro H locs ls hP hD hS hl
  refine lv_if_ge X.1 X.2.1 hdg ht (fun h => ?_) (fun h => ?_)
  · exact kt ((ofI_le inR_0 hx).mp h) H locs ls hP hD hS hl
  · exact kf (fun z => h ((ofI_le inR_0 hx).mpr z)) H locs ls hP hD hS hl
theorem V_icmp_gt (X : vC p s m args meth c D g A own Ts cc nL) {off : Int} {tgt : Nat} (hx : inR x) (hy : inR y) (hdg : decode cc pc = .ok (.if_icmp .gt off, 3)) (ht : (pc : Int) + off = (tgt : Int)) (kt : y < x → vV p l e R s m args below meth c D g A a b nL k n Q M lv tgt st) (kf : ¬ (y < x) → vV p l e R s m args below meth c D g A a b nL k n Q M lv (pc + 3) st)  : vV p l e R s m args below meth c D g A a b nL k n Q M lv pc (iv y :: iv x :: st) := by
  intro H locs ls hP hD hS hl
  refine lv_icmp_gt X.1 X.2.1 hdg ht (fun h => ?_) (fun h => ?_)
  · exact kt ((ofI_lt hy hx).mp h) H locs ls hP hD hS hl
  · exact kf (fun z => h ((ofI_lt hy hx).mpr z)) H locs ls hP hD hS hl
theorem V_if_gt (X : vC p s m args meth c D g A own Ts cc nL) {off : Int} {tgt : Nat} (hx : inR x) (hdg : decode cc pc = .ok (.ifCond .gt off, 3)) (ht : (pc : Int) + off = (tgt : Int)) (kt : 0 < x → vV p l e R s m args below meth c D g A a b nL k n Q M lv tgt st) (kf : ¬ (0 < x) → vV p l e R s m args below meth c D g A a b nL k n Q M lv (pc + 3) st)  : vV p l e R s m args below meth c D g A a b nL k n Q M lv pc (iv x :: st) := by
  intro H locs ls hP hD hS hl
  refine lv_if_gt X.1 X.2.1 hdg ht (fun h => ?_) (fun h => ?_)
  · exact kt ((ofI_lt inR_0 hx).mp h) H locs ls hP hD hS hl
  · exact kf (fun z => h ((ofI_lt inR_0 hx).mpr z)) H locs ls hP hD hS hl
theorem V_icmp_le (X : vC p s m args meth c D g A own Ts cc nL) {off : Int} {tgt : Nat} (hx : inR x) (hy : inR y) (hdg : decode cc pc = .ok (.if_icmp .le off, 3)) (ht : (pc : Int) + off = (tgt : Int)) (kt : x ≤ y → vV p l e R s m args below meth c D g A a b nL k n Q M lv tgt st) (kf : ¬ (x ≤ y) → vV p l e R s m args below meth c D g A a b nL k n Q M lv (pc + 3) st)  : vV p l e R s m args below meth c D g A a b nL k n Q M lv pc (iv y :: iv x :: st) := by
  intro H locs ls hP hD hS hl
  refine lv_icmp_le X.1 X.2.1 hdg ht (fun h => ?_) (fun h => ?_)
  · exact kt ((ofI_le hx hy).mp h) H locs ls hP hD hS hl
  · exact kf (fun z => h ((ofI_le hx hy).mpr z)) H locs ls hP hD hS hl
theorem V_if_le (X : vC p s m args meth c D g A own Ts cc nL) {off : Int} {tgt : Nat} (hx : inR x) (hdg : decode cc pc = .ok (.ifCond .le off, 3)) (ht : (pc : Int) + off = (tgt : Int)) (kt : x ≤ 0 → vV p l e R s m args below meth c D g A a b nL k n Q M lv tgt st) (kf : ¬ (x ≤ 0) → vV p l e R s m args below meth c D g A a b nL k n Q M lv (pc + 3) st)  : vV p l e R s m args below meth c D g A a b nL k n Q M lv pc (iv x :: st) := by
  intro H locs ls hP hD hS hl
  refine lv_if_le X.1 X.2.1 hdg ht (fun h => ?_) (fun h => ?_)
  · exact kt ((ofI_le hx inR_0).mp h) H locs ls hP hD hS hl
  · exact kf (fun z => h ((ofI_le hx inR_0).mpr z)) H locs ls hP hD hS hl
theorem V_icmp_eq (X : vC p s m args meth c D g A own Ts cc nL) {off : Int} {tgt : Nat} (hx : inR x) (hy : inR y) (hdg : decode cc pc = .ok (.if_icmp .eq off, 3)) (ht : (pc : Int) + off = (tgt : Int)) (kt : x = y → vV p l e R s m args below meth c D g A a b nL k n Q M lv tgt st) (kf : ¬ (x = y) → vV p l e R s m args below meth c D g A a b nL k n Q M lv (pc + 3) st)  : vV p l e R s m args below meth c D g A a b nL k n Q M lv pc (iv y :: iv x :: st) := by
  intro H locs ls hP hD hS hl
  refine lv_icmp_eq X.1 X.2.1 hdg ht (fun h => ?_) (fun h => ?_)
  · exact kt ((ofI_eq hx hy).mp h) H locs ls hP hD hS hl
  · exact kf (fun z => h ((ofI_eq hx hy).mpr z)) H locs ls hP hD hS hl
theorem V_if_eq (X : vC p s m args meth c D g A own Ts cc nL) {off : Int} {tgt : Nat} (hx : inR x) (hdg : decode cc pc = .ok (.ifCond .eq off, 3)) (ht : (pc : Int) + off = (tgt : Int)) (kt : x = 0 → vV p l e R s m args below meth c D g A a b nL k n Q M lv tgt st) (kf : ¬ (x = 0) → vV p l e R s m args below meth c D g A a b nL k n Q M lv (pc + 3) st)  : vV p l e R s m args below meth c D g A a b nL k n Q M lv pc (iv x :: st) := by
  intro H locs ls hP hD hS hl
  refine lv_if_eq X.1 X.2.1 hdg ht (fun h => ?_) (fun h => ?_)
  · exact kt ((ofI_eq hx inR_0).mp h) H locs ls hP hD hS hl
  · exact kf (fun z => h ((ofI_eq hx inR_0).mpr z)) H locs ls hP hD hS hl
theorem V_icmp_ne (X : vC p s m args meth c D g A own Ts cc nL) {off : Int} {tgt : Nat} (hx : inR x) (hy : inR y) (hdg : decode cc pc = .ok (.if_icmp .ne off, 3)) (ht : (pc : Int) + off = (tgt : Int)) (kt : x ≠ y → vV p l e R s m args below meth c D g A a b nL k n Q M lv tgt st) (kf : ¬ (x ≠ y) → vV p l e R s m args below meth c D g A a b nL k n Q M lv (pc + 3) st)  : vV p l e R s m args below meth c D g A a b nL k n Q M lv pc (iv y :: iv x :: st) := by
  intro H locs ls hP hD hS hl
  refine lv_icmp_ne X.1 X.2.1 hdg ht (fun h => ?_) (fun h => ?_)
  · exact kt ((not_congr (ofI_eq hx hy)).mp h) H locs ls hP hD hS hl
  · exact kf (fun z => z ((ofI_eq hx hy).mp h)) H locs ls hP hD hS hl
theorem V_if_ne (X : vC p s m args meth c D g A own Ts cc nL) {off : Int} {tgt : Nat} (hx : inR x) (hdg : decode cc pc = .ok (.ifCond .ne off, 3)) (ht : (pc : Int) + off = (tgt : Int)) (kt : x ≠ 0 → vV p l e R s m args below meth c D g A a b nL k n Q M lv tgt st) (kf : ¬ (x ≠ 0) → vV p l e R s m args below meth c D g A a b nL k n Q M lv (pc + 3) st)  : vV p l e R s m args below meth c D g A a b nL k n Q M lv pc (iv x :: st) := by
  intro H locs ls hP hD hS hl
  refine lv_if_ne X.1 X.2.1 hdg ht (fun h => ?_) (fun h => ?_)
  · exact kt ((not_congr (ofI_eq hx inR_0)).mp h) H locs ls hP hD hS hl
  · exact kf (fun z => z ((ofI_eq hx inR_0).mp h)) H locs ls hP hD hS hl
theorem V_iald (X : vC p s m args meth c D g A own Ts cc nL) {q o j N : Nat} (hp : (WW g a b M)[q]? = some (b o j, .inl (g.1, N, .inl (fI M o j)))) (hx : 0 ≤ x ∧ x < (N : Int)) (hN : N < 2147483648) (hdg : decode cc pc = .ok (.iaload, 1)) (kk : vV p l e R s m args below meth c D g A a b nL k n Q M lv (pc + 1) (iv (M o j x.toNat) :: st)) : vV p l e R s m args below meth c D g A a b nL k n Q M lv pc (iv x :: .ref (b o j) :: st) := by
  intro H locs ls hP hD hS hl
  refine va_iald X.1 X.2.1 X.2.2.2.2.1.1 hP q 0 hp rfl (ofI_in hx hN) hdg ?_
  rw [ofI_cl hx.1 (by omega)]
  exact kk H locs ls hP hD hS hl
theorem V_zald (X : vC p s m args meth c D g A own Ts cc nL) {q o j N : Nat} (hp : (WW g a b M)[q]? = some (b o j, .inl (g.2.1, N, .inl (fI M o j)))) (hx : 0 ≤ x ∧ x < (N : Int)) (hN : N < 2147483648) (hdg : decode cc pc = .ok (.baload, 1)) (kk : vV p l e R s m args below meth c D g A a b nL k n Q M lv (pc + 1) (iv (M o j x.toNat) :: st)) : vV p l e R s m args below meth c D g A a b nL k n Q M lv pc (iv x :: .ref (b o j) :: st) := by
  intro H locs ls hP hD hS hl
  refine va_zald X.1 X.2.1 X.2.2.2.2.1.1 hP q 1 hp rfl (ofI_in hx hN) hdg ?_
  rw [ofI_cl hx.1 (by omega)]
  exact kk H locs ls hP hD hS hl
theorem V_iast (X : vC p s m args meth c D g A own Ts cc nL) {q o j N : Nat} (hp : (WW g a b M)[q]? = some (b o j, .inl (g.1, N, .inl (fI M o j)))) (hs : (WW g a b M).set q (b o j, .inl (g.1, N, .inl (fI (mset M o j x.toNat y) o j))) = WW g a b (mset M o j x.toNat y)) (hx : 0 ≤ x ∧ x < (N : Int)) (hN : N < 2147483648) (hdg : decode cc pc = .ok (.iastore, 1)) (kk : ∀ M1 : Mem, M1 = mset M o j x.toNat y → vV p l e R s m args below meth c D g A a b nL k n Q M1 lv (pc + 1) st) : vV p l e R s m args below meth c D g A a b nL k n Q M lv pc (iv y :: iv x :: .ref (b o j) :: st) := by
  intro H locs ls hP hD hS hl
  refine va_iast X.1 X.2.1 X.2.2.2.2.1.1 hP hD hS q 0 hp rfl (ofI_in hx hN) hdg (fun H1 locs1 hP1 hD1 hS1 => ?_)
  rw [ofI_upd M o j x y hx hN, hs] at hP1 hD1
  exact kk _ rfl H1 locs1 ls hP1 hD1 hS1 hl
theorem V_zast (X : vC p s m args meth c D g A own Ts cc nL) {q o j N : Nat} (hp : (WW g a b M)[q]? = some (b o j, .inl (g.2.1, N, .inl (fI M o j)))) (hs : (WW g a b M).set q (b o j, .inl (g.2.1, N, .inl (fI (mset M o j x.toNat y) o j))) = WW g a b (mset M o j x.toNat y)) (hx : 0 ≤ x ∧ x < (N : Int)) (hy : y = 0 ∨ y = 1) (hN : N < 2147483648) (hdg : decode cc pc = .ok (.bastore, 1)) (kk : ∀ M1 : Mem, M1 = mset M o j x.toNat y → vV p l e R s m args below meth c D g A a b nL k n Q M1 lv (pc + 1) st) : vV p l e R s m args below meth c D g A a b nL k n Q M lv pc (iv y :: iv x :: .ref (b o j) :: st) := by
  intro H locs ls hP hD hS hl
  refine va_zast X.1 X.2.1 X.2.2.2.2.1.1 hP hD hS q 1 hp rfl (ofI_in hx hN) hdg (fun H1 locs1 hP1 hD1 hS1 => ?_)
  rw [show vp_nar .boolean (Int32.ofInt y) = Int32.ofInt y by rcases hy with rfl | rfl <;> rfl, ofI_upd M o j x y hx hN, hs] at hP1 hD1
  exact kk _ rfl H1 locs1 ls hP1 hD1 hS1 hl
theorem V_get (X : vC p s m args meth c D g A own Ts cc nL) {ref C : String} {T : u_T} {N ci index : Nat} (hin : ∀ w ∈ u_ws C T N, w ∈ Ts) {q ad : Nat} {fs : List Value} (he : (WW g a b M)[q]? = some (ad, .inr (ci, fs))) (hc : vwCl[ci]? = some (C, T, N)) (i : Nat) (hi : i < N) (hlink : Cond.fieldLink own index ref (T i).2.1 (T i).2.2.1 ∈ Ts) (hsame : ∀ x, s.fieldFound? (T i).1 (T i).2.1 (T i).2.2.1 = some x → s.fieldFound? ref (T i).2.1 (T i).2.2.1 = some x) {v : Value} (hv : fs[i]? = some v) (hdg : decode cc pc = .ok (.getfield index, 3)) (kk : vV p l e R s m args below meth c D g A a b nL k n Q M lv (pc + 3) (v :: st)) : vV p l e R s m args below meth c D g A a b nL k n Q M lv pc (.ref ad :: st) := fun H locs ls hP hD hS hl => va_get X.1 X.2.1 X.2.2.2.1 hin X.2.2.1 X.2.2.2.2.1.1 hP q he hc i hi (X.2.2.2.1 _ hlink) hsame hv hdg (kk H locs ls hP hD hS hl)
theorem V_getN (X : vC p s m args meth c D g A own Ts cc nL) {ref C : String} {T : u_T} {N ci index : Nat} (hin : ∀ w ∈ u_ws C T N, w ∈ Ts) {q ad : Nat} {fs : List Value} (he : (WW g a b M)[q]? = some (ad, .inr (ci, fs))) (hc : vwCl[ci]? = some (C, T, N)) (i : Nat) (hi : i < N) {host : String} (hlink : Cond.fieldLinkNest own index ref (T i).2.1 (T i).2.2.1 host ∈ NWs) (hsame : ∀ x, s.fieldFound? (T i).1 (T i).2.1 (T i).2.2.1 = some x → s.fieldFound? ref (T i).2.1 (T i).2.2.1 = some x) {v : Value} (hv : fs[i]? = some v) (hdg : decode cc pc = .ok (.getfield index, 3)) (kk : vV p l e R s m args below meth c D g A a b nL k n Q M lv (pc + 3) (v :: st)) : vV p l e R s m args below meth c D g A a b nL k n Q M lv pc (.ref ad :: st) := fun H locs ls hP hD hS hl => va_getN X.1 X.2.1 X.2.2.2.1 hin X.2.2.1 X.2.2.2.2.1.1 hP q he hc i hi (va_Nw.use rfl (X.2.2.2.2.1.2.1 _ hlink)) hsame hv hdg (kk H locs ls hP hD hS hl)
theorem V_put (X : vC p s m args meth c D g A own Ts cc nL) {ref C : String} {T : u_T} {N ci index : Nat} (hin : ∀ w ∈ u_ws C T N, w ∈ Ts) {q ad : Nat} {fs : List Value} (he : (WW g a b M)[q]? = some (ad, .inr (ci, fs))) (hc : vwCl[ci]? = some (C, T, N)) (i : Nat) (hi : i < N) (ty0 : Nat → FieldType) (hty : ∀ k, k < N → parseFieldDescriptor (T k).2.2.1 = some (ty0 k)) (hnm : ∀ a, a < N → ∀ b, b < N → a ≠ b → (T a).2.1 ≠ (T b).2.1) (hfin : (T i).2.2.2 = false) {ty : FieldType} (hd : parseFieldDescriptor (T i).2.2.1 = some ty) (hty2 : ty = .int ∨ (ty = .boolean ∧ (x = 0 ∨ x = 1))) (hlen : i < fs.length) {o j : Nat} (hs : (WW g a b M).set q (ad, .inr (ci, fs.set i (iv x))) = WW g a b (mset M o j 0 x)) (hlink : Cond.fieldLink own index ref (T i).2.1 (T i).2.2.1 ∈ Ts) (hsame : ∀ x, s.fieldFound? (T i).1 (T i).2.1 (T i).2.2.1 = some x → s.fieldFound? ref (T i).2.1 (T i).2.2.1 = some x) (hdg : decode cc pc = .ok (.putfield index, 3)) (kk : ∀ M1 : Mem, M1 = mset M o j 0 x → vV p l e R s m args below meth c D g A a b nL k n Q M1 lv (pc + 3) st) : vV p l e R s m args below meth c D g A a b nL k n Q M lv pc (iv x :: .ref ad :: st) := by
  intro H locs ls hP hD hS hl
  refine va_put X.1 X.2.1 X.2.2.2.1 hin ty0 hty hnm X.2.2.1 X.2.2.2.2.1.1 hP hD hS q he hc i hi (X.2.2.2.1 _ hlink) hsame hfin (v := iv x) hd (by rcases hty2 with rfl | ⟨rfl, rfl | rfl⟩ <;> rfl) (by rcases hty2 with rfl | ⟨rfl, rfl | rfl⟩ <;> rfl) hlen hdg (fun H1 locs1 hP1 hD1 hS1 => ?_)
  rw [hs] at hP1 hD1
  exact kk _ rfl H1 locs1 ls hP1 hD1 hS1 hl
theorem V_putN (X : vC p s m args meth c D g A own Ts cc nL) {ref C : String} {T : u_T} {N ci index : Nat} (hin : ∀ w ∈ u_ws C T N, w ∈ Ts) {q ad : Nat} {fs : List Value} (he : (WW g a b M)[q]? = some (ad, .inr (ci, fs))) (hc : vwCl[ci]? = some (C, T, N)) (i : Nat) (hi : i < N) (ty0 : Nat → FieldType) (hty : ∀ k, k < N → parseFieldDescriptor (T k).2.2.1 = some (ty0 k)) (hnm : ∀ a, a < N → ∀ b, b < N → a ≠ b → (T a).2.1 ≠ (T b).2.1) (hfin : (T i).2.2.2 = false) {ty : FieldType} (hd : parseFieldDescriptor (T i).2.2.1 = some ty) (hty2 : ty = .int ∨ (ty = .boolean ∧ (x = 0 ∨ x = 1))) (hlen : i < fs.length) {o j : Nat} (hs : (WW g a b M).set q (ad, .inr (ci, fs.set i (iv x))) = WW g a b (mset M o j 0 x)) {host : String} (hlink : Cond.fieldLinkNest own index ref (T i).2.1 (T i).2.2.1 host ∈ NWs) (hsame : ∀ x, s.fieldFound? (T i).1 (T i).2.1 (T i).2.2.1 = some x → s.fieldFound? ref (T i).2.1 (T i).2.2.1 = some x) (hdg : decode cc pc = .ok (.putfield index, 3)) (kk : ∀ M1 : Mem, M1 = mset M o j 0 x → vV p l e R s m args below meth c D g A a b nL k n Q M1 lv (pc + 3) st) : vV p l e R s m args below meth c D g A a b nL k n Q M lv pc (iv x :: .ref ad :: st) := by
  intro H locs ls hP hD hS hl
  refine va_putN X.1 X.2.1 X.2.2.2.1 hin ty0 hty hnm X.2.2.1 X.2.2.2.2.1.1 hP hD hS q he hc i hi (va_Nw.use rfl (X.2.2.2.2.1.2.1 _ hlink)) hsame hfin (v := iv x) hd (by rcases hty2 with rfl | ⟨rfl, rfl | rfl⟩ <;> rfl) (by rcases hty2 with rfl | ⟨rfl, rfl | rfl⟩ <;> rfl) hlen hdg (fun H1 locs1 hP1 hD1 hS1 => ?_)
  rw [hs] at hP1 hD1
  exact kk _ rfl H1 locs1 ls hP1 hD1 hS1 hl
theorem V_min (X : vC p s m args meth c D g A own Ts cc nL) {index : Nat} (hx : inR x) (hy : inR y) (hlink : Cond.methodLink own index Lib.Math.min.name ∈ Ts) (hstat : Cond.static Lib.Math.min.name ∈ Ts) (hini : Cond.initialized "java/lang/Math" ∈ Ts) (hcode : Cond.code Lib.Math.min.name Lib.Math.min.code 2 (some .int) ∈ Ts) (hfr : 1 ≤ R.frames) (hlo : (st.map fun v => v.category).sum + 13 ≤ R.locals) (hk : k ≤ R.cells) (hn : n ≤ R.slots) (hdg : decode cc pc = .ok (.invokestatic index, 3)) (kk : vV p l e R s m args below meth c D g A a b nL k n Q M lv (pc + 3) (iv (min x y) :: st)) : vV p l e R s m args below meth c D g A a b nL k n Q M lv pc (iv y :: iv x :: st) := by
  intro H locs ls hP hD hS hl
  refine va_mmin X.1 X.2.1 (X.2.2.2.2.2.1.trans hl.1.symm) X.2.2.1 (X.2.2.2.1 _ hlink) (X.2.2.2.1 _ hstat) (X.2.2.2.1 _ hini) (X.2.2.2.1 _ hcode) hfr hlo hk hn hdg ?_
  rw [ofI_min hx hy]
  exact kk H locs ls hP hD hS hl
theorem V_idiv (X : vC p s m args meth c D g A own Ts cc nL) (hx : 0 ≤ x ∧ x < 2147483648) (hy : 0 < y ∧ y < 2147483648) (hdg : decode cc pc = .ok (.idiv, 1)) (kk : vV p l e R s m args below meth c D g A a b nL k n Q M lv (pc + 1) (iv (x / y) :: st)) : vV p l e R s m args below meth c D g A a b nL k n Q M lv pc (iv y :: iv x :: st) := by
  intro H locs ls hP hD hS hl
  refine lv_idiv X.1 X.2.1 hdg (fun z => ?_) ?_
  · exact absurd ((ofI_eq ⟨by omega, by omega⟩ inR_0).mp z) (by omega)
  · rw [ofI_div hx hy]
    exact kk H locs ls hP hD hS hl
theorem V_irem (X : vC p s m args meth c D g A own Ts cc nL) (hx : 0 ≤ x ∧ x < 2147483648) (hy : 0 < y ∧ y < 2147483648) (hdg : decode cc pc = .ok (.irem, 1)) (kk : vV p l e R s m args below meth c D g A a b nL k n Q M lv (pc + 1) (iv (x % y) :: st)) : vV p l e R s m args below meth c D g A a b nL k n Q M lv pc (iv y :: iv x :: st) := by
  intro H locs ls hP hD hS hl
  refine lv_irem X.1 X.2.1 hdg (fun z => ?_) ?_
  · exact absurd ((ofI_eq ⟨by omega, by omega⟩ inR_0).mp z) (by omega)
  · rw [ofI_rem hx hy]
    exact kk H locs ls hP hD hS hl
theorem V_alen (X : vC p s m args meth c D g A own Ts cc nL) {q o j N : Nat} (hp : (WW g a b M)[q]? = some (b o j, .inl (g.1, N, .inl (fI M o j)))) (hdg : decode cc pc = .ok (.arraylength, 1)) (kk : vV p l e R s m args below meth c D g A a b nL k n Q M lv (pc + 1) (iv (N : Int) :: st)) : vV p l e R s m args below meth c D g A a b nL k n Q M lv pc (.ref (b o j) :: st) := fun H locs ls hP hD hS hl => va_alen X.1 X.2.1 X.2.2.2.2.1.1 hP q 0 hp rfl rfl hdg (kk H locs ls hP hD hS hl)
theorem V_copy (X : vC p s m args meth c D g A own Ts cc nL) {index q1 q2 o1 k1 n1 : Nat} (hlink : Cond.methodLink own index arraycopyName ∈ Ts) (hnat : Cond.native arraycopyName ∈ Ts) (hstat : Cond.static arraycopyName ∈ Ts) (hini : Cond.initialized "java/lang/System" ∈ Ts) (hp : (WW g a b M)[q1]? = some (b o1 k1, .inl (g.1, n1, .inl (fI M o1 k1)))) (hp2 : (WW g a b M)[q2]? = some (b 8 3, .inl (g.1, 12, .inl (fI M 8 3)))) (hq2 : q2 = pos83) (hn1 : 12 ≤ n1) (hfr : 1 ≤ R.frames) (hlo : (st.map fun v => v.category).sum + (nativeFrameWords "java/lang/System" "arraycopy" 5 + 11) ≤ R.locals) (hdg : decode cc pc = .ok (.invokestatic index, 3)) (kk : ∀ M1 : Mem, M1 = mcopy M o1 k1 8 3 12 → vV p l e R s m args below meth c D g A a b nL k n Q M1 lv (pc + 3) st) : vV p l e R s m args below meth c D g A a b nL k n Q M lv pc (iv 12 :: iv 0 :: .ref (b 8 3) :: iv 0 :: .ref (b o1 k1) :: st) := by
  intro H locs ls hP hD hS hl
  refine va_copyi X.1 X.2.1 (X.2.2.2.2.2.1.trans hl.1.symm) X.2.2.1 (X.2.2.2.1 _ hlink) (X.2.2.2.1 _ hnat) (X.2.2.2.1 _ hstat) (X.2.2.2.1 _ hini) X.2.2.2.2.1.1 hP hD hS q1 q2 0 0 hp hp2 rfl rfl rfl (by decide) (by decide) (by decide) (by show 0 + 12 ≤ n1; omega) (by decide) (fun i hi => rfl) hfr hlo hdg (fun H1 locs1 hP1 hD1 hS1 => ?_)
  subst hq2
  rw [show va_cpy (fI M o1 k1) (fI M 8 3) (Int32.ofInt 0).toNatClampNeg (Int32.ofInt 0).toNatClampNeg (Int32.ofInt 12).toNatClampNeg = fI (mcopy M o1 k1 8 3 12) 8 3 from by
    funext i
    show (if 0 ≤ i ∧ i < 0 + 12 then Int32.ofInt (M o1 k1 (0 + (i - 0))) else Int32.ofInt (M 8 3 i)) = Int32.ofInt (if 8 = 8 ∧ 3 = 3 ∧ i < 12 then M o1 k1 i else M 8 3 i)
    by_cases hi : i < 12
    · rw [if_pos ⟨Nat.zero_le _, by omega⟩, if_pos ⟨rfl, rfl, hi⟩]; simp
    · rw [if_neg (fun z => hi (by omega)), if_neg (fun z => hi z.2.2)], sC_83] at hP1 hD1
  exact kk _ rfl H1 locs1 ls hP1 hD1 hS1 hl
theorem V_top {x : Int} (kk : ∀ y : Int, y = x → vV p l e R s m args below meth c D g A a b nL k n Q M lv pc (iv y :: st)) : vV p l e R s m args below meth c D g A a b nL k n Q M lv pc (iv x :: st) := kk x rfl
theorem V_sub (ks : List Nat) (h : lv_pick lv ks = lv1) (kk : vV p l e R s m args below meth c D g A a b nL k n Q M lv1 pc st) : vV p l e R s m args below meth c D g A a b nL k n Q M lv pc st := fun H locs ls hP hD hS hl => kk H locs ls hP hD hS (lv_sub hl ks h)
end VROWS
