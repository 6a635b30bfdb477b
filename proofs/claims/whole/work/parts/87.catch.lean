/-! the law's helpers: longs handed out, exceptions caught -/
def j32 (x : Int) : Int := (Int32.ofInt x).toInt
section CATCH
variable {p : Program} {l : Launch} {e : Env} {R : Room} {s : State} {m : MethodId} {args : Array Value} {below : List Frame} {meth : Method} {c : Code} {D : va_G} {g : GT} {A : Nat → Prop} {a : Nat → Nat} {b : Nat → Nat → Nat} {nL : Nat} {k n : Nat} {Q : State → Prop} {M : Mem} {lv lv1 : List (Nat × Value)} {pc : Nat} {st st0 : List Value} {own : String} {Ts : List Cond} {cc : ByteArray} {x y : Int}
theorem V_i2l (X : vC p s m args meth c D g A own Ts cc nL) (hdg : decode cc pc = .ok (.i2l, 1)) (kk : vV p l e R s m args below meth c D g A a b nL k n Q M lv (pc + 1) (.long (Int64.ofInt (j32 x)) :: st)) : vV p l e R s m args below meth c D g A a b nL k n Q M lv pc (iv x :: st) := fun H locs ls hP hD hS hl => lv_i2l X.1 X.2.1 hdg rfl (kk H locs ls hP hD hS hl)
theorem V_last0 (X : vC p s m args meth c D g A own Ts cc nL) (hdg : decode cc pc = .ok (.lastore, 1)) (kk : ∀ M1 : Mem, M1 = mset M 14 0 0 y → vV p l e R s m args below meth c D g A a b nL k n Q M1 lv (pc + 1) st) : vV p l e R s m args below meth c D g A a b nL k n Q M lv pc (.long (Int64.ofInt y) :: iv 0 :: .ref (b 14 0) :: st) := by
  intro H locs ls hP hD hS hl
  have hin : vp_in (Int32.ofInt 0) 1 := ofI_in (x := 0) ⟨by omega, by omega⟩ (by decide)
  refine va_last X.1 X.2.1 X.2.2.2.2.1.1 hP hD hS 81 2 gA_14_0 rfl hin hdg (fun H1 locs1 hP1 hD1 hS1 => ?_)
  have e : vp_updL (fun i => Int64.ofInt (M 14 0 i)) (Int32.ofInt 0).toNatClampNeg (Int64.ofInt y) = fun i => Int64.ofInt (mset M 14 0 0 y 14 0 i) := by
    funext j
    have z : (Int32.ofInt 0).toNatClampNeg = 0 := by decide
    rw [z]
    unfold vp_updL mset
    by_cases q : j = 0
    · rw [if_pos q, if_pos ⟨rfl, rfl, q⟩]
    · rw [if_neg q, if_neg (fun w => q w.2.2)]
  rw [e, sA_14_0] at hP1 hD1
  exact kk _ rfl H1 locs1 ls hP1 hD1 hS1 hl
theorem V_lconst (X : vC p s m args meth c D g A own Ts cc nL) {i : Fin 2} (hdg : decode cc pc = .ok (.lconst i, 1)) (hv : Int64.ofNat (i : Nat) = Int64.ofInt y) (kk : vV p l e R s m args below meth c D g A a b nL k n Q M lv (pc + 1) (.long (Int64.ofInt y) :: st)) : vV p l e R s m args below meth c D g A a b nL k n Q M lv pc st := fun H locs ls hP hD hS hl => lv_lconst X.1 X.2.1 hdg hv (kk H locs ls hP hD hS hl)
/-- caught by a row of this method's table -/
theorem V_catch (X : vC p s m args meth c D g A own Ts cc nL) {E name : String} {ce : Cell} {q9 : Addr} {H1 : Heap} {locs1 : List Loc} {ls : Array Slot} (pre : List ExceptionTableEntry) (x : ExceptionTableEntry) (suf : List ExceptionTableEntry) (hsplit : c.exceptionTable.toList = pre ++ x :: suf)
    (hpass : ∀ z ∈ pre, covers z pc = false ∨ (z.catchType ≠ 0 ∧ ∃ nm : String, Cond.classLink own z.catchType nm ∈ Ts ∧ va_Nc E nm s)) (hx : covers x pc = true) (h0 : x.catchType ≠ 0)
    (hlink : Cond.classLink own x.catchType name ∈ Ts) (hcast : (Cond.castable E name).before args s = true) (hP : va_P D vwCl (WW g a b M) H1) (hD : va_D A (WW g a b M)) (hS : va_S A s.heap H1 locs1) (hl : lv_has ls nL lv) (hcell : H1[q9]? = some ce) (hv : ce.vm = .none) (hcl : s.vm.findClass E = some ce.cls)
    (kk : ∀ q9 : Addr, vV p l e R s m args below meth c D g A a b nL k n Q M lv x.handlerPc [.ref q9]) : vx_W p l e R s m args below meth c H1 locs1 k n Q (F0 m pc ls st) q9 :=
  vx_catch X.2.2.1 pre x suf hsplit (fun z hz => (hpass z hz).imp id (fun ⟨h1, nm, h2, h3⟩ => ⟨h1, nm, X.2.2.2.1 _ h2, h3⟩)) hx h0 (X.2.2.2.1 _ hlink) hcast hcell hv hcl (kk q9 H1 locs1 ls hP hD hS hl)
end CATCH
/-! what the helpers want besides: which exception is no other -/
def EIx : String := "java/lang/IndexOutOfBoundsException"
def EIa : String := "java/lang/IllegalArgumentException"
def EIs : String := "java/lang/IllegalStateException"
def YX (U : State) : Prop := (va_Nc "java/lang/IllegalArgumentException" "java/lang/IndexOutOfBoundsException" U ∧ va_Nc "java/lang/IllegalStateException" "java/lang/IndexOutOfBoundsException" U ∧ va_Nc "java/lang/IllegalStateException" "java/lang/IllegalArgumentException" U) ∧ ∀ (av : Array Value) (E : String), E = "java/lang/IndexOutOfBoundsException" ∨ E = "java/lang/IllegalArgumentException" ∨ E = "java/lang/IllegalStateException" → (Cond.castable E E).before av U = true
def cPh (D : va_G) (g : GT) (A : Nat → Prop) (a : Nat → Nat) (b : Nat → Nat → Nat) (M : Mem) (av : List Value) : Array Value → State → Prop := va_Pc av (fun U => va_P D vwCl (WW g a b M) U.heap ∧ va_D A (WW g a b M) ∧ GX D g A U ∧ YX U)
