/-! the law calls its helpers -/
theorem YX.at {s U : State} (h : YX s) (hW : s.WarmedH U.vm) : YX U := by
  refine ⟨⟨va_Nc.moved hW.alike h.1.1, va_Nc.moved hW.alike h.1.2.1, va_Nc.moved hW.alike h.1.2.2⟩, fun av E hE => ?_⟩
  obtain ⟨c3, c4, h3, h4, h5⟩ := Cond.castable_spec (h.2 av E hE)
  have e3 : U.vm.findClass E = some c3 := by rw [hW.alike.findClass]; exact h3
  have e4 : U.vm.findClass E = some c4 := by rw [hW.alike.findClass]; exact h4
  have e5 : U.vm.assignable c3 c4 = true := by rw [hW.alike.assignable]; exact h5
  cases Option.some.inj (e3.symm.trans e4)
  simp [Cond.before, Cond.holds, Cond.value, e3, e5]
theorem YX.calling {U : State} (f : JFrame) (mk : MethodId) (av : Array Value) (h : YX U) : YX (U.calling f mk av) :=
  ⟨⟨va_Nc.moved (u := U) (U := U.calling f mk av) (Vm.Alike.refl U.vm) h.1.1, va_Nc.moved (u := U) (U := U.calling f mk av) (Vm.Alike.refl U.vm) h.1.2.1, va_Nc.moved (u := U) (U := U.calling f mk av) (Vm.Alike.refl U.vm) h.1.2.2⟩, fun av2 E hE => h.2 av2 E hE⟩
theorem cPh_blind {D : va_G} {g : GT} {A : Nat → Prop} {a : Nat → Nat} {b : Nat → Nat → Nat} {M : Mem} {av : List Value} : FrameBlind (cPh D g A a b M av) := fun v U f mk q => ⟨q.1, q.2.1, q.2.2.1, q.2.2.2.1.calling f mk v, q.2.2.2.2.calling f mk v⟩
section STATICS
variable {p : Program} {l : Launch} {e : Env} {R : Room} {s : State} {m : MethodId} {args : Array Value} {below : List Frame} {meth : Method} {c : Code} {D : va_G} {g : GT} {A : Nat → Prop} {a : Nat → Nat} {b : Nat → Nat → Nat} {nL : Nat} {k n : Nat} {Q : State → Prop} {M : Mem} {lv lv1 : List (Nat × Value)} {pc : Nat} {st st0 : List Value} {own : String} {Ts : List Cond} {cc : ByteArray} {x : Int} {y : MethodName} {bytes : ByteArray} {maxL mc ms nn index : Nat} {ret : Option FieldType} {ws : List Cond} {rm : Room} {As : List Value} {hh : List (Nat × Nat × Nat × Nat)}
theorem V_preSh (X : vC p s m args meth c D g A own Ts cc nL) (hY : YX s) {H : Heap} {locs : List Loc} (hP : va_P D vwCl (WW g a b M) H) (hD : va_D A (WW g a b M)) (hS : va_S A s.heap H locs) : PreS s H (cPh D g A a b M As) As :=
  ⟨cPh_blind, fun U hU hW => ⟨rfl, by rw [hU]; exact hP, hD, X.2.2.2.2.1.at hS hU hW, hY.at hW⟩⟩
/-- a helper is called: it never throws -/
theorem V_callH (X : vC p s m args meth c D g A own Ts cc nL) (hY : YX s) (post : Int → Mem → Prop) (hM : vx_Met l y ws rm (cPh D g A a b M As) (cQi D g A a b post) (cX D g A a b (fun _ _ => False)) mc ms A) (cw : vx_CSW R s args own index y bytes maxL ret hh ws rm mc ms nn) (hn : As.length = nn) (hr : (st.map fun v => v.category).sum ≤ 8) (hf : k + mc ≤ R.cells ∧ n + ms ≤ R.slots) (hst : As.reverse ++ st = st0) (hdg : decode cc pc = .ok (.invokestatic index, 3)) (kk : ∀ (r : Int) (M1 : Mem), post r M1 → vV p l e R s m args below meth c D g A a b nL (k + mc) (n + ms) Q M1 lv (pc + 3) (iv r :: st)) : vV p l e R s m args below meth c D g A a b nL k n Q M lv pc st0 := by
  intro H locs ls hP hD hS hl
  subst hst
  exact vx_calli (vx_runSX (V_fix X) hM cw (V_preSh X hY hP hD hS) rfl hn hl.1 rfl (lv_room hr) hdg hf) hS (fun q _ h => h) (fun q h => h) (fun q _ h => h) (fun E ce q9 u t H1 locs1 ht hvm _ hB hz hk hS1 h1 h2 h3 => hB.1.elim) (fun r u t H1 locs1 ht hvm hw hB hz hk hS1 => by
    obtain ⟨z, rfl, hw⟩ := hw
    exact kk z u hw H1 locs1 ls (ht ▸ hB.1) hB.2 hS1 hl)
end STATICS
