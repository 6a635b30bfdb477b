/-! the constructors (4) -/
def nwX11 (g : GT) (h0 : Nat) (h : Nat → Nat) : va_W := [(h0, .inr (11, [.ref (h 0), .ref (h 1), .ref (h 2), .ref (h 3), .ref (h 4), .ref (h 5), .ref (h 6), iv 1, .ref (h 7), .ref (h 8), .ref (h 9), .ref (h 10), .ref (h 11), .ref (h 12), .ref (h 13), .ref (h 14), iv 0, iv 0, .ref (h 15), .ref (h 16), iv 0, .ref (h 17), .ref (h 18), iv 0])), ((h 0), .inl (g.1, 24, .inl (fun _ => Int32.ofInt 0))), ((h 1), .inl (g.1, 24, .inl (fun _ => Int32.ofInt 0))), ((h 2), .inl (g.1, 24, .inl (fun _ => Int32.ofInt 0))), ((h 3), .inl (g.1, 24, .inl (fun _ => Int32.ofInt 0))), ((h 4), .inl (g.1, 24, .inl (fun _ => Int32.ofInt 0))), ((h 5), .inl (g.1, 2, .inl (fun _ => Int32.ofInt 0))), ((h 6), .inl (g.1, 12, .inl (fF 12 1))), ((h 7), .inl (g.1, 28561, .inl (fun _ => Int32.ofInt 0))), ((h 8), .inl (g.1, 12, .inl (fun _ => Int32.ofInt 0))), ((h 9), .inl (g.1, 12, .inl (fun _ => Int32.ofInt 0))), ((h 10), .inl (g.2.1, 12, .inl (fun _ => Int32.ofInt 0))), ((h 11), .inl (g.2.1, 12, .inl (fun _ => Int32.ofInt 0))), ((h 12), .inl (g.1, 96, .inl (fun _ => Int32.ofInt 0))), ((h 13), .inl (g.1, 24, .inl (fun _ => Int32.ofInt 0))), ((h 14), .inl (g.1, 24, .inl (fun _ => Int32.ofInt 0))), ((h 15), .inl (g.1, 12, .inl (fun _ => Int32.ofInt 0))), ((h 16), .inl (g.1, 12, .inl (fun _ => Int32.ofInt 0))), ((h 17), .inl (g.1, 144, .inl (fun _ => Int32.ofInt 0))), ((h 18), .inl (g.1, 13, .inl (fun _ => Int32.ofInt 0)))]
theorem dX11_init_0 : decode cX11_init 0 = .ok (.aload_n 0, 1) := by decide +kernel
theorem dX11_init_1 : decode cX11_init 1 = .ok (.invokespecial 1, 3) := by decide +kernel
theorem dX11_init_4 : decode cX11_init 4 = .ok (.aload_n 0, 1) := by decide +kernel
theorem dX11_init_5 : decode cX11_init 5 = .ok (.bipush 24, 2) := by decide +kernel
theorem dX11_init_7 : decode cX11_init 7 = .ok (.newarray .int, 2) := by decide +kernel
theorem dX11_init_9 : decode cX11_init 9 = .ok (.putfield 7, 3) := by decide +kernel
theorem dX11_init_12 : decode cX11_init 12 = .ok (.aload_n 0, 1) := by decide +kernel
theorem dX11_init_13 : decode cX11_init 13 = .ok (.bipush 24, 2) := by decide +kernel
theorem dX11_init_15 : decode cX11_init 15 = .ok (.newarray .int, 2) := by decide +kernel
theorem dX11_init_17 : decode cX11_init 17 = .ok (.putfield 13, 3) := by decide +kernel
theorem dX11_init_20 : decode cX11_init 20 = .ok (.aload_n 0, 1) := by decide +kernel
theorem dX11_init_21 : decode cX11_init 21 = .ok (.bipush 24, 2) := by decide +kernel
theorem dX11_init_23 : decode cX11_init 23 = .ok (.newarray .int, 2) := by decide +kernel
theorem dX11_init_25 : decode cX11_init 25 = .ok (.putfield 16, 3) := by decide +kernel
theorem dX11_init_28 : decode cX11_init 28 = .ok (.aload_n 0, 1) := by decide +kernel
theorem dX11_init_29 : decode cX11_init 29 = .ok (.bipush 24, 2) := by decide +kernel
theorem dX11_init_31 : decode cX11_init 31 = .ok (.newarray .int, 2) := by decide +kernel
theorem dX11_init_33 : decode cX11_init 33 = .ok (.putfield 19, 3) := by decide +kernel
theorem dX11_init_36 : decode cX11_init 36 = .ok (.aload_n 0, 1) := by decide +kernel
theorem dX11_init_37 : decode cX11_init 37 = .ok (.bipush 24, 2) := by decide +kernel
theorem dX11_init_39 : decode cX11_init 39 = .ok (.newarray .int, 2) := by decide +kernel
theorem dX11_init_41 : decode cX11_init 41 = .ok (.putfield 22, 3) := by decide +kernel
theorem dX11_init_44 : decode cX11_init 44 = .ok (.aload_n 0, 1) := by decide +kernel
theorem dX11_init_45 : decode cX11_init 45 = .ok (.iconst 2, 1) := by decide +kernel
theorem dX11_init_46 : decode cX11_init 46 = .ok (.newarray .int, 2) := by decide +kernel
theorem dX11_init_48 : decode cX11_init 48 = .ok (.putfield 25, 3) := by decide +kernel
theorem dX11_init_51 : decode cX11_init 51 = .ok (.aload_n 0, 1) := by decide +kernel
theorem dX11_init_52 : decode cX11_init 52 = .ok (.bipush 12, 2) := by decide +kernel
theorem dX11_init_54 : decode cX11_init 54 = .ok (.newarray .int, 2) := by decide +kernel
theorem dX11_init_56 : decode cX11_init 56 = .ok (.putfield 28, 3) := by decide +kernel
theorem dX11_init_59 : decode cX11_init 59 = .ok (.aload_n 0, 1) := by decide +kernel
theorem dX11_init_60 : decode cX11_init 60 = .ok (.iconst 1, 1) := by decide +kernel
theorem dX11_init_61 : decode cX11_init 61 = .ok (.putfield 31, 3) := by decide +kernel
theorem dX11_init_64 : decode cX11_init 64 = .ok (.aload_n 0, 1) := by decide +kernel
theorem dX11_init_65 : decode cX11_init 65 = .ok (.sipush 28561, 3) := by decide +kernel
theorem dX11_init_68 : decode cX11_init 68 = .ok (.newarray .int, 2) := by decide +kernel
theorem dX11_init_70 : decode cX11_init 70 = .ok (.putfield 35, 3) := by decide +kernel
theorem dX11_init_73 : decode cX11_init 73 = .ok (.aload_n 0, 1) := by decide +kernel
theorem dX11_init_74 : decode cX11_init 74 = .ok (.bipush 12, 2) := by decide +kernel
theorem dX11_init_76 : decode cX11_init 76 = .ok (.newarray .int, 2) := by decide +kernel
theorem dX11_init_78 : decode cX11_init 78 = .ok (.putfield 38, 3) := by decide +kernel
theorem dX11_init_81 : decode cX11_init 81 = .ok (.aload_n 0, 1) := by decide +kernel
theorem dX11_init_82 : decode cX11_init 82 = .ok (.bipush 12, 2) := by decide +kernel
theorem dX11_init_84 : decode cX11_init 84 = .ok (.newarray .int, 2) := by decide +kernel
theorem dX11_init_86 : decode cX11_init 86 = .ok (.putfield 41, 3) := by decide +kernel
theorem dX11_init_89 : decode cX11_init 89 = .ok (.aload_n 0, 1) := by decide +kernel
theorem dX11_init_90 : decode cX11_init 90 = .ok (.bipush 12, 2) := by decide +kernel
theorem dX11_init_92 : decode cX11_init 92 = .ok (.newarray .boolean, 2) := by decide +kernel
theorem dX11_init_94 : decode cX11_init 94 = .ok (.putfield 44, 3) := by decide +kernel
theorem dX11_init_97 : decode cX11_init 97 = .ok (.aload_n 0, 1) := by decide +kernel
theorem dX11_init_98 : decode cX11_init 98 = .ok (.bipush 12, 2) := by decide +kernel
theorem dX11_init_100 : decode cX11_init 100 = .ok (.newarray .boolean, 2) := by decide +kernel
theorem dX11_init_102 : decode cX11_init 102 = .ok (.putfield 48, 3) := by decide +kernel
theorem dX11_init_105 : decode cX11_init 105 = .ok (.aload_n 0, 1) := by decide +kernel
theorem dX11_init_106 : decode cX11_init 106 = .ok (.bipush 96, 2) := by decide +kernel
theorem dX11_init_108 : decode cX11_init 108 = .ok (.newarray .int, 2) := by decide +kernel
theorem dX11_init_110 : decode cX11_init 110 = .ok (.putfield 51, 3) := by decide +kernel
theorem dX11_init_113 : decode cX11_init 113 = .ok (.aload_n 0, 1) := by decide +kernel
theorem dX11_init_114 : decode cX11_init 114 = .ok (.bipush 24, 2) := by decide +kernel
theorem dX11_init_116 : decode cX11_init 116 = .ok (.newarray .int, 2) := by decide +kernel
theorem dX11_init_118 : decode cX11_init 118 = .ok (.putfield 54, 3) := by decide +kernel
theorem dX11_init_121 : decode cX11_init 121 = .ok (.aload_n 0, 1) := by decide +kernel
theorem dX11_init_122 : decode cX11_init 122 = .ok (.bipush 24, 2) := by decide +kernel
theorem dX11_init_124 : decode cX11_init 124 = .ok (.newarray .int, 2) := by decide +kernel
theorem dX11_init_126 : decode cX11_init 126 = .ok (.putfield 57, 3) := by decide +kernel
theorem dX11_init_129 : decode cX11_init 129 = .ok (.aload_n 0, 1) := by decide +kernel
theorem dX11_init_130 : decode cX11_init 130 = .ok (.bipush 12, 2) := by decide +kernel
theorem dX11_init_132 : decode cX11_init 132 = .ok (.newarray .int, 2) := by decide +kernel
theorem dX11_init_134 : decode cX11_init 134 = .ok (.putfield 60, 3) := by decide +kernel
theorem dX11_init_137 : decode cX11_init 137 = .ok (.aload_n 0, 1) := by decide +kernel
theorem dX11_init_138 : decode cX11_init 138 = .ok (.bipush 12, 2) := by decide +kernel
theorem dX11_init_140 : decode cX11_init 140 = .ok (.newarray .int, 2) := by decide +kernel
theorem dX11_init_142 : decode cX11_init 142 = .ok (.putfield 63, 3) := by decide +kernel
theorem dX11_init_145 : decode cX11_init 145 = .ok (.aload_n 0, 1) := by decide +kernel
theorem dX11_init_146 : decode cX11_init 146 = .ok (.sipush 144, 3) := by decide +kernel
theorem dX11_init_149 : decode cX11_init 149 = .ok (.newarray .int, 2) := by decide +kernel
theorem dX11_init_151 : decode cX11_init 151 = .ok (.putfield 66, 3) := by decide +kernel
theorem dX11_init_154 : decode cX11_init 154 = .ok (.aload_n 0, 1) := by decide +kernel
theorem dX11_init_155 : decode cX11_init 155 = .ok (.bipush 13, 2) := by decide +kernel
theorem dX11_init_157 : decode cX11_init 157 = .ok (.newarray .int, 2) := by decide +kernel
theorem dX11_init_159 : decode cX11_init 159 = .ok (.putfield 69, 3) := by decide +kernel
theorem dX11_init_162 : decode cX11_init 162 = .ok (.iconst 0, 1) := by decide +kernel
theorem dX11_init_163 : decode cX11_init 163 = .ok (.istore_n 1, 1) := by decide +kernel
theorem dX11_init_164 : decode cX11_init 164 = .ok (.iload_n 1, 1) := by decide +kernel
theorem dX11_init_165 : decode cX11_init 165 = .ok (.bipush 12, 2) := by decide +kernel
theorem dX11_init_167 : decode cX11_init 167 = .ok (.if_icmp .ge 16, 3) := by decide +kernel
theorem dX11_init_170 : decode cX11_init 170 = .ok (.aload_n 0, 1) := by decide +kernel
theorem dX11_init_171 : decode cX11_init 171 = .ok (.getfield 28, 3) := by decide +kernel
theorem dX11_init_174 : decode cX11_init 174 = .ok (.iload_n 1, 1) := by decide +kernel
theorem dX11_init_175 : decode cX11_init 175 = .ok (.iconst 1, 1) := by decide +kernel
theorem dX11_init_176 : decode cX11_init 176 = .ok (.iastore, 1) := by decide +kernel
theorem dX11_init_177 : decode cX11_init 177 = .ok (.iinc 1 1, 3) := by decide +kernel
theorem dX11_init_180 : decode cX11_init 180 = .ok (.goto (-16), 3) := by decide +kernel
theorem dX11_init_183 : decode cX11_init 183 = .ok (.return_, 1) := by decide +kernel
theorem lkI_X11_0 : Cond.methodLink RX11 1 objectInit ∈ wsX11_init := by decide +kernel
theorem lkI_X11_1 : Cond.instanceMethod objectInit ∈ wsX11_init := by decide +kernel
theorem lkI_X11_2 : Cond.code objectInit ⟨#[0xb1]⟩ 1 none ∈ wsX11_init := by decide +kernel
theorem lkI_X11_3 : Cond.arrayClass .int ∈ wsX11_init := by decide +kernel
theorem lkI_X11_4 : Cond.fieldLink RX11 7 RX11 (TX11 0).2.1 (TX11 0).2.2.1 ∈ wsX11_init := by decide +kernel
theorem lkI_X11_5 : Cond.fieldLink RX11 13 RX11 (TX11 1).2.1 (TX11 1).2.2.1 ∈ wsX11_init := by decide +kernel
theorem lkI_X11_6 : Cond.fieldLink RX11 16 RX11 (TX11 2).2.1 (TX11 2).2.2.1 ∈ wsX11_init := by decide +kernel
theorem lkI_X11_7 : Cond.fieldLink RX11 19 RX11 (TX11 3).2.1 (TX11 3).2.2.1 ∈ wsX11_init := by decide +kernel
theorem lkI_X11_8 : Cond.fieldLink RX11 22 RX11 (TX11 4).2.1 (TX11 4).2.2.1 ∈ wsX11_init := by decide +kernel
theorem lkI_X11_9 : Cond.fieldLink RX11 25 RX11 (TX11 5).2.1 (TX11 5).2.2.1 ∈ wsX11_init := by decide +kernel
theorem lkI_X11_10 : Cond.fieldLink RX11 28 RX11 (TX11 6).2.1 (TX11 6).2.2.1 ∈ wsX11_init := by decide +kernel
theorem lkI_X11_11 : Cond.fieldLink RX11 31 RX11 (TX11 7).2.1 (TX11 7).2.2.1 ∈ wsX11_init := by decide +kernel
theorem lkI_X11_12 : Cond.fieldLink RX11 35 RX11 (TX11 8).2.1 (TX11 8).2.2.1 ∈ wsX11_init := by decide +kernel
theorem lkI_X11_13 : Cond.fieldLink RX11 38 RX11 (TX11 9).2.1 (TX11 9).2.2.1 ∈ wsX11_init := by decide +kernel
theorem lkI_X11_14 : Cond.fieldLink RX11 41 RX11 (TX11 10).2.1 (TX11 10).2.2.1 ∈ wsX11_init := by decide +kernel
theorem lkI_X11_15 : Cond.arrayClass .boolean ∈ wsX11_init := by decide +kernel
theorem lkI_X11_16 : Cond.fieldLink RX11 44 RX11 (TX11 11).2.1 (TX11 11).2.2.1 ∈ wsX11_init := by decide +kernel
theorem lkI_X11_17 : Cond.fieldLink RX11 48 RX11 (TX11 12).2.1 (TX11 12).2.2.1 ∈ wsX11_init := by decide +kernel
theorem lkI_X11_18 : Cond.fieldLink RX11 51 RX11 (TX11 13).2.1 (TX11 13).2.2.1 ∈ wsX11_init := by decide +kernel
theorem lkI_X11_19 : Cond.fieldLink RX11 54 RX11 (TX11 14).2.1 (TX11 14).2.2.1 ∈ wsX11_init := by decide +kernel
theorem lkI_X11_20 : Cond.fieldLink RX11 57 RX11 (TX11 15).2.1 (TX11 15).2.2.1 ∈ wsX11_init := by decide +kernel
theorem lkI_X11_21 : Cond.fieldLink RX11 60 RX11 (TX11 18).2.1 (TX11 18).2.2.1 ∈ wsX11_init := by decide +kernel
theorem lkI_X11_22 : Cond.fieldLink RX11 63 RX11 (TX11 19).2.1 (TX11 19).2.2.1 ∈ wsX11_init := by decide +kernel
theorem lkI_X11_23 : Cond.fieldLink RX11 66 RX11 (TX11 21).2.1 (TX11 21).2.2.1 ∈ wsX11_init := by decide +kernel
theorem lkI_X11_24 : Cond.fieldLink RX11 69 RX11 (TX11 22).2.1 (TX11 22).2.2.1 ∈ wsX11_init := by decide +kernel
theorem hiI_X11 : ∀ w ∈ u_ws RX11 TX11 24, w ∈ wsX11_init := by decide +kernel
theorem lkI_X11_p6 : Cond.fieldLink RX11 28 RX11 (TX11 6).2.1 (TX11 6).2.2.1 ∈ wsX11_init := by decide +kernel

section INI
variable {p : Program} {l : Launch} {e : Env} {R : Room} {s : State} {m : MethodId} {args : Array Value} {below : List Frame} {meth : Method} {c : Code} {D : va_G} {g : GT} {A : Nat → Prop} {k n : Nat} {w0 tl : va_W}
/-- the reference's own loop: every price is 1 -/
theorem ini_loop {j ad h0 : Nat} {fs : List Value} {post : va_W → Prop} (X : vC p s m args meth c D g A RX11 wsX11_init cX11_init 2) (hr : meth.sig.returnType = none) (h6 : fs[6]? = some (.ref ad)) (he : ∀ f : Nat → Int32, (tl.set j (ad, .inl (g.1, 12, .inl f)))[0]? = some (h0, .inr (11, fs))) (hj : tl[j]? = some (ad, .inl (g.1, 12, .inl (fun _ => Int32.ofInt 0)))) (hp : post (w0 ++ tl.set j (ad, .inl (g.1, 12, .inl (fF 12 1))))) : ∀ (z i : Nat), 12 = i + z → ∀ (ti : va_W) (fi : Nat → Int32), ti = tl.set j (ad, .inl (g.1, 12, .inl fi)) → (∀ y, fi y = if y < i then Int32.ofInt 1 else Int32.ofInt 0) → uV p l e R s m args below meth c D A 2 k n (MQ below (uQv D A post) args s k n A) w0 ti [(0, .ref h0), (1, iv i)] 164 [] := by
  have hjl : j < tl.length := by
    rcases Nat.lt_or_ge j tl.length with h | h
    · exact h
    · rw [List.getElem?_eq_none h] at hj
      cases hj
  intro z
  induction z with
  | zero =>
    intro i hz ti fi hti hfi
    refine U_iload_n X dX11_init_164 rfl (q := 1) rfl (U_bipush X dX11_init_165 rfl ?_)
    refine U_icmp_ge (tgt := 183) X ⟨by omega, by omega⟩ ⟨by omega, by omega⟩ dX11_init_167 (by decide) (fun _ => U_vret X hr ?_ dX11_init_183) (fun q => absurd (by omega) q)
    have ef : fi = fF 12 1 := by
      funext y
      rw [hfi, fF_ok, show i = 12 from by omega]
    rw [hti, ef]
    exact hp
  | succ z ih =>
    intro i hz ti fi hti hfi
    refine U_iload_n X dX11_init_164 rfl (q := 1) rfl (U_bipush X dX11_init_165 rfl ?_)
    refine U_icmp_ge (tgt := 183) X ⟨by omega, by omega⟩ ⟨by omega, by omega⟩ dX11_init_167 (by decide) (fun q => absurd q (by omega)) (fun _ => ?_)
    refine U_aload_n X dX11_init_170 rfl (q := 0) rfl ?_
    refine U_get (C := RX11) (T := TX11) (N := 24) (ci := 11) X hiI_X11 ((uW_at _ _ 0).trans (by rw [hti]; exact he fi)) rfl 6 (Nat.le_of_ble_eq_true rfl) lkI_X11_p6 (fun _ h => h) h6 dX11_init_171 ?_
    refine U_iload_n X dX11_init_174 rfl (q := 1) rfl (U_iconst X dX11_init_175 ?_)
    refine U_iast (j := j) (N := 12) (f := fi) (tl1 := tl.set j (ad, .inl (g.1, 12, .inl (upd fi (i : Int).toNat (Int32.ofInt 1))))) X (by rw [hti, List.getElem?_set_self hjl]) ⟨by omega, by omega⟩ (by decide) (by rw [hti, List.set_set]) dX11_init_176 ?_
    refine U_iinc (q := 1) (lv1 := [(0, .ref h0), (1, iv ((i : Int) + 1))]) X [1, 0] dX11_init_177 rfl (by decide) rfl (U_goto (tgt := 164) X dX11_init_180 (by decide) ?_)
    refine ih (i + 1) (by omega) _ (upd fi (i : Int).toNat (Int32.ofInt 1)) rfl (fun y => ?_)
    unfold upd
    rw [Int.toNat_natCast]
    by_cases c1 : y = i
    · rw [if_pos c1, if_pos (by omega)]
    · rw [if_neg c1, hfi]
      by_cases c2 : y < i
      · rw [if_pos c2, if_pos (by omega)]
      · rw [if_neg c2, if_neg (by omega)]
end INI
set_option maxHeartbeats 4000000 in
set_option maxRecDepth 100000 in
theorem c_I_X11 (l : Launch) {D : va_G} {g : GT} {A : Nat → Prop} {w0 : va_W} {h0 : Nat} : Met l yX11_init wsX11_init ({ frames := 1, cells := 19, slots := 29068, locals := 12 } : Room) (uPc D g A (w0 ++ [(h0, .inr (11, [.null, .null, .null, .null, .null, .null, .null, iv 0, .null, .null, .null, .null, .null, .null, .null, .null, iv 0, iv 0, .null, .null, iv 0, .null, .null, iv 0]))]) [.ref h0]) (uQv D A (fun w1 => ∃ h : Nat → Nat, w1 = w0 ++ nwX11 g h0 h)) 19 29068 A := by
  refine Met.ofW (cc := cX11_init) (maxL := 2) (ret := none) (by decide) rfl ?_
  intro p e s m args below meth c s₁ B hml hv
  obtain ⟨rfl, hP, hD, hG⟩ := hv
  have X : vC p s m _ meth c D g A RX11 wsX11_init cX11_init 2 := ⟨B.exec, B.bytes, findClass_of_methodNamed B.named, atoms_spec (ws := wsX11_init) B.pre, hG, hml, B.notSynchronized⟩
  have hr := B.returns
  have hn : meth.name = "<init>" := (name_of_methodNamed B.named B.method).1
  have hl := lv_entry ([.ref h0]) (n := 2) (Nat.le_of_ble_eq_true rfl)
  rw [lg_entry_eq]
  generalize (lg_sl ([.ref h0]) ++ List.replicate (2 - (lg_sl ([.ref h0])).length) Slot.unset).toArray = ls at hl ⊢
  have hl : lv_has ls 2 [(0, .ref h0)] := hl
  suffices hV : uV p l e ({ frames := 1, cells := 19, slots := 29068, locals := 12 } : Room) s m [.ref h0].toArray below meth c D A 2 0 0 (MQ below (uQv D A (fun w1 => ∃ h : Nat → Nat, w1 = w0 ++ nwX11 g h0 h)) [.ref h0].toArray s 19 29068 A) w0 [(h0, .inr (11, [.null, .null, .null, .null, .null, .null, .null, iv 0, .null, .null, .null, .null, .null, .null, .null, .null, iv 0, iv 0, .null, .null, iv 0, .null, .null, iv 0]))] [(0, .ref h0)] 0 [] from hV s.heap [] ls hP hD va_S.rf hl
  refine U_super (own := RX11) (q := 0) X rfl lkI_X11_0 lkI_X11_1 lkI_X11_2 (Nat.le_of_ble_eq_true rfl) (Nat.le_of_ble_eq_true rfl) dX11_init_0 dX11_init_1 ?_
  refine U_aload_n X dX11_init_4 rfl (q := 0) rfl ?_
  refine U_bipush X dX11_init_5 rfl ?_
  refine U_newa (ty := .int) (t0 := 0) (N := 24) (a0 := (24, .inl (fun _ => Int32.ofInt 0))) X lkI_X11_3 rfl (fun _ h => nomatch h) rfl (fun _ => rfl) rfl (Nat.le_of_ble_eq_true rfl) (Nat.le_of_ble_eq_true rfl) ⟨Nat.le_of_ble_eq_true rfl, Nat.le_of_ble_eq_true rfl⟩ dX11_init_7 (fun q0 => ?_)
  refine U_putF (own := RX11) (j := 0) (C := RX11) (T := TX11) (N := 24) (ci := 11) X hn hiI_X11 tyX11 tyX11_ok nmX11 rfl 0 rfl (Nat.le_of_ble_eq_true rfl) lkI_X11_4 rfl (ty := tyX11 0) (tyX11_ok 0 (Nat.le_of_ble_eq_true rfl)) rfl rfl (Nat.le_of_ble_eq_true rfl) (tl1 := [(h0, .inr (11, [.ref q0, .null, .null, .null, .null, .null, .null, iv 0, .null, .null, .null, .null, .null, .null, .null, .null, iv 0, iv 0, .null, .null, iv 0, .null, .null, iv 0])), (q0, .inl (g.1, 24, .inl (fun _ => Int32.ofInt 0)))]) rfl dX11_init_9 ?_
  refine U_aload_n X dX11_init_12 rfl (q := 0) rfl ?_
  refine U_bipush X dX11_init_13 rfl ?_
  refine U_newa (ty := .int) (t0 := 0) (N := 24) (a0 := (24, .inl (fun _ => Int32.ofInt 0))) X lkI_X11_3 rfl (fun _ h => nomatch h) rfl (fun _ => rfl) rfl (Nat.le_of_ble_eq_true rfl) (Nat.le_of_ble_eq_true rfl) ⟨Nat.le_of_ble_eq_true rfl, Nat.le_of_ble_eq_true rfl⟩ dX11_init_15 (fun q1 => ?_)
  refine U_putF (own := RX11) (j := 0) (C := RX11) (T := TX11) (N := 24) (ci := 11) X hn hiI_X11 tyX11 tyX11_ok nmX11 rfl 1 rfl (Nat.le_of_ble_eq_true rfl) lkI_X11_5 rfl (ty := tyX11 1) (tyX11_ok 1 (Nat.le_of_ble_eq_true rfl)) rfl rfl (Nat.le_of_ble_eq_true rfl) (tl1 := [(h0, .inr (11, [.ref q0, .ref q1, .null, .null, .null, .null, .null, iv 0, .null, .null, .null, .null, .null, .null, .null, .null, iv 0, iv 0, .null, .null, iv 0, .null, .null, iv 0])), (q0, .inl (g.1, 24, .inl (fun _ => Int32.ofInt 0))), (q1, .inl (g.1, 24, .inl (fun _ => Int32.ofInt 0)))]) rfl dX11_init_17 ?_
  refine U_aload_n X dX11_init_20 rfl (q := 0) rfl ?_
  refine U_bipush X dX11_init_21 rfl ?_
  refine U_newa (ty := .int) (t0 := 0) (N := 24) (a0 := (24, .inl (fun _ => Int32.ofInt 0))) X lkI_X11_3 rfl (fun _ h => nomatch h) rfl (fun _ => rfl) rfl (Nat.le_of_ble_eq_true rfl) (Nat.le_of_ble_eq_true rfl) ⟨Nat.le_of_ble_eq_true rfl, Nat.le_of_ble_eq_true rfl⟩ dX11_init_23 (fun q2 => ?_)
  refine U_putF (own := RX11) (j := 0) (C := RX11) (T := TX11) (N := 24) (ci := 11) X hn hiI_X11 tyX11 tyX11_ok nmX11 rfl 2 rfl (Nat.le_of_ble_eq_true rfl) lkI_X11_6 rfl (ty := tyX11 2) (tyX11_ok 2 (Nat.le_of_ble_eq_true rfl)) rfl rfl (Nat.le_of_ble_eq_true rfl) (tl1 := [(h0, .inr (11, [.ref q0, .ref q1, .ref q2, .null, .null, .null, .null, iv 0, .null, .null, .null, .null, .null, .null, .null, .null, iv 0, iv 0, .null, .null, iv 0, .null, .null, iv 0])), (q0, .inl (g.1, 24, .inl (fun _ => Int32.ofInt 0))), (q1, .inl (g.1, 24, .inl (fun _ => Int32.ofInt 0))), (q2, .inl (g.1, 24, .inl (fun _ => Int32.ofInt 0)))]) rfl dX11_init_25 ?_
  refine U_aload_n X dX11_init_28 rfl (q := 0) rfl ?_
  refine U_bipush X dX11_init_29 rfl ?_
  refine U_newa (ty := .int) (t0 := 0) (N := 24) (a0 := (24, .inl (fun _ => Int32.ofInt 0))) X lkI_X11_3 rfl (fun _ h => nomatch h) rfl (fun _ => rfl) rfl (Nat.le_of_ble_eq_true rfl) (Nat.le_of_ble_eq_true rfl) ⟨Nat.le_of_ble_eq_true rfl, Nat.le_of_ble_eq_true rfl⟩ dX11_init_31 (fun q3 => ?_)
  refine U_putF (own := RX11) (j := 0) (C := RX11) (T := TX11) (N := 24) (ci := 11) X hn hiI_X11 tyX11 tyX11_ok nmX11 rfl 3 rfl (Nat.le_of_ble_eq_true rfl) lkI_X11_7 rfl (ty := tyX11 3) (tyX11_ok 3 (Nat.le_of_ble_eq_true rfl)) rfl rfl (Nat.le_of_ble_eq_true rfl) (tl1 := [(h0, .inr (11, [.ref q0, .ref q1, .ref q2, .ref q3, .null, .null, .null, iv 0, .null, .null, .null, .null, .null, .null, .null, .null, iv 0, iv 0, .null, .null, iv 0, .null, .null, iv 0])), (q0, .inl (g.1, 24, .inl (fun _ => Int32.ofInt 0))), (q1, .inl (g.1, 24, .inl (fun _ => Int32.ofInt 0))), (q2, .inl (g.1, 24, .inl (fun _ => Int32.ofInt 0))), (q3, .inl (g.1, 24, .inl (fun _ => Int32.ofInt 0)))]) rfl dX11_init_33 ?_
  refine U_aload_n X dX11_init_36 rfl (q := 0) rfl ?_
  refine U_bipush X dX11_init_37 rfl ?_
  refine U_newa (ty := .int) (t0 := 0) (N := 24) (a0 := (24, .inl (fun _ => Int32.ofInt 0))) X lkI_X11_3 rfl (fun _ h => nomatch h) rfl (fun _ => rfl) rfl (Nat.le_of_ble_eq_true rfl) (Nat.le_of_ble_eq_true rfl) ⟨Nat.le_of_ble_eq_true rfl, Nat.le_of_ble_eq_true rfl⟩ dX11_init_39 (fun q4 => ?_)
  refine U_putF (own := RX11) (j := 0) (C := RX11) (T := TX11) (N := 24) (ci := 11) X hn hiI_X11 tyX11 tyX11_ok nmX11 rfl 4 rfl (Nat.le_of_ble_eq_true rfl) lkI_X11_8 rfl (ty := tyX11 4) (tyX11_ok 4 (Nat.le_of_ble_eq_true rfl)) rfl rfl (Nat.le_of_ble_eq_true rfl) (tl1 := [(h0, .inr (11, [.ref q0, .ref q1, .ref q2, .ref q3, .ref q4, .null, .null, iv 0, .null, .null, .null, .null, .null, .null, .null, .null, iv 0, iv 0, .null, .null, iv 0, .null, .null, iv 0])), (q0, .inl (g.1, 24, .inl (fun _ => Int32.ofInt 0))), (q1, .inl (g.1, 24, .inl (fun _ => Int32.ofInt 0))), (q2, .inl (g.1, 24, .inl (fun _ => Int32.ofInt 0))), (q3, .inl (g.1, 24, .inl (fun _ => Int32.ofInt 0))), (q4, .inl (g.1, 24, .inl (fun _ => Int32.ofInt 0)))]) rfl dX11_init_41 ?_
  refine U_aload_n X dX11_init_44 rfl (q := 0) rfl ?_
  refine U_iconst X dX11_init_45 ?_
  refine U_newa (ty := .int) (t0 := 0) (N := 2) (a0 := (2, .inl (fun _ => Int32.ofInt 0))) X lkI_X11_3 rfl (fun _ h => nomatch h) rfl (fun _ => rfl) rfl (Nat.le_of_ble_eq_true rfl) (Nat.le_of_ble_eq_true rfl) ⟨Nat.le_of_ble_eq_true rfl, Nat.le_of_ble_eq_true rfl⟩ dX11_init_46 (fun q5 => ?_)
  refine U_putF (own := RX11) (j := 0) (C := RX11) (T := TX11) (N := 24) (ci := 11) X hn hiI_X11 tyX11 tyX11_ok nmX11 rfl 5 rfl (Nat.le_of_ble_eq_true rfl) lkI_X11_9 rfl (ty := tyX11 5) (tyX11_ok 5 (Nat.le_of_ble_eq_true rfl)) rfl rfl (Nat.le_of_ble_eq_true rfl) (tl1 := [(h0, .inr (11, [.ref q0, .ref q1, .ref q2, .ref q3, .ref q4, .ref q5, .null, iv 0, .null, .null, .null, .null, .null, .null, .null, .null, iv 0, iv 0, .null, .null, iv 0, .null, .null, iv 0])), (q0, .inl (g.1, 24, .inl (fun _ => Int32.ofInt 0))), (q1, .inl (g.1, 24, .inl (fun _ => Int32.ofInt 0))), (q2, .inl (g.1, 24, .inl (fun _ => Int32.ofInt 0))), (q3, .inl (g.1, 24, .inl (fun _ => Int32.ofInt 0))), (q4, .inl (g.1, 24, .inl (fun _ => Int32.ofInt 0))), (q5, .inl (g.1, 2, .inl (fun _ => Int32.ofInt 0)))]) rfl dX11_init_48 ?_
  refine U_aload_n X dX11_init_51 rfl (q := 0) rfl ?_
  refine U_bipush X dX11_init_52 rfl ?_
  refine U_newa (ty := .int) (t0 := 0) (N := 12) (a0 := (12, .inl (fun _ => Int32.ofInt 0))) X lkI_X11_3 rfl (fun _ h => nomatch h) rfl (fun _ => rfl) rfl (Nat.le_of_ble_eq_true rfl) (Nat.le_of_ble_eq_true rfl) ⟨Nat.le_of_ble_eq_true rfl, Nat.le_of_ble_eq_true rfl⟩ dX11_init_54 (fun q6 => ?_)
  refine U_putF (own := RX11) (j := 0) (C := RX11) (T := TX11) (N := 24) (ci := 11) X hn hiI_X11 tyX11 tyX11_ok nmX11 rfl 6 rfl (Nat.le_of_ble_eq_true rfl) lkI_X11_10 rfl (ty := tyX11 6) (tyX11_ok 6 (Nat.le_of_ble_eq_true rfl)) rfl rfl (Nat.le_of_ble_eq_true rfl) (tl1 := [(h0, .inr (11, [.ref q0, .ref q1, .ref q2, .ref q3, .ref q4, .ref q5, .ref q6, iv 0, .null, .null, .null, .null, .null, .null, .null, .null, iv 0, iv 0, .null, .null, iv 0, .null, .null, iv 0])), (q0, .inl (g.1, 24, .inl (fun _ => Int32.ofInt 0))), (q1, .inl (g.1, 24, .inl (fun _ => Int32.ofInt 0))), (q2, .inl (g.1, 24, .inl (fun _ => Int32.ofInt 0))), (q3, .inl (g.1, 24, .inl (fun _ => Int32.ofInt 0))), (q4, .inl (g.1, 24, .inl (fun _ => Int32.ofInt 0))), (q5, .inl (g.1, 2, .inl (fun _ => Int32.ofInt 0))), (q6, .inl (g.1, 12, .inl (fun _ => Int32.ofInt 0)))]) rfl dX11_init_56 ?_
  refine U_aload_n X dX11_init_59 rfl (q := 0) rfl ?_
  refine U_iconst X dX11_init_60 ?_
  refine U_putF (own := RX11) (j := 0) (C := RX11) (T := TX11) (N := 24) (ci := 11) X hn hiI_X11 tyX11 tyX11_ok nmX11 rfl 7 rfl (Nat.le_of_ble_eq_true rfl) lkI_X11_11 rfl (ty := tyX11 7) (tyX11_ok 7 (Nat.le_of_ble_eq_true rfl)) rfl rfl (Nat.le_of_ble_eq_true rfl) (tl1 := [(h0, .inr (11, [.ref q0, .ref q1, .ref q2, .ref q3, .ref q4, .ref q5, .ref q6, iv 1, .null, .null, .null, .null, .null, .null, .null, .null, iv 0, iv 0, .null, .null, iv 0, .null, .null, iv 0])), (q0, .inl (g.1, 24, .inl (fun _ => Int32.ofInt 0))), (q1, .inl (g.1, 24, .inl (fun _ => Int32.ofInt 0))), (q2, .inl (g.1, 24, .inl (fun _ => Int32.ofInt 0))), (q3, .inl (g.1, 24, .inl (fun _ => Int32.ofInt 0))), (q4, .inl (g.1, 24, .inl (fun _ => Int32.ofInt 0))), (q5, .inl (g.1, 2, .inl (fun _ => Int32.ofInt 0))), (q6, .inl (g.1, 12, .inl (fun _ => Int32.ofInt 0)))]) rfl dX11_init_61 ?_
  refine U_aload_n X dX11_init_64 rfl (q := 0) rfl ?_
  refine U_sipush X dX11_init_65 rfl ?_
  refine U_newa (ty := .int) (t0 := 0) (N := 28561) (a0 := (28561, .inl (fun _ => Int32.ofInt 0))) X lkI_X11_3 rfl (fun _ h => nomatch h) rfl (fun _ => rfl) rfl (Nat.le_of_ble_eq_true rfl) (Nat.le_of_ble_eq_true rfl) ⟨Nat.le_of_ble_eq_true rfl, Nat.le_of_ble_eq_true rfl⟩ dX11_init_68 (fun q7 => ?_)
  refine U_putF (own := RX11) (j := 0) (C := RX11) (T := TX11) (N := 24) (ci := 11) X hn hiI_X11 tyX11 tyX11_ok nmX11 rfl 8 rfl (Nat.le_of_ble_eq_true rfl) lkI_X11_12 rfl (ty := tyX11 8) (tyX11_ok 8 (Nat.le_of_ble_eq_true rfl)) rfl rfl (Nat.le_of_ble_eq_true rfl) (tl1 := [(h0, .inr (11, [.ref q0, .ref q1, .ref q2, .ref q3, .ref q4, .ref q5, .ref q6, iv 1, .ref q7, .null, .null, .null, .null, .null, .null, .null, iv 0, iv 0, .null, .null, iv 0, .null, .null, iv 0])), (q0, .inl (g.1, 24, .inl (fun _ => Int32.ofInt 0))), (q1, .inl (g.1, 24, .inl (fun _ => Int32.ofInt 0))), (q2, .inl (g.1, 24, .inl (fun _ => Int32.ofInt 0))), (q3, .inl (g.1, 24, .inl (fun _ => Int32.ofInt 0))), (q4, .inl (g.1, 24, .inl (fun _ => Int32.ofInt 0))), (q5, .inl (g.1, 2, .inl (fun _ => Int32.ofInt 0))), (q6, .inl (g.1, 12, .inl (fun _ => Int32.ofInt 0))), (q7, .inl (g.1, 28561, .inl (fun _ => Int32.ofInt 0)))]) rfl dX11_init_70 ?_
  refine U_aload_n X dX11_init_73 rfl (q := 0) rfl ?_
  refine U_bipush X dX11_init_74 rfl ?_
  refine U_newa (ty := .int) (t0 := 0) (N := 12) (a0 := (12, .inl (fun _ => Int32.ofInt 0))) X lkI_X11_3 rfl (fun _ h => nomatch h) rfl (fun _ => rfl) rfl (Nat.le_of_ble_eq_true rfl) (Nat.le_of_ble_eq_true rfl) ⟨Nat.le_of_ble_eq_true rfl, Nat.le_of_ble_eq_true rfl⟩ dX11_init_76 (fun q8 => ?_)
  refine U_putF (own := RX11) (j := 0) (C := RX11) (T := TX11) (N := 24) (ci := 11) X hn hiI_X11 tyX11 tyX11_ok nmX11 rfl 9 rfl (Nat.le_of_ble_eq_true rfl) lkI_X11_13 rfl (ty := tyX11 9) (tyX11_ok 9 (Nat.le_of_ble_eq_true rfl)) rfl rfl (Nat.le_of_ble_eq_true rfl) (tl1 := [(h0, .inr (11, [.ref q0, .ref q1, .ref q2, .ref q3, .ref q4, .ref q5, .ref q6, iv 1, .ref q7, .ref q8, .null, .null, .null, .null, .null, .null, iv 0, iv 0, .null, .null, iv 0, .null, .null, iv 0])), (q0, .inl (g.1, 24, .inl (fun _ => Int32.ofInt 0))), (q1, .inl (g.1, 24, .inl (fun _ => Int32.ofInt 0))), (q2, .inl (g.1, 24, .inl (fun _ => Int32.ofInt 0))), (q3, .inl (g.1, 24, .inl (fun _ => Int32.ofInt 0))), (q4, .inl (g.1, 24, .inl (fun _ => Int32.ofInt 0))), (q5, .inl (g.1, 2, .inl (fun _ => Int32.ofInt 0))), (q6, .inl (g.1, 12, .inl (fun _ => Int32.ofInt 0))), (q7, .inl (g.1, 28561, .inl (fun _ => Int32.ofInt 0))), (q8, .inl (g.1, 12, .inl (fun _ => Int32.ofInt 0)))]) rfl dX11_init_78 ?_
  refine U_aload_n X dX11_init_81 rfl (q := 0) rfl ?_
  refine U_bipush X dX11_init_82 rfl ?_
  refine U_newa (ty := .int) (t0 := 0) (N := 12) (a0 := (12, .inl (fun _ => Int32.ofInt 0))) X lkI_X11_3 rfl (fun _ h => nomatch h) rfl (fun _ => rfl) rfl (Nat.le_of_ble_eq_true rfl) (Nat.le_of_ble_eq_true rfl) ⟨Nat.le_of_ble_eq_true rfl, Nat.le_of_ble_eq_true rfl⟩ dX11_init_84 (fun q9 => ?_)
  refine U_putF (own := RX11) (j := 0) (C := RX11) (T := TX11) (N := 24) (ci := 11) X hn hiI_X11 tyX11 tyX11_ok nmX11 rfl 10 rfl (Nat.le_of_ble_eq_true rfl) lkI_X11_14 rfl (ty := tyX11 10) (tyX11_ok 10 (Nat.le_of_ble_eq_true rfl)) rfl rfl (Nat.le_of_ble_eq_true rfl) (tl1 := [(h0, .inr (11, [.ref q0, .ref q1, .ref q2, .ref q3, .ref q4, .ref q5, .ref q6, iv 1, .ref q7, .ref q8, .ref q9, .null, .null, .null, .null, .null, iv 0, iv 0, .null, .null, iv 0, .null, .null, iv 0])), (q0, .inl (g.1, 24, .inl (fun _ => Int32.ofInt 0))), (q1, .inl (g.1, 24, .inl (fun _ => Int32.ofInt 0))), (q2, .inl (g.1, 24, .inl (fun _ => Int32.ofInt 0))), (q3, .inl (g.1, 24, .inl (fun _ => Int32.ofInt 0))), (q4, .inl (g.1, 24, .inl (fun _ => Int32.ofInt 0))), (q5, .inl (g.1, 2, .inl (fun _ => Int32.ofInt 0))), (q6, .inl (g.1, 12, .inl (fun _ => Int32.ofInt 0))), (q7, .inl (g.1, 28561, .inl (fun _ => Int32.ofInt 0))), (q8, .inl (g.1, 12, .inl (fun _ => Int32.ofInt 0))), (q9, .inl (g.1, 12, .inl (fun _ => Int32.ofInt 0)))]) rfl dX11_init_86 ?_
  refine U_aload_n X dX11_init_89 rfl (q := 0) rfl ?_
  refine U_bipush X dX11_init_90 rfl ?_
  refine U_newa (ty := .boolean) (t0 := 1) (N := 12) (a0 := (12, .inl (fun _ => Int32.ofInt 0))) X lkI_X11_15 rfl (fun _ h => nomatch h) rfl (fun _ => rfl) rfl (Nat.le_of_ble_eq_true rfl) (Nat.le_of_ble_eq_true rfl) ⟨Nat.le_of_ble_eq_true rfl, Nat.le_of_ble_eq_true rfl⟩ dX11_init_92 (fun q10 => ?_)
  refine U_putF (own := RX11) (j := 0) (C := RX11) (T := TX11) (N := 24) (ci := 11) X hn hiI_X11 tyX11 tyX11_ok nmX11 rfl 11 rfl (Nat.le_of_ble_eq_true rfl) lkI_X11_16 rfl (ty := tyX11 11) (tyX11_ok 11 (Nat.le_of_ble_eq_true rfl)) rfl rfl (Nat.le_of_ble_eq_true rfl) (tl1 := [(h0, .inr (11, [.ref q0, .ref q1, .ref q2, .ref q3, .ref q4, .ref q5, .ref q6, iv 1, .ref q7, .ref q8, .ref q9, .ref q10, .null, .null, .null, .null, iv 0, iv 0, .null, .null, iv 0, .null, .null, iv 0])), (q0, .inl (g.1, 24, .inl (fun _ => Int32.ofInt 0))), (q1, .inl (g.1, 24, .inl (fun _ => Int32.ofInt 0))), (q2, .inl (g.1, 24, .inl (fun _ => Int32.ofInt 0))), (q3, .inl (g.1, 24, .inl (fun _ => Int32.ofInt 0))), (q4, .inl (g.1, 24, .inl (fun _ => Int32.ofInt 0))), (q5, .inl (g.1, 2, .inl (fun _ => Int32.ofInt 0))), (q6, .inl (g.1, 12, .inl (fun _ => Int32.ofInt 0))), (q7, .inl (g.1, 28561, .inl (fun _ => Int32.ofInt 0))), (q8, .inl (g.1, 12, .inl (fun _ => Int32.ofInt 0))), (q9, .inl (g.1, 12, .inl (fun _ => Int32.ofInt 0))), (q10, .inl (g.2.1, 12, .inl (fun _ => Int32.ofInt 0)))]) rfl dX11_init_94 ?_
  refine U_aload_n X dX11_init_97 rfl (q := 0) rfl ?_
  refine U_bipush X dX11_init_98 rfl ?_
  refine U_newa (ty := .boolean) (t0 := 1) (N := 12) (a0 := (12, .inl (fun _ => Int32.ofInt 0))) X lkI_X11_15 rfl (fun _ h => nomatch h) rfl (fun _ => rfl) rfl (Nat.le_of_ble_eq_true rfl) (Nat.le_of_ble_eq_true rfl) ⟨Nat.le_of_ble_eq_true rfl, Nat.le_of_ble_eq_true rfl⟩ dX11_init_100 (fun q11 => ?_)
  refine U_putF (own := RX11) (j := 0) (C := RX11) (T := TX11) (N := 24) (ci := 11) X hn hiI_X11 tyX11 tyX11_ok nmX11 rfl 12 rfl (Nat.le_of_ble_eq_true rfl) lkI_X11_17 rfl (ty := tyX11 12) (tyX11_ok 12 (Nat.le_of_ble_eq_true rfl)) rfl rfl (Nat.le_of_ble_eq_true rfl) (tl1 := [(h0, .inr (11, [.ref q0, .ref q1, .ref q2, .ref q3, .ref q4, .ref q5, .ref q6, iv 1, .ref q7, .ref q8, .ref q9, .ref q10, .ref q11, .null, .null, .null, iv 0, iv 0, .null, .null, iv 0, .null, .null, iv 0])), (q0, .inl (g.1, 24, .inl (fun _ => Int32.ofInt 0))), (q1, .inl (g.1, 24, .inl (fun _ => Int32.ofInt 0))), (q2, .inl (g.1, 24, .inl (fun _ => Int32.ofInt 0))), (q3, .inl (g.1, 24, .inl (fun _ => Int32.ofInt 0))), (q4, .inl (g.1, 24, .inl (fun _ => Int32.ofInt 0))), (q5, .inl (g.1, 2, .inl (fun _ => Int32.ofInt 0))), (q6, .inl (g.1, 12, .inl (fun _ => Int32.ofInt 0))), (q7, .inl (g.1, 28561, .inl (fun _ => Int32.ofInt 0))), (q8, .inl (g.1, 12, .inl (fun _ => Int32.ofInt 0))), (q9, .inl (g.1, 12, .inl (fun _ => Int32.ofInt 0))), (q10, .inl (g.2.1, 12, .inl (fun _ => Int32.ofInt 0))), (q11, .inl (g.2.1, 12, .inl (fun _ => Int32.ofInt 0)))]) rfl dX11_init_102 ?_
  refine U_aload_n X dX11_init_105 rfl (q := 0) rfl ?_
  refine U_bipush X dX11_init_106 rfl ?_
  refine U_newa (ty := .int) (t0 := 0) (N := 96) (a0 := (96, .inl (fun _ => Int32.ofInt 0))) X lkI_X11_3 rfl (fun _ h => nomatch h) rfl (fun _ => rfl) rfl (Nat.le_of_ble_eq_true rfl) (Nat.le_of_ble_eq_true rfl) ⟨Nat.le_of_ble_eq_true rfl, Nat.le_of_ble_eq_true rfl⟩ dX11_init_108 (fun q12 => ?_)
  refine U_putF (own := RX11) (j := 0) (C := RX11) (T := TX11) (N := 24) (ci := 11) X hn hiI_X11 tyX11 tyX11_ok nmX11 rfl 13 rfl (Nat.le_of_ble_eq_true rfl) lkI_X11_18 rfl (ty := tyX11 13) (tyX11_ok 13 (Nat.le_of_ble_eq_true rfl)) rfl rfl (Nat.le_of_ble_eq_true rfl) (tl1 := [(h0, .inr (11, [.ref q0, .ref q1, .ref q2, .ref q3, .ref q4, .ref q5, .ref q6, iv 1, .ref q7, .ref q8, .ref q9, .ref q10, .ref q11, .ref q12, .null, .null, iv 0, iv 0, .null, .null, iv 0, .null, .null, iv 0])), (q0, .inl (g.1, 24, .inl (fun _ => Int32.ofInt 0))), (q1, .inl (g.1, 24, .inl (fun _ => Int32.ofInt 0))), (q2, .inl (g.1, 24, .inl (fun _ => Int32.ofInt 0))), (q3, .inl (g.1, 24, .inl (fun _ => Int32.ofInt 0))), (q4, .inl (g.1, 24, .inl (fun _ => Int32.ofInt 0))), (q5, .inl (g.1, 2, .inl (fun _ => Int32.ofInt 0))), (q6, .inl (g.1, 12, .inl (fun _ => Int32.ofInt 0))), (q7, .inl (g.1, 28561, .inl (fun _ => Int32.ofInt 0))), (q8, .inl (g.1, 12, .inl (fun _ => Int32.ofInt 0))), (q9, .inl (g.1, 12, .inl (fun _ => Int32.ofInt 0))), (q10, .inl (g.2.1, 12, .inl (fun _ => Int32.ofInt 0))), (q11, .inl (g.2.1, 12, .inl (fun _ => Int32.ofInt 0))), (q12, .inl (g.1, 96, .inl (fun _ => Int32.ofInt 0)))]) rfl dX11_init_110 ?_
  refine U_aload_n X dX11_init_113 rfl (q := 0) rfl ?_
  refine U_bipush X dX11_init_114 rfl ?_
  refine U_newa (ty := .int) (t0 := 0) (N := 24) (a0 := (24, .inl (fun _ => Int32.ofInt 0))) X lkI_X11_3 rfl (fun _ h => nomatch h) rfl (fun _ => rfl) rfl (Nat.le_of_ble_eq_true rfl) (Nat.le_of_ble_eq_true rfl) ⟨Nat.le_of_ble_eq_true rfl, Nat.le_of_ble_eq_true rfl⟩ dX11_init_116 (fun q13 => ?_)
  refine U_putF (own := RX11) (j := 0) (C := RX11) (T := TX11) (N := 24) (ci := 11) X hn hiI_X11 tyX11 tyX11_ok nmX11 rfl 14 rfl (Nat.le_of_ble_eq_true rfl) lkI_X11_19 rfl (ty := tyX11 14) (tyX11_ok 14 (Nat.le_of_ble_eq_true rfl)) rfl rfl (Nat.le_of_ble_eq_true rfl) (tl1 := [(h0, .inr (11, [.ref q0, .ref q1, .ref q2, .ref q3, .ref q4, .ref q5, .ref q6, iv 1, .ref q7, .ref q8, .ref q9, .ref q10, .ref q11, .ref q12, .ref q13, .null, iv 0, iv 0, .null, .null, iv 0, .null, .null, iv 0])), (q0, .inl (g.1, 24, .inl (fun _ => Int32.ofInt 0))), (q1, .inl (g.1, 24, .inl (fun _ => Int32.ofInt 0))), (q2, .inl (g.1, 24, .inl (fun _ => Int32.ofInt 0))), (q3, .inl (g.1, 24, .inl (fun _ => Int32.ofInt 0))), (q4, .inl (g.1, 24, .inl (fun _ => Int32.ofInt 0))), (q5, .inl (g.1, 2, .inl (fun _ => Int32.ofInt 0))), (q6, .inl (g.1, 12, .inl (fun _ => Int32.ofInt 0))), (q7, .inl (g.1, 28561, .inl (fun _ => Int32.ofInt 0))), (q8, .inl (g.1, 12, .inl (fun _ => Int32.ofInt 0))), (q9, .inl (g.1, 12, .inl (fun _ => Int32.ofInt 0))), (q10, .inl (g.2.1, 12, .inl (fun _ => Int32.ofInt 0))), (q11, .inl (g.2.1, 12, .inl (fun _ => Int32.ofInt 0))), (q12, .inl (g.1, 96, .inl (fun _ => Int32.ofInt 0))), (q13, .inl (g.1, 24, .inl (fun _ => Int32.ofInt 0)))]) rfl dX11_init_118 ?_
  refine U_aload_n X dX11_init_121 rfl (q := 0) rfl ?_
  refine U_bipush X dX11_init_122 rfl ?_
  refine U_newa (ty := .int) (t0 := 0) (N := 24) (a0 := (24, .inl (fun _ => Int32.ofInt 0))) X lkI_X11_3 rfl (fun _ h => nomatch h) rfl (fun _ => rfl) rfl (Nat.le_of_ble_eq_true rfl) (Nat.le_of_ble_eq_true rfl) ⟨Nat.le_of_ble_eq_true rfl, Nat.le_of_ble_eq_true rfl⟩ dX11_init_124 (fun q14 => ?_)
  refine U_putF (own := RX11) (j := 0) (C := RX11) (T := TX11) (N := 24) (ci := 11) X hn hiI_X11 tyX11 tyX11_ok nmX11 rfl 15 rfl (Nat.le_of_ble_eq_true rfl) lkI_X11_20 rfl (ty := tyX11 15) (tyX11_ok 15 (Nat.le_of_ble_eq_true rfl)) rfl rfl (Nat.le_of_ble_eq_true rfl) (tl1 := [(h0, .inr (11, [.ref q0, .ref q1, .ref q2, .ref q3, .ref q4, .ref q5, .ref q6, iv 1, .ref q7, .ref q8, .ref q9, .ref q10, .ref q11, .ref q12, .ref q13, .ref q14, iv 0, iv 0, .null, .null, iv 0, .null, .null, iv 0])), (q0, .inl (g.1, 24, .inl (fun _ => Int32.ofInt 0))), (q1, .inl (g.1, 24, .inl (fun _ => Int32.ofInt 0))), (q2, .inl (g.1, 24, .inl (fun _ => Int32.ofInt 0))), (q3, .inl (g.1, 24, .inl (fun _ => Int32.ofInt 0))), (q4, .inl (g.1, 24, .inl (fun _ => Int32.ofInt 0))), (q5, .inl (g.1, 2, .inl (fun _ => Int32.ofInt 0))), (q6, .inl (g.1, 12, .inl (fun _ => Int32.ofInt 0))), (q7, .inl (g.1, 28561, .inl (fun _ => Int32.ofInt 0))), (q8, .inl (g.1, 12, .inl (fun _ => Int32.ofInt 0))), (q9, .inl (g.1, 12, .inl (fun _ => Int32.ofInt 0))), (q10, .inl (g.2.1, 12, .inl (fun _ => Int32.ofInt 0))), (q11, .inl (g.2.1, 12, .inl (fun _ => Int32.ofInt 0))), (q12, .inl (g.1, 96, .inl (fun _ => Int32.ofInt 0))), (q13, .inl (g.1, 24, .inl (fun _ => Int32.ofInt 0))), (q14, .inl (g.1, 24, .inl (fun _ => Int32.ofInt 0)))]) rfl dX11_init_126 ?_
  refine U_aload_n X dX11_init_129 rfl (q := 0) rfl ?_
  refine U_bipush X dX11_init_130 rfl ?_
  refine U_newa (ty := .int) (t0 := 0) (N := 12) (a0 := (12, .inl (fun _ => Int32.ofInt 0))) X lkI_X11_3 rfl (fun _ h => nomatch h) rfl (fun _ => rfl) rfl (Nat.le_of_ble_eq_true rfl) (Nat.le_of_ble_eq_true rfl) ⟨Nat.le_of_ble_eq_true rfl, Nat.le_of_ble_eq_true rfl⟩ dX11_init_132 (fun q15 => ?_)
  refine U_putF (own := RX11) (j := 0) (C := RX11) (T := TX11) (N := 24) (ci := 11) X hn hiI_X11 tyX11 tyX11_ok nmX11 rfl 18 rfl (Nat.le_of_ble_eq_true rfl) lkI_X11_21 rfl (ty := tyX11 18) (tyX11_ok 18 (Nat.le_of_ble_eq_true rfl)) rfl rfl (Nat.le_of_ble_eq_true rfl) (tl1 := [(h0, .inr (11, [.ref q0, .ref q1, .ref q2, .ref q3, .ref q4, .ref q5, .ref q6, iv 1, .ref q7, .ref q8, .ref q9, .ref q10, .ref q11, .ref q12, .ref q13, .ref q14, iv 0, iv 0, .ref q15, .null, iv 0, .null, .null, iv 0])), (q0, .inl (g.1, 24, .inl (fun _ => Int32.ofInt 0))), (q1, .inl (g.1, 24, .inl (fun _ => Int32.ofInt 0))), (q2, .inl (g.1, 24, .inl (fun _ => Int32.ofInt 0))), (q3, .inl (g.1, 24, .inl (fun _ => Int32.ofInt 0))), (q4, .inl (g.1, 24, .inl (fun _ => Int32.ofInt 0))), (q5, .inl (g.1, 2, .inl (fun _ => Int32.ofInt 0))), (q6, .inl (g.1, 12, .inl (fun _ => Int32.ofInt 0))), (q7, .inl (g.1, 28561, .inl (fun _ => Int32.ofInt 0))), (q8, .inl (g.1, 12, .inl (fun _ => Int32.ofInt 0))), (q9, .inl (g.1, 12, .inl (fun _ => Int32.ofInt 0))), (q10, .inl (g.2.1, 12, .inl (fun _ => Int32.ofInt 0))), (q11, .inl (g.2.1, 12, .inl (fun _ => Int32.ofInt 0))), (q12, .inl (g.1, 96, .inl (fun _ => Int32.ofInt 0))), (q13, .inl (g.1, 24, .inl (fun _ => Int32.ofInt 0))), (q14, .inl (g.1, 24, .inl (fun _ => Int32.ofInt 0))), (q15, .inl (g.1, 12, .inl (fun _ => Int32.ofInt 0)))]) rfl dX11_init_134 ?_
  refine U_aload_n X dX11_init_137 rfl (q := 0) rfl ?_
  refine U_bipush X dX11_init_138 rfl ?_
  refine U_newa (ty := .int) (t0 := 0) (N := 12) (a0 := (12, .inl (fun _ => Int32.ofInt 0))) X lkI_X11_3 rfl (fun _ h => nomatch h) rfl (fun _ => rfl) rfl (Nat.le_of_ble_eq_true rfl) (Nat.le_of_ble_eq_true rfl) ⟨Nat.le_of_ble_eq_true rfl, Nat.le_of_ble_eq_true rfl⟩ dX11_init_140 (fun q16 => ?_)
  refine U_putF (own := RX11) (j := 0) (C := RX11) (T := TX11) (N := 24) (ci := 11) X hn hiI_X11 tyX11 tyX11_ok nmX11 rfl 19 rfl (Nat.le_of_ble_eq_true rfl) lkI_X11_22 rfl (ty := tyX11 19) (tyX11_ok 19 (Nat.le_of_ble_eq_true rfl)) rfl rfl (Nat.le_of_ble_eq_true rfl) (tl1 := [(h0, .inr (11, [.ref q0, .ref q1, .ref q2, .ref q3, .ref q4, .ref q5, .ref q6, iv 1, .ref q7, .ref q8, .ref q9, .ref q10, .ref q11, .ref q12, .ref q13, .ref q14, iv 0, iv 0, .ref q15, .ref q16, iv 0, .null, .null, iv 0])), (q0, .inl (g.1, 24, .inl (fun _ => Int32.ofInt 0))), (q1, .inl (g.1, 24, .inl (fun _ => Int32.ofInt 0))), (q2, .inl (g.1, 24, .inl (fun _ => Int32.ofInt 0))), (q3, .inl (g.1, 24, .inl (fun _ => Int32.ofInt 0))), (q4, .inl (g.1, 24, .inl (fun _ => Int32.ofInt 0))), (q5, .inl (g.1, 2, .inl (fun _ => Int32.ofInt 0))), (q6, .inl (g.1, 12, .inl (fun _ => Int32.ofInt 0))), (q7, .inl (g.1, 28561, .inl (fun _ => Int32.ofInt 0))), (q8, .inl (g.1, 12, .inl (fun _ => Int32.ofInt 0))), (q9, .inl (g.1, 12, .inl (fun _ => Int32.ofInt 0))), (q10, .inl (g.2.1, 12, .inl (fun _ => Int32.ofInt 0))), (q11, .inl (g.2.1, 12, .inl (fun _ => Int32.ofInt 0))), (q12, .inl (g.1, 96, .inl (fun _ => Int32.ofInt 0))), (q13, .inl (g.1, 24, .inl (fun _ => Int32.ofInt 0))), (q14, .inl (g.1, 24, .inl (fun _ => Int32.ofInt 0))), (q15, .inl (g.1, 12, .inl (fun _ => Int32.ofInt 0))), (q16, .inl (g.1, 12, .inl (fun _ => Int32.ofInt 0)))]) rfl dX11_init_142 ?_
  refine U_aload_n X dX11_init_145 rfl (q := 0) rfl ?_
  refine U_sipush X dX11_init_146 rfl ?_
  refine U_newa (ty := .int) (t0 := 0) (N := 144) (a0 := (144, .inl (fun _ => Int32.ofInt 0))) X lkI_X11_3 rfl (fun _ h => nomatch h) rfl (fun _ => rfl) rfl (Nat.le_of_ble_eq_true rfl) (Nat.le_of_ble_eq_true rfl) ⟨Nat.le_of_ble_eq_true rfl, Nat.le_of_ble_eq_true rfl⟩ dX11_init_149 (fun q17 => ?_)
  refine U_putF (own := RX11) (j := 0) (C := RX11) (T := TX11) (N := 24) (ci := 11) X hn hiI_X11 tyX11 tyX11_ok nmX11 rfl 21 rfl (Nat.le_of_ble_eq_true rfl) lkI_X11_23 rfl (ty := tyX11 21) (tyX11_ok 21 (Nat.le_of_ble_eq_true rfl)) rfl rfl (Nat.le_of_ble_eq_true rfl) (tl1 := [(h0, .inr (11, [.ref q0, .ref q1, .ref q2, .ref q3, .ref q4, .ref q5, .ref q6, iv 1, .ref q7, .ref q8, .ref q9, .ref q10, .ref q11, .ref q12, .ref q13, .ref q14, iv 0, iv 0, .ref q15, .ref q16, iv 0, .ref q17, .null, iv 0])), (q0, .inl (g.1, 24, .inl (fun _ => Int32.ofInt 0))), (q1, .inl (g.1, 24, .inl (fun _ => Int32.ofInt 0))), (q2, .inl (g.1, 24, .inl (fun _ => Int32.ofInt 0))), (q3, .inl (g.1, 24, .inl (fun _ => Int32.ofInt 0))), (q4, .inl (g.1, 24, .inl (fun _ => Int32.ofInt 0))), (q5, .inl (g.1, 2, .inl (fun _ => Int32.ofInt 0))), (q6, .inl (g.1, 12, .inl (fun _ => Int32.ofInt 0))), (q7, .inl (g.1, 28561, .inl (fun _ => Int32.ofInt 0))), (q8, .inl (g.1, 12, .inl (fun _ => Int32.ofInt 0))), (q9, .inl (g.1, 12, .inl (fun _ => Int32.ofInt 0))), (q10, .inl (g.2.1, 12, .inl (fun _ => Int32.ofInt 0))), (q11, .inl (g.2.1, 12, .inl (fun _ => Int32.ofInt 0))), (q12, .inl (g.1, 96, .inl (fun _ => Int32.ofInt 0))), (q13, .inl (g.1, 24, .inl (fun _ => Int32.ofInt 0))), (q14, .inl (g.1, 24, .inl (fun _ => Int32.ofInt 0))), (q15, .inl (g.1, 12, .inl (fun _ => Int32.ofInt 0))), (q16, .inl (g.1, 12, .inl (fun _ => Int32.ofInt 0))), (q17, .inl (g.1, 144, .inl (fun _ => Int32.ofInt 0)))]) rfl dX11_init_151 ?_
  refine U_aload_n X dX11_init_154 rfl (q := 0) rfl ?_
  refine U_bipush X dX11_init_155 rfl ?_
  refine U_newa (ty := .int) (t0 := 0) (N := 13) (a0 := (13, .inl (fun _ => Int32.ofInt 0))) X lkI_X11_3 rfl (fun _ h => nomatch h) rfl (fun _ => rfl) rfl (Nat.le_of_ble_eq_true rfl) (Nat.le_of_ble_eq_true rfl) ⟨Nat.le_of_ble_eq_true rfl, Nat.le_of_ble_eq_true rfl⟩ dX11_init_157 (fun q18 => ?_)
  refine U_putF (own := RX11) (j := 0) (C := RX11) (T := TX11) (N := 24) (ci := 11) X hn hiI_X11 tyX11 tyX11_ok nmX11 rfl 22 rfl (Nat.le_of_ble_eq_true rfl) lkI_X11_24 rfl (ty := tyX11 22) (tyX11_ok 22 (Nat.le_of_ble_eq_true rfl)) rfl rfl (Nat.le_of_ble_eq_true rfl) (tl1 := [(h0, .inr (11, [.ref q0, .ref q1, .ref q2, .ref q3, .ref q4, .ref q5, .ref q6, iv 1, .ref q7, .ref q8, .ref q9, .ref q10, .ref q11, .ref q12, .ref q13, .ref q14, iv 0, iv 0, .ref q15, .ref q16, iv 0, .ref q17, .ref q18, iv 0])), (q0, .inl (g.1, 24, .inl (fun _ => Int32.ofInt 0))), (q1, .inl (g.1, 24, .inl (fun _ => Int32.ofInt 0))), (q2, .inl (g.1, 24, .inl (fun _ => Int32.ofInt 0))), (q3, .inl (g.1, 24, .inl (fun _ => Int32.ofInt 0))), (q4, .inl (g.1, 24, .inl (fun _ => Int32.ofInt 0))), (q5, .inl (g.1, 2, .inl (fun _ => Int32.ofInt 0))), (q6, .inl (g.1, 12, .inl (fun _ => Int32.ofInt 0))), (q7, .inl (g.1, 28561, .inl (fun _ => Int32.ofInt 0))), (q8, .inl (g.1, 12, .inl (fun _ => Int32.ofInt 0))), (q9, .inl (g.1, 12, .inl (fun _ => Int32.ofInt 0))), (q10, .inl (g.2.1, 12, .inl (fun _ => Int32.ofInt 0))), (q11, .inl (g.2.1, 12, .inl (fun _ => Int32.ofInt 0))), (q12, .inl (g.1, 96, .inl (fun _ => Int32.ofInt 0))), (q13, .inl (g.1, 24, .inl (fun _ => Int32.ofInt 0))), (q14, .inl (g.1, 24, .inl (fun _ => Int32.ofInt 0))), (q15, .inl (g.1, 12, .inl (fun _ => Int32.ofInt 0))), (q16, .inl (g.1, 12, .inl (fun _ => Int32.ofInt 0))), (q17, .inl (g.1, 144, .inl (fun _ => Int32.ofInt 0))), (q18, .inl (g.1, 13, .inl (fun _ => Int32.ofInt 0)))]) rfl dX11_init_159 ?_
  refine U_iconst X dX11_init_162 ?_
  refine U_istore_n (lv1 := [(0, .ref h0), (1, iv 0)]) X [1, 0] dX11_init_163 rfl (by decide) rfl ?_
  exact ini_loop (tl := [(h0, .inr (11, [.ref q0, .ref q1, .ref q2, .ref q3, .ref q4, .ref q5, .ref q6, iv 1, .ref q7, .ref q8, .ref q9, .ref q10, .ref q11, .ref q12, .ref q13, .ref q14, iv 0, iv 0, .ref q15, .ref q16, iv 0, .ref q17, .ref q18, iv 0])), (q0, .inl (g.1, 24, .inl (fun _ => Int32.ofInt 0))), (q1, .inl (g.1, 24, .inl (fun _ => Int32.ofInt 0))), (q2, .inl (g.1, 24, .inl (fun _ => Int32.ofInt 0))), (q3, .inl (g.1, 24, .inl (fun _ => Int32.ofInt 0))), (q4, .inl (g.1, 24, .inl (fun _ => Int32.ofInt 0))), (q5, .inl (g.1, 2, .inl (fun _ => Int32.ofInt 0))), (q6, .inl (g.1, 12, .inl (fun _ => Int32.ofInt 0))), (q7, .inl (g.1, 28561, .inl (fun _ => Int32.ofInt 0))), (q8, .inl (g.1, 12, .inl (fun _ => Int32.ofInt 0))), (q9, .inl (g.1, 12, .inl (fun _ => Int32.ofInt 0))), (q10, .inl (g.2.1, 12, .inl (fun _ => Int32.ofInt 0))), (q11, .inl (g.2.1, 12, .inl (fun _ => Int32.ofInt 0))), (q12, .inl (g.1, 96, .inl (fun _ => Int32.ofInt 0))), (q13, .inl (g.1, 24, .inl (fun _ => Int32.ofInt 0))), (q14, .inl (g.1, 24, .inl (fun _ => Int32.ofInt 0))), (q15, .inl (g.1, 12, .inl (fun _ => Int32.ofInt 0))), (q16, .inl (g.1, 12, .inl (fun _ => Int32.ofInt 0))), (q17, .inl (g.1, 144, .inl (fun _ => Int32.ofInt 0))), (q18, .inl (g.1, 13, .inl (fun _ => Int32.ofInt 0)))]) (j := 7) (ad := q6) (fs := [.ref q0, .ref q1, .ref q2, .ref q3, .ref q4, .ref q5, .ref q6, iv 1, .ref q7, .ref q8, .ref q9, .ref q10, .ref q11, .ref q12, .ref q13, .ref q14, iv 0, iv 0, .ref q15, .ref q16, iv 0, .ref q17, .ref q18, iv 0]) (post := fun w1 => ∃ h : Nat → Nat, w1 = w0 ++ nwX11 g h0 h) X hr rfl (fun _ => rfl) rfl ⟨fun j => [q0, q1, q2, q3, q4, q5, q6, q7, q8, q9, q10, q11, q12, q13, q14, q15, q16, q17, q18].getD j 0, rfl⟩ 12 0 (by decide) _ (fun _ => Int32.ofInt 0) rfl (fun y => by rw [if_neg (by omega)])
