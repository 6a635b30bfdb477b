theorem dX7_writeStep_0 : decode cX7_writeStep 0 = .ok (.aload_n 0, 1) := by decide +kernel
theorem dX7_writeStep_1 : decode cX7_writeStep 1 = .ok (.getfield 42, 3) := by decide +kernel
theorem dX7_writeStep_4 : decode cX7_writeStep 4 = .ok (.aload_n 0, 1) := by decide +kernel
theorem dX7_writeStep_5 : decode cX7_writeStep 5 = .ok (.getfield 9, 3) := by decide +kernel
theorem dX7_writeStep_8 : decode cX7_writeStep 8 = .ok (.arraylength, 1) := by decide +kernel
theorem dX7_writeStep_9 : decode cX7_writeStep 9 = .ok (.if_icmp .ge 33, 3) := by decide +kernel
theorem dX7_writeStep_12 : decode cX7_writeStep 12 = .ok (.aload_n 0, 1) := by decide +kernel
theorem dX7_writeStep_13 : decode cX7_writeStep 13 = .ok (.getfield 9, 3) := by decide +kernel
theorem dX7_writeStep_16 : decode cX7_writeStep 16 = .ok (.aload_n 0, 1) := by decide +kernel
theorem dX7_writeStep_17 : decode cX7_writeStep 17 = .ok (.getfield 42, 3) := by decide +kernel
theorem dX7_writeStep_20 : decode cX7_writeStep 20 = .ok (.iload_n 1, 1) := by decide +kernel
theorem dX7_writeStep_21 : decode cX7_writeStep 21 = .ok (.iastore, 1) := by decide +kernel
theorem dX7_writeStep_22 : decode cX7_writeStep 22 = .ok (.aload_n 0, 1) := by decide +kernel
theorem dX7_writeStep_23 : decode cX7_writeStep 23 = .ok (.getfield 15, 3) := by decide +kernel
theorem dX7_writeStep_26 : decode cX7_writeStep 26 = .ok (.aload_n 0, 1) := by decide +kernel
theorem dX7_writeStep_27 : decode cX7_writeStep 27 = .ok (.getfield 42, 3) := by decide +kernel
theorem dX7_writeStep_30 : decode cX7_writeStep 30 = .ok (.iload_n 2, 1) := by decide +kernel
theorem dX7_writeStep_31 : decode cX7_writeStep 31 = .ok (.iastore, 1) := by decide +kernel
theorem dX7_writeStep_32 : decode cX7_writeStep 32 = .ok (.aload_n 0, 1) := by decide +kernel
theorem dX7_writeStep_33 : decode cX7_writeStep 33 = .ok (.dup, 1) := by decide +kernel
theorem dX7_writeStep_34 : decode cX7_writeStep 34 = .ok (.getfield 42, 3) := by decide +kernel
theorem dX7_writeStep_37 : decode cX7_writeStep 37 = .ok (.iconst 1, 1) := by decide +kernel
theorem dX7_writeStep_38 : decode cX7_writeStep 38 = .ok (.iadd, 1) := by decide +kernel
theorem dX7_writeStep_39 : decode cX7_writeStep 39 = .ok (.putfield 42, 3) := by decide +kernel
theorem dX7_writeStep_42 : decode cX7_writeStep 42 = .ok (.return_, 1) := by decide +kernel
theorem lk_X7_writeStep_f42 : Cond.fieldLink RX7 42 "TreeComparer$Script" "count" "I" ∈ wsX7_writeStep := by decide +kernel
theorem hi_X7_writeStep_7 : ∀ w ∈ u_ws RX7 TX7 9, w ∈ wsX7_writeStep := by decide +kernel
theorem lk_X7_writeStep_f9 : Cond.fieldLink RX7 9 "TreeComparer$Script" "edit" "[I" ∈ wsX7_writeStep := by decide +kernel
theorem lk_X7_writeStep_f15 : Cond.fieldLink RX7 15 "TreeComparer$Script" "node" "[I" ∈ wsX7_writeStep := by decide +kernel
def wpe_X7_writeStep (p0 : Int) (p1 : Int) (M : Mem) (Q : Mem → Prop) : Prop := inR (M 7 4 0) ∧ ((24 ≤ (M 7 4 0) → Q M) ∧ (¬ (24 ≤ (M 7 4 0)) → ((0 : Int) ≤ (M 7 4 0) ∧ (M 7 4 0) < 24) ∧ (∀ M3 : Mem, M3 = mset M 7 2 ((M 7 4 0)).toNat p0 → ((0 : Int) ≤ (M3 7 4 0) ∧ (M3 7 4 0) < 24) ∧ (∀ M5 : Mem, M5 = mset M3 7 3 ((M3 7 4 0)).toNat p1 → (∀ M7 : Mem, M7 = mset M5 7 4 0 ((M5 7 4 0) + 1) → Q M7)))))
def wp_X7_writeStep (M : Mem) (p0 : Int) (p1 : Int) (Q : Mem → Prop) : Prop := wpe_X7_writeStep p0 p1 M Q
set_option maxHeartbeats 4000000 in
set_option maxRecDepth 100000 in
theorem wke_X7_writeStep {p : Program} {l : Launch} {e : Env} {s : State} {m : MethodId} {args : Array Value} {below : List Frame} {meth : Method} {c : Code} {D : va_G} {g : GT} {A : Nat → Prop} {a : Nat → Nat} {b : Nat → Nat → Nat} (X : vC p s m args meth c D g A RX7 wsX7_writeStep cX7_writeStep 3) (hr : meth.sig.returnType = none) {p0 : Int} {p1 : Int} {M : Mem} {Q : Mem → Prop} (hw : wpe_X7_writeStep p0 p1 M Q) : vV p l e ({ frames := 0, cells := 0, slots := 0, locals := 0 } : Room) s m args below meth c D g A a b 3 0 0 (MQ below (cQv D g A a b Q) args s 0 0 A) M [(0, .ref (a 7)), (1, iv p0), (2, iv p1)] 0 [] := by
  unfold wpe_X7_writeStep at hw
  refine V_aload_n X dX7_writeStep_0 rfl (q := 0) rfl ?_
  refine V_get (C := RX7) (T := TX7) (N := 9) (ci := 7) X hi_X7_writeStep_7 gO_7 rfl 4 (by decide) lk_X7_writeStep_f42 (fun _ h9 => h9) rfl dX7_writeStep_1 ?_
  refine V_aload_n X dX7_writeStep_4 rfl (q := 0) rfl ?_
  refine V_get (C := RX7) (T := TX7) (N := 9) (ci := 7) X hi_X7_writeStep_7 gO_7 rfl 2 (by decide) lk_X7_writeStep_f9 (fun _ h9 => h9) rfl dX7_writeStep_5 ?_
  refine V_alen X (gA_7_2) dX7_writeStep_8 ?_
  obtain ⟨h1, hw⟩ := hw
  refine V_icmp_ge (tgt := 42) X h1 ⟨by decide, by decide⟩ dX7_writeStep_9 (by decide) (fun q2 => ?_) (fun q2 => ?_)
  · have hw := hw.1 q2
    exact V_vret X hr hw dX7_writeStep_42
  · have hw := hw.2 q2
    refine V_aload_n X dX7_writeStep_12 rfl (q := 0) rfl ?_
    refine V_get (C := RX7) (T := TX7) (N := 9) (ci := 7) X hi_X7_writeStep_7 gO_7 rfl 2 (by decide) lk_X7_writeStep_f9 (fun _ h9 => h9) rfl dX7_writeStep_13 ?_
    refine V_aload_n X dX7_writeStep_16 rfl (q := 0) rfl ?_
    refine V_get (C := RX7) (T := TX7) (N := 9) (ci := 7) X hi_X7_writeStep_7 gO_7 rfl 4 (by decide) lk_X7_writeStep_f42 (fun _ h9 => h9) rfl dX7_writeStep_17 ?_
    refine V_iload_n X dX7_writeStep_20 rfl (q := 1) rfl ?_
    obtain ⟨h4, hw⟩ := hw
    refine V_iast X (gA_7_2) (sA_7_2) h4 (by decide) dX7_writeStep_21 (fun M3 eM3 => ?_)
    have hw := hw M3 eM3
    refine V_aload_n X dX7_writeStep_22 rfl (q := 0) rfl ?_
    refine V_get (C := RX7) (T := TX7) (N := 9) (ci := 7) X hi_X7_writeStep_7 gO_7 rfl 3 (by decide) lk_X7_writeStep_f15 (fun _ h9 => h9) rfl dX7_writeStep_23 ?_
    refine V_aload_n X dX7_writeStep_26 rfl (q := 0) rfl ?_
    refine V_get (C := RX7) (T := TX7) (N := 9) (ci := 7) X hi_X7_writeStep_7 gO_7 rfl 4 (by decide) lk_X7_writeStep_f42 (fun _ h9 => h9) rfl dX7_writeStep_27 ?_
    refine V_iload_n X dX7_writeStep_30 rfl (q := 2) rfl ?_
    obtain ⟨h6, hw⟩ := hw
    refine V_iast X (gA_7_3) (sA_7_3) h6 (by decide) dX7_writeStep_31 (fun M5 eM5 => ?_)
    have hw := hw M5 eM5
    refine V_aload_n X dX7_writeStep_32 rfl (q := 0) rfl ?_
    refine V_dup X dX7_writeStep_33 rfl ?_
    refine V_get (C := RX7) (T := TX7) (N := 9) (ci := 7) X hi_X7_writeStep_7 gO_7 rfl 4 (by decide) lk_X7_writeStep_f42 (fun _ h9 => h9) rfl dX7_writeStep_34 ?_
    refine V_iconst X dX7_writeStep_37 ?_
    refine V_iadd X dX7_writeStep_38 ?_
    refine V_put (C := RX7) (T := TX7) (N := 9) (ci := 7) X hi_X7_writeStep_7 gO_7 rfl 4 (by decide) tyX7 tyX7_ok nmX7 rfl (tyX7_ok 4 (by decide)) (Or.inl rfl) (show 4 < 9 from by decide) sI_7_4 lk_X7_writeStep_f42 (fun _ h9 => h9) dX7_writeStep_39 (fun M7 eM7 => ?_)
    have hw := hw M7 eM7
    exact V_vret X hr hw dX7_writeStep_42
set_option maxHeartbeats 4000000 in
set_option maxRecDepth 100000 in
theorem c_X7_writeStep (l : Launch) {p0 : Int} {p1 : Int} {D : va_G} {g : GT} {A : Nat → Prop} {a : Nat → Nat} {b : Nat → Nat → Nat} {M : Mem} {Q : Mem → Prop} (hw : wp_X7_writeStep M p0 p1 Q) : Met l yX7_writeStep wsX7_writeStep ({ frames := 0, cells := 0, slots := 0, locals := 0 } : Room) (cPc D g A a b M [.ref (a 7), iv p0, iv p1]) (cQv D g A a b Q) 0 0 A := by
  refine Met.ofW (cc := cX7_writeStep) (maxL := 3) (ret := none) (by decide) rfl ?_
  intro p e s m args below meth c s₁ B hml hv
  obtain ⟨rfl, hP, hD, hG⟩ := hv
  have X : vC p s m _ meth c D g A RX7 wsX7_writeStep cX7_writeStep 3 := ⟨B.exec, B.bytes, findClass_of_methodNamed B.named, atoms_spec (ws := wsX7_writeStep) B.pre, hG, hml, B.notSynchronized⟩
  have hr := B.returns
  have hl := lv_entry ([.ref (a 7), iv p0, iv p1]) (n := 3) (Nat.le_of_ble_eq_true rfl)
  rw [lg_entry_eq]
  generalize (lg_sl ([.ref (a 7), iv p0, iv p1]) ++ List.replicate (3 - (lg_sl ([.ref (a 7), iv p0, iv p1])).length) Slot.unset).toArray = ls at hl ⊢
  have hl : lv_has ls 3 [(0, .ref (a 7)), (1, iv p0), (2, iv p1)] := hl
  exact wke_X7_writeStep X hr  hw s.heap [] ls hP hD va_S.rf hl

set_option maxRecDepth 20000 in
theorem ggX7_write_X7_writeStep : GoodIn wsX7_write wsX7_writeStep := goodIn_r _ [9, 2, 10, 11, 12, 13, 14, 15, 16, 17, 18, 19, 20] (by decide +kernel) (by decide +kernel)
set_option maxRecDepth 20000 in
theorem gX7_write_X7_writeStep : GoodIn wsX7_write (wsV RX7 57 RX7 yX7_writeStep wsX7_writeStep) := goodIn_app (goodIn_of _ (by decide +kernel)) ggX7_write_X7_writeStep
theorem dX7_write_0 : decode cX7_write 0 = .ok (.aload_n 0, 1) := by decide +kernel
theorem dX7_write_1 : decode cX7_write 1 = .ok (.getfield 25, 3) := by decide +kernel
theorem dX7_write_4 : decode cX7_write 4 = .ok (.getfield 33, 3) := by decide +kernel
theorem dX7_write_7 : decode cX7_write 7 = .ok (.astore_n 1, 1) := by decide +kernel
theorem dX7_write_8 : decode cX7_write 8 = .ok (.aload_n 0, 1) := by decide +kernel
theorem dX7_write_9 : decode cX7_write 9 = .ok (.getfield 25, 3) := by decide +kernel
theorem dX7_write_12 : decode cX7_write 12 = .ok (.getfield 39, 3) := by decide +kernel
theorem dX7_write_15 : decode cX7_write 15 = .ok (.astore_n 2, 1) := by decide +kernel
theorem dX7_write_16 : decode cX7_write 16 = .ok (.aload_n 0, 1) := by decide +kernel
theorem dX7_write_17 : decode cX7_write 17 = .ok (.iconst 0, 1) := by decide +kernel
theorem dX7_write_18 : decode cX7_write 18 = .ok (.putfield 42, 3) := by decide +kernel
theorem dX7_write_21 : decode cX7_write 21 = .ok (.iconst 0, 1) := by decide +kernel
theorem dX7_write_22 : decode cX7_write 22 = .ok (.istore_n 3, 1) := by decide +kernel
theorem dX7_write_23 : decode cX7_write 23 = .ok (.iload_n 3, 1) := by decide +kernel
theorem dX7_write_24 : decode cX7_write 24 = .ok (.aload_n 1, 1) := by decide +kernel
theorem dX7_write_25 : decode cX7_write 25 = .ok (.getfield 46, 3) := by decide +kernel
theorem dX7_write_28 : decode cX7_write 28 = .ok (.if_icmp .ge 38, 3) := by decide +kernel
theorem dX7_write_31 : decode cX7_write 31 = .ok (.aload_n 0, 1) := by decide +kernel
theorem dX7_write_32 : decode cX7_write 32 = .ok (.getfield 29, 3) := by decide +kernel
theorem dX7_write_35 : decode cX7_write 35 = .ok (.getfield 49, 3) := by decide +kernel
theorem dX7_write_38 : decode cX7_write 38 = .ok (.aload_n 1, 1) := by decide +kernel
theorem dX7_write_39 : decode cX7_write 39 = .ok (.getfield 54, 3) := by decide +kernel
theorem dX7_write_42 : decode cX7_write 42 = .ok (.iload_n 3, 1) := by decide +kernel
theorem dX7_write_43 : decode cX7_write 43 = .ok (.iaload, 1) := by decide +kernel
theorem dX7_write_44 : decode cX7_write 44 = .ok (.iaload, 1) := by decide +kernel
theorem dX7_write_45 : decode cX7_write 45 = .ok (.iconst (-1), 1) := by decide +kernel
theorem dX7_write_46 : decode cX7_write 46 = .ok (.if_icmp .ne 14, 3) := by decide +kernel
theorem dX7_write_49 : decode cX7_write 49 = .ok (.aload_n 0, 1) := by decide +kernel
theorem dX7_write_50 : decode cX7_write 50 = .ok (.iconst 0, 1) := by decide +kernel
theorem dX7_write_51 : decode cX7_write 51 = .ok (.aload_n 1, 1) := by decide +kernel
theorem dX7_write_52 : decode cX7_write 52 = .ok (.getfield 54, 3) := by decide +kernel
theorem dX7_write_55 : decode cX7_write 55 = .ok (.iload_n 3, 1) := by decide +kernel
theorem dX7_write_56 : decode cX7_write 56 = .ok (.iaload, 1) := by decide +kernel
theorem dX7_write_57 : decode cX7_write 57 = .ok (.invokevirtual 57, 3) := by decide +kernel
theorem dX7_write_60 : decode cX7_write 60 = .ok (.iinc 3 1, 3) := by decide +kernel
theorem dX7_write_63 : decode cX7_write 63 = .ok (.goto (-40), 3) := by decide +kernel
theorem dX7_write_66 : decode cX7_write 66 = .ok (.iconst 0, 1) := by decide +kernel
theorem dX7_write_67 : decode cX7_write 67 = .ok (.istore_n 3, 1) := by decide +kernel
theorem dX7_write_68 : decode cX7_write 68 = .ok (.iload_n 3, 1) := by decide +kernel
theorem dX7_write_69 : decode cX7_write 69 = .ok (.aload_n 1, 1) := by decide +kernel
theorem dX7_write_70 : decode cX7_write 70 = .ok (.getfield 46, 3) := by decide +kernel
theorem dX7_write_73 : decode cX7_write 73 = .ok (.if_icmp .ge 63, 3) := by decide +kernel
theorem dX7_write_76 : decode cX7_write 76 = .ok (.aload_n 0, 1) := by decide +kernel
theorem dX7_write_77 : decode cX7_write 77 = .ok (.getfield 29, 3) := by decide +kernel
theorem dX7_write_80 : decode cX7_write 80 = .ok (.getfield 49, 3) := by decide +kernel
theorem dX7_write_83 : decode cX7_write 83 = .ok (.aload_n 1, 1) := by decide +kernel
theorem dX7_write_84 : decode cX7_write 84 = .ok (.getfield 61, 3) := by decide +kernel
theorem dX7_write_87 : decode cX7_write 87 = .ok (.iload_n 3, 1) := by decide +kernel
theorem dX7_write_88 : decode cX7_write 88 = .ok (.iaload, 1) := by decide +kernel
theorem dX7_write_89 : decode cX7_write 89 = .ok (.iaload, 1) := by decide +kernel
theorem dX7_write_90 : decode cX7_write 90 = .ok (.istore 4, 2) := by decide +kernel
theorem dX7_write_92 : decode cX7_write 92 = .ok (.iload 4, 2) := by decide +kernel
theorem dX7_write_94 : decode cX7_write 94 = .ok (.iconst (-1), 1) := by decide +kernel
theorem dX7_write_95 : decode cX7_write 95 = .ok (.if_icmp .eq 35, 3) := by decide +kernel
theorem dX7_write_98 : decode cX7_write 98 = .ok (.aload_n 2, 1) := by decide +kernel
theorem dX7_write_99 : decode cX7_write 99 = .ok (.getfield 64, 3) := by decide +kernel
theorem dX7_write_102 : decode cX7_write 102 = .ok (.iload 4, 2) := by decide +kernel
theorem dX7_write_104 : decode cX7_write 104 = .ok (.iaload, 1) := by decide +kernel
theorem dX7_write_105 : decode cX7_write 105 = .ok (.aload_n 1, 1) := by decide +kernel
theorem dX7_write_106 : decode cX7_write 106 = .ok (.getfield 64, 3) := by decide +kernel
theorem dX7_write_109 : decode cX7_write 109 = .ok (.aload_n 1, 1) := by decide +kernel
theorem dX7_write_110 : decode cX7_write 110 = .ok (.getfield 61, 3) := by decide +kernel
theorem dX7_write_113 : decode cX7_write 113 = .ok (.iload_n 3, 1) := by decide +kernel
theorem dX7_write_114 : decode cX7_write 114 = .ok (.iaload, 1) := by decide +kernel
theorem dX7_write_115 : decode cX7_write 115 = .ok (.iaload, 1) := by decide +kernel
theorem dX7_write_116 : decode cX7_write 116 = .ok (.if_icmp .eq 14, 3) := by decide +kernel
theorem dX7_write_119 : decode cX7_write 119 = .ok (.aload_n 0, 1) := by decide +kernel
theorem dX7_write_120 : decode cX7_write 120 = .ok (.iconst 1, 1) := by decide +kernel
theorem dX7_write_121 : decode cX7_write 121 = .ok (.aload_n 1, 1) := by decide +kernel
theorem dX7_write_122 : decode cX7_write 122 = .ok (.getfield 61, 3) := by decide +kernel
theorem dX7_write_125 : decode cX7_write 125 = .ok (.iload_n 3, 1) := by decide +kernel
theorem dX7_write_126 : decode cX7_write 126 = .ok (.iaload, 1) := by decide +kernel
theorem dX7_write_127 : decode cX7_write 127 = .ok (.invokevirtual 57, 3) := by decide +kernel
theorem dX7_write_130 : decode cX7_write 130 = .ok (.iinc 3 1, 3) := by decide +kernel
theorem dX7_write_133 : decode cX7_write 133 = .ok (.goto (-65), 3) := by decide +kernel
theorem dX7_write_136 : decode cX7_write 136 = .ok (.aload_n 0, 1) := by decide +kernel
theorem dX7_write_137 : decode cX7_write 137 = .ok (.aload_n 0, 1) := by decide +kernel
theorem dX7_write_138 : decode cX7_write 138 = .ok (.getfield 42, 3) := by decide +kernel
theorem dX7_write_141 : decode cX7_write 141 = .ok (.putfield 67, 3) := by decide +kernel
theorem dX7_write_144 : decode cX7_write 144 = .ok (.iconst 0, 1) := by decide +kernel
theorem dX7_write_145 : decode cX7_write 145 = .ok (.istore_n 3, 1) := by decide +kernel
theorem dX7_write_146 : decode cX7_write 146 = .ok (.iload_n 3, 1) := by decide +kernel
theorem dX7_write_147 : decode cX7_write 147 = .ok (.aload_n 2, 1) := by decide +kernel
theorem dX7_write_148 : decode cX7_write 148 = .ok (.getfield 46, 3) := by decide +kernel
theorem dX7_write_151 : decode cX7_write 151 = .ok (.if_icmp .ge 38, 3) := by decide +kernel
theorem dX7_write_154 : decode cX7_write 154 = .ok (.aload_n 0, 1) := by decide +kernel
theorem dX7_write_155 : decode cX7_write 155 = .ok (.getfield 29, 3) := by decide +kernel
theorem dX7_write_158 : decode cX7_write 158 = .ok (.getfield 70, 3) := by decide +kernel
theorem dX7_write_161 : decode cX7_write 161 = .ok (.aload_n 2, 1) := by decide +kernel
theorem dX7_write_162 : decode cX7_write 162 = .ok (.getfield 61, 3) := by decide +kernel
theorem dX7_write_165 : decode cX7_write 165 = .ok (.iload_n 3, 1) := by decide +kernel
theorem dX7_write_166 : decode cX7_write 166 = .ok (.iaload, 1) := by decide +kernel
theorem dX7_write_167 : decode cX7_write 167 = .ok (.iaload, 1) := by decide +kernel
theorem dX7_write_168 : decode cX7_write 168 = .ok (.iconst (-1), 1) := by decide +kernel
theorem dX7_write_169 : decode cX7_write 169 = .ok (.if_icmp .ne 14, 3) := by decide +kernel
theorem dX7_write_172 : decode cX7_write 172 = .ok (.aload_n 0, 1) := by decide +kernel
theorem dX7_write_173 : decode cX7_write 173 = .ok (.iconst 2, 1) := by decide +kernel
theorem dX7_write_174 : decode cX7_write 174 = .ok (.aload_n 2, 1) := by decide +kernel
theorem dX7_write_175 : decode cX7_write 175 = .ok (.getfield 61, 3) := by decide +kernel
theorem dX7_write_178 : decode cX7_write 178 = .ok (.iload_n 3, 1) := by decide +kernel
theorem dX7_write_179 : decode cX7_write 179 = .ok (.iaload, 1) := by decide +kernel
theorem dX7_write_180 : decode cX7_write 180 = .ok (.invokevirtual 57, 3) := by decide +kernel
theorem dX7_write_183 : decode cX7_write 183 = .ok (.iinc 3 1, 3) := by decide +kernel
theorem dX7_write_186 : decode cX7_write 186 = .ok (.goto (-40), 3) := by decide +kernel
theorem dX7_write_189 : decode cX7_write 189 = .ok (.return_, 1) := by decide +kernel
theorem lk_X7_write_f25 : Cond.fieldLink RX7 25 "TreeComparer$Script" "given" "LTreeComparer$Given;" ∈ wsX7_write := by decide +kernel
theorem hi_X7_write_7 : ∀ w ∈ u_ws RX7 TX7 9, w ∈ wsX7_write := by decide +kernel
theorem hi_X7_write_1 : ∀ w ∈ u_ws RX1 TX1 6, w ∈ wsX7_write := by decide +kernel
theorem lk_X7_write_f42 : Cond.fieldLink RX7 42 "TreeComparer$Script" "count" "I" ∈ wsX7_write := by decide +kernel
theorem hi_X7_write_9 : ∀ w ∈ u_ws RX9 TX9 9, w ∈ wsX7_write := by decide +kernel
theorem lk_X7_write_f29 : Cond.fieldLink RX7 29 "TreeComparer$Script" "mapping" "LTreeComparer$Mapping;" ∈ wsX7_write := by decide +kernel
theorem hi_X7_write_4 : ∀ w ∈ u_ws RX4 TX4 8, w ∈ wsX7_write := by decide +kernel
theorem lk_X7_write_f67 : Cond.fieldLink RX7 67 "TreeComparer$Script" "oldCount" "I" ∈ wsX7_write := by decide +kernel
def wpj_X7_write_183 (x3 : Int) (M : Mem) (J23 : Int → Mem → Prop) (J68 : Int → Mem → Prop) (J146 : Int → Mem → Prop) (Q : Mem → Prop) : Prop := J146 (x3 + 1) M
def wph_X7_write_146 (x3 : Int) (M : Mem) (J23 : Int → Mem → Prop) (J68 : Int → Mem → Prop) (J146 : Int → Mem → Prop) (Q : Mem → Prop) : Prop := inR x3 ∧ inR (M 12 8 0) ∧ (((M 12 8 0) ≤ x3 → Q M) ∧ (¬ ((M 12 8 0) ≤ x3) → ((0 : Int) ≤ x3 ∧ x3 < 12) ∧ ((0 : Int) ≤ (M 12 3 x3.toNat) ∧ (M 12 3 x3.toNat) < 12) ∧ inR (M 6 3 ((M 12 3 x3.toNat)).toNat) ∧ (((M 6 3 ((M 12 3 x3.toNat)).toNat) ≠ (-1) → wpj_X7_write_183 x3 M J23 J68 J146 Q) ∧ (¬ ((M 6 3 ((M 12 3 x3.toNat)).toNat) ≠ (-1)) → ((0 : Int) ≤ x3 ∧ x3 < 12) ∧ wp_X7_writeStep M 2 ((M 12 3 x3.toNat)) (fun M39 => wpj_X7_write_183 x3 M39 J23 J68 J146 Q)))))
def wpj_X7_write_130 (x3 : Int) (M : Mem) (J23 : Int → Mem → Prop) (J68 : Int → Mem → Prop) (J146 : Int → Mem → Prop) (Q : Mem → Prop) : Prop := J68 (x3 + 1) M
def wph_X7_write_68 (x3 : Int) (M : Mem) (J23 : Int → Mem → Prop) (J68 : Int → Mem → Prop) (J146 : Int → Mem → Prop) (Q : Mem → Prop) : Prop := inR x3 ∧ inR (M 11 8 0) ∧ (((M 11 8 0) ≤ x3 → (∀ M15 : Mem, M15 = mset M 7 5 0 ((M 7 4 0)) → J146 0 M15)) ∧ (¬ ((M 11 8 0) ≤ x3) → ((0 : Int) ≤ x3 ∧ x3 < 12) ∧ ((0 : Int) ≤ (M 11 3 x3.toNat) ∧ (M 11 3 x3.toNat) < 12) ∧ (∀ y18 : Int, y18 = (M 6 2 ((M 11 3 x3.toNat)).toNat) → inR y18 ∧ ((y18 = (-1) → wpj_X7_write_130 x3 M J23 J68 J146 Q) ∧ (¬ (y18 = (-1)) → ((0 : Int) ≤ y18 ∧ y18 < 12) ∧ ((0 : Int) ≤ x3 ∧ x3 < 12) ∧ ((0 : Int) ≤ (M 11 3 x3.toNat) ∧ (M 11 3 x3.toNat) < 12) ∧ inR (M 12 1 y18.toNat) ∧ inR (M 11 1 ((M 11 3 x3.toNat)).toNat) ∧ (((M 12 1 y18.toNat) = (M 11 1 ((M 11 3 x3.toNat)).toNat) → wpj_X7_write_130 x3 M J23 J68 J146 Q) ∧ (¬ ((M 12 1 y18.toNat) = (M 11 1 ((M 11 3 x3.toNat)).toNat)) → ((0 : Int) ≤ x3 ∧ x3 < 12) ∧ wp_X7_writeStep M 1 ((M 11 3 x3.toNat)) (fun M29 => wpj_X7_write_130 x3 M29 J23 J68 J146 Q))))))))
def wpj_X7_write_60 (x3 : Int) (M : Mem) (J23 : Int → Mem → Prop) (J68 : Int → Mem → Prop) (J146 : Int → Mem → Prop) (Q : Mem → Prop) : Prop := J23 (x3 + 1) M
def wph_X7_write_23 (x3 : Int) (M : Mem) (J23 : Int → Mem → Prop) (J68 : Int → Mem → Prop) (J146 : Int → Mem → Prop) (Q : Mem → Prop) : Prop := inR x3 ∧ inR (M 11 8 0) ∧ (((M 11 8 0) ≤ x3 → J68 0 M) ∧ (¬ ((M 11 8 0) ≤ x3) → ((0 : Int) ≤ x3 ∧ x3 < 12) ∧ ((0 : Int) ≤ (M 11 4 x3.toNat) ∧ (M 11 4 x3.toNat) < 12) ∧ inR (M 6 2 ((M 11 4 x3.toNat)).toNat) ∧ (((M 6 2 ((M 11 4 x3.toNat)).toNat) ≠ (-1) → wpj_X7_write_60 x3 M J23 J68 J146 Q) ∧ (¬ ((M 6 2 ((M 11 4 x3.toNat)).toNat) ≠ (-1)) → ((0 : Int) ≤ x3 ∧ x3 < 12) ∧ wp_X7_writeStep M 0 ((M 11 4 x3.toNat)) (fun M11 => wpj_X7_write_60 x3 M11 J23 J68 J146 Q)))))
def wpe_X7_write (M : Mem) (J23 : Int → Mem → Prop) (J68 : Int → Mem → Prop) (J146 : Int → Mem → Prop) (Q : Mem → Prop) : Prop := (∀ M1 : Mem, M1 = mset M 7 4 0 0 → J23 0 M1)
def wp_X7_write (M : Mem) (Q : Mem → Prop) : Prop := ∃ (I23 : Nat → Int → Mem → Prop) (I68 : Nat → Int → Mem → Prop) (I146 : Nat → Int → Mem → Prop), wpe_X7_write M (fun (x3 : Int) (M1 : Mem) => ∃ n1 : Nat, I23 n1 x3 M1) (fun (x3 : Int) (M1 : Mem) => ∃ n1 : Nat, I68 n1 x3 M1) (fun (x3 : Int) (M1 : Mem) => ∃ n1 : Nat, I146 n1 x3 M1) Q ∧ (∀ (n : Nat) (x3 : Int) (M : Mem), I23 n x3 M → wph_X7_write_23 x3 M (fun (x3 : Int) (M1 : Mem) => ∃ n1 : Nat, n1 < n ∧ I23 n1 x3 M1) (fun (x3 : Int) (M1 : Mem) => ∃ n1 : Nat, n1 < n ∧ I68 n1 x3 M1) (fun (x3 : Int) (M1 : Mem) => ∃ n1 : Nat, n1 < n ∧ I146 n1 x3 M1) Q) ∧ (∀ (n : Nat) (x3 : Int) (M : Mem), I68 n x3 M → wph_X7_write_68 x3 M (fun (x3 : Int) (M1 : Mem) => ∃ n1 : Nat, n1 < n ∧ I23 n1 x3 M1) (fun (x3 : Int) (M1 : Mem) => ∃ n1 : Nat, n1 < n ∧ I68 n1 x3 M1) (fun (x3 : Int) (M1 : Mem) => ∃ n1 : Nat, n1 < n ∧ I146 n1 x3 M1) Q) ∧ (∀ (n : Nat) (x3 : Int) (M : Mem), I146 n x3 M → wph_X7_write_146 x3 M (fun (x3 : Int) (M1 : Mem) => ∃ n1 : Nat, n1 < n ∧ I23 n1 x3 M1) (fun (x3 : Int) (M1 : Mem) => ∃ n1 : Nat, n1 < n ∧ I68 n1 x3 M1) (fun (x3 : Int) (M1 : Mem) => ∃ n1 : Nat, n1 < n ∧ I146 n1 x3 M1) Q)
set_option maxHeartbeats 4000000 in
set_option maxRecDepth 100000 in
theorem wkj_X7_write_183 {p : Program} {l : Launch} {e : Env} {s : State} {m : MethodId} {args : Array Value} {below : List Frame} {meth : Method} {c : Code} {D : va_G} {g : GT} {A : Nat → Prop} {a : Nat → Nat} {b : Nat → Nat → Nat} (X : vC p s m args meth c D g A RX7 wsX7_write cX7_write 5) (hr : meth.sig.returnType = none) {x3 : Int} {M : Mem} {J23 : Int → Mem → Prop} {J68 : Int → Mem → Prop} {J146 : Int → Mem → Prop} {Q : Mem → Prop} (hJ23 : ∀ (x3 : Int) (M : Mem), J23 x3 M → vV p l e ({ frames := 1, cells := 0, slots := 0, locals := 22 } : Room) s m args below meth c D g A a b 5 0 0 (MQ below (cQv D g A a b Q) args s 0 0 A) M [(0, .ref (a 7)), (1, .ref (a 11)), (2, .ref (a 12)), (3, iv x3)] 23 []) (hJ68 : ∀ (x3 : Int) (M : Mem), J68 x3 M → vV p l e ({ frames := 1, cells := 0, slots := 0, locals := 22 } : Room) s m args below meth c D g A a b 5 0 0 (MQ below (cQv D g A a b Q) args s 0 0 A) M [(0, .ref (a 7)), (1, .ref (a 11)), (2, .ref (a 12)), (3, iv x3)] 68 []) (hJ146 : ∀ (x3 : Int) (M : Mem), J146 x3 M → vV p l e ({ frames := 1, cells := 0, slots := 0, locals := 22 } : Room) s m args below meth c D g A a b 5 0 0 (MQ below (cQv D g A a b Q) args s 0 0 A) M [(0, .ref (a 7)), (2, .ref (a 12)), (3, iv x3)] 146 []) (hw : wpj_X7_write_183 x3 M J23 J68 J146 Q) : vV p l e ({ frames := 1, cells := 0, slots := 0, locals := 22 } : Room) s m args below meth c D g A a b 5 0 0 (MQ below (cQv D g A a b Q) args s 0 0 A) M [(0, .ref (a 7)), (2, .ref (a 12)), (3, iv x3)] 183 [] := by
  unfold wpj_X7_write_183 at hw
  refine V_iinc (lv1 := [(0, .ref (a 7)), (2, .ref (a 12)), (3, iv (x3 + 1))]) X [1, 2, 0] dX7_write_183 (q := 2) rfl (by decide) rfl ?_
  refine V_goto (tgt := 146) X dX7_write_186 (by decide) ?_
  exact hJ146 _ _ hw
set_option maxHeartbeats 4000000 in
set_option maxRecDepth 100000 in
theorem wkh_X7_write_146 {p : Program} {l : Launch} {e : Env} {s : State} {m : MethodId} {args : Array Value} {below : List Frame} {meth : Method} {c : Code} {D : va_G} {g : GT} {A : Nat → Prop} {a : Nat → Nat} {b : Nat → Nat → Nat} (X : vC p s m args meth c D g A RX7 wsX7_write cX7_write 5) (hr : meth.sig.returnType = none) {x3 : Int} {M : Mem} {J23 : Int → Mem → Prop} {J68 : Int → Mem → Prop} {J146 : Int → Mem → Prop} {Q : Mem → Prop} (hJ23 : ∀ (x3 : Int) (M : Mem), J23 x3 M → vV p l e ({ frames := 1, cells := 0, slots := 0, locals := 22 } : Room) s m args below meth c D g A a b 5 0 0 (MQ below (cQv D g A a b Q) args s 0 0 A) M [(0, .ref (a 7)), (1, .ref (a 11)), (2, .ref (a 12)), (3, iv x3)] 23 []) (hJ68 : ∀ (x3 : Int) (M : Mem), J68 x3 M → vV p l e ({ frames := 1, cells := 0, slots := 0, locals := 22 } : Room) s m args below meth c D g A a b 5 0 0 (MQ below (cQv D g A a b Q) args s 0 0 A) M [(0, .ref (a 7)), (1, .ref (a 11)), (2, .ref (a 12)), (3, iv x3)] 68 []) (hJ146 : ∀ (x3 : Int) (M : Mem), J146 x3 M → vV p l e ({ frames := 1, cells := 0, slots := 0, locals := 22 } : Room) s m args below meth c D g A a b 5 0 0 (MQ below (cQv D g A a b Q) args s 0 0 A) M [(0, .ref (a 7)), (2, .ref (a 12)), (3, iv x3)] 146 []) (hw : wph_X7_write_146 x3 M J23 J68 J146 Q) : vV p l e ({ frames := 1, cells := 0, slots := 0, locals := 22 } : Room) s m args below meth c D g A a b 5 0 0 (MQ below (cQv D g A a b Q) args s 0 0 A) M [(0, .ref (a 7)), (2, .ref (a 12)), (3, iv x3)] 146 [] := by
  unfold wph_X7_write_146 at hw
  refine V_iload_n X dX7_write_146 rfl (q := 2) rfl ?_
  refine V_aload_n X dX7_write_147 rfl (q := 1) rfl ?_
  refine V_getN (C := RX9) (T := TX9) (N := 9) (ci := 9) X hi_X7_write_9 gO_12 rfl 8 (by decide) (List.mem_of_getElem? (i := 21) rfl) (fun _ h9 => h9) rfl dX7_write_148 ?_
  obtain ⟨h30, h31, hw⟩ := hw
  refine V_icmp_ge (tgt := 189) X h30 h31 dX7_write_151 (by decide) (fun q32 => ?_) (fun q32 => ?_)
  · have hw := hw.1 q32
    exact V_vret X hr hw dX7_write_189
  · have hw := hw.2 q32
    refine V_aload_n X dX7_write_154 rfl (q := 0) rfl ?_
    refine V_get (C := RX7) (T := TX7) (N := 9) (ci := 7) X hi_X7_write_7 gO_7 rfl 1 (by decide) lk_X7_write_f29 (fun _ h9 => h9) rfl dX7_write_155 ?_
    refine V_getN (C := RX4) (T := TX4) (N := 8) (ci := 4) X hi_X7_write_4 gO_6 rfl 3 (by decide) (List.mem_of_getElem? (i := 75) rfl) (fun _ h9 => h9) rfl dX7_write_158 ?_
    refine V_aload_n X dX7_write_161 rfl (q := 1) rfl ?_
    refine V_getN (C := RX9) (T := TX9) (N := 9) (ci := 9) X hi_X7_write_9 gO_12 rfl 3 (by decide) (List.mem_of_getElem? (i := 10) rfl) (fun _ h9 => h9) rfl dX7_write_162 ?_
    refine V_iload_n X dX7_write_165 rfl (q := 2) rfl ?_
    obtain ⟨h33, hw⟩ := hw
    refine V_iald X (gA_12_3) h33 (by decide) dX7_write_166 ?_
    obtain ⟨h34, hw⟩ := hw
    refine V_iald X (gA_6_3) h34 (by decide) dX7_write_167 ?_
    refine V_iconst X dX7_write_168 ?_
    obtain ⟨h35, hw⟩ := hw
    refine V_icmp_ne (tgt := 183) X h35 ⟨by decide, by decide⟩ dX7_write_169 (by decide) (fun q36 => ?_) (fun q36 => ?_)
    · have hw := hw.1 q36
      exact wkj_X7_write_183 X hr hJ23 hJ68 hJ146 hw
    · have hw := hw.2 q36
      refine V_aload_n X dX7_write_172 rfl (q := 0) rfl ?_
      refine V_iconst X dX7_write_173 ?_
      refine V_aload_n X dX7_write_174 rfl (q := 1) rfl ?_
      refine V_getN (C := RX9) (T := TX9) (N := 9) (ci := 9) X hi_X7_write_9 gO_12 rfl 3 (by decide) (List.mem_of_getElem? (i := 10) rfl) (fun _ h9 => h9) rfl dX7_write_175 ?_
      refine V_iload_n X dX7_write_178 rfl (q := 2) rfl ?_
      obtain ⟨h37, hw⟩ := hw
      refine V_iald X (gA_12_3) h37 (by decide) dX7_write_179 ?_
      refine V_callV_v X _ gO_7 rfl (As := [iv 2, iv ((M 12 3 x3.toNat))]) (st := []) (c_X7_writeStep l hw) (cwV 2 X.2.2.2.1 gX7_write_X7_writeStep rfl rfl rfl (by decide +kernel) ⟨Nat.le_of_ble_eq_true rfl, Nat.le_of_ble_eq_true rfl⟩) rfl (Nat.le_of_ble_eq_true rfl) ⟨Nat.le_of_ble_eq_true rfl, Nat.le_of_ble_eq_true rfl⟩ rfl dX7_write_180 (fun M39 hw => ?_)
      exact wkj_X7_write_183 X hr hJ23 hJ68 hJ146 hw
set_option maxHeartbeats 4000000 in
set_option maxRecDepth 100000 in
theorem wkj_X7_write_130 {p : Program} {l : Launch} {e : Env} {s : State} {m : MethodId} {args : Array Value} {below : List Frame} {meth : Method} {c : Code} {D : va_G} {g : GT} {A : Nat → Prop} {a : Nat → Nat} {b : Nat → Nat → Nat} (X : vC p s m args meth c D g A RX7 wsX7_write cX7_write 5) (hr : meth.sig.returnType = none) {x3 : Int} {M : Mem} {J23 : Int → Mem → Prop} {J68 : Int → Mem → Prop} {J146 : Int → Mem → Prop} {Q : Mem → Prop} (hJ23 : ∀ (x3 : Int) (M : Mem), J23 x3 M → vV p l e ({ frames := 1, cells := 0, slots := 0, locals := 22 } : Room) s m args below meth c D g A a b 5 0 0 (MQ below (cQv D g A a b Q) args s 0 0 A) M [(0, .ref (a 7)), (1, .ref (a 11)), (2, .ref (a 12)), (3, iv x3)] 23 []) (hJ68 : ∀ (x3 : Int) (M : Mem), J68 x3 M → vV p l e ({ frames := 1, cells := 0, slots := 0, locals := 22 } : Room) s m args below meth c D g A a b 5 0 0 (MQ below (cQv D g A a b Q) args s 0 0 A) M [(0, .ref (a 7)), (1, .ref (a 11)), (2, .ref (a 12)), (3, iv x3)] 68 []) (hJ146 : ∀ (x3 : Int) (M : Mem), J146 x3 M → vV p l e ({ frames := 1, cells := 0, slots := 0, locals := 22 } : Room) s m args below meth c D g A a b 5 0 0 (MQ below (cQv D g A a b Q) args s 0 0 A) M [(0, .ref (a 7)), (2, .ref (a 12)), (3, iv x3)] 146 []) (hw : wpj_X7_write_130 x3 M J23 J68 J146 Q) : vV p l e ({ frames := 1, cells := 0, slots := 0, locals := 22 } : Room) s m args below meth c D g A a b 5 0 0 (MQ below (cQv D g A a b Q) args s 0 0 A) M [(0, .ref (a 7)), (1, .ref (a 11)), (2, .ref (a 12)), (3, iv x3)] 130 [] := by
  unfold wpj_X7_write_130 at hw
  refine V_iinc (lv1 := [(0, .ref (a 7)), (1, .ref (a 11)), (2, .ref (a 12)), (3, iv (x3 + 1))]) X [1, 2, 3, 0] dX7_write_130 (q := 3) rfl (by decide) rfl ?_
  refine V_goto (tgt := 68) X dX7_write_133 (by decide) ?_
  exact hJ68 _ _ hw
set_option maxHeartbeats 4000000 in
set_option maxRecDepth 100000 in
theorem wkh_X7_write_68 {p : Program} {l : Launch} {e : Env} {s : State} {m : MethodId} {args : Array Value} {below : List Frame} {meth : Method} {c : Code} {D : va_G} {g : GT} {A : Nat → Prop} {a : Nat → Nat} {b : Nat → Nat → Nat} (X : vC p s m args meth c D g A RX7 wsX7_write cX7_write 5) (hr : meth.sig.returnType = none) {x3 : Int} {M : Mem} {J23 : Int → Mem → Prop} {J68 : Int → Mem → Prop} {J146 : Int → Mem → Prop} {Q : Mem → Prop} (hJ23 : ∀ (x3 : Int) (M : Mem), J23 x3 M → vV p l e ({ frames := 1, cells := 0, slots := 0, locals := 22 } : Room) s m args below meth c D g A a b 5 0 0 (MQ below (cQv D g A a b Q) args s 0 0 A) M [(0, .ref (a 7)), (1, .ref (a 11)), (2, .ref (a 12)), (3, iv x3)] 23 []) (hJ68 : ∀ (x3 : Int) (M : Mem), J68 x3 M → vV p l e ({ frames := 1, cells := 0, slots := 0, locals := 22 } : Room) s m args below meth c D g A a b 5 0 0 (MQ below (cQv D g A a b Q) args s 0 0 A) M [(0, .ref (a 7)), (1, .ref (a 11)), (2, .ref (a 12)), (3, iv x3)] 68 []) (hJ146 : ∀ (x3 : Int) (M : Mem), J146 x3 M → vV p l e ({ frames := 1, cells := 0, slots := 0, locals := 22 } : Room) s m args below meth c D g A a b 5 0 0 (MQ below (cQv D g A a b Q) args s 0 0 A) M [(0, .ref (a 7)), (2, .ref (a 12)), (3, iv x3)] 146 []) (hw : wph_X7_write_68 x3 M J23 J68 J146 Q) : vV p l e ({ frames := 1, cells := 0, slots := 0, locals := 22 } : Room) s m args below meth c D g A a b 5 0 0 (MQ below (cQv D g A a b Q) args s 0 0 A) M [(0, .ref (a 7)), (1, .ref (a 11)), (2, .ref (a 12)), (3, iv x3)] 68 [] := by
  unfold wph_X7_write_68 at hw
  refine V_iload_n X dX7_write_68 rfl (q := 3) rfl ?_
  refine V_aload_n X dX7_write_69 rfl (q := 1) rfl ?_
  refine V_getN (C := RX9) (T := TX9) (N := 9) (ci := 9) X hi_X7_write_9 gO_11 rfl 8 (by decide) (List.mem_of_getElem? (i := 21) rfl) (fun _ h9 => h9) rfl dX7_write_70 ?_
  obtain ⟨h12, h13, hw⟩ := hw
  refine V_icmp_ge (tgt := 136) X h12 h13 dX7_write_73 (by decide) (fun q14 => ?_) (fun q14 => ?_)
  · have hw := hw.1 q14
    refine V_aload_n X dX7_write_136 rfl (q := 0) rfl ?_
    refine V_aload_n X dX7_write_137 rfl (q := 0) rfl ?_
    refine V_get (C := RX7) (T := TX7) (N := 9) (ci := 7) X hi_X7_write_7 gO_7 rfl 4 (by decide) lk_X7_write_f42 (fun _ h9 => h9) rfl dX7_write_138 ?_
    refine V_put (C := RX7) (T := TX7) (N := 9) (ci := 7) X hi_X7_write_7 gO_7 rfl 5 (by decide) tyX7 tyX7_ok nmX7 rfl (tyX7_ok 5 (by decide)) (Or.inl rfl) (show 5 < 9 from by decide) sI_7_5 lk_X7_write_f67 (fun _ h9 => h9) dX7_write_141 (fun M15 eM15 => ?_)
    have hw := hw M15 eM15
    refine V_iconst X dX7_write_144 ?_
    refine V_istore_n (lv1 := [(0, .ref (a 7)), (1, .ref (a 11)), (2, .ref (a 12)), (3, iv 0)]) X [1, 2, 3, 0] dX7_write_145 rfl (by decide) rfl ?_
    refine V_sub (lv1 := [(0, .ref (a 7)), (2, .ref (a 12)), (3, iv 0)]) [0, 2, 3] rfl ?_
    exact hJ146 _ _ hw
  · have hw := hw.2 q14
    refine V_aload_n X dX7_write_76 rfl (q := 0) rfl ?_
    refine V_get (C := RX7) (T := TX7) (N := 9) (ci := 7) X hi_X7_write_7 gO_7 rfl 1 (by decide) lk_X7_write_f29 (fun _ h9 => h9) rfl dX7_write_77 ?_
    refine V_getN (C := RX4) (T := TX4) (N := 8) (ci := 4) X hi_X7_write_4 gO_6 rfl 2 (by decide) (List.mem_of_getElem? (i := 71) rfl) (fun _ h9 => h9) rfl dX7_write_80 ?_
    refine V_aload_n X dX7_write_83 rfl (q := 1) rfl ?_
    refine V_getN (C := RX9) (T := TX9) (N := 9) (ci := 9) X hi_X7_write_9 gO_11 rfl 3 (by decide) (List.mem_of_getElem? (i := 10) rfl) (fun _ h9 => h9) rfl dX7_write_84 ?_
    refine V_iload_n X dX7_write_87 rfl (q := 3) rfl ?_
    obtain ⟨h16, hw⟩ := hw
    refine V_iald X (gA_11_3) h16 (by decide) dX7_write_88 ?_
    obtain ⟨h17, hw⟩ := hw
    refine V_iald X (gA_6_2) h17 (by decide) dX7_write_89 ?_
    refine V_top (fun y18 ey18 => ?_)
    have hw := hw y18 ey18
    refine V_istore (lv1 := [(0, .ref (a 7)), (1, .ref (a 11)), (2, .ref (a 12)), (3, iv x3), (4, iv y18)]) X [1, 2, 3, 4, 0] dX7_write_90 (by decide) rfl ?_
    refine V_iload X dX7_write_92 (q := 4) rfl ?_
    refine V_iconst X dX7_write_94 ?_
    obtain ⟨h19, hw⟩ := hw
    refine V_icmp_eq (tgt := 130) X h19 ⟨by decide, by decide⟩ dX7_write_95 (by decide) (fun q20 => ?_) (fun q20 => ?_)
    · have hw := hw.1 q20
      refine V_sub (lv1 := [(0, .ref (a 7)), (1, .ref (a 11)), (2, .ref (a 12)), (3, iv x3)]) [0, 1, 2, 3] rfl ?_
      exact wkj_X7_write_130 X hr hJ23 hJ68 hJ146 hw
    · have hw := hw.2 q20
      refine V_aload_n X dX7_write_98 rfl (q := 2) rfl ?_
      refine V_getN (C := RX9) (T := TX9) (N := 9) (ci := 9) X hi_X7_write_9 gO_12 rfl 1 (by decide) (List.mem_of_getElem? (i := 5) rfl) (fun _ h9 => h9) rfl dX7_write_99 ?_
      refine V_iload X dX7_write_102 (q := 4) rfl ?_
      obtain ⟨h21, hw⟩ := hw
      refine V_iald X (gA_12_1) h21 (by decide) dX7_write_104 ?_
      refine V_aload_n X dX7_write_105 rfl (q := 1) rfl ?_
      refine V_getN (C := RX9) (T := TX9) (N := 9) (ci := 9) X hi_X7_write_9 gO_11 rfl 1 (by decide) (List.mem_of_getElem? (i := 5) rfl) (fun _ h9 => h9) rfl dX7_write_106 ?_
      refine V_aload_n X dX7_write_109 rfl (q := 1) rfl ?_
      refine V_getN (C := RX9) (T := TX9) (N := 9) (ci := 9) X hi_X7_write_9 gO_11 rfl 3 (by decide) (List.mem_of_getElem? (i := 10) rfl) (fun _ h9 => h9) rfl dX7_write_110 ?_
      refine V_iload_n X dX7_write_113 rfl (q := 3) rfl ?_
      obtain ⟨h22, hw⟩ := hw
      refine V_iald X (gA_11_3) h22 (by decide) dX7_write_114 ?_
      obtain ⟨h23, hw⟩ := hw
      refine V_iald X (gA_11_1) h23 (by decide) dX7_write_115 ?_
      obtain ⟨h24, h25, hw⟩ := hw
      refine V_icmp_eq (tgt := 130) X h24 h25 dX7_write_116 (by decide) (fun q26 => ?_) (fun q26 => ?_)
      · have hw := hw.1 q26
        refine V_sub (lv1 := [(0, .ref (a 7)), (1, .ref (a 11)), (2, .ref (a 12)), (3, iv x3)]) [0, 1, 2, 3] rfl ?_
        exact wkj_X7_write_130 X hr hJ23 hJ68 hJ146 hw
      · have hw := hw.2 q26
        refine V_aload_n X dX7_write_119 rfl (q := 0) rfl ?_
        refine V_iconst X dX7_write_120 ?_
        refine V_aload_n X dX7_write_121 rfl (q := 1) rfl ?_
        refine V_getN (C := RX9) (T := TX9) (N := 9) (ci := 9) X hi_X7_write_9 gO_11 rfl 3 (by decide) (List.mem_of_getElem? (i := 10) rfl) (fun _ h9 => h9) rfl dX7_write_122 ?_
        refine V_iload_n X dX7_write_125 rfl (q := 3) rfl ?_
        obtain ⟨h27, hw⟩ := hw
        refine V_iald X (gA_11_3) h27 (by decide) dX7_write_126 ?_
        refine V_callV_v X _ gO_7 rfl (As := [iv 1, iv ((M 11 3 x3.toNat))]) (st := []) (c_X7_writeStep l hw) (cwV 2 X.2.2.2.1 gX7_write_X7_writeStep rfl rfl rfl (by decide +kernel) ⟨Nat.le_of_ble_eq_true rfl, Nat.le_of_ble_eq_true rfl⟩) rfl (Nat.le_of_ble_eq_true rfl) ⟨Nat.le_of_ble_eq_true rfl, Nat.le_of_ble_eq_true rfl⟩ rfl dX7_write_127 (fun M29 hw => ?_)
        refine V_sub (lv1 := [(0, .ref (a 7)), (1, .ref (a 11)), (2, .ref (a 12)), (3, iv x3)]) [0, 1, 2, 3] rfl ?_
        exact wkj_X7_write_130 X hr hJ23 hJ68 hJ146 hw
set_option maxHeartbeats 4000000 in
set_option maxRecDepth 100000 in
theorem wkj_X7_write_60 {p : Program} {l : Launch} {e : Env} {s : State} {m : MethodId} {args : Array Value} {below : List Frame} {meth : Method} {c : Code} {D : va_G} {g : GT} {A : Nat → Prop} {a : Nat → Nat} {b : Nat → Nat → Nat} (X : vC p s m args meth c D g A RX7 wsX7_write cX7_write 5) (hr : meth.sig.returnType = none) {x3 : Int} {M : Mem} {J23 : Int → Mem → Prop} {J68 : Int → Mem → Prop} {J146 : Int → Mem → Prop} {Q : Mem → Prop} (hJ23 : ∀ (x3 : Int) (M : Mem), J23 x3 M → vV p l e ({ frames := 1, cells := 0, slots := 0, locals := 22 } : Room) s m args below meth c D g A a b 5 0 0 (MQ below (cQv D g A a b Q) args s 0 0 A) M [(0, .ref (a 7)), (1, .ref (a 11)), (2, .ref (a 12)), (3, iv x3)] 23 []) (hJ68 : ∀ (x3 : Int) (M : Mem), J68 x3 M → vV p l e ({ frames := 1, cells := 0, slots := 0, locals := 22 } : Room) s m args below meth c D g A a b 5 0 0 (MQ below (cQv D g A a b Q) args s 0 0 A) M [(0, .ref (a 7)), (1, .ref (a 11)), (2, .ref (a 12)), (3, iv x3)] 68 []) (hJ146 : ∀ (x3 : Int) (M : Mem), J146 x3 M → vV p l e ({ frames := 1, cells := 0, slots := 0, locals := 22 } : Room) s m args below meth c D g A a b 5 0 0 (MQ below (cQv D g A a b Q) args s 0 0 A) M [(0, .ref (a 7)), (2, .ref (a 12)), (3, iv x3)] 146 []) (hw : wpj_X7_write_60 x3 M J23 J68 J146 Q) : vV p l e ({ frames := 1, cells := 0, slots := 0, locals := 22 } : Room) s m args below meth c D g A a b 5 0 0 (MQ below (cQv D g A a b Q) args s 0 0 A) M [(0, .ref (a 7)), (1, .ref (a 11)), (2, .ref (a 12)), (3, iv x3)] 60 [] := by
  unfold wpj_X7_write_60 at hw
  refine V_iinc (lv1 := [(0, .ref (a 7)), (1, .ref (a 11)), (2, .ref (a 12)), (3, iv (x3 + 1))]) X [1, 2, 3, 0] dX7_write_60 (q := 3) rfl (by decide) rfl ?_
  refine V_goto (tgt := 23) X dX7_write_63 (by decide) ?_
  exact hJ23 _ _ hw
set_option maxHeartbeats 4000000 in
set_option maxRecDepth 100000 in
theorem wkh_X7_write_23 {p : Program} {l : Launch} {e : Env} {s : State} {m : MethodId} {args : Array Value} {below : List Frame} {meth : Method} {c : Code} {D : va_G} {g : GT} {A : Nat → Prop} {a : Nat → Nat} {b : Nat → Nat → Nat} (X : vC p s m args meth c D g A RX7 wsX7_write cX7_write 5) (hr : meth.sig.returnType = none) {x3 : Int} {M : Mem} {J23 : Int → Mem → Prop} {J68 : Int → Mem → Prop} {J146 : Int → Mem → Prop} {Q : Mem → Prop} (hJ23 : ∀ (x3 : Int) (M : Mem), J23 x3 M → vV p l e ({ frames := 1, cells := 0, slots := 0, locals := 22 } : Room) s m args below meth c D g A a b 5 0 0 (MQ below (cQv D g A a b Q) args s 0 0 A) M [(0, .ref (a 7)), (1, .ref (a 11)), (2, .ref (a 12)), (3, iv x3)] 23 []) (hJ68 : ∀ (x3 : Int) (M : Mem), J68 x3 M → vV p l e ({ frames := 1, cells := 0, slots := 0, locals := 22 } : Room) s m args below meth c D g A a b 5 0 0 (MQ below (cQv D g A a b Q) args s 0 0 A) M [(0, .ref (a 7)), (1, .ref (a 11)), (2, .ref (a 12)), (3, iv x3)] 68 []) (hJ146 : ∀ (x3 : Int) (M : Mem), J146 x3 M → vV p l e ({ frames := 1, cells := 0, slots := 0, locals := 22 } : Room) s m args below meth c D g A a b 5 0 0 (MQ below (cQv D g A a b Q) args s 0 0 A) M [(0, .ref (a 7)), (2, .ref (a 12)), (3, iv x3)] 146 []) (hw : wph_X7_write_23 x3 M J23 J68 J146 Q) : vV p l e ({ frames := 1, cells := 0, slots := 0, locals := 22 } : Room) s m args below meth c D g A a b 5 0 0 (MQ below (cQv D g A a b Q) args s 0 0 A) M [(0, .ref (a 7)), (1, .ref (a 11)), (2, .ref (a 12)), (3, iv x3)] 23 [] := by
  unfold wph_X7_write_23 at hw
  refine V_iload_n X dX7_write_23 rfl (q := 3) rfl ?_
  refine V_aload_n X dX7_write_24 rfl (q := 1) rfl ?_
  refine V_getN (C := RX9) (T := TX9) (N := 9) (ci := 9) X hi_X7_write_9 gO_11 rfl 8 (by decide) (List.mem_of_getElem? (i := 21) rfl) (fun _ h9 => h9) rfl dX7_write_25 ?_
  obtain ⟨h2, h3, hw⟩ := hw
  refine V_icmp_ge (tgt := 66) X h2 h3 dX7_write_28 (by decide) (fun q4 => ?_) (fun q4 => ?_)
  · have hw := hw.1 q4
    refine V_iconst X dX7_write_66 ?_
    refine V_istore_n (lv1 := [(0, .ref (a 7)), (1, .ref (a 11)), (2, .ref (a 12)), (3, iv 0)]) X [1, 2, 3, 0] dX7_write_67 rfl (by decide) rfl ?_
    exact hJ68 _ _ hw
  · have hw := hw.2 q4
    refine V_aload_n X dX7_write_31 rfl (q := 0) rfl ?_
    refine V_get (C := RX7) (T := TX7) (N := 9) (ci := 7) X hi_X7_write_7 gO_7 rfl 1 (by decide) lk_X7_write_f29 (fun _ h9 => h9) rfl dX7_write_32 ?_
    refine V_getN (C := RX4) (T := TX4) (N := 8) (ci := 4) X hi_X7_write_4 gO_6 rfl 2 (by decide) (List.mem_of_getElem? (i := 71) rfl) (fun _ h9 => h9) rfl dX7_write_35 ?_
    refine V_aload_n X dX7_write_38 rfl (q := 1) rfl ?_
    refine V_getN (C := RX9) (T := TX9) (N := 9) (ci := 9) X hi_X7_write_9 gO_11 rfl 4 (by decide) (List.mem_of_getElem? (i := 12) rfl) (fun _ h9 => h9) rfl dX7_write_39 ?_
    refine V_iload_n X dX7_write_42 rfl (q := 3) rfl ?_
    obtain ⟨h5, hw⟩ := hw
    refine V_iald X (gA_11_4) h5 (by decide) dX7_write_43 ?_
    obtain ⟨h6, hw⟩ := hw
    refine V_iald X (gA_6_2) h6 (by decide) dX7_write_44 ?_
    refine V_iconst X dX7_write_45 ?_
    obtain ⟨h7, hw⟩ := hw
    refine V_icmp_ne (tgt := 60) X h7 ⟨by decide, by decide⟩ dX7_write_46 (by decide) (fun q8 => ?_) (fun q8 => ?_)
    · have hw := hw.1 q8
      exact wkj_X7_write_60 X hr hJ23 hJ68 hJ146 hw
    · have hw := hw.2 q8
      refine V_aload_n X dX7_write_49 rfl (q := 0) rfl ?_
      refine V_iconst X dX7_write_50 ?_
      refine V_aload_n X dX7_write_51 rfl (q := 1) rfl ?_
      refine V_getN (C := RX9) (T := TX9) (N := 9) (ci := 9) X hi_X7_write_9 gO_11 rfl 4 (by decide) (List.mem_of_getElem? (i := 12) rfl) (fun _ h9 => h9) rfl dX7_write_52 ?_
      refine V_iload_n X dX7_write_55 rfl (q := 3) rfl ?_
      obtain ⟨h9, hw⟩ := hw
      refine V_iald X (gA_11_4) h9 (by decide) dX7_write_56 ?_
      refine V_callV_v X _ gO_7 rfl (As := [iv 0, iv ((M 11 4 x3.toNat))]) (st := []) (c_X7_writeStep l hw) (cwV 2 X.2.2.2.1 gX7_write_X7_writeStep rfl rfl rfl (by decide +kernel) ⟨Nat.le_of_ble_eq_true rfl, Nat.le_of_ble_eq_true rfl⟩) rfl (Nat.le_of_ble_eq_true rfl) ⟨Nat.le_of_ble_eq_true rfl, Nat.le_of_ble_eq_true rfl⟩ rfl dX7_write_57 (fun M11 hw => ?_)
      exact wkj_X7_write_60 X hr hJ23 hJ68 hJ146 hw
set_option maxHeartbeats 4000000 in
set_option maxRecDepth 100000 in
theorem wke_X7_write {p : Program} {l : Launch} {e : Env} {s : State} {m : MethodId} {args : Array Value} {below : List Frame} {meth : Method} {c : Code} {D : va_G} {g : GT} {A : Nat → Prop} {a : Nat → Nat} {b : Nat → Nat → Nat} (X : vC p s m args meth c D g A RX7 wsX7_write cX7_write 5) (hr : meth.sig.returnType = none) {M : Mem} {J23 : Int → Mem → Prop} {J68 : Int → Mem → Prop} {J146 : Int → Mem → Prop} {Q : Mem → Prop} (hJ23 : ∀ (x3 : Int) (M : Mem), J23 x3 M → vV p l e ({ frames := 1, cells := 0, slots := 0, locals := 22 } : Room) s m args below meth c D g A a b 5 0 0 (MQ below (cQv D g A a b Q) args s 0 0 A) M [(0, .ref (a 7)), (1, .ref (a 11)), (2, .ref (a 12)), (3, iv x3)] 23 []) (hJ68 : ∀ (x3 : Int) (M : Mem), J68 x3 M → vV p l e ({ frames := 1, cells := 0, slots := 0, locals := 22 } : Room) s m args below meth c D g A a b 5 0 0 (MQ below (cQv D g A a b Q) args s 0 0 A) M [(0, .ref (a 7)), (1, .ref (a 11)), (2, .ref (a 12)), (3, iv x3)] 68 []) (hJ146 : ∀ (x3 : Int) (M : Mem), J146 x3 M → vV p l e ({ frames := 1, cells := 0, slots := 0, locals := 22 } : Room) s m args below meth c D g A a b 5 0 0 (MQ below (cQv D g A a b Q) args s 0 0 A) M [(0, .ref (a 7)), (2, .ref (a 12)), (3, iv x3)] 146 []) (hw : wpe_X7_write M J23 J68 J146 Q) : vV p l e ({ frames := 1, cells := 0, slots := 0, locals := 22 } : Room) s m args below meth c D g A a b 5 0 0 (MQ below (cQv D g A a b Q) args s 0 0 A) M [(0, .ref (a 7))] 0 [] := by
  unfold wpe_X7_write at hw
  refine V_aload_n X dX7_write_0 rfl (q := 0) rfl ?_
  refine V_get (C := RX7) (T := TX7) (N := 9) (ci := 7) X hi_X7_write_7 gO_7 rfl 0 (by decide) lk_X7_write_f25 (fun _ h9 => h9) rfl dX7_write_1 ?_
  refine V_getN (C := RX1) (T := TX1) (N := 6) (ci := 1) X hi_X7_write_1 gO_1 rfl 4 (by decide) (List.mem_of_getElem? (i := 35) rfl) (fun _ h9 => h9) rfl dX7_write_4 ?_
  refine V_astore_n (lv1 := [(0, .ref (a 7)), (1, .ref (a 11))]) X [1, 0] dX7_write_7 rfl (by decide) rfl ?_
  refine V_aload_n X dX7_write_8 rfl (q := 0) rfl ?_
  refine V_get (C := RX7) (T := TX7) (N := 9) (ci := 7) X hi_X7_write_7 gO_7 rfl 0 (by decide) lk_X7_write_f25 (fun _ h9 => h9) rfl dX7_write_9 ?_
  refine V_getN (C := RX1) (T := TX1) (N := 6) (ci := 1) X hi_X7_write_1 gO_1 rfl 5 (by decide) (List.mem_of_getElem? (i := 39) rfl) (fun _ h9 => h9) rfl dX7_write_12 ?_
  refine V_astore_n (lv1 := [(0, .ref (a 7)), (1, .ref (a 11)), (2, .ref (a 12))]) X [1, 2, 0] dX7_write_15 rfl (by decide) rfl ?_
  refine V_aload_n X dX7_write_16 rfl (q := 0) rfl ?_
  refine V_iconst X dX7_write_17 ?_
  refine V_put (C := RX7) (T := TX7) (N := 9) (ci := 7) X hi_X7_write_7 gO_7 rfl 4 (by decide) tyX7 tyX7_ok nmX7 rfl (tyX7_ok 4 (by decide)) (Or.inl rfl) (show 4 < 9 from by decide) sI_7_4 lk_X7_write_f42 (fun _ h9 => h9) dX7_write_18 (fun M1 eM1 => ?_)
  have hw := hw M1 eM1
  refine V_iconst X dX7_write_21 ?_
  refine V_istore_n (lv1 := [(0, .ref (a 7)), (1, .ref (a 11)), (2, .ref (a 12)), (3, iv 0)]) X [1, 2, 3, 0] dX7_write_22 rfl (by decide) rfl ?_
  exact hJ23 _ _ hw
set_option maxHeartbeats 4000000 in
set_option maxRecDepth 100000 in
theorem c_X7_write (l : Launch) {D : va_G} {g : GT} {A : Nat → Prop} {a : Nat → Nat} {b : Nat → Nat → Nat} {M : Mem} {Q : Mem → Prop} (hw : wp_X7_write M Q) : Met l yX7_write wsX7_write ({ frames := 1, cells := 0, slots := 0, locals := 22 } : Room) (cPc D g A a b M [.ref (a 7)]) (cQv D g A a b Q) 0 0 A := by
  refine Met.ofW (cc := cX7_write) (maxL := 5) (ret := none) (by decide) rfl ?_
  intro p e s m args below meth c s₁ B hml hv
  obtain ⟨rfl, hP, hD, hG⟩ := hv
  have X : vC p s m _ meth c D g A RX7 wsX7_write cX7_write 5 := ⟨B.exec, B.bytes, findClass_of_methodNamed B.named, atoms_spec (ws := wsX7_write) B.pre, hG, hml, B.notSynchronized⟩
  have hr := B.returns
  have hl := lv_entry ([.ref (a 7)]) (n := 5) (Nat.le_of_ble_eq_true rfl)
  rw [lg_entry_eq]
  generalize (lg_sl ([.ref (a 7)]) ++ List.replicate (5 - (lg_sl ([.ref (a 7)])).length) Slot.unset).toArray = ls at hl ⊢
  have hl : lv_has ls 5 [(0, .ref (a 7))] := hl
  obtain ⟨I23, I68, I146, hw, hI23, hI68, hI146⟩ := hw
  have K : ∀ n : Nat, (∀ (x3 : Int) (M : Mem), I23 n x3 M → vV p l e ({ frames := 1, cells := 0, slots := 0, locals := 22 } : Room) s m ([.ref (a 7)] : List Value).toArray below meth c D g A a b 5 0 0 (MQ below (cQv D g A a b Q) ([.ref (a 7)] : List Value).toArray s 0 0 A) M [(0, .ref (a 7)), (1, .ref (a 11)), (2, .ref (a 12)), (3, iv x3)] 23 []) ∧ (∀ (x3 : Int) (M : Mem), I68 n x3 M → vV p l e ({ frames := 1, cells := 0, slots := 0, locals := 22 } : Room) s m ([.ref (a 7)] : List Value).toArray below meth c D g A a b 5 0 0 (MQ below (cQv D g A a b Q) ([.ref (a 7)] : List Value).toArray s 0 0 A) M [(0, .ref (a 7)), (1, .ref (a 11)), (2, .ref (a 12)), (3, iv x3)] 68 []) ∧ (∀ (x3 : Int) (M : Mem), I146 n x3 M → vV p l e ({ frames := 1, cells := 0, slots := 0, locals := 22 } : Room) s m ([.ref (a 7)] : List Value).toArray below meth c D g A a b 5 0 0 (MQ below (cQv D g A a b Q) ([.ref (a 7)] : List Value).toArray s 0 0 A) M [(0, .ref (a 7)), (2, .ref (a 12)), (3, iv x3)] 146 []) := by
    intro n
    induction n using Nat.strongRecOn with
    | ind n ih =>
      exact ⟨fun x3 M hh => wkh_X7_write_23 X hr (fun _ _ ⟨n1, hn, hh⟩ => (ih n1 hn).1 _ _ hh) (fun _ _ ⟨n1, hn, hh⟩ => (ih n1 hn).2.1 _ _ hh) (fun _ _ ⟨n1, hn, hh⟩ => (ih n1 hn).2.2 _ _ hh) (hI23 n x3 M hh), fun x3 M hh => wkh_X7_write_68 X hr (fun _ _ ⟨n1, hn, hh⟩ => (ih n1 hn).1 _ _ hh) (fun _ _ ⟨n1, hn, hh⟩ => (ih n1 hn).2.1 _ _ hh) (fun _ _ ⟨n1, hn, hh⟩ => (ih n1 hn).2.2 _ _ hh) (hI68 n x3 M hh), fun x3 M hh => wkh_X7_write_146 X hr (fun _ _ ⟨n1, hn, hh⟩ => (ih n1 hn).1 _ _ hh) (fun _ _ ⟨n1, hn, hh⟩ => (ih n1 hn).2.1 _ _ hh) (fun _ _ ⟨n1, hn, hh⟩ => (ih n1 hn).2.2 _ _ hh) (hI146 n x3 M hh)⟩
  exact wke_X7_write X hr  (fun _ _ ⟨n1, hh⟩ => (K n1).1 _ _ hh) (fun _ _ ⟨n1, hh⟩ => (K n1).2.1 _ _ hh) (fun _ _ ⟨n1, hh⟩ => (K n1).2.2 _ _ hh) hw s.heap [] ls hP hD va_S.rf hl

set_option maxRecDepth 20000 in
theorem ggX10_settle_X3_layPreorderBackwards : GoodIn wsX10_settle wsX3_layPreorderBackwards := goodIn_r _ [10, 11, 12, 13, 8, 14, 15, 16, 17, 18, 19, 20, 21, 22, 23, 24, 25, 26, 27, 28, 29, 30, 31, 32, 33, 34, 35, 36, 37, 38, 39, 40, 41, 42, 156, 157, 158, 159, 160, 161, 162, 163, 164, 165, 166, 167, 168, 169, 170, 171, 172, 173, 174, 175, 176, 177, 178, 179, 180] (by decide +kernel) (by decide +kernel)
set_option maxRecDepth 20000 in
theorem gX10_settle_X3_layPreorderBackwards_n257 : GoodIn wsX10_settle (wsX3_layPreorderBackwards) := ggX10_settle_X3_layPreorderBackwards
set_option maxRecDepth 20000 in
theorem ggX10_settle_X0_forget : GoodIn wsX10_settle wsX0_forget := goodIn_r _ [46, 47, 48, 49, 50, 51, 181, 182] (by decide +kernel) (by decide +kernel)
set_option maxRecDepth 20000 in
theorem gX10_settle_X0_forget_n174 : GoodIn wsX10_settle (wsX0_forget) := ggX10_settle_X0_forget
set_option maxRecDepth 20000 in
theorem ggX10_settle_X4_choose : GoodIn wsX10_settle wsX4_choose := goodIn_r _ [55, 56, 57, 58, 59, 60, 61, 62, 63, 49, 50, 51, 64, 65, 66, 53, 67, 68, 69, 44, 70, 71, 47, 72, 73, 74, 75, 76, 77, 20, 78, 79, 28, 80, 81, 82, 83, 84, 85, 86, 87, 88, 89, 183, 184, 185, 186, 187, 188, 189, 190, 156, 157, 158, 159, 166, 167, 168, 169, 170, 171, 181, 182] (by decide +kernel) (by decide +kernel)
set_option maxRecDepth 20000 in
theorem gX10_settle_X4_choose_n260 : GoodIn wsX10_settle (wsX4_choose) := ggX10_settle_X4_choose
set_option maxRecDepth 20000 in
theorem ggX10_settle_X7_write : GoodIn wsX10_settle wsX7_write := goodIn_r _ [93, 94, 95, 96, 97, 98, 99, 100, 91, 101, 102, 103, 191, 192, 193, 194, 195, 196, 197, 198, 199, 160, 161, 162, 163, 164, 165, 172, 173, 174, 175, 176, 177, 178, 179, 180, 183, 184, 185, 186, 187, 188, 189, 190] (by decide +kernel) (by decide +kernel)
set_option maxRecDepth 20000 in
theorem gX10_settle_X7_write_n263 : GoodIn wsX10_settle (wsX7_write) := ggX10_settle_X7_write
set_option maxRecDepth 20000 in
theorem ggX10_settle_X5_find : GoodIn wsX10_settle wsX5_find := goodIn_r _ [107, 108, 109, 110, 111, 112, 113, 114, 115, 116, 117, 118, 49, 50, 51, 119, 120, 121, 105, 122, 123, 30, 124, 125, 34, 126, 127, 128, 129, 130, 131, 132, 133, 134, 135, 136, 137, 138, 139, 140, 141, 142, 143, 144, 145, 146, 200, 201, 202, 203, 204, 205, 160, 161, 162, 163, 164, 165, 183, 184, 185, 186, 187, 188, 189, 190, 172, 173, 174, 175, 176, 177, 178, 179, 180] (by decide +kernel) (by decide +kernel)
set_option maxRecDepth 20000 in
theorem gX10_settle_X5_find_n266 : GoodIn wsX10_settle (wsX5_find) := ggX10_settle_X5_find
theorem dX10_settle_0 : decode cX10_settle 0 = .ok (.aload_n 0, 1) := by decide +kernel
theorem dX10_settle_1 : decode cX10_settle 1 = .ok (.getfield 73, 3) := by decide +kernel
theorem dX10_settle_4 : decode cX10_settle 4 = .ok (.ifCond .eq 4, 3) := by decide +kernel
theorem dX10_settle_7 : decode cX10_settle 7 = .ok (.return_, 1) := by decide +kernel
theorem dX10_settle_8 : decode cX10_settle 8 = .ok (.aload_n 0, 1) := by decide +kernel
theorem dX10_settle_9 : decode cX10_settle 9 = .ok (.getfield 21, 3) := by decide +kernel
theorem dX10_settle_12 : decode cX10_settle 12 = .ok (.invokevirtual 257, 3) := by decide +kernel
theorem dX10_settle_15 : decode cX10_settle 15 = .ok (.aload_n 0, 1) := by decide +kernel
theorem dX10_settle_16 : decode cX10_settle 16 = .ok (.getfield 37, 3) := by decide +kernel
theorem dX10_settle_19 : decode cX10_settle 19 = .ok (.invokevirtual 174, 3) := by decide +kernel
theorem dX10_settle_22 : decode cX10_settle 22 = .ok (.aload_n 0, 1) := by decide +kernel
theorem dX10_settle_23 : decode cX10_settle 23 = .ok (.getfield 53, 3) := by decide +kernel
theorem dX10_settle_26 : decode cX10_settle 26 = .ok (.invokevirtual 260, 3) := by decide +kernel
theorem dX10_settle_29 : decode cX10_settle 29 = .ok (.aload_n 0, 1) := by decide +kernel
theorem dX10_settle_30 : decode cX10_settle 30 = .ok (.getfield 62, 3) := by decide +kernel
theorem dX10_settle_33 : decode cX10_settle 33 = .ok (.invokevirtual 263, 3) := by decide +kernel
theorem dX10_settle_36 : decode cX10_settle 36 = .ok (.aload_n 0, 1) := by decide +kernel
theorem dX10_settle_37 : decode cX10_settle 37 = .ok (.getfield 69, 3) := by decide +kernel
theorem dX10_settle_40 : decode cX10_settle 40 = .ok (.invokevirtual 266, 3) := by decide +kernel
theorem dX10_settle_43 : decode cX10_settle 43 = .ok (.aload_n 0, 1) := by decide +kernel
theorem dX10_settle_44 : decode cX10_settle 44 = .ok (.iconst 1, 1) := by decide +kernel
theorem dX10_settle_45 : decode cX10_settle 45 = .ok (.putfield 73, 3) := by decide +kernel
theorem dX10_settle_48 : decode cX10_settle 48 = .ok (.return_, 1) := by decide +kernel
theorem lk_X10_settle_f73 : Cond.fieldLink RX10 73 "TreeComparer" "settled" "Z" ∈ wsX10_settle := by decide +kernel
theorem hi_X10_settle_10 : ∀ w ∈ u_ws RX10 TX10 9, w ∈ wsX10_settle := by decide +kernel
theorem lk_X10_settle_f21 : Cond.fieldLink RX10 21 "TreeComparer" "layout" "LTreeComparer$Layout;" ∈ wsX10_settle := by decide +kernel
theorem lk_X10_settle_i3 : Cond.initialized RX3 ∈ wsX10_settle := by decide +kernel
theorem lk_X10_settle_im257 : Cond.instanceMethod yX3_layPreorderBackwards ∈ wsX10_settle := by decide +kernel
theorem lk_X10_settle_se257 : Cond.selects RX3 yX3_layPreorderBackwards yX3_layPreorderBackwards ∈ wsX10_settle := by decide +kernel
theorem lk_X10_settle_f37 : Cond.fieldLink RX10 37 "TreeComparer" "forests" "LTreeComparer$ForestTable;" ∈ wsX10_settle := by decide +kernel
theorem lk_X10_settle_i0 : Cond.initialized RX0 ∈ wsX10_settle := by decide +kernel
theorem lk_X10_settle_im174 : Cond.instanceMethod yX0_forget ∈ wsX10_settle := by decide +kernel
theorem lk_X10_settle_se174 : Cond.selects RX0 yX0_forget yX0_forget ∈ wsX10_settle := by decide +kernel
theorem lk_X10_settle_f53 : Cond.fieldLink RX10 53 "TreeComparer" "mapping" "LTreeComparer$Mapping;" ∈ wsX10_settle := by decide +kernel
theorem lk_X10_settle_i4 : Cond.initialized RX4 ∈ wsX10_settle := by decide +kernel
theorem lk_X10_settle_im260 : Cond.instanceMethod yX4_choose ∈ wsX10_settle := by decide +kernel
theorem lk_X10_settle_se260 : Cond.selects RX4 yX4_choose yX4_choose ∈ wsX10_settle := by decide +kernel
theorem lk_X10_settle_f62 : Cond.fieldLink RX10 62 "TreeComparer" "script" "LTreeComparer$Script;" ∈ wsX10_settle := by decide +kernel
theorem lk_X10_settle_i7 : Cond.initialized RX7 ∈ wsX10_settle := by decide +kernel
theorem lk_X10_settle_im263 : Cond.instanceMethod yX7_write ∈ wsX10_settle := by decide +kernel
theorem lk_X10_settle_se263 : Cond.selects RX7 yX7_write yX7_write ∈ wsX10_settle := by decide +kernel
theorem lk_X10_settle_f69 : Cond.fieldLink RX10 69 "TreeComparer" "moving" "LTreeComparer$Moves;" ∈ wsX10_settle := by decide +kernel
theorem lk_X10_settle_i5 : Cond.initialized RX5 ∈ wsX10_settle := by decide +kernel
theorem lk_X10_settle_im266 : Cond.instanceMethod yX5_find ∈ wsX10_settle := by decide +kernel
theorem lk_X10_settle_se266 : Cond.selects RX5 yX5_find yX5_find ∈ wsX10_settle := by decide +kernel
def wpe_X10_settle (M : Mem) (Q : Mem → Prop) : Prop := inR (M 0 8 0) ∧ (((M 0 8 0) = 0 → wp_X3_layPreorderBackwards M (fun M4 => wp_X0_forget M4 (fun M6 => wp_X4_choose M6 (fun M8 => wp_X7_write M8 (fun M10 => wp_X5_find M10 (fun M12 => (∀ M13 : Mem, M13 = mset M12 0 8 0 1 → Q M13))))))) ∧ (¬ ((M 0 8 0) = 0) → Q M))
def wp_X10_settle (M : Mem) (Q : Mem → Prop) : Prop := wpe_X10_settle M Q
set_option maxHeartbeats 4000000 in
set_option maxRecDepth 100000 in
theorem wke_X10_settle {p : Program} {l : Launch} {e : Env} {s : State} {m : MethodId} {args : Array Value} {below : List Frame} {meth : Method} {c : Code} {D : va_G} {g : GT} {A : Nat → Prop} {a : Nat → Nat} {b : Nat → Nat → Nat} (X : vC p s m args meth c D g A RX10 wsX10_settle cX10_settle 1) (hr : meth.sig.returnType = none) {M : Mem} {Q : Mem → Prop} (hw : wpe_X10_settle M Q) : vV p l e ({ frames := 32, cells := 0, slots := 0, locals := 1064 } : Room) s m args below meth c D g A a b 1 0 0 (MQ below (cQv D g A a b Q) args s 0 0 A) M [(0, .ref (a 0))] 0 [] := by
  unfold wpe_X10_settle at hw
  refine V_aload_n X dX10_settle_0 rfl (q := 0) rfl ?_
  refine V_get (C := RX10) (T := TX10) (N := 9) (ci := 10) X hi_X10_settle_10 gO_0 rfl 8 (by decide) lk_X10_settle_f73 (fun _ h9 => h9) rfl dX10_settle_1 ?_
  obtain ⟨h1, hw⟩ := hw
  refine V_if_eq (tgt := 8) X h1 dX10_settle_4 (by decide) (fun q2 => ?_) (fun q2 => ?_)
  · have hw := hw.1 q2
    refine V_aload_n X dX10_settle_8 rfl (q := 0) rfl ?_
    refine V_get (C := RX10) (T := TX10) (N := 9) (ci := 10) X hi_X10_settle_10 gO_0 rfl 1 (by decide) lk_X10_settle_f21 (fun _ h9 => h9) rfl dX10_settle_9 ?_
    refine V_callVN_v X _ gO_2 rfl (As := []) (st := []) (c_X3_layPreorderBackwards l hw) ⟨va_cnB 0 X.2.2.2.1 gX10_settle_X3_layPreorderBackwards_n257 rfl rfl rfl (X.2.2.2.2.1.2.1 _ (List.mem_of_getElem? (i := 110) rfl)) (X.2.2.2.1 _ lk_X10_settle_i3) (by decide +kernel) ⟨Nat.le_of_ble_eq_true rfl, Nat.le_of_ble_eq_true rfl⟩, X.2.2.2.1 _ lk_X10_settle_im257, X.2.2.2.1 _ lk_X10_settle_se257⟩ rfl (Nat.le_of_ble_eq_true rfl) ⟨Nat.le_of_ble_eq_true rfl, Nat.le_of_ble_eq_true rfl⟩ rfl dX10_settle_12 (fun M4 hw => ?_)
    refine V_aload_n X dX10_settle_15 rfl (q := 0) rfl ?_
    refine V_get (C := RX10) (T := TX10) (N := 9) (ci := 10) X hi_X10_settle_10 gO_0 rfl 3 (by decide) lk_X10_settle_f37 (fun _ h9 => h9) rfl dX10_settle_16 ?_
    refine V_callVN_v X _ gO_4 rfl (As := []) (st := []) (c_X0_forget l hw) ⟨va_cnB 0 X.2.2.2.1 gX10_settle_X0_forget_n174 rfl rfl rfl (X.2.2.2.2.1.2.1 _ (List.mem_of_getElem? (i := 103) rfl)) (X.2.2.2.1 _ lk_X10_settle_i0) (by decide +kernel) ⟨Nat.le_of_ble_eq_true rfl, Nat.le_of_ble_eq_true rfl⟩, X.2.2.2.1 _ lk_X10_settle_im174, X.2.2.2.1 _ lk_X10_settle_se174⟩ rfl (Nat.le_of_ble_eq_true rfl) ⟨Nat.le_of_ble_eq_true rfl, Nat.le_of_ble_eq_true rfl⟩ rfl dX10_settle_19 (fun M6 hw => ?_)
    refine V_aload_n X dX10_settle_22 rfl (q := 0) rfl ?_
    refine V_get (C := RX10) (T := TX10) (N := 9) (ci := 10) X hi_X10_settle_10 gO_0 rfl 5 (by decide) lk_X10_settle_f53 (fun _ h9 => h9) rfl dX10_settle_23 ?_
    refine V_callVN_v X _ gO_6 rfl (As := []) (st := []) (c_X4_choose l hw) ⟨va_cnB 0 X.2.2.2.1 gX10_settle_X4_choose_n260 rfl rfl rfl (X.2.2.2.2.1.2.1 _ (List.mem_of_getElem? (i := 111) rfl)) (X.2.2.2.1 _ lk_X10_settle_i4) (by decide +kernel) ⟨Nat.le_of_ble_eq_true rfl, Nat.le_of_ble_eq_true rfl⟩, X.2.2.2.1 _ lk_X10_settle_im260, X.2.2.2.1 _ lk_X10_settle_se260⟩ rfl (Nat.le_of_ble_eq_true rfl) ⟨Nat.le_of_ble_eq_true rfl, Nat.le_of_ble_eq_true rfl⟩ rfl dX10_settle_26 (fun M8 hw => ?_)
    refine V_aload_n X dX10_settle_29 rfl (q := 0) rfl ?_
    refine V_get (C := RX10) (T := TX10) (N := 9) (ci := 10) X hi_X10_settle_10 gO_0 rfl 6 (by decide) lk_X10_settle_f62 (fun _ h9 => h9) rfl dX10_settle_30 ?_
    refine V_callVN_v X _ gO_7 rfl (As := []) (st := []) (c_X7_write l hw) ⟨va_cnB 0 X.2.2.2.1 gX10_settle_X7_write_n263 rfl rfl rfl (X.2.2.2.2.1.2.1 _ (List.mem_of_getElem? (i := 114) rfl)) (X.2.2.2.1 _ lk_X10_settle_i7) (by decide +kernel) ⟨Nat.le_of_ble_eq_true rfl, Nat.le_of_ble_eq_true rfl⟩, X.2.2.2.1 _ lk_X10_settle_im263, X.2.2.2.1 _ lk_X10_settle_se263⟩ rfl (Nat.le_of_ble_eq_true rfl) ⟨Nat.le_of_ble_eq_true rfl, Nat.le_of_ble_eq_true rfl⟩ rfl dX10_settle_33 (fun M10 hw => ?_)
    refine V_aload_n X dX10_settle_36 rfl (q := 0) rfl ?_
    refine V_get (C := RX10) (T := TX10) (N := 9) (ci := 10) X hi_X10_settle_10 gO_0 rfl 7 (by decide) lk_X10_settle_f69 (fun _ h9 => h9) rfl dX10_settle_37 ?_
    refine V_callVN_v X _ gO_8 rfl (As := []) (st := []) (c_X5_find l hw) ⟨va_cnB 0 X.2.2.2.1 gX10_settle_X5_find_n266 rfl rfl rfl (X.2.2.2.2.1.2.1 _ (List.mem_of_getElem? (i := 115) rfl)) (X.2.2.2.1 _ lk_X10_settle_i5) (by decide +kernel) ⟨Nat.le_of_ble_eq_true rfl, Nat.le_of_ble_eq_true rfl⟩, X.2.2.2.1 _ lk_X10_settle_im266, X.2.2.2.1 _ lk_X10_settle_se266⟩ rfl (Nat.le_of_ble_eq_true rfl) ⟨Nat.le_of_ble_eq_true rfl, Nat.le_of_ble_eq_true rfl⟩ rfl dX10_settle_40 (fun M12 hw => ?_)
    refine V_aload_n X dX10_settle_43 rfl (q := 0) rfl ?_
    refine V_iconst X dX10_settle_44 ?_
    refine V_put (C := RX10) (T := TX10) (N := 9) (ci := 10) X hi_X10_settle_10 gO_0 rfl 8 (by decide) tyX10 tyX10_ok nmX10 rfl (tyX10_ok 8 (by decide)) (Or.inr ⟨rfl, by decide⟩) (show 8 < 9 from by decide) sI_0_8 lk_X10_settle_f73 (fun _ h9 => h9) dX10_settle_45 (fun M13 eM13 => ?_)
    have hw := hw M13 eM13
    exact V_vret X hr hw dX10_settle_48
  · have hw := hw.2 q2
    exact V_vret X hr hw dX10_settle_7
set_option maxHeartbeats 4000000 in
set_option maxRecDepth 100000 in
theorem c_X10_settle (l : Launch) {D : va_G} {g : GT} {A : Nat → Prop} {a : Nat → Nat} {b : Nat → Nat → Nat} {M : Mem} {Q : Mem → Prop} (hw : wp_X10_settle M Q) : Met l yX10_settle wsX10_settle ({ frames := 32, cells := 0, slots := 0, locals := 1064 } : Room) (cPc D g A a b M [.ref (a 0)]) (cQv D g A a b Q) 0 0 A := by
  refine Met.ofW (cc := cX10_settle) (maxL := 1) (ret := none) (by decide) rfl ?_
  intro p e s m args below meth c s₁ B hml hv
  obtain ⟨rfl, hP, hD, hG⟩ := hv
  have X : vC p s m _ meth c D g A RX10 wsX10_settle cX10_settle 1 := ⟨B.exec, B.bytes, findClass_of_methodNamed B.named, atoms_spec (ws := wsX10_settle) B.pre, hG, hml, B.notSynchronized⟩
  have hr := B.returns
  have hl := lv_entry ([.ref (a 0)]) (n := 1) (Nat.le_of_ble_eq_true rfl)
  rw [lg_entry_eq]
  generalize (lg_sl ([.ref (a 0)]) ++ List.replicate (1 - (lg_sl ([.ref (a 0)])).length) Slot.unset).toArray = ls at hl ⊢
  have hl : lv_has ls 1 [(0, .ref (a 0))] := hl
  exact wke_X10_settle X hr  hw s.heap [] ls hP hD va_S.rf hl

set_option maxRecDepth 20000 in
theorem ggX10_pairs_X10_settle : GoodIn wsX10_pairs wsX10_settle := goodIn_r _ [6, 7, 8, 9, 1, 10, 11, 12, 13, 14, 15, 16, 17, 18, 19, 20, 21, 22, 23, 24, 25, 26, 27, 28, 29, 30, 31, 32, 33, 34, 35, 36, 37, 38, 39, 40, 41, 42, 43, 44, 45, 46, 47, 48, 49, 50, 51, 52, 53, 54, 55, 56, 57, 58, 59, 60, 61, 62, 63, 64, 65, 66, 67, 68, 69, 70, 71, 72, 73, 74, 75, 76, 77, 78, 79, 80, 81, 82, 83, 84, 85, 86, 87, 88, 89, 90, 91, 92, 93, 94, 95, 96, 97, 98, 99, 100, 101, 102, 103, 104, 105, 106, 107, 108, 109, 110, 111, 112, 113, 114, 115, 116, 117, 118, 119, 120, 121, 122, 123, 124, 125, 126, 127, 128, 129, 130, 131, 132, 133, 134, 135, 136, 137, 138, 139, 140, 141, 142, 143, 144, 145, 146, 147, 148, 149, 150, 151, 152, 153, 154, 155, 156, 157, 158, 159, 160, 169, 170, 171, 172, 173, 174, 175, 176, 177, 178, 179, 180, 181, 182, 183, 184, 185, 186, 187, 188, 189, 190, 191, 192, 193, 194, 195, 161, 162, 163, 164, 165, 166, 167, 168, 196, 197, 198, 199, 200, 201, 202, 203, 204, 205, 206, 207, 208, 209, 210] (by decide +kernel) (by decide +kernel)
set_option maxRecDepth 20000 in
theorem gX10_pairs_X10_settle : GoodIn wsX10_pairs (wsV RX10 206 RX10 yX10_settle wsX10_settle) := goodIn_app (goodIn_of _ (by decide +kernel)) ggX10_pairs_X10_settle
theorem dX10_pairs_0 : decode cX10_pairs 0 = .ok (.aload_n 0, 1) := by decide +kernel
theorem dX10_pairs_1 : decode cX10_pairs 1 = .ok (.invokevirtual 206, 3) := by decide +kernel
theorem dX10_pairs_4 : decode cX10_pairs 4 = .ok (.aload_n 0, 1) := by decide +kernel
theorem dX10_pairs_5 : decode cX10_pairs 5 = .ok (.getfield 53, 3) := by decide +kernel
theorem dX10_pairs_8 : decode cX10_pairs 8 = .ok (.getfield 209, 3) := by decide +kernel
theorem dX10_pairs_11 : decode cX10_pairs 11 = .ok (.ireturn, 1) := by decide +kernel
theorem lk_X10_pairs_f53 : Cond.fieldLink RX10 53 "TreeComparer" "mapping" "LTreeComparer$Mapping;" ∈ wsX10_pairs := by decide +kernel
theorem hi_X10_pairs_10 : ∀ w ∈ u_ws RX10 TX10 9, w ∈ wsX10_pairs := by decide +kernel
theorem hi_X10_pairs_4 : ∀ w ∈ u_ws RX4 TX4 8, w ∈ wsX10_pairs := by decide +kernel
def wpe_X10_pairs (M : Mem) (Q : Int → Mem → Prop) : Prop := wp_X10_settle M (fun M2 => Q ((M2 6 7 0)) M2)
def wp_X10_pairs (M : Mem) (Q : Int → Mem → Prop) : Prop := wpe_X10_pairs M Q
set_option maxHeartbeats 4000000 in
set_option maxRecDepth 100000 in
theorem wke_X10_pairs {p : Program} {l : Launch} {e : Env} {s : State} {m : MethodId} {args : Array Value} {below : List Frame} {meth : Method} {c : Code} {D : va_G} {g : GT} {A : Nat → Prop} {a : Nat → Nat} {b : Nat → Nat → Nat} (X : vC p s m args meth c D g A RX10 wsX10_pairs cX10_pairs 1) (hr : meth.sig.returnType = (some .int)) {M : Mem} {Q : Int → Mem → Prop} (hw : wpe_X10_pairs M Q) : vV p l e ({ frames := 33, cells := 0, slots := 0, locals := 1084 } : Room) s m args below meth c D g A a b 1 0 0 (MQ below (cQi D g A a b Q) args s 0 0 A) M [(0, .ref (a 0))] 0 [] := by
  unfold wpe_X10_pairs at hw
  refine V_aload_n X dX10_pairs_0 rfl (q := 0) rfl ?_
  refine V_callV_v X _ gO_0 rfl (As := []) (st := []) (c_X10_settle l hw) (cwV 0 X.2.2.2.1 gX10_pairs_X10_settle rfl rfl rfl (by decide +kernel) ⟨Nat.le_of_ble_eq_true rfl, Nat.le_of_ble_eq_true rfl⟩) rfl (Nat.le_of_ble_eq_true rfl) ⟨Nat.le_of_ble_eq_true rfl, Nat.le_of_ble_eq_true rfl⟩ rfl dX10_pairs_1 (fun M2 hw => ?_)
  refine V_aload_n X dX10_pairs_4 rfl (q := 0) rfl ?_
  refine V_get (C := RX10) (T := TX10) (N := 9) (ci := 10) X hi_X10_pairs_10 gO_0 rfl 5 (by decide) lk_X10_pairs_f53 (fun _ h9 => h9) rfl dX10_pairs_5 ?_
  refine V_getN (C := RX4) (T := TX4) (N := 8) (ci := 4) X hi_X10_pairs_4 gO_6 rfl 7 (by decide) (List.mem_of_getElem? (i := 76) rfl) (fun _ h9 => h9) rfl dX10_pairs_8 ?_
  exact V_iret X hr hw dX10_pairs_11
set_option maxHeartbeats 4000000 in
set_option maxRecDepth 100000 in
theorem c_X10_pairs (l : Launch) {D : va_G} {g : GT} {A : Nat → Prop} {a : Nat → Nat} {b : Nat → Nat → Nat} {M : Mem} {Q : Int → Mem → Prop} (hw : wp_X10_pairs M Q) : Met l yX10_pairs wsX10_pairs ({ frames := 33, cells := 0, slots := 0, locals := 1084 } : Room) (cPc D g A a b M [.ref (a 0)]) (cQi D g A a b Q) 0 0 A := by
  refine Met.ofW (cc := cX10_pairs) (maxL := 1) (ret := (some .int)) (by decide) rfl ?_
  intro p e s m args below meth c s₁ B hml hv
  obtain ⟨rfl, hP, hD, hG⟩ := hv
  have X : vC p s m _ meth c D g A RX10 wsX10_pairs cX10_pairs 1 := ⟨B.exec, B.bytes, findClass_of_methodNamed B.named, atoms_spec (ws := wsX10_pairs) B.pre, hG, hml, B.notSynchronized⟩
  have hr := B.returns
  have hl := lv_entry ([.ref (a 0)]) (n := 1) (Nat.le_of_ble_eq_true rfl)
  rw [lg_entry_eq]
  generalize (lg_sl ([.ref (a 0)]) ++ List.replicate (1 - (lg_sl ([.ref (a 0)])).length) Slot.unset).toArray = ls at hl ⊢
  have hl : lv_has ls 1 [(0, .ref (a 0))] := hl
  exact wke_X10_pairs X hr  hw s.heap [] ls hP hD va_S.rf hl

set_option maxRecDepth 20000 in
theorem ggX10_steps_X10_settle : GoodIn wsX10_steps wsX10_settle := goodIn_r _ [6, 7, 8, 9, 10, 1, 11, 12, 13, 14, 15, 16, 17, 18, 19, 20, 21, 22, 23, 24, 25, 26, 27, 28, 29, 30, 31, 32, 33, 34, 35, 36, 37, 38, 39, 40, 41, 42, 43, 44, 45, 46, 47, 48, 49, 50, 51, 52, 53, 54, 55, 56, 57, 58, 59, 60, 61, 62, 63, 64, 65, 66, 67, 68, 69, 70, 71, 72, 73, 74, 75, 76, 77, 78, 79, 80, 81, 82, 83, 84, 85, 86, 87, 88, 89, 90, 91, 92, 93, 94, 95, 96, 97, 98, 99, 100, 101, 102, 103, 104, 105, 106, 107, 108, 109, 110, 111, 112, 113, 114, 115, 116, 117, 118, 119, 120, 121, 122, 123, 124, 125, 126, 127, 128, 129, 130, 131, 132, 133, 134, 135, 136, 137, 138, 139, 140, 141, 142, 143, 144, 145, 146, 147, 148, 149, 150, 151, 152, 153, 154, 155, 156, 157, 158, 159, 160, 170, 171, 172, 173, 174, 175, 176, 177, 178, 179, 180, 181, 182, 183, 184, 185, 186, 187, 188, 189, 190, 191, 192, 193, 194, 195, 196, 197, 198, 199, 200, 201, 202, 203, 204, 161, 162, 163, 164, 165, 166, 167, 168, 169, 205, 206, 207, 208, 209, 210] (by decide +kernel) (by decide +kernel)
set_option maxRecDepth 20000 in
theorem gX10_steps_X10_settle : GoodIn wsX10_steps (wsV RX10 206 RX10 yX10_settle wsX10_settle) := goodIn_app (goodIn_of _ (by decide +kernel)) ggX10_steps_X10_settle
theorem dX10_steps_0 : decode cX10_steps 0 = .ok (.aload_n 0, 1) := by decide +kernel
theorem dX10_steps_1 : decode cX10_steps 1 = .ok (.invokevirtual 206, 3) := by decide +kernel
theorem dX10_steps_4 : decode cX10_steps 4 = .ok (.aload_n 0, 1) := by decide +kernel
theorem dX10_steps_5 : decode cX10_steps 5 = .ok (.getfield 62, 3) := by decide +kernel
theorem dX10_steps_8 : decode cX10_steps 8 = .ok (.getfield 217, 3) := by decide +kernel
theorem dX10_steps_11 : decode cX10_steps 11 = .ok (.ireturn, 1) := by decide +kernel
theorem lk_X10_steps_f62 : Cond.fieldLink RX10 62 "TreeComparer" "script" "LTreeComparer$Script;" ∈ wsX10_steps := by decide +kernel
theorem hi_X10_steps_10 : ∀ w ∈ u_ws RX10 TX10 9, w ∈ wsX10_steps := by decide +kernel
theorem hi_X10_steps_7 : ∀ w ∈ u_ws RX7 TX7 9, w ∈ wsX10_steps := by decide +kernel
def wpe_X10_steps (M : Mem) (Q : Int → Mem → Prop) : Prop := wp_X10_settle M (fun M2 => Q ((M2 7 4 0)) M2)
def wp_X10_steps (M : Mem) (Q : Int → Mem → Prop) : Prop := wpe_X10_steps M Q
set_option maxHeartbeats 4000000 in
set_option maxRecDepth 100000 in
theorem wke_X10_steps {p : Program} {l : Launch} {e : Env} {s : State} {m : MethodId} {args : Array Value} {below : List Frame} {meth : Method} {c : Code} {D : va_G} {g : GT} {A : Nat → Prop} {a : Nat → Nat} {b : Nat → Nat → Nat} (X : vC p s m args meth c D g A RX10 wsX10_steps cX10_steps 1) (hr : meth.sig.returnType = (some .int)) {M : Mem} {Q : Int → Mem → Prop} (hw : wpe_X10_steps M Q) : vV p l e ({ frames := 33, cells := 0, slots := 0, locals := 1084 } : Room) s m args below meth c D g A a b 1 0 0 (MQ below (cQi D g A a b Q) args s 0 0 A) M [(0, .ref (a 0))] 0 [] := by
  unfold wpe_X10_steps at hw
  refine V_aload_n X dX10_steps_0 rfl (q := 0) rfl ?_
  refine V_callV_v X _ gO_0 rfl (As := []) (st := []) (c_X10_settle l hw) (cwV 0 X.2.2.2.1 gX10_steps_X10_settle rfl rfl rfl (by decide +kernel) ⟨Nat.le_of_ble_eq_true rfl, Nat.le_of_ble_eq_true rfl⟩) rfl (Nat.le_of_ble_eq_true rfl) ⟨Nat.le_of_ble_eq_true rfl, Nat.le_of_ble_eq_true rfl⟩ rfl dX10_steps_1 (fun M2 hw => ?_)
  refine V_aload_n X dX10_steps_4 rfl (q := 0) rfl ?_
  refine V_get (C := RX10) (T := TX10) (N := 9) (ci := 10) X hi_X10_steps_10 gO_0 rfl 6 (by decide) lk_X10_steps_f62 (fun _ h9 => h9) rfl dX10_steps_5 ?_
  refine V_getN (C := RX7) (T := TX7) (N := 9) (ci := 7) X hi_X10_steps_7 gO_7 rfl 4 (by decide) (List.mem_of_getElem? (i := 79) rfl) (fun _ h9 => h9) rfl dX10_steps_8 ?_
  exact V_iret X hr hw dX10_steps_11
set_option maxHeartbeats 4000000 in
set_option maxRecDepth 100000 in
theorem c_X10_steps (l : Launch) {D : va_G} {g : GT} {A : Nat → Prop} {a : Nat → Nat} {b : Nat → Nat → Nat} {M : Mem} {Q : Int → Mem → Prop} (hw : wp_X10_steps M Q) : Met l yX10_steps wsX10_steps ({ frames := 33, cells := 0, slots := 0, locals := 1084 } : Room) (cPc D g A a b M [.ref (a 0)]) (cQi D g A a b Q) 0 0 A := by
  refine Met.ofW (cc := cX10_steps) (maxL := 1) (ret := (some .int)) (by decide) rfl ?_
  intro p e s m args below meth c s₁ B hml hv
  obtain ⟨rfl, hP, hD, hG⟩ := hv
  have X : vC p s m _ meth c D g A RX10 wsX10_steps cX10_steps 1 := ⟨B.exec, B.bytes, findClass_of_methodNamed B.named, atoms_spec (ws := wsX10_steps) B.pre, hG, hml, B.notSynchronized⟩
  have hr := B.returns
  have hl := lv_entry ([.ref (a 0)]) (n := 1) (Nat.le_of_ble_eq_true rfl)
  rw [lg_entry_eq]
  generalize (lg_sl ([.ref (a 0)]) ++ List.replicate (1 - (lg_sl ([.ref (a 0)])).length) Slot.unset).toArray = ls at hl ⊢
  have hl : lv_has ls 1 [(0, .ref (a 0))] := hl
  exact wke_X10_steps X hr  hw s.heap [] ls hP hD va_S.rf hl

set_option maxRecDepth 20000 in
theorem ggX10_moves_X10_settle : GoodIn wsX10_moves wsX10_settle := goodIn_r _ [6, 7, 8, 9, 10, 11, 1, 12, 13, 14, 15, 16, 17, 18, 19, 20, 21, 22, 23, 24, 25, 26, 27, 28, 29, 30, 31, 32, 33, 34, 35, 36, 37, 38, 39, 40, 41, 42, 43, 44, 45, 46, 47, 48, 49, 50, 51, 52, 53, 54, 55, 56, 57, 58, 59, 60, 61, 62, 63, 64, 65, 66, 67, 68, 69, 70, 71, 72, 73, 74, 75, 76, 77, 78, 79, 80, 81, 82, 83, 84, 85, 86, 87, 88, 89, 90, 91, 92, 93, 94, 95, 96, 97, 98, 99, 100, 101, 102, 103, 104, 105, 106, 107, 108, 109, 110, 111, 112, 113, 114, 115, 116, 117, 118, 119, 120, 121, 122, 123, 124, 125, 126, 127, 128, 129, 130, 131, 132, 133, 134, 135, 136, 137, 138, 139, 140, 141, 142, 143, 144, 145, 146, 147, 148, 149, 150, 151, 152, 153, 154, 155, 156, 157, 158, 159, 160, 167, 168, 169, 170, 171, 172, 173, 174, 175, 176, 177, 178, 179, 180, 181, 182, 183, 184, 185, 186, 187, 188, 189, 190, 191, 192, 193, 194, 195, 196, 197, 198, 199, 200, 201, 202, 203, 204, 205, 206, 207, 208, 209, 210, 161, 162, 163, 164, 165, 166] (by decide +kernel) (by decide +kernel)
set_option maxRecDepth 20000 in
theorem gX10_moves_X10_settle : GoodIn wsX10_moves (wsV RX10 206 RX10 yX10_settle wsX10_settle) := goodIn_app (goodIn_of _ (by decide +kernel)) ggX10_moves_X10_settle
theorem dX10_moves_0 : decode cX10_moves 0 = .ok (.aload_n 0, 1) := by decide +kernel
theorem dX10_moves_1 : decode cX10_moves 1 = .ok (.invokevirtual 206, 3) := by decide +kernel
theorem dX10_moves_4 : decode cX10_moves 4 = .ok (.aload_n 0, 1) := by decide +kernel
theorem dX10_moves_5 : decode cX10_moves 5 = .ok (.getfield 69, 3) := by decide +kernel
theorem dX10_moves_8 : decode cX10_moves 8 = .ok (.getfield 250, 3) := by decide +kernel
theorem dX10_moves_11 : decode cX10_moves 11 = .ok (.ireturn, 1) := by decide +kernel
theorem lk_X10_moves_f69 : Cond.fieldLink RX10 69 "TreeComparer" "moving" "LTreeComparer$Moves;" ∈ wsX10_moves := by decide +kernel
theorem hi_X10_moves_10 : ∀ w ∈ u_ws RX10 TX10 9, w ∈ wsX10_moves := by decide +kernel
theorem hi_X10_moves_5 : ∀ w ∈ u_ws RX5 TX5 6, w ∈ wsX10_moves := by decide +kernel
def wpe_X10_moves (M : Mem) (Q : Int → Mem → Prop) : Prop := wp_X10_settle M (fun M2 => Q ((M2 8 4 0)) M2)
def wp_X10_moves (M : Mem) (Q : Int → Mem → Prop) : Prop := wpe_X10_moves M Q
set_option maxHeartbeats 4000000 in
set_option maxRecDepth 100000 in
theorem wke_X10_moves {p : Program} {l : Launch} {e : Env} {s : State} {m : MethodId} {args : Array Value} {below : List Frame} {meth : Method} {c : Code} {D : va_G} {g : GT} {A : Nat → Prop} {a : Nat → Nat} {b : Nat → Nat → Nat} (X : vC p s m args meth c D g A RX10 wsX10_moves cX10_moves 1) (hr : meth.sig.returnType = (some .int)) {M : Mem} {Q : Int → Mem → Prop} (hw : wpe_X10_moves M Q) : vV p l e ({ frames := 33, cells := 0, slots := 0, locals := 1084 } : Room) s m args below meth c D g A a b 1 0 0 (MQ below (cQi D g A a b Q) args s 0 0 A) M [(0, .ref (a 0))] 0 [] := by
  unfold wpe_X10_moves at hw
  refine V_aload_n X dX10_moves_0 rfl (q := 0) rfl ?_
  refine V_callV_v X _ gO_0 rfl (As := []) (st := []) (c_X10_settle l hw) (cwV 0 X.2.2.2.1 gX10_moves_X10_settle rfl rfl rfl (by decide +kernel) ⟨Nat.le_of_ble_eq_true rfl, Nat.le_of_ble_eq_true rfl⟩) rfl (Nat.le_of_ble_eq_true rfl) ⟨Nat.le_of_ble_eq_true rfl, Nat.le_of_ble_eq_true rfl⟩ rfl dX10_moves_1 (fun M2 hw => ?_)
  refine V_aload_n X dX10_moves_4 rfl (q := 0) rfl ?_
  refine V_get (C := RX10) (T := TX10) (N := 9) (ci := 10) X hi_X10_moves_10 gO_0 rfl 7 (by decide) lk_X10_moves_f69 (fun _ h9 => h9) rfl dX10_moves_5 ?_
  refine V_getN (C := RX5) (T := TX5) (N := 6) (ci := 5) X hi_X10_moves_5 gO_8 rfl 4 (by decide) (List.mem_of_getElem? (i := 83) rfl) (fun _ h9 => h9) rfl dX10_moves_8 ?_
  exact V_iret X hr hw dX10_moves_11
set_option maxHeartbeats 4000000 in
set_option maxRecDepth 100000 in
theorem c_X10_moves (l : Launch) {D : va_G} {g : GT} {A : Nat → Prop} {a : Nat → Nat} {b : Nat → Nat → Nat} {M : Mem} {Q : Int → Mem → Prop} (hw : wp_X10_moves M Q) : Met l yX10_moves wsX10_moves ({ frames := 33, cells := 0, slots := 0, locals := 1084 } : Room) (cPc D g A a b M [.ref (a 0)]) (cQi D g A a b Q) 0 0 A := by
  refine Met.ofW (cc := cX10_moves) (maxL := 1) (ret := (some .int)) (by decide) rfl ?_
  intro p e s m args below meth c s₁ B hml hv
  obtain ⟨rfl, hP, hD, hG⟩ := hv
  have X : vC p s m _ meth c D g A RX10 wsX10_moves cX10_moves 1 := ⟨B.exec, B.bytes, findClass_of_methodNamed B.named, atoms_spec (ws := wsX10_moves) B.pre, hG, hml, B.notSynchronized⟩
  have hr := B.returns
  have hl := lv_entry ([.ref (a 0)]) (n := 1) (Nat.le_of_ble_eq_true rfl)
  rw [lg_entry_eq]
  generalize (lg_sl ([.ref (a 0)]) ++ List.replicate (1 - (lg_sl ([.ref (a 0)])).length) Slot.unset).toArray = ls at hl ⊢
  have hl : lv_has ls 1 [(0, .ref (a 0))] := hl
  exact wke_X10_moves X hr  hw s.heap [] ls hP hD va_S.rf hl

set_option maxRecDepth 20000 in
theorem ggX10_treeWith_X10_treeNumbered : GoodIn wsX10_treeWith wsX10_treeNumbered := goodIn_ca (goodIn_r _ [5, 6, 7, 8, 4, 9, 10, 11, 21, 22, 23, 24, 25, 26, 27, 28, 29, 30, 31, 32, 33, 34, 35] (by decide +kernel) (by decide +kernel)) (goodIn_sub (fun _ h => List.mem_cons_of_mem _ (List.mem_append_right _ h)) (by decide +kernel))
set_option maxRecDepth 20000 in
theorem gX10_treeWith_X10_treeNumbered : GoodIn wsX10_treeWith (wsV RX10 77 RX10 yX10_treeNumbered wsX10_treeNumbered) := goodIn_app (goodIn_of _ (by decide +kernel)) ggX10_treeWith_X10_treeNumbered
set_option maxRecDepth 20000 in
theorem ggX10_treeWith_X10_needIndex : GoodIn wsX10_treeWith wsX10_needIndex := goodIn_ca (goodIn_r _ [9, 10, 11] (by decide +kernel) (by decide +kernel)) (goodIn_sub (fun _ h => List.mem_cons_of_mem _ (List.mem_append_right _ h)) (by decide +kernel))
set_option maxRecDepth 20000 in
theorem gX10_treeWith_X10_needIndex : GoodIn wsX10_treeWith (va_wsS RX10 81 yX10_needIndex wsX10_needIndex) := goodIn_app (goodIn_of _ (by decide +kernel)) ggX10_treeWith_X10_needIndex
theorem dX10_treeWith_0 : decode cX10_treeWith 0 = .ok (.aload_n 0, 1) := by decide +kernel
theorem dX10_treeWith_1 : decode cX10_treeWith 1 = .ok (.iload_n 1, 1) := by decide +kernel
theorem dX10_treeWith_2 : decode cX10_treeWith 2 = .ok (.invokevirtual 77, 3) := by decide +kernel
theorem dX10_treeWith_5 : decode cX10_treeWith 5 = .ok (.astore_n 3, 1) := by decide +kernel
theorem dX10_treeWith_6 : decode cX10_treeWith 6 = .ok (.iload_n 2, 1) := by decide +kernel
theorem dX10_treeWith_7 : decode cX10_treeWith 7 = .ok (.aload_n 3, 1) := by decide +kernel
theorem dX10_treeWith_8 : decode cX10_treeWith 8 = .ok (.getfield 88, 3) := by decide +kernel
theorem dX10_treeWith_11 : decode cX10_treeWith 11 = .ok (.invokestatic 81, 3) := by decide +kernel
theorem dX10_treeWith_14 : decode cX10_treeWith 14 = .ok (.aload_n 3, 1) := by decide +kernel
theorem dX10_treeWith_15 : decode cX10_treeWith 15 = .ok (.areturn, 1) := by decide +kernel
theorem hi_X10_treeWith_9 : ∀ w ∈ u_ws RX9 TX9 9, w ∈ wsX10_treeWith := by decide +kernel
def wpe_X10_treeWith (p0 : Int) (p1 : Int) (M : Mem) (Q : Nat → Mem → Prop) (XQ : String → Mem → Prop) : Prop := wp_X10_treeNumbered M p0 (fun y1 M2 => isT y1 ∧ wp_X10_needIndex M2 p1 ((M2 y1 8 0)) (fun M4 => Q y1 M4) XQ) XQ
def wp_X10_treeWith (M : Mem) (p0 : Int) (p1 : Int) (Q : Nat → Mem → Prop) (XQ : String → Mem → Prop) : Prop := wpe_X10_treeWith p0 p1 M Q XQ
set_option maxHeartbeats 4000000 in
set_option maxRecDepth 100000 in
theorem wke_X10_treeWith {p : Program} {l : Launch} {e : Env} {s : State} {m : MethodId} {args : Array Value} {below : List Frame} {meth : Method} {c : Code} {D : va_G} {g : GT} {A : Nat → Prop} {a : Nat → Nat} {b : Nat → Nat → Nat} (X : vC p s m args meth c D g A RX10 wsX10_treeWith cX10_treeWith 4) (hr : meth.sig.returnType = (some (.object "TreeComparer$Tree"))) {p0 : Int} {p1 : Int} (hlt : l.stackTraces = false) (htab : ∀ x ∈ c.exceptionTable.toList, False) {M : Mem} {Q : Nat → Mem → Prop} {XQ : String → Mem → Prop} (hw : wpe_X10_treeWith p0 p1 M Q XQ) : vV p l e ({ frames := 8, cells := 2, slots := 12, locals := 132 } : Room) s m args below meth c D g A a b 4 0 0 (vx_MQ below (cQr D g A a b Q) (cX D g A a b XQ) args s 2 12 A) M [(0, .ref (a 0)), (1, iv p0), (2, iv p1)] 0 [] := by
  unfold wpe_X10_treeWith at hw
  refine V_aload_n X dX10_treeWith_0 rfl (q := 0) rfl ?_
  refine V_iload_n X dX10_treeWith_1 rfl (q := 1) rfl ?_
  refine V_callxV_r X _ _ gO_0 rfl (As := [iv p0]) (st := []) (c_X10_treeNumbered l hlt hw) (cwV 1 X.2.2.2.1 gX10_treeWith_X10_treeNumbered rfl rfl rfl (by decide +kernel) ⟨Nat.le_of_ble_eq_true rfl, Nat.le_of_ble_eq_true rfl⟩) rfl (Nat.le_of_ble_eq_true rfl) ⟨Nat.le_of_ble_eq_true rfl, Nat.le_of_ble_eq_true rfl⟩ rfl dX10_treeWith_2 (fun E ce q9 M9 H9 locs9 ls9 hx9 hP9 hD9 hS9 hl9 h91 h92 h93 => V_xout X htab (Nat.le_of_ble_eq_true rfl) (Nat.le_of_ble_eq_true rfl) hx9 hP9 hD9 hS9 h91 h92 h93) (fun y1 M2 hw => ?_)
  obtain ⟨hy1, hw⟩ := hw
  refine V_astore_n (lv1 := [(0, .ref (a 0)), (1, iv p0), (2, iv p1), (3, .ref (a y1))]) X [1, 2, 3, 0] dX10_treeWith_5 rfl (by decide) rfl ?_
  refine V_iload_n X dX10_treeWith_6 rfl (q := 2) rfl ?_
  refine V_aload_n X dX10_treeWith_7 rfl (q := 3) rfl ?_
  refine V_getN (C := RX9) (T := TX9) (N := 9) (ci := 9) X hi_X10_treeWith_9 (gTO hy1) rfl 8 (by decide) (List.mem_of_getElem? (i := 20) rfl) (fun _ h9 => h9) rfl dX10_treeWith_8 ?_
  refine V_callxS_v X _ _ (As := [iv p1, iv ((M2 y1 8 0))]) (st := []) (c_X10_needIndex l hlt hw) (va_cwS 2 X.2.2.2.1 gX10_treeWith_X10_needIndex rfl rfl rfl (by decide +kernel) ⟨Nat.le_of_ble_eq_true rfl, Nat.le_of_ble_eq_true rfl⟩) rfl (Nat.le_of_ble_eq_true rfl) ⟨Nat.le_of_ble_eq_true rfl, Nat.le_of_ble_eq_true rfl⟩ rfl dX10_treeWith_11 (fun E ce q9 M9 H9 locs9 ls9 hx9 hP9 hD9 hS9 hl9 h91 h92 h93 => V_xout X htab (Nat.le_of_ble_eq_true rfl) (Nat.le_of_ble_eq_true rfl) hx9 hP9 hD9 hS9 h91 h92 h93) (fun M4 hw => ?_)
  refine V_aload_n X dX10_treeWith_14 rfl (q := 3) rfl ?_
  exact V_xret (Nat.le_of_ble_eq_true rfl) (Nat.le_of_ble_eq_true rfl) (V_aret X hr hw dX10_treeWith_15)
set_option maxHeartbeats 4000000 in
set_option maxRecDepth 100000 in
theorem c_X10_treeWith (l : Launch) {p0 : Int} {p1 : Int} (hlt : l.stackTraces = false) {D : va_G} {g : GT} {A : Nat → Prop} {a : Nat → Nat} {b : Nat → Nat → Nat} {M : Mem} {Q : Nat → Mem → Prop} {XQ : String → Mem → Prop} (hw : wp_X10_treeWith M p0 p1 Q XQ) : vx_Met l yX10_treeWith wsX10_treeWith ({ frames := 8, cells := 2, slots := 12, locals := 132 } : Room) (cPc D g A a b M [.ref (a 0), iv p0, iv p1]) (cQr D g A a b Q) (cX D g A a b XQ) 2 12 A := by
  refine vx_ofW (cc := cX10_treeWith) (maxL := 4) (ret := (some (.object "TreeComparer$Tree"))) (by decide) rfl ?_
  intro p e s m args below meth c s₁ B hml htab hv
  obtain ⟨rfl, hP, hD, hG⟩ := hv
  have X : vC p s m _ meth c D g A RX10 wsX10_treeWith cX10_treeWith 4 := ⟨B.exec, B.bytes, findClass_of_methodNamed B.named, atoms_spec (ws := wsX10_treeWith) B.pre, hG, hml, B.notSynchronized⟩
  have hr := B.returns
  have hl := lv_entry ([.ref (a 0), iv p0, iv p1]) (n := 4) (Nat.le_of_ble_eq_true rfl)
  rw [lg_entry_eq]
  generalize (lg_sl ([.ref (a 0), iv p0, iv p1]) ++ List.replicate (4 - (lg_sl ([.ref (a 0), iv p0, iv p1])).length) Slot.unset).toArray = ls at hl ⊢
  have hl : lv_has ls 4 [(0, .ref (a 0)), (1, iv p0), (2, iv p1)] := hl
  exact wke_X10_treeWith X hr hlt htab hw s.heap [] ls hP hD va_S.rf hl
