theorem dX2_solveCell_0 : decode cX2_solveCell 0 = .ok (.aload_n 0, 1) := by decide +kernel
theorem dX2_solveCell_1 : decode cX2_solveCell 1 = .ok (.getfield 18, 3) := by decide +kernel
theorem dX2_solveCell_4 : decode cX2_solveCell 4 = .ok (.getfield 22, 3) := by decide +kernel
theorem dX2_solveCell_7 : decode cX2_solveCell 7 = .ok (.astore 5, 2) := by decide +kernel
theorem dX2_solveCell_9 : decode cX2_solveCell 9 = .ok (.aload_n 0, 1) := by decide +kernel
theorem dX2_solveCell_10 : decode cX2_solveCell 10 = .ok (.getfield 18, 3) := by decide +kernel
theorem dX2_solveCell_13 : decode cX2_solveCell 13 = .ok (.getfield 28, 3) := by decide +kernel
theorem dX2_solveCell_16 : decode cX2_solveCell 16 = .ok (.astore 6, 2) := by decide +kernel
theorem dX2_solveCell_18 : decode cX2_solveCell 18 = .ok (.iload_n 3, 1) := by decide +kernel
theorem dX2_solveCell_19 : decode cX2_solveCell 19 = .ok (.iload_n 1, 1) := by decide +kernel
theorem dX2_solveCell_20 : decode cX2_solveCell 20 = .ok (.isub, 1) := by decide +kernel
theorem dX2_solveCell_21 : decode cX2_solveCell 21 = .ok (.iconst 1, 1) := by decide +kernel
theorem dX2_solveCell_22 : decode cX2_solveCell 22 = .ok (.iadd, 1) := by decide +kernel
theorem dX2_solveCell_23 : decode cX2_solveCell 23 = .ok (.bipush 13, 2) := by decide +kernel
theorem dX2_solveCell_25 : decode cX2_solveCell 25 = .ok (.imul, 1) := by decide +kernel
theorem dX2_solveCell_26 : decode cX2_solveCell 26 = .ok (.iload 4, 2) := by decide +kernel
theorem dX2_solveCell_28 : decode cX2_solveCell 28 = .ok (.iadd, 1) := by decide +kernel
theorem dX2_solveCell_29 : decode cX2_solveCell 29 = .ok (.iload_n 2, 1) := by decide +kernel
theorem dX2_solveCell_30 : decode cX2_solveCell 30 = .ok (.isub, 1) := by decide +kernel
theorem dX2_solveCell_31 : decode cX2_solveCell 31 = .ok (.iconst 1, 1) := by decide +kernel
theorem dX2_solveCell_32 : decode cX2_solveCell 32 = .ok (.iadd, 1) := by decide +kernel
theorem dX2_solveCell_33 : decode cX2_solveCell 33 = .ok (.istore 7, 2) := by decide +kernel
theorem dX2_solveCell_35 : decode cX2_solveCell 35 = .ok (.iload_n 3, 1) := by decide +kernel
theorem dX2_solveCell_36 : decode cX2_solveCell 36 = .ok (.bipush 12, 2) := by decide +kernel
theorem dX2_solveCell_38 : decode cX2_solveCell 38 = .ok (.imul, 1) := by decide +kernel
theorem dX2_solveCell_39 : decode cX2_solveCell 39 = .ok (.iload 4, 2) := by decide +kernel
theorem dX2_solveCell_41 : decode cX2_solveCell 41 = .ok (.iadd, 1) := by decide +kernel
theorem dX2_solveCell_42 : decode cX2_solveCell 42 = .ok (.istore 8, 2) := by decide +kernel
theorem dX2_solveCell_44 : decode cX2_solveCell 44 = .ok (.aload_n 0, 1) := by decide +kernel
theorem dX2_solveCell_45 : decode cX2_solveCell 45 = .ok (.getfield 15, 3) := by decide +kernel
theorem dX2_solveCell_48 : decode cX2_solveCell 48 = .ok (.iload 7, 2) := by decide +kernel
theorem dX2_solveCell_50 : decode cX2_solveCell 50 = .ok (.bipush 13, 2) := by decide +kernel
theorem dX2_solveCell_52 : decode cX2_solveCell 52 = .ok (.isub, 1) := by decide +kernel
theorem dX2_solveCell_53 : decode cX2_solveCell 53 = .ok (.iaload, 1) := by decide +kernel
theorem dX2_solveCell_54 : decode cX2_solveCell 54 = .ok (.aload 5, 2) := by decide +kernel
theorem dX2_solveCell_56 : decode cX2_solveCell 56 = .ok (.getfield 48, 3) := by decide +kernel
theorem dX2_solveCell_59 : decode cX2_solveCell 59 = .ok (.iload_n 3, 1) := by decide +kernel
theorem dX2_solveCell_60 : decode cX2_solveCell 60 = .ok (.iaload, 1) := by decide +kernel
theorem dX2_solveCell_61 : decode cX2_solveCell 61 = .ok (.iadd, 1) := by decide +kernel
theorem dX2_solveCell_62 : decode cX2_solveCell 62 = .ok (.aload_n 0, 1) := by decide +kernel
theorem dX2_solveCell_63 : decode cX2_solveCell 63 = .ok (.getfield 15, 3) := by decide +kernel
theorem dX2_solveCell_66 : decode cX2_solveCell 66 = .ok (.iload 7, 2) := by decide +kernel
theorem dX2_solveCell_68 : decode cX2_solveCell 68 = .ok (.iconst 1, 1) := by decide +kernel
theorem dX2_solveCell_69 : decode cX2_solveCell 69 = .ok (.isub, 1) := by decide +kernel
theorem dX2_solveCell_70 : decode cX2_solveCell 70 = .ok (.iaload, 1) := by decide +kernel
theorem dX2_solveCell_71 : decode cX2_solveCell 71 = .ok (.aload 6, 2) := by decide +kernel
theorem dX2_solveCell_73 : decode cX2_solveCell 73 = .ok (.getfield 48, 3) := by decide +kernel
theorem dX2_solveCell_76 : decode cX2_solveCell 76 = .ok (.iload 4, 2) := by decide +kernel
theorem dX2_solveCell_78 : decode cX2_solveCell 78 = .ok (.iaload, 1) := by decide +kernel
theorem dX2_solveCell_79 : decode cX2_solveCell 79 = .ok (.iadd, 1) := by decide +kernel
theorem dX2_solveCell_80 : decode cX2_solveCell 80 = .ok (.invokestatic 55, 3) := by decide +kernel
theorem dX2_solveCell_83 : decode cX2_solveCell 83 = .ok (.istore 9, 2) := by decide +kernel
theorem dX2_solveCell_85 : decode cX2_solveCell 85 = .ok (.aload 5, 2) := by decide +kernel
theorem dX2_solveCell_87 : decode cX2_solveCell 87 = .ok (.getfield 45, 3) := by decide +kernel
theorem dX2_solveCell_90 : decode cX2_solveCell 90 = .ok (.iload_n 3, 1) := by decide +kernel
theorem dX2_solveCell_91 : decode cX2_solveCell 91 = .ok (.iaload, 1) := by decide +kernel
theorem dX2_solveCell_92 : decode cX2_solveCell 92 = .ok (.iload_n 1, 1) := by decide +kernel
theorem dX2_solveCell_93 : decode cX2_solveCell 93 = .ok (.if_icmp .ne 57, 3) := by decide +kernel
theorem dX2_solveCell_96 : decode cX2_solveCell 96 = .ok (.aload 6, 2) := by decide +kernel
theorem dX2_solveCell_98 : decode cX2_solveCell 98 = .ok (.getfield 45, 3) := by decide +kernel
theorem dX2_solveCell_101 : decode cX2_solveCell 101 = .ok (.iload 4, 2) := by decide +kernel
theorem dX2_solveCell_103 : decode cX2_solveCell 103 = .ok (.iaload, 1) := by decide +kernel
theorem dX2_solveCell_104 : decode cX2_solveCell 104 = .ok (.iload_n 2, 1) := by decide +kernel
theorem dX2_solveCell_105 : decode cX2_solveCell 105 = .ok (.if_icmp .ne 45, 3) := by decide +kernel
theorem dX2_solveCell_108 : decode cX2_solveCell 108 = .ok (.iload 9, 2) := by decide +kernel
theorem dX2_solveCell_110 : decode cX2_solveCell 110 = .ok (.aload_n 0, 1) := by decide +kernel
theorem dX2_solveCell_111 : decode cX2_solveCell 111 = .ok (.getfield 15, 3) := by decide +kernel
theorem dX2_solveCell_114 : decode cX2_solveCell 114 = .ok (.iload 7, 2) := by decide +kernel
theorem dX2_solveCell_116 : decode cX2_solveCell 116 = .ok (.bipush 13, 2) := by decide +kernel
theorem dX2_solveCell_118 : decode cX2_solveCell 118 = .ok (.isub, 1) := by decide +kernel
theorem dX2_solveCell_119 : decode cX2_solveCell 119 = .ok (.iconst 1, 1) := by decide +kernel
theorem dX2_solveCell_120 : decode cX2_solveCell 120 = .ok (.isub, 1) := by decide +kernel
theorem dX2_solveCell_121 : decode cX2_solveCell 121 = .ok (.iaload, 1) := by decide +kernel
theorem dX2_solveCell_122 : decode cX2_solveCell 122 = .ok (.aload_n 0, 1) := by decide +kernel
theorem dX2_solveCell_123 : decode cX2_solveCell 123 = .ok (.getfield 18, 3) := by decide +kernel
theorem dX2_solveCell_126 : decode cX2_solveCell 126 = .ok (.getfield 61, 3) := by decide +kernel
theorem dX2_solveCell_129 : decode cX2_solveCell 129 = .ok (.iload 8, 2) := by decide +kernel
theorem dX2_solveCell_131 : decode cX2_solveCell 131 = .ok (.iaload, 1) := by decide +kernel
theorem dX2_solveCell_132 : decode cX2_solveCell 132 = .ok (.iadd, 1) := by decide +kernel
theorem dX2_solveCell_133 : decode cX2_solveCell 133 = .ok (.invokestatic 55, 3) := by decide +kernel
theorem dX2_solveCell_136 : decode cX2_solveCell 136 = .ok (.istore 9, 2) := by decide +kernel
theorem dX2_solveCell_138 : decode cX2_solveCell 138 = .ok (.aload_n 0, 1) := by decide +kernel
theorem dX2_solveCell_139 : decode cX2_solveCell 139 = .ok (.getfield 9, 3) := by decide +kernel
theorem dX2_solveCell_142 : decode cX2_solveCell 142 = .ok (.iload 8, 2) := by decide +kernel
theorem dX2_solveCell_144 : decode cX2_solveCell 144 = .ok (.iload 9, 2) := by decide +kernel
theorem dX2_solveCell_146 : decode cX2_solveCell 146 = .ok (.iastore, 1) := by decide +kernel
theorem dX2_solveCell_147 : decode cX2_solveCell 147 = .ok (.goto 50, 3) := by decide +kernel
theorem dX2_solveCell_150 : decode cX2_solveCell 150 = .ok (.aload 5, 2) := by decide +kernel
theorem dX2_solveCell_152 : decode cX2_solveCell 152 = .ok (.getfield 45, 3) := by decide +kernel
theorem dX2_solveCell_155 : decode cX2_solveCell 155 = .ok (.iload_n 3, 1) := by decide +kernel
theorem dX2_solveCell_156 : decode cX2_solveCell 156 = .ok (.iaload, 1) := by decide +kernel
theorem dX2_solveCell_157 : decode cX2_solveCell 157 = .ok (.iload_n 1, 1) := by decide +kernel
theorem dX2_solveCell_158 : decode cX2_solveCell 158 = .ok (.isub, 1) := by decide +kernel
theorem dX2_solveCell_159 : decode cX2_solveCell 159 = .ok (.bipush 13, 2) := by decide +kernel
theorem dX2_solveCell_161 : decode cX2_solveCell 161 = .ok (.imul, 1) := by decide +kernel
theorem dX2_solveCell_162 : decode cX2_solveCell 162 = .ok (.aload 6, 2) := by decide +kernel
theorem dX2_solveCell_164 : decode cX2_solveCell 164 = .ok (.getfield 45, 3) := by decide +kernel
theorem dX2_solveCell_167 : decode cX2_solveCell 167 = .ok (.iload 4, 2) := by decide +kernel
theorem dX2_solveCell_169 : decode cX2_solveCell 169 = .ok (.iaload, 1) := by decide +kernel
theorem dX2_solveCell_170 : decode cX2_solveCell 170 = .ok (.iadd, 1) := by decide +kernel
theorem dX2_solveCell_171 : decode cX2_solveCell 171 = .ok (.iload_n 2, 1) := by decide +kernel
theorem dX2_solveCell_172 : decode cX2_solveCell 172 = .ok (.isub, 1) := by decide +kernel
theorem dX2_solveCell_173 : decode cX2_solveCell 173 = .ok (.istore 10, 2) := by decide +kernel
theorem dX2_solveCell_175 : decode cX2_solveCell 175 = .ok (.iload 9, 2) := by decide +kernel
theorem dX2_solveCell_177 : decode cX2_solveCell 177 = .ok (.aload_n 0, 1) := by decide +kernel
theorem dX2_solveCell_178 : decode cX2_solveCell 178 = .ok (.getfield 15, 3) := by decide +kernel
theorem dX2_solveCell_181 : decode cX2_solveCell 181 = .ok (.iload 10, 2) := by decide +kernel
theorem dX2_solveCell_183 : decode cX2_solveCell 183 = .ok (.iaload, 1) := by decide +kernel
theorem dX2_solveCell_184 : decode cX2_solveCell 184 = .ok (.aload_n 0, 1) := by decide +kernel
theorem dX2_solveCell_185 : decode cX2_solveCell 185 = .ok (.getfield 9, 3) := by decide +kernel
theorem dX2_solveCell_188 : decode cX2_solveCell 188 = .ok (.iload 8, 2) := by decide +kernel
theorem dX2_solveCell_190 : decode cX2_solveCell 190 = .ok (.iaload, 1) := by decide +kernel
theorem dX2_solveCell_191 : decode cX2_solveCell 191 = .ok (.iadd, 1) := by decide +kernel
theorem dX2_solveCell_192 : decode cX2_solveCell 192 = .ok (.invokestatic 55, 3) := by decide +kernel
theorem dX2_solveCell_195 : decode cX2_solveCell 195 = .ok (.istore 9, 2) := by decide +kernel
theorem dX2_solveCell_197 : decode cX2_solveCell 197 = .ok (.aload_n 0, 1) := by decide +kernel
theorem dX2_solveCell_198 : decode cX2_solveCell 198 = .ok (.getfield 15, 3) := by decide +kernel
theorem dX2_solveCell_201 : decode cX2_solveCell 201 = .ok (.iload 7, 2) := by decide +kernel
theorem dX2_solveCell_203 : decode cX2_solveCell 203 = .ok (.iload 9, 2) := by decide +kernel
theorem dX2_solveCell_205 : decode cX2_solveCell 205 = .ok (.iastore, 1) := by decide +kernel
theorem dX2_solveCell_206 : decode cX2_solveCell 206 = .ok (.return_, 1) := by decide +kernel
theorem lk_X2_solveCell_f18 : Cond.fieldLink RX2 18 "TreeComparer$KeyrootTable" "layout" "LTreeComparer$Layout;" ∈ wsX2_solveCell := by decide +kernel
theorem hi_X2_solveCell_2 : ∀ w ∈ u_ws RX2 TX2 3, w ∈ wsX2_solveCell := by decide +kernel
theorem hi_X2_solveCell_3 : ∀ w ∈ u_ws RX3 TX3 4, w ∈ wsX2_solveCell := by decide +kernel
theorem lk_X2_solveCell_f15 : Cond.fieldLink RX2 15 "TreeComparer$KeyrootTable" "ofForests" "[I" ∈ wsX2_solveCell := by decide +kernel
theorem hi_X2_solveCell_6 : ∀ w ∈ u_ws RX6 TX6 6, w ∈ wsX2_solveCell := by decide +kernel
theorem lk_X2_solveCell_m55 : Cond.methodLink RX2 55 Lib.Math.min.name ∈ wsX2_solveCell := by decide +kernel
theorem lk_X2_solveCell_mins : Cond.static Lib.Math.min.name ∈ wsX2_solveCell := by decide +kernel
theorem lk_X2_solveCell_mini : Cond.initialized "java/lang/Math" ∈ wsX2_solveCell := by decide +kernel
theorem lk_X2_solveCell_minc : Cond.code Lib.Math.min.name Lib.Math.min.code 2 (some .int) ∈ wsX2_solveCell := by decide +kernel
theorem lk_X2_solveCell_f9 : Cond.fieldLink RX2 9 "TreeComparer$KeyrootTable" "ofTrees" "[I" ∈ wsX2_solveCell := by decide +kernel
def wpj_X2_solveCell_197 (p0 : Int) (p1 : Int) (p2 : Int) (p3 : Int) (x7 : Int) (x9 : Int) (M : Mem) (Q : Mem → Prop) : Prop := ((0 : Int) ≤ x7 ∧ x7 < 169) ∧ (∀ M33 : Mem, M33 = mset M 3 2 x7.toNat x9 → Q M33)
def wpj_X2_solveCell_150 (p0 : Int) (p1 : Int) (p2 : Int) (p3 : Int) (x7 : Int) (x8 : Int) (x9 : Int) (M : Mem) (Q : Mem → Prop) : Prop := ((0 : Int) ≤ p2 ∧ p2 < 12) ∧ ((0 : Int) ≤ p3 ∧ p3 < 12) ∧ (∀ y27 : Int, y27 = ((((M 9 1 p2.toNat) - p0) * 13) + (M 10 1 p3.toNat)) - p1 → ((0 : Int) ≤ y27 ∧ y27 < 169) ∧ ((0 : Int) ≤ x8 ∧ x8 < 144) ∧ inR (x9) ∧ inR ((M 3 2 y27.toNat) + (M 3 1 x8.toNat)) ∧ (∀ y32 : Int, y32 = min (x9) ((M 3 2 y27.toNat) + (M 3 1 x8.toNat)) → wpj_X2_solveCell_197 p0 p1 p2 p3 x7 y32 M Q))
def wpe_X2_solveCell (p0 : Int) (p1 : Int) (p2 : Int) (p3 : Int) (M : Mem) (Q : Mem → Prop) : Prop := (∀ y1 : Int, y1 = (((((p2 - p0) + 1) * 13) + p3) - p1) + 1 → (∀ y2 : Int, y2 = (p2 * 12) + p3 → ((0 : Int) ≤ y1 - 13 ∧ y1 - 13 < 169) ∧ ((0 : Int) ≤ p2 ∧ p2 < 12) ∧ ((0 : Int) ≤ y1 - 1 ∧ y1 - 1 < 169) ∧ ((0 : Int) ≤ p3 ∧ p3 < 12) ∧ inR ((M 3 2 (y1 - 13).toNat) + (M 9 3 p2.toNat)) ∧ inR ((M 3 2 (y1 - 1).toNat) + (M 10 3 p3.toNat)) ∧ (∀ y9 : Int, y9 = min ((M 3 2 (y1 - 13).toNat) + (M 9 3 p2.toNat)) ((M 3 2 (y1 - 1).toNat) + (M 10 3 p3.toNat)) → ((0 : Int) ≤ p2 ∧ p2 < 12) ∧ inR (M 9 1 p2.toNat) ∧ inR p0 ∧ (((M 9 1 p2.toNat) ≠ p0 → wpj_X2_solveCell_150 p0 p1 p2 p3 y1 y2 y9 M Q) ∧ (¬ ((M 9 1 p2.toNat) ≠ p0) → ((0 : Int) ≤ p3 ∧ p3 < 12) ∧ inR (M 10 1 p3.toNat) ∧ inR p1 ∧ (((M 10 1 p3.toNat) ≠ p1 → wpj_X2_solveCell_150 p0 p1 p2 p3 y1 y2 y9 M Q) ∧ (¬ ((M 10 1 p3.toNat) ≠ p1) → ((0 : Int) ≤ (y1 - 13) - 1 ∧ (y1 - 13) - 1 < 169) ∧ ((0 : Int) ≤ y2 ∧ y2 < 144) ∧ inR (y9) ∧ inR ((M 3 2 ((y1 - 13) - 1).toNat) + (M 2 3 y2.toNat)) ∧ (∀ y22 : Int, y22 = min (y9) ((M 3 2 ((y1 - 13) - 1).toNat) + (M 2 3 y2.toNat)) → ((0 : Int) ≤ y2 ∧ y2 < 144) ∧ (∀ M23 : Mem, M23 = mset M 3 1 y2.toNat y22 → wpj_X2_solveCell_197 p0 p1 p2 p3 y1 y22 M23 Q)))))))))
def wp_X2_solveCell (M : Mem) (p0 : Int) (p1 : Int) (p2 : Int) (p3 : Int) (Q : Mem → Prop) : Prop := wpe_X2_solveCell p0 p1 p2 p3 M Q
set_option maxHeartbeats 4000000 in
set_option maxRecDepth 100000 in
theorem wkj_X2_solveCell_197 {p : Program} {l : Launch} {e : Env} {s : State} {m : MethodId} {args : Array Value} {below : List Frame} {meth : Method} {c : Code} {D : va_G} {g : GT} {A : Nat → Prop} {a : Nat → Nat} {b : Nat → Nat → Nat} (X : vC p s m args meth c D g A RX2 wsX2_solveCell cX2_solveCell 11) (hr : meth.sig.returnType = none) {p0 : Int} {p1 : Int} {p2 : Int} {p3 : Int} {x7 : Int} {x9 : Int} {M : Mem} {Q : Mem → Prop} (hw : wpj_X2_solveCell_197 p0 p1 p2 p3 x7 x9 M Q) : vV p l e ({ frames := 1, cells := 0, slots := 0, locals := 40 } : Room) s m args below meth c D g A a b 11 0 0 (MQ below (cQv D g A a b Q) args s 0 0 A) M [(0, .ref (a 3)), (7, iv x7), (9, iv x9)] 197 [] := by
  unfold wpj_X2_solveCell_197 at hw
  refine V_aload_n X dX2_solveCell_197 rfl (q := 0) rfl ?_
  refine V_get (C := RX2) (T := TX2) (N := 3) (ci := 2) X hi_X2_solveCell_2 gO_3 rfl 2 (by decide) lk_X2_solveCell_f15 (fun _ h9 => h9) rfl dX2_solveCell_198 ?_
  refine V_iload X dX2_solveCell_201 (q := 1) rfl ?_
  refine V_iload X dX2_solveCell_203 (q := 2) rfl ?_
  obtain ⟨h34, hw⟩ := hw
  refine V_iast X (gA_3_2) (sA_3_2) h34 (by decide) dX2_solveCell_205 (fun M33 eM33 => ?_)
  have hw := hw M33 eM33
  exact V_vret X hr hw dX2_solveCell_206
set_option maxHeartbeats 4000000 in
set_option maxRecDepth 100000 in
theorem wkj_X2_solveCell_150 {p : Program} {l : Launch} {e : Env} {s : State} {m : MethodId} {args : Array Value} {below : List Frame} {meth : Method} {c : Code} {D : va_G} {g : GT} {A : Nat → Prop} {a : Nat → Nat} {b : Nat → Nat → Nat} (X : vC p s m args meth c D g A RX2 wsX2_solveCell cX2_solveCell 11) (hr : meth.sig.returnType = none) {p0 : Int} {p1 : Int} {p2 : Int} {p3 : Int} {x7 : Int} {x8 : Int} {x9 : Int} {M : Mem} {Q : Mem → Prop} (hw : wpj_X2_solveCell_150 p0 p1 p2 p3 x7 x8 x9 M Q) : vV p l e ({ frames := 1, cells := 0, slots := 0, locals := 40 } : Room) s m args below meth c D g A a b 11 0 0 (MQ below (cQv D g A a b Q) args s 0 0 A) M [(0, .ref (a 3)), (1, iv p0), (2, iv p1), (3, iv p2), (4, iv p3), (5, .ref (a 9)), (6, .ref (a 10)), (7, iv x7), (8, iv x8), (9, iv x9)] 150 [] := by
  unfold wpj_X2_solveCell_150 at hw
  refine V_aload X dX2_solveCell_150 (q := 5) rfl ?_
  refine V_getN (C := RX6) (T := TX6) (N := 6) (ci := 6) X hi_X2_solveCell_6 gO_9 rfl 1 (by decide) (List.mem_of_getElem? (i := 45) rfl) (fun _ h9 => h9) rfl dX2_solveCell_152 ?_
  refine V_iload_n X dX2_solveCell_155 rfl (q := 3) rfl ?_
  obtain ⟨h25, hw⟩ := hw
  refine V_iald X (gA_9_1) h25 (by decide) dX2_solveCell_156 ?_
  refine V_iload_n X dX2_solveCell_157 rfl (q := 1) rfl ?_
  refine V_isub X dX2_solveCell_158 ?_
  refine V_bipush X dX2_solveCell_159 rfl ?_
  refine V_imul X dX2_solveCell_161 ?_
  refine V_aload X dX2_solveCell_162 (q := 6) rfl ?_
  refine V_getN (C := RX6) (T := TX6) (N := 6) (ci := 6) X hi_X2_solveCell_6 gO_10 rfl 1 (by decide) (List.mem_of_getElem? (i := 45) rfl) (fun _ h9 => h9) rfl dX2_solveCell_164 ?_
  refine V_iload X dX2_solveCell_167 (q := 4) rfl ?_
  obtain ⟨h26, hw⟩ := hw
  refine V_iald X (gA_10_1) h26 (by decide) dX2_solveCell_169 ?_
  refine V_iadd X dX2_solveCell_170 ?_
  refine V_iload_n X dX2_solveCell_171 rfl (q := 2) rfl ?_
  refine V_isub X dX2_solveCell_172 ?_
  refine V_top (fun y27 ey27 => ?_)
  have hw := hw y27 ey27
  refine V_istore (lv1 := [(0, .ref (a 3)), (1, iv p0), (2, iv p1), (3, iv p2), (4, iv p3), (5, .ref (a 9)), (6, .ref (a 10)), (7, iv x7), (8, iv x8), (9, iv x9), (10, iv y27)]) X [1, 2, 3, 4, 5, 6, 7, 8, 9, 10, 0] dX2_solveCell_173 (by decide) rfl ?_
  refine V_iload X dX2_solveCell_175 (q := 9) rfl ?_
  refine V_aload_n X dX2_solveCell_177 rfl (q := 0) rfl ?_
  refine V_get (C := RX2) (T := TX2) (N := 3) (ci := 2) X hi_X2_solveCell_2 gO_3 rfl 2 (by decide) lk_X2_solveCell_f15 (fun _ h9 => h9) rfl dX2_solveCell_178 ?_
  refine V_iload X dX2_solveCell_181 (q := 10) rfl ?_
  obtain ⟨h28, hw⟩ := hw
  refine V_iald X (gA_3_2) h28 (by decide) dX2_solveCell_183 ?_
  refine V_aload_n X dX2_solveCell_184 rfl (q := 0) rfl ?_
  refine V_get (C := RX2) (T := TX2) (N := 3) (ci := 2) X hi_X2_solveCell_2 gO_3 rfl 1 (by decide) lk_X2_solveCell_f9 (fun _ h9 => h9) rfl dX2_solveCell_185 ?_
  refine V_iload X dX2_solveCell_188 (q := 8) rfl ?_
  obtain ⟨h29, hw⟩ := hw
  refine V_iald X (gA_3_1) h29 (by decide) dX2_solveCell_190 ?_
  refine V_iadd X dX2_solveCell_191 ?_
  obtain ⟨h30, h31, hw⟩ := hw
  refine V_min X h30 h31 lk_X2_solveCell_m55 lk_X2_solveCell_mins lk_X2_solveCell_mini lk_X2_solveCell_minc (Nat.le_of_ble_eq_true rfl) (Nat.le_of_ble_eq_true rfl) (Nat.zero_le _) (Nat.zero_le _) dX2_solveCell_192 ?_
  refine V_top (fun y32 ey32 => ?_)
  have hw := hw y32 ey32
  refine V_istore (lv1 := [(0, .ref (a 3)), (1, iv p0), (2, iv p1), (3, iv p2), (4, iv p3), (5, .ref (a 9)), (6, .ref (a 10)), (7, iv x7), (8, iv x8), (9, iv y32), (10, iv y27)]) X [1, 2, 3, 4, 5, 6, 7, 8, 9, 0, 10] dX2_solveCell_195 (by decide) rfl ?_
  refine V_sub (lv1 := [(0, .ref (a 3)), (7, iv x7), (9, iv y32)]) [0, 7, 9] rfl ?_
  exact wkj_X2_solveCell_197 X hr hw
set_option maxHeartbeats 4000000 in
set_option maxRecDepth 100000 in
theorem wke_X2_solveCell {p : Program} {l : Launch} {e : Env} {s : State} {m : MethodId} {args : Array Value} {below : List Frame} {meth : Method} {c : Code} {D : va_G} {g : GT} {A : Nat → Prop} {a : Nat → Nat} {b : Nat → Nat → Nat} (X : vC p s m args meth c D g A RX2 wsX2_solveCell cX2_solveCell 11) (hr : meth.sig.returnType = none) {p0 : Int} {p1 : Int} {p2 : Int} {p3 : Int} {M : Mem} {Q : Mem → Prop} (hw : wpe_X2_solveCell p0 p1 p2 p3 M Q) : vV p l e ({ frames := 1, cells := 0, slots := 0, locals := 40 } : Room) s m args below meth c D g A a b 11 0 0 (MQ below (cQv D g A a b Q) args s 0 0 A) M [(0, .ref (a 3)), (1, iv p0), (2, iv p1), (3, iv p2), (4, iv p3)] 0 [] := by
  unfold wpe_X2_solveCell at hw
  refine V_aload_n X dX2_solveCell_0 rfl (q := 0) rfl ?_
  refine V_get (C := RX2) (T := TX2) (N := 3) (ci := 2) X hi_X2_solveCell_2 gO_3 rfl 0 (by decide) lk_X2_solveCell_f18 (fun _ h9 => h9) rfl dX2_solveCell_1 ?_
  refine V_getN (C := RX3) (T := TX3) (N := 4) (ci := 3) X hi_X2_solveCell_3 gO_2 rfl 1 (by decide) (List.mem_of_getElem? (i := 57) rfl) (fun _ h9 => h9) rfl dX2_solveCell_4 ?_
  refine V_astore (lv1 := [(0, .ref (a 3)), (1, iv p0), (2, iv p1), (3, iv p2), (4, iv p3), (5, .ref (a 9))]) X [1, 2, 3, 4, 5, 0] dX2_solveCell_7 (by decide) rfl ?_
  refine V_aload_n X dX2_solveCell_9 rfl (q := 0) rfl ?_
  refine V_get (C := RX2) (T := TX2) (N := 3) (ci := 2) X hi_X2_solveCell_2 gO_3 rfl 0 (by decide) lk_X2_solveCell_f18 (fun _ h9 => h9) rfl dX2_solveCell_10 ?_
  refine V_getN (C := RX3) (T := TX3) (N := 4) (ci := 3) X hi_X2_solveCell_3 gO_2 rfl 2 (by decide) (List.mem_of_getElem? (i := 62) rfl) (fun _ h9 => h9) rfl dX2_solveCell_13 ?_
  refine V_astore (lv1 := [(0, .ref (a 3)), (1, iv p0), (2, iv p1), (3, iv p2), (4, iv p3), (5, .ref (a 9)), (6, .ref (a 10))]) X [1, 2, 3, 4, 5, 6, 0] dX2_solveCell_16 (by decide) rfl ?_
  refine V_iload_n X dX2_solveCell_18 rfl (q := 3) rfl ?_
  refine V_iload_n X dX2_solveCell_19 rfl (q := 1) rfl ?_
  refine V_isub X dX2_solveCell_20 ?_
  refine V_iconst X dX2_solveCell_21 ?_
  refine V_iadd X dX2_solveCell_22 ?_
  refine V_bipush X dX2_solveCell_23 rfl ?_
  refine V_imul X dX2_solveCell_25 ?_
  refine V_iload X dX2_solveCell_26 (q := 4) rfl ?_
  refine V_iadd X dX2_solveCell_28 ?_
  refine V_iload_n X dX2_solveCell_29 rfl (q := 2) rfl ?_
  refine V_isub X dX2_solveCell_30 ?_
  refine V_iconst X dX2_solveCell_31 ?_
  refine V_iadd X dX2_solveCell_32 ?_
  refine V_top (fun y1 ey1 => ?_)
  have hw := hw y1 ey1
  refine V_istore (lv1 := [(0, .ref (a 3)), (1, iv p0), (2, iv p1), (3, iv p2), (4, iv p3), (5, .ref (a 9)), (6, .ref (a 10)), (7, iv y1)]) X [1, 2, 3, 4, 5, 6, 7, 0] dX2_solveCell_33 (by decide) rfl ?_
  refine V_iload_n X dX2_solveCell_35 rfl (q := 3) rfl ?_
  refine V_bipush X dX2_solveCell_36 rfl ?_
  refine V_imul X dX2_solveCell_38 ?_
  refine V_iload X dX2_solveCell_39 (q := 4) rfl ?_
  refine V_iadd X dX2_solveCell_41 ?_
  refine V_top (fun y2 ey2 => ?_)
  have hw := hw y2 ey2
  refine V_istore (lv1 := [(0, .ref (a 3)), (1, iv p0), (2, iv p1), (3, iv p2), (4, iv p3), (5, .ref (a 9)), (6, .ref (a 10)), (7, iv y1), (8, iv y2)]) X [1, 2, 3, 4, 5, 6, 7, 8, 0] dX2_solveCell_42 (by decide) rfl ?_
  refine V_aload_n X dX2_solveCell_44 rfl (q := 0) rfl ?_
  refine V_get (C := RX2) (T := TX2) (N := 3) (ci := 2) X hi_X2_solveCell_2 gO_3 rfl 2 (by decide) lk_X2_solveCell_f15 (fun _ h9 => h9) rfl dX2_solveCell_45 ?_
  refine V_iload X dX2_solveCell_48 (q := 7) rfl ?_
  refine V_bipush X dX2_solveCell_50 rfl ?_
  refine V_isub X dX2_solveCell_52 ?_
  obtain ⟨h3, hw⟩ := hw
  refine V_iald X (gA_3_2) h3 (by decide) dX2_solveCell_53 ?_
  refine V_aload X dX2_solveCell_54 (q := 5) rfl ?_
  refine V_getN (C := RX6) (T := TX6) (N := 6) (ci := 6) X hi_X2_solveCell_6 gO_9 rfl 3 (by decide) (List.mem_of_getElem? (i := 50) rfl) (fun _ h9 => h9) rfl dX2_solveCell_56 ?_
  refine V_iload_n X dX2_solveCell_59 rfl (q := 3) rfl ?_
  obtain ⟨h4, hw⟩ := hw
  refine V_iald X (gA_9_3) h4 (by decide) dX2_solveCell_60 ?_
  refine V_iadd X dX2_solveCell_61 ?_
  refine V_aload_n X dX2_solveCell_62 rfl (q := 0) rfl ?_
  refine V_get (C := RX2) (T := TX2) (N := 3) (ci := 2) X hi_X2_solveCell_2 gO_3 rfl 2 (by decide) lk_X2_solveCell_f15 (fun _ h9 => h9) rfl dX2_solveCell_63 ?_
  refine V_iload X dX2_solveCell_66 (q := 7) rfl ?_
  refine V_iconst X dX2_solveCell_68 ?_
  refine V_isub X dX2_solveCell_69 ?_
  obtain ⟨h5, hw⟩ := hw
  refine V_iald X (gA_3_2) h5 (by decide) dX2_solveCell_70 ?_
  refine V_aload X dX2_solveCell_71 (q := 6) rfl ?_
  refine V_getN (C := RX6) (T := TX6) (N := 6) (ci := 6) X hi_X2_solveCell_6 gO_10 rfl 3 (by decide) (List.mem_of_getElem? (i := 50) rfl) (fun _ h9 => h9) rfl dX2_solveCell_73 ?_
  refine V_iload X dX2_solveCell_76 (q := 4) rfl ?_
  obtain ⟨h6, hw⟩ := hw
  refine V_iald X (gA_10_3) h6 (by decide) dX2_solveCell_78 ?_
  refine V_iadd X dX2_solveCell_79 ?_
  obtain ⟨h7, h8, hw⟩ := hw
  refine V_min X h7 h8 lk_X2_solveCell_m55 lk_X2_solveCell_mins lk_X2_solveCell_mini lk_X2_solveCell_minc (Nat.le_of_ble_eq_true rfl) (Nat.le_of_ble_eq_true rfl) (Nat.zero_le _) (Nat.zero_le _) dX2_solveCell_80 ?_
  refine V_top (fun y9 ey9 => ?_)
  have hw := hw y9 ey9
  refine V_istore (lv1 := [(0, .ref (a 3)), (1, iv p0), (2, iv p1), (3, iv p2), (4, iv p3), (5, .ref (a 9)), (6, .ref (a 10)), (7, iv y1), (8, iv y2), (9, iv y9)]) X [1, 2, 3, 4, 5, 6, 7, 8, 9, 0] dX2_solveCell_83 (by decide) rfl ?_
  refine V_aload X dX2_solveCell_85 (q := 5) rfl ?_
  refine V_getN (C := RX6) (T := TX6) (N := 6) (ci := 6) X hi_X2_solveCell_6 gO_9 rfl 1 (by decide) (List.mem_of_getElem? (i := 45) rfl) (fun _ h9 => h9) rfl dX2_solveCell_87 ?_
  refine V_iload_n X dX2_solveCell_90 rfl (q := 3) rfl ?_
  obtain ⟨h10, hw⟩ := hw
  refine V_iald X (gA_9_1) h10 (by decide) dX2_solveCell_91 ?_
  refine V_iload_n X dX2_solveCell_92 rfl (q := 1) rfl ?_
  obtain ⟨h11, h12, hw⟩ := hw
  refine V_icmp_ne (tgt := 150) X h11 h12 dX2_solveCell_93 (by decide) (fun q13 => ?_) (fun q13 => ?_)
  · have hw := hw.1 q13
    exact wkj_X2_solveCell_150 X hr hw
  · have hw := hw.2 q13
    refine V_aload X dX2_solveCell_96 (q := 6) rfl ?_
    refine V_getN (C := RX6) (T := TX6) (N := 6) (ci := 6) X hi_X2_solveCell_6 gO_10 rfl 1 (by decide) (List.mem_of_getElem? (i := 45) rfl) (fun _ h9 => h9) rfl dX2_solveCell_98 ?_
    refine V_iload X dX2_solveCell_101 (q := 4) rfl ?_
    obtain ⟨h14, hw⟩ := hw
    refine V_iald X (gA_10_1) h14 (by decide) dX2_solveCell_103 ?_
    refine V_iload_n X dX2_solveCell_104 rfl (q := 2) rfl ?_
    obtain ⟨h15, h16, hw⟩ := hw
    refine V_icmp_ne (tgt := 150) X h15 h16 dX2_solveCell_105 (by decide) (fun q17 => ?_) (fun q17 => ?_)
    · have hw := hw.1 q17
      exact wkj_X2_solveCell_150 X hr hw
    · have hw := hw.2 q17
      refine V_iload X dX2_solveCell_108 (q := 9) rfl ?_
      refine V_aload_n X dX2_solveCell_110 rfl (q := 0) rfl ?_
      refine V_get (C := RX2) (T := TX2) (N := 3) (ci := 2) X hi_X2_solveCell_2 gO_3 rfl 2 (by decide) lk_X2_solveCell_f15 (fun _ h9 => h9) rfl dX2_solveCell_111 ?_
      refine V_iload X dX2_solveCell_114 (q := 7) rfl ?_
      refine V_bipush X dX2_solveCell_116 rfl ?_
      refine V_isub X dX2_solveCell_118 ?_
      refine V_iconst X dX2_solveCell_119 ?_
      refine V_isub X dX2_solveCell_120 ?_
      obtain ⟨h18, hw⟩ := hw
      refine V_iald X (gA_3_2) h18 (by decide) dX2_solveCell_121 ?_
      refine V_aload_n X dX2_solveCell_122 rfl (q := 0) rfl ?_
      refine V_get (C := RX2) (T := TX2) (N := 3) (ci := 2) X hi_X2_solveCell_2 gO_3 rfl 0 (by decide) lk_X2_solveCell_f18 (fun _ h9 => h9) rfl dX2_solveCell_123 ?_
      refine V_getN (C := RX3) (T := TX3) (N := 4) (ci := 3) X hi_X2_solveCell_3 gO_2 rfl 3 (by decide) (List.mem_of_getElem? (i := 70) rfl) (fun _ h9 => h9) rfl dX2_solveCell_126 ?_
      refine V_iload X dX2_solveCell_129 (q := 8) rfl ?_
      obtain ⟨h19, hw⟩ := hw
      refine V_iald X (gA_2_3) h19 (by decide) dX2_solveCell_131 ?_
      refine V_iadd X dX2_solveCell_132 ?_
      obtain ⟨h20, h21, hw⟩ := hw
      refine V_min X h20 h21 lk_X2_solveCell_m55 lk_X2_solveCell_mins lk_X2_solveCell_mini lk_X2_solveCell_minc (Nat.le_of_ble_eq_true rfl) (Nat.le_of_ble_eq_true rfl) (Nat.zero_le _) (Nat.zero_le _) dX2_solveCell_133 ?_
      refine V_top (fun y22 ey22 => ?_)
      have hw := hw y22 ey22
      refine V_istore (lv1 := [(0, .ref (a 3)), (1, iv p0), (2, iv p1), (3, iv p2), (4, iv p3), (5, .ref (a 9)), (6, .ref (a 10)), (7, iv y1), (8, iv y2), (9, iv y22)]) X [1, 2, 3, 4, 5, 6, 7, 8, 9, 0] dX2_solveCell_136 (by decide) rfl ?_
      refine V_aload_n X dX2_solveCell_138 rfl (q := 0) rfl ?_
      refine V_get (C := RX2) (T := TX2) (N := 3) (ci := 2) X hi_X2_solveCell_2 gO_3 rfl 1 (by decide) lk_X2_solveCell_f9 (fun _ h9 => h9) rfl dX2_solveCell_139 ?_
      refine V_iload X dX2_solveCell_142 (q := 8) rfl ?_
      refine V_iload X dX2_solveCell_144 (q := 9) rfl ?_
      obtain ⟨h24, hw⟩ := hw
      refine V_iast X (gA_3_1) (sA_3_1) h24 (by decide) dX2_solveCell_146 (fun M23 eM23 => ?_)
      have hw := hw M23 eM23
      refine V_goto (tgt := 197) X dX2_solveCell_147 (by decide) ?_
      refine V_sub (lv1 := [(0, .ref (a 3)), (7, iv y1), (9, iv y22)]) [0, 7, 9] rfl ?_
      exact wkj_X2_solveCell_197 X hr hw
set_option maxHeartbeats 4000000 in
set_option maxRecDepth 100000 in
theorem c_X2_solveCell (l : Launch) {p0 : Int} {p1 : Int} {p2 : Int} {p3 : Int} {D : va_G} {g : GT} {A : Nat → Prop} {a : Nat → Nat} {b : Nat → Nat → Nat} {M : Mem} {Q : Mem → Prop} (hw : wp_X2_solveCell M p0 p1 p2 p3 Q) : Met l yX2_solveCell wsX2_solveCell ({ frames := 1, cells := 0, slots := 0, locals := 40 } : Room) (cPc D g A a b M [.ref (a 3), iv p0, iv p1, iv p2, iv p3]) (cQv D g A a b Q) 0 0 A := by
  refine Met.ofW (cc := cX2_solveCell) (maxL := 11) (ret := none) (by decide) rfl ?_
  intro p e s m args below meth c s₁ B hml hv
  obtain ⟨rfl, hP, hD, hG⟩ := hv
  have X : vC p s m _ meth c D g A RX2 wsX2_solveCell cX2_solveCell 11 := ⟨B.exec, B.bytes, findClass_of_methodNamed B.named, atoms_spec (ws := wsX2_solveCell) B.pre, hG, hml, B.notSynchronized⟩
  have hr := B.returns
  have hl := lv_entry ([.ref (a 3), iv p0, iv p1, iv p2, iv p3]) (n := 11) (Nat.le_of_ble_eq_true rfl)
  rw [lg_entry_eq]
  generalize (lg_sl ([.ref (a 3), iv p0, iv p1, iv p2, iv p3]) ++ List.replicate (11 - (lg_sl ([.ref (a 3), iv p0, iv p1, iv p2, iv p3])).length) Slot.unset).toArray = ls at hl ⊢
  have hl : lv_has ls 11 [(0, .ref (a 3)), (1, iv p0), (2, iv p1), (3, iv p2), (4, iv p3)] := hl
  exact wke_X2_solveCell X hr  hw s.heap [] ls hP hD va_S.rf hl

set_option maxRecDepth 20000 in
theorem ggX2_solveForests_X2_solveCell : GoodIn wsX2_solveForests wsX2_solveCell := goodIn_r _ [7, 1, 2, 8, 9, 10, 11, 12, 13, 14, 15, 16, 17, 18, 19, 20, 21, 22, 23, 24, 25] (by decide +kernel) (by decide +kernel)
set_option maxRecDepth 20000 in
theorem gX2_solveForests_X2_solveCell : GoodIn wsX2_solveForests (wsV RX2 51 RX2 yX2_solveCell wsX2_solveCell) := goodIn_app (goodIn_of _ (by decide +kernel)) ggX2_solveForests_X2_solveCell
theorem dX2_solveForests_0 : decode cX2_solveForests 0 = .ok (.aload_n 0, 1) := by decide +kernel
theorem dX2_solveForests_1 : decode cX2_solveForests 1 = .ok (.getfield 18, 3) := by decide +kernel
theorem dX2_solveForests_4 : decode cX2_solveForests 4 = .ok (.getfield 22, 3) := by decide +kernel
theorem dX2_solveForests_7 : decode cX2_solveForests 7 = .ok (.astore_n 3, 1) := by decide +kernel
theorem dX2_solveForests_8 : decode cX2_solveForests 8 = .ok (.aload_n 0, 1) := by decide +kernel
theorem dX2_solveForests_9 : decode cX2_solveForests 9 = .ok (.getfield 18, 3) := by decide +kernel
theorem dX2_solveForests_12 : decode cX2_solveForests 12 = .ok (.getfield 28, 3) := by decide +kernel
theorem dX2_solveForests_15 : decode cX2_solveForests 15 = .ok (.astore 4, 2) := by decide +kernel
theorem dX2_solveForests_17 : decode cX2_solveForests 17 = .ok (.aload_n 3, 1) := by decide +kernel
theorem dX2_solveForests_18 : decode cX2_solveForests 18 = .ok (.getfield 45, 3) := by decide +kernel
theorem dX2_solveForests_21 : decode cX2_solveForests 21 = .ok (.iload_n 1, 1) := by decide +kernel
theorem dX2_solveForests_22 : decode cX2_solveForests 22 = .ok (.iaload, 1) := by decide +kernel
theorem dX2_solveForests_23 : decode cX2_solveForests 23 = .ok (.istore 5, 2) := by decide +kernel
theorem dX2_solveForests_25 : decode cX2_solveForests 25 = .ok (.aload 4, 2) := by decide +kernel
theorem dX2_solveForests_27 : decode cX2_solveForests 27 = .ok (.getfield 45, 3) := by decide +kernel
theorem dX2_solveForests_30 : decode cX2_solveForests 30 = .ok (.iload_n 2, 1) := by decide +kernel
theorem dX2_solveForests_31 : decode cX2_solveForests 31 = .ok (.iaload, 1) := by decide +kernel
theorem dX2_solveForests_32 : decode cX2_solveForests 32 = .ok (.istore 6, 2) := by decide +kernel
theorem dX2_solveForests_34 : decode cX2_solveForests 34 = .ok (.aload_n 0, 1) := by decide +kernel
theorem dX2_solveForests_35 : decode cX2_solveForests 35 = .ok (.getfield 15, 3) := by decide +kernel
theorem dX2_solveForests_38 : decode cX2_solveForests 38 = .ok (.iconst 0, 1) := by decide +kernel
theorem dX2_solveForests_39 : decode cX2_solveForests 39 = .ok (.iconst 0, 1) := by decide +kernel
theorem dX2_solveForests_40 : decode cX2_solveForests 40 = .ok (.iastore, 1) := by decide +kernel
theorem dX2_solveForests_41 : decode cX2_solveForests 41 = .ok (.iload 5, 2) := by decide +kernel
theorem dX2_solveForests_43 : decode cX2_solveForests 43 = .ok (.istore 7, 2) := by decide +kernel
theorem dX2_solveForests_45 : decode cX2_solveForests 45 = .ok (.iload 7, 2) := by decide +kernel
theorem dX2_solveForests_47 : decode cX2_solveForests 47 = .ok (.iload_n 1, 1) := by decide +kernel
theorem dX2_solveForests_48 : decode cX2_solveForests 48 = .ok (.if_icmp .gt 45, 3) := by decide +kernel
theorem dX2_solveForests_51 : decode cX2_solveForests 51 = .ok (.aload_n 0, 1) := by decide +kernel
theorem dX2_solveForests_52 : decode cX2_solveForests 52 = .ok (.getfield 15, 3) := by decide +kernel
theorem dX2_solveForests_55 : decode cX2_solveForests 55 = .ok (.iload 7, 2) := by decide +kernel
theorem dX2_solveForests_57 : decode cX2_solveForests 57 = .ok (.iload 5, 2) := by decide +kernel
theorem dX2_solveForests_59 : decode cX2_solveForests 59 = .ok (.isub, 1) := by decide +kernel
theorem dX2_solveForests_60 : decode cX2_solveForests 60 = .ok (.iconst 1, 1) := by decide +kernel
theorem dX2_solveForests_61 : decode cX2_solveForests 61 = .ok (.iadd, 1) := by decide +kernel
theorem dX2_solveForests_62 : decode cX2_solveForests 62 = .ok (.bipush 13, 2) := by decide +kernel
theorem dX2_solveForests_64 : decode cX2_solveForests 64 = .ok (.imul, 1) := by decide +kernel
theorem dX2_solveForests_65 : decode cX2_solveForests 65 = .ok (.aload_n 0, 1) := by decide +kernel
theorem dX2_solveForests_66 : decode cX2_solveForests 66 = .ok (.getfield 15, 3) := by decide +kernel
theorem dX2_solveForests_69 : decode cX2_solveForests 69 = .ok (.iload 7, 2) := by decide +kernel
theorem dX2_solveForests_71 : decode cX2_solveForests 71 = .ok (.iload 5, 2) := by decide +kernel
theorem dX2_solveForests_73 : decode cX2_solveForests 73 = .ok (.isub, 1) := by decide +kernel
theorem dX2_solveForests_74 : decode cX2_solveForests 74 = .ok (.bipush 13, 2) := by decide +kernel
theorem dX2_solveForests_76 : decode cX2_solveForests 76 = .ok (.imul, 1) := by decide +kernel
theorem dX2_solveForests_77 : decode cX2_solveForests 77 = .ok (.iaload, 1) := by decide +kernel
theorem dX2_solveForests_78 : decode cX2_solveForests 78 = .ok (.aload_n 3, 1) := by decide +kernel
theorem dX2_solveForests_79 : decode cX2_solveForests 79 = .ok (.getfield 48, 3) := by decide +kernel
theorem dX2_solveForests_82 : decode cX2_solveForests 82 = .ok (.iload 7, 2) := by decide +kernel
theorem dX2_solveForests_84 : decode cX2_solveForests 84 = .ok (.iaload, 1) := by decide +kernel
theorem dX2_solveForests_85 : decode cX2_solveForests 85 = .ok (.iadd, 1) := by decide +kernel
theorem dX2_solveForests_86 : decode cX2_solveForests 86 = .ok (.iastore, 1) := by decide +kernel
theorem dX2_solveForests_87 : decode cX2_solveForests 87 = .ok (.iinc 7 1, 3) := by decide +kernel
theorem dX2_solveForests_90 : decode cX2_solveForests 90 = .ok (.goto (-45), 3) := by decide +kernel
theorem dX2_solveForests_93 : decode cX2_solveForests 93 = .ok (.iload 6, 2) := by decide +kernel
theorem dX2_solveForests_95 : decode cX2_solveForests 95 = .ok (.istore 7, 2) := by decide +kernel
theorem dX2_solveForests_97 : decode cX2_solveForests 97 = .ok (.iload 7, 2) := by decide +kernel
theorem dX2_solveForests_99 : decode cX2_solveForests 99 = .ok (.iload_n 2, 1) := by decide +kernel
theorem dX2_solveForests_100 : decode cX2_solveForests 100 = .ok (.if_icmp .gt 40, 3) := by decide +kernel
theorem dX2_solveForests_103 : decode cX2_solveForests 103 = .ok (.aload_n 0, 1) := by decide +kernel
theorem dX2_solveForests_104 : decode cX2_solveForests 104 = .ok (.getfield 15, 3) := by decide +kernel
theorem dX2_solveForests_107 : decode cX2_solveForests 107 = .ok (.iload 7, 2) := by decide +kernel
theorem dX2_solveForests_109 : decode cX2_solveForests 109 = .ok (.iload 6, 2) := by decide +kernel
theorem dX2_solveForests_111 : decode cX2_solveForests 111 = .ok (.isub, 1) := by decide +kernel
theorem dX2_solveForests_112 : decode cX2_solveForests 112 = .ok (.iconst 1, 1) := by decide +kernel
theorem dX2_solveForests_113 : decode cX2_solveForests 113 = .ok (.iadd, 1) := by decide +kernel
theorem dX2_solveForests_114 : decode cX2_solveForests 114 = .ok (.aload_n 0, 1) := by decide +kernel
theorem dX2_solveForests_115 : decode cX2_solveForests 115 = .ok (.getfield 15, 3) := by decide +kernel
theorem dX2_solveForests_118 : decode cX2_solveForests 118 = .ok (.iload 7, 2) := by decide +kernel
theorem dX2_solveForests_120 : decode cX2_solveForests 120 = .ok (.iload 6, 2) := by decide +kernel
theorem dX2_solveForests_122 : decode cX2_solveForests 122 = .ok (.isub, 1) := by decide +kernel
theorem dX2_solveForests_123 : decode cX2_solveForests 123 = .ok (.iaload, 1) := by decide +kernel
theorem dX2_solveForests_124 : decode cX2_solveForests 124 = .ok (.aload 4, 2) := by decide +kernel
theorem dX2_solveForests_126 : decode cX2_solveForests 126 = .ok (.getfield 48, 3) := by decide +kernel
theorem dX2_solveForests_129 : decode cX2_solveForests 129 = .ok (.iload 7, 2) := by decide +kernel
theorem dX2_solveForests_131 : decode cX2_solveForests 131 = .ok (.iaload, 1) := by decide +kernel
theorem dX2_solveForests_132 : decode cX2_solveForests 132 = .ok (.iadd, 1) := by decide +kernel
theorem dX2_solveForests_133 : decode cX2_solveForests 133 = .ok (.iastore, 1) := by decide +kernel
theorem dX2_solveForests_134 : decode cX2_solveForests 134 = .ok (.iinc 7 1, 3) := by decide +kernel
theorem dX2_solveForests_137 : decode cX2_solveForests 137 = .ok (.goto (-40), 3) := by decide +kernel
theorem dX2_solveForests_140 : decode cX2_solveForests 140 = .ok (.iload 5, 2) := by decide +kernel
theorem dX2_solveForests_142 : decode cX2_solveForests 142 = .ok (.istore 7, 2) := by decide +kernel
theorem dX2_solveForests_144 : decode cX2_solveForests 144 = .ok (.iload 7, 2) := by decide +kernel
theorem dX2_solveForests_146 : decode cX2_solveForests 146 = .ok (.iload_n 1, 1) := by decide +kernel
theorem dX2_solveForests_147 : decode cX2_solveForests 147 = .ok (.if_icmp .gt 37, 3) := by decide +kernel
theorem dX2_solveForests_150 : decode cX2_solveForests 150 = .ok (.iload 6, 2) := by decide +kernel
theorem dX2_solveForests_152 : decode cX2_solveForests 152 = .ok (.istore 8, 2) := by decide +kernel
theorem dX2_solveForests_154 : decode cX2_solveForests 154 = .ok (.iload 8, 2) := by decide +kernel
theorem dX2_solveForests_156 : decode cX2_solveForests 156 = .ok (.iload_n 2, 1) := by decide +kernel
theorem dX2_solveForests_157 : decode cX2_solveForests 157 = .ok (.if_icmp .gt 21, 3) := by decide +kernel
theorem dX2_solveForests_160 : decode cX2_solveForests 160 = .ok (.aload_n 0, 1) := by decide +kernel
theorem dX2_solveForests_161 : decode cX2_solveForests 161 = .ok (.iload 5, 2) := by decide +kernel
theorem dX2_solveForests_163 : decode cX2_solveForests 163 = .ok (.iload 6, 2) := by decide +kernel
theorem dX2_solveForests_165 : decode cX2_solveForests 165 = .ok (.iload 7, 2) := by decide +kernel
theorem dX2_solveForests_167 : decode cX2_solveForests 167 = .ok (.iload 8, 2) := by decide +kernel
theorem dX2_solveForests_169 : decode cX2_solveForests 169 = .ok (.invokevirtual 51, 3) := by decide +kernel
theorem dX2_solveForests_172 : decode cX2_solveForests 172 = .ok (.iinc 8 1, 3) := by decide +kernel
theorem dX2_solveForests_175 : decode cX2_solveForests 175 = .ok (.goto (-21), 3) := by decide +kernel
theorem dX2_solveForests_178 : decode cX2_solveForests 178 = .ok (.iinc 7 1, 3) := by decide +kernel
theorem dX2_solveForests_181 : decode cX2_solveForests 181 = .ok (.goto (-37), 3) := by decide +kernel
theorem dX2_solveForests_184 : decode cX2_solveForests 184 = .ok (.return_, 1) := by decide +kernel
theorem lk_X2_solveForests_f18 : Cond.fieldLink RX2 18 "TreeComparer$KeyrootTable" "layout" "LTreeComparer$Layout;" ∈ wsX2_solveForests := by decide +kernel
theorem hi_X2_solveForests_2 : ∀ w ∈ u_ws RX2 TX2 3, w ∈ wsX2_solveForests := by decide +kernel
theorem hi_X2_solveForests_3 : ∀ w ∈ u_ws RX3 TX3 4, w ∈ wsX2_solveForests := by decide +kernel
theorem hi_X2_solveForests_6 : ∀ w ∈ u_ws RX6 TX6 6, w ∈ wsX2_solveForests := by decide +kernel
theorem lk_X2_solveForests_f15 : Cond.fieldLink RX2 15 "TreeComparer$KeyrootTable" "ofForests" "[I" ∈ wsX2_solveForests := by decide +kernel
def wph_X2_solveForests_154 (p0 : Int) (p1 : Int) (x5 : Int) (x6 : Int) (x7 : Int) (x8 : Int) (M : Mem) (J45 : Int → Int → Int → Mem → Prop) (J97 : Int → Int → Int → Mem → Prop) (J144 : Int → Int → Int → Mem → Prop) (J154 : Int → Int → Int → Int → Mem → Prop) (Q : Mem → Prop) : Prop := inR x8 ∧ inR p1 ∧ ((p1 < x8 → J144 x5 x6 (x7 + 1) M) ∧ (¬ (p1 < x8) → wp_X2_solveCell M x5 x6 x7 x8 (fun M28 => J154 x5 x6 x7 (x8 + 1) M28)))
def wph_X2_solveForests_144 (p0 : Int) (p1 : Int) (x5 : Int) (x6 : Int) (x7 : Int) (M : Mem) (J45 : Int → Int → Int → Mem → Prop) (J97 : Int → Int → Int → Mem → Prop) (J144 : Int → Int → Int → Mem → Prop) (J154 : Int → Int → Int → Int → Mem → Prop) (Q : Mem → Prop) : Prop := inR x7 ∧ inR p0 ∧ ((p0 < x7 → Q M) ∧ (¬ (p0 < x7) → J154 x5 x6 x7 x6 M))
def wph_X2_solveForests_97 (p0 : Int) (p1 : Int) (x5 : Int) (x6 : Int) (x7 : Int) (M : Mem) (J45 : Int → Int → Int → Mem → Prop) (J97 : Int → Int → Int → Mem → Prop) (J144 : Int → Int → Int → Mem → Prop) (J154 : Int → Int → Int → Int → Mem → Prop) (Q : Mem → Prop) : Prop := inR x7 ∧ inR p1 ∧ ((p1 < x7 → J144 x5 x6 x5 M) ∧ (¬ (p1 < x7) → ((0 : Int) ≤ x7 - x6 ∧ x7 - x6 < 169) ∧ ((0 : Int) ≤ x7 ∧ x7 < 12) ∧ ((0 : Int) ≤ (x7 - x6) + 1 ∧ (x7 - x6) + 1 < 169) ∧ (∀ M19 : Mem, M19 = mset M 3 2 ((x7 - x6) + 1).toNat ((M 3 2 (x7 - x6).toNat) + (M 10 3 x7.toNat)) → J97 x5 x6 (x7 + 1) M19)))
def wph_X2_solveForests_45 (p0 : Int) (p1 : Int) (x5 : Int) (x6 : Int) (x7 : Int) (M : Mem) (J45 : Int → Int → Int → Mem → Prop) (J97 : Int → Int → Int → Mem → Prop) (J144 : Int → Int → Int → Mem → Prop) (J154 : Int → Int → Int → Int → Mem → Prop) (Q : Mem → Prop) : Prop := inR x7 ∧ inR p0 ∧ ((p0 < x7 → J97 x5 x6 x6 M) ∧ (¬ (p0 < x7) → ((0 : Int) ≤ (x7 - x5) * 13 ∧ (x7 - x5) * 13 < 169) ∧ ((0 : Int) ≤ x7 ∧ x7 < 12) ∧ ((0 : Int) ≤ ((x7 - x5) + 1) * 13 ∧ ((x7 - x5) + 1) * 13 < 169) ∧ (∀ M12 : Mem, M12 = mset M 3 2 (((x7 - x5) + 1) * 13).toNat ((M 3 2 ((x7 - x5) * 13).toNat) + (M 9 3 x7.toNat)) → J45 x5 x6 (x7 + 1) M12)))
def wpe_X2_solveForests (p0 : Int) (p1 : Int) (M : Mem) (J45 : Int → Int → Int → Mem → Prop) (J97 : Int → Int → Int → Mem → Prop) (J144 : Int → Int → Int → Mem → Prop) (J154 : Int → Int → Int → Int → Mem → Prop) (Q : Mem → Prop) : Prop := ((0 : Int) ≤ p0 ∧ p0 < 12) ∧ (∀ y2 : Int, y2 = (M 9 1 p0.toNat) → ((0 : Int) ≤ p1 ∧ p1 < 12) ∧ (∀ y4 : Int, y4 = (M 10 1 p1.toNat) → (∀ M5 : Mem, M5 = mset M 3 2 0 0 → J45 y2 y4 y2 M5)))
def wp_X2_solveForests (M : Mem) (p0 : Int) (p1 : Int) (Q : Mem → Prop) : Prop := ∃ (I45 : Nat → Int → Int → Int → Mem → Prop) (I97 : Nat → Int → Int → Int → Mem → Prop) (I144 : Nat → Int → Int → Int → Mem → Prop) (I154 : Nat → Int → Int → Int → Int → Mem → Prop), wpe_X2_solveForests p0 p1 M (fun (x5 : Int) (x6 : Int) (x7 : Int) (M1 : Mem) => ∃ n1 : Nat, I45 n1 x5 x6 x7 M1) (fun (x5 : Int) (x6 : Int) (x7 : Int) (M1 : Mem) => ∃ n1 : Nat, I97 n1 x5 x6 x7 M1) (fun (x5 : Int) (x6 : Int) (x7 : Int) (M1 : Mem) => ∃ n1 : Nat, I144 n1 x5 x6 x7 M1) (fun (x5 : Int) (x6 : Int) (x7 : Int) (x8 : Int) (M1 : Mem) => ∃ n1 : Nat, I154 n1 x5 x6 x7 x8 M1) Q ∧ (∀ (n : Nat) (x5 : Int) (x6 : Int) (x7 : Int) (M : Mem), I45 n x5 x6 x7 M → wph_X2_solveForests_45 p0 p1 x5 x6 x7 M (fun (x5 : Int) (x6 : Int) (x7 : Int) (M1 : Mem) => ∃ n1 : Nat, n1 < n ∧ I45 n1 x5 x6 x7 M1) (fun (x5 : Int) (x6 : Int) (x7 : Int) (M1 : Mem) => ∃ n1 : Nat, n1 < n ∧ I97 n1 x5 x6 x7 M1) (fun (x5 : Int) (x6 : Int) (x7 : Int) (M1 : Mem) => ∃ n1 : Nat, n1 < n ∧ I144 n1 x5 x6 x7 M1) (fun (x5 : Int) (x6 : Int) (x7 : Int) (x8 : Int) (M1 : Mem) => ∃ n1 : Nat, n1 < n ∧ I154 n1 x5 x6 x7 x8 M1) Q) ∧ (∀ (n : Nat) (x5 : Int) (x6 : Int) (x7 : Int) (M : Mem), I97 n x5 x6 x7 M → wph_X2_solveForests_97 p0 p1 x5 x6 x7 M (fun (x5 : Int) (x6 : Int) (x7 : Int) (M1 : Mem) => ∃ n1 : Nat, n1 < n ∧ I45 n1 x5 x6 x7 M1) (fun (x5 : Int) (x6 : Int) (x7 : Int) (M1 : Mem) => ∃ n1 : Nat, n1 < n ∧ I97 n1 x5 x6 x7 M1) (fun (x5 : Int) (x6 : Int) (x7 : Int) (M1 : Mem) => ∃ n1 : Nat, n1 < n ∧ I144 n1 x5 x6 x7 M1) (fun (x5 : Int) (x6 : Int) (x7 : Int) (x8 : Int) (M1 : Mem) => ∃ n1 : Nat, n1 < n ∧ I154 n1 x5 x6 x7 x8 M1) Q) ∧ (∀ (n : Nat) (x5 : Int) (x6 : Int) (x7 : Int) (M : Mem), I144 n x5 x6 x7 M → wph_X2_solveForests_144 p0 p1 x5 x6 x7 M (fun (x5 : Int) (x6 : Int) (x7 : Int) (M1 : Mem) => ∃ n1 : Nat, n1 < n ∧ I45 n1 x5 x6 x7 M1) (fun (x5 : Int) (x6 : Int) (x7 : Int) (M1 : Mem) => ∃ n1 : Nat, n1 < n ∧ I97 n1 x5 x6 x7 M1) (fun (x5 : Int) (x6 : Int) (x7 : Int) (M1 : Mem) => ∃ n1 : Nat, n1 < n ∧ I144 n1 x5 x6 x7 M1) (fun (x5 : Int) (x6 : Int) (x7 : Int) (x8 : Int) (M1 : Mem) => ∃ n1 : Nat, n1 < n ∧ I154 n1 x5 x6 x7 x8 M1) Q) ∧ (∀ (n : Nat) (x5 : Int) (x6 : Int) (x7 : Int) (x8 : Int) (M : Mem), I154 n x5 x6 x7 x8 M → wph_X2_solveForests_154 p0 p1 x5 x6 x7 x8 M (fun (x5 : Int) (x6 : Int) (x7 : Int) (M1 : Mem) => ∃ n1 : Nat, n1 < n ∧ I45 n1 x5 x6 x7 M1) (fun (x5 : Int) (x6 : Int) (x7 : Int) (M1 : Mem) => ∃ n1 : Nat, n1 < n ∧ I97 n1 x5 x6 x7 M1) (fun (x5 : Int) (x6 : Int) (x7 : Int) (M1 : Mem) => ∃ n1 : Nat, n1 < n ∧ I144 n1 x5 x6 x7 M1) (fun (x5 : Int) (x6 : Int) (x7 : Int) (x8 : Int) (M1 : Mem) => ∃ n1 : Nat, n1 < n ∧ I154 n1 x5 x6 x7 x8 M1) Q)
set_option maxHeartbeats 4000000 in
set_option maxRecDepth 100000 in
theorem wkh_X2_solveForests_154 {p : Program} {l : Launch} {e : Env} {s : State} {m : MethodId} {args : Array Value} {below : List Frame} {meth : Method} {c : Code} {D : va_G} {g : GT} {A : Nat → Prop} {a : Nat → Nat} {b : Nat → Nat → Nat} (X : vC p s m args meth c D g A RX2 wsX2_solveForests cX2_solveForests 9) (hr : meth.sig.returnType = none) {p0 : Int} {p1 : Int} {x5 : Int} {x6 : Int} {x7 : Int} {x8 : Int} {M : Mem} {J45 : Int → Int → Int → Mem → Prop} {J97 : Int → Int → Int → Mem → Prop} {J144 : Int → Int → Int → Mem → Prop} {J154 : Int → Int → Int → Int → Mem → Prop} {Q : Mem → Prop} (hJ45 : ∀ (x5 : Int) (x6 : Int) (x7 : Int) (M : Mem), J45 x5 x6 x7 M → vV p l e ({ frames := 2, cells := 0, slots := 0, locals := 70 } : Room) s m args below meth c D g A a b 9 0 0 (MQ below (cQv D g A a b Q) args s 0 0 A) M [(0, .ref (a 3)), (1, iv p0), (2, iv p1), (3, .ref (a 9)), (4, .ref (a 10)), (5, iv x5), (6, iv x6), (7, iv x7)] 45 []) (hJ97 : ∀ (x5 : Int) (x6 : Int) (x7 : Int) (M : Mem), J97 x5 x6 x7 M → vV p l e ({ frames := 2, cells := 0, slots := 0, locals := 70 } : Room) s m args below meth c D g A a b 9 0 0 (MQ below (cQv D g A a b Q) args s 0 0 A) M [(0, .ref (a 3)), (1, iv p0), (2, iv p1), (4, .ref (a 10)), (5, iv x5), (6, iv x6), (7, iv x7)] 97 []) (hJ144 : ∀ (x5 : Int) (x6 : Int) (x7 : Int) (M : Mem), J144 x5 x6 x7 M → vV p l e ({ frames := 2, cells := 0, slots := 0, locals := 70 } : Room) s m args below meth c D g A a b 9 0 0 (MQ below (cQv D g A a b Q) args s 0 0 A) M [(0, .ref (a 3)), (1, iv p0), (2, iv p1), (5, iv x5), (6, iv x6), (7, iv x7)] 144 []) (hJ154 : ∀ (x5 : Int) (x6 : Int) (x7 : Int) (x8 : Int) (M : Mem), J154 x5 x6 x7 x8 M → vV p l e ({ frames := 2, cells := 0, slots := 0, locals := 70 } : Room) s m args below meth c D g A a b 9 0 0 (MQ below (cQv D g A a b Q) args s 0 0 A) M [(0, .ref (a 3)), (1, iv p0), (2, iv p1), (5, iv x5), (6, iv x6), (7, iv x7), (8, iv x8)] 154 []) (hw : wph_X2_solveForests_154 p0 p1 x5 x6 x7 x8 M J45 J97 J144 J154 Q) : vV p l e ({ frames := 2, cells := 0, slots := 0, locals := 70 } : Room) s m args below meth c D g A a b 9 0 0 (MQ below (cQv D g A a b Q) args s 0 0 A) M [(0, .ref (a 3)), (1, iv p0), (2, iv p1), (5, iv x5), (6, iv x6), (7, iv x7), (8, iv x8)] 154 [] := by
  unfold wph_X2_solveForests_154 at hw
  refine V_iload X dX2_solveForests_154 (q := 6) rfl ?_
  refine V_iload_n X dX2_solveForests_156 rfl (q := 2) rfl ?_
  obtain ⟨h24, h25, hw⟩ := hw
  refine V_icmp_gt (tgt := 178) X h24 h25 dX2_solveForests_157 (by decide) (fun q26 => ?_) (fun q26 => ?_)
  · have hw := hw.1 q26
    refine V_iinc (lv1 := [(0, .ref (a 3)), (1, iv p0), (2, iv p1), (5, iv x5), (6, iv x6), (7, iv (x7 + 1)), (8, iv x8)]) X [1, 2, 3, 4, 5, 0, 6] dX2_solveForests_178 (q := 5) rfl (by decide) rfl ?_
    refine V_goto (tgt := 144) X dX2_solveForests_181 (by decide) ?_
    refine V_sub (lv1 := [(0, .ref (a 3)), (1, iv p0), (2, iv p1), (5, iv x5), (6, iv x6), (7, iv (x7 + 1))]) [0, 1, 2, 3, 4, 5] rfl ?_
    exact hJ144 _ _ _ _ hw
  · have hw := hw.2 q26
    refine V_aload_n X dX2_solveForests_160 rfl (q := 0) rfl ?_
    refine V_iload X dX2_solveForests_161 (q := 3) rfl ?_
    refine V_iload X dX2_solveForests_163 (q := 4) rfl ?_
    refine V_iload X dX2_solveForests_165 (q := 5) rfl ?_
    refine V_iload X dX2_solveForests_167 (q := 6) rfl ?_
    refine V_callV_v X _ gO_3 rfl (As := [iv x5, iv x6, iv x7, iv x8]) (st := []) (c_X2_solveCell l hw) (cwV 4 X.2.2.2.1 gX2_solveForests_X2_solveCell rfl rfl rfl (by decide +kernel) ⟨Nat.le_of_ble_eq_true rfl, Nat.le_of_ble_eq_true rfl⟩) rfl (Nat.le_of_ble_eq_true rfl) ⟨Nat.le_of_ble_eq_true rfl, Nat.le_of_ble_eq_true rfl⟩ rfl dX2_solveForests_169 (fun M28 hw => ?_)
    refine V_iinc (lv1 := [(0, .ref (a 3)), (1, iv p0), (2, iv p1), (5, iv x5), (6, iv x6), (7, iv x7), (8, iv (x8 + 1))]) X [1, 2, 3, 4, 5, 6, 0] dX2_solveForests_172 (q := 6) rfl (by decide) rfl ?_
    refine V_goto (tgt := 154) X dX2_solveForests_175 (by decide) ?_
    exact hJ154 _ _ _ _ _ hw
set_option maxHeartbeats 4000000 in
set_option maxRecDepth 100000 in
theorem wkh_X2_solveForests_144 {p : Program} {l : Launch} {e : Env} {s : State} {m : MethodId} {args : Array Value} {below : List Frame} {meth : Method} {c : Code} {D : va_G} {g : GT} {A : Nat → Prop} {a : Nat → Nat} {b : Nat → Nat → Nat} (X : vC p s m args meth c D g A RX2 wsX2_solveForests cX2_solveForests 9) (hr : meth.sig.returnType = none) {p0 : Int} {p1 : Int} {x5 : Int} {x6 : Int} {x7 : Int} {M : Mem} {J45 : Int → Int → Int → Mem → Prop} {J97 : Int → Int → Int → Mem → Prop} {J144 : Int → Int → Int → Mem → Prop} {J154 : Int → Int → Int → Int → Mem → Prop} {Q : Mem → Prop} (hJ45 : ∀ (x5 : Int) (x6 : Int) (x7 : Int) (M : Mem), J45 x5 x6 x7 M → vV p l e ({ frames := 2, cells := 0, slots := 0, locals := 70 } : Room) s m args below meth c D g A a b 9 0 0 (MQ below (cQv D g A a b Q) args s 0 0 A) M [(0, .ref (a 3)), (1, iv p0), (2, iv p1), (3, .ref (a 9)), (4, .ref (a 10)), (5, iv x5), (6, iv x6), (7, iv x7)] 45 []) (hJ97 : ∀ (x5 : Int) (x6 : Int) (x7 : Int) (M : Mem), J97 x5 x6 x7 M → vV p l e ({ frames := 2, cells := 0, slots := 0, locals := 70 } : Room) s m args below meth c D g A a b 9 0 0 (MQ below (cQv D g A a b Q) args s 0 0 A) M [(0, .ref (a 3)), (1, iv p0), (2, iv p1), (4, .ref (a 10)), (5, iv x5), (6, iv x6), (7, iv x7)] 97 []) (hJ144 : ∀ (x5 : Int) (x6 : Int) (x7 : Int) (M : Mem), J144 x5 x6 x7 M → vV p l e ({ frames := 2, cells := 0, slots := 0, locals := 70 } : Room) s m args below meth c D g A a b 9 0 0 (MQ below (cQv D g A a b Q) args s 0 0 A) M [(0, .ref (a 3)), (1, iv p0), (2, iv p1), (5, iv x5), (6, iv x6), (7, iv x7)] 144 []) (hJ154 : ∀ (x5 : Int) (x6 : Int) (x7 : Int) (x8 : Int) (M : Mem), J154 x5 x6 x7 x8 M → vV p l e ({ frames := 2, cells := 0, slots := 0, locals := 70 } : Room) s m args below meth c D g A a b 9 0 0 (MQ below (cQv D g A a b Q) args s 0 0 A) M [(0, .ref (a 3)), (1, iv p0), (2, iv p1), (5, iv x5), (6, iv x6), (7, iv x7), (8, iv x8)] 154 []) (hw : wph_X2_solveForests_144 p0 p1 x5 x6 x7 M J45 J97 J144 J154 Q) : vV p l e ({ frames := 2, cells := 0, slots := 0, locals := 70 } : Room) s m args below meth c D g A a b 9 0 0 (MQ below (cQv D g A a b Q) args s 0 0 A) M [(0, .ref (a 3)), (1, iv p0), (2, iv p1), (5, iv x5), (6, iv x6), (7, iv x7)] 144 [] := by
  unfold wph_X2_solveForests_144 at hw
  refine V_iload X dX2_solveForests_144 (q := 5) rfl ?_
  refine V_iload_n X dX2_solveForests_146 rfl (q := 1) rfl ?_
  obtain ⟨h21, h22, hw⟩ := hw
  refine V_icmp_gt (tgt := 184) X h21 h22 dX2_solveForests_147 (by decide) (fun q23 => ?_) (fun q23 => ?_)
  · have hw := hw.1 q23
    exact V_vret X hr hw dX2_solveForests_184
  · have hw := hw.2 q23
    refine V_iload X dX2_solveForests_150 (q := 4) rfl ?_
    refine V_istore (lv1 := [(0, .ref (a 3)), (1, iv p0), (2, iv p1), (5, iv x5), (6, iv x6), (7, iv x7), (8, iv x6)]) X [1, 2, 3, 4, 5, 6, 0] dX2_solveForests_152 (by decide) rfl ?_
    exact hJ154 _ _ _ _ _ hw
set_option maxHeartbeats 4000000 in
set_option maxRecDepth 100000 in
theorem wkh_X2_solveForests_97 {p : Program} {l : Launch} {e : Env} {s : State} {m : MethodId} {args : Array Value} {below : List Frame} {meth : Method} {c : Code} {D : va_G} {g : GT} {A : Nat → Prop} {a : Nat → Nat} {b : Nat → Nat → Nat} (X : vC p s m args meth c D g A RX2 wsX2_solveForests cX2_solveForests 9) (hr : meth.sig.returnType = none) {p0 : Int} {p1 : Int} {x5 : Int} {x6 : Int} {x7 : Int} {M : Mem} {J45 : Int → Int → Int → Mem → Prop} {J97 : Int → Int → Int → Mem → Prop} {J144 : Int → Int → Int → Mem → Prop} {J154 : Int → Int → Int → Int → Mem → Prop} {Q : Mem → Prop} (hJ45 : ∀ (x5 : Int) (x6 : Int) (x7 : Int) (M : Mem), J45 x5 x6 x7 M → vV p l e ({ frames := 2, cells := 0, slots := 0, locals := 70 } : Room) s m args below meth c D g A a b 9 0 0 (MQ below (cQv D g A a b Q) args s 0 0 A) M [(0, .ref (a 3)), (1, iv p0), (2, iv p1), (3, .ref (a 9)), (4, .ref (a 10)), (5, iv x5), (6, iv x6), (7, iv x7)] 45 []) (hJ97 : ∀ (x5 : Int) (x6 : Int) (x7 : Int) (M : Mem), J97 x5 x6 x7 M → vV p l e ({ frames := 2, cells := 0, slots := 0, locals := 70 } : Room) s m args below meth c D g A a b 9 0 0 (MQ below (cQv D g A a b Q) args s 0 0 A) M [(0, .ref (a 3)), (1, iv p0), (2, iv p1), (4, .ref (a 10)), (5, iv x5), (6, iv x6), (7, iv x7)] 97 []) (hJ144 : ∀ (x5 : Int) (x6 : Int) (x7 : Int) (M : Mem), J144 x5 x6 x7 M → vV p l e ({ frames := 2, cells := 0, slots := 0, locals := 70 } : Room) s m args below meth c D g A a b 9 0 0 (MQ below (cQv D g A a b Q) args s 0 0 A) M [(0, .ref (a 3)), (1, iv p0), (2, iv p1), (5, iv x5), (6, iv x6), (7, iv x7)] 144 []) (hJ154 : ∀ (x5 : Int) (x6 : Int) (x7 : Int) (x8 : Int) (M : Mem), J154 x5 x6 x7 x8 M → vV p l e ({ frames := 2, cells := 0, slots := 0, locals := 70 } : Room) s m args below meth c D g A a b 9 0 0 (MQ below (cQv D g A a b Q) args s 0 0 A) M [(0, .ref (a 3)), (1, iv p0), (2, iv p1), (5, iv x5), (6, iv x6), (7, iv x7), (8, iv x8)] 154 []) (hw : wph_X2_solveForests_97 p0 p1 x5 x6 x7 M J45 J97 J144 J154 Q) : vV p l e ({ frames := 2, cells := 0, slots := 0, locals := 70 } : Room) s m args below meth c D g A a b 9 0 0 (MQ below (cQv D g A a b Q) args s 0 0 A) M [(0, .ref (a 3)), (1, iv p0), (2, iv p1), (4, .ref (a 10)), (5, iv x5), (6, iv x6), (7, iv x7)] 97 [] := by
  unfold wph_X2_solveForests_97 at hw
  refine V_iload X dX2_solveForests_97 (q := 6) rfl ?_
  refine V_iload_n X dX2_solveForests_99 rfl (q := 2) rfl ?_
  obtain ⟨h14, h15, hw⟩ := hw
  refine V_icmp_gt (tgt := 140) X h14 h15 dX2_solveForests_100 (by decide) (fun q16 => ?_) (fun q16 => ?_)
  · have hw := hw.1 q16
    refine V_iload X dX2_solveForests_140 (q := 4) rfl ?_
    refine V_istore (lv1 := [(0, .ref (a 3)), (1, iv p0), (2, iv p1), (4, .ref (a 10)), (5, iv x5), (6, iv x6), (7, iv x5)]) X [1, 2, 3, 4, 5, 6, 0] dX2_solveForests_142 (by decide) rfl ?_
    refine V_sub (lv1 := [(0, .ref (a 3)), (1, iv p0), (2, iv p1), (5, iv x5), (6, iv x6), (7, iv x5)]) [0, 1, 2, 4, 5, 6] rfl ?_
    exact hJ144 _ _ _ _ hw
  · have hw := hw.2 q16
    refine V_aload_n X dX2_solveForests_103 rfl (q := 0) rfl ?_
    refine V_get (C := RX2) (T := TX2) (N := 3) (ci := 2) X hi_X2_solveForests_2 gO_3 rfl 2 (by decide) lk_X2_solveForests_f15 (fun _ h9 => h9) rfl dX2_solveForests_104 ?_
    refine V_iload X dX2_solveForests_107 (q := 6) rfl ?_
    refine V_iload X dX2_solveForests_109 (q := 5) rfl ?_
    refine V_isub X dX2_solveForests_111 ?_
    refine V_iconst X dX2_solveForests_112 ?_
    refine V_iadd X dX2_solveForests_113 ?_
    refine V_aload_n X dX2_solveForests_114 rfl (q := 0) rfl ?_
    refine V_get (C := RX2) (T := TX2) (N := 3) (ci := 2) X hi_X2_solveForests_2 gO_3 rfl 2 (by decide) lk_X2_solveForests_f15 (fun _ h9 => h9) rfl dX2_solveForests_115 ?_
    refine V_iload X dX2_solveForests_118 (q := 6) rfl ?_
    refine V_iload X dX2_solveForests_120 (q := 5) rfl ?_
    refine V_isub X dX2_solveForests_122 ?_
    obtain ⟨h17, hw⟩ := hw
    refine V_iald X (gA_3_2) h17 (by decide) dX2_solveForests_123 ?_
    refine V_aload X dX2_solveForests_124 (q := 3) rfl ?_
    refine V_getN (C := RX6) (T := TX6) (N := 6) (ci := 6) X hi_X2_solveForests_6 gO_10 rfl 3 (by decide) (List.mem_of_getElem? (i := 50) rfl) (fun _ h9 => h9) rfl dX2_solveForests_126 ?_
    refine V_iload X dX2_solveForests_129 (q := 6) rfl ?_
    obtain ⟨h18, hw⟩ := hw
    refine V_iald X (gA_10_3) h18 (by decide) dX2_solveForests_131 ?_
    refine V_iadd X dX2_solveForests_132 ?_
    obtain ⟨h20, hw⟩ := hw
    refine V_iast X (gA_3_2) (sA_3_2) h20 (by decide) dX2_solveForests_133 (fun M19 eM19 => ?_)
    have hw := hw M19 eM19
    refine V_iinc (lv1 := [(0, .ref (a 3)), (1, iv p0), (2, iv p1), (4, .ref (a 10)), (5, iv x5), (6, iv x6), (7, iv (x7 + 1))]) X [1, 2, 3, 4, 5, 6, 0] dX2_solveForests_134 (q := 6) rfl (by decide) rfl ?_
    refine V_goto (tgt := 97) X dX2_solveForests_137 (by decide) ?_
    exact hJ97 _ _ _ _ hw
set_option maxHeartbeats 4000000 in
set_option maxRecDepth 100000 in
theorem wkh_X2_solveForests_45 {p : Program} {l : Launch} {e : Env} {s : State} {m : MethodId} {args : Array Value} {below : List Frame} {meth : Method} {c : Code} {D : va_G} {g : GT} {A : Nat → Prop} {a : Nat → Nat} {b : Nat → Nat → Nat} (X : vC p s m args meth c D g A RX2 wsX2_solveForests cX2_solveForests 9) (hr : meth.sig.returnType = none) {p0 : Int} {p1 : Int} {x5 : Int} {x6 : Int} {x7 : Int} {M : Mem} {J45 : Int → Int → Int → Mem → Prop} {J97 : Int → Int → Int → Mem → Prop} {J144 : Int → Int → Int → Mem → Prop} {J154 : Int → Int → Int → Int → Mem → Prop} {Q : Mem → Prop} (hJ45 : ∀ (x5 : Int) (x6 : Int) (x7 : Int) (M : Mem), J45 x5 x6 x7 M → vV p l e ({ frames := 2, cells := 0, slots := 0, locals := 70 } : Room) s m args below meth c D g A a b 9 0 0 (MQ below (cQv D g A a b Q) args s 0 0 A) M [(0, .ref (a 3)), (1, iv p0), (2, iv p1), (3, .ref (a 9)), (4, .ref (a 10)), (5, iv x5), (6, iv x6), (7, iv x7)] 45 []) (hJ97 : ∀ (x5 : Int) (x6 : Int) (x7 : Int) (M : Mem), J97 x5 x6 x7 M → vV p l e ({ frames := 2, cells := 0, slots := 0, locals := 70 } : Room) s m args below meth c D g A a b 9 0 0 (MQ below (cQv D g A a b Q) args s 0 0 A) M [(0, .ref (a 3)), (1, iv p0), (2, iv p1), (4, .ref (a 10)), (5, iv x5), (6, iv x6), (7, iv x7)] 97 []) (hJ144 : ∀ (x5 : Int) (x6 : Int) (x7 : Int) (M : Mem), J144 x5 x6 x7 M → vV p l e ({ frames := 2, cells := 0, slots := 0, locals := 70 } : Room) s m args below meth c D g A a b 9 0 0 (MQ below (cQv D g A a b Q) args s 0 0 A) M [(0, .ref (a 3)), (1, iv p0), (2, iv p1), (5, iv x5), (6, iv x6), (7, iv x7)] 144 []) (hJ154 : ∀ (x5 : Int) (x6 : Int) (x7 : Int) (x8 : Int) (M : Mem), J154 x5 x6 x7 x8 M → vV p l e ({ frames := 2, cells := 0, slots := 0, locals := 70 } : Room) s m args below meth c D g A a b 9 0 0 (MQ below (cQv D g A a b Q) args s 0 0 A) M [(0, .ref (a 3)), (1, iv p0), (2, iv p1), (5, iv x5), (6, iv x6), (7, iv x7), (8, iv x8)] 154 []) (hw : wph_X2_solveForests_45 p0 p1 x5 x6 x7 M J45 J97 J144 J154 Q) : vV p l e ({ frames := 2, cells := 0, slots := 0, locals := 70 } : Room) s m args below meth c D g A a b 9 0 0 (MQ below (cQv D g A a b Q) args s 0 0 A) M [(0, .ref (a 3)), (1, iv p0), (2, iv p1), (3, .ref (a 9)), (4, .ref (a 10)), (5, iv x5), (6, iv x6), (7, iv x7)] 45 [] := by
  unfold wph_X2_solveForests_45 at hw
  refine V_iload X dX2_solveForests_45 (q := 7) rfl ?_
  refine V_iload_n X dX2_solveForests_47 rfl (q := 1) rfl ?_
  obtain ⟨h7, h8, hw⟩ := hw
  refine V_icmp_gt (tgt := 93) X h7 h8 dX2_solveForests_48 (by decide) (fun q9 => ?_) (fun q9 => ?_)
  · have hw := hw.1 q9
    refine V_iload X dX2_solveForests_93 (q := 6) rfl ?_
    refine V_istore (lv1 := [(0, .ref (a 3)), (1, iv p0), (2, iv p1), (3, .ref (a 9)), (4, .ref (a 10)), (5, iv x5), (6, iv x6), (7, iv x6)]) X [1, 2, 3, 4, 5, 6, 7, 0] dX2_solveForests_95 (by decide) rfl ?_
    refine V_sub (lv1 := [(0, .ref (a 3)), (1, iv p0), (2, iv p1), (4, .ref (a 10)), (5, iv x5), (6, iv x6), (7, iv x6)]) [0, 1, 2, 4, 5, 6, 7] rfl ?_
    exact hJ97 _ _ _ _ hw
  · have hw := hw.2 q9
    refine V_aload_n X dX2_solveForests_51 rfl (q := 0) rfl ?_
    refine V_get (C := RX2) (T := TX2) (N := 3) (ci := 2) X hi_X2_solveForests_2 gO_3 rfl 2 (by decide) lk_X2_solveForests_f15 (fun _ h9 => h9) rfl dX2_solveForests_52 ?_
    refine V_iload X dX2_solveForests_55 (q := 7) rfl ?_
    refine V_iload X dX2_solveForests_57 (q := 5) rfl ?_
    refine V_isub X dX2_solveForests_59 ?_
    refine V_iconst X dX2_solveForests_60 ?_
    refine V_iadd X dX2_solveForests_61 ?_
    refine V_bipush X dX2_solveForests_62 rfl ?_
    refine V_imul X dX2_solveForests_64 ?_
    refine V_aload_n X dX2_solveForests_65 rfl (q := 0) rfl ?_
    refine V_get (C := RX2) (T := TX2) (N := 3) (ci := 2) X hi_X2_solveForests_2 gO_3 rfl 2 (by decide) lk_X2_solveForests_f15 (fun _ h9 => h9) rfl dX2_solveForests_66 ?_
    refine V_iload X dX2_solveForests_69 (q := 7) rfl ?_
    refine V_iload X dX2_solveForests_71 (q := 5) rfl ?_
    refine V_isub X dX2_solveForests_73 ?_
    refine V_bipush X dX2_solveForests_74 rfl ?_
    refine V_imul X dX2_solveForests_76 ?_
    obtain ⟨h10, hw⟩ := hw
    refine V_iald X (gA_3_2) h10 (by decide) dX2_solveForests_77 ?_
    refine V_aload_n X dX2_solveForests_78 rfl (q := 3) rfl ?_
    refine V_getN (C := RX6) (T := TX6) (N := 6) (ci := 6) X hi_X2_solveForests_6 gO_9 rfl 3 (by decide) (List.mem_of_getElem? (i := 50) rfl) (fun _ h9 => h9) rfl dX2_solveForests_79 ?_
    refine V_iload X dX2_solveForests_82 (q := 7) rfl ?_
    obtain ⟨h11, hw⟩ := hw
    refine V_iald X (gA_9_3) h11 (by decide) dX2_solveForests_84 ?_
    refine V_iadd X dX2_solveForests_85 ?_
    obtain ⟨h13, hw⟩ := hw
    refine V_iast X (gA_3_2) (sA_3_2) h13 (by decide) dX2_solveForests_86 (fun M12 eM12 => ?_)
    have hw := hw M12 eM12
    refine V_iinc (lv1 := [(0, .ref (a 3)), (1, iv p0), (2, iv p1), (3, .ref (a 9)), (4, .ref (a 10)), (5, iv x5), (6, iv x6), (7, iv (x7 + 1))]) X [1, 2, 3, 4, 5, 6, 7, 0] dX2_solveForests_87 (q := 7) rfl (by decide) rfl ?_
    refine V_goto (tgt := 45) X dX2_solveForests_90 (by decide) ?_
    exact hJ45 _ _ _ _ hw
set_option maxHeartbeats 4000000 in
set_option maxRecDepth 100000 in
theorem wke_X2_solveForests {p : Program} {l : Launch} {e : Env} {s : State} {m : MethodId} {args : Array Value} {below : List Frame} {meth : Method} {c : Code} {D : va_G} {g : GT} {A : Nat → Prop} {a : Nat → Nat} {b : Nat → Nat → Nat} (X : vC p s m args meth c D g A RX2 wsX2_solveForests cX2_solveForests 9) (hr : meth.sig.returnType = none) {p0 : Int} {p1 : Int} {M : Mem} {J45 : Int → Int → Int → Mem → Prop} {J97 : Int → Int → Int → Mem → Prop} {J144 : Int → Int → Int → Mem → Prop} {J154 : Int → Int → Int → Int → Mem → Prop} {Q : Mem → Prop} (hJ45 : ∀ (x5 : Int) (x6 : Int) (x7 : Int) (M : Mem), J45 x5 x6 x7 M → vV p l e ({ frames := 2, cells := 0, slots := 0, locals := 70 } : Room) s m args below meth c D g A a b 9 0 0 (MQ below (cQv D g A a b Q) args s 0 0 A) M [(0, .ref (a 3)), (1, iv p0), (2, iv p1), (3, .ref (a 9)), (4, .ref (a 10)), (5, iv x5), (6, iv x6), (7, iv x7)] 45 []) (hJ97 : ∀ (x5 : Int) (x6 : Int) (x7 : Int) (M : Mem), J97 x5 x6 x7 M → vV p l e ({ frames := 2, cells := 0, slots := 0, locals := 70 } : Room) s m args below meth c D g A a b 9 0 0 (MQ below (cQv D g A a b Q) args s 0 0 A) M [(0, .ref (a 3)), (1, iv p0), (2, iv p1), (4, .ref (a 10)), (5, iv x5), (6, iv x6), (7, iv x7)] 97 []) (hJ144 : ∀ (x5 : Int) (x6 : Int) (x7 : Int) (M : Mem), J144 x5 x6 x7 M → vV p l e ({ frames := 2, cells := 0, slots := 0, locals := 70 } : Room) s m args below meth c D g A a b 9 0 0 (MQ below (cQv D g A a b Q) args s 0 0 A) M [(0, .ref (a 3)), (1, iv p0), (2, iv p1), (5, iv x5), (6, iv x6), (7, iv x7)] 144 []) (hJ154 : ∀ (x5 : Int) (x6 : Int) (x7 : Int) (x8 : Int) (M : Mem), J154 x5 x6 x7 x8 M → vV p l e ({ frames := 2, cells := 0, slots := 0, locals := 70 } : Room) s m args below meth c D g A a b 9 0 0 (MQ below (cQv D g A a b Q) args s 0 0 A) M [(0, .ref (a 3)), (1, iv p0), (2, iv p1), (5, iv x5), (6, iv x6), (7, iv x7), (8, iv x8)] 154 []) (hw : wpe_X2_solveForests p0 p1 M J45 J97 J144 J154 Q) : vV p l e ({ frames := 2, cells := 0, slots := 0, locals := 70 } : Room) s m args below meth c D g A a b 9 0 0 (MQ below (cQv D g A a b Q) args s 0 0 A) M [(0, .ref (a 3)), (1, iv p0), (2, iv p1)] 0 [] := by
  unfold wpe_X2_solveForests at hw
  refine V_aload_n X dX2_solveForests_0 rfl (q := 0) rfl ?_
  refine V_get (C := RX2) (T := TX2) (N := 3) (ci := 2) X hi_X2_solveForests_2 gO_3 rfl 0 (by decide) lk_X2_solveForests_f18 (fun _ h9 => h9) rfl dX2_solveForests_1 ?_
  refine V_getN (C := RX3) (T := TX3) (N := 4) (ci := 3) X hi_X2_solveForests_3 gO_2 rfl 1 (by decide) (List.mem_of_getElem? (i := 57) rfl) (fun _ h9 => h9) rfl dX2_solveForests_4 ?_
  refine V_astore_n (lv1 := [(0, .ref (a 3)), (1, iv p0), (2, iv p1), (3, .ref (a 9))]) X [1, 2, 3, 0] dX2_solveForests_7 rfl (by decide) rfl ?_
  refine V_aload_n X dX2_solveForests_8 rfl (q := 0) rfl ?_
  refine V_get (C := RX2) (T := TX2) (N := 3) (ci := 2) X hi_X2_solveForests_2 gO_3 rfl 0 (by decide) lk_X2_solveForests_f18 (fun _ h9 => h9) rfl dX2_solveForests_9 ?_
  refine V_getN (C := RX3) (T := TX3) (N := 4) (ci := 3) X hi_X2_solveForests_3 gO_2 rfl 2 (by decide) (List.mem_of_getElem? (i := 62) rfl) (fun _ h9 => h9) rfl dX2_solveForests_12 ?_
  refine V_astore (lv1 := [(0, .ref (a 3)), (1, iv p0), (2, iv p1), (3, .ref (a 9)), (4, .ref (a 10))]) X [1, 2, 3, 4, 0] dX2_solveForests_15 (by decide) rfl ?_
  refine V_aload_n X dX2_solveForests_17 rfl (q := 3) rfl ?_
  refine V_getN (C := RX6) (T := TX6) (N := 6) (ci := 6) X hi_X2_solveForests_6 gO_9 rfl 1 (by decide) (List.mem_of_getElem? (i := 45) rfl) (fun _ h9 => h9) rfl dX2_solveForests_18 ?_
  refine V_iload_n X dX2_solveForests_21 rfl (q := 1) rfl ?_
  obtain ⟨h1, hw⟩ := hw
  refine V_iald X (gA_9_1) h1 (by decide) dX2_solveForests_22 ?_
  refine V_top (fun y2 ey2 => ?_)
  have hw := hw y2 ey2
  refine V_istore (lv1 := [(0, .ref (a 3)), (1, iv p0), (2, iv p1), (3, .ref (a 9)), (4, .ref (a 10)), (5, iv y2)]) X [1, 2, 3, 4, 5, 0] dX2_solveForests_23 (by decide) rfl ?_
  refine V_aload X dX2_solveForests_25 (q := 4) rfl ?_
  refine V_getN (C := RX6) (T := TX6) (N := 6) (ci := 6) X hi_X2_solveForests_6 gO_10 rfl 1 (by decide) (List.mem_of_getElem? (i := 45) rfl) (fun _ h9 => h9) rfl dX2_solveForests_27 ?_
  refine V_iload_n X dX2_solveForests_30 rfl (q := 2) rfl ?_
  obtain ⟨h3, hw⟩ := hw
  refine V_iald X (gA_10_1) h3 (by decide) dX2_solveForests_31 ?_
  refine V_top (fun y4 ey4 => ?_)
  have hw := hw y4 ey4
  refine V_istore (lv1 := [(0, .ref (a 3)), (1, iv p0), (2, iv p1), (3, .ref (a 9)), (4, .ref (a 10)), (5, iv y2), (6, iv y4)]) X [1, 2, 3, 4, 5, 6, 0] dX2_solveForests_32 (by decide) rfl ?_
  refine V_aload_n X dX2_solveForests_34 rfl (q := 0) rfl ?_
  refine V_get (C := RX2) (T := TX2) (N := 3) (ci := 2) X hi_X2_solveForests_2 gO_3 rfl 2 (by decide) lk_X2_solveForests_f15 (fun _ h9 => h9) rfl dX2_solveForests_35 ?_
  refine V_iconst X dX2_solveForests_38 ?_
  refine V_iconst X dX2_solveForests_39 ?_
  refine V_iast X (gA_3_2) (sA_3_2) ⟨by decide, by decide⟩ (by decide) dX2_solveForests_40 (fun M5 eM5 => ?_)
  have hw := hw M5 eM5
  refine V_iload X dX2_solveForests_41 (q := 5) rfl ?_
  refine V_istore (lv1 := [(0, .ref (a 3)), (1, iv p0), (2, iv p1), (3, .ref (a 9)), (4, .ref (a 10)), (5, iv y2), (6, iv y4), (7, iv y2)]) X [1, 2, 3, 4, 5, 6, 7, 0] dX2_solveForests_43 (by decide) rfl ?_
  exact hJ45 _ _ _ _ hw
set_option maxHeartbeats 4000000 in
set_option maxRecDepth 100000 in
theorem c_X2_solveForests (l : Launch) {p0 : Int} {p1 : Int} {D : va_G} {g : GT} {A : Nat → Prop} {a : Nat → Nat} {b : Nat → Nat → Nat} {M : Mem} {Q : Mem → Prop} (hw : wp_X2_solveForests M p0 p1 Q) : Met l yX2_solveForests wsX2_solveForests ({ frames := 2, cells := 0, slots := 0, locals := 70 } : Room) (cPc D g A a b M [.ref (a 3), iv p0, iv p1]) (cQv D g A a b Q) 0 0 A := by
  refine Met.ofW (cc := cX2_solveForests) (maxL := 9) (ret := none) (by decide) rfl ?_
  intro p e s m args below meth c s₁ B hml hv
  obtain ⟨rfl, hP, hD, hG⟩ := hv
  have X : vC p s m _ meth c D g A RX2 wsX2_solveForests cX2_solveForests 9 := ⟨B.exec, B.bytes, findClass_of_methodNamed B.named, atoms_spec (ws := wsX2_solveForests) B.pre, hG, hml, B.notSynchronized⟩
  have hr := B.returns
  have hl := lv_entry ([.ref (a 3), iv p0, iv p1]) (n := 9) (Nat.le_of_ble_eq_true rfl)
  rw [lg_entry_eq]
  generalize (lg_sl ([.ref (a 3), iv p0, iv p1]) ++ List.replicate (9 - (lg_sl ([.ref (a 3), iv p0, iv p1])).length) Slot.unset).toArray = ls at hl ⊢
  have hl : lv_has ls 9 [(0, .ref (a 3)), (1, iv p0), (2, iv p1)] := hl
  obtain ⟨I45, I97, I144, I154, hw, hI45, hI97, hI144, hI154⟩ := hw
  have K : ∀ n : Nat, (∀ (x5 : Int) (x6 : Int) (x7 : Int) (M : Mem), I45 n x5 x6 x7 M → vV p l e ({ frames := 2, cells := 0, slots := 0, locals := 70 } : Room) s m ([.ref (a 3), iv p0, iv p1] : List Value).toArray below meth c D g A a b 9 0 0 (MQ below (cQv D g A a b Q) ([.ref (a 3), iv p0, iv p1] : List Value).toArray s 0 0 A) M [(0, .ref (a 3)), (1, iv p0), (2, iv p1), (3, .ref (a 9)), (4, .ref (a 10)), (5, iv x5), (6, iv x6), (7, iv x7)] 45 []) ∧ (∀ (x5 : Int) (x6 : Int) (x7 : Int) (M : Mem), I97 n x5 x6 x7 M → vV p l e ({ frames := 2, cells := 0, slots := 0, locals := 70 } : Room) s m ([.ref (a 3), iv p0, iv p1] : List Value).toArray below meth c D g A a b 9 0 0 (MQ below (cQv D g A a b Q) ([.ref (a 3), iv p0, iv p1] : List Value).toArray s 0 0 A) M [(0, .ref (a 3)), (1, iv p0), (2, iv p1), (4, .ref (a 10)), (5, iv x5), (6, iv x6), (7, iv x7)] 97 []) ∧ (∀ (x5 : Int) (x6 : Int) (x7 : Int) (M : Mem), I144 n x5 x6 x7 M → vV p l e ({ frames := 2, cells := 0, slots := 0, locals := 70 } : Room) s m ([.ref (a 3), iv p0, iv p1] : List Value).toArray below meth c D g A a b 9 0 0 (MQ below (cQv D g A a b Q) ([.ref (a 3), iv p0, iv p1] : List Value).toArray s 0 0 A) M [(0, .ref (a 3)), (1, iv p0), (2, iv p1), (5, iv x5), (6, iv x6), (7, iv x7)] 144 []) ∧ (∀ (x5 : Int) (x6 : Int) (x7 : Int) (x8 : Int) (M : Mem), I154 n x5 x6 x7 x8 M → vV p l e ({ frames := 2, cells := 0, slots := 0, locals := 70 } : Room) s m ([.ref (a 3), iv p0, iv p1] : List Value).toArray below meth c D g A a b 9 0 0 (MQ below (cQv D g A a b Q) ([.ref (a 3), iv p0, iv p1] : List Value).toArray s 0 0 A) M [(0, .ref (a 3)), (1, iv p0), (2, iv p1), (5, iv x5), (6, iv x6), (7, iv x7), (8, iv x8)] 154 []) := by
    intro n
    induction n using Nat.strongRecOn with
    | ind n ih =>
      exact ⟨fun x5 x6 x7 M hh => wkh_X2_solveForests_45 X hr (fun _ _ _ _ ⟨n1, hn, hh⟩ => (ih n1 hn).1 _ _ _ _ hh) (fun _ _ _ _ ⟨n1, hn, hh⟩ => (ih n1 hn).2.1 _ _ _ _ hh) (fun _ _ _ _ ⟨n1, hn, hh⟩ => (ih n1 hn).2.2.1 _ _ _ _ hh) (fun _ _ _ _ _ ⟨n1, hn, hh⟩ => (ih n1 hn).2.2.2 _ _ _ _ _ hh) (hI45 n x5 x6 x7 M hh), fun x5 x6 x7 M hh => wkh_X2_solveForests_97 X hr (fun _ _ _ _ ⟨n1, hn, hh⟩ => (ih n1 hn).1 _ _ _ _ hh) (fun _ _ _ _ ⟨n1, hn, hh⟩ => (ih n1 hn).2.1 _ _ _ _ hh) (fun _ _ _ _ ⟨n1, hn, hh⟩ => (ih n1 hn).2.2.1 _ _ _ _ hh) (fun _ _ _ _ _ ⟨n1, hn, hh⟩ => (ih n1 hn).2.2.2 _ _ _ _ _ hh) (hI97 n x5 x6 x7 M hh), fun x5 x6 x7 M hh => wkh_X2_solveForests_144 X hr (fun _ _ _ _ ⟨n1, hn, hh⟩ => (ih n1 hn).1 _ _ _ _ hh) (fun _ _ _ _ ⟨n1, hn, hh⟩ => (ih n1 hn).2.1 _ _ _ _ hh) (fun _ _ _ _ ⟨n1, hn, hh⟩ => (ih n1 hn).2.2.1 _ _ _ _ hh) (fun _ _ _ _ _ ⟨n1, hn, hh⟩ => (ih n1 hn).2.2.2 _ _ _ _ _ hh) (hI144 n x5 x6 x7 M hh), fun x5 x6 x7 x8 M hh => wkh_X2_solveForests_154 X hr (fun _ _ _ _ ⟨n1, hn, hh⟩ => (ih n1 hn).1 _ _ _ _ hh) (fun _ _ _ _ ⟨n1, hn, hh⟩ => (ih n1 hn).2.1 _ _ _ _ hh) (fun _ _ _ _ ⟨n1, hn, hh⟩ => (ih n1 hn).2.2.1 _ _ _ _ hh) (fun _ _ _ _ _ ⟨n1, hn, hh⟩ => (ih n1 hn).2.2.2 _ _ _ _ _ hh) (hI154 n x5 x6 x7 x8 M hh)⟩
  exact wke_X2_solveForests X hr  (fun _ _ _ _ ⟨n1, hh⟩ => (K n1).1 _ _ _ _ hh) (fun _ _ _ _ ⟨n1, hh⟩ => (K n1).2.1 _ _ _ _ hh) (fun _ _ _ _ ⟨n1, hh⟩ => (K n1).2.2.1 _ _ _ _ hh) (fun _ _ _ _ _ ⟨n1, hh⟩ => (K n1).2.2.2 _ _ _ _ _ hh) hw s.heap [] ls hP hD va_S.rf hl
