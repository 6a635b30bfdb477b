set_option maxRecDepth 20000 in
theorem ggX0_least_X6_allAlone : GoodIn wsX0_least wsX6_allAlone := goodIn_r _ [11, 12, 22, 23, 24, 25, 26, 27] (by decide +kernel) (by decide +kernel)
set_option maxRecDepth 20000 in
theorem gX0_least_X6_allAlone_n34 : GoodIn wsX0_least (wsX6_allAlone) := ggX0_least_X6_allAlone
set_option maxRecDepth 20000 in
theorem ggX0_least_X0_least : GoodIn wsX0_least wsX0_least := goodIn_r _ [0, 1, 2, 3, 4, 5, 6, 7, 8, 9, 10, 11, 12, 13, 14, 15, 16, 17, 18, 19, 20, 21, 22, 23, 24, 25, 26, 27] (by decide +kernel) (by decide +kernel)
set_option maxRecDepth 20000 in
theorem gX0_least_X0_least : GoodIn wsX0_least (va_wsS RX0 40 yX0_least wsX0_least) := goodIn_app (goodIn_of _ (by decide +kernel)) ggX0_least_X0_least
theorem dX0_least_0 : decode cX0_least 0 = .ok (.aload_n 0, 1) := by decide +kernel
theorem dX0_least_1 : decode cX0_least 1 = .ok (.getfield 15, 3) := by decide +kernel
theorem dX0_least_4 : decode cX0_least 4 = .ok (.getfield 25, 3) := by decide +kernel
theorem dX0_least_7 : decode cX0_least 7 = .ok (.astore 6, 2) := by decide +kernel
theorem dX0_least_9 : decode cX0_least 9 = .ok (.aload_n 0, 1) := by decide +kernel
theorem dX0_least_10 : decode cX0_least 10 = .ok (.getfield 15, 3) := by decide +kernel
theorem dX0_least_13 : decode cX0_least 13 = .ok (.getfield 31, 3) := by decide +kernel
theorem dX0_least_16 : decode cX0_least 16 = .ok (.astore 7, 2) := by decide +kernel
theorem dX0_least_18 : decode cX0_least 18 = .ok (.iload_n 1, 1) := by decide +kernel
theorem dX0_least_19 : decode cX0_least 19 = .ok (.iload_n 2, 1) := by decide +kernel
theorem dX0_least_20 : decode cX0_least 20 = .ok (.if_icmp .ge 16, 3) := by decide +kernel
theorem dX0_least_23 : decode cX0_least 23 = .ok (.iload_n 3, 1) := by decide +kernel
theorem dX0_least_24 : decode cX0_least 24 = .ok (.iload 4, 2) := by decide +kernel
theorem dX0_least_26 : decode cX0_least 26 = .ok (.if_icmp .ge 10, 3) := by decide +kernel
theorem dX0_least_29 : decode cX0_least 29 = .ok (.iload 5, 2) := by decide +kernel
theorem dX0_least_31 : decode cX0_least 31 = .ok (.bipush 24, 2) := by decide +kernel
theorem dX0_least_33 : decode cX0_least 33 = .ok (.if_icmp .le 20, 3) := by decide +kernel
theorem dX0_least_36 : decode cX0_least 36 = .ok (.aload 6, 2) := by decide +kernel
theorem dX0_least_38 : decode cX0_least 38 = .ok (.iload_n 1, 1) := by decide +kernel
theorem dX0_least_39 : decode cX0_least 39 = .ok (.iload_n 2, 1) := by decide +kernel
theorem dX0_least_40 : decode cX0_least 40 = .ok (.invokevirtual 34, 3) := by decide +kernel
theorem dX0_least_43 : decode cX0_least 43 = .ok (.aload 7, 2) := by decide +kernel
theorem dX0_least_45 : decode cX0_least 45 = .ok (.iload_n 3, 1) := by decide +kernel
theorem dX0_least_46 : decode cX0_least 46 = .ok (.iload 4, 2) := by decide +kernel
theorem dX0_least_48 : decode cX0_least 48 = .ok (.invokevirtual 34, 3) := by decide +kernel
theorem dX0_least_51 : decode cX0_least 51 = .ok (.iadd, 1) := by decide +kernel
theorem dX0_least_52 : decode cX0_least 52 = .ok (.ireturn, 1) := by decide +kernel
theorem dX0_least_53 : decode cX0_least 53 = .ok (.iload_n 2, 1) := by decide +kernel
theorem dX0_least_54 : decode cX0_least 54 = .ok (.iload_n 2, 1) := by decide +kernel
theorem dX0_least_55 : decode cX0_least 55 = .ok (.iconst 1, 1) := by decide +kernel
theorem dX0_least_56 : decode cX0_least 56 = .ok (.isub, 1) := by decide +kernel
theorem dX0_least_57 : decode cX0_least 57 = .ok (.imul, 1) := by decide +kernel
theorem dX0_least_58 : decode cX0_least 58 = .ok (.iconst 2, 1) := by decide +kernel
theorem dX0_least_59 : decode cX0_least 59 = .ok (.idiv, 1) := by decide +kernel
theorem dX0_least_60 : decode cX0_least 60 = .ok (.iload_n 1, 1) := by decide +kernel
theorem dX0_least_61 : decode cX0_least 61 = .ok (.iadd, 1) := by decide +kernel
theorem dX0_least_62 : decode cX0_least 62 = .ok (.bipush 78, 2) := by decide +kernel
theorem dX0_least_64 : decode cX0_least 64 = .ok (.imul, 1) := by decide +kernel
theorem dX0_least_65 : decode cX0_least 65 = .ok (.iload 4, 2) := by decide +kernel
theorem dX0_least_67 : decode cX0_least 67 = .ok (.iload 4, 2) := by decide +kernel
theorem dX0_least_69 : decode cX0_least 69 = .ok (.iconst 1, 1) := by decide +kernel
theorem dX0_least_70 : decode cX0_least 70 = .ok (.isub, 1) := by decide +kernel
theorem dX0_least_71 : decode cX0_least 71 = .ok (.imul, 1) := by decide +kernel
theorem dX0_least_72 : decode cX0_least 72 = .ok (.iconst 2, 1) := by decide +kernel
theorem dX0_least_73 : decode cX0_least 73 = .ok (.idiv, 1) := by decide +kernel
theorem dX0_least_74 : decode cX0_least 74 = .ok (.iadd, 1) := by decide +kernel
theorem dX0_least_75 : decode cX0_least 75 = .ok (.iload_n 3, 1) := by decide +kernel
theorem dX0_least_76 : decode cX0_least 76 = .ok (.iadd, 1) := by decide +kernel
theorem dX0_least_77 : decode cX0_least 77 = .ok (.istore 8, 2) := by decide +kernel
theorem dX0_least_79 : decode cX0_least 79 = .ok (.aload_n 0, 1) := by decide +kernel
theorem dX0_least_80 : decode cX0_least 80 = .ok (.getfield 11, 3) := by decide +kernel
theorem dX0_least_83 : decode cX0_least 83 = .ok (.iload 8, 2) := by decide +kernel
theorem dX0_least_85 : decode cX0_least 85 = .ok (.iaload, 1) := by decide +kernel
theorem dX0_least_86 : decode cX0_least 86 = .ok (.iconst (-1), 1) := by decide +kernel
theorem dX0_least_87 : decode cX0_least 87 = .ok (.if_icmp .eq 11, 3) := by decide +kernel
theorem dX0_least_90 : decode cX0_least 90 = .ok (.aload_n 0, 1) := by decide +kernel
theorem dX0_least_91 : decode cX0_least 91 = .ok (.getfield 11, 3) := by decide +kernel
theorem dX0_least_94 : decode cX0_least 94 = .ok (.iload 8, 2) := by decide +kernel
theorem dX0_least_96 : decode cX0_least 96 = .ok (.iaload, 1) := by decide +kernel
theorem dX0_least_97 : decode cX0_least 97 = .ok (.ireturn, 1) := by decide +kernel
theorem dX0_least_98 : decode cX0_least 98 = .ok (.iload_n 2, 1) := by decide +kernel
theorem dX0_least_99 : decode cX0_least 99 = .ok (.iconst 1, 1) := by decide +kernel
theorem dX0_least_100 : decode cX0_least 100 = .ok (.isub, 1) := by decide +kernel
theorem dX0_least_101 : decode cX0_least 101 = .ok (.istore 9, 2) := by decide +kernel
theorem dX0_least_103 : decode cX0_least 103 = .ok (.iload 4, 2) := by decide +kernel
theorem dX0_least_105 : decode cX0_least 105 = .ok (.iconst 1, 1) := by decide +kernel
theorem dX0_least_106 : decode cX0_least 106 = .ok (.isub, 1) := by decide +kernel
theorem dX0_least_107 : decode cX0_least 107 = .ok (.istore 10, 2) := by decide +kernel
theorem dX0_least_109 : decode cX0_least 109 = .ok (.aload_n 0, 1) := by decide +kernel
theorem dX0_least_110 : decode cX0_least 110 = .ok (.iload_n 1, 1) := by decide +kernel
theorem dX0_least_111 : decode cX0_least 111 = .ok (.iload 9, 2) := by decide +kernel
theorem dX0_least_113 : decode cX0_least 113 = .ok (.iload_n 3, 1) := by decide +kernel
theorem dX0_least_114 : decode cX0_least 114 = .ok (.iload 4, 2) := by decide +kernel
theorem dX0_least_116 : decode cX0_least 116 = .ok (.iload 5, 2) := by decide +kernel
theorem dX0_least_118 : decode cX0_least 118 = .ok (.iconst 1, 1) := by decide +kernel
theorem dX0_least_119 : decode cX0_least 119 = .ok (.iadd, 1) := by decide +kernel
theorem dX0_least_120 : decode cX0_least 120 = .ok (.invokestatic 40, 3) := by decide +kernel
theorem dX0_least_123 : decode cX0_least 123 = .ok (.aload 6, 2) := by decide +kernel
theorem dX0_least_125 : decode cX0_least 125 = .ok (.getfield 44, 3) := by decide +kernel
theorem dX0_least_128 : decode cX0_least 128 = .ok (.iload 9, 2) := by decide +kernel
theorem dX0_least_130 : decode cX0_least 130 = .ok (.iaload, 1) := by decide +kernel
theorem dX0_least_131 : decode cX0_least 131 = .ok (.iadd, 1) := by decide +kernel
theorem dX0_least_132 : decode cX0_least 132 = .ok (.aload_n 0, 1) := by decide +kernel
theorem dX0_least_133 : decode cX0_least 133 = .ok (.iload_n 1, 1) := by decide +kernel
theorem dX0_least_134 : decode cX0_least 134 = .ok (.iload_n 2, 1) := by decide +kernel
theorem dX0_least_135 : decode cX0_least 135 = .ok (.iload_n 3, 1) := by decide +kernel
theorem dX0_least_136 : decode cX0_least 136 = .ok (.iload 10, 2) := by decide +kernel
theorem dX0_least_138 : decode cX0_least 138 = .ok (.iload 5, 2) := by decide +kernel
theorem dX0_least_140 : decode cX0_least 140 = .ok (.iconst 1, 1) := by decide +kernel
theorem dX0_least_141 : decode cX0_least 141 = .ok (.iadd, 1) := by decide +kernel
theorem dX0_least_142 : decode cX0_least 142 = .ok (.invokestatic 40, 3) := by decide +kernel
theorem dX0_least_145 : decode cX0_least 145 = .ok (.aload 7, 2) := by decide +kernel
theorem dX0_least_147 : decode cX0_least 147 = .ok (.getfield 44, 3) := by decide +kernel
theorem dX0_least_150 : decode cX0_least 150 = .ok (.iload 10, 2) := by decide +kernel
theorem dX0_least_152 : decode cX0_least 152 = .ok (.iaload, 1) := by decide +kernel
theorem dX0_least_153 : decode cX0_least 153 = .ok (.iadd, 1) := by decide +kernel
theorem dX0_least_154 : decode cX0_least 154 = .ok (.invokestatic 47, 3) := by decide +kernel
theorem dX0_least_157 : decode cX0_least 157 = .ok (.istore 11, 2) := by decide +kernel
theorem dX0_least_159 : decode cX0_least 159 = .ok (.aload_n 0, 1) := by decide +kernel
theorem dX0_least_160 : decode cX0_least 160 = .ok (.getfield 15, 3) := by decide +kernel
theorem dX0_least_163 : decode cX0_least 163 = .ok (.getfield 52, 3) := by decide +kernel
theorem dX0_least_166 : decode cX0_least 166 = .ok (.iload 9, 2) := by decide +kernel
theorem dX0_least_168 : decode cX0_least 168 = .ok (.bipush 12, 2) := by decide +kernel
theorem dX0_least_170 : decode cX0_least 170 = .ok (.imul, 1) := by decide +kernel
theorem dX0_least_171 : decode cX0_least 171 = .ok (.iload 10, 2) := by decide +kernel
theorem dX0_least_173 : decode cX0_least 173 = .ok (.iadd, 1) := by decide +kernel
theorem dX0_least_174 : decode cX0_least 174 = .ok (.iaload, 1) := by decide +kernel
theorem dX0_least_175 : decode cX0_least 175 = .ok (.istore 12, 2) := by decide +kernel
theorem dX0_least_177 : decode cX0_least 177 = .ok (.iload 12, 2) := by decide +kernel
theorem dX0_least_179 : decode cX0_least 179 = .ok (.ldc 55, 2) := by decide +kernel
theorem dX0_least_181 : decode cX0_least 181 = .ok (.if_icmp .ge 76, 3) := by decide +kernel
theorem dX0_least_184 : decode cX0_least 184 = .ok (.aload_n 0, 1) := by decide +kernel
theorem dX0_least_185 : decode cX0_least 185 = .ok (.aload 6, 2) := by decide +kernel
theorem dX0_least_187 : decode cX0_least 187 = .ok (.getfield 56, 3) := by decide +kernel
theorem dX0_least_190 : decode cX0_least 190 = .ok (.iload 9, 2) := by decide +kernel
theorem dX0_least_192 : decode cX0_least 192 = .ok (.iaload, 1) := by decide +kernel
theorem dX0_least_193 : decode cX0_least 193 = .ok (.iload 9, 2) := by decide +kernel
theorem dX0_least_195 : decode cX0_least 195 = .ok (.aload 7, 2) := by decide +kernel
theorem dX0_least_197 : decode cX0_least 197 = .ok (.getfield 56, 3) := by decide +kernel
theorem dX0_least_200 : decode cX0_least 200 = .ok (.iload 10, 2) := by decide +kernel
theorem dX0_least_202 : decode cX0_least 202 = .ok (.iaload, 1) := by decide +kernel
theorem dX0_least_203 : decode cX0_least 203 = .ok (.iload 10, 2) := by decide +kernel
theorem dX0_least_205 : decode cX0_least 205 = .ok (.iload 5, 2) := by decide +kernel
theorem dX0_least_207 : decode cX0_least 207 = .ok (.iconst 1, 1) := by decide +kernel
theorem dX0_least_208 : decode cX0_least 208 = .ok (.iadd, 1) := by decide +kernel
theorem dX0_least_209 : decode cX0_least 209 = .ok (.invokestatic 40, 3) := by decide +kernel
theorem dX0_least_212 : decode cX0_least 212 = .ok (.istore 13, 2) := by decide +kernel
theorem dX0_least_214 : decode cX0_least 214 = .ok (.aload_n 0, 1) := by decide +kernel
theorem dX0_least_215 : decode cX0_least 215 = .ok (.iload_n 1, 1) := by decide +kernel
theorem dX0_least_216 : decode cX0_least 216 = .ok (.aload 6, 2) := by decide +kernel
theorem dX0_least_218 : decode cX0_least 218 = .ok (.getfield 56, 3) := by decide +kernel
theorem dX0_least_221 : decode cX0_least 221 = .ok (.iload 9, 2) := by decide +kernel
theorem dX0_least_223 : decode cX0_least 223 = .ok (.iaload, 1) := by decide +kernel
theorem dX0_least_224 : decode cX0_least 224 = .ok (.iload_n 3, 1) := by decide +kernel
theorem dX0_least_225 : decode cX0_least 225 = .ok (.aload 7, 2) := by decide +kernel
theorem dX0_least_227 : decode cX0_least 227 = .ok (.getfield 56, 3) := by decide +kernel
theorem dX0_least_230 : decode cX0_least 230 = .ok (.iload 10, 2) := by decide +kernel
theorem dX0_least_232 : decode cX0_least 232 = .ok (.iaload, 1) := by decide +kernel
theorem dX0_least_233 : decode cX0_least 233 = .ok (.iload 5, 2) := by decide +kernel
theorem dX0_least_235 : decode cX0_least 235 = .ok (.iconst 1, 1) := by decide +kernel
theorem dX0_least_236 : decode cX0_least 236 = .ok (.iadd, 1) := by decide +kernel
theorem dX0_least_237 : decode cX0_least 237 = .ok (.invokestatic 40, 3) := by decide +kernel
theorem dX0_least_240 : decode cX0_least 240 = .ok (.istore 14, 2) := by decide +kernel
theorem dX0_least_242 : decode cX0_least 242 = .ok (.iload 11, 2) := by decide +kernel
theorem dX0_least_244 : decode cX0_least 244 = .ok (.iload 12, 2) := by decide +kernel
theorem dX0_least_246 : decode cX0_least 246 = .ok (.iload 13, 2) := by decide +kernel
theorem dX0_least_248 : decode cX0_least 248 = .ok (.iadd, 1) := by decide +kernel
theorem dX0_least_249 : decode cX0_least 249 = .ok (.iload 14, 2) := by decide +kernel
theorem dX0_least_251 : decode cX0_least 251 = .ok (.iadd, 1) := by decide +kernel
theorem dX0_least_252 : decode cX0_least 252 = .ok (.invokestatic 47, 3) := by decide +kernel
theorem dX0_least_255 : decode cX0_least 255 = .ok (.istore 11, 2) := by decide +kernel
theorem dX0_least_257 : decode cX0_least 257 = .ok (.aload_n 0, 1) := by decide +kernel
theorem dX0_least_258 : decode cX0_least 258 = .ok (.getfield 11, 3) := by decide +kernel
theorem dX0_least_261 : decode cX0_least 261 = .ok (.iload 8, 2) := by decide +kernel
theorem dX0_least_263 : decode cX0_least 263 = .ok (.iload 11, 2) := by decide +kernel
theorem dX0_least_265 : decode cX0_least 265 = .ok (.iastore, 1) := by decide +kernel
theorem dX0_least_266 : decode cX0_least 266 = .ok (.iload 11, 2) := by decide +kernel
theorem dX0_least_268 : decode cX0_least 268 = .ok (.ireturn, 1) := by decide +kernel
theorem lk_X0_least_f15 : Cond.fieldLink RX0 15 "TreeComparer$ForestTable" "layout" "LTreeComparer$Layout;" ∈ wsX0_least := by decide +kernel
theorem hi_X0_least_0 : ∀ w ∈ u_ws RX0 TX0 2, w ∈ wsX0_least := by decide +kernel
theorem hi_X0_least_3 : ∀ w ∈ u_ws RX3 TX3 4, w ∈ wsX0_least := by decide +kernel
theorem lk_X0_least_f11 : Cond.fieldLink RX0 11 "TreeComparer$ForestTable" "known" "[I" ∈ wsX0_least := by decide +kernel
theorem hi_X0_least_6 : ∀ w ∈ u_ws RX6 TX6 6, w ∈ wsX0_least := by decide +kernel
theorem lk_X0_least_m47 : Cond.methodLink RX0 47 Lib.Math.min.name ∈ wsX0_least := by decide +kernel
theorem lk_X0_least_mins : Cond.static Lib.Math.min.name ∈ wsX0_least := by decide +kernel
theorem lk_X0_least_mini : Cond.initialized "java/lang/Math" ∈ wsX0_least := by decide +kernel
theorem lk_X0_least_minc : Cond.code Lib.Math.min.name Lib.Math.min.code 2 (some .int) ∈ wsX0_least := by decide +kernel
theorem lk_X0_least_c55 : Cond.constant RX0 55 (1000000) ∈ wsX0_least := by decide +kernel
theorem lk_X0_least_i6 : Cond.initialized RX6 ∈ wsX0_least := by decide +kernel
theorem lk_X0_least_im34 : Cond.instanceMethod yX6_allAlone ∈ wsX0_least := by decide +kernel
theorem lk_X0_least_se34 : Cond.selects RX6 yX6_allAlone yX6_allAlone ∈ wsX0_least := by decide +kernel
def wpj_X0_least_257 (W : Mem → Int → Int → Int → Int → Int → (Int → Mem → Prop) → Prop) (p1 : Int) (p2 : Int) (p3 : Int) (p4 : Int) (p5 : Int) (x8 : Int) (x11 : Int) (M : Mem) (Q : Int → Mem → Prop) : Prop := ((0 : Int) ≤ x8 ∧ x8 < 6084) ∧ (∀ M46 : Mem, M46 = mset M 4 1 x8.toNat x11 → Q x11 M46)
def wpj_X0_least_36 (W : Mem → Int → Int → Int → Int → Int → (Int → Mem → Prop) → Prop) (p1 : Int) (p2 : Int) (p3 : Int) (p4 : Int) (p5 : Int) (M : Mem) (Q : Int → Mem → Prop) : Prop := wp_X6_allAlone M 9 p1 p2 (fun y42 M43 => wp_X6_allAlone M43 10 p3 p4 (fun y44 M45 => Q (y42 + y44) M45))
def wpe_X0_least (W : Mem → Int → Int → Int → Int → Int → (Int → Mem → Prop) → Prop) (p1 : Int) (p2 : Int) (p3 : Int) (p4 : Int) (p5 : Int) (M : Mem) (Q : Int → Mem → Prop) : Prop := inR p1 ∧ inR p2 ∧ ((p2 ≤ p1 → wpj_X0_least_36 W p1 p2 p3 p4 p5 M Q) ∧ (¬ (p2 ≤ p1) → inR p3 ∧ inR p4 ∧ ((p4 ≤ p3 → wpj_X0_least_36 W p1 p2 p3 p4 p5 M Q) ∧ (¬ (p4 ≤ p3) → inR p5 ∧ ((p5 ≤ 24 → ((0 : Int) ≤ p2 * (p2 - 1) ∧ p2 * (p2 - 1) < 2147483648) ∧ ((0 : Int) ≤ p4 * (p4 - 1) ∧ p4 * (p4 - 1) < 2147483648) ∧ (∀ y11 : Int, y11 = (((((p2 * (p2 - 1)) / 2) + p1) * 78) + ((p4 * (p4 - 1)) / 2)) + p3 → ((0 : Int) ≤ y11 ∧ y11 < 6084) ∧ inR (M 4 1 y11.toNat) ∧ (((M 4 1 y11.toNat) = (-1) → (∀ y15 : Int, y15 = p2 - 1 → (∀ y16 : Int, y16 = p4 - 1 → W M p1 y15 p3 p4 (p5 + 1) (fun y17 M18 => ((0 : Int) ≤ y15 ∧ y15 < 12) ∧ W M18 p1 p2 p3 y16 (p5 + 1) (fun y20 M21 => ((0 : Int) ≤ y16 ∧ y16 < 12) ∧ inR (y17 + (M18 9 3 y15.toNat)) ∧ inR (y20 + (M21 10 3 y16.toNat)) ∧ (∀ y25 : Int, y25 = min (y17 + (M18 9 3 y15.toNat)) (y20 + (M21 10 3 y16.toNat)) → ((0 : Int) ≤ (y15 * 12) + y16 ∧ (y15 * 12) + y16 < 144) ∧ (∀ y27 : Int, y27 = (M21 2 3 ((y15 * 12) + y16).toNat) → inR y27 ∧ ((1000000 ≤ y27 → wpj_X0_least_257 W p1 p2 p3 p4 p5 y11 y25 M21 Q) ∧ (¬ (1000000 ≤ y27) → ((0 : Int) ≤ y15 ∧ y15 < 12) ∧ ((0 : Int) ≤ y16 ∧ y16 < 12) ∧ W M21 ((M21 9 1 y15.toNat)) y15 ((M21 10 1 y16.toNat)) y16 (p5 + 1) (fun y32 M33 => ((0 : Int) ≤ y15 ∧ y15 < 12) ∧ ((0 : Int) ≤ y16 ∧ y16 < 12) ∧ W M33 p1 ((M33 9 1 y15.toNat)) p3 ((M33 10 1 y16.toNat)) (p5 + 1) (fun y36 M37 => inR (y25) ∧ inR ((y27 + y32) + y36) ∧ (∀ y40 : Int, y40 = min (y25) ((y27 + y32) + y36) → wpj_X0_least_257 W p1 p2 p3 p4 p5 y11 y40 M37 Q)))))))))))) ∧ (¬ ((M 4 1 y11.toNat) = (-1)) → ((0 : Int) ≤ y11 ∧ y11 < 6084) ∧ Q ((M 4 1 y11.toNat)) M)))) ∧ (¬ (p5 ≤ 24) → wpj_X0_least_36 W p1 p2 p3 p4 p5 M Q))))))
set_option maxHeartbeats 4000000 in
set_option maxRecDepth 100000 in
theorem wkj_X0_least_257 {n : Nat} {p : Program} {l : Launch} {e : Env} {s : State} {m : MethodId} {args : Array Value} {below : List Frame} {meth : Method} {c : Code} {D : va_G} {g : GT} {A : Nat → Prop} {a : Nat → Nat} {b : Nat → Nat → Nat} (X : vC p s m args meth c D g A RX0 wsX0_least cX0_least 15) (hr : meth.sig.returnType = (some .int)) {W : Mem → Int → Int → Int → Int → Int → (Int → Mem → Prop) → Prop} {p1 : Int} {p2 : Int} {p3 : Int} {p4 : Int} {p5 : Int} (hW : ∀ {M : Mem} {p1 p2 p3 p4 p5 : Int} {Q : Int → Mem → Prop}, W M p1 p2 p3 p4 p5 Q → Met l yX0_least wsX0_least ({ frames := n + 1, cells := 0, slots := 0, locals := 34 * n + 40 } : Room) (cPc D g A a b M [.ref (a 4), iv p1, iv p2, iv p3, iv p4, iv p5]) (cQi D g A a b Q) 0 0 A) {x8 : Int} {x11 : Int} {M : Mem} {Q : Int → Mem → Prop} (hw : wpj_X0_least_257 W p1 p2 p3 p4 p5 x8 x11 M Q) : vV p l e ({ frames := n + 1 + 1, cells := 0, slots := 0, locals := 34 * (n + 1) + 40 } : Room) s m args below meth c D g A a b 15 0 0 (MQ below (cQi D g A a b Q) args s 0 0 A) M [(0, .ref (a 4)), (8, iv x8), (11, iv x11)] 257 [] := by
  unfold wpj_X0_least_257 at hw
  refine V_aload_n X dX0_least_257 rfl (q := 0) rfl ?_
  refine V_get (C := RX0) (T := TX0) (N := 2) (ci := 0) X hi_X0_least_0 gO_4 rfl 1 (by decide) lk_X0_least_f11 (fun _ h9 => h9) rfl dX0_least_258 ?_
  refine V_iload X dX0_least_261 (q := 1) rfl ?_
  refine V_iload X dX0_least_263 (q := 2) rfl ?_
  obtain ⟨h47, hw⟩ := hw
  refine V_iast X (gA_4_1) (sA_4_1) h47 (by decide) dX0_least_265 (fun M46 eM46 => ?_)
  have hw := hw M46 eM46
  refine V_iload X dX0_least_266 (q := 2) rfl ?_
  exact V_iret X hr hw dX0_least_268
set_option maxHeartbeats 4000000 in
set_option maxRecDepth 100000 in
theorem wkj_X0_least_36 {n : Nat} {p : Program} {l : Launch} {e : Env} {s : State} {m : MethodId} {args : Array Value} {below : List Frame} {meth : Method} {c : Code} {D : va_G} {g : GT} {A : Nat → Prop} {a : Nat → Nat} {b : Nat → Nat → Nat} (X : vC p s m args meth c D g A RX0 wsX0_least cX0_least 15) (hr : meth.sig.returnType = (some .int)) {W : Mem → Int → Int → Int → Int → Int → (Int → Mem → Prop) → Prop} {p1 : Int} {p2 : Int} {p3 : Int} {p4 : Int} {p5 : Int} (hW : ∀ {M : Mem} {p1 p2 p3 p4 p5 : Int} {Q : Int → Mem → Prop}, W M p1 p2 p3 p4 p5 Q → Met l yX0_least wsX0_least ({ frames := n + 1, cells := 0, slots := 0, locals := 34 * n + 40 } : Room) (cPc D g A a b M [.ref (a 4), iv p1, iv p2, iv p3, iv p4, iv p5]) (cQi D g A a b Q) 0 0 A) {M : Mem} {Q : Int → Mem → Prop} (hw : wpj_X0_least_36 W p1 p2 p3 p4 p5 M Q) : vV p l e ({ frames := n + 1 + 1, cells := 0, slots := 0, locals := 34 * (n + 1) + 40 } : Room) s m args below meth c D g A a b 15 0 0 (MQ below (cQi D g A a b Q) args s 0 0 A) M [(1, iv p1), (2, iv p2), (3, iv p3), (4, iv p4), (6, .ref (a 9)), (7, .ref (a 10))] 36 [] := by
  unfold wpj_X0_least_36 at hw
  refine V_aload X dX0_least_36 (q := 4) rfl ?_
  refine V_iload_n X dX0_least_38 rfl (q := 0) rfl ?_
  refine V_iload_n X dX0_least_39 rfl (q := 1) rfl ?_
  refine V_callVN_i X _ gO_9 rfl (As := [iv p1, iv p2]) (st := []) (c_X6_allAlone l (by first | exact Or.inl rfl | exact Or.inr rfl) hw) ⟨va_cnB 2 X.2.2.2.1 gX0_least_X6_allAlone_n34 rfl rfl rfl (X.2.2.2.2.1.2.1 _ (List.mem_of_getElem? (i := 105) rfl)) (X.2.2.2.1 _ lk_X0_least_i6) (by decide +kernel) ⟨(by dsimp only; omega), (by dsimp only; omega)⟩, X.2.2.2.1 _ lk_X0_least_im34, X.2.2.2.1 _ lk_X0_least_se34⟩ rfl (Nat.le_of_ble_eq_true rfl) ⟨Nat.le_of_ble_eq_true rfl, Nat.le_of_ble_eq_true rfl⟩ rfl dX0_least_40 (fun y42 M43 hw => ?_)
  refine V_aload X dX0_least_43 (q := 5) rfl ?_
  refine V_iload_n X dX0_least_45 rfl (q := 2) rfl ?_
  refine V_iload X dX0_least_46 (q := 3) rfl ?_
  refine V_callVN_i X _ gO_10 rfl (As := [iv p3, iv p4]) (st := [iv y42]) (c_X6_allAlone l (by first | exact Or.inl rfl | exact Or.inr rfl) hw) ⟨va_cnB 2 X.2.2.2.1 gX0_least_X6_allAlone_n34 rfl rfl rfl (X.2.2.2.2.1.2.1 _ (List.mem_of_getElem? (i := 105) rfl)) (X.2.2.2.1 _ lk_X0_least_i6) (by decide +kernel) ⟨(by dsimp only; omega), (by dsimp only; omega)⟩, X.2.2.2.1 _ lk_X0_least_im34, X.2.2.2.1 _ lk_X0_least_se34⟩ rfl (Nat.le_of_ble_eq_true rfl) ⟨Nat.le_of_ble_eq_true rfl, Nat.le_of_ble_eq_true rfl⟩ rfl dX0_least_48 (fun y44 M45 hw => ?_)
  refine V_iadd X dX0_least_51 ?_
  exact V_iret X hr hw dX0_least_52
set_option maxHeartbeats 4000000 in
set_option maxRecDepth 100000 in
theorem wke_X0_least {n : Nat} {p : Program} {l : Launch} {e : Env} {s : State} {m : MethodId} {args : Array Value} {below : List Frame} {meth : Method} {c : Code} {D : va_G} {g : GT} {A : Nat → Prop} {a : Nat → Nat} {b : Nat → Nat → Nat} (X : vC p s m args meth c D g A RX0 wsX0_least cX0_least 15) (hr : meth.sig.returnType = (some .int)) {W : Mem → Int → Int → Int → Int → Int → (Int → Mem → Prop) → Prop} {p1 : Int} {p2 : Int} {p3 : Int} {p4 : Int} {p5 : Int} (hW : ∀ {M : Mem} {p1 p2 p3 p4 p5 : Int} {Q : Int → Mem → Prop}, W M p1 p2 p3 p4 p5 Q → Met l yX0_least wsX0_least ({ frames := n + 1, cells := 0, slots := 0, locals := 34 * n + 40 } : Room) (cPc D g A a b M [.ref (a 4), iv p1, iv p2, iv p3, iv p4, iv p5]) (cQi D g A a b Q) 0 0 A) {M : Mem} {Q : Int → Mem → Prop} (hw : wpe_X0_least W p1 p2 p3 p4 p5 M Q) : vV p l e ({ frames := n + 1 + 1, cells := 0, slots := 0, locals := 34 * (n + 1) + 40 } : Room) s m args below meth c D g A a b 15 0 0 (MQ below (cQi D g A a b Q) args s 0 0 A) M [(0, .ref (a 4)), (1, iv p1), (2, iv p2), (3, iv p3), (4, iv p4), (5, iv p5)] 0 [] := by
  unfold wpe_X0_least at hw
  refine V_aload_n X dX0_least_0 rfl (q := 0) rfl ?_
  refine V_get (C := RX0) (T := TX0) (N := 2) (ci := 0) X hi_X0_least_0 gO_4 rfl 0 (by decide) lk_X0_least_f15 (fun _ h9 => h9) rfl dX0_least_1 ?_
  refine V_getN (C := RX3) (T := TX3) (N := 4) (ci := 3) X hi_X0_least_3 gO_2 rfl 1 (by decide) (List.mem_of_getElem? (i := 60) rfl) (fun _ h9 => h9) rfl dX0_least_4 ?_
  refine V_astore (lv1 := [(0, .ref (a 4)), (1, iv p1), (2, iv p2), (3, iv p3), (4, iv p4), (5, iv p5), (6, .ref (a 9))]) X [1, 2, 3, 4, 5, 6, 0] dX0_least_7 (by decide) rfl ?_
  refine V_aload_n X dX0_least_9 rfl (q := 0) rfl ?_
  refine V_get (C := RX0) (T := TX0) (N := 2) (ci := 0) X hi_X0_least_0 gO_4 rfl 0 (by decide) lk_X0_least_f15 (fun _ h9 => h9) rfl dX0_least_10 ?_
  refine V_getN (C := RX3) (T := TX3) (N := 4) (ci := 3) X hi_X0_least_3 gO_2 rfl 2 (by decide) (List.mem_of_getElem? (i := 65) rfl) (fun _ h9 => h9) rfl dX0_least_13 ?_
  refine V_astore (lv1 := [(0, .ref (a 4)), (1, iv p1), (2, iv p2), (3, iv p3), (4, iv p4), (5, iv p5), (6, .ref (a 9)), (7, .ref (a 10))]) X [1, 2, 3, 4, 5, 6, 7, 0] dX0_least_16 (by decide) rfl ?_
  refine V_iload_n X dX0_least_18 rfl (q := 1) rfl ?_
  refine V_iload_n X dX0_least_19 rfl (q := 2) rfl ?_
  obtain ⟨h1, h2, hw⟩ := hw
  refine V_icmp_ge (tgt := 36) X h1 h2 dX0_least_20 (by decide) (fun q3 => ?_) (fun q3 => ?_)
  · have hw := hw.1 q3
    refine V_sub (lv1 := [(1, iv p1), (2, iv p2), (3, iv p3), (4, iv p4), (6, .ref (a 9)), (7, .ref (a 10))]) [1, 2, 3, 4, 6, 7] rfl ?_
    exact wkj_X0_least_36 X hr hW hw
  · have hw := hw.2 q3
    refine V_iload_n X dX0_least_23 rfl (q := 3) rfl ?_
    refine V_iload X dX0_least_24 (q := 4) rfl ?_
    obtain ⟨h4, h5, hw⟩ := hw
    refine V_icmp_ge (tgt := 36) X h4 h5 dX0_least_26 (by decide) (fun q6 => ?_) (fun q6 => ?_)
    · have hw := hw.1 q6
      refine V_sub (lv1 := [(1, iv p1), (2, iv p2), (3, iv p3), (4, iv p4), (6, .ref (a 9)), (7, .ref (a 10))]) [1, 2, 3, 4, 6, 7] rfl ?_
      exact wkj_X0_least_36 X hr hW hw
    · have hw := hw.2 q6
      refine V_iload X dX0_least_29 (q := 5) rfl ?_
      refine V_bipush X dX0_least_31 rfl ?_
      obtain ⟨h7, hw⟩ := hw
      refine V_icmp_le (tgt := 53) X h7 ⟨by decide, by decide⟩ dX0_least_33 (by decide) (fun q8 => ?_) (fun q8 => ?_)
      · have hw := hw.1 q8
        refine V_iload_n X dX0_least_53 rfl (q := 2) rfl ?_
        refine V_iload_n X dX0_least_54 rfl (q := 2) rfl ?_
        refine V_iconst X dX0_least_55 ?_
        refine V_isub X dX0_least_56 ?_
        refine V_imul X dX0_least_57 ?_
        refine V_iconst X dX0_least_58 ?_
        obtain ⟨h9, hw⟩ := hw
        refine V_idiv X h9 (by decide) dX0_least_59 ?_
        refine V_iload_n X dX0_least_60 rfl (q := 1) rfl ?_
        refine V_iadd X dX0_least_61 ?_
        refine V_bipush X dX0_least_62 rfl ?_
        refine V_imul X dX0_least_64 ?_
        refine V_iload X dX0_least_65 (q := 4) rfl ?_
        refine V_iload X dX0_least_67 (q := 4) rfl ?_
        refine V_iconst X dX0_least_69 ?_
        refine V_isub X dX0_least_70 ?_
        refine V_imul X dX0_least_71 ?_
        refine V_iconst X dX0_least_72 ?_
        obtain ⟨h10, hw⟩ := hw
        refine V_idiv X h10 (by decide) dX0_least_73 ?_
        refine V_iadd X dX0_least_74 ?_
        refine V_iload_n X dX0_least_75 rfl (q := 3) rfl ?_
        refine V_iadd X dX0_least_76 ?_
        refine V_top (fun y11 ey11 => ?_)
        have hw := hw y11 ey11
        refine V_istore (lv1 := [(0, .ref (a 4)), (1, iv p1), (2, iv p2), (3, iv p3), (4, iv p4), (5, iv p5), (6, .ref (a 9)), (7, .ref (a 10)), (8, iv y11)]) X [1, 2, 3, 4, 5, 6, 7, 8, 0] dX0_least_77 (by decide) rfl ?_
        refine V_aload_n X dX0_least_79 rfl (q := 0) rfl ?_
        refine V_get (C := RX0) (T := TX0) (N := 2) (ci := 0) X hi_X0_least_0 gO_4 rfl 1 (by decide) lk_X0_least_f11 (fun _ h9 => h9) rfl dX0_least_80 ?_
        refine V_iload X dX0_least_83 (q := 8) rfl ?_
        obtain ⟨h12, hw⟩ := hw
        refine V_iald X (gA_4_1) h12 (by decide) dX0_least_85 ?_
        refine V_iconst X dX0_least_86 ?_
        obtain ⟨h13, hw⟩ := hw
        refine V_icmp_eq (tgt := 98) X h13 ⟨by decide, by decide⟩ dX0_least_87 (by decide) (fun q14 => ?_) (fun q14 => ?_)
        · have hw := hw.1 q14
          refine V_iload_n X dX0_least_98 rfl (q := 2) rfl ?_
          refine V_iconst X dX0_least_99 ?_
          refine V_isub X dX0_least_100 ?_
          refine V_top (fun y15 ey15 => ?_)
          have hw := hw y15 ey15
          refine V_istore (lv1 := [(0, .ref (a 4)), (1, iv p1), (2, iv p2), (3, iv p3), (4, iv p4), (5, iv p5), (6, .ref (a 9)), (7, .ref (a 10)), (8, iv y11), (9, iv y15)]) X [1, 2, 3, 4, 5, 6, 7, 8, 9, 0] dX0_least_101 (by decide) rfl ?_
          refine V_iload X dX0_least_103 (q := 4) rfl ?_
          refine V_iconst X dX0_least_105 ?_
          refine V_isub X dX0_least_106 ?_
          refine V_top (fun y16 ey16 => ?_)
          have hw := hw y16 ey16
          refine V_istore (lv1 := [(0, .ref (a 4)), (1, iv p1), (2, iv p2), (3, iv p3), (4, iv p4), (5, iv p5), (6, .ref (a 9)), (7, .ref (a 10)), (8, iv y11), (9, iv y15), (10, iv y16)]) X [1, 2, 3, 4, 5, 6, 7, 8, 9, 10, 0] dX0_least_107 (by decide) rfl ?_
          refine V_aload_n X dX0_least_109 rfl (q := 0) rfl ?_
          refine V_iload_n X dX0_least_110 rfl (q := 1) rfl ?_
          refine V_iload X dX0_least_111 (q := 9) rfl ?_
          refine V_iload_n X dX0_least_113 rfl (q := 3) rfl ?_
          refine V_iload X dX0_least_114 (q := 4) rfl ?_
          refine V_iload X dX0_least_116 (q := 5) rfl ?_
          refine V_iconst X dX0_least_118 ?_
          refine V_iadd X dX0_least_119 ?_
          refine V_callS_i X _ (As := [.ref (a 4), iv p1, iv y15, iv p3, iv p4, iv (p5 + 1)]) (st := []) (hW hw) (va_cwS 6 X.2.2.2.1 gX0_least_X0_least rfl rfl rfl (by decide +kernel) ⟨(by dsimp only; omega), (by dsimp only; omega)⟩) rfl (Nat.le_of_ble_eq_true rfl) ⟨Nat.le_of_ble_eq_true rfl, Nat.le_of_ble_eq_true rfl⟩ rfl dX0_least_120 (fun y17 M18 hw => ?_)
          refine V_aload X dX0_least_123 (q := 6) rfl ?_
          refine V_getN (C := RX6) (T := TX6) (N := 6) (ci := 6) X hi_X0_least_6 gO_9 rfl 3 (by decide) (List.mem_of_getElem? (i := 51) rfl) (fun _ h9 => h9) rfl dX0_least_125 ?_
          refine V_iload X dX0_least_128 (q := 9) rfl ?_
          obtain ⟨h19, hw⟩ := hw
          refine V_iald X (gA_9_3) h19 (by decide) dX0_least_130 ?_
          refine V_iadd X dX0_least_131 ?_
          refine V_aload_n X dX0_least_132 rfl (q := 0) rfl ?_
          refine V_iload_n X dX0_least_133 rfl (q := 1) rfl ?_
          refine V_iload_n X dX0_least_134 rfl (q := 2) rfl ?_
          refine V_iload_n X dX0_least_135 rfl (q := 3) rfl ?_
          refine V_iload X dX0_least_136 (q := 10) rfl ?_
          refine V_iload X dX0_least_138 (q := 5) rfl ?_
          refine V_iconst X dX0_least_140 ?_
          refine V_iadd X dX0_least_141 ?_
          refine V_callS_i X _ (As := [.ref (a 4), iv p1, iv p2, iv p3, iv y16, iv (p5 + 1)]) (st := [iv (y17 + (M18 9 3 y15.toNat))]) (hW hw) (va_cwS 6 X.2.2.2.1 gX0_least_X0_least rfl rfl rfl (by decide +kernel) ⟨(by dsimp only; omega), (by dsimp only; omega)⟩) rfl (Nat.le_of_ble_eq_true rfl) ⟨Nat.le_of_ble_eq_true rfl, Nat.le_of_ble_eq_true rfl⟩ rfl dX0_least_142 (fun y20 M21 hw => ?_)
          refine V_aload X dX0_least_145 (q := 7) rfl ?_
          refine V_getN (C := RX6) (T := TX6) (N := 6) (ci := 6) X hi_X0_least_6 gO_10 rfl 3 (by decide) (List.mem_of_getElem? (i := 51) rfl) (fun _ h9 => h9) rfl dX0_least_147 ?_
          refine V_iload X dX0_least_150 (q := 10) rfl ?_
          obtain ⟨h22, hw⟩ := hw
          refine V_iald X (gA_10_3) h22 (by decide) dX0_least_152 ?_
          refine V_iadd X dX0_least_153 ?_
          obtain ⟨h23, h24, hw⟩ := hw
          refine V_min X h23 h24 lk_X0_least_m47 lk_X0_least_mins lk_X0_least_mini lk_X0_least_minc (by dsimp only; omega) (Nat.le_trans (m := 40) (Nat.le_of_ble_eq_true rfl) (by dsimp only; omega)) (Nat.zero_le _) (Nat.zero_le _) dX0_least_154 ?_
          refine V_top (fun y25 ey25 => ?_)
          have hw := hw y25 ey25
          refine V_istore (lv1 := [(0, .ref (a 4)), (1, iv p1), (2, iv p2), (3, iv p3), (4, iv p4), (5, iv p5), (6, .ref (a 9)), (7, .ref (a 10)), (8, iv y11), (9, iv y15), (10, iv y16), (11, iv y25)]) X [1, 2, 3, 4, 5, 6, 7, 8, 9, 10, 11, 0] dX0_least_157 (by decide) rfl ?_
          refine V_aload_n X dX0_least_159 rfl (q := 0) rfl ?_
          refine V_get (C := RX0) (T := TX0) (N := 2) (ci := 0) X hi_X0_least_0 gO_4 rfl 0 (by decide) lk_X0_least_f15 (fun _ h9 => h9) rfl dX0_least_160 ?_
          refine V_getN (C := RX3) (T := TX3) (N := 4) (ci := 3) X hi_X0_least_3 gO_2 rfl 3 (by decide) (List.mem_of_getElem? (i := 68) rfl) (fun _ h9 => h9) rfl dX0_least_163 ?_
          refine V_iload X dX0_least_166 (q := 9) rfl ?_
          refine V_bipush X dX0_least_168 rfl ?_
          refine V_imul X dX0_least_170 ?_
          refine V_iload X dX0_least_171 (q := 10) rfl ?_
          refine V_iadd X dX0_least_173 ?_
          obtain ⟨h26, hw⟩ := hw
          refine V_iald X (gA_2_3) h26 (by decide) dX0_least_174 ?_
          refine V_top (fun y27 ey27 => ?_)
          have hw := hw y27 ey27
          refine V_istore (lv1 := [(0, .ref (a 4)), (1, iv p1), (2, iv p2), (3, iv p3), (4, iv p4), (5, iv p5), (6, .ref (a 9)), (7, .ref (a 10)), (8, iv y11), (9, iv y15), (10, iv y16), (11, iv y25), (12, iv y27)]) X [1, 2, 3, 4, 5, 6, 7, 8, 9, 10, 11, 12, 0] dX0_least_175 (by decide) rfl ?_
          refine V_iload X dX0_least_177 (q := 12) rfl ?_
          refine V_ldc (x := 1000000) X lk_X0_least_c55 (by decide) dX0_least_179 ?_
          obtain ⟨h28, hw⟩ := hw
          refine V_icmp_ge (tgt := 257) X h28 ⟨by decide, by decide⟩ dX0_least_181 (by decide) (fun q29 => ?_) (fun q29 => ?_)
          · have hw := hw.1 q29
            refine V_sub (lv1 := [(0, .ref (a 4)), (8, iv y11), (11, iv y25)]) [0, 8, 11] rfl ?_
            exact wkj_X0_least_257 X hr hW hw
          · have hw := hw.2 q29
            refine V_aload_n X dX0_least_184 rfl (q := 0) rfl ?_
            refine V_aload X dX0_least_185 (q := 6) rfl ?_
            refine V_getN (C := RX6) (T := TX6) (N := 6) (ci := 6) X hi_X0_least_6 gO_9 rfl 1 (by decide) (List.mem_of_getElem? (i := 46) rfl) (fun _ h9 => h9) rfl dX0_least_187 ?_
            refine V_iload X dX0_least_190 (q := 9) rfl ?_
            obtain ⟨h30, hw⟩ := hw
            refine V_iald X (gA_9_1) h30 (by decide) dX0_least_192 ?_
            refine V_iload X dX0_least_193 (q := 9) rfl ?_
            refine V_aload X dX0_least_195 (q := 7) rfl ?_
            refine V_getN (C := RX6) (T := TX6) (N := 6) (ci := 6) X hi_X0_least_6 gO_10 rfl 1 (by decide) (List.mem_of_getElem? (i := 46) rfl) (fun _ h9 => h9) rfl dX0_least_197 ?_
            refine V_iload X dX0_least_200 (q := 10) rfl ?_
            obtain ⟨h31, hw⟩ := hw
            refine V_iald X (gA_10_1) h31 (by decide) dX0_least_202 ?_
            refine V_iload X dX0_least_203 (q := 10) rfl ?_
            refine V_iload X dX0_least_205 (q := 5) rfl ?_
            refine V_iconst X dX0_least_207 ?_
            refine V_iadd X dX0_least_208 ?_
            refine V_callS_i X _ (As := [.ref (a 4), iv ((M21 9 1 y15.toNat)), iv y15, iv ((M21 10 1 y16.toNat)), iv y16, iv (p5 + 1)]) (st := []) (hW hw) (va_cwS 6 X.2.2.2.1 gX0_least_X0_least rfl rfl rfl (by decide +kernel) ⟨(by dsimp only; omega), (by dsimp only; omega)⟩) rfl (Nat.le_of_ble_eq_true rfl) ⟨Nat.le_of_ble_eq_true rfl, Nat.le_of_ble_eq_true rfl⟩ rfl dX0_least_209 (fun y32 M33 hw => ?_)
            refine V_istore (lv1 := [(0, .ref (a 4)), (1, iv p1), (2, iv p2), (3, iv p3), (4, iv p4), (5, iv p5), (6, .ref (a 9)), (7, .ref (a 10)), (8, iv y11), (9, iv y15), (10, iv y16), (11, iv y25), (12, iv y27), (13, iv y32)]) X [1, 2, 3, 4, 5, 6, 7, 8, 9, 10, 11, 12, 13, 0] dX0_least_212 (by decide) rfl ?_
            refine V_aload_n X dX0_least_214 rfl (q := 0) rfl ?_
            refine V_iload_n X dX0_least_215 rfl (q := 1) rfl ?_
            refine V_aload X dX0_least_216 (q := 6) rfl ?_
            refine V_getN (C := RX6) (T := TX6) (N := 6) (ci := 6) X hi_X0_least_6 gO_9 rfl 1 (by decide) (List.mem_of_getElem? (i := 46) rfl) (fun _ h9 => h9) rfl dX0_least_218 ?_
            refine V_iload X dX0_least_221 (q := 9) rfl ?_
            obtain ⟨h34, hw⟩ := hw
            refine V_iald X (gA_9_1) h34 (by decide) dX0_least_223 ?_
            refine V_iload_n X dX0_least_224 rfl (q := 3) rfl ?_
            refine V_aload X dX0_least_225 (q := 7) rfl ?_
            refine V_getN (C := RX6) (T := TX6) (N := 6) (ci := 6) X hi_X0_least_6 gO_10 rfl 1 (by decide) (List.mem_of_getElem? (i := 46) rfl) (fun _ h9 => h9) rfl dX0_least_227 ?_
            refine V_iload X dX0_least_230 (q := 10) rfl ?_
            obtain ⟨h35, hw⟩ := hw
            refine V_iald X (gA_10_1) h35 (by decide) dX0_least_232 ?_
            refine V_iload X dX0_least_233 (q := 5) rfl ?_
            refine V_iconst X dX0_least_235 ?_
            refine V_iadd X dX0_least_236 ?_
            refine V_callS_i X _ (As := [.ref (a 4), iv p1, iv ((M33 9 1 y15.toNat)), iv p3, iv ((M33 10 1 y16.toNat)), iv (p5 + 1)]) (st := []) (hW hw) (va_cwS 6 X.2.2.2.1 gX0_least_X0_least rfl rfl rfl (by decide +kernel) ⟨(by dsimp only; omega), (by dsimp only; omega)⟩) rfl (Nat.le_of_ble_eq_true rfl) ⟨Nat.le_of_ble_eq_true rfl, Nat.le_of_ble_eq_true rfl⟩ rfl dX0_least_237 (fun y36 M37 hw => ?_)
            refine V_istore (lv1 := [(0, .ref (a 4)), (1, iv p1), (2, iv p2), (3, iv p3), (4, iv p4), (5, iv p5), (6, .ref (a 9)), (7, .ref (a 10)), (8, iv y11), (9, iv y15), (10, iv y16), (11, iv y25), (12, iv y27), (13, iv y32), (14, iv y36)]) X [1, 2, 3, 4, 5, 6, 7, 8, 9, 10, 11, 12, 13, 14, 0] dX0_least_240 (by decide) rfl ?_
            refine V_iload X dX0_least_242 (q := 11) rfl ?_
            refine V_iload X dX0_least_244 (q := 12) rfl ?_
            refine V_iload X dX0_least_246 (q := 13) rfl ?_
            refine V_iadd X dX0_least_248 ?_
            refine V_iload X dX0_least_249 (q := 14) rfl ?_
            refine V_iadd X dX0_least_251 ?_
            obtain ⟨h38, h39, hw⟩ := hw
            refine V_min X h38 h39 lk_X0_least_m47 lk_X0_least_mins lk_X0_least_mini lk_X0_least_minc (by dsimp only; omega) (Nat.le_trans (m := 40) (Nat.le_of_ble_eq_true rfl) (by dsimp only; omega)) (Nat.zero_le _) (Nat.zero_le _) dX0_least_252 ?_
            refine V_top (fun y40 ey40 => ?_)
            have hw := hw y40 ey40
            refine V_istore (lv1 := [(0, .ref (a 4)), (1, iv p1), (2, iv p2), (3, iv p3), (4, iv p4), (5, iv p5), (6, .ref (a 9)), (7, .ref (a 10)), (8, iv y11), (9, iv y15), (10, iv y16), (11, iv y40), (12, iv y27), (13, iv y32), (14, iv y36)]) X [1, 2, 3, 4, 5, 6, 7, 8, 9, 10, 11, 0, 12, 13, 14] dX0_least_255 (by decide) rfl ?_
            refine V_sub (lv1 := [(0, .ref (a 4)), (8, iv y11), (11, iv y40)]) [0, 8, 11] rfl ?_
            exact wkj_X0_least_257 X hr hW hw
        · have hw := hw.2 q14
          refine V_aload_n X dX0_least_90 rfl (q := 0) rfl ?_
          refine V_get (C := RX0) (T := TX0) (N := 2) (ci := 0) X hi_X0_least_0 gO_4 rfl 1 (by decide) lk_X0_least_f11 (fun _ h9 => h9) rfl dX0_least_91 ?_
          refine V_iload X dX0_least_94 (q := 8) rfl ?_
          obtain ⟨h41, hw⟩ := hw
          refine V_iald X (gA_4_1) h41 (by decide) dX0_least_96 ?_
          exact V_iret X hr hw dX0_least_97
      · have hw := hw.2 q8
        refine V_sub (lv1 := [(1, iv p1), (2, iv p2), (3, iv p3), (4, iv p4), (6, .ref (a 9)), (7, .ref (a 10))]) [1, 2, 3, 4, 6, 7] rfl ?_
        exact wkj_X0_least_36 X hr hW hw
def wpn_X0_least : Nat → Mem → Int → Int → Int → Int → Int → (Int → Mem → Prop) → Prop
  | 0 => fun _ _ _ _ _ _ _ => False
  | n + 1 => fun M p1 p2 p3 p4 p5 Q => wpe_X0_least (wpn_X0_least n) p1 p2 p3 p4 p5 M Q
def wp_X0_least (M : Mem) (p1 p2 p3 p4 p5 : Int) (Q : Int → Mem → Prop) : Prop := ∃ n9 : Nat, n9 = 27 ∧ wpn_X0_least n9 M p1 p2 p3 p4 p5 Q
set_option maxHeartbeats 4000000 in
set_option maxRecDepth 100000 in
theorem cn_X0_least (l : Launch) {D : va_G} {g : GT} {A : Nat → Prop} {a : Nat → Nat} {b : Nat → Nat → Nat} : ∀ (n : Nat) {M : Mem} {p1 p2 p3 p4 p5 : Int} {Q : Int → Mem → Prop} (hw : wpn_X0_least n M p1 p2 p3 p4 p5 Q), Met l yX0_least wsX0_least ({ frames := n + 1, cells := 0, slots := 0, locals := 34 * n + 40 } : Room) (cPc D g A a b M [.ref (a 4), iv p1, iv p2, iv p3, iv p4, iv p5]) (cQi D g A a b Q) 0 0 A := by
  intro n
  induction n with
  | zero => exact fun hw => hw.elim
  | succ n ih =>
    intro M p1 p2 p3 p4 p5 Q hw
    refine Met.ofW (cc := cX0_least) (maxL := 15) (ret := (some .int)) (by decide) rfl ?_
    intro p e s m args below meth c s₁ B hml hv
    obtain ⟨rfl, hP, hD, hG⟩ := hv
    have X : vC p s m _ meth c D g A RX0 wsX0_least cX0_least 15 := ⟨B.exec, B.bytes, findClass_of_methodNamed B.named, atoms_spec (ws := wsX0_least) B.pre, hG, hml, B.notSynchronized⟩
    have hr := B.returns
    have hl := lv_entry ([.ref (a 4), iv p1, iv p2, iv p3, iv p4, iv p5]) (n := 15) (Nat.le_of_ble_eq_true rfl)
    rw [lg_entry_eq]
    generalize (lg_sl ([.ref (a 4), iv p1, iv p2, iv p3, iv p4, iv p5]) ++ List.replicate (15 - (lg_sl ([.ref (a 4), iv p1, iv p2, iv p3, iv p4, iv p5])).length) Slot.unset).toArray = ls at hl ⊢
    have hl : lv_has ls 15 [(0, .ref (a 4)), (1, iv p1), (2, iv p2), (3, iv p3), (4, iv p4), (5, iv p5)] := hl
    exact wke_X0_least X hr (fun hw => ih hw) hw s.heap [] ls hP hD va_S.rf hl
theorem c_X0_least (l : Launch) {p1 p2 p3 p4 p5 : Int} {D : va_G} {g : GT} {A : Nat → Prop} {a : Nat → Nat} {b : Nat → Nat → Nat} {M : Mem} {Q : Int → Mem → Prop} (hw : wp_X0_least M p1 p2 p3 p4 p5 Q) : Met l yX0_least wsX0_least ({ frames := 28, cells := 0, slots := 0, locals := 958 } : Room) (cPc D g A a b M [.ref (a 4), iv p1, iv p2, iv p3, iv p4, iv p5]) (cQi D g A a b Q) 0 0 A := by
  obtain ⟨n9, rfl, hw⟩ := hw
  exact cn_X0_least l 27 hw

set_option maxRecDepth 20000 in
theorem ggX4_leastWith_X0_least : GoodIn wsX4_leastWith wsX0_least := goodIn_r _ [9, 10, 11, 12, 13, 14, 15, 16, 17, 18, 19, 20, 21, 22, 7, 8, 41, 42, 31, 32, 33, 34, 35, 36, 37, 38, 39, 40] (by decide +kernel) (by decide +kernel)
set_option maxRecDepth 20000 in
theorem gX4_leastWith_X0_least_n65 : GoodIn wsX4_leastWith (wsX0_least) := ggX4_leastWith_X0_least
set_option maxRecDepth 20000 in
theorem ggX4_leastWith_X6_allAlone : GoodIn wsX4_leastWith wsX6_allAlone := goodIn_r _ [20, 21, 35, 36, 37, 38, 39, 40] (by decide +kernel) (by decide +kernel)
set_option maxRecDepth 20000 in
theorem gX4_leastWith_X6_allAlone_n82 : GoodIn wsX4_leastWith (wsX6_allAlone) := ggX4_leastWith_X6_allAlone
theorem dX4_leastWith_0 : decode cX4_leastWith 0 = .ok (.aload_n 0, 1) := by decide +kernel
theorem dX4_leastWith_1 : decode cX4_leastWith 1 = .ok (.getfield 27, 3) := by decide +kernel
theorem dX4_leastWith_4 : decode cX4_leastWith 4 = .ok (.getfield 75, 3) := by decide +kernel
theorem dX4_leastWith_7 : decode cX4_leastWith 7 = .ok (.iload_n 1, 1) := by decide +kernel
theorem dX4_leastWith_8 : decode cX4_leastWith 8 = .ok (.bipush 12, 2) := by decide +kernel
theorem dX4_leastWith_10 : decode cX4_leastWith 10 = .ok (.imul, 1) := by decide +kernel
theorem dX4_leastWith_11 : decode cX4_leastWith 11 = .ok (.iload_n 2, 1) := by decide +kernel
theorem dX4_leastWith_12 : decode cX4_leastWith 12 = .ok (.iadd, 1) := by decide +kernel
theorem dX4_leastWith_13 : decode cX4_leastWith 13 = .ok (.iaload, 1) := by decide +kernel
theorem dX4_leastWith_14 : decode cX4_leastWith 14 = .ok (.istore_n 3, 1) := by decide +kernel
theorem dX4_leastWith_15 : decode cX4_leastWith 15 = .ok (.iload_n 3, 1) := by decide +kernel
theorem dX4_leastWith_16 : decode cX4_leastWith 16 = .ok (.ldc 78, 2) := by decide +kernel
theorem dX4_leastWith_18 : decode cX4_leastWith 18 = .ok (.if_icmp .lt 6, 3) := by decide +kernel
theorem dX4_leastWith_21 : decode cX4_leastWith 21 = .ok (.ldc 78, 2) := by decide +kernel
theorem dX4_leastWith_23 : decode cX4_leastWith 23 = .ok (.ireturn, 1) := by decide +kernel
theorem dX4_leastWith_24 : decode cX4_leastWith 24 = .ok (.aload_n 0, 1) := by decide +kernel
theorem dX4_leastWith_25 : decode cX4_leastWith 25 = .ok (.getfield 27, 3) := by decide +kernel
theorem dX4_leastWith_28 : decode cX4_leastWith 28 = .ok (.getfield 54, 3) := by decide +kernel
theorem dX4_leastWith_31 : decode cX4_leastWith 31 = .ok (.getfield 79, 3) := by decide +kernel
theorem dX4_leastWith_34 : decode cX4_leastWith 34 = .ok (.iload_n 1, 1) := by decide +kernel
theorem dX4_leastWith_35 : decode cX4_leastWith 35 = .ok (.iaload, 1) := by decide +kernel
theorem dX4_leastWith_36 : decode cX4_leastWith 36 = .ok (.istore 4, 2) := by decide +kernel
theorem dX4_leastWith_38 : decode cX4_leastWith 38 = .ok (.aload_n 0, 1) := by decide +kernel
theorem dX4_leastWith_39 : decode cX4_leastWith 39 = .ok (.getfield 27, 3) := by decide +kernel
theorem dX4_leastWith_42 : decode cX4_leastWith 42 = .ok (.getfield 41, 3) := by decide +kernel
theorem dX4_leastWith_45 : decode cX4_leastWith 45 = .ok (.getfield 79, 3) := by decide +kernel
theorem dX4_leastWith_48 : decode cX4_leastWith 48 = .ok (.iload_n 2, 1) := by decide +kernel
theorem dX4_leastWith_49 : decode cX4_leastWith 49 = .ok (.iaload, 1) := by decide +kernel
theorem dX4_leastWith_50 : decode cX4_leastWith 50 = .ok (.istore 5, 2) := by decide +kernel
theorem dX4_leastWith_52 : decode cX4_leastWith 52 = .ok (.aload_n 0, 1) := by decide +kernel
theorem dX4_leastWith_53 : decode cX4_leastWith 53 = .ok (.getfield 31, 3) := by decide +kernel
theorem dX4_leastWith_56 : decode cX4_leastWith 56 = .ok (.iload 4, 2) := by decide +kernel
theorem dX4_leastWith_58 : decode cX4_leastWith 58 = .ok (.iload_n 1, 1) := by decide +kernel
theorem dX4_leastWith_59 : decode cX4_leastWith 59 = .ok (.iload 5, 2) := by decide +kernel
theorem dX4_leastWith_61 : decode cX4_leastWith 61 = .ok (.iload_n 2, 1) := by decide +kernel
theorem dX4_leastWith_62 : decode cX4_leastWith 62 = .ok (.iconst 0, 1) := by decide +kernel
theorem dX4_leastWith_63 : decode cX4_leastWith 63 = .ok (.invokestatic 65, 3) := by decide +kernel
theorem dX4_leastWith_66 : decode cX4_leastWith 66 = .ok (.istore 6, 2) := by decide +kernel
theorem dX4_leastWith_68 : decode cX4_leastWith 68 = .ok (.aload_n 0, 1) := by decide +kernel
theorem dX4_leastWith_69 : decode cX4_leastWith 69 = .ok (.getfield 31, 3) := by decide +kernel
theorem dX4_leastWith_72 : decode cX4_leastWith 72 = .ok (.aload_n 0, 1) := by decide +kernel
theorem dX4_leastWith_73 : decode cX4_leastWith 73 = .ok (.getfield 18, 3) := by decide +kernel
theorem dX4_leastWith_76 : decode cX4_leastWith 76 = .ok (.iload_n 1, 1) := by decide +kernel
theorem dX4_leastWith_77 : decode cX4_leastWith 77 = .ok (.iaload, 1) := by decide +kernel
theorem dX4_leastWith_78 : decode cX4_leastWith 78 = .ok (.iload 4, 2) := by decide +kernel
theorem dX4_leastWith_80 : decode cX4_leastWith 80 = .ok (.aload_n 0, 1) := by decide +kernel
theorem dX4_leastWith_81 : decode cX4_leastWith 81 = .ok (.getfield 21, 3) := by decide +kernel
theorem dX4_leastWith_84 : decode cX4_leastWith 84 = .ok (.iload_n 1, 1) := by decide +kernel
theorem dX4_leastWith_85 : decode cX4_leastWith 85 = .ok (.iaload, 1) := by decide +kernel
theorem dX4_leastWith_86 : decode cX4_leastWith 86 = .ok (.iload 5, 2) := by decide +kernel
theorem dX4_leastWith_88 : decode cX4_leastWith 88 = .ok (.iconst 0, 1) := by decide +kernel
theorem dX4_leastWith_89 : decode cX4_leastWith 89 = .ok (.invokestatic 65, 3) := by decide +kernel
theorem dX4_leastWith_92 : decode cX4_leastWith 92 = .ok (.istore 7, 2) := by decide +kernel
theorem dX4_leastWith_94 : decode cX4_leastWith 94 = .ok (.iload_n 3, 1) := by decide +kernel
theorem dX4_leastWith_95 : decode cX4_leastWith 95 = .ok (.iload 6, 2) := by decide +kernel
theorem dX4_leastWith_97 : decode cX4_leastWith 97 = .ok (.iadd, 1) := by decide +kernel
theorem dX4_leastWith_98 : decode cX4_leastWith 98 = .ok (.iload 7, 2) := by decide +kernel
theorem dX4_leastWith_100 : decode cX4_leastWith 100 = .ok (.iadd, 1) := by decide +kernel
theorem dX4_leastWith_101 : decode cX4_leastWith 101 = .ok (.aload_n 0, 1) := by decide +kernel
theorem dX4_leastWith_102 : decode cX4_leastWith 102 = .ok (.getfield 27, 3) := by decide +kernel
theorem dX4_leastWith_105 : decode cX4_leastWith 105 = .ok (.getfield 41, 3) := by decide +kernel
theorem dX4_leastWith_108 : decode cX4_leastWith 108 = .ok (.iload_n 2, 1) := by decide +kernel
theorem dX4_leastWith_109 : decode cX4_leastWith 109 = .ok (.iconst 1, 1) := by decide +kernel
theorem dX4_leastWith_110 : decode cX4_leastWith 110 = .ok (.iadd, 1) := by decide +kernel
theorem dX4_leastWith_111 : decode cX4_leastWith 111 = .ok (.aload_n 0, 1) := by decide +kernel
theorem dX4_leastWith_112 : decode cX4_leastWith 112 = .ok (.getfield 24, 3) := by decide +kernel
theorem dX4_leastWith_115 : decode cX4_leastWith 115 = .ok (.iload_n 1, 1) := by decide +kernel
theorem dX4_leastWith_116 : decode cX4_leastWith 116 = .ok (.iaload, 1) := by decide +kernel
theorem dX4_leastWith_117 : decode cX4_leastWith 117 = .ok (.invokevirtual 82, 3) := by decide +kernel
theorem dX4_leastWith_120 : decode cX4_leastWith 120 = .ok (.iadd, 1) := by decide +kernel
theorem dX4_leastWith_121 : decode cX4_leastWith 121 = .ok (.ireturn, 1) := by decide +kernel
theorem lk_X4_leastWith_f27 : Cond.fieldLink RX4 27 "TreeComparer$Mapping" "layout" "LTreeComparer$Layout;" ∈ wsX4_leastWith := by decide +kernel
theorem hi_X4_leastWith_4 : ∀ w ∈ u_ws RX4 TX4 8, w ∈ wsX4_leastWith := by decide +kernel
theorem hi_X4_leastWith_3 : ∀ w ∈ u_ws RX3 TX3 4, w ∈ wsX4_leastWith := by decide +kernel
theorem lk_X4_leastWith_c78 : Cond.constant RX4 78 (1000000) ∈ wsX4_leastWith := by decide +kernel
theorem hi_X4_leastWith_6 : ∀ w ∈ u_ws RX6 TX6 6, w ∈ wsX4_leastWith := by decide +kernel
theorem lk_X4_leastWith_f31 : Cond.fieldLink RX4 31 "TreeComparer$Mapping" "forests" "LTreeComparer$ForestTable;" ∈ wsX4_leastWith := by decide +kernel
theorem lk_X4_leastWith_i0 : Cond.initialized RX0 ∈ wsX4_leastWith := by decide +kernel
theorem lk_X4_leastWith_im65 : Cond.static yX0_least ∈ wsX4_leastWith := by decide +kernel
theorem lk_X4_leastWith_f18 : Cond.fieldLink RX4 18 "TreeComparer$Mapping" "oldFrom" "[I" ∈ wsX4_leastWith := by decide +kernel
theorem lk_X4_leastWith_f21 : Cond.fieldLink RX4 21 "TreeComparer$Mapping" "newFrom" "[I" ∈ wsX4_leastWith := by decide +kernel
theorem lk_X4_leastWith_f24 : Cond.fieldLink RX4 24 "TreeComparer$Mapping" "newTo" "[I" ∈ wsX4_leastWith := by decide +kernel
theorem lk_X4_leastWith_i6 : Cond.initialized RX6 ∈ wsX4_leastWith := by decide +kernel
theorem lk_X4_leastWith_im82 : Cond.instanceMethod yX6_allAlone ∈ wsX4_leastWith := by decide +kernel
theorem lk_X4_leastWith_se82 : Cond.selects RX6 yX6_allAlone yX6_allAlone ∈ wsX4_leastWith := by decide +kernel
def wpe_X4_leastWith (p0 : Int) (p1 : Int) (M : Mem) (Q : Int → Mem → Prop) : Prop := ((0 : Int) ≤ (p0 * 12) + p1 ∧ (p0 * 12) + p1 < 144) ∧ (∀ y2 : Int, y2 = (M 2 3 ((p0 * 12) + p1).toNat) → inR y2 ∧ ((y2 < 1000000 → ((0 : Int) ≤ p0 ∧ p0 < 12) ∧ (∀ y6 : Int, y6 = (M 9 1 p0.toNat) → ((0 : Int) ≤ p1 ∧ p1 < 12) ∧ (∀ y8 : Int, y8 = (M 10 1 p1.toNat) → wp_X0_least M y6 p0 y8 p1 0 (fun y9 M10 => ((0 : Int) ≤ p0 ∧ p0 < 12) ∧ ((0 : Int) ≤ p0 ∧ p0 < 12) ∧ wp_X0_least M10 ((M10 6 4 p0.toNat)) y6 ((M10 6 5 p0.toNat)) y8 0 (fun y13 M14 => ((0 : Int) ≤ p0 ∧ p0 < 12) ∧ wp_X6_allAlone M14 10 (p1 + 1) ((M14 6 6 p0.toNat)) (fun y16 M17 => Q (((y2 + y9) + y13) + y16) M17)))))) ∧ (¬ (y2 < 1000000) → Q 1000000 M)))
def wp_X4_leastWith (M : Mem) (p0 : Int) (p1 : Int) (Q : Int → Mem → Prop) : Prop := wpe_X4_leastWith p0 p1 M Q
set_option maxHeartbeats 4000000 in
set_option maxRecDepth 100000 in
theorem wke_X4_leastWith {p : Program} {l : Launch} {e : Env} {s : State} {m : MethodId} {args : Array Value} {below : List Frame} {meth : Method} {c : Code} {D : va_G} {g : GT} {A : Nat → Prop} {a : Nat → Nat} {b : Nat → Nat → Nat} (X : vC p s m args meth c D g A RX4 wsX4_leastWith cX4_leastWith 8) (hr : meth.sig.returnType = (some .int)) {p0 : Int} {p1 : Int} {M : Mem} {Q : Int → Mem → Prop} (hw : wpe_X4_leastWith p0 p1 M Q) : vV p l e ({ frames := 29, cells := 0, slots := 0, locals := 992 } : Room) s m args below meth c D g A a b 8 0 0 (MQ below (cQi D g A a b Q) args s 0 0 A) M [(0, .ref (a 6)), (1, iv p0), (2, iv p1)] 0 [] := by
  unfold wpe_X4_leastWith at hw
  refine V_aload_n X dX4_leastWith_0 rfl (q := 0) rfl ?_
  refine V_get (C := RX4) (T := TX4) (N := 8) (ci := 4) X hi_X4_leastWith_4 gO_6 rfl 0 (by decide) lk_X4_leastWith_f27 (fun _ h9 => h9) rfl dX4_leastWith_1 ?_
  refine V_getN (C := RX3) (T := TX3) (N := 4) (ci := 3) X hi_X4_leastWith_3 gO_2 rfl 3 (by decide) (List.mem_of_getElem? (i := 69) rfl) (fun _ h9 => h9) rfl dX4_leastWith_4 ?_
  refine V_iload_n X dX4_leastWith_7 rfl (q := 1) rfl ?_
  refine V_bipush X dX4_leastWith_8 rfl ?_
  refine V_imul X dX4_leastWith_10 ?_
  refine V_iload_n X dX4_leastWith_11 rfl (q := 2) rfl ?_
  refine V_iadd X dX4_leastWith_12 ?_
  obtain ⟨h1, hw⟩ := hw
  refine V_iald X (gA_2_3) h1 (by decide) dX4_leastWith_13 ?_
  refine V_top (fun y2 ey2 => ?_)
  have hw := hw y2 ey2
  refine V_istore_n (lv1 := [(0, .ref (a 6)), (1, iv p0), (2, iv p1), (3, iv y2)]) X [1, 2, 3, 0] dX4_leastWith_14 rfl (by decide) rfl ?_
  refine V_iload_n X dX4_leastWith_15 rfl (q := 3) rfl ?_
  refine V_ldc (x := 1000000) X lk_X4_leastWith_c78 (by decide) dX4_leastWith_16 ?_
  obtain ⟨h3, hw⟩ := hw
  refine V_icmp_lt (tgt := 24) X h3 ⟨by decide, by decide⟩ dX4_leastWith_18 (by decide) (fun q4 => ?_) (fun q4 => ?_)
  · have hw := hw.1 q4
    refine V_aload_n X dX4_leastWith_24 rfl (q := 0) rfl ?_
    refine V_get (C := RX4) (T := TX4) (N := 8) (ci := 4) X hi_X4_leastWith_4 gO_6 rfl 0 (by decide) lk_X4_leastWith_f27 (fun _ h9 => h9) rfl dX4_leastWith_25 ?_
    refine V_getN (C := RX3) (T := TX3) (N := 4) (ci := 3) X hi_X4_leastWith_3 gO_2 rfl 1 (by decide) (List.mem_of_getElem? (i := 59) rfl) (fun _ h9 => h9) rfl dX4_leastWith_28 ?_
    refine V_getN (C := RX6) (T := TX6) (N := 6) (ci := 6) X hi_X4_leastWith_6 gO_9 rfl 1 (by decide) (List.mem_of_getElem? (i := 48) rfl) (fun _ h9 => h9) rfl dX4_leastWith_31 ?_
    refine V_iload_n X dX4_leastWith_34 rfl (q := 1) rfl ?_
    obtain ⟨h5, hw⟩ := hw
    refine V_iald X (gA_9_1) h5 (by decide) dX4_leastWith_35 ?_
    refine V_top (fun y6 ey6 => ?_)
    have hw := hw y6 ey6
    refine V_istore (lv1 := [(0, .ref (a 6)), (1, iv p0), (2, iv p1), (3, iv y2), (4, iv y6)]) X [1, 2, 3, 4, 0] dX4_leastWith_36 (by decide) rfl ?_
    refine V_aload_n X dX4_leastWith_38 rfl (q := 0) rfl ?_
    refine V_get (C := RX4) (T := TX4) (N := 8) (ci := 4) X hi_X4_leastWith_4 gO_6 rfl 0 (by decide) lk_X4_leastWith_f27 (fun _ h9 => h9) rfl dX4_leastWith_39 ?_
    refine V_getN (C := RX3) (T := TX3) (N := 4) (ci := 3) X hi_X4_leastWith_3 gO_2 rfl 2 (by decide) (List.mem_of_getElem? (i := 64) rfl) (fun _ h9 => h9) rfl dX4_leastWith_42 ?_
    refine V_getN (C := RX6) (T := TX6) (N := 6) (ci := 6) X hi_X4_leastWith_6 gO_10 rfl 1 (by decide) (List.mem_of_getElem? (i := 48) rfl) (fun _ h9 => h9) rfl dX4_leastWith_45 ?_
    refine V_iload_n X dX4_leastWith_48 rfl (q := 2) rfl ?_
    obtain ⟨h7, hw⟩ := hw
    refine V_iald X (gA_10_1) h7 (by decide) dX4_leastWith_49 ?_
    refine V_top (fun y8 ey8 => ?_)
    have hw := hw y8 ey8
    refine V_istore (lv1 := [(0, .ref (a 6)), (1, iv p0), (2, iv p1), (3, iv y2), (4, iv y6), (5, iv y8)]) X [1, 2, 3, 4, 5, 0] dX4_leastWith_50 (by decide) rfl ?_
    refine V_aload_n X dX4_leastWith_52 rfl (q := 0) rfl ?_
    refine V_get (C := RX4) (T := TX4) (N := 8) (ci := 4) X hi_X4_leastWith_4 gO_6 rfl 1 (by decide) lk_X4_leastWith_f31 (fun _ h9 => h9) rfl dX4_leastWith_53 ?_
    refine V_iload X dX4_leastWith_56 (q := 4) rfl ?_
    refine V_iload_n X dX4_leastWith_58 rfl (q := 1) rfl ?_
    refine V_iload X dX4_leastWith_59 (q := 5) rfl ?_
    refine V_iload_n X dX4_leastWith_61 rfl (q := 2) rfl ?_
    refine V_iconst X dX4_leastWith_62 ?_
    refine V_callSN_i X _ (As := [.ref (a 4), iv y6, iv p0, iv y8, iv p1, iv 0]) (st := []) (c_X0_least l hw) ⟨va_cnB 6 X.2.2.2.1 gX4_leastWith_X0_least_n65 rfl rfl rfl (X.2.2.2.2.1.2.1 _ (List.mem_of_getElem? (i := 112) rfl)) (X.2.2.2.1 _ lk_X4_leastWith_i0) (by decide +kernel) ⟨Nat.le_of_ble_eq_true rfl, Nat.le_of_ble_eq_true rfl⟩, X.2.2.2.1 _ lk_X4_leastWith_im65, trivial⟩ rfl (Nat.le_of_ble_eq_true rfl) ⟨Nat.le_of_ble_eq_true rfl, Nat.le_of_ble_eq_true rfl⟩ rfl dX4_leastWith_63 (fun y9 M10 hw => ?_)
    refine V_istore (lv1 := [(0, .ref (a 6)), (1, iv p0), (2, iv p1), (3, iv y2), (4, iv y6), (5, iv y8), (6, iv y9)]) X [1, 2, 3, 4, 5, 6, 0] dX4_leastWith_66 (by decide) rfl ?_
    refine V_aload_n X dX4_leastWith_68 rfl (q := 0) rfl ?_
    refine V_get (C := RX4) (T := TX4) (N := 8) (ci := 4) X hi_X4_leastWith_4 gO_6 rfl 1 (by decide) lk_X4_leastWith_f31 (fun _ h9 => h9) rfl dX4_leastWith_69 ?_
    refine V_aload_n X dX4_leastWith_72 rfl (q := 0) rfl ?_
    refine V_get (C := RX4) (T := TX4) (N := 8) (ci := 4) X hi_X4_leastWith_4 gO_6 rfl 4 (by decide) lk_X4_leastWith_f18 (fun _ h9 => h9) rfl dX4_leastWith_73 ?_
    refine V_iload_n X dX4_leastWith_76 rfl (q := 1) rfl ?_
    obtain ⟨h11, hw⟩ := hw
    refine V_iald X (gA_6_4) h11 (by decide) dX4_leastWith_77 ?_
    refine V_iload X dX4_leastWith_78 (q := 4) rfl ?_
    refine V_aload_n X dX4_leastWith_80 rfl (q := 0) rfl ?_
    refine V_get (C := RX4) (T := TX4) (N := 8) (ci := 4) X hi_X4_leastWith_4 gO_6 rfl 5 (by decide) lk_X4_leastWith_f21 (fun _ h9 => h9) rfl dX4_leastWith_81 ?_
    refine V_iload_n X dX4_leastWith_84 rfl (q := 1) rfl ?_
    obtain ⟨h12, hw⟩ := hw
    refine V_iald X (gA_6_5) h12 (by decide) dX4_leastWith_85 ?_
    refine V_iload X dX4_leastWith_86 (q := 5) rfl ?_
    refine V_iconst X dX4_leastWith_88 ?_
    refine V_callSN_i X _ (As := [.ref (a 4), iv ((M10 6 4 p0.toNat)), iv y6, iv ((M10 6 5 p0.toNat)), iv y8, iv 0]) (st := []) (c_X0_least l hw) ⟨va_cnB 6 X.2.2.2.1 gX4_leastWith_X0_least_n65 rfl rfl rfl (X.2.2.2.2.1.2.1 _ (List.mem_of_getElem? (i := 112) rfl)) (X.2.2.2.1 _ lk_X4_leastWith_i0) (by decide +kernel) ⟨Nat.le_of_ble_eq_true rfl, Nat.le_of_ble_eq_true rfl⟩, X.2.2.2.1 _ lk_X4_leastWith_im65, trivial⟩ rfl (Nat.le_of_ble_eq_true rfl) ⟨Nat.le_of_ble_eq_true rfl, Nat.le_of_ble_eq_true rfl⟩ rfl dX4_leastWith_89 (fun y13 M14 hw => ?_)
    refine V_istore (lv1 := [(0, .ref (a 6)), (1, iv p0), (2, iv p1), (3, iv y2), (4, iv y6), (5, iv y8), (6, iv y9), (7, iv y13)]) X [1, 2, 3, 4, 5, 6, 7, 0] dX4_leastWith_92 (by decide) rfl ?_
    refine V_iload_n X dX4_leastWith_94 rfl (q := 3) rfl ?_
    refine V_iload X dX4_leastWith_95 (q := 6) rfl ?_
    refine V_iadd X dX4_leastWith_97 ?_
    refine V_iload X dX4_leastWith_98 (q := 7) rfl ?_
    refine V_iadd X dX4_leastWith_100 ?_
    refine V_aload_n X dX4_leastWith_101 rfl (q := 0) rfl ?_
    refine V_get (C := RX4) (T := TX4) (N := 8) (ci := 4) X hi_X4_leastWith_4 gO_6 rfl 0 (by decide) lk_X4_leastWith_f27 (fun _ h9 => h9) rfl dX4_leastWith_102 ?_
    refine V_getN (C := RX3) (T := TX3) (N := 4) (ci := 3) X hi_X4_leastWith_3 gO_2 rfl 2 (by decide) (List.mem_of_getElem? (i := 64) rfl) (fun _ h9 => h9) rfl dX4_leastWith_105 ?_
    refine V_iload_n X dX4_leastWith_108 rfl (q := 2) rfl ?_
    refine V_iconst X dX4_leastWith_109 ?_
    refine V_iadd X dX4_leastWith_110 ?_
    refine V_aload_n X dX4_leastWith_111 rfl (q := 0) rfl ?_
    refine V_get (C := RX4) (T := TX4) (N := 8) (ci := 4) X hi_X4_leastWith_4 gO_6 rfl 6 (by decide) lk_X4_leastWith_f24 (fun _ h9 => h9) rfl dX4_leastWith_112 ?_
    refine V_iload_n X dX4_leastWith_115 rfl (q := 1) rfl ?_
    obtain ⟨h15, hw⟩ := hw
    refine V_iald X (gA_6_6) h15 (by decide) dX4_leastWith_116 ?_
    refine V_callVN_i X _ gO_10 rfl (As := [iv (p1 + 1), iv ((M14 6 6 p0.toNat))]) (st := [iv ((y2 + y9) + y13)]) (c_X6_allAlone l (by first | exact Or.inl rfl | exact Or.inr rfl) hw) ⟨va_cnB 2 X.2.2.2.1 gX4_leastWith_X6_allAlone_n82 rfl rfl rfl (X.2.2.2.2.1.2.1 _ (List.mem_of_getElem? (i := 113) rfl)) (X.2.2.2.1 _ lk_X4_leastWith_i6) (by decide +kernel) ⟨Nat.le_of_ble_eq_true rfl, Nat.le_of_ble_eq_true rfl⟩, X.2.2.2.1 _ lk_X4_leastWith_im82, X.2.2.2.1 _ lk_X4_leastWith_se82⟩ rfl (Nat.le_of_ble_eq_true rfl) ⟨Nat.le_of_ble_eq_true rfl, Nat.le_of_ble_eq_true rfl⟩ rfl dX4_leastWith_117 (fun y16 M17 hw => ?_)
    refine V_iadd X dX4_leastWith_120 ?_
    exact V_iret X hr hw dX4_leastWith_121
  · have hw := hw.2 q4
    refine V_ldc (x := 1000000) X lk_X4_leastWith_c78 (by decide) dX4_leastWith_21 ?_
    exact V_iret X hr hw dX4_leastWith_23
set_option maxHeartbeats 4000000 in
set_option maxRecDepth 100000 in
theorem c_X4_leastWith (l : Launch) {p0 : Int} {p1 : Int} {D : va_G} {g : GT} {A : Nat → Prop} {a : Nat → Nat} {b : Nat → Nat → Nat} {M : Mem} {Q : Int → Mem → Prop} (hw : wp_X4_leastWith M p0 p1 Q) : Met l yX4_leastWith wsX4_leastWith ({ frames := 29, cells := 0, slots := 0, locals := 992 } : Room) (cPc D g A a b M [.ref (a 6), iv p0, iv p1]) (cQi D g A a b Q) 0 0 A := by
  refine Met.ofW (cc := cX4_leastWith) (maxL := 8) (ret := (some .int)) (by decide) rfl ?_
  intro p e s m args below meth c s₁ B hml hv
  obtain ⟨rfl, hP, hD, hG⟩ := hv
  have X : vC p s m _ meth c D g A RX4 wsX4_leastWith cX4_leastWith 8 := ⟨B.exec, B.bytes, findClass_of_methodNamed B.named, atoms_spec (ws := wsX4_leastWith) B.pre, hG, hml, B.notSynchronized⟩
  have hr := B.returns
  have hl := lv_entry ([.ref (a 6), iv p0, iv p1]) (n := 8) (Nat.le_of_ble_eq_true rfl)
  rw [lg_entry_eq]
  generalize (lg_sl ([.ref (a 6), iv p0, iv p1]) ++ List.replicate (8 - (lg_sl ([.ref (a 6), iv p0, iv p1])).length) Slot.unset).toArray = ls at hl ⊢
  have hl : lv_has ls 8 [(0, .ref (a 6)), (1, iv p0), (2, iv p1)] := hl
  exact wke_X4_leastWith X hr  hw s.heap [] ls hP hD va_S.rf hl

set_option maxRecDepth 20000 in
theorem ggX4_firstPartner_X0_least : GoodIn wsX4_firstPartner wsX0_least := goodIn_r _ [7, 8, 9, 10, 11, 12, 13, 14, 15, 16, 17, 18, 19, 20, 5, 6, 36, 37, 38, 39, 40, 41, 42, 43, 44, 45, 46, 47] (by decide +kernel) (by decide +kernel)
set_option maxRecDepth 20000 in
theorem gX4_firstPartner_X0_least_n65 : GoodIn wsX4_firstPartner (wsX0_least) := ggX4_firstPartner_X0_least
set_option maxRecDepth 20000 in
theorem ggX4_firstPartner_X4_leastWith : GoodIn wsX4_firstPartner wsX4_leastWith := goodIn_r _ [25, 26, 27, 1, 2, 3, 4, 5, 6, 7, 8, 9, 10, 11, 12, 13, 14, 15, 16, 17, 18, 19, 20, 28, 29, 30, 31, 32, 33, 34, 35, 38, 39, 40, 41, 42, 43, 44, 45, 46, 47, 36, 37] (by decide +kernel) (by decide +kernel)
set_option maxRecDepth 20000 in
theorem gX4_firstPartner_X4_leastWith : GoodIn wsX4_firstPartner (wsV RX4 71 RX4 yX4_leastWith wsX4_leastWith) := goodIn_app (goodIn_of _ (by decide +kernel)) ggX4_firstPartner_X4_leastWith
theorem dX4_firstPartner_0 : decode cX4_firstPartner 0 = .ok (.aload_n 0, 1) := by decide +kernel
theorem dX4_firstPartner_1 : decode cX4_firstPartner 1 = .ok (.getfield 31, 3) := by decide +kernel
theorem dX4_firstPartner_4 : decode cX4_firstPartner 4 = .ok (.aload_n 0, 1) := by decide +kernel
theorem dX4_firstPartner_5 : decode cX4_firstPartner 5 = .ok (.getfield 18, 3) := by decide +kernel
theorem dX4_firstPartner_8 : decode cX4_firstPartner 8 = .ok (.iload_n 1, 1) := by decide +kernel
theorem dX4_firstPartner_9 : decode cX4_firstPartner 9 = .ok (.iaload, 1) := by decide +kernel
theorem dX4_firstPartner_10 : decode cX4_firstPartner 10 = .ok (.iload_n 1, 1) := by decide +kernel
theorem dX4_firstPartner_11 : decode cX4_firstPartner 11 = .ok (.iconst 1, 1) := by decide +kernel
theorem dX4_firstPartner_12 : decode cX4_firstPartner 12 = .ok (.iadd, 1) := by decide +kernel
theorem dX4_firstPartner_13 : decode cX4_firstPartner 13 = .ok (.aload_n 0, 1) := by decide +kernel
theorem dX4_firstPartner_14 : decode cX4_firstPartner 14 = .ok (.getfield 21, 3) := by decide +kernel
theorem dX4_firstPartner_17 : decode cX4_firstPartner 17 = .ok (.iload_n 1, 1) := by decide +kernel
theorem dX4_firstPartner_18 : decode cX4_firstPartner 18 = .ok (.iaload, 1) := by decide +kernel
theorem dX4_firstPartner_19 : decode cX4_firstPartner 19 = .ok (.aload_n 0, 1) := by decide +kernel
theorem dX4_firstPartner_20 : decode cX4_firstPartner 20 = .ok (.getfield 24, 3) := by decide +kernel
theorem dX4_firstPartner_23 : decode cX4_firstPartner 23 = .ok (.iload_n 1, 1) := by decide +kernel
theorem dX4_firstPartner_24 : decode cX4_firstPartner 24 = .ok (.iaload, 1) := by decide +kernel
theorem dX4_firstPartner_25 : decode cX4_firstPartner 25 = .ok (.iconst 0, 1) := by decide +kernel
theorem dX4_firstPartner_26 : decode cX4_firstPartner 26 = .ok (.invokestatic 65, 3) := by decide +kernel
theorem dX4_firstPartner_29 : decode cX4_firstPartner 29 = .ok (.istore_n 2, 1) := by decide +kernel
theorem dX4_firstPartner_30 : decode cX4_firstPartner 30 = .ok (.aload_n 0, 1) := by decide +kernel
theorem dX4_firstPartner_31 : decode cX4_firstPartner 31 = .ok (.getfield 24, 3) := by decide +kernel
theorem dX4_firstPartner_34 : decode cX4_firstPartner 34 = .ok (.iload_n 1, 1) := by decide +kernel
theorem dX4_firstPartner_35 : decode cX4_firstPartner 35 = .ok (.iaload, 1) := by decide +kernel
theorem dX4_firstPartner_36 : decode cX4_firstPartner 36 = .ok (.iconst 1, 1) := by decide +kernel
theorem dX4_firstPartner_37 : decode cX4_firstPartner 37 = .ok (.isub, 1) := by decide +kernel
theorem dX4_firstPartner_38 : decode cX4_firstPartner 38 = .ok (.istore_n 3, 1) := by decide +kernel
theorem dX4_firstPartner_39 : decode cX4_firstPartner 39 = .ok (.iload_n 3, 1) := by decide +kernel
theorem dX4_firstPartner_40 : decode cX4_firstPartner 40 = .ok (.aload_n 0, 1) := by decide +kernel
theorem dX4_firstPartner_41 : decode cX4_firstPartner 41 = .ok (.getfield 21, 3) := by decide +kernel
theorem dX4_firstPartner_44 : decode cX4_firstPartner 44 = .ok (.iload_n 1, 1) := by decide +kernel
theorem dX4_firstPartner_45 : decode cX4_firstPartner 45 = .ok (.iaload, 1) := by decide +kernel
theorem dX4_firstPartner_46 : decode cX4_firstPartner 46 = .ok (.if_icmp .lt 21, 3) := by decide +kernel
theorem dX4_firstPartner_49 : decode cX4_firstPartner 49 = .ok (.aload_n 0, 1) := by decide +kernel
theorem dX4_firstPartner_50 : decode cX4_firstPartner 50 = .ok (.iload_n 1, 1) := by decide +kernel
theorem dX4_firstPartner_51 : decode cX4_firstPartner 51 = .ok (.iload_n 3, 1) := by decide +kernel
theorem dX4_firstPartner_52 : decode cX4_firstPartner 52 = .ok (.invokevirtual 71, 3) := by decide +kernel
theorem dX4_firstPartner_55 : decode cX4_firstPartner 55 = .ok (.iload_n 2, 1) := by decide +kernel
theorem dX4_firstPartner_56 : decode cX4_firstPartner 56 = .ok (.if_icmp .ne 5, 3) := by decide +kernel
theorem dX4_firstPartner_59 : decode cX4_firstPartner 59 = .ok (.iload_n 3, 1) := by decide +kernel
theorem dX4_firstPartner_60 : decode cX4_firstPartner 60 = .ok (.ireturn, 1) := by decide +kernel
theorem dX4_firstPartner_61 : decode cX4_firstPartner 61 = .ok (.iinc 3 (-1), 3) := by decide +kernel
theorem dX4_firstPartner_64 : decode cX4_firstPartner 64 = .ok (.goto (-25), 3) := by decide +kernel
theorem dX4_firstPartner_67 : decode cX4_firstPartner 67 = .ok (.iconst (-1), 1) := by decide +kernel
theorem dX4_firstPartner_68 : decode cX4_firstPartner 68 = .ok (.ireturn, 1) := by decide +kernel
theorem lk_X4_firstPartner_f31 : Cond.fieldLink RX4 31 "TreeComparer$Mapping" "forests" "LTreeComparer$ForestTable;" ∈ wsX4_firstPartner := by decide +kernel
theorem hi_X4_firstPartner_4 : ∀ w ∈ u_ws RX4 TX4 8, w ∈ wsX4_firstPartner := by decide +kernel
theorem lk_X4_firstPartner_f18 : Cond.fieldLink RX4 18 "TreeComparer$Mapping" "oldFrom" "[I" ∈ wsX4_firstPartner := by decide +kernel
theorem lk_X4_firstPartner_f21 : Cond.fieldLink RX4 21 "TreeComparer$Mapping" "newFrom" "[I" ∈ wsX4_firstPartner := by decide +kernel
theorem lk_X4_firstPartner_f24 : Cond.fieldLink RX4 24 "TreeComparer$Mapping" "newTo" "[I" ∈ wsX4_firstPartner := by decide +kernel
theorem lk_X4_firstPartner_i0 : Cond.initialized RX0 ∈ wsX4_firstPartner := by decide +kernel
theorem lk_X4_firstPartner_im65 : Cond.static yX0_least ∈ wsX4_firstPartner := by decide +kernel
def wph_X4_firstPartner_39 (p0 : Int) (x2 : Int) (x3 : Int) (M : Mem) (J39 : Int → Int → Mem → Prop) (Q : Int → Mem → Prop) : Prop := ((0 : Int) ≤ p0 ∧ p0 < 12) ∧ inR x3 ∧ inR (M 6 5 p0.toNat) ∧ ((x3 < (M 6 5 p0.toNat) → Q (-1) M) ∧ (¬ (x3 < (M 6 5 p0.toNat)) → wp_X4_leastWith M p0 x3 (fun y12 M13 => inR y12 ∧ inR x2 ∧ ((y12 ≠ x2 → J39 x2 (x3 + (-1)) M13) ∧ (¬ (y12 ≠ x2) → Q x3 M13)))))
def wpe_X4_firstPartner (p0 : Int) (M : Mem) (J39 : Int → Int → Mem → Prop) (Q : Int → Mem → Prop) : Prop := ((0 : Int) ≤ p0 ∧ p0 < 12) ∧ ((0 : Int) ≤ p0 ∧ p0 < 12) ∧ ((0 : Int) ≤ p0 ∧ p0 < 12) ∧ wp_X0_least M ((M 6 4 p0.toNat)) (p0 + 1) ((M 6 5 p0.toNat)) ((M 6 6 p0.toNat)) 0 (fun y4 M5 => ((0 : Int) ≤ p0 ∧ p0 < 12) ∧ (∀ y7 : Int, y7 = (M5 6 6 p0.toNat) - 1 → J39 y4 y7 M5))
def wp_X4_firstPartner (M : Mem) (p0 : Int) (Q : Int → Mem → Prop) : Prop := ∃ (I39 : Nat → Int → Int → Mem → Prop), wpe_X4_firstPartner p0 M (fun (x2 : Int) (x3 : Int) (M1 : Mem) => ∃ n1 : Nat, I39 n1 x2 x3 M1) Q ∧ (∀ (n : Nat) (x2 : Int) (x3 : Int) (M : Mem), I39 n x2 x3 M → wph_X4_firstPartner_39 p0 x2 x3 M (fun (x2 : Int) (x3 : Int) (M1 : Mem) => ∃ n1 : Nat, n1 < n ∧ I39 n1 x2 x3 M1) Q)
set_option maxHeartbeats 4000000 in
set_option maxRecDepth 100000 in
theorem wkh_X4_firstPartner_39 {p : Program} {l : Launch} {e : Env} {s : State} {m : MethodId} {args : Array Value} {below : List Frame} {meth : Method} {c : Code} {D : va_G} {g : GT} {A : Nat → Prop} {a : Nat → Nat} {b : Nat → Nat → Nat} (X : vC p s m args meth c D g A RX4 wsX4_firstPartner cX4_firstPartner 4) (hr : meth.sig.returnType = (some .int)) {p0 : Int} {x2 : Int} {x3 : Int} {M : Mem} {J39 : Int → Int → Mem → Prop} {Q : Int → Mem → Prop} (hJ39 : ∀ (x2 : Int) (x3 : Int) (M : Mem), J39 x2 x3 M → vV p l e ({ frames := 30, cells := 0, slots := 0, locals := 1019 } : Room) s m args below meth c D g A a b 4 0 0 (MQ below (cQi D g A a b Q) args s 0 0 A) M [(0, .ref (a 6)), (1, iv p0), (2, iv x2), (3, iv x3)] 39 []) (hw : wph_X4_firstPartner_39 p0 x2 x3 M J39 Q) : vV p l e ({ frames := 30, cells := 0, slots := 0, locals := 1019 } : Room) s m args below meth c D g A a b 4 0 0 (MQ below (cQi D g A a b Q) args s 0 0 A) M [(0, .ref (a 6)), (1, iv p0), (2, iv x2), (3, iv x3)] 39 [] := by
  unfold wph_X4_firstPartner_39 at hw
  refine V_iload_n X dX4_firstPartner_39 rfl (q := 3) rfl ?_
  refine V_aload_n X dX4_firstPartner_40 rfl (q := 0) rfl ?_
  refine V_get (C := RX4) (T := TX4) (N := 8) (ci := 4) X hi_X4_firstPartner_4 gO_6 rfl 5 (by decide) lk_X4_firstPartner_f21 (fun _ h9 => h9) rfl dX4_firstPartner_41 ?_
  refine V_iload_n X dX4_firstPartner_44 rfl (q := 1) rfl ?_
  obtain ⟨h8, hw⟩ := hw
  refine V_iald X (gA_6_5) h8 (by decide) dX4_firstPartner_45 ?_
  obtain ⟨h9, h10, hw⟩ := hw
  refine V_icmp_lt (tgt := 67) X h9 h10 dX4_firstPartner_46 (by decide) (fun q11 => ?_) (fun q11 => ?_)
  · have hw := hw.1 q11
    refine V_iconst X dX4_firstPartner_67 ?_
    exact V_iret X hr hw dX4_firstPartner_68
  · have hw := hw.2 q11
    refine V_aload_n X dX4_firstPartner_49 rfl (q := 0) rfl ?_
    refine V_iload_n X dX4_firstPartner_50 rfl (q := 1) rfl ?_
    refine V_iload_n X dX4_firstPartner_51 rfl (q := 3) rfl ?_
    refine V_callV_i X _ gO_6 rfl (As := [iv p0, iv x3]) (st := []) (c_X4_leastWith l hw) (cwV 2 X.2.2.2.1 gX4_firstPartner_X4_leastWith rfl rfl rfl (by decide +kernel) ⟨Nat.le_of_ble_eq_true rfl, Nat.le_of_ble_eq_true rfl⟩) rfl (Nat.le_of_ble_eq_true rfl) ⟨Nat.le_of_ble_eq_true rfl, Nat.le_of_ble_eq_true rfl⟩ rfl dX4_firstPartner_52 (fun y12 M13 hw => ?_)
    refine V_iload_n X dX4_firstPartner_55 rfl (q := 2) rfl ?_
    obtain ⟨h14, h15, hw⟩ := hw
    refine V_icmp_ne (tgt := 61) X h14 h15 dX4_firstPartner_56 (by decide) (fun q16 => ?_) (fun q16 => ?_)
    · have hw := hw.1 q16
      refine V_iinc (lv1 := [(0, .ref (a 6)), (1, iv p0), (2, iv x2), (3, iv (x3 + (-1)))]) X [1, 2, 3, 0] dX4_firstPartner_61 (q := 3) rfl (by decide) rfl ?_
      refine V_goto (tgt := 39) X dX4_firstPartner_64 (by decide) ?_
      exact hJ39 _ _ _ hw
    · have hw := hw.2 q16
      refine V_iload_n X dX4_firstPartner_59 rfl (q := 3) rfl ?_
      exact V_iret X hr hw dX4_firstPartner_60
set_option maxHeartbeats 4000000 in
set_option maxRecDepth 100000 in
theorem wke_X4_firstPartner {p : Program} {l : Launch} {e : Env} {s : State} {m : MethodId} {args : Array Value} {below : List Frame} {meth : Method} {c : Code} {D : va_G} {g : GT} {A : Nat → Prop} {a : Nat → Nat} {b : Nat → Nat → Nat} (X : vC p s m args meth c D g A RX4 wsX4_firstPartner cX4_firstPartner 4) (hr : meth.sig.returnType = (some .int)) {p0 : Int} {M : Mem} {J39 : Int → Int → Mem → Prop} {Q : Int → Mem → Prop} (hJ39 : ∀ (x2 : Int) (x3 : Int) (M : Mem), J39 x2 x3 M → vV p l e ({ frames := 30, cells := 0, slots := 0, locals := 1019 } : Room) s m args below meth c D g A a b 4 0 0 (MQ below (cQi D g A a b Q) args s 0 0 A) M [(0, .ref (a 6)), (1, iv p0), (2, iv x2), (3, iv x3)] 39 []) (hw : wpe_X4_firstPartner p0 M J39 Q) : vV p l e ({ frames := 30, cells := 0, slots := 0, locals := 1019 } : Room) s m args below meth c D g A a b 4 0 0 (MQ below (cQi D g A a b Q) args s 0 0 A) M [(0, .ref (a 6)), (1, iv p0)] 0 [] := by
  unfold wpe_X4_firstPartner at hw
  refine V_aload_n X dX4_firstPartner_0 rfl (q := 0) rfl ?_
  refine V_get (C := RX4) (T := TX4) (N := 8) (ci := 4) X hi_X4_firstPartner_4 gO_6 rfl 1 (by decide) lk_X4_firstPartner_f31 (fun _ h9 => h9) rfl dX4_firstPartner_1 ?_
  refine V_aload_n X dX4_firstPartner_4 rfl (q := 0) rfl ?_
  refine V_get (C := RX4) (T := TX4) (N := 8) (ci := 4) X hi_X4_firstPartner_4 gO_6 rfl 4 (by decide) lk_X4_firstPartner_f18 (fun _ h9 => h9) rfl dX4_firstPartner_5 ?_
  refine V_iload_n X dX4_firstPartner_8 rfl (q := 1) rfl ?_
  obtain ⟨h1, hw⟩ := hw
  refine V_iald X (gA_6_4) h1 (by decide) dX4_firstPartner_9 ?_
  refine V_iload_n X dX4_firstPartner_10 rfl (q := 1) rfl ?_
  refine V_iconst X dX4_firstPartner_11 ?_
  refine V_iadd X dX4_firstPartner_12 ?_
  refine V_aload_n X dX4_firstPartner_13 rfl (q := 0) rfl ?_
  refine V_get (C := RX4) (T := TX4) (N := 8) (ci := 4) X hi_X4_firstPartner_4 gO_6 rfl 5 (by decide) lk_X4_firstPartner_f21 (fun _ h9 => h9) rfl dX4_firstPartner_14 ?_
  refine V_iload_n X dX4_firstPartner_17 rfl (q := 1) rfl ?_
  obtain ⟨h2, hw⟩ := hw
  refine V_iald X (gA_6_5) h2 (by decide) dX4_firstPartner_18 ?_
  refine V_aload_n X dX4_firstPartner_19 rfl (q := 0) rfl ?_
  refine V_get (C := RX4) (T := TX4) (N := 8) (ci := 4) X hi_X4_firstPartner_4 gO_6 rfl 6 (by decide) lk_X4_firstPartner_f24 (fun _ h9 => h9) rfl dX4_firstPartner_20 ?_
  refine V_iload_n X dX4_firstPartner_23 rfl (q := 1) rfl ?_
  obtain ⟨h3, hw⟩ := hw
  refine V_iald X (gA_6_6) h3 (by decide) dX4_firstPartner_24 ?_
  refine V_iconst X dX4_firstPartner_25 ?_
  refine V_callSN_i X _ (As := [.ref (a 4), iv ((M 6 4 p0.toNat)), iv (p0 + 1), iv ((M 6 5 p0.toNat)), iv ((M 6 6 p0.toNat)), iv 0]) (st := []) (c_X0_least l hw) ⟨va_cnB 6 X.2.2.2.1 gX4_firstPartner_X0_least_n65 rfl rfl rfl (X.2.2.2.2.1.2.1 _ (List.mem_of_getElem? (i := 112) rfl)) (X.2.2.2.1 _ lk_X4_firstPartner_i0) (by decide +kernel) ⟨Nat.le_of_ble_eq_true rfl, Nat.le_of_ble_eq_true rfl⟩, X.2.2.2.1 _ lk_X4_firstPartner_im65, trivial⟩ rfl (Nat.le_of_ble_eq_true rfl) ⟨Nat.le_of_ble_eq_true rfl, Nat.le_of_ble_eq_true rfl⟩ rfl dX4_firstPartner_26 (fun y4 M5 hw => ?_)
  refine V_istore_n (lv1 := [(0, .ref (a 6)), (1, iv p0), (2, iv y4)]) X [1, 2, 0] dX4_firstPartner_29 rfl (by decide) rfl ?_
  refine V_aload_n X dX4_firstPartner_30 rfl (q := 0) rfl ?_
  refine V_get (C := RX4) (T := TX4) (N := 8) (ci := 4) X hi_X4_firstPartner_4 gO_6 rfl 6 (by decide) lk_X4_firstPartner_f24 (fun _ h9 => h9) rfl dX4_firstPartner_31 ?_
  refine V_iload_n X dX4_firstPartner_34 rfl (q := 1) rfl ?_
  obtain ⟨h6, hw⟩ := hw
  refine V_iald X (gA_6_6) h6 (by decide) dX4_firstPartner_35 ?_
  refine V_iconst X dX4_firstPartner_36 ?_
  refine V_isub X dX4_firstPartner_37 ?_
  refine V_top (fun y7 ey7 => ?_)
  have hw := hw y7 ey7
  refine V_istore_n (lv1 := [(0, .ref (a 6)), (1, iv p0), (2, iv y4), (3, iv y7)]) X [1, 2, 3, 0] dX4_firstPartner_38 rfl (by decide) rfl ?_
  exact hJ39 _ _ _ hw
set_option maxHeartbeats 4000000 in
set_option maxRecDepth 100000 in
theorem c_X4_firstPartner (l : Launch) {p0 : Int} {D : va_G} {g : GT} {A : Nat → Prop} {a : Nat → Nat} {b : Nat → Nat → Nat} {M : Mem} {Q : Int → Mem → Prop} (hw : wp_X4_firstPartner M p0 Q) : Met l yX4_firstPartner wsX4_firstPartner ({ frames := 30, cells := 0, slots := 0, locals := 1019 } : Room) (cPc D g A a b M [.ref (a 6), iv p0]) (cQi D g A a b Q) 0 0 A := by
  refine Met.ofW (cc := cX4_firstPartner) (maxL := 4) (ret := (some .int)) (by decide) rfl ?_
  intro p e s m args below meth c s₁ B hml hv
  obtain ⟨rfl, hP, hD, hG⟩ := hv
  have X : vC p s m _ meth c D g A RX4 wsX4_firstPartner cX4_firstPartner 4 := ⟨B.exec, B.bytes, findClass_of_methodNamed B.named, atoms_spec (ws := wsX4_firstPartner) B.pre, hG, hml, B.notSynchronized⟩
  have hr := B.returns
  have hl := lv_entry ([.ref (a 6), iv p0]) (n := 4) (Nat.le_of_ble_eq_true rfl)
  rw [lg_entry_eq]
  generalize (lg_sl ([.ref (a 6), iv p0]) ++ List.replicate (4 - (lg_sl ([.ref (a 6), iv p0])).length) Slot.unset).toArray = ls at hl ⊢
  have hl : lv_has ls 4 [(0, .ref (a 6)), (1, iv p0)] := hl
  obtain ⟨I39, hw, hI39⟩ := hw
  have K : ∀ n : Nat, (∀ (x2 : Int) (x3 : Int) (M : Mem), I39 n x2 x3 M → vV p l e ({ frames := 30, cells := 0, slots := 0, locals := 1019 } : Room) s m ([.ref (a 6), iv p0] : List Value).toArray below meth c D g A a b 4 0 0 (MQ below (cQi D g A a b Q) ([.ref (a 6), iv p0] : List Value).toArray s 0 0 A) M [(0, .ref (a 6)), (1, iv p0), (2, iv x2), (3, iv x3)] 39 []) := by
    intro n
    induction n using Nat.strongRecOn with
    | ind n ih =>
      exact fun x2 x3 M hh => wkh_X4_firstPartner_39 X hr (fun _ _ _ ⟨n1, hn, hh⟩ => (ih n1 hn) _ _ _ hh) (hI39 n x2 x3 M hh)
  exact wke_X4_firstPartner X hr  (fun _ _ _ ⟨n1, hh⟩ => (K n1) _ _ _ hh) hw s.heap [] ls hP hD va_S.rf hl
