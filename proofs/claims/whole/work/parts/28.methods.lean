set_option maxRecDepth 20000 in
theorem ggX8_alignChildren_X8_listChildren : GoodIn wsX8_alignChildren wsX8_listChildren := goodIn_r _ [13, 31, 32, 33, 34, 35, 36] (by decide +kernel) (by decide +kernel)
set_option maxRecDepth 20000 in
theorem gX8_alignChildren_X8_listChildren : GoodIn wsX8_alignChildren (va_wsS RX8 60 yX8_listChildren wsX8_listChildren) := goodIn_app (goodIn_of _ (by decide +kernel)) ggX8_alignChildren_X8_listChildren
set_option maxRecDepth 20000 in
theorem ggX8_alignChildren_X8_subtreeAlone : GoodIn wsX8_alignChildren wsX8_subtreeAlone := goodIn_r _ [16, 17, 18, 19, 20, 21, 31, 32, 33, 34, 35, 36] (by decide +kernel) (by decide +kernel)
set_option maxRecDepth 20000 in
theorem gX8_alignChildren_X8_subtreeAlone : GoodIn wsX8_alignChildren (va_wsS RX8 64 yX8_subtreeAlone wsX8_subtreeAlone) := goodIn_app (goodIn_of _ (by decide +kernel)) ggX8_alignChildren_X8_subtreeAlone
theorem dX8_alignChildren_0 : decode cX8_alignChildren 0 = .ok (.aload_n 0, 1) := by decide +kernel
theorem dX8_alignChildren_1 : decode cX8_alignChildren 1 = .ok (.getfield 24, 3) := by decide +kernel
theorem dX8_alignChildren_4 : decode cX8_alignChildren 4 = .ok (.getfield 28, 3) := by decide +kernel
theorem dX8_alignChildren_7 : decode cX8_alignChildren 7 = .ok (.astore_n 3, 1) := by decide +kernel
theorem dX8_alignChildren_8 : decode cX8_alignChildren 8 = .ok (.aload_n 0, 1) := by decide +kernel
theorem dX8_alignChildren_9 : decode cX8_alignChildren 9 = .ok (.getfield 24, 3) := by decide +kernel
theorem dX8_alignChildren_12 : decode cX8_alignChildren 12 = .ok (.getfield 40, 3) := by decide +kernel
theorem dX8_alignChildren_15 : decode cX8_alignChildren 15 = .ok (.astore 4, 2) := by decide +kernel
theorem dX8_alignChildren_17 : decode cX8_alignChildren 17 = .ok (.aload_n 3, 1) := by decide +kernel
theorem dX8_alignChildren_18 : decode cX8_alignChildren 18 = .ok (.iload_n 1, 1) := by decide +kernel
theorem dX8_alignChildren_19 : decode cX8_alignChildren 19 = .ok (.aload_n 0, 1) := by decide +kernel
theorem dX8_alignChildren_20 : decode cX8_alignChildren 20 = .ok (.getfield 18, 3) := by decide +kernel
theorem dX8_alignChildren_23 : decode cX8_alignChildren 23 = .ok (.invokestatic 60, 3) := by decide +kernel
theorem dX8_alignChildren_26 : decode cX8_alignChildren 26 = .ok (.istore 5, 2) := by decide +kernel
theorem dX8_alignChildren_28 : decode cX8_alignChildren 28 = .ok (.aload 4, 2) := by decide +kernel
theorem dX8_alignChildren_30 : decode cX8_alignChildren 30 = .ok (.iload_n 2, 1) := by decide +kernel
theorem dX8_alignChildren_31 : decode cX8_alignChildren 31 = .ok (.aload_n 0, 1) := by decide +kernel
theorem dX8_alignChildren_32 : decode cX8_alignChildren 32 = .ok (.getfield 21, 3) := by decide +kernel
theorem dX8_alignChildren_35 : decode cX8_alignChildren 35 = .ok (.invokestatic 60, 3) := by decide +kernel
theorem dX8_alignChildren_38 : decode cX8_alignChildren 38 = .ok (.istore 6, 2) := by decide +kernel
theorem dX8_alignChildren_40 : decode cX8_alignChildren 40 = .ok (.aload_n 0, 1) := by decide +kernel
theorem dX8_alignChildren_41 : decode cX8_alignChildren 41 = .ok (.getfield 15, 3) := by decide +kernel
theorem dX8_alignChildren_44 : decode cX8_alignChildren 44 = .ok (.iconst 0, 1) := by decide +kernel
theorem dX8_alignChildren_45 : decode cX8_alignChildren 45 = .ok (.iconst 0, 1) := by decide +kernel
theorem dX8_alignChildren_46 : decode cX8_alignChildren 46 = .ok (.iastore, 1) := by decide +kernel
theorem dX8_alignChildren_47 : decode cX8_alignChildren 47 = .ok (.iconst 1, 1) := by decide +kernel
theorem dX8_alignChildren_48 : decode cX8_alignChildren 48 = .ok (.istore 7, 2) := by decide +kernel
theorem dX8_alignChildren_50 : decode cX8_alignChildren 50 = .ok (.iload 7, 2) := by decide +kernel
theorem dX8_alignChildren_52 : decode cX8_alignChildren 52 = .ok (.iload 5, 2) := by decide +kernel
theorem dX8_alignChildren_54 : decode cX8_alignChildren 54 = .ok (.if_icmp .gt 45, 3) := by decide +kernel
theorem dX8_alignChildren_57 : decode cX8_alignChildren 57 = .ok (.aload_n 0, 1) := by decide +kernel
theorem dX8_alignChildren_58 : decode cX8_alignChildren 58 = .ok (.getfield 15, 3) := by decide +kernel
theorem dX8_alignChildren_61 : decode cX8_alignChildren 61 = .ok (.iload 7, 2) := by decide +kernel
theorem dX8_alignChildren_63 : decode cX8_alignChildren 63 = .ok (.bipush 13, 2) := by decide +kernel
theorem dX8_alignChildren_65 : decode cX8_alignChildren 65 = .ok (.imul, 1) := by decide +kernel
theorem dX8_alignChildren_66 : decode cX8_alignChildren 66 = .ok (.aload_n 0, 1) := by decide +kernel
theorem dX8_alignChildren_67 : decode cX8_alignChildren 67 = .ok (.getfield 15, 3) := by decide +kernel
theorem dX8_alignChildren_70 : decode cX8_alignChildren 70 = .ok (.iload 7, 2) := by decide +kernel
theorem dX8_alignChildren_72 : decode cX8_alignChildren 72 = .ok (.iconst 1, 1) := by decide +kernel
theorem dX8_alignChildren_73 : decode cX8_alignChildren 73 = .ok (.isub, 1) := by decide +kernel
theorem dX8_alignChildren_74 : decode cX8_alignChildren 74 = .ok (.bipush 13, 2) := by decide +kernel
theorem dX8_alignChildren_76 : decode cX8_alignChildren 76 = .ok (.imul, 1) := by decide +kernel
theorem dX8_alignChildren_77 : decode cX8_alignChildren 77 = .ok (.iaload, 1) := by decide +kernel
theorem dX8_alignChildren_78 : decode cX8_alignChildren 78 = .ok (.aload_n 3, 1) := by decide +kernel
theorem dX8_alignChildren_79 : decode cX8_alignChildren 79 = .ok (.aload_n 0, 1) := by decide +kernel
theorem dX8_alignChildren_80 : decode cX8_alignChildren 80 = .ok (.getfield 18, 3) := by decide +kernel
theorem dX8_alignChildren_83 : decode cX8_alignChildren 83 = .ok (.iload 7, 2) := by decide +kernel
theorem dX8_alignChildren_85 : decode cX8_alignChildren 85 = .ok (.iconst 1, 1) := by decide +kernel
theorem dX8_alignChildren_86 : decode cX8_alignChildren 86 = .ok (.isub, 1) := by decide +kernel
theorem dX8_alignChildren_87 : decode cX8_alignChildren 87 = .ok (.iaload, 1) := by decide +kernel
theorem dX8_alignChildren_88 : decode cX8_alignChildren 88 = .ok (.invokestatic 64, 3) := by decide +kernel
theorem dX8_alignChildren_91 : decode cX8_alignChildren 91 = .ok (.iadd, 1) := by decide +kernel
theorem dX8_alignChildren_92 : decode cX8_alignChildren 92 = .ok (.iastore, 1) := by decide +kernel
theorem dX8_alignChildren_93 : decode cX8_alignChildren 93 = .ok (.iinc 7 1, 3) := by decide +kernel
theorem dX8_alignChildren_96 : decode cX8_alignChildren 96 = .ok (.goto (-46), 3) := by decide +kernel
theorem dX8_alignChildren_99 : decode cX8_alignChildren 99 = .ok (.iconst 1, 1) := by decide +kernel
theorem dX8_alignChildren_100 : decode cX8_alignChildren 100 = .ok (.istore 7, 2) := by decide +kernel
theorem dX8_alignChildren_102 : decode cX8_alignChildren 102 = .ok (.iload 7, 2) := by decide +kernel
theorem dX8_alignChildren_104 : decode cX8_alignChildren 104 = .ok (.iload 6, 2) := by decide +kernel
theorem dX8_alignChildren_106 : decode cX8_alignChildren 106 = .ok (.if_icmp .gt 40, 3) := by decide +kernel
theorem dX8_alignChildren_109 : decode cX8_alignChildren 109 = .ok (.aload_n 0, 1) := by decide +kernel
theorem dX8_alignChildren_110 : decode cX8_alignChildren 110 = .ok (.getfield 15, 3) := by decide +kernel
theorem dX8_alignChildren_113 : decode cX8_alignChildren 113 = .ok (.iload 7, 2) := by decide +kernel
theorem dX8_alignChildren_115 : decode cX8_alignChildren 115 = .ok (.aload_n 0, 1) := by decide +kernel
theorem dX8_alignChildren_116 : decode cX8_alignChildren 116 = .ok (.getfield 15, 3) := by decide +kernel
theorem dX8_alignChildren_119 : decode cX8_alignChildren 119 = .ok (.iload 7, 2) := by decide +kernel
theorem dX8_alignChildren_121 : decode cX8_alignChildren 121 = .ok (.iconst 1, 1) := by decide +kernel
theorem dX8_alignChildren_122 : decode cX8_alignChildren 122 = .ok (.isub, 1) := by decide +kernel
theorem dX8_alignChildren_123 : decode cX8_alignChildren 123 = .ok (.iaload, 1) := by decide +kernel
theorem dX8_alignChildren_124 : decode cX8_alignChildren 124 = .ok (.aload 4, 2) := by decide +kernel
theorem dX8_alignChildren_126 : decode cX8_alignChildren 126 = .ok (.aload_n 0, 1) := by decide +kernel
theorem dX8_alignChildren_127 : decode cX8_alignChildren 127 = .ok (.getfield 21, 3) := by decide +kernel
theorem dX8_alignChildren_130 : decode cX8_alignChildren 130 = .ok (.iload 7, 2) := by decide +kernel
theorem dX8_alignChildren_132 : decode cX8_alignChildren 132 = .ok (.iconst 1, 1) := by decide +kernel
theorem dX8_alignChildren_133 : decode cX8_alignChildren 133 = .ok (.isub, 1) := by decide +kernel
theorem dX8_alignChildren_134 : decode cX8_alignChildren 134 = .ok (.iaload, 1) := by decide +kernel
theorem dX8_alignChildren_135 : decode cX8_alignChildren 135 = .ok (.invokestatic 64, 3) := by decide +kernel
theorem dX8_alignChildren_138 : decode cX8_alignChildren 138 = .ok (.iadd, 1) := by decide +kernel
theorem dX8_alignChildren_139 : decode cX8_alignChildren 139 = .ok (.iastore, 1) := by decide +kernel
theorem dX8_alignChildren_140 : decode cX8_alignChildren 140 = .ok (.iinc 7 1, 3) := by decide +kernel
theorem dX8_alignChildren_143 : decode cX8_alignChildren 143 = .ok (.goto (-41), 3) := by decide +kernel
theorem dX8_alignChildren_146 : decode cX8_alignChildren 146 = .ok (.iconst 1, 1) := by decide +kernel
theorem dX8_alignChildren_147 : decode cX8_alignChildren 147 = .ok (.istore 7, 2) := by decide +kernel
theorem dX8_alignChildren_149 : decode cX8_alignChildren 149 = .ok (.iload 7, 2) := by decide +kernel
theorem dX8_alignChildren_151 : decode cX8_alignChildren 151 = .ok (.iload 5, 2) := by decide +kernel
theorem dX8_alignChildren_153 : decode cX8_alignChildren 153 = .ok (.if_icmp .gt 134, 3) := by decide +kernel
theorem dX8_alignChildren_156 : decode cX8_alignChildren 156 = .ok (.iconst 1, 1) := by decide +kernel
theorem dX8_alignChildren_157 : decode cX8_alignChildren 157 = .ok (.istore 8, 2) := by decide +kernel
theorem dX8_alignChildren_159 : decode cX8_alignChildren 159 = .ok (.iload 8, 2) := by decide +kernel
theorem dX8_alignChildren_161 : decode cX8_alignChildren 161 = .ok (.iload 6, 2) := by decide +kernel
theorem dX8_alignChildren_163 : decode cX8_alignChildren 163 = .ok (.if_icmp .gt 118, 3) := by decide +kernel
theorem dX8_alignChildren_166 : decode cX8_alignChildren 166 = .ok (.iload 7, 2) := by decide +kernel
theorem dX8_alignChildren_168 : decode cX8_alignChildren 168 = .ok (.bipush 13, 2) := by decide +kernel
theorem dX8_alignChildren_170 : decode cX8_alignChildren 170 = .ok (.imul, 1) := by decide +kernel
theorem dX8_alignChildren_171 : decode cX8_alignChildren 171 = .ok (.iload 8, 2) := by decide +kernel
theorem dX8_alignChildren_173 : decode cX8_alignChildren 173 = .ok (.iadd, 1) := by decide +kernel
theorem dX8_alignChildren_174 : decode cX8_alignChildren 174 = .ok (.istore 9, 2) := by decide +kernel
theorem dX8_alignChildren_176 : decode cX8_alignChildren 176 = .ok (.aload_n 0, 1) := by decide +kernel
theorem dX8_alignChildren_177 : decode cX8_alignChildren 177 = .ok (.getfield 18, 3) := by decide +kernel
theorem dX8_alignChildren_180 : decode cX8_alignChildren 180 = .ok (.iload 7, 2) := by decide +kernel
theorem dX8_alignChildren_182 : decode cX8_alignChildren 182 = .ok (.iconst 1, 1) := by decide +kernel
theorem dX8_alignChildren_183 : decode cX8_alignChildren 183 = .ok (.isub, 1) := by decide +kernel
theorem dX8_alignChildren_184 : decode cX8_alignChildren 184 = .ok (.iaload, 1) := by decide +kernel
theorem dX8_alignChildren_185 : decode cX8_alignChildren 185 = .ok (.istore 10, 2) := by decide +kernel
theorem dX8_alignChildren_187 : decode cX8_alignChildren 187 = .ok (.aload_n 0, 1) := by decide +kernel
theorem dX8_alignChildren_188 : decode cX8_alignChildren 188 = .ok (.getfield 21, 3) := by decide +kernel
theorem dX8_alignChildren_191 : decode cX8_alignChildren 191 = .ok (.iload 8, 2) := by decide +kernel
theorem dX8_alignChildren_193 : decode cX8_alignChildren 193 = .ok (.iconst 1, 1) := by decide +kernel
theorem dX8_alignChildren_194 : decode cX8_alignChildren 194 = .ok (.isub, 1) := by decide +kernel
theorem dX8_alignChildren_195 : decode cX8_alignChildren 195 = .ok (.iaload, 1) := by decide +kernel
theorem dX8_alignChildren_196 : decode cX8_alignChildren 196 = .ok (.istore 11, 2) := by decide +kernel
theorem dX8_alignChildren_198 : decode cX8_alignChildren 198 = .ok (.aload_n 0, 1) := by decide +kernel
theorem dX8_alignChildren_199 : decode cX8_alignChildren 199 = .ok (.getfield 15, 3) := by decide +kernel
theorem dX8_alignChildren_202 : decode cX8_alignChildren 202 = .ok (.iload 9, 2) := by decide +kernel
theorem dX8_alignChildren_204 : decode cX8_alignChildren 204 = .ok (.bipush 13, 2) := by decide +kernel
theorem dX8_alignChildren_206 : decode cX8_alignChildren 206 = .ok (.isub, 1) := by decide +kernel
theorem dX8_alignChildren_207 : decode cX8_alignChildren 207 = .ok (.iaload, 1) := by decide +kernel
theorem dX8_alignChildren_208 : decode cX8_alignChildren 208 = .ok (.aload_n 3, 1) := by decide +kernel
theorem dX8_alignChildren_209 : decode cX8_alignChildren 209 = .ok (.iload 10, 2) := by decide +kernel
theorem dX8_alignChildren_211 : decode cX8_alignChildren 211 = .ok (.invokestatic 64, 3) := by decide +kernel
theorem dX8_alignChildren_214 : decode cX8_alignChildren 214 = .ok (.iadd, 1) := by decide +kernel
theorem dX8_alignChildren_215 : decode cX8_alignChildren 215 = .ok (.aload_n 0, 1) := by decide +kernel
theorem dX8_alignChildren_216 : decode cX8_alignChildren 216 = .ok (.getfield 15, 3) := by decide +kernel
theorem dX8_alignChildren_219 : decode cX8_alignChildren 219 = .ok (.iload 9, 2) := by decide +kernel
theorem dX8_alignChildren_221 : decode cX8_alignChildren 221 = .ok (.iconst 1, 1) := by decide +kernel
theorem dX8_alignChildren_222 : decode cX8_alignChildren 222 = .ok (.isub, 1) := by decide +kernel
theorem dX8_alignChildren_223 : decode cX8_alignChildren 223 = .ok (.iaload, 1) := by decide +kernel
theorem dX8_alignChildren_224 : decode cX8_alignChildren 224 = .ok (.aload 4, 2) := by decide +kernel
theorem dX8_alignChildren_226 : decode cX8_alignChildren 226 = .ok (.iload 11, 2) := by decide +kernel
theorem dX8_alignChildren_228 : decode cX8_alignChildren 228 = .ok (.invokestatic 64, 3) := by decide +kernel
theorem dX8_alignChildren_231 : decode cX8_alignChildren 231 = .ok (.iadd, 1) := by decide +kernel
theorem dX8_alignChildren_232 : decode cX8_alignChildren 232 = .ok (.invokestatic 55, 3) := by decide +kernel
theorem dX8_alignChildren_235 : decode cX8_alignChildren 235 = .ok (.istore 12, 2) := by decide +kernel
theorem dX8_alignChildren_237 : decode cX8_alignChildren 237 = .ok (.aload_n 0, 1) := by decide +kernel
theorem dX8_alignChildren_238 : decode cX8_alignChildren 238 = .ok (.getfield 15, 3) := by decide +kernel
theorem dX8_alignChildren_241 : decode cX8_alignChildren 241 = .ok (.iload 9, 2) := by decide +kernel
theorem dX8_alignChildren_243 : decode cX8_alignChildren 243 = .ok (.iload 12, 2) := by decide +kernel
theorem dX8_alignChildren_245 : decode cX8_alignChildren 245 = .ok (.aload_n 0, 1) := by decide +kernel
theorem dX8_alignChildren_246 : decode cX8_alignChildren 246 = .ok (.getfield 15, 3) := by decide +kernel
theorem dX8_alignChildren_249 : decode cX8_alignChildren 249 = .ok (.iload 9, 2) := by decide +kernel
theorem dX8_alignChildren_251 : decode cX8_alignChildren 251 = .ok (.bipush 13, 2) := by decide +kernel
theorem dX8_alignChildren_253 : decode cX8_alignChildren 253 = .ok (.isub, 1) := by decide +kernel
theorem dX8_alignChildren_254 : decode cX8_alignChildren 254 = .ok (.iconst 1, 1) := by decide +kernel
theorem dX8_alignChildren_255 : decode cX8_alignChildren 255 = .ok (.isub, 1) := by decide +kernel
theorem dX8_alignChildren_256 : decode cX8_alignChildren 256 = .ok (.iaload, 1) := by decide +kernel
theorem dX8_alignChildren_257 : decode cX8_alignChildren 257 = .ok (.aload_n 0, 1) := by decide +kernel
theorem dX8_alignChildren_258 : decode cX8_alignChildren 258 = .ok (.getfield 9, 3) := by decide +kernel
theorem dX8_alignChildren_261 : decode cX8_alignChildren 261 = .ok (.iload 10, 2) := by decide +kernel
theorem dX8_alignChildren_263 : decode cX8_alignChildren 263 = .ok (.bipush 12, 2) := by decide +kernel
theorem dX8_alignChildren_265 : decode cX8_alignChildren 265 = .ok (.imul, 1) := by decide +kernel
theorem dX8_alignChildren_266 : decode cX8_alignChildren 266 = .ok (.iload 11, 2) := by decide +kernel
theorem dX8_alignChildren_268 : decode cX8_alignChildren 268 = .ok (.iadd, 1) := by decide +kernel
theorem dX8_alignChildren_269 : decode cX8_alignChildren 269 = .ok (.iaload, 1) := by decide +kernel
theorem dX8_alignChildren_270 : decode cX8_alignChildren 270 = .ok (.iadd, 1) := by decide +kernel
theorem dX8_alignChildren_271 : decode cX8_alignChildren 271 = .ok (.invokestatic 55, 3) := by decide +kernel
theorem dX8_alignChildren_274 : decode cX8_alignChildren 274 = .ok (.iastore, 1) := by decide +kernel
theorem dX8_alignChildren_275 : decode cX8_alignChildren 275 = .ok (.iinc 8 1, 3) := by decide +kernel
theorem dX8_alignChildren_278 : decode cX8_alignChildren 278 = .ok (.goto (-119), 3) := by decide +kernel
theorem dX8_alignChildren_281 : decode cX8_alignChildren 281 = .ok (.iinc 7 1, 3) := by decide +kernel
theorem dX8_alignChildren_284 : decode cX8_alignChildren 284 = .ok (.goto (-135), 3) := by decide +kernel
theorem dX8_alignChildren_287 : decode cX8_alignChildren 287 = .ok (.aload_n 0, 1) := by decide +kernel
theorem dX8_alignChildren_288 : decode cX8_alignChildren 288 = .ok (.getfield 15, 3) := by decide +kernel
theorem dX8_alignChildren_291 : decode cX8_alignChildren 291 = .ok (.iload 5, 2) := by decide +kernel
theorem dX8_alignChildren_293 : decode cX8_alignChildren 293 = .ok (.bipush 13, 2) := by decide +kernel
theorem dX8_alignChildren_295 : decode cX8_alignChildren 295 = .ok (.imul, 1) := by decide +kernel
theorem dX8_alignChildren_296 : decode cX8_alignChildren 296 = .ok (.iload 6, 2) := by decide +kernel
theorem dX8_alignChildren_298 : decode cX8_alignChildren 298 = .ok (.iadd, 1) := by decide +kernel
theorem dX8_alignChildren_299 : decode cX8_alignChildren 299 = .ok (.iaload, 1) := by decide +kernel
theorem dX8_alignChildren_300 : decode cX8_alignChildren 300 = .ok (.ireturn, 1) := by decide +kernel
theorem lk_X8_alignChildren_f24 : Cond.fieldLink RX8 24 "TreeComparer$TopDownTable" "layout" "LTreeComparer$Layout;" ∈ wsX8_alignChildren := by decide +kernel
theorem hi_X8_alignChildren_8 : ∀ w ∈ u_ws RX8 TX8 5, w ∈ wsX8_alignChildren := by decide +kernel
theorem hi_X8_alignChildren_3 : ∀ w ∈ u_ws RX3 TX3 4, w ∈ wsX8_alignChildren := by decide +kernel
theorem lk_X8_alignChildren_f18 : Cond.fieldLink RX8 18 "TreeComparer$TopDownTable" "oldChild" "[I" ∈ wsX8_alignChildren := by decide +kernel
theorem lk_X8_alignChildren_f21 : Cond.fieldLink RX8 21 "TreeComparer$TopDownTable" "newChild" "[I" ∈ wsX8_alignChildren := by decide +kernel
theorem lk_X8_alignChildren_f15 : Cond.fieldLink RX8 15 "TreeComparer$TopDownTable" "aligned" "[I" ∈ wsX8_alignChildren := by decide +kernel
theorem lk_X8_alignChildren_m55 : Cond.methodLink RX8 55 Lib.Math.min.name ∈ wsX8_alignChildren := by decide +kernel
theorem lk_X8_alignChildren_mins : Cond.static Lib.Math.min.name ∈ wsX8_alignChildren := by decide +kernel
theorem lk_X8_alignChildren_mini : Cond.initialized "java/lang/Math" ∈ wsX8_alignChildren := by decide +kernel
theorem lk_X8_alignChildren_minc : Cond.code Lib.Math.min.name Lib.Math.min.code 2 (some .int) ∈ wsX8_alignChildren := by decide +kernel
theorem lk_X8_alignChildren_f9 : Cond.fieldLink RX8 9 "TreeComparer$TopDownTable" "ofPaired" "[I" ∈ wsX8_alignChildren := by decide +kernel
def wph_X8_alignChildren_159 (p0 : Int) (p1 : Int) (x5 : Int) (x6 : Int) (x7 : Int) (x8 : Int) (M : Mem) (J50 : Int → Int → Int → Mem → Prop) (J102 : Int → Int → Int → Mem → Prop) (J149 : Int → Int → Int → Mem → Prop) (J159 : Int → Int → Int → Int → Mem → Prop) (Q : Int → Mem → Prop) : Prop := inR x8 ∧ inR x6 ∧ ((x6 < x8 → J149 x5 x6 (x7 + 1) M) ∧ (¬ (x6 < x8) → (∀ y32 : Int, y32 = (x7 * 13) + x8 → ((0 : Int) ≤ x7 - 1 ∧ x7 - 1 < 12) ∧ (∀ y34 : Int, y34 = (M 5 3 (x7 - 1).toNat) → ((0 : Int) ≤ x8 - 1 ∧ x8 - 1 < 12) ∧ (∀ y36 : Int, y36 = (M 5 4 (x8 - 1).toNat) → ((0 : Int) ≤ y32 - 13 ∧ y32 - 13 < 169) ∧ wp_X8_subtreeAlone M 9 y34 (fun y38 M39 => ((0 : Int) ≤ y32 - 1 ∧ y32 - 1 < 169) ∧ wp_X8_subtreeAlone M39 10 y36 (fun y41 M42 => inR ((M 5 2 (y32 - 13).toNat) + y38) ∧ inR ((M39 5 2 (y32 - 1).toNat) + y41) ∧ (∀ y45 : Int, y45 = min ((M 5 2 (y32 - 13).toNat) + y38) ((M39 5 2 (y32 - 1).toNat) + y41) → ((0 : Int) ≤ (y32 - 13) - 1 ∧ (y32 - 13) - 1 < 169) ∧ ((0 : Int) ≤ (y34 * 12) + y36 ∧ (y34 * 12) + y36 < 144) ∧ inR (y45) ∧ inR ((M42 5 2 ((y32 - 13) - 1).toNat) + (M42 5 1 ((y34 * 12) + y36).toNat)) ∧ (∀ y50 : Int, y50 = min (y45) ((M42 5 2 ((y32 - 13) - 1).toNat) + (M42 5 1 ((y34 * 12) + y36).toNat)) → ((0 : Int) ≤ y32 ∧ y32 < 169) ∧ (∀ M51 : Mem, M51 = mset M42 5 2 y32.toNat y50 → J159 x5 x6 x7 (x8 + 1) M51))))))))))
def wph_X8_alignChildren_149 (p0 : Int) (p1 : Int) (x5 : Int) (x6 : Int) (x7 : Int) (M : Mem) (J50 : Int → Int → Int → Mem → Prop) (J102 : Int → Int → Int → Mem → Prop) (J149 : Int → Int → Int → Mem → Prop) (J159 : Int → Int → Int → Int → Mem → Prop) (Q : Int → Mem → Prop) : Prop := inR x7 ∧ inR x5 ∧ ((x5 < x7 → ((0 : Int) ≤ (x5 * 13) + x6 ∧ (x5 * 13) + x6 < 169) ∧ Q ((M 5 2 ((x5 * 13) + x6).toNat)) M) ∧ (¬ (x5 < x7) → J159 x5 x6 x7 1 M))
def wph_X8_alignChildren_102 (p0 : Int) (p1 : Int) (x5 : Int) (x6 : Int) (x7 : Int) (M : Mem) (J50 : Int → Int → Int → Mem → Prop) (J102 : Int → Int → Int → Mem → Prop) (J149 : Int → Int → Int → Mem → Prop) (J159 : Int → Int → Int → Int → Mem → Prop) (Q : Int → Mem → Prop) : Prop := inR x7 ∧ inR x6 ∧ ((x6 < x7 → J149 x5 x6 1 M) ∧ (¬ (x6 < x7) → ((0 : Int) ≤ x7 - 1 ∧ x7 - 1 < 169) ∧ ((0 : Int) ≤ x7 - 1 ∧ x7 - 1 < 12) ∧ wp_X8_subtreeAlone M 10 ((M 5 4 (x7 - 1).toNat)) (fun y21 M22 => ((0 : Int) ≤ x7 ∧ x7 < 169) ∧ (∀ M23 : Mem, M23 = mset M22 5 2 x7.toNat ((M 5 2 (x7 - 1).toNat) + y21) → J102 x5 x6 (x7 + 1) M23))))
def wph_X8_alignChildren_50 (p0 : Int) (p1 : Int) (x5 : Int) (x6 : Int) (x7 : Int) (M : Mem) (J50 : Int → Int → Int → Mem → Prop) (J102 : Int → Int → Int → Mem → Prop) (J149 : Int → Int → Int → Mem → Prop) (J159 : Int → Int → Int → Int → Mem → Prop) (Q : Int → Mem → Prop) : Prop := inR x7 ∧ inR x5 ∧ ((x5 < x7 → J102 x5 x6 1 M) ∧ (¬ (x5 < x7) → ((0 : Int) ≤ (x7 - 1) * 13 ∧ (x7 - 1) * 13 < 169) ∧ ((0 : Int) ≤ x7 - 1 ∧ x7 - 1 < 12) ∧ wp_X8_subtreeAlone M 9 ((M 5 3 (x7 - 1).toNat)) (fun y12 M13 => ((0 : Int) ≤ x7 * 13 ∧ x7 * 13 < 169) ∧ (∀ M14 : Mem, M14 = mset M13 5 2 (x7 * 13).toNat ((M 5 2 ((x7 - 1) * 13).toNat) + y12) → J50 x5 x6 (x7 + 1) M14))))
def wpe_X8_alignChildren (p0 : Int) (p1 : Int) (M : Mem) (J50 : Int → Int → Int → Mem → Prop) (J102 : Int → Int → Int → Mem → Prop) (J149 : Int → Int → Int → Mem → Prop) (J159 : Int → Int → Int → Int → Mem → Prop) (Q : Int → Mem → Prop) : Prop := wp_X8_listChildren M 9 p0 5 3 12 (fun y1 M2 => wp_X8_listChildren M2 10 p1 5 4 12 (fun y3 M4 => (∀ M5 : Mem, M5 = mset M4 5 2 0 0 → J50 y1 y3 1 M5)))
def wp_X8_alignChildren (M : Mem) (p0 : Int) (p1 : Int) (Q : Int → Mem → Prop) : Prop := ∃ (I50 : Nat → Int → Int → Int → Mem → Prop) (I102 : Nat → Int → Int → Int → Mem → Prop) (I149 : Nat → Int → Int → Int → Mem → Prop) (I159 : Nat → Int → Int → Int → Int → Mem → Prop), wpe_X8_alignChildren p0 p1 M (fun (x5 : Int) (x6 : Int) (x7 : Int) (M1 : Mem) => ∃ n1 : Nat, I50 n1 x5 x6 x7 M1) (fun (x5 : Int) (x6 : Int) (x7 : Int) (M1 : Mem) => ∃ n1 : Nat, I102 n1 x5 x6 x7 M1) (fun (x5 : Int) (x6 : Int) (x7 : Int) (M1 : Mem) => ∃ n1 : Nat, I149 n1 x5 x6 x7 M1) (fun (x5 : Int) (x6 : Int) (x7 : Int) (x8 : Int) (M1 : Mem) => ∃ n1 : Nat, I159 n1 x5 x6 x7 x8 M1) Q ∧ (∀ (n : Nat) (x5 : Int) (x6 : Int) (x7 : Int) (M : Mem), I50 n x5 x6 x7 M → wph_X8_alignChildren_50 p0 p1 x5 x6 x7 M (fun (x5 : Int) (x6 : Int) (x7 : Int) (M1 : Mem) => ∃ n1 : Nat, n1 < n ∧ I50 n1 x5 x6 x7 M1) (fun (x5 : Int) (x6 : Int) (x7 : Int) (M1 : Mem) => ∃ n1 : Nat, n1 < n ∧ I102 n1 x5 x6 x7 M1) (fun (x5 : Int) (x6 : Int) (x7 : Int) (M1 : Mem) => ∃ n1 : Nat, n1 < n ∧ I149 n1 x5 x6 x7 M1) (fun (x5 : Int) (x6 : Int) (x7 : Int) (x8 : Int) (M1 : Mem) => ∃ n1 : Nat, n1 < n ∧ I159 n1 x5 x6 x7 x8 M1) Q) ∧ (∀ (n : Nat) (x5 : Int) (x6 : Int) (x7 : Int) (M : Mem), I102 n x5 x6 x7 M → wph_X8_alignChildren_102 p0 p1 x5 x6 x7 M (fun (x5 : Int) (x6 : Int) (x7 : Int) (M1 : Mem) => ∃ n1 : Nat, n1 < n ∧ I50 n1 x5 x6 x7 M1) (fun (x5 : Int) (x6 : Int) (x7 : Int) (M1 : Mem) => ∃ n1 : Nat, n1 < n ∧ I102 n1 x5 x6 x7 M1) (fun (x5 : Int) (x6 : Int) (x7 : Int) (M1 : Mem) => ∃ n1 : Nat, n1 < n ∧ I149 n1 x5 x6 x7 M1) (fun (x5 : Int) (x6 : Int) (x7 : Int) (x8 : Int) (M1 : Mem) => ∃ n1 : Nat, n1 < n ∧ I159 n1 x5 x6 x7 x8 M1) Q) ∧ (∀ (n : Nat) (x5 : Int) (x6 : Int) (x7 : Int) (M : Mem), I149 n x5 x6 x7 M → wph_X8_alignChildren_149 p0 p1 x5 x6 x7 M (fun (x5 : Int) (x6 : Int) (x7 : Int) (M1 : Mem) => ∃ n1 : Nat, n1 < n ∧ I50 n1 x5 x6 x7 M1) (fun (x5 : Int) (x6 : Int) (x7 : Int) (M1 : Mem) => ∃ n1 : Nat, n1 < n ∧ I102 n1 x5 x6 x7 M1) (fun (x5 : Int) (x6 : Int) (x7 : Int) (M1 : Mem) => ∃ n1 : Nat, n1 < n ∧ I149 n1 x5 x6 x7 M1) (fun (x5 : Int) (x6 : Int) (x7 : Int) (x8 : Int) (M1 : Mem) => ∃ n1 : Nat, n1 < n ∧ I159 n1 x5 x6 x7 x8 M1) Q) ∧ (∀ (n : Nat) (x5 : Int) (x6 : Int) (x7 : Int) (x8 : Int) (M : Mem), I159 n x5 x6 x7 x8 M → wph_X8_alignChildren_159 p0 p1 x5 x6 x7 x8 M (fun (x5 : Int) (x6 : Int) (x7 : Int) (M1 : Mem) => ∃ n1 : Nat, n1 < n ∧ I50 n1 x5 x6 x7 M1) (fun (x5 : Int) (x6 : Int) (x7 : Int) (M1 : Mem) => ∃ n1 : Nat, n1 < n ∧ I102 n1 x5 x6 x7 M1) (fun (x5 : Int) (x6 : Int) (x7 : Int) (M1 : Mem) => ∃ n1 : Nat, n1 < n ∧ I149 n1 x5 x6 x7 M1) (fun (x5 : Int) (x6 : Int) (x7 : Int) (x8 : Int) (M1 : Mem) => ∃ n1 : Nat, n1 < n ∧ I159 n1 x5 x6 x7 x8 M1) Q)
set_option maxHeartbeats 4000000 in
set_option maxRecDepth 100000 in
theorem wkh_X8_alignChildren_159 {p : Program} {l : Launch} {e : Env} {s : State} {m : MethodId} {args : Array Value} {below : List Frame} {meth : Method} {c : Code} {D : va_G} {g : GT} {A : Nat → Prop} {a : Nat → Nat} {b : Nat → Nat → Nat} (X : vC p s m args meth c D g A RX8 wsX8_alignChildren cX8_alignChildren 13) (hr : meth.sig.returnType = (some .int)) {p0 : Int} {p1 : Int} {x5 : Int} {x6 : Int} {x7 : Int} {x8 : Int} {M : Mem} {J50 : Int → Int → Int → Mem → Prop} {J102 : Int → Int → Int → Mem → Prop} {J149 : Int → Int → Int → Mem → Prop} {J159 : Int → Int → Int → Int → Mem → Prop} {Q : Int → Mem → Prop} (hJ50 : ∀ (x5 : Int) (x6 : Int) (x7 : Int) (M : Mem), J50 x5 x6 x7 M → vV p l e ({ frames := 2, cells := 0, slots := 0, locals := 43 } : Room) s m args below meth c D g A a b 13 0 0 (MQ below (cQi D g A a b Q) args s 0 0 A) M [(0, .ref (a 5)), (3, .ref (a 9)), (4, .ref (a 10)), (5, iv x5), (6, iv x6), (7, iv x7)] 50 []) (hJ102 : ∀ (x5 : Int) (x6 : Int) (x7 : Int) (M : Mem), J102 x5 x6 x7 M → vV p l e ({ frames := 2, cells := 0, slots := 0, locals := 43 } : Room) s m args below meth c D g A a b 13 0 0 (MQ below (cQi D g A a b Q) args s 0 0 A) M [(0, .ref (a 5)), (3, .ref (a 9)), (4, .ref (a 10)), (5, iv x5), (6, iv x6), (7, iv x7)] 102 []) (hJ149 : ∀ (x5 : Int) (x6 : Int) (x7 : Int) (M : Mem), J149 x5 x6 x7 M → vV p l e ({ frames := 2, cells := 0, slots := 0, locals := 43 } : Room) s m args below meth c D g A a b 13 0 0 (MQ below (cQi D g A a b Q) args s 0 0 A) M [(0, .ref (a 5)), (3, .ref (a 9)), (4, .ref (a 10)), (5, iv x5), (6, iv x6), (7, iv x7)] 149 []) (hJ159 : ∀ (x5 : Int) (x6 : Int) (x7 : Int) (x8 : Int) (M : Mem), J159 x5 x6 x7 x8 M → vV p l e ({ frames := 2, cells := 0, slots := 0, locals := 43 } : Room) s m args below meth c D g A a b 13 0 0 (MQ below (cQi D g A a b Q) args s 0 0 A) M [(0, .ref (a 5)), (3, .ref (a 9)), (4, .ref (a 10)), (5, iv x5), (6, iv x6), (7, iv x7), (8, iv x8)] 159 []) (hw : wph_X8_alignChildren_159 p0 p1 x5 x6 x7 x8 M J50 J102 J149 J159 Q) : vV p l e ({ frames := 2, cells := 0, slots := 0, locals := 43 } : Room) s m args below meth c D g A a b 13 0 0 (MQ below (cQi D g A a b Q) args s 0 0 A) M [(0, .ref (a 5)), (3, .ref (a 9)), (4, .ref (a 10)), (5, iv x5), (6, iv x6), (7, iv x7), (8, iv x8)] 159 [] := by
  unfold wph_X8_alignChildren_159 at hw
  refine V_iload X dX8_alignChildren_159 (q := 6) rfl ?_
  refine V_iload X dX8_alignChildren_161 (q := 4) rfl ?_
  obtain ⟨h29, h30, hw⟩ := hw
  refine V_icmp_gt (tgt := 281) X h29 h30 dX8_alignChildren_163 (by decide) (fun q31 => ?_) (fun q31 => ?_)
  · have hw := hw.1 q31
    refine V_iinc (lv1 := [(0, .ref (a 5)), (3, .ref (a 9)), (4, .ref (a 10)), (5, iv x5), (6, iv x6), (7, iv (x7 + 1)), (8, iv x8)]) X [1, 2, 3, 4, 5, 0, 6] dX8_alignChildren_281 (q := 5) rfl (by decide) rfl ?_
    refine V_goto (tgt := 149) X dX8_alignChildren_284 (by decide) ?_
    refine V_sub (lv1 := [(0, .ref (a 5)), (3, .ref (a 9)), (4, .ref (a 10)), (5, iv x5), (6, iv x6), (7, iv (x7 + 1))]) [0, 1, 2, 3, 4, 5] rfl ?_
    exact hJ149 _ _ _ _ hw
  · have hw := hw.2 q31
    refine V_iload X dX8_alignChildren_166 (q := 5) rfl ?_
    refine V_bipush X dX8_alignChildren_168 rfl ?_
    refine V_imul X dX8_alignChildren_170 ?_
    refine V_iload X dX8_alignChildren_171 (q := 6) rfl ?_
    refine V_iadd X dX8_alignChildren_173 ?_
    refine V_top (fun y32 ey32 => ?_)
    have hw := hw y32 ey32
    refine V_istore (lv1 := [(0, .ref (a 5)), (3, .ref (a 9)), (4, .ref (a 10)), (5, iv x5), (6, iv x6), (7, iv x7), (8, iv x8), (9, iv y32)]) X [1, 2, 3, 4, 5, 6, 7, 0] dX8_alignChildren_174 (by decide) rfl ?_
    refine V_aload_n X dX8_alignChildren_176 rfl (q := 0) rfl ?_
    refine V_get (C := RX8) (T := TX8) (N := 5) (ci := 8) X hi_X8_alignChildren_8 gO_5 rfl 3 (by decide) lk_X8_alignChildren_f18 (fun _ h9 => h9) rfl dX8_alignChildren_177 ?_
    refine V_iload X dX8_alignChildren_180 (q := 5) rfl ?_
    refine V_iconst X dX8_alignChildren_182 ?_
    refine V_isub X dX8_alignChildren_183 ?_
    obtain ⟨h33, hw⟩ := hw
    refine V_iald X (gA_5_3) h33 (by decide) dX8_alignChildren_184 ?_
    refine V_top (fun y34 ey34 => ?_)
    have hw := hw y34 ey34
    refine V_istore (lv1 := [(0, .ref (a 5)), (3, .ref (a 9)), (4, .ref (a 10)), (5, iv x5), (6, iv x6), (7, iv x7), (8, iv x8), (9, iv y32), (10, iv y34)]) X [1, 2, 3, 4, 5, 6, 7, 8, 0] dX8_alignChildren_185 (by decide) rfl ?_
    refine V_aload_n X dX8_alignChildren_187 rfl (q := 0) rfl ?_
    refine V_get (C := RX8) (T := TX8) (N := 5) (ci := 8) X hi_X8_alignChildren_8 gO_5 rfl 4 (by decide) lk_X8_alignChildren_f21 (fun _ h9 => h9) rfl dX8_alignChildren_188 ?_
    refine V_iload X dX8_alignChildren_191 (q := 6) rfl ?_
    refine V_iconst X dX8_alignChildren_193 ?_
    refine V_isub X dX8_alignChildren_194 ?_
    obtain ⟨h35, hw⟩ := hw
    refine V_iald X (gA_5_4) h35 (by decide) dX8_alignChildren_195 ?_
    refine V_top (fun y36 ey36 => ?_)
    have hw := hw y36 ey36
    refine V_istore (lv1 := [(0, .ref (a 5)), (3, .ref (a 9)), (4, .ref (a 10)), (5, iv x5), (6, iv x6), (7, iv x7), (8, iv x8), (9, iv y32), (10, iv y34), (11, iv y36)]) X [1, 2, 3, 4, 5, 6, 7, 8, 9, 0] dX8_alignChildren_196 (by decide) rfl ?_
    refine V_aload_n X dX8_alignChildren_198 rfl (q := 0) rfl ?_
    refine V_get (C := RX8) (T := TX8) (N := 5) (ci := 8) X hi_X8_alignChildren_8 gO_5 rfl 2 (by decide) lk_X8_alignChildren_f15 (fun _ h9 => h9) rfl dX8_alignChildren_199 ?_
    refine V_iload X dX8_alignChildren_202 (q := 7) rfl ?_
    refine V_bipush X dX8_alignChildren_204 rfl ?_
    refine V_isub X dX8_alignChildren_206 ?_
    obtain ⟨h37, hw⟩ := hw
    refine V_iald X (gA_5_2) h37 (by decide) dX8_alignChildren_207 ?_
    refine V_aload_n X dX8_alignChildren_208 rfl (q := 1) rfl ?_
    refine V_iload X dX8_alignChildren_209 (q := 8) rfl ?_
    refine V_callS_i X _ (As := [.ref (a 9), iv y34]) (st := [iv ((M 5 2 (y32 - 13).toNat))]) (c_X8_subtreeAlone l (by first | exact Or.inl rfl | exact Or.inr rfl) hw) (va_cwS 2 X.2.2.2.1 gX8_alignChildren_X8_subtreeAlone rfl rfl rfl (by decide +kernel) ⟨Nat.le_of_ble_eq_true rfl, Nat.le_of_ble_eq_true rfl⟩) rfl (Nat.le_of_ble_eq_true rfl) ⟨Nat.le_of_ble_eq_true rfl, Nat.le_of_ble_eq_true rfl⟩ rfl dX8_alignChildren_211 (fun y38 M39 hw => ?_)
    refine V_iadd X dX8_alignChildren_214 ?_
    refine V_aload_n X dX8_alignChildren_215 rfl (q := 0) rfl ?_
    refine V_get (C := RX8) (T := TX8) (N := 5) (ci := 8) X hi_X8_alignChildren_8 gO_5 rfl 2 (by decide) lk_X8_alignChildren_f15 (fun _ h9 => h9) rfl dX8_alignChildren_216 ?_
    refine V_iload X dX8_alignChildren_219 (q := 7) rfl ?_
    refine V_iconst X dX8_alignChildren_221 ?_
    refine V_isub X dX8_alignChildren_222 ?_
    obtain ⟨h40, hw⟩ := hw
    refine V_iald X (gA_5_2) h40 (by decide) dX8_alignChildren_223 ?_
    refine V_aload X dX8_alignChildren_224 (q := 2) rfl ?_
    refine V_iload X dX8_alignChildren_226 (q := 9) rfl ?_
    refine V_callS_i X _ (As := [.ref (a 10), iv y36]) (st := [iv ((M39 5 2 (y32 - 1).toNat)), iv ((M 5 2 (y32 - 13).toNat) + y38)]) (c_X8_subtreeAlone l (by first | exact Or.inl rfl | exact Or.inr rfl) hw) (va_cwS 2 X.2.2.2.1 gX8_alignChildren_X8_subtreeAlone rfl rfl rfl (by decide +kernel) ⟨Nat.le_of_ble_eq_true rfl, Nat.le_of_ble_eq_true rfl⟩) rfl (Nat.le_of_ble_eq_true rfl) ⟨Nat.le_of_ble_eq_true rfl, Nat.le_of_ble_eq_true rfl⟩ rfl dX8_alignChildren_228 (fun y41 M42 hw => ?_)
    refine V_iadd X dX8_alignChildren_231 ?_
    obtain ⟨h43, h44, hw⟩ := hw
    refine V_min X h43 h44 lk_X8_alignChildren_m55 lk_X8_alignChildren_mins lk_X8_alignChildren_mini lk_X8_alignChildren_minc (Nat.le_of_ble_eq_true rfl) (Nat.le_of_ble_eq_true rfl) (Nat.zero_le _) (Nat.zero_le _) dX8_alignChildren_232 ?_
    refine V_top (fun y45 ey45 => ?_)
    have hw := hw y45 ey45
    refine V_istore (lv1 := [(0, .ref (a 5)), (3, .ref (a 9)), (4, .ref (a 10)), (5, iv x5), (6, iv x6), (7, iv x7), (8, iv x8), (9, iv y32), (10, iv y34), (11, iv y36), (12, iv y45)]) X [1, 2, 3, 4, 5, 6, 7, 8, 9, 10, 0] dX8_alignChildren_235 (by decide) rfl ?_
    refine V_aload_n X dX8_alignChildren_237 rfl (q := 0) rfl ?_
    refine V_get (C := RX8) (T := TX8) (N := 5) (ci := 8) X hi_X8_alignChildren_8 gO_5 rfl 2 (by decide) lk_X8_alignChildren_f15 (fun _ h9 => h9) rfl dX8_alignChildren_238 ?_
    refine V_iload X dX8_alignChildren_241 (q := 7) rfl ?_
    refine V_iload X dX8_alignChildren_243 (q := 10) rfl ?_
    refine V_aload_n X dX8_alignChildren_245 rfl (q := 0) rfl ?_
    refine V_get (C := RX8) (T := TX8) (N := 5) (ci := 8) X hi_X8_alignChildren_8 gO_5 rfl 2 (by decide) lk_X8_alignChildren_f15 (fun _ h9 => h9) rfl dX8_alignChildren_246 ?_
    refine V_iload X dX8_alignChildren_249 (q := 7) rfl ?_
    refine V_bipush X dX8_alignChildren_251 rfl ?_
    refine V_isub X dX8_alignChildren_253 ?_
    refine V_iconst X dX8_alignChildren_254 ?_
    refine V_isub X dX8_alignChildren_255 ?_
    obtain ⟨h46, hw⟩ := hw
    refine V_iald X (gA_5_2) h46 (by decide) dX8_alignChildren_256 ?_
    refine V_aload_n X dX8_alignChildren_257 rfl (q := 0) rfl ?_
    refine V_get (C := RX8) (T := TX8) (N := 5) (ci := 8) X hi_X8_alignChildren_8 gO_5 rfl 1 (by decide) lk_X8_alignChildren_f9 (fun _ h9 => h9) rfl dX8_alignChildren_258 ?_
    refine V_iload X dX8_alignChildren_261 (q := 8) rfl ?_
    refine V_bipush X dX8_alignChildren_263 rfl ?_
    refine V_imul X dX8_alignChildren_265 ?_
    refine V_iload X dX8_alignChildren_266 (q := 9) rfl ?_
    refine V_iadd X dX8_alignChildren_268 ?_
    obtain ⟨h47, hw⟩ := hw
    refine V_iald X (gA_5_1) h47 (by decide) dX8_alignChildren_269 ?_
    refine V_iadd X dX8_alignChildren_270 ?_
    obtain ⟨h48, h49, hw⟩ := hw
    refine V_min X h48 h49 lk_X8_alignChildren_m55 lk_X8_alignChildren_mins lk_X8_alignChildren_mini lk_X8_alignChildren_minc (Nat.le_of_ble_eq_true rfl) (Nat.le_of_ble_eq_true rfl) (Nat.zero_le _) (Nat.zero_le _) dX8_alignChildren_271 ?_
    refine V_top (fun y50 ey50 => ?_)
    have hw := hw y50 ey50
    obtain ⟨h52, hw⟩ := hw
    refine V_iast X (gA_5_2) (sA_5_2) h52 (by decide) dX8_alignChildren_274 (fun M51 eM51 => ?_)
    have hw := hw M51 eM51
    refine V_iinc (lv1 := [(0, .ref (a 5)), (3, .ref (a 9)), (4, .ref (a 10)), (5, iv x5), (6, iv x6), (7, iv x7), (8, iv (x8 + 1)), (9, iv y32), (10, iv y34), (11, iv y36), (12, iv y45)]) X [1, 2, 3, 4, 5, 6, 0, 7, 8, 9, 10] dX8_alignChildren_275 (q := 6) rfl (by decide) rfl ?_
    refine V_goto (tgt := 159) X dX8_alignChildren_278 (by decide) ?_
    refine V_sub (lv1 := [(0, .ref (a 5)), (3, .ref (a 9)), (4, .ref (a 10)), (5, iv x5), (6, iv x6), (7, iv x7), (8, iv (x8 + 1))]) [0, 1, 2, 3, 4, 5, 6] rfl ?_
    exact hJ159 _ _ _ _ _ hw
set_option maxHeartbeats 4000000 in
set_option maxRecDepth 100000 in
theorem wkh_X8_alignChildren_149 {p : Program} {l : Launch} {e : Env} {s : State} {m : MethodId} {args : Array Value} {below : List Frame} {meth : Method} {c : Code} {D : va_G} {g : GT} {A : Nat → Prop} {a : Nat → Nat} {b : Nat → Nat → Nat} (X : vC p s m args meth c D g A RX8 wsX8_alignChildren cX8_alignChildren 13) (hr : meth.sig.returnType = (some .int)) {p0 : Int} {p1 : Int} {x5 : Int} {x6 : Int} {x7 : Int} {M : Mem} {J50 : Int → Int → Int → Mem → Prop} {J102 : Int → Int → Int → Mem → Prop} {J149 : Int → Int → Int → Mem → Prop} {J159 : Int → Int → Int → Int → Mem → Prop} {Q : Int → Mem → Prop} (hJ50 : ∀ (x5 : Int) (x6 : Int) (x7 : Int) (M : Mem), J50 x5 x6 x7 M → vV p l e ({ frames := 2, cells := 0, slots := 0, locals := 43 } : Room) s m args below meth c D g A a b 13 0 0 (MQ below (cQi D g A a b Q) args s 0 0 A) M [(0, .ref (a 5)), (3, .ref (a 9)), (4, .ref (a 10)), (5, iv x5), (6, iv x6), (7, iv x7)] 50 []) (hJ102 : ∀ (x5 : Int) (x6 : Int) (x7 : Int) (M : Mem), J102 x5 x6 x7 M → vV p l e ({ frames := 2, cells := 0, slots := 0, locals := 43 } : Room) s m args below meth c D g A a b 13 0 0 (MQ below (cQi D g A a b Q) args s 0 0 A) M [(0, .ref (a 5)), (3, .ref (a 9)), (4, .ref (a 10)), (5, iv x5), (6, iv x6), (7, iv x7)] 102 []) (hJ149 : ∀ (x5 : Int) (x6 : Int) (x7 : Int) (M : Mem), J149 x5 x6 x7 M → vV p l e ({ frames := 2, cells := 0, slots := 0, locals := 43 } : Room) s m args below meth c D g A a b 13 0 0 (MQ below (cQi D g A a b Q) args s 0 0 A) M [(0, .ref (a 5)), (3, .ref (a 9)), (4, .ref (a 10)), (5, iv x5), (6, iv x6), (7, iv x7)] 149 []) (hJ159 : ∀ (x5 : Int) (x6 : Int) (x7 : Int) (x8 : Int) (M : Mem), J159 x5 x6 x7 x8 M → vV p l e ({ frames := 2, cells := 0, slots := 0, locals := 43 } : Room) s m args below meth c D g A a b 13 0 0 (MQ below (cQi D g A a b Q) args s 0 0 A) M [(0, .ref (a 5)), (3, .ref (a 9)), (4, .ref (a 10)), (5, iv x5), (6, iv x6), (7, iv x7), (8, iv x8)] 159 []) (hw : wph_X8_alignChildren_149 p0 p1 x5 x6 x7 M J50 J102 J149 J159 Q) : vV p l e ({ frames := 2, cells := 0, slots := 0, locals := 43 } : Room) s m args below meth c D g A a b 13 0 0 (MQ below (cQi D g A a b Q) args s 0 0 A) M [(0, .ref (a 5)), (3, .ref (a 9)), (4, .ref (a 10)), (5, iv x5), (6, iv x6), (7, iv x7)] 149 [] := by
  unfold wph_X8_alignChildren_149 at hw
  refine V_iload X dX8_alignChildren_149 (q := 5) rfl ?_
  refine V_iload X dX8_alignChildren_151 (q := 3) rfl ?_
  obtain ⟨h25, h26, hw⟩ := hw
  refine V_icmp_gt (tgt := 287) X h25 h26 dX8_alignChildren_153 (by decide) (fun q27 => ?_) (fun q27 => ?_)
  · have hw := hw.1 q27
    refine V_aload_n X dX8_alignChildren_287 rfl (q := 0) rfl ?_
    refine V_get (C := RX8) (T := TX8) (N := 5) (ci := 8) X hi_X8_alignChildren_8 gO_5 rfl 2 (by decide) lk_X8_alignChildren_f15 (fun _ h9 => h9) rfl dX8_alignChildren_288 ?_
    refine V_iload X dX8_alignChildren_291 (q := 3) rfl ?_
    refine V_bipush X dX8_alignChildren_293 rfl ?_
    refine V_imul X dX8_alignChildren_295 ?_
    refine V_iload X dX8_alignChildren_296 (q := 4) rfl ?_
    refine V_iadd X dX8_alignChildren_298 ?_
    obtain ⟨h28, hw⟩ := hw
    refine V_iald X (gA_5_2) h28 (by decide) dX8_alignChildren_299 ?_
    exact V_iret X hr hw dX8_alignChildren_300
  · have hw := hw.2 q27
    refine V_iconst X dX8_alignChildren_156 ?_
    refine V_istore (lv1 := [(0, .ref (a 5)), (3, .ref (a 9)), (4, .ref (a 10)), (5, iv x5), (6, iv x6), (7, iv x7), (8, iv 1)]) X [1, 2, 3, 4, 5, 6, 0] dX8_alignChildren_157 (by decide) rfl ?_
    exact hJ159 _ _ _ _ _ hw
set_option maxHeartbeats 4000000 in
set_option maxRecDepth 100000 in
theorem wkh_X8_alignChildren_102 {p : Program} {l : Launch} {e : Env} {s : State} {m : MethodId} {args : Array Value} {below : List Frame} {meth : Method} {c : Code} {D : va_G} {g : GT} {A : Nat → Prop} {a : Nat → Nat} {b : Nat → Nat → Nat} (X : vC p s m args meth c D g A RX8 wsX8_alignChildren cX8_alignChildren 13) (hr : meth.sig.returnType = (some .int)) {p0 : Int} {p1 : Int} {x5 : Int} {x6 : Int} {x7 : Int} {M : Mem} {J50 : Int → Int → Int → Mem → Prop} {J102 : Int → Int → Int → Mem → Prop} {J149 : Int → Int → Int → Mem → Prop} {J159 : Int → Int → Int → Int → Mem → Prop} {Q : Int → Mem → Prop} (hJ50 : ∀ (x5 : Int) (x6 : Int) (x7 : Int) (M : Mem), J50 x5 x6 x7 M → vV p l e ({ frames := 2, cells := 0, slots := 0, locals := 43 } : Room) s m args below meth c D g A a b 13 0 0 (MQ below (cQi D g A a b Q) args s 0 0 A) M [(0, .ref (a 5)), (3, .ref (a 9)), (4, .ref (a 10)), (5, iv x5), (6, iv x6), (7, iv x7)] 50 []) (hJ102 : ∀ (x5 : Int) (x6 : Int) (x7 : Int) (M : Mem), J102 x5 x6 x7 M → vV p l e ({ frames := 2, cells := 0, slots := 0, locals := 43 } : Room) s m args below meth c D g A a b 13 0 0 (MQ below (cQi D g A a b Q) args s 0 0 A) M [(0, .ref (a 5)), (3, .ref (a 9)), (4, .ref (a 10)), (5, iv x5), (6, iv x6), (7, iv x7)] 102 []) (hJ149 : ∀ (x5 : Int) (x6 : Int) (x7 : Int) (M : Mem), J149 x5 x6 x7 M → vV p l e ({ frames := 2, cells := 0, slots := 0, locals := 43 } : Room) s m args below meth c D g A a b 13 0 0 (MQ below (cQi D g A a b Q) args s 0 0 A) M [(0, .ref (a 5)), (3, .ref (a 9)), (4, .ref (a 10)), (5, iv x5), (6, iv x6), (7, iv x7)] 149 []) (hJ159 : ∀ (x5 : Int) (x6 : Int) (x7 : Int) (x8 : Int) (M : Mem), J159 x5 x6 x7 x8 M → vV p l e ({ frames := 2, cells := 0, slots := 0, locals := 43 } : Room) s m args below meth c D g A a b 13 0 0 (MQ below (cQi D g A a b Q) args s 0 0 A) M [(0, .ref (a 5)), (3, .ref (a 9)), (4, .ref (a 10)), (5, iv x5), (6, iv x6), (7, iv x7), (8, iv x8)] 159 []) (hw : wph_X8_alignChildren_102 p0 p1 x5 x6 x7 M J50 J102 J149 J159 Q) : vV p l e ({ frames := 2, cells := 0, slots := 0, locals := 43 } : Room) s m args below meth c D g A a b 13 0 0 (MQ below (cQi D g A a b Q) args s 0 0 A) M [(0, .ref (a 5)), (3, .ref (a 9)), (4, .ref (a 10)), (5, iv x5), (6, iv x6), (7, iv x7)] 102 [] := by
  unfold wph_X8_alignChildren_102 at hw
  refine V_iload X dX8_alignChildren_102 (q := 5) rfl ?_
  refine V_iload X dX8_alignChildren_104 (q := 4) rfl ?_
  obtain ⟨h16, h17, hw⟩ := hw
  refine V_icmp_gt (tgt := 146) X h16 h17 dX8_alignChildren_106 (by decide) (fun q18 => ?_) (fun q18 => ?_)
  · have hw := hw.1 q18
    refine V_iconst X dX8_alignChildren_146 ?_
    refine V_istore (lv1 := [(0, .ref (a 5)), (3, .ref (a 9)), (4, .ref (a 10)), (5, iv x5), (6, iv x6), (7, iv 1)]) X [1, 2, 3, 4, 5, 0] dX8_alignChildren_147 (by decide) rfl ?_
    exact hJ149 _ _ _ _ hw
  · have hw := hw.2 q18
    refine V_aload_n X dX8_alignChildren_109 rfl (q := 0) rfl ?_
    refine V_get (C := RX8) (T := TX8) (N := 5) (ci := 8) X hi_X8_alignChildren_8 gO_5 rfl 2 (by decide) lk_X8_alignChildren_f15 (fun _ h9 => h9) rfl dX8_alignChildren_110 ?_
    refine V_iload X dX8_alignChildren_113 (q := 5) rfl ?_
    refine V_aload_n X dX8_alignChildren_115 rfl (q := 0) rfl ?_
    refine V_get (C := RX8) (T := TX8) (N := 5) (ci := 8) X hi_X8_alignChildren_8 gO_5 rfl 2 (by decide) lk_X8_alignChildren_f15 (fun _ h9 => h9) rfl dX8_alignChildren_116 ?_
    refine V_iload X dX8_alignChildren_119 (q := 5) rfl ?_
    refine V_iconst X dX8_alignChildren_121 ?_
    refine V_isub X dX8_alignChildren_122 ?_
    obtain ⟨h19, hw⟩ := hw
    refine V_iald X (gA_5_2) h19 (by decide) dX8_alignChildren_123 ?_
    refine V_aload X dX8_alignChildren_124 (q := 2) rfl ?_
    refine V_aload_n X dX8_alignChildren_126 rfl (q := 0) rfl ?_
    refine V_get (C := RX8) (T := TX8) (N := 5) (ci := 8) X hi_X8_alignChildren_8 gO_5 rfl 4 (by decide) lk_X8_alignChildren_f21 (fun _ h9 => h9) rfl dX8_alignChildren_127 ?_
    refine V_iload X dX8_alignChildren_130 (q := 5) rfl ?_
    refine V_iconst X dX8_alignChildren_132 ?_
    refine V_isub X dX8_alignChildren_133 ?_
    obtain ⟨h20, hw⟩ := hw
    refine V_iald X (gA_5_4) h20 (by decide) dX8_alignChildren_134 ?_
    refine V_callS_i X _ (As := [.ref (a 10), iv ((M 5 4 (x7 - 1).toNat))]) (st := [iv ((M 5 2 (x7 - 1).toNat)), iv x7, .ref (b 5 2)]) (c_X8_subtreeAlone l (by first | exact Or.inl rfl | exact Or.inr rfl) hw) (va_cwS 2 X.2.2.2.1 gX8_alignChildren_X8_subtreeAlone rfl rfl rfl (by decide +kernel) ⟨Nat.le_of_ble_eq_true rfl, Nat.le_of_ble_eq_true rfl⟩) rfl (Nat.le_of_ble_eq_true rfl) ⟨Nat.le_of_ble_eq_true rfl, Nat.le_of_ble_eq_true rfl⟩ rfl dX8_alignChildren_135 (fun y21 M22 hw => ?_)
    refine V_iadd X dX8_alignChildren_138 ?_
    obtain ⟨h24, hw⟩ := hw
    refine V_iast X (gA_5_2) (sA_5_2) h24 (by decide) dX8_alignChildren_139 (fun M23 eM23 => ?_)
    have hw := hw M23 eM23
    refine V_iinc (lv1 := [(0, .ref (a 5)), (3, .ref (a 9)), (4, .ref (a 10)), (5, iv x5), (6, iv x6), (7, iv (x7 + 1))]) X [1, 2, 3, 4, 5, 0] dX8_alignChildren_140 (q := 5) rfl (by decide) rfl ?_
    refine V_goto (tgt := 102) X dX8_alignChildren_143 (by decide) ?_
    exact hJ102 _ _ _ _ hw
set_option maxHeartbeats 4000000 in
set_option maxRecDepth 100000 in
theorem wkh_X8_alignChildren_50 {p : Program} {l : Launch} {e : Env} {s : State} {m : MethodId} {args : Array Value} {below : List Frame} {meth : Method} {c : Code} {D : va_G} {g : GT} {A : Nat → Prop} {a : Nat → Nat} {b : Nat → Nat → Nat} (X : vC p s m args meth c D g A RX8 wsX8_alignChildren cX8_alignChildren 13) (hr : meth.sig.returnType = (some .int)) {p0 : Int} {p1 : Int} {x5 : Int} {x6 : Int} {x7 : Int} {M : Mem} {J50 : Int → Int → Int → Mem → Prop} {J102 : Int → Int → Int → Mem → Prop} {J149 : Int → Int → Int → Mem → Prop} {J159 : Int → Int → Int → Int → Mem → Prop} {Q : Int → Mem → Prop} (hJ50 : ∀ (x5 : Int) (x6 : Int) (x7 : Int) (M : Mem), J50 x5 x6 x7 M → vV p l e ({ frames := 2, cells := 0, slots := 0, locals := 43 } : Room) s m args below meth c D g A a b 13 0 0 (MQ below (cQi D g A a b Q) args s 0 0 A) M [(0, .ref (a 5)), (3, .ref (a 9)), (4, .ref (a 10)), (5, iv x5), (6, iv x6), (7, iv x7)] 50 []) (hJ102 : ∀ (x5 : Int) (x6 : Int) (x7 : Int) (M : Mem), J102 x5 x6 x7 M → vV p l e ({ frames := 2, cells := 0, slots := 0, locals := 43 } : Room) s m args below meth c D g A a b 13 0 0 (MQ below (cQi D g A a b Q) args s 0 0 A) M [(0, .ref (a 5)), (3, .ref (a 9)), (4, .ref (a 10)), (5, iv x5), (6, iv x6), (7, iv x7)] 102 []) (hJ149 : ∀ (x5 : Int) (x6 : Int) (x7 : Int) (M : Mem), J149 x5 x6 x7 M → vV p l e ({ frames := 2, cells := 0, slots := 0, locals := 43 } : Room) s m args below meth c D g A a b 13 0 0 (MQ below (cQi D g A a b Q) args s 0 0 A) M [(0, .ref (a 5)), (3, .ref (a 9)), (4, .ref (a 10)), (5, iv x5), (6, iv x6), (7, iv x7)] 149 []) (hJ159 : ∀ (x5 : Int) (x6 : Int) (x7 : Int) (x8 : Int) (M : Mem), J159 x5 x6 x7 x8 M → vV p l e ({ frames := 2, cells := 0, slots := 0, locals := 43 } : Room) s m args below meth c D g A a b 13 0 0 (MQ below (cQi D g A a b Q) args s 0 0 A) M [(0, .ref (a 5)), (3, .ref (a 9)), (4, .ref (a 10)), (5, iv x5), (6, iv x6), (7, iv x7), (8, iv x8)] 159 []) (hw : wph_X8_alignChildren_50 p0 p1 x5 x6 x7 M J50 J102 J149 J159 Q) : vV p l e ({ frames := 2, cells := 0, slots := 0, locals := 43 } : Room) s m args below meth c D g A a b 13 0 0 (MQ below (cQi D g A a b Q) args s 0 0 A) M [(0, .ref (a 5)), (3, .ref (a 9)), (4, .ref (a 10)), (5, iv x5), (6, iv x6), (7, iv x7)] 50 [] := by
  unfold wph_X8_alignChildren_50 at hw
  refine V_iload X dX8_alignChildren_50 (q := 5) rfl ?_
  refine V_iload X dX8_alignChildren_52 (q := 3) rfl ?_
  obtain ⟨h7, h8, hw⟩ := hw
  refine V_icmp_gt (tgt := 99) X h7 h8 dX8_alignChildren_54 (by decide) (fun q9 => ?_) (fun q9 => ?_)
  · have hw := hw.1 q9
    refine V_iconst X dX8_alignChildren_99 ?_
    refine V_istore (lv1 := [(0, .ref (a 5)), (3, .ref (a 9)), (4, .ref (a 10)), (5, iv x5), (6, iv x6), (7, iv 1)]) X [1, 2, 3, 4, 5, 0] dX8_alignChildren_100 (by decide) rfl ?_
    exact hJ102 _ _ _ _ hw
  · have hw := hw.2 q9
    refine V_aload_n X dX8_alignChildren_57 rfl (q := 0) rfl ?_
    refine V_get (C := RX8) (T := TX8) (N := 5) (ci := 8) X hi_X8_alignChildren_8 gO_5 rfl 2 (by decide) lk_X8_alignChildren_f15 (fun _ h9 => h9) rfl dX8_alignChildren_58 ?_
    refine V_iload X dX8_alignChildren_61 (q := 5) rfl ?_
    refine V_bipush X dX8_alignChildren_63 rfl ?_
    refine V_imul X dX8_alignChildren_65 ?_
    refine V_aload_n X dX8_alignChildren_66 rfl (q := 0) rfl ?_
    refine V_get (C := RX8) (T := TX8) (N := 5) (ci := 8) X hi_X8_alignChildren_8 gO_5 rfl 2 (by decide) lk_X8_alignChildren_f15 (fun _ h9 => h9) rfl dX8_alignChildren_67 ?_
    refine V_iload X dX8_alignChildren_70 (q := 5) rfl ?_
    refine V_iconst X dX8_alignChildren_72 ?_
    refine V_isub X dX8_alignChildren_73 ?_
    refine V_bipush X dX8_alignChildren_74 rfl ?_
    refine V_imul X dX8_alignChildren_76 ?_
    obtain ⟨h10, hw⟩ := hw
    refine V_iald X (gA_5_2) h10 (by decide) dX8_alignChildren_77 ?_
    refine V_aload_n X dX8_alignChildren_78 rfl (q := 1) rfl ?_
    refine V_aload_n X dX8_alignChildren_79 rfl (q := 0) rfl ?_
    refine V_get (C := RX8) (T := TX8) (N := 5) (ci := 8) X hi_X8_alignChildren_8 gO_5 rfl 3 (by decide) lk_X8_alignChildren_f18 (fun _ h9 => h9) rfl dX8_alignChildren_80 ?_
    refine V_iload X dX8_alignChildren_83 (q := 5) rfl ?_
    refine V_iconst X dX8_alignChildren_85 ?_
    refine V_isub X dX8_alignChildren_86 ?_
    obtain ⟨h11, hw⟩ := hw
    refine V_iald X (gA_5_3) h11 (by decide) dX8_alignChildren_87 ?_
    refine V_callS_i X _ (As := [.ref (a 9), iv ((M 5 3 (x7 - 1).toNat))]) (st := [iv ((M 5 2 ((x7 - 1) * 13).toNat)), iv (x7 * 13), .ref (b 5 2)]) (c_X8_subtreeAlone l (by first | exact Or.inl rfl | exact Or.inr rfl) hw) (va_cwS 2 X.2.2.2.1 gX8_alignChildren_X8_subtreeAlone rfl rfl rfl (by decide +kernel) ⟨Nat.le_of_ble_eq_true rfl, Nat.le_of_ble_eq_true rfl⟩) rfl (Nat.le_of_ble_eq_true rfl) ⟨Nat.le_of_ble_eq_true rfl, Nat.le_of_ble_eq_true rfl⟩ rfl dX8_alignChildren_88 (fun y12 M13 hw => ?_)
    refine V_iadd X dX8_alignChildren_91 ?_
    obtain ⟨h15, hw⟩ := hw
    refine V_iast X (gA_5_2) (sA_5_2) h15 (by decide) dX8_alignChildren_92 (fun M14 eM14 => ?_)
    have hw := hw M14 eM14
    refine V_iinc (lv1 := [(0, .ref (a 5)), (3, .ref (a 9)), (4, .ref (a 10)), (5, iv x5), (6, iv x6), (7, iv (x7 + 1))]) X [1, 2, 3, 4, 5, 0] dX8_alignChildren_93 (q := 5) rfl (by decide) rfl ?_
    refine V_goto (tgt := 50) X dX8_alignChildren_96 (by decide) ?_
    exact hJ50 _ _ _ _ hw
set_option maxHeartbeats 4000000 in
set_option maxRecDepth 100000 in
theorem wke_X8_alignChildren {p : Program} {l : Launch} {e : Env} {s : State} {m : MethodId} {args : Array Value} {below : List Frame} {meth : Method} {c : Code} {D : va_G} {g : GT} {A : Nat → Prop} {a : Nat → Nat} {b : Nat → Nat → Nat} (X : vC p s m args meth c D g A RX8 wsX8_alignChildren cX8_alignChildren 13) (hr : meth.sig.returnType = (some .int)) {p0 : Int} {p1 : Int} {M : Mem} {J50 : Int → Int → Int → Mem → Prop} {J102 : Int → Int → Int → Mem → Prop} {J149 : Int → Int → Int → Mem → Prop} {J159 : Int → Int → Int → Int → Mem → Prop} {Q : Int → Mem → Prop} (hJ50 : ∀ (x5 : Int) (x6 : Int) (x7 : Int) (M : Mem), J50 x5 x6 x7 M → vV p l e ({ frames := 2, cells := 0, slots := 0, locals := 43 } : Room) s m args below meth c D g A a b 13 0 0 (MQ below (cQi D g A a b Q) args s 0 0 A) M [(0, .ref (a 5)), (3, .ref (a 9)), (4, .ref (a 10)), (5, iv x5), (6, iv x6), (7, iv x7)] 50 []) (hJ102 : ∀ (x5 : Int) (x6 : Int) (x7 : Int) (M : Mem), J102 x5 x6 x7 M → vV p l e ({ frames := 2, cells := 0, slots := 0, locals := 43 } : Room) s m args below meth c D g A a b 13 0 0 (MQ below (cQi D g A a b Q) args s 0 0 A) M [(0, .ref (a 5)), (3, .ref (a 9)), (4, .ref (a 10)), (5, iv x5), (6, iv x6), (7, iv x7)] 102 []) (hJ149 : ∀ (x5 : Int) (x6 : Int) (x7 : Int) (M : Mem), J149 x5 x6 x7 M → vV p l e ({ frames := 2, cells := 0, slots := 0, locals := 43 } : Room) s m args below meth c D g A a b 13 0 0 (MQ below (cQi D g A a b Q) args s 0 0 A) M [(0, .ref (a 5)), (3, .ref (a 9)), (4, .ref (a 10)), (5, iv x5), (6, iv x6), (7, iv x7)] 149 []) (hJ159 : ∀ (x5 : Int) (x6 : Int) (x7 : Int) (x8 : Int) (M : Mem), J159 x5 x6 x7 x8 M → vV p l e ({ frames := 2, cells := 0, slots := 0, locals := 43 } : Room) s m args below meth c D g A a b 13 0 0 (MQ below (cQi D g A a b Q) args s 0 0 A) M [(0, .ref (a 5)), (3, .ref (a 9)), (4, .ref (a 10)), (5, iv x5), (6, iv x6), (7, iv x7), (8, iv x8)] 159 []) (hw : wpe_X8_alignChildren p0 p1 M J50 J102 J149 J159 Q) : vV p l e ({ frames := 2, cells := 0, slots := 0, locals := 43 } : Room) s m args below meth c D g A a b 13 0 0 (MQ below (cQi D g A a b Q) args s 0 0 A) M [(0, .ref (a 5)), (1, iv p0), (2, iv p1)] 0 [] := by
  unfold wpe_X8_alignChildren at hw
  refine V_aload_n X dX8_alignChildren_0 rfl (q := 0) rfl ?_
  refine V_get (C := RX8) (T := TX8) (N := 5) (ci := 8) X hi_X8_alignChildren_8 gO_5 rfl 0 (by decide) lk_X8_alignChildren_f24 (fun _ h9 => h9) rfl dX8_alignChildren_1 ?_
  refine V_getN (C := RX3) (T := TX3) (N := 4) (ci := 3) X hi_X8_alignChildren_3 gO_2 rfl 1 (by decide) (List.mem_of_getElem? (i := 58) rfl) (fun _ h9 => h9) rfl dX8_alignChildren_4 ?_
  refine V_astore_n (lv1 := [(0, .ref (a 5)), (1, iv p0), (2, iv p1), (3, .ref (a 9))]) X [1, 2, 3, 0] dX8_alignChildren_7 rfl (by decide) rfl ?_
  refine V_aload_n X dX8_alignChildren_8 rfl (q := 0) rfl ?_
  refine V_get (C := RX8) (T := TX8) (N := 5) (ci := 8) X hi_X8_alignChildren_8 gO_5 rfl 0 (by decide) lk_X8_alignChildren_f24 (fun _ h9 => h9) rfl dX8_alignChildren_9 ?_
  refine V_getN (C := RX3) (T := TX3) (N := 4) (ci := 3) X hi_X8_alignChildren_3 gO_2 rfl 2 (by decide) (List.mem_of_getElem? (i := 63) rfl) (fun _ h9 => h9) rfl dX8_alignChildren_12 ?_
  refine V_astore (lv1 := [(0, .ref (a 5)), (1, iv p0), (2, iv p1), (3, .ref (a 9)), (4, .ref (a 10))]) X [1, 2, 3, 4, 0] dX8_alignChildren_15 (by decide) rfl ?_
  refine V_aload_n X dX8_alignChildren_17 rfl (q := 3) rfl ?_
  refine V_iload_n X dX8_alignChildren_18 rfl (q := 1) rfl ?_
  refine V_aload_n X dX8_alignChildren_19 rfl (q := 0) rfl ?_
  refine V_get (C := RX8) (T := TX8) (N := 5) (ci := 8) X hi_X8_alignChildren_8 gO_5 rfl 3 (by decide) lk_X8_alignChildren_f18 (fun _ h9 => h9) rfl dX8_alignChildren_20 ?_
  refine V_callS_i X _ (As := [.ref (a 9), iv p0, .ref (b 5 3)]) (st := []) (c_X8_listChildren l (by first | exact Or.inl rfl | exact Or.inr rfl) arr_5_3 hw) (va_cwS 3 X.2.2.2.1 gX8_alignChildren_X8_listChildren rfl rfl rfl (by decide +kernel) ⟨Nat.le_of_ble_eq_true rfl, Nat.le_of_ble_eq_true rfl⟩) rfl (Nat.le_of_ble_eq_true rfl) ⟨Nat.le_of_ble_eq_true rfl, Nat.le_of_ble_eq_true rfl⟩ rfl dX8_alignChildren_23 (fun y1 M2 hw => ?_)
  refine V_istore (lv1 := [(0, .ref (a 5)), (1, iv p0), (2, iv p1), (3, .ref (a 9)), (4, .ref (a 10)), (5, iv y1)]) X [1, 2, 3, 4, 5, 0] dX8_alignChildren_26 (by decide) rfl ?_
  refine V_aload X dX8_alignChildren_28 (q := 4) rfl ?_
  refine V_iload_n X dX8_alignChildren_30 rfl (q := 2) rfl ?_
  refine V_aload_n X dX8_alignChildren_31 rfl (q := 0) rfl ?_
  refine V_get (C := RX8) (T := TX8) (N := 5) (ci := 8) X hi_X8_alignChildren_8 gO_5 rfl 4 (by decide) lk_X8_alignChildren_f21 (fun _ h9 => h9) rfl dX8_alignChildren_32 ?_
  refine V_callS_i X _ (As := [.ref (a 10), iv p1, .ref (b 5 4)]) (st := []) (c_X8_listChildren l (by first | exact Or.inl rfl | exact Or.inr rfl) arr_5_4 hw) (va_cwS 3 X.2.2.2.1 gX8_alignChildren_X8_listChildren rfl rfl rfl (by decide +kernel) ⟨Nat.le_of_ble_eq_true rfl, Nat.le_of_ble_eq_true rfl⟩) rfl (Nat.le_of_ble_eq_true rfl) ⟨Nat.le_of_ble_eq_true rfl, Nat.le_of_ble_eq_true rfl⟩ rfl dX8_alignChildren_35 (fun y3 M4 hw => ?_)
  refine V_istore (lv1 := [(0, .ref (a 5)), (1, iv p0), (2, iv p1), (3, .ref (a 9)), (4, .ref (a 10)), (5, iv y1), (6, iv y3)]) X [1, 2, 3, 4, 5, 6, 0] dX8_alignChildren_38 (by decide) rfl ?_
  refine V_aload_n X dX8_alignChildren_40 rfl (q := 0) rfl ?_
  refine V_get (C := RX8) (T := TX8) (N := 5) (ci := 8) X hi_X8_alignChildren_8 gO_5 rfl 2 (by decide) lk_X8_alignChildren_f15 (fun _ h9 => h9) rfl dX8_alignChildren_41 ?_
  refine V_iconst X dX8_alignChildren_44 ?_
  refine V_iconst X dX8_alignChildren_45 ?_
  refine V_iast X (gA_5_2) (sA_5_2) ⟨by decide, by decide⟩ (by decide) dX8_alignChildren_46 (fun M5 eM5 => ?_)
  have hw := hw M5 eM5
  refine V_iconst X dX8_alignChildren_47 ?_
  refine V_istore (lv1 := [(0, .ref (a 5)), (1, iv p0), (2, iv p1), (3, .ref (a 9)), (4, .ref (a 10)), (5, iv y1), (6, iv y3), (7, iv 1)]) X [1, 2, 3, 4, 5, 6, 7, 0] dX8_alignChildren_48 (by decide) rfl ?_
  refine V_sub (lv1 := [(0, .ref (a 5)), (3, .ref (a 9)), (4, .ref (a 10)), (5, iv y1), (6, iv y3), (7, iv 1)]) [0, 3, 4, 5, 6, 7] rfl ?_
  exact hJ50 _ _ _ _ hw
set_option maxHeartbeats 4000000 in
set_option maxRecDepth 100000 in
theorem c_X8_alignChildren (l : Launch) {p0 : Int} {p1 : Int} {D : va_G} {g : GT} {A : Nat → Prop} {a : Nat → Nat} {b : Nat → Nat → Nat} {M : Mem} {Q : Int → Mem → Prop} (hw : wp_X8_alignChildren M p0 p1 Q) : Met l yX8_alignChildren wsX8_alignChildren ({ frames := 2, cells := 0, slots := 0, locals := 43 } : Room) (cPc D g A a b M [.ref (a 5), iv p0, iv p1]) (cQi D g A a b Q) 0 0 A := by
  refine Met.ofW (cc := cX8_alignChildren) (maxL := 13) (ret := (some .int)) (by decide) rfl ?_
  intro p e s m args below meth c s₁ B hml hv
  obtain ⟨rfl, hP, hD, hG⟩ := hv
  have X : vC p s m _ meth c D g A RX8 wsX8_alignChildren cX8_alignChildren 13 := ⟨B.exec, B.bytes, findClass_of_methodNamed B.named, atoms_spec (ws := wsX8_alignChildren) B.pre, hG, hml, B.notSynchronized⟩
  have hr := B.returns
  have hl := lv_entry ([.ref (a 5), iv p0, iv p1]) (n := 13) (Nat.le_of_ble_eq_true rfl)
  rw [lg_entry_eq]
  generalize (lg_sl ([.ref (a 5), iv p0, iv p1]) ++ List.replicate (13 - (lg_sl ([.ref (a 5), iv p0, iv p1])).length) Slot.unset).toArray = ls at hl ⊢
  have hl : lv_has ls 13 [(0, .ref (a 5)), (1, iv p0), (2, iv p1)] := hl
  obtain ⟨I50, I102, I149, I159, hw, hI50, hI102, hI149, hI159⟩ := hw
  have K : ∀ n : Nat, (∀ (x5 : Int) (x6 : Int) (x7 : Int) (M : Mem), I50 n x5 x6 x7 M → vV p l e ({ frames := 2, cells := 0, slots := 0, locals := 43 } : Room) s m ([.ref (a 5), iv p0, iv p1] : List Value).toArray below meth c D g A a b 13 0 0 (MQ below (cQi D g A a b Q) ([.ref (a 5), iv p0, iv p1] : List Value).toArray s 0 0 A) M [(0, .ref (a 5)), (3, .ref (a 9)), (4, .ref (a 10)), (5, iv x5), (6, iv x6), (7, iv x7)] 50 []) ∧ (∀ (x5 : Int) (x6 : Int) (x7 : Int) (M : Mem), I102 n x5 x6 x7 M → vV p l e ({ frames := 2, cells := 0, slots := 0, locals := 43 } : Room) s m ([.ref (a 5), iv p0, iv p1] : List Value).toArray below meth c D g A a b 13 0 0 (MQ below (cQi D g A a b Q) ([.ref (a 5), iv p0, iv p1] : List Value).toArray s 0 0 A) M [(0, .ref (a 5)), (3, .ref (a 9)), (4, .ref (a 10)), (5, iv x5), (6, iv x6), (7, iv x7)] 102 []) ∧ (∀ (x5 : Int) (x6 : Int) (x7 : Int) (M : Mem), I149 n x5 x6 x7 M → vV p l e ({ frames := 2, cells := 0, slots := 0, locals := 43 } : Room) s m ([.ref (a 5), iv p0, iv p1] : List Value).toArray below meth c D g A a b 13 0 0 (MQ below (cQi D g A a b Q) ([.ref (a 5), iv p0, iv p1] : List Value).toArray s 0 0 A) M [(0, .ref (a 5)), (3, .ref (a 9)), (4, .ref (a 10)), (5, iv x5), (6, iv x6), (7, iv x7)] 149 []) ∧ (∀ (x5 : Int) (x6 : Int) (x7 : Int) (x8 : Int) (M : Mem), I159 n x5 x6 x7 x8 M → vV p l e ({ frames := 2, cells := 0, slots := 0, locals := 43 } : Room) s m ([.ref (a 5), iv p0, iv p1] : List Value).toArray below meth c D g A a b 13 0 0 (MQ below (cQi D g A a b Q) ([.ref (a 5), iv p0, iv p1] : List Value).toArray s 0 0 A) M [(0, .ref (a 5)), (3, .ref (a 9)), (4, .ref (a 10)), (5, iv x5), (6, iv x6), (7, iv x7), (8, iv x8)] 159 []) := by
    intro n
    induction n using Nat.strongRecOn with
    | ind n ih =>
      exact ⟨fun x5 x6 x7 M hh => wkh_X8_alignChildren_50 X hr (fun _ _ _ _ ⟨n1, hn, hh⟩ => (ih n1 hn).1 _ _ _ _ hh) (fun _ _ _ _ ⟨n1, hn, hh⟩ => (ih n1 hn).2.1 _ _ _ _ hh) (fun _ _ _ _ ⟨n1, hn, hh⟩ => (ih n1 hn).2.2.1 _ _ _ _ hh) (fun _ _ _ _ _ ⟨n1, hn, hh⟩ => (ih n1 hn).2.2.2 _ _ _ _ _ hh) (hI50 n x5 x6 x7 M hh), fun x5 x6 x7 M hh => wkh_X8_alignChildren_102 X hr (fun _ _ _ _ ⟨n1, hn, hh⟩ => (ih n1 hn).1 _ _ _ _ hh) (fun _ _ _ _ ⟨n1, hn, hh⟩ => (ih n1 hn).2.1 _ _ _ _ hh) (fun _ _ _ _ ⟨n1, hn, hh⟩ => (ih n1 hn).2.2.1 _ _ _ _ hh) (fun _ _ _ _ _ ⟨n1, hn, hh⟩ => (ih n1 hn).2.2.2 _ _ _ _ _ hh) (hI102 n x5 x6 x7 M hh), fun x5 x6 x7 M hh => wkh_X8_alignChildren_149 X hr (fun _ _ _ _ ⟨n1, hn, hh⟩ => (ih n1 hn).1 _ _ _ _ hh) (fun _ _ _ _ ⟨n1, hn, hh⟩ => (ih n1 hn).2.1 _ _ _ _ hh) (fun _ _ _ _ ⟨n1, hn, hh⟩ => (ih n1 hn).2.2.1 _ _ _ _ hh) (fun _ _ _ _ _ ⟨n1, hn, hh⟩ => (ih n1 hn).2.2.2 _ _ _ _ _ hh) (hI149 n x5 x6 x7 M hh), fun x5 x6 x7 x8 M hh => wkh_X8_alignChildren_159 X hr (fun _ _ _ _ ⟨n1, hn, hh⟩ => (ih n1 hn).1 _ _ _ _ hh) (fun _ _ _ _ ⟨n1, hn, hh⟩ => (ih n1 hn).2.1 _ _ _ _ hh) (fun _ _ _ _ ⟨n1, hn, hh⟩ => (ih n1 hn).2.2.1 _ _ _ _ hh) (fun _ _ _ _ _ ⟨n1, hn, hh⟩ => (ih n1 hn).2.2.2 _ _ _ _ _ hh) (hI159 n x5 x6 x7 x8 M hh)⟩
  exact wke_X8_alignChildren X hr  (fun _ _ _ _ ⟨n1, hh⟩ => (K n1).1 _ _ _ _ hh) (fun _ _ _ _ ⟨n1, hh⟩ => (K n1).2.1 _ _ _ _ hh) (fun _ _ _ _ ⟨n1, hh⟩ => (K n1).2.2.1 _ _ _ _ hh) (fun _ _ _ _ _ ⟨n1, hh⟩ => (K n1).2.2.2 _ _ _ _ _ hh) hw s.heap [] ls hP hD va_S.rf hl

set_option maxRecDepth 20000 in
theorem ggX8_solve_X8_alignChildren : GoodIn wsX8_solve wsX8_alignChildren := goodIn_r _ [12, 1, 13, 14, 15, 4, 5, 6, 7, 2, 16, 17, 11, 18, 19, 20, 21, 22, 23, 24, 25, 26, 33, 34, 35, 36, 37, 38, 39, 40, 41, 42, 43, 44, 45, 46, 47] (by decide +kernel) (by decide +kernel)
set_option maxRecDepth 20000 in
theorem gX8_solve_X8_alignChildren : GoodIn wsX8_solve (wsV RX8 47 RX8 yX8_alignChildren wsX8_alignChildren) := goodIn_app (goodIn_of _ (by decide +kernel)) ggX8_solve_X8_alignChildren
set_option maxRecDepth 20000 in
theorem ggX8_solve_X3_withoutPairs : GoodIn wsX8_solve wsX3_withoutPairs := goodIn_r _ [30, 31, 32, 22, 23, 24, 25, 26, 38, 39, 40, 41, 42, 43, 44, 45, 46, 47] (by decide +kernel) (by decide +kernel)
set_option maxRecDepth 20000 in
theorem gX8_solve_X3_withoutPairs_n51 : GoodIn wsX8_solve (wsX3_withoutPairs) := ggX8_solve_X3_withoutPairs
theorem dX8_solve_0 : decode cX8_solve 0 = .ok (.aload_n 0, 1) := by decide +kernel
theorem dX8_solve_1 : decode cX8_solve 1 = .ok (.getfield 24, 3) := by decide +kernel
theorem dX8_solve_4 : decode cX8_solve 4 = .ok (.getfield 28, 3) := by decide +kernel
theorem dX8_solve_7 : decode cX8_solve 7 = .ok (.getfield 34, 3) := by decide +kernel
theorem dX8_solve_10 : decode cX8_solve 10 = .ok (.istore_n 1, 1) := by decide +kernel
theorem dX8_solve_11 : decode cX8_solve 11 = .ok (.aload_n 0, 1) := by decide +kernel
theorem dX8_solve_12 : decode cX8_solve 12 = .ok (.getfield 24, 3) := by decide +kernel
theorem dX8_solve_15 : decode cX8_solve 15 = .ok (.getfield 40, 3) := by decide +kernel
theorem dX8_solve_18 : decode cX8_solve 18 = .ok (.getfield 34, 3) := by decide +kernel
theorem dX8_solve_21 : decode cX8_solve 21 = .ok (.istore_n 2, 1) := by decide +kernel
theorem dX8_solve_22 : decode cX8_solve 22 = .ok (.iconst 0, 1) := by decide +kernel
theorem dX8_solve_23 : decode cX8_solve 23 = .ok (.istore_n 3, 1) := by decide +kernel
theorem dX8_solve_24 : decode cX8_solve 24 = .ok (.iload_n 3, 1) := by decide +kernel
theorem dX8_solve_25 : decode cX8_solve 25 = .ok (.iload_n 1, 1) := by decide +kernel
theorem dX8_solve_26 : decode cX8_solve 26 = .ok (.if_icmp .ge 74, 3) := by decide +kernel
theorem dX8_solve_29 : decode cX8_solve 29 = .ok (.iconst 0, 1) := by decide +kernel
theorem dX8_solve_30 : decode cX8_solve 30 = .ok (.istore 4, 2) := by decide +kernel
theorem dX8_solve_32 : decode cX8_solve 32 = .ok (.iload 4, 2) := by decide +kernel
theorem dX8_solve_34 : decode cX8_solve 34 = .ok (.iload_n 2, 1) := by decide +kernel
theorem dX8_solve_35 : decode cX8_solve 35 = .ok (.if_icmp .ge 59, 3) := by decide +kernel
theorem dX8_solve_38 : decode cX8_solve 38 = .ok (.iload_n 3, 1) := by decide +kernel
theorem dX8_solve_39 : decode cX8_solve 39 = .ok (.bipush 12, 2) := by decide +kernel
theorem dX8_solve_41 : decode cX8_solve 41 = .ok (.imul, 1) := by decide +kernel
theorem dX8_solve_42 : decode cX8_solve 42 = .ok (.iload 4, 2) := by decide +kernel
theorem dX8_solve_44 : decode cX8_solve 44 = .ok (.iadd, 1) := by decide +kernel
theorem dX8_solve_45 : decode cX8_solve 45 = .ok (.istore 5, 2) := by decide +kernel
theorem dX8_solve_47 : decode cX8_solve 47 = .ok (.aload_n 0, 1) := by decide +kernel
theorem dX8_solve_48 : decode cX8_solve 48 = .ok (.getfield 24, 3) := by decide +kernel
theorem dX8_solve_51 : decode cX8_solve 51 = .ok (.getfield 43, 3) := by decide +kernel
theorem dX8_solve_54 : decode cX8_solve 54 = .ok (.iload 5, 2) := by decide +kernel
theorem dX8_solve_56 : decode cX8_solve 56 = .ok (.iaload, 1) := by decide +kernel
theorem dX8_solve_57 : decode cX8_solve 57 = .ok (.istore 6, 2) := by decide +kernel
theorem dX8_solve_59 : decode cX8_solve 59 = .ok (.aload_n 0, 1) := by decide +kernel
theorem dX8_solve_60 : decode cX8_solve 60 = .ok (.getfield 9, 3) := by decide +kernel
theorem dX8_solve_63 : decode cX8_solve 63 = .ok (.iload 5, 2) := by decide +kernel
theorem dX8_solve_65 : decode cX8_solve 65 = .ok (.iload 6, 2) := by decide +kernel
theorem dX8_solve_67 : decode cX8_solve 67 = .ok (.ldc 46, 2) := by decide +kernel
theorem dX8_solve_69 : decode cX8_solve 69 = .ok (.if_icmp .ge 16, 3) := by decide +kernel
theorem dX8_solve_72 : decode cX8_solve 72 = .ok (.iload 6, 2) := by decide +kernel
theorem dX8_solve_74 : decode cX8_solve 74 = .ok (.aload_n 0, 1) := by decide +kernel
theorem dX8_solve_75 : decode cX8_solve 75 = .ok (.iload_n 3, 1) := by decide +kernel
theorem dX8_solve_76 : decode cX8_solve 76 = .ok (.iload 4, 2) := by decide +kernel
theorem dX8_solve_78 : decode cX8_solve 78 = .ok (.invokevirtual 47, 3) := by decide +kernel
theorem dX8_solve_81 : decode cX8_solve 81 = .ok (.iadd, 1) := by decide +kernel
theorem dX8_solve_82 : decode cX8_solve 82 = .ok (.goto 5, 3) := by decide +kernel
theorem dX8_solve_85 : decode cX8_solve 85 = .ok (.ldc 46, 2) := by decide +kernel
theorem dX8_solve_87 : decode cX8_solve 87 = .ok (.iastore, 1) := by decide +kernel
theorem dX8_solve_88 : decode cX8_solve 88 = .ok (.iinc 4 1, 3) := by decide +kernel
theorem dX8_solve_91 : decode cX8_solve 91 = .ok (.goto (-59), 3) := by decide +kernel
theorem dX8_solve_94 : decode cX8_solve 94 = .ok (.iinc 3 1, 3) := by decide +kernel
theorem dX8_solve_97 : decode cX8_solve 97 = .ok (.goto (-73), 3) := by decide +kernel
theorem dX8_solve_100 : decode cX8_solve 100 = .ok (.aload_n 0, 1) := by decide +kernel
theorem dX8_solve_101 : decode cX8_solve 101 = .ok (.getfield 24, 3) := by decide +kernel
theorem dX8_solve_104 : decode cX8_solve 104 = .ok (.invokevirtual 51, 3) := by decide +kernel
theorem dX8_solve_107 : decode cX8_solve 107 = .ok (.istore_n 3, 1) := by decide +kernel
theorem dX8_solve_108 : decode cX8_solve 108 = .ok (.iload_n 1, 1) := by decide +kernel
theorem dX8_solve_109 : decode cX8_solve 109 = .ok (.ifCond .eq 7, 3) := by decide +kernel
theorem dX8_solve_112 : decode cX8_solve 112 = .ok (.iload_n 2, 1) := by decide +kernel
theorem dX8_solve_113 : decode cX8_solve 113 = .ok (.ifCond .ne 5, 3) := by decide +kernel
theorem dX8_solve_116 : decode cX8_solve 116 = .ok (.iload_n 3, 1) := by decide +kernel
theorem dX8_solve_117 : decode cX8_solve 117 = .ok (.ireturn, 1) := by decide +kernel
theorem dX8_solve_118 : decode cX8_solve 118 = .ok (.iload_n 3, 1) := by decide +kernel
theorem dX8_solve_119 : decode cX8_solve 119 = .ok (.aload_n 0, 1) := by decide +kernel
theorem dX8_solve_120 : decode cX8_solve 120 = .ok (.getfield 9, 3) := by decide +kernel
theorem dX8_solve_123 : decode cX8_solve 123 = .ok (.iload_n 1, 1) := by decide +kernel
theorem dX8_solve_124 : decode cX8_solve 124 = .ok (.iconst 1, 1) := by decide +kernel
theorem dX8_solve_125 : decode cX8_solve 125 = .ok (.isub, 1) := by decide +kernel
theorem dX8_solve_126 : decode cX8_solve 126 = .ok (.bipush 12, 2) := by decide +kernel
theorem dX8_solve_128 : decode cX8_solve 128 = .ok (.imul, 1) := by decide +kernel
theorem dX8_solve_129 : decode cX8_solve 129 = .ok (.iload_n 2, 1) := by decide +kernel
theorem dX8_solve_130 : decode cX8_solve 130 = .ok (.iadd, 1) := by decide +kernel
theorem dX8_solve_131 : decode cX8_solve 131 = .ok (.iconst 1, 1) := by decide +kernel
theorem dX8_solve_132 : decode cX8_solve 132 = .ok (.isub, 1) := by decide +kernel
theorem dX8_solve_133 : decode cX8_solve 133 = .ok (.iaload, 1) := by decide +kernel
theorem dX8_solve_134 : decode cX8_solve 134 = .ok (.invokestatic 55, 3) := by decide +kernel
theorem dX8_solve_137 : decode cX8_solve 137 = .ok (.ireturn, 1) := by decide +kernel
theorem lk_X8_solve_f24 : Cond.fieldLink RX8 24 "TreeComparer$TopDownTable" "layout" "LTreeComparer$Layout;" ∈ wsX8_solve := by decide +kernel
theorem hi_X8_solve_8 : ∀ w ∈ u_ws RX8 TX8 5, w ∈ wsX8_solve := by decide +kernel
theorem hi_X8_solve_3 : ∀ w ∈ u_ws RX3 TX3 4, w ∈ wsX8_solve := by decide +kernel
theorem hi_X8_solve_6 : ∀ w ∈ u_ws RX6 TX6 6, w ∈ wsX8_solve := by decide +kernel
theorem lk_X8_solve_i3 : Cond.initialized RX3 ∈ wsX8_solve := by decide +kernel
theorem lk_X8_solve_im51 : Cond.instanceMethod yX3_withoutPairs ∈ wsX8_solve := by decide +kernel
theorem lk_X8_solve_se51 : Cond.selects RX3 yX3_withoutPairs yX3_withoutPairs ∈ wsX8_solve := by decide +kernel
theorem lk_X8_solve_f9 : Cond.fieldLink RX8 9 "TreeComparer$TopDownTable" "ofPaired" "[I" ∈ wsX8_solve := by decide +kernel
theorem lk_X8_solve_m55 : Cond.methodLink RX8 55 Lib.Math.min.name ∈ wsX8_solve := by decide +kernel
theorem lk_X8_solve_mins : Cond.static Lib.Math.min.name ∈ wsX8_solve := by decide +kernel
theorem lk_X8_solve_mini : Cond.initialized "java/lang/Math" ∈ wsX8_solve := by decide +kernel
theorem lk_X8_solve_minc : Cond.code Lib.Math.min.name Lib.Math.min.code 2 (some .int) ∈ wsX8_solve := by decide +kernel
theorem lk_X8_solve_c46 : Cond.constant RX8 46 (1000000) ∈ wsX8_solve := by decide +kernel
def wpj_X8_solve_87 (x1 : Int) (x2 : Int) (x3 : Int) (x4 : Int) (s0 : Int) (s1 : Int) (M : Mem) (J24 : Int → Int → Int → Mem → Prop) (J32 : Int → Int → Int → Int → Mem → Prop) (Q : Int → Mem → Prop) : Prop := ((0 : Int) ≤ s1 ∧ s1 < 144) ∧ (∀ M26 : Mem, M26 = mset M 5 1 s1.toNat s0 → J32 x1 x2 x3 (x4 + 1) M26)
def wph_X8_solve_32 (x1 : Int) (x2 : Int) (x3 : Int) (x4 : Int) (M : Mem) (J24 : Int → Int → Int → Mem → Prop) (J32 : Int → Int → Int → Int → Mem → Prop) (Q : Int → Mem → Prop) : Prop := inR x4 ∧ inR x2 ∧ ((x2 ≤ x4 → J24 x1 x2 (x3 + 1) M) ∧ (¬ (x2 ≤ x4) → (∀ y19 : Int, y19 = (x3 * 12) + x4 → ((0 : Int) ≤ y19 ∧ y19 < 144) ∧ (∀ y21 : Int, y21 = (M 2 3 y19.toNat) → inR y21 ∧ ((1000000 ≤ y21 → wpj_X8_solve_87 x1 x2 x3 x4 1000000 y19 M J24 J32 Q) ∧ (¬ (1000000 ≤ y21) → wp_X8_alignChildren M x3 x4 (fun y24 M25 => wpj_X8_solve_87 x1 x2 x3 x4 (y21 + y24) y19 M25 J24 J32 Q)))))))
def wph_X8_solve_24 (x1 : Int) (x2 : Int) (x3 : Int) (M : Mem) (J24 : Int → Int → Int → Mem → Prop) (J32 : Int → Int → Int → Int → Mem → Prop) (Q : Int → Mem → Prop) : Prop := inR x3 ∧ inR x1 ∧ ((x1 ≤ x3 → wp_X3_withoutPairs M (fun y6 M7 => inR x1 ∧ ((x1 = 0 → Q y6 M7) ∧ (¬ (x1 = 0) → inR x2 ∧ ((x2 ≠ 0 → ((0 : Int) ≤ (((x1 - 1) * 12) + x2) - 1 ∧ (((x1 - 1) * 12) + x2) - 1 < 144) ∧ inR (y6) ∧ inR ((M7 5 1 ((((x1 - 1) * 12) + x2) - 1).toNat)) ∧ (∀ y15 : Int, y15 = min (y6) ((M7 5 1 ((((x1 - 1) * 12) + x2) - 1).toNat)) → Q y15 M7)) ∧ (¬ (x2 ≠ 0) → Q y6 M7)))))) ∧ (¬ (x1 ≤ x3) → J32 x1 x2 x3 0 M))
def wpe_X8_solve (M : Mem) (J24 : Int → Int → Int → Mem → Prop) (J32 : Int → Int → Int → Int → Mem → Prop) (Q : Int → Mem → Prop) : Prop := (∀ y1 : Int, y1 = (M 9 5 0) → (∀ y2 : Int, y2 = (M 10 5 0) → J24 y1 y2 0 M))
def wp_X8_solve (M : Mem) (Q : Int → Mem → Prop) : Prop := ∃ (I24 : Nat → Int → Int → Int → Mem → Prop) (I32 : Nat → Int → Int → Int → Int → Mem → Prop), wpe_X8_solve M (fun (x1 : Int) (x2 : Int) (x3 : Int) (M1 : Mem) => ∃ n1 : Nat, I24 n1 x1 x2 x3 M1) (fun (x1 : Int) (x2 : Int) (x3 : Int) (x4 : Int) (M1 : Mem) => ∃ n1 : Nat, I32 n1 x1 x2 x3 x4 M1) Q ∧ (∀ (n : Nat) (x1 : Int) (x2 : Int) (x3 : Int) (M : Mem), I24 n x1 x2 x3 M → wph_X8_solve_24 x1 x2 x3 M (fun (x1 : Int) (x2 : Int) (x3 : Int) (M1 : Mem) => ∃ n1 : Nat, n1 < n ∧ I24 n1 x1 x2 x3 M1) (fun (x1 : Int) (x2 : Int) (x3 : Int) (x4 : Int) (M1 : Mem) => ∃ n1 : Nat, n1 < n ∧ I32 n1 x1 x2 x3 x4 M1) Q) ∧ (∀ (n : Nat) (x1 : Int) (x2 : Int) (x3 : Int) (x4 : Int) (M : Mem), I32 n x1 x2 x3 x4 M → wph_X8_solve_32 x1 x2 x3 x4 M (fun (x1 : Int) (x2 : Int) (x3 : Int) (M1 : Mem) => ∃ n1 : Nat, n1 < n ∧ I24 n1 x1 x2 x3 M1) (fun (x1 : Int) (x2 : Int) (x3 : Int) (x4 : Int) (M1 : Mem) => ∃ n1 : Nat, n1 < n ∧ I32 n1 x1 x2 x3 x4 M1) Q)
set_option maxHeartbeats 4000000 in
set_option maxRecDepth 100000 in
theorem wkj_X8_solve_87 {p : Program} {l : Launch} {e : Env} {s : State} {m : MethodId} {args : Array Value} {below : List Frame} {meth : Method} {c : Code} {D : va_G} {g : GT} {A : Nat → Prop} {a : Nat → Nat} {b : Nat → Nat → Nat} (X : vC p s m args meth c D g A RX8 wsX8_solve cX8_solve 7) (hr : meth.sig.returnType = (some .int)) {x1 : Int} {x2 : Int} {x3 : Int} {x4 : Int} {s0 : Int} {s1 : Int} {M : Mem} {J24 : Int → Int → Int → Mem → Prop} {J32 : Int → Int → Int → Int → Mem → Prop} {Q : Int → Mem → Prop} (hJ24 : ∀ (x1 : Int) (x2 : Int) (x3 : Int) (M : Mem), J24 x1 x2 x3 M → vV p l e ({ frames := 3, cells := 0, slots := 0, locals := 75 } : Room) s m args below meth c D g A a b 7 0 0 (MQ below (cQi D g A a b Q) args s 0 0 A) M [(0, .ref (a 5)), (1, iv x1), (2, iv x2), (3, iv x3)] 24 []) (hJ32 : ∀ (x1 : Int) (x2 : Int) (x3 : Int) (x4 : Int) (M : Mem), J32 x1 x2 x3 x4 M → vV p l e ({ frames := 3, cells := 0, slots := 0, locals := 75 } : Room) s m args below meth c D g A a b 7 0 0 (MQ below (cQi D g A a b Q) args s 0 0 A) M [(0, .ref (a 5)), (1, iv x1), (2, iv x2), (3, iv x3), (4, iv x4)] 32 []) (hw : wpj_X8_solve_87 x1 x2 x3 x4 s0 s1 M J24 J32 Q) : vV p l e ({ frames := 3, cells := 0, slots := 0, locals := 75 } : Room) s m args below meth c D g A a b 7 0 0 (MQ below (cQi D g A a b Q) args s 0 0 A) M [(0, .ref (a 5)), (1, iv x1), (2, iv x2), (3, iv x3), (4, iv x4)] 87 [iv s0, iv s1, .ref (b 5 1)] := by
  unfold wpj_X8_solve_87 at hw
  obtain ⟨h27, hw⟩ := hw
  refine V_iast X (gA_5_1) (sA_5_1) h27 (by decide) dX8_solve_87 (fun M26 eM26 => ?_)
  have hw := hw M26 eM26
  refine V_iinc (lv1 := [(0, .ref (a 5)), (1, iv x1), (2, iv x2), (3, iv x3), (4, iv (x4 + 1))]) X [1, 2, 3, 4, 0] dX8_solve_88 (q := 4) rfl (by decide) rfl ?_
  refine V_goto (tgt := 32) X dX8_solve_91 (by decide) ?_
  exact hJ32 _ _ _ _ _ hw
set_option maxHeartbeats 4000000 in
set_option maxRecDepth 100000 in
theorem wkh_X8_solve_32 {p : Program} {l : Launch} {e : Env} {s : State} {m : MethodId} {args : Array Value} {below : List Frame} {meth : Method} {c : Code} {D : va_G} {g : GT} {A : Nat → Prop} {a : Nat → Nat} {b : Nat → Nat → Nat} (X : vC p s m args meth c D g A RX8 wsX8_solve cX8_solve 7) (hr : meth.sig.returnType = (some .int)) {x1 : Int} {x2 : Int} {x3 : Int} {x4 : Int} {M : Mem} {J24 : Int → Int → Int → Mem → Prop} {J32 : Int → Int → Int → Int → Mem → Prop} {Q : Int → Mem → Prop} (hJ24 : ∀ (x1 : Int) (x2 : Int) (x3 : Int) (M : Mem), J24 x1 x2 x3 M → vV p l e ({ frames := 3, cells := 0, slots := 0, locals := 75 } : Room) s m args below meth c D g A a b 7 0 0 (MQ below (cQi D g A a b Q) args s 0 0 A) M [(0, .ref (a 5)), (1, iv x1), (2, iv x2), (3, iv x3)] 24 []) (hJ32 : ∀ (x1 : Int) (x2 : Int) (x3 : Int) (x4 : Int) (M : Mem), J32 x1 x2 x3 x4 M → vV p l e ({ frames := 3, cells := 0, slots := 0, locals := 75 } : Room) s m args below meth c D g A a b 7 0 0 (MQ below (cQi D g A a b Q) args s 0 0 A) M [(0, .ref (a 5)), (1, iv x1), (2, iv x2), (3, iv x3), (4, iv x4)] 32 []) (hw : wph_X8_solve_32 x1 x2 x3 x4 M J24 J32 Q) : vV p l e ({ frames := 3, cells := 0, slots := 0, locals := 75 } : Room) s m args below meth c D g A a b 7 0 0 (MQ below (cQi D g A a b Q) args s 0 0 A) M [(0, .ref (a 5)), (1, iv x1), (2, iv x2), (3, iv x3), (4, iv x4)] 32 [] := by
  unfold wph_X8_solve_32 at hw
  refine V_iload X dX8_solve_32 (q := 4) rfl ?_
  refine V_iload_n X dX8_solve_34 rfl (q := 2) rfl ?_
  obtain ⟨h16, h17, hw⟩ := hw
  refine V_icmp_ge (tgt := 94) X h16 h17 dX8_solve_35 (by decide) (fun q18 => ?_) (fun q18 => ?_)
  · have hw := hw.1 q18
    refine V_iinc (lv1 := [(0, .ref (a 5)), (1, iv x1), (2, iv x2), (3, iv (x3 + 1)), (4, iv x4)]) X [1, 2, 3, 0, 4] dX8_solve_94 (q := 3) rfl (by decide) rfl ?_
    refine V_goto (tgt := 24) X dX8_solve_97 (by decide) ?_
    refine V_sub (lv1 := [(0, .ref (a 5)), (1, iv x1), (2, iv x2), (3, iv (x3 + 1))]) [0, 1, 2, 3] rfl ?_
    exact hJ24 _ _ _ _ hw
  · have hw := hw.2 q18
    refine V_iload_n X dX8_solve_38 rfl (q := 3) rfl ?_
    refine V_bipush X dX8_solve_39 rfl ?_
    refine V_imul X dX8_solve_41 ?_
    refine V_iload X dX8_solve_42 (q := 4) rfl ?_
    refine V_iadd X dX8_solve_44 ?_
    refine V_top (fun y19 ey19 => ?_)
    have hw := hw y19 ey19
    refine V_istore (lv1 := [(0, .ref (a 5)), (1, iv x1), (2, iv x2), (3, iv x3), (4, iv x4), (5, iv y19)]) X [1, 2, 3, 4, 5, 0] dX8_solve_45 (by decide) rfl ?_
    refine V_aload_n X dX8_solve_47 rfl (q := 0) rfl ?_
    refine V_get (C := RX8) (T := TX8) (N := 5) (ci := 8) X hi_X8_solve_8 gO_5 rfl 0 (by decide) lk_X8_solve_f24 (fun _ h9 => h9) rfl dX8_solve_48 ?_
    refine V_getN (C := RX3) (T := TX3) (N := 4) (ci := 3) X hi_X8_solve_3 gO_2 rfl 3 (by decide) (List.mem_of_getElem? (i := 67) rfl) (fun _ h9 => h9) rfl dX8_solve_51 ?_
    refine V_iload X dX8_solve_54 (q := 5) rfl ?_
    obtain ⟨h20, hw⟩ := hw
    refine V_iald X (gA_2_3) h20 (by decide) dX8_solve_56 ?_
    refine V_top (fun y21 ey21 => ?_)
    have hw := hw y21 ey21
    refine V_istore (lv1 := [(0, .ref (a 5)), (1, iv x1), (2, iv x2), (3, iv x3), (4, iv x4), (5, iv y19), (6, iv y21)]) X [1, 2, 3, 4, 5, 6, 0] dX8_solve_57 (by decide) rfl ?_
    refine V_aload_n X dX8_solve_59 rfl (q := 0) rfl ?_
    refine V_get (C := RX8) (T := TX8) (N := 5) (ci := 8) X hi_X8_solve_8 gO_5 rfl 1 (by decide) lk_X8_solve_f9 (fun _ h9 => h9) rfl dX8_solve_60 ?_
    refine V_iload X dX8_solve_63 (q := 5) rfl ?_
    refine V_iload X dX8_solve_65 (q := 6) rfl ?_
    refine V_ldc (x := 1000000) X lk_X8_solve_c46 (by decide) dX8_solve_67 ?_
    obtain ⟨h22, hw⟩ := hw
    refine V_icmp_ge (tgt := 85) X h22 ⟨by decide, by decide⟩ dX8_solve_69 (by decide) (fun q23 => ?_) (fun q23 => ?_)
    · have hw := hw.1 q23
      refine V_ldc (x := 1000000) X lk_X8_solve_c46 (by decide) dX8_solve_85 ?_
      refine V_sub (lv1 := [(0, .ref (a 5)), (1, iv x1), (2, iv x2), (3, iv x3), (4, iv x4)]) [0, 1, 2, 3, 4] rfl ?_
      exact wkj_X8_solve_87 X hr hJ24 hJ32 hw
    · have hw := hw.2 q23
      refine V_iload X dX8_solve_72 (q := 6) rfl ?_
      refine V_aload_n X dX8_solve_74 rfl (q := 0) rfl ?_
      refine V_iload_n X dX8_solve_75 rfl (q := 3) rfl ?_
      refine V_iload X dX8_solve_76 (q := 4) rfl ?_
      refine V_callV_i X _ gO_5 rfl (As := [iv x3, iv x4]) (st := [iv y21, iv y19, .ref (b 5 1)]) (c_X8_alignChildren l hw) (cwV 2 X.2.2.2.1 gX8_solve_X8_alignChildren rfl rfl rfl (by decide +kernel) ⟨Nat.le_of_ble_eq_true rfl, Nat.le_of_ble_eq_true rfl⟩) rfl (Nat.le_of_ble_eq_true rfl) ⟨Nat.le_of_ble_eq_true rfl, Nat.le_of_ble_eq_true rfl⟩ rfl dX8_solve_78 (fun y24 M25 hw => ?_)
      refine V_iadd X dX8_solve_81 ?_
      refine V_goto (tgt := 87) X dX8_solve_82 (by decide) ?_
      refine V_sub (lv1 := [(0, .ref (a 5)), (1, iv x1), (2, iv x2), (3, iv x3), (4, iv x4)]) [0, 1, 2, 3, 4] rfl ?_
      exact wkj_X8_solve_87 X hr hJ24 hJ32 hw
set_option maxHeartbeats 4000000 in
set_option maxRecDepth 100000 in
theorem wkh_X8_solve_24 {p : Program} {l : Launch} {e : Env} {s : State} {m : MethodId} {args : Array Value} {below : List Frame} {meth : Method} {c : Code} {D : va_G} {g : GT} {A : Nat → Prop} {a : Nat → Nat} {b : Nat → Nat → Nat} (X : vC p s m args meth c D g A RX8 wsX8_solve cX8_solve 7) (hr : meth.sig.returnType = (some .int)) {x1 : Int} {x2 : Int} {x3 : Int} {M : Mem} {J24 : Int → Int → Int → Mem → Prop} {J32 : Int → Int → Int → Int → Mem → Prop} {Q : Int → Mem → Prop} (hJ24 : ∀ (x1 : Int) (x2 : Int) (x3 : Int) (M : Mem), J24 x1 x2 x3 M → vV p l e ({ frames := 3, cells := 0, slots := 0, locals := 75 } : Room) s m args below meth c D g A a b 7 0 0 (MQ below (cQi D g A a b Q) args s 0 0 A) M [(0, .ref (a 5)), (1, iv x1), (2, iv x2), (3, iv x3)] 24 []) (hJ32 : ∀ (x1 : Int) (x2 : Int) (x3 : Int) (x4 : Int) (M : Mem), J32 x1 x2 x3 x4 M → vV p l e ({ frames := 3, cells := 0, slots := 0, locals := 75 } : Room) s m args below meth c D g A a b 7 0 0 (MQ below (cQi D g A a b Q) args s 0 0 A) M [(0, .ref (a 5)), (1, iv x1), (2, iv x2), (3, iv x3), (4, iv x4)] 32 []) (hw : wph_X8_solve_24 x1 x2 x3 M J24 J32 Q) : vV p l e ({ frames := 3, cells := 0, slots := 0, locals := 75 } : Room) s m args below meth c D g A a b 7 0 0 (MQ below (cQi D g A a b Q) args s 0 0 A) M [(0, .ref (a 5)), (1, iv x1), (2, iv x2), (3, iv x3)] 24 [] := by
  unfold wph_X8_solve_24 at hw
  refine V_iload_n X dX8_solve_24 rfl (q := 3) rfl ?_
  refine V_iload_n X dX8_solve_25 rfl (q := 1) rfl ?_
  obtain ⟨h3, h4, hw⟩ := hw
  refine V_icmp_ge (tgt := 100) X h3 h4 dX8_solve_26 (by decide) (fun q5 => ?_) (fun q5 => ?_)
  · have hw := hw.1 q5
    refine V_aload_n X dX8_solve_100 rfl (q := 0) rfl ?_
    refine V_get (C := RX8) (T := TX8) (N := 5) (ci := 8) X hi_X8_solve_8 gO_5 rfl 0 (by decide) lk_X8_solve_f24 (fun _ h9 => h9) rfl dX8_solve_101 ?_
    refine V_callVN_i X _ gO_2 rfl (As := []) (st := []) (c_X3_withoutPairs l hw) ⟨va_cnB 0 X.2.2.2.1 gX8_solve_X3_withoutPairs_n51 rfl rfl rfl (X.2.2.2.2.1.2.1 _ (List.mem_of_getElem? (i := 108) rfl)) (X.2.2.2.1 _ lk_X8_solve_i3) (by decide +kernel) ⟨Nat.le_of_ble_eq_true rfl, Nat.le_of_ble_eq_true rfl⟩, X.2.2.2.1 _ lk_X8_solve_im51, X.2.2.2.1 _ lk_X8_solve_se51⟩ rfl (Nat.le_of_ble_eq_true rfl) ⟨Nat.le_of_ble_eq_true rfl, Nat.le_of_ble_eq_true rfl⟩ rfl dX8_solve_104 (fun y6 M7 hw => ?_)
    refine V_istore_n (lv1 := [(0, .ref (a 5)), (1, iv x1), (2, iv x2), (3, iv y6)]) X [1, 2, 3, 0] dX8_solve_107 rfl (by decide) rfl ?_
    refine V_iload_n X dX8_solve_108 rfl (q := 1) rfl ?_
    obtain ⟨h8, hw⟩ := hw
    refine V_if_eq (tgt := 116) X h8 dX8_solve_109 (by decide) (fun q9 => ?_) (fun q9 => ?_)
    · have hw := hw.1 q9
      refine V_iload_n X dX8_solve_116 rfl (q := 3) rfl ?_
      exact V_iret X hr hw dX8_solve_117
    · have hw := hw.2 q9
      refine V_iload_n X dX8_solve_112 rfl (q := 2) rfl ?_
      obtain ⟨h10, hw⟩ := hw
      refine V_if_ne (tgt := 118) X h10 dX8_solve_113 (by decide) (fun q11 => ?_) (fun q11 => ?_)
      · have hw := hw.1 q11
        refine V_iload_n X dX8_solve_118 rfl (q := 3) rfl ?_
        refine V_aload_n X dX8_solve_119 rfl (q := 0) rfl ?_
        refine V_get (C := RX8) (T := TX8) (N := 5) (ci := 8) X hi_X8_solve_8 gO_5 rfl 1 (by decide) lk_X8_solve_f9 (fun _ h9 => h9) rfl dX8_solve_120 ?_
        refine V_iload_n X dX8_solve_123 rfl (q := 1) rfl ?_
        refine V_iconst X dX8_solve_124 ?_
        refine V_isub X dX8_solve_125 ?_
        refine V_bipush X dX8_solve_126 rfl ?_
        refine V_imul X dX8_solve_128 ?_
        refine V_iload_n X dX8_solve_129 rfl (q := 2) rfl ?_
        refine V_iadd X dX8_solve_130 ?_
        refine V_iconst X dX8_solve_131 ?_
        refine V_isub X dX8_solve_132 ?_
        obtain ⟨h12, hw⟩ := hw
        refine V_iald X (gA_5_1) h12 (by decide) dX8_solve_133 ?_
        obtain ⟨h13, h14, hw⟩ := hw
        refine V_min X h13 h14 lk_X8_solve_m55 lk_X8_solve_mins lk_X8_solve_mini lk_X8_solve_minc (Nat.le_of_ble_eq_true rfl) (Nat.le_of_ble_eq_true rfl) (Nat.zero_le _) (Nat.zero_le _) dX8_solve_134 ?_
        refine V_top (fun y15 ey15 => ?_)
        have hw := hw y15 ey15
        exact V_iret X hr hw dX8_solve_137
      · have hw := hw.2 q11
        refine V_iload_n X dX8_solve_116 rfl (q := 3) rfl ?_
        exact V_iret X hr hw dX8_solve_117
  · have hw := hw.2 q5
    refine V_iconst X dX8_solve_29 ?_
    refine V_istore (lv1 := [(0, .ref (a 5)), (1, iv x1), (2, iv x2), (3, iv x3), (4, iv 0)]) X [1, 2, 3, 4, 0] dX8_solve_30 (by decide) rfl ?_
    exact hJ32 _ _ _ _ _ hw
set_option maxHeartbeats 4000000 in
set_option maxRecDepth 100000 in
theorem wke_X8_solve {p : Program} {l : Launch} {e : Env} {s : State} {m : MethodId} {args : Array Value} {below : List Frame} {meth : Method} {c : Code} {D : va_G} {g : GT} {A : Nat → Prop} {a : Nat → Nat} {b : Nat → Nat → Nat} (X : vC p s m args meth c D g A RX8 wsX8_solve cX8_solve 7) (hr : meth.sig.returnType = (some .int)) {M : Mem} {J24 : Int → Int → Int → Mem → Prop} {J32 : Int → Int → Int → Int → Mem → Prop} {Q : Int → Mem → Prop} (hJ24 : ∀ (x1 : Int) (x2 : Int) (x3 : Int) (M : Mem), J24 x1 x2 x3 M → vV p l e ({ frames := 3, cells := 0, slots := 0, locals := 75 } : Room) s m args below meth c D g A a b 7 0 0 (MQ below (cQi D g A a b Q) args s 0 0 A) M [(0, .ref (a 5)), (1, iv x1), (2, iv x2), (3, iv x3)] 24 []) (hJ32 : ∀ (x1 : Int) (x2 : Int) (x3 : Int) (x4 : Int) (M : Mem), J32 x1 x2 x3 x4 M → vV p l e ({ frames := 3, cells := 0, slots := 0, locals := 75 } : Room) s m args below meth c D g A a b 7 0 0 (MQ below (cQi D g A a b Q) args s 0 0 A) M [(0, .ref (a 5)), (1, iv x1), (2, iv x2), (3, iv x3), (4, iv x4)] 32 []) (hw : wpe_X8_solve M J24 J32 Q) : vV p l e ({ frames := 3, cells := 0, slots := 0, locals := 75 } : Room) s m args below meth c D g A a b 7 0 0 (MQ below (cQi D g A a b Q) args s 0 0 A) M [(0, .ref (a 5))] 0 [] := by
  unfold wpe_X8_solve at hw
  refine V_aload_n X dX8_solve_0 rfl (q := 0) rfl ?_
  refine V_get (C := RX8) (T := TX8) (N := 5) (ci := 8) X hi_X8_solve_8 gO_5 rfl 0 (by decide) lk_X8_solve_f24 (fun _ h9 => h9) rfl dX8_solve_1 ?_
  refine V_getN (C := RX3) (T := TX3) (N := 4) (ci := 3) X hi_X8_solve_3 gO_2 rfl 1 (by decide) (List.mem_of_getElem? (i := 58) rfl) (fun _ h9 => h9) rfl dX8_solve_4 ?_
  refine V_getN (C := RX6) (T := TX6) (N := 6) (ci := 6) X hi_X8_solve_6 gO_9 rfl 5 (by decide) (List.mem_of_getElem? (i := 52) rfl) (fun _ h9 => h9) rfl dX8_solve_7 ?_
  refine V_top (fun y1 ey1 => ?_)
  have hw := hw y1 ey1
  refine V_istore_n (lv1 := [(0, .ref (a 5)), (1, iv y1)]) X [1, 0] dX8_solve_10 rfl (by decide) rfl ?_
  refine V_aload_n X dX8_solve_11 rfl (q := 0) rfl ?_
  refine V_get (C := RX8) (T := TX8) (N := 5) (ci := 8) X hi_X8_solve_8 gO_5 rfl 0 (by decide) lk_X8_solve_f24 (fun _ h9 => h9) rfl dX8_solve_12 ?_
  refine V_getN (C := RX3) (T := TX3) (N := 4) (ci := 3) X hi_X8_solve_3 gO_2 rfl 2 (by decide) (List.mem_of_getElem? (i := 63) rfl) (fun _ h9 => h9) rfl dX8_solve_15 ?_
  refine V_getN (C := RX6) (T := TX6) (N := 6) (ci := 6) X hi_X8_solve_6 gO_10 rfl 5 (by decide) (List.mem_of_getElem? (i := 52) rfl) (fun _ h9 => h9) rfl dX8_solve_18 ?_
  refine V_top (fun y2 ey2 => ?_)
  have hw := hw y2 ey2
  refine V_istore_n (lv1 := [(0, .ref (a 5)), (1, iv y1), (2, iv y2)]) X [1, 2, 0] dX8_solve_21 rfl (by decide) rfl ?_
  refine V_iconst X dX8_solve_22 ?_
  refine V_istore_n (lv1 := [(0, .ref (a 5)), (1, iv y1), (2, iv y2), (3, iv 0)]) X [1, 2, 3, 0] dX8_solve_23 rfl (by decide) rfl ?_
  exact hJ24 _ _ _ _ hw
set_option maxHeartbeats 4000000 in
set_option maxRecDepth 100000 in
theorem c_X8_solve (l : Launch) {D : va_G} {g : GT} {A : Nat → Prop} {a : Nat → Nat} {b : Nat → Nat → Nat} {M : Mem} {Q : Int → Mem → Prop} (hw : wp_X8_solve M Q) : Met l yX8_solve wsX8_solve ({ frames := 3, cells := 0, slots := 0, locals := 75 } : Room) (cPc D g A a b M [.ref (a 5)]) (cQi D g A a b Q) 0 0 A := by
  refine Met.ofW (cc := cX8_solve) (maxL := 7) (ret := (some .int)) (by decide) rfl ?_
  intro p e s m args below meth c s₁ B hml hv
  obtain ⟨rfl, hP, hD, hG⟩ := hv
  have X : vC p s m _ meth c D g A RX8 wsX8_solve cX8_solve 7 := ⟨B.exec, B.bytes, findClass_of_methodNamed B.named, atoms_spec (ws := wsX8_solve) B.pre, hG, hml, B.notSynchronized⟩
  have hr := B.returns
  have hl := lv_entry ([.ref (a 5)]) (n := 7) (Nat.le_of_ble_eq_true rfl)
  rw [lg_entry_eq]
  generalize (lg_sl ([.ref (a 5)]) ++ List.replicate (7 - (lg_sl ([.ref (a 5)])).length) Slot.unset).toArray = ls at hl ⊢
  have hl : lv_has ls 7 [(0, .ref (a 5))] := hl
  obtain ⟨I24, I32, hw, hI24, hI32⟩ := hw
  have K : ∀ n : Nat, (∀ (x1 : Int) (x2 : Int) (x3 : Int) (M : Mem), I24 n x1 x2 x3 M → vV p l e ({ frames := 3, cells := 0, slots := 0, locals := 75 } : Room) s m ([.ref (a 5)] : List Value).toArray below meth c D g A a b 7 0 0 (MQ below (cQi D g A a b Q) ([.ref (a 5)] : List Value).toArray s 0 0 A) M [(0, .ref (a 5)), (1, iv x1), (2, iv x2), (3, iv x3)] 24 []) ∧ (∀ (x1 : Int) (x2 : Int) (x3 : Int) (x4 : Int) (M : Mem), I32 n x1 x2 x3 x4 M → vV p l e ({ frames := 3, cells := 0, slots := 0, locals := 75 } : Room) s m ([.ref (a 5)] : List Value).toArray below meth c D g A a b 7 0 0 (MQ below (cQi D g A a b Q) ([.ref (a 5)] : List Value).toArray s 0 0 A) M [(0, .ref (a 5)), (1, iv x1), (2, iv x2), (3, iv x3), (4, iv x4)] 32 []) := by
    intro n
    induction n using Nat.strongRecOn with
    | ind n ih =>
      exact ⟨fun x1 x2 x3 M hh => wkh_X8_solve_24 X hr (fun _ _ _ _ ⟨n1, hn, hh⟩ => (ih n1 hn).1 _ _ _ _ hh) (fun _ _ _ _ _ ⟨n1, hn, hh⟩ => (ih n1 hn).2 _ _ _ _ _ hh) (hI24 n x1 x2 x3 M hh), fun x1 x2 x3 x4 M hh => wkh_X8_solve_32 X hr (fun _ _ _ _ ⟨n1, hn, hh⟩ => (ih n1 hn).1 _ _ _ _ hh) (fun _ _ _ _ _ ⟨n1, hn, hh⟩ => (ih n1 hn).2 _ _ _ _ _ hh) (hI32 n x1 x2 x3 x4 M hh)⟩
  exact wke_X8_solve X hr  (fun _ _ _ _ ⟨n1, hh⟩ => (K n1).1 _ _ _ _ hh) (fun _ _ _ _ _ ⟨n1, hh⟩ => (K n1).2 _ _ _ _ _ hh) hw s.heap [] ls hP hD va_S.rf hl
