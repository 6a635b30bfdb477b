set_option maxRecDepth 20000 in
theorem ggX11_topOf_X11_inserting : GoodIn wsX11_topOf wsX11_inserting := goodIn_r _ [8, 9, 10, 11, 7, 12, 13, 14, 31, 32, 33, 34, 35, 36, 37, 38, 39, 40, 41, 42, 43, 44, 45, 46, 47, 48, 49, 50, 51, 52, 53, 54] (by decide +kernel) (by decide +kernel)
set_option maxRecDepth 20000 in
theorem gX11_topOf_X11_inserting : GoodIn wsX11_topOf (wsV RX11 147 RX11 yX11_inserting wsX11_inserting) := goodIn_app (goodIn_of _ (by decide +kernel)) ggX11_topOf_X11_inserting
set_option maxRecDepth 20000 in
theorem ggX11_topOf_X11_deletingAll : GoodIn wsX11_topOf wsX11_deletingAll := goodIn_r _ [18, 9, 10, 11, 7, 12, 13, 14, 31, 32, 33, 34, 35, 36, 37, 38, 39, 40, 41, 42, 43, 44, 45, 46, 47, 48, 49, 50, 51, 52, 53, 54] (by decide +kernel) (by decide +kernel)
set_option maxRecDepth 20000 in
theorem gX11_topOf_X11_deletingAll : GoodIn wsX11_topOf (wsV RX11 150 RX11 yX11_deletingAll wsX11_deletingAll) := goodIn_app (goodIn_of _ (by decide +kernel)) ggX11_topOf_X11_deletingAll
set_option maxRecDepth 20000 in
theorem ggX11_topOf_X11_lesser : GoodIn wsX11_topOf wsX11_lesser := goodIn_r _ [21] (by decide +kernel) (by decide +kernel)
set_option maxRecDepth 20000 in
theorem gX11_topOf_X11_lesser : GoodIn wsX11_topOf (va_wsS RX11 127 yX11_lesser wsX11_lesser) := goodIn_app (goodIn_of _ (by decide +kernel)) ggX11_topOf_X11_lesser
set_option maxRecDepth 20000 in
theorem ggX11_topOf_X11_alike : GoodIn wsX11_topOf wsX11_alike := goodIn_r _ [25, 14, 31, 32, 33, 34, 35, 36, 37, 38, 39, 40, 41, 42, 43, 44, 45, 46, 47, 48, 49, 50, 51, 52, 53, 54] (by decide +kernel) (by decide +kernel)
set_option maxRecDepth 20000 in
theorem gX11_topOf_X11_alike : GoodIn wsX11_topOf (wsV RX11 130 RX11 yX11_alike wsX11_alike) := goodIn_app (goodIn_of _ (by decide +kernel)) ggX11_topOf_X11_alike
set_option maxRecDepth 20000 in
theorem ggX11_topOf_X11_pairing : GoodIn wsX11_topOf wsX11_pairing := goodIn_r _ [29, 30, 9, 10, 11, 7, 12, 13, 14, 31, 32, 33, 34, 35, 36, 37, 38, 39, 40, 41, 42, 43, 44, 45, 46, 47, 48, 49, 50, 51, 52, 53, 54] (by decide +kernel) (by decide +kernel)
set_option maxRecDepth 20000 in
theorem gX11_topOf_X11_pairing : GoodIn wsX11_topOf (wsV RX11 133 RX11 yX11_pairing wsX11_pairing) := goodIn_app (goodIn_of _ (by decide +kernel)) ggX11_topOf_X11_pairing
theorem dX11_topOf_0 : decode cX11_topOf 0 = .ok (.iload_n 1, 1) := by decide +kernel
theorem dX11_topOf_1 : decode cX11_topOf 1 = .ok (.aload_n 0, 1) := by decide +kernel
theorem dX11_topOf_2 : decode cX11_topOf 2 = .ok (.getfield 22, 3) := by decide +kernel
theorem dX11_topOf_5 : decode cX11_topOf 5 = .ok (.iload_n 1, 1) := by decide +kernel
theorem dX11_topOf_6 : decode cX11_topOf 6 = .ok (.iaload, 1) := by decide +kernel
theorem dX11_topOf_7 : decode cX11_topOf 7 = .ok (.iadd, 1) := by decide +kernel
theorem dX11_topOf_8 : decode cX11_topOf 8 = .ok (.istore_n 3, 1) := by decide +kernel
theorem dX11_topOf_9 : decode cX11_topOf 9 = .ok (.iload_n 2, 1) := by decide +kernel
theorem dX11_topOf_10 : decode cX11_topOf 10 = .ok (.aload_n 0, 1) := by decide +kernel
theorem dX11_topOf_11 : decode cX11_topOf 11 = .ok (.getfield 22, 3) := by decide +kernel
theorem dX11_topOf_14 : decode cX11_topOf 14 = .ok (.bipush 12, 2) := by decide +kernel
theorem dX11_topOf_16 : decode cX11_topOf 16 = .ok (.iload_n 2, 1) := by decide +kernel
theorem dX11_topOf_17 : decode cX11_topOf 17 = .ok (.iadd, 1) := by decide +kernel
theorem dX11_topOf_18 : decode cX11_topOf 18 = .ok (.iaload, 1) := by decide +kernel
theorem dX11_topOf_19 : decode cX11_topOf 19 = .ok (.iadd, 1) := by decide +kernel
theorem dX11_topOf_20 : decode cX11_topOf 20 = .ok (.istore 4, 2) := by decide +kernel
theorem dX11_topOf_22 : decode cX11_topOf 22 = .ok (.aload_n 0, 1) := by decide +kernel
theorem dX11_topOf_23 : decode cX11_topOf 23 = .ok (.getfield 69, 3) := by decide +kernel
theorem dX11_topOf_26 : decode cX11_topOf 26 = .ok (.iconst 0, 1) := by decide +kernel
theorem dX11_topOf_27 : decode cX11_topOf 27 = .ok (.iconst 0, 1) := by decide +kernel
theorem dX11_topOf_28 : decode cX11_topOf 28 = .ok (.iastore, 1) := by decide +kernel
theorem dX11_topOf_29 : decode cX11_topOf 29 = .ok (.iconst 0, 1) := by decide +kernel
theorem dX11_topOf_30 : decode cX11_topOf 30 = .ok (.istore 5, 2) := by decide +kernel
theorem dX11_topOf_32 : decode cX11_topOf 32 = .ok (.iload_n 2, 1) := by decide +kernel
theorem dX11_topOf_33 : decode cX11_topOf 33 = .ok (.iconst 1, 1) := by decide +kernel
theorem dX11_topOf_34 : decode cX11_topOf 34 = .ok (.iadd, 1) := by decide +kernel
theorem dX11_topOf_35 : decode cX11_topOf 35 = .ok (.istore 6, 2) := by decide +kernel
theorem dX11_topOf_37 : decode cX11_topOf 37 = .ok (.iload 6, 2) := by decide +kernel
theorem dX11_topOf_39 : decode cX11_topOf 39 = .ok (.iload 4, 2) := by decide +kernel
theorem dX11_topOf_41 : decode cX11_topOf 41 = .ok (.if_icmp .ge 60, 3) := by decide +kernel
theorem dX11_topOf_44 : decode cX11_topOf 44 = .ok (.iinc 5 1, 3) := by decide +kernel
theorem dX11_topOf_47 : decode cX11_topOf 47 = .ok (.aload_n 0, 1) := by decide +kernel
theorem dX11_topOf_48 : decode cX11_topOf 48 = .ok (.getfield 69, 3) := by decide +kernel
theorem dX11_topOf_51 : decode cX11_topOf 51 = .ok (.iload 5, 2) := by decide +kernel
theorem dX11_topOf_53 : decode cX11_topOf 53 = .ok (.aload_n 0, 1) := by decide +kernel
theorem dX11_topOf_54 : decode cX11_topOf 54 = .ok (.getfield 69, 3) := by decide +kernel
theorem dX11_topOf_57 : decode cX11_topOf 57 = .ok (.iload 5, 2) := by decide +kernel
theorem dX11_topOf_59 : decode cX11_topOf 59 = .ok (.iconst 1, 1) := by decide +kernel
theorem dX11_topOf_60 : decode cX11_topOf 60 = .ok (.isub, 1) := by decide +kernel
theorem dX11_topOf_61 : decode cX11_topOf 61 = .ok (.iaload, 1) := by decide +kernel
theorem dX11_topOf_62 : decode cX11_topOf 62 = .ok (.aload_n 0, 1) := by decide +kernel
theorem dX11_topOf_63 : decode cX11_topOf 63 = .ok (.iload 6, 2) := by decide +kernel
theorem dX11_topOf_65 : decode cX11_topOf 65 = .ok (.iload 6, 2) := by decide +kernel
theorem dX11_topOf_67 : decode cX11_topOf 67 = .ok (.aload_n 0, 1) := by decide +kernel
theorem dX11_topOf_68 : decode cX11_topOf 68 = .ok (.getfield 22, 3) := by decide +kernel
theorem dX11_topOf_71 : decode cX11_topOf 71 = .ok (.bipush 12, 2) := by decide +kernel
theorem dX11_topOf_73 : decode cX11_topOf 73 = .ok (.iload 6, 2) := by decide +kernel
theorem dX11_topOf_75 : decode cX11_topOf 75 = .ok (.iadd, 1) := by decide +kernel
theorem dX11_topOf_76 : decode cX11_topOf 76 = .ok (.iaload, 1) := by decide +kernel
theorem dX11_topOf_77 : decode cX11_topOf 77 = .ok (.iadd, 1) := by decide +kernel
theorem dX11_topOf_78 : decode cX11_topOf 78 = .ok (.invokevirtual 147, 3) := by decide +kernel
theorem dX11_topOf_81 : decode cX11_topOf 81 = .ok (.iadd, 1) := by decide +kernel
theorem dX11_topOf_82 : decode cX11_topOf 82 = .ok (.iastore, 1) := by decide +kernel
theorem dX11_topOf_83 : decode cX11_topOf 83 = .ok (.iload 6, 2) := by decide +kernel
theorem dX11_topOf_85 : decode cX11_topOf 85 = .ok (.aload_n 0, 1) := by decide +kernel
theorem dX11_topOf_86 : decode cX11_topOf 86 = .ok (.getfield 22, 3) := by decide +kernel
theorem dX11_topOf_89 : decode cX11_topOf 89 = .ok (.bipush 12, 2) := by decide +kernel
theorem dX11_topOf_91 : decode cX11_topOf 91 = .ok (.iload 6, 2) := by decide +kernel
theorem dX11_topOf_93 : decode cX11_topOf 93 = .ok (.iadd, 1) := by decide +kernel
theorem dX11_topOf_94 : decode cX11_topOf 94 = .ok (.iaload, 1) := by decide +kernel
theorem dX11_topOf_95 : decode cX11_topOf 95 = .ok (.iadd, 1) := by decide +kernel
theorem dX11_topOf_96 : decode cX11_topOf 96 = .ok (.istore 6, 2) := by decide +kernel
theorem dX11_topOf_98 : decode cX11_topOf 98 = .ok (.goto (-61), 3) := by decide +kernel
theorem dX11_topOf_101 : decode cX11_topOf 101 = .ok (.iload_n 1, 1) := by decide +kernel
theorem dX11_topOf_102 : decode cX11_topOf 102 = .ok (.iconst 1, 1) := by decide +kernel
theorem dX11_topOf_103 : decode cX11_topOf 103 = .ok (.iadd, 1) := by decide +kernel
theorem dX11_topOf_104 : decode cX11_topOf 104 = .ok (.istore 6, 2) := by decide +kernel
theorem dX11_topOf_106 : decode cX11_topOf 106 = .ok (.iload 6, 2) := by decide +kernel
theorem dX11_topOf_108 : decode cX11_topOf 108 = .ok (.iload_n 3, 1) := by decide +kernel
theorem dX11_topOf_109 : decode cX11_topOf 109 = .ok (.if_icmp .ge 192, 3) := by decide +kernel
theorem dX11_topOf_112 : decode cX11_topOf 112 = .ok (.aload_n 0, 1) := by decide +kernel
theorem dX11_topOf_113 : decode cX11_topOf 113 = .ok (.iload 6, 2) := by decide +kernel
theorem dX11_topOf_115 : decode cX11_topOf 115 = .ok (.iload 6, 2) := by decide +kernel
theorem dX11_topOf_117 : decode cX11_topOf 117 = .ok (.aload_n 0, 1) := by decide +kernel
theorem dX11_topOf_118 : decode cX11_topOf 118 = .ok (.getfield 22, 3) := by decide +kernel
theorem dX11_topOf_121 : decode cX11_topOf 121 = .ok (.iload 6, 2) := by decide +kernel
theorem dX11_topOf_123 : decode cX11_topOf 123 = .ok (.iaload, 1) := by decide +kernel
theorem dX11_topOf_124 : decode cX11_topOf 124 = .ok (.iadd, 1) := by decide +kernel
theorem dX11_topOf_125 : decode cX11_topOf 125 = .ok (.invokevirtual 150, 3) := by decide +kernel
theorem dX11_topOf_128 : decode cX11_topOf 128 = .ok (.istore 7, 2) := by decide +kernel
theorem dX11_topOf_130 : decode cX11_topOf 130 = .ok (.aload_n 0, 1) := by decide +kernel
theorem dX11_topOf_131 : decode cX11_topOf 131 = .ok (.getfield 69, 3) := by decide +kernel
theorem dX11_topOf_134 : decode cX11_topOf 134 = .ok (.iconst 0, 1) := by decide +kernel
theorem dX11_topOf_135 : decode cX11_topOf 135 = .ok (.iaload, 1) := by decide +kernel
theorem dX11_topOf_136 : decode cX11_topOf 136 = .ok (.istore 8, 2) := by decide +kernel
theorem dX11_topOf_138 : decode cX11_topOf 138 = .ok (.aload_n 0, 1) := by decide +kernel
theorem dX11_topOf_139 : decode cX11_topOf 139 = .ok (.getfield 69, 3) := by decide +kernel
theorem dX11_topOf_142 : decode cX11_topOf 142 = .ok (.iconst 0, 1) := by decide +kernel
theorem dX11_topOf_143 : decode cX11_topOf 143 = .ok (.dup2, 1) := by decide +kernel
theorem dX11_topOf_144 : decode cX11_topOf 144 = .ok (.iaload, 1) := by decide +kernel
theorem dX11_topOf_145 : decode cX11_topOf 145 = .ok (.iload 7, 2) := by decide +kernel
theorem dX11_topOf_147 : decode cX11_topOf 147 = .ok (.iadd, 1) := by decide +kernel
theorem dX11_topOf_148 : decode cX11_topOf 148 = .ok (.iastore, 1) := by decide +kernel
theorem dX11_topOf_149 : decode cX11_topOf 149 = .ok (.iconst 1, 1) := by decide +kernel
theorem dX11_topOf_150 : decode cX11_topOf 150 = .ok (.istore 9, 2) := by decide +kernel
theorem dX11_topOf_152 : decode cX11_topOf 152 = .ok (.iload_n 2, 1) := by decide +kernel
theorem dX11_topOf_153 : decode cX11_topOf 153 = .ok (.iconst 1, 1) := by decide +kernel
theorem dX11_topOf_154 : decode cX11_topOf 154 = .ok (.iadd, 1) := by decide +kernel
theorem dX11_topOf_155 : decode cX11_topOf 155 = .ok (.istore 10, 2) := by decide +kernel
theorem dX11_topOf_157 : decode cX11_topOf 157 = .ok (.iload 10, 2) := by decide +kernel
theorem dX11_topOf_159 : decode cX11_topOf 159 = .ok (.iload 4, 2) := by decide +kernel
theorem dX11_topOf_161 : decode cX11_topOf 161 = .ok (.if_icmp .ge 125, 3) := by decide +kernel
theorem dX11_topOf_164 : decode cX11_topOf 164 = .ok (.aload_n 0, 1) := by decide +kernel
theorem dX11_topOf_165 : decode cX11_topOf 165 = .ok (.getfield 69, 3) := by decide +kernel
theorem dX11_topOf_168 : decode cX11_topOf 168 = .ok (.iload 9, 2) := by decide +kernel
theorem dX11_topOf_170 : decode cX11_topOf 170 = .ok (.iaload, 1) := by decide +kernel
theorem dX11_topOf_171 : decode cX11_topOf 171 = .ok (.iload 7, 2) := by decide +kernel
theorem dX11_topOf_173 : decode cX11_topOf 173 = .ok (.iadd, 1) := by decide +kernel
theorem dX11_topOf_174 : decode cX11_topOf 174 = .ok (.aload_n 0, 1) := by decide +kernel
theorem dX11_topOf_175 : decode cX11_topOf 175 = .ok (.getfield 69, 3) := by decide +kernel
theorem dX11_topOf_178 : decode cX11_topOf 178 = .ok (.iload 9, 2) := by decide +kernel
theorem dX11_topOf_180 : decode cX11_topOf 180 = .ok (.iconst 1, 1) := by decide +kernel
theorem dX11_topOf_181 : decode cX11_topOf 181 = .ok (.isub, 1) := by decide +kernel
theorem dX11_topOf_182 : decode cX11_topOf 182 = .ok (.iaload, 1) := by decide +kernel
theorem dX11_topOf_183 : decode cX11_topOf 183 = .ok (.aload_n 0, 1) := by decide +kernel
theorem dX11_topOf_184 : decode cX11_topOf 184 = .ok (.iload 10, 2) := by decide +kernel
theorem dX11_topOf_186 : decode cX11_topOf 186 = .ok (.iload 10, 2) := by decide +kernel
theorem dX11_topOf_188 : decode cX11_topOf 188 = .ok (.aload_n 0, 1) := by decide +kernel
theorem dX11_topOf_189 : decode cX11_topOf 189 = .ok (.getfield 22, 3) := by decide +kernel
theorem dX11_topOf_192 : decode cX11_topOf 192 = .ok (.bipush 12, 2) := by decide +kernel
theorem dX11_topOf_194 : decode cX11_topOf 194 = .ok (.iload 10, 2) := by decide +kernel
theorem dX11_topOf_196 : decode cX11_topOf 196 = .ok (.iadd, 1) := by decide +kernel
theorem dX11_topOf_197 : decode cX11_topOf 197 = .ok (.iaload, 1) := by decide +kernel
theorem dX11_topOf_198 : decode cX11_topOf 198 = .ok (.iadd, 1) := by decide +kernel
theorem dX11_topOf_199 : decode cX11_topOf 199 = .ok (.invokevirtual 147, 3) := by decide +kernel
theorem dX11_topOf_202 : decode cX11_topOf 202 = .ok (.iadd, 1) := by decide +kernel
theorem dX11_topOf_203 : decode cX11_topOf 203 = .ok (.invokestatic 127, 3) := by decide +kernel
theorem dX11_topOf_206 : decode cX11_topOf 206 = .ok (.istore 11, 2) := by decide +kernel
theorem dX11_topOf_208 : decode cX11_topOf 208 = .ok (.aload_n 0, 1) := by decide +kernel
theorem dX11_topOf_209 : decode cX11_topOf 209 = .ok (.iload 6, 2) := by decide +kernel
theorem dX11_topOf_211 : decode cX11_topOf 211 = .ok (.iload 10, 2) := by decide +kernel
theorem dX11_topOf_213 : decode cX11_topOf 213 = .ok (.invokevirtual 130, 3) := by decide +kernel
theorem dX11_topOf_216 : decode cX11_topOf 216 = .ok (.ifCond .eq 27, 3) := by decide +kernel
theorem dX11_topOf_219 : decode cX11_topOf 219 = .ok (.iload 11, 2) := by decide +kernel
theorem dX11_topOf_221 : decode cX11_topOf 221 = .ok (.iload 8, 2) := by decide +kernel
theorem dX11_topOf_223 : decode cX11_topOf 223 = .ok (.aload_n 0, 1) := by decide +kernel
theorem dX11_topOf_224 : decode cX11_topOf 224 = .ok (.getfield 66, 3) := by decide +kernel
theorem dX11_topOf_227 : decode cX11_topOf 227 = .ok (.bipush 12, 2) := by decide +kernel
theorem dX11_topOf_229 : decode cX11_topOf 229 = .ok (.iload 6, 2) := by decide +kernel
theorem dX11_topOf_231 : decode cX11_topOf 231 = .ok (.imul, 1) := by decide +kernel
theorem dX11_topOf_232 : decode cX11_topOf 232 = .ok (.iload 10, 2) := by decide +kernel
theorem dX11_topOf_234 : decode cX11_topOf 234 = .ok (.iadd, 1) := by decide +kernel
theorem dX11_topOf_235 : decode cX11_topOf 235 = .ok (.iaload, 1) := by decide +kernel
theorem dX11_topOf_236 : decode cX11_topOf 236 = .ok (.iadd, 1) := by decide +kernel
theorem dX11_topOf_237 : decode cX11_topOf 237 = .ok (.invokestatic 127, 3) := by decide +kernel
theorem dX11_topOf_240 : decode cX11_topOf 240 = .ok (.goto 5, 3) := by decide +kernel
theorem dX11_topOf_243 : decode cX11_topOf 243 = .ok (.iload 11, 2) := by decide +kernel
theorem dX11_topOf_245 : decode cX11_topOf 245 = .ok (.istore 11, 2) := by decide +kernel
theorem dX11_topOf_247 : decode cX11_topOf 247 = .ok (.aload_n 0, 1) := by decide +kernel
theorem dX11_topOf_248 : decode cX11_topOf 248 = .ok (.getfield 69, 3) := by decide +kernel
theorem dX11_topOf_251 : decode cX11_topOf 251 = .ok (.iload 9, 2) := by decide +kernel
theorem dX11_topOf_253 : decode cX11_topOf 253 = .ok (.iaload, 1) := by decide +kernel
theorem dX11_topOf_254 : decode cX11_topOf 254 = .ok (.istore 8, 2) := by decide +kernel
theorem dX11_topOf_256 : decode cX11_topOf 256 = .ok (.aload_n 0, 1) := by decide +kernel
theorem dX11_topOf_257 : decode cX11_topOf 257 = .ok (.getfield 69, 3) := by decide +kernel
theorem dX11_topOf_260 : decode cX11_topOf 260 = .ok (.iload 9, 2) := by decide +kernel
theorem dX11_topOf_262 : decode cX11_topOf 262 = .ok (.iload 11, 2) := by decide +kernel
theorem dX11_topOf_264 : decode cX11_topOf 264 = .ok (.iastore, 1) := by decide +kernel
theorem dX11_topOf_265 : decode cX11_topOf 265 = .ok (.iinc 9 1, 3) := by decide +kernel
theorem dX11_topOf_268 : decode cX11_topOf 268 = .ok (.iload 10, 2) := by decide +kernel
theorem dX11_topOf_270 : decode cX11_topOf 270 = .ok (.aload_n 0, 1) := by decide +kernel
theorem dX11_topOf_271 : decode cX11_topOf 271 = .ok (.getfield 22, 3) := by decide +kernel
theorem dX11_topOf_274 : decode cX11_topOf 274 = .ok (.bipush 12, 2) := by decide +kernel
theorem dX11_topOf_276 : decode cX11_topOf 276 = .ok (.iload 10, 2) := by decide +kernel
theorem dX11_topOf_278 : decode cX11_topOf 278 = .ok (.iadd, 1) := by decide +kernel
theorem dX11_topOf_279 : decode cX11_topOf 279 = .ok (.iaload, 1) := by decide +kernel
theorem dX11_topOf_280 : decode cX11_topOf 280 = .ok (.iadd, 1) := by decide +kernel
theorem dX11_topOf_281 : decode cX11_topOf 281 = .ok (.istore 10, 2) := by decide +kernel
theorem dX11_topOf_283 : decode cX11_topOf 283 = .ok (.goto (-126), 3) := by decide +kernel
theorem dX11_topOf_286 : decode cX11_topOf 286 = .ok (.iload 6, 2) := by decide +kernel
theorem dX11_topOf_288 : decode cX11_topOf 288 = .ok (.aload_n 0, 1) := by decide +kernel
theorem dX11_topOf_289 : decode cX11_topOf 289 = .ok (.getfield 22, 3) := by decide +kernel
theorem dX11_topOf_292 : decode cX11_topOf 292 = .ok (.iload 6, 2) := by decide +kernel
theorem dX11_topOf_294 : decode cX11_topOf 294 = .ok (.iaload, 1) := by decide +kernel
theorem dX11_topOf_295 : decode cX11_topOf 295 = .ok (.iadd, 1) := by decide +kernel
theorem dX11_topOf_296 : decode cX11_topOf 296 = .ok (.istore 6, 2) := by decide +kernel
theorem dX11_topOf_298 : decode cX11_topOf 298 = .ok (.goto (-192), 3) := by decide +kernel
theorem dX11_topOf_301 : decode cX11_topOf 301 = .ok (.aload_n 0, 1) := by decide +kernel
theorem dX11_topOf_302 : decode cX11_topOf 302 = .ok (.iload_n 1, 1) := by decide +kernel
theorem dX11_topOf_303 : decode cX11_topOf 303 = .ok (.iload_n 2, 1) := by decide +kernel
theorem dX11_topOf_304 : decode cX11_topOf 304 = .ok (.invokevirtual 133, 3) := by decide +kernel
theorem dX11_topOf_307 : decode cX11_topOf 307 = .ok (.aload_n 0, 1) := by decide +kernel
theorem dX11_topOf_308 : decode cX11_topOf 308 = .ok (.getfield 69, 3) := by decide +kernel
theorem dX11_topOf_311 : decode cX11_topOf 311 = .ok (.iload 5, 2) := by decide +kernel
theorem dX11_topOf_313 : decode cX11_topOf 313 = .ok (.iaload, 1) := by decide +kernel
theorem dX11_topOf_314 : decode cX11_topOf 314 = .ok (.iadd, 1) := by decide +kernel
theorem dX11_topOf_315 : decode cX11_topOf 315 = .ok (.ireturn, 1) := by decide +kernel
theorem lk_X11_topOf_f22 : Cond.fieldLink RX11 22 "TreeComparerModel" "size" "[I" ∈ wsX11_topOf := by decide +kernel
theorem hi_X11_topOf_11 : ∀ w ∈ u_ws RX11 TX11 24, w ∈ wsX11_topOf := by decide +kernel
theorem lk_X11_topOf_f69 : Cond.fieldLink RX11 69 "TreeComparerModel" "row" "[I" ∈ wsX11_topOf := by decide +kernel
theorem lk_X11_topOf_f66 : Cond.fieldLink RX11 66 "TreeComparerModel" "top" "[I" ∈ wsX11_topOf := by decide +kernel
def wpj_X11_topOf_245 (p0 : Int) (p1 : Int) (x3 : Int) (x4 : Int) (x5 : Int) (x6 : Int) (x7 : Int) (x9 : Int) (x10 : Int) (s0 : Int) (M : Mem) (J37 : Int → Int → Int → Int → Mem → Prop) (J106 : Int → Int → Int → Int → Mem → Prop) (J157 : Int → Int → Int → Int → Int → Int → Int → Int → Mem → Prop) (Q : Int → Mem → Prop) : Prop := ((0 : Int) ≤ x9 ∧ x9 < 13) ∧ (∀ y53 : Int, y53 = (M 13 22 x9.toNat) → ((0 : Int) ≤ x9 ∧ x9 < 13) ∧ (∀ M54 : Mem, M54 = mset M 13 22 x9.toNat s0 → ((0 : Int) ≤ 12 + x10 ∧ 12 + x10 < 24) ∧ (∀ y57 : Int, y57 = x10 + (M54 13 4 (12 + x10).toNat) → J157 x3 x4 x5 x6 x7 y53 (x9 + 1) y57 M54)))
def wph_X11_topOf_157 (p0 : Int) (p1 : Int) (x3 : Int) (x4 : Int) (x5 : Int) (x6 : Int) (x7 : Int) (x8 : Int) (x9 : Int) (x10 : Int) (M : Mem) (J37 : Int → Int → Int → Int → Mem → Prop) (J106 : Int → Int → Int → Int → Mem → Prop) (J157 : Int → Int → Int → Int → Int → Int → Int → Int → Mem → Prop) (Q : Int → Mem → Prop) : Prop := inR x10 ∧ inR x4 ∧ ((x4 ≤ x10 → ((0 : Int) ≤ x6 ∧ x6 < 24) ∧ (∀ y37 : Int, y37 = x6 + (M 13 4 x6.toNat) → J106 x3 x4 x5 y37 M)) ∧ (¬ (x4 ≤ x10) → ((0 : Int) ≤ x9 ∧ x9 < 13) ∧ ((0 : Int) ≤ x9 - 1 ∧ x9 - 1 < 13) ∧ ((0 : Int) ≤ 12 + x10 ∧ 12 + x10 < 24) ∧ wp_X11_inserting M x10 (x10 + (M 13 4 (12 + x10).toNat)) (fun y41 M42 => wp_X11_lesser M42 ((M 13 22 x9.toNat) + x7) ((M 13 22 (x9 - 1).toNat) + y41) (fun y43 M44 => wp_X11_alike M44 x6 x10 (fun y45 M46 => inR y45 ∧ ((y45 = 0 → wpj_X11_topOf_245 p0 p1 x3 x4 x5 x6 x7 x9 x10 y43 M46 J37 J106 J157 Q) ∧ (¬ (y45 = 0) → ((0 : Int) ≤ (12 * x6) + x10 ∧ (12 * x6) + x10 < 144) ∧ wp_X11_lesser M46 y43 (x8 + (M46 13 21 ((12 * x6) + x10).toNat)) (fun y50 M51 => wpj_X11_topOf_245 p0 p1 x3 x4 x5 x6 x7 x9 x10 y50 M51 J37 J106 J157 Q))))))))
def wph_X11_topOf_106 (p0 : Int) (p1 : Int) (x3 : Int) (x4 : Int) (x5 : Int) (x6 : Int) (M : Mem) (J37 : Int → Int → Int → Int → Mem → Prop) (J106 : Int → Int → Int → Int → Mem → Prop) (J157 : Int → Int → Int → Int → Int → Int → Int → Int → Mem → Prop) (Q : Int → Mem → Prop) : Prop := inR x6 ∧ inR x3 ∧ ((x3 ≤ x6 → wp_X11_pairing M p0 p1 (fun y23 M24 => ((0 : Int) ≤ x5 ∧ x5 < 13) ∧ Q (y23 + (M24 13 22 x5.toNat)) M24)) ∧ (¬ (x3 ≤ x6) → ((0 : Int) ≤ x6 ∧ x6 < 24) ∧ wp_X11_deletingAll M x6 (x6 + (M 13 4 x6.toNat)) (fun y27 M28 => (∀ y29 : Int, y29 = (M28 13 22 0) → (∀ M30 : Mem, M30 = mset M28 13 22 0 ((M28 13 22 0) + y27) → (∀ y32 : Int, y32 = p1 + 1 → J157 x3 x4 x5 x6 y27 y29 1 y32 M30))))))
def wph_X11_topOf_37 (p0 : Int) (p1 : Int) (x3 : Int) (x4 : Int) (x5 : Int) (x6 : Int) (M : Mem) (J37 : Int → Int → Int → Int → Mem → Prop) (J106 : Int → Int → Int → Int → Mem → Prop) (J157 : Int → Int → Int → Int → Int → Int → Int → Int → Mem → Prop) (Q : Int → Mem → Prop) : Prop := inR x6 ∧ inR x4 ∧ ((x4 ≤ x6 → (∀ y11 : Int, y11 = p0 + 1 → J106 x3 x4 x5 y11 M)) ∧ (¬ (x4 ≤ x6) → ((0 : Int) ≤ (x5 + 1) - 1 ∧ (x5 + 1) - 1 < 13) ∧ ((0 : Int) ≤ 12 + x6 ∧ 12 + x6 < 24) ∧ wp_X11_inserting M x6 (x6 + (M 13 4 (12 + x6).toNat)) (fun y14 M15 => ((0 : Int) ≤ x5 + 1 ∧ x5 + 1 < 13) ∧ (∀ M16 : Mem, M16 = mset M15 13 22 (x5 + 1).toNat ((M 13 22 ((x5 + 1) - 1).toNat) + y14) → ((0 : Int) ≤ 12 + x6 ∧ 12 + x6 < 24) ∧ (∀ y19 : Int, y19 = x6 + (M16 13 4 (12 + x6).toNat) → J37 x3 x4 (x5 + 1) y19 M16)))))
def wpe_X11_topOf (p0 : Int) (p1 : Int) (M : Mem) (J37 : Int → Int → Int → Int → Mem → Prop) (J106 : Int → Int → Int → Int → Mem → Prop) (J157 : Int → Int → Int → Int → Int → Int → Int → Int → Mem → Prop) (Q : Int → Mem → Prop) : Prop := ((0 : Int) ≤ p0 ∧ p0 < 24) ∧ (∀ y2 : Int, y2 = p0 + (M 13 4 p0.toNat) → ((0 : Int) ≤ 12 + p1 ∧ 12 + p1 < 24) ∧ (∀ y4 : Int, y4 = p1 + (M 13 4 (12 + p1).toNat) → (∀ M5 : Mem, M5 = mset M 13 22 0 0 → (∀ y7 : Int, y7 = p1 + 1 → J37 y2 y4 0 y7 M5))))
def wp_X11_topOf (M : Mem) (p0 : Int) (p1 : Int) (Q : Int → Mem → Prop) : Prop := ∃ (I37 : Nat → Int → Int → Int → Int → Mem → Prop) (I106 : Nat → Int → Int → Int → Int → Mem → Prop) (I157 : Nat → Int → Int → Int → Int → Int → Int → Int → Int → Mem → Prop), wpe_X11_topOf p0 p1 M (fun (x3 : Int) (x4 : Int) (x5 : Int) (x6 : Int) (M1 : Mem) => ∃ n1 : Nat, I37 n1 x3 x4 x5 x6 M1) (fun (x3 : Int) (x4 : Int) (x5 : Int) (x6 : Int) (M1 : Mem) => ∃ n1 : Nat, I106 n1 x3 x4 x5 x6 M1) (fun (x3 : Int) (x4 : Int) (x5 : Int) (x6 : Int) (x7 : Int) (x8 : Int) (x9 : Int) (x10 : Int) (M1 : Mem) => ∃ n1 : Nat, I157 n1 x3 x4 x5 x6 x7 x8 x9 x10 M1) Q ∧ (∀ (n : Nat) (x3 : Int) (x4 : Int) (x5 : Int) (x6 : Int) (M : Mem), I37 n x3 x4 x5 x6 M → wph_X11_topOf_37 p0 p1 x3 x4 x5 x6 M (fun (x3 : Int) (x4 : Int) (x5 : Int) (x6 : Int) (M1 : Mem) => ∃ n1 : Nat, n1 < n ∧ I37 n1 x3 x4 x5 x6 M1) (fun (x3 : Int) (x4 : Int) (x5 : Int) (x6 : Int) (M1 : Mem) => ∃ n1 : Nat, n1 < n ∧ I106 n1 x3 x4 x5 x6 M1) (fun (x3 : Int) (x4 : Int) (x5 : Int) (x6 : Int) (x7 : Int) (x8 : Int) (x9 : Int) (x10 : Int) (M1 : Mem) => ∃ n1 : Nat, n1 < n ∧ I157 n1 x3 x4 x5 x6 x7 x8 x9 x10 M1) Q) ∧ (∀ (n : Nat) (x3 : Int) (x4 : Int) (x5 : Int) (x6 : Int) (M : Mem), I106 n x3 x4 x5 x6 M → wph_X11_topOf_106 p0 p1 x3 x4 x5 x6 M (fun (x3 : Int) (x4 : Int) (x5 : Int) (x6 : Int) (M1 : Mem) => ∃ n1 : Nat, n1 < n ∧ I37 n1 x3 x4 x5 x6 M1) (fun (x3 : Int) (x4 : Int) (x5 : Int) (x6 : Int) (M1 : Mem) => ∃ n1 : Nat, n1 < n ∧ I106 n1 x3 x4 x5 x6 M1) (fun (x3 : Int) (x4 : Int) (x5 : Int) (x6 : Int) (x7 : Int) (x8 : Int) (x9 : Int) (x10 : Int) (M1 : Mem) => ∃ n1 : Nat, n1 < n ∧ I157 n1 x3 x4 x5 x6 x7 x8 x9 x10 M1) Q) ∧ (∀ (n : Nat) (x3 : Int) (x4 : Int) (x5 : Int) (x6 : Int) (x7 : Int) (x8 : Int) (x9 : Int) (x10 : Int) (M : Mem), I157 n x3 x4 x5 x6 x7 x8 x9 x10 M → wph_X11_topOf_157 p0 p1 x3 x4 x5 x6 x7 x8 x9 x10 M (fun (x3 : Int) (x4 : Int) (x5 : Int) (x6 : Int) (M1 : Mem) => ∃ n1 : Nat, n1 < n ∧ I37 n1 x3 x4 x5 x6 M1) (fun (x3 : Int) (x4 : Int) (x5 : Int) (x6 : Int) (M1 : Mem) => ∃ n1 : Nat, n1 < n ∧ I106 n1 x3 x4 x5 x6 M1) (fun (x3 : Int) (x4 : Int) (x5 : Int) (x6 : Int) (x7 : Int) (x8 : Int) (x9 : Int) (x10 : Int) (M1 : Mem) => ∃ n1 : Nat, n1 < n ∧ I157 n1 x3 x4 x5 x6 x7 x8 x9 x10 M1) Q)
set_option maxHeartbeats 4000000 in
set_option maxRecDepth 100000 in
theorem wkj_X11_topOf_245 {p : Program} {l : Launch} {e : Env} {s : State} {m : MethodId} {args : Array Value} {below : List Frame} {meth : Method} {c : Code} {D : va_G} {g : GT} {A : Nat → Prop} {a : Nat → Nat} {b : Nat → Nat → Nat} (X : vC p s m args meth c D g A RX11 wsX11_topOf cX11_topOf 12) (hr : meth.sig.returnType = (some .int)) {p0 : Int} {p1 : Int} {x3 : Int} {x4 : Int} {x5 : Int} {x6 : Int} {x7 : Int} {x9 : Int} {x10 : Int} {s0 : Int} {M : Mem} {J37 : Int → Int → Int → Int → Mem → Prop} {J106 : Int → Int → Int → Int → Mem → Prop} {J157 : Int → Int → Int → Int → Int → Int → Int → Int → Mem → Prop} {Q : Int → Mem → Prop} (hJ37 : ∀ (x3 : Int) (x4 : Int) (x5 : Int) (x6 : Int) (M : Mem), J37 x3 x4 x5 x6 M → vV p l e ({ frames := 2, cells := 0, slots := 0, locals := 47 } : Room) s m args below meth c D g A a b 12 0 0 (MQ below (cQi D g A a b Q) args s 0 0 A) M [(0, .ref (a 13)), (1, iv p0), (2, iv p1), (3, iv x3), (4, iv x4), (5, iv x5), (6, iv x6)] 37 []) (hJ106 : ∀ (x3 : Int) (x4 : Int) (x5 : Int) (x6 : Int) (M : Mem), J106 x3 x4 x5 x6 M → vV p l e ({ frames := 2, cells := 0, slots := 0, locals := 47 } : Room) s m args below meth c D g A a b 12 0 0 (MQ below (cQi D g A a b Q) args s 0 0 A) M [(0, .ref (a 13)), (1, iv p0), (2, iv p1), (3, iv x3), (4, iv x4), (5, iv x5), (6, iv x6)] 106 []) (hJ157 : ∀ (x3 : Int) (x4 : Int) (x5 : Int) (x6 : Int) (x7 : Int) (x8 : Int) (x9 : Int) (x10 : Int) (M : Mem), J157 x3 x4 x5 x6 x7 x8 x9 x10 M → vV p l e ({ frames := 2, cells := 0, slots := 0, locals := 47 } : Room) s m args below meth c D g A a b 12 0 0 (MQ below (cQi D g A a b Q) args s 0 0 A) M [(0, .ref (a 13)), (1, iv p0), (2, iv p1), (3, iv x3), (4, iv x4), (5, iv x5), (6, iv x6), (7, iv x7), (8, iv x8), (9, iv x9), (10, iv x10)] 157 []) (hw : wpj_X11_topOf_245 p0 p1 x3 x4 x5 x6 x7 x9 x10 s0 M J37 J106 J157 Q) : vV p l e ({ frames := 2, cells := 0, slots := 0, locals := 47 } : Room) s m args below meth c D g A a b 12 0 0 (MQ below (cQi D g A a b Q) args s 0 0 A) M [(0, .ref (a 13)), (1, iv p0), (2, iv p1), (3, iv x3), (4, iv x4), (5, iv x5), (6, iv x6), (7, iv x7), (9, iv x9), (10, iv x10)] 245 [iv s0] := by
  unfold wpj_X11_topOf_245 at hw
  refine V_istore (lv1 := [(0, .ref (a 13)), (1, iv p0), (2, iv p1), (3, iv x3), (4, iv x4), (5, iv x5), (6, iv x6), (7, iv x7), (9, iv x9), (10, iv x10), (11, iv s0)]) X [1, 2, 3, 4, 5, 6, 7, 8, 9, 10, 0] dX11_topOf_245 (by decide) rfl ?_
  refine V_aload_n X dX11_topOf_247 rfl (q := 0) rfl ?_
  refine V_get (C := RX11) (T := TX11) (N := 24) (ci := 11) X hi_X11_topOf_11 gO_13 rfl 22 (by decide) lk_X11_topOf_f69 (fun _ h9 => h9) rfl dX11_topOf_248 ?_
  refine V_iload X dX11_topOf_251 (q := 8) rfl ?_
  obtain ⟨h52, hw⟩ := hw
  refine V_iald X (gA_13_22) h52 (by decide) dX11_topOf_253 ?_
  refine V_top (fun y53 ey53 => ?_)
  have hw := hw y53 ey53
  refine V_istore (lv1 := [(0, .ref (a 13)), (1, iv p0), (2, iv p1), (3, iv x3), (4, iv x4), (5, iv x5), (6, iv x6), (7, iv x7), (8, iv y53), (9, iv x9), (10, iv x10), (11, iv s0)]) X [1, 2, 3, 4, 5, 6, 7, 8, 0, 9, 10, 11] dX11_topOf_254 (by decide) rfl ?_
  refine V_aload_n X dX11_topOf_256 rfl (q := 0) rfl ?_
  refine V_get (C := RX11) (T := TX11) (N := 24) (ci := 11) X hi_X11_topOf_11 gO_13 rfl 22 (by decide) lk_X11_topOf_f69 (fun _ h9 => h9) rfl dX11_topOf_257 ?_
  refine V_iload X dX11_topOf_260 (q := 9) rfl ?_
  refine V_iload X dX11_topOf_262 (q := 11) rfl ?_
  obtain ⟨h55, hw⟩ := hw
  refine V_iast X (gA_13_22) (sA_13_22) h55 (by decide) dX11_topOf_264 (fun M54 eM54 => ?_)
  have hw := hw M54 eM54
  refine V_iinc (lv1 := [(0, .ref (a 13)), (1, iv p0), (2, iv p1), (3, iv x3), (4, iv x4), (5, iv x5), (6, iv x6), (7, iv x7), (8, iv y53), (9, iv (x9 + 1)), (10, iv x10), (11, iv s0)]) X [1, 2, 3, 4, 5, 6, 7, 8, 9, 0, 10, 11] dX11_topOf_265 (q := 9) rfl (by decide) rfl ?_
  refine V_iload X dX11_topOf_268 (q := 10) rfl ?_
  refine V_aload_n X dX11_topOf_270 rfl (q := 0) rfl ?_
  refine V_get (C := RX11) (T := TX11) (N := 24) (ci := 11) X hi_X11_topOf_11 gO_13 rfl 4 (by decide) lk_X11_topOf_f22 (fun _ h9 => h9) rfl dX11_topOf_271 ?_
  refine V_bipush X dX11_topOf_274 rfl ?_
  refine V_iload X dX11_topOf_276 (q := 10) rfl ?_
  refine V_iadd X dX11_topOf_278 ?_
  obtain ⟨h56, hw⟩ := hw
  refine V_iald X (gA_13_4) h56 (by decide) dX11_topOf_279 ?_
  refine V_iadd X dX11_topOf_280 ?_
  refine V_top (fun y57 ey57 => ?_)
  have hw := hw y57 ey57
  refine V_istore (lv1 := [(0, .ref (a 13)), (1, iv p0), (2, iv p1), (3, iv x3), (4, iv x4), (5, iv x5), (6, iv x6), (7, iv x7), (8, iv y53), (9, iv (x9 + 1)), (10, iv y57), (11, iv s0)]) X [1, 2, 3, 4, 5, 6, 7, 8, 9, 10, 0, 11] dX11_topOf_281 (by decide) rfl ?_
  refine V_goto (tgt := 157) X dX11_topOf_283 (by decide) ?_
  refine V_sub (lv1 := [(0, .ref (a 13)), (1, iv p0), (2, iv p1), (3, iv x3), (4, iv x4), (5, iv x5), (6, iv x6), (7, iv x7), (8, iv y53), (9, iv (x9 + 1)), (10, iv y57)]) [0, 1, 2, 3, 4, 5, 6, 7, 8, 9, 10] rfl ?_
  exact hJ157 _ _ _ _ _ _ _ _ _ hw
set_option maxHeartbeats 4000000 in
set_option maxRecDepth 100000 in
theorem wkh_X11_topOf_157 {p : Program} {l : Launch} {e : Env} {s : State} {m : MethodId} {args : Array Value} {below : List Frame} {meth : Method} {c : Code} {D : va_G} {g : GT} {A : Nat → Prop} {a : Nat → Nat} {b : Nat → Nat → Nat} (X : vC p s m args meth c D g A RX11 wsX11_topOf cX11_topOf 12) (hr : meth.sig.returnType = (some .int)) {p0 : Int} {p1 : Int} {x3 : Int} {x4 : Int} {x5 : Int} {x6 : Int} {x7 : Int} {x8 : Int} {x9 : Int} {x10 : Int} {M : Mem} {J37 : Int → Int → Int → Int → Mem → Prop} {J106 : Int → Int → Int → Int → Mem → Prop} {J157 : Int → Int → Int → Int → Int → Int → Int → Int → Mem → Prop} {Q : Int → Mem → Prop} (hJ37 : ∀ (x3 : Int) (x4 : Int) (x5 : Int) (x6 : Int) (M : Mem), J37 x3 x4 x5 x6 M → vV p l e ({ frames := 2, cells := 0, slots := 0, locals := 47 } : Room) s m args below meth c D g A a b 12 0 0 (MQ below (cQi D g A a b Q) args s 0 0 A) M [(0, .ref (a 13)), (1, iv p0), (2, iv p1), (3, iv x3), (4, iv x4), (5, iv x5), (6, iv x6)] 37 []) (hJ106 : ∀ (x3 : Int) (x4 : Int) (x5 : Int) (x6 : Int) (M : Mem), J106 x3 x4 x5 x6 M → vV p l e ({ frames := 2, cells := 0, slots := 0, locals := 47 } : Room) s m args below meth c D g A a b 12 0 0 (MQ below (cQi D g A a b Q) args s 0 0 A) M [(0, .ref (a 13)), (1, iv p0), (2, iv p1), (3, iv x3), (4, iv x4), (5, iv x5), (6, iv x6)] 106 []) (hJ157 : ∀ (x3 : Int) (x4 : Int) (x5 : Int) (x6 : Int) (x7 : Int) (x8 : Int) (x9 : Int) (x10 : Int) (M : Mem), J157 x3 x4 x5 x6 x7 x8 x9 x10 M → vV p l e ({ frames := 2, cells := 0, slots := 0, locals := 47 } : Room) s m args below meth c D g A a b 12 0 0 (MQ below (cQi D g A a b Q) args s 0 0 A) M [(0, .ref (a 13)), (1, iv p0), (2, iv p1), (3, iv x3), (4, iv x4), (5, iv x5), (6, iv x6), (7, iv x7), (8, iv x8), (9, iv x9), (10, iv x10)] 157 []) (hw : wph_X11_topOf_157 p0 p1 x3 x4 x5 x6 x7 x8 x9 x10 M J37 J106 J157 Q) : vV p l e ({ frames := 2, cells := 0, slots := 0, locals := 47 } : Room) s m args below meth c D g A a b 12 0 0 (MQ below (cQi D g A a b Q) args s 0 0 A) M [(0, .ref (a 13)), (1, iv p0), (2, iv p1), (3, iv x3), (4, iv x4), (5, iv x5), (6, iv x6), (7, iv x7), (8, iv x8), (9, iv x9), (10, iv x10)] 157 [] := by
  unfold wph_X11_topOf_157 at hw
  refine V_iload X dX11_topOf_157 (q := 10) rfl ?_
  refine V_iload X dX11_topOf_159 (q := 4) rfl ?_
  obtain ⟨h33, h34, hw⟩ := hw
  refine V_icmp_ge (tgt := 286) X h33 h34 dX11_topOf_161 (by decide) (fun q35 => ?_) (fun q35 => ?_)
  · have hw := hw.1 q35
    refine V_iload X dX11_topOf_286 (q := 6) rfl ?_
    refine V_aload_n X dX11_topOf_288 rfl (q := 0) rfl ?_
    refine V_get (C := RX11) (T := TX11) (N := 24) (ci := 11) X hi_X11_topOf_11 gO_13 rfl 4 (by decide) lk_X11_topOf_f22 (fun _ h9 => h9) rfl dX11_topOf_289 ?_
    refine V_iload X dX11_topOf_292 (q := 6) rfl ?_
    obtain ⟨h36, hw⟩ := hw
    refine V_iald X (gA_13_4) h36 (by decide) dX11_topOf_294 ?_
    refine V_iadd X dX11_topOf_295 ?_
    refine V_top (fun y37 ey37 => ?_)
    have hw := hw y37 ey37
    refine V_istore (lv1 := [(0, .ref (a 13)), (1, iv p0), (2, iv p1), (3, iv x3), (4, iv x4), (5, iv x5), (6, iv y37), (7, iv x7), (8, iv x8), (9, iv x9), (10, iv x10)]) X [1, 2, 3, 4, 5, 6, 0, 7, 8, 9, 10] dX11_topOf_296 (by decide) rfl ?_
    refine V_goto (tgt := 106) X dX11_topOf_298 (by decide) ?_
    refine V_sub (lv1 := [(0, .ref (a 13)), (1, iv p0), (2, iv p1), (3, iv x3), (4, iv x4), (5, iv x5), (6, iv y37)]) [0, 1, 2, 3, 4, 5, 6] rfl ?_
    exact hJ106 _ _ _ _ _ hw
  · have hw := hw.2 q35
    refine V_aload_n X dX11_topOf_164 rfl (q := 0) rfl ?_
    refine V_get (C := RX11) (T := TX11) (N := 24) (ci := 11) X hi_X11_topOf_11 gO_13 rfl 22 (by decide) lk_X11_topOf_f69 (fun _ h9 => h9) rfl dX11_topOf_165 ?_
    refine V_iload X dX11_topOf_168 (q := 9) rfl ?_
    obtain ⟨h38, hw⟩ := hw
    refine V_iald X (gA_13_22) h38 (by decide) dX11_topOf_170 ?_
    refine V_iload X dX11_topOf_171 (q := 7) rfl ?_
    refine V_iadd X dX11_topOf_173 ?_
    refine V_aload_n X dX11_topOf_174 rfl (q := 0) rfl ?_
    refine V_get (C := RX11) (T := TX11) (N := 24) (ci := 11) X hi_X11_topOf_11 gO_13 rfl 22 (by decide) lk_X11_topOf_f69 (fun _ h9 => h9) rfl dX11_topOf_175 ?_
    refine V_iload X dX11_topOf_178 (q := 9) rfl ?_
    refine V_iconst X dX11_topOf_180 ?_
    refine V_isub X dX11_topOf_181 ?_
    obtain ⟨h39, hw⟩ := hw
    refine V_iald X (gA_13_22) h39 (by decide) dX11_topOf_182 ?_
    refine V_aload_n X dX11_topOf_183 rfl (q := 0) rfl ?_
    refine V_iload X dX11_topOf_184 (q := 10) rfl ?_
    refine V_iload X dX11_topOf_186 (q := 10) rfl ?_
    refine V_aload_n X dX11_topOf_188 rfl (q := 0) rfl ?_
    refine V_get (C := RX11) (T := TX11) (N := 24) (ci := 11) X hi_X11_topOf_11 gO_13 rfl 4 (by decide) lk_X11_topOf_f22 (fun _ h9 => h9) rfl dX11_topOf_189 ?_
    refine V_bipush X dX11_topOf_192 rfl ?_
    refine V_iload X dX11_topOf_194 (q := 10) rfl ?_
    refine V_iadd X dX11_topOf_196 ?_
    obtain ⟨h40, hw⟩ := hw
    refine V_iald X (gA_13_4) h40 (by decide) dX11_topOf_197 ?_
    refine V_iadd X dX11_topOf_198 ?_
    refine V_callV_i X _ gO_13 rfl (As := [iv x10, iv (x10 + (M 13 4 (12 + x10).toNat))]) (st := [iv ((M 13 22 (x9 - 1).toNat)), iv ((M 13 22 x9.toNat) + x7)]) (c_X11_inserting l hw) (cwV 2 X.2.2.2.1 gX11_topOf_X11_inserting rfl rfl rfl (by decide +kernel) ⟨Nat.le_of_ble_eq_true rfl, Nat.le_of_ble_eq_true rfl⟩) rfl (Nat.le_of_ble_eq_true rfl) ⟨Nat.le_of_ble_eq_true rfl, Nat.le_of_ble_eq_true rfl⟩ rfl dX11_topOf_199 (fun y41 M42 hw => ?_)
    refine V_iadd X dX11_topOf_202 ?_
    refine V_callS_i X _ (As := [iv ((M 13 22 x9.toNat) + x7), iv ((M 13 22 (x9 - 1).toNat) + y41)]) (st := []) (c_X11_lesser l hw) (va_cwS 2 X.2.2.2.1 gX11_topOf_X11_lesser rfl rfl rfl (by decide +kernel) ⟨Nat.le_of_ble_eq_true rfl, Nat.le_of_ble_eq_true rfl⟩) rfl (Nat.le_of_ble_eq_true rfl) ⟨Nat.le_of_ble_eq_true rfl, Nat.le_of_ble_eq_true rfl⟩ rfl dX11_topOf_203 (fun y43 M44 hw => ?_)
    refine V_istore (lv1 := [(0, .ref (a 13)), (1, iv p0), (2, iv p1), (3, iv x3), (4, iv x4), (5, iv x5), (6, iv x6), (7, iv x7), (8, iv x8), (9, iv x9), (10, iv x10), (11, iv y43)]) X [1, 2, 3, 4, 5, 6, 7, 8, 9, 10, 11, 0] dX11_topOf_206 (by decide) rfl ?_
    refine V_aload_n X dX11_topOf_208 rfl (q := 0) rfl ?_
    refine V_iload X dX11_topOf_209 (q := 6) rfl ?_
    refine V_iload X dX11_topOf_211 (q := 10) rfl ?_
    refine V_callV_i X _ gO_13 rfl (As := [iv x6, iv x10]) (st := []) (c_X11_alike l hw) (cwV 2 X.2.2.2.1 gX11_topOf_X11_alike rfl rfl rfl (by decide +kernel) ⟨Nat.le_of_ble_eq_true rfl, Nat.le_of_ble_eq_true rfl⟩) rfl (Nat.le_of_ble_eq_true rfl) ⟨Nat.le_of_ble_eq_true rfl, Nat.le_of_ble_eq_true rfl⟩ rfl dX11_topOf_213 (fun y45 M46 hw => ?_)
    obtain ⟨h47, hw⟩ := hw
    refine V_if_eq (tgt := 243) X h47 dX11_topOf_216 (by decide) (fun q48 => ?_) (fun q48 => ?_)
    · have hw := hw.1 q48
      refine V_iload X dX11_topOf_243 (q := 11) rfl ?_
      refine V_sub (lv1 := [(0, .ref (a 13)), (1, iv p0), (2, iv p1), (3, iv x3), (4, iv x4), (5, iv x5), (6, iv x6), (7, iv x7), (9, iv x9), (10, iv x10)]) [0, 1, 2, 3, 4, 5, 6, 7, 9, 10] rfl ?_
      exact wkj_X11_topOf_245 X hr hJ37 hJ106 hJ157 hw
    · have hw := hw.2 q48
      refine V_iload X dX11_topOf_219 (q := 11) rfl ?_
      refine V_iload X dX11_topOf_221 (q := 8) rfl ?_
      refine V_aload_n X dX11_topOf_223 rfl (q := 0) rfl ?_
      refine V_get (C := RX11) (T := TX11) (N := 24) (ci := 11) X hi_X11_topOf_11 gO_13 rfl 21 (by decide) lk_X11_topOf_f66 (fun _ h9 => h9) rfl dX11_topOf_224 ?_
      refine V_bipush X dX11_topOf_227 rfl ?_
      refine V_iload X dX11_topOf_229 (q := 6) rfl ?_
      refine V_imul X dX11_topOf_231 ?_
      refine V_iload X dX11_topOf_232 (q := 10) rfl ?_
      refine V_iadd X dX11_topOf_234 ?_
      obtain ⟨h49, hw⟩ := hw
      refine V_iald X (gA_13_21) h49 (by decide) dX11_topOf_235 ?_
      refine V_iadd X dX11_topOf_236 ?_
      refine V_callS_i X _ (As := [iv y43, iv (x8 + (M46 13 21 ((12 * x6) + x10).toNat))]) (st := []) (c_X11_lesser l hw) (va_cwS 2 X.2.2.2.1 gX11_topOf_X11_lesser rfl rfl rfl (by decide +kernel) ⟨Nat.le_of_ble_eq_true rfl, Nat.le_of_ble_eq_true rfl⟩) rfl (Nat.le_of_ble_eq_true rfl) ⟨Nat.le_of_ble_eq_true rfl, Nat.le_of_ble_eq_true rfl⟩ rfl dX11_topOf_237 (fun y50 M51 hw => ?_)
      refine V_goto (tgt := 245) X dX11_topOf_240 (by decide) ?_
      refine V_sub (lv1 := [(0, .ref (a 13)), (1, iv p0), (2, iv p1), (3, iv x3), (4, iv x4), (5, iv x5), (6, iv x6), (7, iv x7), (9, iv x9), (10, iv x10)]) [0, 1, 2, 3, 4, 5, 6, 7, 9, 10] rfl ?_
      exact wkj_X11_topOf_245 X hr hJ37 hJ106 hJ157 hw
set_option maxHeartbeats 4000000 in
set_option maxRecDepth 100000 in
theorem wkh_X11_topOf_106 {p : Program} {l : Launch} {e : Env} {s : State} {m : MethodId} {args : Array Value} {below : List Frame} {meth : Method} {c : Code} {D : va_G} {g : GT} {A : Nat → Prop} {a : Nat → Nat} {b : Nat → Nat → Nat} (X : vC p s m args meth c D g A RX11 wsX11_topOf cX11_topOf 12) (hr : meth.sig.returnType = (some .int)) {p0 : Int} {p1 : Int} {x3 : Int} {x4 : Int} {x5 : Int} {x6 : Int} {M : Mem} {J37 : Int → Int → Int → Int → Mem → Prop} {J106 : Int → Int → Int → Int → Mem → Prop} {J157 : Int → Int → Int → Int → Int → Int → Int → Int → Mem → Prop} {Q : Int → Mem → Prop} (hJ37 : ∀ (x3 : Int) (x4 : Int) (x5 : Int) (x6 : Int) (M : Mem), J37 x3 x4 x5 x6 M → vV p l e ({ frames := 2, cells := 0, slots := 0, locals := 47 } : Room) s m args below meth c D g A a b 12 0 0 (MQ below (cQi D g A a b Q) args s 0 0 A) M [(0, .ref (a 13)), (1, iv p0), (2, iv p1), (3, iv x3), (4, iv x4), (5, iv x5), (6, iv x6)] 37 []) (hJ106 : ∀ (x3 : Int) (x4 : Int) (x5 : Int) (x6 : Int) (M : Mem), J106 x3 x4 x5 x6 M → vV p l e ({ frames := 2, cells := 0, slots := 0, locals := 47 } : Room) s m args below meth c D g A a b 12 0 0 (MQ below (cQi D g A a b Q) args s 0 0 A) M [(0, .ref (a 13)), (1, iv p0), (2, iv p1), (3, iv x3), (4, iv x4), (5, iv x5), (6, iv x6)] 106 []) (hJ157 : ∀ (x3 : Int) (x4 : Int) (x5 : Int) (x6 : Int) (x7 : Int) (x8 : Int) (x9 : Int) (x10 : Int) (M : Mem), J157 x3 x4 x5 x6 x7 x8 x9 x10 M → vV p l e ({ frames := 2, cells := 0, slots := 0, locals := 47 } : Room) s m args below meth c D g A a b 12 0 0 (MQ below (cQi D g A a b Q) args s 0 0 A) M [(0, .ref (a 13)), (1, iv p0), (2, iv p1), (3, iv x3), (4, iv x4), (5, iv x5), (6, iv x6), (7, iv x7), (8, iv x8), (9, iv x9), (10, iv x10)] 157 []) (hw : wph_X11_topOf_106 p0 p1 x3 x4 x5 x6 M J37 J106 J157 Q) : vV p l e ({ frames := 2, cells := 0, slots := 0, locals := 47 } : Room) s m args below meth c D g A a b 12 0 0 (MQ below (cQi D g A a b Q) args s 0 0 A) M [(0, .ref (a 13)), (1, iv p0), (2, iv p1), (3, iv x3), (4, iv x4), (5, iv x5), (6, iv x6)] 106 [] := by
  unfold wph_X11_topOf_106 at hw
  refine V_iload X dX11_topOf_106 (q := 6) rfl ?_
  refine V_iload_n X dX11_topOf_108 rfl (q := 3) rfl ?_
  obtain ⟨h20, h21, hw⟩ := hw
  refine V_icmp_ge (tgt := 301) X h20 h21 dX11_topOf_109 (by decide) (fun q22 => ?_) (fun q22 => ?_)
  · have hw := hw.1 q22
    refine V_aload_n X dX11_topOf_301 rfl (q := 0) rfl ?_
    refine V_iload_n X dX11_topOf_302 rfl (q := 1) rfl ?_
    refine V_iload_n X dX11_topOf_303 rfl (q := 2) rfl ?_
    refine V_callV_i X _ gO_13 rfl (As := [iv p0, iv p1]) (st := []) (c_X11_pairing l hw) (cwV 2 X.2.2.2.1 gX11_topOf_X11_pairing rfl rfl rfl (by decide +kernel) ⟨Nat.le_of_ble_eq_true rfl, Nat.le_of_ble_eq_true rfl⟩) rfl (Nat.le_of_ble_eq_true rfl) ⟨Nat.le_of_ble_eq_true rfl, Nat.le_of_ble_eq_true rfl⟩ rfl dX11_topOf_304 (fun y23 M24 hw => ?_)
    refine V_aload_n X dX11_topOf_307 rfl (q := 0) rfl ?_
    refine V_get (C := RX11) (T := TX11) (N := 24) (ci := 11) X hi_X11_topOf_11 gO_13 rfl 22 (by decide) lk_X11_topOf_f69 (fun _ h9 => h9) rfl dX11_topOf_308 ?_
    refine V_iload X dX11_topOf_311 (q := 5) rfl ?_
    obtain ⟨h25, hw⟩ := hw
    refine V_iald X (gA_13_22) h25 (by decide) dX11_topOf_313 ?_
    refine V_iadd X dX11_topOf_314 ?_
    exact V_iret X hr hw dX11_topOf_315
  · have hw := hw.2 q22
    refine V_aload_n X dX11_topOf_112 rfl (q := 0) rfl ?_
    refine V_iload X dX11_topOf_113 (q := 6) rfl ?_
    refine V_iload X dX11_topOf_115 (q := 6) rfl ?_
    refine V_aload_n X dX11_topOf_117 rfl (q := 0) rfl ?_
    refine V_get (C := RX11) (T := TX11) (N := 24) (ci := 11) X hi_X11_topOf_11 gO_13 rfl 4 (by decide) lk_X11_topOf_f22 (fun _ h9 => h9) rfl dX11_topOf_118 ?_
    refine V_iload X dX11_topOf_121 (q := 6) rfl ?_
    obtain ⟨h26, hw⟩ := hw
    refine V_iald X (gA_13_4) h26 (by decide) dX11_topOf_123 ?_
    refine V_iadd X dX11_topOf_124 ?_
    refine V_callV_i X _ gO_13 rfl (As := [iv x6, iv (x6 + (M 13 4 x6.toNat))]) (st := []) (c_X11_deletingAll l hw) (cwV 2 X.2.2.2.1 gX11_topOf_X11_deletingAll rfl rfl rfl (by decide +kernel) ⟨Nat.le_of_ble_eq_true rfl, Nat.le_of_ble_eq_true rfl⟩) rfl (Nat.le_of_ble_eq_true rfl) ⟨Nat.le_of_ble_eq_true rfl, Nat.le_of_ble_eq_true rfl⟩ rfl dX11_topOf_125 (fun y27 M28 hw => ?_)
    refine V_istore (lv1 := [(0, .ref (a 13)), (1, iv p0), (2, iv p1), (3, iv x3), (4, iv x4), (5, iv x5), (6, iv x6), (7, iv y27)]) X [1, 2, 3, 4, 5, 6, 7, 0] dX11_topOf_128 (by decide) rfl ?_
    refine V_aload_n X dX11_topOf_130 rfl (q := 0) rfl ?_
    refine V_get (C := RX11) (T := TX11) (N := 24) (ci := 11) X hi_X11_topOf_11 gO_13 rfl 22 (by decide) lk_X11_topOf_f69 (fun _ h9 => h9) rfl dX11_topOf_131 ?_
    refine V_iconst X dX11_topOf_134 ?_
    refine V_iald X (gA_13_22) ⟨by decide, by decide⟩ (by decide) dX11_topOf_135 ?_
    refine V_top (fun y29 ey29 => ?_)
    have hw := hw y29 ey29
    refine V_istore (lv1 := [(0, .ref (a 13)), (1, iv p0), (2, iv p1), (3, iv x3), (4, iv x4), (5, iv x5), (6, iv x6), (7, iv y27), (8, iv y29)]) X [1, 2, 3, 4, 5, 6, 7, 8, 0] dX11_topOf_136 (by decide) rfl ?_
    refine V_aload_n X dX11_topOf_138 rfl (q := 0) rfl ?_
    refine V_get (C := RX11) (T := TX11) (N := 24) (ci := 11) X hi_X11_topOf_11 gO_13 rfl 22 (by decide) lk_X11_topOf_f69 (fun _ h9 => h9) rfl dX11_topOf_139 ?_
    refine V_iconst X dX11_topOf_142 ?_
    refine V_dup2 X dX11_topOf_143 rfl rfl ?_
    refine V_iald X (gA_13_22) ⟨by decide, by decide⟩ (by decide) dX11_topOf_144 ?_
    refine V_iload X dX11_topOf_145 (q := 7) rfl ?_
    refine V_iadd X dX11_topOf_147 ?_
    refine V_iast X (gA_13_22) (sA_13_22) ⟨by decide, by decide⟩ (by decide) dX11_topOf_148 (fun M30 eM30 => ?_)
    have hw := hw M30 eM30
    refine V_iconst X dX11_topOf_149 ?_
    refine V_istore (lv1 := [(0, .ref (a 13)), (1, iv p0), (2, iv p1), (3, iv x3), (4, iv x4), (5, iv x5), (6, iv x6), (7, iv y27), (8, iv y29), (9, iv 1)]) X [1, 2, 3, 4, 5, 6, 7, 8, 9, 0] dX11_topOf_150 (by decide) rfl ?_
    refine V_iload_n X dX11_topOf_152 rfl (q := 2) rfl ?_
    refine V_iconst X dX11_topOf_153 ?_
    refine V_iadd X dX11_topOf_154 ?_
    refine V_top (fun y32 ey32 => ?_)
    have hw := hw y32 ey32
    refine V_istore (lv1 := [(0, .ref (a 13)), (1, iv p0), (2, iv p1), (3, iv x3), (4, iv x4), (5, iv x5), (6, iv x6), (7, iv y27), (8, iv y29), (9, iv 1), (10, iv y32)]) X [1, 2, 3, 4, 5, 6, 7, 8, 9, 10, 0] dX11_topOf_155 (by decide) rfl ?_
    exact hJ157 _ _ _ _ _ _ _ _ _ hw
set_option maxHeartbeats 4000000 in
set_option maxRecDepth 100000 in
theorem wkh_X11_topOf_37 {p : Program} {l : Launch} {e : Env} {s : State} {m : MethodId} {args : Array Value} {below : List Frame} {meth : Method} {c : Code} {D : va_G} {g : GT} {A : Nat → Prop} {a : Nat → Nat} {b : Nat → Nat → Nat} (X : vC p s m args meth c D g A RX11 wsX11_topOf cX11_topOf 12) (hr : meth.sig.returnType = (some .int)) {p0 : Int} {p1 : Int} {x3 : Int} {x4 : Int} {x5 : Int} {x6 : Int} {M : Mem} {J37 : Int → Int → Int → Int → Mem → Prop} {J106 : Int → Int → Int → Int → Mem → Prop} {J157 : Int → Int → Int → Int → Int → Int → Int → Int → Mem → Prop} {Q : Int → Mem → Prop} (hJ37 : ∀ (x3 : Int) (x4 : Int) (x5 : Int) (x6 : Int) (M : Mem), J37 x3 x4 x5 x6 M → vV p l e ({ frames := 2, cells := 0, slots := 0, locals := 47 } : Room) s m args below meth c D g A a b 12 0 0 (MQ below (cQi D g A a b Q) args s 0 0 A) M [(0, .ref (a 13)), (1, iv p0), (2, iv p1), (3, iv x3), (4, iv x4), (5, iv x5), (6, iv x6)] 37 []) (hJ106 : ∀ (x3 : Int) (x4 : Int) (x5 : Int) (x6 : Int) (M : Mem), J106 x3 x4 x5 x6 M → vV p l e ({ frames := 2, cells := 0, slots := 0, locals := 47 } : Room) s m args below meth c D g A a b 12 0 0 (MQ below (cQi D g A a b Q) args s 0 0 A) M [(0, .ref (a 13)), (1, iv p0), (2, iv p1), (3, iv x3), (4, iv x4), (5, iv x5), (6, iv x6)] 106 []) (hJ157 : ∀ (x3 : Int) (x4 : Int) (x5 : Int) (x6 : Int) (x7 : Int) (x8 : Int) (x9 : Int) (x10 : Int) (M : Mem), J157 x3 x4 x5 x6 x7 x8 x9 x10 M → vV p l e ({ frames := 2, cells := 0, slots := 0, locals := 47 } : Room) s m args below meth c D g A a b 12 0 0 (MQ below (cQi D g A a b Q) args s 0 0 A) M [(0, .ref (a 13)), (1, iv p0), (2, iv p1), (3, iv x3), (4, iv x4), (5, iv x5), (6, iv x6), (7, iv x7), (8, iv x8), (9, iv x9), (10, iv x10)] 157 []) (hw : wph_X11_topOf_37 p0 p1 x3 x4 x5 x6 M J37 J106 J157 Q) : vV p l e ({ frames := 2, cells := 0, slots := 0, locals := 47 } : Room) s m args below meth c D g A a b 12 0 0 (MQ below (cQi D g A a b Q) args s 0 0 A) M [(0, .ref (a 13)), (1, iv p0), (2, iv p1), (3, iv x3), (4, iv x4), (5, iv x5), (6, iv x6)] 37 [] := by
  unfold wph_X11_topOf_37 at hw
  refine V_iload X dX11_topOf_37 (q := 6) rfl ?_
  refine V_iload X dX11_topOf_39 (q := 4) rfl ?_
  obtain ⟨h8, h9, hw⟩ := hw
  refine V_icmp_ge (tgt := 101) X h8 h9 dX11_topOf_41 (by decide) (fun q10 => ?_) (fun q10 => ?_)
  · have hw := hw.1 q10
    refine V_iload_n X dX11_topOf_101 rfl (q := 1) rfl ?_
    refine V_iconst X dX11_topOf_102 ?_
    refine V_iadd X dX11_topOf_103 ?_
    refine V_top (fun y11 ey11 => ?_)
    have hw := hw y11 ey11
    refine V_istore (lv1 := [(0, .ref (a 13)), (1, iv p0), (2, iv p1), (3, iv x3), (4, iv x4), (5, iv x5), (6, iv y11)]) X [1, 2, 3, 4, 5, 6, 0] dX11_topOf_104 (by decide) rfl ?_
    exact hJ106 _ _ _ _ _ hw
  · have hw := hw.2 q10
    refine V_iinc (lv1 := [(0, .ref (a 13)), (1, iv p0), (2, iv p1), (3, iv x3), (4, iv x4), (5, iv (x5 + 1)), (6, iv x6)]) X [1, 2, 3, 4, 5, 0, 6] dX11_topOf_44 (q := 5) rfl (by decide) rfl ?_
    refine V_aload_n X dX11_topOf_47 rfl (q := 0) rfl ?_
    refine V_get (C := RX11) (T := TX11) (N := 24) (ci := 11) X hi_X11_topOf_11 gO_13 rfl 22 (by decide) lk_X11_topOf_f69 (fun _ h9 => h9) rfl dX11_topOf_48 ?_
    refine V_iload X dX11_topOf_51 (q := 5) rfl ?_
    refine V_aload_n X dX11_topOf_53 rfl (q := 0) rfl ?_
    refine V_get (C := RX11) (T := TX11) (N := 24) (ci := 11) X hi_X11_topOf_11 gO_13 rfl 22 (by decide) lk_X11_topOf_f69 (fun _ h9 => h9) rfl dX11_topOf_54 ?_
    refine V_iload X dX11_topOf_57 (q := 5) rfl ?_
    refine V_iconst X dX11_topOf_59 ?_
    refine V_isub X dX11_topOf_60 ?_
    obtain ⟨h12, hw⟩ := hw
    refine V_iald X (gA_13_22) h12 (by decide) dX11_topOf_61 ?_
    refine V_aload_n X dX11_topOf_62 rfl (q := 0) rfl ?_
    refine V_iload X dX11_topOf_63 (q := 6) rfl ?_
    refine V_iload X dX11_topOf_65 (q := 6) rfl ?_
    refine V_aload_n X dX11_topOf_67 rfl (q := 0) rfl ?_
    refine V_get (C := RX11) (T := TX11) (N := 24) (ci := 11) X hi_X11_topOf_11 gO_13 rfl 4 (by decide) lk_X11_topOf_f22 (fun _ h9 => h9) rfl dX11_topOf_68 ?_
    refine V_bipush X dX11_topOf_71 rfl ?_
    refine V_iload X dX11_topOf_73 (q := 6) rfl ?_
    refine V_iadd X dX11_topOf_75 ?_
    obtain ⟨h13, hw⟩ := hw
    refine V_iald X (gA_13_4) h13 (by decide) dX11_topOf_76 ?_
    refine V_iadd X dX11_topOf_77 ?_
    refine V_callV_i X _ gO_13 rfl (As := [iv x6, iv (x6 + (M 13 4 (12 + x6).toNat))]) (st := [iv ((M 13 22 ((x5 + 1) - 1).toNat)), iv (x5 + 1), .ref (b 13 22)]) (c_X11_inserting l hw) (cwV 2 X.2.2.2.1 gX11_topOf_X11_inserting rfl rfl rfl (by decide +kernel) ⟨Nat.le_of_ble_eq_true rfl, Nat.le_of_ble_eq_true rfl⟩) rfl (Nat.le_of_ble_eq_true rfl) ⟨Nat.le_of_ble_eq_true rfl, Nat.le_of_ble_eq_true rfl⟩ rfl dX11_topOf_78 (fun y14 M15 hw => ?_)
    refine V_iadd X dX11_topOf_81 ?_
    obtain ⟨h17, hw⟩ := hw
    refine V_iast X (gA_13_22) (sA_13_22) h17 (by decide) dX11_topOf_82 (fun M16 eM16 => ?_)
    have hw := hw M16 eM16
    refine V_iload X dX11_topOf_83 (q := 6) rfl ?_
    refine V_aload_n X dX11_topOf_85 rfl (q := 0) rfl ?_
    refine V_get (C := RX11) (T := TX11) (N := 24) (ci := 11) X hi_X11_topOf_11 gO_13 rfl 4 (by decide) lk_X11_topOf_f22 (fun _ h9 => h9) rfl dX11_topOf_86 ?_
    refine V_bipush X dX11_topOf_89 rfl ?_
    refine V_iload X dX11_topOf_91 (q := 6) rfl ?_
    refine V_iadd X dX11_topOf_93 ?_
    obtain ⟨h18, hw⟩ := hw
    refine V_iald X (gA_13_4) h18 (by decide) dX11_topOf_94 ?_
    refine V_iadd X dX11_topOf_95 ?_
    refine V_top (fun y19 ey19 => ?_)
    have hw := hw y19 ey19
    refine V_istore (lv1 := [(0, .ref (a 13)), (1, iv p0), (2, iv p1), (3, iv x3), (4, iv x4), (5, iv (x5 + 1)), (6, iv y19)]) X [1, 2, 3, 4, 5, 6, 0] dX11_topOf_96 (by decide) rfl ?_
    refine V_goto (tgt := 37) X dX11_topOf_98 (by decide) ?_
    exact hJ37 _ _ _ _ _ hw
set_option maxHeartbeats 4000000 in
set_option maxRecDepth 100000 in
theorem wke_X11_topOf {p : Program} {l : Launch} {e : Env} {s : State} {m : MethodId} {args : Array Value} {below : List Frame} {meth : Method} {c : Code} {D : va_G} {g : GT} {A : Nat → Prop} {a : Nat → Nat} {b : Nat → Nat → Nat} (X : vC p s m args meth c D g A RX11 wsX11_topOf cX11_topOf 12) (hr : meth.sig.returnType = (some .int)) {p0 : Int} {p1 : Int} {M : Mem} {J37 : Int → Int → Int → Int → Mem → Prop} {J106 : Int → Int → Int → Int → Mem → Prop} {J157 : Int → Int → Int → Int → Int → Int → Int → Int → Mem → Prop} {Q : Int → Mem → Prop} (hJ37 : ∀ (x3 : Int) (x4 : Int) (x5 : Int) (x6 : Int) (M : Mem), J37 x3 x4 x5 x6 M → vV p l e ({ frames := 2, cells := 0, slots := 0, locals := 47 } : Room) s m args below meth c D g A a b 12 0 0 (MQ below (cQi D g A a b Q) args s 0 0 A) M [(0, .ref (a 13)), (1, iv p0), (2, iv p1), (3, iv x3), (4, iv x4), (5, iv x5), (6, iv x6)] 37 []) (hJ106 : ∀ (x3 : Int) (x4 : Int) (x5 : Int) (x6 : Int) (M : Mem), J106 x3 x4 x5 x6 M → vV p l e ({ frames := 2, cells := 0, slots := 0, locals := 47 } : Room) s m args below meth c D g A a b 12 0 0 (MQ below (cQi D g A a b Q) args s 0 0 A) M [(0, .ref (a 13)), (1, iv p0), (2, iv p1), (3, iv x3), (4, iv x4), (5, iv x5), (6, iv x6)] 106 []) (hJ157 : ∀ (x3 : Int) (x4 : Int) (x5 : Int) (x6 : Int) (x7 : Int) (x8 : Int) (x9 : Int) (x10 : Int) (M : Mem), J157 x3 x4 x5 x6 x7 x8 x9 x10 M → vV p l e ({ frames := 2, cells := 0, slots := 0, locals := 47 } : Room) s m args below meth c D g A a b 12 0 0 (MQ below (cQi D g A a b Q) args s 0 0 A) M [(0, .ref (a 13)), (1, iv p0), (2, iv p1), (3, iv x3), (4, iv x4), (5, iv x5), (6, iv x6), (7, iv x7), (8, iv x8), (9, iv x9), (10, iv x10)] 157 []) (hw : wpe_X11_topOf p0 p1 M J37 J106 J157 Q) : vV p l e ({ frames := 2, cells := 0, slots := 0, locals := 47 } : Room) s m args below meth c D g A a b 12 0 0 (MQ below (cQi D g A a b Q) args s 0 0 A) M [(0, .ref (a 13)), (1, iv p0), (2, iv p1)] 0 [] := by
  unfold wpe_X11_topOf at hw
  refine V_iload_n X dX11_topOf_0 rfl (q := 1) rfl ?_
  refine V_aload_n X dX11_topOf_1 rfl (q := 0) rfl ?_
  refine V_get (C := RX11) (T := TX11) (N := 24) (ci := 11) X hi_X11_topOf_11 gO_13 rfl 4 (by decide) lk_X11_topOf_f22 (fun _ h9 => h9) rfl dX11_topOf_2 ?_
  refine V_iload_n X dX11_topOf_5 rfl (q := 1) rfl ?_
  obtain ⟨h1, hw⟩ := hw
  refine V_iald X (gA_13_4) h1 (by decide) dX11_topOf_6 ?_
  refine V_iadd X dX11_topOf_7 ?_
  refine V_top (fun y2 ey2 => ?_)
  have hw := hw y2 ey2
  refine V_istore_n (lv1 := [(0, .ref (a 13)), (1, iv p0), (2, iv p1), (3, iv y2)]) X [1, 2, 3, 0] dX11_topOf_8 rfl (by decide) rfl ?_
  refine V_iload_n X dX11_topOf_9 rfl (q := 2) rfl ?_
  refine V_aload_n X dX11_topOf_10 rfl (q := 0) rfl ?_
  refine V_get (C := RX11) (T := TX11) (N := 24) (ci := 11) X hi_X11_topOf_11 gO_13 rfl 4 (by decide) lk_X11_topOf_f22 (fun _ h9 => h9) rfl dX11_topOf_11 ?_
  refine V_bipush X dX11_topOf_14 rfl ?_
  refine V_iload_n X dX11_topOf_16 rfl (q := 2) rfl ?_
  refine V_iadd X dX11_topOf_17 ?_
  obtain ⟨h3, hw⟩ := hw
  refine V_iald X (gA_13_4) h3 (by decide) dX11_topOf_18 ?_
  refine V_iadd X dX11_topOf_19 ?_
  refine V_top (fun y4 ey4 => ?_)
  have hw := hw y4 ey4
  refine V_istore (lv1 := [(0, .ref (a 13)), (1, iv p0), (2, iv p1), (3, iv y2), (4, iv y4)]) X [1, 2, 3, 4, 0] dX11_topOf_20 (by decide) rfl ?_
  refine V_aload_n X dX11_topOf_22 rfl (q := 0) rfl ?_
  refine V_get (C := RX11) (T := TX11) (N := 24) (ci := 11) X hi_X11_topOf_11 gO_13 rfl 22 (by decide) lk_X11_topOf_f69 (fun _ h9 => h9) rfl dX11_topOf_23 ?_
  refine V_iconst X dX11_topOf_26 ?_
  refine V_iconst X dX11_topOf_27 ?_
  refine V_iast X (gA_13_22) (sA_13_22) ⟨by decide, by decide⟩ (by decide) dX11_topOf_28 (fun M5 eM5 => ?_)
  have hw := hw M5 eM5
  refine V_iconst X dX11_topOf_29 ?_
  refine V_istore (lv1 := [(0, .ref (a 13)), (1, iv p0), (2, iv p1), (3, iv y2), (4, iv y4), (5, iv 0)]) X [1, 2, 3, 4, 5, 0] dX11_topOf_30 (by decide) rfl ?_
  refine V_iload_n X dX11_topOf_32 rfl (q := 2) rfl ?_
  refine V_iconst X dX11_topOf_33 ?_
  refine V_iadd X dX11_topOf_34 ?_
  refine V_top (fun y7 ey7 => ?_)
  have hw := hw y7 ey7
  refine V_istore (lv1 := [(0, .ref (a 13)), (1, iv p0), (2, iv p1), (3, iv y2), (4, iv y4), (5, iv 0), (6, iv y7)]) X [1, 2, 3, 4, 5, 6, 0] dX11_topOf_35 (by decide) rfl ?_
  exact hJ37 _ _ _ _ _ hw
set_option maxHeartbeats 4000000 in
set_option maxRecDepth 100000 in
theorem c_X11_topOf (l : Launch) {p0 : Int} {p1 : Int} {D : va_G} {g : GT} {A : Nat → Prop} {a : Nat → Nat} {b : Nat → Nat → Nat} {M : Mem} {Q : Int → Mem → Prop} (hw : wp_X11_topOf M p0 p1 Q) : Met l yX11_topOf wsX11_topOf ({ frames := 2, cells := 0, slots := 0, locals := 47 } : Room) (cPc D g A a b M [.ref (a 13), iv p0, iv p1]) (cQi D g A a b Q) 0 0 A := by
  refine Met.ofW (cc := cX11_topOf) (maxL := 12) (ret := (some .int)) (by decide) rfl ?_
  intro p e s m args below meth c s₁ B hml hv
  obtain ⟨rfl, hP, hD, hG⟩ := hv
  have X : vC p s m _ meth c D g A RX11 wsX11_topOf cX11_topOf 12 := ⟨B.exec, B.bytes, findClass_of_methodNamed B.named, atoms_spec (ws := wsX11_topOf) B.pre, hG, hml, B.notSynchronized⟩
  have hr := B.returns
  have hl := lv_entry ([.ref (a 13), iv p0, iv p1]) (n := 12) (Nat.le_of_ble_eq_true rfl)
  rw [lg_entry_eq]
  generalize (lg_sl ([.ref (a 13), iv p0, iv p1]) ++ List.replicate (12 - (lg_sl ([.ref (a 13), iv p0, iv p1])).length) Slot.unset).toArray = ls at hl ⊢
  have hl : lv_has ls 12 [(0, .ref (a 13)), (1, iv p0), (2, iv p1)] := hl
  obtain ⟨I37, I106, I157, hw, hI37, hI106, hI157⟩ := hw
  have K : ∀ n : Nat, (∀ (x3 : Int) (x4 : Int) (x5 : Int) (x6 : Int) (M : Mem), I37 n x3 x4 x5 x6 M → vV p l e ({ frames := 2, cells := 0, slots := 0, locals := 47 } : Room) s m ([.ref (a 13), iv p0, iv p1] : List Value).toArray below meth c D g A a b 12 0 0 (MQ below (cQi D g A a b Q) ([.ref (a 13), iv p0, iv p1] : List Value).toArray s 0 0 A) M [(0, .ref (a 13)), (1, iv p0), (2, iv p1), (3, iv x3), (4, iv x4), (5, iv x5), (6, iv x6)] 37 []) ∧ (∀ (x3 : Int) (x4 : Int) (x5 : Int) (x6 : Int) (M : Mem), I106 n x3 x4 x5 x6 M → vV p l e ({ frames := 2, cells := 0, slots := 0, locals := 47 } : Room) s m ([.ref (a 13), iv p0, iv p1] : List Value).toArray below meth c D g A a b 12 0 0 (MQ below (cQi D g A a b Q) ([.ref (a 13), iv p0, iv p1] : List Value).toArray s 0 0 A) M [(0, .ref (a 13)), (1, iv p0), (2, iv p1), (3, iv x3), (4, iv x4), (5, iv x5), (6, iv x6)] 106 []) ∧ (∀ (x3 : Int) (x4 : Int) (x5 : Int) (x6 : Int) (x7 : Int) (x8 : Int) (x9 : Int) (x10 : Int) (M : Mem), I157 n x3 x4 x5 x6 x7 x8 x9 x10 M → vV p l e ({ frames := 2, cells := 0, slots := 0, locals := 47 } : Room) s m ([.ref (a 13), iv p0, iv p1] : List Value).toArray below meth c D g A a b 12 0 0 (MQ below (cQi D g A a b Q) ([.ref (a 13), iv p0, iv p1] : List Value).toArray s 0 0 A) M [(0, .ref (a 13)), (1, iv p0), (2, iv p1), (3, iv x3), (4, iv x4), (5, iv x5), (6, iv x6), (7, iv x7), (8, iv x8), (9, iv x9), (10, iv x10)] 157 []) := by
    intro n
    induction n using Nat.strongRecOn with
    | ind n ih =>
      exact ⟨fun x3 x4 x5 x6 M hh => wkh_X11_topOf_37 X hr (fun _ _ _ _ _ ⟨n1, hn, hh⟩ => (ih n1 hn).1 _ _ _ _ _ hh) (fun _ _ _ _ _ ⟨n1, hn, hh⟩ => (ih n1 hn).2.1 _ _ _ _ _ hh) (fun _ _ _ _ _ _ _ _ _ ⟨n1, hn, hh⟩ => (ih n1 hn).2.2 _ _ _ _ _ _ _ _ _ hh) (hI37 n x3 x4 x5 x6 M hh), fun x3 x4 x5 x6 M hh => wkh_X11_topOf_106 X hr (fun _ _ _ _ _ ⟨n1, hn, hh⟩ => (ih n1 hn).1 _ _ _ _ _ hh) (fun _ _ _ _ _ ⟨n1, hn, hh⟩ => (ih n1 hn).2.1 _ _ _ _ _ hh) (fun _ _ _ _ _ _ _ _ _ ⟨n1, hn, hh⟩ => (ih n1 hn).2.2 _ _ _ _ _ _ _ _ _ hh) (hI106 n x3 x4 x5 x6 M hh), fun x3 x4 x5 x6 x7 x8 x9 x10 M hh => wkh_X11_topOf_157 X hr (fun _ _ _ _ _ ⟨n1, hn, hh⟩ => (ih n1 hn).1 _ _ _ _ _ hh) (fun _ _ _ _ _ ⟨n1, hn, hh⟩ => (ih n1 hn).2.1 _ _ _ _ _ hh) (fun _ _ _ _ _ _ _ _ _ ⟨n1, hn, hh⟩ => (ih n1 hn).2.2 _ _ _ _ _ _ _ _ _ hh) (hI157 n x3 x4 x5 x6 x7 x8 x9 x10 M hh)⟩
  exact wke_X11_topOf X hr  (fun _ _ _ _ _ ⟨n1, hh⟩ => (K n1).1 _ _ _ _ _ hh) (fun _ _ _ _ _ ⟨n1, hh⟩ => (K n1).2.1 _ _ _ _ _ hh) (fun _ _ _ _ _ _ _ _ _ ⟨n1, hh⟩ => (K n1).2.2 _ _ _ _ _ _ _ _ _ hh) hw s.heap [] ls hP hD va_S.rf hl
