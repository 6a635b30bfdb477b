set_option maxRecDepth 20000 in
theorem ggX11_travels_X11_canMove : GoodIn wsX11_travels wsX11_canMove := goodIn_r _ [10, 5, 4, 11, 1, 12, 13, 14, 15, 9, 16, 17, 18, 19, 20, 21, 22, 23, 24, 25, 26, 27, 28, 29, 30, 31, 32, 33, 34, 35, 36, 37, 38, 39, 40, 41, 42, 43, 44, 45, 46, 47, 48, 49, 50, 51, 52, 53, 54, 55, 56] (by decide +kernel) (by decide +kernel)
set_option maxRecDepth 20000 in
theorem gX11_travels_X11_canMove : GoodIn wsX11_travels (wsV RX11 201 RX11 yX11_canMove wsX11_canMove) := goodIn_app (goodIn_of _ (by decide +kernel)) ggX11_travels_X11_canMove
set_option maxRecDepth 20000 in
theorem ggX11_travels_X11_deletingAll : GoodIn wsX11_travels wsX11_deletingAll := goodIn_r _ [23, 24, 25, 26, 9, 27, 28, 17, 33, 34, 35, 36, 37, 38, 39, 40, 41, 42, 43, 44, 45, 46, 47, 48, 49, 50, 51, 52, 53, 54, 55, 56] (by decide +kernel) (by decide +kernel)
set_option maxRecDepth 20000 in
theorem gX11_travels_X11_deletingAll : GoodIn wsX11_travels (wsV RX11 150 RX11 yX11_deletingAll wsX11_deletingAll) := goodIn_app (goodIn_of _ (by decide +kernel)) ggX11_travels_X11_deletingAll
set_option maxRecDepth 20000 in
theorem ggX11_travels_X11_inserting : GoodIn wsX11_travels wsX11_inserting := goodIn_r _ [32, 24, 25, 26, 9, 27, 28, 17, 33, 34, 35, 36, 37, 38, 39, 40, 41, 42, 43, 44, 45, 46, 47, 48, 49, 50, 51, 52, 53, 54, 55, 56] (by decide +kernel) (by decide +kernel)
set_option maxRecDepth 20000 in
theorem gX11_travels_X11_inserting : GoodIn wsX11_travels (wsV RX11 147 RX11 yX11_inserting wsX11_inserting) := goodIn_app (goodIn_of _ (by decide +kernel)) ggX11_travels_X11_inserting
theorem dX11_travels_0 : decode cX11_travels 0 = .ok (.iload_n 1, 1) := by decide +kernel
theorem dX11_travels_1 : decode cX11_travels 1 = .ok (.istore_n 2, 1) := by decide +kernel
theorem dX11_travels_2 : decode cX11_travels 2 = .ok (.iconst 0, 1) := by decide +kernel
theorem dX11_travels_3 : decode cX11_travels 3 = .ok (.istore_n 3, 1) := by decide +kernel
theorem dX11_travels_4 : decode cX11_travels 4 = .ok (.iload_n 3, 1) := by decide +kernel
theorem dX11_travels_5 : decode cX11_travels 5 = .ok (.bipush 12, 2) := by decide +kernel
theorem dX11_travels_7 : decode cX11_travels 7 = .ok (.if_icmp .ge 23, 3) := by decide +kernel
theorem dX11_travels_10 : decode cX11_travels 10 = .ok (.aload_n 0, 1) := by decide +kernel
theorem dX11_travels_11 : decode cX11_travels 11 = .ok (.getfield 48, 3) := by decide +kernel
theorem dX11_travels_14 : decode cX11_travels 14 = .ok (.iload_n 3, 1) := by decide +kernel
theorem dX11_travels_15 : decode cX11_travels 15 = .ok (.iconst 0, 1) := by decide +kernel
theorem dX11_travels_16 : decode cX11_travels 16 = .ok (.bastore, 1) := by decide +kernel
theorem dX11_travels_17 : decode cX11_travels 17 = .ok (.aload_n 0, 1) := by decide +kernel
theorem dX11_travels_18 : decode cX11_travels 18 = .ok (.getfield 41, 3) := by decide +kernel
theorem dX11_travels_21 : decode cX11_travels 21 = .ok (.iload_n 3, 1) := by decide +kernel
theorem dX11_travels_22 : decode cX11_travels 22 = .ok (.iconst (-1), 1) := by decide +kernel
theorem dX11_travels_23 : decode cX11_travels 23 = .ok (.iastore, 1) := by decide +kernel
theorem dX11_travels_24 : decode cX11_travels 24 = .ok (.iinc 3 1, 3) := by decide +kernel
theorem dX11_travels_27 : decode cX11_travels 27 = .ok (.goto (-23), 3) := by decide +kernel
theorem dX11_travels_30 : decode cX11_travels 30 = .ok (.iconst 0, 1) := by decide +kernel
theorem dX11_travels_31 : decode cX11_travels 31 = .ok (.istore_n 3, 1) := by decide +kernel
theorem dX11_travels_32 : decode cX11_travels 32 = .ok (.iload_n 3, 1) := by decide +kernel
theorem dX11_travels_33 : decode cX11_travels 33 = .ok (.aload_n 0, 1) := by decide +kernel
theorem dX11_travels_34 : decode cX11_travels 34 = .ok (.getfield 25, 3) := by decide +kernel
theorem dX11_travels_37 : decode cX11_travels 37 = .ok (.iconst 0, 1) := by decide +kernel
theorem dX11_travels_38 : decode cX11_travels 38 = .ok (.iaload, 1) := by decide +kernel
theorem dX11_travels_39 : decode cX11_travels 39 = .ok (.if_icmp .ge 161, 3) := by decide +kernel
theorem dX11_travels_42 : decode cX11_travels 42 = .ok (.iconst 0, 1) := by decide +kernel
theorem dX11_travels_43 : decode cX11_travels 43 = .ok (.istore 4, 2) := by decide +kernel
theorem dX11_travels_45 : decode cX11_travels 45 = .ok (.iload 4, 2) := by decide +kernel
theorem dX11_travels_47 : decode cX11_travels 47 = .ok (.aload_n 0, 1) := by decide +kernel
theorem dX11_travels_48 : decode cX11_travels 48 = .ok (.getfield 25, 3) := by decide +kernel
theorem dX11_travels_51 : decode cX11_travels 51 = .ok (.iconst 1, 1) := by decide +kernel
theorem dX11_travels_52 : decode cX11_travels 52 = .ok (.iaload, 1) := by decide +kernel
theorem dX11_travels_53 : decode cX11_travels 53 = .ok (.if_icmp .ge 38, 3) := by decide +kernel
theorem dX11_travels_56 : decode cX11_travels 56 = .ok (.aload_n 0, 1) := by decide +kernel
theorem dX11_travels_57 : decode cX11_travels 57 = .ok (.getfield 22, 3) := by decide +kernel
theorem dX11_travels_60 : decode cX11_travels 60 = .ok (.iload_n 3, 1) := by decide +kernel
theorem dX11_travels_61 : decode cX11_travels 61 = .ok (.iaload, 1) := by decide +kernel
theorem dX11_travels_62 : decode cX11_travels 62 = .ok (.aload_n 0, 1) := by decide +kernel
theorem dX11_travels_63 : decode cX11_travels 63 = .ok (.getfield 22, 3) := by decide +kernel
theorem dX11_travels_66 : decode cX11_travels 66 = .ok (.bipush 12, 2) := by decide +kernel
theorem dX11_travels_68 : decode cX11_travels 68 = .ok (.iload 4, 2) := by decide +kernel
theorem dX11_travels_70 : decode cX11_travels 70 = .ok (.iadd, 1) := by decide +kernel
theorem dX11_travels_71 : decode cX11_travels 71 = .ok (.iaload, 1) := by decide +kernel
theorem dX11_travels_72 : decode cX11_travels 72 = .ok (.if_icmp .ne 13, 3) := by decide +kernel
theorem dX11_travels_75 : decode cX11_travels 75 = .ok (.aload_n 0, 1) := by decide +kernel
theorem dX11_travels_76 : decode cX11_travels 76 = .ok (.iload_n 3, 1) := by decide +kernel
theorem dX11_travels_77 : decode cX11_travels 77 = .ok (.iload 4, 2) := by decide +kernel
theorem dX11_travels_79 : decode cX11_travels 79 = .ok (.invokevirtual 201, 3) := by decide +kernel
theorem dX11_travels_82 : decode cX11_travels 82 = .ok (.ifCond .ne 9, 3) := by decide +kernel
theorem dX11_travels_85 : decode cX11_travels 85 = .ok (.iinc 4 1, 3) := by decide +kernel
theorem dX11_travels_88 : decode cX11_travels 88 = .ok (.goto (-43), 3) := by decide +kernel
theorem dX11_travels_91 : decode cX11_travels 91 = .ok (.iload 4, 2) := by decide +kernel
theorem dX11_travels_93 : decode cX11_travels 93 = .ok (.aload_n 0, 1) := by decide +kernel
theorem dX11_travels_94 : decode cX11_travels 94 = .ok (.getfield 25, 3) := by decide +kernel
theorem dX11_travels_97 : decode cX11_travels 97 = .ok (.iconst 1, 1) := by decide +kernel
theorem dX11_travels_98 : decode cX11_travels 98 = .ok (.iaload, 1) := by decide +kernel
theorem dX11_travels_99 : decode cX11_travels 99 = .ok (.if_icmp .ge 95, 3) := by decide +kernel
theorem dX11_travels_102 : decode cX11_travels 102 = .ok (.aload_n 0, 1) := by decide +kernel
theorem dX11_travels_103 : decode cX11_travels 103 = .ok (.getfield 41, 3) := by decide +kernel
theorem dX11_travels_106 : decode cX11_travels 106 = .ok (.iload_n 3, 1) := by decide +kernel
theorem dX11_travels_107 : decode cX11_travels 107 = .ok (.iload 4, 2) := by decide +kernel
theorem dX11_travels_109 : decode cX11_travels 109 = .ok (.iastore, 1) := by decide +kernel
theorem dX11_travels_110 : decode cX11_travels 110 = .ok (.iconst 0, 1) := by decide +kernel
theorem dX11_travels_111 : decode cX11_travels 111 = .ok (.istore 5, 2) := by decide +kernel
theorem dX11_travels_113 : decode cX11_travels 113 = .ok (.iload 5, 2) := by decide +kernel
theorem dX11_travels_115 : decode cX11_travels 115 = .ok (.aload_n 0, 1) := by decide +kernel
theorem dX11_travels_116 : decode cX11_travels 116 = .ok (.getfield 22, 3) := by decide +kernel
theorem dX11_travels_119 : decode cX11_travels 119 = .ok (.iload_n 3, 1) := by decide +kernel
theorem dX11_travels_120 : decode cX11_travels 120 = .ok (.iaload, 1) := by decide +kernel
theorem dX11_travels_121 : decode cX11_travels 121 = .ok (.if_icmp .ge 20, 3) := by decide +kernel
theorem dX11_travels_124 : decode cX11_travels 124 = .ok (.aload_n 0, 1) := by decide +kernel
theorem dX11_travels_125 : decode cX11_travels 125 = .ok (.getfield 48, 3) := by decide +kernel
theorem dX11_travels_128 : decode cX11_travels 128 = .ok (.iload 4, 2) := by decide +kernel
theorem dX11_travels_130 : decode cX11_travels 130 = .ok (.iload 5, 2) := by decide +kernel
theorem dX11_travels_132 : decode cX11_travels 132 = .ok (.iadd, 1) := by decide +kernel
theorem dX11_travels_133 : decode cX11_travels 133 = .ok (.iconst 1, 1) := by decide +kernel
theorem dX11_travels_134 : decode cX11_travels 134 = .ok (.bastore, 1) := by decide +kernel
theorem dX11_travels_135 : decode cX11_travels 135 = .ok (.iinc 5 1, 3) := by decide +kernel
theorem dX11_travels_138 : decode cX11_travels 138 = .ok (.goto (-25), 3) := by decide +kernel
theorem dX11_travels_141 : decode cX11_travels 141 = .ok (.iload_n 2, 1) := by decide +kernel
theorem dX11_travels_142 : decode cX11_travels 142 = .ok (.aload_n 0, 1) := by decide +kernel
theorem dX11_travels_143 : decode cX11_travels 143 = .ok (.getfield 31, 3) := by decide +kernel
theorem dX11_travels_146 : decode cX11_travels 146 = .ok (.aload_n 0, 1) := by decide +kernel
theorem dX11_travels_147 : decode cX11_travels 147 = .ok (.iload_n 3, 1) := by decide +kernel
theorem dX11_travels_148 : decode cX11_travels 148 = .ok (.iload_n 3, 1) := by decide +kernel
theorem dX11_travels_149 : decode cX11_travels 149 = .ok (.aload_n 0, 1) := by decide +kernel
theorem dX11_travels_150 : decode cX11_travels 150 = .ok (.getfield 22, 3) := by decide +kernel
theorem dX11_travels_153 : decode cX11_travels 153 = .ok (.iload_n 3, 1) := by decide +kernel
theorem dX11_travels_154 : decode cX11_travels 154 = .ok (.iaload, 1) := by decide +kernel
theorem dX11_travels_155 : decode cX11_travels 155 = .ok (.iadd, 1) := by decide +kernel
theorem dX11_travels_156 : decode cX11_travels 156 = .ok (.invokevirtual 150, 3) := by decide +kernel
theorem dX11_travels_159 : decode cX11_travels 159 = .ok (.isub, 1) := by decide +kernel
theorem dX11_travels_160 : decode cX11_travels 160 = .ok (.aload_n 0, 1) := by decide +kernel
theorem dX11_travels_161 : decode cX11_travels 161 = .ok (.iload 4, 2) := by decide +kernel
theorem dX11_travels_163 : decode cX11_travels 163 = .ok (.iload 4, 2) := by decide +kernel
theorem dX11_travels_165 : decode cX11_travels 165 = .ok (.aload_n 0, 1) := by decide +kernel
theorem dX11_travels_166 : decode cX11_travels 166 = .ok (.getfield 22, 3) := by decide +kernel
theorem dX11_travels_169 : decode cX11_travels 169 = .ok (.bipush 12, 2) := by decide +kernel
theorem dX11_travels_171 : decode cX11_travels 171 = .ok (.iload 4, 2) := by decide +kernel
theorem dX11_travels_173 : decode cX11_travels 173 = .ok (.iadd, 1) := by decide +kernel
theorem dX11_travels_174 : decode cX11_travels 174 = .ok (.iaload, 1) := by decide +kernel
theorem dX11_travels_175 : decode cX11_travels 175 = .ok (.iadd, 1) := by decide +kernel
theorem dX11_travels_176 : decode cX11_travels 176 = .ok (.invokevirtual 147, 3) := by decide +kernel
theorem dX11_travels_179 : decode cX11_travels 179 = .ok (.isub, 1) := by decide +kernel
theorem dX11_travels_180 : decode cX11_travels 180 = .ok (.iadd, 1) := by decide +kernel
theorem dX11_travels_181 : decode cX11_travels 181 = .ok (.istore_n 2, 1) := by decide +kernel
theorem dX11_travels_182 : decode cX11_travels 182 = .ok (.iload_n 3, 1) := by decide +kernel
theorem dX11_travels_183 : decode cX11_travels 183 = .ok (.aload_n 0, 1) := by decide +kernel
theorem dX11_travels_184 : decode cX11_travels 184 = .ok (.getfield 22, 3) := by decide +kernel
theorem dX11_travels_187 : decode cX11_travels 187 = .ok (.iload_n 3, 1) := by decide +kernel
theorem dX11_travels_188 : decode cX11_travels 188 = .ok (.iaload, 1) := by decide +kernel
theorem dX11_travels_189 : decode cX11_travels 189 = .ok (.iadd, 1) := by decide +kernel
theorem dX11_travels_190 : decode cX11_travels 190 = .ok (.istore_n 3, 1) := by decide +kernel
theorem dX11_travels_191 : decode cX11_travels 191 = .ok (.goto 6, 3) := by decide +kernel
theorem dX11_travels_194 : decode cX11_travels 194 = .ok (.iinc 3 1, 3) := by decide +kernel
theorem dX11_travels_197 : decode cX11_travels 197 = .ok (.goto (-165), 3) := by decide +kernel
theorem dX11_travels_200 : decode cX11_travels 200 = .ok (.iload_n 2, 1) := by decide +kernel
theorem dX11_travels_201 : decode cX11_travels 201 = .ok (.ireturn, 1) := by decide +kernel
theorem lk_X11_travels_f48 : Cond.fieldLink RX11 48 "TreeComparerModel" "taken" "[Z" ∈ wsX11_travels := by decide +kernel
theorem hi_X11_travels_11 : ∀ w ∈ u_ws RX11 TX11 24, w ∈ wsX11_travels := by decide +kernel
theorem lk_X11_travels_f41 : Cond.fieldLink RX11 41 "TreeComparerModel" "moved" "[I" ∈ wsX11_travels := by decide +kernel
theorem lk_X11_travels_f25 : Cond.fieldLink RX11 25 "TreeComparerModel" "many" "[I" ∈ wsX11_travels := by decide +kernel
theorem lk_X11_travels_f22 : Cond.fieldLink RX11 22 "TreeComparerModel" "size" "[I" ∈ wsX11_travels := by decide +kernel
theorem lk_X11_travels_f31 : Cond.fieldLink RX11 31 "TreeComparerModel" "movePrice" "I" ∈ wsX11_travels := by decide +kernel
def wpj_X11_travels_197 (p0 : Int) (x2 : Int) (x3 : Int) (M : Mem) (J4 : Int → Int → Mem → Prop) (J32 : Int → Int → Mem → Prop) (J45 : Int → Int → Int → Mem → Prop) (J113 : Int → Int → Int → Int → Mem → Prop) (Q : Int → Mem → Prop) : Prop := J32 x2 x3 M
def wph_X11_travels_113 (p0 : Int) (x2 : Int) (x3 : Int) (x4 : Int) (x5 : Int) (M : Mem) (J4 : Int → Int → Mem → Prop) (J32 : Int → Int → Mem → Prop) (J45 : Int → Int → Int → Mem → Prop) (J113 : Int → Int → Int → Int → Mem → Prop) (Q : Int → Mem → Prop) : Prop := ((0 : Int) ≤ x3 ∧ x3 < 24) ∧ inR x5 ∧ inR (M 13 4 x3.toNat) ∧ (((M 13 4 x3.toNat) ≤ x5 → ((0 : Int) ≤ x3 ∧ x3 < 24) ∧ wp_X11_deletingAll M x3 (x3 + (M 13 4 x3.toNat)) (fun y32 M33 => ((0 : Int) ≤ 12 + x4 ∧ 12 + x4 < 24) ∧ wp_X11_inserting M33 x4 (x4 + (M33 13 4 (12 + x4).toNat)) (fun y35 M36 => (∀ y37 : Int, y37 = x2 + (((M 13 7 0) - y32) - y35) → ((0 : Int) ≤ x3 ∧ x3 < 24) ∧ (∀ y39 : Int, y39 = x3 + (M36 13 4 x3.toNat) → wpj_X11_travels_197 p0 y37 y39 M36 J4 J32 J45 J113 Q))))) ∧ (¬ ((M 13 4 x3.toNat) ≤ x5) → ((0 : Int) ≤ x4 + x5 ∧ x4 + x5 < 12) ∧ (∀ M40 : Mem, M40 = mset M 13 12 (x4 + x5).toNat 1 → J113 x2 x3 x4 (x5 + 1) M40)))
def wpj_X11_travels_91 (p0 : Int) (x2 : Int) (x3 : Int) (x4 : Int) (M : Mem) (J4 : Int → Int → Mem → Prop) (J32 : Int → Int → Mem → Prop) (J45 : Int → Int → Int → Mem → Prop) (J113 : Int → Int → Int → Int → Mem → Prop) (Q : Int → Mem → Prop) : Prop := inR x4 ∧ inR (M 13 5 1) ∧ (((M 13 5 1) ≤ x4 → wpj_X11_travels_197 p0 x2 (x3 + 1) M J4 J32 J45 J113 Q) ∧ (¬ ((M 13 5 1) ≤ x4) → ((0 : Int) ≤ x3 ∧ x3 < 12) ∧ (∀ M25 : Mem, M25 = mset M 13 10 x3.toNat x4 → J113 x2 x3 x4 0 M25)))
def wpj_X11_travels_85 (p0 : Int) (x2 : Int) (x3 : Int) (x4 : Int) (M : Mem) (J4 : Int → Int → Mem → Prop) (J32 : Int → Int → Mem → Prop) (J45 : Int → Int → Int → Mem → Prop) (J113 : Int → Int → Int → Int → Mem → Prop) (Q : Int → Mem → Prop) : Prop := J45 x2 x3 (x4 + 1) M
def wph_X11_travels_45 (p0 : Int) (x2 : Int) (x3 : Int) (x4 : Int) (M : Mem) (J4 : Int → Int → Mem → Prop) (J32 : Int → Int → Mem → Prop) (J45 : Int → Int → Int → Mem → Prop) (J113 : Int → Int → Int → Int → Mem → Prop) (Q : Int → Mem → Prop) : Prop := inR x4 ∧ inR (M 13 5 1) ∧ (((M 13 5 1) ≤ x4 → wpj_X11_travels_91 p0 x2 x3 x4 M J4 J32 J45 J113 Q) ∧ (¬ ((M 13 5 1) ≤ x4) → ((0 : Int) ≤ x3 ∧ x3 < 24) ∧ ((0 : Int) ≤ 12 + x4 ∧ 12 + x4 < 24) ∧ inR (M 13 4 x3.toNat) ∧ inR (M 13 4 (12 + x4).toNat) ∧ (((M 13 4 x3.toNat) ≠ (M 13 4 (12 + x4).toNat) → wpj_X11_travels_85 p0 x2 x3 x4 M J4 J32 J45 J113 Q) ∧ (¬ ((M 13 4 x3.toNat) ≠ (M 13 4 (12 + x4).toNat)) → wp_X11_canMove M x3 x4 (fun y18 M19 => inR y18 ∧ ((y18 ≠ 0 → wpj_X11_travels_91 p0 x2 x3 x4 M19 J4 J32 J45 J113 Q) ∧ (¬ (y18 ≠ 0) → wpj_X11_travels_85 p0 x2 x3 x4 M19 J4 J32 J45 J113 Q)))))))
def wph_X11_travels_32 (p0 : Int) (x2 : Int) (x3 : Int) (M : Mem) (J4 : Int → Int → Mem → Prop) (J32 : Int → Int → Mem → Prop) (J45 : Int → Int → Int → Mem → Prop) (J113 : Int → Int → Int → Int → Mem → Prop) (Q : Int → Mem → Prop) : Prop := inR x3 ∧ inR (M 13 5 0) ∧ (((M 13 5 0) ≤ x3 → Q x2 M) ∧ (¬ ((M 13 5 0) ≤ x3) → J45 x2 x3 0 M))
def wph_X11_travels_4 (p0 : Int) (x2 : Int) (x3 : Int) (M : Mem) (J4 : Int → Int → Mem → Prop) (J32 : Int → Int → Mem → Prop) (J45 : Int → Int → Int → Mem → Prop) (J113 : Int → Int → Int → Int → Mem → Prop) (Q : Int → Mem → Prop) : Prop := inR x3 ∧ ((12 ≤ x3 → J32 x2 0 M) ∧ (¬ (12 ≤ x3) → ((0 : Int) ≤ x3 ∧ x3 < 12) ∧ (∀ M3 : Mem, M3 = mset M 13 12 x3.toNat 0 → ((0 : Int) ≤ x3 ∧ x3 < 12) ∧ (∀ M5 : Mem, M5 = mset M3 13 10 x3.toNat (-1) → J4 x2 (x3 + 1) M5))))
def wpe_X11_travels (p0 : Int) (M : Mem) (J4 : Int → Int → Mem → Prop) (J32 : Int → Int → Mem → Prop) (J45 : Int → Int → Int → Mem → Prop) (J113 : Int → Int → Int → Int → Mem → Prop) (Q : Int → Mem → Prop) : Prop := J4 p0 0 M
def wp_X11_travels (M : Mem) (p0 : Int) (Q : Int → Mem → Prop) : Prop := ∃ (I4 : Nat → Int → Int → Mem → Prop) (I32 : Nat → Int → Int → Mem → Prop) (I45 : Nat → Int → Int → Int → Mem → Prop) (I113 : Nat → Int → Int → Int → Int → Mem → Prop), wpe_X11_travels p0 M (fun (x2 : Int) (x3 : Int) (M1 : Mem) => ∃ n1 : Nat, I4 n1 x2 x3 M1) (fun (x2 : Int) (x3 : Int) (M1 : Mem) => ∃ n1 : Nat, I32 n1 x2 x3 M1) (fun (x2 : Int) (x3 : Int) (x4 : Int) (M1 : Mem) => ∃ n1 : Nat, I45 n1 x2 x3 x4 M1) (fun (x2 : Int) (x3 : Int) (x4 : Int) (x5 : Int) (M1 : Mem) => ∃ n1 : Nat, I113 n1 x2 x3 x4 x5 M1) Q ∧ (∀ (n : Nat) (x2 : Int) (x3 : Int) (M : Mem), I4 n x2 x3 M → wph_X11_travels_4 p0 x2 x3 M (fun (x2 : Int) (x3 : Int) (M1 : Mem) => ∃ n1 : Nat, n1 < n ∧ I4 n1 x2 x3 M1) (fun (x2 : Int) (x3 : Int) (M1 : Mem) => ∃ n1 : Nat, n1 < n ∧ I32 n1 x2 x3 M1) (fun (x2 : Int) (x3 : Int) (x4 : Int) (M1 : Mem) => ∃ n1 : Nat, n1 < n ∧ I45 n1 x2 x3 x4 M1) (fun (x2 : Int) (x3 : Int) (x4 : Int) (x5 : Int) (M1 : Mem) => ∃ n1 : Nat, n1 < n ∧ I113 n1 x2 x3 x4 x5 M1) Q) ∧ (∀ (n : Nat) (x2 : Int) (x3 : Int) (M : Mem), I32 n x2 x3 M → wph_X11_travels_32 p0 x2 x3 M (fun (x2 : Int) (x3 : Int) (M1 : Mem) => ∃ n1 : Nat, n1 < n ∧ I4 n1 x2 x3 M1) (fun (x2 : Int) (x3 : Int) (M1 : Mem) => ∃ n1 : Nat, n1 < n ∧ I32 n1 x2 x3 M1) (fun (x2 : Int) (x3 : Int) (x4 : Int) (M1 : Mem) => ∃ n1 : Nat, n1 < n ∧ I45 n1 x2 x3 x4 M1) (fun (x2 : Int) (x3 : Int) (x4 : Int) (x5 : Int) (M1 : Mem) => ∃ n1 : Nat, n1 < n ∧ I113 n1 x2 x3 x4 x5 M1) Q) ∧ (∀ (n : Nat) (x2 : Int) (x3 : Int) (x4 : Int) (M : Mem), I45 n x2 x3 x4 M → wph_X11_travels_45 p0 x2 x3 x4 M (fun (x2 : Int) (x3 : Int) (M1 : Mem) => ∃ n1 : Nat, n1 < n ∧ I4 n1 x2 x3 M1) (fun (x2 : Int) (x3 : Int) (M1 : Mem) => ∃ n1 : Nat, n1 < n ∧ I32 n1 x2 x3 M1) (fun (x2 : Int) (x3 : Int) (x4 : Int) (M1 : Mem) => ∃ n1 : Nat, n1 < n ∧ I45 n1 x2 x3 x4 M1) (fun (x2 : Int) (x3 : Int) (x4 : Int) (x5 : Int) (M1 : Mem) => ∃ n1 : Nat, n1 < n ∧ I113 n1 x2 x3 x4 x5 M1) Q) ∧ (∀ (n : Nat) (x2 : Int) (x3 : Int) (x4 : Int) (x5 : Int) (M : Mem), I113 n x2 x3 x4 x5 M → wph_X11_travels_113 p0 x2 x3 x4 x5 M (fun (x2 : Int) (x3 : Int) (M1 : Mem) => ∃ n1 : Nat, n1 < n ∧ I4 n1 x2 x3 M1) (fun (x2 : Int) (x3 : Int) (M1 : Mem) => ∃ n1 : Nat, n1 < n ∧ I32 n1 x2 x3 M1) (fun (x2 : Int) (x3 : Int) (x4 : Int) (M1 : Mem) => ∃ n1 : Nat, n1 < n ∧ I45 n1 x2 x3 x4 M1) (fun (x2 : Int) (x3 : Int) (x4 : Int) (x5 : Int) (M1 : Mem) => ∃ n1 : Nat, n1 < n ∧ I113 n1 x2 x3 x4 x5 M1) Q)
set_option maxHeartbeats 4000000 in
set_option maxRecDepth 100000 in
theorem wkj_X11_travels_197 {p : Program} {l : Launch} {e : Env} {s : State} {m : MethodId} {args : Array Value} {below : List Frame} {meth : Method} {c : Code} {D : va_G} {g : GT} {A : Nat → Prop} {a : Nat → Nat} {b : Nat → Nat → Nat} (X : vC p s m args meth c D g A RX11 wsX11_travels cX11_travels 6) (hr : meth.sig.returnType = (some .int)) {p0 : Int} {x2 : Int} {x3 : Int} {M : Mem} {J4 : Int → Int → Mem → Prop} {J32 : Int → Int → Mem → Prop} {J45 : Int → Int → Int → Mem → Prop} {J113 : Int → Int → Int → Int → Mem → Prop} {Q : Int → Mem → Prop} (hJ4 : ∀ (x2 : Int) (x3 : Int) (M : Mem), J4 x2 x3 M → vV p l e ({ frames := 3, cells := 0, slots := 0, locals := 71 } : Room) s m args below meth c D g A a b 6 0 0 (MQ below (cQi D g A a b Q) args s 0 0 A) M [(0, .ref (a 13)), (2, iv x2), (3, iv x3)] 4 []) (hJ32 : ∀ (x2 : Int) (x3 : Int) (M : Mem), J32 x2 x3 M → vV p l e ({ frames := 3, cells := 0, slots := 0, locals := 71 } : Room) s m args below meth c D g A a b 6 0 0 (MQ below (cQi D g A a b Q) args s 0 0 A) M [(0, .ref (a 13)), (2, iv x2), (3, iv x3)] 32 []) (hJ45 : ∀ (x2 : Int) (x3 : Int) (x4 : Int) (M : Mem), J45 x2 x3 x4 M → vV p l e ({ frames := 3, cells := 0, slots := 0, locals := 71 } : Room) s m args below meth c D g A a b 6 0 0 (MQ below (cQi D g A a b Q) args s 0 0 A) M [(0, .ref (a 13)), (2, iv x2), (3, iv x3), (4, iv x4)] 45 []) (hJ113 : ∀ (x2 : Int) (x3 : Int) (x4 : Int) (x5 : Int) (M : Mem), J113 x2 x3 x4 x5 M → vV p l e ({ frames := 3, cells := 0, slots := 0, locals := 71 } : Room) s m args below meth c D g A a b 6 0 0 (MQ below (cQi D g A a b Q) args s 0 0 A) M [(0, .ref (a 13)), (2, iv x2), (3, iv x3), (4, iv x4), (5, iv x5)] 113 []) (hw : wpj_X11_travels_197 p0 x2 x3 M J4 J32 J45 J113 Q) : vV p l e ({ frames := 3, cells := 0, slots := 0, locals := 71 } : Room) s m args below meth c D g A a b 6 0 0 (MQ below (cQi D g A a b Q) args s 0 0 A) M [(0, .ref (a 13)), (2, iv x2), (3, iv x3)] 197 [] := by
  unfold wpj_X11_travels_197 at hw
  refine V_goto (tgt := 32) X dX11_travels_197 (by decide) ?_
  exact hJ32 _ _ _ hw
set_option maxHeartbeats 4000000 in
set_option maxRecDepth 100000 in
theorem wkh_X11_travels_113 {p : Program} {l : Launch} {e : Env} {s : State} {m : MethodId} {args : Array Value} {below : List Frame} {meth : Method} {c : Code} {D : va_G} {g : GT} {A : Nat → Prop} {a : Nat → Nat} {b : Nat → Nat → Nat} (X : vC p s m args meth c D g A RX11 wsX11_travels cX11_travels 6) (hr : meth.sig.returnType = (some .int)) {p0 : Int} {x2 : Int} {x3 : Int} {x4 : Int} {x5 : Int} {M : Mem} {J4 : Int → Int → Mem → Prop} {J32 : Int → Int → Mem → Prop} {J45 : Int → Int → Int → Mem → Prop} {J113 : Int → Int → Int → Int → Mem → Prop} {Q : Int → Mem → Prop} (hJ4 : ∀ (x2 : Int) (x3 : Int) (M : Mem), J4 x2 x3 M → vV p l e ({ frames := 3, cells := 0, slots := 0, locals := 71 } : Room) s m args below meth c D g A a b 6 0 0 (MQ below (cQi D g A a b Q) args s 0 0 A) M [(0, .ref (a 13)), (2, iv x2), (3, iv x3)] 4 []) (hJ32 : ∀ (x2 : Int) (x3 : Int) (M : Mem), J32 x2 x3 M → vV p l e ({ frames := 3, cells := 0, slots := 0, locals := 71 } : Room) s m args below meth c D g A a b 6 0 0 (MQ below (cQi D g A a b Q) args s 0 0 A) M [(0, .ref (a 13)), (2, iv x2), (3, iv x3)] 32 []) (hJ45 : ∀ (x2 : Int) (x3 : Int) (x4 : Int) (M : Mem), J45 x2 x3 x4 M → vV p l e ({ frames := 3, cells := 0, slots := 0, locals := 71 } : Room) s m args below meth c D g A a b 6 0 0 (MQ below (cQi D g A a b Q) args s 0 0 A) M [(0, .ref (a 13)), (2, iv x2), (3, iv x3), (4, iv x4)] 45 []) (hJ113 : ∀ (x2 : Int) (x3 : Int) (x4 : Int) (x5 : Int) (M : Mem), J113 x2 x3 x4 x5 M → vV p l e ({ frames := 3, cells := 0, slots := 0, locals := 71 } : Room) s m args below meth c D g A a b 6 0 0 (MQ below (cQi D g A a b Q) args s 0 0 A) M [(0, .ref (a 13)), (2, iv x2), (3, iv x3), (4, iv x4), (5, iv x5)] 113 []) (hw : wph_X11_travels_113 p0 x2 x3 x4 x5 M J4 J32 J45 J113 Q) : vV p l e ({ frames := 3, cells := 0, slots := 0, locals := 71 } : Room) s m args below meth c D g A a b 6 0 0 (MQ below (cQi D g A a b Q) args s 0 0 A) M [(0, .ref (a 13)), (2, iv x2), (3, iv x3), (4, iv x4), (5, iv x5)] 113 [] := by
  unfold wph_X11_travels_113 at hw
  refine V_iload X dX11_travels_113 (q := 4) rfl ?_
  refine V_aload_n X dX11_travels_115 rfl (q := 0) rfl ?_
  refine V_get (C := RX11) (T := TX11) (N := 24) (ci := 11) X hi_X11_travels_11 gO_13 rfl 4 (by decide) lk_X11_travels_f22 (fun _ h9 => h9) rfl dX11_travels_116 ?_
  refine V_iload_n X dX11_travels_119 rfl (q := 2) rfl ?_
  obtain ⟨h27, hw⟩ := hw
  refine V_iald X (gA_13_4) h27 (by decide) dX11_travels_120 ?_
  obtain ⟨h28, h29, hw⟩ := hw
  refine V_icmp_ge (tgt := 141) X h28 h29 dX11_travels_121 (by decide) (fun q30 => ?_) (fun q30 => ?_)
  · have hw := hw.1 q30
    refine V_iload_n X dX11_travels_141 rfl (q := 1) rfl ?_
    refine V_aload_n X dX11_travels_142 rfl (q := 0) rfl ?_
    refine V_get (C := RX11) (T := TX11) (N := 24) (ci := 11) X hi_X11_travels_11 gO_13 rfl 7 (by decide) lk_X11_travels_f31 (fun _ h9 => h9) rfl dX11_travels_143 ?_
    refine V_aload_n X dX11_travels_146 rfl (q := 0) rfl ?_
    refine V_iload_n X dX11_travels_147 rfl (q := 2) rfl ?_
    refine V_iload_n X dX11_travels_148 rfl (q := 2) rfl ?_
    refine V_aload_n X dX11_travels_149 rfl (q := 0) rfl ?_
    refine V_get (C := RX11) (T := TX11) (N := 24) (ci := 11) X hi_X11_travels_11 gO_13 rfl 4 (by decide) lk_X11_travels_f22 (fun _ h9 => h9) rfl dX11_travels_150 ?_
    refine V_iload_n X dX11_travels_153 rfl (q := 2) rfl ?_
    obtain ⟨h31, hw⟩ := hw
    refine V_iald X (gA_13_4) h31 (by decide) dX11_travels_154 ?_
    refine V_iadd X dX11_travels_155 ?_
    refine V_callV_i X _ gO_13 rfl (As := [iv x3, iv (x3 + (M 13 4 x3.toNat))]) (st := [iv ((M 13 7 0)), iv x2]) (c_X11_deletingAll l hw) (cwV 2 X.2.2.2.1 gX11_travels_X11_deletingAll rfl rfl rfl (by decide +kernel) ⟨Nat.le_of_ble_eq_true rfl, Nat.le_of_ble_eq_true rfl⟩) rfl (Nat.le_of_ble_eq_true rfl) ⟨Nat.le_of_ble_eq_true rfl, Nat.le_of_ble_eq_true rfl⟩ rfl dX11_travels_156 (fun y32 M33 hw => ?_)
    refine V_isub X dX11_travels_159 ?_
    refine V_aload_n X dX11_travels_160 rfl (q := 0) rfl ?_
    refine V_iload X dX11_travels_161 (q := 3) rfl ?_
    refine V_iload X dX11_travels_163 (q := 3) rfl ?_
    refine V_aload_n X dX11_travels_165 rfl (q := 0) rfl ?_
    refine V_get (C := RX11) (T := TX11) (N := 24) (ci := 11) X hi_X11_travels_11 gO_13 rfl 4 (by decide) lk_X11_travels_f22 (fun _ h9 => h9) rfl dX11_travels_166 ?_
    refine V_bipush X dX11_travels_169 rfl ?_
    refine V_iload X dX11_travels_171 (q := 3) rfl ?_
    refine V_iadd X dX11_travels_173 ?_
    obtain ⟨h34, hw⟩ := hw
    refine V_iald X (gA_13_4) h34 (by decide) dX11_travels_174 ?_
    refine V_iadd X dX11_travels_175 ?_
    refine V_callV_i X _ gO_13 rfl (As := [iv x4, iv (x4 + (M33 13 4 (12 + x4).toNat))]) (st := [iv ((M 13 7 0) - y32), iv x2]) (c_X11_inserting l hw) (cwV 2 X.2.2.2.1 gX11_travels_X11_inserting rfl rfl rfl (by decide +kernel) ⟨Nat.le_of_ble_eq_true rfl, Nat.le_of_ble_eq_true rfl⟩) rfl (Nat.le_of_ble_eq_true rfl) ⟨Nat.le_of_ble_eq_true rfl, Nat.le_of_ble_eq_true rfl⟩ rfl dX11_travels_176 (fun y35 M36 hw => ?_)
    refine V_isub X dX11_travels_179 ?_
    refine V_iadd X dX11_travels_180 ?_
    refine V_top (fun y37 ey37 => ?_)
    have hw := hw y37 ey37
    refine V_istore_n (lv1 := [(0, .ref (a 13)), (2, iv y37), (3, iv x3), (4, iv x4), (5, iv x5)]) X [1, 0, 2, 3, 4] dX11_travels_181 rfl (by decide) rfl ?_
    refine V_iload_n X dX11_travels_182 rfl (q := 2) rfl ?_
    refine V_aload_n X dX11_travels_183 rfl (q := 0) rfl ?_
    refine V_get (C := RX11) (T := TX11) (N := 24) (ci := 11) X hi_X11_travels_11 gO_13 rfl 4 (by decide) lk_X11_travels_f22 (fun _ h9 => h9) rfl dX11_travels_184 ?_
    refine V_iload_n X dX11_travels_187 rfl (q := 2) rfl ?_
    obtain ⟨h38, hw⟩ := hw
    refine V_iald X (gA_13_4) h38 (by decide) dX11_travels_188 ?_
    refine V_iadd X dX11_travels_189 ?_
    refine V_top (fun y39 ey39 => ?_)
    have hw := hw y39 ey39
    refine V_istore_n (lv1 := [(0, .ref (a 13)), (2, iv y37), (3, iv y39), (4, iv x4), (5, iv x5)]) X [1, 2, 0, 3, 4] dX11_travels_190 rfl (by decide) rfl ?_
    refine V_goto (tgt := 197) X dX11_travels_191 (by decide) ?_
    refine V_sub (lv1 := [(0, .ref (a 13)), (2, iv y37), (3, iv y39)]) [0, 1, 2] rfl ?_
    exact wkj_X11_travels_197 X hr hJ4 hJ32 hJ45 hJ113 hw
  · have hw := hw.2 q30
    refine V_aload_n X dX11_travels_124 rfl (q := 0) rfl ?_
    refine V_get (C := RX11) (T := TX11) (N := 24) (ci := 11) X hi_X11_travels_11 gO_13 rfl 12 (by decide) lk_X11_travels_f48 (fun _ h9 => h9) rfl dX11_travels_125 ?_
    refine V_iload X dX11_travels_128 (q := 3) rfl ?_
    refine V_iload X dX11_travels_130 (q := 4) rfl ?_
    refine V_iadd X dX11_travels_132 ?_
    refine V_iconst X dX11_travels_133 ?_
    obtain ⟨h41, hw⟩ := hw
    refine V_zast X (gA_13_12) (sA_13_12) h41 (by decide) (by decide) dX11_travels_134 (fun M40 eM40 => ?_)
    have hw := hw M40 eM40
    refine V_iinc (lv1 := [(0, .ref (a 13)), (2, iv x2), (3, iv x3), (4, iv x4), (5, iv (x5 + 1))]) X [1, 2, 3, 4, 0] dX11_travels_135 (q := 4) rfl (by decide) rfl ?_
    refine V_goto (tgt := 113) X dX11_travels_138 (by decide) ?_
    exact hJ113 _ _ _ _ _ hw
set_option maxHeartbeats 4000000 in
set_option maxRecDepth 100000 in
theorem wkj_X11_travels_91 {p : Program} {l : Launch} {e : Env} {s : State} {m : MethodId} {args : Array Value} {below : List Frame} {meth : Method} {c : Code} {D : va_G} {g : GT} {A : Nat → Prop} {a : Nat → Nat} {b : Nat → Nat → Nat} (X : vC p s m args meth c D g A RX11 wsX11_travels cX11_travels 6) (hr : meth.sig.returnType = (some .int)) {p0 : Int} {x2 : Int} {x3 : Int} {x4 : Int} {M : Mem} {J4 : Int → Int → Mem → Prop} {J32 : Int → Int → Mem → Prop} {J45 : Int → Int → Int → Mem → Prop} {J113 : Int → Int → Int → Int → Mem → Prop} {Q : Int → Mem → Prop} (hJ4 : ∀ (x2 : Int) (x3 : Int) (M : Mem), J4 x2 x3 M → vV p l e ({ frames := 3, cells := 0, slots := 0, locals := 71 } : Room) s m args below meth c D g A a b 6 0 0 (MQ below (cQi D g A a b Q) args s 0 0 A) M [(0, .ref (a 13)), (2, iv x2), (3, iv x3)] 4 []) (hJ32 : ∀ (x2 : Int) (x3 : Int) (M : Mem), J32 x2 x3 M → vV p l e ({ frames := 3, cells := 0, slots := 0, locals := 71 } : Room) s m args below meth c D g A a b 6 0 0 (MQ below (cQi D g A a b Q) args s 0 0 A) M [(0, .ref (a 13)), (2, iv x2), (3, iv x3)] 32 []) (hJ45 : ∀ (x2 : Int) (x3 : Int) (x4 : Int) (M : Mem), J45 x2 x3 x4 M → vV p l e ({ frames := 3, cells := 0, slots := 0, locals := 71 } : Room) s m args below meth c D g A a b 6 0 0 (MQ below (cQi D g A a b Q) args s 0 0 A) M [(0, .ref (a 13)), (2, iv x2), (3, iv x3), (4, iv x4)] 45 []) (hJ113 : ∀ (x2 : Int) (x3 : Int) (x4 : Int) (x5 : Int) (M : Mem), J113 x2 x3 x4 x5 M → vV p l e ({ frames := 3, cells := 0, slots := 0, locals := 71 } : Room) s m args below meth c D g A a b 6 0 0 (MQ below (cQi D g A a b Q) args s 0 0 A) M [(0, .ref (a 13)), (2, iv x2), (3, iv x3), (4, iv x4), (5, iv x5)] 113 []) (hw : wpj_X11_travels_91 p0 x2 x3 x4 M J4 J32 J45 J113 Q) : vV p l e ({ frames := 3, cells := 0, slots := 0, locals := 71 } : Room) s m args below meth c D g A a b 6 0 0 (MQ below (cQi D g A a b Q) args s 0 0 A) M [(0, .ref (a 13)), (2, iv x2), (3, iv x3), (4, iv x4)] 91 [] := by
  unfold wpj_X11_travels_91 at hw
  refine V_iload X dX11_travels_91 (q := 3) rfl ?_
  refine V_aload_n X dX11_travels_93 rfl (q := 0) rfl ?_
  refine V_get (C := RX11) (T := TX11) (N := 24) (ci := 11) X hi_X11_travels_11 gO_13 rfl 5 (by decide) lk_X11_travels_f25 (fun _ h9 => h9) rfl dX11_travels_94 ?_
  refine V_iconst X dX11_travels_97 ?_
  refine V_iald X (gA_13_5) ⟨by decide, by decide⟩ (by decide) dX11_travels_98 ?_
  obtain ⟨h22, h23, hw⟩ := hw
  refine V_icmp_ge (tgt := 194) X h22 h23 dX11_travels_99 (by decide) (fun q24 => ?_) (fun q24 => ?_)
  · have hw := hw.1 q24
    refine V_iinc (lv1 := [(0, .ref (a 13)), (2, iv x2), (3, iv (x3 + 1)), (4, iv x4)]) X [1, 2, 0, 3] dX11_travels_194 (q := 2) rfl (by decide) rfl ?_
    refine V_sub (lv1 := [(0, .ref (a 13)), (2, iv x2), (3, iv (x3 + 1))]) [0, 1, 2] rfl ?_
    exact wkj_X11_travels_197 X hr hJ4 hJ32 hJ45 hJ113 hw
  · have hw := hw.2 q24
    refine V_aload_n X dX11_travels_102 rfl (q := 0) rfl ?_
    refine V_get (C := RX11) (T := TX11) (N := 24) (ci := 11) X hi_X11_travels_11 gO_13 rfl 10 (by decide) lk_X11_travels_f41 (fun _ h9 => h9) rfl dX11_travels_103 ?_
    refine V_iload_n X dX11_travels_106 rfl (q := 2) rfl ?_
    refine V_iload X dX11_travels_107 (q := 3) rfl ?_
    obtain ⟨h26, hw⟩ := hw
    refine V_iast X (gA_13_10) (sA_13_10) h26 (by decide) dX11_travels_109 (fun M25 eM25 => ?_)
    have hw := hw M25 eM25
    refine V_iconst X dX11_travels_110 ?_
    refine V_istore (lv1 := [(0, .ref (a 13)), (2, iv x2), (3, iv x3), (4, iv x4), (5, iv 0)]) X [1, 2, 3, 4, 0] dX11_travels_111 (by decide) rfl ?_
    exact hJ113 _ _ _ _ _ hw
set_option maxHeartbeats 4000000 in
set_option maxRecDepth 100000 in
theorem wkj_X11_travels_85 {p : Program} {l : Launch} {e : Env} {s : State} {m : MethodId} {args : Array Value} {below : List Frame} {meth : Method} {c : Code} {D : va_G} {g : GT} {A : Nat → Prop} {a : Nat → Nat} {b : Nat → Nat → Nat} (X : vC p s m args meth c D g A RX11 wsX11_travels cX11_travels 6) (hr : meth.sig.returnType = (some .int)) {p0 : Int} {x2 : Int} {x3 : Int} {x4 : Int} {M : Mem} {J4 : Int → Int → Mem → Prop} {J32 : Int → Int → Mem → Prop} {J45 : Int → Int → Int → Mem → Prop} {J113 : Int → Int → Int → Int → Mem → Prop} {Q : Int → Mem → Prop} (hJ4 : ∀ (x2 : Int) (x3 : Int) (M : Mem), J4 x2 x3 M → vV p l e ({ frames := 3, cells := 0, slots := 0, locals := 71 } : Room) s m args below meth c D g A a b 6 0 0 (MQ below (cQi D g A a b Q) args s 0 0 A) M [(0, .ref (a 13)), (2, iv x2), (3, iv x3)] 4 []) (hJ32 : ∀ (x2 : Int) (x3 : Int) (M : Mem), J32 x2 x3 M → vV p l e ({ frames := 3, cells := 0, slots := 0, locals := 71 } : Room) s m args below meth c D g A a b 6 0 0 (MQ below (cQi D g A a b Q) args s 0 0 A) M [(0, .ref (a 13)), (2, iv x2), (3, iv x3)] 32 []) (hJ45 : ∀ (x2 : Int) (x3 : Int) (x4 : Int) (M : Mem), J45 x2 x3 x4 M → vV p l e ({ frames := 3, cells := 0, slots := 0, locals := 71 } : Room) s m args below meth c D g A a b 6 0 0 (MQ below (cQi D g A a b Q) args s 0 0 A) M [(0, .ref (a 13)), (2, iv x2), (3, iv x3), (4, iv x4)] 45 []) (hJ113 : ∀ (x2 : Int) (x3 : Int) (x4 : Int) (x5 : Int) (M : Mem), J113 x2 x3 x4 x5 M → vV p l e ({ frames := 3, cells := 0, slots := 0, locals := 71 } : Room) s m args below meth c D g A a b 6 0 0 (MQ below (cQi D g A a b Q) args s 0 0 A) M [(0, .ref (a 13)), (2, iv x2), (3, iv x3), (4, iv x4), (5, iv x5)] 113 []) (hw : wpj_X11_travels_85 p0 x2 x3 x4 M J4 J32 J45 J113 Q) : vV p l e ({ frames := 3, cells := 0, slots := 0, locals := 71 } : Room) s m args below meth c D g A a b 6 0 0 (MQ below (cQi D g A a b Q) args s 0 0 A) M [(0, .ref (a 13)), (2, iv x2), (3, iv x3), (4, iv x4)] 85 [] := by
  unfold wpj_X11_travels_85 at hw
  refine V_iinc (lv1 := [(0, .ref (a 13)), (2, iv x2), (3, iv x3), (4, iv (x4 + 1))]) X [1, 2, 3, 0] dX11_travels_85 (q := 3) rfl (by decide) rfl ?_
  refine V_goto (tgt := 45) X dX11_travels_88 (by decide) ?_
  exact hJ45 _ _ _ _ hw
set_option maxHeartbeats 4000000 in
set_option maxRecDepth 100000 in
theorem wkh_X11_travels_45 {p : Program} {l : Launch} {e : Env} {s : State} {m : MethodId} {args : Array Value} {below : List Frame} {meth : Method} {c : Code} {D : va_G} {g : GT} {A : Nat → Prop} {a : Nat → Nat} {b : Nat → Nat → Nat} (X : vC p s m args meth c D g A RX11 wsX11_travels cX11_travels 6) (hr : meth.sig.returnType = (some .int)) {p0 : Int} {x2 : Int} {x3 : Int} {x4 : Int} {M : Mem} {J4 : Int → Int → Mem → Prop} {J32 : Int → Int → Mem → Prop} {J45 : Int → Int → Int → Mem → Prop} {J113 : Int → Int → Int → Int → Mem → Prop} {Q : Int → Mem → Prop} (hJ4 : ∀ (x2 : Int) (x3 : Int) (M : Mem), J4 x2 x3 M → vV p l e ({ frames := 3, cells := 0, slots := 0, locals := 71 } : Room) s m args below meth c D g A a b 6 0 0 (MQ below (cQi D g A a b Q) args s 0 0 A) M [(0, .ref (a 13)), (2, iv x2), (3, iv x3)] 4 []) (hJ32 : ∀ (x2 : Int) (x3 : Int) (M : Mem), J32 x2 x3 M → vV p l e ({ frames := 3, cells := 0, slots := 0, locals := 71 } : Room) s m args below meth c D g A a b 6 0 0 (MQ below (cQi D g A a b Q) args s 0 0 A) M [(0, .ref (a 13)), (2, iv x2), (3, iv x3)] 32 []) (hJ45 : ∀ (x2 : Int) (x3 : Int) (x4 : Int) (M : Mem), J45 x2 x3 x4 M → vV p l e ({ frames := 3, cells := 0, slots := 0, locals := 71 } : Room) s m args below meth c D g A a b 6 0 0 (MQ below (cQi D g A a b Q) args s 0 0 A) M [(0, .ref (a 13)), (2, iv x2), (3, iv x3), (4, iv x4)] 45 []) (hJ113 : ∀ (x2 : Int) (x3 : Int) (x4 : Int) (x5 : Int) (M : Mem), J113 x2 x3 x4 x5 M → vV p l e ({ frames := 3, cells := 0, slots := 0, locals := 71 } : Room) s m args below meth c D g A a b 6 0 0 (MQ below (cQi D g A a b Q) args s 0 0 A) M [(0, .ref (a 13)), (2, iv x2), (3, iv x3), (4, iv x4), (5, iv x5)] 113 []) (hw : wph_X11_travels_45 p0 x2 x3 x4 M J4 J32 J45 J113 Q) : vV p l e ({ frames := 3, cells := 0, slots := 0, locals := 71 } : Room) s m args below meth c D g A a b 6 0 0 (MQ below (cQi D g A a b Q) args s 0 0 A) M [(0, .ref (a 13)), (2, iv x2), (3, iv x3), (4, iv x4)] 45 [] := by
  unfold wph_X11_travels_45 at hw
  refine V_iload X dX11_travels_45 (q := 3) rfl ?_
  refine V_aload_n X dX11_travels_47 rfl (q := 0) rfl ?_
  refine V_get (C := RX11) (T := TX11) (N := 24) (ci := 11) X hi_X11_travels_11 gO_13 rfl 5 (by decide) lk_X11_travels_f25 (fun _ h9 => h9) rfl dX11_travels_48 ?_
  refine V_iconst X dX11_travels_51 ?_
  refine V_iald X (gA_13_5) ⟨by decide, by decide⟩ (by decide) dX11_travels_52 ?_
  obtain ⟨h10, h11, hw⟩ := hw
  refine V_icmp_ge (tgt := 91) X h10 h11 dX11_travels_53 (by decide) (fun q12 => ?_) (fun q12 => ?_)
  · have hw := hw.1 q12
    exact wkj_X11_travels_91 X hr hJ4 hJ32 hJ45 hJ113 hw
  · have hw := hw.2 q12
    refine V_aload_n X dX11_travels_56 rfl (q := 0) rfl ?_
    refine V_get (C := RX11) (T := TX11) (N := 24) (ci := 11) X hi_X11_travels_11 gO_13 rfl 4 (by decide) lk_X11_travels_f22 (fun _ h9 => h9) rfl dX11_travels_57 ?_
    refine V_iload_n X dX11_travels_60 rfl (q := 2) rfl ?_
    obtain ⟨h13, hw⟩ := hw
    refine V_iald X (gA_13_4) h13 (by decide) dX11_travels_61 ?_
    refine V_aload_n X dX11_travels_62 rfl (q := 0) rfl ?_
    refine V_get (C := RX11) (T := TX11) (N := 24) (ci := 11) X hi_X11_travels_11 gO_13 rfl 4 (by decide) lk_X11_travels_f22 (fun _ h9 => h9) rfl dX11_travels_63 ?_
    refine V_bipush X dX11_travels_66 rfl ?_
    refine V_iload X dX11_travels_68 (q := 3) rfl ?_
    refine V_iadd X dX11_travels_70 ?_
    obtain ⟨h14, hw⟩ := hw
    refine V_iald X (gA_13_4) h14 (by decide) dX11_travels_71 ?_
    obtain ⟨h15, h16, hw⟩ := hw
    refine V_icmp_ne (tgt := 85) X h15 h16 dX11_travels_72 (by decide) (fun q17 => ?_) (fun q17 => ?_)
    · have hw := hw.1 q17
      exact wkj_X11_travels_85 X hr hJ4 hJ32 hJ45 hJ113 hw
    · have hw := hw.2 q17
      refine V_aload_n X dX11_travels_75 rfl (q := 0) rfl ?_
      refine V_iload_n X dX11_travels_76 rfl (q := 2) rfl ?_
      refine V_iload X dX11_travels_77 (q := 3) rfl ?_
      refine V_callV_i X _ gO_13 rfl (As := [iv x3, iv x4]) (st := []) (c_X11_canMove l hw) (cwV 2 X.2.2.2.1 gX11_travels_X11_canMove rfl rfl rfl (by decide +kernel) ⟨Nat.le_of_ble_eq_true rfl, Nat.le_of_ble_eq_true rfl⟩) rfl (Nat.le_of_ble_eq_true rfl) ⟨Nat.le_of_ble_eq_true rfl, Nat.le_of_ble_eq_true rfl⟩ rfl dX11_travels_79 (fun y18 M19 hw => ?_)
      obtain ⟨h20, hw⟩ := hw
      refine V_if_ne (tgt := 91) X h20 dX11_travels_82 (by decide) (fun q21 => ?_) (fun q21 => ?_)
      · have hw := hw.1 q21
        exact wkj_X11_travels_91 X hr hJ4 hJ32 hJ45 hJ113 hw
      · have hw := hw.2 q21
        exact wkj_X11_travels_85 X hr hJ4 hJ32 hJ45 hJ113 hw
set_option maxHeartbeats 4000000 in
set_option maxRecDepth 100000 in
theorem wkh_X11_travels_32 {p : Program} {l : Launch} {e : Env} {s : State} {m : MethodId} {args : Array Value} {below : List Frame} {meth : Method} {c : Code} {D : va_G} {g : GT} {A : Nat → Prop} {a : Nat → Nat} {b : Nat → Nat → Nat} (X : vC p s m args meth c D g A RX11 wsX11_travels cX11_travels 6) (hr : meth.sig.returnType = (some .int)) {p0 : Int} {x2 : Int} {x3 : Int} {M : Mem} {J4 : Int → Int → Mem → Prop} {J32 : Int → Int → Mem → Prop} {J45 : Int → Int → Int → Mem → Prop} {J113 : Int → Int → Int → Int → Mem → Prop} {Q : Int → Mem → Prop} (hJ4 : ∀ (x2 : Int) (x3 : Int) (M : Mem), J4 x2 x3 M → vV p l e ({ frames := 3, cells := 0, slots := 0, locals := 71 } : Room) s m args below meth c D g A a b 6 0 0 (MQ below (cQi D g A a b Q) args s 0 0 A) M [(0, .ref (a 13)), (2, iv x2), (3, iv x3)] 4 []) (hJ32 : ∀ (x2 : Int) (x3 : Int) (M : Mem), J32 x2 x3 M → vV p l e ({ frames := 3, cells := 0, slots := 0, locals := 71 } : Room) s m args below meth c D g A a b 6 0 0 (MQ below (cQi D g A a b Q) args s 0 0 A) M [(0, .ref (a 13)), (2, iv x2), (3, iv x3)] 32 []) (hJ45 : ∀ (x2 : Int) (x3 : Int) (x4 : Int) (M : Mem), J45 x2 x3 x4 M → vV p l e ({ frames := 3, cells := 0, slots := 0, locals := 71 } : Room) s m args below meth c D g A a b 6 0 0 (MQ below (cQi D g A a b Q) args s 0 0 A) M [(0, .ref (a 13)), (2, iv x2), (3, iv x3), (4, iv x4)] 45 []) (hJ113 : ∀ (x2 : Int) (x3 : Int) (x4 : Int) (x5 : Int) (M : Mem), J113 x2 x3 x4 x5 M → vV p l e ({ frames := 3, cells := 0, slots := 0, locals := 71 } : Room) s m args below meth c D g A a b 6 0 0 (MQ below (cQi D g A a b Q) args s 0 0 A) M [(0, .ref (a 13)), (2, iv x2), (3, iv x3), (4, iv x4), (5, iv x5)] 113 []) (hw : wph_X11_travels_32 p0 x2 x3 M J4 J32 J45 J113 Q) : vV p l e ({ frames := 3, cells := 0, slots := 0, locals := 71 } : Room) s m args below meth c D g A a b 6 0 0 (MQ below (cQi D g A a b Q) args s 0 0 A) M [(0, .ref (a 13)), (2, iv x2), (3, iv x3)] 32 [] := by
  unfold wph_X11_travels_32 at hw
  refine V_iload_n X dX11_travels_32 rfl (q := 2) rfl ?_
  refine V_aload_n X dX11_travels_33 rfl (q := 0) rfl ?_
  refine V_get (C := RX11) (T := TX11) (N := 24) (ci := 11) X hi_X11_travels_11 gO_13 rfl 5 (by decide) lk_X11_travels_f25 (fun _ h9 => h9) rfl dX11_travels_34 ?_
  refine V_iconst X dX11_travels_37 ?_
  refine V_iald X (gA_13_5) ⟨by decide, by decide⟩ (by decide) dX11_travels_38 ?_
  obtain ⟨h7, h8, hw⟩ := hw
  refine V_icmp_ge (tgt := 200) X h7 h8 dX11_travels_39 (by decide) (fun q9 => ?_) (fun q9 => ?_)
  · have hw := hw.1 q9
    refine V_iload_n X dX11_travels_200 rfl (q := 1) rfl ?_
    exact V_iret X hr hw dX11_travels_201
  · have hw := hw.2 q9
    refine V_iconst X dX11_travels_42 ?_
    refine V_istore (lv1 := [(0, .ref (a 13)), (2, iv x2), (3, iv x3), (4, iv 0)]) X [1, 2, 3, 0] dX11_travels_43 (by decide) rfl ?_
    exact hJ45 _ _ _ _ hw
set_option maxHeartbeats 4000000 in
set_option maxRecDepth 100000 in
theorem wkh_X11_travels_4 {p : Program} {l : Launch} {e : Env} {s : State} {m : MethodId} {args : Array Value} {below : List Frame} {meth : Method} {c : Code} {D : va_G} {g : GT} {A : Nat → Prop} {a : Nat → Nat} {b : Nat → Nat → Nat} (X : vC p s m args meth c D g A RX11 wsX11_travels cX11_travels 6) (hr : meth.sig.returnType = (some .int)) {p0 : Int} {x2 : Int} {x3 : Int} {M : Mem} {J4 : Int → Int → Mem → Prop} {J32 : Int → Int → Mem → Prop} {J45 : Int → Int → Int → Mem → Prop} {J113 : Int → Int → Int → Int → Mem → Prop} {Q : Int → Mem → Prop} (hJ4 : ∀ (x2 : Int) (x3 : Int) (M : Mem), J4 x2 x3 M → vV p l e ({ frames := 3, cells := 0, slots := 0, locals := 71 } : Room) s m args below meth c D g A a b 6 0 0 (MQ below (cQi D g A a b Q) args s 0 0 A) M [(0, .ref (a 13)), (2, iv x2), (3, iv x3)] 4 []) (hJ32 : ∀ (x2 : Int) (x3 : Int) (M : Mem), J32 x2 x3 M → vV p l e ({ frames := 3, cells := 0, slots := 0, locals := 71 } : Room) s m args below meth c D g A a b 6 0 0 (MQ below (cQi D g A a b Q) args s 0 0 A) M [(0, .ref (a 13)), (2, iv x2), (3, iv x3)] 32 []) (hJ45 : ∀ (x2 : Int) (x3 : Int) (x4 : Int) (M : Mem), J45 x2 x3 x4 M → vV p l e ({ frames := 3, cells := 0, slots := 0, locals := 71 } : Room) s m args below meth c D g A a b 6 0 0 (MQ below (cQi D g A a b Q) args s 0 0 A) M [(0, .ref (a 13)), (2, iv x2), (3, iv x3), (4, iv x4)] 45 []) (hJ113 : ∀ (x2 : Int) (x3 : Int) (x4 : Int) (x5 : Int) (M : Mem), J113 x2 x3 x4 x5 M → vV p l e ({ frames := 3, cells := 0, slots := 0, locals := 71 } : Room) s m args below meth c D g A a b 6 0 0 (MQ below (cQi D g A a b Q) args s 0 0 A) M [(0, .ref (a 13)), (2, iv x2), (3, iv x3), (4, iv x4), (5, iv x5)] 113 []) (hw : wph_X11_travels_4 p0 x2 x3 M J4 J32 J45 J113 Q) : vV p l e ({ frames := 3, cells := 0, slots := 0, locals := 71 } : Room) s m args below meth c D g A a b 6 0 0 (MQ below (cQi D g A a b Q) args s 0 0 A) M [(0, .ref (a 13)), (2, iv x2), (3, iv x3)] 4 [] := by
  unfold wph_X11_travels_4 at hw
  refine V_iload_n X dX11_travels_4 rfl (q := 2) rfl ?_
  refine V_bipush X dX11_travels_5 rfl ?_
  obtain ⟨h1, hw⟩ := hw
  refine V_icmp_ge (tgt := 30) X h1 ⟨by decide, by decide⟩ dX11_travels_7 (by decide) (fun q2 => ?_) (fun q2 => ?_)
  · have hw := hw.1 q2
    refine V_iconst X dX11_travels_30 ?_
    refine V_istore_n (lv1 := [(0, .ref (a 13)), (2, iv x2), (3, iv 0)]) X [1, 2, 0] dX11_travels_31 rfl (by decide) rfl ?_
    exact hJ32 _ _ _ hw
  · have hw := hw.2 q2
    refine V_aload_n X dX11_travels_10 rfl (q := 0) rfl ?_
    refine V_get (C := RX11) (T := TX11) (N := 24) (ci := 11) X hi_X11_travels_11 gO_13 rfl 12 (by decide) lk_X11_travels_f48 (fun _ h9 => h9) rfl dX11_travels_11 ?_
    refine V_iload_n X dX11_travels_14 rfl (q := 2) rfl ?_
    refine V_iconst X dX11_travels_15 ?_
    obtain ⟨h4, hw⟩ := hw
    refine V_zast X (gA_13_12) (sA_13_12) h4 (by decide) (by decide) dX11_travels_16 (fun M3 eM3 => ?_)
    have hw := hw M3 eM3
    refine V_aload_n X dX11_travels_17 rfl (q := 0) rfl ?_
    refine V_get (C := RX11) (T := TX11) (N := 24) (ci := 11) X hi_X11_travels_11 gO_13 rfl 10 (by decide) lk_X11_travels_f41 (fun _ h9 => h9) rfl dX11_travels_18 ?_
    refine V_iload_n X dX11_travels_21 rfl (q := 2) rfl ?_
    refine V_iconst X dX11_travels_22 ?_
    obtain ⟨h6, hw⟩ := hw
    refine V_iast X (gA_13_10) (sA_13_10) h6 (by decide) dX11_travels_23 (fun M5 eM5 => ?_)
    have hw := hw M5 eM5
    refine V_iinc (lv1 := [(0, .ref (a 13)), (2, iv x2), (3, iv (x3 + 1))]) X [1, 2, 0] dX11_travels_24 (q := 2) rfl (by decide) rfl ?_
    refine V_goto (tgt := 4) X dX11_travels_27 (by decide) ?_
    exact hJ4 _ _ _ hw
set_option maxHeartbeats 4000000 in
set_option maxRecDepth 100000 in
theorem wke_X11_travels {p : Program} {l : Launch} {e : Env} {s : State} {m : MethodId} {args : Array Value} {below : List Frame} {meth : Method} {c : Code} {D : va_G} {g : GT} {A : Nat → Prop} {a : Nat → Nat} {b : Nat → Nat → Nat} (X : vC p s m args meth c D g A RX11 wsX11_travels cX11_travels 6) (hr : meth.sig.returnType = (some .int)) {p0 : Int} {M : Mem} {J4 : Int → Int → Mem → Prop} {J32 : Int → Int → Mem → Prop} {J45 : Int → Int → Int → Mem → Prop} {J113 : Int → Int → Int → Int → Mem → Prop} {Q : Int → Mem → Prop} (hJ4 : ∀ (x2 : Int) (x3 : Int) (M : Mem), J4 x2 x3 M → vV p l e ({ frames := 3, cells := 0, slots := 0, locals := 71 } : Room) s m args below meth c D g A a b 6 0 0 (MQ below (cQi D g A a b Q) args s 0 0 A) M [(0, .ref (a 13)), (2, iv x2), (3, iv x3)] 4 []) (hJ32 : ∀ (x2 : Int) (x3 : Int) (M : Mem), J32 x2 x3 M → vV p l e ({ frames := 3, cells := 0, slots := 0, locals := 71 } : Room) s m args below meth c D g A a b 6 0 0 (MQ below (cQi D g A a b Q) args s 0 0 A) M [(0, .ref (a 13)), (2, iv x2), (3, iv x3)] 32 []) (hJ45 : ∀ (x2 : Int) (x3 : Int) (x4 : Int) (M : Mem), J45 x2 x3 x4 M → vV p l e ({ frames := 3, cells := 0, slots := 0, locals := 71 } : Room) s m args below meth c D g A a b 6 0 0 (MQ below (cQi D g A a b Q) args s 0 0 A) M [(0, .ref (a 13)), (2, iv x2), (3, iv x3), (4, iv x4)] 45 []) (hJ113 : ∀ (x2 : Int) (x3 : Int) (x4 : Int) (x5 : Int) (M : Mem), J113 x2 x3 x4 x5 M → vV p l e ({ frames := 3, cells := 0, slots := 0, locals := 71 } : Room) s m args below meth c D g A a b 6 0 0 (MQ below (cQi D g A a b Q) args s 0 0 A) M [(0, .ref (a 13)), (2, iv x2), (3, iv x3), (4, iv x4), (5, iv x5)] 113 []) (hw : wpe_X11_travels p0 M J4 J32 J45 J113 Q) : vV p l e ({ frames := 3, cells := 0, slots := 0, locals := 71 } : Room) s m args below meth c D g A a b 6 0 0 (MQ below (cQi D g A a b Q) args s 0 0 A) M [(0, .ref (a 13)), (1, iv p0)] 0 [] := by
  unfold wpe_X11_travels at hw
  refine V_iload_n X dX11_travels_0 rfl (q := 1) rfl ?_
  refine V_istore_n (lv1 := [(0, .ref (a 13)), (1, iv p0), (2, iv p0)]) X [1, 2, 0] dX11_travels_1 rfl (by decide) rfl ?_
  refine V_iconst X dX11_travels_2 ?_
  refine V_istore_n (lv1 := [(0, .ref (a 13)), (1, iv p0), (2, iv p0), (3, iv 0)]) X [1, 2, 3, 0] dX11_travels_3 rfl (by decide) rfl ?_
  refine V_sub (lv1 := [(0, .ref (a 13)), (2, iv p0), (3, iv 0)]) [0, 2, 3] rfl ?_
  exact hJ4 _ _ _ hw
set_option maxHeartbeats 4000000 in
set_option maxRecDepth 100000 in
theorem c_X11_travels (l : Launch) {p0 : Int} {D : va_G} {g : GT} {A : Nat → Prop} {a : Nat → Nat} {b : Nat → Nat → Nat} {M : Mem} {Q : Int → Mem → Prop} (hw : wp_X11_travels M p0 Q) : Met l yX11_travels wsX11_travels ({ frames := 3, cells := 0, slots := 0, locals := 71 } : Room) (cPc D g A a b M [.ref (a 13), iv p0]) (cQi D g A a b Q) 0 0 A := by
  refine Met.ofW (cc := cX11_travels) (maxL := 6) (ret := (some .int)) (by decide) rfl ?_
  intro p e s m args below meth c s₁ B hml hv
  obtain ⟨rfl, hP, hD, hG⟩ := hv
  have X : vC p s m _ meth c D g A RX11 wsX11_travels cX11_travels 6 := ⟨B.exec, B.bytes, findClass_of_methodNamed B.named, atoms_spec (ws := wsX11_travels) B.pre, hG, hml, B.notSynchronized⟩
  have hr := B.returns
  have hl := lv_entry ([.ref (a 13), iv p0]) (n := 6) (Nat.le_of_ble_eq_true rfl)
  rw [lg_entry_eq]
  generalize (lg_sl ([.ref (a 13), iv p0]) ++ List.replicate (6 - (lg_sl ([.ref (a 13), iv p0])).length) Slot.unset).toArray = ls at hl ⊢
  have hl : lv_has ls 6 [(0, .ref (a 13)), (1, iv p0)] := hl
  obtain ⟨I4, I32, I45, I113, hw, hI4, hI32, hI45, hI113⟩ := hw
  have K : ∀ n : Nat, (∀ (x2 : Int) (x3 : Int) (M : Mem), I4 n x2 x3 M → vV p l e ({ frames := 3, cells := 0, slots := 0, locals := 71 } : Room) s m ([.ref (a 13), iv p0] : List Value).toArray below meth c D g A a b 6 0 0 (MQ below (cQi D g A a b Q) ([.ref (a 13), iv p0] : List Value).toArray s 0 0 A) M [(0, .ref (a 13)), (2, iv x2), (3, iv x3)] 4 []) ∧ (∀ (x2 : Int) (x3 : Int) (M : Mem), I32 n x2 x3 M → vV p l e ({ frames := 3, cells := 0, slots := 0, locals := 71 } : Room) s m ([.ref (a 13), iv p0] : List Value).toArray below meth c D g A a b 6 0 0 (MQ below (cQi D g A a b Q) ([.ref (a 13), iv p0] : List Value).toArray s 0 0 A) M [(0, .ref (a 13)), (2, iv x2), (3, iv x3)] 32 []) ∧ (∀ (x2 : Int) (x3 : Int) (x4 : Int) (M : Mem), I45 n x2 x3 x4 M → vV p l e ({ frames := 3, cells := 0, slots := 0, locals := 71 } : Room) s m ([.ref (a 13), iv p0] : List Value).toArray below meth c D g A a b 6 0 0 (MQ below (cQi D g A a b Q) ([.ref (a 13), iv p0] : List Value).toArray s 0 0 A) M [(0, .ref (a 13)), (2, iv x2), (3, iv x3), (4, iv x4)] 45 []) ∧ (∀ (x2 : Int) (x3 : Int) (x4 : Int) (x5 : Int) (M : Mem), I113 n x2 x3 x4 x5 M → vV p l e ({ frames := 3, cells := 0, slots := 0, locals := 71 } : Room) s m ([.ref (a 13), iv p0] : List Value).toArray below meth c D g A a b 6 0 0 (MQ below (cQi D g A a b Q) ([.ref (a 13), iv p0] : List Value).toArray s 0 0 A) M [(0, .ref (a 13)), (2, iv x2), (3, iv x3), (4, iv x4), (5, iv x5)] 113 []) := by
    intro n
    induction n using Nat.strongRecOn with
    | ind n ih =>
      exact ⟨fun x2 x3 M hh => wkh_X11_travels_4 X hr (fun _ _ _ ⟨n1, hn, hh⟩ => (ih n1 hn).1 _ _ _ hh) (fun _ _ _ ⟨n1, hn, hh⟩ => (ih n1 hn).2.1 _ _ _ hh) (fun _ _ _ _ ⟨n1, hn, hh⟩ => (ih n1 hn).2.2.1 _ _ _ _ hh) (fun _ _ _ _ _ ⟨n1, hn, hh⟩ => (ih n1 hn).2.2.2 _ _ _ _ _ hh) (hI4 n x2 x3 M hh), fun x2 x3 M hh => wkh_X11_travels_32 X hr (fun _ _ _ ⟨n1, hn, hh⟩ => (ih n1 hn).1 _ _ _ hh) (fun _ _ _ ⟨n1, hn, hh⟩ => (ih n1 hn).2.1 _ _ _ hh) (fun _ _ _ _ ⟨n1, hn, hh⟩ => (ih n1 hn).2.2.1 _ _ _ _ hh) (fun _ _ _ _ _ ⟨n1, hn, hh⟩ => (ih n1 hn).2.2.2 _ _ _ _ _ hh) (hI32 n x2 x3 M hh), fun x2 x3 x4 M hh => wkh_X11_travels_45 X hr (fun _ _ _ ⟨n1, hn, hh⟩ => (ih n1 hn).1 _ _ _ hh) (fun _ _ _ ⟨n1, hn, hh⟩ => (ih n1 hn).2.1 _ _ _ hh) (fun _ _ _ _ ⟨n1, hn, hh⟩ => (ih n1 hn).2.2.1 _ _ _ _ hh) (fun _ _ _ _ _ ⟨n1, hn, hh⟩ => (ih n1 hn).2.2.2 _ _ _ _ _ hh) (hI45 n x2 x3 x4 M hh), fun x2 x3 x4 x5 M hh => wkh_X11_travels_113 X hr (fun _ _ _ ⟨n1, hn, hh⟩ => (ih n1 hn).1 _ _ _ hh) (fun _ _ _ ⟨n1, hn, hh⟩ => (ih n1 hn).2.1 _ _ _ hh) (fun _ _ _ _ ⟨n1, hn, hh⟩ => (ih n1 hn).2.2.1 _ _ _ _ hh) (fun _ _ _ _ _ ⟨n1, hn, hh⟩ => (ih n1 hn).2.2.2 _ _ _ _ _ hh) (hI113 n x2 x3 x4 x5 M hh)⟩
  exact wke_X11_travels X hr  (fun _ _ _ ⟨n1, hh⟩ => (K n1).1 _ _ _ hh) (fun _ _ _ ⟨n1, hh⟩ => (K n1).2.1 _ _ _ hh) (fun _ _ _ _ ⟨n1, hh⟩ => (K n1).2.2.1 _ _ _ _ hh) (fun _ _ _ _ _ ⟨n1, hh⟩ => (K n1).2.2.2 _ _ _ _ _ hh) hw s.heap [] ls hP hD va_S.rf hl

set_option maxRecDepth 20000 in
theorem ggX11_distanceWithMoves_X11_maps : GoodIn wsX11_distanceWithMoves wsX11_maps := goodIn_r _ [6, 7, 8, 9, 10, 5, 11, 12, 13, 14, 15, 16, 17, 18, 19, 20, 21, 22, 23, 24, 25, 26, 27, 28, 29, 30, 31, 32, 33, 34, 35, 36, 37, 38, 39, 40, 41, 42, 43, 44, 45, 46, 47, 48, 49, 50, 51, 52, 53, 54, 55, 56, 57, 58, 59, 60, 61, 62, 63, 83, 84, 85, 86, 87, 88, 89, 90, 91, 92, 93, 94, 95, 96, 97, 98, 99, 100, 101, 102, 103, 104, 105, 106] (by decide +kernel) (by decide +kernel)
set_option maxRecDepth 20000 in
theorem gX11_distanceWithMoves_X11_maps : GoodIn wsX11_distanceWithMoves (wsV RX11 166 RX11 yX11_maps wsX11_maps) := goodIn_app (goodIn_of _ (by decide +kernel)) ggX11_distanceWithMoves_X11_maps
set_option maxRecDepth 20000 in
theorem ggX11_distanceWithMoves_X11_travels : GoodIn wsX11_distanceWithMoves wsX11_travels := goodIn_r _ [67, 68, 69, 12, 20, 70, 71, 72, 73, 5, 74, 7, 51, 75, 76, 77, 78, 33, 45, 19, 79, 80, 81, 82, 28, 29, 30, 31, 32, 60, 61, 62, 63, 83, 84, 85, 86, 87, 88, 89, 90, 91, 92, 93, 94, 95, 96, 97, 98, 99, 100, 101, 102, 103, 104, 105, 106] (by decide +kernel) (by decide +kernel)
set_option maxRecDepth 20000 in
theorem gX11_distanceWithMoves_X11_travels : GoodIn wsX11_distanceWithMoves (wsV RX11 204 RX11 yX11_travels wsX11_travels) := goodIn_app (goodIn_of _ (by decide +kernel)) ggX11_distanceWithMoves_X11_travels
theorem dX11_distanceWithMoves_0 : decode cX11_distanceWithMoves 0 = .ok (.aload_n 0, 1) := by decide +kernel
theorem dX11_distanceWithMoves_1 : decode cX11_distanceWithMoves 1 = .ok (.iconst 0, 1) := by decide +kernel
theorem dX11_distanceWithMoves_2 : decode cX11_distanceWithMoves 2 = .ok (.putfield 72, 3) := by decide +kernel
theorem dX11_distanceWithMoves_5 : decode cX11_distanceWithMoves 5 = .ok (.aload_n 0, 1) := by decide +kernel
theorem dX11_distanceWithMoves_6 : decode cX11_distanceWithMoves 6 = .ok (.aload_n 0, 1) := by decide +kernel
theorem dX11_distanceWithMoves_7 : decode cX11_distanceWithMoves 7 = .ok (.invokevirtual 166, 3) := by decide +kernel
theorem dX11_distanceWithMoves_10 : decode cX11_distanceWithMoves 10 = .ok (.invokevirtual 204, 3) := by decide +kernel
theorem dX11_distanceWithMoves_13 : decode cX11_distanceWithMoves 13 = .ok (.ireturn, 1) := by decide +kernel
theorem lk_X11_distanceWithMoves_f72 : Cond.fieldLink RX11 72 "TreeComparerModel" "thrown" "I" ∈ wsX11_distanceWithMoves := by decide +kernel
theorem hi_X11_distanceWithMoves_11 : ∀ w ∈ u_ws RX11 TX11 24, w ∈ wsX11_distanceWithMoves := by decide +kernel
def wpe_X11_distanceWithMoves (M : Mem) (Q : Int → Mem → Prop) : Prop := (∀ M1 : Mem, M1 = mset M 13 23 0 0 → wp_X11_maps M1 (fun y2 M3 => wp_X11_travels M3 y2 (fun y4 M5 => Q y4 M5)))
def wp_X11_distanceWithMoves (M : Mem) (Q : Int → Mem → Prop) : Prop := wpe_X11_distanceWithMoves M Q
set_option maxHeartbeats 4000000 in
set_option maxRecDepth 100000 in
theorem wke_X11_distanceWithMoves {p : Program} {l : Launch} {e : Env} {s : State} {m : MethodId} {args : Array Value} {below : List Frame} {meth : Method} {c : Code} {D : va_G} {g : GT} {A : Nat → Prop} {a : Nat → Nat} {b : Nat → Nat → Nat} (X : vC p s m args meth c D g A RX11 wsX11_distanceWithMoves cX11_distanceWithMoves 1) (hr : meth.sig.returnType = (some .int)) {M : Mem} {Q : Int → Mem → Prop} (hw : wpe_X11_distanceWithMoves M Q) : vV p l e ({ frames := 5, cells := 0, slots := 0, locals := 126 } : Room) s m args below meth c D g A a b 1 0 0 (MQ below (cQi D g A a b Q) args s 0 0 A) M [(0, .ref (a 13))] 0 [] := by
  unfold wpe_X11_distanceWithMoves at hw
  refine V_aload_n X dX11_distanceWithMoves_0 rfl (q := 0) rfl ?_
  refine V_iconst X dX11_distanceWithMoves_1 ?_
  refine V_put (C := RX11) (T := TX11) (N := 24) (ci := 11) X hi_X11_distanceWithMoves_11 gO_13 rfl 23 (by decide) tyX11 tyX11_ok nmX11 rfl (tyX11_ok 23 (by decide)) (Or.inl rfl) (show 23 < 24 from by decide) sI_13_23 lk_X11_distanceWithMoves_f72 (fun _ h9 => h9) dX11_distanceWithMoves_2 (fun M1 eM1 => ?_)
  have hw := hw M1 eM1
  refine V_aload_n X dX11_distanceWithMoves_5 rfl (q := 0) rfl ?_
  refine V_aload_n X dX11_distanceWithMoves_6 rfl (q := 0) rfl ?_
  refine V_callV_i X _ gO_13 rfl (As := []) (st := [.ref (a 13)]) (c_X11_maps l hw) (cwV 0 X.2.2.2.1 gX11_distanceWithMoves_X11_maps rfl rfl rfl (by decide +kernel) ⟨Nat.le_of_ble_eq_true rfl, Nat.le_of_ble_eq_true rfl⟩) rfl (Nat.le_of_ble_eq_true rfl) ⟨Nat.le_of_ble_eq_true rfl, Nat.le_of_ble_eq_true rfl⟩ rfl dX11_distanceWithMoves_7 (fun y2 M3 hw => ?_)
  refine V_callV_i X _ gO_13 rfl (As := [iv y2]) (st := []) (c_X11_travels l hw) (cwV 1 X.2.2.2.1 gX11_distanceWithMoves_X11_travels rfl rfl rfl (by decide +kernel) ⟨Nat.le_of_ble_eq_true rfl, Nat.le_of_ble_eq_true rfl⟩) rfl (Nat.le_of_ble_eq_true rfl) ⟨Nat.le_of_ble_eq_true rfl, Nat.le_of_ble_eq_true rfl⟩ rfl dX11_distanceWithMoves_10 (fun y4 M5 hw => ?_)
  exact V_iret X hr hw dX11_distanceWithMoves_13
set_option maxHeartbeats 4000000 in
set_option maxRecDepth 100000 in
theorem c_X11_distanceWithMoves (l : Launch) {D : va_G} {g : GT} {A : Nat → Prop} {a : Nat → Nat} {b : Nat → Nat → Nat} {M : Mem} {Q : Int → Mem → Prop} (hw : wp_X11_distanceWithMoves M Q) : Met l yX11_distanceWithMoves wsX11_distanceWithMoves ({ frames := 5, cells := 0, slots := 0, locals := 126 } : Room) (cPc D g A a b M [.ref (a 13)]) (cQi D g A a b Q) 0 0 A := by
  refine Met.ofW (cc := cX11_distanceWithMoves) (maxL := 1) (ret := (some .int)) (by decide) rfl ?_
  intro p e s m args below meth c s₁ B hml hv
  obtain ⟨rfl, hP, hD, hG⟩ := hv
  have X : vC p s m _ meth c D g A RX11 wsX11_distanceWithMoves cX11_distanceWithMoves 1 := ⟨B.exec, B.bytes, findClass_of_methodNamed B.named, atoms_spec (ws := wsX11_distanceWithMoves) B.pre, hG, hml, B.notSynchronized⟩
  have hr := B.returns
  have hl := lv_entry ([.ref (a 13)]) (n := 1) (Nat.le_of_ble_eq_true rfl)
  rw [lg_entry_eq]
  generalize (lg_sl ([.ref (a 13)]) ++ List.replicate (1 - (lg_sl ([.ref (a 13)])).length) Slot.unset).toArray = ls at hl ⊢
  have hl : lv_has ls 1 [(0, .ref (a 13))] := hl
  exact wke_X11_distanceWithMoves X hr  hw s.heap [] ls hP hD va_S.rf hl

theorem dX2_between_0 : decode cX2_between 0 = .ok (.aload_n 0, 1) := by decide +kernel
theorem dX2_between_1 : decode cX2_between 1 = .ok (.getfield 9, 3) := by decide +kernel
theorem dX2_between_4 : decode cX2_between 4 = .ok (.iload_n 1, 1) := by decide +kernel
theorem dX2_between_5 : decode cX2_between 5 = .ok (.bipush 12, 2) := by decide +kernel
theorem dX2_between_7 : decode cX2_between 7 = .ok (.imul, 1) := by decide +kernel
theorem dX2_between_8 : decode cX2_between 8 = .ok (.iload_n 2, 1) := by decide +kernel
theorem dX2_between_9 : decode cX2_between 9 = .ok (.iadd, 1) := by decide +kernel
theorem dX2_between_10 : decode cX2_between 10 = .ok (.iaload, 1) := by decide +kernel
theorem dX2_between_11 : decode cX2_between 11 = .ok (.ireturn, 1) := by decide +kernel
theorem lk_X2_between_f9 : Cond.fieldLink RX2 9 "TreeComparer$KeyrootTable" "ofTrees" "[I" ∈ wsX2_between := by decide +kernel
theorem hi_X2_between_2 : ∀ w ∈ u_ws RX2 TX2 3, w ∈ wsX2_between := by decide +kernel
def wpe_X2_between (p0 : Int) (p1 : Int) (M : Mem) (Q : Int → Mem → Prop) : Prop := ((0 : Int) ≤ (p0 * 12) + p1 ∧ (p0 * 12) + p1 < 144) ∧ Q ((M 3 1 ((p0 * 12) + p1).toNat)) M
def wp_X2_between (M : Mem) (p0 : Int) (p1 : Int) (Q : Int → Mem → Prop) : Prop := wpe_X2_between p0 p1 M Q
set_option maxHeartbeats 4000000 in
set_option maxRecDepth 100000 in
theorem wke_X2_between {p : Program} {l : Launch} {e : Env} {s : State} {m : MethodId} {args : Array Value} {below : List Frame} {meth : Method} {c : Code} {D : va_G} {g : GT} {A : Nat → Prop} {a : Nat → Nat} {b : Nat → Nat → Nat} (X : vC p s m args meth c D g A RX2 wsX2_between cX2_between 3) (hr : meth.sig.returnType = (some .int)) {p0 : Int} {p1 : Int} {M : Mem} {Q : Int → Mem → Prop} (hw : wpe_X2_between p0 p1 M Q) : vV p l e ({ frames := 0, cells := 0, slots := 0, locals := 0 } : Room) s m args below meth c D g A a b 3 0 0 (MQ below (cQi D g A a b Q) args s 0 0 A) M [(0, .ref (a 3)), (1, iv p0), (2, iv p1)] 0 [] := by
  unfold wpe_X2_between at hw
  refine V_aload_n X dX2_between_0 rfl (q := 0) rfl ?_
  refine V_get (C := RX2) (T := TX2) (N := 3) (ci := 2) X hi_X2_between_2 gO_3 rfl 1 (by decide) lk_X2_between_f9 (fun _ h9 => h9) rfl dX2_between_1 ?_
  refine V_iload_n X dX2_between_4 rfl (q := 1) rfl ?_
  refine V_bipush X dX2_between_5 rfl ?_
  refine V_imul X dX2_between_7 ?_
  refine V_iload_n X dX2_between_8 rfl (q := 2) rfl ?_
  refine V_iadd X dX2_between_9 ?_
  obtain ⟨h1, hw⟩ := hw
  refine V_iald X (gA_3_1) h1 (by decide) dX2_between_10 ?_
  exact V_iret X hr hw dX2_between_11
set_option maxHeartbeats 4000000 in
set_option maxRecDepth 100000 in
theorem c_X2_between (l : Launch) {p0 : Int} {p1 : Int} {D : va_G} {g : GT} {A : Nat → Prop} {a : Nat → Nat} {b : Nat → Nat → Nat} {M : Mem} {Q : Int → Mem → Prop} (hw : wp_X2_between M p0 p1 Q) : Met l yX2_between wsX2_between ({ frames := 0, cells := 0, slots := 0, locals := 0 } : Room) (cPc D g A a b M [.ref (a 3), iv p0, iv p1]) (cQi D g A a b Q) 0 0 A := by
  refine Met.ofW (cc := cX2_between) (maxL := 3) (ret := (some .int)) (by decide) rfl ?_
  intro p e s m args below meth c s₁ B hml hv
  obtain ⟨rfl, hP, hD, hG⟩ := hv
  have X : vC p s m _ meth c D g A RX2 wsX2_between cX2_between 3 := ⟨B.exec, B.bytes, findClass_of_methodNamed B.named, atoms_spec (ws := wsX2_between) B.pre, hG, hml, B.notSynchronized⟩
  have hr := B.returns
  have hl := lv_entry ([.ref (a 3), iv p0, iv p1]) (n := 3) (Nat.le_of_ble_eq_true rfl)
  rw [lg_entry_eq]
  generalize (lg_sl ([.ref (a 3), iv p0, iv p1]) ++ List.replicate (3 - (lg_sl ([.ref (a 3), iv p0, iv p1])).length) Slot.unset).toArray = ls at hl ⊢
  have hl : lv_has ls 3 [(0, .ref (a 3)), (1, iv p0), (2, iv p1)] := hl
  exact wke_X2_between X hr  hw s.heap [] ls hP hD va_S.rf hl

set_option maxRecDepth 20000 in
theorem ggX10_clear_X10_treeNumbered : GoodIn wsX10_clear wsX10_treeNumbered := goodIn_ca (goodIn_r _ [6, 7, 8, 9, 5, 10, 11, 12, 22, 23, 24, 25, 26, 27, 28, 29, 30, 31, 32, 33, 34, 35, 36] (by decide +kernel) (by decide +kernel)) (goodIn_sub (fun _ h => List.mem_cons_of_mem _ (List.mem_append_right _ h)) (by decide +kernel))
set_option maxRecDepth 20000 in
theorem gX10_clear_X10_treeNumbered : GoodIn wsX10_clear (wsV RX10 77 RX10 yX10_treeNumbered wsX10_treeNumbered) := goodIn_app (goodIn_of _ (by decide +kernel)) ggX10_clear_X10_treeNumbered
theorem dX10_clear_0 : decode cX10_clear 0 = .ok (.aload_n 0, 1) := by decide +kernel
theorem dX10_clear_1 : decode cX10_clear 1 = .ok (.iload_n 1, 1) := by decide +kernel
theorem dX10_clear_2 : decode cX10_clear 2 = .ok (.invokevirtual 77, 3) := by decide +kernel
theorem dX10_clear_5 : decode cX10_clear 5 = .ok (.iconst 0, 1) := by decide +kernel
theorem dX10_clear_6 : decode cX10_clear 6 = .ok (.putfield 88, 3) := by decide +kernel
theorem dX10_clear_9 : decode cX10_clear 9 = .ok (.aload_n 0, 1) := by decide +kernel
theorem dX10_clear_10 : decode cX10_clear 10 = .ok (.iconst 0, 1) := by decide +kernel
theorem dX10_clear_11 : decode cX10_clear 11 = .ok (.putfield 73, 3) := by decide +kernel
theorem dX10_clear_14 : decode cX10_clear 14 = .ok (.return_, 1) := by decide +kernel
theorem hi_X10_clear_9 : ∀ w ∈ u_ws RX9 TX9 9, w ∈ wsX10_clear := by decide +kernel
theorem lk_X10_clear_f73 : Cond.fieldLink RX10 73 "TreeComparer" "settled" "Z" ∈ wsX10_clear := by decide +kernel
theorem hi_X10_clear_10 : ∀ w ∈ u_ws RX10 TX10 9, w ∈ wsX10_clear := by decide +kernel
def wpe_X10_clear (p0 : Int) (M : Mem) (Q : Mem → Prop) (XQ : String → Mem → Prop) : Prop := wp_X10_treeNumbered M p0 (fun y1 M2 => isT y1 ∧ (∀ M3 : Mem, M3 = mset M2 y1 8 0 0 → (∀ M4 : Mem, M4 = mset M3 0 8 0 0 → Q M4))) XQ
def wp_X10_clear (M : Mem) (p0 : Int) (Q : Mem → Prop) (XQ : String → Mem → Prop) : Prop := wpe_X10_clear p0 M Q XQ
set_option maxHeartbeats 4000000 in
set_option maxRecDepth 100000 in
theorem wke_X10_clear {p : Program} {l : Launch} {e : Env} {s : State} {m : MethodId} {args : Array Value} {below : List Frame} {meth : Method} {c : Code} {D : va_G} {g : GT} {A : Nat → Prop} {a : Nat → Nat} {b : Nat → Nat → Nat} (X : vC p s m args meth c D g A RX10 wsX10_clear cX10_clear 2) (hr : meth.sig.returnType = none) {p0 : Int} (hlt : l.stackTraces = false) (htab : ∀ x ∈ c.exceptionTable.toList, False) {M : Mem} {Q : Mem → Prop} {XQ : String → Mem → Prop} (hw : wpe_X10_clear p0 M Q XQ) : vV p l e ({ frames := 8, cells := 1, slots := 6, locals := 132 } : Room) s m args below meth c D g A a b 2 0 0 (vx_MQ below (cQv D g A a b Q) (cX D g A a b XQ) args s 1 6 A) M [(0, .ref (a 0)), (1, iv p0)] 0 [] := by
  unfold wpe_X10_clear at hw
  refine V_aload_n X dX10_clear_0 rfl (q := 0) rfl ?_
  refine V_iload_n X dX10_clear_1 rfl (q := 1) rfl ?_
  refine V_callxV_r X _ _ gO_0 rfl (As := [iv p0]) (st := []) (c_X10_treeNumbered l hlt hw) (cwV 1 X.2.2.2.1 gX10_clear_X10_treeNumbered rfl rfl rfl (by decide +kernel) ⟨Nat.le_of_ble_eq_true rfl, Nat.le_of_ble_eq_true rfl⟩) rfl (Nat.le_of_ble_eq_true rfl) ⟨Nat.le_of_ble_eq_true rfl, Nat.le_of_ble_eq_true rfl⟩ rfl dX10_clear_2 (fun E ce q9 M9 H9 locs9 ls9 hx9 hP9 hD9 hS9 hl9 h91 h92 h93 => V_xout X htab (Nat.le_of_ble_eq_true rfl) (Nat.le_of_ble_eq_true rfl) hx9 hP9 hD9 hS9 h91 h92 h93) (fun y1 M2 hw => ?_)
  obtain ⟨hy1, hw⟩ := hw
  refine V_iconst X dX10_clear_5 ?_
  refine V_putN (C := RX9) (T := TX9) (N := 9) (ci := 9) X hi_X10_clear_9 (gTO hy1) rfl 8 (by decide) tyX9 tyX9_ok nmX9 rfl (tyX9_ok 8 (by decide)) (Or.inl rfl) (show 8 < 9 from by decide) (sTI_8 hy1) (List.mem_of_getElem? (i := 20) rfl) (fun _ h9 => h9) dX10_clear_6 (fun M3 eM3 => ?_)
  have hw := hw M3 eM3
  refine V_aload_n X dX10_clear_9 rfl (q := 0) rfl ?_
  refine V_iconst X dX10_clear_10 ?_
  refine V_put (C := RX10) (T := TX10) (N := 9) (ci := 10) X hi_X10_clear_10 gO_0 rfl 8 (by decide) tyX10 tyX10_ok nmX10 rfl (tyX10_ok 8 (by decide)) (Or.inr ⟨rfl, by decide⟩) (show 8 < 9 from by decide) sI_0_8 lk_X10_clear_f73 (fun _ h9 => h9) dX10_clear_11 (fun M4 eM4 => ?_)
  have hw := hw M4 eM4
  exact V_xret (Nat.le_of_ble_eq_true rfl) (Nat.le_of_ble_eq_true rfl) (V_vret X hr hw dX10_clear_14)
set_option maxHeartbeats 4000000 in
set_option maxRecDepth 100000 in
theorem c_X10_clear (l : Launch) {p0 : Int} (hlt : l.stackTraces = false) {D : va_G} {g : GT} {A : Nat → Prop} {a : Nat → Nat} {b : Nat → Nat → Nat} {M : Mem} {Q : Mem → Prop} {XQ : String → Mem → Prop} (hw : wp_X10_clear M p0 Q XQ) : vx_Met l yX10_clear wsX10_clear ({ frames := 8, cells := 1, slots := 6, locals := 132 } : Room) (cPc D g A a b M [.ref (a 0), iv p0]) (cQv D g A a b Q) (cX D g A a b XQ) 1 6 A := by
  refine vx_ofW (cc := cX10_clear) (maxL := 2) (ret := none) (by decide) rfl ?_
  intro p e s m args below meth c s₁ B hml htab hv
  obtain ⟨rfl, hP, hD, hG⟩ := hv
  have X : vC p s m _ meth c D g A RX10 wsX10_clear cX10_clear 2 := ⟨B.exec, B.bytes, findClass_of_methodNamed B.named, atoms_spec (ws := wsX10_clear) B.pre, hG, hml, B.notSynchronized⟩
  have hr := B.returns
  have hl := lv_entry ([.ref (a 0), iv p0]) (n := 2) (Nat.le_of_ble_eq_true rfl)
  rw [lg_entry_eq]
  generalize (lg_sl ([.ref (a 0), iv p0]) ++ List.replicate (2 - (lg_sl ([.ref (a 0), iv p0])).length) Slot.unset).toArray = ls at hl ⊢
  have hl : lv_has ls 2 [(0, .ref (a 0)), (1, iv p0)] := hl
  exact wke_X10_clear X hr hlt htab hw s.heap [] ls hP hD va_S.rf hl
