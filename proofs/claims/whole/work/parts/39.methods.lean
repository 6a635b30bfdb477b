set_option maxRecDepth 20000 in
theorem ggX7_showForest_X7_treeAfter : GoodIn wsX7_showForest wsX7_treeAfter := goodIn_r _ [12, 1, 13, 14, 15, 16, 17, 18, 19, 20, 21, 22, 40, 41, 42, 43, 44, 45] (by decide +kernel) (by decide +kernel)
set_option maxRecDepth 20000 in
theorem gX7_showForest_X7_treeAfter : GoodIn wsX7_showForest (wsV RX7 85 RX7 yX7_treeAfter wsX7_treeAfter) := goodIn_app (goodIn_of _ (by decide +kernel)) ggX7_showForest_X7_treeAfter
theorem dX7_showForest_0 : decode cX7_showForest 0 = .ok (.aload_n 0, 1) := by decide +kernel
theorem dX7_showForest_1 : decode cX7_showForest 1 = .ok (.iload_n 1, 1) := by decide +kernel
theorem dX7_showForest_2 : decode cX7_showForest 2 = .ok (.invokevirtual 85, 3) := by decide +kernel
theorem dX7_showForest_5 : decode cX7_showForest 5 = .ok (.astore_n 2, 1) := by decide +kernel
theorem dX7_showForest_6 : decode cX7_showForest 6 = .ok (.iload_n 1, 1) := by decide +kernel
theorem dX7_showForest_7 : decode cX7_showForest 7 = .ok (.aload_n 0, 1) := by decide +kernel
theorem dX7_showForest_8 : decode cX7_showForest 8 = .ok (.getfield 67, 3) := by decide +kernel
theorem dX7_showForest_11 : decode cX7_showForest 11 = .ok (.if_icmp .gt 7, 3) := by decide +kernel
theorem dX7_showForest_14 : decode cX7_showForest 14 = .ok (.iconst 1, 1) := by decide +kernel
theorem dX7_showForest_15 : decode cX7_showForest 15 = .ok (.goto 4, 3) := by decide +kernel
theorem dX7_showForest_18 : decode cX7_showForest 18 = .ok (.iconst 0, 1) := by decide +kernel
theorem dX7_showForest_19 : decode cX7_showForest 19 = .ok (.istore_n 3, 1) := by decide +kernel
theorem dX7_showForest_20 : decode cX7_showForest 20 = .ok (.iconst 0, 1) := by decide +kernel
theorem dX7_showForest_21 : decode cX7_showForest 21 = .ok (.istore 4, 2) := by decide +kernel
theorem dX7_showForest_23 : decode cX7_showForest 23 = .ok (.iload 4, 2) := by decide +kernel
theorem dX7_showForest_25 : decode cX7_showForest 25 = .ok (.aload_n 2, 1) := by decide +kernel
theorem dX7_showForest_26 : decode cX7_showForest 26 = .ok (.getfield 46, 3) := by decide +kernel
theorem dX7_showForest_29 : decode cX7_showForest 29 = .ok (.if_icmp .ge 39, 3) := by decide +kernel
theorem dX7_showForest_32 : decode cX7_showForest 32 = .ok (.aload_n 0, 1) := by decide +kernel
theorem dX7_showForest_33 : decode cX7_showForest 33 = .ok (.getfield 18, 3) := by decide +kernel
theorem dX7_showForest_36 : decode cX7_showForest 36 = .ok (.iload 4, 2) := by decide +kernel
theorem dX7_showForest_38 : decode cX7_showForest 38 = .ok (.iload_n 3, 1) := by decide +kernel
theorem dX7_showForest_39 : decode cX7_showForest 39 = .ok (.ifCond .ne 17, 3) := by decide +kernel
theorem dX7_showForest_42 : decode cX7_showForest 42 = .ok (.aload_n 0, 1) := by decide +kernel
theorem dX7_showForest_43 : decode cX7_showForest 43 = .ok (.getfield 29, 3) := by decide +kernel
theorem dX7_showForest_46 : decode cX7_showForest 46 = .ok (.getfield 70, 3) := by decide +kernel
theorem dX7_showForest_49 : decode cX7_showForest 49 = .ok (.iload 4, 2) := by decide +kernel
theorem dX7_showForest_51 : decode cX7_showForest 51 = .ok (.iaload, 1) := by decide +kernel
theorem dX7_showForest_52 : decode cX7_showForest 52 = .ok (.iconst (-1), 1) := by decide +kernel
theorem dX7_showForest_53 : decode cX7_showForest 53 = .ok (.if_icmp .eq 7, 3) := by decide +kernel
theorem dX7_showForest_56 : decode cX7_showForest 56 = .ok (.iconst 1, 1) := by decide +kernel
theorem dX7_showForest_57 : decode cX7_showForest 57 = .ok (.goto 4, 3) := by decide +kernel
theorem dX7_showForest_60 : decode cX7_showForest 60 = .ok (.iconst 0, 1) := by decide +kernel
theorem dX7_showForest_61 : decode cX7_showForest 61 = .ok (.bastore, 1) := by decide +kernel
theorem dX7_showForest_62 : decode cX7_showForest 62 = .ok (.iinc 4 1, 3) := by decide +kernel
theorem dX7_showForest_65 : decode cX7_showForest 65 = .ok (.goto (-42), 3) := by decide +kernel
theorem dX7_showForest_68 : decode cX7_showForest 68 = .ok (.iconst 0, 1) := by decide +kernel
theorem dX7_showForest_69 : decode cX7_showForest 69 = .ok (.istore 4, 2) := by decide +kernel
theorem dX7_showForest_71 : decode cX7_showForest 71 = .ok (.iload 4, 2) := by decide +kernel
theorem dX7_showForest_73 : decode cX7_showForest 73 = .ok (.iload_n 1, 1) := by decide +kernel
theorem dX7_showForest_74 : decode cX7_showForest 74 = .ok (.if_icmp .ge 67, 3) := by decide +kernel
theorem dX7_showForest_77 : decode cX7_showForest 77 = .ok (.iload_n 3, 1) := by decide +kernel
theorem dX7_showForest_78 : decode cX7_showForest 78 = .ok (.ifCond .eq 29, 3) := by decide +kernel
theorem dX7_showForest_81 : decode cX7_showForest 81 = .ok (.aload_n 0, 1) := by decide +kernel
theorem dX7_showForest_82 : decode cX7_showForest 82 = .ok (.getfield 9, 3) := by decide +kernel
theorem dX7_showForest_85 : decode cX7_showForest 85 = .ok (.iload 4, 2) := by decide +kernel
theorem dX7_showForest_87 : decode cX7_showForest 87 = .ok (.iaload, 1) := by decide +kernel
theorem dX7_showForest_88 : decode cX7_showForest 88 = .ok (.ifCond .ne 19, 3) := by decide +kernel
theorem dX7_showForest_91 : decode cX7_showForest 91 = .ok (.aload_n 0, 1) := by decide +kernel
theorem dX7_showForest_92 : decode cX7_showForest 92 = .ok (.getfield 18, 3) := by decide +kernel
theorem dX7_showForest_95 : decode cX7_showForest 95 = .ok (.aload_n 0, 1) := by decide +kernel
theorem dX7_showForest_96 : decode cX7_showForest 96 = .ok (.getfield 15, 3) := by decide +kernel
theorem dX7_showForest_99 : decode cX7_showForest 99 = .ok (.iload 4, 2) := by decide +kernel
theorem dX7_showForest_101 : decode cX7_showForest 101 = .ok (.iaload, 1) := by decide +kernel
theorem dX7_showForest_102 : decode cX7_showForest 102 = .ok (.iconst 0, 1) := by decide +kernel
theorem dX7_showForest_103 : decode cX7_showForest 103 = .ok (.bastore, 1) := by decide +kernel
theorem dX7_showForest_104 : decode cX7_showForest 104 = .ok (.goto 31, 3) := by decide +kernel
theorem dX7_showForest_107 : decode cX7_showForest 107 = .ok (.iload_n 3, 1) := by decide +kernel
theorem dX7_showForest_108 : decode cX7_showForest 108 = .ok (.ifCond .ne 27, 3) := by decide +kernel
theorem dX7_showForest_111 : decode cX7_showForest 111 = .ok (.aload_n 0, 1) := by decide +kernel
theorem dX7_showForest_112 : decode cX7_showForest 112 = .ok (.getfield 9, 3) := by decide +kernel
theorem dX7_showForest_115 : decode cX7_showForest 115 = .ok (.iload 4, 2) := by decide +kernel
theorem dX7_showForest_117 : decode cX7_showForest 117 = .ok (.iaload, 1) := by decide +kernel
theorem dX7_showForest_118 : decode cX7_showForest 118 = .ok (.iconst 2, 1) := by decide +kernel
theorem dX7_showForest_119 : decode cX7_showForest 119 = .ok (.if_icmp .ne 16, 3) := by decide +kernel
theorem dX7_showForest_122 : decode cX7_showForest 122 = .ok (.aload_n 0, 1) := by decide +kernel
theorem dX7_showForest_123 : decode cX7_showForest 123 = .ok (.getfield 18, 3) := by decide +kernel
theorem dX7_showForest_126 : decode cX7_showForest 126 = .ok (.aload_n 0, 1) := by decide +kernel
theorem dX7_showForest_127 : decode cX7_showForest 127 = .ok (.getfield 15, 3) := by decide +kernel
theorem dX7_showForest_130 : decode cX7_showForest 130 = .ok (.iload 4, 2) := by decide +kernel
theorem dX7_showForest_132 : decode cX7_showForest 132 = .ok (.iaload, 1) := by decide +kernel
theorem dX7_showForest_133 : decode cX7_showForest 133 = .ok (.iconst 1, 1) := by decide +kernel
theorem dX7_showForest_134 : decode cX7_showForest 134 = .ok (.bastore, 1) := by decide +kernel
theorem dX7_showForest_135 : decode cX7_showForest 135 = .ok (.iinc 4 1, 3) := by decide +kernel
theorem dX7_showForest_138 : decode cX7_showForest 138 = .ok (.goto (-67), 3) := by decide +kernel
theorem dX7_showForest_141 : decode cX7_showForest 141 = .ok (.aload_n 0, 1) := by decide +kernel
theorem dX7_showForest_142 : decode cX7_showForest 142 = .ok (.iconst 0, 1) := by decide +kernel
theorem dX7_showForest_143 : decode cX7_showForest 143 = .ok (.putfield 89, 3) := by decide +kernel
theorem dX7_showForest_146 : decode cX7_showForest 146 = .ok (.iconst 0, 1) := by decide +kernel
theorem dX7_showForest_147 : decode cX7_showForest 147 = .ok (.istore 4, 2) := by decide +kernel
theorem dX7_showForest_149 : decode cX7_showForest 149 = .ok (.iload 4, 2) := by decide +kernel
theorem dX7_showForest_151 : decode cX7_showForest 151 = .ok (.aload_n 2, 1) := by decide +kernel
theorem dX7_showForest_152 : decode cX7_showForest 152 = .ok (.getfield 46, 3) := by decide +kernel
theorem dX7_showForest_155 : decode cX7_showForest 155 = .ok (.if_icmp .ge 50, 3) := by decide +kernel
theorem dX7_showForest_158 : decode cX7_showForest 158 = .ok (.aload_n 0, 1) := by decide +kernel
theorem dX7_showForest_159 : decode cX7_showForest 159 = .ok (.getfield 18, 3) := by decide +kernel
theorem dX7_showForest_162 : decode cX7_showForest 162 = .ok (.aload_n 2, 1) := by decide +kernel
theorem dX7_showForest_163 : decode cX7_showForest 163 = .ok (.getfield 61, 3) := by decide +kernel
theorem dX7_showForest_166 : decode cX7_showForest 166 = .ok (.iload 4, 2) := by decide +kernel
theorem dX7_showForest_168 : decode cX7_showForest 168 = .ok (.iaload, 1) := by decide +kernel
theorem dX7_showForest_169 : decode cX7_showForest 169 = .ok (.baload, 1) := by decide +kernel
theorem dX7_showForest_170 : decode cX7_showForest 170 = .ok (.ifCond .eq 29, 3) := by decide +kernel
theorem dX7_showForest_173 : decode cX7_showForest 173 = .ok (.aload_n 0, 1) := by decide +kernel
theorem dX7_showForest_174 : decode cX7_showForest 174 = .ok (.getfield 22, 3) := by decide +kernel
theorem dX7_showForest_177 : decode cX7_showForest 177 = .ok (.aload_n 0, 1) := by decide +kernel
theorem dX7_showForest_178 : decode cX7_showForest 178 = .ok (.getfield 89, 3) := by decide +kernel
theorem dX7_showForest_181 : decode cX7_showForest 181 = .ok (.aload_n 2, 1) := by decide +kernel
theorem dX7_showForest_182 : decode cX7_showForest 182 = .ok (.getfield 61, 3) := by decide +kernel
theorem dX7_showForest_185 : decode cX7_showForest 185 = .ok (.iload 4, 2) := by decide +kernel
theorem dX7_showForest_187 : decode cX7_showForest 187 = .ok (.iaload, 1) := by decide +kernel
theorem dX7_showForest_188 : decode cX7_showForest 188 = .ok (.iastore, 1) := by decide +kernel
theorem dX7_showForest_189 : decode cX7_showForest 189 = .ok (.aload_n 0, 1) := by decide +kernel
theorem dX7_showForest_190 : decode cX7_showForest 190 = .ok (.dup, 1) := by decide +kernel
theorem dX7_showForest_191 : decode cX7_showForest 191 = .ok (.getfield 89, 3) := by decide +kernel
theorem dX7_showForest_194 : decode cX7_showForest 194 = .ok (.iconst 1, 1) := by decide +kernel
theorem dX7_showForest_195 : decode cX7_showForest 195 = .ok (.iadd, 1) := by decide +kernel
theorem dX7_showForest_196 : decode cX7_showForest 196 = .ok (.putfield 89, 3) := by decide +kernel
theorem dX7_showForest_199 : decode cX7_showForest 199 = .ok (.iinc 4 1, 3) := by decide +kernel
theorem dX7_showForest_202 : decode cX7_showForest 202 = .ok (.goto (-53), 3) := by decide +kernel
theorem dX7_showForest_205 : decode cX7_showForest 205 = .ok (.return_, 1) := by decide +kernel
theorem lk_X7_showForest_f67 : Cond.fieldLink RX7 67 "TreeComparer$Script" "oldCount" "I" ∈ wsX7_showForest := by decide +kernel
theorem hi_X7_showForest_7 : ∀ w ∈ u_ws RX7 TX7 9, w ∈ wsX7_showForest := by decide +kernel
theorem hi_X7_showForest_9 : ∀ w ∈ u_ws RX9 TX9 9, w ∈ wsX7_showForest := by decide +kernel
theorem lk_X7_showForest_f18 : Cond.fieldLink RX7 18 "TreeComparer$Script" "isShown" "[Z" ∈ wsX7_showForest := by decide +kernel
theorem lk_X7_showForest_f29 : Cond.fieldLink RX7 29 "TreeComparer$Script" "mapping" "LTreeComparer$Mapping;" ∈ wsX7_showForest := by decide +kernel
theorem hi_X7_showForest_4 : ∀ w ∈ u_ws RX4 TX4 8, w ∈ wsX7_showForest := by decide +kernel
theorem lk_X7_showForest_f89 : Cond.fieldLink RX7 89 "TreeComparer$Script" "shownCount" "I" ∈ wsX7_showForest := by decide +kernel
theorem lk_X7_showForest_f9 : Cond.fieldLink RX7 9 "TreeComparer$Script" "edit" "[I" ∈ wsX7_showForest := by decide +kernel
theorem lk_X7_showForest_f15 : Cond.fieldLink RX7 15 "TreeComparer$Script" "node" "[I" ∈ wsX7_showForest := by decide +kernel
theorem lk_X7_showForest_f22 : Cond.fieldLink RX7 22 "TreeComparer$Script" "shown" "[I" ∈ wsX7_showForest := by decide +kernel
def wpj_X7_showForest_199 (p0 : Int) (r2 : Nat) (x4 : Int) (M : Mem) (J23 : Nat → Int → Int → Mem → Prop) (J71 : Nat → Int → Int → Mem → Prop) (J149 : Nat → Int → Mem → Prop) (Q : Mem → Prop) : Prop := isT r2 ∧ J149 r2 (x4 + 1) M
def wph_X7_showForest_149 (p0 : Int) (r2 : Nat) (x4 : Int) (M : Mem) (J23 : Nat → Int → Int → Mem → Prop) (J71 : Nat → Int → Int → Mem → Prop) (J149 : Nat → Int → Mem → Prop) (Q : Mem → Prop) : Prop := isT r2 ∧ inR x4 ∧ inR (M r2 8 0) ∧ (((M r2 8 0) ≤ x4 → Q M) ∧ (¬ ((M r2 8 0) ≤ x4) → ((0 : Int) ≤ x4 ∧ x4 < 12) ∧ ((0 : Int) ≤ (M r2 3 x4.toNat) ∧ (M r2 3 x4.toNat) < 12) ∧ inR (M 7 6 ((M r2 3 x4.toNat)).toNat) ∧ (((M 7 6 ((M r2 3 x4.toNat)).toNat) = 0 → wpj_X7_showForest_199 p0 r2 x4 M J23 J71 J149 Q) ∧ (¬ ((M 7 6 ((M r2 3 x4.toNat)).toNat) = 0) → ((0 : Int) ≤ x4 ∧ x4 < 12) ∧ ((0 : Int) ≤ (M 7 8 0) ∧ (M 7 8 0) < 12) ∧ (∀ M45 : Mem, M45 = mset M 7 7 ((M 7 8 0)).toNat ((M r2 3 x4.toNat)) → (∀ M47 : Mem, M47 = mset M45 7 8 0 ((M45 7 8 0) + 1) → wpj_X7_showForest_199 p0 r2 x4 M47 J23 J71 J149 Q))))))
def wpj_X7_showForest_135 (p0 : Int) (r2 : Nat) (x3 : Int) (x4 : Int) (M : Mem) (J23 : Nat → Int → Int → Mem → Prop) (J71 : Nat → Int → Int → Mem → Prop) (J149 : Nat → Int → Mem → Prop) (Q : Mem → Prop) : Prop := isT r2 ∧ J71 r2 x3 (x4 + 1) M
def wpj_X7_showForest_107 (p0 : Int) (r2 : Nat) (x3 : Int) (x4 : Int) (M : Mem) (J23 : Nat → Int → Int → Mem → Prop) (J71 : Nat → Int → Int → Mem → Prop) (J149 : Nat → Int → Mem → Prop) (Q : Mem → Prop) : Prop := isT r2 ∧ inR x3 ∧ ((x3 ≠ 0 → wpj_X7_showForest_135 p0 r2 x3 x4 M J23 J71 J149 Q) ∧ (¬ (x3 ≠ 0) → ((0 : Int) ≤ x4 ∧ x4 < 24) ∧ inR (M 7 2 x4.toNat) ∧ (((M 7 2 x4.toNat) ≠ 2 → wpj_X7_showForest_135 p0 r2 x3 x4 M J23 J71 J149 Q) ∧ (¬ ((M 7 2 x4.toNat) ≠ 2) → ((0 : Int) ≤ x4 ∧ x4 < 24) ∧ ((0 : Int) ≤ (M 7 3 x4.toNat) ∧ (M 7 3 x4.toNat) < 12) ∧ (∀ M35 : Mem, M35 = mset M 7 6 ((M 7 3 x4.toNat)).toNat 1 → wpj_X7_showForest_135 p0 r2 x3 x4 M35 J23 J71 J149 Q)))))
def wph_X7_showForest_71 (p0 : Int) (r2 : Nat) (x3 : Int) (x4 : Int) (M : Mem) (J23 : Nat → Int → Int → Mem → Prop) (J71 : Nat → Int → Int → Mem → Prop) (J149 : Nat → Int → Mem → Prop) (Q : Mem → Prop) : Prop := isT r2 ∧ inR x4 ∧ inR p0 ∧ ((p0 ≤ x4 → (∀ M20 : Mem, M20 = mset M 7 8 0 0 → J149 r2 0 M20)) ∧ (¬ (p0 ≤ x4) → inR x3 ∧ ((x3 = 0 → wpj_X7_showForest_107 p0 r2 x3 x4 M J23 J71 J149 Q) ∧ (¬ (x3 = 0) → ((0 : Int) ≤ x4 ∧ x4 < 24) ∧ inR (M 7 2 x4.toNat) ∧ (((M 7 2 x4.toNat) ≠ 0 → wpj_X7_showForest_107 p0 r2 x3 x4 M J23 J71 J149 Q) ∧ (¬ ((M 7 2 x4.toNat) ≠ 0) → ((0 : Int) ≤ x4 ∧ x4 < 24) ∧ ((0 : Int) ≤ (M 7 3 x4.toNat) ∧ (M 7 3 x4.toNat) < 12) ∧ (∀ M27 : Mem, M27 = mset M 7 6 ((M 7 3 x4.toNat)).toNat 0 → wpj_X7_showForest_135 p0 r2 x3 x4 M27 J23 J71 J149 Q)))))))
def wpj_X7_showForest_61 (p0 : Int) (r2 : Nat) (x3 : Int) (x4 : Int) (s0 : Int) (s1 : Int) (M : Mem) (J23 : Nat → Int → Int → Mem → Prop) (J71 : Nat → Int → Int → Mem → Prop) (J149 : Nat → Int → Mem → Prop) (Q : Mem → Prop) : Prop := isT r2 ∧ ((0 : Int) ≤ s1 ∧ s1 < 12) ∧ (s0 = 0 ∨ s0 = 1) ∧ (∀ M14 : Mem, M14 = mset M 7 6 s1.toNat s0 → J23 r2 x3 (x4 + 1) M14)
def wpj_X7_showForest_56 (p0 : Int) (r2 : Nat) (x3 : Int) (x4 : Int) (s0 : Int) (M : Mem) (J23 : Nat → Int → Int → Mem → Prop) (J71 : Nat → Int → Int → Mem → Prop) (J149 : Nat → Int → Mem → Prop) (Q : Mem → Prop) : Prop := isT r2 ∧ wpj_X7_showForest_61 p0 r2 x3 x4 1 s0 M J23 J71 J149 Q
def wph_X7_showForest_23 (p0 : Int) (r2 : Nat) (x3 : Int) (x4 : Int) (M : Mem) (J23 : Nat → Int → Int → Mem → Prop) (J71 : Nat → Int → Int → Mem → Prop) (J149 : Nat → Int → Mem → Prop) (Q : Mem → Prop) : Prop := isT r2 ∧ inR x4 ∧ inR (M r2 8 0) ∧ (((M r2 8 0) ≤ x4 → J71 r2 x3 0 M) ∧ (¬ ((M r2 8 0) ≤ x4) → inR x3 ∧ ((x3 ≠ 0 → wpj_X7_showForest_56 p0 r2 x3 x4 x4 M J23 J71 J149 Q) ∧ (¬ (x3 ≠ 0) → ((0 : Int) ≤ x4 ∧ x4 < 12) ∧ inR (M 6 3 x4.toNat) ∧ (((M 6 3 x4.toNat) = (-1) → wpj_X7_showForest_61 p0 r2 x3 x4 0 x4 M J23 J71 J149 Q) ∧ (¬ ((M 6 3 x4.toNat) = (-1)) → wpj_X7_showForest_56 p0 r2 x3 x4 x4 M J23 J71 J149 Q))))))
def wpj_X7_showForest_19 (p0 : Int) (r2 : Nat) (s0 : Int) (M : Mem) (J23 : Nat → Int → Int → Mem → Prop) (J71 : Nat → Int → Int → Mem → Prop) (J149 : Nat → Int → Mem → Prop) (Q : Mem → Prop) : Prop := isT r2 ∧ J23 r2 s0 0 M
def wpe_X7_showForest (p0 : Int) (M : Mem) (J23 : Nat → Int → Int → Mem → Prop) (J71 : Nat → Int → Int → Mem → Prop) (J149 : Nat → Int → Mem → Prop) (Q : Mem → Prop) : Prop := wp_X7_treeAfter M p0 (fun y1 M2 => isT y1 ∧ inR p0 ∧ inR (M2 7 5 0) ∧ (((M2 7 5 0) < p0 → wpj_X7_showForest_19 p0 y1 0 M2 J23 J71 J149 Q) ∧ (¬ ((M2 7 5 0) < p0) → wpj_X7_showForest_19 p0 y1 1 M2 J23 J71 J149 Q)))
def wp_X7_showForest (M : Mem) (p0 : Int) (Q : Mem → Prop) : Prop := ∃ (I23 : Nat → Nat → Int → Int → Mem → Prop) (I71 : Nat → Nat → Int → Int → Mem → Prop) (I149 : Nat → Nat → Int → Mem → Prop), wpe_X7_showForest p0 M (fun (r2 : Nat) (x3 : Int) (x4 : Int) (M1 : Mem) => ∃ n1 : Nat, I23 n1 r2 x3 x4 M1) (fun (r2 : Nat) (x3 : Int) (x4 : Int) (M1 : Mem) => ∃ n1 : Nat, I71 n1 r2 x3 x4 M1) (fun (r2 : Nat) (x4 : Int) (M1 : Mem) => ∃ n1 : Nat, I149 n1 r2 x4 M1) Q ∧ (∀ (n : Nat) (r2 : Nat) (x3 : Int) (x4 : Int) (M : Mem), I23 n r2 x3 x4 M → wph_X7_showForest_23 p0 r2 x3 x4 M (fun (r2 : Nat) (x3 : Int) (x4 : Int) (M1 : Mem) => ∃ n1 : Nat, n1 < n ∧ I23 n1 r2 x3 x4 M1) (fun (r2 : Nat) (x3 : Int) (x4 : Int) (M1 : Mem) => ∃ n1 : Nat, n1 < n ∧ I71 n1 r2 x3 x4 M1) (fun (r2 : Nat) (x4 : Int) (M1 : Mem) => ∃ n1 : Nat, n1 < n ∧ I149 n1 r2 x4 M1) Q) ∧ (∀ (n : Nat) (r2 : Nat) (x3 : Int) (x4 : Int) (M : Mem), I71 n r2 x3 x4 M → wph_X7_showForest_71 p0 r2 x3 x4 M (fun (r2 : Nat) (x3 : Int) (x4 : Int) (M1 : Mem) => ∃ n1 : Nat, n1 < n ∧ I23 n1 r2 x3 x4 M1) (fun (r2 : Nat) (x3 : Int) (x4 : Int) (M1 : Mem) => ∃ n1 : Nat, n1 < n ∧ I71 n1 r2 x3 x4 M1) (fun (r2 : Nat) (x4 : Int) (M1 : Mem) => ∃ n1 : Nat, n1 < n ∧ I149 n1 r2 x4 M1) Q) ∧ (∀ (n : Nat) (r2 : Nat) (x4 : Int) (M : Mem), I149 n r2 x4 M → wph_X7_showForest_149 p0 r2 x4 M (fun (r2 : Nat) (x3 : Int) (x4 : Int) (M1 : Mem) => ∃ n1 : Nat, n1 < n ∧ I23 n1 r2 x3 x4 M1) (fun (r2 : Nat) (x3 : Int) (x4 : Int) (M1 : Mem) => ∃ n1 : Nat, n1 < n ∧ I71 n1 r2 x3 x4 M1) (fun (r2 : Nat) (x4 : Int) (M1 : Mem) => ∃ n1 : Nat, n1 < n ∧ I149 n1 r2 x4 M1) Q)
set_option maxHeartbeats 4000000 in
set_option maxRecDepth 100000 in
theorem wkj_X7_showForest_199 {p : Program} {l : Launch} {e : Env} {s : State} {m : MethodId} {args : Array Value} {below : List Frame} {meth : Method} {c : Code} {D : va_G} {g : GT} {A : Nat → Prop} {a : Nat → Nat} {b : Nat → Nat → Nat} (X : vC p s m args meth c D g A RX7 wsX7_showForest cX7_showForest 5) (hr : meth.sig.returnType = none) {p0 : Int} {r2 : Nat} {x4 : Int} {M : Mem} {J23 : Nat → Int → Int → Mem → Prop} {J71 : Nat → Int → Int → Mem → Prop} {J149 : Nat → Int → Mem → Prop} {Q : Mem → Prop} (hJ23 : ∀ (r2 : Nat) (x3 : Int) (x4 : Int) (M : Mem), J23 r2 x3 x4 M → vV p l e ({ frames := 1, cells := 0, slots := 0, locals := 21 } : Room) s m args below meth c D g A a b 5 0 0 (MQ below (cQv D g A a b Q) args s 0 0 A) M [(0, .ref (a 7)), (1, iv p0), (2, .ref (a r2)), (3, iv x3), (4, iv x4)] 23 []) (hJ71 : ∀ (r2 : Nat) (x3 : Int) (x4 : Int) (M : Mem), J71 r2 x3 x4 M → vV p l e ({ frames := 1, cells := 0, slots := 0, locals := 21 } : Room) s m args below meth c D g A a b 5 0 0 (MQ below (cQv D g A a b Q) args s 0 0 A) M [(0, .ref (a 7)), (1, iv p0), (2, .ref (a r2)), (3, iv x3), (4, iv x4)] 71 []) (hJ149 : ∀ (r2 : Nat) (x4 : Int) (M : Mem), J149 r2 x4 M → vV p l e ({ frames := 1, cells := 0, slots := 0, locals := 21 } : Room) s m args below meth c D g A a b 5 0 0 (MQ below (cQv D g A a b Q) args s 0 0 A) M [(0, .ref (a 7)), (2, .ref (a r2)), (4, iv x4)] 149 []) (hw : wpj_X7_showForest_199 p0 r2 x4 M J23 J71 J149 Q) : vV p l e ({ frames := 1, cells := 0, slots := 0, locals := 21 } : Room) s m args below meth c D g A a b 5 0 0 (MQ below (cQv D g A a b Q) args s 0 0 A) M [(0, .ref (a 7)), (2, .ref (a r2)), (4, iv x4)] 199 [] := by
  unfold wpj_X7_showForest_199 at hw
  obtain ⟨hr2, hw⟩ := hw
  refine V_iinc (lv1 := [(0, .ref (a 7)), (2, .ref (a r2)), (4, iv (x4 + 1))]) X [1, 2, 0] dX7_showForest_199 (q := 2) rfl (by decide) rfl ?_
  refine V_goto (tgt := 149) X dX7_showForest_202 (by decide) ?_
  exact hJ149 _ _ _ hw
set_option maxHeartbeats 4000000 in
set_option maxRecDepth 100000 in
theorem wkh_X7_showForest_149 {p : Program} {l : Launch} {e : Env} {s : State} {m : MethodId} {args : Array Value} {below : List Frame} {meth : Method} {c : Code} {D : va_G} {g : GT} {A : Nat → Prop} {a : Nat → Nat} {b : Nat → Nat → Nat} (X : vC p s m args meth c D g A RX7 wsX7_showForest cX7_showForest 5) (hr : meth.sig.returnType = none) {p0 : Int} {r2 : Nat} {x4 : Int} {M : Mem} {J23 : Nat → Int → Int → Mem → Prop} {J71 : Nat → Int → Int → Mem → Prop} {J149 : Nat → Int → Mem → Prop} {Q : Mem → Prop} (hJ23 : ∀ (r2 : Nat) (x3 : Int) (x4 : Int) (M : Mem), J23 r2 x3 x4 M → vV p l e ({ frames := 1, cells := 0, slots := 0, locals := 21 } : Room) s m args below meth c D g A a b 5 0 0 (MQ below (cQv D g A a b Q) args s 0 0 A) M [(0, .ref (a 7)), (1, iv p0), (2, .ref (a r2)), (3, iv x3), (4, iv x4)] 23 []) (hJ71 : ∀ (r2 : Nat) (x3 : Int) (x4 : Int) (M : Mem), J71 r2 x3 x4 M → vV p l e ({ frames := 1, cells := 0, slots := 0, locals := 21 } : Room) s m args below meth c D g A a b 5 0 0 (MQ below (cQv D g A a b Q) args s 0 0 A) M [(0, .ref (a 7)), (1, iv p0), (2, .ref (a r2)), (3, iv x3), (4, iv x4)] 71 []) (hJ149 : ∀ (r2 : Nat) (x4 : Int) (M : Mem), J149 r2 x4 M → vV p l e ({ frames := 1, cells := 0, slots := 0, locals := 21 } : Room) s m args below meth c D g A a b 5 0 0 (MQ below (cQv D g A a b Q) args s 0 0 A) M [(0, .ref (a 7)), (2, .ref (a r2)), (4, iv x4)] 149 []) (hw : wph_X7_showForest_149 p0 r2 x4 M J23 J71 J149 Q) : vV p l e ({ frames := 1, cells := 0, slots := 0, locals := 21 } : Room) s m args below meth c D g A a b 5 0 0 (MQ below (cQv D g A a b Q) args s 0 0 A) M [(0, .ref (a 7)), (2, .ref (a r2)), (4, iv x4)] 149 [] := by
  unfold wph_X7_showForest_149 at hw
  obtain ⟨hr2, hw⟩ := hw
  refine V_iload X dX7_showForest_149 (q := 2) rfl ?_
  refine V_aload_n X dX7_showForest_151 rfl (q := 1) rfl ?_
  refine V_getN (C := RX9) (T := TX9) (N := 9) (ci := 9) X hi_X7_showForest_9 (gTO hr2) rfl 8 (by decide) (List.mem_of_getElem? (i := 21) rfl) (fun _ h9 => h9) rfl dX7_showForest_152 ?_
  obtain ⟨h37, h38, hw⟩ := hw
  refine V_icmp_ge (tgt := 205) X h37 h38 dX7_showForest_155 (by decide) (fun q39 => ?_) (fun q39 => ?_)
  · have hw := hw.1 q39
    exact V_vret X hr hw dX7_showForest_205
  · have hw := hw.2 q39
    refine V_aload_n X dX7_showForest_158 rfl (q := 0) rfl ?_
    refine V_get (C := RX7) (T := TX7) (N := 9) (ci := 7) X hi_X7_showForest_7 gO_7 rfl 6 (by decide) lk_X7_showForest_f18 (fun _ h9 => h9) rfl dX7_showForest_159 ?_
    refine V_aload_n X dX7_showForest_162 rfl (q := 1) rfl ?_
    refine V_getN (C := RX9) (T := TX9) (N := 9) (ci := 9) X hi_X7_showForest_9 (gTO hr2) rfl 3 (by decide) (List.mem_of_getElem? (i := 10) rfl) (fun _ h9 => h9) rfl dX7_showForest_163 ?_
    refine V_iload X dX7_showForest_166 (q := 2) rfl ?_
    obtain ⟨h40, hw⟩ := hw
    refine V_iald X ((gT_3 hr2)) h40 (by decide) dX7_showForest_168 ?_
    obtain ⟨h41, hw⟩ := hw
    refine V_zald X (gA_7_6) h41 (by decide) dX7_showForest_169 ?_
    obtain ⟨h42, hw⟩ := hw
    refine V_if_eq (tgt := 199) X h42 dX7_showForest_170 (by decide) (fun q43 => ?_) (fun q43 => ?_)
    · have hw := hw.1 q43
      exact wkj_X7_showForest_199 X hr hJ23 hJ71 hJ149 hw
    · have hw := hw.2 q43
      refine V_aload_n X dX7_showForest_173 rfl (q := 0) rfl ?_
      refine V_get (C := RX7) (T := TX7) (N := 9) (ci := 7) X hi_X7_showForest_7 gO_7 rfl 7 (by decide) lk_X7_showForest_f22 (fun _ h9 => h9) rfl dX7_showForest_174 ?_
      refine V_aload_n X dX7_showForest_177 rfl (q := 0) rfl ?_
      refine V_get (C := RX7) (T := TX7) (N := 9) (ci := 7) X hi_X7_showForest_7 gO_7 rfl 8 (by decide) lk_X7_showForest_f89 (fun _ h9 => h9) rfl dX7_showForest_178 ?_
      refine V_aload_n X dX7_showForest_181 rfl (q := 1) rfl ?_
      refine V_getN (C := RX9) (T := TX9) (N := 9) (ci := 9) X hi_X7_showForest_9 (gTO hr2) rfl 3 (by decide) (List.mem_of_getElem? (i := 10) rfl) (fun _ h9 => h9) rfl dX7_showForest_182 ?_
      refine V_iload X dX7_showForest_185 (q := 2) rfl ?_
      obtain ⟨h44, hw⟩ := hw
      refine V_iald X ((gT_3 hr2)) h44 (by decide) dX7_showForest_187 ?_
      obtain ⟨h46, hw⟩ := hw
      refine V_iast X (gA_7_7) (sA_7_7) h46 (by decide) dX7_showForest_188 (fun M45 eM45 => ?_)
      have hw := hw M45 eM45
      refine V_aload_n X dX7_showForest_189 rfl (q := 0) rfl ?_
      refine V_dup X dX7_showForest_190 rfl ?_
      refine V_get (C := RX7) (T := TX7) (N := 9) (ci := 7) X hi_X7_showForest_7 gO_7 rfl 8 (by decide) lk_X7_showForest_f89 (fun _ h9 => h9) rfl dX7_showForest_191 ?_
      refine V_iconst X dX7_showForest_194 ?_
      refine V_iadd X dX7_showForest_195 ?_
      refine V_put (C := RX7) (T := TX7) (N := 9) (ci := 7) X hi_X7_showForest_7 gO_7 rfl 8 (by decide) tyX7 tyX7_ok nmX7 rfl (tyX7_ok 8 (by decide)) (Or.inl rfl) (show 8 < 9 from by decide) sI_7_8 lk_X7_showForest_f89 (fun _ h9 => h9) dX7_showForest_196 (fun M47 eM47 => ?_)
      have hw := hw M47 eM47
      exact wkj_X7_showForest_199 X hr hJ23 hJ71 hJ149 hw
set_option maxHeartbeats 4000000 in
set_option maxRecDepth 100000 in
theorem wkj_X7_showForest_135 {p : Program} {l : Launch} {e : Env} {s : State} {m : MethodId} {args : Array Value} {below : List Frame} {meth : Method} {c : Code} {D : va_G} {g : GT} {A : Nat → Prop} {a : Nat → Nat} {b : Nat → Nat → Nat} (X : vC p s m args meth c D g A RX7 wsX7_showForest cX7_showForest 5) (hr : meth.sig.returnType = none) {p0 : Int} {r2 : Nat} {x3 : Int} {x4 : Int} {M : Mem} {J23 : Nat → Int → Int → Mem → Prop} {J71 : Nat → Int → Int → Mem → Prop} {J149 : Nat → Int → Mem → Prop} {Q : Mem → Prop} (hJ23 : ∀ (r2 : Nat) (x3 : Int) (x4 : Int) (M : Mem), J23 r2 x3 x4 M → vV p l e ({ frames := 1, cells := 0, slots := 0, locals := 21 } : Room) s m args below meth c D g A a b 5 0 0 (MQ below (cQv D g A a b Q) args s 0 0 A) M [(0, .ref (a 7)), (1, iv p0), (2, .ref (a r2)), (3, iv x3), (4, iv x4)] 23 []) (hJ71 : ∀ (r2 : Nat) (x3 : Int) (x4 : Int) (M : Mem), J71 r2 x3 x4 M → vV p l e ({ frames := 1, cells := 0, slots := 0, locals := 21 } : Room) s m args below meth c D g A a b 5 0 0 (MQ below (cQv D g A a b Q) args s 0 0 A) M [(0, .ref (a 7)), (1, iv p0), (2, .ref (a r2)), (3, iv x3), (4, iv x4)] 71 []) (hJ149 : ∀ (r2 : Nat) (x4 : Int) (M : Mem), J149 r2 x4 M → vV p l e ({ frames := 1, cells := 0, slots := 0, locals := 21 } : Room) s m args below meth c D g A a b 5 0 0 (MQ below (cQv D g A a b Q) args s 0 0 A) M [(0, .ref (a 7)), (2, .ref (a r2)), (4, iv x4)] 149 []) (hw : wpj_X7_showForest_135 p0 r2 x3 x4 M J23 J71 J149 Q) : vV p l e ({ frames := 1, cells := 0, slots := 0, locals := 21 } : Room) s m args below meth c D g A a b 5 0 0 (MQ below (cQv D g A a b Q) args s 0 0 A) M [(0, .ref (a 7)), (1, iv p0), (2, .ref (a r2)), (3, iv x3), (4, iv x4)] 135 [] := by
  unfold wpj_X7_showForest_135 at hw
  obtain ⟨hr2, hw⟩ := hw
  refine V_iinc (lv1 := [(0, .ref (a 7)), (1, iv p0), (2, .ref (a r2)), (3, iv x3), (4, iv (x4 + 1))]) X [1, 2, 3, 4, 0] dX7_showForest_135 (q := 4) rfl (by decide) rfl ?_
  refine V_goto (tgt := 71) X dX7_showForest_138 (by decide) ?_
  exact hJ71 _ _ _ _ hw
set_option maxHeartbeats 4000000 in
set_option maxRecDepth 100000 in
theorem wkj_X7_showForest_107 {p : Program} {l : Launch} {e : Env} {s : State} {m : MethodId} {args : Array Value} {below : List Frame} {meth : Method} {c : Code} {D : va_G} {g : GT} {A : Nat → Prop} {a : Nat → Nat} {b : Nat → Nat → Nat} (X : vC p s m args meth c D g A RX7 wsX7_showForest cX7_showForest 5) (hr : meth.sig.returnType = none) {p0 : Int} {r2 : Nat} {x3 : Int} {x4 : Int} {M : Mem} {J23 : Nat → Int → Int → Mem → Prop} {J71 : Nat → Int → Int → Mem → Prop} {J149 : Nat → Int → Mem → Prop} {Q : Mem → Prop} (hJ23 : ∀ (r2 : Nat) (x3 : Int) (x4 : Int) (M : Mem), J23 r2 x3 x4 M → vV p l e ({ frames := 1, cells := 0, slots := 0, locals := 21 } : Room) s m args below meth c D g A a b 5 0 0 (MQ below (cQv D g A a b Q) args s 0 0 A) M [(0, .ref (a 7)), (1, iv p0), (2, .ref (a r2)), (3, iv x3), (4, iv x4)] 23 []) (hJ71 : ∀ (r2 : Nat) (x3 : Int) (x4 : Int) (M : Mem), J71 r2 x3 x4 M → vV p l e ({ frames := 1, cells := 0, slots := 0, locals := 21 } : Room) s m args below meth c D g A a b 5 0 0 (MQ below (cQv D g A a b Q) args s 0 0 A) M [(0, .ref (a 7)), (1, iv p0), (2, .ref (a r2)), (3, iv x3), (4, iv x4)] 71 []) (hJ149 : ∀ (r2 : Nat) (x4 : Int) (M : Mem), J149 r2 x4 M → vV p l e ({ frames := 1, cells := 0, slots := 0, locals := 21 } : Room) s m args below meth c D g A a b 5 0 0 (MQ below (cQv D g A a b Q) args s 0 0 A) M [(0, .ref (a 7)), (2, .ref (a r2)), (4, iv x4)] 149 []) (hw : wpj_X7_showForest_107 p0 r2 x3 x4 M J23 J71 J149 Q) : vV p l e ({ frames := 1, cells := 0, slots := 0, locals := 21 } : Room) s m args below meth c D g A a b 5 0 0 (MQ below (cQv D g A a b Q) args s 0 0 A) M [(0, .ref (a 7)), (1, iv p0), (2, .ref (a r2)), (3, iv x3), (4, iv x4)] 107 [] := by
  unfold wpj_X7_showForest_107 at hw
  obtain ⟨hr2, hw⟩ := hw
  refine V_iload_n X dX7_showForest_107 rfl (q := 3) rfl ?_
  obtain ⟨h29, hw⟩ := hw
  refine V_if_ne (tgt := 135) X h29 dX7_showForest_108 (by decide) (fun q30 => ?_) (fun q30 => ?_)
  · have hw := hw.1 q30
    exact wkj_X7_showForest_135 X hr hJ23 hJ71 hJ149 hw
  · have hw := hw.2 q30
    refine V_aload_n X dX7_showForest_111 rfl (q := 0) rfl ?_
    refine V_get (C := RX7) (T := TX7) (N := 9) (ci := 7) X hi_X7_showForest_7 gO_7 rfl 2 (by decide) lk_X7_showForest_f9 (fun _ h9 => h9) rfl dX7_showForest_112 ?_
    refine V_iload X dX7_showForest_115 (q := 4) rfl ?_
    obtain ⟨h31, hw⟩ := hw
    refine V_iald X (gA_7_2) h31 (by decide) dX7_showForest_117 ?_
    refine V_iconst X dX7_showForest_118 ?_
    obtain ⟨h32, hw⟩ := hw
    refine V_icmp_ne (tgt := 135) X h32 ⟨by decide, by decide⟩ dX7_showForest_119 (by decide) (fun q33 => ?_) (fun q33 => ?_)
    · have hw := hw.1 q33
      exact wkj_X7_showForest_135 X hr hJ23 hJ71 hJ149 hw
    · have hw := hw.2 q33
      refine V_aload_n X dX7_showForest_122 rfl (q := 0) rfl ?_
      refine V_get (C := RX7) (T := TX7) (N := 9) (ci := 7) X hi_X7_showForest_7 gO_7 rfl 6 (by decide) lk_X7_showForest_f18 (fun _ h9 => h9) rfl dX7_showForest_123 ?_
      refine V_aload_n X dX7_showForest_126 rfl (q := 0) rfl ?_
      refine V_get (C := RX7) (T := TX7) (N := 9) (ci := 7) X hi_X7_showForest_7 gO_7 rfl 3 (by decide) lk_X7_showForest_f15 (fun _ h9 => h9) rfl dX7_showForest_127 ?_
      refine V_iload X dX7_showForest_130 (q := 4) rfl ?_
      obtain ⟨h34, hw⟩ := hw
      refine V_iald X (gA_7_3) h34 (by decide) dX7_showForest_132 ?_
      refine V_iconst X dX7_showForest_133 ?_
      obtain ⟨h36, hw⟩ := hw
      refine V_zast X (gA_7_6) (sA_7_6) h36 (by decide) (by decide) dX7_showForest_134 (fun M35 eM35 => ?_)
      have hw := hw M35 eM35
      exact wkj_X7_showForest_135 X hr hJ23 hJ71 hJ149 hw
set_option maxHeartbeats 4000000 in
set_option maxRecDepth 100000 in
theorem wkh_X7_showForest_71 {p : Program} {l : Launch} {e : Env} {s : State} {m : MethodId} {args : Array Value} {below : List Frame} {meth : Method} {c : Code} {D : va_G} {g : GT} {A : Nat → Prop} {a : Nat → Nat} {b : Nat → Nat → Nat} (X : vC p s m args meth c D g A RX7 wsX7_showForest cX7_showForest 5) (hr : meth.sig.returnType = none) {p0 : Int} {r2 : Nat} {x3 : Int} {x4 : Int} {M : Mem} {J23 : Nat → Int → Int → Mem → Prop} {J71 : Nat → Int → Int → Mem → Prop} {J149 : Nat → Int → Mem → Prop} {Q : Mem → Prop} (hJ23 : ∀ (r2 : Nat) (x3 : Int) (x4 : Int) (M : Mem), J23 r2 x3 x4 M → vV p l e ({ frames := 1, cells := 0, slots := 0, locals := 21 } : Room) s m args below meth c D g A a b 5 0 0 (MQ below (cQv D g A a b Q) args s 0 0 A) M [(0, .ref (a 7)), (1, iv p0), (2, .ref (a r2)), (3, iv x3), (4, iv x4)] 23 []) (hJ71 : ∀ (r2 : Nat) (x3 : Int) (x4 : Int) (M : Mem), J71 r2 x3 x4 M → vV p l e ({ frames := 1, cells := 0, slots := 0, locals := 21 } : Room) s m args below meth c D g A a b 5 0 0 (MQ below (cQv D g A a b Q) args s 0 0 A) M [(0, .ref (a 7)), (1, iv p0), (2, .ref (a r2)), (3, iv x3), (4, iv x4)] 71 []) (hJ149 : ∀ (r2 : Nat) (x4 : Int) (M : Mem), J149 r2 x4 M → vV p l e ({ frames := 1, cells := 0, slots := 0, locals := 21 } : Room) s m args below meth c D g A a b 5 0 0 (MQ below (cQv D g A a b Q) args s 0 0 A) M [(0, .ref (a 7)), (2, .ref (a r2)), (4, iv x4)] 149 []) (hw : wph_X7_showForest_71 p0 r2 x3 x4 M J23 J71 J149 Q) : vV p l e ({ frames := 1, cells := 0, slots := 0, locals := 21 } : Room) s m args below meth c D g A a b 5 0 0 (MQ below (cQv D g A a b Q) args s 0 0 A) M [(0, .ref (a 7)), (1, iv p0), (2, .ref (a r2)), (3, iv x3), (4, iv x4)] 71 [] := by
  unfold wph_X7_showForest_71 at hw
  obtain ⟨hr2, hw⟩ := hw
  refine V_iload X dX7_showForest_71 (q := 4) rfl ?_
  refine V_iload_n X dX7_showForest_73 rfl (q := 1) rfl ?_
  obtain ⟨h17, h18, hw⟩ := hw
  refine V_icmp_ge (tgt := 141) X h17 h18 dX7_showForest_74 (by decide) (fun q19 => ?_) (fun q19 => ?_)
  · have hw := hw.1 q19
    refine V_aload_n X dX7_showForest_141 rfl (q := 0) rfl ?_
    refine V_iconst X dX7_showForest_142 ?_
    refine V_put (C := RX7) (T := TX7) (N := 9) (ci := 7) X hi_X7_showForest_7 gO_7 rfl 8 (by decide) tyX7 tyX7_ok nmX7 rfl (tyX7_ok 8 (by decide)) (Or.inl rfl) (show 8 < 9 from by decide) sI_7_8 lk_X7_showForest_f89 (fun _ h9 => h9) dX7_showForest_143 (fun M20 eM20 => ?_)
    have hw := hw M20 eM20
    refine V_iconst X dX7_showForest_146 ?_
    refine V_istore (lv1 := [(0, .ref (a 7)), (1, iv p0), (2, .ref (a r2)), (3, iv x3), (4, iv 0)]) X [1, 2, 3, 4, 0] dX7_showForest_147 (by decide) rfl ?_
    refine V_sub (lv1 := [(0, .ref (a 7)), (2, .ref (a r2)), (4, iv 0)]) [0, 2, 4] rfl ?_
    exact hJ149 _ _ _ hw
  · have hw := hw.2 q19
    refine V_iload_n X dX7_showForest_77 rfl (q := 3) rfl ?_
    obtain ⟨h21, hw⟩ := hw
    refine V_if_eq (tgt := 107) X h21 dX7_showForest_78 (by decide) (fun q22 => ?_) (fun q22 => ?_)
    · have hw := hw.1 q22
      exact wkj_X7_showForest_107 X hr hJ23 hJ71 hJ149 hw
    · have hw := hw.2 q22
      refine V_aload_n X dX7_showForest_81 rfl (q := 0) rfl ?_
      refine V_get (C := RX7) (T := TX7) (N := 9) (ci := 7) X hi_X7_showForest_7 gO_7 rfl 2 (by decide) lk_X7_showForest_f9 (fun _ h9 => h9) rfl dX7_showForest_82 ?_
      refine V_iload X dX7_showForest_85 (q := 4) rfl ?_
      obtain ⟨h23, hw⟩ := hw
      refine V_iald X (gA_7_2) h23 (by decide) dX7_showForest_87 ?_
      obtain ⟨h24, hw⟩ := hw
      refine V_if_ne (tgt := 107) X h24 dX7_showForest_88 (by decide) (fun q25 => ?_) (fun q25 => ?_)
      · have hw := hw.1 q25
        exact wkj_X7_showForest_107 X hr hJ23 hJ71 hJ149 hw
      · have hw := hw.2 q25
        refine V_aload_n X dX7_showForest_91 rfl (q := 0) rfl ?_
        refine V_get (C := RX7) (T := TX7) (N := 9) (ci := 7) X hi_X7_showForest_7 gO_7 rfl 6 (by decide) lk_X7_showForest_f18 (fun _ h9 => h9) rfl dX7_showForest_92 ?_
        refine V_aload_n X dX7_showForest_95 rfl (q := 0) rfl ?_
        refine V_get (C := RX7) (T := TX7) (N := 9) (ci := 7) X hi_X7_showForest_7 gO_7 rfl 3 (by decide) lk_X7_showForest_f15 (fun _ h9 => h9) rfl dX7_showForest_96 ?_
        refine V_iload X dX7_showForest_99 (q := 4) rfl ?_
        obtain ⟨h26, hw⟩ := hw
        refine V_iald X (gA_7_3) h26 (by decide) dX7_showForest_101 ?_
        refine V_iconst X dX7_showForest_102 ?_
        obtain ⟨h28, hw⟩ := hw
        refine V_zast X (gA_7_6) (sA_7_6) h28 (by decide) (by decide) dX7_showForest_103 (fun M27 eM27 => ?_)
        have hw := hw M27 eM27
        refine V_goto (tgt := 135) X dX7_showForest_104 (by decide) ?_
        exact wkj_X7_showForest_135 X hr hJ23 hJ71 hJ149 hw
set_option maxHeartbeats 4000000 in
set_option maxRecDepth 100000 in
theorem wkj_X7_showForest_61 {p : Program} {l : Launch} {e : Env} {s : State} {m : MethodId} {args : Array Value} {below : List Frame} {meth : Method} {c : Code} {D : va_G} {g : GT} {A : Nat → Prop} {a : Nat → Nat} {b : Nat → Nat → Nat} (X : vC p s m args meth c D g A RX7 wsX7_showForest cX7_showForest 5) (hr : meth.sig.returnType = none) {p0 : Int} {r2 : Nat} {x3 : Int} {x4 : Int} {s0 : Int} {s1 : Int} {M : Mem} {J23 : Nat → Int → Int → Mem → Prop} {J71 : Nat → Int → Int → Mem → Prop} {J149 : Nat → Int → Mem → Prop} {Q : Mem → Prop} (hJ23 : ∀ (r2 : Nat) (x3 : Int) (x4 : Int) (M : Mem), J23 r2 x3 x4 M → vV p l e ({ frames := 1, cells := 0, slots := 0, locals := 21 } : Room) s m args below meth c D g A a b 5 0 0 (MQ below (cQv D g A a b Q) args s 0 0 A) M [(0, .ref (a 7)), (1, iv p0), (2, .ref (a r2)), (3, iv x3), (4, iv x4)] 23 []) (hJ71 : ∀ (r2 : Nat) (x3 : Int) (x4 : Int) (M : Mem), J71 r2 x3 x4 M → vV p l e ({ frames := 1, cells := 0, slots := 0, locals := 21 } : Room) s m args below meth c D g A a b 5 0 0 (MQ below (cQv D g A a b Q) args s 0 0 A) M [(0, .ref (a 7)), (1, iv p0), (2, .ref (a r2)), (3, iv x3), (4, iv x4)] 71 []) (hJ149 : ∀ (r2 : Nat) (x4 : Int) (M : Mem), J149 r2 x4 M → vV p l e ({ frames := 1, cells := 0, slots := 0, locals := 21 } : Room) s m args below meth c D g A a b 5 0 0 (MQ below (cQv D g A a b Q) args s 0 0 A) M [(0, .ref (a 7)), (2, .ref (a r2)), (4, iv x4)] 149 []) (hw : wpj_X7_showForest_61 p0 r2 x3 x4 s0 s1 M J23 J71 J149 Q) : vV p l e ({ frames := 1, cells := 0, slots := 0, locals := 21 } : Room) s m args below meth c D g A a b 5 0 0 (MQ below (cQv D g A a b Q) args s 0 0 A) M [(0, .ref (a 7)), (1, iv p0), (2, .ref (a r2)), (3, iv x3), (4, iv x4)] 61 [iv s0, iv s1, .ref (b 7 6)] := by
  unfold wpj_X7_showForest_61 at hw
  obtain ⟨hr2, hw⟩ := hw
  obtain ⟨h15, hw⟩ := hw
  obtain ⟨h16, hw⟩ := hw
  refine V_zast X (gA_7_6) (sA_7_6) h15 h16 (by decide) dX7_showForest_61 (fun M14 eM14 => ?_)
  have hw := hw M14 eM14
  refine V_iinc (lv1 := [(0, .ref (a 7)), (1, iv p0), (2, .ref (a r2)), (3, iv x3), (4, iv (x4 + 1))]) X [1, 2, 3, 4, 0] dX7_showForest_62 (q := 4) rfl (by decide) rfl ?_
  refine V_goto (tgt := 23) X dX7_showForest_65 (by decide) ?_
  exact hJ23 _ _ _ _ hw
set_option maxHeartbeats 4000000 in
set_option maxRecDepth 100000 in
theorem wkj_X7_showForest_56 {p : Program} {l : Launch} {e : Env} {s : State} {m : MethodId} {args : Array Value} {below : List Frame} {meth : Method} {c : Code} {D : va_G} {g : GT} {A : Nat → Prop} {a : Nat → Nat} {b : Nat → Nat → Nat} (X : vC p s m args meth c D g A RX7 wsX7_showForest cX7_showForest 5) (hr : meth.sig.returnType = none) {p0 : Int} {r2 : Nat} {x3 : Int} {x4 : Int} {s0 : Int} {M : Mem} {J23 : Nat → Int → Int → Mem → Prop} {J71 : Nat → Int → Int → Mem → Prop} {J149 : Nat → Int → Mem → Prop} {Q : Mem → Prop} (hJ23 : ∀ (r2 : Nat) (x3 : Int) (x4 : Int) (M : Mem), J23 r2 x3 x4 M → vV p l e ({ frames := 1, cells := 0, slots := 0, locals := 21 } : Room) s m args below meth c D g A a b 5 0 0 (MQ below (cQv D g A a b Q) args s 0 0 A) M [(0, .ref (a 7)), (1, iv p0), (2, .ref (a r2)), (3, iv x3), (4, iv x4)] 23 []) (hJ71 : ∀ (r2 : Nat) (x3 : Int) (x4 : Int) (M : Mem), J71 r2 x3 x4 M → vV p l e ({ frames := 1, cells := 0, slots := 0, locals := 21 } : Room) s m args below meth c D g A a b 5 0 0 (MQ below (cQv D g A a b Q) args s 0 0 A) M [(0, .ref (a 7)), (1, iv p0), (2, .ref (a r2)), (3, iv x3), (4, iv x4)] 71 []) (hJ149 : ∀ (r2 : Nat) (x4 : Int) (M : Mem), J149 r2 x4 M → vV p l e ({ frames := 1, cells := 0, slots := 0, locals := 21 } : Room) s m args below meth c D g A a b 5 0 0 (MQ below (cQv D g A a b Q) args s 0 0 A) M [(0, .ref (a 7)), (2, .ref (a r2)), (4, iv x4)] 149 []) (hw : wpj_X7_showForest_56 p0 r2 x3 x4 s0 M J23 J71 J149 Q) : vV p l e ({ frames := 1, cells := 0, slots := 0, locals := 21 } : Room) s m args below meth c D g A a b 5 0 0 (MQ below (cQv D g A a b Q) args s 0 0 A) M [(0, .ref (a 7)), (1, iv p0), (2, .ref (a r2)), (3, iv x3), (4, iv x4)] 56 [iv s0, .ref (b 7 6)] := by
  unfold wpj_X7_showForest_56 at hw
  obtain ⟨hr2, hw⟩ := hw
  refine V_iconst X dX7_showForest_56 ?_
  refine V_goto (tgt := 61) X dX7_showForest_57 (by decide) ?_
  exact wkj_X7_showForest_61 X hr hJ23 hJ71 hJ149 hw
set_option maxHeartbeats 4000000 in
set_option maxRecDepth 100000 in
theorem wkh_X7_showForest_23 {p : Program} {l : Launch} {e : Env} {s : State} {m : MethodId} {args : Array Value} {below : List Frame} {meth : Method} {c : Code} {D : va_G} {g : GT} {A : Nat → Prop} {a : Nat → Nat} {b : Nat → Nat → Nat} (X : vC p s m args meth c D g A RX7 wsX7_showForest cX7_showForest 5) (hr : meth.sig.returnType = none) {p0 : Int} {r2 : Nat} {x3 : Int} {x4 : Int} {M : Mem} {J23 : Nat → Int → Int → Mem → Prop} {J71 : Nat → Int → Int → Mem → Prop} {J149 : Nat → Int → Mem → Prop} {Q : Mem → Prop} (hJ23 : ∀ (r2 : Nat) (x3 : Int) (x4 : Int) (M : Mem), J23 r2 x3 x4 M → vV p l e ({ frames := 1, cells := 0, slots := 0, locals := 21 } : Room) s m args below meth c D g A a b 5 0 0 (MQ below (cQv D g A a b Q) args s 0 0 A) M [(0, .ref (a 7)), (1, iv p0), (2, .ref (a r2)), (3, iv x3), (4, iv x4)] 23 []) (hJ71 : ∀ (r2 : Nat) (x3 : Int) (x4 : Int) (M : Mem), J71 r2 x3 x4 M → vV p l e ({ frames := 1, cells := 0, slots := 0, locals := 21 } : Room) s m args below meth c D g A a b 5 0 0 (MQ below (cQv D g A a b Q) args s 0 0 A) M [(0, .ref (a 7)), (1, iv p0), (2, .ref (a r2)), (3, iv x3), (4, iv x4)] 71 []) (hJ149 : ∀ (r2 : Nat) (x4 : Int) (M : Mem), J149 r2 x4 M → vV p l e ({ frames := 1, cells := 0, slots := 0, locals := 21 } : Room) s m args below meth c D g A a b 5 0 0 (MQ below (cQv D g A a b Q) args s 0 0 A) M [(0, .ref (a 7)), (2, .ref (a r2)), (4, iv x4)] 149 []) (hw : wph_X7_showForest_23 p0 r2 x3 x4 M J23 J71 J149 Q) : vV p l e ({ frames := 1, cells := 0, slots := 0, locals := 21 } : Room) s m args below meth c D g A a b 5 0 0 (MQ below (cQv D g A a b Q) args s 0 0 A) M [(0, .ref (a 7)), (1, iv p0), (2, .ref (a r2)), (3, iv x3), (4, iv x4)] 23 [] := by
  unfold wph_X7_showForest_23 at hw
  obtain ⟨hr2, hw⟩ := hw
  refine V_iload X dX7_showForest_23 (q := 4) rfl ?_
  refine V_aload_n X dX7_showForest_25 rfl (q := 2) rfl ?_
  refine V_getN (C := RX9) (T := TX9) (N := 9) (ci := 9) X hi_X7_showForest_9 (gTO hr2) rfl 8 (by decide) (List.mem_of_getElem? (i := 21) rfl) (fun _ h9 => h9) rfl dX7_showForest_26 ?_
  obtain ⟨h6, h7, hw⟩ := hw
  refine V_icmp_ge (tgt := 68) X h6 h7 dX7_showForest_29 (by decide) (fun q8 => ?_) (fun q8 => ?_)
  · have hw := hw.1 q8
    refine V_iconst X dX7_showForest_68 ?_
    refine V_istore (lv1 := [(0, .ref (a 7)), (1, iv p0), (2, .ref (a r2)), (3, iv x3), (4, iv 0)]) X [1, 2, 3, 4, 0] dX7_showForest_69 (by decide) rfl ?_
    exact hJ71 _ _ _ _ hw
  · have hw := hw.2 q8
    refine V_aload_n X dX7_showForest_32 rfl (q := 0) rfl ?_
    refine V_get (C := RX7) (T := TX7) (N := 9) (ci := 7) X hi_X7_showForest_7 gO_7 rfl 6 (by decide) lk_X7_showForest_f18 (fun _ h9 => h9) rfl dX7_showForest_33 ?_
    refine V_iload X dX7_showForest_36 (q := 4) rfl ?_
    refine V_iload_n X dX7_showForest_38 rfl (q := 3) rfl ?_
    obtain ⟨h9, hw⟩ := hw
    refine V_if_ne (tgt := 56) X h9 dX7_showForest_39 (by decide) (fun q10 => ?_) (fun q10 => ?_)
    · have hw := hw.1 q10
      exact wkj_X7_showForest_56 X hr hJ23 hJ71 hJ149 hw
    · have hw := hw.2 q10
      refine V_aload_n X dX7_showForest_42 rfl (q := 0) rfl ?_
      refine V_get (C := RX7) (T := TX7) (N := 9) (ci := 7) X hi_X7_showForest_7 gO_7 rfl 1 (by decide) lk_X7_showForest_f29 (fun _ h9 => h9) rfl dX7_showForest_43 ?_
      refine V_getN (C := RX4) (T := TX4) (N := 8) (ci := 4) X hi_X7_showForest_4 gO_6 rfl 3 (by decide) (List.mem_of_getElem? (i := 75) rfl) (fun _ h9 => h9) rfl dX7_showForest_46 ?_
      refine V_iload X dX7_showForest_49 (q := 4) rfl ?_
      obtain ⟨h11, hw⟩ := hw
      refine V_iald X (gA_6_3) h11 (by decide) dX7_showForest_51 ?_
      refine V_iconst X dX7_showForest_52 ?_
      obtain ⟨h12, hw⟩ := hw
      refine V_icmp_eq (tgt := 60) X h12 ⟨by decide, by decide⟩ dX7_showForest_53 (by decide) (fun q13 => ?_) (fun q13 => ?_)
      · have hw := hw.1 q13
        refine V_iconst X dX7_showForest_60 ?_
        exact wkj_X7_showForest_61 X hr hJ23 hJ71 hJ149 hw
      · have hw := hw.2 q13
        exact wkj_X7_showForest_56 X hr hJ23 hJ71 hJ149 hw
set_option maxHeartbeats 4000000 in
set_option maxRecDepth 100000 in
theorem wkj_X7_showForest_19 {p : Program} {l : Launch} {e : Env} {s : State} {m : MethodId} {args : Array Value} {below : List Frame} {meth : Method} {c : Code} {D : va_G} {g : GT} {A : Nat → Prop} {a : Nat → Nat} {b : Nat → Nat → Nat} (X : vC p s m args meth c D g A RX7 wsX7_showForest cX7_showForest 5) (hr : meth.sig.returnType = none) {p0 : Int} {r2 : Nat} {s0 : Int} {M : Mem} {J23 : Nat → Int → Int → Mem → Prop} {J71 : Nat → Int → Int → Mem → Prop} {J149 : Nat → Int → Mem → Prop} {Q : Mem → Prop} (hJ23 : ∀ (r2 : Nat) (x3 : Int) (x4 : Int) (M : Mem), J23 r2 x3 x4 M → vV p l e ({ frames := 1, cells := 0, slots := 0, locals := 21 } : Room) s m args below meth c D g A a b 5 0 0 (MQ below (cQv D g A a b Q) args s 0 0 A) M [(0, .ref (a 7)), (1, iv p0), (2, .ref (a r2)), (3, iv x3), (4, iv x4)] 23 []) (hJ71 : ∀ (r2 : Nat) (x3 : Int) (x4 : Int) (M : Mem), J71 r2 x3 x4 M → vV p l e ({ frames := 1, cells := 0, slots := 0, locals := 21 } : Room) s m args below meth c D g A a b 5 0 0 (MQ below (cQv D g A a b Q) args s 0 0 A) M [(0, .ref (a 7)), (1, iv p0), (2, .ref (a r2)), (3, iv x3), (4, iv x4)] 71 []) (hJ149 : ∀ (r2 : Nat) (x4 : Int) (M : Mem), J149 r2 x4 M → vV p l e ({ frames := 1, cells := 0, slots := 0, locals := 21 } : Room) s m args below meth c D g A a b 5 0 0 (MQ below (cQv D g A a b Q) args s 0 0 A) M [(0, .ref (a 7)), (2, .ref (a r2)), (4, iv x4)] 149 []) (hw : wpj_X7_showForest_19 p0 r2 s0 M J23 J71 J149 Q) : vV p l e ({ frames := 1, cells := 0, slots := 0, locals := 21 } : Room) s m args below meth c D g A a b 5 0 0 (MQ below (cQv D g A a b Q) args s 0 0 A) M [(0, .ref (a 7)), (1, iv p0), (2, .ref (a r2))] 19 [iv s0] := by
  unfold wpj_X7_showForest_19 at hw
  obtain ⟨hr2, hw⟩ := hw
  refine V_istore_n (lv1 := [(0, .ref (a 7)), (1, iv p0), (2, .ref (a r2)), (3, iv s0)]) X [1, 2, 3, 0] dX7_showForest_19 rfl (by decide) rfl ?_
  refine V_iconst X dX7_showForest_20 ?_
  refine V_istore (lv1 := [(0, .ref (a 7)), (1, iv p0), (2, .ref (a r2)), (3, iv s0), (4, iv 0)]) X [1, 2, 3, 4, 0] dX7_showForest_21 (by decide) rfl ?_
  exact hJ23 _ _ _ _ hw
set_option maxHeartbeats 4000000 in
set_option maxRecDepth 100000 in
theorem wke_X7_showForest {p : Program} {l : Launch} {e : Env} {s : State} {m : MethodId} {args : Array Value} {below : List Frame} {meth : Method} {c : Code} {D : va_G} {g : GT} {A : Nat → Prop} {a : Nat → Nat} {b : Nat → Nat → Nat} (X : vC p s m args meth c D g A RX7 wsX7_showForest cX7_showForest 5) (hr : meth.sig.returnType = none) {p0 : Int} {M : Mem} {J23 : Nat → Int → Int → Mem → Prop} {J71 : Nat → Int → Int → Mem → Prop} {J149 : Nat → Int → Mem → Prop} {Q : Mem → Prop} (hJ23 : ∀ (r2 : Nat) (x3 : Int) (x4 : Int) (M : Mem), J23 r2 x3 x4 M → vV p l e ({ frames := 1, cells := 0, slots := 0, locals := 21 } : Room) s m args below meth c D g A a b 5 0 0 (MQ below (cQv D g A a b Q) args s 0 0 A) M [(0, .ref (a 7)), (1, iv p0), (2, .ref (a r2)), (3, iv x3), (4, iv x4)] 23 []) (hJ71 : ∀ (r2 : Nat) (x3 : Int) (x4 : Int) (M : Mem), J71 r2 x3 x4 M → vV p l e ({ frames := 1, cells := 0, slots := 0, locals := 21 } : Room) s m args below meth c D g A a b 5 0 0 (MQ below (cQv D g A a b Q) args s 0 0 A) M [(0, .ref (a 7)), (1, iv p0), (2, .ref (a r2)), (3, iv x3), (4, iv x4)] 71 []) (hJ149 : ∀ (r2 : Nat) (x4 : Int) (M : Mem), J149 r2 x4 M → vV p l e ({ frames := 1, cells := 0, slots := 0, locals := 21 } : Room) s m args below meth c D g A a b 5 0 0 (MQ below (cQv D g A a b Q) args s 0 0 A) M [(0, .ref (a 7)), (2, .ref (a r2)), (4, iv x4)] 149 []) (hw : wpe_X7_showForest p0 M J23 J71 J149 Q) : vV p l e ({ frames := 1, cells := 0, slots := 0, locals := 21 } : Room) s m args below meth c D g A a b 5 0 0 (MQ below (cQv D g A a b Q) args s 0 0 A) M [(0, .ref (a 7)), (1, iv p0)] 0 [] := by
  unfold wpe_X7_showForest at hw
  refine V_aload_n X dX7_showForest_0 rfl (q := 0) rfl ?_
  refine V_iload_n X dX7_showForest_1 rfl (q := 1) rfl ?_
  refine V_callV_r X _ gO_7 rfl (As := [iv p0]) (st := []) (c_X7_treeAfter l hw) (cwV 1 X.2.2.2.1 gX7_showForest_X7_treeAfter rfl rfl rfl (by decide +kernel) ⟨Nat.le_of_ble_eq_true rfl, Nat.le_of_ble_eq_true rfl⟩) rfl (Nat.le_of_ble_eq_true rfl) ⟨Nat.le_of_ble_eq_true rfl, Nat.le_of_ble_eq_true rfl⟩ rfl dX7_showForest_2 (fun y1 M2 hw => ?_)
  obtain ⟨hy1, hw⟩ := hw
  refine V_astore_n (lv1 := [(0, .ref (a 7)), (1, iv p0), (2, .ref (a y1))]) X [1, 2, 0] dX7_showForest_5 rfl (by decide) rfl ?_
  refine V_iload_n X dX7_showForest_6 rfl (q := 1) rfl ?_
  refine V_aload_n X dX7_showForest_7 rfl (q := 0) rfl ?_
  refine V_get (C := RX7) (T := TX7) (N := 9) (ci := 7) X hi_X7_showForest_7 gO_7 rfl 5 (by decide) lk_X7_showForest_f67 (fun _ h9 => h9) rfl dX7_showForest_8 ?_
  obtain ⟨h3, h4, hw⟩ := hw
  refine V_icmp_gt (tgt := 18) X h3 h4 dX7_showForest_11 (by decide) (fun q5 => ?_) (fun q5 => ?_)
  · have hw := hw.1 q5
    refine V_iconst X dX7_showForest_18 ?_
    exact wkj_X7_showForest_19 X hr hJ23 hJ71 hJ149 hw
  · have hw := hw.2 q5
    refine V_iconst X dX7_showForest_14 ?_
    refine V_goto (tgt := 19) X dX7_showForest_15 (by decide) ?_
    exact wkj_X7_showForest_19 X hr hJ23 hJ71 hJ149 hw
set_option maxHeartbeats 4000000 in
set_option maxRecDepth 100000 in
theorem c_X7_showForest (l : Launch) {p0 : Int} {D : va_G} {g : GT} {A : Nat → Prop} {a : Nat → Nat} {b : Nat → Nat → Nat} {M : Mem} {Q : Mem → Prop} (hw : wp_X7_showForest M p0 Q) : Met l yX7_showForest wsX7_showForest ({ frames := 1, cells := 0, slots := 0, locals := 21 } : Room) (cPc D g A a b M [.ref (a 7), iv p0]) (cQv D g A a b Q) 0 0 A := by
  refine Met.ofW (cc := cX7_showForest) (maxL := 5) (ret := none) (by decide) rfl ?_
  intro p e s m args below meth c s₁ B hml hv
  obtain ⟨rfl, hP, hD, hG⟩ := hv
  have X : vC p s m _ meth c D g A RX7 wsX7_showForest cX7_showForest 5 := ⟨B.exec, B.bytes, findClass_of_methodNamed B.named, atoms_spec (ws := wsX7_showForest) B.pre, hG, hml, B.notSynchronized⟩
  have hr := B.returns
  have hl := lv_entry ([.ref (a 7), iv p0]) (n := 5) (Nat.le_of_ble_eq_true rfl)
  rw [lg_entry_eq]
  generalize (lg_sl ([.ref (a 7), iv p0]) ++ List.replicate (5 - (lg_sl ([.ref (a 7), iv p0])).length) Slot.unset).toArray = ls at hl ⊢
  have hl : lv_has ls 5 [(0, .ref (a 7)), (1, iv p0)] := hl
  obtain ⟨I23, I71, I149, hw, hI23, hI71, hI149⟩ := hw
  have K : ∀ n : Nat, (∀ (r2 : Nat) (x3 : Int) (x4 : Int) (M : Mem), I23 n r2 x3 x4 M → vV p l e ({ frames := 1, cells := 0, slots := 0, locals := 21 } : Room) s m ([.ref (a 7), iv p0] : List Value).toArray below meth c D g A a b 5 0 0 (MQ below (cQv D g A a b Q) ([.ref (a 7), iv p0] : List Value).toArray s 0 0 A) M [(0, .ref (a 7)), (1, iv p0), (2, .ref (a r2)), (3, iv x3), (4, iv x4)] 23 []) ∧ (∀ (r2 : Nat) (x3 : Int) (x4 : Int) (M : Mem), I71 n r2 x3 x4 M → vV p l e ({ frames := 1, cells := 0, slots := 0, locals := 21 } : Room) s m ([.ref (a 7), iv p0] : List Value).toArray below meth c D g A a b 5 0 0 (MQ below (cQv D g A a b Q) ([.ref (a 7), iv p0] : List Value).toArray s 0 0 A) M [(0, .ref (a 7)), (1, iv p0), (2, .ref (a r2)), (3, iv x3), (4, iv x4)] 71 []) ∧ (∀ (r2 : Nat) (x4 : Int) (M : Mem), I149 n r2 x4 M → vV p l e ({ frames := 1, cells := 0, slots := 0, locals := 21 } : Room) s m ([.ref (a 7), iv p0] : List Value).toArray below meth c D g A a b 5 0 0 (MQ below (cQv D g A a b Q) ([.ref (a 7), iv p0] : List Value).toArray s 0 0 A) M [(0, .ref (a 7)), (2, .ref (a r2)), (4, iv x4)] 149 []) := by
    intro n
    induction n using Nat.strongRecOn with
    | ind n ih =>
      exact ⟨fun r2 x3 x4 M hh => wkh_X7_showForest_23 X hr (fun _ _ _ _ ⟨n1, hn, hh⟩ => (ih n1 hn).1 _ _ _ _ hh) (fun _ _ _ _ ⟨n1, hn, hh⟩ => (ih n1 hn).2.1 _ _ _ _ hh) (fun _ _ _ ⟨n1, hn, hh⟩ => (ih n1 hn).2.2 _ _ _ hh) (hI23 n r2 x3 x4 M hh), fun r2 x3 x4 M hh => wkh_X7_showForest_71 X hr (fun _ _ _ _ ⟨n1, hn, hh⟩ => (ih n1 hn).1 _ _ _ _ hh) (fun _ _ _ _ ⟨n1, hn, hh⟩ => (ih n1 hn).2.1 _ _ _ _ hh) (fun _ _ _ ⟨n1, hn, hh⟩ => (ih n1 hn).2.2 _ _ _ hh) (hI71 n r2 x3 x4 M hh), fun r2 x4 M hh => wkh_X7_showForest_149 X hr (fun _ _ _ _ ⟨n1, hn, hh⟩ => (ih n1 hn).1 _ _ _ _ hh) (fun _ _ _ _ ⟨n1, hn, hh⟩ => (ih n1 hn).2.1 _ _ _ _ hh) (fun _ _ _ ⟨n1, hn, hh⟩ => (ih n1 hn).2.2 _ _ _ hh) (hI149 n r2 x4 M hh)⟩
  exact wke_X7_showForest X hr  (fun _ _ _ _ ⟨n1, hh⟩ => (K n1).1 _ _ _ _ hh) (fun _ _ _ _ ⟨n1, hh⟩ => (K n1).2.1 _ _ _ _ hh) (fun _ _ _ ⟨n1, hh⟩ => (K n1).2.2 _ _ _ hh) hw s.heap [] ls hP hD va_S.rf hl

set_option maxRecDepth 20000 in
theorem ggX10_sizeAfter_X10_settle : GoodIn wsX10_sizeAfter wsX10_settle := goodIn_r _ [6, 7, 8, 9, 10, 1, 11, 12, 13, 14, 15, 16, 17, 18, 19, 20, 21, 22, 23, 24, 25, 26, 27, 28, 29, 30, 31, 32, 33, 34, 35, 36, 37, 38, 39, 40, 41, 42, 43, 44, 45, 46, 47, 48, 49, 50, 51, 52, 53, 54, 55, 56, 57, 58, 59, 60, 61, 62, 63, 64, 65, 66, 67, 68, 69, 70, 71, 72, 73, 74, 75, 76, 77, 78, 79, 80, 81, 82, 83, 84, 85, 86, 87, 88, 89, 90, 91, 92, 93, 94, 95, 96, 97, 98, 99, 100, 101, 102, 103, 104, 105, 106, 107, 108, 109, 110, 111, 112, 113, 114, 115, 116, 117, 118, 119, 120, 121, 122, 123, 124, 125, 126, 127, 128, 129, 130, 131, 132, 133, 134, 135, 136, 137, 138, 139, 140, 141, 142, 143, 144, 145, 146, 147, 148, 149, 150, 151, 167, 168, 169, 170, 171, 172, 173, 174, 175, 185, 186, 187, 188, 189, 190, 191, 192, 193, 194, 195, 196, 197, 198, 199, 200, 201, 202, 203, 204, 205, 206, 207, 208, 209, 210, 211, 212, 213, 214, 215, 216, 217, 218, 219, 176, 177, 178, 179, 180, 181, 182, 183, 184, 220, 221, 222, 223, 224, 225] (by decide +kernel) (by decide +kernel)
set_option maxRecDepth 20000 in
theorem gX10_sizeAfter_X10_settle : GoodIn wsX10_sizeAfter (wsV RX10 206 RX10 yX10_settle wsX10_settle) := goodIn_app (goodIn_of _ (by decide +kernel)) ggX10_sizeAfter_X10_settle
set_option maxRecDepth 20000 in
theorem ggX10_sizeAfter_X10_needIndex : GoodIn wsX10_sizeAfter wsX10_needIndex := goodIn_ca (goodIn_r _ [154, 155, 156] (by decide +kernel) (by decide +kernel)) (goodIn_sub (fun _ h => List.mem_cons_of_mem _ (List.mem_append_right _ h)) (by decide +kernel))
set_option maxRecDepth 20000 in
theorem gX10_sizeAfter_X10_needIndex : GoodIn wsX10_sizeAfter (va_wsS RX10 81 yX10_needIndex wsX10_needIndex) := goodIn_app (goodIn_of _ (by decide +kernel)) ggX10_sizeAfter_X10_needIndex
set_option maxRecDepth 20000 in
theorem ggX10_sizeAfter_X7_showForest : GoodIn wsX10_sizeAfter wsX7_showForest := goodIn_r _ [159, 102, 160, 101, 107, 108, 161, 162, 163, 164, 165, 96, 166, 99, 176, 177, 178, 179, 180, 181, 182, 183, 184, 201, 202, 203, 204, 205, 206, 207, 208, 209, 212, 213, 214, 215, 216, 217, 218, 219, 189, 190, 191, 192, 193, 194] (by decide +kernel) (by decide +kernel)
set_option maxRecDepth 20000 in
theorem gX10_sizeAfter_X7_showForest_n227 : GoodIn wsX10_sizeAfter (wsX7_showForest) := ggX10_sizeAfter_X7_showForest
theorem dX10_sizeAfter_0 : decode cX10_sizeAfter 0 = .ok (.aload_n 0, 1) := by decide +kernel
theorem dX10_sizeAfter_1 : decode cX10_sizeAfter 1 = .ok (.invokevirtual 206, 3) := by decide +kernel
theorem dX10_sizeAfter_4 : decode cX10_sizeAfter 4 = .ok (.iload_n 1, 1) := by decide +kernel
theorem dX10_sizeAfter_5 : decode cX10_sizeAfter 5 = .ok (.aload_n 0, 1) := by decide +kernel
theorem dX10_sizeAfter_6 : decode cX10_sizeAfter 6 = .ok (.getfield 62, 3) := by decide +kernel
theorem dX10_sizeAfter_9 : decode cX10_sizeAfter 9 = .ok (.getfield 217, 3) := by decide +kernel
theorem dX10_sizeAfter_12 : decode cX10_sizeAfter 12 = .ok (.iconst 1, 1) := by decide +kernel
theorem dX10_sizeAfter_13 : decode cX10_sizeAfter 13 = .ok (.iadd, 1) := by decide +kernel
theorem dX10_sizeAfter_14 : decode cX10_sizeAfter 14 = .ok (.invokestatic 81, 3) := by decide +kernel
theorem dX10_sizeAfter_17 : decode cX10_sizeAfter 17 = .ok (.aload_n 0, 1) := by decide +kernel
theorem dX10_sizeAfter_18 : decode cX10_sizeAfter 18 = .ok (.getfield 62, 3) := by decide +kernel
theorem dX10_sizeAfter_21 : decode cX10_sizeAfter 21 = .ok (.iload_n 1, 1) := by decide +kernel
theorem dX10_sizeAfter_22 : decode cX10_sizeAfter 22 = .ok (.invokevirtual 227, 3) := by decide +kernel
theorem dX10_sizeAfter_25 : decode cX10_sizeAfter 25 = .ok (.aload_n 0, 1) := by decide +kernel
theorem dX10_sizeAfter_26 : decode cX10_sizeAfter 26 = .ok (.getfield 62, 3) := by decide +kernel
theorem dX10_sizeAfter_29 : decode cX10_sizeAfter 29 = .ok (.getfield 231, 3) := by decide +kernel
theorem dX10_sizeAfter_32 : decode cX10_sizeAfter 32 = .ok (.ireturn, 1) := by decide +kernel
theorem lk_X10_sizeAfter_f62 : Cond.fieldLink RX10 62 "TreeComparer" "script" "LTreeComparer$Script;" ∈ wsX10_sizeAfter := by decide +kernel
theorem hi_X10_sizeAfter_10 : ∀ w ∈ u_ws RX10 TX10 9, w ∈ wsX10_sizeAfter := by decide +kernel
theorem hi_X10_sizeAfter_7 : ∀ w ∈ u_ws RX7 TX7 9, w ∈ wsX10_sizeAfter := by decide +kernel
theorem lk_X10_sizeAfter_i7 : Cond.initialized RX7 ∈ wsX10_sizeAfter := by decide +kernel
theorem lk_X10_sizeAfter_im227 : Cond.instanceMethod yX7_showForest ∈ wsX10_sizeAfter := by decide +kernel
theorem lk_X10_sizeAfter_se227 : Cond.selects RX7 yX7_showForest yX7_showForest ∈ wsX10_sizeAfter := by decide +kernel
def wpe_X10_sizeAfter (p0 : Int) (M : Mem) (Q : Int → Mem → Prop) (XQ : String → Mem → Prop) : Prop := wp_X10_settle M (fun M2 => wp_X10_needIndex M2 p0 ((M2 7 4 0) + 1) (fun M4 => wp_X7_showForest M4 p0 (fun M6 => Q ((M6 7 8 0)) M6)) XQ)
def wp_X10_sizeAfter (M : Mem) (p0 : Int) (Q : Int → Mem → Prop) (XQ : String → Mem → Prop) : Prop := wpe_X10_sizeAfter p0 M Q XQ
set_option maxHeartbeats 4000000 in
set_option maxRecDepth 100000 in
theorem wke_X10_sizeAfter {p : Program} {l : Launch} {e : Env} {s : State} {m : MethodId} {args : Array Value} {below : List Frame} {meth : Method} {c : Code} {D : va_G} {g : GT} {A : Nat → Prop} {a : Nat → Nat} {b : Nat → Nat → Nat} (X : vC p s m args meth c D g A RX10 wsX10_sizeAfter cX10_sizeAfter 2) (hr : meth.sig.returnType = (some .int)) {p0 : Int} (hlt : l.stackTraces = false) (htab : ∀ x ∈ c.exceptionTable.toList, False) {M : Mem} {Q : Int → Mem → Prop} {XQ : String → Mem → Prop} (hw : wpe_X10_sizeAfter p0 M Q XQ) : vV p l e ({ frames := 33, cells := 1, slots := 6, locals := 1084 } : Room) s m args below meth c D g A a b 2 0 0 (vx_MQ below (cQi D g A a b Q) (cX D g A a b XQ) args s 1 6 A) M [(0, .ref (a 0)), (1, iv p0)] 0 [] := by
  unfold wpe_X10_sizeAfter at hw
  refine V_aload_n X dX10_sizeAfter_0 rfl (q := 0) rfl ?_
  refine V_callV_v X _ gO_0 rfl (As := []) (st := []) (c_X10_settle l hw) (cwV 0 X.2.2.2.1 gX10_sizeAfter_X10_settle rfl rfl rfl (by decide +kernel) ⟨Nat.le_of_ble_eq_true rfl, Nat.le_of_ble_eq_true rfl⟩) rfl (Nat.le_of_ble_eq_true rfl) ⟨Nat.le_of_ble_eq_true rfl, Nat.le_of_ble_eq_true rfl⟩ rfl dX10_sizeAfter_1 (fun M2 hw => ?_)
  refine V_iload_n X dX10_sizeAfter_4 rfl (q := 1) rfl ?_
  refine V_aload_n X dX10_sizeAfter_5 rfl (q := 0) rfl ?_
  refine V_get (C := RX10) (T := TX10) (N := 9) (ci := 10) X hi_X10_sizeAfter_10 gO_0 rfl 6 (by decide) lk_X10_sizeAfter_f62 (fun _ h9 => h9) rfl dX10_sizeAfter_6 ?_
  refine V_getN (C := RX7) (T := TX7) (N := 9) (ci := 7) X hi_X10_sizeAfter_7 gO_7 rfl 4 (by decide) (List.mem_of_getElem? (i := 79) rfl) (fun _ h9 => h9) rfl dX10_sizeAfter_9 ?_
  refine V_iconst X dX10_sizeAfter_12 ?_
  refine V_iadd X dX10_sizeAfter_13 ?_
  refine V_callxS_v X _ _ (As := [iv p0, iv ((M2 7 4 0) + 1)]) (st := []) (c_X10_needIndex l hlt hw) (va_cwS 2 X.2.2.2.1 gX10_sizeAfter_X10_needIndex rfl rfl rfl (by decide +kernel) ⟨Nat.le_of_ble_eq_true rfl, Nat.le_of_ble_eq_true rfl⟩) rfl (Nat.le_of_ble_eq_true rfl) ⟨Nat.le_of_ble_eq_true rfl, Nat.le_of_ble_eq_true rfl⟩ rfl dX10_sizeAfter_14 (fun E ce q9 M9 H9 locs9 ls9 hx9 hP9 hD9 hS9 hl9 h91 h92 h93 => V_xout X htab (Nat.le_of_ble_eq_true rfl) (Nat.le_of_ble_eq_true rfl) hx9 hP9 hD9 hS9 h91 h92 h93) (fun M4 hw => ?_)
  refine V_aload_n X dX10_sizeAfter_17 rfl (q := 0) rfl ?_
  refine V_get (C := RX10) (T := TX10) (N := 9) (ci := 10) X hi_X10_sizeAfter_10 gO_0 rfl 6 (by decide) lk_X10_sizeAfter_f62 (fun _ h9 => h9) rfl dX10_sizeAfter_18 ?_
  refine V_iload_n X dX10_sizeAfter_21 rfl (q := 1) rfl ?_
  refine V_callVN_v X _ gO_7 rfl (As := [iv p0]) (st := []) (c_X7_showForest l hw) ⟨va_cnB 1 X.2.2.2.1 gX10_sizeAfter_X7_showForest_n227 rfl rfl rfl (X.2.2.2.2.1.2.1 _ (List.mem_of_getElem? (i := 130) rfl)) (X.2.2.2.1 _ lk_X10_sizeAfter_i7) (by decide +kernel) ⟨Nat.le_of_ble_eq_true rfl, Nat.le_of_ble_eq_true rfl⟩, X.2.2.2.1 _ lk_X10_sizeAfter_im227, X.2.2.2.1 _ lk_X10_sizeAfter_se227⟩ rfl (Nat.le_of_ble_eq_true rfl) ⟨Nat.le_of_ble_eq_true rfl, Nat.le_of_ble_eq_true rfl⟩ rfl dX10_sizeAfter_22 (fun M6 hw => ?_)
  refine V_aload_n X dX10_sizeAfter_25 rfl (q := 0) rfl ?_
  refine V_get (C := RX10) (T := TX10) (N := 9) (ci := 10) X hi_X10_sizeAfter_10 gO_0 rfl 6 (by decide) lk_X10_sizeAfter_f62 (fun _ h9 => h9) rfl dX10_sizeAfter_26 ?_
  refine V_getN (C := RX7) (T := TX7) (N := 9) (ci := 7) X hi_X10_sizeAfter_7 gO_7 rfl 8 (by decide) (List.mem_of_getElem? (i := 81) rfl) (fun _ h9 => h9) rfl dX10_sizeAfter_29 ?_
  exact V_xret (Nat.le_of_ble_eq_true rfl) (Nat.le_of_ble_eq_true rfl) (V_iret X hr hw dX10_sizeAfter_32)
set_option maxHeartbeats 4000000 in
set_option maxRecDepth 100000 in
theorem c_X10_sizeAfter (l : Launch) {p0 : Int} (hlt : l.stackTraces = false) {D : va_G} {g : GT} {A : Nat → Prop} {a : Nat → Nat} {b : Nat → Nat → Nat} {M : Mem} {Q : Int → Mem → Prop} {XQ : String → Mem → Prop} (hw : wp_X10_sizeAfter M p0 Q XQ) : vx_Met l yX10_sizeAfter wsX10_sizeAfter ({ frames := 33, cells := 1, slots := 6, locals := 1084 } : Room) (cPc D g A a b M [.ref (a 0), iv p0]) (cQi D g A a b Q) (cX D g A a b XQ) 1 6 A := by
  refine vx_ofW (cc := cX10_sizeAfter) (maxL := 2) (ret := (some .int)) (by decide) rfl ?_
  intro p e s m args below meth c s₁ B hml htab hv
  obtain ⟨rfl, hP, hD, hG⟩ := hv
  have X : vC p s m _ meth c D g A RX10 wsX10_sizeAfter cX10_sizeAfter 2 := ⟨B.exec, B.bytes, findClass_of_methodNamed B.named, atoms_spec (ws := wsX10_sizeAfter) B.pre, hG, hml, B.notSynchronized⟩
  have hr := B.returns
  have hl := lv_entry ([.ref (a 0), iv p0]) (n := 2) (Nat.le_of_ble_eq_true rfl)
  rw [lg_entry_eq]
  generalize (lg_sl ([.ref (a 0), iv p0]) ++ List.replicate (2 - (lg_sl ([.ref (a 0), iv p0])).length) Slot.unset).toArray = ls at hl ⊢
  have hl : lv_has ls 2 [(0, .ref (a 0)), (1, iv p0)] := hl
  exact wke_X10_sizeAfter X hr hlt htab hw s.heap [] ls hP hD va_S.rf hl

set_option maxRecDepth 20000 in
theorem ggX11_isNode_X11_isTree : GoodIn wsX11_isNode wsX11_isTree := goodIn_r _ [5, 6, 7, 4, 8] (by decide +kernel) (by decide +kernel)
set_option maxRecDepth 20000 in
theorem gX11_isNode_X11_isTree : GoodIn wsX11_isNode (va_wsS RX11 79 yX11_isTree wsX11_isTree) := goodIn_app (goodIn_of _ (by decide +kernel)) ggX11_isNode_X11_isTree
set_option maxRecDepth 20000 in
theorem ggX11_isNode_X11_in : GoodIn wsX11_isNode wsX11_in := goodIn_r _ [8] (by decide +kernel) (by decide +kernel)
set_option maxRecDepth 20000 in
theorem gX11_isNode_X11_in : GoodIn wsX11_isNode (va_wsS RX11 75 yX11_in wsX11_in) := goodIn_app (goodIn_of _ (by decide +kernel)) ggX11_isNode_X11_in
theorem dX11_isNode_0 : decode cX11_isNode 0 = .ok (.iload_n 1, 1) := by decide +kernel
theorem dX11_isNode_1 : decode cX11_isNode 1 = .ok (.invokestatic 79, 3) := by decide +kernel
theorem dX11_isNode_4 : decode cX11_isNode 4 = .ok (.ifCond .eq 23, 3) := by decide +kernel
theorem dX11_isNode_7 : decode cX11_isNode 7 = .ok (.iload_n 2, 1) := by decide +kernel
theorem dX11_isNode_8 : decode cX11_isNode 8 = .ok (.iconst 0, 1) := by decide +kernel
theorem dX11_isNode_9 : decode cX11_isNode 9 = .ok (.aload_n 0, 1) := by decide +kernel
theorem dX11_isNode_10 : decode cX11_isNode 10 = .ok (.getfield 25, 3) := by decide +kernel
theorem dX11_isNode_13 : decode cX11_isNode 13 = .ok (.iload_n 1, 1) := by decide +kernel
theorem dX11_isNode_14 : decode cX11_isNode 14 = .ok (.iaload, 1) := by decide +kernel
theorem dX11_isNode_15 : decode cX11_isNode 15 = .ok (.iconst 1, 1) := by decide +kernel
theorem dX11_isNode_16 : decode cX11_isNode 16 = .ok (.isub, 1) := by decide +kernel
theorem dX11_isNode_17 : decode cX11_isNode 17 = .ok (.invokestatic 75, 3) := by decide +kernel
theorem dX11_isNode_20 : decode cX11_isNode 20 = .ok (.ifCond .eq 7, 3) := by decide +kernel
theorem dX11_isNode_23 : decode cX11_isNode 23 = .ok (.iconst 1, 1) := by decide +kernel
theorem dX11_isNode_24 : decode cX11_isNode 24 = .ok (.goto 4, 3) := by decide +kernel
theorem dX11_isNode_27 : decode cX11_isNode 27 = .ok (.iconst 0, 1) := by decide +kernel
theorem dX11_isNode_28 : decode cX11_isNode 28 = .ok (.ireturn, 1) := by decide +kernel
theorem lk_X11_isNode_f25 : Cond.fieldLink RX11 25 "TreeComparerModel" "many" "[I" ∈ wsX11_isNode := by decide +kernel
theorem hi_X11_isNode_11 : ∀ w ∈ u_ws RX11 TX11 24, w ∈ wsX11_isNode := by decide +kernel
def wpe_X11_isNode (p0 : Int) (p1 : Int) (M : Mem) (Q : Int → Mem → Prop) : Prop := wp_X11_isTree M p0 (fun y1 M2 => inR y1 ∧ ((y1 = 0 → Q 0 M2) ∧ (¬ (y1 = 0) → ((0 : Int) ≤ p0 ∧ p0 < 2) ∧ wp_X11_in M2 p1 0 ((M2 13 5 p0.toNat) - 1) (fun y6 M7 => inR y6 ∧ ((y6 = 0 → Q 0 M7) ∧ (¬ (y6 = 0) → Q 1 M7))))))
def wp_X11_isNode (M : Mem) (p0 : Int) (p1 : Int) (Q : Int → Mem → Prop) : Prop := wpe_X11_isNode p0 p1 M Q
set_option maxHeartbeats 4000000 in
set_option maxRecDepth 100000 in
theorem wke_X11_isNode {p : Program} {l : Launch} {e : Env} {s : State} {m : MethodId} {args : Array Value} {below : List Frame} {meth : Method} {c : Code} {D : va_G} {g : GT} {A : Nat → Prop} {a : Nat → Nat} {b : Nat → Nat → Nat} (X : vC p s m args meth c D g A RX11 wsX11_isNode cX11_isNode 3) (hr : meth.sig.returnType = (some .boolean)) {p0 : Int} {p1 : Int} {M : Mem} {Q : Int → Mem → Prop} (hw : wpe_X11_isNode p0 p1 M Q) : vV p l e ({ frames := 2, cells := 0, slots := 0, locals := 42 } : Room) s m args below meth c D g A a b 3 0 0 (MQ below (cQi D g A a b Q) args s 0 0 A) M [(0, .ref (a 13)), (1, iv p0), (2, iv p1)] 0 [] := by
  unfold wpe_X11_isNode at hw
  refine V_iload_n X dX11_isNode_0 rfl (q := 1) rfl ?_
  refine V_callS_i X _ (As := [iv p0]) (st := []) (c_X11_isTree l hw) (va_cwS 1 X.2.2.2.1 gX11_isNode_X11_isTree rfl rfl rfl (by decide +kernel) ⟨Nat.le_of_ble_eq_true rfl, Nat.le_of_ble_eq_true rfl⟩) rfl (Nat.le_of_ble_eq_true rfl) ⟨Nat.le_of_ble_eq_true rfl, Nat.le_of_ble_eq_true rfl⟩ rfl dX11_isNode_1 (fun y1 M2 hw => ?_)
  obtain ⟨h3, hw⟩ := hw
  refine V_if_eq (tgt := 27) X h3 dX11_isNode_4 (by decide) (fun q4 => ?_) (fun q4 => ?_)
  · have hw := hw.1 q4
    refine V_iconst X dX11_isNode_27 ?_
    exact V_zret X hr (by decide) hw dX11_isNode_28
  · have hw := hw.2 q4
    refine V_iload_n X dX11_isNode_7 rfl (q := 2) rfl ?_
    refine V_iconst X dX11_isNode_8 ?_
    refine V_aload_n X dX11_isNode_9 rfl (q := 0) rfl ?_
    refine V_get (C := RX11) (T := TX11) (N := 24) (ci := 11) X hi_X11_isNode_11 gO_13 rfl 5 (by decide) lk_X11_isNode_f25 (fun _ h9 => h9) rfl dX11_isNode_10 ?_
    refine V_iload_n X dX11_isNode_13 rfl (q := 1) rfl ?_
    obtain ⟨h5, hw⟩ := hw
    refine V_iald X (gA_13_5) h5 (by decide) dX11_isNode_14 ?_
    refine V_iconst X dX11_isNode_15 ?_
    refine V_isub X dX11_isNode_16 ?_
    refine V_callS_i X _ (As := [iv p1, iv 0, iv ((M2 13 5 p0.toNat) - 1)]) (st := []) (c_X11_in l hw) (va_cwS 3 X.2.2.2.1 gX11_isNode_X11_in rfl rfl rfl (by decide +kernel) ⟨Nat.le_of_ble_eq_true rfl, Nat.le_of_ble_eq_true rfl⟩) rfl (Nat.le_of_ble_eq_true rfl) ⟨Nat.le_of_ble_eq_true rfl, Nat.le_of_ble_eq_true rfl⟩ rfl dX11_isNode_17 (fun y6 M7 hw => ?_)
    obtain ⟨h8, hw⟩ := hw
    refine V_if_eq (tgt := 27) X h8 dX11_isNode_20 (by decide) (fun q9 => ?_) (fun q9 => ?_)
    · have hw := hw.1 q9
      refine V_iconst X dX11_isNode_27 ?_
      exact V_zret X hr (by decide) hw dX11_isNode_28
    · have hw := hw.2 q9
      refine V_iconst X dX11_isNode_23 ?_
      refine V_goto (tgt := 28) X dX11_isNode_24 (by decide) ?_
      exact V_zret X hr (by decide) hw dX11_isNode_28
set_option maxHeartbeats 4000000 in
set_option maxRecDepth 100000 in
theorem c_X11_isNode (l : Launch) {p0 : Int} {p1 : Int} {D : va_G} {g : GT} {A : Nat → Prop} {a : Nat → Nat} {b : Nat → Nat → Nat} {M : Mem} {Q : Int → Mem → Prop} (hw : wp_X11_isNode M p0 p1 Q) : Met l yX11_isNode wsX11_isNode ({ frames := 2, cells := 0, slots := 0, locals := 42 } : Room) (cPc D g A a b M [.ref (a 13), iv p0, iv p1]) (cQi D g A a b Q) 0 0 A := by
  refine Met.ofW (cc := cX11_isNode) (maxL := 3) (ret := (some .boolean)) (by decide) rfl ?_
  intro p e s m args below meth c s₁ B hml hv
  obtain ⟨rfl, hP, hD, hG⟩ := hv
  have X : vC p s m _ meth c D g A RX11 wsX11_isNode cX11_isNode 3 := ⟨B.exec, B.bytes, findClass_of_methodNamed B.named, atoms_spec (ws := wsX11_isNode) B.pre, hG, hml, B.notSynchronized⟩
  have hr := B.returns
  have hl := lv_entry ([.ref (a 13), iv p0, iv p1]) (n := 3) (Nat.le_of_ble_eq_true rfl)
  rw [lg_entry_eq]
  generalize (lg_sl ([.ref (a 13), iv p0, iv p1]) ++ List.replicate (3 - (lg_sl ([.ref (a 13), iv p0, iv p1])).length) Slot.unset).toArray = ls at hl ⊢
  have hl : lv_has ls 3 [(0, .ref (a 13)), (1, iv p0), (2, iv p1)] := hl
  exact wke_X11_isNode X hr  hw s.heap [] ls hP hD va_S.rf hl

set_option maxRecDepth 20000 in
theorem ggX11_sizeAfter_X11_scripts : GoodIn wsX11_sizeAfter wsX11_scripts := goodIn_r _ [6, 1, 7, 8, 9, 10, 11, 12, 13, 14, 5, 15, 16, 17, 18, 19, 20, 21, 22, 23, 24, 25, 26, 27, 28, 29, 30, 31, 32, 33, 34, 35, 36, 37, 38, 39, 40, 41, 42, 43, 44, 45, 46, 47, 48, 49, 50, 51, 52, 53, 54, 55, 56, 57, 58, 59, 60, 61, 62, 63, 64, 65, 66, 67, 68, 69, 70, 71, 72, 73, 74, 75, 76, 77, 78, 98, 99, 100, 101, 102, 103, 104, 105, 106, 107, 108, 109, 110, 111, 112, 113, 114, 115, 116, 117, 118, 119, 120, 121] (by decide +kernel) (by decide +kernel)
set_option maxRecDepth 20000 in
theorem gX11_sizeAfter_X11_scripts : GoodIn wsX11_sizeAfter (wsV RX11 179 RX11 yX11_scripts wsX11_scripts) := goodIn_app (goodIn_of _ (by decide +kernel)) ggX11_sizeAfter_X11_scripts
set_option maxRecDepth 20000 in
theorem ggX11_sizeAfter_X11_in : GoodIn wsX11_sizeAfter wsX11_in := goodIn_r _ [81] (by decide +kernel) (by decide +kernel)
set_option maxRecDepth 20000 in
theorem gX11_sizeAfter_X11_in : GoodIn wsX11_sizeAfter (va_wsS RX11 75 yX11_in wsX11_in) := goodIn_app (goodIn_of _ (by decide +kernel)) ggX11_sizeAfter_X11_in
set_option maxRecDepth 20000 in
theorem ggX11_sizeAfter_X11_goes : GoodIn wsX11_sizeAfter wsX11_goes := goodIn_r _ [85, 86, 98, 99, 100, 101, 102, 103, 104, 105, 106, 107, 108, 109, 110, 111, 112, 113, 114, 115, 116, 117, 118, 119, 120, 121] (by decide +kernel) (by decide +kernel)
set_option maxRecDepth 20000 in
theorem gX11_sizeAfter_X11_goes : GoodIn wsX11_sizeAfter (wsV RX11 87 RX11 yX11_goes wsX11_goes) := goodIn_app (goodIn_of _ (by decide +kernel)) ggX11_sizeAfter_X11_goes
set_option maxRecDepth 20000 in
theorem ggX11_sizeAfter_X11_grows : GoodIn wsX11_sizeAfter wsX11_grows := goodIn_r _ [90, 10, 91, 7, 11, 92, 93, 9, 8, 94, 95, 96, 5, 97, 77, 78, 98, 99, 100, 101, 102, 103, 104, 105, 106, 107, 108, 109, 110, 111, 112, 113, 114, 115, 116, 117, 118, 119, 120, 121] (by decide +kernel) (by decide +kernel)
set_option maxRecDepth 20000 in
theorem gX11_sizeAfter_X11_grows : GoodIn wsX11_sizeAfter (wsV RX11 191 RX11 yX11_grows wsX11_grows) := goodIn_app (goodIn_of _ (by decide +kernel)) ggX11_sizeAfter_X11_grows
theorem dX11_sizeAfter_0 : decode cX11_sizeAfter 0 = .ok (.aload_n 0, 1) := by decide +kernel
theorem dX11_sizeAfter_1 : decode cX11_sizeAfter 1 = .ok (.invokevirtual 179, 3) := by decide +kernel
theorem dX11_sizeAfter_4 : decode cX11_sizeAfter 4 = .ok (.aload_n 0, 1) := by decide +kernel
theorem dX11_sizeAfter_5 : decode cX11_sizeAfter 5 = .ok (.iload_n 1, 1) := by decide +kernel
theorem dX11_sizeAfter_6 : decode cX11_sizeAfter 6 = .ok (.iconst 0, 1) := by decide +kernel
theorem dX11_sizeAfter_7 : decode cX11_sizeAfter 7 = .ok (.aload_n 0, 1) := by decide +kernel
theorem dX11_sizeAfter_8 : decode cX11_sizeAfter 8 = .ok (.getfield 169, 3) := by decide +kernel
theorem dX11_sizeAfter_11 : decode cX11_sizeAfter 11 = .ok (.invokestatic 75, 3) := by decide +kernel
theorem dX11_sizeAfter_14 : decode cX11_sizeAfter 14 = .ok (.iconst 1, 1) := by decide +kernel
theorem dX11_sizeAfter_15 : decode cX11_sizeAfter 15 = .ok (.iconst 1, 1) := by decide +kernel
theorem dX11_sizeAfter_16 : decode cX11_sizeAfter 16 = .ok (.invokevirtual 87, 3) := by decide +kernel
theorem dX11_sizeAfter_19 : decode cX11_sizeAfter 19 = .ok (.ifCond .eq 11, 3) := by decide +kernel
theorem dX11_sizeAfter_22 : decode cX11_sizeAfter 22 = .ok (.aload_n 0, 1) := by decide +kernel
theorem dX11_sizeAfter_23 : decode cX11_sizeAfter 23 = .ok (.iload_n 1, 1) := by decide +kernel
theorem dX11_sizeAfter_24 : decode cX11_sizeAfter 24 = .ok (.invokevirtual 191, 3) := by decide +kernel
theorem dX11_sizeAfter_27 : decode cX11_sizeAfter 27 = .ok (.goto 4, 3) := by decide +kernel
theorem dX11_sizeAfter_30 : decode cX11_sizeAfter 30 = .ok (.iconst 0, 1) := by decide +kernel
theorem dX11_sizeAfter_31 : decode cX11_sizeAfter 31 = .ok (.ireturn, 1) := by decide +kernel
theorem lk_X11_sizeAfter_f169 : Cond.fieldLink RX11 169 "TreeComparerModel" "steps" "I" ∈ wsX11_sizeAfter := by decide +kernel
theorem hi_X11_sizeAfter_11 : ∀ w ∈ u_ws RX11 TX11 24, w ∈ wsX11_sizeAfter := by decide +kernel
def wpe_X11_sizeAfter (p0 : Int) (M : Mem) (Q : Int → Mem → Prop) : Prop := wp_X11_scripts M (fun M2 => wp_X11_in M2 p0 0 ((M2 13 16 0)) (fun y3 M4 => wp_X11_goes M4 y3 1 1 (fun y5 M6 => inR y5 ∧ ((y5 = 0 → Q 0 M6) ∧ (¬ (y5 = 0) → wp_X11_grows M6 p0 (fun y9 M10 => Q y9 M10))))))
def wp_X11_sizeAfter (M : Mem) (p0 : Int) (Q : Int → Mem → Prop) : Prop := wpe_X11_sizeAfter p0 M Q
set_option maxHeartbeats 4000000 in
set_option maxRecDepth 100000 in
theorem wke_X11_sizeAfter {p : Program} {l : Launch} {e : Env} {s : State} {m : MethodId} {args : Array Value} {below : List Frame} {meth : Method} {c : Code} {D : va_G} {g : GT} {A : Nat → Prop} {a : Nat → Nat} {b : Nat → Nat → Nat} (X : vC p s m args meth c D g A RX11 wsX11_sizeAfter cX11_sizeAfter 2) (hr : meth.sig.returnType = (some .int)) {p0 : Int} {M : Mem} {Q : Int → Mem → Prop} (hw : wpe_X11_sizeAfter p0 M Q) : vV p l e ({ frames := 6, cells := 0, slots := 0, locals := 149 } : Room) s m args below meth c D g A a b 2 0 0 (MQ below (cQi D g A a b Q) args s 0 0 A) M [(0, .ref (a 13)), (1, iv p0)] 0 [] := by
  unfold wpe_X11_sizeAfter at hw
  refine V_aload_n X dX11_sizeAfter_0 rfl (q := 0) rfl ?_
  refine V_callV_v X _ gO_13 rfl (As := []) (st := []) (c_X11_scripts l hw) (cwV 0 X.2.2.2.1 gX11_sizeAfter_X11_scripts rfl rfl rfl (by decide +kernel) ⟨Nat.le_of_ble_eq_true rfl, Nat.le_of_ble_eq_true rfl⟩) rfl (Nat.le_of_ble_eq_true rfl) ⟨Nat.le_of_ble_eq_true rfl, Nat.le_of_ble_eq_true rfl⟩ rfl dX11_sizeAfter_1 (fun M2 hw => ?_)
  refine V_aload_n X dX11_sizeAfter_4 rfl (q := 0) rfl ?_
  refine V_iload_n X dX11_sizeAfter_5 rfl (q := 1) rfl ?_
  refine V_iconst X dX11_sizeAfter_6 ?_
  refine V_aload_n X dX11_sizeAfter_7 rfl (q := 0) rfl ?_
  refine V_get (C := RX11) (T := TX11) (N := 24) (ci := 11) X hi_X11_sizeAfter_11 gO_13 rfl 16 (by decide) lk_X11_sizeAfter_f169 (fun _ h9 => h9) rfl dX11_sizeAfter_8 ?_
  refine V_callS_i X _ (As := [iv p0, iv 0, iv ((M2 13 16 0))]) (st := [.ref (a 13)]) (c_X11_in l hw) (va_cwS 3 X.2.2.2.1 gX11_sizeAfter_X11_in rfl rfl rfl (by decide +kernel) ⟨Nat.le_of_ble_eq_true rfl, Nat.le_of_ble_eq_true rfl⟩) rfl (Nat.le_of_ble_eq_true rfl) ⟨Nat.le_of_ble_eq_true rfl, Nat.le_of_ble_eq_true rfl⟩ rfl dX11_sizeAfter_11 (fun y3 M4 hw => ?_)
  refine V_iconst X dX11_sizeAfter_14 ?_
  refine V_iconst X dX11_sizeAfter_15 ?_
  refine V_callV_i X _ gO_13 rfl (As := [iv y3, iv 1, iv 1]) (st := []) (c_X11_goes l hw) (cwV 3 X.2.2.2.1 gX11_sizeAfter_X11_goes rfl rfl rfl (by decide +kernel) ⟨Nat.le_of_ble_eq_true rfl, Nat.le_of_ble_eq_true rfl⟩) rfl (Nat.le_of_ble_eq_true rfl) ⟨Nat.le_of_ble_eq_true rfl, Nat.le_of_ble_eq_true rfl⟩ rfl dX11_sizeAfter_16 (fun y5 M6 hw => ?_)
  obtain ⟨h7, hw⟩ := hw
  refine V_if_eq (tgt := 30) X h7 dX11_sizeAfter_19 (by decide) (fun q8 => ?_) (fun q8 => ?_)
  · have hw := hw.1 q8
    refine V_iconst X dX11_sizeAfter_30 ?_
    exact V_iret X hr hw dX11_sizeAfter_31
  · have hw := hw.2 q8
    refine V_aload_n X dX11_sizeAfter_22 rfl (q := 0) rfl ?_
    refine V_iload_n X dX11_sizeAfter_23 rfl (q := 1) rfl ?_
    refine V_callV_i X _ gO_13 rfl (As := [iv p0]) (st := []) (c_X11_grows l hw) (cwV 1 X.2.2.2.1 gX11_sizeAfter_X11_grows rfl rfl rfl (by decide +kernel) ⟨Nat.le_of_ble_eq_true rfl, Nat.le_of_ble_eq_true rfl⟩) rfl (Nat.le_of_ble_eq_true rfl) ⟨Nat.le_of_ble_eq_true rfl, Nat.le_of_ble_eq_true rfl⟩ rfl dX11_sizeAfter_24 (fun y9 M10 hw => ?_)
    refine V_goto (tgt := 31) X dX11_sizeAfter_27 (by decide) ?_
    exact V_iret X hr hw dX11_sizeAfter_31
set_option maxHeartbeats 4000000 in
set_option maxRecDepth 100000 in
theorem c_X11_sizeAfter (l : Launch) {p0 : Int} {D : va_G} {g : GT} {A : Nat → Prop} {a : Nat → Nat} {b : Nat → Nat → Nat} {M : Mem} {Q : Int → Mem → Prop} (hw : wp_X11_sizeAfter M p0 Q) : Met l yX11_sizeAfter wsX11_sizeAfter ({ frames := 6, cells := 0, slots := 0, locals := 149 } : Room) (cPc D g A a b M [.ref (a 13), iv p0]) (cQi D g A a b Q) 0 0 A := by
  refine Met.ofW (cc := cX11_sizeAfter) (maxL := 2) (ret := (some .int)) (by decide) rfl ?_
  intro p e s m args below meth c s₁ B hml hv
  obtain ⟨rfl, hP, hD, hG⟩ := hv
  have X : vC p s m _ meth c D g A RX11 wsX11_sizeAfter cX11_sizeAfter 2 := ⟨B.exec, B.bytes, findClass_of_methodNamed B.named, atoms_spec (ws := wsX11_sizeAfter) B.pre, hG, hml, B.notSynchronized⟩
  have hr := B.returns
  have hl := lv_entry ([.ref (a 13), iv p0]) (n := 2) (Nat.le_of_ble_eq_true rfl)
  rw [lg_entry_eq]
  generalize (lg_sl ([.ref (a 13), iv p0]) ++ List.replicate (2 - (lg_sl ([.ref (a 13), iv p0])).length) Slot.unset).toArray = ls at hl ⊢
  have hl : lv_has ls 2 [(0, .ref (a 13)), (1, iv p0)] := hl
  exact wke_X11_sizeAfter X hr  hw s.heap [] ls hP hD va_S.rf hl

set_option maxRecDepth 20000 in
theorem ggX11_setMovePrice_X11_in : GoodIn wsX11_setMovePrice wsX11_in := goodIn_r _ [5] (by decide +kernel) (by decide +kernel)
set_option maxRecDepth 20000 in
theorem gX11_setMovePrice_X11_in : GoodIn wsX11_setMovePrice (va_wsS RX11 75 yX11_in wsX11_in) := goodIn_app (goodIn_of _ (by decide +kernel)) ggX11_setMovePrice_X11_in
set_option maxRecDepth 20000 in
theorem ggX11_setMovePrice_X11_goes : GoodIn wsX11_setMovePrice wsX11_goes := goodIn_r _ [9, 10, 11, 12, 13, 14, 15, 16, 17, 18, 19, 20, 21, 22, 23, 24, 25, 26, 27, 28, 29, 30, 31, 32, 33, 34] (by decide +kernel) (by decide +kernel)
set_option maxRecDepth 20000 in
theorem gX11_setMovePrice_X11_goes : GoodIn wsX11_setMovePrice (wsV RX11 87 RX11 yX11_goes wsX11_goes) := goodIn_app (goodIn_of _ (by decide +kernel)) ggX11_setMovePrice_X11_goes
theorem dX11_setMovePrice_0 : decode cX11_setMovePrice 0 = .ok (.aload_n 0, 1) := by decide +kernel
theorem dX11_setMovePrice_1 : decode cX11_setMovePrice 1 = .ok (.iload_n 1, 1) := by decide +kernel
theorem dX11_setMovePrice_2 : decode cX11_setMovePrice 2 = .ok (.iconst 0, 1) := by decide +kernel
theorem dX11_setMovePrice_3 : decode cX11_setMovePrice 3 = .ok (.bipush 50, 2) := by decide +kernel
theorem dX11_setMovePrice_5 : decode cX11_setMovePrice 5 = .ok (.invokestatic 75, 3) := by decide +kernel
theorem dX11_setMovePrice_8 : decode cX11_setMovePrice 8 = .ok (.iconst 1, 1) := by decide +kernel
theorem dX11_setMovePrice_9 : decode cX11_setMovePrice 9 = .ok (.iconst 1, 1) := by decide +kernel
theorem dX11_setMovePrice_10 : decode cX11_setMovePrice 10 = .ok (.invokevirtual 87, 3) := by decide +kernel
theorem dX11_setMovePrice_13 : decode cX11_setMovePrice 13 = .ok (.ifCond .ne 5, 3) := by decide +kernel
theorem dX11_setMovePrice_16 : decode cX11_setMovePrice 16 = .ok (.iconst 0, 1) := by decide +kernel
theorem dX11_setMovePrice_17 : decode cX11_setMovePrice 17 = .ok (.ireturn, 1) := by decide +kernel
theorem dX11_setMovePrice_18 : decode cX11_setMovePrice 18 = .ok (.aload_n 0, 1) := by decide +kernel
theorem dX11_setMovePrice_19 : decode cX11_setMovePrice 19 = .ok (.getfield 31, 3) := by decide +kernel
theorem dX11_setMovePrice_22 : decode cX11_setMovePrice 22 = .ok (.istore_n 2, 1) := by decide +kernel
theorem dX11_setMovePrice_23 : decode cX11_setMovePrice 23 = .ok (.aload_n 0, 1) := by decide +kernel
theorem dX11_setMovePrice_24 : decode cX11_setMovePrice 24 = .ok (.iload_n 1, 1) := by decide +kernel
theorem dX11_setMovePrice_25 : decode cX11_setMovePrice 25 = .ok (.putfield 31, 3) := by decide +kernel
theorem dX11_setMovePrice_28 : decode cX11_setMovePrice 28 = .ok (.iload_n 2, 1) := by decide +kernel
theorem dX11_setMovePrice_29 : decode cX11_setMovePrice 29 = .ok (.ireturn, 1) := by decide +kernel
theorem lk_X11_setMovePrice_f31 : Cond.fieldLink RX11 31 "TreeComparerModel" "movePrice" "I" ∈ wsX11_setMovePrice := by decide +kernel
theorem hi_X11_setMovePrice_11 : ∀ w ∈ u_ws RX11 TX11 24, w ∈ wsX11_setMovePrice := by decide +kernel
def wpe_X11_setMovePrice (p0 : Int) (M : Mem) (Q : Int → Mem → Prop) : Prop := wp_X11_in M p0 0 50 (fun y1 M2 => wp_X11_goes M2 y1 1 1 (fun y3 M4 => inR y3 ∧ ((y3 ≠ 0 → (∀ y7 : Int, y7 = (M4 13 7 0) → (∀ M8 : Mem, M8 = mset M4 13 7 0 p0 → Q y7 M8))) ∧ (¬ (y3 ≠ 0) → Q 0 M4))))
def wp_X11_setMovePrice (M : Mem) (p0 : Int) (Q : Int → Mem → Prop) : Prop := wpe_X11_setMovePrice p0 M Q
set_option maxHeartbeats 4000000 in
set_option maxRecDepth 100000 in
theorem wke_X11_setMovePrice {p : Program} {l : Launch} {e : Env} {s : State} {m : MethodId} {args : Array Value} {below : List Frame} {meth : Method} {c : Code} {D : va_G} {g : GT} {A : Nat → Prop} {a : Nat → Nat} {b : Nat → Nat → Nat} (X : vC p s m args meth c D g A RX11 wsX11_setMovePrice cX11_setMovePrice 3) (hr : meth.sig.returnType = (some .int)) {p0 : Int} {M : Mem} {Q : Int → Mem → Prop} (hw : wpe_X11_setMovePrice p0 M Q) : vV p l e ({ frames := 1, cells := 0, slots := 0, locals := 23 } : Room) s m args below meth c D g A a b 3 0 0 (MQ below (cQi D g A a b Q) args s 0 0 A) M [(0, .ref (a 13)), (1, iv p0)] 0 [] := by
  unfold wpe_X11_setMovePrice at hw
  refine V_aload_n X dX11_setMovePrice_0 rfl (q := 0) rfl ?_
  refine V_iload_n X dX11_setMovePrice_1 rfl (q := 1) rfl ?_
  refine V_iconst X dX11_setMovePrice_2 ?_
  refine V_bipush X dX11_setMovePrice_3 rfl ?_
  refine V_callS_i X _ (As := [iv p0, iv 0, iv 50]) (st := [.ref (a 13)]) (c_X11_in l hw) (va_cwS 3 X.2.2.2.1 gX11_setMovePrice_X11_in rfl rfl rfl (by decide +kernel) ⟨Nat.le_of_ble_eq_true rfl, Nat.le_of_ble_eq_true rfl⟩) rfl (Nat.le_of_ble_eq_true rfl) ⟨Nat.le_of_ble_eq_true rfl, Nat.le_of_ble_eq_true rfl⟩ rfl dX11_setMovePrice_5 (fun y1 M2 hw => ?_)
  refine V_iconst X dX11_setMovePrice_8 ?_
  refine V_iconst X dX11_setMovePrice_9 ?_
  refine V_callV_i X _ gO_13 rfl (As := [iv y1, iv 1, iv 1]) (st := []) (c_X11_goes l hw) (cwV 3 X.2.2.2.1 gX11_setMovePrice_X11_goes rfl rfl rfl (by decide +kernel) ⟨Nat.le_of_ble_eq_true rfl, Nat.le_of_ble_eq_true rfl⟩) rfl (Nat.le_of_ble_eq_true rfl) ⟨Nat.le_of_ble_eq_true rfl, Nat.le_of_ble_eq_true rfl⟩ rfl dX11_setMovePrice_10 (fun y3 M4 hw => ?_)
  obtain ⟨h5, hw⟩ := hw
  refine V_if_ne (tgt := 18) X h5 dX11_setMovePrice_13 (by decide) (fun q6 => ?_) (fun q6 => ?_)
  · have hw := hw.1 q6
    refine V_aload_n X dX11_setMovePrice_18 rfl (q := 0) rfl ?_
    refine V_get (C := RX11) (T := TX11) (N := 24) (ci := 11) X hi_X11_setMovePrice_11 gO_13 rfl 7 (by decide) lk_X11_setMovePrice_f31 (fun _ h9 => h9) rfl dX11_setMovePrice_19 ?_
    refine V_top (fun y7 ey7 => ?_)
    have hw := hw y7 ey7
    refine V_istore_n (lv1 := [(0, .ref (a 13)), (1, iv p0), (2, iv y7)]) X [1, 2, 0] dX11_setMovePrice_22 rfl (by decide) rfl ?_
    refine V_aload_n X dX11_setMovePrice_23 rfl (q := 0) rfl ?_
    refine V_iload_n X dX11_setMovePrice_24 rfl (q := 1) rfl ?_
    refine V_put (C := RX11) (T := TX11) (N := 24) (ci := 11) X hi_X11_setMovePrice_11 gO_13 rfl 7 (by decide) tyX11 tyX11_ok nmX11 rfl (tyX11_ok 7 (by decide)) (Or.inl rfl) (show 7 < 24 from by decide) sI_13_7 lk_X11_setMovePrice_f31 (fun _ h9 => h9) dX11_setMovePrice_25 (fun M8 eM8 => ?_)
    have hw := hw M8 eM8
    refine V_iload_n X dX11_setMovePrice_28 rfl (q := 2) rfl ?_
    exact V_iret X hr hw dX11_setMovePrice_29
  · have hw := hw.2 q6
    refine V_iconst X dX11_setMovePrice_16 ?_
    exact V_iret X hr hw dX11_setMovePrice_17
set_option maxHeartbeats 4000000 in
set_option maxRecDepth 100000 in
theorem c_X11_setMovePrice (l : Launch) {p0 : Int} {D : va_G} {g : GT} {A : Nat → Prop} {a : Nat → Nat} {b : Nat → Nat → Nat} {M : Mem} {Q : Int → Mem → Prop} (hw : wp_X11_setMovePrice M p0 Q) : Met l yX11_setMovePrice wsX11_setMovePrice ({ frames := 1, cells := 0, slots := 0, locals := 23 } : Room) (cPc D g A a b M [.ref (a 13), iv p0]) (cQi D g A a b Q) 0 0 A := by
  refine Met.ofW (cc := cX11_setMovePrice) (maxL := 3) (ret := (some .int)) (by decide) rfl ?_
  intro p e s m args below meth c s₁ B hml hv
  obtain ⟨rfl, hP, hD, hG⟩ := hv
  have X : vC p s m _ meth c D g A RX11 wsX11_setMovePrice cX11_setMovePrice 3 := ⟨B.exec, B.bytes, findClass_of_methodNamed B.named, atoms_spec (ws := wsX11_setMovePrice) B.pre, hG, hml, B.notSynchronized⟩
  have hr := B.returns
  have hl := lv_entry ([.ref (a 13), iv p0]) (n := 3) (Nat.le_of_ble_eq_true rfl)
  rw [lg_entry_eq]
  generalize (lg_sl ([.ref (a 13), iv p0]) ++ List.replicate (3 - (lg_sl ([.ref (a 13), iv p0])).length) Slot.unset).toArray = ls at hl ⊢
  have hl : lv_has ls 3 [(0, .ref (a 13)), (1, iv p0)] := hl
  exact wke_X11_setMovePrice X hr  hw s.heap [] ls hP hD va_S.rf hl
