set_option maxRecDepth 20000 in
theorem ggX11_chooses_X11_job : GoodIn wsX11_chooses wsX11_job := goodIn_r _ [10, 2, 38, 39, 40, 41, 42, 43, 44, 45, 46, 47, 48, 49, 50, 51, 52, 53, 54, 55, 56, 57, 58, 59, 60, 61] (by decide +kernel) (by decide +kernel)
set_option maxRecDepth 20000 in
theorem gX11_chooses_X11_job : GoodIn wsX11_chooses (wsV RX11 156 RX11 yX11_job wsX11_job) := goodIn_app (goodIn_of _ (by decide +kernel)) ggX11_chooses_X11_job
set_option maxRecDepth 20000 in
theorem ggX11_chooses_X11_first : GoodIn wsX11_chooses wsX11_first := goodIn_r _ [14, 15, 4, 16, 17, 9, 18, 19, 20, 21, 22, 23, 24, 25, 26, 27, 28, 29, 30, 31, 32, 33, 34, 35, 36, 37, 38, 39, 40, 41, 42, 43, 44, 45, 46, 47, 48, 49, 50, 51, 52, 53, 54, 55, 56, 57, 58, 59, 60, 61] (by decide +kernel) (by decide +kernel)
set_option maxRecDepth 20000 in
theorem gX11_chooses_X11_first : GoodIn wsX11_chooses (wsV RX11 160 RX11 yX11_first wsX11_first) := goodIn_app (goodIn_of _ (by decide +kernel)) ggX11_chooses_X11_first
theorem dX11_chooses_0 : decode cX11_chooses 0 = .ok (.aload_n 0, 1) := by decide +kernel
theorem dX11_chooses_1 : decode cX11_chooses 1 = .ok (.iconst 0, 1) := by decide +kernel
theorem dX11_chooses_2 : decode cX11_chooses 2 = .ok (.iconst 0, 1) := by decide +kernel
theorem dX11_chooses_3 : decode cX11_chooses 3 = .ok (.aload_n 0, 1) := by decide +kernel
theorem dX11_chooses_4 : decode cX11_chooses 4 = .ok (.getfield 25, 3) := by decide +kernel
theorem dX11_chooses_7 : decode cX11_chooses 7 = .ok (.iconst 0, 1) := by decide +kernel
theorem dX11_chooses_8 : decode cX11_chooses 8 = .ok (.iaload, 1) := by decide +kernel
theorem dX11_chooses_9 : decode cX11_chooses 9 = .ok (.iconst 0, 1) := by decide +kernel
theorem dX11_chooses_10 : decode cX11_chooses 10 = .ok (.aload_n 0, 1) := by decide +kernel
theorem dX11_chooses_11 : decode cX11_chooses 11 = .ok (.getfield 25, 3) := by decide +kernel
theorem dX11_chooses_14 : decode cX11_chooses 14 = .ok (.iconst 1, 1) := by decide +kernel
theorem dX11_chooses_15 : decode cX11_chooses 15 = .ok (.iaload, 1) := by decide +kernel
theorem dX11_chooses_16 : decode cX11_chooses 16 = .ok (.invokevirtual 156, 3) := by decide +kernel
theorem dX11_chooses_19 : decode cX11_chooses 19 = .ok (.iconst 1, 1) := by decide +kernel
theorem dX11_chooses_20 : decode cX11_chooses 20 = .ok (.istore_n 1, 1) := by decide +kernel
theorem dX11_chooses_21 : decode cX11_chooses 21 = .ok (.iload_n 1, 1) := by decide +kernel
theorem dX11_chooses_22 : decode cX11_chooses 22 = .ok (.ifCond .le 165, 3) := by decide +kernel
theorem dX11_chooses_25 : decode cX11_chooses 25 = .ok (.iinc 1 (-1), 3) := by decide +kernel
theorem dX11_chooses_28 : decode cX11_chooses 28 = .ok (.aload_n 0, 1) := by decide +kernel
theorem dX11_chooses_29 : decode cX11_chooses 29 = .ok (.getfield 51, 3) := by decide +kernel
theorem dX11_chooses_32 : decode cX11_chooses 32 = .ok (.iconst 4, 1) := by decide +kernel
theorem dX11_chooses_33 : decode cX11_chooses 33 = .ok (.iload_n 1, 1) := by decide +kernel
theorem dX11_chooses_34 : decode cX11_chooses 34 = .ok (.imul, 1) := by decide +kernel
theorem dX11_chooses_35 : decode cX11_chooses 35 = .ok (.iaload, 1) := by decide +kernel
theorem dX11_chooses_36 : decode cX11_chooses 36 = .ok (.istore_n 2, 1) := by decide +kernel
theorem dX11_chooses_37 : decode cX11_chooses 37 = .ok (.aload_n 0, 1) := by decide +kernel
theorem dX11_chooses_38 : decode cX11_chooses 38 = .ok (.getfield 51, 3) := by decide +kernel
theorem dX11_chooses_41 : decode cX11_chooses 41 = .ok (.iconst 4, 1) := by decide +kernel
theorem dX11_chooses_42 : decode cX11_chooses 42 = .ok (.iload_n 1, 1) := by decide +kernel
theorem dX11_chooses_43 : decode cX11_chooses 43 = .ok (.imul, 1) := by decide +kernel
theorem dX11_chooses_44 : decode cX11_chooses 44 = .ok (.iconst 1, 1) := by decide +kernel
theorem dX11_chooses_45 : decode cX11_chooses 45 = .ok (.iadd, 1) := by decide +kernel
theorem dX11_chooses_46 : decode cX11_chooses 46 = .ok (.iaload, 1) := by decide +kernel
theorem dX11_chooses_47 : decode cX11_chooses 47 = .ok (.istore_n 3, 1) := by decide +kernel
theorem dX11_chooses_48 : decode cX11_chooses 48 = .ok (.aload_n 0, 1) := by decide +kernel
theorem dX11_chooses_49 : decode cX11_chooses 49 = .ok (.getfield 51, 3) := by decide +kernel
theorem dX11_chooses_52 : decode cX11_chooses 52 = .ok (.iconst 4, 1) := by decide +kernel
theorem dX11_chooses_53 : decode cX11_chooses 53 = .ok (.iload_n 1, 1) := by decide +kernel
theorem dX11_chooses_54 : decode cX11_chooses 54 = .ok (.imul, 1) := by decide +kernel
theorem dX11_chooses_55 : decode cX11_chooses 55 = .ok (.iconst 2, 1) := by decide +kernel
theorem dX11_chooses_56 : decode cX11_chooses 56 = .ok (.iadd, 1) := by decide +kernel
theorem dX11_chooses_57 : decode cX11_chooses 57 = .ok (.iaload, 1) := by decide +kernel
theorem dX11_chooses_58 : decode cX11_chooses 58 = .ok (.istore 4, 2) := by decide +kernel
theorem dX11_chooses_60 : decode cX11_chooses 60 = .ok (.aload_n 0, 1) := by decide +kernel
theorem dX11_chooses_61 : decode cX11_chooses 61 = .ok (.getfield 51, 3) := by decide +kernel
theorem dX11_chooses_64 : decode cX11_chooses 64 = .ok (.iconst 4, 1) := by decide +kernel
theorem dX11_chooses_65 : decode cX11_chooses 65 = .ok (.iload_n 1, 1) := by decide +kernel
theorem dX11_chooses_66 : decode cX11_chooses 66 = .ok (.imul, 1) := by decide +kernel
theorem dX11_chooses_67 : decode cX11_chooses 67 = .ok (.iconst 3, 1) := by decide +kernel
theorem dX11_chooses_68 : decode cX11_chooses 68 = .ok (.iadd, 1) := by decide +kernel
theorem dX11_chooses_69 : decode cX11_chooses 69 = .ok (.iaload, 1) := by decide +kernel
theorem dX11_chooses_70 : decode cX11_chooses 70 = .ok (.istore 5, 2) := by decide +kernel
theorem dX11_chooses_72 : decode cX11_chooses 72 = .ok (.iload_n 2, 1) := by decide +kernel
theorem dX11_chooses_73 : decode cX11_chooses 73 = .ok (.iload_n 3, 1) := by decide +kernel
theorem dX11_chooses_74 : decode cX11_chooses 74 = .ok (.if_icmp .ge 110, 3) := by decide +kernel
theorem dX11_chooses_77 : decode cX11_chooses 77 = .ok (.aload_n 0, 1) := by decide +kernel
theorem dX11_chooses_78 : decode cX11_chooses 78 = .ok (.iload_n 2, 1) := by decide +kernel
theorem dX11_chooses_79 : decode cX11_chooses 79 = .ok (.iload_n 3, 1) := by decide +kernel
theorem dX11_chooses_80 : decode cX11_chooses 80 = .ok (.iload 4, 2) := by decide +kernel
theorem dX11_chooses_82 : decode cX11_chooses 82 = .ok (.iload 5, 2) := by decide +kernel
theorem dX11_chooses_84 : decode cX11_chooses 84 = .ok (.invokevirtual 160, 3) := by decide +kernel
theorem dX11_chooses_87 : decode cX11_chooses 87 = .ok (.istore 6, 2) := by decide +kernel
theorem dX11_chooses_89 : decode cX11_chooses 89 = .ok (.aload_n 0, 1) := by decide +kernel
theorem dX11_chooses_90 : decode cX11_chooses 90 = .ok (.getfield 38, 3) := by decide +kernel
theorem dX11_chooses_93 : decode cX11_chooses 93 = .ok (.iload_n 2, 1) := by decide +kernel
theorem dX11_chooses_94 : decode cX11_chooses 94 = .ok (.iload 6, 2) := by decide +kernel
theorem dX11_chooses_96 : decode cX11_chooses 96 = .ok (.iastore, 1) := by decide +kernel
theorem dX11_chooses_97 : decode cX11_chooses 97 = .ok (.iload 6, 2) := by decide +kernel
theorem dX11_chooses_99 : decode cX11_chooses 99 = .ok (.iconst (-1), 1) := by decide +kernel
theorem dX11_chooses_100 : decode cX11_chooses 100 = .ok (.if_icmp .ne 7, 3) := by decide +kernel
theorem dX11_chooses_103 : decode cX11_chooses 103 = .ok (.iconst 1, 1) := by decide +kernel
theorem dX11_chooses_104 : decode cX11_chooses 104 = .ok (.goto 9, 3) := by decide +kernel
theorem dX11_chooses_107 : decode cX11_chooses 107 = .ok (.aload_n 0, 1) := by decide +kernel
theorem dX11_chooses_108 : decode cX11_chooses 108 = .ok (.getfield 22, 3) := by decide +kernel
theorem dX11_chooses_111 : decode cX11_chooses 111 = .ok (.iload_n 2, 1) := by decide +kernel
theorem dX11_chooses_112 : decode cX11_chooses 112 = .ok (.iaload, 1) := by decide +kernel
theorem dX11_chooses_113 : decode cX11_chooses 113 = .ok (.istore 7, 2) := by decide +kernel
theorem dX11_chooses_115 : decode cX11_chooses 115 = .ok (.iload 6, 2) := by decide +kernel
theorem dX11_chooses_117 : decode cX11_chooses 117 = .ok (.iconst (-1), 1) := by decide +kernel
theorem dX11_chooses_118 : decode cX11_chooses 118 = .ok (.if_icmp .eq 58, 3) := by decide +kernel
theorem dX11_chooses_121 : decode cX11_chooses 121 = .ok (.aload_n 0, 1) := by decide +kernel
theorem dX11_chooses_122 : decode cX11_chooses 122 = .ok (.getfield 44, 3) := by decide +kernel
theorem dX11_chooses_125 : decode cX11_chooses 125 = .ok (.iload 6, 2) := by decide +kernel
theorem dX11_chooses_127 : decode cX11_chooses 127 = .ok (.iconst 1, 1) := by decide +kernel
theorem dX11_chooses_128 : decode cX11_chooses 128 = .ok (.bastore, 1) := by decide +kernel
theorem dX11_chooses_129 : decode cX11_chooses 129 = .ok (.aload_n 0, 1) := by decide +kernel
theorem dX11_chooses_130 : decode cX11_chooses 130 = .ok (.iload_n 1, 1) := by decide +kernel
theorem dX11_chooses_131 : decode cX11_chooses 131 = .ok (.iload_n 2, 1) := by decide +kernel
theorem dX11_chooses_132 : decode cX11_chooses 132 = .ok (.iconst 1, 1) := by decide +kernel
theorem dX11_chooses_133 : decode cX11_chooses 133 = .ok (.iadd, 1) := by decide +kernel
theorem dX11_chooses_134 : decode cX11_chooses 134 = .ok (.iload_n 2, 1) := by decide +kernel
theorem dX11_chooses_135 : decode cX11_chooses 135 = .ok (.iload 7, 2) := by decide +kernel
theorem dX11_chooses_137 : decode cX11_chooses 137 = .ok (.iadd, 1) := by decide +kernel
theorem dX11_chooses_138 : decode cX11_chooses 138 = .ok (.iload 6, 2) := by decide +kernel
theorem dX11_chooses_140 : decode cX11_chooses 140 = .ok (.iconst 1, 1) := by decide +kernel
theorem dX11_chooses_141 : decode cX11_chooses 141 = .ok (.iadd, 1) := by decide +kernel
theorem dX11_chooses_142 : decode cX11_chooses 142 = .ok (.iload 6, 2) := by decide +kernel
theorem dX11_chooses_144 : decode cX11_chooses 144 = .ok (.aload_n 0, 1) := by decide +kernel
theorem dX11_chooses_145 : decode cX11_chooses 145 = .ok (.getfield 22, 3) := by decide +kernel
theorem dX11_chooses_148 : decode cX11_chooses 148 = .ok (.bipush 12, 2) := by decide +kernel
theorem dX11_chooses_150 : decode cX11_chooses 150 = .ok (.iload 6, 2) := by decide +kernel
theorem dX11_chooses_152 : decode cX11_chooses 152 = .ok (.iadd, 1) := by decide +kernel
theorem dX11_chooses_153 : decode cX11_chooses 153 = .ok (.iaload, 1) := by decide +kernel
theorem dX11_chooses_154 : decode cX11_chooses 154 = .ok (.iadd, 1) := by decide +kernel
theorem dX11_chooses_155 : decode cX11_chooses 155 = .ok (.invokevirtual 156, 3) := by decide +kernel
theorem dX11_chooses_158 : decode cX11_chooses 158 = .ok (.iinc 1 1, 3) := by decide +kernel
theorem dX11_chooses_161 : decode cX11_chooses 161 = .ok (.iload 6, 2) := by decide +kernel
theorem dX11_chooses_163 : decode cX11_chooses 163 = .ok (.aload_n 0, 1) := by decide +kernel
theorem dX11_chooses_164 : decode cX11_chooses 164 = .ok (.getfield 22, 3) := by decide +kernel
theorem dX11_chooses_167 : decode cX11_chooses 167 = .ok (.bipush 12, 2) := by decide +kernel
theorem dX11_chooses_169 : decode cX11_chooses 169 = .ok (.iload 6, 2) := by decide +kernel
theorem dX11_chooses_171 : decode cX11_chooses 171 = .ok (.iadd, 1) := by decide +kernel
theorem dX11_chooses_172 : decode cX11_chooses 172 = .ok (.iaload, 1) := by decide +kernel
theorem dX11_chooses_173 : decode cX11_chooses 173 = .ok (.iadd, 1) := by decide +kernel
theorem dX11_chooses_174 : decode cX11_chooses 174 = .ok (.istore 4, 2) := by decide +kernel
theorem dX11_chooses_176 : decode cX11_chooses 176 = .ok (.iload_n 2, 1) := by decide +kernel
theorem dX11_chooses_177 : decode cX11_chooses 177 = .ok (.iload 7, 2) := by decide +kernel
theorem dX11_chooses_179 : decode cX11_chooses 179 = .ok (.iadd, 1) := by decide +kernel
theorem dX11_chooses_180 : decode cX11_chooses 180 = .ok (.istore_n 2, 1) := by decide +kernel
theorem dX11_chooses_181 : decode cX11_chooses 181 = .ok (.goto (-109), 3) := by decide +kernel
theorem dX11_chooses_184 : decode cX11_chooses 184 = .ok (.goto (-163), 3) := by decide +kernel
theorem dX11_chooses_187 : decode cX11_chooses 187 = .ok (.return_, 1) := by decide +kernel
theorem lk_X11_chooses_f25 : Cond.fieldLink RX11 25 "TreeComparerModel" "many" "[I" ∈ wsX11_chooses := by decide +kernel
theorem hi_X11_chooses_11 : ∀ w ∈ u_ws RX11 TX11 24, w ∈ wsX11_chooses := by decide +kernel
theorem lk_X11_chooses_f51 : Cond.fieldLink RX11 51 "TreeComparerModel" "jobs" "[I" ∈ wsX11_chooses := by decide +kernel
theorem lk_X11_chooses_f38 : Cond.fieldLink RX11 38 "TreeComparerModel" "partner" "[I" ∈ wsX11_chooses := by decide +kernel
theorem lk_X11_chooses_f22 : Cond.fieldLink RX11 22 "TreeComparerModel" "size" "[I" ∈ wsX11_chooses := by decide +kernel
theorem lk_X11_chooses_f44 : Cond.fieldLink RX11 44 "TreeComparerModel" "paired" "[Z" ∈ wsX11_chooses := by decide +kernel
def wpj_X11_chooses_176 (x1 : Int) (x2 : Int) (x3 : Int) (x4 : Int) (x5 : Int) (x7 : Int) (M : Mem) (J21 : Int → Mem → Prop) (J72 : Int → Int → Int → Int → Int → Mem → Prop) (Q : Mem → Prop) : Prop := (∀ y32 : Int, y32 = x2 + x7 → J72 x1 y32 x3 x4 x5 M)
def wpj_X11_chooses_113 (x1 : Int) (x2 : Int) (x3 : Int) (x4 : Int) (x5 : Int) (x6 : Int) (s0 : Int) (M : Mem) (J21 : Int → Mem → Prop) (J72 : Int → Int → Int → Int → Int → Mem → Prop) (Q : Mem → Prop) : Prop := inR x6 ∧ ((x6 = (-1) → wpj_X11_chooses_176 x1 x2 x3 x4 x5 s0 M J21 J72 Q) ∧ (¬ (x6 = (-1)) → ((0 : Int) ≤ x6 ∧ x6 < 12) ∧ (∀ M25 : Mem, M25 = mset M 13 11 x6.toNat 1 → ((0 : Int) ≤ 12 + x6 ∧ 12 + x6 < 24) ∧ wp_X11_job M25 x1 (x2 + 1) (x2 + s0) (x6 + 1) (x6 + (M25 13 4 (12 + x6).toNat)) (fun M29 => ((0 : Int) ≤ 12 + x6 ∧ 12 + x6 < 24) ∧ (∀ y31 : Int, y31 = x6 + (M29 13 4 (12 + x6).toNat) → wpj_X11_chooses_176 (x1 + 1) x2 x3 y31 x5 s0 M29 J21 J72 Q)))))
def wph_X11_chooses_72 (x1 : Int) (x2 : Int) (x3 : Int) (x4 : Int) (x5 : Int) (M : Mem) (J21 : Int → Mem → Prop) (J72 : Int → Int → Int → Int → Int → Mem → Prop) (Q : Mem → Prop) : Prop := inR x2 ∧ inR x3 ∧ ((x3 ≤ x2 → J21 x1 M) ∧ (¬ (x3 ≤ x2) → wp_X11_first M x2 x3 x4 x5 (fun y16 M17 => ((0 : Int) ≤ x2 ∧ x2 < 12) ∧ (∀ M18 : Mem, M18 = mset M17 13 9 x2.toNat y16 → inR y16 ∧ ((y16 ≠ (-1) → ((0 : Int) ≤ x2 ∧ x2 < 24) ∧ wpj_X11_chooses_113 x1 x2 x3 x4 x5 y16 ((M18 13 4 x2.toNat)) M18 J21 J72 Q) ∧ (¬ (y16 ≠ (-1)) → wpj_X11_chooses_113 x1 x2 x3 x4 x5 y16 1 M18 J21 J72 Q))))))
def wph_X11_chooses_21 (x1 : Int) (M : Mem) (J21 : Int → Mem → Prop) (J72 : Int → Int → Int → Int → Int → Mem → Prop) (Q : Mem → Prop) : Prop := inR x1 ∧ ((x1 ≤ 0 → Q M) ∧ (¬ (x1 ≤ 0) → ((0 : Int) ≤ 4 * (x1 + (-1)) ∧ 4 * (x1 + (-1)) < 96) ∧ (∀ y6 : Int, y6 = (M 13 13 (4 * (x1 + (-1))).toNat) → ((0 : Int) ≤ (4 * (x1 + (-1))) + 1 ∧ (4 * (x1 + (-1))) + 1 < 96) ∧ (∀ y8 : Int, y8 = (M 13 13 ((4 * (x1 + (-1))) + 1).toNat) → ((0 : Int) ≤ (4 * (x1 + (-1))) + 2 ∧ (4 * (x1 + (-1))) + 2 < 96) ∧ (∀ y10 : Int, y10 = (M 13 13 ((4 * (x1 + (-1))) + 2).toNat) → ((0 : Int) ≤ (4 * (x1 + (-1))) + 3 ∧ (4 * (x1 + (-1))) + 3 < 96) ∧ (∀ y12 : Int, y12 = (M 13 13 ((4 * (x1 + (-1))) + 3).toNat) → J72 (x1 + (-1)) y6 y8 y10 y12 M))))))
def wpe_X11_chooses (M : Mem) (J21 : Int → Mem → Prop) (J72 : Int → Int → Int → Int → Int → Mem → Prop) (Q : Mem → Prop) : Prop := wp_X11_job M 0 0 ((M 13 5 0)) 0 ((M 13 5 1)) (fun M2 => J21 1 M2)
def wp_X11_chooses (M : Mem) (Q : Mem → Prop) : Prop := ∃ (I21 : Nat → Int → Mem → Prop) (I72 : Nat → Int → Int → Int → Int → Int → Mem → Prop), wpe_X11_chooses M (fun (x1 : Int) (M1 : Mem) => ∃ n1 : Nat, I21 n1 x1 M1) (fun (x1 : Int) (x2 : Int) (x3 : Int) (x4 : Int) (x5 : Int) (M1 : Mem) => ∃ n1 : Nat, I72 n1 x1 x2 x3 x4 x5 M1) Q ∧ (∀ (n : Nat) (x1 : Int) (M : Mem), I21 n x1 M → wph_X11_chooses_21 x1 M (fun (x1 : Int) (M1 : Mem) => ∃ n1 : Nat, n1 < n ∧ I21 n1 x1 M1) (fun (x1 : Int) (x2 : Int) (x3 : Int) (x4 : Int) (x5 : Int) (M1 : Mem) => ∃ n1 : Nat, n1 < n ∧ I72 n1 x1 x2 x3 x4 x5 M1) Q) ∧ (∀ (n : Nat) (x1 : Int) (x2 : Int) (x3 : Int) (x4 : Int) (x5 : Int) (M : Mem), I72 n x1 x2 x3 x4 x5 M → wph_X11_chooses_72 x1 x2 x3 x4 x5 M (fun (x1 : Int) (M1 : Mem) => ∃ n1 : Nat, n1 < n ∧ I21 n1 x1 M1) (fun (x1 : Int) (x2 : Int) (x3 : Int) (x4 : Int) (x5 : Int) (M1 : Mem) => ∃ n1 : Nat, n1 < n ∧ I72 n1 x1 x2 x3 x4 x5 M1) Q)
set_option maxHeartbeats 4000000 in
set_option maxRecDepth 100000 in
theorem wkj_X11_chooses_176 {p : Program} {l : Launch} {e : Env} {s : State} {m : MethodId} {args : Array Value} {below : List Frame} {meth : Method} {c : Code} {D : va_G} {g : GT} {A : Nat → Prop} {a : Nat → Nat} {b : Nat → Nat → Nat} (X : vC p s m args meth c D g A RX11 wsX11_chooses cX11_chooses 8) (hr : meth.sig.returnType = none) {x1 : Int} {x2 : Int} {x3 : Int} {x4 : Int} {x5 : Int} {x7 : Int} {M : Mem} {J21 : Int → Mem → Prop} {J72 : Int → Int → Int → Int → Int → Mem → Prop} {Q : Mem → Prop} (hJ21 : ∀ (x1 : Int) (M : Mem), J21 x1 M → vV p l e ({ frames := 3, cells := 0, slots := 0, locals := 77 } : Room) s m args below meth c D g A a b 8 0 0 (MQ below (cQv D g A a b Q) args s 0 0 A) M [(0, .ref (a 13)), (1, iv x1)] 21 []) (hJ72 : ∀ (x1 : Int) (x2 : Int) (x3 : Int) (x4 : Int) (x5 : Int) (M : Mem), J72 x1 x2 x3 x4 x5 M → vV p l e ({ frames := 3, cells := 0, slots := 0, locals := 77 } : Room) s m args below meth c D g A a b 8 0 0 (MQ below (cQv D g A a b Q) args s 0 0 A) M [(0, .ref (a 13)), (1, iv x1), (2, iv x2), (3, iv x3), (4, iv x4), (5, iv x5)] 72 []) (hw : wpj_X11_chooses_176 x1 x2 x3 x4 x5 x7 M J21 J72 Q) : vV p l e ({ frames := 3, cells := 0, slots := 0, locals := 77 } : Room) s m args below meth c D g A a b 8 0 0 (MQ below (cQv D g A a b Q) args s 0 0 A) M [(0, .ref (a 13)), (1, iv x1), (2, iv x2), (3, iv x3), (4, iv x4), (5, iv x5), (7, iv x7)] 176 [] := by
  unfold wpj_X11_chooses_176 at hw
  refine V_iload_n X dX11_chooses_176 rfl (q := 2) rfl ?_
  refine V_iload X dX11_chooses_177 (q := 6) rfl ?_
  refine V_iadd X dX11_chooses_179 ?_
  refine V_top (fun y32 ey32 => ?_)
  have hw := hw y32 ey32
  refine V_istore_n (lv1 := [(0, .ref (a 13)), (1, iv x1), (2, iv y32), (3, iv x3), (4, iv x4), (5, iv x5), (7, iv x7)]) X [1, 2, 0, 3, 4, 5, 6] dX11_chooses_180 rfl (by decide) rfl ?_
  refine V_goto (tgt := 72) X dX11_chooses_181 (by decide) ?_
  refine V_sub (lv1 := [(0, .ref (a 13)), (1, iv x1), (2, iv y32), (3, iv x3), (4, iv x4), (5, iv x5)]) [0, 1, 2, 3, 4, 5] rfl ?_
  exact hJ72 _ _ _ _ _ _ hw
set_option maxHeartbeats 4000000 in
set_option maxRecDepth 100000 in
theorem wkj_X11_chooses_113 {p : Program} {l : Launch} {e : Env} {s : State} {m : MethodId} {args : Array Value} {below : List Frame} {meth : Method} {c : Code} {D : va_G} {g : GT} {A : Nat → Prop} {a : Nat → Nat} {b : Nat → Nat → Nat} (X : vC p s m args meth c D g A RX11 wsX11_chooses cX11_chooses 8) (hr : meth.sig.returnType = none) {x1 : Int} {x2 : Int} {x3 : Int} {x4 : Int} {x5 : Int} {x6 : Int} {s0 : Int} {M : Mem} {J21 : Int → Mem → Prop} {J72 : Int → Int → Int → Int → Int → Mem → Prop} {Q : Mem → Prop} (hJ21 : ∀ (x1 : Int) (M : Mem), J21 x1 M → vV p l e ({ frames := 3, cells := 0, slots := 0, locals := 77 } : Room) s m args below meth c D g A a b 8 0 0 (MQ below (cQv D g A a b Q) args s 0 0 A) M [(0, .ref (a 13)), (1, iv x1)] 21 []) (hJ72 : ∀ (x1 : Int) (x2 : Int) (x3 : Int) (x4 : Int) (x5 : Int) (M : Mem), J72 x1 x2 x3 x4 x5 M → vV p l e ({ frames := 3, cells := 0, slots := 0, locals := 77 } : Room) s m args below meth c D g A a b 8 0 0 (MQ below (cQv D g A a b Q) args s 0 0 A) M [(0, .ref (a 13)), (1, iv x1), (2, iv x2), (3, iv x3), (4, iv x4), (5, iv x5)] 72 []) (hw : wpj_X11_chooses_113 x1 x2 x3 x4 x5 x6 s0 M J21 J72 Q) : vV p l e ({ frames := 3, cells := 0, slots := 0, locals := 77 } : Room) s m args below meth c D g A a b 8 0 0 (MQ below (cQv D g A a b Q) args s 0 0 A) M [(0, .ref (a 13)), (1, iv x1), (2, iv x2), (3, iv x3), (4, iv x4), (5, iv x5), (6, iv x6)] 113 [iv s0] := by
  unfold wpj_X11_chooses_113 at hw
  refine V_istore (lv1 := [(0, .ref (a 13)), (1, iv x1), (2, iv x2), (3, iv x3), (4, iv x4), (5, iv x5), (6, iv x6), (7, iv s0)]) X [1, 2, 3, 4, 5, 6, 7, 0] dX11_chooses_113 (by decide) rfl ?_
  refine V_iload X dX11_chooses_115 (q := 6) rfl ?_
  refine V_iconst X dX11_chooses_117 ?_
  obtain ⟨h23, hw⟩ := hw
  refine V_icmp_eq (tgt := 176) X h23 ⟨by decide, by decide⟩ dX11_chooses_118 (by decide) (fun q24 => ?_) (fun q24 => ?_)
  · have hw := hw.1 q24
    refine V_sub (lv1 := [(0, .ref (a 13)), (1, iv x1), (2, iv x2), (3, iv x3), (4, iv x4), (5, iv x5), (7, iv s0)]) [0, 1, 2, 3, 4, 5, 7] rfl ?_
    exact wkj_X11_chooses_176 X hr hJ21 hJ72 hw
  · have hw := hw.2 q24
    refine V_aload_n X dX11_chooses_121 rfl (q := 0) rfl ?_
    refine V_get (C := RX11) (T := TX11) (N := 24) (ci := 11) X hi_X11_chooses_11 gO_13 rfl 11 (by decide) lk_X11_chooses_f44 (fun _ h9 => h9) rfl dX11_chooses_122 ?_
    refine V_iload X dX11_chooses_125 (q := 6) rfl ?_
    refine V_iconst X dX11_chooses_127 ?_
    obtain ⟨h26, hw⟩ := hw
    refine V_zast X (gA_13_11) (sA_13_11) h26 (by decide) (by decide) dX11_chooses_128 (fun M25 eM25 => ?_)
    have hw := hw M25 eM25
    refine V_aload_n X dX11_chooses_129 rfl (q := 0) rfl ?_
    refine V_iload_n X dX11_chooses_130 rfl (q := 1) rfl ?_
    refine V_iload_n X dX11_chooses_131 rfl (q := 2) rfl ?_
    refine V_iconst X dX11_chooses_132 ?_
    refine V_iadd X dX11_chooses_133 ?_
    refine V_iload_n X dX11_chooses_134 rfl (q := 2) rfl ?_
    refine V_iload X dX11_chooses_135 (q := 7) rfl ?_
    refine V_iadd X dX11_chooses_137 ?_
    refine V_iload X dX11_chooses_138 (q := 6) rfl ?_
    refine V_iconst X dX11_chooses_140 ?_
    refine V_iadd X dX11_chooses_141 ?_
    refine V_iload X dX11_chooses_142 (q := 6) rfl ?_
    refine V_aload_n X dX11_chooses_144 rfl (q := 0) rfl ?_
    refine V_get (C := RX11) (T := TX11) (N := 24) (ci := 11) X hi_X11_chooses_11 gO_13 rfl 4 (by decide) lk_X11_chooses_f22 (fun _ h9 => h9) rfl dX11_chooses_145 ?_
    refine V_bipush X dX11_chooses_148 rfl ?_
    refine V_iload X dX11_chooses_150 (q := 6) rfl ?_
    refine V_iadd X dX11_chooses_152 ?_
    obtain ⟨h27, hw⟩ := hw
    refine V_iald X (gA_13_4) h27 (by decide) dX11_chooses_153 ?_
    refine V_iadd X dX11_chooses_154 ?_
    refine V_callV_v X _ gO_13 rfl (As := [iv x1, iv (x2 + 1), iv (x2 + s0), iv (x6 + 1), iv (x6 + (M25 13 4 (12 + x6).toNat))]) (st := []) (c_X11_job l hw) (cwV 5 X.2.2.2.1 gX11_chooses_X11_job rfl rfl rfl (by decide +kernel) ⟨Nat.le_of_ble_eq_true rfl, Nat.le_of_ble_eq_true rfl⟩) rfl (Nat.le_of_ble_eq_true rfl) ⟨Nat.le_of_ble_eq_true rfl, Nat.le_of_ble_eq_true rfl⟩ rfl dX11_chooses_155 (fun M29 hw => ?_)
    refine V_iinc (lv1 := [(0, .ref (a 13)), (1, iv (x1 + 1)), (2, iv x2), (3, iv x3), (4, iv x4), (5, iv x5), (6, iv x6), (7, iv s0)]) X [1, 0, 2, 3, 4, 5, 6, 7] dX11_chooses_158 (q := 1) rfl (by decide) rfl ?_
    refine V_iload X dX11_chooses_161 (q := 6) rfl ?_
    refine V_aload_n X dX11_chooses_163 rfl (q := 0) rfl ?_
    refine V_get (C := RX11) (T := TX11) (N := 24) (ci := 11) X hi_X11_chooses_11 gO_13 rfl 4 (by decide) lk_X11_chooses_f22 (fun _ h9 => h9) rfl dX11_chooses_164 ?_
    refine V_bipush X dX11_chooses_167 rfl ?_
    refine V_iload X dX11_chooses_169 (q := 6) rfl ?_
    refine V_iadd X dX11_chooses_171 ?_
    obtain ⟨h30, hw⟩ := hw
    refine V_iald X (gA_13_4) h30 (by decide) dX11_chooses_172 ?_
    refine V_iadd X dX11_chooses_173 ?_
    refine V_top (fun y31 ey31 => ?_)
    have hw := hw y31 ey31
    refine V_istore (lv1 := [(0, .ref (a 13)), (1, iv (x1 + 1)), (2, iv x2), (3, iv x3), (4, iv y31), (5, iv x5), (6, iv x6), (7, iv s0)]) X [1, 2, 3, 4, 0, 5, 6, 7] dX11_chooses_174 (by decide) rfl ?_
    refine V_sub (lv1 := [(0, .ref (a 13)), (1, iv (x1 + 1)), (2, iv x2), (3, iv x3), (4, iv y31), (5, iv x5), (7, iv s0)]) [0, 1, 2, 3, 4, 5, 7] rfl ?_
    exact wkj_X11_chooses_176 X hr hJ21 hJ72 hw
set_option maxHeartbeats 4000000 in
set_option maxRecDepth 100000 in
theorem wkh_X11_chooses_72 {p : Program} {l : Launch} {e : Env} {s : State} {m : MethodId} {args : Array Value} {below : List Frame} {meth : Method} {c : Code} {D : va_G} {g : GT} {A : Nat → Prop} {a : Nat → Nat} {b : Nat → Nat → Nat} (X : vC p s m args meth c D g A RX11 wsX11_chooses cX11_chooses 8) (hr : meth.sig.returnType = none) {x1 : Int} {x2 : Int} {x3 : Int} {x4 : Int} {x5 : Int} {M : Mem} {J21 : Int → Mem → Prop} {J72 : Int → Int → Int → Int → Int → Mem → Prop} {Q : Mem → Prop} (hJ21 : ∀ (x1 : Int) (M : Mem), J21 x1 M → vV p l e ({ frames := 3, cells := 0, slots := 0, locals := 77 } : Room) s m args below meth c D g A a b 8 0 0 (MQ below (cQv D g A a b Q) args s 0 0 A) M [(0, .ref (a 13)), (1, iv x1)] 21 []) (hJ72 : ∀ (x1 : Int) (x2 : Int) (x3 : Int) (x4 : Int) (x5 : Int) (M : Mem), J72 x1 x2 x3 x4 x5 M → vV p l e ({ frames := 3, cells := 0, slots := 0, locals := 77 } : Room) s m args below meth c D g A a b 8 0 0 (MQ below (cQv D g A a b Q) args s 0 0 A) M [(0, .ref (a 13)), (1, iv x1), (2, iv x2), (3, iv x3), (4, iv x4), (5, iv x5)] 72 []) (hw : wph_X11_chooses_72 x1 x2 x3 x4 x5 M J21 J72 Q) : vV p l e ({ frames := 3, cells := 0, slots := 0, locals := 77 } : Room) s m args below meth c D g A a b 8 0 0 (MQ below (cQv D g A a b Q) args s 0 0 A) M [(0, .ref (a 13)), (1, iv x1), (2, iv x2), (3, iv x3), (4, iv x4), (5, iv x5)] 72 [] := by
  unfold wph_X11_chooses_72 at hw
  refine V_iload_n X dX11_chooses_72 rfl (q := 2) rfl ?_
  refine V_iload_n X dX11_chooses_73 rfl (q := 3) rfl ?_
  obtain ⟨h13, h14, hw⟩ := hw
  refine V_icmp_ge (tgt := 184) X h13 h14 dX11_chooses_74 (by decide) (fun q15 => ?_) (fun q15 => ?_)
  · have hw := hw.1 q15
    refine V_goto (tgt := 21) X dX11_chooses_184 (by decide) ?_
    refine V_sub (lv1 := [(0, .ref (a 13)), (1, iv x1)]) [0, 1] rfl ?_
    exact hJ21 _ _ hw
  · have hw := hw.2 q15
    refine V_aload_n X dX11_chooses_77 rfl (q := 0) rfl ?_
    refine V_iload_n X dX11_chooses_78 rfl (q := 2) rfl ?_
    refine V_iload_n X dX11_chooses_79 rfl (q := 3) rfl ?_
    refine V_iload X dX11_chooses_80 (q := 4) rfl ?_
    refine V_iload X dX11_chooses_82 (q := 5) rfl ?_
    refine V_callV_i X _ gO_13 rfl (As := [iv x2, iv x3, iv x4, iv x5]) (st := []) (c_X11_first l hw) (cwV 4 X.2.2.2.1 gX11_chooses_X11_first rfl rfl rfl (by decide +kernel) ⟨Nat.le_of_ble_eq_true rfl, Nat.le_of_ble_eq_true rfl⟩) rfl (Nat.le_of_ble_eq_true rfl) ⟨Nat.le_of_ble_eq_true rfl, Nat.le_of_ble_eq_true rfl⟩ rfl dX11_chooses_84 (fun y16 M17 hw => ?_)
    refine V_istore (lv1 := [(0, .ref (a 13)), (1, iv x1), (2, iv x2), (3, iv x3), (4, iv x4), (5, iv x5), (6, iv y16)]) X [1, 2, 3, 4, 5, 6, 0] dX11_chooses_87 (by decide) rfl ?_
    refine V_aload_n X dX11_chooses_89 rfl (q := 0) rfl ?_
    refine V_get (C := RX11) (T := TX11) (N := 24) (ci := 11) X hi_X11_chooses_11 gO_13 rfl 9 (by decide) lk_X11_chooses_f38 (fun _ h9 => h9) rfl dX11_chooses_90 ?_
    refine V_iload_n X dX11_chooses_93 rfl (q := 2) rfl ?_
    refine V_iload X dX11_chooses_94 (q := 6) rfl ?_
    obtain ⟨h19, hw⟩ := hw
    refine V_iast X (gA_13_9) (sA_13_9) h19 (by decide) dX11_chooses_96 (fun M18 eM18 => ?_)
    have hw := hw M18 eM18
    refine V_iload X dX11_chooses_97 (q := 6) rfl ?_
    refine V_iconst X dX11_chooses_99 ?_
    obtain ⟨h20, hw⟩ := hw
    refine V_icmp_ne (tgt := 107) X h20 ⟨by decide, by decide⟩ dX11_chooses_100 (by decide) (fun q21 => ?_) (fun q21 => ?_)
    · have hw := hw.1 q21
      refine V_aload_n X dX11_chooses_107 rfl (q := 0) rfl ?_
      refine V_get (C := RX11) (T := TX11) (N := 24) (ci := 11) X hi_X11_chooses_11 gO_13 rfl 4 (by decide) lk_X11_chooses_f22 (fun _ h9 => h9) rfl dX11_chooses_108 ?_
      refine V_iload_n X dX11_chooses_111 rfl (q := 2) rfl ?_
      obtain ⟨h22, hw⟩ := hw
      refine V_iald X (gA_13_4) h22 (by decide) dX11_chooses_112 ?_
      exact wkj_X11_chooses_113 X hr hJ21 hJ72 hw
    · have hw := hw.2 q21
      refine V_iconst X dX11_chooses_103 ?_
      refine V_goto (tgt := 113) X dX11_chooses_104 (by decide) ?_
      exact wkj_X11_chooses_113 X hr hJ21 hJ72 hw
set_option maxHeartbeats 4000000 in
set_option maxRecDepth 100000 in
theorem wkh_X11_chooses_21 {p : Program} {l : Launch} {e : Env} {s : State} {m : MethodId} {args : Array Value} {below : List Frame} {meth : Method} {c : Code} {D : va_G} {g : GT} {A : Nat → Prop} {a : Nat → Nat} {b : Nat → Nat → Nat} (X : vC p s m args meth c D g A RX11 wsX11_chooses cX11_chooses 8) (hr : meth.sig.returnType = none) {x1 : Int} {M : Mem} {J21 : Int → Mem → Prop} {J72 : Int → Int → Int → Int → Int → Mem → Prop} {Q : Mem → Prop} (hJ21 : ∀ (x1 : Int) (M : Mem), J21 x1 M → vV p l e ({ frames := 3, cells := 0, slots := 0, locals := 77 } : Room) s m args below meth c D g A a b 8 0 0 (MQ below (cQv D g A a b Q) args s 0 0 A) M [(0, .ref (a 13)), (1, iv x1)] 21 []) (hJ72 : ∀ (x1 : Int) (x2 : Int) (x3 : Int) (x4 : Int) (x5 : Int) (M : Mem), J72 x1 x2 x3 x4 x5 M → vV p l e ({ frames := 3, cells := 0, slots := 0, locals := 77 } : Room) s m args below meth c D g A a b 8 0 0 (MQ below (cQv D g A a b Q) args s 0 0 A) M [(0, .ref (a 13)), (1, iv x1), (2, iv x2), (3, iv x3), (4, iv x4), (5, iv x5)] 72 []) (hw : wph_X11_chooses_21 x1 M J21 J72 Q) : vV p l e ({ frames := 3, cells := 0, slots := 0, locals := 77 } : Room) s m args below meth c D g A a b 8 0 0 (MQ below (cQv D g A a b Q) args s 0 0 A) M [(0, .ref (a 13)), (1, iv x1)] 21 [] := by
  unfold wph_X11_chooses_21 at hw
  refine V_iload_n X dX11_chooses_21 rfl (q := 1) rfl ?_
  obtain ⟨h3, hw⟩ := hw
  refine V_if_le (tgt := 187) X h3 dX11_chooses_22 (by decide) (fun q4 => ?_) (fun q4 => ?_)
  · have hw := hw.1 q4
    exact V_vret X hr hw dX11_chooses_187
  · have hw := hw.2 q4
    refine V_iinc (lv1 := [(0, .ref (a 13)), (1, iv (x1 + (-1)))]) X [1, 0] dX11_chooses_25 (q := 1) rfl (by decide) rfl ?_
    refine V_aload_n X dX11_chooses_28 rfl (q := 0) rfl ?_
    refine V_get (C := RX11) (T := TX11) (N := 24) (ci := 11) X hi_X11_chooses_11 gO_13 rfl 13 (by decide) lk_X11_chooses_f51 (fun _ h9 => h9) rfl dX11_chooses_29 ?_
    refine V_iconst X dX11_chooses_32 ?_
    refine V_iload_n X dX11_chooses_33 rfl (q := 1) rfl ?_
    refine V_imul X dX11_chooses_34 ?_
    obtain ⟨h5, hw⟩ := hw
    refine V_iald X (gA_13_13) h5 (by decide) dX11_chooses_35 ?_
    refine V_top (fun y6 ey6 => ?_)
    have hw := hw y6 ey6
    refine V_istore_n (lv1 := [(0, .ref (a 13)), (1, iv (x1 + (-1))), (2, iv y6)]) X [1, 2, 0] dX11_chooses_36 rfl (by decide) rfl ?_
    refine V_aload_n X dX11_chooses_37 rfl (q := 0) rfl ?_
    refine V_get (C := RX11) (T := TX11) (N := 24) (ci := 11) X hi_X11_chooses_11 gO_13 rfl 13 (by decide) lk_X11_chooses_f51 (fun _ h9 => h9) rfl dX11_chooses_38 ?_
    refine V_iconst X dX11_chooses_41 ?_
    refine V_iload_n X dX11_chooses_42 rfl (q := 1) rfl ?_
    refine V_imul X dX11_chooses_43 ?_
    refine V_iconst X dX11_chooses_44 ?_
    refine V_iadd X dX11_chooses_45 ?_
    obtain ⟨h7, hw⟩ := hw
    refine V_iald X (gA_13_13) h7 (by decide) dX11_chooses_46 ?_
    refine V_top (fun y8 ey8 => ?_)
    have hw := hw y8 ey8
    refine V_istore_n (lv1 := [(0, .ref (a 13)), (1, iv (x1 + (-1))), (2, iv y6), (3, iv y8)]) X [1, 2, 3, 0] dX11_chooses_47 rfl (by decide) rfl ?_
    refine V_aload_n X dX11_chooses_48 rfl (q := 0) rfl ?_
    refine V_get (C := RX11) (T := TX11) (N := 24) (ci := 11) X hi_X11_chooses_11 gO_13 rfl 13 (by decide) lk_X11_chooses_f51 (fun _ h9 => h9) rfl dX11_chooses_49 ?_
    refine V_iconst X dX11_chooses_52 ?_
    refine V_iload_n X dX11_chooses_53 rfl (q := 1) rfl ?_
    refine V_imul X dX11_chooses_54 ?_
    refine V_iconst X dX11_chooses_55 ?_
    refine V_iadd X dX11_chooses_56 ?_
    obtain ⟨h9, hw⟩ := hw
    refine V_iald X (gA_13_13) h9 (by decide) dX11_chooses_57 ?_
    refine V_top (fun y10 ey10 => ?_)
    have hw := hw y10 ey10
    refine V_istore (lv1 := [(0, .ref (a 13)), (1, iv (x1 + (-1))), (2, iv y6), (3, iv y8), (4, iv y10)]) X [1, 2, 3, 4, 0] dX11_chooses_58 (by decide) rfl ?_
    refine V_aload_n X dX11_chooses_60 rfl (q := 0) rfl ?_
    refine V_get (C := RX11) (T := TX11) (N := 24) (ci := 11) X hi_X11_chooses_11 gO_13 rfl 13 (by decide) lk_X11_chooses_f51 (fun _ h9 => h9) rfl dX11_chooses_61 ?_
    refine V_iconst X dX11_chooses_64 ?_
    refine V_iload_n X dX11_chooses_65 rfl (q := 1) rfl ?_
    refine V_imul X dX11_chooses_66 ?_
    refine V_iconst X dX11_chooses_67 ?_
    refine V_iadd X dX11_chooses_68 ?_
    obtain ⟨h11, hw⟩ := hw
    refine V_iald X (gA_13_13) h11 (by decide) dX11_chooses_69 ?_
    refine V_top (fun y12 ey12 => ?_)
    have hw := hw y12 ey12
    refine V_istore (lv1 := [(0, .ref (a 13)), (1, iv (x1 + (-1))), (2, iv y6), (3, iv y8), (4, iv y10), (5, iv y12)]) X [1, 2, 3, 4, 5, 0] dX11_chooses_70 (by decide) rfl ?_
    exact hJ72 _ _ _ _ _ _ hw
set_option maxHeartbeats 4000000 in
set_option maxRecDepth 100000 in
theorem wke_X11_chooses {p : Program} {l : Launch} {e : Env} {s : State} {m : MethodId} {args : Array Value} {below : List Frame} {meth : Method} {c : Code} {D : va_G} {g : GT} {A : Nat → Prop} {a : Nat → Nat} {b : Nat → Nat → Nat} (X : vC p s m args meth c D g A RX11 wsX11_chooses cX11_chooses 8) (hr : meth.sig.returnType = none) {M : Mem} {J21 : Int → Mem → Prop} {J72 : Int → Int → Int → Int → Int → Mem → Prop} {Q : Mem → Prop} (hJ21 : ∀ (x1 : Int) (M : Mem), J21 x1 M → vV p l e ({ frames := 3, cells := 0, slots := 0, locals := 77 } : Room) s m args below meth c D g A a b 8 0 0 (MQ below (cQv D g A a b Q) args s 0 0 A) M [(0, .ref (a 13)), (1, iv x1)] 21 []) (hJ72 : ∀ (x1 : Int) (x2 : Int) (x3 : Int) (x4 : Int) (x5 : Int) (M : Mem), J72 x1 x2 x3 x4 x5 M → vV p l e ({ frames := 3, cells := 0, slots := 0, locals := 77 } : Room) s m args below meth c D g A a b 8 0 0 (MQ below (cQv D g A a b Q) args s 0 0 A) M [(0, .ref (a 13)), (1, iv x1), (2, iv x2), (3, iv x3), (4, iv x4), (5, iv x5)] 72 []) (hw : wpe_X11_chooses M J21 J72 Q) : vV p l e ({ frames := 3, cells := 0, slots := 0, locals := 77 } : Room) s m args below meth c D g A a b 8 0 0 (MQ below (cQv D g A a b Q) args s 0 0 A) M [(0, .ref (a 13))] 0 [] := by
  unfold wpe_X11_chooses at hw
  refine V_aload_n X dX11_chooses_0 rfl (q := 0) rfl ?_
  refine V_iconst X dX11_chooses_1 ?_
  refine V_iconst X dX11_chooses_2 ?_
  refine V_aload_n X dX11_chooses_3 rfl (q := 0) rfl ?_
  refine V_get (C := RX11) (T := TX11) (N := 24) (ci := 11) X hi_X11_chooses_11 gO_13 rfl 5 (by decide) lk_X11_chooses_f25 (fun _ h9 => h9) rfl dX11_chooses_4 ?_
  refine V_iconst X dX11_chooses_7 ?_
  refine V_iald X (gA_13_5) ⟨by decide, by decide⟩ (by decide) dX11_chooses_8 ?_
  refine V_iconst X dX11_chooses_9 ?_
  refine V_aload_n X dX11_chooses_10 rfl (q := 0) rfl ?_
  refine V_get (C := RX11) (T := TX11) (N := 24) (ci := 11) X hi_X11_chooses_11 gO_13 rfl 5 (by decide) lk_X11_chooses_f25 (fun _ h9 => h9) rfl dX11_chooses_11 ?_
  refine V_iconst X dX11_chooses_14 ?_
  refine V_iald X (gA_13_5) ⟨by decide, by decide⟩ (by decide) dX11_chooses_15 ?_
  refine V_callV_v X _ gO_13 rfl (As := [iv 0, iv 0, iv ((M 13 5 0)), iv 0, iv ((M 13 5 1))]) (st := []) (c_X11_job l hw) (cwV 5 X.2.2.2.1 gX11_chooses_X11_job rfl rfl rfl (by decide +kernel) ⟨Nat.le_of_ble_eq_true rfl, Nat.le_of_ble_eq_true rfl⟩) rfl (Nat.le_of_ble_eq_true rfl) ⟨Nat.le_of_ble_eq_true rfl, Nat.le_of_ble_eq_true rfl⟩ rfl dX11_chooses_16 (fun M2 hw => ?_)
  refine V_iconst X dX11_chooses_19 ?_
  refine V_istore_n (lv1 := [(0, .ref (a 13)), (1, iv 1)]) X [1, 0] dX11_chooses_20 rfl (by decide) rfl ?_
  exact hJ21 _ _ hw
set_option maxHeartbeats 4000000 in
set_option maxRecDepth 100000 in
theorem c_X11_chooses (l : Launch) {D : va_G} {g : GT} {A : Nat → Prop} {a : Nat → Nat} {b : Nat → Nat → Nat} {M : Mem} {Q : Mem → Prop} (hw : wp_X11_chooses M Q) : Met l yX11_chooses wsX11_chooses ({ frames := 3, cells := 0, slots := 0, locals := 77 } : Room) (cPc D g A a b M [.ref (a 13)]) (cQv D g A a b Q) 0 0 A := by
  refine Met.ofW (cc := cX11_chooses) (maxL := 8) (ret := none) (by decide) rfl ?_
  intro p e s m args below meth c s₁ B hml hv
  obtain ⟨rfl, hP, hD, hG⟩ := hv
  have X : vC p s m _ meth c D g A RX11 wsX11_chooses cX11_chooses 8 := ⟨B.exec, B.bytes, findClass_of_methodNamed B.named, atoms_spec (ws := wsX11_chooses) B.pre, hG, hml, B.notSynchronized⟩
  have hr := B.returns
  have hl := lv_entry ([.ref (a 13)]) (n := 8) (Nat.le_of_ble_eq_true rfl)
  rw [lg_entry_eq]
  generalize (lg_sl ([.ref (a 13)]) ++ List.replicate (8 - (lg_sl ([.ref (a 13)])).length) Slot.unset).toArray = ls at hl ⊢
  have hl : lv_has ls 8 [(0, .ref (a 13))] := hl
  obtain ⟨I21, I72, hw, hI21, hI72⟩ := hw
  have K : ∀ n : Nat, (∀ (x1 : Int) (M : Mem), I21 n x1 M → vV p l e ({ frames := 3, cells := 0, slots := 0, locals := 77 } : Room) s m ([.ref (a 13)] : List Value).toArray below meth c D g A a b 8 0 0 (MQ below (cQv D g A a b Q) ([.ref (a 13)] : List Value).toArray s 0 0 A) M [(0, .ref (a 13)), (1, iv x1)] 21 []) ∧ (∀ (x1 : Int) (x2 : Int) (x3 : Int) (x4 : Int) (x5 : Int) (M : Mem), I72 n x1 x2 x3 x4 x5 M → vV p l e ({ frames := 3, cells := 0, slots := 0, locals := 77 } : Room) s m ([.ref (a 13)] : List Value).toArray below meth c D g A a b 8 0 0 (MQ below (cQv D g A a b Q) ([.ref (a 13)] : List Value).toArray s 0 0 A) M [(0, .ref (a 13)), (1, iv x1), (2, iv x2), (3, iv x3), (4, iv x4), (5, iv x5)] 72 []) := by
    intro n
    induction n using Nat.strongRecOn with
    | ind n ih =>
      exact ⟨fun x1 M hh => wkh_X11_chooses_21 X hr (fun _ _ ⟨n1, hn, hh⟩ => (ih n1 hn).1 _ _ hh) (fun _ _ _ _ _ _ ⟨n1, hn, hh⟩ => (ih n1 hn).2 _ _ _ _ _ _ hh) (hI21 n x1 M hh), fun x1 x2 x3 x4 x5 M hh => wkh_X11_chooses_72 X hr (fun _ _ ⟨n1, hn, hh⟩ => (ih n1 hn).1 _ _ hh) (fun _ _ _ _ _ _ ⟨n1, hn, hh⟩ => (ih n1 hn).2 _ _ _ _ _ _ hh) (hI72 n x1 x2 x3 x4 x5 M hh)⟩
  exact wke_X11_chooses X hr  (fun _ _ ⟨n1, hh⟩ => (K n1).1 _ _ hh) (fun _ _ _ _ _ _ ⟨n1, hh⟩ => (K n1).2 _ _ _ _ _ _ hh) hw s.heap [] ls hP hD va_S.rf hl

set_option maxRecDepth 20000 in
theorem ggX11_maps_X11_fills : GoodIn wsX11_maps wsX11_fills := goodIn_r _ [6, 7, 8, 9, 10, 11, 12, 5, 13, 14, 15, 16, 17, 18, 19, 20, 21, 22, 23, 24, 25, 26, 27, 28, 29, 30, 31, 32, 33, 34, 35, 36, 37, 38, 39, 40, 59, 60, 61, 62, 63, 64, 65, 66, 67, 68, 69, 70, 71, 72, 73, 74, 75, 76, 77, 78, 79, 80, 81, 82] (by decide +kernel) (by decide +kernel)
set_option maxRecDepth 20000 in
theorem gX11_maps_X11_fills : GoodIn wsX11_maps (wsV RX11 140 RX11 yX11_fills wsX11_fills) := goodIn_app (goodIn_of _ (by decide +kernel)) ggX11_maps_X11_fills
set_option maxRecDepth 20000 in
theorem ggX11_maps_X11_chooses : GoodIn wsX11_maps wsX11_chooses := goodIn_r _ [44, 7, 45, 46, 15, 1, 47, 48, 49, 5, 50, 51, 52, 53, 54, 8, 16, 17, 18, 32, 33, 34, 35, 28, 55, 56, 57, 58, 23, 24, 25, 26, 27, 36, 37, 38, 39, 40, 59, 60, 61, 62, 63, 64, 65, 66, 67, 68, 69, 70, 71, 72, 73, 74, 75, 76, 77, 78, 79, 80, 81, 82] (by decide +kernel) (by decide +kernel)
set_option maxRecDepth 20000 in
theorem gX11_maps_X11_chooses : GoodIn wsX11_maps (wsV RX11 163 RX11 yX11_chooses wsX11_chooses) := goodIn_app (goodIn_of _ (by decide +kernel)) ggX11_maps_X11_chooses
theorem dX11_maps_0 : decode cX11_maps 0 = .ok (.aload_n 0, 1) := by decide +kernel
theorem dX11_maps_1 : decode cX11_maps 1 = .ok (.iconst (-1), 1) := by decide +kernel
theorem dX11_maps_2 : decode cX11_maps 2 = .ok (.iconst (-1), 1) := by decide +kernel
theorem dX11_maps_3 : decode cX11_maps 3 = .ok (.invokevirtual 140, 3) := by decide +kernel
theorem dX11_maps_6 : decode cX11_maps 6 = .ok (.istore_n 1, 1) := by decide +kernel
theorem dX11_maps_7 : decode cX11_maps 7 = .ok (.iconst 0, 1) := by decide +kernel
theorem dX11_maps_8 : decode cX11_maps 8 = .ok (.istore_n 2, 1) := by decide +kernel
theorem dX11_maps_9 : decode cX11_maps 9 = .ok (.iload_n 2, 1) := by decide +kernel
theorem dX11_maps_10 : decode cX11_maps 10 = .ok (.bipush 12, 2) := by decide +kernel
theorem dX11_maps_12 : decode cX11_maps 12 = .ok (.if_icmp .ge 16, 3) := by decide +kernel
theorem dX11_maps_15 : decode cX11_maps 15 = .ok (.aload_n 0, 1) := by decide +kernel
theorem dX11_maps_16 : decode cX11_maps 16 = .ok (.getfield 44, 3) := by decide +kernel
theorem dX11_maps_19 : decode cX11_maps 19 = .ok (.iload_n 2, 1) := by decide +kernel
theorem dX11_maps_20 : decode cX11_maps 20 = .ok (.iconst 0, 1) := by decide +kernel
theorem dX11_maps_21 : decode cX11_maps 21 = .ok (.bastore, 1) := by decide +kernel
theorem dX11_maps_22 : decode cX11_maps 22 = .ok (.iinc 2 1, 3) := by decide +kernel
theorem dX11_maps_25 : decode cX11_maps 25 = .ok (.goto (-16), 3) := by decide +kernel
theorem dX11_maps_28 : decode cX11_maps 28 = .ok (.aload_n 0, 1) := by decide +kernel
theorem dX11_maps_29 : decode cX11_maps 29 = .ok (.invokevirtual 163, 3) := by decide +kernel
theorem dX11_maps_32 : decode cX11_maps 32 = .ok (.iload_n 1, 1) := by decide +kernel
theorem dX11_maps_33 : decode cX11_maps 33 = .ok (.ireturn, 1) := by decide +kernel
theorem lk_X11_maps_f44 : Cond.fieldLink RX11 44 "TreeComparerModel" "paired" "[Z" ∈ wsX11_maps := by decide +kernel
theorem hi_X11_maps_11 : ∀ w ∈ u_ws RX11 TX11 24, w ∈ wsX11_maps := by decide +kernel
def wph_X11_maps_9 (x1 : Int) (x2 : Int) (M : Mem) (J9 : Int → Int → Mem → Prop) (Q : Int → Mem → Prop) : Prop := inR x2 ∧ ((12 ≤ x2 → wp_X11_chooses M (fun M6 => Q x1 M6)) ∧ (¬ (12 ≤ x2) → ((0 : Int) ≤ x2 ∧ x2 < 12) ∧ (∀ M7 : Mem, M7 = mset M 13 11 x2.toNat 0 → J9 x1 (x2 + 1) M7)))
def wpe_X11_maps (M : Mem) (J9 : Int → Int → Mem → Prop) (Q : Int → Mem → Prop) : Prop := wp_X11_fills M (-1) (-1) (fun y1 M2 => J9 y1 0 M2)
def wp_X11_maps (M : Mem) (Q : Int → Mem → Prop) : Prop := ∃ (I9 : Nat → Int → Int → Mem → Prop), wpe_X11_maps M (fun (x1 : Int) (x2 : Int) (M1 : Mem) => ∃ n1 : Nat, I9 n1 x1 x2 M1) Q ∧ (∀ (n : Nat) (x1 : Int) (x2 : Int) (M : Mem), I9 n x1 x2 M → wph_X11_maps_9 x1 x2 M (fun (x1 : Int) (x2 : Int) (M1 : Mem) => ∃ n1 : Nat, n1 < n ∧ I9 n1 x1 x2 M1) Q)
set_option maxHeartbeats 4000000 in
set_option maxRecDepth 100000 in
theorem wkh_X11_maps_9 {p : Program} {l : Launch} {e : Env} {s : State} {m : MethodId} {args : Array Value} {below : List Frame} {meth : Method} {c : Code} {D : va_G} {g : GT} {A : Nat → Prop} {a : Nat → Nat} {b : Nat → Nat → Nat} (X : vC p s m args meth c D g A RX11 wsX11_maps cX11_maps 3) (hr : meth.sig.returnType = (some .int)) {x1 : Int} {x2 : Int} {M : Mem} {J9 : Int → Int → Mem → Prop} {Q : Int → Mem → Prop} (hJ9 : ∀ (x1 : Int) (x2 : Int) (M : Mem), J9 x1 x2 M → vV p l e ({ frames := 4, cells := 0, slots := 0, locals := 104 } : Room) s m args below meth c D g A a b 3 0 0 (MQ below (cQi D g A a b Q) args s 0 0 A) M [(0, .ref (a 13)), (1, iv x1), (2, iv x2)] 9 []) (hw : wph_X11_maps_9 x1 x2 M J9 Q) : vV p l e ({ frames := 4, cells := 0, slots := 0, locals := 104 } : Room) s m args below meth c D g A a b 3 0 0 (MQ below (cQi D g A a b Q) args s 0 0 A) M [(0, .ref (a 13)), (1, iv x1), (2, iv x2)] 9 [] := by
  unfold wph_X11_maps_9 at hw
  refine V_iload_n X dX11_maps_9 rfl (q := 2) rfl ?_
  refine V_bipush X dX11_maps_10 rfl ?_
  obtain ⟨h3, hw⟩ := hw
  refine V_icmp_ge (tgt := 28) X h3 ⟨by decide, by decide⟩ dX11_maps_12 (by decide) (fun q4 => ?_) (fun q4 => ?_)
  · have hw := hw.1 q4
    refine V_aload_n X dX11_maps_28 rfl (q := 0) rfl ?_
    refine V_callV_v X _ gO_13 rfl (As := []) (st := []) (c_X11_chooses l hw) (cwV 0 X.2.2.2.1 gX11_maps_X11_chooses rfl rfl rfl (by decide +kernel) ⟨Nat.le_of_ble_eq_true rfl, Nat.le_of_ble_eq_true rfl⟩) rfl (Nat.le_of_ble_eq_true rfl) ⟨Nat.le_of_ble_eq_true rfl, Nat.le_of_ble_eq_true rfl⟩ rfl dX11_maps_29 (fun M6 hw => ?_)
    refine V_iload_n X dX11_maps_32 rfl (q := 1) rfl ?_
    exact V_iret X hr hw dX11_maps_33
  · have hw := hw.2 q4
    refine V_aload_n X dX11_maps_15 rfl (q := 0) rfl ?_
    refine V_get (C := RX11) (T := TX11) (N := 24) (ci := 11) X hi_X11_maps_11 gO_13 rfl 11 (by decide) lk_X11_maps_f44 (fun _ h9 => h9) rfl dX11_maps_16 ?_
    refine V_iload_n X dX11_maps_19 rfl (q := 2) rfl ?_
    refine V_iconst X dX11_maps_20 ?_
    obtain ⟨h8, hw⟩ := hw
    refine V_zast X (gA_13_11) (sA_13_11) h8 (by decide) (by decide) dX11_maps_21 (fun M7 eM7 => ?_)
    have hw := hw M7 eM7
    refine V_iinc (lv1 := [(0, .ref (a 13)), (1, iv x1), (2, iv (x2 + 1))]) X [1, 2, 0] dX11_maps_22 (q := 2) rfl (by decide) rfl ?_
    refine V_goto (tgt := 9) X dX11_maps_25 (by decide) ?_
    exact hJ9 _ _ _ hw
set_option maxHeartbeats 4000000 in
set_option maxRecDepth 100000 in
theorem wke_X11_maps {p : Program} {l : Launch} {e : Env} {s : State} {m : MethodId} {args : Array Value} {below : List Frame} {meth : Method} {c : Code} {D : va_G} {g : GT} {A : Nat → Prop} {a : Nat → Nat} {b : Nat → Nat → Nat} (X : vC p s m args meth c D g A RX11 wsX11_maps cX11_maps 3) (hr : meth.sig.returnType = (some .int)) {M : Mem} {J9 : Int → Int → Mem → Prop} {Q : Int → Mem → Prop} (hJ9 : ∀ (x1 : Int) (x2 : Int) (M : Mem), J9 x1 x2 M → vV p l e ({ frames := 4, cells := 0, slots := 0, locals := 104 } : Room) s m args below meth c D g A a b 3 0 0 (MQ below (cQi D g A a b Q) args s 0 0 A) M [(0, .ref (a 13)), (1, iv x1), (2, iv x2)] 9 []) (hw : wpe_X11_maps M J9 Q) : vV p l e ({ frames := 4, cells := 0, slots := 0, locals := 104 } : Room) s m args below meth c D g A a b 3 0 0 (MQ below (cQi D g A a b Q) args s 0 0 A) M [(0, .ref (a 13))] 0 [] := by
  unfold wpe_X11_maps at hw
  refine V_aload_n X dX11_maps_0 rfl (q := 0) rfl ?_
  refine V_iconst X dX11_maps_1 ?_
  refine V_iconst X dX11_maps_2 ?_
  refine V_callV_i X _ gO_13 rfl (As := [iv (-1), iv (-1)]) (st := []) (c_X11_fills l hw) (cwV 2 X.2.2.2.1 gX11_maps_X11_fills rfl rfl rfl (by decide +kernel) ⟨Nat.le_of_ble_eq_true rfl, Nat.le_of_ble_eq_true rfl⟩) rfl (Nat.le_of_ble_eq_true rfl) ⟨Nat.le_of_ble_eq_true rfl, Nat.le_of_ble_eq_true rfl⟩ rfl dX11_maps_3 (fun y1 M2 hw => ?_)
  refine V_istore_n (lv1 := [(0, .ref (a 13)), (1, iv y1)]) X [1, 0] dX11_maps_6 rfl (by decide) rfl ?_
  refine V_iconst X dX11_maps_7 ?_
  refine V_istore_n (lv1 := [(0, .ref (a 13)), (1, iv y1), (2, iv 0)]) X [1, 2, 0] dX11_maps_8 rfl (by decide) rfl ?_
  exact hJ9 _ _ _ hw
set_option maxHeartbeats 4000000 in
set_option maxRecDepth 100000 in
theorem c_X11_maps (l : Launch) {D : va_G} {g : GT} {A : Nat → Prop} {a : Nat → Nat} {b : Nat → Nat → Nat} {M : Mem} {Q : Int → Mem → Prop} (hw : wp_X11_maps M Q) : Met l yX11_maps wsX11_maps ({ frames := 4, cells := 0, slots := 0, locals := 104 } : Room) (cPc D g A a b M [.ref (a 13)]) (cQi D g A a b Q) 0 0 A := by
  refine Met.ofW (cc := cX11_maps) (maxL := 3) (ret := (some .int)) (by decide) rfl ?_
  intro p e s m args below meth c s₁ B hml hv
  obtain ⟨rfl, hP, hD, hG⟩ := hv
  have X : vC p s m _ meth c D g A RX11 wsX11_maps cX11_maps 3 := ⟨B.exec, B.bytes, findClass_of_methodNamed B.named, atoms_spec (ws := wsX11_maps) B.pre, hG, hml, B.notSynchronized⟩
  have hr := B.returns
  have hl := lv_entry ([.ref (a 13)]) (n := 3) (Nat.le_of_ble_eq_true rfl)
  rw [lg_entry_eq]
  generalize (lg_sl ([.ref (a 13)]) ++ List.replicate (3 - (lg_sl ([.ref (a 13)])).length) Slot.unset).toArray = ls at hl ⊢
  have hl : lv_has ls 3 [(0, .ref (a 13))] := hl
  obtain ⟨I9, hw, hI9⟩ := hw
  have K : ∀ n : Nat, (∀ (x1 : Int) (x2 : Int) (M : Mem), I9 n x1 x2 M → vV p l e ({ frames := 4, cells := 0, slots := 0, locals := 104 } : Room) s m ([.ref (a 13)] : List Value).toArray below meth c D g A a b 3 0 0 (MQ below (cQi D g A a b Q) ([.ref (a 13)] : List Value).toArray s 0 0 A) M [(0, .ref (a 13)), (1, iv x1), (2, iv x2)] 9 []) := by
    intro n
    induction n using Nat.strongRecOn with
    | ind n ih =>
      exact fun x1 x2 M hh => wkh_X11_maps_9 X hr (fun _ _ _ ⟨n1, hn, hh⟩ => (ih n1 hn) _ _ _ hh) (hI9 n x1 x2 M hh)
  exact wke_X11_maps X hr  (fun _ _ _ ⟨n1, hh⟩ => (K n1) _ _ _ hh) hw s.heap [] ls hP hD va_S.rf hl

theorem dX11_notes_0 : decode cX11_notes 0 = .ok (.aload_n 0, 1) := by decide +kernel
theorem dX11_notes_1 : decode cX11_notes 1 = .ok (.getfield 54, 3) := by decide +kernel
theorem dX11_notes_4 : decode cX11_notes 4 = .ok (.aload_n 0, 1) := by decide +kernel
theorem dX11_notes_5 : decode cX11_notes 5 = .ok (.getfield 169, 3) := by decide +kernel
theorem dX11_notes_8 : decode cX11_notes 8 = .ok (.iload_n 1, 1) := by decide +kernel
theorem dX11_notes_9 : decode cX11_notes 9 = .ok (.iastore, 1) := by decide +kernel
theorem dX11_notes_10 : decode cX11_notes 10 = .ok (.aload_n 0, 1) := by decide +kernel
theorem dX11_notes_11 : decode cX11_notes 11 = .ok (.getfield 57, 3) := by decide +kernel
theorem dX11_notes_14 : decode cX11_notes 14 = .ok (.aload_n 0, 1) := by decide +kernel
theorem dX11_notes_15 : decode cX11_notes 15 = .ok (.getfield 169, 3) := by decide +kernel
theorem dX11_notes_18 : decode cX11_notes 18 = .ok (.iload_n 2, 1) := by decide +kernel
theorem dX11_notes_19 : decode cX11_notes 19 = .ok (.iastore, 1) := by decide +kernel
theorem dX11_notes_20 : decode cX11_notes 20 = .ok (.aload_n 0, 1) := by decide +kernel
theorem dX11_notes_21 : decode cX11_notes 21 = .ok (.dup, 1) := by decide +kernel
theorem dX11_notes_22 : decode cX11_notes 22 = .ok (.getfield 169, 3) := by decide +kernel
theorem dX11_notes_25 : decode cX11_notes 25 = .ok (.iconst 1, 1) := by decide +kernel
theorem dX11_notes_26 : decode cX11_notes 26 = .ok (.iadd, 1) := by decide +kernel
theorem dX11_notes_27 : decode cX11_notes 27 = .ok (.putfield 169, 3) := by decide +kernel
theorem dX11_notes_30 : decode cX11_notes 30 = .ok (.return_, 1) := by decide +kernel
theorem lk_X11_notes_f54 : Cond.fieldLink RX11 54 "TreeComparerModel" "stepKind" "[I" ∈ wsX11_notes := by decide +kernel
theorem hi_X11_notes_11 : ∀ w ∈ u_ws RX11 TX11 24, w ∈ wsX11_notes := by decide +kernel
theorem lk_X11_notes_f169 : Cond.fieldLink RX11 169 "TreeComparerModel" "steps" "I" ∈ wsX11_notes := by decide +kernel
theorem lk_X11_notes_f57 : Cond.fieldLink RX11 57 "TreeComparerModel" "stepPlace" "[I" ∈ wsX11_notes := by decide +kernel
def wpe_X11_notes (p0 : Int) (p1 : Int) (M : Mem) (Q : Mem → Prop) : Prop := ((0 : Int) ≤ (M 13 16 0) ∧ (M 13 16 0) < 24) ∧ (∀ M1 : Mem, M1 = mset M 13 14 ((M 13 16 0)).toNat p0 → ((0 : Int) ≤ (M1 13 16 0) ∧ (M1 13 16 0) < 24) ∧ (∀ M3 : Mem, M3 = mset M1 13 15 ((M1 13 16 0)).toNat p1 → (∀ M5 : Mem, M5 = mset M3 13 16 0 ((M3 13 16 0) + 1) → Q M5)))
def wp_X11_notes (M : Mem) (p0 : Int) (p1 : Int) (Q : Mem → Prop) : Prop := wpe_X11_notes p0 p1 M Q
set_option maxHeartbeats 4000000 in
set_option maxRecDepth 100000 in
theorem wke_X11_notes {p : Program} {l : Launch} {e : Env} {s : State} {m : MethodId} {args : Array Value} {below : List Frame} {meth : Method} {c : Code} {D : va_G} {g : GT} {A : Nat → Prop} {a : Nat → Nat} {b : Nat → Nat → Nat} (X : vC p s m args meth c D g A RX11 wsX11_notes cX11_notes 3) (hr : meth.sig.returnType = none) {p0 : Int} {p1 : Int} {M : Mem} {Q : Mem → Prop} (hw : wpe_X11_notes p0 p1 M Q) : vV p l e ({ frames := 0, cells := 0, slots := 0, locals := 0 } : Room) s m args below meth c D g A a b 3 0 0 (MQ below (cQv D g A a b Q) args s 0 0 A) M [(0, .ref (a 13)), (1, iv p0), (2, iv p1)] 0 [] := by
  unfold wpe_X11_notes at hw
  refine V_aload_n X dX11_notes_0 rfl (q := 0) rfl ?_
  refine V_get (C := RX11) (T := TX11) (N := 24) (ci := 11) X hi_X11_notes_11 gO_13 rfl 14 (by decide) lk_X11_notes_f54 (fun _ h9 => h9) rfl dX11_notes_1 ?_
  refine V_aload_n X dX11_notes_4 rfl (q := 0) rfl ?_
  refine V_get (C := RX11) (T := TX11) (N := 24) (ci := 11) X hi_X11_notes_11 gO_13 rfl 16 (by decide) lk_X11_notes_f169 (fun _ h9 => h9) rfl dX11_notes_5 ?_
  refine V_iload_n X dX11_notes_8 rfl (q := 1) rfl ?_
  obtain ⟨h2, hw⟩ := hw
  refine V_iast X (gA_13_14) (sA_13_14) h2 (by decide) dX11_notes_9 (fun M1 eM1 => ?_)
  have hw := hw M1 eM1
  refine V_aload_n X dX11_notes_10 rfl (q := 0) rfl ?_
  refine V_get (C := RX11) (T := TX11) (N := 24) (ci := 11) X hi_X11_notes_11 gO_13 rfl 15 (by decide) lk_X11_notes_f57 (fun _ h9 => h9) rfl dX11_notes_11 ?_
  refine V_aload_n X dX11_notes_14 rfl (q := 0) rfl ?_
  refine V_get (C := RX11) (T := TX11) (N := 24) (ci := 11) X hi_X11_notes_11 gO_13 rfl 16 (by decide) lk_X11_notes_f169 (fun _ h9 => h9) rfl dX11_notes_15 ?_
  refine V_iload_n X dX11_notes_18 rfl (q := 2) rfl ?_
  obtain ⟨h4, hw⟩ := hw
  refine V_iast X (gA_13_15) (sA_13_15) h4 (by decide) dX11_notes_19 (fun M3 eM3 => ?_)
  have hw := hw M3 eM3
  refine V_aload_n X dX11_notes_20 rfl (q := 0) rfl ?_
  refine V_dup X dX11_notes_21 rfl ?_
  refine V_get (C := RX11) (T := TX11) (N := 24) (ci := 11) X hi_X11_notes_11 gO_13 rfl 16 (by decide) lk_X11_notes_f169 (fun _ h9 => h9) rfl dX11_notes_22 ?_
  refine V_iconst X dX11_notes_25 ?_
  refine V_iadd X dX11_notes_26 ?_
  refine V_put (C := RX11) (T := TX11) (N := 24) (ci := 11) X hi_X11_notes_11 gO_13 rfl 16 (by decide) tyX11 tyX11_ok nmX11 rfl (tyX11_ok 16 (by decide)) (Or.inl rfl) (show 16 < 24 from by decide) sI_13_16 lk_X11_notes_f169 (fun _ h9 => h9) dX11_notes_27 (fun M5 eM5 => ?_)
  have hw := hw M5 eM5
  exact V_vret X hr hw dX11_notes_30
set_option maxHeartbeats 4000000 in
set_option maxRecDepth 100000 in
theorem c_X11_notes (l : Launch) {p0 : Int} {p1 : Int} {D : va_G} {g : GT} {A : Nat → Prop} {a : Nat → Nat} {b : Nat → Nat → Nat} {M : Mem} {Q : Mem → Prop} (hw : wp_X11_notes M p0 p1 Q) : Met l yX11_notes wsX11_notes ({ frames := 0, cells := 0, slots := 0, locals := 0 } : Room) (cPc D g A a b M [.ref (a 13), iv p0, iv p1]) (cQv D g A a b Q) 0 0 A := by
  refine Met.ofW (cc := cX11_notes) (maxL := 3) (ret := none) (by decide) rfl ?_
  intro p e s m args below meth c s₁ B hml hv
  obtain ⟨rfl, hP, hD, hG⟩ := hv
  have X : vC p s m _ meth c D g A RX11 wsX11_notes cX11_notes 3 := ⟨B.exec, B.bytes, findClass_of_methodNamed B.named, atoms_spec (ws := wsX11_notes) B.pre, hG, hml, B.notSynchronized⟩
  have hr := B.returns
  have hl := lv_entry ([.ref (a 13), iv p0, iv p1]) (n := 3) (Nat.le_of_ble_eq_true rfl)
  rw [lg_entry_eq]
  generalize (lg_sl ([.ref (a 13), iv p0, iv p1]) ++ List.replicate (3 - (lg_sl ([.ref (a 13), iv p0, iv p1])).length) Slot.unset).toArray = ls at hl ⊢
  have hl : lv_has ls 3 [(0, .ref (a 13)), (1, iv p0), (2, iv p1)] := hl
  exact wke_X11_notes X hr  hw s.heap [] ls hP hD va_S.rf hl
