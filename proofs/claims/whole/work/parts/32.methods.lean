set_option maxRecDepth 20000 in
theorem ggX11_canMove_X11_isSame : GoodIn wsX11_canMove wsX11_isSame := goodIn_r _ [10, 2, 11, 12, 13, 27, 28, 29, 30, 31, 32, 33, 34, 35, 36, 37, 38, 39, 40, 41, 42, 43, 44, 45, 46, 47, 48, 49, 50] (by decide +kernel) (by decide +kernel)
set_option maxRecDepth 20000 in
theorem gX11_canMove_X11_isSame : GoodIn wsX11_canMove (wsV RX11 198 RX11 yX11_isSame wsX11_isSame) := goodIn_app (goodIn_of _ (by decide +kernel)) ggX11_canMove_X11_isSame
set_option maxRecDepth 20000 in
theorem ggX11_canMove_X11_deletingAll : GoodIn wsX11_canMove wsX11_deletingAll := goodIn_r _ [17, 18, 19, 20, 9, 21, 22, 11, 27, 28, 29, 30, 31, 32, 33, 34, 35, 36, 37, 38, 39, 40, 41, 42, 43, 44, 45, 46, 47, 48, 49, 50] (by decide +kernel) (by decide +kernel)
set_option maxRecDepth 20000 in
theorem gX11_canMove_X11_deletingAll : GoodIn wsX11_canMove (wsV RX11 150 RX11 yX11_deletingAll wsX11_deletingAll) := goodIn_app (goodIn_of _ (by decide +kernel)) ggX11_canMove_X11_deletingAll
set_option maxRecDepth 20000 in
theorem ggX11_canMove_X11_inserting : GoodIn wsX11_canMove wsX11_inserting := goodIn_r _ [26, 18, 19, 20, 9, 21, 22, 11, 27, 28, 29, 30, 31, 32, 33, 34, 35, 36, 37, 38, 39, 40, 41, 42, 43, 44, 45, 46, 47, 48, 49, 50] (by decide +kernel) (by decide +kernel)
set_option maxRecDepth 20000 in
theorem gX11_canMove_X11_inserting : GoodIn wsX11_canMove (wsV RX11 147 RX11 yX11_inserting wsX11_inserting) := goodIn_app (goodIn_of _ (by decide +kernel)) ggX11_canMove_X11_inserting
theorem dX11_canMove_0 : decode cX11_canMove 0 = .ok (.aload_n 0, 1) := by decide +kernel
theorem dX11_canMove_1 : decode cX11_canMove 1 = .ok (.iload_n 1, 1) := by decide +kernel
theorem dX11_canMove_2 : decode cX11_canMove 2 = .ok (.bipush 12, 2) := by decide +kernel
theorem dX11_canMove_4 : decode cX11_canMove 4 = .ok (.iload_n 2, 1) := by decide +kernel
theorem dX11_canMove_5 : decode cX11_canMove 5 = .ok (.iadd, 1) := by decide +kernel
theorem dX11_canMove_6 : decode cX11_canMove 6 = .ok (.invokevirtual 198, 3) := by decide +kernel
theorem dX11_canMove_9 : decode cX11_canMove 9 = .ok (.ifCond .eq 44, 3) := by decide +kernel
theorem dX11_canMove_12 : decode cX11_canMove 12 = .ok (.aload_n 0, 1) := by decide +kernel
theorem dX11_canMove_13 : decode cX11_canMove 13 = .ok (.getfield 31, 3) := by decide +kernel
theorem dX11_canMove_16 : decode cX11_canMove 16 = .ok (.aload_n 0, 1) := by decide +kernel
theorem dX11_canMove_17 : decode cX11_canMove 17 = .ok (.iload_n 1, 1) := by decide +kernel
theorem dX11_canMove_18 : decode cX11_canMove 18 = .ok (.iload_n 1, 1) := by decide +kernel
theorem dX11_canMove_19 : decode cX11_canMove 19 = .ok (.aload_n 0, 1) := by decide +kernel
theorem dX11_canMove_20 : decode cX11_canMove 20 = .ok (.getfield 22, 3) := by decide +kernel
theorem dX11_canMove_23 : decode cX11_canMove 23 = .ok (.iload_n 1, 1) := by decide +kernel
theorem dX11_canMove_24 : decode cX11_canMove 24 = .ok (.iaload, 1) := by decide +kernel
theorem dX11_canMove_25 : decode cX11_canMove 25 = .ok (.iadd, 1) := by decide +kernel
theorem dX11_canMove_26 : decode cX11_canMove 26 = .ok (.invokevirtual 150, 3) := by decide +kernel
theorem dX11_canMove_29 : decode cX11_canMove 29 = .ok (.aload_n 0, 1) := by decide +kernel
theorem dX11_canMove_30 : decode cX11_canMove 30 = .ok (.iload_n 2, 1) := by decide +kernel
theorem dX11_canMove_31 : decode cX11_canMove 31 = .ok (.iload_n 2, 1) := by decide +kernel
theorem dX11_canMove_32 : decode cX11_canMove 32 = .ok (.aload_n 0, 1) := by decide +kernel
theorem dX11_canMove_33 : decode cX11_canMove 33 = .ok (.getfield 22, 3) := by decide +kernel
theorem dX11_canMove_36 : decode cX11_canMove 36 = .ok (.bipush 12, 2) := by decide +kernel
theorem dX11_canMove_38 : decode cX11_canMove 38 = .ok (.iload_n 2, 1) := by decide +kernel
theorem dX11_canMove_39 : decode cX11_canMove 39 = .ok (.iadd, 1) := by decide +kernel
theorem dX11_canMove_40 : decode cX11_canMove 40 = .ok (.iaload, 1) := by decide +kernel
theorem dX11_canMove_41 : decode cX11_canMove 41 = .ok (.iadd, 1) := by decide +kernel
theorem dX11_canMove_42 : decode cX11_canMove 42 = .ok (.invokevirtual 147, 3) := by decide +kernel
theorem dX11_canMove_45 : decode cX11_canMove 45 = .ok (.iadd, 1) := by decide +kernel
theorem dX11_canMove_46 : decode cX11_canMove 46 = .ok (.if_icmp .ge 7, 3) := by decide +kernel
theorem dX11_canMove_49 : decode cX11_canMove 49 = .ok (.iconst 1, 1) := by decide +kernel
theorem dX11_canMove_50 : decode cX11_canMove 50 = .ok (.goto 4, 3) := by decide +kernel
theorem dX11_canMove_53 : decode cX11_canMove 53 = .ok (.iconst 0, 1) := by decide +kernel
theorem dX11_canMove_54 : decode cX11_canMove 54 = .ok (.istore_n 3, 1) := by decide +kernel
theorem dX11_canMove_55 : decode cX11_canMove 55 = .ok (.iconst 0, 1) := by decide +kernel
theorem dX11_canMove_56 : decode cX11_canMove 56 = .ok (.istore 4, 2) := by decide +kernel
theorem dX11_canMove_58 : decode cX11_canMove 58 = .ok (.iload 4, 2) := by decide +kernel
theorem dX11_canMove_60 : decode cX11_canMove 60 = .ok (.aload_n 0, 1) := by decide +kernel
theorem dX11_canMove_61 : decode cX11_canMove 61 = .ok (.getfield 22, 3) := by decide +kernel
theorem dX11_canMove_64 : decode cX11_canMove 64 = .ok (.bipush 12, 2) := by decide +kernel
theorem dX11_canMove_66 : decode cX11_canMove 66 = .ok (.iload_n 2, 1) := by decide +kernel
theorem dX11_canMove_67 : decode cX11_canMove 67 = .ok (.iadd, 1) := by decide +kernel
theorem dX11_canMove_68 : decode cX11_canMove 68 = .ok (.iaload, 1) := by decide +kernel
theorem dX11_canMove_69 : decode cX11_canMove 69 = .ok (.if_icmp .ge 43, 3) := by decide +kernel
theorem dX11_canMove_72 : decode cX11_canMove 72 = .ok (.iload_n 3, 1) := by decide +kernel
theorem dX11_canMove_73 : decode cX11_canMove 73 = .ok (.ifCond .eq 31, 3) := by decide +kernel
theorem dX11_canMove_76 : decode cX11_canMove 76 = .ok (.aload_n 0, 1) := by decide +kernel
theorem dX11_canMove_77 : decode cX11_canMove 77 = .ok (.getfield 44, 3) := by decide +kernel
theorem dX11_canMove_80 : decode cX11_canMove 80 = .ok (.iload_n 2, 1) := by decide +kernel
theorem dX11_canMove_81 : decode cX11_canMove 81 = .ok (.iload 4, 2) := by decide +kernel
theorem dX11_canMove_83 : decode cX11_canMove 83 = .ok (.iadd, 1) := by decide +kernel
theorem dX11_canMove_84 : decode cX11_canMove 84 = .ok (.baload, 1) := by decide +kernel
theorem dX11_canMove_85 : decode cX11_canMove 85 = .ok (.ifCond .ne 19, 3) := by decide +kernel
theorem dX11_canMove_88 : decode cX11_canMove 88 = .ok (.aload_n 0, 1) := by decide +kernel
theorem dX11_canMove_89 : decode cX11_canMove 89 = .ok (.getfield 48, 3) := by decide +kernel
theorem dX11_canMove_92 : decode cX11_canMove 92 = .ok (.iload_n 2, 1) := by decide +kernel
theorem dX11_canMove_93 : decode cX11_canMove 93 = .ok (.iload 4, 2) := by decide +kernel
theorem dX11_canMove_95 : decode cX11_canMove 95 = .ok (.iadd, 1) := by decide +kernel
theorem dX11_canMove_96 : decode cX11_canMove 96 = .ok (.baload, 1) := by decide +kernel
theorem dX11_canMove_97 : decode cX11_canMove 97 = .ok (.ifCond .ne 7, 3) := by decide +kernel
theorem dX11_canMove_100 : decode cX11_canMove 100 = .ok (.iconst 1, 1) := by decide +kernel
theorem dX11_canMove_101 : decode cX11_canMove 101 = .ok (.goto 4, 3) := by decide +kernel
theorem dX11_canMove_104 : decode cX11_canMove 104 = .ok (.iconst 0, 1) := by decide +kernel
theorem dX11_canMove_105 : decode cX11_canMove 105 = .ok (.istore_n 3, 1) := by decide +kernel
theorem dX11_canMove_106 : decode cX11_canMove 106 = .ok (.iinc 4 1, 3) := by decide +kernel
theorem dX11_canMove_109 : decode cX11_canMove 109 = .ok (.goto (-51), 3) := by decide +kernel
theorem dX11_canMove_112 : decode cX11_canMove 112 = .ok (.iconst 0, 1) := by decide +kernel
theorem dX11_canMove_113 : decode cX11_canMove 113 = .ok (.istore 4, 2) := by decide +kernel
theorem dX11_canMove_115 : decode cX11_canMove 115 = .ok (.iload 4, 2) := by decide +kernel
theorem dX11_canMove_117 : decode cX11_canMove 117 = .ok (.aload_n 0, 1) := by decide +kernel
theorem dX11_canMove_118 : decode cX11_canMove 118 = .ok (.getfield 22, 3) := by decide +kernel
theorem dX11_canMove_121 : decode cX11_canMove 121 = .ok (.iload_n 1, 1) := by decide +kernel
theorem dX11_canMove_122 : decode cX11_canMove 122 = .ok (.iaload, 1) := by decide +kernel
theorem dX11_canMove_123 : decode cX11_canMove 123 = .ok (.if_icmp .ge 32, 3) := by decide +kernel
theorem dX11_canMove_126 : decode cX11_canMove 126 = .ok (.iload_n 3, 1) := by decide +kernel
theorem dX11_canMove_127 : decode cX11_canMove 127 = .ok (.ifCond .eq 20, 3) := by decide +kernel
theorem dX11_canMove_130 : decode cX11_canMove 130 = .ok (.aload_n 0, 1) := by decide +kernel
theorem dX11_canMove_131 : decode cX11_canMove 131 = .ok (.getfield 38, 3) := by decide +kernel
theorem dX11_canMove_134 : decode cX11_canMove 134 = .ok (.iload_n 1, 1) := by decide +kernel
theorem dX11_canMove_135 : decode cX11_canMove 135 = .ok (.iload 4, 2) := by decide +kernel
theorem dX11_canMove_137 : decode cX11_canMove 137 = .ok (.iadd, 1) := by decide +kernel
theorem dX11_canMove_138 : decode cX11_canMove 138 = .ok (.iaload, 1) := by decide +kernel
theorem dX11_canMove_139 : decode cX11_canMove 139 = .ok (.iconst (-1), 1) := by decide +kernel
theorem dX11_canMove_140 : decode cX11_canMove 140 = .ok (.if_icmp .ne 7, 3) := by decide +kernel
theorem dX11_canMove_143 : decode cX11_canMove 143 = .ok (.iconst 1, 1) := by decide +kernel
theorem dX11_canMove_144 : decode cX11_canMove 144 = .ok (.goto 4, 3) := by decide +kernel
theorem dX11_canMove_147 : decode cX11_canMove 147 = .ok (.iconst 0, 1) := by decide +kernel
theorem dX11_canMove_148 : decode cX11_canMove 148 = .ok (.istore_n 3, 1) := by decide +kernel
theorem dX11_canMove_149 : decode cX11_canMove 149 = .ok (.iinc 4 1, 3) := by decide +kernel
theorem dX11_canMove_152 : decode cX11_canMove 152 = .ok (.goto (-37), 3) := by decide +kernel
theorem dX11_canMove_155 : decode cX11_canMove 155 = .ok (.iload_n 3, 1) := by decide +kernel
theorem dX11_canMove_156 : decode cX11_canMove 156 = .ok (.ireturn, 1) := by decide +kernel
theorem lk_X11_canMove_f31 : Cond.fieldLink RX11 31 "TreeComparerModel" "movePrice" "I" ∈ wsX11_canMove := by decide +kernel
theorem hi_X11_canMove_11 : ∀ w ∈ u_ws RX11 TX11 24, w ∈ wsX11_canMove := by decide +kernel
theorem lk_X11_canMove_f22 : Cond.fieldLink RX11 22 "TreeComparerModel" "size" "[I" ∈ wsX11_canMove := by decide +kernel
theorem lk_X11_canMove_f44 : Cond.fieldLink RX11 44 "TreeComparerModel" "paired" "[Z" ∈ wsX11_canMove := by decide +kernel
theorem lk_X11_canMove_f48 : Cond.fieldLink RX11 48 "TreeComparerModel" "taken" "[Z" ∈ wsX11_canMove := by decide +kernel
theorem lk_X11_canMove_f38 : Cond.fieldLink RX11 38 "TreeComparerModel" "partner" "[I" ∈ wsX11_canMove := by decide +kernel
def wpj_X11_canMove_148 (p0 : Int) (p1 : Int) (x4 : Int) (s0 : Int) (M : Mem) (J58 : Int → Int → Mem → Prop) (J115 : Int → Int → Mem → Prop) (Q : Int → Mem → Prop) : Prop := J115 s0 (x4 + 1) M
def wpj_X11_canMove_147 (p0 : Int) (p1 : Int) (x4 : Int) (M : Mem) (J58 : Int → Int → Mem → Prop) (J115 : Int → Int → Mem → Prop) (Q : Int → Mem → Prop) : Prop := wpj_X11_canMove_148 p0 p1 x4 0 M J58 J115 Q
def wph_X11_canMove_115 (p0 : Int) (p1 : Int) (x3 : Int) (x4 : Int) (M : Mem) (J58 : Int → Int → Mem → Prop) (J115 : Int → Int → Mem → Prop) (Q : Int → Mem → Prop) : Prop := ((0 : Int) ≤ p0 ∧ p0 < 24) ∧ inR x4 ∧ inR (M 13 4 p0.toNat) ∧ (((M 13 4 p0.toNat) ≤ x4 → (x3 = 0 ∨ x3 = 1) ∧ Q x3 M) ∧ (¬ ((M 13 4 p0.toNat) ≤ x4) → inR x3 ∧ ((x3 = 0 → wpj_X11_canMove_147 p0 p1 x4 M J58 J115 Q) ∧ (¬ (x3 = 0) → ((0 : Int) ≤ p0 + x4 ∧ p0 + x4 < 12) ∧ inR (M 13 9 (p0 + x4).toNat) ∧ (((M 13 9 (p0 + x4).toNat) ≠ (-1) → wpj_X11_canMove_147 p0 p1 x4 M J58 J115 Q) ∧ (¬ ((M 13 9 (p0 + x4).toNat) ≠ (-1)) → wpj_X11_canMove_148 p0 p1 x4 1 M J58 J115 Q))))))
def wpj_X11_canMove_105 (p0 : Int) (p1 : Int) (x4 : Int) (s0 : Int) (M : Mem) (J58 : Int → Int → Mem → Prop) (J115 : Int → Int → Mem → Prop) (Q : Int → Mem → Prop) : Prop := J58 s0 (x4 + 1) M
def wpj_X11_canMove_104 (p0 : Int) (p1 : Int) (x4 : Int) (M : Mem) (J58 : Int → Int → Mem → Prop) (J115 : Int → Int → Mem → Prop) (Q : Int → Mem → Prop) : Prop := wpj_X11_canMove_105 p0 p1 x4 0 M J58 J115 Q
def wph_X11_canMove_58 (p0 : Int) (p1 : Int) (x3 : Int) (x4 : Int) (M : Mem) (J58 : Int → Int → Mem → Prop) (J115 : Int → Int → Mem → Prop) (Q : Int → Mem → Prop) : Prop := ((0 : Int) ≤ 12 + p1 ∧ 12 + p1 < 24) ∧ inR x4 ∧ inR (M 13 4 (12 + p1).toNat) ∧ (((M 13 4 (12 + p1).toNat) ≤ x4 → J115 x3 0 M) ∧ (¬ ((M 13 4 (12 + p1).toNat) ≤ x4) → inR x3 ∧ ((x3 = 0 → wpj_X11_canMove_104 p0 p1 x4 M J58 J115 Q) ∧ (¬ (x3 = 0) → ((0 : Int) ≤ p1 + x4 ∧ p1 + x4 < 12) ∧ inR (M 13 11 (p1 + x4).toNat) ∧ (((M 13 11 (p1 + x4).toNat) ≠ 0 → wpj_X11_canMove_104 p0 p1 x4 M J58 J115 Q) ∧ (¬ ((M 13 11 (p1 + x4).toNat) ≠ 0) → ((0 : Int) ≤ p1 + x4 ∧ p1 + x4 < 12) ∧ inR (M 13 12 (p1 + x4).toNat) ∧ (((M 13 12 (p1 + x4).toNat) ≠ 0 → wpj_X11_canMove_104 p0 p1 x4 M J58 J115 Q) ∧ (¬ ((M 13 12 (p1 + x4).toNat) ≠ 0) → wpj_X11_canMove_105 p0 p1 x4 1 M J58 J115 Q))))))))
def wpj_X11_canMove_54 (p0 : Int) (p1 : Int) (s0 : Int) (M : Mem) (J58 : Int → Int → Mem → Prop) (J115 : Int → Int → Mem → Prop) (Q : Int → Mem → Prop) : Prop := J58 s0 0 M
def wpj_X11_canMove_53 (p0 : Int) (p1 : Int) (M : Mem) (J58 : Int → Int → Mem → Prop) (J115 : Int → Int → Mem → Prop) (Q : Int → Mem → Prop) : Prop := wpj_X11_canMove_54 p0 p1 0 M J58 J115 Q
def wpe_X11_canMove (p0 : Int) (p1 : Int) (M : Mem) (J58 : Int → Int → Mem → Prop) (J115 : Int → Int → Mem → Prop) (Q : Int → Mem → Prop) : Prop := wp_X11_isSame M p0 (12 + p1) (fun y1 M2 => inR y1 ∧ ((y1 = 0 → wpj_X11_canMove_53 p0 p1 M2 J58 J115 Q) ∧ (¬ (y1 = 0) → ((0 : Int) ≤ p0 ∧ p0 < 24) ∧ wp_X11_deletingAll M2 p0 (p0 + (M2 13 4 p0.toNat)) (fun y6 M7 => ((0 : Int) ≤ 12 + p1 ∧ 12 + p1 < 24) ∧ wp_X11_inserting M7 p1 (p1 + (M7 13 4 (12 + p1).toNat)) (fun y9 M10 => inR (M2 13 7 0) ∧ inR (y6 + y9) ∧ ((y6 + y9 ≤ (M2 13 7 0) → wpj_X11_canMove_53 p0 p1 M10 J58 J115 Q) ∧ (¬ (y6 + y9 ≤ (M2 13 7 0)) → wpj_X11_canMove_54 p0 p1 1 M10 J58 J115 Q)))))))
def wp_X11_canMove (M : Mem) (p0 : Int) (p1 : Int) (Q : Int → Mem → Prop) : Prop := ∃ (I58 : Nat → Int → Int → Mem → Prop) (I115 : Nat → Int → Int → Mem → Prop), wpe_X11_canMove p0 p1 M (fun (x3 : Int) (x4 : Int) (M1 : Mem) => ∃ n1 : Nat, I58 n1 x3 x4 M1) (fun (x3 : Int) (x4 : Int) (M1 : Mem) => ∃ n1 : Nat, I115 n1 x3 x4 M1) Q ∧ (∀ (n : Nat) (x3 : Int) (x4 : Int) (M : Mem), I58 n x3 x4 M → wph_X11_canMove_58 p0 p1 x3 x4 M (fun (x3 : Int) (x4 : Int) (M1 : Mem) => ∃ n1 : Nat, n1 < n ∧ I58 n1 x3 x4 M1) (fun (x3 : Int) (x4 : Int) (M1 : Mem) => ∃ n1 : Nat, n1 < n ∧ I115 n1 x3 x4 M1) Q) ∧ (∀ (n : Nat) (x3 : Int) (x4 : Int) (M : Mem), I115 n x3 x4 M → wph_X11_canMove_115 p0 p1 x3 x4 M (fun (x3 : Int) (x4 : Int) (M1 : Mem) => ∃ n1 : Nat, n1 < n ∧ I58 n1 x3 x4 M1) (fun (x3 : Int) (x4 : Int) (M1 : Mem) => ∃ n1 : Nat, n1 < n ∧ I115 n1 x3 x4 M1) Q)
set_option maxHeartbeats 4000000 in
set_option maxRecDepth 100000 in
theorem wkj_X11_canMove_148 {p : Program} {l : Launch} {e : Env} {s : State} {m : MethodId} {args : Array Value} {below : List Frame} {meth : Method} {c : Code} {D : va_G} {g : GT} {A : Nat → Prop} {a : Nat → Nat} {b : Nat → Nat → Nat} (X : vC p s m args meth c D g A RX11 wsX11_canMove cX11_canMove 5) (hr : meth.sig.returnType = (some .boolean)) {p0 : Int} {p1 : Int} {x4 : Int} {s0 : Int} {M : Mem} {J58 : Int → Int → Mem → Prop} {J115 : Int → Int → Mem → Prop} {Q : Int → Mem → Prop} (hJ58 : ∀ (x3 : Int) (x4 : Int) (M : Mem), J58 x3 x4 M → vV p l e ({ frames := 2, cells := 0, slots := 0, locals := 47 } : Room) s m args below meth c D g A a b 5 0 0 (MQ below (cQi D g A a b Q) args s 0 0 A) M [(0, .ref (a 13)), (1, iv p0), (2, iv p1), (3, iv x3), (4, iv x4)] 58 []) (hJ115 : ∀ (x3 : Int) (x4 : Int) (M : Mem), J115 x3 x4 M → vV p l e ({ frames := 2, cells := 0, slots := 0, locals := 47 } : Room) s m args below meth c D g A a b 5 0 0 (MQ below (cQi D g A a b Q) args s 0 0 A) M [(0, .ref (a 13)), (1, iv p0), (3, iv x3), (4, iv x4)] 115 []) (hw : wpj_X11_canMove_148 p0 p1 x4 s0 M J58 J115 Q) : vV p l e ({ frames := 2, cells := 0, slots := 0, locals := 47 } : Room) s m args below meth c D g A a b 5 0 0 (MQ below (cQi D g A a b Q) args s 0 0 A) M [(0, .ref (a 13)), (1, iv p0), (4, iv x4)] 148 [iv s0] := by
  unfold wpj_X11_canMove_148 at hw
  refine V_istore_n (lv1 := [(0, .ref (a 13)), (1, iv p0), (3, iv s0), (4, iv x4)]) X [1, 2, 0, 3] dX11_canMove_148 rfl (by decide) rfl ?_
  refine V_iinc (lv1 := [(0, .ref (a 13)), (1, iv p0), (3, iv s0), (4, iv (x4 + 1))]) X [1, 2, 3, 0] dX11_canMove_149 (q := 3) rfl (by decide) rfl ?_
  refine V_goto (tgt := 115) X dX11_canMove_152 (by decide) ?_
  exact hJ115 _ _ _ hw
set_option maxHeartbeats 4000000 in
set_option maxRecDepth 100000 in
theorem wkj_X11_canMove_147 {p : Program} {l : Launch} {e : Env} {s : State} {m : MethodId} {args : Array Value} {below : List Frame} {meth : Method} {c : Code} {D : va_G} {g : GT} {A : Nat → Prop} {a : Nat → Nat} {b : Nat → Nat → Nat} (X : vC p s m args meth c D g A RX11 wsX11_canMove cX11_canMove 5) (hr : meth.sig.returnType = (some .boolean)) {p0 : Int} {p1 : Int} {x4 : Int} {M : Mem} {J58 : Int → Int → Mem → Prop} {J115 : Int → Int → Mem → Prop} {Q : Int → Mem → Prop} (hJ58 : ∀ (x3 : Int) (x4 : Int) (M : Mem), J58 x3 x4 M → vV p l e ({ frames := 2, cells := 0, slots := 0, locals := 47 } : Room) s m args below meth c D g A a b 5 0 0 (MQ below (cQi D g A a b Q) args s 0 0 A) M [(0, .ref (a 13)), (1, iv p0), (2, iv p1), (3, iv x3), (4, iv x4)] 58 []) (hJ115 : ∀ (x3 : Int) (x4 : Int) (M : Mem), J115 x3 x4 M → vV p l e ({ frames := 2, cells := 0, slots := 0, locals := 47 } : Room) s m args below meth c D g A a b 5 0 0 (MQ below (cQi D g A a b Q) args s 0 0 A) M [(0, .ref (a 13)), (1, iv p0), (3, iv x3), (4, iv x4)] 115 []) (hw : wpj_X11_canMove_147 p0 p1 x4 M J58 J115 Q) : vV p l e ({ frames := 2, cells := 0, slots := 0, locals := 47 } : Room) s m args below meth c D g A a b 5 0 0 (MQ below (cQi D g A a b Q) args s 0 0 A) M [(0, .ref (a 13)), (1, iv p0), (4, iv x4)] 147 [] := by
  unfold wpj_X11_canMove_147 at hw
  refine V_iconst X dX11_canMove_147 ?_
  exact wkj_X11_canMove_148 X hr hJ58 hJ115 hw
set_option maxHeartbeats 4000000 in
set_option maxRecDepth 100000 in
theorem wkh_X11_canMove_115 {p : Program} {l : Launch} {e : Env} {s : State} {m : MethodId} {args : Array Value} {below : List Frame} {meth : Method} {c : Code} {D : va_G} {g : GT} {A : Nat → Prop} {a : Nat → Nat} {b : Nat → Nat → Nat} (X : vC p s m args meth c D g A RX11 wsX11_canMove cX11_canMove 5) (hr : meth.sig.returnType = (some .boolean)) {p0 : Int} {p1 : Int} {x3 : Int} {x4 : Int} {M : Mem} {J58 : Int → Int → Mem → Prop} {J115 : Int → Int → Mem → Prop} {Q : Int → Mem → Prop} (hJ58 : ∀ (x3 : Int) (x4 : Int) (M : Mem), J58 x3 x4 M → vV p l e ({ frames := 2, cells := 0, slots := 0, locals := 47 } : Room) s m args below meth c D g A a b 5 0 0 (MQ below (cQi D g A a b Q) args s 0 0 A) M [(0, .ref (a 13)), (1, iv p0), (2, iv p1), (3, iv x3), (4, iv x4)] 58 []) (hJ115 : ∀ (x3 : Int) (x4 : Int) (M : Mem), J115 x3 x4 M → vV p l e ({ frames := 2, cells := 0, slots := 0, locals := 47 } : Room) s m args below meth c D g A a b 5 0 0 (MQ below (cQi D g A a b Q) args s 0 0 A) M [(0, .ref (a 13)), (1, iv p0), (3, iv x3), (4, iv x4)] 115 []) (hw : wph_X11_canMove_115 p0 p1 x3 x4 M J58 J115 Q) : vV p l e ({ frames := 2, cells := 0, slots := 0, locals := 47 } : Room) s m args below meth c D g A a b 5 0 0 (MQ below (cQi D g A a b Q) args s 0 0 A) M [(0, .ref (a 13)), (1, iv p0), (3, iv x3), (4, iv x4)] 115 [] := by
  unfold wph_X11_canMove_115 at hw
  refine V_iload X dX11_canMove_115 (q := 3) rfl ?_
  refine V_aload_n X dX11_canMove_117 rfl (q := 0) rfl ?_
  refine V_get (C := RX11) (T := TX11) (N := 24) (ci := 11) X hi_X11_canMove_11 gO_13 rfl 4 (by decide) lk_X11_canMove_f22 (fun _ h9 => h9) rfl dX11_canMove_118 ?_
  refine V_iload_n X dX11_canMove_121 rfl (q := 1) rfl ?_
  obtain ⟨h26, hw⟩ := hw
  refine V_iald X (gA_13_4) h26 (by decide) dX11_canMove_122 ?_
  obtain ⟨h27, h28, hw⟩ := hw
  refine V_icmp_ge (tgt := 155) X h27 h28 dX11_canMove_123 (by decide) (fun q29 => ?_) (fun q29 => ?_)
  · have hw := hw.1 q29
    refine V_iload_n X dX11_canMove_155 rfl (q := 2) rfl ?_
    obtain ⟨h30, hw⟩ := hw
    exact V_zret X hr h30 hw dX11_canMove_156
  · have hw := hw.2 q29
    refine V_iload_n X dX11_canMove_126 rfl (q := 2) rfl ?_
    obtain ⟨h31, hw⟩ := hw
    refine V_if_eq (tgt := 147) X h31 dX11_canMove_127 (by decide) (fun q32 => ?_) (fun q32 => ?_)
    · have hw := hw.1 q32
      refine V_sub (lv1 := [(0, .ref (a 13)), (1, iv p0), (4, iv x4)]) [0, 1, 3] rfl ?_
      exact wkj_X11_canMove_147 X hr hJ58 hJ115 hw
    · have hw := hw.2 q32
      refine V_aload_n X dX11_canMove_130 rfl (q := 0) rfl ?_
      refine V_get (C := RX11) (T := TX11) (N := 24) (ci := 11) X hi_X11_canMove_11 gO_13 rfl 9 (by decide) lk_X11_canMove_f38 (fun _ h9 => h9) rfl dX11_canMove_131 ?_
      refine V_iload_n X dX11_canMove_134 rfl (q := 1) rfl ?_
      refine V_iload X dX11_canMove_135 (q := 3) rfl ?_
      refine V_iadd X dX11_canMove_137 ?_
      obtain ⟨h33, hw⟩ := hw
      refine V_iald X (gA_13_9) h33 (by decide) dX11_canMove_138 ?_
      refine V_iconst X dX11_canMove_139 ?_
      obtain ⟨h34, hw⟩ := hw
      refine V_icmp_ne (tgt := 147) X h34 ⟨by decide, by decide⟩ dX11_canMove_140 (by decide) (fun q35 => ?_) (fun q35 => ?_)
      · have hw := hw.1 q35
        refine V_sub (lv1 := [(0, .ref (a 13)), (1, iv p0), (4, iv x4)]) [0, 1, 3] rfl ?_
        exact wkj_X11_canMove_147 X hr hJ58 hJ115 hw
      · have hw := hw.2 q35
        refine V_iconst X dX11_canMove_143 ?_
        refine V_goto (tgt := 148) X dX11_canMove_144 (by decide) ?_
        refine V_sub (lv1 := [(0, .ref (a 13)), (1, iv p0), (4, iv x4)]) [0, 1, 3] rfl ?_
        exact wkj_X11_canMove_148 X hr hJ58 hJ115 hw
set_option maxHeartbeats 4000000 in
set_option maxRecDepth 100000 in
theorem wkj_X11_canMove_105 {p : Program} {l : Launch} {e : Env} {s : State} {m : MethodId} {args : Array Value} {below : List Frame} {meth : Method} {c : Code} {D : va_G} {g : GT} {A : Nat → Prop} {a : Nat → Nat} {b : Nat → Nat → Nat} (X : vC p s m args meth c D g A RX11 wsX11_canMove cX11_canMove 5) (hr : meth.sig.returnType = (some .boolean)) {p0 : Int} {p1 : Int} {x4 : Int} {s0 : Int} {M : Mem} {J58 : Int → Int → Mem → Prop} {J115 : Int → Int → Mem → Prop} {Q : Int → Mem → Prop} (hJ58 : ∀ (x3 : Int) (x4 : Int) (M : Mem), J58 x3 x4 M → vV p l e ({ frames := 2, cells := 0, slots := 0, locals := 47 } : Room) s m args below meth c D g A a b 5 0 0 (MQ below (cQi D g A a b Q) args s 0 0 A) M [(0, .ref (a 13)), (1, iv p0), (2, iv p1), (3, iv x3), (4, iv x4)] 58 []) (hJ115 : ∀ (x3 : Int) (x4 : Int) (M : Mem), J115 x3 x4 M → vV p l e ({ frames := 2, cells := 0, slots := 0, locals := 47 } : Room) s m args below meth c D g A a b 5 0 0 (MQ below (cQi D g A a b Q) args s 0 0 A) M [(0, .ref (a 13)), (1, iv p0), (3, iv x3), (4, iv x4)] 115 []) (hw : wpj_X11_canMove_105 p0 p1 x4 s0 M J58 J115 Q) : vV p l e ({ frames := 2, cells := 0, slots := 0, locals := 47 } : Room) s m args below meth c D g A a b 5 0 0 (MQ below (cQi D g A a b Q) args s 0 0 A) M [(0, .ref (a 13)), (1, iv p0), (2, iv p1), (4, iv x4)] 105 [iv s0] := by
  unfold wpj_X11_canMove_105 at hw
  refine V_istore_n (lv1 := [(0, .ref (a 13)), (1, iv p0), (2, iv p1), (3, iv s0), (4, iv x4)]) X [1, 2, 3, 0, 4] dX11_canMove_105 rfl (by decide) rfl ?_
  refine V_iinc (lv1 := [(0, .ref (a 13)), (1, iv p0), (2, iv p1), (3, iv s0), (4, iv (x4 + 1))]) X [1, 2, 3, 4, 0] dX11_canMove_106 (q := 4) rfl (by decide) rfl ?_
  refine V_goto (tgt := 58) X dX11_canMove_109 (by decide) ?_
  exact hJ58 _ _ _ hw
set_option maxHeartbeats 4000000 in
set_option maxRecDepth 100000 in
theorem wkj_X11_canMove_104 {p : Program} {l : Launch} {e : Env} {s : State} {m : MethodId} {args : Array Value} {below : List Frame} {meth : Method} {c : Code} {D : va_G} {g : GT} {A : Nat → Prop} {a : Nat → Nat} {b : Nat → Nat → Nat} (X : vC p s m args meth c D g A RX11 wsX11_canMove cX11_canMove 5) (hr : meth.sig.returnType = (some .boolean)) {p0 : Int} {p1 : Int} {x4 : Int} {M : Mem} {J58 : Int → Int → Mem → Prop} {J115 : Int → Int → Mem → Prop} {Q : Int → Mem → Prop} (hJ58 : ∀ (x3 : Int) (x4 : Int) (M : Mem), J58 x3 x4 M → vV p l e ({ frames := 2, cells := 0, slots := 0, locals := 47 } : Room) s m args below meth c D g A a b 5 0 0 (MQ below (cQi D g A a b Q) args s 0 0 A) M [(0, .ref (a 13)), (1, iv p0), (2, iv p1), (3, iv x3), (4, iv x4)] 58 []) (hJ115 : ∀ (x3 : Int) (x4 : Int) (M : Mem), J115 x3 x4 M → vV p l e ({ frames := 2, cells := 0, slots := 0, locals := 47 } : Room) s m args below meth c D g A a b 5 0 0 (MQ below (cQi D g A a b Q) args s 0 0 A) M [(0, .ref (a 13)), (1, iv p0), (3, iv x3), (4, iv x4)] 115 []) (hw : wpj_X11_canMove_104 p0 p1 x4 M J58 J115 Q) : vV p l e ({ frames := 2, cells := 0, slots := 0, locals := 47 } : Room) s m args below meth c D g A a b 5 0 0 (MQ below (cQi D g A a b Q) args s 0 0 A) M [(0, .ref (a 13)), (1, iv p0), (2, iv p1), (4, iv x4)] 104 [] := by
  unfold wpj_X11_canMove_104 at hw
  refine V_iconst X dX11_canMove_104 ?_
  exact wkj_X11_canMove_105 X hr hJ58 hJ115 hw
set_option maxHeartbeats 4000000 in
set_option maxRecDepth 100000 in
theorem wkh_X11_canMove_58 {p : Program} {l : Launch} {e : Env} {s : State} {m : MethodId} {args : Array Value} {below : List Frame} {meth : Method} {c : Code} {D : va_G} {g : GT} {A : Nat → Prop} {a : Nat → Nat} {b : Nat → Nat → Nat} (X : vC p s m args meth c D g A RX11 wsX11_canMove cX11_canMove 5) (hr : meth.sig.returnType = (some .boolean)) {p0 : Int} {p1 : Int} {x3 : Int} {x4 : Int} {M : Mem} {J58 : Int → Int → Mem → Prop} {J115 : Int → Int → Mem → Prop} {Q : Int → Mem → Prop} (hJ58 : ∀ (x3 : Int) (x4 : Int) (M : Mem), J58 x3 x4 M → vV p l e ({ frames := 2, cells := 0, slots := 0, locals := 47 } : Room) s m args below meth c D g A a b 5 0 0 (MQ below (cQi D g A a b Q) args s 0 0 A) M [(0, .ref (a 13)), (1, iv p0), (2, iv p1), (3, iv x3), (4, iv x4)] 58 []) (hJ115 : ∀ (x3 : Int) (x4 : Int) (M : Mem), J115 x3 x4 M → vV p l e ({ frames := 2, cells := 0, slots := 0, locals := 47 } : Room) s m args below meth c D g A a b 5 0 0 (MQ below (cQi D g A a b Q) args s 0 0 A) M [(0, .ref (a 13)), (1, iv p0), (3, iv x3), (4, iv x4)] 115 []) (hw : wph_X11_canMove_58 p0 p1 x3 x4 M J58 J115 Q) : vV p l e ({ frames := 2, cells := 0, slots := 0, locals := 47 } : Room) s m args below meth c D g A a b 5 0 0 (MQ below (cQi D g A a b Q) args s 0 0 A) M [(0, .ref (a 13)), (1, iv p0), (2, iv p1), (3, iv x3), (4, iv x4)] 58 [] := by
  unfold wph_X11_canMove_58 at hw
  refine V_iload X dX11_canMove_58 (q := 4) rfl ?_
  refine V_aload_n X dX11_canMove_60 rfl (q := 0) rfl ?_
  refine V_get (C := RX11) (T := TX11) (N := 24) (ci := 11) X hi_X11_canMove_11 gO_13 rfl 4 (by decide) lk_X11_canMove_f22 (fun _ h9 => h9) rfl dX11_canMove_61 ?_
  refine V_bipush X dX11_canMove_64 rfl ?_
  refine V_iload_n X dX11_canMove_66 rfl (q := 2) rfl ?_
  refine V_iadd X dX11_canMove_67 ?_
  obtain ⟨h14, hw⟩ := hw
  refine V_iald X (gA_13_4) h14 (by decide) dX11_canMove_68 ?_
  obtain ⟨h15, h16, hw⟩ := hw
  refine V_icmp_ge (tgt := 112) X h15 h16 dX11_canMove_69 (by decide) (fun q17 => ?_) (fun q17 => ?_)
  · have hw := hw.1 q17
    refine V_iconst X dX11_canMove_112 ?_
    refine V_istore (lv1 := [(0, .ref (a 13)), (1, iv p0), (2, iv p1), (3, iv x3), (4, iv 0)]) X [1, 2, 3, 4, 0] dX11_canMove_113 (by decide) rfl ?_
    refine V_sub (lv1 := [(0, .ref (a 13)), (1, iv p0), (3, iv x3), (4, iv 0)]) [0, 1, 3, 4] rfl ?_
    exact hJ115 _ _ _ hw
  · have hw := hw.2 q17
    refine V_iload_n X dX11_canMove_72 rfl (q := 3) rfl ?_
    obtain ⟨h18, hw⟩ := hw
    refine V_if_eq (tgt := 104) X h18 dX11_canMove_73 (by decide) (fun q19 => ?_) (fun q19 => ?_)
    · have hw := hw.1 q19
      refine V_sub (lv1 := [(0, .ref (a 13)), (1, iv p0), (2, iv p1), (4, iv x4)]) [0, 1, 2, 4] rfl ?_
      exact wkj_X11_canMove_104 X hr hJ58 hJ115 hw
    · have hw := hw.2 q19
      refine V_aload_n X dX11_canMove_76 rfl (q := 0) rfl ?_
      refine V_get (C := RX11) (T := TX11) (N := 24) (ci := 11) X hi_X11_canMove_11 gO_13 rfl 11 (by decide) lk_X11_canMove_f44 (fun _ h9 => h9) rfl dX11_canMove_77 ?_
      refine V_iload_n X dX11_canMove_80 rfl (q := 2) rfl ?_
      refine V_iload X dX11_canMove_81 (q := 4) rfl ?_
      refine V_iadd X dX11_canMove_83 ?_
      obtain ⟨h20, hw⟩ := hw
      refine V_zald X (gA_13_11) h20 (by decide) dX11_canMove_84 ?_
      obtain ⟨h21, hw⟩ := hw
      refine V_if_ne (tgt := 104) X h21 dX11_canMove_85 (by decide) (fun q22 => ?_) (fun q22 => ?_)
      · have hw := hw.1 q22
        refine V_sub (lv1 := [(0, .ref (a 13)), (1, iv p0), (2, iv p1), (4, iv x4)]) [0, 1, 2, 4] rfl ?_
        exact wkj_X11_canMove_104 X hr hJ58 hJ115 hw
      · have hw := hw.2 q22
        refine V_aload_n X dX11_canMove_88 rfl (q := 0) rfl ?_
        refine V_get (C := RX11) (T := TX11) (N := 24) (ci := 11) X hi_X11_canMove_11 gO_13 rfl 12 (by decide) lk_X11_canMove_f48 (fun _ h9 => h9) rfl dX11_canMove_89 ?_
        refine V_iload_n X dX11_canMove_92 rfl (q := 2) rfl ?_
        refine V_iload X dX11_canMove_93 (q := 4) rfl ?_
        refine V_iadd X dX11_canMove_95 ?_
        obtain ⟨h23, hw⟩ := hw
        refine V_zald X (gA_13_12) h23 (by decide) dX11_canMove_96 ?_
        obtain ⟨h24, hw⟩ := hw
        refine V_if_ne (tgt := 104) X h24 dX11_canMove_97 (by decide) (fun q25 => ?_) (fun q25 => ?_)
        · have hw := hw.1 q25
          refine V_sub (lv1 := [(0, .ref (a 13)), (1, iv p0), (2, iv p1), (4, iv x4)]) [0, 1, 2, 4] rfl ?_
          exact wkj_X11_canMove_104 X hr hJ58 hJ115 hw
        · have hw := hw.2 q25
          refine V_iconst X dX11_canMove_100 ?_
          refine V_goto (tgt := 105) X dX11_canMove_101 (by decide) ?_
          refine V_sub (lv1 := [(0, .ref (a 13)), (1, iv p0), (2, iv p1), (4, iv x4)]) [0, 1, 2, 4] rfl ?_
          exact wkj_X11_canMove_105 X hr hJ58 hJ115 hw
set_option maxHeartbeats 4000000 in
set_option maxRecDepth 100000 in
theorem wkj_X11_canMove_54 {p : Program} {l : Launch} {e : Env} {s : State} {m : MethodId} {args : Array Value} {below : List Frame} {meth : Method} {c : Code} {D : va_G} {g : GT} {A : Nat → Prop} {a : Nat → Nat} {b : Nat → Nat → Nat} (X : vC p s m args meth c D g A RX11 wsX11_canMove cX11_canMove 5) (hr : meth.sig.returnType = (some .boolean)) {p0 : Int} {p1 : Int} {s0 : Int} {M : Mem} {J58 : Int → Int → Mem → Prop} {J115 : Int → Int → Mem → Prop} {Q : Int → Mem → Prop} (hJ58 : ∀ (x3 : Int) (x4 : Int) (M : Mem), J58 x3 x4 M → vV p l e ({ frames := 2, cells := 0, slots := 0, locals := 47 } : Room) s m args below meth c D g A a b 5 0 0 (MQ below (cQi D g A a b Q) args s 0 0 A) M [(0, .ref (a 13)), (1, iv p0), (2, iv p1), (3, iv x3), (4, iv x4)] 58 []) (hJ115 : ∀ (x3 : Int) (x4 : Int) (M : Mem), J115 x3 x4 M → vV p l e ({ frames := 2, cells := 0, slots := 0, locals := 47 } : Room) s m args below meth c D g A a b 5 0 0 (MQ below (cQi D g A a b Q) args s 0 0 A) M [(0, .ref (a 13)), (1, iv p0), (3, iv x3), (4, iv x4)] 115 []) (hw : wpj_X11_canMove_54 p0 p1 s0 M J58 J115 Q) : vV p l e ({ frames := 2, cells := 0, slots := 0, locals := 47 } : Room) s m args below meth c D g A a b 5 0 0 (MQ below (cQi D g A a b Q) args s 0 0 A) M [(0, .ref (a 13)), (1, iv p0), (2, iv p1)] 54 [iv s0] := by
  unfold wpj_X11_canMove_54 at hw
  refine V_istore_n (lv1 := [(0, .ref (a 13)), (1, iv p0), (2, iv p1), (3, iv s0)]) X [1, 2, 3, 0] dX11_canMove_54 rfl (by decide) rfl ?_
  refine V_iconst X dX11_canMove_55 ?_
  refine V_istore (lv1 := [(0, .ref (a 13)), (1, iv p0), (2, iv p1), (3, iv s0), (4, iv 0)]) X [1, 2, 3, 4, 0] dX11_canMove_56 (by decide) rfl ?_
  exact hJ58 _ _ _ hw
set_option maxHeartbeats 4000000 in
set_option maxRecDepth 100000 in
theorem wkj_X11_canMove_53 {p : Program} {l : Launch} {e : Env} {s : State} {m : MethodId} {args : Array Value} {below : List Frame} {meth : Method} {c : Code} {D : va_G} {g : GT} {A : Nat → Prop} {a : Nat → Nat} {b : Nat → Nat → Nat} (X : vC p s m args meth c D g A RX11 wsX11_canMove cX11_canMove 5) (hr : meth.sig.returnType = (some .boolean)) {p0 : Int} {p1 : Int} {M : Mem} {J58 : Int → Int → Mem → Prop} {J115 : Int → Int → Mem → Prop} {Q : Int → Mem → Prop} (hJ58 : ∀ (x3 : Int) (x4 : Int) (M : Mem), J58 x3 x4 M → vV p l e ({ frames := 2, cells := 0, slots := 0, locals := 47 } : Room) s m args below meth c D g A a b 5 0 0 (MQ below (cQi D g A a b Q) args s 0 0 A) M [(0, .ref (a 13)), (1, iv p0), (2, iv p1), (3, iv x3), (4, iv x4)] 58 []) (hJ115 : ∀ (x3 : Int) (x4 : Int) (M : Mem), J115 x3 x4 M → vV p l e ({ frames := 2, cells := 0, slots := 0, locals := 47 } : Room) s m args below meth c D g A a b 5 0 0 (MQ below (cQi D g A a b Q) args s 0 0 A) M [(0, .ref (a 13)), (1, iv p0), (3, iv x3), (4, iv x4)] 115 []) (hw : wpj_X11_canMove_53 p0 p1 M J58 J115 Q) : vV p l e ({ frames := 2, cells := 0, slots := 0, locals := 47 } : Room) s m args below meth c D g A a b 5 0 0 (MQ below (cQi D g A a b Q) args s 0 0 A) M [(0, .ref (a 13)), (1, iv p0), (2, iv p1)] 53 [] := by
  unfold wpj_X11_canMove_53 at hw
  refine V_iconst X dX11_canMove_53 ?_
  exact wkj_X11_canMove_54 X hr hJ58 hJ115 hw
set_option maxHeartbeats 4000000 in
set_option maxRecDepth 100000 in
theorem wke_X11_canMove {p : Program} {l : Launch} {e : Env} {s : State} {m : MethodId} {args : Array Value} {below : List Frame} {meth : Method} {c : Code} {D : va_G} {g : GT} {A : Nat → Prop} {a : Nat → Nat} {b : Nat → Nat → Nat} (X : vC p s m args meth c D g A RX11 wsX11_canMove cX11_canMove 5) (hr : meth.sig.returnType = (some .boolean)) {p0 : Int} {p1 : Int} {M : Mem} {J58 : Int → Int → Mem → Prop} {J115 : Int → Int → Mem → Prop} {Q : Int → Mem → Prop} (hJ58 : ∀ (x3 : Int) (x4 : Int) (M : Mem), J58 x3 x4 M → vV p l e ({ frames := 2, cells := 0, slots := 0, locals := 47 } : Room) s m args below meth c D g A a b 5 0 0 (MQ below (cQi D g A a b Q) args s 0 0 A) M [(0, .ref (a 13)), (1, iv p0), (2, iv p1), (3, iv x3), (4, iv x4)] 58 []) (hJ115 : ∀ (x3 : Int) (x4 : Int) (M : Mem), J115 x3 x4 M → vV p l e ({ frames := 2, cells := 0, slots := 0, locals := 47 } : Room) s m args below meth c D g A a b 5 0 0 (MQ below (cQi D g A a b Q) args s 0 0 A) M [(0, .ref (a 13)), (1, iv p0), (3, iv x3), (4, iv x4)] 115 []) (hw : wpe_X11_canMove p0 p1 M J58 J115 Q) : vV p l e ({ frames := 2, cells := 0, slots := 0, locals := 47 } : Room) s m args below meth c D g A a b 5 0 0 (MQ below (cQi D g A a b Q) args s 0 0 A) M [(0, .ref (a 13)), (1, iv p0), (2, iv p1)] 0 [] := by
  unfold wpe_X11_canMove at hw
  refine V_aload_n X dX11_canMove_0 rfl (q := 0) rfl ?_
  refine V_iload_n X dX11_canMove_1 rfl (q := 1) rfl ?_
  refine V_bipush X dX11_canMove_2 rfl ?_
  refine V_iload_n X dX11_canMove_4 rfl (q := 2) rfl ?_
  refine V_iadd X dX11_canMove_5 ?_
  refine V_callV_i X _ gO_13 rfl (As := [iv p0, iv (12 + p1)]) (st := []) (c_X11_isSame l hw) (cwV 2 X.2.2.2.1 gX11_canMove_X11_isSame rfl rfl rfl (by decide +kernel) ⟨Nat.le_of_ble_eq_true rfl, Nat.le_of_ble_eq_true rfl⟩) rfl (Nat.le_of_ble_eq_true rfl) ⟨Nat.le_of_ble_eq_true rfl, Nat.le_of_ble_eq_true rfl⟩ rfl dX11_canMove_6 (fun y1 M2 hw => ?_)
  obtain ⟨h3, hw⟩ := hw
  refine V_if_eq (tgt := 53) X h3 dX11_canMove_9 (by decide) (fun q4 => ?_) (fun q4 => ?_)
  · have hw := hw.1 q4
    exact wkj_X11_canMove_53 X hr hJ58 hJ115 hw
  · have hw := hw.2 q4
    refine V_aload_n X dX11_canMove_12 rfl (q := 0) rfl ?_
    refine V_get (C := RX11) (T := TX11) (N := 24) (ci := 11) X hi_X11_canMove_11 gO_13 rfl 7 (by decide) lk_X11_canMove_f31 (fun _ h9 => h9) rfl dX11_canMove_13 ?_
    refine V_aload_n X dX11_canMove_16 rfl (q := 0) rfl ?_
    refine V_iload_n X dX11_canMove_17 rfl (q := 1) rfl ?_
    refine V_iload_n X dX11_canMove_18 rfl (q := 1) rfl ?_
    refine V_aload_n X dX11_canMove_19 rfl (q := 0) rfl ?_
    refine V_get (C := RX11) (T := TX11) (N := 24) (ci := 11) X hi_X11_canMove_11 gO_13 rfl 4 (by decide) lk_X11_canMove_f22 (fun _ h9 => h9) rfl dX11_canMove_20 ?_
    refine V_iload_n X dX11_canMove_23 rfl (q := 1) rfl ?_
    obtain ⟨h5, hw⟩ := hw
    refine V_iald X (gA_13_4) h5 (by decide) dX11_canMove_24 ?_
    refine V_iadd X dX11_canMove_25 ?_
    refine V_callV_i X _ gO_13 rfl (As := [iv p0, iv (p0 + (M2 13 4 p0.toNat))]) (st := [iv ((M2 13 7 0))]) (c_X11_deletingAll l hw) (cwV 2 X.2.2.2.1 gX11_canMove_X11_deletingAll rfl rfl rfl (by decide +kernel) ⟨Nat.le_of_ble_eq_true rfl, Nat.le_of_ble_eq_true rfl⟩) rfl (Nat.le_of_ble_eq_true rfl) ⟨Nat.le_of_ble_eq_true rfl, Nat.le_of_ble_eq_true rfl⟩ rfl dX11_canMove_26 (fun y6 M7 hw => ?_)
    refine V_aload_n X dX11_canMove_29 rfl (q := 0) rfl ?_
    refine V_iload_n X dX11_canMove_30 rfl (q := 2) rfl ?_
    refine V_iload_n X dX11_canMove_31 rfl (q := 2) rfl ?_
    refine V_aload_n X dX11_canMove_32 rfl (q := 0) rfl ?_
    refine V_get (C := RX11) (T := TX11) (N := 24) (ci := 11) X hi_X11_canMove_11 gO_13 rfl 4 (by decide) lk_X11_canMove_f22 (fun _ h9 => h9) rfl dX11_canMove_33 ?_
    refine V_bipush X dX11_canMove_36 rfl ?_
    refine V_iload_n X dX11_canMove_38 rfl (q := 2) rfl ?_
    refine V_iadd X dX11_canMove_39 ?_
    obtain ⟨h8, hw⟩ := hw
    refine V_iald X (gA_13_4) h8 (by decide) dX11_canMove_40 ?_
    refine V_iadd X dX11_canMove_41 ?_
    refine V_callV_i X _ gO_13 rfl (As := [iv p1, iv (p1 + (M7 13 4 (12 + p1).toNat))]) (st := [iv y6, iv ((M2 13 7 0))]) (c_X11_inserting l hw) (cwV 2 X.2.2.2.1 gX11_canMove_X11_inserting rfl rfl rfl (by decide +kernel) ⟨Nat.le_of_ble_eq_true rfl, Nat.le_of_ble_eq_true rfl⟩) rfl (Nat.le_of_ble_eq_true rfl) ⟨Nat.le_of_ble_eq_true rfl, Nat.le_of_ble_eq_true rfl⟩ rfl dX11_canMove_42 (fun y9 M10 hw => ?_)
    refine V_iadd X dX11_canMove_45 ?_
    obtain ⟨h11, h12, hw⟩ := hw
    refine V_icmp_ge (tgt := 53) X h11 h12 dX11_canMove_46 (by decide) (fun q13 => ?_) (fun q13 => ?_)
    · have hw := hw.1 q13
      exact wkj_X11_canMove_53 X hr hJ58 hJ115 hw
    · have hw := hw.2 q13
      refine V_iconst X dX11_canMove_49 ?_
      refine V_goto (tgt := 54) X dX11_canMove_50 (by decide) ?_
      exact wkj_X11_canMove_54 X hr hJ58 hJ115 hw
set_option maxHeartbeats 4000000 in
set_option maxRecDepth 100000 in
theorem c_X11_canMove (l : Launch) {p0 : Int} {p1 : Int} {D : va_G} {g : GT} {A : Nat → Prop} {a : Nat → Nat} {b : Nat → Nat → Nat} {M : Mem} {Q : Int → Mem → Prop} (hw : wp_X11_canMove M p0 p1 Q) : Met l yX11_canMove wsX11_canMove ({ frames := 2, cells := 0, slots := 0, locals := 47 } : Room) (cPc D g A a b M [.ref (a 13), iv p0, iv p1]) (cQi D g A a b Q) 0 0 A := by
  refine Met.ofW (cc := cX11_canMove) (maxL := 5) (ret := (some .boolean)) (by decide) rfl ?_
  intro p e s m args below meth c s₁ B hml hv
  obtain ⟨rfl, hP, hD, hG⟩ := hv
  have X : vC p s m _ meth c D g A RX11 wsX11_canMove cX11_canMove 5 := ⟨B.exec, B.bytes, findClass_of_methodNamed B.named, atoms_spec (ws := wsX11_canMove) B.pre, hG, hml, B.notSynchronized⟩
  have hr := B.returns
  have hl := lv_entry ([.ref (a 13), iv p0, iv p1]) (n := 5) (Nat.le_of_ble_eq_true rfl)
  rw [lg_entry_eq]
  generalize (lg_sl ([.ref (a 13), iv p0, iv p1]) ++ List.replicate (5 - (lg_sl ([.ref (a 13), iv p0, iv p1])).length) Slot.unset).toArray = ls at hl ⊢
  have hl : lv_has ls 5 [(0, .ref (a 13)), (1, iv p0), (2, iv p1)] := hl
  obtain ⟨I58, I115, hw, hI58, hI115⟩ := hw
  have K : ∀ n : Nat, (∀ (x3 : Int) (x4 : Int) (M : Mem), I58 n x3 x4 M → vV p l e ({ frames := 2, cells := 0, slots := 0, locals := 47 } : Room) s m ([.ref (a 13), iv p0, iv p1] : List Value).toArray below meth c D g A a b 5 0 0 (MQ below (cQi D g A a b Q) ([.ref (a 13), iv p0, iv p1] : List Value).toArray s 0 0 A) M [(0, .ref (a 13)), (1, iv p0), (2, iv p1), (3, iv x3), (4, iv x4)] 58 []) ∧ (∀ (x3 : Int) (x4 : Int) (M : Mem), I115 n x3 x4 M → vV p l e ({ frames := 2, cells := 0, slots := 0, locals := 47 } : Room) s m ([.ref (a 13), iv p0, iv p1] : List Value).toArray below meth c D g A a b 5 0 0 (MQ below (cQi D g A a b Q) ([.ref (a 13), iv p0, iv p1] : List Value).toArray s 0 0 A) M [(0, .ref (a 13)), (1, iv p0), (3, iv x3), (4, iv x4)] 115 []) := by
    intro n
    induction n using Nat.strongRecOn with
    | ind n ih =>
      exact ⟨fun x3 x4 M hh => wkh_X11_canMove_58 X hr (fun _ _ _ ⟨n1, hn, hh⟩ => (ih n1 hn).1 _ _ _ hh) (fun _ _ _ ⟨n1, hn, hh⟩ => (ih n1 hn).2 _ _ _ hh) (hI58 n x3 x4 M hh), fun x3 x4 M hh => wkh_X11_canMove_115 X hr (fun _ _ _ ⟨n1, hn, hh⟩ => (ih n1 hn).1 _ _ _ hh) (fun _ _ _ ⟨n1, hn, hh⟩ => (ih n1 hn).2 _ _ _ hh) (hI115 n x3 x4 M hh)⟩
  exact wke_X11_canMove X hr  (fun _ _ _ ⟨n1, hh⟩ => (K n1).1 _ _ _ hh) (fun _ _ _ ⟨n1, hh⟩ => (K n1).2 _ _ _ hh) hw s.heap [] ls hP hD va_S.rf hl
