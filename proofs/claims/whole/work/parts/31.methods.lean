set_option maxRecDepth 20000 in
theorem ggX11_scripts_X11_maps : GoodIn wsX11_scripts wsX11_maps := goodIn_r _ [11, 6, 12, 13, 14, 10, 15, 2, 16, 17, 18, 19, 20, 21, 22, 23, 24, 25, 26, 27, 28, 29, 30, 31, 32, 33, 34, 35, 36, 37, 38, 39, 40, 41, 42, 43, 44, 45, 46, 47, 4, 48, 49, 50, 51, 52, 3, 53, 54, 55, 56, 57, 58, 59, 60, 61, 62, 63, 64, 75, 76, 77, 78, 79, 80, 81, 82, 83, 84, 85, 86, 87, 88, 89, 90, 91, 92, 93, 94, 95, 96, 97, 98] (by decide +kernel) (by decide +kernel)
set_option maxRecDepth 20000 in
theorem gX11_scripts_X11_maps : GoodIn wsX11_scripts (wsV RX11 166 RX11 yX11_maps wsX11_maps) := goodIn_app (goodIn_of _ (by decide +kernel)) ggX11_scripts_X11_maps
set_option maxRecDepth 20000 in
theorem ggX11_scripts_X11_byPostorder : GoodIn wsX11_scripts wsX11_byPostorder := goodIn_r _ [68, 22, 23, 75, 76, 77, 78, 79, 80, 81, 82, 83, 84, 85, 86, 87, 88, 89, 90, 91, 92, 93, 94, 95, 96, 97, 98] (by decide +kernel) (by decide +kernel)
set_option maxRecDepth 20000 in
theorem gX11_scripts_X11_byPostorder : GoodIn wsX11_scripts (wsV RX11 119 RX11 yX11_byPostorder wsX11_byPostorder) := goodIn_app (goodIn_of _ (by decide +kernel)) ggX11_scripts_X11_byPostorder
set_option maxRecDepth 20000 in
theorem ggX11_scripts_X11_notes : GoodIn wsX11_scripts wsX11_notes := goodIn_r _ [72, 73, 1, 74, 75, 76, 77, 78, 79, 80, 81, 82, 83, 84, 85, 86, 87, 88, 89, 90, 91, 92, 93, 94, 95, 96, 97, 98] (by decide +kernel) (by decide +kernel)
set_option maxRecDepth 20000 in
theorem gX11_scripts_X11_notes : GoodIn wsX11_scripts (wsV RX11 172 RX11 yX11_notes wsX11_notes) := goodIn_app (goodIn_of _ (by decide +kernel)) ggX11_scripts_X11_notes
theorem dX11_scripts_0 : decode cX11_scripts 0 = .ok (.aload_n 0, 1) := by decide +kernel
theorem dX11_scripts_1 : decode cX11_scripts 1 = .ok (.invokevirtual 166, 3) := by decide +kernel
theorem dX11_scripts_4 : decode cX11_scripts 4 = .ok (.istore_n 1, 1) := by decide +kernel
theorem dX11_scripts_5 : decode cX11_scripts 5 = .ok (.aload_n 0, 1) := by decide +kernel
theorem dX11_scripts_6 : decode cX11_scripts 6 = .ok (.iconst 0, 1) := by decide +kernel
theorem dX11_scripts_7 : decode cX11_scripts 7 = .ok (.putfield 169, 3) := by decide +kernel
theorem dX11_scripts_10 : decode cX11_scripts 10 = .ok (.iconst 0, 1) := by decide +kernel
theorem dX11_scripts_11 : decode cX11_scripts 11 = .ok (.istore_n 2, 1) := by decide +kernel
theorem dX11_scripts_12 : decode cX11_scripts 12 = .ok (.iload_n 2, 1) := by decide +kernel
theorem dX11_scripts_13 : decode cX11_scripts 13 = .ok (.aload_n 0, 1) := by decide +kernel
theorem dX11_scripts_14 : decode cX11_scripts 14 = .ok (.getfield 25, 3) := by decide +kernel
theorem dX11_scripts_17 : decode cX11_scripts 17 = .ok (.iconst 0, 1) := by decide +kernel
theorem dX11_scripts_18 : decode cX11_scripts 18 = .ok (.iaload, 1) := by decide +kernel
theorem dX11_scripts_19 : decode cX11_scripts 19 = .ok (.if_icmp .ge 32, 3) := by decide +kernel
theorem dX11_scripts_22 : decode cX11_scripts 22 = .ok (.aload_n 0, 1) := by decide +kernel
theorem dX11_scripts_23 : decode cX11_scripts 23 = .ok (.iconst 0, 1) := by decide +kernel
theorem dX11_scripts_24 : decode cX11_scripts 24 = .ok (.iload_n 2, 1) := by decide +kernel
theorem dX11_scripts_25 : decode cX11_scripts 25 = .ok (.invokevirtual 119, 3) := by decide +kernel
theorem dX11_scripts_28 : decode cX11_scripts 28 = .ok (.istore_n 3, 1) := by decide +kernel
theorem dX11_scripts_29 : decode cX11_scripts 29 = .ok (.aload_n 0, 1) := by decide +kernel
theorem dX11_scripts_30 : decode cX11_scripts 30 = .ok (.getfield 38, 3) := by decide +kernel
theorem dX11_scripts_33 : decode cX11_scripts 33 = .ok (.iload_n 3, 1) := by decide +kernel
theorem dX11_scripts_34 : decode cX11_scripts 34 = .ok (.iaload, 1) := by decide +kernel
theorem dX11_scripts_35 : decode cX11_scripts 35 = .ok (.iconst (-1), 1) := by decide +kernel
theorem dX11_scripts_36 : decode cX11_scripts 36 = .ok (.if_icmp .ne 9, 3) := by decide +kernel
theorem dX11_scripts_39 : decode cX11_scripts 39 = .ok (.aload_n 0, 1) := by decide +kernel
theorem dX11_scripts_40 : decode cX11_scripts 40 = .ok (.iconst 0, 1) := by decide +kernel
theorem dX11_scripts_41 : decode cX11_scripts 41 = .ok (.iload_n 3, 1) := by decide +kernel
theorem dX11_scripts_42 : decode cX11_scripts 42 = .ok (.invokevirtual 172, 3) := by decide +kernel
theorem dX11_scripts_45 : decode cX11_scripts 45 = .ok (.iinc 2 1, 3) := by decide +kernel
theorem dX11_scripts_48 : decode cX11_scripts 48 = .ok (.goto (-36), 3) := by decide +kernel
theorem dX11_scripts_51 : decode cX11_scripts 51 = .ok (.iconst 0, 1) := by decide +kernel
theorem dX11_scripts_52 : decode cX11_scripts 52 = .ok (.istore_n 2, 1) := by decide +kernel
theorem dX11_scripts_53 : decode cX11_scripts 53 = .ok (.iload_n 2, 1) := by decide +kernel
theorem dX11_scripts_54 : decode cX11_scripts 54 = .ok (.aload_n 0, 1) := by decide +kernel
theorem dX11_scripts_55 : decode cX11_scripts 55 = .ok (.getfield 25, 3) := by decide +kernel
theorem dX11_scripts_58 : decode cX11_scripts 58 = .ok (.iconst 0, 1) := by decide +kernel
theorem dX11_scripts_59 : decode cX11_scripts 59 = .ok (.iaload, 1) := by decide +kernel
theorem dX11_scripts_60 : decode cX11_scripts 60 = .ok (.if_icmp .ge 48, 3) := by decide +kernel
theorem dX11_scripts_63 : decode cX11_scripts 63 = .ok (.aload_n 0, 1) := by decide +kernel
theorem dX11_scripts_64 : decode cX11_scripts 64 = .ok (.getfield 38, 3) := by decide +kernel
theorem dX11_scripts_67 : decode cX11_scripts 67 = .ok (.iload_n 2, 1) := by decide +kernel
theorem dX11_scripts_68 : decode cX11_scripts 68 = .ok (.iaload, 1) := by decide +kernel
theorem dX11_scripts_69 : decode cX11_scripts 69 = .ok (.iconst (-1), 1) := by decide +kernel
theorem dX11_scripts_70 : decode cX11_scripts 70 = .ok (.if_icmp .eq 32, 3) := by decide +kernel
theorem dX11_scripts_73 : decode cX11_scripts 73 = .ok (.aload_n 0, 1) := by decide +kernel
theorem dX11_scripts_74 : decode cX11_scripts 74 = .ok (.getfield 19, 3) := by decide +kernel
theorem dX11_scripts_77 : decode cX11_scripts 77 = .ok (.iload_n 2, 1) := by decide +kernel
theorem dX11_scripts_78 : decode cX11_scripts 78 = .ok (.iaload, 1) := by decide +kernel
theorem dX11_scripts_79 : decode cX11_scripts 79 = .ok (.aload_n 0, 1) := by decide +kernel
theorem dX11_scripts_80 : decode cX11_scripts 80 = .ok (.getfield 19, 3) := by decide +kernel
theorem dX11_scripts_83 : decode cX11_scripts 83 = .ok (.bipush 12, 2) := by decide +kernel
theorem dX11_scripts_85 : decode cX11_scripts 85 = .ok (.aload_n 0, 1) := by decide +kernel
theorem dX11_scripts_86 : decode cX11_scripts 86 = .ok (.getfield 38, 3) := by decide +kernel
theorem dX11_scripts_89 : decode cX11_scripts 89 = .ok (.iload_n 2, 1) := by decide +kernel
theorem dX11_scripts_90 : decode cX11_scripts 90 = .ok (.iaload, 1) := by decide +kernel
theorem dX11_scripts_91 : decode cX11_scripts 91 = .ok (.iadd, 1) := by decide +kernel
theorem dX11_scripts_92 : decode cX11_scripts 92 = .ok (.iaload, 1) := by decide +kernel
theorem dX11_scripts_93 : decode cX11_scripts 93 = .ok (.if_icmp .eq 9, 3) := by decide +kernel
theorem dX11_scripts_96 : decode cX11_scripts 96 = .ok (.aload_n 0, 1) := by decide +kernel
theorem dX11_scripts_97 : decode cX11_scripts 97 = .ok (.iconst 1, 1) := by decide +kernel
theorem dX11_scripts_98 : decode cX11_scripts 98 = .ok (.iload_n 2, 1) := by decide +kernel
theorem dX11_scripts_99 : decode cX11_scripts 99 = .ok (.invokevirtual 172, 3) := by decide +kernel
theorem dX11_scripts_102 : decode cX11_scripts 102 = .ok (.iinc 2 1, 3) := by decide +kernel
theorem dX11_scripts_105 : decode cX11_scripts 105 = .ok (.goto (-52), 3) := by decide +kernel
theorem dX11_scripts_108 : decode cX11_scripts 108 = .ok (.aload_n 0, 1) := by decide +kernel
theorem dX11_scripts_109 : decode cX11_scripts 109 = .ok (.aload_n 0, 1) := by decide +kernel
theorem dX11_scripts_110 : decode cX11_scripts 110 = .ok (.getfield 169, 3) := by decide +kernel
theorem dX11_scripts_113 : decode cX11_scripts 113 = .ok (.putfield 176, 3) := by decide +kernel
theorem dX11_scripts_116 : decode cX11_scripts 116 = .ok (.iconst 0, 1) := by decide +kernel
theorem dX11_scripts_117 : decode cX11_scripts 117 = .ok (.istore_n 2, 1) := by decide +kernel
theorem dX11_scripts_118 : decode cX11_scripts 118 = .ok (.iload_n 2, 1) := by decide +kernel
theorem dX11_scripts_119 : decode cX11_scripts 119 = .ok (.aload_n 0, 1) := by decide +kernel
theorem dX11_scripts_120 : decode cX11_scripts 120 = .ok (.getfield 25, 3) := by decide +kernel
theorem dX11_scripts_123 : decode cX11_scripts 123 = .ok (.iconst 1, 1) := by decide +kernel
theorem dX11_scripts_124 : decode cX11_scripts 124 = .ok (.iaload, 1) := by decide +kernel
theorem dX11_scripts_125 : decode cX11_scripts 125 = .ok (.if_icmp .ge 24, 3) := by decide +kernel
theorem dX11_scripts_128 : decode cX11_scripts 128 = .ok (.aload_n 0, 1) := by decide +kernel
theorem dX11_scripts_129 : decode cX11_scripts 129 = .ok (.getfield 44, 3) := by decide +kernel
theorem dX11_scripts_132 : decode cX11_scripts 132 = .ok (.iload_n 2, 1) := by decide +kernel
theorem dX11_scripts_133 : decode cX11_scripts 133 = .ok (.baload, 1) := by decide +kernel
theorem dX11_scripts_134 : decode cX11_scripts 134 = .ok (.ifCond .ne 9, 3) := by decide +kernel
theorem dX11_scripts_137 : decode cX11_scripts 137 = .ok (.aload_n 0, 1) := by decide +kernel
theorem dX11_scripts_138 : decode cX11_scripts 138 = .ok (.iconst 2, 1) := by decide +kernel
theorem dX11_scripts_139 : decode cX11_scripts 139 = .ok (.iload_n 2, 1) := by decide +kernel
theorem dX11_scripts_140 : decode cX11_scripts 140 = .ok (.invokevirtual 172, 3) := by decide +kernel
theorem dX11_scripts_143 : decode cX11_scripts 143 = .ok (.iinc 2 1, 3) := by decide +kernel
theorem dX11_scripts_146 : decode cX11_scripts 146 = .ok (.goto (-28), 3) := by decide +kernel
theorem dX11_scripts_149 : decode cX11_scripts 149 = .ok (.return_, 1) := by decide +kernel
theorem lk_X11_scripts_f169 : Cond.fieldLink RX11 169 "TreeComparerModel" "steps" "I" ∈ wsX11_scripts := by decide +kernel
theorem hi_X11_scripts_11 : ∀ w ∈ u_ws RX11 TX11 24, w ∈ wsX11_scripts := by decide +kernel
theorem lk_X11_scripts_f25 : Cond.fieldLink RX11 25 "TreeComparerModel" "many" "[I" ∈ wsX11_scripts := by decide +kernel
theorem lk_X11_scripts_f38 : Cond.fieldLink RX11 38 "TreeComparerModel" "partner" "[I" ∈ wsX11_scripts := by decide +kernel
theorem lk_X11_scripts_f176 : Cond.fieldLink RX11 176 "TreeComparerModel" "ofOld" "I" ∈ wsX11_scripts := by decide +kernel
theorem lk_X11_scripts_f19 : Cond.fieldLink RX11 19 "TreeComparerModel" "label" "[I" ∈ wsX11_scripts := by decide +kernel
theorem lk_X11_scripts_f44 : Cond.fieldLink RX11 44 "TreeComparerModel" "paired" "[Z" ∈ wsX11_scripts := by decide +kernel
def wpj_X11_scripts_143 (x2 : Int) (M : Mem) (J12 : Int → Mem → Prop) (J53 : Int → Mem → Prop) (J118 : Int → Mem → Prop) (Q : Mem → Prop) : Prop := J118 (x2 + 1) M
def wph_X11_scripts_118 (x2 : Int) (M : Mem) (J12 : Int → Mem → Prop) (J53 : Int → Mem → Prop) (J118 : Int → Mem → Prop) (Q : Mem → Prop) : Prop := inR x2 ∧ inR (M 13 5 1) ∧ (((M 13 5 1) ≤ x2 → Q M) ∧ (¬ ((M 13 5 1) ≤ x2) → ((0 : Int) ≤ x2 ∧ x2 < 12) ∧ inR (M 13 11 x2.toNat) ∧ (((M 13 11 x2.toNat) ≠ 0 → wpj_X11_scripts_143 x2 M J12 J53 J118 Q) ∧ (¬ ((M 13 11 x2.toNat) ≠ 0) → wp_X11_notes M 2 x2 (fun M36 => wpj_X11_scripts_143 x2 M36 J12 J53 J118 Q)))))
def wpj_X11_scripts_102 (x2 : Int) (M : Mem) (J12 : Int → Mem → Prop) (J53 : Int → Mem → Prop) (J118 : Int → Mem → Prop) (Q : Mem → Prop) : Prop := J53 (x2 + 1) M
def wph_X11_scripts_53 (x2 : Int) (M : Mem) (J12 : Int → Mem → Prop) (J53 : Int → Mem → Prop) (J118 : Int → Mem → Prop) (Q : Mem → Prop) : Prop := inR x2 ∧ inR (M 13 5 0) ∧ (((M 13 5 0) ≤ x2 → (∀ M17 : Mem, M17 = mset M 13 17 0 ((M 13 16 0)) → J118 0 M17)) ∧ (¬ ((M 13 5 0) ≤ x2) → ((0 : Int) ≤ x2 ∧ x2 < 12) ∧ inR (M 13 9 x2.toNat) ∧ (((M 13 9 x2.toNat) = (-1) → wpj_X11_scripts_102 x2 M J12 J53 J118 Q) ∧ (¬ ((M 13 9 x2.toNat) = (-1)) → ((0 : Int) ≤ x2 ∧ x2 < 24) ∧ ((0 : Int) ≤ x2 ∧ x2 < 12) ∧ ((0 : Int) ≤ 12 + (M 13 9 x2.toNat) ∧ 12 + (M 13 9 x2.toNat) < 24) ∧ inR (M 13 3 x2.toNat) ∧ inR (M 13 3 (12 + (M 13 9 x2.toNat)).toNat) ∧ (((M 13 3 x2.toNat) = (M 13 3 (12 + (M 13 9 x2.toNat)).toNat) → wpj_X11_scripts_102 x2 M J12 J53 J118 Q) ∧ (¬ ((M 13 3 x2.toNat) = (M 13 3 (12 + (M 13 9 x2.toNat)).toNat)) → wp_X11_notes M 1 x2 (fun M28 => wpj_X11_scripts_102 x2 M28 J12 J53 J118 Q)))))))
def wpj_X11_scripts_45 (x2 : Int) (M : Mem) (J12 : Int → Mem → Prop) (J53 : Int → Mem → Prop) (J118 : Int → Mem → Prop) (Q : Mem → Prop) : Prop := J12 (x2 + 1) M
def wph_X11_scripts_12 (x2 : Int) (M : Mem) (J12 : Int → Mem → Prop) (J53 : Int → Mem → Prop) (J118 : Int → Mem → Prop) (Q : Mem → Prop) : Prop := inR x2 ∧ inR (M 13 5 0) ∧ (((M 13 5 0) ≤ x2 → J53 0 M) ∧ (¬ ((M 13 5 0) ≤ x2) → wp_X11_byPostorder M 0 x2 (fun y7 M8 => ((0 : Int) ≤ y7 ∧ y7 < 12) ∧ inR (M8 13 9 y7.toNat) ∧ (((M8 13 9 y7.toNat) ≠ (-1) → wpj_X11_scripts_45 x2 M8 J12 J53 J118 Q) ∧ (¬ ((M8 13 9 y7.toNat) ≠ (-1)) → wp_X11_notes M8 0 y7 (fun M13 => wpj_X11_scripts_45 x2 M13 J12 J53 J118 Q))))))
def wpe_X11_scripts (M : Mem) (J12 : Int → Mem → Prop) (J53 : Int → Mem → Prop) (J118 : Int → Mem → Prop) (Q : Mem → Prop) : Prop := wp_X11_maps M (fun y1 M2 => (∀ M3 : Mem, M3 = mset M2 13 16 0 0 → J12 0 M3))
def wp_X11_scripts (M : Mem) (Q : Mem → Prop) : Prop := ∃ (I12 : Nat → Int → Mem → Prop) (I53 : Nat → Int → Mem → Prop) (I118 : Nat → Int → Mem → Prop), wpe_X11_scripts M (fun (x2 : Int) (M1 : Mem) => ∃ n1 : Nat, I12 n1 x2 M1) (fun (x2 : Int) (M1 : Mem) => ∃ n1 : Nat, I53 n1 x2 M1) (fun (x2 : Int) (M1 : Mem) => ∃ n1 : Nat, I118 n1 x2 M1) Q ∧ (∀ (n : Nat) (x2 : Int) (M : Mem), I12 n x2 M → wph_X11_scripts_12 x2 M (fun (x2 : Int) (M1 : Mem) => ∃ n1 : Nat, n1 < n ∧ I12 n1 x2 M1) (fun (x2 : Int) (M1 : Mem) => ∃ n1 : Nat, n1 < n ∧ I53 n1 x2 M1) (fun (x2 : Int) (M1 : Mem) => ∃ n1 : Nat, n1 < n ∧ I118 n1 x2 M1) Q) ∧ (∀ (n : Nat) (x2 : Int) (M : Mem), I53 n x2 M → wph_X11_scripts_53 x2 M (fun (x2 : Int) (M1 : Mem) => ∃ n1 : Nat, n1 < n ∧ I12 n1 x2 M1) (fun (x2 : Int) (M1 : Mem) => ∃ n1 : Nat, n1 < n ∧ I53 n1 x2 M1) (fun (x2 : Int) (M1 : Mem) => ∃ n1 : Nat, n1 < n ∧ I118 n1 x2 M1) Q) ∧ (∀ (n : Nat) (x2 : Int) (M : Mem), I118 n x2 M → wph_X11_scripts_118 x2 M (fun (x2 : Int) (M1 : Mem) => ∃ n1 : Nat, n1 < n ∧ I12 n1 x2 M1) (fun (x2 : Int) (M1 : Mem) => ∃ n1 : Nat, n1 < n ∧ I53 n1 x2 M1) (fun (x2 : Int) (M1 : Mem) => ∃ n1 : Nat, n1 < n ∧ I118 n1 x2 M1) Q)
set_option maxHeartbeats 4000000 in
set_option maxRecDepth 100000 in
theorem wkj_X11_scripts_143 {p : Program} {l : Launch} {e : Env} {s : State} {m : MethodId} {args : Array Value} {below : List Frame} {meth : Method} {c : Code} {D : va_G} {g : GT} {A : Nat → Prop} {a : Nat → Nat} {b : Nat → Nat → Nat} (X : vC p s m args meth c D g A RX11 wsX11_scripts cX11_scripts 4) (hr : meth.sig.returnType = none) {x2 : Int} {M : Mem} {J12 : Int → Mem → Prop} {J53 : Int → Mem → Prop} {J118 : Int → Mem → Prop} {Q : Mem → Prop} (hJ12 : ∀ (x2 : Int) (M : Mem), J12 x2 M → vV p l e ({ frames := 5, cells := 0, slots := 0, locals := 126 } : Room) s m args below meth c D g A a b 4 0 0 (MQ below (cQv D g A a b Q) args s 0 0 A) M [(0, .ref (a 13)), (2, iv x2)] 12 []) (hJ53 : ∀ (x2 : Int) (M : Mem), J53 x2 M → vV p l e ({ frames := 5, cells := 0, slots := 0, locals := 126 } : Room) s m args below meth c D g A a b 4 0 0 (MQ below (cQv D g A a b Q) args s 0 0 A) M [(0, .ref (a 13)), (2, iv x2)] 53 []) (hJ118 : ∀ (x2 : Int) (M : Mem), J118 x2 M → vV p l e ({ frames := 5, cells := 0, slots := 0, locals := 126 } : Room) s m args below meth c D g A a b 4 0 0 (MQ below (cQv D g A a b Q) args s 0 0 A) M [(0, .ref (a 13)), (2, iv x2)] 118 []) (hw : wpj_X11_scripts_143 x2 M J12 J53 J118 Q) : vV p l e ({ frames := 5, cells := 0, slots := 0, locals := 126 } : Room) s m args below meth c D g A a b 4 0 0 (MQ below (cQv D g A a b Q) args s 0 0 A) M [(0, .ref (a 13)), (2, iv x2)] 143 [] := by
  unfold wpj_X11_scripts_143 at hw
  refine V_iinc (lv1 := [(0, .ref (a 13)), (2, iv (x2 + 1))]) X [1, 0] dX11_scripts_143 (q := 1) rfl (by decide) rfl ?_
  refine V_goto (tgt := 118) X dX11_scripts_146 (by decide) ?_
  exact hJ118 _ _ hw
set_option maxHeartbeats 4000000 in
set_option maxRecDepth 100000 in
theorem wkh_X11_scripts_118 {p : Program} {l : Launch} {e : Env} {s : State} {m : MethodId} {args : Array Value} {below : List Frame} {meth : Method} {c : Code} {D : va_G} {g : GT} {A : Nat → Prop} {a : Nat → Nat} {b : Nat → Nat → Nat} (X : vC p s m args meth c D g A RX11 wsX11_scripts cX11_scripts 4) (hr : meth.sig.returnType = none) {x2 : Int} {M : Mem} {J12 : Int → Mem → Prop} {J53 : Int → Mem → Prop} {J118 : Int → Mem → Prop} {Q : Mem → Prop} (hJ12 : ∀ (x2 : Int) (M : Mem), J12 x2 M → vV p l e ({ frames := 5, cells := 0, slots := 0, locals := 126 } : Room) s m args below meth c D g A a b 4 0 0 (MQ below (cQv D g A a b Q) args s 0 0 A) M [(0, .ref (a 13)), (2, iv x2)] 12 []) (hJ53 : ∀ (x2 : Int) (M : Mem), J53 x2 M → vV p l e ({ frames := 5, cells := 0, slots := 0, locals := 126 } : Room) s m args below meth c D g A a b 4 0 0 (MQ below (cQv D g A a b Q) args s 0 0 A) M [(0, .ref (a 13)), (2, iv x2)] 53 []) (hJ118 : ∀ (x2 : Int) (M : Mem), J118 x2 M → vV p l e ({ frames := 5, cells := 0, slots := 0, locals := 126 } : Room) s m args below meth c D g A a b 4 0 0 (MQ below (cQv D g A a b Q) args s 0 0 A) M [(0, .ref (a 13)), (2, iv x2)] 118 []) (hw : wph_X11_scripts_118 x2 M J12 J53 J118 Q) : vV p l e ({ frames := 5, cells := 0, slots := 0, locals := 126 } : Room) s m args below meth c D g A a b 4 0 0 (MQ below (cQv D g A a b Q) args s 0 0 A) M [(0, .ref (a 13)), (2, iv x2)] 118 [] := by
  unfold wph_X11_scripts_118 at hw
  refine V_iload_n X dX11_scripts_118 rfl (q := 1) rfl ?_
  refine V_aload_n X dX11_scripts_119 rfl (q := 0) rfl ?_
  refine V_get (C := RX11) (T := TX11) (N := 24) (ci := 11) X hi_X11_scripts_11 gO_13 rfl 5 (by decide) lk_X11_scripts_f25 (fun _ h9 => h9) rfl dX11_scripts_120 ?_
  refine V_iconst X dX11_scripts_123 ?_
  refine V_iald X (gA_13_5) ⟨by decide, by decide⟩ (by decide) dX11_scripts_124 ?_
  obtain ⟨h29, h30, hw⟩ := hw
  refine V_icmp_ge (tgt := 149) X h29 h30 dX11_scripts_125 (by decide) (fun q31 => ?_) (fun q31 => ?_)
  · have hw := hw.1 q31
    exact V_vret X hr hw dX11_scripts_149
  · have hw := hw.2 q31
    refine V_aload_n X dX11_scripts_128 rfl (q := 0) rfl ?_
    refine V_get (C := RX11) (T := TX11) (N := 24) (ci := 11) X hi_X11_scripts_11 gO_13 rfl 11 (by decide) lk_X11_scripts_f44 (fun _ h9 => h9) rfl dX11_scripts_129 ?_
    refine V_iload_n X dX11_scripts_132 rfl (q := 1) rfl ?_
    obtain ⟨h32, hw⟩ := hw
    refine V_zald X (gA_13_11) h32 (by decide) dX11_scripts_133 ?_
    obtain ⟨h33, hw⟩ := hw
    refine V_if_ne (tgt := 143) X h33 dX11_scripts_134 (by decide) (fun q34 => ?_) (fun q34 => ?_)
    · have hw := hw.1 q34
      exact wkj_X11_scripts_143 X hr hJ12 hJ53 hJ118 hw
    · have hw := hw.2 q34
      refine V_aload_n X dX11_scripts_137 rfl (q := 0) rfl ?_
      refine V_iconst X dX11_scripts_138 ?_
      refine V_iload_n X dX11_scripts_139 rfl (q := 1) rfl ?_
      refine V_callV_v X _ gO_13 rfl (As := [iv 2, iv x2]) (st := []) (c_X11_notes l hw) (cwV 2 X.2.2.2.1 gX11_scripts_X11_notes rfl rfl rfl (by decide +kernel) ⟨Nat.le_of_ble_eq_true rfl, Nat.le_of_ble_eq_true rfl⟩) rfl (Nat.le_of_ble_eq_true rfl) ⟨Nat.le_of_ble_eq_true rfl, Nat.le_of_ble_eq_true rfl⟩ rfl dX11_scripts_140 (fun M36 hw => ?_)
      exact wkj_X11_scripts_143 X hr hJ12 hJ53 hJ118 hw
set_option maxHeartbeats 4000000 in
set_option maxRecDepth 100000 in
theorem wkj_X11_scripts_102 {p : Program} {l : Launch} {e : Env} {s : State} {m : MethodId} {args : Array Value} {below : List Frame} {meth : Method} {c : Code} {D : va_G} {g : GT} {A : Nat → Prop} {a : Nat → Nat} {b : Nat → Nat → Nat} (X : vC p s m args meth c D g A RX11 wsX11_scripts cX11_scripts 4) (hr : meth.sig.returnType = none) {x2 : Int} {M : Mem} {J12 : Int → Mem → Prop} {J53 : Int → Mem → Prop} {J118 : Int → Mem → Prop} {Q : Mem → Prop} (hJ12 : ∀ (x2 : Int) (M : Mem), J12 x2 M → vV p l e ({ frames := 5, cells := 0, slots := 0, locals := 126 } : Room) s m args below meth c D g A a b 4 0 0 (MQ below (cQv D g A a b Q) args s 0 0 A) M [(0, .ref (a 13)), (2, iv x2)] 12 []) (hJ53 : ∀ (x2 : Int) (M : Mem), J53 x2 M → vV p l e ({ frames := 5, cells := 0, slots := 0, locals := 126 } : Room) s m args below meth c D g A a b 4 0 0 (MQ below (cQv D g A a b Q) args s 0 0 A) M [(0, .ref (a 13)), (2, iv x2)] 53 []) (hJ118 : ∀ (x2 : Int) (M : Mem), J118 x2 M → vV p l e ({ frames := 5, cells := 0, slots := 0, locals := 126 } : Room) s m args below meth c D g A a b 4 0 0 (MQ below (cQv D g A a b Q) args s 0 0 A) M [(0, .ref (a 13)), (2, iv x2)] 118 []) (hw : wpj_X11_scripts_102 x2 M J12 J53 J118 Q) : vV p l e ({ frames := 5, cells := 0, slots := 0, locals := 126 } : Room) s m args below meth c D g A a b 4 0 0 (MQ below (cQv D g A a b Q) args s 0 0 A) M [(0, .ref (a 13)), (2, iv x2)] 102 [] := by
  unfold wpj_X11_scripts_102 at hw
  refine V_iinc (lv1 := [(0, .ref (a 13)), (2, iv (x2 + 1))]) X [1, 0] dX11_scripts_102 (q := 1) rfl (by decide) rfl ?_
  refine V_goto (tgt := 53) X dX11_scripts_105 (by decide) ?_
  exact hJ53 _ _ hw
set_option maxHeartbeats 4000000 in
set_option maxRecDepth 100000 in
theorem wkh_X11_scripts_53 {p : Program} {l : Launch} {e : Env} {s : State} {m : MethodId} {args : Array Value} {below : List Frame} {meth : Method} {c : Code} {D : va_G} {g : GT} {A : Nat → Prop} {a : Nat → Nat} {b : Nat → Nat → Nat} (X : vC p s m args meth c D g A RX11 wsX11_scripts cX11_scripts 4) (hr : meth.sig.returnType = none) {x2 : Int} {M : Mem} {J12 : Int → Mem → Prop} {J53 : Int → Mem → Prop} {J118 : Int → Mem → Prop} {Q : Mem → Prop} (hJ12 : ∀ (x2 : Int) (M : Mem), J12 x2 M → vV p l e ({ frames := 5, cells := 0, slots := 0, locals := 126 } : Room) s m args below meth c D g A a b 4 0 0 (MQ below (cQv D g A a b Q) args s 0 0 A) M [(0, .ref (a 13)), (2, iv x2)] 12 []) (hJ53 : ∀ (x2 : Int) (M : Mem), J53 x2 M → vV p l e ({ frames := 5, cells := 0, slots := 0, locals := 126 } : Room) s m args below meth c D g A a b 4 0 0 (MQ below (cQv D g A a b Q) args s 0 0 A) M [(0, .ref (a 13)), (2, iv x2)] 53 []) (hJ118 : ∀ (x2 : Int) (M : Mem), J118 x2 M → vV p l e ({ frames := 5, cells := 0, slots := 0, locals := 126 } : Room) s m args below meth c D g A a b 4 0 0 (MQ below (cQv D g A a b Q) args s 0 0 A) M [(0, .ref (a 13)), (2, iv x2)] 118 []) (hw : wph_X11_scripts_53 x2 M J12 J53 J118 Q) : vV p l e ({ frames := 5, cells := 0, slots := 0, locals := 126 } : Room) s m args below meth c D g A a b 4 0 0 (MQ below (cQv D g A a b Q) args s 0 0 A) M [(0, .ref (a 13)), (2, iv x2)] 53 [] := by
  unfold wph_X11_scripts_53 at hw
  refine V_iload_n X dX11_scripts_53 rfl (q := 1) rfl ?_
  refine V_aload_n X dX11_scripts_54 rfl (q := 0) rfl ?_
  refine V_get (C := RX11) (T := TX11) (N := 24) (ci := 11) X hi_X11_scripts_11 gO_13 rfl 5 (by decide) lk_X11_scripts_f25 (fun _ h9 => h9) rfl dX11_scripts_55 ?_
  refine V_iconst X dX11_scripts_58 ?_
  refine V_iald X (gA_13_5) ⟨by decide, by decide⟩ (by decide) dX11_scripts_59 ?_
  obtain ⟨h14, h15, hw⟩ := hw
  refine V_icmp_ge (tgt := 108) X h14 h15 dX11_scripts_60 (by decide) (fun q16 => ?_) (fun q16 => ?_)
  · have hw := hw.1 q16
    refine V_aload_n X dX11_scripts_108 rfl (q := 0) rfl ?_
    refine V_aload_n X dX11_scripts_109 rfl (q := 0) rfl ?_
    refine V_get (C := RX11) (T := TX11) (N := 24) (ci := 11) X hi_X11_scripts_11 gO_13 rfl 16 (by decide) lk_X11_scripts_f169 (fun _ h9 => h9) rfl dX11_scripts_110 ?_
    refine V_put (C := RX11) (T := TX11) (N := 24) (ci := 11) X hi_X11_scripts_11 gO_13 rfl 17 (by decide) tyX11 tyX11_ok nmX11 rfl (tyX11_ok 17 (by decide)) (Or.inl rfl) (show 17 < 24 from by decide) sI_13_17 lk_X11_scripts_f176 (fun _ h9 => h9) dX11_scripts_113 (fun M17 eM17 => ?_)
    have hw := hw M17 eM17
    refine V_iconst X dX11_scripts_116 ?_
    refine V_istore_n (lv1 := [(0, .ref (a 13)), (2, iv 0)]) X [1, 0] dX11_scripts_117 rfl (by decide) rfl ?_
    exact hJ118 _ _ hw
  · have hw := hw.2 q16
    refine V_aload_n X dX11_scripts_63 rfl (q := 0) rfl ?_
    refine V_get (C := RX11) (T := TX11) (N := 24) (ci := 11) X hi_X11_scripts_11 gO_13 rfl 9 (by decide) lk_X11_scripts_f38 (fun _ h9 => h9) rfl dX11_scripts_64 ?_
    refine V_iload_n X dX11_scripts_67 rfl (q := 1) rfl ?_
    obtain ⟨h18, hw⟩ := hw
    refine V_iald X (gA_13_9) h18 (by decide) dX11_scripts_68 ?_
    refine V_iconst X dX11_scripts_69 ?_
    obtain ⟨h19, hw⟩ := hw
    refine V_icmp_eq (tgt := 102) X h19 ⟨by decide, by decide⟩ dX11_scripts_70 (by decide) (fun q20 => ?_) (fun q20 => ?_)
    · have hw := hw.1 q20
      exact wkj_X11_scripts_102 X hr hJ12 hJ53 hJ118 hw
    · have hw := hw.2 q20
      refine V_aload_n X dX11_scripts_73 rfl (q := 0) rfl ?_
      refine V_get (C := RX11) (T := TX11) (N := 24) (ci := 11) X hi_X11_scripts_11 gO_13 rfl 3 (by decide) lk_X11_scripts_f19 (fun _ h9 => h9) rfl dX11_scripts_74 ?_
      refine V_iload_n X dX11_scripts_77 rfl (q := 1) rfl ?_
      obtain ⟨h21, hw⟩ := hw
      refine V_iald X (gA_13_3) h21 (by decide) dX11_scripts_78 ?_
      refine V_aload_n X dX11_scripts_79 rfl (q := 0) rfl ?_
      refine V_get (C := RX11) (T := TX11) (N := 24) (ci := 11) X hi_X11_scripts_11 gO_13 rfl 3 (by decide) lk_X11_scripts_f19 (fun _ h9 => h9) rfl dX11_scripts_80 ?_
      refine V_bipush X dX11_scripts_83 rfl ?_
      refine V_aload_n X dX11_scripts_85 rfl (q := 0) rfl ?_
      refine V_get (C := RX11) (T := TX11) (N := 24) (ci := 11) X hi_X11_scripts_11 gO_13 rfl 9 (by decide) lk_X11_scripts_f38 (fun _ h9 => h9) rfl dX11_scripts_86 ?_
      refine V_iload_n X dX11_scripts_89 rfl (q := 1) rfl ?_
      obtain ⟨h22, hw⟩ := hw
      refine V_iald X (gA_13_9) h22 (by decide) dX11_scripts_90 ?_
      refine V_iadd X dX11_scripts_91 ?_
      obtain ⟨h23, hw⟩ := hw
      refine V_iald X (gA_13_3) h23 (by decide) dX11_scripts_92 ?_
      obtain ⟨h24, h25, hw⟩ := hw
      refine V_icmp_eq (tgt := 102) X h24 h25 dX11_scripts_93 (by decide) (fun q26 => ?_) (fun q26 => ?_)
      · have hw := hw.1 q26
        exact wkj_X11_scripts_102 X hr hJ12 hJ53 hJ118 hw
      · have hw := hw.2 q26
        refine V_aload_n X dX11_scripts_96 rfl (q := 0) rfl ?_
        refine V_iconst X dX11_scripts_97 ?_
        refine V_iload_n X dX11_scripts_98 rfl (q := 1) rfl ?_
        refine V_callV_v X _ gO_13 rfl (As := [iv 1, iv x2]) (st := []) (c_X11_notes l hw) (cwV 2 X.2.2.2.1 gX11_scripts_X11_notes rfl rfl rfl (by decide +kernel) ⟨Nat.le_of_ble_eq_true rfl, Nat.le_of_ble_eq_true rfl⟩) rfl (Nat.le_of_ble_eq_true rfl) ⟨Nat.le_of_ble_eq_true rfl, Nat.le_of_ble_eq_true rfl⟩ rfl dX11_scripts_99 (fun M28 hw => ?_)
        exact wkj_X11_scripts_102 X hr hJ12 hJ53 hJ118 hw
set_option maxHeartbeats 4000000 in
set_option maxRecDepth 100000 in
theorem wkj_X11_scripts_45 {p : Program} {l : Launch} {e : Env} {s : State} {m : MethodId} {args : Array Value} {below : List Frame} {meth : Method} {c : Code} {D : va_G} {g : GT} {A : Nat → Prop} {a : Nat → Nat} {b : Nat → Nat → Nat} (X : vC p s m args meth c D g A RX11 wsX11_scripts cX11_scripts 4) (hr : meth.sig.returnType = none) {x2 : Int} {M : Mem} {J12 : Int → Mem → Prop} {J53 : Int → Mem → Prop} {J118 : Int → Mem → Prop} {Q : Mem → Prop} (hJ12 : ∀ (x2 : Int) (M : Mem), J12 x2 M → vV p l e ({ frames := 5, cells := 0, slots := 0, locals := 126 } : Room) s m args below meth c D g A a b 4 0 0 (MQ below (cQv D g A a b Q) args s 0 0 A) M [(0, .ref (a 13)), (2, iv x2)] 12 []) (hJ53 : ∀ (x2 : Int) (M : Mem), J53 x2 M → vV p l e ({ frames := 5, cells := 0, slots := 0, locals := 126 } : Room) s m args below meth c D g A a b 4 0 0 (MQ below (cQv D g A a b Q) args s 0 0 A) M [(0, .ref (a 13)), (2, iv x2)] 53 []) (hJ118 : ∀ (x2 : Int) (M : Mem), J118 x2 M → vV p l e ({ frames := 5, cells := 0, slots := 0, locals := 126 } : Room) s m args below meth c D g A a b 4 0 0 (MQ below (cQv D g A a b Q) args s 0 0 A) M [(0, .ref (a 13)), (2, iv x2)] 118 []) (hw : wpj_X11_scripts_45 x2 M J12 J53 J118 Q) : vV p l e ({ frames := 5, cells := 0, slots := 0, locals := 126 } : Room) s m args below meth c D g A a b 4 0 0 (MQ below (cQv D g A a b Q) args s 0 0 A) M [(0, .ref (a 13)), (2, iv x2)] 45 [] := by
  unfold wpj_X11_scripts_45 at hw
  refine V_iinc (lv1 := [(0, .ref (a 13)), (2, iv (x2 + 1))]) X [1, 0] dX11_scripts_45 (q := 1) rfl (by decide) rfl ?_
  refine V_goto (tgt := 12) X dX11_scripts_48 (by decide) ?_
  exact hJ12 _ _ hw
set_option maxHeartbeats 4000000 in
set_option maxRecDepth 100000 in
theorem wkh_X11_scripts_12 {p : Program} {l : Launch} {e : Env} {s : State} {m : MethodId} {args : Array Value} {below : List Frame} {meth : Method} {c : Code} {D : va_G} {g : GT} {A : Nat → Prop} {a : Nat → Nat} {b : Nat → Nat → Nat} (X : vC p s m args meth c D g A RX11 wsX11_scripts cX11_scripts 4) (hr : meth.sig.returnType = none) {x2 : Int} {M : Mem} {J12 : Int → Mem → Prop} {J53 : Int → Mem → Prop} {J118 : Int → Mem → Prop} {Q : Mem → Prop} (hJ12 : ∀ (x2 : Int) (M : Mem), J12 x2 M → vV p l e ({ frames := 5, cells := 0, slots := 0, locals := 126 } : Room) s m args below meth c D g A a b 4 0 0 (MQ below (cQv D g A a b Q) args s 0 0 A) M [(0, .ref (a 13)), (2, iv x2)] 12 []) (hJ53 : ∀ (x2 : Int) (M : Mem), J53 x2 M → vV p l e ({ frames := 5, cells := 0, slots := 0, locals := 126 } : Room) s m args below meth c D g A a b 4 0 0 (MQ below (cQv D g A a b Q) args s 0 0 A) M [(0, .ref (a 13)), (2, iv x2)] 53 []) (hJ118 : ∀ (x2 : Int) (M : Mem), J118 x2 M → vV p l e ({ frames := 5, cells := 0, slots := 0, locals := 126 } : Room) s m args below meth c D g A a b 4 0 0 (MQ below (cQv D g A a b Q) args s 0 0 A) M [(0, .ref (a 13)), (2, iv x2)] 118 []) (hw : wph_X11_scripts_12 x2 M J12 J53 J118 Q) : vV p l e ({ frames := 5, cells := 0, slots := 0, locals := 126 } : Room) s m args below meth c D g A a b 4 0 0 (MQ below (cQv D g A a b Q) args s 0 0 A) M [(0, .ref (a 13)), (2, iv x2)] 12 [] := by
  unfold wph_X11_scripts_12 at hw
  refine V_iload_n X dX11_scripts_12 rfl (q := 1) rfl ?_
  refine V_aload_n X dX11_scripts_13 rfl (q := 0) rfl ?_
  refine V_get (C := RX11) (T := TX11) (N := 24) (ci := 11) X hi_X11_scripts_11 gO_13 rfl 5 (by decide) lk_X11_scripts_f25 (fun _ h9 => h9) rfl dX11_scripts_14 ?_
  refine V_iconst X dX11_scripts_17 ?_
  refine V_iald X (gA_13_5) ⟨by decide, by decide⟩ (by decide) dX11_scripts_18 ?_
  obtain ⟨h4, h5, hw⟩ := hw
  refine V_icmp_ge (tgt := 51) X h4 h5 dX11_scripts_19 (by decide) (fun q6 => ?_) (fun q6 => ?_)
  · have hw := hw.1 q6
    refine V_iconst X dX11_scripts_51 ?_
    refine V_istore_n (lv1 := [(0, .ref (a 13)), (2, iv 0)]) X [1, 0] dX11_scripts_52 rfl (by decide) rfl ?_
    exact hJ53 _ _ hw
  · have hw := hw.2 q6
    refine V_aload_n X dX11_scripts_22 rfl (q := 0) rfl ?_
    refine V_iconst X dX11_scripts_23 ?_
    refine V_iload_n X dX11_scripts_24 rfl (q := 1) rfl ?_
    refine V_callV_i X _ gO_13 rfl (As := [iv 0, iv x2]) (st := []) (c_X11_byPostorder l hw) (cwV 2 X.2.2.2.1 gX11_scripts_X11_byPostorder rfl rfl rfl (by decide +kernel) ⟨Nat.le_of_ble_eq_true rfl, Nat.le_of_ble_eq_true rfl⟩) rfl (Nat.le_of_ble_eq_true rfl) ⟨Nat.le_of_ble_eq_true rfl, Nat.le_of_ble_eq_true rfl⟩ rfl dX11_scripts_25 (fun y7 M8 hw => ?_)
    refine V_istore_n (lv1 := [(0, .ref (a 13)), (2, iv x2), (3, iv y7)]) X [1, 2, 0] dX11_scripts_28 rfl (by decide) rfl ?_
    refine V_aload_n X dX11_scripts_29 rfl (q := 0) rfl ?_
    refine V_get (C := RX11) (T := TX11) (N := 24) (ci := 11) X hi_X11_scripts_11 gO_13 rfl 9 (by decide) lk_X11_scripts_f38 (fun _ h9 => h9) rfl dX11_scripts_30 ?_
    refine V_iload_n X dX11_scripts_33 rfl (q := 2) rfl ?_
    obtain ⟨h9, hw⟩ := hw
    refine V_iald X (gA_13_9) h9 (by decide) dX11_scripts_34 ?_
    refine V_iconst X dX11_scripts_35 ?_
    obtain ⟨h10, hw⟩ := hw
    refine V_icmp_ne (tgt := 45) X h10 ⟨by decide, by decide⟩ dX11_scripts_36 (by decide) (fun q11 => ?_) (fun q11 => ?_)
    · have hw := hw.1 q11
      refine V_sub (lv1 := [(0, .ref (a 13)), (2, iv x2)]) [0, 1] rfl ?_
      exact wkj_X11_scripts_45 X hr hJ12 hJ53 hJ118 hw
    · have hw := hw.2 q11
      refine V_aload_n X dX11_scripts_39 rfl (q := 0) rfl ?_
      refine V_iconst X dX11_scripts_40 ?_
      refine V_iload_n X dX11_scripts_41 rfl (q := 2) rfl ?_
      refine V_callV_v X _ gO_13 rfl (As := [iv 0, iv y7]) (st := []) (c_X11_notes l hw) (cwV 2 X.2.2.2.1 gX11_scripts_X11_notes rfl rfl rfl (by decide +kernel) ⟨Nat.le_of_ble_eq_true rfl, Nat.le_of_ble_eq_true rfl⟩) rfl (Nat.le_of_ble_eq_true rfl) ⟨Nat.le_of_ble_eq_true rfl, Nat.le_of_ble_eq_true rfl⟩ rfl dX11_scripts_42 (fun M13 hw => ?_)
      refine V_sub (lv1 := [(0, .ref (a 13)), (2, iv x2)]) [0, 1] rfl ?_
      exact wkj_X11_scripts_45 X hr hJ12 hJ53 hJ118 hw
set_option maxHeartbeats 4000000 in
set_option maxRecDepth 100000 in
theorem wke_X11_scripts {p : Program} {l : Launch} {e : Env} {s : State} {m : MethodId} {args : Array Value} {below : List Frame} {meth : Method} {c : Code} {D : va_G} {g : GT} {A : Nat → Prop} {a : Nat → Nat} {b : Nat → Nat → Nat} (X : vC p s m args meth c D g A RX11 wsX11_scripts cX11_scripts 4) (hr : meth.sig.returnType = none) {M : Mem} {J12 : Int → Mem → Prop} {J53 : Int → Mem → Prop} {J118 : Int → Mem → Prop} {Q : Mem → Prop} (hJ12 : ∀ (x2 : Int) (M : Mem), J12 x2 M → vV p l e ({ frames := 5, cells := 0, slots := 0, locals := 126 } : Room) s m args below meth c D g A a b 4 0 0 (MQ below (cQv D g A a b Q) args s 0 0 A) M [(0, .ref (a 13)), (2, iv x2)] 12 []) (hJ53 : ∀ (x2 : Int) (M : Mem), J53 x2 M → vV p l e ({ frames := 5, cells := 0, slots := 0, locals := 126 } : Room) s m args below meth c D g A a b 4 0 0 (MQ below (cQv D g A a b Q) args s 0 0 A) M [(0, .ref (a 13)), (2, iv x2)] 53 []) (hJ118 : ∀ (x2 : Int) (M : Mem), J118 x2 M → vV p l e ({ frames := 5, cells := 0, slots := 0, locals := 126 } : Room) s m args below meth c D g A a b 4 0 0 (MQ below (cQv D g A a b Q) args s 0 0 A) M [(0, .ref (a 13)), (2, iv x2)] 118 []) (hw : wpe_X11_scripts M J12 J53 J118 Q) : vV p l e ({ frames := 5, cells := 0, slots := 0, locals := 126 } : Room) s m args below meth c D g A a b 4 0 0 (MQ below (cQv D g A a b Q) args s 0 0 A) M [(0, .ref (a 13))] 0 [] := by
  unfold wpe_X11_scripts at hw
  refine V_aload_n X dX11_scripts_0 rfl (q := 0) rfl ?_
  refine V_callV_i X _ gO_13 rfl (As := []) (st := []) (c_X11_maps l hw) (cwV 0 X.2.2.2.1 gX11_scripts_X11_maps rfl rfl rfl (by decide +kernel) ⟨Nat.le_of_ble_eq_true rfl, Nat.le_of_ble_eq_true rfl⟩) rfl (Nat.le_of_ble_eq_true rfl) ⟨Nat.le_of_ble_eq_true rfl, Nat.le_of_ble_eq_true rfl⟩ rfl dX11_scripts_1 (fun y1 M2 hw => ?_)
  refine V_istore_n (lv1 := [(0, .ref (a 13)), (1, iv y1)]) X [1, 0] dX11_scripts_4 rfl (by decide) rfl ?_
  refine V_aload_n X dX11_scripts_5 rfl (q := 0) rfl ?_
  refine V_iconst X dX11_scripts_6 ?_
  refine V_put (C := RX11) (T := TX11) (N := 24) (ci := 11) X hi_X11_scripts_11 gO_13 rfl 16 (by decide) tyX11 tyX11_ok nmX11 rfl (tyX11_ok 16 (by decide)) (Or.inl rfl) (show 16 < 24 from by decide) sI_13_16 lk_X11_scripts_f169 (fun _ h9 => h9) dX11_scripts_7 (fun M3 eM3 => ?_)
  have hw := hw M3 eM3
  refine V_iconst X dX11_scripts_10 ?_
  refine V_istore_n (lv1 := [(0, .ref (a 13)), (1, iv y1), (2, iv 0)]) X [1, 2, 0] dX11_scripts_11 rfl (by decide) rfl ?_
  refine V_sub (lv1 := [(0, .ref (a 13)), (2, iv 0)]) [0, 2] rfl ?_
  exact hJ12 _ _ hw
set_option maxHeartbeats 4000000 in
set_option maxRecDepth 100000 in
theorem c_X11_scripts (l : Launch) {D : va_G} {g : GT} {A : Nat → Prop} {a : Nat → Nat} {b : Nat → Nat → Nat} {M : Mem} {Q : Mem → Prop} (hw : wp_X11_scripts M Q) : Met l yX11_scripts wsX11_scripts ({ frames := 5, cells := 0, slots := 0, locals := 126 } : Room) (cPc D g A a b M [.ref (a 13)]) (cQv D g A a b Q) 0 0 A := by
  refine Met.ofW (cc := cX11_scripts) (maxL := 4) (ret := none) (by decide) rfl ?_
  intro p e s m args below meth c s₁ B hml hv
  obtain ⟨rfl, hP, hD, hG⟩ := hv
  have X : vC p s m _ meth c D g A RX11 wsX11_scripts cX11_scripts 4 := ⟨B.exec, B.bytes, findClass_of_methodNamed B.named, atoms_spec (ws := wsX11_scripts) B.pre, hG, hml, B.notSynchronized⟩
  have hr := B.returns
  have hl := lv_entry ([.ref (a 13)]) (n := 4) (Nat.le_of_ble_eq_true rfl)
  rw [lg_entry_eq]
  generalize (lg_sl ([.ref (a 13)]) ++ List.replicate (4 - (lg_sl ([.ref (a 13)])).length) Slot.unset).toArray = ls at hl ⊢
  have hl : lv_has ls 4 [(0, .ref (a 13))] := hl
  obtain ⟨I12, I53, I118, hw, hI12, hI53, hI118⟩ := hw
  have K : ∀ n : Nat, (∀ (x2 : Int) (M : Mem), I12 n x2 M → vV p l e ({ frames := 5, cells := 0, slots := 0, locals := 126 } : Room) s m ([.ref (a 13)] : List Value).toArray below meth c D g A a b 4 0 0 (MQ below (cQv D g A a b Q) ([.ref (a 13)] : List Value).toArray s 0 0 A) M [(0, .ref (a 13)), (2, iv x2)] 12 []) ∧ (∀ (x2 : Int) (M : Mem), I53 n x2 M → vV p l e ({ frames := 5, cells := 0, slots := 0, locals := 126 } : Room) s m ([.ref (a 13)] : List Value).toArray below meth c D g A a b 4 0 0 (MQ below (cQv D g A a b Q) ([.ref (a 13)] : List Value).toArray s 0 0 A) M [(0, .ref (a 13)), (2, iv x2)] 53 []) ∧ (∀ (x2 : Int) (M : Mem), I118 n x2 M → vV p l e ({ frames := 5, cells := 0, slots := 0, locals := 126 } : Room) s m ([.ref (a 13)] : List Value).toArray below meth c D g A a b 4 0 0 (MQ below (cQv D g A a b Q) ([.ref (a 13)] : List Value).toArray s 0 0 A) M [(0, .ref (a 13)), (2, iv x2)] 118 []) := by
    intro n
    induction n using Nat.strongRecOn with
    | ind n ih =>
      exact ⟨fun x2 M hh => wkh_X11_scripts_12 X hr (fun _ _ ⟨n1, hn, hh⟩ => (ih n1 hn).1 _ _ hh) (fun _ _ ⟨n1, hn, hh⟩ => (ih n1 hn).2.1 _ _ hh) (fun _ _ ⟨n1, hn, hh⟩ => (ih n1 hn).2.2 _ _ hh) (hI12 n x2 M hh), fun x2 M hh => wkh_X11_scripts_53 X hr (fun _ _ ⟨n1, hn, hh⟩ => (ih n1 hn).1 _ _ hh) (fun _ _ ⟨n1, hn, hh⟩ => (ih n1 hn).2.1 _ _ hh) (fun _ _ ⟨n1, hn, hh⟩ => (ih n1 hn).2.2 _ _ hh) (hI53 n x2 M hh), fun x2 M hh => wkh_X11_scripts_118 X hr (fun _ _ ⟨n1, hn, hh⟩ => (ih n1 hn).1 _ _ hh) (fun _ _ ⟨n1, hn, hh⟩ => (ih n1 hn).2.1 _ _ hh) (fun _ _ ⟨n1, hn, hh⟩ => (ih n1 hn).2.2 _ _ hh) (hI118 n x2 M hh)⟩
  exact wke_X11_scripts X hr  (fun _ _ ⟨n1, hh⟩ => (K n1).1 _ _ hh) (fun _ _ ⟨n1, hh⟩ => (K n1).2.1 _ _ hh) (fun _ _ ⟨n1, hh⟩ => (K n1).2.2 _ _ hh) hw s.heap [] ls hP hD va_S.rf hl

set_option maxRecDepth 20000 in
theorem ggX11_steps_X11_scripts : GoodIn wsX11_steps wsX11_scripts := goodIn_r _ [7, 2, 8, 9, 10, 11, 12, 13, 14, 15, 6, 16, 17, 18, 19, 20, 21, 22, 23, 24, 25, 26, 27, 28, 29, 30, 31, 32, 33, 34, 35, 36, 37, 38, 39, 40, 41, 42, 43, 44, 45, 46, 47, 48, 49, 50, 51, 52, 53, 54, 55, 56, 57, 58, 59, 60, 61, 62, 63, 64, 65, 66, 67, 68, 69, 70, 71, 72, 73, 74, 75, 76, 77, 78, 79, 80, 81, 82, 83, 84, 85, 86, 87, 88, 89, 90, 91, 92, 93, 94, 95, 96, 97, 98, 99, 100, 101, 102, 103] (by decide +kernel) (by decide +kernel)
set_option maxRecDepth 20000 in
theorem gX11_steps_X11_scripts : GoodIn wsX11_steps (wsV RX11 179 RX11 yX11_scripts wsX11_scripts) := goodIn_app (goodIn_of _ (by decide +kernel)) ggX11_steps_X11_scripts
theorem dX11_steps_0 : decode cX11_steps 0 = .ok (.aload_n 0, 1) := by decide +kernel
theorem dX11_steps_1 : decode cX11_steps 1 = .ok (.iconst 0, 1) := by decide +kernel
theorem dX11_steps_2 : decode cX11_steps 2 = .ok (.putfield 72, 3) := by decide +kernel
theorem dX11_steps_5 : decode cX11_steps 5 = .ok (.aload_n 0, 1) := by decide +kernel
theorem dX11_steps_6 : decode cX11_steps 6 = .ok (.invokevirtual 179, 3) := by decide +kernel
theorem dX11_steps_9 : decode cX11_steps 9 = .ok (.aload_n 0, 1) := by decide +kernel
theorem dX11_steps_10 : decode cX11_steps 10 = .ok (.getfield 169, 3) := by decide +kernel
theorem dX11_steps_13 : decode cX11_steps 13 = .ok (.ireturn, 1) := by decide +kernel
theorem lk_X11_steps_f72 : Cond.fieldLink RX11 72 "TreeComparerModel" "thrown" "I" ∈ wsX11_steps := by decide +kernel
theorem hi_X11_steps_11 : ∀ w ∈ u_ws RX11 TX11 24, w ∈ wsX11_steps := by decide +kernel
theorem lk_X11_steps_f169 : Cond.fieldLink RX11 169 "TreeComparerModel" "steps" "I" ∈ wsX11_steps := by decide +kernel
def wpe_X11_steps (M : Mem) (Q : Int → Mem → Prop) : Prop := (∀ M1 : Mem, M1 = mset M 13 23 0 0 → wp_X11_scripts M1 (fun M3 => Q ((M3 13 16 0)) M3))
def wp_X11_steps (M : Mem) (Q : Int → Mem → Prop) : Prop := wpe_X11_steps M Q
set_option maxHeartbeats 4000000 in
set_option maxRecDepth 100000 in
theorem wke_X11_steps {p : Program} {l : Launch} {e : Env} {s : State} {m : MethodId} {args : Array Value} {below : List Frame} {meth : Method} {c : Code} {D : va_G} {g : GT} {A : Nat → Prop} {a : Nat → Nat} {b : Nat → Nat → Nat} (X : vC p s m args meth c D g A RX11 wsX11_steps cX11_steps 1) (hr : meth.sig.returnType = (some .int)) {M : Mem} {Q : Int → Mem → Prop} (hw : wpe_X11_steps M Q) : vV p l e ({ frames := 6, cells := 0, slots := 0, locals := 149 } : Room) s m args below meth c D g A a b 1 0 0 (MQ below (cQi D g A a b Q) args s 0 0 A) M [(0, .ref (a 13))] 0 [] := by
  unfold wpe_X11_steps at hw
  refine V_aload_n X dX11_steps_0 rfl (q := 0) rfl ?_
  refine V_iconst X dX11_steps_1 ?_
  refine V_put (C := RX11) (T := TX11) (N := 24) (ci := 11) X hi_X11_steps_11 gO_13 rfl 23 (by decide) tyX11 tyX11_ok nmX11 rfl (tyX11_ok 23 (by decide)) (Or.inl rfl) (show 23 < 24 from by decide) sI_13_23 lk_X11_steps_f72 (fun _ h9 => h9) dX11_steps_2 (fun M1 eM1 => ?_)
  have hw := hw M1 eM1
  refine V_aload_n X dX11_steps_5 rfl (q := 0) rfl ?_
  refine V_callV_v X _ gO_13 rfl (As := []) (st := []) (c_X11_scripts l hw) (cwV 0 X.2.2.2.1 gX11_steps_X11_scripts rfl rfl rfl (by decide +kernel) ⟨Nat.le_of_ble_eq_true rfl, Nat.le_of_ble_eq_true rfl⟩) rfl (Nat.le_of_ble_eq_true rfl) ⟨Nat.le_of_ble_eq_true rfl, Nat.le_of_ble_eq_true rfl⟩ rfl dX11_steps_6 (fun M3 hw => ?_)
  refine V_aload_n X dX11_steps_9 rfl (q := 0) rfl ?_
  refine V_get (C := RX11) (T := TX11) (N := 24) (ci := 11) X hi_X11_steps_11 gO_13 rfl 16 (by decide) lk_X11_steps_f169 (fun _ h9 => h9) rfl dX11_steps_10 ?_
  exact V_iret X hr hw dX11_steps_13
set_option maxHeartbeats 4000000 in
set_option maxRecDepth 100000 in
theorem c_X11_steps (l : Launch) {D : va_G} {g : GT} {A : Nat → Prop} {a : Nat → Nat} {b : Nat → Nat → Nat} {M : Mem} {Q : Int → Mem → Prop} (hw : wp_X11_steps M Q) : Met l yX11_steps wsX11_steps ({ frames := 6, cells := 0, slots := 0, locals := 149 } : Room) (cPc D g A a b M [.ref (a 13)]) (cQi D g A a b Q) 0 0 A := by
  refine Met.ofW (cc := cX11_steps) (maxL := 1) (ret := (some .int)) (by decide) rfl ?_
  intro p e s m args below meth c s₁ B hml hv
  obtain ⟨rfl, hP, hD, hG⟩ := hv
  have X : vC p s m _ meth c D g A RX11 wsX11_steps cX11_steps 1 := ⟨B.exec, B.bytes, findClass_of_methodNamed B.named, atoms_spec (ws := wsX11_steps) B.pre, hG, hml, B.notSynchronized⟩
  have hr := B.returns
  have hl := lv_entry ([.ref (a 13)]) (n := 1) (Nat.le_of_ble_eq_true rfl)
  rw [lg_entry_eq]
  generalize (lg_sl ([.ref (a 13)]) ++ List.replicate (1 - (lg_sl ([.ref (a 13)])).length) Slot.unset).toArray = ls at hl ⊢
  have hl : lv_has ls 1 [(0, .ref (a 13))] := hl
  exact wke_X11_steps X hr  hw s.heap [] ls hP hD va_S.rf hl

set_option maxRecDepth 20000 in
theorem ggX11_deletingAll_X11_priceOf : GoodIn wsX11_deletingAll wsX11_priceOf := goodIn_r _ [5, 6, 7, 8, 9, 10, 11, 12, 13, 14, 15, 16, 17, 18, 19, 20, 21, 22, 23, 24, 25, 26, 27, 28, 29, 30, 31] (by decide +kernel) (by decide +kernel)
set_option maxRecDepth 20000 in
theorem gX11_deletingAll_X11_priceOf : GoodIn wsX11_deletingAll (wsV RX11 83 RX11 yX11_priceOf wsX11_priceOf) := goodIn_app (goodIn_of _ (by decide +kernel)) ggX11_deletingAll_X11_priceOf
theorem dX11_deletingAll_0 : decode cX11_deletingAll 0 = .ok (.iconst 0, 1) := by decide +kernel
theorem dX11_deletingAll_1 : decode cX11_deletingAll 1 = .ok (.istore_n 3, 1) := by decide +kernel
theorem dX11_deletingAll_2 : decode cX11_deletingAll 2 = .ok (.iload_n 1, 1) := by decide +kernel
theorem dX11_deletingAll_3 : decode cX11_deletingAll 3 = .ok (.istore 4, 2) := by decide +kernel
theorem dX11_deletingAll_5 : decode cX11_deletingAll 5 = .ok (.iload 4, 2) := by decide +kernel
theorem dX11_deletingAll_7 : decode cX11_deletingAll 7 = .ok (.iload_n 2, 1) := by decide +kernel
theorem dX11_deletingAll_8 : decode cX11_deletingAll 8 = .ok (.if_icmp .ge 20, 3) := by decide +kernel
theorem dX11_deletingAll_11 : decode cX11_deletingAll 11 = .ok (.iload_n 3, 1) := by decide +kernel
theorem dX11_deletingAll_12 : decode cX11_deletingAll 12 = .ok (.aload_n 0, 1) := by decide +kernel
theorem dX11_deletingAll_13 : decode cX11_deletingAll 13 = .ok (.iconst 0, 1) := by decide +kernel
theorem dX11_deletingAll_14 : decode cX11_deletingAll 14 = .ok (.iload 4, 2) := by decide +kernel
theorem dX11_deletingAll_16 : decode cX11_deletingAll 16 = .ok (.iconst 1, 1) := by decide +kernel
theorem dX11_deletingAll_17 : decode cX11_deletingAll 17 = .ok (.invokevirtual 83, 3) := by decide +kernel
theorem dX11_deletingAll_20 : decode cX11_deletingAll 20 = .ok (.iadd, 1) := by decide +kernel
theorem dX11_deletingAll_21 : decode cX11_deletingAll 21 = .ok (.istore_n 3, 1) := by decide +kernel
theorem dX11_deletingAll_22 : decode cX11_deletingAll 22 = .ok (.iinc 4 1, 3) := by decide +kernel
theorem dX11_deletingAll_25 : decode cX11_deletingAll 25 = .ok (.goto (-20), 3) := by decide +kernel
theorem dX11_deletingAll_28 : decode cX11_deletingAll 28 = .ok (.iload_n 3, 1) := by decide +kernel
theorem dX11_deletingAll_29 : decode cX11_deletingAll 29 = .ok (.ireturn, 1) := by decide +kernel
def wph_X11_deletingAll_5 (p0 : Int) (p1 : Int) (x3 : Int) (x4 : Int) (M : Mem) (J5 : Int → Int → Mem → Prop) (Q : Int → Mem → Prop) : Prop := inR x4 ∧ inR p1 ∧ ((p1 ≤ x4 → Q x3 M) ∧ (¬ (p1 ≤ x4) → wp_X11_priceOf M 0 x4 1 (fun y4 M5 => (∀ y6 : Int, y6 = x3 + y4 → J5 y6 (x4 + 1) M5))))
def wpe_X11_deletingAll (p0 : Int) (p1 : Int) (M : Mem) (J5 : Int → Int → Mem → Prop) (Q : Int → Mem → Prop) : Prop := J5 0 p0 M
def wp_X11_deletingAll (M : Mem) (p0 : Int) (p1 : Int) (Q : Int → Mem → Prop) : Prop := ∃ (I5 : Nat → Int → Int → Mem → Prop), wpe_X11_deletingAll p0 p1 M (fun (x3 : Int) (x4 : Int) (M1 : Mem) => ∃ n1 : Nat, I5 n1 x3 x4 M1) Q ∧ (∀ (n : Nat) (x3 : Int) (x4 : Int) (M : Mem), I5 n x3 x4 M → wph_X11_deletingAll_5 p0 p1 x3 x4 M (fun (x3 : Int) (x4 : Int) (M1 : Mem) => ∃ n1 : Nat, n1 < n ∧ I5 n1 x3 x4 M1) Q)
set_option maxHeartbeats 4000000 in
set_option maxRecDepth 100000 in
theorem wkh_X11_deletingAll_5 {p : Program} {l : Launch} {e : Env} {s : State} {m : MethodId} {args : Array Value} {below : List Frame} {meth : Method} {c : Code} {D : va_G} {g : GT} {A : Nat → Prop} {a : Nat → Nat} {b : Nat → Nat → Nat} (X : vC p s m args meth c D g A RX11 wsX11_deletingAll cX11_deletingAll 5) (hr : meth.sig.returnType = (some .int)) {p0 : Int} {p1 : Int} {x3 : Int} {x4 : Int} {M : Mem} {J5 : Int → Int → Mem → Prop} {Q : Int → Mem → Prop} (hJ5 : ∀ (x3 : Int) (x4 : Int) (M : Mem), J5 x3 x4 M → vV p l e ({ frames := 1, cells := 0, slots := 0, locals := 23 } : Room) s m args below meth c D g A a b 5 0 0 (MQ below (cQi D g A a b Q) args s 0 0 A) M [(0, .ref (a 13)), (2, iv p1), (3, iv x3), (4, iv x4)] 5 []) (hw : wph_X11_deletingAll_5 p0 p1 x3 x4 M J5 Q) : vV p l e ({ frames := 1, cells := 0, slots := 0, locals := 23 } : Room) s m args below meth c D g A a b 5 0 0 (MQ below (cQi D g A a b Q) args s 0 0 A) M [(0, .ref (a 13)), (2, iv p1), (3, iv x3), (4, iv x4)] 5 [] := by
  unfold wph_X11_deletingAll_5 at hw
  refine V_iload X dX11_deletingAll_5 (q := 3) rfl ?_
  refine V_iload_n X dX11_deletingAll_7 rfl (q := 1) rfl ?_
  obtain ⟨h1, h2, hw⟩ := hw
  refine V_icmp_ge (tgt := 28) X h1 h2 dX11_deletingAll_8 (by decide) (fun q3 => ?_) (fun q3 => ?_)
  · have hw := hw.1 q3
    refine V_iload_n X dX11_deletingAll_28 rfl (q := 2) rfl ?_
    exact V_iret X hr hw dX11_deletingAll_29
  · have hw := hw.2 q3
    refine V_iload_n X dX11_deletingAll_11 rfl (q := 2) rfl ?_
    refine V_aload_n X dX11_deletingAll_12 rfl (q := 0) rfl ?_
    refine V_iconst X dX11_deletingAll_13 ?_
    refine V_iload X dX11_deletingAll_14 (q := 3) rfl ?_
    refine V_iconst X dX11_deletingAll_16 ?_
    refine V_callV_i X _ gO_13 rfl (As := [iv 0, iv x4, iv 1]) (st := [iv x3]) (c_X11_priceOf l hw) (cwV 3 X.2.2.2.1 gX11_deletingAll_X11_priceOf rfl rfl rfl (by decide +kernel) ⟨Nat.le_of_ble_eq_true rfl, Nat.le_of_ble_eq_true rfl⟩) rfl (Nat.le_of_ble_eq_true rfl) ⟨Nat.le_of_ble_eq_true rfl, Nat.le_of_ble_eq_true rfl⟩ rfl dX11_deletingAll_17 (fun y4 M5 hw => ?_)
    refine V_iadd X dX11_deletingAll_20 ?_
    refine V_top (fun y6 ey6 => ?_)
    have hw := hw y6 ey6
    refine V_istore_n (lv1 := [(0, .ref (a 13)), (2, iv p1), (3, iv y6), (4, iv x4)]) X [1, 2, 0, 3] dX11_deletingAll_21 rfl (by decide) rfl ?_
    refine V_iinc (lv1 := [(0, .ref (a 13)), (2, iv p1), (3, iv y6), (4, iv (x4 + 1))]) X [1, 2, 3, 0] dX11_deletingAll_22 (q := 3) rfl (by decide) rfl ?_
    refine V_goto (tgt := 5) X dX11_deletingAll_25 (by decide) ?_
    exact hJ5 _ _ _ hw
set_option maxHeartbeats 4000000 in
set_option maxRecDepth 100000 in
theorem wke_X11_deletingAll {p : Program} {l : Launch} {e : Env} {s : State} {m : MethodId} {args : Array Value} {below : List Frame} {meth : Method} {c : Code} {D : va_G} {g : GT} {A : Nat → Prop} {a : Nat → Nat} {b : Nat → Nat → Nat} (X : vC p s m args meth c D g A RX11 wsX11_deletingAll cX11_deletingAll 5) (hr : meth.sig.returnType = (some .int)) {p0 : Int} {p1 : Int} {M : Mem} {J5 : Int → Int → Mem → Prop} {Q : Int → Mem → Prop} (hJ5 : ∀ (x3 : Int) (x4 : Int) (M : Mem), J5 x3 x4 M → vV p l e ({ frames := 1, cells := 0, slots := 0, locals := 23 } : Room) s m args below meth c D g A a b 5 0 0 (MQ below (cQi D g A a b Q) args s 0 0 A) M [(0, .ref (a 13)), (2, iv p1), (3, iv x3), (4, iv x4)] 5 []) (hw : wpe_X11_deletingAll p0 p1 M J5 Q) : vV p l e ({ frames := 1, cells := 0, slots := 0, locals := 23 } : Room) s m args below meth c D g A a b 5 0 0 (MQ below (cQi D g A a b Q) args s 0 0 A) M [(0, .ref (a 13)), (1, iv p0), (2, iv p1)] 0 [] := by
  unfold wpe_X11_deletingAll at hw
  refine V_iconst X dX11_deletingAll_0 ?_
  refine V_istore_n (lv1 := [(0, .ref (a 13)), (1, iv p0), (2, iv p1), (3, iv 0)]) X [1, 2, 3, 0] dX11_deletingAll_1 rfl (by decide) rfl ?_
  refine V_iload_n X dX11_deletingAll_2 rfl (q := 1) rfl ?_
  refine V_istore (lv1 := [(0, .ref (a 13)), (1, iv p0), (2, iv p1), (3, iv 0), (4, iv p0)]) X [1, 2, 3, 4, 0] dX11_deletingAll_3 (by decide) rfl ?_
  refine V_sub (lv1 := [(0, .ref (a 13)), (2, iv p1), (3, iv 0), (4, iv p0)]) [0, 2, 3, 4] rfl ?_
  exact hJ5 _ _ _ hw
set_option maxHeartbeats 4000000 in
set_option maxRecDepth 100000 in
theorem c_X11_deletingAll (l : Launch) {p0 : Int} {p1 : Int} {D : va_G} {g : GT} {A : Nat → Prop} {a : Nat → Nat} {b : Nat → Nat → Nat} {M : Mem} {Q : Int → Mem → Prop} (hw : wp_X11_deletingAll M p0 p1 Q) : Met l yX11_deletingAll wsX11_deletingAll ({ frames := 1, cells := 0, slots := 0, locals := 23 } : Room) (cPc D g A a b M [.ref (a 13), iv p0, iv p1]) (cQi D g A a b Q) 0 0 A := by
  refine Met.ofW (cc := cX11_deletingAll) (maxL := 5) (ret := (some .int)) (by decide) rfl ?_
  intro p e s m args below meth c s₁ B hml hv
  obtain ⟨rfl, hP, hD, hG⟩ := hv
  have X : vC p s m _ meth c D g A RX11 wsX11_deletingAll cX11_deletingAll 5 := ⟨B.exec, B.bytes, findClass_of_methodNamed B.named, atoms_spec (ws := wsX11_deletingAll) B.pre, hG, hml, B.notSynchronized⟩
  have hr := B.returns
  have hl := lv_entry ([.ref (a 13), iv p0, iv p1]) (n := 5) (Nat.le_of_ble_eq_true rfl)
  rw [lg_entry_eq]
  generalize (lg_sl ([.ref (a 13), iv p0, iv p1]) ++ List.replicate (5 - (lg_sl ([.ref (a 13), iv p0, iv p1])).length) Slot.unset).toArray = ls at hl ⊢
  have hl : lv_has ls 5 [(0, .ref (a 13)), (1, iv p0), (2, iv p1)] := hl
  obtain ⟨I5, hw, hI5⟩ := hw
  have K : ∀ n : Nat, (∀ (x3 : Int) (x4 : Int) (M : Mem), I5 n x3 x4 M → vV p l e ({ frames := 1, cells := 0, slots := 0, locals := 23 } : Room) s m ([.ref (a 13), iv p0, iv p1] : List Value).toArray below meth c D g A a b 5 0 0 (MQ below (cQi D g A a b Q) ([.ref (a 13), iv p0, iv p1] : List Value).toArray s 0 0 A) M [(0, .ref (a 13)), (2, iv p1), (3, iv x3), (4, iv x4)] 5 []) := by
    intro n
    induction n using Nat.strongRecOn with
    | ind n ih =>
      exact fun x3 x4 M hh => wkh_X11_deletingAll_5 X hr (fun _ _ _ ⟨n1, hn, hh⟩ => (ih n1 hn) _ _ _ hh) (hI5 n x3 x4 M hh)
  exact wke_X11_deletingAll X hr  (fun _ _ _ ⟨n1, hh⟩ => (K n1) _ _ _ hh) hw s.heap [] ls hP hD va_S.rf hl

theorem dX11_isSame_0 : decode cX11_isSame 0 = .ok (.aload_n 0, 1) := by decide +kernel
theorem dX11_isSame_1 : decode cX11_isSame 1 = .ok (.getfield 22, 3) := by decide +kernel
theorem dX11_isSame_4 : decode cX11_isSame 4 = .ok (.iload_n 1, 1) := by decide +kernel
theorem dX11_isSame_5 : decode cX11_isSame 5 = .ok (.iaload, 1) := by decide +kernel
theorem dX11_isSame_6 : decode cX11_isSame 6 = .ok (.aload_n 0, 1) := by decide +kernel
theorem dX11_isSame_7 : decode cX11_isSame 7 = .ok (.getfield 22, 3) := by decide +kernel
theorem dX11_isSame_10 : decode cX11_isSame 10 = .ok (.iload_n 2, 1) := by decide +kernel
theorem dX11_isSame_11 : decode cX11_isSame 11 = .ok (.iaload, 1) := by decide +kernel
theorem dX11_isSame_12 : decode cX11_isSame 12 = .ok (.if_icmp .ne 7, 3) := by decide +kernel
theorem dX11_isSame_15 : decode cX11_isSame 15 = .ok (.iconst 1, 1) := by decide +kernel
theorem dX11_isSame_16 : decode cX11_isSame 16 = .ok (.goto 4, 3) := by decide +kernel
theorem dX11_isSame_19 : decode cX11_isSame 19 = .ok (.iconst 0, 1) := by decide +kernel
theorem dX11_isSame_20 : decode cX11_isSame 20 = .ok (.istore_n 3, 1) := by decide +kernel
theorem dX11_isSame_21 : decode cX11_isSame 21 = .ok (.iconst 0, 1) := by decide +kernel
theorem dX11_isSame_22 : decode cX11_isSame 22 = .ok (.istore 4, 2) := by decide +kernel
theorem dX11_isSame_24 : decode cX11_isSame 24 = .ok (.iload 4, 2) := by decide +kernel
theorem dX11_isSame_26 : decode cX11_isSame 26 = .ok (.aload_n 0, 1) := by decide +kernel
theorem dX11_isSame_27 : decode cX11_isSame 27 = .ok (.getfield 22, 3) := by decide +kernel
theorem dX11_isSame_30 : decode cX11_isSame 30 = .ok (.iload_n 1, 1) := by decide +kernel
theorem dX11_isSame_31 : decode cX11_isSame 31 = .ok (.iaload, 1) := by decide +kernel
theorem dX11_isSame_32 : decode cX11_isSame 32 = .ok (.if_icmp .ge 96, 3) := by decide +kernel
theorem dX11_isSame_35 : decode cX11_isSame 35 = .ok (.iload_n 3, 1) := by decide +kernel
theorem dX11_isSame_36 : decode cX11_isSame 36 = .ok (.ifCond .eq 92, 3) := by decide +kernel
theorem dX11_isSame_39 : decode cX11_isSame 39 = .ok (.aload_n 0, 1) := by decide +kernel
theorem dX11_isSame_40 : decode cX11_isSame 40 = .ok (.getfield 16, 3) := by decide +kernel
theorem dX11_isSame_43 : decode cX11_isSame 43 = .ok (.iload_n 1, 1) := by decide +kernel
theorem dX11_isSame_44 : decode cX11_isSame 44 = .ok (.iload 4, 2) := by decide +kernel
theorem dX11_isSame_46 : decode cX11_isSame 46 = .ok (.iadd, 1) := by decide +kernel
theorem dX11_isSame_47 : decode cX11_isSame 47 = .ok (.iaload, 1) := by decide +kernel
theorem dX11_isSame_48 : decode cX11_isSame 48 = .ok (.aload_n 0, 1) := by decide +kernel
theorem dX11_isSame_49 : decode cX11_isSame 49 = .ok (.getfield 16, 3) := by decide +kernel
theorem dX11_isSame_52 : decode cX11_isSame 52 = .ok (.iload_n 2, 1) := by decide +kernel
theorem dX11_isSame_53 : decode cX11_isSame 53 = .ok (.iload 4, 2) := by decide +kernel
theorem dX11_isSame_55 : decode cX11_isSame 55 = .ok (.iadd, 1) := by decide +kernel
theorem dX11_isSame_56 : decode cX11_isSame 56 = .ok (.iaload, 1) := by decide +kernel
theorem dX11_isSame_57 : decode cX11_isSame 57 = .ok (.if_icmp .ne 63, 3) := by decide +kernel
theorem dX11_isSame_60 : decode cX11_isSame 60 = .ok (.aload_n 0, 1) := by decide +kernel
theorem dX11_isSame_61 : decode cX11_isSame 61 = .ok (.getfield 19, 3) := by decide +kernel
theorem dX11_isSame_64 : decode cX11_isSame 64 = .ok (.iload_n 1, 1) := by decide +kernel
theorem dX11_isSame_65 : decode cX11_isSame 65 = .ok (.iload 4, 2) := by decide +kernel
theorem dX11_isSame_67 : decode cX11_isSame 67 = .ok (.iadd, 1) := by decide +kernel
theorem dX11_isSame_68 : decode cX11_isSame 68 = .ok (.iaload, 1) := by decide +kernel
theorem dX11_isSame_69 : decode cX11_isSame 69 = .ok (.aload_n 0, 1) := by decide +kernel
theorem dX11_isSame_70 : decode cX11_isSame 70 = .ok (.getfield 19, 3) := by decide +kernel
theorem dX11_isSame_73 : decode cX11_isSame 73 = .ok (.iload_n 2, 1) := by decide +kernel
theorem dX11_isSame_74 : decode cX11_isSame 74 = .ok (.iload 4, 2) := by decide +kernel
theorem dX11_isSame_76 : decode cX11_isSame 76 = .ok (.iadd, 1) := by decide +kernel
theorem dX11_isSame_77 : decode cX11_isSame 77 = .ok (.iaload, 1) := by decide +kernel
theorem dX11_isSame_78 : decode cX11_isSame 78 = .ok (.if_icmp .ne 42, 3) := by decide +kernel
theorem dX11_isSame_81 : decode cX11_isSame 81 = .ok (.aload_n 0, 1) := by decide +kernel
theorem dX11_isSame_82 : decode cX11_isSame 82 = .ok (.getfield 13, 3) := by decide +kernel
theorem dX11_isSame_85 : decode cX11_isSame 85 = .ok (.iload_n 1, 1) := by decide +kernel
theorem dX11_isSame_86 : decode cX11_isSame 86 = .ok (.iload 4, 2) := by decide +kernel
theorem dX11_isSame_88 : decode cX11_isSame 88 = .ok (.iadd, 1) := by decide +kernel
theorem dX11_isSame_89 : decode cX11_isSame 89 = .ok (.iaload, 1) := by decide +kernel
theorem dX11_isSame_90 : decode cX11_isSame 90 = .ok (.aload_n 0, 1) := by decide +kernel
theorem dX11_isSame_91 : decode cX11_isSame 91 = .ok (.getfield 13, 3) := by decide +kernel
theorem dX11_isSame_94 : decode cX11_isSame 94 = .ok (.iload_n 1, 1) := by decide +kernel
theorem dX11_isSame_95 : decode cX11_isSame 95 = .ok (.iaload, 1) := by decide +kernel
theorem dX11_isSame_96 : decode cX11_isSame 96 = .ok (.isub, 1) := by decide +kernel
theorem dX11_isSame_97 : decode cX11_isSame 97 = .ok (.aload_n 0, 1) := by decide +kernel
theorem dX11_isSame_98 : decode cX11_isSame 98 = .ok (.getfield 13, 3) := by decide +kernel
theorem dX11_isSame_101 : decode cX11_isSame 101 = .ok (.iload_n 2, 1) := by decide +kernel
theorem dX11_isSame_102 : decode cX11_isSame 102 = .ok (.iload 4, 2) := by decide +kernel
theorem dX11_isSame_104 : decode cX11_isSame 104 = .ok (.iadd, 1) := by decide +kernel
theorem dX11_isSame_105 : decode cX11_isSame 105 = .ok (.iaload, 1) := by decide +kernel
theorem dX11_isSame_106 : decode cX11_isSame 106 = .ok (.aload_n 0, 1) := by decide +kernel
theorem dX11_isSame_107 : decode cX11_isSame 107 = .ok (.getfield 13, 3) := by decide +kernel
theorem dX11_isSame_110 : decode cX11_isSame 110 = .ok (.iload_n 2, 1) := by decide +kernel
theorem dX11_isSame_111 : decode cX11_isSame 111 = .ok (.iaload, 1) := by decide +kernel
theorem dX11_isSame_112 : decode cX11_isSame 112 = .ok (.isub, 1) := by decide +kernel
theorem dX11_isSame_113 : decode cX11_isSame 113 = .ok (.if_icmp .ne 7, 3) := by decide +kernel
theorem dX11_isSame_116 : decode cX11_isSame 116 = .ok (.iconst 1, 1) := by decide +kernel
theorem dX11_isSame_117 : decode cX11_isSame 117 = .ok (.goto 4, 3) := by decide +kernel
theorem dX11_isSame_120 : decode cX11_isSame 120 = .ok (.iconst 0, 1) := by decide +kernel
theorem dX11_isSame_121 : decode cX11_isSame 121 = .ok (.istore_n 3, 1) := by decide +kernel
theorem dX11_isSame_122 : decode cX11_isSame 122 = .ok (.iinc 4 1, 3) := by decide +kernel
theorem dX11_isSame_125 : decode cX11_isSame 125 = .ok (.goto (-101), 3) := by decide +kernel
theorem dX11_isSame_128 : decode cX11_isSame 128 = .ok (.iload_n 3, 1) := by decide +kernel
theorem dX11_isSame_129 : decode cX11_isSame 129 = .ok (.ireturn, 1) := by decide +kernel
theorem lk_X11_isSame_f22 : Cond.fieldLink RX11 22 "TreeComparerModel" "size" "[I" ∈ wsX11_isSame := by decide +kernel
theorem hi_X11_isSame_11 : ∀ w ∈ u_ws RX11 TX11 24, w ∈ wsX11_isSame := by decide +kernel
theorem lk_X11_isSame_f16 : Cond.fieldLink RX11 16 "TreeComparerModel" "kind" "[I" ∈ wsX11_isSame := by decide +kernel
theorem lk_X11_isSame_f19 : Cond.fieldLink RX11 19 "TreeComparerModel" "label" "[I" ∈ wsX11_isSame := by decide +kernel
theorem lk_X11_isSame_f13 : Cond.fieldLink RX11 13 "TreeComparerModel" "level" "[I" ∈ wsX11_isSame := by decide +kernel
def wpj_X11_isSame_121 (p0 : Int) (p1 : Int) (x4 : Int) (s0 : Int) (M : Mem) (J24 : Int → Int → Mem → Prop) (Q : Int → Mem → Prop) : Prop := J24 s0 (x4 + 1) M
def wpj_X11_isSame_120 (p0 : Int) (p1 : Int) (x4 : Int) (M : Mem) (J24 : Int → Int → Mem → Prop) (Q : Int → Mem → Prop) : Prop := wpj_X11_isSame_121 p0 p1 x4 0 M J24 Q
def wph_X11_isSame_24 (p0 : Int) (p1 : Int) (x3 : Int) (x4 : Int) (M : Mem) (J24 : Int → Int → Mem → Prop) (Q : Int → Mem → Prop) : Prop := ((0 : Int) ≤ p0 ∧ p0 < 24) ∧ inR x4 ∧ inR (M 13 4 p0.toNat) ∧ (((M 13 4 p0.toNat) ≤ x4 → (x3 = 0 ∨ x3 = 1) ∧ Q x3 M) ∧ (¬ ((M 13 4 p0.toNat) ≤ x4) → inR x3 ∧ ((x3 = 0 → (x3 = 0 ∨ x3 = 1) ∧ Q x3 M) ∧ (¬ (x3 = 0) → ((0 : Int) ≤ p0 + x4 ∧ p0 + x4 < 24) ∧ ((0 : Int) ≤ p1 + x4 ∧ p1 + x4 < 24) ∧ inR (M 13 2 (p0 + x4).toNat) ∧ inR (M 13 2 (p1 + x4).toNat) ∧ (((M 13 2 (p0 + x4).toNat) ≠ (M 13 2 (p1 + x4).toNat) → wpj_X11_isSame_120 p0 p1 x4 M J24 Q) ∧ (¬ ((M 13 2 (p0 + x4).toNat) ≠ (M 13 2 (p1 + x4).toNat)) → ((0 : Int) ≤ p0 + x4 ∧ p0 + x4 < 24) ∧ ((0 : Int) ≤ p1 + x4 ∧ p1 + x4 < 24) ∧ inR (M 13 3 (p0 + x4).toNat) ∧ inR (M 13 3 (p1 + x4).toNat) ∧ (((M 13 3 (p0 + x4).toNat) ≠ (M 13 3 (p1 + x4).toNat) → wpj_X11_isSame_120 p0 p1 x4 M J24 Q) ∧ (¬ ((M 13 3 (p0 + x4).toNat) ≠ (M 13 3 (p1 + x4).toNat)) → ((0 : Int) ≤ p0 + x4 ∧ p0 + x4 < 24) ∧ ((0 : Int) ≤ p0 ∧ p0 < 24) ∧ ((0 : Int) ≤ p1 + x4 ∧ p1 + x4 < 24) ∧ ((0 : Int) ≤ p1 ∧ p1 < 24) ∧ inR ((M 13 1 (p0 + x4).toNat) - (M 13 1 p0.toNat)) ∧ inR ((M 13 1 (p1 + x4).toNat) - (M 13 1 p1.toNat)) ∧ (((M 13 1 (p0 + x4).toNat) - (M 13 1 p0.toNat) ≠ (M 13 1 (p1 + x4).toNat) - (M 13 1 p1.toNat) → wpj_X11_isSame_120 p0 p1 x4 M J24 Q) ∧ (¬ ((M 13 1 (p0 + x4).toNat) - (M 13 1 p0.toNat) ≠ (M 13 1 (p1 + x4).toNat) - (M 13 1 p1.toNat)) → wpj_X11_isSame_121 p0 p1 x4 1 M J24 Q))))))))))
def wpj_X11_isSame_20 (p0 : Int) (p1 : Int) (s0 : Int) (M : Mem) (J24 : Int → Int → Mem → Prop) (Q : Int → Mem → Prop) : Prop := J24 s0 0 M
def wpe_X11_isSame (p0 : Int) (p1 : Int) (M : Mem) (J24 : Int → Int → Mem → Prop) (Q : Int → Mem → Prop) : Prop := ((0 : Int) ≤ p0 ∧ p0 < 24) ∧ ((0 : Int) ≤ p1 ∧ p1 < 24) ∧ inR (M 13 4 p0.toNat) ∧ inR (M 13 4 p1.toNat) ∧ (((M 13 4 p0.toNat) ≠ (M 13 4 p1.toNat) → wpj_X11_isSame_20 p0 p1 0 M J24 Q) ∧ (¬ ((M 13 4 p0.toNat) ≠ (M 13 4 p1.toNat)) → wpj_X11_isSame_20 p0 p1 1 M J24 Q))
def wp_X11_isSame (M : Mem) (p0 : Int) (p1 : Int) (Q : Int → Mem → Prop) : Prop := ∃ (I24 : Nat → Int → Int → Mem → Prop), wpe_X11_isSame p0 p1 M (fun (x3 : Int) (x4 : Int) (M1 : Mem) => ∃ n1 : Nat, I24 n1 x3 x4 M1) Q ∧ (∀ (n : Nat) (x3 : Int) (x4 : Int) (M : Mem), I24 n x3 x4 M → wph_X11_isSame_24 p0 p1 x3 x4 M (fun (x3 : Int) (x4 : Int) (M1 : Mem) => ∃ n1 : Nat, n1 < n ∧ I24 n1 x3 x4 M1) Q)
set_option maxHeartbeats 4000000 in
set_option maxRecDepth 100000 in
theorem wkj_X11_isSame_121 {p : Program} {l : Launch} {e : Env} {s : State} {m : MethodId} {args : Array Value} {below : List Frame} {meth : Method} {c : Code} {D : va_G} {g : GT} {A : Nat → Prop} {a : Nat → Nat} {b : Nat → Nat → Nat} (X : vC p s m args meth c D g A RX11 wsX11_isSame cX11_isSame 5) (hr : meth.sig.returnType = (some .boolean)) {p0 : Int} {p1 : Int} {x4 : Int} {s0 : Int} {M : Mem} {J24 : Int → Int → Mem → Prop} {Q : Int → Mem → Prop} (hJ24 : ∀ (x3 : Int) (x4 : Int) (M : Mem), J24 x3 x4 M → vV p l e ({ frames := 0, cells := 0, slots := 0, locals := 0 } : Room) s m args below meth c D g A a b 5 0 0 (MQ below (cQi D g A a b Q) args s 0 0 A) M [(0, .ref (a 13)), (1, iv p0), (2, iv p1), (3, iv x3), (4, iv x4)] 24 []) (hw : wpj_X11_isSame_121 p0 p1 x4 s0 M J24 Q) : vV p l e ({ frames := 0, cells := 0, slots := 0, locals := 0 } : Room) s m args below meth c D g A a b 5 0 0 (MQ below (cQi D g A a b Q) args s 0 0 A) M [(0, .ref (a 13)), (1, iv p0), (2, iv p1), (4, iv x4)] 121 [iv s0] := by
  unfold wpj_X11_isSame_121 at hw
  refine V_istore_n (lv1 := [(0, .ref (a 13)), (1, iv p0), (2, iv p1), (3, iv s0), (4, iv x4)]) X [1, 2, 3, 0, 4] dX11_isSame_121 rfl (by decide) rfl ?_
  refine V_iinc (lv1 := [(0, .ref (a 13)), (1, iv p0), (2, iv p1), (3, iv s0), (4, iv (x4 + 1))]) X [1, 2, 3, 4, 0] dX11_isSame_122 (q := 4) rfl (by decide) rfl ?_
  refine V_goto (tgt := 24) X dX11_isSame_125 (by decide) ?_
  exact hJ24 _ _ _ hw
set_option maxHeartbeats 4000000 in
set_option maxRecDepth 100000 in
theorem wkj_X11_isSame_120 {p : Program} {l : Launch} {e : Env} {s : State} {m : MethodId} {args : Array Value} {below : List Frame} {meth : Method} {c : Code} {D : va_G} {g : GT} {A : Nat → Prop} {a : Nat → Nat} {b : Nat → Nat → Nat} (X : vC p s m args meth c D g A RX11 wsX11_isSame cX11_isSame 5) (hr : meth.sig.returnType = (some .boolean)) {p0 : Int} {p1 : Int} {x4 : Int} {M : Mem} {J24 : Int → Int → Mem → Prop} {Q : Int → Mem → Prop} (hJ24 : ∀ (x3 : Int) (x4 : Int) (M : Mem), J24 x3 x4 M → vV p l e ({ frames := 0, cells := 0, slots := 0, locals := 0 } : Room) s m args below meth c D g A a b 5 0 0 (MQ below (cQi D g A a b Q) args s 0 0 A) M [(0, .ref (a 13)), (1, iv p0), (2, iv p1), (3, iv x3), (4, iv x4)] 24 []) (hw : wpj_X11_isSame_120 p0 p1 x4 M J24 Q) : vV p l e ({ frames := 0, cells := 0, slots := 0, locals := 0 } : Room) s m args below meth c D g A a b 5 0 0 (MQ below (cQi D g A a b Q) args s 0 0 A) M [(0, .ref (a 13)), (1, iv p0), (2, iv p1), (4, iv x4)] 120 [] := by
  unfold wpj_X11_isSame_120 at hw
  refine V_iconst X dX11_isSame_120 ?_
  exact wkj_X11_isSame_121 X hr hJ24 hw
set_option maxHeartbeats 4000000 in
set_option maxRecDepth 100000 in
theorem wkh_X11_isSame_24 {p : Program} {l : Launch} {e : Env} {s : State} {m : MethodId} {args : Array Value} {below : List Frame} {meth : Method} {c : Code} {D : va_G} {g : GT} {A : Nat → Prop} {a : Nat → Nat} {b : Nat → Nat → Nat} (X : vC p s m args meth c D g A RX11 wsX11_isSame cX11_isSame 5) (hr : meth.sig.returnType = (some .boolean)) {p0 : Int} {p1 : Int} {x3 : Int} {x4 : Int} {M : Mem} {J24 : Int → Int → Mem → Prop} {Q : Int → Mem → Prop} (hJ24 : ∀ (x3 : Int) (x4 : Int) (M : Mem), J24 x3 x4 M → vV p l e ({ frames := 0, cells := 0, slots := 0, locals := 0 } : Room) s m args below meth c D g A a b 5 0 0 (MQ below (cQi D g A a b Q) args s 0 0 A) M [(0, .ref (a 13)), (1, iv p0), (2, iv p1), (3, iv x3), (4, iv x4)] 24 []) (hw : wph_X11_isSame_24 p0 p1 x3 x4 M J24 Q) : vV p l e ({ frames := 0, cells := 0, slots := 0, locals := 0 } : Room) s m args below meth c D g A a b 5 0 0 (MQ below (cQi D g A a b Q) args s 0 0 A) M [(0, .ref (a 13)), (1, iv p0), (2, iv p1), (3, iv x3), (4, iv x4)] 24 [] := by
  unfold wph_X11_isSame_24 at hw
  refine V_iload X dX11_isSame_24 (q := 4) rfl ?_
  refine V_aload_n X dX11_isSame_26 rfl (q := 0) rfl ?_
  refine V_get (C := RX11) (T := TX11) (N := 24) (ci := 11) X hi_X11_isSame_11 gO_13 rfl 4 (by decide) lk_X11_isSame_f22 (fun _ h9 => h9) rfl dX11_isSame_27 ?_
  refine V_iload_n X dX11_isSame_30 rfl (q := 1) rfl ?_
  obtain ⟨h6, hw⟩ := hw
  refine V_iald X (gA_13_4) h6 (by decide) dX11_isSame_31 ?_
  obtain ⟨h7, h8, hw⟩ := hw
  refine V_icmp_ge (tgt := 128) X h7 h8 dX11_isSame_32 (by decide) (fun q9 => ?_) (fun q9 => ?_)
  · have hw := hw.1 q9
    refine V_iload_n X dX11_isSame_128 rfl (q := 3) rfl ?_
    obtain ⟨h10, hw⟩ := hw
    exact V_zret X hr h10 hw dX11_isSame_129
  · have hw := hw.2 q9
    refine V_iload_n X dX11_isSame_35 rfl (q := 3) rfl ?_
    obtain ⟨h11, hw⟩ := hw
    refine V_if_eq (tgt := 128) X h11 dX11_isSame_36 (by decide) (fun q12 => ?_) (fun q12 => ?_)
    · have hw := hw.1 q12
      refine V_iload_n X dX11_isSame_128 rfl (q := 3) rfl ?_
      obtain ⟨h13, hw⟩ := hw
      exact V_zret X hr h13 hw dX11_isSame_129
    · have hw := hw.2 q12
      refine V_aload_n X dX11_isSame_39 rfl (q := 0) rfl ?_
      refine V_get (C := RX11) (T := TX11) (N := 24) (ci := 11) X hi_X11_isSame_11 gO_13 rfl 2 (by decide) lk_X11_isSame_f16 (fun _ h9 => h9) rfl dX11_isSame_40 ?_
      refine V_iload_n X dX11_isSame_43 rfl (q := 1) rfl ?_
      refine V_iload X dX11_isSame_44 (q := 4) rfl ?_
      refine V_iadd X dX11_isSame_46 ?_
      obtain ⟨h14, hw⟩ := hw
      refine V_iald X (gA_13_2) h14 (by decide) dX11_isSame_47 ?_
      refine V_aload_n X dX11_isSame_48 rfl (q := 0) rfl ?_
      refine V_get (C := RX11) (T := TX11) (N := 24) (ci := 11) X hi_X11_isSame_11 gO_13 rfl 2 (by decide) lk_X11_isSame_f16 (fun _ h9 => h9) rfl dX11_isSame_49 ?_
      refine V_iload_n X dX11_isSame_52 rfl (q := 2) rfl ?_
      refine V_iload X dX11_isSame_53 (q := 4) rfl ?_
      refine V_iadd X dX11_isSame_55 ?_
      obtain ⟨h15, hw⟩ := hw
      refine V_iald X (gA_13_2) h15 (by decide) dX11_isSame_56 ?_
      obtain ⟨h16, h17, hw⟩ := hw
      refine V_icmp_ne (tgt := 120) X h16 h17 dX11_isSame_57 (by decide) (fun q18 => ?_) (fun q18 => ?_)
      · have hw := hw.1 q18
        refine V_sub (lv1 := [(0, .ref (a 13)), (1, iv p0), (2, iv p1), (4, iv x4)]) [0, 1, 2, 4] rfl ?_
        exact wkj_X11_isSame_120 X hr hJ24 hw
      · have hw := hw.2 q18
        refine V_aload_n X dX11_isSame_60 rfl (q := 0) rfl ?_
        refine V_get (C := RX11) (T := TX11) (N := 24) (ci := 11) X hi_X11_isSame_11 gO_13 rfl 3 (by decide) lk_X11_isSame_f19 (fun _ h9 => h9) rfl dX11_isSame_61 ?_
        refine V_iload_n X dX11_isSame_64 rfl (q := 1) rfl ?_
        refine V_iload X dX11_isSame_65 (q := 4) rfl ?_
        refine V_iadd X dX11_isSame_67 ?_
        obtain ⟨h19, hw⟩ := hw
        refine V_iald X (gA_13_3) h19 (by decide) dX11_isSame_68 ?_
        refine V_aload_n X dX11_isSame_69 rfl (q := 0) rfl ?_
        refine V_get (C := RX11) (T := TX11) (N := 24) (ci := 11) X hi_X11_isSame_11 gO_13 rfl 3 (by decide) lk_X11_isSame_f19 (fun _ h9 => h9) rfl dX11_isSame_70 ?_
        refine V_iload_n X dX11_isSame_73 rfl (q := 2) rfl ?_
        refine V_iload X dX11_isSame_74 (q := 4) rfl ?_
        refine V_iadd X dX11_isSame_76 ?_
        obtain ⟨h20, hw⟩ := hw
        refine V_iald X (gA_13_3) h20 (by decide) dX11_isSame_77 ?_
        obtain ⟨h21, h22, hw⟩ := hw
        refine V_icmp_ne (tgt := 120) X h21 h22 dX11_isSame_78 (by decide) (fun q23 => ?_) (fun q23 => ?_)
        · have hw := hw.1 q23
          refine V_sub (lv1 := [(0, .ref (a 13)), (1, iv p0), (2, iv p1), (4, iv x4)]) [0, 1, 2, 4] rfl ?_
          exact wkj_X11_isSame_120 X hr hJ24 hw
        · have hw := hw.2 q23
          refine V_aload_n X dX11_isSame_81 rfl (q := 0) rfl ?_
          refine V_get (C := RX11) (T := TX11) (N := 24) (ci := 11) X hi_X11_isSame_11 gO_13 rfl 1 (by decide) lk_X11_isSame_f13 (fun _ h9 => h9) rfl dX11_isSame_82 ?_
          refine V_iload_n X dX11_isSame_85 rfl (q := 1) rfl ?_
          refine V_iload X dX11_isSame_86 (q := 4) rfl ?_
          refine V_iadd X dX11_isSame_88 ?_
          obtain ⟨h24, hw⟩ := hw
          refine V_iald X (gA_13_1) h24 (by decide) dX11_isSame_89 ?_
          refine V_aload_n X dX11_isSame_90 rfl (q := 0) rfl ?_
          refine V_get (C := RX11) (T := TX11) (N := 24) (ci := 11) X hi_X11_isSame_11 gO_13 rfl 1 (by decide) lk_X11_isSame_f13 (fun _ h9 => h9) rfl dX11_isSame_91 ?_
          refine V_iload_n X dX11_isSame_94 rfl (q := 1) rfl ?_
          obtain ⟨h25, hw⟩ := hw
          refine V_iald X (gA_13_1) h25 (by decide) dX11_isSame_95 ?_
          refine V_isub X dX11_isSame_96 ?_
          refine V_aload_n X dX11_isSame_97 rfl (q := 0) rfl ?_
          refine V_get (C := RX11) (T := TX11) (N := 24) (ci := 11) X hi_X11_isSame_11 gO_13 rfl 1 (by decide) lk_X11_isSame_f13 (fun _ h9 => h9) rfl dX11_isSame_98 ?_
          refine V_iload_n X dX11_isSame_101 rfl (q := 2) rfl ?_
          refine V_iload X dX11_isSame_102 (q := 4) rfl ?_
          refine V_iadd X dX11_isSame_104 ?_
          obtain ⟨h26, hw⟩ := hw
          refine V_iald X (gA_13_1) h26 (by decide) dX11_isSame_105 ?_
          refine V_aload_n X dX11_isSame_106 rfl (q := 0) rfl ?_
          refine V_get (C := RX11) (T := TX11) (N := 24) (ci := 11) X hi_X11_isSame_11 gO_13 rfl 1 (by decide) lk_X11_isSame_f13 (fun _ h9 => h9) rfl dX11_isSame_107 ?_
          refine V_iload_n X dX11_isSame_110 rfl (q := 2) rfl ?_
          obtain ⟨h27, hw⟩ := hw
          refine V_iald X (gA_13_1) h27 (by decide) dX11_isSame_111 ?_
          refine V_isub X dX11_isSame_112 ?_
          obtain ⟨h28, h29, hw⟩ := hw
          refine V_icmp_ne (tgt := 120) X h28 h29 dX11_isSame_113 (by decide) (fun q30 => ?_) (fun q30 => ?_)
          · have hw := hw.1 q30
            refine V_sub (lv1 := [(0, .ref (a 13)), (1, iv p0), (2, iv p1), (4, iv x4)]) [0, 1, 2, 4] rfl ?_
            exact wkj_X11_isSame_120 X hr hJ24 hw
          · have hw := hw.2 q30
            refine V_iconst X dX11_isSame_116 ?_
            refine V_goto (tgt := 121) X dX11_isSame_117 (by decide) ?_
            refine V_sub (lv1 := [(0, .ref (a 13)), (1, iv p0), (2, iv p1), (4, iv x4)]) [0, 1, 2, 4] rfl ?_
            exact wkj_X11_isSame_121 X hr hJ24 hw
set_option maxHeartbeats 4000000 in
set_option maxRecDepth 100000 in
theorem wkj_X11_isSame_20 {p : Program} {l : Launch} {e : Env} {s : State} {m : MethodId} {args : Array Value} {below : List Frame} {meth : Method} {c : Code} {D : va_G} {g : GT} {A : Nat → Prop} {a : Nat → Nat} {b : Nat → Nat → Nat} (X : vC p s m args meth c D g A RX11 wsX11_isSame cX11_isSame 5) (hr : meth.sig.returnType = (some .boolean)) {p0 : Int} {p1 : Int} {s0 : Int} {M : Mem} {J24 : Int → Int → Mem → Prop} {Q : Int → Mem → Prop} (hJ24 : ∀ (x3 : Int) (x4 : Int) (M : Mem), J24 x3 x4 M → vV p l e ({ frames := 0, cells := 0, slots := 0, locals := 0 } : Room) s m args below meth c D g A a b 5 0 0 (MQ below (cQi D g A a b Q) args s 0 0 A) M [(0, .ref (a 13)), (1, iv p0), (2, iv p1), (3, iv x3), (4, iv x4)] 24 []) (hw : wpj_X11_isSame_20 p0 p1 s0 M J24 Q) : vV p l e ({ frames := 0, cells := 0, slots := 0, locals := 0 } : Room) s m args below meth c D g A a b 5 0 0 (MQ below (cQi D g A a b Q) args s 0 0 A) M [(0, .ref (a 13)), (1, iv p0), (2, iv p1)] 20 [iv s0] := by
  unfold wpj_X11_isSame_20 at hw
  refine V_istore_n (lv1 := [(0, .ref (a 13)), (1, iv p0), (2, iv p1), (3, iv s0)]) X [1, 2, 3, 0] dX11_isSame_20 rfl (by decide) rfl ?_
  refine V_iconst X dX11_isSame_21 ?_
  refine V_istore (lv1 := [(0, .ref (a 13)), (1, iv p0), (2, iv p1), (3, iv s0), (4, iv 0)]) X [1, 2, 3, 4, 0] dX11_isSame_22 (by decide) rfl ?_
  exact hJ24 _ _ _ hw
set_option maxHeartbeats 4000000 in
set_option maxRecDepth 100000 in
theorem wke_X11_isSame {p : Program} {l : Launch} {e : Env} {s : State} {m : MethodId} {args : Array Value} {below : List Frame} {meth : Method} {c : Code} {D : va_G} {g : GT} {A : Nat → Prop} {a : Nat → Nat} {b : Nat → Nat → Nat} (X : vC p s m args meth c D g A RX11 wsX11_isSame cX11_isSame 5) (hr : meth.sig.returnType = (some .boolean)) {p0 : Int} {p1 : Int} {M : Mem} {J24 : Int → Int → Mem → Prop} {Q : Int → Mem → Prop} (hJ24 : ∀ (x3 : Int) (x4 : Int) (M : Mem), J24 x3 x4 M → vV p l e ({ frames := 0, cells := 0, slots := 0, locals := 0 } : Room) s m args below meth c D g A a b 5 0 0 (MQ below (cQi D g A a b Q) args s 0 0 A) M [(0, .ref (a 13)), (1, iv p0), (2, iv p1), (3, iv x3), (4, iv x4)] 24 []) (hw : wpe_X11_isSame p0 p1 M J24 Q) : vV p l e ({ frames := 0, cells := 0, slots := 0, locals := 0 } : Room) s m args below meth c D g A a b 5 0 0 (MQ below (cQi D g A a b Q) args s 0 0 A) M [(0, .ref (a 13)), (1, iv p0), (2, iv p1)] 0 [] := by
  unfold wpe_X11_isSame at hw
  refine V_aload_n X dX11_isSame_0 rfl (q := 0) rfl ?_
  refine V_get (C := RX11) (T := TX11) (N := 24) (ci := 11) X hi_X11_isSame_11 gO_13 rfl 4 (by decide) lk_X11_isSame_f22 (fun _ h9 => h9) rfl dX11_isSame_1 ?_
  refine V_iload_n X dX11_isSame_4 rfl (q := 1) rfl ?_
  obtain ⟨h1, hw⟩ := hw
  refine V_iald X (gA_13_4) h1 (by decide) dX11_isSame_5 ?_
  refine V_aload_n X dX11_isSame_6 rfl (q := 0) rfl ?_
  refine V_get (C := RX11) (T := TX11) (N := 24) (ci := 11) X hi_X11_isSame_11 gO_13 rfl 4 (by decide) lk_X11_isSame_f22 (fun _ h9 => h9) rfl dX11_isSame_7 ?_
  refine V_iload_n X dX11_isSame_10 rfl (q := 2) rfl ?_
  obtain ⟨h2, hw⟩ := hw
  refine V_iald X (gA_13_4) h2 (by decide) dX11_isSame_11 ?_
  obtain ⟨h3, h4, hw⟩ := hw
  refine V_icmp_ne (tgt := 19) X h3 h4 dX11_isSame_12 (by decide) (fun q5 => ?_) (fun q5 => ?_)
  · have hw := hw.1 q5
    refine V_iconst X dX11_isSame_19 ?_
    exact wkj_X11_isSame_20 X hr hJ24 hw
  · have hw := hw.2 q5
    refine V_iconst X dX11_isSame_15 ?_
    refine V_goto (tgt := 20) X dX11_isSame_16 (by decide) ?_
    exact wkj_X11_isSame_20 X hr hJ24 hw
set_option maxHeartbeats 4000000 in
set_option maxRecDepth 100000 in
theorem c_X11_isSame (l : Launch) {p0 : Int} {p1 : Int} {D : va_G} {g : GT} {A : Nat → Prop} {a : Nat → Nat} {b : Nat → Nat → Nat} {M : Mem} {Q : Int → Mem → Prop} (hw : wp_X11_isSame M p0 p1 Q) : Met l yX11_isSame wsX11_isSame ({ frames := 0, cells := 0, slots := 0, locals := 0 } : Room) (cPc D g A a b M [.ref (a 13), iv p0, iv p1]) (cQi D g A a b Q) 0 0 A := by
  refine Met.ofW (cc := cX11_isSame) (maxL := 5) (ret := (some .boolean)) (by decide) rfl ?_
  intro p e s m args below meth c s₁ B hml hv
  obtain ⟨rfl, hP, hD, hG⟩ := hv
  have X : vC p s m _ meth c D g A RX11 wsX11_isSame cX11_isSame 5 := ⟨B.exec, B.bytes, findClass_of_methodNamed B.named, atoms_spec (ws := wsX11_isSame) B.pre, hG, hml, B.notSynchronized⟩
  have hr := B.returns
  have hl := lv_entry ([.ref (a 13), iv p0, iv p1]) (n := 5) (Nat.le_of_ble_eq_true rfl)
  rw [lg_entry_eq]
  generalize (lg_sl ([.ref (a 13), iv p0, iv p1]) ++ List.replicate (5 - (lg_sl ([.ref (a 13), iv p0, iv p1])).length) Slot.unset).toArray = ls at hl ⊢
  have hl : lv_has ls 5 [(0, .ref (a 13)), (1, iv p0), (2, iv p1)] := hl
  obtain ⟨I24, hw, hI24⟩ := hw
  have K : ∀ n : Nat, (∀ (x3 : Int) (x4 : Int) (M : Mem), I24 n x3 x4 M → vV p l e ({ frames := 0, cells := 0, slots := 0, locals := 0 } : Room) s m ([.ref (a 13), iv p0, iv p1] : List Value).toArray below meth c D g A a b 5 0 0 (MQ below (cQi D g A a b Q) ([.ref (a 13), iv p0, iv p1] : List Value).toArray s 0 0 A) M [(0, .ref (a 13)), (1, iv p0), (2, iv p1), (3, iv x3), (4, iv x4)] 24 []) := by
    intro n
    induction n using Nat.strongRecOn with
    | ind n ih =>
      exact fun x3 x4 M hh => wkh_X11_isSame_24 X hr (fun _ _ _ ⟨n1, hn, hh⟩ => (ih n1 hn) _ _ _ hh) (hI24 n x3 x4 M hh)
  exact wke_X11_isSame X hr  (fun _ _ _ ⟨n1, hh⟩ => (K n1) _ _ _ hh) hw s.heap [] ls hP hD va_S.rf hl
