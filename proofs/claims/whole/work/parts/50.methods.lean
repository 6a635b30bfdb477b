set_option maxRecDepth 20000 in
theorem ggX11_topDownDistance_X11_measures : GoodIn wsX11_topDownDistance wsX11_measures := goodIn_r _ [9, 2, 10, 11, 43, 44, 45, 46, 47, 48, 49, 50, 51, 52, 53, 54, 55, 56, 57, 58, 59, 60, 61, 62, 63, 64, 65, 66] (by decide +kernel) (by decide +kernel)
set_option maxRecDepth 20000 in
theorem gX11_topDownDistance_X11_measures : GoodIn wsX11_topDownDistance (wsV RX11 95 RX11 yX11_measures wsX11_measures) := goodIn_app (goodIn_of _ (by decide +kernel)) ggX11_topDownDistance_X11_measures
set_option maxRecDepth 20000 in
theorem ggX11_topDownDistance_X11_deletingAll : GoodIn wsX11_topDownDistance wsX11_deletingAll := goodIn_r _ [15, 16, 17, 18, 8, 19, 20, 21, 43, 44, 45, 46, 47, 48, 49, 50, 51, 52, 53, 54, 55, 56, 57, 58, 59, 60, 61, 62, 63, 64, 65, 66] (by decide +kernel) (by decide +kernel)
set_option maxRecDepth 20000 in
theorem gX11_topDownDistance_X11_deletingAll : GoodIn wsX11_topDownDistance (wsV RX11 150 RX11 yX11_deletingAll wsX11_deletingAll) := goodIn_app (goodIn_of _ (by decide +kernel)) ggX11_topDownDistance_X11_deletingAll
set_option maxRecDepth 20000 in
theorem ggX11_topDownDistance_X11_inserting : GoodIn wsX11_topDownDistance wsX11_inserting := goodIn_r _ [25, 16, 17, 18, 8, 19, 20, 21, 43, 44, 45, 46, 47, 48, 49, 50, 51, 52, 53, 54, 55, 56, 57, 58, 59, 60, 61, 62, 63, 64, 65, 66] (by decide +kernel) (by decide +kernel)
set_option maxRecDepth 20000 in
theorem gX11_topDownDistance_X11_inserting : GoodIn wsX11_topDownDistance (wsV RX11 147 RX11 yX11_inserting wsX11_inserting) := goodIn_app (goodIn_of _ (by decide +kernel)) ggX11_topDownDistance_X11_inserting
set_option maxRecDepth 20000 in
theorem ggX11_topDownDistance_X11_alike : GoodIn wsX11_topDownDistance wsX11_alike := goodIn_r _ [29, 21, 43, 44, 45, 46, 47, 48, 49, 50, 51, 52, 53, 54, 55, 56, 57, 58, 59, 60, 61, 62, 63, 64, 65, 66] (by decide +kernel) (by decide +kernel)
set_option maxRecDepth 20000 in
theorem gX11_topDownDistance_X11_alike : GoodIn wsX11_topDownDistance (wsV RX11 130 RX11 yX11_alike wsX11_alike) := goodIn_app (goodIn_of _ (by decide +kernel)) ggX11_topDownDistance_X11_alike
set_option maxRecDepth 20000 in
theorem ggX11_topDownDistance_X11_topOf : GoodIn wsX11_topDownDistance wsX11_topOf := goodIn_r _ [33, 11, 34, 3, 22, 23, 24, 8, 25, 16, 17, 18, 19, 20, 21, 12, 13, 14, 15, 35, 36, 37, 26, 27, 28, 29, 38, 39, 40, 41, 42, 43, 44, 45, 46, 47, 48, 49, 50, 51, 52, 53, 54, 55, 56, 57, 58, 59, 60, 61, 62, 63, 64, 65, 66] (by decide +kernel) (by decide +kernel)
set_option maxRecDepth 20000 in
theorem gX11_topDownDistance_X11_topOf : GoodIn wsX11_topDownDistance (wsV RX11 153 RX11 yX11_topOf wsX11_topOf) := goodIn_app (goodIn_of _ (by decide +kernel)) ggX11_topDownDistance_X11_topOf
set_option maxRecDepth 20000 in
theorem ggX11_topDownDistance_X11_lesser : GoodIn wsX11_topDownDistance wsX11_lesser := goodIn_r _ [37] (by decide +kernel) (by decide +kernel)
set_option maxRecDepth 20000 in
theorem gX11_topDownDistance_X11_lesser : GoodIn wsX11_topDownDistance (va_wsS RX11 127 yX11_lesser wsX11_lesser) := goodIn_app (goodIn_of _ (by decide +kernel)) ggX11_topDownDistance_X11_lesser
theorem dX11_topDownDistance_0 : decode cX11_topDownDistance 0 = .ok (.aload_n 0, 1) := by decide +kernel
theorem dX11_topDownDistance_1 : decode cX11_topDownDistance 1 = .ok (.iconst 0, 1) := by decide +kernel
theorem dX11_topDownDistance_2 : decode cX11_topDownDistance 2 = .ok (.putfield 72, 3) := by decide +kernel
theorem dX11_topDownDistance_5 : decode cX11_topDownDistance 5 = .ok (.aload_n 0, 1) := by decide +kernel
theorem dX11_topDownDistance_6 : decode cX11_topDownDistance 6 = .ok (.invokevirtual 95, 3) := by decide +kernel
theorem dX11_topDownDistance_9 : decode cX11_topDownDistance 9 = .ok (.aload_n 0, 1) := by decide +kernel
theorem dX11_topDownDistance_10 : decode cX11_topDownDistance 10 = .ok (.iconst 0, 1) := by decide +kernel
theorem dX11_topDownDistance_11 : decode cX11_topDownDistance 11 = .ok (.aload_n 0, 1) := by decide +kernel
theorem dX11_topDownDistance_12 : decode cX11_topDownDistance 12 = .ok (.getfield 25, 3) := by decide +kernel
theorem dX11_topDownDistance_15 : decode cX11_topDownDistance 15 = .ok (.iconst 0, 1) := by decide +kernel
theorem dX11_topDownDistance_16 : decode cX11_topDownDistance 16 = .ok (.iaload, 1) := by decide +kernel
theorem dX11_topDownDistance_17 : decode cX11_topDownDistance 17 = .ok (.invokevirtual 150, 3) := by decide +kernel
theorem dX11_topDownDistance_20 : decode cX11_topDownDistance 20 = .ok (.aload_n 0, 1) := by decide +kernel
theorem dX11_topDownDistance_21 : decode cX11_topDownDistance 21 = .ok (.iconst 0, 1) := by decide +kernel
theorem dX11_topDownDistance_22 : decode cX11_topDownDistance 22 = .ok (.aload_n 0, 1) := by decide +kernel
theorem dX11_topDownDistance_23 : decode cX11_topDownDistance 23 = .ok (.getfield 25, 3) := by decide +kernel
theorem dX11_topDownDistance_26 : decode cX11_topDownDistance 26 = .ok (.iconst 1, 1) := by decide +kernel
theorem dX11_topDownDistance_27 : decode cX11_topDownDistance 27 = .ok (.iaload, 1) := by decide +kernel
theorem dX11_topDownDistance_28 : decode cX11_topDownDistance 28 = .ok (.invokevirtual 147, 3) := by decide +kernel
theorem dX11_topDownDistance_31 : decode cX11_topDownDistance 31 = .ok (.iadd, 1) := by decide +kernel
theorem dX11_topDownDistance_32 : decode cX11_topDownDistance 32 = .ok (.istore_n 1, 1) := by decide +kernel
theorem dX11_topDownDistance_33 : decode cX11_topDownDistance 33 = .ok (.aload_n 0, 1) := by decide +kernel
theorem dX11_topDownDistance_34 : decode cX11_topDownDistance 34 = .ok (.getfield 25, 3) := by decide +kernel
theorem dX11_topDownDistance_37 : decode cX11_topDownDistance 37 = .ok (.iconst 0, 1) := by decide +kernel
theorem dX11_topDownDistance_38 : decode cX11_topDownDistance 38 = .ok (.iaload, 1) := by decide +kernel
theorem dX11_topDownDistance_39 : decode cX11_topDownDistance 39 = .ok (.iconst 1, 1) := by decide +kernel
theorem dX11_topDownDistance_40 : decode cX11_topDownDistance 40 = .ok (.isub, 1) := by decide +kernel
theorem dX11_topDownDistance_41 : decode cX11_topDownDistance 41 = .ok (.istore_n 2, 1) := by decide +kernel
theorem dX11_topDownDistance_42 : decode cX11_topDownDistance 42 = .ok (.iload_n 2, 1) := by decide +kernel
theorem dX11_topDownDistance_43 : decode cX11_topDownDistance 43 = .ok (.ifCond .lt 59, 3) := by decide +kernel
theorem dX11_topDownDistance_46 : decode cX11_topDownDistance 46 = .ok (.aload_n 0, 1) := by decide +kernel
theorem dX11_topDownDistance_47 : decode cX11_topDownDistance 47 = .ok (.getfield 25, 3) := by decide +kernel
theorem dX11_topDownDistance_50 : decode cX11_topDownDistance 50 = .ok (.iconst 1, 1) := by decide +kernel
theorem dX11_topDownDistance_51 : decode cX11_topDownDistance 51 = .ok (.iaload, 1) := by decide +kernel
theorem dX11_topDownDistance_52 : decode cX11_topDownDistance 52 = .ok (.iconst 1, 1) := by decide +kernel
theorem dX11_topDownDistance_53 : decode cX11_topDownDistance 53 = .ok (.isub, 1) := by decide +kernel
theorem dX11_topDownDistance_54 : decode cX11_topDownDistance 54 = .ok (.istore_n 3, 1) := by decide +kernel
theorem dX11_topDownDistance_55 : decode cX11_topDownDistance 55 = .ok (.iload_n 3, 1) := by decide +kernel
theorem dX11_topDownDistance_56 : decode cX11_topDownDistance 56 = .ok (.ifCond .lt 40, 3) := by decide +kernel
theorem dX11_topDownDistance_59 : decode cX11_topDownDistance 59 = .ok (.aload_n 0, 1) := by decide +kernel
theorem dX11_topDownDistance_60 : decode cX11_topDownDistance 60 = .ok (.getfield 66, 3) := by decide +kernel
theorem dX11_topDownDistance_63 : decode cX11_topDownDistance 63 = .ok (.bipush 12, 2) := by decide +kernel
theorem dX11_topDownDistance_65 : decode cX11_topDownDistance 65 = .ok (.iload_n 2, 1) := by decide +kernel
theorem dX11_topDownDistance_66 : decode cX11_topDownDistance 66 = .ok (.imul, 1) := by decide +kernel
theorem dX11_topDownDistance_67 : decode cX11_topDownDistance 67 = .ok (.iload_n 3, 1) := by decide +kernel
theorem dX11_topDownDistance_68 : decode cX11_topDownDistance 68 = .ok (.iadd, 1) := by decide +kernel
theorem dX11_topDownDistance_69 : decode cX11_topDownDistance 69 = .ok (.aload_n 0, 1) := by decide +kernel
theorem dX11_topDownDistance_70 : decode cX11_topDownDistance 70 = .ok (.iload_n 2, 1) := by decide +kernel
theorem dX11_topDownDistance_71 : decode cX11_topDownDistance 71 = .ok (.iload_n 3, 1) := by decide +kernel
theorem dX11_topDownDistance_72 : decode cX11_topDownDistance 72 = .ok (.invokevirtual 130, 3) := by decide +kernel
theorem dX11_topDownDistance_75 : decode cX11_topDownDistance 75 = .ok (.ifCond .eq 12, 3) := by decide +kernel
theorem dX11_topDownDistance_78 : decode cX11_topDownDistance 78 = .ok (.aload_n 0, 1) := by decide +kernel
theorem dX11_topDownDistance_79 : decode cX11_topDownDistance 79 = .ok (.iload_n 2, 1) := by decide +kernel
theorem dX11_topDownDistance_80 : decode cX11_topDownDistance 80 = .ok (.iload_n 3, 1) := by decide +kernel
theorem dX11_topDownDistance_81 : decode cX11_topDownDistance 81 = .ok (.invokevirtual 153, 3) := by decide +kernel
theorem dX11_topDownDistance_84 : decode cX11_topDownDistance 84 = .ok (.goto 5, 3) := by decide +kernel
theorem dX11_topDownDistance_87 : decode cX11_topDownDistance 87 = .ok (.ldc 122, 2) := by decide +kernel
theorem dX11_topDownDistance_89 : decode cX11_topDownDistance 89 = .ok (.iastore, 1) := by decide +kernel
theorem dX11_topDownDistance_90 : decode cX11_topDownDistance 90 = .ok (.iinc 3 (-1), 3) := by decide +kernel
theorem dX11_topDownDistance_93 : decode cX11_topDownDistance 93 = .ok (.goto (-38), 3) := by decide +kernel
theorem dX11_topDownDistance_96 : decode cX11_topDownDistance 96 = .ok (.iinc 2 (-1), 3) := by decide +kernel
theorem dX11_topDownDistance_99 : decode cX11_topDownDistance 99 = .ok (.goto (-57), 3) := by decide +kernel
theorem dX11_topDownDistance_102 : decode cX11_topDownDistance 102 = .ok (.aload_n 0, 1) := by decide +kernel
theorem dX11_topDownDistance_103 : decode cX11_topDownDistance 103 = .ok (.getfield 25, 3) := by decide +kernel
theorem dX11_topDownDistance_106 : decode cX11_topDownDistance 106 = .ok (.iconst 0, 1) := by decide +kernel
theorem dX11_topDownDistance_107 : decode cX11_topDownDistance 107 = .ok (.iaload, 1) := by decide +kernel
theorem dX11_topDownDistance_108 : decode cX11_topDownDistance 108 = .ok (.ifCond .le 25, 3) := by decide +kernel
theorem dX11_topDownDistance_111 : decode cX11_topDownDistance 111 = .ok (.aload_n 0, 1) := by decide +kernel
theorem dX11_topDownDistance_112 : decode cX11_topDownDistance 112 = .ok (.getfield 25, 3) := by decide +kernel
theorem dX11_topDownDistance_115 : decode cX11_topDownDistance 115 = .ok (.iconst 1, 1) := by decide +kernel
theorem dX11_topDownDistance_116 : decode cX11_topDownDistance 116 = .ok (.iaload, 1) := by decide +kernel
theorem dX11_topDownDistance_117 : decode cX11_topDownDistance 117 = .ok (.ifCond .le 16, 3) := by decide +kernel
theorem dX11_topDownDistance_120 : decode cX11_topDownDistance 120 = .ok (.iload_n 1, 1) := by decide +kernel
theorem dX11_topDownDistance_121 : decode cX11_topDownDistance 121 = .ok (.aload_n 0, 1) := by decide +kernel
theorem dX11_topDownDistance_122 : decode cX11_topDownDistance 122 = .ok (.getfield 66, 3) := by decide +kernel
theorem dX11_topDownDistance_125 : decode cX11_topDownDistance 125 = .ok (.iconst 0, 1) := by decide +kernel
theorem dX11_topDownDistance_126 : decode cX11_topDownDistance 126 = .ok (.iaload, 1) := by decide +kernel
theorem dX11_topDownDistance_127 : decode cX11_topDownDistance 127 = .ok (.invokestatic 127, 3) := by decide +kernel
theorem dX11_topDownDistance_130 : decode cX11_topDownDistance 130 = .ok (.goto 4, 3) := by decide +kernel
theorem dX11_topDownDistance_133 : decode cX11_topDownDistance 133 = .ok (.iload_n 1, 1) := by decide +kernel
theorem dX11_topDownDistance_134 : decode cX11_topDownDistance 134 = .ok (.ireturn, 1) := by decide +kernel
theorem lk_X11_topDownDistance_f72 : Cond.fieldLink RX11 72 "TreeComparerModel" "thrown" "I" ∈ wsX11_topDownDistance := by decide +kernel
theorem hi_X11_topDownDistance_11 : ∀ w ∈ u_ws RX11 TX11 24, w ∈ wsX11_topDownDistance := by decide +kernel
theorem lk_X11_topDownDistance_f25 : Cond.fieldLink RX11 25 "TreeComparerModel" "many" "[I" ∈ wsX11_topDownDistance := by decide +kernel
theorem lk_X11_topDownDistance_f66 : Cond.fieldLink RX11 66 "TreeComparerModel" "top" "[I" ∈ wsX11_topDownDistance := by decide +kernel
theorem lk_X11_topDownDistance_c122 : Cond.constant RX11 122 (100000) ∈ wsX11_topDownDistance := by decide +kernel
def wpj_X11_topDownDistance_89 (x1 : Int) (x2 : Int) (x3 : Int) (s0 : Int) (s1 : Int) (M : Mem) (J42 : Int → Int → Mem → Prop) (J55 : Int → Int → Int → Mem → Prop) (Q : Int → Mem → Prop) : Prop := ((0 : Int) ≤ s1 ∧ s1 < 144) ∧ (∀ M27 : Mem, M27 = mset M 13 21 s1.toNat s0 → J55 x1 x2 (x3 + (-1)) M27)
def wph_X11_topDownDistance_55 (x1 : Int) (x2 : Int) (x3 : Int) (M : Mem) (J42 : Int → Int → Mem → Prop) (J55 : Int → Int → Int → Mem → Prop) (Q : Int → Mem → Prop) : Prop := inR x3 ∧ ((x3 < 0 → J42 x1 (x2 + (-1)) M) ∧ (¬ (x3 < 0) → wp_X11_alike M x2 x3 (fun y21 M22 => inR y21 ∧ ((y21 = 0 → wpj_X11_topDownDistance_89 x1 x2 x3 100000 ((12 * x2) + x3) M22 J42 J55 Q) ∧ (¬ (y21 = 0) → wp_X11_topOf M22 x2 x3 (fun y25 M26 => wpj_X11_topDownDistance_89 x1 x2 x3 y25 ((12 * x2) + x3) M26 J42 J55 Q))))))
def wph_X11_topDownDistance_42 (x1 : Int) (x2 : Int) (M : Mem) (J42 : Int → Int → Mem → Prop) (J55 : Int → Int → Int → Mem → Prop) (Q : Int → Mem → Prop) : Prop := inR x2 ∧ ((x2 < 0 → inR (M 13 5 0) ∧ (((M 13 5 0) ≤ 0 → Q x1 M) ∧ (¬ ((M 13 5 0) ≤ 0) → inR (M 13 5 1) ∧ (((M 13 5 1) ≤ 0 → Q x1 M) ∧ (¬ ((M 13 5 1) ≤ 0) → wp_X11_lesser M x1 ((M 13 21 0)) (fun y16 M17 => Q y16 M17)))))) ∧ (¬ (x2 < 0) → (∀ y18 : Int, y18 = (M 13 5 1) - 1 → J55 x1 x2 y18 M)))
def wpe_X11_topDownDistance (M : Mem) (J42 : Int → Int → Mem → Prop) (J55 : Int → Int → Int → Mem → Prop) (Q : Int → Mem → Prop) : Prop := (∀ M1 : Mem, M1 = mset M 13 23 0 0 → wp_X11_measures M1 (fun M3 => wp_X11_deletingAll M3 0 ((M3 13 5 0)) (fun y4 M5 => wp_X11_inserting M5 0 ((M5 13 5 1)) (fun y6 M7 => (∀ y8 : Int, y8 = y4 + y6 → (∀ y9 : Int, y9 = (M7 13 5 0) - 1 → J42 y8 y9 M7))))))
def wp_X11_topDownDistance (M : Mem) (Q : Int → Mem → Prop) : Prop := ∃ (I42 : Nat → Int → Int → Mem → Prop) (I55 : Nat → Int → Int → Int → Mem → Prop), wpe_X11_topDownDistance M (fun (x1 : Int) (x2 : Int) (M1 : Mem) => ∃ n1 : Nat, I42 n1 x1 x2 M1) (fun (x1 : Int) (x2 : Int) (x3 : Int) (M1 : Mem) => ∃ n1 : Nat, I55 n1 x1 x2 x3 M1) Q ∧ (∀ (n : Nat) (x1 : Int) (x2 : Int) (M : Mem), I42 n x1 x2 M → wph_X11_topDownDistance_42 x1 x2 M (fun (x1 : Int) (x2 : Int) (M1 : Mem) => ∃ n1 : Nat, n1 < n ∧ I42 n1 x1 x2 M1) (fun (x1 : Int) (x2 : Int) (x3 : Int) (M1 : Mem) => ∃ n1 : Nat, n1 < n ∧ I55 n1 x1 x2 x3 M1) Q) ∧ (∀ (n : Nat) (x1 : Int) (x2 : Int) (x3 : Int) (M : Mem), I55 n x1 x2 x3 M → wph_X11_topDownDistance_55 x1 x2 x3 M (fun (x1 : Int) (x2 : Int) (M1 : Mem) => ∃ n1 : Nat, n1 < n ∧ I42 n1 x1 x2 M1) (fun (x1 : Int) (x2 : Int) (x3 : Int) (M1 : Mem) => ∃ n1 : Nat, n1 < n ∧ I55 n1 x1 x2 x3 M1) Q)
set_option maxHeartbeats 4000000 in
set_option maxRecDepth 100000 in
theorem wkj_X11_topDownDistance_89 {p : Program} {l : Launch} {e : Env} {s : State} {m : MethodId} {args : Array Value} {below : List Frame} {meth : Method} {c : Code} {D : va_G} {g : GT} {A : Nat → Prop} {a : Nat → Nat} {b : Nat → Nat → Nat} (X : vC p s m args meth c D g A RX11 wsX11_topDownDistance cX11_topDownDistance 4) (hr : meth.sig.returnType = (some .int)) {x1 : Int} {x2 : Int} {x3 : Int} {s0 : Int} {s1 : Int} {M : Mem} {J42 : Int → Int → Mem → Prop} {J55 : Int → Int → Int → Mem → Prop} {Q : Int → Mem → Prop} (hJ42 : ∀ (x1 : Int) (x2 : Int) (M : Mem), J42 x1 x2 M → vV p l e ({ frames := 3, cells := 0, slots := 0, locals := 78 } : Room) s m args below meth c D g A a b 4 0 0 (MQ below (cQi D g A a b Q) args s 0 0 A) M [(0, .ref (a 13)), (1, iv x1), (2, iv x2)] 42 []) (hJ55 : ∀ (x1 : Int) (x2 : Int) (x3 : Int) (M : Mem), J55 x1 x2 x3 M → vV p l e ({ frames := 3, cells := 0, slots := 0, locals := 78 } : Room) s m args below meth c D g A a b 4 0 0 (MQ below (cQi D g A a b Q) args s 0 0 A) M [(0, .ref (a 13)), (1, iv x1), (2, iv x2), (3, iv x3)] 55 []) (hw : wpj_X11_topDownDistance_89 x1 x2 x3 s0 s1 M J42 J55 Q) : vV p l e ({ frames := 3, cells := 0, slots := 0, locals := 78 } : Room) s m args below meth c D g A a b 4 0 0 (MQ below (cQi D g A a b Q) args s 0 0 A) M [(0, .ref (a 13)), (1, iv x1), (2, iv x2), (3, iv x3)] 89 [iv s0, iv s1, .ref (b 13 21)] := by
  unfold wpj_X11_topDownDistance_89 at hw
  obtain ⟨h28, hw⟩ := hw
  refine V_iast X (gA_13_21) (sA_13_21) h28 (by decide) dX11_topDownDistance_89 (fun M27 eM27 => ?_)
  have hw := hw M27 eM27
  refine V_iinc (lv1 := [(0, .ref (a 13)), (1, iv x1), (2, iv x2), (3, iv (x3 + (-1)))]) X [1, 2, 3, 0] dX11_topDownDistance_90 (q := 3) rfl (by decide) rfl ?_
  refine V_goto (tgt := 55) X dX11_topDownDistance_93 (by decide) ?_
  exact hJ55 _ _ _ _ hw
set_option maxHeartbeats 4000000 in
set_option maxRecDepth 100000 in
theorem wkh_X11_topDownDistance_55 {p : Program} {l : Launch} {e : Env} {s : State} {m : MethodId} {args : Array Value} {below : List Frame} {meth : Method} {c : Code} {D : va_G} {g : GT} {A : Nat → Prop} {a : Nat → Nat} {b : Nat → Nat → Nat} (X : vC p s m args meth c D g A RX11 wsX11_topDownDistance cX11_topDownDistance 4) (hr : meth.sig.returnType = (some .int)) {x1 : Int} {x2 : Int} {x3 : Int} {M : Mem} {J42 : Int → Int → Mem → Prop} {J55 : Int → Int → Int → Mem → Prop} {Q : Int → Mem → Prop} (hJ42 : ∀ (x1 : Int) (x2 : Int) (M : Mem), J42 x1 x2 M → vV p l e ({ frames := 3, cells := 0, slots := 0, locals := 78 } : Room) s m args below meth c D g A a b 4 0 0 (MQ below (cQi D g A a b Q) args s 0 0 A) M [(0, .ref (a 13)), (1, iv x1), (2, iv x2)] 42 []) (hJ55 : ∀ (x1 : Int) (x2 : Int) (x3 : Int) (M : Mem), J55 x1 x2 x3 M → vV p l e ({ frames := 3, cells := 0, slots := 0, locals := 78 } : Room) s m args below meth c D g A a b 4 0 0 (MQ below (cQi D g A a b Q) args s 0 0 A) M [(0, .ref (a 13)), (1, iv x1), (2, iv x2), (3, iv x3)] 55 []) (hw : wph_X11_topDownDistance_55 x1 x2 x3 M J42 J55 Q) : vV p l e ({ frames := 3, cells := 0, slots := 0, locals := 78 } : Room) s m args below meth c D g A a b 4 0 0 (MQ below (cQi D g A a b Q) args s 0 0 A) M [(0, .ref (a 13)), (1, iv x1), (2, iv x2), (3, iv x3)] 55 [] := by
  unfold wph_X11_topDownDistance_55 at hw
  refine V_iload_n X dX11_topDownDistance_55 rfl (q := 3) rfl ?_
  obtain ⟨h19, hw⟩ := hw
  refine V_if_lt (tgt := 96) X h19 dX11_topDownDistance_56 (by decide) (fun q20 => ?_) (fun q20 => ?_)
  · have hw := hw.1 q20
    refine V_iinc (lv1 := [(0, .ref (a 13)), (1, iv x1), (2, iv (x2 + (-1))), (3, iv x3)]) X [1, 2, 0, 3] dX11_topDownDistance_96 (q := 2) rfl (by decide) rfl ?_
    refine V_goto (tgt := 42) X dX11_topDownDistance_99 (by decide) ?_
    refine V_sub (lv1 := [(0, .ref (a 13)), (1, iv x1), (2, iv (x2 + (-1)))]) [0, 1, 2] rfl ?_
    exact hJ42 _ _ _ hw
  · have hw := hw.2 q20
    refine V_aload_n X dX11_topDownDistance_59 rfl (q := 0) rfl ?_
    refine V_get (C := RX11) (T := TX11) (N := 24) (ci := 11) X hi_X11_topDownDistance_11 gO_13 rfl 21 (by decide) lk_X11_topDownDistance_f66 (fun _ h9 => h9) rfl dX11_topDownDistance_60 ?_
    refine V_bipush X dX11_topDownDistance_63 rfl ?_
    refine V_iload_n X dX11_topDownDistance_65 rfl (q := 2) rfl ?_
    refine V_imul X dX11_topDownDistance_66 ?_
    refine V_iload_n X dX11_topDownDistance_67 rfl (q := 3) rfl ?_
    refine V_iadd X dX11_topDownDistance_68 ?_
    refine V_aload_n X dX11_topDownDistance_69 rfl (q := 0) rfl ?_
    refine V_iload_n X dX11_topDownDistance_70 rfl (q := 2) rfl ?_
    refine V_iload_n X dX11_topDownDistance_71 rfl (q := 3) rfl ?_
    refine V_callV_i X _ gO_13 rfl (As := [iv x2, iv x3]) (st := [iv ((12 * x2) + x3), .ref (b 13 21)]) (c_X11_alike l hw) (cwV 2 X.2.2.2.1 gX11_topDownDistance_X11_alike rfl rfl rfl (by decide +kernel) ⟨Nat.le_of_ble_eq_true rfl, Nat.le_of_ble_eq_true rfl⟩) rfl (Nat.le_of_ble_eq_true rfl) ⟨Nat.le_of_ble_eq_true rfl, Nat.le_of_ble_eq_true rfl⟩ rfl dX11_topDownDistance_72 (fun y21 M22 hw => ?_)
    obtain ⟨h23, hw⟩ := hw
    refine V_if_eq (tgt := 87) X h23 dX11_topDownDistance_75 (by decide) (fun q24 => ?_) (fun q24 => ?_)
    · have hw := hw.1 q24
      refine V_ldc (x := 100000) X lk_X11_topDownDistance_c122 (by decide) dX11_topDownDistance_87 ?_
      exact wkj_X11_topDownDistance_89 X hr hJ42 hJ55 hw
    · have hw := hw.2 q24
      refine V_aload_n X dX11_topDownDistance_78 rfl (q := 0) rfl ?_
      refine V_iload_n X dX11_topDownDistance_79 rfl (q := 2) rfl ?_
      refine V_iload_n X dX11_topDownDistance_80 rfl (q := 3) rfl ?_
      refine V_callV_i X _ gO_13 rfl (As := [iv x2, iv x3]) (st := [iv ((12 * x2) + x3), .ref (b 13 21)]) (c_X11_topOf l hw) (cwV 2 X.2.2.2.1 gX11_topDownDistance_X11_topOf rfl rfl rfl (by decide +kernel) ⟨Nat.le_of_ble_eq_true rfl, Nat.le_of_ble_eq_true rfl⟩) rfl (Nat.le_of_ble_eq_true rfl) ⟨Nat.le_of_ble_eq_true rfl, Nat.le_of_ble_eq_true rfl⟩ rfl dX11_topDownDistance_81 (fun y25 M26 hw => ?_)
      refine V_goto (tgt := 89) X dX11_topDownDistance_84 (by decide) ?_
      exact wkj_X11_topDownDistance_89 X hr hJ42 hJ55 hw
set_option maxHeartbeats 4000000 in
set_option maxRecDepth 100000 in
theorem wkh_X11_topDownDistance_42 {p : Program} {l : Launch} {e : Env} {s : State} {m : MethodId} {args : Array Value} {below : List Frame} {meth : Method} {c : Code} {D : va_G} {g : GT} {A : Nat → Prop} {a : Nat → Nat} {b : Nat → Nat → Nat} (X : vC p s m args meth c D g A RX11 wsX11_topDownDistance cX11_topDownDistance 4) (hr : meth.sig.returnType = (some .int)) {x1 : Int} {x2 : Int} {M : Mem} {J42 : Int → Int → Mem → Prop} {J55 : Int → Int → Int → Mem → Prop} {Q : Int → Mem → Prop} (hJ42 : ∀ (x1 : Int) (x2 : Int) (M : Mem), J42 x1 x2 M → vV p l e ({ frames := 3, cells := 0, slots := 0, locals := 78 } : Room) s m args below meth c D g A a b 4 0 0 (MQ below (cQi D g A a b Q) args s 0 0 A) M [(0, .ref (a 13)), (1, iv x1), (2, iv x2)] 42 []) (hJ55 : ∀ (x1 : Int) (x2 : Int) (x3 : Int) (M : Mem), J55 x1 x2 x3 M → vV p l e ({ frames := 3, cells := 0, slots := 0, locals := 78 } : Room) s m args below meth c D g A a b 4 0 0 (MQ below (cQi D g A a b Q) args s 0 0 A) M [(0, .ref (a 13)), (1, iv x1), (2, iv x2), (3, iv x3)] 55 []) (hw : wph_X11_topDownDistance_42 x1 x2 M J42 J55 Q) : vV p l e ({ frames := 3, cells := 0, slots := 0, locals := 78 } : Room) s m args below meth c D g A a b 4 0 0 (MQ below (cQi D g A a b Q) args s 0 0 A) M [(0, .ref (a 13)), (1, iv x1), (2, iv x2)] 42 [] := by
  unfold wph_X11_topDownDistance_42 at hw
  refine V_iload_n X dX11_topDownDistance_42 rfl (q := 2) rfl ?_
  obtain ⟨h10, hw⟩ := hw
  refine V_if_lt (tgt := 102) X h10 dX11_topDownDistance_43 (by decide) (fun q11 => ?_) (fun q11 => ?_)
  · have hw := hw.1 q11
    refine V_aload_n X dX11_topDownDistance_102 rfl (q := 0) rfl ?_
    refine V_get (C := RX11) (T := TX11) (N := 24) (ci := 11) X hi_X11_topDownDistance_11 gO_13 rfl 5 (by decide) lk_X11_topDownDistance_f25 (fun _ h9 => h9) rfl dX11_topDownDistance_103 ?_
    refine V_iconst X dX11_topDownDistance_106 ?_
    refine V_iald X (gA_13_5) ⟨by decide, by decide⟩ (by decide) dX11_topDownDistance_107 ?_
    obtain ⟨h12, hw⟩ := hw
    refine V_if_le (tgt := 133) X h12 dX11_topDownDistance_108 (by decide) (fun q13 => ?_) (fun q13 => ?_)
    · have hw := hw.1 q13
      refine V_iload_n X dX11_topDownDistance_133 rfl (q := 1) rfl ?_
      exact V_iret X hr hw dX11_topDownDistance_134
    · have hw := hw.2 q13
      refine V_aload_n X dX11_topDownDistance_111 rfl (q := 0) rfl ?_
      refine V_get (C := RX11) (T := TX11) (N := 24) (ci := 11) X hi_X11_topDownDistance_11 gO_13 rfl 5 (by decide) lk_X11_topDownDistance_f25 (fun _ h9 => h9) rfl dX11_topDownDistance_112 ?_
      refine V_iconst X dX11_topDownDistance_115 ?_
      refine V_iald X (gA_13_5) ⟨by decide, by decide⟩ (by decide) dX11_topDownDistance_116 ?_
      obtain ⟨h14, hw⟩ := hw
      refine V_if_le (tgt := 133) X h14 dX11_topDownDistance_117 (by decide) (fun q15 => ?_) (fun q15 => ?_)
      · have hw := hw.1 q15
        refine V_iload_n X dX11_topDownDistance_133 rfl (q := 1) rfl ?_
        exact V_iret X hr hw dX11_topDownDistance_134
      · have hw := hw.2 q15
        refine V_iload_n X dX11_topDownDistance_120 rfl (q := 1) rfl ?_
        refine V_aload_n X dX11_topDownDistance_121 rfl (q := 0) rfl ?_
        refine V_get (C := RX11) (T := TX11) (N := 24) (ci := 11) X hi_X11_topDownDistance_11 gO_13 rfl 21 (by decide) lk_X11_topDownDistance_f66 (fun _ h9 => h9) rfl dX11_topDownDistance_122 ?_
        refine V_iconst X dX11_topDownDistance_125 ?_
        refine V_iald X (gA_13_21) ⟨by decide, by decide⟩ (by decide) dX11_topDownDistance_126 ?_
        refine V_callS_i X _ (As := [iv x1, iv ((M 13 21 0))]) (st := []) (c_X11_lesser l hw) (va_cwS 2 X.2.2.2.1 gX11_topDownDistance_X11_lesser rfl rfl rfl (by decide +kernel) ⟨Nat.le_of_ble_eq_true rfl, Nat.le_of_ble_eq_true rfl⟩) rfl (Nat.le_of_ble_eq_true rfl) ⟨Nat.le_of_ble_eq_true rfl, Nat.le_of_ble_eq_true rfl⟩ rfl dX11_topDownDistance_127 (fun y16 M17 hw => ?_)
        refine V_goto (tgt := 134) X dX11_topDownDistance_130 (by decide) ?_
        exact V_iret X hr hw dX11_topDownDistance_134
  · have hw := hw.2 q11
    refine V_aload_n X dX11_topDownDistance_46 rfl (q := 0) rfl ?_
    refine V_get (C := RX11) (T := TX11) (N := 24) (ci := 11) X hi_X11_topDownDistance_11 gO_13 rfl 5 (by decide) lk_X11_topDownDistance_f25 (fun _ h9 => h9) rfl dX11_topDownDistance_47 ?_
    refine V_iconst X dX11_topDownDistance_50 ?_
    refine V_iald X (gA_13_5) ⟨by decide, by decide⟩ (by decide) dX11_topDownDistance_51 ?_
    refine V_iconst X dX11_topDownDistance_52 ?_
    refine V_isub X dX11_topDownDistance_53 ?_
    refine V_top (fun y18 ey18 => ?_)
    have hw := hw y18 ey18
    refine V_istore_n (lv1 := [(0, .ref (a 13)), (1, iv x1), (2, iv x2), (3, iv y18)]) X [1, 2, 3, 0] dX11_topDownDistance_54 rfl (by decide) rfl ?_
    exact hJ55 _ _ _ _ hw
set_option maxHeartbeats 4000000 in
set_option maxRecDepth 100000 in
theorem wke_X11_topDownDistance {p : Program} {l : Launch} {e : Env} {s : State} {m : MethodId} {args : Array Value} {below : List Frame} {meth : Method} {c : Code} {D : va_G} {g : GT} {A : Nat → Prop} {a : Nat → Nat} {b : Nat → Nat → Nat} (X : vC p s m args meth c D g A RX11 wsX11_topDownDistance cX11_topDownDistance 4) (hr : meth.sig.returnType = (some .int)) {M : Mem} {J42 : Int → Int → Mem → Prop} {J55 : Int → Int → Int → Mem → Prop} {Q : Int → Mem → Prop} (hJ42 : ∀ (x1 : Int) (x2 : Int) (M : Mem), J42 x1 x2 M → vV p l e ({ frames := 3, cells := 0, slots := 0, locals := 78 } : Room) s m args below meth c D g A a b 4 0 0 (MQ below (cQi D g A a b Q) args s 0 0 A) M [(0, .ref (a 13)), (1, iv x1), (2, iv x2)] 42 []) (hJ55 : ∀ (x1 : Int) (x2 : Int) (x3 : Int) (M : Mem), J55 x1 x2 x3 M → vV p l e ({ frames := 3, cells := 0, slots := 0, locals := 78 } : Room) s m args below meth c D g A a b 4 0 0 (MQ below (cQi D g A a b Q) args s 0 0 A) M [(0, .ref (a 13)), (1, iv x1), (2, iv x2), (3, iv x3)] 55 []) (hw : wpe_X11_topDownDistance M J42 J55 Q) : vV p l e ({ frames := 3, cells := 0, slots := 0, locals := 78 } : Room) s m args below meth c D g A a b 4 0 0 (MQ below (cQi D g A a b Q) args s 0 0 A) M [(0, .ref (a 13))] 0 [] := by
  unfold wpe_X11_topDownDistance at hw
  refine V_aload_n X dX11_topDownDistance_0 rfl (q := 0) rfl ?_
  refine V_iconst X dX11_topDownDistance_1 ?_
  refine V_put (C := RX11) (T := TX11) (N := 24) (ci := 11) X hi_X11_topDownDistance_11 gO_13 rfl 23 (by decide) tyX11 tyX11_ok nmX11 rfl (tyX11_ok 23 (by decide)) (Or.inl rfl) (show 23 < 24 from by decide) sI_13_23 lk_X11_topDownDistance_f72 (fun _ h9 => h9) dX11_topDownDistance_2 (fun M1 eM1 => ?_)
  have hw := hw M1 eM1
  refine V_aload_n X dX11_topDownDistance_5 rfl (q := 0) rfl ?_
  refine V_callV_v X _ gO_13 rfl (As := []) (st := []) (c_X11_measures l hw) (cwV 0 X.2.2.2.1 gX11_topDownDistance_X11_measures rfl rfl rfl (by decide +kernel) ⟨Nat.le_of_ble_eq_true rfl, Nat.le_of_ble_eq_true rfl⟩) rfl (Nat.le_of_ble_eq_true rfl) ⟨Nat.le_of_ble_eq_true rfl, Nat.le_of_ble_eq_true rfl⟩ rfl dX11_topDownDistance_6 (fun M3 hw => ?_)
  refine V_aload_n X dX11_topDownDistance_9 rfl (q := 0) rfl ?_
  refine V_iconst X dX11_topDownDistance_10 ?_
  refine V_aload_n X dX11_topDownDistance_11 rfl (q := 0) rfl ?_
  refine V_get (C := RX11) (T := TX11) (N := 24) (ci := 11) X hi_X11_topDownDistance_11 gO_13 rfl 5 (by decide) lk_X11_topDownDistance_f25 (fun _ h9 => h9) rfl dX11_topDownDistance_12 ?_
  refine V_iconst X dX11_topDownDistance_15 ?_
  refine V_iald X (gA_13_5) ⟨by decide, by decide⟩ (by decide) dX11_topDownDistance_16 ?_
  refine V_callV_i X _ gO_13 rfl (As := [iv 0, iv ((M3 13 5 0))]) (st := []) (c_X11_deletingAll l hw) (cwV 2 X.2.2.2.1 gX11_topDownDistance_X11_deletingAll rfl rfl rfl (by decide +kernel) ⟨Nat.le_of_ble_eq_true rfl, Nat.le_of_ble_eq_true rfl⟩) rfl (Nat.le_of_ble_eq_true rfl) ⟨Nat.le_of_ble_eq_true rfl, Nat.le_of_ble_eq_true rfl⟩ rfl dX11_topDownDistance_17 (fun y4 M5 hw => ?_)
  refine V_aload_n X dX11_topDownDistance_20 rfl (q := 0) rfl ?_
  refine V_iconst X dX11_topDownDistance_21 ?_
  refine V_aload_n X dX11_topDownDistance_22 rfl (q := 0) rfl ?_
  refine V_get (C := RX11) (T := TX11) (N := 24) (ci := 11) X hi_X11_topDownDistance_11 gO_13 rfl 5 (by decide) lk_X11_topDownDistance_f25 (fun _ h9 => h9) rfl dX11_topDownDistance_23 ?_
  refine V_iconst X dX11_topDownDistance_26 ?_
  refine V_iald X (gA_13_5) ⟨by decide, by decide⟩ (by decide) dX11_topDownDistance_27 ?_
  refine V_callV_i X _ gO_13 rfl (As := [iv 0, iv ((M5 13 5 1))]) (st := [iv y4]) (c_X11_inserting l hw) (cwV 2 X.2.2.2.1 gX11_topDownDistance_X11_inserting rfl rfl rfl (by decide +kernel) ⟨Nat.le_of_ble_eq_true rfl, Nat.le_of_ble_eq_true rfl⟩) rfl (Nat.le_of_ble_eq_true rfl) ⟨Nat.le_of_ble_eq_true rfl, Nat.le_of_ble_eq_true rfl⟩ rfl dX11_topDownDistance_28 (fun y6 M7 hw => ?_)
  refine V_iadd X dX11_topDownDistance_31 ?_
  refine V_top (fun y8 ey8 => ?_)
  have hw := hw y8 ey8
  refine V_istore_n (lv1 := [(0, .ref (a 13)), (1, iv y8)]) X [1, 0] dX11_topDownDistance_32 rfl (by decide) rfl ?_
  refine V_aload_n X dX11_topDownDistance_33 rfl (q := 0) rfl ?_
  refine V_get (C := RX11) (T := TX11) (N := 24) (ci := 11) X hi_X11_topDownDistance_11 gO_13 rfl 5 (by decide) lk_X11_topDownDistance_f25 (fun _ h9 => h9) rfl dX11_topDownDistance_34 ?_
  refine V_iconst X dX11_topDownDistance_37 ?_
  refine V_iald X (gA_13_5) ⟨by decide, by decide⟩ (by decide) dX11_topDownDistance_38 ?_
  refine V_iconst X dX11_topDownDistance_39 ?_
  refine V_isub X dX11_topDownDistance_40 ?_
  refine V_top (fun y9 ey9 => ?_)
  have hw := hw y9 ey9
  refine V_istore_n (lv1 := [(0, .ref (a 13)), (1, iv y8), (2, iv y9)]) X [1, 2, 0] dX11_topDownDistance_41 rfl (by decide) rfl ?_
  exact hJ42 _ _ _ hw
set_option maxHeartbeats 4000000 in
set_option maxRecDepth 100000 in
theorem c_X11_topDownDistance (l : Launch) {D : va_G} {g : GT} {A : Nat → Prop} {a : Nat → Nat} {b : Nat → Nat → Nat} {M : Mem} {Q : Int → Mem → Prop} (hw : wp_X11_topDownDistance M Q) : Met l yX11_topDownDistance wsX11_topDownDistance ({ frames := 3, cells := 0, slots := 0, locals := 78 } : Room) (cPc D g A a b M [.ref (a 13)]) (cQi D g A a b Q) 0 0 A := by
  refine Met.ofW (cc := cX11_topDownDistance) (maxL := 4) (ret := (some .int)) (by decide) rfl ?_
  intro p e s m args below meth c s₁ B hml hv
  obtain ⟨rfl, hP, hD, hG⟩ := hv
  have X : vC p s m _ meth c D g A RX11 wsX11_topDownDistance cX11_topDownDistance 4 := ⟨B.exec, B.bytes, findClass_of_methodNamed B.named, atoms_spec (ws := wsX11_topDownDistance) B.pre, hG, hml, B.notSynchronized⟩
  have hr := B.returns
  have hl := lv_entry ([.ref (a 13)]) (n := 4) (Nat.le_of_ble_eq_true rfl)
  rw [lg_entry_eq]
  generalize (lg_sl ([.ref (a 13)]) ++ List.replicate (4 - (lg_sl ([.ref (a 13)])).length) Slot.unset).toArray = ls at hl ⊢
  have hl : lv_has ls 4 [(0, .ref (a 13))] := hl
  obtain ⟨I42, I55, hw, hI42, hI55⟩ := hw
  have K : ∀ n : Nat, (∀ (x1 : Int) (x2 : Int) (M : Mem), I42 n x1 x2 M → vV p l e ({ frames := 3, cells := 0, slots := 0, locals := 78 } : Room) s m ([.ref (a 13)] : List Value).toArray below meth c D g A a b 4 0 0 (MQ below (cQi D g A a b Q) ([.ref (a 13)] : List Value).toArray s 0 0 A) M [(0, .ref (a 13)), (1, iv x1), (2, iv x2)] 42 []) ∧ (∀ (x1 : Int) (x2 : Int) (x3 : Int) (M : Mem), I55 n x1 x2 x3 M → vV p l e ({ frames := 3, cells := 0, slots := 0, locals := 78 } : Room) s m ([.ref (a 13)] : List Value).toArray below meth c D g A a b 4 0 0 (MQ below (cQi D g A a b Q) ([.ref (a 13)] : List Value).toArray s 0 0 A) M [(0, .ref (a 13)), (1, iv x1), (2, iv x2), (3, iv x3)] 55 []) := by
    intro n
    induction n using Nat.strongRecOn with
    | ind n ih =>
      exact ⟨fun x1 x2 M hh => wkh_X11_topDownDistance_42 X hr (fun _ _ _ ⟨n1, hn, hh⟩ => (ih n1 hn).1 _ _ _ hh) (fun _ _ _ _ ⟨n1, hn, hh⟩ => (ih n1 hn).2 _ _ _ _ hh) (hI42 n x1 x2 M hh), fun x1 x2 x3 M hh => wkh_X11_topDownDistance_55 X hr (fun _ _ _ ⟨n1, hn, hh⟩ => (ih n1 hn).1 _ _ _ hh) (fun _ _ _ _ ⟨n1, hn, hh⟩ => (ih n1 hn).2 _ _ _ _ hh) (hI55 n x1 x2 x3 M hh)⟩
  exact wke_X11_topDownDistance X hr  (fun _ _ _ ⟨n1, hh⟩ => (K n1).1 _ _ _ hh) (fun _ _ _ _ ⟨n1, hh⟩ => (K n1).2 _ _ _ _ hh) hw s.heap [] ls hP hD va_S.rf hl

set_option maxRecDepth 20000 in
theorem ggX11_add_X11_measures : GoodIn wsX11_add wsX11_measures := goodIn_r _ [7, 1, 2, 8, 43, 44, 45, 46, 47, 48, 49, 50, 51, 52, 53, 54, 55, 56, 57, 58, 59, 60, 61, 62, 63, 64, 65, 66] (by decide +kernel) (by decide +kernel)
set_option maxRecDepth 20000 in
theorem gX11_add_X11_measures : GoodIn wsX11_add (wsV RX11 95 RX11 yX11_measures wsX11_measures) := goodIn_app (goodIn_of _ (by decide +kernel)) ggX11_add_X11_measures
set_option maxRecDepth 20000 in
theorem ggX11_add_X11_isNode : GoodIn wsX11_add wsX11_isNode := goodIn_r _ [12, 1, 13, 14, 6, 15, 16, 17, 18, 43, 44, 45, 46, 47, 48, 49, 50, 51, 52, 53, 54, 55, 56, 57, 58, 59, 60, 61, 62, 63, 64, 65, 66] (by decide +kernel) (by decide +kernel)
set_option maxRecDepth 20000 in
theorem gX11_add_X11_isNode : GoodIn wsX11_add (wsV RX11 98 RX11 yX11_isNode wsX11_isNode) := goodIn_app (goodIn_of _ (by decide +kernel)) ggX11_add_X11_isNode
set_option maxRecDepth 20000 in
theorem ggX11_add_X11_place : GoodIn wsX11_add wsX11_place := goodIn_r _ [22, 23, 43, 44, 45, 46, 47, 48, 49, 50, 51, 52, 53, 54, 55, 56, 57, 58, 59, 60, 61, 62, 63, 64, 65, 66] (by decide +kernel) (by decide +kernel)
set_option maxRecDepth 20000 in
theorem gX11_add_X11_place : GoodIn wsX11_add (wsV RX11 102 RX11 yX11_place wsX11_place) := goodIn_app (goodIn_of _ (by decide +kernel)) ggX11_add_X11_place
set_option maxRecDepth 20000 in
theorem ggX11_add_X11_childrenOf : GoodIn wsX11_add wsX11_childrenOf := goodIn_r _ [27, 8, 2, 43, 44, 45, 46, 47, 48, 49, 50, 51, 52, 53, 54, 55, 56, 57, 58, 59, 60, 61, 62, 63, 64, 65, 66] (by decide +kernel) (by decide +kernel)
set_option maxRecDepth 20000 in
theorem gX11_add_X11_childrenOf : GoodIn wsX11_add (wsV RX11 106 RX11 yX11_childrenOf wsX11_childrenOf) := goodIn_app (goodIn_of _ (by decide +kernel)) ggX11_add_X11_childrenOf
set_option maxRecDepth 20000 in
theorem ggX11_add_X11_in : GoodIn wsX11_add wsX11_in := goodIn_r _ [18] (by decide +kernel) (by decide +kernel)
set_option maxRecDepth 20000 in
theorem gX11_add_X11_in : GoodIn wsX11_add (va_wsS RX11 75 yX11_in wsX11_in) := goodIn_app (goodIn_of _ (by decide +kernel)) ggX11_add_X11_in
set_option maxRecDepth 20000 in
theorem ggX11_add_X11_goes : GoodIn wsX11_add wsX11_goes := goodIn_r _ [31, 32, 43, 44, 45, 46, 47, 48, 49, 50, 51, 52, 53, 54, 55, 56, 57, 58, 59, 60, 61, 62, 63, 64, 65, 66] (by decide +kernel) (by decide +kernel)
set_option maxRecDepth 20000 in
theorem gX11_add_X11_goes : GoodIn wsX11_add (wsV RX11 87 RX11 yX11_goes wsX11_goes) := goodIn_app (goodIn_of _ (by decide +kernel)) ggX11_add_X11_goes
set_option maxRecDepth 20000 in
theorem ggX11_add_X11_child : GoodIn wsX11_add wsX11_child := goodIn_r _ [36, 8, 43, 44, 45, 46, 47, 48, 49, 50, 51, 52, 53, 54, 55, 56, 57, 58, 59, 60, 61, 62, 63, 64, 65, 66] (by decide +kernel) (by decide +kernel)
set_option maxRecDepth 20000 in
theorem gX11_add_X11_child : GoodIn wsX11_add (wsV RX11 109 RX11 yX11_child wsX11_child) := goodIn_app (goodIn_of _ (by decide +kernel)) ggX11_add_X11_child
set_option maxRecDepth 20000 in
theorem ggX11_add_X11_lays : GoodIn wsX11_add wsX11_lays := goodIn_r _ [40, 1, 23, 2, 41, 42, 43, 44, 45, 46, 47, 48, 49, 50, 51, 52, 53, 54, 55, 56, 57, 58, 59, 60, 61, 62, 63, 64, 65, 66] (by decide +kernel) (by decide +kernel)
set_option maxRecDepth 20000 in
theorem gX11_add_X11_lays : GoodIn wsX11_add (wsV RX11 91 RX11 yX11_lays wsX11_lays) := goodIn_app (goodIn_of _ (by decide +kernel)) ggX11_add_X11_lays
theorem dX11_add_0 : decode cX11_add 0 = .ok (.aload_n 0, 1) := by decide +kernel
theorem dX11_add_1 : decode cX11_add 1 = .ok (.invokevirtual 95, 3) := by decide +kernel
theorem dX11_add_4 : decode cX11_add 4 = .ok (.aload_n 0, 1) := by decide +kernel
theorem dX11_add_5 : decode cX11_add 5 = .ok (.iload_n 1, 1) := by decide +kernel
theorem dX11_add_6 : decode cX11_add 6 = .ok (.iload_n 2, 1) := by decide +kernel
theorem dX11_add_7 : decode cX11_add 7 = .ok (.invokevirtual 98, 3) := by decide +kernel
theorem dX11_add_10 : decode cX11_add 10 = .ok (.istore 6, 2) := by decide +kernel
theorem dX11_add_12 : decode cX11_add 12 = .ok (.iload 6, 2) := by decide +kernel
theorem dX11_add_14 : decode cX11_add 14 = .ok (.ifCond .eq 12, 3) := by decide +kernel
theorem dX11_add_17 : decode cX11_add 17 = .ok (.aload_n 0, 1) := by decide +kernel
theorem dX11_add_18 : decode cX11_add 18 = .ok (.iload_n 1, 1) := by decide +kernel
theorem dX11_add_19 : decode cX11_add 19 = .ok (.iload_n 2, 1) := by decide +kernel
theorem dX11_add_20 : decode cX11_add 20 = .ok (.invokevirtual 102, 3) := by decide +kernel
theorem dX11_add_23 : decode cX11_add 23 = .ok (.goto 4, 3) := by decide +kernel
theorem dX11_add_26 : decode cX11_add 26 = .ok (.iconst 0, 1) := by decide +kernel
theorem dX11_add_27 : decode cX11_add 27 = .ok (.istore 7, 2) := by decide +kernel
theorem dX11_add_29 : decode cX11_add 29 = .ok (.iload 6, 2) := by decide +kernel
theorem dX11_add_31 : decode cX11_add 31 = .ok (.ifCond .eq 32, 3) := by decide +kernel
theorem dX11_add_34 : decode cX11_add 34 = .ok (.iload_n 3, 1) := by decide +kernel
theorem dX11_add_35 : decode cX11_add 35 = .ok (.iconst 0, 1) := by decide +kernel
theorem dX11_add_36 : decode cX11_add 36 = .ok (.aload_n 0, 1) := by decide +kernel
theorem dX11_add_37 : decode cX11_add 37 = .ok (.iload_n 1, 1) := by decide +kernel
theorem dX11_add_38 : decode cX11_add 38 = .ok (.iload 7, 2) := by decide +kernel
theorem dX11_add_40 : decode cX11_add 40 = .ok (.invokevirtual 106, 3) := by decide +kernel
theorem dX11_add_43 : decode cX11_add 43 = .ok (.invokestatic 75, 3) := by decide +kernel
theorem dX11_add_46 : decode cX11_add 46 = .ok (.ifCond .eq 17, 3) := by decide +kernel
theorem dX11_add_49 : decode cX11_add 49 = .ok (.iload 4, 2) := by decide +kernel
theorem dX11_add_51 : decode cX11_add 51 = .ok (.iconst 0, 1) := by decide +kernel
theorem dX11_add_52 : decode cX11_add 52 = .ok (.iconst 3, 1) := by decide +kernel
theorem dX11_add_53 : decode cX11_add 53 = .ok (.invokestatic 75, 3) := by decide +kernel
theorem dX11_add_56 : decode cX11_add 56 = .ok (.ifCond .eq 7, 3) := by decide +kernel
theorem dX11_add_59 : decode cX11_add 59 = .ok (.iconst 1, 1) := by decide +kernel
theorem dX11_add_60 : decode cX11_add 60 = .ok (.goto 4, 3) := by decide +kernel
theorem dX11_add_63 : decode cX11_add 63 = .ok (.iconst 0, 1) := by decide +kernel
theorem dX11_add_64 : decode cX11_add 64 = .ok (.istore 8, 2) := by decide +kernel
theorem dX11_add_66 : decode cX11_add 66 = .ok (.aload_n 0, 1) := by decide +kernel
theorem dX11_add_67 : decode cX11_add 67 = .ok (.iload 8, 2) := by decide +kernel
theorem dX11_add_69 : decode cX11_add 69 = .ok (.iload 5, 2) := by decide +kernel
theorem dX11_add_71 : decode cX11_add 71 = .ok (.iconst 0, 1) := by decide +kernel
theorem dX11_add_72 : decode cX11_add 72 = .ok (.bipush 99, 2) := by decide +kernel
theorem dX11_add_74 : decode cX11_add 74 = .ok (.invokestatic 75, 3) := by decide +kernel
theorem dX11_add_77 : decode cX11_add 77 = .ok (.iload 6, 2) := by decide +kernel
theorem dX11_add_79 : decode cX11_add 79 = .ok (.ifCond .eq 18, 3) := by decide +kernel
theorem dX11_add_82 : decode cX11_add 82 = .ok (.aload_n 0, 1) := by decide +kernel
theorem dX11_add_83 : decode cX11_add 83 = .ok (.getfield 25, 3) := by decide +kernel
theorem dX11_add_86 : decode cX11_add 86 = .ok (.iload_n 1, 1) := by decide +kernel
theorem dX11_add_87 : decode cX11_add 87 = .ok (.iaload, 1) := by decide +kernel
theorem dX11_add_88 : decode cX11_add 88 = .ok (.bipush 12, 2) := by decide +kernel
theorem dX11_add_90 : decode cX11_add 90 = .ok (.if_icmp .ge 7, 3) := by decide +kernel
theorem dX11_add_93 : decode cX11_add 93 = .ok (.iconst 1, 1) := by decide +kernel
theorem dX11_add_94 : decode cX11_add 94 = .ok (.goto 4, 3) := by decide +kernel
theorem dX11_add_97 : decode cX11_add 97 = .ok (.iconst 0, 1) := by decide +kernel
theorem dX11_add_98 : decode cX11_add 98 = .ok (.invokevirtual 87, 3) := by decide +kernel
theorem dX11_add_101 : decode cX11_add 101 = .ok (.ifCond .ne 5, 3) := by decide +kernel
theorem dX11_add_104 : decode cX11_add 104 = .ok (.iconst 0, 1) := by decide +kernel
theorem dX11_add_105 : decode cX11_add 105 = .ok (.ireturn, 1) := by decide +kernel
theorem dX11_add_106 : decode cX11_add 106 = .ok (.aload_n 0, 1) := by decide +kernel
theorem dX11_add_107 : decode cX11_add 107 = .ok (.iload_n 1, 1) := by decide +kernel
theorem dX11_add_108 : decode cX11_add 108 = .ok (.aload_n 0, 1) := by decide +kernel
theorem dX11_add_109 : decode cX11_add 109 = .ok (.iload_n 1, 1) := by decide +kernel
theorem dX11_add_110 : decode cX11_add 110 = .ok (.iload 7, 2) := by decide +kernel
theorem dX11_add_112 : decode cX11_add 112 = .ok (.iload_n 3, 1) := by decide +kernel
theorem dX11_add_113 : decode cX11_add 113 = .ok (.invokevirtual 109, 3) := by decide +kernel
theorem dX11_add_116 : decode cX11_add 116 = .ok (.aload_n 0, 1) := by decide +kernel
theorem dX11_add_117 : decode cX11_add 117 = .ok (.getfield 25, 3) := by decide +kernel
theorem dX11_add_120 : decode cX11_add 120 = .ok (.iload_n 1, 1) := by decide +kernel
theorem dX11_add_121 : decode cX11_add 121 = .ok (.iaload, 1) := by decide +kernel
theorem dX11_add_122 : decode cX11_add 122 = .ok (.aload_n 0, 1) := by decide +kernel
theorem dX11_add_123 : decode cX11_add 123 = .ok (.getfield 13, 3) := by decide +kernel
theorem dX11_add_126 : decode cX11_add 126 = .ok (.bipush 12, 2) := by decide +kernel
theorem dX11_add_128 : decode cX11_add 128 = .ok (.iload_n 1, 1) := by decide +kernel
theorem dX11_add_129 : decode cX11_add 129 = .ok (.imul, 1) := by decide +kernel
theorem dX11_add_130 : decode cX11_add 130 = .ok (.iload 7, 2) := by decide +kernel
theorem dX11_add_132 : decode cX11_add 132 = .ok (.iadd, 1) := by decide +kernel
theorem dX11_add_133 : decode cX11_add 133 = .ok (.iaload, 1) := by decide +kernel
theorem dX11_add_134 : decode cX11_add 134 = .ok (.iconst 1, 1) := by decide +kernel
theorem dX11_add_135 : decode cX11_add 135 = .ok (.iadd, 1) := by decide +kernel
theorem dX11_add_136 : decode cX11_add 136 = .ok (.iload 4, 2) := by decide +kernel
theorem dX11_add_138 : decode cX11_add 138 = .ok (.iload 5, 2) := by decide +kernel
theorem dX11_add_140 : decode cX11_add 140 = .ok (.invokevirtual 91, 3) := by decide +kernel
theorem dX11_add_143 : decode cX11_add 143 = .ok (.aload_n 0, 1) := by decide +kernel
theorem dX11_add_144 : decode cX11_add 144 = .ok (.getfield 25, 3) := by decide +kernel
theorem dX11_add_147 : decode cX11_add 147 = .ok (.iload_n 1, 1) := by decide +kernel
theorem dX11_add_148 : decode cX11_add 148 = .ok (.iaload, 1) := by decide +kernel
theorem dX11_add_149 : decode cX11_add 149 = .ok (.iconst 1, 1) := by decide +kernel
theorem dX11_add_150 : decode cX11_add 150 = .ok (.isub, 1) := by decide +kernel
theorem dX11_add_151 : decode cX11_add 151 = .ok (.ireturn, 1) := by decide +kernel
theorem lk_X11_add_f25 : Cond.fieldLink RX11 25 "TreeComparerModel" "many" "[I" ∈ wsX11_add := by decide +kernel
theorem hi_X11_add_11 : ∀ w ∈ u_ws RX11 TX11 24, w ∈ wsX11_add := by decide +kernel
theorem lk_X11_add_f13 : Cond.fieldLink RX11 13 "TreeComparerModel" "level" "[I" ∈ wsX11_add := by decide +kernel
def wpj_X11_add_98 (p0 : Int) (p1 : Int) (p2 : Int) (p3 : Int) (p4 : Int) (x7 : Int) (s0 : Int) (s1 : Int) (s2 : Int) (M : Mem) (Q : Int → Mem → Prop) : Prop := wp_X11_goes M s2 s1 s0 (fun y28 M29 => inR y28 ∧ ((y28 ≠ 0 → wp_X11_child M29 p0 x7 p2 (fun y32 M33 => ((0 : Int) ≤ p0 ∧ p0 < 2) ∧ ((0 : Int) ≤ (12 * p0) + x7 ∧ (12 * p0) + x7 < 24) ∧ wp_X11_lays M33 p0 y32 ((M33 13 5 p0.toNat)) ((M33 13 1 ((12 * p0) + x7).toNat) + 1) p3 p4 (fun M37 => ((0 : Int) ≤ p0 ∧ p0 < 2) ∧ Q ((M37 13 5 p0.toNat) - 1) M37))) ∧ (¬ (y28 ≠ 0) → Q 0 M29)))
def wpj_X11_add_97 (p0 : Int) (p1 : Int) (p2 : Int) (p3 : Int) (p4 : Int) (x7 : Int) (s0 : Int) (s1 : Int) (M : Mem) (Q : Int → Mem → Prop) : Prop := wpj_X11_add_98 p0 p1 p2 p3 p4 x7 0 s0 s1 M Q
def wpj_X11_add_64 (p0 : Int) (p1 : Int) (p2 : Int) (p3 : Int) (p4 : Int) (x6 : Int) (x7 : Int) (s0 : Int) (M : Mem) (Q : Int → Mem → Prop) : Prop := wp_X11_in M p4 0 99 (fun y21 M22 => inR x6 ∧ ((x6 = 0 → wpj_X11_add_97 p0 p1 p2 p3 p4 x7 y21 s0 M22 Q) ∧ (¬ (x6 = 0) → ((0 : Int) ≤ p0 ∧ p0 < 2) ∧ inR (M22 13 5 p0.toNat) ∧ ((12 ≤ (M22 13 5 p0.toNat) → wpj_X11_add_97 p0 p1 p2 p3 p4 x7 y21 s0 M22 Q) ∧ (¬ (12 ≤ (M22 13 5 p0.toNat)) → wpj_X11_add_98 p0 p1 p2 p3 p4 x7 1 y21 s0 M22 Q)))))
def wpj_X11_add_63 (p0 : Int) (p1 : Int) (p2 : Int) (p3 : Int) (p4 : Int) (x6 : Int) (x7 : Int) (M : Mem) (Q : Int → Mem → Prop) : Prop := wpj_X11_add_64 p0 p1 p2 p3 p4 x6 x7 0 M Q
def wpj_X11_add_27 (p0 : Int) (p1 : Int) (p2 : Int) (p3 : Int) (p4 : Int) (x6 : Int) (s0 : Int) (M : Mem) (Q : Int → Mem → Prop) : Prop := inR x6 ∧ ((x6 = 0 → wpj_X11_add_63 p0 p1 p2 p3 p4 x6 s0 M Q) ∧ (¬ (x6 = 0) → wp_X11_childrenOf M p0 s0 (fun y11 M12 => wp_X11_in M12 p2 0 y11 (fun y13 M14 => inR y13 ∧ ((y13 = 0 → wpj_X11_add_63 p0 p1 p2 p3 p4 x6 s0 M14 Q) ∧ (¬ (y13 = 0) → wp_X11_in M14 p3 0 3 (fun y17 M18 => inR y17 ∧ ((y17 = 0 → wpj_X11_add_63 p0 p1 p2 p3 p4 x6 s0 M18 Q) ∧ (¬ (y17 = 0) → wpj_X11_add_64 p0 p1 p2 p3 p4 x6 s0 1 M18 Q)))))))))
def wpe_X11_add (p0 : Int) (p1 : Int) (p2 : Int) (p3 : Int) (p4 : Int) (M : Mem) (Q : Int → Mem → Prop) : Prop := wp_X11_measures M (fun M2 => wp_X11_isNode M2 p0 p1 (fun y3 M4 => inR y3 ∧ ((y3 = 0 → wpj_X11_add_27 p0 p1 p2 p3 p4 y3 0 M4 Q) ∧ (¬ (y3 = 0) → wp_X11_place M4 p0 p1 (fun y7 M8 => wpj_X11_add_27 p0 p1 p2 p3 p4 y3 y7 M8 Q)))))
def wp_X11_add (M : Mem) (p0 : Int) (p1 : Int) (p2 : Int) (p3 : Int) (p4 : Int) (Q : Int → Mem → Prop) : Prop := wpe_X11_add p0 p1 p2 p3 p4 M Q
set_option maxHeartbeats 4000000 in
set_option maxRecDepth 100000 in
theorem wkj_X11_add_98 {p : Program} {l : Launch} {e : Env} {s : State} {m : MethodId} {args : Array Value} {below : List Frame} {meth : Method} {c : Code} {D : va_G} {g : GT} {A : Nat → Prop} {a : Nat → Nat} {b : Nat → Nat → Nat} (X : vC p s m args meth c D g A RX11 wsX11_add cX11_add 9) (hr : meth.sig.returnType = (some .int)) {p0 : Int} {p1 : Int} {p2 : Int} {p3 : Int} {p4 : Int} {x7 : Int} {s0 : Int} {s1 : Int} {s2 : Int} {M : Mem} {Q : Int → Mem → Prop} (hw : wpj_X11_add_98 p0 p1 p2 p3 p4 x7 s0 s1 s2 M Q) : vV p l e ({ frames := 3, cells := 0, slots := 0, locals := 64 } : Room) s m args below meth c D g A a b 9 0 0 (MQ below (cQi D g A a b Q) args s 0 0 A) M [(0, .ref (a 13)), (1, iv p0), (3, iv p2), (4, iv p3), (5, iv p4), (7, iv x7)] 98 [iv s0, iv s1, iv s2, .ref (a 13)] := by
  unfold wpj_X11_add_98 at hw
  refine V_callV_i X _ gO_13 rfl (As := [iv s2, iv s1, iv s0]) (st := []) (c_X11_goes l hw) (cwV 3 X.2.2.2.1 gX11_add_X11_goes rfl rfl rfl (by decide +kernel) ⟨Nat.le_of_ble_eq_true rfl, Nat.le_of_ble_eq_true rfl⟩) rfl (Nat.le_of_ble_eq_true rfl) ⟨Nat.le_of_ble_eq_true rfl, Nat.le_of_ble_eq_true rfl⟩ rfl dX11_add_98 (fun y28 M29 hw => ?_)
  obtain ⟨h30, hw⟩ := hw
  refine V_if_ne (tgt := 106) X h30 dX11_add_101 (by decide) (fun q31 => ?_) (fun q31 => ?_)
  · have hw := hw.1 q31
    refine V_aload_n X dX11_add_106 rfl (q := 0) rfl ?_
    refine V_iload_n X dX11_add_107 rfl (q := 1) rfl ?_
    refine V_aload_n X dX11_add_108 rfl (q := 0) rfl ?_
    refine V_iload_n X dX11_add_109 rfl (q := 1) rfl ?_
    refine V_iload X dX11_add_110 (q := 5) rfl ?_
    refine V_iload_n X dX11_add_112 rfl (q := 2) rfl ?_
    refine V_callV_i X _ gO_13 rfl (As := [iv p0, iv x7, iv p2]) (st := [iv p0, .ref (a 13)]) (c_X11_child l hw) (cwV 3 X.2.2.2.1 gX11_add_X11_child rfl rfl rfl (by decide +kernel) ⟨Nat.le_of_ble_eq_true rfl, Nat.le_of_ble_eq_true rfl⟩) rfl (Nat.le_of_ble_eq_true rfl) ⟨Nat.le_of_ble_eq_true rfl, Nat.le_of_ble_eq_true rfl⟩ rfl dX11_add_113 (fun y32 M33 hw => ?_)
    refine V_aload_n X dX11_add_116 rfl (q := 0) rfl ?_
    refine V_get (C := RX11) (T := TX11) (N := 24) (ci := 11) X hi_X11_add_11 gO_13 rfl 5 (by decide) lk_X11_add_f25 (fun _ h9 => h9) rfl dX11_add_117 ?_
    refine V_iload_n X dX11_add_120 rfl (q := 1) rfl ?_
    obtain ⟨h34, hw⟩ := hw
    refine V_iald X (gA_13_5) h34 (by decide) dX11_add_121 ?_
    refine V_aload_n X dX11_add_122 rfl (q := 0) rfl ?_
    refine V_get (C := RX11) (T := TX11) (N := 24) (ci := 11) X hi_X11_add_11 gO_13 rfl 1 (by decide) lk_X11_add_f13 (fun _ h9 => h9) rfl dX11_add_123 ?_
    refine V_bipush X dX11_add_126 rfl ?_
    refine V_iload_n X dX11_add_128 rfl (q := 1) rfl ?_
    refine V_imul X dX11_add_129 ?_
    refine V_iload X dX11_add_130 (q := 5) rfl ?_
    refine V_iadd X dX11_add_132 ?_
    obtain ⟨h35, hw⟩ := hw
    refine V_iald X (gA_13_1) h35 (by decide) dX11_add_133 ?_
    refine V_iconst X dX11_add_134 ?_
    refine V_iadd X dX11_add_135 ?_
    refine V_iload X dX11_add_136 (q := 3) rfl ?_
    refine V_iload X dX11_add_138 (q := 4) rfl ?_
    refine V_callV_v X _ gO_13 rfl (As := [iv p0, iv y32, iv ((M33 13 5 p0.toNat)), iv ((M33 13 1 ((12 * p0) + x7).toNat) + 1), iv p3, iv p4]) (st := []) (c_X11_lays l hw) (cwV 6 X.2.2.2.1 gX11_add_X11_lays rfl rfl rfl (by decide +kernel) ⟨Nat.le_of_ble_eq_true rfl, Nat.le_of_ble_eq_true rfl⟩) rfl (Nat.le_of_ble_eq_true rfl) ⟨Nat.le_of_ble_eq_true rfl, Nat.le_of_ble_eq_true rfl⟩ rfl dX11_add_140 (fun M37 hw => ?_)
    refine V_aload_n X dX11_add_143 rfl (q := 0) rfl ?_
    refine V_get (C := RX11) (T := TX11) (N := 24) (ci := 11) X hi_X11_add_11 gO_13 rfl 5 (by decide) lk_X11_add_f25 (fun _ h9 => h9) rfl dX11_add_144 ?_
    refine V_iload_n X dX11_add_147 rfl (q := 1) rfl ?_
    obtain ⟨h38, hw⟩ := hw
    refine V_iald X (gA_13_5) h38 (by decide) dX11_add_148 ?_
    refine V_iconst X dX11_add_149 ?_
    refine V_isub X dX11_add_150 ?_
    exact V_iret X hr hw dX11_add_151
  · have hw := hw.2 q31
    refine V_iconst X dX11_add_104 ?_
    exact V_iret X hr hw dX11_add_105
set_option maxHeartbeats 4000000 in
set_option maxRecDepth 100000 in
theorem wkj_X11_add_97 {p : Program} {l : Launch} {e : Env} {s : State} {m : MethodId} {args : Array Value} {below : List Frame} {meth : Method} {c : Code} {D : va_G} {g : GT} {A : Nat → Prop} {a : Nat → Nat} {b : Nat → Nat → Nat} (X : vC p s m args meth c D g A RX11 wsX11_add cX11_add 9) (hr : meth.sig.returnType = (some .int)) {p0 : Int} {p1 : Int} {p2 : Int} {p3 : Int} {p4 : Int} {x7 : Int} {s0 : Int} {s1 : Int} {M : Mem} {Q : Int → Mem → Prop} (hw : wpj_X11_add_97 p0 p1 p2 p3 p4 x7 s0 s1 M Q) : vV p l e ({ frames := 3, cells := 0, slots := 0, locals := 64 } : Room) s m args below meth c D g A a b 9 0 0 (MQ below (cQi D g A a b Q) args s 0 0 A) M [(0, .ref (a 13)), (1, iv p0), (3, iv p2), (4, iv p3), (5, iv p4), (7, iv x7)] 97 [iv s0, iv s1, .ref (a 13)] := by
  unfold wpj_X11_add_97 at hw
  refine V_iconst X dX11_add_97 ?_
  exact wkj_X11_add_98 X hr hw
set_option maxHeartbeats 4000000 in
set_option maxRecDepth 100000 in
theorem wkj_X11_add_64 {p : Program} {l : Launch} {e : Env} {s : State} {m : MethodId} {args : Array Value} {below : List Frame} {meth : Method} {c : Code} {D : va_G} {g : GT} {A : Nat → Prop} {a : Nat → Nat} {b : Nat → Nat → Nat} (X : vC p s m args meth c D g A RX11 wsX11_add cX11_add 9) (hr : meth.sig.returnType = (some .int)) {p0 : Int} {p1 : Int} {p2 : Int} {p3 : Int} {p4 : Int} {x6 : Int} {x7 : Int} {s0 : Int} {M : Mem} {Q : Int → Mem → Prop} (hw : wpj_X11_add_64 p0 p1 p2 p3 p4 x6 x7 s0 M Q) : vV p l e ({ frames := 3, cells := 0, slots := 0, locals := 64 } : Room) s m args below meth c D g A a b 9 0 0 (MQ below (cQi D g A a b Q) args s 0 0 A) M [(0, .ref (a 13)), (1, iv p0), (3, iv p2), (4, iv p3), (5, iv p4), (6, iv x6), (7, iv x7)] 64 [iv s0] := by
  unfold wpj_X11_add_64 at hw
  refine V_istore (lv1 := [(0, .ref (a 13)), (1, iv p0), (3, iv p2), (4, iv p3), (5, iv p4), (6, iv x6), (7, iv x7), (8, iv s0)]) X [1, 2, 3, 4, 5, 6, 7, 0] dX11_add_64 (by decide) rfl ?_
  refine V_aload_n X dX11_add_66 rfl (q := 0) rfl ?_
  refine V_iload X dX11_add_67 (q := 7) rfl ?_
  refine V_iload X dX11_add_69 (q := 4) rfl ?_
  refine V_iconst X dX11_add_71 ?_
  refine V_bipush X dX11_add_72 rfl ?_
  refine V_callS_i X _ (As := [iv p4, iv 0, iv 99]) (st := [iv s0, .ref (a 13)]) (c_X11_in l hw) (va_cwS 3 X.2.2.2.1 gX11_add_X11_in rfl rfl rfl (by decide +kernel) ⟨Nat.le_of_ble_eq_true rfl, Nat.le_of_ble_eq_true rfl⟩) rfl (Nat.le_of_ble_eq_true rfl) ⟨Nat.le_of_ble_eq_true rfl, Nat.le_of_ble_eq_true rfl⟩ rfl dX11_add_74 (fun y21 M22 hw => ?_)
  refine V_iload X dX11_add_77 (q := 5) rfl ?_
  obtain ⟨h23, hw⟩ := hw
  refine V_if_eq (tgt := 97) X h23 dX11_add_79 (by decide) (fun q24 => ?_) (fun q24 => ?_)
  · have hw := hw.1 q24
    refine V_sub (lv1 := [(0, .ref (a 13)), (1, iv p0), (3, iv p2), (4, iv p3), (5, iv p4), (7, iv x7)]) [0, 1, 2, 3, 4, 6] rfl ?_
    exact wkj_X11_add_97 X hr hw
  · have hw := hw.2 q24
    refine V_aload_n X dX11_add_82 rfl (q := 0) rfl ?_
    refine V_get (C := RX11) (T := TX11) (N := 24) (ci := 11) X hi_X11_add_11 gO_13 rfl 5 (by decide) lk_X11_add_f25 (fun _ h9 => h9) rfl dX11_add_83 ?_
    refine V_iload_n X dX11_add_86 rfl (q := 1) rfl ?_
    obtain ⟨h25, hw⟩ := hw
    refine V_iald X (gA_13_5) h25 (by decide) dX11_add_87 ?_
    refine V_bipush X dX11_add_88 rfl ?_
    obtain ⟨h26, hw⟩ := hw
    refine V_icmp_ge (tgt := 97) X h26 ⟨by decide, by decide⟩ dX11_add_90 (by decide) (fun q27 => ?_) (fun q27 => ?_)
    · have hw := hw.1 q27
      refine V_sub (lv1 := [(0, .ref (a 13)), (1, iv p0), (3, iv p2), (4, iv p3), (5, iv p4), (7, iv x7)]) [0, 1, 2, 3, 4, 6] rfl ?_
      exact wkj_X11_add_97 X hr hw
    · have hw := hw.2 q27
      refine V_iconst X dX11_add_93 ?_
      refine V_goto (tgt := 98) X dX11_add_94 (by decide) ?_
      refine V_sub (lv1 := [(0, .ref (a 13)), (1, iv p0), (3, iv p2), (4, iv p3), (5, iv p4), (7, iv x7)]) [0, 1, 2, 3, 4, 6] rfl ?_
      exact wkj_X11_add_98 X hr hw
set_option maxHeartbeats 4000000 in
set_option maxRecDepth 100000 in
theorem wkj_X11_add_63 {p : Program} {l : Launch} {e : Env} {s : State} {m : MethodId} {args : Array Value} {below : List Frame} {meth : Method} {c : Code} {D : va_G} {g : GT} {A : Nat → Prop} {a : Nat → Nat} {b : Nat → Nat → Nat} (X : vC p s m args meth c D g A RX11 wsX11_add cX11_add 9) (hr : meth.sig.returnType = (some .int)) {p0 : Int} {p1 : Int} {p2 : Int} {p3 : Int} {p4 : Int} {x6 : Int} {x7 : Int} {M : Mem} {Q : Int → Mem → Prop} (hw : wpj_X11_add_63 p0 p1 p2 p3 p4 x6 x7 M Q) : vV p l e ({ frames := 3, cells := 0, slots := 0, locals := 64 } : Room) s m args below meth c D g A a b 9 0 0 (MQ below (cQi D g A a b Q) args s 0 0 A) M [(0, .ref (a 13)), (1, iv p0), (3, iv p2), (4, iv p3), (5, iv p4), (6, iv x6), (7, iv x7)] 63 [] := by
  unfold wpj_X11_add_63 at hw
  refine V_iconst X dX11_add_63 ?_
  exact wkj_X11_add_64 X hr hw
set_option maxHeartbeats 4000000 in
set_option maxRecDepth 100000 in
theorem wkj_X11_add_27 {p : Program} {l : Launch} {e : Env} {s : State} {m : MethodId} {args : Array Value} {below : List Frame} {meth : Method} {c : Code} {D : va_G} {g : GT} {A : Nat → Prop} {a : Nat → Nat} {b : Nat → Nat → Nat} (X : vC p s m args meth c D g A RX11 wsX11_add cX11_add 9) (hr : meth.sig.returnType = (some .int)) {p0 : Int} {p1 : Int} {p2 : Int} {p3 : Int} {p4 : Int} {x6 : Int} {s0 : Int} {M : Mem} {Q : Int → Mem → Prop} (hw : wpj_X11_add_27 p0 p1 p2 p3 p4 x6 s0 M Q) : vV p l e ({ frames := 3, cells := 0, slots := 0, locals := 64 } : Room) s m args below meth c D g A a b 9 0 0 (MQ below (cQi D g A a b Q) args s 0 0 A) M [(0, .ref (a 13)), (1, iv p0), (3, iv p2), (4, iv p3), (5, iv p4), (6, iv x6)] 27 [iv s0] := by
  unfold wpj_X11_add_27 at hw
  refine V_istore (lv1 := [(0, .ref (a 13)), (1, iv p0), (3, iv p2), (4, iv p3), (5, iv p4), (6, iv x6), (7, iv s0)]) X [1, 2, 3, 4, 5, 6, 0] dX11_add_27 (by decide) rfl ?_
  refine V_iload X dX11_add_29 (q := 5) rfl ?_
  obtain ⟨h9, hw⟩ := hw
  refine V_if_eq (tgt := 63) X h9 dX11_add_31 (by decide) (fun q10 => ?_) (fun q10 => ?_)
  · have hw := hw.1 q10
    exact wkj_X11_add_63 X hr hw
  · have hw := hw.2 q10
    refine V_iload_n X dX11_add_34 rfl (q := 2) rfl ?_
    refine V_iconst X dX11_add_35 ?_
    refine V_aload_n X dX11_add_36 rfl (q := 0) rfl ?_
    refine V_iload_n X dX11_add_37 rfl (q := 1) rfl ?_
    refine V_iload X dX11_add_38 (q := 6) rfl ?_
    refine V_callV_i X _ gO_13 rfl (As := [iv p0, iv s0]) (st := [iv 0, iv p2]) (c_X11_childrenOf l hw) (cwV 2 X.2.2.2.1 gX11_add_X11_childrenOf rfl rfl rfl (by decide +kernel) ⟨Nat.le_of_ble_eq_true rfl, Nat.le_of_ble_eq_true rfl⟩) rfl (Nat.le_of_ble_eq_true rfl) ⟨Nat.le_of_ble_eq_true rfl, Nat.le_of_ble_eq_true rfl⟩ rfl dX11_add_40 (fun y11 M12 hw => ?_)
    refine V_callS_i X _ (As := [iv p2, iv 0, iv y11]) (st := []) (c_X11_in l hw) (va_cwS 3 X.2.2.2.1 gX11_add_X11_in rfl rfl rfl (by decide +kernel) ⟨Nat.le_of_ble_eq_true rfl, Nat.le_of_ble_eq_true rfl⟩) rfl (Nat.le_of_ble_eq_true rfl) ⟨Nat.le_of_ble_eq_true rfl, Nat.le_of_ble_eq_true rfl⟩ rfl dX11_add_43 (fun y13 M14 hw => ?_)
    obtain ⟨h15, hw⟩ := hw
    refine V_if_eq (tgt := 63) X h15 dX11_add_46 (by decide) (fun q16 => ?_) (fun q16 => ?_)
    · have hw := hw.1 q16
      exact wkj_X11_add_63 X hr hw
    · have hw := hw.2 q16
      refine V_iload X dX11_add_49 (q := 3) rfl ?_
      refine V_iconst X dX11_add_51 ?_
      refine V_iconst X dX11_add_52 ?_
      refine V_callS_i X _ (As := [iv p3, iv 0, iv 3]) (st := []) (c_X11_in l hw) (va_cwS 3 X.2.2.2.1 gX11_add_X11_in rfl rfl rfl (by decide +kernel) ⟨Nat.le_of_ble_eq_true rfl, Nat.le_of_ble_eq_true rfl⟩) rfl (Nat.le_of_ble_eq_true rfl) ⟨Nat.le_of_ble_eq_true rfl, Nat.le_of_ble_eq_true rfl⟩ rfl dX11_add_53 (fun y17 M18 hw => ?_)
      obtain ⟨h19, hw⟩ := hw
      refine V_if_eq (tgt := 63) X h19 dX11_add_56 (by decide) (fun q20 => ?_) (fun q20 => ?_)
      · have hw := hw.1 q20
        exact wkj_X11_add_63 X hr hw
      · have hw := hw.2 q20
        refine V_iconst X dX11_add_59 ?_
        refine V_goto (tgt := 64) X dX11_add_60 (by decide) ?_
        exact wkj_X11_add_64 X hr hw
set_option maxHeartbeats 4000000 in
set_option maxRecDepth 100000 in
theorem wke_X11_add {p : Program} {l : Launch} {e : Env} {s : State} {m : MethodId} {args : Array Value} {below : List Frame} {meth : Method} {c : Code} {D : va_G} {g : GT} {A : Nat → Prop} {a : Nat → Nat} {b : Nat → Nat → Nat} (X : vC p s m args meth c D g A RX11 wsX11_add cX11_add 9) (hr : meth.sig.returnType = (some .int)) {p0 : Int} {p1 : Int} {p2 : Int} {p3 : Int} {p4 : Int} {M : Mem} {Q : Int → Mem → Prop} (hw : wpe_X11_add p0 p1 p2 p3 p4 M Q) : vV p l e ({ frames := 3, cells := 0, slots := 0, locals := 64 } : Room) s m args below meth c D g A a b 9 0 0 (MQ below (cQi D g A a b Q) args s 0 0 A) M [(0, .ref (a 13)), (1, iv p0), (2, iv p1), (3, iv p2), (4, iv p3), (5, iv p4)] 0 [] := by
  unfold wpe_X11_add at hw
  refine V_aload_n X dX11_add_0 rfl (q := 0) rfl ?_
  refine V_callV_v X _ gO_13 rfl (As := []) (st := []) (c_X11_measures l hw) (cwV 0 X.2.2.2.1 gX11_add_X11_measures rfl rfl rfl (by decide +kernel) ⟨Nat.le_of_ble_eq_true rfl, Nat.le_of_ble_eq_true rfl⟩) rfl (Nat.le_of_ble_eq_true rfl) ⟨Nat.le_of_ble_eq_true rfl, Nat.le_of_ble_eq_true rfl⟩ rfl dX11_add_1 (fun M2 hw => ?_)
  refine V_aload_n X dX11_add_4 rfl (q := 0) rfl ?_
  refine V_iload_n X dX11_add_5 rfl (q := 1) rfl ?_
  refine V_iload_n X dX11_add_6 rfl (q := 2) rfl ?_
  refine V_callV_i X _ gO_13 rfl (As := [iv p0, iv p1]) (st := []) (c_X11_isNode l hw) (cwV 2 X.2.2.2.1 gX11_add_X11_isNode rfl rfl rfl (by decide +kernel) ⟨Nat.le_of_ble_eq_true rfl, Nat.le_of_ble_eq_true rfl⟩) rfl (Nat.le_of_ble_eq_true rfl) ⟨Nat.le_of_ble_eq_true rfl, Nat.le_of_ble_eq_true rfl⟩ rfl dX11_add_7 (fun y3 M4 hw => ?_)
  refine V_istore (lv1 := [(0, .ref (a 13)), (1, iv p0), (2, iv p1), (3, iv p2), (4, iv p3), (5, iv p4), (6, iv y3)]) X [1, 2, 3, 4, 5, 6, 0] dX11_add_10 (by decide) rfl ?_
  refine V_iload X dX11_add_12 (q := 6) rfl ?_
  obtain ⟨h5, hw⟩ := hw
  refine V_if_eq (tgt := 26) X h5 dX11_add_14 (by decide) (fun q6 => ?_) (fun q6 => ?_)
  · have hw := hw.1 q6
    refine V_iconst X dX11_add_26 ?_
    refine V_sub (lv1 := [(0, .ref (a 13)), (1, iv p0), (3, iv p2), (4, iv p3), (5, iv p4), (6, iv y3)]) [0, 1, 3, 4, 5, 6] rfl ?_
    exact wkj_X11_add_27 X hr hw
  · have hw := hw.2 q6
    refine V_aload_n X dX11_add_17 rfl (q := 0) rfl ?_
    refine V_iload_n X dX11_add_18 rfl (q := 1) rfl ?_
    refine V_iload_n X dX11_add_19 rfl (q := 2) rfl ?_
    refine V_callV_i X _ gO_13 rfl (As := [iv p0, iv p1]) (st := []) (c_X11_place l hw) (cwV 2 X.2.2.2.1 gX11_add_X11_place rfl rfl rfl (by decide +kernel) ⟨Nat.le_of_ble_eq_true rfl, Nat.le_of_ble_eq_true rfl⟩) rfl (Nat.le_of_ble_eq_true rfl) ⟨Nat.le_of_ble_eq_true rfl, Nat.le_of_ble_eq_true rfl⟩ rfl dX11_add_20 (fun y7 M8 hw => ?_)
    refine V_goto (tgt := 27) X dX11_add_23 (by decide) ?_
    refine V_sub (lv1 := [(0, .ref (a 13)), (1, iv p0), (3, iv p2), (4, iv p3), (5, iv p4), (6, iv y3)]) [0, 1, 3, 4, 5, 6] rfl ?_
    exact wkj_X11_add_27 X hr hw
set_option maxHeartbeats 4000000 in
set_option maxRecDepth 100000 in
theorem c_X11_add (l : Launch) {p0 : Int} {p1 : Int} {p2 : Int} {p3 : Int} {p4 : Int} {D : va_G} {g : GT} {A : Nat → Prop} {a : Nat → Nat} {b : Nat → Nat → Nat} {M : Mem} {Q : Int → Mem → Prop} (hw : wp_X11_add M p0 p1 p2 p3 p4 Q) : Met l yX11_add wsX11_add ({ frames := 3, cells := 0, slots := 0, locals := 64 } : Room) (cPc D g A a b M [.ref (a 13), iv p0, iv p1, iv p2, iv p3, iv p4]) (cQi D g A a b Q) 0 0 A := by
  refine Met.ofW (cc := cX11_add) (maxL := 9) (ret := (some .int)) (by decide) rfl ?_
  intro p e s m args below meth c s₁ B hml hv
  obtain ⟨rfl, hP, hD, hG⟩ := hv
  have X : vC p s m _ meth c D g A RX11 wsX11_add cX11_add 9 := ⟨B.exec, B.bytes, findClass_of_methodNamed B.named, atoms_spec (ws := wsX11_add) B.pre, hG, hml, B.notSynchronized⟩
  have hr := B.returns
  have hl := lv_entry ([.ref (a 13), iv p0, iv p1, iv p2, iv p3, iv p4]) (n := 9) (Nat.le_of_ble_eq_true rfl)
  rw [lg_entry_eq]
  generalize (lg_sl ([.ref (a 13), iv p0, iv p1, iv p2, iv p3, iv p4]) ++ List.replicate (9 - (lg_sl ([.ref (a 13), iv p0, iv p1, iv p2, iv p3, iv p4])).length) Slot.unset).toArray = ls at hl ⊢
  have hl : lv_has ls 9 [(0, .ref (a 13)), (1, iv p0), (2, iv p1), (3, iv p2), (4, iv p3), (5, iv p4)] := hl
  exact wke_X11_add X hr  hw s.heap [] ls hP hD va_S.rf hl
