set_option maxRecDepth 20000 in
theorem ggX11_differentSubtrees_X11_measures : GoodIn wsX11_differentSubtrees wsX11_measures := goodIn_r _ [7, 2, 8, 9, 16, 17, 18, 19, 20, 21, 22, 23, 24, 25, 26, 27, 28, 29, 30, 31, 32, 33, 34, 35, 36, 37, 38, 39] (by decide +kernel) (by decide +kernel)
set_option maxRecDepth 20000 in
theorem gX11_differentSubtrees_X11_measures : GoodIn wsX11_differentSubtrees (wsV RX11 95 RX11 yX11_measures wsX11_measures) := goodIn_app (goodIn_of _ (by decide +kernel)) ggX11_differentSubtrees_X11_measures
set_option maxRecDepth 20000 in
theorem ggX11_differentSubtrees_X11_isSame : GoodIn wsX11_differentSubtrees wsX11_isSame := goodIn_r _ [13, 9, 14, 15, 8, 16, 17, 18, 19, 20, 21, 22, 23, 24, 25, 26, 27, 28, 29, 30, 31, 32, 33, 34, 35, 36, 37, 38, 39] (by decide +kernel) (by decide +kernel)
set_option maxRecDepth 20000 in
theorem gX11_differentSubtrees_X11_isSame : GoodIn wsX11_differentSubtrees (wsV RX11 198 RX11 yX11_isSame wsX11_isSame) := goodIn_app (goodIn_of _ (by decide +kernel)) ggX11_differentSubtrees_X11_isSame
theorem dX11_differentSubtrees_0 : decode cX11_differentSubtrees 0 = .ok (.aload_n 0, 1) := by decide +kernel
theorem dX11_differentSubtrees_1 : decode cX11_differentSubtrees 1 = .ok (.iconst 0, 1) := by decide +kernel
theorem dX11_differentSubtrees_2 : decode cX11_differentSubtrees 2 = .ok (.putfield 72, 3) := by decide +kernel
theorem dX11_differentSubtrees_5 : decode cX11_differentSubtrees 5 = .ok (.aload_n 0, 1) := by decide +kernel
theorem dX11_differentSubtrees_6 : decode cX11_differentSubtrees 6 = .ok (.invokevirtual 95, 3) := by decide +kernel
theorem dX11_differentSubtrees_9 : decode cX11_differentSubtrees 9 = .ok (.iconst 0, 1) := by decide +kernel
theorem dX11_differentSubtrees_10 : decode cX11_differentSubtrees 10 = .ok (.istore_n 1, 1) := by decide +kernel
theorem dX11_differentSubtrees_11 : decode cX11_differentSubtrees 11 = .ok (.iconst 0, 1) := by decide +kernel
theorem dX11_differentSubtrees_12 : decode cX11_differentSubtrees 12 = .ok (.istore_n 2, 1) := by decide +kernel
theorem dX11_differentSubtrees_13 : decode cX11_differentSubtrees 13 = .ok (.iload_n 2, 1) := by decide +kernel
theorem dX11_differentSubtrees_14 : decode cX11_differentSubtrees 14 = .ok (.bipush 24, 2) := by decide +kernel
theorem dX11_differentSubtrees_16 : decode cX11_differentSubtrees 16 = .ok (.if_icmp .ge 96, 3) := by decide +kernel
theorem dX11_differentSubtrees_19 : decode cX11_differentSubtrees 19 = .ok (.iload_n 2, 1) := by decide +kernel
theorem dX11_differentSubtrees_20 : decode cX11_differentSubtrees 20 = .ok (.bipush 12, 2) := by decide +kernel
theorem dX11_differentSubtrees_22 : decode cX11_differentSubtrees 22 = .ok (.irem, 1) := by decide +kernel
theorem dX11_differentSubtrees_23 : decode cX11_differentSubtrees 23 = .ok (.aload_n 0, 1) := by decide +kernel
theorem dX11_differentSubtrees_24 : decode cX11_differentSubtrees 24 = .ok (.getfield 25, 3) := by decide +kernel
theorem dX11_differentSubtrees_27 : decode cX11_differentSubtrees 27 = .ok (.iload_n 2, 1) := by decide +kernel
theorem dX11_differentSubtrees_28 : decode cX11_differentSubtrees 28 = .ok (.bipush 12, 2) := by decide +kernel
theorem dX11_differentSubtrees_30 : decode cX11_differentSubtrees 30 = .ok (.idiv, 1) := by decide +kernel
theorem dX11_differentSubtrees_31 : decode cX11_differentSubtrees 31 = .ok (.iaload, 1) := by decide +kernel
theorem dX11_differentSubtrees_32 : decode cX11_differentSubtrees 32 = .ok (.if_icmp .ge 7, 3) := by decide +kernel
theorem dX11_differentSubtrees_35 : decode cX11_differentSubtrees 35 = .ok (.iconst 1, 1) := by decide +kernel
theorem dX11_differentSubtrees_36 : decode cX11_differentSubtrees 36 = .ok (.goto 4, 3) := by decide +kernel
theorem dX11_differentSubtrees_39 : decode cX11_differentSubtrees 39 = .ok (.iconst 0, 1) := by decide +kernel
theorem dX11_differentSubtrees_40 : decode cX11_differentSubtrees 40 = .ok (.istore_n 3, 1) := by decide +kernel
theorem dX11_differentSubtrees_41 : decode cX11_differentSubtrees 41 = .ok (.iconst 0, 1) := by decide +kernel
theorem dX11_differentSubtrees_42 : decode cX11_differentSubtrees 42 = .ok (.istore 4, 2) := by decide +kernel
theorem dX11_differentSubtrees_44 : decode cX11_differentSubtrees 44 = .ok (.iload 4, 2) := by decide +kernel
theorem dX11_differentSubtrees_46 : decode cX11_differentSubtrees 46 = .ok (.iload_n 2, 1) := by decide +kernel
theorem dX11_differentSubtrees_47 : decode cX11_differentSubtrees 47 = .ok (.if_icmp .ge 47, 3) := by decide +kernel
theorem dX11_differentSubtrees_50 : decode cX11_differentSubtrees 50 = .ok (.iload_n 3, 1) := by decide +kernel
theorem dX11_differentSubtrees_51 : decode cX11_differentSubtrees 51 = .ok (.ifCond .eq 43, 3) := by decide +kernel
theorem dX11_differentSubtrees_54 : decode cX11_differentSubtrees 54 = .ok (.iload 4, 2) := by decide +kernel
theorem dX11_differentSubtrees_56 : decode cX11_differentSubtrees 56 = .ok (.bipush 12, 2) := by decide +kernel
theorem dX11_differentSubtrees_58 : decode cX11_differentSubtrees 58 = .ok (.irem, 1) := by decide +kernel
theorem dX11_differentSubtrees_59 : decode cX11_differentSubtrees 59 = .ok (.aload_n 0, 1) := by decide +kernel
theorem dX11_differentSubtrees_60 : decode cX11_differentSubtrees 60 = .ok (.getfield 25, 3) := by decide +kernel
theorem dX11_differentSubtrees_63 : decode cX11_differentSubtrees 63 = .ok (.iload 4, 2) := by decide +kernel
theorem dX11_differentSubtrees_65 : decode cX11_differentSubtrees 65 = .ok (.bipush 12, 2) := by decide +kernel
theorem dX11_differentSubtrees_67 : decode cX11_differentSubtrees 67 = .ok (.idiv, 1) := by decide +kernel
theorem dX11_differentSubtrees_68 : decode cX11_differentSubtrees 68 = .ok (.iaload, 1) := by decide +kernel
theorem dX11_differentSubtrees_69 : decode cX11_differentSubtrees 69 = .ok (.if_icmp .ge 13, 3) := by decide +kernel
theorem dX11_differentSubtrees_72 : decode cX11_differentSubtrees 72 = .ok (.aload_n 0, 1) := by decide +kernel
theorem dX11_differentSubtrees_73 : decode cX11_differentSubtrees 73 = .ok (.iload 4, 2) := by decide +kernel
theorem dX11_differentSubtrees_75 : decode cX11_differentSubtrees 75 = .ok (.iload_n 2, 1) := by decide +kernel
theorem dX11_differentSubtrees_76 : decode cX11_differentSubtrees 76 = .ok (.invokevirtual 198, 3) := by decide +kernel
theorem dX11_differentSubtrees_79 : decode cX11_differentSubtrees 79 = .ok (.ifCond .ne 7, 3) := by decide +kernel
theorem dX11_differentSubtrees_82 : decode cX11_differentSubtrees 82 = .ok (.iconst 1, 1) := by decide +kernel
theorem dX11_differentSubtrees_83 : decode cX11_differentSubtrees 83 = .ok (.goto 4, 3) := by decide +kernel
theorem dX11_differentSubtrees_86 : decode cX11_differentSubtrees 86 = .ok (.iconst 0, 1) := by decide +kernel
theorem dX11_differentSubtrees_87 : decode cX11_differentSubtrees 87 = .ok (.istore_n 3, 1) := by decide +kernel
theorem dX11_differentSubtrees_88 : decode cX11_differentSubtrees 88 = .ok (.iinc 4 1, 3) := by decide +kernel
theorem dX11_differentSubtrees_91 : decode cX11_differentSubtrees 91 = .ok (.goto (-47), 3) := by decide +kernel
theorem dX11_differentSubtrees_94 : decode cX11_differentSubtrees 94 = .ok (.iload_n 1, 1) := by decide +kernel
theorem dX11_differentSubtrees_95 : decode cX11_differentSubtrees 95 = .ok (.iload_n 3, 1) := by decide +kernel
theorem dX11_differentSubtrees_96 : decode cX11_differentSubtrees 96 = .ok (.ifCond .eq 7, 3) := by decide +kernel
theorem dX11_differentSubtrees_99 : decode cX11_differentSubtrees 99 = .ok (.iconst 1, 1) := by decide +kernel
theorem dX11_differentSubtrees_100 : decode cX11_differentSubtrees 100 = .ok (.goto 4, 3) := by decide +kernel
theorem dX11_differentSubtrees_103 : decode cX11_differentSubtrees 103 = .ok (.iconst 0, 1) := by decide +kernel
theorem dX11_differentSubtrees_104 : decode cX11_differentSubtrees 104 = .ok (.iadd, 1) := by decide +kernel
theorem dX11_differentSubtrees_105 : decode cX11_differentSubtrees 105 = .ok (.istore_n 1, 1) := by decide +kernel
theorem dX11_differentSubtrees_106 : decode cX11_differentSubtrees 106 = .ok (.iinc 2 1, 3) := by decide +kernel
theorem dX11_differentSubtrees_109 : decode cX11_differentSubtrees 109 = .ok (.goto (-96), 3) := by decide +kernel
theorem dX11_differentSubtrees_112 : decode cX11_differentSubtrees 112 = .ok (.iload_n 1, 1) := by decide +kernel
theorem dX11_differentSubtrees_113 : decode cX11_differentSubtrees 113 = .ok (.ireturn, 1) := by decide +kernel
theorem lk_X11_differentSubtrees_f72 : Cond.fieldLink RX11 72 "TreeComparerModel" "thrown" "I" ∈ wsX11_differentSubtrees := by decide +kernel
theorem hi_X11_differentSubtrees_11 : ∀ w ∈ u_ws RX11 TX11 24, w ∈ wsX11_differentSubtrees := by decide +kernel
theorem lk_X11_differentSubtrees_f25 : Cond.fieldLink RX11 25 "TreeComparerModel" "many" "[I" ∈ wsX11_differentSubtrees := by decide +kernel
def wpj_X11_differentSubtrees_104 (x2 : Int) (s0 : Int) (s1 : Int) (M : Mem) (J13 : Int → Int → Mem → Prop) (J44 : Int → Int → Int → Int → Mem → Prop) (Q : Int → Mem → Prop) : Prop := (∀ y29 : Int, y29 = s1 + s0 → J13 y29 (x2 + 1) M)
def wpj_X11_differentSubtrees_94 (x1 : Int) (x2 : Int) (x3 : Int) (M : Mem) (J13 : Int → Int → Mem → Prop) (J44 : Int → Int → Int → Int → Mem → Prop) (Q : Int → Mem → Prop) : Prop := inR x3 ∧ ((x3 = 0 → wpj_X11_differentSubtrees_104 x2 0 x1 M J13 J44 Q) ∧ (¬ (x3 = 0) → wpj_X11_differentSubtrees_104 x2 1 x1 M J13 J44 Q))
def wpj_X11_differentSubtrees_87 (x1 : Int) (x2 : Int) (x4 : Int) (s0 : Int) (M : Mem) (J13 : Int → Int → Mem → Prop) (J44 : Int → Int → Int → Int → Mem → Prop) (Q : Int → Mem → Prop) : Prop := J44 x1 x2 s0 (x4 + 1) M
def wpj_X11_differentSubtrees_82 (x1 : Int) (x2 : Int) (x4 : Int) (M : Mem) (J13 : Int → Int → Mem → Prop) (J44 : Int → Int → Int → Int → Mem → Prop) (Q : Int → Mem → Prop) : Prop := wpj_X11_differentSubtrees_87 x1 x2 x4 1 M J13 J44 Q
def wph_X11_differentSubtrees_44 (x1 : Int) (x2 : Int) (x3 : Int) (x4 : Int) (M : Mem) (J13 : Int → Int → Mem → Prop) (J44 : Int → Int → Int → Int → Mem → Prop) (Q : Int → Mem → Prop) : Prop := inR x4 ∧ inR x2 ∧ ((x2 ≤ x4 → wpj_X11_differentSubtrees_94 x1 x2 x3 M J13 J44 Q) ∧ (¬ (x2 ≤ x4) → inR x3 ∧ ((x3 = 0 → wpj_X11_differentSubtrees_94 x1 x2 x3 M J13 J44 Q) ∧ (¬ (x3 = 0) → ((0 : Int) ≤ x4 ∧ x4 < 2147483648) ∧ ((0 : Int) ≤ x4 ∧ x4 < 2147483648) ∧ ((0 : Int) ≤ (x4) / 12 ∧ (x4) / 12 < 2) ∧ inR ((x4) % 12) ∧ inR (M 13 5 ((x4) / 12).toNat) ∧ (((M 13 5 ((x4) / 12).toNat) ≤ (x4) % 12 → wpj_X11_differentSubtrees_82 x1 x2 x4 M J13 J44 Q) ∧ (¬ ((M 13 5 ((x4) / 12).toNat) ≤ (x4) % 12) → wp_X11_isSame M x4 x2 (fun y23 M24 => inR y23 ∧ ((y23 ≠ 0 → wpj_X11_differentSubtrees_87 x1 x2 x4 0 M24 J13 J44 Q) ∧ (¬ (y23 ≠ 0) → wpj_X11_differentSubtrees_82 x1 x2 x4 M24 J13 J44 Q)))))))))
def wpj_X11_differentSubtrees_40 (x1 : Int) (x2 : Int) (s0 : Int) (M : Mem) (J13 : Int → Int → Mem → Prop) (J44 : Int → Int → Int → Int → Mem → Prop) (Q : Int → Mem → Prop) : Prop := J44 x1 x2 s0 0 M
def wph_X11_differentSubtrees_13 (x1 : Int) (x2 : Int) (M : Mem) (J13 : Int → Int → Mem → Prop) (J44 : Int → Int → Int → Int → Mem → Prop) (Q : Int → Mem → Prop) : Prop := inR x2 ∧ ((24 ≤ x2 → Q x1 M) ∧ (¬ (24 ≤ x2) → ((0 : Int) ≤ x2 ∧ x2 < 2147483648) ∧ ((0 : Int) ≤ x2 ∧ x2 < 2147483648) ∧ ((0 : Int) ≤ (x2) / 12 ∧ (x2) / 12 < 2) ∧ inR ((x2) % 12) ∧ inR (M 13 5 ((x2) / 12).toNat) ∧ (((M 13 5 ((x2) / 12).toNat) ≤ (x2) % 12 → wpj_X11_differentSubtrees_40 x1 x2 0 M J13 J44 Q) ∧ (¬ ((M 13 5 ((x2) / 12).toNat) ≤ (x2) % 12) → wpj_X11_differentSubtrees_40 x1 x2 1 M J13 J44 Q))))
def wpe_X11_differentSubtrees (M : Mem) (J13 : Int → Int → Mem → Prop) (J44 : Int → Int → Int → Int → Mem → Prop) (Q : Int → Mem → Prop) : Prop := (∀ M1 : Mem, M1 = mset M 13 23 0 0 → wp_X11_measures M1 (fun M3 => J13 0 0 M3))
def wp_X11_differentSubtrees (M : Mem) (Q : Int → Mem → Prop) : Prop := ∃ (I13 : Nat → Int → Int → Mem → Prop) (I44 : Nat → Int → Int → Int → Int → Mem → Prop), wpe_X11_differentSubtrees M (fun (x1 : Int) (x2 : Int) (M1 : Mem) => ∃ n1 : Nat, I13 n1 x1 x2 M1) (fun (x1 : Int) (x2 : Int) (x3 : Int) (x4 : Int) (M1 : Mem) => ∃ n1 : Nat, I44 n1 x1 x2 x3 x4 M1) Q ∧ (∀ (n : Nat) (x1 : Int) (x2 : Int) (M : Mem), I13 n x1 x2 M → wph_X11_differentSubtrees_13 x1 x2 M (fun (x1 : Int) (x2 : Int) (M1 : Mem) => ∃ n1 : Nat, n1 < n ∧ I13 n1 x1 x2 M1) (fun (x1 : Int) (x2 : Int) (x3 : Int) (x4 : Int) (M1 : Mem) => ∃ n1 : Nat, n1 < n ∧ I44 n1 x1 x2 x3 x4 M1) Q) ∧ (∀ (n : Nat) (x1 : Int) (x2 : Int) (x3 : Int) (x4 : Int) (M : Mem), I44 n x1 x2 x3 x4 M → wph_X11_differentSubtrees_44 x1 x2 x3 x4 M (fun (x1 : Int) (x2 : Int) (M1 : Mem) => ∃ n1 : Nat, n1 < n ∧ I13 n1 x1 x2 M1) (fun (x1 : Int) (x2 : Int) (x3 : Int) (x4 : Int) (M1 : Mem) => ∃ n1 : Nat, n1 < n ∧ I44 n1 x1 x2 x3 x4 M1) Q)
set_option maxHeartbeats 4000000 in
set_option maxRecDepth 100000 in
theorem wkj_X11_differentSubtrees_104 {p : Program} {l : Launch} {e : Env} {s : State} {m : MethodId} {args : Array Value} {below : List Frame} {meth : Method} {c : Code} {D : va_G} {g : GT} {A : Nat → Prop} {a : Nat → Nat} {b : Nat → Nat → Nat} (X : vC p s m args meth c D g A RX11 wsX11_differentSubtrees cX11_differentSubtrees 5) (hr : meth.sig.returnType = (some .int)) {x2 : Int} {s0 : Int} {s1 : Int} {M : Mem} {J13 : Int → Int → Mem → Prop} {J44 : Int → Int → Int → Int → Mem → Prop} {Q : Int → Mem → Prop} (hJ13 : ∀ (x1 : Int) (x2 : Int) (M : Mem), J13 x1 x2 M → vV p l e ({ frames := 1, cells := 0, slots := 0, locals := 24 } : Room) s m args below meth c D g A a b 5 0 0 (MQ below (cQi D g A a b Q) args s 0 0 A) M [(0, .ref (a 13)), (1, iv x1), (2, iv x2)] 13 []) (hJ44 : ∀ (x1 : Int) (x2 : Int) (x3 : Int) (x4 : Int) (M : Mem), J44 x1 x2 x3 x4 M → vV p l e ({ frames := 1, cells := 0, slots := 0, locals := 24 } : Room) s m args below meth c D g A a b 5 0 0 (MQ below (cQi D g A a b Q) args s 0 0 A) M [(0, .ref (a 13)), (1, iv x1), (2, iv x2), (3, iv x3), (4, iv x4)] 44 []) (hw : wpj_X11_differentSubtrees_104 x2 s0 s1 M J13 J44 Q) : vV p l e ({ frames := 1, cells := 0, slots := 0, locals := 24 } : Room) s m args below meth c D g A a b 5 0 0 (MQ below (cQi D g A a b Q) args s 0 0 A) M [(0, .ref (a 13)), (2, iv x2)] 104 [iv s0, iv s1] := by
  unfold wpj_X11_differentSubtrees_104 at hw
  refine V_iadd X dX11_differentSubtrees_104 ?_
  refine V_top (fun y29 ey29 => ?_)
  have hw := hw y29 ey29
  refine V_istore_n (lv1 := [(0, .ref (a 13)), (1, iv y29), (2, iv x2)]) X [1, 0, 2] dX11_differentSubtrees_105 rfl (by decide) rfl ?_
  refine V_iinc (lv1 := [(0, .ref (a 13)), (1, iv y29), (2, iv (x2 + 1))]) X [1, 2, 0] dX11_differentSubtrees_106 (q := 2) rfl (by decide) rfl ?_
  refine V_goto (tgt := 13) X dX11_differentSubtrees_109 (by decide) ?_
  exact hJ13 _ _ _ hw
set_option maxHeartbeats 4000000 in
set_option maxRecDepth 100000 in
theorem wkj_X11_differentSubtrees_94 {p : Program} {l : Launch} {e : Env} {s : State} {m : MethodId} {args : Array Value} {below : List Frame} {meth : Method} {c : Code} {D : va_G} {g : GT} {A : Nat → Prop} {a : Nat → Nat} {b : Nat → Nat → Nat} (X : vC p s m args meth c D g A RX11 wsX11_differentSubtrees cX11_differentSubtrees 5) (hr : meth.sig.returnType = (some .int)) {x1 : Int} {x2 : Int} {x3 : Int} {M : Mem} {J13 : Int → Int → Mem → Prop} {J44 : Int → Int → Int → Int → Mem → Prop} {Q : Int → Mem → Prop} (hJ13 : ∀ (x1 : Int) (x2 : Int) (M : Mem), J13 x1 x2 M → vV p l e ({ frames := 1, cells := 0, slots := 0, locals := 24 } : Room) s m args below meth c D g A a b 5 0 0 (MQ below (cQi D g A a b Q) args s 0 0 A) M [(0, .ref (a 13)), (1, iv x1), (2, iv x2)] 13 []) (hJ44 : ∀ (x1 : Int) (x2 : Int) (x3 : Int) (x4 : Int) (M : Mem), J44 x1 x2 x3 x4 M → vV p l e ({ frames := 1, cells := 0, slots := 0, locals := 24 } : Room) s m args below meth c D g A a b 5 0 0 (MQ below (cQi D g A a b Q) args s 0 0 A) M [(0, .ref (a 13)), (1, iv x1), (2, iv x2), (3, iv x3), (4, iv x4)] 44 []) (hw : wpj_X11_differentSubtrees_94 x1 x2 x3 M J13 J44 Q) : vV p l e ({ frames := 1, cells := 0, slots := 0, locals := 24 } : Room) s m args below meth c D g A a b 5 0 0 (MQ below (cQi D g A a b Q) args s 0 0 A) M [(0, .ref (a 13)), (1, iv x1), (2, iv x2), (3, iv x3)] 94 [] := by
  unfold wpj_X11_differentSubtrees_94 at hw
  refine V_iload_n X dX11_differentSubtrees_94 rfl (q := 1) rfl ?_
  refine V_iload_n X dX11_differentSubtrees_95 rfl (q := 3) rfl ?_
  obtain ⟨h27, hw⟩ := hw
  refine V_if_eq (tgt := 103) X h27 dX11_differentSubtrees_96 (by decide) (fun q28 => ?_) (fun q28 => ?_)
  · have hw := hw.1 q28
    refine V_iconst X dX11_differentSubtrees_103 ?_
    refine V_sub (lv1 := [(0, .ref (a 13)), (2, iv x2)]) [0, 2] rfl ?_
    exact wkj_X11_differentSubtrees_104 X hr hJ13 hJ44 hw
  · have hw := hw.2 q28
    refine V_iconst X dX11_differentSubtrees_99 ?_
    refine V_goto (tgt := 104) X dX11_differentSubtrees_100 (by decide) ?_
    refine V_sub (lv1 := [(0, .ref (a 13)), (2, iv x2)]) [0, 2] rfl ?_
    exact wkj_X11_differentSubtrees_104 X hr hJ13 hJ44 hw
set_option maxHeartbeats 4000000 in
set_option maxRecDepth 100000 in
theorem wkj_X11_differentSubtrees_87 {p : Program} {l : Launch} {e : Env} {s : State} {m : MethodId} {args : Array Value} {below : List Frame} {meth : Method} {c : Code} {D : va_G} {g : GT} {A : Nat → Prop} {a : Nat → Nat} {b : Nat → Nat → Nat} (X : vC p s m args meth c D g A RX11 wsX11_differentSubtrees cX11_differentSubtrees 5) (hr : meth.sig.returnType = (some .int)) {x1 : Int} {x2 : Int} {x4 : Int} {s0 : Int} {M : Mem} {J13 : Int → Int → Mem → Prop} {J44 : Int → Int → Int → Int → Mem → Prop} {Q : Int → Mem → Prop} (hJ13 : ∀ (x1 : Int) (x2 : Int) (M : Mem), J13 x1 x2 M → vV p l e ({ frames := 1, cells := 0, slots := 0, locals := 24 } : Room) s m args below meth c D g A a b 5 0 0 (MQ below (cQi D g A a b Q) args s 0 0 A) M [(0, .ref (a 13)), (1, iv x1), (2, iv x2)] 13 []) (hJ44 : ∀ (x1 : Int) (x2 : Int) (x3 : Int) (x4 : Int) (M : Mem), J44 x1 x2 x3 x4 M → vV p l e ({ frames := 1, cells := 0, slots := 0, locals := 24 } : Room) s m args below meth c D g A a b 5 0 0 (MQ below (cQi D g A a b Q) args s 0 0 A) M [(0, .ref (a 13)), (1, iv x1), (2, iv x2), (3, iv x3), (4, iv x4)] 44 []) (hw : wpj_X11_differentSubtrees_87 x1 x2 x4 s0 M J13 J44 Q) : vV p l e ({ frames := 1, cells := 0, slots := 0, locals := 24 } : Room) s m args below meth c D g A a b 5 0 0 (MQ below (cQi D g A a b Q) args s 0 0 A) M [(0, .ref (a 13)), (1, iv x1), (2, iv x2), (4, iv x4)] 87 [iv s0] := by
  unfold wpj_X11_differentSubtrees_87 at hw
  refine V_istore_n (lv1 := [(0, .ref (a 13)), (1, iv x1), (2, iv x2), (3, iv s0), (4, iv x4)]) X [1, 2, 3, 0, 4] dX11_differentSubtrees_87 rfl (by decide) rfl ?_
  refine V_iinc (lv1 := [(0, .ref (a 13)), (1, iv x1), (2, iv x2), (3, iv s0), (4, iv (x4 + 1))]) X [1, 2, 3, 4, 0] dX11_differentSubtrees_88 (q := 4) rfl (by decide) rfl ?_
  refine V_goto (tgt := 44) X dX11_differentSubtrees_91 (by decide) ?_
  exact hJ44 _ _ _ _ _ hw
set_option maxHeartbeats 4000000 in
set_option maxRecDepth 100000 in
theorem wkj_X11_differentSubtrees_82 {p : Program} {l : Launch} {e : Env} {s : State} {m : MethodId} {args : Array Value} {below : List Frame} {meth : Method} {c : Code} {D : va_G} {g : GT} {A : Nat → Prop} {a : Nat → Nat} {b : Nat → Nat → Nat} (X : vC p s m args meth c D g A RX11 wsX11_differentSubtrees cX11_differentSubtrees 5) (hr : meth.sig.returnType = (some .int)) {x1 : Int} {x2 : Int} {x4 : Int} {M : Mem} {J13 : Int → Int → Mem → Prop} {J44 : Int → Int → Int → Int → Mem → Prop} {Q : Int → Mem → Prop} (hJ13 : ∀ (x1 : Int) (x2 : Int) (M : Mem), J13 x1 x2 M → vV p l e ({ frames := 1, cells := 0, slots := 0, locals := 24 } : Room) s m args below meth c D g A a b 5 0 0 (MQ below (cQi D g A a b Q) args s 0 0 A) M [(0, .ref (a 13)), (1, iv x1), (2, iv x2)] 13 []) (hJ44 : ∀ (x1 : Int) (x2 : Int) (x3 : Int) (x4 : Int) (M : Mem), J44 x1 x2 x3 x4 M → vV p l e ({ frames := 1, cells := 0, slots := 0, locals := 24 } : Room) s m args below meth c D g A a b 5 0 0 (MQ below (cQi D g A a b Q) args s 0 0 A) M [(0, .ref (a 13)), (1, iv x1), (2, iv x2), (3, iv x3), (4, iv x4)] 44 []) (hw : wpj_X11_differentSubtrees_82 x1 x2 x4 M J13 J44 Q) : vV p l e ({ frames := 1, cells := 0, slots := 0, locals := 24 } : Room) s m args below meth c D g A a b 5 0 0 (MQ below (cQi D g A a b Q) args s 0 0 A) M [(0, .ref (a 13)), (1, iv x1), (2, iv x2), (4, iv x4)] 82 [] := by
  unfold wpj_X11_differentSubtrees_82 at hw
  refine V_iconst X dX11_differentSubtrees_82 ?_
  refine V_goto (tgt := 87) X dX11_differentSubtrees_83 (by decide) ?_
  exact wkj_X11_differentSubtrees_87 X hr hJ13 hJ44 hw
set_option maxHeartbeats 4000000 in
set_option maxRecDepth 100000 in
theorem wkh_X11_differentSubtrees_44 {p : Program} {l : Launch} {e : Env} {s : State} {m : MethodId} {args : Array Value} {below : List Frame} {meth : Method} {c : Code} {D : va_G} {g : GT} {A : Nat → Prop} {a : Nat → Nat} {b : Nat → Nat → Nat} (X : vC p s m args meth c D g A RX11 wsX11_differentSubtrees cX11_differentSubtrees 5) (hr : meth.sig.returnType = (some .int)) {x1 : Int} {x2 : Int} {x3 : Int} {x4 : Int} {M : Mem} {J13 : Int → Int → Mem → Prop} {J44 : Int → Int → Int → Int → Mem → Prop} {Q : Int → Mem → Prop} (hJ13 : ∀ (x1 : Int) (x2 : Int) (M : Mem), J13 x1 x2 M → vV p l e ({ frames := 1, cells := 0, slots := 0, locals := 24 } : Room) s m args below meth c D g A a b 5 0 0 (MQ below (cQi D g A a b Q) args s 0 0 A) M [(0, .ref (a 13)), (1, iv x1), (2, iv x2)] 13 []) (hJ44 : ∀ (x1 : Int) (x2 : Int) (x3 : Int) (x4 : Int) (M : Mem), J44 x1 x2 x3 x4 M → vV p l e ({ frames := 1, cells := 0, slots := 0, locals := 24 } : Room) s m args below meth c D g A a b 5 0 0 (MQ below (cQi D g A a b Q) args s 0 0 A) M [(0, .ref (a 13)), (1, iv x1), (2, iv x2), (3, iv x3), (4, iv x4)] 44 []) (hw : wph_X11_differentSubtrees_44 x1 x2 x3 x4 M J13 J44 Q) : vV p l e ({ frames := 1, cells := 0, slots := 0, locals := 24 } : Room) s m args below meth c D g A a b 5 0 0 (MQ below (cQi D g A a b Q) args s 0 0 A) M [(0, .ref (a 13)), (1, iv x1), (2, iv x2), (3, iv x3), (4, iv x4)] 44 [] := by
  unfold wph_X11_differentSubtrees_44 at hw
  refine V_iload X dX11_differentSubtrees_44 (q := 4) rfl ?_
  refine V_iload_n X dX11_differentSubtrees_46 rfl (q := 2) rfl ?_
  obtain ⟨h12, h13, hw⟩ := hw
  refine V_icmp_ge (tgt := 94) X h12 h13 dX11_differentSubtrees_47 (by decide) (fun q14 => ?_) (fun q14 => ?_)
  · have hw := hw.1 q14
    refine V_sub (lv1 := [(0, .ref (a 13)), (1, iv x1), (2, iv x2), (3, iv x3)]) [0, 1, 2, 3] rfl ?_
    exact wkj_X11_differentSubtrees_94 X hr hJ13 hJ44 hw
  · have hw := hw.2 q14
    refine V_iload_n X dX11_differentSubtrees_50 rfl (q := 3) rfl ?_
    obtain ⟨h15, hw⟩ := hw
    refine V_if_eq (tgt := 94) X h15 dX11_differentSubtrees_51 (by decide) (fun q16 => ?_) (fun q16 => ?_)
    · have hw := hw.1 q16
      refine V_sub (lv1 := [(0, .ref (a 13)), (1, iv x1), (2, iv x2), (3, iv x3)]) [0, 1, 2, 3] rfl ?_
      exact wkj_X11_differentSubtrees_94 X hr hJ13 hJ44 hw
    · have hw := hw.2 q16
      refine V_iload X dX11_differentSubtrees_54 (q := 4) rfl ?_
      refine V_bipush X dX11_differentSubtrees_56 rfl ?_
      obtain ⟨h17, hw⟩ := hw
      refine V_irem X h17 (by decide) dX11_differentSubtrees_58 ?_
      refine V_aload_n X dX11_differentSubtrees_59 rfl (q := 0) rfl ?_
      refine V_get (C := RX11) (T := TX11) (N := 24) (ci := 11) X hi_X11_differentSubtrees_11 gO_13 rfl 5 (by decide) lk_X11_differentSubtrees_f25 (fun _ h9 => h9) rfl dX11_differentSubtrees_60 ?_
      refine V_iload X dX11_differentSubtrees_63 (q := 4) rfl ?_
      refine V_bipush X dX11_differentSubtrees_65 rfl ?_
      obtain ⟨h18, hw⟩ := hw
      refine V_idiv X h18 (by decide) dX11_differentSubtrees_67 ?_
      obtain ⟨h19, hw⟩ := hw
      refine V_iald X (gA_13_5) h19 (by decide) dX11_differentSubtrees_68 ?_
      obtain ⟨h20, h21, hw⟩ := hw
      refine V_icmp_ge (tgt := 82) X h20 h21 dX11_differentSubtrees_69 (by decide) (fun q22 => ?_) (fun q22 => ?_)
      · have hw := hw.1 q22
        refine V_sub (lv1 := [(0, .ref (a 13)), (1, iv x1), (2, iv x2), (4, iv x4)]) [0, 1, 2, 4] rfl ?_
        exact wkj_X11_differentSubtrees_82 X hr hJ13 hJ44 hw
      · have hw := hw.2 q22
        refine V_aload_n X dX11_differentSubtrees_72 rfl (q := 0) rfl ?_
        refine V_iload X dX11_differentSubtrees_73 (q := 4) rfl ?_
        refine V_iload_n X dX11_differentSubtrees_75 rfl (q := 2) rfl ?_
        refine V_callV_i X _ gO_13 rfl (As := [iv x4, iv x2]) (st := []) (c_X11_isSame l hw) (cwV 2 X.2.2.2.1 gX11_differentSubtrees_X11_isSame rfl rfl rfl (by decide +kernel) ⟨Nat.le_of_ble_eq_true rfl, Nat.le_of_ble_eq_true rfl⟩) rfl (Nat.le_of_ble_eq_true rfl) ⟨Nat.le_of_ble_eq_true rfl, Nat.le_of_ble_eq_true rfl⟩ rfl dX11_differentSubtrees_76 (fun y23 M24 hw => ?_)
        obtain ⟨h25, hw⟩ := hw
        refine V_if_ne (tgt := 86) X h25 dX11_differentSubtrees_79 (by decide) (fun q26 => ?_) (fun q26 => ?_)
        · have hw := hw.1 q26
          refine V_iconst X dX11_differentSubtrees_86 ?_
          refine V_sub (lv1 := [(0, .ref (a 13)), (1, iv x1), (2, iv x2), (4, iv x4)]) [0, 1, 2, 4] rfl ?_
          exact wkj_X11_differentSubtrees_87 X hr hJ13 hJ44 hw
        · have hw := hw.2 q26
          refine V_sub (lv1 := [(0, .ref (a 13)), (1, iv x1), (2, iv x2), (4, iv x4)]) [0, 1, 2, 4] rfl ?_
          exact wkj_X11_differentSubtrees_82 X hr hJ13 hJ44 hw
set_option maxHeartbeats 4000000 in
set_option maxRecDepth 100000 in
theorem wkj_X11_differentSubtrees_40 {p : Program} {l : Launch} {e : Env} {s : State} {m : MethodId} {args : Array Value} {below : List Frame} {meth : Method} {c : Code} {D : va_G} {g : GT} {A : Nat → Prop} {a : Nat → Nat} {b : Nat → Nat → Nat} (X : vC p s m args meth c D g A RX11 wsX11_differentSubtrees cX11_differentSubtrees 5) (hr : meth.sig.returnType = (some .int)) {x1 : Int} {x2 : Int} {s0 : Int} {M : Mem} {J13 : Int → Int → Mem → Prop} {J44 : Int → Int → Int → Int → Mem → Prop} {Q : Int → Mem → Prop} (hJ13 : ∀ (x1 : Int) (x2 : Int) (M : Mem), J13 x1 x2 M → vV p l e ({ frames := 1, cells := 0, slots := 0, locals := 24 } : Room) s m args below meth c D g A a b 5 0 0 (MQ below (cQi D g A a b Q) args s 0 0 A) M [(0, .ref (a 13)), (1, iv x1), (2, iv x2)] 13 []) (hJ44 : ∀ (x1 : Int) (x2 : Int) (x3 : Int) (x4 : Int) (M : Mem), J44 x1 x2 x3 x4 M → vV p l e ({ frames := 1, cells := 0, slots := 0, locals := 24 } : Room) s m args below meth c D g A a b 5 0 0 (MQ below (cQi D g A a b Q) args s 0 0 A) M [(0, .ref (a 13)), (1, iv x1), (2, iv x2), (3, iv x3), (4, iv x4)] 44 []) (hw : wpj_X11_differentSubtrees_40 x1 x2 s0 M J13 J44 Q) : vV p l e ({ frames := 1, cells := 0, slots := 0, locals := 24 } : Room) s m args below meth c D g A a b 5 0 0 (MQ below (cQi D g A a b Q) args s 0 0 A) M [(0, .ref (a 13)), (1, iv x1), (2, iv x2)] 40 [iv s0] := by
  unfold wpj_X11_differentSubtrees_40 at hw
  refine V_istore_n (lv1 := [(0, .ref (a 13)), (1, iv x1), (2, iv x2), (3, iv s0)]) X [1, 2, 3, 0] dX11_differentSubtrees_40 rfl (by decide) rfl ?_
  refine V_iconst X dX11_differentSubtrees_41 ?_
  refine V_istore (lv1 := [(0, .ref (a 13)), (1, iv x1), (2, iv x2), (3, iv s0), (4, iv 0)]) X [1, 2, 3, 4, 0] dX11_differentSubtrees_42 (by decide) rfl ?_
  exact hJ44 _ _ _ _ _ hw
set_option maxHeartbeats 4000000 in
set_option maxRecDepth 100000 in
theorem wkh_X11_differentSubtrees_13 {p : Program} {l : Launch} {e : Env} {s : State} {m : MethodId} {args : Array Value} {below : List Frame} {meth : Method} {c : Code} {D : va_G} {g : GT} {A : Nat → Prop} {a : Nat → Nat} {b : Nat → Nat → Nat} (X : vC p s m args meth c D g A RX11 wsX11_differentSubtrees cX11_differentSubtrees 5) (hr : meth.sig.returnType = (some .int)) {x1 : Int} {x2 : Int} {M : Mem} {J13 : Int → Int → Mem → Prop} {J44 : Int → Int → Int → Int → Mem → Prop} {Q : Int → Mem → Prop} (hJ13 : ∀ (x1 : Int) (x2 : Int) (M : Mem), J13 x1 x2 M → vV p l e ({ frames := 1, cells := 0, slots := 0, locals := 24 } : Room) s m args below meth c D g A a b 5 0 0 (MQ below (cQi D g A a b Q) args s 0 0 A) M [(0, .ref (a 13)), (1, iv x1), (2, iv x2)] 13 []) (hJ44 : ∀ (x1 : Int) (x2 : Int) (x3 : Int) (x4 : Int) (M : Mem), J44 x1 x2 x3 x4 M → vV p l e ({ frames := 1, cells := 0, slots := 0, locals := 24 } : Room) s m args below meth c D g A a b 5 0 0 (MQ below (cQi D g A a b Q) args s 0 0 A) M [(0, .ref (a 13)), (1, iv x1), (2, iv x2), (3, iv x3), (4, iv x4)] 44 []) (hw : wph_X11_differentSubtrees_13 x1 x2 M J13 J44 Q) : vV p l e ({ frames := 1, cells := 0, slots := 0, locals := 24 } : Room) s m args below meth c D g A a b 5 0 0 (MQ below (cQi D g A a b Q) args s 0 0 A) M [(0, .ref (a 13)), (1, iv x1), (2, iv x2)] 13 [] := by
  unfold wph_X11_differentSubtrees_13 at hw
  refine V_iload_n X dX11_differentSubtrees_13 rfl (q := 2) rfl ?_
  refine V_bipush X dX11_differentSubtrees_14 rfl ?_
  obtain ⟨h4, hw⟩ := hw
  refine V_icmp_ge (tgt := 112) X h4 ⟨by decide, by decide⟩ dX11_differentSubtrees_16 (by decide) (fun q5 => ?_) (fun q5 => ?_)
  · have hw := hw.1 q5
    refine V_iload_n X dX11_differentSubtrees_112 rfl (q := 1) rfl ?_
    exact V_iret X hr hw dX11_differentSubtrees_113
  · have hw := hw.2 q5
    refine V_iload_n X dX11_differentSubtrees_19 rfl (q := 2) rfl ?_
    refine V_bipush X dX11_differentSubtrees_20 rfl ?_
    obtain ⟨h6, hw⟩ := hw
    refine V_irem X h6 (by decide) dX11_differentSubtrees_22 ?_
    refine V_aload_n X dX11_differentSubtrees_23 rfl (q := 0) rfl ?_
    refine V_get (C := RX11) (T := TX11) (N := 24) (ci := 11) X hi_X11_differentSubtrees_11 gO_13 rfl 5 (by decide) lk_X11_differentSubtrees_f25 (fun _ h9 => h9) rfl dX11_differentSubtrees_24 ?_
    refine V_iload_n X dX11_differentSubtrees_27 rfl (q := 2) rfl ?_
    refine V_bipush X dX11_differentSubtrees_28 rfl ?_
    obtain ⟨h7, hw⟩ := hw
    refine V_idiv X h7 (by decide) dX11_differentSubtrees_30 ?_
    obtain ⟨h8, hw⟩ := hw
    refine V_iald X (gA_13_5) h8 (by decide) dX11_differentSubtrees_31 ?_
    obtain ⟨h9, h10, hw⟩ := hw
    refine V_icmp_ge (tgt := 39) X h9 h10 dX11_differentSubtrees_32 (by decide) (fun q11 => ?_) (fun q11 => ?_)
    · have hw := hw.1 q11
      refine V_iconst X dX11_differentSubtrees_39 ?_
      exact wkj_X11_differentSubtrees_40 X hr hJ13 hJ44 hw
    · have hw := hw.2 q11
      refine V_iconst X dX11_differentSubtrees_35 ?_
      refine V_goto (tgt := 40) X dX11_differentSubtrees_36 (by decide) ?_
      exact wkj_X11_differentSubtrees_40 X hr hJ13 hJ44 hw
set_option maxHeartbeats 4000000 in
set_option maxRecDepth 100000 in
theorem wke_X11_differentSubtrees {p : Program} {l : Launch} {e : Env} {s : State} {m : MethodId} {args : Array Value} {below : List Frame} {meth : Method} {c : Code} {D : va_G} {g : GT} {A : Nat → Prop} {a : Nat → Nat} {b : Nat → Nat → Nat} (X : vC p s m args meth c D g A RX11 wsX11_differentSubtrees cX11_differentSubtrees 5) (hr : meth.sig.returnType = (some .int)) {M : Mem} {J13 : Int → Int → Mem → Prop} {J44 : Int → Int → Int → Int → Mem → Prop} {Q : Int → Mem → Prop} (hJ13 : ∀ (x1 : Int) (x2 : Int) (M : Mem), J13 x1 x2 M → vV p l e ({ frames := 1, cells := 0, slots := 0, locals := 24 } : Room) s m args below meth c D g A a b 5 0 0 (MQ below (cQi D g A a b Q) args s 0 0 A) M [(0, .ref (a 13)), (1, iv x1), (2, iv x2)] 13 []) (hJ44 : ∀ (x1 : Int) (x2 : Int) (x3 : Int) (x4 : Int) (M : Mem), J44 x1 x2 x3 x4 M → vV p l e ({ frames := 1, cells := 0, slots := 0, locals := 24 } : Room) s m args below meth c D g A a b 5 0 0 (MQ below (cQi D g A a b Q) args s 0 0 A) M [(0, .ref (a 13)), (1, iv x1), (2, iv x2), (3, iv x3), (4, iv x4)] 44 []) (hw : wpe_X11_differentSubtrees M J13 J44 Q) : vV p l e ({ frames := 1, cells := 0, slots := 0, locals := 24 } : Room) s m args below meth c D g A a b 5 0 0 (MQ below (cQi D g A a b Q) args s 0 0 A) M [(0, .ref (a 13))] 0 [] := by
  unfold wpe_X11_differentSubtrees at hw
  refine V_aload_n X dX11_differentSubtrees_0 rfl (q := 0) rfl ?_
  refine V_iconst X dX11_differentSubtrees_1 ?_
  refine V_put (C := RX11) (T := TX11) (N := 24) (ci := 11) X hi_X11_differentSubtrees_11 gO_13 rfl 23 (by decide) tyX11 tyX11_ok nmX11 rfl (tyX11_ok 23 (by decide)) (Or.inl rfl) (show 23 < 24 from by decide) sI_13_23 lk_X11_differentSubtrees_f72 (fun _ h9 => h9) dX11_differentSubtrees_2 (fun M1 eM1 => ?_)
  have hw := hw M1 eM1
  refine V_aload_n X dX11_differentSubtrees_5 rfl (q := 0) rfl ?_
  refine V_callV_v X _ gO_13 rfl (As := []) (st := []) (c_X11_measures l hw) (cwV 0 X.2.2.2.1 gX11_differentSubtrees_X11_measures rfl rfl rfl (by decide +kernel) ⟨Nat.le_of_ble_eq_true rfl, Nat.le_of_ble_eq_true rfl⟩) rfl (Nat.le_of_ble_eq_true rfl) ⟨Nat.le_of_ble_eq_true rfl, Nat.le_of_ble_eq_true rfl⟩ rfl dX11_differentSubtrees_6 (fun M3 hw => ?_)
  refine V_iconst X dX11_differentSubtrees_9 ?_
  refine V_istore_n (lv1 := [(0, .ref (a 13)), (1, iv 0)]) X [1, 0] dX11_differentSubtrees_10 rfl (by decide) rfl ?_
  refine V_iconst X dX11_differentSubtrees_11 ?_
  refine V_istore_n (lv1 := [(0, .ref (a 13)), (1, iv 0), (2, iv 0)]) X [1, 2, 0] dX11_differentSubtrees_12 rfl (by decide) rfl ?_
  exact hJ13 _ _ _ hw
set_option maxHeartbeats 4000000 in
set_option maxRecDepth 100000 in
theorem c_X11_differentSubtrees (l : Launch) {D : va_G} {g : GT} {A : Nat → Prop} {a : Nat → Nat} {b : Nat → Nat → Nat} {M : Mem} {Q : Int → Mem → Prop} (hw : wp_X11_differentSubtrees M Q) : Met l yX11_differentSubtrees wsX11_differentSubtrees ({ frames := 1, cells := 0, slots := 0, locals := 24 } : Room) (cPc D g A a b M [.ref (a 13)]) (cQi D g A a b Q) 0 0 A := by
  refine Met.ofW (cc := cX11_differentSubtrees) (maxL := 5) (ret := (some .int)) (by decide) rfl ?_
  intro p e s m args below meth c s₁ B hml hv
  obtain ⟨rfl, hP, hD, hG⟩ := hv
  have X : vC p s m _ meth c D g A RX11 wsX11_differentSubtrees cX11_differentSubtrees 5 := ⟨B.exec, B.bytes, findClass_of_methodNamed B.named, atoms_spec (ws := wsX11_differentSubtrees) B.pre, hG, hml, B.notSynchronized⟩
  have hr := B.returns
  have hl := lv_entry ([.ref (a 13)]) (n := 5) (Nat.le_of_ble_eq_true rfl)
  rw [lg_entry_eq]
  generalize (lg_sl ([.ref (a 13)]) ++ List.replicate (5 - (lg_sl ([.ref (a 13)])).length) Slot.unset).toArray = ls at hl ⊢
  have hl : lv_has ls 5 [(0, .ref (a 13))] := hl
  obtain ⟨I13, I44, hw, hI13, hI44⟩ := hw
  have K : ∀ n : Nat, (∀ (x1 : Int) (x2 : Int) (M : Mem), I13 n x1 x2 M → vV p l e ({ frames := 1, cells := 0, slots := 0, locals := 24 } : Room) s m ([.ref (a 13)] : List Value).toArray below meth c D g A a b 5 0 0 (MQ below (cQi D g A a b Q) ([.ref (a 13)] : List Value).toArray s 0 0 A) M [(0, .ref (a 13)), (1, iv x1), (2, iv x2)] 13 []) ∧ (∀ (x1 : Int) (x2 : Int) (x3 : Int) (x4 : Int) (M : Mem), I44 n x1 x2 x3 x4 M → vV p l e ({ frames := 1, cells := 0, slots := 0, locals := 24 } : Room) s m ([.ref (a 13)] : List Value).toArray below meth c D g A a b 5 0 0 (MQ below (cQi D g A a b Q) ([.ref (a 13)] : List Value).toArray s 0 0 A) M [(0, .ref (a 13)), (1, iv x1), (2, iv x2), (3, iv x3), (4, iv x4)] 44 []) := by
    intro n
    induction n using Nat.strongRecOn with
    | ind n ih =>
      exact ⟨fun x1 x2 M hh => wkh_X11_differentSubtrees_13 X hr (fun _ _ _ ⟨n1, hn, hh⟩ => (ih n1 hn).1 _ _ _ hh) (fun _ _ _ _ _ ⟨n1, hn, hh⟩ => (ih n1 hn).2 _ _ _ _ _ hh) (hI13 n x1 x2 M hh), fun x1 x2 x3 x4 M hh => wkh_X11_differentSubtrees_44 X hr (fun _ _ _ ⟨n1, hn, hh⟩ => (ih n1 hn).1 _ _ _ hh) (fun _ _ _ _ _ ⟨n1, hn, hh⟩ => (ih n1 hn).2 _ _ _ _ _ hh) (hI44 n x1 x2 x3 x4 M hh)⟩
  exact wke_X11_differentSubtrees X hr  (fun _ _ _ ⟨n1, hh⟩ => (K n1).1 _ _ _ hh) (fun _ _ _ _ _ ⟨n1, hh⟩ => (K n1).2 _ _ _ _ _ hh) hw s.heap [] ls hP hD va_S.rf hl
