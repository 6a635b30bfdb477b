set_option maxRecDepth 20000 in
theorem ggX9_measure_X9_postPlace : GoodIn wsX9_measure wsX9_postPlace := goodIn_r _ [12, 3, 5, 4, 13, 14, 15, 16, 17, 18, 19, 20, 21] (by decide +kernel) (by decide +kernel)
set_option maxRecDepth 20000 in
theorem gX9_measure_X9_postPlace : GoodIn wsX9_measure (wsV RX9 43 RX9 yX9_postPlace wsX9_postPlace) := goodIn_app (goodIn_of _ (by decide +kernel)) ggX9_measure_X9_postPlace
theorem dX9_measure_0 : decode cX9_measure 0 = .ok (.iconst 0, 1) := by decide +kernel
theorem dX9_measure_1 : decode cX9_measure 1 = .ok (.istore_n 1, 1) := by decide +kernel
theorem dX9_measure_2 : decode cX9_measure 2 = .ok (.iload_n 1, 1) := by decide +kernel
theorem dX9_measure_3 : decode cX9_measure 3 = .ok (.aload_n 0, 1) := by decide +kernel
theorem dX9_measure_4 : decode cX9_measure 4 = .ok (.getfield 36, 3) := by decide +kernel
theorem dX9_measure_7 : decode cX9_measure 7 = .ok (.if_icmp .ge 63, 3) := by decide +kernel
theorem dX9_measure_10 : decode cX9_measure 10 = .ok (.aload_n 0, 1) := by decide +kernel
theorem dX9_measure_11 : decode cX9_measure 11 = .ok (.getfield 21, 3) := by decide +kernel
theorem dX9_measure_14 : decode cX9_measure 14 = .ok (.iload_n 1, 1) := by decide +kernel
theorem dX9_measure_15 : decode cX9_measure 15 = .ok (.iaload, 1) := by decide +kernel
theorem dX9_measure_16 : decode cX9_measure 16 = .ok (.istore_n 2, 1) := by decide +kernel
theorem dX9_measure_17 : decode cX9_measure 17 = .ok (.aload_n 0, 1) := by decide +kernel
theorem dX9_measure_18 : decode cX9_measure 18 = .ok (.getfield 27, 3) := by decide +kernel
theorem dX9_measure_21 : decode cX9_measure 21 = .ok (.iload_n 2, 1) := by decide +kernel
theorem dX9_measure_22 : decode cX9_measure 22 = .ok (.iload_n 1, 1) := by decide +kernel
theorem dX9_measure_23 : decode cX9_measure 23 = .ok (.iastore, 1) := by decide +kernel
theorem dX9_measure_24 : decode cX9_measure 24 = .ok (.aload_n 0, 1) := by decide +kernel
theorem dX9_measure_25 : decode cX9_measure 25 = .ok (.getfield 30, 3) := by decide +kernel
theorem dX9_measure_28 : decode cX9_measure 28 = .ok (.iload_n 2, 1) := by decide +kernel
theorem dX9_measure_29 : decode cX9_measure 29 = .ok (.iconst 1, 1) := by decide +kernel
theorem dX9_measure_30 : decode cX9_measure 30 = .ok (.iastore, 1) := by decide +kernel
theorem dX9_measure_31 : decode cX9_measure 31 = .ok (.aload_n 0, 1) := by decide +kernel
theorem dX9_measure_32 : decode cX9_measure 32 = .ok (.getfield 33, 3) := by decide +kernel
theorem dX9_measure_35 : decode cX9_measure 35 = .ok (.iload_n 2, 1) := by decide +kernel
theorem dX9_measure_36 : decode cX9_measure 36 = .ok (.aload_n 0, 1) := by decide +kernel
theorem dX9_measure_37 : decode cX9_measure 37 = .ok (.getfield 18, 3) := by decide +kernel
theorem dX9_measure_40 : decode cX9_measure 40 = .ok (.iload_n 2, 1) := by decide +kernel
theorem dX9_measure_41 : decode cX9_measure 41 = .ok (.iaload, 1) := by decide +kernel
theorem dX9_measure_42 : decode cX9_measure 42 = .ok (.iconst (-1), 1) := by decide +kernel
theorem dX9_measure_43 : decode cX9_measure 43 = .ok (.if_icmp .ne 7, 3) := by decide +kernel
theorem dX9_measure_46 : decode cX9_measure 46 = .ok (.iconst 0, 1) := by decide +kernel
theorem dX9_measure_47 : decode cX9_measure 47 = .ok (.goto 16, 3) := by decide +kernel
theorem dX9_measure_50 : decode cX9_measure 50 = .ok (.aload_n 0, 1) := by decide +kernel
theorem dX9_measure_51 : decode cX9_measure 51 = .ok (.getfield 33, 3) := by decide +kernel
theorem dX9_measure_54 : decode cX9_measure 54 = .ok (.aload_n 0, 1) := by decide +kernel
theorem dX9_measure_55 : decode cX9_measure 55 = .ok (.getfield 18, 3) := by decide +kernel
theorem dX9_measure_58 : decode cX9_measure 58 = .ok (.iload_n 2, 1) := by decide +kernel
theorem dX9_measure_59 : decode cX9_measure 59 = .ok (.iaload, 1) := by decide +kernel
theorem dX9_measure_60 : decode cX9_measure 60 = .ok (.iaload, 1) := by decide +kernel
theorem dX9_measure_61 : decode cX9_measure 61 = .ok (.iconst 1, 1) := by decide +kernel
theorem dX9_measure_62 : decode cX9_measure 62 = .ok (.iadd, 1) := by decide +kernel
theorem dX9_measure_63 : decode cX9_measure 63 = .ok (.iastore, 1) := by decide +kernel
theorem dX9_measure_64 : decode cX9_measure 64 = .ok (.iinc 1 1, 3) := by decide +kernel
theorem dX9_measure_67 : decode cX9_measure 67 = .ok (.goto (-65), 3) := by decide +kernel
theorem dX9_measure_70 : decode cX9_measure 70 = .ok (.aload_n 0, 1) := by decide +kernel
theorem dX9_measure_71 : decode cX9_measure 71 = .ok (.getfield 36, 3) := by decide +kernel
theorem dX9_measure_74 : decode cX9_measure 74 = .ok (.iconst 1, 1) := by decide +kernel
theorem dX9_measure_75 : decode cX9_measure 75 = .ok (.isub, 1) := by decide +kernel
theorem dX9_measure_76 : decode cX9_measure 76 = .ok (.istore_n 1, 1) := by decide +kernel
theorem dX9_measure_77 : decode cX9_measure 77 = .ok (.iload_n 1, 1) := by decide +kernel
theorem dX9_measure_78 : decode cX9_measure 78 = .ok (.ifCond .le 36, 3) := by decide +kernel
theorem dX9_measure_81 : decode cX9_measure 81 = .ok (.aload_n 0, 1) := by decide +kernel
theorem dX9_measure_82 : decode cX9_measure 82 = .ok (.getfield 21, 3) := by decide +kernel
theorem dX9_measure_85 : decode cX9_measure 85 = .ok (.iload_n 1, 1) := by decide +kernel
theorem dX9_measure_86 : decode cX9_measure 86 = .ok (.iaload, 1) := by decide +kernel
theorem dX9_measure_87 : decode cX9_measure 87 = .ok (.istore_n 2, 1) := by decide +kernel
theorem dX9_measure_88 : decode cX9_measure 88 = .ok (.aload_n 0, 1) := by decide +kernel
theorem dX9_measure_89 : decode cX9_measure 89 = .ok (.getfield 30, 3) := by decide +kernel
theorem dX9_measure_92 : decode cX9_measure 92 = .ok (.aload_n 0, 1) := by decide +kernel
theorem dX9_measure_93 : decode cX9_measure 93 = .ok (.getfield 18, 3) := by decide +kernel
theorem dX9_measure_96 : decode cX9_measure 96 = .ok (.iload_n 2, 1) := by decide +kernel
theorem dX9_measure_97 : decode cX9_measure 97 = .ok (.iaload, 1) := by decide +kernel
theorem dX9_measure_98 : decode cX9_measure 98 = .ok (.dup2, 1) := by decide +kernel
theorem dX9_measure_99 : decode cX9_measure 99 = .ok (.iaload, 1) := by decide +kernel
theorem dX9_measure_100 : decode cX9_measure 100 = .ok (.aload_n 0, 1) := by decide +kernel
theorem dX9_measure_101 : decode cX9_measure 101 = .ok (.getfield 30, 3) := by decide +kernel
theorem dX9_measure_104 : decode cX9_measure 104 = .ok (.iload_n 2, 1) := by decide +kernel
theorem dX9_measure_105 : decode cX9_measure 105 = .ok (.iaload, 1) := by decide +kernel
theorem dX9_measure_106 : decode cX9_measure 106 = .ok (.iadd, 1) := by decide +kernel
theorem dX9_measure_107 : decode cX9_measure 107 = .ok (.iastore, 1) := by decide +kernel
theorem dX9_measure_108 : decode cX9_measure 108 = .ok (.iinc 1 (-1), 3) := by decide +kernel
theorem dX9_measure_111 : decode cX9_measure 111 = .ok (.goto (-34), 3) := by decide +kernel
theorem dX9_measure_114 : decode cX9_measure 114 = .ok (.iconst 0, 1) := by decide +kernel
theorem dX9_measure_115 : decode cX9_measure 115 = .ok (.istore_n 1, 1) := by decide +kernel
theorem dX9_measure_116 : decode cX9_measure 116 = .ok (.iload_n 1, 1) := by decide +kernel
theorem dX9_measure_117 : decode cX9_measure 117 = .ok (.aload_n 0, 1) := by decide +kernel
theorem dX9_measure_118 : decode cX9_measure 118 = .ok (.getfield 36, 3) := by decide +kernel
theorem dX9_measure_121 : decode cX9_measure 121 = .ok (.if_icmp .ge 20, 3) := by decide +kernel
theorem dX9_measure_124 : decode cX9_measure 124 = .ok (.aload_n 0, 1) := by decide +kernel
theorem dX9_measure_125 : decode cX9_measure 125 = .ok (.getfield 24, 3) := by decide +kernel
theorem dX9_measure_128 : decode cX9_measure 128 = .ok (.aload_n 0, 1) := by decide +kernel
theorem dX9_measure_129 : decode cX9_measure 129 = .ok (.iload_n 1, 1) := by decide +kernel
theorem dX9_measure_130 : decode cX9_measure 130 = .ok (.invokevirtual 43, 3) := by decide +kernel
theorem dX9_measure_133 : decode cX9_measure 133 = .ok (.iload_n 1, 1) := by decide +kernel
theorem dX9_measure_134 : decode cX9_measure 134 = .ok (.iastore, 1) := by decide +kernel
theorem dX9_measure_135 : decode cX9_measure 135 = .ok (.iinc 1 1, 3) := by decide +kernel
theorem dX9_measure_138 : decode cX9_measure 138 = .ok (.goto (-22), 3) := by decide +kernel
theorem dX9_measure_141 : decode cX9_measure 141 = .ok (.return_, 1) := by decide +kernel
theorem lk_X9_measure_f36 : Cond.fieldLink RX9 36 "TreeComparer$Tree" "count" "I" ∈ wsX9_measure := by decide +kernel
theorem hi_X9_measure_9 : ∀ w ∈ u_ws RX9 TX9 9, w ∈ wsX9_measure := by decide +kernel
theorem lk_X9_measure_f21 : Cond.fieldLink RX9 21 "TreeComparer$Tree" "preorder" "[I" ∈ wsX9_measure := by decide +kernel
theorem lk_X9_measure_f27 : Cond.fieldLink RX9 27 "TreeComparer$Tree" "prePlace" "[I" ∈ wsX9_measure := by decide +kernel
theorem lk_X9_measure_f30 : Cond.fieldLink RX9 30 "TreeComparer$Tree" "size" "[I" ∈ wsX9_measure := by decide +kernel
theorem lk_X9_measure_f33 : Cond.fieldLink RX9 33 "TreeComparer$Tree" "depth" "[I" ∈ wsX9_measure := by decide +kernel
theorem lk_X9_measure_f18 : Cond.fieldLink RX9 18 "TreeComparer$Tree" "parent" "[I" ∈ wsX9_measure := by decide +kernel
theorem lk_X9_measure_f24 : Cond.fieldLink RX9 24 "TreeComparer$Tree" "postorder" "[I" ∈ wsX9_measure := by decide +kernel
def wph_X9_measure_116 (o : Nat) (x1 : Int) (M : Mem) (J2 : Int → Mem → Prop) (J77 : Int → Mem → Prop) (J116 : Int → Mem → Prop) (Q : Mem → Prop) : Prop := inR x1 ∧ inR (M o 8 0) ∧ (((M o 8 0) ≤ x1 → Q M) ∧ (¬ ((M o 8 0) ≤ x1) → wp_X9_postPlace M o x1 (fun y30 M31 => ((0 : Int) ≤ y30 ∧ y30 < 12) ∧ (∀ M32 : Mem, M32 = mset M31 o 4 y30.toNat x1 → J116 (x1 + 1) M32))))
def wph_X9_measure_77 (o : Nat) (x1 : Int) (M : Mem) (J2 : Int → Mem → Prop) (J77 : Int → Mem → Prop) (J116 : Int → Mem → Prop) (Q : Mem → Prop) : Prop := inR x1 ∧ ((x1 ≤ 0 → J116 0 M) ∧ (¬ (x1 ≤ 0) → ((0 : Int) ≤ x1 ∧ x1 < 12) ∧ (∀ y21 : Int, y21 = (M o 3 x1.toNat) → ((0 : Int) ≤ y21 ∧ y21 < 12) ∧ ((0 : Int) ≤ (M o 2 y21.toNat) ∧ (M o 2 y21.toNat) < 12) ∧ ((0 : Int) ≤ y21 ∧ y21 < 12) ∧ ((0 : Int) ≤ (M o 2 y21.toNat) ∧ (M o 2 y21.toNat) < 12) ∧ (∀ M25 : Mem, M25 = mset M o 6 ((M o 2 y21.toNat)).toNat ((M o 6 ((M o 2 y21.toNat)).toNat) + (M o 6 y21.toNat)) → J77 (x1 + (-1)) M25))))
def wpj_X9_measure_63 (o : Nat) (x1 : Int) (s0 : Int) (s1 : Int) (M : Mem) (J2 : Int → Mem → Prop) (J77 : Int → Mem → Prop) (J116 : Int → Mem → Prop) (Q : Mem → Prop) : Prop := ((0 : Int) ≤ s1 ∧ s1 < 12) ∧ (∀ M16 : Mem, M16 = mset M o 7 s1.toNat s0 → J2 (x1 + 1) M16)
def wph_X9_measure_2 (o : Nat) (x1 : Int) (M : Mem) (J2 : Int → Mem → Prop) (J77 : Int → Mem → Prop) (J116 : Int → Mem → Prop) (Q : Mem → Prop) : Prop := inR x1 ∧ inR (M o 8 0) ∧ (((M o 8 0) ≤ x1 → (∀ y4 : Int, y4 = (M o 8 0) - 1 → J77 y4 M)) ∧ (¬ ((M o 8 0) ≤ x1) → ((0 : Int) ≤ x1 ∧ x1 < 12) ∧ (∀ y6 : Int, y6 = (M o 3 x1.toNat) → ((0 : Int) ≤ y6 ∧ y6 < 12) ∧ (∀ M7 : Mem, M7 = mset M o 5 y6.toNat x1 → ((0 : Int) ≤ y6 ∧ y6 < 12) ∧ (∀ M9 : Mem, M9 = mset M7 o 6 y6.toNat 1 → ((0 : Int) ≤ y6 ∧ y6 < 12) ∧ inR (M9 o 2 y6.toNat) ∧ (((M9 o 2 y6.toNat) ≠ (-1) → ((0 : Int) ≤ y6 ∧ y6 < 12) ∧ ((0 : Int) ≤ (M9 o 2 y6.toNat) ∧ (M9 o 2 y6.toNat) < 12) ∧ wpj_X9_measure_63 o x1 ((M9 o 7 ((M9 o 2 y6.toNat)).toNat) + 1) y6 M9 J2 J77 J116 Q) ∧ (¬ ((M9 o 2 y6.toNat) ≠ (-1)) → wpj_X9_measure_63 o x1 0 y6 M9 J2 J77 J116 Q)))))))
def wpe_X9_measure (o : Nat) (M : Mem) (J2 : Int → Mem → Prop) (J77 : Int → Mem → Prop) (J116 : Int → Mem → Prop) (Q : Mem → Prop) : Prop := J2 0 M
def wp_X9_measure (M : Mem) (o : Nat) (Q : Mem → Prop) : Prop := ∃ (I2 : Nat → Int → Mem → Prop) (I77 : Nat → Int → Mem → Prop) (I116 : Nat → Int → Mem → Prop), wpe_X9_measure o M (fun (x1 : Int) (M1 : Mem) => ∃ n1 : Nat, I2 n1 x1 M1) (fun (x1 : Int) (M1 : Mem) => ∃ n1 : Nat, I77 n1 x1 M1) (fun (x1 : Int) (M1 : Mem) => ∃ n1 : Nat, I116 n1 x1 M1) Q ∧ (∀ (n : Nat) (x1 : Int) (M : Mem), I2 n x1 M → wph_X9_measure_2 o x1 M (fun (x1 : Int) (M1 : Mem) => ∃ n1 : Nat, n1 < n ∧ I2 n1 x1 M1) (fun (x1 : Int) (M1 : Mem) => ∃ n1 : Nat, n1 < n ∧ I77 n1 x1 M1) (fun (x1 : Int) (M1 : Mem) => ∃ n1 : Nat, n1 < n ∧ I116 n1 x1 M1) Q) ∧ (∀ (n : Nat) (x1 : Int) (M : Mem), I77 n x1 M → wph_X9_measure_77 o x1 M (fun (x1 : Int) (M1 : Mem) => ∃ n1 : Nat, n1 < n ∧ I2 n1 x1 M1) (fun (x1 : Int) (M1 : Mem) => ∃ n1 : Nat, n1 < n ∧ I77 n1 x1 M1) (fun (x1 : Int) (M1 : Mem) => ∃ n1 : Nat, n1 < n ∧ I116 n1 x1 M1) Q) ∧ (∀ (n : Nat) (x1 : Int) (M : Mem), I116 n x1 M → wph_X9_measure_116 o x1 M (fun (x1 : Int) (M1 : Mem) => ∃ n1 : Nat, n1 < n ∧ I2 n1 x1 M1) (fun (x1 : Int) (M1 : Mem) => ∃ n1 : Nat, n1 < n ∧ I77 n1 x1 M1) (fun (x1 : Int) (M1 : Mem) => ∃ n1 : Nat, n1 < n ∧ I116 n1 x1 M1) Q)
set_option maxHeartbeats 4000000 in
set_option maxRecDepth 100000 in
theorem wkh_X9_measure_116 {p : Program} {l : Launch} {e : Env} {s : State} {m : MethodId} {args : Array Value} {below : List Frame} {meth : Method} {c : Code} {D : va_G} {g : GT} {A : Nat → Prop} {a : Nat → Nat} {b : Nat → Nat → Nat} (X : vC p s m args meth c D g A RX9 wsX9_measure cX9_measure 3) (hr : meth.sig.returnType = none) {o : Nat} (ho : isT o) {x1 : Int} {M : Mem} {J2 : Int → Mem → Prop} {J77 : Int → Mem → Prop} {J116 : Int → Mem → Prop} {Q : Mem → Prop} (hJ2 : ∀ (x1 : Int) (M : Mem), J2 x1 M → vV p l e ({ frames := 1, cells := 0, slots := 0, locals := 21 } : Room) s m args below meth c D g A a b 3 0 0 (MQ below (cQv D g A a b Q) args s 0 0 A) M [(0, .ref (a o)), (1, iv x1)] 2 []) (hJ77 : ∀ (x1 : Int) (M : Mem), J77 x1 M → vV p l e ({ frames := 1, cells := 0, slots := 0, locals := 21 } : Room) s m args below meth c D g A a b 3 0 0 (MQ below (cQv D g A a b Q) args s 0 0 A) M [(0, .ref (a o)), (1, iv x1)] 77 []) (hJ116 : ∀ (x1 : Int) (M : Mem), J116 x1 M → vV p l e ({ frames := 1, cells := 0, slots := 0, locals := 21 } : Room) s m args below meth c D g A a b 3 0 0 (MQ below (cQv D g A a b Q) args s 0 0 A) M [(0, .ref (a o)), (1, iv x1)] 116 []) (hw : wph_X9_measure_116 o x1 M J2 J77 J116 Q) : vV p l e ({ frames := 1, cells := 0, slots := 0, locals := 21 } : Room) s m args below meth c D g A a b 3 0 0 (MQ below (cQv D g A a b Q) args s 0 0 A) M [(0, .ref (a o)), (1, iv x1)] 116 [] := by
  unfold wph_X9_measure_116 at hw
  refine V_iload_n X dX9_measure_116 rfl (q := 1) rfl ?_
  refine V_aload_n X dX9_measure_117 rfl (q := 0) rfl ?_
  refine V_get (C := RX9) (T := TX9) (N := 9) (ci := 9) X hi_X9_measure_9 (gTO ho) rfl 8 (by decide) lk_X9_measure_f36 (fun _ h9 => h9) rfl dX9_measure_118 ?_
  obtain ⟨h27, h28, hw⟩ := hw
  refine V_icmp_ge (tgt := 141) X h27 h28 dX9_measure_121 (by decide) (fun q29 => ?_) (fun q29 => ?_)
  · have hw := hw.1 q29
    exact V_vret X hr hw dX9_measure_141
  · have hw := hw.2 q29
    refine V_aload_n X dX9_measure_124 rfl (q := 0) rfl ?_
    refine V_get (C := RX9) (T := TX9) (N := 9) (ci := 9) X hi_X9_measure_9 (gTO ho) rfl 4 (by decide) lk_X9_measure_f24 (fun _ h9 => h9) rfl dX9_measure_125 ?_
    refine V_aload_n X dX9_measure_128 rfl (q := 0) rfl ?_
    refine V_iload_n X dX9_measure_129 rfl (q := 1) rfl ?_
    refine V_callV_i X _ (gTO ho) rfl (As := [iv x1]) (st := [.ref (b o 4)]) (c_X9_postPlace l ho hw) (cwV 1 X.2.2.2.1 gX9_measure_X9_postPlace rfl rfl rfl (by decide +kernel) ⟨Nat.le_of_ble_eq_true rfl, Nat.le_of_ble_eq_true rfl⟩) rfl (Nat.le_of_ble_eq_true rfl) ⟨Nat.le_of_ble_eq_true rfl, Nat.le_of_ble_eq_true rfl⟩ rfl dX9_measure_130 (fun y30 M31 hw => ?_)
    refine V_iload_n X dX9_measure_133 rfl (q := 1) rfl ?_
    obtain ⟨h33, hw⟩ := hw
    refine V_iast X ((gT_4 ho)) ((sT_4 ho)) h33 (by decide) dX9_measure_134 (fun M32 eM32 => ?_)
    have hw := hw M32 eM32
    refine V_iinc (lv1 := [(0, .ref (a o)), (1, iv (x1 + 1))]) X [1, 0] dX9_measure_135 (q := 1) rfl (by decide) rfl ?_
    refine V_goto (tgt := 116) X dX9_measure_138 (by decide) ?_
    exact hJ116 _ _ hw
set_option maxHeartbeats 4000000 in
set_option maxRecDepth 100000 in
theorem wkh_X9_measure_77 {p : Program} {l : Launch} {e : Env} {s : State} {m : MethodId} {args : Array Value} {below : List Frame} {meth : Method} {c : Code} {D : va_G} {g : GT} {A : Nat → Prop} {a : Nat → Nat} {b : Nat → Nat → Nat} (X : vC p s m args meth c D g A RX9 wsX9_measure cX9_measure 3) (hr : meth.sig.returnType = none) {o : Nat} (ho : isT o) {x1 : Int} {M : Mem} {J2 : Int → Mem → Prop} {J77 : Int → Mem → Prop} {J116 : Int → Mem → Prop} {Q : Mem → Prop} (hJ2 : ∀ (x1 : Int) (M : Mem), J2 x1 M → vV p l e ({ frames := 1, cells := 0, slots := 0, locals := 21 } : Room) s m args below meth c D g A a b 3 0 0 (MQ below (cQv D g A a b Q) args s 0 0 A) M [(0, .ref (a o)), (1, iv x1)] 2 []) (hJ77 : ∀ (x1 : Int) (M : Mem), J77 x1 M → vV p l e ({ frames := 1, cells := 0, slots := 0, locals := 21 } : Room) s m args below meth c D g A a b 3 0 0 (MQ below (cQv D g A a b Q) args s 0 0 A) M [(0, .ref (a o)), (1, iv x1)] 77 []) (hJ116 : ∀ (x1 : Int) (M : Mem), J116 x1 M → vV p l e ({ frames := 1, cells := 0, slots := 0, locals := 21 } : Room) s m args below meth c D g A a b 3 0 0 (MQ below (cQv D g A a b Q) args s 0 0 A) M [(0, .ref (a o)), (1, iv x1)] 116 []) (hw : wph_X9_measure_77 o x1 M J2 J77 J116 Q) : vV p l e ({ frames := 1, cells := 0, slots := 0, locals := 21 } : Room) s m args below meth c D g A a b 3 0 0 (MQ below (cQv D g A a b Q) args s 0 0 A) M [(0, .ref (a o)), (1, iv x1)] 77 [] := by
  unfold wph_X9_measure_77 at hw
  refine V_iload_n X dX9_measure_77 rfl (q := 1) rfl ?_
  obtain ⟨h18, hw⟩ := hw
  refine V_if_le (tgt := 114) X h18 dX9_measure_78 (by decide) (fun q19 => ?_) (fun q19 => ?_)
  · have hw := hw.1 q19
    refine V_iconst X dX9_measure_114 ?_
    refine V_istore_n (lv1 := [(0, .ref (a o)), (1, iv 0)]) X [1, 0] dX9_measure_115 rfl (by decide) rfl ?_
    exact hJ116 _ _ hw
  · have hw := hw.2 q19
    refine V_aload_n X dX9_measure_81 rfl (q := 0) rfl ?_
    refine V_get (C := RX9) (T := TX9) (N := 9) (ci := 9) X hi_X9_measure_9 (gTO ho) rfl 3 (by decide) lk_X9_measure_f21 (fun _ h9 => h9) rfl dX9_measure_82 ?_
    refine V_iload_n X dX9_measure_85 rfl (q := 1) rfl ?_
    obtain ⟨h20, hw⟩ := hw
    refine V_iald X ((gT_3 ho)) h20 (by decide) dX9_measure_86 ?_
    refine V_top (fun y21 ey21 => ?_)
    have hw := hw y21 ey21
    refine V_istore_n (lv1 := [(0, .ref (a o)), (1, iv x1), (2, iv y21)]) X [1, 2, 0] dX9_measure_87 rfl (by decide) rfl ?_
    refine V_aload_n X dX9_measure_88 rfl (q := 0) rfl ?_
    refine V_get (C := RX9) (T := TX9) (N := 9) (ci := 9) X hi_X9_measure_9 (gTO ho) rfl 6 (by decide) lk_X9_measure_f30 (fun _ h9 => h9) rfl dX9_measure_89 ?_
    refine V_aload_n X dX9_measure_92 rfl (q := 0) rfl ?_
    refine V_get (C := RX9) (T := TX9) (N := 9) (ci := 9) X hi_X9_measure_9 (gTO ho) rfl 2 (by decide) lk_X9_measure_f18 (fun _ h9 => h9) rfl dX9_measure_93 ?_
    refine V_iload_n X dX9_measure_96 rfl (q := 2) rfl ?_
    obtain ⟨h22, hw⟩ := hw
    refine V_iald X ((gT_2 ho)) h22 (by decide) dX9_measure_97 ?_
    refine V_dup2 X dX9_measure_98 rfl rfl ?_
    obtain ⟨h23, hw⟩ := hw
    refine V_iald X ((gT_6 ho)) h23 (by decide) dX9_measure_99 ?_
    refine V_aload_n X dX9_measure_100 rfl (q := 0) rfl ?_
    refine V_get (C := RX9) (T := TX9) (N := 9) (ci := 9) X hi_X9_measure_9 (gTO ho) rfl 6 (by decide) lk_X9_measure_f30 (fun _ h9 => h9) rfl dX9_measure_101 ?_
    refine V_iload_n X dX9_measure_104 rfl (q := 2) rfl ?_
    obtain ⟨h24, hw⟩ := hw
    refine V_iald X ((gT_6 ho)) h24 (by decide) dX9_measure_105 ?_
    refine V_iadd X dX9_measure_106 ?_
    obtain ⟨h26, hw⟩ := hw
    refine V_iast X ((gT_6 ho)) ((sT_6 ho)) h26 (by decide) dX9_measure_107 (fun M25 eM25 => ?_)
    have hw := hw M25 eM25
    refine V_iinc (lv1 := [(0, .ref (a o)), (1, iv (x1 + (-1))), (2, iv y21)]) X [1, 0, 2] dX9_measure_108 (q := 1) rfl (by decide) rfl ?_
    refine V_goto (tgt := 77) X dX9_measure_111 (by decide) ?_
    refine V_sub (lv1 := [(0, .ref (a o)), (1, iv (x1 + (-1)))]) [0, 1] rfl ?_
    exact hJ77 _ _ hw
set_option maxHeartbeats 4000000 in
set_option maxRecDepth 100000 in
theorem wkj_X9_measure_63 {p : Program} {l : Launch} {e : Env} {s : State} {m : MethodId} {args : Array Value} {below : List Frame} {meth : Method} {c : Code} {D : va_G} {g : GT} {A : Nat → Prop} {a : Nat → Nat} {b : Nat → Nat → Nat} (X : vC p s m args meth c D g A RX9 wsX9_measure cX9_measure 3) (hr : meth.sig.returnType = none) {o : Nat} (ho : isT o) {x1 : Int} {s0 : Int} {s1 : Int} {M : Mem} {J2 : Int → Mem → Prop} {J77 : Int → Mem → Prop} {J116 : Int → Mem → Prop} {Q : Mem → Prop} (hJ2 : ∀ (x1 : Int) (M : Mem), J2 x1 M → vV p l e ({ frames := 1, cells := 0, slots := 0, locals := 21 } : Room) s m args below meth c D g A a b 3 0 0 (MQ below (cQv D g A a b Q) args s 0 0 A) M [(0, .ref (a o)), (1, iv x1)] 2 []) (hJ77 : ∀ (x1 : Int) (M : Mem), J77 x1 M → vV p l e ({ frames := 1, cells := 0, slots := 0, locals := 21 } : Room) s m args below meth c D g A a b 3 0 0 (MQ below (cQv D g A a b Q) args s 0 0 A) M [(0, .ref (a o)), (1, iv x1)] 77 []) (hJ116 : ∀ (x1 : Int) (M : Mem), J116 x1 M → vV p l e ({ frames := 1, cells := 0, slots := 0, locals := 21 } : Room) s m args below meth c D g A a b 3 0 0 (MQ below (cQv D g A a b Q) args s 0 0 A) M [(0, .ref (a o)), (1, iv x1)] 116 []) (hw : wpj_X9_measure_63 o x1 s0 s1 M J2 J77 J116 Q) : vV p l e ({ frames := 1, cells := 0, slots := 0, locals := 21 } : Room) s m args below meth c D g A a b 3 0 0 (MQ below (cQv D g A a b Q) args s 0 0 A) M [(0, .ref (a o)), (1, iv x1)] 63 [iv s0, iv s1, .ref (b o 7)] := by
  unfold wpj_X9_measure_63 at hw
  obtain ⟨h17, hw⟩ := hw
  refine V_iast X ((gT_7 ho)) ((sT_7 ho)) h17 (by decide) dX9_measure_63 (fun M16 eM16 => ?_)
  have hw := hw M16 eM16
  refine V_iinc (lv1 := [(0, .ref (a o)), (1, iv (x1 + 1))]) X [1, 0] dX9_measure_64 (q := 1) rfl (by decide) rfl ?_
  refine V_goto (tgt := 2) X dX9_measure_67 (by decide) ?_
  exact hJ2 _ _ hw
set_option maxHeartbeats 4000000 in
set_option maxRecDepth 100000 in
theorem wkh_X9_measure_2 {p : Program} {l : Launch} {e : Env} {s : State} {m : MethodId} {args : Array Value} {below : List Frame} {meth : Method} {c : Code} {D : va_G} {g : GT} {A : Nat → Prop} {a : Nat → Nat} {b : Nat → Nat → Nat} (X : vC p s m args meth c D g A RX9 wsX9_measure cX9_measure 3) (hr : meth.sig.returnType = none) {o : Nat} (ho : isT o) {x1 : Int} {M : Mem} {J2 : Int → Mem → Prop} {J77 : Int → Mem → Prop} {J116 : Int → Mem → Prop} {Q : Mem → Prop} (hJ2 : ∀ (x1 : Int) (M : Mem), J2 x1 M → vV p l e ({ frames := 1, cells := 0, slots := 0, locals := 21 } : Room) s m args below meth c D g A a b 3 0 0 (MQ below (cQv D g A a b Q) args s 0 0 A) M [(0, .ref (a o)), (1, iv x1)] 2 []) (hJ77 : ∀ (x1 : Int) (M : Mem), J77 x1 M → vV p l e ({ frames := 1, cells := 0, slots := 0, locals := 21 } : Room) s m args below meth c D g A a b 3 0 0 (MQ below (cQv D g A a b Q) args s 0 0 A) M [(0, .ref (a o)), (1, iv x1)] 77 []) (hJ116 : ∀ (x1 : Int) (M : Mem), J116 x1 M → vV p l e ({ frames := 1, cells := 0, slots := 0, locals := 21 } : Room) s m args below meth c D g A a b 3 0 0 (MQ below (cQv D g A a b Q) args s 0 0 A) M [(0, .ref (a o)), (1, iv x1)] 116 []) (hw : wph_X9_measure_2 o x1 M J2 J77 J116 Q) : vV p l e ({ frames := 1, cells := 0, slots := 0, locals := 21 } : Room) s m args below meth c D g A a b 3 0 0 (MQ below (cQv D g A a b Q) args s 0 0 A) M [(0, .ref (a o)), (1, iv x1)] 2 [] := by
  unfold wph_X9_measure_2 at hw
  refine V_iload_n X dX9_measure_2 rfl (q := 1) rfl ?_
  refine V_aload_n X dX9_measure_3 rfl (q := 0) rfl ?_
  refine V_get (C := RX9) (T := TX9) (N := 9) (ci := 9) X hi_X9_measure_9 (gTO ho) rfl 8 (by decide) lk_X9_measure_f36 (fun _ h9 => h9) rfl dX9_measure_4 ?_
  obtain ⟨h1, h2, hw⟩ := hw
  refine V_icmp_ge (tgt := 70) X h1 h2 dX9_measure_7 (by decide) (fun q3 => ?_) (fun q3 => ?_)
  · have hw := hw.1 q3
    refine V_aload_n X dX9_measure_70 rfl (q := 0) rfl ?_
    refine V_get (C := RX9) (T := TX9) (N := 9) (ci := 9) X hi_X9_measure_9 (gTO ho) rfl 8 (by decide) lk_X9_measure_f36 (fun _ h9 => h9) rfl dX9_measure_71 ?_
    refine V_iconst X dX9_measure_74 ?_
    refine V_isub X dX9_measure_75 ?_
    refine V_top (fun y4 ey4 => ?_)
    have hw := hw y4 ey4
    refine V_istore_n (lv1 := [(0, .ref (a o)), (1, iv y4)]) X [1, 0] dX9_measure_76 rfl (by decide) rfl ?_
    exact hJ77 _ _ hw
  · have hw := hw.2 q3
    refine V_aload_n X dX9_measure_10 rfl (q := 0) rfl ?_
    refine V_get (C := RX9) (T := TX9) (N := 9) (ci := 9) X hi_X9_measure_9 (gTO ho) rfl 3 (by decide) lk_X9_measure_f21 (fun _ h9 => h9) rfl dX9_measure_11 ?_
    refine V_iload_n X dX9_measure_14 rfl (q := 1) rfl ?_
    obtain ⟨h5, hw⟩ := hw
    refine V_iald X ((gT_3 ho)) h5 (by decide) dX9_measure_15 ?_
    refine V_top (fun y6 ey6 => ?_)
    have hw := hw y6 ey6
    refine V_istore_n (lv1 := [(0, .ref (a o)), (1, iv x1), (2, iv y6)]) X [1, 2, 0] dX9_measure_16 rfl (by decide) rfl ?_
    refine V_aload_n X dX9_measure_17 rfl (q := 0) rfl ?_
    refine V_get (C := RX9) (T := TX9) (N := 9) (ci := 9) X hi_X9_measure_9 (gTO ho) rfl 5 (by decide) lk_X9_measure_f27 (fun _ h9 => h9) rfl dX9_measure_18 ?_
    refine V_iload_n X dX9_measure_21 rfl (q := 2) rfl ?_
    refine V_iload_n X dX9_measure_22 rfl (q := 1) rfl ?_
    obtain ⟨h8, hw⟩ := hw
    refine V_iast X ((gT_5 ho)) ((sT_5 ho)) h8 (by decide) dX9_measure_23 (fun M7 eM7 => ?_)
    have hw := hw M7 eM7
    refine V_aload_n X dX9_measure_24 rfl (q := 0) rfl ?_
    refine V_get (C := RX9) (T := TX9) (N := 9) (ci := 9) X hi_X9_measure_9 (gTO ho) rfl 6 (by decide) lk_X9_measure_f30 (fun _ h9 => h9) rfl dX9_measure_25 ?_
    refine V_iload_n X dX9_measure_28 rfl (q := 2) rfl ?_
    refine V_iconst X dX9_measure_29 ?_
    obtain ⟨h10, hw⟩ := hw
    refine V_iast X ((gT_6 ho)) ((sT_6 ho)) h10 (by decide) dX9_measure_30 (fun M9 eM9 => ?_)
    have hw := hw M9 eM9
    refine V_aload_n X dX9_measure_31 rfl (q := 0) rfl ?_
    refine V_get (C := RX9) (T := TX9) (N := 9) (ci := 9) X hi_X9_measure_9 (gTO ho) rfl 7 (by decide) lk_X9_measure_f33 (fun _ h9 => h9) rfl dX9_measure_32 ?_
    refine V_iload_n X dX9_measure_35 rfl (q := 2) rfl ?_
    refine V_aload_n X dX9_measure_36 rfl (q := 0) rfl ?_
    refine V_get (C := RX9) (T := TX9) (N := 9) (ci := 9) X hi_X9_measure_9 (gTO ho) rfl 2 (by decide) lk_X9_measure_f18 (fun _ h9 => h9) rfl dX9_measure_37 ?_
    refine V_iload_n X dX9_measure_40 rfl (q := 2) rfl ?_
    obtain ⟨h11, hw⟩ := hw
    refine V_iald X ((gT_2 ho)) h11 (by decide) dX9_measure_41 ?_
    refine V_iconst X dX9_measure_42 ?_
    obtain ⟨h12, hw⟩ := hw
    refine V_icmp_ne (tgt := 50) X h12 ⟨by decide, by decide⟩ dX9_measure_43 (by decide) (fun q13 => ?_) (fun q13 => ?_)
    · have hw := hw.1 q13
      refine V_aload_n X dX9_measure_50 rfl (q := 0) rfl ?_
      refine V_get (C := RX9) (T := TX9) (N := 9) (ci := 9) X hi_X9_measure_9 (gTO ho) rfl 7 (by decide) lk_X9_measure_f33 (fun _ h9 => h9) rfl dX9_measure_51 ?_
      refine V_aload_n X dX9_measure_54 rfl (q := 0) rfl ?_
      refine V_get (C := RX9) (T := TX9) (N := 9) (ci := 9) X hi_X9_measure_9 (gTO ho) rfl 2 (by decide) lk_X9_measure_f18 (fun _ h9 => h9) rfl dX9_measure_55 ?_
      refine V_iload_n X dX9_measure_58 rfl (q := 2) rfl ?_
      obtain ⟨h14, hw⟩ := hw
      refine V_iald X ((gT_2 ho)) h14 (by decide) dX9_measure_59 ?_
      obtain ⟨h15, hw⟩ := hw
      refine V_iald X ((gT_7 ho)) h15 (by decide) dX9_measure_60 ?_
      refine V_iconst X dX9_measure_61 ?_
      refine V_iadd X dX9_measure_62 ?_
      refine V_sub (lv1 := [(0, .ref (a o)), (1, iv x1)]) [0, 1] rfl ?_
      exact wkj_X9_measure_63 X hr ho hJ2 hJ77 hJ116 hw
    · have hw := hw.2 q13
      refine V_iconst X dX9_measure_46 ?_
      refine V_goto (tgt := 63) X dX9_measure_47 (by decide) ?_
      refine V_sub (lv1 := [(0, .ref (a o)), (1, iv x1)]) [0, 1] rfl ?_
      exact wkj_X9_measure_63 X hr ho hJ2 hJ77 hJ116 hw
set_option maxHeartbeats 4000000 in
set_option maxRecDepth 100000 in
theorem wke_X9_measure {p : Program} {l : Launch} {e : Env} {s : State} {m : MethodId} {args : Array Value} {below : List Frame} {meth : Method} {c : Code} {D : va_G} {g : GT} {A : Nat → Prop} {a : Nat → Nat} {b : Nat → Nat → Nat} (X : vC p s m args meth c D g A RX9 wsX9_measure cX9_measure 3) (hr : meth.sig.returnType = none) {o : Nat} (ho : isT o) {M : Mem} {J2 : Int → Mem → Prop} {J77 : Int → Mem → Prop} {J116 : Int → Mem → Prop} {Q : Mem → Prop} (hJ2 : ∀ (x1 : Int) (M : Mem), J2 x1 M → vV p l e ({ frames := 1, cells := 0, slots := 0, locals := 21 } : Room) s m args below meth c D g A a b 3 0 0 (MQ below (cQv D g A a b Q) args s 0 0 A) M [(0, .ref (a o)), (1, iv x1)] 2 []) (hJ77 : ∀ (x1 : Int) (M : Mem), J77 x1 M → vV p l e ({ frames := 1, cells := 0, slots := 0, locals := 21 } : Room) s m args below meth c D g A a b 3 0 0 (MQ below (cQv D g A a b Q) args s 0 0 A) M [(0, .ref (a o)), (1, iv x1)] 77 []) (hJ116 : ∀ (x1 : Int) (M : Mem), J116 x1 M → vV p l e ({ frames := 1, cells := 0, slots := 0, locals := 21 } : Room) s m args below meth c D g A a b 3 0 0 (MQ below (cQv D g A a b Q) args s 0 0 A) M [(0, .ref (a o)), (1, iv x1)] 116 []) (hw : wpe_X9_measure o M J2 J77 J116 Q) : vV p l e ({ frames := 1, cells := 0, slots := 0, locals := 21 } : Room) s m args below meth c D g A a b 3 0 0 (MQ below (cQv D g A a b Q) args s 0 0 A) M [(0, .ref (a o))] 0 [] := by
  unfold wpe_X9_measure at hw
  refine V_iconst X dX9_measure_0 ?_
  refine V_istore_n (lv1 := [(0, .ref (a o)), (1, iv 0)]) X [1, 0] dX9_measure_1 rfl (by decide) rfl ?_
  exact hJ2 _ _ hw
set_option maxHeartbeats 4000000 in
set_option maxRecDepth 100000 in
theorem c_X9_measure (l : Launch) {o : Nat} (ho : isT o) {D : va_G} {g : GT} {A : Nat → Prop} {a : Nat → Nat} {b : Nat → Nat → Nat} {M : Mem} {Q : Mem → Prop} (hw : wp_X9_measure M o Q) : Met l yX9_measure wsX9_measure ({ frames := 1, cells := 0, slots := 0, locals := 21 } : Room) (cPc D g A a b M [.ref (a o)]) (cQv D g A a b Q) 0 0 A := by
  refine Met.ofW (cc := cX9_measure) (maxL := 3) (ret := none) (by decide) rfl ?_
  intro p e s m args below meth c s₁ B hml hv
  obtain ⟨rfl, hP, hD, hG⟩ := hv
  have X : vC p s m _ meth c D g A RX9 wsX9_measure cX9_measure 3 := ⟨B.exec, B.bytes, findClass_of_methodNamed B.named, atoms_spec (ws := wsX9_measure) B.pre, hG, hml, B.notSynchronized⟩
  have hr := B.returns
  have hl := lv_entry ([.ref (a o)]) (n := 3) (Nat.le_of_ble_eq_true rfl)
  rw [lg_entry_eq]
  generalize (lg_sl ([.ref (a o)]) ++ List.replicate (3 - (lg_sl ([.ref (a o)])).length) Slot.unset).toArray = ls at hl ⊢
  have hl : lv_has ls 3 [(0, .ref (a o))] := hl
  obtain ⟨I2, I77, I116, hw, hI2, hI77, hI116⟩ := hw
  have K : ∀ n : Nat, (∀ (x1 : Int) (M : Mem), I2 n x1 M → vV p l e ({ frames := 1, cells := 0, slots := 0, locals := 21 } : Room) s m ([.ref (a o)] : List Value).toArray below meth c D g A a b 3 0 0 (MQ below (cQv D g A a b Q) ([.ref (a o)] : List Value).toArray s 0 0 A) M [(0, .ref (a o)), (1, iv x1)] 2 []) ∧ (∀ (x1 : Int) (M : Mem), I77 n x1 M → vV p l e ({ frames := 1, cells := 0, slots := 0, locals := 21 } : Room) s m ([.ref (a o)] : List Value).toArray below meth c D g A a b 3 0 0 (MQ below (cQv D g A a b Q) ([.ref (a o)] : List Value).toArray s 0 0 A) M [(0, .ref (a o)), (1, iv x1)] 77 []) ∧ (∀ (x1 : Int) (M : Mem), I116 n x1 M → vV p l e ({ frames := 1, cells := 0, slots := 0, locals := 21 } : Room) s m ([.ref (a o)] : List Value).toArray below meth c D g A a b 3 0 0 (MQ below (cQv D g A a b Q) ([.ref (a o)] : List Value).toArray s 0 0 A) M [(0, .ref (a o)), (1, iv x1)] 116 []) := by
    intro n
    induction n using Nat.strongRecOn with
    | ind n ih =>
      exact ⟨fun x1 M hh => wkh_X9_measure_2 X hr ho (fun _ _ ⟨n1, hn, hh⟩ => (ih n1 hn).1 _ _ hh) (fun _ _ ⟨n1, hn, hh⟩ => (ih n1 hn).2.1 _ _ hh) (fun _ _ ⟨n1, hn, hh⟩ => (ih n1 hn).2.2 _ _ hh) (hI2 n x1 M hh), fun x1 M hh => wkh_X9_measure_77 X hr ho (fun _ _ ⟨n1, hn, hh⟩ => (ih n1 hn).1 _ _ hh) (fun _ _ ⟨n1, hn, hh⟩ => (ih n1 hn).2.1 _ _ hh) (fun _ _ ⟨n1, hn, hh⟩ => (ih n1 hn).2.2 _ _ hh) (hI77 n x1 M hh), fun x1 M hh => wkh_X9_measure_116 X hr ho (fun _ _ ⟨n1, hn, hh⟩ => (ih n1 hn).1 _ _ hh) (fun _ _ ⟨n1, hn, hh⟩ => (ih n1 hn).2.1 _ _ hh) (fun _ _ ⟨n1, hn, hh⟩ => (ih n1 hn).2.2 _ _ hh) (hI116 n x1 M hh)⟩
  exact wke_X9_measure X hr ho (fun _ _ ⟨n1, hh⟩ => (K n1).1 _ _ hh) (fun _ _ ⟨n1, hh⟩ => (K n1).2.1 _ _ hh) (fun _ _ ⟨n1, hh⟩ => (K n1).2.2 _ _ hh) hw s.heap [] ls hP hD va_S.rf hl

set_option maxRecDepth 20000 in
theorem ggX9_insert_X9_measure : GoodIn wsX9_insert wsX9_measure := goodIn_r _ [10, 1, 2, 11, 12, 13, 3, 14, 15, 16, 17, 9, 18, 19, 20, 21, 22, 23, 24, 25, 26, 27] (by decide +kernel) (by decide +kernel)
set_option maxRecDepth 20000 in
theorem gX9_insert_X9_measure : GoodIn wsX9_insert (wsV RX9 40 RX9 yX9_measure wsX9_measure) := goodIn_app (goodIn_of _ (by decide +kernel)) ggX9_insert_X9_measure
theorem dX9_insert_0 : decode cX9_insert 0 = .ok (.aload_n 0, 1) := by decide +kernel
theorem dX9_insert_1 : decode cX9_insert 1 = .ok (.getfield 36, 3) := by decide +kernel
theorem dX9_insert_4 : decode cX9_insert 4 = .ok (.bipush 12, 2) := by decide +kernel
theorem dX9_insert_6 : decode cX9_insert 6 = .ok (.if_icmp .ge 15, 3) := by decide +kernel
theorem dX9_insert_9 : decode cX9_insert 9 = .ok (.iload_n 2, 1) := by decide +kernel
theorem dX9_insert_10 : decode cX9_insert 10 = .ok (.ifCond .lt 11, 3) := by decide +kernel
theorem dX9_insert_13 : decode cX9_insert 13 = .ok (.iload_n 2, 1) := by decide +kernel
theorem dX9_insert_14 : decode cX9_insert 14 = .ok (.aload_n 0, 1) := by decide +kernel
theorem dX9_insert_15 : decode cX9_insert 15 = .ok (.getfield 36, 3) := by decide +kernel
theorem dX9_insert_18 : decode cX9_insert 18 = .ok (.if_icmp .le 4, 3) := by decide +kernel
theorem dX9_insert_21 : decode cX9_insert 21 = .ok (.return_, 1) := by decide +kernel
theorem dX9_insert_22 : decode cX9_insert 22 = .ok (.aload_n 0, 1) := by decide +kernel
theorem dX9_insert_23 : decode cX9_insert 23 = .ok (.getfield 36, 3) := by decide +kernel
theorem dX9_insert_26 : decode cX9_insert 26 = .ok (.istore 5, 2) := by decide +kernel
theorem dX9_insert_28 : decode cX9_insert 28 = .ok (.iload 5, 2) := by decide +kernel
theorem dX9_insert_30 : decode cX9_insert 30 = .ok (.iload_n 2, 1) := by decide +kernel
theorem dX9_insert_31 : decode cX9_insert 31 = .ok (.if_icmp .le 25, 3) := by decide +kernel
theorem dX9_insert_34 : decode cX9_insert 34 = .ok (.aload_n 0, 1) := by decide +kernel
theorem dX9_insert_35 : decode cX9_insert 35 = .ok (.getfield 21, 3) := by decide +kernel
theorem dX9_insert_38 : decode cX9_insert 38 = .ok (.iload 5, 2) := by decide +kernel
theorem dX9_insert_40 : decode cX9_insert 40 = .ok (.aload_n 0, 1) := by decide +kernel
theorem dX9_insert_41 : decode cX9_insert 41 = .ok (.getfield 21, 3) := by decide +kernel
theorem dX9_insert_44 : decode cX9_insert 44 = .ok (.iload 5, 2) := by decide +kernel
theorem dX9_insert_46 : decode cX9_insert 46 = .ok (.iconst 1, 1) := by decide +kernel
theorem dX9_insert_47 : decode cX9_insert 47 = .ok (.isub, 1) := by decide +kernel
theorem dX9_insert_48 : decode cX9_insert 48 = .ok (.iaload, 1) := by decide +kernel
theorem dX9_insert_49 : decode cX9_insert 49 = .ok (.iastore, 1) := by decide +kernel
theorem dX9_insert_50 : decode cX9_insert 50 = .ok (.iinc 5 (-1), 3) := by decide +kernel
theorem dX9_insert_53 : decode cX9_insert 53 = .ok (.goto (-25), 3) := by decide +kernel
theorem dX9_insert_56 : decode cX9_insert 56 = .ok (.aload_n 0, 1) := by decide +kernel
theorem dX9_insert_57 : decode cX9_insert 57 = .ok (.getfield 21, 3) := by decide +kernel
theorem dX9_insert_60 : decode cX9_insert 60 = .ok (.iload_n 2, 1) := by decide +kernel
theorem dX9_insert_61 : decode cX9_insert 61 = .ok (.aload_n 0, 1) := by decide +kernel
theorem dX9_insert_62 : decode cX9_insert 62 = .ok (.getfield 36, 3) := by decide +kernel
theorem dX9_insert_65 : decode cX9_insert 65 = .ok (.iastore, 1) := by decide +kernel
theorem dX9_insert_66 : decode cX9_insert 66 = .ok (.aload_n 0, 1) := by decide +kernel
theorem dX9_insert_67 : decode cX9_insert 67 = .ok (.getfield 18, 3) := by decide +kernel
theorem dX9_insert_70 : decode cX9_insert 70 = .ok (.aload_n 0, 1) := by decide +kernel
theorem dX9_insert_71 : decode cX9_insert 71 = .ok (.getfield 36, 3) := by decide +kernel
theorem dX9_insert_74 : decode cX9_insert 74 = .ok (.iload_n 1, 1) := by decide +kernel
theorem dX9_insert_75 : decode cX9_insert 75 = .ok (.iastore, 1) := by decide +kernel
theorem dX9_insert_76 : decode cX9_insert 76 = .ok (.aload_n 0, 1) := by decide +kernel
theorem dX9_insert_77 : decode cX9_insert 77 = .ok (.getfield 9, 3) := by decide +kernel
theorem dX9_insert_80 : decode cX9_insert 80 = .ok (.aload_n 0, 1) := by decide +kernel
theorem dX9_insert_81 : decode cX9_insert 81 = .ok (.getfield 36, 3) := by decide +kernel
theorem dX9_insert_84 : decode cX9_insert 84 = .ok (.iload_n 3, 1) := by decide +kernel
theorem dX9_insert_85 : decode cX9_insert 85 = .ok (.iastore, 1) := by decide +kernel
theorem dX9_insert_86 : decode cX9_insert 86 = .ok (.aload_n 0, 1) := by decide +kernel
theorem dX9_insert_87 : decode cX9_insert 87 = .ok (.getfield 15, 3) := by decide +kernel
theorem dX9_insert_90 : decode cX9_insert 90 = .ok (.aload_n 0, 1) := by decide +kernel
theorem dX9_insert_91 : decode cX9_insert 91 = .ok (.getfield 36, 3) := by decide +kernel
theorem dX9_insert_94 : decode cX9_insert 94 = .ok (.iload 4, 2) := by decide +kernel
theorem dX9_insert_96 : decode cX9_insert 96 = .ok (.iastore, 1) := by decide +kernel
theorem dX9_insert_97 : decode cX9_insert 97 = .ok (.aload_n 0, 1) := by decide +kernel
theorem dX9_insert_98 : decode cX9_insert 98 = .ok (.dup, 1) := by decide +kernel
theorem dX9_insert_99 : decode cX9_insert 99 = .ok (.getfield 36, 3) := by decide +kernel
theorem dX9_insert_102 : decode cX9_insert 102 = .ok (.iconst 1, 1) := by decide +kernel
theorem dX9_insert_103 : decode cX9_insert 103 = .ok (.iadd, 1) := by decide +kernel
theorem dX9_insert_104 : decode cX9_insert 104 = .ok (.putfield 36, 3) := by decide +kernel
theorem dX9_insert_107 : decode cX9_insert 107 = .ok (.aload_n 0, 1) := by decide +kernel
theorem dX9_insert_108 : decode cX9_insert 108 = .ok (.invokevirtual 40, 3) := by decide +kernel
theorem dX9_insert_111 : decode cX9_insert 111 = .ok (.return_, 1) := by decide +kernel
theorem lk_X9_insert_f36 : Cond.fieldLink RX9 36 "TreeComparer$Tree" "count" "I" ∈ wsX9_insert := by decide +kernel
theorem hi_X9_insert_9 : ∀ w ∈ u_ws RX9 TX9 9, w ∈ wsX9_insert := by decide +kernel
theorem lk_X9_insert_f21 : Cond.fieldLink RX9 21 "TreeComparer$Tree" "preorder" "[I" ∈ wsX9_insert := by decide +kernel
theorem lk_X9_insert_f18 : Cond.fieldLink RX9 18 "TreeComparer$Tree" "parent" "[I" ∈ wsX9_insert := by decide +kernel
theorem lk_X9_insert_f9 : Cond.fieldLink RX9 9 "TreeComparer$Tree" "kind" "[I" ∈ wsX9_insert := by decide +kernel
theorem lk_X9_insert_f15 : Cond.fieldLink RX9 15 "TreeComparer$Tree" "label" "[I" ∈ wsX9_insert := by decide +kernel
def wph_X9_insert_28 (o : Nat) (p0 : Int) (p1 : Int) (p2 : Int) (p3 : Int) (x5 : Int) (M : Mem) (J28 : Int → Mem → Prop) (Q : Mem → Prop) : Prop := inR x5 ∧ inR p1 ∧ ((x5 ≤ p1 → ((0 : Int) ≤ p1 ∧ p1 < 12) ∧ (∀ M12 : Mem, M12 = mset M o 3 p1.toNat ((M o 8 0)) → ((0 : Int) ≤ (M12 o 8 0) ∧ (M12 o 8 0) < 12) ∧ (∀ M14 : Mem, M14 = mset M12 o 2 ((M12 o 8 0)).toNat p0 → ((0 : Int) ≤ (M14 o 8 0) ∧ (M14 o 8 0) < 12) ∧ (∀ M16 : Mem, M16 = mset M14 o 0 ((M14 o 8 0)).toNat p2 → ((0 : Int) ≤ (M16 o 8 0) ∧ (M16 o 8 0) < 12) ∧ (∀ M18 : Mem, M18 = mset M16 o 1 ((M16 o 8 0)).toNat p3 → (∀ M20 : Mem, M20 = mset M18 o 8 0 ((M18 o 8 0) + 1) → wp_X9_measure M20 o (fun M22 => Q M22))))))) ∧ (¬ (x5 ≤ p1) → ((0 : Int) ≤ x5 - 1 ∧ x5 - 1 < 12) ∧ ((0 : Int) ≤ x5 ∧ x5 < 12) ∧ (∀ M24 : Mem, M24 = mset M o 3 x5.toNat ((M o 3 (x5 - 1).toNat)) → J28 (x5 + (-1)) M24)))
def wpe_X9_insert (o : Nat) (p0 : Int) (p1 : Int) (p2 : Int) (p3 : Int) (M : Mem) (J28 : Int → Mem → Prop) (Q : Mem → Prop) : Prop := inR (M o 8 0) ∧ ((12 ≤ (M o 8 0) → Q M) ∧ (¬ (12 ≤ (M o 8 0)) → inR p1 ∧ ((p1 < 0 → Q M) ∧ (¬ (p1 < 0) → inR p1 ∧ inR (M o 8 0) ∧ ((p1 ≤ (M o 8 0) → (∀ y8 : Int, y8 = (M o 8 0) → J28 y8 M)) ∧ (¬ (p1 ≤ (M o 8 0)) → Q M))))))
def wp_X9_insert (M : Mem) (o : Nat) (p0 : Int) (p1 : Int) (p2 : Int) (p3 : Int) (Q : Mem → Prop) : Prop := ∃ (I28 : Nat → Int → Mem → Prop), wpe_X9_insert o p0 p1 p2 p3 M (fun (x5 : Int) (M1 : Mem) => ∃ n1 : Nat, I28 n1 x5 M1) Q ∧ (∀ (n : Nat) (x5 : Int) (M : Mem), I28 n x5 M → wph_X9_insert_28 o p0 p1 p2 p3 x5 M (fun (x5 : Int) (M1 : Mem) => ∃ n1 : Nat, n1 < n ∧ I28 n1 x5 M1) Q)
set_option maxHeartbeats 4000000 in
set_option maxRecDepth 100000 in
theorem wkh_X9_insert_28 {p : Program} {l : Launch} {e : Env} {s : State} {m : MethodId} {args : Array Value} {below : List Frame} {meth : Method} {c : Code} {D : va_G} {g : GT} {A : Nat → Prop} {a : Nat → Nat} {b : Nat → Nat → Nat} (X : vC p s m args meth c D g A RX9 wsX9_insert cX9_insert 6) (hr : meth.sig.returnType = none) {o : Nat} {p0 : Int} {p1 : Int} {p2 : Int} {p3 : Int} (ho : isT o) {x5 : Int} {M : Mem} {J28 : Int → Mem → Prop} {Q : Mem → Prop} (hJ28 : ∀ (x5 : Int) (M : Mem), J28 x5 M → vV p l e ({ frames := 2, cells := 0, slots := 0, locals := 43 } : Room) s m args below meth c D g A a b 6 0 0 (MQ below (cQv D g A a b Q) args s 0 0 A) M [(0, .ref (a o)), (1, iv p0), (2, iv p1), (3, iv p2), (4, iv p3), (5, iv x5)] 28 []) (hw : wph_X9_insert_28 o p0 p1 p2 p3 x5 M J28 Q) : vV p l e ({ frames := 2, cells := 0, slots := 0, locals := 43 } : Room) s m args below meth c D g A a b 6 0 0 (MQ below (cQv D g A a b Q) args s 0 0 A) M [(0, .ref (a o)), (1, iv p0), (2, iv p1), (3, iv p2), (4, iv p3), (5, iv x5)] 28 [] := by
  unfold wph_X9_insert_28 at hw
  refine V_iload X dX9_insert_28 (q := 5) rfl ?_
  refine V_iload_n X dX9_insert_30 rfl (q := 2) rfl ?_
  obtain ⟨h9, h10, hw⟩ := hw
  refine V_icmp_le (tgt := 56) X h9 h10 dX9_insert_31 (by decide) (fun q11 => ?_) (fun q11 => ?_)
  · have hw := hw.1 q11
    refine V_aload_n X dX9_insert_56 rfl (q := 0) rfl ?_
    refine V_get (C := RX9) (T := TX9) (N := 9) (ci := 9) X hi_X9_insert_9 (gTO ho) rfl 3 (by decide) lk_X9_insert_f21 (fun _ h9 => h9) rfl dX9_insert_57 ?_
    refine V_iload_n X dX9_insert_60 rfl (q := 2) rfl ?_
    refine V_aload_n X dX9_insert_61 rfl (q := 0) rfl ?_
    refine V_get (C := RX9) (T := TX9) (N := 9) (ci := 9) X hi_X9_insert_9 (gTO ho) rfl 8 (by decide) lk_X9_insert_f36 (fun _ h9 => h9) rfl dX9_insert_62 ?_
    obtain ⟨h13, hw⟩ := hw
    refine V_iast X ((gT_3 ho)) ((sT_3 ho)) h13 (by decide) dX9_insert_65 (fun M12 eM12 => ?_)
    have hw := hw M12 eM12
    refine V_aload_n X dX9_insert_66 rfl (q := 0) rfl ?_
    refine V_get (C := RX9) (T := TX9) (N := 9) (ci := 9) X hi_X9_insert_9 (gTO ho) rfl 2 (by decide) lk_X9_insert_f18 (fun _ h9 => h9) rfl dX9_insert_67 ?_
    refine V_aload_n X dX9_insert_70 rfl (q := 0) rfl ?_
    refine V_get (C := RX9) (T := TX9) (N := 9) (ci := 9) X hi_X9_insert_9 (gTO ho) rfl 8 (by decide) lk_X9_insert_f36 (fun _ h9 => h9) rfl dX9_insert_71 ?_
    refine V_iload_n X dX9_insert_74 rfl (q := 1) rfl ?_
    obtain ⟨h15, hw⟩ := hw
    refine V_iast X ((gT_2 ho)) ((sT_2 ho)) h15 (by decide) dX9_insert_75 (fun M14 eM14 => ?_)
    have hw := hw M14 eM14
    refine V_aload_n X dX9_insert_76 rfl (q := 0) rfl ?_
    refine V_get (C := RX9) (T := TX9) (N := 9) (ci := 9) X hi_X9_insert_9 (gTO ho) rfl 0 (by decide) lk_X9_insert_f9 (fun _ h9 => h9) rfl dX9_insert_77 ?_
    refine V_aload_n X dX9_insert_80 rfl (q := 0) rfl ?_
    refine V_get (C := RX9) (T := TX9) (N := 9) (ci := 9) X hi_X9_insert_9 (gTO ho) rfl 8 (by decide) lk_X9_insert_f36 (fun _ h9 => h9) rfl dX9_insert_81 ?_
    refine V_iload_n X dX9_insert_84 rfl (q := 3) rfl ?_
    obtain ⟨h17, hw⟩ := hw
    refine V_iast X ((gT_0 ho)) ((sT_0 ho)) h17 (by decide) dX9_insert_85 (fun M16 eM16 => ?_)
    have hw := hw M16 eM16
    refine V_aload_n X dX9_insert_86 rfl (q := 0) rfl ?_
    refine V_get (C := RX9) (T := TX9) (N := 9) (ci := 9) X hi_X9_insert_9 (gTO ho) rfl 1 (by decide) lk_X9_insert_f15 (fun _ h9 => h9) rfl dX9_insert_87 ?_
    refine V_aload_n X dX9_insert_90 rfl (q := 0) rfl ?_
    refine V_get (C := RX9) (T := TX9) (N := 9) (ci := 9) X hi_X9_insert_9 (gTO ho) rfl 8 (by decide) lk_X9_insert_f36 (fun _ h9 => h9) rfl dX9_insert_91 ?_
    refine V_iload X dX9_insert_94 (q := 4) rfl ?_
    obtain ⟨h19, hw⟩ := hw
    refine V_iast X ((gT_1 ho)) ((sT_1 ho)) h19 (by decide) dX9_insert_96 (fun M18 eM18 => ?_)
    have hw := hw M18 eM18
    refine V_aload_n X dX9_insert_97 rfl (q := 0) rfl ?_
    refine V_dup X dX9_insert_98 rfl ?_
    refine V_get (C := RX9) (T := TX9) (N := 9) (ci := 9) X hi_X9_insert_9 (gTO ho) rfl 8 (by decide) lk_X9_insert_f36 (fun _ h9 => h9) rfl dX9_insert_99 ?_
    refine V_iconst X dX9_insert_102 ?_
    refine V_iadd X dX9_insert_103 ?_
    refine V_put (C := RX9) (T := TX9) (N := 9) (ci := 9) X hi_X9_insert_9 (gTO ho) rfl 8 (by decide) tyX9 tyX9_ok nmX9 rfl (tyX9_ok 8 (by decide)) (Or.inl rfl) (show 8 < 9 from by decide) (sTI_8 ho) lk_X9_insert_f36 (fun _ h9 => h9) dX9_insert_104 (fun M20 eM20 => ?_)
    have hw := hw M20 eM20
    refine V_aload_n X dX9_insert_107 rfl (q := 0) rfl ?_
    refine V_callV_v X _ (gTO ho) rfl (As := []) (st := []) (c_X9_measure l ho hw) (cwV 0 X.2.2.2.1 gX9_insert_X9_measure rfl rfl rfl (by decide +kernel) ⟨Nat.le_of_ble_eq_true rfl, Nat.le_of_ble_eq_true rfl⟩) rfl (Nat.le_of_ble_eq_true rfl) ⟨Nat.le_of_ble_eq_true rfl, Nat.le_of_ble_eq_true rfl⟩ rfl dX9_insert_108 (fun M22 hw => ?_)
    exact V_vret X hr hw dX9_insert_111
  · have hw := hw.2 q11
    refine V_aload_n X dX9_insert_34 rfl (q := 0) rfl ?_
    refine V_get (C := RX9) (T := TX9) (N := 9) (ci := 9) X hi_X9_insert_9 (gTO ho) rfl 3 (by decide) lk_X9_insert_f21 (fun _ h9 => h9) rfl dX9_insert_35 ?_
    refine V_iload X dX9_insert_38 (q := 5) rfl ?_
    refine V_aload_n X dX9_insert_40 rfl (q := 0) rfl ?_
    refine V_get (C := RX9) (T := TX9) (N := 9) (ci := 9) X hi_X9_insert_9 (gTO ho) rfl 3 (by decide) lk_X9_insert_f21 (fun _ h9 => h9) rfl dX9_insert_41 ?_
    refine V_iload X dX9_insert_44 (q := 5) rfl ?_
    refine V_iconst X dX9_insert_46 ?_
    refine V_isub X dX9_insert_47 ?_
    obtain ⟨h23, hw⟩ := hw
    refine V_iald X ((gT_3 ho)) h23 (by decide) dX9_insert_48 ?_
    obtain ⟨h25, hw⟩ := hw
    refine V_iast X ((gT_3 ho)) ((sT_3 ho)) h25 (by decide) dX9_insert_49 (fun M24 eM24 => ?_)
    have hw := hw M24 eM24
    refine V_iinc (lv1 := [(0, .ref (a o)), (1, iv p0), (2, iv p1), (3, iv p2), (4, iv p3), (5, iv (x5 + (-1)))]) X [1, 2, 3, 4, 5, 0] dX9_insert_50 (q := 5) rfl (by decide) rfl ?_
    refine V_goto (tgt := 28) X dX9_insert_53 (by decide) ?_
    exact hJ28 _ _ hw
set_option maxHeartbeats 4000000 in
set_option maxRecDepth 100000 in
theorem wke_X9_insert {p : Program} {l : Launch} {e : Env} {s : State} {m : MethodId} {args : Array Value} {below : List Frame} {meth : Method} {c : Code} {D : va_G} {g : GT} {A : Nat → Prop} {a : Nat → Nat} {b : Nat → Nat → Nat} (X : vC p s m args meth c D g A RX9 wsX9_insert cX9_insert 6) (hr : meth.sig.returnType = none) {o : Nat} {p0 : Int} {p1 : Int} {p2 : Int} {p3 : Int} (ho : isT o) {M : Mem} {J28 : Int → Mem → Prop} {Q : Mem → Prop} (hJ28 : ∀ (x5 : Int) (M : Mem), J28 x5 M → vV p l e ({ frames := 2, cells := 0, slots := 0, locals := 43 } : Room) s m args below meth c D g A a b 6 0 0 (MQ below (cQv D g A a b Q) args s 0 0 A) M [(0, .ref (a o)), (1, iv p0), (2, iv p1), (3, iv p2), (4, iv p3), (5, iv x5)] 28 []) (hw : wpe_X9_insert o p0 p1 p2 p3 M J28 Q) : vV p l e ({ frames := 2, cells := 0, slots := 0, locals := 43 } : Room) s m args below meth c D g A a b 6 0 0 (MQ below (cQv D g A a b Q) args s 0 0 A) M [(0, .ref (a o)), (1, iv p0), (2, iv p1), (3, iv p2), (4, iv p3)] 0 [] := by
  unfold wpe_X9_insert at hw
  refine V_aload_n X dX9_insert_0 rfl (q := 0) rfl ?_
  refine V_get (C := RX9) (T := TX9) (N := 9) (ci := 9) X hi_X9_insert_9 (gTO ho) rfl 8 (by decide) lk_X9_insert_f36 (fun _ h9 => h9) rfl dX9_insert_1 ?_
  refine V_bipush X dX9_insert_4 rfl ?_
  obtain ⟨h1, hw⟩ := hw
  refine V_icmp_ge (tgt := 21) X h1 ⟨by decide, by decide⟩ dX9_insert_6 (by decide) (fun q2 => ?_) (fun q2 => ?_)
  · have hw := hw.1 q2
    exact V_vret X hr hw dX9_insert_21
  · have hw := hw.2 q2
    refine V_iload_n X dX9_insert_9 rfl (q := 2) rfl ?_
    obtain ⟨h3, hw⟩ := hw
    refine V_if_lt (tgt := 21) X h3 dX9_insert_10 (by decide) (fun q4 => ?_) (fun q4 => ?_)
    · have hw := hw.1 q4
      exact V_vret X hr hw dX9_insert_21
    · have hw := hw.2 q4
      refine V_iload_n X dX9_insert_13 rfl (q := 2) rfl ?_
      refine V_aload_n X dX9_insert_14 rfl (q := 0) rfl ?_
      refine V_get (C := RX9) (T := TX9) (N := 9) (ci := 9) X hi_X9_insert_9 (gTO ho) rfl 8 (by decide) lk_X9_insert_f36 (fun _ h9 => h9) rfl dX9_insert_15 ?_
      obtain ⟨h5, h6, hw⟩ := hw
      refine V_icmp_le (tgt := 22) X h5 h6 dX9_insert_18 (by decide) (fun q7 => ?_) (fun q7 => ?_)
      · have hw := hw.1 q7
        refine V_aload_n X dX9_insert_22 rfl (q := 0) rfl ?_
        refine V_get (C := RX9) (T := TX9) (N := 9) (ci := 9) X hi_X9_insert_9 (gTO ho) rfl 8 (by decide) lk_X9_insert_f36 (fun _ h9 => h9) rfl dX9_insert_23 ?_
        refine V_top (fun y8 ey8 => ?_)
        have hw := hw y8 ey8
        refine V_istore (lv1 := [(0, .ref (a o)), (1, iv p0), (2, iv p1), (3, iv p2), (4, iv p3), (5, iv y8)]) X [1, 2, 3, 4, 5, 0] dX9_insert_26 (by decide) rfl ?_
        exact hJ28 _ _ hw
      · have hw := hw.2 q7
        exact V_vret X hr hw dX9_insert_21
set_option maxHeartbeats 4000000 in
set_option maxRecDepth 100000 in
theorem c_X9_insert (l : Launch) {o : Nat} {p0 : Int} {p1 : Int} {p2 : Int} {p3 : Int} (ho : isT o) {D : va_G} {g : GT} {A : Nat → Prop} {a : Nat → Nat} {b : Nat → Nat → Nat} {M : Mem} {Q : Mem → Prop} (hw : wp_X9_insert M o p0 p1 p2 p3 Q) : Met l yX9_insert wsX9_insert ({ frames := 2, cells := 0, slots := 0, locals := 43 } : Room) (cPc D g A a b M [.ref (a o), iv p0, iv p1, iv p2, iv p3]) (cQv D g A a b Q) 0 0 A := by
  refine Met.ofW (cc := cX9_insert) (maxL := 6) (ret := none) (by decide) rfl ?_
  intro p e s m args below meth c s₁ B hml hv
  obtain ⟨rfl, hP, hD, hG⟩ := hv
  have X : vC p s m _ meth c D g A RX9 wsX9_insert cX9_insert 6 := ⟨B.exec, B.bytes, findClass_of_methodNamed B.named, atoms_spec (ws := wsX9_insert) B.pre, hG, hml, B.notSynchronized⟩
  have hr := B.returns
  have hl := lv_entry ([.ref (a o), iv p0, iv p1, iv p2, iv p3]) (n := 6) (Nat.le_of_ble_eq_true rfl)
  rw [lg_entry_eq]
  generalize (lg_sl ([.ref (a o), iv p0, iv p1, iv p2, iv p3]) ++ List.replicate (6 - (lg_sl ([.ref (a o), iv p0, iv p1, iv p2, iv p3])).length) Slot.unset).toArray = ls at hl ⊢
  have hl : lv_has ls 6 [(0, .ref (a o)), (1, iv p0), (2, iv p1), (3, iv p2), (4, iv p3)] := hl
  obtain ⟨I28, hw, hI28⟩ := hw
  have K : ∀ n : Nat, (∀ (x5 : Int) (M : Mem), I28 n x5 M → vV p l e ({ frames := 2, cells := 0, slots := 0, locals := 43 } : Room) s m ([.ref (a o), iv p0, iv p1, iv p2, iv p3] : List Value).toArray below meth c D g A a b 6 0 0 (MQ below (cQv D g A a b Q) ([.ref (a o), iv p0, iv p1, iv p2, iv p3] : List Value).toArray s 0 0 A) M [(0, .ref (a o)), (1, iv p0), (2, iv p1), (3, iv p2), (4, iv p3), (5, iv x5)] 28 []) := by
    intro n
    induction n using Nat.strongRecOn with
    | ind n ih =>
      exact fun x5 M hh => wkh_X9_insert_28 X hr ho (fun _ _ ⟨n1, hn, hh⟩ => (ih n1 hn) _ _ hh) (hI28 n x5 M hh)
  exact wke_X9_insert X hr ho (fun _ _ ⟨n1, hh⟩ => (K n1) _ _ hh) hw s.heap [] ls hP hD va_S.rf hl

set_option maxRecDepth 20000 in
theorem ggX10_addRoot_X10_treeNumbered : GoodIn wsX10_addRoot wsX10_treeNumbered := goodIn_ca (goodIn_r _ [8, 9, 10, 11, 7, 12, 13, 14, 50, 51, 52, 53, 54, 55, 56, 57, 58, 59, 60, 61, 62, 63, 64] (by decide +kernel) (by decide +kernel)) (goodIn_sub (fun _ h => List.mem_cons_of_mem _ (List.mem_append_left _ (List.mem_append_right _ h))) (by decide +kernel))
set_option maxRecDepth 20000 in
theorem gX10_addRoot_X10_treeNumbered : GoodIn wsX10_addRoot (wsV RX10 77 RX10 yX10_treeNumbered wsX10_treeNumbered) := goodIn_app (goodIn_of _ (by decide +kernel)) ggX10_addRoot_X10_treeNumbered
set_option maxRecDepth 20000 in
theorem ggX10_addRoot_X10_needIndex : GoodIn wsX10_addRoot wsX10_needIndex := goodIn_ca (goodIn_r _ [12, 13, 14] (by decide +kernel) (by decide +kernel)) (goodIn_sub (fun _ h => List.mem_cons_of_mem _ (List.mem_append_left _ (List.mem_append_right _ h))) (by decide +kernel))
set_option maxRecDepth 20000 in
theorem gX10_addRoot_X10_needIndex : GoodIn wsX10_addRoot (va_wsS RX10 81 yX10_needIndex wsX10_needIndex) := goodIn_app (goodIn_of _ (by decide +kernel)) ggX10_addRoot_X10_needIndex
set_option maxRecDepth 20000 in
theorem ggX10_addRoot_X10_needAtMost : GoodIn wsX10_addRoot wsX10_needAtMost := goodIn_ca (goodIn_r _ [17, 18, 19] (by decide +kernel) (by decide +kernel)) (goodIn_sub (fun _ h => List.mem_cons_of_mem _ (List.mem_append_right _ h)) (by decide +kernel))
set_option maxRecDepth 20000 in
theorem gX10_addRoot_X10_needAtMost : GoodIn wsX10_addRoot (va_wsS RX10 85 yX10_needAtMost wsX10_needAtMost) := goodIn_app (goodIn_of _ (by decide +kernel)) ggX10_addRoot_X10_needAtMost
set_option maxRecDepth 20000 in
theorem ggX10_addRoot_X9_insert : GoodIn wsX10_addRoot wsX9_insert := goodIn_r _ [23, 24, 25, 26, 27, 28, 29, 30, 31, 21, 32, 33, 34, 35, 36, 37, 38, 39, 40, 41, 42, 43, 44, 45, 46, 47, 48, 49] (by decide +kernel) (by decide +kernel)
set_option maxRecDepth 20000 in
theorem gX10_addRoot_X9_insert_n101 : GoodIn wsX10_addRoot (wsX9_insert) := ggX10_addRoot_X9_insert
theorem dX10_addRoot_0 : decode cX10_addRoot 0 = .ok (.aload_n 0, 1) := by decide +kernel
theorem dX10_addRoot_1 : decode cX10_addRoot 1 = .ok (.iload_n 1, 1) := by decide +kernel
theorem dX10_addRoot_2 : decode cX10_addRoot 2 = .ok (.invokevirtual 77, 3) := by decide +kernel
theorem dX10_addRoot_5 : decode cX10_addRoot 5 = .ok (.astore 4, 2) := by decide +kernel
theorem dX10_addRoot_7 : decode cX10_addRoot 7 = .ok (.iload_n 2, 1) := by decide +kernel
theorem dX10_addRoot_8 : decode cX10_addRoot 8 = .ok (.iconst 4, 1) := by decide +kernel
theorem dX10_addRoot_9 : decode cX10_addRoot 9 = .ok (.invokestatic 81, 3) := by decide +kernel
theorem dX10_addRoot_12 : decode cX10_addRoot 12 = .ok (.iload_n 3, 1) := by decide +kernel
theorem dX10_addRoot_13 : decode cX10_addRoot 13 = .ok (.bipush 99, 2) := by decide +kernel
theorem dX10_addRoot_15 : decode cX10_addRoot 15 = .ok (.invokestatic 85, 3) := by decide +kernel
theorem dX10_addRoot_18 : decode cX10_addRoot 18 = .ok (.aload 4, 2) := by decide +kernel
theorem dX10_addRoot_20 : decode cX10_addRoot 20 = .ok (.getfield 88, 3) := by decide +kernel
theorem dX10_addRoot_23 : decode cX10_addRoot 23 = .ok (.ifCond .eq 13, 3) := by decide +kernel
theorem dX10_addRoot_26 : decode cX10_addRoot 26 = .ok (.new 94, 3) := by decide +kernel
theorem dX10_addRoot_29 : decode cX10_addRoot 29 = .ok (.dup, 1) := by decide +kernel
theorem dX10_addRoot_30 : decode cX10_addRoot 30 = .ok (.ldc 96, 2) := by decide +kernel
theorem dX10_addRoot_32 : decode cX10_addRoot 32 = .ok (.invokespecial 98, 3) := by decide +kernel
theorem dX10_addRoot_35 : decode cX10_addRoot 35 = .ok (.athrow, 1) := by decide +kernel
theorem dX10_addRoot_36 : decode cX10_addRoot 36 = .ok (.aload 4, 2) := by decide +kernel
theorem dX10_addRoot_38 : decode cX10_addRoot 38 = .ok (.iconst (-1), 1) := by decide +kernel
theorem dX10_addRoot_39 : decode cX10_addRoot 39 = .ok (.iconst 0, 1) := by decide +kernel
theorem dX10_addRoot_40 : decode cX10_addRoot 40 = .ok (.iload_n 2, 1) := by decide +kernel
theorem dX10_addRoot_41 : decode cX10_addRoot 41 = .ok (.iload_n 3, 1) := by decide +kernel
theorem dX10_addRoot_42 : decode cX10_addRoot 42 = .ok (.invokevirtual 101, 3) := by decide +kernel
theorem dX10_addRoot_45 : decode cX10_addRoot 45 = .ok (.aload_n 0, 1) := by decide +kernel
theorem dX10_addRoot_46 : decode cX10_addRoot 46 = .ok (.iconst 0, 1) := by decide +kernel
theorem dX10_addRoot_47 : decode cX10_addRoot 47 = .ok (.putfield 73, 3) := by decide +kernel
theorem dX10_addRoot_50 : decode cX10_addRoot 50 = .ok (.return_, 1) := by decide +kernel
theorem hi_X10_addRoot_9 : ∀ w ∈ u_ws RX9 TX9 9, w ∈ wsX10_addRoot := by decide +kernel
theorem lk_X10_addRoot_i9 : Cond.initialized RX9 ∈ wsX10_addRoot := by decide +kernel
theorem lk_X10_addRoot_im101 : Cond.instanceMethod yX9_insert ∈ wsX10_addRoot := by decide +kernel
theorem lk_X10_addRoot_se101 : Cond.selects RX9 yX9_insert yX9_insert ∈ wsX10_addRoot := by decide +kernel
theorem lk_X10_addRoot_f73 : Cond.fieldLink RX10 73 "TreeComparer" "settled" "Z" ∈ wsX10_addRoot := by decide +kernel
theorem hi_X10_addRoot_10 : ∀ w ∈ u_ws RX10 TX10 9, w ∈ wsX10_addRoot := by decide +kernel
theorem lk_X10_addRoot_k94 : Cond.classLink RX10 94 "java/lang/IllegalStateException" ∈ wsX10_addRoot := by decide +kernel
theorem lk_X10_addRoot_ie94 : Cond.initialized "java/lang/IllegalStateException" ∈ wsX10_addRoot := by decide +kernel
theorem at_X10_addRoot_98 {args : Array Value} {s : State} (h1 : ∀ w ∈ wsX10_addRoot, w.before args s = true) (h2 : ∀ w ∈ NWs, va_Nw w s) : ∀ w ∈ vx_atS RX10 98 "java/lang/IllegalStateException" ["java/lang/RuntimeException", "java/lang/Exception"], w.before args s = true := atS_of h1 h2 (by decide +kernel) (by decide +kernel)
def wpe_X10_addRoot (p0 : Int) (p1 : Int) (p2 : Int) (M : Mem) (Q : Mem → Prop) (XQ : String → Mem → Prop) : Prop := wp_X10_treeNumbered M p0 (fun y1 M2 => isT y1 ∧ wp_X10_needIndex M2 p1 4 (fun M4 => wp_X10_needAtMost M4 p2 99 (fun M6 => inR (M6 y1 8 0) ∧ (((M6 y1 8 0) = 0 → wp_X9_insert M6 y1 (-1) 0 p1 p2 (fun M10 => (∀ M11 : Mem, M11 = mset M10 0 8 0 0 → Q M11))) ∧ (¬ ((M6 y1 8 0) = 0) → XQ "java/lang/IllegalStateException" M6))) XQ) XQ) XQ
def wp_X10_addRoot (M : Mem) (p0 : Int) (p1 : Int) (p2 : Int) (Q : Mem → Prop) (XQ : String → Mem → Prop) : Prop := wpe_X10_addRoot p0 p1 p2 M Q XQ
set_option maxHeartbeats 4000000 in
set_option maxRecDepth 100000 in
theorem wke_X10_addRoot {p : Program} {l : Launch} {e : Env} {s : State} {m : MethodId} {args : Array Value} {below : List Frame} {meth : Method} {c : Code} {D : va_G} {g : GT} {A : Nat → Prop} {a : Nat → Nat} {b : Nat → Nat → Nat} (X : vC p s m args meth c D g A RX10 wsX10_addRoot cX10_addRoot 5) (hr : meth.sig.returnType = none) {p0 : Int} {p1 : Int} {p2 : Int} (hlt : l.stackTraces = false) (htab : ∀ x ∈ c.exceptionTable.toList, False) {M : Mem} {Q : Mem → Prop} {XQ : String → Mem → Prop} (hw : wpe_X10_addRoot p0 p1 p2 M Q XQ) : vV p l e ({ frames := 8, cells := 4, slots := 24, locals := 132 } : Room) s m args below meth c D g A a b 5 0 0 (vx_MQ below (cQv D g A a b Q) (cX D g A a b XQ) args s 4 24 A) M [(0, .ref (a 0)), (1, iv p0), (2, iv p1), (3, iv p2)] 0 [] := by
  unfold wpe_X10_addRoot at hw
  refine V_aload_n X dX10_addRoot_0 rfl (q := 0) rfl ?_
  refine V_iload_n X dX10_addRoot_1 rfl (q := 1) rfl ?_
  refine V_callxV_r X _ _ gO_0 rfl (As := [iv p0]) (st := []) (c_X10_treeNumbered l hlt hw) (cwV 1 X.2.2.2.1 gX10_addRoot_X10_treeNumbered rfl rfl rfl (by decide +kernel) ⟨Nat.le_of_ble_eq_true rfl, Nat.le_of_ble_eq_true rfl⟩) rfl (Nat.le_of_ble_eq_true rfl) ⟨Nat.le_of_ble_eq_true rfl, Nat.le_of_ble_eq_true rfl⟩ rfl dX10_addRoot_2 (fun E ce q9 M9 H9 locs9 ls9 hx9 hP9 hD9 hS9 hl9 h91 h92 h93 => V_xout X htab (Nat.le_of_ble_eq_true rfl) (Nat.le_of_ble_eq_true rfl) hx9 hP9 hD9 hS9 h91 h92 h93) (fun y1 M2 hw => ?_)
  obtain ⟨hy1, hw⟩ := hw
  refine V_astore (lv1 := [(0, .ref (a 0)), (1, iv p0), (2, iv p1), (3, iv p2), (4, .ref (a y1))]) X [1, 2, 3, 4, 0] dX10_addRoot_5 (by decide) rfl ?_
  refine V_iload_n X dX10_addRoot_7 rfl (q := 2) rfl ?_
  refine V_iconst X dX10_addRoot_8 ?_
  refine V_callxS_v X _ _ (As := [iv p1, iv 4]) (st := []) (c_X10_needIndex l hlt hw) (va_cwS 2 X.2.2.2.1 gX10_addRoot_X10_needIndex rfl rfl rfl (by decide +kernel) ⟨Nat.le_of_ble_eq_true rfl, Nat.le_of_ble_eq_true rfl⟩) rfl (Nat.le_of_ble_eq_true rfl) ⟨Nat.le_of_ble_eq_true rfl, Nat.le_of_ble_eq_true rfl⟩ rfl dX10_addRoot_9 (fun E ce q9 M9 H9 locs9 ls9 hx9 hP9 hD9 hS9 hl9 h91 h92 h93 => V_xout X htab (Nat.le_of_ble_eq_true rfl) (Nat.le_of_ble_eq_true rfl) hx9 hP9 hD9 hS9 h91 h92 h93) (fun M4 hw => ?_)
  refine V_iload_n X dX10_addRoot_12 rfl (q := 3) rfl ?_
  refine V_bipush X dX10_addRoot_13 rfl ?_
  refine V_callxS_v X _ _ (As := [iv p2, iv 99]) (st := []) (c_X10_needAtMost l hlt hw) (va_cwS 2 X.2.2.2.1 gX10_addRoot_X10_needAtMost rfl rfl rfl (by decide +kernel) ⟨Nat.le_of_ble_eq_true rfl, Nat.le_of_ble_eq_true rfl⟩) rfl (Nat.le_of_ble_eq_true rfl) ⟨Nat.le_of_ble_eq_true rfl, Nat.le_of_ble_eq_true rfl⟩ rfl dX10_addRoot_15 (fun E ce q9 M9 H9 locs9 ls9 hx9 hP9 hD9 hS9 hl9 h91 h92 h93 => V_xout X htab (Nat.le_of_ble_eq_true rfl) (Nat.le_of_ble_eq_true rfl) hx9 hP9 hD9 hS9 h91 h92 h93) (fun M6 hw => ?_)
  refine V_aload X dX10_addRoot_18 (q := 4) rfl ?_
  refine V_getN (C := RX9) (T := TX9) (N := 9) (ci := 9) X hi_X10_addRoot_9 (gTO hy1) rfl 8 (by decide) (List.mem_of_getElem? (i := 20) rfl) (fun _ h9 => h9) rfl dX10_addRoot_20 ?_
  obtain ⟨h7, hw⟩ := hw
  refine V_if_eq (tgt := 36) X h7 dX10_addRoot_23 (by decide) (fun q8 => ?_) (fun q8 => ?_)
  · have hw := hw.1 q8
    refine V_aload X dX10_addRoot_36 (q := 4) rfl ?_
    refine V_iconst X dX10_addRoot_38 ?_
    refine V_iconst X dX10_addRoot_39 ?_
    refine V_iload_n X dX10_addRoot_40 rfl (q := 2) rfl ?_
    refine V_iload_n X dX10_addRoot_41 rfl (q := 3) rfl ?_
    refine V_callVN_v X _ (gTO hy1) rfl (As := [iv (-1), iv 0, iv p1, iv p2]) (st := []) (c_X9_insert l hy1 hw) ⟨va_cnB 4 X.2.2.2.1 gX10_addRoot_X9_insert_n101 rfl rfl rfl (X.2.2.2.2.1.2.1 _ (List.mem_of_getElem? (i := 121) rfl)) (X.2.2.2.1 _ lk_X10_addRoot_i9) (by decide +kernel) ⟨Nat.le_of_ble_eq_true rfl, Nat.le_of_ble_eq_true rfl⟩, X.2.2.2.1 _ lk_X10_addRoot_im101, X.2.2.2.1 _ lk_X10_addRoot_se101⟩ rfl (Nat.le_of_ble_eq_true rfl) ⟨Nat.le_of_ble_eq_true rfl, Nat.le_of_ble_eq_true rfl⟩ rfl dX10_addRoot_42 (fun M10 hw => ?_)
    refine V_aload_n X dX10_addRoot_45 rfl (q := 0) rfl ?_
    refine V_iconst X dX10_addRoot_46 ?_
    refine V_put (C := RX10) (T := TX10) (N := 9) (ci := 10) X hi_X10_addRoot_10 gO_0 rfl 8 (by decide) tyX10 tyX10_ok nmX10 rfl (tyX10_ok 8 (by decide)) (Or.inr ⟨rfl, by decide⟩) (show 8 < 9 from by decide) sI_0_8 lk_X10_addRoot_f73 (fun _ h9 => h9) dX10_addRoot_47 (fun M11 eM11 => ?_)
    have hw := hw M11 eM11
    exact V_xret (Nat.le_of_ble_eq_true rfl) (Nat.le_of_ble_eq_true rfl) (V_vret X hr hw dX10_addRoot_50)
  · have hw := hw.2 q8
    exact V_throwS (cls := "java/lang/IllegalStateException") (text := "the tree is not empty") (names := ["java/lang/RuntimeException", "java/lang/Exception"]) X hlt lk_X10_addRoot_k94 lk_X10_addRoot_ie94 (X.2.2.2.2.1.2.2.2.2.2 (RX10, 96, "the tree is not empty") (by decide +kernel)) (at_X10_addRoot_98 X.2.2.2.1 X.2.2.2.2.1.2.1) htab (by decide +kernel) (Nat.le_of_ble_eq_true rfl) (Nat.le_of_ble_eq_true rfl) (Nat.le_of_ble_eq_true rfl) (Nat.le_of_ble_eq_true rfl) (Nat.le_of_ble_eq_true rfl) (Nat.le_of_ble_eq_true rfl) hw dX10_addRoot_26 dX10_addRoot_29 dX10_addRoot_30 dX10_addRoot_32 dX10_addRoot_35
set_option maxHeartbeats 4000000 in
set_option maxRecDepth 100000 in
theorem c_X10_addRoot (l : Launch) {p0 : Int} {p1 : Int} {p2 : Int} (hlt : l.stackTraces = false) {D : va_G} {g : GT} {A : Nat → Prop} {a : Nat → Nat} {b : Nat → Nat → Nat} {M : Mem} {Q : Mem → Prop} {XQ : String → Mem → Prop} (hw : wp_X10_addRoot M p0 p1 p2 Q XQ) : vx_Met l yX10_addRoot wsX10_addRoot ({ frames := 8, cells := 4, slots := 24, locals := 132 } : Room) (cPc D g A a b M [.ref (a 0), iv p0, iv p1, iv p2]) (cQv D g A a b Q) (cX D g A a b XQ) 4 24 A := by
  refine vx_ofW (cc := cX10_addRoot) (maxL := 5) (ret := none) (by decide) rfl ?_
  intro p e s m args below meth c s₁ B hml htab hv
  obtain ⟨rfl, hP, hD, hG⟩ := hv
  have X : vC p s m _ meth c D g A RX10 wsX10_addRoot cX10_addRoot 5 := ⟨B.exec, B.bytes, findClass_of_methodNamed B.named, atoms_spec (ws := wsX10_addRoot) B.pre, hG, hml, B.notSynchronized⟩
  have hr := B.returns
  have hl := lv_entry ([.ref (a 0), iv p0, iv p1, iv p2]) (n := 5) (Nat.le_of_ble_eq_true rfl)
  rw [lg_entry_eq]
  generalize (lg_sl ([.ref (a 0), iv p0, iv p1, iv p2]) ++ List.replicate (5 - (lg_sl ([.ref (a 0), iv p0, iv p1, iv p2])).length) Slot.unset).toArray = ls at hl ⊢
  have hl : lv_has ls 5 [(0, .ref (a 0)), (1, iv p0), (2, iv p1), (3, iv p2)] := hl
  exact wke_X10_addRoot X hr hlt htab hw s.heap [] ls hP hD va_S.rf hl

theorem dX7_shownLabel_0 : decode cX7_shownLabel 0 = .ok (.iload_n 1, 1) := by decide +kernel
theorem dX7_shownLabel_1 : decode cX7_shownLabel 1 = .ok (.aload_n 0, 1) := by decide +kernel
theorem dX7_shownLabel_2 : decode cX7_shownLabel 2 = .ok (.getfield 67, 3) := by decide +kernel
theorem dX7_shownLabel_5 : decode cX7_shownLabel 5 = .ok (.if_icmp .le 16, 3) := by decide +kernel
theorem dX7_shownLabel_8 : decode cX7_shownLabel 8 = .ok (.aload_n 0, 1) := by decide +kernel
theorem dX7_shownLabel_9 : decode cX7_shownLabel 9 = .ok (.getfield 25, 3) := by decide +kernel
theorem dX7_shownLabel_12 : decode cX7_shownLabel 12 = .ok (.getfield 39, 3) := by decide +kernel
theorem dX7_shownLabel_15 : decode cX7_shownLabel 15 = .ok (.getfield 64, 3) := by decide +kernel
theorem dX7_shownLabel_18 : decode cX7_shownLabel 18 = .ok (.iload_n 2, 1) := by decide +kernel
theorem dX7_shownLabel_19 : decode cX7_shownLabel 19 = .ok (.iaload, 1) := by decide +kernel
theorem dX7_shownLabel_20 : decode cX7_shownLabel 20 = .ok (.ireturn, 1) := by decide +kernel
theorem dX7_shownLabel_21 : decode cX7_shownLabel 21 = .ok (.iconst 0, 1) := by decide +kernel
theorem dX7_shownLabel_22 : decode cX7_shownLabel 22 = .ok (.istore_n 3, 1) := by decide +kernel
theorem dX7_shownLabel_23 : decode cX7_shownLabel 23 = .ok (.iload_n 3, 1) := by decide +kernel
theorem dX7_shownLabel_24 : decode cX7_shownLabel 24 = .ok (.iload_n 1, 1) := by decide +kernel
theorem dX7_shownLabel_25 : decode cX7_shownLabel 25 = .ok (.if_icmp .ge 63, 3) := by decide +kernel
theorem dX7_shownLabel_28 : decode cX7_shownLabel 28 = .ok (.aload_n 0, 1) := by decide +kernel
theorem dX7_shownLabel_29 : decode cX7_shownLabel 29 = .ok (.getfield 9, 3) := by decide +kernel
theorem dX7_shownLabel_32 : decode cX7_shownLabel 32 = .ok (.iload_n 3, 1) := by decide +kernel
theorem dX7_shownLabel_33 : decode cX7_shownLabel 33 = .ok (.iaload, 1) := by decide +kernel
theorem dX7_shownLabel_34 : decode cX7_shownLabel 34 = .ok (.iconst 1, 1) := by decide +kernel
theorem dX7_shownLabel_35 : decode cX7_shownLabel 35 = .ok (.if_icmp .ne 47, 3) := by decide +kernel
theorem dX7_shownLabel_38 : decode cX7_shownLabel 38 = .ok (.aload_n 0, 1) := by decide +kernel
theorem dX7_shownLabel_39 : decode cX7_shownLabel 39 = .ok (.getfield 15, 3) := by decide +kernel
theorem dX7_shownLabel_42 : decode cX7_shownLabel 42 = .ok (.iload_n 3, 1) := by decide +kernel
theorem dX7_shownLabel_43 : decode cX7_shownLabel 43 = .ok (.iaload, 1) := by decide +kernel
theorem dX7_shownLabel_44 : decode cX7_shownLabel 44 = .ok (.iload_n 2, 1) := by decide +kernel
theorem dX7_shownLabel_45 : decode cX7_shownLabel 45 = .ok (.if_icmp .ne 37, 3) := by decide +kernel
theorem dX7_shownLabel_48 : decode cX7_shownLabel 48 = .ok (.aload_n 0, 1) := by decide +kernel
theorem dX7_shownLabel_49 : decode cX7_shownLabel 49 = .ok (.getfield 29, 3) := by decide +kernel
theorem dX7_shownLabel_52 : decode cX7_shownLabel 52 = .ok (.getfield 49, 3) := by decide +kernel
theorem dX7_shownLabel_55 : decode cX7_shownLabel 55 = .ok (.iload_n 2, 1) := by decide +kernel
theorem dX7_shownLabel_56 : decode cX7_shownLabel 56 = .ok (.iaload, 1) := by decide +kernel
theorem dX7_shownLabel_57 : decode cX7_shownLabel 57 = .ok (.iconst (-1), 1) := by decide +kernel
theorem dX7_shownLabel_58 : decode cX7_shownLabel 58 = .ok (.if_icmp .eq 24, 3) := by decide +kernel
theorem dX7_shownLabel_61 : decode cX7_shownLabel 61 = .ok (.aload_n 0, 1) := by decide +kernel
theorem dX7_shownLabel_62 : decode cX7_shownLabel 62 = .ok (.getfield 25, 3) := by decide +kernel
theorem dX7_shownLabel_65 : decode cX7_shownLabel 65 = .ok (.getfield 39, 3) := by decide +kernel
theorem dX7_shownLabel_68 : decode cX7_shownLabel 68 = .ok (.getfield 64, 3) := by decide +kernel
theorem dX7_shownLabel_71 : decode cX7_shownLabel 71 = .ok (.aload_n 0, 1) := by decide +kernel
theorem dX7_shownLabel_72 : decode cX7_shownLabel 72 = .ok (.getfield 29, 3) := by decide +kernel
theorem dX7_shownLabel_75 : decode cX7_shownLabel 75 = .ok (.getfield 49, 3) := by decide +kernel
theorem dX7_shownLabel_78 : decode cX7_shownLabel 78 = .ok (.iload_n 2, 1) := by decide +kernel
theorem dX7_shownLabel_79 : decode cX7_shownLabel 79 = .ok (.iaload, 1) := by decide +kernel
theorem dX7_shownLabel_80 : decode cX7_shownLabel 80 = .ok (.iaload, 1) := by decide +kernel
theorem dX7_shownLabel_81 : decode cX7_shownLabel 81 = .ok (.ireturn, 1) := by decide +kernel
theorem dX7_shownLabel_82 : decode cX7_shownLabel 82 = .ok (.iinc 3 1, 3) := by decide +kernel
theorem dX7_shownLabel_85 : decode cX7_shownLabel 85 = .ok (.goto (-62), 3) := by decide +kernel
theorem dX7_shownLabel_88 : decode cX7_shownLabel 88 = .ok (.aload_n 0, 1) := by decide +kernel
theorem dX7_shownLabel_89 : decode cX7_shownLabel 89 = .ok (.getfield 25, 3) := by decide +kernel
theorem dX7_shownLabel_92 : decode cX7_shownLabel 92 = .ok (.getfield 33, 3) := by decide +kernel
theorem dX7_shownLabel_95 : decode cX7_shownLabel 95 = .ok (.getfield 64, 3) := by decide +kernel
theorem dX7_shownLabel_98 : decode cX7_shownLabel 98 = .ok (.iload_n 2, 1) := by decide +kernel
theorem dX7_shownLabel_99 : decode cX7_shownLabel 99 = .ok (.iaload, 1) := by decide +kernel
theorem dX7_shownLabel_100 : decode cX7_shownLabel 100 = .ok (.ireturn, 1) := by decide +kernel
theorem lk_X7_shownLabel_f67 : Cond.fieldLink RX7 67 "TreeComparer$Script" "oldCount" "I" ∈ wsX7_shownLabel := by decide +kernel
theorem hi_X7_shownLabel_7 : ∀ w ∈ u_ws RX7 TX7 9, w ∈ wsX7_shownLabel := by decide +kernel
theorem lk_X7_shownLabel_f25 : Cond.fieldLink RX7 25 "TreeComparer$Script" "given" "LTreeComparer$Given;" ∈ wsX7_shownLabel := by decide +kernel
theorem hi_X7_shownLabel_1 : ∀ w ∈ u_ws RX1 TX1 6, w ∈ wsX7_shownLabel := by decide +kernel
theorem hi_X7_shownLabel_9 : ∀ w ∈ u_ws RX9 TX9 9, w ∈ wsX7_shownLabel := by decide +kernel
theorem lk_X7_shownLabel_f9 : Cond.fieldLink RX7 9 "TreeComparer$Script" "edit" "[I" ∈ wsX7_shownLabel := by decide +kernel
theorem lk_X7_shownLabel_f15 : Cond.fieldLink RX7 15 "TreeComparer$Script" "node" "[I" ∈ wsX7_shownLabel := by decide +kernel
theorem lk_X7_shownLabel_f29 : Cond.fieldLink RX7 29 "TreeComparer$Script" "mapping" "LTreeComparer$Mapping;" ∈ wsX7_shownLabel := by decide +kernel
theorem hi_X7_shownLabel_4 : ∀ w ∈ u_ws RX4 TX4 8, w ∈ wsX7_shownLabel := by decide +kernel
def wpj_X7_shownLabel_82 (p0 : Int) (p1 : Int) (x3 : Int) (M : Mem) (J23 : Int → Mem → Prop) (Q : Int → Mem → Prop) : Prop := J23 (x3 + 1) M
def wph_X7_shownLabel_23 (p0 : Int) (p1 : Int) (x3 : Int) (M : Mem) (J23 : Int → Mem → Prop) (Q : Int → Mem → Prop) : Prop := inR x3 ∧ inR p0 ∧ ((p0 ≤ x3 → ((0 : Int) ≤ p1 ∧ p1 < 12) ∧ Q ((M 11 1 p1.toNat)) M) ∧ (¬ (p0 ≤ x3) → ((0 : Int) ≤ x3 ∧ x3 < 24) ∧ inR (M 7 2 x3.toNat) ∧ (((M 7 2 x3.toNat) ≠ 1 → wpj_X7_shownLabel_82 p0 p1 x3 M J23 Q) ∧ (¬ ((M 7 2 x3.toNat) ≠ 1) → ((0 : Int) ≤ x3 ∧ x3 < 24) ∧ inR (M 7 3 x3.toNat) ∧ inR p1 ∧ (((M 7 3 x3.toNat) ≠ p1 → wpj_X7_shownLabel_82 p0 p1 x3 M J23 Q) ∧ (¬ ((M 7 3 x3.toNat) ≠ p1) → ((0 : Int) ≤ p1 ∧ p1 < 12) ∧ inR (M 6 2 p1.toNat) ∧ (((M 6 2 p1.toNat) = (-1) → wpj_X7_shownLabel_82 p0 p1 x3 M J23 Q) ∧ (¬ ((M 6 2 p1.toNat) = (-1)) → ((0 : Int) ≤ p1 ∧ p1 < 12) ∧ ((0 : Int) ≤ (M 6 2 p1.toNat) ∧ (M 6 2 p1.toNat) < 12) ∧ Q ((M 12 1 ((M 6 2 p1.toNat)).toNat)) M))))))))
def wpe_X7_shownLabel (p0 : Int) (p1 : Int) (M : Mem) (J23 : Int → Mem → Prop) (Q : Int → Mem → Prop) : Prop := inR p0 ∧ inR (M 7 5 0) ∧ ((p0 ≤ (M 7 5 0) → J23 0 M) ∧ (¬ (p0 ≤ (M 7 5 0)) → ((0 : Int) ≤ p1 ∧ p1 < 12) ∧ Q ((M 12 1 p1.toNat)) M))
def wp_X7_shownLabel (M : Mem) (p0 : Int) (p1 : Int) (Q : Int → Mem → Prop) : Prop := ∃ (I23 : Nat → Int → Mem → Prop), wpe_X7_shownLabel p0 p1 M (fun (x3 : Int) (M1 : Mem) => ∃ n1 : Nat, I23 n1 x3 M1) Q ∧ (∀ (n : Nat) (x3 : Int) (M : Mem), I23 n x3 M → wph_X7_shownLabel_23 p0 p1 x3 M (fun (x3 : Int) (M1 : Mem) => ∃ n1 : Nat, n1 < n ∧ I23 n1 x3 M1) Q)
set_option maxHeartbeats 4000000 in
set_option maxRecDepth 100000 in
theorem wkj_X7_shownLabel_82 {p : Program} {l : Launch} {e : Env} {s : State} {m : MethodId} {args : Array Value} {below : List Frame} {meth : Method} {c : Code} {D : va_G} {g : GT} {A : Nat → Prop} {a : Nat → Nat} {b : Nat → Nat → Nat} (X : vC p s m args meth c D g A RX7 wsX7_shownLabel cX7_shownLabel 4) (hr : meth.sig.returnType = (some .int)) {p0 : Int} {p1 : Int} {x3 : Int} {M : Mem} {J23 : Int → Mem → Prop} {Q : Int → Mem → Prop} (hJ23 : ∀ (x3 : Int) (M : Mem), J23 x3 M → vV p l e ({ frames := 0, cells := 0, slots := 0, locals := 0 } : Room) s m args below meth c D g A a b 4 0 0 (MQ below (cQi D g A a b Q) args s 0 0 A) M [(0, .ref (a 7)), (1, iv p0), (2, iv p1), (3, iv x3)] 23 []) (hw : wpj_X7_shownLabel_82 p0 p1 x3 M J23 Q) : vV p l e ({ frames := 0, cells := 0, slots := 0, locals := 0 } : Room) s m args below meth c D g A a b 4 0 0 (MQ below (cQi D g A a b Q) args s 0 0 A) M [(0, .ref (a 7)), (1, iv p0), (2, iv p1), (3, iv x3)] 82 [] := by
  unfold wpj_X7_shownLabel_82 at hw
  refine V_iinc (lv1 := [(0, .ref (a 7)), (1, iv p0), (2, iv p1), (3, iv (x3 + 1))]) X [1, 2, 3, 0] dX7_shownLabel_82 (q := 3) rfl (by decide) rfl ?_
  refine V_goto (tgt := 23) X dX7_shownLabel_85 (by decide) ?_
  exact hJ23 _ _ hw
set_option maxHeartbeats 4000000 in
set_option maxRecDepth 100000 in
theorem wkh_X7_shownLabel_23 {p : Program} {l : Launch} {e : Env} {s : State} {m : MethodId} {args : Array Value} {below : List Frame} {meth : Method} {c : Code} {D : va_G} {g : GT} {A : Nat → Prop} {a : Nat → Nat} {b : Nat → Nat → Nat} (X : vC p s m args meth c D g A RX7 wsX7_shownLabel cX7_shownLabel 4) (hr : meth.sig.returnType = (some .int)) {p0 : Int} {p1 : Int} {x3 : Int} {M : Mem} {J23 : Int → Mem → Prop} {Q : Int → Mem → Prop} (hJ23 : ∀ (x3 : Int) (M : Mem), J23 x3 M → vV p l e ({ frames := 0, cells := 0, slots := 0, locals := 0 } : Room) s m args below meth c D g A a b 4 0 0 (MQ below (cQi D g A a b Q) args s 0 0 A) M [(0, .ref (a 7)), (1, iv p0), (2, iv p1), (3, iv x3)] 23 []) (hw : wph_X7_shownLabel_23 p0 p1 x3 M J23 Q) : vV p l e ({ frames := 0, cells := 0, slots := 0, locals := 0 } : Room) s m args below meth c D g A a b 4 0 0 (MQ below (cQi D g A a b Q) args s 0 0 A) M [(0, .ref (a 7)), (1, iv p0), (2, iv p1), (3, iv x3)] 23 [] := by
  unfold wph_X7_shownLabel_23 at hw
  refine V_iload_n X dX7_shownLabel_23 rfl (q := 3) rfl ?_
  refine V_iload_n X dX7_shownLabel_24 rfl (q := 1) rfl ?_
  obtain ⟨h5, h6, hw⟩ := hw
  refine V_icmp_ge (tgt := 88) X h5 h6 dX7_shownLabel_25 (by decide) (fun q7 => ?_) (fun q7 => ?_)
  · have hw := hw.1 q7
    refine V_aload_n X dX7_shownLabel_88 rfl (q := 0) rfl ?_
    refine V_get (C := RX7) (T := TX7) (N := 9) (ci := 7) X hi_X7_shownLabel_7 gO_7 rfl 0 (by decide) lk_X7_shownLabel_f25 (fun _ h9 => h9) rfl dX7_shownLabel_89 ?_
    refine V_getN (C := RX1) (T := TX1) (N := 6) (ci := 1) X hi_X7_shownLabel_1 gO_1 rfl 4 (by decide) (List.mem_of_getElem? (i := 35) rfl) (fun _ h9 => h9) rfl dX7_shownLabel_92 ?_
    refine V_getN (C := RX9) (T := TX9) (N := 9) (ci := 9) X hi_X7_shownLabel_9 gO_11 rfl 1 (by decide) (List.mem_of_getElem? (i := 5) rfl) (fun _ h9 => h9) rfl dX7_shownLabel_95 ?_
    refine V_iload_n X dX7_shownLabel_98 rfl (q := 2) rfl ?_
    obtain ⟨h8, hw⟩ := hw
    refine V_iald X (gA_11_1) h8 (by decide) dX7_shownLabel_99 ?_
    exact V_iret X hr hw dX7_shownLabel_100
  · have hw := hw.2 q7
    refine V_aload_n X dX7_shownLabel_28 rfl (q := 0) rfl ?_
    refine V_get (C := RX7) (T := TX7) (N := 9) (ci := 7) X hi_X7_shownLabel_7 gO_7 rfl 2 (by decide) lk_X7_shownLabel_f9 (fun _ h9 => h9) rfl dX7_shownLabel_29 ?_
    refine V_iload_n X dX7_shownLabel_32 rfl (q := 3) rfl ?_
    obtain ⟨h9, hw⟩ := hw
    refine V_iald X (gA_7_2) h9 (by decide) dX7_shownLabel_33 ?_
    refine V_iconst X dX7_shownLabel_34 ?_
    obtain ⟨h10, hw⟩ := hw
    refine V_icmp_ne (tgt := 82) X h10 ⟨by decide, by decide⟩ dX7_shownLabel_35 (by decide) (fun q11 => ?_) (fun q11 => ?_)
    · have hw := hw.1 q11
      exact wkj_X7_shownLabel_82 X hr hJ23 hw
    · have hw := hw.2 q11
      refine V_aload_n X dX7_shownLabel_38 rfl (q := 0) rfl ?_
      refine V_get (C := RX7) (T := TX7) (N := 9) (ci := 7) X hi_X7_shownLabel_7 gO_7 rfl 3 (by decide) lk_X7_shownLabel_f15 (fun _ h9 => h9) rfl dX7_shownLabel_39 ?_
      refine V_iload_n X dX7_shownLabel_42 rfl (q := 3) rfl ?_
      obtain ⟨h12, hw⟩ := hw
      refine V_iald X (gA_7_3) h12 (by decide) dX7_shownLabel_43 ?_
      refine V_iload_n X dX7_shownLabel_44 rfl (q := 2) rfl ?_
      obtain ⟨h13, h14, hw⟩ := hw
      refine V_icmp_ne (tgt := 82) X h13 h14 dX7_shownLabel_45 (by decide) (fun q15 => ?_) (fun q15 => ?_)
      · have hw := hw.1 q15
        exact wkj_X7_shownLabel_82 X hr hJ23 hw
      · have hw := hw.2 q15
        refine V_aload_n X dX7_shownLabel_48 rfl (q := 0) rfl ?_
        refine V_get (C := RX7) (T := TX7) (N := 9) (ci := 7) X hi_X7_shownLabel_7 gO_7 rfl 1 (by decide) lk_X7_shownLabel_f29 (fun _ h9 => h9) rfl dX7_shownLabel_49 ?_
        refine V_getN (C := RX4) (T := TX4) (N := 8) (ci := 4) X hi_X7_shownLabel_4 gO_6 rfl 2 (by decide) (List.mem_of_getElem? (i := 71) rfl) (fun _ h9 => h9) rfl dX7_shownLabel_52 ?_
        refine V_iload_n X dX7_shownLabel_55 rfl (q := 2) rfl ?_
        obtain ⟨h16, hw⟩ := hw
        refine V_iald X (gA_6_2) h16 (by decide) dX7_shownLabel_56 ?_
        refine V_iconst X dX7_shownLabel_57 ?_
        obtain ⟨h17, hw⟩ := hw
        refine V_icmp_eq (tgt := 82) X h17 ⟨by decide, by decide⟩ dX7_shownLabel_58 (by decide) (fun q18 => ?_) (fun q18 => ?_)
        · have hw := hw.1 q18
          exact wkj_X7_shownLabel_82 X hr hJ23 hw
        · have hw := hw.2 q18
          refine V_aload_n X dX7_shownLabel_61 rfl (q := 0) rfl ?_
          refine V_get (C := RX7) (T := TX7) (N := 9) (ci := 7) X hi_X7_shownLabel_7 gO_7 rfl 0 (by decide) lk_X7_shownLabel_f25 (fun _ h9 => h9) rfl dX7_shownLabel_62 ?_
          refine V_getN (C := RX1) (T := TX1) (N := 6) (ci := 1) X hi_X7_shownLabel_1 gO_1 rfl 5 (by decide) (List.mem_of_getElem? (i := 39) rfl) (fun _ h9 => h9) rfl dX7_shownLabel_65 ?_
          refine V_getN (C := RX9) (T := TX9) (N := 9) (ci := 9) X hi_X7_shownLabel_9 gO_12 rfl 1 (by decide) (List.mem_of_getElem? (i := 5) rfl) (fun _ h9 => h9) rfl dX7_shownLabel_68 ?_
          refine V_aload_n X dX7_shownLabel_71 rfl (q := 0) rfl ?_
          refine V_get (C := RX7) (T := TX7) (N := 9) (ci := 7) X hi_X7_shownLabel_7 gO_7 rfl 1 (by decide) lk_X7_shownLabel_f29 (fun _ h9 => h9) rfl dX7_shownLabel_72 ?_
          refine V_getN (C := RX4) (T := TX4) (N := 8) (ci := 4) X hi_X7_shownLabel_4 gO_6 rfl 2 (by decide) (List.mem_of_getElem? (i := 71) rfl) (fun _ h9 => h9) rfl dX7_shownLabel_75 ?_
          refine V_iload_n X dX7_shownLabel_78 rfl (q := 2) rfl ?_
          obtain ⟨h19, hw⟩ := hw
          refine V_iald X (gA_6_2) h19 (by decide) dX7_shownLabel_79 ?_
          obtain ⟨h20, hw⟩ := hw
          refine V_iald X (gA_12_1) h20 (by decide) dX7_shownLabel_80 ?_
          exact V_iret X hr hw dX7_shownLabel_81
set_option maxHeartbeats 4000000 in
set_option maxRecDepth 100000 in
theorem wke_X7_shownLabel {p : Program} {l : Launch} {e : Env} {s : State} {m : MethodId} {args : Array Value} {below : List Frame} {meth : Method} {c : Code} {D : va_G} {g : GT} {A : Nat → Prop} {a : Nat → Nat} {b : Nat → Nat → Nat} (X : vC p s m args meth c D g A RX7 wsX7_shownLabel cX7_shownLabel 4) (hr : meth.sig.returnType = (some .int)) {p0 : Int} {p1 : Int} {M : Mem} {J23 : Int → Mem → Prop} {Q : Int → Mem → Prop} (hJ23 : ∀ (x3 : Int) (M : Mem), J23 x3 M → vV p l e ({ frames := 0, cells := 0, slots := 0, locals := 0 } : Room) s m args below meth c D g A a b 4 0 0 (MQ below (cQi D g A a b Q) args s 0 0 A) M [(0, .ref (a 7)), (1, iv p0), (2, iv p1), (3, iv x3)] 23 []) (hw : wpe_X7_shownLabel p0 p1 M J23 Q) : vV p l e ({ frames := 0, cells := 0, slots := 0, locals := 0 } : Room) s m args below meth c D g A a b 4 0 0 (MQ below (cQi D g A a b Q) args s 0 0 A) M [(0, .ref (a 7)), (1, iv p0), (2, iv p1)] 0 [] := by
  unfold wpe_X7_shownLabel at hw
  refine V_iload_n X dX7_shownLabel_0 rfl (q := 1) rfl ?_
  refine V_aload_n X dX7_shownLabel_1 rfl (q := 0) rfl ?_
  refine V_get (C := RX7) (T := TX7) (N := 9) (ci := 7) X hi_X7_shownLabel_7 gO_7 rfl 5 (by decide) lk_X7_shownLabel_f67 (fun _ h9 => h9) rfl dX7_shownLabel_2 ?_
  obtain ⟨h1, h2, hw⟩ := hw
  refine V_icmp_le (tgt := 21) X h1 h2 dX7_shownLabel_5 (by decide) (fun q3 => ?_) (fun q3 => ?_)
  · have hw := hw.1 q3
    refine V_iconst X dX7_shownLabel_21 ?_
    refine V_istore_n (lv1 := [(0, .ref (a 7)), (1, iv p0), (2, iv p1), (3, iv 0)]) X [1, 2, 3, 0] dX7_shownLabel_22 rfl (by decide) rfl ?_
    exact hJ23 _ _ hw
  · have hw := hw.2 q3
    refine V_aload_n X dX7_shownLabel_8 rfl (q := 0) rfl ?_
    refine V_get (C := RX7) (T := TX7) (N := 9) (ci := 7) X hi_X7_shownLabel_7 gO_7 rfl 0 (by decide) lk_X7_shownLabel_f25 (fun _ h9 => h9) rfl dX7_shownLabel_9 ?_
    refine V_getN (C := RX1) (T := TX1) (N := 6) (ci := 1) X hi_X7_shownLabel_1 gO_1 rfl 5 (by decide) (List.mem_of_getElem? (i := 39) rfl) (fun _ h9 => h9) rfl dX7_shownLabel_12 ?_
    refine V_getN (C := RX9) (T := TX9) (N := 9) (ci := 9) X hi_X7_shownLabel_9 gO_12 rfl 1 (by decide) (List.mem_of_getElem? (i := 5) rfl) (fun _ h9 => h9) rfl dX7_shownLabel_15 ?_
    refine V_iload_n X dX7_shownLabel_18 rfl (q := 2) rfl ?_
    obtain ⟨h4, hw⟩ := hw
    refine V_iald X (gA_12_1) h4 (by decide) dX7_shownLabel_19 ?_
    exact V_iret X hr hw dX7_shownLabel_20
set_option maxHeartbeats 4000000 in
set_option maxRecDepth 100000 in
theorem c_X7_shownLabel (l : Launch) {p0 : Int} {p1 : Int} {D : va_G} {g : GT} {A : Nat → Prop} {a : Nat → Nat} {b : Nat → Nat → Nat} {M : Mem} {Q : Int → Mem → Prop} (hw : wp_X7_shownLabel M p0 p1 Q) : Met l yX7_shownLabel wsX7_shownLabel ({ frames := 0, cells := 0, slots := 0, locals := 0 } : Room) (cPc D g A a b M [.ref (a 7), iv p0, iv p1]) (cQi D g A a b Q) 0 0 A := by
  refine Met.ofW (cc := cX7_shownLabel) (maxL := 4) (ret := (some .int)) (by decide) rfl ?_
  intro p e s m args below meth c s₁ B hml hv
  obtain ⟨rfl, hP, hD, hG⟩ := hv
  have X : vC p s m _ meth c D g A RX7 wsX7_shownLabel cX7_shownLabel 4 := ⟨B.exec, B.bytes, findClass_of_methodNamed B.named, atoms_spec (ws := wsX7_shownLabel) B.pre, hG, hml, B.notSynchronized⟩
  have hr := B.returns
  have hl := lv_entry ([.ref (a 7), iv p0, iv p1]) (n := 4) (Nat.le_of_ble_eq_true rfl)
  rw [lg_entry_eq]
  generalize (lg_sl ([.ref (a 7), iv p0, iv p1]) ++ List.replicate (4 - (lg_sl ([.ref (a 7), iv p0, iv p1])).length) Slot.unset).toArray = ls at hl ⊢
  have hl : lv_has ls 4 [(0, .ref (a 7)), (1, iv p0), (2, iv p1)] := hl
  obtain ⟨I23, hw, hI23⟩ := hw
  have K : ∀ n : Nat, (∀ (x3 : Int) (M : Mem), I23 n x3 M → vV p l e ({ frames := 0, cells := 0, slots := 0, locals := 0 } : Room) s m ([.ref (a 7), iv p0, iv p1] : List Value).toArray below meth c D g A a b 4 0 0 (MQ below (cQi D g A a b Q) ([.ref (a 7), iv p0, iv p1] : List Value).toArray s 0 0 A) M [(0, .ref (a 7)), (1, iv p0), (2, iv p1), (3, iv x3)] 23 []) := by
    intro n
    induction n using Nat.strongRecOn with
    | ind n ih =>
      exact fun x3 M hh => wkh_X7_shownLabel_23 X hr (fun _ _ ⟨n1, hn, hh⟩ => (ih n1 hn) _ _ hh) (hI23 n x3 M hh)
  exact wke_X7_shownLabel X hr  (fun _ _ ⟨n1, hh⟩ => (K n1) _ _ hh) hw s.heap [] ls hP hD va_S.rf hl
