theorem dX4_pair_0 : decode cX4_pair 0 = .ok (.aload_n 0, 1) := by decide +kernel
theorem dX4_pair_1 : decode cX4_pair 1 = .ok (.getfield 27, 3) := by decide +kernel
theorem dX4_pair_4 : decode cX4_pair 4 = .ok (.getfield 54, 3) := by decide +kernel
theorem dX4_pair_7 : decode cX4_pair 7 = .ok (.getfield 79, 3) := by decide +kernel
theorem dX4_pair_10 : decode cX4_pair 10 = .ok (.iload_n 1, 1) := by decide +kernel
theorem dX4_pair_11 : decode cX4_pair 11 = .ok (.iaload, 1) := by decide +kernel
theorem dX4_pair_12 : decode cX4_pair 12 = .ok (.istore_n 3, 1) := by decide +kernel
theorem dX4_pair_13 : decode cX4_pair 13 = .ok (.aload_n 0, 1) := by decide +kernel
theorem dX4_pair_14 : decode cX4_pair 14 = .ok (.getfield 27, 3) := by decide +kernel
theorem dX4_pair_17 : decode cX4_pair 17 = .ok (.getfield 41, 3) := by decide +kernel
theorem dX4_pair_20 : decode cX4_pair 20 = .ok (.getfield 79, 3) := by decide +kernel
theorem dX4_pair_23 : decode cX4_pair 23 = .ok (.iload_n 2, 1) := by decide +kernel
theorem dX4_pair_24 : decode cX4_pair 24 = .ok (.iaload, 1) := by decide +kernel
theorem dX4_pair_25 : decode cX4_pair 25 = .ok (.istore 4, 2) := by decide +kernel
theorem dX4_pair_27 : decode cX4_pair 27 = .ok (.aload_n 0, 1) := by decide +kernel
theorem dX4_pair_28 : decode cX4_pair 28 = .ok (.getfield 9, 3) := by decide +kernel
theorem dX4_pair_31 : decode cX4_pair 31 = .ok (.aload_n 0, 1) := by decide +kernel
theorem dX4_pair_32 : decode cX4_pair 32 = .ok (.getfield 27, 3) := by decide +kernel
theorem dX4_pair_35 : decode cX4_pair 35 = .ok (.getfield 54, 3) := by decide +kernel
theorem dX4_pair_38 : decode cX4_pair 38 = .ok (.getfield 85, 3) := by decide +kernel
theorem dX4_pair_41 : decode cX4_pair 41 = .ok (.iload_n 1, 1) := by decide +kernel
theorem dX4_pair_42 : decode cX4_pair 42 = .ok (.iaload, 1) := by decide +kernel
theorem dX4_pair_43 : decode cX4_pair 43 = .ok (.aload_n 0, 1) := by decide +kernel
theorem dX4_pair_44 : decode cX4_pair 44 = .ok (.getfield 27, 3) := by decide +kernel
theorem dX4_pair_47 : decode cX4_pair 47 = .ok (.getfield 41, 3) := by decide +kernel
theorem dX4_pair_50 : decode cX4_pair 50 = .ok (.getfield 85, 3) := by decide +kernel
theorem dX4_pair_53 : decode cX4_pair 53 = .ok (.iload_n 2, 1) := by decide +kernel
theorem dX4_pair_54 : decode cX4_pair 54 = .ok (.iaload, 1) := by decide +kernel
theorem dX4_pair_55 : decode cX4_pair 55 = .ok (.iastore, 1) := by decide +kernel
theorem dX4_pair_56 : decode cX4_pair 56 = .ok (.aload_n 0, 1) := by decide +kernel
theorem dX4_pair_57 : decode cX4_pair 57 = .ok (.getfield 15, 3) := by decide +kernel
theorem dX4_pair_60 : decode cX4_pair 60 = .ok (.aload_n 0, 1) := by decide +kernel
theorem dX4_pair_61 : decode cX4_pair 61 = .ok (.getfield 27, 3) := by decide +kernel
theorem dX4_pair_64 : decode cX4_pair 64 = .ok (.getfield 41, 3) := by decide +kernel
theorem dX4_pair_67 : decode cX4_pair 67 = .ok (.getfield 85, 3) := by decide +kernel
theorem dX4_pair_70 : decode cX4_pair 70 = .ok (.iload_n 2, 1) := by decide +kernel
theorem dX4_pair_71 : decode cX4_pair 71 = .ok (.iaload, 1) := by decide +kernel
theorem dX4_pair_72 : decode cX4_pair 72 = .ok (.aload_n 0, 1) := by decide +kernel
theorem dX4_pair_73 : decode cX4_pair 73 = .ok (.getfield 27, 3) := by decide +kernel
theorem dX4_pair_76 : decode cX4_pair 76 = .ok (.getfield 54, 3) := by decide +kernel
theorem dX4_pair_79 : decode cX4_pair 79 = .ok (.getfield 85, 3) := by decide +kernel
theorem dX4_pair_82 : decode cX4_pair 82 = .ok (.iload_n 1, 1) := by decide +kernel
theorem dX4_pair_83 : decode cX4_pair 83 = .ok (.iaload, 1) := by decide +kernel
theorem dX4_pair_84 : decode cX4_pair 84 = .ok (.iastore, 1) := by decide +kernel
theorem dX4_pair_85 : decode cX4_pair 85 = .ok (.aload_n 0, 1) := by decide +kernel
theorem dX4_pair_86 : decode cX4_pair 86 = .ok (.dup, 1) := by decide +kernel
theorem dX4_pair_87 : decode cX4_pair 87 = .ok (.getfield 53, 3) := by decide +kernel
theorem dX4_pair_90 : decode cX4_pair 90 = .ok (.iconst 1, 1) := by decide +kernel
theorem dX4_pair_91 : decode cX4_pair 91 = .ok (.iadd, 1) := by decide +kernel
theorem dX4_pair_92 : decode cX4_pair 92 = .ok (.putfield 53, 3) := by decide +kernel
theorem dX4_pair_95 : decode cX4_pair 95 = .ok (.aload_n 0, 1) := by decide +kernel
theorem dX4_pair_96 : decode cX4_pair 96 = .ok (.getfield 18, 3) := by decide +kernel
theorem dX4_pair_99 : decode cX4_pair 99 = .ok (.iload_n 1, 1) := by decide +kernel
theorem dX4_pair_100 : decode cX4_pair 100 = .ok (.iaload, 1) := by decide +kernel
theorem dX4_pair_101 : decode cX4_pair 101 = .ok (.istore 5, 2) := by decide +kernel
theorem dX4_pair_103 : decode cX4_pair 103 = .ok (.iload 5, 2) := by decide +kernel
theorem dX4_pair_105 : decode cX4_pair 105 = .ok (.iload_n 3, 1) := by decide +kernel
theorem dX4_pair_106 : decode cX4_pair 106 = .ok (.if_icmp .ge 18, 3) := by decide +kernel
theorem dX4_pair_109 : decode cX4_pair 109 = .ok (.aload_n 0, 1) := by decide +kernel
theorem dX4_pair_110 : decode cX4_pair 110 = .ok (.getfield 24, 3) := by decide +kernel
theorem dX4_pair_113 : decode cX4_pair 113 = .ok (.iload 5, 2) := by decide +kernel
theorem dX4_pair_115 : decode cX4_pair 115 = .ok (.iload 4, 2) := by decide +kernel
theorem dX4_pair_117 : decode cX4_pair 117 = .ok (.iastore, 1) := by decide +kernel
theorem dX4_pair_118 : decode cX4_pair 118 = .ok (.iinc 5 1, 3) := by decide +kernel
theorem dX4_pair_121 : decode cX4_pair 121 = .ok (.goto (-18), 3) := by decide +kernel
theorem dX4_pair_124 : decode cX4_pair 124 = .ok (.iload_n 3, 1) := by decide +kernel
theorem dX4_pair_125 : decode cX4_pair 125 = .ok (.istore 5, 2) := by decide +kernel
theorem dX4_pair_127 : decode cX4_pair 127 = .ok (.iload 5, 2) := by decide +kernel
theorem dX4_pair_129 : decode cX4_pair 129 = .ok (.iload_n 1, 1) := by decide +kernel
theorem dX4_pair_130 : decode cX4_pair 130 = .ok (.if_icmp .ge 34, 3) := by decide +kernel
theorem dX4_pair_133 : decode cX4_pair 133 = .ok (.aload_n 0, 1) := by decide +kernel
theorem dX4_pair_134 : decode cX4_pair 134 = .ok (.getfield 18, 3) := by decide +kernel
theorem dX4_pair_137 : decode cX4_pair 137 = .ok (.iload 5, 2) := by decide +kernel
theorem dX4_pair_139 : decode cX4_pair 139 = .ok (.iload_n 3, 1) := by decide +kernel
theorem dX4_pair_140 : decode cX4_pair 140 = .ok (.iastore, 1) := by decide +kernel
theorem dX4_pair_141 : decode cX4_pair 141 = .ok (.aload_n 0, 1) := by decide +kernel
theorem dX4_pair_142 : decode cX4_pair 142 = .ok (.getfield 21, 3) := by decide +kernel
theorem dX4_pair_145 : decode cX4_pair 145 = .ok (.iload 5, 2) := by decide +kernel
theorem dX4_pair_147 : decode cX4_pair 147 = .ok (.iload 4, 2) := by decide +kernel
theorem dX4_pair_149 : decode cX4_pair 149 = .ok (.iastore, 1) := by decide +kernel
theorem dX4_pair_150 : decode cX4_pair 150 = .ok (.aload_n 0, 1) := by decide +kernel
theorem dX4_pair_151 : decode cX4_pair 151 = .ok (.getfield 24, 3) := by decide +kernel
theorem dX4_pair_154 : decode cX4_pair 154 = .ok (.iload 5, 2) := by decide +kernel
theorem dX4_pair_156 : decode cX4_pair 156 = .ok (.iload_n 2, 1) := by decide +kernel
theorem dX4_pair_157 : decode cX4_pair 157 = .ok (.iastore, 1) := by decide +kernel
theorem dX4_pair_158 : decode cX4_pair 158 = .ok (.iinc 5 1, 3) := by decide +kernel
theorem dX4_pair_161 : decode cX4_pair 161 = .ok (.goto (-34), 3) := by decide +kernel
theorem dX4_pair_164 : decode cX4_pair 164 = .ok (.return_, 1) := by decide +kernel
theorem lk_X4_pair_f27 : Cond.fieldLink RX4 27 "TreeComparer$Mapping" "layout" "LTreeComparer$Layout;" ∈ wsX4_pair := by decide +kernel
theorem hi_X4_pair_4 : ∀ w ∈ u_ws RX4 TX4 8, w ∈ wsX4_pair := by decide +kernel
theorem hi_X4_pair_3 : ∀ w ∈ u_ws RX3 TX3 4, w ∈ wsX4_pair := by decide +kernel
theorem hi_X4_pair_6 : ∀ w ∈ u_ws RX6 TX6 6, w ∈ wsX4_pair := by decide +kernel
theorem lk_X4_pair_f9 : Cond.fieldLink RX4 9 "TreeComparer$Mapping" "toNew" "[I" ∈ wsX4_pair := by decide +kernel
theorem lk_X4_pair_f15 : Cond.fieldLink RX4 15 "TreeComparer$Mapping" "toOld" "[I" ∈ wsX4_pair := by decide +kernel
theorem lk_X4_pair_f53 : Cond.fieldLink RX4 53 "TreeComparer$Mapping" "count" "I" ∈ wsX4_pair := by decide +kernel
theorem lk_X4_pair_f18 : Cond.fieldLink RX4 18 "TreeComparer$Mapping" "oldFrom" "[I" ∈ wsX4_pair := by decide +kernel
theorem lk_X4_pair_f24 : Cond.fieldLink RX4 24 "TreeComparer$Mapping" "newTo" "[I" ∈ wsX4_pair := by decide +kernel
theorem lk_X4_pair_f21 : Cond.fieldLink RX4 21 "TreeComparer$Mapping" "newFrom" "[I" ∈ wsX4_pair := by decide +kernel
def wph_X4_pair_127 (p0 : Int) (p1 : Int) (x3 : Int) (x4 : Int) (x5 : Int) (M : Mem) (J103 : Int → Int → Int → Mem → Prop) (J127 : Int → Int → Int → Mem → Prop) (Q : Mem → Prop) : Prop := inR x5 ∧ inR p0 ∧ ((p0 ≤ x5 → Q M) ∧ (¬ (p0 ≤ x5) → ((0 : Int) ≤ x5 ∧ x5 < 12) ∧ (∀ M24 : Mem, M24 = mset M 6 4 x5.toNat x3 → ((0 : Int) ≤ x5 ∧ x5 < 12) ∧ (∀ M26 : Mem, M26 = mset M24 6 5 x5.toNat x4 → ((0 : Int) ≤ x5 ∧ x5 < 12) ∧ (∀ M28 : Mem, M28 = mset M26 6 6 x5.toNat p1 → J127 x3 x4 (x5 + 1) M28)))))
def wph_X4_pair_103 (p0 : Int) (p1 : Int) (x3 : Int) (x4 : Int) (x5 : Int) (M : Mem) (J103 : Int → Int → Int → Mem → Prop) (J127 : Int → Int → Int → Mem → Prop) (Q : Mem → Prop) : Prop := inR x5 ∧ inR x3 ∧ ((x3 ≤ x5 → J127 x3 x4 x3 M) ∧ (¬ (x3 ≤ x5) → ((0 : Int) ≤ x5 ∧ x5 < 12) ∧ (∀ M19 : Mem, M19 = mset M 6 6 x5.toNat x4 → J103 x3 x4 (x5 + 1) M19)))
def wpe_X4_pair (p0 : Int) (p1 : Int) (M : Mem) (J103 : Int → Int → Int → Mem → Prop) (J127 : Int → Int → Int → Mem → Prop) (Q : Mem → Prop) : Prop := ((0 : Int) ≤ p0 ∧ p0 < 12) ∧ (∀ y2 : Int, y2 = (M 9 1 p0.toNat) → ((0 : Int) ≤ p1 ∧ p1 < 12) ∧ (∀ y4 : Int, y4 = (M 10 1 p1.toNat) → ((0 : Int) ≤ p0 ∧ p0 < 12) ∧ ((0 : Int) ≤ p1 ∧ p1 < 12) ∧ ((0 : Int) ≤ (M 9 0 p0.toNat) ∧ (M 9 0 p0.toNat) < 12) ∧ (∀ M7 : Mem, M7 = mset M 6 2 ((M 9 0 p0.toNat)).toNat ((M 10 0 p1.toNat)) → ((0 : Int) ≤ p1 ∧ p1 < 12) ∧ ((0 : Int) ≤ p0 ∧ p0 < 12) ∧ ((0 : Int) ≤ (M7 10 0 p1.toNat) ∧ (M7 10 0 p1.toNat) < 12) ∧ (∀ M11 : Mem, M11 = mset M7 6 3 ((M7 10 0 p1.toNat)).toNat ((M7 9 0 p0.toNat)) → (∀ M13 : Mem, M13 = mset M11 6 7 0 ((M11 6 7 0) + 1) → ((0 : Int) ≤ p0 ∧ p0 < 12) ∧ (∀ y15 : Int, y15 = (M13 6 4 p0.toNat) → J103 y2 y4 y15 M13))))))
def wp_X4_pair (M : Mem) (p0 : Int) (p1 : Int) (Q : Mem → Prop) : Prop := ∃ (I103 : Nat → Int → Int → Int → Mem → Prop) (I127 : Nat → Int → Int → Int → Mem → Prop), wpe_X4_pair p0 p1 M (fun (x3 : Int) (x4 : Int) (x5 : Int) (M1 : Mem) => ∃ n1 : Nat, I103 n1 x3 x4 x5 M1) (fun (x3 : Int) (x4 : Int) (x5 : Int) (M1 : Mem) => ∃ n1 : Nat, I127 n1 x3 x4 x5 M1) Q ∧ (∀ (n : Nat) (x3 : Int) (x4 : Int) (x5 : Int) (M : Mem), I103 n x3 x4 x5 M → wph_X4_pair_103 p0 p1 x3 x4 x5 M (fun (x3 : Int) (x4 : Int) (x5 : Int) (M1 : Mem) => ∃ n1 : Nat, n1 < n ∧ I103 n1 x3 x4 x5 M1) (fun (x3 : Int) (x4 : Int) (x5 : Int) (M1 : Mem) => ∃ n1 : Nat, n1 < n ∧ I127 n1 x3 x4 x5 M1) Q) ∧ (∀ (n : Nat) (x3 : Int) (x4 : Int) (x5 : Int) (M : Mem), I127 n x3 x4 x5 M → wph_X4_pair_127 p0 p1 x3 x4 x5 M (fun (x3 : Int) (x4 : Int) (x5 : Int) (M1 : Mem) => ∃ n1 : Nat, n1 < n ∧ I103 n1 x3 x4 x5 M1) (fun (x3 : Int) (x4 : Int) (x5 : Int) (M1 : Mem) => ∃ n1 : Nat, n1 < n ∧ I127 n1 x3 x4 x5 M1) Q)
set_option maxHeartbeats 4000000 in
set_option maxRecDepth 100000 in
theorem wkh_X4_pair_127 {p : Program} {l : Launch} {e : Env} {s : State} {m : MethodId} {args : Array Value} {below : List Frame} {meth : Method} {c : Code} {D : va_G} {g : GT} {A : Nat → Prop} {a : Nat → Nat} {b : Nat → Nat → Nat} (X : vC p s m args meth c D g A RX4 wsX4_pair cX4_pair 6) (hr : meth.sig.returnType = none) {p0 : Int} {p1 : Int} {x3 : Int} {x4 : Int} {x5 : Int} {M : Mem} {J103 : Int → Int → Int → Mem → Prop} {J127 : Int → Int → Int → Mem → Prop} {Q : Mem → Prop} (hJ103 : ∀ (x3 : Int) (x4 : Int) (x5 : Int) (M : Mem), J103 x3 x4 x5 M → vV p l e ({ frames := 0, cells := 0, slots := 0, locals := 0 } : Room) s m args below meth c D g A a b 6 0 0 (MQ below (cQv D g A a b Q) args s 0 0 A) M [(0, .ref (a 6)), (1, iv p0), (2, iv p1), (3, iv x3), (4, iv x4), (5, iv x5)] 103 []) (hJ127 : ∀ (x3 : Int) (x4 : Int) (x5 : Int) (M : Mem), J127 x3 x4 x5 M → vV p l e ({ frames := 0, cells := 0, slots := 0, locals := 0 } : Room) s m args below meth c D g A a b 6 0 0 (MQ below (cQv D g A a b Q) args s 0 0 A) M [(0, .ref (a 6)), (1, iv p0), (2, iv p1), (3, iv x3), (4, iv x4), (5, iv x5)] 127 []) (hw : wph_X4_pair_127 p0 p1 x3 x4 x5 M J103 J127 Q) : vV p l e ({ frames := 0, cells := 0, slots := 0, locals := 0 } : Room) s m args below meth c D g A a b 6 0 0 (MQ below (cQv D g A a b Q) args s 0 0 A) M [(0, .ref (a 6)), (1, iv p0), (2, iv p1), (3, iv x3), (4, iv x4), (5, iv x5)] 127 [] := by
  unfold wph_X4_pair_127 at hw
  refine V_iload X dX4_pair_127 (q := 5) rfl ?_
  refine V_iload_n X dX4_pair_129 rfl (q := 1) rfl ?_
  obtain ⟨h21, h22, hw⟩ := hw
  refine V_icmp_ge (tgt := 164) X h21 h22 dX4_pair_130 (by decide) (fun q23 => ?_) (fun q23 => ?_)
  · have hw := hw.1 q23
    exact V_vret X hr hw dX4_pair_164
  · have hw := hw.2 q23
    refine V_aload_n X dX4_pair_133 rfl (q := 0) rfl ?_
    refine V_get (C := RX4) (T := TX4) (N := 8) (ci := 4) X hi_X4_pair_4 gO_6 rfl 4 (by decide) lk_X4_pair_f18 (fun _ h9 => h9) rfl dX4_pair_134 ?_
    refine V_iload X dX4_pair_137 (q := 5) rfl ?_
    refine V_iload_n X dX4_pair_139 rfl (q := 3) rfl ?_
    obtain ⟨h25, hw⟩ := hw
    refine V_iast X (gA_6_4) (sA_6_4) h25 (by decide) dX4_pair_140 (fun M24 eM24 => ?_)
    have hw := hw M24 eM24
    refine V_aload_n X dX4_pair_141 rfl (q := 0) rfl ?_
    refine V_get (C := RX4) (T := TX4) (N := 8) (ci := 4) X hi_X4_pair_4 gO_6 rfl 5 (by decide) lk_X4_pair_f21 (fun _ h9 => h9) rfl dX4_pair_142 ?_
    refine V_iload X dX4_pair_145 (q := 5) rfl ?_
    refine V_iload X dX4_pair_147 (q := 4) rfl ?_
    obtain ⟨h27, hw⟩ := hw
    refine V_iast X (gA_6_5) (sA_6_5) h27 (by decide) dX4_pair_149 (fun M26 eM26 => ?_)
    have hw := hw M26 eM26
    refine V_aload_n X dX4_pair_150 rfl (q := 0) rfl ?_
    refine V_get (C := RX4) (T := TX4) (N := 8) (ci := 4) X hi_X4_pair_4 gO_6 rfl 6 (by decide) lk_X4_pair_f24 (fun _ h9 => h9) rfl dX4_pair_151 ?_
    refine V_iload X dX4_pair_154 (q := 5) rfl ?_
    refine V_iload_n X dX4_pair_156 rfl (q := 2) rfl ?_
    obtain ⟨h29, hw⟩ := hw
    refine V_iast X (gA_6_6) (sA_6_6) h29 (by decide) dX4_pair_157 (fun M28 eM28 => ?_)
    have hw := hw M28 eM28
    refine V_iinc (lv1 := [(0, .ref (a 6)), (1, iv p0), (2, iv p1), (3, iv x3), (4, iv x4), (5, iv (x5 + 1))]) X [1, 2, 3, 4, 5, 0] dX4_pair_158 (q := 5) rfl (by decide) rfl ?_
    refine V_goto (tgt := 127) X dX4_pair_161 (by decide) ?_
    exact hJ127 _ _ _ _ hw
set_option maxHeartbeats 4000000 in
set_option maxRecDepth 100000 in
theorem wkh_X4_pair_103 {p : Program} {l : Launch} {e : Env} {s : State} {m : MethodId} {args : Array Value} {below : List Frame} {meth : Method} {c : Code} {D : va_G} {g : GT} {A : Nat → Prop} {a : Nat → Nat} {b : Nat → Nat → Nat} (X : vC p s m args meth c D g A RX4 wsX4_pair cX4_pair 6) (hr : meth.sig.returnType = none) {p0 : Int} {p1 : Int} {x3 : Int} {x4 : Int} {x5 : Int} {M : Mem} {J103 : Int → Int → Int → Mem → Prop} {J127 : Int → Int → Int → Mem → Prop} {Q : Mem → Prop} (hJ103 : ∀ (x3 : Int) (x4 : Int) (x5 : Int) (M : Mem), J103 x3 x4 x5 M → vV p l e ({ frames := 0, cells := 0, slots := 0, locals := 0 } : Room) s m args below meth c D g A a b 6 0 0 (MQ below (cQv D g A a b Q) args s 0 0 A) M [(0, .ref (a 6)), (1, iv p0), (2, iv p1), (3, iv x3), (4, iv x4), (5, iv x5)] 103 []) (hJ127 : ∀ (x3 : Int) (x4 : Int) (x5 : Int) (M : Mem), J127 x3 x4 x5 M → vV p l e ({ frames := 0, cells := 0, slots := 0, locals := 0 } : Room) s m args below meth c D g A a b 6 0 0 (MQ below (cQv D g A a b Q) args s 0 0 A) M [(0, .ref (a 6)), (1, iv p0), (2, iv p1), (3, iv x3), (4, iv x4), (5, iv x5)] 127 []) (hw : wph_X4_pair_103 p0 p1 x3 x4 x5 M J103 J127 Q) : vV p l e ({ frames := 0, cells := 0, slots := 0, locals := 0 } : Room) s m args below meth c D g A a b 6 0 0 (MQ below (cQv D g A a b Q) args s 0 0 A) M [(0, .ref (a 6)), (1, iv p0), (2, iv p1), (3, iv x3), (4, iv x4), (5, iv x5)] 103 [] := by
  unfold wph_X4_pair_103 at hw
  refine V_iload X dX4_pair_103 (q := 5) rfl ?_
  refine V_iload_n X dX4_pair_105 rfl (q := 3) rfl ?_
  obtain ⟨h16, h17, hw⟩ := hw
  refine V_icmp_ge (tgt := 124) X h16 h17 dX4_pair_106 (by decide) (fun q18 => ?_) (fun q18 => ?_)
  · have hw := hw.1 q18
    refine V_iload_n X dX4_pair_124 rfl (q := 3) rfl ?_
    refine V_istore (lv1 := [(0, .ref (a 6)), (1, iv p0), (2, iv p1), (3, iv x3), (4, iv x4), (5, iv x3)]) X [1, 2, 3, 4, 5, 0] dX4_pair_125 (by decide) rfl ?_
    exact hJ127 _ _ _ _ hw
  · have hw := hw.2 q18
    refine V_aload_n X dX4_pair_109 rfl (q := 0) rfl ?_
    refine V_get (C := RX4) (T := TX4) (N := 8) (ci := 4) X hi_X4_pair_4 gO_6 rfl 6 (by decide) lk_X4_pair_f24 (fun _ h9 => h9) rfl dX4_pair_110 ?_
    refine V_iload X dX4_pair_113 (q := 5) rfl ?_
    refine V_iload X dX4_pair_115 (q := 4) rfl ?_
    obtain ⟨h20, hw⟩ := hw
    refine V_iast X (gA_6_6) (sA_6_6) h20 (by decide) dX4_pair_117 (fun M19 eM19 => ?_)
    have hw := hw M19 eM19
    refine V_iinc (lv1 := [(0, .ref (a 6)), (1, iv p0), (2, iv p1), (3, iv x3), (4, iv x4), (5, iv (x5 + 1))]) X [1, 2, 3, 4, 5, 0] dX4_pair_118 (q := 5) rfl (by decide) rfl ?_
    refine V_goto (tgt := 103) X dX4_pair_121 (by decide) ?_
    exact hJ103 _ _ _ _ hw
set_option maxHeartbeats 4000000 in
set_option maxRecDepth 100000 in
theorem wke_X4_pair {p : Program} {l : Launch} {e : Env} {s : State} {m : MethodId} {args : Array Value} {below : List Frame} {meth : Method} {c : Code} {D : va_G} {g : GT} {A : Nat → Prop} {a : Nat → Nat} {b : Nat → Nat → Nat} (X : vC p s m args meth c D g A RX4 wsX4_pair cX4_pair 6) (hr : meth.sig.returnType = none) {p0 : Int} {p1 : Int} {M : Mem} {J103 : Int → Int → Int → Mem → Prop} {J127 : Int → Int → Int → Mem → Prop} {Q : Mem → Prop} (hJ103 : ∀ (x3 : Int) (x4 : Int) (x5 : Int) (M : Mem), J103 x3 x4 x5 M → vV p l e ({ frames := 0, cells := 0, slots := 0, locals := 0 } : Room) s m args below meth c D g A a b 6 0 0 (MQ below (cQv D g A a b Q) args s 0 0 A) M [(0, .ref (a 6)), (1, iv p0), (2, iv p1), (3, iv x3), (4, iv x4), (5, iv x5)] 103 []) (hJ127 : ∀ (x3 : Int) (x4 : Int) (x5 : Int) (M : Mem), J127 x3 x4 x5 M → vV p l e ({ frames := 0, cells := 0, slots := 0, locals := 0 } : Room) s m args below meth c D g A a b 6 0 0 (MQ below (cQv D g A a b Q) args s 0 0 A) M [(0, .ref (a 6)), (1, iv p0), (2, iv p1), (3, iv x3), (4, iv x4), (5, iv x5)] 127 []) (hw : wpe_X4_pair p0 p1 M J103 J127 Q) : vV p l e ({ frames := 0, cells := 0, slots := 0, locals := 0 } : Room) s m args below meth c D g A a b 6 0 0 (MQ below (cQv D g A a b Q) args s 0 0 A) M [(0, .ref (a 6)), (1, iv p0), (2, iv p1)] 0 [] := by
  unfold wpe_X4_pair at hw
  refine V_aload_n X dX4_pair_0 rfl (q := 0) rfl ?_
  refine V_get (C := RX4) (T := TX4) (N := 8) (ci := 4) X hi_X4_pair_4 gO_6 rfl 0 (by decide) lk_X4_pair_f27 (fun _ h9 => h9) rfl dX4_pair_1 ?_
  refine V_getN (C := RX3) (T := TX3) (N := 4) (ci := 3) X hi_X4_pair_3 gO_2 rfl 1 (by decide) (List.mem_of_getElem? (i := 59) rfl) (fun _ h9 => h9) rfl dX4_pair_4 ?_
  refine V_getN (C := RX6) (T := TX6) (N := 6) (ci := 6) X hi_X4_pair_6 gO_9 rfl 1 (by decide) (List.mem_of_getElem? (i := 48) rfl) (fun _ h9 => h9) rfl dX4_pair_7 ?_
  refine V_iload_n X dX4_pair_10 rfl (q := 1) rfl ?_
  obtain ⟨h1, hw⟩ := hw
  refine V_iald X (gA_9_1) h1 (by decide) dX4_pair_11 ?_
  refine V_top (fun y2 ey2 => ?_)
  have hw := hw y2 ey2
  refine V_istore_n (lv1 := [(0, .ref (a 6)), (1, iv p0), (2, iv p1), (3, iv y2)]) X [1, 2, 3, 0] dX4_pair_12 rfl (by decide) rfl ?_
  refine V_aload_n X dX4_pair_13 rfl (q := 0) rfl ?_
  refine V_get (C := RX4) (T := TX4) (N := 8) (ci := 4) X hi_X4_pair_4 gO_6 rfl 0 (by decide) lk_X4_pair_f27 (fun _ h9 => h9) rfl dX4_pair_14 ?_
  refine V_getN (C := RX3) (T := TX3) (N := 4) (ci := 3) X hi_X4_pair_3 gO_2 rfl 2 (by decide) (List.mem_of_getElem? (i := 64) rfl) (fun _ h9 => h9) rfl dX4_pair_17 ?_
  refine V_getN (C := RX6) (T := TX6) (N := 6) (ci := 6) X hi_X4_pair_6 gO_10 rfl 1 (by decide) (List.mem_of_getElem? (i := 48) rfl) (fun _ h9 => h9) rfl dX4_pair_20 ?_
  refine V_iload_n X dX4_pair_23 rfl (q := 2) rfl ?_
  obtain ⟨h3, hw⟩ := hw
  refine V_iald X (gA_10_1) h3 (by decide) dX4_pair_24 ?_
  refine V_top (fun y4 ey4 => ?_)
  have hw := hw y4 ey4
  refine V_istore (lv1 := [(0, .ref (a 6)), (1, iv p0), (2, iv p1), (3, iv y2), (4, iv y4)]) X [1, 2, 3, 4, 0] dX4_pair_25 (by decide) rfl ?_
  refine V_aload_n X dX4_pair_27 rfl (q := 0) rfl ?_
  refine V_get (C := RX4) (T := TX4) (N := 8) (ci := 4) X hi_X4_pair_4 gO_6 rfl 2 (by decide) lk_X4_pair_f9 (fun _ h9 => h9) rfl dX4_pair_28 ?_
  refine V_aload_n X dX4_pair_31 rfl (q := 0) rfl ?_
  refine V_get (C := RX4) (T := TX4) (N := 8) (ci := 4) X hi_X4_pair_4 gO_6 rfl 0 (by decide) lk_X4_pair_f27 (fun _ h9 => h9) rfl dX4_pair_32 ?_
  refine V_getN (C := RX3) (T := TX3) (N := 4) (ci := 3) X hi_X4_pair_3 gO_2 rfl 1 (by decide) (List.mem_of_getElem? (i := 59) rfl) (fun _ h9 => h9) rfl dX4_pair_35 ?_
  refine V_getN (C := RX6) (T := TX6) (N := 6) (ci := 6) X hi_X4_pair_6 gO_9 rfl 0 (by decide) (List.mem_of_getElem? (i := 44) rfl) (fun _ h9 => h9) rfl dX4_pair_38 ?_
  refine V_iload_n X dX4_pair_41 rfl (q := 1) rfl ?_
  obtain ⟨h5, hw⟩ := hw
  refine V_iald X (gA_9_0) h5 (by decide) dX4_pair_42 ?_
  refine V_aload_n X dX4_pair_43 rfl (q := 0) rfl ?_
  refine V_get (C := RX4) (T := TX4) (N := 8) (ci := 4) X hi_X4_pair_4 gO_6 rfl 0 (by decide) lk_X4_pair_f27 (fun _ h9 => h9) rfl dX4_pair_44 ?_
  refine V_getN (C := RX3) (T := TX3) (N := 4) (ci := 3) X hi_X4_pair_3 gO_2 rfl 2 (by decide) (List.mem_of_getElem? (i := 64) rfl) (fun _ h9 => h9) rfl dX4_pair_47 ?_
  refine V_getN (C := RX6) (T := TX6) (N := 6) (ci := 6) X hi_X4_pair_6 gO_10 rfl 0 (by decide) (List.mem_of_getElem? (i := 44) rfl) (fun _ h9 => h9) rfl dX4_pair_50 ?_
  refine V_iload_n X dX4_pair_53 rfl (q := 2) rfl ?_
  obtain ⟨h6, hw⟩ := hw
  refine V_iald X (gA_10_0) h6 (by decide) dX4_pair_54 ?_
  obtain ⟨h8, hw⟩ := hw
  refine V_iast X (gA_6_2) (sA_6_2) h8 (by decide) dX4_pair_55 (fun M7 eM7 => ?_)
  have hw := hw M7 eM7
  refine V_aload_n X dX4_pair_56 rfl (q := 0) rfl ?_
  refine V_get (C := RX4) (T := TX4) (N := 8) (ci := 4) X hi_X4_pair_4 gO_6 rfl 3 (by decide) lk_X4_pair_f15 (fun _ h9 => h9) rfl dX4_pair_57 ?_
  refine V_aload_n X dX4_pair_60 rfl (q := 0) rfl ?_
  refine V_get (C := RX4) (T := TX4) (N := 8) (ci := 4) X hi_X4_pair_4 gO_6 rfl 0 (by decide) lk_X4_pair_f27 (fun _ h9 => h9) rfl dX4_pair_61 ?_
  refine V_getN (C := RX3) (T := TX3) (N := 4) (ci := 3) X hi_X4_pair_3 gO_2 rfl 2 (by decide) (List.mem_of_getElem? (i := 64) rfl) (fun _ h9 => h9) rfl dX4_pair_64 ?_
  refine V_getN (C := RX6) (T := TX6) (N := 6) (ci := 6) X hi_X4_pair_6 gO_10 rfl 0 (by decide) (List.mem_of_getElem? (i := 44) rfl) (fun _ h9 => h9) rfl dX4_pair_67 ?_
  refine V_iload_n X dX4_pair_70 rfl (q := 2) rfl ?_
  obtain ⟨h9, hw⟩ := hw
  refine V_iald X (gA_10_0) h9 (by decide) dX4_pair_71 ?_
  refine V_aload_n X dX4_pair_72 rfl (q := 0) rfl ?_
  refine V_get (C := RX4) (T := TX4) (N := 8) (ci := 4) X hi_X4_pair_4 gO_6 rfl 0 (by decide) lk_X4_pair_f27 (fun _ h9 => h9) rfl dX4_pair_73 ?_
  refine V_getN (C := RX3) (T := TX3) (N := 4) (ci := 3) X hi_X4_pair_3 gO_2 rfl 1 (by decide) (List.mem_of_getElem? (i := 59) rfl) (fun _ h9 => h9) rfl dX4_pair_76 ?_
  refine V_getN (C := RX6) (T := TX6) (N := 6) (ci := 6) X hi_X4_pair_6 gO_9 rfl 0 (by decide) (List.mem_of_getElem? (i := 44) rfl) (fun _ h9 => h9) rfl dX4_pair_79 ?_
  refine V_iload_n X dX4_pair_82 rfl (q := 1) rfl ?_
  obtain ⟨h10, hw⟩ := hw
  refine V_iald X (gA_9_0) h10 (by decide) dX4_pair_83 ?_
  obtain ⟨h12, hw⟩ := hw
  refine V_iast X (gA_6_3) (sA_6_3) h12 (by decide) dX4_pair_84 (fun M11 eM11 => ?_)
  have hw := hw M11 eM11
  refine V_aload_n X dX4_pair_85 rfl (q := 0) rfl ?_
  refine V_dup X dX4_pair_86 rfl ?_
  refine V_get (C := RX4) (T := TX4) (N := 8) (ci := 4) X hi_X4_pair_4 gO_6 rfl 7 (by decide) lk_X4_pair_f53 (fun _ h9 => h9) rfl dX4_pair_87 ?_
  refine V_iconst X dX4_pair_90 ?_
  refine V_iadd X dX4_pair_91 ?_
  refine V_put (C := RX4) (T := TX4) (N := 8) (ci := 4) X hi_X4_pair_4 gO_6 rfl 7 (by decide) tyX4 tyX4_ok nmX4 rfl (tyX4_ok 7 (by decide)) (Or.inl rfl) (show 7 < 8 from by decide) sI_6_7 lk_X4_pair_f53 (fun _ h9 => h9) dX4_pair_92 (fun M13 eM13 => ?_)
  have hw := hw M13 eM13
  refine V_aload_n X dX4_pair_95 rfl (q := 0) rfl ?_
  refine V_get (C := RX4) (T := TX4) (N := 8) (ci := 4) X hi_X4_pair_4 gO_6 rfl 4 (by decide) lk_X4_pair_f18 (fun _ h9 => h9) rfl dX4_pair_96 ?_
  refine V_iload_n X dX4_pair_99 rfl (q := 1) rfl ?_
  obtain ⟨h14, hw⟩ := hw
  refine V_iald X (gA_6_4) h14 (by decide) dX4_pair_100 ?_
  refine V_top (fun y15 ey15 => ?_)
  have hw := hw y15 ey15
  refine V_istore (lv1 := [(0, .ref (a 6)), (1, iv p0), (2, iv p1), (3, iv y2), (4, iv y4), (5, iv y15)]) X [1, 2, 3, 4, 5, 0] dX4_pair_101 (by decide) rfl ?_
  exact hJ103 _ _ _ _ hw
set_option maxHeartbeats 4000000 in
set_option maxRecDepth 100000 in
theorem c_X4_pair (l : Launch) {p0 : Int} {p1 : Int} {D : va_G} {g : GT} {A : Nat → Prop} {a : Nat → Nat} {b : Nat → Nat → Nat} {M : Mem} {Q : Mem → Prop} (hw : wp_X4_pair M p0 p1 Q) : Met l yX4_pair wsX4_pair ({ frames := 0, cells := 0, slots := 0, locals := 0 } : Room) (cPc D g A a b M [.ref (a 6), iv p0, iv p1]) (cQv D g A a b Q) 0 0 A := by
  refine Met.ofW (cc := cX4_pair) (maxL := 6) (ret := none) (by decide) rfl ?_
  intro p e s m args below meth c s₁ B hml hv
  obtain ⟨rfl, hP, hD, hG⟩ := hv
  have X : vC p s m _ meth c D g A RX4 wsX4_pair cX4_pair 6 := ⟨B.exec, B.bytes, findClass_of_methodNamed B.named, atoms_spec (ws := wsX4_pair) B.pre, hG, hml, B.notSynchronized⟩
  have hr := B.returns
  have hl := lv_entry ([.ref (a 6), iv p0, iv p1]) (n := 6) (Nat.le_of_ble_eq_true rfl)
  rw [lg_entry_eq]
  generalize (lg_sl ([.ref (a 6), iv p0, iv p1]) ++ List.replicate (6 - (lg_sl ([.ref (a 6), iv p0, iv p1])).length) Slot.unset).toArray = ls at hl ⊢
  have hl : lv_has ls 6 [(0, .ref (a 6)), (1, iv p0), (2, iv p1)] := hl
  obtain ⟨I103, I127, hw, hI103, hI127⟩ := hw
  have K : ∀ n : Nat, (∀ (x3 : Int) (x4 : Int) (x5 : Int) (M : Mem), I103 n x3 x4 x5 M → vV p l e ({ frames := 0, cells := 0, slots := 0, locals := 0 } : Room) s m ([.ref (a 6), iv p0, iv p1] : List Value).toArray below meth c D g A a b 6 0 0 (MQ below (cQv D g A a b Q) ([.ref (a 6), iv p0, iv p1] : List Value).toArray s 0 0 A) M [(0, .ref (a 6)), (1, iv p0), (2, iv p1), (3, iv x3), (4, iv x4), (5, iv x5)] 103 []) ∧ (∀ (x3 : Int) (x4 : Int) (x5 : Int) (M : Mem), I127 n x3 x4 x5 M → vV p l e ({ frames := 0, cells := 0, slots := 0, locals := 0 } : Room) s m ([.ref (a 6), iv p0, iv p1] : List Value).toArray below meth c D g A a b 6 0 0 (MQ below (cQv D g A a b Q) ([.ref (a 6), iv p0, iv p1] : List Value).toArray s 0 0 A) M [(0, .ref (a 6)), (1, iv p0), (2, iv p1), (3, iv x3), (4, iv x4), (5, iv x5)] 127 []) := by
    intro n
    induction n using Nat.strongRecOn with
    | ind n ih =>
      exact ⟨fun x3 x4 x5 M hh => wkh_X4_pair_103 X hr (fun _ _ _ _ ⟨n1, hn, hh⟩ => (ih n1 hn).1 _ _ _ _ hh) (fun _ _ _ _ ⟨n1, hn, hh⟩ => (ih n1 hn).2 _ _ _ _ hh) (hI103 n x3 x4 x5 M hh), fun x3 x4 x5 M hh => wkh_X4_pair_127 X hr (fun _ _ _ _ ⟨n1, hn, hh⟩ => (ih n1 hn).1 _ _ _ _ hh) (fun _ _ _ _ ⟨n1, hn, hh⟩ => (ih n1 hn).2 _ _ _ _ hh) (hI127 n x3 x4 x5 M hh)⟩
  exact wke_X4_pair X hr  (fun _ _ _ _ ⟨n1, hh⟩ => (K n1).1 _ _ _ _ hh) (fun _ _ _ _ ⟨n1, hh⟩ => (K n1).2 _ _ _ _ hh) hw s.heap [] ls hP hD va_S.rf hl

set_option maxRecDepth 20000 in
theorem ggX4_choose_J7_fill_53178 : GoodIn wsX4_choose wsJ7_fill_53178 := goodIn_r _ [11] (by decide +kernel) (by decide +kernel)
set_option maxRecDepth 20000 in
theorem gX4_choose_J7_fill_53178 : GoodIn wsX4_choose (va_wsS RX4 35 yJ7_fill_53178 wsJ7_fill_53178) := goodIn_app (goodIn_of _ (by decide +kernel)) ggX4_choose_J7_fill_53178
set_option maxRecDepth 20000 in
theorem ggX4_choose_X4_firstPartner : GoodIn wsX4_choose wsX4_firstPartner := goodIn_r _ [16, 17, 3, 4, 5, 18, 19, 20, 21, 22, 23, 24, 25, 26, 27, 28, 29, 30, 31, 32, 33, 34, 35, 36, 15, 37, 6, 38, 43, 44, 45, 46, 47, 48, 49, 50, 61, 62, 51, 52, 53, 54, 55, 56, 57, 58, 59, 60] (by decide +kernel) (by decide +kernel)
set_option maxRecDepth 20000 in
theorem gX4_choose_X4_firstPartner : GoodIn wsX4_choose (wsV RX4 57 RX4 yX4_firstPartner wsX4_firstPartner) := goodIn_app (goodIn_of _ (by decide +kernel)) ggX4_choose_X4_firstPartner
set_option maxRecDepth 20000 in
theorem ggX4_choose_X4_pair : GoodIn wsX4_choose wsX4_pair := goodIn_r _ [42, 6, 1, 2, 7, 3, 5, 4, 43, 44, 45, 46, 47, 48, 49, 50, 51, 52, 53, 54, 55, 56, 57, 58, 59, 60] (by decide +kernel) (by decide +kernel)
set_option maxRecDepth 20000 in
theorem gX4_choose_X4_pair : GoodIn wsX4_choose (wsV RX4 61 RX4 yX4_pair wsX4_pair) := goodIn_app (goodIn_of _ (by decide +kernel)) ggX4_choose_X4_pair
theorem dX4_choose_0 : decode cX4_choose 0 = .ok (.aload_n 0, 1) := by decide +kernel
theorem dX4_choose_1 : decode cX4_choose 1 = .ok (.getfield 9, 3) := by decide +kernel
theorem dX4_choose_4 : decode cX4_choose 4 = .ok (.iconst (-1), 1) := by decide +kernel
theorem dX4_choose_5 : decode cX4_choose 5 = .ok (.invokestatic 35, 3) := by decide +kernel
theorem dX4_choose_8 : decode cX4_choose 8 = .ok (.aload_n 0, 1) := by decide +kernel
theorem dX4_choose_9 : decode cX4_choose 9 = .ok (.getfield 15, 3) := by decide +kernel
theorem dX4_choose_12 : decode cX4_choose 12 = .ok (.iconst (-1), 1) := by decide +kernel
theorem dX4_choose_13 : decode cX4_choose 13 = .ok (.invokestatic 35, 3) := by decide +kernel
theorem dX4_choose_16 : decode cX4_choose 16 = .ok (.aload_n 0, 1) := by decide +kernel
theorem dX4_choose_17 : decode cX4_choose 17 = .ok (.getfield 18, 3) := by decide +kernel
theorem dX4_choose_20 : decode cX4_choose 20 = .ok (.iconst 0, 1) := by decide +kernel
theorem dX4_choose_21 : decode cX4_choose 21 = .ok (.invokestatic 35, 3) := by decide +kernel
theorem dX4_choose_24 : decode cX4_choose 24 = .ok (.aload_n 0, 1) := by decide +kernel
theorem dX4_choose_25 : decode cX4_choose 25 = .ok (.getfield 21, 3) := by decide +kernel
theorem dX4_choose_28 : decode cX4_choose 28 = .ok (.iconst 0, 1) := by decide +kernel
theorem dX4_choose_29 : decode cX4_choose 29 = .ok (.invokestatic 35, 3) := by decide +kernel
theorem dX4_choose_32 : decode cX4_choose 32 = .ok (.aload_n 0, 1) := by decide +kernel
theorem dX4_choose_33 : decode cX4_choose 33 = .ok (.getfield 24, 3) := by decide +kernel
theorem dX4_choose_36 : decode cX4_choose 36 = .ok (.aload_n 0, 1) := by decide +kernel
theorem dX4_choose_37 : decode cX4_choose 37 = .ok (.getfield 27, 3) := by decide +kernel
theorem dX4_choose_40 : decode cX4_choose 40 = .ok (.getfield 41, 3) := by decide +kernel
theorem dX4_choose_43 : decode cX4_choose 43 = .ok (.getfield 47, 3) := by decide +kernel
theorem dX4_choose_46 : decode cX4_choose 46 = .ok (.invokestatic 35, 3) := by decide +kernel
theorem dX4_choose_49 : decode cX4_choose 49 = .ok (.aload_n 0, 1) := by decide +kernel
theorem dX4_choose_50 : decode cX4_choose 50 = .ok (.iconst 0, 1) := by decide +kernel
theorem dX4_choose_51 : decode cX4_choose 51 = .ok (.putfield 53, 3) := by decide +kernel
theorem dX4_choose_54 : decode cX4_choose 54 = .ok (.aload_n 0, 1) := by decide +kernel
theorem dX4_choose_55 : decode cX4_choose 55 = .ok (.getfield 27, 3) := by decide +kernel
theorem dX4_choose_58 : decode cX4_choose 58 = .ok (.getfield 54, 3) := by decide +kernel
theorem dX4_choose_61 : decode cX4_choose 61 = .ok (.getfield 47, 3) := by decide +kernel
theorem dX4_choose_64 : decode cX4_choose 64 = .ok (.iconst 1, 1) := by decide +kernel
theorem dX4_choose_65 : decode cX4_choose 65 = .ok (.isub, 1) := by decide +kernel
theorem dX4_choose_66 : decode cX4_choose 66 = .ok (.istore_n 1, 1) := by decide +kernel
theorem dX4_choose_67 : decode cX4_choose 67 = .ok (.iload_n 1, 1) := by decide +kernel
theorem dX4_choose_68 : decode cX4_choose 68 = .ok (.ifCond .lt 26, 3) := by decide +kernel
theorem dX4_choose_71 : decode cX4_choose 71 = .ok (.aload_n 0, 1) := by decide +kernel
theorem dX4_choose_72 : decode cX4_choose 72 = .ok (.iload_n 1, 1) := by decide +kernel
theorem dX4_choose_73 : decode cX4_choose 73 = .ok (.invokevirtual 57, 3) := by decide +kernel
theorem dX4_choose_76 : decode cX4_choose 76 = .ok (.istore_n 2, 1) := by decide +kernel
theorem dX4_choose_77 : decode cX4_choose 77 = .ok (.iload_n 2, 1) := by decide +kernel
theorem dX4_choose_78 : decode cX4_choose 78 = .ok (.iconst (-1), 1) := by decide +kernel
theorem dX4_choose_79 : decode cX4_choose 79 = .ok (.if_icmp .eq 9, 3) := by decide +kernel
theorem dX4_choose_82 : decode cX4_choose 82 = .ok (.aload_n 0, 1) := by decide +kernel
theorem dX4_choose_83 : decode cX4_choose 83 = .ok (.iload_n 1, 1) := by decide +kernel
theorem dX4_choose_84 : decode cX4_choose 84 = .ok (.iload_n 2, 1) := by decide +kernel
theorem dX4_choose_85 : decode cX4_choose 85 = .ok (.invokevirtual 61, 3) := by decide +kernel
theorem dX4_choose_88 : decode cX4_choose 88 = .ok (.iinc 1 (-1), 3) := by decide +kernel
theorem dX4_choose_91 : decode cX4_choose 91 = .ok (.goto (-24), 3) := by decide +kernel
theorem dX4_choose_94 : decode cX4_choose 94 = .ok (.return_, 1) := by decide +kernel
theorem lk_X4_choose_f9 : Cond.fieldLink RX4 9 "TreeComparer$Mapping" "toNew" "[I" ∈ wsX4_choose := by decide +kernel
theorem hi_X4_choose_4 : ∀ w ∈ u_ws RX4 TX4 8, w ∈ wsX4_choose := by decide +kernel
theorem lk_X4_choose_f15 : Cond.fieldLink RX4 15 "TreeComparer$Mapping" "toOld" "[I" ∈ wsX4_choose := by decide +kernel
theorem lk_X4_choose_f18 : Cond.fieldLink RX4 18 "TreeComparer$Mapping" "oldFrom" "[I" ∈ wsX4_choose := by decide +kernel
theorem lk_X4_choose_f21 : Cond.fieldLink RX4 21 "TreeComparer$Mapping" "newFrom" "[I" ∈ wsX4_choose := by decide +kernel
theorem lk_X4_choose_f24 : Cond.fieldLink RX4 24 "TreeComparer$Mapping" "newTo" "[I" ∈ wsX4_choose := by decide +kernel
theorem lk_X4_choose_f27 : Cond.fieldLink RX4 27 "TreeComparer$Mapping" "layout" "LTreeComparer$Layout;" ∈ wsX4_choose := by decide +kernel
theorem hi_X4_choose_3 : ∀ w ∈ u_ws RX3 TX3 4, w ∈ wsX4_choose := by decide +kernel
theorem hi_X4_choose_6 : ∀ w ∈ u_ws RX6 TX6 6, w ∈ wsX4_choose := by decide +kernel
theorem lk_X4_choose_f53 : Cond.fieldLink RX4 53 "TreeComparer$Mapping" "count" "I" ∈ wsX4_choose := by decide +kernel
def wpj_X4_choose_88 (x1 : Int) (M : Mem) (J67 : Int → Mem → Prop) (Q : Mem → Prop) : Prop := J67 (x1 + (-1)) M
def wph_X4_choose_67 (x1 : Int) (M : Mem) (J67 : Int → Mem → Prop) (Q : Mem → Prop) : Prop := inR x1 ∧ ((x1 < 0 → Q M) ∧ (¬ (x1 < 0) → wp_X4_firstPartner M x1 (fun y15 M16 => inR y15 ∧ ((y15 = (-1) → wpj_X4_choose_88 x1 M16 J67 Q) ∧ (¬ (y15 = (-1)) → wp_X4_pair M16 x1 y15 (fun M20 => wpj_X4_choose_88 x1 M20 J67 Q))))))
def wpe_X4_choose (M : Mem) (J67 : Int → Mem → Prop) (Q : Mem → Prop) : Prop := wp_J7_fill_53178 M 6 2 12 (-1) (fun M2 => wp_J7_fill_53178 M2 6 3 12 (-1) (fun M4 => wp_J7_fill_53178 M4 6 4 12 0 (fun M6 => wp_J7_fill_53178 M6 6 5 12 0 (fun M8 => wp_J7_fill_53178 M8 6 6 12 ((M8 10 5 0)) (fun M10 => (∀ M11 : Mem, M11 = mset M10 6 7 0 0 → (∀ y12 : Int, y12 = (M11 9 5 0) - 1 → J67 y12 M11)))))))
def wp_X4_choose (M : Mem) (Q : Mem → Prop) : Prop := ∃ (I67 : Nat → Int → Mem → Prop), wpe_X4_choose M (fun (x1 : Int) (M1 : Mem) => ∃ n1 : Nat, I67 n1 x1 M1) Q ∧ (∀ (n : Nat) (x1 : Int) (M : Mem), I67 n x1 M → wph_X4_choose_67 x1 M (fun (x1 : Int) (M1 : Mem) => ∃ n1 : Nat, n1 < n ∧ I67 n1 x1 M1) Q)
set_option maxHeartbeats 4000000 in
set_option maxRecDepth 100000 in
theorem wkj_X4_choose_88 {p : Program} {l : Launch} {e : Env} {s : State} {m : MethodId} {args : Array Value} {below : List Frame} {meth : Method} {c : Code} {D : va_G} {g : GT} {A : Nat → Prop} {a : Nat → Nat} {b : Nat → Nat → Nat} (X : vC p s m args meth c D g A RX4 wsX4_choose cX4_choose 3) (hr : meth.sig.returnType = none) {x1 : Int} {M : Mem} {J67 : Int → Mem → Prop} {Q : Mem → Prop} (hJ67 : ∀ (x1 : Int) (M : Mem), J67 x1 M → vV p l e ({ frames := 31, cells := 0, slots := 0, locals := 1042 } : Room) s m args below meth c D g A a b 3 0 0 (MQ below (cQv D g A a b Q) args s 0 0 A) M [(0, .ref (a 6)), (1, iv x1)] 67 []) (hw : wpj_X4_choose_88 x1 M J67 Q) : vV p l e ({ frames := 31, cells := 0, slots := 0, locals := 1042 } : Room) s m args below meth c D g A a b 3 0 0 (MQ below (cQv D g A a b Q) args s 0 0 A) M [(0, .ref (a 6)), (1, iv x1)] 88 [] := by
  unfold wpj_X4_choose_88 at hw
  refine V_iinc (lv1 := [(0, .ref (a 6)), (1, iv (x1 + (-1)))]) X [1, 0] dX4_choose_88 (q := 1) rfl (by decide) rfl ?_
  refine V_goto (tgt := 67) X dX4_choose_91 (by decide) ?_
  exact hJ67 _ _ hw
set_option maxHeartbeats 4000000 in
set_option maxRecDepth 100000 in
theorem wkh_X4_choose_67 {p : Program} {l : Launch} {e : Env} {s : State} {m : MethodId} {args : Array Value} {below : List Frame} {meth : Method} {c : Code} {D : va_G} {g : GT} {A : Nat → Prop} {a : Nat → Nat} {b : Nat → Nat → Nat} (X : vC p s m args meth c D g A RX4 wsX4_choose cX4_choose 3) (hr : meth.sig.returnType = none) {x1 : Int} {M : Mem} {J67 : Int → Mem → Prop} {Q : Mem → Prop} (hJ67 : ∀ (x1 : Int) (M : Mem), J67 x1 M → vV p l e ({ frames := 31, cells := 0, slots := 0, locals := 1042 } : Room) s m args below meth c D g A a b 3 0 0 (MQ below (cQv D g A a b Q) args s 0 0 A) M [(0, .ref (a 6)), (1, iv x1)] 67 []) (hw : wph_X4_choose_67 x1 M J67 Q) : vV p l e ({ frames := 31, cells := 0, slots := 0, locals := 1042 } : Room) s m args below meth c D g A a b 3 0 0 (MQ below (cQv D g A a b Q) args s 0 0 A) M [(0, .ref (a 6)), (1, iv x1)] 67 [] := by
  unfold wph_X4_choose_67 at hw
  refine V_iload_n X dX4_choose_67 rfl (q := 1) rfl ?_
  obtain ⟨h13, hw⟩ := hw
  refine V_if_lt (tgt := 94) X h13 dX4_choose_68 (by decide) (fun q14 => ?_) (fun q14 => ?_)
  · have hw := hw.1 q14
    exact V_vret X hr hw dX4_choose_94
  · have hw := hw.2 q14
    refine V_aload_n X dX4_choose_71 rfl (q := 0) rfl ?_
    refine V_iload_n X dX4_choose_72 rfl (q := 1) rfl ?_
    refine V_callV_i X _ gO_6 rfl (As := [iv x1]) (st := []) (c_X4_firstPartner l hw) (cwV 1 X.2.2.2.1 gX4_choose_X4_firstPartner rfl rfl rfl (by decide +kernel) ⟨Nat.le_of_ble_eq_true rfl, Nat.le_of_ble_eq_true rfl⟩) rfl (Nat.le_of_ble_eq_true rfl) ⟨Nat.le_of_ble_eq_true rfl, Nat.le_of_ble_eq_true rfl⟩ rfl dX4_choose_73 (fun y15 M16 hw => ?_)
    refine V_istore_n (lv1 := [(0, .ref (a 6)), (1, iv x1), (2, iv y15)]) X [1, 2, 0] dX4_choose_76 rfl (by decide) rfl ?_
    refine V_iload_n X dX4_choose_77 rfl (q := 2) rfl ?_
    refine V_iconst X dX4_choose_78 ?_
    obtain ⟨h17, hw⟩ := hw
    refine V_icmp_eq (tgt := 88) X h17 ⟨by decide, by decide⟩ dX4_choose_79 (by decide) (fun q18 => ?_) (fun q18 => ?_)
    · have hw := hw.1 q18
      refine V_sub (lv1 := [(0, .ref (a 6)), (1, iv x1)]) [0, 1] rfl ?_
      exact wkj_X4_choose_88 X hr hJ67 hw
    · have hw := hw.2 q18
      refine V_aload_n X dX4_choose_82 rfl (q := 0) rfl ?_
      refine V_iload_n X dX4_choose_83 rfl (q := 1) rfl ?_
      refine V_iload_n X dX4_choose_84 rfl (q := 2) rfl ?_
      refine V_callV_v X _ gO_6 rfl (As := [iv x1, iv y15]) (st := []) (c_X4_pair l hw) (cwV 2 X.2.2.2.1 gX4_choose_X4_pair rfl rfl rfl (by decide +kernel) ⟨Nat.le_of_ble_eq_true rfl, Nat.le_of_ble_eq_true rfl⟩) rfl (Nat.le_of_ble_eq_true rfl) ⟨Nat.le_of_ble_eq_true rfl, Nat.le_of_ble_eq_true rfl⟩ rfl dX4_choose_85 (fun M20 hw => ?_)
      refine V_sub (lv1 := [(0, .ref (a 6)), (1, iv x1)]) [0, 1] rfl ?_
      exact wkj_X4_choose_88 X hr hJ67 hw
set_option maxHeartbeats 4000000 in
set_option maxRecDepth 100000 in
theorem wke_X4_choose {p : Program} {l : Launch} {e : Env} {s : State} {m : MethodId} {args : Array Value} {below : List Frame} {meth : Method} {c : Code} {D : va_G} {g : GT} {A : Nat → Prop} {a : Nat → Nat} {b : Nat → Nat → Nat} (X : vC p s m args meth c D g A RX4 wsX4_choose cX4_choose 3) (hr : meth.sig.returnType = none) {M : Mem} {J67 : Int → Mem → Prop} {Q : Mem → Prop} (hJ67 : ∀ (x1 : Int) (M : Mem), J67 x1 M → vV p l e ({ frames := 31, cells := 0, slots := 0, locals := 1042 } : Room) s m args below meth c D g A a b 3 0 0 (MQ below (cQv D g A a b Q) args s 0 0 A) M [(0, .ref (a 6)), (1, iv x1)] 67 []) (hw : wpe_X4_choose M J67 Q) : vV p l e ({ frames := 31, cells := 0, slots := 0, locals := 1042 } : Room) s m args below meth c D g A a b 3 0 0 (MQ below (cQv D g A a b Q) args s 0 0 A) M [(0, .ref (a 6))] 0 [] := by
  unfold wpe_X4_choose at hw
  refine V_aload_n X dX4_choose_0 rfl (q := 0) rfl ?_
  refine V_get (C := RX4) (T := TX4) (N := 8) (ci := 4) X hi_X4_choose_4 gO_6 rfl 2 (by decide) lk_X4_choose_f9 (fun _ h9 => h9) rfl dX4_choose_1 ?_
  refine V_iconst X dX4_choose_4 ?_
  refine V_callS_v X _ (As := [.ref (b 6 2), iv (-1)]) (st := []) (c_J7_fill_53178 l arr_6_2 hw) (va_cwS 2 X.2.2.2.1 gX4_choose_J7_fill_53178 rfl rfl rfl (by decide +kernel) ⟨Nat.le_of_ble_eq_true rfl, Nat.le_of_ble_eq_true rfl⟩) rfl (Nat.le_of_ble_eq_true rfl) ⟨Nat.le_of_ble_eq_true rfl, Nat.le_of_ble_eq_true rfl⟩ rfl dX4_choose_5 (fun M2 hw => ?_)
  refine V_aload_n X dX4_choose_8 rfl (q := 0) rfl ?_
  refine V_get (C := RX4) (T := TX4) (N := 8) (ci := 4) X hi_X4_choose_4 gO_6 rfl 3 (by decide) lk_X4_choose_f15 (fun _ h9 => h9) rfl dX4_choose_9 ?_
  refine V_iconst X dX4_choose_12 ?_
  refine V_callS_v X _ (As := [.ref (b 6 3), iv (-1)]) (st := []) (c_J7_fill_53178 l arr_6_3 hw) (va_cwS 2 X.2.2.2.1 gX4_choose_J7_fill_53178 rfl rfl rfl (by decide +kernel) ⟨Nat.le_of_ble_eq_true rfl, Nat.le_of_ble_eq_true rfl⟩) rfl (Nat.le_of_ble_eq_true rfl) ⟨Nat.le_of_ble_eq_true rfl, Nat.le_of_ble_eq_true rfl⟩ rfl dX4_choose_13 (fun M4 hw => ?_)
  refine V_aload_n X dX4_choose_16 rfl (q := 0) rfl ?_
  refine V_get (C := RX4) (T := TX4) (N := 8) (ci := 4) X hi_X4_choose_4 gO_6 rfl 4 (by decide) lk_X4_choose_f18 (fun _ h9 => h9) rfl dX4_choose_17 ?_
  refine V_iconst X dX4_choose_20 ?_
  refine V_callS_v X _ (As := [.ref (b 6 4), iv 0]) (st := []) (c_J7_fill_53178 l arr_6_4 hw) (va_cwS 2 X.2.2.2.1 gX4_choose_J7_fill_53178 rfl rfl rfl (by decide +kernel) ⟨Nat.le_of_ble_eq_true rfl, Nat.le_of_ble_eq_true rfl⟩) rfl (Nat.le_of_ble_eq_true rfl) ⟨Nat.le_of_ble_eq_true rfl, Nat.le_of_ble_eq_true rfl⟩ rfl dX4_choose_21 (fun M6 hw => ?_)
  refine V_aload_n X dX4_choose_24 rfl (q := 0) rfl ?_
  refine V_get (C := RX4) (T := TX4) (N := 8) (ci := 4) X hi_X4_choose_4 gO_6 rfl 5 (by decide) lk_X4_choose_f21 (fun _ h9 => h9) rfl dX4_choose_25 ?_
  refine V_iconst X dX4_choose_28 ?_
  refine V_callS_v X _ (As := [.ref (b 6 5), iv 0]) (st := []) (c_J7_fill_53178 l arr_6_5 hw) (va_cwS 2 X.2.2.2.1 gX4_choose_J7_fill_53178 rfl rfl rfl (by decide +kernel) ⟨Nat.le_of_ble_eq_true rfl, Nat.le_of_ble_eq_true rfl⟩) rfl (Nat.le_of_ble_eq_true rfl) ⟨Nat.le_of_ble_eq_true rfl, Nat.le_of_ble_eq_true rfl⟩ rfl dX4_choose_29 (fun M8 hw => ?_)
  refine V_aload_n X dX4_choose_32 rfl (q := 0) rfl ?_
  refine V_get (C := RX4) (T := TX4) (N := 8) (ci := 4) X hi_X4_choose_4 gO_6 rfl 6 (by decide) lk_X4_choose_f24 (fun _ h9 => h9) rfl dX4_choose_33 ?_
  refine V_aload_n X dX4_choose_36 rfl (q := 0) rfl ?_
  refine V_get (C := RX4) (T := TX4) (N := 8) (ci := 4) X hi_X4_choose_4 gO_6 rfl 0 (by decide) lk_X4_choose_f27 (fun _ h9 => h9) rfl dX4_choose_37 ?_
  refine V_getN (C := RX3) (T := TX3) (N := 4) (ci := 3) X hi_X4_choose_3 gO_2 rfl 2 (by decide) (List.mem_of_getElem? (i := 64) rfl) (fun _ h9 => h9) rfl dX4_choose_40 ?_
  refine V_getN (C := RX6) (T := TX6) (N := 6) (ci := 6) X hi_X4_choose_6 gO_10 rfl 5 (by decide) (List.mem_of_getElem? (i := 54) rfl) (fun _ h9 => h9) rfl dX4_choose_43 ?_
  refine V_callS_v X _ (As := [.ref (b 6 6), iv ((M8 10 5 0))]) (st := []) (c_J7_fill_53178 l arr_6_6 hw) (va_cwS 2 X.2.2.2.1 gX4_choose_J7_fill_53178 rfl rfl rfl (by decide +kernel) ⟨Nat.le_of_ble_eq_true rfl, Nat.le_of_ble_eq_true rfl⟩) rfl (Nat.le_of_ble_eq_true rfl) ⟨Nat.le_of_ble_eq_true rfl, Nat.le_of_ble_eq_true rfl⟩ rfl dX4_choose_46 (fun M10 hw => ?_)
  refine V_aload_n X dX4_choose_49 rfl (q := 0) rfl ?_
  refine V_iconst X dX4_choose_50 ?_
  refine V_put (C := RX4) (T := TX4) (N := 8) (ci := 4) X hi_X4_choose_4 gO_6 rfl 7 (by decide) tyX4 tyX4_ok nmX4 rfl (tyX4_ok 7 (by decide)) (Or.inl rfl) (show 7 < 8 from by decide) sI_6_7 lk_X4_choose_f53 (fun _ h9 => h9) dX4_choose_51 (fun M11 eM11 => ?_)
  have hw := hw M11 eM11
  refine V_aload_n X dX4_choose_54 rfl (q := 0) rfl ?_
  refine V_get (C := RX4) (T := TX4) (N := 8) (ci := 4) X hi_X4_choose_4 gO_6 rfl 0 (by decide) lk_X4_choose_f27 (fun _ h9 => h9) rfl dX4_choose_55 ?_
  refine V_getN (C := RX3) (T := TX3) (N := 4) (ci := 3) X hi_X4_choose_3 gO_2 rfl 1 (by decide) (List.mem_of_getElem? (i := 59) rfl) (fun _ h9 => h9) rfl dX4_choose_58 ?_
  refine V_getN (C := RX6) (T := TX6) (N := 6) (ci := 6) X hi_X4_choose_6 gO_9 rfl 5 (by decide) (List.mem_of_getElem? (i := 54) rfl) (fun _ h9 => h9) rfl dX4_choose_61 ?_
  refine V_iconst X dX4_choose_64 ?_
  refine V_isub X dX4_choose_65 ?_
  refine V_top (fun y12 ey12 => ?_)
  have hw := hw y12 ey12
  refine V_istore_n (lv1 := [(0, .ref (a 6)), (1, iv y12)]) X [1, 0] dX4_choose_66 rfl (by decide) rfl ?_
  exact hJ67 _ _ hw
set_option maxHeartbeats 4000000 in
set_option maxRecDepth 100000 in
theorem c_X4_choose (l : Launch) {D : va_G} {g : GT} {A : Nat → Prop} {a : Nat → Nat} {b : Nat → Nat → Nat} {M : Mem} {Q : Mem → Prop} (hw : wp_X4_choose M Q) : Met l yX4_choose wsX4_choose ({ frames := 31, cells := 0, slots := 0, locals := 1042 } : Room) (cPc D g A a b M [.ref (a 6)]) (cQv D g A a b Q) 0 0 A := by
  refine Met.ofW (cc := cX4_choose) (maxL := 3) (ret := none) (by decide) rfl ?_
  intro p e s m args below meth c s₁ B hml hv
  obtain ⟨rfl, hP, hD, hG⟩ := hv
  have X : vC p s m _ meth c D g A RX4 wsX4_choose cX4_choose 3 := ⟨B.exec, B.bytes, findClass_of_methodNamed B.named, atoms_spec (ws := wsX4_choose) B.pre, hG, hml, B.notSynchronized⟩
  have hr := B.returns
  have hl := lv_entry ([.ref (a 6)]) (n := 3) (Nat.le_of_ble_eq_true rfl)
  rw [lg_entry_eq]
  generalize (lg_sl ([.ref (a 6)]) ++ List.replicate (3 - (lg_sl ([.ref (a 6)])).length) Slot.unset).toArray = ls at hl ⊢
  have hl : lv_has ls 3 [(0, .ref (a 6))] := hl
  obtain ⟨I67, hw, hI67⟩ := hw
  have K : ∀ n : Nat, (∀ (x1 : Int) (M : Mem), I67 n x1 M → vV p l e ({ frames := 31, cells := 0, slots := 0, locals := 1042 } : Room) s m ([.ref (a 6)] : List Value).toArray below meth c D g A a b 3 0 0 (MQ below (cQv D g A a b Q) ([.ref (a 6)] : List Value).toArray s 0 0 A) M [(0, .ref (a 6)), (1, iv x1)] 67 []) := by
    intro n
    induction n using Nat.strongRecOn with
    | ind n ih =>
      exact fun x1 M hh => wkh_X4_choose_67 X hr (fun _ _ ⟨n1, hn, hh⟩ => (ih n1 hn) _ _ hh) (hI67 n x1 M hh)
  exact wke_X4_choose X hr  (fun _ _ ⟨n1, hh⟩ => (K n1) _ _ hh) hw s.heap [] ls hP hD va_S.rf hl

theorem dX9_endOf_0 : decode cX9_endOf 0 = .ok (.aload_n 0, 1) := by decide +kernel
theorem dX9_endOf_1 : decode cX9_endOf 1 = .ok (.getfield 27, 3) := by decide +kernel
theorem dX9_endOf_4 : decode cX9_endOf 4 = .ok (.iload_n 1, 1) := by decide +kernel
theorem dX9_endOf_5 : decode cX9_endOf 5 = .ok (.iaload, 1) := by decide +kernel
theorem dX9_endOf_6 : decode cX9_endOf 6 = .ok (.aload_n 0, 1) := by decide +kernel
theorem dX9_endOf_7 : decode cX9_endOf 7 = .ok (.getfield 30, 3) := by decide +kernel
theorem dX9_endOf_10 : decode cX9_endOf 10 = .ok (.iload_n 1, 1) := by decide +kernel
theorem dX9_endOf_11 : decode cX9_endOf 11 = .ok (.iaload, 1) := by decide +kernel
theorem dX9_endOf_12 : decode cX9_endOf 12 = .ok (.iadd, 1) := by decide +kernel
theorem dX9_endOf_13 : decode cX9_endOf 13 = .ok (.ireturn, 1) := by decide +kernel
theorem lk_X9_endOf_f27 : Cond.fieldLink RX9 27 "TreeComparer$Tree" "prePlace" "[I" ∈ wsX9_endOf := by decide +kernel
theorem hi_X9_endOf_9 : ∀ w ∈ u_ws RX9 TX9 9, w ∈ wsX9_endOf := by decide +kernel
theorem lk_X9_endOf_f30 : Cond.fieldLink RX9 30 "TreeComparer$Tree" "size" "[I" ∈ wsX9_endOf := by decide +kernel
def wpe_X9_endOf (o : Nat) (p0 : Int) (M : Mem) (Q : Int → Mem → Prop) : Prop := ((0 : Int) ≤ p0 ∧ p0 < 12) ∧ ((0 : Int) ≤ p0 ∧ p0 < 12) ∧ Q ((M o 5 p0.toNat) + (M o 6 p0.toNat)) M
def wp_X9_endOf (M : Mem) (o : Nat) (p0 : Int) (Q : Int → Mem → Prop) : Prop := wpe_X9_endOf o p0 M Q
set_option maxHeartbeats 4000000 in
set_option maxRecDepth 100000 in
theorem wke_X9_endOf {p : Program} {l : Launch} {e : Env} {s : State} {m : MethodId} {args : Array Value} {below : List Frame} {meth : Method} {c : Code} {D : va_G} {g : GT} {A : Nat → Prop} {a : Nat → Nat} {b : Nat → Nat → Nat} (X : vC p s m args meth c D g A RX9 wsX9_endOf cX9_endOf 2) (hr : meth.sig.returnType = (some .int)) {o : Nat} {p0 : Int} (ho : isT o) {M : Mem} {Q : Int → Mem → Prop} (hw : wpe_X9_endOf o p0 M Q) : vV p l e ({ frames := 0, cells := 0, slots := 0, locals := 0 } : Room) s m args below meth c D g A a b 2 0 0 (MQ below (cQi D g A a b Q) args s 0 0 A) M [(0, .ref (a o)), (1, iv p0)] 0 [] := by
  unfold wpe_X9_endOf at hw
  refine V_aload_n X dX9_endOf_0 rfl (q := 0) rfl ?_
  refine V_get (C := RX9) (T := TX9) (N := 9) (ci := 9) X hi_X9_endOf_9 (gTO ho) rfl 5 (by decide) lk_X9_endOf_f27 (fun _ h9 => h9) rfl dX9_endOf_1 ?_
  refine V_iload_n X dX9_endOf_4 rfl (q := 1) rfl ?_
  obtain ⟨h1, hw⟩ := hw
  refine V_iald X ((gT_5 ho)) h1 (by decide) dX9_endOf_5 ?_
  refine V_aload_n X dX9_endOf_6 rfl (q := 0) rfl ?_
  refine V_get (C := RX9) (T := TX9) (N := 9) (ci := 9) X hi_X9_endOf_9 (gTO ho) rfl 6 (by decide) lk_X9_endOf_f30 (fun _ h9 => h9) rfl dX9_endOf_7 ?_
  refine V_iload_n X dX9_endOf_10 rfl (q := 1) rfl ?_
  obtain ⟨h2, hw⟩ := hw
  refine V_iald X ((gT_6 ho)) h2 (by decide) dX9_endOf_11 ?_
  refine V_iadd X dX9_endOf_12 ?_
  exact V_iret X hr hw dX9_endOf_13
set_option maxHeartbeats 4000000 in
set_option maxRecDepth 100000 in
theorem c_X9_endOf (l : Launch) {o : Nat} {p0 : Int} (ho : isT o) {D : va_G} {g : GT} {A : Nat → Prop} {a : Nat → Nat} {b : Nat → Nat → Nat} {M : Mem} {Q : Int → Mem → Prop} (hw : wp_X9_endOf M o p0 Q) : Met l yX9_endOf wsX9_endOf ({ frames := 0, cells := 0, slots := 0, locals := 0 } : Room) (cPc D g A a b M [.ref (a o), iv p0]) (cQi D g A a b Q) 0 0 A := by
  refine Met.ofW (cc := cX9_endOf) (maxL := 2) (ret := (some .int)) (by decide) rfl ?_
  intro p e s m args below meth c s₁ B hml hv
  obtain ⟨rfl, hP, hD, hG⟩ := hv
  have X : vC p s m _ meth c D g A RX9 wsX9_endOf cX9_endOf 2 := ⟨B.exec, B.bytes, findClass_of_methodNamed B.named, atoms_spec (ws := wsX9_endOf) B.pre, hG, hml, B.notSynchronized⟩
  have hr := B.returns
  have hl := lv_entry ([.ref (a o), iv p0]) (n := 2) (Nat.le_of_ble_eq_true rfl)
  rw [lg_entry_eq]
  generalize (lg_sl ([.ref (a o), iv p0]) ++ List.replicate (2 - (lg_sl ([.ref (a o), iv p0])).length) Slot.unset).toArray = ls at hl ⊢
  have hl : lv_has ls 2 [(0, .ref (a o)), (1, iv p0)] := hl
  exact wke_X9_endOf X hr ho hw s.heap [] ls hP hD va_S.rf hl

set_option maxRecDepth 20000 in
theorem ggX9_subtreePrice_X9_endOf : GoodIn wsX9_subtreePrice wsX9_endOf := goodIn_r _ [8, 1, 9, 10, 11, 12, 13, 14, 15, 16, 17, 18] (by decide +kernel) (by decide +kernel)
set_option maxRecDepth 20000 in
theorem gX9_subtreePrice_X9_endOf : GoodIn wsX9_subtreePrice (wsV RX9 47 RX9 yX9_endOf wsX9_endOf) := goodIn_app (goodIn_of _ (by decide +kernel)) ggX9_subtreePrice_X9_endOf
theorem dX9_subtreePrice_0 : decode cX9_subtreePrice 0 = .ok (.iconst 0, 1) := by decide +kernel
theorem dX9_subtreePrice_1 : decode cX9_subtreePrice 1 = .ok (.istore_n 3, 1) := by decide +kernel
theorem dX9_subtreePrice_2 : decode cX9_subtreePrice 2 = .ok (.aload_n 0, 1) := by decide +kernel
theorem dX9_subtreePrice_3 : decode cX9_subtreePrice 3 = .ok (.getfield 27, 3) := by decide +kernel
theorem dX9_subtreePrice_6 : decode cX9_subtreePrice 6 = .ok (.iload_n 1, 1) := by decide +kernel
theorem dX9_subtreePrice_7 : decode cX9_subtreePrice 7 = .ok (.iaload, 1) := by decide +kernel
theorem dX9_subtreePrice_8 : decode cX9_subtreePrice 8 = .ok (.istore 4, 2) := by decide +kernel
theorem dX9_subtreePrice_10 : decode cX9_subtreePrice 10 = .ok (.iload 4, 2) := by decide +kernel
theorem dX9_subtreePrice_12 : decode cX9_subtreePrice 12 = .ok (.aload_n 0, 1) := by decide +kernel
theorem dX9_subtreePrice_13 : decode cX9_subtreePrice 13 = .ok (.iload_n 1, 1) := by decide +kernel
theorem dX9_subtreePrice_14 : decode cX9_subtreePrice 14 = .ok (.invokevirtual 47, 3) := by decide +kernel
theorem dX9_subtreePrice_17 : decode cX9_subtreePrice 17 = .ok (.if_icmp .ge 26, 3) := by decide +kernel
theorem dX9_subtreePrice_20 : decode cX9_subtreePrice 20 = .ok (.iload_n 3, 1) := by decide +kernel
theorem dX9_subtreePrice_21 : decode cX9_subtreePrice 21 = .ok (.aload_n 2, 1) := by decide +kernel
theorem dX9_subtreePrice_22 : decode cX9_subtreePrice 22 = .ok (.aload_n 0, 1) := by decide +kernel
theorem dX9_subtreePrice_23 : decode cX9_subtreePrice 23 = .ok (.getfield 9, 3) := by decide +kernel
theorem dX9_subtreePrice_26 : decode cX9_subtreePrice 26 = .ok (.aload_n 0, 1) := by decide +kernel
theorem dX9_subtreePrice_27 : decode cX9_subtreePrice 27 = .ok (.getfield 21, 3) := by decide +kernel
theorem dX9_subtreePrice_30 : decode cX9_subtreePrice 30 = .ok (.iload 4, 2) := by decide +kernel
theorem dX9_subtreePrice_32 : decode cX9_subtreePrice 32 = .ok (.iaload, 1) := by decide +kernel
theorem dX9_subtreePrice_33 : decode cX9_subtreePrice 33 = .ok (.iaload, 1) := by decide +kernel
theorem dX9_subtreePrice_34 : decode cX9_subtreePrice 34 = .ok (.iaload, 1) := by decide +kernel
theorem dX9_subtreePrice_35 : decode cX9_subtreePrice 35 = .ok (.iadd, 1) := by decide +kernel
theorem dX9_subtreePrice_36 : decode cX9_subtreePrice 36 = .ok (.istore_n 3, 1) := by decide +kernel
theorem dX9_subtreePrice_37 : decode cX9_subtreePrice 37 = .ok (.iinc 4 1, 3) := by decide +kernel
theorem dX9_subtreePrice_40 : decode cX9_subtreePrice 40 = .ok (.goto (-30), 3) := by decide +kernel
theorem dX9_subtreePrice_43 : decode cX9_subtreePrice 43 = .ok (.iload_n 3, 1) := by decide +kernel
theorem dX9_subtreePrice_44 : decode cX9_subtreePrice 44 = .ok (.ireturn, 1) := by decide +kernel
theorem lk_X9_subtreePrice_f27 : Cond.fieldLink RX9 27 "TreeComparer$Tree" "prePlace" "[I" ∈ wsX9_subtreePrice := by decide +kernel
theorem hi_X9_subtreePrice_9 : ∀ w ∈ u_ws RX9 TX9 9, w ∈ wsX9_subtreePrice := by decide +kernel
theorem lk_X9_subtreePrice_f9 : Cond.fieldLink RX9 9 "TreeComparer$Tree" "kind" "[I" ∈ wsX9_subtreePrice := by decide +kernel
theorem lk_X9_subtreePrice_f21 : Cond.fieldLink RX9 21 "TreeComparer$Tree" "preorder" "[I" ∈ wsX9_subtreePrice := by decide +kernel
def wph_X9_subtreePrice_10 (o : Nat) (p0 : Int) (po1 pk1 pn1 : Nat) (x3 : Int) (x4 : Int) (M : Mem) (J10 : Int → Int → Mem → Prop) (Q : Int → Mem → Prop) : Prop := wp_X9_endOf M o p0 (fun y3 M4 => inR x4 ∧ inR y3 ∧ ((y3 ≤ x4 → Q x3 M4) ∧ (¬ (y3 ≤ x4) → ((0 : Int) ≤ x4 ∧ x4 < 12) ∧ ((0 : Int) ≤ (M4 o 3 x4.toNat) ∧ (M4 o 3 x4.toNat) < 12) ∧ ((0 : Int) ≤ (M4 o 0 ((M4 o 3 x4.toNat)).toNat) ∧ (M4 o 0 ((M4 o 3 x4.toNat)).toNat) < pn1) ∧ (∀ y11 : Int, y11 = x3 + (M4 po1 pk1 ((M4 o 0 ((M4 o 3 x4.toNat)).toNat)).toNat) → J10 y11 (x4 + 1) M4))))
def wpe_X9_subtreePrice (o : Nat) (p0 : Int) (po1 pk1 pn1 : Nat) (M : Mem) (J10 : Int → Int → Mem → Prop) (Q : Int → Mem → Prop) : Prop := ((0 : Int) ≤ p0 ∧ p0 < 12) ∧ (∀ y2 : Int, y2 = (M o 5 p0.toNat) → J10 0 y2 M)
def wp_X9_subtreePrice (M : Mem) (o : Nat) (p0 : Int) (po1 pk1 pn1 : Nat) (Q : Int → Mem → Prop) : Prop := ∃ (I10 : Nat → Int → Int → Mem → Prop), wpe_X9_subtreePrice o p0 po1 pk1 pn1 M (fun (x3 : Int) (x4 : Int) (M1 : Mem) => ∃ n1 : Nat, I10 n1 x3 x4 M1) Q ∧ (∀ (n : Nat) (x3 : Int) (x4 : Int) (M : Mem), I10 n x3 x4 M → wph_X9_subtreePrice_10 o p0 po1 pk1 pn1 x3 x4 M (fun (x3 : Int) (x4 : Int) (M1 : Mem) => ∃ n1 : Nat, n1 < n ∧ I10 n1 x3 x4 M1) Q)
set_option maxHeartbeats 4000000 in
set_option maxRecDepth 100000 in
theorem wkh_X9_subtreePrice_10 {p : Program} {l : Launch} {e : Env} {s : State} {m : MethodId} {args : Array Value} {below : List Frame} {meth : Method} {c : Code} {D : va_G} {g : GT} {A : Nat → Prop} {a : Nat → Nat} {b : Nat → Nat → Nat} (X : vC p s m args meth c D g A RX9 wsX9_subtreePrice cX9_subtreePrice 5) (hr : meth.sig.returnType = (some .int)) {o : Nat} {p0 : Int} {po1 pk1 pn1 : Nat} (ho : isT o) {pq1 : Nat} (ha1 : isArr pq1 po1 pk1 pn1) {x3 : Int} {x4 : Int} {M : Mem} {J10 : Int → Int → Mem → Prop} {Q : Int → Mem → Prop} (hJ10 : ∀ (x3 : Int) (x4 : Int) (M : Mem), J10 x3 x4 M → vV p l e ({ frames := 1, cells := 0, slots := 0, locals := 21 } : Room) s m args below meth c D g A a b 5 0 0 (MQ below (cQi D g A a b Q) args s 0 0 A) M [(0, .ref (a o)), (1, iv p0), (2, .ref (b po1 pk1)), (3, iv x3), (4, iv x4)] 10 []) (hw : wph_X9_subtreePrice_10 o p0 po1 pk1 pn1 x3 x4 M J10 Q) : vV p l e ({ frames := 1, cells := 0, slots := 0, locals := 21 } : Room) s m args below meth c D g A a b 5 0 0 (MQ below (cQi D g A a b Q) args s 0 0 A) M [(0, .ref (a o)), (1, iv p0), (2, .ref (b po1 pk1)), (3, iv x3), (4, iv x4)] 10 [] := by
  unfold wph_X9_subtreePrice_10 at hw
  refine V_iload X dX9_subtreePrice_10 (q := 4) rfl ?_
  refine V_aload_n X dX9_subtreePrice_12 rfl (q := 0) rfl ?_
  refine V_iload_n X dX9_subtreePrice_13 rfl (q := 1) rfl ?_
  refine V_callV_i X _ (gTO ho) rfl (As := [iv p0]) (st := [iv x4]) (c_X9_endOf l ho hw) (cwV 1 X.2.2.2.1 gX9_subtreePrice_X9_endOf rfl rfl rfl (by decide +kernel) ⟨Nat.le_of_ble_eq_true rfl, Nat.le_of_ble_eq_true rfl⟩) rfl (Nat.le_of_ble_eq_true rfl) ⟨Nat.le_of_ble_eq_true rfl, Nat.le_of_ble_eq_true rfl⟩ rfl dX9_subtreePrice_14 (fun y3 M4 hw => ?_)
  obtain ⟨h5, h6, hw⟩ := hw
  refine V_icmp_ge (tgt := 43) X h5 h6 dX9_subtreePrice_17 (by decide) (fun q7 => ?_) (fun q7 => ?_)
  · have hw := hw.1 q7
    refine V_iload_n X dX9_subtreePrice_43 rfl (q := 3) rfl ?_
    exact V_iret X hr hw dX9_subtreePrice_44
  · have hw := hw.2 q7
    refine V_iload_n X dX9_subtreePrice_20 rfl (q := 3) rfl ?_
    refine V_aload_n X dX9_subtreePrice_21 rfl (q := 2) rfl ?_
    refine V_aload_n X dX9_subtreePrice_22 rfl (q := 0) rfl ?_
    refine V_get (C := RX9) (T := TX9) (N := 9) (ci := 9) X hi_X9_subtreePrice_9 (gTO ho) rfl 0 (by decide) lk_X9_subtreePrice_f9 (fun _ h9 => h9) rfl dX9_subtreePrice_23 ?_
    refine V_aload_n X dX9_subtreePrice_26 rfl (q := 0) rfl ?_
    refine V_get (C := RX9) (T := TX9) (N := 9) (ci := 9) X hi_X9_subtreePrice_9 (gTO ho) rfl 3 (by decide) lk_X9_subtreePrice_f21 (fun _ h9 => h9) rfl dX9_subtreePrice_27 ?_
    refine V_iload X dX9_subtreePrice_30 (q := 4) rfl ?_
    obtain ⟨h8, hw⟩ := hw
    refine V_iald X ((gT_3 ho)) h8 (by decide) dX9_subtreePrice_32 ?_
    obtain ⟨h9, hw⟩ := hw
    refine V_iald X ((gT_0 ho)) h9 (by decide) dX9_subtreePrice_33 ?_
    obtain ⟨h10, hw⟩ := hw
    refine V_iald X (ha1.1 _ _ _ _) h10 ha1.2.2 dX9_subtreePrice_34 ?_
    refine V_iadd X dX9_subtreePrice_35 ?_
    refine V_top (fun y11 ey11 => ?_)
    have hw := hw y11 ey11
    refine V_istore_n (lv1 := [(0, .ref (a o)), (1, iv p0), (2, .ref (b po1 pk1)), (3, iv y11), (4, iv x4)]) X [1, 2, 3, 0, 4] dX9_subtreePrice_36 rfl (by decide) rfl ?_
    refine V_iinc (lv1 := [(0, .ref (a o)), (1, iv p0), (2, .ref (b po1 pk1)), (3, iv y11), (4, iv (x4 + 1))]) X [1, 2, 3, 4, 0] dX9_subtreePrice_37 (q := 4) rfl (by decide) rfl ?_
    refine V_goto (tgt := 10) X dX9_subtreePrice_40 (by decide) ?_
    exact hJ10 _ _ _ hw
set_option maxHeartbeats 4000000 in
set_option maxRecDepth 100000 in
theorem wke_X9_subtreePrice {p : Program} {l : Launch} {e : Env} {s : State} {m : MethodId} {args : Array Value} {below : List Frame} {meth : Method} {c : Code} {D : va_G} {g : GT} {A : Nat → Prop} {a : Nat → Nat} {b : Nat → Nat → Nat} (X : vC p s m args meth c D g A RX9 wsX9_subtreePrice cX9_subtreePrice 5) (hr : meth.sig.returnType = (some .int)) {o : Nat} {p0 : Int} {po1 pk1 pn1 : Nat} (ho : isT o) {pq1 : Nat} (ha1 : isArr pq1 po1 pk1 pn1) {M : Mem} {J10 : Int → Int → Mem → Prop} {Q : Int → Mem → Prop} (hJ10 : ∀ (x3 : Int) (x4 : Int) (M : Mem), J10 x3 x4 M → vV p l e ({ frames := 1, cells := 0, slots := 0, locals := 21 } : Room) s m args below meth c D g A a b 5 0 0 (MQ below (cQi D g A a b Q) args s 0 0 A) M [(0, .ref (a o)), (1, iv p0), (2, .ref (b po1 pk1)), (3, iv x3), (4, iv x4)] 10 []) (hw : wpe_X9_subtreePrice o p0 po1 pk1 pn1 M J10 Q) : vV p l e ({ frames := 1, cells := 0, slots := 0, locals := 21 } : Room) s m args below meth c D g A a b 5 0 0 (MQ below (cQi D g A a b Q) args s 0 0 A) M [(0, .ref (a o)), (1, iv p0), (2, .ref (b po1 pk1))] 0 [] := by
  unfold wpe_X9_subtreePrice at hw
  refine V_iconst X dX9_subtreePrice_0 ?_
  refine V_istore_n (lv1 := [(0, .ref (a o)), (1, iv p0), (2, .ref (b po1 pk1)), (3, iv 0)]) X [1, 2, 3, 0] dX9_subtreePrice_1 rfl (by decide) rfl ?_
  refine V_aload_n X dX9_subtreePrice_2 rfl (q := 0) rfl ?_
  refine V_get (C := RX9) (T := TX9) (N := 9) (ci := 9) X hi_X9_subtreePrice_9 (gTO ho) rfl 5 (by decide) lk_X9_subtreePrice_f27 (fun _ h9 => h9) rfl dX9_subtreePrice_3 ?_
  refine V_iload_n X dX9_subtreePrice_6 rfl (q := 1) rfl ?_
  obtain ⟨h1, hw⟩ := hw
  refine V_iald X ((gT_5 ho)) h1 (by decide) dX9_subtreePrice_7 ?_
  refine V_top (fun y2 ey2 => ?_)
  have hw := hw y2 ey2
  refine V_istore (lv1 := [(0, .ref (a o)), (1, iv p0), (2, .ref (b po1 pk1)), (3, iv 0), (4, iv y2)]) X [1, 2, 3, 4, 0] dX9_subtreePrice_8 (by decide) rfl ?_
  exact hJ10 _ _ _ hw
set_option maxHeartbeats 4000000 in
set_option maxRecDepth 100000 in
theorem c_X9_subtreePrice (l : Launch) {o : Nat} {p0 : Int} {po1 pk1 pn1 : Nat} (ho : isT o) {pq1 : Nat} (ha1 : isArr pq1 po1 pk1 pn1) {D : va_G} {g : GT} {A : Nat → Prop} {a : Nat → Nat} {b : Nat → Nat → Nat} {M : Mem} {Q : Int → Mem → Prop} (hw : wp_X9_subtreePrice M o p0 po1 pk1 pn1 Q) : Met l yX9_subtreePrice wsX9_subtreePrice ({ frames := 1, cells := 0, slots := 0, locals := 21 } : Room) (cPc D g A a b M [.ref (a o), iv p0, .ref (b po1 pk1)]) (cQi D g A a b Q) 0 0 A := by
  refine Met.ofW (cc := cX9_subtreePrice) (maxL := 5) (ret := (some .int)) (by decide) rfl ?_
  intro p e s m args below meth c s₁ B hml hv
  obtain ⟨rfl, hP, hD, hG⟩ := hv
  have X : vC p s m _ meth c D g A RX9 wsX9_subtreePrice cX9_subtreePrice 5 := ⟨B.exec, B.bytes, findClass_of_methodNamed B.named, atoms_spec (ws := wsX9_subtreePrice) B.pre, hG, hml, B.notSynchronized⟩
  have hr := B.returns
  have hl := lv_entry ([.ref (a o), iv p0, .ref (b po1 pk1)]) (n := 5) (Nat.le_of_ble_eq_true rfl)
  rw [lg_entry_eq]
  generalize (lg_sl ([.ref (a o), iv p0, .ref (b po1 pk1)]) ++ List.replicate (5 - (lg_sl ([.ref (a o), iv p0, .ref (b po1 pk1)])).length) Slot.unset).toArray = ls at hl ⊢
  have hl : lv_has ls 5 [(0, .ref (a o)), (1, iv p0), (2, .ref (b po1 pk1))] := hl
  obtain ⟨I10, hw, hI10⟩ := hw
  have K : ∀ n : Nat, (∀ (x3 : Int) (x4 : Int) (M : Mem), I10 n x3 x4 M → vV p l e ({ frames := 1, cells := 0, slots := 0, locals := 21 } : Room) s m ([.ref (a o), iv p0, .ref (b po1 pk1)] : List Value).toArray below meth c D g A a b 5 0 0 (MQ below (cQi D g A a b Q) ([.ref (a o), iv p0, .ref (b po1 pk1)] : List Value).toArray s 0 0 A) M [(0, .ref (a o)), (1, iv p0), (2, .ref (b po1 pk1)), (3, iv x3), (4, iv x4)] 10 []) := by
    intro n
    induction n using Nat.strongRecOn with
    | ind n ih =>
      exact fun x3 x4 M hh => wkh_X9_subtreePrice_10 X hr ho ha1 (fun _ _ _ ⟨n1, hn, hh⟩ => (ih n1 hn) _ _ _ hh) (hI10 n x3 x4 M hh)
  exact wke_X9_subtreePrice X hr ho ha1 (fun _ _ _ ⟨n1, hh⟩ => (K n1) _ _ _ hh) hw s.heap [] ls hP hD va_S.rf hl

set_option maxRecDepth 20000 in
theorem ggX5_gain_X9_subtreePrice : GoodIn wsX5_gain wsX9_subtreePrice := goodIn_r _ [5, 6, 7, 8, 9, 10, 11, 3, 12, 13, 26, 27, 28, 29, 30, 31, 32, 33, 34] (by decide +kernel) (by decide +kernel)
set_option maxRecDepth 20000 in
theorem gX5_gain_X9_subtreePrice_n94 : GoodIn wsX5_gain (wsX9_subtreePrice) := ggX5_gain_X9_subtreePrice
theorem dX5_gain_0 : decode cX5_gain 0 = .ok (.aload_n 0, 1) := by decide +kernel
theorem dX5_gain_1 : decode cX5_gain 1 = .ok (.getfield 18, 3) := by decide +kernel
theorem dX5_gain_4 : decode cX5_gain 4 = .ok (.getfield 26, 3) := by decide +kernel
theorem dX5_gain_7 : decode cX5_gain 7 = .ok (.iload_n 1, 1) := by decide +kernel
theorem dX5_gain_8 : decode cX5_gain 8 = .ok (.aload_n 0, 1) := by decide +kernel
theorem dX5_gain_9 : decode cX5_gain 9 = .ok (.getfield 18, 3) := by decide +kernel
theorem dX5_gain_12 : decode cX5_gain 12 = .ok (.getfield 91, 3) := by decide +kernel
theorem dX5_gain_15 : decode cX5_gain 15 = .ok (.invokevirtual 94, 3) := by decide +kernel
theorem dX5_gain_18 : decode cX5_gain 18 = .ok (.aload_n 0, 1) := by decide +kernel
theorem dX5_gain_19 : decode cX5_gain 19 = .ok (.getfield 18, 3) := by decide +kernel
theorem dX5_gain_22 : decode cX5_gain 22 = .ok (.getfield 80, 3) := by decide +kernel
theorem dX5_gain_25 : decode cX5_gain 25 = .ok (.iload_n 2, 1) := by decide +kernel
theorem dX5_gain_26 : decode cX5_gain 26 = .ok (.aload_n 0, 1) := by decide +kernel
theorem dX5_gain_27 : decode cX5_gain 27 = .ok (.getfield 18, 3) := by decide +kernel
theorem dX5_gain_30 : decode cX5_gain 30 = .ok (.getfield 98, 3) := by decide +kernel
theorem dX5_gain_33 : decode cX5_gain 33 = .ok (.invokevirtual 94, 3) := by decide +kernel
theorem dX5_gain_36 : decode cX5_gain 36 = .ok (.iadd, 1) := by decide +kernel
theorem dX5_gain_37 : decode cX5_gain 37 = .ok (.aload_n 0, 1) := by decide +kernel
theorem dX5_gain_38 : decode cX5_gain 38 = .ok (.getfield 18, 3) := by decide +kernel
theorem dX5_gain_41 : decode cX5_gain 41 = .ok (.getfield 101, 3) := by decide +kernel
theorem dX5_gain_44 : decode cX5_gain 44 = .ok (.isub, 1) := by decide +kernel
theorem dX5_gain_45 : decode cX5_gain 45 = .ok (.ireturn, 1) := by decide +kernel
theorem lk_X5_gain_f18 : Cond.fieldLink RX5 18 "TreeComparer$Moves" "given" "LTreeComparer$Given;" ∈ wsX5_gain := by decide +kernel
theorem hi_X5_gain_5 : ∀ w ∈ u_ws RX5 TX5 6, w ∈ wsX5_gain := by decide +kernel
theorem hi_X5_gain_1 : ∀ w ∈ u_ws RX1 TX1 6, w ∈ wsX5_gain := by decide +kernel
theorem lk_X5_gain_i9 : Cond.initialized RX9 ∈ wsX5_gain := by decide +kernel
theorem lk_X5_gain_im94 : Cond.instanceMethod yX9_subtreePrice ∈ wsX5_gain := by decide +kernel
theorem lk_X5_gain_se94 : Cond.selects RX9 yX9_subtreePrice yX9_subtreePrice ∈ wsX5_gain := by decide +kernel
def wpe_X5_gain (p0 : Int) (p1 : Int) (M : Mem) (Q : Int → Mem → Prop) : Prop := wp_X9_subtreePrice M 11 p0 1 1 4 (fun y1 M2 => wp_X9_subtreePrice M2 12 p1 1 0 4 (fun y3 M4 => Q ((y1 + y3) - (M4 1 3 0)) M4))
def wp_X5_gain (M : Mem) (p0 : Int) (p1 : Int) (Q : Int → Mem → Prop) : Prop := wpe_X5_gain p0 p1 M Q
set_option maxHeartbeats 4000000 in
set_option maxRecDepth 100000 in
theorem wke_X5_gain {p : Program} {l : Launch} {e : Env} {s : State} {m : MethodId} {args : Array Value} {below : List Frame} {meth : Method} {c : Code} {D : va_G} {g : GT} {A : Nat → Prop} {a : Nat → Nat} {b : Nat → Nat → Nat} (X : vC p s m args meth c D g A RX5 wsX5_gain cX5_gain 3) (hr : meth.sig.returnType = (some .int)) {p0 : Int} {p1 : Int} {M : Mem} {Q : Int → Mem → Prop} (hw : wpe_X5_gain p0 p1 M Q) : vV p l e ({ frames := 2, cells := 0, slots := 0, locals := 45 } : Room) s m args below meth c D g A a b 3 0 0 (MQ below (cQi D g A a b Q) args s 0 0 A) M [(0, .ref (a 8)), (1, iv p0), (2, iv p1)] 0 [] := by
  unfold wpe_X5_gain at hw
  refine V_aload_n X dX5_gain_0 rfl (q := 0) rfl ?_
  refine V_get (C := RX5) (T := TX5) (N := 6) (ci := 5) X hi_X5_gain_5 gO_8 rfl 0 (by decide) lk_X5_gain_f18 (fun _ h9 => h9) rfl dX5_gain_1 ?_
  refine V_getN (C := RX1) (T := TX1) (N := 6) (ci := 1) X hi_X5_gain_1 gO_1 rfl 4 (by decide) (List.mem_of_getElem? (i := 36) rfl) (fun _ h9 => h9) rfl dX5_gain_4 ?_
  refine V_iload_n X dX5_gain_7 rfl (q := 1) rfl ?_
  refine V_aload_n X dX5_gain_8 rfl (q := 0) rfl ?_
  refine V_get (C := RX5) (T := TX5) (N := 6) (ci := 5) X hi_X5_gain_5 gO_8 rfl 0 (by decide) lk_X5_gain_f18 (fun _ h9 => h9) rfl dX5_gain_9 ?_
  refine V_getN (C := RX1) (T := TX1) (N := 6) (ci := 1) X hi_X5_gain_1 gO_1 rfl 1 (by decide) (List.mem_of_getElem? (i := 27) rfl) (fun _ h9 => h9) rfl dX5_gain_12 ?_
  refine V_callVN_i X _ gO_11 rfl (As := [iv p0, .ref (b 1 1)]) (st := []) (c_X9_subtreePrice l (by first | exact Or.inl rfl | exact Or.inr rfl) arr_1_1 hw) ⟨va_cnB 2 X.2.2.2.1 gX5_gain_X9_subtreePrice_n94 rfl rfl rfl (X.2.2.2.2.1.2.1 _ (List.mem_of_getElem? (i := 118) rfl)) (X.2.2.2.1 _ lk_X5_gain_i9) (by decide +kernel) ⟨Nat.le_of_ble_eq_true rfl, Nat.le_of_ble_eq_true rfl⟩, X.2.2.2.1 _ lk_X5_gain_im94, X.2.2.2.1 _ lk_X5_gain_se94⟩ rfl (Nat.le_of_ble_eq_true rfl) ⟨Nat.le_of_ble_eq_true rfl, Nat.le_of_ble_eq_true rfl⟩ rfl dX5_gain_15 (fun y1 M2 hw => ?_)
  refine V_aload_n X dX5_gain_18 rfl (q := 0) rfl ?_
  refine V_get (C := RX5) (T := TX5) (N := 6) (ci := 5) X hi_X5_gain_5 gO_8 rfl 0 (by decide) lk_X5_gain_f18 (fun _ h9 => h9) rfl dX5_gain_19 ?_
  refine V_getN (C := RX1) (T := TX1) (N := 6) (ci := 1) X hi_X5_gain_1 gO_1 rfl 5 (by decide) (List.mem_of_getElem? (i := 40) rfl) (fun _ h9 => h9) rfl dX5_gain_22 ?_
  refine V_iload_n X dX5_gain_25 rfl (q := 2) rfl ?_
  refine V_aload_n X dX5_gain_26 rfl (q := 0) rfl ?_
  refine V_get (C := RX5) (T := TX5) (N := 6) (ci := 5) X hi_X5_gain_5 gO_8 rfl 0 (by decide) lk_X5_gain_f18 (fun _ h9 => h9) rfl dX5_gain_27 ?_
  refine V_getN (C := RX1) (T := TX1) (N := 6) (ci := 1) X hi_X5_gain_1 gO_1 rfl 0 (by decide) (List.mem_of_getElem? (i := 24) rfl) (fun _ h9 => h9) rfl dX5_gain_30 ?_
  refine V_callVN_i X _ gO_12 rfl (As := [iv p1, .ref (b 1 0)]) (st := [iv y1]) (c_X9_subtreePrice l (by first | exact Or.inl rfl | exact Or.inr rfl) arr_1_0 hw) ⟨va_cnB 2 X.2.2.2.1 gX5_gain_X9_subtreePrice_n94 rfl rfl rfl (X.2.2.2.2.1.2.1 _ (List.mem_of_getElem? (i := 118) rfl)) (X.2.2.2.1 _ lk_X5_gain_i9) (by decide +kernel) ⟨Nat.le_of_ble_eq_true rfl, Nat.le_of_ble_eq_true rfl⟩, X.2.2.2.1 _ lk_X5_gain_im94, X.2.2.2.1 _ lk_X5_gain_se94⟩ rfl (Nat.le_of_ble_eq_true rfl) ⟨Nat.le_of_ble_eq_true rfl, Nat.le_of_ble_eq_true rfl⟩ rfl dX5_gain_33 (fun y3 M4 hw => ?_)
  refine V_iadd X dX5_gain_36 ?_
  refine V_aload_n X dX5_gain_37 rfl (q := 0) rfl ?_
  refine V_get (C := RX5) (T := TX5) (N := 6) (ci := 5) X hi_X5_gain_5 gO_8 rfl 0 (by decide) lk_X5_gain_f18 (fun _ h9 => h9) rfl dX5_gain_38 ?_
  refine V_getN (C := RX1) (T := TX1) (N := 6) (ci := 1) X hi_X5_gain_1 gO_1 rfl 3 (by decide) (List.mem_of_getElem? (i := 33) rfl) (fun _ h9 => h9) rfl dX5_gain_41 ?_
  refine V_isub X dX5_gain_44 ?_
  exact V_iret X hr hw dX5_gain_45
set_option maxHeartbeats 4000000 in
set_option maxRecDepth 100000 in
theorem c_X5_gain (l : Launch) {p0 : Int} {p1 : Int} {D : va_G} {g : GT} {A : Nat → Prop} {a : Nat → Nat} {b : Nat → Nat → Nat} {M : Mem} {Q : Int → Mem → Prop} (hw : wp_X5_gain M p0 p1 Q) : Met l yX5_gain wsX5_gain ({ frames := 2, cells := 0, slots := 0, locals := 45 } : Room) (cPc D g A a b M [.ref (a 8), iv p0, iv p1]) (cQi D g A a b Q) 0 0 A := by
  refine Met.ofW (cc := cX5_gain) (maxL := 3) (ret := (some .int)) (by decide) rfl ?_
  intro p e s m args below meth c s₁ B hml hv
  obtain ⟨rfl, hP, hD, hG⟩ := hv
  have X : vC p s m _ meth c D g A RX5 wsX5_gain cX5_gain 3 := ⟨B.exec, B.bytes, findClass_of_methodNamed B.named, atoms_spec (ws := wsX5_gain) B.pre, hG, hml, B.notSynchronized⟩
  have hr := B.returns
  have hl := lv_entry ([.ref (a 8), iv p0, iv p1]) (n := 3) (Nat.le_of_ble_eq_true rfl)
  rw [lg_entry_eq]
  generalize (lg_sl ([.ref (a 8), iv p0, iv p1]) ++ List.replicate (3 - (lg_sl ([.ref (a 8), iv p0, iv p1])).length) Slot.unset).toArray = ls at hl ⊢
  have hl : lv_has ls 3 [(0, .ref (a 8)), (1, iv p0), (2, iv p1)] := hl
  exact wke_X5_gain X hr  hw s.heap [] ls hP hD va_S.rf hl

set_option maxRecDepth 20000 in
theorem ggX9_isUnmarked_X9_endOf : GoodIn wsX9_isUnmarked wsX9_endOf := goodIn_r _ [7, 1, 8, 9, 10, 11, 12, 13, 14, 15, 16, 17] (by decide +kernel) (by decide +kernel)
set_option maxRecDepth 20000 in
theorem gX9_isUnmarked_X9_endOf : GoodIn wsX9_isUnmarked (wsV RX9 47 RX9 yX9_endOf wsX9_endOf) := goodIn_app (goodIn_of _ (by decide +kernel)) ggX9_isUnmarked_X9_endOf
theorem dX9_isUnmarked_0 : decode cX9_isUnmarked 0 = .ok (.aload_n 0, 1) := by decide +kernel
theorem dX9_isUnmarked_1 : decode cX9_isUnmarked 1 = .ok (.getfield 27, 3) := by decide +kernel
theorem dX9_isUnmarked_4 : decode cX9_isUnmarked 4 = .ok (.iload_n 1, 1) := by decide +kernel
theorem dX9_isUnmarked_5 : decode cX9_isUnmarked 5 = .ok (.iaload, 1) := by decide +kernel
theorem dX9_isUnmarked_6 : decode cX9_isUnmarked 6 = .ok (.istore_n 3, 1) := by decide +kernel
theorem dX9_isUnmarked_7 : decode cX9_isUnmarked 7 = .ok (.iload_n 3, 1) := by decide +kernel
theorem dX9_isUnmarked_8 : decode cX9_isUnmarked 8 = .ok (.aload_n 0, 1) := by decide +kernel
theorem dX9_isUnmarked_9 : decode cX9_isUnmarked 9 = .ok (.iload_n 1, 1) := by decide +kernel
theorem dX9_isUnmarked_10 : decode cX9_isUnmarked 10 = .ok (.invokevirtual 47, 3) := by decide +kernel
theorem dX9_isUnmarked_13 : decode cX9_isUnmarked 13 = .ok (.if_icmp .ge 23, 3) := by decide +kernel
theorem dX9_isUnmarked_16 : decode cX9_isUnmarked 16 = .ok (.aload_n 2, 1) := by decide +kernel
theorem dX9_isUnmarked_17 : decode cX9_isUnmarked 17 = .ok (.aload_n 0, 1) := by decide +kernel
theorem dX9_isUnmarked_18 : decode cX9_isUnmarked 18 = .ok (.getfield 21, 3) := by decide +kernel
theorem dX9_isUnmarked_21 : decode cX9_isUnmarked 21 = .ok (.iload_n 3, 1) := by decide +kernel
theorem dX9_isUnmarked_22 : decode cX9_isUnmarked 22 = .ok (.iaload, 1) := by decide +kernel
theorem dX9_isUnmarked_23 : decode cX9_isUnmarked 23 = .ok (.iaload, 1) := by decide +kernel
theorem dX9_isUnmarked_24 : decode cX9_isUnmarked 24 = .ok (.iconst (-1), 1) := by decide +kernel
theorem dX9_isUnmarked_25 : decode cX9_isUnmarked 25 = .ok (.if_icmp .eq 5, 3) := by decide +kernel
theorem dX9_isUnmarked_28 : decode cX9_isUnmarked 28 = .ok (.iconst 0, 1) := by decide +kernel
theorem dX9_isUnmarked_29 : decode cX9_isUnmarked 29 = .ok (.ireturn, 1) := by decide +kernel
theorem dX9_isUnmarked_30 : decode cX9_isUnmarked 30 = .ok (.iinc 3 1, 3) := by decide +kernel
theorem dX9_isUnmarked_33 : decode cX9_isUnmarked 33 = .ok (.goto (-26), 3) := by decide +kernel
theorem dX9_isUnmarked_36 : decode cX9_isUnmarked 36 = .ok (.iconst 1, 1) := by decide +kernel
theorem dX9_isUnmarked_37 : decode cX9_isUnmarked 37 = .ok (.ireturn, 1) := by decide +kernel
theorem lk_X9_isUnmarked_f27 : Cond.fieldLink RX9 27 "TreeComparer$Tree" "prePlace" "[I" ∈ wsX9_isUnmarked := by decide +kernel
theorem hi_X9_isUnmarked_9 : ∀ w ∈ u_ws RX9 TX9 9, w ∈ wsX9_isUnmarked := by decide +kernel
theorem lk_X9_isUnmarked_f21 : Cond.fieldLink RX9 21 "TreeComparer$Tree" "preorder" "[I" ∈ wsX9_isUnmarked := by decide +kernel
def wph_X9_isUnmarked_7 (o : Nat) (p0 : Int) (po1 pk1 pn1 : Nat) (x3 : Int) (M : Mem) (J7 : Int → Mem → Prop) (Q : Int → Mem → Prop) : Prop := wp_X9_endOf M o p0 (fun y3 M4 => inR x3 ∧ inR y3 ∧ ((y3 ≤ x3 → Q 1 M4) ∧ (¬ (y3 ≤ x3) → ((0 : Int) ≤ x3 ∧ x3 < 12) ∧ ((0 : Int) ≤ (M4 o 3 x3.toNat) ∧ (M4 o 3 x3.toNat) < pn1) ∧ inR (M4 po1 pk1 ((M4 o 3 x3.toNat)).toNat) ∧ (((M4 po1 pk1 ((M4 o 3 x3.toNat)).toNat) = (-1) → J7 (x3 + 1) M4) ∧ (¬ ((M4 po1 pk1 ((M4 o 3 x3.toNat)).toNat) = (-1)) → Q 0 M4)))))
def wpe_X9_isUnmarked (o : Nat) (p0 : Int) (po1 pk1 pn1 : Nat) (M : Mem) (J7 : Int → Mem → Prop) (Q : Int → Mem → Prop) : Prop := ((0 : Int) ≤ p0 ∧ p0 < 12) ∧ (∀ y2 : Int, y2 = (M o 5 p0.toNat) → J7 y2 M)
def wp_X9_isUnmarked (M : Mem) (o : Nat) (p0 : Int) (po1 pk1 pn1 : Nat) (Q : Int → Mem → Prop) : Prop := ∃ (I7 : Nat → Int → Mem → Prop), wpe_X9_isUnmarked o p0 po1 pk1 pn1 M (fun (x3 : Int) (M1 : Mem) => ∃ n1 : Nat, I7 n1 x3 M1) Q ∧ (∀ (n : Nat) (x3 : Int) (M : Mem), I7 n x3 M → wph_X9_isUnmarked_7 o p0 po1 pk1 pn1 x3 M (fun (x3 : Int) (M1 : Mem) => ∃ n1 : Nat, n1 < n ∧ I7 n1 x3 M1) Q)
set_option maxHeartbeats 4000000 in
set_option maxRecDepth 100000 in
theorem wkh_X9_isUnmarked_7 {p : Program} {l : Launch} {e : Env} {s : State} {m : MethodId} {args : Array Value} {below : List Frame} {meth : Method} {c : Code} {D : va_G} {g : GT} {A : Nat → Prop} {a : Nat → Nat} {b : Nat → Nat → Nat} (X : vC p s m args meth c D g A RX9 wsX9_isUnmarked cX9_isUnmarked 4) (hr : meth.sig.returnType = (some .boolean)) {o : Nat} {p0 : Int} {po1 pk1 pn1 : Nat} (ho : isT o) {pq1 : Nat} (ha1 : isArr pq1 po1 pk1 pn1) {x3 : Int} {M : Mem} {J7 : Int → Mem → Prop} {Q : Int → Mem → Prop} (hJ7 : ∀ (x3 : Int) (M : Mem), J7 x3 M → vV p l e ({ frames := 1, cells := 0, slots := 0, locals := 21 } : Room) s m args below meth c D g A a b 4 0 0 (MQ below (cQi D g A a b Q) args s 0 0 A) M [(0, .ref (a o)), (1, iv p0), (2, .ref (b po1 pk1)), (3, iv x3)] 7 []) (hw : wph_X9_isUnmarked_7 o p0 po1 pk1 pn1 x3 M J7 Q) : vV p l e ({ frames := 1, cells := 0, slots := 0, locals := 21 } : Room) s m args below meth c D g A a b 4 0 0 (MQ below (cQi D g A a b Q) args s 0 0 A) M [(0, .ref (a o)), (1, iv p0), (2, .ref (b po1 pk1)), (3, iv x3)] 7 [] := by
  unfold wph_X9_isUnmarked_7 at hw
  refine V_iload_n X dX9_isUnmarked_7 rfl (q := 3) rfl ?_
  refine V_aload_n X dX9_isUnmarked_8 rfl (q := 0) rfl ?_
  refine V_iload_n X dX9_isUnmarked_9 rfl (q := 1) rfl ?_
  refine V_callV_i X _ (gTO ho) rfl (As := [iv p0]) (st := [iv x3]) (c_X9_endOf l ho hw) (cwV 1 X.2.2.2.1 gX9_isUnmarked_X9_endOf rfl rfl rfl (by decide +kernel) ⟨Nat.le_of_ble_eq_true rfl, Nat.le_of_ble_eq_true rfl⟩) rfl (Nat.le_of_ble_eq_true rfl) ⟨Nat.le_of_ble_eq_true rfl, Nat.le_of_ble_eq_true rfl⟩ rfl dX9_isUnmarked_10 (fun y3 M4 hw => ?_)
  obtain ⟨h5, h6, hw⟩ := hw
  refine V_icmp_ge (tgt := 36) X h5 h6 dX9_isUnmarked_13 (by decide) (fun q7 => ?_) (fun q7 => ?_)
  · have hw := hw.1 q7
    refine V_iconst X dX9_isUnmarked_36 ?_
    exact V_zret X hr (by decide) hw dX9_isUnmarked_37
  · have hw := hw.2 q7
    refine V_aload_n X dX9_isUnmarked_16 rfl (q := 2) rfl ?_
    refine V_aload_n X dX9_isUnmarked_17 rfl (q := 0) rfl ?_
    refine V_get (C := RX9) (T := TX9) (N := 9) (ci := 9) X hi_X9_isUnmarked_9 (gTO ho) rfl 3 (by decide) lk_X9_isUnmarked_f21 (fun _ h9 => h9) rfl dX9_isUnmarked_18 ?_
    refine V_iload_n X dX9_isUnmarked_21 rfl (q := 3) rfl ?_
    obtain ⟨h8, hw⟩ := hw
    refine V_iald X ((gT_3 ho)) h8 (by decide) dX9_isUnmarked_22 ?_
    obtain ⟨h9, hw⟩ := hw
    refine V_iald X (ha1.1 _ _ _ _) h9 ha1.2.2 dX9_isUnmarked_23 ?_
    refine V_iconst X dX9_isUnmarked_24 ?_
    obtain ⟨h10, hw⟩ := hw
    refine V_icmp_eq (tgt := 30) X h10 ⟨by decide, by decide⟩ dX9_isUnmarked_25 (by decide) (fun q11 => ?_) (fun q11 => ?_)
    · have hw := hw.1 q11
      refine V_iinc (lv1 := [(0, .ref (a o)), (1, iv p0), (2, .ref (b po1 pk1)), (3, iv (x3 + 1))]) X [1, 2, 3, 0] dX9_isUnmarked_30 (q := 3) rfl (by decide) rfl ?_
      refine V_goto (tgt := 7) X dX9_isUnmarked_33 (by decide) ?_
      exact hJ7 _ _ hw
    · have hw := hw.2 q11
      refine V_iconst X dX9_isUnmarked_28 ?_
      exact V_zret X hr (by decide) hw dX9_isUnmarked_29
set_option maxHeartbeats 4000000 in
set_option maxRecDepth 100000 in
theorem wke_X9_isUnmarked {p : Program} {l : Launch} {e : Env} {s : State} {m : MethodId} {args : Array Value} {below : List Frame} {meth : Method} {c : Code} {D : va_G} {g : GT} {A : Nat → Prop} {a : Nat → Nat} {b : Nat → Nat → Nat} (X : vC p s m args meth c D g A RX9 wsX9_isUnmarked cX9_isUnmarked 4) (hr : meth.sig.returnType = (some .boolean)) {o : Nat} {p0 : Int} {po1 pk1 pn1 : Nat} (ho : isT o) {pq1 : Nat} (ha1 : isArr pq1 po1 pk1 pn1) {M : Mem} {J7 : Int → Mem → Prop} {Q : Int → Mem → Prop} (hJ7 : ∀ (x3 : Int) (M : Mem), J7 x3 M → vV p l e ({ frames := 1, cells := 0, slots := 0, locals := 21 } : Room) s m args below meth c D g A a b 4 0 0 (MQ below (cQi D g A a b Q) args s 0 0 A) M [(0, .ref (a o)), (1, iv p0), (2, .ref (b po1 pk1)), (3, iv x3)] 7 []) (hw : wpe_X9_isUnmarked o p0 po1 pk1 pn1 M J7 Q) : vV p l e ({ frames := 1, cells := 0, slots := 0, locals := 21 } : Room) s m args below meth c D g A a b 4 0 0 (MQ below (cQi D g A a b Q) args s 0 0 A) M [(0, .ref (a o)), (1, iv p0), (2, .ref (b po1 pk1))] 0 [] := by
  unfold wpe_X9_isUnmarked at hw
  refine V_aload_n X dX9_isUnmarked_0 rfl (q := 0) rfl ?_
  refine V_get (C := RX9) (T := TX9) (N := 9) (ci := 9) X hi_X9_isUnmarked_9 (gTO ho) rfl 5 (by decide) lk_X9_isUnmarked_f27 (fun _ h9 => h9) rfl dX9_isUnmarked_1 ?_
  refine V_iload_n X dX9_isUnmarked_4 rfl (q := 1) rfl ?_
  obtain ⟨h1, hw⟩ := hw
  refine V_iald X ((gT_5 ho)) h1 (by decide) dX9_isUnmarked_5 ?_
  refine V_top (fun y2 ey2 => ?_)
  have hw := hw y2 ey2
  refine V_istore_n (lv1 := [(0, .ref (a o)), (1, iv p0), (2, .ref (b po1 pk1)), (3, iv y2)]) X [1, 2, 3, 0] dX9_isUnmarked_6 rfl (by decide) rfl ?_
  exact hJ7 _ _ hw
set_option maxHeartbeats 4000000 in
set_option maxRecDepth 100000 in
theorem c_X9_isUnmarked (l : Launch) {o : Nat} {p0 : Int} {po1 pk1 pn1 : Nat} (ho : isT o) {pq1 : Nat} (ha1 : isArr pq1 po1 pk1 pn1) {D : va_G} {g : GT} {A : Nat → Prop} {a : Nat → Nat} {b : Nat → Nat → Nat} {M : Mem} {Q : Int → Mem → Prop} (hw : wp_X9_isUnmarked M o p0 po1 pk1 pn1 Q) : Met l yX9_isUnmarked wsX9_isUnmarked ({ frames := 1, cells := 0, slots := 0, locals := 21 } : Room) (cPc D g A a b M [.ref (a o), iv p0, .ref (b po1 pk1)]) (cQi D g A a b Q) 0 0 A := by
  refine Met.ofW (cc := cX9_isUnmarked) (maxL := 4) (ret := (some .boolean)) (by decide) rfl ?_
  intro p e s m args below meth c s₁ B hml hv
  obtain ⟨rfl, hP, hD, hG⟩ := hv
  have X : vC p s m _ meth c D g A RX9 wsX9_isUnmarked cX9_isUnmarked 4 := ⟨B.exec, B.bytes, findClass_of_methodNamed B.named, atoms_spec (ws := wsX9_isUnmarked) B.pre, hG, hml, B.notSynchronized⟩
  have hr := B.returns
  have hl := lv_entry ([.ref (a o), iv p0, .ref (b po1 pk1)]) (n := 4) (Nat.le_of_ble_eq_true rfl)
  rw [lg_entry_eq]
  generalize (lg_sl ([.ref (a o), iv p0, .ref (b po1 pk1)]) ++ List.replicate (4 - (lg_sl ([.ref (a o), iv p0, .ref (b po1 pk1)])).length) Slot.unset).toArray = ls at hl ⊢
  have hl : lv_has ls 4 [(0, .ref (a o)), (1, iv p0), (2, .ref (b po1 pk1))] := hl
  obtain ⟨I7, hw, hI7⟩ := hw
  have K : ∀ n : Nat, (∀ (x3 : Int) (M : Mem), I7 n x3 M → vV p l e ({ frames := 1, cells := 0, slots := 0, locals := 21 } : Room) s m ([.ref (a o), iv p0, .ref (b po1 pk1)] : List Value).toArray below meth c D g A a b 4 0 0 (MQ below (cQi D g A a b Q) ([.ref (a o), iv p0, .ref (b po1 pk1)] : List Value).toArray s 0 0 A) M [(0, .ref (a o)), (1, iv p0), (2, .ref (b po1 pk1)), (3, iv x3)] 7 []) := by
    intro n
    induction n using Nat.strongRecOn with
    | ind n ih =>
      exact fun x3 M hh => wkh_X9_isUnmarked_7 X hr ho ha1 (fun _ _ ⟨n1, hn, hh⟩ => (ih n1 hn) _ _ hh) (hI7 n x3 M hh)
  exact wke_X9_isUnmarked X hr ho ha1 (fun _ _ ⟨n1, hh⟩ => (K n1) _ _ hh) hw s.heap [] ls hP hD va_S.rf hl
