theorem dX11_lays_0 : decode cX11_lays 0 = .ok (.bipush 12, 2) := by decide +kernel
theorem dX11_lays_2 : decode cX11_lays 2 = .ok (.iload_n 1, 1) := by decide +kernel
theorem dX11_lays_3 : decode cX11_lays 3 = .ok (.imul, 1) := by decide +kernel
theorem dX11_lays_4 : decode cX11_lays 4 = .ok (.istore 7, 2) := by decide +kernel
theorem dX11_lays_6 : decode cX11_lays 6 = .ok (.iload 7, 2) := by decide +kernel
theorem dX11_lays_8 : decode cX11_lays 8 = .ok (.aload_n 0, 1) := by decide +kernel
theorem dX11_lays_9 : decode cX11_lays 9 = .ok (.getfield 25, 3) := by decide +kernel
theorem dX11_lays_12 : decode cX11_lays 12 = .ok (.iload_n 1, 1) := by decide +kernel
theorem dX11_lays_13 : decode cX11_lays 13 = .ok (.iaload, 1) := by decide +kernel
theorem dX11_lays_14 : decode cX11_lays 14 = .ok (.iadd, 1) := by decide +kernel
theorem dX11_lays_15 : decode cX11_lays 15 = .ok (.istore 8, 2) := by decide +kernel
theorem dX11_lays_17 : decode cX11_lays 17 = .ok (.iload 8, 2) := by decide +kernel
theorem dX11_lays_19 : decode cX11_lays 19 = .ok (.iload 7, 2) := by decide +kernel
theorem dX11_lays_21 : decode cX11_lays 21 = .ok (.iload_n 2, 1) := by decide +kernel
theorem dX11_lays_22 : decode cX11_lays 22 = .ok (.iadd, 1) := by decide +kernel
theorem dX11_lays_23 : decode cX11_lays 23 = .ok (.if_icmp .le 73, 3) := by decide +kernel
theorem dX11_lays_26 : decode cX11_lays 26 = .ok (.aload_n 0, 1) := by decide +kernel
theorem dX11_lays_27 : decode cX11_lays 27 = .ok (.getfield 7, 3) := by decide +kernel
theorem dX11_lays_30 : decode cX11_lays 30 = .ok (.iload 8, 2) := by decide +kernel
theorem dX11_lays_32 : decode cX11_lays 32 = .ok (.aload_n 0, 1) := by decide +kernel
theorem dX11_lays_33 : decode cX11_lays 33 = .ok (.getfield 7, 3) := by decide +kernel
theorem dX11_lays_36 : decode cX11_lays 36 = .ok (.iload 8, 2) := by decide +kernel
theorem dX11_lays_38 : decode cX11_lays 38 = .ok (.iconst 1, 1) := by decide +kernel
theorem dX11_lays_39 : decode cX11_lays 39 = .ok (.isub, 1) := by decide +kernel
theorem dX11_lays_40 : decode cX11_lays 40 = .ok (.iaload, 1) := by decide +kernel
theorem dX11_lays_41 : decode cX11_lays 41 = .ok (.iastore, 1) := by decide +kernel
theorem dX11_lays_42 : decode cX11_lays 42 = .ok (.aload_n 0, 1) := by decide +kernel
theorem dX11_lays_43 : decode cX11_lays 43 = .ok (.getfield 13, 3) := by decide +kernel
theorem dX11_lays_46 : decode cX11_lays 46 = .ok (.iload 8, 2) := by decide +kernel
theorem dX11_lays_48 : decode cX11_lays 48 = .ok (.aload_n 0, 1) := by decide +kernel
theorem dX11_lays_49 : decode cX11_lays 49 = .ok (.getfield 13, 3) := by decide +kernel
theorem dX11_lays_52 : decode cX11_lays 52 = .ok (.iload 8, 2) := by decide +kernel
theorem dX11_lays_54 : decode cX11_lays 54 = .ok (.iconst 1, 1) := by decide +kernel
theorem dX11_lays_55 : decode cX11_lays 55 = .ok (.isub, 1) := by decide +kernel
theorem dX11_lays_56 : decode cX11_lays 56 = .ok (.iaload, 1) := by decide +kernel
theorem dX11_lays_57 : decode cX11_lays 57 = .ok (.iastore, 1) := by decide +kernel
theorem dX11_lays_58 : decode cX11_lays 58 = .ok (.aload_n 0, 1) := by decide +kernel
theorem dX11_lays_59 : decode cX11_lays 59 = .ok (.getfield 16, 3) := by decide +kernel
theorem dX11_lays_62 : decode cX11_lays 62 = .ok (.iload 8, 2) := by decide +kernel
theorem dX11_lays_64 : decode cX11_lays 64 = .ok (.aload_n 0, 1) := by decide +kernel
theorem dX11_lays_65 : decode cX11_lays 65 = .ok (.getfield 16, 3) := by decide +kernel
theorem dX11_lays_68 : decode cX11_lays 68 = .ok (.iload 8, 2) := by decide +kernel
theorem dX11_lays_70 : decode cX11_lays 70 = .ok (.iconst 1, 1) := by decide +kernel
theorem dX11_lays_71 : decode cX11_lays 71 = .ok (.isub, 1) := by decide +kernel
theorem dX11_lays_72 : decode cX11_lays 72 = .ok (.iaload, 1) := by decide +kernel
theorem dX11_lays_73 : decode cX11_lays 73 = .ok (.iastore, 1) := by decide +kernel
theorem dX11_lays_74 : decode cX11_lays 74 = .ok (.aload_n 0, 1) := by decide +kernel
theorem dX11_lays_75 : decode cX11_lays 75 = .ok (.getfield 19, 3) := by decide +kernel
theorem dX11_lays_78 : decode cX11_lays 78 = .ok (.iload 8, 2) := by decide +kernel
theorem dX11_lays_80 : decode cX11_lays 80 = .ok (.aload_n 0, 1) := by decide +kernel
theorem dX11_lays_81 : decode cX11_lays 81 = .ok (.getfield 19, 3) := by decide +kernel
theorem dX11_lays_84 : decode cX11_lays 84 = .ok (.iload 8, 2) := by decide +kernel
theorem dX11_lays_86 : decode cX11_lays 86 = .ok (.iconst 1, 1) := by decide +kernel
theorem dX11_lays_87 : decode cX11_lays 87 = .ok (.isub, 1) := by decide +kernel
theorem dX11_lays_88 : decode cX11_lays 88 = .ok (.iaload, 1) := by decide +kernel
theorem dX11_lays_89 : decode cX11_lays 89 = .ok (.iastore, 1) := by decide +kernel
theorem dX11_lays_90 : decode cX11_lays 90 = .ok (.iinc 8 (-1), 3) := by decide +kernel
theorem dX11_lays_93 : decode cX11_lays 93 = .ok (.goto (-76), 3) := by decide +kernel
theorem dX11_lays_96 : decode cX11_lays 96 = .ok (.aload_n 0, 1) := by decide +kernel
theorem dX11_lays_97 : decode cX11_lays 97 = .ok (.getfield 7, 3) := by decide +kernel
theorem dX11_lays_100 : decode cX11_lays 100 = .ok (.iload 7, 2) := by decide +kernel
theorem dX11_lays_102 : decode cX11_lays 102 = .ok (.iload_n 2, 1) := by decide +kernel
theorem dX11_lays_103 : decode cX11_lays 103 = .ok (.iadd, 1) := by decide +kernel
theorem dX11_lays_104 : decode cX11_lays 104 = .ok (.iload_n 3, 1) := by decide +kernel
theorem dX11_lays_105 : decode cX11_lays 105 = .ok (.iastore, 1) := by decide +kernel
theorem dX11_lays_106 : decode cX11_lays 106 = .ok (.aload_n 0, 1) := by decide +kernel
theorem dX11_lays_107 : decode cX11_lays 107 = .ok (.getfield 13, 3) := by decide +kernel
theorem dX11_lays_110 : decode cX11_lays 110 = .ok (.iload 7, 2) := by decide +kernel
theorem dX11_lays_112 : decode cX11_lays 112 = .ok (.iload_n 2, 1) := by decide +kernel
theorem dX11_lays_113 : decode cX11_lays 113 = .ok (.iadd, 1) := by decide +kernel
theorem dX11_lays_114 : decode cX11_lays 114 = .ok (.iload 4, 2) := by decide +kernel
theorem dX11_lays_116 : decode cX11_lays 116 = .ok (.iastore, 1) := by decide +kernel
theorem dX11_lays_117 : decode cX11_lays 117 = .ok (.aload_n 0, 1) := by decide +kernel
theorem dX11_lays_118 : decode cX11_lays 118 = .ok (.getfield 16, 3) := by decide +kernel
theorem dX11_lays_121 : decode cX11_lays 121 = .ok (.iload 7, 2) := by decide +kernel
theorem dX11_lays_123 : decode cX11_lays 123 = .ok (.iload_n 2, 1) := by decide +kernel
theorem dX11_lays_124 : decode cX11_lays 124 = .ok (.iadd, 1) := by decide +kernel
theorem dX11_lays_125 : decode cX11_lays 125 = .ok (.iload 5, 2) := by decide +kernel
theorem dX11_lays_127 : decode cX11_lays 127 = .ok (.iastore, 1) := by decide +kernel
theorem dX11_lays_128 : decode cX11_lays 128 = .ok (.aload_n 0, 1) := by decide +kernel
theorem dX11_lays_129 : decode cX11_lays 129 = .ok (.getfield 19, 3) := by decide +kernel
theorem dX11_lays_132 : decode cX11_lays 132 = .ok (.iload 7, 2) := by decide +kernel
theorem dX11_lays_134 : decode cX11_lays 134 = .ok (.iload_n 2, 1) := by decide +kernel
theorem dX11_lays_135 : decode cX11_lays 135 = .ok (.iadd, 1) := by decide +kernel
theorem dX11_lays_136 : decode cX11_lays 136 = .ok (.iload 6, 2) := by decide +kernel
theorem dX11_lays_138 : decode cX11_lays 138 = .ok (.iastore, 1) := by decide +kernel
theorem dX11_lays_139 : decode cX11_lays 139 = .ok (.aload_n 0, 1) := by decide +kernel
theorem dX11_lays_140 : decode cX11_lays 140 = .ok (.getfield 25, 3) := by decide +kernel
theorem dX11_lays_143 : decode cX11_lays 143 = .ok (.iload_n 1, 1) := by decide +kernel
theorem dX11_lays_144 : decode cX11_lays 144 = .ok (.dup2, 1) := by decide +kernel
theorem dX11_lays_145 : decode cX11_lays 145 = .ok (.iaload, 1) := by decide +kernel
theorem dX11_lays_146 : decode cX11_lays 146 = .ok (.iconst 1, 1) := by decide +kernel
theorem dX11_lays_147 : decode cX11_lays 147 = .ok (.iadd, 1) := by decide +kernel
theorem dX11_lays_148 : decode cX11_lays 148 = .ok (.iastore, 1) := by decide +kernel
theorem dX11_lays_149 : decode cX11_lays 149 = .ok (.return_, 1) := by decide +kernel
theorem lk_X11_lays_f25 : Cond.fieldLink RX11 25 "TreeComparerModel" "many" "[I" ∈ wsX11_lays := by decide +kernel
theorem hi_X11_lays_11 : ∀ w ∈ u_ws RX11 TX11 24, w ∈ wsX11_lays := by decide +kernel
theorem lk_X11_lays_f7 : Cond.fieldLink RX11 7 "TreeComparerModel" "node" "[I" ∈ wsX11_lays := by decide +kernel
theorem lk_X11_lays_f13 : Cond.fieldLink RX11 13 "TreeComparerModel" "level" "[I" ∈ wsX11_lays := by decide +kernel
theorem lk_X11_lays_f16 : Cond.fieldLink RX11 16 "TreeComparerModel" "kind" "[I" ∈ wsX11_lays := by decide +kernel
theorem lk_X11_lays_f19 : Cond.fieldLink RX11 19 "TreeComparerModel" "label" "[I" ∈ wsX11_lays := by decide +kernel
def wph_X11_lays_17 (p0 : Int) (p1 : Int) (p2 : Int) (p3 : Int) (p4 : Int) (p5 : Int) (x7 : Int) (x8 : Int) (M : Mem) (J17 : Int → Int → Mem → Prop) (Q : Mem → Prop) : Prop := inR x8 ∧ inR (x7 + p1) ∧ ((x8 ≤ x7 + p1 → ((0 : Int) ≤ x7 + p1 ∧ x7 + p1 < 24) ∧ (∀ M7 : Mem, M7 = mset M 13 0 (x7 + p1).toNat p2 → ((0 : Int) ≤ x7 + p1 ∧ x7 + p1 < 24) ∧ (∀ M9 : Mem, M9 = mset M7 13 1 (x7 + p1).toNat p3 → ((0 : Int) ≤ x7 + p1 ∧ x7 + p1 < 24) ∧ (∀ M11 : Mem, M11 = mset M9 13 2 (x7 + p1).toNat p4 → ((0 : Int) ≤ x7 + p1 ∧ x7 + p1 < 24) ∧ (∀ M13 : Mem, M13 = mset M11 13 3 (x7 + p1).toNat p5 → ((0 : Int) ≤ p0 ∧ p0 < 2) ∧ ((0 : Int) ≤ p0 ∧ p0 < 2) ∧ (∀ M16 : Mem, M16 = mset M13 13 5 p0.toNat ((M13 13 5 p0.toNat) + 1) → Q M16)))))) ∧ (¬ (x8 ≤ x7 + p1) → ((0 : Int) ≤ x8 - 1 ∧ x8 - 1 < 24) ∧ ((0 : Int) ≤ x8 ∧ x8 < 24) ∧ (∀ M19 : Mem, M19 = mset M 13 0 x8.toNat ((M 13 0 (x8 - 1).toNat)) → ((0 : Int) ≤ x8 - 1 ∧ x8 - 1 < 24) ∧ ((0 : Int) ≤ x8 ∧ x8 < 24) ∧ (∀ M22 : Mem, M22 = mset M19 13 1 x8.toNat ((M19 13 1 (x8 - 1).toNat)) → ((0 : Int) ≤ x8 - 1 ∧ x8 - 1 < 24) ∧ ((0 : Int) ≤ x8 ∧ x8 < 24) ∧ (∀ M25 : Mem, M25 = mset M22 13 2 x8.toNat ((M22 13 2 (x8 - 1).toNat)) → ((0 : Int) ≤ x8 - 1 ∧ x8 - 1 < 24) ∧ ((0 : Int) ≤ x8 ∧ x8 < 24) ∧ (∀ M28 : Mem, M28 = mset M25 13 3 x8.toNat ((M25 13 3 (x8 - 1).toNat)) → J17 x7 (x8 + (-1)) M28))))))
def wpe_X11_lays (p0 : Int) (p1 : Int) (p2 : Int) (p3 : Int) (p4 : Int) (p5 : Int) (M : Mem) (J17 : Int → Int → Mem → Prop) (Q : Mem → Prop) : Prop := (∀ y1 : Int, y1 = 12 * p0 → ((0 : Int) ≤ p0 ∧ p0 < 2) ∧ (∀ y3 : Int, y3 = y1 + (M 13 5 p0.toNat) → J17 y1 y3 M))
def wp_X11_lays (M : Mem) (p0 : Int) (p1 : Int) (p2 : Int) (p3 : Int) (p4 : Int) (p5 : Int) (Q : Mem → Prop) : Prop := ∃ (I17 : Nat → Int → Int → Mem → Prop), wpe_X11_lays p0 p1 p2 p3 p4 p5 M (fun (x7 : Int) (x8 : Int) (M1 : Mem) => ∃ n1 : Nat, I17 n1 x7 x8 M1) Q ∧ (∀ (n : Nat) (x7 : Int) (x8 : Int) (M : Mem), I17 n x7 x8 M → wph_X11_lays_17 p0 p1 p2 p3 p4 p5 x7 x8 M (fun (x7 : Int) (x8 : Int) (M1 : Mem) => ∃ n1 : Nat, n1 < n ∧ I17 n1 x7 x8 M1) Q)
set_option maxHeartbeats 4000000 in
set_option maxRecDepth 100000 in
theorem wkh_X11_lays_17 {p : Program} {l : Launch} {e : Env} {s : State} {m : MethodId} {args : Array Value} {below : List Frame} {meth : Method} {c : Code} {D : va_G} {g : GT} {A : Nat → Prop} {a : Nat → Nat} {b : Nat → Nat → Nat} (X : vC p s m args meth c D g A RX11 wsX11_lays cX11_lays 9) (hr : meth.sig.returnType = none) {p0 : Int} {p1 : Int} {p2 : Int} {p3 : Int} {p4 : Int} {p5 : Int} {x7 : Int} {x8 : Int} {M : Mem} {J17 : Int → Int → Mem → Prop} {Q : Mem → Prop} (hJ17 : ∀ (x7 : Int) (x8 : Int) (M : Mem), J17 x7 x8 M → vV p l e ({ frames := 0, cells := 0, slots := 0, locals := 0 } : Room) s m args below meth c D g A a b 9 0 0 (MQ below (cQv D g A a b Q) args s 0 0 A) M [(0, .ref (a 13)), (1, iv p0), (2, iv p1), (3, iv p2), (4, iv p3), (5, iv p4), (6, iv p5), (7, iv x7), (8, iv x8)] 17 []) (hw : wph_X11_lays_17 p0 p1 p2 p3 p4 p5 x7 x8 M J17 Q) : vV p l e ({ frames := 0, cells := 0, slots := 0, locals := 0 } : Room) s m args below meth c D g A a b 9 0 0 (MQ below (cQv D g A a b Q) args s 0 0 A) M [(0, .ref (a 13)), (1, iv p0), (2, iv p1), (3, iv p2), (4, iv p3), (5, iv p4), (6, iv p5), (7, iv x7), (8, iv x8)] 17 [] := by
  unfold wph_X11_lays_17 at hw
  refine V_iload X dX11_lays_17 (q := 8) rfl ?_
  refine V_iload X dX11_lays_19 (q := 7) rfl ?_
  refine V_iload_n X dX11_lays_21 rfl (q := 2) rfl ?_
  refine V_iadd X dX11_lays_22 ?_
  obtain ⟨h4, h5, hw⟩ := hw
  refine V_icmp_le (tgt := 96) X h4 h5 dX11_lays_23 (by decide) (fun q6 => ?_) (fun q6 => ?_)
  · have hw := hw.1 q6
    refine V_aload_n X dX11_lays_96 rfl (q := 0) rfl ?_
    refine V_get (C := RX11) (T := TX11) (N := 24) (ci := 11) X hi_X11_lays_11 gO_13 rfl 0 (by decide) lk_X11_lays_f7 (fun _ h9 => h9) rfl dX11_lays_97 ?_
    refine V_iload X dX11_lays_100 (q := 7) rfl ?_
    refine V_iload_n X dX11_lays_102 rfl (q := 2) rfl ?_
    refine V_iadd X dX11_lays_103 ?_
    refine V_iload_n X dX11_lays_104 rfl (q := 3) rfl ?_
    obtain ⟨h8, hw⟩ := hw
    refine V_iast X (gA_13_0) (sA_13_0) h8 (by decide) dX11_lays_105 (fun M7 eM7 => ?_)
    have hw := hw M7 eM7
    refine V_aload_n X dX11_lays_106 rfl (q := 0) rfl ?_
    refine V_get (C := RX11) (T := TX11) (N := 24) (ci := 11) X hi_X11_lays_11 gO_13 rfl 1 (by decide) lk_X11_lays_f13 (fun _ h9 => h9) rfl dX11_lays_107 ?_
    refine V_iload X dX11_lays_110 (q := 7) rfl ?_
    refine V_iload_n X dX11_lays_112 rfl (q := 2) rfl ?_
    refine V_iadd X dX11_lays_113 ?_
    refine V_iload X dX11_lays_114 (q := 4) rfl ?_
    obtain ⟨h10, hw⟩ := hw
    refine V_iast X (gA_13_1) (sA_13_1) h10 (by decide) dX11_lays_116 (fun M9 eM9 => ?_)
    have hw := hw M9 eM9
    refine V_aload_n X dX11_lays_117 rfl (q := 0) rfl ?_
    refine V_get (C := RX11) (T := TX11) (N := 24) (ci := 11) X hi_X11_lays_11 gO_13 rfl 2 (by decide) lk_X11_lays_f16 (fun _ h9 => h9) rfl dX11_lays_118 ?_
    refine V_iload X dX11_lays_121 (q := 7) rfl ?_
    refine V_iload_n X dX11_lays_123 rfl (q := 2) rfl ?_
    refine V_iadd X dX11_lays_124 ?_
    refine V_iload X dX11_lays_125 (q := 5) rfl ?_
    obtain ⟨h12, hw⟩ := hw
    refine V_iast X (gA_13_2) (sA_13_2) h12 (by decide) dX11_lays_127 (fun M11 eM11 => ?_)
    have hw := hw M11 eM11
    refine V_aload_n X dX11_lays_128 rfl (q := 0) rfl ?_
    refine V_get (C := RX11) (T := TX11) (N := 24) (ci := 11) X hi_X11_lays_11 gO_13 rfl 3 (by decide) lk_X11_lays_f19 (fun _ h9 => h9) rfl dX11_lays_129 ?_
    refine V_iload X dX11_lays_132 (q := 7) rfl ?_
    refine V_iload_n X dX11_lays_134 rfl (q := 2) rfl ?_
    refine V_iadd X dX11_lays_135 ?_
    refine V_iload X dX11_lays_136 (q := 6) rfl ?_
    obtain ⟨h14, hw⟩ := hw
    refine V_iast X (gA_13_3) (sA_13_3) h14 (by decide) dX11_lays_138 (fun M13 eM13 => ?_)
    have hw := hw M13 eM13
    refine V_aload_n X dX11_lays_139 rfl (q := 0) rfl ?_
    refine V_get (C := RX11) (T := TX11) (N := 24) (ci := 11) X hi_X11_lays_11 gO_13 rfl 5 (by decide) lk_X11_lays_f25 (fun _ h9 => h9) rfl dX11_lays_140 ?_
    refine V_iload_n X dX11_lays_143 rfl (q := 1) rfl ?_
    refine V_dup2 X dX11_lays_144 rfl rfl ?_
    obtain ⟨h15, hw⟩ := hw
    refine V_iald X (gA_13_5) h15 (by decide) dX11_lays_145 ?_
    refine V_iconst X dX11_lays_146 ?_
    refine V_iadd X dX11_lays_147 ?_
    obtain ⟨h17, hw⟩ := hw
    refine V_iast X (gA_13_5) (sA_13_5) h17 (by decide) dX11_lays_148 (fun M16 eM16 => ?_)
    have hw := hw M16 eM16
    exact V_vret X hr hw dX11_lays_149
  · have hw := hw.2 q6
    refine V_aload_n X dX11_lays_26 rfl (q := 0) rfl ?_
    refine V_get (C := RX11) (T := TX11) (N := 24) (ci := 11) X hi_X11_lays_11 gO_13 rfl 0 (by decide) lk_X11_lays_f7 (fun _ h9 => h9) rfl dX11_lays_27 ?_
    refine V_iload X dX11_lays_30 (q := 8) rfl ?_
    refine V_aload_n X dX11_lays_32 rfl (q := 0) rfl ?_
    refine V_get (C := RX11) (T := TX11) (N := 24) (ci := 11) X hi_X11_lays_11 gO_13 rfl 0 (by decide) lk_X11_lays_f7 (fun _ h9 => h9) rfl dX11_lays_33 ?_
    refine V_iload X dX11_lays_36 (q := 8) rfl ?_
    refine V_iconst X dX11_lays_38 ?_
    refine V_isub X dX11_lays_39 ?_
    obtain ⟨h18, hw⟩ := hw
    refine V_iald X (gA_13_0) h18 (by decide) dX11_lays_40 ?_
    obtain ⟨h20, hw⟩ := hw
    refine V_iast X (gA_13_0) (sA_13_0) h20 (by decide) dX11_lays_41 (fun M19 eM19 => ?_)
    have hw := hw M19 eM19
    refine V_aload_n X dX11_lays_42 rfl (q := 0) rfl ?_
    refine V_get (C := RX11) (T := TX11) (N := 24) (ci := 11) X hi_X11_lays_11 gO_13 rfl 1 (by decide) lk_X11_lays_f13 (fun _ h9 => h9) rfl dX11_lays_43 ?_
    refine V_iload X dX11_lays_46 (q := 8) rfl ?_
    refine V_aload_n X dX11_lays_48 rfl (q := 0) rfl ?_
    refine V_get (C := RX11) (T := TX11) (N := 24) (ci := 11) X hi_X11_lays_11 gO_13 rfl 1 (by decide) lk_X11_lays_f13 (fun _ h9 => h9) rfl dX11_lays_49 ?_
    refine V_iload X dX11_lays_52 (q := 8) rfl ?_
    refine V_iconst X dX11_lays_54 ?_
    refine V_isub X dX11_lays_55 ?_
    obtain ⟨h21, hw⟩ := hw
    refine V_iald X (gA_13_1) h21 (by decide) dX11_lays_56 ?_
    obtain ⟨h23, hw⟩ := hw
    refine V_iast X (gA_13_1) (sA_13_1) h23 (by decide) dX11_lays_57 (fun M22 eM22 => ?_)
    have hw := hw M22 eM22
    refine V_aload_n X dX11_lays_58 rfl (q := 0) rfl ?_
    refine V_get (C := RX11) (T := TX11) (N := 24) (ci := 11) X hi_X11_lays_11 gO_13 rfl 2 (by decide) lk_X11_lays_f16 (fun _ h9 => h9) rfl dX11_lays_59 ?_
    refine V_iload X dX11_lays_62 (q := 8) rfl ?_
    refine V_aload_n X dX11_lays_64 rfl (q := 0) rfl ?_
    refine V_get (C := RX11) (T := TX11) (N := 24) (ci := 11) X hi_X11_lays_11 gO_13 rfl 2 (by decide) lk_X11_lays_f16 (fun _ h9 => h9) rfl dX11_lays_65 ?_
    refine V_iload X dX11_lays_68 (q := 8) rfl ?_
    refine V_iconst X dX11_lays_70 ?_
    refine V_isub X dX11_lays_71 ?_
    obtain ⟨h24, hw⟩ := hw
    refine V_iald X (gA_13_2) h24 (by decide) dX11_lays_72 ?_
    obtain ⟨h26, hw⟩ := hw
    refine V_iast X (gA_13_2) (sA_13_2) h26 (by decide) dX11_lays_73 (fun M25 eM25 => ?_)
    have hw := hw M25 eM25
    refine V_aload_n X dX11_lays_74 rfl (q := 0) rfl ?_
    refine V_get (C := RX11) (T := TX11) (N := 24) (ci := 11) X hi_X11_lays_11 gO_13 rfl 3 (by decide) lk_X11_lays_f19 (fun _ h9 => h9) rfl dX11_lays_75 ?_
    refine V_iload X dX11_lays_78 (q := 8) rfl ?_
    refine V_aload_n X dX11_lays_80 rfl (q := 0) rfl ?_
    refine V_get (C := RX11) (T := TX11) (N := 24) (ci := 11) X hi_X11_lays_11 gO_13 rfl 3 (by decide) lk_X11_lays_f19 (fun _ h9 => h9) rfl dX11_lays_81 ?_
    refine V_iload X dX11_lays_84 (q := 8) rfl ?_
    refine V_iconst X dX11_lays_86 ?_
    refine V_isub X dX11_lays_87 ?_
    obtain ⟨h27, hw⟩ := hw
    refine V_iald X (gA_13_3) h27 (by decide) dX11_lays_88 ?_
    obtain ⟨h29, hw⟩ := hw
    refine V_iast X (gA_13_3) (sA_13_3) h29 (by decide) dX11_lays_89 (fun M28 eM28 => ?_)
    have hw := hw M28 eM28
    refine V_iinc (lv1 := [(0, .ref (a 13)), (1, iv p0), (2, iv p1), (3, iv p2), (4, iv p3), (5, iv p4), (6, iv p5), (7, iv x7), (8, iv (x8 + (-1)))]) X [1, 2, 3, 4, 5, 6, 7, 8, 0] dX11_lays_90 (q := 8) rfl (by decide) rfl ?_
    refine V_goto (tgt := 17) X dX11_lays_93 (by decide) ?_
    exact hJ17 _ _ _ hw
set_option maxHeartbeats 4000000 in
set_option maxRecDepth 100000 in
theorem wke_X11_lays {p : Program} {l : Launch} {e : Env} {s : State} {m : MethodId} {args : Array Value} {below : List Frame} {meth : Method} {c : Code} {D : va_G} {g : GT} {A : Nat → Prop} {a : Nat → Nat} {b : Nat → Nat → Nat} (X : vC p s m args meth c D g A RX11 wsX11_lays cX11_lays 9) (hr : meth.sig.returnType = none) {p0 : Int} {p1 : Int} {p2 : Int} {p3 : Int} {p4 : Int} {p5 : Int} {M : Mem} {J17 : Int → Int → Mem → Prop} {Q : Mem → Prop} (hJ17 : ∀ (x7 : Int) (x8 : Int) (M : Mem), J17 x7 x8 M → vV p l e ({ frames := 0, cells := 0, slots := 0, locals := 0 } : Room) s m args below meth c D g A a b 9 0 0 (MQ below (cQv D g A a b Q) args s 0 0 A) M [(0, .ref (a 13)), (1, iv p0), (2, iv p1), (3, iv p2), (4, iv p3), (5, iv p4), (6, iv p5), (7, iv x7), (8, iv x8)] 17 []) (hw : wpe_X11_lays p0 p1 p2 p3 p4 p5 M J17 Q) : vV p l e ({ frames := 0, cells := 0, slots := 0, locals := 0 } : Room) s m args below meth c D g A a b 9 0 0 (MQ below (cQv D g A a b Q) args s 0 0 A) M [(0, .ref (a 13)), (1, iv p0), (2, iv p1), (3, iv p2), (4, iv p3), (5, iv p4), (6, iv p5)] 0 [] := by
  unfold wpe_X11_lays at hw
  refine V_bipush X dX11_lays_0 rfl ?_
  refine V_iload_n X dX11_lays_2 rfl (q := 1) rfl ?_
  refine V_imul X dX11_lays_3 ?_
  refine V_top (fun y1 ey1 => ?_)
  have hw := hw y1 ey1
  refine V_istore (lv1 := [(0, .ref (a 13)), (1, iv p0), (2, iv p1), (3, iv p2), (4, iv p3), (5, iv p4), (6, iv p5), (7, iv y1)]) X [1, 2, 3, 4, 5, 6, 7, 0] dX11_lays_4 (by decide) rfl ?_
  refine V_iload X dX11_lays_6 (q := 7) rfl ?_
  refine V_aload_n X dX11_lays_8 rfl (q := 0) rfl ?_
  refine V_get (C := RX11) (T := TX11) (N := 24) (ci := 11) X hi_X11_lays_11 gO_13 rfl 5 (by decide) lk_X11_lays_f25 (fun _ h9 => h9) rfl dX11_lays_9 ?_
  refine V_iload_n X dX11_lays_12 rfl (q := 1) rfl ?_
  obtain ⟨h2, hw⟩ := hw
  refine V_iald X (gA_13_5) h2 (by decide) dX11_lays_13 ?_
  refine V_iadd X dX11_lays_14 ?_
  refine V_top (fun y3 ey3 => ?_)
  have hw := hw y3 ey3
  refine V_istore (lv1 := [(0, .ref (a 13)), (1, iv p0), (2, iv p1), (3, iv p2), (4, iv p3), (5, iv p4), (6, iv p5), (7, iv y1), (8, iv y3)]) X [1, 2, 3, 4, 5, 6, 7, 8, 0] dX11_lays_15 (by decide) rfl ?_
  exact hJ17 _ _ _ hw
set_option maxHeartbeats 4000000 in
set_option maxRecDepth 100000 in
theorem c_X11_lays (l : Launch) {p0 : Int} {p1 : Int} {p2 : Int} {p3 : Int} {p4 : Int} {p5 : Int} {D : va_G} {g : GT} {A : Nat → Prop} {a : Nat → Nat} {b : Nat → Nat → Nat} {M : Mem} {Q : Mem → Prop} (hw : wp_X11_lays M p0 p1 p2 p3 p4 p5 Q) : Met l yX11_lays wsX11_lays ({ frames := 0, cells := 0, slots := 0, locals := 0 } : Room) (cPc D g A a b M [.ref (a 13), iv p0, iv p1, iv p2, iv p3, iv p4, iv p5]) (cQv D g A a b Q) 0 0 A := by
  refine Met.ofW (cc := cX11_lays) (maxL := 9) (ret := none) (by decide) rfl ?_
  intro p e s m args below meth c s₁ B hml hv
  obtain ⟨rfl, hP, hD, hG⟩ := hv
  have X : vC p s m _ meth c D g A RX11 wsX11_lays cX11_lays 9 := ⟨B.exec, B.bytes, findClass_of_methodNamed B.named, atoms_spec (ws := wsX11_lays) B.pre, hG, hml, B.notSynchronized⟩
  have hr := B.returns
  have hl := lv_entry ([.ref (a 13), iv p0, iv p1, iv p2, iv p3, iv p4, iv p5]) (n := 9) (Nat.le_of_ble_eq_true rfl)
  rw [lg_entry_eq]
  generalize (lg_sl ([.ref (a 13), iv p0, iv p1, iv p2, iv p3, iv p4, iv p5]) ++ List.replicate (9 - (lg_sl ([.ref (a 13), iv p0, iv p1, iv p2, iv p3, iv p4, iv p5])).length) Slot.unset).toArray = ls at hl ⊢
  have hl : lv_has ls 9 [(0, .ref (a 13)), (1, iv p0), (2, iv p1), (3, iv p2), (4, iv p3), (5, iv p4), (6, iv p5)] := hl
  obtain ⟨I17, hw, hI17⟩ := hw
  have K : ∀ n : Nat, (∀ (x7 : Int) (x8 : Int) (M : Mem), I17 n x7 x8 M → vV p l e ({ frames := 0, cells := 0, slots := 0, locals := 0 } : Room) s m ([.ref (a 13), iv p0, iv p1, iv p2, iv p3, iv p4, iv p5] : List Value).toArray below meth c D g A a b 9 0 0 (MQ below (cQv D g A a b Q) ([.ref (a 13), iv p0, iv p1, iv p2, iv p3, iv p4, iv p5] : List Value).toArray s 0 0 A) M [(0, .ref (a 13)), (1, iv p0), (2, iv p1), (3, iv p2), (4, iv p3), (5, iv p4), (6, iv p5), (7, iv x7), (8, iv x8)] 17 []) := by
    intro n
    induction n using Nat.strongRecOn with
    | ind n ih =>
      exact fun x7 x8 M hh => wkh_X11_lays_17 X hr (fun _ _ _ ⟨n1, hn, hh⟩ => (ih n1 hn) _ _ _ hh) (hI17 n x7 x8 M hh)
  exact wke_X11_lays X hr  (fun _ _ _ ⟨n1, hh⟩ => (K n1) _ _ _ hh) hw s.heap [] ls hP hD va_S.rf hl

set_option maxRecDepth 20000 in
theorem ggX11_addRoot_X11_isTree : GoodIn wsX11_addRoot wsX11_isTree := goodIn_r _ [5, 6, 7, 4, 8] (by decide +kernel) (by decide +kernel)
set_option maxRecDepth 20000 in
theorem gX11_addRoot_X11_isTree : GoodIn wsX11_addRoot (va_wsS RX11 79 yX11_isTree wsX11_isTree) := goodIn_app (goodIn_of _ (by decide +kernel)) ggX11_addRoot_X11_isTree
set_option maxRecDepth 20000 in
theorem ggX11_addRoot_X11_in : GoodIn wsX11_addRoot wsX11_in := goodIn_r _ [8] (by decide +kernel) (by decide +kernel)
set_option maxRecDepth 20000 in
theorem gX11_addRoot_X11_in : GoodIn wsX11_addRoot (va_wsS RX11 75 yX11_in wsX11_in) := goodIn_app (goodIn_of _ (by decide +kernel)) ggX11_addRoot_X11_in
set_option maxRecDepth 20000 in
theorem ggX11_addRoot_X11_goes : GoodIn wsX11_addRoot wsX11_goes := goodIn_r _ [12, 13, 22, 23, 24, 25, 26, 27, 28, 29, 30, 31, 32, 33, 34, 35, 36, 37, 38, 39, 40, 41, 42, 43, 44, 45] (by decide +kernel) (by decide +kernel)
set_option maxRecDepth 20000 in
theorem gX11_addRoot_X11_goes : GoodIn wsX11_addRoot (wsV RX11 87 RX11 yX11_goes wsX11_goes) := goodIn_app (goodIn_of _ (by decide +kernel)) ggX11_addRoot_X11_goes
set_option maxRecDepth 20000 in
theorem ggX11_addRoot_X11_lays : GoodIn wsX11_addRoot wsX11_lays := goodIn_r _ [17, 1, 18, 19, 20, 21, 22, 23, 24, 25, 26, 27, 28, 29, 30, 31, 32, 33, 34, 35, 36, 37, 38, 39, 40, 41, 42, 43, 44, 45] (by decide +kernel) (by decide +kernel)
set_option maxRecDepth 20000 in
theorem gX11_addRoot_X11_lays : GoodIn wsX11_addRoot (wsV RX11 91 RX11 yX11_lays wsX11_lays) := goodIn_app (goodIn_of _ (by decide +kernel)) ggX11_addRoot_X11_lays
theorem dX11_addRoot_0 : decode cX11_addRoot 0 = .ok (.iload_n 1, 1) := by decide +kernel
theorem dX11_addRoot_1 : decode cX11_addRoot 1 = .ok (.invokestatic 79, 3) := by decide +kernel
theorem dX11_addRoot_4 : decode cX11_addRoot 4 = .ok (.istore 4, 2) := by decide +kernel
theorem dX11_addRoot_6 : decode cX11_addRoot 6 = .ok (.aload_n 0, 1) := by decide +kernel
theorem dX11_addRoot_7 : decode cX11_addRoot 7 = .ok (.iload 4, 2) := by decide +kernel
theorem dX11_addRoot_9 : decode cX11_addRoot 9 = .ok (.ifCond .eq 16, 3) := by decide +kernel
theorem dX11_addRoot_12 : decode cX11_addRoot 12 = .ok (.iload_n 2, 1) := by decide +kernel
theorem dX11_addRoot_13 : decode cX11_addRoot 13 = .ok (.iconst 0, 1) := by decide +kernel
theorem dX11_addRoot_14 : decode cX11_addRoot 14 = .ok (.iconst 3, 1) := by decide +kernel
theorem dX11_addRoot_15 : decode cX11_addRoot 15 = .ok (.invokestatic 75, 3) := by decide +kernel
theorem dX11_addRoot_18 : decode cX11_addRoot 18 = .ok (.ifCond .eq 7, 3) := by decide +kernel
theorem dX11_addRoot_21 : decode cX11_addRoot 21 = .ok (.iconst 1, 1) := by decide +kernel
theorem dX11_addRoot_22 : decode cX11_addRoot 22 = .ok (.goto 4, 3) := by decide +kernel
theorem dX11_addRoot_25 : decode cX11_addRoot 25 = .ok (.iconst 0, 1) := by decide +kernel
theorem dX11_addRoot_26 : decode cX11_addRoot 26 = .ok (.iload_n 3, 1) := by decide +kernel
theorem dX11_addRoot_27 : decode cX11_addRoot 27 = .ok (.iconst 0, 1) := by decide +kernel
theorem dX11_addRoot_28 : decode cX11_addRoot 28 = .ok (.bipush 99, 2) := by decide +kernel
theorem dX11_addRoot_30 : decode cX11_addRoot 30 = .ok (.invokestatic 75, 3) := by decide +kernel
theorem dX11_addRoot_33 : decode cX11_addRoot 33 = .ok (.iload 4, 2) := by decide +kernel
theorem dX11_addRoot_35 : decode cX11_addRoot 35 = .ok (.ifCond .eq 16, 3) := by decide +kernel
theorem dX11_addRoot_38 : decode cX11_addRoot 38 = .ok (.aload_n 0, 1) := by decide +kernel
theorem dX11_addRoot_39 : decode cX11_addRoot 39 = .ok (.getfield 25, 3) := by decide +kernel
theorem dX11_addRoot_42 : decode cX11_addRoot 42 = .ok (.iload_n 1, 1) := by decide +kernel
theorem dX11_addRoot_43 : decode cX11_addRoot 43 = .ok (.iaload, 1) := by decide +kernel
theorem dX11_addRoot_44 : decode cX11_addRoot 44 = .ok (.ifCond .ne 7, 3) := by decide +kernel
theorem dX11_addRoot_47 : decode cX11_addRoot 47 = .ok (.iconst 1, 1) := by decide +kernel
theorem dX11_addRoot_48 : decode cX11_addRoot 48 = .ok (.goto 4, 3) := by decide +kernel
theorem dX11_addRoot_51 : decode cX11_addRoot 51 = .ok (.iconst 0, 1) := by decide +kernel
theorem dX11_addRoot_52 : decode cX11_addRoot 52 = .ok (.invokevirtual 87, 3) := by decide +kernel
theorem dX11_addRoot_55 : decode cX11_addRoot 55 = .ok (.ifCond .eq 13, 3) := by decide +kernel
theorem dX11_addRoot_58 : decode cX11_addRoot 58 = .ok (.aload_n 0, 1) := by decide +kernel
theorem dX11_addRoot_59 : decode cX11_addRoot 59 = .ok (.iload_n 1, 1) := by decide +kernel
theorem dX11_addRoot_60 : decode cX11_addRoot 60 = .ok (.iconst 0, 1) := by decide +kernel
theorem dX11_addRoot_61 : decode cX11_addRoot 61 = .ok (.iconst 0, 1) := by decide +kernel
theorem dX11_addRoot_62 : decode cX11_addRoot 62 = .ok (.iconst 0, 1) := by decide +kernel
theorem dX11_addRoot_63 : decode cX11_addRoot 63 = .ok (.iload_n 2, 1) := by decide +kernel
theorem dX11_addRoot_64 : decode cX11_addRoot 64 = .ok (.iload_n 3, 1) := by decide +kernel
theorem dX11_addRoot_65 : decode cX11_addRoot 65 = .ok (.invokevirtual 91, 3) := by decide +kernel
theorem dX11_addRoot_68 : decode cX11_addRoot 68 = .ok (.return_, 1) := by decide +kernel
theorem lk_X11_addRoot_f25 : Cond.fieldLink RX11 25 "TreeComparerModel" "many" "[I" ∈ wsX11_addRoot := by decide +kernel
theorem hi_X11_addRoot_11 : ∀ w ∈ u_ws RX11 TX11 24, w ∈ wsX11_addRoot := by decide +kernel
def wpj_X11_addRoot_52 (p0 : Int) (p1 : Int) (p2 : Int) (s0 : Int) (s1 : Int) (s2 : Int) (M : Mem) (Q : Mem → Prop) : Prop := wp_X11_goes M s2 s1 s0 (fun y16 M17 => inR y16 ∧ ((y16 = 0 → Q M17) ∧ (¬ (y16 = 0) → wp_X11_lays M17 p0 0 0 0 p1 p2 (fun M21 => Q M21))))
def wpj_X11_addRoot_51 (p0 : Int) (p1 : Int) (p2 : Int) (s0 : Int) (s1 : Int) (M : Mem) (Q : Mem → Prop) : Prop := wpj_X11_addRoot_52 p0 p1 p2 0 s0 s1 M Q
def wpj_X11_addRoot_26 (p0 : Int) (p1 : Int) (p2 : Int) (x4 : Int) (s0 : Int) (M : Mem) (Q : Mem → Prop) : Prop := wp_X11_in M p2 0 99 (fun y9 M10 => inR x4 ∧ ((x4 = 0 → wpj_X11_addRoot_51 p0 p1 p2 y9 s0 M10 Q) ∧ (¬ (x4 = 0) → ((0 : Int) ≤ p0 ∧ p0 < 2) ∧ inR (M10 13 5 p0.toNat) ∧ (((M10 13 5 p0.toNat) ≠ 0 → wpj_X11_addRoot_51 p0 p1 p2 y9 s0 M10 Q) ∧ (¬ ((M10 13 5 p0.toNat) ≠ 0) → wpj_X11_addRoot_52 p0 p1 p2 1 y9 s0 M10 Q)))))
def wpj_X11_addRoot_25 (p0 : Int) (p1 : Int) (p2 : Int) (x4 : Int) (M : Mem) (Q : Mem → Prop) : Prop := wpj_X11_addRoot_26 p0 p1 p2 x4 0 M Q
def wpe_X11_addRoot (p0 : Int) (p1 : Int) (p2 : Int) (M : Mem) (Q : Mem → Prop) : Prop := wp_X11_isTree M p0 (fun y1 M2 => inR y1 ∧ ((y1 = 0 → wpj_X11_addRoot_25 p0 p1 p2 y1 M2 Q) ∧ (¬ (y1 = 0) → wp_X11_in M2 p1 0 3 (fun y5 M6 => inR y5 ∧ ((y5 = 0 → wpj_X11_addRoot_25 p0 p1 p2 y1 M6 Q) ∧ (¬ (y5 = 0) → wpj_X11_addRoot_26 p0 p1 p2 y1 1 M6 Q))))))
def wp_X11_addRoot (M : Mem) (p0 : Int) (p1 : Int) (p2 : Int) (Q : Mem → Prop) : Prop := wpe_X11_addRoot p0 p1 p2 M Q
set_option maxHeartbeats 4000000 in
set_option maxRecDepth 100000 in
theorem wkj_X11_addRoot_52 {p : Program} {l : Launch} {e : Env} {s : State} {m : MethodId} {args : Array Value} {below : List Frame} {meth : Method} {c : Code} {D : va_G} {g : GT} {A : Nat → Prop} {a : Nat → Nat} {b : Nat → Nat → Nat} (X : vC p s m args meth c D g A RX11 wsX11_addRoot cX11_addRoot 5) (hr : meth.sig.returnType = none) {p0 : Int} {p1 : Int} {p2 : Int} {s0 : Int} {s1 : Int} {s2 : Int} {M : Mem} {Q : Mem → Prop} (hw : wpj_X11_addRoot_52 p0 p1 p2 s0 s1 s2 M Q) : vV p l e ({ frames := 2, cells := 0, slots := 0, locals := 42 } : Room) s m args below meth c D g A a b 5 0 0 (MQ below (cQv D g A a b Q) args s 0 0 A) M [(0, .ref (a 13)), (1, iv p0), (2, iv p1), (3, iv p2)] 52 [iv s0, iv s1, iv s2, .ref (a 13)] := by
  unfold wpj_X11_addRoot_52 at hw
  refine V_callV_i X _ gO_13 rfl (As := [iv s2, iv s1, iv s0]) (st := []) (c_X11_goes l hw) (cwV 3 X.2.2.2.1 gX11_addRoot_X11_goes rfl rfl rfl (by decide +kernel) ⟨Nat.le_of_ble_eq_true rfl, Nat.le_of_ble_eq_true rfl⟩) rfl (Nat.le_of_ble_eq_true rfl) ⟨Nat.le_of_ble_eq_true rfl, Nat.le_of_ble_eq_true rfl⟩ rfl dX11_addRoot_52 (fun y16 M17 hw => ?_)
  obtain ⟨h18, hw⟩ := hw
  refine V_if_eq (tgt := 68) X h18 dX11_addRoot_55 (by decide) (fun q19 => ?_) (fun q19 => ?_)
  · have hw := hw.1 q19
    exact V_vret X hr hw dX11_addRoot_68
  · have hw := hw.2 q19
    refine V_aload_n X dX11_addRoot_58 rfl (q := 0) rfl ?_
    refine V_iload_n X dX11_addRoot_59 rfl (q := 1) rfl ?_
    refine V_iconst X dX11_addRoot_60 ?_
    refine V_iconst X dX11_addRoot_61 ?_
    refine V_iconst X dX11_addRoot_62 ?_
    refine V_iload_n X dX11_addRoot_63 rfl (q := 2) rfl ?_
    refine V_iload_n X dX11_addRoot_64 rfl (q := 3) rfl ?_
    refine V_callV_v X _ gO_13 rfl (As := [iv p0, iv 0, iv 0, iv 0, iv p1, iv p2]) (st := []) (c_X11_lays l hw) (cwV 6 X.2.2.2.1 gX11_addRoot_X11_lays rfl rfl rfl (by decide +kernel) ⟨Nat.le_of_ble_eq_true rfl, Nat.le_of_ble_eq_true rfl⟩) rfl (Nat.le_of_ble_eq_true rfl) ⟨Nat.le_of_ble_eq_true rfl, Nat.le_of_ble_eq_true rfl⟩ rfl dX11_addRoot_65 (fun M21 hw => ?_)
    exact V_vret X hr hw dX11_addRoot_68
set_option maxHeartbeats 4000000 in
set_option maxRecDepth 100000 in
theorem wkj_X11_addRoot_51 {p : Program} {l : Launch} {e : Env} {s : State} {m : MethodId} {args : Array Value} {below : List Frame} {meth : Method} {c : Code} {D : va_G} {g : GT} {A : Nat → Prop} {a : Nat → Nat} {b : Nat → Nat → Nat} (X : vC p s m args meth c D g A RX11 wsX11_addRoot cX11_addRoot 5) (hr : meth.sig.returnType = none) {p0 : Int} {p1 : Int} {p2 : Int} {s0 : Int} {s1 : Int} {M : Mem} {Q : Mem → Prop} (hw : wpj_X11_addRoot_51 p0 p1 p2 s0 s1 M Q) : vV p l e ({ frames := 2, cells := 0, slots := 0, locals := 42 } : Room) s m args below meth c D g A a b 5 0 0 (MQ below (cQv D g A a b Q) args s 0 0 A) M [(0, .ref (a 13)), (1, iv p0), (2, iv p1), (3, iv p2)] 51 [iv s0, iv s1, .ref (a 13)] := by
  unfold wpj_X11_addRoot_51 at hw
  refine V_iconst X dX11_addRoot_51 ?_
  exact wkj_X11_addRoot_52 X hr hw
set_option maxHeartbeats 4000000 in
set_option maxRecDepth 100000 in
theorem wkj_X11_addRoot_26 {p : Program} {l : Launch} {e : Env} {s : State} {m : MethodId} {args : Array Value} {below : List Frame} {meth : Method} {c : Code} {D : va_G} {g : GT} {A : Nat → Prop} {a : Nat → Nat} {b : Nat → Nat → Nat} (X : vC p s m args meth c D g A RX11 wsX11_addRoot cX11_addRoot 5) (hr : meth.sig.returnType = none) {p0 : Int} {p1 : Int} {p2 : Int} {x4 : Int} {s0 : Int} {M : Mem} {Q : Mem → Prop} (hw : wpj_X11_addRoot_26 p0 p1 p2 x4 s0 M Q) : vV p l e ({ frames := 2, cells := 0, slots := 0, locals := 42 } : Room) s m args below meth c D g A a b 5 0 0 (MQ below (cQv D g A a b Q) args s 0 0 A) M [(0, .ref (a 13)), (1, iv p0), (2, iv p1), (3, iv p2), (4, iv x4)] 26 [iv s0, .ref (a 13)] := by
  unfold wpj_X11_addRoot_26 at hw
  refine V_iload_n X dX11_addRoot_26 rfl (q := 3) rfl ?_
  refine V_iconst X dX11_addRoot_27 ?_
  refine V_bipush X dX11_addRoot_28 rfl ?_
  refine V_callS_i X _ (As := [iv p2, iv 0, iv 99]) (st := [iv s0, .ref (a 13)]) (c_X11_in l hw) (va_cwS 3 X.2.2.2.1 gX11_addRoot_X11_in rfl rfl rfl (by decide +kernel) ⟨Nat.le_of_ble_eq_true rfl, Nat.le_of_ble_eq_true rfl⟩) rfl (Nat.le_of_ble_eq_true rfl) ⟨Nat.le_of_ble_eq_true rfl, Nat.le_of_ble_eq_true rfl⟩ rfl dX11_addRoot_30 (fun y9 M10 hw => ?_)
  refine V_iload X dX11_addRoot_33 (q := 4) rfl ?_
  obtain ⟨h11, hw⟩ := hw
  refine V_if_eq (tgt := 51) X h11 dX11_addRoot_35 (by decide) (fun q12 => ?_) (fun q12 => ?_)
  · have hw := hw.1 q12
    refine V_sub (lv1 := [(0, .ref (a 13)), (1, iv p0), (2, iv p1), (3, iv p2)]) [0, 1, 2, 3] rfl ?_
    exact wkj_X11_addRoot_51 X hr hw
  · have hw := hw.2 q12
    refine V_aload_n X dX11_addRoot_38 rfl (q := 0) rfl ?_
    refine V_get (C := RX11) (T := TX11) (N := 24) (ci := 11) X hi_X11_addRoot_11 gO_13 rfl 5 (by decide) lk_X11_addRoot_f25 (fun _ h9 => h9) rfl dX11_addRoot_39 ?_
    refine V_iload_n X dX11_addRoot_42 rfl (q := 1) rfl ?_
    obtain ⟨h13, hw⟩ := hw
    refine V_iald X (gA_13_5) h13 (by decide) dX11_addRoot_43 ?_
    obtain ⟨h14, hw⟩ := hw
    refine V_if_ne (tgt := 51) X h14 dX11_addRoot_44 (by decide) (fun q15 => ?_) (fun q15 => ?_)
    · have hw := hw.1 q15
      refine V_sub (lv1 := [(0, .ref (a 13)), (1, iv p0), (2, iv p1), (3, iv p2)]) [0, 1, 2, 3] rfl ?_
      exact wkj_X11_addRoot_51 X hr hw
    · have hw := hw.2 q15
      refine V_iconst X dX11_addRoot_47 ?_
      refine V_goto (tgt := 52) X dX11_addRoot_48 (by decide) ?_
      refine V_sub (lv1 := [(0, .ref (a 13)), (1, iv p0), (2, iv p1), (3, iv p2)]) [0, 1, 2, 3] rfl ?_
      exact wkj_X11_addRoot_52 X hr hw
set_option maxHeartbeats 4000000 in
set_option maxRecDepth 100000 in
theorem wkj_X11_addRoot_25 {p : Program} {l : Launch} {e : Env} {s : State} {m : MethodId} {args : Array Value} {below : List Frame} {meth : Method} {c : Code} {D : va_G} {g : GT} {A : Nat → Prop} {a : Nat → Nat} {b : Nat → Nat → Nat} (X : vC p s m args meth c D g A RX11 wsX11_addRoot cX11_addRoot 5) (hr : meth.sig.returnType = none) {p0 : Int} {p1 : Int} {p2 : Int} {x4 : Int} {M : Mem} {Q : Mem → Prop} (hw : wpj_X11_addRoot_25 p0 p1 p2 x4 M Q) : vV p l e ({ frames := 2, cells := 0, slots := 0, locals := 42 } : Room) s m args below meth c D g A a b 5 0 0 (MQ below (cQv D g A a b Q) args s 0 0 A) M [(0, .ref (a 13)), (1, iv p0), (2, iv p1), (3, iv p2), (4, iv x4)] 25 [.ref (a 13)] := by
  unfold wpj_X11_addRoot_25 at hw
  refine V_iconst X dX11_addRoot_25 ?_
  exact wkj_X11_addRoot_26 X hr hw
set_option maxHeartbeats 4000000 in
set_option maxRecDepth 100000 in
theorem wke_X11_addRoot {p : Program} {l : Launch} {e : Env} {s : State} {m : MethodId} {args : Array Value} {below : List Frame} {meth : Method} {c : Code} {D : va_G} {g : GT} {A : Nat → Prop} {a : Nat → Nat} {b : Nat → Nat → Nat} (X : vC p s m args meth c D g A RX11 wsX11_addRoot cX11_addRoot 5) (hr : meth.sig.returnType = none) {p0 : Int} {p1 : Int} {p2 : Int} {M : Mem} {Q : Mem → Prop} (hw : wpe_X11_addRoot p0 p1 p2 M Q) : vV p l e ({ frames := 2, cells := 0, slots := 0, locals := 42 } : Room) s m args below meth c D g A a b 5 0 0 (MQ below (cQv D g A a b Q) args s 0 0 A) M [(0, .ref (a 13)), (1, iv p0), (2, iv p1), (3, iv p2)] 0 [] := by
  unfold wpe_X11_addRoot at hw
  refine V_iload_n X dX11_addRoot_0 rfl (q := 1) rfl ?_
  refine V_callS_i X _ (As := [iv p0]) (st := []) (c_X11_isTree l hw) (va_cwS 1 X.2.2.2.1 gX11_addRoot_X11_isTree rfl rfl rfl (by decide +kernel) ⟨Nat.le_of_ble_eq_true rfl, Nat.le_of_ble_eq_true rfl⟩) rfl (Nat.le_of_ble_eq_true rfl) ⟨Nat.le_of_ble_eq_true rfl, Nat.le_of_ble_eq_true rfl⟩ rfl dX11_addRoot_1 (fun y1 M2 hw => ?_)
  refine V_istore (lv1 := [(0, .ref (a 13)), (1, iv p0), (2, iv p1), (3, iv p2), (4, iv y1)]) X [1, 2, 3, 4, 0] dX11_addRoot_4 (by decide) rfl ?_
  refine V_aload_n X dX11_addRoot_6 rfl (q := 0) rfl ?_
  refine V_iload X dX11_addRoot_7 (q := 4) rfl ?_
  obtain ⟨h3, hw⟩ := hw
  refine V_if_eq (tgt := 25) X h3 dX11_addRoot_9 (by decide) (fun q4 => ?_) (fun q4 => ?_)
  · have hw := hw.1 q4
    exact wkj_X11_addRoot_25 X hr hw
  · have hw := hw.2 q4
    refine V_iload_n X dX11_addRoot_12 rfl (q := 2) rfl ?_
    refine V_iconst X dX11_addRoot_13 ?_
    refine V_iconst X dX11_addRoot_14 ?_
    refine V_callS_i X _ (As := [iv p1, iv 0, iv 3]) (st := [.ref (a 13)]) (c_X11_in l hw) (va_cwS 3 X.2.2.2.1 gX11_addRoot_X11_in rfl rfl rfl (by decide +kernel) ⟨Nat.le_of_ble_eq_true rfl, Nat.le_of_ble_eq_true rfl⟩) rfl (Nat.le_of_ble_eq_true rfl) ⟨Nat.le_of_ble_eq_true rfl, Nat.le_of_ble_eq_true rfl⟩ rfl dX11_addRoot_15 (fun y5 M6 hw => ?_)
    obtain ⟨h7, hw⟩ := hw
    refine V_if_eq (tgt := 25) X h7 dX11_addRoot_18 (by decide) (fun q8 => ?_) (fun q8 => ?_)
    · have hw := hw.1 q8
      exact wkj_X11_addRoot_25 X hr hw
    · have hw := hw.2 q8
      refine V_iconst X dX11_addRoot_21 ?_
      refine V_goto (tgt := 26) X dX11_addRoot_22 (by decide) ?_
      exact wkj_X11_addRoot_26 X hr hw
set_option maxHeartbeats 4000000 in
set_option maxRecDepth 100000 in
theorem c_X11_addRoot (l : Launch) {p0 : Int} {p1 : Int} {p2 : Int} {D : va_G} {g : GT} {A : Nat → Prop} {a : Nat → Nat} {b : Nat → Nat → Nat} {M : Mem} {Q : Mem → Prop} (hw : wp_X11_addRoot M p0 p1 p2 Q) : Met l yX11_addRoot wsX11_addRoot ({ frames := 2, cells := 0, slots := 0, locals := 42 } : Room) (cPc D g A a b M [.ref (a 13), iv p0, iv p1, iv p2]) (cQv D g A a b Q) 0 0 A := by
  refine Met.ofW (cc := cX11_addRoot) (maxL := 5) (ret := none) (by decide) rfl ?_
  intro p e s m args below meth c s₁ B hml hv
  obtain ⟨rfl, hP, hD, hG⟩ := hv
  have X : vC p s m _ meth c D g A RX11 wsX11_addRoot cX11_addRoot 5 := ⟨B.exec, B.bytes, findClass_of_methodNamed B.named, atoms_spec (ws := wsX11_addRoot) B.pre, hG, hml, B.notSynchronized⟩
  have hr := B.returns
  have hl := lv_entry ([.ref (a 13), iv p0, iv p1, iv p2]) (n := 5) (Nat.le_of_ble_eq_true rfl)
  rw [lg_entry_eq]
  generalize (lg_sl ([.ref (a 13), iv p0, iv p1, iv p2]) ++ List.replicate (5 - (lg_sl ([.ref (a 13), iv p0, iv p1, iv p2])).length) Slot.unset).toArray = ls at hl ⊢
  have hl : lv_has ls 5 [(0, .ref (a 13)), (1, iv p0), (2, iv p1), (3, iv p2)] := hl
  exact wke_X11_addRoot X hr  hw s.heap [] ls hP hD va_S.rf hl

set_option maxRecDepth 20000 in
theorem ggX11_isKeyroot_X11_isNode : GoodIn wsX11_isKeyroot wsX11_isNode := goodIn_r _ [6, 7, 8, 9, 5, 10, 11, 12, 13, 24, 25, 26, 27, 28, 29, 30, 31, 32, 33, 34, 35, 36, 37, 38, 39, 40, 41, 42, 43, 44, 45, 46, 47] (by decide +kernel) (by decide +kernel)
set_option maxRecDepth 20000 in
theorem gX11_isKeyroot_X11_isNode : GoodIn wsX11_isKeyroot (wsV RX11 98 RX11 yX11_isNode wsX11_isNode) := goodIn_app (goodIn_of _ (by decide +kernel)) ggX11_isKeyroot_X11_isNode
set_option maxRecDepth 20000 in
theorem ggX11_isKeyroot_X11_goes : GoodIn wsX11_isKeyroot wsX11_goes := goodIn_r _ [17, 18, 24, 25, 26, 27, 28, 29, 30, 31, 32, 33, 34, 35, 36, 37, 38, 39, 40, 41, 42, 43, 44, 45, 46, 47] (by decide +kernel) (by decide +kernel)
set_option maxRecDepth 20000 in
theorem gX11_isKeyroot_X11_goes : GoodIn wsX11_isKeyroot (wsV RX11 87 RX11 yX11_goes wsX11_goes) := goodIn_app (goodIn_of _ (by decide +kernel)) ggX11_isKeyroot_X11_goes
set_option maxRecDepth 20000 in
theorem ggX11_isKeyroot_X11_place : GoodIn wsX11_isKeyroot wsX11_place := goodIn_r _ [22, 23, 24, 25, 26, 27, 28, 29, 30, 31, 32, 33, 34, 35, 36, 37, 38, 39, 40, 41, 42, 43, 44, 45, 46, 47] (by decide +kernel) (by decide +kernel)
set_option maxRecDepth 20000 in
theorem gX11_isKeyroot_X11_place : GoodIn wsX11_isKeyroot (wsV RX11 102 RX11 yX11_place wsX11_place) := goodIn_app (goodIn_of _ (by decide +kernel)) ggX11_isKeyroot_X11_place
theorem dX11_isKeyroot_0 : decode cX11_isKeyroot 0 = .ok (.aload_n 0, 1) := by decide +kernel
theorem dX11_isKeyroot_1 : decode cX11_isKeyroot 1 = .ok (.aload_n 0, 1) := by decide +kernel
theorem dX11_isKeyroot_2 : decode cX11_isKeyroot 2 = .ok (.iload_n 1, 1) := by decide +kernel
theorem dX11_isKeyroot_3 : decode cX11_isKeyroot 3 = .ok (.iload_n 2, 1) := by decide +kernel
theorem dX11_isKeyroot_4 : decode cX11_isKeyroot 4 = .ok (.invokevirtual 98, 3) := by decide +kernel
theorem dX11_isKeyroot_7 : decode cX11_isKeyroot 7 = .ok (.iconst 1, 1) := by decide +kernel
theorem dX11_isKeyroot_8 : decode cX11_isKeyroot 8 = .ok (.iconst 1, 1) := by decide +kernel
theorem dX11_isKeyroot_9 : decode cX11_isKeyroot 9 = .ok (.invokevirtual 87, 3) := by decide +kernel
theorem dX11_isKeyroot_12 : decode cX11_isKeyroot 12 = .ok (.ifCond .ne 5, 3) := by decide +kernel
theorem dX11_isKeyroot_15 : decode cX11_isKeyroot 15 = .ok (.iconst 0, 1) := by decide +kernel
theorem dX11_isKeyroot_16 : decode cX11_isKeyroot 16 = .ok (.ireturn, 1) := by decide +kernel
theorem dX11_isKeyroot_17 : decode cX11_isKeyroot 17 = .ok (.aload_n 0, 1) := by decide +kernel
theorem dX11_isKeyroot_18 : decode cX11_isKeyroot 18 = .ok (.iload_n 1, 1) := by decide +kernel
theorem dX11_isKeyroot_19 : decode cX11_isKeyroot 19 = .ok (.iload_n 2, 1) := by decide +kernel
theorem dX11_isKeyroot_20 : decode cX11_isKeyroot 20 = .ok (.invokevirtual 102, 3) := by decide +kernel
theorem dX11_isKeyroot_23 : decode cX11_isKeyroot 23 = .ok (.istore_n 3, 1) := by decide +kernel
theorem dX11_isKeyroot_24 : decode cX11_isKeyroot 24 = .ok (.iload_n 3, 1) := by decide +kernel
theorem dX11_isKeyroot_25 : decode cX11_isKeyroot 25 = .ok (.ifCond .eq 30, 3) := by decide +kernel
theorem dX11_isKeyroot_28 : decode cX11_isKeyroot 28 = .ok (.aload_n 0, 1) := by decide +kernel
theorem dX11_isKeyroot_29 : decode cX11_isKeyroot 29 = .ok (.getfield 13, 3) := by decide +kernel
theorem dX11_isKeyroot_32 : decode cX11_isKeyroot 32 = .ok (.bipush 12, 2) := by decide +kernel
theorem dX11_isKeyroot_34 : decode cX11_isKeyroot 34 = .ok (.iload_n 1, 1) := by decide +kernel
theorem dX11_isKeyroot_35 : decode cX11_isKeyroot 35 = .ok (.imul, 1) := by decide +kernel
theorem dX11_isKeyroot_36 : decode cX11_isKeyroot 36 = .ok (.iload_n 3, 1) := by decide +kernel
theorem dX11_isKeyroot_37 : decode cX11_isKeyroot 37 = .ok (.iadd, 1) := by decide +kernel
theorem dX11_isKeyroot_38 : decode cX11_isKeyroot 38 = .ok (.iconst 1, 1) := by decide +kernel
theorem dX11_isKeyroot_39 : decode cX11_isKeyroot 39 = .ok (.isub, 1) := by decide +kernel
theorem dX11_isKeyroot_40 : decode cX11_isKeyroot 40 = .ok (.iaload, 1) := by decide +kernel
theorem dX11_isKeyroot_41 : decode cX11_isKeyroot 41 = .ok (.aload_n 0, 1) := by decide +kernel
theorem dX11_isKeyroot_42 : decode cX11_isKeyroot 42 = .ok (.getfield 13, 3) := by decide +kernel
theorem dX11_isKeyroot_45 : decode cX11_isKeyroot 45 = .ok (.bipush 12, 2) := by decide +kernel
theorem dX11_isKeyroot_47 : decode cX11_isKeyroot 47 = .ok (.iload_n 1, 1) := by decide +kernel
theorem dX11_isKeyroot_48 : decode cX11_isKeyroot 48 = .ok (.imul, 1) := by decide +kernel
theorem dX11_isKeyroot_49 : decode cX11_isKeyroot 49 = .ok (.iload_n 3, 1) := by decide +kernel
theorem dX11_isKeyroot_50 : decode cX11_isKeyroot 50 = .ok (.iadd, 1) := by decide +kernel
theorem dX11_isKeyroot_51 : decode cX11_isKeyroot 51 = .ok (.iaload, 1) := by decide +kernel
theorem dX11_isKeyroot_52 : decode cX11_isKeyroot 52 = .ok (.if_icmp .lt 7, 3) := by decide +kernel
theorem dX11_isKeyroot_55 : decode cX11_isKeyroot 55 = .ok (.iconst 1, 1) := by decide +kernel
theorem dX11_isKeyroot_56 : decode cX11_isKeyroot 56 = .ok (.goto 4, 3) := by decide +kernel
theorem dX11_isKeyroot_59 : decode cX11_isKeyroot 59 = .ok (.iconst 0, 1) := by decide +kernel
theorem dX11_isKeyroot_60 : decode cX11_isKeyroot 60 = .ok (.ireturn, 1) := by decide +kernel
theorem lk_X11_isKeyroot_f13 : Cond.fieldLink RX11 13 "TreeComparerModel" "level" "[I" ∈ wsX11_isKeyroot := by decide +kernel
theorem hi_X11_isKeyroot_11 : ∀ w ∈ u_ws RX11 TX11 24, w ∈ wsX11_isKeyroot := by decide +kernel
def wpj_X11_isKeyroot_55 (p0 : Int) (p1 : Int) (M : Mem) (Q : Int → Mem → Prop) : Prop := Q 1 M
def wpe_X11_isKeyroot (p0 : Int) (p1 : Int) (M : Mem) (Q : Int → Mem → Prop) : Prop := wp_X11_isNode M p0 p1 (fun y1 M2 => wp_X11_goes M2 y1 1 1 (fun y3 M4 => inR y3 ∧ ((y3 ≠ 0 → wp_X11_place M4 p0 p1 (fun y7 M8 => inR y7 ∧ ((y7 = 0 → wpj_X11_isKeyroot_55 p0 p1 M8 Q) ∧ (¬ (y7 = 0) → ((0 : Int) ≤ ((12 * p0) + y7) - 1 ∧ ((12 * p0) + y7) - 1 < 24) ∧ ((0 : Int) ≤ (12 * p0) + y7 ∧ (12 * p0) + y7 < 24) ∧ inR (M8 13 1 (((12 * p0) + y7) - 1).toNat) ∧ inR (M8 13 1 ((12 * p0) + y7).toNat) ∧ (((M8 13 1 (((12 * p0) + y7) - 1).toNat) < (M8 13 1 ((12 * p0) + y7).toNat) → Q 0 M8) ∧ (¬ ((M8 13 1 (((12 * p0) + y7) - 1).toNat) < (M8 13 1 ((12 * p0) + y7).toNat)) → wpj_X11_isKeyroot_55 p0 p1 M8 Q)))))) ∧ (¬ (y3 ≠ 0) → Q 0 M4))))
def wp_X11_isKeyroot (M : Mem) (p0 : Int) (p1 : Int) (Q : Int → Mem → Prop) : Prop := wpe_X11_isKeyroot p0 p1 M Q
set_option maxHeartbeats 4000000 in
set_option maxRecDepth 100000 in
theorem wkj_X11_isKeyroot_55 {p : Program} {l : Launch} {e : Env} {s : State} {m : MethodId} {args : Array Value} {below : List Frame} {meth : Method} {c : Code} {D : va_G} {g : GT} {A : Nat → Prop} {a : Nat → Nat} {b : Nat → Nat → Nat} (X : vC p s m args meth c D g A RX11 wsX11_isKeyroot cX11_isKeyroot 4) (hr : meth.sig.returnType = (some .boolean)) {p0 : Int} {p1 : Int} {M : Mem} {Q : Int → Mem → Prop} (hw : wpj_X11_isKeyroot_55 p0 p1 M Q) : vV p l e ({ frames := 3, cells := 0, slots := 0, locals := 64 } : Room) s m args below meth c D g A a b 4 0 0 (MQ below (cQi D g A a b Q) args s 0 0 A) M [] 55 [] := by
  unfold wpj_X11_isKeyroot_55 at hw
  refine V_iconst X dX11_isKeyroot_55 ?_
  refine V_goto (tgt := 60) X dX11_isKeyroot_56 (by decide) ?_
  exact V_zret X hr (by decide) hw dX11_isKeyroot_60
set_option maxHeartbeats 4000000 in
set_option maxRecDepth 100000 in
theorem wke_X11_isKeyroot {p : Program} {l : Launch} {e : Env} {s : State} {m : MethodId} {args : Array Value} {below : List Frame} {meth : Method} {c : Code} {D : va_G} {g : GT} {A : Nat → Prop} {a : Nat → Nat} {b : Nat → Nat → Nat} (X : vC p s m args meth c D g A RX11 wsX11_isKeyroot cX11_isKeyroot 4) (hr : meth.sig.returnType = (some .boolean)) {p0 : Int} {p1 : Int} {M : Mem} {Q : Int → Mem → Prop} (hw : wpe_X11_isKeyroot p0 p1 M Q) : vV p l e ({ frames := 3, cells := 0, slots := 0, locals := 64 } : Room) s m args below meth c D g A a b 4 0 0 (MQ below (cQi D g A a b Q) args s 0 0 A) M [(0, .ref (a 13)), (1, iv p0), (2, iv p1)] 0 [] := by
  unfold wpe_X11_isKeyroot at hw
  refine V_aload_n X dX11_isKeyroot_0 rfl (q := 0) rfl ?_
  refine V_aload_n X dX11_isKeyroot_1 rfl (q := 0) rfl ?_
  refine V_iload_n X dX11_isKeyroot_2 rfl (q := 1) rfl ?_
  refine V_iload_n X dX11_isKeyroot_3 rfl (q := 2) rfl ?_
  refine V_callV_i X _ gO_13 rfl (As := [iv p0, iv p1]) (st := [.ref (a 13)]) (c_X11_isNode l hw) (cwV 2 X.2.2.2.1 gX11_isKeyroot_X11_isNode rfl rfl rfl (by decide +kernel) ⟨Nat.le_of_ble_eq_true rfl, Nat.le_of_ble_eq_true rfl⟩) rfl (Nat.le_of_ble_eq_true rfl) ⟨Nat.le_of_ble_eq_true rfl, Nat.le_of_ble_eq_true rfl⟩ rfl dX11_isKeyroot_4 (fun y1 M2 hw => ?_)
  refine V_iconst X dX11_isKeyroot_7 ?_
  refine V_iconst X dX11_isKeyroot_8 ?_
  refine V_callV_i X _ gO_13 rfl (As := [iv y1, iv 1, iv 1]) (st := []) (c_X11_goes l hw) (cwV 3 X.2.2.2.1 gX11_isKeyroot_X11_goes rfl rfl rfl (by decide +kernel) ⟨Nat.le_of_ble_eq_true rfl, Nat.le_of_ble_eq_true rfl⟩) rfl (Nat.le_of_ble_eq_true rfl) ⟨Nat.le_of_ble_eq_true rfl, Nat.le_of_ble_eq_true rfl⟩ rfl dX11_isKeyroot_9 (fun y3 M4 hw => ?_)
  obtain ⟨h5, hw⟩ := hw
  refine V_if_ne (tgt := 17) X h5 dX11_isKeyroot_12 (by decide) (fun q6 => ?_) (fun q6 => ?_)
  · have hw := hw.1 q6
    refine V_aload_n X dX11_isKeyroot_17 rfl (q := 0) rfl ?_
    refine V_iload_n X dX11_isKeyroot_18 rfl (q := 1) rfl ?_
    refine V_iload_n X dX11_isKeyroot_19 rfl (q := 2) rfl ?_
    refine V_callV_i X _ gO_13 rfl (As := [iv p0, iv p1]) (st := []) (c_X11_place l hw) (cwV 2 X.2.2.2.1 gX11_isKeyroot_X11_place rfl rfl rfl (by decide +kernel) ⟨Nat.le_of_ble_eq_true rfl, Nat.le_of_ble_eq_true rfl⟩) rfl (Nat.le_of_ble_eq_true rfl) ⟨Nat.le_of_ble_eq_true rfl, Nat.le_of_ble_eq_true rfl⟩ rfl dX11_isKeyroot_20 (fun y7 M8 hw => ?_)
    refine V_istore_n (lv1 := [(0, .ref (a 13)), (1, iv p0), (2, iv p1), (3, iv y7)]) X [1, 2, 3, 0] dX11_isKeyroot_23 rfl (by decide) rfl ?_
    refine V_iload_n X dX11_isKeyroot_24 rfl (q := 3) rfl ?_
    obtain ⟨h9, hw⟩ := hw
    refine V_if_eq (tgt := 55) X h9 dX11_isKeyroot_25 (by decide) (fun q10 => ?_) (fun q10 => ?_)
    · have hw := hw.1 q10
      refine V_sub (lv1 := []) [] rfl ?_
      exact wkj_X11_isKeyroot_55 X hr hw
    · have hw := hw.2 q10
      refine V_aload_n X dX11_isKeyroot_28 rfl (q := 0) rfl ?_
      refine V_get (C := RX11) (T := TX11) (N := 24) (ci := 11) X hi_X11_isKeyroot_11 gO_13 rfl 1 (by decide) lk_X11_isKeyroot_f13 (fun _ h9 => h9) rfl dX11_isKeyroot_29 ?_
      refine V_bipush X dX11_isKeyroot_32 rfl ?_
      refine V_iload_n X dX11_isKeyroot_34 rfl (q := 1) rfl ?_
      refine V_imul X dX11_isKeyroot_35 ?_
      refine V_iload_n X dX11_isKeyroot_36 rfl (q := 3) rfl ?_
      refine V_iadd X dX11_isKeyroot_37 ?_
      refine V_iconst X dX11_isKeyroot_38 ?_
      refine V_isub X dX11_isKeyroot_39 ?_
      obtain ⟨h11, hw⟩ := hw
      refine V_iald X (gA_13_1) h11 (by decide) dX11_isKeyroot_40 ?_
      refine V_aload_n X dX11_isKeyroot_41 rfl (q := 0) rfl ?_
      refine V_get (C := RX11) (T := TX11) (N := 24) (ci := 11) X hi_X11_isKeyroot_11 gO_13 rfl 1 (by decide) lk_X11_isKeyroot_f13 (fun _ h9 => h9) rfl dX11_isKeyroot_42 ?_
      refine V_bipush X dX11_isKeyroot_45 rfl ?_
      refine V_iload_n X dX11_isKeyroot_47 rfl (q := 1) rfl ?_
      refine V_imul X dX11_isKeyroot_48 ?_
      refine V_iload_n X dX11_isKeyroot_49 rfl (q := 3) rfl ?_
      refine V_iadd X dX11_isKeyroot_50 ?_
      obtain ⟨h12, hw⟩ := hw
      refine V_iald X (gA_13_1) h12 (by decide) dX11_isKeyroot_51 ?_
      obtain ⟨h13, h14, hw⟩ := hw
      refine V_icmp_lt (tgt := 59) X h13 h14 dX11_isKeyroot_52 (by decide) (fun q15 => ?_) (fun q15 => ?_)
      · have hw := hw.1 q15
        refine V_iconst X dX11_isKeyroot_59 ?_
        exact V_zret X hr (by decide) hw dX11_isKeyroot_60
      · have hw := hw.2 q15
        refine V_sub (lv1 := []) [] rfl ?_
        exact wkj_X11_isKeyroot_55 X hr hw
  · have hw := hw.2 q6
    refine V_iconst X dX11_isKeyroot_15 ?_
    exact V_zret X hr (by decide) hw dX11_isKeyroot_16
set_option maxHeartbeats 4000000 in
set_option maxRecDepth 100000 in
theorem c_X11_isKeyroot (l : Launch) {p0 : Int} {p1 : Int} {D : va_G} {g : GT} {A : Nat → Prop} {a : Nat → Nat} {b : Nat → Nat → Nat} {M : Mem} {Q : Int → Mem → Prop} (hw : wp_X11_isKeyroot M p0 p1 Q) : Met l yX11_isKeyroot wsX11_isKeyroot ({ frames := 3, cells := 0, slots := 0, locals := 64 } : Room) (cPc D g A a b M [.ref (a 13), iv p0, iv p1]) (cQi D g A a b Q) 0 0 A := by
  refine Met.ofW (cc := cX11_isKeyroot) (maxL := 4) (ret := (some .boolean)) (by decide) rfl ?_
  intro p e s m args below meth c s₁ B hml hv
  obtain ⟨rfl, hP, hD, hG⟩ := hv
  have X : vC p s m _ meth c D g A RX11 wsX11_isKeyroot cX11_isKeyroot 4 := ⟨B.exec, B.bytes, findClass_of_methodNamed B.named, atoms_spec (ws := wsX11_isKeyroot) B.pre, hG, hml, B.notSynchronized⟩
  have hr := B.returns
  have hl := lv_entry ([.ref (a 13), iv p0, iv p1]) (n := 4) (Nat.le_of_ble_eq_true rfl)
  rw [lg_entry_eq]
  generalize (lg_sl ([.ref (a 13), iv p0, iv p1]) ++ List.replicate (4 - (lg_sl ([.ref (a 13), iv p0, iv p1])).length) Slot.unset).toArray = ls at hl ⊢
  have hl : lv_has ls 4 [(0, .ref (a 13)), (1, iv p0), (2, iv p1)] := hl
  exact wke_X11_isKeyroot X hr  hw s.heap [] ls hP hD va_S.rf hl

set_option maxRecDepth 20000 in
theorem ggX11_canBePaired_X11_isNode : GoodIn wsX11_canBePaired wsX11_isNode := goodIn_r _ [5, 6, 7, 8, 4, 9, 10, 11, 12, 60, 61, 62, 63, 64, 65, 66, 67, 68, 69, 70, 71, 72, 73, 74, 75, 76, 77, 78, 79, 80, 81, 82, 83] (by decide +kernel) (by decide +kernel)
set_option maxRecDepth 20000 in
theorem gX11_canBePaired_X11_isNode : GoodIn wsX11_canBePaired (wsV RX11 98 RX11 yX11_isNode wsX11_isNode) := goodIn_app (goodIn_of _ (by decide +kernel)) ggX11_canBePaired_X11_isNode
set_option maxRecDepth 20000 in
theorem ggX11_canBePaired_X11_goes : GoodIn wsX11_canBePaired wsX11_goes := goodIn_r _ [16, 17, 60, 61, 62, 63, 64, 65, 66, 67, 68, 69, 70, 71, 72, 73, 74, 75, 76, 77, 78, 79, 80, 81, 82, 83] (by decide +kernel) (by decide +kernel)
set_option maxRecDepth 20000 in
theorem gX11_canBePaired_X11_goes : GoodIn wsX11_canBePaired (wsV RX11 87 RX11 yX11_goes wsX11_goes) := goodIn_app (goodIn_of _ (by decide +kernel)) ggX11_canBePaired_X11_goes
set_option maxRecDepth 20000 in
theorem ggX11_canBePaired_X11_fills : GoodIn wsX11_canBePaired wsX11_fills := goodIn_r _ [21, 6, 22, 23, 24, 25, 26, 4, 27, 28, 29, 30, 31, 32, 33, 34, 35, 36, 37, 38, 39, 40, 41, 42, 43, 44, 45, 46, 47, 48, 49, 50, 51, 52, 53, 54, 60, 61, 62, 63, 64, 65, 66, 67, 68, 69, 70, 71, 72, 73, 74, 75, 76, 77, 78, 79, 80, 81, 82, 83] (by decide +kernel) (by decide +kernel)
set_option maxRecDepth 20000 in
theorem gX11_canBePaired_X11_fills : GoodIn wsX11_canBePaired (wsV RX11 140 RX11 yX11_fills wsX11_fills) := goodIn_app (goodIn_of _ (by decide +kernel)) ggX11_canBePaired_X11_fills
set_option maxRecDepth 20000 in
theorem ggX11_canBePaired_X11_place : GoodIn wsX11_canBePaired wsX11_place := goodIn_r _ [58, 59, 60, 61, 62, 63, 64, 65, 66, 67, 68, 69, 70, 71, 72, 73, 74, 75, 76, 77, 78, 79, 80, 81, 82, 83] (by decide +kernel) (by decide +kernel)
set_option maxRecDepth 20000 in
theorem gX11_canBePaired_X11_place : GoodIn wsX11_canBePaired (wsV RX11 102 RX11 yX11_place wsX11_place) := goodIn_app (goodIn_of _ (by decide +kernel)) ggX11_canBePaired_X11_place
theorem dX11_canBePaired_0 : decode cX11_canBePaired 0 = .ok (.aload_n 0, 1) := by decide +kernel
theorem dX11_canBePaired_1 : decode cX11_canBePaired 1 = .ok (.aload_n 0, 1) := by decide +kernel
theorem dX11_canBePaired_2 : decode cX11_canBePaired 2 = .ok (.iconst 0, 1) := by decide +kernel
theorem dX11_canBePaired_3 : decode cX11_canBePaired 3 = .ok (.iload_n 1, 1) := by decide +kernel
theorem dX11_canBePaired_4 : decode cX11_canBePaired 4 = .ok (.invokevirtual 98, 3) := by decide +kernel
theorem dX11_canBePaired_7 : decode cX11_canBePaired 7 = .ok (.ifCond .eq 16, 3) := by decide +kernel
theorem dX11_canBePaired_10 : decode cX11_canBePaired 10 = .ok (.aload_n 0, 1) := by decide +kernel
theorem dX11_canBePaired_11 : decode cX11_canBePaired 11 = .ok (.iconst 1, 1) := by decide +kernel
theorem dX11_canBePaired_12 : decode cX11_canBePaired 12 = .ok (.iload_n 2, 1) := by decide +kernel
theorem dX11_canBePaired_13 : decode cX11_canBePaired 13 = .ok (.invokevirtual 98, 3) := by decide +kernel
theorem dX11_canBePaired_16 : decode cX11_canBePaired 16 = .ok (.ifCond .eq 7, 3) := by decide +kernel
theorem dX11_canBePaired_19 : decode cX11_canBePaired 19 = .ok (.iconst 1, 1) := by decide +kernel
theorem dX11_canBePaired_20 : decode cX11_canBePaired 20 = .ok (.goto 4, 3) := by decide +kernel
theorem dX11_canBePaired_23 : decode cX11_canBePaired 23 = .ok (.iconst 0, 1) := by decide +kernel
theorem dX11_canBePaired_24 : decode cX11_canBePaired 24 = .ok (.iconst 1, 1) := by decide +kernel
theorem dX11_canBePaired_25 : decode cX11_canBePaired 25 = .ok (.iconst 1, 1) := by decide +kernel
theorem dX11_canBePaired_26 : decode cX11_canBePaired 26 = .ok (.invokevirtual 87, 3) := by decide +kernel
theorem dX11_canBePaired_29 : decode cX11_canBePaired 29 = .ok (.ifCond .ne 5, 3) := by decide +kernel
theorem dX11_canBePaired_32 : decode cX11_canBePaired 32 = .ok (.iconst 0, 1) := by decide +kernel
theorem dX11_canBePaired_33 : decode cX11_canBePaired 33 = .ok (.ireturn, 1) := by decide +kernel
theorem dX11_canBePaired_34 : decode cX11_canBePaired 34 = .ok (.aload_n 0, 1) := by decide +kernel
theorem dX11_canBePaired_35 : decode cX11_canBePaired 35 = .ok (.iconst (-1), 1) := by decide +kernel
theorem dX11_canBePaired_36 : decode cX11_canBePaired 36 = .ok (.iconst (-1), 1) := by decide +kernel
theorem dX11_canBePaired_37 : decode cX11_canBePaired 37 = .ok (.invokevirtual 140, 3) := by decide +kernel
theorem dX11_canBePaired_40 : decode cX11_canBePaired 40 = .ok (.istore_n 3, 1) := by decide +kernel
theorem dX11_canBePaired_41 : decode cX11_canBePaired 41 = .ok (.aload_n 0, 1) := by decide +kernel
theorem dX11_canBePaired_42 : decode cX11_canBePaired 42 = .ok (.aload_n 0, 1) := by decide +kernel
theorem dX11_canBePaired_43 : decode cX11_canBePaired 43 = .ok (.iconst 0, 1) := by decide +kernel
theorem dX11_canBePaired_44 : decode cX11_canBePaired 44 = .ok (.iload_n 1, 1) := by decide +kernel
theorem dX11_canBePaired_45 : decode cX11_canBePaired 45 = .ok (.invokevirtual 102, 3) := by decide +kernel
theorem dX11_canBePaired_48 : decode cX11_canBePaired 48 = .ok (.aload_n 0, 1) := by decide +kernel
theorem dX11_canBePaired_49 : decode cX11_canBePaired 49 = .ok (.iconst 1, 1) := by decide +kernel
theorem dX11_canBePaired_50 : decode cX11_canBePaired 50 = .ok (.iload_n 2, 1) := by decide +kernel
theorem dX11_canBePaired_51 : decode cX11_canBePaired 51 = .ok (.invokevirtual 102, 3) := by decide +kernel
theorem dX11_canBePaired_54 : decode cX11_canBePaired 54 = .ok (.invokevirtual 140, 3) := by decide +kernel
theorem dX11_canBePaired_57 : decode cX11_canBePaired 57 = .ok (.iload_n 3, 1) := by decide +kernel
theorem dX11_canBePaired_58 : decode cX11_canBePaired 58 = .ok (.if_icmp .ne 7, 3) := by decide +kernel
theorem dX11_canBePaired_61 : decode cX11_canBePaired 61 = .ok (.iconst 1, 1) := by decide +kernel
theorem dX11_canBePaired_62 : decode cX11_canBePaired 62 = .ok (.goto 4, 3) := by decide +kernel
theorem dX11_canBePaired_65 : decode cX11_canBePaired 65 = .ok (.iconst 0, 1) := by decide +kernel
theorem dX11_canBePaired_66 : decode cX11_canBePaired 66 = .ok (.ireturn, 1) := by decide +kernel
def wpj_X11_canBePaired_24 (p0 : Int) (p1 : Int) (s0 : Int) (M : Mem) (Q : Int → Mem → Prop) : Prop := wp_X11_goes M s0 1 1 (fun y9 M10 => inR y9 ∧ ((y9 ≠ 0 → wp_X11_fills M10 (-1) (-1) (fun y13 M14 => wp_X11_place M14 0 p0 (fun y15 M16 => wp_X11_place M16 1 p1 (fun y17 M18 => wp_X11_fills M18 y15 y17 (fun y19 M20 => inR y19 ∧ inR y13 ∧ ((y19 ≠ y13 → Q 0 M20) ∧ (¬ (y19 ≠ y13) → Q 1 M20))))))) ∧ (¬ (y9 ≠ 0) → Q 0 M10)))
def wpj_X11_canBePaired_23 (p0 : Int) (p1 : Int) (M : Mem) (Q : Int → Mem → Prop) : Prop := wpj_X11_canBePaired_24 p0 p1 0 M Q
def wpe_X11_canBePaired (p0 : Int) (p1 : Int) (M : Mem) (Q : Int → Mem → Prop) : Prop := wp_X11_isNode M 0 p0 (fun y1 M2 => inR y1 ∧ ((y1 = 0 → wpj_X11_canBePaired_23 p0 p1 M2 Q) ∧ (¬ (y1 = 0) → wp_X11_isNode M2 1 p1 (fun y5 M6 => inR y5 ∧ ((y5 = 0 → wpj_X11_canBePaired_23 p0 p1 M6 Q) ∧ (¬ (y5 = 0) → wpj_X11_canBePaired_24 p0 p1 1 M6 Q))))))
def wp_X11_canBePaired (M : Mem) (p0 : Int) (p1 : Int) (Q : Int → Mem → Prop) : Prop := wpe_X11_canBePaired p0 p1 M Q
set_option maxHeartbeats 4000000 in
set_option maxRecDepth 100000 in
theorem wkj_X11_canBePaired_24 {p : Program} {l : Launch} {e : Env} {s : State} {m : MethodId} {args : Array Value} {below : List Frame} {meth : Method} {c : Code} {D : va_G} {g : GT} {A : Nat → Prop} {a : Nat → Nat} {b : Nat → Nat → Nat} (X : vC p s m args meth c D g A RX11 wsX11_canBePaired cX11_canBePaired 4) (hr : meth.sig.returnType = (some .boolean)) {p0 : Int} {p1 : Int} {s0 : Int} {M : Mem} {Q : Int → Mem → Prop} (hw : wpj_X11_canBePaired_24 p0 p1 s0 M Q) : vV p l e ({ frames := 4, cells := 0, slots := 0, locals := 100 } : Room) s m args below meth c D g A a b 4 0 0 (MQ below (cQi D g A a b Q) args s 0 0 A) M [(0, .ref (a 13)), (1, iv p0), (2, iv p1)] 24 [iv s0, .ref (a 13)] := by
  unfold wpj_X11_canBePaired_24 at hw
  refine V_iconst X dX11_canBePaired_24 ?_
  refine V_iconst X dX11_canBePaired_25 ?_
  refine V_callV_i X _ gO_13 rfl (As := [iv s0, iv 1, iv 1]) (st := []) (c_X11_goes l hw) (cwV 3 X.2.2.2.1 gX11_canBePaired_X11_goes rfl rfl rfl (by decide +kernel) ⟨Nat.le_of_ble_eq_true rfl, Nat.le_of_ble_eq_true rfl⟩) rfl (Nat.le_of_ble_eq_true rfl) ⟨Nat.le_of_ble_eq_true rfl, Nat.le_of_ble_eq_true rfl⟩ rfl dX11_canBePaired_26 (fun y9 M10 hw => ?_)
  obtain ⟨h11, hw⟩ := hw
  refine V_if_ne (tgt := 34) X h11 dX11_canBePaired_29 (by decide) (fun q12 => ?_) (fun q12 => ?_)
  · have hw := hw.1 q12
    refine V_aload_n X dX11_canBePaired_34 rfl (q := 0) rfl ?_
    refine V_iconst X dX11_canBePaired_35 ?_
    refine V_iconst X dX11_canBePaired_36 ?_
    refine V_callV_i X _ gO_13 rfl (As := [iv (-1), iv (-1)]) (st := []) (c_X11_fills l hw) (cwV 2 X.2.2.2.1 gX11_canBePaired_X11_fills rfl rfl rfl (by decide +kernel) ⟨Nat.le_of_ble_eq_true rfl, Nat.le_of_ble_eq_true rfl⟩) rfl (Nat.le_of_ble_eq_true rfl) ⟨Nat.le_of_ble_eq_true rfl, Nat.le_of_ble_eq_true rfl⟩ rfl dX11_canBePaired_37 (fun y13 M14 hw => ?_)
    refine V_istore_n (lv1 := [(0, .ref (a 13)), (1, iv p0), (2, iv p1), (3, iv y13)]) X [1, 2, 3, 0] dX11_canBePaired_40 rfl (by decide) rfl ?_
    refine V_aload_n X dX11_canBePaired_41 rfl (q := 0) rfl ?_
    refine V_aload_n X dX11_canBePaired_42 rfl (q := 0) rfl ?_
    refine V_iconst X dX11_canBePaired_43 ?_
    refine V_iload_n X dX11_canBePaired_44 rfl (q := 1) rfl ?_
    refine V_callV_i X _ gO_13 rfl (As := [iv 0, iv p0]) (st := [.ref (a 13)]) (c_X11_place l hw) (cwV 2 X.2.2.2.1 gX11_canBePaired_X11_place rfl rfl rfl (by decide +kernel) ⟨Nat.le_of_ble_eq_true rfl, Nat.le_of_ble_eq_true rfl⟩) rfl (Nat.le_of_ble_eq_true rfl) ⟨Nat.le_of_ble_eq_true rfl, Nat.le_of_ble_eq_true rfl⟩ rfl dX11_canBePaired_45 (fun y15 M16 hw => ?_)
    refine V_aload_n X dX11_canBePaired_48 rfl (q := 0) rfl ?_
    refine V_iconst X dX11_canBePaired_49 ?_
    refine V_iload_n X dX11_canBePaired_50 rfl (q := 2) rfl ?_
    refine V_callV_i X _ gO_13 rfl (As := [iv 1, iv p1]) (st := [iv y15, .ref (a 13)]) (c_X11_place l hw) (cwV 2 X.2.2.2.1 gX11_canBePaired_X11_place rfl rfl rfl (by decide +kernel) ⟨Nat.le_of_ble_eq_true rfl, Nat.le_of_ble_eq_true rfl⟩) rfl (Nat.le_of_ble_eq_true rfl) ⟨Nat.le_of_ble_eq_true rfl, Nat.le_of_ble_eq_true rfl⟩ rfl dX11_canBePaired_51 (fun y17 M18 hw => ?_)
    refine V_callV_i X _ gO_13 rfl (As := [iv y15, iv y17]) (st := []) (c_X11_fills l hw) (cwV 2 X.2.2.2.1 gX11_canBePaired_X11_fills rfl rfl rfl (by decide +kernel) ⟨Nat.le_of_ble_eq_true rfl, Nat.le_of_ble_eq_true rfl⟩) rfl (Nat.le_of_ble_eq_true rfl) ⟨Nat.le_of_ble_eq_true rfl, Nat.le_of_ble_eq_true rfl⟩ rfl dX11_canBePaired_54 (fun y19 M20 hw => ?_)
    refine V_iload_n X dX11_canBePaired_57 rfl (q := 3) rfl ?_
    obtain ⟨h21, h22, hw⟩ := hw
    refine V_icmp_ne (tgt := 65) X h21 h22 dX11_canBePaired_58 (by decide) (fun q23 => ?_) (fun q23 => ?_)
    · have hw := hw.1 q23
      refine V_iconst X dX11_canBePaired_65 ?_
      exact V_zret X hr (by decide) hw dX11_canBePaired_66
    · have hw := hw.2 q23
      refine V_iconst X dX11_canBePaired_61 ?_
      refine V_goto (tgt := 66) X dX11_canBePaired_62 (by decide) ?_
      exact V_zret X hr (by decide) hw dX11_canBePaired_66
  · have hw := hw.2 q12
    refine V_iconst X dX11_canBePaired_32 ?_
    exact V_zret X hr (by decide) hw dX11_canBePaired_33
set_option maxHeartbeats 4000000 in
set_option maxRecDepth 100000 in
theorem wkj_X11_canBePaired_23 {p : Program} {l : Launch} {e : Env} {s : State} {m : MethodId} {args : Array Value} {below : List Frame} {meth : Method} {c : Code} {D : va_G} {g : GT} {A : Nat → Prop} {a : Nat → Nat} {b : Nat → Nat → Nat} (X : vC p s m args meth c D g A RX11 wsX11_canBePaired cX11_canBePaired 4) (hr : meth.sig.returnType = (some .boolean)) {p0 : Int} {p1 : Int} {M : Mem} {Q : Int → Mem → Prop} (hw : wpj_X11_canBePaired_23 p0 p1 M Q) : vV p l e ({ frames := 4, cells := 0, slots := 0, locals := 100 } : Room) s m args below meth c D g A a b 4 0 0 (MQ below (cQi D g A a b Q) args s 0 0 A) M [(0, .ref (a 13)), (1, iv p0), (2, iv p1)] 23 [.ref (a 13)] := by
  unfold wpj_X11_canBePaired_23 at hw
  refine V_iconst X dX11_canBePaired_23 ?_
  exact wkj_X11_canBePaired_24 X hr hw
set_option maxHeartbeats 4000000 in
set_option maxRecDepth 100000 in
theorem wke_X11_canBePaired {p : Program} {l : Launch} {e : Env} {s : State} {m : MethodId} {args : Array Value} {below : List Frame} {meth : Method} {c : Code} {D : va_G} {g : GT} {A : Nat → Prop} {a : Nat → Nat} {b : Nat → Nat → Nat} (X : vC p s m args meth c D g A RX11 wsX11_canBePaired cX11_canBePaired 4) (hr : meth.sig.returnType = (some .boolean)) {p0 : Int} {p1 : Int} {M : Mem} {Q : Int → Mem → Prop} (hw : wpe_X11_canBePaired p0 p1 M Q) : vV p l e ({ frames := 4, cells := 0, slots := 0, locals := 100 } : Room) s m args below meth c D g A a b 4 0 0 (MQ below (cQi D g A a b Q) args s 0 0 A) M [(0, .ref (a 13)), (1, iv p0), (2, iv p1)] 0 [] := by
  unfold wpe_X11_canBePaired at hw
  refine V_aload_n X dX11_canBePaired_0 rfl (q := 0) rfl ?_
  refine V_aload_n X dX11_canBePaired_1 rfl (q := 0) rfl ?_
  refine V_iconst X dX11_canBePaired_2 ?_
  refine V_iload_n X dX11_canBePaired_3 rfl (q := 1) rfl ?_
  refine V_callV_i X _ gO_13 rfl (As := [iv 0, iv p0]) (st := [.ref (a 13)]) (c_X11_isNode l hw) (cwV 2 X.2.2.2.1 gX11_canBePaired_X11_isNode rfl rfl rfl (by decide +kernel) ⟨Nat.le_of_ble_eq_true rfl, Nat.le_of_ble_eq_true rfl⟩) rfl (Nat.le_of_ble_eq_true rfl) ⟨Nat.le_of_ble_eq_true rfl, Nat.le_of_ble_eq_true rfl⟩ rfl dX11_canBePaired_4 (fun y1 M2 hw => ?_)
  obtain ⟨h3, hw⟩ := hw
  refine V_if_eq (tgt := 23) X h3 dX11_canBePaired_7 (by decide) (fun q4 => ?_) (fun q4 => ?_)
  · have hw := hw.1 q4
    exact wkj_X11_canBePaired_23 X hr hw
  · have hw := hw.2 q4
    refine V_aload_n X dX11_canBePaired_10 rfl (q := 0) rfl ?_
    refine V_iconst X dX11_canBePaired_11 ?_
    refine V_iload_n X dX11_canBePaired_12 rfl (q := 2) rfl ?_
    refine V_callV_i X _ gO_13 rfl (As := [iv 1, iv p1]) (st := [.ref (a 13)]) (c_X11_isNode l hw) (cwV 2 X.2.2.2.1 gX11_canBePaired_X11_isNode rfl rfl rfl (by decide +kernel) ⟨Nat.le_of_ble_eq_true rfl, Nat.le_of_ble_eq_true rfl⟩) rfl (Nat.le_of_ble_eq_true rfl) ⟨Nat.le_of_ble_eq_true rfl, Nat.le_of_ble_eq_true rfl⟩ rfl dX11_canBePaired_13 (fun y5 M6 hw => ?_)
    obtain ⟨h7, hw⟩ := hw
    refine V_if_eq (tgt := 23) X h7 dX11_canBePaired_16 (by decide) (fun q8 => ?_) (fun q8 => ?_)
    · have hw := hw.1 q8
      exact wkj_X11_canBePaired_23 X hr hw
    · have hw := hw.2 q8
      refine V_iconst X dX11_canBePaired_19 ?_
      refine V_goto (tgt := 24) X dX11_canBePaired_20 (by decide) ?_
      exact wkj_X11_canBePaired_24 X hr hw
set_option maxHeartbeats 4000000 in
set_option maxRecDepth 100000 in
theorem c_X11_canBePaired (l : Launch) {p0 : Int} {p1 : Int} {D : va_G} {g : GT} {A : Nat → Prop} {a : Nat → Nat} {b : Nat → Nat → Nat} {M : Mem} {Q : Int → Mem → Prop} (hw : wp_X11_canBePaired M p0 p1 Q) : Met l yX11_canBePaired wsX11_canBePaired ({ frames := 4, cells := 0, slots := 0, locals := 100 } : Room) (cPc D g A a b M [.ref (a 13), iv p0, iv p1]) (cQi D g A a b Q) 0 0 A := by
  refine Met.ofW (cc := cX11_canBePaired) (maxL := 4) (ret := (some .boolean)) (by decide) rfl ?_
  intro p e s m args below meth c s₁ B hml hv
  obtain ⟨rfl, hP, hD, hG⟩ := hv
  have X : vC p s m _ meth c D g A RX11 wsX11_canBePaired cX11_canBePaired 4 := ⟨B.exec, B.bytes, findClass_of_methodNamed B.named, atoms_spec (ws := wsX11_canBePaired) B.pre, hG, hml, B.notSynchronized⟩
  have hr := B.returns
  have hl := lv_entry ([.ref (a 13), iv p0, iv p1]) (n := 4) (Nat.le_of_ble_eq_true rfl)
  rw [lg_entry_eq]
  generalize (lg_sl ([.ref (a 13), iv p0, iv p1]) ++ List.replicate (4 - (lg_sl ([.ref (a 13), iv p0, iv p1])).length) Slot.unset).toArray = ls at hl ⊢
  have hl : lv_has ls 4 [(0, .ref (a 13)), (1, iv p0), (2, iv p1)] := hl
  exact wke_X11_canBePaired X hr  hw s.heap [] ls hP hD va_S.rf hl

set_option maxRecDepth 20000 in
theorem ggX10_add_X10_treeWith : GoodIn wsX10_add wsX10_treeWith := goodIn_ca (goodIn_r _ [8, 9, 10, 11, 7, 12, 13, 14, 15, 16, 17, 18, 59, 60, 61, 62, 63, 64, 65, 66, 67, 68, 69, 70, 71, 72, 73, 74, 75, 76, 77, 78, 79, 80, 81, 82] (by decide +kernel) (by decide +kernel)) (goodIn_sub (fun _ h => List.mem_cons_of_mem _ (List.mem_append_left _ (List.mem_append_right _ h))) (by decide +kernel))
set_option maxRecDepth 20000 in
theorem gX10_add_X10_treeWith : GoodIn wsX10_add (wsV RX10 105 RX10 yX10_treeWith wsX10_treeWith) := goodIn_app (goodIn_of _ (by decide +kernel)) ggX10_add_X10_treeWith
set_option maxRecDepth 20000 in
theorem ggX10_add_X9_childCount : GoodIn wsX10_add wsX9_childCount := goodIn_r _ [22, 23, 24, 25, 26, 27, 28, 20, 29, 30, 59, 60, 61, 62, 63, 64, 65, 66, 67] (by decide +kernel) (by decide +kernel)
set_option maxRecDepth 20000 in
theorem gX10_add_X9_childCount_n109 : GoodIn wsX10_add (wsX9_childCount) := ggX10_add_X9_childCount
set_option maxRecDepth 20000 in
theorem ggX10_add_X10_needIndex : GoodIn wsX10_add wsX10_needIndex := goodIn_ca (goodIn_r _ [16, 17, 18] (by decide +kernel) (by decide +kernel)) (goodIn_sub (fun _ h => List.mem_cons_of_mem _ (List.mem_append_left _ (List.mem_append_right _ h))) (by decide +kernel))
set_option maxRecDepth 20000 in
theorem gX10_add_X10_needIndex : GoodIn wsX10_add (va_wsS RX10 81 yX10_needIndex wsX10_needIndex) := goodIn_app (goodIn_of _ (by decide +kernel)) ggX10_add_X10_needIndex
set_option maxRecDepth 20000 in
theorem ggX10_add_X10_needAtMost : GoodIn wsX10_add wsX10_needAtMost := goodIn_ca (goodIn_r _ [33, 34, 35] (by decide +kernel) (by decide +kernel)) (goodIn_sub (fun _ h => List.mem_cons_of_mem _ (List.mem_append_right _ h)) (by decide +kernel))
set_option maxRecDepth 20000 in
theorem gX10_add_X10_needAtMost : GoodIn wsX10_add (va_wsS RX10 85 yX10_needAtMost wsX10_needAtMost) := goodIn_app (goodIn_of _ (by decide +kernel)) ggX10_add_X10_needAtMost
set_option maxRecDepth 20000 in
theorem ggX10_add_X9_spotFor : GoodIn wsX10_add wsX9_spotFor := goodIn_r _ [38, 23, 39, 40, 41, 20, 42, 24, 25, 26, 27, 28, 29, 30, 59, 60, 61, 62, 63, 64, 65, 66, 67] (by decide +kernel) (by decide +kernel)
set_option maxRecDepth 20000 in
theorem gX10_add_X9_spotFor_n115 : GoodIn wsX10_add (wsX9_spotFor) := ggX10_add_X9_spotFor
set_option maxRecDepth 20000 in
theorem ggX10_add_X9_insert : GoodIn wsX10_add wsX9_insert := goodIn_r _ [45, 46, 25, 24, 47, 48, 49, 50, 51, 20, 52, 23, 30, 53, 54, 55, 56, 57, 58, 59, 60, 61, 62, 63, 64, 65, 66, 67] (by decide +kernel) (by decide +kernel)
set_option maxRecDepth 20000 in
theorem gX10_add_X9_insert_n101 : GoodIn wsX10_add (wsX9_insert) := ggX10_add_X9_insert
theorem dX10_add_0 : decode cX10_add 0 = .ok (.aload_n 0, 1) := by decide +kernel
theorem dX10_add_1 : decode cX10_add 1 = .ok (.iload_n 1, 1) := by decide +kernel
theorem dX10_add_2 : decode cX10_add 2 = .ok (.iload_n 2, 1) := by decide +kernel
theorem dX10_add_3 : decode cX10_add 3 = .ok (.invokevirtual 105, 3) := by decide +kernel
theorem dX10_add_6 : decode cX10_add 6 = .ok (.astore 6, 2) := by decide +kernel
theorem dX10_add_8 : decode cX10_add 8 = .ok (.iload_n 3, 1) := by decide +kernel
theorem dX10_add_9 : decode cX10_add 9 = .ok (.aload 6, 2) := by decide +kernel
theorem dX10_add_11 : decode cX10_add 11 = .ok (.iload_n 2, 1) := by decide +kernel
theorem dX10_add_12 : decode cX10_add 12 = .ok (.invokevirtual 109, 3) := by decide +kernel
theorem dX10_add_15 : decode cX10_add 15 = .ok (.iconst 1, 1) := by decide +kernel
theorem dX10_add_16 : decode cX10_add 16 = .ok (.iadd, 1) := by decide +kernel
theorem dX10_add_17 : decode cX10_add 17 = .ok (.invokestatic 81, 3) := by decide +kernel
theorem dX10_add_20 : decode cX10_add 20 = .ok (.iload 4, 2) := by decide +kernel
theorem dX10_add_22 : decode cX10_add 22 = .ok (.iconst 4, 1) := by decide +kernel
theorem dX10_add_23 : decode cX10_add 23 = .ok (.invokestatic 81, 3) := by decide +kernel
theorem dX10_add_26 : decode cX10_add 26 = .ok (.iload 5, 2) := by decide +kernel
theorem dX10_add_28 : decode cX10_add 28 = .ok (.bipush 99, 2) := by decide +kernel
theorem dX10_add_30 : decode cX10_add 30 = .ok (.invokestatic 85, 3) := by decide +kernel
theorem dX10_add_33 : decode cX10_add 33 = .ok (.aload 6, 2) := by decide +kernel
theorem dX10_add_35 : decode cX10_add 35 = .ok (.getfield 88, 3) := by decide +kernel
theorem dX10_add_38 : decode cX10_add 38 = .ok (.bipush 12, 2) := by decide +kernel
theorem dX10_add_40 : decode cX10_add 40 = .ok (.if_icmp .lt 13, 3) := by decide +kernel
theorem dX10_add_43 : decode cX10_add 43 = .ok (.new 94, 3) := by decide +kernel
theorem dX10_add_46 : decode cX10_add 46 = .ok (.dup, 1) := by decide +kernel
theorem dX10_add_47 : decode cX10_add 47 = .ok (.ldc 113, 2) := by decide +kernel
theorem dX10_add_49 : decode cX10_add 49 = .ok (.invokespecial 98, 3) := by decide +kernel
theorem dX10_add_52 : decode cX10_add 52 = .ok (.athrow, 1) := by decide +kernel
theorem dX10_add_53 : decode cX10_add 53 = .ok (.aload 6, 2) := by decide +kernel
theorem dX10_add_55 : decode cX10_add 55 = .ok (.iload_n 2, 1) := by decide +kernel
theorem dX10_add_56 : decode cX10_add 56 = .ok (.aload 6, 2) := by decide +kernel
theorem dX10_add_58 : decode cX10_add 58 = .ok (.iload_n 2, 1) := by decide +kernel
theorem dX10_add_59 : decode cX10_add 59 = .ok (.iload_n 3, 1) := by decide +kernel
theorem dX10_add_60 : decode cX10_add 60 = .ok (.invokevirtual 115, 3) := by decide +kernel
theorem dX10_add_63 : decode cX10_add 63 = .ok (.iload 4, 2) := by decide +kernel
theorem dX10_add_65 : decode cX10_add 65 = .ok (.iload 5, 2) := by decide +kernel
theorem dX10_add_67 : decode cX10_add 67 = .ok (.invokevirtual 101, 3) := by decide +kernel
theorem dX10_add_70 : decode cX10_add 70 = .ok (.aload_n 0, 1) := by decide +kernel
theorem dX10_add_71 : decode cX10_add 71 = .ok (.iconst 0, 1) := by decide +kernel
theorem dX10_add_72 : decode cX10_add 72 = .ok (.putfield 73, 3) := by decide +kernel
theorem dX10_add_75 : decode cX10_add 75 = .ok (.aload 6, 2) := by decide +kernel
theorem dX10_add_77 : decode cX10_add 77 = .ok (.getfield 88, 3) := by decide +kernel
theorem dX10_add_80 : decode cX10_add 80 = .ok (.iconst 1, 1) := by decide +kernel
theorem dX10_add_81 : decode cX10_add 81 = .ok (.isub, 1) := by decide +kernel
theorem dX10_add_82 : decode cX10_add 82 = .ok (.ireturn, 1) := by decide +kernel
theorem lk_X10_add_i9 : Cond.initialized RX9 ∈ wsX10_add := by decide +kernel
theorem lk_X10_add_im109 : Cond.instanceMethod yX9_childCount ∈ wsX10_add := by decide +kernel
theorem lk_X10_add_se109 : Cond.selects RX9 yX9_childCount yX9_childCount ∈ wsX10_add := by decide +kernel
theorem hi_X10_add_9 : ∀ w ∈ u_ws RX9 TX9 9, w ∈ wsX10_add := by decide +kernel
theorem lk_X10_add_im115 : Cond.instanceMethod yX9_spotFor ∈ wsX10_add := by decide +kernel
theorem lk_X10_add_se115 : Cond.selects RX9 yX9_spotFor yX9_spotFor ∈ wsX10_add := by decide +kernel
theorem lk_X10_add_im101 : Cond.instanceMethod yX9_insert ∈ wsX10_add := by decide +kernel
theorem lk_X10_add_se101 : Cond.selects RX9 yX9_insert yX9_insert ∈ wsX10_add := by decide +kernel
theorem lk_X10_add_f73 : Cond.fieldLink RX10 73 "TreeComparer" "settled" "Z" ∈ wsX10_add := by decide +kernel
theorem hi_X10_add_10 : ∀ w ∈ u_ws RX10 TX10 9, w ∈ wsX10_add := by decide +kernel
theorem lk_X10_add_k94 : Cond.classLink RX10 94 "java/lang/IllegalStateException" ∈ wsX10_add := by decide +kernel
theorem lk_X10_add_ie94 : Cond.initialized "java/lang/IllegalStateException" ∈ wsX10_add := by decide +kernel
theorem at_X10_add_98 {args : Array Value} {s : State} (h1 : ∀ w ∈ wsX10_add, w.before args s = true) (h2 : ∀ w ∈ NWs, va_Nw w s) : ∀ w ∈ vx_atS RX10 98 "java/lang/IllegalStateException" ["java/lang/RuntimeException", "java/lang/Exception"], w.before args s = true := atS_of h1 h2 (by decide +kernel) (by decide +kernel)
def wpe_X10_add (p0 : Int) (p1 : Int) (p2 : Int) (p3 : Int) (p4 : Int) (M : Mem) (Q : Int → Mem → Prop) (XQ : String → Mem → Prop) : Prop := wp_X10_treeWith M p0 p1 (fun y1 M2 => isT y1 ∧ wp_X9_childCount M2 y1 p1 (fun y3 M4 => wp_X10_needIndex M4 p2 (y3 + 1) (fun M6 => wp_X10_needIndex M6 p3 4 (fun M8 => wp_X10_needAtMost M8 p4 99 (fun M10 => inR (M10 y1 8 0) ∧ (((M10 y1 8 0) < 12 → wp_X9_spotFor M10 y1 p1 p2 (fun y13 M14 => wp_X9_insert M14 y1 p1 y13 p3 p4 (fun M16 => (∀ M17 : Mem, M17 = mset M16 0 8 0 0 → Q ((M17 y1 8 0) - 1) M17)))) ∧ (¬ ((M10 y1 8 0) < 12) → XQ "java/lang/IllegalStateException" M10))) XQ) XQ) XQ)) XQ
def wp_X10_add (M : Mem) (p0 : Int) (p1 : Int) (p2 : Int) (p3 : Int) (p4 : Int) (Q : Int → Mem → Prop) (XQ : String → Mem → Prop) : Prop := wpe_X10_add p0 p1 p2 p3 p4 M Q XQ
set_option maxHeartbeats 4000000 in
set_option maxRecDepth 100000 in
theorem wke_X10_add {p : Program} {l : Launch} {e : Env} {s : State} {m : MethodId} {args : Array Value} {below : List Frame} {meth : Method} {c : Code} {D : va_G} {g : GT} {A : Nat → Prop} {a : Nat → Nat} {b : Nat → Nat → Nat} (X : vC p s m args meth c D g A RX10 wsX10_add cX10_add 7) (hr : meth.sig.returnType = (some .int)) {p0 : Int} {p1 : Int} {p2 : Int} {p3 : Int} {p4 : Int} (hlt : l.stackTraces = false) (htab : ∀ x ∈ c.exceptionTable.toList, False) {M : Mem} {Q : Int → Mem → Prop} {XQ : String → Mem → Prop} (hw : wpe_X10_add p0 p1 p2 p3 p4 M Q XQ) : vV p l e ({ frames := 9, cells := 6, slots := 36, locals := 155 } : Room) s m args below meth c D g A a b 7 0 0 (vx_MQ below (cQi D g A a b Q) (cX D g A a b XQ) args s 6 36 A) M [(0, .ref (a 0)), (1, iv p0), (2, iv p1), (3, iv p2), (4, iv p3), (5, iv p4)] 0 [] := by
  unfold wpe_X10_add at hw
  refine V_aload_n X dX10_add_0 rfl (q := 0) rfl ?_
  refine V_iload_n X dX10_add_1 rfl (q := 1) rfl ?_
  refine V_iload_n X dX10_add_2 rfl (q := 2) rfl ?_
  refine V_callxV_r X _ _ gO_0 rfl (As := [iv p0, iv p1]) (st := []) (c_X10_treeWith l hlt hw) (cwV 2 X.2.2.2.1 gX10_add_X10_treeWith rfl rfl rfl (by decide +kernel) ⟨Nat.le_of_ble_eq_true rfl, Nat.le_of_ble_eq_true rfl⟩) rfl (Nat.le_of_ble_eq_true rfl) ⟨Nat.le_of_ble_eq_true rfl, Nat.le_of_ble_eq_true rfl⟩ rfl dX10_add_3 (fun E ce q9 M9 H9 locs9 ls9 hx9 hP9 hD9 hS9 hl9 h91 h92 h93 => V_xout X htab (Nat.le_of_ble_eq_true rfl) (Nat.le_of_ble_eq_true rfl) hx9 hP9 hD9 hS9 h91 h92 h93) (fun y1 M2 hw => ?_)
  obtain ⟨hy1, hw⟩ := hw
  refine V_astore (lv1 := [(0, .ref (a 0)), (1, iv p0), (2, iv p1), (3, iv p2), (4, iv p3), (5, iv p4), (6, .ref (a y1))]) X [1, 2, 3, 4, 5, 6, 0] dX10_add_6 (by decide) rfl ?_
  refine V_iload_n X dX10_add_8 rfl (q := 3) rfl ?_
  refine V_aload X dX10_add_9 (q := 6) rfl ?_
  refine V_iload_n X dX10_add_11 rfl (q := 2) rfl ?_
  refine V_callVN_i X _ (gTO hy1) rfl (As := [iv p1]) (st := [iv p2]) (c_X9_childCount l hy1 hw) ⟨va_cnB 1 X.2.2.2.1 gX10_add_X9_childCount_n109 rfl rfl rfl (X.2.2.2.2.1.2.1 _ (List.mem_of_getElem? (i := 122) rfl)) (X.2.2.2.1 _ lk_X10_add_i9) (by decide +kernel) ⟨Nat.le_of_ble_eq_true rfl, Nat.le_of_ble_eq_true rfl⟩, X.2.2.2.1 _ lk_X10_add_im109, X.2.2.2.1 _ lk_X10_add_se109⟩ rfl (Nat.le_of_ble_eq_true rfl) ⟨Nat.le_of_ble_eq_true rfl, Nat.le_of_ble_eq_true rfl⟩ rfl dX10_add_12 (fun y3 M4 hw => ?_)
  refine V_iconst X dX10_add_15 ?_
  refine V_iadd X dX10_add_16 ?_
  refine V_callxS_v X _ _ (As := [iv p2, iv (y3 + 1)]) (st := []) (c_X10_needIndex l hlt hw) (va_cwS 2 X.2.2.2.1 gX10_add_X10_needIndex rfl rfl rfl (by decide +kernel) ⟨Nat.le_of_ble_eq_true rfl, Nat.le_of_ble_eq_true rfl⟩) rfl (Nat.le_of_ble_eq_true rfl) ⟨Nat.le_of_ble_eq_true rfl, Nat.le_of_ble_eq_true rfl⟩ rfl dX10_add_17 (fun E ce q9 M9 H9 locs9 ls9 hx9 hP9 hD9 hS9 hl9 h91 h92 h93 => V_xout X htab (Nat.le_of_ble_eq_true rfl) (Nat.le_of_ble_eq_true rfl) hx9 hP9 hD9 hS9 h91 h92 h93) (fun M6 hw => ?_)
  refine V_iload X dX10_add_20 (q := 4) rfl ?_
  refine V_iconst X dX10_add_22 ?_
  refine V_callxS_v X _ _ (As := [iv p3, iv 4]) (st := []) (c_X10_needIndex l hlt hw) (va_cwS 2 X.2.2.2.1 gX10_add_X10_needIndex rfl rfl rfl (by decide +kernel) ⟨Nat.le_of_ble_eq_true rfl, Nat.le_of_ble_eq_true rfl⟩) rfl (Nat.le_of_ble_eq_true rfl) ⟨Nat.le_of_ble_eq_true rfl, Nat.le_of_ble_eq_true rfl⟩ rfl dX10_add_23 (fun E ce q9 M9 H9 locs9 ls9 hx9 hP9 hD9 hS9 hl9 h91 h92 h93 => V_xout X htab (Nat.le_of_ble_eq_true rfl) (Nat.le_of_ble_eq_true rfl) hx9 hP9 hD9 hS9 h91 h92 h93) (fun M8 hw => ?_)
  refine V_iload X dX10_add_26 (q := 5) rfl ?_
  refine V_bipush X dX10_add_28 rfl ?_
  refine V_callxS_v X _ _ (As := [iv p4, iv 99]) (st := []) (c_X10_needAtMost l hlt hw) (va_cwS 2 X.2.2.2.1 gX10_add_X10_needAtMost rfl rfl rfl (by decide +kernel) ⟨Nat.le_of_ble_eq_true rfl, Nat.le_of_ble_eq_true rfl⟩) rfl (Nat.le_of_ble_eq_true rfl) ⟨Nat.le_of_ble_eq_true rfl, Nat.le_of_ble_eq_true rfl⟩ rfl dX10_add_30 (fun E ce q9 M9 H9 locs9 ls9 hx9 hP9 hD9 hS9 hl9 h91 h92 h93 => V_xout X htab (Nat.le_of_ble_eq_true rfl) (Nat.le_of_ble_eq_true rfl) hx9 hP9 hD9 hS9 h91 h92 h93) (fun M10 hw => ?_)
  refine V_aload X dX10_add_33 (q := 6) rfl ?_
  refine V_getN (C := RX9) (T := TX9) (N := 9) (ci := 9) X hi_X10_add_9 (gTO hy1) rfl 8 (by decide) (List.mem_of_getElem? (i := 20) rfl) (fun _ h9 => h9) rfl dX10_add_35 ?_
  refine V_bipush X dX10_add_38 rfl ?_
  obtain ⟨h11, hw⟩ := hw
  refine V_icmp_lt (tgt := 53) X h11 ⟨by decide, by decide⟩ dX10_add_40 (by decide) (fun q12 => ?_) (fun q12 => ?_)
  · have hw := hw.1 q12
    refine V_aload X dX10_add_53 (q := 6) rfl ?_
    refine V_iload_n X dX10_add_55 rfl (q := 2) rfl ?_
    refine V_aload X dX10_add_56 (q := 6) rfl ?_
    refine V_iload_n X dX10_add_58 rfl (q := 2) rfl ?_
    refine V_iload_n X dX10_add_59 rfl (q := 3) rfl ?_
    refine V_callVN_i X _ (gTO hy1) rfl (As := [iv p1, iv p2]) (st := [iv p1, .ref (a y1)]) (c_X9_spotFor l hy1 hw) ⟨va_cnB 2 X.2.2.2.1 gX10_add_X9_spotFor_n115 rfl rfl rfl (X.2.2.2.2.1.2.1 _ (List.mem_of_getElem? (i := 123) rfl)) (X.2.2.2.1 _ lk_X10_add_i9) (by decide +kernel) ⟨Nat.le_of_ble_eq_true rfl, Nat.le_of_ble_eq_true rfl⟩, X.2.2.2.1 _ lk_X10_add_im115, X.2.2.2.1 _ lk_X10_add_se115⟩ rfl (Nat.le_of_ble_eq_true rfl) ⟨Nat.le_of_ble_eq_true rfl, Nat.le_of_ble_eq_true rfl⟩ rfl dX10_add_60 (fun y13 M14 hw => ?_)
    refine V_iload X dX10_add_63 (q := 4) rfl ?_
    refine V_iload X dX10_add_65 (q := 5) rfl ?_
    refine V_callVN_v X _ (gTO hy1) rfl (As := [iv p1, iv y13, iv p3, iv p4]) (st := []) (c_X9_insert l hy1 hw) ⟨va_cnB 4 X.2.2.2.1 gX10_add_X9_insert_n101 rfl rfl rfl (X.2.2.2.2.1.2.1 _ (List.mem_of_getElem? (i := 121) rfl)) (X.2.2.2.1 _ lk_X10_add_i9) (by decide +kernel) ⟨Nat.le_of_ble_eq_true rfl, Nat.le_of_ble_eq_true rfl⟩, X.2.2.2.1 _ lk_X10_add_im101, X.2.2.2.1 _ lk_X10_add_se101⟩ rfl (Nat.le_of_ble_eq_true rfl) ⟨Nat.le_of_ble_eq_true rfl, Nat.le_of_ble_eq_true rfl⟩ rfl dX10_add_67 (fun M16 hw => ?_)
    refine V_aload_n X dX10_add_70 rfl (q := 0) rfl ?_
    refine V_iconst X dX10_add_71 ?_
    refine V_put (C := RX10) (T := TX10) (N := 9) (ci := 10) X hi_X10_add_10 gO_0 rfl 8 (by decide) tyX10 tyX10_ok nmX10 rfl (tyX10_ok 8 (by decide)) (Or.inr ⟨rfl, by decide⟩) (show 8 < 9 from by decide) sI_0_8 lk_X10_add_f73 (fun _ h9 => h9) dX10_add_72 (fun M17 eM17 => ?_)
    have hw := hw M17 eM17
    refine V_aload X dX10_add_75 (q := 6) rfl ?_
    refine V_getN (C := RX9) (T := TX9) (N := 9) (ci := 9) X hi_X10_add_9 (gTO hy1) rfl 8 (by decide) (List.mem_of_getElem? (i := 20) rfl) (fun _ h9 => h9) rfl dX10_add_77 ?_
    refine V_iconst X dX10_add_80 ?_
    refine V_isub X dX10_add_81 ?_
    exact V_xret (Nat.le_of_ble_eq_true rfl) (Nat.le_of_ble_eq_true rfl) (V_iret X hr hw dX10_add_82)
  · have hw := hw.2 q12
    exact V_throwS (cls := "java/lang/IllegalStateException") (text := "the tree is full") (names := ["java/lang/RuntimeException", "java/lang/Exception"]) X hlt lk_X10_add_k94 lk_X10_add_ie94 (X.2.2.2.2.1.2.2.2.2.2 (RX10, 113, "the tree is full") (by decide +kernel)) (at_X10_add_98 X.2.2.2.1 X.2.2.2.2.1.2.1) htab (by decide +kernel) (Nat.le_of_ble_eq_true rfl) (Nat.le_of_ble_eq_true rfl) (Nat.le_of_ble_eq_true rfl) (Nat.le_of_ble_eq_true rfl) (Nat.le_of_ble_eq_true rfl) (Nat.le_of_ble_eq_true rfl) hw dX10_add_43 dX10_add_46 dX10_add_47 dX10_add_49 dX10_add_52
set_option maxHeartbeats 4000000 in
set_option maxRecDepth 100000 in
theorem c_X10_add (l : Launch) {p0 : Int} {p1 : Int} {p2 : Int} {p3 : Int} {p4 : Int} (hlt : l.stackTraces = false) {D : va_G} {g : GT} {A : Nat → Prop} {a : Nat → Nat} {b : Nat → Nat → Nat} {M : Mem} {Q : Int → Mem → Prop} {XQ : String → Mem → Prop} (hw : wp_X10_add M p0 p1 p2 p3 p4 Q XQ) : vx_Met l yX10_add wsX10_add ({ frames := 9, cells := 6, slots := 36, locals := 155 } : Room) (cPc D g A a b M [.ref (a 0), iv p0, iv p1, iv p2, iv p3, iv p4]) (cQi D g A a b Q) (cX D g A a b XQ) 6 36 A := by
  refine vx_ofW (cc := cX10_add) (maxL := 7) (ret := (some .int)) (by decide) rfl ?_
  intro p e s m args below meth c s₁ B hml htab hv
  obtain ⟨rfl, hP, hD, hG⟩ := hv
  have X : vC p s m _ meth c D g A RX10 wsX10_add cX10_add 7 := ⟨B.exec, B.bytes, findClass_of_methodNamed B.named, atoms_spec (ws := wsX10_add) B.pre, hG, hml, B.notSynchronized⟩
  have hr := B.returns
  have hl := lv_entry ([.ref (a 0), iv p0, iv p1, iv p2, iv p3, iv p4]) (n := 7) (Nat.le_of_ble_eq_true rfl)
  rw [lg_entry_eq]
  generalize (lg_sl ([.ref (a 0), iv p0, iv p1, iv p2, iv p3, iv p4]) ++ List.replicate (7 - (lg_sl ([.ref (a 0), iv p0, iv p1, iv p2, iv p3, iv p4])).length) Slot.unset).toArray = ls at hl ⊢
  have hl : lv_has ls 7 [(0, .ref (a 0)), (1, iv p0), (2, iv p1), (3, iv p2), (4, iv p3), (5, iv p4)] := hl
  exact wke_X10_add X hr hlt htab hw s.heap [] ls hP hD va_S.rf hl
