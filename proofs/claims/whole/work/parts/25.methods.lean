theorem dX9_sameSubtrees_0 : decode cX9_sameSubtrees 0 = .ok (.aload_n 0, 1) := by decide +kernel
theorem dX9_sameSubtrees_1 : decode cX9_sameSubtrees 1 = .ok (.getfield 30, 3) := by decide +kernel
theorem dX9_sameSubtrees_4 : decode cX9_sameSubtrees 4 = .ok (.iload_n 1, 1) := by decide +kernel
theorem dX9_sameSubtrees_5 : decode cX9_sameSubtrees 5 = .ok (.iaload, 1) := by decide +kernel
theorem dX9_sameSubtrees_6 : decode cX9_sameSubtrees 6 = .ok (.aload_n 2, 1) := by decide +kernel
theorem dX9_sameSubtrees_7 : decode cX9_sameSubtrees 7 = .ok (.getfield 30, 3) := by decide +kernel
theorem dX9_sameSubtrees_10 : decode cX9_sameSubtrees 10 = .ok (.iload_n 3, 1) := by decide +kernel
theorem dX9_sameSubtrees_11 : decode cX9_sameSubtrees 11 = .ok (.iaload, 1) := by decide +kernel
theorem dX9_sameSubtrees_12 : decode cX9_sameSubtrees 12 = .ok (.if_icmp .eq 5, 3) := by decide +kernel
theorem dX9_sameSubtrees_15 : decode cX9_sameSubtrees 15 = .ok (.iconst 0, 1) := by decide +kernel
theorem dX9_sameSubtrees_16 : decode cX9_sameSubtrees 16 = .ok (.ireturn, 1) := by decide +kernel
theorem dX9_sameSubtrees_17 : decode cX9_sameSubtrees 17 = .ok (.iconst 0, 1) := by decide +kernel
theorem dX9_sameSubtrees_18 : decode cX9_sameSubtrees 18 = .ok (.istore 4, 2) := by decide +kernel
theorem dX9_sameSubtrees_20 : decode cX9_sameSubtrees 20 = .ok (.iload 4, 2) := by decide +kernel
theorem dX9_sameSubtrees_22 : decode cX9_sameSubtrees 22 = .ok (.aload_n 0, 1) := by decide +kernel
theorem dX9_sameSubtrees_23 : decode cX9_sameSubtrees 23 = .ok (.getfield 30, 3) := by decide +kernel
theorem dX9_sameSubtrees_26 : decode cX9_sameSubtrees 26 = .ok (.iload_n 1, 1) := by decide +kernel
theorem dX9_sameSubtrees_27 : decode cX9_sameSubtrees 27 = .ok (.iaload, 1) := by decide +kernel
theorem dX9_sameSubtrees_28 : decode cX9_sameSubtrees 28 = .ok (.if_icmp .ge 94, 3) := by decide +kernel
theorem dX9_sameSubtrees_31 : decode cX9_sameSubtrees 31 = .ok (.aload_n 0, 1) := by decide +kernel
theorem dX9_sameSubtrees_32 : decode cX9_sameSubtrees 32 = .ok (.getfield 21, 3) := by decide +kernel
theorem dX9_sameSubtrees_35 : decode cX9_sameSubtrees 35 = .ok (.aload_n 0, 1) := by decide +kernel
theorem dX9_sameSubtrees_36 : decode cX9_sameSubtrees 36 = .ok (.getfield 27, 3) := by decide +kernel
theorem dX9_sameSubtrees_39 : decode cX9_sameSubtrees 39 = .ok (.iload_n 1, 1) := by decide +kernel
theorem dX9_sameSubtrees_40 : decode cX9_sameSubtrees 40 = .ok (.iaload, 1) := by decide +kernel
theorem dX9_sameSubtrees_41 : decode cX9_sameSubtrees 41 = .ok (.iload 4, 2) := by decide +kernel
theorem dX9_sameSubtrees_43 : decode cX9_sameSubtrees 43 = .ok (.iadd, 1) := by decide +kernel
theorem dX9_sameSubtrees_44 : decode cX9_sameSubtrees 44 = .ok (.iaload, 1) := by decide +kernel
theorem dX9_sameSubtrees_45 : decode cX9_sameSubtrees 45 = .ok (.istore 5, 2) := by decide +kernel
theorem dX9_sameSubtrees_47 : decode cX9_sameSubtrees 47 = .ok (.aload_n 2, 1) := by decide +kernel
theorem dX9_sameSubtrees_48 : decode cX9_sameSubtrees 48 = .ok (.getfield 21, 3) := by decide +kernel
theorem dX9_sameSubtrees_51 : decode cX9_sameSubtrees 51 = .ok (.aload_n 2, 1) := by decide +kernel
theorem dX9_sameSubtrees_52 : decode cX9_sameSubtrees 52 = .ok (.getfield 27, 3) := by decide +kernel
theorem dX9_sameSubtrees_55 : decode cX9_sameSubtrees 55 = .ok (.iload_n 3, 1) := by decide +kernel
theorem dX9_sameSubtrees_56 : decode cX9_sameSubtrees 56 = .ok (.iaload, 1) := by decide +kernel
theorem dX9_sameSubtrees_57 : decode cX9_sameSubtrees 57 = .ok (.iload 4, 2) := by decide +kernel
theorem dX9_sameSubtrees_59 : decode cX9_sameSubtrees 59 = .ok (.iadd, 1) := by decide +kernel
theorem dX9_sameSubtrees_60 : decode cX9_sameSubtrees 60 = .ok (.iaload, 1) := by decide +kernel
theorem dX9_sameSubtrees_61 : decode cX9_sameSubtrees 61 = .ok (.istore 6, 2) := by decide +kernel
theorem dX9_sameSubtrees_63 : decode cX9_sameSubtrees 63 = .ok (.aload_n 0, 1) := by decide +kernel
theorem dX9_sameSubtrees_64 : decode cX9_sameSubtrees 64 = .ok (.getfield 9, 3) := by decide +kernel
theorem dX9_sameSubtrees_67 : decode cX9_sameSubtrees 67 = .ok (.iload 5, 2) := by decide +kernel
theorem dX9_sameSubtrees_69 : decode cX9_sameSubtrees 69 = .ok (.iaload, 1) := by decide +kernel
theorem dX9_sameSubtrees_70 : decode cX9_sameSubtrees 70 = .ok (.aload_n 2, 1) := by decide +kernel
theorem dX9_sameSubtrees_71 : decode cX9_sameSubtrees 71 = .ok (.getfield 9, 3) := by decide +kernel
theorem dX9_sameSubtrees_74 : decode cX9_sameSubtrees 74 = .ok (.iload 6, 2) := by decide +kernel
theorem dX9_sameSubtrees_76 : decode cX9_sameSubtrees 76 = .ok (.iaload, 1) := by decide +kernel
theorem dX9_sameSubtrees_77 : decode cX9_sameSubtrees 77 = .ok (.if_icmp .ne 37, 3) := by decide +kernel
theorem dX9_sameSubtrees_80 : decode cX9_sameSubtrees 80 = .ok (.aload_n 0, 1) := by decide +kernel
theorem dX9_sameSubtrees_81 : decode cX9_sameSubtrees 81 = .ok (.getfield 15, 3) := by decide +kernel
theorem dX9_sameSubtrees_84 : decode cX9_sameSubtrees 84 = .ok (.iload 5, 2) := by decide +kernel
theorem dX9_sameSubtrees_86 : decode cX9_sameSubtrees 86 = .ok (.iaload, 1) := by decide +kernel
theorem dX9_sameSubtrees_87 : decode cX9_sameSubtrees 87 = .ok (.aload_n 2, 1) := by decide +kernel
theorem dX9_sameSubtrees_88 : decode cX9_sameSubtrees 88 = .ok (.getfield 15, 3) := by decide +kernel
theorem dX9_sameSubtrees_91 : decode cX9_sameSubtrees 91 = .ok (.iload 6, 2) := by decide +kernel
theorem dX9_sameSubtrees_93 : decode cX9_sameSubtrees 93 = .ok (.iaload, 1) := by decide +kernel
theorem dX9_sameSubtrees_94 : decode cX9_sameSubtrees 94 = .ok (.if_icmp .ne 20, 3) := by decide +kernel
theorem dX9_sameSubtrees_97 : decode cX9_sameSubtrees 97 = .ok (.aload_n 0, 1) := by decide +kernel
theorem dX9_sameSubtrees_98 : decode cX9_sameSubtrees 98 = .ok (.getfield 30, 3) := by decide +kernel
theorem dX9_sameSubtrees_101 : decode cX9_sameSubtrees 101 = .ok (.iload 5, 2) := by decide +kernel
theorem dX9_sameSubtrees_103 : decode cX9_sameSubtrees 103 = .ok (.iaload, 1) := by decide +kernel
theorem dX9_sameSubtrees_104 : decode cX9_sameSubtrees 104 = .ok (.aload_n 2, 1) := by decide +kernel
theorem dX9_sameSubtrees_105 : decode cX9_sameSubtrees 105 = .ok (.getfield 30, 3) := by decide +kernel
theorem dX9_sameSubtrees_108 : decode cX9_sameSubtrees 108 = .ok (.iload 6, 2) := by decide +kernel
theorem dX9_sameSubtrees_110 : decode cX9_sameSubtrees 110 = .ok (.iaload, 1) := by decide +kernel
theorem dX9_sameSubtrees_111 : decode cX9_sameSubtrees 111 = .ok (.if_icmp .eq 5, 3) := by decide +kernel
theorem dX9_sameSubtrees_114 : decode cX9_sameSubtrees 114 = .ok (.iconst 0, 1) := by decide +kernel
theorem dX9_sameSubtrees_115 : decode cX9_sameSubtrees 115 = .ok (.ireturn, 1) := by decide +kernel
theorem dX9_sameSubtrees_116 : decode cX9_sameSubtrees 116 = .ok (.iinc 4 1, 3) := by decide +kernel
theorem dX9_sameSubtrees_119 : decode cX9_sameSubtrees 119 = .ok (.goto (-99), 3) := by decide +kernel
theorem dX9_sameSubtrees_122 : decode cX9_sameSubtrees 122 = .ok (.iconst 1, 1) := by decide +kernel
theorem dX9_sameSubtrees_123 : decode cX9_sameSubtrees 123 = .ok (.ireturn, 1) := by decide +kernel
theorem lk_X9_sameSubtrees_f30 : Cond.fieldLink RX9 30 "TreeComparer$Tree" "size" "[I" ∈ wsX9_sameSubtrees := by decide +kernel
theorem hi_X9_sameSubtrees_9 : ∀ w ∈ u_ws RX9 TX9 9, w ∈ wsX9_sameSubtrees := by decide +kernel
theorem lk_X9_sameSubtrees_f21 : Cond.fieldLink RX9 21 "TreeComparer$Tree" "preorder" "[I" ∈ wsX9_sameSubtrees := by decide +kernel
theorem lk_X9_sameSubtrees_f27 : Cond.fieldLink RX9 27 "TreeComparer$Tree" "prePlace" "[I" ∈ wsX9_sameSubtrees := by decide +kernel
theorem lk_X9_sameSubtrees_f9 : Cond.fieldLink RX9 9 "TreeComparer$Tree" "kind" "[I" ∈ wsX9_sameSubtrees := by decide +kernel
theorem lk_X9_sameSubtrees_f15 : Cond.fieldLink RX9 15 "TreeComparer$Tree" "label" "[I" ∈ wsX9_sameSubtrees := by decide +kernel
def wph_X9_sameSubtrees_20 (p0 : Nat) (p1 : Int) (p2 : Nat) (p3 : Int) (x4 : Int) (M : Mem) (J20 : Int → Mem → Prop) (Q : Int → Mem → Prop) : Prop := ((0 : Int) ≤ p1 ∧ p1 < 12) ∧ inR x4 ∧ inR (M p0 6 p1.toNat) ∧ (((M p0 6 p1.toNat) ≤ x4 → Q 1 M) ∧ (¬ ((M p0 6 p1.toNat) ≤ x4) → ((0 : Int) ≤ p1 ∧ p1 < 12) ∧ ((0 : Int) ≤ (M p0 5 p1.toNat) + x4 ∧ (M p0 5 p1.toNat) + x4 < 12) ∧ (∀ y12 : Int, y12 = (M p0 3 ((M p0 5 p1.toNat) + x4).toNat) → ((0 : Int) ≤ p3 ∧ p3 < 12) ∧ ((0 : Int) ≤ (M p2 5 p3.toNat) + x4 ∧ (M p2 5 p3.toNat) + x4 < 12) ∧ (∀ y15 : Int, y15 = (M p2 3 ((M p2 5 p3.toNat) + x4).toNat) → ((0 : Int) ≤ y12 ∧ y12 < 12) ∧ ((0 : Int) ≤ y15 ∧ y15 < 12) ∧ inR (M p0 0 y12.toNat) ∧ inR (M p2 0 y15.toNat) ∧ (((M p0 0 y12.toNat) ≠ (M p2 0 y15.toNat) → Q 0 M) ∧ (¬ ((M p0 0 y12.toNat) ≠ (M p2 0 y15.toNat)) → ((0 : Int) ≤ y12 ∧ y12 < 12) ∧ ((0 : Int) ≤ y15 ∧ y15 < 12) ∧ inR (M p0 1 y12.toNat) ∧ inR (M p2 1 y15.toNat) ∧ (((M p0 1 y12.toNat) ≠ (M p2 1 y15.toNat) → Q 0 M) ∧ (¬ ((M p0 1 y12.toNat) ≠ (M p2 1 y15.toNat)) → ((0 : Int) ≤ y12 ∧ y12 < 12) ∧ ((0 : Int) ≤ y15 ∧ y15 < 12) ∧ inR (M p0 6 y12.toNat) ∧ inR (M p2 6 y15.toNat) ∧ (((M p0 6 y12.toNat) = (M p2 6 y15.toNat) → J20 (x4 + 1) M) ∧ (¬ ((M p0 6 y12.toNat) = (M p2 6 y15.toNat)) → Q 0 M))))))))))
def wpe_X9_sameSubtrees (p0 : Nat) (p1 : Int) (p2 : Nat) (p3 : Int) (M : Mem) (J20 : Int → Mem → Prop) (Q : Int → Mem → Prop) : Prop := ((0 : Int) ≤ p1 ∧ p1 < 12) ∧ ((0 : Int) ≤ p3 ∧ p3 < 12) ∧ inR (M p0 6 p1.toNat) ∧ inR (M p2 6 p3.toNat) ∧ (((M p0 6 p1.toNat) = (M p2 6 p3.toNat) → J20 0 M) ∧ (¬ ((M p0 6 p1.toNat) = (M p2 6 p3.toNat)) → Q 0 M))
def wp_X9_sameSubtrees (M : Mem) (p0 : Nat) (p1 : Int) (p2 : Nat) (p3 : Int) (Q : Int → Mem → Prop) : Prop := ∃ (I20 : Nat → Int → Mem → Prop), wpe_X9_sameSubtrees p0 p1 p2 p3 M (fun (x4 : Int) (M1 : Mem) => ∃ n1 : Nat, I20 n1 x4 M1) Q ∧ (∀ (n : Nat) (x4 : Int) (M : Mem), I20 n x4 M → wph_X9_sameSubtrees_20 p0 p1 p2 p3 x4 M (fun (x4 : Int) (M1 : Mem) => ∃ n1 : Nat, n1 < n ∧ I20 n1 x4 M1) Q)
set_option maxHeartbeats 4000000 in
set_option maxRecDepth 100000 in
theorem wkh_X9_sameSubtrees_20 {p : Program} {l : Launch} {e : Env} {s : State} {m : MethodId} {args : Array Value} {below : List Frame} {meth : Method} {c : Code} {D : va_G} {g : GT} {A : Nat → Prop} {a : Nat → Nat} {b : Nat → Nat → Nat} (X : vC p s m args meth c D g A RX9 wsX9_sameSubtrees cX9_sameSubtrees 7) (hr : meth.sig.returnType = (some .boolean)) {p0 : Nat} {p1 : Int} {p2 : Nat} {p3 : Int} (hp0 : isT p0) (hp2 : isT p2) {x4 : Int} {M : Mem} {J20 : Int → Mem → Prop} {Q : Int → Mem → Prop} (hJ20 : ∀ (x4 : Int) (M : Mem), J20 x4 M → vV p l e ({ frames := 0, cells := 0, slots := 0, locals := 0 } : Room) s m args below meth c D g A a b 7 0 0 (MQ below (cQi D g A a b Q) args s 0 0 A) M [(0, .ref (a p0)), (1, iv p1), (2, .ref (a p2)), (3, iv p3), (4, iv x4)] 20 []) (hw : wph_X9_sameSubtrees_20 p0 p1 p2 p3 x4 M J20 Q) : vV p l e ({ frames := 0, cells := 0, slots := 0, locals := 0 } : Room) s m args below meth c D g A a b 7 0 0 (MQ below (cQi D g A a b Q) args s 0 0 A) M [(0, .ref (a p0)), (1, iv p1), (2, .ref (a p2)), (3, iv p3), (4, iv x4)] 20 [] := by
  unfold wph_X9_sameSubtrees_20 at hw
  refine V_iload X dX9_sameSubtrees_20 (q := 4) rfl ?_
  refine V_aload_n X dX9_sameSubtrees_22 rfl (q := 0) rfl ?_
  refine V_get (C := RX9) (T := TX9) (N := 9) (ci := 9) X hi_X9_sameSubtrees_9 (gTO hp0) rfl 6 (by decide) lk_X9_sameSubtrees_f30 (fun _ h9 => h9) rfl dX9_sameSubtrees_23 ?_
  refine V_iload_n X dX9_sameSubtrees_26 rfl (q := 1) rfl ?_
  obtain ⟨h6, hw⟩ := hw
  refine V_iald X ((gT_6 hp0)) h6 (by decide) dX9_sameSubtrees_27 ?_
  obtain ⟨h7, h8, hw⟩ := hw
  refine V_icmp_ge (tgt := 122) X h7 h8 dX9_sameSubtrees_28 (by decide) (fun q9 => ?_) (fun q9 => ?_)
  · have hw := hw.1 q9
    refine V_iconst X dX9_sameSubtrees_122 ?_
    exact V_zret X hr (by decide) hw dX9_sameSubtrees_123
  · have hw := hw.2 q9
    refine V_aload_n X dX9_sameSubtrees_31 rfl (q := 0) rfl ?_
    refine V_get (C := RX9) (T := TX9) (N := 9) (ci := 9) X hi_X9_sameSubtrees_9 (gTO hp0) rfl 3 (by decide) lk_X9_sameSubtrees_f21 (fun _ h9 => h9) rfl dX9_sameSubtrees_32 ?_
    refine V_aload_n X dX9_sameSubtrees_35 rfl (q := 0) rfl ?_
    refine V_get (C := RX9) (T := TX9) (N := 9) (ci := 9) X hi_X9_sameSubtrees_9 (gTO hp0) rfl 5 (by decide) lk_X9_sameSubtrees_f27 (fun _ h9 => h9) rfl dX9_sameSubtrees_36 ?_
    refine V_iload_n X dX9_sameSubtrees_39 rfl (q := 1) rfl ?_
    obtain ⟨h10, hw⟩ := hw
    refine V_iald X ((gT_5 hp0)) h10 (by decide) dX9_sameSubtrees_40 ?_
    refine V_iload X dX9_sameSubtrees_41 (q := 4) rfl ?_
    refine V_iadd X dX9_sameSubtrees_43 ?_
    obtain ⟨h11, hw⟩ := hw
    refine V_iald X ((gT_3 hp0)) h11 (by decide) dX9_sameSubtrees_44 ?_
    refine V_top (fun y12 ey12 => ?_)
    have hw := hw y12 ey12
    refine V_istore (lv1 := [(0, .ref (a p0)), (1, iv p1), (2, .ref (a p2)), (3, iv p3), (4, iv x4), (5, iv y12)]) X [1, 2, 3, 4, 5, 0] dX9_sameSubtrees_45 (by decide) rfl ?_
    refine V_aload_n X dX9_sameSubtrees_47 rfl (q := 2) rfl ?_
    refine V_get (C := RX9) (T := TX9) (N := 9) (ci := 9) X hi_X9_sameSubtrees_9 (gTO hp2) rfl 3 (by decide) lk_X9_sameSubtrees_f21 (fun _ h9 => h9) rfl dX9_sameSubtrees_48 ?_
    refine V_aload_n X dX9_sameSubtrees_51 rfl (q := 2) rfl ?_
    refine V_get (C := RX9) (T := TX9) (N := 9) (ci := 9) X hi_X9_sameSubtrees_9 (gTO hp2) rfl 5 (by decide) lk_X9_sameSubtrees_f27 (fun _ h9 => h9) rfl dX9_sameSubtrees_52 ?_
    refine V_iload_n X dX9_sameSubtrees_55 rfl (q := 3) rfl ?_
    obtain ⟨h13, hw⟩ := hw
    refine V_iald X ((gT_5 hp2)) h13 (by decide) dX9_sameSubtrees_56 ?_
    refine V_iload X dX9_sameSubtrees_57 (q := 4) rfl ?_
    refine V_iadd X dX9_sameSubtrees_59 ?_
    obtain ⟨h14, hw⟩ := hw
    refine V_iald X ((gT_3 hp2)) h14 (by decide) dX9_sameSubtrees_60 ?_
    refine V_top (fun y15 ey15 => ?_)
    have hw := hw y15 ey15
    refine V_istore (lv1 := [(0, .ref (a p0)), (1, iv p1), (2, .ref (a p2)), (3, iv p3), (4, iv x4), (5, iv y12), (6, iv y15)]) X [1, 2, 3, 4, 5, 6, 0] dX9_sameSubtrees_61 (by decide) rfl ?_
    refine V_aload_n X dX9_sameSubtrees_63 rfl (q := 0) rfl ?_
    refine V_get (C := RX9) (T := TX9) (N := 9) (ci := 9) X hi_X9_sameSubtrees_9 (gTO hp0) rfl 0 (by decide) lk_X9_sameSubtrees_f9 (fun _ h9 => h9) rfl dX9_sameSubtrees_64 ?_
    refine V_iload X dX9_sameSubtrees_67 (q := 5) rfl ?_
    obtain ⟨h16, hw⟩ := hw
    refine V_iald X ((gT_0 hp0)) h16 (by decide) dX9_sameSubtrees_69 ?_
    refine V_aload_n X dX9_sameSubtrees_70 rfl (q := 2) rfl ?_
    refine V_get (C := RX9) (T := TX9) (N := 9) (ci := 9) X hi_X9_sameSubtrees_9 (gTO hp2) rfl 0 (by decide) lk_X9_sameSubtrees_f9 (fun _ h9 => h9) rfl dX9_sameSubtrees_71 ?_
    refine V_iload X dX9_sameSubtrees_74 (q := 6) rfl ?_
    obtain ⟨h17, hw⟩ := hw
    refine V_iald X ((gT_0 hp2)) h17 (by decide) dX9_sameSubtrees_76 ?_
    obtain ⟨h18, h19, hw⟩ := hw
    refine V_icmp_ne (tgt := 114) X h18 h19 dX9_sameSubtrees_77 (by decide) (fun q20 => ?_) (fun q20 => ?_)
    · have hw := hw.1 q20
      refine V_iconst X dX9_sameSubtrees_114 ?_
      exact V_zret X hr (by decide) hw dX9_sameSubtrees_115
    · have hw := hw.2 q20
      refine V_aload_n X dX9_sameSubtrees_80 rfl (q := 0) rfl ?_
      refine V_get (C := RX9) (T := TX9) (N := 9) (ci := 9) X hi_X9_sameSubtrees_9 (gTO hp0) rfl 1 (by decide) lk_X9_sameSubtrees_f15 (fun _ h9 => h9) rfl dX9_sameSubtrees_81 ?_
      refine V_iload X dX9_sameSubtrees_84 (q := 5) rfl ?_
      obtain ⟨h21, hw⟩ := hw
      refine V_iald X ((gT_1 hp0)) h21 (by decide) dX9_sameSubtrees_86 ?_
      refine V_aload_n X dX9_sameSubtrees_87 rfl (q := 2) rfl ?_
      refine V_get (C := RX9) (T := TX9) (N := 9) (ci := 9) X hi_X9_sameSubtrees_9 (gTO hp2) rfl 1 (by decide) lk_X9_sameSubtrees_f15 (fun _ h9 => h9) rfl dX9_sameSubtrees_88 ?_
      refine V_iload X dX9_sameSubtrees_91 (q := 6) rfl ?_
      obtain ⟨h22, hw⟩ := hw
      refine V_iald X ((gT_1 hp2)) h22 (by decide) dX9_sameSubtrees_93 ?_
      obtain ⟨h23, h24, hw⟩ := hw
      refine V_icmp_ne (tgt := 114) X h23 h24 dX9_sameSubtrees_94 (by decide) (fun q25 => ?_) (fun q25 => ?_)
      · have hw := hw.1 q25
        refine V_iconst X dX9_sameSubtrees_114 ?_
        exact V_zret X hr (by decide) hw dX9_sameSubtrees_115
      · have hw := hw.2 q25
        refine V_aload_n X dX9_sameSubtrees_97 rfl (q := 0) rfl ?_
        refine V_get (C := RX9) (T := TX9) (N := 9) (ci := 9) X hi_X9_sameSubtrees_9 (gTO hp0) rfl 6 (by decide) lk_X9_sameSubtrees_f30 (fun _ h9 => h9) rfl dX9_sameSubtrees_98 ?_
        refine V_iload X dX9_sameSubtrees_101 (q := 5) rfl ?_
        obtain ⟨h26, hw⟩ := hw
        refine V_iald X ((gT_6 hp0)) h26 (by decide) dX9_sameSubtrees_103 ?_
        refine V_aload_n X dX9_sameSubtrees_104 rfl (q := 2) rfl ?_
        refine V_get (C := RX9) (T := TX9) (N := 9) (ci := 9) X hi_X9_sameSubtrees_9 (gTO hp2) rfl 6 (by decide) lk_X9_sameSubtrees_f30 (fun _ h9 => h9) rfl dX9_sameSubtrees_105 ?_
        refine V_iload X dX9_sameSubtrees_108 (q := 6) rfl ?_
        obtain ⟨h27, hw⟩ := hw
        refine V_iald X ((gT_6 hp2)) h27 (by decide) dX9_sameSubtrees_110 ?_
        obtain ⟨h28, h29, hw⟩ := hw
        refine V_icmp_eq (tgt := 116) X h28 h29 dX9_sameSubtrees_111 (by decide) (fun q30 => ?_) (fun q30 => ?_)
        · have hw := hw.1 q30
          refine V_iinc (lv1 := [(0, .ref (a p0)), (1, iv p1), (2, .ref (a p2)), (3, iv p3), (4, iv (x4 + 1)), (5, iv y12), (6, iv y15)]) X [1, 2, 3, 4, 0, 5, 6] dX9_sameSubtrees_116 (q := 4) rfl (by decide) rfl ?_
          refine V_goto (tgt := 20) X dX9_sameSubtrees_119 (by decide) ?_
          refine V_sub (lv1 := [(0, .ref (a p0)), (1, iv p1), (2, .ref (a p2)), (3, iv p3), (4, iv (x4 + 1))]) [0, 1, 2, 3, 4] rfl ?_
          exact hJ20 _ _ hw
        · have hw := hw.2 q30
          refine V_iconst X dX9_sameSubtrees_114 ?_
          exact V_zret X hr (by decide) hw dX9_sameSubtrees_115
set_option maxHeartbeats 4000000 in
set_option maxRecDepth 100000 in
theorem wke_X9_sameSubtrees {p : Program} {l : Launch} {e : Env} {s : State} {m : MethodId} {args : Array Value} {below : List Frame} {meth : Method} {c : Code} {D : va_G} {g : GT} {A : Nat → Prop} {a : Nat → Nat} {b : Nat → Nat → Nat} (X : vC p s m args meth c D g A RX9 wsX9_sameSubtrees cX9_sameSubtrees 7) (hr : meth.sig.returnType = (some .boolean)) {p0 : Nat} {p1 : Int} {p2 : Nat} {p3 : Int} (hp0 : isT p0) (hp2 : isT p2) {M : Mem} {J20 : Int → Mem → Prop} {Q : Int → Mem → Prop} (hJ20 : ∀ (x4 : Int) (M : Mem), J20 x4 M → vV p l e ({ frames := 0, cells := 0, slots := 0, locals := 0 } : Room) s m args below meth c D g A a b 7 0 0 (MQ below (cQi D g A a b Q) args s 0 0 A) M [(0, .ref (a p0)), (1, iv p1), (2, .ref (a p2)), (3, iv p3), (4, iv x4)] 20 []) (hw : wpe_X9_sameSubtrees p0 p1 p2 p3 M J20 Q) : vV p l e ({ frames := 0, cells := 0, slots := 0, locals := 0 } : Room) s m args below meth c D g A a b 7 0 0 (MQ below (cQi D g A a b Q) args s 0 0 A) M [(0, .ref (a p0)), (1, iv p1), (2, .ref (a p2)), (3, iv p3)] 0 [] := by
  unfold wpe_X9_sameSubtrees at hw
  refine V_aload_n X dX9_sameSubtrees_0 rfl (q := 0) rfl ?_
  refine V_get (C := RX9) (T := TX9) (N := 9) (ci := 9) X hi_X9_sameSubtrees_9 (gTO hp0) rfl 6 (by decide) lk_X9_sameSubtrees_f30 (fun _ h9 => h9) rfl dX9_sameSubtrees_1 ?_
  refine V_iload_n X dX9_sameSubtrees_4 rfl (q := 1) rfl ?_
  obtain ⟨h1, hw⟩ := hw
  refine V_iald X ((gT_6 hp0)) h1 (by decide) dX9_sameSubtrees_5 ?_
  refine V_aload_n X dX9_sameSubtrees_6 rfl (q := 2) rfl ?_
  refine V_get (C := RX9) (T := TX9) (N := 9) (ci := 9) X hi_X9_sameSubtrees_9 (gTO hp2) rfl 6 (by decide) lk_X9_sameSubtrees_f30 (fun _ h9 => h9) rfl dX9_sameSubtrees_7 ?_
  refine V_iload_n X dX9_sameSubtrees_10 rfl (q := 3) rfl ?_
  obtain ⟨h2, hw⟩ := hw
  refine V_iald X ((gT_6 hp2)) h2 (by decide) dX9_sameSubtrees_11 ?_
  obtain ⟨h3, h4, hw⟩ := hw
  refine V_icmp_eq (tgt := 17) X h3 h4 dX9_sameSubtrees_12 (by decide) (fun q5 => ?_) (fun q5 => ?_)
  · have hw := hw.1 q5
    refine V_iconst X dX9_sameSubtrees_17 ?_
    refine V_istore (lv1 := [(0, .ref (a p0)), (1, iv p1), (2, .ref (a p2)), (3, iv p3), (4, iv 0)]) X [1, 2, 3, 4, 0] dX9_sameSubtrees_18 (by decide) rfl ?_
    exact hJ20 _ _ hw
  · have hw := hw.2 q5
    refine V_iconst X dX9_sameSubtrees_15 ?_
    exact V_zret X hr (by decide) hw dX9_sameSubtrees_16
set_option maxHeartbeats 4000000 in
set_option maxRecDepth 100000 in
theorem c_X9_sameSubtrees (l : Launch) {p0 : Nat} {p1 : Int} {p2 : Nat} {p3 : Int} (hp0 : isT p0) (hp2 : isT p2) {D : va_G} {g : GT} {A : Nat → Prop} {a : Nat → Nat} {b : Nat → Nat → Nat} {M : Mem} {Q : Int → Mem → Prop} (hw : wp_X9_sameSubtrees M p0 p1 p2 p3 Q) : Met l yX9_sameSubtrees wsX9_sameSubtrees ({ frames := 0, cells := 0, slots := 0, locals := 0 } : Room) (cPc D g A a b M [.ref (a p0), iv p1, .ref (a p2), iv p3]) (cQi D g A a b Q) 0 0 A := by
  refine Met.ofW (cc := cX9_sameSubtrees) (maxL := 7) (ret := (some .boolean)) (by decide) rfl ?_
  intro p e s m args below meth c s₁ B hml hv
  obtain ⟨rfl, hP, hD, hG⟩ := hv
  have X : vC p s m _ meth c D g A RX9 wsX9_sameSubtrees cX9_sameSubtrees 7 := ⟨B.exec, B.bytes, findClass_of_methodNamed B.named, atoms_spec (ws := wsX9_sameSubtrees) B.pre, hG, hml, B.notSynchronized⟩
  have hr := B.returns
  have hl := lv_entry ([.ref (a p0), iv p1, .ref (a p2), iv p3]) (n := 7) (Nat.le_of_ble_eq_true rfl)
  rw [lg_entry_eq]
  generalize (lg_sl ([.ref (a p0), iv p1, .ref (a p2), iv p3]) ++ List.replicate (7 - (lg_sl ([.ref (a p0), iv p1, .ref (a p2), iv p3])).length) Slot.unset).toArray = ls at hl ⊢
  have hl : lv_has ls 7 [(0, .ref (a p0)), (1, iv p1), (2, .ref (a p2)), (3, iv p3)] := hl
  obtain ⟨I20, hw, hI20⟩ := hw
  have K : ∀ n : Nat, (∀ (x4 : Int) (M : Mem), I20 n x4 M → vV p l e ({ frames := 0, cells := 0, slots := 0, locals := 0 } : Room) s m ([.ref (a p0), iv p1, .ref (a p2), iv p3] : List Value).toArray below meth c D g A a b 7 0 0 (MQ below (cQi D g A a b Q) ([.ref (a p0), iv p1, .ref (a p2), iv p3] : List Value).toArray s 0 0 A) M [(0, .ref (a p0)), (1, iv p1), (2, .ref (a p2)), (3, iv p3), (4, iv x4)] 20 []) := by
    intro n
    induction n using Nat.strongRecOn with
    | ind n ih =>
      exact fun x4 M hh => wkh_X9_sameSubtrees_20 X hr hp0 hp2 (fun _ _ ⟨n1, hn, hh⟩ => (ih n1 hn) _ _ hh) (hI20 n x4 M hh)
  exact wke_X9_sameSubtrees X hr hp0 hp2 (fun _ _ ⟨n1, hh⟩ => (K n1) _ _ hh) hw s.heap [] ls hP hD va_S.rf hl

set_option maxRecDepth 20000 in
theorem ggX5_firstTarget_X9_isUnmarked : GoodIn wsX5_firstTarget wsX9_isUnmarked := goodIn_r _ [7, 8, 9, 10, 11, 12, 5, 13, 14, 47, 48, 49, 50, 51, 52, 53, 54, 55] (by decide +kernel) (by decide +kernel)
set_option maxRecDepth 20000 in
theorem gX5_firstTarget_X9_isUnmarked_n76 : GoodIn wsX5_firstTarget (wsX9_isUnmarked) := ggX5_firstTarget_X9_isUnmarked
set_option maxRecDepth 20000 in
theorem ggX5_firstTarget_X9_sameSubtrees : GoodIn wsX5_firstTarget wsX9_sameSubtrees := goodIn_r _ [16, 14, 9, 8, 17, 18, 47, 48, 49, 50, 51, 52, 53, 54, 55] (by decide +kernel) (by decide +kernel)
set_option maxRecDepth 20000 in
theorem gX5_firstTarget_X9_sameSubtrees_n83 : GoodIn wsX5_firstTarget (wsX9_sameSubtrees) := ggX5_firstTarget_X9_sameSubtrees
set_option maxRecDepth 20000 in
theorem ggX5_firstTarget_X5_gain : GoodIn wsX5_firstTarget wsX5_gain := goodIn_r _ [23, 1, 24, 5, 25, 26, 8, 17, 9, 10, 11, 12, 13, 14, 27, 28, 29, 30, 31, 32, 33, 34, 35, 36, 37, 38, 47, 48, 49, 50, 51, 52, 53, 54, 55] (by decide +kernel) (by decide +kernel)
set_option maxRecDepth 20000 in
theorem gX5_firstTarget_X5_gain : GoodIn wsX5_firstTarget (wsV RX5 87 RX5 yX5_gain wsX5_gain) := goodIn_app (goodIn_of _ (by decide +kernel)) ggX5_firstTarget_X5_gain
theorem dX5_firstTarget_0 : decode cX5_firstTarget 0 = .ok (.aload_n 0, 1) := by decide +kernel
theorem dX5_firstTarget_1 : decode cX5_firstTarget 1 = .ok (.getfield 18, 3) := by decide +kernel
theorem dX5_firstTarget_4 : decode cX5_firstTarget 4 = .ok (.getfield 26, 3) := by decide +kernel
theorem dX5_firstTarget_7 : decode cX5_firstTarget 7 = .ok (.iload_n 1, 1) := by decide +kernel
theorem dX5_firstTarget_8 : decode cX5_firstTarget 8 = .ok (.aload_n 0, 1) := by decide +kernel
theorem dX5_firstTarget_9 : decode cX5_firstTarget 9 = .ok (.getfield 22, 3) := by decide +kernel
theorem dX5_firstTarget_12 : decode cX5_firstTarget 12 = .ok (.getfield 73, 3) := by decide +kernel
theorem dX5_firstTarget_15 : decode cX5_firstTarget 15 = .ok (.invokevirtual 76, 3) := by decide +kernel
theorem dX5_firstTarget_18 : decode cX5_firstTarget 18 = .ok (.ifCond .ne 5, 3) := by decide +kernel
theorem dX5_firstTarget_21 : decode cX5_firstTarget 21 = .ok (.iconst (-1), 1) := by decide +kernel
theorem dX5_firstTarget_22 : decode cX5_firstTarget 22 = .ok (.ireturn, 1) := by decide +kernel
theorem dX5_firstTarget_23 : decode cX5_firstTarget 23 = .ok (.aload_n 0, 1) := by decide +kernel
theorem dX5_firstTarget_24 : decode cX5_firstTarget 24 = .ok (.getfield 18, 3) := by decide +kernel
theorem dX5_firstTarget_27 : decode cX5_firstTarget 27 = .ok (.getfield 80, 3) := by decide +kernel
theorem dX5_firstTarget_30 : decode cX5_firstTarget 30 = .ok (.astore_n 2, 1) := by decide +kernel
theorem dX5_firstTarget_31 : decode cX5_firstTarget 31 = .ok (.iconst 0, 1) := by decide +kernel
theorem dX5_firstTarget_32 : decode cX5_firstTarget 32 = .ok (.istore_n 3, 1) := by decide +kernel
theorem dX5_firstTarget_33 : decode cX5_firstTarget 33 = .ok (.iload_n 3, 1) := by decide +kernel
theorem dX5_firstTarget_34 : decode cX5_firstTarget 34 = .ok (.aload_n 2, 1) := by decide +kernel
theorem dX5_firstTarget_35 : decode cX5_firstTarget 35 = .ok (.getfield 56, 3) := by decide +kernel
theorem dX5_firstTarget_38 : decode cX5_firstTarget 38 = .ok (.if_icmp .ge 60, 3) := by decide +kernel
theorem dX5_firstTarget_41 : decode cX5_firstTarget 41 = .ok (.aload_n 2, 1) := by decide +kernel
theorem dX5_firstTarget_42 : decode cX5_firstTarget 42 = .ok (.getfield 59, 3) := by decide +kernel
theorem dX5_firstTarget_45 : decode cX5_firstTarget 45 = .ok (.iload_n 3, 1) := by decide +kernel
theorem dX5_firstTarget_46 : decode cX5_firstTarget 46 = .ok (.iaload, 1) := by decide +kernel
theorem dX5_firstTarget_47 : decode cX5_firstTarget 47 = .ok (.istore 4, 2) := by decide +kernel
theorem dX5_firstTarget_49 : decode cX5_firstTarget 49 = .ok (.aload_n 2, 1) := by decide +kernel
theorem dX5_firstTarget_50 : decode cX5_firstTarget 50 = .ok (.iload 4, 2) := by decide +kernel
theorem dX5_firstTarget_52 : decode cX5_firstTarget 52 = .ok (.aload_n 0, 1) := by decide +kernel
theorem dX5_firstTarget_53 : decode cX5_firstTarget 53 = .ok (.getfield 15, 3) := by decide +kernel
theorem dX5_firstTarget_56 : decode cX5_firstTarget 56 = .ok (.invokevirtual 76, 3) := by decide +kernel
theorem dX5_firstTarget_59 : decode cX5_firstTarget 59 = .ok (.ifCond .eq 33, 3) := by decide +kernel
theorem dX5_firstTarget_62 : decode cX5_firstTarget 62 = .ok (.aload_n 0, 1) := by decide +kernel
theorem dX5_firstTarget_63 : decode cX5_firstTarget 63 = .ok (.getfield 18, 3) := by decide +kernel
theorem dX5_firstTarget_66 : decode cX5_firstTarget 66 = .ok (.getfield 26, 3) := by decide +kernel
theorem dX5_firstTarget_69 : decode cX5_firstTarget 69 = .ok (.iload_n 1, 1) := by decide +kernel
theorem dX5_firstTarget_70 : decode cX5_firstTarget 70 = .ok (.aload_n 2, 1) := by decide +kernel
theorem dX5_firstTarget_71 : decode cX5_firstTarget 71 = .ok (.iload 4, 2) := by decide +kernel
theorem dX5_firstTarget_73 : decode cX5_firstTarget 73 = .ok (.invokestatic 83, 3) := by decide +kernel
theorem dX5_firstTarget_76 : decode cX5_firstTarget 76 = .ok (.ifCond .eq 16, 3) := by decide +kernel
theorem dX5_firstTarget_79 : decode cX5_firstTarget 79 = .ok (.aload_n 0, 1) := by decide +kernel
theorem dX5_firstTarget_80 : decode cX5_firstTarget 80 = .ok (.iload_n 1, 1) := by decide +kernel
theorem dX5_firstTarget_81 : decode cX5_firstTarget 81 = .ok (.iload 4, 2) := by decide +kernel
theorem dX5_firstTarget_83 : decode cX5_firstTarget 83 = .ok (.invokevirtual 87, 3) := by decide +kernel
theorem dX5_firstTarget_86 : decode cX5_firstTarget 86 = .ok (.ifCond .le 6, 3) := by decide +kernel
theorem dX5_firstTarget_89 : decode cX5_firstTarget 89 = .ok (.iload 4, 2) := by decide +kernel
theorem dX5_firstTarget_91 : decode cX5_firstTarget 91 = .ok (.ireturn, 1) := by decide +kernel
theorem dX5_firstTarget_92 : decode cX5_firstTarget 92 = .ok (.iinc 3 1, 3) := by decide +kernel
theorem dX5_firstTarget_95 : decode cX5_firstTarget 95 = .ok (.goto (-62), 3) := by decide +kernel
theorem dX5_firstTarget_98 : decode cX5_firstTarget 98 = .ok (.iconst (-1), 1) := by decide +kernel
theorem dX5_firstTarget_99 : decode cX5_firstTarget 99 = .ok (.ireturn, 1) := by decide +kernel
theorem lk_X5_firstTarget_f18 : Cond.fieldLink RX5 18 "TreeComparer$Moves" "given" "LTreeComparer$Given;" ∈ wsX5_firstTarget := by decide +kernel
theorem hi_X5_firstTarget_5 : ∀ w ∈ u_ws RX5 TX5 6, w ∈ wsX5_firstTarget := by decide +kernel
theorem hi_X5_firstTarget_1 : ∀ w ∈ u_ws RX1 TX1 6, w ∈ wsX5_firstTarget := by decide +kernel
theorem lk_X5_firstTarget_f22 : Cond.fieldLink RX5 22 "TreeComparer$Moves" "mapping" "LTreeComparer$Mapping;" ∈ wsX5_firstTarget := by decide +kernel
theorem hi_X5_firstTarget_4 : ∀ w ∈ u_ws RX4 TX4 8, w ∈ wsX5_firstTarget := by decide +kernel
theorem lk_X5_firstTarget_i9 : Cond.initialized RX9 ∈ wsX5_firstTarget := by decide +kernel
theorem lk_X5_firstTarget_im76 : Cond.instanceMethod yX9_isUnmarked ∈ wsX5_firstTarget := by decide +kernel
theorem lk_X5_firstTarget_se76 : Cond.selects RX9 yX9_isUnmarked yX9_isUnmarked ∈ wsX5_firstTarget := by decide +kernel
theorem hi_X5_firstTarget_9 : ∀ w ∈ u_ws RX9 TX9 9, w ∈ wsX5_firstTarget := by decide +kernel
theorem lk_X5_firstTarget_f15 : Cond.fieldLink RX5 15 "TreeComparer$Moves" "closed" "[I" ∈ wsX5_firstTarget := by decide +kernel
theorem lk_X5_firstTarget_im83 : Cond.static yX9_sameSubtrees ∈ wsX5_firstTarget := by decide +kernel
def wpj_X5_firstTarget_92 (p0 : Int) (x3 : Int) (M : Mem) (J33 : Int → Mem → Prop) (Q : Int → Mem → Prop) : Prop := J33 (x3 + 1) M
def wph_X5_firstTarget_33 (p0 : Int) (x3 : Int) (M : Mem) (J33 : Int → Mem → Prop) (Q : Int → Mem → Prop) : Prop := inR x3 ∧ inR (M 12 8 0) ∧ (((M 12 8 0) ≤ x3 → Q (-1) M) ∧ (¬ ((M 12 8 0) ≤ x3) → ((0 : Int) ≤ x3 ∧ x3 < 12) ∧ (∀ y9 : Int, y9 = (M 12 3 x3.toNat) → wp_X9_isUnmarked M 12 y9 8 3 12 (fun y10 M11 => inR y10 ∧ ((y10 = 0 → wpj_X5_firstTarget_92 p0 x3 M11 J33 Q) ∧ (¬ (y10 = 0) → wp_X9_sameSubtrees M11 11 p0 12 y9 (fun y14 M15 => inR y14 ∧ ((y14 = 0 → wpj_X5_firstTarget_92 p0 x3 M15 J33 Q) ∧ (¬ (y14 = 0) → wp_X5_gain M15 p0 y9 (fun y18 M19 => inR y18 ∧ ((y18 ≤ 0 → wpj_X5_firstTarget_92 p0 x3 M19 J33 Q) ∧ (¬ (y18 ≤ 0) → Q y9 M19))))))))))))
def wpe_X5_firstTarget (p0 : Int) (M : Mem) (J33 : Int → Mem → Prop) (Q : Int → Mem → Prop) : Prop := wp_X9_isUnmarked M 11 p0 6 2 12 (fun y1 M2 => inR y1 ∧ ((y1 ≠ 0 → J33 0 M2) ∧ (¬ (y1 ≠ 0) → Q (-1) M2)))
def wp_X5_firstTarget (M : Mem) (p0 : Int) (Q : Int → Mem → Prop) : Prop := ∃ (I33 : Nat → Int → Mem → Prop), wpe_X5_firstTarget p0 M (fun (x3 : Int) (M1 : Mem) => ∃ n1 : Nat, I33 n1 x3 M1) Q ∧ (∀ (n : Nat) (x3 : Int) (M : Mem), I33 n x3 M → wph_X5_firstTarget_33 p0 x3 M (fun (x3 : Int) (M1 : Mem) => ∃ n1 : Nat, n1 < n ∧ I33 n1 x3 M1) Q)
set_option maxHeartbeats 4000000 in
set_option maxRecDepth 100000 in
theorem wkj_X5_firstTarget_92 {p : Program} {l : Launch} {e : Env} {s : State} {m : MethodId} {args : Array Value} {below : List Frame} {meth : Method} {c : Code} {D : va_G} {g : GT} {A : Nat → Prop} {a : Nat → Nat} {b : Nat → Nat → Nat} (X : vC p s m args meth c D g A RX5 wsX5_firstTarget cX5_firstTarget 5) (hr : meth.sig.returnType = (some .int)) {p0 : Int} {x3 : Int} {M : Mem} {J33 : Int → Mem → Prop} {Q : Int → Mem → Prop} (hJ33 : ∀ (x3 : Int) (M : Mem), J33 x3 M → vV p l e ({ frames := 3, cells := 0, slots := 0, locals := 67 } : Room) s m args below meth c D g A a b 5 0 0 (MQ below (cQi D g A a b Q) args s 0 0 A) M [(0, .ref (a 8)), (1, iv p0), (2, .ref (a 12)), (3, iv x3)] 33 []) (hw : wpj_X5_firstTarget_92 p0 x3 M J33 Q) : vV p l e ({ frames := 3, cells := 0, slots := 0, locals := 67 } : Room) s m args below meth c D g A a b 5 0 0 (MQ below (cQi D g A a b Q) args s 0 0 A) M [(0, .ref (a 8)), (1, iv p0), (2, .ref (a 12)), (3, iv x3)] 92 [] := by
  unfold wpj_X5_firstTarget_92 at hw
  refine V_iinc (lv1 := [(0, .ref (a 8)), (1, iv p0), (2, .ref (a 12)), (3, iv (x3 + 1))]) X [1, 2, 3, 0] dX5_firstTarget_92 (q := 3) rfl (by decide) rfl ?_
  refine V_goto (tgt := 33) X dX5_firstTarget_95 (by decide) ?_
  exact hJ33 _ _ hw
set_option maxHeartbeats 4000000 in
set_option maxRecDepth 100000 in
theorem wkh_X5_firstTarget_33 {p : Program} {l : Launch} {e : Env} {s : State} {m : MethodId} {args : Array Value} {below : List Frame} {meth : Method} {c : Code} {D : va_G} {g : GT} {A : Nat → Prop} {a : Nat → Nat} {b : Nat → Nat → Nat} (X : vC p s m args meth c D g A RX5 wsX5_firstTarget cX5_firstTarget 5) (hr : meth.sig.returnType = (some .int)) {p0 : Int} {x3 : Int} {M : Mem} {J33 : Int → Mem → Prop} {Q : Int → Mem → Prop} (hJ33 : ∀ (x3 : Int) (M : Mem), J33 x3 M → vV p l e ({ frames := 3, cells := 0, slots := 0, locals := 67 } : Room) s m args below meth c D g A a b 5 0 0 (MQ below (cQi D g A a b Q) args s 0 0 A) M [(0, .ref (a 8)), (1, iv p0), (2, .ref (a 12)), (3, iv x3)] 33 []) (hw : wph_X5_firstTarget_33 p0 x3 M J33 Q) : vV p l e ({ frames := 3, cells := 0, slots := 0, locals := 67 } : Room) s m args below meth c D g A a b 5 0 0 (MQ below (cQi D g A a b Q) args s 0 0 A) M [(0, .ref (a 8)), (1, iv p0), (2, .ref (a 12)), (3, iv x3)] 33 [] := by
  unfold wph_X5_firstTarget_33 at hw
  refine V_iload_n X dX5_firstTarget_33 rfl (q := 3) rfl ?_
  refine V_aload_n X dX5_firstTarget_34 rfl (q := 2) rfl ?_
  refine V_getN (C := RX9) (T := TX9) (N := 9) (ci := 9) X hi_X5_firstTarget_9 gO_12 rfl 8 (by decide) (List.mem_of_getElem? (i := 22) rfl) (fun _ h9 => h9) rfl dX5_firstTarget_35 ?_
  obtain ⟨h5, h6, hw⟩ := hw
  refine V_icmp_ge (tgt := 98) X h5 h6 dX5_firstTarget_38 (by decide) (fun q7 => ?_) (fun q7 => ?_)
  · have hw := hw.1 q7
    refine V_iconst X dX5_firstTarget_98 ?_
    exact V_iret X hr hw dX5_firstTarget_99
  · have hw := hw.2 q7
    refine V_aload_n X dX5_firstTarget_41 rfl (q := 2) rfl ?_
    refine V_getN (C := RX9) (T := TX9) (N := 9) (ci := 9) X hi_X5_firstTarget_9 gO_12 rfl 3 (by decide) (List.mem_of_getElem? (i := 9) rfl) (fun _ h9 => h9) rfl dX5_firstTarget_42 ?_
    refine V_iload_n X dX5_firstTarget_45 rfl (q := 3) rfl ?_
    obtain ⟨h8, hw⟩ := hw
    refine V_iald X (gA_12_3) h8 (by decide) dX5_firstTarget_46 ?_
    refine V_top (fun y9 ey9 => ?_)
    have hw := hw y9 ey9
    refine V_istore (lv1 := [(0, .ref (a 8)), (1, iv p0), (2, .ref (a 12)), (3, iv x3), (4, iv y9)]) X [1, 2, 3, 4, 0] dX5_firstTarget_47 (by decide) rfl ?_
    refine V_aload_n X dX5_firstTarget_49 rfl (q := 2) rfl ?_
    refine V_iload X dX5_firstTarget_50 (q := 4) rfl ?_
    refine V_aload_n X dX5_firstTarget_52 rfl (q := 0) rfl ?_
    refine V_get (C := RX5) (T := TX5) (N := 6) (ci := 5) X hi_X5_firstTarget_5 gO_8 rfl 3 (by decide) lk_X5_firstTarget_f15 (fun _ h9 => h9) rfl dX5_firstTarget_53 ?_
    refine V_callVN_i X _ gO_12 rfl (As := [iv y9, .ref (b 8 3)]) (st := []) (c_X9_isUnmarked l (by first | exact Or.inl rfl | exact Or.inr rfl) arr_8_3 hw) ⟨va_cnB 2 X.2.2.2.1 gX5_firstTarget_X9_isUnmarked_n76 rfl rfl rfl (X.2.2.2.2.1.2.1 _ (List.mem_of_getElem? (i := 116) rfl)) (X.2.2.2.1 _ lk_X5_firstTarget_i9) (by decide +kernel) ⟨Nat.le_of_ble_eq_true rfl, Nat.le_of_ble_eq_true rfl⟩, X.2.2.2.1 _ lk_X5_firstTarget_im76, X.2.2.2.1 _ lk_X5_firstTarget_se76⟩ rfl (Nat.le_of_ble_eq_true rfl) ⟨Nat.le_of_ble_eq_true rfl, Nat.le_of_ble_eq_true rfl⟩ rfl dX5_firstTarget_56 (fun y10 M11 hw => ?_)
    obtain ⟨h12, hw⟩ := hw
    refine V_if_eq (tgt := 92) X h12 dX5_firstTarget_59 (by decide) (fun q13 => ?_) (fun q13 => ?_)
    · have hw := hw.1 q13
      refine V_sub (lv1 := [(0, .ref (a 8)), (1, iv p0), (2, .ref (a 12)), (3, iv x3)]) [0, 1, 2, 3] rfl ?_
      exact wkj_X5_firstTarget_92 X hr hJ33 hw
    · have hw := hw.2 q13
      refine V_aload_n X dX5_firstTarget_62 rfl (q := 0) rfl ?_
      refine V_get (C := RX5) (T := TX5) (N := 6) (ci := 5) X hi_X5_firstTarget_5 gO_8 rfl 0 (by decide) lk_X5_firstTarget_f18 (fun _ h9 => h9) rfl dX5_firstTarget_63 ?_
      refine V_getN (C := RX1) (T := TX1) (N := 6) (ci := 1) X hi_X5_firstTarget_1 gO_1 rfl 4 (by decide) (List.mem_of_getElem? (i := 36) rfl) (fun _ h9 => h9) rfl dX5_firstTarget_66 ?_
      refine V_iload_n X dX5_firstTarget_69 rfl (q := 1) rfl ?_
      refine V_aload_n X dX5_firstTarget_70 rfl (q := 2) rfl ?_
      refine V_iload X dX5_firstTarget_71 (q := 4) rfl ?_
      refine V_callSN_i X _ (As := [.ref (a 11), iv p0, .ref (a 12), iv y9]) (st := []) (c_X9_sameSubtrees l (by first | exact Or.inl rfl | exact Or.inr rfl) (by first | exact Or.inl rfl | exact Or.inr rfl) hw) ⟨va_cnB 4 X.2.2.2.1 gX5_firstTarget_X9_sameSubtrees_n83 rfl rfl rfl (X.2.2.2.2.1.2.1 _ (List.mem_of_getElem? (i := 117) rfl)) (X.2.2.2.1 _ lk_X5_firstTarget_i9) (by decide +kernel) ⟨Nat.le_of_ble_eq_true rfl, Nat.le_of_ble_eq_true rfl⟩, X.2.2.2.1 _ lk_X5_firstTarget_im83, trivial⟩ rfl (Nat.le_of_ble_eq_true rfl) ⟨Nat.le_of_ble_eq_true rfl, Nat.le_of_ble_eq_true rfl⟩ rfl dX5_firstTarget_73 (fun y14 M15 hw => ?_)
      obtain ⟨h16, hw⟩ := hw
      refine V_if_eq (tgt := 92) X h16 dX5_firstTarget_76 (by decide) (fun q17 => ?_) (fun q17 => ?_)
      · have hw := hw.1 q17
        refine V_sub (lv1 := [(0, .ref (a 8)), (1, iv p0), (2, .ref (a 12)), (3, iv x3)]) [0, 1, 2, 3] rfl ?_
        exact wkj_X5_firstTarget_92 X hr hJ33 hw
      · have hw := hw.2 q17
        refine V_aload_n X dX5_firstTarget_79 rfl (q := 0) rfl ?_
        refine V_iload_n X dX5_firstTarget_80 rfl (q := 1) rfl ?_
        refine V_iload X dX5_firstTarget_81 (q := 4) rfl ?_
        refine V_callV_i X _ gO_8 rfl (As := [iv p0, iv y9]) (st := []) (c_X5_gain l hw) (cwV 2 X.2.2.2.1 gX5_firstTarget_X5_gain rfl rfl rfl (by decide +kernel) ⟨Nat.le_of_ble_eq_true rfl, Nat.le_of_ble_eq_true rfl⟩) rfl (Nat.le_of_ble_eq_true rfl) ⟨Nat.le_of_ble_eq_true rfl, Nat.le_of_ble_eq_true rfl⟩ rfl dX5_firstTarget_83 (fun y18 M19 hw => ?_)
        obtain ⟨h20, hw⟩ := hw
        refine V_if_le (tgt := 92) X h20 dX5_firstTarget_86 (by decide) (fun q21 => ?_) (fun q21 => ?_)
        · have hw := hw.1 q21
          refine V_sub (lv1 := [(0, .ref (a 8)), (1, iv p0), (2, .ref (a 12)), (3, iv x3)]) [0, 1, 2, 3] rfl ?_
          exact wkj_X5_firstTarget_92 X hr hJ33 hw
        · have hw := hw.2 q21
          refine V_iload X dX5_firstTarget_89 (q := 4) rfl ?_
          exact V_iret X hr hw dX5_firstTarget_91
set_option maxHeartbeats 4000000 in
set_option maxRecDepth 100000 in
theorem wke_X5_firstTarget {p : Program} {l : Launch} {e : Env} {s : State} {m : MethodId} {args : Array Value} {below : List Frame} {meth : Method} {c : Code} {D : va_G} {g : GT} {A : Nat → Prop} {a : Nat → Nat} {b : Nat → Nat → Nat} (X : vC p s m args meth c D g A RX5 wsX5_firstTarget cX5_firstTarget 5) (hr : meth.sig.returnType = (some .int)) {p0 : Int} {M : Mem} {J33 : Int → Mem → Prop} {Q : Int → Mem → Prop} (hJ33 : ∀ (x3 : Int) (M : Mem), J33 x3 M → vV p l e ({ frames := 3, cells := 0, slots := 0, locals := 67 } : Room) s m args below meth c D g A a b 5 0 0 (MQ below (cQi D g A a b Q) args s 0 0 A) M [(0, .ref (a 8)), (1, iv p0), (2, .ref (a 12)), (3, iv x3)] 33 []) (hw : wpe_X5_firstTarget p0 M J33 Q) : vV p l e ({ frames := 3, cells := 0, slots := 0, locals := 67 } : Room) s m args below meth c D g A a b 5 0 0 (MQ below (cQi D g A a b Q) args s 0 0 A) M [(0, .ref (a 8)), (1, iv p0)] 0 [] := by
  unfold wpe_X5_firstTarget at hw
  refine V_aload_n X dX5_firstTarget_0 rfl (q := 0) rfl ?_
  refine V_get (C := RX5) (T := TX5) (N := 6) (ci := 5) X hi_X5_firstTarget_5 gO_8 rfl 0 (by decide) lk_X5_firstTarget_f18 (fun _ h9 => h9) rfl dX5_firstTarget_1 ?_
  refine V_getN (C := RX1) (T := TX1) (N := 6) (ci := 1) X hi_X5_firstTarget_1 gO_1 rfl 4 (by decide) (List.mem_of_getElem? (i := 36) rfl) (fun _ h9 => h9) rfl dX5_firstTarget_4 ?_
  refine V_iload_n X dX5_firstTarget_7 rfl (q := 1) rfl ?_
  refine V_aload_n X dX5_firstTarget_8 rfl (q := 0) rfl ?_
  refine V_get (C := RX5) (T := TX5) (N := 6) (ci := 5) X hi_X5_firstTarget_5 gO_8 rfl 1 (by decide) lk_X5_firstTarget_f22 (fun _ h9 => h9) rfl dX5_firstTarget_9 ?_
  refine V_getN (C := RX4) (T := TX4) (N := 8) (ci := 4) X hi_X5_firstTarget_4 gO_6 rfl 2 (by decide) (List.mem_of_getElem? (i := 72) rfl) (fun _ h9 => h9) rfl dX5_firstTarget_12 ?_
  refine V_callVN_i X _ gO_11 rfl (As := [iv p0, .ref (b 6 2)]) (st := []) (c_X9_isUnmarked l (by first | exact Or.inl rfl | exact Or.inr rfl) arr_6_2 hw) ⟨va_cnB 2 X.2.2.2.1 gX5_firstTarget_X9_isUnmarked_n76 rfl rfl rfl (X.2.2.2.2.1.2.1 _ (List.mem_of_getElem? (i := 116) rfl)) (X.2.2.2.1 _ lk_X5_firstTarget_i9) (by decide +kernel) ⟨Nat.le_of_ble_eq_true rfl, Nat.le_of_ble_eq_true rfl⟩, X.2.2.2.1 _ lk_X5_firstTarget_im76, X.2.2.2.1 _ lk_X5_firstTarget_se76⟩ rfl (Nat.le_of_ble_eq_true rfl) ⟨Nat.le_of_ble_eq_true rfl, Nat.le_of_ble_eq_true rfl⟩ rfl dX5_firstTarget_15 (fun y1 M2 hw => ?_)
  obtain ⟨h3, hw⟩ := hw
  refine V_if_ne (tgt := 23) X h3 dX5_firstTarget_18 (by decide) (fun q4 => ?_) (fun q4 => ?_)
  · have hw := hw.1 q4
    refine V_aload_n X dX5_firstTarget_23 rfl (q := 0) rfl ?_
    refine V_get (C := RX5) (T := TX5) (N := 6) (ci := 5) X hi_X5_firstTarget_5 gO_8 rfl 0 (by decide) lk_X5_firstTarget_f18 (fun _ h9 => h9) rfl dX5_firstTarget_24 ?_
    refine V_getN (C := RX1) (T := TX1) (N := 6) (ci := 1) X hi_X5_firstTarget_1 gO_1 rfl 5 (by decide) (List.mem_of_getElem? (i := 40) rfl) (fun _ h9 => h9) rfl dX5_firstTarget_27 ?_
    refine V_astore_n (lv1 := [(0, .ref (a 8)), (1, iv p0), (2, .ref (a 12))]) X [1, 2, 0] dX5_firstTarget_30 rfl (by decide) rfl ?_
    refine V_iconst X dX5_firstTarget_31 ?_
    refine V_istore_n (lv1 := [(0, .ref (a 8)), (1, iv p0), (2, .ref (a 12)), (3, iv 0)]) X [1, 2, 3, 0] dX5_firstTarget_32 rfl (by decide) rfl ?_
    exact hJ33 _ _ hw
  · have hw := hw.2 q4
    refine V_iconst X dX5_firstTarget_21 ?_
    exact V_iret X hr hw dX5_firstTarget_22
set_option maxHeartbeats 4000000 in
set_option maxRecDepth 100000 in
theorem c_X5_firstTarget (l : Launch) {p0 : Int} {D : va_G} {g : GT} {A : Nat → Prop} {a : Nat → Nat} {b : Nat → Nat → Nat} {M : Mem} {Q : Int → Mem → Prop} (hw : wp_X5_firstTarget M p0 Q) : Met l yX5_firstTarget wsX5_firstTarget ({ frames := 3, cells := 0, slots := 0, locals := 67 } : Room) (cPc D g A a b M [.ref (a 8), iv p0]) (cQi D g A a b Q) 0 0 A := by
  refine Met.ofW (cc := cX5_firstTarget) (maxL := 5) (ret := (some .int)) (by decide) rfl ?_
  intro p e s m args below meth c s₁ B hml hv
  obtain ⟨rfl, hP, hD, hG⟩ := hv
  have X : vC p s m _ meth c D g A RX5 wsX5_firstTarget cX5_firstTarget 5 := ⟨B.exec, B.bytes, findClass_of_methodNamed B.named, atoms_spec (ws := wsX5_firstTarget) B.pre, hG, hml, B.notSynchronized⟩
  have hr := B.returns
  have hl := lv_entry ([.ref (a 8), iv p0]) (n := 5) (Nat.le_of_ble_eq_true rfl)
  rw [lg_entry_eq]
  generalize (lg_sl ([.ref (a 8), iv p0]) ++ List.replicate (5 - (lg_sl ([.ref (a 8), iv p0])).length) Slot.unset).toArray = ls at hl ⊢
  have hl : lv_has ls 5 [(0, .ref (a 8)), (1, iv p0)] := hl
  obtain ⟨I33, hw, hI33⟩ := hw
  have K : ∀ n : Nat, (∀ (x3 : Int) (M : Mem), I33 n x3 M → vV p l e ({ frames := 3, cells := 0, slots := 0, locals := 67 } : Room) s m ([.ref (a 8), iv p0] : List Value).toArray below meth c D g A a b 5 0 0 (MQ below (cQi D g A a b Q) ([.ref (a 8), iv p0] : List Value).toArray s 0 0 A) M [(0, .ref (a 8)), (1, iv p0), (2, .ref (a 12)), (3, iv x3)] 33 []) := by
    intro n
    induction n using Nat.strongRecOn with
    | ind n ih =>
      exact fun x3 M hh => wkh_X5_firstTarget_33 X hr (fun _ _ ⟨n1, hn, hh⟩ => (ih n1 hn) _ _ hh) (hI33 n x3 M hh)
  exact wke_X5_firstTarget X hr  (fun _ _ ⟨n1, hh⟩ => (K n1) _ _ hh) hw s.heap [] ls hP hD va_S.rf hl

set_option maxRecDepth 20000 in
theorem ggX5_move_X5_gain : GoodIn wsX5_move wsX5_gain := goodIn_r _ [10, 1, 11, 12, 13, 14, 15, 16, 17, 18, 19, 20, 21, 22, 23, 24, 25, 26, 27, 28, 29, 30, 31, 32, 33, 34, 35, 36, 37, 38, 39, 40, 41, 42, 43] (by decide +kernel) (by decide +kernel)
set_option maxRecDepth 20000 in
theorem gX5_move_X5_gain : GoodIn wsX5_move (wsV RX5 87 RX5 yX5_gain wsX5_gain) := goodIn_app (goodIn_of _ (by decide +kernel)) ggX5_move_X5_gain
set_option maxRecDepth 20000 in
theorem ggX5_move_X9_endOf : GoodIn wsX5_move wsX9_endOf := goodIn_r _ [21, 15, 22, 35, 36, 37, 38, 39, 40, 41, 42, 43] (by decide +kernel) (by decide +kernel)
set_option maxRecDepth 20000 in
theorem gX5_move_X9_endOf_n70 : GoodIn wsX5_move (wsX9_endOf) := ggX5_move_X9_endOf
theorem dX5_move_0 : decode cX5_move 0 = .ok (.aload_n 0, 1) := by decide +kernel
theorem dX5_move_1 : decode cX5_move 1 = .ok (.getfield 18, 3) := by decide +kernel
theorem dX5_move_4 : decode cX5_move 4 = .ok (.getfield 80, 3) := by decide +kernel
theorem dX5_move_7 : decode cX5_move 7 = .ok (.astore_n 3, 1) := by decide +kernel
theorem dX5_move_8 : decode cX5_move 8 = .ok (.aload_n 0, 1) := by decide +kernel
theorem dX5_move_9 : decode cX5_move 9 = .ok (.getfield 9, 3) := by decide +kernel
theorem dX5_move_12 : decode cX5_move 12 = .ok (.iload_n 1, 1) := by decide +kernel
theorem dX5_move_13 : decode cX5_move 13 = .ok (.iload_n 2, 1) := by decide +kernel
theorem dX5_move_14 : decode cX5_move 14 = .ok (.iastore, 1) := by decide +kernel
theorem dX5_move_15 : decode cX5_move 15 = .ok (.aload_n 0, 1) := by decide +kernel
theorem dX5_move_16 : decode cX5_move 16 = .ok (.dup, 1) := by decide +kernel
theorem dX5_move_17 : decode cX5_move 17 = .ok (.getfield 49, 3) := by decide +kernel
theorem dX5_move_20 : decode cX5_move 20 = .ok (.iconst 1, 1) := by decide +kernel
theorem dX5_move_21 : decode cX5_move 21 = .ok (.iadd, 1) := by decide +kernel
theorem dX5_move_22 : decode cX5_move 22 = .ok (.putfield 49, 3) := by decide +kernel
theorem dX5_move_25 : decode cX5_move 25 = .ok (.aload_n 0, 1) := by decide +kernel
theorem dX5_move_26 : decode cX5_move 26 = .ok (.dup, 1) := by decide +kernel
theorem dX5_move_27 : decode cX5_move 27 = .ok (.getfield 53, 3) := by decide +kernel
theorem dX5_move_30 : decode cX5_move 30 = .ok (.aload_n 0, 1) := by decide +kernel
theorem dX5_move_31 : decode cX5_move 31 = .ok (.iload_n 1, 1) := by decide +kernel
theorem dX5_move_32 : decode cX5_move 32 = .ok (.iload_n 2, 1) := by decide +kernel
theorem dX5_move_33 : decode cX5_move 33 = .ok (.invokevirtual 87, 3) := by decide +kernel
theorem dX5_move_36 : decode cX5_move 36 = .ok (.iadd, 1) := by decide +kernel
theorem dX5_move_37 : decode cX5_move 37 = .ok (.putfield 53, 3) := by decide +kernel
theorem dX5_move_40 : decode cX5_move 40 = .ok (.aload_n 3, 1) := by decide +kernel
theorem dX5_move_41 : decode cX5_move 41 = .ok (.getfield 104, 3) := by decide +kernel
theorem dX5_move_44 : decode cX5_move 44 = .ok (.iload_n 2, 1) := by decide +kernel
theorem dX5_move_45 : decode cX5_move 45 = .ok (.iaload, 1) := by decide +kernel
theorem dX5_move_46 : decode cX5_move 46 = .ok (.istore 4, 2) := by decide +kernel
theorem dX5_move_48 : decode cX5_move 48 = .ok (.iload 4, 2) := by decide +kernel
theorem dX5_move_50 : decode cX5_move 50 = .ok (.aload_n 3, 1) := by decide +kernel
theorem dX5_move_51 : decode cX5_move 51 = .ok (.iload_n 2, 1) := by decide +kernel
theorem dX5_move_52 : decode cX5_move 52 = .ok (.invokevirtual 70, 3) := by decide +kernel
theorem dX5_move_55 : decode cX5_move 55 = .ok (.if_icmp .ge 22, 3) := by decide +kernel
theorem dX5_move_58 : decode cX5_move 58 = .ok (.aload_n 0, 1) := by decide +kernel
theorem dX5_move_59 : decode cX5_move 59 = .ok (.getfield 15, 3) := by decide +kernel
theorem dX5_move_62 : decode cX5_move 62 = .ok (.aload_n 3, 1) := by decide +kernel
theorem dX5_move_63 : decode cX5_move 63 = .ok (.getfield 59, 3) := by decide +kernel
theorem dX5_move_66 : decode cX5_move 66 = .ok (.iload 4, 2) := by decide +kernel
theorem dX5_move_68 : decode cX5_move 68 = .ok (.iaload, 1) := by decide +kernel
theorem dX5_move_69 : decode cX5_move 69 = .ok (.iload_n 1, 1) := by decide +kernel
theorem dX5_move_70 : decode cX5_move 70 = .ok (.iastore, 1) := by decide +kernel
theorem dX5_move_71 : decode cX5_move 71 = .ok (.iinc 4 1, 3) := by decide +kernel
theorem dX5_move_74 : decode cX5_move 74 = .ok (.goto (-26), 3) := by decide +kernel
theorem dX5_move_77 : decode cX5_move 77 = .ok (.return_, 1) := by decide +kernel
theorem lk_X5_move_f18 : Cond.fieldLink RX5 18 "TreeComparer$Moves" "given" "LTreeComparer$Given;" ∈ wsX5_move := by decide +kernel
theorem hi_X5_move_5 : ∀ w ∈ u_ws RX5 TX5 6, w ∈ wsX5_move := by decide +kernel
theorem hi_X5_move_1 : ∀ w ∈ u_ws RX1 TX1 6, w ∈ wsX5_move := by decide +kernel
theorem lk_X5_move_f9 : Cond.fieldLink RX5 9 "TreeComparer$Moves" "target" "[I" ∈ wsX5_move := by decide +kernel
theorem lk_X5_move_f49 : Cond.fieldLink RX5 49 "TreeComparer$Moves" "count" "I" ∈ wsX5_move := by decide +kernel
theorem lk_X5_move_f53 : Cond.fieldLink RX5 53 "TreeComparer$Moves" "saved" "I" ∈ wsX5_move := by decide +kernel
theorem hi_X5_move_9 : ∀ w ∈ u_ws RX9 TX9 9, w ∈ wsX5_move := by decide +kernel
theorem lk_X5_move_i9 : Cond.initialized RX9 ∈ wsX5_move := by decide +kernel
theorem lk_X5_move_im70 : Cond.instanceMethod yX9_endOf ∈ wsX5_move := by decide +kernel
theorem lk_X5_move_se70 : Cond.selects RX9 yX9_endOf yX9_endOf ∈ wsX5_move := by decide +kernel
theorem lk_X5_move_f15 : Cond.fieldLink RX5 15 "TreeComparer$Moves" "closed" "[I" ∈ wsX5_move := by decide +kernel
def wph_X5_move_48 (p0 : Int) (p1 : Int) (x4 : Int) (M : Mem) (J48 : Int → Mem → Prop) (Q : Mem → Prop) : Prop := wp_X9_endOf M 12 p1 (fun y9 M10 => inR x4 ∧ inR y9 ∧ ((y9 ≤ x4 → Q M10) ∧ (¬ (y9 ≤ x4) → ((0 : Int) ≤ x4 ∧ x4 < 12) ∧ ((0 : Int) ≤ (M10 12 3 x4.toNat) ∧ (M10 12 3 x4.toNat) < 12) ∧ (∀ M15 : Mem, M15 = mset M10 8 3 ((M10 12 3 x4.toNat)).toNat p0 → J48 (x4 + 1) M15))))
def wpe_X5_move (p0 : Int) (p1 : Int) (M : Mem) (J48 : Int → Mem → Prop) (Q : Mem → Prop) : Prop := ((0 : Int) ≤ p0 ∧ p0 < 12) ∧ (∀ M1 : Mem, M1 = mset M 8 2 p0.toNat p1 → (∀ M3 : Mem, M3 = mset M1 8 4 0 ((M1 8 4 0) + 1) → wp_X5_gain M3 p0 p1 (fun y4 M5 => (∀ M6 : Mem, M6 = mset M5 8 5 0 ((M3 8 5 0) + y4) → ((0 : Int) ≤ p1 ∧ p1 < 12) ∧ (∀ y8 : Int, y8 = (M6 12 5 p1.toNat) → J48 y8 M6)))))
def wp_X5_move (M : Mem) (p0 : Int) (p1 : Int) (Q : Mem → Prop) : Prop := ∃ (I48 : Nat → Int → Mem → Prop), wpe_X5_move p0 p1 M (fun (x4 : Int) (M1 : Mem) => ∃ n1 : Nat, I48 n1 x4 M1) Q ∧ (∀ (n : Nat) (x4 : Int) (M : Mem), I48 n x4 M → wph_X5_move_48 p0 p1 x4 M (fun (x4 : Int) (M1 : Mem) => ∃ n1 : Nat, n1 < n ∧ I48 n1 x4 M1) Q)
set_option maxHeartbeats 4000000 in
set_option maxRecDepth 100000 in
theorem wkh_X5_move_48 {p : Program} {l : Launch} {e : Env} {s : State} {m : MethodId} {args : Array Value} {below : List Frame} {meth : Method} {c : Code} {D : va_G} {g : GT} {A : Nat → Prop} {a : Nat → Nat} {b : Nat → Nat → Nat} (X : vC p s m args meth c D g A RX5 wsX5_move cX5_move 5) (hr : meth.sig.returnType = none) {p0 : Int} {p1 : Int} {x4 : Int} {M : Mem} {J48 : Int → Mem → Prop} {Q : Mem → Prop} (hJ48 : ∀ (x4 : Int) (M : Mem), J48 x4 M → vV p l e ({ frames := 3, cells := 0, slots := 0, locals := 67 } : Room) s m args below meth c D g A a b 5 0 0 (MQ below (cQv D g A a b Q) args s 0 0 A) M [(0, .ref (a 8)), (1, iv p0), (2, iv p1), (3, .ref (a 12)), (4, iv x4)] 48 []) (hw : wph_X5_move_48 p0 p1 x4 M J48 Q) : vV p l e ({ frames := 3, cells := 0, slots := 0, locals := 67 } : Room) s m args below meth c D g A a b 5 0 0 (MQ below (cQv D g A a b Q) args s 0 0 A) M [(0, .ref (a 8)), (1, iv p0), (2, iv p1), (3, .ref (a 12)), (4, iv x4)] 48 [] := by
  unfold wph_X5_move_48 at hw
  refine V_iload X dX5_move_48 (q := 4) rfl ?_
  refine V_aload_n X dX5_move_50 rfl (q := 3) rfl ?_
  refine V_iload_n X dX5_move_51 rfl (q := 2) rfl ?_
  refine V_callVN_i X _ gO_12 rfl (As := [iv p1]) (st := [iv x4]) (c_X9_endOf l (by first | exact Or.inl rfl | exact Or.inr rfl) hw) ⟨va_cnB 1 X.2.2.2.1 gX5_move_X9_endOf_n70 rfl rfl rfl (X.2.2.2.2.1.2.1 _ (List.mem_of_getElem? (i := 119) rfl)) (X.2.2.2.1 _ lk_X5_move_i9) (by decide +kernel) ⟨Nat.le_of_ble_eq_true rfl, Nat.le_of_ble_eq_true rfl⟩, X.2.2.2.1 _ lk_X5_move_im70, X.2.2.2.1 _ lk_X5_move_se70⟩ rfl (Nat.le_of_ble_eq_true rfl) ⟨Nat.le_of_ble_eq_true rfl, Nat.le_of_ble_eq_true rfl⟩ rfl dX5_move_52 (fun y9 M10 hw => ?_)
  obtain ⟨h11, h12, hw⟩ := hw
  refine V_icmp_ge (tgt := 77) X h11 h12 dX5_move_55 (by decide) (fun q13 => ?_) (fun q13 => ?_)
  · have hw := hw.1 q13
    exact V_vret X hr hw dX5_move_77
  · have hw := hw.2 q13
    refine V_aload_n X dX5_move_58 rfl (q := 0) rfl ?_
    refine V_get (C := RX5) (T := TX5) (N := 6) (ci := 5) X hi_X5_move_5 gO_8 rfl 3 (by decide) lk_X5_move_f15 (fun _ h9 => h9) rfl dX5_move_59 ?_
    refine V_aload_n X dX5_move_62 rfl (q := 3) rfl ?_
    refine V_getN (C := RX9) (T := TX9) (N := 9) (ci := 9) X hi_X5_move_9 gO_12 rfl 3 (by decide) (List.mem_of_getElem? (i := 9) rfl) (fun _ h9 => h9) rfl dX5_move_63 ?_
    refine V_iload X dX5_move_66 (q := 4) rfl ?_
    obtain ⟨h14, hw⟩ := hw
    refine V_iald X (gA_12_3) h14 (by decide) dX5_move_68 ?_
    refine V_iload_n X dX5_move_69 rfl (q := 1) rfl ?_
    obtain ⟨h16, hw⟩ := hw
    refine V_iast X (gA_8_3) (sA_8_3) h16 (by decide) dX5_move_70 (fun M15 eM15 => ?_)
    have hw := hw M15 eM15
    refine V_iinc (lv1 := [(0, .ref (a 8)), (1, iv p0), (2, iv p1), (3, .ref (a 12)), (4, iv (x4 + 1))]) X [1, 2, 3, 4, 0] dX5_move_71 (q := 4) rfl (by decide) rfl ?_
    refine V_goto (tgt := 48) X dX5_move_74 (by decide) ?_
    exact hJ48 _ _ hw
set_option maxHeartbeats 4000000 in
set_option maxRecDepth 100000 in
theorem wke_X5_move {p : Program} {l : Launch} {e : Env} {s : State} {m : MethodId} {args : Array Value} {below : List Frame} {meth : Method} {c : Code} {D : va_G} {g : GT} {A : Nat → Prop} {a : Nat → Nat} {b : Nat → Nat → Nat} (X : vC p s m args meth c D g A RX5 wsX5_move cX5_move 5) (hr : meth.sig.returnType = none) {p0 : Int} {p1 : Int} {M : Mem} {J48 : Int → Mem → Prop} {Q : Mem → Prop} (hJ48 : ∀ (x4 : Int) (M : Mem), J48 x4 M → vV p l e ({ frames := 3, cells := 0, slots := 0, locals := 67 } : Room) s m args below meth c D g A a b 5 0 0 (MQ below (cQv D g A a b Q) args s 0 0 A) M [(0, .ref (a 8)), (1, iv p0), (2, iv p1), (3, .ref (a 12)), (4, iv x4)] 48 []) (hw : wpe_X5_move p0 p1 M J48 Q) : vV p l e ({ frames := 3, cells := 0, slots := 0, locals := 67 } : Room) s m args below meth c D g A a b 5 0 0 (MQ below (cQv D g A a b Q) args s 0 0 A) M [(0, .ref (a 8)), (1, iv p0), (2, iv p1)] 0 [] := by
  unfold wpe_X5_move at hw
  refine V_aload_n X dX5_move_0 rfl (q := 0) rfl ?_
  refine V_get (C := RX5) (T := TX5) (N := 6) (ci := 5) X hi_X5_move_5 gO_8 rfl 0 (by decide) lk_X5_move_f18 (fun _ h9 => h9) rfl dX5_move_1 ?_
  refine V_getN (C := RX1) (T := TX1) (N := 6) (ci := 1) X hi_X5_move_1 gO_1 rfl 5 (by decide) (List.mem_of_getElem? (i := 40) rfl) (fun _ h9 => h9) rfl dX5_move_4 ?_
  refine V_astore_n (lv1 := [(0, .ref (a 8)), (1, iv p0), (2, iv p1), (3, .ref (a 12))]) X [1, 2, 3, 0] dX5_move_7 rfl (by decide) rfl ?_
  refine V_aload_n X dX5_move_8 rfl (q := 0) rfl ?_
  refine V_get (C := RX5) (T := TX5) (N := 6) (ci := 5) X hi_X5_move_5 gO_8 rfl 2 (by decide) lk_X5_move_f9 (fun _ h9 => h9) rfl dX5_move_9 ?_
  refine V_iload_n X dX5_move_12 rfl (q := 1) rfl ?_
  refine V_iload_n X dX5_move_13 rfl (q := 2) rfl ?_
  obtain ⟨h2, hw⟩ := hw
  refine V_iast X (gA_8_2) (sA_8_2) h2 (by decide) dX5_move_14 (fun M1 eM1 => ?_)
  have hw := hw M1 eM1
  refine V_aload_n X dX5_move_15 rfl (q := 0) rfl ?_
  refine V_dup X dX5_move_16 rfl ?_
  refine V_get (C := RX5) (T := TX5) (N := 6) (ci := 5) X hi_X5_move_5 gO_8 rfl 4 (by decide) lk_X5_move_f49 (fun _ h9 => h9) rfl dX5_move_17 ?_
  refine V_iconst X dX5_move_20 ?_
  refine V_iadd X dX5_move_21 ?_
  refine V_put (C := RX5) (T := TX5) (N := 6) (ci := 5) X hi_X5_move_5 gO_8 rfl 4 (by decide) tyX5 tyX5_ok nmX5 rfl (tyX5_ok 4 (by decide)) (Or.inl rfl) (show 4 < 6 from by decide) sI_8_4 lk_X5_move_f49 (fun _ h9 => h9) dX5_move_22 (fun M3 eM3 => ?_)
  have hw := hw M3 eM3
  refine V_aload_n X dX5_move_25 rfl (q := 0) rfl ?_
  refine V_dup X dX5_move_26 rfl ?_
  refine V_get (C := RX5) (T := TX5) (N := 6) (ci := 5) X hi_X5_move_5 gO_8 rfl 5 (by decide) lk_X5_move_f53 (fun _ h9 => h9) rfl dX5_move_27 ?_
  refine V_aload_n X dX5_move_30 rfl (q := 0) rfl ?_
  refine V_iload_n X dX5_move_31 rfl (q := 1) rfl ?_
  refine V_iload_n X dX5_move_32 rfl (q := 2) rfl ?_
  refine V_callV_i X _ gO_8 rfl (As := [iv p0, iv p1]) (st := [iv ((M3 8 5 0)), .ref (a 8)]) (c_X5_gain l hw) (cwV 2 X.2.2.2.1 gX5_move_X5_gain rfl rfl rfl (by decide +kernel) ⟨Nat.le_of_ble_eq_true rfl, Nat.le_of_ble_eq_true rfl⟩) rfl (Nat.le_of_ble_eq_true rfl) ⟨Nat.le_of_ble_eq_true rfl, Nat.le_of_ble_eq_true rfl⟩ rfl dX5_move_33 (fun y4 M5 hw => ?_)
  refine V_iadd X dX5_move_36 ?_
  refine V_put (C := RX5) (T := TX5) (N := 6) (ci := 5) X hi_X5_move_5 gO_8 rfl 5 (by decide) tyX5 tyX5_ok nmX5 rfl (tyX5_ok 5 (by decide)) (Or.inl rfl) (show 5 < 6 from by decide) sI_8_5 lk_X5_move_f53 (fun _ h9 => h9) dX5_move_37 (fun M6 eM6 => ?_)
  have hw := hw M6 eM6
  refine V_aload_n X dX5_move_40 rfl (q := 3) rfl ?_
  refine V_getN (C := RX9) (T := TX9) (N := 9) (ci := 9) X hi_X5_move_9 gO_12 rfl 5 (by decide) (List.mem_of_getElem? (i := 15) rfl) (fun _ h9 => h9) rfl dX5_move_41 ?_
  refine V_iload_n X dX5_move_44 rfl (q := 2) rfl ?_
  obtain ⟨h7, hw⟩ := hw
  refine V_iald X (gA_12_5) h7 (by decide) dX5_move_45 ?_
  refine V_top (fun y8 ey8 => ?_)
  have hw := hw y8 ey8
  refine V_istore (lv1 := [(0, .ref (a 8)), (1, iv p0), (2, iv p1), (3, .ref (a 12)), (4, iv y8)]) X [1, 2, 3, 4, 0] dX5_move_46 (by decide) rfl ?_
  exact hJ48 _ _ hw
set_option maxHeartbeats 4000000 in
set_option maxRecDepth 100000 in
theorem c_X5_move (l : Launch) {p0 : Int} {p1 : Int} {D : va_G} {g : GT} {A : Nat → Prop} {a : Nat → Nat} {b : Nat → Nat → Nat} {M : Mem} {Q : Mem → Prop} (hw : wp_X5_move M p0 p1 Q) : Met l yX5_move wsX5_move ({ frames := 3, cells := 0, slots := 0, locals := 67 } : Room) (cPc D g A a b M [.ref (a 8), iv p0, iv p1]) (cQv D g A a b Q) 0 0 A := by
  refine Met.ofW (cc := cX5_move) (maxL := 5) (ret := none) (by decide) rfl ?_
  intro p e s m args below meth c s₁ B hml hv
  obtain ⟨rfl, hP, hD, hG⟩ := hv
  have X : vC p s m _ meth c D g A RX5 wsX5_move cX5_move 5 := ⟨B.exec, B.bytes, findClass_of_methodNamed B.named, atoms_spec (ws := wsX5_move) B.pre, hG, hml, B.notSynchronized⟩
  have hr := B.returns
  have hl := lv_entry ([.ref (a 8), iv p0, iv p1]) (n := 5) (Nat.le_of_ble_eq_true rfl)
  rw [lg_entry_eq]
  generalize (lg_sl ([.ref (a 8), iv p0, iv p1]) ++ List.replicate (5 - (lg_sl ([.ref (a 8), iv p0, iv p1])).length) Slot.unset).toArray = ls at hl ⊢
  have hl : lv_has ls 5 [(0, .ref (a 8)), (1, iv p0), (2, iv p1)] := hl
  obtain ⟨I48, hw, hI48⟩ := hw
  have K : ∀ n : Nat, (∀ (x4 : Int) (M : Mem), I48 n x4 M → vV p l e ({ frames := 3, cells := 0, slots := 0, locals := 67 } : Room) s m ([.ref (a 8), iv p0, iv p1] : List Value).toArray below meth c D g A a b 5 0 0 (MQ below (cQv D g A a b Q) ([.ref (a 8), iv p0, iv p1] : List Value).toArray s 0 0 A) M [(0, .ref (a 8)), (1, iv p0), (2, iv p1), (3, .ref (a 12)), (4, iv x4)] 48 []) := by
    intro n
    induction n using Nat.strongRecOn with
    | ind n ih =>
      exact fun x4 M hh => wkh_X5_move_48 X hr (fun _ _ ⟨n1, hn, hh⟩ => (ih n1 hn) _ _ hh) (hI48 n x4 M hh)
  exact wke_X5_move X hr  (fun _ _ ⟨n1, hh⟩ => (K n1) _ _ hh) hw s.heap [] ls hP hD va_S.rf hl

set_option maxRecDepth 20000 in
theorem ggX5_find_J7_fill_53178 : GoodIn wsX5_find wsJ7_fill_53178 := goodIn_r _ [14] (by decide +kernel) (by decide +kernel)
set_option maxRecDepth 20000 in
theorem gX5_find_J7_fill_53178 : GoodIn wsX5_find (va_wsS RX5 32 yJ7_fill_53178 wsJ7_fill_53178) := goodIn_app (goodIn_of _ (by decide +kernel)) ggX5_find_J7_fill_53178
set_option maxRecDepth 20000 in
theorem ggX5_find_X5_firstTarget : GoodIn wsX5_find wsX5_firstTarget := goodIn_r _ [19, 1, 3, 4, 20, 21, 22, 23, 24, 25, 26, 27, 28, 29, 30, 31, 32, 33, 34, 35, 36, 37, 18, 38, 39, 40, 41, 46, 47, 48, 49, 50, 51, 52, 53, 54, 55, 56, 57, 58, 59, 60, 61, 62, 63, 64, 65, 66, 67, 68, 69, 70, 71, 72, 73, 74] (by decide +kernel) (by decide +kernel)
set_option maxRecDepth 20000 in
theorem gX5_find_X5_firstTarget : GoodIn wsX5_find (wsV RX5 62 RX5 yX5_firstTarget wsX5_firstTarget) := goodIn_app (goodIn_of _ (by decide +kernel)) ggX5_find_X5_firstTarget
set_option maxRecDepth 20000 in
theorem ggX5_find_X5_move : GoodIn wsX5_find wsX5_move := goodIn_r _ [45, 1, 2, 9, 10, 4, 35, 36, 37, 18, 38, 39, 21, 40, 41, 24, 33, 25, 26, 27, 28, 29, 30, 46, 47, 48, 49, 50, 51, 52, 53, 54, 55, 56, 57, 66, 67, 68, 69, 70, 71, 72, 73, 74] (by decide +kernel) (by decide +kernel)
set_option maxRecDepth 20000 in
theorem gX5_find_X5_move : GoodIn wsX5_find (wsV RX5 66 RX5 yX5_move wsX5_move) := goodIn_app (goodIn_of _ (by decide +kernel)) ggX5_find_X5_move
set_option maxRecDepth 20000 in
theorem ggX5_find_X9_endOf : GoodIn wsX5_find wsX9_endOf := goodIn_r _ [29, 24, 30, 66, 67, 68, 69, 70, 71, 72, 73, 74] (by decide +kernel) (by decide +kernel)
set_option maxRecDepth 20000 in
theorem gX5_find_X9_endOf_n70 : GoodIn wsX5_find (wsX9_endOf) := ggX5_find_X9_endOf
theorem dX5_find_0 : decode cX5_find 0 = .ok (.aload_n 0, 1) := by decide +kernel
theorem dX5_find_1 : decode cX5_find 1 = .ok (.getfield 18, 3) := by decide +kernel
theorem dX5_find_4 : decode cX5_find 4 = .ok (.getfield 26, 3) := by decide +kernel
theorem dX5_find_7 : decode cX5_find 7 = .ok (.astore_n 1, 1) := by decide +kernel
theorem dX5_find_8 : decode cX5_find 8 = .ok (.aload_n 0, 1) := by decide +kernel
theorem dX5_find_9 : decode cX5_find 9 = .ok (.getfield 9, 3) := by decide +kernel
theorem dX5_find_12 : decode cX5_find 12 = .ok (.iconst (-1), 1) := by decide +kernel
theorem dX5_find_13 : decode cX5_find 13 = .ok (.invokestatic 32, 3) := by decide +kernel
theorem dX5_find_16 : decode cX5_find 16 = .ok (.aload_n 0, 1) := by decide +kernel
theorem dX5_find_17 : decode cX5_find 17 = .ok (.getfield 22, 3) := by decide +kernel
theorem dX5_find_20 : decode cX5_find 20 = .ok (.getfield 38, 3) := by decide +kernel
theorem dX5_find_23 : decode cX5_find 23 = .ok (.iconst 0, 1) := by decide +kernel
theorem dX5_find_24 : decode cX5_find 24 = .ok (.aload_n 0, 1) := by decide +kernel
theorem dX5_find_25 : decode cX5_find 25 = .ok (.getfield 15, 3) := by decide +kernel
theorem dX5_find_28 : decode cX5_find 28 = .ok (.iconst 0, 1) := by decide +kernel
theorem dX5_find_29 : decode cX5_find 29 = .ok (.bipush 12, 2) := by decide +kernel
theorem dX5_find_31 : decode cX5_find 31 = .ok (.invokestatic 43, 3) := by decide +kernel
theorem dX5_find_34 : decode cX5_find 34 = .ok (.aload_n 0, 1) := by decide +kernel
theorem dX5_find_35 : decode cX5_find 35 = .ok (.iconst 0, 1) := by decide +kernel
theorem dX5_find_36 : decode cX5_find 36 = .ok (.putfield 49, 3) := by decide +kernel
theorem dX5_find_39 : decode cX5_find 39 = .ok (.aload_n 0, 1) := by decide +kernel
theorem dX5_find_40 : decode cX5_find 40 = .ok (.iconst 0, 1) := by decide +kernel
theorem dX5_find_41 : decode cX5_find 41 = .ok (.putfield 53, 3) := by decide +kernel
theorem dX5_find_44 : decode cX5_find 44 = .ok (.iconst 0, 1) := by decide +kernel
theorem dX5_find_45 : decode cX5_find 45 = .ok (.istore_n 2, 1) := by decide +kernel
theorem dX5_find_46 : decode cX5_find 46 = .ok (.iconst 0, 1) := by decide +kernel
theorem dX5_find_47 : decode cX5_find 47 = .ok (.istore_n 3, 1) := by decide +kernel
theorem dX5_find_48 : decode cX5_find 48 = .ok (.iload_n 3, 1) := by decide +kernel
theorem dX5_find_49 : decode cX5_find 49 = .ok (.aload_n 1, 1) := by decide +kernel
theorem dX5_find_50 : decode cX5_find 50 = .ok (.getfield 56, 3) := by decide +kernel
theorem dX5_find_53 : decode cX5_find 53 = .ok (.if_icmp .ge 55, 3) := by decide +kernel
theorem dX5_find_56 : decode cX5_find 56 = .ok (.aload_n 1, 1) := by decide +kernel
theorem dX5_find_57 : decode cX5_find 57 = .ok (.getfield 59, 3) := by decide +kernel
theorem dX5_find_60 : decode cX5_find 60 = .ok (.iload_n 3, 1) := by decide +kernel
theorem dX5_find_61 : decode cX5_find 61 = .ok (.iaload, 1) := by decide +kernel
theorem dX5_find_62 : decode cX5_find 62 = .ok (.istore 4, 2) := by decide +kernel
theorem dX5_find_64 : decode cX5_find 64 = .ok (.iload_n 3, 1) := by decide +kernel
theorem dX5_find_65 : decode cX5_find 65 = .ok (.iload_n 2, 1) := by decide +kernel
theorem dX5_find_66 : decode cX5_find 66 = .ok (.if_icmp .ge 7, 3) := by decide +kernel
theorem dX5_find_69 : decode cX5_find 69 = .ok (.iconst (-1), 1) := by decide +kernel
theorem dX5_find_70 : decode cX5_find 70 = .ok (.goto 9, 3) := by decide +kernel
theorem dX5_find_73 : decode cX5_find 73 = .ok (.aload_n 0, 1) := by decide +kernel
theorem dX5_find_74 : decode cX5_find 74 = .ok (.iload 4, 2) := by decide +kernel
theorem dX5_find_76 : decode cX5_find 76 = .ok (.invokevirtual 62, 3) := by decide +kernel
theorem dX5_find_79 : decode cX5_find 79 = .ok (.istore 5, 2) := by decide +kernel
theorem dX5_find_81 : decode cX5_find 81 = .ok (.iload 5, 2) := by decide +kernel
theorem dX5_find_83 : decode cX5_find 83 = .ok (.iconst (-1), 1) := by decide +kernel
theorem dX5_find_84 : decode cX5_find 84 = .ok (.if_icmp .eq 18, 3) := by decide +kernel
theorem dX5_find_87 : decode cX5_find 87 = .ok (.aload_n 0, 1) := by decide +kernel
theorem dX5_find_88 : decode cX5_find 88 = .ok (.iload 4, 2) := by decide +kernel
theorem dX5_find_90 : decode cX5_find 90 = .ok (.iload 5, 2) := by decide +kernel
theorem dX5_find_92 : decode cX5_find 92 = .ok (.invokevirtual 66, 3) := by decide +kernel
theorem dX5_find_95 : decode cX5_find 95 = .ok (.aload_n 1, 1) := by decide +kernel
theorem dX5_find_96 : decode cX5_find 96 = .ok (.iload 4, 2) := by decide +kernel
theorem dX5_find_98 : decode cX5_find 98 = .ok (.invokevirtual 70, 3) := by decide +kernel
theorem dX5_find_101 : decode cX5_find 101 = .ok (.istore_n 2, 1) := by decide +kernel
theorem dX5_find_102 : decode cX5_find 102 = .ok (.iinc 3 1, 3) := by decide +kernel
theorem dX5_find_105 : decode cX5_find 105 = .ok (.goto (-57), 3) := by decide +kernel
theorem dX5_find_108 : decode cX5_find 108 = .ok (.return_, 1) := by decide +kernel
theorem lk_X5_find_f18 : Cond.fieldLink RX5 18 "TreeComparer$Moves" "given" "LTreeComparer$Given;" ∈ wsX5_find := by decide +kernel
theorem hi_X5_find_5 : ∀ w ∈ u_ws RX5 TX5 6, w ∈ wsX5_find := by decide +kernel
theorem hi_X5_find_1 : ∀ w ∈ u_ws RX1 TX1 6, w ∈ wsX5_find := by decide +kernel
theorem lk_X5_find_f9 : Cond.fieldLink RX5 9 "TreeComparer$Moves" "target" "[I" ∈ wsX5_find := by decide +kernel
theorem lk_X5_find_f22 : Cond.fieldLink RX5 22 "TreeComparer$Moves" "mapping" "LTreeComparer$Mapping;" ∈ wsX5_find := by decide +kernel
theorem hi_X5_find_4 : ∀ w ∈ u_ws RX4 TX4 8, w ∈ wsX5_find := by decide +kernel
theorem lk_X5_find_f15 : Cond.fieldLink RX5 15 "TreeComparer$Moves" "closed" "[I" ∈ wsX5_find := by decide +kernel
theorem lk_X5_find_m43 : Cond.methodLink RX5 43 arraycopyName ∈ wsX5_find := by decide +kernel
theorem lk_X5_find_cn : Cond.native arraycopyName ∈ wsX5_find := by decide +kernel
theorem lk_X5_find_cs : Cond.static arraycopyName ∈ wsX5_find := by decide +kernel
theorem lk_X5_find_ci : Cond.initialized "java/lang/System" ∈ wsX5_find := by decide +kernel
theorem lk_X5_find_f49 : Cond.fieldLink RX5 49 "TreeComparer$Moves" "count" "I" ∈ wsX5_find := by decide +kernel
theorem lk_X5_find_f53 : Cond.fieldLink RX5 53 "TreeComparer$Moves" "saved" "I" ∈ wsX5_find := by decide +kernel
theorem hi_X5_find_9 : ∀ w ∈ u_ws RX9 TX9 9, w ∈ wsX5_find := by decide +kernel
theorem lk_X5_find_i9 : Cond.initialized RX9 ∈ wsX5_find := by decide +kernel
theorem lk_X5_find_im70 : Cond.instanceMethod yX9_endOf ∈ wsX5_find := by decide +kernel
theorem lk_X5_find_se70 : Cond.selects RX9 yX9_endOf yX9_endOf ∈ wsX5_find := by decide +kernel
def wpj_X5_find_102 (x2 : Int) (x3 : Int) (M : Mem) (J48 : Int → Int → Mem → Prop) (Q : Mem → Prop) : Prop := J48 x2 (x3 + 1) M
def wpj_X5_find_79 (x2 : Int) (x3 : Int) (x4 : Int) (s0 : Int) (M : Mem) (J48 : Int → Int → Mem → Prop) (Q : Mem → Prop) : Prop := inR s0 ∧ ((s0 = (-1) → wpj_X5_find_102 x2 x3 M J48 Q) ∧ (¬ (s0 = (-1)) → wp_X5_move M x4 s0 (fun M19 => wp_X9_endOf M19 11 x4 (fun y20 M21 => wpj_X5_find_102 y20 x3 M21 J48 Q))))
def wph_X5_find_48 (x2 : Int) (x3 : Int) (M : Mem) (J48 : Int → Int → Mem → Prop) (Q : Mem → Prop) : Prop := inR x3 ∧ inR (M 11 8 0) ∧ (((M 11 8 0) ≤ x3 → Q M) ∧ (¬ ((M 11 8 0) ≤ x3) → ((0 : Int) ≤ x3 ∧ x3 < 12) ∧ (∀ y10 : Int, y10 = (M 11 3 x3.toNat) → inR x3 ∧ inR x2 ∧ ((x2 ≤ x3 → wp_X5_firstTarget M y10 (fun y14 M15 => wpj_X5_find_79 x2 x3 y10 y14 M15 J48 Q)) ∧ (¬ (x2 ≤ x3) → wpj_X5_find_79 x2 x3 y10 (-1) M J48 Q)))))
def wpe_X5_find (M : Mem) (J48 : Int → Int → Mem → Prop) (Q : Mem → Prop) : Prop := wp_J7_fill_53178 M 8 2 12 (-1) (fun M2 => (∀ M3 : Mem, M3 = mcopy M2 6 3 8 3 12 → (∀ M4 : Mem, M4 = mset M3 8 4 0 0 → (∀ M5 : Mem, M5 = mset M4 8 5 0 0 → J48 0 0 M5))))
def wp_X5_find (M : Mem) (Q : Mem → Prop) : Prop := ∃ (I48 : Nat → Int → Int → Mem → Prop), wpe_X5_find M (fun (x2 : Int) (x3 : Int) (M1 : Mem) => ∃ n1 : Nat, I48 n1 x2 x3 M1) Q ∧ (∀ (n : Nat) (x2 : Int) (x3 : Int) (M : Mem), I48 n x2 x3 M → wph_X5_find_48 x2 x3 M (fun (x2 : Int) (x3 : Int) (M1 : Mem) => ∃ n1 : Nat, n1 < n ∧ I48 n1 x2 x3 M1) Q)
set_option maxHeartbeats 4000000 in
set_option maxRecDepth 100000 in
theorem wkj_X5_find_102 {p : Program} {l : Launch} {e : Env} {s : State} {m : MethodId} {args : Array Value} {below : List Frame} {meth : Method} {c : Code} {D : va_G} {g : GT} {A : Nat → Prop} {a : Nat → Nat} {b : Nat → Nat → Nat} (X : vC p s m args meth c D g A RX5 wsX5_find cX5_find 6) (hr : meth.sig.returnType = none) {x2 : Int} {x3 : Int} {M : Mem} {J48 : Int → Int → Mem → Prop} {Q : Mem → Prop} (hJ48 : ∀ (x2 : Int) (x3 : Int) (M : Mem), J48 x2 x3 M → vV p l e ({ frames := 4, cells := 0, slots := 0, locals := 91 } : Room) s m args below meth c D g A a b 6 0 0 (MQ below (cQv D g A a b Q) args s 0 0 A) M [(0, .ref (a 8)), (1, .ref (a 11)), (2, iv x2), (3, iv x3)] 48 []) (hw : wpj_X5_find_102 x2 x3 M J48 Q) : vV p l e ({ frames := 4, cells := 0, slots := 0, locals := 91 } : Room) s m args below meth c D g A a b 6 0 0 (MQ below (cQv D g A a b Q) args s 0 0 A) M [(0, .ref (a 8)), (1, .ref (a 11)), (2, iv x2), (3, iv x3)] 102 [] := by
  unfold wpj_X5_find_102 at hw
  refine V_iinc (lv1 := [(0, .ref (a 8)), (1, .ref (a 11)), (2, iv x2), (3, iv (x3 + 1))]) X [1, 2, 3, 0] dX5_find_102 (q := 3) rfl (by decide) rfl ?_
  refine V_goto (tgt := 48) X dX5_find_105 (by decide) ?_
  exact hJ48 _ _ _ hw
set_option maxHeartbeats 4000000 in
set_option maxRecDepth 100000 in
theorem wkj_X5_find_79 {p : Program} {l : Launch} {e : Env} {s : State} {m : MethodId} {args : Array Value} {below : List Frame} {meth : Method} {c : Code} {D : va_G} {g : GT} {A : Nat → Prop} {a : Nat → Nat} {b : Nat → Nat → Nat} (X : vC p s m args meth c D g A RX5 wsX5_find cX5_find 6) (hr : meth.sig.returnType = none) {x2 : Int} {x3 : Int} {x4 : Int} {s0 : Int} {M : Mem} {J48 : Int → Int → Mem → Prop} {Q : Mem → Prop} (hJ48 : ∀ (x2 : Int) (x3 : Int) (M : Mem), J48 x2 x3 M → vV p l e ({ frames := 4, cells := 0, slots := 0, locals := 91 } : Room) s m args below meth c D g A a b 6 0 0 (MQ below (cQv D g A a b Q) args s 0 0 A) M [(0, .ref (a 8)), (1, .ref (a 11)), (2, iv x2), (3, iv x3)] 48 []) (hw : wpj_X5_find_79 x2 x3 x4 s0 M J48 Q) : vV p l e ({ frames := 4, cells := 0, slots := 0, locals := 91 } : Room) s m args below meth c D g A a b 6 0 0 (MQ below (cQv D g A a b Q) args s 0 0 A) M [(0, .ref (a 8)), (1, .ref (a 11)), (2, iv x2), (3, iv x3), (4, iv x4)] 79 [iv s0] := by
  unfold wpj_X5_find_79 at hw
  refine V_istore (lv1 := [(0, .ref (a 8)), (1, .ref (a 11)), (2, iv x2), (3, iv x3), (4, iv x4), (5, iv s0)]) X [1, 2, 3, 4, 5, 0] dX5_find_79 (by decide) rfl ?_
  refine V_iload X dX5_find_81 (q := 5) rfl ?_
  refine V_iconst X dX5_find_83 ?_
  obtain ⟨h16, hw⟩ := hw
  refine V_icmp_eq (tgt := 102) X h16 ⟨by decide, by decide⟩ dX5_find_84 (by decide) (fun q17 => ?_) (fun q17 => ?_)
  · have hw := hw.1 q17
    refine V_sub (lv1 := [(0, .ref (a 8)), (1, .ref (a 11)), (2, iv x2), (3, iv x3)]) [0, 1, 2, 3] rfl ?_
    exact wkj_X5_find_102 X hr hJ48 hw
  · have hw := hw.2 q17
    refine V_aload_n X dX5_find_87 rfl (q := 0) rfl ?_
    refine V_iload X dX5_find_88 (q := 4) rfl ?_
    refine V_iload X dX5_find_90 (q := 5) rfl ?_
    refine V_callV_v X _ gO_8 rfl (As := [iv x4, iv s0]) (st := []) (c_X5_move l hw) (cwV 2 X.2.2.2.1 gX5_find_X5_move rfl rfl rfl (by decide +kernel) ⟨Nat.le_of_ble_eq_true rfl, Nat.le_of_ble_eq_true rfl⟩) rfl (Nat.le_of_ble_eq_true rfl) ⟨Nat.le_of_ble_eq_true rfl, Nat.le_of_ble_eq_true rfl⟩ rfl dX5_find_92 (fun M19 hw => ?_)
    refine V_aload_n X dX5_find_95 rfl (q := 1) rfl ?_
    refine V_iload X dX5_find_96 (q := 4) rfl ?_
    refine V_callVN_i X _ gO_11 rfl (As := [iv x4]) (st := []) (c_X9_endOf l (by first | exact Or.inl rfl | exact Or.inr rfl) hw) ⟨va_cnB 1 X.2.2.2.1 gX5_find_X9_endOf_n70 rfl rfl rfl (X.2.2.2.2.1.2.1 _ (List.mem_of_getElem? (i := 119) rfl)) (X.2.2.2.1 _ lk_X5_find_i9) (by decide +kernel) ⟨Nat.le_of_ble_eq_true rfl, Nat.le_of_ble_eq_true rfl⟩, X.2.2.2.1 _ lk_X5_find_im70, X.2.2.2.1 _ lk_X5_find_se70⟩ rfl (Nat.le_of_ble_eq_true rfl) ⟨Nat.le_of_ble_eq_true rfl, Nat.le_of_ble_eq_true rfl⟩ rfl dX5_find_98 (fun y20 M21 hw => ?_)
    refine V_istore_n (lv1 := [(0, .ref (a 8)), (1, .ref (a 11)), (2, iv y20), (3, iv x3), (4, iv x4), (5, iv s0)]) X [1, 2, 0, 3, 4, 5] dX5_find_101 rfl (by decide) rfl ?_
    refine V_sub (lv1 := [(0, .ref (a 8)), (1, .ref (a 11)), (2, iv y20), (3, iv x3)]) [0, 1, 2, 3] rfl ?_
    exact wkj_X5_find_102 X hr hJ48 hw
set_option maxHeartbeats 4000000 in
set_option maxRecDepth 100000 in
theorem wkh_X5_find_48 {p : Program} {l : Launch} {e : Env} {s : State} {m : MethodId} {args : Array Value} {below : List Frame} {meth : Method} {c : Code} {D : va_G} {g : GT} {A : Nat → Prop} {a : Nat → Nat} {b : Nat → Nat → Nat} (X : vC p s m args meth c D g A RX5 wsX5_find cX5_find 6) (hr : meth.sig.returnType = none) {x2 : Int} {x3 : Int} {M : Mem} {J48 : Int → Int → Mem → Prop} {Q : Mem → Prop} (hJ48 : ∀ (x2 : Int) (x3 : Int) (M : Mem), J48 x2 x3 M → vV p l e ({ frames := 4, cells := 0, slots := 0, locals := 91 } : Room) s m args below meth c D g A a b 6 0 0 (MQ below (cQv D g A a b Q) args s 0 0 A) M [(0, .ref (a 8)), (1, .ref (a 11)), (2, iv x2), (3, iv x3)] 48 []) (hw : wph_X5_find_48 x2 x3 M J48 Q) : vV p l e ({ frames := 4, cells := 0, slots := 0, locals := 91 } : Room) s m args below meth c D g A a b 6 0 0 (MQ below (cQv D g A a b Q) args s 0 0 A) M [(0, .ref (a 8)), (1, .ref (a 11)), (2, iv x2), (3, iv x3)] 48 [] := by
  unfold wph_X5_find_48 at hw
  refine V_iload_n X dX5_find_48 rfl (q := 3) rfl ?_
  refine V_aload_n X dX5_find_49 rfl (q := 1) rfl ?_
  refine V_getN (C := RX9) (T := TX9) (N := 9) (ci := 9) X hi_X5_find_9 gO_11 rfl 8 (by decide) (List.mem_of_getElem? (i := 22) rfl) (fun _ h9 => h9) rfl dX5_find_50 ?_
  obtain ⟨h6, h7, hw⟩ := hw
  refine V_icmp_ge (tgt := 108) X h6 h7 dX5_find_53 (by decide) (fun q8 => ?_) (fun q8 => ?_)
  · have hw := hw.1 q8
    exact V_vret X hr hw dX5_find_108
  · have hw := hw.2 q8
    refine V_aload_n X dX5_find_56 rfl (q := 1) rfl ?_
    refine V_getN (C := RX9) (T := TX9) (N := 9) (ci := 9) X hi_X5_find_9 gO_11 rfl 3 (by decide) (List.mem_of_getElem? (i := 9) rfl) (fun _ h9 => h9) rfl dX5_find_57 ?_
    refine V_iload_n X dX5_find_60 rfl (q := 3) rfl ?_
    obtain ⟨h9, hw⟩ := hw
    refine V_iald X (gA_11_3) h9 (by decide) dX5_find_61 ?_
    refine V_top (fun y10 ey10 => ?_)
    have hw := hw y10 ey10
    refine V_istore (lv1 := [(0, .ref (a 8)), (1, .ref (a 11)), (2, iv x2), (3, iv x3), (4, iv y10)]) X [1, 2, 3, 4, 0] dX5_find_62 (by decide) rfl ?_
    refine V_iload_n X dX5_find_64 rfl (q := 3) rfl ?_
    refine V_iload_n X dX5_find_65 rfl (q := 2) rfl ?_
    obtain ⟨h11, h12, hw⟩ := hw
    refine V_icmp_ge (tgt := 73) X h11 h12 dX5_find_66 (by decide) (fun q13 => ?_) (fun q13 => ?_)
    · have hw := hw.1 q13
      refine V_aload_n X dX5_find_73 rfl (q := 0) rfl ?_
      refine V_iload X dX5_find_74 (q := 4) rfl ?_
      refine V_callV_i X _ gO_8 rfl (As := [iv y10]) (st := []) (c_X5_firstTarget l hw) (cwV 1 X.2.2.2.1 gX5_find_X5_firstTarget rfl rfl rfl (by decide +kernel) ⟨Nat.le_of_ble_eq_true rfl, Nat.le_of_ble_eq_true rfl⟩) rfl (Nat.le_of_ble_eq_true rfl) ⟨Nat.le_of_ble_eq_true rfl, Nat.le_of_ble_eq_true rfl⟩ rfl dX5_find_76 (fun y14 M15 hw => ?_)
      exact wkj_X5_find_79 X hr hJ48 hw
    · have hw := hw.2 q13
      refine V_iconst X dX5_find_69 ?_
      refine V_goto (tgt := 79) X dX5_find_70 (by decide) ?_
      exact wkj_X5_find_79 X hr hJ48 hw
set_option maxHeartbeats 4000000 in
set_option maxRecDepth 100000 in
theorem wke_X5_find {p : Program} {l : Launch} {e : Env} {s : State} {m : MethodId} {args : Array Value} {below : List Frame} {meth : Method} {c : Code} {D : va_G} {g : GT} {A : Nat → Prop} {a : Nat → Nat} {b : Nat → Nat → Nat} (X : vC p s m args meth c D g A RX5 wsX5_find cX5_find 6) (hr : meth.sig.returnType = none) {M : Mem} {J48 : Int → Int → Mem → Prop} {Q : Mem → Prop} (hJ48 : ∀ (x2 : Int) (x3 : Int) (M : Mem), J48 x2 x3 M → vV p l e ({ frames := 4, cells := 0, slots := 0, locals := 91 } : Room) s m args below meth c D g A a b 6 0 0 (MQ below (cQv D g A a b Q) args s 0 0 A) M [(0, .ref (a 8)), (1, .ref (a 11)), (2, iv x2), (3, iv x3)] 48 []) (hw : wpe_X5_find M J48 Q) : vV p l e ({ frames := 4, cells := 0, slots := 0, locals := 91 } : Room) s m args below meth c D g A a b 6 0 0 (MQ below (cQv D g A a b Q) args s 0 0 A) M [(0, .ref (a 8))] 0 [] := by
  unfold wpe_X5_find at hw
  refine V_aload_n X dX5_find_0 rfl (q := 0) rfl ?_
  refine V_get (C := RX5) (T := TX5) (N := 6) (ci := 5) X hi_X5_find_5 gO_8 rfl 0 (by decide) lk_X5_find_f18 (fun _ h9 => h9) rfl dX5_find_1 ?_
  refine V_getN (C := RX1) (T := TX1) (N := 6) (ci := 1) X hi_X5_find_1 gO_1 rfl 4 (by decide) (List.mem_of_getElem? (i := 36) rfl) (fun _ h9 => h9) rfl dX5_find_4 ?_
  refine V_astore_n (lv1 := [(0, .ref (a 8)), (1, .ref (a 11))]) X [1, 0] dX5_find_7 rfl (by decide) rfl ?_
  refine V_aload_n X dX5_find_8 rfl (q := 0) rfl ?_
  refine V_get (C := RX5) (T := TX5) (N := 6) (ci := 5) X hi_X5_find_5 gO_8 rfl 2 (by decide) lk_X5_find_f9 (fun _ h9 => h9) rfl dX5_find_9 ?_
  refine V_iconst X dX5_find_12 ?_
  refine V_callS_v X _ (As := [.ref (b 8 2), iv (-1)]) (st := []) (c_J7_fill_53178 l arr_8_2 hw) (va_cwS 2 X.2.2.2.1 gX5_find_J7_fill_53178 rfl rfl rfl (by decide +kernel) ⟨Nat.le_of_ble_eq_true rfl, Nat.le_of_ble_eq_true rfl⟩) rfl (Nat.le_of_ble_eq_true rfl) ⟨Nat.le_of_ble_eq_true rfl, Nat.le_of_ble_eq_true rfl⟩ rfl dX5_find_13 (fun M2 hw => ?_)
  refine V_aload_n X dX5_find_16 rfl (q := 0) rfl ?_
  refine V_get (C := RX5) (T := TX5) (N := 6) (ci := 5) X hi_X5_find_5 gO_8 rfl 1 (by decide) lk_X5_find_f22 (fun _ h9 => h9) rfl dX5_find_17 ?_
  refine V_getN (C := RX4) (T := TX4) (N := 8) (ci := 4) X hi_X5_find_4 gO_6 rfl 3 (by decide) (List.mem_of_getElem? (i := 74) rfl) (fun _ h9 => h9) rfl dX5_find_20 ?_
  refine V_iconst X dX5_find_23 ?_
  refine V_aload_n X dX5_find_24 rfl (q := 0) rfl ?_
  refine V_get (C := RX5) (T := TX5) (N := 6) (ci := 5) X hi_X5_find_5 gO_8 rfl 3 (by decide) lk_X5_find_f15 (fun _ h9 => h9) rfl dX5_find_25 ?_
  refine V_iconst X dX5_find_28 ?_
  refine V_bipush X dX5_find_29 rfl ?_
  refine V_copy X lk_X5_find_m43 lk_X5_find_cn lk_X5_find_cs lk_X5_find_ci (gA_6_3) (gA_8_3) rfl (Nat.le_of_ble_eq_true rfl) (Nat.le_of_ble_eq_true rfl) (Nat.le_of_ble_eq_true rfl) dX5_find_31 (fun M3 eM3 => ?_)
  have hw := hw M3 eM3
  refine V_aload_n X dX5_find_34 rfl (q := 0) rfl ?_
  refine V_iconst X dX5_find_35 ?_
  refine V_put (C := RX5) (T := TX5) (N := 6) (ci := 5) X hi_X5_find_5 gO_8 rfl 4 (by decide) tyX5 tyX5_ok nmX5 rfl (tyX5_ok 4 (by decide)) (Or.inl rfl) (show 4 < 6 from by decide) sI_8_4 lk_X5_find_f49 (fun _ h9 => h9) dX5_find_36 (fun M4 eM4 => ?_)
  have hw := hw M4 eM4
  refine V_aload_n X dX5_find_39 rfl (q := 0) rfl ?_
  refine V_iconst X dX5_find_40 ?_
  refine V_put (C := RX5) (T := TX5) (N := 6) (ci := 5) X hi_X5_find_5 gO_8 rfl 5 (by decide) tyX5 tyX5_ok nmX5 rfl (tyX5_ok 5 (by decide)) (Or.inl rfl) (show 5 < 6 from by decide) sI_8_5 lk_X5_find_f53 (fun _ h9 => h9) dX5_find_41 (fun M5 eM5 => ?_)
  have hw := hw M5 eM5
  refine V_iconst X dX5_find_44 ?_
  refine V_istore_n (lv1 := [(0, .ref (a 8)), (1, .ref (a 11)), (2, iv 0)]) X [1, 2, 0] dX5_find_45 rfl (by decide) rfl ?_
  refine V_iconst X dX5_find_46 ?_
  refine V_istore_n (lv1 := [(0, .ref (a 8)), (1, .ref (a 11)), (2, iv 0), (3, iv 0)]) X [1, 2, 3, 0] dX5_find_47 rfl (by decide) rfl ?_
  exact hJ48 _ _ _ hw
set_option maxHeartbeats 4000000 in
set_option maxRecDepth 100000 in
theorem c_X5_find (l : Launch) {D : va_G} {g : GT} {A : Nat → Prop} {a : Nat → Nat} {b : Nat → Nat → Nat} {M : Mem} {Q : Mem → Prop} (hw : wp_X5_find M Q) : Met l yX5_find wsX5_find ({ frames := 4, cells := 0, slots := 0, locals := 91 } : Room) (cPc D g A a b M [.ref (a 8)]) (cQv D g A a b Q) 0 0 A := by
  refine Met.ofW (cc := cX5_find) (maxL := 6) (ret := none) (by decide) rfl ?_
  intro p e s m args below meth c s₁ B hml hv
  obtain ⟨rfl, hP, hD, hG⟩ := hv
  have X : vC p s m _ meth c D g A RX5 wsX5_find cX5_find 6 := ⟨B.exec, B.bytes, findClass_of_methodNamed B.named, atoms_spec (ws := wsX5_find) B.pre, hG, hml, B.notSynchronized⟩
  have hr := B.returns
  have hl := lv_entry ([.ref (a 8)]) (n := 6) (Nat.le_of_ble_eq_true rfl)
  rw [lg_entry_eq]
  generalize (lg_sl ([.ref (a 8)]) ++ List.replicate (6 - (lg_sl ([.ref (a 8)])).length) Slot.unset).toArray = ls at hl ⊢
  have hl : lv_has ls 6 [(0, .ref (a 8))] := hl
  obtain ⟨I48, hw, hI48⟩ := hw
  have K : ∀ n : Nat, (∀ (x2 : Int) (x3 : Int) (M : Mem), I48 n x2 x3 M → vV p l e ({ frames := 4, cells := 0, slots := 0, locals := 91 } : Room) s m ([.ref (a 8)] : List Value).toArray below meth c D g A a b 6 0 0 (MQ below (cQv D g A a b Q) ([.ref (a 8)] : List Value).toArray s 0 0 A) M [(0, .ref (a 8)), (1, .ref (a 11)), (2, iv x2), (3, iv x3)] 48 []) := by
    intro n
    induction n using Nat.strongRecOn with
    | ind n ih =>
      exact fun x2 x3 M hh => wkh_X5_find_48 X hr (fun _ _ _ ⟨n1, hn, hh⟩ => (ih n1 hn) _ _ _ hh) (hI48 n x2 x3 M hh)
  exact wke_X5_find X hr  (fun _ _ _ ⟨n1, hh⟩ => (K n1) _ _ _ hh) hw s.heap [] ls hP hD va_S.rf hl
