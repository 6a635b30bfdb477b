theorem dX11_measures_0 : decode cX11_measures 0 = .ok (.iconst 0, 1) := by decide +kernel
theorem dX11_measures_1 : decode cX11_measures 1 = .ok (.istore_n 1, 1) := by decide +kernel
theorem dX11_measures_2 : decode cX11_measures 2 = .ok (.iload_n 1, 1) := by decide +kernel
theorem dX11_measures_3 : decode cX11_measures 3 = .ok (.iconst 2, 1) := by decide +kernel
theorem dX11_measures_4 : decode cX11_measures 4 = .ok (.if_icmp .ge 86, 3) := by decide +kernel
theorem dX11_measures_7 : decode cX11_measures 7 = .ok (.iconst 0, 1) := by decide +kernel
theorem dX11_measures_8 : decode cX11_measures 8 = .ok (.istore_n 2, 1) := by decide +kernel
theorem dX11_measures_9 : decode cX11_measures 9 = .ok (.iload_n 2, 1) := by decide +kernel
theorem dX11_measures_10 : decode cX11_measures 10 = .ok (.aload_n 0, 1) := by decide +kernel
theorem dX11_measures_11 : decode cX11_measures 11 = .ok (.getfield 25, 3) := by decide +kernel
theorem dX11_measures_14 : decode cX11_measures 14 = .ok (.iload_n 1, 1) := by decide +kernel
theorem dX11_measures_15 : decode cX11_measures 15 = .ok (.iaload, 1) := by decide +kernel
theorem dX11_measures_16 : decode cX11_measures 16 = .ok (.if_icmp .ge 68, 3) := by decide +kernel
theorem dX11_measures_19 : decode cX11_measures 19 = .ok (.iload_n 2, 1) := by decide +kernel
theorem dX11_measures_20 : decode cX11_measures 20 = .ok (.iconst 1, 1) := by decide +kernel
theorem dX11_measures_21 : decode cX11_measures 21 = .ok (.iadd, 1) := by decide +kernel
theorem dX11_measures_22 : decode cX11_measures 22 = .ok (.istore_n 3, 1) := by decide +kernel
theorem dX11_measures_23 : decode cX11_measures 23 = .ok (.iload_n 3, 1) := by decide +kernel
theorem dX11_measures_24 : decode cX11_measures 24 = .ok (.aload_n 0, 1) := by decide +kernel
theorem dX11_measures_25 : decode cX11_measures 25 = .ok (.getfield 25, 3) := by decide +kernel
theorem dX11_measures_28 : decode cX11_measures 28 = .ok (.iload_n 1, 1) := by decide +kernel
theorem dX11_measures_29 : decode cX11_measures 29 = .ok (.iaload, 1) := by decide +kernel
theorem dX11_measures_30 : decode cX11_measures 30 = .ok (.if_icmp .ge 34, 3) := by decide +kernel
theorem dX11_measures_33 : decode cX11_measures 33 = .ok (.aload_n 0, 1) := by decide +kernel
theorem dX11_measures_34 : decode cX11_measures 34 = .ok (.getfield 13, 3) := by decide +kernel
theorem dX11_measures_37 : decode cX11_measures 37 = .ok (.bipush 12, 2) := by decide +kernel
theorem dX11_measures_39 : decode cX11_measures 39 = .ok (.iload_n 1, 1) := by decide +kernel
theorem dX11_measures_40 : decode cX11_measures 40 = .ok (.imul, 1) := by decide +kernel
theorem dX11_measures_41 : decode cX11_measures 41 = .ok (.iload_n 3, 1) := by decide +kernel
theorem dX11_measures_42 : decode cX11_measures 42 = .ok (.iadd, 1) := by decide +kernel
theorem dX11_measures_43 : decode cX11_measures 43 = .ok (.iaload, 1) := by decide +kernel
theorem dX11_measures_44 : decode cX11_measures 44 = .ok (.aload_n 0, 1) := by decide +kernel
theorem dX11_measures_45 : decode cX11_measures 45 = .ok (.getfield 13, 3) := by decide +kernel
theorem dX11_measures_48 : decode cX11_measures 48 = .ok (.bipush 12, 2) := by decide +kernel
theorem dX11_measures_50 : decode cX11_measures 50 = .ok (.iload_n 1, 1) := by decide +kernel
theorem dX11_measures_51 : decode cX11_measures 51 = .ok (.imul, 1) := by decide +kernel
theorem dX11_measures_52 : decode cX11_measures 52 = .ok (.iload_n 2, 1) := by decide +kernel
theorem dX11_measures_53 : decode cX11_measures 53 = .ok (.iadd, 1) := by decide +kernel
theorem dX11_measures_54 : decode cX11_measures 54 = .ok (.iaload, 1) := by decide +kernel
theorem dX11_measures_55 : decode cX11_measures 55 = .ok (.if_icmp .le 9, 3) := by decide +kernel
theorem dX11_measures_58 : decode cX11_measures 58 = .ok (.iinc 3 1, 3) := by decide +kernel
theorem dX11_measures_61 : decode cX11_measures 61 = .ok (.goto (-38), 3) := by decide +kernel
theorem dX11_measures_64 : decode cX11_measures 64 = .ok (.aload_n 0, 1) := by decide +kernel
theorem dX11_measures_65 : decode cX11_measures 65 = .ok (.getfield 22, 3) := by decide +kernel
theorem dX11_measures_68 : decode cX11_measures 68 = .ok (.bipush 12, 2) := by decide +kernel
theorem dX11_measures_70 : decode cX11_measures 70 = .ok (.iload_n 1, 1) := by decide +kernel
theorem dX11_measures_71 : decode cX11_measures 71 = .ok (.imul, 1) := by decide +kernel
theorem dX11_measures_72 : decode cX11_measures 72 = .ok (.iload_n 2, 1) := by decide +kernel
theorem dX11_measures_73 : decode cX11_measures 73 = .ok (.iadd, 1) := by decide +kernel
theorem dX11_measures_74 : decode cX11_measures 74 = .ok (.iload_n 3, 1) := by decide +kernel
theorem dX11_measures_75 : decode cX11_measures 75 = .ok (.iload_n 2, 1) := by decide +kernel
theorem dX11_measures_76 : decode cX11_measures 76 = .ok (.isub, 1) := by decide +kernel
theorem dX11_measures_77 : decode cX11_measures 77 = .ok (.iastore, 1) := by decide +kernel
theorem dX11_measures_78 : decode cX11_measures 78 = .ok (.iinc 2 1, 3) := by decide +kernel
theorem dX11_measures_81 : decode cX11_measures 81 = .ok (.goto (-72), 3) := by decide +kernel
theorem dX11_measures_84 : decode cX11_measures 84 = .ok (.iinc 1 1, 3) := by decide +kernel
theorem dX11_measures_87 : decode cX11_measures 87 = .ok (.goto (-85), 3) := by decide +kernel
theorem dX11_measures_90 : decode cX11_measures 90 = .ok (.return_, 1) := by decide +kernel
theorem lk_X11_measures_f25 : Cond.fieldLink RX11 25 "TreeComparerModel" "many" "[I" ∈ wsX11_measures := by decide +kernel
theorem hi_X11_measures_11 : ∀ w ∈ u_ws RX11 TX11 24, w ∈ wsX11_measures := by decide +kernel
theorem lk_X11_measures_f13 : Cond.fieldLink RX11 13 "TreeComparerModel" "level" "[I" ∈ wsX11_measures := by decide +kernel
theorem lk_X11_measures_f22 : Cond.fieldLink RX11 22 "TreeComparerModel" "size" "[I" ∈ wsX11_measures := by decide +kernel
def wpj_X11_measures_64 (x1 : Int) (x2 : Int) (x3 : Int) (M : Mem) (J2 : Int → Mem → Prop) (J9 : Int → Int → Mem → Prop) (J23 : Int → Int → Int → Mem → Prop) (Q : Mem → Prop) : Prop := ((0 : Int) ≤ (12 * x1) + x2 ∧ (12 * x1) + x2 < 24) ∧ (∀ M17 : Mem, M17 = mset M 13 4 ((12 * x1) + x2).toNat (x3 - x2) → J9 x1 (x2 + 1) M17)
def wph_X11_measures_23 (x1 : Int) (x2 : Int) (x3 : Int) (M : Mem) (J2 : Int → Mem → Prop) (J9 : Int → Int → Mem → Prop) (J23 : Int → Int → Int → Mem → Prop) (Q : Mem → Prop) : Prop := ((0 : Int) ≤ x1 ∧ x1 < 2) ∧ inR x3 ∧ inR (M 13 5 x1.toNat) ∧ (((M 13 5 x1.toNat) ≤ x3 → wpj_X11_measures_64 x1 x2 x3 M J2 J9 J23 Q) ∧ (¬ ((M 13 5 x1.toNat) ≤ x3) → ((0 : Int) ≤ (12 * x1) + x3 ∧ (12 * x1) + x3 < 24) ∧ ((0 : Int) ≤ (12 * x1) + x2 ∧ (12 * x1) + x2 < 24) ∧ inR (M 13 1 ((12 * x1) + x3).toNat) ∧ inR (M 13 1 ((12 * x1) + x2).toNat) ∧ (((M 13 1 ((12 * x1) + x3).toNat) ≤ (M 13 1 ((12 * x1) + x2).toNat) → wpj_X11_measures_64 x1 x2 x3 M J2 J9 J23 Q) ∧ (¬ ((M 13 1 ((12 * x1) + x3).toNat) ≤ (M 13 1 ((12 * x1) + x2).toNat)) → J23 x1 x2 (x3 + 1) M))))
def wph_X11_measures_9 (x1 : Int) (x2 : Int) (M : Mem) (J2 : Int → Mem → Prop) (J9 : Int → Int → Mem → Prop) (J23 : Int → Int → Int → Mem → Prop) (Q : Mem → Prop) : Prop := ((0 : Int) ≤ x1 ∧ x1 < 2) ∧ inR x2 ∧ inR (M 13 5 x1.toNat) ∧ (((M 13 5 x1.toNat) ≤ x2 → J2 (x1 + 1) M) ∧ (¬ ((M 13 5 x1.toNat) ≤ x2) → (∀ y7 : Int, y7 = x2 + 1 → J23 x1 x2 y7 M)))
def wph_X11_measures_2 (x1 : Int) (M : Mem) (J2 : Int → Mem → Prop) (J9 : Int → Int → Mem → Prop) (J23 : Int → Int → Int → Mem → Prop) (Q : Mem → Prop) : Prop := inR x1 ∧ ((2 ≤ x1 → Q M) ∧ (¬ (2 ≤ x1) → J9 x1 0 M))
def wpe_X11_measures (M : Mem) (J2 : Int → Mem → Prop) (J9 : Int → Int → Mem → Prop) (J23 : Int → Int → Int → Mem → Prop) (Q : Mem → Prop) : Prop := J2 0 M
def wp_X11_measures (M : Mem) (Q : Mem → Prop) : Prop := ∃ (I2 : Nat → Int → Mem → Prop) (I9 : Nat → Int → Int → Mem → Prop) (I23 : Nat → Int → Int → Int → Mem → Prop), wpe_X11_measures M (fun (x1 : Int) (M1 : Mem) => ∃ n1 : Nat, I2 n1 x1 M1) (fun (x1 : Int) (x2 : Int) (M1 : Mem) => ∃ n1 : Nat, I9 n1 x1 x2 M1) (fun (x1 : Int) (x2 : Int) (x3 : Int) (M1 : Mem) => ∃ n1 : Nat, I23 n1 x1 x2 x3 M1) Q ∧ (∀ (n : Nat) (x1 : Int) (M : Mem), I2 n x1 M → wph_X11_measures_2 x1 M (fun (x1 : Int) (M1 : Mem) => ∃ n1 : Nat, n1 < n ∧ I2 n1 x1 M1) (fun (x1 : Int) (x2 : Int) (M1 : Mem) => ∃ n1 : Nat, n1 < n ∧ I9 n1 x1 x2 M1) (fun (x1 : Int) (x2 : Int) (x3 : Int) (M1 : Mem) => ∃ n1 : Nat, n1 < n ∧ I23 n1 x1 x2 x3 M1) Q) ∧ (∀ (n : Nat) (x1 : Int) (x2 : Int) (M : Mem), I9 n x1 x2 M → wph_X11_measures_9 x1 x2 M (fun (x1 : Int) (M1 : Mem) => ∃ n1 : Nat, n1 < n ∧ I2 n1 x1 M1) (fun (x1 : Int) (x2 : Int) (M1 : Mem) => ∃ n1 : Nat, n1 < n ∧ I9 n1 x1 x2 M1) (fun (x1 : Int) (x2 : Int) (x3 : Int) (M1 : Mem) => ∃ n1 : Nat, n1 < n ∧ I23 n1 x1 x2 x3 M1) Q) ∧ (∀ (n : Nat) (x1 : Int) (x2 : Int) (x3 : Int) (M : Mem), I23 n x1 x2 x3 M → wph_X11_measures_23 x1 x2 x3 M (fun (x1 : Int) (M1 : Mem) => ∃ n1 : Nat, n1 < n ∧ I2 n1 x1 M1) (fun (x1 : Int) (x2 : Int) (M1 : Mem) => ∃ n1 : Nat, n1 < n ∧ I9 n1 x1 x2 M1) (fun (x1 : Int) (x2 : Int) (x3 : Int) (M1 : Mem) => ∃ n1 : Nat, n1 < n ∧ I23 n1 x1 x2 x3 M1) Q)
set_option maxHeartbeats 4000000 in
set_option maxRecDepth 100000 in
theorem wkj_X11_measures_64 {p : Program} {l : Launch} {e : Env} {s : State} {m : MethodId} {args : Array Value} {below : List Frame} {meth : Method} {c : Code} {D : va_G} {g : GT} {A : Nat → Prop} {a : Nat → Nat} {b : Nat → Nat → Nat} (X : vC p s m args meth c D g A RX11 wsX11_measures cX11_measures 4) (hr : meth.sig.returnType = none) {x1 : Int} {x2 : Int} {x3 : Int} {M : Mem} {J2 : Int → Mem → Prop} {J9 : Int → Int → Mem → Prop} {J23 : Int → Int → Int → Mem → Prop} {Q : Mem → Prop} (hJ2 : ∀ (x1 : Int) (M : Mem), J2 x1 M → vV p l e ({ frames := 0, cells := 0, slots := 0, locals := 0 } : Room) s m args below meth c D g A a b 4 0 0 (MQ below (cQv D g A a b Q) args s 0 0 A) M [(0, .ref (a 13)), (1, iv x1)] 2 []) (hJ9 : ∀ (x1 : Int) (x2 : Int) (M : Mem), J9 x1 x2 M → vV p l e ({ frames := 0, cells := 0, slots := 0, locals := 0 } : Room) s m args below meth c D g A a b 4 0 0 (MQ below (cQv D g A a b Q) args s 0 0 A) M [(0, .ref (a 13)), (1, iv x1), (2, iv x2)] 9 []) (hJ23 : ∀ (x1 : Int) (x2 : Int) (x3 : Int) (M : Mem), J23 x1 x2 x3 M → vV p l e ({ frames := 0, cells := 0, slots := 0, locals := 0 } : Room) s m args below meth c D g A a b 4 0 0 (MQ below (cQv D g A a b Q) args s 0 0 A) M [(0, .ref (a 13)), (1, iv x1), (2, iv x2), (3, iv x3)] 23 []) (hw : wpj_X11_measures_64 x1 x2 x3 M J2 J9 J23 Q) : vV p l e ({ frames := 0, cells := 0, slots := 0, locals := 0 } : Room) s m args below meth c D g A a b 4 0 0 (MQ below (cQv D g A a b Q) args s 0 0 A) M [(0, .ref (a 13)), (1, iv x1), (2, iv x2), (3, iv x3)] 64 [] := by
  unfold wpj_X11_measures_64 at hw
  refine V_aload_n X dX11_measures_64 rfl (q := 0) rfl ?_
  refine V_get (C := RX11) (T := TX11) (N := 24) (ci := 11) X hi_X11_measures_11 gO_13 rfl 4 (by decide) lk_X11_measures_f22 (fun _ h9 => h9) rfl dX11_measures_65 ?_
  refine V_bipush X dX11_measures_68 rfl ?_
  refine V_iload_n X dX11_measures_70 rfl (q := 1) rfl ?_
  refine V_imul X dX11_measures_71 ?_
  refine V_iload_n X dX11_measures_72 rfl (q := 2) rfl ?_
  refine V_iadd X dX11_measures_73 ?_
  refine V_iload_n X dX11_measures_74 rfl (q := 3) rfl ?_
  refine V_iload_n X dX11_measures_75 rfl (q := 2) rfl ?_
  refine V_isub X dX11_measures_76 ?_
  obtain ⟨h18, hw⟩ := hw
  refine V_iast X (gA_13_4) (sA_13_4) h18 (by decide) dX11_measures_77 (fun M17 eM17 => ?_)
  have hw := hw M17 eM17
  refine V_iinc (lv1 := [(0, .ref (a 13)), (1, iv x1), (2, iv (x2 + 1)), (3, iv x3)]) X [1, 2, 0, 3] dX11_measures_78 (q := 2) rfl (by decide) rfl ?_
  refine V_goto (tgt := 9) X dX11_measures_81 (by decide) ?_
  refine V_sub (lv1 := [(0, .ref (a 13)), (1, iv x1), (2, iv (x2 + 1))]) [0, 1, 2] rfl ?_
  exact hJ9 _ _ _ hw
set_option maxHeartbeats 4000000 in
set_option maxRecDepth 100000 in
theorem wkh_X11_measures_23 {p : Program} {l : Launch} {e : Env} {s : State} {m : MethodId} {args : Array Value} {below : List Frame} {meth : Method} {c : Code} {D : va_G} {g : GT} {A : Nat → Prop} {a : Nat → Nat} {b : Nat → Nat → Nat} (X : vC p s m args meth c D g A RX11 wsX11_measures cX11_measures 4) (hr : meth.sig.returnType = none) {x1 : Int} {x2 : Int} {x3 : Int} {M : Mem} {J2 : Int → Mem → Prop} {J9 : Int → Int → Mem → Prop} {J23 : Int → Int → Int → Mem → Prop} {Q : Mem → Prop} (hJ2 : ∀ (x1 : Int) (M : Mem), J2 x1 M → vV p l e ({ frames := 0, cells := 0, slots := 0, locals := 0 } : Room) s m args below meth c D g A a b 4 0 0 (MQ below (cQv D g A a b Q) args s 0 0 A) M [(0, .ref (a 13)), (1, iv x1)] 2 []) (hJ9 : ∀ (x1 : Int) (x2 : Int) (M : Mem), J9 x1 x2 M → vV p l e ({ frames := 0, cells := 0, slots := 0, locals := 0 } : Room) s m args below meth c D g A a b 4 0 0 (MQ below (cQv D g A a b Q) args s 0 0 A) M [(0, .ref (a 13)), (1, iv x1), (2, iv x2)] 9 []) (hJ23 : ∀ (x1 : Int) (x2 : Int) (x3 : Int) (M : Mem), J23 x1 x2 x3 M → vV p l e ({ frames := 0, cells := 0, slots := 0, locals := 0 } : Room) s m args below meth c D g A a b 4 0 0 (MQ below (cQv D g A a b Q) args s 0 0 A) M [(0, .ref (a 13)), (1, iv x1), (2, iv x2), (3, iv x3)] 23 []) (hw : wph_X11_measures_23 x1 x2 x3 M J2 J9 J23 Q) : vV p l e ({ frames := 0, cells := 0, slots := 0, locals := 0 } : Room) s m args below meth c D g A a b 4 0 0 (MQ below (cQv D g A a b Q) args s 0 0 A) M [(0, .ref (a 13)), (1, iv x1), (2, iv x2), (3, iv x3)] 23 [] := by
  unfold wph_X11_measures_23 at hw
  refine V_iload_n X dX11_measures_23 rfl (q := 3) rfl ?_
  refine V_aload_n X dX11_measures_24 rfl (q := 0) rfl ?_
  refine V_get (C := RX11) (T := TX11) (N := 24) (ci := 11) X hi_X11_measures_11 gO_13 rfl 5 (by decide) lk_X11_measures_f25 (fun _ h9 => h9) rfl dX11_measures_25 ?_
  refine V_iload_n X dX11_measures_28 rfl (q := 1) rfl ?_
  obtain ⟨h8, hw⟩ := hw
  refine V_iald X (gA_13_5) h8 (by decide) dX11_measures_29 ?_
  obtain ⟨h9, h10, hw⟩ := hw
  refine V_icmp_ge (tgt := 64) X h9 h10 dX11_measures_30 (by decide) (fun q11 => ?_) (fun q11 => ?_)
  · have hw := hw.1 q11
    exact wkj_X11_measures_64 X hr hJ2 hJ9 hJ23 hw
  · have hw := hw.2 q11
    refine V_aload_n X dX11_measures_33 rfl (q := 0) rfl ?_
    refine V_get (C := RX11) (T := TX11) (N := 24) (ci := 11) X hi_X11_measures_11 gO_13 rfl 1 (by decide) lk_X11_measures_f13 (fun _ h9 => h9) rfl dX11_measures_34 ?_
    refine V_bipush X dX11_measures_37 rfl ?_
    refine V_iload_n X dX11_measures_39 rfl (q := 1) rfl ?_
    refine V_imul X dX11_measures_40 ?_
    refine V_iload_n X dX11_measures_41 rfl (q := 3) rfl ?_
    refine V_iadd X dX11_measures_42 ?_
    obtain ⟨h12, hw⟩ := hw
    refine V_iald X (gA_13_1) h12 (by decide) dX11_measures_43 ?_
    refine V_aload_n X dX11_measures_44 rfl (q := 0) rfl ?_
    refine V_get (C := RX11) (T := TX11) (N := 24) (ci := 11) X hi_X11_measures_11 gO_13 rfl 1 (by decide) lk_X11_measures_f13 (fun _ h9 => h9) rfl dX11_measures_45 ?_
    refine V_bipush X dX11_measures_48 rfl ?_
    refine V_iload_n X dX11_measures_50 rfl (q := 1) rfl ?_
    refine V_imul X dX11_measures_51 ?_
    refine V_iload_n X dX11_measures_52 rfl (q := 2) rfl ?_
    refine V_iadd X dX11_measures_53 ?_
    obtain ⟨h13, hw⟩ := hw
    refine V_iald X (gA_13_1) h13 (by decide) dX11_measures_54 ?_
    obtain ⟨h14, h15, hw⟩ := hw
    refine V_icmp_le (tgt := 64) X h14 h15 dX11_measures_55 (by decide) (fun q16 => ?_) (fun q16 => ?_)
    · have hw := hw.1 q16
      exact wkj_X11_measures_64 X hr hJ2 hJ9 hJ23 hw
    · have hw := hw.2 q16
      refine V_iinc (lv1 := [(0, .ref (a 13)), (1, iv x1), (2, iv x2), (3, iv (x3 + 1))]) X [1, 2, 3, 0] dX11_measures_58 (q := 3) rfl (by decide) rfl ?_
      refine V_goto (tgt := 23) X dX11_measures_61 (by decide) ?_
      exact hJ23 _ _ _ _ hw
set_option maxHeartbeats 4000000 in
set_option maxRecDepth 100000 in
theorem wkh_X11_measures_9 {p : Program} {l : Launch} {e : Env} {s : State} {m : MethodId} {args : Array Value} {below : List Frame} {meth : Method} {c : Code} {D : va_G} {g : GT} {A : Nat → Prop} {a : Nat → Nat} {b : Nat → Nat → Nat} (X : vC p s m args meth c D g A RX11 wsX11_measures cX11_measures 4) (hr : meth.sig.returnType = none) {x1 : Int} {x2 : Int} {M : Mem} {J2 : Int → Mem → Prop} {J9 : Int → Int → Mem → Prop} {J23 : Int → Int → Int → Mem → Prop} {Q : Mem → Prop} (hJ2 : ∀ (x1 : Int) (M : Mem), J2 x1 M → vV p l e ({ frames := 0, cells := 0, slots := 0, locals := 0 } : Room) s m args below meth c D g A a b 4 0 0 (MQ below (cQv D g A a b Q) args s 0 0 A) M [(0, .ref (a 13)), (1, iv x1)] 2 []) (hJ9 : ∀ (x1 : Int) (x2 : Int) (M : Mem), J9 x1 x2 M → vV p l e ({ frames := 0, cells := 0, slots := 0, locals := 0 } : Room) s m args below meth c D g A a b 4 0 0 (MQ below (cQv D g A a b Q) args s 0 0 A) M [(0, .ref (a 13)), (1, iv x1), (2, iv x2)] 9 []) (hJ23 : ∀ (x1 : Int) (x2 : Int) (x3 : Int) (M : Mem), J23 x1 x2 x3 M → vV p l e ({ frames := 0, cells := 0, slots := 0, locals := 0 } : Room) s m args below meth c D g A a b 4 0 0 (MQ below (cQv D g A a b Q) args s 0 0 A) M [(0, .ref (a 13)), (1, iv x1), (2, iv x2), (3, iv x3)] 23 []) (hw : wph_X11_measures_9 x1 x2 M J2 J9 J23 Q) : vV p l e ({ frames := 0, cells := 0, slots := 0, locals := 0 } : Room) s m args below meth c D g A a b 4 0 0 (MQ below (cQv D g A a b Q) args s 0 0 A) M [(0, .ref (a 13)), (1, iv x1), (2, iv x2)] 9 [] := by
  unfold wph_X11_measures_9 at hw
  refine V_iload_n X dX11_measures_9 rfl (q := 2) rfl ?_
  refine V_aload_n X dX11_measures_10 rfl (q := 0) rfl ?_
  refine V_get (C := RX11) (T := TX11) (N := 24) (ci := 11) X hi_X11_measures_11 gO_13 rfl 5 (by decide) lk_X11_measures_f25 (fun _ h9 => h9) rfl dX11_measures_11 ?_
  refine V_iload_n X dX11_measures_14 rfl (q := 1) rfl ?_
  obtain ⟨h3, hw⟩ := hw
  refine V_iald X (gA_13_5) h3 (by decide) dX11_measures_15 ?_
  obtain ⟨h4, h5, hw⟩ := hw
  refine V_icmp_ge (tgt := 84) X h4 h5 dX11_measures_16 (by decide) (fun q6 => ?_) (fun q6 => ?_)
  · have hw := hw.1 q6
    refine V_iinc (lv1 := [(0, .ref (a 13)), (1, iv (x1 + 1)), (2, iv x2)]) X [1, 0, 2] dX11_measures_84 (q := 1) rfl (by decide) rfl ?_
    refine V_goto (tgt := 2) X dX11_measures_87 (by decide) ?_
    refine V_sub (lv1 := [(0, .ref (a 13)), (1, iv (x1 + 1))]) [0, 1] rfl ?_
    exact hJ2 _ _ hw
  · have hw := hw.2 q6
    refine V_iload_n X dX11_measures_19 rfl (q := 2) rfl ?_
    refine V_iconst X dX11_measures_20 ?_
    refine V_iadd X dX11_measures_21 ?_
    refine V_top (fun y7 ey7 => ?_)
    have hw := hw y7 ey7
    refine V_istore_n (lv1 := [(0, .ref (a 13)), (1, iv x1), (2, iv x2), (3, iv y7)]) X [1, 2, 3, 0] dX11_measures_22 rfl (by decide) rfl ?_
    exact hJ23 _ _ _ _ hw
set_option maxHeartbeats 4000000 in
set_option maxRecDepth 100000 in
theorem wkh_X11_measures_2 {p : Program} {l : Launch} {e : Env} {s : State} {m : MethodId} {args : Array Value} {below : List Frame} {meth : Method} {c : Code} {D : va_G} {g : GT} {A : Nat → Prop} {a : Nat → Nat} {b : Nat → Nat → Nat} (X : vC p s m args meth c D g A RX11 wsX11_measures cX11_measures 4) (hr : meth.sig.returnType = none) {x1 : Int} {M : Mem} {J2 : Int → Mem → Prop} {J9 : Int → Int → Mem → Prop} {J23 : Int → Int → Int → Mem → Prop} {Q : Mem → Prop} (hJ2 : ∀ (x1 : Int) (M : Mem), J2 x1 M → vV p l e ({ frames := 0, cells := 0, slots := 0, locals := 0 } : Room) s m args below meth c D g A a b 4 0 0 (MQ below (cQv D g A a b Q) args s 0 0 A) M [(0, .ref (a 13)), (1, iv x1)] 2 []) (hJ9 : ∀ (x1 : Int) (x2 : Int) (M : Mem), J9 x1 x2 M → vV p l e ({ frames := 0, cells := 0, slots := 0, locals := 0 } : Room) s m args below meth c D g A a b 4 0 0 (MQ below (cQv D g A a b Q) args s 0 0 A) M [(0, .ref (a 13)), (1, iv x1), (2, iv x2)] 9 []) (hJ23 : ∀ (x1 : Int) (x2 : Int) (x3 : Int) (M : Mem), J23 x1 x2 x3 M → vV p l e ({ frames := 0, cells := 0, slots := 0, locals := 0 } : Room) s m args below meth c D g A a b 4 0 0 (MQ below (cQv D g A a b Q) args s 0 0 A) M [(0, .ref (a 13)), (1, iv x1), (2, iv x2), (3, iv x3)] 23 []) (hw : wph_X11_measures_2 x1 M J2 J9 J23 Q) : vV p l e ({ frames := 0, cells := 0, slots := 0, locals := 0 } : Room) s m args below meth c D g A a b 4 0 0 (MQ below (cQv D g A a b Q) args s 0 0 A) M [(0, .ref (a 13)), (1, iv x1)] 2 [] := by
  unfold wph_X11_measures_2 at hw
  refine V_iload_n X dX11_measures_2 rfl (q := 1) rfl ?_
  refine V_iconst X dX11_measures_3 ?_
  obtain ⟨h1, hw⟩ := hw
  refine V_icmp_ge (tgt := 90) X h1 ⟨by decide, by decide⟩ dX11_measures_4 (by decide) (fun q2 => ?_) (fun q2 => ?_)
  · have hw := hw.1 q2
    exact V_vret X hr hw dX11_measures_90
  · have hw := hw.2 q2
    refine V_iconst X dX11_measures_7 ?_
    refine V_istore_n (lv1 := [(0, .ref (a 13)), (1, iv x1), (2, iv 0)]) X [1, 2, 0] dX11_measures_8 rfl (by decide) rfl ?_
    exact hJ9 _ _ _ hw
set_option maxHeartbeats 4000000 in
set_option maxRecDepth 100000 in
theorem wke_X11_measures {p : Program} {l : Launch} {e : Env} {s : State} {m : MethodId} {args : Array Value} {below : List Frame} {meth : Method} {c : Code} {D : va_G} {g : GT} {A : Nat → Prop} {a : Nat → Nat} {b : Nat → Nat → Nat} (X : vC p s m args meth c D g A RX11 wsX11_measures cX11_measures 4) (hr : meth.sig.returnType = none) {M : Mem} {J2 : Int → Mem → Prop} {J9 : Int → Int → Mem → Prop} {J23 : Int → Int → Int → Mem → Prop} {Q : Mem → Prop} (hJ2 : ∀ (x1 : Int) (M : Mem), J2 x1 M → vV p l e ({ frames := 0, cells := 0, slots := 0, locals := 0 } : Room) s m args below meth c D g A a b 4 0 0 (MQ below (cQv D g A a b Q) args s 0 0 A) M [(0, .ref (a 13)), (1, iv x1)] 2 []) (hJ9 : ∀ (x1 : Int) (x2 : Int) (M : Mem), J9 x1 x2 M → vV p l e ({ frames := 0, cells := 0, slots := 0, locals := 0 } : Room) s m args below meth c D g A a b 4 0 0 (MQ below (cQv D g A a b Q) args s 0 0 A) M [(0, .ref (a 13)), (1, iv x1), (2, iv x2)] 9 []) (hJ23 : ∀ (x1 : Int) (x2 : Int) (x3 : Int) (M : Mem), J23 x1 x2 x3 M → vV p l e ({ frames := 0, cells := 0, slots := 0, locals := 0 } : Room) s m args below meth c D g A a b 4 0 0 (MQ below (cQv D g A a b Q) args s 0 0 A) M [(0, .ref (a 13)), (1, iv x1), (2, iv x2), (3, iv x3)] 23 []) (hw : wpe_X11_measures M J2 J9 J23 Q) : vV p l e ({ frames := 0, cells := 0, slots := 0, locals := 0 } : Room) s m args below meth c D g A a b 4 0 0 (MQ below (cQv D g A a b Q) args s 0 0 A) M [(0, .ref (a 13))] 0 [] := by
  unfold wpe_X11_measures at hw
  refine V_iconst X dX11_measures_0 ?_
  refine V_istore_n (lv1 := [(0, .ref (a 13)), (1, iv 0)]) X [1, 0] dX11_measures_1 rfl (by decide) rfl ?_
  exact hJ2 _ _ hw
set_option maxHeartbeats 4000000 in
set_option maxRecDepth 100000 in
theorem c_X11_measures (l : Launch) {D : va_G} {g : GT} {A : Nat → Prop} {a : Nat → Nat} {b : Nat → Nat → Nat} {M : Mem} {Q : Mem → Prop} (hw : wp_X11_measures M Q) : Met l yX11_measures wsX11_measures ({ frames := 0, cells := 0, slots := 0, locals := 0 } : Room) (cPc D g A a b M [.ref (a 13)]) (cQv D g A a b Q) 0 0 A := by
  refine Met.ofW (cc := cX11_measures) (maxL := 4) (ret := none) (by decide) rfl ?_
  intro p e s m args below meth c s₁ B hml hv
  obtain ⟨rfl, hP, hD, hG⟩ := hv
  have X : vC p s m _ meth c D g A RX11 wsX11_measures cX11_measures 4 := ⟨B.exec, B.bytes, findClass_of_methodNamed B.named, atoms_spec (ws := wsX11_measures) B.pre, hG, hml, B.notSynchronized⟩
  have hr := B.returns
  have hl := lv_entry ([.ref (a 13)]) (n := 4) (Nat.le_of_ble_eq_true rfl)
  rw [lg_entry_eq]
  generalize (lg_sl ([.ref (a 13)]) ++ List.replicate (4 - (lg_sl ([.ref (a 13)])).length) Slot.unset).toArray = ls at hl ⊢
  have hl : lv_has ls 4 [(0, .ref (a 13))] := hl
  obtain ⟨I2, I9, I23, hw, hI2, hI9, hI23⟩ := hw
  have K : ∀ n : Nat, (∀ (x1 : Int) (M : Mem), I2 n x1 M → vV p l e ({ frames := 0, cells := 0, slots := 0, locals := 0 } : Room) s m ([.ref (a 13)] : List Value).toArray below meth c D g A a b 4 0 0 (MQ below (cQv D g A a b Q) ([.ref (a 13)] : List Value).toArray s 0 0 A) M [(0, .ref (a 13)), (1, iv x1)] 2 []) ∧ (∀ (x1 : Int) (x2 : Int) (M : Mem), I9 n x1 x2 M → vV p l e ({ frames := 0, cells := 0, slots := 0, locals := 0 } : Room) s m ([.ref (a 13)] : List Value).toArray below meth c D g A a b 4 0 0 (MQ below (cQv D g A a b Q) ([.ref (a 13)] : List Value).toArray s 0 0 A) M [(0, .ref (a 13)), (1, iv x1), (2, iv x2)] 9 []) ∧ (∀ (x1 : Int) (x2 : Int) (x3 : Int) (M : Mem), I23 n x1 x2 x3 M → vV p l e ({ frames := 0, cells := 0, slots := 0, locals := 0 } : Room) s m ([.ref (a 13)] : List Value).toArray below meth c D g A a b 4 0 0 (MQ below (cQv D g A a b Q) ([.ref (a 13)] : List Value).toArray s 0 0 A) M [(0, .ref (a 13)), (1, iv x1), (2, iv x2), (3, iv x3)] 23 []) := by
    intro n
    induction n using Nat.strongRecOn with
    | ind n ih =>
      exact ⟨fun x1 M hh => wkh_X11_measures_2 X hr (fun _ _ ⟨n1, hn, hh⟩ => (ih n1 hn).1 _ _ hh) (fun _ _ _ ⟨n1, hn, hh⟩ => (ih n1 hn).2.1 _ _ _ hh) (fun _ _ _ _ ⟨n1, hn, hh⟩ => (ih n1 hn).2.2 _ _ _ _ hh) (hI2 n x1 M hh), fun x1 x2 M hh => wkh_X11_measures_9 X hr (fun _ _ ⟨n1, hn, hh⟩ => (ih n1 hn).1 _ _ hh) (fun _ _ _ ⟨n1, hn, hh⟩ => (ih n1 hn).2.1 _ _ _ hh) (fun _ _ _ _ ⟨n1, hn, hh⟩ => (ih n1 hn).2.2 _ _ _ _ hh) (hI9 n x1 x2 M hh), fun x1 x2 x3 M hh => wkh_X11_measures_23 X hr (fun _ _ ⟨n1, hn, hh⟩ => (ih n1 hn).1 _ _ hh) (fun _ _ _ ⟨n1, hn, hh⟩ => (ih n1 hn).2.1 _ _ _ hh) (fun _ _ _ _ ⟨n1, hn, hh⟩ => (ih n1 hn).2.2 _ _ _ _ hh) (hI23 n x1 x2 x3 M hh)⟩
  exact wke_X11_measures X hr  (fun _ _ ⟨n1, hh⟩ => (K n1).1 _ _ hh) (fun _ _ _ ⟨n1, hh⟩ => (K n1).2.1 _ _ _ hh) (fun _ _ _ _ ⟨n1, hh⟩ => (K n1).2.2 _ _ _ _ hh) hw s.heap [] ls hP hD va_S.rf hl

set_option maxRecDepth 20000 in
theorem ggX11_fills_X11_measures : GoodIn wsX11_fills wsX11_measures := goodIn_r _ [8, 1, 9, 10, 36, 37, 38, 39, 40, 41, 42, 43, 44, 45, 46, 47, 48, 49, 50, 51, 52, 53, 54, 55, 56, 57, 58, 59] (by decide +kernel) (by decide +kernel)
set_option maxRecDepth 20000 in
theorem gX11_fills_X11_measures : GoodIn wsX11_fills (wsV RX11 95 RX11 yX11_measures wsX11_measures) := goodIn_app (goodIn_of _ (by decide +kernel)) ggX11_fills_X11_measures
set_option maxRecDepth 20000 in
theorem ggX11_fills_X11_at : GoodIn wsX11_fills wsX11_at := goodIn_r _ [13] (by decide +kernel) (by decide +kernel)
set_option maxRecDepth 20000 in
theorem gX11_fills_X11_at : GoodIn wsX11_fills (va_wsS RX11 123 yX11_at wsX11_at) := goodIn_app (goodIn_of _ (by decide +kernel)) ggX11_fills_X11_at
set_option maxRecDepth 20000 in
theorem ggX11_fills_X11_cost : GoodIn wsX11_fills wsX11_cost := goodIn_r _ [17, 3, 2, 10, 18, 19, 20, 7, 21, 22, 23, 11, 12, 13, 24, 25, 26, 27, 28, 29, 30, 31, 32, 33, 34, 35, 36, 37, 38, 39, 40, 41, 42, 43, 44, 45, 46, 47, 48, 49, 50, 51, 52, 53, 54, 55, 56, 57, 58, 59] (by decide +kernel) (by decide +kernel)
set_option maxRecDepth 20000 in
theorem gX11_fills_X11_cost : GoodIn wsX11_fills (wsV RX11 136 RX11 yX11_cost wsX11_cost) := goodIn_app (goodIn_of _ (by decide +kernel)) ggX11_fills_X11_cost
set_option maxRecDepth 20000 in
theorem ggX11_fills_X11_lesser : GoodIn wsX11_fills wsX11_lesser := goodIn_r _ [26] (by decide +kernel) (by decide +kernel)
set_option maxRecDepth 20000 in
theorem gX11_fills_X11_lesser : GoodIn wsX11_fills (va_wsS RX11 127 yX11_lesser wsX11_lesser) := goodIn_app (goodIn_of _ (by decide +kernel)) ggX11_fills_X11_lesser
theorem dX11_fills_0 : decode cX11_fills 0 = .ok (.aload_n 0, 1) := by decide +kernel
theorem dX11_fills_1 : decode cX11_fills 1 = .ok (.invokevirtual 95, 3) := by decide +kernel
theorem dX11_fills_4 : decode cX11_fills 4 = .ok (.aload_n 0, 1) := by decide +kernel
theorem dX11_fills_5 : decode cX11_fills 5 = .ok (.getfield 25, 3) := by decide +kernel
theorem dX11_fills_8 : decode cX11_fills 8 = .ok (.iconst 0, 1) := by decide +kernel
theorem dX11_fills_9 : decode cX11_fills 9 = .ok (.iaload, 1) := by decide +kernel
theorem dX11_fills_10 : decode cX11_fills 10 = .ok (.istore_n 3, 1) := by decide +kernel
theorem dX11_fills_11 : decode cX11_fills 11 = .ok (.iload_n 3, 1) := by decide +kernel
theorem dX11_fills_12 : decode cX11_fills 12 = .ok (.ifCond .lt 102, 3) := by decide +kernel
theorem dX11_fills_15 : decode cX11_fills 15 = .ok (.iload_n 3, 1) := by decide +kernel
theorem dX11_fills_16 : decode cX11_fills 16 = .ok (.istore 4, 2) := by decide +kernel
theorem dX11_fills_18 : decode cX11_fills 18 = .ok (.iload 4, 2) := by decide +kernel
theorem dX11_fills_20 : decode cX11_fills 20 = .ok (.aload_n 0, 1) := by decide +kernel
theorem dX11_fills_21 : decode cX11_fills 21 = .ok (.getfield 25, 3) := by decide +kernel
theorem dX11_fills_24 : decode cX11_fills 24 = .ok (.iconst 0, 1) := by decide +kernel
theorem dX11_fills_25 : decode cX11_fills 25 = .ok (.iaload, 1) := by decide +kernel
theorem dX11_fills_26 : decode cX11_fills 26 = .ok (.if_icmp .gt 82, 3) := by decide +kernel
theorem dX11_fills_29 : decode cX11_fills 29 = .ok (.aload_n 0, 1) := by decide +kernel
theorem dX11_fills_30 : decode cX11_fills 30 = .ok (.getfield 25, 3) := by decide +kernel
theorem dX11_fills_33 : decode cX11_fills 33 = .ok (.iconst 1, 1) := by decide +kernel
theorem dX11_fills_34 : decode cX11_fills 34 = .ok (.iaload, 1) := by decide +kernel
theorem dX11_fills_35 : decode cX11_fills 35 = .ok (.istore 5, 2) := by decide +kernel
theorem dX11_fills_37 : decode cX11_fills 37 = .ok (.iload 5, 2) := by decide +kernel
theorem dX11_fills_39 : decode cX11_fills 39 = .ok (.ifCond .lt 63, 3) := by decide +kernel
theorem dX11_fills_42 : decode cX11_fills 42 = .ok (.iload 5, 2) := by decide +kernel
theorem dX11_fills_44 : decode cX11_fills 44 = .ok (.istore 6, 2) := by decide +kernel
theorem dX11_fills_46 : decode cX11_fills 46 = .ok (.iload 6, 2) := by decide +kernel
theorem dX11_fills_48 : decode cX11_fills 48 = .ok (.aload_n 0, 1) := by decide +kernel
theorem dX11_fills_49 : decode cX11_fills 49 = .ok (.getfield 25, 3) := by decide +kernel
theorem dX11_fills_52 : decode cX11_fills 52 = .ok (.iconst 1, 1) := by decide +kernel
theorem dX11_fills_53 : decode cX11_fills 53 = .ok (.iaload, 1) := by decide +kernel
theorem dX11_fills_54 : decode cX11_fills 54 = .ok (.if_icmp .gt 42, 3) := by decide +kernel
theorem dX11_fills_57 : decode cX11_fills 57 = .ok (.aload_n 0, 1) := by decide +kernel
theorem dX11_fills_58 : decode cX11_fills 58 = .ok (.getfield 35, 3) := by decide +kernel
theorem dX11_fills_61 : decode cX11_fills 61 = .ok (.iload_n 3, 1) := by decide +kernel
theorem dX11_fills_62 : decode cX11_fills 62 = .ok (.iload 4, 2) := by decide +kernel
theorem dX11_fills_64 : decode cX11_fills 64 = .ok (.iload 5, 2) := by decide +kernel
theorem dX11_fills_66 : decode cX11_fills 66 = .ok (.iload 6, 2) := by decide +kernel
theorem dX11_fills_68 : decode cX11_fills 68 = .ok (.invokestatic 123, 3) := by decide +kernel
theorem dX11_fills_71 : decode cX11_fills 71 = .ok (.aload_n 0, 1) := by decide +kernel
theorem dX11_fills_72 : decode cX11_fills 72 = .ok (.iload_n 3, 1) := by decide +kernel
theorem dX11_fills_73 : decode cX11_fills 73 = .ok (.iload 4, 2) := by decide +kernel
theorem dX11_fills_75 : decode cX11_fills 75 = .ok (.iload 5, 2) := by decide +kernel
theorem dX11_fills_77 : decode cX11_fills 77 = .ok (.iload 6, 2) := by decide +kernel
theorem dX11_fills_79 : decode cX11_fills 79 = .ok (.iload_n 1, 1) := by decide +kernel
theorem dX11_fills_80 : decode cX11_fills 80 = .ok (.iload_n 2, 1) := by decide +kernel
theorem dX11_fills_81 : decode cX11_fills 81 = .ok (.invokevirtual 136, 3) := by decide +kernel
theorem dX11_fills_84 : decode cX11_fills 84 = .ok (.ldc 122, 2) := by decide +kernel
theorem dX11_fills_86 : decode cX11_fills 86 = .ok (.invokestatic 127, 3) := by decide +kernel
theorem dX11_fills_89 : decode cX11_fills 89 = .ok (.iastore, 1) := by decide +kernel
theorem dX11_fills_90 : decode cX11_fills 90 = .ok (.iinc 6 1, 3) := by decide +kernel
theorem dX11_fills_93 : decode cX11_fills 93 = .ok (.goto (-47), 3) := by decide +kernel
theorem dX11_fills_96 : decode cX11_fills 96 = .ok (.iinc 5 (-1), 3) := by decide +kernel
theorem dX11_fills_99 : decode cX11_fills 99 = .ok (.goto (-62), 3) := by decide +kernel
theorem dX11_fills_102 : decode cX11_fills 102 = .ok (.iinc 4 1, 3) := by decide +kernel
theorem dX11_fills_105 : decode cX11_fills 105 = .ok (.goto (-87), 3) := by decide +kernel
theorem dX11_fills_108 : decode cX11_fills 108 = .ok (.iinc 3 (-1), 3) := by decide +kernel
theorem dX11_fills_111 : decode cX11_fills 111 = .ok (.goto (-100), 3) := by decide +kernel
theorem dX11_fills_114 : decode cX11_fills 114 = .ok (.aload_n 0, 1) := by decide +kernel
theorem dX11_fills_115 : decode cX11_fills 115 = .ok (.getfield 35, 3) := by decide +kernel
theorem dX11_fills_118 : decode cX11_fills 118 = .ok (.iconst 0, 1) := by decide +kernel
theorem dX11_fills_119 : decode cX11_fills 119 = .ok (.aload_n 0, 1) := by decide +kernel
theorem dX11_fills_120 : decode cX11_fills 120 = .ok (.getfield 25, 3) := by decide +kernel
theorem dX11_fills_123 : decode cX11_fills 123 = .ok (.iconst 0, 1) := by decide +kernel
theorem dX11_fills_124 : decode cX11_fills 124 = .ok (.iaload, 1) := by decide +kernel
theorem dX11_fills_125 : decode cX11_fills 125 = .ok (.iconst 0, 1) := by decide +kernel
theorem dX11_fills_126 : decode cX11_fills 126 = .ok (.aload_n 0, 1) := by decide +kernel
theorem dX11_fills_127 : decode cX11_fills 127 = .ok (.getfield 25, 3) := by decide +kernel
theorem dX11_fills_130 : decode cX11_fills 130 = .ok (.iconst 1, 1) := by decide +kernel
theorem dX11_fills_131 : decode cX11_fills 131 = .ok (.iaload, 1) := by decide +kernel
theorem dX11_fills_132 : decode cX11_fills 132 = .ok (.invokestatic 123, 3) := by decide +kernel
theorem dX11_fills_135 : decode cX11_fills 135 = .ok (.iaload, 1) := by decide +kernel
theorem dX11_fills_136 : decode cX11_fills 136 = .ok (.ireturn, 1) := by decide +kernel
theorem lk_X11_fills_f25 : Cond.fieldLink RX11 25 "TreeComparerModel" "many" "[I" ∈ wsX11_fills := by decide +kernel
theorem hi_X11_fills_11 : ∀ w ∈ u_ws RX11 TX11 24, w ∈ wsX11_fills := by decide +kernel
theorem lk_X11_fills_f35 : Cond.fieldLink RX11 35 "TreeComparerModel" "least" "[I" ∈ wsX11_fills := by decide +kernel
theorem lk_X11_fills_c122 : Cond.constant RX11 122 (100000) ∈ wsX11_fills := by decide +kernel
def wph_X11_fills_46 (p0 : Int) (p1 : Int) (x3 : Int) (x4 : Int) (x5 : Int) (x6 : Int) (M : Mem) (J11 : Int → Mem → Prop) (J18 : Int → Int → Mem → Prop) (J37 : Int → Int → Int → Mem → Prop) (J46 : Int → Int → Int → Int → Mem → Prop) (Q : Int → Mem → Prop) : Prop := inR x6 ∧ inR (M 13 5 1) ∧ (((M 13 5 1) < x6 → J37 x3 x4 (x5 + (-1)) M) ∧ (¬ ((M 13 5 1) < x6) → wp_X11_at M x3 x4 x5 x6 (fun y18 M19 => wp_X11_cost M19 x3 x4 x5 x6 p0 p1 (fun y20 M21 => wp_X11_lesser M21 y20 100000 (fun y22 M23 => ((0 : Int) ≤ y18 ∧ y18 < 28561) ∧ (∀ M24 : Mem, M24 = mset M23 13 8 y18.toNat y22 → J46 x3 x4 x5 (x6 + 1) M24))))))
def wph_X11_fills_37 (p0 : Int) (p1 : Int) (x3 : Int) (x4 : Int) (x5 : Int) (M : Mem) (J11 : Int → Mem → Prop) (J18 : Int → Int → Mem → Prop) (J37 : Int → Int → Int → Mem → Prop) (J46 : Int → Int → Int → Int → Mem → Prop) (Q : Int → Mem → Prop) : Prop := inR x5 ∧ ((x5 < 0 → J18 x3 (x4 + 1) M) ∧ (¬ (x5 < 0) → J46 x3 x4 x5 x5 M))
def wph_X11_fills_18 (p0 : Int) (p1 : Int) (x3 : Int) (x4 : Int) (M : Mem) (J11 : Int → Mem → Prop) (J18 : Int → Int → Mem → Prop) (J37 : Int → Int → Int → Mem → Prop) (J46 : Int → Int → Int → Int → Mem → Prop) (Q : Int → Mem → Prop) : Prop := inR x4 ∧ inR (M 13 5 0) ∧ (((M 13 5 0) < x4 → J11 (x3 + (-1)) M) ∧ (¬ ((M 13 5 0) < x4) → (∀ y12 : Int, y12 = (M 13 5 1) → J37 x3 x4 y12 M)))
def wph_X11_fills_11 (p0 : Int) (p1 : Int) (x3 : Int) (M : Mem) (J11 : Int → Mem → Prop) (J18 : Int → Int → Mem → Prop) (J37 : Int → Int → Int → Mem → Prop) (J46 : Int → Int → Int → Int → Mem → Prop) (Q : Int → Mem → Prop) : Prop := inR x3 ∧ ((x3 < 0 → wp_X11_at M 0 ((M 13 5 0)) 0 ((M 13 5 1)) (fun y6 M7 => ((0 : Int) ≤ y6 ∧ y6 < 28561) ∧ Q ((M7 13 8 y6.toNat)) M7)) ∧ (¬ (x3 < 0) → J18 x3 x3 M))
def wpe_X11_fills (p0 : Int) (p1 : Int) (M : Mem) (J11 : Int → Mem → Prop) (J18 : Int → Int → Mem → Prop) (J37 : Int → Int → Int → Mem → Prop) (J46 : Int → Int → Int → Int → Mem → Prop) (Q : Int → Mem → Prop) : Prop := wp_X11_measures M (fun M2 => (∀ y3 : Int, y3 = (M2 13 5 0) → J11 y3 M2))
def wp_X11_fills (M : Mem) (p0 : Int) (p1 : Int) (Q : Int → Mem → Prop) : Prop := ∃ (I11 : Nat → Int → Mem → Prop) (I18 : Nat → Int → Int → Mem → Prop) (I37 : Nat → Int → Int → Int → Mem → Prop) (I46 : Nat → Int → Int → Int → Int → Mem → Prop), wpe_X11_fills p0 p1 M (fun (x3 : Int) (M1 : Mem) => ∃ n1 : Nat, I11 n1 x3 M1) (fun (x3 : Int) (x4 : Int) (M1 : Mem) => ∃ n1 : Nat, I18 n1 x3 x4 M1) (fun (x3 : Int) (x4 : Int) (x5 : Int) (M1 : Mem) => ∃ n1 : Nat, I37 n1 x3 x4 x5 M1) (fun (x3 : Int) (x4 : Int) (x5 : Int) (x6 : Int) (M1 : Mem) => ∃ n1 : Nat, I46 n1 x3 x4 x5 x6 M1) Q ∧ (∀ (n : Nat) (x3 : Int) (M : Mem), I11 n x3 M → wph_X11_fills_11 p0 p1 x3 M (fun (x3 : Int) (M1 : Mem) => ∃ n1 : Nat, n1 < n ∧ I11 n1 x3 M1) (fun (x3 : Int) (x4 : Int) (M1 : Mem) => ∃ n1 : Nat, n1 < n ∧ I18 n1 x3 x4 M1) (fun (x3 : Int) (x4 : Int) (x5 : Int) (M1 : Mem) => ∃ n1 : Nat, n1 < n ∧ I37 n1 x3 x4 x5 M1) (fun (x3 : Int) (x4 : Int) (x5 : Int) (x6 : Int) (M1 : Mem) => ∃ n1 : Nat, n1 < n ∧ I46 n1 x3 x4 x5 x6 M1) Q) ∧ (∀ (n : Nat) (x3 : Int) (x4 : Int) (M : Mem), I18 n x3 x4 M → wph_X11_fills_18 p0 p1 x3 x4 M (fun (x3 : Int) (M1 : Mem) => ∃ n1 : Nat, n1 < n ∧ I11 n1 x3 M1) (fun (x3 : Int) (x4 : Int) (M1 : Mem) => ∃ n1 : Nat, n1 < n ∧ I18 n1 x3 x4 M1) (fun (x3 : Int) (x4 : Int) (x5 : Int) (M1 : Mem) => ∃ n1 : Nat, n1 < n ∧ I37 n1 x3 x4 x5 M1) (fun (x3 : Int) (x4 : Int) (x5 : Int) (x6 : Int) (M1 : Mem) => ∃ n1 : Nat, n1 < n ∧ I46 n1 x3 x4 x5 x6 M1) Q) ∧ (∀ (n : Nat) (x3 : Int) (x4 : Int) (x5 : Int) (M : Mem), I37 n x3 x4 x5 M → wph_X11_fills_37 p0 p1 x3 x4 x5 M (fun (x3 : Int) (M1 : Mem) => ∃ n1 : Nat, n1 < n ∧ I11 n1 x3 M1) (fun (x3 : Int) (x4 : Int) (M1 : Mem) => ∃ n1 : Nat, n1 < n ∧ I18 n1 x3 x4 M1) (fun (x3 : Int) (x4 : Int) (x5 : Int) (M1 : Mem) => ∃ n1 : Nat, n1 < n ∧ I37 n1 x3 x4 x5 M1) (fun (x3 : Int) (x4 : Int) (x5 : Int) (x6 : Int) (M1 : Mem) => ∃ n1 : Nat, n1 < n ∧ I46 n1 x3 x4 x5 x6 M1) Q) ∧ (∀ (n : Nat) (x3 : Int) (x4 : Int) (x5 : Int) (x6 : Int) (M : Mem), I46 n x3 x4 x5 x6 M → wph_X11_fills_46 p0 p1 x3 x4 x5 x6 M (fun (x3 : Int) (M1 : Mem) => ∃ n1 : Nat, n1 < n ∧ I11 n1 x3 M1) (fun (x3 : Int) (x4 : Int) (M1 : Mem) => ∃ n1 : Nat, n1 < n ∧ I18 n1 x3 x4 M1) (fun (x3 : Int) (x4 : Int) (x5 : Int) (M1 : Mem) => ∃ n1 : Nat, n1 < n ∧ I37 n1 x3 x4 x5 M1) (fun (x3 : Int) (x4 : Int) (x5 : Int) (x6 : Int) (M1 : Mem) => ∃ n1 : Nat, n1 < n ∧ I46 n1 x3 x4 x5 x6 M1) Q)
set_option maxHeartbeats 4000000 in
set_option maxRecDepth 100000 in
theorem wkh_X11_fills_46 {p : Program} {l : Launch} {e : Env} {s : State} {m : MethodId} {args : Array Value} {below : List Frame} {meth : Method} {c : Code} {D : va_G} {g : GT} {A : Nat → Prop} {a : Nat → Nat} {b : Nat → Nat → Nat} (X : vC p s m args meth c D g A RX11 wsX11_fills cX11_fills 7) (hr : meth.sig.returnType = (some .int)) {p0 : Int} {p1 : Int} {x3 : Int} {x4 : Int} {x5 : Int} {x6 : Int} {M : Mem} {J11 : Int → Mem → Prop} {J18 : Int → Int → Mem → Prop} {J37 : Int → Int → Int → Mem → Prop} {J46 : Int → Int → Int → Int → Mem → Prop} {Q : Int → Mem → Prop} (hJ11 : ∀ (x3 : Int) (M : Mem), J11 x3 M → vV p l e ({ frames := 3, cells := 0, slots := 0, locals := 74 } : Room) s m args below meth c D g A a b 7 0 0 (MQ below (cQi D g A a b Q) args s 0 0 A) M [(0, .ref (a 13)), (1, iv p0), (2, iv p1), (3, iv x3)] 11 []) (hJ18 : ∀ (x3 : Int) (x4 : Int) (M : Mem), J18 x3 x4 M → vV p l e ({ frames := 3, cells := 0, slots := 0, locals := 74 } : Room) s m args below meth c D g A a b 7 0 0 (MQ below (cQi D g A a b Q) args s 0 0 A) M [(0, .ref (a 13)), (1, iv p0), (2, iv p1), (3, iv x3), (4, iv x4)] 18 []) (hJ37 : ∀ (x3 : Int) (x4 : Int) (x5 : Int) (M : Mem), J37 x3 x4 x5 M → vV p l e ({ frames := 3, cells := 0, slots := 0, locals := 74 } : Room) s m args below meth c D g A a b 7 0 0 (MQ below (cQi D g A a b Q) args s 0 0 A) M [(0, .ref (a 13)), (1, iv p0), (2, iv p1), (3, iv x3), (4, iv x4), (5, iv x5)] 37 []) (hJ46 : ∀ (x3 : Int) (x4 : Int) (x5 : Int) (x6 : Int) (M : Mem), J46 x3 x4 x5 x6 M → vV p l e ({ frames := 3, cells := 0, slots := 0, locals := 74 } : Room) s m args below meth c D g A a b 7 0 0 (MQ below (cQi D g A a b Q) args s 0 0 A) M [(0, .ref (a 13)), (1, iv p0), (2, iv p1), (3, iv x3), (4, iv x4), (5, iv x5), (6, iv x6)] 46 []) (hw : wph_X11_fills_46 p0 p1 x3 x4 x5 x6 M J11 J18 J37 J46 Q) : vV p l e ({ frames := 3, cells := 0, slots := 0, locals := 74 } : Room) s m args below meth c D g A a b 7 0 0 (MQ below (cQi D g A a b Q) args s 0 0 A) M [(0, .ref (a 13)), (1, iv p0), (2, iv p1), (3, iv x3), (4, iv x4), (5, iv x5), (6, iv x6)] 46 [] := by
  unfold wph_X11_fills_46 at hw
  refine V_iload X dX11_fills_46 (q := 6) rfl ?_
  refine V_aload_n X dX11_fills_48 rfl (q := 0) rfl ?_
  refine V_get (C := RX11) (T := TX11) (N := 24) (ci := 11) X hi_X11_fills_11 gO_13 rfl 5 (by decide) lk_X11_fills_f25 (fun _ h9 => h9) rfl dX11_fills_49 ?_
  refine V_iconst X dX11_fills_52 ?_
  refine V_iald X (gA_13_5) ⟨by decide, by decide⟩ (by decide) dX11_fills_53 ?_
  obtain ⟨h15, h16, hw⟩ := hw
  refine V_icmp_gt (tgt := 96) X h15 h16 dX11_fills_54 (by decide) (fun q17 => ?_) (fun q17 => ?_)
  · have hw := hw.1 q17
    refine V_iinc (lv1 := [(0, .ref (a 13)), (1, iv p0), (2, iv p1), (3, iv x3), (4, iv x4), (5, iv (x5 + (-1))), (6, iv x6)]) X [1, 2, 3, 4, 5, 0, 6] dX11_fills_96 (q := 5) rfl (by decide) rfl ?_
    refine V_goto (tgt := 37) X dX11_fills_99 (by decide) ?_
    refine V_sub (lv1 := [(0, .ref (a 13)), (1, iv p0), (2, iv p1), (3, iv x3), (4, iv x4), (5, iv (x5 + (-1)))]) [0, 1, 2, 3, 4, 5] rfl ?_
    exact hJ37 _ _ _ _ hw
  · have hw := hw.2 q17
    refine V_aload_n X dX11_fills_57 rfl (q := 0) rfl ?_
    refine V_get (C := RX11) (T := TX11) (N := 24) (ci := 11) X hi_X11_fills_11 gO_13 rfl 8 (by decide) lk_X11_fills_f35 (fun _ h9 => h9) rfl dX11_fills_58 ?_
    refine V_iload_n X dX11_fills_61 rfl (q := 3) rfl ?_
    refine V_iload X dX11_fills_62 (q := 4) rfl ?_
    refine V_iload X dX11_fills_64 (q := 5) rfl ?_
    refine V_iload X dX11_fills_66 (q := 6) rfl ?_
    refine V_callS_i X _ (As := [iv x3, iv x4, iv x5, iv x6]) (st := [.ref (b 13 8)]) (c_X11_at l hw) (va_cwS 4 X.2.2.2.1 gX11_fills_X11_at rfl rfl rfl (by decide +kernel) ⟨Nat.le_of_ble_eq_true rfl, Nat.le_of_ble_eq_true rfl⟩) rfl (Nat.le_of_ble_eq_true rfl) ⟨Nat.le_of_ble_eq_true rfl, Nat.le_of_ble_eq_true rfl⟩ rfl dX11_fills_68 (fun y18 M19 hw => ?_)
    refine V_aload_n X dX11_fills_71 rfl (q := 0) rfl ?_
    refine V_iload_n X dX11_fills_72 rfl (q := 3) rfl ?_
    refine V_iload X dX11_fills_73 (q := 4) rfl ?_
    refine V_iload X dX11_fills_75 (q := 5) rfl ?_
    refine V_iload X dX11_fills_77 (q := 6) rfl ?_
    refine V_iload_n X dX11_fills_79 rfl (q := 1) rfl ?_
    refine V_iload_n X dX11_fills_80 rfl (q := 2) rfl ?_
    refine V_callV_i X _ gO_13 rfl (As := [iv x3, iv x4, iv x5, iv x6, iv p0, iv p1]) (st := [iv y18, .ref (b 13 8)]) (c_X11_cost l hw) (cwV 6 X.2.2.2.1 gX11_fills_X11_cost rfl rfl rfl (by decide +kernel) ⟨Nat.le_of_ble_eq_true rfl, Nat.le_of_ble_eq_true rfl⟩) rfl (Nat.le_of_ble_eq_true rfl) ⟨Nat.le_of_ble_eq_true rfl, Nat.le_of_ble_eq_true rfl⟩ rfl dX11_fills_81 (fun y20 M21 hw => ?_)
    refine V_ldc (x := 100000) X lk_X11_fills_c122 (by decide) dX11_fills_84 ?_
    refine V_callS_i X _ (As := [iv y20, iv 100000]) (st := [iv y18, .ref (b 13 8)]) (c_X11_lesser l hw) (va_cwS 2 X.2.2.2.1 gX11_fills_X11_lesser rfl rfl rfl (by decide +kernel) ⟨Nat.le_of_ble_eq_true rfl, Nat.le_of_ble_eq_true rfl⟩) rfl (Nat.le_of_ble_eq_true rfl) ⟨Nat.le_of_ble_eq_true rfl, Nat.le_of_ble_eq_true rfl⟩ rfl dX11_fills_86 (fun y22 M23 hw => ?_)
    obtain ⟨h25, hw⟩ := hw
    refine V_iast X (gA_13_8) (sA_13_8) h25 (by decide) dX11_fills_89 (fun M24 eM24 => ?_)
    have hw := hw M24 eM24
    refine V_iinc (lv1 := [(0, .ref (a 13)), (1, iv p0), (2, iv p1), (3, iv x3), (4, iv x4), (5, iv x5), (6, iv (x6 + 1))]) X [1, 2, 3, 4, 5, 6, 0] dX11_fills_90 (q := 6) rfl (by decide) rfl ?_
    refine V_goto (tgt := 46) X dX11_fills_93 (by decide) ?_
    exact hJ46 _ _ _ _ _ hw
set_option maxHeartbeats 4000000 in
set_option maxRecDepth 100000 in
theorem wkh_X11_fills_37 {p : Program} {l : Launch} {e : Env} {s : State} {m : MethodId} {args : Array Value} {below : List Frame} {meth : Method} {c : Code} {D : va_G} {g : GT} {A : Nat → Prop} {a : Nat → Nat} {b : Nat → Nat → Nat} (X : vC p s m args meth c D g A RX11 wsX11_fills cX11_fills 7) (hr : meth.sig.returnType = (some .int)) {p0 : Int} {p1 : Int} {x3 : Int} {x4 : Int} {x5 : Int} {M : Mem} {J11 : Int → Mem → Prop} {J18 : Int → Int → Mem → Prop} {J37 : Int → Int → Int → Mem → Prop} {J46 : Int → Int → Int → Int → Mem → Prop} {Q : Int → Mem → Prop} (hJ11 : ∀ (x3 : Int) (M : Mem), J11 x3 M → vV p l e ({ frames := 3, cells := 0, slots := 0, locals := 74 } : Room) s m args below meth c D g A a b 7 0 0 (MQ below (cQi D g A a b Q) args s 0 0 A) M [(0, .ref (a 13)), (1, iv p0), (2, iv p1), (3, iv x3)] 11 []) (hJ18 : ∀ (x3 : Int) (x4 : Int) (M : Mem), J18 x3 x4 M → vV p l e ({ frames := 3, cells := 0, slots := 0, locals := 74 } : Room) s m args below meth c D g A a b 7 0 0 (MQ below (cQi D g A a b Q) args s 0 0 A) M [(0, .ref (a 13)), (1, iv p0), (2, iv p1), (3, iv x3), (4, iv x4)] 18 []) (hJ37 : ∀ (x3 : Int) (x4 : Int) (x5 : Int) (M : Mem), J37 x3 x4 x5 M → vV p l e ({ frames := 3, cells := 0, slots := 0, locals := 74 } : Room) s m args below meth c D g A a b 7 0 0 (MQ below (cQi D g A a b Q) args s 0 0 A) M [(0, .ref (a 13)), (1, iv p0), (2, iv p1), (3, iv x3), (4, iv x4), (5, iv x5)] 37 []) (hJ46 : ∀ (x3 : Int) (x4 : Int) (x5 : Int) (x6 : Int) (M : Mem), J46 x3 x4 x5 x6 M → vV p l e ({ frames := 3, cells := 0, slots := 0, locals := 74 } : Room) s m args below meth c D g A a b 7 0 0 (MQ below (cQi D g A a b Q) args s 0 0 A) M [(0, .ref (a 13)), (1, iv p0), (2, iv p1), (3, iv x3), (4, iv x4), (5, iv x5), (6, iv x6)] 46 []) (hw : wph_X11_fills_37 p0 p1 x3 x4 x5 M J11 J18 J37 J46 Q) : vV p l e ({ frames := 3, cells := 0, slots := 0, locals := 74 } : Room) s m args below meth c D g A a b 7 0 0 (MQ below (cQi D g A a b Q) args s 0 0 A) M [(0, .ref (a 13)), (1, iv p0), (2, iv p1), (3, iv x3), (4, iv x4), (5, iv x5)] 37 [] := by
  unfold wph_X11_fills_37 at hw
  refine V_iload X dX11_fills_37 (q := 5) rfl ?_
  obtain ⟨h13, hw⟩ := hw
  refine V_if_lt (tgt := 102) X h13 dX11_fills_39 (by decide) (fun q14 => ?_) (fun q14 => ?_)
  · have hw := hw.1 q14
    refine V_iinc (lv1 := [(0, .ref (a 13)), (1, iv p0), (2, iv p1), (3, iv x3), (4, iv (x4 + 1)), (5, iv x5)]) X [1, 2, 3, 4, 0, 5] dX11_fills_102 (q := 4) rfl (by decide) rfl ?_
    refine V_goto (tgt := 18) X dX11_fills_105 (by decide) ?_
    refine V_sub (lv1 := [(0, .ref (a 13)), (1, iv p0), (2, iv p1), (3, iv x3), (4, iv (x4 + 1))]) [0, 1, 2, 3, 4] rfl ?_
    exact hJ18 _ _ _ hw
  · have hw := hw.2 q14
    refine V_iload X dX11_fills_42 (q := 5) rfl ?_
    refine V_istore (lv1 := [(0, .ref (a 13)), (1, iv p0), (2, iv p1), (3, iv x3), (4, iv x4), (5, iv x5), (6, iv x5)]) X [1, 2, 3, 4, 5, 6, 0] dX11_fills_44 (by decide) rfl ?_
    exact hJ46 _ _ _ _ _ hw
set_option maxHeartbeats 4000000 in
set_option maxRecDepth 100000 in
theorem wkh_X11_fills_18 {p : Program} {l : Launch} {e : Env} {s : State} {m : MethodId} {args : Array Value} {below : List Frame} {meth : Method} {c : Code} {D : va_G} {g : GT} {A : Nat → Prop} {a : Nat → Nat} {b : Nat → Nat → Nat} (X : vC p s m args meth c D g A RX11 wsX11_fills cX11_fills 7) (hr : meth.sig.returnType = (some .int)) {p0 : Int} {p1 : Int} {x3 : Int} {x4 : Int} {M : Mem} {J11 : Int → Mem → Prop} {J18 : Int → Int → Mem → Prop} {J37 : Int → Int → Int → Mem → Prop} {J46 : Int → Int → Int → Int → Mem → Prop} {Q : Int → Mem → Prop} (hJ11 : ∀ (x3 : Int) (M : Mem), J11 x3 M → vV p l e ({ frames := 3, cells := 0, slots := 0, locals := 74 } : Room) s m args below meth c D g A a b 7 0 0 (MQ below (cQi D g A a b Q) args s 0 0 A) M [(0, .ref (a 13)), (1, iv p0), (2, iv p1), (3, iv x3)] 11 []) (hJ18 : ∀ (x3 : Int) (x4 : Int) (M : Mem), J18 x3 x4 M → vV p l e ({ frames := 3, cells := 0, slots := 0, locals := 74 } : Room) s m args below meth c D g A a b 7 0 0 (MQ below (cQi D g A a b Q) args s 0 0 A) M [(0, .ref (a 13)), (1, iv p0), (2, iv p1), (3, iv x3), (4, iv x4)] 18 []) (hJ37 : ∀ (x3 : Int) (x4 : Int) (x5 : Int) (M : Mem), J37 x3 x4 x5 M → vV p l e ({ frames := 3, cells := 0, slots := 0, locals := 74 } : Room) s m args below meth c D g A a b 7 0 0 (MQ below (cQi D g A a b Q) args s 0 0 A) M [(0, .ref (a 13)), (1, iv p0), (2, iv p1), (3, iv x3), (4, iv x4), (5, iv x5)] 37 []) (hJ46 : ∀ (x3 : Int) (x4 : Int) (x5 : Int) (x6 : Int) (M : Mem), J46 x3 x4 x5 x6 M → vV p l e ({ frames := 3, cells := 0, slots := 0, locals := 74 } : Room) s m args below meth c D g A a b 7 0 0 (MQ below (cQi D g A a b Q) args s 0 0 A) M [(0, .ref (a 13)), (1, iv p0), (2, iv p1), (3, iv x3), (4, iv x4), (5, iv x5), (6, iv x6)] 46 []) (hw : wph_X11_fills_18 p0 p1 x3 x4 M J11 J18 J37 J46 Q) : vV p l e ({ frames := 3, cells := 0, slots := 0, locals := 74 } : Room) s m args below meth c D g A a b 7 0 0 (MQ below (cQi D g A a b Q) args s 0 0 A) M [(0, .ref (a 13)), (1, iv p0), (2, iv p1), (3, iv x3), (4, iv x4)] 18 [] := by
  unfold wph_X11_fills_18 at hw
  refine V_iload X dX11_fills_18 (q := 4) rfl ?_
  refine V_aload_n X dX11_fills_20 rfl (q := 0) rfl ?_
  refine V_get (C := RX11) (T := TX11) (N := 24) (ci := 11) X hi_X11_fills_11 gO_13 rfl 5 (by decide) lk_X11_fills_f25 (fun _ h9 => h9) rfl dX11_fills_21 ?_
  refine V_iconst X dX11_fills_24 ?_
  refine V_iald X (gA_13_5) ⟨by decide, by decide⟩ (by decide) dX11_fills_25 ?_
  obtain ⟨h9, h10, hw⟩ := hw
  refine V_icmp_gt (tgt := 108) X h9 h10 dX11_fills_26 (by decide) (fun q11 => ?_) (fun q11 => ?_)
  · have hw := hw.1 q11
    refine V_iinc (lv1 := [(0, .ref (a 13)), (1, iv p0), (2, iv p1), (3, iv (x3 + (-1))), (4, iv x4)]) X [1, 2, 3, 0, 4] dX11_fills_108 (q := 3) rfl (by decide) rfl ?_
    refine V_goto (tgt := 11) X dX11_fills_111 (by decide) ?_
    refine V_sub (lv1 := [(0, .ref (a 13)), (1, iv p0), (2, iv p1), (3, iv (x3 + (-1)))]) [0, 1, 2, 3] rfl ?_
    exact hJ11 _ _ hw
  · have hw := hw.2 q11
    refine V_aload_n X dX11_fills_29 rfl (q := 0) rfl ?_
    refine V_get (C := RX11) (T := TX11) (N := 24) (ci := 11) X hi_X11_fills_11 gO_13 rfl 5 (by decide) lk_X11_fills_f25 (fun _ h9 => h9) rfl dX11_fills_30 ?_
    refine V_iconst X dX11_fills_33 ?_
    refine V_iald X (gA_13_5) ⟨by decide, by decide⟩ (by decide) dX11_fills_34 ?_
    refine V_top (fun y12 ey12 => ?_)
    have hw := hw y12 ey12
    refine V_istore (lv1 := [(0, .ref (a 13)), (1, iv p0), (2, iv p1), (3, iv x3), (4, iv x4), (5, iv y12)]) X [1, 2, 3, 4, 5, 0] dX11_fills_35 (by decide) rfl ?_
    exact hJ37 _ _ _ _ hw
set_option maxHeartbeats 4000000 in
set_option maxRecDepth 100000 in
theorem wkh_X11_fills_11 {p : Program} {l : Launch} {e : Env} {s : State} {m : MethodId} {args : Array Value} {below : List Frame} {meth : Method} {c : Code} {D : va_G} {g : GT} {A : Nat → Prop} {a : Nat → Nat} {b : Nat → Nat → Nat} (X : vC p s m args meth c D g A RX11 wsX11_fills cX11_fills 7) (hr : meth.sig.returnType = (some .int)) {p0 : Int} {p1 : Int} {x3 : Int} {M : Mem} {J11 : Int → Mem → Prop} {J18 : Int → Int → Mem → Prop} {J37 : Int → Int → Int → Mem → Prop} {J46 : Int → Int → Int → Int → Mem → Prop} {Q : Int → Mem → Prop} (hJ11 : ∀ (x3 : Int) (M : Mem), J11 x3 M → vV p l e ({ frames := 3, cells := 0, slots := 0, locals := 74 } : Room) s m args below meth c D g A a b 7 0 0 (MQ below (cQi D g A a b Q) args s 0 0 A) M [(0, .ref (a 13)), (1, iv p0), (2, iv p1), (3, iv x3)] 11 []) (hJ18 : ∀ (x3 : Int) (x4 : Int) (M : Mem), J18 x3 x4 M → vV p l e ({ frames := 3, cells := 0, slots := 0, locals := 74 } : Room) s m args below meth c D g A a b 7 0 0 (MQ below (cQi D g A a b Q) args s 0 0 A) M [(0, .ref (a 13)), (1, iv p0), (2, iv p1), (3, iv x3), (4, iv x4)] 18 []) (hJ37 : ∀ (x3 : Int) (x4 : Int) (x5 : Int) (M : Mem), J37 x3 x4 x5 M → vV p l e ({ frames := 3, cells := 0, slots := 0, locals := 74 } : Room) s m args below meth c D g A a b 7 0 0 (MQ below (cQi D g A a b Q) args s 0 0 A) M [(0, .ref (a 13)), (1, iv p0), (2, iv p1), (3, iv x3), (4, iv x4), (5, iv x5)] 37 []) (hJ46 : ∀ (x3 : Int) (x4 : Int) (x5 : Int) (x6 : Int) (M : Mem), J46 x3 x4 x5 x6 M → vV p l e ({ frames := 3, cells := 0, slots := 0, locals := 74 } : Room) s m args below meth c D g A a b 7 0 0 (MQ below (cQi D g A a b Q) args s 0 0 A) M [(0, .ref (a 13)), (1, iv p0), (2, iv p1), (3, iv x3), (4, iv x4), (5, iv x5), (6, iv x6)] 46 []) (hw : wph_X11_fills_11 p0 p1 x3 M J11 J18 J37 J46 Q) : vV p l e ({ frames := 3, cells := 0, slots := 0, locals := 74 } : Room) s m args below meth c D g A a b 7 0 0 (MQ below (cQi D g A a b Q) args s 0 0 A) M [(0, .ref (a 13)), (1, iv p0), (2, iv p1), (3, iv x3)] 11 [] := by
  unfold wph_X11_fills_11 at hw
  refine V_iload_n X dX11_fills_11 rfl (q := 3) rfl ?_
  obtain ⟨h4, hw⟩ := hw
  refine V_if_lt (tgt := 114) X h4 dX11_fills_12 (by decide) (fun q5 => ?_) (fun q5 => ?_)
  · have hw := hw.1 q5
    refine V_aload_n X dX11_fills_114 rfl (q := 0) rfl ?_
    refine V_get (C := RX11) (T := TX11) (N := 24) (ci := 11) X hi_X11_fills_11 gO_13 rfl 8 (by decide) lk_X11_fills_f35 (fun _ h9 => h9) rfl dX11_fills_115 ?_
    refine V_iconst X dX11_fills_118 ?_
    refine V_aload_n X dX11_fills_119 rfl (q := 0) rfl ?_
    refine V_get (C := RX11) (T := TX11) (N := 24) (ci := 11) X hi_X11_fills_11 gO_13 rfl 5 (by decide) lk_X11_fills_f25 (fun _ h9 => h9) rfl dX11_fills_120 ?_
    refine V_iconst X dX11_fills_123 ?_
    refine V_iald X (gA_13_5) ⟨by decide, by decide⟩ (by decide) dX11_fills_124 ?_
    refine V_iconst X dX11_fills_125 ?_
    refine V_aload_n X dX11_fills_126 rfl (q := 0) rfl ?_
    refine V_get (C := RX11) (T := TX11) (N := 24) (ci := 11) X hi_X11_fills_11 gO_13 rfl 5 (by decide) lk_X11_fills_f25 (fun _ h9 => h9) rfl dX11_fills_127 ?_
    refine V_iconst X dX11_fills_130 ?_
    refine V_iald X (gA_13_5) ⟨by decide, by decide⟩ (by decide) dX11_fills_131 ?_
    refine V_callS_i X _ (As := [iv 0, iv ((M 13 5 0)), iv 0, iv ((M 13 5 1))]) (st := [.ref (b 13 8)]) (c_X11_at l hw) (va_cwS 4 X.2.2.2.1 gX11_fills_X11_at rfl rfl rfl (by decide +kernel) ⟨Nat.le_of_ble_eq_true rfl, Nat.le_of_ble_eq_true rfl⟩) rfl (Nat.le_of_ble_eq_true rfl) ⟨Nat.le_of_ble_eq_true rfl, Nat.le_of_ble_eq_true rfl⟩ rfl dX11_fills_132 (fun y6 M7 hw => ?_)
    obtain ⟨h8, hw⟩ := hw
    refine V_iald X (gA_13_8) h8 (by decide) dX11_fills_135 ?_
    exact V_iret X hr hw dX11_fills_136
  · have hw := hw.2 q5
    refine V_iload_n X dX11_fills_15 rfl (q := 3) rfl ?_
    refine V_istore (lv1 := [(0, .ref (a 13)), (1, iv p0), (2, iv p1), (3, iv x3), (4, iv x3)]) X [1, 2, 3, 4, 0] dX11_fills_16 (by decide) rfl ?_
    exact hJ18 _ _ _ hw
set_option maxHeartbeats 4000000 in
set_option maxRecDepth 100000 in
theorem wke_X11_fills {p : Program} {l : Launch} {e : Env} {s : State} {m : MethodId} {args : Array Value} {below : List Frame} {meth : Method} {c : Code} {D : va_G} {g : GT} {A : Nat → Prop} {a : Nat → Nat} {b : Nat → Nat → Nat} (X : vC p s m args meth c D g A RX11 wsX11_fills cX11_fills 7) (hr : meth.sig.returnType = (some .int)) {p0 : Int} {p1 : Int} {M : Mem} {J11 : Int → Mem → Prop} {J18 : Int → Int → Mem → Prop} {J37 : Int → Int → Int → Mem → Prop} {J46 : Int → Int → Int → Int → Mem → Prop} {Q : Int → Mem → Prop} (hJ11 : ∀ (x3 : Int) (M : Mem), J11 x3 M → vV p l e ({ frames := 3, cells := 0, slots := 0, locals := 74 } : Room) s m args below meth c D g A a b 7 0 0 (MQ below (cQi D g A a b Q) args s 0 0 A) M [(0, .ref (a 13)), (1, iv p0), (2, iv p1), (3, iv x3)] 11 []) (hJ18 : ∀ (x3 : Int) (x4 : Int) (M : Mem), J18 x3 x4 M → vV p l e ({ frames := 3, cells := 0, slots := 0, locals := 74 } : Room) s m args below meth c D g A a b 7 0 0 (MQ below (cQi D g A a b Q) args s 0 0 A) M [(0, .ref (a 13)), (1, iv p0), (2, iv p1), (3, iv x3), (4, iv x4)] 18 []) (hJ37 : ∀ (x3 : Int) (x4 : Int) (x5 : Int) (M : Mem), J37 x3 x4 x5 M → vV p l e ({ frames := 3, cells := 0, slots := 0, locals := 74 } : Room) s m args below meth c D g A a b 7 0 0 (MQ below (cQi D g A a b Q) args s 0 0 A) M [(0, .ref (a 13)), (1, iv p0), (2, iv p1), (3, iv x3), (4, iv x4), (5, iv x5)] 37 []) (hJ46 : ∀ (x3 : Int) (x4 : Int) (x5 : Int) (x6 : Int) (M : Mem), J46 x3 x4 x5 x6 M → vV p l e ({ frames := 3, cells := 0, slots := 0, locals := 74 } : Room) s m args below meth c D g A a b 7 0 0 (MQ below (cQi D g A a b Q) args s 0 0 A) M [(0, .ref (a 13)), (1, iv p0), (2, iv p1), (3, iv x3), (4, iv x4), (5, iv x5), (6, iv x6)] 46 []) (hw : wpe_X11_fills p0 p1 M J11 J18 J37 J46 Q) : vV p l e ({ frames := 3, cells := 0, slots := 0, locals := 74 } : Room) s m args below meth c D g A a b 7 0 0 (MQ below (cQi D g A a b Q) args s 0 0 A) M [(0, .ref (a 13)), (1, iv p0), (2, iv p1)] 0 [] := by
  unfold wpe_X11_fills at hw
  refine V_aload_n X dX11_fills_0 rfl (q := 0) rfl ?_
  refine V_callV_v X _ gO_13 rfl (As := []) (st := []) (c_X11_measures l hw) (cwV 0 X.2.2.2.1 gX11_fills_X11_measures rfl rfl rfl (by decide +kernel) ⟨Nat.le_of_ble_eq_true rfl, Nat.le_of_ble_eq_true rfl⟩) rfl (Nat.le_of_ble_eq_true rfl) ⟨Nat.le_of_ble_eq_true rfl, Nat.le_of_ble_eq_true rfl⟩ rfl dX11_fills_1 (fun M2 hw => ?_)
  refine V_aload_n X dX11_fills_4 rfl (q := 0) rfl ?_
  refine V_get (C := RX11) (T := TX11) (N := 24) (ci := 11) X hi_X11_fills_11 gO_13 rfl 5 (by decide) lk_X11_fills_f25 (fun _ h9 => h9) rfl dX11_fills_5 ?_
  refine V_iconst X dX11_fills_8 ?_
  refine V_iald X (gA_13_5) ⟨by decide, by decide⟩ (by decide) dX11_fills_9 ?_
  refine V_top (fun y3 ey3 => ?_)
  have hw := hw y3 ey3
  refine V_istore_n (lv1 := [(0, .ref (a 13)), (1, iv p0), (2, iv p1), (3, iv y3)]) X [1, 2, 3, 0] dX11_fills_10 rfl (by decide) rfl ?_
  exact hJ11 _ _ hw
set_option maxHeartbeats 4000000 in
set_option maxRecDepth 100000 in
theorem c_X11_fills (l : Launch) {p0 : Int} {p1 : Int} {D : va_G} {g : GT} {A : Nat → Prop} {a : Nat → Nat} {b : Nat → Nat → Nat} {M : Mem} {Q : Int → Mem → Prop} (hw : wp_X11_fills M p0 p1 Q) : Met l yX11_fills wsX11_fills ({ frames := 3, cells := 0, slots := 0, locals := 74 } : Room) (cPc D g A a b M [.ref (a 13), iv p0, iv p1]) (cQi D g A a b Q) 0 0 A := by
  refine Met.ofW (cc := cX11_fills) (maxL := 7) (ret := (some .int)) (by decide) rfl ?_
  intro p e s m args below meth c s₁ B hml hv
  obtain ⟨rfl, hP, hD, hG⟩ := hv
  have X : vC p s m _ meth c D g A RX11 wsX11_fills cX11_fills 7 := ⟨B.exec, B.bytes, findClass_of_methodNamed B.named, atoms_spec (ws := wsX11_fills) B.pre, hG, hml, B.notSynchronized⟩
  have hr := B.returns
  have hl := lv_entry ([.ref (a 13), iv p0, iv p1]) (n := 7) (Nat.le_of_ble_eq_true rfl)
  rw [lg_entry_eq]
  generalize (lg_sl ([.ref (a 13), iv p0, iv p1]) ++ List.replicate (7 - (lg_sl ([.ref (a 13), iv p0, iv p1])).length) Slot.unset).toArray = ls at hl ⊢
  have hl : lv_has ls 7 [(0, .ref (a 13)), (1, iv p0), (2, iv p1)] := hl
  obtain ⟨I11, I18, I37, I46, hw, hI11, hI18, hI37, hI46⟩ := hw
  have K : ∀ n : Nat, (∀ (x3 : Int) (M : Mem), I11 n x3 M → vV p l e ({ frames := 3, cells := 0, slots := 0, locals := 74 } : Room) s m ([.ref (a 13), iv p0, iv p1] : List Value).toArray below meth c D g A a b 7 0 0 (MQ below (cQi D g A a b Q) ([.ref (a 13), iv p0, iv p1] : List Value).toArray s 0 0 A) M [(0, .ref (a 13)), (1, iv p0), (2, iv p1), (3, iv x3)] 11 []) ∧ (∀ (x3 : Int) (x4 : Int) (M : Mem), I18 n x3 x4 M → vV p l e ({ frames := 3, cells := 0, slots := 0, locals := 74 } : Room) s m ([.ref (a 13), iv p0, iv p1] : List Value).toArray below meth c D g A a b 7 0 0 (MQ below (cQi D g A a b Q) ([.ref (a 13), iv p0, iv p1] : List Value).toArray s 0 0 A) M [(0, .ref (a 13)), (1, iv p0), (2, iv p1), (3, iv x3), (4, iv x4)] 18 []) ∧ (∀ (x3 : Int) (x4 : Int) (x5 : Int) (M : Mem), I37 n x3 x4 x5 M → vV p l e ({ frames := 3, cells := 0, slots := 0, locals := 74 } : Room) s m ([.ref (a 13), iv p0, iv p1] : List Value).toArray below meth c D g A a b 7 0 0 (MQ below (cQi D g A a b Q) ([.ref (a 13), iv p0, iv p1] : List Value).toArray s 0 0 A) M [(0, .ref (a 13)), (1, iv p0), (2, iv p1), (3, iv x3), (4, iv x4), (5, iv x5)] 37 []) ∧ (∀ (x3 : Int) (x4 : Int) (x5 : Int) (x6 : Int) (M : Mem), I46 n x3 x4 x5 x6 M → vV p l e ({ frames := 3, cells := 0, slots := 0, locals := 74 } : Room) s m ([.ref (a 13), iv p0, iv p1] : List Value).toArray below meth c D g A a b 7 0 0 (MQ below (cQi D g A a b Q) ([.ref (a 13), iv p0, iv p1] : List Value).toArray s 0 0 A) M [(0, .ref (a 13)), (1, iv p0), (2, iv p1), (3, iv x3), (4, iv x4), (5, iv x5), (6, iv x6)] 46 []) := by
    intro n
    induction n using Nat.strongRecOn with
    | ind n ih =>
      exact ⟨fun x3 M hh => wkh_X11_fills_11 X hr (fun _ _ ⟨n1, hn, hh⟩ => (ih n1 hn).1 _ _ hh) (fun _ _ _ ⟨n1, hn, hh⟩ => (ih n1 hn).2.1 _ _ _ hh) (fun _ _ _ _ ⟨n1, hn, hh⟩ => (ih n1 hn).2.2.1 _ _ _ _ hh) (fun _ _ _ _ _ ⟨n1, hn, hh⟩ => (ih n1 hn).2.2.2 _ _ _ _ _ hh) (hI11 n x3 M hh), fun x3 x4 M hh => wkh_X11_fills_18 X hr (fun _ _ ⟨n1, hn, hh⟩ => (ih n1 hn).1 _ _ hh) (fun _ _ _ ⟨n1, hn, hh⟩ => (ih n1 hn).2.1 _ _ _ hh) (fun _ _ _ _ ⟨n1, hn, hh⟩ => (ih n1 hn).2.2.1 _ _ _ _ hh) (fun _ _ _ _ _ ⟨n1, hn, hh⟩ => (ih n1 hn).2.2.2 _ _ _ _ _ hh) (hI18 n x3 x4 M hh), fun x3 x4 x5 M hh => wkh_X11_fills_37 X hr (fun _ _ ⟨n1, hn, hh⟩ => (ih n1 hn).1 _ _ hh) (fun _ _ _ ⟨n1, hn, hh⟩ => (ih n1 hn).2.1 _ _ _ hh) (fun _ _ _ _ ⟨n1, hn, hh⟩ => (ih n1 hn).2.2.1 _ _ _ _ hh) (fun _ _ _ _ _ ⟨n1, hn, hh⟩ => (ih n1 hn).2.2.2 _ _ _ _ _ hh) (hI37 n x3 x4 x5 M hh), fun x3 x4 x5 x6 M hh => wkh_X11_fills_46 X hr (fun _ _ ⟨n1, hn, hh⟩ => (ih n1 hn).1 _ _ hh) (fun _ _ _ ⟨n1, hn, hh⟩ => (ih n1 hn).2.1 _ _ _ hh) (fun _ _ _ _ ⟨n1, hn, hh⟩ => (ih n1 hn).2.2.1 _ _ _ _ hh) (fun _ _ _ _ _ ⟨n1, hn, hh⟩ => (ih n1 hn).2.2.2 _ _ _ _ _ hh) (hI46 n x3 x4 x5 x6 M hh)⟩
  exact wke_X11_fills X hr  (fun _ _ ⟨n1, hh⟩ => (K n1).1 _ _ hh) (fun _ _ _ ⟨n1, hh⟩ => (K n1).2.1 _ _ _ hh) (fun _ _ _ _ ⟨n1, hh⟩ => (K n1).2.2.1 _ _ _ _ hh) (fun _ _ _ _ _ ⟨n1, hh⟩ => (K n1).2.2.2 _ _ _ _ _ hh) hw s.heap [] ls hP hD va_S.rf hl

set_option maxRecDepth 20000 in
theorem ggX11_distance_X11_fills : GoodIn wsX11_distance wsX11_fills := goodIn_r _ [6, 7, 8, 9, 10, 11, 12, 5, 13, 14, 15, 16, 17, 18, 19, 20, 21, 22, 23, 24, 25, 26, 27, 28, 29, 30, 31, 32, 33, 34, 35, 36, 37, 38, 39, 40, 41, 42, 43, 44, 45, 46, 47, 48, 49, 50, 51, 52, 53, 54, 55, 56, 57, 58, 59, 60, 61, 62, 63, 64] (by decide +kernel) (by decide +kernel)
set_option maxRecDepth 20000 in
theorem gX11_distance_X11_fills : GoodIn wsX11_distance (wsV RX11 140 RX11 yX11_fills wsX11_fills) := goodIn_app (goodIn_of _ (by decide +kernel)) ggX11_distance_X11_fills
theorem dX11_distance_0 : decode cX11_distance 0 = .ok (.aload_n 0, 1) := by decide +kernel
theorem dX11_distance_1 : decode cX11_distance 1 = .ok (.iconst 0, 1) := by decide +kernel
theorem dX11_distance_2 : decode cX11_distance 2 = .ok (.putfield 72, 3) := by decide +kernel
theorem dX11_distance_5 : decode cX11_distance 5 = .ok (.aload_n 0, 1) := by decide +kernel
theorem dX11_distance_6 : decode cX11_distance 6 = .ok (.iconst (-1), 1) := by decide +kernel
theorem dX11_distance_7 : decode cX11_distance 7 = .ok (.iconst (-1), 1) := by decide +kernel
theorem dX11_distance_8 : decode cX11_distance 8 = .ok (.invokevirtual 140, 3) := by decide +kernel
theorem dX11_distance_11 : decode cX11_distance 11 = .ok (.ireturn, 1) := by decide +kernel
theorem lk_X11_distance_f72 : Cond.fieldLink RX11 72 "TreeComparerModel" "thrown" "I" ∈ wsX11_distance := by decide +kernel
theorem hi_X11_distance_11 : ∀ w ∈ u_ws RX11 TX11 24, w ∈ wsX11_distance := by decide +kernel
def wpe_X11_distance (M : Mem) (Q : Int → Mem → Prop) : Prop := (∀ M1 : Mem, M1 = mset M 13 23 0 0 → wp_X11_fills M1 (-1) (-1) (fun y2 M3 => Q y2 M3))
def wp_X11_distance (M : Mem) (Q : Int → Mem → Prop) : Prop := wpe_X11_distance M Q
set_option maxHeartbeats 4000000 in
set_option maxRecDepth 100000 in
theorem wke_X11_distance {p : Program} {l : Launch} {e : Env} {s : State} {m : MethodId} {args : Array Value} {below : List Frame} {meth : Method} {c : Code} {D : va_G} {g : GT} {A : Nat → Prop} {a : Nat → Nat} {b : Nat → Nat → Nat} (X : vC p s m args meth c D g A RX11 wsX11_distance cX11_distance 1) (hr : meth.sig.returnType = (some .int)) {M : Mem} {Q : Int → Mem → Prop} (hw : wpe_X11_distance M Q) : vV p l e ({ frames := 4, cells := 0, slots := 0, locals := 100 } : Room) s m args below meth c D g A a b 1 0 0 (MQ below (cQi D g A a b Q) args s 0 0 A) M [(0, .ref (a 13))] 0 [] := by
  unfold wpe_X11_distance at hw
  refine V_aload_n X dX11_distance_0 rfl (q := 0) rfl ?_
  refine V_iconst X dX11_distance_1 ?_
  refine V_put (C := RX11) (T := TX11) (N := 24) (ci := 11) X hi_X11_distance_11 gO_13 rfl 23 (by decide) tyX11 tyX11_ok nmX11 rfl (tyX11_ok 23 (by decide)) (Or.inl rfl) (show 23 < 24 from by decide) sI_13_23 lk_X11_distance_f72 (fun _ h9 => h9) dX11_distance_2 (fun M1 eM1 => ?_)
  have hw := hw M1 eM1
  refine V_aload_n X dX11_distance_5 rfl (q := 0) rfl ?_
  refine V_iconst X dX11_distance_6 ?_
  refine V_iconst X dX11_distance_7 ?_
  refine V_callV_i X _ gO_13 rfl (As := [iv (-1), iv (-1)]) (st := []) (c_X11_fills l hw) (cwV 2 X.2.2.2.1 gX11_distance_X11_fills rfl rfl rfl (by decide +kernel) ⟨Nat.le_of_ble_eq_true rfl, Nat.le_of_ble_eq_true rfl⟩) rfl (Nat.le_of_ble_eq_true rfl) ⟨Nat.le_of_ble_eq_true rfl, Nat.le_of_ble_eq_true rfl⟩ rfl dX11_distance_8 (fun y2 M3 hw => ?_)
  exact V_iret X hr hw dX11_distance_11
set_option maxHeartbeats 4000000 in
set_option maxRecDepth 100000 in
theorem c_X11_distance (l : Launch) {D : va_G} {g : GT} {A : Nat → Prop} {a : Nat → Nat} {b : Nat → Nat → Nat} {M : Mem} {Q : Int → Mem → Prop} (hw : wp_X11_distance M Q) : Met l yX11_distance wsX11_distance ({ frames := 4, cells := 0, slots := 0, locals := 100 } : Room) (cPc D g A a b M [.ref (a 13)]) (cQi D g A a b Q) 0 0 A := by
  refine Met.ofW (cc := cX11_distance) (maxL := 1) (ret := (some .int)) (by decide) rfl ?_
  intro p e s m args below meth c s₁ B hml hv
  obtain ⟨rfl, hP, hD, hG⟩ := hv
  have X : vC p s m _ meth c D g A RX11 wsX11_distance cX11_distance 1 := ⟨B.exec, B.bytes, findClass_of_methodNamed B.named, atoms_spec (ws := wsX11_distance) B.pre, hG, hml, B.notSynchronized⟩
  have hr := B.returns
  have hl := lv_entry ([.ref (a 13)]) (n := 1) (Nat.le_of_ble_eq_true rfl)
  rw [lg_entry_eq]
  generalize (lg_sl ([.ref (a 13)]) ++ List.replicate (1 - (lg_sl ([.ref (a 13)])).length) Slot.unset).toArray = ls at hl ⊢
  have hl : lv_has ls 1 [(0, .ref (a 13))] := hl
  exact wke_X11_distance X hr  hw s.heap [] ls hP hD va_S.rf hl

set_option maxRecDepth 20000 in
theorem ggX11_distanceByForests_X11_distance : GoodIn wsX11_distanceByForests wsX11_distance := goodIn_r _ [5, 6, 7, 8, 9, 4, 10, 11, 12, 13, 14, 15, 16, 17, 18, 19, 20, 21, 22, 23, 24, 25, 26, 27, 28, 29, 30, 31, 32, 33, 34, 35, 36, 37, 38, 39, 40, 41, 42, 43, 44, 45, 46, 47, 48, 49, 50, 51, 52, 53, 54, 55, 56, 57, 58, 59, 60, 61, 62, 63, 64, 65, 66, 67, 68] (by decide +kernel) (by decide +kernel)
set_option maxRecDepth 20000 in
theorem gX11_distanceByForests_X11_distance : GoodIn wsX11_distanceByForests (wsV RX11 143 RX11 yX11_distance wsX11_distance) := goodIn_app (goodIn_of _ (by decide +kernel)) ggX11_distanceByForests_X11_distance
theorem dX11_distanceByForests_0 : decode cX11_distanceByForests 0 = .ok (.aload_n 0, 1) := by decide +kernel
theorem dX11_distanceByForests_1 : decode cX11_distanceByForests 1 = .ok (.invokevirtual 143, 3) := by decide +kernel
theorem dX11_distanceByForests_4 : decode cX11_distanceByForests 4 = .ok (.ireturn, 1) := by decide +kernel
def wpe_X11_distanceByForests (M : Mem) (Q : Int → Mem → Prop) : Prop := wp_X11_distance M (fun y1 M2 => Q y1 M2)
def wp_X11_distanceByForests (M : Mem) (Q : Int → Mem → Prop) : Prop := wpe_X11_distanceByForests M Q
set_option maxHeartbeats 4000000 in
set_option maxRecDepth 100000 in
theorem wke_X11_distanceByForests {p : Program} {l : Launch} {e : Env} {s : State} {m : MethodId} {args : Array Value} {below : List Frame} {meth : Method} {c : Code} {D : va_G} {g : GT} {A : Nat → Prop} {a : Nat → Nat} {b : Nat → Nat → Nat} (X : vC p s m args meth c D g A RX11 wsX11_distanceByForests cX11_distanceByForests 1) (hr : meth.sig.returnType = (some .int)) {M : Mem} {Q : Int → Mem → Prop} (hw : wpe_X11_distanceByForests M Q) : vV p l e ({ frames := 5, cells := 0, slots := 0, locals := 120 } : Room) s m args below meth c D g A a b 1 0 0 (MQ below (cQi D g A a b Q) args s 0 0 A) M [(0, .ref (a 13))] 0 [] := by
  unfold wpe_X11_distanceByForests at hw
  refine V_aload_n X dX11_distanceByForests_0 rfl (q := 0) rfl ?_
  refine V_callV_i X _ gO_13 rfl (As := []) (st := []) (c_X11_distance l hw) (cwV 0 X.2.2.2.1 gX11_distanceByForests_X11_distance rfl rfl rfl (by decide +kernel) ⟨Nat.le_of_ble_eq_true rfl, Nat.le_of_ble_eq_true rfl⟩) rfl (Nat.le_of_ble_eq_true rfl) ⟨Nat.le_of_ble_eq_true rfl, Nat.le_of_ble_eq_true rfl⟩ rfl dX11_distanceByForests_1 (fun y1 M2 hw => ?_)
  exact V_iret X hr hw dX11_distanceByForests_4
set_option maxHeartbeats 4000000 in
set_option maxRecDepth 100000 in
theorem c_X11_distanceByForests (l : Launch) {D : va_G} {g : GT} {A : Nat → Prop} {a : Nat → Nat} {b : Nat → Nat → Nat} {M : Mem} {Q : Int → Mem → Prop} (hw : wp_X11_distanceByForests M Q) : Met l yX11_distanceByForests wsX11_distanceByForests ({ frames := 5, cells := 0, slots := 0, locals := 120 } : Room) (cPc D g A a b M [.ref (a 13)]) (cQi D g A a b Q) 0 0 A := by
  refine Met.ofW (cc := cX11_distanceByForests) (maxL := 1) (ret := (some .int)) (by decide) rfl ?_
  intro p e s m args below meth c s₁ B hml hv
  obtain ⟨rfl, hP, hD, hG⟩ := hv
  have X : vC p s m _ meth c D g A RX11 wsX11_distanceByForests cX11_distanceByForests 1 := ⟨B.exec, B.bytes, findClass_of_methodNamed B.named, atoms_spec (ws := wsX11_distanceByForests) B.pre, hG, hml, B.notSynchronized⟩
  have hr := B.returns
  have hl := lv_entry ([.ref (a 13)]) (n := 1) (Nat.le_of_ble_eq_true rfl)
  rw [lg_entry_eq]
  generalize (lg_sl ([.ref (a 13)]) ++ List.replicate (1 - (lg_sl ([.ref (a 13)])).length) Slot.unset).toArray = ls at hl ⊢
  have hl : lv_has ls 1 [(0, .ref (a 13))] := hl
  exact wke_X11_distanceByForests X hr  hw s.heap [] ls hP hD va_S.rf hl

theorem dX1_pairingPrice_0 : decode cX1_pairingPrice 0 = .ok (.aload_n 0, 1) := by decide +kernel
theorem dX1_pairingPrice_1 : decode cX1_pairingPrice 1 = .ok (.getfield 34, 3) := by decide +kernel
theorem dX1_pairingPrice_4 : decode cX1_pairingPrice 4 = .ok (.getfield 41, 3) := by decide +kernel
theorem dX1_pairingPrice_7 : decode cX1_pairingPrice 7 = .ok (.iload_n 1, 1) := by decide +kernel
theorem dX1_pairingPrice_8 : decode cX1_pairingPrice 8 = .ok (.iaload, 1) := by decide +kernel
theorem dX1_pairingPrice_9 : decode cX1_pairingPrice 9 = .ok (.aload_n 0, 1) := by decide +kernel
theorem dX1_pairingPrice_10 : decode cX1_pairingPrice 10 = .ok (.getfield 38, 3) := by decide +kernel
theorem dX1_pairingPrice_13 : decode cX1_pairingPrice 13 = .ok (.getfield 41, 3) := by decide +kernel
theorem dX1_pairingPrice_16 : decode cX1_pairingPrice 16 = .ok (.iload_n 2, 1) := by decide +kernel
theorem dX1_pairingPrice_17 : decode cX1_pairingPrice 17 = .ok (.iaload, 1) := by decide +kernel
theorem dX1_pairingPrice_18 : decode cX1_pairingPrice 18 = .ok (.if_icmp .eq 6, 3) := by decide +kernel
theorem dX1_pairingPrice_21 : decode cX1_pairingPrice 21 = .ok (.ldc 44, 2) := by decide +kernel
theorem dX1_pairingPrice_23 : decode cX1_pairingPrice 23 = .ok (.ireturn, 1) := by decide +kernel
theorem dX1_pairingPrice_24 : decode cX1_pairingPrice 24 = .ok (.aload_n 0, 1) := by decide +kernel
theorem dX1_pairingPrice_25 : decode cX1_pairingPrice 25 = .ok (.getfield 34, 3) := by decide +kernel
theorem dX1_pairingPrice_28 : decode cX1_pairingPrice 28 = .ok (.getfield 45, 3) := by decide +kernel
theorem dX1_pairingPrice_31 : decode cX1_pairingPrice 31 = .ok (.iload_n 1, 1) := by decide +kernel
theorem dX1_pairingPrice_32 : decode cX1_pairingPrice 32 = .ok (.iaload, 1) := by decide +kernel
theorem dX1_pairingPrice_33 : decode cX1_pairingPrice 33 = .ok (.aload_n 0, 1) := by decide +kernel
theorem dX1_pairingPrice_34 : decode cX1_pairingPrice 34 = .ok (.getfield 38, 3) := by decide +kernel
theorem dX1_pairingPrice_37 : decode cX1_pairingPrice 37 = .ok (.getfield 45, 3) := by decide +kernel
theorem dX1_pairingPrice_40 : decode cX1_pairingPrice 40 = .ok (.iload_n 2, 1) := by decide +kernel
theorem dX1_pairingPrice_41 : decode cX1_pairingPrice 41 = .ok (.iaload, 1) := by decide +kernel
theorem dX1_pairingPrice_42 : decode cX1_pairingPrice 42 = .ok (.if_icmp .ne 7, 3) := by decide +kernel
theorem dX1_pairingPrice_45 : decode cX1_pairingPrice 45 = .ok (.iconst 0, 1) := by decide +kernel
theorem dX1_pairingPrice_46 : decode cX1_pairingPrice 46 = .ok (.goto 17, 3) := by decide +kernel
theorem dX1_pairingPrice_49 : decode cX1_pairingPrice 49 = .ok (.aload_n 0, 1) := by decide +kernel
theorem dX1_pairingPrice_50 : decode cX1_pairingPrice 50 = .ok (.getfield 18, 3) := by decide +kernel
theorem dX1_pairingPrice_53 : decode cX1_pairingPrice 53 = .ok (.aload_n 0, 1) := by decide +kernel
theorem dX1_pairingPrice_54 : decode cX1_pairingPrice 54 = .ok (.getfield 34, 3) := by decide +kernel
theorem dX1_pairingPrice_57 : decode cX1_pairingPrice 57 = .ok (.getfield 41, 3) := by decide +kernel
theorem dX1_pairingPrice_60 : decode cX1_pairingPrice 60 = .ok (.iload_n 1, 1) := by decide +kernel
theorem dX1_pairingPrice_61 : decode cX1_pairingPrice 61 = .ok (.iaload, 1) := by decide +kernel
theorem dX1_pairingPrice_62 : decode cX1_pairingPrice 62 = .ok (.iaload, 1) := by decide +kernel
theorem dX1_pairingPrice_63 : decode cX1_pairingPrice 63 = .ok (.ireturn, 1) := by decide +kernel
theorem lk_X1_pairingPrice_f34 : Cond.fieldLink RX1 34 "TreeComparer$Given" "old" "LTreeComparer$Tree;" ∈ wsX1_pairingPrice := by decide +kernel
theorem hi_X1_pairingPrice_1 : ∀ w ∈ u_ws RX1 TX1 6, w ∈ wsX1_pairingPrice := by decide +kernel
theorem hi_X1_pairingPrice_9 : ∀ w ∈ u_ws RX9 TX9 9, w ∈ wsX1_pairingPrice := by decide +kernel
theorem lk_X1_pairingPrice_f38 : Cond.fieldLink RX1 38 "TreeComparer$Given" "current" "LTreeComparer$Tree;" ∈ wsX1_pairingPrice := by decide +kernel
theorem lk_X1_pairingPrice_f18 : Cond.fieldLink RX1 18 "TreeComparer$Given" "relabelling" "[I" ∈ wsX1_pairingPrice := by decide +kernel
theorem lk_X1_pairingPrice_c44 : Cond.constant RX1 44 (1000000) ∈ wsX1_pairingPrice := by decide +kernel
def wpe_X1_pairingPrice (p0 : Int) (p1 : Int) (M : Mem) (Q : Int → Mem → Prop) : Prop := ((0 : Int) ≤ p0 ∧ p0 < 12) ∧ ((0 : Int) ≤ p1 ∧ p1 < 12) ∧ inR (M 11 0 p0.toNat) ∧ inR (M 12 0 p1.toNat) ∧ (((M 11 0 p0.toNat) = (M 12 0 p1.toNat) → ((0 : Int) ≤ p0 ∧ p0 < 12) ∧ ((0 : Int) ≤ p1 ∧ p1 < 12) ∧ inR (M 11 1 p0.toNat) ∧ inR (M 12 1 p1.toNat) ∧ (((M 11 1 p0.toNat) ≠ (M 12 1 p1.toNat) → ((0 : Int) ≤ p0 ∧ p0 < 12) ∧ ((0 : Int) ≤ (M 11 0 p0.toNat) ∧ (M 11 0 p0.toNat) < 4) ∧ Q ((M 1 2 ((M 11 0 p0.toNat)).toNat)) M) ∧ (¬ ((M 11 1 p0.toNat) ≠ (M 12 1 p1.toNat)) → Q 0 M))) ∧ (¬ ((M 11 0 p0.toNat) = (M 12 0 p1.toNat)) → Q 1000000 M))
def wp_X1_pairingPrice (M : Mem) (p0 : Int) (p1 : Int) (Q : Int → Mem → Prop) : Prop := wpe_X1_pairingPrice p0 p1 M Q
set_option maxHeartbeats 4000000 in
set_option maxRecDepth 100000 in
theorem wke_X1_pairingPrice {p : Program} {l : Launch} {e : Env} {s : State} {m : MethodId} {args : Array Value} {below : List Frame} {meth : Method} {c : Code} {D : va_G} {g : GT} {A : Nat → Prop} {a : Nat → Nat} {b : Nat → Nat → Nat} (X : vC p s m args meth c D g A RX1 wsX1_pairingPrice cX1_pairingPrice 3) (hr : meth.sig.returnType = (some .int)) {p0 : Int} {p1 : Int} {M : Mem} {Q : Int → Mem → Prop} (hw : wpe_X1_pairingPrice p0 p1 M Q) : vV p l e ({ frames := 0, cells := 0, slots := 0, locals := 0 } : Room) s m args below meth c D g A a b 3 0 0 (MQ below (cQi D g A a b Q) args s 0 0 A) M [(0, .ref (a 1)), (1, iv p0), (2, iv p1)] 0 [] := by
  unfold wpe_X1_pairingPrice at hw
  refine V_aload_n X dX1_pairingPrice_0 rfl (q := 0) rfl ?_
  refine V_get (C := RX1) (T := TX1) (N := 6) (ci := 1) X hi_X1_pairingPrice_1 gO_1 rfl 4 (by decide) lk_X1_pairingPrice_f34 (fun _ h9 => h9) rfl dX1_pairingPrice_1 ?_
  refine V_getN (C := RX9) (T := TX9) (N := 9) (ci := 9) X hi_X1_pairingPrice_9 gO_11 rfl 0 (by decide) (List.mem_of_getElem? (i := 0) rfl) (fun _ h9 => h9) rfl dX1_pairingPrice_4 ?_
  refine V_iload_n X dX1_pairingPrice_7 rfl (q := 1) rfl ?_
  obtain ⟨h1, hw⟩ := hw
  refine V_iald X (gA_11_0) h1 (by decide) dX1_pairingPrice_8 ?_
  refine V_aload_n X dX1_pairingPrice_9 rfl (q := 0) rfl ?_
  refine V_get (C := RX1) (T := TX1) (N := 6) (ci := 1) X hi_X1_pairingPrice_1 gO_1 rfl 5 (by decide) lk_X1_pairingPrice_f38 (fun _ h9 => h9) rfl dX1_pairingPrice_10 ?_
  refine V_getN (C := RX9) (T := TX9) (N := 9) (ci := 9) X hi_X1_pairingPrice_9 gO_12 rfl 0 (by decide) (List.mem_of_getElem? (i := 0) rfl) (fun _ h9 => h9) rfl dX1_pairingPrice_13 ?_
  refine V_iload_n X dX1_pairingPrice_16 rfl (q := 2) rfl ?_
  obtain ⟨h2, hw⟩ := hw
  refine V_iald X (gA_12_0) h2 (by decide) dX1_pairingPrice_17 ?_
  obtain ⟨h3, h4, hw⟩ := hw
  refine V_icmp_eq (tgt := 24) X h3 h4 dX1_pairingPrice_18 (by decide) (fun q5 => ?_) (fun q5 => ?_)
  · have hw := hw.1 q5
    refine V_aload_n X dX1_pairingPrice_24 rfl (q := 0) rfl ?_
    refine V_get (C := RX1) (T := TX1) (N := 6) (ci := 1) X hi_X1_pairingPrice_1 gO_1 rfl 4 (by decide) lk_X1_pairingPrice_f34 (fun _ h9 => h9) rfl dX1_pairingPrice_25 ?_
    refine V_getN (C := RX9) (T := TX9) (N := 9) (ci := 9) X hi_X1_pairingPrice_9 gO_11 rfl 1 (by decide) (List.mem_of_getElem? (i := 4) rfl) (fun _ h9 => h9) rfl dX1_pairingPrice_28 ?_
    refine V_iload_n X dX1_pairingPrice_31 rfl (q := 1) rfl ?_
    obtain ⟨h6, hw⟩ := hw
    refine V_iald X (gA_11_1) h6 (by decide) dX1_pairingPrice_32 ?_
    refine V_aload_n X dX1_pairingPrice_33 rfl (q := 0) rfl ?_
    refine V_get (C := RX1) (T := TX1) (N := 6) (ci := 1) X hi_X1_pairingPrice_1 gO_1 rfl 5 (by decide) lk_X1_pairingPrice_f38 (fun _ h9 => h9) rfl dX1_pairingPrice_34 ?_
    refine V_getN (C := RX9) (T := TX9) (N := 9) (ci := 9) X hi_X1_pairingPrice_9 gO_12 rfl 1 (by decide) (List.mem_of_getElem? (i := 4) rfl) (fun _ h9 => h9) rfl dX1_pairingPrice_37 ?_
    refine V_iload_n X dX1_pairingPrice_40 rfl (q := 2) rfl ?_
    obtain ⟨h7, hw⟩ := hw
    refine V_iald X (gA_12_1) h7 (by decide) dX1_pairingPrice_41 ?_
    obtain ⟨h8, h9, hw⟩ := hw
    refine V_icmp_ne (tgt := 49) X h8 h9 dX1_pairingPrice_42 (by decide) (fun q10 => ?_) (fun q10 => ?_)
    · have hw := hw.1 q10
      refine V_aload_n X dX1_pairingPrice_49 rfl (q := 0) rfl ?_
      refine V_get (C := RX1) (T := TX1) (N := 6) (ci := 1) X hi_X1_pairingPrice_1 gO_1 rfl 2 (by decide) lk_X1_pairingPrice_f18 (fun _ h9 => h9) rfl dX1_pairingPrice_50 ?_
      refine V_aload_n X dX1_pairingPrice_53 rfl (q := 0) rfl ?_
      refine V_get (C := RX1) (T := TX1) (N := 6) (ci := 1) X hi_X1_pairingPrice_1 gO_1 rfl 4 (by decide) lk_X1_pairingPrice_f34 (fun _ h9 => h9) rfl dX1_pairingPrice_54 ?_
      refine V_getN (C := RX9) (T := TX9) (N := 9) (ci := 9) X hi_X1_pairingPrice_9 gO_11 rfl 0 (by decide) (List.mem_of_getElem? (i := 0) rfl) (fun _ h9 => h9) rfl dX1_pairingPrice_57 ?_
      refine V_iload_n X dX1_pairingPrice_60 rfl (q := 1) rfl ?_
      obtain ⟨h11, hw⟩ := hw
      refine V_iald X (gA_11_0) h11 (by decide) dX1_pairingPrice_61 ?_
      obtain ⟨h12, hw⟩ := hw
      refine V_iald X (gA_1_2) h12 (by decide) dX1_pairingPrice_62 ?_
      exact V_iret X hr hw dX1_pairingPrice_63
    · have hw := hw.2 q10
      refine V_iconst X dX1_pairingPrice_45 ?_
      refine V_goto (tgt := 63) X dX1_pairingPrice_46 (by decide) ?_
      exact V_iret X hr hw dX1_pairingPrice_63
  · have hw := hw.2 q5
    refine V_ldc (x := 1000000) X lk_X1_pairingPrice_c44 (by decide) dX1_pairingPrice_21 ?_
    exact V_iret X hr hw dX1_pairingPrice_23
set_option maxHeartbeats 4000000 in
set_option maxRecDepth 100000 in
theorem c_X1_pairingPrice (l : Launch) {p0 : Int} {p1 : Int} {D : va_G} {g : GT} {A : Nat → Prop} {a : Nat → Nat} {b : Nat → Nat → Nat} {M : Mem} {Q : Int → Mem → Prop} (hw : wp_X1_pairingPrice M p0 p1 Q) : Met l yX1_pairingPrice wsX1_pairingPrice ({ frames := 0, cells := 0, slots := 0, locals := 0 } : Room) (cPc D g A a b M [.ref (a 1), iv p0, iv p1]) (cQi D g A a b Q) 0 0 A := by
  refine Met.ofW (cc := cX1_pairingPrice) (maxL := 3) (ret := (some .int)) (by decide) rfl ?_
  intro p e s m args below meth c s₁ B hml hv
  obtain ⟨rfl, hP, hD, hG⟩ := hv
  have X : vC p s m _ meth c D g A RX1 wsX1_pairingPrice cX1_pairingPrice 3 := ⟨B.exec, B.bytes, findClass_of_methodNamed B.named, atoms_spec (ws := wsX1_pairingPrice) B.pre, hG, hml, B.notSynchronized⟩
  have hr := B.returns
  have hl := lv_entry ([.ref (a 1), iv p0, iv p1]) (n := 3) (Nat.le_of_ble_eq_true rfl)
  rw [lg_entry_eq]
  generalize (lg_sl ([.ref (a 1), iv p0, iv p1]) ++ List.replicate (3 - (lg_sl ([.ref (a 1), iv p0, iv p1])).length) Slot.unset).toArray = ls at hl ⊢
  have hl : lv_has ls 3 [(0, .ref (a 1)), (1, iv p0), (2, iv p1)] := hl
  exact wke_X1_pairingPrice X hr  hw s.heap [] ls hP hD va_S.rf hl

theorem dX9_isKey_0 : decode cX9_isKey 0 = .ok (.aload_n 0, 1) := by decide +kernel
theorem dX9_isKey_1 : decode cX9_isKey 1 = .ok (.getfield 18, 3) := by decide +kernel
theorem dX9_isKey_4 : decode cX9_isKey 4 = .ok (.iload_n 1, 1) := by decide +kernel
theorem dX9_isKey_5 : decode cX9_isKey 5 = .ok (.iaload, 1) := by decide +kernel
theorem dX9_isKey_6 : decode cX9_isKey 6 = .ok (.iconst (-1), 1) := by decide +kernel
theorem dX9_isKey_7 : decode cX9_isKey 7 = .ok (.if_icmp .eq 25, 3) := by decide +kernel
theorem dX9_isKey_10 : decode cX9_isKey 10 = .ok (.aload_n 0, 1) := by decide +kernel
theorem dX9_isKey_11 : decode cX9_isKey 11 = .ok (.getfield 27, 3) := by decide +kernel
theorem dX9_isKey_14 : decode cX9_isKey 14 = .ok (.iload_n 1, 1) := by decide +kernel
theorem dX9_isKey_15 : decode cX9_isKey 15 = .ok (.iaload, 1) := by decide +kernel
theorem dX9_isKey_16 : decode cX9_isKey 16 = .ok (.aload_n 0, 1) := by decide +kernel
theorem dX9_isKey_17 : decode cX9_isKey 17 = .ok (.getfield 27, 3) := by decide +kernel
theorem dX9_isKey_20 : decode cX9_isKey 20 = .ok (.aload_n 0, 1) := by decide +kernel
theorem dX9_isKey_21 : decode cX9_isKey 21 = .ok (.getfield 18, 3) := by decide +kernel
theorem dX9_isKey_24 : decode cX9_isKey 24 = .ok (.iload_n 1, 1) := by decide +kernel
theorem dX9_isKey_25 : decode cX9_isKey 25 = .ok (.iaload, 1) := by decide +kernel
theorem dX9_isKey_26 : decode cX9_isKey 26 = .ok (.iaload, 1) := by decide +kernel
theorem dX9_isKey_27 : decode cX9_isKey 27 = .ok (.iconst 1, 1) := by decide +kernel
theorem dX9_isKey_28 : decode cX9_isKey 28 = .ok (.iadd, 1) := by decide +kernel
theorem dX9_isKey_29 : decode cX9_isKey 29 = .ok (.if_icmp .eq 7, 3) := by decide +kernel
theorem dX9_isKey_32 : decode cX9_isKey 32 = .ok (.iconst 1, 1) := by decide +kernel
theorem dX9_isKey_33 : decode cX9_isKey 33 = .ok (.goto 4, 3) := by decide +kernel
theorem dX9_isKey_36 : decode cX9_isKey 36 = .ok (.iconst 0, 1) := by decide +kernel
theorem dX9_isKey_37 : decode cX9_isKey 37 = .ok (.ireturn, 1) := by decide +kernel
theorem lk_X9_isKey_f18 : Cond.fieldLink RX9 18 "TreeComparer$Tree" "parent" "[I" ∈ wsX9_isKey := by decide +kernel
theorem hi_X9_isKey_9 : ∀ w ∈ u_ws RX9 TX9 9, w ∈ wsX9_isKey := by decide +kernel
theorem lk_X9_isKey_f27 : Cond.fieldLink RX9 27 "TreeComparer$Tree" "prePlace" "[I" ∈ wsX9_isKey := by decide +kernel
def wpj_X9_isKey_32 (o : Nat) (p0 : Int) (M : Mem) (Q : Int → Mem → Prop) : Prop := Q 1 M
def wpe_X9_isKey (o : Nat) (p0 : Int) (M : Mem) (Q : Int → Mem → Prop) : Prop := ((0 : Int) ≤ p0 ∧ p0 < 12) ∧ inR (M o 2 p0.toNat) ∧ (((M o 2 p0.toNat) = (-1) → wpj_X9_isKey_32 o p0 M Q) ∧ (¬ ((M o 2 p0.toNat) = (-1)) → ((0 : Int) ≤ p0 ∧ p0 < 12) ∧ ((0 : Int) ≤ p0 ∧ p0 < 12) ∧ ((0 : Int) ≤ (M o 2 p0.toNat) ∧ (M o 2 p0.toNat) < 12) ∧ inR (M o 5 p0.toNat) ∧ inR ((M o 5 ((M o 2 p0.toNat)).toNat) + 1) ∧ (((M o 5 p0.toNat) = (M o 5 ((M o 2 p0.toNat)).toNat) + 1 → Q 0 M) ∧ (¬ ((M o 5 p0.toNat) = (M o 5 ((M o 2 p0.toNat)).toNat) + 1) → wpj_X9_isKey_32 o p0 M Q))))
def wp_X9_isKey (M : Mem) (o : Nat) (p0 : Int) (Q : Int → Mem → Prop) : Prop := wpe_X9_isKey o p0 M Q
set_option maxHeartbeats 4000000 in
set_option maxRecDepth 100000 in
theorem wkj_X9_isKey_32 {p : Program} {l : Launch} {e : Env} {s : State} {m : MethodId} {args : Array Value} {below : List Frame} {meth : Method} {c : Code} {D : va_G} {g : GT} {A : Nat → Prop} {a : Nat → Nat} {b : Nat → Nat → Nat} (X : vC p s m args meth c D g A RX9 wsX9_isKey cX9_isKey 2) (hr : meth.sig.returnType = (some .boolean)) {o : Nat} {p0 : Int} (ho : isT o) {M : Mem} {Q : Int → Mem → Prop} (hw : wpj_X9_isKey_32 o p0 M Q) : vV p l e ({ frames := 0, cells := 0, slots := 0, locals := 0 } : Room) s m args below meth c D g A a b 2 0 0 (MQ below (cQi D g A a b Q) args s 0 0 A) M [] 32 [] := by
  unfold wpj_X9_isKey_32 at hw
  refine V_iconst X dX9_isKey_32 ?_
  refine V_goto (tgt := 37) X dX9_isKey_33 (by decide) ?_
  exact V_zret X hr (by decide) hw dX9_isKey_37
set_option maxHeartbeats 4000000 in
set_option maxRecDepth 100000 in
theorem wke_X9_isKey {p : Program} {l : Launch} {e : Env} {s : State} {m : MethodId} {args : Array Value} {below : List Frame} {meth : Method} {c : Code} {D : va_G} {g : GT} {A : Nat → Prop} {a : Nat → Nat} {b : Nat → Nat → Nat} (X : vC p s m args meth c D g A RX9 wsX9_isKey cX9_isKey 2) (hr : meth.sig.returnType = (some .boolean)) {o : Nat} {p0 : Int} (ho : isT o) {M : Mem} {Q : Int → Mem → Prop} (hw : wpe_X9_isKey o p0 M Q) : vV p l e ({ frames := 0, cells := 0, slots := 0, locals := 0 } : Room) s m args below meth c D g A a b 2 0 0 (MQ below (cQi D g A a b Q) args s 0 0 A) M [(0, .ref (a o)), (1, iv p0)] 0 [] := by
  unfold wpe_X9_isKey at hw
  refine V_aload_n X dX9_isKey_0 rfl (q := 0) rfl ?_
  refine V_get (C := RX9) (T := TX9) (N := 9) (ci := 9) X hi_X9_isKey_9 (gTO ho) rfl 2 (by decide) lk_X9_isKey_f18 (fun _ h9 => h9) rfl dX9_isKey_1 ?_
  refine V_iload_n X dX9_isKey_4 rfl (q := 1) rfl ?_
  obtain ⟨h1, hw⟩ := hw
  refine V_iald X ((gT_2 ho)) h1 (by decide) dX9_isKey_5 ?_
  refine V_iconst X dX9_isKey_6 ?_
  obtain ⟨h2, hw⟩ := hw
  refine V_icmp_eq (tgt := 32) X h2 ⟨by decide, by decide⟩ dX9_isKey_7 (by decide) (fun q3 => ?_) (fun q3 => ?_)
  · have hw := hw.1 q3
    refine V_sub (lv1 := []) [] rfl ?_
    exact wkj_X9_isKey_32 X hr ho hw
  · have hw := hw.2 q3
    refine V_aload_n X dX9_isKey_10 rfl (q := 0) rfl ?_
    refine V_get (C := RX9) (T := TX9) (N := 9) (ci := 9) X hi_X9_isKey_9 (gTO ho) rfl 5 (by decide) lk_X9_isKey_f27 (fun _ h9 => h9) rfl dX9_isKey_11 ?_
    refine V_iload_n X dX9_isKey_14 rfl (q := 1) rfl ?_
    obtain ⟨h4, hw⟩ := hw
    refine V_iald X ((gT_5 ho)) h4 (by decide) dX9_isKey_15 ?_
    refine V_aload_n X dX9_isKey_16 rfl (q := 0) rfl ?_
    refine V_get (C := RX9) (T := TX9) (N := 9) (ci := 9) X hi_X9_isKey_9 (gTO ho) rfl 5 (by decide) lk_X9_isKey_f27 (fun _ h9 => h9) rfl dX9_isKey_17 ?_
    refine V_aload_n X dX9_isKey_20 rfl (q := 0) rfl ?_
    refine V_get (C := RX9) (T := TX9) (N := 9) (ci := 9) X hi_X9_isKey_9 (gTO ho) rfl 2 (by decide) lk_X9_isKey_f18 (fun _ h9 => h9) rfl dX9_isKey_21 ?_
    refine V_iload_n X dX9_isKey_24 rfl (q := 1) rfl ?_
    obtain ⟨h5, hw⟩ := hw
    refine V_iald X ((gT_2 ho)) h5 (by decide) dX9_isKey_25 ?_
    obtain ⟨h6, hw⟩ := hw
    refine V_iald X ((gT_5 ho)) h6 (by decide) dX9_isKey_26 ?_
    refine V_iconst X dX9_isKey_27 ?_
    refine V_iadd X dX9_isKey_28 ?_
    obtain ⟨h7, h8, hw⟩ := hw
    refine V_icmp_eq (tgt := 36) X h7 h8 dX9_isKey_29 (by decide) (fun q9 => ?_) (fun q9 => ?_)
    · have hw := hw.1 q9
      refine V_iconst X dX9_isKey_36 ?_
      exact V_zret X hr (by decide) hw dX9_isKey_37
    · have hw := hw.2 q9
      refine V_sub (lv1 := []) [] rfl ?_
      exact wkj_X9_isKey_32 X hr ho hw
set_option maxHeartbeats 4000000 in
set_option maxRecDepth 100000 in
theorem c_X9_isKey (l : Launch) {o : Nat} {p0 : Int} (ho : isT o) {D : va_G} {g : GT} {A : Nat → Prop} {a : Nat → Nat} {b : Nat → Nat → Nat} {M : Mem} {Q : Int → Mem → Prop} (hw : wp_X9_isKey M o p0 Q) : Met l yX9_isKey wsX9_isKey ({ frames := 0, cells := 0, slots := 0, locals := 0 } : Room) (cPc D g A a b M [.ref (a o), iv p0]) (cQi D g A a b Q) 0 0 A := by
  refine Met.ofW (cc := cX9_isKey) (maxL := 2) (ret := (some .boolean)) (by decide) rfl ?_
  intro p e s m args below meth c s₁ B hml hv
  obtain ⟨rfl, hP, hD, hG⟩ := hv
  have X : vC p s m _ meth c D g A RX9 wsX9_isKey cX9_isKey 2 := ⟨B.exec, B.bytes, findClass_of_methodNamed B.named, atoms_spec (ws := wsX9_isKey) B.pre, hG, hml, B.notSynchronized⟩
  have hr := B.returns
  have hl := lv_entry ([.ref (a o), iv p0]) (n := 2) (Nat.le_of_ble_eq_true rfl)
  rw [lg_entry_eq]
  generalize (lg_sl ([.ref (a o), iv p0]) ++ List.replicate (2 - (lg_sl ([.ref (a o), iv p0])).length) Slot.unset).toArray = ls at hl ⊢
  have hl : lv_has ls 2 [(0, .ref (a o)), (1, iv p0)] := hl
  exact wke_X9_isKey X hr ho hw s.heap [] ls hP hD va_S.rf hl
