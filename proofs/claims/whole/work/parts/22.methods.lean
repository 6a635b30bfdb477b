set_option maxRecDepth 20000 in
theorem ggX6_fill_X9_isKey : GoodIn wsX6_fill wsX9_isKey := goodIn_r _ [10, 11, 12, 13, 14, 15, 16, 17, 18, 19, 20, 21] (by decide +kernel) (by decide +kernel)
set_option maxRecDepth 20000 in
theorem gX6_fill_X9_isKey_n44 : GoodIn wsX6_fill (wsX9_isKey) := ggX6_fill_X9_isKey
theorem dX6_fill_0 : decode cX6_fill 0 = .ok (.aload_n 0, 1) := by decide +kernel
theorem dX6_fill_1 : decode cX6_fill 1 = .ok (.aload_n 1, 1) := by decide +kernel
theorem dX6_fill_2 : decode cX6_fill 2 = .ok (.getfield 28, 3) := by decide +kernel
theorem dX6_fill_5 : decode cX6_fill 5 = .ok (.putfield 34, 3) := by decide +kernel
theorem dX6_fill_8 : decode cX6_fill 8 = .ok (.iconst 0, 1) := by decide +kernel
theorem dX6_fill_9 : decode cX6_fill 9 = .ok (.istore 4, 2) := by decide +kernel
theorem dX6_fill_11 : decode cX6_fill 11 = .ok (.iload 4, 2) := by decide +kernel
theorem dX6_fill_13 : decode cX6_fill 13 = .ok (.aload_n 0, 1) := by decide +kernel
theorem dX6_fill_14 : decode cX6_fill 14 = .ok (.getfield 34, 3) := by decide +kernel
theorem dX6_fill_17 : decode cX6_fill 17 = .ok (.if_icmp .ge 120, 3) := by decide +kernel
theorem dX6_fill_20 : decode cX6_fill 20 = .ok (.iload_n 2, 1) := by decide +kernel
theorem dX6_fill_21 : decode cX6_fill 21 = .ok (.ifCond .eq 20, 3) := by decide +kernel
theorem dX6_fill_24 : decode cX6_fill 24 = .ok (.aload_n 1, 1) := by decide +kernel
theorem dX6_fill_25 : decode cX6_fill 25 = .ok (.getfield 35, 3) := by decide +kernel
theorem dX6_fill_28 : decode cX6_fill 28 = .ok (.aload_n 0, 1) := by decide +kernel
theorem dX6_fill_29 : decode cX6_fill 29 = .ok (.getfield 34, 3) := by decide +kernel
theorem dX6_fill_32 : decode cX6_fill 32 = .ok (.iconst 1, 1) := by decide +kernel
theorem dX6_fill_33 : decode cX6_fill 33 = .ok (.isub, 1) := by decide +kernel
theorem dX6_fill_34 : decode cX6_fill 34 = .ok (.iload 4, 2) := by decide +kernel
theorem dX6_fill_36 : decode cX6_fill 36 = .ok (.isub, 1) := by decide +kernel
theorem dX6_fill_37 : decode cX6_fill 37 = .ok (.iaload, 1) := by decide +kernel
theorem dX6_fill_38 : decode cX6_fill 38 = .ok (.goto 10, 3) := by decide +kernel
theorem dX6_fill_41 : decode cX6_fill 41 = .ok (.aload_n 1, 1) := by decide +kernel
theorem dX6_fill_42 : decode cX6_fill 42 = .ok (.getfield 38, 3) := by decide +kernel
theorem dX6_fill_45 : decode cX6_fill 45 = .ok (.iload 4, 2) := by decide +kernel
theorem dX6_fill_47 : decode cX6_fill 47 = .ok (.iaload, 1) := by decide +kernel
theorem dX6_fill_48 : decode cX6_fill 48 = .ok (.istore 5, 2) := by decide +kernel
theorem dX6_fill_50 : decode cX6_fill 50 = .ok (.aload_n 0, 1) := by decide +kernel
theorem dX6_fill_51 : decode cX6_fill 51 = .ok (.getfield 9, 3) := by decide +kernel
theorem dX6_fill_54 : decode cX6_fill 54 = .ok (.iload 4, 2) := by decide +kernel
theorem dX6_fill_56 : decode cX6_fill 56 = .ok (.iload 5, 2) := by decide +kernel
theorem dX6_fill_58 : decode cX6_fill 58 = .ok (.iastore, 1) := by decide +kernel
theorem dX6_fill_59 : decode cX6_fill 59 = .ok (.aload_n 0, 1) := by decide +kernel
theorem dX6_fill_60 : decode cX6_fill 60 = .ok (.getfield 15, 3) := by decide +kernel
theorem dX6_fill_63 : decode cX6_fill 63 = .ok (.iload 4, 2) := by decide +kernel
theorem dX6_fill_65 : decode cX6_fill 65 = .ok (.iload 4, 2) := by decide +kernel
theorem dX6_fill_67 : decode cX6_fill 67 = .ok (.aload_n 1, 1) := by decide +kernel
theorem dX6_fill_68 : decode cX6_fill 68 = .ok (.getfield 41, 3) := by decide +kernel
theorem dX6_fill_71 : decode cX6_fill 71 = .ok (.iload 5, 2) := by decide +kernel
theorem dX6_fill_73 : decode cX6_fill 73 = .ok (.iaload, 1) := by decide +kernel
theorem dX6_fill_74 : decode cX6_fill 74 = .ok (.isub, 1) := by decide +kernel
theorem dX6_fill_75 : decode cX6_fill 75 = .ok (.iconst 1, 1) := by decide +kernel
theorem dX6_fill_76 : decode cX6_fill 76 = .ok (.iadd, 1) := by decide +kernel
theorem dX6_fill_77 : decode cX6_fill 77 = .ok (.iastore, 1) := by decide +kernel
theorem dX6_fill_78 : decode cX6_fill 78 = .ok (.aload_n 0, 1) := by decide +kernel
theorem dX6_fill_79 : decode cX6_fill 79 = .ok (.getfield 18, 3) := by decide +kernel
theorem dX6_fill_82 : decode cX6_fill 82 = .ok (.iload 4, 2) := by decide +kernel
theorem dX6_fill_84 : decode cX6_fill 84 = .ok (.aload_n 1, 1) := by decide +kernel
theorem dX6_fill_85 : decode cX6_fill 85 = .ok (.iload 5, 2) := by decide +kernel
theorem dX6_fill_87 : decode cX6_fill 87 = .ok (.invokevirtual 44, 3) := by decide +kernel
theorem dX6_fill_90 : decode cX6_fill 90 = .ok (.bastore, 1) := by decide +kernel
theorem dX6_fill_91 : decode cX6_fill 91 = .ok (.aload_n 0, 1) := by decide +kernel
theorem dX6_fill_92 : decode cX6_fill 92 = .ok (.getfield 22, 3) := by decide +kernel
theorem dX6_fill_95 : decode cX6_fill 95 = .ok (.iload 4, 2) := by decide +kernel
theorem dX6_fill_97 : decode cX6_fill 97 = .ok (.aload_n 3, 1) := by decide +kernel
theorem dX6_fill_98 : decode cX6_fill 98 = .ok (.aload_n 1, 1) := by decide +kernel
theorem dX6_fill_99 : decode cX6_fill 99 = .ok (.getfield 48, 3) := by decide +kernel
theorem dX6_fill_102 : decode cX6_fill 102 = .ok (.iload 5, 2) := by decide +kernel
theorem dX6_fill_104 : decode cX6_fill 104 = .ok (.iaload, 1) := by decide +kernel
theorem dX6_fill_105 : decode cX6_fill 105 = .ok (.iaload, 1) := by decide +kernel
theorem dX6_fill_106 : decode cX6_fill 106 = .ok (.iastore, 1) := by decide +kernel
theorem dX6_fill_107 : decode cX6_fill 107 = .ok (.aload_n 0, 1) := by decide +kernel
theorem dX6_fill_108 : decode cX6_fill 108 = .ok (.getfield 25, 3) := by decide +kernel
theorem dX6_fill_111 : decode cX6_fill 111 = .ok (.iload 4, 2) := by decide +kernel
theorem dX6_fill_113 : decode cX6_fill 113 = .ok (.iconst 1, 1) := by decide +kernel
theorem dX6_fill_114 : decode cX6_fill 114 = .ok (.iadd, 1) := by decide +kernel
theorem dX6_fill_115 : decode cX6_fill 115 = .ok (.aload_n 0, 1) := by decide +kernel
theorem dX6_fill_116 : decode cX6_fill 116 = .ok (.getfield 25, 3) := by decide +kernel
theorem dX6_fill_119 : decode cX6_fill 119 = .ok (.iload 4, 2) := by decide +kernel
theorem dX6_fill_121 : decode cX6_fill 121 = .ok (.iaload, 1) := by decide +kernel
theorem dX6_fill_122 : decode cX6_fill 122 = .ok (.aload_n 0, 1) := by decide +kernel
theorem dX6_fill_123 : decode cX6_fill 123 = .ok (.getfield 22, 3) := by decide +kernel
theorem dX6_fill_126 : decode cX6_fill 126 = .ok (.iload 4, 2) := by decide +kernel
theorem dX6_fill_128 : decode cX6_fill 128 = .ok (.iaload, 1) := by decide +kernel
theorem dX6_fill_129 : decode cX6_fill 129 = .ok (.iadd, 1) := by decide +kernel
theorem dX6_fill_130 : decode cX6_fill 130 = .ok (.iastore, 1) := by decide +kernel
theorem dX6_fill_131 : decode cX6_fill 131 = .ok (.iinc 4 1, 3) := by decide +kernel
theorem dX6_fill_134 : decode cX6_fill 134 = .ok (.goto (-123), 3) := by decide +kernel
theorem dX6_fill_137 : decode cX6_fill 137 = .ok (.return_, 1) := by decide +kernel
theorem hi_X6_fill_9 : ∀ w ∈ u_ws RX9 TX9 9, w ∈ wsX6_fill := by decide +kernel
theorem lk_X6_fill_f34 : Cond.fieldLink RX6 34 "TreeComparer$Row" "count" "I" ∈ wsX6_fill := by decide +kernel
theorem hi_X6_fill_6 : ∀ w ∈ u_ws RX6 TX6 6, w ∈ wsX6_fill := by decide +kernel
theorem lk_X6_fill_f9 : Cond.fieldLink RX6 9 "TreeComparer$Row" "node" "[I" ∈ wsX6_fill := by decide +kernel
theorem lk_X6_fill_f15 : Cond.fieldLink RX6 15 "TreeComparer$Row" "first" "[I" ∈ wsX6_fill := by decide +kernel
theorem lk_X6_fill_f18 : Cond.fieldLink RX6 18 "TreeComparer$Row" "key" "[Z" ∈ wsX6_fill := by decide +kernel
theorem lk_X6_fill_i9 : Cond.initialized RX9 ∈ wsX6_fill := by decide +kernel
theorem lk_X6_fill_im44 : Cond.instanceMethod yX9_isKey ∈ wsX6_fill := by decide +kernel
theorem lk_X6_fill_se44 : Cond.selects RX9 yX9_isKey yX9_isKey ∈ wsX6_fill := by decide +kernel
theorem lk_X6_fill_f22 : Cond.fieldLink RX6 22 "TreeComparer$Row" "alone" "[I" ∈ wsX6_fill := by decide +kernel
theorem lk_X6_fill_f25 : Cond.fieldLink RX6 25 "TreeComparer$Row" "aloneBefore" "[I" ∈ wsX6_fill := by decide +kernel
def wpj_X6_fill_48 (o : Nat) (p0 : Nat) (p1 : Int) (po2 pk2 pn2 : Nat) (x4 : Int) (s0 : Int) (M : Mem) (J11 : Int → Mem → Prop) (Q : Mem → Prop) : Prop := ((0 : Int) ≤ x4 ∧ x4 < 12) ∧ (∀ M9 : Mem, M9 = mset M o 0 x4.toNat s0 → ((0 : Int) ≤ s0 ∧ s0 < 12) ∧ ((0 : Int) ≤ x4 ∧ x4 < 12) ∧ (∀ M12 : Mem, M12 = mset M9 o 1 x4.toNat ((x4 - (M9 p0 6 s0.toNat)) + 1) → wp_X9_isKey M12 p0 s0 (fun y14 M15 => ((0 : Int) ≤ x4 ∧ x4 < 12) ∧ (y14 = 0 ∨ y14 = 1) ∧ (∀ M16 : Mem, M16 = mset M15 o 2 x4.toNat y14 → ((0 : Int) ≤ s0 ∧ s0 < 12) ∧ ((0 : Int) ≤ (M16 p0 0 s0.toNat) ∧ (M16 p0 0 s0.toNat) < pn2) ∧ ((0 : Int) ≤ x4 ∧ x4 < 12) ∧ (∀ M21 : Mem, M21 = mset M16 o 3 x4.toNat ((M16 po2 pk2 ((M16 p0 0 s0.toNat)).toNat)) → ((0 : Int) ≤ x4 ∧ x4 < 13) ∧ ((0 : Int) ≤ x4 ∧ x4 < 12) ∧ ((0 : Int) ≤ x4 + 1 ∧ x4 + 1 < 13) ∧ (∀ M25 : Mem, M25 = mset M21 o 4 (x4 + 1).toNat ((M21 o 4 x4.toNat) + (M21 o 3 x4.toNat)) → J11 (x4 + 1) M25))))))
def wph_X6_fill_11 (o : Nat) (p0 : Nat) (p1 : Int) (po2 pk2 pn2 : Nat) (x4 : Int) (M : Mem) (J11 : Int → Mem → Prop) (Q : Mem → Prop) : Prop := inR x4 ∧ inR (M o 5 0) ∧ (((M o 5 0) ≤ x4 → Q M) ∧ (¬ ((M o 5 0) ≤ x4) → inR p1 ∧ ((p1 = 0 → ((0 : Int) ≤ x4 ∧ x4 < 12) ∧ wpj_X6_fill_48 o p0 p1 po2 pk2 pn2 x4 ((M p0 4 x4.toNat)) M J11 Q) ∧ (¬ (p1 = 0) → ((0 : Int) ≤ ((M o 5 0) - 1) - x4 ∧ ((M o 5 0) - 1) - x4 < 12) ∧ wpj_X6_fill_48 o p0 p1 po2 pk2 pn2 x4 ((M p0 3 (((M o 5 0) - 1) - x4).toNat)) M J11 Q))))
def wpe_X6_fill (o : Nat) (p0 : Nat) (p1 : Int) (po2 pk2 pn2 : Nat) (M : Mem) (J11 : Int → Mem → Prop) (Q : Mem → Prop) : Prop := (∀ M1 : Mem, M1 = mset M o 5 0 ((M p0 8 0)) → J11 0 M1)
def wp_X6_fill (M : Mem) (o : Nat) (p0 : Nat) (p1 : Int) (po2 pk2 pn2 : Nat) (Q : Mem → Prop) : Prop := ∃ (I11 : Nat → Int → Mem → Prop), wpe_X6_fill o p0 p1 po2 pk2 pn2 M (fun (x4 : Int) (M1 : Mem) => ∃ n1 : Nat, I11 n1 x4 M1) Q ∧ (∀ (n : Nat) (x4 : Int) (M : Mem), I11 n x4 M → wph_X6_fill_11 o p0 p1 po2 pk2 pn2 x4 M (fun (x4 : Int) (M1 : Mem) => ∃ n1 : Nat, n1 < n ∧ I11 n1 x4 M1) Q)
set_option maxHeartbeats 4000000 in
set_option maxRecDepth 100000 in
theorem wkj_X6_fill_48 {p : Program} {l : Launch} {e : Env} {s : State} {m : MethodId} {args : Array Value} {below : List Frame} {meth : Method} {c : Code} {D : va_G} {g : GT} {A : Nat → Prop} {a : Nat → Nat} {b : Nat → Nat → Nat} (X : vC p s m args meth c D g A RX6 wsX6_fill cX6_fill 6) (hr : meth.sig.returnType = none) {o : Nat} {p0 : Nat} {p1 : Int} {po2 pk2 pn2 : Nat} (ho : isR o) (hp0 : isT p0) {pq2 : Nat} (ha2 : isArr pq2 po2 pk2 pn2) {x4 : Int} {s0 : Int} {M : Mem} {J11 : Int → Mem → Prop} {Q : Mem → Prop} (hJ11 : ∀ (x4 : Int) (M : Mem), J11 x4 M → vV p l e ({ frames := 1, cells := 0, slots := 0, locals := 21 } : Room) s m args below meth c D g A a b 6 0 0 (MQ below (cQv D g A a b Q) args s 0 0 A) M [(0, .ref (a o)), (1, .ref (a p0)), (2, iv p1), (3, .ref (b po2 pk2)), (4, iv x4)] 11 []) (hw : wpj_X6_fill_48 o p0 p1 po2 pk2 pn2 x4 s0 M J11 Q) : vV p l e ({ frames := 1, cells := 0, slots := 0, locals := 21 } : Room) s m args below meth c D g A a b 6 0 0 (MQ below (cQv D g A a b Q) args s 0 0 A) M [(0, .ref (a o)), (1, .ref (a p0)), (2, iv p1), (3, .ref (b po2 pk2)), (4, iv x4)] 48 [iv s0] := by
  unfold wpj_X6_fill_48 at hw
  refine V_istore (lv1 := [(0, .ref (a o)), (1, .ref (a p0)), (2, iv p1), (3, .ref (b po2 pk2)), (4, iv x4), (5, iv s0)]) X [1, 2, 3, 4, 5, 0] dX6_fill_48 (by decide) rfl ?_
  refine V_aload_n X dX6_fill_50 rfl (q := 0) rfl ?_
  refine V_get (C := RX6) (T := TX6) (N := 6) (ci := 6) X hi_X6_fill_6 (gRO ho) rfl 0 (by decide) lk_X6_fill_f9 (fun _ h9 => h9) rfl dX6_fill_51 ?_
  refine V_iload X dX6_fill_54 (q := 4) rfl ?_
  refine V_iload X dX6_fill_56 (q := 5) rfl ?_
  obtain ⟨h10, hw⟩ := hw
  refine V_iast X ((gR_0 ho)) ((sR_0 ho)) h10 (by decide) dX6_fill_58 (fun M9 eM9 => ?_)
  have hw := hw M9 eM9
  refine V_aload_n X dX6_fill_59 rfl (q := 0) rfl ?_
  refine V_get (C := RX6) (T := TX6) (N := 6) (ci := 6) X hi_X6_fill_6 (gRO ho) rfl 1 (by decide) lk_X6_fill_f15 (fun _ h9 => h9) rfl dX6_fill_60 ?_
  refine V_iload X dX6_fill_63 (q := 4) rfl ?_
  refine V_iload X dX6_fill_65 (q := 4) rfl ?_
  refine V_aload_n X dX6_fill_67 rfl (q := 1) rfl ?_
  refine V_getN (C := RX9) (T := TX9) (N := 9) (ci := 9) X hi_X6_fill_9 (gTO hp0) rfl 6 (by decide) (List.mem_of_getElem? (i := 17) rfl) (fun _ h9 => h9) rfl dX6_fill_68 ?_
  refine V_iload X dX6_fill_71 (q := 5) rfl ?_
  obtain ⟨h11, hw⟩ := hw
  refine V_iald X ((gT_6 hp0)) h11 (by decide) dX6_fill_73 ?_
  refine V_isub X dX6_fill_74 ?_
  refine V_iconst X dX6_fill_75 ?_
  refine V_iadd X dX6_fill_76 ?_
  obtain ⟨h13, hw⟩ := hw
  refine V_iast X ((gR_1 ho)) ((sR_1 ho)) h13 (by decide) dX6_fill_77 (fun M12 eM12 => ?_)
  have hw := hw M12 eM12
  refine V_aload_n X dX6_fill_78 rfl (q := 0) rfl ?_
  refine V_get (C := RX6) (T := TX6) (N := 6) (ci := 6) X hi_X6_fill_6 (gRO ho) rfl 2 (by decide) lk_X6_fill_f18 (fun _ h9 => h9) rfl dX6_fill_79 ?_
  refine V_iload X dX6_fill_82 (q := 4) rfl ?_
  refine V_aload_n X dX6_fill_84 rfl (q := 1) rfl ?_
  refine V_iload X dX6_fill_85 (q := 5) rfl ?_
  refine V_callVN_i X _ (gTO hp0) rfl (As := [iv s0]) (st := [iv x4, .ref (b o 2)]) (c_X9_isKey l hp0 hw) ⟨va_cnB 1 X.2.2.2.1 gX6_fill_X9_isKey_n44 rfl rfl rfl (X.2.2.2.2.1.2.1 _ (List.mem_of_getElem? (i := 97) rfl)) (X.2.2.2.1 _ lk_X6_fill_i9) (by decide +kernel) ⟨Nat.le_of_ble_eq_true rfl, Nat.le_of_ble_eq_true rfl⟩, X.2.2.2.1 _ lk_X6_fill_im44, X.2.2.2.1 _ lk_X6_fill_se44⟩ rfl (Nat.le_of_ble_eq_true rfl) ⟨Nat.le_of_ble_eq_true rfl, Nat.le_of_ble_eq_true rfl⟩ rfl dX6_fill_87 (fun y14 M15 hw => ?_)
  obtain ⟨h17, hw⟩ := hw
  obtain ⟨h18, hw⟩ := hw
  refine V_zast X ((gR_2 ho)) ((sR_2 ho)) h17 h18 (by decide) dX6_fill_90 (fun M16 eM16 => ?_)
  have hw := hw M16 eM16
  refine V_aload_n X dX6_fill_91 rfl (q := 0) rfl ?_
  refine V_get (C := RX6) (T := TX6) (N := 6) (ci := 6) X hi_X6_fill_6 (gRO ho) rfl 3 (by decide) lk_X6_fill_f22 (fun _ h9 => h9) rfl dX6_fill_92 ?_
  refine V_iload X dX6_fill_95 (q := 4) rfl ?_
  refine V_aload_n X dX6_fill_97 rfl (q := 3) rfl ?_
  refine V_aload_n X dX6_fill_98 rfl (q := 1) rfl ?_
  refine V_getN (C := RX9) (T := TX9) (N := 9) (ci := 9) X hi_X6_fill_9 (gTO hp0) rfl 0 (by decide) (List.mem_of_getElem? (i := 1) rfl) (fun _ h9 => h9) rfl dX6_fill_99 ?_
  refine V_iload X dX6_fill_102 (q := 5) rfl ?_
  obtain ⟨h19, hw⟩ := hw
  refine V_iald X ((gT_0 hp0)) h19 (by decide) dX6_fill_104 ?_
  obtain ⟨h20, hw⟩ := hw
  refine V_iald X (ha2.1 _ _ _ _) h20 ha2.2.2 dX6_fill_105 ?_
  obtain ⟨h22, hw⟩ := hw
  refine V_iast X ((gR_3 ho)) ((sR_3 ho)) h22 (by decide) dX6_fill_106 (fun M21 eM21 => ?_)
  have hw := hw M21 eM21
  refine V_aload_n X dX6_fill_107 rfl (q := 0) rfl ?_
  refine V_get (C := RX6) (T := TX6) (N := 6) (ci := 6) X hi_X6_fill_6 (gRO ho) rfl 4 (by decide) lk_X6_fill_f25 (fun _ h9 => h9) rfl dX6_fill_108 ?_
  refine V_iload X dX6_fill_111 (q := 4) rfl ?_
  refine V_iconst X dX6_fill_113 ?_
  refine V_iadd X dX6_fill_114 ?_
  refine V_aload_n X dX6_fill_115 rfl (q := 0) rfl ?_
  refine V_get (C := RX6) (T := TX6) (N := 6) (ci := 6) X hi_X6_fill_6 (gRO ho) rfl 4 (by decide) lk_X6_fill_f25 (fun _ h9 => h9) rfl dX6_fill_116 ?_
  refine V_iload X dX6_fill_119 (q := 4) rfl ?_
  obtain ⟨h23, hw⟩ := hw
  refine V_iald X ((gR_4 ho)) h23 (by decide) dX6_fill_121 ?_
  refine V_aload_n X dX6_fill_122 rfl (q := 0) rfl ?_
  refine V_get (C := RX6) (T := TX6) (N := 6) (ci := 6) X hi_X6_fill_6 (gRO ho) rfl 3 (by decide) lk_X6_fill_f22 (fun _ h9 => h9) rfl dX6_fill_123 ?_
  refine V_iload X dX6_fill_126 (q := 4) rfl ?_
  obtain ⟨h24, hw⟩ := hw
  refine V_iald X ((gR_3 ho)) h24 (by decide) dX6_fill_128 ?_
  refine V_iadd X dX6_fill_129 ?_
  obtain ⟨h26, hw⟩ := hw
  refine V_iast X ((gR_4 ho)) ((sR_4 ho)) h26 (by decide) dX6_fill_130 (fun M25 eM25 => ?_)
  have hw := hw M25 eM25
  refine V_iinc (lv1 := [(0, .ref (a o)), (1, .ref (a p0)), (2, iv p1), (3, .ref (b po2 pk2)), (4, iv (x4 + 1)), (5, iv s0)]) X [1, 2, 3, 4, 0, 5] dX6_fill_131 (q := 4) rfl (by decide) rfl ?_
  refine V_goto (tgt := 11) X dX6_fill_134 (by decide) ?_
  refine V_sub (lv1 := [(0, .ref (a o)), (1, .ref (a p0)), (2, iv p1), (3, .ref (b po2 pk2)), (4, iv (x4 + 1))]) [0, 1, 2, 3, 4] rfl ?_
  exact hJ11 _ _ hw
set_option maxHeartbeats 4000000 in
set_option maxRecDepth 100000 in
theorem wkh_X6_fill_11 {p : Program} {l : Launch} {e : Env} {s : State} {m : MethodId} {args : Array Value} {below : List Frame} {meth : Method} {c : Code} {D : va_G} {g : GT} {A : Nat → Prop} {a : Nat → Nat} {b : Nat → Nat → Nat} (X : vC p s m args meth c D g A RX6 wsX6_fill cX6_fill 6) (hr : meth.sig.returnType = none) {o : Nat} {p0 : Nat} {p1 : Int} {po2 pk2 pn2 : Nat} (ho : isR o) (hp0 : isT p0) {pq2 : Nat} (ha2 : isArr pq2 po2 pk2 pn2) {x4 : Int} {M : Mem} {J11 : Int → Mem → Prop} {Q : Mem → Prop} (hJ11 : ∀ (x4 : Int) (M : Mem), J11 x4 M → vV p l e ({ frames := 1, cells := 0, slots := 0, locals := 21 } : Room) s m args below meth c D g A a b 6 0 0 (MQ below (cQv D g A a b Q) args s 0 0 A) M [(0, .ref (a o)), (1, .ref (a p0)), (2, iv p1), (3, .ref (b po2 pk2)), (4, iv x4)] 11 []) (hw : wph_X6_fill_11 o p0 p1 po2 pk2 pn2 x4 M J11 Q) : vV p l e ({ frames := 1, cells := 0, slots := 0, locals := 21 } : Room) s m args below meth c D g A a b 6 0 0 (MQ below (cQv D g A a b Q) args s 0 0 A) M [(0, .ref (a o)), (1, .ref (a p0)), (2, iv p1), (3, .ref (b po2 pk2)), (4, iv x4)] 11 [] := by
  unfold wph_X6_fill_11 at hw
  refine V_iload X dX6_fill_11 (q := 4) rfl ?_
  refine V_aload_n X dX6_fill_13 rfl (q := 0) rfl ?_
  refine V_get (C := RX6) (T := TX6) (N := 6) (ci := 6) X hi_X6_fill_6 (gRO ho) rfl 5 (by decide) lk_X6_fill_f34 (fun _ h9 => h9) rfl dX6_fill_14 ?_
  obtain ⟨h2, h3, hw⟩ := hw
  refine V_icmp_ge (tgt := 137) X h2 h3 dX6_fill_17 (by decide) (fun q4 => ?_) (fun q4 => ?_)
  · have hw := hw.1 q4
    exact V_vret X hr hw dX6_fill_137
  · have hw := hw.2 q4
    refine V_iload_n X dX6_fill_20 rfl (q := 2) rfl ?_
    obtain ⟨h5, hw⟩ := hw
    refine V_if_eq (tgt := 41) X h5 dX6_fill_21 (by decide) (fun q6 => ?_) (fun q6 => ?_)
    · have hw := hw.1 q6
      refine V_aload_n X dX6_fill_41 rfl (q := 1) rfl ?_
      refine V_getN (C := RX9) (T := TX9) (N := 9) (ci := 9) X hi_X6_fill_9 (gTO hp0) rfl 4 (by decide) (List.mem_of_getElem? (i := 13) rfl) (fun _ h9 => h9) rfl dX6_fill_42 ?_
      refine V_iload X dX6_fill_45 (q := 4) rfl ?_
      obtain ⟨h7, hw⟩ := hw
      refine V_iald X ((gT_4 hp0)) h7 (by decide) dX6_fill_47 ?_
      exact wkj_X6_fill_48 X hr ho hp0 ha2 hJ11 hw
    · have hw := hw.2 q6
      refine V_aload_n X dX6_fill_24 rfl (q := 1) rfl ?_
      refine V_getN (C := RX9) (T := TX9) (N := 9) (ci := 9) X hi_X6_fill_9 (gTO hp0) rfl 3 (by decide) (List.mem_of_getElem? (i := 8) rfl) (fun _ h9 => h9) rfl dX6_fill_25 ?_
      refine V_aload_n X dX6_fill_28 rfl (q := 0) rfl ?_
      refine V_get (C := RX6) (T := TX6) (N := 6) (ci := 6) X hi_X6_fill_6 (gRO ho) rfl 5 (by decide) lk_X6_fill_f34 (fun _ h9 => h9) rfl dX6_fill_29 ?_
      refine V_iconst X dX6_fill_32 ?_
      refine V_isub X dX6_fill_33 ?_
      refine V_iload X dX6_fill_34 (q := 4) rfl ?_
      refine V_isub X dX6_fill_36 ?_
      obtain ⟨h8, hw⟩ := hw
      refine V_iald X ((gT_3 hp0)) h8 (by decide) dX6_fill_37 ?_
      refine V_goto (tgt := 48) X dX6_fill_38 (by decide) ?_
      exact wkj_X6_fill_48 X hr ho hp0 ha2 hJ11 hw
set_option maxHeartbeats 4000000 in
set_option maxRecDepth 100000 in
theorem wke_X6_fill {p : Program} {l : Launch} {e : Env} {s : State} {m : MethodId} {args : Array Value} {below : List Frame} {meth : Method} {c : Code} {D : va_G} {g : GT} {A : Nat → Prop} {a : Nat → Nat} {b : Nat → Nat → Nat} (X : vC p s m args meth c D g A RX6 wsX6_fill cX6_fill 6) (hr : meth.sig.returnType = none) {o : Nat} {p0 : Nat} {p1 : Int} {po2 pk2 pn2 : Nat} (ho : isR o) (hp0 : isT p0) {pq2 : Nat} (ha2 : isArr pq2 po2 pk2 pn2) {M : Mem} {J11 : Int → Mem → Prop} {Q : Mem → Prop} (hJ11 : ∀ (x4 : Int) (M : Mem), J11 x4 M → vV p l e ({ frames := 1, cells := 0, slots := 0, locals := 21 } : Room) s m args below meth c D g A a b 6 0 0 (MQ below (cQv D g A a b Q) args s 0 0 A) M [(0, .ref (a o)), (1, .ref (a p0)), (2, iv p1), (3, .ref (b po2 pk2)), (4, iv x4)] 11 []) (hw : wpe_X6_fill o p0 p1 po2 pk2 pn2 M J11 Q) : vV p l e ({ frames := 1, cells := 0, slots := 0, locals := 21 } : Room) s m args below meth c D g A a b 6 0 0 (MQ below (cQv D g A a b Q) args s 0 0 A) M [(0, .ref (a o)), (1, .ref (a p0)), (2, iv p1), (3, .ref (b po2 pk2))] 0 [] := by
  unfold wpe_X6_fill at hw
  refine V_aload_n X dX6_fill_0 rfl (q := 0) rfl ?_
  refine V_aload_n X dX6_fill_1 rfl (q := 1) rfl ?_
  refine V_getN (C := RX9) (T := TX9) (N := 9) (ci := 9) X hi_X6_fill_9 (gTO hp0) rfl 8 (by decide) (List.mem_of_getElem? (i := 19) rfl) (fun _ h9 => h9) rfl dX6_fill_2 ?_
  refine V_put (C := RX6) (T := TX6) (N := 6) (ci := 6) X hi_X6_fill_6 (gRO ho) rfl 5 (by decide) tyX6 tyX6_ok nmX6 rfl (tyX6_ok 5 (by decide)) (Or.inl rfl) (show 5 < 6 from by decide) (sRI_5 ho) lk_X6_fill_f34 (fun _ h9 => h9) dX6_fill_5 (fun M1 eM1 => ?_)
  have hw := hw M1 eM1
  refine V_iconst X dX6_fill_8 ?_
  refine V_istore (lv1 := [(0, .ref (a o)), (1, .ref (a p0)), (2, iv p1), (3, .ref (b po2 pk2)), (4, iv 0)]) X [1, 2, 3, 4, 0] dX6_fill_9 (by decide) rfl ?_
  exact hJ11 _ _ hw
set_option maxHeartbeats 4000000 in
set_option maxRecDepth 100000 in
theorem c_X6_fill (l : Launch) {o : Nat} {p0 : Nat} {p1 : Int} {po2 pk2 pn2 : Nat} (ho : isR o) (hp0 : isT p0) {pq2 : Nat} (ha2 : isArr pq2 po2 pk2 pn2) {D : va_G} {g : GT} {A : Nat → Prop} {a : Nat → Nat} {b : Nat → Nat → Nat} {M : Mem} {Q : Mem → Prop} (hw : wp_X6_fill M o p0 p1 po2 pk2 pn2 Q) : Met l yX6_fill wsX6_fill ({ frames := 1, cells := 0, slots := 0, locals := 21 } : Room) (cPc D g A a b M [.ref (a o), .ref (a p0), iv p1, .ref (b po2 pk2)]) (cQv D g A a b Q) 0 0 A := by
  refine Met.ofW (cc := cX6_fill) (maxL := 6) (ret := none) (by decide) rfl ?_
  intro p e s m args below meth c s₁ B hml hv
  obtain ⟨rfl, hP, hD, hG⟩ := hv
  have X : vC p s m _ meth c D g A RX6 wsX6_fill cX6_fill 6 := ⟨B.exec, B.bytes, findClass_of_methodNamed B.named, atoms_spec (ws := wsX6_fill) B.pre, hG, hml, B.notSynchronized⟩
  have hr := B.returns
  have hl := lv_entry ([.ref (a o), .ref (a p0), iv p1, .ref (b po2 pk2)]) (n := 6) (Nat.le_of_ble_eq_true rfl)
  rw [lg_entry_eq]
  generalize (lg_sl ([.ref (a o), .ref (a p0), iv p1, .ref (b po2 pk2)]) ++ List.replicate (6 - (lg_sl ([.ref (a o), .ref (a p0), iv p1, .ref (b po2 pk2)])).length) Slot.unset).toArray = ls at hl ⊢
  have hl : lv_has ls 6 [(0, .ref (a o)), (1, .ref (a p0)), (2, iv p1), (3, .ref (b po2 pk2))] := hl
  obtain ⟨I11, hw, hI11⟩ := hw
  have K : ∀ n : Nat, (∀ (x4 : Int) (M : Mem), I11 n x4 M → vV p l e ({ frames := 1, cells := 0, slots := 0, locals := 21 } : Room) s m ([.ref (a o), .ref (a p0), iv p1, .ref (b po2 pk2)] : List Value).toArray below meth c D g A a b 6 0 0 (MQ below (cQv D g A a b Q) ([.ref (a o), .ref (a p0), iv p1, .ref (b po2 pk2)] : List Value).toArray s 0 0 A) M [(0, .ref (a o)), (1, .ref (a p0)), (2, iv p1), (3, .ref (b po2 pk2)), (4, iv x4)] 11 []) := by
    intro n
    induction n using Nat.strongRecOn with
    | ind n ih =>
      exact fun x4 M hh => wkh_X6_fill_11 X hr ho hp0 ha2 (fun _ _ ⟨n1, hn, hh⟩ => (ih n1 hn) _ _ hh) (hI11 n x4 M hh)
  exact wke_X6_fill X hr ho hp0 ha2 (fun _ _ ⟨n1, hh⟩ => (K n1) _ _ hh) hw s.heap [] ls hP hD va_S.rf hl

set_option maxRecDepth 20000 in
theorem ggX3_lay_X6_fill : GoodIn wsX3_lay wsX6_fill := goodIn_r _ [8, 9, 10, 11, 12, 13, 14, 15, 16, 17, 18, 19, 20, 45, 46, 47, 48, 49, 50, 51, 52, 53, 39, 40, 41, 42, 43, 44] (by decide +kernel) (by decide +kernel)
set_option maxRecDepth 20000 in
theorem gX3_lay_X6_fill_n41 : GoodIn wsX3_lay (wsX6_fill) := ggX3_lay_X6_fill
set_option maxRecDepth 20000 in
theorem ggX3_lay_X1_pairingPrice : GoodIn wsX3_lay wsX1_pairingPrice := goodIn_r _ [24, 25, 26, 27, 28, 33, 34, 35, 36, 37, 38, 45, 46, 47, 48, 49, 50, 51, 52, 53] (by decide +kernel) (by decide +kernel)
set_option maxRecDepth 20000 in
theorem gX3_lay_X1_pairingPrice_n57 : GoodIn wsX3_lay (wsX1_pairingPrice) := ggX3_lay_X1_pairingPrice
theorem dX3_lay_0 : decode cX3_lay 0 = .ok (.aload_n 0, 1) := by decide +kernel
theorem dX3_lay_1 : decode cX3_lay 1 = .ok (.getfield 12, 3) := by decide +kernel
theorem dX3_lay_4 : decode cX3_lay 4 = .ok (.aload_n 0, 1) := by decide +kernel
theorem dX3_lay_5 : decode cX3_lay 5 = .ok (.getfield 25, 3) := by decide +kernel
theorem dX3_lay_8 : decode cX3_lay 8 = .ok (.getfield 33, 3) := by decide +kernel
theorem dX3_lay_11 : decode cX3_lay 11 = .ok (.iload_n 1, 1) := by decide +kernel
theorem dX3_lay_12 : decode cX3_lay 12 = .ok (.aload_n 0, 1) := by decide +kernel
theorem dX3_lay_13 : decode cX3_lay 13 = .ok (.getfield 25, 3) := by decide +kernel
theorem dX3_lay_16 : decode cX3_lay 16 = .ok (.getfield 38, 3) := by decide +kernel
theorem dX3_lay_19 : decode cX3_lay 19 = .ok (.invokevirtual 41, 3) := by decide +kernel
theorem dX3_lay_22 : decode cX3_lay 22 = .ok (.aload_n 0, 1) := by decide +kernel
theorem dX3_lay_23 : decode cX3_lay 23 = .ok (.getfield 18, 3) := by decide +kernel
theorem dX3_lay_26 : decode cX3_lay 26 = .ok (.aload_n 0, 1) := by decide +kernel
theorem dX3_lay_27 : decode cX3_lay 27 = .ok (.getfield 25, 3) := by decide +kernel
theorem dX3_lay_30 : decode cX3_lay 30 = .ok (.getfield 45, 3) := by decide +kernel
theorem dX3_lay_33 : decode cX3_lay 33 = .ok (.iload_n 1, 1) := by decide +kernel
theorem dX3_lay_34 : decode cX3_lay 34 = .ok (.aload_n 0, 1) := by decide +kernel
theorem dX3_lay_35 : decode cX3_lay 35 = .ok (.getfield 25, 3) := by decide +kernel
theorem dX3_lay_38 : decode cX3_lay 38 = .ok (.getfield 47, 3) := by decide +kernel
theorem dX3_lay_41 : decode cX3_lay 41 = .ok (.invokevirtual 41, 3) := by decide +kernel
theorem dX3_lay_44 : decode cX3_lay 44 = .ok (.iconst 0, 1) := by decide +kernel
theorem dX3_lay_45 : decode cX3_lay 45 = .ok (.istore_n 2, 1) := by decide +kernel
theorem dX3_lay_46 : decode cX3_lay 46 = .ok (.iload_n 2, 1) := by decide +kernel
theorem dX3_lay_47 : decode cX3_lay 47 = .ok (.aload_n 0, 1) := by decide +kernel
theorem dX3_lay_48 : decode cX3_lay 48 = .ok (.getfield 12, 3) := by decide +kernel
theorem dX3_lay_51 : decode cX3_lay 51 = .ok (.getfield 50, 3) := by decide +kernel
theorem dX3_lay_54 : decode cX3_lay 54 = .ok (.if_icmp .ge 64, 3) := by decide +kernel
theorem dX3_lay_57 : decode cX3_lay 57 = .ok (.iconst 0, 1) := by decide +kernel
theorem dX3_lay_58 : decode cX3_lay 58 = .ok (.istore_n 3, 1) := by decide +kernel
theorem dX3_lay_59 : decode cX3_lay 59 = .ok (.iload_n 3, 1) := by decide +kernel
theorem dX3_lay_60 : decode cX3_lay 60 = .ok (.aload_n 0, 1) := by decide +kernel
theorem dX3_lay_61 : decode cX3_lay 61 = .ok (.getfield 18, 3) := by decide +kernel
theorem dX3_lay_64 : decode cX3_lay 64 = .ok (.getfield 50, 3) := by decide +kernel
theorem dX3_lay_67 : decode cX3_lay 67 = .ok (.if_icmp .ge 45, 3) := by decide +kernel
theorem dX3_lay_70 : decode cX3_lay 70 = .ok (.aload_n 0, 1) := by decide +kernel
theorem dX3_lay_71 : decode cX3_lay 71 = .ok (.getfield 21, 3) := by decide +kernel
theorem dX3_lay_74 : decode cX3_lay 74 = .ok (.iload_n 2, 1) := by decide +kernel
theorem dX3_lay_75 : decode cX3_lay 75 = .ok (.bipush 12, 2) := by decide +kernel
theorem dX3_lay_77 : decode cX3_lay 77 = .ok (.imul, 1) := by decide +kernel
theorem dX3_lay_78 : decode cX3_lay 78 = .ok (.iload_n 3, 1) := by decide +kernel
theorem dX3_lay_79 : decode cX3_lay 79 = .ok (.iadd, 1) := by decide +kernel
theorem dX3_lay_80 : decode cX3_lay 80 = .ok (.aload_n 0, 1) := by decide +kernel
theorem dX3_lay_81 : decode cX3_lay 81 = .ok (.getfield 25, 3) := by decide +kernel
theorem dX3_lay_84 : decode cX3_lay 84 = .ok (.aload_n 0, 1) := by decide +kernel
theorem dX3_lay_85 : decode cX3_lay 85 = .ok (.getfield 12, 3) := by decide +kernel
theorem dX3_lay_88 : decode cX3_lay 88 = .ok (.getfield 54, 3) := by decide +kernel
theorem dX3_lay_91 : decode cX3_lay 91 = .ok (.iload_n 2, 1) := by decide +kernel
theorem dX3_lay_92 : decode cX3_lay 92 = .ok (.iaload, 1) := by decide +kernel
theorem dX3_lay_93 : decode cX3_lay 93 = .ok (.aload_n 0, 1) := by decide +kernel
theorem dX3_lay_94 : decode cX3_lay 94 = .ok (.getfield 18, 3) := by decide +kernel
theorem dX3_lay_97 : decode cX3_lay 97 = .ok (.getfield 54, 3) := by decide +kernel
theorem dX3_lay_100 : decode cX3_lay 100 = .ok (.iload_n 3, 1) := by decide +kernel
theorem dX3_lay_101 : decode cX3_lay 101 = .ok (.iaload, 1) := by decide +kernel
theorem dX3_lay_102 : decode cX3_lay 102 = .ok (.invokevirtual 57, 3) := by decide +kernel
theorem dX3_lay_105 : decode cX3_lay 105 = .ok (.iastore, 1) := by decide +kernel
theorem dX3_lay_106 : decode cX3_lay 106 = .ok (.iinc 3 1, 3) := by decide +kernel
theorem dX3_lay_109 : decode cX3_lay 109 = .ok (.goto (-50), 3) := by decide +kernel
theorem dX3_lay_112 : decode cX3_lay 112 = .ok (.iinc 2 1, 3) := by decide +kernel
theorem dX3_lay_115 : decode cX3_lay 115 = .ok (.goto (-69), 3) := by decide +kernel
theorem dX3_lay_118 : decode cX3_lay 118 = .ok (.return_, 1) := by decide +kernel
theorem lk_X3_lay_f12 : Cond.fieldLink RX3 12 "TreeComparer$Layout" "old" "LTreeComparer$Row;" ∈ wsX3_lay := by decide +kernel
theorem hi_X3_lay_3 : ∀ w ∈ u_ws RX3 TX3 4, w ∈ wsX3_lay := by decide +kernel
theorem lk_X3_lay_f25 : Cond.fieldLink RX3 25 "TreeComparer$Layout" "given" "LTreeComparer$Given;" ∈ wsX3_lay := by decide +kernel
theorem hi_X3_lay_1 : ∀ w ∈ u_ws RX1 TX1 6, w ∈ wsX3_lay := by decide +kernel
theorem lk_X3_lay_i6 : Cond.initialized RX6 ∈ wsX3_lay := by decide +kernel
theorem lk_X3_lay_im41 : Cond.instanceMethod yX6_fill ∈ wsX3_lay := by decide +kernel
theorem lk_X3_lay_se41 : Cond.selects RX6 yX6_fill yX6_fill ∈ wsX3_lay := by decide +kernel
theorem lk_X3_lay_f18 : Cond.fieldLink RX3 18 "TreeComparer$Layout" "current" "LTreeComparer$Row;" ∈ wsX3_lay := by decide +kernel
theorem hi_X3_lay_6 : ∀ w ∈ u_ws RX6 TX6 6, w ∈ wsX3_lay := by decide +kernel
theorem lk_X3_lay_f21 : Cond.fieldLink RX3 21 "TreeComparer$Layout" "pairing" "[I" ∈ wsX3_lay := by decide +kernel
theorem lk_X3_lay_i1 : Cond.initialized RX1 ∈ wsX3_lay := by decide +kernel
theorem lk_X3_lay_im57 : Cond.instanceMethod yX1_pairingPrice ∈ wsX3_lay := by decide +kernel
theorem lk_X3_lay_se57 : Cond.selects RX1 yX1_pairingPrice yX1_pairingPrice ∈ wsX3_lay := by decide +kernel
def wph_X3_lay_59 (p0 : Int) (x2 : Int) (x3 : Int) (M : Mem) (J46 : Int → Mem → Prop) (J59 : Int → Int → Mem → Prop) (Q : Mem → Prop) : Prop := inR x3 ∧ inR (M 10 5 0) ∧ (((M 10 5 0) ≤ x3 → J46 (x2 + 1) M) ∧ (¬ ((M 10 5 0) ≤ x3) → ((0 : Int) ≤ x2 ∧ x2 < 12) ∧ ((0 : Int) ≤ x3 ∧ x3 < 12) ∧ wp_X1_pairingPrice M ((M 9 0 x2.toNat)) ((M 10 0 x3.toNat)) (fun y13 M14 => ((0 : Int) ≤ (x2 * 12) + x3 ∧ (x2 * 12) + x3 < 144) ∧ (∀ M15 : Mem, M15 = mset M14 2 3 ((x2 * 12) + x3).toNat y13 → J59 x2 (x3 + 1) M15))))
def wph_X3_lay_46 (p0 : Int) (x2 : Int) (M : Mem) (J46 : Int → Mem → Prop) (J59 : Int → Int → Mem → Prop) (Q : Mem → Prop) : Prop := inR x2 ∧ inR (M 9 5 0) ∧ (((M 9 5 0) ≤ x2 → Q M) ∧ (¬ ((M 9 5 0) ≤ x2) → J59 x2 0 M))
def wpe_X3_lay (p0 : Int) (M : Mem) (J46 : Int → Mem → Prop) (J59 : Int → Int → Mem → Prop) (Q : Mem → Prop) : Prop := wp_X6_fill M 9 11 p0 1 1 4 (fun M2 => wp_X6_fill M2 10 12 p0 1 0 4 (fun M4 => J46 0 M4))
def wp_X3_lay (M : Mem) (p0 : Int) (Q : Mem → Prop) : Prop := ∃ (I46 : Nat → Int → Mem → Prop) (I59 : Nat → Int → Int → Mem → Prop), wpe_X3_lay p0 M (fun (x2 : Int) (M1 : Mem) => ∃ n1 : Nat, I46 n1 x2 M1) (fun (x2 : Int) (x3 : Int) (M1 : Mem) => ∃ n1 : Nat, I59 n1 x2 x3 M1) Q ∧ (∀ (n : Nat) (x2 : Int) (M : Mem), I46 n x2 M → wph_X3_lay_46 p0 x2 M (fun (x2 : Int) (M1 : Mem) => ∃ n1 : Nat, n1 < n ∧ I46 n1 x2 M1) (fun (x2 : Int) (x3 : Int) (M1 : Mem) => ∃ n1 : Nat, n1 < n ∧ I59 n1 x2 x3 M1) Q) ∧ (∀ (n : Nat) (x2 : Int) (x3 : Int) (M : Mem), I59 n x2 x3 M → wph_X3_lay_59 p0 x2 x3 M (fun (x2 : Int) (M1 : Mem) => ∃ n1 : Nat, n1 < n ∧ I46 n1 x2 M1) (fun (x2 : Int) (x3 : Int) (M1 : Mem) => ∃ n1 : Nat, n1 < n ∧ I59 n1 x2 x3 M1) Q)
set_option maxHeartbeats 4000000 in
set_option maxRecDepth 100000 in
theorem wkh_X3_lay_59 {p : Program} {l : Launch} {e : Env} {s : State} {m : MethodId} {args : Array Value} {below : List Frame} {meth : Method} {c : Code} {D : va_G} {g : GT} {A : Nat → Prop} {a : Nat → Nat} {b : Nat → Nat → Nat} (X : vC p s m args meth c D g A RX3 wsX3_lay cX3_lay 4) (hr : meth.sig.returnType = none) {p0 : Int} {x2 : Int} {x3 : Int} {M : Mem} {J46 : Int → Mem → Prop} {J59 : Int → Int → Mem → Prop} {Q : Mem → Prop} (hJ46 : ∀ (x2 : Int) (M : Mem), J46 x2 M → vV p l e ({ frames := 2, cells := 0, slots := 0, locals := 46 } : Room) s m args below meth c D g A a b 4 0 0 (MQ below (cQv D g A a b Q) args s 0 0 A) M [(0, .ref (a 2)), (2, iv x2)] 46 []) (hJ59 : ∀ (x2 : Int) (x3 : Int) (M : Mem), J59 x2 x3 M → vV p l e ({ frames := 2, cells := 0, slots := 0, locals := 46 } : Room) s m args below meth c D g A a b 4 0 0 (MQ below (cQv D g A a b Q) args s 0 0 A) M [(0, .ref (a 2)), (2, iv x2), (3, iv x3)] 59 []) (hw : wph_X3_lay_59 p0 x2 x3 M J46 J59 Q) : vV p l e ({ frames := 2, cells := 0, slots := 0, locals := 46 } : Room) s m args below meth c D g A a b 4 0 0 (MQ below (cQv D g A a b Q) args s 0 0 A) M [(0, .ref (a 2)), (2, iv x2), (3, iv x3)] 59 [] := by
  unfold wph_X3_lay_59 at hw
  refine V_iload_n X dX3_lay_59 rfl (q := 2) rfl ?_
  refine V_aload_n X dX3_lay_60 rfl (q := 0) rfl ?_
  refine V_get (C := RX3) (T := TX3) (N := 4) (ci := 3) X hi_X3_lay_3 gO_2 rfl 2 (by decide) lk_X3_lay_f18 (fun _ h9 => h9) rfl dX3_lay_61 ?_
  refine V_getN (C := RX6) (T := TX6) (N := 6) (ci := 6) X hi_X3_lay_6 gO_10 rfl 5 (by decide) (List.mem_of_getElem? (i := 55) rfl) (fun _ h9 => h9) rfl dX3_lay_64 ?_
  obtain ⟨h8, h9, hw⟩ := hw
  refine V_icmp_ge (tgt := 112) X h8 h9 dX3_lay_67 (by decide) (fun q10 => ?_) (fun q10 => ?_)
  · have hw := hw.1 q10
    refine V_iinc (lv1 := [(0, .ref (a 2)), (2, iv (x2 + 1)), (3, iv x3)]) X [1, 0, 2] dX3_lay_112 (q := 1) rfl (by decide) rfl ?_
    refine V_goto (tgt := 46) X dX3_lay_115 (by decide) ?_
    refine V_sub (lv1 := [(0, .ref (a 2)), (2, iv (x2 + 1))]) [0, 1] rfl ?_
    exact hJ46 _ _ hw
  · have hw := hw.2 q10
    refine V_aload_n X dX3_lay_70 rfl (q := 0) rfl ?_
    refine V_get (C := RX3) (T := TX3) (N := 4) (ci := 3) X hi_X3_lay_3 gO_2 rfl 3 (by decide) lk_X3_lay_f21 (fun _ h9 => h9) rfl dX3_lay_71 ?_
    refine V_iload_n X dX3_lay_74 rfl (q := 1) rfl ?_
    refine V_bipush X dX3_lay_75 rfl ?_
    refine V_imul X dX3_lay_77 ?_
    refine V_iload_n X dX3_lay_78 rfl (q := 2) rfl ?_
    refine V_iadd X dX3_lay_79 ?_
    refine V_aload_n X dX3_lay_80 rfl (q := 0) rfl ?_
    refine V_get (C := RX3) (T := TX3) (N := 4) (ci := 3) X hi_X3_lay_3 gO_2 rfl 0 (by decide) lk_X3_lay_f25 (fun _ h9 => h9) rfl dX3_lay_81 ?_
    refine V_aload_n X dX3_lay_84 rfl (q := 0) rfl ?_
    refine V_get (C := RX3) (T := TX3) (N := 4) (ci := 3) X hi_X3_lay_3 gO_2 rfl 1 (by decide) lk_X3_lay_f12 (fun _ h9 => h9) rfl dX3_lay_85 ?_
    refine V_getN (C := RX6) (T := TX6) (N := 6) (ci := 6) X hi_X3_lay_6 gO_9 rfl 0 (by decide) (List.mem_of_getElem? (i := 43) rfl) (fun _ h9 => h9) rfl dX3_lay_88 ?_
    refine V_iload_n X dX3_lay_91 rfl (q := 1) rfl ?_
    obtain ⟨h11, hw⟩ := hw
    refine V_iald X (gA_9_0) h11 (by decide) dX3_lay_92 ?_
    refine V_aload_n X dX3_lay_93 rfl (q := 0) rfl ?_
    refine V_get (C := RX3) (T := TX3) (N := 4) (ci := 3) X hi_X3_lay_3 gO_2 rfl 2 (by decide) lk_X3_lay_f18 (fun _ h9 => h9) rfl dX3_lay_94 ?_
    refine V_getN (C := RX6) (T := TX6) (N := 6) (ci := 6) X hi_X3_lay_6 gO_10 rfl 0 (by decide) (List.mem_of_getElem? (i := 43) rfl) (fun _ h9 => h9) rfl dX3_lay_97 ?_
    refine V_iload_n X dX3_lay_100 rfl (q := 2) rfl ?_
    obtain ⟨h12, hw⟩ := hw
    refine V_iald X (gA_10_0) h12 (by decide) dX3_lay_101 ?_
    refine V_callVN_i X _ gO_1 rfl (As := [iv ((M 9 0 x2.toNat)), iv ((M 10 0 x3.toNat))]) (st := [iv ((x2 * 12) + x3), .ref (b 2 3)]) (c_X1_pairingPrice l hw) ⟨va_cnB 2 X.2.2.2.1 gX3_lay_X1_pairingPrice_n57 rfl rfl rfl (X.2.2.2.2.1.2.1 _ (List.mem_of_getElem? (i := 98) rfl)) (X.2.2.2.1 _ lk_X3_lay_i1) (by decide +kernel) ⟨Nat.le_of_ble_eq_true rfl, Nat.le_of_ble_eq_true rfl⟩, X.2.2.2.1 _ lk_X3_lay_im57, X.2.2.2.1 _ lk_X3_lay_se57⟩ rfl (Nat.le_of_ble_eq_true rfl) ⟨Nat.le_of_ble_eq_true rfl, Nat.le_of_ble_eq_true rfl⟩ rfl dX3_lay_102 (fun y13 M14 hw => ?_)
    obtain ⟨h16, hw⟩ := hw
    refine V_iast X (gA_2_3) (sA_2_3) h16 (by decide) dX3_lay_105 (fun M15 eM15 => ?_)
    have hw := hw M15 eM15
    refine V_iinc (lv1 := [(0, .ref (a 2)), (2, iv x2), (3, iv (x3 + 1))]) X [1, 2, 0] dX3_lay_106 (q := 2) rfl (by decide) rfl ?_
    refine V_goto (tgt := 59) X dX3_lay_109 (by decide) ?_
    exact hJ59 _ _ _ hw
set_option maxHeartbeats 4000000 in
set_option maxRecDepth 100000 in
theorem wkh_X3_lay_46 {p : Program} {l : Launch} {e : Env} {s : State} {m : MethodId} {args : Array Value} {below : List Frame} {meth : Method} {c : Code} {D : va_G} {g : GT} {A : Nat → Prop} {a : Nat → Nat} {b : Nat → Nat → Nat} (X : vC p s m args meth c D g A RX3 wsX3_lay cX3_lay 4) (hr : meth.sig.returnType = none) {p0 : Int} {x2 : Int} {M : Mem} {J46 : Int → Mem → Prop} {J59 : Int → Int → Mem → Prop} {Q : Mem → Prop} (hJ46 : ∀ (x2 : Int) (M : Mem), J46 x2 M → vV p l e ({ frames := 2, cells := 0, slots := 0, locals := 46 } : Room) s m args below meth c D g A a b 4 0 0 (MQ below (cQv D g A a b Q) args s 0 0 A) M [(0, .ref (a 2)), (2, iv x2)] 46 []) (hJ59 : ∀ (x2 : Int) (x3 : Int) (M : Mem), J59 x2 x3 M → vV p l e ({ frames := 2, cells := 0, slots := 0, locals := 46 } : Room) s m args below meth c D g A a b 4 0 0 (MQ below (cQv D g A a b Q) args s 0 0 A) M [(0, .ref (a 2)), (2, iv x2), (3, iv x3)] 59 []) (hw : wph_X3_lay_46 p0 x2 M J46 J59 Q) : vV p l e ({ frames := 2, cells := 0, slots := 0, locals := 46 } : Room) s m args below meth c D g A a b 4 0 0 (MQ below (cQv D g A a b Q) args s 0 0 A) M [(0, .ref (a 2)), (2, iv x2)] 46 [] := by
  unfold wph_X3_lay_46 at hw
  refine V_iload_n X dX3_lay_46 rfl (q := 1) rfl ?_
  refine V_aload_n X dX3_lay_47 rfl (q := 0) rfl ?_
  refine V_get (C := RX3) (T := TX3) (N := 4) (ci := 3) X hi_X3_lay_3 gO_2 rfl 1 (by decide) lk_X3_lay_f12 (fun _ h9 => h9) rfl dX3_lay_48 ?_
  refine V_getN (C := RX6) (T := TX6) (N := 6) (ci := 6) X hi_X3_lay_6 gO_9 rfl 5 (by decide) (List.mem_of_getElem? (i := 55) rfl) (fun _ h9 => h9) rfl dX3_lay_51 ?_
  obtain ⟨h5, h6, hw⟩ := hw
  refine V_icmp_ge (tgt := 118) X h5 h6 dX3_lay_54 (by decide) (fun q7 => ?_) (fun q7 => ?_)
  · have hw := hw.1 q7
    exact V_vret X hr hw dX3_lay_118
  · have hw := hw.2 q7
    refine V_iconst X dX3_lay_57 ?_
    refine V_istore_n (lv1 := [(0, .ref (a 2)), (2, iv x2), (3, iv 0)]) X [1, 2, 0] dX3_lay_58 rfl (by decide) rfl ?_
    exact hJ59 _ _ _ hw
set_option maxHeartbeats 4000000 in
set_option maxRecDepth 100000 in
theorem wke_X3_lay {p : Program} {l : Launch} {e : Env} {s : State} {m : MethodId} {args : Array Value} {below : List Frame} {meth : Method} {c : Code} {D : va_G} {g : GT} {A : Nat → Prop} {a : Nat → Nat} {b : Nat → Nat → Nat} (X : vC p s m args meth c D g A RX3 wsX3_lay cX3_lay 4) (hr : meth.sig.returnType = none) {p0 : Int} {M : Mem} {J46 : Int → Mem → Prop} {J59 : Int → Int → Mem → Prop} {Q : Mem → Prop} (hJ46 : ∀ (x2 : Int) (M : Mem), J46 x2 M → vV p l e ({ frames := 2, cells := 0, slots := 0, locals := 46 } : Room) s m args below meth c D g A a b 4 0 0 (MQ below (cQv D g A a b Q) args s 0 0 A) M [(0, .ref (a 2)), (2, iv x2)] 46 []) (hJ59 : ∀ (x2 : Int) (x3 : Int) (M : Mem), J59 x2 x3 M → vV p l e ({ frames := 2, cells := 0, slots := 0, locals := 46 } : Room) s m args below meth c D g A a b 4 0 0 (MQ below (cQv D g A a b Q) args s 0 0 A) M [(0, .ref (a 2)), (2, iv x2), (3, iv x3)] 59 []) (hw : wpe_X3_lay p0 M J46 J59 Q) : vV p l e ({ frames := 2, cells := 0, slots := 0, locals := 46 } : Room) s m args below meth c D g A a b 4 0 0 (MQ below (cQv D g A a b Q) args s 0 0 A) M [(0, .ref (a 2)), (1, iv p0)] 0 [] := by
  unfold wpe_X3_lay at hw
  refine V_aload_n X dX3_lay_0 rfl (q := 0) rfl ?_
  refine V_get (C := RX3) (T := TX3) (N := 4) (ci := 3) X hi_X3_lay_3 gO_2 rfl 1 (by decide) lk_X3_lay_f12 (fun _ h9 => h9) rfl dX3_lay_1 ?_
  refine V_aload_n X dX3_lay_4 rfl (q := 0) rfl ?_
  refine V_get (C := RX3) (T := TX3) (N := 4) (ci := 3) X hi_X3_lay_3 gO_2 rfl 0 (by decide) lk_X3_lay_f25 (fun _ h9 => h9) rfl dX3_lay_5 ?_
  refine V_getN (C := RX1) (T := TX1) (N := 6) (ci := 1) X hi_X3_lay_1 gO_1 rfl 4 (by decide) (List.mem_of_getElem? (i := 37) rfl) (fun _ h9 => h9) rfl dX3_lay_8 ?_
  refine V_iload_n X dX3_lay_11 rfl (q := 1) rfl ?_
  refine V_aload_n X dX3_lay_12 rfl (q := 0) rfl ?_
  refine V_get (C := RX3) (T := TX3) (N := 4) (ci := 3) X hi_X3_lay_3 gO_2 rfl 0 (by decide) lk_X3_lay_f25 (fun _ h9 => h9) rfl dX3_lay_13 ?_
  refine V_getN (C := RX1) (T := TX1) (N := 6) (ci := 1) X hi_X3_lay_1 gO_1 rfl 1 (by decide) (List.mem_of_getElem? (i := 28) rfl) (fun _ h9 => h9) rfl dX3_lay_16 ?_
  refine V_callVN_v X _ gO_9 rfl (As := [.ref (a 11), iv p0, .ref (b 1 1)]) (st := []) (c_X6_fill l (by first | exact Or.inl rfl | exact Or.inr rfl) (by first | exact Or.inl rfl | exact Or.inr rfl) arr_1_1 hw) ⟨va_cnB 3 X.2.2.2.1 gX3_lay_X6_fill_n41 rfl rfl rfl (X.2.2.2.2.1.2.1 _ (List.mem_of_getElem? (i := 96) rfl)) (X.2.2.2.1 _ lk_X3_lay_i6) (by decide +kernel) ⟨Nat.le_of_ble_eq_true rfl, Nat.le_of_ble_eq_true rfl⟩, X.2.2.2.1 _ lk_X3_lay_im41, X.2.2.2.1 _ lk_X3_lay_se41⟩ rfl (Nat.le_of_ble_eq_true rfl) ⟨Nat.le_of_ble_eq_true rfl, Nat.le_of_ble_eq_true rfl⟩ rfl dX3_lay_19 (fun M2 hw => ?_)
  refine V_aload_n X dX3_lay_22 rfl (q := 0) rfl ?_
  refine V_get (C := RX3) (T := TX3) (N := 4) (ci := 3) X hi_X3_lay_3 gO_2 rfl 2 (by decide) lk_X3_lay_f18 (fun _ h9 => h9) rfl dX3_lay_23 ?_
  refine V_aload_n X dX3_lay_26 rfl (q := 0) rfl ?_
  refine V_get (C := RX3) (T := TX3) (N := 4) (ci := 3) X hi_X3_lay_3 gO_2 rfl 0 (by decide) lk_X3_lay_f25 (fun _ h9 => h9) rfl dX3_lay_27 ?_
  refine V_getN (C := RX1) (T := TX1) (N := 6) (ci := 1) X hi_X3_lay_1 gO_1 rfl 5 (by decide) (List.mem_of_getElem? (i := 41) rfl) (fun _ h9 => h9) rfl dX3_lay_30 ?_
  refine V_iload_n X dX3_lay_33 rfl (q := 1) rfl ?_
  refine V_aload_n X dX3_lay_34 rfl (q := 0) rfl ?_
  refine V_get (C := RX3) (T := TX3) (N := 4) (ci := 3) X hi_X3_lay_3 gO_2 rfl 0 (by decide) lk_X3_lay_f25 (fun _ h9 => h9) rfl dX3_lay_35 ?_
  refine V_getN (C := RX1) (T := TX1) (N := 6) (ci := 1) X hi_X3_lay_1 gO_1 rfl 0 (by decide) (List.mem_of_getElem? (i := 25) rfl) (fun _ h9 => h9) rfl dX3_lay_38 ?_
  refine V_callVN_v X _ gO_10 rfl (As := [.ref (a 12), iv p0, .ref (b 1 0)]) (st := []) (c_X6_fill l (by first | exact Or.inl rfl | exact Or.inr rfl) (by first | exact Or.inl rfl | exact Or.inr rfl) arr_1_0 hw) ⟨va_cnB 3 X.2.2.2.1 gX3_lay_X6_fill_n41 rfl rfl rfl (X.2.2.2.2.1.2.1 _ (List.mem_of_getElem? (i := 96) rfl)) (X.2.2.2.1 _ lk_X3_lay_i6) (by decide +kernel) ⟨Nat.le_of_ble_eq_true rfl, Nat.le_of_ble_eq_true rfl⟩, X.2.2.2.1 _ lk_X3_lay_im41, X.2.2.2.1 _ lk_X3_lay_se41⟩ rfl (Nat.le_of_ble_eq_true rfl) ⟨Nat.le_of_ble_eq_true rfl, Nat.le_of_ble_eq_true rfl⟩ rfl dX3_lay_41 (fun M4 hw => ?_)
  refine V_iconst X dX3_lay_44 ?_
  refine V_istore_n (lv1 := [(0, .ref (a 2)), (1, iv p0), (2, iv 0)]) X [1, 2, 0] dX3_lay_45 rfl (by decide) rfl ?_
  refine V_sub (lv1 := [(0, .ref (a 2)), (2, iv 0)]) [0, 2] rfl ?_
  exact hJ46 _ _ hw
set_option maxHeartbeats 4000000 in
set_option maxRecDepth 100000 in
theorem c_X3_lay (l : Launch) {p0 : Int} {D : va_G} {g : GT} {A : Nat → Prop} {a : Nat → Nat} {b : Nat → Nat → Nat} {M : Mem} {Q : Mem → Prop} (hw : wp_X3_lay M p0 Q) : Met l yX3_lay wsX3_lay ({ frames := 2, cells := 0, slots := 0, locals := 46 } : Room) (cPc D g A a b M [.ref (a 2), iv p0]) (cQv D g A a b Q) 0 0 A := by
  refine Met.ofW (cc := cX3_lay) (maxL := 4) (ret := none) (by decide) rfl ?_
  intro p e s m args below meth c s₁ B hml hv
  obtain ⟨rfl, hP, hD, hG⟩ := hv
  have X : vC p s m _ meth c D g A RX3 wsX3_lay cX3_lay 4 := ⟨B.exec, B.bytes, findClass_of_methodNamed B.named, atoms_spec (ws := wsX3_lay) B.pre, hG, hml, B.notSynchronized⟩
  have hr := B.returns
  have hl := lv_entry ([.ref (a 2), iv p0]) (n := 4) (Nat.le_of_ble_eq_true rfl)
  rw [lg_entry_eq]
  generalize (lg_sl ([.ref (a 2), iv p0]) ++ List.replicate (4 - (lg_sl ([.ref (a 2), iv p0])).length) Slot.unset).toArray = ls at hl ⊢
  have hl : lv_has ls 4 [(0, .ref (a 2)), (1, iv p0)] := hl
  obtain ⟨I46, I59, hw, hI46, hI59⟩ := hw
  have K : ∀ n : Nat, (∀ (x2 : Int) (M : Mem), I46 n x2 M → vV p l e ({ frames := 2, cells := 0, slots := 0, locals := 46 } : Room) s m ([.ref (a 2), iv p0] : List Value).toArray below meth c D g A a b 4 0 0 (MQ below (cQv D g A a b Q) ([.ref (a 2), iv p0] : List Value).toArray s 0 0 A) M [(0, .ref (a 2)), (2, iv x2)] 46 []) ∧ (∀ (x2 : Int) (x3 : Int) (M : Mem), I59 n x2 x3 M → vV p l e ({ frames := 2, cells := 0, slots := 0, locals := 46 } : Room) s m ([.ref (a 2), iv p0] : List Value).toArray below meth c D g A a b 4 0 0 (MQ below (cQv D g A a b Q) ([.ref (a 2), iv p0] : List Value).toArray s 0 0 A) M [(0, .ref (a 2)), (2, iv x2), (3, iv x3)] 59 []) := by
    intro n
    induction n using Nat.strongRecOn with
    | ind n ih =>
      exact ⟨fun x2 M hh => wkh_X3_lay_46 X hr (fun _ _ ⟨n1, hn, hh⟩ => (ih n1 hn).1 _ _ hh) (fun _ _ _ ⟨n1, hn, hh⟩ => (ih n1 hn).2 _ _ _ hh) (hI46 n x2 M hh), fun x2 x3 M hh => wkh_X3_lay_59 X hr (fun _ _ ⟨n1, hn, hh⟩ => (ih n1 hn).1 _ _ hh) (fun _ _ _ ⟨n1, hn, hh⟩ => (ih n1 hn).2 _ _ _ hh) (hI59 n x2 x3 M hh)⟩
  exact wke_X3_lay X hr  (fun _ _ ⟨n1, hh⟩ => (K n1).1 _ _ hh) (fun _ _ _ ⟨n1, hh⟩ => (K n1).2 _ _ _ hh) hw s.heap [] ls hP hD va_S.rf hl

set_option maxRecDepth 20000 in
theorem ggX3_layPostorder_X3_lay : GoodIn wsX3_layPostorder wsX3_lay := goodIn_r _ [5, 6, 7, 8, 9, 10, 11, 12, 13, 14, 15, 16, 17, 18, 19, 20, 21, 22, 23, 24, 25, 26, 27, 28, 29, 30, 31, 32, 33, 34, 35, 36, 37, 38, 39, 40, 41, 42, 43, 44, 45, 46, 47, 48, 49, 50, 51, 52, 53, 54, 55, 56, 57, 58] (by decide +kernel) (by decide +kernel)
set_option maxRecDepth 20000 in
theorem gX3_layPostorder_X3_lay : GoodIn wsX3_layPostorder (wsV RX3 29 RX3 yX3_lay wsX3_lay) := goodIn_app (goodIn_of _ (by decide +kernel)) ggX3_layPostorder_X3_lay
theorem dX3_layPostorder_0 : decode cX3_layPostorder 0 = .ok (.aload_n 0, 1) := by decide +kernel
theorem dX3_layPostorder_1 : decode cX3_layPostorder 1 = .ok (.iconst 0, 1) := by decide +kernel
theorem dX3_layPostorder_2 : decode cX3_layPostorder 2 = .ok (.invokevirtual 29, 3) := by decide +kernel
theorem dX3_layPostorder_5 : decode cX3_layPostorder 5 = .ok (.return_, 1) := by decide +kernel
def wpe_X3_layPostorder (M : Mem) (Q : Mem → Prop) : Prop := wp_X3_lay M 0 (fun M2 => Q M2)
def wp_X3_layPostorder (M : Mem) (Q : Mem → Prop) : Prop := wpe_X3_layPostorder M Q
set_option maxHeartbeats 4000000 in
set_option maxRecDepth 100000 in
theorem wke_X3_layPostorder {p : Program} {l : Launch} {e : Env} {s : State} {m : MethodId} {args : Array Value} {below : List Frame} {meth : Method} {c : Code} {D : va_G} {g : GT} {A : Nat → Prop} {a : Nat → Nat} {b : Nat → Nat → Nat} (X : vC p s m args meth c D g A RX3 wsX3_layPostorder cX3_layPostorder 1) (hr : meth.sig.returnType = none) {M : Mem} {Q : Mem → Prop} (hw : wpe_X3_layPostorder M Q) : vV p l e ({ frames := 3, cells := 0, slots := 0, locals := 69 } : Room) s m args below meth c D g A a b 1 0 0 (MQ below (cQv D g A a b Q) args s 0 0 A) M [(0, .ref (a 2))] 0 [] := by
  unfold wpe_X3_layPostorder at hw
  refine V_aload_n X dX3_layPostorder_0 rfl (q := 0) rfl ?_
  refine V_iconst X dX3_layPostorder_1 ?_
  refine V_callV_v X _ gO_2 rfl (As := [iv 0]) (st := []) (c_X3_lay l hw) (cwV 1 X.2.2.2.1 gX3_layPostorder_X3_lay rfl rfl rfl (by decide +kernel) ⟨Nat.le_of_ble_eq_true rfl, Nat.le_of_ble_eq_true rfl⟩) rfl (Nat.le_of_ble_eq_true rfl) ⟨Nat.le_of_ble_eq_true rfl, Nat.le_of_ble_eq_true rfl⟩ rfl dX3_layPostorder_2 (fun M2 hw => ?_)
  exact V_vret X hr hw dX3_layPostorder_5
set_option maxHeartbeats 4000000 in
set_option maxRecDepth 100000 in
theorem c_X3_layPostorder (l : Launch) {D : va_G} {g : GT} {A : Nat → Prop} {a : Nat → Nat} {b : Nat → Nat → Nat} {M : Mem} {Q : Mem → Prop} (hw : wp_X3_layPostorder M Q) : Met l yX3_layPostorder wsX3_layPostorder ({ frames := 3, cells := 0, slots := 0, locals := 69 } : Room) (cPc D g A a b M [.ref (a 2)]) (cQv D g A a b Q) 0 0 A := by
  refine Met.ofW (cc := cX3_layPostorder) (maxL := 1) (ret := none) (by decide) rfl ?_
  intro p e s m args below meth c s₁ B hml hv
  obtain ⟨rfl, hP, hD, hG⟩ := hv
  have X : vC p s m _ meth c D g A RX3 wsX3_layPostorder cX3_layPostorder 1 := ⟨B.exec, B.bytes, findClass_of_methodNamed B.named, atoms_spec (ws := wsX3_layPostorder) B.pre, hG, hml, B.notSynchronized⟩
  have hr := B.returns
  have hl := lv_entry ([.ref (a 2)]) (n := 1) (Nat.le_of_ble_eq_true rfl)
  rw [lg_entry_eq]
  generalize (lg_sl ([.ref (a 2)]) ++ List.replicate (1 - (lg_sl ([.ref (a 2)])).length) Slot.unset).toArray = ls at hl ⊢
  have hl : lv_has ls 1 [(0, .ref (a 2))] := hl
  exact wke_X3_layPostorder X hr  hw s.heap [] ls hP hD va_S.rf hl

set_option maxRecDepth 20000 in
theorem ggX3_layPreorderBackwards_X3_lay : GoodIn wsX3_layPreorderBackwards wsX3_lay := goodIn_r _ [5, 6, 7, 8, 9, 10, 11, 12, 13, 14, 15, 16, 17, 18, 19, 20, 21, 22, 23, 24, 25, 26, 27, 28, 29, 30, 31, 32, 33, 34, 35, 36, 37, 38, 39, 40, 41, 42, 43, 44, 45, 46, 47, 48, 49, 50, 51, 52, 53, 54, 55, 56, 57, 58] (by decide +kernel) (by decide +kernel)
set_option maxRecDepth 20000 in
theorem gX3_layPreorderBackwards_X3_lay : GoodIn wsX3_layPreorderBackwards (wsV RX3 29 RX3 yX3_lay wsX3_lay) := goodIn_app (goodIn_of _ (by decide +kernel)) ggX3_layPreorderBackwards_X3_lay
theorem dX3_layPreorderBackwards_0 : decode cX3_layPreorderBackwards 0 = .ok (.aload_n 0, 1) := by decide +kernel
theorem dX3_layPreorderBackwards_1 : decode cX3_layPreorderBackwards 1 = .ok (.iconst 1, 1) := by decide +kernel
theorem dX3_layPreorderBackwards_2 : decode cX3_layPreorderBackwards 2 = .ok (.invokevirtual 29, 3) := by decide +kernel
theorem dX3_layPreorderBackwards_5 : decode cX3_layPreorderBackwards 5 = .ok (.return_, 1) := by decide +kernel
def wpe_X3_layPreorderBackwards (M : Mem) (Q : Mem → Prop) : Prop := wp_X3_lay M 1 (fun M2 => Q M2)
def wp_X3_layPreorderBackwards (M : Mem) (Q : Mem → Prop) : Prop := wpe_X3_layPreorderBackwards M Q
set_option maxHeartbeats 4000000 in
set_option maxRecDepth 100000 in
theorem wke_X3_layPreorderBackwards {p : Program} {l : Launch} {e : Env} {s : State} {m : MethodId} {args : Array Value} {below : List Frame} {meth : Method} {c : Code} {D : va_G} {g : GT} {A : Nat → Prop} {a : Nat → Nat} {b : Nat → Nat → Nat} (X : vC p s m args meth c D g A RX3 wsX3_layPreorderBackwards cX3_layPreorderBackwards 1) (hr : meth.sig.returnType = none) {M : Mem} {Q : Mem → Prop} (hw : wpe_X3_layPreorderBackwards M Q) : vV p l e ({ frames := 3, cells := 0, slots := 0, locals := 69 } : Room) s m args below meth c D g A a b 1 0 0 (MQ below (cQv D g A a b Q) args s 0 0 A) M [(0, .ref (a 2))] 0 [] := by
  unfold wpe_X3_layPreorderBackwards at hw
  refine V_aload_n X dX3_layPreorderBackwards_0 rfl (q := 0) rfl ?_
  refine V_iconst X dX3_layPreorderBackwards_1 ?_
  refine V_callV_v X _ gO_2 rfl (As := [iv 1]) (st := []) (c_X3_lay l hw) (cwV 1 X.2.2.2.1 gX3_layPreorderBackwards_X3_lay rfl rfl rfl (by decide +kernel) ⟨Nat.le_of_ble_eq_true rfl, Nat.le_of_ble_eq_true rfl⟩) rfl (Nat.le_of_ble_eq_true rfl) ⟨Nat.le_of_ble_eq_true rfl, Nat.le_of_ble_eq_true rfl⟩ rfl dX3_layPreorderBackwards_2 (fun M2 hw => ?_)
  exact V_vret X hr hw dX3_layPreorderBackwards_5
set_option maxHeartbeats 4000000 in
set_option maxRecDepth 100000 in
theorem c_X3_layPreorderBackwards (l : Launch) {D : va_G} {g : GT} {A : Nat → Prop} {a : Nat → Nat} {b : Nat → Nat → Nat} {M : Mem} {Q : Mem → Prop} (hw : wp_X3_layPreorderBackwards M Q) : Met l yX3_layPreorderBackwards wsX3_layPreorderBackwards ({ frames := 3, cells := 0, slots := 0, locals := 69 } : Room) (cPc D g A a b M [.ref (a 2)]) (cQv D g A a b Q) 0 0 A := by
  refine Met.ofW (cc := cX3_layPreorderBackwards) (maxL := 1) (ret := none) (by decide) rfl ?_
  intro p e s m args below meth c s₁ B hml hv
  obtain ⟨rfl, hP, hD, hG⟩ := hv
  have X : vC p s m _ meth c D g A RX3 wsX3_layPreorderBackwards cX3_layPreorderBackwards 1 := ⟨B.exec, B.bytes, findClass_of_methodNamed B.named, atoms_spec (ws := wsX3_layPreorderBackwards) B.pre, hG, hml, B.notSynchronized⟩
  have hr := B.returns
  have hl := lv_entry ([.ref (a 2)]) (n := 1) (Nat.le_of_ble_eq_true rfl)
  rw [lg_entry_eq]
  generalize (lg_sl ([.ref (a 2)]) ++ List.replicate (1 - (lg_sl ([.ref (a 2)])).length) Slot.unset).toArray = ls at hl ⊢
  have hl : lv_has ls 1 [(0, .ref (a 2))] := hl
  exact wke_X3_layPreorderBackwards X hr  hw s.heap [] ls hP hD va_S.rf hl

set_option maxRecDepth 20000 in
theorem ggX0_forget_J7_fill_53178 : GoodIn wsX0_forget wsJ7_fill_53178 := goodIn_r _ [5] (by decide +kernel) (by decide +kernel)
set_option maxRecDepth 20000 in
theorem gX0_forget_J7_fill_53178 : GoodIn wsX0_forget (va_wsS RX0 19 yJ7_fill_53178 wsJ7_fill_53178) := goodIn_app (goodIn_of _ (by decide +kernel)) ggX0_forget_J7_fill_53178
theorem dX0_forget_0 : decode cX0_forget 0 = .ok (.aload_n 0, 1) := by decide +kernel
theorem dX0_forget_1 : decode cX0_forget 1 = .ok (.getfield 11, 3) := by decide +kernel
theorem dX0_forget_4 : decode cX0_forget 4 = .ok (.iconst (-1), 1) := by decide +kernel
theorem dX0_forget_5 : decode cX0_forget 5 = .ok (.invokestatic 19, 3) := by decide +kernel
theorem dX0_forget_8 : decode cX0_forget 8 = .ok (.return_, 1) := by decide +kernel
theorem lk_X0_forget_f11 : Cond.fieldLink RX0 11 "TreeComparer$ForestTable" "known" "[I" ∈ wsX0_forget := by decide +kernel
theorem hi_X0_forget_0 : ∀ w ∈ u_ws RX0 TX0 2, w ∈ wsX0_forget := by decide +kernel
def wpe_X0_forget (M : Mem) (Q : Mem → Prop) : Prop := wp_J7_fill_53178 M 4 1 6084 (-1) (fun M2 => Q M2)
def wp_X0_forget (M : Mem) (Q : Mem → Prop) : Prop := wpe_X0_forget M Q
set_option maxHeartbeats 4000000 in
set_option maxRecDepth 100000 in
theorem wke_X0_forget {p : Program} {l : Launch} {e : Env} {s : State} {m : MethodId} {args : Array Value} {below : List Frame} {meth : Method} {c : Code} {D : va_G} {g : GT} {A : Nat → Prop} {a : Nat → Nat} {b : Nat → Nat → Nat} (X : vC p s m args meth c D g A RX0 wsX0_forget cX0_forget 1) (hr : meth.sig.returnType = none) {M : Mem} {Q : Mem → Prop} (hw : wpe_X0_forget M Q) : vV p l e ({ frames := 1, cells := 0, slots := 0, locals := 23 } : Room) s m args below meth c D g A a b 1 0 0 (MQ below (cQv D g A a b Q) args s 0 0 A) M [(0, .ref (a 4))] 0 [] := by
  unfold wpe_X0_forget at hw
  refine V_aload_n X dX0_forget_0 rfl (q := 0) rfl ?_
  refine V_get (C := RX0) (T := TX0) (N := 2) (ci := 0) X hi_X0_forget_0 gO_4 rfl 1 (by decide) lk_X0_forget_f11 (fun _ h9 => h9) rfl dX0_forget_1 ?_
  refine V_iconst X dX0_forget_4 ?_
  refine V_callS_v X _ (As := [.ref (b 4 1), iv (-1)]) (st := []) (c_J7_fill_53178 l arr_4_1 hw) (va_cwS 2 X.2.2.2.1 gX0_forget_J7_fill_53178 rfl rfl rfl (by decide +kernel) ⟨Nat.le_of_ble_eq_true rfl, Nat.le_of_ble_eq_true rfl⟩) rfl (Nat.le_of_ble_eq_true rfl) ⟨Nat.le_of_ble_eq_true rfl, Nat.le_of_ble_eq_true rfl⟩ rfl dX0_forget_5 (fun M2 hw => ?_)
  exact V_vret X hr hw dX0_forget_8
set_option maxHeartbeats 4000000 in
set_option maxRecDepth 100000 in
theorem c_X0_forget (l : Launch) {D : va_G} {g : GT} {A : Nat → Prop} {a : Nat → Nat} {b : Nat → Nat → Nat} {M : Mem} {Q : Mem → Prop} (hw : wp_X0_forget M Q) : Met l yX0_forget wsX0_forget ({ frames := 1, cells := 0, slots := 0, locals := 23 } : Room) (cPc D g A a b M [.ref (a 4)]) (cQv D g A a b Q) 0 0 A := by
  refine Met.ofW (cc := cX0_forget) (maxL := 1) (ret := none) (by decide) rfl ?_
  intro p e s m args below meth c s₁ B hml hv
  obtain ⟨rfl, hP, hD, hG⟩ := hv
  have X : vC p s m _ meth c D g A RX0 wsX0_forget cX0_forget 1 := ⟨B.exec, B.bytes, findClass_of_methodNamed B.named, atoms_spec (ws := wsX0_forget) B.pre, hG, hml, B.notSynchronized⟩
  have hr := B.returns
  have hl := lv_entry ([.ref (a 4)]) (n := 1) (Nat.le_of_ble_eq_true rfl)
  rw [lg_entry_eq]
  generalize (lg_sl ([.ref (a 4)]) ++ List.replicate (1 - (lg_sl ([.ref (a 4)])).length) Slot.unset).toArray = ls at hl ⊢
  have hl : lv_has ls 1 [(0, .ref (a 4))] := hl
  exact wke_X0_forget X hr  hw s.heap [] ls hP hD va_S.rf hl

theorem dX10_needIndex_0 : decode cX10_needIndex 0 = .ok (.iload_n 0, 1) := by decide +kernel
theorem dX10_needIndex_1 : decode cX10_needIndex 1 = .ok (.ifCond .lt 8, 3) := by decide +kernel
theorem dX10_needIndex_4 : decode cX10_needIndex 4 = .ok (.iload_n 0, 1) := by decide +kernel
theorem dX10_needIndex_5 : decode cX10_needIndex 5 = .ok (.iload_n 1, 1) := by decide +kernel
theorem dX10_needIndex_6 : decode cX10_needIndex 6 = .ok (.if_icmp .lt 14, 3) := by decide +kernel
theorem dX10_needIndex_9 : decode cX10_needIndex 9 = .ok (.new 269, 3) := by decide +kernel
theorem dX10_needIndex_12 : decode cX10_needIndex 12 = .ok (.dup, 1) := by decide +kernel
theorem dX10_needIndex_13 : decode cX10_needIndex 13 = .ok (.ldc_w 271, 3) := by decide +kernel
theorem dX10_needIndex_16 : decode cX10_needIndex 16 = .ok (.invokespecial 273, 3) := by decide +kernel
theorem dX10_needIndex_19 : decode cX10_needIndex 19 = .ok (.athrow, 1) := by decide +kernel
theorem dX10_needIndex_20 : decode cX10_needIndex 20 = .ok (.return_, 1) := by decide +kernel
theorem lk_X10_needIndex_k269 : Cond.classLink RX10 269 "java/lang/IndexOutOfBoundsException" ∈ wsX10_needIndex := by decide +kernel
theorem lk_X10_needIndex_ie269 : Cond.initialized "java/lang/IndexOutOfBoundsException" ∈ wsX10_needIndex := by decide +kernel
theorem at_X10_needIndex_273 {args : Array Value} {s : State} (h1 : ∀ w ∈ wsX10_needIndex, w.before args s = true) (h2 : ∀ w ∈ NWs, va_Nw w s) : ∀ w ∈ vx_atS RX10 273 "java/lang/IndexOutOfBoundsException" ["java/lang/RuntimeException", "java/lang/Exception"], w.before args s = true := atS_of h1 h2 (by decide +kernel) (by decide +kernel)
def wpj_X10_needIndex_9 (p0 : Int) (p1 : Int) (M : Mem) (Q : Mem → Prop) (XQ : String → Mem → Prop) : Prop := XQ "java/lang/IndexOutOfBoundsException" M
def wpe_X10_needIndex (p0 : Int) (p1 : Int) (M : Mem) (Q : Mem → Prop) (XQ : String → Mem → Prop) : Prop := inR p0 ∧ ((p0 < 0 → wpj_X10_needIndex_9 p0 p1 M Q XQ) ∧ (¬ (p0 < 0) → inR p0 ∧ inR p1 ∧ ((p0 < p1 → Q M) ∧ (¬ (p0 < p1) → wpj_X10_needIndex_9 p0 p1 M Q XQ))))
def wp_X10_needIndex (M : Mem) (p0 : Int) (p1 : Int) (Q : Mem → Prop) (XQ : String → Mem → Prop) : Prop := wpe_X10_needIndex p0 p1 M Q XQ
set_option maxHeartbeats 4000000 in
set_option maxRecDepth 100000 in
theorem wkj_X10_needIndex_9 {p : Program} {l : Launch} {e : Env} {s : State} {m : MethodId} {args : Array Value} {below : List Frame} {meth : Method} {c : Code} {D : va_G} {g : GT} {A : Nat → Prop} {a : Nat → Nat} {b : Nat → Nat → Nat} (X : vC p s m args meth c D g A RX10 wsX10_needIndex cX10_needIndex 2) (hr : meth.sig.returnType = none) {p0 : Int} {p1 : Int} (hlt : l.stackTraces = false) (htab : ∀ x ∈ c.exceptionTable.toList, False) {M : Mem} {Q : Mem → Prop} {XQ : String → Mem → Prop} (hw : wpj_X10_needIndex_9 p0 p1 M Q XQ) : vV p l e ({ frames := 6, cells := 1, slots := 6, locals := 90 } : Room) s m args below meth c D g A a b 2 0 0 (vx_MQ below (cQv D g A a b Q) (cX D g A a b XQ) args s 1 6 A) M [] 9 [] := by
  unfold wpj_X10_needIndex_9 at hw
  exact V_throwSW (cls := "java/lang/IndexOutOfBoundsException") (text := "there is no such tree, node, kind, place or step") (names := ["java/lang/RuntimeException", "java/lang/Exception"]) X hlt lk_X10_needIndex_k269 lk_X10_needIndex_ie269 (X.2.2.2.2.1.2.2.2.2.2 (RX10, 271, "there is no such tree, node, kind, place or step") (by decide +kernel)) (at_X10_needIndex_273 X.2.2.2.1 X.2.2.2.2.1.2.1) htab (by decide +kernel) (Nat.le_of_ble_eq_true rfl) (Nat.le_of_ble_eq_true rfl) (Nat.le_of_ble_eq_true rfl) (Nat.le_of_ble_eq_true rfl) (Nat.le_of_ble_eq_true rfl) (Nat.le_of_ble_eq_true rfl) hw dX10_needIndex_9 dX10_needIndex_12 dX10_needIndex_13 dX10_needIndex_16 dX10_needIndex_19
set_option maxHeartbeats 4000000 in
set_option maxRecDepth 100000 in
theorem wke_X10_needIndex {p : Program} {l : Launch} {e : Env} {s : State} {m : MethodId} {args : Array Value} {below : List Frame} {meth : Method} {c : Code} {D : va_G} {g : GT} {A : Nat → Prop} {a : Nat → Nat} {b : Nat → Nat → Nat} (X : vC p s m args meth c D g A RX10 wsX10_needIndex cX10_needIndex 2) (hr : meth.sig.returnType = none) {p0 : Int} {p1 : Int} (hlt : l.stackTraces = false) (htab : ∀ x ∈ c.exceptionTable.toList, False) {M : Mem} {Q : Mem → Prop} {XQ : String → Mem → Prop} (hw : wpe_X10_needIndex p0 p1 M Q XQ) : vV p l e ({ frames := 6, cells := 1, slots := 6, locals := 90 } : Room) s m args below meth c D g A a b 2 0 0 (vx_MQ below (cQv D g A a b Q) (cX D g A a b XQ) args s 1 6 A) M [(0, iv p0), (1, iv p1)] 0 [] := by
  unfold wpe_X10_needIndex at hw
  refine V_iload_n X dX10_needIndex_0 rfl (q := 0) rfl ?_
  obtain ⟨h1, hw⟩ := hw
  refine V_if_lt (tgt := 9) X h1 dX10_needIndex_1 (by decide) (fun q2 => ?_) (fun q2 => ?_)
  · have hw := hw.1 q2
    refine V_sub (lv1 := []) [] rfl ?_
    exact wkj_X10_needIndex_9 X hr hlt htab hw
  · have hw := hw.2 q2
    refine V_iload_n X dX10_needIndex_4 rfl (q := 0) rfl ?_
    refine V_iload_n X dX10_needIndex_5 rfl (q := 1) rfl ?_
    obtain ⟨h3, h4, hw⟩ := hw
    refine V_icmp_lt (tgt := 20) X h3 h4 dX10_needIndex_6 (by decide) (fun q5 => ?_) (fun q5 => ?_)
    · have hw := hw.1 q5
      exact V_xret (Nat.le_of_ble_eq_true rfl) (Nat.le_of_ble_eq_true rfl) (V_vret X hr hw dX10_needIndex_20)
    · have hw := hw.2 q5
      refine V_sub (lv1 := []) [] rfl ?_
      exact wkj_X10_needIndex_9 X hr hlt htab hw
set_option maxHeartbeats 4000000 in
set_option maxRecDepth 100000 in
theorem c_X10_needIndex (l : Launch) {p0 : Int} {p1 : Int} (hlt : l.stackTraces = false) {D : va_G} {g : GT} {A : Nat → Prop} {a : Nat → Nat} {b : Nat → Nat → Nat} {M : Mem} {Q : Mem → Prop} {XQ : String → Mem → Prop} (hw : wp_X10_needIndex M p0 p1 Q XQ) : vx_Met l yX10_needIndex wsX10_needIndex ({ frames := 6, cells := 1, slots := 6, locals := 90 } : Room) (cPc D g A a b M [iv p0, iv p1]) (cQv D g A a b Q) (cX D g A a b XQ) 1 6 A := by
  refine vx_ofW (cc := cX10_needIndex) (maxL := 2) (ret := none) (by decide) rfl ?_
  intro p e s m args below meth c s₁ B hml htab hv
  obtain ⟨rfl, hP, hD, hG⟩ := hv
  have X : vC p s m _ meth c D g A RX10 wsX10_needIndex cX10_needIndex 2 := ⟨B.exec, B.bytes, findClass_of_methodNamed B.named, atoms_spec (ws := wsX10_needIndex) B.pre, hG, hml, B.notSynchronized⟩
  have hr := B.returns
  have hl := lv_entry ([iv p0, iv p1]) (n := 2) (Nat.le_of_ble_eq_true rfl)
  rw [lg_entry_eq]
  generalize (lg_sl ([iv p0, iv p1]) ++ List.replicate (2 - (lg_sl ([iv p0, iv p1])).length) Slot.unset).toArray = ls at hl ⊢
  have hl : lv_has ls 2 [(0, iv p0), (1, iv p1)] := hl
  exact wke_X10_needIndex X hr hlt htab hw s.heap [] ls hP hD va_S.rf hl

set_option maxRecDepth 20000 in
theorem ggX10_treeNumbered_X10_needIndex : GoodIn wsX10_treeNumbered wsX10_needIndex := goodIn_ca (goodIn_r _ [5, 6, 7] (by decide +kernel) (by decide +kernel)) (goodIn_sub (fun _ h => List.mem_cons_of_mem _ (List.mem_append_right _ h)) (by decide +kernel))
set_option maxRecDepth 20000 in
theorem gX10_treeNumbered_X10_needIndex : GoodIn wsX10_treeNumbered (va_wsS RX10 81 yX10_needIndex wsX10_needIndex) := goodIn_app (goodIn_of _ (by decide +kernel)) ggX10_treeNumbered_X10_needIndex
theorem dX10_treeNumbered_0 : decode cX10_treeNumbered 0 = .ok (.iload_n 1, 1) := by decide +kernel
theorem dX10_treeNumbered_1 : decode cX10_treeNumbered 1 = .ok (.iconst 2, 1) := by decide +kernel
theorem dX10_treeNumbered_2 : decode cX10_treeNumbered 2 = .ok (.invokestatic 81, 3) := by decide +kernel
theorem dX10_treeNumbered_5 : decode cX10_treeNumbered 5 = .ok (.iload_n 1, 1) := by decide +kernel
theorem dX10_treeNumbered_6 : decode cX10_treeNumbered 6 = .ok (.ifCond .ne 13, 3) := by decide +kernel
theorem dX10_treeNumbered_9 : decode cX10_treeNumbered 9 = .ok (.aload_n 0, 1) := by decide +kernel
theorem dX10_treeNumbered_10 : decode cX10_treeNumbered 10 = .ok (.getfield 10, 3) := by decide +kernel
theorem dX10_treeNumbered_13 : decode cX10_treeNumbered 13 = .ok (.getfield 123, 3) := by decide +kernel
theorem dX10_treeNumbered_16 : decode cX10_treeNumbered 16 = .ok (.goto 10, 3) := by decide +kernel
theorem dX10_treeNumbered_19 : decode cX10_treeNumbered 19 = .ok (.aload_n 0, 1) := by decide +kernel
theorem dX10_treeNumbered_20 : decode cX10_treeNumbered 20 = .ok (.getfield 10, 3) := by decide +kernel
theorem dX10_treeNumbered_23 : decode cX10_treeNumbered 23 = .ok (.getfield 127, 3) := by decide +kernel
theorem dX10_treeNumbered_26 : decode cX10_treeNumbered 26 = .ok (.areturn, 1) := by decide +kernel
theorem lk_X10_treeNumbered_f10 : Cond.fieldLink RX10 10 "TreeComparer" "given" "LTreeComparer$Given;" ∈ wsX10_treeNumbered := by decide +kernel
theorem hi_X10_treeNumbered_10 : ∀ w ∈ u_ws RX10 TX10 9, w ∈ wsX10_treeNumbered := by decide +kernel
theorem hi_X10_treeNumbered_1 : ∀ w ∈ u_ws RX1 TX1 6, w ∈ wsX10_treeNumbered := by decide +kernel
def wpe_X10_treeNumbered (p0 : Int) (M : Mem) (Q : Nat → Mem → Prop) (XQ : String → Mem → Prop) : Prop := wp_X10_needIndex M p0 2 (fun M2 => inR p0 ∧ ((p0 ≠ 0 → Q 12 M2) ∧ (¬ (p0 ≠ 0) → Q 11 M2))) XQ
def wp_X10_treeNumbered (M : Mem) (p0 : Int) (Q : Nat → Mem → Prop) (XQ : String → Mem → Prop) : Prop := wpe_X10_treeNumbered p0 M Q XQ
set_option maxHeartbeats 4000000 in
set_option maxRecDepth 100000 in
theorem wke_X10_treeNumbered {p : Program} {l : Launch} {e : Env} {s : State} {m : MethodId} {args : Array Value} {below : List Frame} {meth : Method} {c : Code} {D : va_G} {g : GT} {A : Nat → Prop} {a : Nat → Nat} {b : Nat → Nat → Nat} (X : vC p s m args meth c D g A RX10 wsX10_treeNumbered cX10_treeNumbered 2) (hr : meth.sig.returnType = (some (.object "TreeComparer$Tree"))) {p0 : Int} (hlt : l.stackTraces = false) (htab : ∀ x ∈ c.exceptionTable.toList, False) {M : Mem} {Q : Nat → Mem → Prop} {XQ : String → Mem → Prop} (hw : wpe_X10_treeNumbered p0 M Q XQ) : vV p l e ({ frames := 7, cells := 1, slots := 6, locals := 111 } : Room) s m args below meth c D g A a b 2 0 0 (vx_MQ below (cQr D g A a b Q) (cX D g A a b XQ) args s 1 6 A) M [(0, .ref (a 0)), (1, iv p0)] 0 [] := by
  unfold wpe_X10_treeNumbered at hw
  refine V_iload_n X dX10_treeNumbered_0 rfl (q := 1) rfl ?_
  refine V_iconst X dX10_treeNumbered_1 ?_
  refine V_callxS_v X _ _ (As := [iv p0, iv 2]) (st := []) (c_X10_needIndex l hlt hw) (va_cwS 2 X.2.2.2.1 gX10_treeNumbered_X10_needIndex rfl rfl rfl (by decide +kernel) ⟨Nat.le_of_ble_eq_true rfl, Nat.le_of_ble_eq_true rfl⟩) rfl (Nat.le_of_ble_eq_true rfl) ⟨Nat.le_of_ble_eq_true rfl, Nat.le_of_ble_eq_true rfl⟩ rfl dX10_treeNumbered_2 (fun E ce q9 M9 H9 locs9 ls9 hx9 hP9 hD9 hS9 hl9 h91 h92 h93 => V_xout X htab (Nat.le_of_ble_eq_true rfl) (Nat.le_of_ble_eq_true rfl) hx9 hP9 hD9 hS9 h91 h92 h93) (fun M2 hw => ?_)
  refine V_iload_n X dX10_treeNumbered_5 rfl (q := 1) rfl ?_
  obtain ⟨h3, hw⟩ := hw
  refine V_if_ne (tgt := 19) X h3 dX10_treeNumbered_6 (by decide) (fun q4 => ?_) (fun q4 => ?_)
  · have hw := hw.1 q4
    refine V_aload_n X dX10_treeNumbered_19 rfl (q := 0) rfl ?_
    refine V_get (C := RX10) (T := TX10) (N := 9) (ci := 10) X hi_X10_treeNumbered_10 gO_0 rfl 0 (by decide) lk_X10_treeNumbered_f10 (fun _ h9 => h9) rfl dX10_treeNumbered_20 ?_
    refine V_getN (C := RX1) (T := TX1) (N := 6) (ci := 1) X hi_X10_treeNumbered_1 gO_1 rfl 5 (by decide) (List.mem_of_getElem? (i := 42) rfl) (fun _ h9 => h9) rfl dX10_treeNumbered_23 ?_
    exact V_xret (Nat.le_of_ble_eq_true rfl) (Nat.le_of_ble_eq_true rfl) (V_aret X hr hw dX10_treeNumbered_26)
  · have hw := hw.2 q4
    refine V_aload_n X dX10_treeNumbered_9 rfl (q := 0) rfl ?_
    refine V_get (C := RX10) (T := TX10) (N := 9) (ci := 10) X hi_X10_treeNumbered_10 gO_0 rfl 0 (by decide) lk_X10_treeNumbered_f10 (fun _ h9 => h9) rfl dX10_treeNumbered_10 ?_
    refine V_getN (C := RX1) (T := TX1) (N := 6) (ci := 1) X hi_X10_treeNumbered_1 gO_1 rfl 4 (by decide) (List.mem_of_getElem? (i := 38) rfl) (fun _ h9 => h9) rfl dX10_treeNumbered_13 ?_
    refine V_goto (tgt := 26) X dX10_treeNumbered_16 (by decide) ?_
    exact V_xret (Nat.le_of_ble_eq_true rfl) (Nat.le_of_ble_eq_true rfl) (V_aret X hr hw dX10_treeNumbered_26)
set_option maxHeartbeats 4000000 in
set_option maxRecDepth 100000 in
theorem c_X10_treeNumbered (l : Launch) {p0 : Int} (hlt : l.stackTraces = false) {D : va_G} {g : GT} {A : Nat → Prop} {a : Nat → Nat} {b : Nat → Nat → Nat} {M : Mem} {Q : Nat → Mem → Prop} {XQ : String → Mem → Prop} (hw : wp_X10_treeNumbered M p0 Q XQ) : vx_Met l yX10_treeNumbered wsX10_treeNumbered ({ frames := 7, cells := 1, slots := 6, locals := 111 } : Room) (cPc D g A a b M [.ref (a 0), iv p0]) (cQr D g A a b Q) (cX D g A a b XQ) 1 6 A := by
  refine vx_ofW (cc := cX10_treeNumbered) (maxL := 2) (ret := (some (.object "TreeComparer$Tree"))) (by decide) rfl ?_
  intro p e s m args below meth c s₁ B hml htab hv
  obtain ⟨rfl, hP, hD, hG⟩ := hv
  have X : vC p s m _ meth c D g A RX10 wsX10_treeNumbered cX10_treeNumbered 2 := ⟨B.exec, B.bytes, findClass_of_methodNamed B.named, atoms_spec (ws := wsX10_treeNumbered) B.pre, hG, hml, B.notSynchronized⟩
  have hr := B.returns
  have hl := lv_entry ([.ref (a 0), iv p0]) (n := 2) (Nat.le_of_ble_eq_true rfl)
  rw [lg_entry_eq]
  generalize (lg_sl ([.ref (a 0), iv p0]) ++ List.replicate (2 - (lg_sl ([.ref (a 0), iv p0])).length) Slot.unset).toArray = ls at hl ⊢
  have hl : lv_has ls 2 [(0, .ref (a 0)), (1, iv p0)] := hl
  exact wke_X10_treeNumbered X hr hlt htab hw s.heap [] ls hP hD va_S.rf hl

set_option maxRecDepth 20000 in
theorem ggX10_nodes_X10_treeNumbered : GoodIn wsX10_nodes wsX10_treeNumbered := goodIn_ca (goodIn_r _ [5, 6, 7, 8, 4, 9, 10, 11, 21, 22, 23, 24, 25, 26, 27, 28, 29, 30, 31, 32, 33, 34, 35] (by decide +kernel) (by decide +kernel)) (goodIn_sub (fun _ h => List.mem_cons_of_mem _ (List.mem_append_right _ h)) (by decide +kernel))
set_option maxRecDepth 20000 in
theorem gX10_nodes_X10_treeNumbered : GoodIn wsX10_nodes (wsV RX10 77 RX10 yX10_treeNumbered wsX10_treeNumbered) := goodIn_app (goodIn_of _ (by decide +kernel)) ggX10_nodes_X10_treeNumbered
theorem dX10_nodes_0 : decode cX10_nodes 0 = .ok (.aload_n 0, 1) := by decide +kernel
theorem dX10_nodes_1 : decode cX10_nodes 1 = .ok (.iload_n 1, 1) := by decide +kernel
theorem dX10_nodes_2 : decode cX10_nodes 2 = .ok (.invokevirtual 77, 3) := by decide +kernel
theorem dX10_nodes_5 : decode cX10_nodes 5 = .ok (.getfield 88, 3) := by decide +kernel
theorem dX10_nodes_8 : decode cX10_nodes 8 = .ok (.ireturn, 1) := by decide +kernel
theorem hi_X10_nodes_9 : ∀ w ∈ u_ws RX9 TX9 9, w ∈ wsX10_nodes := by decide +kernel
def wpe_X10_nodes (p0 : Int) (M : Mem) (Q : Int → Mem → Prop) (XQ : String → Mem → Prop) : Prop := wp_X10_treeNumbered M p0 (fun y1 M2 => isT y1 ∧ Q ((M2 y1 8 0)) M2) XQ
def wp_X10_nodes (M : Mem) (p0 : Int) (Q : Int → Mem → Prop) (XQ : String → Mem → Prop) : Prop := wpe_X10_nodes p0 M Q XQ
set_option maxHeartbeats 4000000 in
set_option maxRecDepth 100000 in
theorem wke_X10_nodes {p : Program} {l : Launch} {e : Env} {s : State} {m : MethodId} {args : Array Value} {below : List Frame} {meth : Method} {c : Code} {D : va_G} {g : GT} {A : Nat → Prop} {a : Nat → Nat} {b : Nat → Nat → Nat} (X : vC p s m args meth c D g A RX10 wsX10_nodes cX10_nodes 2) (hr : meth.sig.returnType = (some .int)) {p0 : Int} (hlt : l.stackTraces = false) (htab : ∀ x ∈ c.exceptionTable.toList, False) {M : Mem} {Q : Int → Mem → Prop} {XQ : String → Mem → Prop} (hw : wpe_X10_nodes p0 M Q XQ) : vV p l e ({ frames := 8, cells := 1, slots := 6, locals := 132 } : Room) s m args below meth c D g A a b 2 0 0 (vx_MQ below (cQi D g A a b Q) (cX D g A a b XQ) args s 1 6 A) M [(0, .ref (a 0)), (1, iv p0)] 0 [] := by
  unfold wpe_X10_nodes at hw
  refine V_aload_n X dX10_nodes_0 rfl (q := 0) rfl ?_
  refine V_iload_n X dX10_nodes_1 rfl (q := 1) rfl ?_
  refine V_callxV_r X _ _ gO_0 rfl (As := [iv p0]) (st := []) (c_X10_treeNumbered l hlt hw) (cwV 1 X.2.2.2.1 gX10_nodes_X10_treeNumbered rfl rfl rfl (by decide +kernel) ⟨Nat.le_of_ble_eq_true rfl, Nat.le_of_ble_eq_true rfl⟩) rfl (Nat.le_of_ble_eq_true rfl) ⟨Nat.le_of_ble_eq_true rfl, Nat.le_of_ble_eq_true rfl⟩ rfl dX10_nodes_2 (fun E ce q9 M9 H9 locs9 ls9 hx9 hP9 hD9 hS9 hl9 h91 h92 h93 => V_xout X htab (Nat.le_of_ble_eq_true rfl) (Nat.le_of_ble_eq_true rfl) hx9 hP9 hD9 hS9 h91 h92 h93) (fun y1 M2 hw => ?_)
  obtain ⟨hy1, hw⟩ := hw
  refine V_getN (C := RX9) (T := TX9) (N := 9) (ci := 9) X hi_X10_nodes_9 (gTO hy1) rfl 8 (by decide) (List.mem_of_getElem? (i := 20) rfl) (fun _ h9 => h9) rfl dX10_nodes_5 ?_
  exact V_xret (Nat.le_of_ble_eq_true rfl) (Nat.le_of_ble_eq_true rfl) (V_iret X hr hw dX10_nodes_8)
set_option maxHeartbeats 4000000 in
set_option maxRecDepth 100000 in
theorem c_X10_nodes (l : Launch) {p0 : Int} (hlt : l.stackTraces = false) {D : va_G} {g : GT} {A : Nat → Prop} {a : Nat → Nat} {b : Nat → Nat → Nat} {M : Mem} {Q : Int → Mem → Prop} {XQ : String → Mem → Prop} (hw : wp_X10_nodes M p0 Q XQ) : vx_Met l yX10_nodes wsX10_nodes ({ frames := 8, cells := 1, slots := 6, locals := 132 } : Room) (cPc D g A a b M [.ref (a 0), iv p0]) (cQi D g A a b Q) (cX D g A a b XQ) 1 6 A := by
  refine vx_ofW (cc := cX10_nodes) (maxL := 2) (ret := (some .int)) (by decide) rfl ?_
  intro p e s m args below meth c s₁ B hml htab hv
  obtain ⟨rfl, hP, hD, hG⟩ := hv
  have X : vC p s m _ meth c D g A RX10 wsX10_nodes cX10_nodes 2 := ⟨B.exec, B.bytes, findClass_of_methodNamed B.named, atoms_spec (ws := wsX10_nodes) B.pre, hG, hml, B.notSynchronized⟩
  have hr := B.returns
  have hl := lv_entry ([.ref (a 0), iv p0]) (n := 2) (Nat.le_of_ble_eq_true rfl)
  rw [lg_entry_eq]
  generalize (lg_sl ([.ref (a 0), iv p0]) ++ List.replicate (2 - (lg_sl ([.ref (a 0), iv p0])).length) Slot.unset).toArray = ls at hl ⊢
  have hl : lv_has ls 2 [(0, .ref (a 0)), (1, iv p0)] := hl
  exact wke_X10_nodes X hr hlt htab hw s.heap [] ls hP hD va_S.rf hl

theorem dX11_in_0 : decode cX11_in 0 = .ok (.iload_n 0, 1) := by decide +kernel
theorem dX11_in_1 : decode cX11_in 1 = .ok (.iload_n 1, 1) := by decide +kernel
theorem dX11_in_2 : decode cX11_in 2 = .ok (.if_icmp .lt 12, 3) := by decide +kernel
theorem dX11_in_5 : decode cX11_in 5 = .ok (.iload_n 0, 1) := by decide +kernel
theorem dX11_in_6 : decode cX11_in 6 = .ok (.iload_n 2, 1) := by decide +kernel
theorem dX11_in_7 : decode cX11_in 7 = .ok (.if_icmp .gt 7, 3) := by decide +kernel
theorem dX11_in_10 : decode cX11_in 10 = .ok (.iconst 1, 1) := by decide +kernel
theorem dX11_in_11 : decode cX11_in 11 = .ok (.goto 4, 3) := by decide +kernel
theorem dX11_in_14 : decode cX11_in 14 = .ok (.iconst 0, 1) := by decide +kernel
theorem dX11_in_15 : decode cX11_in 15 = .ok (.ireturn, 1) := by decide +kernel
def wpe_X11_in (p0 : Int) (p1 : Int) (p2 : Int) (M : Mem) (Q : Int → Mem → Prop) : Prop := inR p0 ∧ inR p1 ∧ ((p0 < p1 → Q 0 M) ∧ (¬ (p0 < p1) → inR p0 ∧ inR p2 ∧ ((p2 < p0 → Q 0 M) ∧ (¬ (p2 < p0) → Q 1 M))))
def wp_X11_in (M : Mem) (p0 : Int) (p1 : Int) (p2 : Int) (Q : Int → Mem → Prop) : Prop := wpe_X11_in p0 p1 p2 M Q
set_option maxHeartbeats 4000000 in
set_option maxRecDepth 100000 in
theorem wke_X11_in {p : Program} {l : Launch} {e : Env} {s : State} {m : MethodId} {args : Array Value} {below : List Frame} {meth : Method} {c : Code} {D : va_G} {g : GT} {A : Nat → Prop} {a : Nat → Nat} {b : Nat → Nat → Nat} (X : vC p s m args meth c D g A RX11 wsX11_in cX11_in 3) (hr : meth.sig.returnType = (some .boolean)) {p0 : Int} {p1 : Int} {p2 : Int} {M : Mem} {Q : Int → Mem → Prop} (hw : wpe_X11_in p0 p1 p2 M Q) : vV p l e ({ frames := 0, cells := 0, slots := 0, locals := 0 } : Room) s m args below meth c D g A a b 3 0 0 (MQ below (cQi D g A a b Q) args s 0 0 A) M [(0, iv p0), (1, iv p1), (2, iv p2)] 0 [] := by
  unfold wpe_X11_in at hw
  refine V_iload_n X dX11_in_0 rfl (q := 0) rfl ?_
  refine V_iload_n X dX11_in_1 rfl (q := 1) rfl ?_
  obtain ⟨h1, h2, hw⟩ := hw
  refine V_icmp_lt (tgt := 14) X h1 h2 dX11_in_2 (by decide) (fun q3 => ?_) (fun q3 => ?_)
  · have hw := hw.1 q3
    refine V_iconst X dX11_in_14 ?_
    exact V_zret X hr (by decide) hw dX11_in_15
  · have hw := hw.2 q3
    refine V_iload_n X dX11_in_5 rfl (q := 0) rfl ?_
    refine V_iload_n X dX11_in_6 rfl (q := 2) rfl ?_
    obtain ⟨h4, h5, hw⟩ := hw
    refine V_icmp_gt (tgt := 14) X h4 h5 dX11_in_7 (by decide) (fun q6 => ?_) (fun q6 => ?_)
    · have hw := hw.1 q6
      refine V_iconst X dX11_in_14 ?_
      exact V_zret X hr (by decide) hw dX11_in_15
    · have hw := hw.2 q6
      refine V_iconst X dX11_in_10 ?_
      refine V_goto (tgt := 15) X dX11_in_11 (by decide) ?_
      exact V_zret X hr (by decide) hw dX11_in_15
set_option maxHeartbeats 4000000 in
set_option maxRecDepth 100000 in
theorem c_X11_in (l : Launch) {p0 : Int} {p1 : Int} {p2 : Int} {D : va_G} {g : GT} {A : Nat → Prop} {a : Nat → Nat} {b : Nat → Nat → Nat} {M : Mem} {Q : Int → Mem → Prop} (hw : wp_X11_in M p0 p1 p2 Q) : Met l yX11_in wsX11_in ({ frames := 0, cells := 0, slots := 0, locals := 0 } : Room) (cPc D g A a b M [iv p0, iv p1, iv p2]) (cQi D g A a b Q) 0 0 A := by
  refine Met.ofW (cc := cX11_in) (maxL := 3) (ret := (some .boolean)) (by decide) rfl ?_
  intro p e s m args below meth c s₁ B hml hv
  obtain ⟨rfl, hP, hD, hG⟩ := hv
  have X : vC p s m _ meth c D g A RX11 wsX11_in cX11_in 3 := ⟨B.exec, B.bytes, findClass_of_methodNamed B.named, atoms_spec (ws := wsX11_in) B.pre, hG, hml, B.notSynchronized⟩
  have hr := B.returns
  have hl := lv_entry ([iv p0, iv p1, iv p2]) (n := 3) (Nat.le_of_ble_eq_true rfl)
  rw [lg_entry_eq]
  generalize (lg_sl ([iv p0, iv p1, iv p2]) ++ List.replicate (3 - (lg_sl ([iv p0, iv p1, iv p2])).length) Slot.unset).toArray = ls at hl ⊢
  have hl : lv_has ls 3 [(0, iv p0), (1, iv p1), (2, iv p2)] := hl
  exact wke_X11_in X hr  hw s.heap [] ls hP hD va_S.rf hl

set_option maxRecDepth 20000 in
theorem ggX11_isTree_X11_in : GoodIn wsX11_isTree wsX11_in := goodIn_r _ [4] (by decide +kernel) (by decide +kernel)
set_option maxRecDepth 20000 in
theorem gX11_isTree_X11_in : GoodIn wsX11_isTree (va_wsS RX11 75 yX11_in wsX11_in) := goodIn_app (goodIn_of _ (by decide +kernel)) ggX11_isTree_X11_in
theorem dX11_isTree_0 : decode cX11_isTree 0 = .ok (.iload_n 0, 1) := by decide +kernel
theorem dX11_isTree_1 : decode cX11_isTree 1 = .ok (.iconst 0, 1) := by decide +kernel
theorem dX11_isTree_2 : decode cX11_isTree 2 = .ok (.iconst 1, 1) := by decide +kernel
theorem dX11_isTree_3 : decode cX11_isTree 3 = .ok (.invokestatic 75, 3) := by decide +kernel
theorem dX11_isTree_6 : decode cX11_isTree 6 = .ok (.ireturn, 1) := by decide +kernel
def wpe_X11_isTree (p0 : Int) (M : Mem) (Q : Int → Mem → Prop) : Prop := wp_X11_in M p0 0 1 (fun y1 M2 => (y1 = 0 ∨ y1 = 1) ∧ Q y1 M2)
def wp_X11_isTree (M : Mem) (p0 : Int) (Q : Int → Mem → Prop) : Prop := wpe_X11_isTree p0 M Q
set_option maxHeartbeats 4000000 in
set_option maxRecDepth 100000 in
theorem wke_X11_isTree {p : Program} {l : Launch} {e : Env} {s : State} {m : MethodId} {args : Array Value} {below : List Frame} {meth : Method} {c : Code} {D : va_G} {g : GT} {A : Nat → Prop} {a : Nat → Nat} {b : Nat → Nat → Nat} (X : vC p s m args meth c D g A RX11 wsX11_isTree cX11_isTree 1) (hr : meth.sig.returnType = (some .boolean)) {p0 : Int} {M : Mem} {Q : Int → Mem → Prop} (hw : wpe_X11_isTree p0 M Q) : vV p l e ({ frames := 1, cells := 0, slots := 0, locals := 22 } : Room) s m args below meth c D g A a b 1 0 0 (MQ below (cQi D g A a b Q) args s 0 0 A) M [(0, iv p0)] 0 [] := by
  unfold wpe_X11_isTree at hw
  refine V_iload_n X dX11_isTree_0 rfl (q := 0) rfl ?_
  refine V_iconst X dX11_isTree_1 ?_
  refine V_iconst X dX11_isTree_2 ?_
  refine V_callS_i X _ (As := [iv p0, iv 0, iv 1]) (st := []) (c_X11_in l hw) (va_cwS 3 X.2.2.2.1 gX11_isTree_X11_in rfl rfl rfl (by decide +kernel) ⟨Nat.le_of_ble_eq_true rfl, Nat.le_of_ble_eq_true rfl⟩) rfl (Nat.le_of_ble_eq_true rfl) ⟨Nat.le_of_ble_eq_true rfl, Nat.le_of_ble_eq_true rfl⟩ rfl dX11_isTree_3 (fun y1 M2 hw => ?_)
  obtain ⟨h3, hw⟩ := hw
  exact V_zret X hr h3 hw dX11_isTree_6
set_option maxHeartbeats 4000000 in
set_option maxRecDepth 100000 in
theorem c_X11_isTree (l : Launch) {p0 : Int} {D : va_G} {g : GT} {A : Nat → Prop} {a : Nat → Nat} {b : Nat → Nat → Nat} {M : Mem} {Q : Int → Mem → Prop} (hw : wp_X11_isTree M p0 Q) : Met l yX11_isTree wsX11_isTree ({ frames := 1, cells := 0, slots := 0, locals := 22 } : Room) (cPc D g A a b M [iv p0]) (cQi D g A a b Q) 0 0 A := by
  refine Met.ofW (cc := cX11_isTree) (maxL := 1) (ret := (some .boolean)) (by decide) rfl ?_
  intro p e s m args below meth c s₁ B hml hv
  obtain ⟨rfl, hP, hD, hG⟩ := hv
  have X : vC p s m _ meth c D g A RX11 wsX11_isTree cX11_isTree 1 := ⟨B.exec, B.bytes, findClass_of_methodNamed B.named, atoms_spec (ws := wsX11_isTree) B.pre, hG, hml, B.notSynchronized⟩
  have hr := B.returns
  have hl := lv_entry ([iv p0]) (n := 1) (Nat.le_of_ble_eq_true rfl)
  rw [lg_entry_eq]
  generalize (lg_sl ([iv p0]) ++ List.replicate (1 - (lg_sl ([iv p0])).length) Slot.unset).toArray = ls at hl ⊢
  have hl : lv_has ls 1 [(0, iv p0)] := hl
  exact wke_X11_isTree X hr  hw s.heap [] ls hP hD va_S.rf hl

theorem dX6_allAlone_0 : decode cX6_allAlone 0 = .ok (.aload_n 0, 1) := by decide +kernel
theorem dX6_allAlone_1 : decode cX6_allAlone 1 = .ok (.getfield 25, 3) := by decide +kernel
theorem dX6_allAlone_4 : decode cX6_allAlone 4 = .ok (.iload_n 2, 1) := by decide +kernel
theorem dX6_allAlone_5 : decode cX6_allAlone 5 = .ok (.iaload, 1) := by decide +kernel
theorem dX6_allAlone_6 : decode cX6_allAlone 6 = .ok (.aload_n 0, 1) := by decide +kernel
theorem dX6_allAlone_7 : decode cX6_allAlone 7 = .ok (.getfield 25, 3) := by decide +kernel
theorem dX6_allAlone_10 : decode cX6_allAlone 10 = .ok (.iload_n 1, 1) := by decide +kernel
theorem dX6_allAlone_11 : decode cX6_allAlone 11 = .ok (.iaload, 1) := by decide +kernel
theorem dX6_allAlone_12 : decode cX6_allAlone 12 = .ok (.isub, 1) := by decide +kernel
theorem dX6_allAlone_13 : decode cX6_allAlone 13 = .ok (.ireturn, 1) := by decide +kernel
theorem lk_X6_allAlone_f25 : Cond.fieldLink RX6 25 "TreeComparer$Row" "aloneBefore" "[I" ∈ wsX6_allAlone := by decide +kernel
theorem hi_X6_allAlone_6 : ∀ w ∈ u_ws RX6 TX6 6, w ∈ wsX6_allAlone := by decide +kernel
def wpe_X6_allAlone (o : Nat) (p0 : Int) (p1 : Int) (M : Mem) (Q : Int → Mem → Prop) : Prop := ((0 : Int) ≤ p1 ∧ p1 < 13) ∧ ((0 : Int) ≤ p0 ∧ p0 < 13) ∧ Q ((M o 4 p1.toNat) - (M o 4 p0.toNat)) M
def wp_X6_allAlone (M : Mem) (o : Nat) (p0 : Int) (p1 : Int) (Q : Int → Mem → Prop) : Prop := wpe_X6_allAlone o p0 p1 M Q
set_option maxHeartbeats 4000000 in
set_option maxRecDepth 100000 in
theorem wke_X6_allAlone {p : Program} {l : Launch} {e : Env} {s : State} {m : MethodId} {args : Array Value} {below : List Frame} {meth : Method} {c : Code} {D : va_G} {g : GT} {A : Nat → Prop} {a : Nat → Nat} {b : Nat → Nat → Nat} (X : vC p s m args meth c D g A RX6 wsX6_allAlone cX6_allAlone 3) (hr : meth.sig.returnType = (some .int)) {o : Nat} {p0 : Int} {p1 : Int} (ho : isR o) {M : Mem} {Q : Int → Mem → Prop} (hw : wpe_X6_allAlone o p0 p1 M Q) : vV p l e ({ frames := 0, cells := 0, slots := 0, locals := 0 } : Room) s m args below meth c D g A a b 3 0 0 (MQ below (cQi D g A a b Q) args s 0 0 A) M [(0, .ref (a o)), (1, iv p0), (2, iv p1)] 0 [] := by
  unfold wpe_X6_allAlone at hw
  refine V_aload_n X dX6_allAlone_0 rfl (q := 0) rfl ?_
  refine V_get (C := RX6) (T := TX6) (N := 6) (ci := 6) X hi_X6_allAlone_6 (gRO ho) rfl 4 (by decide) lk_X6_allAlone_f25 (fun _ h9 => h9) rfl dX6_allAlone_1 ?_
  refine V_iload_n X dX6_allAlone_4 rfl (q := 2) rfl ?_
  obtain ⟨h1, hw⟩ := hw
  refine V_iald X ((gR_4 ho)) h1 (by decide) dX6_allAlone_5 ?_
  refine V_aload_n X dX6_allAlone_6 rfl (q := 0) rfl ?_
  refine V_get (C := RX6) (T := TX6) (N := 6) (ci := 6) X hi_X6_allAlone_6 (gRO ho) rfl 4 (by decide) lk_X6_allAlone_f25 (fun _ h9 => h9) rfl dX6_allAlone_7 ?_
  refine V_iload_n X dX6_allAlone_10 rfl (q := 1) rfl ?_
  obtain ⟨h2, hw⟩ := hw
  refine V_iald X ((gR_4 ho)) h2 (by decide) dX6_allAlone_11 ?_
  refine V_isub X dX6_allAlone_12 ?_
  exact V_iret X hr hw dX6_allAlone_13
set_option maxHeartbeats 4000000 in
set_option maxRecDepth 100000 in
theorem c_X6_allAlone (l : Launch) {o : Nat} {p0 : Int} {p1 : Int} (ho : isR o) {D : va_G} {g : GT} {A : Nat → Prop} {a : Nat → Nat} {b : Nat → Nat → Nat} {M : Mem} {Q : Int → Mem → Prop} (hw : wp_X6_allAlone M o p0 p1 Q) : Met l yX6_allAlone wsX6_allAlone ({ frames := 0, cells := 0, slots := 0, locals := 0 } : Room) (cPc D g A a b M [.ref (a o), iv p0, iv p1]) (cQi D g A a b Q) 0 0 A := by
  refine Met.ofW (cc := cX6_allAlone) (maxL := 3) (ret := (some .int)) (by decide) rfl ?_
  intro p e s m args below meth c s₁ B hml hv
  obtain ⟨rfl, hP, hD, hG⟩ := hv
  have X : vC p s m _ meth c D g A RX6 wsX6_allAlone cX6_allAlone 3 := ⟨B.exec, B.bytes, findClass_of_methodNamed B.named, atoms_spec (ws := wsX6_allAlone) B.pre, hG, hml, B.notSynchronized⟩
  have hr := B.returns
  have hl := lv_entry ([.ref (a o), iv p0, iv p1]) (n := 3) (Nat.le_of_ble_eq_true rfl)
  rw [lg_entry_eq]
  generalize (lg_sl ([.ref (a o), iv p0, iv p1]) ++ List.replicate (3 - (lg_sl ([.ref (a o), iv p0, iv p1])).length) Slot.unset).toArray = ls at hl ⊢
  have hl : lv_has ls 3 [(0, .ref (a o)), (1, iv p0), (2, iv p1)] := hl
  exact wke_X6_allAlone X hr ho hw s.heap [] ls hP hD va_S.rf hl
