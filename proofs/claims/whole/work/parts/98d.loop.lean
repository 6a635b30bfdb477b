/-! the law's loop -/
section LOOP
variable {p : Program} {l : Launch} {e : Env} {s : State} {m : MethodId} {args : Array Value} {below : List Frame} {meth : Method} {c : Code} {D : va_G} {g : GT} {A : Nat → Prop} {Q : State → Prop} {b0 L : Nat} {xs : Nat → Int32}
theorem V_slen {own : String} {Ts : List Cond} {cc : ByteArray} {nL k n : Nat} {R : Room} {M : Mem} {a : Nat → Nat} {b : Nat → Nat → Nat} {lv : List (Nat × Value)} {pc : Nat} {st : List Value} (X : vC p s m args meth c D g A own Ts cc nL) (hX : XS s A b0 L xs) (hdg : decode cc pc = .ok (.arraylength, 1)) (kk : vV p l e R s m args below meth c D g A a b nL k n Q M lv (pc + 1) (iv L :: st)) : vV p l e R s m args below meth c D g A a b nL k n Q M lv pc (.ref b0 :: st) := by
  intro H locs ls hP hD hS hl
  refine va_slen X.1 X.2.1 hX.1 hX.2.1 hX.2.2.1 hS hdg ?_
  rw [← Int32.ofInt_eq_ofNat]
  exact kk H locs ls hP hD hS hl
set_option maxHeartbeats 4000000 in
set_option maxRecDepth 20000 in
theorem law_loop (X : vC p s m args meth c D g A RL wsL_law cL_law 9) (hY : YX s) (hlt : l.stackTraces = false) (hX : XS s A b0 L xs) (hend : ∀ (k n : Nat) (M : Mem) (a : Nat → Nat) (b : Nat → Nat → Nat) (lv : List (Nat × Value)), k ≤ 601024 → n ≤ 7293033 → vV p l e room_1 s m args below meth c D g A a b 9 k n Q M lv 2151 []) :
    ∀ (z i k n : Nat) (a : Nat → Nat) (b : Nat → Nat → Nat) (M : Mem) (C : Nat → Nat → Int), i < 4000 → L < i + 6 * z → k + 8 * z ≤ 601024 → n + 60 * z ≤ 7293033 → StB C M → vV p l e room_1 s m args below meth c D g A a b 9 k n Q M (lv5 a b b0 (i : Int)) 23 [] := by
  have hL := hX.2.2.2
  -- the head of the loop
  have head : ∀ (i k n : Nat) (a : Nat → Nat) (b : Nat → Nat → Nat) (M : Mem), i < 4000 → k ≤ 601024 → n ≤ 7293033 → (i + 6 ≤ L → vV p l e room_1 s m args below meth c D g A a b 9 k n Q M (lv5 a b b0 (i : Int)) 33 []) → vV p l e room_1 s m args below meth c D g A a b 9 k n Q M (lv5 a b b0 (i : Int)) 23 [] := by
    intro i k n a b M hi hk hn kk
    refine V_iload X dL_law_23 (q := 4) rfl (V_aload_n X dL_law_25 rfl (q := 0) rfl (V_slen X hX dL_law_26 (V_bipush X dL_law_27 rfl (V_isub X dL_law_29 ?_))))
    exact V_icmp_gt (tgt := 2151) X ⟨by omega, by omega⟩ ⟨by omega, by omega⟩ dL_law_30 (by decide) (fun _ => hend k n M a b _ hk hn) (fun q => kk (by omega))
  have hcells : room_1.cells = 601024 := rfl
  have hslots : room_1.slots = 7293033 := rfl
  intro z
  induction z with
  | zero =>
    intro i k n a b M C hi4 hz hk hn hS
    exact head i k n a b M hi4 (by omega) (by omega) (fun q => absurd q (by omega))
  | succ z ih =>
    intro i k n a b M C hi4 hz hk hn hS
    refine head i k n a b M hi4 (by omega) (by omega) (fun hi => ?_)
    have hk2 : k + 8 ≤ room_1.cells ∧ n + 60 ≤ room_1.slots := by
      rw [hcells, hslots]
      omega
    have back : ∀ (a' : Nat → Nat) (b' : Nat → Nat → Nat), a' 0 = a 0 → a' 13 = a 13 → b' 14 0 = b 14 0 → ∀ (C' : Nat → Nat → Int) (M' : Mem), StB C' M' → vV p l e room_1 s m args below meth c D g A a' b' 9 (k + 8) (n + 60) Q M' (lv5 a b b0 (i : Int)) 2145 [] := by
      intro a' b' e0 e13 e14 C' M' hS'
      refine V_iinc (q := 4) (lv1 := lv5 a b b0 ((i : Int) + 6)) X [1, 2, 3, 4, 0] dL_law_2145 rfl (by decide) rfl (V_goto (tgt := 23) X dL_law_2148 (by decide) ?_)
      have w := ih (i + 6) (k + 8) (n + 60) a' b' M' C' (by omega) (by omega) (by omega) (by omega) hS'
      rw [show ((i + 6 : Nat) : Int) = (i : Int) + 6 from by omega] at w
      unfold lv5 at w ⊢
      rwa [e0, e13, e14] at w
    have bk := back a b rfl rfl rfl
    refine V_aload_n X dL_law_33 rfl (q := 0) rfl (V_iload X dL_law_34 (q := 4) rfl (V_sld X hX ⟨by omega, by omega⟩ dL_law_36 ?_))
    refine V_bipush X dL_law_37 rfl (V_iand63 X dL_law_39 (fun z hz => ?_))
    rcases Nat.lt_or_ge z 37 with hz37 | hz37
    · rcases (show z = 0 ∨ z = 1 ∨ z = 2 ∨ z = 3 ∨ z = 4 ∨ z = 5 ∨ z = 6 ∨ z = 7 ∨ z = 8 ∨ z = 9 ∨ z = 10 ∨ z = 11 ∨ z = 12 ∨ z = 13 ∨ z = 14 ∨ z = 15 ∨ z = 16 ∨ z = 17 ∨ z = 18 ∨ z = 19 ∨ z = 20 ∨ z = 21 ∨ z = 22 ∨ z = 23 ∨ z = 24 ∨ z = 25 ∨ z = 26 ∨ z = 27 ∨ z = 28 ∨ z = 29 ∨ z = 30 ∨ z = 31 ∨ z = 32 ∨ z = 33 ∨ z = 34 ∨ z = 35 ∨ z = 36 by omega) with rfl | rfl | rfl | rfl | rfl | rfl | rfl | rfl | rfl | rfl | rfl | rfl | rfl | rfl | rfl | rfl | rfl | rfl | rfl | rfl | rfl | rfl | rfl | rfl | rfl | rfl | rfl | rfl | rfl | rfl | rfl | rfl | rfl | rfl | rfl | rfl | rfl
      · exact V_switchIn (tgt := 204) X dL_law_40 (by decide) (by decide) rfl (by decide) (law_0 X hY hlt hX hi hS hk2 bk)
      · exact V_switchIn (tgt := 264) X dL_law_40 (by decide) (by decide) rfl (by decide) (law_1 X hY hlt hX hi hS hk2 bk)
      · exact V_switchIn (tgt := 368) X dL_law_40 (by decide) (by decide) rfl (by decide) (law_2 X hY hlt hX hi hS hk2 bk)
      · exact V_switchIn (tgt := 448) X dL_law_40 (by decide) (by decide) rfl (by decide) (law_3 X hY hlt hX hi hS hk2 bk)
      · exact V_switchIn (tgt := 484) X dL_law_40 (by decide) (by decide) rfl (by decide) (law_4 X hS hk2 (back (swA a) (swB b) rfl rfl rfl))
      · exact V_switchIn (tgt := 495) X dL_law_40 (by decide) (by decide) rfl (by decide) (law_5 X hY hlt hX hi hS hk2 bk)
      · exact V_switchIn (tgt := 567) X dL_law_40 (by decide) (by decide) rfl (by decide) (law_6 X hY hlt hX hi hS hk2 bk)
      · exact V_switchIn (tgt := 623) X dL_law_40 (by decide) (by decide) rfl (by decide) (law_7 X hY hlt hX hi hS hk2 bk)
      · exact V_switchIn (tgt := 679) X dL_law_40 (by decide) (by decide) rfl (by decide) (law_8 X hY hlt hX hi hS hk2 bk)
      · exact V_switchIn (tgt := 747) X dL_law_40 (by decide) (by decide) rfl (by decide) (law_9 X hY hlt hX hi hS hk2 bk)
      · exact V_switchIn (tgt := 815) X dL_law_40 (by decide) (by decide) rfl (by decide) (law_10 X hY hlt hX hi hS hk2 bk)
      · exact V_switchIn (tgt := 883) X dL_law_40 (by decide) (by decide) rfl (by decide) (law_11 X hY hlt hX hi hS hk2 bk)
      · exact V_switchIn (tgt := 951) X dL_law_40 (by decide) (by decide) rfl (by decide) (law_12 X hY hlt hX hi hS hk2 bk)
      · exact V_switchIn (tgt := 1031) X dL_law_40 (by decide) (by decide) rfl (by decide) (law_13 X hY hlt hX hi hS hk2 bk)
      · exact V_switchIn (tgt := 1099) X dL_law_40 (by decide) (by decide) rfl (by decide) (law_14 X hY hlt hX hi hS hk2 bk)
      · exact V_switchIn (tgt := 1167) X dL_law_40 (by decide) (by decide) rfl (by decide) (law_15 X hY hlt hX hi hS hk2 bk)
      · exact V_switchIn (tgt := 1235) X dL_law_40 (by decide) (by decide) rfl (by decide) (law_16 X hY hlt hX hi hS hk2 bk)
      · exact V_switchIn (tgt := 1310) X dL_law_40 (by decide) (by decide) rfl (by decide) (law_17 X hY hlt hX hi hS hk2 bk)
      · exact V_switchIn (tgt := 1323) X dL_law_40 (by decide) (by decide) rfl (by decide) (law_18 X hY hlt hX hi hS hk2 bk)
      · exact V_switchIn (tgt := 1336) X dL_law_40 (by decide) (by decide) rfl (by decide) (law_19 X hY hlt hX hi hS hk2 bk)
      · exact V_switchIn (tgt := 1404) X dL_law_40 (by decide) (by decide) rfl (by decide) (law_20 X hY hlt hX hi hS hk2 bk)
      · exact V_switchIn (tgt := 1417) X dL_law_40 (by decide) (by decide) rfl (by decide) (law_21 X hS hk2 bk)
      · exact V_switchIn (tgt := 1458) X dL_law_40 (by decide) (by decide) rfl (by decide) (law_22 X hY hlt hX hi hS hk2 bk)
      · exact V_switchIn (tgt := 1471) X dL_law_40 (by decide) (by decide) rfl (by decide) (law_23 X hY hlt hX hi hS hk2 bk)
      · exact V_switchIn (tgt := 1527) X dL_law_40 (by decide) (by decide) rfl (by decide) (law_24 X hY hlt hX hi hS hk2 bk)
      · exact V_switchIn (tgt := 1602) X dL_law_40 (by decide) (by decide) rfl (by decide) (law_25 X hY hlt hX hi hS hk2 bk)
      · exact V_switchIn (tgt := 1615) X dL_law_40 (by decide) (by decide) rfl (by decide) (law_26 X hY hlt hX hi hS hk2 bk)
      · exact V_switchIn (tgt := 1671) X dL_law_40 (by decide) (by decide) rfl (by decide) (law_27 X hY hlt hX hi hS hk2 bk)
      · exact V_switchIn (tgt := 1727) X dL_law_40 (by decide) (by decide) rfl (by decide) (law_28 X hY hlt hX hi hS hk2 bk)
      · exact V_switchIn (tgt := 1783) X dL_law_40 (by decide) (by decide) rfl (by decide) (law_29 X hY hlt hX hi hS hk2 bk)
      · exact V_switchIn (tgt := 1839) X dL_law_40 (by decide) (by decide) rfl (by decide) (law_30 X hY hlt hX hi hS hk2 bk)
      · exact V_switchIn (tgt := 1907) X dL_law_40 (by decide) (by decide) rfl (by decide) (law_31 X hY hlt hX hi hS hk2 bk)
      · exact V_switchIn (tgt := 1975) X dL_law_40 (by decide) (by decide) rfl (by decide) (law_32 X hY hlt hX hi hS hk2 bk)
      · exact V_switchIn (tgt := 2050) X dL_law_40 (by decide) (by decide) rfl (by decide) (law_33 X hY hlt hX hi hS hk2 bk)
      · exact V_switchIn (tgt := 2063) X dL_law_40 (by decide) (by decide) rfl (by decide) (law_34 X hY hlt hX hi hS hk2 bk)
      · exact V_switchIn (tgt := 2076) X dL_law_40 (by decide) (by decide) rfl (by decide) (law_35 X hY hlt hX hi hS hk2 bk)
      · exact V_switchIn (tgt := 2132) X dL_law_40 (by decide) (by decide) rfl (by decide) (law_36 X hY hlt hX hi hS hk2 bk)
    · exact V_switchOut (tgt := 2145) X dL_law_40 (by omega) hz (by decide) (V_widen (k1 := k + 8) (n1 := n + 60) (by omega) (by omega) (bk C M hS))
end LOOP
