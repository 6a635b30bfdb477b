/-! what holds at the law's entry -/
def NWi : List Nat := [46, 47, 48, 49, 51, 52, 53, 55, 57, 58, 59, 60, 62, 63, 64, 66, 67, 69, 70, 73, 74, 75, 76, 98, 99, 100, 101, 103, 104, 105, 106, 108, 109, 111, 112, 114, 115, 116, 117, 119, 120, 121, 122, 149, 150, 152, 153, 154, 155, 157, 159, 160, 163, 164, 165, 166, 167, 184, 185, 186, 187, 188, 190, 191, 192, 193, 194, 196, 197, 198, 199, 269, 270, 271, 273, 274, 279, 306, 308, 310, 314, 316, 345, 348, 350, 32, 41, 138, 144, 211, 227, 240, 262, 299, 338, 400, 408, 412, 416, 421, 436, 440, 444, 456, 461, 464, 472, 487, 489, 495, 504, 508, 517, 523, 528, 536, 548, 556, 563, 571, 580, 712, 735, 740, 818, 847, 859, 860, 875, 902, 913, 928, 939, 943, 951, 682, 698, 611, 613, 615, 617]
set_option maxRecDepth 100000 in
theorem NWs_eq : NWs = NWi.filterMap (fun i => tables_1[i]?) := by decide +kernel
theorem NWs_in : ∀ w ∈ NWs, w ∈ tables_1 := by
  intro w h
  rw [NWs_eq] at h
  obtain ⟨i, _, hi⟩ := List.mem_filterMap.mp h
  exact List.mem_of_getElem? hi
theorem tbI_0 : Cond.instantiable RX0 2 ∈ tables_1 := List.mem_of_getElem? (i := 226) (by decide +kernel)
theorem tbI_1 : Cond.instantiable RX1 6 ∈ tables_1 := List.mem_of_getElem? (i := 31) (by decide +kernel)
theorem tbI_2 : Cond.instantiable RX2 3 ∈ tables_1 := List.mem_of_getElem? (i := 210) (by decide +kernel)
theorem tbI_3 : Cond.instantiable RX3 4 ∈ tables_1 := List.mem_of_getElem? (i := 137) (by decide +kernel)
theorem tbI_4 : Cond.instantiable RX4 8 ∈ tables_1 := List.mem_of_getElem? (i := 261) (by decide +kernel)
theorem tbI_5 : Cond.instantiable RX5 6 ∈ tables_1 := List.mem_of_getElem? (i := 337) (by decide +kernel)
theorem tbI_6 : Cond.instantiable RX6 6 ∈ tables_1 := List.mem_of_getElem? (i := 143) (by decide +kernel)
theorem tbI_7 : Cond.instantiable RX7 9 ∈ tables_1 := List.mem_of_getElem? (i := 298) (by decide +kernel)
theorem tbI_8 : Cond.instantiable RX8 5 ∈ tables_1 := List.mem_of_getElem? (i := 239) (by decide +kernel)
theorem tbI_9 : Cond.instantiable RX9 9 ∈ tables_1 := List.mem_of_getElem? (i := 40) (by decide +kernel)
theorem tbI_10 : Cond.instantiable RX10 9 ∈ tables_1 := List.mem_of_getElem? (i := 23) (by decide +kernel)
theorem tbI_11 : Cond.instantiable RX11 24 ∈ tables_1 := List.mem_of_getElem? (i := 960) (by decide +kernel)
theorem tbA_int : Cond.arrayClass .int ∈ tables_1 := List.mem_of_getElem? (i := 96) (by decide +kernel)
theorem tbA_boolean : Cond.arrayClass .boolean ∈ tables_1 := List.mem_of_getElem? (i := 181) (by decide +kernel)
theorem tbA_long : Cond.arrayClass .long ∈ tables_1 := List.mem_of_getElem? (i := 1327) (by decide +kernel)
theorem tbT : Cond.initialized Bundle.tN ∈ tables_1 := List.mem_of_getElem? (i := 14) (by decide +kernel)
theorem tbU : Cond.laysStatic Bundle.tN "UNASSIGNED_STACK" Bundle.steD ∈ tables_1 := List.mem_of_getElem? (i := 636) (by decide +kernel)
theorem tbS : Cond.laysStatic Bundle.tN "SUPPRESSED_SENTINEL" Bundle.listD ∈ tables_1 := List.mem_of_getElem? (i := 638) (by decide +kernel)
theorem tbR_96 : Cond.stringRef "TreeComparer" 96 "the tree is not empty" ∈ tables_1 := List.mem_of_getElem? (i := 705) (by decide +kernel)
theorem tbR_113 : Cond.stringRef "TreeComparer" 113 "the tree is full" ∈ tables_1 := List.mem_of_getElem? (i := 739) (by decide +kernel)
theorem tbR_271 : Cond.stringRef "TreeComparer" 271 "there is no such tree, node, kind, place or step" ∈ tables_1 := List.mem_of_getElem? (i := 650) (by decide +kernel)
theorem tbR_276 : Cond.stringRef "TreeComparer" 276 "a label or a price is out of its range" ∈ tables_1 := List.mem_of_getElem? (i := 689) (by decide +kernel)
theorem tbC_IndexOutOfBoundsException : Cond.castable "java/lang/IndexOutOfBoundsException" "java/lang/IndexOutOfBoundsException" ∈ tables_1 := List.mem_of_getElem? (i := 611) (by decide +kernel)
theorem tbC_IllegalArgumentException : Cond.castable "java/lang/IllegalArgumentException" "java/lang/IllegalArgumentException" ∈ tables_1 := List.mem_of_getElem? (i := 682) (by decide +kernel)
theorem tbC_IllegalStateException : Cond.castable "java/lang/IllegalStateException" "java/lang/IllegalStateException" ∈ tables_1 := List.mem_of_getElem? (i := 698) (by decide +kernel)
set_option maxHeartbeats 1000000 in
set_option maxRecDepth 20000 in
theorem GX_entry {p : Program} {s : State} {m : MethodId} {meth : Method} {c : Code} {b L : Nat} {xs : Nat → Int32} (C0 : lw_At p s m meth c b L xs) : ∃ (D : va_G) (g : GT), GX D g (fun q => s.heap.size ≤ q) s ∧ YX s := by
  obtain ⟨hx, hb, hr, hml, hown, hts, hX, hbl, hlocks, hgv⟩ := C0
  have ht1 : ∀ w ∈ tables_1, w.before #[Value.ref b] s = true := fun w h => hts w (List.mem_append_right _ h)
  have hs := flat_of_before _ hgv
  obtain ⟨c0, i0, K0⟩ := u_known (C := RX0) (T := TX0) (N := 2) (n := 2) hts inX0 (ht1 _ tbI_0)
  obtain ⟨c1, i1, K1⟩ := u_known (C := RX1) (T := TX1) (N := 6) (n := 6) hts inX1 (ht1 _ tbI_1)
  obtain ⟨c2, i2, K2⟩ := u_known (C := RX2) (T := TX2) (N := 3) (n := 3) hts inX2 (ht1 _ tbI_2)
  obtain ⟨c3, i3, K3⟩ := u_known (C := RX3) (T := TX3) (N := 4) (n := 4) hts inX3 (ht1 _ tbI_3)
  obtain ⟨c4, i4, K4⟩ := u_known (C := RX4) (T := TX4) (N := 8) (n := 8) hts inX4 (ht1 _ tbI_4)
  obtain ⟨c5, i5, K5⟩ := u_known (C := RX5) (T := TX5) (N := 6) (n := 6) hts inX5 (ht1 _ tbI_5)
  obtain ⟨c6, i6, K6⟩ := u_known (C := RX6) (T := TX6) (N := 6) (n := 6) hts inX6 (ht1 _ tbI_6)
  obtain ⟨c7, i7, K7⟩ := u_known (C := RX7) (T := TX7) (N := 9) (n := 9) hts inX7 (ht1 _ tbI_7)
  obtain ⟨c8, i8, K8⟩ := u_known (C := RX8) (T := TX8) (N := 5) (n := 5) hts inX8 (ht1 _ tbI_8)
  obtain ⟨c9, i9, K9⟩ := u_known (C := RX9) (T := TX9) (N := 9) (n := 9) hts inX9 (ht1 _ tbI_9)
  obtain ⟨c10, i10, K10⟩ := u_known (C := RX10) (T := TX10) (N := 9) (n := 9) hts inX10 (ht1 _ tbI_10)
  obtain ⟨c11, i11, K11⟩ := u_known (C := RX11) (T := TX11) (N := 24) (n := 24) hts inX11 (ht1 _ tbI_11)
  obtain ⟨g0, kA0, cp0, a0, b0, e0⟩ := Cond.arrayClass_spec (ht1 _ tbA_int)
  obtain ⟨g1, kA1, cp1, a1, b1, e1⟩ := Cond.arrayClass_spec (ht1 _ tbA_boolean)
  obtain ⟨g2, kA2, cp2, a2, b2, e2⟩ := Cond.arrayClass_spec (ht1 _ tbA_long)
  have hK : ∀ (k : Nat) (q : vw_C), vwCl[k]? = some q → u_Kn s q.1 q.2.1 q.2.2 ([c0, c1, c2, c3, c4, c5, c6, c7, c8, c9, c10, c11].getD k c0) ([i0, i1, i2, i3, i4, i5, i6, i7, i8, i9, i10, i11].getD k i0) := by
    intro k q hq
    match k, hq with
    | 0, hq => cases hq; exact K0
    | 1, hq => cases hq; exact K1
    | 2, hq => cases hq; exact K2
    | 3, hq => cases hq; exact K3
    | 4, hq => cases hq; exact K4
    | 5, hq => cases hq; exact K5
    | 6, hq => cases hq; exact K6
    | 7, hq => cases hq; exact K7
    | 8, hq => cases hq; exact K8
    | 9, hq => cases hq; exact K9
    | 10, hq => cases hq; exact K10
    | 11, hq => cases hq; exact K11
    | k + 12, hq => exact absurd hq (by
        rw [List.getElem?_eq_none (by show 12 ≤ k + 12; omega)]
        exact nofun)
  have hS : ∀ (k : Nat) (tx : String), (Cond.stringRef "TreeComparer" k tx).before #[Value.ref b] s = true → (Cond.exactly (.string "TreeComparer" k) "java/lang/String").before #[Value.ref b] s = true → ∃ sa : Nat, vk_R "TreeComparer" k tx sa s := by
    intro k tx h1 h2
    obtain ⟨sa, cc9, cA, kA, q1, -⟩ := Cond.exactly_spec (args := #[Value.ref b]) (first := s) (o := none) (s := s) (idx := []) (t := .string "TreeComparer" k) (cls := "java/lang/String") h2
    exact ⟨sa, vk_R.of h1 q1⟩
  refine ⟨(fun k => [c0, c1, c2, c3, c4, c5, c6, c7, c8, c9, c10, c11].getD k c0, fun k => [i0, i1, i2, i3, i4, i5, i6, i7, i8, i9, i10, i11].getD k i0), (g0, g1, g2), ⟨⟨hK, ?_⟩, fun w hw => va_Nw.of (NWs_on w hw) (ht1 w (NWs_in w hw)), ?_, ?_, fun q h => h, ?_⟩, ⟨?_, ?_, ?_⟩, ?_⟩
  · intro k q hq
    match k, hq with
    | 0, hq => cases hq; exact ⟨fun n z => ⟨fun k h => (by cases h), kA0, b0, cp0, e0⟩, a0⟩
    | 1, hq => cases hq; exact ⟨fun n z => ⟨fun k h => (by cases h), kA1, b1, cp1, e1⟩, a1⟩
    | 2, hq => cases hq; exact ⟨fun n z => ⟨fun k h => (by cases h), kA2, b2, cp2, e2⟩, a2⟩
    | k + 3, hq => exact absurd hq (by
        rw [List.getElem?_eq_none (by show 3 ≤ k + 3; omega)]
        exact nofun)
  · exact vx_Zqof (ht1 _ tbU) (ht1 _ tbT) (hs _ (by decide +kernel)) (fun a h q => absurd h (Nat.not_lt.mpr q))
  · exact vx_Zqof (ht1 _ tbS) (ht1 _ tbT) (hs _ (by decide +kernel)) (fun a h q => absurd h (Nat.not_lt.mpr q))
  · intro r hr
    have hr2 : r = ("TreeComparer", 96, "the tree is not empty") ∨ r = ("TreeComparer", 113, "the tree is full") ∨ r = ("TreeComparer", 271, "there is no such tree, node, kind, place or step") ∨ r = ("TreeComparer", 276, "a label or a price is out of its range") := by
      simpa [SRs] using hr
    rcases hr2 with rfl | rfl | rfl | rfl
    · exact hS 96 _ (ht1 _ tbR_96) (hs _ (by decide +kernel))
    · exact hS 113 _ (ht1 _ tbR_113) (hs _ (by decide +kernel))
    · exact hS 271 _ (ht1 _ tbR_271) (hs _ (by decide +kernel))
    · exact hS 276 _ (ht1 _ tbR_276) (hs _ (by decide +kernel))
  · exact va_Nc.of (args := #[Value.ref b]) (hs _ (by decide +kernel))
  · exact va_Nc.of (args := #[Value.ref b]) (hs _ (by decide +kernel))
  · exact va_Nc.of (args := #[Value.ref b]) (hs _ (by decide +kernel))
  · intro av E hE
    rcases hE with rfl | rfl | rfl
    · exact va_Nw.use rfl (va_Nw.of rfl (ht1 _ tbC_IndexOutOfBoundsException))
    · exact va_Nw.use rfl (va_Nw.of rfl (ht1 _ tbC_IllegalArgumentException))
    · exact va_Nw.use rfl (va_Nw.of rfl (ht1 _ tbC_IllegalStateException))
