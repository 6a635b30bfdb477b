/-! the law, from its entry -/
set_option maxRecDepth 100000 in
theorem lkL_init : Cond.methodLink RL 104 yX10_init ∈ wsL_law ∧ Cond.instanceMethod yX10_init ∈ wsL_law ∧ Cond.initialized RX10 ∈ wsL_law ∧ Cond.classLink RL 8 RX10 ∈ wsL_law ∧ Cond.instantiable RX10 9 ∈ wsL_law := ⟨by decide +kernel, by decide +kernel, by decide +kernel, by decide +kernel, by decide +kernel⟩
set_option maxRecDepth 100000 in
theorem lkL_init2 : Cond.methodLink RL 107 yX11_init ∈ wsL_law ∧ Cond.instanceMethod yX11_init ∈ wsL_law ∧ Cond.initialized RX11 ∈ wsL_law ∧ Cond.classLink RL 105 RX11 ∈ wsL_law ∧ Cond.instantiable RX11 24 ∈ wsL_law ∧ Cond.arrayClass .long ∈ wsL_law := ⟨by decide +kernel, by decide +kernel, by decide +kernel, by decide +kernel, by decide +kernel, by decide +kernel⟩
section START
variable {p : Program} {l : Launch} {e : Env} {R : Room} {s : State} {m : MethodId} {args : Array Value} {below : List Frame} {meth : Method} {c : Code} {D : va_G} {g : GT} {A : Nat → Prop} {nL : Nat} {k n : Nat} {Q : State → Prop} {lv : List (Nat × Value)} {pc : Nat} {st : List Value}
theorem U_first {x y z : Nat} {h h' : Nat → Nat} (kk : vV p l e R s m args below meth c D g A (aF x y h) (bF z h h') nL k n Q M0 lv pc st) : uV p l e R s m args below meth c D A nL k n Q [] (W3 g x y z h h') lv pc st := fun H locs ls hP hD hS hl => kk H locs ls (first_P hP) (first_D hD) hS hl
end START
set_option maxHeartbeats 4000000 in
set_option maxRecDepth 20000 in
/-- YOUR PART: from the entry, for every script of at most 3072 ints, the law comes to its end with true -/
theorem whole_start {p : Program} {e : Env} {s : State} {m : MethodId} {below : List Frame} {meth : Method} {c : Code} (l : Launch) (hflags : l.flags = flags0) {b L : Nat} {xs : Nat → Int32} (hL : L ≤ 3072) (C0' : lw_At p s m meth c b L xs) : W p l e room_1 s m #[Value.ref b] below meth c s.heap [] 0 0 (lw_Z below #[Value.ref b] s) (entryFrame m ([Value.ref b] : List Value).toArray 9) := by
  obtain ⟨D, g, hG, hY⟩ := GX_entry C0'
  obtain ⟨hx, hb, hr, hml, hown, hts, hX, hbl, hlocks, hgv⟩ := C0'
  have X : vC p s m #[Value.ref b] meth c D g (fun q => s.heap.size ≤ q) RL wsL_law cL_law 9 := ⟨hx, hb, hown, fun w h => hts w (wsL_law_in w h), hG, hml, hlocks⟩
  have hlt : l.stackTraces = false := by
    unfold Launch.stackTraces
    rw [hflags]
    decide +kernel
  have hXS : XS s (fun q => s.heap.size ≤ q) b L xs := ⟨hX, hbl, Nat.not_le.mpr hbl, hL⟩
  have hl := lv_entry ([.ref b]) (n := 9) (Nat.le_of_ble_eq_true rfl)
  rw [lg_entry_eq]
  generalize (lg_sl ([.ref b]) ++ List.replicate (9 - (lg_sl ([.ref b])).length) Slot.unset).toArray = ls at hl ⊢
  have hl : lv_has ls 9 [(0, .ref b)] := hl
  suffices hV : uV p l e room_1 s m #[Value.ref b] below meth c D (fun q => s.heap.size ≤ q) 9 0 0 (lw_Z below #[Value.ref b] s) [] [] [(0, .ref b)] 0 [] from hV s.heap [] ls (fun k q h => by simp at h) ⟨fun i j p q h => by simp at h, fun k q h => by simp at h⟩ va_S.rf hl
  have hend : ∀ (k n : Nat) (M : Mem) (a' : Nat → Nat) (b' : Nat → Nat → Nat) (lv : List (Nat × Value)), k ≤ 601024 → n ≤ 7293033 → vV p l e room_1 s m #[Value.ref b] below meth c D g (fun q => s.heap.size ≤ q) a' b' 9 k n (lw_Z below #[Value.ref b] s) M lv 2151 [] := by
    intro k n M a' b' lv hk hn
    refine V_iconst X dL_law_2151 ?_
    intro H locs ls hP hD hS hl
    refine va_forget (fun q hq => hS.2.2 q hq) ?_
    refine W.widen hk hn ?_
    exact lw_ret (d0 := s.drawn) (Drawn.sameBut.refl s.drawn lw_cs) X.1 X.2.1 hr hlocks dL_law_2152
  refine U_new (own := RL) (C := RX10) (T := TX10) (N := 9) (ci := 10) (fs := [.null, .null, .null, .null, .null, .null, .null, .null, iv 0]) X inlX10 tyX10 tyX10_ok lkL_init.2.2.2.1 lkL_init.2.2.2.2 lkL_init.2.2.1 rfl (fun j hj => by rcases (show j = 0 ∨ j = 1 ∨ j = 2 ∨ j = 3 ∨ j = 4 ∨ j = 5 ∨ j = 6 ∨ j = 7 ∨ j = 8 by omega) with rfl | rfl | rfl | rfl | rfl | rfl | rfl | rfl | rfl <;> rfl) ⟨Nat.le_of_ble_eq_true rfl, Nat.le_of_ble_eq_true rfl⟩ dL_law_0 (fun x => ?_)
  refine U_dup X dL_law_3 rfl ?_
  refine U_callI (As := []) (st := [.ref x]) X (nwX10 g x) (c_I_X10 l) (cwI 0 X.2.2.2.1 gL_law_X10_init rfl rfl rfl (X.2.2.2.1 _ lkL_init.2.2.1) (X.2.2.2.1 _ lkL_init.1) (X.2.2.2.1 _ lkL_init.2.1) rfl (by decide +kernel) ⟨Nat.le_of_ble_eq_true rfl, Nat.le_of_ble_eq_true rfl⟩) rfl (Nat.le_of_ble_eq_true rfl) ⟨Nat.le_of_ble_eq_true rfl, Nat.le_of_ble_eq_true rfl⟩ rfl dL_law_4 (fun h => ?_)
  refine U_astore_n (lv1 := [(0, .ref b), (1, .ref x)]) X [1, 0] dL_law_7 rfl (by decide) rfl ?_
  refine U_new (own := RL) (C := RX11) (T := TX11) (N := 24) (ci := 11) (fs := [.null, .null, .null, .null, .null, .null, .null, iv 0, .null, .null, .null, .null, .null, .null, .null, .null, iv 0, iv 0, .null, .null, iv 0, .null, .null, iv 0]) X inlX11 tyX11 tyX11_ok lkL_init2.2.2.2.1 lkL_init2.2.2.2.2.1 lkL_init2.2.2.1 rfl (fun j hj => by rcases (show j = 0 ∨ j = 1 ∨ j = 2 ∨ j = 3 ∨ j = 4 ∨ j = 5 ∨ j = 6 ∨ j = 7 ∨ j = 8 ∨ j = 9 ∨ j = 10 ∨ j = 11 ∨ j = 12 ∨ j = 13 ∨ j = 14 ∨ j = 15 ∨ j = 16 ∨ j = 17 ∨ j = 18 ∨ j = 19 ∨ j = 20 ∨ j = 21 ∨ j = 22 ∨ j = 23 by omega) with rfl | rfl | rfl | rfl | rfl | rfl | rfl | rfl | rfl | rfl | rfl | rfl | rfl | rfl | rfl | rfl | rfl | rfl | rfl | rfl | rfl | rfl | rfl | rfl <;> rfl) ⟨Nat.le_of_ble_eq_true rfl, Nat.le_of_ble_eq_true rfl⟩ dL_law_8 (fun y => ?_)
  refine U_dup X dL_law_11 rfl ?_
  refine U_callI (As := []) (st := [.ref y]) X (nwX11 g y) (c_I_X11 l) (cwI 0 X.2.2.2.1 gL_law_X11_init rfl rfl rfl (X.2.2.2.1 _ lkL_init2.2.2.1) (X.2.2.2.1 _ lkL_init2.1) (X.2.2.2.1 _ lkL_init2.2.1) rfl (by decide +kernel) ⟨Nat.le_of_ble_eq_true rfl, Nat.le_of_ble_eq_true rfl⟩) rfl (Nat.le_of_ble_eq_true rfl) ⟨Nat.le_of_ble_eq_true rfl, Nat.le_of_ble_eq_true rfl⟩ rfl dL_law_12 (fun h' => ?_)
  refine U_astore_n (lv1 := [(0, .ref b), (1, .ref x), (2, .ref y)]) X [1, 2, 0] dL_law_15 rfl (by decide) rfl ?_
  refine U_iconst X dL_law_16 ?_
  refine U_newa (ty := .long) (t0 := 2) (N := 1) (a0 := (1, .inr (.inl (fun _ => Int64.ofInt 0)))) X lkL_init2.2.2.2.2.2 rfl (fun _ h => nomatch h) rfl (fun _ => rfl) rfl (Nat.le_of_ble_eq_true rfl) (Nat.le_of_ble_eq_true rfl) ⟨Nat.le_of_ble_eq_true rfl, Nat.le_of_ble_eq_true rfl⟩ dL_law_17 (fun z => ?_)
  refine U_astore_n (lv1 := [(0, .ref b), (1, .ref x), (2, .ref y), (3, .ref z)]) X [1, 2, 3, 0] dL_law_19 rfl (by decide) rfl ?_
  refine U_iconst X dL_law_20 ?_
  refine U_istore (lv1 := [(0, .ref b), (1, .ref x), (2, .ref y), (3, .ref z), (4, iv 0)]) X [1, 2, 3, 4, 0] dL_law_21 (by decide) rfl ?_
  refine U_tl (tl1 := W3 g x y z h h') rfl ?_
  refine U_first ?_
  refine V_widen (k1 := 100) (n1 := 40000) (by decide) (by decide) ?_
  exact law_loop X hY hlt hXS hend 513 0 100 40000 (aF x y h) (bF z h h') M0 C0 (by decide) (by omega) (by decide) (by decide) first_St
