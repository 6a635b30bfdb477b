/-! top-down distances: the class -/
section TDC
variable {C : Nat → Nat → Int}
theorem last_ex (P : Nat → Prop) (hd : ∀ x : Nat, P x ∨ ¬ P x) (lo : Nat) : ∀ hi : Nat, (∃ x : Nat, lo ≤ x ∧ x < hi ∧ P x) → ∃ c : Nat, lo ≤ c ∧ c < hi ∧ P c ∧ ∀ r : Nat, c < r → r < hi → ¬ P r := by
  intro hi
  induction hi with
  | zero => intro ⟨x, _, h, _⟩; omega
  | succ h ih =>
    intro ⟨x, h1, h2, h3⟩
    rcases hd h with c | c
    · by_cases g : lo ≤ h
      · exact ⟨h, g, by omega, c, fun r r1 r2 => by omega⟩
      · omega
    · have hx : x ≠ h := fun e => c (e ▸ h3)
      obtain ⟨c', c1, c2, c3, c4⟩ := ih ⟨x, h1, by omega, h3⟩
      refine ⟨c', c1, by omega, c3, fun r r1 r2 => ?_⟩
      by_cases e : r = h
      · rw [e]; exact c
      · exact c4 r r1 (by omega)
/-- children before a place, the last one first -/
def rpl (C : Nat → Nat → Int) (t a i : Nat) : List Nat := ((rg (a + 1) i).filter (fun x => decide (cL C t x = cL C t a + 1))).reverse
theorem rpl_nil {t a : Nat} : rpl C t a (a + 1) = [] := by
  unfold rpl
  rw [rg_nil (Nat.le_refl _)]
  rfl
theorem ChS.prev (hW : WF C) {t a i : Nat} (ht : t < 2) (ha : a < cn C t) (h : ChS C t a i) (hi : a + 1 < i) : ∃ c : Nat, ChS C t a c ∧ c < i ∧ ce C t c = i ∧ cL C t c = cL C t a + 1 ∧ rpl C t a i = c :: rpl C t a c := by
  obtain ⟨k1, k2, k3⟩ := h
  have z := hW.e (C := C) (t := t) ha
  have f := (ChS.first hW ht ha).2.2 (by omega)
  obtain ⟨c, c1, c2, c3, c4⟩ := last_ex (fun x => cL C t x = cL C t a + 1) (fun x => Decidable.em _) (a + 1) i ⟨a + 1, Nat.le_refl _, hi, f⟩
  have E : isE (cL C t) (cn C t) c i := by
    refine ⟨c2, by omega, fun q q1 q2 => ?_, fun q => ?_⟩
    · have m := eN_in (L := cL C t) (n := cn C t) ha (q := q) (by omega) (by unfold ce at k2; omega)
      have n := c4 q q1 q2
      omega
    · by_cases g : i < ce C t a
      · have := k3 g
        omega
      · have e : i = ce C t a := by omega
        subst e
        have := eN_at (L := cL C t) (n := cn C t) ha q
        unfold ce
        omega
  have ec : ce C t c = i := (isE_uniq E (eN_spec (by omega))).symm
  refine ⟨c, ⟨by omega, by omega, fun _ => c3⟩, c2, ec, c3, ?_⟩
  unfold rpl
  rw [rg_app (i := a + 1) (j := c) (k := i) c1 (by omega), rg_cons c2, List.filter_append, List.filter_cons_of_pos (by simpa using c3), List.reverse_append]
  have e : (rg (c + 1) i).filter (fun x => decide (cL C t x = cL C t a + 1)) = [] := List.filter_eq_nil_iff.mpr (fun x hx => by
    have m := mem_rg.mp hx
    have n := c4 x (by omega) m.2
    rw [decide_eq_true_eq]
    exact n)
  rw [e]
  rfl
theorem sm_sub0 (hW : WF C) {x : Nat} (hx : x < cn C 0) : sm (fn C 0 0) (rF C 0 0 x) (x + 1) = delS C (pl C 0 0 x) := by
  have e := RQ_post (pr := fun _ _ => 0) (pr' := fun _ _ => 0) (i := rF C 0 0 x) (j := x + 1) (k := 0) (l := 0) (c := 0) (d := 0) hW (fun _ _ _ _ => rfl) (by omega) (hW.e (pl_lt hW (by omega) hx)).2 (Nat.zero_le _) (Nat.zero_le _) (post_sub hW (by omega) hx) (fun z hz => by omega)
  unfold RQ at e
  rw [rr_nil (a := 0) (Nat.le_refl _), rg_nil (i := 0) (Nat.le_refl _), dd_rl, dd_sl _ _ _ _ (Nat.le_refl _)] at e
  exact e
theorem sm_sub1 (hW : WF C) {x : Nat} (hx : x < cn C 1) : sm (fn C 1 0) (rF C 1 0 x) (x + 1) = insS C (pl C 1 0 x) := by
  have e := RQ_post (pr := fun _ _ => 0) (pr' := fun _ _ => 0) (i := 0) (j := 0) (a := 0) (b := 0) (k := rF C 1 0 x) (l := x + 1) hW (fun _ _ _ _ => rfl) (Nat.zero_le _) (Nat.zero_le _) (by omega) (hW.e (pl_lt hW (by omega) hx)).2 (fun z hz => by omega) (post_sub hW (by omega) hx)
  unfold RQ at e
  rw [rr_nil (a := 0) (Nat.le_refl _), rg_nil (i := 0) (Nat.le_refl _), dd_rrr, dd_sr _ _ _ _ (Nat.le_refl _)] at e
  exact e
theorem sm_all0 (hW : WF C) : sm (fn C 0 0) 0 (cn C 0) = sm (cdl C) 0 (cn C 0) := by
  have e := RQ_post (pr := fun _ _ => 0) (pr' := fun _ _ => 0) (i := 0) (j := cn C 0) (k := 0) (l := 0) (c := 0) (d := 0) hW (fun _ _ _ _ => rfl) (Nat.le_refl _) (Nat.le_refl _) (Nat.zero_le _) (Nat.zero_le _) (post_all hW (by omega)) (fun z hz => by omega)
  unfold RQ at e
  rw [rr_nil (a := 0) (b := 0) (Nat.le_refl _), rg_nil (i := 0) (j := 0) (Nat.le_refl _), dd_rl, dd_sl _ _ _ _ (Nat.le_refl _)] at e
  exact e
theorem sm_all1 (hW : WF C) : sm (fn C 1 0) 0 (cn C 1) = sm (cil C) 0 (cn C 1) := by
  have e := RQ_post (pr := fun _ _ => 0) (pr' := fun _ _ => 0) (i := 0) (j := 0) (a := 0) (b := 0) (k := 0) (l := cn C 1) hW (fun _ _ _ _ => rfl) (Nat.zero_le _) (Nat.zero_le _) (Nat.le_refl _) (Nat.le_refl _) (fun z hz => by omega) (post_all hW (by omega))
  unfold RQ at e
  rw [rr_nil (a := 0) (b := 0) (Nat.le_refl _), rg_nil (i := 0) (j := 0) (Nat.le_refl _), dd_rrr, dd_sr _ _ _ _ (Nat.le_refl _)] at e
  exact e
def P5 (o k : Nat) : Bool := o == 5
theorem RowP.fr5 {M M' : Mem} {o t : Nat} (h : RowP C M o t 0) (ho : o = 9 + t) (ht : t < 2) (hF : Fr P5 M M') : RowP C M' o t 0 := by
  have e : P5 o 0 = false := by
    simp only [P5, beq_eq_false_iff_ne]
    omega
  exact h.fr hF e e e e e e
/-- a row of children, by their places in postorder -/
def CLs (C : Nat → Nat → Int) (M : Mem) (t a kd k : Nat) : Prop := ∀ z w : Nat, z < k → (chl C t a).reverse[z]? = some w → M 5 kd z = (po (cL C t) (cn C t) w : Int)
theorem sp_listChildren {M : Mem} {Q : Int → Mem → Prop} {t o p kd : Nat} {p1 : Int} (hW : WF C) (ht : t < 2) (ho : o = 9 + t) (hR : RowP C M o t 0) (hB : Bd M) (hp : p < cn C t) (e1 : p1 = p) (K : ∀ M' : Mem, Fr (fun o1 k1 => o1 == 5 && k1 == kd) M M' → Bd M' → CLs C M' t (pl C t 0 p) kd (chl C t (pl C t 0 p)).length → Q ((chl C t (pl C t 0 p)).length : Int) M') : wp_X8_listChildren M o p1 5 kd 12 Q := by
  subst e1
  have n := hW.n12 ht
  have la := pl_lt (b := 0) hW ht hp
  have fz := rF_0 hW ht hp
  have za := hW.e (C := C) (t := t) la
  have ll := chF_len hW ht la
  unfold wp_X8_listChildren
  refine ⟨fun n x3 x4 x5 M1 => ∃ k i x : Nat, x3 = k ∧ x4 = (i : Int) - cL C t (pl C t 0 p) - 2 ∧ x5 = (x : Int) - 1 ∧ ChS C t (pl C t 0 p) i ∧ (chl C t (pl C t 0 p)).reverse.drop k = rpl C t (pl C t 0 p) i ∧ k ≤ (chl C t (pl C t 0 p)).length ∧ (i : Int) - cL C t (pl C t 0 p) - 2 ≤ (x : Int) - 1 ∧ rF C t 0 p ≤ x ∧ x ≤ p ∧ n = x + 1 ∧ Fr (fun o1 k1 => o1 == 5 && k1 == kd) M M1 ∧ Bd M1 ∧ CLs C M1 t (pl C t 0 p) kd k, ?_, ?_⟩
  · unfold wpe_X8_listChildren
    intro y1 e1 y2 e2
    exact ⟨_, 0, ce C t (pl C t 0 p), p, rfl, by omega, by omega, ⟨by omega, Nat.le_refl _, fun h => absurd h (Nat.lt_irrefl _)⟩, rfl, Nat.zero_le _, by omega, by omega, Nat.le_refl _, rfl, Fr.rf, hB, fun z w hz => absurd hz (Nat.not_lt_zero _)⟩
  · intro n x3 x4 x5 M1 ⟨k, i, x, e3, e4, e5, hi, hd, hk, hx1, hx2, hx3, hn, hF, hB1, hL⟩
    subst e3; subst e4; subst e5; subst hn
    have h50 : ∀ k' : Nat, (fun o1 k1 => o1 == 5 && k1 == kd) o k' = false := fun k' => by
      dsimp only
      rw [Bool.and_eq_false_iff, beq_eq_false_iff_ne]
      exact Or.inl (by omega)
    have R1 := hR.fr hF (h50 _) (h50 _) (h50 _) (h50 _) (h50 _) (h50 _)
    have hi1 := hi.1
    have hi2 := hi.2.1
    unfold wph_X8_listChildren_12 wpj_X8_listChildren_55
    rw [Int.toNat_natCast, (R1.2.1 p hp).2.1]
    refine ⟨⟨by omega, by omega⟩, ⟨by omega, by omega⟩, ⟨by omega, by omega⟩, fun h => ?_, fun h => ⟨⟨by omega, by omega⟩, ⟨by omega, by omega⟩, fun h2 => ⟨x - 1 + 1, by omega, k, i, x - 1, rfl, rfl, by omega, hi, hd, hk, by omega, by omega, by omega, rfl, hF, hB1, hL⟩, fun h2 => ⟨⟨by omega, by omega⟩, ⟨by omega, by omega⟩, fun h3 => absurd h3 (by omega), fun h3 => ⟨⟨by omega, by omega⟩, fun M13 e13 => ?_⟩⟩⟩⟩
    · have e : i = pl C t 0 p + 1 := by omega
      subst e
      rw [rpl_nil] at hd
      have := congrArg List.length hd
      rw [List.length_drop, List.length_nil, List.length_reverse] at this
      have ek : k = (chl C t (pl C t 0 p)).length := by omega
      subst ek
      exact K M1 hF hB1 hL
    · obtain ⟨c, c1, c2, c3, c4, c5⟩ := hi.prev hW ht la (by omega)
      have hc : c < cn C t := by omega
      have pc := po_add (hW.wl ht) hc
      have px : po (cL C t) (cn C t) c = x - 1 := by unfold ce at c3; omega
      have plx : pl C t 0 (x - 1) = c := by rw [← px]; exact po_pl hW ht hc
      have rx := rF_0 hW ht (p := x - 1) (by omega)
      rw [plx] at rx
      rw [c5] at hd
      obtain ⟨d1, d2, d3⟩ := take_step hd
      rw [List.length_reverse] at d3
      rw [Int.toNat_natCast] at e13
      have F13 : Fr (fun o1 k1 => o1 == 5 && k1 == kd) M M13 := e13 ▸ hF.set (by simp)
      have R13 := hR.fr F13 (h50 _) (h50 _) (h50 _) (h50 _) (h50 _) (h50 _)
      rw [show ((x : Int) - 1).toNat = x - 1 from by omega, (R13.2.1 (x - 1) (by omega)).2.1]
      refine ⟨⟨by omega, by omega⟩, fun y16 e16 => ⟨x - 1 + 1, by omega, k + 1, c, x - 1, by omega, by omega, by omega, c1, d2, by omega, by omega, by omega, by omega, rfl, F13, e13 ▸ hB1.set (by omega) (by omega), fun z w hz hw => ?_⟩⟩
      rw [e13, mset_i]
      by_cases g : z = k
      · subst g
        rw [if_pos rfl]
        have hh : (chl C t (pl C t 0 p)).reverse[z]? = some c := by
          have := congrArg (fun l => l[0]?) hd
          simpa [List.getElem?_drop] using this
        rw [hh] at hw
        injection hw with hw
        rw [← hw, px]
        omega
      · rw [if_neg g]
        exact hL z w (by omega) hw
theorem sp_subtreeAlone {M : Mem} {Q : Int → Mem → Prop} {t o x : Nat} {p1 : Int} (hW : WF C) (ht : t < 2) (hR : RowP C M o t 0) (hx : x < cn C t) (e1 : p1 = x) (K : Q (sm (fn C t 0) (rF C t 0 x) (x + 1)) M) : wp_X8_subtreeAlone M o p1 Q := by
  subst e1
  have n := hW.n12 ht
  have s := (rF_sz (b := 0) hW ht hx).1
  unfold wp_X8_subtreeAlone wpe_X8_subtreeAlone
  rw [Int.toNat_natCast, (hR.2.1 x hx).2.1]
  refine ⟨⟨by omega, by omega⟩, sp_allAlone (u := rF C t 0 x) (v := x + 1) rfl (by omega) (by omega) (by omega) ?_⟩
  have ap := sm_app (fn C t 0) (i := 0) (j := rF C t 0 x) (k := x + 1) (Nat.zero_le _) (by omega)
  rw [hR.2.2 (x + 1) (by omega), hR.2.2 (rF C t 0 x) (by omega), show sm (fn C t 0) 0 (x + 1) - sm (fn C t 0) 0 (rF C t 0 x) = sm (fn C t 0) (rF C t 0 x) (x + 1) from by omega]
  exact K
def OP (C : Nat → Nat → Int) (M : Mem) (dn : Nat → Nat → Prop) : Prop := ∀ x y : Nat, x < cn C 0 → y < cn C 1 → dn x y → M 5 1 (x * 12 + y) = tdc C (pl C 0 0 x) (pl C 1 0 y)
def P5a (o k : Nat) : Bool := o == 5 && (k == 2 || k == 3 || k == 4)
theorem get_po (hW : WF C) {t a z w : Nat} (ht : t < 2) (ha : a < cn C t) (h : (chl C t a).reverse[z]? = some w) : w ∈ chl C t a ∧ po (cL C t) (cn C t) w < po (cL C t) (cn C t) a ∧ pl C t 0 (po (cL C t) (cn C t) w) = w := by
  have m : w ∈ chl C t a := List.mem_reverse.mp (List.mem_of_getElem? h)
  have i := chl_in hW ha m
  have q := (mem_chF.mp m).1
  exact ⟨m, po_anc (hW.wl ht) ha i.1 q.2, po_pl hW ht i.2⟩
set_option maxHeartbeats 8000000 in
theorem sp_alignChildren {M : Mem} {Q : Int → Mem → Prop} {p q : Nat} {p0 p1 : Int} (hW : WF C) (hR0 : RowP C M 9 0 0) (hR1 : RowP C M 10 1 0) (hB : Bd M) (hO : OP C M (fun x _ => x < p)) (hp : p < cn C 0) (hq : q < cn C 1) (e0 : p0 = p) (e1 : p1 = q) (K : ∀ M' : Mem, Fr P5a M M' → Bd M' → Q (AL (delS C) (insS C) (tdc C) (chl C 0 (pl C 0 0 p)) (chl C 1 (pl C 1 0 q))) M') : wp_X8_alignChildren M p0 p1 Q := by
  subst e0; subst e1
  have n0 := hW.n12 (t := 0) (by omega)
  have n1 := hW.n12 (t := 1) (by omega)
  have la := pl_lt (b := 0) hW (t := 0) (by omega) hp
  have lb := pl_lt (b := 0) hW (t := 1) (by omega) hq
  have lx := chF_len hW (t := 0) (by omega) la
  have ly := chF_len hW (t := 1) (by omega) lb
  have pa := pl_po hW (t := 0) (by omega) hp
  have pb := pl_po hW (t := 1) (by omega) hq
  have BB : ∀ h k : Nat, 0 ≤ AL (delS C) (insS C) (tdc C) ((chl C 0 (pl C 0 0 p)).reverse.take h).reverse ((chl C 1 (pl C 1 0 q)).reverse.take k).reverse ∧ AL (delS C) (insS C) (tdc C) ((chl C 0 (pl C 0 0 p)).reverse.take h).reverse ((chl C 1 (pl C 1 0 q)).reverse.take k).reverse ≤ 13200 := fun h k => by
    have t3 := List.length_take_le' h (chl C 0 (pl C 0 0 p)).reverse
    have t4 := List.length_take_le' k (chl C 1 (pl C 1 0 q)).reverse
    rw [List.length_reverse] at t3 t4
    exact ALs_bd hW la lb (fun x hx => List.mem_reverse.mp (List.mem_of_mem_take (List.mem_reverse.mp hx))) (fun x hx => List.mem_reverse.mp (List.mem_of_mem_take (List.mem_reverse.mp hx))) (by rw [List.length_reverse]; omega) (by rw [List.length_reverse]; omega)
  have stp : ∀ (t a k : Nat), k < (chl C t a).length → ∃ w : Nat, (chl C t a).reverse[k]? = some w ∧ ((chl C t a).reverse.take (k + 1)).reverse = w :: ((chl C t a).reverse.take k).reverse := fun t a k hk => by
    have hk' : k < (chl C t a).reverse.length := by rw [List.length_reverse]; exact hk
    exact ⟨(chl C t a).reverse[k], List.getElem?_eq_getElem hk', (take_step (List.drop_eq_getElem_cons hk')).1⟩
  unfold wp_X8_alignChildren
  refine ⟨fun n x5 x6 x7 M1 => ∃ i : Nat, x5 = ((chl C 0 (pl C 0 0 p)).length : Int) ∧ x6 = ((chl C 1 (pl C 1 0 q)).length : Int) ∧ x7 = (i : Int) + 1 ∧ i ≤ (chl C 0 (pl C 0 0 p)).length ∧ n = 10000 + (50 - i) ∧ Fr P5a M M1 ∧ Bd M1 ∧ CLs C M1 0 (pl C 0 0 p) 3 (chl C 0 (pl C 0 0 p)).length ∧ CLs C M1 1 (pl C 1 0 q) 4 (chl C 1 (pl C 1 0 q)).length ∧ (∀ h : Nat, h ≤ i → M1 5 2 (h * 13) = AL (delS C) (insS C) (tdc C) ((chl C 0 (pl C 0 0 p)).reverse.take h).reverse []),
    fun n x5 x6 x7 M1 => ∃ j : Nat, x5 = ((chl C 0 (pl C 0 0 p)).length : Int) ∧ x6 = ((chl C 1 (pl C 1 0 q)).length : Int) ∧ x7 = (j : Int) + 1 ∧ j ≤ (chl C 1 (pl C 1 0 q)).length ∧ n = 5000 + (50 - j) ∧ Fr P5a M M1 ∧ Bd M1 ∧ CLs C M1 0 (pl C 0 0 p) 3 (chl C 0 (pl C 0 0 p)).length ∧ CLs C M1 1 (pl C 1 0 q) 4 (chl C 1 (pl C 1 0 q)).length ∧ (∀ h : Nat, h ≤ (chl C 0 (pl C 0 0 p)).length → M1 5 2 (h * 13) = AL (delS C) (insS C) (tdc C) ((chl C 0 (pl C 0 0 p)).reverse.take h).reverse []) ∧ (∀ k : Nat, k ≤ j → M1 5 2 k = AL (delS C) (insS C) (tdc C) [] ((chl C 1 (pl C 1 0 q)).reverse.take k).reverse),
    fun n x5 x6 x7 M1 => ∃ i : Nat, x5 = ((chl C 0 (pl C 0 0 p)).length : Int) ∧ x6 = ((chl C 1 (pl C 1 0 q)).length : Int) ∧ x7 = (i : Int) + 1 ∧ i ≤ (chl C 0 (pl C 0 0 p)).length ∧ n = (50 - i) * 40 ∧ Fr P5a M M1 ∧ Bd M1 ∧ CLs C M1 0 (pl C 0 0 p) 3 (chl C 0 (pl C 0 0 p)).length ∧ CLs C M1 1 (pl C 1 0 q) 4 (chl C 1 (pl C 1 0 q)).length ∧ (∀ h k : Nat, h ≤ (chl C 0 (pl C 0 0 p)).length → k ≤ (chl C 1 (pl C 1 0 q)).length → (h ≤ i ∨ k = 0) → M1 5 2 (h * 13 + k) = AL (delS C) (insS C) (tdc C) ((chl C 0 (pl C 0 0 p)).reverse.take h).reverse ((chl C 1 (pl C 1 0 q)).reverse.take k).reverse),
    fun n x5 x6 x7 x8 M1 => ∃ i j : Nat, x5 = ((chl C 0 (pl C 0 0 p)).length : Int) ∧ x6 = ((chl C 1 (pl C 1 0 q)).length : Int) ∧ x7 = (i : Int) + 1 ∧ x8 = (j : Int) + 1 ∧ i < (chl C 0 (pl C 0 0 p)).length ∧ j ≤ (chl C 1 (pl C 1 0 q)).length ∧ n = (50 - i) * 40 - 1 - j ∧ Fr P5a M M1 ∧ Bd M1 ∧ CLs C M1 0 (pl C 0 0 p) 3 (chl C 0 (pl C 0 0 p)).length ∧ CLs C M1 1 (pl C 1 0 q) 4 (chl C 1 (pl C 1 0 q)).length ∧ (∀ h k : Nat, h ≤ (chl C 0 (pl C 0 0 p)).length → k ≤ (chl C 1 (pl C 1 0 q)).length → (h ≤ i ∨ k = 0 ∨ h = i + 1 ∧ k ≤ j) → M1 5 2 (h * 13 + k) = AL (delS C) (insS C) (tdc C) ((chl C 0 (pl C 0 0 p)).reverse.take h).reverse ((chl C 1 (pl C 1 0 q)).reverse.take k).reverse), ?_, ?_, ?_, ?_, ?_⟩
  · unfold wpe_X8_alignChildren
    refine sp_listChildren hW (t := 0) (by omega) rfl hR0 hB hp rfl (fun M2 F2 B2 L2 => ?_)
    have f2 : Fr P5a M M2 := F2.mono (fun o k h => by
      simp only [Bool.and_eq_true, beq_iff_eq] at h
      simp only [P5a, Bool.and_eq_true, Bool.or_eq_true, beq_iff_eq]
      omega)
    refine sp_listChildren hW (t := 1) (by omega) rfl (hR1.fr f2 rfl rfl rfl rfl rfl rfl) B2 hq rfl (fun M4 F4 B4 L4 M5 e5 => ?_)
    have f4 : Fr P5a M2 M4 := F4.mono (fun o k h => by
      simp only [Bool.and_eq_true, beq_iff_eq] at h
      simp only [P5a, Bool.and_eq_true, Bool.or_eq_true, beq_iff_eq]
      omega)
    refine ⟨_, 0, rfl, rfl, rfl, Nat.zero_le _, rfl, e5 ▸ (f2.tr f4).set rfl, e5 ▸ B4.set (by omega) (by omega), fun z w hz hw => ?_, fun z w hz hw => ?_, fun h hh => ?_⟩
    · rw [e5, mset_ne (by omega), F4 5 3 z rfl]
      exact L2 z w hz hw
    · rw [e5, mset_ne (by omega)]
      exact L4 z w hz hw
    · rw [show h = 0 from by omega, e5]
      exact mset_eq.trans AL_nn.symm
  · intro n x5 x6 x7 M1 ⟨i, e5, e6, e7, hi, hn, hF, hB1, hL0, hL1, hc⟩
    subst e5; subst e6; subst e7; subst hn
    unfold wph_X8_alignChildren_50
    refine ⟨⟨by omega, by omega⟩, ⟨by omega, by omega⟩, fun h => ⟨5000 + (50 - 0), by omega, 0, rfl, rfl, rfl, Nat.zero_le _, rfl, hF, hB1, hL0, hL1, fun h' hh => hc h' (by omega), fun k hk => ?_⟩, fun h => ?_⟩
    · have := hc 0 (Nat.zero_le _)
      rw [show k = 0 from by omega]
      exact this
    · obtain ⟨w, w1, w2⟩ := stp 0 (pl C 0 0 p) i (by omega)
      obtain ⟨m1, m2, m3⟩ := get_po hW (by omega) la w1
      have lw := chl_in hW la m1
      have b1 := BB (i + 1) 0
      have lp := po_lt (hW.wl (t := 0) (by omega)) lw.2
      rw [show (((i : Int) + 1 - 1) * 13).toNat = i * 13 from by omega, show ((i : Int) + 1 - 1).toNat = i from by omega, show (((i : Int) + 1) * 13).toNat = (i + 1) * 13 from by omega, hL0 i w (by omega) w1, hc i (Nat.le_refl _)]
      refine ⟨⟨by omega, by omega⟩, ⟨by omega, by omega⟩, sp_subtreeAlone hW (by omega) (hR0.fr hF rfl rfl rfl rfl rfl rfl) lp rfl ?_⟩
      rw [sm_sub0 hW lp, m3]
      have v : AL (delS C) (insS C) (tdc C) ((chl C 0 (pl C 0 0 p)).reverse.take i).reverse [] + delS C w = AL (delS C) (insS C) (tdc C) ((chl C 0 (pl C 0 0 p)).reverse.take (i + 1)).reverse [] := by
        rw [w2, AL_cn, Int.add_comm]
      rw [v]
      have b1' : 0 ≤ AL (delS C) (insS C) (tdc C) ((chl C 0 (pl C 0 0 p)).reverse.take (i + 1)).reverse [] ∧ AL (delS C) (insS C) (tdc C) ((chl C 0 (pl C 0 0 p)).reverse.take (i + 1)).reverse [] ≤ 13200 := b1
      refine ⟨⟨by omega, by omega⟩, fun M14 e14 => ?_⟩
      subst e14
      refine ⟨10000 + (50 - (i + 1)), by omega, i + 1, rfl, rfl, by omega, by omega, rfl, hF.set rfl, hB1.set (by omega) (by omega), fun z w hz hw => by rw [mset_ne (by omega)]; exact hL0 z w hz hw, fun z w hz hw => by rw [mset_ne (by omega)]; exact hL1 z w hz hw, fun h' hh => ?_⟩
      rw [mset_i]
      by_cases c : h' = i + 1
      · rw [if_pos (by omega), c]
      · rw [if_neg (by omega)]
        exact hc h' (by omega)
  · intro n x5 x6 x7 M1 ⟨j, e5, e6, e7, hj, hn, hF, hB1, hL0, hL1, hc, hr⟩
    subst e5; subst e6; subst e7; subst hn
    unfold wph_X8_alignChildren_102
    refine ⟨⟨by omega, by omega⟩, ⟨by omega, by omega⟩, fun h => ⟨(50 - 0) * 40, by omega, 0, rfl, rfl, rfl, Nat.zero_le _, rfl, hF, hB1, hL0, hL1, fun h' k h1 h2 h3 => ?_⟩, fun h => ?_⟩
    · by_cases c : k = 0
      · rw [c]
        exact hc h' h1
      · have e : h' = 0 := by omega
        rw [e, Nat.zero_mul, Nat.zero_add]
        exact hr k (by omega)
    · obtain ⟨w, w1, w2⟩ := stp 1 (pl C 1 0 q) j (by omega)
      obtain ⟨m1, m2, m3⟩ := get_po hW (by omega) lb w1
      have lw := chl_in hW lb m1
      have b1 := BB 0 (j + 1)
      have lp := po_lt (hW.wl (t := 1) (by omega)) lw.2
      rw [show ((j : Int) + 1 - 1).toNat = j from by omega, show ((j : Int) + 1).toNat = j + 1 from by omega, hL1 j w (by omega) w1, hr j (Nat.le_refl _)]
      refine ⟨⟨by omega, by omega⟩, ⟨by omega, by omega⟩, sp_subtreeAlone hW (by omega) (hR1.fr hF rfl rfl rfl rfl rfl rfl) lp rfl ?_⟩
      rw [sm_sub1 hW lp, m3]
      have v : AL (delS C) (insS C) (tdc C) [] ((chl C 1 (pl C 1 0 q)).reverse.take j).reverse + insS C w = AL (delS C) (insS C) (tdc C) [] ((chl C 1 (pl C 1 0 q)).reverse.take (j + 1)).reverse := by
        rw [w2, AL_nc, Int.add_comm]
      rw [v]
      have b1' : 0 ≤ AL (delS C) (insS C) (tdc C) [] ((chl C 1 (pl C 1 0 q)).reverse.take (j + 1)).reverse ∧ AL (delS C) (insS C) (tdc C) [] ((chl C 1 (pl C 1 0 q)).reverse.take (j + 1)).reverse ≤ 13200 := b1
      refine ⟨⟨by omega, by omega⟩, fun M23 e23 => ?_⟩
      subst e23
      refine ⟨5000 + (50 - (j + 1)), by omega, j + 1, rfl, rfl, by omega, by omega, rfl, hF.set rfl, hB1.set (by omega) (by omega), fun z w hz hw => by rw [mset_ne (by omega)]; exact hL0 z w hz hw, fun z w hz hw => by rw [mset_ne (by omega)]; exact hL1 z w hz hw, fun h' hh => ?_, fun k hk => ?_⟩
      · rw [mset_ne (by omega)]
        exact hc h' hh
      · rw [mset_i]
        by_cases c : k = j + 1
        · rw [if_pos c, c]
        · rw [if_neg c]
          exact hr k (by omega)
  · intro n x5 x6 x7 M1 ⟨i, e5, e6, e7, hi, hn, hF, hB1, hL0, hL1, hT⟩
    subst e5; subst e6; subst e7; subst hn
    unfold wph_X8_alignChildren_149
    refine ⟨⟨by omega, by omega⟩, ⟨by omega, by omega⟩, fun h => ⟨⟨by omega, by omega⟩, ?_⟩, fun h => ⟨(50 - i) * 40 - 1 - 0, by omega, i, 0, rfl, rfl, rfl, rfl, by omega, Nat.zero_le _, rfl, hF, hB1, hL0, hL1, fun h' k h1 h2 h3 => hT h' k h1 h2 (by omega)⟩⟩
    rw [show (((chl C 0 (pl C 0 0 p)).length : Int) * 13 + ((chl C 1 (pl C 1 0 q)).length : Int)).toNat = (chl C 0 (pl C 0 0 p)).length * 13 + (chl C 1 (pl C 1 0 q)).length from by omega, hT _ _ (Nat.le_refl _) (Nat.le_refl _) (by omega)]
    have e1 : (chl C 0 (pl C 0 0 p)).reverse.take (chl C 0 (pl C 0 0 p)).length = (chl C 0 (pl C 0 0 p)).reverse := List.take_of_length_le (by rw [List.length_reverse]; exact Nat.le_refl _)
    have e2 : (chl C 1 (pl C 1 0 q)).reverse.take (chl C 1 (pl C 1 0 q)).length = (chl C 1 (pl C 1 0 q)).reverse := List.take_of_length_le (by rw [List.length_reverse]; exact Nat.le_refl _)
    rw [e1, e2, List.reverse_reverse, List.reverse_reverse]
    exact K M1 hF hB1
  · intro n x5 x6 x7 x8 M1 ⟨i, j, e5, e6, e7, e8, hi, hj, hn, hF, hB1, hL0, hL1, hT⟩
    subst e5; subst e6; subst e7; subst e8; subst hn
    unfold wph_X8_alignChildren_159
    refine ⟨⟨by omega, by omega⟩, ⟨by omega, by omega⟩, fun h => ⟨(50 - (i + 1)) * 40, by omega, i + 1, rfl, rfl, by omega, by omega, rfl, hF, hB1, hL0, hL1, fun h' k h1 h2 h3 => hT h' k h1 h2 (by omega)⟩, fun h y32 e32 => ?_⟩
    obtain ⟨u, u1, u2⟩ := stp 0 (pl C 0 0 p) i (by omega)
    obtain ⟨w, w1, w2⟩ := stp 1 (pl C 1 0 q) j (by omega)
    obtain ⟨m1, m2, m3⟩ := get_po hW (by omega) la u1
    obtain ⟨k1, k2, k3⟩ := get_po hW (by omega) lb w1
    have lu := chl_in hW la m1
    have lw := chl_in hW lb k1
    have lpu := po_lt (hW.wl (t := 0) (by omega)) lu.2
    have lpw := po_lt (hW.wl (t := 1) (by omega)) lw.2
    have b1 := BB i (j + 1)
    have b2 := BB (i + 1) j
    have b3 := BB i j
    have b4 := BB (i + 1) (j + 1)
    have ds := delS_bd hW lu.2
    have is := insS_bd hW lw.2
    have tb := td_bd hW lu.2 lw.2
    have v := AL_cc (d := delS C) (i := insS C) (pr := tdc C) u ((chl C 0 (pl C 0 0 p)).reverse.take i).reverse w ((chl C 1 (pl C 1 0 q)).reverse.take j).reverse
    rw [← u2, ← w2] at v
    have tc : 0 ≤ tdc C u w ∧ tdc C u w ≤ 1000000 := by
      unfold tdc
      split <;> omega
    have z32 : y32 = (((i + 1) * 13 + (j + 1) : Nat) : Int) := by omega
    clear e32
    subst z32
    rw [show ((i : Int) + 1 - 1).toNat = i from by omega, show ((j : Int) + 1 - 1).toNat = j from by omega, hL0 i u (by omega) u1, hL1 j w (by omega) w1]
    refine ⟨⟨by omega, by omega⟩, fun y34 e34 => ⟨⟨by omega, by omega⟩, fun y36 e36 => ?_⟩⟩
    subst e34; subst e36
    rw [show ((((i + 1) * 13 + (j + 1) : Nat) : Int) - 13).toNat = i * 13 + (j + 1) from by omega, show ((((i + 1) * 13 + (j + 1) : Nat) : Int) - 1).toNat = (i + 1) * 13 + j from by omega, show ((((i + 1) * 13 + (j + 1) : Nat) : Int) - 13 - 1).toNat = i * 13 + j from by omega]
    refine ⟨⟨by omega, by omega⟩, sp_subtreeAlone hW (by omega) (hR0.fr hF rfl rfl rfl rfl rfl rfl) lpu rfl ?_⟩
    rw [sm_sub0 hW lpu, m3]
    refine ⟨⟨by omega, by omega⟩, sp_subtreeAlone hW (by omega) (hR1.fr hF rfl rfl rfl rfl rfl rfl) lpw rfl ?_⟩
    rw [sm_sub1 hW lpw, k3, hT i (j + 1) (by omega) (by omega) (Or.inl (Nat.le_refl _)), hT (i + 1) j (by omega) (by omega) (by omega), hT i j (by omega) (by omega) (Or.inl (Nat.le_refl _))]
    rw [show ((po (cL C 0) (cn C 0) u : Int) * 12 + (po (cL C 1) (cn C 1) w : Int)).toNat = po (cL C 0) (cn C 0) u * 12 + po (cL C 1) (cn C 1) w from by omega]
    have ho : M1 5 1 (po (cL C 0) (cn C 0) u * 12 + po (cL C 1) (cn C 1) w) = tdc C u w := by
      rw [hF 5 1 _ rfl, hO _ _ lpu lpw (by omega), m3, k3]
    rw [ho]
    refine ⟨⟨by omega, by omega⟩, ⟨by omega, by omega⟩, fun y45 e45 => ⟨⟨by omega, by omega⟩, ⟨by omega, by omega⟩, ⟨by omega, by omega⟩, ⟨by omega, by omega⟩, fun y50 e50 => ⟨⟨by omega, by omega⟩, fun M51 e51 => ?_⟩⟩⟩
    have v50 : y50 = AL (delS C) (insS C) (tdc C) ((chl C 0 (pl C 0 0 p)).reverse.take (i + 1)).reverse ((chl C 1 (pl C 1 0 q)).reverse.take (j + 1)).reverse := by omega
    clear e50
    subst v50
    rw [Int.toNat_natCast] at e51
    subst e51
    refine ⟨(50 - i) * 40 - 1 - (j + 1), by omega, i, j + 1, rfl, rfl, rfl, by omega, hi, by omega, rfl, hF.set rfl, hB1.set (by omega) (by omega), fun z w hz hw => by rw [mset_ne (by omega)]; exact hL0 z w hz hw, fun z w hz hw => by rw [mset_ne (by omega)]; exact hL1 z w hz hw, fun h' k h1 h2 h3 => ?_⟩
    rw [mset_i]
    by_cases c : h' * 13 + k = (i + 1) * 13 + (j + 1)
    · have c1 : h' = i + 1 := by omega
      have c2 : k = j + 1 := by omega
      rw [if_pos c, c1, c2]
    · rw [if_neg c]
      exact hT h' k h1 h2 (by omega)
set_option maxHeartbeats 4000000 in
theorem sp_solveT {M : Mem} {Q : Int → Mem → Prop} (hW : WF C) (hL : LayP C M 0) (hB : Bd M) (K : ∀ M' : Mem, Fr P5 M M' → Bd M' → Q (TDV C) M') : wp_X8_solve M Q := by
  have n0 := hW.n12 (t := 0) (by omega)
  have n1 := hW.n12 (t := 1) (by omega)
  have sb0 := sm_bd (cdl C) (i := 0) (j := cn C 0) (fun k _ h => hW.dl h)
  have sb1 := sm_bd (cil C) (i := 0) (j := cn C 1) (fun k _ h => hW.il h)
  unfold wp_X8_solve
  refine ⟨fun n x1 x2 x3 M1 => ∃ p : Nat, x1 = (cn C 0 : Int) ∧ x2 = (cn C 1 : Int) ∧ x3 = p ∧ p ≤ cn C 0 ∧ n = (50 - p) * 40 ∧ Fr P5 M M1 ∧ Bd M1 ∧ OP C M1 (fun x _ => x < p),
    fun n x1 x2 x3 x4 M1 => ∃ p q : Nat, x1 = (cn C 0 : Int) ∧ x2 = (cn C 1 : Int) ∧ x3 = p ∧ x4 = q ∧ p < cn C 0 ∧ q ≤ cn C 1 ∧ n = (50 - p) * 40 - 1 - q ∧ Fr P5 M M1 ∧ Bd M1 ∧ OP C M1 (fun x y => x < p ∨ x = p ∧ y < q), ?_, ?_, ?_⟩
  · unfold wpe_X8_solve
    rw [hL.1.1, hL.2.1.1]
    intro y1 e1 y2 e2
    exact ⟨_, 0, e1, e2, rfl, Nat.zero_le _, rfl, Fr.rf, hB, fun x y _ _ h => absurd h (Nat.not_lt_zero _)⟩
  · intro n x1 x2 x3 M1 ⟨p, e1, e2, e3, hp, hn, hF, hB1, hO⟩
    subst e1; subst e2; subst e3; subst hn
    have R0 := hL.1.fr5 rfl (by omega) hF
    have R1 := hL.2.1.fr5 rfl (by omega) hF
    unfold wph_X8_solve_24
    refine ⟨⟨by omega, by omega⟩, ⟨by omega, by omega⟩, fun h => sp_withoutPairs hW R0 R1 ?_, fun h => ⟨(50 - p) * 40 - 1 - 0, by omega, p, 0, rfl, rfl, rfl, rfl, by omega, Nat.zero_le _, rfl, hF, hB1, fun x y hx hy hd => hO x y hx hy (by omega)⟩⟩
    have KK := K M1 hF hB1
    unfold TDV at KK
    rw [sm_all0 hW, sm_all1 hW]
    refine ⟨⟨by omega, by omega⟩, fun h2 => ?_, fun h2 => ⟨⟨by omega, by omega⟩, fun h3 => ?_, fun h3 => ?_⟩⟩
    · rwa [if_pos (Or.inl (by omega))] at KK
    · rw [if_neg (by omega)] at KK
      have o := hO (cn C 0 - 1) (cn C 1 - 1) (by omega) (by omega) (by omega)
      rw [(pl_root hW (t := 0) (by omega) (by omega)).1, (pl_root hW (t := 1) (by omega) (by omega)).1] at o
      have tb := td_bd hW (a := 0) (b := 0) (by omega) (by omega)
      have tc : 0 ≤ tdc C 0 0 ∧ tdc C 0 0 ≤ 1000000 := by
        unfold tdc
        split <;> omega
      rw [show ((((cn C 0 : Int) - 1) * 12 + (cn C 1 : Int)) - 1).toNat = (cn C 0 - 1) * 12 + (cn C 1 - 1) from by omega, o]
      refine ⟨⟨by omega, by omega⟩, ⟨by omega, by omega⟩, ⟨by omega, by omega⟩, fun y15 e15 => ?_⟩
      rw [e15]
      exact KK
    · rwa [if_pos (Or.inr (by omega))] at KK
  · intro n x1 x2 x3 x4 M1 ⟨p, q, e1, e2, e3, e4, hp, hq, hn, hF, hB1, hO⟩
    subst e1; subst e2; subst e3; subst e4; subst hn
    have R0 := hL.1.fr5 rfl (by omega) hF
    have R1 := hL.2.1.fr5 rfl (by omega) hF
    unfold wph_X8_solve_32
    refine ⟨⟨by omega, by omega⟩, ⟨by omega, by omega⟩, fun h => ⟨(50 - (p + 1)) * 40, by omega, p + 1, rfl, rfl, by omega, by omega, rfl, hF, hB1, fun x y hx hy hd => hO x y hx hy (by omega)⟩, fun h y19 e19 => ?_⟩
    have z19 : y19 = ((p * 12 + q : Nat) : Int) := by omega
    clear e19
    subst z19
    have la := pl_lt (b := 0) hW (t := 0) (by omega) hp
    have lb := pl_lt (b := 0) hW (t := 1) (p := q) (by omega) (by omega)
    have pp := hW.prr (p := pl C 0 0 p) (q := pl C 1 0 q) la
    have tb := td_bd hW la lb
    rw [Int.toNat_natCast, hF 2 3 _ rfl, hL.2.2 p q hp (by omega)]
    refine ⟨⟨by omega, by omega⟩, fun y21 e21 => ?_⟩
    subst e21
    have go : ∀ (M2 : Mem) (s0 : Int), Fr P5a M1 M2 → Bd M2 → s0 = tdc C (pl C 0 0 p) (pl C 1 0 q) → wpj_X8_solve_87 (cn C 0 : Int) (cn C 1 : Int) (p : Int) (q : Int) s0 ((p * 12 + q : Nat) : Int) M2 (fun (x1 x2 x3 : Int) (M1 : Mem) => ∃ n1 : Nat, n1 < (50 - p) * 40 - 1 - q ∧ ∃ p : Nat, x1 = (cn C 0 : Int) ∧ x2 = (cn C 1 : Int) ∧ x3 = p ∧ p ≤ cn C 0 ∧ n1 = (50 - p) * 40 ∧ Fr P5 M M1 ∧ Bd M1 ∧ OP C M1 (fun x _ => x < p)) (fun (x1 x2 x3 x4 : Int) (M1 : Mem) => ∃ n1 : Nat, n1 < (50 - p) * 40 - 1 - q ∧ ∃ p q : Nat, x1 = (cn C 0 : Int) ∧ x2 = (cn C 1 : Int) ∧ x3 = p ∧ x4 = q ∧ p < cn C 0 ∧ q ≤ cn C 1 ∧ n1 = (50 - p) * 40 - 1 - q ∧ Fr P5 M M1 ∧ Bd M1 ∧ OP C M1 (fun x y => x < p ∨ x = p ∧ y < q)) Q := by
      intro M2 s0 F2 B2 es
      have tc : 0 ≤ s0 ∧ s0 ≤ 1000000 := by
        rw [es]
        unfold tdc
        split <;> omega
      unfold wpj_X8_solve_87
      rw [Int.toNat_natCast]
      refine ⟨⟨by omega, by omega⟩, fun M26 e26 => ?_⟩
      subst e26
      have f2 : Fr P5 M M2 := hF.tr (F2.mono (fun o k h => by
        simp only [P5a, Bool.and_eq_true, beq_iff_eq] at h
        simp only [P5, beq_iff_eq]
        exact h.1))
      refine ⟨(50 - p) * 40 - 1 - (q + 1), by omega, p, q + 1, rfl, rfl, rfl, by omega, hp, by omega, rfl, f2.set rfl, B2.set (by omega) (by omega), fun x y hx hy hd => ?_⟩
      rw [mset_i]
      by_cases c : x * 12 + y = p * 12 + q
      · have c1 : x = p := by omega
        have c2 : y = q := by omega
        rw [if_pos c, c1, c2, es]
      · rw [if_neg c, F2 5 1 _ rfl]
        refine hO x y hx hy ?_
        rcases hd with hd | hd
        · exact Or.inl hd
        · refine Or.inr ⟨hd.1, ?_⟩
          have := hd.1
          subst this
          omega
    refine ⟨⟨by omega, by omega⟩, fun h2 => go M1 _ Fr.rf hB1 ?_, fun h2 => sp_alignChildren hW R0 R1 hB1 (fun x y hx hy hd => hO x y hx hy (Or.inl hd)) hp (by omega) rfl rfl (fun M2 F2 B2 => go M2 _ F2 B2 ?_)⟩
    · unfold tdc
      rw [if_neg (by omega)]
    · have t0 : tdc C (pl C 0 0 p) (pl C 1 0 q) = td C (pl C 0 0 p) (pl C 1 0 q) :=
        if_pos (by omega)
      rw [t0, td_eq hW la]
      omega
end TDC
