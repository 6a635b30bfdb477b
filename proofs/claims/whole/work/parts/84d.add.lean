/-! add, and the prices -/
section ADD
variable {C : Nat → Nat → Int} {a x : Int}
theorem add_out {M : Mem} {Q : Int → Mem → Prop} {p0 p1 p2 p3 p4 x7 s0 s1 s2 : Int} (c : Int) (hC : Core C M) (hB : Bd M) (h0 : inR s0) (h1 : inR s1) (h2 : inR s2) (e : c = if s2 = 0 then 1 else if s1 = 0 then 2 else if s0 = 0 then 3 else 0) (hc : c ≠ 0) (K : ∀ M' : Mem, Fr Pm M M' → Bd M' → Core C M' → M' 13 23 0 = c → Q 0 M') : wpj_X11_add_98 p0 p1 p2 p3 p4 x7 s0 s1 s2 M Q := by
  unfold wpj_X11_add_98
  refine sp_go c hB h2 h1 h0 e (fun M' F B e => ?_)
  rw [if_neg hc]
  exact ⟨r01.1, fun z => absurd rfl z, fun _ => K M' (Pg_m F) B (hC.g F) e⟩
/-- the label's test and the room's, when no leaf will be laid -/
theorem add_tail {M : Mem} {Q : Int → Mem → Prop} {p0 p1 p2 p3 p4 x6 x7 s0 : Int} {t : Nat} (c : Int) (hW : WF C) (hC : Core C M) (hB : Bd M) (h4 : inR p4) (h6 : x6 = 0 ∨ x6 = 1 ∧ t < 2 ∧ p0 = t) (hs : s0 = 0 ∨ s0 = 1) (e : c = if s0 = 0 then 1 else if 0 ≤ p4 ∧ p4 ≤ 99 then 3 else 2) (hr : c = 3 → x6 = 1 ∧ 12 ≤ cn C t) (K : ∀ M' : Mem, Fr Pm M M' → Bd M' → Core C M' → M' 13 23 0 = c → Q 0 M') : wpj_X11_add_64 p0 p1 p2 p3 p4 x6 x7 s0 M Q := by
  unfold wpj_X11_add_64 wpj_X11_add_97
  have rs : inR s0 := ⟨by omega, by omega⟩
  have c0 : c ≠ 0 := by
    rw [e]
    split
    · omega
    · split <;> omega
  have G : ∀ room : Int, (room = 0 ∨ room = 1) → (room = 1 → c ≠ 3) → wpj_X11_add_98 p0 p1 p2 p3 p4 x7 room (if 0 ≤ p4 ∧ p4 ≤ 99 then 1 else 0) s0 M Q := fun room h1 h2 => by
    refine add_out c hC hB ⟨by omega, by omega⟩ (inR_ite _) rs ?_ c0 K
    rw [e]
    by_cases z : s0 = 0
    · rw [if_pos z, if_pos z]
    · rw [if_neg z, if_neg z]
      by_cases y : 0 ≤ p4 ∧ p4 ≤ 99
      · rw [if_pos y, if_pos y, if_neg (by omega)]
        rw [if_neg z, if_pos y] at e
        rw [if_pos (by omega)]
      · rw [if_neg y, if_neg y, if_pos rfl]
  refine sp_in h4 ⟨by decide, by decide⟩ ⟨by decide, by decide⟩ ⟨⟨by omega, by omega⟩, fun z => G 0 (Or.inl rfl) (fun z => absurd z (by decide)), fun z => ?_⟩
  rcases h6 with h6 | ⟨h6, ht, h7⟩
  · exact absurd h6 z
  · subst h7
    refine ⟨by omega, hB.r _ _ _, fun w => G 0 (Or.inl rfl) (fun z => absurd z (by decide)), fun w => G 1 (Or.inr rfl) (fun _ y => ?_)⟩
    rw [Int.toNat_natCast, hC.n hW ht] at w
    have := (hr y).2
    omega
theorem ag_add {q k l : Int} (hW : WF C) (h0 : inR a) (h1 : inR x) (h2 : inR q) (h3 : inR k) (h4 : inR l) : Agree nm0 3 (-2000000) 2000000 C (fun M Q XQ => wp_X10_add M a x q k l Q XQ) (fun M Q => wp_X11_add M a x q k l Q) := by
  by_cases c : vN C a x
  · obtain ⟨t, p, ht, rfl, rfl, hp⟩ := vN_node hW c
    have lx := hW.ndl ht hp
    have n12 := hW.n12 ht
    have nb := nch_bd n12 hp
    have rn : inR (nch C t p) := ⟨by omega, by omega⟩
    have rn1 : inR (nch C t p + 1) := ⟨by omega, by omega⟩
    have i0 : inR 0 := r01.1
    have i3 : inR 3 := ⟨by decide, by decide⟩
    have i4 : inR 4 := ⟨by decide, by decide⟩
    have i99 : inR 99 := ⟨by decide, by decide⟩
    have rl := hW.n12 ht
    by_cases cq : 0 ≤ q ∧ q ≤ nch C t p
    · obtain ⟨j, rfl⟩ : ∃ j : Nat, q = j := ⟨q.toNat, by omega⟩
      have cs := chd_spec hW ht hp j cq.2
      have ep := hW.e hp
      by_cases ck : 0 ≤ k ∧ k ≤ 3
      · -- all places and kinds stand
        have go : ∀ (M : Mem) (Q : Int → Mem → Prop), Core C M → Bd M → (∀ M1 : Mem, Fr P4 M M1 → Bd M1 → Sz C M1 → wpj_X11_add_64 t (nd C t p) j k l 1 p 1 M1 Q) → wp_X11_add M t (nd C t p) j k l Q := fun M Q hC hB H => by
          unfold wp_X11_add wpe_X11_add wpj_X11_add_27
          exact sp_measures hW hC hB (fun M1 F1 B1 S1 => sp_node1 hW (hC.z F1) B1 ht lx rfl rfl ⟨r01.2, fun z => absurd z (by decide), fun _ => sp_place hW (hC.z F1) B1 ht hp rfl rfl ⟨r01.2, fun z => absurd z (by decide), fun _ => sp_childrenOf hW (hC.z F1) S1 ht hp rfl rfl (sp_in1 i0 rn cq ⟨r01.2, fun z => absurd z (by decide), fun _ => sp_in1 i0 i3 ck ⟨r01.2, fun z => absurd z (by decide), fun _ => H M1 F1 B1 S1⟩⟩)⟩⟩)
        by_cases cl : 0 ≤ l ∧ l ≤ 99
        · by_cases cz : cn C t < 12
          · have lv : cL C t p ≤ p := (hW.wl ht).le hp
            have hb : ∀ r : Nat, p < r → r < chd C t p j → cL C t p + 1 ≤ cL C t r := fun r z1 z2 => eN_in (L := cL C t) hp z1 (Nat.lt_of_lt_of_le z2 cs.2.1)
            have hs : chd C t p j ≤ cn C t := by omega
            have hf : fits C t (chd C t p j) (cL C t p + 1) := by
              refine ⟨hs, fun z => by omega, fun z => ⟨by omega, ?_⟩, fun z => ?_⟩
              · by_cases y : chd C t p j - 1 = p
                · rw [y]
                  omega
                · have := hb (chd C t p j - 1) (by omega) (by omega)
                  omega
              · by_cases y : chd C t p j < ce C t p
                · rw [cs.2.2.2.1 y]
                  omega
                · have y2 : chd C t p j = ce C t p := by omega
                  have := eN_at (L := cL C t) hp (show eN (cL C t) (cn C t) p < cn C t from by unfold ce at y2; omega)
                  rw [y2]
                  unfold ce
                  omega
            have hI' := insC_is (L := cL C t p + 1) (kd := k) (lb := l) hs cz
            have pr := hI'.pars hW ht hf cs.1 rfl hb
            refine agree_c (insC C t (chd C t p j) (cL C t p + 1) k l) (cn C t : Int) (hI'.wf hW ht hf cz ck cl) (fun M Q XQ hI hB h => ?_) (fun M Q hC hB h => ?_)
            · unfold wp_X10_add wpe_X10_add
              refine sp_with1 hW hI.1 hB ht lx rfl rfl (fun hT => ⟨hT, sp_childCount hW hI.1 hB rfl ht hp rfl (sp_needIndex h2 rn1 (fun _ _ => sp_needIndex h3 i4 (fun _ _ => sp_needAtMost h4 i99 (fun _ _ => ⟨hB.r _ _ _, fun _ => sp_spotFor hW hI.1 hB rfl ht hp cq.2 rfl rfl ?_, fun z => absurd ?_ z⟩) (fun z => absurd cl z)) (fun z => absurd (by omega) z)) (fun z => absurd (by omega) z))⟩)
              · refine lay_K (P := fun M17 => Q (M17 (11 + t) 8 0 - 1) M17) hW hI hB ht cz hf ck cl ?_ rfl (fun M' F B I => ?_)
                · rw [if_neg (by omega), pr]
                  have e := hI'.nd hs hp
                  unfold sh at e
                  rw [if_pos cs.1] at e
                  rw [e]
                · rw [I.1.n rfl ht, hI'.n, show ((cn C t + 1 : Nat) : Int) - 1 = (cn C t : Int) from by omega]
                  exact h M' F B I
              · rw [hI.1.n rfl ht]
                omega
            · refine go M Q hC hB (fun M1 F1 B1 S1 => ?_)
              have C1 := hC.z F1
              unfold wpj_X11_add_64 wpj_X11_add_98
              refine sp_in1 i0 i99 cl ⟨r01.2, fun z => absurd z (by decide), fun _ => ⟨by omega, B1.r _ _ _, fun z => absurd z ?_, fun _ => sp_go 0 B1 r01.2 r01.2 r01.2 rfl (fun M' F B e => ⟨r01.2, fun _ => sp_child hW (C1.g F) (S1.g F) ht hp cq.2 rfl rfl rfl ⟨by omega, by omega, ?_⟩, fun z => absurd (by decide) z⟩)⟩⟩
              · rw [Int.toNat_natCast, C1.n hW ht]
                omega
              · rw [show (12 * (t : Int) + (p : Int)).toNat = 12 * t + p from by omega, Int.toNat_natCast, (C1.g F).n hW ht, (C1.g F) 1 _ rfl, hW.l ht hp]
                refine lay_M (s := chd C t p j) (L := cL C t p + 1) hW (C1.g F) B ht cz hs (by omega) ck cl rfl rfl rfl (by omega) (fun M2 F2 B2 C2 e2 => ⟨by omega, ?_⟩)
                rw [C2 5 t rfl, hI'.1, show (cn C t : Int) + 1 - 1 = (cn C t : Int) from by omega]
                exact h M2 (((P4_m F1).tr (Pg_m F)).tr F2) B2 C2 (e2.trans e)
          · refine agree_x 3 hW (by omega) (fun M Q XQ hI hB h => ?_) (fun M Q hC hB h => ?_)
            · unfold wp_X10_add wpe_X10_add
              refine sp_with1 hW hI.1 hB ht lx rfl rfl (fun hT => ⟨hT, sp_childCount hW hI.1 hB rfl ht hp rfl (sp_needIndex h2 rn1 (fun _ _ => sp_needIndex h3 i4 (fun _ _ => sp_needAtMost h4 i99 (fun _ _ => ⟨hB.r _ _ _, fun z => absurd z ?_, fun _ => h M Fr.rf hB hI⟩) (fun z => absurd cl z)) (fun z => absurd (by omega) z)) (fun z => absurd (by omega) z))⟩)
              rw [hI.1.n rfl ht]
              omega
            · exact go M Q hC hB (fun M1 F1 B1 S1 => add_tail (t := t) 3 hW (hC.z F1) B1 h4 (Or.inr ⟨rfl, ht, rfl⟩) (Or.inr rfl) (by rw [if_neg (by omega), if_pos cl]) (fun _ => ⟨rfl, by omega⟩) (fun M' F B C' e => h M' ((P4_m F1).tr F) B C' e))
        · refine agree_x 2 hW (by omega) (fun M Q XQ hI hB h => ?_) (fun M Q hC hB h => ?_)
          · unfold wp_X10_add wpe_X10_add
            exact sp_with1 hW hI.1 hB ht lx rfl rfl (fun hT => ⟨hT, sp_childCount hW hI.1 hB rfl ht hp rfl (sp_needIndex h2 rn1 (fun _ _ => sp_needIndex h3 i4 (fun _ _ => sp_needAtMost h4 i99 (fun z1 z2 => absurd ⟨z1, z2⟩ cl) (fun _ => h M Fr.rf hB hI)) (fun z => absurd (by omega) z)) (fun z => absurd (by omega) z))⟩)
          · exact go M Q hC hB (fun M1 F1 B1 S1 => add_tail (t := t) 2 hW (hC.z F1) B1 h4 (Or.inr ⟨rfl, ht, rfl⟩) (Or.inr rfl) (by rw [if_neg (by omega), if_neg cl]) (fun z => absurd z (by decide)) (fun M' F B C' e => h M' ((P4_m F1).tr F) B C' e))
      · refine agree_x 1 hW (by omega) (fun M Q XQ hI hB h => ?_) (fun M Q hC hB h => ?_)
        · unfold wp_X10_add wpe_X10_add
          exact sp_with1 hW hI.1 hB ht lx rfl rfl (fun hT => ⟨hT, sp_childCount hW hI.1 hB rfl ht hp rfl (sp_needIndex h2 rn1 (fun _ _ => sp_needIndex h3 i4 (fun z1 z2 => absurd (by omega) ck) (fun _ => h M Fr.rf hB hI)) (fun z => absurd (by omega) z))⟩)
        · unfold wp_X11_add wpe_X11_add wpj_X11_add_27 wpj_X11_add_63
          exact sp_measures hW hC hB (fun M1 F1 B1 S1 => sp_node1 hW (hC.z F1) B1 ht lx rfl rfl ⟨r01.2, fun z => absurd z (by decide), fun _ => sp_place hW (hC.z F1) B1 ht hp rfl rfl ⟨r01.2, fun z => absurd z (by decide), fun _ => sp_childrenOf hW (hC.z F1) S1 ht hp rfl rfl (sp_in1 i0 rn cq ⟨r01.2, fun z => absurd z (by decide), fun _ => sp_in0 h3 i0 i3 ck ⟨r01.1, fun _ => add_tail (t := t) 1 hW (hC.z F1) B1 h4 (Or.inr ⟨rfl, ht, rfl⟩) (Or.inl rfl) (by rw [if_pos rfl]) (fun z => absurd z (by decide)) (fun M' F B C' e => h M' ((P4_m F1).tr F) B C' e), fun z => absurd rfl z⟩⟩)⟩⟩)
    · refine agree_x 1 hW (by omega) (fun M Q XQ hI hB h => ?_) (fun M Q hC hB h => ?_)
      · unfold wp_X10_add wpe_X10_add
        exact sp_with1 hW hI.1 hB ht lx rfl rfl (fun hT => ⟨hT, sp_childCount hW hI.1 hB rfl ht hp rfl (sp_needIndex h2 rn1 (fun z1 z2 => absurd (by omega) cq) (fun _ => h M Fr.rf hB hI))⟩)
      · unfold wp_X11_add wpe_X11_add wpj_X11_add_27 wpj_X11_add_63
        exact sp_measures hW hC hB (fun M1 F1 B1 S1 => sp_node1 hW (hC.z F1) B1 ht lx rfl rfl ⟨r01.2, fun z => absurd z (by decide), fun _ => sp_place hW (hC.z F1) B1 ht hp rfl rfl ⟨r01.2, fun z => absurd z (by decide), fun _ => sp_childrenOf hW (hC.z F1) S1 ht hp rfl rfl (sp_in0 h2 i0 rn cq ⟨r01.1, fun _ => add_tail (t := t) 1 hW (hC.z F1) B1 h4 (Or.inr ⟨rfl, ht, rfl⟩) (Or.inl rfl) (by rw [if_pos rfl]) (fun z => absurd z (by decide)) (fun M' F B C' e => h M' ((P4_m F1).tr F) B C' e), fun z => absurd rfl z⟩)⟩⟩)
  · refine agree_x 1 hW (by omega) (fun M Q XQ hI hB h => ?_) (fun M Q hC hB h => ?_)
    · unfold wp_X10_add wpe_X10_add
      exact sp_with0 hI.1 hB h0 h1 c (h M Fr.rf hB hI)
    · unfold wp_X11_add wpe_X11_add wpj_X11_add_27 wpj_X11_add_63
      exact sp_measures hW hC hB (fun M1 F1 B1 S1 => sp_node0 hW (hC.z F1) B1 h0 h1 c ⟨r01.1, fun _ => ⟨r01.1, fun _ => add_tail (t := 0) 1 hW (hC.z F1) B1 h4 (Or.inl rfl) (Or.inl rfl) (by rw [if_pos rfl]) (fun z => absurd z (by decide)) (fun M' F B C' e => h M' ((P4_m F1).tr F) B C' e), fun z => absurd rfl z⟩, fun z => absurd rfl z⟩)
end ADD
