/-! one call of the class and of the reference: one answer -/
def nm0 (c : Int) : String := if c = 1 then "java/lang/IndexOutOfBoundsException" else if c = 2 then "java/lang/IllegalArgumentException" else "java/lang/IllegalStateException"
def Agree (nm : Int → String) (mx lo hi : Int) (C : Nat → Nat → Int) (wk : Mem → (Int → Mem → Prop) → (String → Mem → Prop) → Prop) (wm : Mem → (Int → Mem → Prop) → Prop) : Prop := ∃ (code ans : Int) (C' : Nat → Nat → Int), WF C' ∧ (0 ≤ code ∧ code ≤ mx) ∧ (lo ≤ ans ∧ ans ≤ hi) ∧ (∀ (M : Mem) (Q : Int → Mem → Prop) (XQ : String → Mem → Prop), IK C M → Bd M → (∀ M' : Mem, Fr Pc M M' → Bd M' → IK C' M' → (code = 0 → Q ans M') ∧ (code ≠ 0 → XQ (nm code) M')) → wk M Q XQ) ∧ (∀ (M : Mem) (Q : Int → Mem → Prop), Core C M → Bd M → (∀ M' : Mem, Fr Pm M M' → Bd M' → Core C' M' → M' 13 23 0 = code → Q (if code = 0 then ans else 0) M') → wm M Q)
section AGR
variable {C : Nat → Nat → Int} {nm : Int → String} {mx lo hi : Int} {wk : Mem → (Int → Mem → Prop) → (String → Mem → Prop) → Prop} {wm : Mem → (Int → Mem → Prop) → Prop}
theorem agree_x (code : Int) (hW : WF C) (hc : 1 ≤ code ∧ code ≤ mx) (k : ∀ (M : Mem) (Q : Int → Mem → Prop) (XQ : String → Mem → Prop), IK C M → Bd M → (∀ M' : Mem, Fr Pc M M' → Bd M' → IK C M' → XQ (nm code) M') → wk M Q XQ) (m : ∀ (M : Mem) (Q : Int → Mem → Prop), Core C M → Bd M → (∀ M' : Mem, Fr Pm M M' → Bd M' → Core C M' → M' 13 23 0 = code → Q 0 M') → wm M Q) (hz : lo ≤ 0 ∧ 0 ≤ hi := by omega) : Agree nm mx lo hi C wk wm :=
  ⟨code, 0, C, hW, by omega, hz, fun M Q XQ hI hB h => k M Q XQ hI hB (fun M' a b c => (h M' a b c).2 (by omega)), fun M Q hC hB h => m M Q hC hB (fun M' a b c d => by
    have e := h M' a b c d
    rwa [if_neg (by omega)] at e)⟩
theorem agree_q (ans : Int) (hW : WF C) (k : ∀ (M : Mem) (Q : Int → Mem → Prop) (XQ : String → Mem → Prop), IK C M → Bd M → (∀ M' : Mem, Fr Pc M M' → Bd M' → IK C M' → Q ans M') → wk M Q XQ) (m : ∀ (M : Mem) (Q : Int → Mem → Prop), Core C M → Bd M → (∀ M' : Mem, Fr Pm M M' → Bd M' → Core C M' → M' 13 23 0 = 0 → Q ans M') → wm M Q) (hb : lo ≤ ans ∧ ans ≤ hi := by omega) (hx : 0 ≤ mx := by omega) : Agree nm mx lo hi C wk wm :=
  ⟨0, ans, C, hW, by omega, hb, fun M Q XQ hI hB h => k M Q XQ hI hB (fun M' a b c => (h M' a b c).1 rfl), fun M Q hC hB h => m M Q hC hB (fun M' a b c d => by
    have e := h M' a b c d
    rwa [if_pos rfl] at e)⟩
theorem agree_c (C' : Nat → Nat → Int) (ans : Int) (hW : WF C') (k : ∀ (M : Mem) (Q : Int → Mem → Prop) (XQ : String → Mem → Prop), IK C M → Bd M → (∀ M' : Mem, Fr Pc M M' → Bd M' → IK C' M' → Q ans M') → wk M Q XQ) (m : ∀ (M : Mem) (Q : Int → Mem → Prop), Core C M → Bd M → (∀ M' : Mem, Fr Pm M M' → Bd M' → Core C' M' → M' 13 23 0 = 0 → Q ans M') → wm M Q) (hb : lo ≤ ans ∧ ans ≤ hi := by omega) (hx : 0 ≤ mx := by omega) : Agree nm mx lo hi C wk wm :=
  ⟨0, ans, C', hW, by omega, hb, fun M Q XQ hI hB h => k M Q XQ hI hB (fun M' a b c => (h M' a b c).1 rfl), fun M Q hC hB h => m M Q hC hB (fun M' a b c d => by
    have e := h M' a b c d
    rwa [if_pos rfl] at e)⟩
/-- a tree and one of its nodes -/
def vN (C : Nat → Nat → Int) (a x : Int) : Prop := (0 ≤ a ∧ a ≤ 1) ∧ 0 ≤ x ∧ x < (cn C a.toNat : Int)
theorem vN_of {a x : Int} (h : vN C a x) : ∃ t y : Nat, t < 2 ∧ a = t ∧ x = y ∧ y < cn C t := by
  obtain ⟨h1, h2, h3⟩ := h
  exact ⟨a.toNat, x.toNat, by omega, by omega, by omega, by omega⟩
theorem vN_node {a x : Int} (hW : WF C) (h : vN C a x) : ∃ t p : Nat, t < 2 ∧ a = t ∧ x = (nd C t p : Int) ∧ p < cn C t := by
  obtain ⟨t, y, ht, e1, e2, hy⟩ := vN_of h
  obtain ⟨p, hp, ep⟩ := hW.surj ht hy
  exact ⟨t, p, ht, e1, by rw [ep]; exact e2, hp⟩
theorem Core.n {M : Mem} (hW : WF C) (hC : Core C M) {t : Nat} (ht : t < 2) : M 13 5 t = (cn C t : Int) := (hC 5 t rfl).trans (hW.n ht)
def Pg (o k : Nat) : Bool := o == 13 && k == 23
theorem Pg_m {M M' : Mem} (h : Fr Pg M M') : Fr Pm M M' := h.mono (fun o k h1 => by
  simp only [Pg, Bool.and_eq_true] at h1
  exact h1.1)
theorem sp_go {M : Mem} {p0 p1 p2 : Int} (c : Int) {Q : Int → Mem → Prop} (hB : Bd M) (h0 : inR p0) (h1 : inR p1) (h2 : inR p2) (e : c = if p0 = 0 then 1 else if p1 = 0 then 2 else if p2 = 0 then 3 else 0) (K : ∀ M' : Mem, Fr Pg M M' → Bd M' → M' 13 23 0 = c → Q (if c = 0 then 1 else 0) M') : wp_X11_goes M p0 p1 p2 Q := by
  have hc : 0 ≤ c ∧ c ≤ 3 := by
    rw [e]
    split
    · omega
    · split
      · omega
      · split <;> omega
  refine sp_goes h0 h1 h2 e (K _ (Fr.rf.set rfl) (hB.set (by omega) (by omega)) mset_eq)
theorem r01 : inR 0 ∧ inR 1 := ⟨⟨by decide, by decide⟩, ⟨by decide, by decide⟩⟩
theorem sp_tree1 {M : Mem} {t : Nat} {Q : Int → Mem → Prop} (ht : t < 2) (K : Q 1 M) : wp_X11_isTree M t Q := sp_isTree ⟨by omega, by omega⟩ (by rwa [if_pos (by omega)])
theorem sp_tree0 {M : Mem} {a : Int} {Q : Int → Mem → Prop} (h0 : inR a) (h : ¬ (0 ≤ a ∧ a ≤ 1)) (K : Q 0 M) : wp_X11_isTree M a Q := sp_isTree h0 (by rwa [if_neg h])
theorem sp_node1 {M : Mem} {a x : Int} {t y : Nat} {Q : Int → Mem → Prop} (hW : WF C) (hC : Core C M) (hB : Bd M) (ht : t < 2) (hy : y < cn C t) (ea : a = t) (ex : x = y) (K : Q 1 M) : wp_X11_isNode M a x Q := by
  subst ea; subst ex
  have n12 := hW.n12 ht
  refine sp_isNode hB ⟨by omega, by omega⟩ ⟨by omega, by omega⟩ ?_
  rw [Int.toNat_natCast, hC.n hW ht]
  rwa [if_pos (by omega)]
theorem sp_node0 {M : Mem} {a x : Int} {Q : Int → Mem → Prop} (hW : WF C) (hC : Core C M) (hB : Bd M) (h0 : inR a) (h1 : inR x) (h : ¬ vN C a x) (K : Q 0 M) : wp_X11_isNode M a x Q := by
  refine sp_isNode hB h0 h1 ?_
  rwa [if_neg]
  intro ⟨z1, z2, z3⟩
  rw [hC.n hW (by omega)] at z3
  exact h ⟨z1, z2, z3⟩
theorem sp_with1 {M : Mem} {a x : Int} {t y : Nat} {Q : Nat → Mem → Prop} {XQ : String → Mem → Prop} (hW : WF C) (hX : Cls C M) (hB : Bd M) (ht : t < 2) (hy : y < cn C t) (ea : a = t) (ex : x = y) (K : isT (11 + t) → Q (11 + t) M) : wp_X10_treeWith M a x Q XQ := by
  subst ea; subst ex
  have n12 := hW.n12 ht
  refine sp_treeWith hB ⟨by omega, by omega⟩ ⟨by omega, by omega⟩ (fun t' y' h1 h2 h3 h4 => ?_) (fun h => absurd ?_ h)
  · have : t = t' := by omega
    subst this
    exact K (isT_of ht)
  · rw [Int.toNat_natCast, hX.n rfl ht]
    omega
theorem sp_with0 {M : Mem} {a x : Int} {Q : Nat → Mem → Prop} {XQ : String → Mem → Prop} (hX : Cls C M) (hB : Bd M) (h0 : inR a) (h1 : inR x) (h : ¬ vN C a x) (K : XQ "java/lang/IndexOutOfBoundsException" M) : wp_X10_treeWith M a x Q XQ := by
  refine sp_treeWith hB h0 h1 (fun t' y' h2 h3 h4 h5 => ?_) (fun _ => K)
  rw [hX.n rfl h2] at h5
  exact absurd ⟨by omega, by omega, by rw [h3, h4, Int.toNat_natCast]; exact h5⟩ h
theorem sp_num1 {M : Mem} {a : Int} {t : Nat} {Q : Nat → Mem → Prop} {XQ : String → Mem → Prop} (ht : t < 2) (ea : a = t) (K : isT (11 + t) → Q (11 + t) M) : wp_X10_treeNumbered M a Q XQ := by
  subst ea
  refine sp_treeNumbered ⟨by omega, by omega⟩ (fun t' h1 h2 => ?_) (fun h => absurd (by omega) h)
  have : t = t' := by omega
  subst this
  exact K (isT_of ht)
theorem Core.g {M M' : Mem} (h : Core C M) (F : Fr Pg M M') : Core C M' := h.fr F rfl rfl rfl rfl rfl rfl rfl
theorem Core.z {M M' : Mem} (h : Core C M) (F : Fr P4 M M') : Core C M' := h.fr F rfl rfl rfl rfl rfl rfl rfl
theorem Sz.g {M M' : Mem} (h : Sz C M) (F : Fr Pg M M') : Sz C M' := fun t p ht hp => (F 13 4 _ rfl).trans (h t p ht hp)
theorem P4_m {M M' : Mem} (h : Fr P4 M M') : Fr Pm M M' := h.mono (fun o k h1 => by
  simp only [P4, Bool.and_eq_true] at h1
  exact h1.1)
variable {a x : Int}
theorem ag_nodes (hW : WF C) (h0 : inR a) : Agree nm0 1 (-2000000) 2000000 C (fun M Q XQ => wp_X10_nodes M a Q XQ) (fun M Q => wp_X11_nodes M a Q) := by
  by_cases c : 0 ≤ a ∧ a ≤ 1
  · obtain ⟨t, rfl⟩ : ∃ t : Nat, a = t := ⟨a.toNat, by omega⟩
    have ht : t < 2 := by omega
    have n12 := hW.n12 ht
    refine agree_q (cn C t : Int) hW (fun M Q XQ hI hB h => ?_) (fun M Q hC hB h => ?_)
    · unfold wp_X10_nodes wpe_X10_nodes
      refine sp_num1 ht rfl (fun hT => ⟨hT, ?_⟩)
      rw [hI.1.n rfl ht]
      exact h M Fr.rf hB hI
    · unfold wp_X11_nodes wpe_X11_nodes
      refine sp_tree1 ht (sp_go 0 hB r01.2 r01.2 r01.2 rfl (fun M' F B e => ⟨r01.2, fun z => absurd z (by decide), fun _ => ⟨by omega, ?_⟩⟩))
      rw [Int.toNat_natCast, (hC.g F).n hW ht]
      exact h M' (Pg_m F) B (hC.g F) e
  · refine agree_x 1 hW (by omega) (fun M Q XQ hI hB h => ?_) (fun M Q hC hB h => ?_)
    · unfold wp_X10_nodes wpe_X10_nodes
      exact sp_treeNumbered h0 (fun t ht e => absurd (by omega) c) (fun _ => h M Fr.rf hB hI)
    · unfold wp_X11_nodes wpe_X11_nodes
      exact sp_tree0 h0 c (sp_go 1 hB r01.1 r01.2 r01.2 rfl (fun M' F B e => ⟨r01.1, fun _ => h M' (Pg_m F) B (hC.g F) e, fun z => absurd rfl z⟩))
theorem ag_kindOf (hW : WF C) (h0 : inR a) (h1 : inR x) : Agree nm0 1 (-2000000) 2000000 C (fun M Q XQ => wp_X10_kindOf M a x Q XQ) (fun M Q => wp_X11_kindOf M a x Q) := by
  by_cases c : vN C a x
  · obtain ⟨t, p, ht, rfl, rfl, hp⟩ := vN_node hW c
    have l := hW.ndl ht hp
    have n12 := hW.n12 ht
    have bb := hW.k ht hp
    refine agree_q (C 2 (12 * t + p)) hW (fun M Q XQ hI hB h => ?_) (fun M Q hC hB h => ?_)
    · unfold wp_X10_kindOf wpe_X10_kindOf
      refine sp_with1 hW hI.1 hB ht l rfl rfl (fun hT => ⟨hT, by omega, ?_⟩)
      rw [Int.toNat_natCast, hI.1.kd rfl ht hp]
      exact h M Fr.rf hB hI
    · unfold wp_X11_kindOf wpe_X11_kindOf
      refine sp_node1 hW hC hB ht l rfl rfl (sp_go 0 hB r01.2 r01.2 r01.2 rfl (fun M' F B e => ⟨r01.2, fun z => absurd z (by decide), fun _ => sp_place hW (hC.g F) B ht hp rfl rfl ⟨by omega, ?_⟩⟩))
      rw [show (12 * (t : Int) + (p : Int)).toNat = 12 * t + p from by omega, (hC.g F) 2 _ rfl]
      exact h M' (Pg_m F) B (hC.g F) e
  · refine agree_x 1 hW (by omega) (fun M Q XQ hI hB h => ?_) (fun M Q hC hB h => ?_)
    · unfold wp_X10_kindOf wpe_X10_kindOf
      exact sp_with0 hI.1 hB h0 h1 c (h M Fr.rf hB hI)
    · unfold wp_X11_kindOf wpe_X11_kindOf
      exact sp_node0 hW hC hB h0 h1 c (sp_go 1 hB r01.1 r01.2 r01.2 rfl (fun M' F B e => ⟨r01.1, fun _ => h M' (Pg_m F) B (hC.g F) e, fun z => absurd rfl z⟩))
end AGR
