/-! nodes and places; children, parents, postorder: the reference -/
def nd (C : Nat → Nat → Int) (t p : Nat) : Nat := (C 0 (12 * t + p)).toNat
theorem WF.ndi {C : Nat → Nat → Int} (h : WF C) {t p : Nat} (ht : t < 2) (hp : p < cn C t) : C 0 (12 * t + p) = (nd C t p : Int) := by
  have a := h.ndr ht hp
  unfold nd
  omega
theorem WF.ndl {C : Nat → Nat → Int} (h : WF C) {t p : Nat} (ht : t < 2) (hp : p < cn C t) : nd C t p < cn C t := by
  have a := h.ndr ht hp
  unfold nd
  omega
theorem WF.inj {C : Nat → Nat → Int} (h : WF C) {t p q : Nat} (ht : t < 2) (hp : p < cn C t) (hq : q < cn C t) (e : nd C t p = nd C t q) : p = q := by
  refine h.2.2.1 t p q ht hp hq ?_
  rw [h.ndi ht hp, h.ndi ht hq, e]
theorem WF.surj {C : Nat → Nat → Int} (h : WF C) {t x : Nat} (ht : t < 2) (hx : x < cn C t) : ∃ p : Nat, p < cn C t ∧ nd C t p = x := pige (cn C t) (nd C t) (fun _ hp => h.ndl ht hp) (fun _ _ hp hq e => h.inj ht hp hq e) x hx
section MTREE
variable {C : Nat → Nat → Int} {M : Mem} {Q : Int → Mem → Prop} {t p : Nat} {p0 p1 : Int}
theorem sp_place (hW : WF C) (hC : Core C M) (hB : Bd M) (ht : t < 2) (hp : p < cn C t) (e0 : p0 = t) (e1 : p1 = (nd C t p : Int)) (K : Q p M) : wp_X11_place M p0 p1 Q := by
  subst e0; subst e1
  have n12 := hW.n12 ht
  unfold wp_X11_place
  refine ⟨fun n x3 M1 => ∃ a : Nat, x3 = a ∧ a ≤ p ∧ n = p - a ∧ M1 = M, ?_, ?_⟩
  · exact ⟨_, 0, rfl, Nat.zero_le _, rfl, rfl⟩
  · intro n x3 M1 ⟨a, e3, ha, hn, eM⟩
    subst e3; subst hn; subst eM
    unfold wph_X11_place_2
    have l := hW.ndl ht hp
    rw [show (12 * (t : Int) + (a : Int)).toNat = 12 * t + a from by omega, hC 0 _ rfl, hW.ndi ht (p := a) (by omega)]
    refine ⟨⟨by omega, by omega⟩, ⟨by omega, by have := hW.ndl ht (p := a) (by omega); omega⟩, ⟨by omega, by omega⟩, fun h => ?_, fun h => ⟨p - (a + 1), ?_, a + 1, by omega, ?_, rfl, rfl⟩⟩
    · rw [hW.inj ht (p := a) (q := p) (by omega) hp (by omega)]
      exact K
    · have : a ≠ p := fun e => h (by rw [e])
      omega
    · have : a ≠ p := fun e => h (by rw [e])
      omega
theorem sp_parent (hW : WF C) (hC : Core C M) (ht : t < 2) (hp : p < cn C t) (e0 : p0 = t) (e1 : p1 = p) (K : Q (if p = 0 then -1 else (par (cL C t) p : Int)) M) : wp_X11_parent M p0 p1 Q := by
  subst e0; subst e1
  have n12 := hW.n12 ht
  have W := hW.wl ht
  unfold wp_X11_parent
  refine ⟨fun n x3 M1 => ∃ s : Nat, x3 = (s : Int) - 1 ∧ s ≤ p ∧ n = s + 1 ∧ (∀ r : Nat, s ≤ r → r < p → cL C t p ≤ cL C t r) ∧ M1 = M, ?_, ?_⟩
  · intro y1 e1
    exact ⟨_, p, e1, Nat.le_refl _, rfl, fun r h1 h2 => by omega, rfl⟩
  · intro n x3 M1 ⟨s, e3, hs, hn, hr, eM⟩
    subst e3; subst hn; subst eM
    unfold wph_X11_parent_4
    refine ⟨⟨by omega, by omega⟩, fun h => ?_, fun h => ?_⟩
    · have e : s = 0 := by omega
      subst e
      by_cases c : p = 0
      · rw [if_pos c] at K
        exact K
      · have a := par_spec W (by omega) hp
        have b := hr (par (cL C t) p) (by omega) a.1
        omega
    · rw [show (12 * (t : Int) + ((s : Int) - 1)).toNat = 12 * t + (s - 1) from by omega, show (12 * (t : Int) + (p : Int)).toNat = 12 * t + p from by omega, hC 1 _ rfl, hC 1 _ rfl, hW.l ht (p := s - 1) (by omega), hW.l ht hp]
      have l1 := hW.l12 ht (p := s - 1) (by omega)
      have l2 := hW.l12 ht hp
      refine ⟨⟨by omega, by omega⟩, ⟨by omega, by omega⟩, ⟨by omega, by omega⟩, ⟨by omega, by omega⟩, fun h2 => ?_, fun h2 => ⟨s - 1 + 1, by omega, s - 1, by omega, by omega, rfl, fun r h3 h4 => ?_, rfl⟩⟩
      · have e := par_uniq W hp (q := s - 1) (by omega) (by omega) (fun r h3 h4 => hr r (by omega) h4)
        rw [if_neg (by omega), e] at K
        rw [show (s : Int) - 1 = ((s - 1 : Nat) : Int) from by omega]
        exact K
      · by_cases c : r = s - 1
        · subst c; omega
        · exact hr r (by omega) h4
theorem sp_byPost (hW : WF C) (hC : Core C M) (hS : Sz C M) (ht : t < 2) (hp : p < cn C t) (e0 : p0 = t) (e1 : p1 = (po (cL C t) (cn C t) p : Int)) (K : Q p M) : wp_X11_byPostorder M p0 p1 Q := by
  subst e0; subst e1
  have n12 := hW.n12 ht
  have W := hW.wl ht
  unfold wp_X11_byPostorder
  refine ⟨fun n x3 M1 => ∃ a : Nat, x3 = a ∧ a ≤ p ∧ n = p - a ∧ M1 = M, ?_, ?_⟩
  · exact ⟨_, 0, rfl, Nat.zero_le _, rfl, rfl⟩
  · intro n x3 M1 ⟨a, e3, ha, hn, eM⟩
    subst e3; subst hn; subst eM
    unfold wph_X11_byPostorder_2
    have pa := po_add W (p := a) (by omega)
    have pp := po_lt W hp
    have pl := po_lt W (p := a) (by omega)
    have l1 := hW.l12 ht (p := a) (by omega)
    have z1 := hW.e (C := C) (t := t) (p := a) (by omega)
    rw [show (12 * (t : Int) + (a : Int)).toNat = 12 * t + a from by omega, hC 1 _ rfl, hW.l ht (p := a) (by omega), hS t a ht (by omega)]
    rw [show ((a : Int) - (cL C t a : Int) + ((ce C t a : Int) - (a : Int)) - 1) = (po (cL C t) (cn C t) a : Int) from by unfold ce; omega]
    refine ⟨⟨by omega, by omega⟩, ⟨by omega, by omega⟩, ⟨by omega, by omega⟩, ⟨by omega, by omega⟩, fun h => ?_, fun h => ⟨p - (a + 1), ?_, a + 1, by omega, ?_, rfl, rfl⟩⟩
    · rw [po_inj W (p := a) (q := p) (by omega) hp (by omega)]
      exact K
    · have : a ≠ p := fun e => h (by rw [e])
      omega
    · have : a ≠ p := fun e => h (by rw [e])
      omega
/-- whether a place is one level below another -/
def cI (C : Nat → Nat → Int) (t a p : Nat) : Int := if cL C t p = cL C t a + 1 then 1 else 0
def nch (C : Nat → Nat → Int) (t a : Nat) : Int := sm (cI C t a) (a + 1) (ce C t a)
theorem cI_bd (a k : Nat) : 0 ≤ cI C t a k ∧ cI C t a k ≤ 50 := by
  unfold cI
  split <;> omega
theorem sp_childrenOf (hW : WF C) (hC : Core C M) (hS : Sz C M) (ht : t < 2) (hp : p < cn C t) (e0 : p0 = t) (e1 : p1 = p) (K : Q (nch C t p) M) : wp_X11_childrenOf M p0 p1 Q := by
  subst e0; subst e1
  have n12 := hW.n12 ht
  have z1 := hW.e (C := C) (t := t) hp
  unfold wp_X11_childrenOf
  refine ⟨fun n x3 x4 M1 => ∃ k : Nat, x4 = k ∧ 1 ≤ k ∧ p + k ≤ ce C t p ∧ n = 50 - k ∧ x3 = sm (cI C t p) (p + 1) (p + k) ∧ M1 = M, ?_, ?_⟩
  · exact ⟨_, 1, rfl, by omega, by omega, rfl, (sm_self _ (Nat.le_refl _)).symm, rfl⟩
  · intro n x3 x4 M1 ⟨k, e4, h1, h2, hn, e3, eM⟩
    subst e4; subst hn; subst e3; subst eM
    unfold wph_X11_childrenOf_5
    rw [show (12 * (t : Int) + (p : Int)).toNat = 12 * t + p from by omega, show (12 * (t : Int) + (p : Int) + (k : Int)).toNat = 12 * t + (p + k) from by omega, hS t p ht hp]
    refine ⟨⟨by omega, by omega⟩, ⟨by omega, by omega⟩, ⟨by omega, by omega⟩, fun h => ?_, fun h => ?_⟩
    · rw [show p + k = ce C t p from by omega]
      exact K
    · have l1 := hW.l12 ht (p := p + k) (by omega)
      have l2 := hW.l12 ht hp
      rw [hC 1 _ rfl, hC 1 _ rfl, hW.l ht (p := p + k) (by omega), hW.l ht hp]
      refine ⟨⟨by omega, by omega⟩, ⟨by omega, by omega⟩, ⟨by omega, by omega⟩, ⟨by omega, by omega⟩, fun h3 => ?_, fun h3 => ?_⟩
      · intro y10 e10
        refine ⟨50 - (k + 1), by omega, k + 1, by omega, by omega, by omega, rfl, ?_, rfl⟩
        rw [show p + (k + 1) = p + k + 1 from by omega, sm_succ _ (by omega), e10]
        refine congrArg _ ?_
        exact (if_neg (by omega)).symm
      · intro y10 e10
        refine ⟨50 - (k + 1), by omega, k + 1, by omega, by omega, by omega, rfl, ?_, rfl⟩
        rw [show p + (k + 1) = p + k + 1 from by omega, sm_succ _ (by omega), e10]
        refine congrArg _ ?_
        exact (if_pos (by omega)).symm
/-- the places of the children, one behind the other -/
def chd (C : Nat → Nat → Int) (t a : Nat) : Nat → Nat
  | 0 => a + 1
  | k + 1 => ce C t (chd C t a k)
theorem chd_spec (hW : WF C) (ht : t < 2) (hp : p < cn C t) : ∀ k : Nat, (k : Int) ≤ nch C t p → p < chd C t p k ∧ chd C t p k ≤ ce C t p ∧ sm (cI C t p) (p + 1) (chd C t p k) = k ∧ (chd C t p k < ce C t p → cL C t (chd C t p k) = cL C t p + 1) ∧ ((k : Int) < nch C t p → chd C t p k < ce C t p) := by
  have z1 := hW.e (C := C) (t := t) hp
  have W := hW.wl ht
  intro k
  induction k with
  | zero =>
    intro _
    refine ⟨by unfold chd; omega, by unfold chd; omega, by unfold chd; rw [sm_self _ (Nat.le_refl _)]; rfl, fun h => ?_, fun h => ?_⟩
    · unfold chd at h ⊢
      have a := (W.2 p (by omega)).2
      have b := eN_in (L := cL C t) (n := cn C t) hp (q := p + 1) (by omega) h
      omega
    · unfold chd
      refine Decidable.byContradiction (fun c => ?_)
      have e : nch C t p = 0 := sm_self _ (by omega)
      omega
  | succ k ih =>
    intro hk
    obtain ⟨i1, i2, i3, i4, i5⟩ := ih (by omega)
    have hc := i5 (by omega)
    have hl := i4 hc
    have hcn : chd C t p k < cn C t := by omega
    have z2 := hW.e (C := C) (t := t) hcn
    have ne := eN_nest (L := cL C t) (n := cn C t) hp i1 hc
    have zero : ∀ j : Nat, chd C t p k + 1 ≤ j → j ≤ ce C t (chd C t p k) → sm (cI C t p) (chd C t p k + 1) j = 0 := by
      intro j
      induction j with
      | zero => intro h1 _; omega
      | succ j ihj =>
        intro h1 h2
        by_cases c : chd C t p k + 1 ≤ j
        · rw [sm_succ _ c, ihj c (by omega)]
          have lj := eN_in (L := cL C t) (n := cn C t) hcn (q := j) (by omega) (by unfold ce at h2; omega)
          have : cI C t p j = 0 := if_neg (by omega)
          omega
        · rw [sm_self _ (by omega)]
    have s1 : sm (cI C t p) (p + 1) (ce C t (chd C t p k)) = (k : Int) + 1 := by
      rw [sm_app _ (i := p + 1) (j := chd C t p k) (k := ce C t (chd C t p k)) (by omega) (by omega), sm_head _ (i := chd C t p k) z2.1, zero _ (by omega) (Nat.le_refl _), i3]
      have : cI C t p (chd C t p k) = 1 := if_pos hl
      omega
    refine ⟨by unfold chd; omega, ne, by change sm (cI C t p) (p + 1) (ce C t (chd C t p k)) = _; rw [s1]; omega, fun h => ?_, fun h => ?_⟩
    · change ce C t (chd C t p k) < ce C t p at h
      change cL C t (ce C t (chd C t p k)) = _
      have a := eN_at (L := cL C t) (n := cn C t) hcn (by unfold ce at h z1; omega)
      have b := eN_in (L := cL C t) (n := cn C t) hp (q := ce C t (chd C t p k)) (by omega) h
      unfold ce at b ⊢
      omega
    · change ce C t (chd C t p k) < ce C t p
      refine Decidable.byContradiction (fun c => ?_)
      have e : ce C t (chd C t p k) = ce C t p := by
        have : ce C t (chd C t p k) ≤ ce C t p := ne
        omega
      have : nch C t p = (k : Int) + 1 := by
        unfold nch
        rw [← e]
        exact s1
      omega
theorem sp_child (hW : WF C) (hC : Core C M) (hS : Sz C M) (ht : t < 2) (hp : p < cn C t) {k : Nat} {p2 : Int} (hk : (k : Int) ≤ nch C t p) (e0 : p0 = t) (e1 : p1 = p) (e2 : p2 = k) (K : Q (chd C t p k) M) : wp_X11_child M p0 p1 p2 Q := by
  subst e0; subst e1; subst e2
  have n12 := hW.n12 ht
  have z1 := hW.e (C := C) (t := t) hp
  have kb := (sm_bd (cI C t p) (i := p + 1) (j := ce C t p) (fun k _ _ => cI_bd p k)).2
  unfold wp_X11_child
  refine ⟨fun n x4 x5 M1 => ∃ j : Nat, x5 = j ∧ j ≤ k ∧ n = k - j ∧ x4 = (chd C t p j : Int) ∧ M1 = M, ?_, ?_⟩
  · intro y1 e1
    exact ⟨_, 0, rfl, Nat.zero_le _, rfl, by rw [e1]; unfold chd; omega, rfl⟩
  · intro n x4 x5 M1 ⟨j, e5, hj, hn, e4, eM⟩
    subst e5; subst hn; subst e4; subst eM
    unfold wph_X11_child_8
    have s := chd_spec hW ht hp j (by omega)
    unfold nch at hk
    refine ⟨⟨by omega, by omega⟩, ⟨by omega, by omega⟩, fun h => ?_, fun h => ?_⟩
    · rw [show j = k from by omega]
      exact K
    · have hc := s.2.2.2.2 (by unfold nch; omega)
      rw [show (12 * (t : Int) + (chd C t p j : Int)).toNat = 12 * t + chd C t p j from by omega, hS t _ ht (by omega)]
      refine ⟨⟨by omega, by omega⟩, fun y6 e6 => ⟨k - (j + 1), by omega, j + 1, by omega, by omega, rfl, ?_, rfl⟩⟩
      rw [e6]
      change _ = (ce C t (chd C t p j) : Int)
      omega
end MTREE
/-! the class's trees -/
def Cls (C : Nat → Nat → Int) (M : Mem) : Prop := (∀ t : Nat, t < 2 → M (11 + t) 8 0 = (cn C t : Int)) ∧ (∀ t p : Nat, t < 2 → p < cn C t → M (11 + t) 3 p = (nd C t p : Int) ∧ M (11 + t) 5 (nd C t p) = p ∧ M (11 + t) 6 (nd C t p) = (ce C t p : Int) - p ∧ M (11 + t) 7 (nd C t p) = (cL C t p : Int) ∧ M (11 + t) 2 (nd C t p) = (if p = 0 then -1 else (nd C t (par (cL C t) p) : Int)) ∧ M (11 + t) 4 (po (cL C t) (cn C t) p) = (nd C t p : Int) ∧ M (11 + t) 0 (nd C t p) = C 2 (12 * t + p) ∧ M (11 + t) 1 (nd C t p) = C 3 (12 * t + p)) ∧ (∀ k w : Nat, k < 4 → w < 3 → M 1 w k = C 6 (3 * k + w)) ∧ M 1 3 0 = C 7 0
section CTREE
variable {C : Nat → Nat → Int} {M : Mem} {t p o : Nat}
theorem Cls.n (h : Cls C M) (ho : o = 11 + t) (ht : t < 2) : M o 8 0 = (cn C t : Int) := ho ▸ h.1 t ht
theorem Cls.pre (h : Cls C M) (ho : o = 11 + t) (ht : t < 2) (hp : p < cn C t) : M o 3 p = (nd C t p : Int) := ho ▸ (h.2.1 t p ht hp).1
theorem Cls.pp (h : Cls C M) (ho : o = 11 + t) (ht : t < 2) (hp : p < cn C t) : M o 5 (nd C t p) = p := ho ▸ (h.2.1 t p ht hp).2.1
theorem Cls.sz (h : Cls C M) (ho : o = 11 + t) (ht : t < 2) (hp : p < cn C t) : M o 6 (nd C t p) = (ce C t p : Int) - p := ho ▸ (h.2.1 t p ht hp).2.2.1
theorem Cls.dp (h : Cls C M) (ho : o = 11 + t) (ht : t < 2) (hp : p < cn C t) : M o 7 (nd C t p) = (cL C t p : Int) := ho ▸ (h.2.1 t p ht hp).2.2.2.1
theorem Cls.pa (h : Cls C M) (ho : o = 11 + t) (ht : t < 2) (hp : p < cn C t) : M o 2 (nd C t p) = (if p = 0 then -1 else (nd C t (par (cL C t) p) : Int)) := ho ▸ (h.2.1 t p ht hp).2.2.2.2.1
theorem Cls.ps (h : Cls C M) (ho : o = 11 + t) (ht : t < 2) (hp : p < cn C t) : M o 4 (po (cL C t) (cn C t) p) = (nd C t p : Int) := ho ▸ (h.2.1 t p ht hp).2.2.2.2.2.1
theorem Cls.kd (h : Cls C M) (ho : o = 11 + t) (ht : t < 2) (hp : p < cn C t) : M o 0 (nd C t p) = C 2 (12 * t + p) := ho ▸ (h.2.1 t p ht hp).2.2.2.2.2.2.1
theorem Cls.lb (h : Cls C M) (ho : o = 11 + t) (ht : t < 2) (hp : p < cn C t) : M o 1 (nd C t p) = C 3 (12 * t + p) := ho ▸ (h.2.1 t p ht hp).2.2.2.2.2.2.2
/-- only trees and prices matter -/
def kt (o k : Nat) : Bool := o == 11 || o == 12 || o == 1
theorem Cls.fr {P : Nat → Nat → Bool} {M' : Mem} (h : Cls C M) (hF : Fr P M M') (hP : ∀ o k : Nat, kt o k = true → P o k = false) : Cls C M' := by
  have ft : ∀ t k i : Nat, t < 2 → M' (11 + t) k i = M (11 + t) k i := fun t k i ht => hF _ k i (hP _ _ (by
    have : t = 0 ∨ t = 1 := by omega
    rcases this with rfl | rfl <;> rfl))
  have f1 : ∀ k i : Nat, M' 1 k i = M 1 k i := fun k i => hF 1 k i (hP _ _ rfl)
  refine ⟨fun t ht => by rw [ft t 8 0 ht]; exact h.1 t ht, fun t p ht hp => ?_, fun k w hk hw => by rw [f1]; exact h.2.2.1 k w hk hw, by rw [f1]; exact h.2.2.2⟩
  simp only [ft t _ _ ht]
  exact h.2.1 t p ht hp
theorem isParent_iff (hW : WF C) (hX : Cls C M) (ho : o = 11 + t) (ht : t < 2) {a : Nat} (ha : a < cn C t) (h1 : a < p) (h2 : p < ce C t a) : M o 2 (nd C t p) = (nd C t a : Int) ↔ cL C t p = cL C t a + 1 := by
  have hp : p < cn C t := Nat.lt_of_lt_of_le h2 (eN_le ha)
  rw [hX.pa ho ht hp, if_neg (by omega), ← par_iff (hW.wl ht) ha h1 h2]
  have q := (par_spec (hW.wl ht) (p := p) (by omega) hp).1
  constructor
  · intro e
    exact hW.inj ht (by omega) ha (by omega)
  · intro e
    rw [e]
section INTQ
variable {Q : Int → Mem → Prop} {p0 : Int}
theorem sp_end (hW : WF C) (hX : Cls C M) (ho : o = 11 + t) (ht : t < 2) (hp : p < cn C t) (e : p0 = (nd C t p : Int)) (K : Q (ce C t p) M) : wp_X9_endOf M o p0 Q := by
  have n12 := hW.n12 ht
  have l := hW.ndl ht hp
  refine sp_endOf e (by omega) ?_
  rw [hX.pp ho ht hp, hX.sz ho ht hp, show (p : Int) + ((ce C t p : Int) - p) = (ce C t p : Int) from by omega]
  exact K
theorem sp_postPlace (hW : WF C) (hX : Cls C M) (ho : o = 11 + t) (ht : t < 2) (hp : p < cn C t) (e : p0 = (nd C t p : Int)) (K : Q (po (cL C t) (cn C t) p) M) : wp_X9_postPlace M o p0 Q := by
  subst e
  have n12 := hW.n12 ht
  have l := hW.ndl ht hp
  have pa := po_add (hW.wl ht) hp
  unfold wp_X9_postPlace wpe_X9_postPlace
  simp only [Int.toNat_natCast]
  rw [hX.pp ho ht hp, hX.sz ho ht hp, hX.dp ho ht hp, show (p : Int) - (cL C t p : Int) + ((ce C t p : Int) - p) - 1 = (po (cL C t) (cn C t) p : Int) from by unfold ce; omega]
  exact ⟨⟨by omega, by omega⟩, ⟨by omega, by omega⟩, ⟨by omega, by omega⟩, K⟩
theorem sp_isKey (hW : WF C) (hX : Cls C M) (hB : Bd M) (ho : o = 11 + t) (ht : t < 2) (hp : p < cn C t) (e : p0 = (nd C t p : Int)) (K : Q (if p = 0 ∨ cL C t p ≤ cL C t (p - 1) then 1 else 0) M) : wp_X9_isKey M o p0 Q := by
  subst e
  have n12 := hW.n12 ht
  have l := hW.ndl ht hp
  unfold wp_X9_isKey wpe_X9_isKey wpj_X9_isKey_32
  simp only [Int.toNat_natCast]
  refine ⟨⟨by omega, by omega⟩, hB.r _ _ _, fun h => ?_, fun h => ?_⟩
  · rw [hX.pa ho ht hp] at h
    by_cases c : p = 0
    · rwa [if_pos (Or.inl c)] at K
    · rw [if_neg c] at h
      omega
  · rw [hX.pa ho ht hp] at h ⊢
    have c : ¬ (p = 0) := fun z => h (if_pos z)
    rw [if_neg c]
    have q := par_spec (hW.wl ht) (p := p) (by omega) hp
    have l2 := hW.ndl ht (p := par (cL C t) p) (by omega)
    have kk := par_key (hW.wl ht) (p := p) (by omega) hp
    simp only [Int.toNat_natCast]
    rw [hX.pp ho ht hp, hX.pp ho ht (p := par (cL C t) p) (by omega)]
    refine ⟨⟨by omega, by omega⟩, ⟨by omega, by omega⟩, ⟨by omega, by omega⟩, ⟨by omega, by omega⟩, ⟨by omega, by omega⟩, fun h2 => ?_, fun h2 => ?_⟩
    · have := kk.mp (by omega)
      rwa [if_neg (by omega)] at K
    · have : ¬ (cL C t (p - 1) < cL C t p) := fun z => h2 (by have := kk.mpr z; omega)
      rwa [if_pos (by omega)] at K
theorem sp_childCount (hW : WF C) (hX : Cls C M) (hB : Bd M) (ho : o = 11 + t) (ht : t < 2) (hp : p < cn C t) (e : p0 = (nd C t p : Int)) (K : Q (nch C t p) M) : wp_X9_childCount M o p0 Q := by
  subst e
  have n12 := hW.n12 ht
  have l := hW.ndl ht hp
  have z1 := hW.e (C := C) (t := t) hp
  unfold wp_X9_childCount
  refine ⟨fun n x2 x3 M1 => ∃ k : Nat, x3 = k ∧ p + 1 ≤ k ∧ k ≤ ce C t p ∧ n = 50 - k ∧ x2 = sm (cI C t p) (p + 1) k ∧ M1 = M, ?_, ?_⟩
  · unfold wpe_X9_childCount
    simp only [Int.toNat_natCast]
    refine ⟨⟨by omega, by omega⟩, fun y2 e2 => ⟨_, p + 1, ?_, by omega, by omega, rfl, (sm_self _ (Nat.le_refl _)).symm, trivial⟩⟩
    rw [e2, hX.pp ho ht hp]
    omega
  · intro n x2 x3 M1 ⟨k, e3, h1, h2, hn, e2, eM⟩
    subst e3; subst hn; subst e2; subst eM
    unfold wph_X9_childCount_11
    refine sp_end hW hX ho ht hp rfl ⟨⟨by omega, by omega⟩, ⟨by omega, by omega⟩, fun h => ?_, fun h => ?_⟩
    · rw [show k = ce C t p from by omega]
      exact K
    · have l2 := hW.ndl ht (p := k) (by omega)
      have ip := isParent_iff hW hX ho ht hp (p := k) (by omega) (by omega)
      simp only [Int.toNat_natCast]
      rw [hX.pre ho ht (p := k) (by omega)]
      simp only [Int.toNat_natCast]
      refine ⟨⟨by omega, by omega⟩, ⟨by omega, by omega⟩, hB.r _ _ _, ⟨by omega, by omega⟩, fun h3 => ?_, fun h3 => ?_⟩
      · refine ⟨50 - (k + 1), by omega, k + 1, by omega, by omega, by omega, rfl, ?_, rfl⟩
        rw [sm_succ _ (by omega)]
        have : cI C t p k = 0 := if_neg (fun z => h3 (ip.mpr z))
        omega
      · refine ⟨50 - (k + 1), by omega, k + 1, by omega, by omega, by omega, rfl, ?_, rfl⟩
        rw [sm_succ _ (by omega)]
        have : cI C t p k = 1 := if_pos (ip.mp (Decidable.byContradiction h3))
        omega
theorem sp_nthChild (hW : WF C) (hX : Cls C M) (hB : Bd M) (ho : o = 11 + t) (ht : t < 2) (hp : p < cn C t) {k : Nat} {p1 : Int} (hk : (k : Int) < nch C t p) (e : p0 = (nd C t p : Int)) (e1 : p1 = k) (K : Q (nd C t (chd C t p k)) M) : wp_X9_nthChild M o p0 p1 Q := by
  subst e; subst e1
  have n12 := hW.n12 ht
  have l := hW.ndl ht hp
  have z1 := hW.e (C := C) (t := t) hp
  have cs := chd_spec hW ht hp k (by omega)
  have cc := cs.2.2.2.2 hk
  have cl := cs.2.2.2.1 cc
  have SB : ∀ i j : Nat, 0 ≤ sm (cI C t p) i j := fun i j => (sm_bd (cI C t p) (i := i) (j := j) (fun k _ _ => cI_bd p k)).1
  unfold wp_X9_nthChild
  refine ⟨fun n x3 x4 M1 => ∃ j : Nat, x4 = j ∧ p + 1 ≤ j ∧ j ≤ chd C t p k ∧ n = 50 - j ∧ x3 = (k : Int) - sm (cI C t p) (p + 1) j ∧ M1 = M, ?_, ?_⟩
  · unfold wpe_X9_nthChild
    simp only [Int.toNat_natCast]
    refine ⟨⟨by omega, by omega⟩, fun y2 e2 => ⟨_, p + 1, ?_, by omega, by omega, rfl, ?_, trivial⟩⟩
    · rw [e2, hX.pp ho ht hp]
      omega
    · rw [sm_self _ (Nat.le_refl _)]
      omega
  · intro n x3 x4 M1 ⟨j, e4, h1, h2, hn, e3, eM⟩
    subst e4; subst hn; subst e3; subst eM
    have sa := sm_app (cI C t p) (i := p + 1) (j := j) (k := chd C t p k) h1 h2
    have sb := SB j (chd C t p k)
    have sc := SB (p + 1) j
    have kb := (sm_bd (cI C t p) (i := p + 1) (j := ce C t p) (fun k _ _ => cI_bd p k)).2
    have kn : nch C t p = sm (cI C t p) (p + 1) (ce C t p) := rfl
    unfold wph_X9_nthChild_12
    refine sp_end hW hX ho ht hp rfl ⟨⟨by omega, by omega⟩, ⟨by omega, by omega⟩, fun h => absurd h (by omega), fun h => ?_⟩
    have l2 := hW.ndl ht (p := j) (by omega)
    have ip := isParent_iff hW hX ho ht hp (p := j) (by omega) (by omega)
    simp only [Int.toNat_natCast]
    rw [hX.pre ho ht (p := j) (by omega)]
    simp only [Int.toNat_natCast]
    refine ⟨⟨by omega, by omega⟩, ⟨by omega, by omega⟩, hB.r _ _ _, ⟨by omega, by omega⟩, fun h3 => ?_, fun h3 => ?_⟩
    · have c0 : cI C t p j = 0 := if_neg (fun z => h3 (ip.mpr z))
      have ne : j ≠ chd C t p k := fun z => h3 (ip.mpr (z ▸ cl))
      refine ⟨50 - (j + 1), by omega, j + 1, by omega, by omega, by omega, rfl, ?_, rfl⟩
      rw [sm_succ _ (by omega)]
      omega
    · have c1 : cI C t p j = 1 := if_pos (ip.mp (Decidable.byContradiction h3))
      have s1 := sm_succ (cI C t p) (i := p + 1) (j := j) (by omega)
      refine ⟨⟨by omega, by omega⟩, fun h4 => ?_, fun h4 => ⟨⟨by omega, by omega⟩, ?_⟩⟩
      · have ne : j ≠ chd C t p k := fun z => by
          have := cs.2.2.1
          rw [← z] at this
          omega
        refine ⟨50 - (j + 1), by omega, j + 1, by omega, by omega, by omega, rfl, ?_, rfl⟩
        rw [s1]
        omega
      · have e : j = chd C t p k := by
          refine Decidable.byContradiction (fun z => ?_)
          have sd := sm_app (cI C t p) (i := p + 1) (j := j + 1) (k := chd C t p k) (by omega) (by omega)
          have se := SB (j + 1) (chd C t p k)
          have := cs.2.2.1
          omega
        rw [e]
        exact K
theorem sp_spotFor (hW : WF C) (hX : Cls C M) (hB : Bd M) (ho : o = 11 + t) (ht : t < 2) (hp : p < cn C t) {k : Nat} {p1 : Int} (hk : (k : Int) ≤ nch C t p) (e : p0 = (nd C t p : Int)) (e1 : p1 = k) (K : Q (chd C t p k) M) : wp_X9_spotFor M o p0 p1 Q := by
  subst e; subst e1
  have n12 := hW.n12 ht
  have l := hW.ndl ht hp
  have kb := (sm_bd (cI C t p) (i := p + 1) (j := ce C t p) (fun k _ _ => cI_bd p k)).2
  have kn : nch C t p = sm (cI C t p) (p + 1) (ce C t p) := rfl
  have z1 := hW.e (C := C) (t := t) hp
  unfold wp_X9_spotFor wpe_X9_spotFor
  refine ⟨⟨by omega, by omega⟩, fun h => ?_, fun h => ?_⟩
  · have cs := chd_spec hW ht hp (k - 1) (by omega)
    have cc := cs.2.2.2.2 (by omega)
    have l2 := hW.ndl ht (p := chd C t p (k - 1)) (by omega)
    refine sp_nthChild hW hX hB ho ht hp (k := k - 1) (by omega) rfl (by omega) ?_
    unfold wpj_X9_spotFor_16
    refine ⟨⟨by omega, by omega⟩, fun h2 => sp_end hW hX ho ht (p := chd C t p (k - 1)) (by omega) rfl ?_, fun h2 => absurd (by omega) h2⟩
    have e : chd C t p k = ce C t (chd C t p (k - 1)) := by
      rw [show k = (k - 1) + 1 from by omega]
      rfl
    rw [← e]
    exact K
  · have e : k = 0 := by omega
    subst e
    unfold wpj_X9_spotFor_16
    simp only [Int.toNat_natCast]
    refine ⟨⟨by omega, by omega⟩, fun h2 => absurd rfl h2, fun h2 => ⟨⟨by omega, by omega⟩, ?_⟩⟩
    rw [hX.pp ho ht hp]
    exact K
end INTQ
end CTREE
