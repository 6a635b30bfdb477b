/-! a new leaf: the trees with one node more -/
def Ins (C C' : Nat → Nat → Int) (t s L : Nat) (kd lb : Int) : Prop := C' 5 t = (cn C t : Int) + 1 ∧ (∀ k i : Nat, k < 4 → ¬ (12 * t ≤ i ∧ i < 12 * t + 12) ∨ 12 * t + cn C t < i → C' k i = C k i) ∧ (∀ i : Nat, i ≠ t → C' 5 i = C 5 i) ∧ (∀ i : Nat, C' 6 i = C 6 i) ∧ (∀ i : Nat, C' 7 i = C 7 i) ∧ (∀ k p : Nat, k < 4 → p < s → C' k (12 * t + p) = C k (12 * t + p)) ∧ (∀ k p : Nat, k < 4 → s ≤ p → p < cn C t → C' k (12 * t + (p + 1)) = C k (12 * t + p)) ∧ C' 0 (12 * t + s) = (cn C t : Int) ∧ C' 1 (12 * t + s) = (L : Int) ∧ C' 2 (12 * t + s) = kd ∧ C' 3 (12 * t + s) = lb
/-- where a place goes -/
def sh (s p : Nat) : Nat := if p < s then p else p + 1
/-- a place that fits: the level of the new leaf -/
def fits (C : Nat → Nat → Int) (t s L : Nat) : Prop := s ≤ cn C t ∧ (s = 0 → L = 0 ∧ cn C t = 0) ∧ (0 < s → 1 ≤ L ∧ L ≤ cL C t (s - 1) + 1) ∧ (s < cn C t → cL C t s ≤ L)
section INS
variable {C C' : Nat → Nat → Int} {M : Mem} {t s L o : Nat} {kd lb : Int}
theorem Ins.n (h : Ins C C' t s L kd lb) : cn C' t = cn C t + 1 := by
  unfold cn at *
  rw [h.1]
  unfold cn
  omega
theorem Ins.on (h : Ins C C' t s L kd lb) {u : Nat} (hu : u ≠ t) : cn C' u = cn C u := by
  unfold cn
  rw [h.2.2.1 u hu]
theorem Ins.oc (h : Ins C C' t s L kd lb) {u : Nat} (hu : u ≠ t) {k p : Nat} (hk : k < 4) (hp : p < 12) : C' k (12 * u + p) = C k (12 * u + p) := h.2.1 k _ hk (Or.inl (by omega))
theorem Ins.c (h : Ins C C' t s L kd lb) (hs : s ≤ cn C t) {k p : Nat} (hk : k < 4) (hp : p < cn C t) : C' k (12 * t + sh s p) = C k (12 * t + p) := by
  unfold sh
  split
  · exact h.2.2.2.2.2.1 k p hk (by assumption)
  · exact h.2.2.2.2.2.2.1 k p hk (by omega) hp
theorem sh_cov {s q n : Nat} (hs : s ≤ n) (hq : q < n + 1) : q = s ∨ ∃ p : Nat, p < n ∧ q = sh s p := by
  rcases Nat.lt_trichotomy q s with h | h | h
  · exact Or.inr ⟨q, by omega, by unfold sh; rw [if_pos h]⟩
  · exact Or.inl h
  · exact Or.inr ⟨q - 1, by omega, by unfold sh; rw [if_neg (by omega)]; omega⟩
theorem sh_ne {s p : Nat} : sh s p ≠ s := by
  unfold sh
  split <;> omega
theorem sh_inj {s p q : Nat} (h : sh s p = sh s q) : p = q := by
  unfold sh at h
  split at h <;> split at h <;> omega
theorem sh_le {s p n : Nat} (hp : p < n) : sh s p < n + 1 := by
  unfold sh
  split <;> omega
theorem Ins.lv (h : Ins C C' t s L kd lb) (hs : s ≤ cn C t) {p : Nat} (hp : p < cn C t) : cL C' t (sh s p) = cL C t p := by
  unfold cL
  rw [h.c hs (by omega) hp]
theorem Ins.Ls (h : Ins C C' t s L kd lb) : cL C' t s = L := by
  unfold cL
  rw [h.2.2.2.2.2.2.2.2.1]
  omega
theorem Ins.nd (h : Ins C C' t s L kd lb) (hs : s ≤ cn C t) {p : Nat} (hp : p < cn C t) : nd C' t (sh s p) = nd C t p := by
  unfold Jvm.Pilot.CTreeComparerLaw_law_r8397_680963.nd
  rw [h.c hs (by omega) hp]
theorem Ins.nds (h : Ins C C' t s L kd lb) : Jvm.Pilot.CTreeComparerLaw_law_r8397_680963.nd C' t s = cn C t := by
  unfold Jvm.Pilot.CTreeComparerLaw_law_r8397_680963.nd
  rw [h.2.2.2.2.2.2.2.1]
  omega
theorem Ins.wl (h : Ins C C' t s L kd lb) (hW : WF C) (ht : t < 2) (hf : fits C t s L) : WL (cL C' t) (cn C' t) := by
  obtain ⟨f1, f2, f3, f4⟩ := hf
  have w := hW.wl ht
  rw [h.n]
  have lo : ∀ p : Nat, p < s → cL C' t p = cL C t p := fun p hp => by
    have a := h.lv f1 (p := p) (by omega)
    unfold sh at a
    rwa [if_pos hp] at a
  have hi : ∀ p : Nat, s ≤ p → p < cn C t → cL C' t (p + 1) = cL C t p := fun p hp hq => by
    have a := h.lv f1 hq
    unfold sh at a
    rwa [if_neg (by omega)] at a
  constructor
  · intro _
    by_cases c : s = 0
    · have a := h.Ls
      have b := f2 c
      rw [c] at a
      omega
    · rw [lo 0 (by omega)]
      exact w.1 (by omega)
  · intro p hp
    rcases Nat.lt_trichotomy (p + 1) s with c | c | c
    · rw [lo p (by omega), lo (p + 1) c]
      exact w.2 p (by omega)
    · rw [c, h.Ls, lo p (by omega)]
      have := f3 (by omega)
      rw [show s - 1 = p from by omega] at this
      exact this
    · rw [hi p (by omega) (by omega)]
      by_cases d : p = s
      · rw [d, h.Ls]
        have a := f4 (by omega)
        have b := f2
        have e := w.2 (s - 1)
        rw [show s - 1 + 1 = s from by omega] at e
        have e2 := e (by omega)
        omega
      · have a := hi (p - 1) (by omega) (by omega)
        rw [show p - 1 + 1 = p from by omega] at a
        rw [a]
        have e := w.2 (p - 1) (by omega)
        rw [show p - 1 + 1 = p from by omega] at e
        exact e
theorem Ins.wf (h : Ins C C' t s L kd lb) (hW : WF C) (ht : t < 2) (hf : fits C t s L) (h12 : cn C t < 12) (hk : 0 ≤ kd ∧ kd ≤ 3) (hl : 0 ≤ lb ∧ lb ≤ 99) : WF C' := by
  have f1 := hf.1
  have hn := h.n
  refine ⟨fun u hu => ?_, fun u p hu hp => ?_, fun u p q hu hp hq e => ?_, fun i hi => ?_, ?_⟩
  · by_cases c : u = t
    · subst c
      refine ⟨?_, by omega, h.wl hW ht hf⟩
      rw [h.1, hn]
      omega
    · have a := hW.1 u hu
      rw [h.on c, h.2.2.1 u c]
      refine ⟨a.1, a.2.1, ?_⟩
      have w := a.2.2
      have el : ∀ p : Nat, p < cn C u → cL C' u p = cL C u p := fun p hp => by
        unfold cL
        rw [h.oc c (by omega) (by omega)]
      refine ⟨fun z => by rw [el 0 z]; exact w.1 z, fun p hp => ?_⟩
      rw [el p (by omega), el (p + 1) hp]
      exact w.2 p hp
  · by_cases c : u = t
    · subst c
      rw [hn] at hp ⊢
      rcases sh_cov f1 hp with rfl | ⟨q, hq, rfl⟩
      · rw [h.Ls, h.2.2.2.2.2.2.2.2.1, h.2.2.2.2.2.2.2.1, h.2.2.2.2.2.2.2.2.2.1, h.2.2.2.2.2.2.2.2.2.2]
        exact ⟨rfl, hk, hl, by omega, by omega⟩
      · rw [h.lv f1 hq, h.c f1 (by omega) hq, h.c f1 (by omega) hq, h.c f1 (by omega) hq, h.c f1 (by omega) hq]
        obtain ⟨a, b, d, e⟩ := hW.2.1 u q hu hq
        exact ⟨a, b, d, e.1, by omega⟩
    · rw [h.on c] at hp ⊢
      have n12 := (hW.1 u hu).2.1
      have a := hW.2.1 u p hu hp
      unfold cL at a ⊢
      rw [h.oc c (by omega) (by omega), h.oc c (by omega) (by omega), h.oc c (by omega) (by omega), h.oc c (by omega) (by omega)]
      exact a
  · by_cases c : u = t
    · subst c
      rw [hn] at hp hq
      rcases sh_cov f1 hp with rfl | ⟨x, hx, rfl⟩
      · rcases sh_cov f1 hq with rfl | ⟨y, hy, rfl⟩
        · rfl
        · rw [h.c f1 (by omega) hy, h.2.2.2.2.2.2.2.1] at e
          have := (hW.2.1 u y hu hy).2.2.2
          omega
      · rcases sh_cov f1 hq with rfl | ⟨y, hy, rfl⟩
        · rw [h.c f1 (by omega) hx, h.2.2.2.2.2.2.2.1] at e
          have := (hW.2.1 u x hu hx).2.2.2
          omega
        · rw [h.c f1 (by omega) hx, h.c f1 (by omega) hy] at e
          rw [hW.2.2.1 u x y hu hx hy e]
    · rw [h.on c] at hp hq
      have n12 := (hW.1 u hu).2.1
      rw [h.oc c (by omega) (by omega), h.oc c (by omega) (by omega)] at e
      exact hW.2.2.1 u p q hu hp hq e
  · rw [h.2.2.2.1]
    exact hW.2.2.2.1 i hi
  · rw [h.2.2.2.2.1]
    exact hW.2.2.2.2
/-- the parents of the places that were there -/
theorem Ins.par (h : Ins C C' t s L kd lb) (hW : WF C) (ht : t < 2) (hf : fits C t s L) {p : Nat} (h0 : 0 < p) (hp : p < cn C t) : par (cL C' t) (sh s p) = sh s (par (cL C t) p) := by
  have f1 := hf.1
  have ps := par_spec (hW.wl ht) h0 hp
  have hq : Jvm.Pilot.CTreeComparerLaw_law_r8397_680963.par (cL C t) p < cn C t := by omega
  refine par_uniq (h.wl hW ht hf) (n := cn C' t) ?_ ?_ ?_ (fun r h1 h2 => ?_)
  · rw [h.n]
    exact sh_le hp
  · unfold sh
    split <;> split <;> omega
  · rw [h.lv f1 hp, h.lv f1 hq]
    omega
  · have hr : r < cn C t + 1 := by
      have := sh_le (s := s) hp
      omega
    rw [h.lv f1 hp]
    rcases sh_cov f1 hr with rfl | ⟨x, hx, rfl⟩
    · rw [h.Ls]
      have sp : r ≤ p := by
        unfold sh at h2
        split at h2 <;> omega
      by_cases c : p = r
      · rw [c]
        exact hf.2.2.2 (by omega)
      · have a := hf.2.2.2 (by omega)
        have b := ps.2.2 r (by unfold sh at h1; split at h1 <;> omega) (by omega)
        omega
    · rw [h.lv f1 hx]
      refine ps.2.2 x ?_ ?_
      · unfold sh at h1
        split at h1 <;> split at h1 <;> omega
      · unfold sh at h2
        split at h2 <;> split at h2 <;> omega
/-- the parent of the new leaf -/
theorem Ins.pars (h : Ins C C' t s L kd lb) (hW : WF C) (ht : t < 2) (hf : fits C t s L) {a : Nat} (ha : a < s) (hL : L = cL C t a + 1) (hb : ∀ r : Nat, a < r → r < s → L ≤ cL C t r) : Jvm.Pilot.CTreeComparerLaw_law_r8397_680963.par (cL C' t) s = a := by
  have f1 := hf.1
  have lo : ∀ p : Nat, p < s → cL C' t p = cL C t p := fun p hp => by
    have a := h.lv f1 (p := p) (by omega)
    unfold sh at a
    rwa [if_pos hp] at a
  refine par_uniq (h.wl hW ht hf) (n := cn C' t) ?_ ha ?_ (fun r h1 h2 => ?_)
  · rw [h.n]
    omega
  · rw [lo a ha, h.Ls]
    omega
  · rw [lo r h2, h.Ls]
    exact hb r h1 h2
/-- the trees with a leaf more -/
def insC (C : Nat → Nat → Int) (t s L : Nat) (kd lb : Int) (k i : Nat) : Int := if k = 5 then (if i = t then (cn C t : Int) + 1 else C 5 i) else if k < 4 ∧ 12 * t + s ≤ i ∧ i ≤ 12 * t + cn C t then (if i = 12 * t + s then (if k = 0 then (cn C t : Int) else if k = 1 then (L : Int) else if k = 2 then kd else lb) else C k (i - 1)) else C k i
theorem insC_is (hs : s ≤ cn C t) (h12 : cn C t < 12) : Ins C (insC C t s L kd lb) t s L kd lb := by
  refine ⟨?_, fun k i hk hi => ?_, fun i hi => ?_, fun i => ?_, fun i => ?_, fun k p hk hp => ?_, fun k p hk h1 h2 => ?_, ?_, ?_, ?_, ?_⟩ <;> unfold insC
  · rw [if_pos rfl, if_pos rfl]
  · rw [if_neg (by omega), if_neg (by omega)]
  · rw [if_pos rfl, if_neg hi]
  · rw [if_neg (by omega), if_neg (by omega)]
  · rw [if_neg (by omega), if_neg (by omega)]
  · rw [if_neg (by omega), if_neg (by omega)]
  · rw [if_neg (by omega), if_pos (by omega), if_neg (by omega), show 12 * t + (p + 1) - 1 = 12 * t + p from by omega]
  · rw [if_neg (by omega), if_pos (by omega), if_pos rfl, if_pos rfl]
  · rw [if_neg (by omega), if_pos (by omega), if_pos rfl, if_neg (by omega), if_pos rfl]
  · rw [if_neg (by omega), if_pos (by omega), if_pos rfl, if_neg (by omega), if_neg (by omega), if_pos rfl]
  · rw [if_neg (by omega), if_pos (by omega), if_pos rfl, if_neg (by omega), if_neg (by omega), if_neg (by omega)]
theorem Ins.uniq {A B : Nat → Nat → Int} (ha : Ins C A t s L kd lb) (hb : Ins C B t s L kd lb) {k i : Nat} (hk : kc k = true) : A k i = B k i := by
  have K : ∀ k : Nat, k < 4 → A k i = B k i := fun k hk => by
    by_cases c : ¬ (12 * t ≤ i ∧ i < 12 * t + 12) ∨ 12 * t + cn C t < i
    · rw [ha.2.1 k i hk c, hb.2.1 k i hk c]
    · obtain ⟨p, rfl⟩ : ∃ p : Nat, i = 12 * t + p := ⟨i - 12 * t, by omega⟩
      rcases Nat.lt_trichotomy p s with d | d | d
      · rw [ha.2.2.2.2.2.1 k p hk d, hb.2.2.2.2.2.1 k p hk d]
      · subst d
        obtain ⟨_, _, _, _, _, _, _, a0, a1, a2, a3⟩ := ha
        obtain ⟨_, _, _, _, _, _, _, b0, b1, b2, b3⟩ := hb
        have : k = 0 ∨ k = 1 ∨ k = 2 ∨ k = 3 := by omega
        rcases this with rfl | rfl | rfl | rfl
        · rw [a0, b0]
        · rw [a1, b1]
        · rw [a2, b2]
        · rw [a3, b3]
      · have a := ha.2.2.2.2.2.2.1 k (p - 1) hk (by omega) (by omega)
        have b := hb.2.2.2.2.2.2.1 k (p - 1) hk (by omega) (by omega)
        rw [show p - 1 + 1 = p from by omega] at a b
        rw [a, b]
  rcases kc_of hk with rfl | rfl | rfl | rfl | rfl | rfl | rfl
  · exact K 0 (by omega)
  · exact K 1 (by omega)
  · exact K 2 (by omega)
  · exact K 3 (by omega)
  · by_cases c : i = t
    · rw [c, ha.1, hb.1]
    · rw [ha.2.2.1 i c, hb.2.2.1 i c]
  · rw [ha.2.2.2.1, hb.2.2.2.1]
  · rw [ha.2.2.2.2.1, hb.2.2.2.2.1]
end INS
