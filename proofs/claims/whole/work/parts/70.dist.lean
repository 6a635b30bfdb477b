/-! rows in postorder and backwards tell the same least costs as the reference's rows -/
section DIST
variable {C : Nat → Nat → Int}
def dE (C : Nat → Nat → Int) (pr : Nat → Nat → Int) : CP := ccE (ce C 0) (ce C 1) (cdl C) (cil C) pr
theorem rr_back {t : Nat} (hb : (1 : Nat) ≠ 0) : ∀ (i j : Nat), i ≤ j → j ≤ cn C t → (rr i j).map (pl C t 1) = rg (cn C t - j) (cn C t - i) := by
  intro i j
  induction j with
  | zero => intro h1 h2; rw [rr_nil (by omega), rg_nil (by omega)]; rfl
  | succ j ih =>
    intro h1 h2
    by_cases c : i < j + 1
    · rw [rr_cons c, List.map_cons, show j + 1 - 1 = j from by omega, ih (by omega) (by omega), rg_cons (i := cn C t - (j + 1)) (j := cn C t - i) (by omega)]
      have e : pl C t 1 j = cn C t - (j + 1) := by
        have : pl C t 1 j = cn C t - 1 - j := if_neg hb
        omega
      rw [e, show cn C t - (j + 1) + 1 = cn C t - j from by omega]
    · rw [rr_nil (by omega), rg_nil (by omega)]
      rfl
theorem RD_back (hW : WF C) {i j k l : Nat} (h1 : i ≤ j) (hj : j ≤ cn C 0) (h2 : k ≤ l) (hl : l ≤ cn C 1) : RD C 1 i j k l = dd (cc C) (rg (cn C 0 - j) (cn C 0 - i)) (rg (cn C 1 - l) (cn C 1 - k)) := by
  rw [← rr_back (by decide) i j h1 hj, ← rr_back (by decide) k l h2 hl]
  refine (dd_map (cc C) (crow C 1) (pl C 0 1) (pl C 1 1) (rr i j) (rr k l) (fun x hx z hz => ?_) (fun x hx z hz => ?_) (fun _ _ => rfl) (fun _ _ => rfl) (fun _ _ _ _ => rfl)).symm
  · have a := mem_rr.mp hx
    have b := mem_rr.mp hz
    have e := rF_anc (b := 1) hW (t := 0) (by omega) (p := x) (q := z) (by omega) (by omega)
    change decide (pl C 0 1 x < pl C 0 1 z ∧ pl C 0 1 z < ce C 0 (pl C 0 1 x)) = decide (rF C 0 1 x ≤ z ∧ z < x)
    exact decide_eq_decide.mpr e.symm
  · have a := mem_rr.mp hx
    have b := mem_rr.mp hz
    have e := rF_anc (b := 1) hW (t := 1) (by omega) (p := x) (q := z) (by omega) (by omega)
    change decide (pl C 1 1 x < pl C 1 1 z ∧ pl C 1 1 z < ce C 1 (pl C 1 1 x)) = decide (rF C 1 1 x ≤ z ∧ z < x)
    exact decide_eq_decide.mpr e.symm
/-- a row in postorder, its places in preorder -/
theorem rr_post (hW : WF C) {t i j a b : Nat} (ht : t < 2) (hj : j ≤ cn C t) (hb : b ≤ cn C t) (hm : ∀ z : Nat, z < cn C t → ((i ≤ z ∧ z < j) ↔ (a ≤ pl C t 0 z ∧ pl C t 0 z < b))) : ((rr i j).map (pl C t 0)).Perm (rg a b) ∧ Srt (fun u => cn C t - po (cL C t) (cn C t) u) ((rr i j).map (pl C t 0)) := by
  have S : Srt (fun u => cn C t - po (cL C t) (cn C t) u) ((rr i j).map (pl C t 0)) := by
    unfold Srt
    rw [List.pairwise_map]
    unfold rr
    rw [List.pairwise_reverse]
    refine (rg_srt i j).imp_of_mem (fun {u v} hu hv h => ?_)
    have a := mem_rg.mp hu
    have b := mem_rg.mp hv
    dsimp only
    rw [pl_po hW ht (p := u) (by omega), pl_po hW ht (p := v) (by omega)]
    omega
  refine ⟨?_, S⟩
  have N : ((rr i j).map (pl C t 0)).Nodup := S.imp (fun h e => by rw [e] at h; exact Nat.lt_irrefl _ h)
  refine (List.perm_ext_iff_of_nodup N (rg_nodup a b)).mpr (fun u => ?_)
  rw [List.mem_map, mem_rg]
  constructor
  · rintro ⟨z, hz, e⟩
    have h := mem_rr.mp hz
    rw [← e]
    exact (hm z (by omega)).mp h
  · intro h
    have hu : u < cn C t := by omega
    have e := po_pl hW ht hu
    have l := po_lt (hW.wl ht) hu
    refine ⟨po (cL C t) (cn C t) u, mem_rr.mpr ((hm _ l).mpr ?_), e⟩
    rw [e]
    exact h
theorem FO_tree (hW : WF C) {t : Nat} (ht : t < 2) (xs : List Nat) (hx : ∀ u ∈ xs, u < cn C t) : FO (fun u v => decide (u < v ∧ v < ce C t u)) (fun u => cn C t - po (cL C t) (cn C t) u) (fun u => u) xs := by
  have W := hW.wl ht
  refine ⟨fun u hu v hv => ?_, fun u hu v hv w hw h1 h2 => ?_⟩
  · have a := hx u hu
    have b := hx v hv
    have l1 := po_lt W a
    have l2 := po_lt W b
    rw [decide_eq_true_eq]
    dsimp only
    constructor
    · intro h
      have := po_anc W a h.1 h.2
      omega
    · intro h
      refine ⟨h.2, Decidable.byContradiction (fun c => ?_)⟩
      have := po_right W a b (by unfold ce at c; omega)
      omega
  · rw [decide_eq_true_eq] at h1 h2
    rcases Nat.lt_trichotomy u v with c | c | c
    · exact Or.inr (Or.inl (decide_eq_true ⟨c, by omega⟩))
    · exact Or.inl c
    · exact Or.inr (Or.inr (decide_eq_true ⟨c, by omega⟩))
theorem RQ_post (hW : WF C) {pr pr' : Nat → Nat → Int} {i j k l a b c d : Nat} (hp : ∀ x y : Nat, x < cn C 0 → y < cn C 1 → pr x y = pr' (pl C 0 0 x) (pl C 1 0 y)) (hj : j ≤ cn C 0) (hb : b ≤ cn C 0) (hl : l ≤ cn C 1) (hd : d ≤ cn C 1) (h0 : ∀ z : Nat, z < cn C 0 → ((i ≤ z ∧ z < j) ↔ (a ≤ pl C 0 0 z ∧ pl C 0 0 z < b))) (h1 : ∀ z : Nat, z < cn C 1 → ((k ≤ z ∧ z < l) ↔ (c ≤ pl C 1 0 z ∧ pl C 1 0 z < d))) : RQ C pr i j k l = dd (dE C pr') (rg a b) (rg c d) := by
  have e1 : dd (dE C pr') ((rr i j).map (pl C 0 0)) ((rr k l).map (pl C 1 0)) = RQ C pr i j k l := by
    refine dd_map (dE C pr') (crq C pr) (pl C 0 0) (pl C 1 0) (rr i j) (rr k l) (fun x hx z hz => ?_) (fun x hx z hz => ?_) (fun _ _ => rfl) (fun _ _ => rfl) (fun x hx y hy => ?_)
    · have a := mem_rr.mp hx
      have b := mem_rr.mp hz
      have e := rF_anc (b := 0) hW (t := 0) (by omega) (p := x) (q := z) (by omega) (by omega)
      change decide (pl C 0 0 x < pl C 0 0 z ∧ pl C 0 0 z < ce C 0 (pl C 0 0 x)) = decide (rF C 0 0 x ≤ z ∧ z < x)
      exact decide_eq_decide.mpr e.symm
    · have a := mem_rr.mp hx
      have b := mem_rr.mp hz
      have e := rF_anc (b := 0) hW (t := 1) (by omega) (p := x) (q := z) (by omega) (by omega)
      change decide (pl C 1 0 x < pl C 1 0 z ∧ pl C 1 0 z < ce C 1 (pl C 1 0 x)) = decide (rF C 1 0 x ≤ z ∧ z < x)
      exact decide_eq_decide.mpr e.symm
    · have a := mem_rr.mp hx
      have b := mem_rr.mp hy
      exact (hp x y (by omega) (by omega)).symm
  obtain ⟨p0, s0⟩ := rr_post hW (t := 0) (by omega) hj hb h0
  obtain ⟨p1, s1⟩ := rr_post hW (t := 1) (by omega) hl hd h1
  rw [← e1]
  exact dd_mir (dE C pr') _ (fun u => u) _ (fun u => u) _ _ _ _ p0 p1 s0 s1 (rg_srt a b) (rg_srt c d) (FO_tree hW (by omega) _ (fun u hu => by have := mem_rg.mp hu; omega)) (FO_tree hW (by omega) _ (fun u hu => by have := mem_rg.mp hu; omega))
theorem post_all (hW : WF C) {t : Nat} (ht : t < 2) : ∀ z : Nat, z < cn C t → ((0 ≤ z ∧ z < cn C t) ↔ (0 ≤ pl C t 0 z ∧ pl C t 0 z < cn C t)) := fun z hz => by
  have := pl_lt (b := 0) hW ht hz
  omega
theorem post_sub (hW : WF C) {t x : Nat} (ht : t < 2) (hx : x < cn C t) : ∀ z : Nat, z < cn C t → ((rF C t 0 x ≤ z ∧ z < x + 1) ↔ (pl C t 0 x ≤ pl C t 0 z ∧ pl C t 0 z < ce C t (pl C t 0 x))) := fun z hz => by
  have lx := pl_lt (b := 0) hW ht hx
  have e := rF_anc (b := 0) hW ht hx hz
  have g := hW.e (C := C) (t := t) lx
  have s := (rF_sz (b := 0) hW ht hx).1
  by_cases c : z = x
  · subst c
    omega
  · have ne : pl C t 0 z ≠ pl C t 0 x := fun h => c (by
      have a := pl_po hW ht hz
      have b := pl_po hW ht hx
      rw [h] at a
      omega)
    constructor
    · intro h
      have := e.mp ⟨h.1, by omega⟩
      omega
    · intro h
      have := e.mpr ⟨by omega, h.2⟩
      omega
theorem RQ_dist (hW : WF C) : RQ C (fun p q => cpr C (pl C 0 0 p) (pl C 1 0 q)) 0 (cn C 0) 0 (cn C 1) = dd (cc C) (rg 0 (cn C 0)) (rg 0 (cn C 1)) := RQ_post (pr' := cpr C) hW (fun _ _ _ _ => rfl) (Nat.le_refl _) (Nat.le_refl _) (Nat.le_refl _) (Nat.le_refl _) (post_all hW (by omega)) (post_all hW (by omega))
theorem RQ_sub (hW : WF C) {x y : Nat} (hx : x < cn C 0) (hy : y < cn C 1) : RQ C (fun p q => cpr C (pl C 0 0 p) (pl C 1 0 q)) (rF C 0 0 x) (x + 1) (rF C 1 0 y) (y + 1) = dd (cc C) (rg (pl C 0 0 x) (ce C 0 (pl C 0 0 x))) (rg (pl C 1 0 y) (ce C 1 (pl C 1 0 y))) := RQ_post (pr' := cpr C) hW (fun _ _ _ _ => rfl) (by omega) (hW.e (pl_lt hW (by omega) hx)).2 (by omega) (hW.e (pl_lt hW (by omega) hy)).2 (post_sub hW (by omega) hx) (post_sub hW (by omega) hy)
theorem QBd_plain (hW : WF C) : QBd C (fun p q => cpr C (pl C 0 0 p) (pl C 1 0 q)) := by
  refine ⟨fun i j k l h1 h2 => ?_, fun p q hp hq => ?_⟩
  · have a := RD_bd (b := 0) (i := i) (j := j) (k := k) (l := l) hW h1 h2
    change -1000000 ≤ RD C 0 i j k l ∧ RD C 0 i j k l ≤ 1200
    omega
  · have a := hW.prr (p := pl C 0 0 p) (q := pl C 1 0 q) (pl_lt hW (by omega) hp)
    dsimp only
    omega
/-- the packet with a pair favoured -/
def fvp (C : Nat → Nat → Int) (x y p q : Nat) : Int := (cfav (crow C 0) x y).2.2.2.2 p q
theorem QBd_fav (hW : WF C) {x y : Nat} (hx : x < cn C 0) (hy : y < cn C 1) (hk : cpr C (pl C 0 0 x) (pl C 1 0 y) ≤ 50) : QBd C (fvp C x y) := by
  have n0 := hW.n12 (t := 0) (by omega)
  have n1 := hW.n12 (t := 1) (by omega)
  refine ⟨fun i j k l h1 h2 => ?_, fun p q hp hq => ?_⟩
  · have b0 := crow_bd (b := 0) (i := i) (j := j) (k := k) (l := l) hW h1 h2
    change -1000000 ≤ dd (cfav (crow C 0) x y) (rr i j) (rr k l) ∧ dd (cfav (crow C 0) x y) (rr i j) (rr k l) ≤ 1200
    by_cases c : x ∈ rr i j ∧ y ∈ rr k l
    · have z := df_both (c := crow C 0) (a := x) (b := y) (xs := rr i j) (ys := rr k l) (by rw [rr_len, rr_len]; omega) b0 (rr_nodup _ _) (rr_nodup _ _) c.1 c.2 hk
      have w := df_pos (a := x) (b := y) b0
      rw [rr_len, rr_len] at z
      rw [z.2]
      omega
    · have z := dd_fav_none (crow C 0) x y (xs := rr i j) (ys := rr k l) (by
        by_cases d : x ∈ rr i j
        · exact Or.inr (fun w => c ⟨d, w⟩)
        · exact Or.inl d)
      rw [z]
      have a := RD_bd (b := 0) (i := i) (j := j) (k := k) (l := l) hW h1 h2
      change 0 ≤ dd (crow C 0) (rr i j) (rr k l) ∧ dd (crow C 0) (rr i j) (rr k l) ≤ 1200 at a
      omega
  · have a := hW.prr (p := pl C 0 0 p) (q := pl C 1 0 q) (pl_lt hW (by omega) hp)
    change -1000000 ≤ (if p = x ∧ q = y then cpr C (pl C 0 0 p) (pl C 1 0 q) - 1000000 else cpr C (pl C 0 0 p) (pl C 1 0 q)) ∧ (if p = x ∧ q = y then cpr C (pl C 0 0 p) (pl C 1 0 q) - 1000000 else cpr C (pl C 0 0 p) (pl C 1 0 q)) ≤ 1000000
    split <;> omega
theorem RQ_fav (hW : WF C) {x y : Nat} (hx : x < cn C 0) (hy : y < cn C 1) (hk : cpr C (pl C 0 0 x) (pl C 1 0 y) ≤ 50) : RQ C (fvp C x y) 0 (cn C 0) 0 (cn C 1) = df (cc C) (pl C 0 0 x : Int) (pl C 1 0 y : Int) (rg 0 (cn C 0)) (rg 0 (cn C 1)) - 1000000 := by
  have n0 := hW.n12 (t := 0) (by omega)
  have n1 := hW.n12 (t := 1) (by omega)
  have lx := pl_lt (b := 0) hW (t := 0) (by omega) hx
  have ly := pl_lt (b := 0) hW (t := 1) (by omega) hy
  have e := RQ_post (pr := fvp C x y) (pr' := (cfav (cc C) (pl C 0 0 x) (pl C 1 0 y)).2.2.2.2) hW (fun p q hp hq => ?_) (Nat.le_refl _) (Nat.le_refl _) (Nat.le_refl _) (Nat.le_refl _) (post_all hW (by omega)) (post_all hW (by omega))
  · rw [e]
    exact (df_both (c := cc C) (a := pl C 0 0 x) (b := pl C 1 0 y) (by rw [rg_len, rg_len]; omega) (hW.cbd (Nat.le_refl _) (Nat.le_refl _)) (rg_nodup _ _) (rg_nodup _ _) (mem_rg.mpr ⟨Nat.zero_le _, lx⟩) (mem_rg.mpr ⟨Nat.zero_le _, ly⟩) hk).2
  · change (if p = x ∧ q = y then cpr C (pl C 0 0 p) (pl C 1 0 q) - 1000000 else cpr C (pl C 0 0 p) (pl C 1 0 q)) = (if pl C 0 0 p = pl C 0 0 x ∧ pl C 1 0 q = pl C 1 0 y then cpr C (pl C 0 0 p) (pl C 1 0 q) - 1000000 else cpr C (pl C 0 0 p) (pl C 1 0 q))
    by_cases c : p = x ∧ q = y
    · rw [if_pos c, if_pos ⟨by rw [c.1], by rw [c.2]⟩]
    · rw [if_neg c, if_neg (fun z => c ⟨?_, ?_⟩)]
      · have a := pl_po hW (t := 0) (by omega) hp
        have b := pl_po hW (t := 0) (by omega) hx
        rw [z.1] at a
        omega
      · have a := pl_po hW (t := 1) (by omega) hq
        have b := pl_po hW (t := 1) (by omega) hy
        rw [z.2] at a
        omega
theorem df_unN (c : CP) (a b : Nat) (hu : ¬ (c.2.2.2.2 a b < 1000000)) : ∀ (N : Nat) (xs ys : List Nat), xs.length + ys.length ≤ N → CBd c xs ys → (a ∈ xs ∨ b ∈ ys) → df c a b xs ys = 100000 := by
  intro N
  induction N with
  | zero =>
    intro xs ys h _ hab
    have h1 : xs = [] := List.length_eq_zero_iff.mp (by omega)
    have h2 : ys = [] := List.length_eq_zero_iff.mp (by omega)
    subst h1; subst h2
    rcases hab with z | z <;> cases z
  | succ N ih =>
    intro xs ys h hb hab
    cases xs with
    | nil =>
      refine df_one hb (Or.inr ⟨List.not_mem_nil, ?_⟩)
      rcases hab with z | z
      · cases z
      · exact z
    | cons x xs =>
      cases ys with
      | nil =>
        refine df_one hb (Or.inl ⟨?_, List.not_mem_nil⟩)
        rcases hab with z | z
        · exact z
        · cases z
      | cons y ys =>
        simp only [List.length_cons] at h
        have f1 := fl_le (fun z => c.1 x z) xs
        have f2 := fl_le (fun z => c.2.1 y z) ys
        have f3 := fl_le (fun z => !c.1 x z) xs
        have f4 := fl_le (fun z => !c.2.1 y z) ys
        have b1 := hb.1 x List.mem_cons_self
        have b2 := hb.2.1 y List.mem_cons_self
        have b3 := hb.2.2 x List.mem_cons_self y List.mem_cons_self
        have g3 := df_pos (a := a) (b := b) (hb.tl.tr.fl (fun z => c.1 x z) (fun z => c.2.1 y z))
        have g4 := df_pos (a := a) (b := b) (hb.tl.tr.fl (fun z => !c.1 x z) (fun z => !c.2.1 y z))
        have mx : (x : Int) ≠ a → a ∈ x :: xs → a ∈ xs := fun q z => by
          rcases List.mem_cons.mp z with e | e
          · exact absurd (by rw [e]) q
          · exact e
        have my : (y : Int) ≠ b → b ∈ y :: ys → b ∈ ys := fun q z => by
          rcases List.mem_cons.mp z with e | e
          · exact absurd (by rw [e]) q
          · exact e
        have O1 : 100000 ≤ (if (x : Int) = a then 100000 else c.2.2.1 x + df c a b xs (y :: ys)) := by
          by_cases q : (x : Int) = a
          · rw [if_pos q]; omega
          · rw [if_neg q, ih xs (y :: ys) (by simp only [List.length_cons]; omega) hb.tl (hab.imp (mx q) id)]
            omega
        have O2 : 100000 ≤ (if (y : Int) = b then 100000 else c.2.2.2.1 y + df c a b (x :: xs) ys) := by
          by_cases q : (y : Int) = b
          · rw [if_pos q]; omega
          · rw [if_neg q, ih (x :: xs) ys (by simp only [List.length_cons]; omega) hb.tr (hab.imp id (my q))]
            omega
        have O3 : 100000 ≤ (if c.2.2.2.2 x y < 1000000 ∧ ((x : Int) = a ↔ (y : Int) = b) then c.2.2.2.2 x y + df c a b (xs.filter (fun z => c.1 x z)) (ys.filter (fun z => c.2.1 y z)) + df c a b (xs.filter (fun z => !c.1 x z)) (ys.filter (fun z => !c.2.1 y z)) else 100000) := by
          split
          · rename_i hq
            by_cases q : (x : Int) = a
            · have q2 := hq.2.mp q
              refine absurd ?_ hu
              rw [show a = x from by omega, show b = y from by omega]
              exact hq.1
            · have q2 : ¬ ((y : Int) = b) := fun z => q (hq.2.mpr z)
              rcases hab with z | z
              · rcases fl_or (fun z => c.1 x z) (mx q z) with w | w
                · have e := ih _ _ (by omega) (hb.tl.tr.fl (fun z => c.1 x z) (fun z => c.2.1 y z)) (Or.inl w)
                  omega
                · have e := ih _ _ (by omega) (hb.tl.tr.fl (fun z => !c.1 x z) (fun z => !c.2.1 y z)) (Or.inl w)
                  omega
              · rcases fl_or (fun z => c.2.1 y z) (my q2 z) with w | w
                · have e := ih _ _ (by omega) (hb.tl.tr.fl (fun z => c.1 x z) (fun z => c.2.1 y z)) (Or.inr w)
                  omega
                · have e := ih _ _ (by omega) (hb.tl.tr.fl (fun z => !c.1 x z) (fun z => !c.2.1 y z)) (Or.inr w)
                  omega
          · omega
        rw [df_cc]
        omega
/-- the distance -/
def DI (C : Nat → Nat → Int) : Int := dd (cc C) (rg 0 (cn C 0)) (rg 0 (cn C 1))
theorem DI_bd (hW : WF C) : 0 ≤ DI C ∧ DI C ≤ 1200 := by
  have a := dd_bd (hW.cbd (i := 0) (k := 0) (Nat.le_refl (cn C 0)) (Nat.le_refl (cn C 1)))
  have n0 := hW.n12 (t := 0) (by omega)
  have n1 := hW.n12 (t := 1) (by omega)
  rw [rg_len, rg_len] at a
  unfold DI
  omega
theorem df_m1 (hW : WF C) {i j k l : Nat} (hj : j ≤ cn C 0) (hl : l ≤ cn C 1) : df (cc C) (-1) (-1) (rg i j) (rg k l) = dd (cc C) (rg i j) (rg k l) := by
  have n0 := hW.n12 (t := 0) (by omega)
  have n1 := hW.n12 (t := 1) (by omega)
  exact df_none (by rw [rg_len, rg_len]; omega) (hW.cbd hj hl) (fun x _ => by omega) (fun x _ => by omega)
end DIST
