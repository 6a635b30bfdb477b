/-! one call of both sides, packed as the law makes it -/
def P14 (o _k : Nat) : Bool := o == 14
def HPq (C C' : Nat → Nat → Int) (M : Mem) : Prop := IK C' M ∧ Core C M ∧ Bd M
/-- behind the helper: its answer is the code, what it handed out is the answer -/
def QH (code ans : Int) (C C' : Nat → Nat → Int) (r : Int) (M : Mem) : Prop := r = code ∧ HPq C C' M ∧ (code = 0 → M 14 0 0 = ans)
section PACKS
variable {C C' : Nat → Nat → Int} {M M' : Mem} {mx lo hi : Int} {nm : Int → String} {wk : Mem → (Int → Mem → Prop) → (String → Mem → Prop) → Prop} {wm : Mem → (Int → Mem → Prop) → Prop}
theorem P14_fr {v : Int} : Fr P14 M (mset M 14 0 0 v) := fun o k i hP => by
  rw [mset_ne]
  rintro ⟨rfl, _⟩
  cases hP
theorem IK.out {v : Int} (h : IK C M) : IK C (mset M 14 0 0 v) := h.fr P14_fr (kt_all (fun k => ⟨rfl, rfl, rfl⟩)) rfl (fun _ => rfl) (fun _ _ => rfl) (fun _ => rfl) ⟨(P14_fr 9 4 0 rfl).trans h.2.1, (P14_fr 10 4 0 rfl).trans h.2.2.1⟩
theorem Core.out {v : Int} (h : Core C M) : Core C (mset M 14 0 0 v) := h.fr P14_fr rfl rfl rfl rfl rfl rfl rfl
theorem HPq.out {v : Int} (h : HPq C C' M) (hv : -2000000 ≤ v ∧ v ≤ 2000000) : HPq C C' (mset M 14 0 0 v) := ⟨h.1.out, h.2.1.out, h.2.2.set hv.1 hv.2⟩
theorem IK.pm (h : IK C M) (F : Fr Pm M M') : IK C M' := h.fr F (kt_all (fun k => ⟨rfl, rfl, rfl⟩)) rfl (fun _ => rfl) (fun _ _ => rfl) (fun _ => rfl) ⟨(F 9 4 0 rfl).trans h.2.1, (F 10 4 0 rfl).trans h.2.2.1⟩
theorem Core.pc (h : Core C M) (F : Fr Pc M M') : Core C M' := h.fr F rfl rfl rfl rfl rfl rfl rfl
theorem j32_of {v : Int} (h : -2000000 ≤ v ∧ v ≤ 2000000) : j32 v = v := ofI_toInt ⟨by omega, by omega⟩
theorem packed (hA : Agree nm mx lo hi C wk wm) (hI : IK C M) (hC : Core C M) (hB : Bd M) : ∃ (code ans : Int) (C' : Nat → Nat → Int), (0 ≤ code ∧ code ≤ mx) ∧ (lo ≤ ans ∧ ans ≤ hi) ∧ (∀ (Q : Int → Mem → Prop) (XQ : String → Mem → Prop), (∀ M1 : Mem, HPq C C' M1 → (code = 0 → Q ans M1) ∧ (code ≠ 0 → XQ (nm code) M1)) → wk M Q XQ) ∧ (∀ (M2 : Mem) (Q : Int → Mem → Prop), HPq C C' M2 → (∀ M3 : Mem, StB C' M3 → M3 14 0 0 = M2 14 0 0 → M3 13 23 0 = code → Q (if code = 0 then ans else 0) M3) → wm M2 Q) := by
  obtain ⟨code, ans, C', hW', hc, hb, hk, hm⟩ := hA
  exact ⟨code, ans, C', hc, hb, fun Q XQ h => hk M Q XQ hI hB (fun M1 F B I => h M1 ⟨I, hC.pc F, B⟩), fun M2 Q hq h => hm M2 Q hq.2.1 hq.2.2 (fun M3 F B C3 e => h M3 ⟨hW', hq.1.pm F, C3, B⟩ (F 14 0 0 rfl) e)⟩
/-- the reference's side -/
theorem pk_m {code ans : Int} (h : ∀ (M2 : Mem) (Q : Int → Mem → Prop), HPq C C' M2 → (∀ M3 : Mem, StB C' M3 → M3 14 0 0 = M2 14 0 0 → M3 13 23 0 = code → Q (if code = 0 then ans else 0) M3) → wm M2 Q) : ∀ (M2 : Mem) (r : Int), QH code ans C C' r M2 → r = code ∧ ∀ Q : Int → Mem → Prop, (∀ M3 : Mem, StB C' M3 → M3 13 23 0 = code → (code = 0 → M3 14 0 0 = ans) → Q (if code = 0 then ans else 0) M3) → wm M2 Q :=
  fun M2 _ hq => ⟨hq.1, fun Q K => h M2 Q hq.2.1 (fun M3 S e1 e2 => K M3 S e2 (fun z => e1.trans (hq.2.2 z)))⟩
theorem pk_q {code ans : Int} (hb : -2000000 ≤ ans ∧ ans ≤ 2000000) {M1 : Mem} (h : HPq C C' M1) (z : code = 0) : QH code ans C C' 0 (mset M1 14 0 0 (j32 ans)) := by
  rw [j32_of hb]
  exact ⟨z.symm, h.out hb, fun _ => mset_eq⟩
theorem pk_i1 (hA : Agree nm0 1 (-2000000) 2000000 C wk wm) (hI : IK C M) (hC : Core C M) (hB : Bd M) : ∃ (code ans : Int) (C' : Nat → Nat → Int), (0 ≤ code ∧ code ≤ 3) ∧ (-2000000 ≤ ans ∧ ans ≤ 2000000) ∧ wk M (fun r M1 => QH code ans C C' 0 (mset M1 14 0 0 (j32 r))) (fun E M1 => (E = "java/lang/IndexOutOfBoundsException" ∧ QH code ans C C' 1 M1)) ∧ (∀ (M2 : Mem) (r : Int), QH code ans C C' r M2 → r = code ∧ ∀ Q : Int → Mem → Prop, (∀ M3 : Mem, StB C' M3 → M3 13 23 0 = code → (code = 0 → M3 14 0 0 = ans) → Q (if code = 0 then ans else 0) M3) → wm M2 Q) := by
  obtain ⟨code, ans, C', hc, hb, hk, hm⟩ := packed hA hI hC hB
  refine ⟨code, ans, C', ⟨hc.1, by omega⟩, hb, hk _ _ (fun M1 h => ⟨fun z => pk_q hb h z, fun z => ?_⟩), pk_m hm⟩
  obtain rfl : code = 1 := by omega
  exact ⟨rfl, rfl, h, fun z => absurd z (by decide)⟩
theorem pk_i2 (hA : Agree nm0 2 (-2000000) 2000000 C wk wm) (hI : IK C M) (hC : Core C M) (hB : Bd M) : ∃ (code ans : Int) (C' : Nat → Nat → Int), (0 ≤ code ∧ code ≤ 3) ∧ (-2000000 ≤ ans ∧ ans ≤ 2000000) ∧ wk M (fun r M1 => QH code ans C C' 0 (mset M1 14 0 0 (j32 r))) (fun E M1 => (E = "java/lang/IndexOutOfBoundsException" ∧ QH code ans C C' 1 M1) ∨ (E = "java/lang/IllegalArgumentException" ∧ QH code ans C C' 2 M1)) ∧ (∀ (M2 : Mem) (r : Int), QH code ans C C' r M2 → r = code ∧ ∀ Q : Int → Mem → Prop, (∀ M3 : Mem, StB C' M3 → M3 13 23 0 = code → (code = 0 → M3 14 0 0 = ans) → Q (if code = 0 then ans else 0) M3) → wm M2 Q) := by
  obtain ⟨code, ans, C', hc, hb, hk, hm⟩ := packed hA hI hC hB
  refine ⟨code, ans, C', ⟨hc.1, by omega⟩, hb, hk _ _ (fun M1 h => ⟨fun z => pk_q hb h z, fun z => ?_⟩), pk_m hm⟩
  rcases (show code = 1 ∨ code = 2 by omega) with rfl | rfl
  · exact Or.inl ⟨rfl, rfl, h, fun z => absurd z (by decide)⟩
  · exact Or.inr ⟨rfl, rfl, h, fun z => absurd z (by decide)⟩
theorem pk_i3 (hA : Agree nm0 3 (-2000000) 2000000 C wk wm) (hI : IK C M) (hC : Core C M) (hB : Bd M) : ∃ (code ans : Int) (C' : Nat → Nat → Int), (0 ≤ code ∧ code ≤ 3) ∧ (-2000000 ≤ ans ∧ ans ≤ 2000000) ∧ wk M (fun r M1 => QH code ans C C' 0 (mset M1 14 0 0 (j32 r))) (fun E M1 => (E = "java/lang/IndexOutOfBoundsException" ∧ QH code ans C C' 1 M1) ∨ (E = "java/lang/IllegalArgumentException" ∧ QH code ans C C' 2 M1) ∨ (E = "java/lang/IllegalStateException" ∧ QH code ans C C' 3 M1)) ∧ (∀ (M2 : Mem) (r : Int), QH code ans C C' r M2 → r = code ∧ ∀ Q : Int → Mem → Prop, (∀ M3 : Mem, StB C' M3 → M3 13 23 0 = code → (code = 0 → M3 14 0 0 = ans) → Q (if code = 0 then ans else 0) M3) → wm M2 Q) := by
  obtain ⟨code, ans, C', hc, hb, hk, hm⟩ := packed hA hI hC hB
  refine ⟨code, ans, C', hc, hb, hk _ _ (fun M1 h => ⟨fun z => pk_q hb h z, fun z => ?_⟩), pk_m hm⟩
  rcases (show code = 1 ∨ code = 2 ∨ code = 3 by omega) with rfl | rfl | rfl
  · exact Or.inl ⟨rfl, rfl, h, fun z => absurd z (by decide)⟩
  · exact Or.inr (Or.inl ⟨rfl, rfl, h, fun z => absurd z (by decide)⟩)
  · exact Or.inr (Or.inr ⟨rfl, rfl, h, fun z => absurd z (by decide)⟩)
theorem pk_p1 (hA : Agree (fun _ => "java/lang/IllegalArgumentException") 1 (-2000000) 2000000 C wk wm) (hI : IK C M) (hC : Core C M) (hB : Bd M) : ∃ (code ans : Int) (C' : Nat → Nat → Int), (0 ≤ code ∧ code ≤ 3) ∧ (-2000000 ≤ ans ∧ ans ≤ 2000000) ∧ wk M (fun r M1 => QH code ans C C' 0 (mset M1 14 0 0 (j32 r))) (fun E M1 => (E = "java/lang/IllegalArgumentException" ∧ QH code ans C C' 1 M1)) ∧ (∀ (M2 : Mem) (r : Int), QH code ans C C' r M2 → r = code ∧ ∀ Q : Int → Mem → Prop, (∀ M3 : Mem, StB C' M3 → M3 13 23 0 = code → (code = 0 → M3 14 0 0 = ans) → Q (if code = 0 then ans else 0) M3) → wm M2 Q) := by
  obtain ⟨code, ans, C', hc, hb, hk, hm⟩ := packed hA hI hC hB
  refine ⟨code, ans, C', ⟨hc.1, by omega⟩, hb, hk _ _ (fun M1 h => ⟨fun z => pk_q hb h z, fun z => ?_⟩), pk_m hm⟩
  obtain rfl : code = 1 := by omega
  exact ⟨rfl, rfl, h, fun z => absurd z (by decide)⟩
theorem pk_z1 (hA : Agree nm0 1 0 1 C wk wm) (hI : IK C M) (hC : Core C M) (hB : Bd M) : ∃ (code ans : Int) (C' : Nat → Nat → Int), (0 ≤ code ∧ code ≤ 3) ∧ (0 ≤ ans ∧ ans ≤ 1) ∧ wk M (fun r M1 => (r = 0 ∨ r = 1) ∧ QH code ans C C' 0 (mset M1 14 0 0 r)) (fun E M1 => (E = "java/lang/IndexOutOfBoundsException" ∧ QH code ans C C' 1 M1)) ∧ (∀ (M2 : Mem) (r : Int), QH code ans C C' r M2 → r = code ∧ ∀ Q : Int → Mem → Prop, (∀ M3 : Mem, StB C' M3 → M3 13 23 0 = code → (code = 0 → M3 14 0 0 = ans) → Q (if code = 0 then ans else 0) M3) → wm M2 Q) := by
  obtain ⟨code, ans, C', hc, hb, hk, hm⟩ := packed hA hI hC hB
  refine ⟨code, ans, C', ⟨hc.1, by omega⟩, hb, hk _ _ (fun M1 h => ⟨fun z => ⟨by omega, z.symm, h.out (by omega), fun _ => mset_eq⟩, fun z => ?_⟩), pk_m hm⟩
  obtain rfl : code = 1 := by omega
  exact ⟨rfl, rfl, h, fun z => absurd z (by decide)⟩
/-- void calls: nothing is handed out -/
def QV (code : Int) (C C' : Nat → Nat → Int) (r : Int) (M : Mem) : Prop := r = code ∧ HPq C C' M
theorem pk_vm {code ans : Int} (h : ∀ (M2 : Mem) (Q : Int → Mem → Prop), HPq C C' M2 → (∀ M3 : Mem, StB C' M3 → M3 14 0 0 = M2 14 0 0 → M3 13 23 0 = code → Q (if code = 0 then ans else 0) M3) → wm M2 Q) : ∀ (M2 : Mem) (r : Int), QV code C C' r M2 → r = code ∧ ∀ Q : Mem → Prop, (∀ M3 : Mem, StB C' M3 → M3 13 23 0 = code → Q M3) → wm M2 (fun _ M3 => Q M3) :=
  fun M2 _ hq => ⟨hq.1, fun Q K => h M2 (fun _ M3 => Q M3) hq.2 (fun M3 S _ e2 => K M3 S e2)⟩
theorem pk_v1 (hA : Agree nm0 1 (-2000000) 2000000 C wk wm) (hI : IK C M) (hC : Core C M) (hB : Bd M) : ∃ (code : Int) (C' : Nat → Nat → Int), (0 ≤ code ∧ code ≤ 3) ∧ wk M (fun _ M1 => QV code C C' 0 M1) (fun E M1 => (E = "java/lang/IndexOutOfBoundsException" ∧ QV code C C' 1 M1)) ∧ (∀ (M2 : Mem) (r : Int), QV code C C' r M2 → r = code ∧ ∀ Q : Mem → Prop, (∀ M3 : Mem, StB C' M3 → M3 13 23 0 = code → Q M3) → wm M2 (fun _ M3 => Q M3)) := by
  obtain ⟨code, ans, C', hc, hb, hk, hm⟩ := packed hA hI hC hB
  refine ⟨code, C', ⟨hc.1, by omega⟩, hk _ _ (fun M1 h => ⟨fun z => ⟨z.symm, h⟩, fun z => ?_⟩), pk_vm hm⟩
  obtain rfl : code = 1 := by omega
  exact ⟨rfl, rfl, h⟩
theorem pk_v2 (hA : Agree nm0 2 (-2000000) 2000000 C wk wm) (hI : IK C M) (hC : Core C M) (hB : Bd M) : ∃ (code : Int) (C' : Nat → Nat → Int), (0 ≤ code ∧ code ≤ 3) ∧ wk M (fun _ M1 => QV code C C' 0 M1) (fun E M1 => (E = "java/lang/IndexOutOfBoundsException" ∧ QV code C C' 1 M1) ∨ (E = "java/lang/IllegalArgumentException" ∧ QV code C C' 2 M1)) ∧ (∀ (M2 : Mem) (r : Int), QV code C C' r M2 → r = code ∧ ∀ Q : Mem → Prop, (∀ M3 : Mem, StB C' M3 → M3 13 23 0 = code → Q M3) → wm M2 (fun _ M3 => Q M3)) := by
  obtain ⟨code, ans, C', hc, hb, hk, hm⟩ := packed hA hI hC hB
  refine ⟨code, C', ⟨hc.1, by omega⟩, hk _ _ (fun M1 h => ⟨fun z => ⟨z.symm, h⟩, fun z => ?_⟩), pk_vm hm⟩
  rcases (show code = 1 ∨ code = 2 by omega) with rfl | rfl
  · exact Or.inl ⟨rfl, rfl, h⟩
  · exact Or.inr ⟨rfl, rfl, h⟩
theorem pk_v3 (hA : Agree nm0 3 (-2000000) 2000000 C wk wm) (hI : IK C M) (hC : Core C M) (hB : Bd M) : ∃ (code : Int) (C' : Nat → Nat → Int), (0 ≤ code ∧ code ≤ 3) ∧ wk M (fun _ M1 => QV code C C' 0 M1) (fun E M1 => (E = "java/lang/IndexOutOfBoundsException" ∧ QV code C C' 1 M1) ∨ (E = "java/lang/IllegalArgumentException" ∧ QV code C C' 2 M1) ∨ (E = "java/lang/IllegalStateException" ∧ QV code C C' 3 M1)) ∧ (∀ (M2 : Mem) (r : Int), QV code C C' r M2 → r = code ∧ ∀ Q : Mem → Prop, (∀ M3 : Mem, StB C' M3 → M3 13 23 0 = code → Q M3) → wm M2 (fun _ M3 => Q M3)) := by
  obtain ⟨code, ans, C', hc, hb, hk, hm⟩ := packed hA hI hC hB
  refine ⟨code, C', hc, hk _ _ (fun M1 h => ⟨fun z => ⟨z.symm, h⟩, fun z => ?_⟩), pk_vm hm⟩
  rcases (show code = 1 ∨ code = 2 ∨ code = 3 by omega) with rfl | rfl | rfl
  · exact Or.inl ⟨rfl, rfl, h⟩
  · exact Or.inr (Or.inl ⟨rfl, rfl, h⟩)
  · exact Or.inr (Or.inr ⟨rfl, rfl, h⟩)
/-- calls that never throw -/
theorem pk_d0 (hA : Agree nm0 0 (-2000000) 2000000 C wk wm) (hI : IK C M) (hC : Core C M) (hB : Bd M) : ∃ (ans : Int) (C' : Nat → Nat → Int), inR ans ∧ wk M (fun r M1 => r = ans ∧ HPq C C' M1) (fun _ _ => False) ∧ (∀ M2 : Mem, HPq C C' M2 → wm M2 (fun r M3 => r = ans ∧ StB C' M3)) := by
  obtain ⟨code, ans, C', hc, hb, hk, hm⟩ := packed hA hI hC hB
  obtain rfl : code = 0 := by omega
  exact ⟨ans, C', ⟨by omega, by omega⟩, hk _ _ (fun M1 h => ⟨fun _ => ⟨rfl, h⟩, fun z => absurd rfl z⟩), fun M2 h => hm M2 _ h (fun M3 S _ _ => ⟨if_pos rfl, S⟩)⟩
end PACKS
