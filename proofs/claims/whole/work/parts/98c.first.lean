/-! the first world and the first memory -/
def M0 : Mem := fun o k i => bif o == 1 then (bif Nat.blt k 3 then (bif Nat.blt i 4 then 1 else 0) else (bif k == 3 then 1 else 0)) else bif o == 13 then (bif k == 6 then (bif Nat.blt i 12 then 1 else 0) else (bif k == 7 then 1 else 0)) else 0
def C0 (k i : Nat) : Int := M0 13 k i
def aF (x y : Nat) (h : Nat → Nat) : Nat → Nat := fun o => ([x, (h 0), (h 22), (h 36), (h 39), (h 41), (h 46), (h 52), (h 57), (h 23), (h 29), (h 4), (h 13), y] : List Nat).getD o 0
def bF (z : Nat) (h h' : Nat → Nat) : Nat → Nat → Nat := fun o k => (([[], [(h 1), (h 2), (h 3)], [0, 0, 0, (h 35)], [0, (h 37), (h 38)], [0, (h 40)], [0, (h 42), (h 43), (h 44), (h 45)], [0, 0, (h 47), (h 48), (h 49), (h 50), (h 51)], [0, 0, (h 53), (h 54), 0, 0, (h 55), (h 56)], [0, 0, (h 58), (h 59)], [(h 24), (h 25), (h 26), (h 27), (h 28)], [(h 30), (h 31), (h 32), (h 33), (h 34)], [(h 5), (h 6), (h 7), (h 8), (h 9), (h 10), (h 11), (h 12)], [(h 14), (h 15), (h 16), (h 17), (h 18), (h 19), (h 20), (h 21)], [(h' 0), (h' 1), (h' 2), (h' 3), (h' 4), (h' 5), (h' 6), 0, (h' 7), (h' 8), (h' 9), (h' 10), (h' 11), (h' 12), (h' 13), (h' 14), 0, 0, (h' 15), (h' 16), 0, (h' 17), (h' 18)], [z]] : List (List Nat)).getD o []).getD k 0
def W3 (g : GT) (x y z : Nat) (h h' : Nat → Nat) : va_W := (nwX10 g x h ++ nwX11 g y h') ++ [(z, .inl (g.2.2, 1, .inr (.inl (fun _ => Int64.ofInt 0))))]
set_option maxRecDepth 100000 in
set_option maxHeartbeats 4000000 in
theorem first_P {D : va_G} {g : GT} {x y z : Nat} {h h' : Nat → Nat} {H : Heap} (q : va_P D vwCl (W3 g x y z h h') H) : va_P D vwCl (WW g (aF x y h) (bF z h h') M0) H := q.sub [0, 1, 23, 37, 40, 42, 47, 53, 58, 24, 30, 5, 14, 61, 2, 3, 4, 36, 38, 39, 41, 43, 44, 45, 46, 48, 49, 50, 51, 52, 54, 55, 56, 57, 59, 60, 25, 26, 27, 28, 29, 31, 32, 33, 34, 35, 6, 7, 8, 9, 10, 11, 12, 13, 15, 16, 17, 18, 19, 20, 21, 22, 62, 63, 64, 65, 66, 67, 68, 69, 70, 71, 72, 73, 74, 75, 76, 77, 78, 79, 80, 81] rfl
set_option maxRecDepth 100000 in
set_option maxHeartbeats 4000000 in
theorem first_D {A : Nat → Prop} {g : GT} {x y z : Nat} {h h' : Nat → Nat} (q : va_D A (W3 g x y z h h')) : va_D A (WW g (aF x y h) (bF z h h') M0) := q.sub [0, 1, 23, 37, 40, 42, 47, 53, 58, 24, 30, 5, 14, 61, 2, 3, 4, 36, 38, 39, 41, 43, 44, 45, 46, 48, 49, 50, 51, 52, 54, 55, 56, 57, 59, 60, 25, 26, 27, 28, 29, 31, 32, 33, 34, 35, 6, 7, 8, 9, 10, 11, 12, 13, 15, 16, 17, 18, 19, 20, 21, 22, 62, 63, 64, 65, 66, 67, 68, 69, 70, 71, 72, 73, 74, 75, 76, 77, 78, 79, 80, 81] (by decide +kernel) rfl
theorem C0_n {t : Nat} : cn C0 t = 0 := rfl
theorem M0_bd : Bd M0 := fun o k i => by
  unfold M0
  cases (o == 1) <;> cases (o == 13) <;> cases (Nat.blt k 3) <;> cases (k == 3) <;> cases (k == 6) <;> cases (k == 7) <;> cases (Nat.blt i 4) <;> cases (Nat.blt i 12) <;> decide
theorem C0_wf : WF C0 := by
  refine ⟨fun t ht => ⟨rfl, Nat.zero_le _, fun q => absurd q (Nat.not_lt_zero _), fun p q => absurd q (Nat.not_lt_zero _)⟩, fun t p ht hp => absurd hp (Nat.not_lt_zero _), fun t p q ht hp => absurd hp (Nat.not_lt_zero _), fun i hi => ?_, ⟨by decide, by decide⟩⟩
  have e : C0 6 i = 1 := by
    show (bif Nat.blt i 12 then (1 : Int) else 0) = 1
    rw [show Nat.blt i 12 = true from Nat.ble_eq.mpr hi]
    rfl
  rw [e]
  exact ⟨by decide, by decide⟩
theorem C0_cls : Cls C0 M0 := by
  refine ⟨fun t ht => ?_, fun t p ht hp => absurd hp (Nat.not_lt_zero _), fun k w hk hw => ?_, rfl⟩
  · rcases (show t = 0 ∨ t = 1 by omega) with rfl | rfl <;> rfl
  · have e1 : M0 1 w k = 1 := by
      show (bif Nat.blt w 3 then (bif Nat.blt k 4 then (1 : Int) else 0) else (bif w == 3 then 1 else 0)) = 1
      rw [show Nat.blt w 3 = true from Nat.ble_eq.mpr hw, show Nat.blt k 4 = true from Nat.ble_eq.mpr hk]
      rfl
    have e2 : C0 6 (3 * k + w) = 1 := by
      show (bif Nat.blt (3 * k + w) 12 then (1 : Int) else 0) = 1
      rw [show Nat.blt (3 * k + w) 12 = true from Nat.ble_eq.mpr (by omega)]
      rfl
    rw [e1, e2]
theorem first_St : StB C0 M0 := ⟨C0_wf, ⟨C0_cls, rfl, rfl, Or.inl rfl⟩, fun k i _ => rfl, M0_bd⟩
