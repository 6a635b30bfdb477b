/-! the state of both classes: one world, one memory of whole numbers -/
abbrev Mem : Type := Nat → Nat → Nat → Int
abbrev GT : Type := ClassId × ClassId × ClassId
abbrev iv (x : Int) : Value := .int (Int32.ofInt x)
abbrev fI (M : Mem) (o k : Nat) : Nat → Int32 := fun i => Int32.ofInt (M o k i)
def mset (M : Mem) (o k i : Nat) (v : Int) : Mem := fun o1 k1 i1 => if o1 = o ∧ k1 = k ∧ i1 = i then v else M o1 k1 i1
def inR (x : Int) : Prop := -2147483648 ≤ x ∧ x < 2147483648
def WW (g : GT) (a : Nat → Nat) (b : Nat → Nat → Nat) (M : Mem) : va_W := [
  (a 0, .inr (10, [.ref (a 1), .ref (a 2), .ref (a 3), .ref (a 4), .ref (a 5), .ref (a 6), .ref (a 7), .ref (a 8), iv (M 0 8 0)])),
  (a 1, .inr (1, [.ref (b 1 0), .ref (b 1 1), .ref (b 1 2), iv (M 1 3 0), .ref (a 11), .ref (a 12)])),
  (a 2, .inr (3, [.ref (a 1), .ref (a 9), .ref (a 10), .ref (b 2 3)])),
  (a 3, .inr (2, [.ref (a 2), .ref (b 3 1), .ref (b 3 2)])),
  (a 4, .inr (0, [.ref (a 2), .ref (b 4 1)])),
  (a 5, .inr (8, [.ref (a 2), .ref (b 5 1), .ref (b 5 2), .ref (b 5 3), .ref (b 5 4)])),
  (a 6, .inr (4, [.ref (a 2), .ref (a 4), .ref (b 6 2), .ref (b 6 3), .ref (b 6 4), .ref (b 6 5), .ref (b 6 6), iv (M 6 7 0)])),
  (a 7, .inr (7, [.ref (a 1), .ref (a 6), .ref (b 7 2), .ref (b 7 3), iv (M 7 4 0), iv (M 7 5 0), .ref (b 7 6), .ref (b 7 7), iv (M 7 8 0)])),
  (a 8, .inr (5, [.ref (a 1), .ref (a 6), .ref (b 8 2), .ref (b 8 3), iv (M 8 4 0), iv (M 8 5 0)])),
  (a 9, .inr (6, [.ref (b 9 0), .ref (b 9 1), .ref (b 9 2), .ref (b 9 3), .ref (b 9 4), iv (M 9 5 0)])),
  (a 10, .inr (6, [.ref (b 10 0), .ref (b 10 1), .ref (b 10 2), .ref (b 10 3), .ref (b 10 4), iv (M 10 5 0)])),
  (a 11, .inr (9, [.ref (b 11 0), .ref (b 11 1), .ref (b 11 2), .ref (b 11 3), .ref (b 11 4), .ref (b 11 5), .ref (b 11 6), .ref (b 11 7), iv (M 11 8 0)])),
  (a 12, .inr (9, [.ref (b 12 0), .ref (b 12 1), .ref (b 12 2), .ref (b 12 3), .ref (b 12 4), .ref (b 12 5), .ref (b 12 6), .ref (b 12 7), iv (M 12 8 0)])),
  (a 13, .inr (11, [.ref (b 13 0), .ref (b 13 1), .ref (b 13 2), .ref (b 13 3), .ref (b 13 4), .ref (b 13 5), .ref (b 13 6), iv (M 13 7 0), .ref (b 13 8), .ref (b 13 9), .ref (b 13 10), .ref (b 13 11), .ref (b 13 12), .ref (b 13 13), .ref (b 13 14), .ref (b 13 15), iv (M 13 16 0), iv (M 13 17 0), .ref (b 13 18), .ref (b 13 19), iv (M 13 20 0), .ref (b 13 21), .ref (b 13 22), iv (M 13 23 0)])),
  (b 1 0, .inl (g.1, 4, .inl (fI M 1 0))),
  (b 1 1, .inl (g.1, 4, .inl (fI M 1 1))),
  (b 1 2, .inl (g.1, 4, .inl (fI M 1 2))),
  (b 2 3, .inl (g.1, 144, .inl (fI M 2 3))),
  (b 3 1, .inl (g.1, 144, .inl (fI M 3 1))),
  (b 3 2, .inl (g.1, 169, .inl (fI M 3 2))),
  (b 4 1, .inl (g.1, 6084, .inl (fI M 4 1))),
  (b 5 1, .inl (g.1, 144, .inl (fI M 5 1))),
  (b 5 2, .inl (g.1, 169, .inl (fI M 5 2))),
  (b 5 3, .inl (g.1, 12, .inl (fI M 5 3))),
  (b 5 4, .inl (g.1, 12, .inl (fI M 5 4))),
  (b 6 2, .inl (g.1, 12, .inl (fI M 6 2))),
  (b 6 3, .inl (g.1, 12, .inl (fI M 6 3))),
  (b 6 4, .inl (g.1, 12, .inl (fI M 6 4))),
  (b 6 5, .inl (g.1, 12, .inl (fI M 6 5))),
  (b 6 6, .inl (g.1, 12, .inl (fI M 6 6))),
  (b 7 2, .inl (g.1, 24, .inl (fI M 7 2))),
  (b 7 3, .inl (g.1, 24, .inl (fI M 7 3))),
  (b 7 6, .inl (g.2.1, 12, .inl (fI M 7 6))),
  (b 7 7, .inl (g.1, 12, .inl (fI M 7 7))),
  (b 8 2, .inl (g.1, 12, .inl (fI M 8 2))),
  (b 8 3, .inl (g.1, 12, .inl (fI M 8 3))),
  (b 9 0, .inl (g.1, 12, .inl (fI M 9 0))),
  (b 9 1, .inl (g.1, 12, .inl (fI M 9 1))),
  (b 9 2, .inl (g.2.1, 12, .inl (fI M 9 2))),
  (b 9 3, .inl (g.1, 12, .inl (fI M 9 3))),
  (b 9 4, .inl (g.1, 13, .inl (fI M 9 4))),
  (b 10 0, .inl (g.1, 12, .inl (fI M 10 0))),
  (b 10 1, .inl (g.1, 12, .inl (fI M 10 1))),
  (b 10 2, .inl (g.2.1, 12, .inl (fI M 10 2))),
  (b 10 3, .inl (g.1, 12, .inl (fI M 10 3))),
  (b 10 4, .inl (g.1, 13, .inl (fI M 10 4))),
  (b 11 0, .inl (g.1, 12, .inl (fI M 11 0))),
  (b 11 1, .inl (g.1, 12, .inl (fI M 11 1))),
  (b 11 2, .inl (g.1, 12, .inl (fI M 11 2))),
  (b 11 3, .inl (g.1, 12, .inl (fI M 11 3))),
  (b 11 4, .inl (g.1, 12, .inl (fI M 11 4))),
  (b 11 5, .inl (g.1, 12, .inl (fI M 11 5))),
  (b 11 6, .inl (g.1, 12, .inl (fI M 11 6))),
  (b 11 7, .inl (g.1, 12, .inl (fI M 11 7))),
  (b 12 0, .inl (g.1, 12, .inl (fI M 12 0))),
  (b 12 1, .inl (g.1, 12, .inl (fI M 12 1))),
  (b 12 2, .inl (g.1, 12, .inl (fI M 12 2))),
  (b 12 3, .inl (g.1, 12, .inl (fI M 12 3))),
  (b 12 4, .inl (g.1, 12, .inl (fI M 12 4))),
  (b 12 5, .inl (g.1, 12, .inl (fI M 12 5))),
  (b 12 6, .inl (g.1, 12, .inl (fI M 12 6))),
  (b 12 7, .inl (g.1, 12, .inl (fI M 12 7))),
  (b 13 0, .inl (g.1, 24, .inl (fI M 13 0))),
  (b 13 1, .inl (g.1, 24, .inl (fI M 13 1))),
  (b 13 2, .inl (g.1, 24, .inl (fI M 13 2))),
  (b 13 3, .inl (g.1, 24, .inl (fI M 13 3))),
  (b 13 4, .inl (g.1, 24, .inl (fI M 13 4))),
  (b 13 5, .inl (g.1, 2, .inl (fI M 13 5))),
  (b 13 6, .inl (g.1, 12, .inl (fI M 13 6))),
  (b 13 8, .inl (g.1, 28561, .inl (fI M 13 8))),
  (b 13 9, .inl (g.1, 12, .inl (fI M 13 9))),
  (b 13 10, .inl (g.1, 12, .inl (fI M 13 10))),
  (b 13 11, .inl (g.2.1, 12, .inl (fI M 13 11))),
  (b 13 12, .inl (g.2.1, 12, .inl (fI M 13 12))),
  (b 13 13, .inl (g.1, 96, .inl (fI M 13 13))),
  (b 13 14, .inl (g.1, 24, .inl (fI M 13 14))),
  (b 13 15, .inl (g.1, 24, .inl (fI M 13 15))),
  (b 13 18, .inl (g.1, 12, .inl (fI M 13 18))),
  (b 13 19, .inl (g.1, 12, .inl (fI M 13 19))),
  (b 13 21, .inl (g.1, 144, .inl (fI M 13 21))),
  (b 13 22, .inl (g.1, 13, .inl (fI M 13 22))),
  (b 14 0, .inl (g.2.2, 1, .inr (.inl (fun i => Int64.ofInt (M 14 0 i)))))]
abbrev tysG (g : GT) : List (ClassId × FieldType) := [(g.1, .int), (g.2.1, .boolean), (g.2.2, .long)]
def isArr (q o j N : Nat) : Prop := (∀ (g : GT) (a : Nat → Nat) (b : Nat → Nat → Nat) (M : Mem), (WW g a b M)[q]? = some (b o j, .inl (g.1, N, .inl (fI M o j)))) ∧ (∀ (g : GT) (a : Nat → Nat) (b : Nat → Nat → Nat) (M : Mem) (i : Nat) (v : Int), (WW g a b M).set q (b o j, .inl (g.1, N, .inl (fI (mset M o j i v) o j))) = WW g a b (mset M o j i v)) ∧ N < 2147483648
theorem gO_0 {g : GT} {a : Nat → Nat} {b : Nat → Nat → Nat} {M : Mem} : (WW g a b M)[0]? = some (a 0, .inr (10, [.ref (a 1), .ref (a 2), .ref (a 3), .ref (a 4), .ref (a 5), .ref (a 6), .ref (a 7), .ref (a 8), iv (M 0 8 0)])) := rfl
theorem gO_1 {g : GT} {a : Nat → Nat} {b : Nat → Nat → Nat} {M : Mem} : (WW g a b M)[1]? = some (a 1, .inr (1, [.ref (b 1 0), .ref (b 1 1), .ref (b 1 2), iv (M 1 3 0), .ref (a 11), .ref (a 12)])) := rfl
theorem gO_2 {g : GT} {a : Nat → Nat} {b : Nat → Nat → Nat} {M : Mem} : (WW g a b M)[2]? = some (a 2, .inr (3, [.ref (a 1), .ref (a 9), .ref (a 10), .ref (b 2 3)])) := rfl
theorem gO_3 {g : GT} {a : Nat → Nat} {b : Nat → Nat → Nat} {M : Mem} : (WW g a b M)[3]? = some (a 3, .inr (2, [.ref (a 2), .ref (b 3 1), .ref (b 3 2)])) := rfl
theorem gO_4 {g : GT} {a : Nat → Nat} {b : Nat → Nat → Nat} {M : Mem} : (WW g a b M)[4]? = some (a 4, .inr (0, [.ref (a 2), .ref (b 4 1)])) := rfl
theorem gO_5 {g : GT} {a : Nat → Nat} {b : Nat → Nat → Nat} {M : Mem} : (WW g a b M)[5]? = some (a 5, .inr (8, [.ref (a 2), .ref (b 5 1), .ref (b 5 2), .ref (b 5 3), .ref (b 5 4)])) := rfl
theorem gO_6 {g : GT} {a : Nat → Nat} {b : Nat → Nat → Nat} {M : Mem} : (WW g a b M)[6]? = some (a 6, .inr (4, [.ref (a 2), .ref (a 4), .ref (b 6 2), .ref (b 6 3), .ref (b 6 4), .ref (b 6 5), .ref (b 6 6), iv (M 6 7 0)])) := rfl
theorem gO_7 {g : GT} {a : Nat → Nat} {b : Nat → Nat → Nat} {M : Mem} : (WW g a b M)[7]? = some (a 7, .inr (7, [.ref (a 1), .ref (a 6), .ref (b 7 2), .ref (b 7 3), iv (M 7 4 0), iv (M 7 5 0), .ref (b 7 6), .ref (b 7 7), iv (M 7 8 0)])) := rfl
theorem gO_8 {g : GT} {a : Nat → Nat} {b : Nat → Nat → Nat} {M : Mem} : (WW g a b M)[8]? = some (a 8, .inr (5, [.ref (a 1), .ref (a 6), .ref (b 8 2), .ref (b 8 3), iv (M 8 4 0), iv (M 8 5 0)])) := rfl
theorem gO_9 {g : GT} {a : Nat → Nat} {b : Nat → Nat → Nat} {M : Mem} : (WW g a b M)[9]? = some (a 9, .inr (6, [.ref (b 9 0), .ref (b 9 1), .ref (b 9 2), .ref (b 9 3), .ref (b 9 4), iv (M 9 5 0)])) := rfl
theorem gO_10 {g : GT} {a : Nat → Nat} {b : Nat → Nat → Nat} {M : Mem} : (WW g a b M)[10]? = some (a 10, .inr (6, [.ref (b 10 0), .ref (b 10 1), .ref (b 10 2), .ref (b 10 3), .ref (b 10 4), iv (M 10 5 0)])) := rfl
theorem gO_11 {g : GT} {a : Nat → Nat} {b : Nat → Nat → Nat} {M : Mem} : (WW g a b M)[11]? = some (a 11, .inr (9, [.ref (b 11 0), .ref (b 11 1), .ref (b 11 2), .ref (b 11 3), .ref (b 11 4), .ref (b 11 5), .ref (b 11 6), .ref (b 11 7), iv (M 11 8 0)])) := rfl
theorem gO_12 {g : GT} {a : Nat → Nat} {b : Nat → Nat → Nat} {M : Mem} : (WW g a b M)[12]? = some (a 12, .inr (9, [.ref (b 12 0), .ref (b 12 1), .ref (b 12 2), .ref (b 12 3), .ref (b 12 4), .ref (b 12 5), .ref (b 12 6), .ref (b 12 7), iv (M 12 8 0)])) := rfl
theorem gO_13 {g : GT} {a : Nat → Nat} {b : Nat → Nat → Nat} {M : Mem} : (WW g a b M)[13]? = some (a 13, .inr (11, [.ref (b 13 0), .ref (b 13 1), .ref (b 13 2), .ref (b 13 3), .ref (b 13 4), .ref (b 13 5), .ref (b 13 6), iv (M 13 7 0), .ref (b 13 8), .ref (b 13 9), .ref (b 13 10), .ref (b 13 11), .ref (b 13 12), .ref (b 13 13), .ref (b 13 14), .ref (b 13 15), iv (M 13 16 0), iv (M 13 17 0), .ref (b 13 18), .ref (b 13 19), iv (M 13 20 0), .ref (b 13 21), .ref (b 13 22), iv (M 13 23 0)])) := rfl
theorem gA_1_0 {g : GT} {a : Nat → Nat} {b : Nat → Nat → Nat} {M : Mem} : (WW g a b M)[14]? = some (b 1 0, .inl (g.1, 4, .inl (fI M 1 0))) := rfl
theorem gA_1_1 {g : GT} {a : Nat → Nat} {b : Nat → Nat → Nat} {M : Mem} : (WW g a b M)[15]? = some (b 1 1, .inl (g.1, 4, .inl (fI M 1 1))) := rfl
theorem gA_1_2 {g : GT} {a : Nat → Nat} {b : Nat → Nat → Nat} {M : Mem} : (WW g a b M)[16]? = some (b 1 2, .inl (g.1, 4, .inl (fI M 1 2))) := rfl
theorem gA_2_3 {g : GT} {a : Nat → Nat} {b : Nat → Nat → Nat} {M : Mem} : (WW g a b M)[17]? = some (b 2 3, .inl (g.1, 144, .inl (fI M 2 3))) := rfl
theorem gA_3_1 {g : GT} {a : Nat → Nat} {b : Nat → Nat → Nat} {M : Mem} : (WW g a b M)[18]? = some (b 3 1, .inl (g.1, 144, .inl (fI M 3 1))) := rfl
theorem gA_3_2 {g : GT} {a : Nat → Nat} {b : Nat → Nat → Nat} {M : Mem} : (WW g a b M)[19]? = some (b 3 2, .inl (g.1, 169, .inl (fI M 3 2))) := rfl
theorem gA_4_1 {g : GT} {a : Nat → Nat} {b : Nat → Nat → Nat} {M : Mem} : (WW g a b M)[20]? = some (b 4 1, .inl (g.1, 6084, .inl (fI M 4 1))) := rfl
theorem gA_5_1 {g : GT} {a : Nat → Nat} {b : Nat → Nat → Nat} {M : Mem} : (WW g a b M)[21]? = some (b 5 1, .inl (g.1, 144, .inl (fI M 5 1))) := rfl
theorem gA_5_2 {g : GT} {a : Nat → Nat} {b : Nat → Nat → Nat} {M : Mem} : (WW g a b M)[22]? = some (b 5 2, .inl (g.1, 169, .inl (fI M 5 2))) := rfl
theorem gA_5_3 {g : GT} {a : Nat → Nat} {b : Nat → Nat → Nat} {M : Mem} : (WW g a b M)[23]? = some (b 5 3, .inl (g.1, 12, .inl (fI M 5 3))) := rfl
theorem gA_5_4 {g : GT} {a : Nat → Nat} {b : Nat → Nat → Nat} {M : Mem} : (WW g a b M)[24]? = some (b 5 4, .inl (g.1, 12, .inl (fI M 5 4))) := rfl
theorem gA_6_2 {g : GT} {a : Nat → Nat} {b : Nat → Nat → Nat} {M : Mem} : (WW g a b M)[25]? = some (b 6 2, .inl (g.1, 12, .inl (fI M 6 2))) := rfl
theorem gA_6_3 {g : GT} {a : Nat → Nat} {b : Nat → Nat → Nat} {M : Mem} : (WW g a b M)[26]? = some (b 6 3, .inl (g.1, 12, .inl (fI M 6 3))) := rfl
theorem gA_6_4 {g : GT} {a : Nat → Nat} {b : Nat → Nat → Nat} {M : Mem} : (WW g a b M)[27]? = some (b 6 4, .inl (g.1, 12, .inl (fI M 6 4))) := rfl
theorem gA_6_5 {g : GT} {a : Nat → Nat} {b : Nat → Nat → Nat} {M : Mem} : (WW g a b M)[28]? = some (b 6 5, .inl (g.1, 12, .inl (fI M 6 5))) := rfl
theorem gA_6_6 {g : GT} {a : Nat → Nat} {b : Nat → Nat → Nat} {M : Mem} : (WW g a b M)[29]? = some (b 6 6, .inl (g.1, 12, .inl (fI M 6 6))) := rfl
theorem gA_7_2 {g : GT} {a : Nat → Nat} {b : Nat → Nat → Nat} {M : Mem} : (WW g a b M)[30]? = some (b 7 2, .inl (g.1, 24, .inl (fI M 7 2))) := rfl
theorem gA_7_3 {g : GT} {a : Nat → Nat} {b : Nat → Nat → Nat} {M : Mem} : (WW g a b M)[31]? = some (b 7 3, .inl (g.1, 24, .inl (fI M 7 3))) := rfl
theorem gA_7_6 {g : GT} {a : Nat → Nat} {b : Nat → Nat → Nat} {M : Mem} : (WW g a b M)[32]? = some (b 7 6, .inl (g.2.1, 12, .inl (fI M 7 6))) := rfl
theorem gA_7_7 {g : GT} {a : Nat → Nat} {b : Nat → Nat → Nat} {M : Mem} : (WW g a b M)[33]? = some (b 7 7, .inl (g.1, 12, .inl (fI M 7 7))) := rfl
theorem gA_8_2 {g : GT} {a : Nat → Nat} {b : Nat → Nat → Nat} {M : Mem} : (WW g a b M)[34]? = some (b 8 2, .inl (g.1, 12, .inl (fI M 8 2))) := rfl
theorem gA_8_3 {g : GT} {a : Nat → Nat} {b : Nat → Nat → Nat} {M : Mem} : (WW g a b M)[35]? = some (b 8 3, .inl (g.1, 12, .inl (fI M 8 3))) := rfl
theorem gA_9_0 {g : GT} {a : Nat → Nat} {b : Nat → Nat → Nat} {M : Mem} : (WW g a b M)[36]? = some (b 9 0, .inl (g.1, 12, .inl (fI M 9 0))) := rfl
theorem gA_9_1 {g : GT} {a : Nat → Nat} {b : Nat → Nat → Nat} {M : Mem} : (WW g a b M)[37]? = some (b 9 1, .inl (g.1, 12, .inl (fI M 9 1))) := rfl
theorem gA_9_2 {g : GT} {a : Nat → Nat} {b : Nat → Nat → Nat} {M : Mem} : (WW g a b M)[38]? = some (b 9 2, .inl (g.2.1, 12, .inl (fI M 9 2))) := rfl
theorem gA_9_3 {g : GT} {a : Nat → Nat} {b : Nat → Nat → Nat} {M : Mem} : (WW g a b M)[39]? = some (b 9 3, .inl (g.1, 12, .inl (fI M 9 3))) := rfl
theorem gA_9_4 {g : GT} {a : Nat → Nat} {b : Nat → Nat → Nat} {M : Mem} : (WW g a b M)[40]? = some (b 9 4, .inl (g.1, 13, .inl (fI M 9 4))) := rfl
theorem gA_10_0 {g : GT} {a : Nat → Nat} {b : Nat → Nat → Nat} {M : Mem} : (WW g a b M)[41]? = some (b 10 0, .inl (g.1, 12, .inl (fI M 10 0))) := rfl
theorem gA_10_1 {g : GT} {a : Nat → Nat} {b : Nat → Nat → Nat} {M : Mem} : (WW g a b M)[42]? = some (b 10 1, .inl (g.1, 12, .inl (fI M 10 1))) := rfl
theorem gA_10_2 {g : GT} {a : Nat → Nat} {b : Nat → Nat → Nat} {M : Mem} : (WW g a b M)[43]? = some (b 10 2, .inl (g.2.1, 12, .inl (fI M 10 2))) := rfl
theorem gA_10_3 {g : GT} {a : Nat → Nat} {b : Nat → Nat → Nat} {M : Mem} : (WW g a b M)[44]? = some (b 10 3, .inl (g.1, 12, .inl (fI M 10 3))) := rfl
theorem gA_10_4 {g : GT} {a : Nat → Nat} {b : Nat → Nat → Nat} {M : Mem} : (WW g a b M)[45]? = some (b 10 4, .inl (g.1, 13, .inl (fI M 10 4))) := rfl
theorem gA_11_0 {g : GT} {a : Nat → Nat} {b : Nat → Nat → Nat} {M : Mem} : (WW g a b M)[46]? = some (b 11 0, .inl (g.1, 12, .inl (fI M 11 0))) := rfl
theorem gA_11_1 {g : GT} {a : Nat → Nat} {b : Nat → Nat → Nat} {M : Mem} : (WW g a b M)[47]? = some (b 11 1, .inl (g.1, 12, .inl (fI M 11 1))) := rfl
theorem gA_11_2 {g : GT} {a : Nat → Nat} {b : Nat → Nat → Nat} {M : Mem} : (WW g a b M)[48]? = some (b 11 2, .inl (g.1, 12, .inl (fI M 11 2))) := rfl
theorem gA_11_3 {g : GT} {a : Nat → Nat} {b : Nat → Nat → Nat} {M : Mem} : (WW g a b M)[49]? = some (b 11 3, .inl (g.1, 12, .inl (fI M 11 3))) := rfl
theorem gA_11_4 {g : GT} {a : Nat → Nat} {b : Nat → Nat → Nat} {M : Mem} : (WW g a b M)[50]? = some (b 11 4, .inl (g.1, 12, .inl (fI M 11 4))) := rfl
theorem gA_11_5 {g : GT} {a : Nat → Nat} {b : Nat → Nat → Nat} {M : Mem} : (WW g a b M)[51]? = some (b 11 5, .inl (g.1, 12, .inl (fI M 11 5))) := rfl
theorem gA_11_6 {g : GT} {a : Nat → Nat} {b : Nat → Nat → Nat} {M : Mem} : (WW g a b M)[52]? = some (b 11 6, .inl (g.1, 12, .inl (fI M 11 6))) := rfl
theorem gA_11_7 {g : GT} {a : Nat → Nat} {b : Nat → Nat → Nat} {M : Mem} : (WW g a b M)[53]? = some (b 11 7, .inl (g.1, 12, .inl (fI M 11 7))) := rfl
theorem gA_12_0 {g : GT} {a : Nat → Nat} {b : Nat → Nat → Nat} {M : Mem} : (WW g a b M)[54]? = some (b 12 0, .inl (g.1, 12, .inl (fI M 12 0))) := rfl
theorem gA_12_1 {g : GT} {a : Nat → Nat} {b : Nat → Nat → Nat} {M : Mem} : (WW g a b M)[55]? = some (b 12 1, .inl (g.1, 12, .inl (fI M 12 1))) := rfl
theorem gA_12_2 {g : GT} {a : Nat → Nat} {b : Nat → Nat → Nat} {M : Mem} : (WW g a b M)[56]? = some (b 12 2, .inl (g.1, 12, .inl (fI M 12 2))) := rfl
theorem gA_12_3 {g : GT} {a : Nat → Nat} {b : Nat → Nat → Nat} {M : Mem} : (WW g a b M)[57]? = some (b 12 3, .inl (g.1, 12, .inl (fI M 12 3))) := rfl
theorem gA_12_4 {g : GT} {a : Nat → Nat} {b : Nat → Nat → Nat} {M : Mem} : (WW g a b M)[58]? = some (b 12 4, .inl (g.1, 12, .inl (fI M 12 4))) := rfl
theorem gA_12_5 {g : GT} {a : Nat → Nat} {b : Nat → Nat → Nat} {M : Mem} : (WW g a b M)[59]? = some (b 12 5, .inl (g.1, 12, .inl (fI M 12 5))) := rfl
theorem gA_12_6 {g : GT} {a : Nat → Nat} {b : Nat → Nat → Nat} {M : Mem} : (WW g a b M)[60]? = some (b 12 6, .inl (g.1, 12, .inl (fI M 12 6))) := rfl
theorem gA_12_7 {g : GT} {a : Nat → Nat} {b : Nat → Nat → Nat} {M : Mem} : (WW g a b M)[61]? = some (b 12 7, .inl (g.1, 12, .inl (fI M 12 7))) := rfl
theorem gA_13_0 {g : GT} {a : Nat → Nat} {b : Nat → Nat → Nat} {M : Mem} : (WW g a b M)[62]? = some (b 13 0, .inl (g.1, 24, .inl (fI M 13 0))) := rfl
theorem gA_13_1 {g : GT} {a : Nat → Nat} {b : Nat → Nat → Nat} {M : Mem} : (WW g a b M)[63]? = some (b 13 1, .inl (g.1, 24, .inl (fI M 13 1))) := rfl
theorem gA_13_2 {g : GT} {a : Nat → Nat} {b : Nat → Nat → Nat} {M : Mem} : (WW g a b M)[64]? = some (b 13 2, .inl (g.1, 24, .inl (fI M 13 2))) := rfl
theorem gA_13_3 {g : GT} {a : Nat → Nat} {b : Nat → Nat → Nat} {M : Mem} : (WW g a b M)[65]? = some (b 13 3, .inl (g.1, 24, .inl (fI M 13 3))) := rfl
theorem gA_13_4 {g : GT} {a : Nat → Nat} {b : Nat → Nat → Nat} {M : Mem} : (WW g a b M)[66]? = some (b 13 4, .inl (g.1, 24, .inl (fI M 13 4))) := rfl
theorem gA_13_5 {g : GT} {a : Nat → Nat} {b : Nat → Nat → Nat} {M : Mem} : (WW g a b M)[67]? = some (b 13 5, .inl (g.1, 2, .inl (fI M 13 5))) := rfl
theorem gA_13_6 {g : GT} {a : Nat → Nat} {b : Nat → Nat → Nat} {M : Mem} : (WW g a b M)[68]? = some (b 13 6, .inl (g.1, 12, .inl (fI M 13 6))) := rfl
theorem gA_13_8 {g : GT} {a : Nat → Nat} {b : Nat → Nat → Nat} {M : Mem} : (WW g a b M)[69]? = some (b 13 8, .inl (g.1, 28561, .inl (fI M 13 8))) := rfl
theorem gA_13_9 {g : GT} {a : Nat → Nat} {b : Nat → Nat → Nat} {M : Mem} : (WW g a b M)[70]? = some (b 13 9, .inl (g.1, 12, .inl (fI M 13 9))) := rfl
theorem gA_13_10 {g : GT} {a : Nat → Nat} {b : Nat → Nat → Nat} {M : Mem} : (WW g a b M)[71]? = some (b 13 10, .inl (g.1, 12, .inl (fI M 13 10))) := rfl
theorem gA_13_11 {g : GT} {a : Nat → Nat} {b : Nat → Nat → Nat} {M : Mem} : (WW g a b M)[72]? = some (b 13 11, .inl (g.2.1, 12, .inl (fI M 13 11))) := rfl
theorem gA_13_12 {g : GT} {a : Nat → Nat} {b : Nat → Nat → Nat} {M : Mem} : (WW g a b M)[73]? = some (b 13 12, .inl (g.2.1, 12, .inl (fI M 13 12))) := rfl
theorem gA_13_13 {g : GT} {a : Nat → Nat} {b : Nat → Nat → Nat} {M : Mem} : (WW g a b M)[74]? = some (b 13 13, .inl (g.1, 96, .inl (fI M 13 13))) := rfl
theorem gA_13_14 {g : GT} {a : Nat → Nat} {b : Nat → Nat → Nat} {M : Mem} : (WW g a b M)[75]? = some (b 13 14, .inl (g.1, 24, .inl (fI M 13 14))) := rfl
theorem gA_13_15 {g : GT} {a : Nat → Nat} {b : Nat → Nat → Nat} {M : Mem} : (WW g a b M)[76]? = some (b 13 15, .inl (g.1, 24, .inl (fI M 13 15))) := rfl
theorem gA_13_18 {g : GT} {a : Nat → Nat} {b : Nat → Nat → Nat} {M : Mem} : (WW g a b M)[77]? = some (b 13 18, .inl (g.1, 12, .inl (fI M 13 18))) := rfl
theorem gA_13_19 {g : GT} {a : Nat → Nat} {b : Nat → Nat → Nat} {M : Mem} : (WW g a b M)[78]? = some (b 13 19, .inl (g.1, 12, .inl (fI M 13 19))) := rfl
theorem gA_13_21 {g : GT} {a : Nat → Nat} {b : Nat → Nat → Nat} {M : Mem} : (WW g a b M)[79]? = some (b 13 21, .inl (g.1, 144, .inl (fI M 13 21))) := rfl
theorem gA_13_22 {g : GT} {a : Nat → Nat} {b : Nat → Nat → Nat} {M : Mem} : (WW g a b M)[80]? = some (b 13 22, .inl (g.1, 13, .inl (fI M 13 22))) := rfl
theorem gA_14_0 {g : GT} {a : Nat → Nat} {b : Nat → Nat → Nat} {M : Mem} : (WW g a b M)[81]? = some (b 14 0, .inl (g.2.2, 1, .inr (.inl (fun i => Int64.ofInt (M 14 0 i))))) := rfl
set_option maxRecDepth 4000 in
theorem sI_0_8 {g : GT} {a : Nat → Nat} {b : Nat → Nat → Nat} {M : Mem} {v : Int} : (WW g a b M).set 0 (a 0, .inr (10, [.ref (a 1), .ref (a 2), .ref (a 3), .ref (a 4), .ref (a 5), .ref (a 6), .ref (a 7), .ref (a 8), iv (M 0 8 0)].set 8 (iv v))) = WW g a b (mset M 0 8 0 v) := rfl
set_option maxRecDepth 4000 in
theorem sA_1_0 {g : GT} {a : Nat → Nat} {b : Nat → Nat → Nat} {M : Mem} {i : Nat} {v : Int} : (WW g a b M).set 14 (b 1 0, .inl (g.1, 4, .inl (fI (mset M 1 0 i v) 1 0))) = WW g a b (mset M 1 0 i v) := rfl
set_option maxRecDepth 4000 in
theorem sA_1_1 {g : GT} {a : Nat → Nat} {b : Nat → Nat → Nat} {M : Mem} {i : Nat} {v : Int} : (WW g a b M).set 15 (b 1 1, .inl (g.1, 4, .inl (fI (mset M 1 1 i v) 1 1))) = WW g a b (mset M 1 1 i v) := rfl
set_option maxRecDepth 4000 in
theorem sA_1_2 {g : GT} {a : Nat → Nat} {b : Nat → Nat → Nat} {M : Mem} {i : Nat} {v : Int} : (WW g a b M).set 16 (b 1 2, .inl (g.1, 4, .inl (fI (mset M 1 2 i v) 1 2))) = WW g a b (mset M 1 2 i v) := rfl
set_option maxRecDepth 4000 in
theorem sI_1_3 {g : GT} {a : Nat → Nat} {b : Nat → Nat → Nat} {M : Mem} {v : Int} : (WW g a b M).set 1 (a 1, .inr (1, [.ref (b 1 0), .ref (b 1 1), .ref (b 1 2), iv (M 1 3 0), .ref (a 11), .ref (a 12)].set 3 (iv v))) = WW g a b (mset M 1 3 0 v) := rfl
set_option maxRecDepth 4000 in
theorem sA_2_3 {g : GT} {a : Nat → Nat} {b : Nat → Nat → Nat} {M : Mem} {i : Nat} {v : Int} : (WW g a b M).set 17 (b 2 3, .inl (g.1, 144, .inl (fI (mset M 2 3 i v) 2 3))) = WW g a b (mset M 2 3 i v) := rfl
set_option maxRecDepth 4000 in
theorem sA_3_1 {g : GT} {a : Nat → Nat} {b : Nat → Nat → Nat} {M : Mem} {i : Nat} {v : Int} : (WW g a b M).set 18 (b 3 1, .inl (g.1, 144, .inl (fI (mset M 3 1 i v) 3 1))) = WW g a b (mset M 3 1 i v) := rfl
set_option maxRecDepth 4000 in
theorem sA_3_2 {g : GT} {a : Nat → Nat} {b : Nat → Nat → Nat} {M : Mem} {i : Nat} {v : Int} : (WW g a b M).set 19 (b 3 2, .inl (g.1, 169, .inl (fI (mset M 3 2 i v) 3 2))) = WW g a b (mset M 3 2 i v) := rfl
set_option maxRecDepth 4000 in
theorem sA_4_1 {g : GT} {a : Nat → Nat} {b : Nat → Nat → Nat} {M : Mem} {i : Nat} {v : Int} : (WW g a b M).set 20 (b 4 1, .inl (g.1, 6084, .inl (fI (mset M 4 1 i v) 4 1))) = WW g a b (mset M 4 1 i v) := rfl
set_option maxRecDepth 4000 in
theorem sA_5_1 {g : GT} {a : Nat → Nat} {b : Nat → Nat → Nat} {M : Mem} {i : Nat} {v : Int} : (WW g a b M).set 21 (b 5 1, .inl (g.1, 144, .inl (fI (mset M 5 1 i v) 5 1))) = WW g a b (mset M 5 1 i v) := rfl
set_option maxRecDepth 4000 in
theorem sA_5_2 {g : GT} {a : Nat → Nat} {b : Nat → Nat → Nat} {M : Mem} {i : Nat} {v : Int} : (WW g a b M).set 22 (b 5 2, .inl (g.1, 169, .inl (fI (mset M 5 2 i v) 5 2))) = WW g a b (mset M 5 2 i v) := rfl
set_option maxRecDepth 4000 in
theorem sA_5_3 {g : GT} {a : Nat → Nat} {b : Nat → Nat → Nat} {M : Mem} {i : Nat} {v : Int} : (WW g a b M).set 23 (b 5 3, .inl (g.1, 12, .inl (fI (mset M 5 3 i v) 5 3))) = WW g a b (mset M 5 3 i v) := rfl
set_option maxRecDepth 4000 in
theorem sA_5_4 {g : GT} {a : Nat → Nat} {b : Nat → Nat → Nat} {M : Mem} {i : Nat} {v : Int} : (WW g a b M).set 24 (b 5 4, .inl (g.1, 12, .inl (fI (mset M 5 4 i v) 5 4))) = WW g a b (mset M 5 4 i v) := rfl
set_option maxRecDepth 4000 in
theorem sA_6_2 {g : GT} {a : Nat → Nat} {b : Nat → Nat → Nat} {M : Mem} {i : Nat} {v : Int} : (WW g a b M).set 25 (b 6 2, .inl (g.1, 12, .inl (fI (mset M 6 2 i v) 6 2))) = WW g a b (mset M 6 2 i v) := rfl
set_option maxRecDepth 4000 in
theorem sA_6_3 {g : GT} {a : Nat → Nat} {b : Nat → Nat → Nat} {M : Mem} {i : Nat} {v : Int} : (WW g a b M).set 26 (b 6 3, .inl (g.1, 12, .inl (fI (mset M 6 3 i v) 6 3))) = WW g a b (mset M 6 3 i v) := rfl
set_option maxRecDepth 4000 in
theorem sA_6_4 {g : GT} {a : Nat → Nat} {b : Nat → Nat → Nat} {M : Mem} {i : Nat} {v : Int} : (WW g a b M).set 27 (b 6 4, .inl (g.1, 12, .inl (fI (mset M 6 4 i v) 6 4))) = WW g a b (mset M 6 4 i v) := rfl
set_option maxRecDepth 4000 in
theorem sA_6_5 {g : GT} {a : Nat → Nat} {b : Nat → Nat → Nat} {M : Mem} {i : Nat} {v : Int} : (WW g a b M).set 28 (b 6 5, .inl (g.1, 12, .inl (fI (mset M 6 5 i v) 6 5))) = WW g a b (mset M 6 5 i v) := rfl
set_option maxRecDepth 4000 in
theorem sA_6_6 {g : GT} {a : Nat → Nat} {b : Nat → Nat → Nat} {M : Mem} {i : Nat} {v : Int} : (WW g a b M).set 29 (b 6 6, .inl (g.1, 12, .inl (fI (mset M 6 6 i v) 6 6))) = WW g a b (mset M 6 6 i v) := rfl
set_option maxRecDepth 4000 in
theorem sI_6_7 {g : GT} {a : Nat → Nat} {b : Nat → Nat → Nat} {M : Mem} {v : Int} : (WW g a b M).set 6 (a 6, .inr (4, [.ref (a 2), .ref (a 4), .ref (b 6 2), .ref (b 6 3), .ref (b 6 4), .ref (b 6 5), .ref (b 6 6), iv (M 6 7 0)].set 7 (iv v))) = WW g a b (mset M 6 7 0 v) := rfl
set_option maxRecDepth 4000 in
theorem sA_7_2 {g : GT} {a : Nat → Nat} {b : Nat → Nat → Nat} {M : Mem} {i : Nat} {v : Int} : (WW g a b M).set 30 (b 7 2, .inl (g.1, 24, .inl (fI (mset M 7 2 i v) 7 2))) = WW g a b (mset M 7 2 i v) := rfl
set_option maxRecDepth 4000 in
theorem sA_7_3 {g : GT} {a : Nat → Nat} {b : Nat → Nat → Nat} {M : Mem} {i : Nat} {v : Int} : (WW g a b M).set 31 (b 7 3, .inl (g.1, 24, .inl (fI (mset M 7 3 i v) 7 3))) = WW g a b (mset M 7 3 i v) := rfl
set_option maxRecDepth 4000 in
theorem sI_7_4 {g : GT} {a : Nat → Nat} {b : Nat → Nat → Nat} {M : Mem} {v : Int} : (WW g a b M).set 7 (a 7, .inr (7, [.ref (a 1), .ref (a 6), .ref (b 7 2), .ref (b 7 3), iv (M 7 4 0), iv (M 7 5 0), .ref (b 7 6), .ref (b 7 7), iv (M 7 8 0)].set 4 (iv v))) = WW g a b (mset M 7 4 0 v) := rfl
set_option maxRecDepth 4000 in
theorem sI_7_5 {g : GT} {a : Nat → Nat} {b : Nat → Nat → Nat} {M : Mem} {v : Int} : (WW g a b M).set 7 (a 7, .inr (7, [.ref (a 1), .ref (a 6), .ref (b 7 2), .ref (b 7 3), iv (M 7 4 0), iv (M 7 5 0), .ref (b 7 6), .ref (b 7 7), iv (M 7 8 0)].set 5 (iv v))) = WW g a b (mset M 7 5 0 v) := rfl
set_option maxRecDepth 4000 in
theorem sA_7_6 {g : GT} {a : Nat → Nat} {b : Nat → Nat → Nat} {M : Mem} {i : Nat} {v : Int} : (WW g a b M).set 32 (b 7 6, .inl (g.2.1, 12, .inl (fI (mset M 7 6 i v) 7 6))) = WW g a b (mset M 7 6 i v) := rfl
set_option maxRecDepth 4000 in
theorem sA_7_7 {g : GT} {a : Nat → Nat} {b : Nat → Nat → Nat} {M : Mem} {i : Nat} {v : Int} : (WW g a b M).set 33 (b 7 7, .inl (g.1, 12, .inl (fI (mset M 7 7 i v) 7 7))) = WW g a b (mset M 7 7 i v) := rfl
set_option maxRecDepth 4000 in
theorem sI_7_8 {g : GT} {a : Nat → Nat} {b : Nat → Nat → Nat} {M : Mem} {v : Int} : (WW g a b M).set 7 (a 7, .inr (7, [.ref (a 1), .ref (a 6), .ref (b 7 2), .ref (b 7 3), iv (M 7 4 0), iv (M 7 5 0), .ref (b 7 6), .ref (b 7 7), iv (M 7 8 0)].set 8 (iv v))) = WW g a b (mset M 7 8 0 v) := rfl
set_option maxRecDepth 4000 in
theorem sA_8_2 {g : GT} {a : Nat → Nat} {b : Nat → Nat → Nat} {M : Mem} {i : Nat} {v : Int} : (WW g a b M).set 34 (b 8 2, .inl (g.1, 12, .inl (fI (mset M 8 2 i v) 8 2))) = WW g a b (mset M 8 2 i v) := rfl
set_option maxRecDepth 4000 in
theorem sA_8_3 {g : GT} {a : Nat → Nat} {b : Nat → Nat → Nat} {M : Mem} {i : Nat} {v : Int} : (WW g a b M).set 35 (b 8 3, .inl (g.1, 12, .inl (fI (mset M 8 3 i v) 8 3))) = WW g a b (mset M 8 3 i v) := rfl
set_option maxRecDepth 4000 in
theorem sI_8_4 {g : GT} {a : Nat → Nat} {b : Nat → Nat → Nat} {M : Mem} {v : Int} : (WW g a b M).set 8 (a 8, .inr (5, [.ref (a 1), .ref (a 6), .ref (b 8 2), .ref (b 8 3), iv (M 8 4 0), iv (M 8 5 0)].set 4 (iv v))) = WW g a b (mset M 8 4 0 v) := rfl
set_option maxRecDepth 4000 in
theorem sI_8_5 {g : GT} {a : Nat → Nat} {b : Nat → Nat → Nat} {M : Mem} {v : Int} : (WW g a b M).set 8 (a 8, .inr (5, [.ref (a 1), .ref (a 6), .ref (b 8 2), .ref (b 8 3), iv (M 8 4 0), iv (M 8 5 0)].set 5 (iv v))) = WW g a b (mset M 8 5 0 v) := rfl
set_option maxRecDepth 4000 in
theorem sA_9_0 {g : GT} {a : Nat → Nat} {b : Nat → Nat → Nat} {M : Mem} {i : Nat} {v : Int} : (WW g a b M).set 36 (b 9 0, .inl (g.1, 12, .inl (fI (mset M 9 0 i v) 9 0))) = WW g a b (mset M 9 0 i v) := rfl
set_option maxRecDepth 4000 in
theorem sA_9_1 {g : GT} {a : Nat → Nat} {b : Nat → Nat → Nat} {M : Mem} {i : Nat} {v : Int} : (WW g a b M).set 37 (b 9 1, .inl (g.1, 12, .inl (fI (mset M 9 1 i v) 9 1))) = WW g a b (mset M 9 1 i v) := rfl
set_option maxRecDepth 4000 in
theorem sA_9_2 {g : GT} {a : Nat → Nat} {b : Nat → Nat → Nat} {M : Mem} {i : Nat} {v : Int} : (WW g a b M).set 38 (b 9 2, .inl (g.2.1, 12, .inl (fI (mset M 9 2 i v) 9 2))) = WW g a b (mset M 9 2 i v) := rfl
set_option maxRecDepth 4000 in
theorem sA_9_3 {g : GT} {a : Nat → Nat} {b : Nat → Nat → Nat} {M : Mem} {i : Nat} {v : Int} : (WW g a b M).set 39 (b 9 3, .inl (g.1, 12, .inl (fI (mset M 9 3 i v) 9 3))) = WW g a b (mset M 9 3 i v) := rfl
set_option maxRecDepth 4000 in
theorem sA_9_4 {g : GT} {a : Nat → Nat} {b : Nat → Nat → Nat} {M : Mem} {i : Nat} {v : Int} : (WW g a b M).set 40 (b 9 4, .inl (g.1, 13, .inl (fI (mset M 9 4 i v) 9 4))) = WW g a b (mset M 9 4 i v) := rfl
set_option maxRecDepth 4000 in
theorem sI_9_5 {g : GT} {a : Nat → Nat} {b : Nat → Nat → Nat} {M : Mem} {v : Int} : (WW g a b M).set 9 (a 9, .inr (6, [.ref (b 9 0), .ref (b 9 1), .ref (b 9 2), .ref (b 9 3), .ref (b 9 4), iv (M 9 5 0)].set 5 (iv v))) = WW g a b (mset M 9 5 0 v) := rfl
set_option maxRecDepth 4000 in
theorem sA_10_0 {g : GT} {a : Nat → Nat} {b : Nat → Nat → Nat} {M : Mem} {i : Nat} {v : Int} : (WW g a b M).set 41 (b 10 0, .inl (g.1, 12, .inl (fI (mset M 10 0 i v) 10 0))) = WW g a b (mset M 10 0 i v) := rfl
set_option maxRecDepth 4000 in
theorem sA_10_1 {g : GT} {a : Nat → Nat} {b : Nat → Nat → Nat} {M : Mem} {i : Nat} {v : Int} : (WW g a b M).set 42 (b 10 1, .inl (g.1, 12, .inl (fI (mset M 10 1 i v) 10 1))) = WW g a b (mset M 10 1 i v) := rfl
set_option maxRecDepth 4000 in
theorem sA_10_2 {g : GT} {a : Nat → Nat} {b : Nat → Nat → Nat} {M : Mem} {i : Nat} {v : Int} : (WW g a b M).set 43 (b 10 2, .inl (g.2.1, 12, .inl (fI (mset M 10 2 i v) 10 2))) = WW g a b (mset M 10 2 i v) := rfl
set_option maxRecDepth 4000 in
theorem sA_10_3 {g : GT} {a : Nat → Nat} {b : Nat → Nat → Nat} {M : Mem} {i : Nat} {v : Int} : (WW g a b M).set 44 (b 10 3, .inl (g.1, 12, .inl (fI (mset M 10 3 i v) 10 3))) = WW g a b (mset M 10 3 i v) := rfl
set_option maxRecDepth 4000 in
theorem sA_10_4 {g : GT} {a : Nat → Nat} {b : Nat → Nat → Nat} {M : Mem} {i : Nat} {v : Int} : (WW g a b M).set 45 (b 10 4, .inl (g.1, 13, .inl (fI (mset M 10 4 i v) 10 4))) = WW g a b (mset M 10 4 i v) := rfl
set_option maxRecDepth 4000 in
theorem sI_10_5 {g : GT} {a : Nat → Nat} {b : Nat → Nat → Nat} {M : Mem} {v : Int} : (WW g a b M).set 10 (a 10, .inr (6, [.ref (b 10 0), .ref (b 10 1), .ref (b 10 2), .ref (b 10 3), .ref (b 10 4), iv (M 10 5 0)].set 5 (iv v))) = WW g a b (mset M 10 5 0 v) := rfl
set_option maxRecDepth 4000 in
theorem sA_11_0 {g : GT} {a : Nat → Nat} {b : Nat → Nat → Nat} {M : Mem} {i : Nat} {v : Int} : (WW g a b M).set 46 (b 11 0, .inl (g.1, 12, .inl (fI (mset M 11 0 i v) 11 0))) = WW g a b (mset M 11 0 i v) := rfl
set_option maxRecDepth 4000 in
theorem sA_11_1 {g : GT} {a : Nat → Nat} {b : Nat → Nat → Nat} {M : Mem} {i : Nat} {v : Int} : (WW g a b M).set 47 (b 11 1, .inl (g.1, 12, .inl (fI (mset M 11 1 i v) 11 1))) = WW g a b (mset M 11 1 i v) := rfl
set_option maxRecDepth 4000 in
theorem sA_11_2 {g : GT} {a : Nat → Nat} {b : Nat → Nat → Nat} {M : Mem} {i : Nat} {v : Int} : (WW g a b M).set 48 (b 11 2, .inl (g.1, 12, .inl (fI (mset M 11 2 i v) 11 2))) = WW g a b (mset M 11 2 i v) := rfl
set_option maxRecDepth 4000 in
theorem sA_11_3 {g : GT} {a : Nat → Nat} {b : Nat → Nat → Nat} {M : Mem} {i : Nat} {v : Int} : (WW g a b M).set 49 (b 11 3, .inl (g.1, 12, .inl (fI (mset M 11 3 i v) 11 3))) = WW g a b (mset M 11 3 i v) := rfl
set_option maxRecDepth 4000 in
theorem sA_11_4 {g : GT} {a : Nat → Nat} {b : Nat → Nat → Nat} {M : Mem} {i : Nat} {v : Int} : (WW g a b M).set 50 (b 11 4, .inl (g.1, 12, .inl (fI (mset M 11 4 i v) 11 4))) = WW g a b (mset M 11 4 i v) := rfl
set_option maxRecDepth 4000 in
theorem sA_11_5 {g : GT} {a : Nat → Nat} {b : Nat → Nat → Nat} {M : Mem} {i : Nat} {v : Int} : (WW g a b M).set 51 (b 11 5, .inl (g.1, 12, .inl (fI (mset M 11 5 i v) 11 5))) = WW g a b (mset M 11 5 i v) := rfl
set_option maxRecDepth 4000 in
theorem sA_11_6 {g : GT} {a : Nat → Nat} {b : Nat → Nat → Nat} {M : Mem} {i : Nat} {v : Int} : (WW g a b M).set 52 (b 11 6, .inl (g.1, 12, .inl (fI (mset M 11 6 i v) 11 6))) = WW g a b (mset M 11 6 i v) := rfl
set_option maxRecDepth 4000 in
theorem sA_11_7 {g : GT} {a : Nat → Nat} {b : Nat → Nat → Nat} {M : Mem} {i : Nat} {v : Int} : (WW g a b M).set 53 (b 11 7, .inl (g.1, 12, .inl (fI (mset M 11 7 i v) 11 7))) = WW g a b (mset M 11 7 i v) := rfl
set_option maxRecDepth 4000 in
theorem sI_11_8 {g : GT} {a : Nat → Nat} {b : Nat → Nat → Nat} {M : Mem} {v : Int} : (WW g a b M).set 11 (a 11, .inr (9, [.ref (b 11 0), .ref (b 11 1), .ref (b 11 2), .ref (b 11 3), .ref (b 11 4), .ref (b 11 5), .ref (b 11 6), .ref (b 11 7), iv (M 11 8 0)].set 8 (iv v))) = WW g a b (mset M 11 8 0 v) := rfl
set_option maxRecDepth 4000 in
theorem sA_12_0 {g : GT} {a : Nat → Nat} {b : Nat → Nat → Nat} {M : Mem} {i : Nat} {v : Int} : (WW g a b M).set 54 (b 12 0, .inl (g.1, 12, .inl (fI (mset M 12 0 i v) 12 0))) = WW g a b (mset M 12 0 i v) := rfl
set_option maxRecDepth 4000 in
theorem sA_12_1 {g : GT} {a : Nat → Nat} {b : Nat → Nat → Nat} {M : Mem} {i : Nat} {v : Int} : (WW g a b M).set 55 (b 12 1, .inl (g.1, 12, .inl (fI (mset M 12 1 i v) 12 1))) = WW g a b (mset M 12 1 i v) := rfl
set_option maxRecDepth 4000 in
theorem sA_12_2 {g : GT} {a : Nat → Nat} {b : Nat → Nat → Nat} {M : Mem} {i : Nat} {v : Int} : (WW g a b M).set 56 (b 12 2, .inl (g.1, 12, .inl (fI (mset M 12 2 i v) 12 2))) = WW g a b (mset M 12 2 i v) := rfl
set_option maxRecDepth 4000 in
theorem sA_12_3 {g : GT} {a : Nat → Nat} {b : Nat → Nat → Nat} {M : Mem} {i : Nat} {v : Int} : (WW g a b M).set 57 (b 12 3, .inl (g.1, 12, .inl (fI (mset M 12 3 i v) 12 3))) = WW g a b (mset M 12 3 i v) := rfl
set_option maxRecDepth 4000 in
theorem sA_12_4 {g : GT} {a : Nat → Nat} {b : Nat → Nat → Nat} {M : Mem} {i : Nat} {v : Int} : (WW g a b M).set 58 (b 12 4, .inl (g.1, 12, .inl (fI (mset M 12 4 i v) 12 4))) = WW g a b (mset M 12 4 i v) := rfl
set_option maxRecDepth 4000 in
theorem sA_12_5 {g : GT} {a : Nat → Nat} {b : Nat → Nat → Nat} {M : Mem} {i : Nat} {v : Int} : (WW g a b M).set 59 (b 12 5, .inl (g.1, 12, .inl (fI (mset M 12 5 i v) 12 5))) = WW g a b (mset M 12 5 i v) := rfl
set_option maxRecDepth 4000 in
theorem sA_12_6 {g : GT} {a : Nat → Nat} {b : Nat → Nat → Nat} {M : Mem} {i : Nat} {v : Int} : (WW g a b M).set 60 (b 12 6, .inl (g.1, 12, .inl (fI (mset M 12 6 i v) 12 6))) = WW g a b (mset M 12 6 i v) := rfl
set_option maxRecDepth 4000 in
theorem sA_12_7 {g : GT} {a : Nat → Nat} {b : Nat → Nat → Nat} {M : Mem} {i : Nat} {v : Int} : (WW g a b M).set 61 (b 12 7, .inl (g.1, 12, .inl (fI (mset M 12 7 i v) 12 7))) = WW g a b (mset M 12 7 i v) := rfl
set_option maxRecDepth 4000 in
theorem sI_12_8 {g : GT} {a : Nat → Nat} {b : Nat → Nat → Nat} {M : Mem} {v : Int} : (WW g a b M).set 12 (a 12, .inr (9, [.ref (b 12 0), .ref (b 12 1), .ref (b 12 2), .ref (b 12 3), .ref (b 12 4), .ref (b 12 5), .ref (b 12 6), .ref (b 12 7), iv (M 12 8 0)].set 8 (iv v))) = WW g a b (mset M 12 8 0 v) := rfl
set_option maxRecDepth 4000 in
theorem sA_13_0 {g : GT} {a : Nat → Nat} {b : Nat → Nat → Nat} {M : Mem} {i : Nat} {v : Int} : (WW g a b M).set 62 (b 13 0, .inl (g.1, 24, .inl (fI (mset M 13 0 i v) 13 0))) = WW g a b (mset M 13 0 i v) := rfl
set_option maxRecDepth 4000 in
theorem sA_13_1 {g : GT} {a : Nat → Nat} {b : Nat → Nat → Nat} {M : Mem} {i : Nat} {v : Int} : (WW g a b M).set 63 (b 13 1, .inl (g.1, 24, .inl (fI (mset M 13 1 i v) 13 1))) = WW g a b (mset M 13 1 i v) := rfl
set_option maxRecDepth 4000 in
theorem sA_13_2 {g : GT} {a : Nat → Nat} {b : Nat → Nat → Nat} {M : Mem} {i : Nat} {v : Int} : (WW g a b M).set 64 (b 13 2, .inl (g.1, 24, .inl (fI (mset M 13 2 i v) 13 2))) = WW g a b (mset M 13 2 i v) := rfl
set_option maxRecDepth 4000 in
theorem sA_13_3 {g : GT} {a : Nat → Nat} {b : Nat → Nat → Nat} {M : Mem} {i : Nat} {v : Int} : (WW g a b M).set 65 (b 13 3, .inl (g.1, 24, .inl (fI (mset M 13 3 i v) 13 3))) = WW g a b (mset M 13 3 i v) := rfl
set_option maxRecDepth 4000 in
theorem sA_13_4 {g : GT} {a : Nat → Nat} {b : Nat → Nat → Nat} {M : Mem} {i : Nat} {v : Int} : (WW g a b M).set 66 (b 13 4, .inl (g.1, 24, .inl (fI (mset M 13 4 i v) 13 4))) = WW g a b (mset M 13 4 i v) := rfl
set_option maxRecDepth 4000 in
theorem sA_13_5 {g : GT} {a : Nat → Nat} {b : Nat → Nat → Nat} {M : Mem} {i : Nat} {v : Int} : (WW g a b M).set 67 (b 13 5, .inl (g.1, 2, .inl (fI (mset M 13 5 i v) 13 5))) = WW g a b (mset M 13 5 i v) := rfl
set_option maxRecDepth 4000 in
theorem sA_13_6 {g : GT} {a : Nat → Nat} {b : Nat → Nat → Nat} {M : Mem} {i : Nat} {v : Int} : (WW g a b M).set 68 (b 13 6, .inl (g.1, 12, .inl (fI (mset M 13 6 i v) 13 6))) = WW g a b (mset M 13 6 i v) := rfl
set_option maxRecDepth 4000 in
theorem sI_13_7 {g : GT} {a : Nat → Nat} {b : Nat → Nat → Nat} {M : Mem} {v : Int} : (WW g a b M).set 13 (a 13, .inr (11, [.ref (b 13 0), .ref (b 13 1), .ref (b 13 2), .ref (b 13 3), .ref (b 13 4), .ref (b 13 5), .ref (b 13 6), iv (M 13 7 0), .ref (b 13 8), .ref (b 13 9), .ref (b 13 10), .ref (b 13 11), .ref (b 13 12), .ref (b 13 13), .ref (b 13 14), .ref (b 13 15), iv (M 13 16 0), iv (M 13 17 0), .ref (b 13 18), .ref (b 13 19), iv (M 13 20 0), .ref (b 13 21), .ref (b 13 22), iv (M 13 23 0)].set 7 (iv v))) = WW g a b (mset M 13 7 0 v) := rfl
set_option maxRecDepth 4000 in
theorem sA_13_8 {g : GT} {a : Nat → Nat} {b : Nat → Nat → Nat} {M : Mem} {i : Nat} {v : Int} : (WW g a b M).set 69 (b 13 8, .inl (g.1, 28561, .inl (fI (mset M 13 8 i v) 13 8))) = WW g a b (mset M 13 8 i v) := rfl
set_option maxRecDepth 4000 in
theorem sA_13_9 {g : GT} {a : Nat → Nat} {b : Nat → Nat → Nat} {M : Mem} {i : Nat} {v : Int} : (WW g a b M).set 70 (b 13 9, .inl (g.1, 12, .inl (fI (mset M 13 9 i v) 13 9))) = WW g a b (mset M 13 9 i v) := rfl
set_option maxRecDepth 4000 in
theorem sA_13_10 {g : GT} {a : Nat → Nat} {b : Nat → Nat → Nat} {M : Mem} {i : Nat} {v : Int} : (WW g a b M).set 71 (b 13 10, .inl (g.1, 12, .inl (fI (mset M 13 10 i v) 13 10))) = WW g a b (mset M 13 10 i v) := rfl
set_option maxRecDepth 4000 in
theorem sA_13_11 {g : GT} {a : Nat → Nat} {b : Nat → Nat → Nat} {M : Mem} {i : Nat} {v : Int} : (WW g a b M).set 72 (b 13 11, .inl (g.2.1, 12, .inl (fI (mset M 13 11 i v) 13 11))) = WW g a b (mset M 13 11 i v) := rfl
set_option maxRecDepth 4000 in
theorem sA_13_12 {g : GT} {a : Nat → Nat} {b : Nat → Nat → Nat} {M : Mem} {i : Nat} {v : Int} : (WW g a b M).set 73 (b 13 12, .inl (g.2.1, 12, .inl (fI (mset M 13 12 i v) 13 12))) = WW g a b (mset M 13 12 i v) := rfl
set_option maxRecDepth 4000 in
theorem sA_13_13 {g : GT} {a : Nat → Nat} {b : Nat → Nat → Nat} {M : Mem} {i : Nat} {v : Int} : (WW g a b M).set 74 (b 13 13, .inl (g.1, 96, .inl (fI (mset M 13 13 i v) 13 13))) = WW g a b (mset M 13 13 i v) := rfl
set_option maxRecDepth 4000 in
theorem sA_13_14 {g : GT} {a : Nat → Nat} {b : Nat → Nat → Nat} {M : Mem} {i : Nat} {v : Int} : (WW g a b M).set 75 (b 13 14, .inl (g.1, 24, .inl (fI (mset M 13 14 i v) 13 14))) = WW g a b (mset M 13 14 i v) := rfl
set_option maxRecDepth 4000 in
theorem sA_13_15 {g : GT} {a : Nat → Nat} {b : Nat → Nat → Nat} {M : Mem} {i : Nat} {v : Int} : (WW g a b M).set 76 (b 13 15, .inl (g.1, 24, .inl (fI (mset M 13 15 i v) 13 15))) = WW g a b (mset M 13 15 i v) := rfl
set_option maxRecDepth 4000 in
theorem sI_13_16 {g : GT} {a : Nat → Nat} {b : Nat → Nat → Nat} {M : Mem} {v : Int} : (WW g a b M).set 13 (a 13, .inr (11, [.ref (b 13 0), .ref (b 13 1), .ref (b 13 2), .ref (b 13 3), .ref (b 13 4), .ref (b 13 5), .ref (b 13 6), iv (M 13 7 0), .ref (b 13 8), .ref (b 13 9), .ref (b 13 10), .ref (b 13 11), .ref (b 13 12), .ref (b 13 13), .ref (b 13 14), .ref (b 13 15), iv (M 13 16 0), iv (M 13 17 0), .ref (b 13 18), .ref (b 13 19), iv (M 13 20 0), .ref (b 13 21), .ref (b 13 22), iv (M 13 23 0)].set 16 (iv v))) = WW g a b (mset M 13 16 0 v) := rfl
set_option maxRecDepth 4000 in
theorem sI_13_17 {g : GT} {a : Nat → Nat} {b : Nat → Nat → Nat} {M : Mem} {v : Int} : (WW g a b M).set 13 (a 13, .inr (11, [.ref (b 13 0), .ref (b 13 1), .ref (b 13 2), .ref (b 13 3), .ref (b 13 4), .ref (b 13 5), .ref (b 13 6), iv (M 13 7 0), .ref (b 13 8), .ref (b 13 9), .ref (b 13 10), .ref (b 13 11), .ref (b 13 12), .ref (b 13 13), .ref (b 13 14), .ref (b 13 15), iv (M 13 16 0), iv (M 13 17 0), .ref (b 13 18), .ref (b 13 19), iv (M 13 20 0), .ref (b 13 21), .ref (b 13 22), iv (M 13 23 0)].set 17 (iv v))) = WW g a b (mset M 13 17 0 v) := rfl
set_option maxRecDepth 4000 in
theorem sA_13_18 {g : GT} {a : Nat → Nat} {b : Nat → Nat → Nat} {M : Mem} {i : Nat} {v : Int} : (WW g a b M).set 77 (b 13 18, .inl (g.1, 12, .inl (fI (mset M 13 18 i v) 13 18))) = WW g a b (mset M 13 18 i v) := rfl
set_option maxRecDepth 4000 in
theorem sA_13_19 {g : GT} {a : Nat → Nat} {b : Nat → Nat → Nat} {M : Mem} {i : Nat} {v : Int} : (WW g a b M).set 78 (b 13 19, .inl (g.1, 12, .inl (fI (mset M 13 19 i v) 13 19))) = WW g a b (mset M 13 19 i v) := rfl
set_option maxRecDepth 4000 in
theorem sI_13_20 {g : GT} {a : Nat → Nat} {b : Nat → Nat → Nat} {M : Mem} {v : Int} : (WW g a b M).set 13 (a 13, .inr (11, [.ref (b 13 0), .ref (b 13 1), .ref (b 13 2), .ref (b 13 3), .ref (b 13 4), .ref (b 13 5), .ref (b 13 6), iv (M 13 7 0), .ref (b 13 8), .ref (b 13 9), .ref (b 13 10), .ref (b 13 11), .ref (b 13 12), .ref (b 13 13), .ref (b 13 14), .ref (b 13 15), iv (M 13 16 0), iv (M 13 17 0), .ref (b 13 18), .ref (b 13 19), iv (M 13 20 0), .ref (b 13 21), .ref (b 13 22), iv (M 13 23 0)].set 20 (iv v))) = WW g a b (mset M 13 20 0 v) := rfl
set_option maxRecDepth 4000 in
theorem sA_13_21 {g : GT} {a : Nat → Nat} {b : Nat → Nat → Nat} {M : Mem} {i : Nat} {v : Int} : (WW g a b M).set 79 (b 13 21, .inl (g.1, 144, .inl (fI (mset M 13 21 i v) 13 21))) = WW g a b (mset M 13 21 i v) := rfl
set_option maxRecDepth 4000 in
theorem sA_13_22 {g : GT} {a : Nat → Nat} {b : Nat → Nat → Nat} {M : Mem} {i : Nat} {v : Int} : (WW g a b M).set 80 (b 13 22, .inl (g.1, 13, .inl (fI (mset M 13 22 i v) 13 22))) = WW g a b (mset M 13 22 i v) := rfl
set_option maxRecDepth 4000 in
theorem sI_13_23 {g : GT} {a : Nat → Nat} {b : Nat → Nat → Nat} {M : Mem} {v : Int} : (WW g a b M).set 13 (a 13, .inr (11, [.ref (b 13 0), .ref (b 13 1), .ref (b 13 2), .ref (b 13 3), .ref (b 13 4), .ref (b 13 5), .ref (b 13 6), iv (M 13 7 0), .ref (b 13 8), .ref (b 13 9), .ref (b 13 10), .ref (b 13 11), .ref (b 13 12), .ref (b 13 13), .ref (b 13 14), .ref (b 13 15), iv (M 13 16 0), iv (M 13 17 0), .ref (b 13 18), .ref (b 13 19), iv (M 13 20 0), .ref (b 13 21), .ref (b 13 22), iv (M 13 23 0)].set 23 (iv v))) = WW g a b (mset M 13 23 0 v) := rfl
set_option maxRecDepth 4000 in
theorem sA_14_0 {g : GT} {a : Nat → Nat} {b : Nat → Nat → Nat} {M : Mem} {v : Int} : (WW g a b M).set 81 (b 14 0, .inl (g.2.2, 1, .inr (.inl (fun i => Int64.ofInt (mset M 14 0 0 v 14 0 i))))) = WW g a b (mset M 14 0 0 v) := rfl
def isR (o : Nat) : Prop := o = 9 ∨ o = 10
abbrev pRO (o : Nat) : Nat := if o = 9 then 9 else 10
theorem gRO {g : GT} {a : Nat → Nat} {b : Nat → Nat → Nat} {M : Mem} {o : Nat} (h : isR o) : (WW g a b M)[pRO o]? = some (a o, .inr (6, [.ref (b o 0), .ref (b o 1), .ref (b o 2), .ref (b o 3), .ref (b o 4), iv (M o 5 0)])) := by rcases h with rfl | rfl <;> rfl
abbrev pR_0 (o : Nat) : Nat := if o = 9 then 36 else 41
theorem gR_0 {g : GT} {a : Nat → Nat} {b : Nat → Nat → Nat} {M : Mem} {o : Nat} (h : isR o) : (WW g a b M)[pR_0 o]? = some (b o 0, .inl (g.1, 12, .inl (fI M o 0))) := by rcases h with rfl | rfl <;> rfl
theorem sR_0 {g : GT} {a : Nat → Nat} {b : Nat → Nat → Nat} {M : Mem} {o i : Nat} {v : Int} (h : isR o) : (WW g a b M).set (pR_0 o) (b o 0, .inl (g.1, 12, .inl (fI (mset M o 0 i v) o 0))) = WW g a b (mset M o 0 i v) := by rcases h with rfl | rfl; exact sA_9_0; exact sA_10_0
abbrev pR_1 (o : Nat) : Nat := if o = 9 then 37 else 42
theorem gR_1 {g : GT} {a : Nat → Nat} {b : Nat → Nat → Nat} {M : Mem} {o : Nat} (h : isR o) : (WW g a b M)[pR_1 o]? = some (b o 1, .inl (g.1, 12, .inl (fI M o 1))) := by rcases h with rfl | rfl <;> rfl
theorem sR_1 {g : GT} {a : Nat → Nat} {b : Nat → Nat → Nat} {M : Mem} {o i : Nat} {v : Int} (h : isR o) : (WW g a b M).set (pR_1 o) (b o 1, .inl (g.1, 12, .inl (fI (mset M o 1 i v) o 1))) = WW g a b (mset M o 1 i v) := by rcases h with rfl | rfl; exact sA_9_1; exact sA_10_1
abbrev pR_2 (o : Nat) : Nat := if o = 9 then 38 else 43
theorem gR_2 {g : GT} {a : Nat → Nat} {b : Nat → Nat → Nat} {M : Mem} {o : Nat} (h : isR o) : (WW g a b M)[pR_2 o]? = some (b o 2, .inl (g.2.1, 12, .inl (fI M o 2))) := by rcases h with rfl | rfl <;> rfl
theorem sR_2 {g : GT} {a : Nat → Nat} {b : Nat → Nat → Nat} {M : Mem} {o i : Nat} {v : Int} (h : isR o) : (WW g a b M).set (pR_2 o) (b o 2, .inl (g.2.1, 12, .inl (fI (mset M o 2 i v) o 2))) = WW g a b (mset M o 2 i v) := by rcases h with rfl | rfl; exact sA_9_2; exact sA_10_2
abbrev pR_3 (o : Nat) : Nat := if o = 9 then 39 else 44
theorem gR_3 {g : GT} {a : Nat → Nat} {b : Nat → Nat → Nat} {M : Mem} {o : Nat} (h : isR o) : (WW g a b M)[pR_3 o]? = some (b o 3, .inl (g.1, 12, .inl (fI M o 3))) := by rcases h with rfl | rfl <;> rfl
theorem sR_3 {g : GT} {a : Nat → Nat} {b : Nat → Nat → Nat} {M : Mem} {o i : Nat} {v : Int} (h : isR o) : (WW g a b M).set (pR_3 o) (b o 3, .inl (g.1, 12, .inl (fI (mset M o 3 i v) o 3))) = WW g a b (mset M o 3 i v) := by rcases h with rfl | rfl; exact sA_9_3; exact sA_10_3
abbrev pR_4 (o : Nat) : Nat := if o = 9 then 40 else 45
theorem gR_4 {g : GT} {a : Nat → Nat} {b : Nat → Nat → Nat} {M : Mem} {o : Nat} (h : isR o) : (WW g a b M)[pR_4 o]? = some (b o 4, .inl (g.1, 13, .inl (fI M o 4))) := by rcases h with rfl | rfl <;> rfl
theorem sR_4 {g : GT} {a : Nat → Nat} {b : Nat → Nat → Nat} {M : Mem} {o i : Nat} {v : Int} (h : isR o) : (WW g a b M).set (pR_4 o) (b o 4, .inl (g.1, 13, .inl (fI (mset M o 4 i v) o 4))) = WW g a b (mset M o 4 i v) := by rcases h with rfl | rfl; exact sA_9_4; exact sA_10_4
theorem sRI_5 {g : GT} {a : Nat → Nat} {b : Nat → Nat → Nat} {M : Mem} {o : Nat} {v : Int} (h : isR o) : (WW g a b M).set (pRO o) (a o, .inr (6, [.ref (b o 0), .ref (b o 1), .ref (b o 2), .ref (b o 3), .ref (b o 4), iv (M o 5 0)].set 5 (iv v))) = WW g a b (mset M o 5 0 v) := by rcases h with rfl | rfl; exact sI_9_5; exact sI_10_5
def isT (o : Nat) : Prop := o = 11 ∨ o = 12
abbrev pTO (o : Nat) : Nat := if o = 11 then 11 else 12
theorem gTO {g : GT} {a : Nat → Nat} {b : Nat → Nat → Nat} {M : Mem} {o : Nat} (h : isT o) : (WW g a b M)[pTO o]? = some (a o, .inr (9, [.ref (b o 0), .ref (b o 1), .ref (b o 2), .ref (b o 3), .ref (b o 4), .ref (b o 5), .ref (b o 6), .ref (b o 7), iv (M o 8 0)])) := by rcases h with rfl | rfl <;> rfl
abbrev pT_0 (o : Nat) : Nat := if o = 11 then 46 else 54
theorem gT_0 {g : GT} {a : Nat → Nat} {b : Nat → Nat → Nat} {M : Mem} {o : Nat} (h : isT o) : (WW g a b M)[pT_0 o]? = some (b o 0, .inl (g.1, 12, .inl (fI M o 0))) := by rcases h with rfl | rfl <;> rfl
theorem sT_0 {g : GT} {a : Nat → Nat} {b : Nat → Nat → Nat} {M : Mem} {o i : Nat} {v : Int} (h : isT o) : (WW g a b M).set (pT_0 o) (b o 0, .inl (g.1, 12, .inl (fI (mset M o 0 i v) o 0))) = WW g a b (mset M o 0 i v) := by rcases h with rfl | rfl; exact sA_11_0; exact sA_12_0
abbrev pT_1 (o : Nat) : Nat := if o = 11 then 47 else 55
theorem gT_1 {g : GT} {a : Nat → Nat} {b : Nat → Nat → Nat} {M : Mem} {o : Nat} (h : isT o) : (WW g a b M)[pT_1 o]? = some (b o 1, .inl (g.1, 12, .inl (fI M o 1))) := by rcases h with rfl | rfl <;> rfl
theorem sT_1 {g : GT} {a : Nat → Nat} {b : Nat → Nat → Nat} {M : Mem} {o i : Nat} {v : Int} (h : isT o) : (WW g a b M).set (pT_1 o) (b o 1, .inl (g.1, 12, .inl (fI (mset M o 1 i v) o 1))) = WW g a b (mset M o 1 i v) := by rcases h with rfl | rfl; exact sA_11_1; exact sA_12_1
abbrev pT_2 (o : Nat) : Nat := if o = 11 then 48 else 56
theorem gT_2 {g : GT} {a : Nat → Nat} {b : Nat → Nat → Nat} {M : Mem} {o : Nat} (h : isT o) : (WW g a b M)[pT_2 o]? = some (b o 2, .inl (g.1, 12, .inl (fI M o 2))) := by rcases h with rfl | rfl <;> rfl
theorem sT_2 {g : GT} {a : Nat → Nat} {b : Nat → Nat → Nat} {M : Mem} {o i : Nat} {v : Int} (h : isT o) : (WW g a b M).set (pT_2 o) (b o 2, .inl (g.1, 12, .inl (fI (mset M o 2 i v) o 2))) = WW g a b (mset M o 2 i v) := by rcases h with rfl | rfl; exact sA_11_2; exact sA_12_2
abbrev pT_3 (o : Nat) : Nat := if o = 11 then 49 else 57
theorem gT_3 {g : GT} {a : Nat → Nat} {b : Nat → Nat → Nat} {M : Mem} {o : Nat} (h : isT o) : (WW g a b M)[pT_3 o]? = some (b o 3, .inl (g.1, 12, .inl (fI M o 3))) := by rcases h with rfl | rfl <;> rfl
theorem sT_3 {g : GT} {a : Nat → Nat} {b : Nat → Nat → Nat} {M : Mem} {o i : Nat} {v : Int} (h : isT o) : (WW g a b M).set (pT_3 o) (b o 3, .inl (g.1, 12, .inl (fI (mset M o 3 i v) o 3))) = WW g a b (mset M o 3 i v) := by rcases h with rfl | rfl; exact sA_11_3; exact sA_12_3
abbrev pT_4 (o : Nat) : Nat := if o = 11 then 50 else 58
theorem gT_4 {g : GT} {a : Nat → Nat} {b : Nat → Nat → Nat} {M : Mem} {o : Nat} (h : isT o) : (WW g a b M)[pT_4 o]? = some (b o 4, .inl (g.1, 12, .inl (fI M o 4))) := by rcases h with rfl | rfl <;> rfl
theorem sT_4 {g : GT} {a : Nat → Nat} {b : Nat → Nat → Nat} {M : Mem} {o i : Nat} {v : Int} (h : isT o) : (WW g a b M).set (pT_4 o) (b o 4, .inl (g.1, 12, .inl (fI (mset M o 4 i v) o 4))) = WW g a b (mset M o 4 i v) := by rcases h with rfl | rfl; exact sA_11_4; exact sA_12_4
abbrev pT_5 (o : Nat) : Nat := if o = 11 then 51 else 59
theorem gT_5 {g : GT} {a : Nat → Nat} {b : Nat → Nat → Nat} {M : Mem} {o : Nat} (h : isT o) : (WW g a b M)[pT_5 o]? = some (b o 5, .inl (g.1, 12, .inl (fI M o 5))) := by rcases h with rfl | rfl <;> rfl
theorem sT_5 {g : GT} {a : Nat → Nat} {b : Nat → Nat → Nat} {M : Mem} {o i : Nat} {v : Int} (h : isT o) : (WW g a b M).set (pT_5 o) (b o 5, .inl (g.1, 12, .inl (fI (mset M o 5 i v) o 5))) = WW g a b (mset M o 5 i v) := by rcases h with rfl | rfl; exact sA_11_5; exact sA_12_5
abbrev pT_6 (o : Nat) : Nat := if o = 11 then 52 else 60
theorem gT_6 {g : GT} {a : Nat → Nat} {b : Nat → Nat → Nat} {M : Mem} {o : Nat} (h : isT o) : (WW g a b M)[pT_6 o]? = some (b o 6, .inl (g.1, 12, .inl (fI M o 6))) := by rcases h with rfl | rfl <;> rfl
theorem sT_6 {g : GT} {a : Nat → Nat} {b : Nat → Nat → Nat} {M : Mem} {o i : Nat} {v : Int} (h : isT o) : (WW g a b M).set (pT_6 o) (b o 6, .inl (g.1, 12, .inl (fI (mset M o 6 i v) o 6))) = WW g a b (mset M o 6 i v) := by rcases h with rfl | rfl; exact sA_11_6; exact sA_12_6
abbrev pT_7 (o : Nat) : Nat := if o = 11 then 53 else 61
theorem gT_7 {g : GT} {a : Nat → Nat} {b : Nat → Nat → Nat} {M : Mem} {o : Nat} (h : isT o) : (WW g a b M)[pT_7 o]? = some (b o 7, .inl (g.1, 12, .inl (fI M o 7))) := by rcases h with rfl | rfl <;> rfl
theorem sT_7 {g : GT} {a : Nat → Nat} {b : Nat → Nat → Nat} {M : Mem} {o i : Nat} {v : Int} (h : isT o) : (WW g a b M).set (pT_7 o) (b o 7, .inl (g.1, 12, .inl (fI (mset M o 7 i v) o 7))) = WW g a b (mset M o 7 i v) := by rcases h with rfl | rfl; exact sA_11_7; exact sA_12_7
theorem sTI_8 {g : GT} {a : Nat → Nat} {b : Nat → Nat → Nat} {M : Mem} {o : Nat} {v : Int} (h : isT o) : (WW g a b M).set (pTO o) (a o, .inr (9, [.ref (b o 0), .ref (b o 1), .ref (b o 2), .ref (b o 3), .ref (b o 4), .ref (b o 5), .ref (b o 6), .ref (b o 7), iv (M o 8 0)].set 8 (iv v))) = WW g a b (mset M o 8 0 v) := by rcases h with rfl | rfl; exact sI_11_8; exact sI_12_8
abbrev pos83 : Nat := 35
def mcopy (M : Mem) (o k o2 k2 n : Nat) : Mem := fun o1 k1 i1 => if o1 = o2 ∧ k1 = k2 ∧ i1 < n then M o k i1 else M o1 k1 i1
set_option maxRecDepth 4000 in
theorem sC_83 {g : GT} {a : Nat → Nat} {b : Nat → Nat → Nat} {M : Mem} {o k n : Nat} : (WW g a b M).set 35 (b 8 3, .inl (g.1, 12, .inl (fI (mcopy M o k 8 3 n) 8 3))) = WW g a b (mcopy M o k 8 3 n) := rfl
theorem arr_1_0 : isArr 14 1 0 4 := ⟨fun _ _ _ _ => gA_1_0, fun _ _ _ _ _ _ => sA_1_0, by decide⟩
theorem arr_1_1 : isArr 15 1 1 4 := ⟨fun _ _ _ _ => gA_1_1, fun _ _ _ _ _ _ => sA_1_1, by decide⟩
theorem arr_1_2 : isArr 16 1 2 4 := ⟨fun _ _ _ _ => gA_1_2, fun _ _ _ _ _ _ => sA_1_2, by decide⟩
theorem arr_2_3 : isArr 17 2 3 144 := ⟨fun _ _ _ _ => gA_2_3, fun _ _ _ _ _ _ => sA_2_3, by decide⟩
theorem arr_3_1 : isArr 18 3 1 144 := ⟨fun _ _ _ _ => gA_3_1, fun _ _ _ _ _ _ => sA_3_1, by decide⟩
theorem arr_3_2 : isArr 19 3 2 169 := ⟨fun _ _ _ _ => gA_3_2, fun _ _ _ _ _ _ => sA_3_2, by decide⟩
theorem arr_4_1 : isArr 20 4 1 6084 := ⟨fun _ _ _ _ => gA_4_1, fun _ _ _ _ _ _ => sA_4_1, by decide⟩
theorem arr_5_1 : isArr 21 5 1 144 := ⟨fun _ _ _ _ => gA_5_1, fun _ _ _ _ _ _ => sA_5_1, by decide⟩
theorem arr_5_2 : isArr 22 5 2 169 := ⟨fun _ _ _ _ => gA_5_2, fun _ _ _ _ _ _ => sA_5_2, by decide⟩
theorem arr_5_3 : isArr 23 5 3 12 := ⟨fun _ _ _ _ => gA_5_3, fun _ _ _ _ _ _ => sA_5_3, by decide⟩
theorem arr_5_4 : isArr 24 5 4 12 := ⟨fun _ _ _ _ => gA_5_4, fun _ _ _ _ _ _ => sA_5_4, by decide⟩
theorem arr_6_2 : isArr 25 6 2 12 := ⟨fun _ _ _ _ => gA_6_2, fun _ _ _ _ _ _ => sA_6_2, by decide⟩
theorem arr_6_3 : isArr 26 6 3 12 := ⟨fun _ _ _ _ => gA_6_3, fun _ _ _ _ _ _ => sA_6_3, by decide⟩
theorem arr_6_4 : isArr 27 6 4 12 := ⟨fun _ _ _ _ => gA_6_4, fun _ _ _ _ _ _ => sA_6_4, by decide⟩
theorem arr_6_5 : isArr 28 6 5 12 := ⟨fun _ _ _ _ => gA_6_5, fun _ _ _ _ _ _ => sA_6_5, by decide⟩
theorem arr_6_6 : isArr 29 6 6 12 := ⟨fun _ _ _ _ => gA_6_6, fun _ _ _ _ _ _ => sA_6_6, by decide⟩
theorem arr_7_2 : isArr 30 7 2 24 := ⟨fun _ _ _ _ => gA_7_2, fun _ _ _ _ _ _ => sA_7_2, by decide⟩
theorem arr_7_3 : isArr 31 7 3 24 := ⟨fun _ _ _ _ => gA_7_3, fun _ _ _ _ _ _ => sA_7_3, by decide⟩
theorem arr_7_7 : isArr 33 7 7 12 := ⟨fun _ _ _ _ => gA_7_7, fun _ _ _ _ _ _ => sA_7_7, by decide⟩
theorem arr_8_2 : isArr 34 8 2 12 := ⟨fun _ _ _ _ => gA_8_2, fun _ _ _ _ _ _ => sA_8_2, by decide⟩
theorem arr_8_3 : isArr 35 8 3 12 := ⟨fun _ _ _ _ => gA_8_3, fun _ _ _ _ _ _ => sA_8_3, by decide⟩
theorem arr_9_0 : isArr 36 9 0 12 := ⟨fun _ _ _ _ => gA_9_0, fun _ _ _ _ _ _ => sA_9_0, by decide⟩
theorem arr_9_1 : isArr 37 9 1 12 := ⟨fun _ _ _ _ => gA_9_1, fun _ _ _ _ _ _ => sA_9_1, by decide⟩
theorem arr_9_3 : isArr 39 9 3 12 := ⟨fun _ _ _ _ => gA_9_3, fun _ _ _ _ _ _ => sA_9_3, by decide⟩
theorem arr_9_4 : isArr 40 9 4 13 := ⟨fun _ _ _ _ => gA_9_4, fun _ _ _ _ _ _ => sA_9_4, by decide⟩
theorem arr_10_0 : isArr 41 10 0 12 := ⟨fun _ _ _ _ => gA_10_0, fun _ _ _ _ _ _ => sA_10_0, by decide⟩
theorem arr_10_1 : isArr 42 10 1 12 := ⟨fun _ _ _ _ => gA_10_1, fun _ _ _ _ _ _ => sA_10_1, by decide⟩
theorem arr_10_3 : isArr 44 10 3 12 := ⟨fun _ _ _ _ => gA_10_3, fun _ _ _ _ _ _ => sA_10_3, by decide⟩
theorem arr_10_4 : isArr 45 10 4 13 := ⟨fun _ _ _ _ => gA_10_4, fun _ _ _ _ _ _ => sA_10_4, by decide⟩
theorem arr_11_0 : isArr 46 11 0 12 := ⟨fun _ _ _ _ => gA_11_0, fun _ _ _ _ _ _ => sA_11_0, by decide⟩
theorem arr_11_1 : isArr 47 11 1 12 := ⟨fun _ _ _ _ => gA_11_1, fun _ _ _ _ _ _ => sA_11_1, by decide⟩
theorem arr_11_2 : isArr 48 11 2 12 := ⟨fun _ _ _ _ => gA_11_2, fun _ _ _ _ _ _ => sA_11_2, by decide⟩
theorem arr_11_3 : isArr 49 11 3 12 := ⟨fun _ _ _ _ => gA_11_3, fun _ _ _ _ _ _ => sA_11_3, by decide⟩
theorem arr_11_4 : isArr 50 11 4 12 := ⟨fun _ _ _ _ => gA_11_4, fun _ _ _ _ _ _ => sA_11_4, by decide⟩
theorem arr_11_5 : isArr 51 11 5 12 := ⟨fun _ _ _ _ => gA_11_5, fun _ _ _ _ _ _ => sA_11_5, by decide⟩
theorem arr_11_6 : isArr 52 11 6 12 := ⟨fun _ _ _ _ => gA_11_6, fun _ _ _ _ _ _ => sA_11_6, by decide⟩
theorem arr_11_7 : isArr 53 11 7 12 := ⟨fun _ _ _ _ => gA_11_7, fun _ _ _ _ _ _ => sA_11_7, by decide⟩
theorem arr_12_0 : isArr 54 12 0 12 := ⟨fun _ _ _ _ => gA_12_0, fun _ _ _ _ _ _ => sA_12_0, by decide⟩
theorem arr_12_1 : isArr 55 12 1 12 := ⟨fun _ _ _ _ => gA_12_1, fun _ _ _ _ _ _ => sA_12_1, by decide⟩
theorem arr_12_2 : isArr 56 12 2 12 := ⟨fun _ _ _ _ => gA_12_2, fun _ _ _ _ _ _ => sA_12_2, by decide⟩
theorem arr_12_3 : isArr 57 12 3 12 := ⟨fun _ _ _ _ => gA_12_3, fun _ _ _ _ _ _ => sA_12_3, by decide⟩
theorem arr_12_4 : isArr 58 12 4 12 := ⟨fun _ _ _ _ => gA_12_4, fun _ _ _ _ _ _ => sA_12_4, by decide⟩
theorem arr_12_5 : isArr 59 12 5 12 := ⟨fun _ _ _ _ => gA_12_5, fun _ _ _ _ _ _ => sA_12_5, by decide⟩
theorem arr_12_6 : isArr 60 12 6 12 := ⟨fun _ _ _ _ => gA_12_6, fun _ _ _ _ _ _ => sA_12_6, by decide⟩
theorem arr_12_7 : isArr 61 12 7 12 := ⟨fun _ _ _ _ => gA_12_7, fun _ _ _ _ _ _ => sA_12_7, by decide⟩
theorem arr_13_0 : isArr 62 13 0 24 := ⟨fun _ _ _ _ => gA_13_0, fun _ _ _ _ _ _ => sA_13_0, by decide⟩
theorem arr_13_1 : isArr 63 13 1 24 := ⟨fun _ _ _ _ => gA_13_1, fun _ _ _ _ _ _ => sA_13_1, by decide⟩
theorem arr_13_2 : isArr 64 13 2 24 := ⟨fun _ _ _ _ => gA_13_2, fun _ _ _ _ _ _ => sA_13_2, by decide⟩
theorem arr_13_3 : isArr 65 13 3 24 := ⟨fun _ _ _ _ => gA_13_3, fun _ _ _ _ _ _ => sA_13_3, by decide⟩
theorem arr_13_4 : isArr 66 13 4 24 := ⟨fun _ _ _ _ => gA_13_4, fun _ _ _ _ _ _ => sA_13_4, by decide⟩
theorem arr_13_5 : isArr 67 13 5 2 := ⟨fun _ _ _ _ => gA_13_5, fun _ _ _ _ _ _ => sA_13_5, by decide⟩
theorem arr_13_6 : isArr 68 13 6 12 := ⟨fun _ _ _ _ => gA_13_6, fun _ _ _ _ _ _ => sA_13_6, by decide⟩
theorem arr_13_8 : isArr 69 13 8 28561 := ⟨fun _ _ _ _ => gA_13_8, fun _ _ _ _ _ _ => sA_13_8, by decide⟩
theorem arr_13_9 : isArr 70 13 9 12 := ⟨fun _ _ _ _ => gA_13_9, fun _ _ _ _ _ _ => sA_13_9, by decide⟩
theorem arr_13_10 : isArr 71 13 10 12 := ⟨fun _ _ _ _ => gA_13_10, fun _ _ _ _ _ _ => sA_13_10, by decide⟩
theorem arr_13_13 : isArr 74 13 13 96 := ⟨fun _ _ _ _ => gA_13_13, fun _ _ _ _ _ _ => sA_13_13, by decide⟩
theorem arr_13_14 : isArr 75 13 14 24 := ⟨fun _ _ _ _ => gA_13_14, fun _ _ _ _ _ _ => sA_13_14, by decide⟩
theorem arr_13_15 : isArr 76 13 15 24 := ⟨fun _ _ _ _ => gA_13_15, fun _ _ _ _ _ _ => sA_13_15, by decide⟩
theorem arr_13_18 : isArr 77 13 18 12 := ⟨fun _ _ _ _ => gA_13_18, fun _ _ _ _ _ _ => sA_13_18, by decide⟩
theorem arr_13_19 : isArr 78 13 19 12 := ⟨fun _ _ _ _ => gA_13_19, fun _ _ _ _ _ _ => sA_13_19, by decide⟩
theorem arr_13_21 : isArr 79 13 21 144 := ⟨fun _ _ _ _ => gA_13_21, fun _ _ _ _ _ _ => sA_13_21, by decide⟩
theorem arr_13_22 : isArr 80 13 22 13 := ⟨fun _ _ _ _ => gA_13_22, fun _ _ _ _ _ _ => sA_13_22, by decide⟩
/-- the texts that the class throws with -/
def SRs : List (String × Nat × String) := [("TreeComparer", 96, "the tree is not empty"), ("TreeComparer", 113, "the tree is full"), ("TreeComparer", 271, "there is no such tree, node, kind, place or step"), ("TreeComparer", 276, "a label or a price is out of its range")]
/-- the words that the tables alone decide: nest mates, and castable -/
def NWs : List Cond := [.fieldLinkNest "TreeComparer$Given" 41 "TreeComparer$Tree" "kind" "[I" "TreeComparer",
  .fieldLinkNest "TreeComparer$Row" 48 "TreeComparer$Tree" "kind" "[I" "TreeComparer",
  .fieldLinkNest "TreeComparer$Script" 76 "TreeComparer$Tree" "kind" "[I" "TreeComparer",
  .fieldLinkNest "TreeComparer" 145 "TreeComparer$Tree" "kind" "[I" "TreeComparer",
  .fieldLinkNest "TreeComparer$Given" 45 "TreeComparer$Tree" "label" "[I" "TreeComparer",
  .fieldLinkNest "TreeComparer$Script" 64 "TreeComparer$Tree" "label" "[I" "TreeComparer",
  .fieldLinkNest "TreeComparer" 119 "TreeComparer$Tree" "label" "[I" "TreeComparer",
  .fieldLinkNest "TreeComparer" 142 "TreeComparer$Tree" "parent" "[I" "TreeComparer",
  .fieldLinkNest "TreeComparer$Row" 35 "TreeComparer$Tree" "preorder" "[I" "TreeComparer",
  .fieldLinkNest "TreeComparer$Moves" 59 "TreeComparer$Tree" "preorder" "[I" "TreeComparer",
  .fieldLinkNest "TreeComparer$Script" 61 "TreeComparer$Tree" "preorder" "[I" "TreeComparer",
  .fieldLinkNest "TreeComparer" 151 "TreeComparer$Tree" "preorder" "[I" "TreeComparer",
  .fieldLinkNest "TreeComparer$Script" 54 "TreeComparer$Tree" "postorder" "[I" "TreeComparer",
  .fieldLinkNest "TreeComparer$Row" 38 "TreeComparer$Tree" "postorder" "[I" "TreeComparer",
  .fieldLinkNest "TreeComparer" 154 "TreeComparer$Tree" "postorder" "[I" "TreeComparer",
  .fieldLinkNest "TreeComparer$Moves" 104 "TreeComparer$Tree" "prePlace" "[I" "TreeComparer",
  .fieldLinkNest "TreeComparer$Script" 92 "TreeComparer$Tree" "prePlace" "[I" "TreeComparer",
  .fieldLinkNest "TreeComparer$Row" 41 "TreeComparer$Tree" "size" "[I" "TreeComparer",
  .fieldLinkNest "TreeComparer" 157 "TreeComparer$Tree" "size" "[I" "TreeComparer",
  .fieldLinkNest "TreeComparer$Row" 28 "TreeComparer$Tree" "count" "I" "TreeComparer",
  .fieldLinkNest "TreeComparer" 88 "TreeComparer$Tree" "count" "I" "TreeComparer",
  .fieldLinkNest "TreeComparer$Script" 46 "TreeComparer$Tree" "count" "I" "TreeComparer",
  .fieldLinkNest "TreeComparer$Moves" 56 "TreeComparer$Tree" "count" "I" "TreeComparer",
  .fieldLinkNest "TreeComparer$Script" 73 "TreeComparer$Given" "inserting" "[I" "TreeComparer",
  .fieldLinkNest "TreeComparer$Moves" 98 "TreeComparer$Given" "inserting" "[I" "TreeComparer",
  .fieldLinkNest "TreeComparer$Layout" 47 "TreeComparer$Given" "inserting" "[I" "TreeComparer",
  .fieldLinkNest "TreeComparer" 130 "TreeComparer$Given" "inserting" "[I" "TreeComparer",
  .fieldLinkNest "TreeComparer$Moves" 91 "TreeComparer$Given" "deleting" "[I" "TreeComparer",
  .fieldLinkNest "TreeComparer$Layout" 38 "TreeComparer$Given" "deleting" "[I" "TreeComparer",
  .fieldLinkNest "TreeComparer$Script" 79 "TreeComparer$Given" "deleting" "[I" "TreeComparer",
  .fieldLinkNest "TreeComparer" 133 "TreeComparer$Given" "deleting" "[I" "TreeComparer",
  .fieldLinkNest "TreeComparer$Script" 82 "TreeComparer$Given" "relabelling" "[I" "TreeComparer",
  .fieldLinkNest "TreeComparer" 136 "TreeComparer$Given" "relabelling" "[I" "TreeComparer",
  .fieldLinkNest "TreeComparer$Moves" 101 "TreeComparer$Given" "movePrice" "I" "TreeComparer",
  .fieldLinkNest "TreeComparer" 139 "TreeComparer$Given" "movePrice" "I" "TreeComparer",
  .fieldLinkNest "TreeComparer$Script" 33 "TreeComparer$Given" "old" "LTreeComparer$Tree;" "TreeComparer",
  .fieldLinkNest "TreeComparer$Moves" 26 "TreeComparer$Given" "old" "LTreeComparer$Tree;" "TreeComparer",
  .fieldLinkNest "TreeComparer$Layout" 33 "TreeComparer$Given" "old" "LTreeComparer$Tree;" "TreeComparer",
  .fieldLinkNest "TreeComparer" 123 "TreeComparer$Given" "old" "LTreeComparer$Tree;" "TreeComparer",
  .fieldLinkNest "TreeComparer$Script" 39 "TreeComparer$Given" "current" "LTreeComparer$Tree;" "TreeComparer",
  .fieldLinkNest "TreeComparer$Moves" 80 "TreeComparer$Given" "current" "LTreeComparer$Tree;" "TreeComparer",
  .fieldLinkNest "TreeComparer$Layout" 45 "TreeComparer$Given" "current" "LTreeComparer$Tree;" "TreeComparer",
  .fieldLinkNest "TreeComparer" 127 "TreeComparer$Given" "current" "LTreeComparer$Tree;" "TreeComparer",
  .fieldLinkNest "TreeComparer$Layout" 54 "TreeComparer$Row" "node" "[I" "TreeComparer",
  .fieldLinkNest "TreeComparer$Mapping" 85 "TreeComparer$Row" "node" "[I" "TreeComparer",
  .fieldLinkNest "TreeComparer$KeyrootTable" 45 "TreeComparer$Row" "first" "[I" "TreeComparer",
  .fieldLinkNest "TreeComparer$ForestTable" 56 "TreeComparer$Row" "first" "[I" "TreeComparer",
  .fieldLinkNest "TreeComparer$TopDownTable" 68 "TreeComparer$Row" "first" "[I" "TreeComparer",
  .fieldLinkNest "TreeComparer$Mapping" 79 "TreeComparer$Row" "first" "[I" "TreeComparer",
  .fieldLinkNest "TreeComparer$KeyrootTable" 37 "TreeComparer$Row" "key" "[Z" "TreeComparer",
  .fieldLinkNest "TreeComparer$KeyrootTable" 48 "TreeComparer$Row" "alone" "[I" "TreeComparer",
  .fieldLinkNest "TreeComparer$ForestTable" 44 "TreeComparer$Row" "alone" "[I" "TreeComparer",
  .fieldLinkNest "TreeComparer$TopDownTable" 34 "TreeComparer$Row" "count" "I" "TreeComparer",
  .fieldLinkNest "TreeComparer$KeyrootTable" 31 "TreeComparer$Row" "count" "I" "TreeComparer",
  .fieldLinkNest "TreeComparer$Mapping" 47 "TreeComparer$Row" "count" "I" "TreeComparer",
  .fieldLinkNest "TreeComparer$Layout" 50 "TreeComparer$Row" "count" "I" "TreeComparer",
  .fieldLinkNest "TreeComparer" 180 "TreeComparer$Row" "count" "I" "TreeComparer",
  .fieldLinkNest "TreeComparer$KeyrootTable" 22 "TreeComparer$Layout" "old" "LTreeComparer$Row;" "TreeComparer",
  .fieldLinkNest "TreeComparer$TopDownTable" 28 "TreeComparer$Layout" "old" "LTreeComparer$Row;" "TreeComparer",
  .fieldLinkNest "TreeComparer$Mapping" 54 "TreeComparer$Layout" "old" "LTreeComparer$Row;" "TreeComparer",
  .fieldLinkNest "TreeComparer$ForestTable" 25 "TreeComparer$Layout" "old" "LTreeComparer$Row;" "TreeComparer",
  .fieldLinkNest "TreeComparer" 177 "TreeComparer$Layout" "old" "LTreeComparer$Row;" "TreeComparer",
  .fieldLinkNest "TreeComparer$KeyrootTable" 28 "TreeComparer$Layout" "current" "LTreeComparer$Row;" "TreeComparer",
  .fieldLinkNest "TreeComparer$TopDownTable" 40 "TreeComparer$Layout" "current" "LTreeComparer$Row;" "TreeComparer",
  .fieldLinkNest "TreeComparer$Mapping" 41 "TreeComparer$Layout" "current" "LTreeComparer$Row;" "TreeComparer",
  .fieldLinkNest "TreeComparer$ForestTable" 31 "TreeComparer$Layout" "current" "LTreeComparer$Row;" "TreeComparer",
  .fieldLinkNest "TreeComparer" 183 "TreeComparer$Layout" "current" "LTreeComparer$Row;" "TreeComparer",
  .fieldLinkNest "TreeComparer$TopDownTable" 43 "TreeComparer$Layout" "pairing" "[I" "TreeComparer",
  .fieldLinkNest "TreeComparer$ForestTable" 52 "TreeComparer$Layout" "pairing" "[I" "TreeComparer",
  .fieldLinkNest "TreeComparer$Mapping" 75 "TreeComparer$Layout" "pairing" "[I" "TreeComparer",
  .fieldLinkNest "TreeComparer$KeyrootTable" 61 "TreeComparer$Layout" "pairing" "[I" "TreeComparer",
  .fieldLinkNest "TreeComparer$Script" 49 "TreeComparer$Mapping" "toNew" "[I" "TreeComparer",
  .fieldLinkNest "TreeComparer$Moves" 73 "TreeComparer$Mapping" "toNew" "[I" "TreeComparer",
  .fieldLinkNest "TreeComparer" 210 "TreeComparer$Mapping" "toNew" "[I" "TreeComparer",
  .fieldLinkNest "TreeComparer$Moves" 38 "TreeComparer$Mapping" "toOld" "[I" "TreeComparer",
  .fieldLinkNest "TreeComparer$Script" 70 "TreeComparer$Mapping" "toOld" "[I" "TreeComparer",
  .fieldLinkNest "TreeComparer" 209 "TreeComparer$Mapping" "count" "I" "TreeComparer",
  .fieldLinkNest "TreeComparer" 218 "TreeComparer$Script" "edit" "[I" "TreeComparer",
  .fieldLinkNest "TreeComparer" 221 "TreeComparer$Script" "node" "[I" "TreeComparer",
  .fieldLinkNest "TreeComparer" 217 "TreeComparer$Script" "count" "I" "TreeComparer",
  .fieldLinkNest "TreeComparer" 234 "TreeComparer$Script" "shown" "[I" "TreeComparer",
  .fieldLinkNest "TreeComparer" 231 "TreeComparer$Script" "shownCount" "I" "TreeComparer",
  .fieldLinkNest "TreeComparer" 251 "TreeComparer$Moves" "target" "[I" "TreeComparer",
  .fieldLinkNest "TreeComparer" 250 "TreeComparer$Moves" "count" "I" "TreeComparer",
  .fieldLinkNest "TreeComparer" 254 "TreeComparer$Moves" "saved" "I" "TreeComparer",
  .methodLinkNest "TreeComparer" 9 ⟨"TreeComparer$Given", "<init>", "()V"⟩ "TreeComparer",
  .methodLinkNest "TreeComparer$Given" 33 ⟨"TreeComparer$Tree", "<init>", "()V"⟩ "TreeComparer",
  .methodLinkNest "TreeComparer" 18 ⟨"TreeComparer$Layout", "<init>", "(LTreeComparer$Given;)V"⟩ "TreeComparer",
  .methodLinkNest "TreeComparer$Layout" 11 ⟨"TreeComparer$Row", "<init>", "()V"⟩ "TreeComparer",
  .methodLinkNest "TreeComparer" 27 ⟨"TreeComparer$KeyrootTable", "<init>", "(LTreeComparer$Layout;)V"⟩ "TreeComparer",
  .methodLinkNest "TreeComparer" 36 ⟨"TreeComparer$ForestTable", "<init>", "(LTreeComparer$Layout;)V"⟩ "TreeComparer",
  .methodLinkNest "TreeComparer" 43 ⟨"TreeComparer$TopDownTable", "<init>", "(LTreeComparer$Layout;)V"⟩ "TreeComparer",
  .methodLinkNest "TreeComparer" 50 ⟨"TreeComparer$Mapping", "<init>", "(LTreeComparer$Layout;LTreeComparer$ForestTable;)V"⟩ "TreeComparer",
  .methodLinkNest "TreeComparer" 59 ⟨"TreeComparer$Script", "<init>", "(LTreeComparer$Given;LTreeComparer$Mapping;)V"⟩ "TreeComparer",
  .methodLinkNest "TreeComparer" 68 ⟨"TreeComparer$Moves", "<init>", "(LTreeComparer$Given;LTreeComparer$Mapping;)V"⟩ "TreeComparer",
  .methodLinkNest "TreeComparer" 164 ⟨"TreeComparer$Layout", "layPostorder", "()V"⟩ "TreeComparer",
  .methodLinkNest "TreeComparer$Layout" 41 ⟨"TreeComparer$Row", "fill", "(LTreeComparer$Tree;Z[I)V"⟩ "TreeComparer",
  .methodLinkNest "TreeComparer$Row" 44 ⟨"TreeComparer$Tree", "isKey", "(I)Z"⟩ "TreeComparer",
  .methodLinkNest "TreeComparer$Layout" 57 ⟨"TreeComparer$Given", "pairingPrice", "(II)I"⟩ "TreeComparer",
  .methodLinkNest "TreeComparer" 167 ⟨"TreeComparer$KeyrootTable", "solve", "()V"⟩ "TreeComparer",
  .methodLinkNest "TreeComparer" 170 ⟨"TreeComparer$KeyrootTable", "whole", "()I"⟩ "TreeComparer",
  .methodLinkNest "TreeComparer$KeyrootTable" 64 ⟨"TreeComparer$Layout", "withoutPairs", "()I"⟩ "TreeComparer",
  .methodLinkNest "TreeComparer$Layout" 62 ⟨"TreeComparer$Row", "allAlone", "(II)I"⟩ "TreeComparer",
  .methodLinkNest "TreeComparer" 174 ⟨"TreeComparer$ForestTable", "forget", "()V"⟩ "TreeComparer",
  .methodLinkNest "TreeComparer" 185 ⟨"TreeComparer$ForestTable", "least", "(LTreeComparer$ForestTable;IIIII)I"⟩ "TreeComparer",
  .methodLinkNest "TreeComparer$ForestTable" 34 ⟨"TreeComparer$Row", "allAlone", "(II)I"⟩ "TreeComparer",
  .methodLinkNest "TreeComparer" 198 ⟨"TreeComparer$TopDownTable", "solve", "()I"⟩ "TreeComparer",
  .methodLinkNest "TreeComparer$TopDownTable" 71 ⟨"TreeComparer$Row", "allAlone", "(II)I"⟩ "TreeComparer",
  .methodLinkNest "TreeComparer$TopDownTable" 51 ⟨"TreeComparer$Layout", "withoutPairs", "()I"⟩ "TreeComparer",
  .methodLinkNest "TreeComparer" 203 ⟨"TreeComparer$Layout", "withoutPairs", "()I"⟩ "TreeComparer",
  .methodLinkNest "TreeComparer" 257 ⟨"TreeComparer$Layout", "layPreorderBackwards", "()V"⟩ "TreeComparer",
  .methodLinkNest "TreeComparer" 260 ⟨"TreeComparer$Mapping", "choose", "()V"⟩ "TreeComparer",
  .methodLinkNest "TreeComparer$Mapping" 65 ⟨"TreeComparer$ForestTable", "least", "(LTreeComparer$ForestTable;IIIII)I"⟩ "TreeComparer",
  .methodLinkNest "TreeComparer$Mapping" 82 ⟨"TreeComparer$Row", "allAlone", "(II)I"⟩ "TreeComparer",
  .methodLinkNest "TreeComparer" 263 ⟨"TreeComparer$Script", "write", "()V"⟩ "TreeComparer",
  .methodLinkNest "TreeComparer" 266 ⟨"TreeComparer$Moves", "find", "()V"⟩ "TreeComparer",
  .methodLinkNest "TreeComparer$Moves" 76 ⟨"TreeComparer$Tree", "isUnmarked", "(I[I)Z"⟩ "TreeComparer",
  .methodLinkNest "TreeComparer$Moves" 83 ⟨"TreeComparer$Tree", "sameSubtrees", "(LTreeComparer$Tree;ILTreeComparer$Tree;I)Z"⟩ "TreeComparer",
  .methodLinkNest "TreeComparer$Moves" 94 ⟨"TreeComparer$Tree", "subtreePrice", "(I[I)I"⟩ "TreeComparer",
  .methodLinkNest "TreeComparer$Moves" 70 ⟨"TreeComparer$Tree", "endOf", "(I)I"⟩ "TreeComparer",
  .methodLinkNest "TreeComparer" 247 ⟨"TreeComparer$Tree", "occursAmong", "(LTreeComparer$Tree;ILTreeComparer$Tree;I)Z"⟩ "TreeComparer",
  .methodLinkNest "TreeComparer" 101 ⟨"TreeComparer$Tree", "insert", "(IIII)V"⟩ "TreeComparer",
  .methodLinkNest "TreeComparer" 109 ⟨"TreeComparer$Tree", "childCount", "(I)I"⟩ "TreeComparer",
  .methodLinkNest "TreeComparer" 115 ⟨"TreeComparer$Tree", "spotFor", "(II)I"⟩ "TreeComparer",
  .methodLinkNest "TreeComparer" 148 ⟨"TreeComparer$Tree", "nthChild", "(II)I"⟩ "TreeComparer",
  .methodLinkNest "TreeComparer" 160 ⟨"TreeComparer$Tree", "isKey", "(I)Z"⟩ "TreeComparer",
  .methodLinkNest "TreeComparer" 192 ⟨"TreeComparer$Tree", "postPlace", "(I)I"⟩ "TreeComparer",
  .methodLinkNest "TreeComparer" 195 ⟨"TreeComparer$KeyrootTable", "between", "(II)I"⟩ "TreeComparer",
  .methodLinkNest "TreeComparer" 213 ⟨"TreeComparer$Layout", "favour", "(II)V"⟩ "TreeComparer",
  .methodLinkNest "TreeComparer" 224 ⟨"TreeComparer$Script", "priceOf", "(I)I"⟩ "TreeComparer",
  .methodLinkNest "TreeComparer" 227 ⟨"TreeComparer$Script", "showForest", "(I)V"⟩ "TreeComparer",
  .methodLinkNest "TreeComparer" 237 ⟨"TreeComparer$Script", "shownLabel", "(II)I"⟩ "TreeComparer",
  .methodLinkNest "TreeComparer" 240 ⟨"TreeComparer$Script", "shownDepth", "(II)I"⟩ "TreeComparer",
  .methodLinkNest "TreeComparer$Script" 95 ⟨"TreeComparer$Tree", "endOf", "(I)I"⟩ "TreeComparer",
  .methodLinkNest "TreeComparer" 243 ⟨"TreeComparer$Tree", "sameSubtrees", "(LTreeComparer$Tree;ILTreeComparer$Tree;I)Z"⟩ "TreeComparer",
  .castable "java/lang/IllegalArgumentException" "java/lang/IllegalArgumentException",
  .castable "java/lang/IllegalStateException" "java/lang/IllegalStateException",
  .castable "java/lang/IndexOutOfBoundsException" "java/lang/IndexOutOfBoundsException",
  .declares ⟨"java/lang/RuntimeException", "<init>", "(Ljava/lang/String;)V"⟩,
  .declares ⟨"java/lang/Exception", "<init>", "(Ljava/lang/String;)V"⟩,
  .declares ⟨"java/lang/Throwable", "<init>", "(Ljava/lang/String;)V"⟩]
