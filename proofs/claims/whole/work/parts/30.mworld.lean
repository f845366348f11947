/-! the model's cells: 0 the object, 1 .. 21 its arrays; its state: the rows S of a run, and E: 0 thrown, top, begun, trouble; 1 its stack -/
abbrev l6 (f : Nat → Int32) : Nat → Int64 := fun k => (f k).toInt64
def MW (ad : Nat → Nat) (ca : Nat → ClassId) (S E : Ss) : va_W := [
  (ad 0, .inr (4, [.int (E 0 0), .ref (ad 1), .ref (ad 2), .ref (ad 3), .ref (ad 4), .ref (ad 5), .ref (ad 6), .ref (ad 7), .ref (ad 8), .ref (ad 9), .ref (ad 10), .ref (ad 11), .ref (ad 12), .ref (ad 13), .int (S 0 0), .ref (ad 14), .ref (ad 15), .ref (ad 16), .ref (ad 17), .ref (ad 18), .ref (ad 19), .ref (ad 20), .ref (ad 21), .int (E 0 1), .int (S 0 1), .int (S 0 2), .int (S 0 3), .int (E 0 2), .int (E 0 3)])),
  (ad 1, .inl (ca 0, 32, .inl (S 1))), (ad 2, .inl (ca 1, 32, .inl (S 2))), (ad 3, .inl (ca 2, 8, .inl (S 3))), (ad 4, .inl (ca 3, 8, .inl (S 4))), (ad 5, .inl (ca 4, 8, .inr (.inl (l6 (S 5))))),
  (ad 6, .inl (ca 5, 10, .inl (S 14))), (ad 7, .inl (ca 6, 10, .inl (S 15))), (ad 8, .inl (ca 7, 10, .inl (S 16))), (ad 9, .inl (ca 8, 10, .inr (.inl (l6 (S 17))))), (ad 10, .inl (ca 9, 10, .inr (.inl (l6 (S 18))))),
  (ad 11, .inl (ca 10, 10, .inl (S 19))), (ad 12, .inl (ca 11, 10, .inl (S 20))), (ad 13, .inl (ca 12, 10, .inl (S 21))),
  (ad 14, .inl (ca 13, 120, .inl (S 6))), (ad 15, .inl (ca 14, 120, .inl (S 7))), (ad 16, .inl (ca 15, 12, .inl (S 8))), (ad 17, .inl (ca 16, 12, .inl (S 9))),
  (ad 18, .inl (ca 17, 120, .inl (S 10))), (ad 19, .inl (ca 18, 120, .inl (S 11))), (ad 20, .inl (ca 19, 12, .inl (S 12))), (ad 21, .inl (ca 20, 5, .inl (E 1)))]
def mT (ca : Nat → ClassId) : List (ClassId × FieldType) := [(ca 0, .int), (ca 1, .int), (ca 2, .int), (ca 3, .int), (ca 4, .long), (ca 5, .int), (ca 6, .int), (ca 7, .int), (ca 8, .long), (ca 9, .long), (ca 10, .int), (ca 11, .int), (ca 12, .int), (ca 13, .int), (ca 14, .int), (ca 15, .int), (ca 16, .int), (ca 17, .int), (ca 18, .int), (ca 19, .int), (ca 20, .int)]
theorem updL_i (f : Nat → Int32) (k : Nat) (y : Int32) : vp_updL (l6 f) k y.toInt64 = l6 (upd f k y) := by
  funext i
  unfold vp_updL l6 upd
  by_cases h : i = k
  · rw [if_pos h, if_pos h]
  · rw [if_neg h, if_neg h]
theorem fit_l {x : Int64} : (if x < -65536 then (-65536 : Int64) else if 65536 < x then 65536 else x) = (fitI x.toInt).toInt64 := by
  rw [← Int64.toInt_inj, Int32.toInt_toInt64]
  unfold fitI
  rw [Int32.toInt_ofInt_of_le (by omega) (by omega)]
  have e1 : (-65536 : Int64).toInt = -65536 := by decide
  have e2 : (65536 : Int64).toInt = 65536 := by decide
  by_cases h1 : x < -65536
  · rw [if_pos h1, e1]
    have := Int64.lt_iff_toInt_lt.mp h1
    omega
  · rw [if_neg h1]
    have h3 : ¬ x.toInt < (-65536 : Int64).toInt := fun z => h1 (Int64.lt_iff_toInt_lt.mpr z)
    by_cases h2 : 65536 < x
    · rw [if_pos h2, e2]
      have := Int64.lt_iff_toInt_lt.mp h2
      omega
    · rw [if_neg h2]
      have h4 : ¬ (65536 : Int64).toInt < x.toInt := fun z => h2 (Int64.lt_iff_toInt_lt.mpr z)
      omega
theorem tm_dvd {a b : Int64} (hb : b ≠ 0) (ha : -1152921504606846976 ≤ a.toInt) (ha2 : a.toInt ≤ 1152921504606846976) : (a - a / b * b = 0) ↔ b.toInt ∣ a.toInt := by
  have h1 : (a / b).toInt = a.toInt.tdiv b.toInt := lT_div (by omega)
  have h3 := tdm_le a.toInt b.toInt
  have h4 : (a / b * b).toInt = a.toInt.tdiv b.toInt * b.toInt := by rw [lT_mul, h1] <;> rw [h1] <;> omega
  have h5 : (a - a / b * b).toInt = a.toInt - a.toInt.tdiv b.toInt * b.toInt := by rw [lT_sub, h4] <;> rw [h4] <;> omega
  rw [← tdm_dvd, ← Int64.toInt_inj, h5]
  have e0 : (0 : Int64).toInt = 0 := rfl
  rw [e0]
  omega
