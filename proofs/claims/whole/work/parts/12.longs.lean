/-! longs as whole numbers -/
theorem lT_add {a b : Int64} (h1 : -9223372036854775808 ≤ a.toInt + b.toInt) (h2 : a.toInt + b.toInt < 9223372036854775808) : (a + b).toInt = a.toInt + b.toInt := by
  have e : (a + b).toInt = (a.toInt + b.toInt).bmod (2 ^ 64) := BitVec.toInt_add a.toBitVec b.toBitVec
  rw [e]
  exact Int.bmod_eq_of_le (by omega) (by omega)
theorem lT_sub {a b : Int64} (h1 : -9223372036854775808 ≤ a.toInt - b.toInt) (h2 : a.toInt - b.toInt < 9223372036854775808) : (a - b).toInt = a.toInt - b.toInt := by
  have e : (a - b).toInt = (a.toInt - b.toInt).bmod (2 ^ 64) := by exact BitVec.toInt_sub
  rw [e]
  exact Int.bmod_eq_of_le (by omega) (by omega)
theorem lT_mul {a b : Int64} (h1 : -9223372036854775808 ≤ a.toInt * b.toInt) (h2 : a.toInt * b.toInt < 9223372036854775808) : (a * b).toInt = a.toInt * b.toInt := by
  have e : (a * b).toInt = (a.toInt * b.toInt).bmod (2 ^ 64) := BitVec.toInt_mul a.toBitVec b.toBitVec
  rw [e]
  exact Int.bmod_eq_of_le (by omega) (by omega)
theorem lT_div {a b : Int64} (h : -9223372036854775808 < a.toInt) : (a / b).toInt = a.toInt.tdiv b.toInt := by
  refine Int64.toInt_div_of_ne_left a b (fun e => ?_)
  rw [e] at h
  exact absurd h (by decide)
theorem lT_xor (x y : Int64) : (0 ≤ x ^^^ y) ↔ (x.toInt < 0 ↔ y.toInt < 0) := by
  have h : (x ^^^ y).toBitVec.msb = (x.toBitVec.msb ^^ y.toBitVec.msb) := BitVec.msb_xor
  rw [BitVec.msb_eq_toInt, BitVec.msb_eq_toInt, BitVec.msb_eq_toInt] at h
  rw [Int64.le_iff_toInt_le]
  show (0 : Int) ≤ (x ^^^ y).toBitVec.toInt ↔ (x.toBitVec.toInt < 0 ↔ y.toBitVec.toInt < 0)
  generalize (x ^^^ y).toBitVec.toInt = z at h ⊢
  generalize x.toBitVec.toInt = a at h ⊢
  generalize y.toBitVec.toInt = b at h ⊢
  by_cases h0 : z < 0 <;> by_cases h1 : a < 0 <;> by_cases h2 : b < 0 <;> simp [h0, h1, h2] at h ⊢ <;> omega
/-- a quotient times the divisor -/
theorem tdm_le (a b : Int) : (a.tdiv b * b).natAbs ≤ a.natAbs := by
  rw [Int.natAbs_mul, Int.natAbs_tdiv]
  exact Nat.div_mul_le_self _ _
theorem tdm_dvd {a b : Int} : a.tdiv b * b = a ↔ b ∣ a := ⟨fun h => ⟨a.tdiv b, by rw [Int.mul_comm]; exact h.symm⟩, fun h => Int.tdiv_mul_cancel h⟩
theorem fd_same {a b : Int} (hb : b ≠ 0) (h : a < 0 ↔ b < 0) : a.tdiv b = a.fdiv b := by
  rw [Int.fdiv_eq_tdiv]
  by_cases hd : b ∣ a
  · simp [hd]
  · rw [if_neg hd]
    by_cases ha : 0 ≤ a
    · rw [if_pos ha, if_pos (by omega)]; omega
    · rw [if_neg ha, if_neg (by omega), Int.sign_eq_neg_one_of_neg (by omega)]; omega
theorem fd_dvd {a b : Int} (h : b ∣ a) : a.tdiv b = a.fdiv b := by
  rw [Int.fdiv_eq_tdiv, if_pos h]; omega
theorem fd_diff {a b : Int} (hb : b ≠ 0) (h : ¬ (a < 0 ↔ b < 0)) (hd : ¬ b ∣ a) : a.tdiv b - 1 = a.fdiv b := by
  rw [Int.fdiv_eq_tdiv, if_neg hd]
  by_cases ha : 0 ≤ a
  · rw [if_pos ha, if_neg (by omega)]
  · rw [if_neg ha, if_pos (by omega), Int.sign_eq_one_of_pos (by omega)]
theorem fd_abs (a b : Int) : (a.tdiv b).natAbs ≤ a.natAbs := by
  rw [Int.natAbs_tdiv]
  exact Nat.div_le_self _ _
/-- a product of two numbers of registers' size -/
theorem rp_mul {a b : Int} (h1 : -65536 ≤ a) (h2 : a ≤ 65536) (h3 : -65536 ≤ b) (h4 : b ≤ 65536) : -4294967296 ≤ a * b ∧ a * b ≤ 4294967296 := by
  have h : (a * b).natAbs ≤ 65536 * 65536 := by
    rw [Int.natAbs_mul]
    exact Nat.mul_le_mul (by omega) (by omega)
  omega
theorem fitI_id {v : Int32} (h1 : -65536 ≤ v.toInt) (h2 : v.toInt ≤ 65536) : fitI v.toInt = v := by
  unfold fitI
  rw [show max (-65536) (min 65536 v.toInt) = v.toInt by omega]
  exact Int32.ofInt_toInt v
theorem fitI_rng (z : Int) : -65536 ≤ (fitI z).toInt ∧ (fitI z).toInt ≤ 65536 := by
  unfold fitI
  rw [Int32.toInt_ofInt_of_le (by omega) (by omega)]
  omega
theorem fitI_l {x : Int64} {z : Int} (h1 : x.toInt = max (-65536) (min 65536 z)) : x.toInt32 = fitI z := by
  unfold fitI
  rw [← h1, ← Int32.toInt_inj, Int64.toInt_toInt32, Int32.toInt_ofInt_of_le (by omega) (by omega)]
  exact Int.bmod_eq_of_le (by omega) (by omega)
