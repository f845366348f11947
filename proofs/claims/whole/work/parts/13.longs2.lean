/-- a number of a register's size -/
abbrev rng (v : Int32) : Prop := -65536 ≤ v.toInt ∧ v.toInt ≤ 65536
theorem lm_mul {v f : Int32} (hv : rng v) (hf : rng f) : (v.toInt64 * f.toInt64).toInt = v.toInt * f.toInt ∧ -4294967296 ≤ v.toInt * f.toInt ∧ v.toInt * f.toInt ≤ 4294967296 := by
  have h := rp_mul hv.1 hv.2 hf.1 hf.2
  refine ⟨?_, h⟩
  rw [lT_mul, Int32.toInt_toInt64, Int32.toInt_toInt64]
  · rw [Int32.toInt_toInt64, Int32.toInt_toInt64]; omega
  · rw [Int32.toInt_toInt64, Int32.toInt_toInt64]; omega
theorem lm_mul8 {v : Int32} (hv : rng v) : (v.toInt64 * 8).toInt = v.toInt * 8 := by
  have e : (8 : Int64).toInt = 8 := rfl
  obtain ⟨h1, h2⟩ := hv
  rw [lT_mul, Int32.toInt_toInt64, e]
  · rw [Int32.toInt_toInt64, e]; omega
  · rw [Int32.toInt_toInt64, e]; omega
theorem fd_bound {a b : Int} (hb : b ≠ 0) : (a.fdiv b).natAbs ≤ a.natAbs + 1 := by
  have h1 := fd_abs a b
  rw [Int.tdiv_eq_fdiv] at h1
  by_cases hd : b ∣ a
  · rw [if_pos hd] at h1; omega
  · rw [if_neg hd] at h1
    by_cases ha : 0 ≤ a
    · rw [if_pos ha] at h1
      by_cases hb0 : 0 ≤ b
      · rw [if_pos hb0] at h1; omega
      · rw [if_neg hb0] at h1; omega
    · rw [if_neg ha] at h1
      by_cases hb0 : 0 ≤ b
      · rw [if_pos hb0, Int.sign_eq_one_of_pos (by omega)] at h1; omega
      · rw [if_neg hb0, Int.sign_eq_neg_one_of_neg (by omega)] at h1; omega
/-- what reckon answers -/
def rkn (k v f o : Int32) : Int := if k = 5 then Int.fdiv (v.toInt * f.toInt) 8 + o.toInt else if k = 7 then max o.toInt (min f.toInt v.toInt) else if f = 0 then 0 else Int.fdiv (v.toInt * 8) f.toInt
theorem rk_clc {k v f o : Int32} (hk : k = 5 ∨ k = 6 ∨ k = 7) (hv : rng v) (hf : rng f) (ho : rng o) (h7 : k = 7 → o ≤ f) (h6 : k = 6 → f ≠ 0) : fitI (rkn k v f o) = clc k v f o := by
  unfold rkn clc
  rcases hk with rfl | rfl | rfl
  · simp
  · have := h6 rfl
    simp [this, Int.mul_comm]
  · have h := Int32.le_iff_toInt_le.mp (h7 rfl)
    simp only [show ¬ (7 : Int32) = 5 by decide, if_false, if_true]
    by_cases h1 : v < o
    · rw [if_pos h1]
      have h2 := Int32.lt_iff_toInt_lt.mp h1
      rw [show max o.toInt (min f.toInt v.toInt) = o.toInt by omega]
      exact fitI_id ho.1 ho.2
    · rw [if_neg h1]
      have h2 : ¬ v.toInt < o.toInt := fun z => h1 (Int32.lt_iff_toInt_lt.mpr z)
      by_cases h3 : f < v
      · rw [if_pos h3]
        have h4 := Int32.lt_iff_toInt_lt.mp h3
        rw [show max o.toInt (min f.toInt v.toInt) = f.toInt by omega]
        exact fitI_id hf.1 hf.2
      · rw [if_neg h3]
        have h4 : ¬ f.toInt < v.toInt := fun z => h3 (Int32.lt_iff_toInt_lt.mpr z)
        rw [show max o.toInt (min f.toInt v.toInt) = v.toInt by omega]
        exact fitI_id hv.1 hv.2
/-- Math's max and min of longs, as whole numbers -/
theorem lmx {x y : Int64} : (if y < x then x else y).toInt = max x.toInt y.toInt := by
  by_cases h : y < x
  · rw [if_pos h]; have := Int64.lt_iff_toInt_lt.mp h; omega
  · rw [if_neg h]; have : ¬ y.toInt < x.toInt := fun z => h (Int64.lt_iff_toInt_lt.mpr z); omega
theorem lmn {x y : Int64} : (if y < x then y else x).toInt = min x.toInt y.toInt := by
  by_cases h : y < x
  · rw [if_pos h]; have := Int64.lt_iff_toInt_lt.mp h; omega
  · rw [if_neg h]; have : ¬ y.toInt < x.toInt := fun z => h (Int64.lt_iff_toInt_lt.mpr z); omega
