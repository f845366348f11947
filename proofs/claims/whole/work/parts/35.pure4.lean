/-! pure rows for the model's blocks -/
theorem lm_sc {v f o : Int32} (hv : rng v) (hf : rng f) (ho : rng o) : (v.toInt64 * f.toInt64 + 8 * o.toInt64).toInt = v.toInt * f.toInt + 8 * o.toInt ∧ -4295491584 ≤ v.toInt * f.toInt + 8 * o.toInt ∧ v.toInt * f.toInt + 8 * o.toInt ≤ 4295491584 := by
  obtain ⟨h1, h2, h3⟩ := lm_mul hv hf
  obtain ⟨h4, h5⟩ := ho
  have e8 : (8 : Int64).toInt = 8 := rfl
  have h6 : (8 * o.toInt64).toInt = 8 * o.toInt := by
    rw [lT_mul, Int32.toInt_toInt64, e8] <;> rw [Int32.toInt_toInt64, e8] <;> omega
  refine ⟨?_, by omega, by omega⟩
  rw [lT_add, h1, h6] <;> rw [h1, h6] <;> omega
theorem lm_8v {v : Int32} (hv : rng v) : (8 * v.toInt64).toInt = 8 * v.toInt := by
  obtain ⟨h4, h5⟩ := hv
  have e8 : (8 : Int64).toInt = 8 := rfl
  rw [lT_mul, Int32.toInt_toInt64, e8] <;> rw [Int32.toInt_toInt64, e8] <;> omega
theorem fd_8 (a b : Int) : Int.fdiv (a + 8 * b) 8 = Int.fdiv a 8 + b := by
  rw [Int.fdiv_eq_ediv_of_nonneg _ (by decide), Int.fdiv_eq_ediv_of_nonneg _ (by decide)]
  omega
theorem l_lt {a b : Int32} : a.toInt64 < b.toInt64 ↔ a < b := by
  rw [Int64.lt_iff_toInt_lt, Int32.lt_iff_toInt_lt, Int32.toInt_toInt64, Int32.toInt_toInt64]
theorem l_le {a b : Int32} : a.toInt64 ≤ b.toInt64 ↔ a ≤ b := by
  rw [Int64.le_iff_toInt_le, Int32.le_iff_toInt_le, Int32.toInt_toInt64, Int32.toInt_toInt64]
theorem l_z {a : Int32} : a.toInt64 = 0 ↔ a = 0 := by
  rw [← Int64.toInt_inj, ← Int32.toInt_inj, Int32.toInt_toInt64]
  exact Iff.rfl
abbrev clW (S : Ss) (j q0 p0 : Nat) : Ss := row S 5 (upd (S 5) q0 (clc (S 14 j) (S 5 p0) (S 17 j) (S 18 j)))
