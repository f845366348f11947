/-- what a block that works must be -/
def okW (S : Ss) (j : Nat) (x : Int32) (q0 p0 : Nat) : Prop :=
  (x = 0 ∨ x = 1) ∧ wi (S 14 j) 0 7 ∧ (S 14 j = 0 ∨ S 14 j = 1 ∨ S 14 j = 2 → wi (S 15 j) 1 100) ∧ wi (S 20 j) 0 100 ∧ (S 14 j = 2 → q0 < 32 ∧ S 16 j = nI q0) ∧ (5 ≤ S 14 j → p0 < 8 ∧ S 15 j = nI p0) ∧ (5 ≤ S 14 j → q0 < 8 ∧ S 16 j = nI q0) ∧ (∀ k, k < 8 → rng (S 5 k)) ∧ rng (S 17 j) ∧ rng (S 18 j) ∧ (S 14 j = 7 → S 18 j ≤ S 17 j) ∧ ¬ failB S j x
theorem kk5 {k : Int32} (h : wi k 0 7) (h0 : ¬ k = 0) (h1 : ¬ k = 1) (h2 : ¬ k = 2) (h3 : ¬ k = 3) (h4 : ¬ k = 4) : 5 ≤ k := by
  simp only [wi, Int32.le_iff_toInt_le, ← Int32.toInt_inj, Int32.reduceToInt] at *
  omega
theorem k567 {k : Int32} (h : wi k 0 7) (h5 : 5 ≤ k) : k = 5 ∨ k = 6 ∨ k = 7 := by
  simp only [wi, Int32.le_iff_toInt_le, ← Int32.toInt_inj, Int32.reduceToInt] at *
  omega
