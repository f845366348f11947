/-- what a block that works must be -/
def okW (S : Ss) (j : Nat) (x : Int32) (q0 p0 : Nat) : Prop :=
  (x = 0 ∨ x = 1) ∧ wi (S 14 j) 0 7 ∧ (S 14 j = 0 ∨ S 14 j = 1 ∨ S 14 j = 2 → wi (S 15 j) 1 100) ∧ wi (S 20 j) 0 100 ∧ (S 14 j = 2 → q0 < 32 ∧ S 16 j = nI q0) ∧ (5 ≤ S 14 j → p0 < 8 ∧ S 15 j = nI p0) ∧ (5 ≤ S 14 j → q0 < 8 ∧ S 16 j = nI q0) ∧ (∀ k, k < 8 → rng (S 5 k)) ∧ rng (S 17 j) ∧ rng (S 18 j) ∧ (S 14 j = 7 → S 18 j ≤ S 17 j) ∧ ¬ failB S j x
theorem kk5 {k : Int32} (h : wi k 0 7) (h0 : ¬ k = 0) (h1 : ¬ k = 1) (h2 : ¬ k = 2) (h3 : ¬ k = 3) (h4 : ¬ k = 4) : 5 ≤ k := by
  simp only [wi, Int32.le_iff_toInt_le, ← Int32.toInt_inj, Int32.reduceToInt] at *
  omega
theorem k567 {k : Int32} (h : wi k 0 7) (h5 : 5 ≤ k) : k = 5 ∨ k = 6 ∨ k = 7 := by
  simp only [wi, Int32.le_iff_toInt_le, ← Int32.toInt_inj, Int32.reduceToInt] at *
  omega
theorem i32_add {a b : Int32} (h1 : -2147483648 ≤ a.toInt + b.toInt) (h2 : a.toInt + b.toInt < 2147483648) : (a + b).toInt = a.toInt + b.toInt := by
  have e : (a + b).toInt = (a.toInt + b.toInt).bmod (2 ^ 32) := BitVec.toInt_add a.toBitVec b.toBitVec
  rw [e]
  exact Int.bmod_eq_of_le (by omega) (by omega)
theorem i32_sub {a b : Int32} (h1 : -2147483648 ≤ a.toInt - b.toInt) (h2 : a.toInt - b.toInt < 2147483648) : (a - b).toInt = a.toInt - b.toInt := by
  have e : (a - b).toInt = (a.toInt - b.toInt).bmod (2 ^ 32) := by exact BitVec.toInt_sub
  rw [e]
  exact Int.bmod_eq_of_le (by omega) (by omega)
theorem mn_eq {c p : Int32} (hc : wi c 0 100) (hp : wi p 1 100) : (if p < c + 1 then p else c + 1) = (if c < p then c + 1 else p) := by
  obtain ⟨h1, h2⟩ := hc
  obtain ⟨h3, h4⟩ := hp
  simp only [Int32.le_iff_toInt_le, Int32.reduceToInt] at h1 h2 h3 h4
  have e1 : (1 : Int32).toInt = 1 := rfl
  have e : (c + 1).toInt = c.toInt + 1 := by rw [i32_add, e1] <;> rw [e1] <;> omega
  by_cases h : c < p
  · have h5 := Int32.lt_iff_toInt_lt.mp h
    rw [if_pos h, if_neg]
    intro h6
    have h7 := Int32.lt_iff_toInt_lt.mp h6
    omega
  · have h5 : ¬ c.toInt < p.toInt := fun z => h (Int32.lt_iff_toInt_lt.mpr z)
    rw [if_neg h, if_pos]
    rw [Int32.lt_iff_toInt_lt]
    omega
theorem mx_eq {c : Int32} (hc : wi c 0 100) : (if c - 1 < 0 then 0 else c - 1) = (if 0 < c then c - 1 else 0) := by
  obtain ⟨h1, h2⟩ := hc
  simp only [Int32.le_iff_toInt_le, Int32.reduceToInt] at h1 h2
  have e1 : (1 : Int32).toInt = 1 := rfl
  have e0 : (0 : Int32).toInt = 0 := rfl
  have e : (c - 1).toInt = c.toInt - 1 := by rw [i32_sub, e1] <;> rw [e1] <;> omega
  by_cases h : 0 < c
  · have h5 := Int32.lt_iff_toInt_lt.mp h
    rw [if_pos h, if_neg]
    intro h6
    have h7 := Int32.lt_iff_toInt_lt.mp h6
    omega
  · have h5 : ¬ (0 : Int32).toInt < c.toInt := fun z => h (Int32.lt_iff_toInt_lt.mpr z)
    rw [if_neg h, if_pos]
    rw [Int32.lt_iff_toInt_lt]
    omega
theorem upd_self (f : Nat → Int32) (k : Nat) : upd f k (f k) = f := by
  funext i
  unfold upd
  by_cases h : i = k
  · rw [if_pos h, h]
  · rw [if_neg h]
theorem reg_no {S : Ss} {j : Nat} {x : Int32} (h : ¬ (5 ≤ S 14 j ∧ x = 1)) : regB S j x = S 5 := by
  unfold regB
  rw [if_neg h]
theorem bw_0 {S : Ss} {j : Nat} {x c o : Int32} (hk : ¬ 5 ≤ S 14 j) (hc : c = cntB S j x) (ho : o = outB S j x) : row (row (row S 20 (upd (S 20) j c)) 19 (upd (S 19) j o)) 21 (upd (S 21) j x) = bw S j x := by
  unfold bw
  rw [reg_no (fun h => hk h.1), row_self, hc, ho]
theorem bw_3 {S : Ss} {j : Nat} {x o : Int32} (hk : ¬ (5 ≤ S 14 j ∧ x = 1)) (hc : S 20 j = cntB S j x) (ho : o = outB S j x) : row (row S 19 (upd (S 19) j o)) 21 (upd (S 21) j x) = bw S j x := by
  unfold bw
  rw [reg_no hk, row_self, ← hc, upd_self, row_self, ho]
theorem bw_5 {S : Ss} {j q0 : Nat} {x o v : Int32} (hk : 5 ≤ S 14 j ∧ x = 1) (hq : S 16 j = nI q0) (hq8 : q0 < 8) (hv : v = clc (S 14 j) (S 5 (S 15 j).toNatClampNeg) (S 17 j) (S 18 j)) (hc : S 20 j = cntB S j x) (ho : o = outB S j x) : row (row (row S 5 (upd (S 5) q0 v)) 19 (upd (S 19) j o)) 21 (upd (S 21) j x) = bw S j x := by
  unfold bw regB
  rw [if_pos hk, hq, nI_clamp (by omega), ← hv, ← hc, upd_self]
  rw [show row (row S 5 (upd (S 5) q0 v)) 20 (S 20) = row S 5 (upd (S 5) q0 v) from row_self (row S 5 (upd (S 5) q0 v)) 20, ho]
theorem n5 {k : Int32} (h : k = 0 ∨ k = 1 ∨ k = 2 ∨ k = 3 ∨ k = 4) : ¬ 5 ≤ k := by
  rcases h with rfl | rfl | rfl | rfl | rfl <;> decide
theorem le_of_eq_of_le9 {a b c : Int32} (h : a = b) (h2 : b ≤ c) : a ≤ c := by rw [h]; exact h2
