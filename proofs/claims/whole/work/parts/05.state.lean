/-! The state of a run: rows of ints. 0: blocks made, full scans, failed scans, stopped; 1 bits, 2 forces, 3 wires of inputs, 4 wires of outputs, 5 registers (eighths);
6 ops, 7 operands, 8 lengths, 9 depths of the rungs as written; 10 .. 13 the same of the program; 14 .. 21 of block j: kind, p, q, factor, offset, output, count, last input. -/
abbrev Ss : Type := Nat → Nat → Int32
def row (S : Ss) (r : Nat) (f : Nat → Int32) : Ss := fun a => if a = r then f else S a
theorem row_s (S : Ss) (r : Nat) (f : Nat → Int32) : row S r f r = f := if_pos rfl
theorem row_n {S : Ss} {r a : Nat} {f : Nat → Int32} (h : a ≠ r) : row S r f a = S a := if_neg h
theorem row_row (S : Ss) (r : Nat) (f g : Nat → Int32) : row (row S r f) r g = row S r g := by
  funext a
  unfold row
  by_cases h : a = r <;> simp [h]
theorem row_comm {S : Ss} {r q : Nat} {f g : Nat → Int32} (h : r ≠ q) : row (row S r f) q g = row (row S q g) r f := by
  funext a
  unfold row
  by_cases h1 : a = q
  · subst h1
    simp [Ne.symm h]
  · simp [h1]
theorem row_self (S : Ss) (r : Nat) : row S r (S r) = S := by
  funext a
  unfold row
  by_cases h : a = r
  · subst h; simp
  · simp [h]
def b2 (P : Prop) [Decidable P] : Int32 := if P then 1 else 0
theorem b2_t {P : Prop} [Decidable P] (h : P) : b2 P = 1 := if_pos h
theorem b2_f {P : Prop} [Decidable P] (h : ¬ P) : b2 P = 0 := if_neg h
theorem b2_0 {P : Prop} [Decidable P] : b2 P = 0 ↔ ¬ P := by
  by_cases h : P
  · simp [b2, h]
  · simp [b2, h]
theorem b2_1 {P : Prop} [Decidable P] : b2 P = 1 ↔ P := by
  by_cases h : P
  · simp [b2, h]
  · simp [b2, h]
theorem b2_n {P : Prop} [Decidable P] : ¬ b2 P = 0 ↔ P := by
  by_cases h : P
  · simp [b2, h]
  · simp [b2, h]
theorem b2_01 (P : Prop) [Decidable P] : b2 P = 0 ∨ b2 P = 1 := by
  by_cases h : P
  · exact Or.inr (b2_t h)
  · exact Or.inl (b2_f h)
theorem b2_c {P Q : Prop} [Decidable P] [Decidable Q] (h : P ↔ Q) : b2 P = b2 Q := by
  by_cases h1 : P
  · rw [b2_t h1, b2_t (h.mp h1)]
  · rw [b2_f h1, b2_f (fun z => h1 (h.mpr z))]
/-- v lies from lo to hi -/
abbrev wi (v lo hi : Int32) : Prop := lo ≤ v ∧ v ≤ hi
theorem wi_nat {v M : Int32} {n : Nat} (hM : M.toInt = n) (h : wi v 0 M) : ∃ j : Nat, j ≤ n ∧ v = nI j := nI_of2 hM (Int32.not_lt.mpr h.1) h.2
theorem wi_of {n M : Nat} (h : n ≤ M) (hM : M < 2 ^ 31) : wi (nI n) 0 (nI M) := ⟨nI_pos' (by omega), nI_le h hM⟩
/-- what a bit reads -/
def rd (S : Ss) (k : Nat) : Int32 := if S 2 k = -1 then S 1 k else S 2 k
/-- may such a block be made? -/
abbrev okB (k p q : Int32) : Prop := ((k = 0 ∨ k = 1) ∧ wi p 1 100) ∨ (k = 2 ∧ wi p 1 100 ∧ wi q 0 31) ∨ (k = 3 ∨ k = 4) ∨ ((k = 5 ∨ k = 6 ∨ k = 7) ∧ wi p 0 7 ∧ wi q 0 7)
/-- may a rung take such a step, but for its stack? -/
abbrev okO (made op a : Int32) : Prop := (wi op 0 5 ∧ wi a 0 31) ∨ (op = 6 ∨ op = 7) ∨ (op = 8 ∧ wi a 0 63) ∨ (op = 9 ∧ wi a 0 (made - 1)) ∨ (wi op 10 12 ∧ wi a 8 31) ∨ (op = 13 ∧ wi a 0 11)
abbrev psh (op : Int32) : Prop := op = 0 ∨ op = 1 ∨ op = 8
abbrev jns (op : Int32) : Prop := op = 6 ∨ op = 7
