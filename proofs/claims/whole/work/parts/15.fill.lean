/-! rows filled from their beginning on -/
def fillN (f h : Nat → Int32) (i : Nat) : Nat → Int32 := fun k => if k < i then h k else f k
theorem fill_0 (f h : Nat → Int32) : fillN f h 0 = f := by
  funext k
  simp [fillN]
theorem fill_s (f h : Nat → Int32) (i : Nat) : upd (fillN f h i) i (h i) = fillN f h (i + 1) := by
  funext k
  unfold upd fillN
  by_cases h1 : k = i
  · subst h1; simp
  · by_cases h2 : k < i
    · rw [if_neg h1, if_pos h2, if_pos (by omega)]
    · rw [if_neg h1, if_neg h2, if_neg (by omega)]
theorem fill_cpy (f h : Nat → Int32) (n : Nat) : va_cpy h f 0 0 n = fillN f h n := by
  funext k
  simp [va_cpy, fillN]
theorem frow_0 (S : Ss) (r : Nat) (h : Nat → Int32) : row S r (fillN (S r) h 0) = S := by rw [fill_0, row_self]
theorem frow_s {S : Ss} {r i : Nat} {h : Nat → Int32} {v : Int32} (e : v = h i) : row (row S r (fillN (S r) h i)) r (upd (row S r (fillN (S r) h i) r) i v) = row S r (fillN (S r) h (i + 1)) := by
  rw [row_row, row_s, e, fill_s]
theorem rd_row {S : Ss} {r : Nat} {f : Nat → Int32} (h1 : r ≠ 1) (h2 : r ≠ 2) (k : Nat) : rd (row S r f) k = rd S k := by
  unfold rd
  rw [row_n (Ne.symm h1), row_n (Ne.symm h2)]
def grw (a : Int32) : Int32 := if psh a then 1 else if jns a then -1 else 0
/-- a step added to rung k, which has n -/
def addW (S : Ss) (k n : Nat) (op a : Int32) : Ss := row (row (row (row S 6 (upd (S 6) (10 * k + n) op)) 7 (upd (S 7) (10 * k + n) a)) 8 (upd (S 8) k (S 8 k + 1))) 9 (upd (S 9) k (S 9 k + grw op))
def eraW (S : Ss) (k : Nat) : Ss := row (row S 8 (upd (S 8) k 0)) 9 (upd (S 9) k 0)
def dwn (S : Ss) : Ss := row (row (row S 10 (fillN (S 10) (S 6) 120)) 11 (fillN (S 11) (S 7) 120)) 12 (fillN (S 12) (S 8) 12)
def lpM (S : Ss) : Ss := cout (row S 1 (fillN (S 1) (fun _ => 0) 24))
theorem cout_fill (S : Ss) : cout S = row S 4 (fillN (S 4) (fun _ => 0) 8) := rfl
theorem tin_fill (S : Ss) : tin S = row S 1 (fillN (S 1) (S 3) 8) := rfl
theorem sout_fill (S : Ss) : sout S = row S 4 (fillN (S 4) (fun k => rd S (8 + k)) 8) := rfl
