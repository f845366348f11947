/-! pure rows for the model's larger calls -/
theorem psh_iff {m o a : Int32} (h : okO m o a) : (o < 2 ∨ o = 8) ↔ psh o := by
  simp only [okO, wi, psh, Int32.le_iff_toInt_le, Int32.lt_iff_toInt_lt, ← Int32.toInt_inj, Int32.reduceToInt] at *
  omega
theorem ix10' (r i : Nat) : 10 * nI r + nI i = nI (10 * r + i) := by rw [show (10 : Int32) = nI 10 from rfl, pk_mul, nI_add]
/-- a step's test, by its kind -/
theorem st_push {op h : Int32} {h0 : Nat} (hp : psh op) (h4 : h0 ≤ 4) (e : h = nI h0) : (ndd op ≤ h ∧ h + grw op ≤ 4) ↔ ¬ h = 4 := by
  unfold ndd grw
  rw [if_pos hp, if_pos hp, e, nI_1]
  constructor
  · intro h9 h10
    have h1 := (nI_leI (a := h0 + 1) (b := 4) (by omega) (by decide)).mp h9.2
    have h2 := (nI_eq (a := h0) (b := 4) (by omega) (by decide)).mp h10
    omega
  · intro h9
    have h2 : h0 ≠ 4 := fun z => h9 (by rw [z]; rfl)
    exact ⟨nI_pos' (by omega), (nI_leI (a := h0 + 1) (b := 4) (by omega) (by decide)).mpr (by omega)⟩
theorem st_join {op h : Int32} {h0 : Nat} (hp : ¬ psh op) (hj : jns op) (h4 : h0 ≤ 4) (e : h = nI h0) : (ndd op ≤ h ∧ h + grw op ≤ 4) ↔ 2 ≤ h := by
  unfold ndd grw
  rw [if_neg hp, if_pos hj, if_neg hp, if_pos hj, e]
  constructor
  · exact fun h9 => h9.1
  · intro h9
    have h1 := (nI_leI (a := 2) (b := h0) (by decide) (by omega)).mp h9
    refine ⟨h9, ?_⟩
    obtain ⟨h2, rfl⟩ : ∃ h2, h0 = h2 + 1 := ⟨h0 - 1, by omega⟩
    rw [pk_m1]
    exact (nI_leI (a := h2) (b := 4) (by omega) (by decide)).mpr (by omega)
theorem st_else {op h : Int32} {h0 : Nat} (hp : ¬ psh op) (hj : ¬ jns op) (h4 : h0 ≤ 4) (e : h = nI h0) : (ndd op ≤ h ∧ h + grw op ≤ 4) ↔ 1 ≤ h := by
  unfold ndd grw
  rw [if_neg hp, if_neg hj, if_neg hp, if_neg hj, e, Int32.add_zero]
  constructor
  · exact fun h9 => h9.1
  · exact fun h9 => ⟨h9, (nI_leI (a := h0) (b := 4) (by omega) (by decide)).mpr h4⟩
theorem grw_p {op : Int32} (hp : psh op) : grw op = 1 := if_pos hp
theorem grw_j {op : Int32} (hp : ¬ psh op) (hj : jns op) : grw op = -1 := by unfold grw; rw [if_neg hp, if_pos hj]
theorem grw_e {op : Int32} (hp : ¬ psh op) (hj : ¬ jns op) : grw op = 0 := by unfold grw; rw [if_neg hp, if_neg hj]
theorem sumN_congr {f h : Nat → Int32} {a : Nat} : ∀ n, (∀ k, k < n → f (a + k) = h (a + k)) → sumN f a n = sumN h a n := by
  intro n
  induction n with
  | zero => intro _; rfl
  | succ n ih =>
    intro e
    show sumN f a n + f (a + n) = sumN h a n + h (a + n)
    rw [ih (fun k hk => e k (by omega)), e n (by omega)]
theorem sum_fill (f h : Nat → Int32) (n : Nat) : sumN (fillN f h n) 0 n = sumN h 0 n := by
  refine sumN_congr n (fun k hk => ?_)
  unfold fillN
  rw [if_pos (by omega)]
/-- the program's rows, as far as i -/
def dw1 (S : Ss) (i : Nat) : Ss := row (row S 10 (fillN (S 10) (S 6) i)) 11 (fillN (S 11) (S 7) i)
theorem dw1_0 (S : Ss) : dw1 S 0 = S := by
  unfold dw1
  rw [fill_0, fill_0, row_self, row_self]
theorem dw1_s (S : Ss) (i : Nat) : row (row (dw1 S i) 10 (upd (dw1 S i 10) i (S 6 i))) 11 (upd (dw1 S i 11) i (S 7 i)) = dw1 S (i + 1) := by
  have e10 : dw1 S i 10 = fillN (S 10) (S 6) i := rfl
  have e11 : dw1 S i 11 = fillN (S 11) (S 7) i := rfl
  rw [e10, e11, fill_s, fill_s]
  unfold dw1
  funext a
  unfold row
  by_cases h1 : a = 11
  · simp [h1]
  · by_cases h2 : a = 10
    · simp [h2]
    · simp [h1, h2]
/-- power fails, in the model's order -/
theorem failW_eq (S : Ss) : row (lpB (row (row S 1 (fillN (S 1) (fun _ => 0) 24)) 4 (fillN (S 4) (fun _ => 0) 8)) 10) 0 (upd (S 0) 3 0) = failW S := rfl
theorem cntF_ge {f : Nat → Int32} {n : Nat} (h : f n = -1 ∨ b01 (f n)) : cntF f (n + 1) = if f n < 0 then cntF f n else cntF f n + 1 := by
  show (if f n = -1 then cntF f n else cntF f n + 1) = _
  rcases h with h | h | h <;> rw [h] <;> rfl
theorem stp_eq {h v : Int32} {T : Ss} {k : Nat} {f : Nat → Int32} (e : h = v := by rfl) : ((0 : Int32), v, T) = (0, upd f k h k, T) := by
  rw [pk_us, e]
