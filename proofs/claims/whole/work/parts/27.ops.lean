/-! what each call answers (0 and its answer, or the number of what is thrown) and leaves -/
theorem br_n {r : Int32} {P : Prop} [Decidable P] (h : r = b2 P) (c : ¬ r = 0) : P := b2_n.mp (by rw [← h]; exact c)
theorem br_0 {r : Int32} {P : Prop} [Decidable P] (h : r = b2 P) (c : r = 0) : ¬ P := b2_0.mp (by rw [← h]; exact c)
def blkW (S : Ss) (m : Nat) (k a b : Int32) : Ss := row (row (row (row S 14 (upd (S 14) m k)) 15 (upd (S 15) m a)) 16 (upd (S 16) m b)) 0 (upd (S 0) 0 (S 0 0 + 1))
def oBlock (S : Ss) (k a b : Int32) : Int32 × Int32 × Ss := if ¬ okB k a b then (1, 0, S) else if 10 ≤ S 0 0 then (2, 0, S) else (0, S 0 0, blkW S (S 0 0).toNatClampNeg k a b)
def tunW (S : Ss) (j : Nat) (f o : Int32) : Ss := row (row S 17 (upd (S 17) j f)) 18 (upd (S 18) j o)
def oTune (S : Ss) (b f o : Int32) : Int32 × UInt64 × Ss := if ¬ wi b 0 (S 0 0 - 1) then (1, 0, S) else if S 14 b.toNatClampNeg < 5 then (2, 0, S) else if ¬ (wi f (-65536) 65536 ∧ wi o (-65536) 65536) ∨ (S 14 b.toNatClampNeg = 7 ∧ f < o) then (3, 0, S) else (0, eD (S 17 b.toNatClampNeg), tunW S b.toNatClampNeg f o)
abbrev ndd (op : Int32) : Int32 := if psh op then 0 else if jns op then 2 else 1
def oStep (S : Ss) (r op a : Int32) : Int32 × Int32 × Ss := if ¬ (wi r 0 11 ∧ okO (S 0 0) op a) then (1, 0, S) else if ¬ (ndd op ≤ S 9 r.toNatClampNeg ∧ S 9 r.toNatClampNeg + grw op ≤ 4) then (2, 0, S) else if 10 ≤ S 8 r.toNatClampNeg then (3, 0, S) else (0, S 9 r.toNatClampNeg + grw op, addW S r.toNatClampNeg (S 8 r.toNatClampNeg).toNatClampNeg op a)
def oErase (S : Ss) (r : Int32) : Int32 × Int32 × Ss := if ¬ wi r 0 11 then (1, 0, S) else (0, S 8 r.toNatClampNeg, eraW S r.toNatClampNeg)
def oDown (S : Ss) : Int32 × Ss := (sumN (dwn S 12) 0 12, dwn S)
def oWire (S : Ss) (x v : Int32) : Int32 × Int32 × Ss := if ¬ (wi x 0 7 ∧ wi v 0 1) then (1, 0, S) else (0, S 3 x.toNatClampNeg, row S 3 (upd (S 3) x.toNatClampNeg v))
def oPut (S : Ss) (r v : Int32) : Int32 × UInt64 × Ss := if ¬ (wi r 0 7 ∧ wi v (-65536) 65536) then (1, 0, S) else (0, eD (S 5 r.toNatClampNeg), row S 5 (upd (S 5) r.toNatClampNeg v))
def oForce (S : Ss) (b v : Int32) : Int32 × Int32 × Ss := if ¬ (wi b 0 31 ∧ wi v (-1) 1) then (1, 0, S) else (0, S 2 b.toNatClampNeg, row S 2 (upd (S 2) b.toNatClampNeg v))
def oScan (S : Ss) (n : Int32) : Int32 × Int32 × Ss := if ¬ wi n 1 20 then (1, 0, S) else if ¬ S 0 3 = 0 then (2, 0, S) else if (scn n.toNatClampNeg 0 S).1 = -1 then (2, 0, (scn n.toNatClampNeg 0 S).2) else if (scn n.toNatClampNeg 0 S).1 = -2 then (3, 0, (scn n.toNatClampNeg 0 S).2) else (0, (scn n.toNatClampNeg 0 S).1, (scn n.toNatClampNeg 0 S).2)
def oRestart (S : Ss) : Int32 × Ss := (if S 0 3 = 0 then 0 else 1, row S 0 (upd (S 0) 3 0))
def lpB (S : Ss) (i : Nat) : Ss := row (row (row S 19 (fillN (S 19) (fun _ => 0) i)) 20 (fillN (S 20) (fun _ => 0) i)) 21 (fillN (S 21) (fun _ => 0) i)
def failW (S : Ss) : Ss := row (lpB (lpM S) 10) 0 (upd (S 0) 3 0)
def oFail (S : Ss) : Int32 × Ss := (sumN (failW S 1) 24 8, failW S)
def oBit (S : Ss) (b : Int32) : Int32 × Int32 × Ss := if ¬ wi b 0 31 then (1, 0, S) else (0, rd S b.toNatClampNeg, S)
def oOut (S : Ss) (b : Int32) : Int32 × Int32 × Ss := if ¬ wi b 8 15 then (1, 0, S) else (0, S 4 (b.toNatClampNeg - 8), S)
def oReg (S : Ss) (r : Int32) : Int32 × UInt64 × Ss := if ¬ wi r 0 7 then (1, 0, S) else (0, eD (S 5 r.toNatClampNeg), S)
def oState (S : Ss) (b w : Int32) : Int32 × Int32 × Ss := if ¬ wi b 0 (S 0 0 - 1) then (1, 0, S) else if w = 0 then (0, S 14 b.toNatClampNeg, S) else if w = 1 then (0, S 19 b.toNatClampNeg, S) else if w = 2 then (0, S 20 b.toNatClampNeg, S) else (2, 0, S)
def oCount (S : Ss) (w : Int32) : Int32 × Int32 × Ss := if w = 0 then (0, S 0 1, S) else if w = 1 then (0, S 0 2, S) else if w = 2 then (0, if S 0 3 = 0 then 0 else 1, S) else if w = 3 then (0, S 0 0, S) else if w = 4 then (0, sumN (S 12) 0 12, S) else if w = 5 then (0, cntF (S 2) 32, S) else (1, 0, S)
theorem lpB_0 (S : Ss) : lpB S 0 = S := by
  unfold lpB
  rw [fill_0, fill_0, fill_0, row_self, row_self, row_self]
theorem lpB_s (S : Ss) (i : Nat) : row (row (row (lpB S i) 19 (upd (lpB S i 19) i 0)) 20 (upd (lpB S i 20) i 0)) 21 (upd (lpB S i 21) i 0) = lpB S (i + 1) := by
  have e : ∀ f : Nat → Int32, upd (fillN f (fun _ => 0) i) i 0 = fillN f (fun _ => 0) (i + 1) := fun f => fill_s f (fun _ => 0) i
  have e19 : lpB S i 19 = fillN (S 19) (fun _ => 0) i := rfl
  have e20 : lpB S i 20 = fillN (S 20) (fun _ => 0) i := rfl
  have e21 : lpB S i 21 = fillN (S 21) (fun _ => 0) i := rfl
  rw [e19, e20, e21, e, e, e]
  unfold lpB
  funext a
  unfold row
  by_cases h1 : a = 21
  · simp [h1]
  · by_cases h2 : a = 20
    · simp [h2]
    · by_cases h3 : a = 19
      · simp [h3]
      · simp [h1, h2, h3]
theorem wi_815 {a : Int32} (h : wi a 8 15) : ∃ k, k < 8 ∧ a = nI (8 + k) := by
  obtain ⟨j, hj, e⟩ := wi_ex (a := a) (M := 15) (n := 15) ⟨Int32.le_trans (by decide) h.1, h.2⟩ rfl (by decide)
  have h8 : 8 ≤ j := by
    have := h.1
    rw [e] at this
    exact (nI_leI (a := 8) (b := j) (by decide) (by omega)).mp this
  exact ⟨j - 8, by omega, by rw [e, show 8 + (j - 8) = j by omega]⟩
theorem sub8 (k : Nat) : nI (8 + k) - 8 = nI k := by
  rw [show (8 : Int32) = nI 8 from rfl, pk_sub (by omega), show 8 + k - 8 = k by omega]
theorem blk_eq {S : Ss} {m0 : Nat} {T : Ss} (em : S 0 0 = nI m0) : ((0 : Int32), nI m0, T) = (0, upd (S 0) 0 (S 0 0 + 1) 0 - 1, T) := by
  rw [pk_us, em, nI_1, nI_pred]
