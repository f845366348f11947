/-! a rung's steps keep the good points -/
theorem ix10 (r i : Nat) : nI r * 10 + nI i = nI (10 * r + i) := by rw [show (10 : Int32) = nI 10 from rfl, pk_mul, nI_add, Nat.mul_comm]
theorem stp_keep {op : Int32} {d d' : Nat} (h : stp op d d') (h1 : ¬ psh op) (h2 : ¬ jns op) : 1 ≤ d ∧ d' = d ∧ d ≤ 4 := by
  rcases h with h | h | h
  · exact absurd h.1 h1
  · exact absurd h.1 h2
  · exact h.2.2
theorem stp_4 {op : Int32} {d d' : Nat} (h : stp op d d') : d ≤ 4 := by
  rcases h with h | h | h <;> omega
theorem big_no {op : Int32} (h : 9 ≤ op) : ¬ psh op ∧ ¬ jns op := by
  simp only [psh, jns, Int32.le_iff_toInt_le, ← Int32.toInt_inj, Int32.reduceToInt] at *
  omega
theorem Gd_13 {S S1 : Ss} {d : Nat → Nat} {i : Nat} {l : List Int32} {op : Int32} (h : Gd S d i S1 l) (hs : stp op (d i) (d (i + 1))) (e : op = 13) : Gd S d (i + 1) S1 l := by
  obtain ⟨a1, a2, a3, a4, a5, a6, a7⟩ := h
  have h9 := big_no (op := op) (by rw [e]; decide)
  exact ⟨a1, a2, a3, a4, a5, by rw [a6]; exact (stp_keep hs h9.1 h9.2).2.1.symm, a7⟩
theorem Gd_9 {S S1 : Ss} {d : Nat → Nat} {i j m : Nat} {l : List Int32} {op : Int32} (h : Gd S d i S1 l) (hs : stp op (d i) (d (i + 1))) (e : op = 9) (hm : m ≤ 10) (em : S1 0 0 = nI m) (hj : j < m) : Gd S d (i + 1) (bw S1 j (hd l)) (outB S1 j (hd l) :: l.tail) := by
  obtain ⟨a1, a2, a3, a4, a5, a6, a7⟩ := h
  have h9 := big_no (op := op) (by rw [e]; decide)
  have hk := stp_keep hs h9.1 h9.2
  refine ⟨Pr_bw a1 hm em hj (hd01 a7), a2, a3, a4, a5, ?_, ?_⟩
  · rw [List.length_cons, List.length_tail]; omega
  · intro v hv
    rcases List.mem_cons.mp hv with rfl | hv
    · exact out_01 (hd01 a7)
    · exact tl01 a7 v hv
theorem asg_row {S : Ss} {op t : Int32} {a r : Nat} (h : r ≠ 1) : asg S op a t r = S r := by
  unfold asg
  by_cases h1 : op = 10
  · rw [if_pos h1]; exact row_n h
  · rw [if_neg h1]
    by_cases h2 : t = 1
    · rw [if_pos h2]; exact row_n h
    · rw [if_neg h2]
theorem Gd_10 {S S1 : Ss} {d : Nat → Nat} {i a : Nat} {l : List Int32} {op : Int32} (h : Gd S d i S1 l) (hs : stp op (d i) (d (i + 1))) (e : 10 ≤ op) : Gd S d (i + 1) (asg S1 op a (hd l)) l := by
  obtain ⟨a1, a2, a3, a4, a5, a6, a7⟩ := h
  have h9 := big_no (op := op) (Int32.le_trans (by decide) e)
  refine ⟨Pr_asg a1 (hd01 a7), ?_, ?_, ?_, ?_, by rw [a6]; exact (stp_keep hs h9.1 h9.2).2.1.symm, a7⟩
  · rw [asg_row (by decide)]; exact a2
  · rw [asg_row (by decide)]; exact a3
  · rw [asg_row (by decide)]; exact a4
  · rw [asg_row (by decide)]; exact a5
theorem okO_8q {m op a : Int32} (h : okO m op a) (e : ¬ 10 ≤ op) (n : ¬ op = 9) : ¬ op = 6 → ¬ op = 7 → a = nI a.toNatClampNeg ∧ a.toNatClampNeg < 64 ∧ (¬ op = 8 → a.toNatClampNeg < 32) := by
  intro h6 h7
  obtain ⟨h1, h2⟩ := (okO_8 h e n).2 h6 h7
  have h3 := wi_cl h1 (n := 63) rfl (by decide)
  refine ⟨h3.2, by omega, fun h8 => ?_⟩
  have h4 := wi_cl (h2 h8) (n := 31) rfl (by decide)
  omega
theorem Gd_8 {S S1 : Ss} {d : Nat → Nat} {i : Nat} {l : List Int32} {m op a : Int32} (h : Gd S d i S1 l) (hs : stp op (d i) (d (i + 1))) (hO : okO m op a) (e : ¬ 10 ≤ op) (n : ¬ op = 9) : Gd S d (i + 1) S1 (stA S1 l op a.toNatClampNeg) := by
  obtain ⟨a1, a2, a3, a4, a5, a6, a7⟩ := h
  have h8 := okO_8 hO e n
  refine ⟨a1, a2, a3, a4, a5, sta_len h8.1 a6 hs, sta_01 a7 (fun k6 k7 k8 => rd01 a1.2.1 a1.2.2.1 ((okO_8q hO e n k6 k7).2.2 k8)) h8.1⟩
/-- what a rung leaves -/
def Aft (S S2 : Ss) : Prop := Pr S2 ∧ S2 10 = S 10 ∧ S2 11 = S 11 ∧ S2 12 = S 12 ∧ S2 0 = S 0
theorem rgo_ok {S : Ss} {r n : Nat} {d : Nat → Nat} (hr : r < 12) (hR : okRg S 10 r n d) : ∀ (k i : Nat) (S1 : Ss) (l : List Int32), i + k = n → Gd S d i S1 l → Aft S (rgo r k i S1 l).2 ∧ ((rgo r k i S1 l).1 = -2 ∨ ∃ q, q ≤ 12 ∧ (rgo r k i S1 l).1 = nI q) := by
  intro k
  induction k with
  | zero =>
    intro i S1 l _ h
    obtain ⟨a1, a2, a3, a4, a5, a6, a7⟩ := h
    exact ⟨⟨a1, a2, a3, a4, a5⟩, Or.inr ⟨r + 1, by omega, rfl⟩⟩
  | succ k ih =>
    intro i S1 l hik h
    obtain ⟨hO, hs⟩ := hR.2.2.2 i (by omega)
    obtain ⟨a1, a2, a3, a4, a5, a6, a7⟩ := id h
    have hO : okO (S 0 0) (S1 10 (10 * r + i)) (S1 11 (10 * r + i)) := by rw [a2, a3]; exact hO
    have hs : stp (S1 10 (10 * r + i)) (d i) (d (i + 1)) := by rw [a2]; exact hs
    rw [rgo]
    by_cases h13 : S1 10 (10 * r + i) = 13
    · rw [if_pos h13]
      by_cases ht : hd l = 1
      · rw [if_pos ht]
        obtain ⟨q, hq, e⟩ := wi_ex (okO_13 hO h13) (n := 11) rfl (by decide)
        exact ⟨⟨a1, a2, a3, a4, a5⟩, Or.inr ⟨q, by omega, e⟩⟩
      · rw [if_neg ht]
        exact ih (i + 1) S1 l (by omega) (Gd_13 h hs h13)
    · rw [if_neg h13]
      by_cases h9 : S1 10 (10 * r + i) = 9
      · rw [if_pos h9]
        by_cases hf : failB S1 (S1 11 (10 * r + i)).toNatClampNeg (hd l)
        · rw [if_pos hf]
          exact ⟨⟨a1, a2, a3, a4, a5⟩, Or.inl rfl⟩
        · rw [if_neg hf]
          obtain ⟨m, hm, em, hB⟩ := a1.1
          obtain ⟨j, hj, ej⟩ := wi_made hm (by rw [← em, a5]; exact okO_9 hO h9)
          rw [ej, nI_clamp (by omega)]
          exact ih (i + 1) _ _ (by omega) (Gd_9 h hs h9 hm em hj)
      · rw [if_neg h9]
        by_cases h10 : 10 ≤ S1 10 (10 * r + i)
        · rw [if_pos h10]
          exact ih (i + 1) _ _ (by omega) (Gd_10 h hs h10)
        · rw [if_neg h10]
          exact ih (i + 1) _ _ (by omega) (Gd_8 h hs hO h10 h9)
theorem Gd_0 {S : Ss} {d : Nat → Nat} (h : Pr S) (hd0 : d 0 = 0) : Gd S d 0 S [] := ⟨h, rfl, rfl, rfl, rfl, hd0.symm, fun v hv => absurd hv List.not_mem_nil⟩
theorem rgr_n {S : Ss} {r n : Nat} {d : Nat → Nat} (hR : okRg S 10 r n d) : rgr S r = rgo r n 0 S [] := by
  unfold rgr
  have e : S 12 r = nI n := hR.2.1
  have h := hR.1
  rw [e, nI_clamp (by omega)]
theorem rgr_ok {S : Ss} {r : Nat} (h : Pr S) (hr : r < 12) : Aft S (rgr S r).2 ∧ ((rgr S r).1 = -2 ∨ ∃ q, q ≤ 12 ∧ (rgr S r).1 = nI q) := by
  obtain ⟨n, d, hR⟩ := h.2.2.2.2.2 r hr
  rw [rgr_n hR]
  exact rgo_ok hr hR n 0 S [] (by omega) (Gd_0 h hR.2.2.1)
theorem wi_831 {a : Int32} (h : wi a 8 31) : ∃ k, k < 32 ∧ a = nI k := by
  obtain ⟨k, hk, e⟩ := wi_ex (a := a) (M := 31) (n := 31) ⟨Int32.le_trans (by decide) h.1, h.2⟩ rfl (by decide)
  exact ⟨k, by omega, e⟩
