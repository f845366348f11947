/-! scans, purely -/
theorem Pr_row0 {S : Ss} {f : Nat → Int32} (h : Pr S) (hf : f 0 = S 0 0) : Pr (row S 0 f) := by
  obtain ⟨⟨m, hm, em, hB⟩, h2, h3, h4, h5, h6⟩ := h
  have e : (row S 0 f) 0 0 = S 0 0 := hf
  refine ⟨⟨m, hm, e.trans em, hB⟩, h2, h3, h4, h5, fun r hr => ?_⟩
  obtain ⟨n, d, a1, a2, a3, a4⟩ := h6 r hr
  exact ⟨n, d, a1, a2, a3, fun i hi => ⟨by rw [e]; exact (a4 i hi).1, (a4 i hi).2⟩⟩
theorem pgo_res : ∀ (n b r : Nat) (S : Ss), Pr S → r ≤ 12 → b + n ≤ 30 → ((pgo n b r S).1 = -1 ∨ (pgo n b r S).1 = -2 ∨ ∃ q, q ≤ 30 ∧ (pgo n b r S).1 = nI q) := by
  intro n
  induction n with
  | zero =>
    intro b r S h _ hb
    by_cases h12 : r < 12
    · rw [pgo, if_pos h12]; exact Or.inl rfl
    · rw [pgo, if_neg h12]; exact Or.inr (Or.inr ⟨b, by omega, rfl⟩)
  | succ n ih =>
    intro b r S h hr hb
    by_cases h12 : r < 12
    · rw [pgo, if_pos h12]
      obtain ⟨a1, a2⟩ := rgr_ok h h12
      by_cases hn : (rgr S r).1 < 0
      · rw [if_pos hn]
        rcases a2 with e | ⟨q, hq, e⟩
        · exact Or.inr (Or.inl e)
        · exact absurd (by rw [e] at hn; exact hn) (nI_pos (n := q) (by omega))
      · rw [if_neg hn]
        obtain ⟨q, hq, e⟩ := a2.resolve_left (fun h => hn (by rw [h]; decide))
        rw [e, nI_clamp (by omega)]
        exact ih (b + 1) q _ a1.1 hq (by omega)
    · rw [pgo_12 h12]; exact Or.inr (Or.inr ⟨b, by omega, rfl⟩)
/-- what a scan keeps: the program, the blocks' number, all but rows 0, 1, 4, 5, 19, 20, 21 -/
theorem sc1_ok {S : Ss} (h : Pr S) : Pr (sc1 S).2 ∧ ((sc1 S).1 = -1 ∨ (sc1 S).1 = -2 ∨ ∃ q, q ≤ 30 ∧ (sc1 S).1 = nI q) := by
  have hp := (pgo_ok 30 0 0 (tin S) (Pr_tin h) (by decide)).1
  have hr := pgo_res 30 0 0 (tin S) (Pr_tin h) (by decide) (by decide)
  unfold sc1
  dsimp only
  by_cases hn : (pgo 30 0 0 (tin S)).1 < 0
  · rw [if_pos hn]
    refine ⟨Pr_outs (Pr_row0 (Pr_row0 hp rfl) rfl), hr⟩
  · rw [if_neg hn]
    exact ⟨Pr_outs (Pr_row0 hp rfl), hr⟩
theorem wi_120 {a : Int32} (h : wi a 1 20) : ∃ n, n ≤ 20 ∧ a = nI n := by
  obtain ⟨k, hk, e⟩ := wi_ex (a := a) (M := 20) (n := 20) ⟨Int32.le_trans (by decide) h.1, h.2⟩ rfl (by decide)
  exact ⟨k, hk, e⟩
theorem sc_q {x : Int32} (h : x = -1 ∨ x = -2 ∨ ∃ q, q ≤ 30 ∧ x = nI q) (h1 : ¬ x = -1) (h2 : ¬ x = -2) : ∃ q, q ≤ 30 ∧ x = nI q := (h.resolve_left h1).resolve_left h2
theorem nI_nm1 {q : Nat} (h : q < 2 ^ 31) : ¬ nI q = -1 := fun e => absurd (nI_pos' h) (by rw [e]; decide)
theorem nI_nm2 {q : Nat} (h : q < 2 ^ 31) : ¬ nI q = -2 := fun e => absurd (nI_pos' h) (by rw [e]; decide)
