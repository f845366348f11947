/-! the program, purely -/
theorem pgo_12 {n b r : Nat} {S : Ss} (h : ¬ r < 12) : pgo n b r S = (nI b, S) := by
  cases n with
  | zero => rw [pgo, if_neg h]
  | succ n => rw [pgo, if_neg h]
theorem Aft_trans {S S1 S2 : Ss} (h1 : Aft S S1) (h2 : Aft S1 S2) : Aft S S2 := by
  obtain ⟨a1, a2, a3, a4, a5⟩ := h1
  obtain ⟨b1, b2, b3, b4, b5⟩ := h2
  exact ⟨b1, b2.trans a2, b3.trans a3, b4.trans a4, b5.trans a5⟩
theorem Aft_rf {S : Ss} (h : Pr S) : Aft S S := ⟨h, rfl, rfl, rfl, rfl⟩
theorem pgo_ok : ∀ (n b r : Nat) (S : Ss), Pr S → r ≤ 12 → Aft S (pgo n b r S).2 := by
  intro n
  induction n with
  | zero => intro b r S h _; exact Aft_rf h
  | succ n ih =>
    intro b r S h hr
    by_cases h12 : r < 12
    · rw [pgo, if_pos h12]
      obtain ⟨a1, a2⟩ := rgr_ok h h12
      by_cases hn : (rgr S r).1 < 0
      · rw [if_pos hn]; exact a1
      · rw [if_neg hn]
        obtain ⟨q, hq, e⟩ := a2.resolve_left (fun h => hn (by rw [h]; decide))
        rw [e, nI_clamp (by omega)]
        exact Aft_trans a1 (ih (b + 1) q _ a1.1 hq)
    · rw [pgo_12 h12]; exact Aft_rf h
