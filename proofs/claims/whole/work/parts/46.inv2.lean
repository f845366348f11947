/-! what holds of every state between two calls -/
abbrev zr (S : Ss) (j : Nat) : Prop := S 17 j = 0 ∧ S 18 j = 0 ∧ S 19 j = 0 ∧ S 20 j = 0 ∧ S 21 j = 0
abbrev wrn (S : Ss) (r n : Nat) (d : Nat → Nat) : Prop := okRg S 6 r n d ∧ S 9 r = nI (d n)
def Inv (S : Ss) : Prop := Pr S ∧ (∀ r, r < 12 → ∃ (n : Nat) (d : Nat → Nat), wrn S r n d) ∧ ∀ m, m ≤ 10 → S 0 0 = nI m → ∀ j, m ≤ j → j < 10 → zr S j
theorem okRg_eq {S S' : Ss} {b r n : Nat} {d : Nat → Nat} (h0 : S' 0 0 = S 0 0) (h6 : S' b = S b) (h7 : S' (b + 1) = S (b + 1)) (h8 : S' (b + 2) = S (b + 2)) (h : okRg S b r n d) : okRg S' b r n d := by
  unfold okRg at *
  rw [h0, h6, h7, h8]
  exact h
theorem Inv_of {S S' : Ss} (h : Inv S) (hP : Pr S') (h0 : S' 0 0 = S 0 0) (h6 : S' 6 = S 6) (h7 : S' 7 = S 7) (h8 : S' 8 = S 8) (h9 : S' 9 = S 9) (hu : ∀ m, m ≤ 10 → S 0 0 = nI m → ∀ j, m ≤ j → j < 10 → zr S j → zr S' j) : Inv S' := by
  obtain ⟨g1, g2, g3⟩ := h
  refine ⟨hP, fun r hr => ?_, fun m hm em j h1 h2 => ?_⟩
  · obtain ⟨n, d, a1, a2⟩ := g2 r hr
    exact ⟨n, d, okRg_eq h0 h6 h7 h8 a1, by rw [h9]; exact a2⟩
  · rw [h0] at em
    exact hu m hm em j h1 h2 (g3 m hm em j h1 h2)
theorem frc_at {i : Nat} (h : i < 32) : frc i = -1 := by
  unfold frc fillN
  rw [if_pos h]
theorem Inv_0 : Inv S0 := by
  have hz : ∀ r, r < 12 → ∃ (n : Nat) (d : Nat → Nat), okRg S0 10 r n d := fun r _ => ⟨0, fun _ => 0, by decide, rfl, rfl, fun i h => absurd h (Nat.not_lt_zero i)⟩
  refine ⟨⟨⟨0, by decide, rfl, fun j h => absurd h (Nat.not_lt_zero j)⟩, fun i _ => Or.inl rfl, fun i hi => Or.inl (frc_at hi), fun i _ => Or.inl rfl, fun i _ => (show rng 0 from ⟨by decide, by decide⟩), hz⟩, fun r _ => ⟨0, fun _ => 0, ⟨by decide, rfl, rfl, fun i h => absurd h (Nat.not_lt_zero i)⟩, rfl⟩, fun m _ _ j _ _ => ⟨rfl, rfl, rfl, rfl, rfl⟩⟩
theorem Inv_made {S : Ss} (h : Inv S) : ∃ m, m ≤ 10 ∧ S 0 0 = nI m := by
  obtain ⟨⟨⟨m, hm, em, _⟩, _⟩, _⟩ := h
  exact ⟨m, hm, em⟩
theorem Inv_F {S : Ss} (h : Inv S) : ∀ i, i < 32 → S 2 i = -1 ∨ b01 (S 2 i) := h.1.2.2.1
theorem wi_b01 {v : Int32} (h : wi v 0 1) : b01 v := by
  simp only [wi, b01, Int32.le_iff_toInt_le, ← Int32.toInt_inj, Int32.reduceToInt] at *
  omega
theorem wi_f01 {v : Int32} (h : wi v (-1) 1) : v = -1 ∨ b01 v := by
  simp only [wi, b01, Int32.le_iff_toInt_le, ← Int32.toInt_inj, Int32.reduceToInt] at *
  omega
theorem wi_rng9 {v : Int32} (h : wi v (-65536) 65536) : rng v := by
  simp only [wi, rng, Int32.le_iff_toInt_le, Int32.reduceToInt] at *
  exact h
theorem Inv_wire {S : Ss} (h : Inv S) (x v : Int32) : Inv (oWire S x v).2.2 := by
  unfold oWire
  by_cases c : wi x 0 7 ∧ wi v 0 1
  · rw [if_neg (fun z => z c)]
    obtain ⟨a1, a2, a3, a4, a5, a6⟩ := h.1
    exact Inv_of h ⟨a1, a2, a3, upd_all (P := b01) a4 (wi_b01 c.2), a5, a6⟩ rfl rfl rfl rfl rfl (fun _ _ _ _ _ _ z => z)
  · rw [if_pos c]; exact h
theorem Inv_put {S : Ss} (h : Inv S) (x v : Int32) : Inv (oPut S x v).2.2 := by
  unfold oPut
  by_cases c : wi x 0 7 ∧ wi v (-65536) 65536
  · rw [if_neg (fun z => z c)]
    exact Inv_of h (Pr_regs h.1 (upd_all (P := rng) h.1.2.2.2.2.1 (wi_rng9 c.2))) rfl rfl rfl rfl rfl (fun _ _ _ _ _ _ z => z)
  · rw [if_pos c]; exact h
theorem Inv_force {S : Ss} (h : Inv S) (x v : Int32) : Inv (oForce S x v).2.2 := by
  unfold oForce
  by_cases c : wi x 0 31 ∧ wi v (-1) 1
  · rw [if_neg (fun z => z c)]
    obtain ⟨a1, a2, a3, a4, a5, a6⟩ := h.1
    exact Inv_of h ⟨a1, a2, upd_all (P := fun v => v = -1 ∨ b01 v) a3 (wi_f01 c.2), a4, a5, a6⟩ rfl rfl rfl rfl rfl (fun _ _ _ _ _ _ z => z)
  · rw [if_pos c]; exact h
theorem Inv_restart {S : Ss} (h : Inv S) : Inv (oRestart S).2 := Inv_of h (Pr_row0 h.1 rfl) rfl rfl rfl rfl rfl (fun _ _ _ _ _ _ z => z)
theorem fl0 {P : Int32 → Prop} {f : Nat → Int32} {n i : Nat} (h0 : P 0) (h : P (f i)) : P (fillN f (fun _ => 0) n i) := by
  unfold fillN
  by_cases c : i < n
  · rw [if_pos c]; exact h0
  · rw [if_neg c]; exact h
theorem Inv_fail {S : Ss} (h : Inv S) : Inv (oFail S).2 := by
  obtain ⟨⟨m, hm, em, hB⟩, a2, a3, a4, a5, a6⟩ := h.1
  have hPf : Pr (failW S) := by
    refine ⟨⟨m, hm, em, fun j hj => ?_⟩, fun i hi => ?_, a3, a4, a5, a6⟩
    · obtain ⟨h1, h2, h3, h4, h5, h6, h7, h8, h9, h10, h11⟩ := hB j hj
      refine ⟨h1, h2, fl0 (P := fun z => wi z 0 100) (by decide) h3, h4, h5, h6, h7, h8, fl0 (P := b01) (Or.inl rfl) h9, fl0 (P := b01) (Or.inl rfl) h10, fun k2 => ?_⟩
      exact fl0 (P := fun z => z ≤ S 15 j) (Int32.le_trans (by decide) (h2 (Or.inr (Or.inr k2))).1) (h11 k2)
    · exact fl0 (P := b01) (Or.inl rfl) (a2 i hi)
  refine Inv_of h hPf rfl rfl rfl rfl rfl (fun m _ _ j _ _ z => ?_)
  obtain ⟨z1, z2, z3, z4, z5⟩ := z
  exact ⟨z1, z2, fl0 (P := fun v => v = 0) rfl z3, fl0 (P := fun v => v = 0) rfl z4, fl0 (P := fun v => v = 0) rfl z5⟩
theorem Inv_erase {S : Ss} (h : Inv S) (r : Int32) : Inv (oErase S r).2.2 := by
  unfold oErase
  by_cases c : wi r 0 11
  · rw [if_neg (fun z => z c)]
    obtain ⟨g1, g2, g3⟩ := h
    refine ⟨g1, fun q hq => ?_, g3⟩
    by_cases e : q = r.toNatClampNeg
    · refine ⟨0, fun _ => 0, ⟨by decide, ?_, rfl, fun i h => absurd h (Nat.not_lt_zero i)⟩, ?_⟩
      · show upd (S 8) r.toNatClampNeg 0 q = nI 0
        rw [e, pk_us]; rfl
      · show upd (S 9) r.toNatClampNeg 0 q = nI 0
        rw [e, pk_us]; rfl
    · obtain ⟨n, d, ⟨b1, b2, b3, b4⟩, b5⟩ := g2 q hq
      refine ⟨n, d, ⟨b1, ?_, b3, b4⟩, ?_⟩
      · show upd (S 8) r.toNatClampNeg 0 q = nI n
        rw [pk_un e]; exact b2
      · show upd (S 9) r.toNatClampNeg 0 q = nI (d n)
        rw [pk_un e]; exact b5
  · rw [if_pos c]; exact h
theorem Inv_down {S : Ss} (h : Inv S) : Inv (oDown S).2 := by
  obtain ⟨a1, a2, a3, a4, a5, a6⟩ := h.1
  refine Inv_of h ⟨a1, a2, a3, a4, a5, fun r hr => ?_⟩ rfl rfl rfl rfl rfl (fun _ _ _ _ _ _ z => z)
  obtain ⟨n, d, ⟨b1, b2, b3, b4⟩, b5⟩ := h.2.1 r hr
  refine ⟨n, d, b1, ?_, b3, fun i hi => ?_⟩
  · show fillN (S 12) (S 8) 12 r = nI n
    unfold fillN
    rw [if_pos hr]; exact b2
  · show okO (S 0 0) (fillN (S 10) (S 6) 120 (10 * r + i)) (fillN (S 11) (S 7) 120 (10 * r + i)) ∧ stp (fillN (S 10) (S 6) 120 (10 * r + i)) (d i) (d (i + 1))
    unfold fillN
    rw [if_pos (by omega), if_pos (by omega)]
    exact b4 i hi
/-- the heights of a written rung -/
theorem d_le4 {S : Ss} {b r n : Nat} {d : Nat → Nat} (h : okRg S b r n d) : d n ≤ 4 := by
  obtain ⟨b1, b2, b3, b4⟩ := h
  cases n with
  | zero => rw [b3]; decide
  | succ n =>
    have h1 := (b4 n (by omega)).2
    rcases h1 with h | h | h <;> omega
theorem stp_of {op : Int32} {x : Nat} (h4 : x ≤ 4) (hn : ndd op ≤ nI x) (hg : nI x + grw op ≤ 4) : ∃ x', stp op x x' ∧ nI x + grw op = nI x' := by
  by_cases hp : psh op
  · have hg' := hg
    rw [grw_p hp, nI_1] at hg ⊢
    have h1 := (nI_leI (a := x + 1) (b := 4) (by omega) (by decide)).mp hg
    exact ⟨x + 1, Or.inl ⟨hp, rfl, by omega⟩, rfl⟩
  · by_cases hj : jns op
    · rw [grw_j hp hj]
      have h2 : (2 : Int32) ≤ nI x := by
        unfold ndd at hn
        rw [if_neg hp, if_pos hj] at hn
        exact hn
      have h1 := (nI_leI (a := 2) (b := x) (by decide) (by omega)).mp h2
      obtain ⟨y, rfl⟩ : ∃ y, x = y + 1 := ⟨x - 1, by omega⟩
      exact ⟨y, Or.inr (Or.inl ⟨hj, h1, rfl, h4⟩), pk_m1 y⟩
    · rw [grw_e hp hj, Int32.add_zero]
      have h2 : (1 : Int32) ≤ nI x := by
        unfold ndd at hn
        rw [if_neg hp, if_neg hj] at hn
        exact hn
      have h1 := (nI_leI (a := 1) (b := x) (by decide) (by omega)).mp h2
      exact ⟨x, Or.inr (Or.inr ⟨hp, hj, h1, rfl, h4⟩), rfl⟩
theorem Inv_add {S : Ss} {k n : Nat} {d : Nat → Nat} {op a : Int32} (h : Inv S) (hk : k < 12) (hw : wrn S k n d) (hn : n < 10) (hO : okO (S 0 0) op a) (hs : ndd op ≤ S 9 k ∧ S 9 k + grw op ≤ 4) : Inv (addW S k n op a) := by
  obtain ⟨g1, g2, g3⟩ := h
  refine ⟨g1, fun r hr => ?_, g3⟩
  by_cases e : r = k
  · subst e
    obtain ⟨⟨b1, b2, b3, b4⟩, b5⟩ := hw
    have h4 : d n ≤ 4 := d_le4 (S := S) (b := 6) (r := r) ⟨b1, b2, b3, b4⟩
    rw [b5] at hs
    obtain ⟨x', hx1, hx2⟩ := stp_of h4 hs.1 hs.2
    refine ⟨n + 1, fun i => if i = n + 1 then x' else d i, ⟨by omega, ?_, ?_, fun i hi => ?_⟩, ?_⟩
    · show upd (S 8) r (S 8 r + 1) r = nI (n + 1)
      have b2 : S 8 r = nI n := b2
      rw [pk_us, b2, nI_1]
    · show (if 0 = n + 1 then x' else d 0) = 0
      rw [if_neg (by omega)]; exact b3
    · show okO (S 0 0) (upd (S 6) (10 * r + n) op (10 * r + i)) (upd (S 7) (10 * r + n) a (10 * r + i)) ∧ stp (upd (S 6) (10 * r + n) op (10 * r + i)) (if i = n + 1 then x' else d i) (if i + 1 = n + 1 then x' else d (i + 1))
      rw [if_neg (show ¬ i = n + 1 by omega)]
      by_cases ei : i = n
      · subst ei
        rw [pk_us, pk_us, if_pos rfl]
        exact ⟨hO, hx1⟩
      · rw [pk_un (by omega), pk_un (by omega), if_neg (show ¬ i + 1 = n + 1 by omega)]
        exact b4 i (by omega)
    · show upd (S 9) r (S 9 r + grw op) r = nI (if n + 1 = n + 1 then x' else d (n + 1))
      rw [pk_us, if_pos rfl, b5, hx2]
  · obtain ⟨n2, d2, ⟨b1, b2, b3, b4⟩, b5⟩ := g2 r hr
    refine ⟨n2, d2, ⟨b1, ?_, b3, fun i hi => ?_⟩, ?_⟩
    · show upd (S 8) k (S 8 k + 1) r = nI n2
      rw [pk_un e]; exact b2
    · show okO (S 0 0) (upd (S 6) (10 * k + n) op (10 * r + i)) (upd (S 7) (10 * k + n) a (10 * r + i)) ∧ stp (upd (S 6) (10 * k + n) op (10 * r + i)) (d2 i) (d2 (i + 1))
      rw [pk_un (by omega), pk_un (by omega)]
      exact b4 i hi
    · show upd (S 9) k (S 9 k + grw op) r = nI (d2 n2)
      rw [pk_un e]; exact b5
theorem Inv_step {S : Ss} (h : Inv S) (r op a : Int32) : Inv (oStep S r op a).2.2 := by
  unfold oStep
  by_cases c1 : wi r 0 11 ∧ okO (S 0 0) op a
  · rw [if_neg (fun z => z c1)]
    by_cases c2 : ndd op ≤ S 9 r.toNatClampNeg ∧ S 9 r.toNatClampNeg + grw op ≤ 4
    · rw [if_neg (fun z => z c2)]
      by_cases c3 : 10 ≤ S 8 r.toNatClampNeg
      · rw [if_pos c3]; exact h
      · rw [if_neg c3]
        have hr := wi_cl c1.1 (n := 11) rfl (by decide)
        obtain ⟨n, d, hw⟩ := h.2.1 r.toNatClampNeg (by omega)
        have e8 : S 8 r.toNatClampNeg = nI n := hw.1.2.1
        have hn10 := hw.1.1
        have hn : n < 10 := by
          rcases Nat.lt_or_ge n 10 with z | z
          · exact z
          · exact absurd (by rw [e8]; exact nI_le z (by omega)) c3
        show Inv (addW S r.toNatClampNeg (S 8 r.toNatClampNeg).toNatClampNeg op a)
        rw [e8, nI_clamp (by omega)]
        exact Inv_add h (by omega) hw hn c1.2 c2
    · rw [if_pos c2]; exact h
  · rw [if_pos c1]; exact h
/-- a block more: what was allowed stays so -/
theorem okO_more {m : Nat} {op a : Int32} (hm : m < 10) (h : okO (nI m) op a) : okO (nI (m + 1)) op a := by
  by_cases e : op = 9
  · have h9 := okO_9 h e
    obtain ⟨j, hj, ej⟩ := wi_made (by omega) h9
    rw [e, ej]
    exact Or.inr (Or.inr (Or.inr (Or.inl ⟨rfl, made_wi (by omega) (by omega)⟩)))
  · rcases h with h | h | h | h | h | h
    · exact Or.inl h
    · exact Or.inr (Or.inl h)
    · exact Or.inr (Or.inr (Or.inl h))
    · exact absurd h.1 e
    · exact Or.inr (Or.inr (Or.inr (Or.inr (Or.inl h))))
    · exact Or.inr (Or.inr (Or.inr (Or.inr (Or.inr h))))
theorem okB_k {k a b : Int32} (h : okB k a b) : wi k 0 7 ∧ (k = 0 ∨ k = 1 ∨ k = 2 → wi a 1 100) ∧ (k = 2 → wi b 0 31) ∧ (5 ≤ k → wi a 0 7 ∧ wi b 0 7) := by
  simp only [okB, wi, Int32.le_iff_toInt_le, ← Int32.toInt_inj, Int32.reduceToInt] at *
  omega
theorem Inv_blk {S : Ss} {m : Nat} {k a b : Int32} (h : Inv S) (hm : m < 10) (em : S 0 0 = nI m) (hO : okB k a b) : Inv (blkW S m k a b) := by
  obtain ⟨g1, g2, g3⟩ := h
  obtain ⟨⟨m', hm', em', hB⟩, a2, a3, a4, a5, a6⟩ := g1
  have : m = m' := (nI_eq (by omega) (by omega)).mp (em.symm.trans em')
  subst this
  have e0 : blkW S m k a b 0 0 = nI (m + 1) := by
    show upd (S 0) 0 (S 0 0 + 1) 0 = nI (m + 1)
    rw [pk_us, em, nI_1]
  have hrg : ∀ (b9 r n : Nat) (d : Nat → Nat), (b9 = 6 ∨ b9 = 10) → okRg S b9 r n d → okRg (blkW S m k a b) b9 r n d := by
    intro b9 r n d hb hR
    obtain ⟨b1, b2, b3, b4⟩ := hR
    have hb9 : ∀ c, c = b9 ∨ c = b9 + 1 ∨ c = b9 + 2 → blkW S m k a b c = S c := by
      intro c hc
      unfold blkW
      rw [row_n (by omega), row_n (by omega), row_n (by omega), row_n (by omega)]
    refine ⟨b1, by rw [hb9 _ (Or.inr (Or.inr rfl))]; exact b2, b3, fun i hi => ?_⟩
    have h1 := b4 i hi
    rw [em] at h1
    rw [e0, hb9 _ (Or.inl rfl), hb9 _ (Or.inr (Or.inl rfl))]
    exact ⟨okO_more hm h1.1, h1.2⟩
  refine ⟨⟨⟨m + 1, by omega, e0, fun j hj => ?_⟩, a2, a3, a4, a5, fun r hr => ?_⟩, fun r hr => ?_, fun m2 hm2 em2 j h1 h2 => ?_⟩
  · by_cases ej : j = m
    · subst ej
      obtain ⟨z1, z2, z3, z4, z5⟩ := g3 j (by omega) em j (Nat.le_refl _) hm
      obtain ⟨k1, k2, k3, k4⟩ := okB_k hO
      show wi (upd (S 14) j k j) 0 7 ∧ (upd (S 14) j k j = 0 ∨ upd (S 14) j k j = 1 ∨ upd (S 14) j k j = 2 → wi (upd (S 15) j a j) 1 100) ∧ wi (S 20 j) 0 100 ∧ (upd (S 14) j k j = 2 → wi (upd (S 16) j b j) 0 31) ∧ (5 ≤ upd (S 14) j k j → wi (upd (S 15) j a j) 0 7 ∧ wi (upd (S 16) j b j) 0 7) ∧ rng (S 17 j) ∧ rng (S 18 j) ∧ (upd (S 14) j k j = 7 → S 18 j ≤ S 17 j) ∧ b01 (S 19 j) ∧ b01 (S 21 j) ∧ (upd (S 14) j k j = 2 → S 20 j ≤ upd (S 15) j a j)
      rw [pk_us, pk_us, pk_us, z1, z2, z3, z4, z5]
      exact ⟨k1, k2, by decide, k3, k4, ⟨by decide, by decide⟩, ⟨by decide, by decide⟩, fun _ => Int32.le_refl _, Or.inl rfl, Or.inl rfl, fun e => Int32.le_trans (by decide) (k2 (Or.inr (Or.inr e))).1⟩
    · have hb := hB j (by omega)
      show wi (upd (S 14) m k j) 0 7 ∧ (upd (S 14) m k j = 0 ∨ upd (S 14) m k j = 1 ∨ upd (S 14) m k j = 2 → wi (upd (S 15) m a j) 1 100) ∧ wi (S 20 j) 0 100 ∧ (upd (S 14) m k j = 2 → wi (upd (S 16) m b j) 0 31) ∧ (5 ≤ upd (S 14) m k j → wi (upd (S 15) m a j) 0 7 ∧ wi (upd (S 16) m b j) 0 7) ∧ rng (S 17 j) ∧ rng (S 18 j) ∧ (upd (S 14) m k j = 7 → S 18 j ≤ S 17 j) ∧ b01 (S 19 j) ∧ b01 (S 21 j) ∧ (upd (S 14) m k j = 2 → S 20 j ≤ upd (S 15) m a j)
      rw [pk_un ej, pk_un ej, pk_un ej]
      exact hb
  · obtain ⟨n, d, hR⟩ := a6 r hr
    exact ⟨n, d, hrg 10 r n d (Or.inr rfl) hR⟩
  · obtain ⟨n, d, hR, h9⟩ := g2 r hr
    exact ⟨n, d, hrg 6 r n d (Or.inl rfl) hR, h9⟩
  · rw [e0] at em2
    have : m + 1 = m2 := (nI_eq (by omega) (by omega)).mp em2
    exact g3 m (by omega) em j (by omega) h2
theorem Inv_block {S : Ss} (h : Inv S) (k a b : Int32) : Inv (oBlock S k a b).2.2 := by
  unfold oBlock
  by_cases c1 : okB k a b
  · rw [if_neg (fun z => z c1)]
    by_cases c2 : 10 ≤ S 0 0
    · rw [if_pos c2]; exact h
    · rw [if_neg c2]
      obtain ⟨m, hm, em⟩ := Inv_made h
      have hm10 : m < 10 := by
        rcases Nat.lt_or_ge m 10 with z | z
        · exact z
        · exact absurd (by rw [em]; exact nI_le z (by omega)) c2
      show Inv (blkW S (S 0 0).toNatClampNeg k a b)
      rw [em, nI_clamp (by omega)]
      exact Inv_blk h hm10 em c1
  · rw [if_pos c1]; exact h
theorem Inv_tune {S : Ss} (h : Inv S) (b f o : Int32) : Inv (oTune S b f o).2.2 := by
  unfold oTune
  by_cases c1 : wi b 0 (S 0 0 - 1)
  · rw [if_neg (fun z => z c1)]
    by_cases c2 : S 14 b.toNatClampNeg < 5
    · rw [if_pos c2]; exact h
    · rw [if_neg c2]
      by_cases c3 : ¬ (wi f (-65536) 65536 ∧ wi o (-65536) 65536) ∨ (S 14 b.toNatClampNeg = 7 ∧ f < o)
      · rw [if_pos c3]; exact h
      · rw [if_neg c3]
        obtain ⟨m, hm, em⟩ := Inv_made h
        rw [em] at c1
        obtain ⟨j, hj, rfl⟩ := wi_made hm c1
        show Inv (tunW S (nI j).toNatClampNeg f o)
        rw [nI_clamp (by omega)] at c2 c3 ⊢
        have hw : wi f (-65536) 65536 ∧ wi o (-65536) 65536 := Decidable.byContradiction (fun z => c3 (Or.inl z))
        have hf7 : S 14 j = 7 → o ≤ f := fun e => Int32.not_lt.mp (fun z => c3 (Or.inr ⟨e, z⟩))
        obtain ⟨⟨m', hm', em', hB⟩, a2, a3, a4, a5, a6⟩ := h.1
        have : m = m' := (nI_eq (by omega) (by omega)).mp (em.symm.trans em')
        subst this
        refine Inv_of h ⟨⟨m, hm, em, fun i hi => ?_⟩, a2, a3, a4, a5, a6⟩ rfl rfl rfl rfl rfl (fun m2 hm2 em2 i h1 h2 z => ?_)
        · obtain ⟨h1, h2, h3, h4, h5, h6, h7, h8, h9, h10, h11⟩ := hB i hi
          by_cases e : i = j
          · subst e
            refine ⟨h1, h2, h3, h4, h5, ?_, ?_, fun e7 => ?_, h9, h10, h11⟩
            · show rng (upd (S 17) i f i)
              rw [pk_us]; exact wi_rng9 hw.1
            · show rng (upd (S 18) i o i)
              rw [pk_us]; exact wi_rng9 hw.2
            · show upd (S 18) i o i ≤ upd (S 17) i f i
              rw [pk_us, pk_us]; exact hf7 e7
          · refine ⟨h1, h2, h3, h4, h5, ?_, ?_, fun e7 => ?_, h9, h10, h11⟩
            · show rng (upd (S 17) j f i)
              rw [pk_un e]; exact h6
            · show rng (upd (S 18) j o i)
              rw [pk_un e]; exact h7
            · show upd (S 18) j o i ≤ upd (S 17) j f i
              rw [pk_un e, pk_un e]; exact h8 e7
        · have : m = m2 := (nI_eq (by omega) (by omega)).mp (em.symm.trans em2)
          have e : i ≠ j := by omega
          obtain ⟨z1, z2, z3, z4, z5⟩ := z
          refine ⟨?_, ?_, z3, z4, z5⟩
          · show upd (S 17) j f i = 0
            rw [pk_un e]; exact z1
          · show upd (S 18) j o i = 0
            rw [pk_un e]; exact z2
  · rw [if_pos c1]; exact h
/-! scans keep what is written, and the blocks that are not made -/
def Kp (S S' : Ss) : Prop := S' 0 0 = S 0 0 ∧ S' 6 = S 6 ∧ S' 7 = S 7 ∧ S' 8 = S 8 ∧ S' 9 = S 9 ∧ ∀ m, m ≤ 10 → S 0 0 = nI m → ∀ j, m ≤ j → j < 10 → zr S j → zr S' j
theorem Kp_rf (S : Ss) : Kp S S := ⟨rfl, rfl, rfl, rfl, rfl, fun _ _ _ _ _ _ z => z⟩
theorem Kp_trans {S S1 S2 : Ss} (h1 : Kp S S1) (h2 : Kp S1 S2) : Kp S S2 := by
  obtain ⟨a0, a6, a7, a8, a9, az⟩ := h1
  obtain ⟨b0, b6, b7, b8, b9, bz⟩ := h2
  exact ⟨b0.trans a0, b6.trans a6, b7.trans a7, b8.trans a8, b9.trans a9, fun m hm em j h1 h2 z => bz m hm (a0.trans em) j h1 h2 (az m hm em j h1 h2 z)⟩
theorem Kp_bw {S : Ss} {j m : Nat} {x : Int32} (hm : m ≤ 10) (em : S 0 0 = nI m) (hj : j < m) : Kp S (bw S j x) := by
  refine ⟨rfl, rfl, rfl, rfl, rfl, fun m2 hm2 em2 i h1 h2 z => ?_⟩
  have : m = m2 := (nI_eq (by omega) (by omega)).mp (em.symm.trans em2)
  have e : i ≠ j := by omega
  obtain ⟨z1, z2, z3, z4, z5⟩ := z
  refine ⟨z1, z2, ?_, ?_, ?_⟩
  · show upd (S 19) j (outB S j x) i = 0
    rw [pk_un e]; exact z3
  · show upd (S 20) j (cntB S j x) i = 0
    rw [pk_un e]; exact z4
  · show upd (S 21) j x i = 0
    rw [pk_un e]; exact z5
theorem Kp_asg {S : Ss} {op t : Int32} {a : Nat} : Kp S (asg S op a t) := by
  have h : ∀ r, r ≠ 1 → asg S op a t r = S r := fun r hr => asg_row hr
  refine ⟨by rw [h 0 (by decide)], h 6 (by decide), h 7 (by decide), h 8 (by decide), h 9 (by decide), fun m _ _ j _ _ z => ?_⟩
  show asg S op a t 17 j = 0 ∧ asg S op a t 18 j = 0 ∧ asg S op a t 19 j = 0 ∧ asg S op a t 20 j = 0 ∧ asg S op a t 21 j = 0
  rw [h 17 (by decide), h 18 (by decide), h 19 (by decide), h 20 (by decide), h 21 (by decide)]
  exact z
theorem rgo_kp {S : Ss} {r n : Nat} {d : Nat → Nat} (hr : r < 12) (hR : okRg S 10 r n d) : ∀ (k i : Nat) (S1 : Ss) (l : List Int32), i + k = n → Gd S d i S1 l → Kp S1 (rgo r k i S1 l).2 := by
  intro k
  induction k with
  | zero => intro i S1 l _ h; exact Kp_rf S1
  | succ k ih =>
    intro i S1 l hik h
    obtain ⟨hO, hs⟩ := hR.2.2.2 i (by omega)
    obtain ⟨a1, a2, a3, a4, a5, a6, a7⟩ := id h
    have hO : okO (S 0 0) (S1 10 (10 * r + i)) (S1 11 (10 * r + i)) := by rw [a2, a3]; exact hO
    have hs : stp (S1 10 (10 * r + i)) (d i) (d (i + 1)) := by rw [a2]; exact hs
    rw [rgo]
    by_cases h13 : S1 10 (10 * r + i) = 13
    · rw [if_pos h13]
      by_cases ht : hd l = 1
      · rw [if_pos ht]; exact Kp_rf S1
      · rw [if_neg ht]
        exact ih (i + 1) S1 l (by omega) (Gd_13 h hs h13)
    · rw [if_neg h13]
      by_cases h9 : S1 10 (10 * r + i) = 9
      · rw [if_pos h9]
        by_cases hf : failB S1 (S1 11 (10 * r + i)).toNatClampNeg (hd l)
        · rw [if_pos hf]; exact Kp_rf S1
        · rw [if_neg hf]
          obtain ⟨m, hm, em, hB⟩ := a1.1
          obtain ⟨j, hj, ej⟩ := wi_made hm (by rw [← em, a5]; exact okO_9 hO h9)
          rw [ej, nI_clamp (by omega)]
          exact Kp_trans (Kp_bw hm em hj) (ih (i + 1) _ _ (by omega) (Gd_9 h hs h9 hm em hj))
      · rw [if_neg h9]
        by_cases h10 : 10 ≤ S1 10 (10 * r + i)
        · rw [if_pos h10]
          exact Kp_trans Kp_asg (ih (i + 1) _ _ (by omega) (Gd_10 h hs h10))
        · rw [if_neg h10]
          exact ih (i + 1) _ _ (by omega) (Gd_8 h hs hO h10 h9)
theorem rgr_kp {S : Ss} {r : Nat} (h : Pr S) (hr : r < 12) : Kp S (rgr S r).2 := by
  obtain ⟨n, d, hR⟩ := h.2.2.2.2.2 r hr
  rw [rgr_n hR]
  exact rgo_kp hr hR n 0 S [] (by omega) (Gd_0 h hR.2.2.1)
theorem pgo_kp : ∀ (n b r : Nat) (S : Ss), Pr S → r ≤ 12 → Kp S (pgo n b r S).2 := by
  intro n
  induction n with
  | zero => intro b r S h _; exact Kp_rf S
  | succ n ih =>
    intro b r S h hr
    by_cases h12 : r < 12
    · rw [pgo, if_pos h12]
      obtain ⟨a1, a2⟩ := rgr_ok h h12
      by_cases hn : (rgr S r).1 < 0
      · rw [if_pos hn]; exact rgr_kp h h12
      · rw [if_neg hn]
        obtain ⟨q, hq, e⟩ := a2.resolve_left (fun h => hn (by rw [h]; decide))
        rw [e, nI_clamp (by omega)]
        exact Kp_trans (rgr_kp h h12) (ih (b + 1) q _ a1.1 hq)
    · rw [pgo_12 h12]; exact Kp_rf S
theorem Kp_tin (S : Ss) : Kp S (tin S) := ⟨rfl, rfl, rfl, rfl, rfl, fun _ _ _ _ _ _ z => z⟩
theorem Kp_row0 {S : Ss} {f : Nat → Int32} (h : f 0 = S 0 0) : Kp S (row S 0 f) := ⟨h, rfl, rfl, rfl, rfl, fun _ _ _ _ _ _ z => z⟩
theorem Kp_row4 {S : Ss} {f : Nat → Int32} : Kp S (row S 4 f) := ⟨rfl, rfl, rfl, rfl, rfl, fun _ _ _ _ _ _ z => z⟩
theorem Kp_cout (S : Ss) : Kp S (cout S) := ⟨rfl, rfl, rfl, rfl, rfl, fun _ _ _ _ _ _ z => z⟩
theorem Kp_sout (S : Ss) : Kp S (sout S) := ⟨rfl, rfl, rfl, rfl, rfl, fun _ _ _ _ _ _ z => z⟩
theorem sc1_kp {S : Ss} (h : Pr S) : Kp S (sc1 S).2 := by
  have hp := Kp_trans (Kp_tin S) (pgo_kp 30 0 0 (tin S) (Pr_tin h) (by decide))
  unfold sc1
  dsimp only
  by_cases hn : (pgo 30 0 0 (tin S)).1 < 0
  · rw [if_pos hn]
    exact Kp_trans hp (Kp_trans (Kp_trans (Kp_row0 rfl) (Kp_row0 rfl)) (Kp_cout _))
  · rw [if_neg hn]
    exact Kp_trans hp (Kp_trans (Kp_row0 rfl) (Kp_sout _))
theorem scn_ok : ∀ (n : Nat) (b : Int32) (S : Ss), Pr S → Pr (scn n b S).2 ∧ Kp S (scn n b S).2 := by
  intro n
  induction n with
  | zero => intro b S h; exact ⟨h, Kp_rf S⟩
  | succ n ih =>
    intro b S h
    rw [scn]
    by_cases hn : (sc1 S).1 < 0
    · rw [if_pos hn]; exact ⟨(sc1_ok h).1, sc1_kp h⟩
    · rw [if_neg hn]
      obtain ⟨i1, i2⟩ := ih (b + (sc1 S).1) (sc1 S).2 (sc1_ok h).1
      exact ⟨i1, Kp_trans (sc1_kp h) i2⟩
theorem Inv_kp {S S' : Ss} (h : Inv S) (hP : Pr S') (hk : Kp S S') : Inv S' := Inv_of h hP hk.1 hk.2.1 hk.2.2.1 hk.2.2.2.1 hk.2.2.2.2.1 hk.2.2.2.2.2
theorem Inv_scan {S : Ss} (h : Inv S) (n : Int32) : Inv (oScan S n).2.2 := by
  obtain ⟨h1, h2⟩ := scn_ok n.toNatClampNeg 0 S h.1
  have h3 := Inv_kp h h1 h2
  unfold oScan
  by_cases c1 : wi n 1 20
  · rw [if_neg (fun z => z c1)]
    by_cases c2 : S 0 3 = 0
    · rw [if_neg (fun z => z c2)]
      by_cases c3 : (scn n.toNatClampNeg 0 S).1 = -1
      · rw [if_pos c3]; exact h3
      · rw [if_neg c3]
        by_cases c4 : (scn n.toNatClampNeg 0 S).1 = -2
        · rw [if_pos c4]; exact h3
        · rw [if_neg c4]; exact h3
    · rw [if_pos c2]; exact h
  · rw [if_pos c1]; exact h
theorem bit_S (S : Ss) (a : Int32) : (oBit S a).2.2 = S := by
  unfold oBit
  by_cases c : wi a 0 31
  · rw [if_neg (fun z => z c)]
  · rw [if_pos c]
theorem out_S (S : Ss) (a : Int32) : (oOut S a).2.2 = S := by
  unfold oOut
  by_cases c : wi a 8 15
  · rw [if_neg (fun z => z c)]
  · rw [if_pos c]
theorem reg_S (S : Ss) (a : Int32) : (oReg S a).2.2 = S := by
  unfold oReg
  by_cases c : wi a 0 7
  · rw [if_neg (fun z => z c)]
  · rw [if_pos c]
theorem state_S (S : Ss) (a b : Int32) : (oState S a b).2.2 = S := by
  unfold oState
  by_cases c : wi a 0 (S 0 0 - 1)
  · rw [if_neg (fun z => z c)]
    by_cases c0 : b = 0
    · rw [if_pos c0]
    · rw [if_neg c0]
      by_cases c1 : b = 1
      · rw [if_pos c1]
      · rw [if_neg c1]
        by_cases c2 : b = 2
        · rw [if_pos c2]
        · rw [if_neg c2]
  · rw [if_pos c]
theorem count_S (S : Ss) (a : Int32) : (oCount S a).2.2 = S := by
  unfold oCount
  by_cases c0 : a = 0
  · rw [if_pos c0]
  · rw [if_neg c0]
    by_cases c1 : a = 1
    · rw [if_pos c1]
    · rw [if_neg c1]
      by_cases c2 : a = 2
      · rw [if_pos c2]
      · rw [if_neg c2]
        by_cases c3 : a = 3
        · rw [if_pos c3]
        · rw [if_neg c3]
          by_cases c4 : a = 4
          · rw [if_pos c4]
          · rw [if_neg c4]
            by_cases c5 : a = 5
            · rw [if_pos c5]
            · rw [if_neg c5]
/-- what step needs of rung a -/
theorem Inv_rung {S : Ss} (h : Inv S) (a : Int32) : ∃ n h0 : Nat, a.toNatClampNeg < 12 → n ≤ 10 ∧ S 8 a.toNatClampNeg = nI n ∧ h0 ≤ 4 ∧ S 9 a.toNatClampNeg = nI h0 := by
  by_cases c : a.toNatClampNeg < 12
  · obtain ⟨n, d, h1, h2⟩ := h.2.1 _ c
    exact ⟨n, d n, fun _ => ⟨h1.1, h1.2.1, d_le4 h1, h2⟩⟩
  · exact ⟨0, 0, fun z => absurd z c⟩
