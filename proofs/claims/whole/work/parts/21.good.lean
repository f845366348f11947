/-! the invariant is kept -/
theorem wi_cl {a M : Int32} {n : Nat} (h : wi a 0 M) (hM : M.toInt = (n : Int)) (hn : n < 2 ^ 31) : a.toNatClampNeg ≤ n ∧ a = nI a.toNatClampNeg := by
  obtain ⟨k, hk, e⟩ := wi_ex h hM hn
  subst e
  rw [nI_clamp (by omega)]
  exact ⟨hk, rfl⟩
theorem Pr_bits {S : Ss} {f : Nat → Int32} (h : Pr S) (hf : ∀ i, i < 32 → b01 (f i)) : Pr (row S 1 f) := ⟨h.1, hf, h.2.2.1, h.2.2.2.1, h.2.2.2.2.1, h.2.2.2.2.2⟩
theorem Pr_regs {S : Ss} {f : Nat → Int32} (h : Pr S) (hf : ∀ i, i < 8 → rng (f i)) : Pr (row S 5 f) := ⟨h.1, h.2.1, h.2.2.1, h.2.2.2.1, hf, h.2.2.2.2.2⟩
theorem Pr_outs {S : Ss} {f : Nat → Int32} (h : Pr S) : Pr (row S 4 f) := ⟨h.1, h.2.1, h.2.2.1, h.2.2.2.1, h.2.2.2.2.1, h.2.2.2.2.2⟩
theorem upd_all {P : Int32 → Prop} {f : Nat → Int32} {n k : Nat} {v : Int32} (h : ∀ i, i < n → P (f i)) (hv : P v) : ∀ i, i < n → P (upd f k v i) := by
  intro i hi
  by_cases e : i = k
  · subst e; rw [pk_us]; exact hv
  · rw [pk_un e]; exact h i hi
theorem upd_at {P : Int32 → Prop} {f : Nat → Int32} {k i : Nat} {v : Int32} (h : P (f i)) (hv : i = k → P v) : P (upd f k v i) := by
  by_cases e : i = k
  · rw [e, pk_us]; exact hv e
  · rw [pk_un e]; exact h
theorem okBk_19 {S : Ss} {j i : Nat} {v : Int32} (h : okBk S i) (hv : b01 v) : okBk (row S 19 (upd (S 19) j v)) i := by
  obtain ⟨h1, h2, h3, h4, h5, h6, h7, h8, h9, h10, h11⟩ := h
  exact ⟨h1, h2, h3, h4, h5, h6, h7, h8, upd_at (P := b01) h9 (fun _ => hv), h10, h11⟩
theorem okBk_20 {S : Ss} {j i : Nat} {v : Int32} (h : okBk S i) (hv : wi v 0 100) (hp : S 14 j = 2 → v ≤ S 15 j) : okBk (row S 20 (upd (S 20) j v)) i := by
  obtain ⟨h1, h2, h3, h4, h5, h6, h7, h8, h9, h10, h11⟩ := h
  exact ⟨h1, h2, upd_at (P := fun z => wi z 0 100) h3 (fun _ => hv), h4, h5, h6, h7, h8, h9, h10, fun k2 => upd_at (P := fun z => z ≤ S 15 i) (h11 k2) (fun e => by subst e; exact hp k2)⟩
theorem okBk_21 {S : Ss} {j i : Nat} {v : Int32} (h : okBk S i) (hv : b01 v) : okBk (row S 21 (upd (S 21) j v)) i := by
  obtain ⟨h1, h2, h3, h4, h5, h6, h7, h8, h9, h10, h11⟩ := h
  exact ⟨h1, h2, h3, h4, h5, h6, h7, h8, h9, upd_at (P := b01) h10 (fun _ => hv), h11⟩
theorem Pr_19 {S : Ss} {j : Nat} {v : Int32} (h : Pr S) (hv : b01 v) : Pr (row S 19 (upd (S 19) j v)) := by
  obtain ⟨⟨m, hm, e, hB⟩, h2⟩ := h
  exact ⟨⟨m, hm, e, fun i hi => okBk_19 (hB i hi) hv⟩, h2⟩
theorem Pr_20 {S : Ss} {j : Nat} {v : Int32} (h : Pr S) (hv : wi v 0 100) (hp : S 14 j = 2 → v ≤ S 15 j) : Pr (row S 20 (upd (S 20) j v)) := by
  obtain ⟨⟨m, hm, e, hB⟩, h2⟩ := h
  exact ⟨⟨m, hm, e, fun i hi => okBk_20 (hB i hi) hv hp⟩, h2⟩
theorem Pr_21 {S : Ss} {j : Nat} {v : Int32} (h : Pr S) (hv : b01 v) : Pr (row S 21 (upd (S 21) j v)) := by
  obtain ⟨⟨m, hm, e, hB⟩, h2⟩ := h
  exact ⟨⟨m, hm, e, fun i hi => okBk_21 (hB i hi) hv⟩, h2⟩
theorem inc_rng {c p : Int32} (hc : wi c 0 100) (hp : wi p 1 100) : wi (if c < p then c + 1 else p) 0 100 := by
  obtain ⟨h1, h2⟩ := hc
  obtain ⟨h3, h4⟩ := hp
  by_cases h : c < p
  · rw [if_pos h]
    simp only [Int32.le_iff_toInt_le, Int32.lt_iff_toInt_lt, Int32.reduceToInt, wi] at *
    have e1 : (1 : Int32).toInt = 1 := rfl
    have e : (c + 1).toInt = c.toInt + 1 := by rw [i32_add, e1] <;> rw [e1] <;> omega
    omega
  · rw [if_neg h]
    simp only [Int32.le_iff_toInt_le, Int32.lt_iff_toInt_lt, Int32.reduceToInt, wi] at *
    omega
theorem dec_rng {c : Int32} (hc : wi c 0 100) : wi (if 0 < c then c - 1 else 0) 0 100 := by
  obtain ⟨h1, h2⟩ := hc
  by_cases h : 0 < c
  · rw [if_pos h]
    simp only [Int32.le_iff_toInt_le, Int32.lt_iff_toInt_lt, Int32.reduceToInt, wi] at *
    have e1 : (1 : Int32).toInt = 1 := rfl
    have e : (c - 1).toInt = c.toInt - 1 := by rw [i32_sub, e1] <;> rw [e1] <;> omega
    omega
  · rw [if_neg h]; decide
theorem p_rng {p : Int32} (hp : wi p 1 100) : wi p 0 100 := by
  simp only [Int32.le_iff_toInt_le, Int32.reduceToInt, wi] at *
  omega
theorem cnt_rng {S : Ss} {j : Nat} {x : Int32} (h : okBk S j) : wi (cntB S j x) 0 100 := by
  obtain ⟨h1, h2, h3, h4, h5, h6, h7, h8, h9, h10, h11⟩ := h
  unfold cntB
  by_cases k0 : S 14 j = 0
  · rw [if_pos k0]
    by_cases hx : x = 1
    · rw [if_pos hx]; exact inc_rng h3 (h2 (Or.inl k0))
    · rw [if_neg hx]; decide
  · rw [if_neg k0]
    by_cases k1 : S 14 j = 1
    · rw [if_pos k1]
      by_cases hx : x = 1
      · rw [if_pos hx]; exact p_rng (h2 (Or.inr (Or.inl k1)))
      · rw [if_neg hx]; exact dec_rng h3
    · rw [if_neg k1]
      by_cases k2 : S 14 j = 2
      · rw [if_pos k2]
        by_cases hr : rd S (S 16 j).toNatClampNeg = 1
        · rw [if_pos hr]; decide
        · rw [if_neg hr]
          by_cases hx : x = 1 ∧ S 21 j = 0
          · rw [if_pos hx]; exact inc_rng h3 (h2 (Or.inr (Or.inr k2)))
          · rw [if_neg hx]; exact h3
      · rw [if_neg k2]; exact h3
theorem cnt_le {S : Ss} {j : Nat} {x : Int32} (h : okBk S j) (k2 : S 14 j = 2) : cntB S j x ≤ S 15 j := by
  obtain ⟨h1, h2, h3, h4, h5, h6, h7, h8, h9, h10, h11⟩ := h
  have hp := h2 (Or.inr (Or.inr k2))
  unfold cntB
  rw [if_neg (by rw [k2]; decide), if_neg (by rw [k2]; decide), if_pos k2]
  by_cases hr : rd S (S 16 j).toNatClampNeg = 1
  · rw [if_pos hr]; exact Int32.le_trans (by decide) hp.1
  · rw [if_neg hr]
    by_cases hx : x = 1 ∧ S 21 j = 0
    · rw [if_pos hx]
      by_cases hc : S 20 j < S 15 j
      · rw [if_pos hc]
        obtain ⟨h13, h14⟩ := h3
        simp only [Int32.le_iff_toInt_le, Int32.lt_iff_toInt_lt, Int32.reduceToInt] at *
        have e1 : (1 : Int32).toInt = 1 := rfl
        have e : (S 20 j + 1).toInt = (S 20 j).toInt + 1 := by rw [i32_add, e1] <;> rw [e1] <;> omega
        omega
      · rw [if_neg hc]; exact Int32.le_refl _
    · rw [if_neg hx]; exact h11 k2
theorem out_01 {S : Ss} {j : Nat} {x : Int32} (hx : b01 x) : b01 (outB S j x) := by
  unfold outB
  by_cases k0 : S 14 j = 0
  · rw [if_pos k0]; exact b2_b01 _
  · rw [if_neg k0]
    by_cases k1 : S 14 j = 1
    · rw [if_pos k1]; exact b2_b01 _
    · rw [if_neg k1]
      by_cases k2 : S 14 j = 2
      · rw [if_pos k2]; exact b2_b01 _
      · rw [if_neg k2]
        by_cases k3 : S 14 j = 3
        · rw [if_pos k3]; exact b2_b01 _
        · rw [if_neg k3]
          by_cases k4 : S 14 j = 4
          · rw [if_pos k4]; exact b2_b01 _
          · rw [if_neg k4]; exact hx
theorem clc_rng {k v f o : Int32} (hv : rng v) (hf : rng f) (ho : rng o) : rng (clc k v f o) := by
  unfold clc
  by_cases h5 : k = 5
  · rw [if_pos h5]; exact fitI_rng _
  · rw [if_neg h5]
    by_cases h7 : k = 7
    · rw [if_pos h7]
      by_cases h1 : v < o
      · rw [if_pos h1]; exact ho
      · rw [if_neg h1]
        by_cases h2 : f < v
        · rw [if_pos h2]; exact hf
        · rw [if_neg h2]; exact hv
    · rw [if_neg h7]; exact fitI_rng _
theorem reg_rng {S : Ss} {j : Nat} {x : Int32} (h : okBk S j) (hr : ∀ i, i < 8 → rng (S 5 i)) : ∀ i, i < 8 → rng (regB S j x i) := by
  obtain ⟨h1, h2, h3, h4, h5, h6, h7, h8, h9, h10, h11⟩ := h
  unfold regB
  by_cases hx : 5 ≤ S 14 j ∧ x = 1
  · rw [if_pos hx]
    have hp := wi_cl (h5 hx.1).1 (n := 7) rfl (by decide)
    exact upd_all (P := rng) hr (clc_rng (hr _ (by omega)) h6 h7)
  · rw [if_neg hx]; exact hr
theorem Pr_bw {S : Ss} {j m : Nat} {x : Int32} (h : Pr S) (hm : m ≤ 10) (em : S 0 0 = nI m) (hj : j < m) (hx : b01 x) : Pr (bw S j x) := by
  have hB : okBk S j := by
    obtain ⟨⟨m', hm', em', hB⟩, -⟩ := h
    rw [em] at em'
    have : m = m' := (nI_eq (by omega) (by omega)).mp em'
    exact hB j (by omega)
  have a1 : Pr (row S 5 (regB S j x)) := Pr_regs h (reg_rng hB h.2.2.2.2.1)
  have a2 := Pr_20 (j := j) a1 (cnt_rng (x := x) hB) (cnt_le (x := x) hB)
  have a3 := Pr_19 (j := j) a2 (out_01 (S := S) (j := j) hx)
  exact Pr_21 (j := j) a3 hx
theorem okW_of {S : Ss} {j : Nat} {x : Int32} (h : okBk S j) (hr : ∀ i, i < 8 → rng (S 5 i)) (hx : b01 x) (hf : ¬ failB S j x) : okW S j x (S 16 j).toNatClampNeg (S 15 j).toNatClampNeg := by
  obtain ⟨h1, h2, h3, h4, h5, h6, h7, h8, h9, h10, h11⟩ := h
  refine ⟨hx, h1, h2, h3, fun k2 => ?_, fun k5 => ?_, fun k5 => ?_, hr, h6, h7, h8, hf⟩
  · have := wi_cl (h4 k2) (n := 31) rfl (by decide)
    exact ⟨by omega, this.2⟩
  · have := wi_cl (h5 k5).1 (n := 7) rfl (by decide)
    exact ⟨by omega, this.2⟩
  · have := wi_cl (h5 k5).2 (n := 7) rfl (by decide)
    exact ⟨by omega, this.2⟩
theorem Pr_asg {S : Ss} {op t : Int32} {a : Nat} (h : Pr S) (ht : b01 t) : Pr (asg S op a t) := by
  unfold asg
  by_cases h1 : op = 10
  · rw [if_pos h1]; exact Pr_bits h (upd_all (P := b01) h.2.1 ht)
  · rw [if_neg h1]
    by_cases h2 : t = 1
    · rw [if_pos h2]; exact Pr_bits h (upd_all (P := b01) h.2.1 (b2_b01 _))
    · rw [if_neg h2]; exact h
theorem Pr_tin {S : Ss} (h : Pr S) : Pr (tin S) := by
  refine Pr_bits h (fun i hi => ?_)
  by_cases h8 : i < 8
  · rw [if_pos h8]; exact h.2.2.2.1 i h8
  · rw [if_neg h8]; exact h.2.1 i hi
/-- a good point of a rung's walk: S the state at its beginning, d its heights, i steps done -/
def Gd (S : Ss) (d : Nat → Nat) (i : Nat) (S1 : Ss) (l : List Int32) : Prop := Pr S1 ∧ S1 10 = S 10 ∧ S1 11 = S 11 ∧ S1 12 = S 12 ∧ S1 0 = S 0 ∧ l.length = d i ∧ ∀ v ∈ l, b01 v
theorem sta_01 {S : Ss} {l : List Int32} {op : Int32} {q : Nat} (h : ∀ v ∈ l, b01 v) (hr : ¬ op = 6 → ¬ op = 7 → ¬ op = 8 → b01 (rd S q)) (ho : wi op 0 8) : ∀ v ∈ stA S l op q, b01 v := by
  have c1 : ∀ {v : Int32} {t : List Int32}, b01 v → (∀ w ∈ t, b01 w) → ∀ w ∈ v :: t, b01 w := fun hv ht w hw => (List.mem_cons.mp hw).elim (fun e => by rw [e]; exact hv) (ht w)
  unfold stA
  by_cases k0 : op = 0
  · rw [if_pos k0]; exact c1 (hr (by rw [k0]; decide) (by rw [k0]; decide) (by rw [k0]; decide)) h
  rw [if_neg k0]
  by_cases k1 : op = 1
  · rw [if_pos k1]; exact c1 (not01 (hr (by rw [k1]; decide) (by rw [k1]; decide) (by rw [k1]; decide))) h
  rw [if_neg k1]
  by_cases k2 : op = 2
  · rw [if_pos k2]; exact c1 (and01 (hd01 h) (hr (by rw [k2]; decide) (by rw [k2]; decide) (by rw [k2]; decide))) (tl01 h)
  rw [if_neg k2]
  by_cases k3 : op = 3
  · rw [if_pos k3]; exact c1 (and01 (hd01 h) (not01 (hr (by rw [k3]; decide) (by rw [k3]; decide) (by rw [k3]; decide)))) (tl01 h)
  rw [if_neg k3]
  by_cases k4 : op = 4
  · rw [if_pos k4]; exact c1 (or01 (hd01 h) (hr (by rw [k4]; decide) (by rw [k4]; decide) (by rw [k4]; decide))) (tl01 h)
  rw [if_neg k4]
  by_cases k5 : op = 5
  · rw [if_pos k5]; exact c1 (or01 (hd01 h) (not01 (hr (by rw [k5]; decide) (by rw [k5]; decide) (by rw [k5]; decide)))) (tl01 h)
  rw [if_neg k5]
  by_cases k6 : op = 6
  · rw [if_pos k6]; exact c1 (and01 (hd01 (tl01 h)) (hd01 h)) (tl01 (tl01 h))
  rw [if_neg k6]
  by_cases k7 : op = 7
  · rw [if_pos k7]; exact c1 (or01 (hd01 (tl01 h)) (hd01 h)) (tl01 (tl01 h))
  rw [if_neg k7]
  exact c1 (b2_b01 _) h
theorem sta_len {S : Ss} {l : List Int32} {op : Int32} {q d d' : Nat} (ho : wi op 0 8) (hl : l.length = d) (hs : stp op d d') : (stA S l op q).length = d' := by
  have ho' : op = 0 ∨ op = 1 ∨ op = 2 ∨ op = 3 ∨ op = 4 ∨ op = 5 ∨ op = 6 ∨ op = 7 ∨ op = 8 := by
    simp only [wi, Int32.le_iff_toInt_le, ← Int32.toInt_inj, Int32.reduceToInt] at ho ⊢
    omega
  rcases ho' with rfl | rfl | rfl | rfl | rfl | rfl | rfl | rfl | rfl <;> simp [stp, psh, jns] at hs <;> simp [stA] <;> omega
