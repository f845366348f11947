/-! what holds of every state of a run -/
abbrev b01 (v : Int32) : Prop := v = 0 ∨ v = 1
abbrev stp (op : Int32) (d d' : Nat) : Prop := (psh op ∧ d' = d + 1 ∧ d ≤ 3) ∨ (jns op ∧ 2 ≤ d ∧ d' + 1 = d ∧ d ≤ 4) ∨ (¬ psh op ∧ ¬ jns op ∧ 1 ≤ d ∧ d' = d ∧ d ≤ 4)
/-- rung r of the rows b, b + 1, b + 2: its n steps, the stack's heights d -/
def okRg (S : Ss) (b r n : Nat) (d : Nat → Nat) : Prop := n ≤ 10 ∧ S (b + 2) r = nI n ∧ d 0 = 0 ∧ ∀ i, i < n → okO (S 0 0) (S b (10 * r + i)) (S (b + 1) (10 * r + i)) ∧ stp (S b (10 * r + i)) (d i) (d (i + 1))
def okBk (S : Ss) (j : Nat) : Prop :=
  wi (S 14 j) 0 7 ∧ (S 14 j = 0 ∨ S 14 j = 1 ∨ S 14 j = 2 → wi (S 15 j) 1 100) ∧ wi (S 20 j) 0 100 ∧ (S 14 j = 2 → wi (S 16 j) 0 31) ∧ (5 ≤ S 14 j → wi (S 15 j) 0 7 ∧ wi (S 16 j) 0 7) ∧ rng (S 17 j) ∧ rng (S 18 j) ∧ (S 14 j = 7 → S 18 j ≤ S 17 j) ∧ b01 (S 19 j) ∧ b01 (S 21 j) ∧ (S 14 j = 2 → S 20 j ≤ S 15 j)
/-- what a scan needs -/
def Pr (S : Ss) : Prop := (∃ m : Nat, m ≤ 10 ∧ S 0 0 = nI m ∧ ∀ j, j < m → okBk S j) ∧ (∀ i, i < 32 → b01 (S 1 i)) ∧ (∀ i, i < 32 → S 2 i = -1 ∨ b01 (S 2 i)) ∧ (∀ i, i < 8 → b01 (S 3 i)) ∧ (∀ i, i < 8 → rng (S 5 i)) ∧ ∀ r, r < 12 → ∃ (n : Nat) (d : Nat → Nat), okRg S 10 r n d
theorem ex_nat {a : Int32} {n : Nat} (h0 : 0 ≤ a.toInt) (h1 : a.toInt ≤ (n : Int)) (hn : n < 2 ^ 31) : ∃ k, k ≤ n ∧ a = nI k :=
  ⟨a.toInt.toNat, by omega, Int32.toInt_inj.mp (by rw [nI_toInt (by omega)]; omega)⟩
theorem wi_ex {a : Int32} {M : Int32} {n : Nat} (h : wi a 0 M) (hM : M.toInt = (n : Int)) (hn : n < 2 ^ 31) : ∃ k, k ≤ n ∧ a = nI k := by
  obtain ⟨h1, h2⟩ := h
  have h3 := Int32.le_iff_toInt_le.mp h1
  have h4 := Int32.le_iff_toInt_le.mp h2
  have e0 : (0 : Int32).toInt = 0 := rfl
  exact ex_nat (by omega) (by omega) hn
theorem wi_made {a : Int32} {m : Nat} (hm : m ≤ 10) (h : wi a 0 (nI m - 1)) : ∃ j, j < m ∧ a = nI j := by
  have e1 : (1 : Int32).toInt = 1 := rfl
  have e : (nI m - 1).toInt = (m : Int) - 1 := by
    have := nI_toInt (n := m) (by omega)
    rw [i32_sub, e1, this] <;> rw [e1, this] <;> omega
  obtain ⟨h1, h2⟩ := h
  have h3 := Int32.le_iff_toInt_le.mp h1
  have h4 := Int32.le_iff_toInt_le.mp h2
  have e0 : (0 : Int32).toInt = 0 := rfl
  obtain ⟨j, hj, ea⟩ := ex_nat (a := a) (n := m - 1) (by omega) (by omega) (by omega)
  exact ⟨j, by omega, ea⟩
theorem made_wi {j m : Nat} (hm : m ≤ 10) (h : j < m) : wi (nI j) 0 (nI m - 1) := by
  have e1 : (1 : Int32).toInt = 1 := rfl
  have h0 := nI_toInt (n := m) (by omega)
  have h2 := nI_toInt (n := j) (by omega)
  have e : (nI m - 1).toInt = (m : Int) - 1 := by
    rw [i32_sub, e1, h0] <;> rw [e1, h0] <;> omega
  have e0 : (0 : Int32).toInt = 0 := rfl
  exact ⟨Int32.le_iff_toInt_le.mpr (by omega), Int32.le_iff_toInt_le.mpr (by omega)⟩
theorem rd01 {S : Ss} (h1 : ∀ i, i < 32 → b01 (S 1 i)) (h2 : ∀ i, i < 32 → S 2 i = -1 ∨ b01 (S 2 i)) {k : Nat} (hk : k < 32) : b01 (rd S k) := by
  unfold rd
  by_cases h : S 2 k = -1
  · rw [if_pos h]; exact h1 k hk
  · rw [if_neg h]; exact (h2 k hk).resolve_left h
/-- the operands of the steps -/
theorem okO_13 {m op a : Int32} (h : okO m op a) (e : op = 13) : wi a 0 11 := by
  subst e
  simp only [okO, wi, Int32.le_iff_toInt_le, ← Int32.toInt_inj, Int32.reduceToInt] at h ⊢
  omega
theorem okO_9 {m op a : Int32} (h : okO m op a) (e : op = 9) : wi a 0 (m - 1) := by
  subst e
  simp only [okO, wi, Int32.le_iff_toInt_le, ← Int32.toInt_inj, Int32.reduceToInt] at h ⊢
  omega
theorem okO_10 {m op a : Int32} (h : okO m op a) (e : 10 ≤ op) (n : ¬ op = 13) : wi op 10 12 ∧ wi a 8 31 := by
  simp only [okO, wi, Int32.le_iff_toInt_le, ← Int32.toInt_inj, Int32.reduceToInt] at h e n ⊢
  omega
theorem okO_8 {m op a : Int32} (h : okO m op a) (e : ¬ 10 ≤ op) (n : ¬ op = 9) : wi op 0 8 ∧ (¬ op = 6 → ¬ op = 7 → wi a 0 63 ∧ (¬ op = 8 → wi a 0 31)) := by
  simp only [okO, wi, Int32.le_iff_toInt_le, ← Int32.toInt_inj, Int32.reduceToInt] at h e n ⊢
  omega
/-- all stacks -/
def bl : Nat → List (List Int32)
  | 0 => [[]]
  | n + 1 => (bl n).flatMap (fun l => [0 :: l, 1 :: l])
theorem bl_mem : ∀ (l : List Int32), (∀ v ∈ l, b01 v) → l ∈ bl l.length := by
  intro l
  induction l with
  | nil => intro _; exact List.mem_singleton.mpr rfl
  | cons v t ih =>
    intro h
    have ht := ih (fun w hw => h w (List.mem_cons_of_mem _ hw))
    refine List.mem_flatMap.mpr ⟨t, ht, ?_⟩
    rcases h v List.mem_cons_self with rfl | rfl
    · exact List.mem_cons_self
    · exact List.mem_cons_of_mem _ List.mem_cons_self
def bl4 : List (List Int32) := bl 0 ++ (bl 1 ++ (bl 2 ++ (bl 3 ++ bl 4)))
theorem bl4_mem {l : List Int32} (h : ∀ v ∈ l, b01 v) (hl : l.length ≤ 4) : l ∈ bl4 := by
  have h1 := bl_mem l h
  unfold bl4
  simp only [List.mem_append]
  match hn : l.length, hl with
  | 0, _ => rw [hn] at h1; exact Or.inl h1
  | 1, _ => rw [hn] at h1; exact Or.inr (Or.inl h1)
  | 2, _ => rw [hn] at h1; exact Or.inr (Or.inr (Or.inl h1))
  | 3, _ => rw [hn] at h1; exact Or.inr (Or.inr (Or.inr (Or.inl h1)))
  | 4, _ => rw [hn] at h1; exact Or.inr (Or.inr (Or.inr (Or.inr h1)))
theorem pk_top {l : List Int32} (h : ∀ v ∈ l, b01 v) (hl : l.length ≤ 4) : pk l &&& 1 = hd l := by
  have : ∀ l ∈ bl4, pk l &&& 1 = hd l := by decide +kernel
  exact this l (bl4_mem h hl)
theorem pk_with {l : List Int32} (h : ∀ v ∈ l, b01 v) (hl : l.length ≤ 4) {v : Int32} (hv : b01 v) : (pk l &&& (-2)) ||| v = pk (v :: l.tail) := by
  have : ∀ l ∈ bl4, ∀ v ∈ [(0 : Int32), 1], (pk l &&& (-2)) ||| v = pk (v :: l.tail) := by decide +kernel
  refine this l (bl4_mem h hl) v ?_
  rcases hv with rfl | rfl <;> simp
theorem pk_andv {l : List Int32} (h : ∀ v ∈ l, b01 v) (hl : l.length ≤ 4) {v : Int32} (hv : b01 v) : pk l &&& v = hd l &&& v := by
  have : ∀ l ∈ bl4, ∀ v ∈ [(0 : Int32), 1], pk l &&& v = hd l &&& v := by decide +kernel
  refine this l (bl4_mem h hl) v ?_
  rcases hv with rfl | rfl <;> simp
theorem pk_and2 {l : List Int32} (h : ∀ v ∈ l, b01 v) (hl : l.length ≤ 4) : ((pk l >>> ((1 : Int32) &&& 31)) &&& (-2)) ||| (((pk l >>> ((1 : Int32) &&& 31)) &&& pk l) &&& 1) = pk ((hd l.tail &&& hd l) :: l.tail.tail) := by
  have : ∀ l ∈ bl4, ((pk l >>> ((1 : Int32) &&& 31)) &&& (-2)) ||| (((pk l >>> ((1 : Int32) &&& 31)) &&& pk l) &&& 1) = pk ((hd l.tail &&& hd l) :: l.tail.tail) := by decide +kernel
  exact this l (bl4_mem h hl)
theorem pk_or2 {l : List Int32} (h : ∀ v ∈ l, b01 v) (hl : l.length ≤ 4) : ((pk l >>> ((1 : Int32) &&& 31)) &&& (-2)) ||| (((pk l >>> ((1 : Int32) &&& 31)) ||| pk l) &&& 1) = pk ((hd l.tail ||| hd l) :: l.tail.tail) := by
  have : ∀ l ∈ bl4, ((pk l >>> ((1 : Int32) &&& 31)) &&& (-2)) ||| (((pk l >>> ((1 : Int32) &&& 31)) ||| pk l) &&& 1) = pk ((hd l.tail ||| hd l) :: l.tail.tail) := by decide +kernel
  exact this l (bl4_mem h hl)
theorem hd01 {l : List Int32} (h : ∀ v ∈ l, b01 v) : b01 (hd l) := by
  cases l with
  | nil => exact Or.inl rfl
  | cons v t => exact h v List.mem_cons_self
theorem tl01 {l : List Int32} (h : ∀ v ∈ l, b01 v) : ∀ v ∈ l.tail, b01 v := fun v hv => h v (List.mem_of_mem_tail hv)
theorem and01 {a b : Int32} (ha : b01 a) (hb : b01 b) : b01 (a &&& b) := by
  rcases ha with rfl | rfl <;> rcases hb with rfl | rfl <;> decide
theorem or01 {a b : Int32} (ha : b01 a) (hb : b01 b) : b01 (a ||| b) := by
  rcases ha with rfl | rfl <;> rcases hb with rfl | rfl <;> decide
theorem not01 {a : Int32} (ha : b01 a) : b01 (1 - a) := by
  rcases ha with rfl | rfl <;> decide
theorem b2_b01 (P : Prop) [Decidable P] : b01 (b2 P) := b2_01 P
theorem k08 {k : Int32} (h : wi k 0 8) (h0 : ¬ k = 0) (h1 : ¬ k = 1) (h2 : ¬ k = 2) (h3 : ¬ k = 3) (h4 : ¬ k = 4) (h5 : ¬ k = 5) (h6 : ¬ k = 6) (h7 : ¬ k = 7) (h8 : ¬ k = 8) : False := by
  simp only [wi, Int32.le_iff_toInt_le, ← Int32.toInt_inj, Int32.reduceToInt] at *
  omega
