/-! the model's stack: the list L of its values, the top first -/
def stL (f : Nat → Int32) : List Int32 → Prop
  | [] => True
  | v :: l => f l.length = v ∧ stL f l
theorem stL_upd {f : Nat → Int32} {k : Nat} {x : Int32} : ∀ (L : List Int32), stL f L → L.length ≤ k → stL (upd f k x) L := by
  intro L
  induction L with
  | nil => intro _ _; trivial
  | cons v l ih =>
    intro h hk
    have hk : l.length + 1 ≤ k := hk
    exact ⟨by rw [pk_un (by omega)]; exact h.1, ih h.2 (by omega)⟩
def stk (E : Ss) (L : List Int32) : Prop := E 0 1 = nI L.length ∧ stL (E 1) L
/-- what a step of the model leaves -/
def pfP (S E : Ss) (op : Int32) (a : Nat) (L : List Int32) (S' E' : Ss) : Prop :=
  E' 0 0 = E 0 0 ∧ E' 0 2 = E 0 2 ∧
  (op = 9 → (failB S a (hd L) → S' = S ∧ E' 0 3 = 3) ∧ (¬ failB S a (hd L) → S' = bw S a (hd L) ∧ stk E' (outB S a (hd L) :: L.tail) ∧ E' 0 3 = 0)) ∧
  (¬ op = 9 → 10 ≤ op → S' = asg S op a (hd L) ∧ stk E' L ∧ E' 0 3 = 0) ∧
  (¬ op = 9 → ¬ 10 ≤ op → S' = S ∧ stk E' (stA S L op a) ∧ E' 0 3 = 0)
theorem st_push9 {E : Ss} {L : List Int32} {t : Nat} {x : Int32} (h : stk E L) (ht : t = L.length) : stk (row (row E 1 (upd (E 1) t x)) 0 (upd (E 0) 1 (nI (t + 1)))) (x :: L) := by
  subst ht
  exact ⟨rfl, pk_us, stL_upd L h.2 (Nat.le_refl _)⟩
theorem st_top9 {E : Ss} {v x : Int32} {L : List Int32} (h : stk E (v :: L)) : stk (row E 1 (upd (E 1) L.length x)) (x :: L) := ⟨h.1, pk_us, stL_upd L h.2.2 (Nat.le_refl _)⟩
theorem st_pop9 {E : Ss} {v w x : Int32} {L : List Int32} (h : stk E (v :: w :: L)) : stk (row (row E 0 (upd (E 0) 1 (nI (L.length + 1)))) 1 (upd (E 1) L.length x)) (x :: L) := ⟨rfl, pk_us, stL_upd L h.2.2.2 (Nat.le_refl _)⟩
theorem pfP_8 {S E E' : Ss} {op : Int32} {a : Nat} {L L' : List Int32} (ho : wi op 0 8) (h0 : E' 0 0 = E 0 0) (h2 : E' 0 2 = E 0 2) (h3 : E' 0 3 = E 0 3) (hE : E 0 3 = 0) (hk : stk E' L') (e : L' = stA S L op a) : pfP S E op a L S E' := by
  have n9 : ¬ op = 9 := fun z => by rw [z] at ho; exact absurd ho (by decide)
  have n10 : ¬ 10 ≤ op := fun z => absurd (Int32.le_trans z ho.2) (by decide)
  exact ⟨h0, h2, fun z => absurd z n9, fun _ z => absurd z n10, fun _ _ => ⟨rfl, by rw [← e]; exact hk, h3.trans hE⟩⟩
theorem pfP_10 {S S' E : Ss} {op : Int32} {a : Nat} {L : List Int32} (ho : wi op 10 12) (hE : E 0 3 = 0) (hk : stk E L) (e : S' = asg S op a (hd L)) : pfP S E op a L S' E := by
  have n9 : ¬ op = 9 := fun z => by rw [z] at ho; exact absurd ho (by decide)
  exact ⟨rfl, rfl, fun z => absurd z n9, fun _ _ => ⟨e, hk, hE⟩, fun _ z => absurd ho.1 z⟩
theorem pfP_9f {S E E' : Ss} {op : Int32} {a : Nat} {L : List Int32} (ho : op = 9) (hf : failB S a (hd L)) (h0 : E' 0 0 = E 0 0) (h2 : E' 0 2 = E 0 2) (h3 : E' 0 3 = 3) : pfP S E op a L S E' :=
  ⟨h0, h2, fun _ => ⟨fun _ => ⟨rfl, h3⟩, fun z => absurd hf z⟩, fun z => absurd ho z, fun z => absurd ho z⟩
theorem pfP_9 {S E E' : Ss} {op : Int32} {a : Nat} {L : List Int32} (ho : op = 9) (hf : ¬ failB S a (hd L)) (h0 : E' 0 0 = E 0 0) (h2 : E' 0 2 = E 0 2) (h3 : E' 0 3 = E 0 3) (hE : E 0 3 = 0) (hk : stk E' (outB S a (hd L) :: L.tail)) : pfP S E op a L (bw S a (hd L)) E' :=
  ⟨h0, h2, fun _ => ⟨fun z => absurd z hf, fun _ => ⟨rfl, hk, h3.trans hE⟩⟩, fun z => absurd ho z, fun z => absurd ho z⟩
theorem st_nil {op : Int32} {d' : Nat} (h : stp op 0 d') : psh op := by
  rcases h with h | h | h
  · exact h.1
  · exact absurd h.2.1 (by decide)
  · exact absurd h.2.2.1 (by decide)
theorem st_le3 {op : Int32} {d d' : Nat} (h : stp op d d') (hp : psh op) : d ≤ 3 := by
  rcases h with h | h | h
  · exact h.2.2
  · exact absurd hp (by rcases h.1 with e | e <;> rw [e] <;> decide)
  · exact absurd hp h.1
theorem st_ge2 {op : Int32} {d d' : Nat} (h : stp op d d') (hp : jns op) : 2 ≤ d := by
  rcases h with h | h | h
  · exact absurd h.1 (by rcases hp with e | e <;> rw [e] <;> decide)
  · exact h.2.1
  · exact absurd hp h.2.1
theorem okO_q {m op a : Int32} (h : okO m op a) (e : wi op 0 5) : ∃ q, a = nI q ∧ q < 32 := by
  have h9 : wi a 0 31 := by
    simp only [okO, wi, Int32.le_iff_toInt_le, ← Int32.toInt_inj, Int32.reduceToInt] at h e ⊢
    omega
  obtain ⟨k, hk, e⟩ := wi_ex h9 (n := 31) rfl (by decide)
  exact ⟨k, e, by omega⟩
theorem okO_q8 {m op a : Int32} (h : okO m op a) (e : op = 8) : ∃ q, a = nI q ∧ q < 64 := by
  have h9 : wi a 0 63 := by
    subst e
    simp only [okO, wi, Int32.le_iff_toInt_le, ← Int32.toInt_inj, Int32.reduceToInt] at h ⊢
    omega
  obtain ⟨k, hk, e⟩ := wi_ex h9 (n := 63) rfl (by decide)
  exact ⟨k, e, by omega⟩
theorem okO_q10 {m op a : Int32} (h : okO m op a) (e : wi op 10 12) : ∃ q, a = nI q ∧ q < 32 := by
  have h9 : wi a 8 31 := (okO_10 h e.1 (fun z => by rw [z] at e; exact absurd e (by decide))).2
  obtain ⟨k, hk, e⟩ := wi_831 h9
  exact ⟨k, e, hk⟩
theorem okO_no {m op a : Int32} (h : okO m op a) (n13 : ¬ op = 13) (h0 : ¬ op = 0) (h1 : ¬ op = 1) (h2 : ¬ op = 2) (h3 : ¬ op = 3) (h4 : ¬ op = 4) (h5 : ¬ op = 5) (h6 : ¬ op = 6) (h7 : ¬ op = 7) (h8 : ¬ op = 8) (h9 : ¬ op = 9) (h10 : ¬ op = 10) (h11 : ¬ op = 11) (h12 : ¬ op = 12) : False := by
  simp only [okO, wi, Int32.le_iff_toInt_le, ← Int32.toInt_inj, Int32.reduceToInt] at *
  omega
theorem fu_out (S : Ss) (j : Nat) (x : Int32) : bw S j x 19 j = outB S j x := by
  show upd (S 19) j (outB S j x) j = _
  exact pk_us
