/-! pure rows for the model's rungs and scans -/
def rgP (x : Int32 × Ss) (E : Ss) (r : Int32) (S' E' : Ss) : Prop := (x.1 = -2 → r = 12 ∧ E' 0 3 = 3) ∧ (¬ x.1 = -2 → r = x.1 ∧ E' 0 3 = 0) ∧ S' = x.2 ∧ E' 0 0 = E 0 0 ∧ E' 0 2 = E 0 2
theorem rgP_ok {x : Int32 × Ss} {E S1 E1 : Ss} {r : Int32} (e : (r, S1) = x) (n2 : ¬ r = -2) (h3 : E1 0 3 = 0) (h0 : E1 0 0 = E 0 0) (h2 : E1 0 2 = E 0 2) : rgP x E r S1 E1 := by
  subst e
  exact ⟨fun h => absurd h n2, fun _ => ⟨rfl, h3⟩, rfl, h0, h2⟩
theorem rgP_no {x : Int32 × Ss} {E S1 E1 : Ss} (e : ((-2 : Int32), S1) = x) (h3 : E1 0 3 = 3) (h0 : E1 0 0 = E 0 0) (h2 : E1 0 2 = E 0 2) : rgP x E 12 S1 E1 := by
  subst e
  exact ⟨fun _ => ⟨rfl, h3⟩, fun h => absurd rfl h, rfl, h0, h2⟩
theorem w11_n2 {a : Int32} (h : wi a 0 11) : ¬ a = -2 := fun e => by rw [e] at h; exact absurd h (by decide)
theorem ten_r (r : Nat) : 10 * nI r = nI (10 * r) := by rw [show (10 : Int32) = nI 10 from rfl, pk_mul]
theorem eight_a (i : Nat) : 8 + nI i = nI (8 + i) := by rw [show (8 : Int32) = nI 8 from rfl, nI_add]
/-- where the model's program loop is: PG the program's end -/
def pgI (PG : Int32 × Ss) (t b q : Nat) (S2 E2 : Ss) : Prop := (E2 0 3 = 0 ∧ b + t = 31 ∧ pgo (30 - b) b q S2 = PG) ∨ (E2 0 3 = 2 ∧ PG = (-1, S2)) ∨ (E2 0 3 = 3 ∧ PG = (-2, S2))
def pgX (PG : Int32 × Ss) (b : Nat) (S2 E2 : Ss) : Prop := (E2 0 3 = 0 ∧ PG = (nI b, S2)) ∨ (E2 0 3 = 2 ∧ PG = (-1, S2)) ∨ (E2 0 3 = 3 ∧ PG = (-2, S2))
theorem pgX_q {PG : Int32 × Ss} {t b q : Nat} {S2 E2 : Ss} (h : pgI PG t b q S2 E2) (hq : 12 ≤ q) : pgX PG b S2 E2 := by
  rcases h with ⟨h1, h2, h3⟩ | h | h
  · rw [pgo_12 (by omega)] at h3
    exact Or.inl ⟨h1, h3.symm⟩
  · exact Or.inr (Or.inl h)
  · exact Or.inr (Or.inr h)
theorem pgX_t {PG : Int32 × Ss} {t b q : Nat} {S2 E2 : Ss} (h : pgI PG t b q S2 E2) (ht : ¬ E2 0 3 = 0) : pgX PG b S2 E2 := by
  rcases h with ⟨h1, h2, h3⟩ | h | h
  · exact absurd h1 ht
  · exact Or.inr (Or.inl h)
  · exact Or.inr (Or.inr h)
theorem pgI_0 {PG : Int32 × Ss} {t b q : Nat} {S2 E2 : Ss} (h : pgI PG t b q S2 E2) (ht : E2 0 3 = 0) : b + t = 31 ∧ pgo (30 - b) b q S2 = PG := by
  rcases h with ⟨h1, h2, h3⟩ | h | h
  · exact ⟨h2, h3⟩
  · exact absurd (ht.symm.trans h.1) (by decide)
  · exact absurd (ht.symm.trans h.1) (by decide)
theorem pgI_30 {PG : Int32 × Ss} {b q t : Nat} {S2 E2 : Ss} (h : pgo (30 - b) b q S2 = PG) (hb : b = 30) (hq : q < 12) (h3 : E2 0 3 = 2) : pgI PG t b q S2 E2 := by
  subst hb
  rw [show 30 - 30 = 0 from rfl, pgo, if_pos hq] at h
  exact Or.inr (Or.inl ⟨h3, h.symm⟩)
theorem pgI_f {PG : Int32 × Ss} {b q b' q' t : Nat} {S2 E' : Ss} (h : pgo (30 - b) b q S2 = PG) (hb : b < 30) (hq : q < 12) (hr : (rgr S2 q).1 = -2) (h3 : E' 0 3 = 3) : pgI PG t b' q' (rgr S2 q).2 E' := by
  rw [show 30 - b = (30 - (b + 1)) + 1 by omega, pgo, if_pos hq, if_pos (by rw [hr]; decide)] at h
  exact Or.inr (Or.inr ⟨h3, by rw [← h, ← hr]⟩)
theorem pgI_s {PG : Int32 × Ss} {b q q2 t : Nat} {S2 E' : Ss} (h : pgo (30 - b) b q S2 = PG) (hb : b < 30) (hq : q < 12) (hq2 : q2 ≤ 12) (hr : (rgr S2 q).1 = nI q2) (h3 : E' 0 3 = 0) (ht : b + 1 + t = 31) : pgI PG t (b + 1) q2 (rgr S2 q).2 E' := by
  rw [show 30 - b = (30 - (b + 1)) + 1 by omega, pgo, if_pos hq, hr, if_neg (nI_pos (by omega)), nI_clamp (by omega)] at h
  exact Or.inl ⟨h3, ht, h⟩
theorem tin_fi (S : Ss) : row S 1 (fillN (S 1) (S 3) 8) = tin S := rfl
def scP (x : Int32 × Ss) (E : Ss) (S' E' : Ss) : Prop := S' = x.2 ∧ E' 0 0 = E 0 0 ∧ (x.1 = -1 → E' 0 3 = 2) ∧ (x.1 = -2 → E' 0 3 = 3) ∧ (¬ x.1 < 0 → E' 0 2 = E 0 2 + x.1)
theorem sc_fail (S : Ss) : row (row (row S 4 (fillN (S 4) (fun _ => 0) 8)) 0 (upd (S 0) 2 (S 0 2 + 1))) 0 (upd (upd (S 0) 2 (S 0 2 + 1)) 3 1) = cout (row (row S 0 (upd (S 0) 3 1)) 0 (upd (upd (S 0) 3 1) 2 (S 0 2 + 1))) := by
  have e : upd (upd (S 0) 2 (S 0 2 + 1)) 3 1 = upd (upd (S 0) 3 1) 2 (S 0 2 + 1) := by
    funext k
    unfold upd
    by_cases h2 : k = 2
    · subst h2; rfl
    · by_cases h3 : k = 3
      · subst h3; rfl
      · rw [if_neg h3, if_neg h2, if_neg h2, if_neg h3]
  rw [row_row, row_row, e, row_comm (by decide)]
  rfl
theorem sc_full (S : Ss) : row (row S 4 (fillN (S 4) (fun k => rd S (8 + k)) 8)) 0 (upd (S 0) 1 (S 0 1 + 1)) = sout (row S 0 (upd (S 0) 1 (S 0 1 + 1))) := by
  rw [row_comm (by decide)]
  rfl
theorem scP_no {S S2 E E' S' : Ss} {b : Nat} {Ex : Ss} (hX : pgX (pgo 30 0 0 (tin S)) b S2 Ex) (hn : ¬ Ex 0 3 = 0) (e3 : E' 0 3 = Ex 0 3) (h0 : E' 0 0 = E 0 0) (eS : S' = row (row (row S2 4 (fillN (S2 4) (fun _ => 0) 8)) 0 (upd (S2 0) 2 (S2 0 2 + 1))) 0 (upd (upd (S2 0) 2 (S2 0 2 + 1)) 3 1)) : scP (sc1 S) E S' E' := by
  rcases hX with h | h | h
  · exact absurd h.1 hn
  · unfold sc1
    rw [h.2]
    dsimp only
    rw [if_pos (by decide), eS, sc_fail]
    exact ⟨rfl, h0, fun _ => e3.trans h.1, fun z => absurd (show (-1 : Int32) = -2 from z) (by decide), fun z => absurd (show (-1 : Int32) < 0 by decide) z⟩
  · unfold sc1
    rw [h.2]
    dsimp only
    rw [if_pos (by decide), eS, sc_fail]
    exact ⟨rfl, h0, fun z => absurd (show (-2 : Int32) = -1 from z) (by decide), fun _ => e3.trans h.1, fun z => absurd (show (-2 : Int32) < 0 by decide) z⟩
theorem scP_ok {S S2 E E' S' : Ss} {b : Nat} {Ex : Ss} (hX : pgX (pgo 30 0 0 (tin S)) b S2 Ex) (hb : b ≤ 30) (hn : Ex 0 3 = 0) (h0 : E' 0 0 = E 0 0) (h2 : E' 0 2 = E 0 2 + nI b) (eS : S' = row (row S2 4 (fillN (S2 4) (fun k => rd S2 (8 + k)) 8)) 0 (upd (S2 0) 1 (S2 0 1 + 1))) : scP (sc1 S) E S' E' := by
  rcases hX with h | h | h
  · unfold sc1
    rw [h.2]
    dsimp only
    rw [if_neg (nI_pos (by omega)), eS, sc_full]
    exact ⟨rfl, h0, fun z => absurd z (nI_nm1 (by omega)), fun z => absurd z (nI_nm2 (by omega)), fun _ => h2⟩
  · exact absurd (hn.symm.trans h.1) (by decide)
  · exact absurd (hn.symm.trans h.1) (by decide)
theorem sc1_0 {S : Ss} (h : Pr S) : ((sc1 S).1 < 0 → (sc1 S).2 0 3 = 1) ∧ (¬ (sc1 S).1 < 0 → (sc1 S).2 0 3 = S 0 3) := by
  have hp := (pgo_ok 30 0 0 (tin S) (Pr_tin h) (by decide)).2.2.2.2
  unfold sc1
  dsimp only
  by_cases hn : (pgo 30 0 0 (tin S)).1 < 0
  · rw [if_pos hn]
    exact ⟨fun _ => rfl, fun z => absurd hn z⟩
  · rw [if_neg hn]
    exact ⟨fun z => absurd z hn, fun _ => by show (pgo 30 0 0 (tin S)).2 0 3 = S 0 3; rw [hp]; rfl⟩
/-- where the model's loop of scans is -/
def scI (SC : Int32 × Ss) (k b : Nat) (S1 E1 : Ss) : Prop := (S1 0 3 = 0 ∧ E1 0 2 = nI b ∧ scn k (nI b) S1 = SC) ∨ (¬ S1 0 3 = 0 ∧ E1 0 3 = 2 ∧ SC = (-1, S1)) ∨ (¬ S1 0 3 = 0 ∧ E1 0 3 = 3 ∧ SC = (-2, S1))
theorem scI_s {SC : Int32 × Ss} {k b : Nat} {S1 E1 S' E' : Ss} (hP : Pr S1) (h : scI SC (k + 1) b S1 E1) (h0 : S1 0 3 = 0) (hs : scP (sc1 S1) E1 S' E') : Pr S' ∧ E' 0 0 = E1 0 0 ∧ ∃ b', b' ≤ b + 30 ∧ scI SC k b' S' E' := by
  obtain ⟨p1, p2, p3, p4, p5⟩ := hs
  obtain ⟨g1, g2⟩ := sc1_ok hP
  obtain ⟨z1, z2⟩ := sc1_0 hP
  subst p1
  refine ⟨g1, p2, ?_⟩
  rcases h with ⟨h1, h2, h3⟩ | h | h
  · rw [scn] at h3
    rcases g2 with e | e | ⟨q, hq, e⟩
    · have hn : (sc1 S1).1 < 0 := by rw [e]; decide
      rw [if_pos hn] at h3
      exact ⟨b, by omega, Or.inr (Or.inl ⟨by rw [z1 hn]; decide, p3 e, by rw [← h3, ← e]⟩)⟩
    · have hn : (sc1 S1).1 < 0 := by rw [e]; decide
      rw [if_pos hn] at h3
      exact ⟨b, by omega, Or.inr (Or.inr ⟨by rw [z1 hn]; decide, p4 e, by rw [← h3, ← e]⟩)⟩
    · have hn : ¬ (sc1 S1).1 < 0 := by rw [e]; exact nI_pos (by omega)
      rw [if_neg hn, e, nI_add] at h3
      exact ⟨b + q, by omega, Or.inl ⟨by rw [z2 hn]; exact h0, by rw [p5 hn, h2, e, nI_add], h3⟩⟩
  · exact absurd h0 h.1
  · exact absurd h0 h.1
theorem oScan_1 {S S1 E1 : Ss} {a : Int32} {b : Nat} (hw : wi a 1 20) (h0 : S 0 3 = 0) (h : scI (scn a.toNatClampNeg 0 S) 0 b S1 E1) (hb : b < 2 ^ 31) (hz : S1 0 3 = 0) : oScan S a = (0, E1 0 2, S1) := by
  rcases h with ⟨h1, h2, h3⟩ | h | h
  · rw [scn] at h3
    unfold oScan
    rw [if_neg (fun z => z hw), if_neg (fun z => z h0), ← h3]
    dsimp only
    rw [if_neg (nI_nm1 hb), if_neg (nI_nm2 hb), h2]
  · exact absurd hz h.1
  · exact absurd hz h.1
theorem oScan_2 {S S1 E1 : Ss} {a : Int32} {k b : Nat} (hw : wi a 1 20) (h0 : S 0 3 = 0) (h : scI (scn a.toNatClampNeg 0 S) k b S1 E1) (hz : ¬ S1 0 3 = 0) : oScan S a = (E1 0 3, 0, S1) ∧ ¬ E1 0 3 = 0 := by
  rcases h with ⟨h1, h2, h3⟩ | ⟨h1, h2, h3⟩ | ⟨h1, h2, h3⟩
  · exact absurd h1 hz
  · refine ⟨?_, by rw [h2]; decide⟩
    unfold oScan
    rw [if_neg (fun z => z hw), if_neg (fun z => z h0), h3, h2]
    rfl
  · refine ⟨?_, by rw [h2]; decide⟩
    unfold oScan
    rw [if_neg (fun z => z hw), if_neg (fun z => z h0), h3, h2]
    rfl
