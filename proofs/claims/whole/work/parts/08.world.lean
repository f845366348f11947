/-! the class's cells: 0 the object, 1 its memory and 2 .. 6 its arrays, 7 the array of blocks, 8 .. 12 the rungs as written, 13 .. 17 the program, 18 .. 27 the blocks -/
def bf (S : Ss) (j : Nat) : List Value := [.int (S 14 j), .int (S 15 j), .int (S 16 j), .int (S 17 j), .int (S 18 j), .int (S 19 j), .int (S 20 j), .int (S 21 j)]
def bA (ad : Nat → Nat) : Nat → Option Nat := fun j => if j < 10 then some (ad (18 + j)) else none
def XW (ad : Nat → Nat) (ca : Nat → ClassId) (S : Ss) : va_W := [
  (ad 0, .inr (0, [.ref (ad 1), .ref (ad 7), .ref (ad 8), .ref (ad 13), .int (S 0 0), .int (S 0 1), .int (S 0 2), .int (S 0 3)])),
  (ad 1, .inr (1, [.ref (ad 2), .ref (ad 3), .ref (ad 4), .ref (ad 5), .ref (ad 6)])),
  (ad 2, .inl (ca 0, 32, .inl (S 1))), (ad 3, .inl (ca 1, 32, .inl (S 2))), (ad 4, .inl (ca 2, 8, .inl (S 3))), (ad 5, .inl (ca 3, 8, .inl (S 4))), (ad 6, .inl (ca 4, 8, .inl (S 5))),
  (ad 7, .inl (ca 5, 10, .inr (.inr (.inr (.inr (bA ad)))))),
  (ad 8, .inr (3, [.ref (ad 9), .ref (ad 10), .ref (ad 11), .ref (ad 12)])),
  (ad 9, .inl (ca 6, 120, .inl (S 6))), (ad 10, .inl (ca 7, 120, .inl (S 7))), (ad 11, .inl (ca 8, 12, .inl (S 8))), (ad 12, .inl (ca 9, 12, .inl (S 9))),
  (ad 13, .inr (3, [.ref (ad 14), .ref (ad 15), .ref (ad 16), .ref (ad 17)])),
  (ad 14, .inl (ca 10, 120, .inl (S 10))), (ad 15, .inl (ca 11, 120, .inl (S 11))), (ad 16, .inl (ca 12, 12, .inl (S 12))), (ad 17, .inl (ca 13, 12, .inl (S 13))),
  (ad 18, .inr (2, bf S 0)), (ad 19, .inr (2, bf S 1)), (ad 20, .inr (2, bf S 2)), (ad 21, .inr (2, bf S 3)), (ad 22, .inr (2, bf S 4)), (ad 23, .inr (2, bf S 5)), (ad 24, .inr (2, bf S 6)), (ad 25, .inr (2, bf S 7)), (ad 26, .inr (2, bf S 8)), (ad 27, .inr (2, bf S 9))]
def xT (ca : Nat → ClassId) : List (ClassId × FieldType) := [(ca 0, .int), (ca 1, .int), (ca 2, .int), (ca 3, .int), (ca 4, .int), (ca 5, .object "LadderScan$Block"), (ca 6, .int), (ca 7, .int), (ca 8, .int), (ca 9, .int), (ca 10, .int), (ca 11, .int), (ca 12, .int), (ca 13, .int)]
theorem lt10 {P : Nat → Prop} (h0 : P 0) (h1 : P 1) (h2 : P 2) (h3 : P 3) (h4 : P 4) (h5 : P 5) (h6 : P 6) (h7 : P 7) (h8 : P 8) (h9 : P 9) {j : Nat} (h : j < 10) : P j := by
  match j, h with
  | 0, _ => exact h0
  | 1, _ => exact h1
  | 2, _ => exact h2
  | 3, _ => exact h3
  | 4, _ => exact h4
  | 5, _ => exact h5
  | 6, _ => exact h6
  | 7, _ => exact h7
  | 8, _ => exact h8
  | 9, _ => exact h9
  | n + 10, h => exact absurd h (by omega)
theorem xb_cell {ad : Nat → Nat} {ca : Nat → ClassId} {S : Ss} {j : Nat} (h : j < 10) : (XW ad ca S)[18 + j]? = some (ad (18 + j), .inr (2, bf S j)) := lt10 (P := fun j => (XW ad ca S)[18 + j]? = some (ad (18 + j), .inr (2, bf S j))) rfl rfl rfl rfl rfl rfl rfl rfl rfl rfl h
theorem xb_at {ad : Nat → Nat} {j : Nat} (h : j < 10) : va_rf (bA ad (nI j).toNatClampNeg) = .ref (ad (18 + j)) := by
  rw [nI_clamp (by omega)]
  unfold bA
  rw [if_pos h]
  rfl
theorem bf_set {S : Ss} {j : Nat} (k : Nat) (hk : k < 8) (v : Int32) (i : Nat) : (if i = j then (bf S j).set k (.int v) else bf S i) = bf (row S (14 + k) (upd (S (14 + k)) j v)) i := by
  match k, hk with
  | 0, _ => by_cases h : i = j <;> simp [bf, row, upd, h]
  | 1, _ => by_cases h : i = j <;> simp [bf, row, upd, h]
  | 2, _ => by_cases h : i = j <;> simp [bf, row, upd, h]
  | 3, _ => by_cases h : i = j <;> simp [bf, row, upd, h]
  | 4, _ => by_cases h : i = j <;> simp [bf, row, upd, h]
  | 5, _ => by_cases h : i = j <;> simp [bf, row, upd, h]
  | 6, _ => by_cases h : i = j <;> simp [bf, row, upd, h]
  | 7, _ => by_cases h : i = j <;> simp [bf, row, upd, h]
  | n + 8, h => exact absurd h (by omega)
/-- the world without its blocks' fields -/
theorem xb_set {ad : Nat → Nat} {ca : Nat → ClassId} {S : Ss} {j : Nat} (h : j < 10) (k : Nat) (hk : k < 8) (v : Int32) : (XW ad ca S).set (18 + j) (ad (18 + j), .inr (2, (bf S j).set k (.int v))) = XW ad ca (row S (14 + k) (upd (S (14 + k)) j v)) := by
  have hr : ∀ a, a < 14 → row S (14 + k) (upd (S (14 + k)) j v) a = S a := fun a ha => row_n (by omega)
  have hb : ∀ i, bf (row S (14 + k) (upd (S (14 + k)) j v)) i = if i = j then (bf S j).set k (.int v) else bf S i := fun i => (bf_set k hk v i).symm
  unfold XW
  simp only [hr 0 (by decide), hr 1 (by decide), hr 2 (by decide), hr 3 (by decide), hr 4 (by decide), hr 5 (by decide), hr 6 (by decide), hr 7 (by decide), hr 8 (by decide), hr 9 (by decide), hr 10 (by decide), hr 11 (by decide), hr 12 (by decide), hr 13 (by decide), hb]
  generalize (bf S j).set k (.int v) = B
  clear hr hb
  match j, h with
  | 0, _ => rfl
  | 1, _ => rfl
  | 2, _ => rfl
  | 3, _ => rfl
  | 4, _ => rfl
  | 5, _ => rfl
  | 6, _ => rfl
  | 7, _ => rfl
  | 8, _ => rfl
  | 9, _ => rfl
  | n + 10, h => exact absurd h (by omega)
