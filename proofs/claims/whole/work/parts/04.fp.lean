/-! Doubles that are whole eighths: eD k is k * 0.125, as the law makes it -/
def eD (k : Int32) : UInt64 := FP.dmul (FP.i2d k) 0x3FC0000000000000
/-- x is k eighths -/
def E8 (k : Int) (x : UInt64) : Prop := ∃ (s : Bool) (c : Nat) (q : Int), FP.Core.val64 x = .fin s c q ∧ FP.Core.Whole k (.fin s c (q + 3))
theorem e8_val8th : FP.Core.val64 0x3FC0000000000000 = .fin false (2 ^ 52) (-55) := by decide +kernel
theorem e8_val8 : FP.Core.val64 0x4020000000000000 = .fin false (2 ^ 52) (-49) := by decide +kernel
theorem e8_nan {x : UInt64} (h : FP.Core.val64 x ≠ .nan) : vf_n64 x := by
  have h1 := (FP.Core.ne_nan x).mp h
  unfold vf_n64
  rw [UInt64.le_iff_toNat_le, UInt64.toNat_and]
  have h2 : (0x7fffffffffffffff : UInt64).toNat = 2 ^ 63 - 1 := by decide
  have h3 : (0x7ff0000000000000 : UInt64).toNat = 9218868437227405312 := by decide
  rw [h2, h3, Nat.and_two_pow_sub_one_eq_mod]
  exact h1
theorem e8_n {k : Int} {x : UInt64} (h : E8 k x) : vf_n64 x := by
  obtain ⟨s, c, q, h1, -⟩ := h
  exact e8_nan (by rw [h1]; intro h2; cases h2)
/-- the datum of a whole number other than 0: its significand and exponent -/
theorem e8_i2d (k : Int32) (hk : k ≠ 0) : ∃ (s : Bool) (c : Nat) (q : Int), FP.Core.val64 (FP.i2d k) = .fin s c q ∧ FP.Core.Whole k.toInt (.fin s c q) ∧ FP.Core.fits FP.Core.b64 (.fin s c q) ∧ FP.Core.fits FP.Core.b64 (.fin s c (q - 3)) := by
  have h1 : FP.Core.Whole k.toInt (FP.Core.val64 (FP.i2d k)) := FP.Core.i2d_int k
  have h2 := FP.Core.val64_fits (FP.i2d k)
  cases hd : FP.Core.val64 (FP.i2d k) with
  | nan => rw [hd] at h1; exact h1.elim
  | inf s => rw [hd] at h1; exact h1.elim
  | fin s c q =>
    rw [hd] at h1 h2
    refine ⟨s, c, q, rfl, h1, h2, ?_⟩
    have hk0 : k.toInt ≠ 0 := fun h => hk (Int32.toInt_inj.mp (by rw [h]; rfl))
    obtain ⟨a1, a2, a3, a4⟩ := h2
    have hp : FP.Core.b64.p = 53 := rfl
    have hm : FP.Core.b64.qmin = -1074 := by decide
    rw [hp] at a1
    rw [hm] at a2 a4
    have hc0 : c ≠ 0 := fun h => hk0 ((FP.Core.whole_zero h1).mp h)
    have hq : -53 ≤ q := by
      have h3 := FP.Core.whole_natAbs h1
      rcases Int.lt_or_le q (-53) with hq | hq
      · exfalso
        have e1 : q.toNat = 0 := by omega
        rw [e1] at h3
        have e2 : 2 ^ 53 ≤ 2 ^ (-q).toNat := Nat.pow_le_pow_right (by decide) (by omega)
        have e3 : 1 ≤ k.toInt.natAbs := by omega
        have e4 : 1 * 2 ^ 53 ≤ k.toInt.natAbs * 2 ^ (-q).toNat := Nat.mul_le_mul e3 e2
        simp only [Nat.pow_zero, Nat.mul_one] at h3
        omega
      · exact hq
    refine ⟨by rw [hp]; exact a1, by rw [hm]; omega, by omega, Or.inr ?_⟩
    rcases a4 with a4 | a4
    · omega
    · exact a4
theorem e8_eD_val (k : Int32) {s : Bool} {c : Nat} {q : Int} (h : FP.Core.val64 (FP.i2d k) = .fin s c q) (hf : FP.Core.fits FP.Core.b64 (.fin s c (q - 3))) : FP.Core.val64 (eD k) = .fin s c (q - 3) := by
  unfold eD
  have h1 : FP.Core.val64 (FP.dmul (FP.i2d k) 0x3FC0000000000000) = FP.Core.round FP.Core.b64 (FP.Core.exactProduct (FP.Core.val64 (FP.i2d k)) (FP.Core.val64 0x3FC0000000000000)) := FP.Core.val64_dmul _ _
  rw [h1, h, e8_val8th]
  show FP.Core.roundRatio FP.Core.b64 (s != false) (c * 2 ^ 52) 1 (q + (-55)) = _
  rw [show (s != false) = s by cases s <;> rfl]
  refine FP.Core.roundRatio_exact FP.Core.good_b64 (by decide) hf ?_
  rw [show (q + (-55) - (q - 3)).toNat = 0 by omega, show (q - 3 - (q + (-55))).toNat = 52 by omega]
  simp
theorem e8_eD (k : Int32) : E8 k.toInt (eD k) := by
  by_cases hk : k = 0
  · subst hk
    have h0 : FP.Core.val64 (eD 0) = .fin false 0 (-1074) := by decide +kernel
    refine ⟨false, 0, -1074, h0, ?_⟩
    show FP.Core.signed false (0 * _) = (0 : Int32).toInt * _
    simp [FP.Core.signed]
  · obtain ⟨s, c, q, h1, h2, h3, h4⟩ := e8_i2d k hk
    exact ⟨s, c, q - 3, e8_eD_val k h1 h4, by rw [show q - 3 + 3 = q by omega]; exact h2⟩
theorem e8_mul8 (k : Int32) : FP.dmul (eD k) 0x4020000000000000 = FP.i2d k := by
  by_cases hk : k = 0
  · subst hk
    decide +kernel
  · obtain ⟨s, c, q, h1, h2, h3, h4⟩ := e8_i2d k hk
    have h5 := e8_eD_val k h1 h4
    have h6 : FP.Core.val64 (FP.dmul (eD k) 0x4020000000000000) = FP.Core.round FP.Core.b64 (FP.Core.exactProduct (FP.Core.val64 (eD k)) (FP.Core.val64 0x4020000000000000)) := FP.Core.val64_dmul _ _
    have h7 : FP.Core.val64 (FP.dmul (eD k) 0x4020000000000000) = .fin s c q := by
      rw [h6, h5, e8_val8]
      show FP.Core.roundRatio FP.Core.b64 (s != false) (c * 2 ^ 52) 1 (q - 3 + (-49)) = _
      rw [show (s != false) = s by cases s <;> rfl]
      refine FP.Core.roundRatio_exact FP.Core.good_b64 (by decide) h3 ?_
      rw [show (q - 3 + (-49) - q).toNat = 0 by omega, show (q - (q - 3 + (-49))).toNat = 52 by omega]
      simp
    exact FP.Core.val64_inj (by rw [h7]; intro h; cases h) (by rw [h7, h1])
theorem e8_div8 (k : Int32) : FP.ddiv (FP.i2d k) 0x4020000000000000 = eD k := by
  by_cases hk : k = 0
  · subst hk
    decide +kernel
  · obtain ⟨s, c, q, h1, h2, h3, h4⟩ := e8_i2d k hk
    have h5 := e8_eD_val k h1 h4
    have h6 : FP.Core.val64 (FP.ddiv (FP.i2d k) 0x4020000000000000) = FP.Core.quotient FP.Core.b64 (FP.Core.val64 (FP.i2d k)) (FP.Core.val64 0x4020000000000000) := FP.Core.val64_ddiv _ _
    have h7 : FP.Core.val64 (FP.ddiv (FP.i2d k) 0x4020000000000000) = .fin s c (q - 3) := by
      rw [h6, h1, e8_val8]
      show (if (2 ^ 52 : Nat) = 0 then (if c = 0 then FP.Core.Datum.nan else FP.Core.Datum.inf (s != false)) else FP.Core.roundRatio FP.Core.b64 (s != false) c (2 ^ 52) (q - (-49))) = _
      rw [if_neg (by decide), show (s != false) = s by cases s <;> rfl]
      refine FP.Core.roundRatio_exact FP.Core.good_b64 (by decide) h4 ?_
      rw [show (q - (-49) - (q - 3)).toNat = 52 by omega, show (q - 3 - (q - (-49))).toNat = 0 by omega]
      simp
    exact FP.Core.val64_inj (by rw [h7]; intro h; cases h) (by rw [h7, h5])
theorem e8_i2d_n (k : Int32) : vf_n64 (FP.i2d k) := by
  refine e8_nan ?_
  have h1 : FP.Core.Whole k.toInt (FP.Core.val64 (FP.i2d k)) := FP.Core.i2d_int k
  intro h
  rw [h] at h1
  exact h1
theorem e8_l2d (k : Int32) : FP.l2d k.toInt64 = FP.i2d k := by
  have h : k.toInt64.toInt = k.toInt := Int32.toInt_toInt64 k
  show FP.Core.l2d k.toInt64 = FP.Core.i2d k
  unfold FP.Core.l2d FP.Core.i2d
  rw [h]
theorem e8_d2i (k : Int32) : FP.d2i (FP.i2d k) = k := FP.Core.d2i_i2d k
theorem e8_d2l (k : Int32) : FP.d2l (FP.i2d k) = k.toInt64 := by
  have h : FP.Core.DInt k.toInt64.toInt (FP.i2d k) := by rw [Int32.toInt_toInt64]; exact FP.Core.i2d_int k
  exact FP.Core.d2l_int h
theorem e8_cmpI (a b : Int32) : FP.dcmp (FP.i2d a) (FP.i2d b) = some (compare a.toInt b.toInt) := FP.Core.dcmp_int (FP.Core.i2d_int a) (FP.Core.i2d_int b)
theorem e8_order {s t : Bool} {c d : Nat} {q r : Int} : FP.Core.order (.fin s c q) (.fin t d r) = FP.Core.order (.fin s c (q + 3)) (.fin t d (r + 3)) := by
  show some (compare (FP.Core.signed s (FP.Core.inUnits c q (min q r))) (FP.Core.signed t (FP.Core.inUnits d r (min q r)))) = some (compare (FP.Core.signed s (FP.Core.inUnits c (q + 3) (min (q + 3) (r + 3)))) (FP.Core.signed t (FP.Core.inUnits d (r + 3) (min (q + 3) (r + 3)))))
  unfold FP.Core.inUnits
  rw [show q + 3 - min (q + 3) (r + 3) = q - min q r by omega, show r + 3 - min (q + 3) (r + 3) = r - min q r by omega]
theorem e8_cmpE {a b : Int} {x y : UInt64} (hx : E8 a x) (hy : E8 b y) : FP.dcmp x y = some (compare a b) := by
  obtain ⟨s, c, q, h1, h2⟩ := hx
  obtain ⟨t, d, r, h3, h4⟩ := hy
  show FP.Core.order (FP.Core.val64 x) (FP.Core.val64 y) = _
  rw [h1, h3, e8_order]
  exact FP.Core.order_whole h2 h4
theorem e8_cmp (a b : Int32) : FP.dcmp (eD a) (eD b) = some (compare a.toInt b.toInt) := e8_cmpE (e8_eD a) (e8_eD b)
theorem e8_lo : (0xC0C0000000000000 : UInt64) = eD (-65536) := by decide +kernel
theorem e8_hi : (0x40C0000000000000 : UInt64) = eD 65536 := by decide +kernel
/-- what the two compares answer, and the branches behind them -/
theorem e8_c {a b : Int} (op : CmpOp) : (Op.cmpValue (some (compare a b)) op < 0 ↔ a < b) ∧ (Op.cmpValue (some (compare a b)) op = 0 ↔ a = b) ∧ (0 < Op.cmpValue (some (compare a b)) op ↔ b < a) ∧ (Op.cmpValue (some (compare a b)) op ≤ 0 ↔ a ≤ b) ∧ (0 ≤ Op.cmpValue (some (compare a b)) op ↔ b ≤ a) := by
  rcases Int.lt_trichotomy a b with h | h | h
  · have e : compare a b = .lt := by simp [compare, compareOfLessAndEq, h]
    rw [e]
    refine ⟨?_, ?_, ?_, ?_, ?_⟩ <;> cases op <;> simp [Op.cmpValue] <;> omega
  · subst h
    have e : compare a a = .eq := by simp [compare, compareOfLessAndEq]
    rw [e]
    refine ⟨?_, ?_, ?_, ?_, ?_⟩ <;> cases op <;> simp [Op.cmpValue]
  · have e : compare a b = .gt := by
      simp only [compare, compareOfLessAndEq]
      rw [if_neg (by omega), if_neg (by omega)]
    rw [e]
    refine ⟨?_, ?_, ?_, ?_, ?_⟩ <;> cases op <;> simp [Op.cmpValue] <;> omega
