/-! bits of small whole numbers -/
theorem iv_nat {a : Nat} (h : a < 2147483648) : (iv (a : Int)).toBitVec = BitVec.ofNat 32 a := by
  apply BitVec.eq_of_toInt_eq
  rw [Int32.toInt_toBitVec, iv_toInt ⟨by omega, by omega⟩, BitVec.toInt_eq_toNat_of_lt]
  · simp only [BitVec.toNat_ofNat]
    omega
  · simp only [BitVec.toNat_ofNat]
    omega
theorem toInt_small {x : Int32} (h : x.toBitVec.toNat < 2147483648) : x.toInt = (x.toBitVec.toNat : Int) := by
  rw [← Int32.toInt_toBitVec, BitVec.toInt_eq_toNat_of_lt]
  omega
theorem band_nat {a b : Nat} (ha : a < 2147483648) (hb : b < 2147483648) : band (a : Int) (b : Int) = ((a &&& b : Nat) : Int) := by
  unfold band
  have h1 : (iv (a : Int) &&& iv (b : Int)).toBitVec.toNat = a &&& b := by
    rw [Int32.toBitVec_and, iv_nat ha, iv_nat hb, BitVec.toNat_and, BitVec.toNat_ofNat, BitVec.toNat_ofNat, Nat.mod_eq_of_lt (by omega), Nat.mod_eq_of_lt (by omega)]
  have h2 : a &&& b ≤ a := Nat.and_le_left
  rw [toInt_small (by rw [h1]; omega), h1]
theorem bor_nat {a b : Nat} (ha : a < 2147483648) (hb : b < 2147483648) : bor (a : Int) (b : Int) = ((a ||| b : Nat) : Int) := by
  unfold bor
  have h1 : (iv (a : Int) ||| iv (b : Int)).toBitVec.toNat = a ||| b := by
    rw [Int32.toBitVec_or, iv_nat ha, iv_nat hb, BitVec.toNat_or, BitVec.toNat_ofNat, BitVec.toNat_ofNat, Nat.mod_eq_of_lt (by omega), Nat.mod_eq_of_lt (by omega)]
  have h2 : a ||| b < 2 ^ 31 := Nat.or_lt_two_pow ha hb
  rw [toInt_small (by rw [h1]; exact h2), h1]
theorem bxor_nat {a b : Nat} (ha : a < 2147483648) (hb : b < 2147483648) : bxor (a : Int) (b : Int) = ((a ^^^ b : Nat) : Int) := by
  unfold bxor
  have h1 : (iv (a : Int) ^^^ iv (b : Int)).toBitVec.toNat = a ^^^ b := by
    rw [Int32.toBitVec_xor, iv_nat ha, iv_nat hb, BitVec.toNat_xor, BitVec.toNat_ofNat, BitVec.toNat_ofNat, Nat.mod_eq_of_lt (by omega), Nat.mod_eq_of_lt (by omega)]
  have h2 : a ^^^ b < 2 ^ 31 := Nat.xor_lt_two_pow ha hb
  rw [toInt_small (by rw [h1]; exact h2), h1]
theorem sh31 {i : Nat} (hi : i < 32) : (iv (i : Int) &&& 31) = iv (i : Int) := by
  apply Int32.toBitVec_inj.mp
  apply BitVec.eq_of_toNat_eq
  rw [Int32.toBitVec_and, iv_nat (by omega), BitVec.toNat_and, BitVec.toNat_ofNat, Nat.mod_eq_of_lt (by omega)]
  show i &&& 31 = i
  rw [show (31 : Nat) = 2 ^ 5 - 1 from rfl, Nat.and_two_pow_sub_one_eq_mod]
  omega
theorem smod32 {i : Nat} (hi : i < 32) : ((iv (i : Int)).toBitVec.smod 32).toNat = i := by
  rw [iv_nat (by omega)]
  rcases (show i = 0 ∨ i = 1 ∨ i = 2 ∨ i = 3 ∨ i = 4 ∨ i = 5 ∨ i = 6 ∨ i = 7 ∨ i = 8 ∨ i = 9 ∨ i = 10 ∨ i = 11 ∨ i = 12 ∨ i = 13 ∨ i = 14 ∨ i = 15 ∨ i = 16 ∨ i = 17 ∨ i = 18 ∨ i = 19 ∨ i = 20 ∨ i = 21 ∨ i = 22 ∨ i = 23 ∨ i = 24 ∨ i = 25 ∨ i = 26 ∨ i = 27 ∨ i = 28 ∨ i = 29 ∨ i = 30 ∨ i = 31 by omega) with rfl | rfl | rfl | rfl | rfl | rfl | rfl | rfl | rfl | rfl | rfl | rfl | rfl | rfl | rfl | rfl | rfl | rfl | rfl | rfl | rfl | rfl | rfl | rfl | rfl | rfl | rfl | rfl | rfl | rfl | rfl | rfl <;> rfl
theorem bshl_nat {a i : Nat} (hi : i < 32) (h : a * 2 ^ i < 2147483648) : bshl (a : Int) (i : Int) = ((a * 2 ^ i : Nat) : Int) := by
  have ha : a < 2147483648 := Nat.lt_of_le_of_lt (Nat.le_mul_of_pos_right a (Nat.two_pow_pos i)) h
  unfold bshl
  rw [sh31 hi]
  have h1 := pk_shl (iv (a : Int)) (iv (i : Int)) i (smod32 hi)
  have h2 : (iv (a : Int)).toBitVec.toNat = a := by rw [iv_nat ha, BitVec.toNat_ofNat]; omega
  rw [h2, Nat.mod_eq_of_lt (by omega)] at h1
  rw [toInt_small (by rw [h1]; exact h), h1]
theorem bshr_nat {a i : Nat} (hi : i < 32) (ha : a < 2147483648) : bshr (a : Int) (i : Int) = ((a / 2 ^ i : Nat) : Int) := by
  unfold bshr
  rw [sh31 hi]
  have h1 := pk_shr (iv (a : Int)) (iv (i : Int)) i (smod32 hi)
  rw [h1, iv_toInt ⟨by omega, by omega⟩, Int.shiftRight_eq_div_pow]
  rfl
theorem bushr_8 (x : Int) : bushr x 8 = (x % 4294967296) / 256 := by
  unfold bushr
  have h1 := pk_ushr (iv x) (iv 8) 8 (by decide)
  have h2 : ((iv x).toBitVec.toNat : Int) = x % 4294967296 := by
    unfold iv
    rw [show (Int32.ofInt x).toBitVec = BitVec.ofInt 32 x from rfl, BitVec.toNat_ofInt]
    omega
  have h3 : (iv x).toBitVec.toNat < 2 ^ 32 := (iv x).toBitVec.isLt
  rw [toInt_small (by rw [h1]; omega), h1]
  omega
theorem hb_nat {b i : Nat} (hi : i < 32) (hb' : b < 2147483648) : hb (b : Int) (i : Int) ↔ b.testBit i = true := by
  unfold hb
  rw [bshr_nat hi hb', show (1 : Int) = ((1 : Nat) : Int) from rfl, band_nat (Nat.lt_of_le_of_lt (Nat.div_le_self _ _) hb') (by decide), Nat.and_one_is_mod, Nat.testBit_eq_decide_div_mod_eq]
  simp only [decide_eq_true_eq]
  omega
