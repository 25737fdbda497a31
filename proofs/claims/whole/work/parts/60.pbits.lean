/-! pure: bits -/
theorem toN2 {x : Int} (h : 0 ≤ x) : ∃ n : Nat, x = (n : Int) := Int.eq_ofNat_of_zero_le h
theorem bit_nat {c : Nat} (h : c < 12) : bshl (1 : Int) (c : Int) = ((2 ^ c : Nat) : Int) ∧ 2 ^ c < 4096 := by
  have hp : 2 ^ c < 2 ^ 12 := Nat.pow_lt_pow_right (by decide) h
  refine ⟨?_, hp⟩
  have := bshl_nat (a := 1) (i := c) (by omega) (by omega)
  rw [Nat.one_mul] at this
  exact this
theorem hb_bor {a b i : Int} (ha : 0 ≤ a ∧ a < 4096) (hb' : 0 ≤ b ∧ b < 4096) (hi : 0 ≤ i ∧ i < 32) : hb (bor a b) i ↔ hb a i ∨ hb b i := by
  obtain ⟨m, rfl⟩ := toN2 ha.1
  obtain ⟨n, rfl⟩ := toN2 hb'.1
  obtain ⟨k, rfl⟩ := toN2 hi.1
  have h8 : m ||| n < 2 ^ 12 := Nat.or_lt_two_pow (by omega) (by omega)
  rw [bor_nat (by omega) (by omega), hb_nat (by omega) (by omega), hb_nat (by omega) (by omega), hb_nat (by omega) (by omega), Nat.testBit_or, Bool.or_eq_true]
theorem hb_band {a b i : Int} (ha : 0 ≤ a ∧ a < 4096) (hb' : 0 ≤ b ∧ b < 4096) (hi : 0 ≤ i ∧ i < 32) : hb (band a b) i ↔ hb a i ∧ hb b i := by
  obtain ⟨m, rfl⟩ := toN2 ha.1
  obtain ⟨n, rfl⟩ := toN2 hb'.1
  obtain ⟨k, rfl⟩ := toN2 hi.1
  have h8 : m &&& n ≤ m := Nat.and_le_left
  rw [band_nat (by omega) (by omega), hb_nat (by omega) (by omega), hb_nat (by omega) (by omega), hb_nat (by omega) (by omega), Nat.testBit_and, Bool.and_eq_true]
theorem hb_bit {c i : Int} (hc : 0 ≤ c ∧ c < 12) (hi : 0 ≤ i ∧ i < 32) : hb (bshl 1 c) i ↔ i = c := by
  obtain ⟨m, rfl⟩ := toN2 hc.1
  obtain ⟨k, rfl⟩ := toN2 hi.1
  have h := bit_nat (c := m) (by omega)
  rw [h.1, hb_nat (by omega) (by omega), Nat.testBit_two_pow]
  simp only [decide_eq_true_eq]
  omega
theorem hb_0 {i : Int} (hi : 0 ≤ i ∧ i < 32) : ¬ hb 0 i := by
  obtain ⟨k, rfl⟩ := toN2 hi.1
  rw [show (0 : Int) = ((0 : Nat) : Int) from rfl, hb_nat (by omega) (by decide), Nat.zero_testBit]
  decide
theorem bit_r {c : Int} (hc : 0 ≤ c ∧ c < 12) : 0 ≤ bshl 1 c ∧ bshl 1 c < 4096 := by
  obtain ⟨m, rfl⟩ := toN2 hc.1
  have h := bit_nat (c := m) (by omega)
  rw [h.1]
  exact ⟨Int.natCast_nonneg _, Int.ofNat_lt.mpr h.2⟩
theorem bor_r {a b : Int} (ha : 0 ≤ a ∧ a < 4096) (hb' : 0 ≤ b ∧ b < 4096) : 0 ≤ bor a b ∧ bor a b < 4096 := bor_lo ha hb'
theorem band_r {a b : Int} (ha : 0 ≤ a ∧ a < 4096) : 0 ≤ band a b ∧ band a b < 4096 := by
  have := band_lo b ha
  omega
theorem hb_ext {a b : Int} (ha : 0 ≤ a ∧ a < 4096) (hb' : 0 ≤ b ∧ b < 4096) (h : ∀ i : Int, 0 ≤ i → i < 12 → (hb a i ↔ hb b i)) : a = b := by
  obtain ⟨m, rfl⟩ := toN2 ha.1
  obtain ⟨n, rfl⟩ := toN2 hb'.1
  congr 1
  apply Nat.eq_of_testBit_eq
  intro i
  by_cases hi : i < 12
  · have h1 := h i (by omega) (by omega)
    rw [hb_nat (by omega) (by omega), hb_nat (by omega) (by omega)] at h1
    exact Bool.eq_iff_iff.mpr h1
  · have h1 : m < 2 ^ i := Nat.lt_of_lt_of_le (by omega : m < 2 ^ 12) (Nat.pow_le_pow_right (by decide) (by omega))
    have h2 : n < 2 ^ i := Nat.lt_of_lt_of_le (by omega : n < 2 ^ 12) (Nat.pow_le_pow_right (by decide) (by omega))
    rw [Nat.testBit_lt_two_pow h1, Nat.testBit_lt_two_pow h2]
/-- a mask of two bits lies in a set -/
theorem mask2 {al a b : Int} (h : 0 ≤ al ∧ al < 4096) (ha : 0 ≤ a ∧ a < 12) (hb' : 0 ≤ b ∧ b < 12) : band al (bor (bshl 1 a) (bshl 1 b)) = bor (bshl 1 a) (bshl 1 b) ↔ hb al a ∧ hb al b := by
  have r1 := bit_r ha
  have r2 := bit_r hb'
  have r3 := bor_r r1 r2
  constructor
  · intro e
    have k : ∀ i : Int, 0 ≤ i → i < 12 → hb (bor (bshl 1 a) (bshl 1 b)) i → hb al i := by
      intro i i0 i1 hi
      rw [← e, hb_band h r3 ⟨i0, by omega⟩] at hi
      exact hi.1
    constructor
    · exact k a ha.1 ha.2 ((hb_bor r1 r2 ⟨ha.1, by omega⟩).mpr (Or.inl ((hb_bit ha ⟨ha.1, by omega⟩).mpr rfl)))
    · exact k b hb'.1 hb'.2 ((hb_bor r1 r2 ⟨hb'.1, by omega⟩).mpr (Or.inr ((hb_bit hb' ⟨hb'.1, by omega⟩).mpr rfl)))
  · intro hh
    refine hb_ext (band_r h) r3 (fun i i0 i1 => ?_)
    rw [hb_band h r3 ⟨i0, by omega⟩]
    constructor
    · exact fun q => q.2
    · intro q
      refine ⟨?_, q⟩
      rw [hb_bor r1 r2 ⟨i0, by omega⟩, hb_bit ha ⟨i0, by omega⟩, hb_bit hb' ⟨i0, by omega⟩] at q
      rcases q with rfl | rfl
      · exact hh.1
      · exact hh.2
theorem not_r {k : Int} (h : 0 ≤ k ∧ k < 4096) (x i : Int) (hx : 0 ≤ x ∧ x < 4096) (hi : 0 ≤ i ∧ i < 12) : hb (band x (bxor k (-1))) i ↔ hb x i ∧ ¬ hb k i := by
  obtain ⟨n, rfl⟩ := toN2 h.1
  obtain ⟨m, rfl⟩ := toN2 hx.1
  obtain ⟨j, rfl⟩ := toN2 hi.1
  have h1 := band_lo (bxor (n : Int) (-1)) hx
  obtain ⟨z, hz⟩ := toN2 h1.1
  rw [hb_nat (b := n) (by omega) (by omega), hb_nat (b := m) (by omega) (by omega), hz, hb_nat (by omega) (by omega)]
  have e : z = m &&& (2 ^ 32 - 1 - n) := by
    have e2 : (z : Int) = band (m : Int) (bxor (n : Int) (-1)) := hz.symm
    unfold band bxor at e2
    rw [iv_of] at e2
    have e3 : (iv (m : Int) &&& (iv (n : Int) ^^^ iv (-1))).toBitVec.toNat = m &&& (2 ^ 32 - 1 - n) := by
      rw [Int32.toBitVec_and, Int32.toBitVec_xor, iv_nat (by omega), iv_nat (by omega)]
      rw [show (iv (-1)).toBitVec = BitVec.allOnes 32 from rfl, BitVec.xor_allOnes, BitVec.toNat_and, BitVec.toNat_not, BitVec.toNat_ofNat, BitVec.toNat_ofNat, Nat.mod_eq_of_lt (by omega), Nat.mod_eq_of_lt (by omega)]
    have h9 : m &&& (2 ^ 32 - 1 - n) ≤ m := Nat.and_le_left
    rw [toInt_small (by rw [e3]; omega), e3] at e2
    omega
  have e5 : (2 ^ 32 - 1 - n).testBit j = !n.testBit j := by
    have := Nat.testBit_two_pow_sub_succ (x := n) (n := 32) (by omega) j
    rw [show 2 ^ 32 - (n + 1) = 2 ^ 32 - 1 - n by omega] at this
    rw [this]
    simp
    omega
  rw [e, Nat.testBit_and, e5]
  simp
