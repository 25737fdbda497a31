/-! pure: the tape and the counts on both sides -/
theorem iv_un (x : Int) : ((iv x).toBitVec.toNat : Int) = x % 4294967296 := by
  unfold iv
  rw [show (Int32.ofInt x).toBitVec = BitVec.ofInt 32 x from rfl, BitVec.toNat_ofInt]
  omega
theorem band_255 (x : Int) : band x 255 = x % 256 := by
  unfold band
  have h1 : (iv x &&& iv 255).toBitVec.toNat = (iv x).toBitVec.toNat % 2 ^ 8 := by
    rw [Int32.toBitVec_and, BitVec.toNat_and, show (iv 255).toBitVec.toNat = 2 ^ 8 - 1 from by decide, Nat.and_two_pow_sub_one_eq_mod]
  have h2 := iv_un x
  rw [toInt_small (by rw [h1]; omega), h1]
  omega
theorem bushr_24 (x : Int) : bushr x 24 = (x % 4294967296) / 16777216 := by
  unfold bushr
  have h1 := pk_ushr (iv x) (iv 24) 24 (by decide)
  have h2 := iv_un x
  have h3 : (iv x).toBitVec.toNat < 2 ^ 32 := (iv x).toBitVec.isLt
  rw [toInt_small (by rw [h1]; omega), h1]
  omega
theorem bushr_16 (x : Int) : bushr x 16 = (x % 4294967296) / 65536 := by
  unfold bushr
  have h1 := pk_ushr (iv x) (iv 16) 16 (by decide)
  have h2 := iv_un x
  have h3 : (iv x).toBitVec.toNat < 2 ^ 32 := (iv x).toBitVec.isLt
  rw [toInt_small (by rw [h1]; omega), h1]
  omega
theorem bushr_0 {x : Int} (h : r32 x) : bushr x 0 = x := by
  unfold bushr
  have h1 := pk_ushr (iv x) (iv 0) 0 (by decide)
  have e : ((iv x).toUInt32 >>> ((iv 0).toUInt32 &&& Int32.toUInt32 31)).toInt32 = iv x := by
    apply Int32.toBitVec_inj.mp
    apply BitVec.eq_of_toNat_eq
    rw [h1]; simp
  rw [e, iv_toInt h]
theorem wbyte_m {a : Int} (h : r32 a) : wbyte a % 256 = a % 256 := by
  unfold wbyte
  rw [Int32.toInt_toInt8, iv_toInt h]
  simp only [Int.bmod]
  split <;> omega
theorem bshr_g {x : Int} (h : r32 x) {i : Nat} (hi : i < 32) : bshr x (i : Int) = x / ((2 ^ i : Nat) : Int) := by
  unfold bshr
  rw [sh31 hi]
  have h1 := pk_shr (iv x) (iv (i : Int)) i (smod32 hi)
  rw [h1, iv_toInt h, Int.shiftRight_eq_div_pow]
theorem byte_eq {v : Int} (h : r32 v) : band (bushr v 24) 255 = band (wbyte (bshr v 24)) 255 ∧ band (bushr v 16) 255 = band (wbyte (bshr v 16)) 255 ∧ band (bushr v 8) 255 = band (wbyte (bshr v 8)) 255 ∧ band (bushr v 0) 255 = band (wbyte (bshr v 0)) 255 := by
  have e24 : bshr v 24 = v / 16777216 := bshr_g h (i := 24) (by decide)
  have e16 : bshr v 16 = v / 65536 := bshr_g h (i := 16) (by decide)
  have e8 : bshr v 8 = v / 256 := bshr_g h (i := 8) (by decide)
  have e0 : bshr v 0 = v / 1 := bshr_g h (i := 0) (by decide)
  have hv : -2147483648 ≤ v ∧ v < 2147483648 := h
  rw [band_255, band_255, band_255, band_255, band_255, band_255, band_255, band_255, e24, e16, e8, e0, bushr_24, bushr_16, bushr_8, bushr_0 h]
  have r1 := wbyte_m (a := v / 16777216) ⟨by omega, by omega⟩
  have r2 := wbyte_m (a := v / 65536) ⟨by omega, by omega⟩
  have r3 := wbyte_m (a := v / 256) ⟨by omega, by omega⟩
  have r4 := wbyte_m (a := v / 1) ⟨by omega, by omega⟩
  omega
/-- the tape on both sides -/
def TT (σ μ : zG) : Prop := (σ 1 1 = μ 0 2 ∧ 0 ≤ μ 0 2 ∧ μ 0 2 ≤ 940) ∧ ∀ j : Int, 0 ≤ j → j < 940 → σ 2 j = mu μ j ∧ 0 ≤ σ 2 j ∧ σ 2 j ≤ 255
theorem TT_row {σ τ μ ν : zG} (h : TT σ μ) (c1 : τ 1 1 = σ 1 1) (c2 : τ 2 = σ 2) (m0 : ν 0 2 = μ 0 2) (m1 : ν 1 = μ 1) : TT τ ν := by
  unfold TT mu at *
  rw [c1, c2, m0, m1]; exact h
theorem TT_four {σ μ : zG} (h : TT σ μ) {v : Int} (hv : r32 v) (hl : μ 0 2 + 4 ≤ 940) : TT (F_X7_put σ v) (F_X12_four μ v) ∧ F_X12_four μ v 0 2 = μ 0 2 + 4 := by
  obtain ⟨⟨h1, h0, h9⟩, h2⟩ := h
  obtain ⟨b1, b2, b3, b4⟩ := byte_eq hv
  have L : F_X12_four μ v 0 2 = μ 0 2 + 4 := by unfold F_X12_four; simp [zu]; omega
  have rb : ∀ x : Int, 0 ≤ band x 255 ∧ band x 255 ≤ 255 := fun x => by rw [band_255]; omega
  have S1 : F_X7_put σ v 1 1 = μ 0 2 + 4 := by unfold F_X7_put; simp [zu]; omega
  have S2 : ∀ j : Int, F_X7_put σ v 2 j = if j = σ 1 1 + 1 + 1 + 1 then band (bushr v 0) 255 else if j = σ 1 1 + 1 + 1 then band (bushr v 8) 255 else if j = σ 1 1 + 1 then band (bushr v 16) 255 else if j = σ 1 1 then band (bushr v 24) 255 else σ 2 j := fun j => by unfold F_X7_put; simp [zu]
  have M1 : ∀ j : Int, F_X12_four μ v 1 j = if j = μ 0 2 + 1 + 1 + 1 then wbyte (bshr v 0) else if j = μ 0 2 + 1 + 1 then wbyte (bshr v 8) else if j = μ 0 2 + 1 then wbyte (bshr v 16) else if j = μ 0 2 then wbyte (bshr v 24) else μ 1 j := fun j => by unfold F_X12_four; simp [zu]
  refine ⟨⟨by rw [S1, L]; omega, fun j j0 j1 => ?_⟩, L⟩
  unfold mu
  rw [S2 j, M1 j, h1]
  by_cases c4 : j = μ 0 2 + 1 + 1 + 1
  · rw [if_pos c4, if_pos c4]; exact ⟨b4, rb _⟩
  · rw [if_neg c4, if_neg c4]
    by_cases c3 : j = μ 0 2 + 1 + 1
    · rw [if_pos c3, if_pos c3]; exact ⟨b3, rb _⟩
    · rw [if_neg c3, if_neg c3]
      by_cases c2 : j = μ 0 2 + 1
      · rw [if_pos c2, if_pos c2]; exact ⟨b2, rb _⟩
      · rw [if_neg c2, if_neg c2]
        by_cases c1 : j = μ 0 2
        · rw [if_pos c1, if_pos c1]; exact ⟨b1, rb _⟩
        · rw [if_neg c1, if_neg c1]; exact h2 j j0 j1
theorem q_feed {σ μ : zG} (h : TT σ μ) {a b c d e : Int} (ha : r32 a) (hb' : r32 b) (hc : r32 c) (hd : r32 d) (he : r32 e) : V_X11_feed σ a b c d e = V_X12_feed μ a b c d e ∧ TT (F_X11_feed σ a b c d e) (F_X12_feed μ a b c d e) := by
  have h1 := h.1
  unfold V_X11_feed V_X12_feed F_X11_feed F_X12_feed
  rw [h1.1]
  have z : TT σ (zu μ 0 0 0) := TT_row h rfl rfl (zu_off _ _ _ (by decide)) (zu_row _ _ _ (by decide))
  have z2 : zu μ 0 0 0 0 2 = μ 0 2 := zu_off _ _ _ (by decide)
  by_cases k : μ 0 2 + 20 ≤ 940
  · simp only [if_pos k]
    obtain ⟨t1, l1⟩ := TT_four z ha (by omega)
    obtain ⟨t2, l2⟩ := TT_four t1 hb' (by omega)
    obtain ⟨t3, l3⟩ := TT_four t2 hc (by omega)
    obtain ⟨t4, l4⟩ := TT_four t3 hd (by omega)
    obtain ⟨t5, l5⟩ := TT_four t4 he (by omega)
    exact ⟨trivial, t5⟩
  · simp only [if_neg k]
    exact ⟨trivial, z⟩
theorem q_end {σ μ : zG} (h : TT σ μ) (x : Int) : V_X11_end σ x = V_X12_end μ x ∧ TT (F_X11_end σ x) (F_X12_end μ x) := by
  have h1 := h.1
  unfold V_X11_end V_X12_end F_X11_end F_X12_end
  rw [h1.1]
  have z : TT σ (zu μ 0 0 0) := TT_row h rfl rfl (zu_off _ _ _ (by decide)) (zu_row _ _ _ (by decide))
  by_cases c : x < 0
  · simp only [if_pos c]; exact ⟨trivial, z⟩
  · simp only [if_neg c]
    by_cases d : x ≤ μ 0 2
    · simp only [if_pos d]
      refine ⟨trivial, ⟨by rw [zu_at, zu_at]; omega, ?_⟩⟩
      unfold mu
      rw [zu_row _ _ _ (by decide), zu_row _ _ _ (by decide), zu_row _ _ _ (by decide)]
      exact h.2
    · simp only [if_neg d]; exact ⟨trivial, z⟩
theorem q_count {σ μ : zG} (h : TT σ μ) (hV : VS σ μ) (hB : BK σ μ) (x : Int) : V_X11_count σ x = V_X12_count μ x := by
  obtain ⟨v0, v1, v2, v3, _⟩ := hV
  unfold V_X11_count V_X12_count
  by_cases c0 : x = 0
  · rw [if_pos c0, if_pos (by omega), c0]; exact v0.1
  rw [if_neg c0]
  by_cases c1 : x = 1
  · rw [if_pos c1, if_pos (by omega), c1]; exact v1.1
  rw [if_neg c1]
  by_cases c2 : x = 2
  · rw [if_pos c2, if_pos (by omega), c2]; exact v2.2.1
  rw [if_neg c2, if_neg (show ¬ (0 ≤ x ∧ x ≤ 2) by omega)]
  by_cases c3 : x = 3
  · rw [if_pos c3, if_pos c3]; exact hB.1.1
  rw [if_neg c3, if_neg c3]
  by_cases r : 4 ≤ x ∧ x ≤ 8
  · rw [if_pos r]
    have all : (if x < 4 then (-1 : Int) else if 9 ≤ x then -1 else σ 15 (x - 4)) = μ 2 (3 + x - 4) := by
      rw [if_neg (by omega), if_neg (by omega)]
      rcases (show x = 4 ∨ x = 5 ∨ x = 6 ∨ x = 7 ∨ x = 8 by omega) with e | e | e | e | e
      · subst e; exact v3.1
      · subst e; exact v3.2.1
      · subst e; exact v3.2.2.1
      · subst e; exact v3.2.2.2.1
      · subst e; exact v3.2.2.2.2.1
    rw [all]
    by_cases c9 : x = 9
    · omega
    · rw [if_neg c9]
      repeat' split
      all_goals rfl
  · rw [if_neg r, if_neg (show ¬ x = 4 by omega), if_neg (show ¬ x = 5 by omega), if_neg (show ¬ x = 6 by omega), if_neg (show ¬ x = 7 by omega), if_neg (show ¬ x = 8 by omega)]
    by_cases c9 : x = 9
    · rw [if_pos c9, if_pos c9]; exact h.1.1
    · rw [if_neg c9, if_neg c9]
      split
      · rfl
      · rw [if_pos (by omega)]
