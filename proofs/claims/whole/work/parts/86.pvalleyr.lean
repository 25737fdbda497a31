/-! pure: the reading of a valley, begun and ended -/
theorem vclear_rows (σ : zG) : (∀ j : Int, j = 0 ∨ j = 1 ∨ j = 2 ∨ j = 3 → F_X9_clear σ 16 j = 0) ∧ (∀ a : Int, 0 ≤ a → a < 8 → F_X9_clear σ 18 a = 0) ∧ (∀ j : Int, 0 ≤ j → j < 96 → F_X9_clear σ 25 j = -1) ∧ (∀ w : Int, 0 ≤ w → w < 5 → F_X9_clear σ 26 w = zset 0 w.toNat) ∧ ∀ k : Nat, k ≠ 16 → k ≠ 18 → k ≠ 25 → k ≠ 26 → F_X9_clear σ k = σ k := by
  unfold F_X9_clear
  refine ⟨fun j hj => ?_, fun a a0 a8 => ?_, fun j j0 j1 => ?_, fun w w0 w1 => ?_, fun k h16 h18 h25 h26 => ?_⟩
  · rw [zcs_row _ _ (by decide), fr_zfl (h := by decide), fr_zfl (h := by decide)]
    rcases hj with rfl | rfl | rfl | rfl <;> simp [zu]
  · rw [zcs_row _ _ (by decide), fr_zfl (h := by decide), zfl_at, if_pos ⟨a0, a8⟩]
  · rw [zcs_row _ _ (by decide), zfl_at, if_pos ⟨j0, j1⟩]
  · rw [zcs_if, if_pos ⟨w0, w1⟩]
  · rw [zcs_row _ _ h26, fr_zfl (h := by simpa using h25), fr_zfl (h := by simpa using h18), zu_row _ _ _ h16, zu_row _ _ _ h16, zu_row _ _ _ h16, zu_row _ _ _ h16]
theorem valley_NV (σ : zG) {μ : zG} (h20 : μ 0 20 = 0) : NV (F_X9_clear σ) (R_X12_plainValley μ) := by
  obtain ⟨c16, c18, c25, c26, _⟩ := vclear_rows σ
  have p : ∀ j : Int, 0 ≤ j → j < 172 → (j < 3 ∨ 7 < j) → R_X12_plainValley μ 3 j = 0 := fun j j0 j1 h => by
    rw [plain_3 μ j0 j1, if_neg (by omega), if_neg (by omega), if_neg (by omega), if_neg (by omega), if_neg (by omega)]
  have p0 := p 0 (by decide) (by decide) (by decide)
  have p1 := p 1 (by decide) (by decide) (by decide)
  have p2 := p 2 (by decide) (by decide) (by decide)
  have p3 : R_X12_plainValley μ 3 3 = 28 := by rw [plain_3 μ (by decide) (by decide)]; decide
  have p4 : R_X12_plainValley μ 3 4 = 5 := by rw [plain_3 μ (by decide) (by decide)]; decide
  have p5 : R_X12_plainValley μ 3 5 = 15 := by rw [plain_3 μ (by decide) (by decide)]; decide
  have p6 : R_X12_plainValley μ 3 6 = 5 := by rw [plain_3 μ (by decide) (by decide)]; decide
  have p7 : R_X12_plainValley μ 3 7 = 20 := by rw [plain_3 μ (by decide) (by decide)]; decide
  have m20 : R_X12_plainValley μ 0 20 = 0 := by rw [plain_r μ (by decide)]; exact h20
  refine ⟨⟨?_, ?_, fun j j0 j1 => ?_, fun j j0 j1 => ?_⟩, fun f f0 f1 => ?_, fun a a0 a8 => ?_, ⟨?_, fun i i0 i1 => ?_⟩, fun j j0 j1 => ?_, ⟨fun w w0 w1 => ?_, ?_, ?_, ?_⟩⟩
  · rw [c16 0 (by decide), p0]; decide
  · rw [c16 1 (by decide), p1]; decide
  · rw [p0] at j1; omega
  · rw [p1] at j1; omega
  · rw [p1] at f1; omega
  · rw [c18 a a0 a8, p (44 + a) (by omega) (by omega) (by omega)]
    exact ⟨rfl, by decide, fun i i0 i1 => hb_0 ⟨by rw [p1] at i0; exact i0, by omega⟩, fun _ => rfl⟩
  · rw [c16 2 (by decide), p2]; decide
  · rw [p2] at i1; omega
  · rw [c25 j j0 j1, p (76 + j) (by omega) (by omega) (by omega)]; decide
  · rw [c26 w w0 w1, c16 3 (by decide), m20]
    refine ⟨?_, ⟨fun x => absurd x (hb_0 ⟨w0, by omega⟩), fun x => absurd x (hb_0 ⟨by omega, by omega⟩)⟩⟩
    rcases (show w = 0 ∨ w = 1 ∨ w = 2 ∨ w = 3 ∨ w = 4 by omega) with rfl | rfl | rfl | rfl | rfl
    · exact p3.symm
    · exact p4.symm
    · exact p5.symm
    · exact p6.symm
    · exact p7.symm
  · rw [c16 3 (by decide)]; decide
  · rw [m20]; decide
  · rw [p3, p4, p5, p6, p7]; decide
/-- a valley read on both sides -/
theorem valley_read {σ μ : zG} (hK : KW σ μ) (hC : KC σ) (h1 : σ 1 1 = μ 0 2 ∧ 0 ≤ μ 0 2 ∧ μ 0 2 ≤ 940) (h2 : ∀ j : Int, 0 ≤ j → j < 940 → σ 2 j = mu μ j ∧ 0 ≤ σ 2 j ∧ σ 2 j ≤ 255) : VO (R_X9_take (F_X5_open σ 900)) (R_X12_valley μ) := by
  have hTP := valley_TP h1 h2 (x := 900) (by decide)
  have o4 : F_X5_open σ 900 4 = σ 4 := by unfold F_X5_open; simp only [zu_row _ _ _ (show (4 : Nat) ≠ 3 by decide)]
  have t6 : F_X12_taken (zu μ 0 0 0) 900 6 = μ 6 := by unfold F_X12_taken; simp only [zu_row _ _ _ (show (6 : Nat) ≠ 0 by decide)]
  have t5 : F_X12_taken (zu μ 0 0 0) 900 0 5 = 900 := by unfold F_X12_taken; simp [zu]
  have t4 : F_X12_taken (zu μ 0 0 0) 900 0 4 = 0 := by unfold F_X12_taken; simp [zu]
  unfold R_X9_take R_X12_valley
  generalize F_X12_taken (zu μ 0 0 0) 900 = μ1 at *
  generalize F_X5_open σ 900 = σ1 at *
  obtain ⟨_, _, _, _, cr⟩ := vclear_rows σ1
  have b : ∀ j : Int, j ≠ 15 → j ≠ 20 → j ≠ 19 → zu (zu (zu μ1 0 15 0) 0 20 0) 0 19 0 0 j = μ1 0 j := fun j h15 h20 h19 => by rw [zu_off _ _ _ h19, zu_off _ _ _ h20, zu_off _ _ _ h15]
  have br : ∀ k : Nat, k ≠ 0 → zu (zu (zu μ1 0 15 0) 0 20 0) 0 19 0 k = μ1 k := fun k hk => by rw [zu_row _ _ _ hk, zu_row _ _ _ hk, zu_row _ _ _ hk]
  have b20 : zu (zu (zu μ1 0 15 0) 0 20 0) 0 19 0 0 20 = 0 := by rw [zu_off _ _ _ (by decide), zu_at]
  have b19 : zu (zu (zu μ1 0 15 0) 0 20 0) 0 19 0 0 19 = 0 := zu_at _ _ _ _
  generalize zu (zu (zu μ1 0 15 0) 0 20 0) 0 19 0 = μ2 at *
  have hP2 : TP (F_X9_clear σ1) (R_X12_plainValley μ2) := by
    refine TP_row hTP (cr 1 (by decide) (by decide) (by decide) (by decide)) (cr 2 (by decide) (by decide) (by decide) (by decide)) (by rw [cr 3 (by decide) (by decide) (by decide) (by decide)]) (by rw [cr 3 (by decide) (by decide) (by decide) (by decide)]) ?_ ?_ ?_ ?_
    · rw [plain_r _ (by decide), br 1 (by decide)]
    · rw [plain_r _ (by decide), b 3 (by decide) (by decide) (by decide)]
    · rw [plain_r _ (by decide), b 4 (by decide) (by decide) (by decide)]
    · rw [plain_r _ (by decide), b 5 (by decide) (by decide) (by decide)]
  have tk := nx_tok (R_X12_plainValley μ2)
  have z4 : R_X12_plainValley μ2 0 4 = 0 := by rw [plain_r _ (by decide), b 4 (by decide) (by decide) (by decide), t4]
  have z5 : R_X12_plainValley μ2 0 5 = 900 := by rw [plain_r _ (by decide), b 5 (by decide) (by decide) (by decide), t5]
  rw [z4, z5] at tk
  refine valley_loop 1000 1000 0 _ _ ?_ ?_ (LK_next hP2) (NV_nx (valley_NV σ1 b20)) ⟨by decide, ?_, ?_, ?_⟩ (by decide) (by decide)
  · exact KW_row hK (by rw [cr 4 (by decide) (by decide) (by decide) (by decide), o4]) (by rw [nx_r _ (by decide), plain_r _ (by decide), br 6 (by decide), t6])
  · unfold KC at *
    rw [cr 4 (by decide) (by decide) (by decide) (by decide), o4]
    exact hC
  · rw [kz_next _ (by unfold kj; decide)]; exact z5
  · rw [kz_next _ (by unfold kj; decide), plain_r _ (by decide)]; exact b19
  · rcases tk with x | x | x
    · exact Or.inl x
    · exact Or.inr (Or.inl x)
    · exact Or.inr (Or.inr ⟨x.1, x.2.2, x.2.1⟩)
