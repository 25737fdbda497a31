/-! pure: where the reading of a valley begins -/
theorem plainS : ∀ (n : Nat) (q : Int) (μ : zG), 0 ≤ q → (172 - q).toNat < n → ∀ j : Int, (q ≤ j → j < 172 → (S_X12_plainValley_2 n q μ).2 3 j = 0) ∧ (j < q → (S_X12_plainValley_2 n q μ).2 3 j = μ 3 j)
  | 0, q, μ, _, h, _ => absurd h (Nat.not_lt_zero _)
  | n + 1, q, μ, h0, h, j => by
    rw [S_X12_plainValley_2]
    by_cases c : 172 ≤ q
    · rw [if_pos c]; exact ⟨fun a b => absurd b (by omega), fun _ => rfl⟩
    · rw [if_neg c]
      have ih := plainS n (q + 1) (zu μ 3 q 0) (by omega) (by omega) j
      refine ⟨fun a b => ?_, fun a => ?_⟩
      · by_cases e : j = q
        · rw [ih.2 (by omega), e, zu_at]
        · exact ih.1 (by omega) b
      · rw [ih.2 (by omega), zu_off _ _ _ (by omega)]
theorem plain_3 (μ : zG) {j : Int} (h0 : 0 ≤ j) (h1 : j < 172) : R_X12_plainValley μ 3 j = if j = 7 then 20 else if j = 6 then 5 else if j = 5 then 15 else if j = 4 then 5 else if j = 3 then 28 else 0 := by
  unfold R_X12_plainValley
  rw [zu_if, zu_if, zu_if, zu_if, zu_if, (plainS 180 0 μ (by decide) (by decide) j).1 h0 h1]
theorem plain_r (μ : zG) {k : Nat} (h : k ≠ 3) : R_X12_plainValley μ k = μ k := by
  unfold R_X12_plainValley
  rw [zu_row _ _ _ h, zu_row _ _ _ h, zu_row _ _ _ h, zu_row _ _ _ h, zu_row _ _ _ h, fr_S_X12_plainValley_2 (h := by simpa using h)]
theorem valley_TP {σ μ : zG} (h1 : σ 1 1 = μ 0 2 ∧ 0 ≤ μ 0 2 ∧ μ 0 2 ≤ 940) (h2 : ∀ j : Int, 0 ≤ j → j < 940 → σ 2 j = mu μ j ∧ 0 ≤ σ 2 j ∧ σ 2 j ≤ 255) {x : Int} (hx : 0 ≤ x) : TP (F_X5_open σ x) (F_X12_taken (zu μ 0 0 0) x) := by
  have o1 : F_X5_open σ x 1 = σ 1 := by unfold F_X5_open; simp only [zu_row _ _ _ (show (1 : Nat) ≠ 3 by decide)]
  have o2 : F_X5_open σ x 2 = σ 2 := by unfold F_X5_open; simp only [zu_row _ _ _ (show (2 : Nat) ≠ 3 by decide)]
  have o32 : F_X5_open σ x 3 2 = min (σ 1 1) x := by unfold F_X5_open; simp [zu]
  have o33 : F_X5_open σ x 3 3 = 0 := by unfold F_X5_open; simp [zu]
  have t3 : F_X12_taken (zu μ 0 0 0) x 0 3 = μ 0 2 := by unfold F_X12_taken; simp [zu]
  have t4 : F_X12_taken (zu μ 0 0 0) x 0 4 = 0 := by unfold F_X12_taken; simp [zu]
  have t5 : F_X12_taken (zu μ 0 0 0) x 0 5 = x := by unfold F_X12_taken; simp [zu]
  have t1 : F_X12_taken (zu μ 0 0 0) x 1 = μ 1 := by unfold F_X12_taken; simp only [zu_row _ _ _ (show (1 : Nat) ≠ 0 by decide)]
  unfold TP mu
  rw [o1, o2, o32, o33, t3, t4, t5, t1, h1.1]
  exact ⟨⟨rfl, h1.2⟩, h2, rfl, ⟨Int.le_refl _, Int.le_refl _, h1.2.1⟩, Or.inl rfl, hx⟩
