/-! pure: names of the valley that stands, in the lines of a book -/
theorem name6_s {σ μ : zG} {mn : Int} (hK : KW σ μ) (h : LK σ μ) (hm : 0 ≤ mn ∧ mn ≤ 8) (hw : ∀ j : Int, 0 ≤ j → j < mn → wr (σ 6 j) (μ 5 (0 + j))) :
    (V_X12_takesName μ 0 mn = 0 ∧ V_X5_stepName_6 σ mn = -1 ∧ F_X5_stepName_6 σ mn 3 7 = F_X12_takesName μ 0 mn 0 15 ∧ F_X5_stepName_6 σ mn 3 5 = F_X12_takesName μ 0 mn 0 16) ∨
    (V_X12_takesName μ 0 mn = 1 ∧ V_X5_stepName_6 σ mn = F_X12_takesName μ 0 mn 0 18 ∧ (0 ≤ F_X12_takesName μ 0 mn 0 18 ∧ F_X12_takesName μ 0 mn 0 18 < mn) ∧ LK (F_X5_stepName_6 σ mn) (F_X12_takesName μ 0 mn) ∧ FRM σ (F_X5_stepName_6 σ mn) μ (F_X12_takesName μ 0 mn)) := by
  rcases name6_sim hK h hm hw with x | ⟨a, b, c, d, e, f, g⟩
  · exact Or.inl x
  · refine Or.inr ⟨a, by rw [d]; exact b, by rw [d]; exact c, e, ?_⟩
    rw [f, g]
    exact ⟨fun k hk => st_r σ hk, fun k hk => by rw [nx_r _ hk, zu_row _ _ _ hk], by rw [nx_20, zu_off _ _ _ (by decide)]⟩
theorem name6_h {σ μ : zG} {mn : Int} (hK : KW σ μ) (h : LK σ μ) (hm : 0 ≤ mn ∧ mn ≤ 8) (hw : ∀ j : Int, 0 ≤ j → j < mn → wr (σ 6 j) (μ 5 (0 + j))) :
    (R_X12_isName μ = 0 ∧ V_X5_stepName_6 σ mn = -1 ∧ F_X5_stepName_6 σ mn 3 7 = 1 ∧ F_X5_stepName_6 σ mn 3 5 = μ 0 12) ∨
    (R_X12_isName μ ≠ 0 ∧ R_X12_find μ 0 mn < 0 ∧ V_X5_stepName_6 σ mn = -1 ∧ F_X5_stepName_6 σ mn 3 7 = 3 ∧ F_X5_stepName_6 σ mn 3 5 = μ 0 12) ∨
    (R_X12_isName μ ≠ 0 ∧ (0 ≤ R_X12_find μ 0 mn ∧ R_X12_find μ 0 mn < mn) ∧ V_X5_stepName_6 σ mn = R_X12_find μ 0 mn ∧ F_X5_stepName_6 σ mn = F_X5_step σ) := by
  have hr : F_X5_step σ 6 = σ 6 := fr_F_X5_step σ (by decide)
  have hK2 : KW (F_X5_step σ) μ := by unfold KW at *; rw [fr_F_X5_step σ (by decide)]; exact hK
  unfold V_X5_stepName_6 F_X5_stepName_6
  rcases nm6 hK2 h.2 hm (by rw [hr]; exact hw) with ⟨a, b⟩ | ⟨a, b, c, d, e⟩
  · rw [if_pos a, if_pos a, zu_at, zu_off _ _ _ (by decide)]
    exact Or.inl ⟨b, rfl, rfl, h.2.1⟩
  · rw [if_neg a, if_neg a, c]
    rcases d with d | d
    · rw [if_pos d, zu_at, zu_off _ _ _ (by decide)]
      exact Or.inr (Or.inl ⟨b, by omega, d, rfl, h.2.1⟩)
    · rw [if_neg (show ¬ R_X12_find μ 0 mn = -1 by omega)]
      exact Or.inr (Or.inr ⟨b, d, rfl, rfl⟩)
theorem name8_s {σ μ : zG} {mn : Int} (hK : KW σ μ) (h : LK σ μ) (hm : 0 ≤ mn ∧ mn ≤ 12) (hw : ∀ j : Int, 0 ≤ j → j < mn → wr (σ 8 j) (μ 5 (8 + j))) :
    (V_X12_takesName μ 8 mn = 0 ∧ V_X5_stepName_8 σ mn = -1 ∧ F_X5_stepName_8 σ mn 3 7 = F_X12_takesName μ 8 mn 0 15 ∧ F_X5_stepName_8 σ mn 3 5 = F_X12_takesName μ 8 mn 0 16) ∨
    (V_X12_takesName μ 8 mn = 1 ∧ V_X5_stepName_8 σ mn = F_X12_takesName μ 8 mn 0 18 ∧ (0 ≤ F_X12_takesName μ 8 mn 0 18 ∧ F_X12_takesName μ 8 mn 0 18 < mn) ∧ LK (F_X5_stepName_8 σ mn) (F_X12_takesName μ 8 mn) ∧ FRM σ (F_X5_stepName_8 σ mn) μ (F_X12_takesName μ 8 mn)) := by
  rcases name8_sim hK h hm hw with x | ⟨a, b, c, d, e, f, g⟩
  · exact Or.inl x
  · refine Or.inr ⟨a, by rw [d]; exact b, by rw [d]; exact c, e, ?_⟩
    rw [f, g]
    exact ⟨fun k hk => st_r σ hk, fun k hk => by rw [nx_r _ hk, zu_row _ _ _ hk], by rw [nx_20, zu_off _ _ _ (by decide)]⟩
theorem name8_h {σ μ : zG} {mn : Int} (hK : KW σ μ) (h : LK σ μ) (hm : 0 ≤ mn ∧ mn ≤ 12) (hw : ∀ j : Int, 0 ≤ j → j < mn → wr (σ 8 j) (μ 5 (8 + j))) :
    (R_X12_isName μ = 0 ∧ V_X5_stepName_8 σ mn = -1 ∧ F_X5_stepName_8 σ mn 3 7 = 1 ∧ F_X5_stepName_8 σ mn 3 5 = μ 0 12) ∨
    (R_X12_isName μ ≠ 0 ∧ R_X12_find μ 8 mn < 0 ∧ V_X5_stepName_8 σ mn = -1 ∧ F_X5_stepName_8 σ mn 3 7 = 3 ∧ F_X5_stepName_8 σ mn 3 5 = μ 0 12) ∨
    (R_X12_isName μ ≠ 0 ∧ (0 ≤ R_X12_find μ 8 mn ∧ R_X12_find μ 8 mn < mn) ∧ V_X5_stepName_8 σ mn = R_X12_find μ 8 mn ∧ F_X5_stepName_8 σ mn = F_X5_step σ) := by
  have hr : F_X5_step σ 8 = σ 8 := fr_F_X5_step σ (by decide)
  have hK2 : KW (F_X5_step σ) μ := by unfold KW at *; rw [fr_F_X5_step σ (by decide)]; exact hK
  unfold V_X5_stepName_8 F_X5_stepName_8
  rcases nm8 hK2 h.2 hm (by rw [hr]; exact hw) with ⟨a, b⟩ | ⟨a, b, c, d, e⟩
  · rw [if_pos a, if_pos a, zu_at, zu_off _ _ _ (by decide)]
    exact Or.inl ⟨b, rfl, rfl, h.2.1⟩
  · rw [if_neg a, if_neg a, c]
    rcases d with d | d
    · rw [if_pos d, zu_at, zu_off _ _ _ (by decide)]
      exact Or.inr (Or.inl ⟨b, by omega, d, rfl, h.2.1⟩)
    · rw [if_neg (show ¬ R_X12_find μ 8 mn = -1 by omega)]
      exact Or.inr (Or.inr ⟨b, d, rfl, rfl⟩)
