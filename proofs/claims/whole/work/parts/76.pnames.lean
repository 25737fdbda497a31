/-! pure: names on both sides -/
theorem findR2 {μ : zG} {fm nn : Int} : ∀ (n : Nat) (i : Int), 0 ≤ i → (nn - i).toNat < n → L_X12_find_2 μ fm nn n i = -1 ∨ (0 ≤ L_X12_find_2 μ fm nn n i ∧ L_X12_find_2 μ fm nn n i < nn)
  | 0, i, _, h => absurd h (Nat.not_lt_zero _)
  | n + 1, i, h0, h => by
    rw [L_X12_find_2]
    by_cases c : nn ≤ i
    · rw [if_pos c]; exact Or.inl rfl
    · rw [if_neg c]
      by_cases k : zcmp (μ 5 (fm + i)) (μ 0 17) = 0
      · rw [if_pos k]; exact Or.inr ⟨h0, by omega⟩
      · rw [if_neg k]; exact findR2 n (i + 1) (by omega) (by omega)
theorem nm17 {σ μ : zG} {mn : Int} (hK : KW σ μ) (hT : TK σ μ) (hm : 0 ≤ mn ∧ mn ≤ 8) (hw : ∀ j : Int, 0 ≤ j → j < mn → wr (σ 17 j) (μ 5 (20 + j))) :
    (V_X5_isName σ = 0 ∧ R_X12_isName μ = 0) ∨ (V_X5_isName σ ≠ 0 ∧ R_X12_isName μ ≠ 0 ∧ R_X11_placeOf_17 σ (σ 3 6) mn = R_X12_find μ 20 mn ∧ (R_X12_find μ 20 mn = -1 ∨ (0 ≤ R_X12_find μ 20 mn ∧ R_X12_find μ 20 mn < mn)) ∧ wr (σ 3 6) (μ 0 17)) := by
  rcases isn_eq hK hT with h | ⟨h1, h2, h3, h4, h5⟩
  · exact Or.inl h
  · refine Or.inr ⟨h1, h2, ?_, findR2 30 0 (by decide) (by omega), h5⟩
    unfold R_X11_placeOf_17 R_X12_find
    exact find_eq (by omega) hw h5 30 30 0 (by decide) (by omega) (by omega)
theorem name17_sim {σ μ : zG} {mn : Int} (hK : KW σ μ) (h : LK σ μ) (hm : 0 ≤ mn ∧ mn ≤ 8) (hw : ∀ j : Int, 0 ≤ j → j < mn → wr (σ 17 j) (μ 5 (20 + j))) :
    (V_X12_takesName μ 20 mn = 0 ∧ V_X5_stepName_17 σ mn = -1 ∧ F_X5_stepName_17 σ mn 3 7 = F_X12_takesName μ 20 mn 0 15 ∧ F_X5_stepName_17 σ mn 3 5 = F_X12_takesName μ 20 mn 0 16) ∨
    (V_X12_takesName μ 20 mn = 1 ∧ V_X5_stepName_17 σ mn = R_X12_find μ 20 mn ∧ (0 ≤ R_X12_find μ 20 mn ∧ R_X12_find μ 20 mn < mn) ∧ F_X12_takesName μ 20 mn 0 18 = R_X12_find μ 20 mn ∧ LK (F_X5_stepName_17 σ mn) (F_X12_takesName μ 20 mn) ∧ F_X5_stepName_17 σ mn = F_X5_step σ ∧ F_X12_takesName μ 20 mn = F_X12_next (zu μ 0 18 (R_X12_find μ 20 mn))) := by
  have hr : F_X5_step σ 17 = σ 17 := fr_F_X5_step σ (by decide)
  have hK2 : KW (F_X5_step σ) μ := by unfold KW at *; rw [fr_F_X5_step σ (by decide)]; exact hK
  have e15 : ∀ x : Int, zu (zu μ 0 15 x) 0 16 (μ 0 12) 0 15 = x := fun x => by rw [zu_off _ _ _ (by decide), zu_at]
  unfold V_X12_takesName F_X12_takesName V_X5_stepName_17 F_X5_stepName_17
  rcases nm17 hK2 h.2 hm (by rw [hr]; exact hw) with ⟨a, b⟩ | ⟨a, b, c, d, e⟩
  · rw [if_pos a, if_pos a, if_pos b, if_pos b, e15, zu_at, zu_at, zu_off _ _ _ (by decide)]
    exact Or.inl ⟨rfl, rfl, rfl, h.2.1⟩
  · rw [if_neg a, if_neg a, if_neg b, if_neg b, c]
    rcases d with d | d
    · rw [if_neg (show ¬ 0 ≤ R_X12_find μ 20 mn by omega), if_neg (show ¬ 0 ≤ R_X12_find μ 20 mn by omega), if_pos d, d]
      refine Or.inl ⟨rfl, rfl, ?_, ?_⟩
      · rw [zu_at, zu_off _ _ _ (by decide), zu_at]
      · rw [zu_off _ _ _ (by decide), zu_at]; exact h.2.1
    · rw [if_pos d.1, if_pos d.1, if_neg (show ¬ R_X12_find μ 20 mn = -1 by omega)]
      refine Or.inr ⟨rfl, rfl, d, ?_, LK_next (TP_row h.1 rfl rfl rfl rfl (zu_row _ _ _ (by decide)) (zu_off _ _ _ (by decide)) (zu_off _ _ _ (by decide)) (zu_off _ _ _ (by decide))), rfl, rfl⟩
      rw [(next_all _).2.1 18 (by decide) (by decide) (by decide) (by decide) (by decide) (by decide), zu_at]
theorem nm19 {σ μ : zG} {mn : Int} (hK : KW σ μ) (hT : TK σ μ) (hm : 0 ≤ mn ∧ mn ≤ 12) (hw : ∀ j : Int, 0 ≤ j → j < mn → wr (σ 19 j) (μ 5 (28 + j))) :
    (V_X5_isName σ = 0 ∧ R_X12_isName μ = 0) ∨ (V_X5_isName σ ≠ 0 ∧ R_X12_isName μ ≠ 0 ∧ R_X11_placeOf_19 σ (σ 3 6) mn = R_X12_find μ 28 mn ∧ (R_X12_find μ 28 mn = -1 ∨ (0 ≤ R_X12_find μ 28 mn ∧ R_X12_find μ 28 mn < mn)) ∧ wr (σ 3 6) (μ 0 17)) := by
  rcases isn_eq hK hT with h | ⟨h1, h2, h3, h4, h5⟩
  · exact Or.inl h
  · refine Or.inr ⟨h1, h2, ?_, findR2 30 0 (by decide) (by omega), h5⟩
    unfold R_X11_placeOf_19 R_X12_find
    exact find_eq (by omega) hw h5 30 30 0 (by decide) (by omega) (by omega)
theorem name19_sim {σ μ : zG} {mn : Int} (hK : KW σ μ) (h : LK σ μ) (hm : 0 ≤ mn ∧ mn ≤ 12) (hw : ∀ j : Int, 0 ≤ j → j < mn → wr (σ 19 j) (μ 5 (28 + j))) :
    (V_X12_takesName μ 28 mn = 0 ∧ V_X5_stepName_19 σ mn = -1 ∧ F_X5_stepName_19 σ mn 3 7 = F_X12_takesName μ 28 mn 0 15 ∧ F_X5_stepName_19 σ mn 3 5 = F_X12_takesName μ 28 mn 0 16) ∨
    (V_X12_takesName μ 28 mn = 1 ∧ V_X5_stepName_19 σ mn = R_X12_find μ 28 mn ∧ (0 ≤ R_X12_find μ 28 mn ∧ R_X12_find μ 28 mn < mn) ∧ F_X12_takesName μ 28 mn 0 18 = R_X12_find μ 28 mn ∧ LK (F_X5_stepName_19 σ mn) (F_X12_takesName μ 28 mn) ∧ F_X5_stepName_19 σ mn = F_X5_step σ ∧ F_X12_takesName μ 28 mn = F_X12_next (zu μ 0 18 (R_X12_find μ 28 mn))) := by
  have hr : F_X5_step σ 19 = σ 19 := fr_F_X5_step σ (by decide)
  have hK2 : KW (F_X5_step σ) μ := by unfold KW at *; rw [fr_F_X5_step σ (by decide)]; exact hK
  have e15 : ∀ x : Int, zu (zu μ 0 15 x) 0 16 (μ 0 12) 0 15 = x := fun x => by rw [zu_off _ _ _ (by decide), zu_at]
  unfold V_X12_takesName F_X12_takesName V_X5_stepName_19 F_X5_stepName_19
  rcases nm19 hK2 h.2 hm (by rw [hr]; exact hw) with ⟨a, b⟩ | ⟨a, b, c, d, e⟩
  · rw [if_pos a, if_pos a, if_pos b, if_pos b, e15, zu_at, zu_at, zu_off _ _ _ (by decide)]
    exact Or.inl ⟨rfl, rfl, rfl, h.2.1⟩
  · rw [if_neg a, if_neg a, if_neg b, if_neg b, c]
    rcases d with d | d
    · rw [if_neg (show ¬ 0 ≤ R_X12_find μ 28 mn by omega), if_neg (show ¬ 0 ≤ R_X12_find μ 28 mn by omega), if_pos d, d]
      refine Or.inl ⟨rfl, rfl, ?_, ?_⟩
      · rw [zu_at, zu_off _ _ _ (by decide), zu_at]
      · rw [zu_off _ _ _ (by decide), zu_at]; exact h.2.1
    · rw [if_pos d.1, if_pos d.1, if_neg (show ¬ R_X12_find μ 28 mn = -1 by omega)]
      refine Or.inr ⟨rfl, rfl, d, ?_, LK_next (TP_row h.1 rfl rfl rfl rfl (zu_row _ _ _ (by decide)) (zu_off _ _ _ (by decide)) (zu_off _ _ _ (by decide)) (zu_off _ _ _ (by decide))), rfl, rfl⟩
      rw [(next_all _).2.1 18 (by decide) (by decide) (by decide) (by decide) (by decide) (by decide), zu_at]
theorem nm6 {σ μ : zG} {mn : Int} (hK : KW σ μ) (hT : TK σ μ) (hm : 0 ≤ mn ∧ mn ≤ 8) (hw : ∀ j : Int, 0 ≤ j → j < mn → wr (σ 6 j) (μ 5 (0 + j))) :
    (V_X5_isName σ = 0 ∧ R_X12_isName μ = 0) ∨ (V_X5_isName σ ≠ 0 ∧ R_X12_isName μ ≠ 0 ∧ R_X11_placeOf_6 σ (σ 3 6) mn = R_X12_find μ 0 mn ∧ (R_X12_find μ 0 mn = -1 ∨ (0 ≤ R_X12_find μ 0 mn ∧ R_X12_find μ 0 mn < mn)) ∧ wr (σ 3 6) (μ 0 17)) := by
  rcases isn_eq hK hT with h | ⟨h1, h2, h3, h4, h5⟩
  · exact Or.inl h
  · refine Or.inr ⟨h1, h2, ?_, findR2 30 0 (by decide) (by omega), h5⟩
    unfold R_X11_placeOf_6 R_X12_find
    exact find_eq (by omega) hw h5 30 30 0 (by decide) (by omega) (by omega)
theorem name6_sim {σ μ : zG} {mn : Int} (hK : KW σ μ) (h : LK σ μ) (hm : 0 ≤ mn ∧ mn ≤ 8) (hw : ∀ j : Int, 0 ≤ j → j < mn → wr (σ 6 j) (μ 5 (0 + j))) :
    (V_X12_takesName μ 0 mn = 0 ∧ V_X5_stepName_6 σ mn = -1 ∧ F_X5_stepName_6 σ mn 3 7 = F_X12_takesName μ 0 mn 0 15 ∧ F_X5_stepName_6 σ mn 3 5 = F_X12_takesName μ 0 mn 0 16) ∨
    (V_X12_takesName μ 0 mn = 1 ∧ V_X5_stepName_6 σ mn = R_X12_find μ 0 mn ∧ (0 ≤ R_X12_find μ 0 mn ∧ R_X12_find μ 0 mn < mn) ∧ F_X12_takesName μ 0 mn 0 18 = R_X12_find μ 0 mn ∧ LK (F_X5_stepName_6 σ mn) (F_X12_takesName μ 0 mn) ∧ F_X5_stepName_6 σ mn = F_X5_step σ ∧ F_X12_takesName μ 0 mn = F_X12_next (zu μ 0 18 (R_X12_find μ 0 mn))) := by
  have hr : F_X5_step σ 6 = σ 6 := fr_F_X5_step σ (by decide)
  have hK2 : KW (F_X5_step σ) μ := by unfold KW at *; rw [fr_F_X5_step σ (by decide)]; exact hK
  have e15 : ∀ x : Int, zu (zu μ 0 15 x) 0 16 (μ 0 12) 0 15 = x := fun x => by rw [zu_off _ _ _ (by decide), zu_at]
  unfold V_X12_takesName F_X12_takesName V_X5_stepName_6 F_X5_stepName_6
  rcases nm6 hK2 h.2 hm (by rw [hr]; exact hw) with ⟨a, b⟩ | ⟨a, b, c, d, e⟩
  · rw [if_pos a, if_pos a, if_pos b, if_pos b, e15, zu_at, zu_at, zu_off _ _ _ (by decide)]
    exact Or.inl ⟨rfl, rfl, rfl, h.2.1⟩
  · rw [if_neg a, if_neg a, if_neg b, if_neg b, c]
    rcases d with d | d
    · rw [if_neg (show ¬ 0 ≤ R_X12_find μ 0 mn by omega), if_neg (show ¬ 0 ≤ R_X12_find μ 0 mn by omega), if_pos d, d]
      refine Or.inl ⟨rfl, rfl, ?_, ?_⟩
      · rw [zu_at, zu_off _ _ _ (by decide), zu_at]
      · rw [zu_off _ _ _ (by decide), zu_at]; exact h.2.1
    · rw [if_pos d.1, if_pos d.1, if_neg (show ¬ R_X12_find μ 0 mn = -1 by omega)]
      refine Or.inr ⟨rfl, rfl, d, ?_, LK_next (TP_row h.1 rfl rfl rfl rfl (zu_row _ _ _ (by decide)) (zu_off _ _ _ (by decide)) (zu_off _ _ _ (by decide)) (zu_off _ _ _ (by decide))), rfl, rfl⟩
      rw [(next_all _).2.1 18 (by decide) (by decide) (by decide) (by decide) (by decide) (by decide), zu_at]
theorem nm8 {σ μ : zG} {mn : Int} (hK : KW σ μ) (hT : TK σ μ) (hm : 0 ≤ mn ∧ mn ≤ 12) (hw : ∀ j : Int, 0 ≤ j → j < mn → wr (σ 8 j) (μ 5 (8 + j))) :
    (V_X5_isName σ = 0 ∧ R_X12_isName μ = 0) ∨ (V_X5_isName σ ≠ 0 ∧ R_X12_isName μ ≠ 0 ∧ R_X11_placeOf_8 σ (σ 3 6) mn = R_X12_find μ 8 mn ∧ (R_X12_find μ 8 mn = -1 ∨ (0 ≤ R_X12_find μ 8 mn ∧ R_X12_find μ 8 mn < mn)) ∧ wr (σ 3 6) (μ 0 17)) := by
  rcases isn_eq hK hT with h | ⟨h1, h2, h3, h4, h5⟩
  · exact Or.inl h
  · refine Or.inr ⟨h1, h2, ?_, findR2 30 0 (by decide) (by omega), h5⟩
    unfold R_X11_placeOf_8 R_X12_find
    exact find_eq (by omega) hw h5 30 30 0 (by decide) (by omega) (by omega)
theorem name8_sim {σ μ : zG} {mn : Int} (hK : KW σ μ) (h : LK σ μ) (hm : 0 ≤ mn ∧ mn ≤ 12) (hw : ∀ j : Int, 0 ≤ j → j < mn → wr (σ 8 j) (μ 5 (8 + j))) :
    (V_X12_takesName μ 8 mn = 0 ∧ V_X5_stepName_8 σ mn = -1 ∧ F_X5_stepName_8 σ mn 3 7 = F_X12_takesName μ 8 mn 0 15 ∧ F_X5_stepName_8 σ mn 3 5 = F_X12_takesName μ 8 mn 0 16) ∨
    (V_X12_takesName μ 8 mn = 1 ∧ V_X5_stepName_8 σ mn = R_X12_find μ 8 mn ∧ (0 ≤ R_X12_find μ 8 mn ∧ R_X12_find μ 8 mn < mn) ∧ F_X12_takesName μ 8 mn 0 18 = R_X12_find μ 8 mn ∧ LK (F_X5_stepName_8 σ mn) (F_X12_takesName μ 8 mn) ∧ F_X5_stepName_8 σ mn = F_X5_step σ ∧ F_X12_takesName μ 8 mn = F_X12_next (zu μ 0 18 (R_X12_find μ 8 mn))) := by
  have hr : F_X5_step σ 8 = σ 8 := fr_F_X5_step σ (by decide)
  have hK2 : KW (F_X5_step σ) μ := by unfold KW at *; rw [fr_F_X5_step σ (by decide)]; exact hK
  have e15 : ∀ x : Int, zu (zu μ 0 15 x) 0 16 (μ 0 12) 0 15 = x := fun x => by rw [zu_off _ _ _ (by decide), zu_at]
  unfold V_X12_takesName F_X12_takesName V_X5_stepName_8 F_X5_stepName_8
  rcases nm8 hK2 h.2 hm (by rw [hr]; exact hw) with ⟨a, b⟩ | ⟨a, b, c, d, e⟩
  · rw [if_pos a, if_pos a, if_pos b, if_pos b, e15, zu_at, zu_at, zu_off _ _ _ (by decide)]
    exact Or.inl ⟨rfl, rfl, rfl, h.2.1⟩
  · rw [if_neg a, if_neg a, if_neg b, if_neg b, c]
    rcases d with d | d
    · rw [if_neg (show ¬ 0 ≤ R_X12_find μ 8 mn by omega), if_neg (show ¬ 0 ≤ R_X12_find μ 8 mn by omega), if_pos d, d]
      refine Or.inl ⟨rfl, rfl, ?_, ?_⟩
      · rw [zu_at, zu_off _ _ _ (by decide), zu_at]
      · rw [zu_off _ _ _ (by decide), zu_at]; exact h.2.1
    · rw [if_pos d.1, if_pos d.1, if_neg (show ¬ R_X12_find μ 8 mn = -1 by omega)]
      refine Or.inr ⟨rfl, rfl, d, ?_, LK_next (TP_row h.1 rfl rfl rfl rfl (zu_row _ _ _ (by decide)) (zu_off _ _ _ (by decide)) (zu_off _ _ _ (by decide)) (zu_off _ _ _ (by decide))), rfl, rfl⟩
      rw [(next_all _).2.1 18 (by decide) (by decide) (by decide) (by decide) (by decide) (by decide), zu_at]
/-- the names of the valley that is being read -/
def NM (σ μ : zG) : Prop := (σ 16 0 = μ 3 0 ∧ 0 ≤ μ 3 0 ∧ μ 3 0 ≤ 8) ∧ (σ 16 1 = μ 3 1 ∧ 0 ≤ μ 3 1 ∧ μ 3 1 ≤ 12) ∧ (∀ j : Int, 0 ≤ j → j < μ 3 0 → wr (σ 17 j) (μ 5 (20 + j))) ∧ ∀ j : Int, 0 ≤ j → j < μ 3 1 → wr (σ 19 j) (μ 5 (28 + j))
theorem NM_row {σ τ μ ν : zG} (h : NM σ μ) (c6 : ∀ j : Int, j = 0 ∨ j = 1 → τ 16 j = σ 16 j) (c7 : τ 17 = σ 17) (c9 : τ 19 = σ 19) (m3 : ∀ j : Int, j = 0 ∨ j = 1 → ν 3 j = μ 3 j) (m5 : ν 5 = μ 5) : NM τ ν := by
  unfold NM at *
  rw [c6 0 (by decide), c6 1 (by decide), c7, c9, m3 0 (by decide), m3 1 (by decide), m5]
  exact h
theorem fresh_sim {σ μ : zG} {to : Int} (hK : KW σ μ) (h : LK σ μ) (hN : NM σ μ) :
    (V_X12_fresh μ to = 0 ∧ V_X9_takeNewName σ = 0 ∧ F_X9_takeNewName σ 3 7 = F_X12_fresh μ to 0 15 ∧ F_X9_takeNewName σ 3 5 = F_X12_fresh μ to 0 16) ∨
    (V_X12_fresh μ to = 1 ∧ V_X9_takeNewName σ = 1 ∧ wr (F_X5_step σ 3 6) (μ 0 17) ∧ LK (F_X5_step σ) (F_X12_fresh μ to) ∧ F_X9_takeNewName σ = F_X5_step σ ∧ F_X12_fresh μ to = F_X12_next (zu μ 5 to (μ 0 17))) := by
  obtain ⟨h0, h1, hp, hf⟩ := hN
  have r17 : F_X5_step σ 17 = σ 17 := fr_F_X5_step σ (by decide)
  have r19 : F_X5_step σ 19 = σ 19 := fr_F_X5_step σ (by decide)
  have hK2 : KW (F_X5_step σ) μ := by unfold KW at *; rw [fr_F_X5_step σ (by decide)]; exact hK
  have e15 : ∀ x : Int, zu (zu μ 0 15 x) 0 16 (μ 0 12) 0 15 = x := fun x => by rw [zu_off _ _ _ (by decide), zu_at]
  unfold V_X12_fresh F_X12_fresh V_X9_takeNewName F_X9_takeNewName
  rw [h0.1, h1.1]
  rcases nm17 hK2 h.2 ⟨h0.2.1, h0.2.2⟩ (by rw [r17]; exact hp) with ⟨a, b⟩ | ⟨a, b, c, d, e⟩
  · rw [if_pos a, if_pos a, if_pos b, if_pos b, e15, zu_at, zu_at, zu_off _ _ _ (by decide)]
    exact Or.inl ⟨rfl, rfl, rfl, h.2.1⟩
  · rw [if_neg a, if_neg a, if_neg b, if_neg b, c]
    rcases nm19 hK2 h.2 ⟨h1.2.1, h1.2.2⟩ (by rw [r19]; exact hf) with ⟨a', b'⟩ | ⟨a', b', c', d', e'⟩
    · exact absurd a' a
    · rw [c']
      rcases d with d | d
      · rw [if_pos d, if_pos d, if_neg (show ¬ 0 ≤ R_X12_find μ 20 (μ 3 0) by omega), if_neg (show ¬ 0 ≤ R_X12_find μ 20 (μ 3 0) by omega)]
        rcases d' with d' | d'
        · rw [if_pos d', if_pos d', if_pos (show R_X12_find μ 28 (μ 3 1) < 0 by omega), if_pos (show R_X12_find μ 28 (μ 3 1) < 0 by omega)]
          exact Or.inr ⟨rfl, rfl, e, LK_next (TP_row h.1 rfl rfl rfl rfl (zu_row _ _ _ (by decide)) (by rw [zu_ne _ _ _ _ (by decide)]) (by rw [zu_ne _ _ _ _ (by decide)]) (by rw [zu_ne _ _ _ _ (by decide)])), rfl, rfl⟩
        · rw [if_neg (show ¬ R_X12_find μ 28 (μ 3 1) = -1 by omega), if_neg (show ¬ R_X12_find μ 28 (μ 3 1) = -1 by omega), if_neg (show ¬ R_X12_find μ 28 (μ 3 1) < 0 by omega), if_neg (show ¬ R_X12_find μ 28 (μ 3 1) < 0 by omega), e15, zu_at, zu_at, zu_off _ _ _ (by decide)]
          exact Or.inl ⟨rfl, rfl, rfl, h.2.1⟩
      · rw [if_neg (show ¬ R_X12_find μ 20 (μ 3 0) = -1 by omega), if_neg (show ¬ R_X12_find μ 20 (μ 3 0) = -1 by omega), if_pos d.1, if_pos d.1, e15, zu_at, zu_at, zu_off _ _ _ (by decide)]
        exact Or.inl ⟨rfl, rfl, rfl, h.2.1⟩
