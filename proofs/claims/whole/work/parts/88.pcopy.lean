/-! pure: the copy of a valley -/
theorem copy_rows (σ : zG) : (∀ j : Int, j = 0 ∨ j = 1 ∨ j = 2 → F_X9_copy_5_16 σ 5 j = σ 16 j) ∧ (∀ j : Int, 0 ≤ j → j < 8 → F_X9_copy_5_16 σ 6 j = σ 17 j ∧ F_X9_copy_5_16 σ 7 j = σ 18 j ∧ F_X9_copy_5_16 σ 12 j = σ 23 j ∧ F_X9_copy_5_16 σ 13 j = σ 24 j) ∧ (∀ j : Int, 0 ≤ j → j < 12 → F_X9_copy_5_16 σ 8 j = σ 19 j ∧ F_X9_copy_5_16 σ 9 j = σ 20 j ∧ F_X9_copy_5_16 σ 10 j = σ 21 j ∧ F_X9_copy_5_16 σ 11 j = σ 22 j) ∧ (∀ j : Int, 0 ≤ j → j < 96 → F_X9_copy_5_16 σ 14 j = σ 25 j) ∧ ∀ j : Int, 0 ≤ j → j < 5 → F_X9_copy_5_16 σ 15 j = σ 26 j := by
  unfold F_X9_copy_5_16
  refine ⟨fun j hj => ?_, fun j j0 j1 => ⟨?_, ?_, ?_, ?_⟩, fun j j0 j1 => ⟨?_, ?_, ?_, ?_⟩, fun j j0 j1 => ?_, fun j j0 j1 => ?_⟩
  · rcases hj with rfl | rfl | rfl <;> simp [zcp, zu]
  all_goals simp [zcp, zu, j0, j1]
/-- a valley read and taken over on both sides -/
theorem valley_ok {r s : Int × zG} (h : VO r s) (h0 : 0 ≤ r.1) : s.1 = r.1 ∧ VS (F_X9_copy_5_16 r.2) s.2 ∧ NW (F_X9_copy_5_16 r.2) s.2 ∧ ∀ j : Int, 172 ≤ j → j < 666 → s.2 2 j = 0 := by
  rcases h with ⟨a, _⟩ | ⟨_, μ, e, hN, es, _⟩
  · omega
  · obtain ⟨c5, c6, c8, c14, c15⟩ := copy_rows r.2
    have b2 : ∀ j : Int, 0 ≤ j → j < 666 → s.2 2 j = if 172 ≤ j then 0 else μ 3 j := fun j j0 j1 => by
      rw [es, fr_S_X12_valley_118 (h := by decide)]
      exact (s80 700 0 μ (by decide) (by decide) j).1 j0 j1
    have b5 : ∀ j : Int, 0 ≤ j → j < 20 → s.2 5 j = μ 5 (20 + j) := fun j j0 j1 => by
      rw [es, (s118 30 0 _ (by decide) (by decide) j).1 j0 j1, fr_S_X12_valley_80 (h := by decide)]
    obtain ⟨v1, v2⟩ := valley_stands hN c5 c6 c8 c14 c15 (fun j j0 j1 => by rw [b2 j j0 (by omega), if_neg (by omega)]) b5
    exact ⟨e, v1, v2, fun j j0 j1 => by rw [b2 j (by omega) j1, if_pos j0]⟩
