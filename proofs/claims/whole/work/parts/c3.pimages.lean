/-! pure: images on both sides -/
theorem im_39 (x : Int) : ∀ (n : Nat) (q : Int) (μ : zG), 0 ≤ q → (666 - q).toNat < n → (∀ j : Int, q ≤ j → j < 666 → (S_X12_image_18 x n q μ).2 39 (666 * x + j) = μ 2 j) ∧ ∀ i : Int, i < 666 * x + q ∨ 666 * x + 666 ≤ i → (S_X12_image_18 x n q μ).2 39 i = μ 39 i
  | 0, q, μ, _, h => absurd h (Nat.not_lt_zero _)
  | n + 1, q, μ, h0, h => by
    rw [S_X12_image_18]
    by_cases c : 666 ≤ q
    · rw [if_pos c]; exact ⟨fun j a b => absurd b (by omega), fun _ _ => rfl⟩
    · rw [if_neg c]
      have e : zu μ 39 (666 * x + q) (μ 2 q) 2 = μ 2 := zu_row _ _ _ (by decide)
      have ih := im_39 x n (q + 1) (zu μ 39 (666 * x + q) (μ 2 q)) (by omega) (by omega)
      rw [e] at ih
      refine ⟨fun j a b => ?_, fun i a => ?_⟩
      · by_cases z : j = q
        · rw [ih.2 _ (by omega), z, zu_at]
        · exact ih.1 j (by omega) b
      · rw [ih.2 i (by omega), zu_off _ _ _ (by omega)]
theorem im_40 (x : Int) : ∀ (n : Nat) (q : Int) (μ : zG), 0 ≤ q → (20 - q).toNat < n → (∀ j : Int, q ≤ j → j < 20 → (S_X12_image_51 x n q μ).2 40 (20 * x + j) = μ 5 j) ∧ ∀ i : Int, i < 20 * x + q ∨ 20 * x + 20 ≤ i → (S_X12_image_51 x n q μ).2 40 i = μ 40 i
  | 0, q, μ, _, h => absurd h (Nat.not_lt_zero _)
  | n + 1, q, μ, h0, h => by
    rw [S_X12_image_51]
    by_cases c : 20 ≤ q
    · rw [if_pos c]; exact ⟨fun j a b => absurd b (by omega), fun _ _ => rfl⟩
    · rw [if_neg c]
      have e : zu μ 40 (20 * x + q) (μ 5 q) 5 = μ 5 := zu_row _ _ _ (by decide)
      have ih := im_40 x n (q + 1) (zu μ 40 (20 * x + q) (μ 5 q)) (by omega) (by omega)
      rw [e] at ih
      refine ⟨fun j a b => ?_, fun i a => ?_⟩
      · by_cases z : j = q
        · rw [ih.2 _ (by omega), z, zu_at]
        · exact ih.1 j (by omega) b
      · rw [ih.2 i (by omega), zu_off _ _ _ (by omega)]
theorem im_10 (x : Int) : ∀ (n : Nat) (q : Int) (μ : zG), 0 ≤ q → (60 - q).toNat < n → (∀ j : Int, q ≤ j → j < 60 → (S_X12_image_82 x n q μ).2 10 (60 * x + j) = μ 9 j) ∧ ∀ i : Int, i < 60 * x + q ∨ 60 * x + 60 ≤ i → (S_X12_image_82 x n q μ).2 10 i = μ 10 i
  | 0, q, μ, _, h => absurd h (Nat.not_lt_zero _)
  | n + 1, q, μ, h0, h => by
    rw [S_X12_image_82]
    by_cases c : 60 ≤ q
    · rw [if_pos c]; exact ⟨fun j a b => absurd b (by omega), fun _ _ => rfl⟩
    · rw [if_neg c]
      have e : zu μ 10 (60 * x + q) (μ 9 q) 9 = μ 9 := zu_row _ _ _ (by decide)
      have ih := im_10 x n (q + 1) (zu μ 10 (60 * x + q) (μ 9 q)) (by omega) (by omega)
      rw [e] at ih
      refine ⟨fun j a b => ?_, fun i a => ?_⟩
      · by_cases z : j = q
        · rw [ih.2 _ (by omega), z, zu_at]
        · exact ih.1 j (by omega) b
      · rw [ih.2 i (by omega), zu_off _ _ _ (by omega)]
theorem re_2 (x : Int) : ∀ (n : Nat) (q : Int) (μ : zG), 0 ≤ q → (666 - q).toNat < n → (∀ j : Int, q ≤ j → j < 666 → (S_X12_restore_27 x n q μ).2 2 j = μ 39 (666 * x + j)) ∧ ∀ i : Int, i < q ∨ 666 ≤ i → (S_X12_restore_27 x n q μ).2 2 i = μ 2 i
  | 0, q, μ, _, h => absurd h (Nat.not_lt_zero _)
  | n + 1, q, μ, h0, h => by
    rw [S_X12_restore_27]
    by_cases c : 666 ≤ q
    · rw [if_pos c]; exact ⟨fun j a b => absurd b (by omega), fun _ _ => rfl⟩
    · rw [if_neg c]
      have e : zu μ 2 q (μ 39 (666 * x + q)) 39 = μ 39 := zu_row _ _ _ (by decide)
      have ih := re_2 x n (q + 1) (zu μ 2 q (μ 39 (666 * x + q))) (by omega) (by omega)
      rw [e] at ih
      refine ⟨fun j a b => ?_, fun i a => ?_⟩
      · by_cases z : j = q
        · rw [ih.2 _ (by omega), z, zu_at]
        · exact ih.1 j (by omega) b
      · rw [ih.2 i (by omega), zu_off _ _ _ (by omega)]
theorem re_5 (x : Int) : ∀ (n : Nat) (q : Int) (μ : zG), 0 ≤ q → (20 - q).toNat < n → (∀ j : Int, q ≤ j → j < 20 → (S_X12_restore_60 x n q μ).2 5 j = μ 40 (20 * x + j)) ∧ ∀ i : Int, i < q ∨ 20 ≤ i → (S_X12_restore_60 x n q μ).2 5 i = μ 5 i
  | 0, q, μ, _, h => absurd h (Nat.not_lt_zero _)
  | n + 1, q, μ, h0, h => by
    rw [S_X12_restore_60]
    by_cases c : 20 ≤ q
    · rw [if_pos c]; exact ⟨fun j a b => absurd b (by omega), fun _ _ => rfl⟩
    · rw [if_neg c]
      have e : zu μ 5 q (μ 40 (20 * x + q)) 40 = μ 40 := zu_row _ _ _ (by decide)
      have ih := re_5 x n (q + 1) (zu μ 5 q (μ 40 (20 * x + q))) (by omega) (by omega)
      rw [e] at ih
      refine ⟨fun j a b => ?_, fun i a => ?_⟩
      · by_cases z : j = q
        · rw [ih.2 _ (by omega), z, zu_at]
        · exact ih.1 j (by omega) b
      · rw [ih.2 i (by omega), zu_off _ _ _ (by omega)]
theorem re_9 (x : Int) : ∀ (n : Nat) (q : Int) (μ : zG), 0 ≤ q → (60 - q).toNat < n → (∀ j : Int, q ≤ j → j < 60 → (S_X12_restore_91 x n q μ).2 9 j = μ 10 (60 * x + j)) ∧ ∀ i : Int, i < q ∨ 60 ≤ i → (S_X12_restore_91 x n q μ).2 9 i = μ 9 i
  | 0, q, μ, _, h => absurd h (Nat.not_lt_zero _)
  | n + 1, q, μ, h0, h => by
    rw [S_X12_restore_91]
    by_cases c : 60 ≤ q
    · rw [if_pos c]; exact ⟨fun j a b => absurd b (by omega), fun _ _ => rfl⟩
    · rw [if_neg c]
      have e : zu μ 9 q (μ 10 (60 * x + q)) 10 = μ 10 := zu_row _ _ _ (by decide)
      have ih := re_9 x n (q + 1) (zu μ 9 q (μ 10 (60 * x + q))) (by omega) (by omega)
      rw [e] at ih
      refine ⟨fun j a b => ?_, fun i a => ?_⟩
      · by_cases z : j = q
        · rw [ih.2 _ (by omega), z, zu_at]
        · exact ih.1 j (by omega) b
      · rw [ih.2 i (by omega), zu_off _ _ _ (by omega)]
theorem image_m (μ : zG) {x : Int} (hx : x = 0 ∨ x = 1) : (R_X12_image μ x).1 = 1 ∧ mEQ (vM x (R_X12_image μ x).2) μ ∧ (R_X12_image μ x).2 41 x = 1 ∧ (∀ y : Int, y = 0 ∨ y = 1 → y ≠ x → mEQ (vM y (R_X12_image μ x).2) (vM y μ) ∧ (R_X12_image μ x).2 41 y = μ 41 y) ∧ (∀ k : Nat, k ≠ 0 → k ≠ 10 → k ≠ 39 → k ≠ 40 → k ≠ 41 → (R_X12_image μ x).2 k = μ k) ∧ ∀ j : Int, j ≠ 0 → (R_X12_image μ x).2 0 j = μ 0 j := by
  have fr : ∀ k : Nat, k ≠ 0 → k ≠ 10 → k ≠ 39 → k ≠ 40 → k ≠ 41 → (R_X12_image μ x).2 k = μ k := fun k a b c d e => fr_R_X12_image _ _ (by simp; omega)
  have i39 := im_39 x 686 0 (zu μ 0 0 0) (by decide) (by decide)
  have a39 : ∀ k : Nat, k ≠ 39 → (S_X12_image_18 x 686 0 (zu μ 0 0 0)).2 k = zu μ 0 0 0 k := fun k hk => fr_S_X12_image_18 _ _ _ _ (by simpa using hk)
  have i40 := im_40 x 40 0 (S_X12_image_18 x 686 0 (zu μ 0 0 0)).2 (by decide) (by decide)
  have a40 : ∀ k : Nat, k ≠ 40 → (S_X12_image_51 x 40 0 (S_X12_image_18 x 686 0 (zu μ 0 0 0)).2).2 k = (S_X12_image_18 x 686 0 (zu μ 0 0 0)).2 k := fun k hk => fr_S_X12_image_51 _ _ _ _ (by simpa using hk)
  have i10 := im_10 x 80 0 (S_X12_image_51 x 40 0 (S_X12_image_18 x 686 0 (zu μ 0 0 0)).2).2 (by decide) (by decide)
  have a10 : ∀ k : Nat, k ≠ 10 → (S_X12_image_82 x 80 0 (S_X12_image_51 x 40 0 (S_X12_image_18 x 686 0 (zu μ 0 0 0)).2).2).2 k = (S_X12_image_51 x 40 0 (S_X12_image_18 x 686 0 (zu μ 0 0 0)).2).2 k := fun k hk => fr_S_X12_image_82 _ _ _ _ (by simpa using hk)
  have z : ∀ k : Nat, k ≠ 0 → zu μ 0 0 0 k = μ k := fun k hk => zu_row _ _ _ hk
  rw [a39 5 (by decide), a39 40 (by decide), z 5 (by decide), z 40 (by decide)] at i40
  rw [a40 9 (by decide), a39 9 (by decide), z 9 (by decide), a40 10 (by decide), a39 10 (by decide), z 10 (by decide)] at i10
  rw [z 2 (by decide), z 39 (by decide)] at i39
  have e : R_X12_image μ x = (1, zu ((S_X12_image_82 x 80 0 ((S_X12_image_51 x 40 0 ((S_X12_image_18 x 686 0 (zu μ 0 0 0)).2)).2)).2) 41 x 1) := by
    unfold R_X12_image
    rw [if_pos (by omega)]
  have e2 : (R_X12_image μ x).2 = zu ((S_X12_image_82 x 80 0 ((S_X12_image_51 x 40 0 ((S_X12_image_18 x 686 0 (zu μ 0 0 0)).2)).2)).2) 41 x 1 := by rw [e]
  have r39 : (R_X12_image μ x).2 39 = (S_X12_image_18 x 686 0 (zu μ 0 0 0)).2 39 := by rw [e2, zu_row _ _ _ (by decide), a10 39 (by decide), a40 39 (by decide)]
  have r40 : (R_X12_image μ x).2 40 = (S_X12_image_51 x 40 0 (S_X12_image_18 x 686 0 (zu μ 0 0 0)).2).2 40 := by rw [e2, zu_row _ _ _ (by decide), a10 40 (by decide)]
  have r10 : (R_X12_image μ x).2 10 = (S_X12_image_82 x 80 0 (S_X12_image_51 x 40 0 (S_X12_image_18 x 686 0 (zu μ 0 0 0)).2).2).2 10 := by rw [e2, zu_row _ _ _ (by decide)]
  refine ⟨by rw [e], ⟨fun j j0 j1 => ?_, fun j j0 j1 => ?_, fun j j0 j1 => ?_⟩, ?_, fun y hy hn => ⟨⟨fun j j0 j1 => ?_, fun j j0 j1 => ?_, fun j j0 j1 => ?_⟩, ?_⟩, fr, fun j hj => ?_⟩
  · show (R_X12_image μ x).2 39 (666 * x + j) = μ 2 j
    rw [r39]; exact i39.1 j j0 j1
  · show (R_X12_image μ x).2 40 (20 * x + j) = μ 5 j
    rw [r40]; exact i40.1 j j0 j1
  · show (R_X12_image μ x).2 10 (60 * x + j) = μ 9 j
    rw [r10]; exact i10.1 j j0 j1
  · rw [e2, zu_at]
  · show (R_X12_image μ x).2 39 (666 * y + j) = μ 39 (666 * y + j)
    rw [r39]; exact i39.2 _ (by omega)
  · show (R_X12_image μ x).2 40 (20 * y + j) = μ 40 (20 * y + j)
    rw [r40]; exact i40.2 _ (by omega)
  · show (R_X12_image μ x).2 10 (60 * y + j) = μ 10 (60 * y + j)
    rw [r10]; exact i10.2 _ (by omega)
  · rw [e2, zu_off _ _ _ hn, a10 41 (by decide), a40 41 (by decide), a39 41 (by decide), z 41 (by decide)]
  · rw [e2, zu_ne _ _ _ _ (by decide), a10 0 (by decide), a40 0 (by decide), a39 0 (by decide), zu_off _ _ _ hj]
theorem restore_m (μ : zG) {x : Int} (hx : x = 0 ∨ x = 1) (hk : ¬ μ 41 x = 0) : (R_X12_restore μ x).1 = 1 ∧ mEQ (R_X12_restore μ x).2 (vM x μ) ∧ (∀ k : Nat, k ≠ 0 → k ≠ 2 → k ≠ 5 → k ≠ 9 → (R_X12_restore μ x).2 k = μ k) ∧ ∀ j : Int, j ≠ 0 → (R_X12_restore μ x).2 0 j = μ 0 j := by
  have i2 := re_2 x 686 0 (zu μ 0 0 0) (by decide) (by decide)
  have a2 : ∀ k : Nat, k ≠ 2 → (S_X12_restore_27 x 686 0 (zu μ 0 0 0)).2 k = zu μ 0 0 0 k := fun k hk => fr_S_X12_restore_27 _ _ _ _ (by simpa using hk)
  have i5 := re_5 x 40 0 (S_X12_restore_27 x 686 0 (zu μ 0 0 0)).2 (by decide) (by decide)
  have a5 : ∀ k : Nat, k ≠ 5 → (S_X12_restore_60 x 40 0 (S_X12_restore_27 x 686 0 (zu μ 0 0 0)).2).2 k = (S_X12_restore_27 x 686 0 (zu μ 0 0 0)).2 k := fun k hk => fr_S_X12_restore_60 _ _ _ _ (by simpa using hk)
  have i9 := re_9 x 80 0 (S_X12_restore_60 x 40 0 (S_X12_restore_27 x 686 0 (zu μ 0 0 0)).2).2 (by decide) (by decide)
  have a9 : ∀ k : Nat, k ≠ 9 → (S_X12_restore_91 x 80 0 (S_X12_restore_60 x 40 0 (S_X12_restore_27 x 686 0 (zu μ 0 0 0)).2).2).2 k = (S_X12_restore_60 x 40 0 (S_X12_restore_27 x 686 0 (zu μ 0 0 0)).2).2 k := fun k hk => fr_S_X12_restore_91 _ _ _ _ (by simpa using hk)
  have z : ∀ k : Nat, k ≠ 0 → zu μ 0 0 0 k = μ k := fun k hk => zu_row _ _ _ hk
  have e : R_X12_restore μ x = (1, (S_X12_restore_91 x 80 0 ((S_X12_restore_60 x 40 0 ((S_X12_restore_27 x 686 0 (zu μ 0 0 0)).2)).2)).2) := by
    unfold R_X12_restore
    rw [if_pos (by omega), if_neg hk]
  have e2 : (R_X12_restore μ x).2 = (S_X12_restore_91 x 80 0 ((S_X12_restore_60 x 40 0 ((S_X12_restore_27 x 686 0 (zu μ 0 0 0)).2)).2)).2 := by rw [e]
  refine ⟨by rw [e], ⟨fun j j0 j1 => ?_, fun j j0 j1 => ?_, fun j j0 j1 => ?_⟩, fun k k0 k2 k5 k9 => ?_, fun j hj => ?_⟩
  · show (R_X12_restore μ x).2 2 j = μ 39 (666 * x + j)
    rw [e2, a9 2 (by decide), a5 2 (by decide), i2.1 j j0 j1, z 39 (by decide)]
  · show (R_X12_restore μ x).2 5 j = μ 40 (20 * x + j)
    rw [e2, a9 5 (by decide), i5.1 j j0 j1, a2 40 (by decide), z 40 (by decide)]
  · show (R_X12_restore μ x).2 9 j = μ 10 (60 * x + j)
    rw [e2, i9.1 j j0 j1, a5 10 (by decide), a2 10 (by decide), z 10 (by decide)]
  · rw [e2, a9 k k9, a5 k k5, a2 k k2, z k k0]
  · rw [e2, a9 0 (by decide), a5 0 (by decide), a2 0 (by decide), zu_off _ _ _ hj]
theorem c9k_100 (σ : zG) : (∀ j : Int, j = 0 ∨ j = 1 ∨ j = 2 → F_X9_copy_101_5 σ 101 j = σ 5 j) ∧ (∀ j : Int, 0 ≤ j → j < 8 → F_X9_copy_101_5 σ 102 j = σ 6 j ∧ F_X9_copy_101_5 σ 103 j = σ 7 j ∧ F_X9_copy_101_5 σ 108 j = σ 12 j ∧ F_X9_copy_101_5 σ 109 j = σ 13 j) ∧ (∀ j : Int, 0 ≤ j → j < 12 → F_X9_copy_101_5 σ 104 j = σ 8 j ∧ F_X9_copy_101_5 σ 105 j = σ 9 j ∧ F_X9_copy_101_5 σ 106 j = σ 10 j ∧ F_X9_copy_101_5 σ 107 j = σ 11 j) ∧ (∀ j : Int, 0 ≤ j → j < 96 → F_X9_copy_101_5 σ 110 j = σ 14 j) ∧ ∀ j : Int, 0 ≤ j → j < 5 → F_X9_copy_101_5 σ 111 j = σ 15 j := by
  unfold F_X9_copy_101_5
  refine ⟨fun j hj => ?_, fun j j0 j1 => ⟨?_, ?_, ?_, ?_⟩, fun j j0 j1 => ⟨?_, ?_, ?_, ?_⟩, fun j j0 j1 => ?_, fun j j0 j1 => ?_⟩
  · rcases hj with rfl | rfl | rfl <;> simp [zcp, zu]
  all_goals simp [zcp, zu, j0, j1]
theorem c0k_100 (σ : zG) : (∀ j : Int, j = 0 ∨ j = 1 → F_X0_copy_112_27 σ 112 j = σ 27 j) ∧ ∀ j : Int, 0 ≤ j → j < 60 → F_X0_copy_112_27 σ 113 j = σ 28 j ∧ F_X0_copy_112_27 σ 114 j = σ 29 j ∧ F_X0_copy_112_27 σ 115 j = σ 30 j ∧ F_X0_copy_112_27 σ 116 j = σ 31 j ∧ F_X0_copy_112_27 σ 117 j = σ 32 j ∧ F_X0_copy_112_27 σ 118 j = σ 33 j ∧ F_X0_copy_112_27 σ 119 j = σ 34 j := by
  unfold F_X0_copy_112_27
  refine ⟨fun j hj => ?_, fun j j0 j1 => ⟨?_, ?_, ?_, ?_, ?_, ?_, ?_⟩⟩
  · rcases hj with rfl | rfl <;> simp [zcp, zu]
  all_goals simp [zcp, zu, j0, j1]
theorem c6k_100 (σ : zG) : (∀ j : Int, j = 0 ∨ j = 1 → F_X6_copy_120_43 σ 120 j = σ 43 j) ∧ ∀ j : Int, 0 ≤ j → j < 40 → F_X6_copy_120_43 σ 121 j = σ 44 j ∧ F_X6_copy_120_43 σ 122 j = σ 45 j ∧ F_X6_copy_120_43 σ 123 j = σ 46 j := by
  unfold F_X6_copy_120_43
  refine ⟨fun j hj => ?_, fun j j0 j1 => ⟨?_, ?_, ?_⟩⟩
  · rcases hj with rfl | rfl <;> simp [zcp, zu]
  all_goals simp [zcp, zu, j0, j1]
theorem c9r_100 (σ : zG) : (∀ j : Int, j = 0 ∨ j = 1 ∨ j = 2 → F_X9_copy_5_101 σ 5 j = σ 101 j) ∧ (∀ j : Int, 0 ≤ j → j < 8 → F_X9_copy_5_101 σ 6 j = σ 102 j ∧ F_X9_copy_5_101 σ 7 j = σ 103 j ∧ F_X9_copy_5_101 σ 12 j = σ 108 j ∧ F_X9_copy_5_101 σ 13 j = σ 109 j) ∧ (∀ j : Int, 0 ≤ j → j < 12 → F_X9_copy_5_101 σ 8 j = σ 104 j ∧ F_X9_copy_5_101 σ 9 j = σ 105 j ∧ F_X9_copy_5_101 σ 10 j = σ 106 j ∧ F_X9_copy_5_101 σ 11 j = σ 107 j) ∧ (∀ j : Int, 0 ≤ j → j < 96 → F_X9_copy_5_101 σ 14 j = σ 110 j) ∧ ∀ j : Int, 0 ≤ j → j < 5 → F_X9_copy_5_101 σ 15 j = σ 111 j := by
  unfold F_X9_copy_5_101
  refine ⟨fun j hj => ?_, fun j j0 j1 => ⟨?_, ?_, ?_, ?_⟩, fun j j0 j1 => ⟨?_, ?_, ?_, ?_⟩, fun j j0 j1 => ?_, fun j j0 j1 => ?_⟩
  · rcases hj with rfl | rfl | rfl <;> simp [zcp, zu]
  all_goals simp [zcp, zu, j0, j1]
theorem c0r_100 (σ : zG) : (∀ j : Int, j = 0 ∨ j = 1 → F_X0_copy_27_112 σ 27 j = σ 112 j) ∧ ∀ j : Int, 0 ≤ j → j < 60 → F_X0_copy_27_112 σ 28 j = σ 113 j ∧ F_X0_copy_27_112 σ 29 j = σ 114 j ∧ F_X0_copy_27_112 σ 30 j = σ 115 j ∧ F_X0_copy_27_112 σ 31 j = σ 116 j ∧ F_X0_copy_27_112 σ 32 j = σ 117 j ∧ F_X0_copy_27_112 σ 33 j = σ 118 j ∧ F_X0_copy_27_112 σ 34 j = σ 119 j := by
  unfold F_X0_copy_27_112
  refine ⟨fun j hj => ?_, fun j j0 j1 => ⟨?_, ?_, ?_, ?_, ?_, ?_, ?_⟩⟩
  · rcases hj with rfl | rfl <;> simp [zcp, zu]
  all_goals simp [zcp, zu, j0, j1]
theorem c6r_100 (σ : zG) : (∀ j : Int, j = 0 ∨ j = 1 → F_X6_copy_43_120 σ 43 j = σ 120 j) ∧ ∀ j : Int, 0 ≤ j → j < 40 → F_X6_copy_43_120 σ 44 j = σ 121 j ∧ F_X6_copy_43_120 σ 45 j = σ 122 j ∧ F_X6_copy_43_120 σ 46 j = σ 123 j := by
  unfold F_X6_copy_43_120
  refine ⟨fun j hj => ?_, fun j j0 j1 => ⟨?_, ?_, ?_⟩⟩
  · rcases hj with rfl | rfl <;> simp [zcp, zu]
  all_goals simp [zcp, zu, j0, j1]
theorem keep_100 (σ : zG) : sEQ (vS 100 (F_X3_keep_100 σ)) σ ∧ F_X3_keep_100 σ 100 0 = 1 ∧ ∀ k : Nat, k < 100 ∨ 124 ≤ k → F_X3_keep_100 σ k = σ k := by
  have f9 : ∀ k : Nat, k < 101 ∨ 112 ≤ k → F_X9_copy_101_5 σ k = σ k := fun k hk => fr_F_X9_copy_101_5 _ (by simp; omega)
  have f0 : ∀ (τ : zG) (k : Nat), k < 112 ∨ 120 ≤ k → F_X0_copy_112_27 τ k = τ k := fun τ k hk => fr_F_X0_copy_112_27 _ (by simp; omega)
  have f6 : ∀ (τ : zG) (k : Nat), k < 120 ∨ 124 ≤ k → F_X6_copy_120_43 τ k = τ k := fun τ k hk => fr_F_X6_copy_120_43 _ (by simp; omega)
  have g9 : ∀ k : Nat, 101 ≤ k → k < 112 → F_X3_keep_100 σ k = F_X9_copy_101_5 σ k := fun k k0 k1 => by unfold F_X3_keep_100; rw [zu_row _ _ _ (by omega), f6 _ k (by omega), f0 _ k (by omega)]
  have g0 : ∀ k : Nat, 112 ≤ k → k < 120 → F_X3_keep_100 σ k = F_X0_copy_112_27 (F_X9_copy_101_5 σ) k := fun k k0 k1 => by unfold F_X3_keep_100; rw [zu_row _ _ _ (by omega), f6 _ k (by omega)]
  have g6 : ∀ k : Nat, 120 ≤ k → k < 124 → F_X3_keep_100 σ k = F_X6_copy_120_43 (F_X0_copy_112_27 (F_X9_copy_101_5 σ)) k := fun k k0 k1 => by unfold F_X3_keep_100; rw [zu_row _ _ _ (by omega)]
  have v : ∀ k : Nat, 5 ≤ k → k < 16 → vS 100 (F_X3_keep_100 σ) k = F_X9_copy_101_5 σ (100 + 1 + (k - 5)) := fun k k0 k1 => by
    have : vS 100 (F_X3_keep_100 σ) k = F_X3_keep_100 σ (100 + 1 + (k - 5)) := if_pos ⟨k0, k1⟩
    rw [this, g9 _ (by omega) (by omega)]
  have u : ∀ k : Nat, 27 ≤ k → k < 35 → vS 100 (F_X3_keep_100 σ) k = F_X0_copy_112_27 (F_X9_copy_101_5 σ) (100 + 12 + (k - 27)) := fun k k0 k1 => by
    have : vS 100 (F_X3_keep_100 σ) k = F_X3_keep_100 σ (100 + 12 + (k - 27)) := by unfold vS; rw [if_neg (by omega), if_pos ⟨k0, k1⟩]
    rw [this, g0 _ (by omega) (by omega)]
  have t : ∀ k : Nat, 43 ≤ k → k < 47 → vS 100 (F_X3_keep_100 σ) k = F_X6_copy_120_43 (F_X0_copy_112_27 (F_X9_copy_101_5 σ)) (100 + 20 + (k - 43)) := fun k k0 k1 => by
    have : vS 100 (F_X3_keep_100 σ) k = F_X3_keep_100 σ (100 + 20 + (k - 43)) := by unfold vS; rw [if_neg (by omega), if_neg (by omega), if_pos ⟨k0, k1⟩]
    rw [this, g6 _ (by omega) (by omega)]
  obtain ⟨p5, p6, p8, p14, p15⟩ := c9k_100 σ
  obtain ⟨q27, q28⟩ := c0k_100 (F_X9_copy_101_5 σ)
  obtain ⟨r43, r44⟩ := c6k_100 (F_X0_copy_112_27 (F_X9_copy_101_5 σ))
  have s0 : ∀ k : Nat, 27 ≤ k → k < 35 → F_X9_copy_101_5 σ k = σ k := fun k a b => f9 k (by omega)
  have s6 : ∀ k : Nat, 43 ≤ k → k < 47 → F_X0_copy_112_27 (F_X9_copy_101_5 σ) k = σ k := fun k a b => by rw [f0 _ k (by omega), f9 k (by omega)]
  rw [s0 27 (by decide) (by decide)] at q27
  rw [s0 28 (by decide) (by decide), s0 29 (by decide) (by decide), s0 30 (by decide) (by decide), s0 31 (by decide) (by decide), s0 32 (by decide) (by decide), s0 33 (by decide) (by decide), s0 34 (by decide) (by decide)] at q28
  rw [s6 43 (by decide) (by decide)] at r43
  rw [s6 44 (by decide) (by decide), s6 45 (by decide) (by decide), s6 46 (by decide) (by decide)] at r44
  refine ⟨⟨?_, ?_, ?_, ?_, ?_, ?_, ?_, ?_, ?_⟩, by unfold F_X3_keep_100; rw [zu_at], fun k hk => ?_⟩
  · rw [v 5 (by decide) (by decide)]; exact p5
  · rw [v 6 (by decide) (by decide), v 7 (by decide) (by decide), v 12 (by decide) (by decide), v 13 (by decide) (by decide)]; exact p6
  · rw [v 8 (by decide) (by decide), v 9 (by decide) (by decide), v 10 (by decide) (by decide), v 11 (by decide) (by decide)]; exact p8
  · rw [v 14 (by decide) (by decide)]; exact p14
  · rw [v 15 (by decide) (by decide)]; exact p15
  · rw [u 27 (by decide) (by decide)]; exact q27
  · rw [u 28 (by decide) (by decide), u 29 (by decide) (by decide), u 30 (by decide) (by decide), u 31 (by decide) (by decide), u 32 (by decide) (by decide), u 33 (by decide) (by decide), u 34 (by decide) (by decide)]; exact q28
  · rw [t 43 (by decide) (by decide)]; exact r43
  · rw [t 44 (by decide) (by decide), t 45 (by decide) (by decide), t 46 (by decide) (by decide)]; exact r44
  · unfold F_X3_keep_100; rw [zu_row _ _ _ (by omega), f6 _ k (by omega), f0 _ k (by omega), f9 k (by omega)]
theorem back_100 (σ : zG) : sEQ (F_X6_copy_43_120 (F_X0_copy_27_112 (F_X9_copy_5_101 σ))) (vS 100 σ) ∧ ∀ k : Nat, 47 ≤ k → F_X6_copy_43_120 (F_X0_copy_27_112 (F_X9_copy_5_101 σ)) k = σ k := by
  have f9 : ∀ k : Nat, k < 5 ∨ 16 ≤ k → F_X9_copy_5_101 σ k = σ k := fun k hk => fr_F_X9_copy_5_101 _ (by simp; omega)
  have f0 : ∀ (τ : zG) (k : Nat), k < 27 ∨ 35 ≤ k → F_X0_copy_27_112 τ k = τ k := fun τ k hk => fr_F_X0_copy_27_112 _ (by simp; omega)
  have f6 : ∀ (τ : zG) (k : Nat), k < 43 ∨ 47 ≤ k → F_X6_copy_43_120 τ k = τ k := fun τ k hk => fr_F_X6_copy_43_120 _ (by simp; omega)
  obtain ⟨p5, p6, p8, p14, p15⟩ := c9r_100 σ
  obtain ⟨q27, q28⟩ := c0r_100 (F_X9_copy_5_101 σ)
  obtain ⟨r43, r44⟩ := c6r_100 (F_X0_copy_27_112 (F_X9_copy_5_101 σ))
  have g9 : ∀ k : Nat, 5 ≤ k → k < 16 → F_X6_copy_43_120 (F_X0_copy_27_112 (F_X9_copy_5_101 σ)) k = F_X9_copy_5_101 σ k := fun k k0 k1 => by rw [f6 _ k (by omega), f0 _ k (by omega)]
  have g0 : ∀ k : Nat, 27 ≤ k → k < 35 → F_X6_copy_43_120 (F_X0_copy_27_112 (F_X9_copy_5_101 σ)) k = F_X0_copy_27_112 (F_X9_copy_5_101 σ) k := fun k k0 k1 => f6 _ k (by omega)
  have s0 : ∀ k : Nat, 47 ≤ k → F_X9_copy_5_101 σ k = σ k := fun k hk => f9 k (by omega)
  have s6 : ∀ k : Nat, 47 ≤ k → F_X0_copy_27_112 (F_X9_copy_5_101 σ) k = σ k := fun k hk => by rw [f0 _ k (by omega), f9 k (by omega)]
  rw [s0 112 (by decide)] at q27
  rw [s0 113 (by decide), s0 114 (by decide), s0 115 (by decide), s0 116 (by decide), s0 117 (by decide), s0 118 (by decide), s0 119 (by decide)] at q28
  rw [s6 120 (by decide)] at r43
  rw [s6 121 (by decide), s6 122 (by decide), s6 123 (by decide)] at r44
  refine ⟨⟨?_, ?_, ?_, ?_, ?_, ?_, ?_, r43, r44⟩, fun k hk => ?_⟩
  · rw [g9 5 (by decide) (by decide)]; exact p5
  · rw [g9 6 (by decide) (by decide), g9 7 (by decide) (by decide), g9 12 (by decide) (by decide), g9 13 (by decide) (by decide)]; exact p6
  · rw [g9 8 (by decide) (by decide), g9 9 (by decide) (by decide), g9 10 (by decide) (by decide), g9 11 (by decide) (by decide)]; exact p8
  · rw [g9 14 (by decide) (by decide)]; exact p14
  · rw [g9 15 (by decide) (by decide)]; exact p15
  · rw [g0 27 (by decide) (by decide)]; exact q27
  · rw [g0 28 (by decide) (by decide), g0 29 (by decide) (by decide), g0 30 (by decide) (by decide), g0 31 (by decide) (by decide), g0 32 (by decide) (by decide), g0 33 (by decide) (by decide), g0 34 (by decide) (by decide)]; exact q28
  · rw [f6 _ k (by omega), f0 _ k (by omega), f9 k (by omega)]
theorem c9k_125 (σ : zG) : (∀ j : Int, j = 0 ∨ j = 1 ∨ j = 2 → F_X9_copy_126_5 σ 126 j = σ 5 j) ∧ (∀ j : Int, 0 ≤ j → j < 8 → F_X9_copy_126_5 σ 127 j = σ 6 j ∧ F_X9_copy_126_5 σ 128 j = σ 7 j ∧ F_X9_copy_126_5 σ 133 j = σ 12 j ∧ F_X9_copy_126_5 σ 134 j = σ 13 j) ∧ (∀ j : Int, 0 ≤ j → j < 12 → F_X9_copy_126_5 σ 129 j = σ 8 j ∧ F_X9_copy_126_5 σ 130 j = σ 9 j ∧ F_X9_copy_126_5 σ 131 j = σ 10 j ∧ F_X9_copy_126_5 σ 132 j = σ 11 j) ∧ (∀ j : Int, 0 ≤ j → j < 96 → F_X9_copy_126_5 σ 135 j = σ 14 j) ∧ ∀ j : Int, 0 ≤ j → j < 5 → F_X9_copy_126_5 σ 136 j = σ 15 j := by
  unfold F_X9_copy_126_5
  refine ⟨fun j hj => ?_, fun j j0 j1 => ⟨?_, ?_, ?_, ?_⟩, fun j j0 j1 => ⟨?_, ?_, ?_, ?_⟩, fun j j0 j1 => ?_, fun j j0 j1 => ?_⟩
  · rcases hj with rfl | rfl | rfl <;> simp [zcp, zu]
  all_goals simp [zcp, zu, j0, j1]
theorem c0k_125 (σ : zG) : (∀ j : Int, j = 0 ∨ j = 1 → F_X0_copy_137_27 σ 137 j = σ 27 j) ∧ ∀ j : Int, 0 ≤ j → j < 60 → F_X0_copy_137_27 σ 138 j = σ 28 j ∧ F_X0_copy_137_27 σ 139 j = σ 29 j ∧ F_X0_copy_137_27 σ 140 j = σ 30 j ∧ F_X0_copy_137_27 σ 141 j = σ 31 j ∧ F_X0_copy_137_27 σ 142 j = σ 32 j ∧ F_X0_copy_137_27 σ 143 j = σ 33 j ∧ F_X0_copy_137_27 σ 144 j = σ 34 j := by
  unfold F_X0_copy_137_27
  refine ⟨fun j hj => ?_, fun j j0 j1 => ⟨?_, ?_, ?_, ?_, ?_, ?_, ?_⟩⟩
  · rcases hj with rfl | rfl <;> simp [zcp, zu]
  all_goals simp [zcp, zu, j0, j1]
theorem c6k_125 (σ : zG) : (∀ j : Int, j = 0 ∨ j = 1 → F_X6_copy_145_43 σ 145 j = σ 43 j) ∧ ∀ j : Int, 0 ≤ j → j < 40 → F_X6_copy_145_43 σ 146 j = σ 44 j ∧ F_X6_copy_145_43 σ 147 j = σ 45 j ∧ F_X6_copy_145_43 σ 148 j = σ 46 j := by
  unfold F_X6_copy_145_43
  refine ⟨fun j hj => ?_, fun j j0 j1 => ⟨?_, ?_, ?_⟩⟩
  · rcases hj with rfl | rfl <;> simp [zcp, zu]
  all_goals simp [zcp, zu, j0, j1]
theorem c9r_125 (σ : zG) : (∀ j : Int, j = 0 ∨ j = 1 ∨ j = 2 → F_X9_copy_5_126 σ 5 j = σ 126 j) ∧ (∀ j : Int, 0 ≤ j → j < 8 → F_X9_copy_5_126 σ 6 j = σ 127 j ∧ F_X9_copy_5_126 σ 7 j = σ 128 j ∧ F_X9_copy_5_126 σ 12 j = σ 133 j ∧ F_X9_copy_5_126 σ 13 j = σ 134 j) ∧ (∀ j : Int, 0 ≤ j → j < 12 → F_X9_copy_5_126 σ 8 j = σ 129 j ∧ F_X9_copy_5_126 σ 9 j = σ 130 j ∧ F_X9_copy_5_126 σ 10 j = σ 131 j ∧ F_X9_copy_5_126 σ 11 j = σ 132 j) ∧ (∀ j : Int, 0 ≤ j → j < 96 → F_X9_copy_5_126 σ 14 j = σ 135 j) ∧ ∀ j : Int, 0 ≤ j → j < 5 → F_X9_copy_5_126 σ 15 j = σ 136 j := by
  unfold F_X9_copy_5_126
  refine ⟨fun j hj => ?_, fun j j0 j1 => ⟨?_, ?_, ?_, ?_⟩, fun j j0 j1 => ⟨?_, ?_, ?_, ?_⟩, fun j j0 j1 => ?_, fun j j0 j1 => ?_⟩
  · rcases hj with rfl | rfl | rfl <;> simp [zcp, zu]
  all_goals simp [zcp, zu, j0, j1]
theorem c0r_125 (σ : zG) : (∀ j : Int, j = 0 ∨ j = 1 → F_X0_copy_27_137 σ 27 j = σ 137 j) ∧ ∀ j : Int, 0 ≤ j → j < 60 → F_X0_copy_27_137 σ 28 j = σ 138 j ∧ F_X0_copy_27_137 σ 29 j = σ 139 j ∧ F_X0_copy_27_137 σ 30 j = σ 140 j ∧ F_X0_copy_27_137 σ 31 j = σ 141 j ∧ F_X0_copy_27_137 σ 32 j = σ 142 j ∧ F_X0_copy_27_137 σ 33 j = σ 143 j ∧ F_X0_copy_27_137 σ 34 j = σ 144 j := by
  unfold F_X0_copy_27_137
  refine ⟨fun j hj => ?_, fun j j0 j1 => ⟨?_, ?_, ?_, ?_, ?_, ?_, ?_⟩⟩
  · rcases hj with rfl | rfl <;> simp [zcp, zu]
  all_goals simp [zcp, zu, j0, j1]
theorem c6r_125 (σ : zG) : (∀ j : Int, j = 0 ∨ j = 1 → F_X6_copy_43_145 σ 43 j = σ 145 j) ∧ ∀ j : Int, 0 ≤ j → j < 40 → F_X6_copy_43_145 σ 44 j = σ 146 j ∧ F_X6_copy_43_145 σ 45 j = σ 147 j ∧ F_X6_copy_43_145 σ 46 j = σ 148 j := by
  unfold F_X6_copy_43_145
  refine ⟨fun j hj => ?_, fun j j0 j1 => ⟨?_, ?_, ?_⟩⟩
  · rcases hj with rfl | rfl <;> simp [zcp, zu]
  all_goals simp [zcp, zu, j0, j1]
theorem keep_125 (σ : zG) : sEQ (vS 125 (F_X3_keep_125 σ)) σ ∧ F_X3_keep_125 σ 125 0 = 1 ∧ ∀ k : Nat, k < 125 ∨ 149 ≤ k → F_X3_keep_125 σ k = σ k := by
  have f9 : ∀ k : Nat, k < 126 ∨ 137 ≤ k → F_X9_copy_126_5 σ k = σ k := fun k hk => fr_F_X9_copy_126_5 _ (by simp; omega)
  have f0 : ∀ (τ : zG) (k : Nat), k < 137 ∨ 145 ≤ k → F_X0_copy_137_27 τ k = τ k := fun τ k hk => fr_F_X0_copy_137_27 _ (by simp; omega)
  have f6 : ∀ (τ : zG) (k : Nat), k < 145 ∨ 149 ≤ k → F_X6_copy_145_43 τ k = τ k := fun τ k hk => fr_F_X6_copy_145_43 _ (by simp; omega)
  have g9 : ∀ k : Nat, 126 ≤ k → k < 137 → F_X3_keep_125 σ k = F_X9_copy_126_5 σ k := fun k k0 k1 => by unfold F_X3_keep_125; rw [zu_row _ _ _ (by omega), f6 _ k (by omega), f0 _ k (by omega)]
  have g0 : ∀ k : Nat, 137 ≤ k → k < 145 → F_X3_keep_125 σ k = F_X0_copy_137_27 (F_X9_copy_126_5 σ) k := fun k k0 k1 => by unfold F_X3_keep_125; rw [zu_row _ _ _ (by omega), f6 _ k (by omega)]
  have g6 : ∀ k : Nat, 145 ≤ k → k < 149 → F_X3_keep_125 σ k = F_X6_copy_145_43 (F_X0_copy_137_27 (F_X9_copy_126_5 σ)) k := fun k k0 k1 => by unfold F_X3_keep_125; rw [zu_row _ _ _ (by omega)]
  have v : ∀ k : Nat, 5 ≤ k → k < 16 → vS 125 (F_X3_keep_125 σ) k = F_X9_copy_126_5 σ (125 + 1 + (k - 5)) := fun k k0 k1 => by
    have : vS 125 (F_X3_keep_125 σ) k = F_X3_keep_125 σ (125 + 1 + (k - 5)) := if_pos ⟨k0, k1⟩
    rw [this, g9 _ (by omega) (by omega)]
  have u : ∀ k : Nat, 27 ≤ k → k < 35 → vS 125 (F_X3_keep_125 σ) k = F_X0_copy_137_27 (F_X9_copy_126_5 σ) (125 + 12 + (k - 27)) := fun k k0 k1 => by
    have : vS 125 (F_X3_keep_125 σ) k = F_X3_keep_125 σ (125 + 12 + (k - 27)) := by unfold vS; rw [if_neg (by omega), if_pos ⟨k0, k1⟩]
    rw [this, g0 _ (by omega) (by omega)]
  have t : ∀ k : Nat, 43 ≤ k → k < 47 → vS 125 (F_X3_keep_125 σ) k = F_X6_copy_145_43 (F_X0_copy_137_27 (F_X9_copy_126_5 σ)) (125 + 20 + (k - 43)) := fun k k0 k1 => by
    have : vS 125 (F_X3_keep_125 σ) k = F_X3_keep_125 σ (125 + 20 + (k - 43)) := by unfold vS; rw [if_neg (by omega), if_neg (by omega), if_pos ⟨k0, k1⟩]
    rw [this, g6 _ (by omega) (by omega)]
  obtain ⟨p5, p6, p8, p14, p15⟩ := c9k_125 σ
  obtain ⟨q27, q28⟩ := c0k_125 (F_X9_copy_126_5 σ)
  obtain ⟨r43, r44⟩ := c6k_125 (F_X0_copy_137_27 (F_X9_copy_126_5 σ))
  have s0 : ∀ k : Nat, 27 ≤ k → k < 35 → F_X9_copy_126_5 σ k = σ k := fun k a b => f9 k (by omega)
  have s6 : ∀ k : Nat, 43 ≤ k → k < 47 → F_X0_copy_137_27 (F_X9_copy_126_5 σ) k = σ k := fun k a b => by rw [f0 _ k (by omega), f9 k (by omega)]
  rw [s0 27 (by decide) (by decide)] at q27
  rw [s0 28 (by decide) (by decide), s0 29 (by decide) (by decide), s0 30 (by decide) (by decide), s0 31 (by decide) (by decide), s0 32 (by decide) (by decide), s0 33 (by decide) (by decide), s0 34 (by decide) (by decide)] at q28
  rw [s6 43 (by decide) (by decide)] at r43
  rw [s6 44 (by decide) (by decide), s6 45 (by decide) (by decide), s6 46 (by decide) (by decide)] at r44
  refine ⟨⟨?_, ?_, ?_, ?_, ?_, ?_, ?_, ?_, ?_⟩, by unfold F_X3_keep_125; rw [zu_at], fun k hk => ?_⟩
  · rw [v 5 (by decide) (by decide)]; exact p5
  · rw [v 6 (by decide) (by decide), v 7 (by decide) (by decide), v 12 (by decide) (by decide), v 13 (by decide) (by decide)]; exact p6
  · rw [v 8 (by decide) (by decide), v 9 (by decide) (by decide), v 10 (by decide) (by decide), v 11 (by decide) (by decide)]; exact p8
  · rw [v 14 (by decide) (by decide)]; exact p14
  · rw [v 15 (by decide) (by decide)]; exact p15
  · rw [u 27 (by decide) (by decide)]; exact q27
  · rw [u 28 (by decide) (by decide), u 29 (by decide) (by decide), u 30 (by decide) (by decide), u 31 (by decide) (by decide), u 32 (by decide) (by decide), u 33 (by decide) (by decide), u 34 (by decide) (by decide)]; exact q28
  · rw [t 43 (by decide) (by decide)]; exact r43
  · rw [t 44 (by decide) (by decide), t 45 (by decide) (by decide), t 46 (by decide) (by decide)]; exact r44
  · unfold F_X3_keep_125; rw [zu_row _ _ _ (by omega), f6 _ k (by omega), f0 _ k (by omega), f9 k (by omega)]
theorem back_125 (σ : zG) : sEQ (F_X6_copy_43_145 (F_X0_copy_27_137 (F_X9_copy_5_126 σ))) (vS 125 σ) ∧ ∀ k : Nat, 47 ≤ k → F_X6_copy_43_145 (F_X0_copy_27_137 (F_X9_copy_5_126 σ)) k = σ k := by
  have f9 : ∀ k : Nat, k < 5 ∨ 16 ≤ k → F_X9_copy_5_126 σ k = σ k := fun k hk => fr_F_X9_copy_5_126 _ (by simp; omega)
  have f0 : ∀ (τ : zG) (k : Nat), k < 27 ∨ 35 ≤ k → F_X0_copy_27_137 τ k = τ k := fun τ k hk => fr_F_X0_copy_27_137 _ (by simp; omega)
  have f6 : ∀ (τ : zG) (k : Nat), k < 43 ∨ 47 ≤ k → F_X6_copy_43_145 τ k = τ k := fun τ k hk => fr_F_X6_copy_43_145 _ (by simp; omega)
  obtain ⟨p5, p6, p8, p14, p15⟩ := c9r_125 σ
  obtain ⟨q27, q28⟩ := c0r_125 (F_X9_copy_5_126 σ)
  obtain ⟨r43, r44⟩ := c6r_125 (F_X0_copy_27_137 (F_X9_copy_5_126 σ))
  have g9 : ∀ k : Nat, 5 ≤ k → k < 16 → F_X6_copy_43_145 (F_X0_copy_27_137 (F_X9_copy_5_126 σ)) k = F_X9_copy_5_126 σ k := fun k k0 k1 => by rw [f6 _ k (by omega), f0 _ k (by omega)]
  have g0 : ∀ k : Nat, 27 ≤ k → k < 35 → F_X6_copy_43_145 (F_X0_copy_27_137 (F_X9_copy_5_126 σ)) k = F_X0_copy_27_137 (F_X9_copy_5_126 σ) k := fun k k0 k1 => f6 _ k (by omega)
  have s0 : ∀ k : Nat, 47 ≤ k → F_X9_copy_5_126 σ k = σ k := fun k hk => f9 k (by omega)
  have s6 : ∀ k : Nat, 47 ≤ k → F_X0_copy_27_137 (F_X9_copy_5_126 σ) k = σ k := fun k hk => by rw [f0 _ k (by omega), f9 k (by omega)]
  rw [s0 137 (by decide)] at q27
  rw [s0 138 (by decide), s0 139 (by decide), s0 140 (by decide), s0 141 (by decide), s0 142 (by decide), s0 143 (by decide), s0 144 (by decide)] at q28
  rw [s6 145 (by decide)] at r43
  rw [s6 146 (by decide), s6 147 (by decide), s6 148 (by decide)] at r44
  refine ⟨⟨?_, ?_, ?_, ?_, ?_, ?_, ?_, r43, r44⟩, fun k hk => ?_⟩
  · rw [g9 5 (by decide) (by decide)]; exact p5
  · rw [g9 6 (by decide) (by decide), g9 7 (by decide) (by decide), g9 12 (by decide) (by decide), g9 13 (by decide) (by decide)]; exact p6
  · rw [g9 8 (by decide) (by decide), g9 9 (by decide) (by decide), g9 10 (by decide) (by decide), g9 11 (by decide) (by decide)]; exact p8
  · rw [g9 14 (by decide) (by decide)]; exact p14
  · rw [g9 15 (by decide) (by decide)]; exact p15
  · rw [g0 27 (by decide) (by decide)]; exact q27
  · rw [g0 28 (by decide) (by decide), g0 29 (by decide) (by decide), g0 30 (by decide) (by decide), g0 31 (by decide) (by decide), g0 32 (by decide) (by decide), g0 33 (by decide) (by decide), g0 34 (by decide) (by decide)]; exact q28
  · rw [f6 _ k (by omega), f0 _ k (by omega), f9 k (by omega)]
