/-! pure: a whole book read on both sides -/
theorem dk_0 (wh ex : Int) : 0 ≤ dk wh ex := by
  have := pcn_0 ex
  unfold dk
  repeat' split
  all_goals omega
theorem ds_0 (L : Int → Int) : ∀ n : Nat, 0 ≤ ds L n
  | 0 => Int.le_refl _
  | n + 1 => by
    have a := ds_0 L n
    have b := dk_0 (L (5 * (n : Int))) (L (5 * (n : Int) + 4))
    rw [ds]; omega
/-- how a book came out on both sides -/
def BO (P F : Int) (r s : Int × zG) : Prop := (r.1 = 0 ∧ r.2 3 7 = s.2 0 15 ∧ r.2 3 5 = s.2 0 16 ∧ s.1 = w32 (-1 - s.2 0 16)) ∨ (r.1 = 1 ∧ ∃ μ : zG, s.1 = μ 0 21 ∧ s.2 = R_X12_keepBook μ ∧ BR P F r.2 μ ∧ ds (μ 4) (μ 0 21).toNat ≤ 128 ∧ μ 2 0 = P ∧ μ 2 1 = F ∧ r.2 3 7 = μ 0 15)
theorem book_loop {P F s0 : Int} (hP8 : 0 ≤ P ∧ P ≤ 8) (hF : 0 ≤ F ∧ F ≤ 12) (hs0 : s0 ≤ 900) : ∀ (n n' : Nat) (q : Int) (σ μ : zG), KW σ μ → KC σ → LK σ μ → TC σ → (σ 5 0 = P ∧ μ 2 0 = P ∧ σ 5 1 = F ∧ μ 2 1 = F ∧ μ 0 21 = q ∧ σ 3 2 = s0 ∧ σ 3 7 = 0 ∧ μ 0 15 = 0) → (∀ i : Int, 0 ≤ i → i < P → wr (σ 6 i) (μ 5 (0 + i))) → (∀ i : Int, 0 ≤ i → i < F → wr (σ 8 i) (μ 5 (8 + i))) → BR P F σ μ → 7 * ds (μ 4) q.toNat ≤ σ 3 3 → σ 3 3 ≤ 900 → 0 ≤ q → (62 - q).toNat < n → (62 - q).toNat < n' → BO P F (L_X0_take_6 n q σ) (L_X12_book_31 n' μ)
  | 0, _, q, σ, μ, _, _, _, _, _, _, _, _, _, _, _, h, _ => absurd h (Nat.not_lt_zero _)
  | _ + 1, 0, q, σ, μ, _, _, _, _, _, _, _, _, _, _, _, _, h => absurd h (Nat.not_lt_zero _)
  | n + 1, n' + 1, q, σ, μ, hK, hC, hL, hT, hp, hw6, hw8, hB, hs, h9, q0, hm, hm' => by
    obtain ⟨p1, p2, p3, p4, p5, p6, f7, f15⟩ := id hp
    have n60 : 0 ≤ σ 35 0 ∧ σ 35 0 ≤ 60 := hB.1.1
    rw [hB.2.1, p5] at n60
    rw [L_X0_take_6, L_X12_book_31, if_neg (show ¬ 60 < q by omega)]
    have hk := hL.2.2
    have cr : ∀ k : Nat, k ≠ 3 → F_X5_step σ k = σ k := fun k h => st_r σ h
    by_cases e : μ 0 11 = 0
    · have e4 : F_X5_step σ 3 4 = 0 := by
        rcases hk with x | x | x | x | x
        · exact x.1
        · omega
        · omega
        · omega
        · omega
      rw [if_pos e, if_pos e4]
      refine Or.inr ⟨rfl, μ, rfl, rfl, BR_row hB (fun k _ _ => cr k (by omega)) rfl rfl rfl rfl, ?_, p2, p4, ?_⟩
      · rw [p5]; omega
      · show F_X5_step σ 3 7 = μ 0 15
        rw [(step_vals σ).2.2.2.2.1, f7, f15]
    · have e4 : ¬ F_X5_step σ 3 4 = 0 := by
        rcases hk with x | x | x | x | x <;> omega
      rw [if_neg e, if_neg e4]
      have hK1 : KW (F_X5_step σ) μ := KW_row hK (cr 4 (by decide)) rfl
      have hC1 : KC (F_X5_step σ) := KC_row hC (cr 4 (by decide))
      have hB1 : BR P F (F_X5_step σ) μ := BR_row hB (fun k _ _ => cr k (by omega)) rfl rfl rfl rfl
      have s3 : F_X5_step σ 3 2 = s0 := by rw [(step_vals σ).2.2.2.2.2]; exact p6
      have sm := step_mono σ
      have hlo := bline_sim (N := q) (s0 := s0) hP8 hF hK1 hC1 hL.1 hL.2 ⟨by rw [cr 5 (by decide)]; exact p1, p2, by rw [cr 5 (by decide)]; exact p3, p4, p5, s3, by rw [(step_vals σ).2.2.2.2.1]; exact f7, f15⟩ (by rw [cr 6 (by decide)]; exact hw6) (by rw [cr 8 (by decide)]; exact hw8) hB1 (by omega) (fun k2 => by
        obtain ⟨we, g, l, ⟨x1, x2⟩, x3, _, _⟩ := step_word hT k2
        exact ⟨we, by omega⟩)
      rcases hlo with ⟨a, b, c, d⟩ | ⟨a, b, c, d, f⟩ | ⟨a, b, c, d, f, ⟨g1, g2⟩, i1, i2, i3, F7, F15'⟩
      · rw [if_pos a, if_pos b]
        exact Or.inl ⟨rfl, c, d, rfl⟩
      · rw [if_pos a, if_neg (show ¬ V_X12_bookLine μ = 0 by omega), if_pos c]
        exact Or.inl ⟨rfl, d, f, rfl⟩
      · have es : F_X12_sign (F_X12_bookLine μ) 59 = F_X12_next (F_X12_bookLine μ) := by
          unfold V_X12_sign at c
          unfold F_X12_sign
          by_cases z : F_X12_bookLine μ 0 11 = 3 ∧ F_X12_bookLine μ 0 14 = 59
          · rw [if_pos z]
          · rw [if_neg z] at c; omega
        rw [if_neg (show ¬ V_X0_takeLine (F_X5_step σ) = 0 by omega), if_neg (show ¬ V_X12_bookLine μ = 0 by omega), if_neg (show ¬ V_X12_sign (F_X12_bookLine μ) 59 = 0 by omega), p5]
        have tr : ∀ k : Nat, k ≠ 3 → k < 35 → F_X0_takeLine (F_X5_step σ) k = σ k := fun k h3 h5 => by rw [fr_F_X0_takeLine (h := by simp; omega), cr k h3]
        have mr : ∀ k : Nat, k ≠ 0 → k ≠ 4 → k ≠ 7 → k ≠ 8 → F_X12_sign (F_X12_bookLine μ) 59 k = μ k := fun k h0 h4 h7 h8 => by rw [es, nx_r _ h0, fr_F_X12_bookLine (h := by simp; omega)]
        have m4 : F_X12_sign (F_X12_bookLine μ) 59 4 = F_X12_bookLine μ 4 := by rw [es, nx_r _ (by decide)]
        have m8 : F_X12_sign (F_X12_bookLine μ) 59 8 = F_X12_bookLine μ 8 := by rw [es, nx_r _ (by decide)]
        have m22 : F_X12_sign (F_X12_bookLine μ) 59 0 22 = F_X12_bookLine μ 0 22 := by rw [es, kp_next _ 22 (by unfold KI; decide)]
        have zr : ∀ k : Nat, k ≠ 0 → zu (F_X12_sign (F_X12_bookLine μ) 59) 0 21 (q + 1) k = F_X12_sign (F_X12_bookLine μ) 59 k := fun k h0 => zu_row _ _ _ h0
        have F15 : F_X12_sign (F_X12_bookLine μ) 59 0 15 = 0 := by
          rw [es, nx_15]; exact F15'
        have d0 := ds_0 (F_X12_bookLine μ 4) (F_X0_takeLine (F_X5_step σ) 35 0).toNat
        refine book_loop hP8 hF hs0 n n' (q + 1) _ _ ?_ ?_ ?_ ?_ ⟨?_, ?_, ?_, ?_, zu_at _ _ _ _, i3, F7, by rw [zu_off _ _ _ (by decide)]; exact F15⟩ ?_ ?_ ?_ ?_ (by omega) (by omega) (by omega) (by omega)
        · exact KW_row hK (tr 4 (by decide) (by decide)) (by rw [zr 6 (by decide), mr 6 (by decide) (by decide) (by decide) (by decide)])
        · exact KC_row hC (tr 4 (by decide) (by decide))
        · exact LK_row d rfl rfl rfl (zr 1 (by decide)) (fun j hj => zu_off _ _ _ (by omega))
        · refine ⟨by omega, ?_, ?_⟩
          · rw [i3, tr 1 (by decide) (by decide), ← p6]; exact hT.2.1
          · rw [tr 1 (by decide) (by decide)]; exact hT.2.2
        · rw [tr 5 (by decide) (by decide)]; exact p1
        · rw [zr 2 (by decide), mr 2 (by decide) (by decide) (by decide) (by decide)]; exact p2
        · rw [tr 5 (by decide) (by decide)]; exact p3
        · rw [zr 2 (by decide), mr 2 (by decide) (by decide) (by decide) (by decide)]; exact p4
        · rw [tr 6 (by decide) (by decide), zr 5 (by decide), mr 5 (by decide) (by decide) (by decide) (by decide)]; exact hw6
        · rw [tr 8 (by decide) (by decide), zr 5 (by decide), mr 5 (by decide) (by decide) (by decide) (by decide)]; exact hw8
        · unfold BR
          rw [zr 4 (by decide), m4, zr 8 (by decide), m8, zu_at, zu_off _ _ _ (by decide), m22]
          exact ⟨f, g1, g2⟩
        · rw [zr 4 (by decide), m4, ← g1]; exact i1
theorem keep14 : ∀ (n : Nat) (q : Int) (μ : zG), 0 ≤ q → (5 * μ 0 21 - q).toNat < n → (∀ j : Int, q ≤ j → j < 5 * μ 0 21 → (S_X12_keepBook_14 n q μ).2 2 (173 + j) = μ 4 j) ∧ ∀ j : Int, j < 173 + q ∨ 173 + 5 * μ 0 21 ≤ j → (S_X12_keepBook_14 n q μ).2 2 j = μ 2 j
  | 0, q, μ, _, h => absurd h (Nat.not_lt_zero _)
  | n + 1, q, μ, h0, h => by
    rw [S_X12_keepBook_14]
    by_cases c : 5 * μ 0 21 ≤ q
    · rw [if_pos c]; exact ⟨fun j a b => absurd b (by omega), fun _ _ => rfl⟩
    · rw [if_neg c]
      have e0 : zu μ 2 (173 + q) (μ 4 q) 0 = μ 0 := zu_row _ _ _ (by decide)
      have e4 : zu μ 2 (173 + q) (μ 4 q) 4 = μ 4 := zu_row _ _ _ (by decide)
      have ih := keep14 n (q + 1) (zu μ 2 (173 + q) (μ 4 q)) (by omega) (by rw [e0]; omega)
      rw [e0, e4] at ih
      refine ⟨fun j a b => ?_, fun j a => ?_⟩
      · by_cases e : j = q
        · rw [ih.2 (173 + j) (by omega), e, zu_at]
        · exact ih.1 j (by omega) b
      · rw [ih.2 j (by omega), zu_off _ _ _ (by omega)]
theorem keep48 : ∀ (n : Nat) (q : Int) (μ : zG), 0 ≤ q → (μ 0 21 - q).toNat < n → (∀ j : Int, q ≤ j → j < μ 0 21 → (S_X12_keepBook_48 n q μ).2 9 j = μ 8 j) ∧ ∀ j : Int, j < q ∨ μ 0 21 ≤ j → (S_X12_keepBook_48 n q μ).2 9 j = μ 9 j
  | 0, q, μ, _, h => absurd h (Nat.not_lt_zero _)
  | n + 1, q, μ, h0, h => by
    rw [S_X12_keepBook_48]
    by_cases c : μ 0 21 ≤ q
    · rw [if_pos c]; exact ⟨fun j a b => absurd b (by omega), fun _ _ => rfl⟩
    · rw [if_neg c]
      have e0 : zu μ 9 q (μ 8 q) 0 = μ 0 := zu_row _ _ _ (by decide)
      have e8 : zu μ 9 q (μ 8 q) 8 = μ 8 := zu_row _ _ _ (by decide)
      have ih := keep48 n (q + 1) (zu μ 9 q (μ 8 q)) (by omega) (by rw [e0]; omega)
      rw [e0, e8] at ih
      refine ⟨fun j a b => ?_, fun j a => ?_⟩
      · by_cases e : j = q
        · rw [ih.2 j (by omega), e, zu_at]
        · exact ih.1 j (by omega) b
      · rw [ih.2 j (by omega), zu_off _ _ _ (by omega)]
theorem keep_rows {μ : zG} (h : 0 ≤ μ 0 21 ∧ μ 0 21 ≤ 60) : R_X12_keepBook μ 2 172 = μ 0 21 ∧ (∀ j : Int, 0 ≤ j → j < 5 * μ 0 21 → R_X12_keepBook μ 2 (173 + j) = μ 4 j) ∧ (∀ j : Int, j < 172 ∨ 173 + 5 * μ 0 21 ≤ j → R_X12_keepBook μ 2 j = μ 2 j) ∧ (∀ i : Int, 0 ≤ i → i < μ 0 21 → R_X12_keepBook μ 9 i = μ 8 i) ∧ ∀ k : Nat, k ≠ 2 → k ≠ 9 → R_X12_keepBook μ k = μ k := by
  have e0 : zu μ 2 172 (μ 0 21) 0 = μ 0 := zu_row _ _ _ (by decide)
  have e4 : zu μ 2 172 (μ 0 21) 4 = μ 4 := zu_row _ _ _ (by decide)
  have k14 := keep14 310 0 (zu μ 2 172 (μ 0 21)) (by decide) (by rw [e0]; omega)
  rw [e0, e4] at k14
  have f0 : (S_X12_keepBook_14 310 0 (zu μ 2 172 (μ 0 21))).2 0 = μ 0 := by rw [fr_S_X12_keepBook_14 (h := by decide)]; exact e0
  have f8 : (S_X12_keepBook_14 310 0 (zu μ 2 172 (μ 0 21))).2 8 = μ 8 := by rw [fr_S_X12_keepBook_14 (h := by decide)]; exact zu_row _ _ _ (by decide)
  have k48 := keep48 70 0 (S_X12_keepBook_14 310 0 (zu μ 2 172 (μ 0 21))).2 (by decide) (by rw [f0]; omega)
  rw [f0, f8] at k48
  have r2 : R_X12_keepBook μ 2 = (S_X12_keepBook_14 310 0 (zu μ 2 172 (μ 0 21))).2 2 := by unfold R_X12_keepBook; exact fr_S_X12_keepBook_48 _ _ _ (by decide)
  refine ⟨?_, fun j a b => ?_, fun j a => ?_, fun i a b => ?_, fun k a b => ?_⟩
  · rw [r2, k14.2 172 (by omega), zu_at]
  · rw [r2]; exact k14.1 j a b
  · rw [r2, k14.2 j (by omega), zu_off _ _ _ (by omega)]
  · exact k48.1 i a b
  · exact fr_R_X12_keepBook μ (by simp; omega)
theorem bcopy_rows (σ : zG) : (∀ j : Int, j = 0 ∨ j = 1 → F_X0_copy_27_35 σ 27 j = σ 35 j) ∧ ∀ i : Int, 0 ≤ i → i < 60 → F_X0_copy_27_35 σ 28 i = σ 36 i ∧ F_X0_copy_27_35 σ 29 i = σ 37 i ∧ F_X0_copy_27_35 σ 30 i = σ 38 i ∧ F_X0_copy_27_35 σ 31 i = σ 39 i ∧ F_X0_copy_27_35 σ 32 i = σ 40 i ∧ F_X0_copy_27_35 σ 33 i = σ 41 i ∧ F_X0_copy_27_35 σ 34 i = σ 42 i := by
  unfold F_X0_copy_27_35
  refine ⟨fun j hj => ?_, fun i i0 i1 => ⟨?_, ?_, ?_, ?_, ?_, ?_, ?_⟩⟩
  · rcases hj with rfl | rfl <;> simp [zcp, zu]
  all_goals simp [zcp, zu, i0, i1]
/-- a book read and taken over on both sides -/
theorem book_ok {P F : Int} {r s : Int × zG} (h : BO P F r s) (h1 : r.1 = 1) : (∃ μ : zG, s.1 = F_X0_copy_27_35 r.2 27 0 ∧ s.2 = R_X12_keepBook μ ∧ (0 ≤ μ 0 21 ∧ μ 0 21 ≤ 60) ∧ r.2 3 7 = μ 0 15) ∧ BK (F_X0_copy_27_35 r.2) s.2 ∧ DD (F_X0_copy_27_35 r.2) := by
  rcases h with ⟨a, _⟩ | ⟨_, μ, e, es, hB, hd, hp, hf, hft⟩
  · omega
  · obtain ⟨c27, c28⟩ := bcopy_rows r.2
    have n21 := hB.2.1
    have h60 : 0 ≤ μ 0 21 ∧ μ 0 21 ≤ 60 := by rw [← n21]; exact hB.1.1
    obtain ⟨k1, k2, k3, k4, k5⟩ := keep_rows h60
    refine ⟨⟨μ, by rw [c27 0 (by decide), n21]; exact e, es, h60, hft⟩, ?_⟩
    have hb := hB.1
    rw [n21] at hb
    refine bb_fin hb hd ⟨by rw [c27 0 (by decide), n21], c27 1 (by decide)⟩ (fun i i0 i1 => c28 i i0 (by omega)) ?_ ?_ ?_
    · rw [es, k1, k3 0 (by omega), k3 1 (by omega)]; exact ⟨rfl, hp, hf⟩
    · rw [es]; exact k2
    · rw [es]; exact k4
/-- a book read on both sides -/
theorem book_read {σ μ : zG} (hK : KW σ μ) (hC : KC σ) (hV : VS σ μ) (hN : NW σ μ) (h1 : σ 1 1 = μ 0 2 ∧ 0 ≤ μ 0 2 ∧ μ 0 2 ≤ 940) (h2 : ∀ j : Int, 0 ≤ j → j < 940 → σ 2 j = mu μ j ∧ 0 ≤ σ 2 j ∧ σ 2 j ≤ 255) : BO (μ 2 0) (μ 2 1) (R_X0_take (F_X5_open σ 900)) (R_X12_book μ) := by
  have hTP := valley_TP h1 h2 (x := 900) (by decide)
  have o : ∀ k : Nat, k ≠ 3 → F_X5_open σ 900 k = σ k := fun k hk => by unfold F_X5_open; simp only [zu_row _ _ _ hk]
  have t : ∀ k : Nat, k ≠ 0 → F_X12_taken (zu μ 0 0 0) 900 k = μ k := fun k hk => by unfold F_X12_taken; simp only [zu_row _ _ _ hk]
  have t5 : F_X12_taken (zu μ 0 0 0) 900 0 5 = 900 := by unfold F_X12_taken; simp [zu]
  have o37 : F_X5_open σ 900 3 7 = 0 := by unfold F_X5_open; simp [zu]
  have o33 : F_X5_open σ 900 3 3 = 0 := by unfold F_X5_open; simp [zu]
  have hp := hV.1
  have hf := hV.2.1
  unfold R_X0_take R_X12_book
  generalize F_X12_taken (zu μ 0 0 0) 900 = μ1 at *
  generalize F_X5_open σ 900 = σ1 at *
  have c : ∀ k : Nat, k ≠ 35 → F_X0_clear_35 σ1 k = σ1 k := fun k hk => by unfold F_X0_clear_35; rw [zu_row _ _ _ hk, zu_row _ _ _ hk]
  have c0 : F_X0_clear_35 σ1 35 0 = 0 := by unfold F_X0_clear_35; rw [zu_off _ _ _ (by decide), zu_at]
  have c1 : F_X0_clear_35 σ1 35 1 = 0 := by unfold F_X0_clear_35; rw [zu_at]
  have b : ∀ j : Int, j ≠ 15 → j ≠ 21 → j ≠ 22 → zu (zu (zu μ1 0 15 0) 0 21 0) 0 22 0 0 j = μ1 0 j := fun j h15 h20 h19 => by rw [zu_off _ _ _ h19, zu_off _ _ _ h20, zu_off _ _ _ h15]
  have br : ∀ k : Nat, k ≠ 0 → zu (zu (zu μ1 0 15 0) 0 21 0) 0 22 0 k = μ1 k := fun k hk => by rw [zu_row _ _ _ hk, zu_row _ _ _ hk, zu_row _ _ _ hk]
  have b22 : zu (zu (zu μ1 0 15 0) 0 21 0) 0 22 0 0 22 = 0 := zu_at _ _ _ _
  have b21 : zu (zu (zu μ1 0 15 0) 0 21 0) 0 22 0 0 21 = 0 := by rw [zu_off _ _ _ (by decide), zu_at]
  have b15 : zu (zu (zu μ1 0 15 0) 0 21 0) 0 22 0 0 15 = 0 := by rw [zu_off _ _ _ (by decide), zu_off _ _ _ (by decide), zu_at]
  generalize zu (zu (zu μ1 0 15 0) 0 21 0) 0 22 0 = μ2 at *
  have hP2 : TP (F_X0_clear_35 σ1) μ2 := TP_row hTP (c 1 (by decide)) (c 2 (by decide)) (by rw [c 3 (by decide)]) (by rw [c 3 (by decide)]) (br 1 (by decide)) (b 3 (by decide) (by decide) (by decide)) (b 4 (by decide) (by decide) (by decide)) (b 5 (by decide) (by decide) (by decide))
  have stop : σ1 3 2 ≤ 900 := by
    have := hTP.2.2.1
    rw [t5] at this
    rw [this]; exact Int.min_le_right _ _
  have n21 : F_X12_next μ2 0 21 = 0 := by rw [kp_next _ 21 (by unfold KI; decide)]; exact b21
  have n22 : F_X12_next μ2 0 22 = 0 := by rw [kp_next _ 22 (by unfold KI; decide)]; exact b22
  refine book_loop ⟨hp.2.1, hp.2.2⟩ ⟨hf.2.1, hf.2.2⟩ stop 70 1000 0 _ _ ?_ ?_ (LK_next hP2) (TC_of hP2) ⟨?_, ?_, ?_, ?_, n21, by rw [c 3 (by decide)], ?_, ?_⟩ ?_ ?_ ⟨?_, ?_, ?_⟩ ?_ ?_ (by decide) (by decide) (by decide)
  · exact KW_row hK (by rw [c 4 (by decide), o 4 (by decide)]) (by rw [nx_r _ (by decide), br 6 (by decide), t 6 (by decide)])
  · exact KC_row hC (by rw [c 4 (by decide), o 4 (by decide)])
  · rw [c 5 (by decide), o 5 (by decide)]; exact hp.1
  · rw [nx_r _ (by decide), br 2 (by decide), t 2 (by decide)]
  · rw [c 5 (by decide), o 5 (by decide)]; exact hf.1
  · rw [nx_r _ (by decide), br 2 (by decide), t 2 (by decide)]
  · rw [c 3 (by decide)]; exact o37
  · rw [nx_15]; exact b15
  · intro i i0 i1
    rw [c 6 (by decide), o 6 (by decide), nx_r _ (by decide), br 5 (by decide), t 5 (by decide), Int.zero_add]
    exact hN.1 i i0 i1
  · intro i i0 i1
    rw [c 8 (by decide), o 8 (by decide), nx_r _ (by decide), br 5 (by decide), t 5 (by decide)]
    exact hN.2.1 i i0 i1
  · rw [c0, c1]
    exact ⟨⟨by decide, by decide⟩, fun i i0 i1 => by omega, fun i i0 i1 => by omega, rfl, fun i j i0 ij j1 => by omega, fun i i0 i1 => by omega⟩
  · rw [c0, n21]
  · rw [c1, n22]
  · rw [c 3 (by decide), o33]; show 7 * (0 : Int) ≤ 0; decide
  · rw [c 3 (by decide), o33]; decide
