/-! pure: where a valley or a book is refused, what stands is left alone -/
def KP (ν μ : zG) : Prop := ν 2 = μ 2 ∧ ν 9 = μ 9
theorem KP_tr {a b c : zG} (h : KP b c) (h2 : KP a b) : KP a c := ⟨h2.1.trans h.1, h2.2.trans h.2⟩
def KV (ν μ : zG) : Prop := ν 2 = μ 2 ∧ ∀ j : Int, j < 20 → ν 5 j = μ 5 j
theorem KV_tr {a b c : zG} (h : KV b c) (h2 : KV a b) : KV a c := ⟨h2.1.trans h.1, fun j hj => (h2.2 j hj).trans (h.2 j hj)⟩
theorem fresh_5 (μ : zG) {to : Int} (h : 20 ≤ to) (j : Int) (hj : j < 20) : F_X12_fresh μ to 5 j = μ 5 j := by
  unfold F_X12_fresh
  repeat' split
  all_goals first | rw [zu_ne _ _ _ _ (by decide), zu_ne _ _ _ _ (by decide)] | rw [fr_F_X12_next _ (by decide), zu_off _ _ _ (by omega)]
theorem fact_5 {μ : zG} (hH : PH μ) (j : Int) (hj : j < 20) : F_X12_readFact μ 5 j = μ 5 j := by
  have h1 := hH.2.1
  have n3 : F_X12_next μ 3 = μ 3 := fr_F_X12_next _ (by decide)
  have n5 : F_X12_next μ 5 = μ 5 := fr_F_X12_next _ (by decide)
  have fr := fresh_5 (F_X12_next μ) (to := 28 + μ 3 1) (by omega) j hj
  unfold F_X12_readFact
  repeat' split
  all_goals simp only [zu_ne _ _ _ _ (show (5 : Nat) ≠ 0 by decide), zu_ne _ _ _ _ (show (5 : Nat) ≠ 3 by decide), fr_F_X12_takes (k := 5) (h := by decide), fr_F_X12_takesName (k := 5) (h := by decide), fr_F_X12_next (k := 5) (h := by decide), fr, n5]
theorem vline_KV {μ : zG} (hH : PH μ) : KV (F_X12_valleyLine μ) μ := by
  refine ⟨fr_F_X12_valleyLine _ (by decide), fun j hj => ?_⟩
  have h0 := hH.1
  have n5 : F_X12_next μ 5 = μ 5 := fr_F_X12_next _ (by decide)
  have fr := fresh_5 (F_X12_next μ) (to := 20 + μ 3 0) (by omega) j hj
  unfold F_X12_valleyLine
  repeat' split
  all_goals first | exact fact_5 hH j hj | (simp only [zu_ne _ _ _ _ (show (5 : Nat) ≠ 0 by decide), zu_ne _ _ _ _ (show (5 : Nat) ≠ 3 by decide), fr_F_X12_readKnows (k := 5) (h := by decide), fr_F_X12_readSince (k := 5) (h := by decide), fr_F_X12_readAsks (k := 5) (h := by decide), fr_F_X12_once (k := 5) (h := by decide), fr, n5]; done)
theorem valley_n : ∀ (n n' : Nat) (q : Int) (σ μ : zG), KW σ μ → KC σ → LK σ μ → NV σ μ → QP q μ → (901 - q).toNat < n → (901 - q).toNat < n' → ¬ 0 ≤ (L_X9_take_6 n q σ).1 → KV (L_X12_valley_35 n' μ).2 μ
  | 0, _, q, σ, μ, _, _, _, _, _, h, _, _ => absurd h (Nat.not_lt_zero _)
  | _ + 1, 0, q, σ, μ, _, _, _, _, _, _, h, _ => absurd h (Nat.not_lt_zero _)
  | n + 1, n' + 1, q, σ, μ, hK, hC, hL, hN, hQ, hm, hm', hpos => by
    obtain ⟨⟨u0, u1⟩, u5, u19, ut⟩ := id hQ
    rw [L_X9_take_6, if_neg (show ¬ 900 < q by omega)] at hpos
    rw [L_X12_valley_35]
    have hk := hL.2.2
    by_cases e : μ 0 11 = 0
    · have e4 : F_X5_step σ 3 4 = 0 := by
        rcases hk with x | x | x | x | x
        · exact x.1
        · omega
        · omega
        · omega
        · omega
      rw [if_pos e4] at hpos
      exact absurd u0 hpos
    · have e4 : ¬ F_X5_step σ 3 4 = 0 := by
        rcases hk with x | x | x | x | x <;> omega
      rw [if_neg e4] at hpos
      rw [if_neg e]
      have hK1 : KW (F_X5_step σ) μ := KW_row hK (st_r σ (by decide)) rfl
      have hC1 : KC (F_X5_step σ) := by unfold KC at *; rw [st_r σ (by decide)]; exact hC
      have hlo := line_sim hK1 hC1 hL.1 hL.2 (NV_st hN)
      rcases hlo with ⟨a, b, c, d⟩ | ⟨a, b, c, d, f⟩ | ⟨a, b, c, d, f⟩
      · rw [if_pos b]
        exact vline_KV (NV_PH hN)
      · rw [if_neg (show ¬ V_X12_valleyLine μ = 0 by omega), if_pos c]
        exact KV_tr (vline_KV (NV_PH hN)) ⟨fr_F_X12_sign _ _ (by decide), fun j _ => congrFun (fr_F_X12_sign (F_X12_valleyLine μ) 59 (k := 5) (by decide)) j⟩
      · have a' : ¬ V_X9_takeLine (F_X5_step σ) = 0 := by omega
        have b' : ¬ V_X12_valleyLine μ = 0 := by omega
        have c' : ¬ V_X12_sign (F_X12_valleyLine μ) 59 = 0 := by omega
        rw [if_neg a'] at hpos
        rw [if_neg b', if_neg c']
        have hAD := AD_F_X12_valleyLine (LK_PI hL) (NV_PH hN) (p0 := μ 0 4) b' (Int.le_refl _)
        have k11 : F_X12_valleyLine μ 0 11 = 3 := by
          unfold V_X12_sign at c'
          by_cases z : F_X12_valleyLine μ 0 11 = 3 ∧ F_X12_valleyLine μ 0 14 = 59
          · exact z.1
          · rw [if_neg z] at c'; exact absurd rfl c'
        have es : F_X12_sign (F_X12_valleyLine μ) 59 = F_X12_next (F_X12_valleyLine μ) := by
          unfold F_X12_sign
          unfold V_X12_sign at c'
          by_cases z : F_X12_valleyLine μ 0 11 = 3 ∧ F_X12_valleyLine μ 0 14 = 59
          · rw [if_pos z]
          · rw [if_neg z] at c'; exact absurd rfl c'
        have adv : μ 0 4 < F_X12_valleyLine μ 0 4 := by
          rcases hAD with x | x | x
          · omega
          · omega
          · exact x
        have w1 : ¬ μ 0 11 = 4 := by
          intro x
          apply b'
          unfold V_X12_valleyLine
          have nn : ∀ c : Int, ¬ (μ 0 11 = 1 ∧ μ 0 17 = c) := fun c y => by omega
          simp only [if_neg (nn _)]
        have ut' : q ≤ μ 0 12 ∧ μ 0 12 < 900 ∧ μ 0 12 < μ 0 4 := by
          rcases ut with x | x | x
          · exact absurd x e
          · exact absurd x w1
          · exact x
        have z5 : F_X12_sign (F_X12_valleyLine μ) 59 0 5 = 900 := by rw [kz_sign _ _ (by unfold kj; decide), kz_line _ (by unfold kj; decide), u5]
        have z19 : F_X12_sign (F_X12_valleyLine μ) 59 0 19 = q := by rw [kz_sign _ _ (by unfold kj; decide), kz_line _ (by unfold kj; decide), u19]
        have l5 : F_X12_valleyLine μ 0 5 = 900 := by rw [kz_line _ (by unfold kj; decide), u5]
        rw [z19, w32_id (z := q + 1) ⟨by omega, by omega⟩]
        have tk := nx_tok (F_X12_valleyLine μ)
        rw [← es, l5] at tk
        have r6 : F_X12_sign (F_X12_valleyLine μ) 59 6 = μ 6 := by rw [es, nx_r _ (by decide), fr_F_X12_valleyLine _ (by decide)]
        have r4 : F_X9_takeLine (F_X5_step σ) 4 = σ 4 := by rw [fr_F_X9_takeLine _ (by decide), st_r σ (by decide)]
        refine KV_tr ?_ (valley_n n n' (q + 1) _ _ ?_ ?_ ?_ ?_ ?_ (by omega) (by omega) hpos)
        · exact KV_tr (vline_KV (NV_PH hN)) ⟨by rw [zu_row _ _ _ (by decide), fr_F_X12_sign _ _ (by decide)], fun j _ => by rw [zu_ne _ _ _ _ (by decide), fr_F_X12_sign _ _ (by decide)]⟩
        · exact KW_row hK r4 ((zu_row _ _ _ (by decide)).trans r6)
        · unfold KC at *; rw [r4]; exact hC
        · exact LK_row d rfl rfl rfl (zu_row _ _ _ (by decide)) (fun j hj => zu_off _ _ _ (by omega))
        · exact NV_row f (fun _ _ _ => rfl) (zu_row _ _ _ (by decide)) (zu_row _ _ _ (by decide)) (zu_off _ _ _ (by decide))
        · refine ⟨⟨by omega, by omega⟩, ?_, zu_at _ _ _ _, ?_⟩
          · rw [zu_off _ _ _ (by decide)]; exact z5
          · rw [zu_off _ _ _ (by decide), zu_off _ _ _ (by decide), zu_off _ _ _ (by decide)]
            rcases tk with x | x | x
            · exact Or.inl x
            · exact Or.inr (Or.inl x)
            · exact Or.inr (Or.inr ⟨by omega, x.2.2, x.2.1⟩)
theorem valley_none {σ μ : zG} (hK : KW σ μ) (hC : KC σ) (h1 : σ 1 1 = μ 0 2 ∧ 0 ≤ μ 0 2 ∧ μ 0 2 ≤ 940) (h2 : ∀ j : Int, 0 ≤ j → j < 940 → σ 2 j = mu μ j ∧ 0 ≤ σ 2 j ∧ σ 2 j ≤ 255) (h0 : ¬ 0 ≤ (R_X9_take (F_X5_open σ 900)).1) : KV (R_X12_valley μ).2 μ := by
  have t25 : ∀ k : Nat, k ≠ 0 → F_X12_taken (zu μ 0 0 0) 900 k = μ k := fun k hk => by unfold F_X12_taken; simp only [zu_row _ _ _ hk]
  have hTP := valley_TP h1 h2 (x := 900) (by decide)
  have o4 : F_X5_open σ 900 4 = σ 4 := by unfold F_X5_open; simp only [zu_row _ _ _ (show (4 : Nat) ≠ 3 by decide)]
  have t6 : F_X12_taken (zu μ 0 0 0) 900 6 = μ 6 := by unfold F_X12_taken; simp only [zu_row _ _ _ (show (6 : Nat) ≠ 0 by decide)]
  have t5 : F_X12_taken (zu μ 0 0 0) 900 0 5 = 900 := by unfold F_X12_taken; simp [zu]
  have t4 : F_X12_taken (zu μ 0 0 0) 900 0 4 = 0 := by unfold F_X12_taken; simp [zu]
  unfold R_X9_take at h0
  unfold R_X12_valley
  generalize F_X12_taken (zu μ 0 0 0) 900 = μ1 at *
  generalize F_X5_open σ 900 = σ1 at *
  obtain ⟨_, _, _, _, cr⟩ := vclear_rows σ1
  have b : ∀ j : Int, j ≠ 15 → j ≠ 20 → j ≠ 19 → zu (zu (zu μ1 0 15 0) 0 20 0) 0 19 0 0 j = μ1 0 j := fun j h15 h20 h19 => by rw [zu_off _ _ _ h19, zu_off _ _ _ h20, zu_off _ _ _ h15]
  have br : ∀ k : Nat, k ≠ 0 → zu (zu (zu μ1 0 15 0) 0 20 0) 0 19 0 k = μ1 k := fun k hk => by rw [zu_row _ _ _ hk, zu_row _ _ _ hk, zu_row _ _ _ hk]
  have b20 : zu (zu (zu μ1 0 15 0) 0 20 0) 0 19 0 0 20 = 0 := by rw [zu_off _ _ _ (by decide), zu_at]
  have b19 : zu (zu (zu μ1 0 15 0) 0 20 0) 0 19 0 0 19 = 0 := zu_at _ _ _ _
  have z15 : zu (zu (zu μ1 0 15 0) 0 20 0) 0 19 0 0 15 = 0 := by rw [zu_off _ _ _ (by decide), zu_off _ _ _ (by decide), zu_at]
  generalize zu (zu (zu μ1 0 15 0) 0 20 0) 0 19 0 = μ2 at *
  have hP2 : TP (F_X9_clear σ1) (R_X12_plainValley μ2) := by
    refine TP_row hTP (cr 1 (by decide) (by decide) (by decide) (by decide)) (cr 2 (by decide) (by decide) (by decide) (by decide)) (by rw [cr 3 (by decide) (by decide) (by decide) (by decide)]) (by rw [cr 3 (by decide) (by decide) (by decide) (by decide)]) ?_ ?_ ?_ ?_
    · rw [plain_r _ (by decide), br 1 (by decide)]
    · rw [plain_r _ (by decide), b 3 (by decide) (by decide) (by decide)]
    · rw [plain_r _ (by decide), b 4 (by decide) (by decide) (by decide)]
    · rw [plain_r _ (by decide), b 5 (by decide) (by decide) (by decide)]
  have tk := nx_tok (R_X12_plainValley μ2)
  have z4 : R_X12_plainValley μ2 0 4 = 0 := by rw [plain_r _ (by decide), b 4 (by decide) (by decide) (by decide), t4]
  have z5 : R_X12_plainValley μ2 0 5 = 900 := by rw [plain_r _ (by decide), b 5 (by decide) (by decide) (by decide), t5]
  rw [z4, z5] at tk
  have b15 : R_X12_plainValley μ2 0 15 = 0 := by rw [plain_r _ (by decide)]; exact z15
  refine KV_tr ⟨by rw [nx_r _ (by decide), plain_r _ (by decide), br 2 (by decide), t25 2 (by decide)], fun j _ => by rw [nx_r _ (by decide), plain_r _ (by decide), br 5 (by decide), t25 5 (by decide)]⟩ (valley_n 1000 1000 0 _ _ ?_ ?_ (LK_next hP2) (NV_nx (valley_NV σ1 b20)) ⟨by decide, ?_, ?_, ?_⟩ (by decide) (by decide) h0)
  · exact KW_row hK (by rw [cr 4 (by decide) (by decide) (by decide) (by decide), o4]) (by rw [nx_r _ (by decide), plain_r _ (by decide), br 6 (by decide), t6])
  · unfold KC at *
    rw [cr 4 (by decide) (by decide) (by decide) (by decide), o4]
    exact hC
  · rw [kz_next _ (by unfold kj; decide)]; exact z5
  · rw [kz_next _ (by unfold kj; decide), plain_r _ (by decide)]; exact b19
  · rcases tk with x | x | x
    · exact Or.inl x
    · exact Or.inr (Or.inl x)
    · exact Or.inr (Or.inr ⟨x.1, x.2.2, x.2.1⟩)
theorem book_n {P F s0 : Int} (hP8 : 0 ≤ P ∧ P ≤ 8) (hF : 0 ≤ F ∧ F ≤ 12) (hs0 : s0 ≤ 900) : ∀ (n n' : Nat) (q : Int) (σ μ : zG), KW σ μ → KC σ → LK σ μ → TC σ → (σ 5 0 = P ∧ μ 2 0 = P ∧ σ 5 1 = F ∧ μ 2 1 = F ∧ μ 0 21 = q ∧ σ 3 2 = s0 ∧ σ 3 7 = 0 ∧ μ 0 15 = 0) → (∀ i : Int, 0 ≤ i → i < P → wr (σ 6 i) (μ 5 (0 + i))) → (∀ i : Int, 0 ≤ i → i < F → wr (σ 8 i) (μ 5 (8 + i))) → BR P F σ μ → 7 * ds (μ 4) q.toNat ≤ σ 3 3 → σ 3 3 ≤ 900 → 0 ≤ q → (62 - q).toNat < n → (62 - q).toNat < n' → (L_X0_take_6 n q σ).1 = 0 → KP (L_X12_book_31 n' μ).2 μ
  | 0, _, q, σ, μ, _, _, _, _, _, _, _, _, _, _, _, h, _ => absurd h (Nat.not_lt_zero _)
  | _ + 1, 0, q, σ, μ, _, _, _, _, _, _, _, _, _, _, _, _, h => absurd h (Nat.not_lt_zero _)
  | n + 1, n' + 1, q, σ, μ, hK, hC, hL, hT, hp, hw6, hw8, hB, hs, h9, q0, hm, hm' => by
    obtain ⟨p1, p2, p3, p4, p5, p6, f7, f15⟩ := id hp
    have n60 : 0 ≤ σ 35 0 ∧ σ 35 0 ≤ 60 := hB.1.1
    rw [hB.2.1, p5] at n60
    rw [L_X0_take_6, L_X12_book_31, if_neg (show ¬ 60 < q by omega)]
    have hk := hL.2.2
    have cr : ∀ k : Nat, k ≠ 3 → F_X5_step σ k = σ k := fun k h => st_r σ h
    by_cases e : μ 0 11 = 0
    · have e4 : F_X5_step σ 3 4 = 0 := by
        rcases hk with x | x | x | x | x
        · exact x.1
        · omega
        · omega
        · omega
        · omega
      rw [if_pos e, if_pos e4]
      exact fun x => absurd x (show ¬ (1 : Int) = 0 by decide)
    · have e4 : ¬ F_X5_step σ 3 4 = 0 := by
        rcases hk with x | x | x | x | x <;> omega
      rw [if_neg e, if_neg e4]
      have hK1 : KW (F_X5_step σ) μ := KW_row hK (cr 4 (by decide)) rfl
      have hC1 : KC (F_X5_step σ) := KC_row hC (cr 4 (by decide))
      have hB1 : BR P F (F_X5_step σ) μ := BR_row hB (fun k _ _ => cr k (by omega)) rfl rfl rfl rfl
      have s3 : F_X5_step σ 3 2 = s0 := by rw [(step_vals σ).2.2.2.2.2]; exact p6
      have sm := step_mono σ
      have hlo := bline_sim (N := q) (s0 := s0) hP8 hF hK1 hC1 hL.1 hL.2 ⟨by rw [cr 5 (by decide)]; exact p1, p2, by rw [cr 5 (by decide)]; exact p3, p4, p5, s3, by rw [(step_vals σ).2.2.2.2.1]; exact f7, f15⟩ (by rw [cr 6 (by decide)]; exact hw6) (by rw [cr 8 (by decide)]; exact hw8) hB1 (by omega) (fun k2 => by
        obtain ⟨we, g, l, ⟨x1, x2⟩, x3, _, _⟩ := step_word hT k2
        exact ⟨we, by omega⟩)
      rcases hlo with ⟨a, b, c, d⟩ | ⟨a, b, c, d, f⟩ | ⟨a, b, c, d, f, ⟨g1, g2⟩, i1, i2, i3, F7, F15'⟩
      · rw [if_pos a, if_pos b]
        exact fun _ => ⟨fr_F_X12_bookLine _ (by decide), fr_F_X12_bookLine _ (by decide)⟩
      · rw [if_pos a, if_neg (show ¬ V_X12_bookLine μ = 0 by omega), if_pos c]
        exact fun _ => ⟨(fr_F_X12_sign _ _ (by decide)).trans (fr_F_X12_bookLine _ (by decide)), (fr_F_X12_sign _ _ (by decide)).trans (fr_F_X12_bookLine _ (by decide))⟩
      · have es : F_X12_sign (F_X12_bookLine μ) 59 = F_X12_next (F_X12_bookLine μ) := by
          unfold V_X12_sign at c
          unfold F_X12_sign
          by_cases z : F_X12_bookLine μ 0 11 = 3 ∧ F_X12_bookLine μ 0 14 = 59
          · rw [if_pos z]
          · rw [if_neg z] at c; omega
        rw [if_neg (show ¬ V_X0_takeLine (F_X5_step σ) = 0 by omega), if_neg (show ¬ V_X12_bookLine μ = 0 by omega), if_neg (show ¬ V_X12_sign (F_X12_bookLine μ) 59 = 0 by omega), p5]
        have tr : ∀ k : Nat, k ≠ 3 → k < 35 → F_X0_takeLine (F_X5_step σ) k = σ k := fun k h3 h5 => by rw [fr_F_X0_takeLine (h := by simp; omega), cr k h3]
        have mr : ∀ k : Nat, k ≠ 0 → k ≠ 4 → k ≠ 7 → k ≠ 8 → F_X12_sign (F_X12_bookLine μ) 59 k = μ k := fun k h0 h4 h7 h8 => by rw [es, nx_r _ h0, fr_F_X12_bookLine (h := by simp; omega)]
        have m4 : F_X12_sign (F_X12_bookLine μ) 59 4 = F_X12_bookLine μ 4 := by rw [es, nx_r _ (by decide)]
        have m8 : F_X12_sign (F_X12_bookLine μ) 59 8 = F_X12_bookLine μ 8 := by rw [es, nx_r _ (by decide)]
        have m22 : F_X12_sign (F_X12_bookLine μ) 59 0 22 = F_X12_bookLine μ 0 22 := by rw [es, kp_next _ 22 (by unfold KI; decide)]
        have zr : ∀ k : Nat, k ≠ 0 → zu (F_X12_sign (F_X12_bookLine μ) 59) 0 21 (q + 1) k = F_X12_sign (F_X12_bookLine μ) 59 k := fun k h0 => zu_row _ _ _ h0
        have F15 : F_X12_sign (F_X12_bookLine μ) 59 0 15 = 0 := by
          rw [es, nx_15]; exact F15'
        have d0 := ds_0 (F_X12_bookLine μ 4) (F_X0_takeLine (F_X5_step σ) 35 0).toNat
        refine fun hz => KP_tr ⟨(zr 2 (by decide)).trans (mr 2 (by decide) (by decide) (by decide) (by decide)), (zr 9 (by decide)).trans (mr 9 (by decide) (by decide) (by decide) (by decide))⟩ (book_n hP8 hF hs0 n n' (q + 1) _ _ ?_ ?_ ?_ ?_ ⟨?_, ?_, ?_, ?_, zu_at _ _ _ _, i3, F7, by rw [zu_off _ _ _ (by decide)]; exact F15⟩ ?_ ?_ ?_ ?_ (by omega) (by omega) (by omega) (by omega) hz)
        · exact KW_row hK (tr 4 (by decide) (by decide)) (by rw [zr 6 (by decide), mr 6 (by decide) (by decide) (by decide) (by decide)])
        · exact KC_row hC (tr 4 (by decide) (by decide))
        · exact LK_row d rfl rfl rfl (zr 1 (by decide)) (fun j hj => zu_off _ _ _ (by omega))
        · refine ⟨by omega, ?_, ?_⟩
          · rw [i3, tr 1 (by decide) (by decide), ← p6]; exact hT.2.1
          · rw [tr 1 (by decide) (by decide)]; exact hT.2.2
        · rw [tr 5 (by decide) (by decide)]; exact p1
        · rw [zr 2 (by decide), mr 2 (by decide) (by decide) (by decide) (by decide)]; exact p2
        · rw [tr 5 (by decide) (by decide)]; exact p3
        · rw [zr 2 (by decide), mr 2 (by decide) (by decide) (by decide) (by decide)]; exact p4
        · rw [tr 6 (by decide) (by decide), zr 5 (by decide), mr 5 (by decide) (by decide) (by decide) (by decide)]; exact hw6
        · rw [tr 8 (by decide) (by decide), zr 5 (by decide), mr 5 (by decide) (by decide) (by decide) (by decide)]; exact hw8
        · unfold BR
          rw [zr 4 (by decide), m4, zr 8 (by decide), m8, zu_at, zu_off _ _ _ (by decide), m22]
          exact ⟨f, g1, g2⟩
        · rw [zr 4 (by decide), m4, ← g1]; exact i1
theorem book_none {σ μ : zG} (hK : KW σ μ) (hC : KC σ) (hV : VS σ μ) (hN : NW σ μ) (h1 : σ 1 1 = μ 0 2 ∧ 0 ≤ μ 0 2 ∧ μ 0 2 ≤ 940) (h2 : ∀ j : Int, 0 ≤ j → j < 940 → σ 2 j = mu μ j ∧ 0 ≤ σ 2 j ∧ σ 2 j ≤ 255) : (R_X0_take (F_X5_open σ 900)).1 = 0 → KP (R_X12_book μ).2 μ := by
  have hTP := valley_TP h1 h2 (x := 900) (by decide)
  have o : ∀ k : Nat, k ≠ 3 → F_X5_open σ 900 k = σ k := fun k hk => by unfold F_X5_open; simp only [zu_row _ _ _ hk]
  have t : ∀ k : Nat, k ≠ 0 → F_X12_taken (zu μ 0 0 0) 900 k = μ k := fun k hk => by unfold F_X12_taken; simp only [zu_row _ _ _ hk]
  have t5 : F_X12_taken (zu μ 0 0 0) 900 0 5 = 900 := by unfold F_X12_taken; simp [zu]
  have o37 : F_X5_open σ 900 3 7 = 0 := by unfold F_X5_open; simp [zu]
  have o33 : F_X5_open σ 900 3 3 = 0 := by unfold F_X5_open; simp [zu]
  have hp := hV.1
  have hf := hV.2.1
  unfold R_X0_take R_X12_book
  generalize F_X12_taken (zu μ 0 0 0) 900 = μ1 at *
  generalize F_X5_open σ 900 = σ1 at *
  have c : ∀ k : Nat, k ≠ 35 → F_X0_clear_35 σ1 k = σ1 k := fun k hk => by unfold F_X0_clear_35; rw [zu_row _ _ _ hk, zu_row _ _ _ hk]
  have c0 : F_X0_clear_35 σ1 35 0 = 0 := by unfold F_X0_clear_35; rw [zu_off _ _ _ (by decide), zu_at]
  have c1 : F_X0_clear_35 σ1 35 1 = 0 := by unfold F_X0_clear_35; rw [zu_at]
  have b : ∀ j : Int, j ≠ 15 → j ≠ 21 → j ≠ 22 → zu (zu (zu μ1 0 15 0) 0 21 0) 0 22 0 0 j = μ1 0 j := fun j h15 h20 h19 => by rw [zu_off _ _ _ h19, zu_off _ _ _ h20, zu_off _ _ _ h15]
  have br : ∀ k : Nat, k ≠ 0 → zu (zu (zu μ1 0 15 0) 0 21 0) 0 22 0 k = μ1 k := fun k hk => by rw [zu_row _ _ _ hk, zu_row _ _ _ hk, zu_row _ _ _ hk]
  have b22 : zu (zu (zu μ1 0 15 0) 0 21 0) 0 22 0 0 22 = 0 := zu_at _ _ _ _
  have b21 : zu (zu (zu μ1 0 15 0) 0 21 0) 0 22 0 0 21 = 0 := by rw [zu_off _ _ _ (by decide), zu_at]
  have b15 : zu (zu (zu μ1 0 15 0) 0 21 0) 0 22 0 0 15 = 0 := by rw [zu_off _ _ _ (by decide), zu_off _ _ _ (by decide), zu_at]
  generalize zu (zu (zu μ1 0 15 0) 0 21 0) 0 22 0 = μ2 at *
  have hP2 : TP (F_X0_clear_35 σ1) μ2 := TP_row hTP (c 1 (by decide)) (c 2 (by decide)) (by rw [c 3 (by decide)]) (by rw [c 3 (by decide)]) (br 1 (by decide)) (b 3 (by decide) (by decide) (by decide)) (b 4 (by decide) (by decide) (by decide)) (b 5 (by decide) (by decide) (by decide))
  have stop : σ1 3 2 ≤ 900 := by
    have := hTP.2.2.1
    rw [t5] at this
    rw [this]; exact Int.min_le_right _ _
  have n21 : F_X12_next μ2 0 21 = 0 := by rw [kp_next _ 21 (by unfold KI; decide)]; exact b21
  have n22 : F_X12_next μ2 0 22 = 0 := by rw [kp_next _ 22 (by unfold KI; decide)]; exact b22
  refine fun hz => KP_tr ⟨by rw [nx_r _ (by decide), br 2 (by decide), t 2 (by decide)], by rw [nx_r _ (by decide), br 9 (by decide), t 9 (by decide)]⟩ (book_n ⟨hp.2.1, hp.2.2⟩ ⟨hf.2.1, hf.2.2⟩ stop 70 1000 0 _ _ ?_ ?_ (LK_next hP2) (TC_of hP2) ⟨?_, ?_, ?_, ?_, n21, by rw [c 3 (by decide)], ?_, ?_⟩ ?_ ?_ ⟨?_, ?_, ?_⟩ ?_ ?_ (by decide) (by decide) (by decide) hz)
  · exact KW_row hK (by rw [c 4 (by decide), o 4 (by decide)]) (by rw [nx_r _ (by decide), br 6 (by decide), t 6 (by decide)])
  · exact KC_row hC (by rw [c 4 (by decide), o 4 (by decide)])
  · rw [c 5 (by decide), o 5 (by decide)]; exact hp.1
  · rw [nx_r _ (by decide), br 2 (by decide), t 2 (by decide)]
  · rw [c 5 (by decide), o 5 (by decide)]; exact hf.1
  · rw [nx_r _ (by decide), br 2 (by decide), t 2 (by decide)]
  · rw [c 3 (by decide)]; exact o37
  · rw [nx_15]; exact b15
  · intro i i0 i1
    rw [c 6 (by decide), o 6 (by decide), nx_r _ (by decide), br 5 (by decide), t 5 (by decide), Int.zero_add]
    exact hN.1 i i0 i1
  · intro i i0 i1
    rw [c 8 (by decide), o 8 (by decide), nx_r _ (by decide), br 5 (by decide), t 5 (by decide)]
    exact hN.2.1 i i0 i1
  · rw [c0, c1]
    exact ⟨⟨by decide, by decide⟩, fun i i0 i1 => by omega, fun i i0 i1 => by omega, rfl, fun i j i0 ij j1 => by omega, fun i i0 i1 => by omega⟩
  · rw [c0, n21]
  · rw [c1, n22]
  · rw [c 3 (by decide), o33]; show 7 * (0 : Int) ≤ 0; decide
  · rw [c 3 (by decide), o33]; decide
