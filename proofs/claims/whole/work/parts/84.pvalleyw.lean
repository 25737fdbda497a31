/-! pure: a whole valley read on both sides -/
/-- how far the lines are: q of them, and the token behind them -/
def QP (q : Int) (μ : zG) : Prop := (0 ≤ q ∧ q ≤ 900) ∧ μ 0 5 = 900 ∧ μ 0 19 = q ∧ (μ 0 11 = 0 ∨ μ 0 11 = 4 ∨ (q ≤ μ 0 12 ∧ μ 0 12 < 900 ∧ μ 0 12 < μ 0 4))
/-- how a valley came out on both sides -/
def VO (r s : Int × zG) : Prop := (r.1 = -1 ∧ r.2 3 7 = s.2 0 15 ∧ r.2 3 5 = s.2 0 16 ∧ s.1 = w32 (-1 - s.2 0 16)) ∨ (0 ≤ r.1 ∧ ∃ μ : zG, s.1 = r.1 ∧ NV r.2 μ ∧ s.2 = (S_X12_valley_118 30 0 ((S_X12_valley_80 700 0 μ).2)).2 ∧ (∀ k : Nat, k ≠ 0 → k ≠ 2 → k ≠ 5 → s.2 k = μ k))
theorem LK_PI {σ μ : zG} (h : LK σ μ) : PI μ := by
  have a := h.1.1
  have b := h.1.2.2.2.1
  exact ⟨b.2.1, by omega, a.2.2⟩
theorem NV_PH {σ μ : zG} (h : NV σ μ) : PH μ := ⟨h.1.1.2, h.1.2.1.2, h.2.2.2.1.1.2⟩
theorem valley_loop : ∀ (n n' : Nat) (q : Int) (σ μ : zG), KW σ μ → KC σ → LK σ μ → NV σ μ → QP q μ → (901 - q).toNat < n → (901 - q).toNat < n' → VO (L_X9_take_6 n q σ) (L_X12_valley_35 n' μ)
  | 0, _, q, σ, μ, _, _, _, _, _, h, _ => absurd h (Nat.not_lt_zero _)
  | _ + 1, 0, q, σ, μ, _, _, _, _, _, _, h => absurd h (Nat.not_lt_zero _)
  | n + 1, n' + 1, q, σ, μ, hK, hC, hL, hN, hQ, hm, hm' => by
    obtain ⟨⟨u0, u1⟩, u5, u19, ut⟩ := id hQ
    rw [L_X9_take_6, L_X12_valley_35, if_neg (show ¬ 900 < q by omega)]
    have hk := hL.2.2
    by_cases e : μ 0 11 = 0
    · have e4 : F_X5_step σ 3 4 = 0 := by
        rcases hk with x | x | x | x | x
        · exact x.1
        · omega
        · omega
        · omega
        · omega
      rw [if_pos e, if_pos e4]
      refine Or.inr ⟨u0, μ, u19, NV_st hN, rfl, fun k k0 k2 k5 => ?_⟩
      rw [fr_S_X12_valley_118 (h := by simpa using k5), fr_S_X12_valley_80 (h := by simpa using k2)]
    · have e4 : ¬ F_X5_step σ 3 4 = 0 := by
        rcases hk with x | x | x | x | x <;> omega
      rw [if_neg e, if_neg e4]
      have hK1 : KW (F_X5_step σ) μ := KW_row hK (st_r σ (by decide)) rfl
      have hC1 : KC (F_X5_step σ) := by unfold KC at *; rw [st_r σ (by decide)]; exact hC
      have hlo := line_sim hK1 hC1 hL.1 hL.2 (NV_st hN)
      rcases hlo with ⟨a, b, c, d⟩ | ⟨a, b, c, d, f⟩ | ⟨a, b, c, d, f⟩
      · rw [if_pos a, if_pos b]
        exact Or.inl ⟨rfl, c, d, rfl⟩
      · rw [if_pos a, if_neg (show ¬ V_X12_valleyLine μ = 0 by omega), if_pos c]
        exact Or.inl ⟨rfl, d, f, rfl⟩
      · have a' : ¬ V_X9_takeLine (F_X5_step σ) = 0 := by omega
        have b' : ¬ V_X12_valleyLine μ = 0 := by omega
        have c' : ¬ V_X12_sign (F_X12_valleyLine μ) 59 = 0 := by omega
        rw [if_neg a', if_neg b', if_neg c']
        have hAD := AD_F_X12_valleyLine (LK_PI hL) (NV_PH hN) (p0 := μ 0 4) b' (Int.le_refl _)
        have k11 : F_X12_valleyLine μ 0 11 = 3 := by
          unfold V_X12_sign at c'
          by_cases z : F_X12_valleyLine μ 0 11 = 3 ∧ F_X12_valleyLine μ 0 14 = 59
          · exact z.1
          · rw [if_neg z] at c'; exact absurd rfl c'
        have es : F_X12_sign (F_X12_valleyLine μ) 59 = F_X12_next (F_X12_valleyLine μ) := by
          unfold F_X12_sign
          unfold V_X12_sign at c'
          by_cases z : F_X12_valleyLine μ 0 11 = 3 ∧ F_X12_valleyLine μ 0 14 = 59
          · rw [if_pos z]
          · rw [if_neg z] at c'; exact absurd rfl c'
        have adv : μ 0 4 < F_X12_valleyLine μ 0 4 := by
          rcases hAD with x | x | x
          · omega
          · omega
          · exact x
        have w1 : ¬ μ 0 11 = 4 := by
          intro x
          apply b'
          unfold V_X12_valleyLine
          have nn : ∀ c : Int, ¬ (μ 0 11 = 1 ∧ μ 0 17 = c) := fun c y => by omega
          simp only [if_neg (nn _)]
        have ut' : q ≤ μ 0 12 ∧ μ 0 12 < 900 ∧ μ 0 12 < μ 0 4 := by
          rcases ut with x | x | x
          · exact absurd x e
          · exact absurd x w1
          · exact x
        have z5 : F_X12_sign (F_X12_valleyLine μ) 59 0 5 = 900 := by rw [kz_sign _ _ (by unfold kj; decide), kz_line _ (by unfold kj; decide), u5]
        have z19 : F_X12_sign (F_X12_valleyLine μ) 59 0 19 = q := by rw [kz_sign _ _ (by unfold kj; decide), kz_line _ (by unfold kj; decide), u19]
        have l5 : F_X12_valleyLine μ 0 5 = 900 := by rw [kz_line _ (by unfold kj; decide), u5]
        rw [z19, w32_id (z := q + 1) ⟨by omega, by omega⟩]
        have tk := nx_tok (F_X12_valleyLine μ)
        rw [← es, l5] at tk
        have r6 : F_X12_sign (F_X12_valleyLine μ) 59 6 = μ 6 := by rw [es, nx_r _ (by decide), fr_F_X12_valleyLine _ (by decide)]
        have r4 : F_X9_takeLine (F_X5_step σ) 4 = σ 4 := by rw [fr_F_X9_takeLine _ (by decide), st_r σ (by decide)]
        refine valley_loop n n' (q + 1) _ _ ?_ ?_ ?_ ?_ ?_ (by omega) (by omega)
        · exact KW_row hK r4 ((zu_row _ _ _ (by decide)).trans r6)
        · unfold KC at *; rw [r4]; exact hC
        · exact LK_row d rfl rfl rfl (zu_row _ _ _ (by decide)) (fun j hj => zu_off _ _ _ (by omega))
        · exact NV_row f (fun _ _ _ => rfl) (zu_row _ _ _ (by decide)) (zu_row _ _ _ (by decide)) (zu_off _ _ _ (by decide))
        · refine ⟨⟨by omega, by omega⟩, ?_, zu_at _ _ _ _, ?_⟩
          · rw [zu_off _ _ _ (by decide)]; exact z5
          · rw [zu_off _ _ _ (by decide), zu_off _ _ _ (by decide), zu_off _ _ _ (by decide)]
            rcases tk with x | x | x
            · exact Or.inl x
            · exact Or.inr (Or.inl x)
            · exact Or.inr (Or.inr ⟨by omega, x.2.2, x.2.1⟩)
