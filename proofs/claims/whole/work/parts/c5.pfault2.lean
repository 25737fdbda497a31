/-! pure: a valley that is well read leaves no fault on the model's side either -/
theorem m5_sign (μ : zG) (c : Int) (h : ¬ V_X12_sign μ c = 0) : F_X12_sign μ c 0 15 = μ 0 15 := by
  unfold V_X12_sign at h
  unfold F_X12_sign
  by_cases a : μ 0 11 = 3 ∧ μ 0 14 = c
  · rw [if_pos a, nx_15]
  · rw [if_neg a] at h; exact absurd rfl h
theorem m5_takes (μ : zG) (lo hi : Int) (h : ¬ V_X12_takes μ lo hi = 0) : F_X12_takes μ lo hi 0 15 = μ 0 15 := by
  unfold V_X12_takes at h
  unfold F_X12_takes
  by_cases a : μ 0 11 = 2
  · rw [if_pos a] at h ⊢
    by_cases b : lo ≤ μ 0 14 ∧ μ 0 14 ≤ hi
    · rw [if_pos b, nx_15, zu_off _ _ _ (by decide)]
    · rw [if_neg b] at h; exact absurd rfl h
  · rw [if_neg a] at h; exact absurd rfl h
theorem m5_name (μ : zG) (fm nn : Int) (h : ¬ V_X12_takesName μ fm nn = 0) : F_X12_takesName μ fm nn 0 15 = μ 0 15 := by
  unfold V_X12_takesName at h
  unfold F_X12_takesName
  by_cases a : R_X12_isName μ = 0
  · rw [if_pos a] at h; exact absurd rfl h
  · rw [if_neg a] at h ⊢
    by_cases b : 0 ≤ R_X12_find μ fm nn
    · rw [if_pos b, nx_15, zu_off _ _ _ (by decide)]
    · rw [if_neg b] at h; exact absurd rfl h
theorem m5_fresh (μ : zG) (to : Int) (h : ¬ V_X12_fresh μ to = 0) : F_X12_fresh μ to 0 15 = μ 0 15 := by
  unfold V_X12_fresh at h
  unfold F_X12_fresh
  by_cases a : R_X12_isName μ = 0
  · rw [if_pos a] at h; exact absurd rfl h
  · rw [if_neg a] at h ⊢
    by_cases b : 0 ≤ R_X12_find μ 20 (μ 3 0)
    · rw [if_pos b] at h; exact absurd rfl h
    · rw [if_neg b] at h ⊢
      by_cases c : R_X12_find μ 28 (μ 3 1) < 0
      · rw [if_pos c, nx_15, zu_ne _ _ _ _ (by decide)]
      · rw [if_neg c] at h; exact absurd rfl h
theorem m5_once (μ : zG) (w lo hi : Int) (h : ¬ V_X12_once μ w lo hi = 0) : F_X12_once μ w lo hi 0 15 = μ 0 15 := by
  unfold V_X12_once at h
  unfold F_X12_once
  by_cases a : hb (μ 0 20) w
  · rw [if_pos a] at h; exact absurd rfl h
  · rw [if_neg a] at h ⊢
    by_cases b : V_X12_takes (F_X12_next (zu μ 0 20 (bor (μ 0 20) (bshl 1 w)))) lo hi = 0
    · rw [if_pos b] at h; exact absurd rfl h
    · rw [if_neg b, zu_ne _ _ _ _ (by decide), m5_takes _ _ _ b, nx_15, zu_off _ _ _ (by decide)]
theorem m5_fact (μ : zG) (h : ¬ V_X12_readFact μ = 0) : F_X12_readFact μ 0 15 = μ 0 15 := by
  unfold V_X12_readFact at h
  unfold F_X12_readFact
  by_cases a : μ 3 1 = 12
  · rw [if_pos a] at h; exact absurd rfl h
  rw [if_neg a] at h ⊢
  by_cases b : V_X12_fresh (F_X12_next μ) (28 + μ 3 1) = 0
  · rw [if_pos b] at h; exact absurd rfl h
  rw [if_neg b] at h ⊢
  have eb := m5_fresh _ _ b
  generalize F_X12_fresh (F_X12_next μ) (28 + μ 3 1) = μ2 at *
  by_cases c : V_X12_takes μ2 1 99 = 0
  · rw [if_pos c] at h; exact absurd rfl h
  rw [if_neg c] at h ⊢
  have ec := m5_takes _ _ _ c
  generalize F_X12_takes μ2 1 99 = μ3 at *
  by_cases d : V_X12_takes (zu μ3 3 (8 + 3 * μ 3 1) (μ3 0 18)) 0 99 = 0
  · rw [if_pos d] at h; exact absurd rfl h
  rw [if_neg d] at h ⊢
  have ed := m5_takes _ _ _ d
  generalize F_X12_takes (zu μ3 3 (8 + 3 * μ 3 1) (μ3 0 18)) 0 99 = μ4 at *
  by_cases e : V_X12_takesName (zu μ4 3 (8 + 3 * μ 3 1 + 1) (μ4 0 18)) 20 (μ 3 0) = 0
  · rw [if_pos e] at h; exact absurd rfl h
  rw [if_neg e]
  have ee := m5_name _ _ _ e
  simp only [zu_ne _ _ _ _ (show (0 : Nat) ≠ 3 by decide)] at ee ed ⊢
  rw [ee, ed, ec, eb, nx_15]
theorem m5_knows (μ : zG) (h : ¬ V_X12_readKnows μ = 0) : F_X12_readKnows μ 0 15 = μ 0 15 := by
  unfold V_X12_readKnows at h
  unfold F_X12_readKnows
  by_cases a : V_X12_takesName (F_X12_next μ) 20 (μ 3 0) = 0
  · rw [if_pos a] at h; exact absurd rfl h
  rw [if_neg a] at h ⊢
  have ea := m5_name _ _ _ a
  generalize F_X12_takesName (F_X12_next μ) 20 (μ 3 0) = μ2 at *
  by_cases b : R_X12_isName μ2 = 0
  · rw [if_pos b] at h; exact absurd rfl h
  rw [if_neg b] at h ⊢
  by_cases c : R_X12_find μ2 28 (μ 3 1) < 0
  · rw [if_pos c] at h; exact absurd rfl h
  rw [if_neg c] at h ⊢
  by_cases d : hb (μ 3 (44 + μ2 0 18)) (R_X12_find μ2 28 (μ 3 1))
  · rw [if_pos d] at h; exact absurd rfl h
  rw [if_neg d, nx_15, zu_ne _ _ _ _ (by decide), ea, nx_15]
theorem m5_asks (μ : zG) (h : ¬ V_X12_readAsks μ = 0) : F_X12_readAsks μ 0 15 = μ 0 15 := by
  unfold V_X12_readAsks at h
  unfold F_X12_readAsks
  by_cases a : V_X12_takesName (F_X12_next μ) 20 (μ 3 0) = 0
  · rw [if_pos a] at h; exact absurd rfl h
  rw [if_neg a] at h ⊢
  have ea := m5_name _ _ _ a
  generalize F_X12_takesName (F_X12_next μ) 20 (μ 3 0) = μ2 at *
  by_cases b : R_X12_isName μ2 = 0
  · rw [if_pos b] at h; exact absurd rfl h
  rw [if_neg b] at h ⊢
  by_cases c : R_X12_find μ2 28 (μ 3 1) < 0
  · rw [if_pos c] at h; exact absurd rfl h
  rw [if_neg c] at h ⊢
  by_cases d : μ 3 ((76 + (12 * (μ2 0 18))) + (R_X12_find μ2 28 (μ 3 1))) ≤ 0
  · rw [if_pos d] at h ⊢
    by_cases e : V_X12_takes (F_X12_next μ2) 0 99 = 0
    · rw [if_pos e] at h; exact absurd rfl h
    rw [if_neg e, zu_ne _ _ _ _ (by decide), m5_takes _ _ _ e, nx_15, ea, nx_15]
  · rw [if_neg d] at h; exact absurd rfl h
theorem m5_sinceL (to : Int) : ∀ (n : Nat) (q : Int) (μ : zG), ¬ (L_X12_readSince_35 to n q μ).1 = 0 → (L_X12_readSince_35 to n q μ).2 0 15 = μ 0 15
  | 0, q, μ, h => absurd rfl h
  | n + 1, q, μ, h => by
    have go : ¬ (L_X12_readSince_35 to n (q + 1) (F_X12_next (zu μ 3 (to + q) (R_X12_find μ 28 (μ 3 1))))).1 = 0 → (L_X12_readSince_35 to n (q + 1) (F_X12_next (zu μ 3 (to + q) (R_X12_find μ 28 (μ 3 1))))).2 0 15 = μ 0 15 := fun h => by
      rw [m5_sinceL to n (q + 1) _ h, nx_15, zu_ne _ _ _ _ (by decide)]
    rw [L_X12_readSince_35] at h ⊢
    by_cases a : 3 ≤ q
    · rw [if_pos a]
      show zu μ 3 2 (μ 3 2 + 1) 0 15 = μ 0 15
      rw [zu_ne _ _ _ _ (by decide)]
    rw [if_neg a] at h ⊢
    by_cases b : R_X12_isName μ = 0
    · rw [if_pos b] at h; exact absurd rfl h
    rw [if_neg b] at h ⊢
    by_cases c : R_X12_find μ 28 (μ 3 1) < 0
    · rw [if_pos c] at h; exact absurd rfl h
    rw [if_neg c] at h ⊢
    by_cases d : q ≤ 0
    · rw [if_pos d, if_pos (show q ≤ 1 by omega)] at h ⊢
      exact go h
    rw [if_neg d] at h ⊢
    by_cases e : R_X12_find μ 28 (μ 3 1) = μ 3 to
    · rw [if_pos e] at h; exact absurd rfl h
    rw [if_neg e] at h ⊢
    by_cases f : q ≤ 1
    · rw [if_pos f] at h ⊢; exact go h
    rw [if_neg f] at h ⊢
    by_cases g : R_X12_find μ 28 (μ 3 1) = μ 3 (to + 1)
    · rw [if_pos g] at h; exact absurd rfl h
    rw [if_neg g] at h ⊢
    exact go h
theorem m5_since (μ : zG) (h : ¬ V_X12_readSince μ = 0) : F_X12_readSince μ 0 15 = μ 0 15 := by
  unfold V_X12_readSince R_X12_readSince at h
  unfold F_X12_readSince R_X12_readSince
  by_cases a : μ 3 2 = 8
  · rw [if_pos a] at h; exact absurd rfl h
  · rw [if_neg a] at h ⊢
    rw [m5_sinceL _ 10 0 _ h, nx_15]
theorem m5_line (μ : zG) (h : ¬ V_X12_valleyLine μ = 0) : F_X12_valleyLine μ 0 15 = μ 0 15 := by
  unfold V_X12_valleyLine at h
  unfold F_X12_valleyLine
  by_cases c0 : μ 0 11 = 1 ∧ μ 0 17 = 7825519
  · rw [if_pos c0] at h ⊢
    by_cases a : μ 3 0 = 8
    · rw [if_pos a] at h; exact absurd rfl h
    rw [if_neg a] at h ⊢
    by_cases b : V_X12_fresh (F_X12_next μ) (20 + μ 3 0) = 0
    · rw [if_pos b] at h; exact absurd rfl h
    rw [if_neg b, zu_ne _ _ _ _ (by decide), m5_fresh _ _ b, nx_15]
  rw [if_neg c0] at h ⊢
  by_cases c1717658484 : μ 0 11 = 1 ∧ μ 0 17 = 1717658484
  · rw [if_pos c1717658484] at h ⊢; exact m5_fact μ h
  rw [if_neg c1717658484] at h ⊢
  by_cases c461414299507 : μ 0 11 = 1 ∧ μ 0 17 = 461414299507
  · rw [if_pos c461414299507] at h ⊢; exact m5_knows μ h
  rw [if_neg c461414299507] at h ⊢
  by_cases c495690081125 : μ 0 11 = 1 ∧ μ 0 17 = 495690081125
  · rw [if_pos c495690081125] at h ⊢; exact m5_since μ h
  rw [if_neg c495690081125] at h ⊢
  by_cases c1634954099 : μ 0 11 = 1 ∧ μ 0 17 = 1634954099
  · rw [if_pos c1634954099] at h ⊢; exact m5_asks μ h
  rw [if_neg c1634954099] at h ⊢
  by_cases c1836019566 : μ 0 11 = 1 ∧ μ 0 17 = 1836019566
  · rw [if_pos c1836019566] at h ⊢; exact m5_once μ _ _ _ h
  rw [if_neg c1836019566] at h ⊢
  by_cases c7302244 : μ 0 11 = 1 ∧ μ 0 17 = 7302244
  · rw [if_pos c7302244] at h ⊢; exact m5_once μ _ _ _ h
  rw [if_neg c7302244] at h ⊢
  by_cases c126879297332596 : μ 0 11 = 1 ∧ μ 0 17 = 126879297332596
  · rw [if_pos c126879297332596] at h ⊢; exact m5_once μ _ _ _ h
  rw [if_neg c126879297332596] at h ⊢
  by_cases c126896627347060 : μ 0 11 = 1 ∧ μ 0 17 = 126896627347060
  · rw [if_pos c126896627347060] at h ⊢; exact m5_once μ _ _ _ h
  rw [if_neg c126896627347060] at h ⊢
  by_cases c439956631140 : μ 0 11 = 1 ∧ μ 0 17 = 439956631140
  · rw [if_pos c439956631140] at h ⊢; exact m5_once μ _ _ _ h
  rw [if_neg c439956631140] at h ⊢
  exact absurd rfl h
theorem valley_f : ∀ (n n' : Nat) (q : Int) (σ μ : zG), KW σ μ → KC σ → LK σ μ → NV σ μ → QP q μ → (901 - q).toNat < n → (901 - q).toNat < n' → 0 ≤ (L_X9_take_6 n q σ).1 → (L_X12_valley_35 n' μ).2 0 15 = μ 0 15
  | 0, _, q, σ, μ, _, _, _, _, _, h, _, _ => absurd h (Nat.not_lt_zero _)
  | _ + 1, 0, q, σ, μ, _, _, _, _, _, _, h, _ => absurd h (Nat.not_lt_zero _)
  | n + 1, n' + 1, q, σ, μ, hK, hC, hL, hN, hQ, hm, hm', hpos => by
    obtain ⟨⟨u0, u1⟩, u5, u19, ut⟩ := id hQ
    rw [L_X9_take_6, if_neg (show ¬ 900 < q by omega)] at hpos
    rw [L_X12_valley_35]
    have hk := hL.2.2
    by_cases e : μ 0 11 = 0
    · have e4 : F_X5_step σ 3 4 = 0 := by
        rcases hk with x | x | x | x | x
        · exact x.1
        · omega
        · omega
        · omega
        · omega
      rw [if_pos e]
      dsimp only
      rw [fr_S_X12_valley_118 (h := by decide), fr_S_X12_valley_80 (h := by decide)]
    · have e4 : ¬ F_X5_step σ 3 4 = 0 := by
        rcases hk with x | x | x | x | x <;> omega
      rw [if_neg e4] at hpos
      rw [if_neg e]
      have hK1 : KW (F_X5_step σ) μ := KW_row hK (st_r σ (by decide)) rfl
      have hC1 : KC (F_X5_step σ) := by unfold KC at *; rw [st_r σ (by decide)]; exact hC
      have hlo := line_sim hK1 hC1 hL.1 hL.2 (NV_st hN)
      rcases hlo with ⟨a, b, c, d⟩ | ⟨a, b, c, d, f⟩ | ⟨a, b, c, d, f⟩
      · rw [if_pos a] at hpos
        exact absurd hpos (show ¬ (0 : Int) ≤ -1 by decide)
      · rw [if_pos a] at hpos
        exact absurd hpos (show ¬ (0 : Int) ≤ -1 by decide)
      · have a' : ¬ V_X9_takeLine (F_X5_step σ) = 0 := by omega
        have b' : ¬ V_X12_valleyLine μ = 0 := by omega
        have c' : ¬ V_X12_sign (F_X12_valleyLine μ) 59 = 0 := by omega
        rw [if_neg a'] at hpos
        rw [if_neg b', if_neg c']
        have hAD := AD_F_X12_valleyLine (LK_PI hL) (NV_PH hN) (p0 := μ 0 4) b' (Int.le_refl _)
        have k11 : F_X12_valleyLine μ 0 11 = 3 := by
          unfold V_X12_sign at c'
          by_cases z : F_X12_valleyLine μ 0 11 = 3 ∧ F_X12_valleyLine μ 0 14 = 59
          · exact z.1
          · rw [if_neg z] at c'; exact absurd rfl c'
        have es : F_X12_sign (F_X12_valleyLine μ) 59 = F_X12_next (F_X12_valleyLine μ) := by
          unfold F_X12_sign
          unfold V_X12_sign at c'
          by_cases z : F_X12_valleyLine μ 0 11 = 3 ∧ F_X12_valleyLine μ 0 14 = 59
          · rw [if_pos z]
          · rw [if_neg z] at c'; exact absurd rfl c'
        have adv : μ 0 4 < F_X12_valleyLine μ 0 4 := by
          rcases hAD with x | x | x
          · omega
          · omega
          · exact x
        have w1 : ¬ μ 0 11 = 4 := by
          intro x
          apply b'
          unfold V_X12_valleyLine
          have nn : ∀ c : Int, ¬ (μ 0 11 = 1 ∧ μ 0 17 = c) := fun c y => by omega
          simp only [if_neg (nn _)]
        have ut' : q ≤ μ 0 12 ∧ μ 0 12 < 900 ∧ μ 0 12 < μ 0 4 := by
          rcases ut with x | x | x
          · exact absurd x e
          · exact absurd x w1
          · exact x
        have z5 : F_X12_sign (F_X12_valleyLine μ) 59 0 5 = 900 := by rw [kz_sign _ _ (by unfold kj; decide), kz_line _ (by unfold kj; decide), u5]
        have z19 : F_X12_sign (F_X12_valleyLine μ) 59 0 19 = q := by rw [kz_sign _ _ (by unfold kj; decide), kz_line _ (by unfold kj; decide), u19]
        have l5 : F_X12_valleyLine μ 0 5 = 900 := by rw [kz_line _ (by unfold kj; decide), u5]
        rw [z19, w32_id (z := q + 1) ⟨by omega, by omega⟩]
        have tk := nx_tok (F_X12_valleyLine μ)
        rw [← es, l5] at tk
        have r6 : F_X12_sign (F_X12_valleyLine μ) 59 6 = μ 6 := by rw [es, nx_r _ (by decide), fr_F_X12_valleyLine _ (by decide)]
        have r4 : F_X9_takeLine (F_X5_step σ) 4 = σ 4 := by rw [fr_F_X9_takeLine _ (by decide), st_r σ (by decide)]
        refine Eq.trans (valley_f n n' (q + 1) _ _ ?_ ?_ ?_ ?_ ?_ (by omega) (by omega) hpos) (by rw [zu_off _ _ _ (by decide), m5_sign _ _ c', m5_line _ b'])
        · exact KW_row hK r4 ((zu_row _ _ _ (by decide)).trans r6)
        · unfold KC at *; rw [r4]; exact hC
        · exact LK_row d rfl rfl rfl (zu_row _ _ _ (by decide)) (fun j hj => zu_off _ _ _ (by omega))
        · exact NV_row f (fun _ _ _ => rfl) (zu_row _ _ _ (by decide)) (zu_row _ _ _ (by decide)) (zu_off _ _ _ (by decide))
        · refine ⟨⟨by omega, by omega⟩, ?_, zu_at _ _ _ _, ?_⟩
          · rw [zu_off _ _ _ (by decide)]; exact z5
          · rw [zu_off _ _ _ (by decide), zu_off _ _ _ (by decide), zu_off _ _ _ (by decide)]
            rcases tk with x | x | x
            · exact Or.inl x
            · exact Or.inr (Or.inl x)
            · exact Or.inr (Or.inr ⟨by omega, x.2.2, x.2.1⟩)

/-- both faults are 0 where a valley was well read -/
theorem valley_fault {σ μ : zG} (hK : KW σ μ) (hC : KC σ) (h1 : σ 1 1 = μ 0 2 ∧ 0 ≤ μ 0 2 ∧ μ 0 2 ≤ 940) (h2 : ∀ j : Int, 0 ≤ j → j < 940 → σ 2 j = mu μ j ∧ 0 ≤ σ 2 j ∧ σ 2 j ≤ 255) (h0 : 0 ≤ (R_X9_take (F_X5_open σ 900)).1) : (R_X9_take (F_X5_open σ 900)).2 3 7 = (R_X12_valley μ).2 0 15 := by
  rw [f7_valley σ h0]
  have hTP := valley_TP h1 h2 (x := 900) (by decide)
  have o4 : F_X5_open σ 900 4 = σ 4 := by unfold F_X5_open; simp only [zu_row _ _ _ (show (4 : Nat) ≠ 3 by decide)]
  have t6 : F_X12_taken (zu μ 0 0 0) 900 6 = μ 6 := by unfold F_X12_taken; simp only [zu_row _ _ _ (show (6 : Nat) ≠ 0 by decide)]
  have t5 : F_X12_taken (zu μ 0 0 0) 900 0 5 = 900 := by unfold F_X12_taken; simp [zu]
  have t4 : F_X12_taken (zu μ 0 0 0) 900 0 4 = 0 := by unfold F_X12_taken; simp [zu]
  unfold R_X9_take at h0
  unfold R_X12_valley
  generalize F_X12_taken (zu μ 0 0 0) 900 = μ1 at *
  generalize F_X5_open σ 900 = σ1 at *
  obtain ⟨_, _, _, _, cr⟩ := vclear_rows σ1
  have b : ∀ j : Int, j ≠ 15 → j ≠ 20 → j ≠ 19 → zu (zu (zu μ1 0 15 0) 0 20 0) 0 19 0 0 j = μ1 0 j := fun j h15 h20 h19 => by rw [zu_off _ _ _ h19, zu_off _ _ _ h20, zu_off _ _ _ h15]
  have br : ∀ k : Nat, k ≠ 0 → zu (zu (zu μ1 0 15 0) 0 20 0) 0 19 0 k = μ1 k := fun k hk => by rw [zu_row _ _ _ hk, zu_row _ _ _ hk, zu_row _ _ _ hk]
  have b20 : zu (zu (zu μ1 0 15 0) 0 20 0) 0 19 0 0 20 = 0 := by rw [zu_off _ _ _ (by decide), zu_at]
  have b19 : zu (zu (zu μ1 0 15 0) 0 20 0) 0 19 0 0 19 = 0 := zu_at _ _ _ _
  have z15 : zu (zu (zu μ1 0 15 0) 0 20 0) 0 19 0 0 15 = 0 := by rw [zu_off _ _ _ (by decide), zu_off _ _ _ (by decide), zu_at]
  generalize zu (zu (zu μ1 0 15 0) 0 20 0) 0 19 0 = μ2 at *
  have hP2 : TP (F_X9_clear σ1) (R_X12_plainValley μ2) := by
    refine TP_row hTP (cr 1 (by decide) (by decide) (by decide) (by decide)) (cr 2 (by decide) (by decide) (by decide) (by decide)) (by rw [cr 3 (by decide) (by decide) (by decide) (by decide)]) (by rw [cr 3 (by decide) (by decide) (by decide) (by decide)]) ?_ ?_ ?_ ?_
    · rw [plain_r _ (by decide), br 1 (by decide)]
    · rw [plain_r _ (by decide), b 3 (by decide) (by decide) (by decide)]
    · rw [plain_r _ (by decide), b 4 (by decide) (by decide) (by decide)]
    · rw [plain_r _ (by decide), b 5 (by decide) (by decide) (by decide)]
  have tk := nx_tok (R_X12_plainValley μ2)
  have z4 : R_X12_plainValley μ2 0 4 = 0 := by rw [plain_r _ (by decide), b 4 (by decide) (by decide) (by decide), t4]
  have z5 : R_X12_plainValley μ2 0 5 = 900 := by rw [plain_r _ (by decide), b 5 (by decide) (by decide) (by decide), t5]
  rw [z4, z5] at tk
  have b15 : R_X12_plainValley μ2 0 15 = 0 := by rw [plain_r _ (by decide)]; exact z15
  refine Eq.symm (Eq.trans (valley_f 1000 1000 0 _ _ ?_ ?_ (LK_next hP2) (NV_nx (valley_NV σ1 b20)) ⟨by decide, ?_, ?_, ?_⟩ (by decide) (by decide) h0) (by rw [nx_15]; exact b15))
  · exact KW_row hK (by rw [cr 4 (by decide) (by decide) (by decide) (by decide), o4]) (by rw [nx_r _ (by decide), plain_r _ (by decide), br 6 (by decide), t6])
  · unfold KC at *
    rw [cr 4 (by decide) (by decide) (by decide) (by decide), o4]
    exact hC
  · rw [kz_next _ (by unfold kj; decide)]; exact z5
  · rw [kz_next _ (by unfold kj; decide), plain_r _ (by decide)]; exact b19
  · rcases tk with x | x | x
    · exact Or.inl x
    · exact Or.inr (Or.inl x)
    · exact Or.inr (Or.inr ⟨x.1, x.2.2, x.2.1⟩)
