/-! pure: the answers out of the book, the rest -/
theorem q_led {σ μ : zG} {f x : Int} (e2 : R_X12_run (zu μ 0 0 0) (-1) 2 = μ 2) (hQ : QR σ (R_X12_run (zu μ 0 0 0) (-1))) : V_X11_led σ f x = (R_X12_led μ f x).1 := by
  unfold V_X11_led R_X12_led
  generalize R_X12_run (zu μ 0 0 0) (-1) = ρ at *
  rw [← e2]
  have hC := hQ.2.2.1.1
  have hX := hQ.2.2.1.2.1
  have hm := hC.2.2.1
  have hF := hQ.1.2.1
  have hb := hQ.2.1
  rw [hF.1]
  by_cases c : 0 ≤ f ∧ f < ρ 2 1
  · rw [if_pos c, if_pos (show 0 ≤ f ∧ f ≤ ρ 2 1 - 1 from ⟨c.1, by omega⟩)]
    have main : ∀ (n n' : Nat) (sm d : Int), 0 ≤ d → (ρ 0 43 - d).toNat < n → (ρ 0 43 - d).toNat < n' → 0 ≤ sm → (-1 ≤ x → L_X4_paidByTelling_5 σ f x n sm d = (L_X12_led_30 f x n' sm d ρ).1) ∧ (¬ -1 ≤ x → L_X4_paidByTelling_5 σ f x n sm d = -1) := by
      intro n
      induction n with
      | zero => intro n' sm d _ h; exact absurd h (Nat.not_lt_zero _)
      | succ n ih =>
        intro n' sm d h0 h h' hs
        cases n' with
        | zero => exact absurd h' (Nat.not_lt_zero _)
        | succ n' =>
          rw [L_X4_paidByTelling_5, L_X12_led_30, hm.1]
          by_cases k : ρ 0 43 ≤ d
          · rw [if_pos k, if_pos k]
            refine ⟨fun _ => ?_, fun h => ?_⟩
            · by_cases e : x = -1
              · rw [if_pos e, if_pos e]
              · rw [if_neg e, if_neg e]
            · rw [if_neg (by omega)]
          · rw [if_neg k, if_neg k]
            have hx := (hX.1 d h0 (by omega)).2.2.1
            rw [hx.1, hb.1.1]
            have i1 := ih n' sm (d + 1) (by omega) (by omega) (by omega) hs
            have i2 := ih n' (sm + 1) (d + 1) (by omega) (by omega) (by omega) (by omega)
            by_cases v : ρ 22 d < 0
            · rw [if_neg (show ¬ (0 ≤ ρ 22 d ∧ ρ 22 d < ρ 2 172) by omega), if_pos v]
              exact i1
            · rw [if_pos (show 0 ≤ ρ 22 d ∧ ρ 22 d < ρ 2 172 from ⟨by omega, hx.2.2⟩), if_neg v, (hb.2.1 (ρ 22 d) (by omega) hx.2.2).1.2.2.2.1]
              by_cases ef : ρ 2 ((173 + (5 * (ρ 22 d))) + 3) = f
              · rw [if_pos ef, if_pos ef]
                by_cases es : sm = x
                · rw [if_pos es, if_pos es]
                  exact ⟨fun _ => rfl, fun h => absurd h (by omega)⟩
                · rw [if_neg es, if_neg es]
                  exact i2
              · rw [if_neg ef, if_neg ef]
                exact i1
    have h9 := main 200 500 0 0 (by decide) (by omega) (by omega) (by decide)
    unfold R_X4_paidByTelling
    by_cases e : -1 ≤ x
    · rw [if_pos e]; exact h9.1 e
    · rw [if_neg e]; exact h9.2 e
  · rw [if_neg c, if_neg (show ¬ (0 ≤ f ∧ f ≤ ρ 2 1 - 1) by omega)]
theorem q_terms {σ μ : zG} {who : Int} (e2 : R_X12_run (zu μ 0 0 0) (-1) 2 = μ 2) (hQ : QR σ (R_X12_run (zu μ 0 0 0) (-1))) : V_X11_terms σ who = (R_X12_terms μ who).1 := by
  unfold V_X11_terms R_X12_terms
  generalize R_X12_run (zu μ 0 0 0) (-1) = ρ at *
  rw [← e2]
  have hC := hQ.2.2.1.1
  have hX := hQ.2.2.1.2.1
  have hm := hC.2.2.1
  have hp := hQ.1.1
  have hb := hQ.2.1
  have hset := hQ.1.2.2.2.1
  rw [hp.1]
  by_cases c : 0 ≤ who ∧ who < ρ 2 0
  · rw [if_pos c, if_pos (show 0 ≤ who ∧ who ≤ ρ 2 0 - 1 from ⟨c.1, by omega⟩)]
    have day : ∀ d : Int, 0 ≤ d → d < ρ 0 43 → V_X4_dayOf σ d = ρ 24 d ∧ 0 ≤ ρ 24 d ∧ ρ 24 d ≤ 999 ∧ ∀ e : Int, d ≤ e → e < ρ 0 43 → ρ 24 d ≤ ρ 24 e := by
      intro d d0 d1
      have hx := hX.1 d d0 d1
      unfold V_X4_dayOf
      rw [hx.2.1.1, ← hx.2.2.2.2.1]
      refine ⟨rfl, ?_, ?_, fun e e0 e1 => ?_⟩
      · rw [hx.2.2.2.2.1]; exact (hQ.2.2.2.2.2.1 _ hx.2.1.2.1 hx.2.1.2.2).1
      · rw [hx.2.2.2.2.1]; exact (hQ.2.2.2.2.2.1 _ hx.2.1.2.1 hx.2.1.2.2).2
      · have hy := hX.1 e (by omega) e1
        rw [hx.2.2.2.2.1, hy.2.2.2.2.1]
        exact hQ.2.2.2.2.1 _ _ hx.2.1.2.1 (hX.2 d e d0 e0 e1) hy.2.1.2.2
    have tl : ∀ (n : Nat) (be d : Int), 0 ≤ d → (ρ 0 43 - d).toNat < n → be ≤ 999 → (∀ e : Int, d ≤ e → e < ρ 0 43 → be ≤ ρ 24 e) → (L_X12_terms_28 who n be d ρ).1 = w32 ((w32 ((w32 (be + (ρ 2 3))) + 1)) - (ρ 0 44)) := by
      intro n
      induction n with
      | zero => intro be d _ h; exact absurd h (Nat.not_lt_zero _)
      | succ n ih =>
        intro be d h0 h hbe hmo
        rw [L_X12_terms_28]
        by_cases k : ρ 0 43 ≤ d
        · rw [if_pos k, if_neg (by omega)]
        · rw [if_neg k, if_pos (hmo d (by omega) (by omega))]
          simp only [ite_self]
          exact ih be (d + 1) (by omega) (by omega) hbe (fun e e0 e1 => hmo e (by omega) e1)
    have main : ∀ (n n' : Nat) (d : Int), 0 ≤ d → (ρ 0 43 - d).toNat < n → (ρ 0 43 - d).toNat < n' → (L_X4_firstOpenOf_2 σ who n d = -1 ∧ (L_X12_terms_28 who n' 1000000000 d ρ).1 = -10000) ∨ (0 ≤ L_X4_firstOpenOf_2 σ who n d ∧ L_X4_firstOpenOf_2 σ who n d < ρ 0 43 ∧ (L_X12_terms_28 who n' 1000000000 d ρ).1 = w32 ((w32 ((w32 (ρ 24 (L_X4_firstOpenOf_2 σ who n d) + (ρ 2 3))) + 1)) - (ρ 0 44))) := by
      intro n
      induction n with
      | zero => intro n' d _ h; exact absurd h (Nat.not_lt_zero _)
      | succ n ih =>
        intro n' d h0 h h'
        cases n' with
        | zero => exact absurd h' (Nat.not_lt_zero _)
        | succ n' =>
          rw [L_X4_firstOpenOf_2, L_X12_terms_28, hm.1]
          by_cases k : ρ 0 43 ≤ d
          · rw [if_pos k, if_pos k, if_pos rfl]
            exact Or.inl ⟨rfl, rfl⟩
          · rw [if_neg k, if_neg k]
            obtain ⟨e1, e2, e3, e4⟩ := (hC.2.2.2 d h0 (by omega)).1
            have ih' := ih n' (d + 1) (by omega) (by omega) (by omega)
            have dd := day d h0 (by omega)
            rw [e1, e4]
            by_cases w : ρ 16 d = who
            · rw [if_pos w, if_pos w]
              by_cases z : ρ 20 d ≤ 0
              · rw [if_pos z, if_pos z]; exact ih'
              · rw [if_neg z, if_neg z, if_neg (by omega)]
                exact Or.inr ⟨h0, by omega, tl n' _ (d + 1) (by omega) (by omega) dd.2.2.1 (fun e e0 e1 => dd.2.2.2 e (by omega) e1)⟩
            · rw [if_neg w, if_neg w]; exact ih'
    unfold R_X4_firstOpenOf
    rcases main 200 500 0 (by decide) (by omega) (by omega) with ⟨a, b⟩ | ⟨a, b, d⟩
    · rw [if_pos a, b]
    · rw [if_neg (by omega), d, (day _ a b).1, hset.1, hQ.2.2.2.1, hQ.2.2.1.2.2.2.2]
  · rw [if_neg c, if_neg (show ¬ (0 ≤ who ∧ who ≤ ρ 2 0 - 1) by omega)]
theorem q_knows {σ μ : zG} {who i : Int} (e2 : R_X12_run (zu μ 0 0 0) (-1) 2 = μ 2) (hQ : QR σ (R_X12_run (zu μ 0 0 0) (-1))) : V_X11_knows σ who i = V_X12_knows μ who i := by
  unfold V_X11_knows V_X12_knows
  generalize R_X12_run (zu μ 0 0 0) (-1) = ρ at *
  rw [← e2]
  have hp := hQ.1.1
  have hk := hQ.1.2.2.2.2.2
  rw [hp.1]
  by_cases c : 0 ≤ who ∧ who < ρ 2 0
  · rw [if_pos c, if_pos (show 0 ≤ who ∧ who ≤ ρ 2 0 - 1 from ⟨c.1, by omega⟩)]
    have hw := hk who c.1 (by omega)
    have hC := hQ.2.2.1.1.1 who c.1 (by omega)
    by_cases i0 : i = 0
    · rw [if_pos i0, if_pos (show 0 ≤ i ∧ i ≤ 1 by omega), if_pos i0, hw.1 c.2]
      exact follow_eq hQ.1.2.2.1 hw.2.1
    · rw [if_neg i0]
      by_cases i1 : i = 1
      · rw [if_pos i1, if_pos (show 0 ≤ i ∧ i ≤ 1 by omega), if_neg i0]; exact hC.1
      · rw [if_neg i1, if_neg (show ¬ (0 ≤ i ∧ i ≤ 1) by omega)]
  · rw [if_neg c, if_neg (show ¬ (0 ≤ who ∧ who ≤ ρ 2 0 - 1) by omega)]
theorem q_worth {σ μ : zG} {who f : Int} (e2 : R_X12_run (zu μ 0 0 0) (-1) 2 = μ 2) (hQ : QR σ (R_X12_run (zu μ 0 0 0) (-1))) : V_X11_worth σ who f = V_X12_worth μ who f := by
  unfold V_X11_worth V_X12_worth
  generalize R_X12_run (zu μ 0 0 0) (-1) = ρ at *
  rw [← e2]
  have hp := hQ.1.1
  have hF := hQ.1.2.1
  rw [hp.1, hF.1]
  by_cases c : 0 ≤ who ∧ who < ρ 2 0
  · rw [if_pos c, if_pos (show 0 ≤ who ∧ who ≤ ρ 2 0 - 1 from ⟨c.1, by omega⟩)]
    by_cases cf : 0 ≤ f ∧ f < ρ 2 1
    · rw [if_pos cf, if_pos (show 0 ≤ f ∧ f ≤ ρ 2 1 - 1 from ⟨cf.1, by omega⟩), (hQ.2.2.1.1.1 who c.1 (by omega)).1, worth_eq hQ.1 hQ.2.2.1.1 c cf]
    · rw [if_neg cf, if_neg (show ¬ (0 ≤ f ∧ f ≤ ρ 2 1 - 1) by omega)]
  · rw [if_neg c, if_neg (show ¬ (0 ≤ who ∧ who ≤ ρ 2 0 - 1) by omega)]
theorem q_source {σ μ : zG} {who f : Int} (e2 : R_X12_run (zu μ 0 0 0) (-1) 2 = μ 2) (hQ : QR σ (R_X12_run (zu μ 0 0 0) (-1))) : V_X11_source σ who f = V_X12_source μ who f := by
  unfold V_X11_source V_X12_source
  generalize R_X12_run (zu μ 0 0 0) (-1) = ρ at *
  rw [← e2]
  have hp := hQ.1.1
  have hF := hQ.1.2.1
  rw [hp.1, hF.1]
  by_cases c : 0 ≤ who ∧ who < ρ 2 0
  · rw [if_pos c, if_pos (show 0 ≤ who ∧ who ≤ ρ 2 0 - 1 from ⟨c.1, by omega⟩)]
    by_cases cf : 0 ≤ f ∧ f < ρ 2 1
    · rw [if_pos cf, if_pos (show 0 ≤ f ∧ f ≤ ρ 2 1 - 1 from ⟨cf.1, by omega⟩), Int.mul_comm who 12]
      exact hQ.2.2.1.2.2.1.2 _ (by omega) (by omega)
    · rw [if_neg cf, if_neg (show ¬ (0 ≤ f ∧ f ≤ ρ 2 1 - 1) by omega)]
  · rw [if_neg c, if_neg (show ¬ (0 ≤ who ∧ who ≤ ρ 2 0 - 1) by omega)]
theorem q_wrongAt {σ μ : zG} {i : Int} (e2 : R_X12_run (zu μ 0 0 0) (-1) 2 = μ 2) (hQ : QR σ (R_X12_run (zu μ 0 0 0) (-1))) : V_X11_wrong σ i = V_X12_wrong μ i := by
  unfold V_X11_wrong V_X12_wrong
  generalize R_X12_run (zu μ 0 0 0) (-1) = ρ at *
  rw [← e2, hQ.2.1.1.1]
  by_cases c : 0 ≤ i ∧ i < ρ 2 172
  · rw [if_pos c, if_pos (show 0 ≤ i ∧ i ≤ ρ 2 172 - 1 from ⟨c.1, by omega⟩)]
    exact (hQ.2.2.1.2.2.2.1.1 i c.1 c.2).1
  · rw [if_neg c, if_neg (show ¬ (0 ≤ i ∧ i ≤ ρ 2 172 - 1) by omega)]
theorem q_debts {σ μ : zG} (hQ : QR σ (R_X12_run (zu μ 0 0 0) (-1))) : V_X11_debts σ = V_X12_debts μ := hQ.2.2.1.1.2.2.1.1
theorem q_unsaid {σ μ : zG} {x : Int} (hV : VS σ μ) (hB : BK σ μ) : V_X11_unsaid σ x = V_X12_unsaid μ x := by
  unfold V_X11_unsaid V_X12_unsaid
  rw [hB.1.1]
  by_cases c : 0 ≤ x ∧ x < μ 2 172
  · rw [if_pos c, if_pos (show 0 ≤ x ∧ x ≤ μ 2 172 - 1 from ⟨c.1, by omega⟩)]
    have r2 : zu μ 0 0 0 2 = μ 2 := zu_row _ _ _ (by decide)
    have r9 : zu μ 0 0 0 9 = μ 9 := zu_row _ _ _ (by decide)
    have hV2 : VS σ (zu μ 0 0 0) := VS_row hV (fun c _ _ => rfl) r2
    have hB2 : BK σ (zu μ 0 0 0) := by
      unfold BK LN at *
      rw [r2, r9]
      exact hB
    exact q_owedAt (LC_runt hV2 hB2 x)
  · rw [if_neg c, if_neg (show ¬ (0 ≤ x ∧ x ≤ μ 2 172 - 1) by omega)]
