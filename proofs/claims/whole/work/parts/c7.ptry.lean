/-! pure: tellings tried in one order, on both sides -/
theorem why_nn (μ : zG) (who an f : Int) : 0 ≤ R_X12_whyOf μ 3 who an f 0 := by
  have m := mwhy μ 3 who an f 0
  by_cases a : hb (μ 11 who) f
  · have b := m.2 ⟨a, fun x => absurd x (by decide)⟩
    rw [b]
    split <;> decide
  · rw [m.1 (Or.inl a)]; decide
/-- the tellings on both sides -/
def TLS (nn : Int) (σ μ : zG) : Prop := ∀ k : Int, 0 ≤ k → k < nn → (σ 92 k = μ 33 (3 * k) ∧ σ 93 k = μ 33 ((3 * k) + 1) ∧ σ 94 k = μ 33 ((3 * k) + 2)) ∧ (0 ≤ μ 33 (3 * k) ∧ μ 33 (3 * k) < μ 2 0) ∧ (0 ≤ μ 33 ((3 * k) + 1) ∧ μ 33 ((3 * k) + 1) < μ 2 0) ∧ 0 ≤ μ 33 ((3 * k) + 2) ∧ μ 33 ((3 * k) + 2) < μ 2 1
theorem TLS_row {nn : Int} {σ τ μ ν : zG} (h : TLS nn σ μ) (a : τ 92 = σ 92) (b : τ 93 = σ 93) (c : τ 94 = σ 94) (d : ν 33 = μ 33) (e : ν 2 = μ 2) : TLS nn τ ν := by
  unfold TLS at *
  rw [a, b, c, d, e]; exact h
theorem try_sim {nn : Int} (hnn : nn ≤ 5) : ∀ (n n' : Nat) (wr q : Int) (σ μ : zG), VS σ μ → LCt σ μ → TLS nn σ μ → σ 91 0 = nn → (∀ j : Int, 0 ≤ j → j < nn → σ 95 j = μ 31 j ∧ 0 ≤ μ 31 j ∧ μ 31 j < nn) → 0 ≤ q → (nn - q).toNat < n → (nn - q).toNat < n' → (L_X8_tryTurns_4 n wr q σ).1 = (S_X12_order_255 nn n' wr q μ).1 ∧ LCt (L_X8_tryTurns_4 n wr q σ).2 (S_X12_order_255 nn n' wr q μ).2.2 ∧ V_X4_owedInAllt (L_X8_tryTurns_4 n wr q σ).2 = R_X12_owedAll (S_X12_order_255 nn n' wr q μ).2.2
  | 0, _, wr, q, σ, μ, _, _, _, _, _, _, h, _ => absurd h (Nat.not_lt_zero _)
  | _ + 1, 0, wr, q, σ, μ, _, _, _, _, _, _, _, h => absurd h (Nat.not_lt_zero _)
  | n + 1, n' + 1, wr, q, σ, μ, hV, hL, hT, e91, ht, q0, hn, hn' => by
    rw [L_X8_tryTurns_4, S_X12_order_255, e91]
    by_cases c : nn ≤ q
    · rw [if_pos c, if_pos c]
      exact ⟨rfl, hL, q_owedAt hL⟩
    · rw [if_neg c, if_neg c]
      have tq := ht q q0 (by omega)
      rw [tq.1]
      have tk := hT (μ 31 q) tq.2.1 tq.2.2
      rw [tk.1.1, tk.1.2.1, tk.1.2.2]
      generalize μ 33 (3 * μ 31 q) = who at *
      generalize μ 33 ((3 * μ 31 q) + 1) = an at *
      generalize μ 33 ((3 * μ 31 q) + 2) = f at *
      have hp := hV.1
      have wy : R_X4_whyWrongt σ (bshl 1 who) an f = R_X12_whyOf μ 3 who an f 0 := why_eqt hV hL tk.2.1 tk.2.2.1 (fun j j0 j1 => by
        rw [hb_bit ⟨tk.2.1.1, by omega⟩ ⟨j0, by omega⟩]
        exact ⟨Or.inl, fun x => x.elim id (fun y => absurd y.1 (by decide))⟩) (fun x => absurd x (by decide))
      have wr0 : 0 ≤ R_X12_whyOf μ 3 who an f 0 := why_nn μ who an f
      unfold V_X4_tellMore F_X4_tellMore
      rw [wy]
      by_cases z : R_X12_whyOf μ 3 who an f 0 = 0
      · rw [if_pos z, if_pos z, if_pos (show R_X12_whyOf μ 3 who an f 0 ≤ 0 by omega), Int.add_zero]
        have hL2 := LC_tellt (i := σ 27 0) (li := 60) hV hL tk.2.1 tk.2.2.1 tk.2.2.2
        have fs : ∀ k : Nat, k < 67 ∨ 81 ≤ k → F_X4_tellt σ who an f (σ 27 0) k = σ k := fun k hk => fr_F_X4_tellt _ _ _ _ _ (by simp; omega)
        have fm : ∀ k : Nat, k = 2 ∨ k = 31 ∨ k = 33 → R_X12_tells μ who an f 60 k = μ k := fun k hk => fr_R_X12_tells _ _ _ _ _ (by rcases hk with e | e | e <;> subst e <;> decide)
        refine try_sim hnn n n' wr (q + 1) _ _ (VS_row hV (fun c _ c1 => fs c (by omega)) (fm 2 (by decide))) hL2 (TLS_row hT (fs 92 (by decide)) (fs 93 (by decide)) (fs 94 (by decide)) (fm 33 (by decide)) (fm 2 (by decide))) (by rw [fs 91 (by decide)]; exact e91) (by rw [fs 95 (by decide), fm 31 (by decide)]; exact ht) (by omega) (by omega) (by omega)
      · rw [if_neg z, if_neg z, if_neg (show ¬ R_X12_whyOf μ 3 who an f 0 ≤ 0 by omega)]
        exact try_sim hnn n n' (wr + 1) (q + 1) σ μ hV hL hT e91 ht (by omega) (by omega) (by omega)
