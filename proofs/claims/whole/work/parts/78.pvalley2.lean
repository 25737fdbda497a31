/-! pure: a line of a fact -/
/-- what a step leaves as it was -/
def FRM (σ σ' μ μ' : zG) : Prop := (∀ k : Nat, k ≠ 3 → σ' k = σ k) ∧ (∀ k : Nat, k ≠ 0 → μ' k = μ k) ∧ μ' 0 20 = μ 0 20
theorem num_s {σ μ : zG} {lo hi : Int} (h : LK σ μ) (hlo : 0 ≤ lo) :
    (V_X12_takes μ lo hi = 0 ∧ V_X5_stepNumber σ lo hi = -1 ∧ F_X5_stepNumber σ lo hi 3 7 = F_X12_takes μ lo hi 0 15 ∧ F_X5_stepNumber σ lo hi 3 5 = F_X12_takes μ lo hi 0 16) ∨
    (V_X12_takes μ lo hi = 1 ∧ V_X5_stepNumber σ lo hi = F_X12_takes μ lo hi 0 18 ∧ (lo ≤ F_X12_takes μ lo hi 0 18 ∧ F_X12_takes μ lo hi 0 18 ≤ hi) ∧ LK (F_X5_stepNumber σ lo hi) (F_X12_takes μ lo hi) ∧ FRM σ (F_X5_stepNumber σ lo hi) μ (F_X12_takes μ lo hi)) := by
  rcases num_sim (hi := hi) h hlo with x | ⟨a, b, c, d, e, f⟩
  · exact Or.inl x
  · refine Or.inr ⟨a, b, c, d, ?_⟩
    rw [e, f]
    exact ⟨fun k hk => st_r σ hk, fun k hk => by rw [nx_r _ hk, zu_row _ _ _ hk], by rw [nx_20, zu_off _ _ _ (by decide)]⟩
theorem name17_s {σ μ : zG} {mn : Int} (hK : KW σ μ) (h : LK σ μ) (hm : 0 ≤ mn ∧ mn ≤ 8) (hw : ∀ j : Int, 0 ≤ j → j < mn → wr (σ 17 j) (μ 5 (20 + j))) :
    (V_X12_takesName μ 20 mn = 0 ∧ V_X5_stepName_17 σ mn = -1 ∧ F_X5_stepName_17 σ mn 3 7 = F_X12_takesName μ 20 mn 0 15 ∧ F_X5_stepName_17 σ mn 3 5 = F_X12_takesName μ 20 mn 0 16) ∨
    (V_X12_takesName μ 20 mn = 1 ∧ V_X5_stepName_17 σ mn = F_X12_takesName μ 20 mn 0 18 ∧ (0 ≤ F_X12_takesName μ 20 mn 0 18 ∧ F_X12_takesName μ 20 mn 0 18 < mn) ∧ LK (F_X5_stepName_17 σ mn) (F_X12_takesName μ 20 mn) ∧ FRM σ (F_X5_stepName_17 σ mn) μ (F_X12_takesName μ 20 mn)) := by
  rcases name17_sim hK h hm hw with x | ⟨a, b, c, d, e, f, g⟩
  · exact Or.inl x
  · refine Or.inr ⟨a, by rw [d]; exact b, by rw [d]; exact c, e, ?_⟩
    rw [f, g]
    exact ⟨fun k hk => st_r σ hk, fun k hk => by rw [nx_r _ hk, zu_row _ _ _ hk], by rw [nx_20, zu_off _ _ _ (by decide)]⟩
theorem fact_sim {σ μ : zG} (hK : KW σ μ) (hP : TP σ μ) (hT : TK σ μ) (hN : NV σ μ) : SL (V_X9_takeFact σ) (V_X12_readFact μ) (F_X9_takeFact σ) (F_X12_readFact μ) := by
  have hL := LK_next hP
  have hN1 := NV_nx hN
  have hK1 : KW σ (F_X12_next μ) := KW_row hK rfl (nx_r μ (by decide))
  have hp := hN.1.1
  have hf := hN.1.2.1
  unfold V_X9_takeFact F_X9_takeFact V_X12_readFact F_X12_readFact
  rw [hp.1, hf.1]
  by_cases c : μ 3 1 = 12
  · rw [if_pos c, if_pos c, if_neg (show ¬ μ 3 1 < 12 by omega), if_neg (show ¬ μ 3 1 < 12 by omega)]
    refine Or.inl ⟨rfl, rfl, ?_, ?_⟩
    · rw [zu_at, zu_off _ _ _ (by decide), zu_at]
    · rw [zu_off _ _ _ (by decide), zu_at]; exact hT.1
  · have c' : μ 3 1 < 12 := by omega
    rw [if_neg c, if_neg c, if_pos c', if_pos c']
    rcases fresh_sim (to := 28 + μ 3 1) hK1 hL hN1.1 with ⟨a1, a2, a3, a4⟩ | ⟨a1, a2, a3, a4, a5, a6⟩
    · rw [if_pos a1, if_pos a1, if_pos a2, if_pos a2]
      exact Or.inl ⟨rfl, rfl, a3, a4⟩
    · have a1' : ¬ V_X12_fresh (F_X12_next μ) (28 + μ 3 1) = 0 := by omega
      have a2' : ¬ V_X9_takeNewName σ = 0 := by omega
      rw [if_neg a1', if_neg a1', if_neg a2', if_neg a2', a5]
      have s1 : ∀ k : Nat, k ≠ 3 → F_X5_step σ k = σ k := fun k hk => st_r σ hk
      have m2 : ∀ k : Nat, k ≠ 0 → k ≠ 5 → F_X12_fresh (F_X12_next μ) (28 + μ 3 1) k = μ k := fun k h0 h5 => by rw [a6, nx_r _ h0, zu_row _ _ _ h5, nx_r _ h0]
      have m2' : ∀ j : Int, F_X12_fresh (F_X12_next μ) (28 + μ 3 1) 5 j = if j = 28 + μ 3 1 then F_X12_next μ 0 17 else μ 5 j := fun j => by rw [a6, nx_r _ (k := 5) (by decide), zu_if, nx_r μ (k := 5) (by decide)]
      have m2'' : F_X12_fresh (F_X12_next μ) (28 + μ 3 1) 0 20 = μ 0 20 := by rw [a6, nx_20, zu_ne _ _ _ _ (by decide), nx_20]
      clear a1 a2 a1' a2' a5 a6 hL hN1 hK1
      generalize F_X12_next μ 0 17 = w at *
      generalize F_X5_step σ 3 6 = code at *
      generalize F_X12_fresh (F_X12_next μ) (28 + μ 3 1) = μ2 at *
      generalize F_X5_step σ = σ1 at *
      rcases num_s (lo := 1) (hi := 99) a4 (by decide) with ⟨b1, b2, b3, b4⟩ | ⟨b1, b2, b3, b4, b5, b6, b7⟩
      · rw [if_pos b1, if_pos b1, if_pos b2, if_pos b2]
        exact Or.inl ⟨rfl, rfl, b3, b4⟩
      · have b1' : ¬ V_X12_takes μ2 1 99 = 0 := by omega
        rw [b2]
        generalize F_X12_takes μ2 1 99 = μ3 at *
        generalize F_X5_stepNumber σ1 1 99 = σ2 at *
        generalize hv1 : μ3 0 18 = v1 at *
        have b2' : ¬ v1 = -1 := by omega
        rw [if_neg b1', if_neg b1', if_neg b2', if_neg b2']
        have d4 : LK σ2 (zu μ3 3 (8 + (3 * μ 3 1)) v1) := LK_row b4 rfl rfl rfl (zu_row _ _ _ (by decide)) (fun j _ => zu_ne _ _ _ _ (by decide))
        rcases num_s (lo := 0) (hi := 99) d4 (by decide) with ⟨e1, e2, e3, e4⟩ | ⟨e1, e2, e3, e4, e5, e6, e7⟩
        · rw [if_pos e1, if_pos e1, if_pos e2, if_pos e2]
          exact Or.inl ⟨rfl, rfl, e3, e4⟩
        · have e1' : ¬ V_X12_takes (zu μ3 3 (8 + (3 * μ 3 1)) v1) 0 99 = 0 := by omega
          rw [e2]
          generalize hμ4 : F_X12_takes (zu μ3 3 (8 + (3 * μ 3 1)) v1) 0 99 = μ4 at *
          generalize F_X5_stepNumber σ2 0 99 = σ3 at *
          generalize hv2 : μ4 0 18 = v2 at *
          have e2' : ¬ v2 = -1 := by omega
          rw [if_neg e1', if_neg e1', if_neg e2', if_neg e2']
          have g4 : LK σ3 (zu μ4 3 ((8 + (3 * μ 3 1)) + 1) v2) := LK_row e4 rfl rfl rfl (zu_row _ _ _ (by decide)) (fun j _ => zu_ne _ _ _ _ (by decide))
          have cr3 : ∀ k : Nat, k ≠ 3 → σ3 k = σ k := fun k hk => by rw [e5 k hk, b5 k hk, s1 k hk]
          have mr4 : ∀ k : Nat, k ≠ 0 → k ≠ 3 → k ≠ 5 → μ4 k = μ k := fun k h0 h3 h5 => by rw [e6 k h0, zu_row _ _ _ h3, b6 k h0, m2 k h0 h5]
          have mr45 : ∀ j : Int, μ4 5 j = if j = 28 + μ 3 1 then w else μ 5 j := fun j => by rw [e6 5 (by decide), zu_row _ _ _ (by decide), b6 5 (by decide), m2']
          have mr43 : ∀ j : Int, μ4 3 j = if j = 8 + (3 * μ 3 1) then v1 else μ 3 j := fun j => by rw [e6 3 (by decide), zu_if, b6 3 (by decide), m2 3 (by decide) (by decide)]
          have mr40 : μ4 0 20 = μ 0 20 := by rw [e7, zu_ne _ _ _ _ (by decide), b7, m2'']
          have gK : KW σ3 (zu μ4 3 ((8 + (3 * μ 3 1)) + 1) v2) := KW_row hK (cr3 4 (by decide)) (by rw [zu_row _ _ _ (by decide), mr4 6 (by decide) (by decide) (by decide)])
          rcases name17_s (mn := μ 3 0) gK g4 ⟨hp.2.1, hp.2.2⟩ (fun j j0 j1 => by rw [cr3 17 (by decide), zu_ne _ _ _ _ (by decide), mr45, if_neg (by omega)]; exact hN.1.2.2.1 j j0 j1) with ⟨i1, i2, i3, i4⟩ | ⟨i1, i2, i3, i4, i5, i6, i7⟩
          · rw [if_pos i1, if_pos i1, if_pos i2, if_pos i2]
            exact Or.inl ⟨rfl, rfl, i3, i4⟩
          · have i1' : ¬ V_X12_takesName (zu μ4 3 ((8 + (3 * μ 3 1)) + 1) v2) 20 (μ 3 0) = 0 := by omega
            rw [i2]
            generalize F_X12_takesName (zu μ4 3 ((8 + (3 * μ 3 1)) + 1) v2) 20 (μ 3 0) = μ5 at *
            generalize F_X5_stepName_17 σ3 (μ 3 0) = σ4 at *
            generalize hv3 : μ5 0 18 = v3 at *
            have i2' : ¬ v3 = -1 := by omega
            rw [if_neg i1', if_neg i1', if_neg i2', if_neg i2']
            clear i1 i1' i2 i2' e1 e1' e2 e2' b1 b1' b2 b2'
            have c4 : ∀ k : Nat, k ≠ 3 → σ4 k = σ k := fun k hk => by rw [i5 k hk, cr3 k hk]
            have m53 : ∀ j : Int, μ5 3 j = if j = (8 + (3 * μ 3 1)) + 1 then v2 else if j = 8 + (3 * μ 3 1) then v1 else μ 3 j := fun j => by rw [i6 3 (by decide), zu_if, mr43]
            have m55 : ∀ j : Int, μ5 5 j = if j = 28 + μ 3 1 then w else μ 5 j := fun j => by rw [i6 5 (by decide), zu_row _ _ _ (by decide), mr45]
            have m50 : μ5 0 20 = μ 0 20 := by rw [i7, zu_ne _ _ _ _ (by decide), mr40]
            refine Or.inr ⟨rfl, rfl, ?_, ?_⟩
            · refine LK_row i4 ?_ ?_ ?_ ?_ (fun j _ => ?_)
              · rw [zu_row _ _ _ (by decide), zu_row _ _ _ (by decide), zu_row _ _ _ (by decide), zu_row _ _ _ (by decide), zu_row _ _ _ (by decide)]
              · rw [zu_row _ _ _ (by decide), zu_row _ _ _ (by decide), zu_row _ _ _ (by decide), zu_row _ _ _ (by decide), zu_row _ _ _ (by decide)]
              · rw [zu_row _ _ _ (by decide), zu_row _ _ _ (by decide), zu_row _ _ _ (by decide), zu_row _ _ _ (by decide), zu_row _ _ _ (by decide)]
              · rw [zu_row _ _ _ (by decide), zu_row _ _ _ (by decide)]
              · rw [zu_ne _ _ _ _ (by decide), zu_ne _ _ _ _ (by decide)]
            · obtain ⟨⟨q0, q1, q2, q3⟩, qF, qK, qS, qA, qT⟩ := hN
              clear hK gK g4 d4 i4 e4 b4 a4 hP hT
              have t16 : ∀ j : Int, zu (zu (zu (zu (zu σ4 19 (μ 3 1) code) 20 (μ 3 1) v1) 21 (μ 3 1) v2) 22 (μ 3 1) v3) 16 1 (μ 3 1 + 1) 16 j = if j = 1 then μ 3 1 + 1 else σ 16 j := fun j => by rw [zu_if, zu_row _ _ _ (by decide), zu_row _ _ _ (by decide), zu_row _ _ _ (by decide), zu_row _ _ _ (by decide), c4 16 (by decide)]
              have t19 : ∀ j : Int, zu (zu (zu (zu (zu σ4 19 (μ 3 1) code) 20 (μ 3 1) v1) 21 (μ 3 1) v2) 22 (μ 3 1) v3) 16 1 (μ 3 1 + 1) 19 j = if j = μ 3 1 then code else σ 19 j := fun j => by rw [zu_row _ _ _ (by decide), zu_row _ _ _ (by decide), zu_row _ _ _ (by decide), zu_row _ _ _ (by decide), zu_if, c4 19 (by decide)]
              have t20 : ∀ j : Int, zu (zu (zu (zu (zu σ4 19 (μ 3 1) code) 20 (μ 3 1) v1) 21 (μ 3 1) v2) 22 (μ 3 1) v3) 16 1 (μ 3 1 + 1) 20 j = if j = μ 3 1 then v1 else σ 20 j := fun j => by rw [zu_row _ _ _ (by decide), zu_row _ _ _ (by decide), zu_row _ _ _ (by decide), zu_if, zu_row _ _ _ (by decide), c4 20 (by decide)]
              have t21 : ∀ j : Int, zu (zu (zu (zu (zu σ4 19 (μ 3 1) code) 20 (μ 3 1) v1) 21 (μ 3 1) v2) 22 (μ 3 1) v3) 16 1 (μ 3 1 + 1) 21 j = if j = μ 3 1 then v2 else σ 21 j := fun j => by rw [zu_row _ _ _ (by decide), zu_row _ _ _ (by decide), zu_if, zu_row _ _ _ (by decide), zu_row _ _ _ (by decide), c4 21 (by decide)]
              have t22 : ∀ j : Int, zu (zu (zu (zu (zu σ4 19 (μ 3 1) code) 20 (μ 3 1) v1) 21 (μ 3 1) v2) 22 (μ 3 1) v3) 16 1 (μ 3 1 + 1) 22 j = if j = μ 3 1 then v3 else σ 22 j := fun j => by rw [zu_row _ _ _ (by decide), zu_if, zu_row _ _ _ (by decide), zu_row _ _ _ (by decide), zu_row _ _ _ (by decide), c4 22 (by decide)]
              have tr : ∀ k : Nat, k = 17 ∨ k = 18 ∨ (23 ≤ k ∧ k < 27) → zu (zu (zu (zu (zu σ4 19 (μ 3 1) code) 20 (μ 3 1) v1) 21 (μ 3 1) v2) 22 (μ 3 1) v3) 16 1 (μ 3 1 + 1) k = σ k := fun k hk => by rw [zu_row _ _ _ (by omega), zu_row _ _ _ (by omega), zu_row _ _ _ (by omega), zu_row _ _ _ (by omega), zu_row _ _ _ (by omega), c4 k (by omega)]
              have u3 : ∀ j : Int, zu (zu μ5 3 ((8 + (3 * μ 3 1)) + 2) v3) 3 1 (μ 3 1 + 1) 3 j = if j = 1 then μ 3 1 + 1 else if j = (8 + (3 * μ 3 1)) + 2 then v3 else if j = (8 + (3 * μ 3 1)) + 1 then v2 else if j = 8 + (3 * μ 3 1) then v1 else μ 3 j := fun j => by rw [zu_if, zu_if, m53]
              have u5 : ∀ j : Int, zu (zu μ5 3 ((8 + (3 * μ 3 1)) + 2) v3) 3 1 (μ 3 1 + 1) 5 j = if j = 28 + μ 3 1 then w else μ 5 j := fun j => by rw [zu_row _ _ _ (by decide), zu_row _ _ _ (by decide), m55]
              have u0 : zu (zu μ5 3 ((8 + (3 * μ 3 1)) + 2) v3) 3 1 (μ 3 1 + 1) 0 20 = μ 0 20 := by rw [zu_row _ _ _ (by decide), zu_row _ _ _ (by decide), m50]
              generalize zu (zu (zu (zu (zu σ4 19 (μ 3 1) code) 20 (μ 3 1) v1) 21 (μ 3 1) v2) 22 (μ 3 1) v3) 16 1 (μ 3 1 + 1) = τ at *
              generalize zu (zu μ5 3 ((8 + (3 * μ 3 1)) + 2) v3) 3 1 (μ 3 1 + 1) = ν at *
              have n1 : ν 3 1 = μ 3 1 + 1 := by rw [u3, if_pos rfl]
              have nj : ∀ j : Int, j ≠ 1 → (j < 8 + (3 * μ 3 1) ∨ (8 + (3 * μ 3 1)) + 2 < j) → ν 3 j = μ 3 j := fun j h1 h2 => by rw [u3, if_neg h1, if_neg (by omega), if_neg (by omega), if_neg (by omega)]
              refine ⟨⟨?_, ?_, fun j j0 j1 => ?_, fun j j0 j1 => ?_⟩, fun f f0 f1 => ?_, fun a a0 a8 => ?_, ⟨?_, fun i i0 i1 => ?_⟩, fun j j0 j1 => ?_, ⟨fun w w0 w1 => ?_, ?_, ?_, ?_⟩⟩
              · rw [t16, if_neg (by decide), nj 0 (by decide) (by omega)]; exact q0
              · rw [t16, if_pos rfl, n1]; omega
              · rw [nj 0 (by decide) (by omega)] at j1
                rw [tr 17 (by decide), u5, if_neg (by omega)]
                exact q2 j j0 j1
              · rw [n1] at j1
                rw [t19, u5]
                by_cases e : j = μ 3 1
                · rw [if_pos e, if_pos (by omega)]; exact a3
                · rw [if_neg e, if_neg (by omega)]; exact q3 j j0 (by omega)
              · rw [n1] at f1
                rw [t20, t21, t22, nj 0 (by decide) (by omega)]
                by_cases e : f = μ 3 1
                · have k1 : ν 3 (8 + (3 * f)) = v1 := by rw [e, u3, if_neg (by omega), if_neg (by omega), if_neg (by omega), if_pos rfl]
                  have k2 : ν 3 ((8 + (3 * f)) + 1) = v2 := by rw [e, u3, if_neg (by omega), if_neg (by omega), if_pos rfl]
                  have k3 : ν 3 ((8 + (3 * f)) + 2) = v3 := by rw [e, u3, if_neg (by omega), if_pos rfl]
                  rw [if_pos e, if_pos e, if_pos e, k1, k2, k3]
                  exact ⟨⟨rfl, rfl, rfl⟩, b3, e3, i3⟩
                · rw [if_neg e, if_neg e, if_neg e, nj (8 + (3 * f)) (by omega) (by omega), nj ((8 + (3 * f)) + 1) (by omega) (by omega), nj ((8 + (3 * f)) + 2) (by omega) (by omega)]
                  exact qF f f0 (by omega)
              · have := qK a a0 a8
                rw [tr 18 (by decide), nj (44 + a) (by omega) (by omega), nj 0 (by decide) (by omega), n1]
                exact ⟨this.1, this.2.1, fun i i0 i1 => this.2.2.1 i (by omega) i1, this.2.2.2⟩
              · rw [t16, if_neg (by decide), nj 2 (by decide) (by omega)]; exact qS.1
              · rw [nj 2 (by decide) (by omega)] at i1
                have := qS.2 i i0 i1
                have qs := qS.1
                rw [tr 23 (by decide), tr 24 (by decide), n1, nj (52 + (3 * i)) (by omega) (by omega), nj ((52 + (3 * i)) + 1) (by omega) (by omega), nj ((52 + (3 * i)) + 2) (by omega) (by omega)]
                exact ⟨⟨this.1.1, by have := this.1.2; omega⟩, ⟨this.2.1.1, by have := this.2.1.2; omega⟩, ⟨this.2.2.1.1, by have := this.2.2.1.2; omega⟩, this.2.2.2⟩
              · rw [tr 25 (by decide), nj (76 + j) (by omega) (by omega)]; exact qA j j0 j1
              · have := qT.1 w w0 w1
                rw [tr 26 (by decide), t16, if_neg (by decide), nj (3 + w) (by omega) (by omega), u0]; exact this
              · rw [t16, if_neg (by decide)]; exact qT.2.1
              · rw [u0]; exact qT.2.2.1
              · rw [nj 3 (by decide) (by omega), nj 4 (by decide) (by omega), nj 5 (by decide) (by omega), nj 6 (by decide) (by omega), nj 7 (by decide) (by omega)]; exact qT.2.2.2
