/-! pure: lines of knowing and of asking -/
theorem name19_h {σ μ : zG} {mn : Int} (hK : KW σ μ) (h : LK σ μ) (hm : 0 ≤ mn ∧ mn ≤ 12) (hw : ∀ j : Int, 0 ≤ j → j < mn → wr (σ 19 j) (μ 5 (28 + j))) :
    (R_X12_isName μ = 0 ∧ V_X5_stepName_19 σ mn = -1 ∧ F_X5_stepName_19 σ mn 3 7 = 1 ∧ F_X5_stepName_19 σ mn 3 5 = μ 0 12) ∨
    (R_X12_isName μ ≠ 0 ∧ R_X12_find μ 28 mn < 0 ∧ V_X5_stepName_19 σ mn = -1 ∧ F_X5_stepName_19 σ mn 3 7 = 3 ∧ F_X5_stepName_19 σ mn 3 5 = μ 0 12) ∨
    (R_X12_isName μ ≠ 0 ∧ (0 ≤ R_X12_find μ 28 mn ∧ R_X12_find μ 28 mn < mn) ∧ V_X5_stepName_19 σ mn = R_X12_find μ 28 mn ∧ F_X5_stepName_19 σ mn = F_X5_step σ) := by
  have hr : F_X5_step σ 19 = σ 19 := fr_F_X5_step σ (by decide)
  have hK2 : KW (F_X5_step σ) μ := by unfold KW at *; rw [fr_F_X5_step σ (by decide)]; exact hK
  unfold V_X5_stepName_19 F_X5_stepName_19
  rcases nm19 hK2 h.2 hm (by rw [hr]; exact hw) with ⟨a, b⟩ | ⟨a, b, c, d, e⟩
  · rw [if_pos a, if_pos a, zu_at, zu_off _ _ _ (by decide)]
    exact Or.inl ⟨b, rfl, rfl, h.2.1⟩
  · rw [if_neg a, if_neg a, c]
    rcases d with d | d
    · rw [if_pos d, zu_at, zu_off _ _ _ (by decide)]
      exact Or.inr (Or.inl ⟨b, by omega, d, rfl, h.2.1⟩)
    · rw [if_neg (show ¬ R_X12_find μ 28 mn = -1 by omega)]
      exact Or.inr (Or.inr ⟨b, d, rfl, rfl⟩)
theorem knows_sim {σ μ : zG} (hK : KW σ μ) (hP : TP σ μ) (hN : NV σ μ) : SL (V_X9_takeKnows σ) (V_X12_readKnows μ) (F_X9_takeKnows σ) (F_X12_readKnows μ) := by
  have hL := LK_next hP
  have hK1 : KW σ (F_X12_next μ) := KW_row hK rfl (nx_r μ (by decide))
  have hp := hN.1.1
  have hf := hN.1.2.1
  have r3 : F_X12_next μ 3 = μ 3 := nx_r μ (by decide)
  have r5 : F_X12_next μ 5 = μ 5 := nx_r μ (by decide)
  unfold V_X9_takeKnows F_X9_takeKnows V_X12_readKnows F_X12_readKnows
  rw [hp.1, hf.1]
  rcases name17_s (mn := μ 3 0) hK1 hL ⟨hp.2.1, hp.2.2⟩ (by rw [r5]; exact hN.1.2.2.1) with ⟨i1, i2, i3, i4⟩ | ⟨i1, i2, i3, i4, i5, i6, i7⟩
  · rw [if_pos i1, if_pos i1, if_pos i2, if_pos i2]
    exact Or.inl ⟨rfl, rfl, i3, i4⟩
  · have i1' : ¬ V_X12_takesName (F_X12_next μ) 20 (μ 3 0) = 0 := by omega
    rw [i2]
    have c1 : ∀ k : Nat, k ≠ 3 → F_X5_stepName_17 σ (μ 3 0) k = σ k := i5
    have m1 : ∀ k : Nat, k ≠ 0 → F_X12_takesName (F_X12_next μ) 20 (μ 3 0) k = μ k := fun k hk => by rw [i6 k hk, nx_r μ hk]
    have m0 : F_X12_takesName (F_X12_next μ) 20 (μ 3 0) 0 20 = μ 0 20 := by rw [i7, nx_20]
    generalize F_X12_takesName (F_X12_next μ) 20 (μ 3 0) = μ1 at *
    generalize F_X5_stepName_17 σ (μ 3 0) = σ1 at *
    generalize hv : μ1 0 18 = a at *
    have i2' : ¬ a = -1 := by omega
    rw [if_neg i1', if_neg i1', if_neg i2', if_neg i2']
    have gK : KW σ1 μ1 := KW_row hK (c1 4 (by decide)) (m1 6 (by decide))
    have e15 : ∀ x : Int, zu (zu μ1 0 15 x) 0 16 (μ1 0 12) 0 15 = x := fun x => by rw [zu_off _ _ _ (by decide), zu_at]
    rcases name19_h (mn := μ 3 1) gK i4 ⟨hf.2.1, hf.2.2⟩ (by rw [c1 19 (by decide), m1 5 (by decide)]; exact hN.1.2.2.2) with ⟨j1, j2, j3, j4⟩ | ⟨j1, j2, j3, j4, j5⟩ | ⟨j1, j2, j3, j4⟩
    · rw [if_pos j1, if_pos j1, if_pos j2, if_pos j2]
      exact Or.inl ⟨rfl, rfl, by rw [j3, e15], by rw [j4, zu_at]⟩
    · rw [if_neg j1, if_neg j1, if_pos j2, if_pos j2, if_pos j3, if_pos j3]
      exact Or.inl ⟨rfl, rfl, by rw [j4, e15], by rw [j5, zu_at]⟩
    · rw [j3, j4]
      generalize R_X12_find μ1 28 (μ 3 1) = f at *
      have j2' : ¬ f < 0 := by omega
      have j3' : ¬ f = -1 := by omega
      have q := hN.2.2.1 a i3.1 (by omega)
      rw [if_neg j1, if_neg j1, if_neg j2', if_neg j2', if_neg j3', if_neg j3', q.1]
      by_cases k : hb (μ 3 (44 + a)) f
      · rw [if_pos k, if_pos k, if_pos k]
        exact Or.inl ⟨rfl, rfl, by rw [zu_at, e15], by rw [zu_off _ _ _ (by decide), zu_at]; exact i4.2.1⟩
      · rw [if_neg k, if_neg k, if_neg k]
        refine Or.inr ⟨rfl, rfl, ?_, ?_⟩
        · refine LK_next (TP_row i4.1 (zu_row _ _ _ (by decide)) (zu_row _ _ _ (by decide)) (zu_ne _ _ _ _ (by decide)) (zu_ne _ _ _ _ (by decide)) (zu_row _ _ _ (by decide)) (zu_ne _ _ _ _ (by decide)) (zu_ne _ _ _ _ (by decide)) (zu_ne _ _ _ _ (by decide)))
        · obtain ⟨⟨q0, q1, q2, q3⟩, qF, qK, qS, qA, qT⟩ := hN
          have rb := bit_r (c := f) ⟨j2.1, by omega⟩
          have rn := bor_r q.2.1 rb
          have t18 : ∀ j : Int, zu (F_X5_step σ1) 18 a (bor (μ 3 (44 + a)) (bshl 1 f)) 18 j = if j = a then bor (μ 3 (44 + a)) (bshl 1 f) else σ 18 j := fun j => by rw [zu_if, st_r _ (by decide), c1 18 (by decide)]
          have tr : ∀ k : Nat, k ≠ 3 → k ≠ 18 → zu (F_X5_step σ1) 18 a (bor (μ 3 (44 + a)) (bshl 1 f)) k = σ k := fun k h3 h18 => by rw [zu_row _ _ _ h18, st_r _ h3, c1 k h3]
          have u3 : ∀ j : Int, F_X12_next (zu μ1 3 (44 + a) (bor (μ 3 (44 + a)) (bshl 1 f))) 3 j = if j = 44 + a then bor (μ 3 (44 + a)) (bshl 1 f) else μ 3 j := fun j => by rw [nx_r _ (k := 3) (by decide), zu_if, m1 3 (by decide)]
          have u5 : F_X12_next (zu μ1 3 (44 + a) (bor (μ 3 (44 + a)) (bshl 1 f))) 5 = μ 5 := by rw [nx_r _ (k := 5) (by decide), zu_row _ _ _ (by decide), m1 5 (by decide)]
          have u0 : F_X12_next (zu μ1 3 (44 + a) (bor (μ 3 (44 + a)) (bshl 1 f))) 0 20 = μ 0 20 := by rw [nx_20, zu_ne _ _ _ _ (by decide), m0]
          have hbn : ∀ i : Int, μ 3 1 ≤ i → i < 12 → ¬ hb (bor (μ 3 (44 + a)) (bshl 1 f)) i := fun i i0 i1 => by
            rw [hb_bor q.2.1 rb ⟨by omega, by omega⟩, hb_bit ⟨j2.1, by omega⟩ ⟨by omega, by omega⟩]
            rintro (x | x)
            · exact q.2.2.1 i i0 i1 x
            · omega
          generalize bor (μ 3 (44 + a)) (bshl 1 f) = nb at *
          generalize zu (F_X5_step σ1) 18 a nb = τ at *
          generalize F_X12_next (zu μ1 3 (44 + a) nb) = ν at *
          have nj : ∀ j : Int, j ≠ 44 + a → ν 3 j = μ 3 j := fun j hj => by rw [u3, if_neg hj]
          refine ⟨⟨?_, ?_, fun j j0 j1 => ?_, fun j j0 j1 => ?_⟩, fun f f0 f1 => ?_, fun b b0 b8 => ?_, ⟨?_, fun i i0 i1 => ?_⟩, fun j j0 j1 => ?_, ⟨fun w w0 w1 => ?_, ?_, ?_, ?_⟩⟩
          · rw [tr 16 (by decide) (by decide), nj 0 (by omega)]; exact q0
          · rw [tr 16 (by decide) (by decide), nj 1 (by omega)]; exact q1
          · rw [nj 0 (by omega)] at j1
            rw [tr 17 (by decide) (by decide), u5]; exact q2 j j0 j1
          · rw [nj 1 (by omega)] at j1
            rw [tr 19 (by decide) (by decide), u5]; exact q3 j j0 j1
          · rw [nj 1 (by omega)] at f1
            rw [tr 20 (by decide) (by decide), tr 21 (by decide) (by decide), tr 22 (by decide) (by decide), nj (8 + (3 * f)) (by omega), nj ((8 + (3 * f)) + 1) (by omega), nj ((8 + (3 * f)) + 2) (by omega), nj 0 (by omega)]
            exact qF f f0 f1
          · rw [t18, u3, nj 0 (by omega), nj 1 (by omega)]
            by_cases e : b = a
            · rw [if_pos e, if_pos (by omega)]
              exact ⟨rfl, rn, hbn, fun x => absurd x (by omega)⟩
            · rw [if_neg e, if_neg (by omega)]; exact qK b b0 b8
          · rw [tr 16 (by decide) (by decide), nj 2 (by omega)]; exact qS.1
          · rw [nj 2 (by omega)] at i1
            have qs := qS.1
            rw [tr 23 (by decide) (by decide), tr 24 (by decide) (by decide), nj 1 (by omega), nj (52 + (3 * i)) (by omega), nj ((52 + (3 * i)) + 1) (by omega), nj ((52 + (3 * i)) + 2) (by omega)]
            exact qS.2 i i0 i1
          · rw [tr 25 (by decide) (by decide), nj (76 + j) (by omega)]; exact qA j j0 j1
          · rw [tr 26 (by decide) (by decide), tr 16 (by decide) (by decide), nj (3 + w) (by omega), u0]; exact qT.1 w w0 w1
          · rw [tr 16 (by decide) (by decide)]; exact qT.2.1
          · rw [u0]; exact qT.2.2.1
          · rw [nj 3 (by omega), nj 4 (by omega), nj 5 (by omega), nj 6 (by omega), nj 7 (by omega)]; exact qT.2.2.2
theorem asks_sim {σ μ : zG} (hK : KW σ μ) (hP : TP σ μ) (hN : NV σ μ) : SL (V_X9_takeAsks σ) (V_X12_readAsks μ) (F_X9_takeAsks σ) (F_X12_readAsks μ) := by
  have hL := LK_next hP
  have hK1 : KW σ (F_X12_next μ) := KW_row hK rfl (nx_r μ (by decide))
  have hp := hN.1.1
  have hf := hN.1.2.1
  have r3 : F_X12_next μ 3 = μ 3 := nx_r μ (by decide)
  have r5 : F_X12_next μ 5 = μ 5 := nx_r μ (by decide)
  unfold V_X9_takeAsks F_X9_takeAsks V_X12_readAsks F_X12_readAsks
  rw [hp.1, hf.1]
  rcases name17_s (mn := μ 3 0) hK1 hL ⟨hp.2.1, hp.2.2⟩ (by rw [r5]; exact hN.1.2.2.1) with ⟨i1, i2, i3, i4⟩ | ⟨i1, i2, i3, i4, i5, i6, i7⟩
  · rw [if_pos i1, if_pos i1, if_pos i2, if_pos i2]
    exact Or.inl ⟨rfl, rfl, i3, i4⟩
  · have i1' : ¬ V_X12_takesName (F_X12_next μ) 20 (μ 3 0) = 0 := by omega
    rw [i2]
    have c1 : ∀ k : Nat, k ≠ 3 → F_X5_stepName_17 σ (μ 3 0) k = σ k := i5
    have m1 : ∀ k : Nat, k ≠ 0 → F_X12_takesName (F_X12_next μ) 20 (μ 3 0) k = μ k := fun k hk => by rw [i6 k hk, nx_r μ hk]
    have m0 : F_X12_takesName (F_X12_next μ) 20 (μ 3 0) 0 20 = μ 0 20 := by rw [i7, nx_20]
    generalize F_X12_takesName (F_X12_next μ) 20 (μ 3 0) = μ1 at *
    generalize F_X5_stepName_17 σ (μ 3 0) = σ1 at *
    generalize hv : μ1 0 18 = a at *
    have i2' : ¬ a = -1 := by omega
    rw [if_neg i1', if_neg i1', if_neg i2', if_neg i2']
    have gK : KW σ1 μ1 := KW_row hK (c1 4 (by decide)) (m1 6 (by decide))
    have e15 : ∀ x : Int, zu (zu μ1 0 15 x) 0 16 (μ1 0 12) 0 15 = x := fun x => by rw [zu_off _ _ _ (by decide), zu_at]
    rcases name19_h (mn := μ 3 1) gK i4 ⟨hf.2.1, hf.2.2⟩ (by rw [c1 19 (by decide), m1 5 (by decide)]; exact hN.1.2.2.2) with ⟨j1, j2, j3, j4⟩ | ⟨j1, j2, j3, j4, j5⟩ | ⟨j1, j2, j3, j4⟩
    · rw [if_pos j1, if_pos j1, if_pos j2, if_pos j2]
      exact Or.inl ⟨rfl, rfl, by rw [j3, e15], by rw [j4, zu_at]⟩
    · rw [if_neg j1, if_neg j1, if_pos j2, if_pos j2, if_pos j3, if_pos j3]
      exact Or.inl ⟨rfl, rfl, by rw [j4, e15], by rw [j5, zu_at]⟩
    · rw [j3, j4]
      generalize R_X12_find μ1 28 (μ 3 1) = f at *
      have j2' : ¬ f < 0 := by omega
      have j3' : ¬ f = -1 := by omega
      have ej : (76 + (12 * a)) + f = 76 + ((a * 12) + f) := by omega
      have q := hN.2.2.2.2.1 ((a * 12) + f) (by omega) (by omega)
      rw [if_neg j1, if_neg j1, if_neg j2', if_neg j2', if_neg j3', if_neg j3', ej]
      by_cases k : μ 3 (76 + ((a * 12) + f)) ≤ 0
      · have k' : σ 25 ((a * 12) + f) = -1 := by omega
        rw [if_pos k, if_pos k, if_pos k', if_pos k']
        rcases num_s (lo := 0) (hi := 99) (LK_next i4.1) (by decide) with ⟨b1, b2, b3, b4⟩ | ⟨b1, b2, b3, b4, b5, b6, b7⟩
        · rw [if_pos b1, if_pos b1, if_pos b2, if_pos b2]
          exact Or.inl ⟨rfl, rfl, b3, b4⟩
        · have b1' : ¬ V_X12_takes (F_X12_next μ1) 0 99 = 0 := by omega
          rw [b2]
          have c2 : ∀ k : Nat, k ≠ 3 → F_X5_stepNumber (F_X5_step σ1) 0 99 k = σ k := fun k hk => by rw [b5 k hk, st_r _ hk, c1 k hk]
          have n2 : ∀ k : Nat, k ≠ 0 → F_X12_takes (F_X12_next μ1) 0 99 k = μ k := fun k hk => by rw [b6 k hk, nx_r _ hk, m1 k hk]
          have n0 : F_X12_takes (F_X12_next μ1) 0 99 0 20 = μ 0 20 := by rw [b7, nx_20, m0]
          generalize F_X12_takes (F_X12_next μ1) 0 99 = μ2 at *
          generalize F_X5_stepNumber (F_X5_step σ1) 0 99 = σ2 at *
          generalize hv1 : μ2 0 18 = v at *
          have b2' : ¬ v = -1 := by omega
          rw [if_neg b1', if_neg b1', if_neg b2', if_neg b2', w32_id (z := v + 1) ⟨by omega, by omega⟩]
          refine Or.inr ⟨rfl, rfl, ?_, ?_⟩
          · exact LK_row b4 (zu_row _ _ _ (by decide)) (zu_row _ _ _ (by decide)) (zu_row _ _ _ (by decide)) (zu_row _ _ _ (by decide)) (fun j _ => zu_ne _ _ _ _ (by decide))
          · obtain ⟨⟨q0, q1, q2, q3⟩, qF, qK, qS, qA, qT⟩ := hN
            generalize hjj : (a * 12) + f = jj at *
            have jr : 0 ≤ jj ∧ jj < 96 := by omega
            have t25 : ∀ j : Int, zu σ2 25 jj v 25 j = if j = jj then v else σ 25 j := fun j => by rw [zu_if, c2 25 (by decide)]
            have tr : ∀ k : Nat, k ≠ 3 → k ≠ 25 → zu σ2 25 jj v k = σ k := fun k h3 h25 => by rw [zu_row _ _ _ h25, c2 k h3]
            have u3 : ∀ j : Int, zu μ2 3 (76 + jj) (v + 1) 3 j = if j = 76 + jj then v + 1 else μ 3 j := fun j => by rw [zu_if, n2 3 (by decide)]
            have u5 : zu μ2 3 (76 + jj) (v + 1) 5 = μ 5 := by rw [zu_row _ _ _ (by decide), n2 5 (by decide)]
            have u0 : zu μ2 3 (76 + jj) (v + 1) 0 20 = μ 0 20 := by rw [zu_ne _ _ _ _ (by decide), n0]
            generalize zu σ2 25 jj v = τ at *
            generalize zu μ2 3 (76 + jj) (v + 1) = ν at *
            have nj : ∀ j : Int, j < 76 → ν 3 j = μ 3 j := fun j hj => by rw [u3, if_neg (by omega)]
            refine ⟨⟨?_, ?_, fun j j0 j1 => ?_, fun j j0 j1 => ?_⟩, fun f f0 f1 => ?_, fun b b0 b8 => ?_, ⟨?_, fun i i0 i1 => ?_⟩, fun j j0 j1 => ?_, ⟨fun w w0 w1 => ?_, ?_, ?_, ?_⟩⟩
            · rw [tr 16 (by decide) (by decide), nj 0 (by omega)]; exact q0
            · rw [tr 16 (by decide) (by decide), nj 1 (by omega)]; exact q1
            · rw [nj 0 (by omega)] at j1
              rw [tr 17 (by decide) (by decide), u5]; exact q2 j j0 j1
            · rw [nj 1 (by omega)] at j1
              rw [tr 19 (by decide) (by decide), u5]; exact q3 j j0 j1
            · rw [nj 1 (by omega)] at f1
              rw [tr 20 (by decide) (by decide), tr 21 (by decide) (by decide), tr 22 (by decide) (by decide), nj (8 + (3 * f)) (by omega), nj ((8 + (3 * f)) + 1) (by omega), nj ((8 + (3 * f)) + 2) (by omega), nj 0 (by omega)]
              exact qF f f0 f1
            · rw [tr 18 (by decide) (by decide), nj (44 + b) (by omega), nj 0 (by omega), nj 1 (by omega)]; exact qK b b0 b8
            · rw [tr 16 (by decide) (by decide), nj 2 (by omega)]; exact qS.1
            · rw [nj 2 (by omega)] at i1
              have qs := qS.1
              rw [tr 23 (by decide) (by decide), tr 24 (by decide) (by decide), nj 1 (by omega), nj (52 + (3 * i)) (by omega), nj ((52 + (3 * i)) + 1) (by omega), nj ((52 + (3 * i)) + 2) (by omega)]
              exact qS.2 i i0 i1
            · rw [t25, u3]
              by_cases e : j = jj
              · rw [if_pos e, if_pos (by omega)]; omega
              · rw [if_neg e, if_neg (by omega)]; exact qA j j0 j1
            · rw [tr 26 (by decide) (by decide), tr 16 (by decide) (by decide), nj (3 + w) (by omega), u0]; exact qT.1 w w0 w1
            · rw [tr 16 (by decide) (by decide)]; exact qT.2.1
            · rw [u0]; exact qT.2.2.1
            · rw [nj 3 (by omega), nj 4 (by omega), nj 5 (by omega), nj 6 (by omega), nj 7 (by omega)]; exact qT.2.2.2
      · have k' : ¬ σ 25 ((a * 12) + f) = -1 := by omega
        rw [if_neg k, if_neg k, if_neg k', if_neg k']
        exact Or.inl ⟨rfl, rfl, by rw [zu_at, e15], by rw [zu_off _ _ _ (by decide), zu_at]; exact i4.2.1⟩
