/-! pure: the answers out of the book -/
/-- the judged book of the class beside a run of the model -/
def QR (σ μ : zG) : Prop := VS σ μ ∧ BK σ μ ∧ LR (μ 2 172) σ μ ∧ σ 27 1 = (if μ 2 172 = 0 then 0 else σ 34 (μ 2 172 - 1)) ∧ (∀ i j : Int, 0 ≤ i → i ≤ j → j < μ 2 172 → σ 34 i ≤ σ 34 j) ∧ (∀ i : Int, 0 ≤ i → i < μ 2 172 → 0 ≤ σ 34 i ∧ σ 34 i ≤ 999) ∧ ∀ a : Int, μ 2 0 ≤ a → a < 8 → μ 13 a = 0
def ssum (g : Int → Int) : Nat → Int
  | 0 => 0
  | n + 1 => ssum g n + g n
theorem ssum_s (g : Int → Int) {q : Int} (h : 0 ≤ q) : ssum g (q + 1).toNat = ssum g q.toNat + g q := by
  rw [show (q + 1).toNat = q.toNat + 1 by omega, ssum, show ((q.toNat : Nat) : Int) = q by omega]
theorem ssum_c {g g' : Int → Int} : ∀ n : Nat, (∀ d : Int, 0 ≤ d → d < n → g d = g' d) → ssum g n = ssum g' n
  | 0, _ => rfl
  | n + 1, h => by
    rw [ssum, ssum, ssum_c n (fun d d0 d1 => h d d0 (by omega)), h n (by omega) (by omega)]
theorem ssum_a (g g' : Int → Int) : ∀ n : Nat, ssum (fun d => g d + g' d) n = ssum g n + ssum g' n
  | 0 => rfl
  | n + 1 => by
    rw [ssum, ssum, ssum, ssum_a g g' n]
    omega
theorem ssum_r {g : Int → Int} : ∀ n : Nat, (∀ d : Int, 0 ≤ d → d < n → -3168 ≤ g d ∧ g d ≤ 3168) → -3168 * (n : Int) ≤ ssum g n ∧ ssum g n ≤ 3168 * (n : Int)
  | 0, _ => ⟨Int.le_refl _, Int.le_refl _⟩
  | n + 1, h => by
    have h1 := ssum_r n (fun d d0 d1 => h d d0 (by omega))
    have h2 := h n (by omega) (by omega)
    rw [ssum]
    omega
theorem owed_ssum (μ : zG) (hm : μ 0 43 ≤ 128) (hr : ∀ d : Int, 0 ≤ d → d < μ 0 43 → -3168 ≤ μ 20 d ∧ μ 20 d ≤ 3168) : ∀ (n : Nat) (sm q : Int), 0 ≤ q → q ≤ μ 0 43 → (μ 0 43 - q).toNat < n → -3168 * q ≤ sm → sm ≤ 3168 * q → L_X12_owedAll_4 μ n sm q = sm + (ssum (μ 20) (μ 0 43).toNat - ssum (μ 20) q.toNat)
  | 0, sm, q, _, _, h, _, _ => absurd h (Nat.not_lt_zero _)
  | n + 1, sm, q, h0, hq, h, l, u => by
    rw [L_X12_owedAll_4]
    split
    · next c =>
      rw [show μ 0 43 = q by omega]
      omega
    · next c =>
      have h2 := hr q h0 (by omega)
      rw [w32_id ⟨by omega, by omega⟩, owed_ssum μ hm hr n _ _ (by omega) (by omega) (by omega) (by omega) (by omega), ssum_s _ h0]
      omega
theorem owed_val (μ : zG) (h0 : 0 ≤ μ 0 43) (hm : μ 0 43 ≤ 128) (hr : ∀ d : Int, 0 ≤ d → d < μ 0 43 → -3168 ≤ μ 20 d ∧ μ 20 d ≤ 3168) : R_X12_owedAll μ = ssum (μ 20) (μ 0 43).toNat := by
  unfold R_X12_owedAll
  rw [owed_ssum μ hm hr 500 0 0 (by decide) h0 (by omega) (by decide) (by decide)]
  show 0 + (ssum (μ 20) (μ 0 43).toNat - 0) = _
  omega
theorem q_owed {σ μ : zG} (hL : LC σ μ) : ∀ (n n' : Nat) (sm d : Int), 0 ≤ d → (μ 0 43 - d).toNat < n → (μ 0 43 - d).toNat < n' → L_X4_sumInAll_4z σ n sm d = L_X12_owedAll_4 μ n' sm d
  | 0, _, sm, d, _, h, _ => absurd h (Nat.not_lt_zero _)
  | _ + 1, 0, sm, d, _, _, h => absurd h (Nat.not_lt_zero _)
  | n + 1, n' + 1, sm, d, h0, hm, hm' => by
    rw [L_X4_sumInAll_4z, L_X12_owedAll_4, hL.2.2.1.1]
    split
    · rfl
    · next c =>
      rw [(hL.2.2.2 d h0 (by omega)).1.2.2.2]
      exact q_owed hL n n' _ _ (by omega) (by omega) (by omega)
theorem q_owedA {σ μ : zG} (hL : LC σ μ) : V_X4_owedInAll σ = R_X12_owedAll μ := by
  have := hL.2.2.1
  unfold V_X4_owedInAll R_X4_sumInAllz R_X12_owedAll
  exact q_owed hL _ _ _ _ (by decide) (by omega) (by omega)
theorem q_owedt {σ μ : zG} (hL : LCt σ μ) : ∀ (n n' : Nat) (sm d : Int), 0 ≤ d → (μ 0 43 - d).toNat < n → (μ 0 43 - d).toNat < n' → L_X4_sumInAll_4zt σ n sm d = L_X12_owedAll_4 μ n' sm d
  | 0, _, sm, d, _, h, _ => absurd h (Nat.not_lt_zero _)
  | _ + 1, 0, sm, d, _, _, h => absurd h (Nat.not_lt_zero _)
  | n + 1, n' + 1, sm, d, h0, hm, hm' => by
    rw [L_X4_sumInAll_4zt, L_X12_owedAll_4, hL.2.2.1.1]
    split
    · rfl
    · next c =>
      rw [(hL.2.2.2 d h0 (by omega)).1.2.2.2]
      exact q_owedt hL n n' _ _ (by omega) (by omega) (by omega)
theorem q_owedAt {σ μ : zG} (hL : LCt σ μ) : V_X4_owedInAllt σ = R_X12_owedAll μ := by
  have := hL.2.2.1
  unfold V_X4_owedInAllt R_X4_sumInAllzt R_X12_owedAll
  exact q_owedt hL _ _ _ _ (by decide) (by omega) (by omega)
theorem sum_0 (σ : zG) : ∀ (n : Nat) (sm d : Int), L_X4_sumInAll_4 σ 0 n sm d = L_X4_sumInAll_4z σ n sm d
  | 0, _, _ => rfl
  | n + 1, sm, d => by
    rw [L_X4_sumInAll_4, L_X4_sumInAll_4z, if_pos rfl, sum_0 σ n]
theorem q_late {σ μ : zG} (hQ : QR σ μ) {d : Int} (h0 : 0 ≤ d) (h1 : d < μ 0 43) : V_X4_isLate σ d = V_X12_isLate μ d := by
  obtain ⟨hV, hB, ⟨hC, hX, hP, hW, h44⟩, hl, _⟩ := hQ
  have hx := hX.1 d h0 h1
  unfold V_X4_isLate V_X4_dayOf V_X12_isLate
  rw [hx.2.2.1.1, hx.2.1.1, hB.1.1, hV.2.2.2.1.1, hx.2.2.2.2.1, hl, h44]
  by_cases e : μ 20 d = 0
  · have e2 := hx.2.2.2.2.2.1.mp e
    rw [if_pos e, if_pos ⟨e2, hx.2.2.1.2.2⟩, hx.2.2.2.2.2.2 e2]
  · rw [if_neg e, if_neg (fun c => e (hx.2.2.2.2.2.1.mpr c.1))]
theorem q_sum {σ μ : zG} (hQ : QR σ μ) {wh : Int} (hw : wh = 1 ∨ wh = 2 ∨ wh = 3) : ∀ (n n' : Nat) (sm d : Int), 0 ≤ d → (μ 0 43 - d).toNat < n → (μ 0 43 - d).toNat < n' → L_X4_sumInAll_4 σ wh n sm d = (L_X12_autumn_84 wh n' sm d μ).1
  | 0, _, sm, d, _, h, _ => absurd h (Nat.not_lt_zero _)
  | _ + 1, 0, sm, d, _, _, h => absurd h (Nat.not_lt_zero _)
  | n + 1, n' + 1, sm, d, h0, hm, hm' => by
    have hC := hQ.2.2.1.1
    rw [L_X4_sumInAll_4, L_X12_autumn_84, hC.2.2.1.1]
    by_cases c : μ 0 43 ≤ d
    · rw [if_pos c, if_pos c]
    · rw [if_neg c, if_neg c]
      have h1 := (hC.2.2.2 d h0 (by omega)).1.2.2.2
      have h2 := q_late hQ h0 (by omega)
      have h3 := ((hQ.2.2.1.2.1).1 d h0 (by omega)).2.2.2.1.1
      have ih := fun s => q_sum hQ hw n n' s (d + 1) (by omega) (by omega) (by omega)
      rw [if_neg (show ¬ wh = 0 by omega), if_neg (show ¬ wh = 4 by omega), h1, h2, h3]
      by_cases w1 : wh = 1
      · rw [if_pos w1, if_pos w1]
        split <;> exact ih _
      · rw [if_neg w1, if_neg w1]
        by_cases w2 : wh = 2
        · rw [if_pos w2, if_pos w2]
          split <;> exact ih _
        · rw [if_neg w2, if_neg w2, if_pos (show wh = 3 by omega)]
          exact ih _
theorem hurt_t {σ μ : zG} (hQ : QR σ μ) : ∀ (n : Nat) (sm q : Int), μ 2 0 ≤ q → 0 ≤ q → w32 sm = sm → (S_X12_autumn_56 4 n sm q μ).1 = sm
  | 0, sm, q, _, _, _ => rfl
  | n + 1, sm, q, h, h0, hs => by
    rw [S_X12_autumn_56]
    by_cases c : 8 ≤ q
    · rw [if_pos c]
    · rw [if_neg c, if_pos rfl, hQ.2.2.2.2.2.2 q h (by omega), Int.add_zero, hs]
      exact hurt_t hQ n sm (q + 1) (by omega) (by omega) hs
theorem aut56_s (i : Int) : ∀ (n : Nat) (sm q : Int) (μ : zG), (S_X12_autumn_56 i n sm q μ).2.2 = μ
  | 0, sm, q, μ => rfl
  | n + 1, sm, q, μ => by
    rw [S_X12_autumn_56]
    split
    · rfl
    · split
      · exact aut56_s i n _ _ μ
      · rfl
theorem aut56_n {i : Int} (h : i ≠ 4) : ∀ (n : Nat) (sm q : Int) (μ : zG), (S_X12_autumn_56 i n sm q μ).1 = sm
  | 0, sm, q, μ => rfl
  | n + 1, sm, q, μ => by
    rw [S_X12_autumn_56]
    by_cases c : 8 ≤ q
    · rw [if_pos c]
    · rw [if_neg c, if_neg h]
theorem q_hurt {σ μ : zG} (hQ : QR σ μ) : ∀ (n n' : Nat) (sm q : Int), 0 ≤ q → (8 - q).toNat < n → (8 - q).toNat < n' → w32 sm = sm → L_X4_hurtInAll_4 σ n sm q = (S_X12_autumn_56 4 n' sm q μ).1
  | 0, _, sm, q, _, h, _, _ => absurd h (Nat.not_lt_zero _)
  | _ + 1, 0, sm, q, _, _, h, _ => absurd h (Nat.not_lt_zero _)
  | n + 1, n' + 1, sm, q, h0, h, h', hs => by
    have hp := hQ.1.1
    rw [L_X4_hurtInAll_4, hp.1]
    by_cases c : μ 2 0 ≤ q
    · rw [if_pos c]
      exact (hurt_t hQ (n' + 1) sm q c h0 hs).symm
    · rw [if_neg c, S_X12_autumn_56, if_neg (by omega), if_pos rfl, (hQ.2.2.1.2.2.1.1 q h0 (by omega)).1]
      exact q_hurt hQ n n' _ (q + 1) (by omega) (by omega) (by omega) (w32_id (w32_r _))
theorem q_wrong {σ μ : zG} (hQ : QR σ μ) : ∀ (n : Nat) (sm q : Int), 0 ≤ q → q ≤ μ 2 172 → (μ 2 172 - q).toNat < n → 0 ≤ sm → sm ≤ q → L_X4_howManyWrong_4 σ n sm q = sm + (wct (μ 15) (μ 2 172).toNat - wct (μ 15) q.toNat)
  | 0, sm, q, _, _, h, _, _ => absurd h (Nat.not_lt_zero _)
  | n + 1, sm, q, h0, hq, h, l, u => by
    have hb := hQ.2.1.1
    rw [L_X4_howManyWrong_4, hb.1]
    by_cases c : μ 2 172 ≤ q
    · rw [if_pos c, show μ 2 172 = q by omega]; omega
    · rw [if_neg c]
      have hw := hQ.2.2.1.2.2.2.1.1 q h0 (by omega)
      have es : wct (μ 15) (q + 1).toNat = wct (μ 15) q.toNat + (if 0 < μ 15 q then 1 else 0) := by
        rw [show (q + 1).toNat = q.toNat + 1 by omega, wct, show ((q.toNat : Nat) : Int) = q by omega]
      rw [hw.1]
      by_cases e : μ 15 q = 0
      · rw [if_neg (show ¬ 0 < μ 15 q by omega)] at es
        rw [if_pos e, w32_id ⟨by omega, by omega⟩, q_wrong hQ n _ _ (by omega) (by omega) (by omega) (by omega) (by omega), es]
        omega
      · rw [if_pos (show 0 < μ 15 q by omega)] at es
        rw [if_neg e, w32_id ⟨by omega, by omega⟩, q_wrong hQ n _ _ (by omega) (by omega) (by omega) (by omega) (by omega), es]
        omega
theorem aut4 (μ : zG) (sm : Int) : (L_X12_autumn_84 4 500 sm 0 μ).1 = sm := by
  rw [L_X12_autumn_84]
  split
  · rfl
  · rw [if_pos rfl]
theorem q_autumn {σ μ : zG} {i : Int} (hQ : QR σ (R_X12_run (zu μ 0 0 0) (-1))) : V_X11_autumn σ i = (R_X12_autumn μ i).1 := by
  unfold V_X11_autumn R_X12_autumn
  generalize R_X12_run (zu μ 0 0 0) (-1) = ρ at *
  have hC := hQ.2.2.1.1
  have hm := hC.2.2.1
  by_cases i0 : i = 0
  · subst i0
    rw [if_pos rfl, if_pos (by decide), if_pos rfl]
    show R_X4_sumInAll σ 0 = R_X12_owedAll ρ
    rw [← q_owedA hC]
    unfold R_X4_sumInAll V_X4_owedInAll R_X4_sumInAllz
    exact sum_0 σ 200 0 0
  by_cases i5 : i = 5
  · subst i5
    rw [if_neg (by decide), if_neg (by decide), if_neg (by decide), if_neg (by decide), if_neg (by decide), if_pos rfl, if_pos (by decide), if_neg (by decide), if_pos rfl]
    show R_X4_howManyWrong σ = ρ 0 46
    have hb := hQ.2.1.1
    unfold R_X4_howManyWrong
    rw [q_wrong hQ 200 0 0 (by decide) (by omega) (by omega) (by decide) (by decide), hQ.2.2.1.2.2.2.1.2]
    show 0 + (_ - 0) = _
    omega
  by_cases i6 : i = 6
  · subst i6
    rw [if_neg (by decide), if_neg (by decide), if_neg (by decide), if_neg (by decide), if_neg (by decide), if_neg (by decide), if_pos rfl, if_pos (by decide), if_neg (by decide), if_neg (by decide), if_pos rfl]
    show σ 27 1 = ρ 0 44
    rw [hQ.2.2.2.1, hQ.2.2.1.2.2.2.2]
  by_cases i4 : i = 4
  · subst i4
    rw [if_neg (by decide), if_neg (by decide), if_neg (by decide), if_neg (by decide), if_pos rfl, if_pos (by decide), if_neg (by decide), if_neg (by decide), if_neg (by decide)]
    rw [aut56_s, aut4]
    exact q_hurt hQ 200 10 0 0 (by decide) (by decide) (by decide) (w32_id r32_0)
  by_cases ir : 0 ≤ i ∧ i ≤ 6
  · have hw : i = 1 ∨ i = 2 ∨ i = 3 := by omega
    have h9 := q_sum hQ hw 200 500 0 0 (by decide) (by omega) (by omega)
    rw [if_pos ir, if_neg i0, if_neg i0, if_neg i5, if_neg i5, if_neg i6, if_neg i6, aut56_s, aut56_n i4, ← h9]
    rcases hw with w | w | w
    · rw [if_pos w]; rfl
    · rw [if_neg (by omega), if_pos w]; rfl
    · rw [if_neg (by omega), if_neg (by omega), if_pos w]; rfl
  · rw [if_neg ir, if_neg i0, if_neg (by omega), if_neg (by omega), if_neg (by omega), if_neg i4, if_neg i5, if_neg i6]
theorem q_came {σ μ : zG} (hQ : QR σ μ) {who i : Int} (hw : 0 ≤ who ∧ who < μ 2 0) (hi : 0 ≤ i ∧ i ≤ 4) : R_X4_sumFor σ who i = R_X12_cameOf μ who i := by
  have hC := hQ.2.2.1.1
  have hP := hQ.2.2.1.2.2.1
  have hp := hQ.1.1
  have hm := hC.2.2.1
  have tl : ∀ (n : Nat) (sm d : Int), 0 ≤ d → (μ 0 43 - d).toNat < n → 3 ≤ i → L_X12_cameOf_5 μ who i n sm d = if i = 3 then μ 13 who else μ 14 who := by
    intro n
    induction n with
    | zero => intro sm d _ h; exact absurd h (Nat.not_lt_zero _)
    | succ n ih =>
      intro sm d h0 h h3
      rw [L_X12_cameOf_5]
      by_cases c : μ 0 43 ≤ d
      · rw [if_pos c, if_pos h3]
      · rw [if_neg c]
        by_cases k : μ 16 d = who
        · rw [if_pos k, if_neg (show ¬ i = 0 by omega), if_neg (show ¬ i = 1 by omega)]
          by_cases z : μ 20 d = 0
          · rw [if_pos z]; exact ih _ (d + 1) (by omega) (by omega) h3
          · rw [if_neg z]; exact ih _ (d + 1) (by omega) (by omega) h3
        · rw [if_neg k]; exact ih _ (d + 1) (by omega) (by omega) h3
  have main : ∀ (n n' : Nat) (sm d : Int), 0 ≤ d → (μ 0 43 - d).toNat < n → (μ 0 43 - d).toNat < n' → i < 3 → (i = 1 → 0 ≤ sm ∧ sm ≤ d) → L_X4_sumFor_29 σ who i n sm d = L_X12_cameOf_5 μ who i n' sm d := by
    intro n
    induction n with
    | zero => intro n' sm d _ h; exact absurd h (Nat.not_lt_zero _)
    | succ n ih =>
      intro n' sm d h0 h h' h3 hs
      cases n' with
      | zero => exact absurd h' (Nat.not_lt_zero _)
      | succ n' =>
        rw [L_X4_sumFor_29, L_X12_cameOf_5, hm.1]
        by_cases c : μ 0 43 ≤ d
        · rw [if_pos c, if_pos c, if_neg (by omega)]
        · rw [if_neg c, if_neg c]
          obtain ⟨e1, e2, e3, e4⟩ := (hC.2.2.2 d h0 (by omega)).1
          rw [e1, e4]
          by_cases k : μ 16 d = who
          · rw [if_pos k, if_pos k]
            by_cases i0 : i = 0
            · rw [if_pos i0, if_pos i0]
              exact ih _ _ _ (by omega) (by omega) (by omega) h3 (fun e => absurd e (by omega))
            · rw [if_neg i0, if_neg i0]
              by_cases i1 : i = 1
              · have := hs i1
                rw [if_pos i1, if_pos i1, w32_id (z := sm + 1) ⟨by omega, by omega⟩]
                exact ih _ _ _ (by omega) (by omega) (by omega) h3 (fun e => ⟨by omega, by omega⟩)
              · rw [if_neg i1, if_neg i1, if_pos (show i = 2 by omega)]
                split <;> exact ih _ _ _ (by omega) (by omega) (by omega) h3 (fun e => absurd e i1)
          · rw [if_neg k, if_neg k]
            exact ih _ _ _ (by omega) (by omega) (by omega) h3 (fun e => ⟨(hs e).1, by have := (hs e).2; omega⟩)
  unfold R_X4_sumFor R_X12_cameOf
  by_cases h3 : 3 ≤ i
  · rw [tl 500 0 0 (by decide) (by omega) h3]
    have h5 := hP.1 who hw.1 (by omega)
    by_cases e : i = 3
    · rw [if_pos e, if_pos e]; exact h5.1
    · rw [if_neg e, if_neg e, if_pos (by omega)]; exact h5.2
  · rw [if_neg (by omega), if_neg (by omega)]
    exact main 200 500 0 0 (by decide) (by omega) (by omega) (by omega) (fun _ => ⟨by decide, by decide⟩)
