/-! pure: any line of a book on both sides -/
set_option maxRecDepth 20000 in
theorem bline_sim {P F N s0 : Int} {σ μ : zG} (hP8 : 0 ≤ P ∧ P ≤ 8) (hF : 0 ≤ F ∧ F ≤ 12) (hK : KW σ μ) (hC : KC σ) (hP : TP σ μ) (hT : TK σ μ) (hp : σ 5 0 = P ∧ μ 2 0 = P ∧ σ 5 1 = F ∧ μ 2 1 = F ∧ μ 0 21 = N ∧ σ 3 2 = s0 ∧ σ 3 7 = 0 ∧ μ 0 15 = 0) (hw6 : ∀ i : Int, 0 ≤ i → i < P → wr (σ 6 i) (μ 5 (0 + i))) (hw8 : ∀ i : Int, 0 ≤ i → i < F → wr (σ 8 i) (μ 5 (8 + i))) (hB : BR P F σ μ) (hds : 7 * ds (μ 4) N.toNat ≤ σ 3 3) (hE : σ 3 4 = 2 → WE σ ∧ 7 * ds (μ 4) N.toNat + 1 ≤ σ 3 3) :
    LOb P F N s0 (V_X0_takeLine σ) (F_X0_takeLine σ) (V_X12_bookLine μ) (F_X12_bookLine μ) := by
  obtain ⟨p1, p2, p3, p4, p5, p6, p7, p15⟩ := id hp
  have n35 : σ 35 0 = N := by rw [hB.2.1]; exact p5
  have n60 : 0 ≤ σ 35 0 ∧ σ 35 0 ≤ 60 := hB.1.1
  rw [n35] at n60
  have ldr := BY_ld hB.1.2.2 hB.1.1.1
  have kd := kw_m (k := 10) (c := 6578553) hC hT (by decide) (by decide) ⟨by decide, by decide, ⟨by decide, by decide⟩, by decide, by decide⟩
  have bad : ∀ x : Int, LOb P F N s0 0 (zu σ 3 7 x) ((0 : Int), zu (zu μ 0 15 x) 0 16 (μ 0 12)).1 ((0 : Int), zu (zu μ 0 15 x) 0 16 (μ 0 12)).2 := fun x => by
    refine Or.inl ⟨rfl, rfl, ?_, ?_⟩
    · show _ = zu (zu μ 0 15 x) 0 16 (μ 0 12) 0 15
      rw [zu_at, zu_off _ _ _ (by decide), zu_at]
    · show _ = zu (zu μ 0 15 x) 0 16 (μ 0 12) 0 16
      rw [zu_off _ _ _ (by decide), zu_at]; exact hT.1
  have hL := LK_next hP
  unfold V_X0_takeLine F_X0_takeLine V_X12_bookLine F_X12_bookLine R_X12_bookLine
  rw [p1, p2, p5, n35]
  by_cases w : μ 0 11 = 1 ∧ μ 0 17 = 6578553
  · have kk := kd.mpr w
    rw [if_pos kk, if_pos kk, if_pos w]
    unfold V_X0_takeDay F_X0_takeDay
    rw [n35]
    by_cases c60 : N = 60
    · rw [if_pos c60, if_neg (show ¬ N < 60 by omega), if_neg (show ¬ N < 60 by omega)]; exact bad 4
    · have c60' : N < 60 := by omega
      rw [if_neg c60, if_pos c60', if_pos c60']
      have day : ∀ lo : Int, 0 ≤ lo → (N = 0 ∨ σ 35 1 ≤ lo) → LOb P F N s0 (if V_X5_stepNumber σ lo 999 = -1 then 0 else if V_X5_stepSign (F_X5_stepNumber σ lo 999) 59 = 0 then 0 else 1) (if V_X5_stepNumber σ lo 999 = -1 then F_X5_stepNumber σ lo 999 else if V_X5_stepSign (F_X5_stepNumber σ lo 999) 59 = 0 then F_X5_stepSign (F_X5_stepNumber σ lo 999) 59 else F_X0_addDay_35 (F_X5_stepSign (F_X5_stepNumber σ lo 999) 59) (V_X5_stepNumber σ lo 999)) (if V_X12_takes (F_X12_next μ) lo 999 = 0 then ((0 : Int), F_X12_takes (F_X12_next μ) lo 999) else (1, F_X12_put (zu (F_X12_takes (F_X12_next μ) lo 999) 0 22 (F_X12_takes (F_X12_next μ) lo 999 0 18)) (5 * N) 0 (F_X12_takes (F_X12_next μ) lo 999 0 18) (-1) (-1) 0)).1 (if V_X12_takes (F_X12_next μ) lo 999 = 0 then ((0 : Int), F_X12_takes (F_X12_next μ) lo 999) else (1, F_X12_put (zu (F_X12_takes (F_X12_next μ) lo 999) 0 22 (F_X12_takes (F_X12_next μ) lo 999 0 18)) (5 * N) 0 (F_X12_takes (F_X12_next μ) lo 999 0 18) (-1) (-1) 0)).2 := by
        intro lo lo0 hlo
        rcases num_sim (lo := lo) (hi := 999) hL lo0 with ⟨n1, n2, n3, n4⟩ | ⟨n1, n2, n3, n4, n5, n6⟩
        · rw [if_pos n2, if_pos n2, if_pos n1]
          exact Or.inl ⟨rfl, rfl, n3, n4⟩
        · rw [n2, if_neg (show ¬ F_X12_takes (F_X12_next μ) lo 999 0 18 = -1 by omega), if_neg (show ¬ F_X12_takes (F_X12_next μ) lo 999 0 18 = -1 by omega), if_neg (show ¬ V_X12_takes (F_X12_next μ) lo 999 = 0 by omega)]
          rw [n5] at n4 ⊢
          have cr5 : ∀ k : Nat, k ≠ 3 → F_X5_step σ k = σ k := fun k hk => st_r σ hk
          have mr5 : ∀ k : Nat, k ≠ 0 → F_X12_takes (F_X12_next μ) lo 999 k = μ k := fun k hk => by rw [n6, nx_r _ hk, zu_row _ _ _ hk, nx_r _ hk]
          have mz5 : ∀ j : Int, KI j → F_X12_takes (F_X12_next μ) lo 999 0 j = μ 0 j := fun j hj => by rw [kp_takes _ _ _ j hj, kp_next _ j hj]
          have sm := step_mono σ
          have q34 : F_X5_step σ 3 2 = s0 := by rw [(step_vals _).2.2.2.2.2]; exact p6
          have f74 : F_X5_step σ 3 7 = 0 := by rw [(step_vals _).2.2.2.2.1]; exact p7
          have f155 : F_X12_takes (F_X12_next μ) lo 999 0 15 = 0 := by rw [n6, nx_15, zu_off _ _ _ (by decide), nx_15]; exact p15
          clear n6
          generalize F_X12_takes (F_X12_next μ) lo 999 = μ5 at *
          generalize F_X5_step σ = σ4 at *
          have hB5 : BR P F σ4 μ5 := BR_row hB (fun k k0 k1 => cr5 k (by omega)) (mr5 4 (by decide)) (mr5 8 (by decide)) (mz5 21 (by unfold KI; decide)) (mz5 22 (by unfold KI; decide))
          have m215 : μ5 0 21 = N := by rw [mz5 21 (by unfold KI; decide)]; exact p5
          have e4 : dk 0 0 = 0 := by decide
          have e35 : σ4 35 1 = σ 35 1 := by rw [cr5 35 (by decide)]
          unfold F_X0_addDay_35
          refine end_sim n4 hB5 m215 c60' q34 f74 f155 (fun h k hk => by rw [zu_row _ _ _ hk, stepSign_ok h]) (by rw [zu_off _ _ _ (by decide), ss_35 _ _ (by decide)]) (fun k hk => zu_row _ _ _ hk) (fun j hj => zu_off _ _ _ hj) (by rw [zu_at, zu_at]) ⟨by decide, fun x => absurd rfl x, fun x => absurd x (by decide), fun x => absurd x (by decide)⟩ (fun _ => ?_) (fun x => absurd rfl x) ?_
          · rw [zu_at, e35]
            exact ⟨rfl, by omega, by omega, n3.2⟩
          · rw [e4, mr5 4 (by decide)]; omega
      by_cases c0 : N = 0
      · rw [if_pos c0, if_pos c0, if_pos c0]
        exact day 0 (by decide) (Or.inl c0)
      · have e22 := hB.2.2
        rw [if_neg c0, if_neg c0, if_neg c0, ← e22, w32_id (z := σ 35 1 + 1) ⟨by omega, by omega⟩]
        exact day (σ 35 1 + 1) (by omega) (Or.inr (by omega))
  · have nk : ¬ V_X5_keyword σ = 10 := fun x => w (kd.mp x)
    rw [if_neg nk, if_neg nk, if_neg w]
    rcases nm6 hK hT hP8 hw6 with ⟨a, b⟩ | ⟨a, b, c, d, e⟩
    · rw [if_pos a, if_pos a, if_pos b]; exact bad 1
    · have t0 := TK_w hT (isName_tok b)
      rw [if_neg a, if_neg a, if_neg b, c]
      generalize R_X12_find μ 0 P = r at *
      rcases d with d | d
      · rw [if_pos d, if_pos d, if_neg (show ¬ 0 ≤ r by omega)]; exact bad 3
      · rw [if_neg (show ¬ r = -1 by omega), if_neg (show ¬ r = -1 by omega), if_pos d.1]
        by_cases c60 : N = 60
        · rw [if_pos c60, if_neg (show ¬ N < 60 by omega), if_neg (show ¬ N < 60 by omega)]; exact bad 4
        · have c60' : N < 60 := by omega
          rw [if_neg c60, if_pos c60', if_pos c60']
          have hC1 : KC (F_X5_step σ) := KC_row hC (st_r σ (by decide))
          have k11 := kw_m (k := 11) (c := 1818846579) hC1 hL.2 (by decide) (by decide) ⟨by decide, by decide, ⟨by decide, by decide⟩, by decide, by decide⟩
          have k12 := kw_m (k := 12) (c := 448444786035) hC1 hL.2 (by decide) (by decide) ⟨by decide, by decide, ⟨by decide, by decide⟩, by decide, by decide⟩
          have k13 := kw_m (k := 13) (c := 499917810803) hC1 hL.2 (by decide) (by decide) ⟨by decide, by decide, ⟨by decide, by decide⟩, by decide, by decide⟩
          have k14 := kw_m (k := 14) (c := 495622843507) hC1 hL.2 (by decide) (by decide) ⟨by decide, by decide, ⟨by decide, by decide⟩, by decide, by decide⟩
          have go : ∀ wh : Int, ((wh = V_X5_keyword (F_X5_step σ) - 10 ∧ 1 ≤ wh ∧ wh ≤ 4) ∨ (wh = -1 ∧ (V_X5_keyword (F_X5_step σ) < 11 ∨ 14 < V_X5_keyword (F_X5_step σ)))) → LOb P F N s0 (V_X0_takeDeed σ r) (F_X0_takeDeed σ r) (L_X12_bookLine_200 (5 * N) r wh 1 (F_X12_next μ)).1 (L_X12_bookLine_200 (5 * N) r wh 1 (F_X12_next μ)).2 := fun wh h =>
            deed_sim hP8 hF d rfl c60' hK hC hP (hE t0.1).1 hp hw6 hw8 hB (hE t0.1).2 h
          by_cases c11 : F_X12_next μ 0 11 = 1 ∧ F_X12_next μ 0 17 = 1818846579
          · rw [if_pos c11]
            have := k11.mpr c11
            exact go 1 (Or.inl (by omega))
          · rw [if_neg c11]
            by_cases c12 : F_X12_next μ 0 11 = 1 ∧ F_X12_next μ 0 17 = 448444786035
            · rw [if_pos c12]
              have := k12.mpr c12
              exact go 2 (Or.inl (by omega))
            · rw [if_neg c12]
              by_cases c13 : F_X12_next μ 0 11 = 1 ∧ F_X12_next μ 0 17 = 499917810803
              · rw [if_pos c13]
                have := k13.mpr c13
                exact go 3 (Or.inl (by omega))
              · rw [if_neg c13]
                by_cases c14 : F_X12_next μ 0 11 = 1 ∧ F_X12_next μ 0 17 = 495622843507
                · rw [if_pos c14]
                  have := k14.mpr c14
                  exact go 4 (Or.inl (by omega))
                · rw [if_neg c14]
                  have e1 : ¬ V_X5_keyword (F_X5_step σ) = 11 := fun x => c11 (k11.mp x)
                  have e2 : ¬ V_X5_keyword (F_X5_step σ) = 12 := fun x => c12 (k12.mp x)
                  have e3 : ¬ V_X5_keyword (F_X5_step σ) = 13 := fun x => c13 (k13.mp x)
                  have e4 : ¬ V_X5_keyword (F_X5_step σ) = 14 := fun x => c14 (k14.mp x)
                  exact go (-1) (Or.inr (by omega))
