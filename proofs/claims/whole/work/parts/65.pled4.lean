/-! pure: a whole run, its core -/
theorem begin2_K (μ0 : zG) : ∀ (n : Nat) (q : Int) (μ : zG), μ 2 = μ0 2 → 0 ≤ q → (8 - q).toNat < n → ∀ a : Int, 0 ≤ a → a < 8 → (q ≤ a → (S_X12_begin_2 n q μ).2 11 a = R_X12_follows μ0 (μ0 2 (44 + a))) ∧ (a < q → (S_X12_begin_2 n q μ).2 11 a = μ 11 a)
  | 0, q, μ, _, _, hm => absurd hm (Nat.not_lt_zero _)
  | n + 1, q, μ, e, h0, hm => by
    intro a a0 a8
    rw [S_X12_begin_2]
    split
    · exact ⟨fun h => absurd a8 (by omega), fun _ => rfl⟩
    · have e2 : (zu (zu (zu μ 11 q (R_X12_follows μ (μ 2 (44 + q)))) 13 q 0) 14 q 0) 2 = μ0 2 := by rw [zu_row _ _ _ (by decide), zu_row _ _ _ (by decide), zu_row _ _ _ (by decide)]; exact e
      have h9 := begin2_K μ0 n (q + 1) (zu (zu (zu μ 11 q (R_X12_follows μ (μ 2 (44 + q)))) 13 q 0) 14 q 0) e2 (by omega) (by omega) a a0 a8
      have ea : (zu (zu (zu μ 11 q (R_X12_follows μ (μ 2 (44 + q)))) 13 q 0) 14 q 0) 11 a = if a = q then R_X12_follows μ (μ 2 (44 + q)) else μ 11 a := by rw [zu_ne _ _ _ _ (by decide), zu_ne _ _ _ _ (by decide), zu_if]
      rw [ea] at h9
      refine ⟨fun h => ?_, fun h => ?_⟩
      · by_cases c : a = q
        · rw [h9.2 (by omega), if_pos c, c, follows_row e, e]
        · exact h9.1 (by omega)
      · rw [h9.2 (by omega), if_neg (by omega)]
theorem begin_rows (μ : zG) : (∀ a : Int, 0 ≤ a → a < 8 → R_X12_begin μ 11 a = R_X12_follows μ (μ 2 (44 + a))) ∧ R_X12_begin μ 0 43 = 0 ∧ R_X12_begin μ 0 44 = 0 ∧ R_X12_begin μ 0 45 = 0 ∧ R_X12_begin μ 0 46 = 0 := by
  unfold R_X12_begin
  refine ⟨fun a a0 a8 => ?_, by simp [zu], by simp [zu], by simp [zu], by simp [zu]⟩
  rw [zu_ne _ _ _ _ (by decide), zu_ne _ _ _ _ (by decide), zu_ne _ _ _ _ (by decide), zu_ne _ _ _ _ (by decide), fr_S_X12_begin_49 (h := by decide)]
  exact (begin2_K μ 10 0 μ rfl (by decide) (by decide) a a0 a8).1 a0

theorem clear2_K {σ0 μ : zG} (hV : VS σ0 μ) : ∀ (n : Nat) (q : Int) (σ : zG), (∀ c : Nat, c < 53 → σ c = σ0 c) → 0 ≤ q → (8 - q).toNat < n → ∀ a : Int, 0 ≤ a → a < 8 → (q ≤ a → (S_X4_clear_2 n q σ).2 54 a = R_X12_follows μ (μ 2 (44 + a))) ∧ (a < q → (S_X4_clear_2 n q σ).2 54 a = σ 54 a)
  | 0, q, σ, _, _, hm => absurd hm (Nat.not_lt_zero _)
  | n + 1, q, σ, e, h0, hm => by
    intro a a0 a8
    obtain ⟨hp, hF, hSR, hset, hfa, hkn⟩ := id hV
    have hSR2 : SR σ μ := by
      unfold SR at *
      rw [e 5 (by decide), e 12 (by decide), e 13 (by decide)]
      exact hSR
    rw [S_X4_clear_2, e 5 (by decide), hp.1, e 7 (by decide)]
    have go : ∀ v : Int, (q < 8 → v = R_X12_follows μ (μ 2 (44 + q))) → ¬ 8 ≤ q → (q ≤ a → (S_X4_clear_2 n (q + 1) (zu σ 54 q v)).2 54 a = R_X12_follows μ (μ 2 (44 + a))) ∧ (a < q → (S_X4_clear_2 n (q + 1) (zu σ 54 q v)).2 54 a = σ 54 a) := by
      intro v hv c
      have h9 := clear2_K hV n (q + 1) (zu σ 54 q v) (fun c hc => by rw [zu_row _ _ _ (by omega)]; exact e c hc) (by omega) (by omega) a a0 a8
      rw [zu_if] at h9
      refine ⟨fun h => ?_, fun h => ?_⟩
      · by_cases c2 : a = q
        · rw [h9.2 (by omega), if_pos c2, c2, hv (by omega)]
        · exact h9.1 (by omega)
      · rw [h9.2 (by omega), if_neg (by omega)]
    split
    · next c => exact ⟨fun h => absurd a8 (by omega), fun _ => rfl⟩
    · next c =>
      obtain ⟨k1, k2, k3, k4⟩ := hkn q h0 (by omega)
      split
      · next c1 => exact go 0 (fun _ => by rw [k4 (by omega), follow_0 hSR]) c
      · next c1 => exact go _ (fun _ => by rw [k1 (by omega), follow_eq hSR2 k2]) c
theorem clear_rows {σ μ : zG} (hV : VS σ μ) : (∀ a : Int, 0 ≤ a → a < 8 → R_X4_clear σ 54 a = R_X12_follows μ (μ 2 (44 + a))) ∧ R_X4_clear σ 53 7 = 0 ∧ R_X4_clear σ 53 8 = 0 := by
  unfold R_X4_clear
  refine ⟨fun a a0 a8 => ?_, by simp [zu], by simp [zu]⟩
  rw [zu_ne _ _ _ _ (by decide), zu_ne _ _ _ _ (by decide), fr_zfl (h := by decide), fr_zfl (h := by decide), fr_zfl (h := by decide)]
  exact (clear2_K hV 10 0 σ (fun _ _ => rfl) (by decide) (by decide) a a0 a8).1 a0
theorem LC_begin {σ μ : zG} (hV : VS σ μ) : LC (R_X4_clear σ) (R_X12_begin μ) := by
  obtain ⟨hp, hF, hSR, hset, hfa, hkn⟩ := id hV
  obtain ⟨c1, c2, c3⟩ := clear_rows hV
  obtain ⟨b1, b2, b3, b4, b5⟩ := begin_rows μ
  have e2 : R_X12_begin μ 2 = μ 2 := fr_R_X12_begin μ (by decide)
  unfold LC
  rw [c2, c3, b2, b4, e2]
  refine ⟨fun a a0 a8 => ?_, by decide, by decide, fun d d0 d1 => absurd d0 (by omega)⟩
  obtain ⟨k1, k2, k3, k4⟩ := hkn a a0 a8
  rw [c1 a a0 a8, b1 a a0 a8]
  exact ⟨rfl, follow_r hSR k2, fun i i0 i1 => follows_hi hSR k2 k3 i i0 i1 (by omega)⟩
theorem LC_loop {σ0 μ0 : zG} (hV : VS σ0 μ0) (hB : BK σ0 μ0) (but : Int) : ∀ (n n' : Nat) (q : Int) (σ μ : zG), LC σ μ → (∀ c : Nat, c < 53 → σ c = σ0 c) → μ 2 = μ0 2 → μ 9 = μ0 9 → μ 0 43 ≤ dsum (μ0 2) q.toNat → 0 ≤ q → (μ0 2 172 - q).toNat < n → (μ0 2 172 - q).toNat < n' → LC (L_X4_judge_6 but n q σ) (L_X12_run_6 but n' q μ)
  | 0, n', q, σ, μ, _, _, _, _, _, _, hm, _ => absurd hm (Nat.not_lt_zero _)
  | n + 1, 0, q, σ, μ, _, _, _, _, _, _, _, hm => absurd hm (Nat.not_lt_zero _)
  | n + 1, n' + 1, q, σ, μ, hL, es, e2, e9, hd, h0, hm, hm' => by
    obtain ⟨hb1, hb2, hb3⟩ := id hB
    rw [L_X4_judge_6, L_X12_run_6, es 27 (by decide), hb1.1, e2]
    split
    · exact hL
    · next c =>
      have eq1 : ((q.toNat : Nat) : Int) = q := by omega
      have hN0 := hb2 q h0 (by omega)
      have es1 : dsum (μ0 2) (q + 1).toNat = dsum (μ0 2) q.toNat + dl (μ0 2) q := by rw [show (q + 1).toNat = q.toNat + 1 by omega, dsum, eq1]
      have hmo := dsum_mono hB (μ0 2 172).toNat (q + 1).toNat (by omega) (by omega)
      have hd0 := dl_0 hN0
      split
      · next c1 =>
        refine LC_loop hV hB but n n' (q + 1) _ _ (LC_row hL ?_ ?_ ?_ ?_ ?_ ?_ ?_ rfl rfl rfl rfl rfl rfl rfl rfl) (fun c hc => by rw [zu_row _ _ _ (by omega)]; exact es c hc) e2 e9 (by omega) (by omega) (by omega) (by omega)
        all_goals first | exact zu_ne _ _ _ _ (by decide) | exact zu_row _ _ _ (by decide)
      · next c1 =>
        have hV2 : VS σ μ := VS_row hV (fun c c5 c16 => es c (by omega)) e2
        have hN : LN σ μ q := by
          unfold LN at *
          rw [es 28 (by decide), es 29 (by decide), es 30 (by decide), es 31 (by decide), es 32 (by decide), es 33 (by decide), e2, e9]
          exact hN0
        obtain ⟨j1, j2, j3⟩ := LC_judge hV2 hL hN (by rw [e2]; omega)
        rw [e2] at j3
        have key : ∀ x y z : Int, LC (L_X4_judge_6 but n (q + 1) (zu (F_X4_judgeLine σ q) 58 q x)) (L_X12_run_6 but n' (q + 1) (zu (zu (R_X12_does μ q).2 15 q y) 0 46 z)) := by
          intro x y z
          refine LC_loop hV hB but n n' (q + 1) _ _ (LC_row j2 ?_ ?_ ?_ ?_ ?_ ?_ ?_ ?_ ?_ ?_ ?_ ?_ ?_ ?_ ?_) (fun c hc => by rw [zu_row _ _ _ (by omega), fr_F_X4_judgeLine (h := by simp; omega)]; exact es c hc) ?_ ?_ ?_ (by omega) (by omega) (by omega)
          all_goals first | exact zu_ne _ _ _ _ (by decide) | exact zu_row _ _ _ (by decide) | exact (zu_off _ _ _ (by decide)).trans (zu_ne _ _ _ _ (by decide)) | exact (zu_row _ _ _ (by decide)).trans (zu_row _ _ _ (by decide)) | skip
          · rw [zu_row _ _ _ (by decide), zu_row _ _ _ (by decide), fr_R_X12_does (h := by decide)]; exact e2
          · rw [zu_row _ _ _ (by decide), zu_row _ _ _ (by decide), fr_R_X12_does (h := by decide)]; exact e9
          · rw [zu_off _ _ _ (by decide), zu_ne _ _ _ _ (by decide)]; omega
        split
        · exact key _ _ _
        · exact key _ _ _
/-- the book judged on both sides, with a line left out or not: the core -/
theorem LC_run {σ μ : zG} (hV : VS σ μ) (hB : BK σ μ) (but : Int) : LC (R_X4_judge σ but) (R_X12_run μ but) := by
  have hb1 := hB.1
  unfold R_X4_judge R_X12_run
  refine LC_loop hV hB but 70 70 0 _ _ (LC_begin hV) (fun c hc => fr_R_X4_clear σ (by simp; omega)) (fr_R_X12_begin μ (by decide)) (fr_R_X12_begin μ (by decide)) ?_ (by decide) (by omega) (by omega)
  rw [(begin_rows μ).2.1]
  exact Int.le_refl _

theorem clear2_Kt {σ0 μ : zG} (hV : VS σ0 μ) : ∀ (n : Nat) (q : Int) (σ : zG), (∀ c : Nat, c < 53 → σ c = σ0 c) → 0 ≤ q → (8 - q).toNat < n → ∀ a : Int, 0 ≤ a → a < 8 → (q ≤ a → (S_X4_clear_2t n q σ).2 68 a = R_X12_follows μ (μ 2 (44 + a))) ∧ (a < q → (S_X4_clear_2t n q σ).2 68 a = σ 68 a)
  | 0, q, σ, _, _, hm => absurd hm (Nat.not_lt_zero _)
  | n + 1, q, σ, e, h0, hm => by
    intro a a0 a8
    obtain ⟨hp, hF, hSR, hset, hfa, hkn⟩ := id hV
    have hSR2 : SR σ μ := by
      unfold SR at *
      rw [e 5 (by decide), e 12 (by decide), e 13 (by decide)]
      exact hSR
    rw [S_X4_clear_2t, e 5 (by decide), hp.1, e 7 (by decide)]
    have go : ∀ v : Int, (q < 8 → v = R_X12_follows μ (μ 2 (44 + q))) → ¬ 8 ≤ q → (q ≤ a → (S_X4_clear_2t n (q + 1) (zu σ 68 q v)).2 68 a = R_X12_follows μ (μ 2 (44 + a))) ∧ (a < q → (S_X4_clear_2t n (q + 1) (zu σ 68 q v)).2 68 a = σ 68 a) := by
      intro v hv c
      have h9 := clear2_Kt hV n (q + 1) (zu σ 68 q v) (fun c hc => by rw [zu_row _ _ _ (by omega)]; exact e c hc) (by omega) (by omega) a a0 a8
      rw [zu_if] at h9
      refine ⟨fun h => ?_, fun h => ?_⟩
      · by_cases c2 : a = q
        · rw [h9.2 (by omega), if_pos c2, c2, hv (by omega)]
        · exact h9.1 (by omega)
      · rw [h9.2 (by omega), if_neg (by omega)]
    split
    · next c => exact ⟨fun h => absurd a8 (by omega), fun _ => rfl⟩
    · next c =>
      obtain ⟨k1, k2, k3, k4⟩ := hkn q h0 (by omega)
      split
      · next c1 => exact go 0 (fun _ => by rw [k4 (by omega), follow_0 hSR]) c
      · next c1 => exact go _ (fun _ => by rw [k1 (by omega), follow_eq hSR2 k2]) c
theorem clear_rowst {σ μ : zG} (hV : VS σ μ) : (∀ a : Int, 0 ≤ a → a < 8 → R_X4_cleart σ 68 a = R_X12_follows μ (μ 2 (44 + a))) ∧ R_X4_cleart σ 67 7 = 0 ∧ R_X4_cleart σ 67 8 = 0 := by
  unfold R_X4_cleart
  refine ⟨fun a a0 a8 => ?_, by simp [zu], by simp [zu]⟩
  rw [zu_ne _ _ _ _ (by decide), zu_ne _ _ _ _ (by decide), fr_zfl (h := by decide), fr_zfl (h := by decide), fr_zfl (h := by decide)]
  exact (clear2_Kt hV 10 0 σ (fun _ _ => rfl) (by decide) (by decide) a a0 a8).1 a0
theorem LC_begint {σ μ : zG} (hV : VS σ μ) : LCt (R_X4_cleart σ) (R_X12_begin μ) := by
  obtain ⟨hp, hF, hSR, hset, hfa, hkn⟩ := id hV
  obtain ⟨c1, c2, c3⟩ := clear_rowst hV
  obtain ⟨b1, b2, b3, b4, b5⟩ := begin_rows μ
  have e2 : R_X12_begin μ 2 = μ 2 := fr_R_X12_begin μ (by decide)
  unfold LCt
  rw [c2, c3, b2, b4, e2]
  refine ⟨fun a a0 a8 => ?_, by decide, by decide, fun d d0 d1 => absurd d0 (by omega)⟩
  obtain ⟨k1, k2, k3, k4⟩ := hkn a a0 a8
  rw [c1 a a0 a8, b1 a a0 a8]
  exact ⟨rfl, follow_r hSR k2, fun i i0 i1 => follows_hi hSR k2 k3 i i0 i1 (by omega)⟩
theorem LC_loopt {σ0 μ0 : zG} (hV : VS σ0 μ0) (hB : BK σ0 μ0) (but : Int) : ∀ (n n' : Nat) (q : Int) (σ μ : zG), LCt σ μ → (∀ c : Nat, c < 53 → σ c = σ0 c) → μ 2 = μ0 2 → μ 9 = μ0 9 → μ 0 43 ≤ dsum (μ0 2) q.toNat → 0 ≤ q → (μ0 2 172 - q).toNat < n → (μ0 2 172 - q).toNat < n' → LCt (L_X4_judge_6t but n q σ) (L_X12_run_6 but n' q μ)
  | 0, n', q, σ, μ, _, _, _, _, _, _, hm, _ => absurd hm (Nat.not_lt_zero _)
  | n + 1, 0, q, σ, μ, _, _, _, _, _, _, _, hm => absurd hm (Nat.not_lt_zero _)
  | n + 1, n' + 1, q, σ, μ, hL, es, e2, e9, hd, h0, hm, hm' => by
    obtain ⟨hb1, hb2, hb3⟩ := id hB
    rw [L_X4_judge_6t, L_X12_run_6, es 27 (by decide), hb1.1, e2]
    split
    · exact hL
    · next c =>
      have eq1 : ((q.toNat : Nat) : Int) = q := by omega
      have hN0 := hb2 q h0 (by omega)
      have es1 : dsum (μ0 2) (q + 1).toNat = dsum (μ0 2) q.toNat + dl (μ0 2) q := by rw [show (q + 1).toNat = q.toNat + 1 by omega, dsum, eq1]
      have hmo := dsum_mono hB (μ0 2 172).toNat (q + 1).toNat (by omega) (by omega)
      have hd0 := dl_0 hN0
      split
      · next c1 =>
        refine LC_loopt hV hB but n n' (q + 1) _ _ (LCt_row hL ?_ ?_ ?_ ?_ ?_ ?_ ?_ rfl rfl rfl rfl rfl rfl rfl rfl) (fun c hc => by rw [zu_row _ _ _ (by omega)]; exact es c hc) e2 e9 (by omega) (by omega) (by omega) (by omega)
        all_goals first | exact zu_ne _ _ _ _ (by decide) | exact zu_row _ _ _ (by decide)
      · next c1 =>
        have hV2 : VS σ μ := VS_row hV (fun c c5 c16 => es c (by omega)) e2
        have hN : LN σ μ q := by
          unfold LN at *
          rw [es 28 (by decide), es 29 (by decide), es 30 (by decide), es 31 (by decide), es 32 (by decide), es 33 (by decide), e2, e9]
          exact hN0
        obtain ⟨j1, j2, j3⟩ := LC_judget hV2 hL hN (by rw [e2]; omega)
        rw [e2] at j3
        have key : ∀ x y z : Int, LCt (L_X4_judge_6t but n (q + 1) (zu (F_X4_judgeLinet σ q) 72 q x)) (L_X12_run_6 but n' (q + 1) (zu (zu (R_X12_does μ q).2 15 q y) 0 46 z)) := by
          intro x y z
          refine LC_loopt hV hB but n n' (q + 1) _ _ (LCt_row j2 ?_ ?_ ?_ ?_ ?_ ?_ ?_ ?_ ?_ ?_ ?_ ?_ ?_ ?_ ?_) (fun c hc => by rw [zu_row _ _ _ (by omega), fr_F_X4_judgeLinet (h := by simp; omega)]; exact es c hc) ?_ ?_ ?_ (by omega) (by omega) (by omega)
          all_goals first | exact zu_ne _ _ _ _ (by decide) | exact zu_row _ _ _ (by decide) | exact (zu_off _ _ _ (by decide)).trans (zu_ne _ _ _ _ (by decide)) | exact (zu_row _ _ _ (by decide)).trans (zu_row _ _ _ (by decide)) | skip
          · rw [zu_row _ _ _ (by decide), zu_row _ _ _ (by decide), fr_R_X12_does (h := by decide)]; exact e2
          · rw [zu_row _ _ _ (by decide), zu_row _ _ _ (by decide), fr_R_X12_does (h := by decide)]; exact e9
          · rw [zu_off _ _ _ (by decide), zu_ne _ _ _ _ (by decide)]; omega
        split
        · exact key _ _ _
        · exact key _ _ _
/-- the book judged on both sides, with a line left out or not: the core -/
theorem LC_runt {σ μ : zG} (hV : VS σ μ) (hB : BK σ μ) (but : Int) : LCt (R_X4_judget σ but) (R_X12_run μ but) := by
  have hb1 := hB.1
  unfold R_X4_judget R_X12_run
  refine LC_loopt hV hB but 70 70 0 _ _ (LC_begint hV) (fun c hc => fr_R_X4_cleart σ (by simp; omega)) (fr_R_X12_begin μ (by decide)) (fr_R_X12_begin μ (by decide)) ?_ (by decide) (by omega) (by omega)
  rw [(begin_rows μ).2.1]
  exact Int.le_refl _
