/-! pure: the judged book, as a whole -/
theorem does_13 {σ μ : zG} (hV : VS σ μ) {i : Int} (hN : LN σ μ i) {a : Int} (ha : μ 2 0 ≤ a) : (R_X12_does μ i).2 13 a = μ 13 a := by
  obtain ⟨⟨n1, n2, n3, n4, n5, n6⟩, nk, nv, nl, ns⟩ := id hN
  unfold R_X12_does
  by_cases k0 : μ 2 (173 + (5 * i)) = 0
  · simp only [if_pos k0]
    exact zu_ne _ _ _ _ (by decide)
  · simp only [if_neg k0]
    obtain ⟨vw, va, vn, vf⟩ := nv k0
    generalize R_X12_whyOf _ _ _ _ _ _ = w
    by_cases kw : w ≤ 0
    · simp only [if_pos kw]
      by_cases k1 : μ 2 (173 + (5 * i)) = 1
      · simp only [if_pos k1]
        rw [fr_L_X12_does_146 (h := by decide), fr_F_X12_owes (h := by decide)]
      · simp only [if_neg k1]
        by_cases k2 : μ 2 (173 + (5 * i)) = 2
        · simp only [if_pos k2]
          rw [fr_F_X12_owes (h := by decide)]
        · simp only [if_neg k2]
          by_cases k3 : μ 2 (173 + (5 * i)) = 3
          · simp only [if_pos k3]
            generalize μ 2 ((173 + (5 * i)) + 3) = f at *
            have ho := (hV.2.2.2.2.1 f vf.1 vf.2).2.2.2.2.2
            unfold R_X12_tells
            rw [fr_R_X12_learns (h := by decide), zu_ne _ _ _ _ (by decide), zu_off _ _ _ (by omega), fr_S_X12_tells_11 (h := by decide)]
          · simp only [if_neg k3]
            rw [fr_R_X12_learns (h := by decide), zu_ne _ _ _ _ (by decide), zu_ne _ _ _ _ (by decide), zu_ne _ _ _ _ (by decide)]
    · simp only [if_neg kw]
theorem run_13 {σ0 μ0 : zG} (hV : VS σ0 μ0) (hB : BK σ0 μ0) : ∀ (n : Nat) (q : Int) (μ : zG), μ 2 = μ0 2 → μ 9 = μ0 9 → 0 ≤ q → (∀ a : Int, μ0 2 0 ≤ a → a < 8 → μ 13 a = 0) → ∀ a : Int, μ0 2 0 ≤ a → a < 8 → (L_X12_run_6 (-1) n q μ) 13 a = 0
  | 0, q, μ, _, _, _, h, a, a0, a8 => h a a0 a8
  | n + 1, q, μ, e2, e9, h0, h, a, a0, a8 => by
    rw [L_X12_run_6, e2]
    by_cases c : μ0 2 172 ≤ q
    · rw [if_pos c]; exact h a a0 a8
    · rw [if_neg c, if_neg (by omega)]
      have hV2 : VS σ0 μ := VS_row hV (fun c _ _ => rfl) e2
      have hN : LN σ0 μ q := by
        have := hB.2.1 q h0 (by omega)
        unfold LN at *
        rw [e2, e9]
        exact this
      have hd : ∀ a : Int, μ0 2 0 ≤ a → a < 8 → (R_X12_does μ q).2 13 a = 0 := fun a a0 a8 => by
        rw [does_13 hV2 hN (by rw [e2]; exact a0)]; exact h a a0 a8
      split
      all_goals
        refine run_13 hV hB n (q + 1) _ ?_ ?_ (by omega) (fun a a0 a8 => ?_) a a0 a8
        · rw [zu_row _ _ _ (by decide), zu_row _ _ _ (by decide), fr_R_X12_does (h := by decide)]; exact e2
        · rw [zu_row _ _ _ (by decide), zu_row _ _ _ (by decide), fr_R_X12_does (h := by decide)]; exact e9
        · rw [zu_ne _ _ _ _ (by decide), zu_ne _ _ _ _ (by decide)]; exact hd a a0 a8
theorem begin_13 (μ : zG) {a : Int} (a0 : 0 ≤ a) (a8 : a < 8) : R_X12_begin μ 13 a = 0 := by
  have h := ((clear_p (σ := μ) (μ := μ)).1 a a0 a8).1
  rw [← h]
  unfold R_X4_clear
  rw [zu_ne _ _ _ _ (by decide), zu_ne _ _ _ _ (by decide), fr_zfl (h := by decide), fr_zfl (h := by decide), zfl_at, if_pos ⟨a0, a8⟩]
/-- the days of the book -/
def DD (σ : zG) : Prop := DY σ ∧ σ 27 1 = (if σ 27 0 = 0 then 0 else σ 34 (σ 27 0 - 1)) ∧ (∀ i j : Int, 0 ≤ i → i ≤ j → j < σ 27 0 → σ 34 i ≤ σ 34 j) ∧ ∀ i : Int, 0 ≤ i → i < σ 27 0 → 0 ≤ σ 34 i ∧ σ 34 i ≤ 999
theorem run_2 (μ : zG) (but : Int) : R_X12_run μ but 2 = μ 2 := fr_R_X12_run _ _ (by decide)
theorem QR_run {σ μ : zG} (hV : VS σ μ) (hB : BK σ μ) (hD : DD σ) : QR (R_X4_judge σ (-1)) (R_X12_run μ (-1)) := by
  have e2 : R_X12_run μ (-1) 2 = μ 2 := fr_R_X12_run _ _ (by decide)
  have e9 : R_X12_run μ (-1) 9 = μ 9 := fr_R_X12_run _ _ (by decide)
  have es : ∀ c : Nat, c < 53 → R_X4_judge σ (-1) c = σ c := fun c hc => fr_R_X4_judge _ _ (by simp; omega)
  have hL := LR_run hV hB hD.1
  have hb := hB.1
  refine ⟨VS_row hV (fun c _ _ => es c (by omega)) e2, ?_, by rw [e2]; exact hL, ?_, ?_, ?_, ?_⟩
  · unfold BK LN at *
    rw [es 27 (by decide), es 28 (by decide), es 29 (by decide), es 30 (by decide), es 31 (by decide), es 32 (by decide), es 33 (by decide), e2, e9]
    exact hB
  · rw [es 27 (by decide), es 34 (by decide), e2, ← hb.1]; exact hD.2.1
  · rw [es 34 (by decide), e2, ← hb.1]; exact hD.2.2.1
  · rw [es 34 (by decide), e2, ← hb.1]; exact hD.2.2.2
  · rw [e2]
    intro a a0 a8
    unfold R_X12_run
    have hp := hV.1
    exact run_13 hV hB 70 0 _ (fr_R_X12_begin μ (by decide)) (fr_R_X12_begin μ (by decide)) (by decide) (fun a a0 a8 => begin_13 μ (by omega) a8) a a0 a8
theorem QR_row {σ σ' μ : zG} (h : QR σ μ) (e : ∀ c : Nat, 5 ≤ c → c < 67 → c < 16 ∨ (27 ≤ c ∧ c < 35) ∨ 53 ≤ c → σ' c = σ c) : QR σ' μ := by
  obtain ⟨hV, hB, ⟨l1, l2, l3, l4, l5⟩, hd⟩ := h
  have e27 := e 27 (by decide) (by decide) (by decide)
  have e34 := e 34 (by decide) (by decide) (by decide)
  refine ⟨VS_row hV (fun c a b => e c (by omega) (by omega) (by omega)) rfl, ?_, ⟨?_, ?_, ?_, ?_, ?_⟩, ?_⟩
  · unfold BK LN at *
    rw [e27, e 28 (by decide) (by decide) (by decide), e 29 (by decide) (by decide) (by decide), e 30 (by decide) (by decide) (by decide), e 31 (by decide) (by decide) (by decide), e 32 (by decide) (by decide) (by decide), e 33 (by decide) (by decide) (by decide)]
    exact hB
  · unfold LC at *
    rw [e 54 (by decide) (by decide) (by decide), e 53 (by decide) (by decide) (by decide), e 59 (by decide) (by decide) (by decide), e 60 (by decide) (by decide) (by decide), e 61 (by decide) (by decide) (by decide), e 63 (by decide) (by decide) (by decide)]
    exact l1
  · unfold LXd at *
    rw [e 62 (by decide) (by decide) (by decide), e 64 (by decide) (by decide) (by decide), e 65 (by decide) (by decide) (by decide), e 66 (by decide) (by decide) (by decide), e34]
    exact l2
  · unfold LXp at *
    rw [e 55 (by decide) (by decide) (by decide), e 56 (by decide) (by decide) (by decide), e 57 (by decide) (by decide) (by decide)]
    exact l3
  · unfold LXw at *
    rw [e 58 (by decide) (by decide) (by decide)]
    exact l4
  · rw [e34]; exact l5
  · rw [e27, e34]; exact hd
/-- the book of the class was judged as it stands -/
def LJ (σ : zG) : Prop := ∃ σ0 : zG, (∀ c : Nat, 5 ≤ c → c < 35 → c < 16 ∨ 27 ≤ c → σ0 c = σ c) ∧ ∀ c : Nat, 53 ≤ c → c < 67 → σ c = R_X4_judge σ0 (-1) c
theorem QR_of {σ μ : zG} (hV : VS σ μ) (hB : BK σ μ) (hD : DD σ) (hJ : LJ σ) {μ' : zG} (e2 : μ' 2 = μ 2) (e9 : μ' 9 = μ 9) : QR σ (R_X12_run μ' (-1)) := by
  obtain ⟨σ0, h1, h2⟩ := hJ
  have hV0 : VS σ0 μ' := VS_row hV (fun c a b => h1 c (by omega) (by omega) (Or.inl b)) e2
  have hB0 : BK σ0 μ' := by
    unfold BK LN at *
    rw [h1 27 (by decide) (by decide) (by decide), h1 28 (by decide) (by decide) (by decide), h1 29 (by decide) (by decide) (by decide), h1 30 (by decide) (by decide) (by decide), h1 31 (by decide) (by decide) (by decide), h1 32 (by decide) (by decide) (by decide), h1 33 (by decide) (by decide) (by decide), e2, e9]
    exact hB
  have hD0 : DD σ0 := by
    unfold DD DY DYl at *
    rw [h1 27 (by decide) (by decide) (by decide), h1 28 (by decide) (by decide) (by decide), h1 29 (by decide) (by decide) (by decide), h1 34 (by decide) (by decide) (by decide)]
    exact hD
  refine QR_row (QR_run hV0 hB0 hD0) (fun c a b d => ?_)
  rcases d with d | d | d
  · rw [fr_R_X4_judge (h := by simp; omega)]; exact (h1 c a (by omega) (Or.inl d)).symm
  · rw [fr_R_X4_judge (h := by simp; omega)]; exact (h1 c a d.2 (Or.inr d.1)).symm
  · exact h2 c d b
theorem LJ_run (σ : zG) : LJ (R_X4_judge σ (-1)) := ⟨σ, fun c a b _ => (fr_R_X4_judge _ _ (by simp; omega)).symm, fun c _ _ => rfl⟩
theorem LJ_row {σ σ' : zG} (h : LJ σ) (e : ∀ c : Nat, 5 ≤ c → c < 67 → c < 16 ∨ (27 ≤ c ∧ c < 35) ∨ 53 ≤ c → σ' c = σ c) : LJ σ' := by
  obtain ⟨σ0, h1, h2⟩ := h
  exact ⟨σ0, fun c a b d => (h1 c a b d).trans (e c a (by omega) (by omega)).symm, fun c a b => (e c (by omega) b (Or.inr (Or.inr a))).trans (h2 c a b)⟩
