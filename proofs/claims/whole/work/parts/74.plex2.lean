/-! pure: a token on both sides -/
theorem next_val (σ : zG) {Q C : Int} {T : Int × Int × Int × Int × Int} (hQ : skm (mu σ) (σ 0 3) 1000 (σ 0 4) = Q) (hC : pkc (mu σ) (σ 0 3) Q = C) (hT : mtR (mu σ) (σ 0 3) (b2 (97 ≤ C ∧ C ≤ 122)) 1000 1 0 0 0 Q = T) :
    (¬ σ 0 3 ≤ σ 0 5 → ¬ Q < σ 0 5 → F_X12_next σ 0 11 = 4 ∧ F_X12_next σ 0 12 = σ 0 5 ∧ F_X12_next σ 0 4 = Q) ∧
    (σ 0 3 ≤ σ 0 5 ∨ Q < σ 0 5 → (C < 0 → F_X12_next σ 0 11 = 0 ∧ F_X12_next σ 0 12 = Q ∧ F_X12_next σ 0 4 = Q) ∧
      (0 ≤ C → ((97 ≤ C ∧ C ≤ 122) ∨ (48 ≤ C ∧ C ≤ 57)) → F_X12_next σ 0 12 = Q ∧ F_X12_next σ 0 4 = T.2.2.2.2 ∧ F_X12_next σ 0 17 = T.2.1 ∧ F_X12_next σ 0 14 = T.2.2.1 ∧ (97 ≤ C → T.1 ≠ 0 → T.2.2.2.1 ≤ 6 → F_X12_next σ 0 11 = 1) ∧ (97 ≤ C → (T.1 = 0 ∨ 6 < T.2.2.2.1) → F_X12_next σ 0 11 = 4) ∧ (C < 97 → T.1 ≠ 0 → T.2.2.2.1 ≤ 3 → F_X12_next σ 0 11 = 2) ∧ (C < 97 → (T.1 = 0 ∨ 3 < T.2.2.2.1) → F_X12_next σ 0 11 = 4)) ∧
      (0 ≤ C → ¬ ((97 ≤ C ∧ C ≤ 122) ∨ (48 ≤ C ∧ C ≤ 57)) → F_X12_next σ 0 12 = Q ∧ F_X12_next σ 0 4 = Q + 1 ∧ F_X12_next σ 0 14 = C ∧ ((C = 59 ∨ C = 40 ∨ C = 41 ∨ (60 ≤ C ∧ C ≤ 62)) → F_X12_next σ 0 11 = 3) ∧ (¬ (C = 59 ∨ C = 40 ∨ C = 41 ∨ (60 ≤ C ∧ C ≤ 62)) → F_X12_next σ 0 11 = 4))) := by
  obtain ⟨τ, hF⟩ : ∃ τ, τ = F_X12_next σ := ⟨_, rfl⟩
  rw [← hF]
  unfold F_X12_next at hF
  rw [hQ, hC, hT] at hF
  clear hQ hC hT
  repeat' split at hF
  all_goals subst hF
  all_goals simp [zu]
  all_goals omega
/-- the tape and how far it is read -/
def TP (σ μ : zG) : Prop := (σ 1 1 = μ 0 3 ∧ 0 ≤ μ 0 3 ∧ μ 0 3 ≤ 940) ∧ (∀ j : Int, 0 ≤ j → j < 940 → σ 2 j = mu μ j ∧ 0 ≤ σ 2 j ∧ σ 2 j ≤ 255) ∧ σ 3 2 = min (μ 0 3) (μ 0 5) ∧ (0 ≤ σ 3 3 ∧ 0 ≤ μ 0 4 ∧ μ 0 4 ≤ μ 0 3) ∧ (σ 3 3 = μ 0 4 ∨ (σ 3 2 ≤ σ 3 3 ∧ σ 3 2 ≤ μ 0 4)) ∧ 0 ≤ μ 0 5
/-- the token that is read -/
def TK (σ μ : zG) : Prop := σ 3 5 = μ 0 12 ∧ ((σ 3 4 = 0 ∧ μ 0 11 = 0) ∨ (σ 3 4 = 1 ∧ μ 0 11 = 4) ∨ (σ 3 4 = 2 ∧ μ 0 11 = 1 ∧ wr (σ 3 6) (μ 0 17)) ∨ (σ 3 4 = 3 ∧ μ 0 11 = 2 ∧ σ 3 6 = μ 0 14 ∧ 0 ≤ μ 0 14 ∧ μ 0 14 ≤ 999) ∨ (σ 3 4 = 4 ∧ μ 0 11 = 3 ∧ σ 3 6 = μ 0 14))
theorem step_vals (σ : zG) : F_X5_step σ 3 3 = (Tk (σ 2) (σ 1 1) (σ 3 2) (σ 3 3)).2.2.2 ∧ F_X5_step σ 3 4 = (Tk (σ 2) (σ 1 1) (σ 3 2) (σ 3 3)).1 ∧ F_X5_step σ 3 5 = (Tk (σ 2) (σ 1 1) (σ 3 2) (σ 3 3)).2.1 ∧ F_X5_step σ 3 6 = (Tk (σ 2) (σ 1 1) (σ 3 2) (σ 3 3)).2.2.1 ∧ F_X5_step σ 3 7 = σ 3 7 ∧ F_X5_step σ 3 2 = σ 3 2 := by
  unfold F_X5_step zRd
  simp
theorem lex_step {σ μ : zG} (h : TP σ μ) : TP (F_X5_step σ) (F_X12_next μ) ∧ TK (F_X5_step σ) (F_X12_next μ) := by
  obtain ⟨⟨e1, l0, l1⟩, hb, e2, ⟨p0, p1, p2⟩, hp, p5⟩ := h
  obtain ⟨s3, s4, s5, s6, s7, s2⟩ := step_vals σ
  have nk := next_all μ
  have n3 : F_X12_next μ 0 3 = μ 0 3 := nk.2.1 3 (by decide) (by decide) (by decide) (by decide) (by decide) (by decide)
  have n5 : F_X12_next μ 0 5 = μ 0 5 := nk.2.1 5 (by decide) (by decide) (by decide) (by decide) (by decide) (by decide)
  have nmu : mu (F_X12_next μ) = mu μ := by unfold mu; rw [nk.1 1 (by decide)]
  have c1 : F_X5_step σ 1 = σ 1 := fr_F_X5_step σ (by decide)
  have c2 : F_X5_step σ 2 = σ 2 := fr_F_X5_step σ (by decide)
  have hb' : ∀ j : Int, 0 ≤ j → j < μ 0 3 → σ 2 j = mu μ j := fun j j0 j1 => (hb j j0 (by omega)).1
  have hst : σ 3 2 ≤ μ 0 3 := by rw [e2]; exact Int.min_le_left _ _
  -- what is to be shown, in numbers
  have fin : ∀ (nx kd pl vl : Int), F_X5_step σ 3 3 = nx → F_X5_step σ 3 4 = kd → F_X5_step σ 3 5 = pl → F_X5_step σ 3 6 = vl → 0 ≤ nx → (nx = F_X12_next μ 0 4 ∨ (σ 3 2 ≤ nx ∧ σ 3 2 ≤ F_X12_next μ 0 4)) → pl = F_X12_next μ 0 12 → ((kd = 0 ∧ F_X12_next μ 0 11 = 0) ∨ (kd = 1 ∧ F_X12_next μ 0 11 = 4) ∨ (kd = 2 ∧ F_X12_next μ 0 11 = 1 ∧ wr vl (F_X12_next μ 0 17)) ∨ (kd = 3 ∧ F_X12_next μ 0 11 = 2 ∧ vl = F_X12_next μ 0 14 ∧ 0 ≤ F_X12_next μ 0 14 ∧ F_X12_next μ 0 14 ≤ 999) ∨ (kd = 4 ∧ F_X12_next μ 0 11 = 3 ∧ vl = F_X12_next μ 0 14)) → TP (F_X5_step σ) (F_X12_next μ) ∧ TK (F_X5_step σ) (F_X12_next μ) := by
    intro nx kd pl vl h3 h4 h5 h6 hn hpp hpl hk
    have q4 := nk.2.2.1
    refine ⟨⟨⟨by rw [c1, n3]; exact e1, by rw [n3]; exact l0, by rw [n3]; exact l1⟩, by rw [c2, nmu]; exact hb, by rw [s2, n3, n5]; exact e2, ⟨by omega, by omega, by omega⟩, by rw [h3, s2]; exact hpp, by omega⟩, ?_⟩
    unfold TK
    rw [h4, h5, h6]
    exact ⟨hpl, hk⟩
  refine fin _ _ _ _ s3 s4 s5 s6 ?_ ?_ ?_ ?_ <;> sorry
