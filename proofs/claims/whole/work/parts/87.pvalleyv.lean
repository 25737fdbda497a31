/-! pure: the valley that was read becomes the valley that stands -/
theorem s80 : ∀ (n : Nat) (q : Int) (μ : zG), 0 ≤ q → (666 - q).toNat < n → ∀ j : Int, (q ≤ j → j < 666 → (S_X12_valley_80 n q μ).2 2 j = if 172 ≤ j then 0 else μ 3 j) ∧ (j < q → (S_X12_valley_80 n q μ).2 2 j = μ 2 j)
  | 0, q, μ, _, h, _ => absurd h (Nat.not_lt_zero _)
  | n + 1, q, μ, h0, h, j => by
    rw [S_X12_valley_80]
    by_cases c : 666 ≤ q
    · rw [if_pos c]; exact ⟨fun a b => absurd b (by omega), fun _ => rfl⟩
    · rw [if_neg c]
      have key : ∀ v : Int, v = (if 172 ≤ q then 0 else μ 3 q) → (q ≤ j → j < 666 → (S_X12_valley_80 n (q + 1) (zu μ 2 q v)).2 2 j = if 172 ≤ j then 0 else μ 3 j) ∧ (j < q → (S_X12_valley_80 n (q + 1) (zu μ 2 q v)).2 2 j = μ 2 j) := by
        intro v hv
        have ih := s80 n (q + 1) (zu μ 2 q v) (by omega) (by omega) j
        have r3 : zu μ 2 q v 3 = μ 3 := zu_row _ _ _ (by decide)
        rw [r3] at ih
        refine ⟨fun a b => ?_, fun a => ?_⟩
        · by_cases e : j = q
          · rw [ih.2 (by omega), e, zu_at]; exact hv
          · exact ih.1 (by omega) b
        · rw [ih.2 (by omega), zu_off _ _ _ (by omega)]
      by_cases k : 172 ≤ q
      · rw [if_pos k]; exact key 0 (by rw [if_pos k])
      · rw [if_neg k]; exact key _ (by rw [if_neg k])
theorem s118 : ∀ (n : Nat) (q : Int) (μ : zG), 0 ≤ q → (20 - q).toNat < n → ∀ j : Int, (q ≤ j → j < 20 → (S_X12_valley_118 n q μ).2 5 j = μ 5 (20 + j)) ∧ ((j < q ∨ 20 ≤ j) → (S_X12_valley_118 n q μ).2 5 j = μ 5 j)
  | 0, q, μ, _, h, _ => absurd h (Nat.not_lt_zero _)
  | n + 1, q, μ, h0, h, j => by
    rw [S_X12_valley_118]
    by_cases c : 20 ≤ q
    · rw [if_pos c]; exact ⟨fun a b => absurd b (by omega), fun _ => rfl⟩
    · rw [if_neg c]
      have ih := s118 n (q + 1) (zu μ 5 q (μ 5 (20 + q))) (by omega) (by omega) j
      refine ⟨fun a b => ?_, fun a => ?_⟩
      · by_cases e : j = q
        · rw [ih.2 (by omega), e, zu_at]
        · rw [ih.1 (by omega) b, zu_off _ _ _ (by omega)]
      · rw [ih.2 (by omega), zu_off _ _ _ (by omega)]
/-- the names of the valley that stands, and what it asks -/
def NW (σ μ : zG) : Prop := (∀ i : Int, 0 ≤ i → i < μ 2 0 → wr (σ 6 i) (μ 5 i)) ∧ (∀ f : Int, 0 ≤ f → f < μ 2 1 → wr (σ 8 f) (μ 5 (8 + f))) ∧ ∀ j : Int, 0 ≤ j → j < 96 → σ 14 j = μ 2 (76 + j) - 1 ∧ 0 ≤ μ 2 (76 + j) ∧ μ 2 (76 + j) ≤ 100
theorem valley_stands {τ μ σ' ν : zG} (h : NV τ μ) (a5 : ∀ j : Int, j = 0 ∨ j = 1 ∨ j = 2 → σ' 5 j = τ 16 j) (a6 : ∀ j : Int, 0 ≤ j → j < 8 → σ' 6 j = τ 17 j ∧ σ' 7 j = τ 18 j ∧ σ' 12 j = τ 23 j ∧ σ' 13 j = τ 24 j) (a8 : ∀ j : Int, 0 ≤ j → j < 12 → σ' 8 j = τ 19 j ∧ σ' 9 j = τ 20 j ∧ σ' 10 j = τ 21 j ∧ σ' 11 j = τ 22 j) (a14 : ∀ j : Int, 0 ≤ j → j < 96 → σ' 14 j = τ 25 j) (a15 : ∀ j : Int, 0 ≤ j → j < 5 → σ' 15 j = τ 26 j) (b2 : ∀ j : Int, 0 ≤ j → j < 172 → ν 2 j = μ 3 j) (b5 : ∀ j : Int, 0 ≤ j → j < 20 → ν 5 j = μ 5 (20 + j)) : VS σ' ν ∧ NW σ' ν := by
  obtain ⟨⟨q0, q1, q2, q3⟩, qF, qK, qS, qA, qT⟩ := h
  have n0 := b2 0 (by decide) (by decide)
  have n1 := b2 1 (by decide) (by decide)
  have n2 := b2 2 (by decide) (by decide)
  have qs := qS.1
  refine ⟨⟨?_, ?_, ⟨?_, ?_, fun i i0 i1 => ?_⟩, ?_, fun f f0 f1 => ?_, fun a a0 a8' => ?_⟩, fun i i0 i1 => ?_, fun f f0 f1 => ?_, fun j j0 j1 => ?_⟩
  · rw [a5 0 (by decide), n0]; exact q0
  · rw [a5 1 (by decide), n1]; exact q1
  · rw [n2]; exact qs.2
  · rw [a5 2 (by decide), n2]; exact qs.1
  · rw [n2] at i1
    have q := qS.2 i i0 i1
    have a := a6 i i0 (by omega)
    rw [a.2.2.1, a.2.2.2, n1, b2 (52 + (3 * i)) (by omega) (by omega), b2 ((52 + (3 * i)) + 1) (by omega) (by omega), b2 ((52 + (3 * i)) + 2) (by omega) (by omega)]
    exact ⟨q.1, q.2.1, q.2.2.1, q1.2.2, q.2.2.2⟩
  · have t := fun w w0 w1 => (qT.1 w w0 w1).1
    have s0 := t 0 (by decide) (by decide)
    have s1 := t 1 (by decide) (by decide)
    have s2 := t 2 (by decide) (by decide)
    have s3 := t 3 (by decide) (by decide)
    have s4 := t 4 (by decide) (by decide)
    rw [a15 0 (by decide) (by decide), a15 1 (by decide) (by decide), a15 2 (by decide) (by decide), a15 3 (by decide) (by decide), a15 4 (by decide) (by decide), b2 3 (by decide) (by decide), b2 4 (by decide) (by decide), b2 5 (by decide) (by decide), b2 6 (by decide) (by decide), b2 7 (by decide) (by decide)]
    exact ⟨s0, s1, s2, s3, s4, qT.2.2.2⟩
  · rw [n1] at f1
    have q := qF f f0 f1
    have a := a8 f f0 (by omega)
    rw [a.2.1, a.2.2.1, a.2.2.2, n0, b2 (8 + (3 * f)) (by omega) (by omega), b2 ((8 + (3 * f)) + 1) (by omega) (by omega), b2 ((8 + (3 * f)) + 2) (by omega) (by omega)]
    exact ⟨q.1.1, q.1.2.1, q.1.2.2, q.2⟩
  · have q := qK a a0 a8'
    have e := a6 a a0 a8'
    rw [e.2.1, n0, n1, b2 (44 + a) (by omega) (by omega)]
    exact ⟨fun _ => q.1, q.2⟩
  · rw [n0] at i1
    rw [(a6 i i0 (by omega)).1, b5 i i0 (by omega)]
    exact q2 i i0 i1
  · rw [n1] at f1
    rw [(a8 f f0 (by omega)).1, b5 (8 + f) (by omega) (by omega), show 20 + (8 + f) = 28 + f by omega]
    exact q3 f f0 f1
  · rw [a14 j j0 j1, b2 (76 + j) (by omega) (by omega)]
    exact qA j j0 j1
