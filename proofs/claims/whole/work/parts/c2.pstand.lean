/-! pure: what stands: valley, book and sentence, and their copies -/
def STD (σ μ : zG) : Prop := VS σ μ ∧ NW σ μ ∧ BK σ μ ∧ DD σ ∧ SN σ μ
/-- the rows of what stands, on the class's side -/
def sEQ (σ' σ : zG) : Prop := (∀ j : Int, j = 0 ∨ j = 1 ∨ j = 2 → σ' 5 j = σ 5 j) ∧ (∀ j : Int, 0 ≤ j → j < 8 → σ' 6 j = σ 6 j ∧ σ' 7 j = σ 7 j ∧ σ' 12 j = σ 12 j ∧ σ' 13 j = σ 13 j) ∧ (∀ j : Int, 0 ≤ j → j < 12 → σ' 8 j = σ 8 j ∧ σ' 9 j = σ 9 j ∧ σ' 10 j = σ 10 j ∧ σ' 11 j = σ 11 j) ∧ (∀ j : Int, 0 ≤ j → j < 96 → σ' 14 j = σ 14 j) ∧ (∀ j : Int, 0 ≤ j → j < 5 → σ' 15 j = σ 15 j) ∧ (∀ j : Int, j = 0 ∨ j = 1 → σ' 27 j = σ 27 j) ∧ (∀ j : Int, 0 ≤ j → j < 60 → σ' 28 j = σ 28 j ∧ σ' 29 j = σ 29 j ∧ σ' 30 j = σ 30 j ∧ σ' 31 j = σ 31 j ∧ σ' 32 j = σ 32 j ∧ σ' 33 j = σ 33 j ∧ σ' 34 j = σ 34 j) ∧ (∀ j : Int, j = 0 ∨ j = 1 → σ' 43 j = σ 43 j) ∧ ∀ j : Int, 0 ≤ j → j < 40 → σ' 44 j = σ 44 j ∧ σ' 45 j = σ 45 j ∧ σ' 46 j = σ 46 j
/-- the same on the model's side -/
def mEQ (μ' μ : zG) : Prop := (∀ j : Int, 0 ≤ j → j < 666 → μ' 2 j = μ 2 j) ∧ (∀ j : Int, 0 ≤ j → j < 20 → μ' 5 j = μ 5 j) ∧ ∀ j : Int, 0 ≤ j → j < 60 → μ' 9 j = μ 9 j
theorem dsum_cg {T T' : Int → Int} : ∀ n : Nat, n ≤ 60 → (∀ j : Int, 0 ≤ j → j < 666 → T' j = T j) → dsum T' n = dsum T n
  | 0, _, _ => rfl
  | n + 1, h, e => by
    rw [dsum, dsum, dsum_cg n (by omega) e]
    unfold dl
    rw [e (173 + 5 * (n : Int)) (by omega) (by omega), e (173 + 5 * (n : Int) + 4) (by omega) (by omega)]
theorem STD_cg {σ σ' μ μ' : zG} (h : STD σ μ) (hs : sEQ σ' σ) (hm : mEQ μ' μ) : STD σ' μ' := by
  obtain ⟨hV, hN, hB, hD, hS⟩ := h
  obtain ⟨e5, e6, e8, e14, e15, e27, e28, e43, e44⟩ := hs
  obtain ⟨m2, m5, m9⟩ := hm
  obtain ⟨h0, h1, ⟨s0, s1, s2⟩, ht, hf, hk⟩ := hV
  have n0 := m2 0 (by decide) (by decide)
  have n1 := m2 1 (by decide) (by decide)
  have n2 := m2 2 (by decide) (by decide)
  have n172 := m2 172 (by decide) (by decide)
  refine ⟨⟨?_, ?_, ⟨?_, ?_, fun i i0 i1 => ?_⟩, ?_, fun f f0 f1 => ?_, fun a a0 a8 => ?_⟩, ⟨fun i i0 i1 => ?_, fun f f0 f1 => ?_, fun j j0 j1 => ?_⟩, ⟨?_, fun i i0 i1 => ?_, ?_⟩, ⟨fun i i0 i1 => ?_, ?_, fun i j i0 ij j1 => ?_, fun i i0 i1 => ?_⟩, ?_⟩
  · rw [e5 0 (by decide), n0]; exact h0
  · rw [e5 1 (by decide), n1]; exact h1
  · rw [n2]; exact s0
  · rw [e5 2 (by decide), n2]; exact s1
  · rw [n2] at i1
    have q := s2 i i0 i1
    have a := e6 i i0 (by omega)
    rw [a.2.2.1, a.2.2.2, n1, m2 (52 + (3 * i)) (by omega) (by omega), m2 ((52 + (3 * i)) + 1) (by omega) (by omega), m2 ((52 + (3 * i)) + 2) (by omega) (by omega)]
    exact q
  · rw [e15 0 (by decide) (by decide), e15 1 (by decide) (by decide), e15 2 (by decide) (by decide), e15 3 (by decide) (by decide), e15 4 (by decide) (by decide), m2 3 (by decide) (by decide), m2 4 (by decide) (by decide), m2 5 (by decide) (by decide), m2 6 (by decide) (by decide), m2 7 (by decide) (by decide)]
    exact ht
  · rw [n1] at f1
    have q := hf f f0 f1
    have a := e8 f f0 (by omega)
    rw [a.2.1, a.2.2.1, a.2.2.2, n0, m2 (8 + (3 * f)) (by omega) (by omega), m2 ((8 + (3 * f)) + 1) (by omega) (by omega), m2 ((8 + (3 * f)) + 2) (by omega) (by omega)]
    exact q
  · have q := hk a a0 a8
    rw [(e6 a a0 a8).2.1, n0, n1, m2 (44 + a) (by omega) (by omega)]
    exact q
  · rw [n0] at i1
    rw [(e6 i i0 (by omega)).1, m5 i i0 (by omega)]
    exact hN.1 i i0 i1
  · rw [n1] at f1
    rw [(e8 f f0 (by omega)).1, m5 (8 + f) (by omega) (by omega)]
    exact hN.2.1 f f0 f1
  · rw [e14 j j0 j1, m2 (76 + j) (by omega) (by omega)]
    exact hN.2.2 j j0 j1
  · rw [e27 0 (by decide), n172]; exact hB.1
  · rw [n172] at i1
    have b := hB.1
    have q := hB.2.1 i i0 i1
    have a := e28 i i0 (by omega)
    unfold LN at *
    rw [a.1, a.2.1, a.2.2.1, a.2.2.2.1, a.2.2.2.2.1, a.2.2.2.2.2.1, n0, n1, m9 i i0 (by omega), m2 (173 + (5 * i)) (by omega) (by omega), m2 ((173 + (5 * i)) + 1) (by omega) (by omega), m2 ((173 + (5 * i)) + 2) (by omega) (by omega), m2 ((173 + (5 * i)) + 3) (by omega) (by omega), m2 ((173 + (5 * i)) + 4) (by omega) (by omega)]
    exact q
  · have b := hB.1
    rw [n172, dsum_cg _ (by omega) m2]; exact hB.2.2
  · rw [e27 0 (by decide)] at i1
    have b := hB.1
    have q := hD.1 i i0 i1
    have a := e28 i i0 (by omega)
    unfold DYl at *
    rw [a.1, a.2.1, a.2.2.2.2.2.2]
    refine ⟨q.1, fun x => ?_⟩
    rw [q.2 x]
    by_cases z : i = 0
    · rw [if_pos z, if_pos z]
    · rw [if_neg z, if_neg z, (e28 (i - 1) (by omega) (by omega)).2.2.2.2.2.2]
  · have b := hB.1
    rw [e27 0 (by decide), e27 1 (by decide), hD.2.1]
    by_cases z : σ 27 0 = 0
    · rw [if_pos z, if_pos z]
    · rw [if_neg z, if_neg z, (e28 (σ 27 0 - 1) (by omega) (by omega)).2.2.2.2.2.2]
  · have b := hB.1
    rw [e27 0 (by decide)] at j1
    rw [(e28 i i0 (by omega)).2.2.2.2.2.2, (e28 j (by omega) (by omega)).2.2.2.2.2.2]
    exact hD.2.2.1 i j i0 ij j1
  · have b := hB.1
    rw [e27 0 (by decide)] at i1
    rw [(e28 i i0 (by omega)).2.2.2.2.2.2]
    exact hD.2.2.2 i i0 i1
  · obtain ⟨C, ⟨c1, c2⟩, ⟨c3, c4⟩, c5, c6, c7, c8, c9⟩ := hS
    refine ⟨C, ⟨by rw [e43 1 (by decide)]; exact c1, KL_c C (fun j j0 j1 => e44 j j0 (by omega)) c2⟩, ⟨by rw [m2 473 (by decide) (by decide)]; exact c3, CL_c C (fun j j0 j1 => m2 (474 + j) (by omega) (by omega)) c4⟩, by rw [n1]; exact c5, c6, by rw [e43 0 (by decide)]; exact c7, by rw [e43 0 (by decide)]; exact c8, c9⟩
/-- an image as if it stood: the class's cells from a on -/
def vS (a : Nat) (σ : zG) : zG := fun k => if 5 ≤ k ∧ k < 16 then σ (a + 1 + (k - 5)) else if 27 ≤ k ∧ k < 35 then σ (a + 12 + (k - 27)) else if 43 ≤ k ∧ k < 47 then σ (a + 20 + (k - 43)) else σ k
def vM (x : Int) (μ : zG) : zG := fun k j => if k = 2 then μ 39 (666 * x + j) else if k = 5 then μ 40 (20 * x + j) else if k = 9 then μ 10 (60 * x + j) else μ k j
/-- the two images on both sides -/
def IMG (σ μ : zG) : Prop := ((σ 100 0 = 0 ↔ μ 41 0 = 0) ∧ (¬ σ 100 0 = 0 → STD (vS 100 σ) (vM 0 μ))) ∧ (σ 125 0 = 0 ↔ μ 41 1 = 0) ∧ (¬ σ 125 0 = 0 → STD (vS 125 σ) (vM 1 μ))
