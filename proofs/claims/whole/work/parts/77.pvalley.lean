/-! pure: the valley that is being read, on both sides -/
def NF (σ μ : zG) : Prop := ∀ f : Int, 0 ≤ f → f < μ 3 1 → (σ 20 f = μ 3 (8 + (3 * f)) ∧ σ 21 f = μ 3 ((8 + (3 * f)) + 1) ∧ σ 22 f = μ 3 ((8 + (3 * f)) + 2)) ∧ (1 ≤ μ 3 (8 + (3 * f)) ∧ μ 3 (8 + (3 * f)) ≤ 99) ∧ (0 ≤ μ 3 ((8 + (3 * f)) + 1) ∧ μ 3 ((8 + (3 * f)) + 1) ≤ 99) ∧ 0 ≤ μ 3 ((8 + (3 * f)) + 2) ∧ μ 3 ((8 + (3 * f)) + 2) < μ 3 0
def NK (σ μ : zG) : Prop := ∀ a : Int, 0 ≤ a → a < 8 → σ 18 a = μ 3 (44 + a) ∧ (0 ≤ μ 3 (44 + a) ∧ μ 3 (44 + a) < 4096) ∧ (∀ i : Int, μ 3 1 ≤ i → i < 12 → ¬ hb (μ 3 (44 + a)) i) ∧ (μ 3 0 ≤ a → μ 3 (44 + a) = 0)
def NS (σ μ : zG) : Prop := (σ 16 2 = μ 3 2 ∧ 0 ≤ μ 3 2 ∧ μ 3 2 ≤ 8) ∧ ∀ i : Int, 0 ≤ i → i < μ 3 2 → (0 ≤ μ 3 (52 + (3 * i)) ∧ μ 3 (52 + (3 * i)) < μ 3 1) ∧ (0 ≤ μ 3 ((52 + (3 * i)) + 1) ∧ μ 3 ((52 + (3 * i)) + 1) < μ 3 1) ∧ (0 ≤ μ 3 ((52 + (3 * i)) + 2) ∧ μ 3 ((52 + (3 * i)) + 2) < μ 3 1) ∧ σ 23 i = bor (bshl 1 (μ 3 (52 + (3 * i)))) (bshl 1 (μ 3 ((52 + (3 * i)) + 1))) ∧ σ 24 i = bshl 1 (μ 3 ((52 + (3 * i)) + 2))
def NA (σ μ : zG) : Prop := ∀ j : Int, 0 ≤ j → j < 96 → σ 25 j = μ 3 (76 + j) - 1 ∧ 0 ≤ μ 3 (76 + j) ∧ μ 3 (76 + j) ≤ 100
def NT (σ μ : zG) : Prop := (∀ w : Int, 0 ≤ w → w < 5 → σ 26 w = μ 3 (3 + w) ∧ (hb (σ 16 3) w ↔ hb (μ 0 20) (3 + w))) ∧ (0 ≤ σ 16 3 ∧ σ 16 3 < 4096) ∧ (0 ≤ μ 0 20 ∧ μ 0 20 < 4096) ∧ (1 ≤ μ 3 3 ∧ μ 3 3 ≤ 99) ∧ (0 ≤ μ 3 4 ∧ μ 3 4 ≤ 10) ∧ (10 ≤ μ 3 5 ∧ μ 3 5 ≤ 30) ∧ (0 ≤ μ 3 6 ∧ μ 3 6 ≤ 20) ∧ 10 ≤ μ 3 7 ∧ μ 3 7 ≤ 40
/-- all of the valley that is being read -/
def NV (σ μ : zG) : Prop := NM σ μ ∧ NF σ μ ∧ NK σ μ ∧ NS σ μ ∧ NA σ μ ∧ NT σ μ
theorem NV_row {σ τ μ ν : zG} (h : NV σ μ) (c : ∀ k : Nat, 16 ≤ k → k < 27 → τ k = σ k) (m3 : ν 3 = μ 3) (m5 : ν 5 = μ 5) (m0 : ν 0 20 = μ 0 20) : NV τ ν := by
  unfold NV NM NF NK NS NA NT at *
  rw [c 16 (by decide) (by decide), c 17 (by decide) (by decide), c 18 (by decide) (by decide), c 19 (by decide) (by decide), c 20 (by decide) (by decide), c 21 (by decide) (by decide), c 22 (by decide) (by decide), c 23 (by decide) (by decide), c 24 (by decide) (by decide), c 25 (by decide) (by decide), c 26 (by decide) (by decide), m3, m5, m0]
  exact h
/-- how a line ended on both sides -/
def SL (Vc Vm : Int) (σ μ : zG) : Prop := (Vm = 0 ∧ Vc = 0 ∧ σ 3 7 = μ 0 15 ∧ σ 3 5 = μ 0 16) ∨ (Vm = 1 ∧ Vc = 1 ∧ LK σ μ ∧ NV σ μ)
theorem nx_20 (μ : zG) : F_X12_next μ 0 20 = μ 0 20 := (next_all _).2.1 20 (by decide) (by decide) (by decide) (by decide) (by decide) (by decide)
theorem nx_r (μ : zG) {k : Nat} (h : k ≠ 0) : F_X12_next μ k = μ k := (next_all μ).1 k h
theorem st_r (σ : zG) {k : Nat} (h : k ≠ 3) : F_X5_step σ k = σ k := fr_F_X5_step σ (by simpa using h)
theorem NV_nx {σ μ : zG} (h : NV σ μ) : NV σ (F_X12_next μ) := NV_row h (fun _ _ _ => rfl) (nx_r μ (by decide)) (nx_r μ (by decide)) (nx_20 μ)
theorem NV_st {σ μ : zG} (h : NV σ μ) : NV (F_X5_step σ) μ := NV_row h (fun k a b => st_r σ (by omega)) rfl rfl rfl
theorem KW_row {σ τ μ ν : zG} (h : KW σ μ) (c : τ 4 = σ 4) (m : ν 6 = μ 6) : KW τ ν := by
  unfold KW at *
  rw [c, m]
  exact h
theorem who_sim {σ μ : zG} (hK : KW σ μ) (hP : TP σ μ) (hT : TK σ μ) (hN : NV σ μ) :
    SL (V_X9_takeWho σ) (if (μ 3 0) = 8 then 0 else (if (V_X12_fresh (F_X12_next μ) (20 + (μ 3 0))) = 0 then 0 else 1)) (F_X9_takeWho σ) (if (μ 3 0) = 8 then (zu (zu μ 0 15 4) 0 16 (μ 0 12)) else (if (V_X12_fresh (F_X12_next μ) (20 + (μ 3 0))) = 0 then (F_X12_fresh (F_X12_next μ) (20 + (μ 3 0))) else (zu (F_X12_fresh (F_X12_next μ) (20 + (μ 3 0))) 3 0 ((μ 3 0) + 1)))) := by
  have hL := LK_next hP
  have hN1 := NV_nx hN
  have hK1 : KW σ (F_X12_next μ) := KW_row hK rfl (nx_r μ (by decide))
  have hp := hN.1.1
  unfold V_X9_takeWho F_X9_takeWho
  rw [hp.1]
  by_cases c : μ 3 0 = 8
  · rw [if_pos c, if_pos c, if_neg (show ¬ μ 3 0 < 8 by omega), if_neg (show ¬ μ 3 0 < 8 by omega)]
    refine Or.inl ⟨rfl, rfl, ?_, ?_⟩
    · rw [zu_at, zu_off _ _ _ (by decide), zu_at]
    · rw [zu_off _ _ _ (by decide), zu_at]; exact hT.1
  · rw [if_neg c, if_neg c, if_pos (show μ 3 0 < 8 by omega), if_pos (show μ 3 0 < 8 by omega)]
    rcases fresh_sim (to := 20 + μ 3 0) hK1 hL hN1.1 with ⟨a1, a2, a3, a4⟩ | ⟨a1, a2, a3, a4, a5, a6⟩
    · rw [if_pos a1, if_pos a1, if_pos a2, if_pos a2]
      exact Or.inl ⟨rfl, rfl, a3, a4⟩
    · rw [if_neg (show ¬ V_X12_fresh (F_X12_next μ) (20 + μ 3 0) = 0 by omega), if_neg (show ¬ V_X12_fresh (F_X12_next μ) (20 + μ 3 0) = 0 by omega), if_neg (show ¬ V_X9_takeNewName σ = 0 by omega), if_neg (show ¬ V_X9_takeNewName σ = 0 by omega), a5]
      refine Or.inr ⟨rfl, rfl, ?_, ?_⟩
      · refine LK_row a4 ?_ ?_ ?_ (zu_row _ _ _ (by decide)) (fun j _ => zu_ne _ _ _ _ (by decide))
        all_goals rw [zu_row _ _ _ (by decide), zu_row _ _ _ (by decide)]
      · rw [a6]
        generalize hw : F_X12_next μ 0 17 = w at *
        generalize hcode : F_X5_step σ 3 6 = code at *
        obtain ⟨⟨q0, q1, q2, q3⟩, qF, qK, qS, qA, qT⟩ := hN
        have c16 : ∀ j : Int, zu (zu (F_X5_step σ) 17 (μ 3 0) code) 16 0 (μ 3 0 + 1) 16 j = if j = 0 then μ 3 0 + 1 else σ 16 j := fun j => by rw [zu_if, zu_row _ _ _ (by decide), st_r σ (by decide)]
        have c17 : ∀ j : Int, zu (zu (F_X5_step σ) 17 (μ 3 0) code) 16 0 (μ 3 0 + 1) 17 j = if j = μ 3 0 then code else σ 17 j := fun j => by rw [zu_ne _ _ _ _ (by decide), zu_if, st_r σ (by decide)]
        have cr : ∀ k : Nat, 18 ≤ k → zu (zu (F_X5_step σ) 17 (μ 3 0) code) 16 0 (μ 3 0 + 1) k = σ k := fun k hk => by rw [zu_row _ _ _ (by omega), zu_row _ _ _ (by omega), st_r σ (by omega)]
        have m3 : ∀ j : Int, zu (F_X12_next (zu (F_X12_next μ) 5 (20 + μ 3 0) w)) 3 0 (μ 3 0 + 1) 3 j = if j = 0 then μ 3 0 + 1 else μ 3 j := fun j => by rw [zu_if, nx_r _ (by decide), zu_row _ _ _ (by decide), nx_r _ (by decide)]
        have m5 : ∀ j : Int, zu (F_X12_next (zu (F_X12_next μ) 5 (20 + μ 3 0) w)) 3 0 (μ 3 0 + 1) 5 j = if j = 20 + μ 3 0 then w else μ 5 j := fun j => by rw [zu_ne _ _ _ _ (by decide), nx_r _ (by decide), zu_if, nx_r _ (by decide)]
        have m0 : zu (F_X12_next (zu (F_X12_next μ) 5 (20 + μ 3 0) w)) 3 0 (μ 3 0 + 1) 0 20 = μ 0 20 := by rw [zu_ne _ _ _ _ (by decide), nx_20, zu_ne _ _ _ _ (by decide), nx_20]
        generalize zu (zu (F_X5_step σ) 17 (μ 3 0) code) 16 0 (μ 3 0 + 1) = τ at *
        generalize zu (F_X12_next (zu (F_X12_next μ) 5 (20 + μ 3 0) w)) 3 0 (μ 3 0 + 1) = ν at *
        have n0 : ν 3 0 = μ 3 0 + 1 := by rw [m3, if_pos rfl]
        have nj : ∀ j : Int, j ≠ 0 → ν 3 j = μ 3 j := fun j hj => by rw [m3, if_neg hj]
        refine ⟨⟨?_, ?_, fun j j0 j1 => ?_, fun j j0 j1 => ?_⟩, fun f f0 f1 => ?_, fun a a0 a8 => ?_, ⟨?_, fun i i0 i1 => ?_⟩, fun j j0 j1 => ?_, ⟨fun w w0 w1 => ?_, ?_, ?_, ?_⟩⟩
        · rw [c16, if_pos rfl, n0]; omega
        · rw [c16, if_neg (by decide), nj 1 (by decide)]; exact q1
        · rw [n0] at j1
          rw [c17, m5]
          by_cases e : j = μ 3 0
          · rw [if_pos e, if_pos (by omega)]; exact a3
          · rw [if_neg e, if_neg (by omega)]; exact q2 j j0 (by omega)
        · rw [nj 1 (by decide)] at j1
          rw [cr 19 (by decide), m5, if_neg (by omega)]
          exact q3 j j0 j1
        · rw [nj 1 (by decide)] at f1
          have := qF f f0 f1
          rw [cr 20 (by decide), cr 21 (by decide), cr 22 (by decide), n0, nj _ (by omega), nj _ (by omega), nj _ (by omega)]
          exact ⟨this.1, this.2.1, this.2.2.1, this.2.2.2.1, by have := this.2.2.2.2; omega⟩
        · have := qK a a0 a8
          rw [cr 18 (by decide), nj _ (by omega), nj 1 (by decide), n0]
          exact ⟨this.1, this.2.1, this.2.2.1, fun h => this.2.2.2 (by omega)⟩
        · rw [c16, if_neg (by decide), nj 2 (by decide)]; exact qS.1
        · rw [nj 2 (by decide)] at i1
          have := qS.2 i i0 i1
          rw [cr 23 (by decide), cr 24 (by decide), nj 1 (by decide), nj _ (by omega), nj _ (by omega), nj _ (by omega)]
          exact this
        · rw [cr 25 (by decide), nj _ (by omega)]; exact qA j j0 j1
        · have := qT.1 w w0 w1
          rw [cr 26 (by decide), c16, if_neg (by decide), nj _ (by omega), m0]; exact this
        · rw [c16, if_neg (by decide)]; exact qT.2.1
        · rw [m0]; exact qT.2.2.1
        · rw [nj 3 (by decide), nj 4 (by decide), nj 5 (by decide), nj 6 (by decide), nj 7 (by decide)]; exact qT.2.2.2
