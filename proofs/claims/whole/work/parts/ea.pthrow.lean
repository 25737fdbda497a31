/-! pure: the four calls that may throw, on both sides -/
def TIE (ans : Option Int) (v t : Int) : Prop := (ans = none ∧ t = 1) ∨ (ans = some v ∧ t = 0)
theorem tie_0 {ans : Option Int} {v : Int} {μ : zG} (h : ans = some v) : TIE ans v (zu μ 0 0 0 0 0) := Or.inr ⟨h, zu_at _ _ _ _⟩
theorem tie_1 {ans : Option Int} {v : Int} {μ : zG} (h : ans = none) : TIE ans v (zu μ 0 0 1 0 0) := Or.inl ⟨h, zu_at _ _ _ _⟩
theorem QR_m0 {σ μ : zG} (h : QR σ μ) (v : Int) : QR σ (zu μ 0 0 v) := by
  have e : ∀ k : Nat, k ≠ 0 → zu μ 0 0 v k = μ k := fun k hk => zu_row _ _ _ hk
  have e43 : zu μ 0 0 v 0 43 = μ 0 43 := by rw [zu_if, if_neg (by decide)]
  have e44 : zu μ 0 0 v 0 44 = μ 0 44 := by rw [zu_if, if_neg (by decide)]
  have e45 : zu μ 0 0 v 0 45 = μ 0 45 := by rw [zu_if, if_neg (by decide)]
  have e46 : zu μ 0 0 v 0 46 = μ 0 46 := by rw [zu_if, if_neg (by decide)]
  unfold QR VS SR BK LN LR LC LXd LXp LXw at *
  rw [e43, e44, e45, e46, e 2 (by decide), e 9 (by decide), e 11 (by decide), e 12 (by decide), e 13 (by decide), e 14 (by decide), e 15 (by decide), e 16 (by decide), e 17 (by decide), e 18 (by decide), e 19 (by decide), e 20 (by decide), e 21 (by decide), e 22 (by decide), e 23 (by decide), e 24 (by decide), e 25 (by decide)]
  exact h
theorem tie_fact {σ μ : zG} (hV : VS σ μ) (f i : Int) : TIE (A_X11_fact σ f i) (V_X12_fact μ f i) (F_X12_fact μ f i 0 0) := by
  unfold A_X11_fact V_X12_fact F_X12_fact
  rw [hV.2.1.1]
  by_cases c : 0 ≤ f ∧ f < μ 2 1
  · have e := hV.2.2.2.2.1 f c.1 c.2
    have c' : 0 ≤ f ∧ f ≤ μ 2 1 - 1 := by omega
    rw [if_pos c, if_pos c', if_pos c']
    by_cases c2 : 0 ≤ i ∧ i ≤ 2
    · rw [if_pos c2, if_pos c2]
      refine tie_0 ?_
      rcases (show i = 0 ∨ i = 1 ∨ i = 2 by omega) with rfl | rfl | rfl
      · rw [if_pos rfl, e.1, Int.add_zero]
      · rw [if_neg (by decide), if_pos rfl, e.2.1]
      · rw [if_neg (by decide), if_neg (by decide), if_pos rfl, e.2.2.1]
    · rw [if_neg c2, if_neg c2]
      exact tie_1 (by rw [if_neg (by omega), if_neg (by omega), if_neg (by omega)])
  · have c' : ¬ (0 ≤ f ∧ f ≤ μ 2 1 - 1) := by omega
    rw [if_neg c, if_neg c', if_neg c']
    exact tie_1 rfl
theorem tie_line {σ μ : zG} (hB : BK σ μ) (x i : Int) : TIE (A_X11_line σ x i) (V_X12_line μ x i) (F_X12_line μ x i 0 0) := by
  unfold A_X11_line V_X12_line F_X12_line
  rw [hB.1.1]
  by_cases c : 0 ≤ x ∧ x < μ 2 172
  · have e := (hB.2.1 x c.1 c.2).1
    have c' : 0 ≤ x ∧ x ≤ μ 2 172 - 1 := by omega
    rw [if_pos c, if_pos c', if_pos c']
    by_cases c2 : 0 ≤ i ∧ i ≤ 4
    · rw [if_pos c2, if_pos c2]
      refine tie_0 ?_
      rcases (show i = 0 ∨ i = 1 ∨ i = 2 ∨ i = 3 ∨ i = 4 by omega) with rfl | rfl | rfl | rfl | rfl
      · rw [if_pos rfl, e.1, Int.add_zero]
      · rw [if_neg (by decide), if_pos rfl, e.2.1]
      · rw [if_neg (by decide), if_neg (by decide), if_pos rfl, e.2.2.1]
      · rw [if_neg (by decide), if_neg (by decide), if_neg (by decide), if_pos rfl, e.2.2.2.1]
      · rw [if_neg (by decide), if_neg (by decide), if_neg (by decide), if_neg (by decide), if_pos rfl, e.2.2.2.2.1]
    · rw [if_neg c2, if_neg c2]
      exact tie_1 (by rw [if_neg (by omega), if_neg (by omega), if_neg (by omega), if_neg (by omega), if_neg (by omega)])
  · have c' : ¬ (0 ≤ x ∧ x ≤ μ 2 172 - 1) := by omega
    rw [if_neg c, if_neg c', if_neg c']
    exact tie_1 rfl
theorem tie_debt {σ μ : zG} (hQ : QR σ (R_X12_run μ (-1))) (d i : Int) : TIE (A_X11_debt σ d i) (V_X12_debt μ d i) (F_X12_debt μ d i 0 0) := by
  unfold A_X11_debt V_X12_debt F_X12_debt
  generalize R_X12_run μ (-1) = ρ at *
  obtain ⟨hV, hB, ⟨hC, hX, hP, hW, h44⟩, hl, _⟩ := id hQ
  rw [hC.2.2.1.1]
  by_cases c : 0 ≤ d ∧ d < ρ 0 43
  · have e := (hC.2.2.2 d c.1 c.2).1
    have x := hX.1 d c.1 c.2
    have l := q_late (QR_m0 hQ 0) (d := d) c.1 (by rw [zu_if, if_neg (by decide)]; exact c.2)
    have c' : 0 ≤ d ∧ d ≤ ρ 0 43 - 1 := by omega
    rw [if_pos c, if_pos c', if_pos c']
    by_cases c2 : 0 ≤ i ∧ i ≤ 8
    · rw [if_pos c2, if_pos c2]
      refine tie_0 ?_
      rcases (show i = 0 ∨ i = 1 ∨ i = 2 ∨ i = 3 ∨ i = 4 ∨ i = 5 ∨ i = 6 ∨ i = 7 ∨ i = 8 by omega) with rfl | rfl | rfl | rfl | rfl | rfl | rfl | rfl | rfl
      · rw [if_pos rfl, if_pos rfl, e.1]
      · simp [e.2.1]
      · simp [e.2.2.1]
      · simp [x.1]
      · simp [e.2.2.2]
      · simp [x.2.1.1]
      · simp [x.2.2.1.1]
      · simp [x.2.2.2.1.1]
      · rw [l]
        by_cases c8 : V_X12_isLate (zu ρ 0 0 0) d = 0 <;> simp [c8]
    · rw [if_neg c2, if_neg c2]
      exact tie_1 (by rw [if_neg (by omega), if_neg (by omega), if_neg (by omega), if_neg (by omega), if_neg (by omega), if_neg (by omega), if_neg (by omega), if_neg (by omega), if_neg (by omega)])
  · have c' : ¬ (0 ≤ d ∧ d ≤ ρ 0 43 - 1) := by omega
    rw [if_neg c, if_neg c', if_neg c']
    exact tie_1 rfl
theorem tie_came {σ μ : zG} (hV : VS σ μ) (hQ : QR σ (R_X12_run μ (-1))) (h2 : R_X12_run μ (-1) 2 = μ 2) (who i : Int) : TIE (A_X11_came σ who i) (V_X12_came μ who i) (F_X12_came μ who i 0 0) := by
  unfold A_X11_came V_X12_came F_X12_came
  rw [hV.1.1]
  by_cases c : 0 ≤ who ∧ who < μ 2 0
  · have c' : 0 ≤ who ∧ who ≤ μ 2 0 - 1 := by omega
    rw [if_pos c, if_pos c', if_pos c']
    by_cases c2 : 0 ≤ i ∧ i ≤ 4
    · rw [if_pos c2, if_pos c2]
      refine tie_0 ?_
      rw [if_neg (by omega), if_pos c2.2, q_came (QR_m0 hQ 0) (by rw [zu_row _ _ _ (by decide), h2]; exact c) c2]
    · rw [if_neg c2, if_neg c2]
      refine tie_1 ?_
      by_cases c3 : i < 0
      · rw [if_pos c3]
      · rw [if_neg c3, if_neg (by omega)]
  · have c' : ¬ (0 ≤ who ∧ who ≤ μ 2 0 - 1) := by omega
    rw [if_neg c, if_neg c', if_neg c']
    exact tie_1 rfl
/-- such a call on both sides -/
def CALLX (M M' : zMI) (av : List zV) (σ μ : zG) : Prop := ∃ (ans : Option Int) (v : Int) (μ' : zG) (d' : Nat), d' ≤ 60 ∧ zDoX SC 6 M (zP 0 :: av) σ ans ∧ zDo SM d' M' (zP 0 :: av) μ (zEq (some (.inl v)) μ') ∧ REL σ μ' ∧ TIE ans v (μ' 0 0)
theorem REL_q {σ μ : zG} (h : REL σ μ) : QR σ (R_X12_run μ (-1)) := by
  obtain ⟨hT, hf, hKK, ⟨hV, hN, hB, hD, hS⟩, hJ, hR⟩ := h
  exact QR_of hV hB hD hJ rfl rfl
theorem k_fact {σ μ : zG} (h : REL σ μ) (f i : Int) : CALLX m_X11_fact m_X12_fact [.inl f, .inl i] σ μ := by
  have g := REL_giv h
  obtain ⟨⟨p8, p0⟩, F2, s8, m8, l60, ⟨hD, hO, hH, hW⟩, ⟨hN, hA, hB⟩, ⟨hMD, hMP⟩, hQ, e2⟩ := g
  obtain ⟨hT, hf, hKK, ⟨sV, sN, sB, sD, sS⟩, hJ, hFC, hLB, hBO, hI⟩ := id h
  exact ⟨_, _, _, 2, by decide, dox_X11_fact σ f i F2.2, does_X12_fact μ f i hN, REL_m h ⟨fun j hj => g_F_X12_fact hj _ _ _, fun k hk => fr_F_X12_fact _ _ _ (by simp; omega)⟩, tie_fact sV f i⟩
theorem k_line {σ μ : zG} (h : REL σ μ) (f i : Int) : CALLX m_X11_line m_X12_line [.inl f, .inl i] σ μ := by
  have g := REL_giv h
  obtain ⟨⟨p8, p0⟩, F2, s8, m8, l60, ⟨hD, hO, hH, hW⟩, ⟨hN, hA, hB⟩, ⟨hMD, hMP⟩, hQ, e2⟩ := g
  obtain ⟨hT, hf, hKK, ⟨sV, sN, sB, sD, sS⟩, hJ, hFC, hLB, hBO, hI⟩ := id h
  exact ⟨_, _, _, 1, by decide, dox_X11_line σ f i l60, does_X12_line μ f i hN, REL_m h ⟨fun j hj => g_F_X12_line hj _ _ _, fun k hk => fr_F_X12_line _ _ _ (by simp; omega)⟩, tie_line sB f i⟩
theorem k_debt {σ μ : zG} (h : REL σ μ) (f i : Int) : CALLX m_X11_debt m_X12_debt [.inl f, .inl i] σ μ := by
  have g := REL_giv h
  have q := REL_q h
  obtain ⟨⟨p8, p0⟩, F2, s8, m8, l60, ⟨hD, hO, hH, hW⟩, ⟨hN, hA, hB⟩, ⟨hMD, hMP⟩, hQ, e2⟩ := g
  obtain ⟨hT, hf, hKK, ⟨sV, sN, sB, sD, sS⟩, hJ, hFC, hLB, hBO, hI⟩ := id h
  refine ⟨_, _, _, 6, by decide, dox_X11_debt σ f i m8 (fun d d0 d1 => ?_) l60, does_X12_debt μ f i hN, REL_m h ⟨fun j hj => g_F_X12_debt hj _ _ _, fun k hk => fr_F_X12_debt _ _ _ (by simp; omega)⟩, tie_debt q f i⟩
  have c := q.2.2.1.1.2.2.1
  have b := q.2.1.1
  have x := (q.2.2.1.2.1.1 d d0 (by omega)).2.1
  omega
theorem k_came {σ μ : zG} (h : REL σ μ) (f i : Int) : CALLX m_X11_came m_X12_came [.inl f, .inl i] σ μ := by
  have g := REL_giv h
  have q := REL_q h
  obtain ⟨⟨p8, p0⟩, F2, s8, m8, l60, ⟨hD, hO, hH, hW⟩, ⟨hN, hA, hB⟩, ⟨hMD, hMP⟩, hQ, e2⟩ := g
  obtain ⟨hT, hf, hKK, ⟨sV, sN, sB, sD, sS⟩, hJ, hFC, hLB, hBO, hI⟩ := id h
  exact ⟨_, _, _, 6, by decide, dox_X11_came σ f i p8 m8, does_X12_came μ f i hN, REL_m h ⟨fun j hj => g_F_X12_came hj _ _ _, fun k hk => fr_F_X12_came _ _ _ (by simp; omega)⟩, tie_came sV q (run_2 _ _) f i⟩
