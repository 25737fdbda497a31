/-! pure: a line that is well read leaves no fault -/
theorem f7_step (σ : zG) : F_X5_step σ 3 7 = σ 3 7 := (step_vals σ).2.2.2.2.1
theorem f7_sign (σ : zG) (c : Int) (h : ¬ V_X5_stepSign σ c = 0) : F_X5_stepSign σ c 3 7 = σ 3 7 := by rw [stepSign_ok h, f7_step]
theorem f7_num (σ : zG) (lo hi : Int) (h : ¬ V_X5_stepNumber σ lo hi = -1) : F_X5_stepNumber σ lo hi 3 7 = σ 3 7 := by
  unfold V_X5_stepNumber at h
  unfold F_X5_stepNumber
  by_cases a : F_X5_step σ 3 4 = 3
  · rw [if_pos a] at h ⊢
    by_cases b : F_X5_step σ 3 6 < lo
    · rw [if_pos b] at h; exact absurd rfl h
    · rw [if_neg b] at h ⊢
      by_cases c : F_X5_step σ 3 6 ≤ hi
      · rw [if_pos c, f7_step]
      · rw [if_neg c] at h; exact absurd rfl h
  · rw [if_neg a] at h; exact absurd rfl h
theorem f7_n17 (σ : zG) (mn : Int) (h : ¬ V_X5_stepName_17 σ mn = -1) : F_X5_stepName_17 σ mn 3 7 = σ 3 7 := by
  unfold V_X5_stepName_17 at h
  unfold F_X5_stepName_17
  by_cases a : V_X5_isName (F_X5_step σ) = 0
  · rw [if_pos a] at h; exact absurd rfl h
  · rw [if_neg a] at h ⊢
    rw [if_neg h, f7_step]
theorem f7_n19 (σ : zG) (mn : Int) (h : ¬ V_X5_stepName_19 σ mn = -1) : F_X5_stepName_19 σ mn 3 7 = σ 3 7 := by
  unfold V_X5_stepName_19 at h
  unfold F_X5_stepName_19
  by_cases a : V_X5_isName (F_X5_step σ) = 0
  · rw [if_pos a] at h; exact absurd rfl h
  · rw [if_neg a] at h ⊢
    rw [if_neg h, f7_step]
theorem f7_new (σ : zG) (h : ¬ V_X9_takeNewName σ = 0) : F_X9_takeNewName σ 3 7 = σ 3 7 := by
  unfold V_X9_takeNewName at h
  unfold F_X9_takeNewName
  repeat' split at h
  all_goals first | exact absurd rfl h | simp only [if_neg ‹_›, if_pos ‹_›, f7_step] | skip
  all_goals simp_all [f7_step]
theorem f7_who (σ : zG) (h : ¬ V_X9_takeWho σ = 0) : F_X9_takeWho σ 3 7 = σ 3 7 := by
  unfold V_X9_takeWho at h
  unfold F_X9_takeWho
  by_cases a : σ 16 0 < 8
  · rw [if_pos a] at h ⊢
    by_cases b : V_X9_takeNewName σ = 0
    · rw [if_pos b] at h; exact absurd rfl h
    · rw [if_neg b, zu_ne _ _ _ _ (by decide), zu_ne _ _ _ _ (by decide), f7_new σ b]
  · rw [if_neg a] at h; exact absurd rfl h
theorem f7_fact (σ : zG) (h : ¬ V_X9_takeFact σ = 0) : F_X9_takeFact σ 3 7 = σ 3 7 := by
  unfold V_X9_takeFact at h
  unfold F_X9_takeFact
  by_cases a : σ 16 1 < 12
  · rw [if_pos a] at h ⊢
    by_cases b : V_X9_takeNewName σ = 0
    · rw [if_pos b] at h; exact absurd rfl h
    · rw [if_neg b] at h ⊢
      by_cases c : V_X5_stepNumber (F_X9_takeNewName σ) 1 99 = -1
      · rw [if_pos c] at h; exact absurd rfl h
      · rw [if_neg c] at h ⊢
        by_cases d : V_X5_stepNumber (F_X5_stepNumber (F_X9_takeNewName σ) 1 99) 0 99 = -1
        · rw [if_pos d] at h; exact absurd rfl h
        · rw [if_neg d] at h ⊢
          by_cases e : V_X5_stepName_17 (F_X5_stepNumber (F_X5_stepNumber (F_X9_takeNewName σ) 1 99) 0 99) (σ 16 0) = -1
          · rw [if_pos e] at h; exact absurd rfl h
          · rw [if_neg e, zu_ne _ _ _ _ (by decide), zu_ne _ _ _ _ (by decide), zu_ne _ _ _ _ (by decide), zu_ne _ _ _ _ (by decide), zu_ne _ _ _ _ (by decide), f7_n17 _ _ e, f7_num _ _ _ d, f7_num _ _ _ c, f7_new σ b]
  · rw [if_neg a] at h; exact absurd rfl h
theorem f7_knows (σ : zG) (h : ¬ V_X9_takeKnows σ = 0) : F_X9_takeKnows σ 3 7 = σ 3 7 := by
  unfold V_X9_takeKnows at h
  unfold F_X9_takeKnows
  by_cases a : V_X5_stepName_17 σ (σ 16 0) = -1
  · rw [if_pos a] at h; exact absurd rfl h
  · rw [if_neg a] at h ⊢
    by_cases b : V_X5_stepName_19 (F_X5_stepName_17 σ (σ 16 0)) (σ 16 1) = -1
    · rw [if_pos b] at h; exact absurd rfl h
    · rw [if_neg b] at h ⊢
      by_cases c : hb (σ 18 (V_X5_stepName_17 σ (σ 16 0))) (V_X5_stepName_19 (F_X5_stepName_17 σ (σ 16 0)) (σ 16 1))
      · rw [if_pos c] at h; exact absurd rfl h
      · rw [if_neg c, zu_ne _ _ _ _ (by decide), f7_n19 _ _ b, f7_n17 _ _ a]
theorem f7_asks (σ : zG) (h : ¬ V_X9_takeAsks σ = 0) : F_X9_takeAsks σ 3 7 = σ 3 7 := by
  unfold V_X9_takeAsks at h
  unfold F_X9_takeAsks
  by_cases a : V_X5_stepName_17 σ (σ 16 0) = -1
  · rw [if_pos a] at h; exact absurd rfl h
  · rw [if_neg a] at h ⊢
    by_cases b : V_X5_stepName_19 (F_X5_stepName_17 σ (σ 16 0)) (σ 16 1) = -1
    · rw [if_pos b] at h; exact absurd rfl h
    · rw [if_neg b] at h ⊢
      by_cases c : σ 25 (((V_X5_stepName_17 σ (σ 16 0)) * 12) + (V_X5_stepName_19 (F_X5_stepName_17 σ (σ 16 0)) (σ 16 1))) = -1
      · rw [if_pos c] at h ⊢
        by_cases d : V_X5_stepNumber (F_X5_stepName_19 (F_X5_stepName_17 σ (σ 16 0)) (σ 16 1)) 0 99 = -1
        · rw [if_pos d] at h; exact absurd rfl h
        · rw [if_neg d, zu_ne _ _ _ _ (by decide), f7_num _ _ _ d, f7_n19 _ _ b, f7_n17 _ _ a]
      · rw [if_neg c] at h; exact absurd rfl h
theorem f7_set (σ : zG) (w : Int) (h : ¬ V_X9_takeSetting σ w = 0) : F_X9_takeSetting σ w 3 7 = σ 3 7 := by
  unfold V_X9_takeSetting at h
  unfold F_X9_takeSetting
  by_cases a : hb (σ 16 3) w
  · rw [if_pos a] at h; exact absurd rfl h
  · rw [if_neg a] at h ⊢
    by_cases b : V_X5_stepNumber σ (zset 1 w.toNat) (zset 2 w.toNat) = -1
    · rw [if_pos b] at h; exact absurd rfl h
    · rw [if_neg b, zu_ne _ _ _ _ (by decide), zu_ne _ _ _ _ (by decide), f7_num _ _ _ b]
theorem f7_sinceL : ∀ (n : Nat) (nd gi q : Int) (σ : zG), ¬ (L_X9_takeSince_22 n nd gi q σ).1 = 0 → (L_X9_takeSince_22 n nd gi q σ).2 3 7 = σ 3 7
  | 0, nd, gi, q, σ, h => absurd rfl h
  | n + 1, nd, gi, q, σ, h => by
    rw [L_X9_takeSince_22] at h ⊢
    by_cases a : 3 ≤ q
    · rw [if_pos a]
      show zu (zu (zu σ 23 (σ 16 2) nd) 24 (σ 16 2) gi) 16 2 ((σ 16 2) + 1) 3 7 = σ 3 7
      rw [zu_ne _ _ _ _ (by decide), zu_ne _ _ _ _ (by decide), zu_ne _ _ _ _ (by decide)]
    · rw [if_neg a] at h ⊢
      by_cases b : V_X5_stepName_19 σ (σ 16 1) = -1
      · rw [if_pos b] at h; exact absurd rfl h
      · rw [if_neg b] at h ⊢
        by_cases c : hb nd (V_X5_stepName_19 σ (σ 16 1))
        · rw [if_pos c] at h; exact absurd rfl h
        · rw [if_neg c] at h ⊢
          by_cases d : 2 ≤ q
          · rw [if_pos d] at h ⊢
            rw [f7_sinceL n _ _ _ _ h, f7_n19 _ _ b]
          · rw [if_neg d] at h ⊢
            rw [f7_sinceL n _ _ _ _ h, f7_n19 _ _ b]
theorem f7_since (σ : zG) (h : ¬ V_X9_takeSince σ = 0) : F_X9_takeSince σ 3 7 = σ 3 7 := by
  unfold V_X9_takeSince R_X9_takeSince at h
  unfold F_X9_takeSince R_X9_takeSince
  by_cases a : σ 16 2 < 8
  · rw [if_pos a] at h ⊢
    exact f7_sinceL 10 0 0 0 σ h
  · rw [if_neg a] at h; exact absurd rfl h
theorem f7_end {V : Int} {σ τ : zG} (hv : ¬ V = 0 → τ 3 7 = σ 3 7) (h : ¬ (if V = 0 then (0 : Int) else (if V_X5_stepSign τ 59 = 0 then 0 else 1)) = 0) : (if V = 0 then τ else F_X5_stepSign τ 59) 3 7 = σ 3 7 := by
  by_cases a : V = 0
  · rw [if_pos a] at h; exact absurd rfl h
  · rw [if_neg a] at h ⊢
    by_cases b : V_X5_stepSign τ 59 = 0
    · rw [if_pos b] at h; exact absurd rfl h
    · rw [f7_sign _ _ b, hv a]
theorem f7_line (σ : zG) (h : ¬ V_X9_takeLine σ = 0) : F_X9_takeLine σ 3 7 = σ 3 7 := by
  unfold V_X9_takeLine at h
  unfold F_X9_takeLine
  generalize V_X5_keyword σ = kw at *
  by_cases c0 : kw = 0
  · rw [if_pos c0] at h ⊢; exact f7_end (f7_who σ) h
  rw [if_neg c0] at h ⊢
  by_cases c1 : kw = 1
  · rw [if_pos c1] at h ⊢; exact f7_end (f7_fact σ) h
  rw [if_neg c1] at h ⊢
  by_cases c2 : kw = 2
  · rw [if_pos c2] at h ⊢; exact f7_end (f7_knows σ) h
  rw [if_neg c2] at h ⊢
  by_cases c3 : kw = 3
  · rw [if_pos c3] at h ⊢; exact f7_end (f7_since σ) h
  rw [if_neg c3] at h ⊢
  by_cases c4 : kw = 4
  · rw [if_pos c4] at h ⊢; exact f7_end (f7_asks σ) h
  rw [if_neg c4] at h ⊢
  by_cases c5 : kw < 5
  · rw [if_pos c5] at h; exact absurd rfl h
  rw [if_neg c5] at h ⊢
  by_cases c9 : kw ≤ 9
  · rw [if_pos c9] at h ⊢; exact f7_end (f7_set σ _) h
  · rw [if_neg c9] at h; exact absurd rfl h
theorem f7_take : ∀ (n : Nat) (q : Int) (σ : zG), 0 ≤ q → (901 - q).toNat < n → 0 ≤ (L_X9_take_6 n q σ).1 → (L_X9_take_6 n q σ).2 3 7 = σ 3 7
  | 0, q, σ, _, h, _ => absurd h (Nat.not_lt_zero _)
  | n + 1, q, σ, q0, hn, h => by
    rw [L_X9_take_6] at h ⊢
    by_cases a : 900 < q
    · rw [if_pos a]
    · rw [if_neg a] at h ⊢
      by_cases b : F_X5_step σ 3 4 = 0
      · rw [if_pos b]; exact f7_step σ
      · rw [if_neg b] at h ⊢
        by_cases c : V_X9_takeLine (F_X5_step σ) = 0
        · rw [if_pos c] at h
          exact absurd h (show ¬ (0 : Int) ≤ -1 by decide)
        · rw [if_neg c] at h ⊢
          rw [f7_take n (q + 1) _ (by omega) (by omega) h, f7_line _ c, f7_step]
/-- a valley that was well read left no fault on the class's side -/
theorem f7_valley (σ : zG) (h : 0 ≤ (R_X9_take (F_X5_open σ 900)).1) : (R_X9_take (F_X5_open σ 900)).2 3 7 = 0 := by
  unfold R_X9_take at h ⊢
  obtain ⟨_, _, _, _, cr⟩ := vclear_rows (F_X5_open σ 900)
  rw [f7_take 1000 0 _ (by decide) (by decide) h, cr 3 (by decide) (by decide) (by decide) (by decide)]
  unfold F_X5_open
  simp [zu]
