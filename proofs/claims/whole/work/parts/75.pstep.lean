/-! pure: the readers' steps on both sides -/
/-- the class before its step, the model with the token read -/
def LK (σ μ : zG) : Prop := TP (F_X5_step σ) μ ∧ TK (F_X5_step σ) μ
theorem LK_next {σ μ : zG} (h : TP σ μ) : LK σ (F_X12_next μ) := lex_step h
theorem TP_row {σ τ μ ν : zG} (h : TP σ μ) (c1 : τ 1 = σ 1) (c2 : τ 2 = σ 2) (c3 : τ 3 2 = σ 3 2) (c4 : τ 3 3 = σ 3 3) (m1 : ν 1 = μ 1) (m3 : ν 0 3 = μ 0 3) (m4 : ν 0 4 = μ 0 4) (m5 : ν 0 5 = μ 0 5) : TP τ ν := by
  unfold TP mu at *
  rw [c1, c2, c3, c4, m1, m3, m4, m5]
  exact h
theorem TK_row {σ τ μ ν : zG} (h : TK σ μ) (c4 : τ 3 4 = σ 3 4) (c5 : τ 3 5 = σ 3 5) (c6 : τ 3 6 = σ 3 6) (m1 : ν 0 11 = μ 0 11) (m2 : ν 0 12 = μ 0 12) (m4 : ν 0 14 = μ 0 14) (m7 : ν 0 17 = μ 0 17) : TK τ ν := by
  unfold TK at *
  rw [c4, c5, c6, m1, m2, m4, m7]
  exact h
/-- the class's state put elsewhere than in its reader -/
theorem step_row {σ τ : zG} (h1 : τ 1 = σ 1) (h2 : τ 2 = σ 2) (h3 : τ 3 = σ 3) : F_X5_step τ 1 = F_X5_step σ 1 ∧ F_X5_step τ 2 = F_X5_step σ 2 ∧ F_X5_step τ 3 = F_X5_step σ 3 := by
  refine ⟨?_, ?_, ?_⟩
  · rw [fr_F_X5_step _ (by decide), fr_F_X5_step _ (by decide), h1]
  · rw [fr_F_X5_step _ (by decide), fr_F_X5_step _ (by decide), h2]
  · unfold F_X5_step
    funext i
    unfold zRd
    rw [h1, h2, h3]
theorem LK_row {σ τ μ ν : zG} (h : LK σ μ) (c1 : τ 1 = σ 1) (c2 : τ 2 = σ 2) (c3 : τ 3 = σ 3) (m1 : ν 1 = μ 1) (m : ∀ j : Int, j = 3 ∨ j = 4 ∨ j = 5 ∨ j = 11 ∨ j = 12 ∨ j = 14 ∨ j = 17 → ν 0 j = μ 0 j) : LK τ ν := by
  obtain ⟨e1, e2, e3⟩ := step_row c1 c2 c3
  exact ⟨TP_row h.1 e1 e2 (by rw [e3]) (by rw [e3]) m1 (m 3 (by decide)) (m 4 (by decide)) (m 5 (by decide)), TK_row h.2 (by rw [e3]) (by rw [e3]) (by rw [e3]) (m 11 (by decide)) (m 12 (by decide)) (m 14 (by decide)) (m 17 (by decide))⟩
theorem num_sim {σ μ : zG} {lo hi : Int} (h : LK σ μ) (hlo : 0 ≤ lo) :
    (V_X12_takes μ lo hi = 0 ∧ V_X5_stepNumber σ lo hi = -1 ∧ F_X5_stepNumber σ lo hi 3 7 = F_X12_takes μ lo hi 0 15 ∧ F_X5_stepNumber σ lo hi 3 5 = F_X12_takes μ lo hi 0 16) ∨
    (V_X12_takes μ lo hi = 1 ∧ V_X5_stepNumber σ lo hi = F_X12_takes μ lo hi 0 18 ∧ (lo ≤ F_X12_takes μ lo hi 0 18 ∧ F_X12_takes μ lo hi 0 18 ≤ hi) ∧ LK (F_X5_stepNumber σ lo hi) (F_X12_takes μ lo hi) ∧ F_X5_stepNumber σ lo hi = F_X5_step σ ∧ F_X12_takes μ lo hi = F_X12_next (zu μ 0 18 (μ 0 14))) := by
  obtain ⟨hP, hK⟩ := h
  unfold V_X12_takes F_X12_takes V_X5_stepNumber F_X5_stepNumber
  obtain ⟨h5, hk⟩ := hK
  by_cases k : μ 0 11 = 2
  · have e4 : F_X5_step σ 3 4 = 3 ∧ F_X5_step σ 3 6 = μ 0 14 := by
      rcases hk with x | x | x | x | x
      · omega
      · omega
      · omega
      · exact ⟨x.1, x.2.2.1⟩
      · omega
    rw [if_pos k, if_pos k, if_pos e4.1, if_pos e4.1, e4.2]
    by_cases r : lo ≤ μ 0 14 ∧ μ 0 14 ≤ hi
    · rw [if_pos r, if_pos r, if_neg (show ¬ μ 0 14 < lo by omega), if_neg (show ¬ μ 0 14 < lo by omega), if_pos r.2, if_pos r.2]
      have e18 : F_X12_next (zu μ 0 18 (μ 0 14)) 0 18 = μ 0 14 := by
        rw [(next_all _).2.1 18 (by decide) (by decide) (by decide) (by decide) (by decide) (by decide), zu_at]
      refine Or.inr ⟨rfl, e18.symm, by rw [e18]; exact r, LK_next ?_, rfl, rfl⟩
      exact TP_row hP rfl rfl rfl rfl (zu_row _ _ _ (by decide)) (zu_off _ _ _ (by decide)) (zu_off _ _ _ (by decide)) (zu_off _ _ _ (by decide))
    · rw [if_neg r, if_neg r]
      have e15 : zu (zu μ 0 15 2) 0 16 (μ 0 12) 0 15 = 2 := by rw [zu_off _ _ _ (by decide), zu_at]
      by_cases r2 : μ 0 14 < lo
      · rw [if_pos r2, if_pos r2, zu_at, e15, zu_at, zu_off _ _ _ (by decide)]
        exact Or.inl ⟨rfl, rfl, rfl, h5⟩
      · rw [if_neg r2, if_neg r2, if_neg (show ¬ μ 0 14 ≤ hi by omega), if_neg (show ¬ μ 0 14 ≤ hi by omega), zu_at, e15, zu_at, zu_off _ _ _ (by decide)]
        exact Or.inl ⟨rfl, rfl, rfl, h5⟩
  · have e4 : ¬ F_X5_step σ 3 4 = 3 := by
      rcases hk with x | x | x | x | x <;> omega
    have e15 : zu (zu μ 0 15 1) 0 16 (μ 0 12) 0 15 = 1 := by rw [zu_off _ _ _ (by decide), zu_at]
    rw [if_neg k, if_neg k, if_neg e4, if_neg e4, zu_at, e15, zu_at, zu_off _ _ _ (by decide)]
    exact Or.inl ⟨rfl, rfl, rfl, h5⟩
theorem sign_sim {σ μ : zG} {c : Int} (h : LK σ μ) :
    (V_X12_sign μ c = 0 ∧ V_X5_stepSign σ c = 0 ∧ F_X5_stepSign σ c 3 7 = F_X12_sign μ c 0 15 ∧ F_X5_stepSign σ c 3 5 = F_X12_sign μ c 0 16) ∨
    (V_X12_sign μ c = 1 ∧ V_X5_stepSign σ c = 1 ∧ LK (F_X5_stepSign σ c) (F_X12_sign μ c) ∧ F_X5_stepSign σ c = F_X5_step σ ∧ F_X12_sign μ c = F_X12_next μ) := by
  obtain ⟨hP, h5, hk⟩ := h
  unfold V_X12_sign F_X12_sign V_X5_stepSign F_X5_stepSign
  by_cases k : μ 0 11 = 3 ∧ μ 0 14 = c
  · have e4 : F_X5_step σ 3 4 = 4 ∧ F_X5_step σ 3 6 = c := by
      rcases hk with x | x | x | x | x
      · omega
      · omega
      · omega
      · omega
      · exact ⟨x.1, by rw [x.2.2]; exact k.2⟩
    rw [if_pos k, if_pos k, if_pos e4, if_pos e4]
    exact Or.inr ⟨rfl, rfl, LK_next hP, rfl, rfl⟩
  · have e4 : ¬ (F_X5_step σ 3 4 = 4 ∧ F_X5_step σ 3 6 = c) := by
      intro y
      rcases hk with x | x | x | x | x
      · omega
      · omega
      · omega
      · omega
      · exact k ⟨x.2.1, by rw [← x.2.2]; exact y.2⟩
    have e15 : zu (zu μ 0 15 1) 0 16 (μ 0 12) 0 15 = 1 := by rw [zu_off _ _ _ (by decide), zu_at]
    rw [if_neg k, if_neg k, if_neg e4, if_neg e4, zu_at, e15, zu_at, zu_off _ _ _ (by decide)]
    exact Or.inl ⟨rfl, rfl, rfl, h5⟩
theorem zcmpI {a b : Int} : zcmp a b = 0 ↔ a = b := by
  unfold zcmp
  by_cases h : a > b
  · rw [if_pos h]; omega
  · rw [if_neg h]
    by_cases e : a = b
    · rw [if_pos e]; omega
    · rw [if_neg e]; omega
/-- the words that are no names -/
def KW (σ μ : zG) : Prop := (∀ i : Int, 0 ≤ i → i < 26 → ∃ j : Int, 0 ≤ j ∧ j < 26 ∧ wr (σ 4 i) (μ 6 j)) ∧ ∀ j : Int, 0 ≤ j → j < 26 → ∃ i : Int, 0 ≤ i ∧ i < 26 ∧ wr (σ 4 i) (μ 6 j)
theorem plc_neg {f : Int → Int} {code many len : Int} (hl : many ≤ len) : ∀ (n : Nat) (i : Int), 0 ≤ i → (many - i).toNat < n → (plc f code many len n i = -1 ↔ ∀ j : Int, i ≤ j → j < many → f j ≠ code)
  | 0, i, _, h => absurd h (Nat.not_lt_zero _)
  | n + 1, i, h0, h => by
    rw [plc]
    by_cases c : many ≤ i
    · rw [if_pos c]
      exact ⟨fun _ j j0 j1 => absurd j1 (by omega), fun _ => rfl⟩
    · rw [if_neg c, if_neg (by omega)]
      by_cases e : f i = code
      · rw [if_pos e]
        exact ⟨fun x => absurd x (by omega), fun x => absurd e (x i (by omega) (by omega))⟩
      · rw [if_neg e, plc_neg hl n (i + 1) (by omega) (by omega)]
        refine ⟨fun x j j0 j1 => ?_, fun x j j0 j1 => x j (by omega) j1⟩
        by_cases q : j = i
        · rw [q]; exact e
        · exact x j (by omega) j1
theorem find_eq {f : Int → Int} {μ : zG} {code fm many len : Int} (hl : many ≤ len) (hw : ∀ j : Int, 0 ≤ j → j < many → wr (f j) (μ 5 (fm + j))) (hc : wr code (μ 0 17)) : ∀ (n n' : Nat) (i : Int), 0 ≤ i → (many - i).toNat < n → (many - i).toNat < n' → plc f code many len n i = L_X12_find_2 μ fm many n' i
  | 0, _, i, _, h, _ => absurd h (Nat.not_lt_zero _)
  | _ + 1, 0, i, _, _, h => absurd h (Nat.not_lt_zero _)
  | n + 1, n' + 1, i, h0, h, h' => by
    rw [plc, L_X12_find_2]
    by_cases c : many ≤ i
    · rw [if_pos c, if_pos c]
    · rw [if_neg c, if_neg c, if_neg (by omega)]
      have e := wr_inj (hw i h0 (by omega)) hc
      by_cases k : f i = code
      · rw [if_pos k, if_pos (zcmpI.mpr (e.mp k))]
      · rw [if_neg k, if_neg (fun x => k (e.mpr (zcmpI.mp x)))]
        exact find_eq hl hw hc n n' (i + 1) (by omega) (by omega) (by omega)
theorem isn_0 (μ : zG) : ∀ (n : Nat) (q : Int), (26 - q).toNat < n → L_X12_isName_16 μ n 0 q = 0
  | 0, q, h => absurd h (Nat.not_lt_zero _)
  | n + 1, q, h => by
    rw [L_X12_isName_16]
    by_cases c : 26 ≤ q
    · rw [if_pos c]
    · rw [if_neg c, if_pos rfl]; exact isn_0 μ n (q + 1) (by omega)
theorem isn_1 (μ : zG) : ∀ (n : Nat) (q : Int), 0 ≤ q → (26 - q).toNat < n → (L_X12_isName_16 μ n 1 q = 0 ∨ L_X12_isName_16 μ n 1 q = 1) ∧ (L_X12_isName_16 μ n 1 q = 1 ↔ ∀ j : Int, q ≤ j → j < 26 → μ 6 j ≠ μ 0 17)
  | 0, q, _, h => absurd h (Nat.not_lt_zero _)
  | n + 1, q, h0, h => by
    rw [L_X12_isName_16]
    by_cases c : 26 ≤ q
    · rw [if_pos c]
      exact ⟨Or.inr rfl, fun _ j j0 j1 => absurd j1 (by omega), fun _ => rfl⟩
    · rw [if_neg c, if_neg (by decide)]
      by_cases k : zcmp (μ 0 17) (μ 6 q) = 0
      · rw [if_pos k, isn_0 μ n (q + 1) (by omega)]
        exact ⟨Or.inl rfl, fun x => absurd x (by decide), fun x => absurd (zcmpI.mp k).symm (x q (by omega) (by omega))⟩
      · rw [if_neg k]
        obtain ⟨i1, i2⟩ := isn_1 μ n (q + 1) (by omega) (by omega)
        refine ⟨i1, i2.trans ⟨fun x j j0 j1 => ?_, fun x j j0 j1 => x j (by omega) j1⟩⟩
        by_cases e : j = q
        · rw [e]; exact fun y => k (zcmpI.mpr y.symm)
        · exact x j (by omega) j1
theorem isn_eq {σ μ : zG} (hK : KW σ μ) (hT : TK σ μ) : (V_X5_isName σ = 0 ∧ R_X12_isName μ = 0) ∨ (V_X5_isName σ ≠ 0 ∧ R_X12_isName μ ≠ 0 ∧ σ 3 4 = 2 ∧ μ 0 11 = 1 ∧ wr (σ 3 6) (μ 0 17)) := by
  unfold V_X5_isName R_X12_isName R_X11_placeOf_4
  by_cases k : μ 0 11 = 1
  · have e : σ 3 4 = 2 ∧ wr (σ 3 6) (μ 0 17) := by
      rcases hT.2 with x | x | x | x | x
      · omega
      · omega
      · exact ⟨x.1, x.2.2⟩
      · omega
      · omega
    rw [if_pos k]
    obtain ⟨i1, i2⟩ := isn_1 μ 30 0 (by decide) (by decide)
    have i3 := plc_neg (f := σ 4) (code := σ 3 6) (many := 26) (len := 26) (by decide) 30 0 (by decide) (by decide)
    have eqv : (plc (σ 4) (σ 3 6) 26 26 30 0 = -1) ↔ L_X12_isName_16 μ 30 1 0 = 1 := by
      rw [i3, i2]
      constructor
      · intro x j j0 j1 y
        obtain ⟨i, a, b, w⟩ := hK.2 j j0 j1
        exact x i a b ((wr_inj w e.2).mpr y)
      · intro x i a b y
        obtain ⟨j, j0, j1, w⟩ := hK.1 i a b
        exact x j j0 j1 ((wr_inj w e.2).mp y)
    by_cases c : plc (σ 4) (σ 3 6) 26 26 30 0 = -1
    · refine Or.inr ⟨?_, ?_, e.1, k, e.2⟩
      · rw [b2_t ⟨e.1, c⟩]; decide
      · rw [eqv.mp c]; decide
    · refine Or.inl ⟨b2_f (fun x => c x.2), ?_⟩
      rcases i1 with x | x
      · exact x
      · exact absurd (eqv.mpr x) c
  · have e : ¬ σ 3 4 = 2 := by
      rcases hT.2 with x | x | x | x | x <;> omega
    rw [if_neg k, isn_0 μ 30 0 (by decide)]
    exact Or.inl ⟨b2_f (fun x => e x.1), rfl⟩
