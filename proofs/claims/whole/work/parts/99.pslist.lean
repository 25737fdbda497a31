/-! pure: a sentence as lists: the pile, its top first; the code, its last step first -/
def PL (t : Int → Int) : List Int → Prop
  | [] => True
  | x :: xs => t (xs.length : Int) = x ∧ PL t xs
def CL (c : Int → Int) : List (Int × Int × Int) → Prop
  | [] => True
  | x :: xs => (c (3 * (xs.length : Int)) = x.1 ∧ c (3 * (xs.length : Int) + 1) = x.2.1 ∧ c (3 * (xs.length : Int) + 2) = x.2.2) ∧ CL c xs
/-- a step of the class against one of the model -/
def E1 (w s n a b c : Int) : Prop := w = (if a ≤ 6 then a + 19 else 25 - a) ∧ (a = 0 → s = 0 ∧ n = b ∧ c = 0) ∧ (a ≠ 0 → s = b ∧ n = c)
def KL (w s n : Int → Int) : List (Int × Int × Int) → Prop
  | [] => True
  | x :: xs => E1 (w (xs.length : Int)) (s (xs.length : Int)) (n (xs.length : Int)) x.1 x.2.1 x.2.2 ∧ KL w s n xs
theorem PL_c {t u : Int → Int} : ∀ P : List Int, (∀ j : Int, 0 ≤ j → j < P.length → u j = t j) → PL t P → PL u P
  | [], _, _ => trivial
  | x :: xs, h, hp => by
    have hl : ((x :: xs).length : Int) = xs.length + 1 := by simp
    exact ⟨by rw [h _ (by omega) (by omega)]; exact hp.1, PL_c xs (fun j a b => h j a (by omega)) hp.2⟩
theorem CL_c {t u : Int → Int} : ∀ P : List (Int × Int × Int), (∀ j : Int, 0 ≤ j → j < 3 * P.length → u j = t j) → CL t P → CL u P
  | [], _, _ => trivial
  | x :: xs, h, hp => by
    have hl : ((x :: xs).length : Int) = xs.length + 1 := by simp
    exact ⟨⟨by rw [h _ (by omega) (by omega)]; exact hp.1.1, by rw [h _ (by omega) (by omega)]; exact hp.1.2.1, by rw [h _ (by omega) (by omega)]; exact hp.1.2.2⟩, CL_c xs (fun j a b => h j a (by omega)) hp.2⟩
theorem KL_c {w s n w' s' n' : Int → Int} : ∀ P : List (Int × Int × Int), (∀ j : Int, 0 ≤ j → j < P.length → w' j = w j ∧ s' j = s j ∧ n' j = n j) → KL w s n P → KL w' s' n' P
  | [], _, _ => trivial
  | x :: xs, h, hp => by
    have hl : ((x :: xs).length : Int) = xs.length + 1 := by simp
    have e := h (xs.length : Int) (by omega) (by omega)
    exact ⟨by rw [e.1, e.2.1, e.2.2]; exact hp.1, KL_c xs (fun j a b => h j a (by omega)) hp.2⟩
/-- code and pile of the model -/
def CP (μ : zG) (C : List (Int × Int × Int)) (P : List Int) : Prop := (μ 0 66 = (C.length : Int) ∧ CL (μ 36) C) ∧ μ 0 67 = (P.length : Int) ∧ PL (μ 37) P
theorem CP_row {μ ν : zG} {C : List (Int × Int × Int)} {P : List Int} (h : CP μ C P) (a : ν 0 66 = μ 0 66) (b : ν 0 67 = μ 0 67) (c : ν 36 = μ 36) (d : ν 37 = μ 37) : CP ν C P := by
  unfold CP at *
  rw [a, b, c, d]; exact h
theorem CP_write {μ : zG} {C : List (Int × Int × Int)} {P : List Int} (h : CP μ C P) (a b c : Int) : CP (F_X12_write μ a b c) ((a, b, c) :: C) P := by
  obtain ⟨⟨h1, h2⟩, h3, h4⟩ := h
  refine ⟨⟨?_, ⟨?_, ?_, ?_⟩, CL_c C (fun j j0 j1 => ?_) h2⟩, ?_, ?_⟩
  · rw [write_c, h1]; simp
  · unfold F_X12_write
    rw [zu_ne _ _ _ _ (by decide), zu_off _ _ _ (by omega), zu_off _ _ _ (by omega), h1, zu_at]
  · unfold F_X12_write
    rw [zu_ne _ _ _ _ (by decide), zu_off _ _ _ (by omega), h1, zu_at]
  · unfold F_X12_write
    rw [zu_ne _ _ _ _ (by decide), h1, zu_at]
  · unfold F_X12_write
    rw [zu_ne _ _ _ _ (by decide), zu_off _ _ _ (by omega), zu_off _ _ _ (by omega), zu_off _ _ _ (by omega)]
  · rw [kp_write _ _ _ _ _ (by decide)]; exact h3
  · rw [fr_F_X12_write _ _ _ _ (by decide)]; exact h4
theorem CP_pop {μ : zG} {C : List (Int × Int × Int)} {x : Int} {P : List Int} (h : CP μ C (x :: P)) : CP (zu μ 0 67 (μ 0 67 - 1)) C P := by
  obtain ⟨⟨h1, h2⟩, h3, h4⟩ := h
  have hl : ((x :: P).length : Int) = P.length + 1 := by simp
  refine ⟨⟨?_, ?_⟩, ?_, ?_⟩
  · rw [zu_off _ _ _ (by decide)]; exact h1
  · rw [zu_row _ _ _ (by decide)]; exact h2
  · rw [zu_at, h3]; omega
  · rw [zu_row _ _ _ (by decide)]; exact h4.2
theorem CP_push {μ : zG} {C : List (Int × Int × Int)} {P : List Int} (h : CP μ C P) (x : Int) : CP (zu (zu μ 37 (μ 0 67) x) 0 67 (μ 0 67 + 1)) C (x :: P) := by
  obtain ⟨⟨h1, h2⟩, h3, h4⟩ := h
  refine ⟨⟨?_, ?_⟩, ?_, ?_, ?_⟩
  · rw [zu_off _ _ _ (by decide), zu_ne _ _ _ _ (by decide)]; exact h1
  · rw [zu_row _ _ _ (by decide), zu_row _ _ _ (by decide)]; exact h2
  · rw [zu_at, h3]; simp
  · rw [zu_ne _ _ _ _ (by decide), h3, zu_at]
  · exact PL_c P (fun j j0 j1 => by rw [zu_ne _ _ _ _ (by decide), zu_off _ _ _ (by omega)]) h4
/-- what is written down -/
def wdl (le : Int) : List (Int × Int × Int) → List Int → List (Int × Int × Int) × List Int
  | C, [] => (C, [])
  | C, x :: xs => if x = 10 then (C, x :: xs) else if V_X12_binds x < le then (C, x :: xs) else wdl le ((x, 0, 0) :: C) xs
theorem wd_st (le : Int) : ∀ (n : Nat) (P : List Int) (C : List (Int × Int × Int)) (μ : zG), P.length < n → CP μ C P → CP (S_X12_writeDown_0 le n μ) (wdl le C P).1 (wdl le C P).2
  | 0, P, C, μ, h, _ => absurd h (Nat.not_lt_zero _)
  | n + 1, [], C, μ, _, hc => by
    rw [S_X12_writeDown_0, wdl, if_pos (show μ 0 67 ≤ 0 by rw [hc.2.1]; decide)]
    exact hc
  | n + 1, x :: xs, C, μ, h, hc => by
    have hl : ((x :: xs).length : Int) = xs.length + 1 := by simp
    have hl' : (x :: xs).length = xs.length + 1 := by simp
    have h3 := hc.2.1
    have e : μ 37 (μ 0 67 - 1) = x := by rw [h3, show ((x :: xs).length : Int) - 1 = xs.length by omega]; exact hc.2.2.1
    rw [S_X12_writeDown_0, wdl, if_neg (show ¬ μ 0 67 ≤ 0 by omega), e]
    by_cases c1 : x = 10
    · rw [if_pos c1, if_pos c1]; exact hc
    · rw [if_neg c1, if_neg c1]
      by_cases c2 : V_X12_binds x < le
      · rw [if_pos c2, if_pos c2]; exact hc
      · rw [if_neg c2, if_neg c2]
        exact wd_st le n xs _ _ (by omega) (CP_write (CP_pop hc) x 0 0)
theorem wd_cp {μ : zG} {C : List (Int × Int × Int)} {P : List Int} (le : Int) (hl : P.length < 50) (h : CP μ C P) : CP (R_X12_writeDown μ le) (wdl le C P).1 (wdl le C P).2 := wd_st le 50 P C μ hl h
theorem wdl3 {C : List (Int × Int × Int)} : ∀ P : List Int, (∀ x xs, P = x :: xs → x ≠ 7) → wdl 3 C P = (C, P)
  | [], _ => rfl
  | x :: xs, h => by
    have := h x xs rfl
    rw [wdl]
    by_cases c : x = 10
    · rw [if_pos c]
    · rw [if_neg c, if_pos]
      unfold V_X12_binds
      rw [if_neg this]
      split <;> decide
theorem wdl3_7 {C : List (Int × Int × Int)} {P : List Int} : wdl 3 C (7 :: P) = wdl 3 ((7, 0, 0) :: C) P := by
  rw [wdl, if_neg (by decide), if_neg (by decide)]
theorem wdl2 {C : List (Int × Int × Int)} : ∀ P : List Int, (∀ x xs, P = x :: xs → x ≠ 7 ∧ x ≠ 8) → wdl 2 C P = (C, P)
  | [], _ => rfl
  | x :: xs, h => by
    have := h x xs rfl
    rw [wdl]
    by_cases c : x = 10
    · rw [if_pos c]
    · rw [if_neg c, if_pos]
      unfold V_X12_binds
      rw [if_neg this.1, if_neg this.2]; decide
theorem wdl2_8 {C : List (Int × Int × Int)} {P : List Int} : wdl 2 C (8 :: P) = wdl 2 ((8, 0, 0) :: C) P := by
  rw [wdl, if_neg (by decide), if_neg (by decide)]
theorem wdl1 {C : List (Int × Int × Int)} : ∀ P : List Int, (∀ x xs, P = x :: xs → x = 10) → wdl 1 C P = (C, P)
  | [], _ => rfl
  | x :: xs, h => by rw [wdl, if_pos (h x xs rfl)]
theorem wdl1_n {C : List (Int × Int × Int)} {x : Int} {P : List Int} (h : x ≠ 10) : wdl 1 C (x :: P) = wdl 1 ((x, 0, 0) :: C) P := by
  have := (binds_r x).1
  rw [wdl, if_neg h, if_neg (by omega)]
theorem wdl12 : ∀ (P : List Int) (C : List (Int × Int × Int)), wdl 1 (wdl 2 C P).1 (wdl 2 C P).2 = wdl 1 C P
  | [], C => rfl
  | x :: xs, C => by
    rw [wdl]
    by_cases c : x = 10
    · rw [if_pos c]
    · rw [if_neg c]
      by_cases c2 : V_X12_binds x < 2
      · rw [if_pos c2]
      · rw [if_neg c2, wdl12 xs, wdl1_n c]
theorem wdl_len (le : Int) : ∀ (P : List Int) (C : List (Int × Int × Int)), (wdl le C P).1.length + (wdl le C P).2.length = C.length + P.length ∧ (wdl le C P).2.length ≤ P.length
  | [], C => ⟨rfl, Nat.le_refl _⟩
  | x :: xs, C => by
    rw [wdl]
    split
    · exact ⟨rfl, Nat.le_refl _⟩
    · split
      · exact ⟨rfl, Nat.le_refl _⟩
      · have := wdl_len le xs ((x, 0, 0) :: C)
        simp only [List.length_cons] at this ⊢
        omega
/-- how deep one is -/
def opl : List Int → Int
  | [] => 0
  | x :: xs => opl xs + (if x = 7 ∨ x = 10 then 1 else 0)
theorem opl_0 : ∀ P : List Int, 0 ≤ opl P ∧ opl P ≤ P.length
  | [] => ⟨Int.le_refl _, Int.le_refl _⟩
  | x :: xs => by
    have := opl_0 xs
    have hl : ((x :: xs).length : Int) = xs.length + 1 := by simp
    rw [opl, hl]
    split <;> omega
theorem opl_n {t : Int → Int} : ∀ P : List Int, PL t P → opn t P.length = opl P
  | [], _ => rfl
  | x :: xs, h => by
    rw [List.length_cons, opn, opl, opl_n xs h.2, h.1]
theorem opened_l {μ : zG} {C : List (Int × Int × Int)} {P : List Int} (h : CP μ C P) (hl : P.length < 50) : R_X12_opened μ = opl P := by
  have h3 := h.2.1
  have e := openedL μ 50 0 0 (by omega) (by omega) (by omega)
  have e2 : R_X12_opened μ = 0 + opn (μ 37) (μ 0 67).toNat := e
  rw [e2, h3, Int.toNat_natCast, Int.zero_add]
  exact opl_n P h.2.2
/-- whether a bracket is open -/
def opb : List Int → Prop
  | [] => False
  | x :: xs => x = 10 ∨ opb xs
theorem opb_at {t : Int → Int} : ∀ P : List Int, PL t P → (opb P ↔ ∃ j : Int, 0 ≤ j ∧ j < P.length ∧ t j = 10)
  | [], _ => ⟨fun h => absurd h (fun x => x), fun ⟨j, a, b, _⟩ => by simp at b; omega⟩
  | x :: xs, h => by
    have hl : ((x :: xs).length : Int) = xs.length + 1 := by simp
    have ih := opb_at xs h.2
    constructor
    · rintro (e | e)
      · exact ⟨xs.length, by omega, by omega, by rw [h.1]; exact e⟩
      · obtain ⟨j, a, b, c⟩ := ih.mp e
        exact ⟨j, a, by omega, c⟩
    · rintro ⟨j, a, b, c⟩
      by_cases e : j = xs.length
      · rw [e, h.1] at c; exact Or.inl c
      · exact Or.inr (ih.mpr ⟨j, a, by omega, c⟩)
theorem isOpen_ex (σ : zG) : ∀ (n : Nat) (q j : Int), 0 ≤ q → q ≤ j → j < σ 0 67 → σ 37 j = 10 → (σ 0 67 - q).toNat < n → L_X12_isOpen_2 σ n q ≠ 0
  | 0, q, j, _, _, _, _, h => absurd h (Nat.not_lt_zero _)
  | n + 1, q, j, h0, h1, h2, h3, h => by
    rw [L_X12_isOpen_2, if_neg (by omega)]
    by_cases c : σ 37 q = 10
    · rw [if_pos c]; decide
    · rw [if_neg c]
      have : q ≠ j := fun e => c (by rw [e]; exact h3)
      exact isOpen_ex σ n (q + 1) j (by omega) (by omega) h2 h3 (by omega)
theorem isOpen_l {μ : zG} {C : List (Int × Int × Int)} {P : List Int} (h : CP μ C P) (hl : P.length < 50) : R_X12_isOpen μ = 0 ↔ ¬ opb P := by
  have h3 := h.2.1
  rw [opb_at P h.2.2]
  constructor
  · rintro e ⟨j, a, b, c⟩
    exact isOpen_ex μ 50 0 j (by decide) a (by omega) c (by omega) e
  · intro e
    by_cases c : R_X12_isOpen μ = 0
    · exact c
    · obtain ⟨j, a, b, d⟩ := isOpen_some c
      exact absurd ⟨j, a, by omega, d⟩ e
/-- how high the code piles -/
def hgl : List (Int × Int × Int) → Int
  | [] => 0
  | x :: xs => if x.1 = 7 then hgl xs else if x.1 = 8 ∨ x.1 = 9 then hgl xs - 1 else hgl xs + 1
/-- the code is a code -/
def vl (F : Int) : List (Int × Int × Int) → Prop
  | [] => True
  | x :: xs => vl F xs ∧ ((x.1 = 7 → 1 ≤ hgl xs) ∧ (x.1 = 8 ∨ x.1 = 9 → 2 ≤ hgl xs)) ∧ (0 ≤ x.1 ∧ x.1 ≤ 9) ∧ (x.1 = 0 → 0 ≤ x.2.1 ∧ x.2.1 < F) ∧ (2 ≤ x.1 → x.1 ≤ 6 → (x.2.1 = 60 ∨ x.2.1 = 61 ∨ x.2.1 = 62) ∧ 0 ≤ x.2.2 ∧ x.2.2 ≤ 999)
