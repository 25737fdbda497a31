/-! pure: the model's orders, counter by counter -/
theorem full_n {nn : Int} (h : 0 ≤ nn ∧ nn ≤ 8) : (0 ≤ bshl 1 nn - 1 ∧ bshl 1 nn - 1 < 4096) ∧ ∀ i : Int, 0 ≤ i → i < 12 → (hb (bshl 1 nn - 1) i ↔ i < nn) := by
  obtain ⟨c, rfl⟩ := toN2 h.1
  have e := bit_nat (c := c) (by omega)
  have p := Nat.two_pow_pos c
  have e1 : bshl 1 (c : Int) - 1 = ((2 ^ c - 1 : Nat) : Int) := by rw [e.1]; omega
  rw [e1]
  refine ⟨by omega, fun i i0 i1 => ?_⟩
  obtain ⟨j, rfl⟩ := toN2 i0
  rw [hb_nat (by omega) (by omega), Nat.testBit_two_pow_sub_one, decide_eq_true_eq]
  omega
theorem s189 {nn : Nat} (h1 : 1 ≤ nn) (h5 : nn ≤ 5) : ∀ (k n lf : Nat) (st : Int) (μ : zG), k < n → 0 ≤ st ∧ st < 4096 → (∀ j : Nat, j < k → (S_X12_order_189 (nn : Int) n (lf : Int) st ((k : Int) - 1) μ).2.2.2 31 (j : Int) = ((lf / nn ^ (k - 1 - j) % nn : Nat) : Int)) ∧ (∀ j : Int, (k : Int) ≤ j → (S_X12_order_189 (nn : Int) n (lf : Int) st ((k : Int) - 1) μ).2.2.2 31 j = μ 31 j) ∧ (0 ≤ (S_X12_order_189 (nn : Int) n (lf : Int) st ((k : Int) - 1) μ).2.1 ∧ (S_X12_order_189 (nn : Int) n (lf : Int) st ((k : Int) - 1) μ).2.1 < 4096) ∧ ∀ i : Int, 0 ≤ i → i < 12 → (hb (S_X12_order_189 (nn : Int) n (lf : Int) st ((k : Int) - 1) μ).2.1 i ↔ hb st i ∨ ∃ j : Nat, j < k ∧ ((lf / nn ^ (k - 1 - j) % nn : Nat) : Int) = i)
  | k, 0, lf, st, μ, h, _ => absurd h (Nat.not_lt_zero _)
  | 0, n + 1, lf, st, μ, _, hst => by
    rw [S_X12_order_189, if_pos (by omega)]
    exact ⟨fun j hj => absurd hj (Nat.not_lt_zero _), fun j _ => rfl, hst, fun i _ _ => ⟨Or.inl, fun x => x.elim id (fun ⟨j, hj, _⟩ => absurd hj (Nat.not_lt_zero _))⟩⟩
  | k + 1, n + 1, lf, st, μ, h, hst => by
    rw [S_X12_order_189, if_neg (by omega), show ((k + 1 : Nat) : Int) - 1 = (k : Int) by omega, show (lf : Int) / (nn : Int) = ((lf / nn : Nat) : Int) from (Int.natCast_ediv lf nn).symm, show (lf : Int) % (nn : Int) = ((lf % nn : Nat) : Int) from (Int.natCast_emod lf nn).symm, show (k : Int) + -1 = (k : Int) - 1 by omega]
    have hm : lf % nn < nn := Nat.mod_lt _ h1
    have hbit : 0 ≤ bshl 1 ((lf % nn : Nat) : Int) ∧ bshl 1 ((lf % nn : Nat) : Int) < 4096 := bit_r ⟨by omega, by omega⟩
    have ih := s189 h1 h5 k n (lf / nn) (bor st (bshl 1 ((lf % nn : Nat) : Int))) (zu μ 31 (k : Int) ((lf % nn : Nat) : Int)) (by omega) (bor_r hst hbit)
    have ed : ∀ j : Nat, j < k → lf / nn / nn ^ (k - 1 - j) % nn = lf / nn ^ (k + 1 - 1 - j) % nn := by
      intro j hj
      rw [Nat.div_div_eq_div_mul, show k + 1 - 1 - j = (k - 1 - j) + 1 by omega, Nat.pow_succ, Nat.mul_comm (nn ^ (k - 1 - j)) nn]
    have ek : lf / nn ^ (k + 1 - 1 - k) % nn = lf % nn := by
      rw [show k + 1 - 1 - k = 0 by omega, Nat.pow_zero, Nat.div_one]
    refine ⟨fun j hj => ?_, fun j hj => ?_, ih.2.2.1, fun i i0 i1 => ?_⟩
    · by_cases e : j = k
      · subst e
        rw [ih.2.1 _ (Int.le_refl _), zu_at, ek]
      · rw [ih.1 j (by omega), ed j (by omega)]
    · rw [ih.2.1 j (by omega), zu_off _ _ _ (by omega)]
    · rw [ih.2.2.2 i i0 i1, hb_bor hst hbit ⟨i0, by omega⟩, hb_bit ⟨by omega, by omega⟩ ⟨i0, by omega⟩]
      constructor
      · rintro ((x | x) | ⟨j, j0, j1⟩)
        · exact Or.inl x
        · exact Or.inr ⟨k, by omega, by rw [ek]; exact x.symm⟩
        · exact Or.inr ⟨j, by omega, by rw [← ed j j0]; exact j1⟩
      · rintro (x | ⟨j, j0, j1⟩)
        · exact Or.inl (Or.inl x)
        · by_cases e : j = k
          · subst e
            rw [ek] at j1
            exact Or.inl (Or.inr j1.symm)
          · exact Or.inr ⟨j, by omega, by rw [ed j (by omega)]; exact j1⟩
/-- the counter's order laid into its row -/
def oA (nn c : Int) (μ : zG) : zG := (S_X12_order_189 nn 10 c 0 (nn - 1) μ).2.2.2
/-- the tellings in that order, behind the book -/
def oB (nn c : Int) (μ : zG) : Int × Int × zG := S_X12_order_255 nn 10 0 0 (R_X12_run (oA nn c μ) (-1))
theorem oA_31 {nn : Nat} (h1 : 1 ≤ nn) (h5 : nn ≤ 5) (c : Nat) (μ : zG) (j : Nat) (hj : j < nn) : oA (nn : Int) (c : Int) μ 31 (j : Int) = (pd nn c j : Int) := (s189 h1 h5 nn 10 c 0 μ (by omega) (by decide)).1 j hj
theorem oA_row (nn c : Int) (μ : zG) {k : Nat} (h : k ≠ 31) : oA nn c μ k = μ k := fr_S_X12_order_189 _ _ _ _ _ _ (by simp; exact h)
theorem oA_st {nn : Nat} (h1 : 1 ≤ nn) (h5 : nn ≤ 5) (c : Nat) (μ : zG) : (S_X12_order_189 (nn : Int) 10 (c : Int) 0 ((nn : Int) - 1) μ).2.1 = bshl 1 (nn : Int) - 1 ↔ pall nn c = true := by
  have a := s189 h1 h5 nn 10 c 0 μ (by omega) (by decide)
  have f := full_n (nn := (nn : Int)) (by omega)
  rw [pall_iff]
  constructor
  · intro e i hi
    have := (a.2.2.2 (i : Int) (by omega) (by omega)).mp (by rw [e]; exact (f.2 _ (by omega) (by omega)).mpr (by omega))
    rcases this with x | ⟨j, j0, j1⟩
    · exact absurd x (hb_0 ⟨by omega, by omega⟩)
    · exact ⟨j, j0, by unfold pd; omega⟩
  · intro e
    refine hb_ext a.2.2.1 f.1 (fun i i0 i1 => ?_)
    rw [a.2.2.2 i i0 i1, f.2 i i0 i1]
    constructor
    · rintro (x | ⟨j, j0, j1⟩)
      · exact absurd x (hb_0 ⟨by omega, by omega⟩)
      · have : c / nn ^ (nn - 1 - j) % nn < nn := Nat.mod_lt _ h1
        omega
    · intro x
      obtain ⟨t, rfl⟩ := toN2 i0
      obtain ⟨j, j0, j1⟩ := e t (by omega)
      exact Or.inr ⟨j, j0, by unfold pd at j1; rw [j1]⟩
theorem m171 {nn al c : Int} {μ : zG} (n : Nat) (be bw : Int) (hc : ¬ al ≤ c) (hp : (S_X12_order_189 nn 10 c 0 (nn - 1) μ).2.1 = bshl 1 nn - 1) : L_X12_order_171 nn al (n + 1) be bw c μ = if R_X12_owedAll (oB nn c μ).2.2 < be ∨ (R_X12_owedAll (oB nn c μ).2.2 = be ∧ (oB nn c μ).1 < bw) then L_X12_order_171 nn al n (R_X12_owedAll (oB nn c μ).2.2) (oB nn c μ).1 (c + 1) (S_X12_order_387 nn 10 0 (oB nn c μ).2.2).2 else L_X12_order_171 nn al n be bw (c + 1) (oB nn c μ).2.2 := by
  rw [L_X12_order_171, if_neg hc, if_pos hp]
  have eB : S_X12_order_255 nn 10 0 0 (R_X12_run ((S_X12_order_189 nn 10 c 0 (nn - 1) μ).2.2.2) (-1)) = oB nn c μ := rfl
  rw [eB]
  generalize oB nn c μ = B
  by_cases c1 : be < R_X12_owedAll B.2.2
  · rw [if_pos c1, if_neg (by omega)]
  · rw [if_neg c1]
    by_cases c2 : R_X12_owedAll B.2.2 = be
    · rw [if_pos c2]
      by_cases c3 : B.1 < bw
      · rw [if_pos c3, if_pos (Or.inr ⟨c2, c3⟩)]
      · rw [if_neg c3, if_neg (by omega)]
    · rw [if_neg c2, if_pos (Or.inl (by omega))]
theorem m171n {nn al c : Int} {μ : zG} (n : Nat) (be bw : Int) (hc : ¬ al ≤ c) (hp : ¬ (S_X12_order_189 nn 10 c 0 (nn - 1) μ).2.1 = bshl 1 nn - 1) : L_X12_order_171 nn al (n + 1) be bw c μ = L_X12_order_171 nn al n be bw (c + 1) (oA nn c μ) := by
  rw [L_X12_order_171, if_neg hc, if_neg hp]
  rfl
/-- counters that are no orders -/
theorem skip171 {nn : Nat} (h1 : 1 ≤ nn) (h5 : nn ≤ 5) (al : Int) (be bw : Int) : ∀ (k n c : Nat) (μ : zG), (∀ x, c ≤ x → x < c + k → pall nn x = false) → ((c + k : Nat) : Int) ≤ al → ∃ ν : zG, L_X12_order_171 (nn : Int) al (n + k) be bw (c : Int) μ = L_X12_order_171 (nn : Int) al n be bw ((c + k : Nat) : Int) ν ∧ ∀ r : Nat, r ≠ 31 → ν r = μ r
  | 0, n, c, μ, _, _ => ⟨μ, rfl, fun _ _ => rfl⟩
  | k + 1, n, c, μ, h, ha => by
    obtain ⟨ν, e, hν⟩ := skip171 h1 h5 al be bw k n (c + 1) (oA (nn : Int) (c : Int) μ) (fun x x0 x1 => h x (by omega) (by omega)) (by omega)
    refine ⟨ν, ?_, fun r hr => (hν r hr).trans (oA_row _ _ _ hr)⟩
    rw [show n + (k + 1) = (n + k) + 1 by omega, m171n (n + k) be bw (by omega) (fun x => by
      have a := (oA_st h1 h5 c μ).mp x
      rw [h c (Nat.le_refl _) (by omega)] at a
      cases a)]
    rw [show (c : Int) + 1 = ((c + 1 : Nat) : Int) by omega, e, show c + 1 + k = c + (k + 1) by omega]
def oT (σ : zG) : Int × zG := R_X8_tryTurns (F_X4_goBackTo σ)
theorem c41 (n : Nat) (le fw q : Int) (σ : zG) (hq : ¬ 120 ≤ q) : L_X8_settle_41 (n + 1) le fw 1 q σ = if V_X4_owedInAllt (oT σ).2 < le ∨ (V_X4_owedInAllt (oT σ).2 = le ∧ (oT σ).1 < fw) then L_X8_settle_41 n (V_X4_owedInAllt (oT σ).2) (oT σ).1 (R_X8_nextTurns (zcp (oT σ).2 95 96 0 0 (σ 91 0))).1 (q + 1) (R_X8_nextTurns (zcp (oT σ).2 95 96 0 0 (σ 91 0))).2 else L_X8_settle_41 n le fw (R_X8_nextTurns (oT σ).2).1 (q + 1) (R_X8_nextTurns (oT σ).2).2 := by
  rw [L_X8_settle_41, if_neg hq, if_neg (by decide)]
  have eT : R_X8_tryTurns (F_X4_goBackTo σ) = oT σ := rfl
  rw [eT]
  generalize oT σ = B
  by_cases c1 : V_X4_owedInAllt B.2 < le
  · rw [if_pos c1, if_pos (Or.inl c1)]
  · rw [if_neg c1]
    by_cases c2 : V_X4_owedInAllt B.2 = le
    · rw [if_pos c2]
      by_cases c3 : fw ≤ B.1
      · rw [if_pos c3, if_neg (by omega)]
      · rw [if_neg c3, if_pos (Or.inr ⟨c2, by omega⟩)]
    · rw [if_neg c2, if_neg (by omega)]
theorem owed_le {σ μ : zG} (hL : LCt σ μ) : ∀ (n : Nat) (sm q : Int), 0 ≤ q → q ≤ μ 0 43 → (μ 0 43 - q).toNat < n → 0 ≤ sm → sm ≤ 792 * q → L_X12_owedAll_4 μ n sm q ≤ 101376 ∧ 0 ≤ L_X12_owedAll_4 μ n sm q
  | 0, sm, q, _, _, h, _, _ => absurd h (Nat.not_lt_zero _)
  | n + 1, sm, q, q0, q1, h, s0, s1 => by
    rw [L_X12_owedAll_4]
    have hm := hL.2.2.1.2
    by_cases c : μ 0 43 ≤ q
    · rw [if_pos c]; exact ⟨by omega, s0⟩
    · rw [if_neg c]
      have hd := (hL.2.2.2 q q0 (by omega)).2.2.2.2
      have e : w32 (sm + μ 20 q) = sm + μ 20 q := w32_id ⟨by omega, by omega⟩
      rw [e]
      exact owed_le hL n _ _ (by omega) (by omega) (by omega) (by omega) (by omega)
theorem owed_bd {σ μ : zG} (hL : LCt σ μ) : R_X12_owedAll μ ≤ 101376 ∧ 0 ≤ R_X12_owedAll μ := owed_le hL 500 0 0 (by decide) hL.2.2.1.2.1 (by have := hL.2.2.1.2; omega) (by decide) (by decide)
