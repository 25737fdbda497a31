/-! pure: the rest of the ledger on both sides -/
/-- people's sums, and where they came to know -/
def LXp (σ μ : zG) : Prop := (∀ a : Int, 0 ≤ a → a < 8 → σ 55 a = μ 13 a ∧ σ 56 a = μ 14 a) ∧ ∀ j : Int, 0 ≤ j → j < 96 → σ 57 j = μ 12 j
/-- the rest of the debts -/
def LXd (q : Int) (σ μ : zG) : Prop := (∀ d : Int, 0 ≤ d → d < μ 0 43 → σ 62 d = μ 19 d ∧ (σ 64 d = μ 21 d ∧ 0 ≤ μ 21 d ∧ μ 21 d < q) ∧ (σ 65 d = μ 22 d ∧ -1 ≤ μ 22 d ∧ μ 22 d < q) ∧ (σ 66 d = μ 23 d ∧ 0 ≤ μ 23 d ∧ μ 23 d ≤ 1) ∧ μ 24 d = σ 34 (μ 21 d) ∧ (μ 20 d = 0 ↔ 0 ≤ μ 22 d) ∧ (0 ≤ μ 22 d → μ 25 d = σ 34 (μ 22 d))) ∧ ∀ d e : Int, 0 ≤ d → d ≤ e → e < μ 0 43 → μ 21 d ≤ μ 21 e
theorem LXp_row {σ τ μ ν : zG} (h : LXp σ μ) (a1 : τ 55 = σ 55) (a2 : τ 56 = σ 56) (a3 : τ 57 = σ 57) (b1 : ν 13 = μ 13) (b2 : ν 14 = μ 14) (b3 : ν 12 = μ 12) : LXp τ ν := by
  unfold LXp at *
  rw [a1, a2, a3, b1, b2, b3]
  exact h
theorem LXd_row {q : Int} {σ τ μ ν : zG} (h : LXd q σ μ) (a1 : τ 62 = σ 62) (a2 : τ 64 = σ 64) (a3 : τ 65 = σ 65) (a4 : τ 66 = σ 66) (a5 : τ 34 = σ 34) (b0 : ν 0 43 = μ 0 43) (b1 : ν 19 = μ 19) (b2 : ν 20 = μ 20) (b3 : ν 21 = μ 21) (b4 : ν 22 = μ 22) (b5 : ν 23 = μ 23) (b6 : ν 24 = μ 24) (b7 : ν 25 = μ 25) : LXd q τ ν := by
  unfold LXd at *
  rw [a1, a2, a3, a4, a5, b0, b1, b2, b3, b4, b5, b6, b7]
  exact h
theorem LXd_mono {q q' : Int} {σ μ : zG} (h : LXd q σ μ) (hq : q ≤ q') : LXd q' σ μ := by
  refine ⟨fun d d0 d1 => ?_, h.2⟩
  obtain ⟨x1, x2, x3, x4, x5, x6, x7⟩ := h.1 d d0 d1
  exact ⟨x1, by omega, by omega, x4, x5, x6, x7⟩
theorem LX_owe {σ μ : zG} {i who to f much : Int} (hM : σ 53 8 = μ 0 43) (h128 : much ≠ 0 → μ 0 43 < 128) (hi : 0 ≤ i) (hday : μ 0 44 = σ 34 i) (hX : LXd (i + 1) σ μ) : LXd (i + 1) (F_X4_owe σ who much i) (F_X12_owes μ who to f much i) := by
  by_cases h0 : much = 0
  · unfold F_X4_owe F_X12_owes
    rw [if_pos h0, if_pos h0]
    exact hX
  · have h1 := h128 h0
    have ec : ∀ d : Int, F_X4_owe σ who much i 62 d = (if d = μ 0 43 then much else σ 62 d) ∧ F_X4_owe σ who much i 64 d = (if d = μ 0 43 then i else σ 64 d) ∧ F_X4_owe σ who much i 65 d = (if d = μ 0 43 then -1 else σ 65 d) ∧ F_X4_owe σ who much i 66 d = (if d = μ 0 43 then 0 else σ 66 d) ∧ F_X4_owe σ who much i 34 d = σ 34 d := by
      intro d
      unfold F_X4_owe
      rw [if_neg h0, if_pos (by omega), hM]
      exact ⟨by simp [zu], by simp [zu], by simp [zu], by simp [zu], by simp [zu]⟩
    have em : ∀ d : Int, F_X12_owes μ who to f much i 19 d = (if d = μ 0 43 then much else μ 19 d) ∧ F_X12_owes μ who to f much i 20 d = (if d = μ 0 43 then much else μ 20 d) ∧ F_X12_owes μ who to f much i 21 d = (if d = μ 0 43 then i else μ 21 d) ∧ F_X12_owes μ who to f much i 22 d = (if d = μ 0 43 then -1 else μ 22 d) ∧ F_X12_owes μ who to f much i 23 d = (if d = μ 0 43 then 0 else μ 23 d) ∧ F_X12_owes μ who to f much i 24 d = (if d = μ 0 43 then μ 0 44 else μ 24 d) ∧ F_X12_owes μ who to f much i 25 d = (if d = μ 0 43 then -1 else μ 25 d) := by
      intro d
      unfold F_X12_owes
      rw [if_neg h0]
      exact ⟨by simp [zu], by simp [zu], by simp [zu], by simp [zu], by simp [zu], by simp [zu], by simp [zu]⟩
    have e43 : F_X12_owes μ who to f much i 0 43 = μ 0 43 + 1 := by rw [mowes_many, if_neg h0]
    refine ⟨fun d d0 d1 => ?_, fun d e d0 d1 d2 => ?_⟩
    · rw [e43] at d1
      obtain ⟨c1, c2, c3, c4, c5⟩ := ec d
      obtain ⟨m1, m2, m3, m4, m5, m6, m7⟩ := em d
      rw [c1, c2, c3, c4, m1, m2, m3, m4, m5, m6, m7]
      have c5' := fun x => (ec x).2.2.2.2
      rw [c5', c5']
      by_cases e : d = μ 0 43
      · simp only [if_pos e]
        exact ⟨trivial, ⟨trivial, hi, by omega⟩, ⟨trivial, by decide, by omega⟩, by decide, hday, ⟨fun h => absurd h h0, fun h => absurd h (by decide)⟩, fun h => absurd h (by decide)⟩
      · simp only [if_neg e]
        exact hX.1 d d0 (by omega)
    · rw [e43] at d2
      rw [(em d).2.2.1, (em e).2.2.1]
      by_cases e1 : e = μ 0 43
      · rw [if_pos e1]
        by_cases e2 : d = μ 0 43
        · rw [if_pos e2]; exact Int.le_refl _
        · rw [if_neg e2]
          have := (hX.1 d d0 (by omega)).2.1.2.2
          omega
      · rw [if_neg e1, if_neg (by omega)]
        exact hX.2 d e d0 d1 (by omega)
theorem LX_pay (who to f i wo : Int) (hi : 0 ≤ i) : ∀ (n n' : Nat) (q : Int) (σ μ : zG), LC σ μ → LXd (i + 1) σ μ → μ 0 44 = σ 34 i → 0 ≤ q → (μ 0 43 - q).toNat < n → (μ 0 43 - q).toNat < n' → LXd (i + 1) (L_X4_pay_3 who wo i n q σ) (S_X12_tells_11 who to f i wo n' q μ).2
  | 0, n', q, σ, μ, _, _, _, _, hm, _ => absurd hm (Nat.not_lt_zero _)
  | n + 1, 0, q, σ, μ, _, _, _, _, _, hm => absurd hm (Nat.not_lt_zero _)
  | n + 1, n' + 1, q, σ, μ, hL, hX, hday, h0, hm, hm' => by
    obtain ⟨hK, hT, hM, hD⟩ := id hL
    rw [L_X4_pay_3, S_X12_tells_11, hM.1]
    split
    · exact hX
    · next c =>
      obtain ⟨⟨d1, d2, d3, d4⟩, d5, d6, d7, d8, d9, d10⟩ := hD q h0 (by omega)
      rw [d1, d4]
      have hrec := LX_pay who to f i wo hi n n' (q + 1) σ μ hL hX hday (by omega) (by omega) (by omega)
      split
      · by_cases z : μ 20 q = 0
        · rw [if_pos z, if_pos (by omega)]
          exact hrec
        · rw [if_neg z, if_neg (by omega)]
          by_cases w : μ 20 q ≤ wo
          · rw [if_pos w, if_neg (by omega)]
            show LXd (i + 1) (zu (zu σ 63 q 0) 65 q i) (zu (zu (zu μ 20 q 0) 22 q i) 25 q (μ 0 44))
            have r1 : zu (zu σ 63 q 0) 65 q i 62 = σ 62 := by funext j; simp [zu]
            have r2 : zu (zu σ 63 q 0) 65 q i 64 = σ 64 := by funext j; simp [zu]
            have r3 : zu (zu σ 63 q 0) 65 q i 66 = σ 66 := by funext j; simp [zu]
            have r4 : zu (zu σ 63 q 0) 65 q i 34 = σ 34 := by funext j; simp [zu]
            have r5 : ∀ d : Int, zu (zu σ 63 q 0) 65 q i 65 d = if d = q then i else σ 65 d := fun d => by simp [zu]
            have s1 : zu (zu (zu μ 20 q 0) 22 q i) 25 q (μ 0 44) 0 = μ 0 := by funext j; simp [zu]
            have s2 : zu (zu (zu μ 20 q 0) 22 q i) 25 q (μ 0 44) 19 = μ 19 := by funext j; simp [zu]
            have s3 : zu (zu (zu μ 20 q 0) 22 q i) 25 q (μ 0 44) 21 = μ 21 := by funext j; simp [zu]
            have s4 : zu (zu (zu μ 20 q 0) 22 q i) 25 q (μ 0 44) 23 = μ 23 := by funext j; simp [zu]
            have s5 : zu (zu (zu μ 20 q 0) 22 q i) 25 q (μ 0 44) 24 = μ 24 := by funext j; simp [zu]
            have s6 : ∀ d : Int, zu (zu (zu μ 20 q 0) 22 q i) 25 q (μ 0 44) 20 d = if d = q then 0 else μ 20 d := fun d => by simp [zu]
            have s7 : ∀ d : Int, zu (zu (zu μ 20 q 0) 22 q i) 25 q (μ 0 44) 22 d = if d = q then i else μ 22 d := fun d => by simp [zu]
            have s8 : ∀ d : Int, zu (zu (zu μ 20 q 0) 22 q i) 25 q (μ 0 44) 25 d = if d = q then μ 0 44 else μ 25 d := fun d => by simp [zu]
            unfold LXd
            rw [r1, r2, r3, r4, s1, s2, s3, s4, s5]
            refine ⟨fun d d0 d1 => ?_, hX.2⟩
            rw [r5, s6, s7, s8]
            obtain ⟨x1, x2, x3, x4, x5, x6, x7⟩ := hX.1 d d0 d1
            by_cases e : d = q
            · simp only [if_pos e]
              exact ⟨x1, x2, ⟨trivial, by omega, by omega⟩, x4, x5, ⟨fun _ => hi, fun _ => trivial⟩, fun _ => hday⟩
            · simp only [if_neg e]
              exact ⟨x1, x2, x3, x4, x5, x6, x7⟩
          · rw [if_neg w, if_pos (by omega)]
            exact hrec
      · exact hrec
theorem LX_grow {σ0 μ0 : zG} (hV : VS σ0 μ0) (who f i fr Q : Int) (hw : 0 ≤ who ∧ who < 8) (hfr : 0 ≤ fr ∧ fr < 4096) : ∀ (n n' : Nat) (q : Int) (σ μ : zG), LC σ μ → LXd Q σ μ → μ 2 = μ0 2 → σ 15 = σ0 15 → (∀ d : Int, q ≤ d → d < μ 0 43 → μ 17 d = who → hb fr (μ 18 d) → μ 20 d ≤ 198) → (∀ j : Int, 0 ≤ j → j < 12 → hb fr j → hb (μ 11 who) j) → 0 ≤ q → (μ 0 43 - q).toNat < n → (μ 0 43 - q).toNat < n' → LXd Q (L_X4_learn_78 who f i fr n q σ) (L_X12_learns_78 who f i fr n' q μ)
  | 0, n', q, σ, μ, _, _, _, _, _, _, _, hm, _ => absurd hm (Nat.not_lt_zero _)
  | n + 1, 0, q, σ, μ, _, _, _, _, _, _, _, _, hm => absurd hm (Nat.not_lt_zero _)
  | n + 1, n' + 1, q, σ, μ, hL, hX, em, es, hq, hfk, h0, hm, hm' => by
    obtain ⟨hK, hT, hM, hD⟩ := id hL
    obtain ⟨hp, hF, hSR, hset, hfa, hkn⟩ := id hV
    rw [L_X4_learn_78, L_X12_learns_78, hM.1]
    split
    · exact hX
    · next c =>
      obtain ⟨⟨d1, d2, d3, d4⟩, d5, d6, d7, d8, d9, d10⟩ := hD q h0 (by omega)
      rw [d2, d3, d4]
      have hrec := LX_grow hV who f i fr Q hw hfr n n' (q + 1) σ μ hL hX em es (fun d d0 d1 => hq d (by omega) d1) hfk (by omega) (by omega) (by omega)
      split
      · next cw =>
        split
        · next cf =>
          have h198 := hq q (Int.le_refl _) (by omega) cw cf
          have e7 : (zu σ 66 q 1) 15 4 = μ 2 7 := by
            rw [zu_ne _ _ _ _ (by decide), es, em]
            exact hset.2.2.2.2.1
          have r7 : 10 ≤ μ 2 7 ∧ μ 2 7 ≤ 40 := by rw [em]; exact hset.2.2.2.2.2.2.2.2.2
          have v1 : V_X4_grown (zu σ 66 q 1) (μ 20 q) = (μ 20 q * μ 2 7 + 9) / 10 := by
            unfold V_X4_grown
            rw [e7]
            exact cut_val ⟨d8, d9⟩ (by omega)
          have v2 : upM (μ 20 q) (μ 2 7) = (μ 20 q * μ 2 7 + 9) / 10 := upM_val ⟨d8, d9⟩ (by omega)
          have ur := up_r ⟨d8, h198⟩ r7
          rw [v1, v2]
          generalize (μ 20 q * μ 2 7 + 9) / 10 = y at *
          have r1 : zu (zu σ 66 q 1) 63 q y 54 = σ 54 := by funext j; simp [zu]
          have r2 : zu (zu σ 66 q 1) 63 q y 53 = σ 53 := by funext j; simp [zu]
          have r3 : zu (zu σ 66 q 1) 63 q y 59 = σ 59 := by funext j; simp [zu]
          have r4 : zu (zu σ 66 q 1) 63 q y 60 = σ 60 := by funext j; simp [zu]
          have r5 : zu (zu σ 66 q 1) 63 q y 61 = σ 61 := by funext j; simp [zu]
          have r6 : ∀ d : Int, zu (zu σ 66 q 1) 63 q y 63 d = if d = q then y else σ 63 d := fun d => by simp [zu]
          have r7' : zu (zu σ 66 q 1) 63 q y 15 = σ 15 := by funext j; simp [zu]
          have r8 : ∀ d : Int, zu (zu σ 66 q 1) 63 q y 66 d = if d = q then 1 else σ 66 d := fun d => by simp [zu]
          have t1 : zu (zu σ 66 q 1) 63 q y 62 = σ 62 := by funext j; simp [zu]
          have t2 : zu (zu σ 66 q 1) 63 q y 64 = σ 64 := by funext j; simp [zu]
          have t3 : zu (zu σ 66 q 1) 63 q y 65 = σ 65 := by funext j; simp [zu]
          have t4 : zu (zu σ 66 q 1) 63 q y 34 = σ 34 := by funext j; simp [zu]
          have s1 : zu (zu μ 23 q 1) 20 q y 0 = μ 0 := by funext j; simp [zu]
          have s2 : zu (zu μ 23 q 1) 20 q y 2 = μ 2 := by funext j; simp [zu]
          have s3 : zu (zu μ 23 q 1) 20 q y 11 = μ 11 := by funext j; simp [zu]
          have s4 : zu (zu μ 23 q 1) 20 q y 16 = μ 16 := by funext j; simp [zu]
          have s5 : zu (zu μ 23 q 1) 20 q y 17 = μ 17 := by funext j; simp [zu]
          have s6 : zu (zu μ 23 q 1) 20 q y 18 = μ 18 := by funext j; simp [zu]
          have s7 : ∀ d : Int, zu (zu μ 23 q 1) 20 q y 20 d = if d = q then y else μ 20 d := fun d => by simp [zu]
          have s8 : ∀ d : Int, zu (zu μ 23 q 1) 20 q y 23 d = if d = q then 1 else μ 23 d := fun d => by simp [zu]
          have w1 : zu (zu μ 23 q 1) 20 q y 19 = μ 19 := by funext j; simp [zu]
          have w2 : zu (zu μ 23 q 1) 20 q y 21 = μ 21 := by funext j; simp [zu]
          have w3 : zu (zu μ 23 q 1) 20 q y 22 = μ 22 := by funext j; simp [zu]
          have w4 : zu (zu μ 23 q 1) 20 q y 24 = μ 24 := by funext j; simp [zu]
          have w5 : zu (zu μ 23 q 1) 20 q y 25 = μ 25 := by funext j; simp [zu]
          refine LX_grow hV who f i fr Q hw hfr n n' (q + 1) _ _ ?_ ?_ (s2.trans em) (r7'.trans es) ?_ (by rw [s3]; exact hfk) (by omega) (by rw [s1]; omega) (by rw [s1]; omega)
          · unfold LC
            rw [r1, r2, r3, r4, r5, s1, s2, s3, s4, s5, s6]
            refine ⟨hK, hT, hM, fun d d0 d1 => ?_⟩
            rw [r6, s7]
            obtain ⟨⟨x1, x2, x3, x4⟩, x5, x6, x7, x8, x9, x10⟩ := hD d d0 d1
            by_cases e : d = q
            · simp only [if_pos e]
              refine ⟨⟨x1, x2, x3, trivial⟩, x5, x6, x7, ur.1, ur.2.1, fun hn => ?_⟩
              subst e
              exact absurd (hfk (μ 18 d) x7.1 (by rw [em] at x7; omega) cf) (by rw [cw] at hn; exact hn)
            · simp only [if_neg e]
              exact ⟨⟨x1, x2, x3, x4⟩, x5, x6, x7, x8, x9, x10⟩
          · unfold LXd
            rw [t1, t2, t3, t4, s1, w1, w2, w3, w4, w5]
            refine ⟨fun d d0 d1 => ?_, hX.2⟩
            rw [r8, s7, s8]
            obtain ⟨x1, x2, x3, x4, x5, x6, x7⟩ := hX.1 d d0 d1
            by_cases e : d = q
            · simp only [if_pos e]
              subst e
              exact ⟨x1, x2, x3, by decide, x5, ⟨fun h => x6.mp (ur.2.2.mp h), fun h => ur.2.2.mpr (x6.mpr h)⟩, x7⟩
            · simp only [if_neg e]
              exact ⟨x1, x2, x3, x4, x5, x6, x7⟩
          · rw [s1, s5, s6]
            intro d d0 d1 d2 d3
            rw [s7, if_neg (by omega)]
            exact hq d (by omega) d1 d2 d3
        · exact hrec
      · exact hrec
/-- by which line one came to know: rows of the class and of the reference -/
theorem s34_K (who f i fr : Int) : ∀ (n : Nat) (q : Int) (σ : zG) (j : Int), (σ 5 1 - q).toNat < n → ((∃ k : Int, q ≤ k ∧ k < σ 5 1 ∧ hb fr k ∧ j = (who * 12) + k) → (S_X4_learn_34 who f i fr n q σ).2 57 j = i) ∧ ((∀ k : Int, q ≤ k → k < σ 5 1 → hb fr k → j ≠ (who * 12) + k) → (S_X4_learn_34 who f i fr n q σ).2 57 j = σ 57 j)
  | 0, q, σ, j, hm => absurd hm (Nat.not_lt_zero _)
  | n + 1, q, σ, j, hm => by
    rw [S_X4_learn_34]
    split
    · next c => exact ⟨fun ⟨k, k0, k1, _⟩ => absurd k1 (by omega), fun _ => rfl⟩
    · next c =>
      split
      · next c1 =>
        have h9 := s34_K who f i fr n (q + 1) (zu σ 57 ((who * 12) + q) i) j (by rw [zu_ne _ _ _ _ (by decide)]; omega)
        rw [zu_ne _ _ _ _ (by decide), zu_if] at h9
        by_cases ha : ∃ k : Int, q + 1 ≤ k ∧ k < σ 5 1 ∧ hb fr k ∧ j = (who * 12) + k
        · refine ⟨fun _ => h9.1 ha, fun h => ?_⟩
          obtain ⟨k, k0, k1, k2, k3⟩ := ha
          exact absurd k3 (h k (by omega) k1 k2)
        · have h8 := h9.2 (fun k k0 k1 k2 k3 => ha ⟨k, k0, k1, k2, k3⟩)
          refine ⟨fun ⟨k, k0, k1, k2, k3⟩ => ?_, fun h => ?_⟩
          · by_cases e : k = q
            · rw [h8, if_pos (by rw [k3, e])]
            · exact absurd ⟨k, by omega, k1, k2, k3⟩ ha
          · rw [h8, if_neg (h q (Int.le_refl _) (by omega) c1)]
      · next c1 =>
        have h9 := s34_K who f i fr n (q + 1) σ j (by omega)
        refine ⟨fun ⟨k, k0, k1, k2, k3⟩ => h9.1 ⟨k, ?_, k1, k2, k3⟩, fun h => h9.2 (fun k k0 k1 k2 => h k (by omega) k1 k2)⟩
        have : k ≠ q := fun e => c1 (by rw [← e]; exact k2)
        omega
theorem s39_K (who f i fr : Int) : ∀ (n : Nat) (q : Int) (μ : zG) (j : Int), (12 - q).toNat < n → ((∃ k : Int, q ≤ k ∧ k < 12 ∧ hb fr k ∧ j = (12 * who) + k) → (S_X12_learns_39 who f i fr n q μ).2 12 j = i) ∧ ((∀ k : Int, q ≤ k → k < 12 → hb fr k → j ≠ (12 * who) + k) → (S_X12_learns_39 who f i fr n q μ).2 12 j = μ 12 j)
  | 0, q, μ, j, hm => absurd hm (Nat.not_lt_zero _)
  | n + 1, q, μ, j, hm => by
    rw [S_X12_learns_39]
    split
    · next c => exact ⟨fun ⟨k, k0, k1, _⟩ => absurd k1 (by omega), fun _ => rfl⟩
    · next c =>
      split
      · next c1 =>
        have h9 := s39_K who f i fr n (q + 1) (zu μ 12 ((12 * who) + q) i) j (by omega)
        rw [zu_if] at h9
        by_cases ha : ∃ k : Int, q + 1 ≤ k ∧ k < 12 ∧ hb fr k ∧ j = (12 * who) + k
        · refine ⟨fun _ => h9.1 ha, fun h => ?_⟩
          obtain ⟨k, k0, k1, k2, k3⟩ := ha
          exact absurd k3 (h k (by omega) k1 k2)
        · have h8 := h9.2 (fun k k0 k1 k2 k3 => ha ⟨k, k0, k1, k2, k3⟩)
          refine ⟨fun ⟨k, k0, k1, k2, k3⟩ => ?_, fun h => ?_⟩
          · by_cases e : k = q
            · rw [h8, if_pos (by rw [k3, e])]
            · exact absurd ⟨k, by omega, k1, k2, k3⟩ ha
          · rw [h8, if_neg (h q (Int.le_refl _) (by omega) c1)]
      · next c1 =>
        have h9 := s39_K who f i fr n (q + 1) μ j (by omega)
        refine ⟨fun ⟨k, k0, k1, k2, k3⟩ => h9.1 ⟨k, ?_, k1, k2, k3⟩, fun h => h9.2 (fun k k0 k1 k2 => h k (by omega) k1 k2)⟩
        have : k ≠ q := fun e => c1 (by rw [← e]; exact k2)
        omega
