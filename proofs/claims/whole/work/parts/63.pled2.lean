/-! pure: debts, payments, what is learnt -/
theorem mul_b {x t a b : Int} (hx : 0 ≤ x ∧ x ≤ a) (ht : 0 ≤ t ∧ t ≤ b) : 0 ≤ x * t ∧ x * t ≤ a * b := ⟨Int.mul_nonneg hx.1 ht.1, Int.mul_le_mul hx.2 ht.2 ht.1 (by omega)⟩
theorem tdiv_pos {x y : Int} (hx : 0 ≤ x) : Int.tdiv x y = x / y := Int.tdiv_eq_ediv_of_nonneg hx
theorem upM_val {x t : Int} (hx : 0 ≤ x ∧ x ≤ 792) (ht : 0 ≤ t ∧ t ≤ 40) : upM x t = (x * t + 9) / 10 := by
  have h := mul_b hx ht
  unfold upM
  rw [w32_id (z := x * t) ⟨by omega, by omega⟩, w32_id (z := x * t + 9) ⟨by omega, by omega⟩, tdiv_pos (by omega)]
theorem cut_val {x t : Int} (hx : 0 ≤ x ∧ x ≤ 792) (ht : 0 ≤ t ∧ t ≤ 40) : V_cutUpW (w32 (x * t)) 10 = (x * t + 9) / 10 := by
  have h := mul_b hx ht
  unfold V_cutUpW
  rw [if_neg (by decide), w32_id (z := x * t) ⟨by omega, by omega⟩, w32_id (z := x * t + 10) ⟨by omega, by omega⟩, w32_id (z := x * t + 10 - 1) ⟨by omega, by omega⟩, tdiv_pos (by omega)]
  congr 1
  omega
theorem up_r {x t : Int} (hx : 0 ≤ x ∧ x ≤ 198) (ht : 10 ≤ t ∧ t ≤ 40) : 0 ≤ (x * t + 9) / 10 ∧ (x * t + 9) / 10 ≤ 792 ∧ ((x * t + 9) / 10 = 0 ↔ x = 0) := by
  have h := mul_b hx (show 0 ≤ t ∧ t ≤ 40 by omega)
  have h2 : x * 10 ≤ x * t := Int.mul_le_mul_of_nonneg_left ht.1 hx.1
  refine ⟨by omega, by omega, fun e => by omega, fun e => by subst e; simp⟩
theorem owes_rows (μ : zG) (who to f much li : Int) (h0 : much ≠ 0) : (F_X12_owes μ who to f much li 2 = μ 2 ∧ F_X12_owes μ who to f much li 11 = μ 11 ∧ F_X12_owes μ who to f much li 0 45 = μ 0 45 ∧ F_X12_owes μ who to f much li 0 43 = μ 0 43 + 1) ∧ ∀ d : Int, F_X12_owes μ who to f much li 16 d = (if d = μ 0 43 then who else μ 16 d) ∧ F_X12_owes μ who to f much li 17 d = (if d = μ 0 43 then to else μ 17 d) ∧ F_X12_owes μ who to f much li 18 d = (if d = μ 0 43 then f else μ 18 d) ∧ F_X12_owes μ who to f much li 20 d = (if d = μ 0 43 then much else μ 20 d) := by
  unfold F_X12_owes
  rw [if_neg h0]
  refine ⟨⟨by funext j; simp [zu], by funext j; simp [zu], by simp [zu], by simp [zu]⟩, fun d => ⟨by simp [zu], by simp [zu], by simp [zu], by simp [zu]⟩⟩

theorem pass_row {μ ν : zG} (e : ν 2 = μ 2) (kn : Int) : ∀ (n : Nat) (v q : Int), S_X12_follows_14 ν kn n v q = S_X12_follows_14 μ kn n v q
  | 0, v, q => rfl
  | n + 1, v, q => by
    rw [S_X12_follows_14, S_X12_follows_14, e]
    repeat' split
    all_goals first | rfl | exact pass_row e kn n _ _
theorem follows_rowL {μ ν : zG} (e : ν 2 = μ 2) (kn : Int) : ∀ (n : Nat) (v was : Int), L_X12_follows_4 ν kn n v was = L_X12_follows_4 μ kn n v was
  | 0, v, was => rfl
  | n + 1, v, was => by
    rw [L_X12_follows_4, L_X12_follows_4, pass_row e]
    split
    · rfl
    · exact follows_rowL e kn n _ _
theorem follows_row {μ ν : zG} (e : ν 2 = μ 2) (kn : Int) : R_X12_follows ν kn = R_X12_follows μ kn := follows_rowL e kn 10000 kn (-1)
theorem pass_hi {σ μ : zG} (h : SR σ μ) (j : Int) (j0 : μ 2 1 ≤ j) (j1 : j < 12) (hn0 : 0 ≤ j) : ∀ (n : Nat) (v q : Int), 0 ≤ q → (0 ≤ v ∧ v < 4096) → ¬ hb v j → ¬ hb (S_X12_follows_14 μ 0 n v q).1 j
  | 0, v, q, _, _, hn => hn
  | n + 1, v, q, h0, hv, hn => by
    rw [S_X12_follows_14]
    split
    · exact hn
    · obtain ⟨ha, hb', hc, h12, e1, e2⟩ := h.2.2 q h0 (by omega)
      have rc := bit_r (c := μ 2 ((52 + (3 * q)) + 2)) (by omega)
      split
      · split
        · refine pass_hi h j j0 j1 hn0 n _ _ (by omega) (bor_r hv rc) ?_
          rw [hb_bor hv rc ⟨hn0, by omega⟩, hb_bit ⟨by omega, by omega⟩ ⟨hn0, by omega⟩]
          rintro (x | x)
          · exact hn x
          · omega
        · exact pass_hi h j j0 j1 hn0 n _ _ (by omega) hv hn
      · exact pass_hi h j j0 j1 hn0 n _ _ (by omega) hv hn
theorem ito_hi {σ μ : zG} (h : SR σ μ) (j : Int) (j0 : μ 2 1 ≤ j) (j1 : j < 12) (hn0 : 0 ≤ j) : ∀ (n : Nat) (v : Int), (0 ≤ v ∧ v < 4096) → ¬ hb v j → ¬ hb (ito μ n v) j
  | 0, v, _, hn => hn
  | n + 1, v, hv, hn => by
    rw [ito]
    exact ito_hi h j j0 j1 hn0 n (pss μ v) (pss_up h hv).2.1 (pass_hi h j j0 j1 hn0 10 v 0 (by decide) hv hn)
theorem follows_hi {σ μ : zG} (h : SR σ μ) {kn : Int} (hk : 0 ≤ kn ∧ kn < 4096) (hi : ∀ i : Int, μ 2 1 ≤ i → i < 12 → ¬ hb kn i) (j : Int) (j0 : μ 2 1 ≤ j) (j1 : j < 12) (n0 : 0 ≤ j) : ¬ hb (R_X12_follows μ kn) j := by
  have hs := h.1
  unfold R_X12_follows
  rw [fm_eq h kn 10000 kn (-1) hk (fun e => by omega) (by rw [if_neg (by omega)]; omega)]
  exact ito_hi h j j0 j1 n0 8 kn hk (hi j j0 j1)

theorem owe_rows (σ : zG) (who much li : Int) (h0 : much ≠ 0) (h1 : σ 53 8 < 128) : (F_X4_owe σ who much li 54 = σ 54 ∧ F_X4_owe σ who much li 53 7 = σ 53 7 ∧ F_X4_owe σ who much li 53 8 = σ 53 8 + 1) ∧ ∀ d : Int, F_X4_owe σ who much li 59 d = (if d = σ 53 8 then who else σ 59 d) ∧ F_X4_owe σ who much li 60 d = (if d = σ 53 8 then σ 30 li else σ 60 d) ∧ F_X4_owe σ who much li 61 d = (if d = σ 53 8 then σ 31 li else σ 61 d) ∧ F_X4_owe σ who much li 63 d = (if d = σ 53 8 then much else σ 63 d) := by
  unfold F_X4_owe
  rw [if_neg h0, if_pos h1]
  refine ⟨⟨by funext j; simp [zu], by simp [zu], by simp [zu]⟩, fun d => ⟨by simp [zu], by simp [zu], by simp [zu], by simp [zu]⟩⟩
theorem LC_owe {σ μ : zG} (hL : LC σ μ) {who to f much li : Int} (hw : 0 ≤ who ∧ who < μ 2 0) (ht : 0 ≤ to ∧ to < μ 2 0) (hf : 0 ≤ f ∧ f < μ 2 1) (hm : 0 ≤ much ∧ much ≤ 198) (h128 : much ≠ 0 → μ 0 43 < 128) (e1 : σ 30 li = to) (e2 : σ 31 li = f) : LC (F_X4_owe σ who much li) (F_X12_owes μ who to f much li) := by
  by_cases h0 : much = 0
  · unfold F_X4_owe F_X12_owes
    rw [if_pos h0, if_pos h0]
    exact hL
  · obtain ⟨hK, hT, hM, hD⟩ := id hL
    have h1 := h128 h0
    obtain ⟨⟨a1, a2, a3⟩, a4⟩ := owe_rows σ who much li h0 (by omega)
    obtain ⟨⟨b1, b2, b3, b4⟩, b5⟩ := owes_rows μ who to f much li h0
    unfold LC
    rw [a1, a2, a3, b1, b2, b3, b4]
    refine ⟨hK, hT, by omega, fun d d0 d1 => ?_⟩
    obtain ⟨c1, c2, c3, c4⟩ := a4 d
    obtain ⟨g1, g2, g3, g4⟩ := b5 d
    rw [c1, c2, c3, c4, g1, g2, g3, g4, hM.1]
    by_cases e : d = μ 0 43
    · simp only [if_pos e]
      exact ⟨⟨trivial, e1, e2, trivial⟩, hw, ht, hf, hm.1, by omega, fun _ => hm.2⟩
    · simp only [if_neg e]
      exact hD d d0 (by omega)
theorem LC_pay (who to f li i wo : Int) : ∀ (n n' : Nat) (q : Int) (σ μ : zG), LC σ μ → 0 ≤ q → (μ 0 43 - q).toNat < n → (μ 0 43 - q).toNat < n' → LC (L_X4_pay_3 who wo i n q σ) (S_X12_tells_11 who to f li wo n' q μ).2
  | 0, n', q, σ, μ, _, _, hm, _ => absurd hm (Nat.not_lt_zero _)
  | n + 1, 0, q, σ, μ, _, _, _, hm => absurd hm (Nat.not_lt_zero _)
  | n + 1, n' + 1, q, σ, μ, hL, h0, hm, hm' => by
    obtain ⟨hK, hT, hM, hD⟩ := id hL
    rw [L_X4_pay_3, S_X12_tells_11, hM.1]
    split
    · exact hL
    · next c =>
      obtain ⟨⟨d1, d2, d3, d4⟩, d5, d6, d7, d8, d9, d10⟩ := hD q h0 (by omega)
      rw [d1, d4]
      have hrec := LC_pay who to f li i wo n n' (q + 1) σ μ hL (by omega) (by omega) (by omega)
      split
      · by_cases z : μ 20 q = 0
        · rw [if_pos z, if_pos (by omega)]
          exact hrec
        · rw [if_neg z, if_neg (by omega)]
          by_cases w : μ 20 q ≤ wo
          · rw [if_pos w, if_neg (by omega)]
            show LC (zu (zu σ 63 q 0) 65 q i) (zu (zu (zu μ 20 q 0) 22 q li) 25 q (μ 0 44))
            unfold LC
            have r1 : zu (zu σ 63 q 0) 65 q i 54 = σ 54 := by funext j; simp [zu]
            have r2 : zu (zu σ 63 q 0) 65 q i 53 = σ 53 := by funext j; simp [zu]
            have r3 : zu (zu σ 63 q 0) 65 q i 59 = σ 59 := by funext j; simp [zu]
            have r4 : zu (zu σ 63 q 0) 65 q i 60 = σ 60 := by funext j; simp [zu]
            have r5 : zu (zu σ 63 q 0) 65 q i 61 = σ 61 := by funext j; simp [zu]
            have r6 : ∀ d : Int, zu (zu σ 63 q 0) 65 q i 63 d = if d = q then 0 else σ 63 d := fun d => by simp [zu]
            have s1 : zu (zu (zu μ 20 q 0) 22 q li) 25 q (μ 0 44) 0 = μ 0 := by funext j; simp [zu]
            have s2 : zu (zu (zu μ 20 q 0) 22 q li) 25 q (μ 0 44) 2 = μ 2 := by funext j; simp [zu]
            have s3 : zu (zu (zu μ 20 q 0) 22 q li) 25 q (μ 0 44) 11 = μ 11 := by funext j; simp [zu]
            have s4 : zu (zu (zu μ 20 q 0) 22 q li) 25 q (μ 0 44) 16 = μ 16 := by funext j; simp [zu]
            have s5 : zu (zu (zu μ 20 q 0) 22 q li) 25 q (μ 0 44) 17 = μ 17 := by funext j; simp [zu]
            have s6 : zu (zu (zu μ 20 q 0) 22 q li) 25 q (μ 0 44) 18 = μ 18 := by funext j; simp [zu]
            have s7 : ∀ d : Int, zu (zu (zu μ 20 q 0) 22 q li) 25 q (μ 0 44) 20 d = if d = q then 0 else μ 20 d := fun d => by simp [zu]
            rw [r1, r2, r3, r4, r5, s1, s2, s3, s4, s5, s6]
            refine ⟨hK, hT, hM, fun d d0 d1 => ?_⟩
            rw [r6, s7]
            obtain ⟨⟨x1, x2, x3, x4⟩, x5, x6, x7, x8, x9, x10⟩ := hD d d0 d1
            by_cases e : d = q
            · simp only [if_pos e]
              exact ⟨⟨x1, x2, x3, trivial⟩, x5, x6, x7, Int.le_refl _, by decide, fun _ => by decide⟩
            · simp only [if_neg e]
              exact ⟨⟨x1, x2, x3, x4⟩, x5, x6, x7, x8, x9, x10⟩
          · rw [if_neg w, if_pos (by omega)]
            exact hrec
      · exact hrec
/-- the debts about what is new grow -/
theorem LC_grow {σ0 μ0 : zG} (hV : VS σ0 μ0) (who f i li fr : Int) (hw : 0 ≤ who ∧ who < 8) (hfr : 0 ≤ fr ∧ fr < 4096) : ∀ (n n' : Nat) (q : Int) (σ μ : zG), LC σ μ → μ 2 = μ0 2 → σ 15 = σ0 15 → (∀ d : Int, q ≤ d → d < μ 0 43 → μ 17 d = who → hb fr (μ 18 d) → μ 20 d ≤ 198) → (∀ j : Int, 0 ≤ j → j < 12 → hb fr j → hb (μ 11 who) j) → 0 ≤ q → (μ 0 43 - q).toNat < n → (μ 0 43 - q).toNat < n' → LC (L_X4_learn_78 who f i fr n q σ) (L_X12_learns_78 who f li fr n' q μ)
  | 0, n', q, σ, μ, _, _, _, _, _, _, hm, _ => absurd hm (Nat.not_lt_zero _)
  | n + 1, 0, q, σ, μ, _, _, _, _, _, _, _, hm => absurd hm (Nat.not_lt_zero _)
  | n + 1, n' + 1, q, σ, μ, hL, em, es, hq, hfk, h0, hm, hm' => by
    obtain ⟨hK, hT, hM, hD⟩ := id hL
    obtain ⟨hp, hF, hSR, hset, hfa, hkn⟩ := id hV
    rw [L_X4_learn_78, L_X12_learns_78, hM.1]
    split
    · exact hL
    · next c =>
      obtain ⟨⟨d1, d2, d3, d4⟩, d5, d6, d7, d8, d9, d10⟩ := hD q h0 (by omega)
      rw [d2, d3, d4]
      have hrec := LC_grow hV who f i li fr hw hfr n n' (q + 1) σ μ hL em es (fun d d0 d1 => hq d (by omega) d1) hfk (by omega) (by omega) (by omega)
      split
      · next cw =>
        split
        · next cf =>
          have h198 := hq q (Int.le_refl _) (by omega) cw cf
          have e7 : (zu σ 66 q 1) 15 4 = μ 2 7 := by
            rw [zu_ne _ _ _ _ (by decide), es, em]
            exact hset.2.2.2.2.1
          have r7 : 10 ≤ μ 2 7 ∧ μ 2 7 ≤ 40 := by rw [em]; exact hset.2.2.2.2.2.2.2.2.2
          have v1 : V_X4_grown (zu σ 66 q 1) (μ 20 q) = (μ 20 q * μ 2 7 + 9) / 10 := by
            unfold V_X4_grown
            rw [e7]
            exact cut_val ⟨d8, d9⟩ (by omega)
          have v2 : upM (μ 20 q) (μ 2 7) = (μ 20 q * μ 2 7 + 9) / 10 := upM_val ⟨d8, d9⟩ (by omega)
          have ur := up_r ⟨d8, h198⟩ r7
          rw [v1, v2]
          generalize (μ 20 q * μ 2 7 + 9) / 10 = y at *
          have r1 : zu (zu σ 66 q 1) 63 q y 54 = σ 54 := by funext j; simp [zu]
          have r2 : zu (zu σ 66 q 1) 63 q y 53 = σ 53 := by funext j; simp [zu]
          have r3 : zu (zu σ 66 q 1) 63 q y 59 = σ 59 := by funext j; simp [zu]
          have r4 : zu (zu σ 66 q 1) 63 q y 60 = σ 60 := by funext j; simp [zu]
          have r5 : zu (zu σ 66 q 1) 63 q y 61 = σ 61 := by funext j; simp [zu]
          have r6 : ∀ d : Int, zu (zu σ 66 q 1) 63 q y 63 d = if d = q then y else σ 63 d := fun d => by simp [zu]
          have r7' : zu (zu σ 66 q 1) 63 q y 15 = σ 15 := by funext j; simp [zu]
          have s1 : zu (zu μ 23 q 1) 20 q y 0 = μ 0 := by funext j; simp [zu]
          have s2 : zu (zu μ 23 q 1) 20 q y 2 = μ 2 := by funext j; simp [zu]
          have s3 : zu (zu μ 23 q 1) 20 q y 11 = μ 11 := by funext j; simp [zu]
          have s4 : zu (zu μ 23 q 1) 20 q y 16 = μ 16 := by funext j; simp [zu]
          have s5 : zu (zu μ 23 q 1) 20 q y 17 = μ 17 := by funext j; simp [zu]
          have s6 : zu (zu μ 23 q 1) 20 q y 18 = μ 18 := by funext j; simp [zu]
          have s7 : ∀ d : Int, zu (zu μ 23 q 1) 20 q y 20 d = if d = q then y else μ 20 d := fun d => by simp [zu]
          refine LC_grow hV who f i li fr hw hfr n n' (q + 1) _ _ ?_ (s2.trans em) (r7'.trans es) ?_ (by rw [s3]; exact hfk) (by omega) (by rw [s1]; omega) (by rw [s1]; omega)
          · unfold LC
            rw [r1, r2, r3, r4, r5, s1, s2, s3, s4, s5, s6]
            refine ⟨hK, hT, hM, fun d d0 d1 => ?_⟩
            rw [r6, s7]
            obtain ⟨⟨x1, x2, x3, x4⟩, x5, x6, x7, x8, x9, x10⟩ := hD d d0 d1
            by_cases e : d = q
            · simp only [if_pos e]
              refine ⟨⟨x1, x2, x3, trivial⟩, x5, x6, x7, ur.1, ur.2.1, fun hn => ?_⟩
              subst e
              exact absurd (hfk (μ 18 d) x7.1 (by rw [em] at x7; omega) cf) (by rw [cw] at hn; exact hn)
            · simp only [if_neg e]
              exact ⟨⟨x1, x2, x3, x4⟩, x5, x6, x7, x8, x9, x10⟩
          · rw [s1, s5, s6]
            intro d d0 d1 d2 d3
            rw [s7, if_neg (by omega)]
            exact hq d (by omega) d1 d2 d3
        · exact hrec
      · exact hrec
/-- what one learns, on both sides -/
theorem LC_learn {σ μ : zG} (hV : VS σ μ) (hL : LC σ μ) {who f i li : Int} (hw : 0 ≤ who ∧ who < μ 2 0) (hf : 0 ≤ f ∧ f < μ 2 1) : LC (R_X4_learn σ who f i) (R_X12_learns (zu μ 0 45 (bor (μ 0 45) (bshl 1 f))) who f li) ∧ R_X4_learn σ who f i 53 7 = bor (μ 0 45) (bshl 1 f) := by
  obtain ⟨hK, hT, hM, hD⟩ := id hL
  obtain ⟨hp, hF, hSR, hset, hfa, hkn⟩ := id hV
  obtain ⟨k1, k2, k3⟩ := hK who hw.1 (by omega)
  have rb := bit_r (c := f) ⟨hf.1, by omega⟩
  have ro := bor_r k2 rb
  have efol := follow_eq hSR ro
  have rfol := follow_r hSR ro
  have hSR' : R_X12_follows (zu μ 0 45 (bor (μ 0 45) (bshl 1 f))) (bor (μ 11 who) (bshl 1 f)) = R_X12_follows μ (bor (μ 11 who) (bshl 1 f)) := follows_row (zu_row _ _ _ (by decide)) _
  unfold R_X4_learn R_X12_learns V_X4_freshFor
  have e11 : zu μ 0 45 (bor (μ 0 45) (bshl 1 f)) 11 = μ 11 := zu_row _ _ _ (by decide)
  rw [e11, hSR', k1, efol]
  have rfr := band_r (b := bxor (μ 11 who) (-1)) rfol
  have fsub : ∀ j : Int, 0 ≤ j → j < 12 → (hb (band (R_X12_follows μ (bor (μ 11 who) (bshl 1 f))) (bxor (μ 11 who) (-1))) j ↔ hb (R_X12_follows μ (bor (μ 11 who) (bshl 1 f))) j ∧ ¬ hb (μ 11 who) j) := fun j j0 j1 => not_r k2 _ j rfol ⟨j0, j1⟩
  have fhi : ∀ j : Int, μ 2 1 ≤ j → j < 12 → ¬ hb (R_X12_follows μ (bor (μ 11 who) (bshl 1 f))) j := fun j j0 j1 => follows_hi hSR ro (fun i i0 i1 => by rw [hb_bor k2 rb ⟨by omega, by omega⟩, hb_bit ⟨hf.1, by omega⟩ ⟨by omega, by omega⟩]; rintro (x | x); exact k3 i i0 i1 x; omega) j j0 j1 (by omega)
  generalize R_X12_follows μ (bor (μ 11 who) (bshl 1 f)) = fo at *
  generalize band fo (bxor (μ 11 who) (-1)) = fr at *
  have rn := bor_r k2 rfr
  have rt := bor_r ⟨hT.2.1, hT.2.2⟩ rb
  have c0 : ∀ c : Nat, c ∉ [53, 54, 57] → (S_X4_learn_34 who f i fr 20 0 (zu (zu σ 54 who (bor (μ 11 who) fr)) 53 7 (bor (σ 53 7) (bshl 1 f)))).2 c = σ c := by
    intro c hc
    rw [fr_S_X4_learn_34 (h := fun h => hc (by revert h; simp; intro h; simp [h])), zu_row _ _ _ (fun h => hc (by simp [h])), zu_row _ _ _ (fun h => hc (by simp [h]))]
  have cK : (S_X4_learn_34 who f i fr 20 0 (zu (zu σ 54 who (bor (μ 11 who) fr)) 53 7 (bor (σ 53 7) (bshl 1 f)))).2 54 = zu σ 54 who (bor (μ 11 who) fr) 54 := by
    rw [fr_S_X4_learn_34 (h := by decide), zu_row _ _ _ (by decide)]
  have cT : ∀ j : Int, (S_X4_learn_34 who f i fr 20 0 (zu (zu σ 54 who (bor (μ 11 who) fr)) 53 7 (bor (σ 53 7) (bshl 1 f)))).2 53 j = if j = 7 then bor (σ 53 7) (bshl 1 f) else σ 53 j := by
    intro j
    rw [fr_S_X4_learn_34 (h := by decide), zu_if, zu_row _ _ _ (by decide)]
  have m0 : ∀ c : Nat, c ∉ [0, 11, 12] → (S_X12_learns_39 who f li fr 20 0 (zu (zu μ 0 45 (bor (μ 0 45) (bshl 1 f))) 11 who (bor (μ 11 who) fr))).2 c = μ c := by
    intro c hc
    rw [fr_S_X12_learns_39 (h := fun h => hc (by revert h; simp; intro h; simp [h])), zu_row _ _ _ (fun h => hc (by simp [h])), zu_row _ _ _ (fun h => hc (by simp [h]))]
  have mK : ∀ a : Int, (S_X12_learns_39 who f li fr 20 0 (zu (zu μ 0 45 (bor (μ 0 45) (bshl 1 f))) 11 who (bor (μ 11 who) fr))).2 11 a = if a = who then bor (μ 11 who) fr else μ 11 a := by
    intro a
    rw [fr_S_X12_learns_39 (h := by decide), zu_if, e11]
  have mT : ∀ j : Int, (S_X12_learns_39 who f li fr 20 0 (zu (zu μ 0 45 (bor (μ 0 45) (bshl 1 f))) 11 who (bor (μ 11 who) fr))).2 0 j = if j = 45 then bor (μ 0 45) (bshl 1 f) else μ 0 j := by
    intro j
    rw [fr_S_X12_learns_39 (h := by decide), zu_row _ _ _ (by decide), zu_if]
  generalize (S_X4_learn_34 who f i fr 20 0 (zu (zu σ 54 who (bor (μ 11 who) fr)) 53 7 (bor (σ 53 7) (bshl 1 f)))).2 = σ1 at *
  generalize (S_X12_learns_39 who f li fr 20 0 (zu (zu μ 0 45 (bor (μ 0 45) (bshl 1 f))) 11 who (bor (μ 11 who) fr))).2 = μ1 at *
  have hL1 : LC σ1 μ1 := by
    unfold LC
    rw [m0 2 (by decide), cK, c0 59 (by decide), c0 60 (by decide), c0 61 (by decide), c0 63 (by decide), m0 16 (by decide), m0 17 (by decide), m0 18 (by decide), m0 20 (by decide), cT, cT, mT, mT, hT.1, hM.1]
    refine ⟨fun a a0 a8 => ?_, ⟨rfl, rt⟩, ⟨rfl, hM.2⟩, fun d d0 d1 => ?_⟩
    · rw [mK, zu_if]
      by_cases e : a = who
      · simp only [if_pos e]
        refine ⟨trivial, rn, fun j j0 j1 => ?_⟩
        rw [hb_bor k2 rfr ⟨by omega, by omega⟩, fsub j (by omega) j1]
        rintro (x | x)
        · exact k3 j j0 j1 x
        · exact fhi j j0 j1 x.1
      · simp only [if_neg e]
        exact hK a a0 a8
    · obtain ⟨x1, x5, x6, x7, x8, x9, x10⟩ := hD d d0 d1
      refine ⟨x1, x5, x6, x7, x8, x9, fun hn => x10 (fun hy => hn ?_)⟩
      rw [mK]
      split
      · next e => exact (hb_bor k2 rfr ⟨x7.1, by omega⟩).mpr (Or.inl (by rw [← e]; exact hy))
      · exact hy
  refine ⟨?_, ?_⟩
  · refine LC_grow hV who f i li fr ⟨hw.1, by omega⟩ rfr 200 500 0 σ1 μ1 hL1 (m0 2 (by decide)) (c0 15 (by decide)) ?_ ?_ (by decide) (by rw [mT]; simp; omega) (by rw [mT]; simp; omega)
    · intro d d0 d1 d2 d3
      rw [mT] at d1
      rw [m0 17 (by decide)] at d2
      rw [m0 18 (by decide)] at d3
      rw [m0 20 (by decide)]
      obtain ⟨x1, x5, x6, x7, x8, x9, x10⟩ := hD d d0 (by simpa using d1)
      exact x10 (by rw [d2]; exact ((fsub _ x7.1 (by omega)).mp d3).2)
    · intro j j0 j1 hj
      rw [mK, if_pos rfl]
      exact (hb_bor k2 rfr ⟨j0, by omega⟩).mpr (Or.inr hj)
  · rw [fr_L_X4_learn_78 (h := by decide), cT, if_pos rfl, hT.1]

theorem owe_rowst (σ : zG) (who much li : Int) (h0 : much ≠ 0) (h1 : σ 67 8 < 128) : (F_X4_owet σ who much li 68 = σ 68 ∧ F_X4_owet σ who much li 67 7 = σ 67 7 ∧ F_X4_owet σ who much li 67 8 = σ 67 8 + 1) ∧ ∀ d : Int, F_X4_owet σ who much li 73 d = (if d = σ 67 8 then who else σ 73 d) ∧ F_X4_owet σ who much li 74 d = (if d = σ 67 8 then σ 30 li else σ 74 d) ∧ F_X4_owet σ who much li 75 d = (if d = σ 67 8 then σ 31 li else σ 75 d) ∧ F_X4_owet σ who much li 77 d = (if d = σ 67 8 then much else σ 77 d) := by
  unfold F_X4_owet
  rw [if_neg h0, if_pos h1]
  refine ⟨⟨by funext j; simp [zu], by simp [zu], by simp [zu]⟩, fun d => ⟨by simp [zu], by simp [zu], by simp [zu], by simp [zu]⟩⟩
theorem LC_owet {σ μ : zG} (hL : LCt σ μ) {who to f much li : Int} (hw : 0 ≤ who ∧ who < μ 2 0) (ht : 0 ≤ to ∧ to < μ 2 0) (hf : 0 ≤ f ∧ f < μ 2 1) (hm : 0 ≤ much ∧ much ≤ 198) (h128 : much ≠ 0 → μ 0 43 < 128) (e1 : σ 30 li = to) (e2 : σ 31 li = f) : LCt (F_X4_owet σ who much li) (F_X12_owes μ who to f much li) := by
  by_cases h0 : much = 0
  · unfold F_X4_owet F_X12_owes
    rw [if_pos h0, if_pos h0]
    exact hL
  · obtain ⟨hK, hT, hM, hD⟩ := id hL
    have h1 := h128 h0
    obtain ⟨⟨a1, a2, a3⟩, a4⟩ := owe_rowst σ who much li h0 (by omega)
    obtain ⟨⟨b1, b2, b3, b4⟩, b5⟩ := owes_rows μ who to f much li h0
    unfold LCt
    rw [a1, a2, a3, b1, b2, b3, b4]
    refine ⟨hK, hT, by omega, fun d d0 d1 => ?_⟩
    obtain ⟨c1, c2, c3, c4⟩ := a4 d
    obtain ⟨g1, g2, g3, g4⟩ := b5 d
    rw [c1, c2, c3, c4, g1, g2, g3, g4, hM.1]
    by_cases e : d = μ 0 43
    · simp only [if_pos e]
      exact ⟨⟨trivial, e1, e2, trivial⟩, hw, ht, hf, hm.1, by omega, fun _ => hm.2⟩
    · simp only [if_neg e]
      exact hD d d0 (by omega)
theorem LC_payt (who to f li i wo : Int) : ∀ (n n' : Nat) (q : Int) (σ μ : zG), LCt σ μ → 0 ≤ q → (μ 0 43 - q).toNat < n → (μ 0 43 - q).toNat < n' → LCt (L_X4_pay_3t who wo i n q σ) (S_X12_tells_11 who to f li wo n' q μ).2
  | 0, n', q, σ, μ, _, _, hm, _ => absurd hm (Nat.not_lt_zero _)
  | n + 1, 0, q, σ, μ, _, _, _, hm => absurd hm (Nat.not_lt_zero _)
  | n + 1, n' + 1, q, σ, μ, hL, h0, hm, hm' => by
    obtain ⟨hK, hT, hM, hD⟩ := id hL
    rw [L_X4_pay_3t, S_X12_tells_11, hM.1]
    split
    · exact hL
    · next c =>
      obtain ⟨⟨d1, d2, d3, d4⟩, d5, d6, d7, d8, d9, d10⟩ := hD q h0 (by omega)
      rw [d1, d4]
      have hrec := LC_payt who to f li i wo n n' (q + 1) σ μ hL (by omega) (by omega) (by omega)
      split
      · by_cases z : μ 20 q = 0
        · rw [if_pos z, if_pos (by omega)]
          exact hrec
        · rw [if_neg z, if_neg (by omega)]
          by_cases w : μ 20 q ≤ wo
          · rw [if_pos w, if_neg (by omega)]
            show LCt (zu (zu σ 77 q 0) 79 q i) (zu (zu (zu μ 20 q 0) 22 q li) 25 q (μ 0 44))
            unfold LCt
            have r1 : zu (zu σ 77 q 0) 79 q i 68 = σ 68 := by funext j; simp [zu]
            have r2 : zu (zu σ 77 q 0) 79 q i 67 = σ 67 := by funext j; simp [zu]
            have r3 : zu (zu σ 77 q 0) 79 q i 73 = σ 73 := by funext j; simp [zu]
            have r4 : zu (zu σ 77 q 0) 79 q i 74 = σ 74 := by funext j; simp [zu]
            have r5 : zu (zu σ 77 q 0) 79 q i 75 = σ 75 := by funext j; simp [zu]
            have r6 : ∀ d : Int, zu (zu σ 77 q 0) 79 q i 77 d = if d = q then 0 else σ 77 d := fun d => by simp [zu]
            have s1 : zu (zu (zu μ 20 q 0) 22 q li) 25 q (μ 0 44) 0 = μ 0 := by funext j; simp [zu]
            have s2 : zu (zu (zu μ 20 q 0) 22 q li) 25 q (μ 0 44) 2 = μ 2 := by funext j; simp [zu]
            have s3 : zu (zu (zu μ 20 q 0) 22 q li) 25 q (μ 0 44) 11 = μ 11 := by funext j; simp [zu]
            have s4 : zu (zu (zu μ 20 q 0) 22 q li) 25 q (μ 0 44) 16 = μ 16 := by funext j; simp [zu]
            have s5 : zu (zu (zu μ 20 q 0) 22 q li) 25 q (μ 0 44) 17 = μ 17 := by funext j; simp [zu]
            have s6 : zu (zu (zu μ 20 q 0) 22 q li) 25 q (μ 0 44) 18 = μ 18 := by funext j; simp [zu]
            have s7 : ∀ d : Int, zu (zu (zu μ 20 q 0) 22 q li) 25 q (μ 0 44) 20 d = if d = q then 0 else μ 20 d := fun d => by simp [zu]
            rw [r1, r2, r3, r4, r5, s1, s2, s3, s4, s5, s6]
            refine ⟨hK, hT, hM, fun d d0 d1 => ?_⟩
            rw [r6, s7]
            obtain ⟨⟨x1, x2, x3, x4⟩, x5, x6, x7, x8, x9, x10⟩ := hD d d0 d1
            by_cases e : d = q
            · simp only [if_pos e]
              exact ⟨⟨x1, x2, x3, trivial⟩, x5, x6, x7, Int.le_refl _, by decide, fun _ => by decide⟩
            · simp only [if_neg e]
              exact ⟨⟨x1, x2, x3, x4⟩, x5, x6, x7, x8, x9, x10⟩
          · rw [if_neg w, if_pos (by omega)]
            exact hrec
      · exact hrec
/-- the debts about what is new grow -/
theorem LC_growt {σ0 μ0 : zG} (hV : VS σ0 μ0) (who f i li fr : Int) (hw : 0 ≤ who ∧ who < 8) (hfr : 0 ≤ fr ∧ fr < 4096) : ∀ (n n' : Nat) (q : Int) (σ μ : zG), LCt σ μ → μ 2 = μ0 2 → σ 15 = σ0 15 → (∀ d : Int, q ≤ d → d < μ 0 43 → μ 17 d = who → hb fr (μ 18 d) → μ 20 d ≤ 198) → (∀ j : Int, 0 ≤ j → j < 12 → hb fr j → hb (μ 11 who) j) → 0 ≤ q → (μ 0 43 - q).toNat < n → (μ 0 43 - q).toNat < n' → LCt (L_X4_learn_78t who f i fr n q σ) (L_X12_learns_78 who f li fr n' q μ)
  | 0, n', q, σ, μ, _, _, _, _, _, _, hm, _ => absurd hm (Nat.not_lt_zero _)
  | n + 1, 0, q, σ, μ, _, _, _, _, _, _, _, hm => absurd hm (Nat.not_lt_zero _)
  | n + 1, n' + 1, q, σ, μ, hL, em, es, hq, hfk, h0, hm, hm' => by
    obtain ⟨hK, hT, hM, hD⟩ := id hL
    obtain ⟨hp, hF, hSR, hset, hfa, hkn⟩ := id hV
    rw [L_X4_learn_78t, L_X12_learns_78, hM.1]
    split
    · exact hL
    · next c =>
      obtain ⟨⟨d1, d2, d3, d4⟩, d5, d6, d7, d8, d9, d10⟩ := hD q h0 (by omega)
      rw [d2, d3, d4]
      have hrec := LC_growt hV who f i li fr hw hfr n n' (q + 1) σ μ hL em es (fun d d0 d1 => hq d (by omega) d1) hfk (by omega) (by omega) (by omega)
      split
      · next cw =>
        split
        · next cf =>
          have h198 := hq q (Int.le_refl _) (by omega) cw cf
          have e7 : (zu σ 80 q 1) 15 4 = μ 2 7 := by
            rw [zu_ne _ _ _ _ (by decide), es, em]
            exact hset.2.2.2.2.1
          have r7 : 10 ≤ μ 2 7 ∧ μ 2 7 ≤ 40 := by rw [em]; exact hset.2.2.2.2.2.2.2.2.2
          have v1 : V_X4_grownt (zu σ 80 q 1) (μ 20 q) = (μ 20 q * μ 2 7 + 9) / 10 := by
            unfold V_X4_grownt
            rw [e7]
            exact cut_val ⟨d8, d9⟩ (by omega)
          have v2 : upM (μ 20 q) (μ 2 7) = (μ 20 q * μ 2 7 + 9) / 10 := upM_val ⟨d8, d9⟩ (by omega)
          have ur := up_r ⟨d8, h198⟩ r7
          rw [v1, v2]
          generalize (μ 20 q * μ 2 7 + 9) / 10 = y at *
          have r1 : zu (zu σ 80 q 1) 77 q y 68 = σ 68 := by funext j; simp [zu]
          have r2 : zu (zu σ 80 q 1) 77 q y 67 = σ 67 := by funext j; simp [zu]
          have r3 : zu (zu σ 80 q 1) 77 q y 73 = σ 73 := by funext j; simp [zu]
          have r4 : zu (zu σ 80 q 1) 77 q y 74 = σ 74 := by funext j; simp [zu]
          have r5 : zu (zu σ 80 q 1) 77 q y 75 = σ 75 := by funext j; simp [zu]
          have r6 : ∀ d : Int, zu (zu σ 80 q 1) 77 q y 77 d = if d = q then y else σ 77 d := fun d => by simp [zu]
          have r7' : zu (zu σ 80 q 1) 77 q y 15 = σ 15 := by funext j; simp [zu]
          have s1 : zu (zu μ 23 q 1) 20 q y 0 = μ 0 := by funext j; simp [zu]
          have s2 : zu (zu μ 23 q 1) 20 q y 2 = μ 2 := by funext j; simp [zu]
          have s3 : zu (zu μ 23 q 1) 20 q y 11 = μ 11 := by funext j; simp [zu]
          have s4 : zu (zu μ 23 q 1) 20 q y 16 = μ 16 := by funext j; simp [zu]
          have s5 : zu (zu μ 23 q 1) 20 q y 17 = μ 17 := by funext j; simp [zu]
          have s6 : zu (zu μ 23 q 1) 20 q y 18 = μ 18 := by funext j; simp [zu]
          have s7 : ∀ d : Int, zu (zu μ 23 q 1) 20 q y 20 d = if d = q then y else μ 20 d := fun d => by simp [zu]
          refine LC_growt hV who f i li fr hw hfr n n' (q + 1) _ _ ?_ (s2.trans em) (r7'.trans es) ?_ (by rw [s3]; exact hfk) (by omega) (by rw [s1]; omega) (by rw [s1]; omega)
          · unfold LCt
            rw [r1, r2, r3, r4, r5, s1, s2, s3, s4, s5, s6]
            refine ⟨hK, hT, hM, fun d d0 d1 => ?_⟩
            rw [r6, s7]
            obtain ⟨⟨x1, x2, x3, x4⟩, x5, x6, x7, x8, x9, x10⟩ := hD d d0 d1
            by_cases e : d = q
            · simp only [if_pos e]
              refine ⟨⟨x1, x2, x3, trivial⟩, x5, x6, x7, ur.1, ur.2.1, fun hn => ?_⟩
              subst e
              exact absurd (hfk (μ 18 d) x7.1 (by rw [em] at x7; omega) cf) (by rw [cw] at hn; exact hn)
            · simp only [if_neg e]
              exact ⟨⟨x1, x2, x3, x4⟩, x5, x6, x7, x8, x9, x10⟩
          · rw [s1, s5, s6]
            intro d d0 d1 d2 d3
            rw [s7, if_neg (by omega)]
            exact hq d (by omega) d1 d2 d3
        · exact hrec
      · exact hrec
/-- what one learns, on both sides -/
theorem LC_learnt {σ μ : zG} (hV : VS σ μ) (hL : LCt σ μ) {who f i li : Int} (hw : 0 ≤ who ∧ who < μ 2 0) (hf : 0 ≤ f ∧ f < μ 2 1) : LCt (R_X4_learnt σ who f i) (R_X12_learns (zu μ 0 45 (bor (μ 0 45) (bshl 1 f))) who f li) ∧ R_X4_learnt σ who f i 67 7 = bor (μ 0 45) (bshl 1 f) := by
  obtain ⟨hK, hT, hM, hD⟩ := id hL
  obtain ⟨hp, hF, hSR, hset, hfa, hkn⟩ := id hV
  obtain ⟨k1, k2, k3⟩ := hK who hw.1 (by omega)
  have rb := bit_r (c := f) ⟨hf.1, by omega⟩
  have ro := bor_r k2 rb
  have efol := follow_eq hSR ro
  have rfol := follow_r hSR ro
  have hSR' : R_X12_follows (zu μ 0 45 (bor (μ 0 45) (bshl 1 f))) (bor (μ 11 who) (bshl 1 f)) = R_X12_follows μ (bor (μ 11 who) (bshl 1 f)) := follows_row (zu_row _ _ _ (by decide)) _
  unfold R_X4_learnt R_X12_learns V_X4_freshFort
  have e11 : zu μ 0 45 (bor (μ 0 45) (bshl 1 f)) 11 = μ 11 := zu_row _ _ _ (by decide)
  rw [e11, hSR', k1, efol]
  have rfr := band_r (b := bxor (μ 11 who) (-1)) rfol
  have fsub : ∀ j : Int, 0 ≤ j → j < 12 → (hb (band (R_X12_follows μ (bor (μ 11 who) (bshl 1 f))) (bxor (μ 11 who) (-1))) j ↔ hb (R_X12_follows μ (bor (μ 11 who) (bshl 1 f))) j ∧ ¬ hb (μ 11 who) j) := fun j j0 j1 => not_r k2 _ j rfol ⟨j0, j1⟩
  have fhi : ∀ j : Int, μ 2 1 ≤ j → j < 12 → ¬ hb (R_X12_follows μ (bor (μ 11 who) (bshl 1 f))) j := fun j j0 j1 => follows_hi hSR ro (fun i i0 i1 => by rw [hb_bor k2 rb ⟨by omega, by omega⟩, hb_bit ⟨hf.1, by omega⟩ ⟨by omega, by omega⟩]; rintro (x | x); exact k3 i i0 i1 x; omega) j j0 j1 (by omega)
  generalize R_X12_follows μ (bor (μ 11 who) (bshl 1 f)) = fo at *
  generalize band fo (bxor (μ 11 who) (-1)) = fr at *
  have rn := bor_r k2 rfr
  have rt := bor_r ⟨hT.2.1, hT.2.2⟩ rb
  have c0 : ∀ c : Nat, c ∉ [67, 68, 71] → (S_X4_learn_34t who f i fr 20 0 (zu (zu σ 68 who (bor (μ 11 who) fr)) 67 7 (bor (σ 67 7) (bshl 1 f)))).2 c = σ c := by
    intro c hc
    rw [fr_S_X4_learn_34t (h := fun h => hc (by revert h; simp; intro h; simp [h])), zu_row _ _ _ (fun h => hc (by simp [h])), zu_row _ _ _ (fun h => hc (by simp [h]))]
  have cK : (S_X4_learn_34t who f i fr 20 0 (zu (zu σ 68 who (bor (μ 11 who) fr)) 67 7 (bor (σ 67 7) (bshl 1 f)))).2 68 = zu σ 68 who (bor (μ 11 who) fr) 68 := by
    rw [fr_S_X4_learn_34t (h := by decide), zu_row _ _ _ (by decide)]
  have cT : ∀ j : Int, (S_X4_learn_34t who f i fr 20 0 (zu (zu σ 68 who (bor (μ 11 who) fr)) 67 7 (bor (σ 67 7) (bshl 1 f)))).2 67 j = if j = 7 then bor (σ 67 7) (bshl 1 f) else σ 67 j := by
    intro j
    rw [fr_S_X4_learn_34t (h := by decide), zu_if, zu_row _ _ _ (by decide)]
  have m0 : ∀ c : Nat, c ∉ [0, 11, 12] → (S_X12_learns_39 who f li fr 20 0 (zu (zu μ 0 45 (bor (μ 0 45) (bshl 1 f))) 11 who (bor (μ 11 who) fr))).2 c = μ c := by
    intro c hc
    rw [fr_S_X12_learns_39 (h := fun h => hc (by revert h; simp; intro h; simp [h])), zu_row _ _ _ (fun h => hc (by simp [h])), zu_row _ _ _ (fun h => hc (by simp [h]))]
  have mK : ∀ a : Int, (S_X12_learns_39 who f li fr 20 0 (zu (zu μ 0 45 (bor (μ 0 45) (bshl 1 f))) 11 who (bor (μ 11 who) fr))).2 11 a = if a = who then bor (μ 11 who) fr else μ 11 a := by
    intro a
    rw [fr_S_X12_learns_39 (h := by decide), zu_if, e11]
  have mT : ∀ j : Int, (S_X12_learns_39 who f li fr 20 0 (zu (zu μ 0 45 (bor (μ 0 45) (bshl 1 f))) 11 who (bor (μ 11 who) fr))).2 0 j = if j = 45 then bor (μ 0 45) (bshl 1 f) else μ 0 j := by
    intro j
    rw [fr_S_X12_learns_39 (h := by decide), zu_row _ _ _ (by decide), zu_if]
  generalize (S_X4_learn_34t who f i fr 20 0 (zu (zu σ 68 who (bor (μ 11 who) fr)) 67 7 (bor (σ 67 7) (bshl 1 f)))).2 = σ1 at *
  generalize (S_X12_learns_39 who f li fr 20 0 (zu (zu μ 0 45 (bor (μ 0 45) (bshl 1 f))) 11 who (bor (μ 11 who) fr))).2 = μ1 at *
  have hL1 : LCt σ1 μ1 := by
    unfold LCt
    rw [m0 2 (by decide), cK, c0 73 (by decide), c0 74 (by decide), c0 75 (by decide), c0 77 (by decide), m0 16 (by decide), m0 17 (by decide), m0 18 (by decide), m0 20 (by decide), cT, cT, mT, mT, hT.1, hM.1]
    refine ⟨fun a a0 a8 => ?_, ⟨rfl, rt⟩, ⟨rfl, hM.2⟩, fun d d0 d1 => ?_⟩
    · rw [mK, zu_if]
      by_cases e : a = who
      · simp only [if_pos e]
        refine ⟨trivial, rn, fun j j0 j1 => ?_⟩
        rw [hb_bor k2 rfr ⟨by omega, by omega⟩, fsub j (by omega) j1]
        rintro (x | x)
        · exact k3 j j0 j1 x
        · exact fhi j j0 j1 x.1
      · simp only [if_neg e]
        exact hK a a0 a8
    · obtain ⟨x1, x5, x6, x7, x8, x9, x10⟩ := hD d d0 d1
      refine ⟨x1, x5, x6, x7, x8, x9, fun hn => x10 (fun hy => hn ?_)⟩
      rw [mK]
      split
      · next e => exact (hb_bor k2 rfr ⟨x7.1, by omega⟩).mpr (Or.inl (by rw [← e]; exact hy))
      · exact hy
  refine ⟨?_, ?_⟩
  · refine LC_growt hV who f i li fr ⟨hw.1, by omega⟩ rfr 200 500 0 σ1 μ1 hL1 (m0 2 (by decide)) (c0 15 (by decide)) ?_ ?_ (by decide) (by rw [mT]; simp; omega) (by rw [mT]; simp; omega)
    · intro d d0 d1 d2 d3
      rw [mT] at d1
      rw [m0 17 (by decide)] at d2
      rw [m0 18 (by decide)] at d3
      rw [m0 20 (by decide)]
      obtain ⟨x1, x5, x6, x7, x8, x9, x10⟩ := hD d d0 (by simpa using d1)
      exact x10 (by rw [d2]; exact ((fsub _ x7.1 (by omega)).mp d3).2)
    · intro j j0 j1 hj
      rw [mK, if_pos rfl]
      exact (hb_bor k2 rfr ⟨j0, by omega⟩).mpr (Or.inr hj)
  · rw [fr_L_X4_learn_78t (h := by decide), cT, if_pos rfl, hT.1]
