/-! pure: order on both sides -/
theorem BK_rows {σ τ μ ν : zG} (h : BK σ μ) (es : ∀ c : Nat, 5 ≤ c → c < 67 → τ c = σ c) (e2 : ν 2 = μ 2) (e9 : ν 9 = μ 9) : BK τ ν := by
  unfold BK LN at *
  rw [es 27 (by decide) (by decide), es 28 (by decide) (by decide), es 29 (by decide) (by decide), es 30 (by decide) (by decide), es 31 (by decide) (by decide), es 32 (by decide) (by decide), es 33 (by decide) (by decide), e2, e9]
  exact h
theorem DD_rows {σ τ : zG} (h : DD σ) (es : ∀ c : Nat, 5 ≤ c → c < 67 → τ c = σ c) : DD τ := by
  unfold DD DY DYl at *
  rw [es 27 (by decide) (by decide), es 28 (by decide) (by decide), es 29 (by decide) (by decide), es 34 (by decide) (by decide)]
  exact h
/-- telling k as the tape has it -/
def okT (t : Int → Int) (P F k : Int) : Prop := (0 ≤ t (3 * k) ∧ t (3 * k) < P) ∧ (0 ≤ t ((3 * k) + 1) ∧ t ((3 * k) + 1) < P) ∧ (0 ≤ t ((3 * k) + 2) ∧ t ((3 * k) + 2) < F) ∧ ¬ t (3 * k) = t ((3 * k) + 1)
theorem take40 {nn P F : Int} {t : Int → Int} : ∀ (n : Nat) (q : Int) (σ : zG), 0 ≤ q → (nn - q).toNat < n → σ 91 0 = nn → σ 2 = t → σ 5 0 = P → σ 5 1 = F → ((∀ k : Int, q ≤ k → k < nn → okT t P F k) → (L_X8_take_40 n q σ).1 = 1 ∧ (∀ k : Int, q ≤ k → k < nn → (L_X8_take_40 n q σ).2 92 k = t (3 * k) ∧ (L_X8_take_40 n q σ).2 93 k = t ((3 * k) + 1) ∧ (L_X8_take_40 n q σ).2 94 k = t ((3 * k) + 2)) ∧ ∀ k : Int, k < q → (L_X8_take_40 n q σ).2 92 k = σ 92 k ∧ (L_X8_take_40 n q σ).2 93 k = σ 93 k ∧ (L_X8_take_40 n q σ).2 94 k = σ 94 k) ∧ ((∃ k : Int, q ≤ k ∧ k < nn ∧ ¬ okT t P F k) → (L_X8_take_40 n q σ).1 = 0)
  | 0, q, σ, _, h, _, _, _, _ => absurd h (Nat.not_lt_zero _)
  | n + 1, q, σ, q0, h, e91, e2, e5, e6 => by
    rw [L_X8_take_40, e91, e2, e5, e6]
    by_cases c : nn ≤ q
    · rw [if_pos c]
      exact ⟨fun _ => ⟨rfl, fun k k0 k1 => absurd k1 (by omega), fun k _ => ⟨rfl, rfl, rfl⟩⟩, fun ⟨k, k0, k1, _⟩ => absurd k1 (by omega)⟩
    · rw [if_neg c]
      have ih := take40 (nn := nn) (P := P) (F := F) (t := t) n (q + 1) (zu (zu (zu σ 92 q (t (3 * q))) 93 q (t ((3 * q) + 1))) 94 q (t ((3 * q) + 2))) (by omega) (by omega) (by rw [zu_ne _ _ _ _ (by decide), zu_ne _ _ _ _ (by decide), zu_ne _ _ _ _ (by decide)]; exact e91) (by rw [zu_row _ _ _ (by decide), zu_row _ _ _ (by decide), zu_row _ _ _ (by decide)]; exact e2) (by rw [zu_ne _ _ _ _ (by decide), zu_ne _ _ _ _ (by decide), zu_ne _ _ _ _ (by decide)]; exact e5) (by rw [zu_ne _ _ _ _ (by decide), zu_ne _ _ _ _ (by decide), zu_ne _ _ _ _ (by decide)]; exact e6)
      by_cases a1 : 0 ≤ t (3 * q) ∧ t (3 * q) < P
      · rw [if_pos a1]
        by_cases a2 : 0 ≤ t ((3 * q) + 1) ∧ t ((3 * q) + 1) < P
        · rw [if_pos a2]
          by_cases a3 : 0 ≤ t ((3 * q) + 2) ∧ t ((3 * q) + 2) < F
          · rw [if_pos a3]
            by_cases a4 : t (3 * q) = t ((3 * q) + 1)
            · rw [if_pos a4]
              exact ⟨fun hh => absurd a4 (hh q (Int.le_refl _) (by omega)).2.2.2, fun _ => rfl⟩
            · rw [if_neg a4]
              have okq : okT t P F q := ⟨a1, a2, a3, a4⟩
              refine ⟨fun hh => ?_, fun ⟨k, k0, k1, k2⟩ => ih.2 ⟨k, ?_, k1, k2⟩⟩
              · have i := ih.1 (fun k k0 k1 => hh k (by omega) k1)
                refine ⟨i.1, fun k k0 k1 => ?_, fun k k0 => ?_⟩
                · by_cases e : k = q
                  · subst e
                    have j := i.2.2 k (by omega)
                    refine ⟨?_, ?_, ?_⟩
                    · rw [j.1, zu_ne _ _ _ _ (by decide), zu_ne _ _ _ _ (by decide), zu_at]
                    · rw [j.2.1, zu_ne _ _ _ _ (by decide), zu_at]
                    · rw [j.2.2, zu_at]
                  · exact i.2.1 k (by omega) k1
                · have j := i.2.2 k (by omega)
                  refine ⟨?_, ?_, ?_⟩
                  · rw [j.1, zu_ne _ _ _ _ (by decide), zu_ne _ _ _ _ (by decide), zu_off _ _ _ (by omega)]
                  · rw [j.2.1, zu_ne _ _ _ _ (by decide), zu_off _ _ _ (by omega), zu_ne _ _ _ _ (by decide)]
                  · rw [j.2.2, zu_off _ _ _ (by omega), zu_ne _ _ _ _ (by decide), zu_ne _ _ _ _ (by decide)]
              · have : k ≠ q := fun e => k2 (by rw [e]; exact okq)
                omega
          · rw [if_neg a3]
            exact ⟨fun hh => absurd (hh q (Int.le_refl _) (by omega)).2.2.1 a3, fun _ => rfl⟩
        · rw [if_neg a2]
          exact ⟨fun hh => absurd (hh q (Int.le_refl _) (by omega)).2.1 a2, fun _ => rfl⟩
      · rw [if_neg a1]
        exact ⟨fun hh => absurd (hh q (Int.le_refl _) (by omega)).1 a1, fun _ => rfl⟩
/-- a number of the tape in its range -/
def okN (t : Int → Int) (P F i : Int) : Prop := 0 ≤ t i ∧ (i % 3 < 2 → t i < P) ∧ (¬ i % 3 < 2 → t i < F)
theorem m41 {nn P F : Int} : ∀ (n : Nat) (q : Int) (μ : zG), 0 ≤ q → (3 * nn - q).toNat < n → μ 0 3 = 3 * nn → μ 2 0 = P → μ 2 1 = F → ((∀ i : Int, q ≤ i → i < 3 * nn → okN (mu μ) P F i) → ∃ ν : zG, L_X12_order_41 nn n q μ = L_X12_order_106 nn 10 0 ν ∧ (∀ k : Nat, k ≠ 33 → ν k = μ k) ∧ (∀ i : Int, q ≤ i → i < 3 * nn → ν 33 i = mu μ i) ∧ ∀ i : Int, i < q → ν 33 i = μ 33 i) ∧ ((∃ i : Int, q ≤ i ∧ i < 3 * nn ∧ ¬ okN (mu μ) P F i) → (L_X12_order_41 nn n q μ).1 = -1 ∧ ∀ k : Nat, k ≠ 33 → (L_X12_order_41 nn n q μ).2 k = μ k)
  | 0, q, μ, _, h, _, _, _ => absurd h (Nat.not_lt_zero _)
  | n + 1, q, μ, q0, h, e3, eP, eF => by
    rw [L_X12_order_41, e3, eP, eF]
    by_cases c : 3 * nn ≤ q
    · rw [if_pos c]
      exact ⟨fun _ => ⟨μ, rfl, fun _ _ => rfl, fun i i0 i1 => absurd i1 (by omega), fun _ _ => rfl⟩, fun ⟨i, i0, i1, _⟩ => absurd i1 (by omega)⟩
    · rw [if_neg c]
      have em : band (μ 1 q) 255 = mu μ q := rfl
      rw [em]
      have emu : mu (zu μ 33 q (mu μ q)) = mu μ := by
        unfold mu
        rw [zu_row _ _ _ (by decide)]
      have ih := m41 (nn := nn) (P := P) (F := F) n (q + 1) (zu μ 33 q (mu μ q)) (by omega) (by omega) (by rw [zu_ne _ _ _ _ (by decide)]; exact e3) (by rw [zu_ne _ _ _ _ (by decide)]; exact eP) (by rw [zu_ne _ _ _ _ (by decide)]; exact eF)
      rw [emu] at ih
      have good : okN (mu μ) P F q → ((∀ i : Int, q ≤ i → i < 3 * nn → okN (mu μ) P F i) → ∃ ν : zG, L_X12_order_41 nn n (q + 1) (zu μ 33 q (mu μ q)) = L_X12_order_106 nn 10 0 ν ∧ (∀ k : Nat, k ≠ 33 → ν k = μ k) ∧ (∀ i : Int, q ≤ i → i < 3 * nn → ν 33 i = mu μ i) ∧ ∀ i : Int, i < q → ν 33 i = μ 33 i) ∧ ((∃ i : Int, q ≤ i ∧ i < 3 * nn ∧ ¬ okN (mu μ) P F i) → (L_X12_order_41 nn n (q + 1) (zu μ 33 q (mu μ q))).1 = -1 ∧ ∀ k : Nat, k ≠ 33 → (L_X12_order_41 nn n (q + 1) (zu μ 33 q (mu μ q))).2 k = μ k) := by
        intro okq
        refine ⟨fun hh => ?_, fun ⟨i, i0, i1, i2⟩ => ?_⟩
        · obtain ⟨ν, a, b, d, e⟩ := ih.1 (fun i i0 i1 => hh i (by omega) i1)
          refine ⟨ν, a, fun k hk => by rw [b k hk, zu_row _ _ _ hk], fun i i0 i1 => ?_, fun i i0 => by rw [e i (by omega), zu_off _ _ _ (by omega)]⟩
          by_cases ei : i = q
          · subst ei
            rw [e i (by omega), zu_at]
          · exact d i (by omega) i1
        · have : i ≠ q := fun e => i2 (by rw [e]; exact okq)
          have j := ih.2 ⟨i, by omega, i1, i2⟩
          exact ⟨j.1, fun k hk => by rw [j.2 k hk, zu_row _ _ _ hk]⟩
      have bad : ¬ okN (mu μ) P F q → ((∀ i : Int, q ≤ i → i < 3 * nn → okN (mu μ) P F i) → ∃ ν : zG, ((-1 : Int), zu μ 33 q (mu μ q)) = L_X12_order_106 nn 10 0 ν ∧ (∀ k : Nat, k ≠ 33 → ν k = μ k) ∧ (∀ i : Int, q ≤ i → i < 3 * nn → ν 33 i = mu μ i) ∧ ∀ i : Int, i < q → ν 33 i = μ 33 i) ∧ ((∃ i : Int, q ≤ i ∧ i < 3 * nn ∧ ¬ okN (mu μ) P F i) → ((-1 : Int), zu μ 33 q (mu μ q)).1 = -1 ∧ ∀ k : Nat, k ≠ 33 → ((-1 : Int), zu μ 33 q (mu μ q)).2 k = μ k) := fun b => ⟨fun hh => absurd (hh q (Int.le_refl _) (by omega)) b, fun _ => ⟨rfl, fun k hk => zu_row _ _ _ hk⟩⟩
      by_cases c2 : 2 ≤ q % 3
      · rw [if_pos c2]
        by_cases c3 : 0 ≤ mu μ q ∧ mu μ q ≤ F - 1
        · rw [if_pos c3]
          exact good ⟨c3.1, fun x => absurd x (by omega), fun _ => by omega⟩
        · rw [if_neg c3]
          exact bad (fun x => c3 ⟨x.1, by have := x.2.2 (by omega); omega⟩)
      · rw [if_neg c2]
        by_cases c3 : 0 ≤ mu μ q ∧ mu μ q ≤ P - 1
        · rw [if_pos c3]
          exact good ⟨c3.1, fun _ => by omega, fun x => absurd x (by omega)⟩
        · rw [if_neg c3]
          exact bad (fun x => c3 ⟨x.1, by have := x.2.1 (by omega); omega⟩)
theorem m106 {nn : Int} {μ : zG} : ∀ (n : Nat) (q : Int), 0 ≤ q → (nn - q).toNat < n → ((∀ k : Int, q ≤ k → k < nn → ¬ μ 33 (3 * k) = μ 33 ((3 * k) + 1)) → L_X12_order_106 nn n q μ = L_X12_order_171 nn ((S_X12_order_144 nn 10 1 0 μ).1) 4000 1000000000 1000000000 0 ((S_X12_order_144 nn 10 1 0 μ).2.2)) ∧ ((∃ k : Int, q ≤ k ∧ k < nn ∧ μ 33 (3 * k) = μ 33 ((3 * k) + 1)) → L_X12_order_106 nn n q μ = (-1, μ))
  | 0, q, _, h => absurd h (Nat.not_lt_zero _)
  | n + 1, q, q0, h => by
    rw [L_X12_order_106]
    by_cases c : nn ≤ q
    · rw [if_pos c]
      exact ⟨fun _ => rfl, fun ⟨k, k0, k1, _⟩ => absurd k1 (by omega)⟩
    · rw [if_neg c]
      have ih := m106 (nn := nn) (μ := μ) n (q + 1) (by omega) (by omega)
      by_cases e : μ 33 (3 * q) = μ 33 ((3 * q) + 1)
      · rw [if_pos e]
        exact ⟨fun hh => absurd e (hh q (Int.le_refl _) (by omega)), fun _ => rfl⟩
      · rw [if_neg e]
        refine ⟨fun hh => ih.1 (fun k k0 k1 => hh k (by omega) k1), fun ⟨k, k0, k1, k2⟩ => ih.2 ⟨k, ?_, k1, k2⟩⟩
        have : k ≠ q := fun x => e (by rw [← x]; exact k2)
        omega
theorem s144 {nn : Nat} (h1 : 1 ≤ nn) (h5 : nn ≤ 5) (μ : zG) : (S_X12_order_144 (nn : Int) 10 1 0 μ).1 = ((nn ^ nn : Nat) : Int) ∧ (S_X12_order_144 (nn : Int) 10 1 0 μ).2.2 = μ := by
  refine ⟨?_, funext fun k => fr_S_X12_order_144 _ _ _ _ _ (by simp)⟩
  rcases (show nn = 1 ∨ nn = 2 ∨ nn = 3 ∨ nn = 4 ∨ nn = 5 by omega) with rfl | rfl | rfl | rfl | rfl <;> rfl
theorem okT_N {t : Int → Int} {P F nn : Int} : (∀ k : Int, 0 ≤ k → k < nn → okT t P F k) ↔ (∀ i : Int, 0 ≤ i → i < 3 * nn → okN t P F i) ∧ ∀ k : Int, 0 ≤ k → k < nn → ¬ t (3 * k) = t ((3 * k) + 1) := by
  constructor
  · intro h
    refine ⟨fun i i0 i1 => ?_, fun k k0 k1 => (h k k0 k1).2.2.2⟩
    have a := h (i / 3) (by omega) (by omega)
    have e3 : i = 3 * (i / 3) ∨ i = (3 * (i / 3)) + 1 ∨ i = (3 * (i / 3)) + 2 := by omega
    unfold okT at a
    unfold okN
    rcases e3 with e | e | e
    · rw [← e] at a
      exact ⟨a.1.1, fun _ => a.1.2, fun x => absurd x (by omega)⟩
    · rw [← e] at a
      exact ⟨a.2.1.1, fun _ => a.2.1.2, fun x => absurd x (by omega)⟩
    · rw [← e] at a
      exact ⟨a.2.2.1.1, fun x => absurd x (by omega), fun _ => a.2.2.1.2⟩
  · intro h k k0 k1
    have a := h.1 (3 * k) (by omega) (by omega)
    have b := h.1 ((3 * k) + 1) (by omega) (by omega)
    have d := h.1 ((3 * k) + 2) (by omega) (by omega)
    exact ⟨⟨a.1, a.2.1 (by omega)⟩, ⟨b.1, b.2.1 (by omega)⟩, ⟨d.1, d.2.2 (by omega)⟩, h.2 k k0 k1⟩
/-- the best order on both sides -/
def BO2 (σ μ : zG) : Prop := (σ 91 5 = μ 0 60 ∧ 0 ≤ μ 0 60 ∧ μ 0 60 ≤ 5) ∧ ∀ j : Int, 0 ≤ j → j < μ 0 60 → σ 96 j = μ 32 j
theorem settle7 (nn : Int) : ∀ (n : Nat) (q : Int) (σ : zG), 0 ≤ q → (nn - q).toNat < n → σ 91 0 = nn → ∀ j : Int, (q ≤ j → j < nn → (S_X8_settle_7 n q σ).2 95 j = j) ∧ (j < q → (S_X8_settle_7 n q σ).2 95 j = σ 95 j)
  | 0, q, σ, _, h, _, j => absurd h (Nat.not_lt_zero _)
  | n + 1, q, σ, q0, h, e, j => by
    rw [S_X8_settle_7, e]
    by_cases c : nn ≤ q
    · rw [if_pos c]
      exact ⟨fun a b => absurd b (by omega), fun _ => rfl⟩
    · rw [if_neg c]
      have ih := settle7 nn n (q + 1) (zu σ 95 q q) (by omega) (by omega) (by rw [zu_ne _ _ _ _ (by decide)]; exact e) j
      refine ⟨fun a b => ?_, fun a => ?_⟩
      · by_cases e2 : j = q
        · rw [ih.2 (by omega), e2, zu_at]
        · exact ih.1 (by omega) b
      · rw [ih.2 (by omega), zu_off _ _ _ (by omega)]
theorem settle_sim {nn : Nat} {σ μ : zG} (h1 : 1 ≤ nn) (h5 : nn ≤ 5) (hV : VS σ μ) (hB : BK σ μ) (hD : DD σ) (hJ : LJ σ) (hT : TLS (nn : Int) σ μ) (e91 : σ 91 0 = (nn : Int)) : OR nn (R_X8_settle σ) (L_X12_order_171 (nn : Int) ((nn ^ nn : Nat) : Int) 4000 1000000000 1000000000 0 μ) := by
  obtain ⟨c, l, hp, hg, hd, hl⟩ := p_start h1 h5
  have hlt := pch_lt hp
  have hpow : nn ^ nn ≤ 3125 := by
    rcases (show nn = 1 ∨ nn = 2 ∨ nn = 3 ∨ nn = 4 ∨ nn = 5 by omega) with rfl | rfl | rfl | rfl | rfl <;> decide
  obtain ⟨ν, e, hν⟩ := skip171 h1 h5 ((nn ^ nn : Nat) : Int) 1000000000 1000000000 c (4000 - c) 0 μ (fun x x0 x1 => pgap_all hg x x0 x1) (by omega)
  rw [show 4000 - c + c = 4000 by omega, show ((0 : Nat) : Int) = 0 from rfl, Nat.zero_add] at e
  rw [e]
  unfold R_X8_settle
  have cd : ∀ k : Nat, k ≠ 67 → k ≠ 73 → k ≠ 74 → k ≠ 75 → F_X4_copyDebts σ k = σ k := fun k a b d f => by
    unfold F_X4_copyDebts
    rw [zcp_row _ _ _ _ f, zcp_row _ _ _ _ d, zcp_row _ _ _ _ b, zu_row _ _ _ a]
  have fr : ∀ k : Nat, k ≠ 95 → (S_X8_settle_7 10 0 (F_X4_copyDebts σ)).2 k = F_X4_copyDebts σ k := fun k hk => fr_S_X8_settle_7 _ _ _ (by simp; exact hk)
  have s7 := settle7 (nn : Int) 10 0 (F_X4_copyDebts σ) (by decide) (by omega) (by rw [cd 91 (by decide) (by decide) (by decide) (by decide)]; exact e91)
  refine order_sim (σ0 := σ) (μ0 := μ) h1 h5 hV hB hD hJ hT l c 130 (4000 - c) _ _ _ _ _ _ _ hp ⟨⟨fun k k0 k1 => by rw [fr k (by omega), cd k (by omega) (by omega) (by omega) (by omega)], by rw [fr 92 (by decide), cd 92 (by decide) (by decide) (by decide) (by decide)], by rw [fr 93 (by decide), cd 93 (by decide) (by decide) (by decide) (by decide)], by rw [fr 94 (by decide), cd 94 (by decide) (by decide) (by decide) (by decide)]⟩, by rw [fr 91 (by decide), cd 91 (by decide) (by decide) (by decide) (by decide)]; exact e91, ⟨?_, fun d d0 d1 => ?_⟩, fun j hj => ?_, hν 2 (by decide), hν 9 (by decide), hν 33 (by decide)⟩ (by omega) (by omega) (by omega) (Or.inr ⟨by decide, by decide⟩)
  · rw [fr 67 (by decide)]
    unfold F_X4_copyDebts
    rw [zcp_ne _ _ _ _ _ (by decide), zcp_ne _ _ _ _ _ (by decide), zcp_ne _ _ _ _ _ (by decide), zu_at]
  · rw [fr 73 (by decide), fr 74 (by decide), fr 75 (by decide)]
    unfold F_X4_copyDebts
    refine ⟨?_, ?_, ?_⟩
    · rw [zcp_ne _ _ _ _ _ (by decide), zcp_ne _ _ _ _ _ (by decide), zcp_if, if_pos ⟨d0, by omega⟩, zu_ne _ _ _ _ (by decide), show (0 : Int) + (d - 0) = d by omega]
    · rw [zcp_ne _ _ _ _ _ (by decide), zcp_if, if_pos ⟨d0, by omega⟩, zcp_ne _ _ _ _ _ (by decide), zu_ne _ _ _ _ (by decide), show (0 : Int) + (d - 0) = d by omega]
    · rw [zcp_if, if_pos ⟨d0, by omega⟩, zcp_ne _ _ _ _ _ (by decide), zcp_ne _ _ _ _ _ (by decide), zu_ne _ _ _ _ (by decide), show (0 : Int) + (d - 0) = d by omega]
  · rw [(s7 (j : Int)).1 (by omega) (by omega), hd j hj]
theorem take_91 (σ : zG) {k : Nat} (h : k ≠ 92 ∧ k ≠ 93 ∧ k ≠ 94) (hk : ¬ (R_X8_take σ).1 = 0) : (R_X8_take σ).2 k = zu σ 91 0 (σ 1 1 / 3) k ∧ 3 ≤ σ 1 1 ∧ σ 1 1 ≤ 15 ∧ σ 1 1 % 3 = 0 ∧ ¬ (L_X8_take_40 10 0 (zu σ 91 0 (σ 1 1 / 3))).1 = 0 ∧ (R_X8_take σ).2 = (L_X8_take_40 10 0 (zu σ 91 0 (σ 1 1 / 3))).2 := by
  unfold R_X8_take at *
  by_cases c1 : σ 1 1 < 3
  · rw [if_pos c1] at hk; exact absurd rfl hk
  · rw [if_neg c1] at *
    by_cases c2 : 15 < σ 1 1
    · rw [if_pos c2] at hk; exact absurd rfl hk
    · rw [if_neg c2] at *
      by_cases c3 : σ 1 1 % 3 = 0
      · rw [if_pos c3] at *
        exact ⟨fr_L_X8_take_40 _ _ _ (by simp; omega), by omega, by omega, c3, hk, rfl⟩
      · rw [if_neg c3] at hk; exact absurd rfl hk
theorem q_order {σ μ : zG} (hTT : TT σ μ) (hV : VS σ μ) (hB : BK σ μ) (hD : DD σ) (hJ : LJ σ) (hO : BO2 σ μ) : V_X11_order σ = (R_X12_order μ).1 ∧ BO2 (F_X11_order σ) (R_X12_order μ).2 ∧ (¬ (R_X8_take σ).1 = 0 → (1 ≤ (zu ((R_X8_take σ).2) 1 1 0) 91 0 ∧ (zu ((R_X8_take σ).2) 1 1 0) 91 0 ≤ 5) ∧ TEL (zu ((R_X8_take σ).2) 1 1 0)) := by
  have eT := hTT.1.1
  have eP : σ 5 0 = μ 2 0 := hV.1.1
  have eF : σ 5 1 = μ 2 1 := hV.2.1.1
  have rP := hV.1.2
  have rF := hV.2.1.2
  unfold V_X11_order F_X11_order R_X12_order
  -- the model behind its first look
  have key : ∀ ν : zG, (∀ k : Nat, k ≠ 0 → ν k = μ k) → ν 0 60 = μ 0 60 → BO2 σ ν := fun ν a b => ⟨by rw [b]; exact hO.1, by rw [b, a 32 (by decide)]; exact hO.2⟩
  have e60 : (zu (zu (zu (zu (zu μ 0 0 0) 0 3 (μ 0 2)) 0 2 0) 0 4 0) 0 5 940) 0 60 = μ 0 60 := by
    rw [zu_off _ _ _ (by decide), zu_off _ _ _ (by decide), zu_off _ _ _ (by decide), zu_off _ _ _ (by decide), zu_off _ _ _ (by decide)]
  have eR : ∀ k : Nat, k ≠ 0 → (zu (zu (zu (zu (zu μ 0 0 0) 0 3 (μ 0 2)) 0 2 0) 0 4 0) 0 5 940) k = μ k := fun k hk => by
    rw [zu_row _ _ _ hk, zu_row _ _ _ hk, zu_row _ _ _ hk, zu_row _ _ _ hk, zu_row _ _ _ hk]
  have e3 : (zu (zu (zu (zu (zu μ 0 0 0) 0 3 (μ 0 2)) 0 2 0) 0 4 0) 0 5 940) 0 3 = μ 0 2 := by
    rw [zu_off _ _ _ (by decide), zu_off _ _ _ (by decide), zu_off _ _ _ (by decide), zu_at]
  generalize (zu (zu (zu (zu (zu μ 0 0 0) 0 3 (μ 0 2)) 0 2 0) 0 4 0) 0 5 940) = μ' at *
  have frT : ∀ k : Nat, k ≠ 91 → k ≠ 92 → k ≠ 93 → k ≠ 94 → (R_X8_take σ).2 k = σ k := fun k a b c d => fr_R_X8_take _ (by simp; omega)
  -- where the class doesn't take it
  have no : ∀ ν : zG, (R_X8_take σ).1 = 0 → (∀ k : Nat, k ≠ 33 → ν k = μ' k) → (R_X8_take σ).2 91 5 = σ 91 5 → BO2 (zu (R_X8_take σ).2 1 1 0) ν := by
    intro ν _ hν e5
    refine ⟨?_, ?_⟩
    · rw [zu_ne _ _ _ _ (by decide), e5, hν 0 (by decide), e60]; exact hO.1
    · rw [zu_row _ _ _ (by decide), frT 96 (by decide) (by decide) (by decide) (by decide), hν 0 (by decide), e60, hν 32 (by decide), eR 32 (by decide)]; exact hO.2
  by_cases L : 3 ≤ σ 1 1 ∧ σ 1 1 ≤ 15 ∧ σ 1 1 % 3 = 0
  · -- as many as tellings have
    obtain ⟨nn, hnn⟩ : ∃ nn : Nat, μ 0 2 = 3 * (nn : Int) := ⟨(μ 0 2 / 3).toNat, by omega⟩
    have h1 : 1 ≤ nn := by omega
    have h5 : nn ≤ 5 := by omega
    have ed : μ 0 2 / 3 = (nn : Int) := by omega
    have eTk : R_X8_take σ = L_X8_take_40 10 0 (zu σ 91 0 (nn : Int)) := by
      unfold R_X8_take
      rw [if_neg (by omega), if_neg (by omega), if_pos L.2.2, show σ 1 1 / 3 = (nn : Int) by omega]
    have frL : ∀ k : Nat, k ≠ 92 → k ≠ 93 → k ≠ 94 → (R_X8_take σ).2 k = zu σ 91 0 (nn : Int) k := fun k a b c => by rw [eTk]; exact fr_L_X8_take_40 _ _ _ (by simp; omega)
    have e915 : (R_X8_take σ).2 91 5 = σ 91 5 := by rw [frL 91 (by decide) (by decide) (by decide), zu_off _ _ _ (by decide)]
    have e910 : (R_X8_take σ).2 91 0 = (nn : Int) := by rw [frL 91 (by decide) (by decide) (by decide), zu_at]
    rw [if_pos (show μ 0 2 % 3 = 0 by omega), ed, if_pos (show 1 ≤ (nn : Int) ∧ (nn : Int) ≤ 5 by omega)]
    have tk := take40 (nn := (nn : Int)) (P := μ 2 0) (F := μ 2 1) (t := σ 2) 10 0 (zu σ 91 0 (nn : Int)) (by decide) (by omega) (zu_at _ _ _ _) (zu_row _ _ _ (by decide)) (by rw [zu_ne _ _ _ _ (by decide)]; exact eP) (by rw [zu_ne _ _ _ _ (by decide)]; exact eF)
    rw [← eTk] at tk
    have mk := m41 (nn := (nn : Int)) (P := μ 2 0) (F := μ 2 1) 20 0 μ' (by decide) (by omega) (by rw [e3]; exact hnn) (by rw [eR 2 (by decide)]) (by rw [eR 2 (by decide)])
    have emu : mu μ' = mu μ := by unfold mu; rw [eR 1 (by decide)]
    rw [emu] at mk
    have et : ∀ i : Int, 0 ≤ i → i < 3 * (nn : Int) → σ 2 i = mu μ i := fun i i0 i1 => (hTT.2 i i0 (by omega)).1
    by_cases ok : ∀ k : Int, 0 ≤ k → k < (nn : Int) → okT (σ 2) (μ 2 0) (μ 2 1) k
    · have t1 := tk.1 ok
      have n1 : ¬ (R_X8_take σ).1 = 0 := by rw [t1.1]; decide
      rw [if_neg n1, if_neg n1]
      have okn := okT_N.mp ok
      obtain ⟨ν, a, b, d, -⟩ := mk.1 (fun i i0 i1 => by have := okn.1 i i0 i1; unfold okN at *; rw [← et i i0 i1]; exact this)
      rw [a, (m106 10 0 (by decide) (by omega)).1 (fun k k0 k1 => by rw [d _ (by omega) (by omega), d _ (by omega) (by omega), ← et _ (by omega) (by omega), ← et _ (by omega) (by omega)]; exact okn.2 k k0 k1), (s144 h1 h5 ν).1, (s144 h1 h5 ν).2]
      have r2 : ν 2 = μ 2 := by rw [b 2 (by decide), eR 2 (by decide)]
      have r9 : ν 9 = μ 9 := by rw [b 9 (by decide), eR 9 (by decide)]
      have frk : ∀ k : Nat, k ≠ 1 → k ≠ 91 → k ≠ 92 → k ≠ 93 → k ≠ 94 → zu (R_X8_take σ).2 1 1 0 k = σ k := fun k a0 a b c d => by rw [zu_row _ _ _ a0, frT k a b c d]
      have hTL : TLS (nn : Int) (zu (R_X8_take σ).2 1 1 0) ν := by
        intro k k0 k1
        have x := t1.2.1 k k0 k1
        have o := ok k k0 k1
        unfold okT at o
        rw [zu_ne _ _ _ _ (by decide), zu_ne _ _ _ _ (by decide), zu_ne _ _ _ _ (by decide), x.1, x.2.1, x.2.2, d _ (by omega) (by omega), d _ (by omega) (by omega), d _ (by omega) (by omega), ← et _ (by omega) (by omega), ← et _ (by omega) (by omega), ← et _ (by omega) (by omega), r2]
        exact ⟨⟨rfl, rfl, rfl⟩, o.1, o.2.1, o.2.2.1⟩
      have hV2 : VS (zu (R_X8_take σ).2 1 1 0) ν := VS_row hV (fun k k0 k1 => frk k (by omega) (by omega) (by omega) (by omega) (by omega)) r2
      have hB2 : BK (zu (R_X8_take σ).2 1 1 0) ν := BK_rows hB (fun k k0 k1 => frk k (by omega) (by omega) (by omega) (by omega) (by omega)) r2 r9
      have hD2 : DD (zu (R_X8_take σ).2 1 1 0) := DD_rows hD (fun k k0 k1 => frk k (by omega) (by omega) (by omega) (by omega) (by omega))
      have hJ2 : LJ (zu (R_X8_take σ).2 1 1 0) := LJ_row hJ (fun k k0 k1 _ => frk k (by omega) (by omega) (by omega) (by omega) (by omega))
      have s := settle_sim h1 h5 hV2 hB2 hD2 hJ2 hTL (by rw [zu_ne _ _ _ _ (by decide)]; exact e910)
      refine ⟨s.1, ⟨⟨by rw [s.2.1, s.2.2.1], by rw [s.2.2.1]; omega, by rw [s.2.2.1]; omega⟩, fun j j0 j1 => ?_⟩, fun _ => ⟨by rw [zu_ne _ _ _ _ (by decide), e910]; omega, ?_⟩⟩
      · rw [s.2.2.1] at j1
        obtain ⟨i, rfl⟩ := toN2 j0
        exact s.2.2.2 i (by omega)
      · intro i i0 i1
        rw [zu_ne _ _ _ _ (by decide), e910] at i1
        have x := t1.2.1 i i0 i1
        have o := ok i i0 i1
        unfold okT at o
        rw [zu_ne _ _ _ _ (by decide), zu_ne _ _ _ _ (by decide), zu_ne _ _ _ _ (by decide), x.2.1, x.2.2]
        have fa := (hV.2.2.2.2.1 _ o.2.2.1.1 o.2.2.1.2)
        rw [frT 11 (by decide) (by decide) (by decide) (by decide), fa.2.2.1]
        exact ⟨⟨o.2.1.1, by omega⟩, ⟨o.2.2.1.1, by omega⟩, fa.2.2.2.2.2.1, by omega⟩
    · have t0 : (R_X8_take σ).1 = 0 := tk.2 (Classical.byContradiction fun hn => ok (fun k k0 k1 => Classical.byContradiction fun hk => hn ⟨k, k0, k1, hk⟩))
      rw [if_pos t0, if_pos t0]
      refine (fun x => ⟨x.1, x.2, fun y => absurd t0 y⟩) (?_ : _ ∧ _)
      by_cases rn : ∀ i : Int, 0 ≤ i → i < 3 * (nn : Int) → okN (mu μ) (μ 2 0) (μ 2 1) i
      · obtain ⟨ν, a, b, d, -⟩ := mk.1 rn
        have ex : ∃ k : Int, 0 ≤ k ∧ k < (nn : Int) ∧ ν 33 (3 * k) = ν 33 ((3 * k) + 1) := Classical.byContradiction fun hn => ok (okT_N.mpr ⟨fun i i0 i1 => by have := rn i i0 i1; unfold okN at *; rw [et i i0 i1]; exact this, fun k k0 k1 e => hn ⟨k, k0, k1, by rw [d _ (by omega) (by omega), d _ (by omega) (by omega), ← et _ (by omega) (by omega), ← et _ (by omega) (by omega)]; exact e⟩⟩)
        rw [a, (m106 10 0 (by decide) (by omega)).2 ex]
        exact ⟨rfl, no ν t0 b e915⟩
      · have j := mk.2 (Classical.byContradiction fun hn => rn (fun k k0 k1 => Classical.byContradiction fun hk => hn ⟨k, k0, k1, hk⟩))
        exact ⟨j.1.symm, no _ t0 j.2 e915⟩
  · have eTk : R_X8_take σ = (0, σ) := by
      unfold R_X8_take
      by_cases c1 : σ 1 1 < 3
      · rw [if_pos c1]
      · rw [if_neg c1]
        by_cases c2 : 15 < σ 1 1
        · rw [if_pos c2]
        · rw [if_neg c2, if_neg (by omega)]
    have t0 : (R_X8_take σ).1 = 0 := by rw [eTk]
    rw [if_pos t0, if_pos t0]
    refine (fun x => ⟨x.1, x.2, fun y => absurd t0 y⟩) (?_ : _ ∧ _)
    have em : ∀ x : Int × zG, (if μ 0 2 % 3 = 0 then (if 1 ≤ μ 0 2 / 3 ∧ μ 0 2 / 3 ≤ 5 then x else (-1, μ')) else (-1, μ')) = (-1, μ') := fun x => by
      by_cases c : μ 0 2 % 3 = 0
      · rw [if_pos c, if_neg (by omega)]
      · rw [if_neg c]
    rw [em]
    exact ⟨rfl, no μ' t0 (fun _ _ => rfl) (by rw [eTk])⟩
