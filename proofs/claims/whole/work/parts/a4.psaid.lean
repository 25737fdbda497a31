/-! pure: what may be said of whom, on both sides -/
theorem QR_mrow {σ μ μ' : zG} (h : QR σ μ) (e : ∀ k : Nat, k ≠ 38 → μ' k = μ k) : QR σ μ' := by
  have e0 := e 0 (by decide)
  have e2 := e 2 (by decide)
  unfold QR VS SR BK LN LR LC LXd LXp LXw at *
  rw [e0, e2, e 9 (by decide), e 11 (by decide), e 12 (by decide), e 13 (by decide), e 14 (by decide), e 15 (by decide), e 16 (by decide), e 17 (by decide), e 18 (by decide), e 19 (by decide), e 20 (by decide), e 21 (by decide), e 22 (by decide), e 23 (by decide), e 24 (by decide), e 25 (by decide)]
  exact h
theorem q_hasLate {σ μ : zG} (hQ : QR σ μ) {who wh a b : Int} : ∀ (n n' : Nat) (d : Int), 0 ≤ d → (μ 0 43 - d).toNat < n → (μ 0 43 - d).toNat < n' → L_X4_hasLate_2 σ who n d = L_X12_so_23 μ who wh a b n' d
  | 0, _, d, _, h, _ => absurd h (Nat.not_lt_zero _)
  | _ + 1, 0, d, _, _, h => absurd h (Nat.not_lt_zero _)
  | n + 1, n' + 1, d, h0, h, h' => by
    have hC := hQ.2.2.1.1
    rw [L_X4_hasLate_2, L_X12_so_23, hC.2.2.1.1]
    by_cases c : μ 0 43 ≤ d
    · rw [if_pos c, if_pos c]
    · rw [if_neg c, if_neg c, (hC.2.2.2 d h0 (by omega)).1.1, q_late hQ h0 (by omega), q_hasLate hQ n n' (d + 1) (by omega) (by omega) (by omega)]
/-- the steps of a sentence, one by one -/
def IX (σ : zG) (s : Int → Int) (F : Int) (k : Nat) : Prop := E1 (σ 44 k) (σ 45 k) (σ 46 k) (s (474 + 3 * (k : Int))) (s ((474 + 3 * (k : Int)) + 1)) (s ((474 + 3 * (k : Int)) + 2)) ∧ ((s (474 + 3 * (k : Int)) = 7 → 1 ≤ hg s k) ∧ (s (474 + 3 * (k : Int)) = 8 ∨ s (474 + 3 * (k : Int)) = 9 → 2 ≤ hg s k)) ∧ (0 ≤ s (474 + 3 * (k : Int)) ∧ s (474 + 3 * (k : Int)) ≤ 9) ∧ (s (474 + 3 * (k : Int)) = 0 → 0 ≤ s ((474 + 3 * (k : Int)) + 1) ∧ s ((474 + 3 * (k : Int)) + 1) < F) ∧ (2 ≤ s (474 + 3 * (k : Int)) → s (474 + 3 * (k : Int)) ≤ 6 → (s ((474 + 3 * (k : Int)) + 1) = 60 ∨ s ((474 + 3 * (k : Int)) + 1) = 61 ∨ s ((474 + 3 * (k : Int)) + 1) = 62) ∧ 0 ≤ s ((474 + 3 * (k : Int)) + 2) ∧ s ((474 + 3 * (k : Int)) + 2) ≤ 999)
theorem sn_idx {σ : zG} {s : Int → Int} {F : Int} : ∀ C : List (Int × Int × Int), KL (σ 44) (σ 45) (σ 46) C → CL (fun j => s (474 + j)) C → vl F C → hg s C.length = hgl C ∧ ∀ k : Nat, k < C.length → IX σ s F k
  | [], _, _, _ => ⟨rfl, fun k h => absurd h (Nat.not_lt_zero _)⟩
  | x :: xs, hk, hc, hv => by
    obtain ⟨i1, i2⟩ := sn_idx xs hk.2 hc.2 hv.1
    have c1 : s (474 + 3 * (xs.length : Int)) = x.1 := hc.1.1
    have c2 : s ((474 + 3 * (xs.length : Int)) + 1) = x.2.1 := by rw [Int.add_assoc]; exact hc.1.2.1
    have c3 : s ((474 + 3 * (xs.length : Int)) + 2) = x.2.2 := by rw [Int.add_assoc]; exact hc.1.2.2
    refine ⟨?_, fun k h => ?_⟩
    · rw [List.length_cons, hg, hgl, c1, i1]
    · by_cases e : k = xs.length
      · subst e
        unfold IX
        rw [c1, c2, c3, i1]
        exact ⟨hk.1, hv.2⟩
      · exact i2 k (by rw [List.length_cons] at h; omega)
theorem hg_rr {σ : zG} {s : Int → Int} {F : Int} {n : Nat} (h : ∀ k : Nat, k < n → IX σ s F k) : ∀ k : Nat, k ≤ n → 0 ≤ hg s k ∧ hg s k ≤ k
  | 0, _ => ⟨Int.le_refl _, Int.le_refl _⟩
  | k + 1, hk => by
    have ih := hg_rr h k (by omega)
    have x := (h k (by omega)).2.1
    rw [hg]
    by_cases c7 : s (474 + 3 * (k : Int)) = 7
    · rw [if_pos c7]; omega
    · rw [if_neg c7]
      by_cases c8 : s (474 + 3 * (k : Int)) = 8 ∨ s (474 + 3 * (k : Int)) = 9
      · rw [if_pos c8]; have := x.2 c8; omega
      · rw [if_neg c8]; omega
theorem SN_CW {σ μ : zG} (h : SN σ μ) : CW (μ 2) := by
  obtain ⟨C, ⟨h1, h2⟩, ⟨h3, h4⟩, h5, h6, _⟩ := h
  obtain ⟨i1, i2⟩ := sn_idx C h2 h4 h5
  refine ⟨by omega, fun k hk => (i2 k (by omega)).2.1⟩
/-- a plain one for one of the people -/
theorem plain_eq {σ μ : zG} (hQ : QR σ μ) {k : Nat} (hx : IX σ (μ 2) (μ 2 1) k) (ha : μ 2 (474 + 3 * (k : Int)) ≤ 6) {who : Int} (hw : 0 ≤ who ∧ who < μ 2 0) : V_X6_isPlainOf σ who k = R_X12_so μ who (μ 2 (474 + 3 * (k : Int))) (μ 2 ((474 + 3 * (k : Int)) + 1)) (μ 2 ((474 + 3 * (k : Int)) + 2)) := by
  obtain ⟨⟨e1, e2, e3⟩, _, x3, x4, x5⟩ := hx
  have hp := hQ.1.1
  have hC := hQ.2.2.1.1
  unfold V_X6_isPlainOf R_X12_so
  generalize μ 2 (474 + 3 * (k : Int)) = a at *
  generalize μ 2 ((474 + 3 * (k : Int)) + 1) = b at *
  generalize μ 2 ((474 + 3 * (k : Int)) + 2) = c at *
  rw [if_pos ha] at e1
  by_cases a0 : a = 0
  · rw [if_pos (show σ 44 k = 19 by omega), if_pos a0, (e2 a0).2.1, (hC.1 who hw.1 (by omega)).1]
  · rw [if_neg (show ¬ σ 44 k = 19 by omega), if_neg a0]
    by_cases a1 : a = 1
    · rw [if_pos (show σ 44 k = 20 by omega), if_pos a1]
      have h43 := hC.2.2.1
      exact q_hasLate hQ 200 500 0 (by decide) (by omega) (by omega)
    · rw [if_neg (show ¬ σ 44 k = 20 by omega), if_neg a1, show σ 44 k - 21 = a - 2 by omega, w32_id (z := a - 2) ⟨by omega, by omega⟩, q_came hQ hw (show 0 ≤ a - 2 ∧ a - 2 ≤ 4 by omega), (e3 a0).1, (e3 a0).2]
      rcases (x5 (by omega) ha).1 with r | r | r
      · rw [if_pos r, if_pos r]
      · rw [if_neg (show ¬ b = 60 by omega), if_neg (show ¬ b = 62 by omega), if_neg (show ¬ b = 60 by omega), if_pos r]
      · rw [if_neg (show ¬ b = 60 by omega), if_pos r, if_neg (show ¬ b = 60 by omega), if_neg (show ¬ b = 61 by omega)]
theorem bit8 {x r : Int} (hx : 0 ≤ x ∧ x < 256) (hr : 0 ≤ r ∧ r < 8) {i : Int} (hi : 0 ≤ i ∧ i < 8) : hb (bor x (bshl 1 r)) i ↔ hb x i ∨ i = r := by
  rw [hb_bor ⟨hx.1, by omega⟩ (bit_r ⟨hr.1, by omega⟩) ⟨hi.1, by omega⟩, hb_bit ⟨hr.1, by omega⟩ ⟨hi.1, by omega⟩]
theorem plainFor_r {σ : zG} {P i : Int} (hp : σ 5 0 = P) (hP : 0 ≤ P ∧ P ≤ 8) : ∀ (n : Nat) (fs q : Int), 0 ≤ q → (P - q).toNat < n → (0 ≤ fs ∧ fs < 256) → (0 ≤ L_X6_plainFor_5 σ i n fs q ∧ L_X6_plainFor_5 σ i n fs q < 256) ∧ ∀ j : Int, 0 ≤ j → j < 8 → (hb (L_X6_plainFor_5 σ i n fs q) j ↔ hb fs j ∨ (q ≤ j ∧ j < P ∧ V_X6_isPlainOf σ j i ≠ 0))
  | 0, fs, q, _, h, _ => absurd h (Nat.not_lt_zero _)
  | n + 1, fs, q, q0, h, hf => by
    rw [L_X6_plainFor_5, hp]
    by_cases c : P ≤ q
    · rw [if_pos c]
      exact ⟨hf, fun j j0 j1 => ⟨Or.inl, fun x => x.resolve_right (fun y => by omega)⟩⟩
    · rw [if_neg c]
      by_cases v : V_X6_isPlainOf σ q i = 0
      · rw [if_pos v]
        have ih := plainFor_r (i := i) hp hP n fs (q + 1) (by omega) (by omega) hf
        refine ⟨ih.1, fun j j0 j1 => ?_⟩
        rw [ih.2 j j0 j1]
        constructor
        · rintro (x | ⟨x1, x2, x3⟩)
          · exact Or.inl x
          · exact Or.inr ⟨by omega, x2, x3⟩
        · rintro (x | ⟨x1, x2, x3⟩)
          · exact Or.inl x
          · have : j ≠ q := fun e => x3 (by rw [e]; exact v)
            exact Or.inr ⟨by omega, x2, x3⟩
      · rw [if_neg v]
        have br := bor_bit hf.1 hf.2 q0 (show q < 8 by omega)
        have ih := plainFor_r (i := i) hp hP n (bor fs (bshl 1 q)) (q + 1) (by omega) (by omega) ⟨by omega, br.2⟩
        refine ⟨ih.1, fun j j0 j1 => ?_⟩
        rw [ih.2 j j0 j1, bit8 hf ⟨q0, by omega⟩ ⟨j0, j1⟩]
        constructor
        · rintro ((x | x) | ⟨x1, x2, x3⟩)
          · exact Or.inl x
          · exact Or.inr ⟨by omega, by omega, by rw [x]; exact v⟩
          · exact Or.inr ⟨by omega, x2, x3⟩
        · rintro (x | ⟨x1, x2, x3⟩)
          · exact Or.inl (Or.inl x)
          · by_cases e : j = q
            · exact Or.inl (Or.inr e)
            · exact Or.inr ⟨by omega, x2, x3⟩
theorem not8 {x P : Int} (hx : 0 ≤ x ∧ x < 256) (hP : 0 ≤ P ∧ P ≤ 8) : (0 ≤ bxor x (bshl 1 P - 1) ∧ bxor x (bshl 1 P - 1) < 256) ∧ ∀ j : Int, 0 ≤ j → j < 8 → (hb (bxor x (bshl 1 P - 1)) j ↔ ¬ (hb x j ↔ j < P)) := by
  obtain ⟨n, rfl⟩ := toN2 hx.1
  obtain ⟨c, rfl⟩ := toN2 hP.1
  have e := bit_nat (c := c) (by omega)
  have p := Nat.two_pow_pos c
  have e1 : bshl 1 (c : Int) - 1 = ((2 ^ c - 1 : Nat) : Int) := by rw [e.1]; omega
  have lt : 2 ^ c - 1 < 256 := by
    have : 2 ^ c ≤ 2 ^ 8 := Nat.pow_le_pow_right (by decide) (by omega)
    omega
  have hn : n < 256 := by omega
  rw [e1, bxor_nat (by omega) (by omega)]
  have xl : n ^^^ (2 ^ c - 1) < 2 ^ 8 := Nat.xor_lt_two_pow hn lt
  refine ⟨by omega, fun j j0 j1 => ?_⟩
  obtain ⟨i, rfl⟩ := toN2 j0
  rw [hb_nat (by omega) (by omega), hb_nat (by omega) (by omega), Nat.testBit_xor, Nat.testBit_two_pow_sub_one]
  by_cases h1 : n.testBit i = true
  · by_cases h2 : i < c
    · simp [h1, h2]
    · simp [h1, h2]
  · by_cases h2 : i < c
    · simp [h1, h2]
    · simp [h1, h2]
/-- the piles of both sides, for one of the people -/
def SI (P who : Int) (σ μ : zG) (h : Int) : Prop := ∀ j : Int, 0 ≤ j → j < h → (0 ≤ σ 47 j ∧ σ 47 j < 256) ∧ (∀ i : Int, P ≤ i → i < 8 → ¬ hb (σ 47 j) i) ∧ (who < P → (hb (σ 47 j) who ↔ μ 38 j ≠ 0))
theorem SI_put {P who : Int} {σ μ : zG} {h h' i x y : Int} (hS : SI P who σ μ h) (hh : ∀ j : Int, 0 ≤ j → j < h' → j ≠ i → j < h) (hx : 0 ≤ x ∧ x < 256) (hb1 : ∀ j : Int, P ≤ j → j < 8 → ¬ hb x j) (hb2 : who < P → (hb x who ↔ y ≠ 0)) : SI P who (zu σ 47 i x) (zu μ 38 i y) h' := by
  intro j j0 j1
  by_cases e : j = i
  · rw [e, zu_at, zu_at]; exact ⟨hx, hb1, hb2⟩
  · rw [zu_off _ _ _ e, zu_off _ _ _ e]; exact hS j j0 (hh j j0 j1 e)
theorem said_sim {σ0 μ0 : zG} (hQ : QR σ0 μ0) {n0 : Nat} (h43 : σ0 43 1 = (n0 : Int)) (h473 : μ0 2 473 = (n0 : Int)) (hX : ∀ k : Nat, k < n0 → IX σ0 (μ0 2) (μ0 2 1) k) (h40 : n0 < 40) (hg1 : hg (μ0 2) n0 = 1) {who : Int} (hw : 0 ≤ who ∧ who < 8) : ∀ (n n' : Nat) (q : Nat) (σ μ : zG), (∀ k : Nat, k ≠ 47 → σ k = σ0 k) → (∀ k : Nat, k ≠ 38 → μ k = μ0 k) → q ≤ n0 → SI (μ0 2 0) who σ μ (hg (μ0 2) q) → n0 - q < n → n0 - q < n' →
    (who < μ0 2 0 → (hb (L_X6_holdsFor_17 (bshl 1 (μ0 2 0) - 1) n (hg (μ0 2) q) q σ).1 who ↔ (L_X12_isSaid_4 who n' (hg (μ0 2) q) q μ).1 ≠ 0)) ∧ (0 ≤ (L_X6_holdsFor_17 (bshl 1 (μ0 2 0) - 1) n (hg (μ0 2) q) q σ).1 ∧ (L_X6_holdsFor_17 (bshl 1 (μ0 2 0) - 1) n (hg (μ0 2) q) q σ).1 < 256) ∧ (∀ j : Int, μ0 2 0 ≤ j → j < 8 → ¬ hb (L_X6_holdsFor_17 (bshl 1 (μ0 2 0) - 1) n (hg (μ0 2) q) q σ).1 j) ∧ ∀ k : Nat, k ≠ 38 → (L_X12_isSaid_4 who n' (hg (μ0 2) q) q μ).2 k = μ0 k
  | 0, _, q, σ, μ, _, _, _, _, h, _ => absurd h (Nat.not_lt_zero _)
  | _ + 1, 0, q, σ, μ, _, _, _, _, _, h => absurd h (Nat.not_lt_zero _)
  | n + 1, n' + 1, q, σ, μ, hσ, hμ, hq, hS, hn, hn' => by
    have hP := hQ.1.1
    rw [L_X6_holdsFor_17, L_X12_isSaid_4, hσ 43 (by decide), hσ 44 (by decide), hμ 2 (by decide), h43, h473]
    by_cases c : (n0 : Int) ≤ (q : Int)
    · have e : q = n0 := by omega
      subst e
      rw [if_pos c, if_pos c, if_neg (show ¬ hg (μ0 2) q ≤ 0 by omega)]
      have s0 := hS 0 (by decide) (by omega)
      exact ⟨s0.2.2, s0.1, s0.2.1, hμ⟩
    · rw [if_neg c, if_neg c]
      have hqn : q < n0 := by omega
      have hx := hX q hqn
      have hr := hg_rr hX q hq
      obtain ⟨⟨e1, _, _⟩, ⟨v7, v8⟩, ra, _⟩ := id hx
      have q1 : ((q + 1 : Nat) : Int) = (q : Int) + 1 := by omega
      have rcs := fun σ' μ' a b d => said_sim hQ h43 h473 hX h40 hg1 hw n n' (q + 1) σ' μ' a b (by omega) d (by omega) (by omega)
      rw [q1] at rcs
      have hgs : hg (μ0 2) (q + 1) = if μ0 2 (474 + 3 * (q : Int)) = 7 then hg (μ0 2) q else if μ0 2 (474 + 3 * (q : Int)) = 8 ∨ μ0 2 (474 + 3 * (q : Int)) = 9 then hg (μ0 2) q - 1 else hg (μ0 2) q + 1 := rfl
      have zs : ∀ (i x : Int) (k : Nat), k ≠ 47 → zu σ 47 i x k = σ0 k := fun i x k hk => by rw [zu_row _ _ _ hk]; exact hσ k hk
      have zm : ∀ (i x : Int) (k : Nat), k ≠ 38 → zu μ 38 i x k = μ0 k := fun i x k hk => by rw [zu_row _ _ _ hk]; exact hμ k hk
      by_cases a7 : μ0 2 (474 + 3 * (q : Int)) = 7
      · have w18 : σ0 44 q = 18 := by rw [e1, a7]; decide
        have h1 := v7 a7
        rw [if_pos w18, if_neg (show ¬ hg (μ0 2) q < 1 by omega), if_pos a7]
        rw [if_pos a7] at hgs
        rw [hgs] at rcs
        generalize hg (μ0 2) q = H at *
        have s1 := hS (H - 1) (by omega) (by omega)
        have nt := not8 (P := μ0 2 0) s1.1 ⟨hP.2.1, hP.2.2⟩
        have off : ∀ j : Int, μ0 2 0 ≤ j → j < 8 → ¬ hb (bxor (σ 47 (H - 1)) (bshl 1 (μ0 2 0) - 1)) j := fun j j0 j1 => by
          rw [nt.2 j (by omega) j1]
          exact fun x => x ⟨fun y => absurd y (s1.2.1 j j0 j1), fun y => by omega⟩
        have onw : ∀ y : Int, (y ≠ 0 ↔ μ 38 (H - 1) = 0) → who < μ0 2 0 → (hb (bxor (σ 47 (H - 1)) (bshl 1 (μ0 2 0) - 1)) who ↔ y ≠ 0) := fun y hy hw' => by
          rw [nt.2 who hw.1 (by omega), hy, s1.2.2 hw']
          constructor
          · intro x
            by_cases z : μ 38 (H - 1) = 0
            · exact z
            · exact absurd ⟨fun _ => hw', fun _ => z⟩ x
          · intro x y
            exact (y.mpr hw') x
        by_cases z : μ 38 (H - 1) = 0
        · rw [if_pos z]
          exact rcs _ _ (zs _ _) (zm _ _) (SI_put hS (fun j _ j1 _ => j1) nt.1 off (onw 1 ⟨fun _ => z, fun _ => by decide⟩))
        · rw [if_neg z]
          exact rcs _ _ (zs _ _) (zm _ _) (SI_put hS (fun j _ j1 _ => j1) nt.1 off (onw 0 ⟨fun x => absurd rfl x, fun x => absurd x z⟩))
      · rw [if_neg a7] at hgs
        rw [if_neg a7]
        have n18 : ¬ σ0 44 q = 18 := by
          rw [e1]
          split <;> omega
        rw [if_neg n18]
        by_cases a8 : μ0 2 (474 + 3 * (q : Int)) = 8
        · have w17 : σ0 44 q = 17 := by rw [e1, a8]; decide
          have h2 := v8 (Or.inl a8)
          rw [if_pos w17, if_neg (show ¬ hg (μ0 2) q < 2 by omega), if_pos a8]
          rw [if_pos (Or.inl a8), show hg (μ0 2) q - 1 = hg (μ0 2) q + (-1) by omega] at hgs
          rw [hgs] at rcs
          generalize hg (μ0 2) q = H at *
          have s1 := hS (H + -1 - 1) (by omega) (by omega)
          have s2 := hS (H + -1) (by omega) (by omega)
          have hbd : ∀ j : Int, 0 ≤ j → j < 8 → (hb (band (σ 47 (H + -1 - 1)) (σ 47 (H + -1))) j ↔ hb (σ 47 (H + -1 - 1)) j ∧ hb (σ 47 (H + -1)) j) := fun j j0 j1 => hb_band ⟨s1.1.1, by omega⟩ ⟨s2.1.1, by omega⟩ ⟨j0, by omega⟩
          have rg : 0 ≤ band (σ 47 (H + -1 - 1)) (σ 47 (H + -1)) ∧ band (σ 47 (H + -1 - 1)) (σ 47 (H + -1)) < 256 := by
            obtain ⟨x, hx⟩ := toN2 s1.1.1
            obtain ⟨y, hy⟩ := toN2 s2.1.1
            rw [hx, hy, band_nat (by omega) (by omega)]
            have := Nat.and_le_left (n := x) (m := y)
            omega
          have off : ∀ j : Int, μ0 2 0 ≤ j → j < 8 → ¬ hb (band (σ 47 (H + -1 - 1)) (σ 47 (H + -1))) j := fun j j0 j1 => by
            rw [hbd j (by omega) j1]
            exact fun x => s1.2.1 j j0 j1 x.1
          have onw : who < μ0 2 0 → (hb (band (σ 47 (H + -1 - 1)) (σ 47 (H + -1))) who ↔ μ 38 (H + -1 - 1) ≠ 0 ∧ μ 38 (H + -1) ≠ 0) := fun hw' => by
            rw [hbd who hw.1 (by omega), s1.2.2 hw', s2.2.2 hw']
          by_cases z1 : μ 38 (H + -1 - 1) = 0
          · rw [if_pos z1]
            exact rcs _ _ (zs _ _) (zm _ _) (SI_put hS (fun j _ j1 _ => by omega) rg off (fun hw' => by rw [onw hw']; exact ⟨fun x => absurd z1 x.1, fun x => absurd rfl x⟩))
          · rw [if_neg z1]
            by_cases z2 : μ 38 (H + -1) = 0
            · rw [if_pos z2]
              exact rcs _ _ (zs _ _) (zm _ _) (SI_put hS (fun j _ j1 _ => by omega) rg off (fun hw' => by rw [onw hw']; exact ⟨fun x => absurd z2 x.2, fun x => absurd rfl x⟩))
            · rw [if_neg z2]
              exact rcs _ _ (zs _ _) (zm _ _) (SI_put hS (fun j _ j1 _ => by omega) rg off (fun hw' => by rw [onw hw']; exact ⟨fun _ => by decide, fun _ => ⟨z1, z2⟩⟩))
        · rw [if_neg a8]
          have n17 : ¬ σ0 44 q = 17 := by
            rw [e1]
            split <;> omega
          rw [if_neg n17]
          by_cases a9 : μ0 2 (474 + 3 * (q : Int)) = 9
          · have w16 : σ0 44 q = 16 := by rw [e1, a9]; decide
            have h2 := v8 (Or.inr a9)
            rw [if_pos w16, if_neg (show ¬ hg (μ0 2) q < 2 by omega), if_pos a9]
            rw [if_pos (Or.inr a9), show hg (μ0 2) q - 1 = hg (μ0 2) q + (-1) by omega] at hgs
            rw [hgs] at rcs
            generalize hg (μ0 2) q = H at *
            have s1 := hS (H + -1 - 1) (by omega) (by omega)
            have s2 := hS (H + -1) (by omega) (by omega)
            have hbd : ∀ j : Int, 0 ≤ j → j < 8 → (hb (bor (σ 47 (H + -1 - 1)) (σ 47 (H + -1))) j ↔ hb (σ 47 (H + -1 - 1)) j ∨ hb (σ 47 (H + -1)) j) := fun j j0 j1 => hb_bor ⟨s1.1.1, by omega⟩ ⟨s2.1.1, by omega⟩ ⟨j0, by omega⟩
            have rg : 0 ≤ bor (σ 47 (H + -1 - 1)) (σ 47 (H + -1)) ∧ bor (σ 47 (H + -1 - 1)) (σ 47 (H + -1)) < 256 := by
              obtain ⟨x, hx⟩ := toN2 s1.1.1
              obtain ⟨y, hy⟩ := toN2 s2.1.1
              rw [hx, hy, bor_nat (by omega) (by omega)]
              have hx8 : x < 2 ^ 8 := by omega
              have hy8 : y < 2 ^ 8 := by omega
              have := Nat.or_lt_two_pow hx8 hy8
              omega
            have off : ∀ j : Int, μ0 2 0 ≤ j → j < 8 → ¬ hb (bor (σ 47 (H + -1 - 1)) (σ 47 (H + -1))) j := fun j j0 j1 => by
              rw [hbd j (by omega) j1]
              rintro (x | x)
              · exact s1.2.1 j j0 j1 x
              · exact s2.2.1 j j0 j1 x
            have onw : who < μ0 2 0 → (hb (bor (σ 47 (H + -1 - 1)) (σ 47 (H + -1))) who ↔ μ 38 (H + -1 - 1) ≠ 0 ∨ μ 38 (H + -1) ≠ 0) := fun hw' => by
              rw [hbd who hw.1 (by omega), s1.2.2 hw', s2.2.2 hw']
            by_cases z1 : μ 38 (H + -1 - 1) = 0
            · rw [if_pos z1]
              by_cases z2 : μ 38 (H + -1) = 0
              · rw [if_pos z2]
                exact rcs _ _ (zs _ _) (zm _ _) (SI_put hS (fun j _ j1 _ => by omega) rg off (fun hw' => by rw [onw hw']; exact ⟨fun x => x.elim (fun y => absurd z1 y) (fun y => absurd z2 y), fun x => absurd rfl x⟩))
              · rw [if_neg z2]
                exact rcs _ _ (zs _ _) (zm _ _) (SI_put hS (fun j _ j1 _ => by omega) rg off (fun hw' => by rw [onw hw']; exact ⟨fun _ => by decide, fun _ => Or.inr z2⟩))
            · rw [if_neg z1]
              exact rcs _ _ (zs _ _) (zm _ _) (SI_put hS (fun j _ j1 _ => by omega) rg off (fun hw' => by rw [onw hw']; exact ⟨fun _ => by decide, fun _ => Or.inl z1⟩))
          · rw [if_neg a9]
            have n16 : ¬ σ0 44 q = 16 := by
              rw [e1]
              split <;> omega
            rw [if_neg n16, if_neg (show ¬ 40 ≤ hg (μ0 2) q by omega)]
            rw [if_neg (show ¬ (μ0 2 (474 + 3 * (q : Int)) = 8 ∨ μ0 2 (474 + 3 * (q : Int)) = 9) by omega)] at hgs
            rw [hgs] at rcs
            have hQ2 : QR σ μ := QR_row (QR_mrow hQ hμ) (fun c _ _ h => hσ c (by omega))
            have hx2 : IX σ (μ 2) (μ 2 1) q := by
              unfold IX at *
              rw [hσ 44 (by decide), hσ 45 (by decide), hσ 46 (by decide), hμ 2 (by decide)]; exact hx
            have hp2 : σ 5 0 = μ0 2 0 := by rw [hσ 5 (by decide)]; exact hP.1
            have pf := plainFor_r (σ := σ) (i := q) hp2 ⟨hP.2.1, hP.2.2⟩ 20 0 0 (by decide) (by omega) ⟨by decide, by decide⟩
            have pe := fun hw' : who < μ0 2 0 => plain_eq hQ2 hx2 (by rw [hμ 2 (by decide)]; omega) (who := who) (by rw [hμ 2 (by decide)]; exact ⟨hw.1, hw'⟩)
            rw [hμ 2 (by decide)] at pe
            refine rcs _ _ (zs _ _) (zm _ _) (SI_put hS (fun j _ j1 _ => by omega) pf.1 (fun j j0 j1 => ?_) (fun hw' => ?_))
            · show ¬ hb (L_X6_plainFor_5 σ q 20 0 0) j
              rw [pf.2 j (by omega) j1]
              rintro (x | x)
              · exact hb_0 ⟨by omega, by omega⟩ x
              · omega
            · show hb (L_X6_plainFor_5 σ q 20 0 0) who ↔ _
              rw [pf.2 who hw.1 (by omega), pe hw']
              constructor
              · rintro (x | x)
                · exact absurd x (hb_0 ⟨hw.1, by omega⟩)
                · exact x.2.2
              · exact fun x => Or.inr ⟨hw.1, hw', x⟩
theorem said_loop {σ0 μ0 : zG} (hQ : QR σ0 μ0) {n0 : Nat} (h43 : σ0 43 1 = (n0 : Int)) (h473 : μ0 2 473 = (n0 : Int)) (hX : ∀ k : Nat, k < n0 → IX σ0 (μ0 2) (μ0 2 1) k) (h40 : n0 < 40) (hg1 : hg (μ0 2) n0 = 1) : ∀ (n : Nat) (st q : Int) (μ : zG), 0 ≤ q → q ≤ μ0 2 0 → (μ0 2 0 - q).toNat < n → (∀ k : Nat, k ≠ 38 → μ k = μ0 k) → (0 ≤ st ∧ st < 256) → (∀ j : Int, 0 ≤ j → j < 8 → (hb st j ↔ j < q ∧ hb (R_X6_holdsFor σ0).1 j)) →
    (0 ≤ (L_X12_said_27 n st q μ).1 ∧ (L_X12_said_27 n st q μ).1 < 256) ∧ ∀ j : Int, 0 ≤ j → j < 8 → (hb (L_X12_said_27 n st q μ).1 j ↔ j < μ0 2 0 ∧ hb (R_X6_holdsFor σ0).1 j)
  | 0, st, q, μ, _, _, h, _, _, _ => absurd h (Nat.not_lt_zero _)
  | n + 1, st, q, μ, q0, qP, h, hμ, hs, hb1 => by
    have hP := hQ.1.1
    rw [L_X12_said_27, hμ 2 (by decide)]
    by_cases c : μ0 2 0 ≤ q
    · rw [if_pos c]
      have e : q = μ0 2 0 := by omega
      rw [← e]
      exact ⟨hs, hb1⟩
    · rw [if_neg c]
      have sim := said_sim hQ h43 h473 hX h40 hg1 (who := q) ⟨q0, by omega⟩ 50 100 0 σ0 μ (fun _ _ => rfl) hμ (by omega) (fun j j0 j1 => absurd j1 (by show ¬ j < (0 : Int); omega)) (by omega) (by omega)
      have e1 : (L_X6_holdsFor_17 (bshl 1 (μ0 2 0) - 1) 50 (hg (μ0 2) 0) (0 : Nat) σ0) = R_X6_holdsFor σ0 := by
        unfold R_X6_holdsFor
        rw [hP.1]
        rfl
      have e2 : L_X12_isSaid_4 q 100 (hg (μ0 2) 0) (0 : Nat) μ = R_X12_isSaid μ q := rfl
      rw [e1, e2] at sim
      by_cases z : (R_X12_isSaid μ q).1 = 0
      · rw [if_pos z]
        have b0 : bor st 0 = st := by
          obtain ⟨x, hx⟩ := toN2 hs.1
          rw [hx, show (0 : Int) = ((0 : Nat) : Int) from rfl, bor_nat (by omega) (by decide), Nat.or_zero]
        rw [b0]
        refine said_loop hQ h43 h473 hX h40 hg1 n st (q + 1) _ (by omega) (by omega) (by omega) sim.2.2.2 hs (fun j j0 j1 => ?_)
        rw [hb1 j j0 j1]
        constructor
        · exact fun x => ⟨by omega, x.2⟩
        · rintro ⟨x, y⟩
          have : j ≠ q := fun e => ((sim.1 (by omega)).mp (e ▸ y)) z
          exact ⟨by omega, y⟩
      · rw [if_neg z]
        have br := bor_bit hs.1 hs.2 q0 (show q < 8 by omega)
        refine said_loop hQ h43 h473 hX h40 hg1 n _ (q + 1) _ (by omega) (by omega) (by omega) sim.2.2.2 ⟨by omega, br.2⟩ (fun j j0 j1 => ?_)
        rw [bit8 hs ⟨q0, by omega⟩ ⟨j0, j1⟩, hb1 j j0 j1]
        constructor
        · rintro (x | x)
          · exact ⟨by omega, x.2⟩
          · exact ⟨by omega, by rw [x]; exact (sim.1 (by omega)).mpr z⟩
        · rintro ⟨x, y⟩
          by_cases e : j = q
          · exact Or.inr e
          · exact Or.inl ⟨by omega, y⟩
theorem q_said {σ μ : zG} (e2 : R_X12_run (zu μ 0 0 0) (-1) 2 = μ 2) (hQ : QR σ (R_X12_run (zu μ 0 0 0) (-1))) (hS : SN σ μ) : V_X11_said σ = (R_X12_said μ).1 := by
  obtain ⟨C, ⟨h1, h2⟩, ⟨h3, h4⟩, h5, h6, h7, h8, h9⟩ := hS
  have hP := hQ.1.1
  unfold V_X11_said R_X12_said
  by_cases c : C = []
  · have z := h8.mpr c
    rw [if_pos (show σ 43 0 ≤ 0 by omega), if_pos (show μ 2 473 = 0 by rw [h3, c]; rfl)]
  · have z : ¬ σ 43 0 = 0 := fun x => c (h8.mp x)
    have l : C.length ≠ 0 := fun x => c (List.eq_nil_of_length_eq_zero x)
    rw [if_neg (show ¬ σ 43 0 ≤ 0 by omega), if_neg (show ¬ μ 2 473 = 0 by omega)]
    rw [← e2] at h3 h4 h5
    generalize R_X12_run (zu μ 0 0 0) (-1) = ν at *
    obtain ⟨i1, i2⟩ := sn_idx C h2 h4 h5
    have hg1 : hg (ν 2) C.length = 1 := by rw [i1]; exact h9 c
    have sim := said_sim hQ h1 h3 i2 h6 hg1 (who := 0) ⟨by decide, by decide⟩ 50 100 0 σ ν (fun _ _ => rfl) (fun _ _ => rfl) (by omega) (fun j j0 j1 => absurd j1 (by show ¬ j < (0 : Int); omega)) (by omega) (by omega)
    have e1 : (L_X6_holdsFor_17 (bshl 1 (ν 2 0) - 1) 50 (hg (ν 2) 0) (0 : Nat) σ) = R_X6_holdsFor σ := by
      unfold R_X6_holdsFor
      rw [hP.1]
      rfl
    rw [e1] at sim
    have lp := said_loop hQ h1 h3 i2 h6 hg1 20 0 0 ν (by decide) hP.2.1 (by omega) (fun _ _ => rfl) ⟨by decide, by decide⟩ (fun j j0 j1 => ⟨fun x => absurd x (hb_0 ⟨j0, by omega⟩), fun x => by omega⟩)
    have r1 := sim.2.1
    have r2 := lp.1
    refine hb_ext ⟨r1.1, by omega⟩ ⟨r2.1, by omega⟩ (fun i i0 i1 => ?_)
    by_cases c8 : i < 8
    · rw [lp.2 i i0 c8]
      constructor
      · intro x
        by_cases y : i < ν 2 0
        · exact ⟨y, x⟩
        · exact absurd x (sim.2.2.1 i (by omega) c8)
      · exact fun x => x.2
    · have off : ∀ x : Int, 0 ≤ x ∧ x < 256 → ¬ hb x i := fun x hx => by
        obtain ⟨a, ha⟩ := toN2 hx.1
        obtain ⟨b, hb'⟩ := toN2 i0
        rw [ha, hb', hb_nat (by omega) (by omega)]
        have : a < 2 ^ b := by
          have : 2 ^ 8 ≤ 2 ^ b := Nat.pow_le_pow_right (by decide) (by omega)
          omega
        simp [Nat.testBit_lt_two_pow this]
      exact ⟨fun x => absurd x (off _ r1), fun x => absurd x (off _ r2)⟩
