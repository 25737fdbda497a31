/-! pure: cords on both sides -/
theorem lay_at (μ : zG) (x : Int) {i : Int} (h0 : 0 ≤ i) (h1 : i < 4) : F_X12_lay μ x 34 i = V_X11_knotsAt x i := by
  unfold F_X12_lay V_X11_knotsAt
  rcases (show i = 0 ∨ i = 1 ∨ i = 2 ∨ i = 3 by omega) with e | e | e | e
  all_goals subst e
  all_goals simp [zu]
theorem lay_rw (μ : zG) (x : Int) {k : Nat} (h : k ≠ 34) : F_X12_lay μ x k = μ k := by
  unfold F_X12_lay
  rw [zu_row _ _ _ h, zu_row _ _ _ h, zu_row _ _ _ h, zu_row _ _ _ h]
theorem knots_r {x i : Int} (hx : 0 ≤ x ∧ x < 125) (hi : 0 ≤ i ∧ i < 4) : 0 ≤ V_X11_knotsAt x i ∧ V_X11_knotsAt x i ≤ 4 := by
  unfold V_X11_knotsAt
  rcases (show i = 0 ∨ i = 1 ∨ i = 2 ∨ i = 3 by omega) with e | e | e | e
  all_goals subst e
  all_goals simp
  all_goals omega
theorem q_cord (μ : zG) (x i : Int) : V_X11_cord x i = V_X12_cord μ x i := by
  unfold V_X11_cord V_X12_cord
  by_cases c : 0 ≤ x ∧ x < 125
  · rw [if_pos c, if_pos (show 0 ≤ x ∧ x ≤ 124 by omega)]
    by_cases d : i < 0
    · rw [if_pos d, if_neg (by omega)]
    · rw [if_neg d]
      by_cases e : 4 ≤ i
      · rw [if_pos e, if_neg (by omega)]
      · rw [if_neg e, if_pos (by omega), lay_at _ _ (by omega) (by omega)]
  · rw [if_neg c, if_neg (show ¬ (0 ≤ x ∧ x ≤ 124) by omega)]
/-- the knots that were seen -/
def KN (τ ν : zG) : Prop := ∀ i : Int, 0 ≤ i → i < 4 → τ 98 i = ν 35 i ∧ 0 ≤ ν 35 i ∧ ν 35 i ≤ 4
theorem len_eq {τ ν : zG} (h : KN τ ν) : V_X11_lengthOf τ = V_X12_readSeen ν ∧ (V_X12_readSeen ν = -1 ∨ 0 ≤ V_X12_readSeen ν) := by
  have k0 := h 0 (by decide) (by decide)
  have k1 := h 1 (by decide) (by decide)
  have k2 := h 2 (by decide) (by decide)
  have k3 := h 3 (by decide) (by decide)
  unfold V_X11_lengthOf V_X12_readSeen V_X11_knotsAt
  rw [k0.1, k1.1, k2.1, k3.1, if_neg (show ¬ (3 : Int) = 0 by decide), if_neg (show ¬ (3 : Int) = 1 by decide), if_neg (show ¬ (3 : Int) = 2 by decide)]
  generalize ν 35 0 = a at *
  generalize ν 35 1 = b at *
  generalize ν 35 2 = c at *
  generalize ν 35 3 = d at *
  rw [show (a * 25 + b * 5 + c) / 25 = a by omega, show (a * 25 + b * 5 + c) / 5 % 5 = b by omega, show (a * 25 + b * 5 + c) % 5 = c by omega]
  by_cases e : (a + 2 * b + 3 * c) % 5 = d
  · rw [if_pos e, if_pos e]; omega
  · rw [if_neg e, if_neg e]; omega
/-- the cord on the tape taken on both sides -/
theorem take_eq {σ μ : zG} (h : TT σ μ) : V_X11_takeKnots σ = V_X12_takesCord (zu μ 0 0 0) ∧ (¬ V_X11_takeKnots σ = 0 → KN (F_X11_takeKnots σ) (F_X12_takesCord (zu μ 0 0 0))) ∧ F_X11_takeKnots σ 1 1 = 0 ∧ F_X12_takesCord (zu μ 0 0 0) 0 2 = 0 ∧ (∀ k : Nat, k ≠ 0 → k ≠ 35 → F_X12_takesCord (zu μ 0 0 0) k = μ k) ∧ ∀ j : Int, j ≠ 0 → j ≠ 2 → j ≠ 3 → j ≠ 4 → j ≠ 5 → F_X12_takesCord (zu μ 0 0 0) 0 j = μ 0 j := by
  obtain ⟨h1, h2⟩ := h
  have b0 := h2 0 (by decide) (by decide)
  have b1 := h2 1 (by decide) (by decide)
  have b2 := h2 2 (by decide) (by decide)
  have b3 := h2 3 (by decide) (by decide)
  unfold mu at b0 b1 b2 b3
  have z1 : zu μ 0 0 0 1 = μ 1 := zu_row _ _ _ (by decide)
  have z2 : zu μ 0 0 0 0 2 = μ 0 2 := zu_off _ _ _ (by decide)
  refine ⟨?_, fun nz => ?_, ?_, ?_, fun k k0 k5 => ?_, fun j j0 j2 j3 j4 j5 => ?_⟩
  · unfold V_X11_takeKnots V_X12_takesCord
    rw [z1, z2, h1.1, ← b0.1, ← b1.1, ← b2.1, ← b3.1]
    repeat' split
    all_goals omega
  · unfold V_X11_takeKnots at nz
    unfold F_X12_takesCord F_X11_takeKnots
    rw [h1.1, b0.1, b1.1, b2.1, b3.1] at nz
    rw [z1, z2]
    by_cases c : μ 0 2 = 4
    · rw [if_pos c] at nz ⊢
      by_cases c0 : 4 < band (μ 1 0) 255
      · rw [if_pos c0] at nz; exact absurd rfl nz
      · rw [if_neg c0] at nz
        rw [if_pos (show band (μ 1 0) 255 ≤ 4 by omega)]
        by_cases c1 : 4 < band (μ 1 1) 255
        · rw [if_pos c1] at nz; exact absurd rfl nz
        · rw [if_neg c1] at nz
          rw [if_pos (show band (μ 1 1) 255 ≤ 4 by omega)]
          by_cases c2 : 4 < band (μ 1 2) 255
          · rw [if_pos c2] at nz; exact absurd rfl nz
          · rw [if_neg c2] at nz
            rw [if_pos (show band (μ 1 2) 255 ≤ 4 by omega)]
            by_cases c3 : 4 < band (μ 1 3) 255
            · rw [if_pos c3] at nz; exact absurd rfl nz
            · rw [b0.1, b1.1, b2.1, b3.1]
              intro i i0 i1
              rw [b0.1] at b0
              rw [b1.1] at b1
              rw [b2.1] at b2
              rw [b3.1] at b3
              rcases (show i = 0 ∨ i = 1 ∨ i = 2 ∨ i = 3 by omega) with e | e | e | e
              all_goals subst e
              all_goals simp [zu]
              all_goals omega
    · rw [if_neg c] at nz; exact absurd rfl nz
  · unfold F_X11_takeKnots; rw [zu_at]
  · unfold F_X12_takesCord
    repeat' split
    all_goals simp [zu]
  · unfold F_X12_takesCord
    repeat' split
    all_goals simp only [zu_row _ _ _ k0, zu_row _ _ _ k5]
  · unfold F_X12_takesCord
    repeat' split
    all_goals simp [zu, j0, j2, j3, j4, j5]
theorem q_read {σ μ : zG} (h : TT σ μ) : V_X11_read σ = V_X12_read μ := by
  obtain ⟨a, b, _⟩ := take_eq h
  unfold V_X11_read V_X12_read
  rw [← a]
  by_cases c : V_X11_takeKnots σ = 0
  · rw [if_pos c, if_pos c]
  · rw [if_neg c, if_neg c]; exact (len_eq (b c)).1
theorem sq4 {g : Int} (h : -4 ≤ g ∧ g ≤ 4) : (g = 0 ∧ g * g = 0) ∨ ((g = 1 ∨ g = -1) ∧ g * g = 1) ∨ ((2 ≤ g ∨ g ≤ -2) ∧ 4 ≤ g * g) := by
  rcases (show g = -4 ∨ g = -3 ∨ g = -2 ∨ g = -1 ∨ g = 0 ∨ g = 1 ∨ g = 2 ∨ g = 3 ∨ g = 4 by omega) with e | e | e | e | e | e | e | e | e
  all_goals subst e
  all_goals decide
theorem near_eq {τ ν : zG} (h : KN τ ν) {q kq : Int} (hq : 0 ≤ q ∧ q < 125) : (R_X11_isNear τ q = 0 ↔ ¬ (S_X12_near_43 kq 10 0 0 (F_X12_lay ν q)).1 = 1) ∧ (S_X12_near_43 kq 10 0 0 (F_X12_lay ν q)).2.2 = F_X12_lay ν q := by
  have k0 := h 0 (by decide) (by decide)
  have k1 := h 1 (by decide) (by decide)
  have k2 := h 2 (by decide) (by decide)
  have k3 := h 3 (by decide) (by decide)
  have n0 := knots_r hq (i := 0) (by decide)
  have n1 := knots_r hq (i := 1) (by decide)
  have n2 := knots_r hq (i := 2) (by decide)
  have n3 := knots_r hq (i := 3) (by decide)
  have l0 := lay_at ν q (i := 0) (by decide) (by decide)
  have l1 := lay_at ν q (i := 1) (by decide) (by decide)
  have l2 := lay_at ν q (i := 2) (by decide) (by decide)
  have l3 := lay_at ν q (i := 3) (by decide) (by decide)
  have l35 : F_X12_lay ν q 35 = ν 35 := lay_rw ν q (by decide)
  generalize F_X12_lay ν q = w at *
  have eN : R_X11_isNear τ q = if 0 + ((V_X11_knotsAt q 0 - τ 98 0) * (V_X11_knotsAt q 0 - τ 98 0)) + ((V_X11_knotsAt q 1 - τ 98 1) * (V_X11_knotsAt q 1 - τ 98 1)) + ((V_X11_knotsAt q 2 - τ 98 2) * (V_X11_knotsAt q 2 - τ 98 2)) + ((V_X11_knotsAt q 3 - τ 98 3) * (V_X11_knotsAt q 3 - τ 98 3)) = 1 then 1 else 0 := by
    unfold R_X11_isNear
    rw [L_X11_isNear_4, if_neg (by decide), L_X11_isNear_4, if_neg (by decide), L_X11_isNear_4, if_neg (by decide), L_X11_isNear_4, if_neg (by decide), L_X11_isNear_4, if_pos (by decide)]
    rfl
  have step : ∀ (n : Nat) (ap i : Int), ¬ 4 ≤ i → S_X12_near_43 kq (n + 1) ap i w = S_X12_near_43 kq n (ap + (if w 34 i ≤ w 35 i then w 35 i - w 34 i else w 34 i - w 35 i)) (i + 1) w := fun n ap i hi => by
    rw [S_X12_near_43, if_neg hi]
    split <;> rfl
  have eS : S_X12_near_43 kq 10 0 0 w = (0 + (if w 34 0 ≤ w 35 0 then w 35 0 - w 34 0 else w 34 0 - w 35 0) + (if w 34 1 ≤ w 35 1 then w 35 1 - w 34 1 else w 34 1 - w 35 1) + (if w 34 2 ≤ w 35 2 then w 35 2 - w 34 2 else w 34 2 - w 35 2) + (if w 34 3 ≤ w 35 3 then w 35 3 - w 34 3 else w 34 3 - w 35 3), 4, w) := by
    rw [step 9 0 0 (by decide), step 8 _ (0 + 1) (by decide), step 7 _ (0 + 1 + 1) (by decide), step 6 _ (0 + 1 + 1 + 1) (by decide), S_X12_near_43, if_pos (by decide)]
    rfl
  rw [eS, eN, l35, l0, l1, l2, l3, k0.1, k1.1, k2.1, k3.1]
  refine ⟨?_, rfl⟩
  have s0 := sq4 (g := V_X11_knotsAt q 0 - ν 35 0) (by omega)
  have s1 := sq4 (g := V_X11_knotsAt q 1 - ν 35 1) (by omega)
  have s2 := sq4 (g := V_X11_knotsAt q 2 - ν 35 2) (by omega)
  have s3 := sq4 (g := V_X11_knotsAt q 3 - ν 35 3) (by omega)
  generalize (V_X11_knotsAt q 0 - ν 35 0) * (V_X11_knotsAt q 0 - ν 35 0) = g0 at *
  generalize (V_X11_knotsAt q 1 - ν 35 1) * (V_X11_knotsAt q 1 - ν 35 1) = g1 at *
  generalize (V_X11_knotsAt q 2 - ν 35 2) * (V_X11_knotsAt q 2 - ν 35 2) = g2 at *
  generalize (V_X11_knotsAt q 3 - ν 35 3) * (V_X11_knotsAt q 3 - ν 35 3) = g3 at *
  show (if 0 + g0 + g1 + g2 + g3 = 1 then (1 : Int) else 0) = 0 ↔ ¬ (0 + (if V_X11_knotsAt q 0 ≤ ν 35 0 then ν 35 0 - V_X11_knotsAt q 0 else V_X11_knotsAt q 0 - ν 35 0) + (if V_X11_knotsAt q 1 ≤ ν 35 1 then ν 35 1 - V_X11_knotsAt q 1 else V_X11_knotsAt q 1 - ν 35 1) + (if V_X11_knotsAt q 2 ≤ ν 35 2 then ν 35 2 - V_X11_knotsAt q 2 else V_X11_knotsAt q 2 - ν 35 2) + (if V_X11_knotsAt q 3 ≤ ν 35 3 then ν 35 3 - V_X11_knotsAt q 3 else V_X11_knotsAt q 3 - ν 35 3) = 1)
  clear eS eN step k0 k1 k2 k3 n0 n1 n2 n3 l0 l1 l2 l3 l35
  omega
theorem near_loop {τ : zG} {kq : Int} : ∀ (n : Nat) (sm q : Int) (ν : zG), KN τ ν → 0 ≤ q → (125 - q).toNat < n → (L_X11_near_14 kq n sm q τ).1 = (L_X12_near_26 kq n sm q ν).1 ∧ (L_X11_near_14 kq n sm q τ).2 = τ ∧ ∀ k : Nat, k ≠ 34 → (L_X12_near_26 kq n sm q ν).2 k = ν k
  | 0, sm, q, ν, _, _, h => absurd h (Nat.not_lt_zero _)
  | n + 1, sm, q, ν, hk, q0, hn => by
    rw [L_X11_near_14, L_X12_near_26]
    by_cases c : 125 ≤ q
    · rw [if_pos c, if_pos c]
      split
      · exact ⟨rfl, rfl, fun _ _ => rfl⟩
      · exact ⟨rfl, rfl, fun _ _ => rfl⟩
    · rw [if_neg c, if_neg c]
      obtain ⟨e1, e2⟩ := near_eq hk (kq := kq) (q := q) ⟨q0, by omega⟩
      rw [e2]
      have hk2 : KN τ (F_X12_lay ν q) := fun i a b => by rw [lay_rw ν q (by decide)]; exact hk i a b
      have ih := fun sm => near_loop (τ := τ) (kq := kq) n sm (q + 1) (F_X12_lay ν q) hk2 (by omega) (by omega)
      by_cases z : R_X11_isNear τ q = 0
      · rw [if_pos z, if_neg (e1.mp z)]
        exact ⟨(ih sm).1, (ih sm).2.1, fun k hk => by rw [(ih sm).2.2 k hk, lay_rw ν q hk]⟩
      · have y : (S_X12_near_43 kq 10 0 0 (F_X12_lay ν q)).1 = 1 := by
          by_cases y : (S_X12_near_43 kq 10 0 0 (F_X12_lay ν q)).1 = 1
          · exact y
          · exact absurd (e1.mpr y) z
        rw [if_neg z, if_pos y]
        by_cases s : sm = kq
        · rw [if_pos s, if_pos s]
          exact ⟨rfl, rfl, fun k hk => lay_rw ν q hk⟩
        · rw [if_neg s, if_neg s]
          exact ⟨(ih (sm + 1)).1, (ih (sm + 1)).2.1, fun k hk => by rw [(ih (sm + 1)).2.2 k hk, lay_rw ν q hk]⟩
theorem near_neg {τ : zG} {kq : Int} (hk : kq < -1) : ∀ (n : Nat) (sm q : Int), 0 ≤ sm → (125 - q).toNat < n → (L_X11_near_14 kq n sm q τ) = (-1, τ)
  | 0, sm, q, _, h => absurd h (Nat.not_lt_zero _)
  | n + 1, sm, q, s0, hn => by
    rw [L_X11_near_14]
    by_cases c : 125 ≤ q
    · rw [if_pos c, if_neg (by omega)]
    · rw [if_neg c]
      split
      · exact near_neg hk n sm (q + 1) s0 (by omega)
      · rw [if_neg (by omega)]
        exact near_neg hk n (sm + 1) (q + 1) (by omega) (by omega)
theorem q_near {σ μ : zG} (h : TT σ μ) (kq : Int) : (R_X11_near σ kq).1 = (R_X12_near μ kq).1 ∧ (R_X11_near σ kq).2 = F_X11_takeKnots σ ∧ ∀ k : Nat, k ≠ 34 → (R_X12_near μ kq).2 k = F_X12_takesCord (zu μ 0 0 0) k := by
  obtain ⟨a, b, _⟩ := take_eq h
  unfold R_X11_near R_X12_near
  rw [← a]
  by_cases c : V_X11_takeKnots σ = 0
  · rw [if_pos c, if_pos c]; exact ⟨rfl, rfl, fun _ _ => rfl⟩
  · rw [if_neg c, if_neg c]
    by_cases d : -1 ≤ kq
    · rw [if_pos d]
      exact near_loop 130 0 0 _ (b c) (by decide) (by decide)
    · rw [if_neg d, near_neg (by omega) 130 0 0 (by decide) (by decide)]
      exact ⟨rfl, rfl, fun _ _ => rfl⟩
/-- a measuring on both sides -/
theorem meas_loop {x : Int} (hx : 0 ≤ x ∧ x < 125) : ∀ (n n' : Nat) (i : Int) (σ μ : zG), σ 97 0 = μ 0 27 → (∀ j : Int, 0 ≤ j → j < 4 → μ 34 j = V_X11_knotsAt x j) → 0 ≤ i → (∀ j : Int, 0 ≤ j → j < i → j < 4 → σ 98 j = μ 35 j ∧ 0 ≤ μ 35 j ∧ μ 35 j ≤ 4) → (4 - i).toNat < n → (4 - i).toNat < n' → KN (L_X11_measure_2 x n i σ) (L_X12_measure_7 x n' i μ) ∧ L_X11_measure_2 x n i σ 97 0 = L_X12_measure_7 x n' i μ 0 27 ∧ ∀ j : Int, j ≠ 27 → L_X12_measure_7 x n' i μ 0 j = μ 0 j
  | 0, _, i, σ, μ, _, _, _, _, h, _ => absurd h (Nat.not_lt_zero _)
  | _ + 1, 0, i, σ, μ, _, _, _, _, _, h => absurd h (Nat.not_lt_zero _)
  | n + 1, n' + 1, i, σ, μ, hs, hk, i0, hp, hn, hn' => by
    rw [L_X11_measure_2, L_X12_measure_7]
    by_cases c : 4 ≤ i
    · rw [if_pos c, if_pos c]
      exact ⟨fun j a b => hp j a (by omega) b, hs, fun _ _ => rfl⟩
    · rw [if_neg c, if_neg c]
      obtain ⟨d1, d2⟩ := draw_eq hs (n := 10) (by decide)
      have kr := knots_r hx (i := i) ⟨i0, by omega⟩
      rw [d1, hk i i0 (by omega)]
      generalize V_X12_draw μ 10 = dv at *
      generalize hkk : V_X11_knotsAt x i = kk at *
      have go : ∀ a b : Int, a = b → 0 ≤ b → b ≤ 4 → KN (L_X11_measure_2 x n (i + 1) (zu (F_X1_draw σ 10) 98 i a)) (L_X12_measure_7 x n' (i + 1) (zu (F_X12_draw μ 10) 35 i b)) ∧ L_X11_measure_2 x n (i + 1) (zu (F_X1_draw σ 10) 98 i a) 97 0 = L_X12_measure_7 x n' (i + 1) (zu (F_X12_draw μ 10) 35 i b) 0 27 ∧ ∀ j : Int, j ≠ 27 → L_X12_measure_7 x n' (i + 1) (zu (F_X12_draw μ 10) 35 i b) 0 j = μ 0 j := by
        intro a b e b0 b4
        have ih := meas_loop hx n n' (i + 1) (zu (F_X1_draw σ 10) 98 i a) (zu (F_X12_draw μ 10) 35 i b) (by rw [zu_ne _ _ _ _ (by decide), zu_ne _ _ _ _ (by decide)]; exact d2) (fun j j0 j1 => by rw [zu_ne _ _ _ _ (by decide), md_r _ _ (by decide)]; exact hk j j0 j1) (by omega) (fun j j0 j1 j4 => by
          rw [zu_if, zu_if]
          by_cases z : j = i
          · rw [if_pos z, if_pos z]; exact ⟨e, b0, b4⟩
          · rw [if_neg z, if_neg z, xd_r _ _ (by decide), md_r _ _ (by decide)]; exact hp j j0 (by omega) j4) (by omega) (by omega)
        refine ⟨ih.1, ih.2.1, fun j hj => ?_⟩
        rw [ih.2.2 j hj, zu_ne _ _ _ _ (by decide), md_0 _ _ hj]
      by_cases z0 : dv = 0
      · rw [if_pos z0, if_pos z0]
        by_cases k4 : 4 ≤ kk
        · rw [if_pos k4, if_neg (show ¬ dv = 1 by omega)]
          exact go _ _ (by omega) (by omega) (by omega)
        · rw [if_neg k4]
          exact go _ _ (by omega) (by omega) (by omega)
      · rw [if_neg z0, if_neg z0]
        by_cases z1 : dv = 1
        · rw [if_pos z1, if_pos z1]
          by_cases k0 : kk ≤ 0
          · rw [if_pos k0]
            exact go _ _ (by omega) (by omega) (by omega)
          · rw [if_neg k0]
            exact go _ _ (by omega) (by omega) (by omega)
        · rw [if_neg z1, if_neg z1]
          exact go _ _ (by omega) (by omega) (by omega)
theorem meas_eq {x : Int} (hx : 0 ≤ x ∧ x < 125) {σ μ : zG} (hs : σ 97 0 = μ 0 27) : KN (R_X11_measure σ x) (R_X12_measure μ x) ∧ R_X11_measure σ x 97 0 = R_X12_measure μ x 0 27 ∧ ∀ j : Int, j ≠ 27 → R_X12_measure μ x 0 j = μ 0 j := by
  have h := meas_loop hx 10 10 0 σ (F_X12_lay μ x) (by rw [lay_rw _ _ (by decide)]; exact hs) (fun j a b => lay_at μ x a b) (by decide) (fun j a b _ => by omega) (by decide) (by decide)
  exact ⟨h.1, h.2.1, fun j hj => by have := h.2.2 j hj; rw [lay_rw _ _ (by decide)] at this; exact this⟩
theorem q_measured {σ μ : zG} {x sd : Int} : V_X11_measured σ x sd = V_X12_measured μ x sd := by
  unfold V_X11_measured V_X12_measured
  by_cases c : 0 ≤ x ∧ x < 125
  · rw [if_pos c, if_pos (show 0 ≤ x ∧ x ≤ 124 by omega)]
    have h := (meas_eq c (σ := zu σ 97 0 sd) (μ := zu (zu μ 0 0 0) 0 27 sd) (by rw [zu_at, zu_at])).1
    rw [(h 0 (by decide) (by decide)).1, (h 1 (by decide) (by decide)).1, (h 2 (by decide) (by decide)).1, (h 3 (by decide) (by decide)).1]
    omega
  · rw [if_neg c, if_neg (show ¬ (0 ≤ x ∧ x ≤ 124) by omega)]
theorem slips_loop {x mn sd : Int} (hx : 0 ≤ x ∧ x < 125) : ∀ (n : Nat) (sm q : Int) (σ μ : zG), σ 97 0 = μ 0 27 → (mn - q).toNat < n → (L_X11_slips_35 x mn sd n sm q σ).1 = (L_X12_slips_39 x mn sd n sm q μ).1 ∧ ∀ j : Int, j ≠ 27 → (L_X12_slips_39 x mn sd n sm q μ).2 0 j = μ 0 j
  | 0, sm, q, σ, μ, _, h => absurd h (Nat.not_lt_zero _)
  | n + 1, sm, q, σ, μ, hs, hn => by
    rw [L_X11_slips_35, L_X12_slips_39]
    by_cases c : mn ≤ q
    · rw [if_pos c, if_pos c]; exact ⟨rfl, fun _ _ => rfl⟩
    · rw [if_neg c, if_neg c]
      obtain ⟨k, s, z⟩ := meas_eq hx hs
      have l := len_eq k
      have ih := fun sm => slips_loop (mn := mn) (sd := sd) hx n sm (q + 1) (R_X11_measure σ x) (R_X12_measure μ x) s (by omega)
      have fin : ∀ sm, (L_X11_slips_35 x mn sd n sm (q + 1) (R_X11_measure σ x)).1 = (L_X12_slips_39 x mn sd n sm (q + 1) (R_X12_measure μ x)).1 ∧ ∀ j : Int, j ≠ 27 → (L_X12_slips_39 x mn sd n sm (q + 1) (R_X12_measure μ x)).2 0 j = μ 0 j := fun sm => ⟨(ih sm).1, fun j hj => by rw [(ih sm).2 j hj, z j hj]⟩
      rw [l.1, Int.add_zero]
      generalize V_X12_readSeen (R_X12_measure μ x) = r at *
      by_cases a : r = -1
      · rw [if_pos a, if_pos (show r < 0 by omega)]; exact fin sm
      · rw [if_neg a, if_neg (show ¬ r < 0 by omega)]
        by_cases b : r = x
        · rw [if_pos b, if_pos b]; exact fin sm
        · rw [if_neg b, if_neg b]; exact fin (sm + 1)
theorem q_slips {σ μ : zG} {x mn sd : Int} : (R_X11_slips σ x mn sd).1 = (R_X12_slips μ x mn sd).1 ∧ ∀ j : Int, j ≠ 0 → j ≠ 27 → (R_X12_slips μ x mn sd).2 0 j = μ 0 j := by
  unfold R_X11_slips R_X12_slips
  have z : ∀ j : Int, j ≠ 0 → zu μ 0 0 0 0 j = μ 0 j := fun j hj => zu_off _ _ _ hj
  by_cases c : 0 ≤ x ∧ x < 125
  · rw [if_pos c, if_pos (show 0 ≤ x ∧ x ≤ 124 by omega)]
    by_cases d : 1 ≤ mn ∧ mn ≤ 1000
    · rw [if_neg (show ¬ mn < 1 by omega), if_pos d.2, if_pos d]
      have h := slips_loop (mn := mn) (sd := sd) c 1010 0 0 (zu σ 97 0 sd) (zu (zu μ 0 0 0) 0 27 sd) (by rw [zu_at, zu_at]) (by omega)
      exact ⟨h.1, fun j j0 j7 => by rw [h.2 j j7, zu_off _ _ _ j7, z j j0]⟩
    · rw [if_neg d]
      by_cases e : mn < 1
      · rw [if_pos e]; exact ⟨rfl, fun j j0 _ => z j j0⟩
      · rw [if_neg e, if_neg (by omega)]; exact ⟨rfl, fun j j0 _ => z j j0⟩
  · rw [if_neg c, if_neg (show ¬ (0 ≤ x ∧ x ≤ 124) by omega)]; exact ⟨rfl, fun j j0 _ => z j j0⟩
