/-! pure: all orders on both sides -/
def OS (nn : Nat) (σ0 μ0 : zG) (c : Nat) (σ μ : zG) : Prop := ((∀ k : Nat, 5 ≤ k → k < 67 → σ k = σ0 k) ∧ σ 92 = σ0 92 ∧ σ 93 = σ0 93 ∧ σ 94 = σ0 94) ∧ σ 91 0 = (nn : Int) ∧ (σ 67 8 = σ0 53 8 ∧ ∀ d : Int, 0 ≤ d → d < 128 → σ 73 d = σ0 59 d ∧ σ 74 d = σ0 60 d ∧ σ 75 d = σ0 61 d) ∧ (∀ j : Nat, j < nn → σ 95 (j : Int) = (pd nn c j : Int)) ∧ μ 2 = μ0 2 ∧ μ 9 = μ0 9 ∧ μ 33 = μ0 33
theorem goBack_LC {σ μ : zG} (hL : LC σ μ) (e8 : σ 67 8 = σ 53 8) (ed : ∀ d : Int, 0 ≤ d → d < 128 → σ 73 d = σ 59 d ∧ σ 74 d = σ 60 d ∧ σ 75 d = σ 61 d) : LCt (F_X4_goBackTo σ) μ := by
  obtain ⟨h1, h2, h3, h4⟩ := hL
  unfold LCt F_X4_goBackTo
  refine ⟨fun a a0 a1 => ⟨?_, (h1 a a0 a1).2⟩, ⟨?_, h2.2⟩, ⟨?_, h3.2⟩, fun d d0 d1 => ⟨⟨?_, ?_, ?_, ?_⟩, (h4 d d0 d1).2⟩⟩
  · rw [zcp_ne _ _ _ _ _ (by decide), zcp_if, if_pos ⟨a0, by omega⟩, zu_ne _ _ _ _ (by decide), show (0 : Int) + (a - 0) = a by omega]
    exact (h1 a a0 a1).1
  · rw [zcp_ne _ _ _ _ _ (by decide), zcp_ne _ _ _ _ _ (by decide), zu_at]
    exact h2.1
  · rw [zcp_ne _ _ _ _ _ (by decide), zcp_ne _ _ _ _ _ (by decide), zu_off _ _ _ (by decide), e8]
    exact h3.1
  · rw [zcp_ne _ _ _ _ _ (by decide), zcp_ne _ _ _ _ _ (by decide), zu_ne _ _ _ _ (by decide), (ed d d0 (by omega)).1]
    exact (h4 d d0 d1).1.1
  · rw [zcp_ne _ _ _ _ _ (by decide), zcp_ne _ _ _ _ _ (by decide), zu_ne _ _ _ _ (by decide), (ed d d0 (by omega)).2.1]
    exact (h4 d d0 d1).1.2.1
  · rw [zcp_ne _ _ _ _ _ (by decide), zcp_ne _ _ _ _ _ (by decide), zu_ne _ _ _ _ (by decide), (ed d d0 (by omega)).2.2]
    exact (h4 d d0 d1).1.2.2.1
  · rw [zcp_if, if_pos ⟨d0, by omega⟩, zcp_ne _ _ _ _ _ (by decide), zu_ne _ _ _ _ (by decide), show (0 : Int) + (d - 0) = d by omega]
    exact (h4 d d0 d1).1.2.2.2
theorem goBack_row (σ : zG) {k : Nat} (h : k ≠ 67 ∧ k ≠ 68 ∧ k ≠ 77) : F_X4_goBackTo σ k = σ k := by
  unfold F_X4_goBackTo
  rw [zcp_row _ _ _ _ h.2.2, zcp_row _ _ _ _ h.2.1, zu_row _ _ _ h.1]
theorem oT_row (σ : zG) {k : Nat} (h : k < 67 ∨ 81 ≤ k ∨ k = 73 ∨ k = 74 ∨ k = 75) : (oT σ).2 k = σ k := by
  unfold oT
  rw [fr_R_X8_tryTurns _ (by simp; omega), goBack_row _ (by omega)]
theorem oT_8 (σ : zG) : (oT σ).2 67 8 = σ 67 8 := by
  unfold oT R_X8_tryTurns
  rw [tryL_m, goBackTo_m]
theorem oB_row (nn c : Int) (μ : zG) {k : Nat} (h : k = 2 ∨ k = 9 ∨ k = 32 ∨ k = 33) : (oB nn c μ).2.2 k = μ k := by
  unfold oB
  rw [fr_S_X12_order_255 _ _ _ _ _ (by simp; omega), fr_R_X12_run _ _ (by simp; omega), oA_row _ _ _ (by omega)]
/-- one order tried on both sides -/
theorem one_try {nn c : Nat} {σ0 μ0 σ μ : zG} (h1 : 1 ≤ nn) (h5 : nn ≤ 5) (hV : VS σ0 μ0) (hB : BK σ0 μ0) (hD : DD σ0) (hJ : LJ σ0) (hT : TLS (nn : Int) σ0 μ0) (hc : pall nn c = true) (h : OS nn σ0 μ0 c σ μ) : (oT σ).1 = (oB (nn : Int) (c : Int) μ).1 ∧ V_X4_owedInAllt (oT σ).2 = R_X12_owedAll (oB (nn : Int) (c : Int) μ).2.2 ∧ R_X12_owedAll (oB (nn : Int) (c : Int) μ).2.2 ≤ 101376 := by
  obtain ⟨⟨hr, r92, r93, r94⟩, e91, ⟨e8, ed⟩, et, m2, m9, m33⟩ := h
  have hQ : QR σ0 (R_X12_run (oA (nn : Int) (c : Int) μ) (-1)) := QR_of hV hB hD hJ (by rw [oA_row _ _ _ (by decide), m2]) (by rw [oA_row _ _ _ (by decide), m9])
  have hL0 : LC σ0 (R_X12_run (oA (nn : Int) (c : Int) μ) (-1)) := hQ.2.2.1.1
  have hL1 : LC σ (R_X12_run (oA (nn : Int) (c : Int) μ) (-1)) := LC_row hL0 (by rw [hr 53 (by decide) (by decide)]) (by rw [hr 53 (by decide) (by decide)]) (hr 54 (by decide) (by decide)) (hr 59 (by decide) (by decide)) (hr 60 (by decide) (by decide)) (hr 61 (by decide) (by decide)) (hr 63 (by decide) (by decide)) rfl rfl rfl rfl rfl rfl rfl rfl
  have hLt := goBack_LC hL1 (by rw [hr 53 (by decide) (by decide)]; exact e8) (fun d d0 d1 => by rw [hr 59 (by decide) (by decide), hr 60 (by decide) (by decide), hr 61 (by decide) (by decide)]; exact ed d d0 d1)
  have hVr : VS (F_X4_goBackTo σ) (R_X12_run (oA (nn : Int) (c : Int) μ) (-1)) := VS_row hQ.1 (fun k k0 k1 => by rw [goBack_row _ (by omega), hr k k0 (by omega)]) rfl
  have hTr : TLS (nn : Int) (F_X4_goBackTo σ) (R_X12_run (oA (nn : Int) (c : Int) μ) (-1)) := TLS_row hT (by rw [goBack_row _ (by decide), r92]) (by rw [goBack_row _ (by decide), r93]) (by rw [goBack_row _ (by decide), r94]) (by rw [fr_R_X12_run _ _ (by decide), oA_row _ _ _ (by decide), m33]) (by rw [fr_R_X12_run _ _ (by decide), oA_row _ _ _ (by decide), m2])
  have s := try_sim (nn := (nn : Int)) (by omega) 10 10 0 0 _ _ hVr hLt hTr (by rw [goBack_row _ (by decide)]; exact e91) (fun j j0 j1 => by
    obtain ⟨i, rfl⟩ := toN2 j0
    rw [goBack_row _ (by decide), fr_R_X12_run _ _ (by decide), et i (by omega), oA_31 h1 h5 c μ i (by omega)]
    have : pd nn c i < nn := Nat.mod_lt _ h1
    exact ⟨rfl, by omega, by omega⟩) (by decide) (by omega) (by omega)
  exact ⟨s.1, s.2.2, (owed_bd s.2.1).1⟩
theorem s387 (nn : Int) : ∀ (n : Nat) (q : Int) (μ : zG), 0 ≤ q → (nn - q).toNat < n → ∀ j : Int, 0 ≤ j → (S_X12_order_387 nn n q μ).2 32 j = if q ≤ j ∧ j < nn then μ 31 j else μ 32 j
  | 0, q, μ, _, h, j, _ => absurd h (Nat.not_lt_zero _)
  | n + 1, q, μ, q0, h, j, j0 => by
    rw [S_X12_order_387]
    by_cases c : nn ≤ q
    · rw [if_pos c, if_neg (by omega)]
    · rw [if_neg c, s387 nn n (q + 1) _ (by omega) (by omega) j j0, zu_ne _ _ _ _ (by decide), zu_if]
      by_cases e : j = q
      · subst e
        rw [if_neg (by omega), if_pos rfl, if_pos ⟨Int.le_refl _, by omega⟩]
      · rw [if_neg e]
        by_cases e2 : q ≤ j ∧ j < nn
        · rw [if_pos e2, if_pos (by omega)]
        · rw [if_neg e2, if_neg (by omega)]
theorem pch_cons {nn c d : Nat} {l : List Nat} (h : pch nn c (d :: l) = true) : pall nn c = true ∧ (R_X8_nextTurns (pst nn c)).1 = 1 ∧ psame nn d (R_X8_nextTurns (pst nn c)).2 = true ∧ c < d ∧ pgap nn (c + 1) (d - (c + 1)) = true ∧ pch nn d l = true := by
  rw [pch] at h
  simp only [Bool.and_eq_true, decide_eq_true_eq] at h
  exact ⟨h.1.1.1.1.1, h.1.1.1.1.2, h.1.1.1.2, h.1.1.2, h.1.2, h.2⟩
theorem pch_nil {nn c : Nat} (h : pch nn c [] = true) : pall nn c = true ∧ (R_X8_nextTurns (pst nn c)).1 = 0 ∧ c < nn ^ nn ∧ pgap nn (c + 1) (nn ^ nn - (c + 1)) = true := by
  rw [pch] at h
  simp only [Bool.and_eq_true, decide_eq_true_eq] at h
  exact ⟨h.1.1.1, h.1.1.2, h.1.2, h.2⟩
theorem pch_lt {nn : Nat} : ∀ {l : List Nat} {c : Nat}, pch nn c l = true → c < nn ^ nn
  | [], c, h => (pch_nil h).2.2.1
  | d :: l, c, h => by
    have a := pch_cons h
    have b := pch_lt a.2.2.2.2.2
    omega
/-- what stands behind one order on both sides: the next order and the counters between -/
theorem step_OS {nn c d : Nat} {σ0 μ0 σ μ σ1 μ1 μ2 : zG} (h1 : 1 ≤ nn) (h : OS nn σ0 μ0 c σ μ) (hs : ∀ k : Nat, k < 67 ∨ (81 ≤ k ∧ k ≠ 96) ∨ k = 73 ∨ k = 74 ∨ k = 75 → σ1 k = σ k) (h8 : σ1 67 8 = σ 67 8) (hm : ∀ k : Nat, k = 2 ∨ k = 9 ∨ k = 33 → μ1 k = μ k) (hm2 : ∀ r : Nat, r ≠ 31 → μ2 r = μ1 r) (hn : psame nn d (R_X8_nextTurns (pst nn c)).2 = true) : OS nn σ0 μ0 d (R_X8_nextTurns σ1).2 μ2 := by
  obtain ⟨⟨hr, r92, r93, r94⟩, e91, ⟨e8, ed⟩, et, m2, m9, m33⟩ := h
  have fr : ∀ k : Nat, k ≠ 95 → (R_X8_nextTurns σ1).2 k = σ1 k := fun k hk => fr_R_X8_nextTurns _ (by simp; exact hk)
  have nt := nt_pd (σ := σ1) (c := c) h1 (by rw [hs 91 (by decide)]; exact e91) (fun j hj => by rw [hs 95 (by decide)]; exact et j hj)
  refine ⟨⟨fun k k0 k1 => by rw [fr k (by omega), hs k (by omega), hr k k0 k1], by rw [fr 92 (by decide), hs 92 (by decide), r92], by rw [fr 93 (by decide), hs 93 (by decide), r93], by rw [fr 94 (by decide), hs 94 (by decide), r94]⟩, by rw [fr 91 (by decide), hs 91 (by decide), e91], ⟨by rw [fr 67 (by decide), h8, e8], fun d d0 d1 => by rw [fr 73 (by decide), hs 73 (by decide), fr 74 (by decide), hs 74 (by decide), fr 75 (by decide), hs 75 (by decide)]; exact ed d d0 d1⟩, fun j hj => ?_, by rw [hm2 2 (by decide), hm 2 (by decide), m2], by rw [hm2 9 (by decide), hm 9 (by decide), m9], by rw [hm2 33 (by decide), hm 33 (by decide), m33]⟩
  rw [nt.2 j hj, psame_all hn j hj]
def OR (nn : Nat) (r m : Int × zG) : Prop := r.1 = m.1 ∧ r.2 91 5 = (nn : Int) ∧ m.2 0 60 = (nn : Int) ∧ ∀ j : Nat, j < nn → r.2 96 (j : Int) = m.2 32 (j : Int)
theorem order_end {nn : Nat} {σ μ : zG} (h : σ 91 0 = (nn : Int)) (hb' : ∀ j : Nat, j < nn → σ 96 (j : Int) = μ 32 (j : Int)) {al be bw le fw q : Int} {n n' : Nat} (e : le = be) : OR nn (L_X8_settle_41 (n + 1) le fw 0 q σ) (L_X12_order_171 (nn : Int) al (n' + 1) be bw al μ) := by
  rw [L_X8_settle_41, L_X12_order_171, if_pos (Int.le_refl _)]
  have k : ∀ x : Int × zG, (if 120 ≤ q then (le, zu σ 91 5 (σ 91 0)) else (if (0 : Int) = 0 then (le, zu σ 91 5 (σ 91 0)) else x)) = (le, zu σ 91 5 (σ 91 0)) := fun x => by
    split
    · rfl
    · rw [if_pos rfl]
  rw [k]
  refine ⟨e, ?_, ?_, fun j hj => ?_⟩
  · show zu σ 91 5 (σ 91 0) 91 5 = _
    rw [zu_at]; exact h
  · exact zu_at μ 0 60 (nn : Int)
  · show zu σ 91 5 (σ 91 0) 96 (j : Int) = zu μ 0 60 (nn : Int) 32 (j : Int)
    rw [zu_ne _ _ _ _ (by decide), zu_ne _ _ _ _ (by decide)]
    exact hb' j hj
theorem order_sim {nn : Nat} {σ0 μ0 : zG} (h1 : 1 ≤ nn) (h5 : nn ≤ 5) (hV : VS σ0 μ0) (hB : BK σ0 μ0) (hD : DD σ0) (hJ : LJ σ0) (hT : TLS (nn : Int) σ0 μ0) : ∀ (l : List Nat) (c n n' : Nat) (le fw be bw q : Int) (σ μ : zG), pch nn c l = true → OS nn σ0 μ0 c σ μ → q + (l.length : Int) < 120 → l.length + 2 ≤ n → nn ^ nn - c < n' → (le = be ∧ fw = bw ∧ ∀ j : Nat, j < nn → σ 96 (j : Int) = μ 32 (j : Int)) ∨ (101376 < le ∧ 101376 < be) → OR nn (L_X8_settle_41 n le fw 1 q σ) (L_X12_order_171 (nn : Int) ((nn ^ nn : Nat) : Int) n' be bw (c : Int) μ)
  | l, c, 0, n', le, fw, be, bw, q, σ, μ, _, _, _, h, _, _ => absurd h (by omega)
  | l, c, n + 1, 0, le, fw, be, bw, q, σ, μ, _, _, _, _, h, _ => absurd h (Nat.not_lt_zero _)
  | l, c, n + 1, n' + 1, le, fw, be, bw, q, σ, μ, hp, hO, hq, hn, hn', hx => by
    have hc : pall nn c = true := by
      cases l with
      | nil => exact (pch_nil hp).1
      | cons d l => exact (pch_cons hp).1
    have hlt := pch_lt hp
    have t := one_try h1 h5 hV hB hD hJ hT hc hO
    rw [c41 n le fw q σ (by omega), m171 n' be bw (by omega) ((oA_st h1 h5 c μ).mpr hc), t.2.1, t.1]
    have e91 := hO.2.1
    have t3 := t.2.2
    generalize hown : R_X12_owedAll (oB (nn : Int) (c : Int) μ).2.2 = ow at *
    generalize hwrn : (oB (nn : Int) (c : Int) μ).1 = wr at *
    -- the two states behind the try, and what is kept of them
    have fin : ∀ (σ1 μ1 : zG) (le2 fw2 be2 bw2 : Int), (∀ k : Nat, k < 67 ∨ (81 ≤ k ∧ k ≠ 96) ∨ k = 73 ∨ k = 74 ∨ k = 75 → σ1 k = σ k) → σ1 67 8 = σ 67 8 → (∀ k : Nat, k = 2 ∨ k = 9 ∨ k = 33 → μ1 k = μ k) → le2 = be2 → fw2 = bw2 → (∀ j : Nat, j < nn → σ1 96 (j : Int) = μ1 32 (j : Int)) → OR nn (L_X8_settle_41 n le2 fw2 (R_X8_nextTurns σ1).1 (q + 1) (R_X8_nextTurns σ1).2) (L_X12_order_171 (nn : Int) ((nn ^ nn : Nat) : Int) n' be2 bw2 ((c : Int) + 1) μ1) := by
      intro σ1 μ1 le2 fw2 be2 bw2 hs h8 hm e1 e2 e3
      have nt := nt_pd (σ := σ1) (c := c) h1 (by rw [hs 91 (by decide)]; exact e91) (fun j hj => by rw [hs 95 (by decide)]; exact hO.2.2.2.1 j hj)
      have fr : ∀ k : Nat, k ≠ 95 → (R_X8_nextTurns σ1).2 k = σ1 k := fun k hk => fr_R_X8_nextTurns _ (by simp; exact hk)
      cases l with
      | nil =>
        have p := pch_nil hp
        have L0 : ([] : List Nat).length = 0 := rfl
        obtain ⟨ν, e, hν⟩ := skip171 h1 h5 ((nn ^ nn : Nat) : Int) be2 bw2 (nn ^ nn - (c + 1)) (n' - (nn ^ nn - (c + 1))) (c + 1) μ1 (fun x x0 x1 => pgap_all p.2.2.2 x x0 x1) (by omega)
        rw [show n' - (nn ^ nn - (c + 1)) + (nn ^ nn - (c + 1)) = n' by omega, show c + 1 + (nn ^ nn - (c + 1)) = nn ^ nn by omega] at e
        rw [show (c : Int) + 1 = ((c + 1 : Nat) : Int) by omega, e, nt.1, p.2.1]
        obtain ⟨a, rfl⟩ : ∃ a, n = a + 1 := ⟨n - 1, by omega⟩
        obtain ⟨b, hb2⟩ : ∃ b, n' - (nn ^ nn - (c + 1)) = b + 1 := ⟨n' - (nn ^ nn - (c + 1)) - 1, by omega⟩
        rw [hb2]
        exact order_end (by rw [fr 91 (by decide), hs 91 (by decide)]; exact e91) (fun j hj => by rw [fr 96 (by decide), hν 32 (by decide)]; exact e3 j hj) e1
      | cons d l =>
        have p := pch_cons hp
        have hd := pch_lt p.2.2.2.2.2
        have L0 : (d :: l).length = l.length + 1 := rfl
        obtain ⟨ν, e, hν⟩ := skip171 h1 h5 ((nn ^ nn : Nat) : Int) be2 bw2 (d - (c + 1)) (n' - (d - (c + 1))) (c + 1) μ1 (fun x x0 x1 => pgap_all p.2.2.2.2.1 x x0 x1) (by omega)
        rw [show n' - (d - (c + 1)) + (d - (c + 1)) = n' by omega, show c + 1 + (d - (c + 1)) = d by omega] at e
        rw [show (c : Int) + 1 = ((c + 1 : Nat) : Int) by omega, e, nt.1, p.2.1]
        exact order_sim h1 h5 hV hB hD hJ hT l d n _ le2 fw2 be2 bw2 (q + 1) _ _ p.2.2.2.2.2 (step_OS h1 hO hs h8 hm hν p.2.2.1) (by omega) (by omega) (by omega) (Or.inl ⟨e1, e2, fun j hj => by rw [fr 96 (by decide), hν 32 (by decide)]; exact e3 j hj⟩)
    have row1 : ∀ k : Nat, k < 67 ∨ (81 ≤ k ∧ k ≠ 96) ∨ k = 73 ∨ k = 74 ∨ k = 75 → (oT σ).2 k = σ k := fun k hk => oT_row σ (by omega)
    have take : OR nn (L_X8_settle_41 n ow wr (R_X8_nextTurns (zcp (oT σ).2 95 96 0 0 (σ 91 0))).1 (q + 1) (R_X8_nextTurns (zcp (oT σ).2 95 96 0 0 (σ 91 0))).2) (L_X12_order_171 (nn : Int) ((nn ^ nn : Nat) : Int) n' ow wr ((c : Int) + 1) (S_X12_order_387 (nn : Int) 10 0 (oB (nn : Int) (c : Int) μ).2.2).2) := by
      refine fin _ _ ow wr ow wr (fun k hk => ?_) ?_ (fun k hk => ?_) rfl rfl (fun j hj => ?_)
      · rw [zcp_row _ _ _ _ (by omega)]
        exact row1 k hk
      · rw [zcp_ne _ _ _ _ _ (by decide)]
        exact oT_8 σ
      · rw [fr_S_X12_order_387 _ _ _ _ (by simp; omega)]
        exact oB_row _ _ _ (by omega)
      · rw [zcp_if, if_pos ⟨by omega, by omega⟩, s387 _ _ _ _ (by decide) (by omega) _ (by omega), if_pos ⟨by omega, by omega⟩, oT_row σ (by decide), show (0 : Int) + ((j : Int) - 0) = (j : Int) by omega, hO.2.2.2.1 j hj]
        unfold oB
        rw [fr_S_X12_order_255 _ _ _ _ _ (by decide), fr_R_X12_run _ _ (by decide), oA_31 h1 h5 c μ j hj]
    rcases hx with ⟨rfl, rfl, e3⟩ | ⟨x1, x2⟩
    · by_cases cc : ow < le ∨ ow = le ∧ wr < fw
      · rw [if_pos cc, if_pos cc]
        exact take
      · rw [if_neg cc, if_neg cc]
        exact fin _ _ le fw le fw row1 (oT_8 σ) (fun k hk => oB_row _ _ _ (by omega)) rfl rfl (fun j hj => by rw [oT_row σ (by decide), oB_row _ _ _ (by decide)]; exact e3 j hj)
    · rw [if_pos (Or.inl (by omega)), if_pos (Or.inl (by omega))]
      exact take
