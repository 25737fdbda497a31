/-! pure: the rest of the ledger, a whole run -/
theorem owes_r0 (μ : zG) (who to f kn li j : Int) (h : j ≠ 43) : F_X12_owes μ who to f kn li 0 j = μ 0 j := by
  unfold F_X12_owes
  split
  · rfl
  · simp [zu, h]
theorem does146_r0 (i to f nn ea : Int) : ∀ (n : Nat) (q : Int) (μ : zG) (j : Int), j ≠ 43 → (L_X12_does_146 i to f nn ea n q μ).2 0 j = μ 0 j
  | 0, q, μ, j, h => rfl
  | n + 1, q, μ, j, h => by
    rw [L_X12_does_146]
    split
    · rfl
    · rw [does146_r0 i to f nn ea n _ _ j h, owes_r0 _ _ _ _ _ _ _ h]
theorem tells_r0 (μ : zG) (who to f li j : Int) (h : j ≠ 45) : R_X12_tells μ who to f li 0 j = μ 0 j := by
  unfold R_X12_tells
  rw [learns_m, zu_off _ _ _ h, zu_ne _ _ _ _ (by decide), fr_S_X12_tells_11 (h := by decide)]
theorem does_r0 (μ : zG) (i j : Int) (h : j ≠ 43 ∧ j ≠ 45) (hk : j = 44 → μ 2 (173 + (5 * i)) ≠ 0) : (R_X12_does μ i).2 0 j = μ 0 j := by
  unfold R_X12_does
  by_cases k0 : μ 2 (173 + (5 * i)) = 0
  · simp only [if_pos k0]
    exact zu_off _ _ _ (fun e => hk e k0)
  · simp only [if_neg k0]
    generalize R_X12_whyOf _ _ _ _ _ _ = w
    by_cases kw : w ≤ 0
    · simp only [if_pos kw]
      by_cases k1 : μ 2 (173 + (5 * i)) = 1
      · simp only [if_pos k1]
        rw [does146_r0 _ _ _ _ _ _ _ _ _ h.1, owes_r0 _ _ _ _ _ _ _ h.1]
      · simp only [if_neg k1]
        by_cases k2 : μ 2 (173 + (5 * i)) = 2
        · simp only [if_pos k2]
          rw [owes_r0 _ _ _ _ _ _ _ h.1]
        · simp only [if_neg k2]
          by_cases k3 : μ 2 (173 + (5 * i)) = 3
          · simp only [if_pos k3]
            rw [tells_r0 _ _ _ _ _ _ h.2]
          · simp only [if_neg k3]
            rw [learns_m, zu_off _ _ _ h.2, zu_ne _ _ _ _ (by decide), zu_ne _ _ _ _ (by decide)]
    · simp only [if_neg kw]
/-- the days of the lines -/
def DYl (σ : zG) (i : Int) : Prop := (σ 28 i = 0 → σ 34 i = σ 29 i) ∧ (σ 28 i ≠ 0 → σ 34 i = if i = 0 then 0 else σ 34 (i - 1))
theorem LX_judge {σ μ : zG} (hV : VS σ μ) (hL : LC σ μ) {i : Int} (hi : 0 ≤ i) (hN : LN σ μ i) (hDY : DYl σ i) (h128 : μ 0 43 + dl (μ 2) i ≤ 128) (hX : LXd i σ μ) (hP : LXp σ μ) (hday : μ 0 44 = if i = 0 then 0 else σ 34 (i - 1)) : LXd (i + 1) (F_X4_judgeLine σ i) (R_X12_does μ i).2 ∧ LXp (F_X4_judgeLine σ i) (R_X12_does μ i).2 ∧ (R_X12_does μ i).2 0 44 = σ 34 i := by
  obtain ⟨⟨n1, n2, n3, n4, n5, n6⟩, nk, nv, nl, ns⟩ := id hN
  obtain ⟨hp, hF, hSR, hset, hfa, hkn⟩ := id hV
  have hd0 := dl_0 hN
  have hX1 : LXd (i + 1) σ μ := LXd_mono hX (by omega)
  by_cases k0 : μ 2 (173 + (5 * i)) = 0
  · unfold F_X4_judgeLine R_X12_does
    rw [n1]
    simp only [if_pos k0]
    have ed := hDY.1 (by rw [n1]; exact k0)
    refine ⟨LXd_row hX1 rfl rfl rfl rfl rfl ?_ ?_ ?_ ?_ ?_ ?_ ?_ ?_, LXp_row hP rfl rfl rfl ?_ ?_ ?_, by rw [zu_at, ed, n2]⟩
    all_goals first | exact zu_off _ _ _ (by decide) | exact zu_row _ _ _ (by decide)
  · have hd : μ 0 44 = σ 34 i := by rw [hday, hDY.2 (by rw [n1]; exact k0)]
    refine (fun {a b c : Prop} (x : (a ∧ b) ∧ c) => (⟨x.1.1, x.1.2, x.2⟩ : a ∧ b ∧ c)) ⟨?_, by rw [does_r0 μ i 44 (by decide) (fun _ => k0)]; exact hd⟩
    obtain ⟨vw, va, vn, vf⟩ := nv k0
    unfold F_X4_judgeLine R_X12_does
    rw [n1, n2, n3, n4, n5]
    simp only [if_neg k0]
    generalize hwh : μ 2 (173 + (5 * i)) = wh at *
    generalize hwo : μ 2 ((173 + (5 * i)) + 1) = who at *
    generalize hto : μ 2 ((173 + (5 * i)) + 2) = to at *
    generalize hfz : μ 2 ((173 + (5 * i)) + 3) = f at *
    generalize hmo : μ 2 ((173 + (5 * i)) + 4) = mo at *
    obtain ⟨e9, e10, e11, r9, r10, r11⟩ := hfa f vf.1 vf.2
    have rw8 := bit_r (c := who) ⟨vw.1, by omega⟩
    have hP1 : ∀ (τ ν : zG), (∀ c : Nat, c ∉ [53, 59, 60, 61, 62, 63, 64, 65, 66] → τ c = σ c) → (∀ c : Nat, c ∉ [0, 16, 17, 18, 19, 20, 21, 22, 23, 24, 25] → ν c = μ c) → LXp τ ν := fun τ ν h1 h2 => LXp_row hP (h1 55 (by decide)) (h1 56 (by decide)) (h1 57 (by decide)) (h2 13 (by decide)) (h2 14 (by decide)) (h2 12 (by decide))
    by_cases k1 : wh = 1
    · obtain ⟨lm, lh, lp, ld⟩ := nl k1
      have lp0 := pcn_b lm
      have hy := why_eq hV hL (wh := wh) (mo := mo) (f := f) (ds := bor mo (bshl 1 who)) vw va (fun j j0 j1 => by
        rw [hb_bor ⟨lm.1, by omega⟩ rw8 ⟨j0, by omega⟩, hb_bit ⟨vw.1, by omega⟩ ⟨j0, by omega⟩]
        constructor
        · rintro (x | x)
          · exact Or.inr ⟨k1, x⟩
          · exact Or.inl x
        · rintro (x | ⟨_, x⟩)
          · exact Or.inr x
          · exact Or.inl x) (fun _ => lh)
      simp only [if_pos k1]
      rw [hy]
      have hr := mwhy_r μ wh who to f mo
      by_cases w0 : R_X12_whyOf μ wh who to f mo = 0
      · rw [w0]
        simp only [if_pos, Int.le_refl, if_true]
        rw [many_pc]
        have ed : dl (μ 2) i = 1 + pcn mo := by unfold dl; rw [hwh, hmo, if_pos k1]
        have es : R_X4_lie σ i = L_X4_lie_55 i (pcn mo) (Int.tdiv (w32 ((w32 ((μ 2 (8 + (3 * f))) + (1 + pcn mo))) - 1)) (1 + pcn mo)) 70 0 (F_X4_owe σ who (Int.tdiv (w32 ((w32 ((μ 2 (8 + (3 * f))) + (1 + pcn mo))) - 1)) (1 + pcn mo)) i) := by
          unfold R_X4_lie
          rw [n5, n4, n2, bcnt_eq lm, e9]
          unfold V_cutUpW
          rw [w32_id (z := pcn mo + 1) ⟨by omega, by omega⟩, if_neg (by omega), Int.add_comm (pcn mo) 1]
        rw [es]
        have ev : Int.tdiv (w32 ((w32 ((μ 2 (8 + (3 * f))) + (1 + pcn mo))) - 1)) (1 + pcn mo) = (μ 2 (8 + (3 * f)) + pcn mo) / (1 + pcn mo) := by
          rw [w32_id (z := (μ 2 (8 + (3 * f))) + (1 + pcn mo)) ⟨by omega, by omega⟩, w32_id (z := (μ 2 (8 + (3 * f))) + (1 + pcn mo) - 1) ⟨by omega, by omega⟩, tdiv_pos (by omega)]
          congr 1
          omega
        have ea : 0 ≤ Int.tdiv (w32 ((w32 ((μ 2 (8 + (3 * f))) + (1 + pcn mo))) - 1)) (1 + pcn mo) ∧ Int.tdiv (w32 ((w32 ((μ 2 (8 + (3 * f))) + (1 + pcn mo))) - 1)) (1 + pcn mo) ≤ 198 := by
          rw [ev]
          refine ⟨Int.ediv_nonneg (by omega) (by omega), ?_⟩
          have := Int.ediv_le_self (a := μ 2 (8 + (3 * f)) + pcn mo) (1 + pcn mo) (by omega)
          omega
        generalize Int.tdiv (w32 ((w32 ((μ 2 (8 + (3 * f))) + (1 + pcn mo))) - 1)) (1 + pcn mo) = ea' at *
        have hL2 := LC_owe hL (li := i) (much := ea') vw va vf ea (fun _ => by omega) n3 n4
        have hX2 := LX_owe (who := who) (to := to) (f := f) (much := ea') hL.2.2.1.1 (fun _ => by omega) hi hd hX1
        have cr : ∀ c : Nat, c ∉ [53, 59, 60, 61, 62, 63, 64, 65, 66] → F_X4_owe σ who ea' i c = σ c := fun c hc => fr_F_X4_owe _ _ _ _ hc
        have mr : ∀ c : Nat, c ∉ [0, 16, 17, 18, 19, 20, 21, 22, 23, 24, 25] → F_X12_owes μ who to f ea' i c = μ c := fun c hc => fr_F_X12_owes _ _ _ _ _ _ hc
        have mm := mowes_many μ who to f ea' i
        have md := mowes_day μ who to f ea' i
        refine ⟨?_, hP1 _ _ (fun c hc => by rw [fr_L_X4_lie_55 (h := hc)]; exact cr c hc) (fun c hc => by rw [fr_L_X12_does_146 (h := hc)]; exact mr c hc)⟩
        have h9 := LX_lieL ea hi (1 + pcn mo) 70 10 0 _ _ hL2 hX2 (by rw [md, cr 34 (by decide)]; exact hd) (by rw [mr 2 (by decide)]; exact va) (by rw [mr 2 (by decide)]; exact vf) (by rw [cr 30 (by decide)]; exact n3) (by rw [cr 31 (by decide)]; exact n4) (by rw [cr 33 (by decide), mr 9 (by decide)]; exact n6) (by rw [mr 9 (by decide), mr 2 (by decide)]; exact fun k k0 k1 => ld k k0 (by omega)) (by omega) (by decide) (by rw [mm]; split <;> omega) (by omega) (by omega)
        rw [show (1 + pcn mo) - 1 = pcn mo by omega] at h9
        exact h9
      · have w1 : ¬ R_X12_whyOf μ wh who to f mo ≤ 0 := by omega
        simp only [if_neg w0, if_neg w1]
        exact ⟨hX1, hP⟩
    · have hy := why_eq hV hL (wh := wh) (mo := mo) (f := f) (ds := bor 0 (bshl 1 who)) vw va (fun j j0 j1 => by
        rw [hb_bor (by decide) rw8 ⟨j0, by omega⟩, hb_bit ⟨vw.1, by omega⟩ ⟨j0, by omega⟩]
        constructor
        · rintro (x | x)
          · exact absurd x (hb_0 ⟨j0, by omega⟩)
          · exact Or.inl x
        · rintro (x | ⟨x, _⟩)
          · exact Or.inr x
          · exact absurd x k1) (fun e => absurd e k1)
      simp only [if_neg k1]
      rw [hy]
      have hr := mwhy_r μ wh who to f mo
      by_cases w0 : R_X12_whyOf μ wh who to f mo = 0
      · rw [w0]
        simp only [if_pos, Int.le_refl, if_true]
        by_cases k2 : wh = 2
        · simp only [if_pos k2]
          have ed : dl (μ 2) i = 1 := by unfold dl; rw [hwh, if_neg k1, if_pos k2]
          have hx : 0 ≤ μ 2 (8 + (3 * f)) ∧ μ 2 (8 + (3 * f)) ≤ 792 := by omega
          have e6 : σ 15 3 = μ 2 6 := hset.2.2.2.1
          have r6 := hset.2.2.2.2.2.2.2.2.1
          have ev : V_cutUpW (w32 ((σ 9 f) * (σ 15 3))) 10 = upM (μ 2 (8 + (3 * f))) (μ 2 6) := by
            rw [e9, e6, cut_val hx (by omega), upM_val hx (by omega)]
          rw [ev]
          exact ⟨LX_owe hL.2.2.1.1 (fun _ => by omega) hi hd hX1, hP1 _ _ (fun c hc => fr_F_X4_owe _ _ _ _ hc) (fun c hc => fr_F_X12_owes _ _ _ _ _ _ hc)⟩
        · simp only [if_neg k2]
          by_cases k3 : wh = 3
          · simp only [if_pos k3]
            exact LX_tell hV hL vw va vf hi hd hX1 hP
          · simp only [if_neg k3]
            have pw := hP.1 who vw.1 (by omega)
            have pt := hP.1 to va.1 (by omega)
            rw [pw.2, pt.2]
            generalize w32 ((μ 14 who) + mo) = y1 at *
            generalize w32 ((μ 14 to) - mo) = y2 at *
            have hL2 : LC (zu (zu σ 56 who y1) 56 to y2) (zu (zu μ 14 who y1) 14 to y2) := by
              refine LC_row hL ?_ ?_ ?_ ?_ ?_ ?_ ?_ ?_ ?_ ?_ ?_ ?_ ?_ ?_ ?_
              all_goals first | exact (zu_ne _ _ _ _ (by decide)).trans (zu_ne _ _ _ _ (by decide)) | exact (zu_row _ _ _ (by decide)).trans (zu_row _ _ _ (by decide))
            have hV3 : VS (zu (zu σ 56 who y1) 56 to y2) (zu (zu μ 14 who y1) 14 to y2) := VS_row hV (fun c c5 c16 => by rw [zu_row _ _ _ (by omega), zu_row _ _ _ (by omega)]) (by rw [zu_row _ _ _ (by decide), zu_row _ _ _ (by decide)])
            have hX2 : LXd (i + 1) (zu (zu σ 56 who y1) 56 to y2) (zu (zu μ 14 who y1) 14 to y2) := by
              refine LXd_row hX1 ?_ ?_ ?_ ?_ ?_ ?_ ?_ ?_ ?_ ?_ ?_ ?_ ?_
              all_goals first | exact (zu_ne _ _ _ _ (by decide)).trans (zu_ne _ _ _ _ (by decide)) | exact (zu_row _ _ _ (by decide)).trans (zu_row _ _ _ (by decide))
            have hP2 : LXp (zu (zu σ 56 who y1) 56 to y2) (zu (zu μ 14 who y1) 14 to y2) := by
              unfold LXp
              rw [zu_row _ _ _ (show (55 : Nat) ≠ 56 by decide), zu_row _ _ _ (show (55 : Nat) ≠ 56 by decide), zu_row _ _ _ (show (57 : Nat) ≠ 56 by decide), zu_row _ _ _ (show (57 : Nat) ≠ 56 by decide), zu_row _ _ _ (show (13 : Nat) ≠ 14 by decide), zu_row _ _ _ (show (13 : Nat) ≠ 14 by decide), zu_row _ _ _ (show (12 : Nat) ≠ 14 by decide), zu_row _ _ _ (show (12 : Nat) ≠ 14 by decide)]
              refine ⟨fun a a0 a8 => ⟨(hP.1 a a0 a8).1, ?_⟩, hP.2⟩
              rw [zu_if, zu_if, zu_if, zu_if, (hP.1 a a0 a8).2]
            have e45 : μ 0 45 = (zu (zu μ 14 who y1) 14 to y2) 0 45 := by rw [zu_ne _ _ _ _ (by decide), zu_ne _ _ _ _ (by decide)]
            have e2 : (zu (zu μ 14 who y1) 14 to y2) 2 = μ 2 := by rw [zu_row _ _ _ (by decide), zu_row _ _ _ (by decide)]
            rw [e45]
            exact LX_learn hV3 hL2 (by rw [e2]; exact va) (by rw [e2]; exact vf) hX2 hP2
      · have w1 : ¬ R_X12_whyOf μ wh who to f mo ≤ 0 := by omega
        simp only [if_neg w0, if_neg w1]
        exact ⟨hX1, hP⟩
/-- why the lines are wrong, and how many are -/
def wct (t : Int → Int) : Nat → Int
  | 0 => 0
  | n + 1 => wct t n + (if 0 < t n then 1 else 0)
theorem wct_r (t : Int → Int) : ∀ n : Nat, 0 ≤ wct t n ∧ wct t n ≤ n
  | 0 => ⟨Int.le_refl _, Int.le_refl _⟩
  | n + 1 => by
    have := wct_r t n
    rw [wct]
    split <;> omega
theorem wct_put (t : Int → Int) (q v : Int) : ∀ n : Nat, (n : Int) ≤ q → wct (fun j => if j = q then v else t j) n = wct t n
  | 0, _ => rfl
  | n + 1, h => by
    rw [wct, wct, wct_put t q v n (by omega)]
    simp only [if_neg (show ¬ ((n : Int) = q) by omega)]
def LXw (q : Int) (σ μ : zG) : Prop := (∀ i : Int, 0 ≤ i → i < q → σ 58 i = μ 15 i ∧ 0 ≤ μ 15 i ∧ μ 15 i ≤ 2) ∧ μ 0 46 = wct (μ 15) q.toNat
theorem does_1r (μ : zG) (i : Int) : 0 ≤ (R_X12_does μ i).1 ∧ (R_X12_does μ i).1 ≤ 2 := by
  have h := mwhy_r μ (μ 2 (173 + (5 * i))) (μ 2 ((173 + (5 * i)) + 1)) (μ 2 ((173 + (5 * i)) + 2)) (μ 2 ((173 + (5 * i)) + 3)) (μ 2 ((173 + (5 * i)) + 4))
  unfold R_X12_does
  by_cases k0 : μ 2 (173 + (5 * i)) = 0
  · simp only [if_pos k0]; decide
  · simp only [if_neg k0]
    generalize R_X12_whyOf _ _ _ _ _ _ = w at h ⊢
    by_cases kw : w ≤ 0
    · simp only [if_pos kw]
      by_cases k1 : μ 2 (173 + (5 * i)) = 1
      · simp only [if_pos k1]
        rw [does146_1]; decide
      · simp only [if_neg k1]
        by_cases k2 : μ 2 (173 + (5 * i)) = 2
        · simp only [if_pos k2]; decide
        · simp only [if_neg k2]
          by_cases k3 : μ 2 (173 + (5 * i)) = 3
          · simp only [if_pos k3]; decide
          · simp only [if_neg k3]; decide
    · simp only [if_neg kw]; omega
/-- all of it: a run without a line left out -/
def LR (q : Int) (σ μ : zG) : Prop := LC σ μ ∧ LXd q σ μ ∧ LXp σ μ ∧ LXw q σ μ ∧ μ 0 44 = if q = 0 then 0 else σ 34 (q - 1)
def DY (σ : zG) : Prop := ∀ i : Int, 0 ≤ i → i < σ 27 0 → DYl σ i
theorem LR_loop {σ0 μ0 : zG} (hV : VS σ0 μ0) (hB : BK σ0 μ0) (hY : DY σ0) : ∀ (n n' : Nat) (q : Int) (σ μ : zG), LR q σ μ → (∀ c : Nat, c < 53 → σ c = σ0 c) → μ 2 = μ0 2 → μ 9 = μ0 9 → μ 0 43 ≤ dsum (μ0 2) q.toNat → 0 ≤ q → q ≤ μ0 2 172 → (μ0 2 172 - q).toNat < n → (μ0 2 172 - q).toNat < n' → LR (μ0 2 172) (L_X4_judge_6 (-1) n q σ) (L_X12_run_6 (-1) n' q μ)
  | 0, n', q, σ, μ, _, _, _, _, _, _, _, hm, _ => absurd hm (Nat.not_lt_zero _)
  | n + 1, 0, q, σ, μ, _, _, _, _, _, _, _, _, hm => absurd hm (Nat.not_lt_zero _)
  | n + 1, n' + 1, q, σ, μ, hL, es, e2, e9, hd, h0, hq, hm, hm' => by
    obtain ⟨hb1, hb2, hb3⟩ := id hB
    rw [L_X4_judge_6, L_X12_run_6, es 27 (by decide), hb1.1, e2]
    split
    · next c => rw [show μ0 2 172 = q by omega]; exact hL
    · next c =>
      have eq1 : ((q.toNat : Nat) : Int) = q := by omega
      have hN0 := hb2 q h0 (by omega)
      have eqs : (q + 1).toNat = q.toNat + 1 := by omega
      have es1 : dsum (μ0 2) (q + 1).toNat = dsum (μ0 2) q.toNat + dl (μ0 2) q := by rw [eqs, dsum, eq1]
      have hmo := dsum_mono hB (μ0 2 172).toNat (q + 1).toNat (by omega) (by omega)
      have hd0 := dl_0 hN0
      rw [if_neg (by omega), if_neg (by omega)]
      have hV2 : VS σ μ := VS_row hV (fun c c5 c16 => es c (by omega)) e2
      have hN : LN σ μ q := by
        unfold LN at *
        rw [es 28 (by decide), es 29 (by decide), es 30 (by decide), es 31 (by decide), es 32 (by decide), es 33 (by decide), e2, e9]
        exact hN0
      have hYq : DYl σ q := by
        have h := hY q h0 (by rw [hb1.1]; omega)
        unfold DYl at *
        rw [es 28 (by decide), es 29 (by decide), es 34 (by decide)]
        exact h
      obtain ⟨hL1, hL2, hL3, hL4, hL5⟩ := hL
      obtain ⟨j1, j2, j3⟩ := LC_judge hV2 hL1 hN (by rw [e2]; omega)
      obtain ⟨x1, x2, x3⟩ := LX_judge hV2 hL1 h0 hN hYq (by rw [e2]; omega) hL2 hL3 hL5
      have d1 := does_1r μ q
      have d46 := does_r0 μ q 46 (by decide) (fun h => absurd h (by decide))
      have d15 : (R_X12_does μ q).2 15 = μ 15 := fr_R_X12_does _ _ (by decide)
      have c58 : F_X4_judgeLine σ q 58 = σ 58 := fr_F_X4_judgeLine _ _ (by decide)
      have c34 : F_X4_judgeLine σ q 34 = σ 34 := fr_F_X4_judgeLine _ _ (by decide)
      have wr := wct_r (μ 15) q.toNat
      rw [e2] at j3
      rw [j1]
      generalize (R_X12_does μ q).1 = v at *
      have key : ∀ z : Int, z = wct (μ 15) q.toNat + (if 0 < v then 1 else 0) → LR (μ0 2 172) (L_X4_judge_6 (-1) n (q + 1) (zu (F_X4_judgeLine σ q) 58 q v)) (L_X12_run_6 (-1) n' (q + 1) (zu (zu (R_X12_does μ q).2 15 q v) 0 46 z)) := by
        intro z hz
        refine LR_loop hV hB hY n n' (q + 1) _ _ ⟨LC_row j2 ?_ ?_ ?_ ?_ ?_ ?_ ?_ ?_ ?_ ?_ ?_ ?_ ?_ ?_ ?_, LXd_row x1 ?_ ?_ ?_ ?_ ?_ ?_ ?_ ?_ ?_ ?_ ?_ ?_ ?_, LXp_row x2 ?_ ?_ ?_ ?_ ?_ ?_, ?_, ?_⟩ (fun c hc => by rw [zu_row _ _ _ (by omega), fr_F_X4_judgeLine (h := by simp; omega)]; exact es c hc) ?_ ?_ ?_ (by omega) (by omega) (by omega) (by omega)
        all_goals first | exact zu_ne _ _ _ _ (by decide) | exact zu_row _ _ _ (by decide) | exact (zu_off _ _ _ (by decide)).trans (zu_ne _ _ _ _ (by decide)) | exact (zu_row _ _ _ (by decide)).trans (zu_row _ _ _ (by decide)) | skip
        · have e15 : zu (zu (R_X12_does μ q).2 15 q v) 0 46 z 15 = fun j => if j = q then v else μ 15 j := by
            rw [zu_row _ _ _ (by decide)]
            funext j
            rw [zu_if, d15]
          refine ⟨fun i i0 i1 => ?_, ?_⟩
          · rw [e15, zu_if, c58]
            dsimp only
            by_cases e : i = q
            · simp only [if_pos e]; exact ⟨trivial, d1⟩
            · simp only [if_neg e]; exact hL4.1 i i0 (by omega)
          · rw [zu_at, e15, eqs, wct, wct_put _ _ _ _ (by omega), eq1]
            try dsimp only
            rw [if_pos rfl]
            exact hz
        · rw [zu_off _ _ _ (by decide), zu_ne _ _ _ _ (by decide), x3, if_neg (by omega), zu_row _ _ _ (by decide), c34, show q + 1 - 1 = q by omega]
        · rw [zu_row _ _ _ (by decide), zu_row _ _ _ (by decide), fr_R_X12_does (h := by decide)]; exact e2
        · rw [zu_row _ _ _ (by decide), zu_row _ _ _ (by decide), fr_R_X12_does (h := by decide)]; exact e9
        · rw [zu_off _ _ _ (by decide), zu_ne _ _ _ _ (by decide)]; omega
      rw [d46, hL4.2]
      split
      · next c2 => exact key _ (by rw [w32_id ⟨by omega, by omega⟩, if_neg (by omega)])
      · next c2 => exact key _ (by rw [w32_id ⟨by omega, by omega⟩, if_pos (by omega)])
theorem clear_p {σ μ : zG} : LXp (R_X4_clear σ) (R_X12_begin μ) := by
  have b49 : ∀ (n : Nat) (q : Int) (μ : zG), 0 ≤ q → (96 - q).toNat < n → ∀ j : Int, q ≤ j → j < 96 → (S_X12_begin_49 n q μ).2 12 j = -1 := by
    intro n
    induction n with
    | zero => intro q μ _ h; exact absurd h (Nat.not_lt_zero _)
    | succ n ih =>
      intro q μ h0 hm j j0 j1
      rw [S_X12_begin_49, if_neg (by omega)]
      by_cases e : j = q
      · have keep : ∀ (n : Nat) (q' : Int) (μ : zG), q < q' → (S_X12_begin_49 n q' μ).2 12 q = μ 12 q := by
          intro n
          induction n with
          | zero => intro q' μ _; rfl
          | succ n ih =>
            intro q' μ h
            rw [S_X12_begin_49]
            split
            · rfl
            · rw [ih (q' + 1) _ (by omega), zu_off _ _ _ (by omega)]
        rw [e, keep n (q + 1) _ (by omega), zu_at]
      · exact ih (q + 1) _ (by omega) (by omega) j (by omega) j1
  have b2 : ∀ (n : Nat) (q : Int) (μ : zG), 0 ≤ q → (8 - q).toNat < n → ∀ a : Int, 0 ≤ a → a < 8 → (q ≤ a → (S_X12_begin_2 n q μ).2 13 a = 0 ∧ (S_X12_begin_2 n q μ).2 14 a = 0) ∧ (a < q → (S_X12_begin_2 n q μ).2 13 a = μ 13 a ∧ (S_X12_begin_2 n q μ).2 14 a = μ 14 a) := by
    intro n
    induction n with
    | zero => intro q μ _ h; exact absurd h (Nat.not_lt_zero _)
    | succ n ih =>
      intro q μ h0 hm a a0 a8
      rw [S_X12_begin_2]
      split
      · exact ⟨fun h => absurd a8 (by omega), fun _ => ⟨rfl, rfl⟩⟩
      · have h9 := ih (q + 1) (zu (zu (zu μ 11 q (R_X12_follows μ (μ 2 (44 + q)))) 13 q 0) 14 q 0) (by omega) (by omega) a a0 a8
        have e13 : (zu (zu (zu μ 11 q (R_X12_follows μ (μ 2 (44 + q)))) 13 q 0) 14 q 0) 13 a = if a = q then 0 else μ 13 a := by rw [zu_ne _ _ _ _ (by decide), zu_if, zu_ne _ _ _ _ (by decide)]
        have e14 : (zu (zu (zu μ 11 q (R_X12_follows μ (μ 2 (44 + q)))) 13 q 0) 14 q 0) 14 a = if a = q then 0 else μ 14 a := by rw [zu_if, zu_ne _ _ _ _ (by decide), zu_ne _ _ _ _ (by decide)]
        rw [e13, e14] at h9
        refine ⟨fun h => ?_, fun h => ?_⟩
        · by_cases c : a = q
          · have := h9.2 (by omega)
            rw [if_pos c, if_pos c] at this
            exact this
          · exact h9.1 (by omega)
        · have := h9.2 (by omega)
          rw [if_neg (by omega), if_neg (by omega)] at this
          exact this
  refine ⟨fun a a0 a8 => ?_, fun j j0 j1 => ?_⟩
  · have h := (b2 10 0 μ (by decide) (by decide) a a0 a8).1 a0
    have e55 : R_X4_clear σ 55 a = 0 := by
      unfold R_X4_clear
      rw [zu_ne _ _ _ _ (by decide), zu_ne _ _ _ _ (by decide), fr_zfl (h := by decide), fr_zfl (h := by decide), zfl_at, if_pos ⟨a0, a8⟩]
    have e56 : R_X4_clear σ 56 a = 0 := by
      unfold R_X4_clear
      rw [zu_ne _ _ _ _ (by decide), zu_ne _ _ _ _ (by decide), fr_zfl (h := by decide), zfl_at, if_pos ⟨a0, a8⟩]
    have e13 : R_X12_begin μ 13 a = 0 := by
      unfold R_X12_begin
      rw [zu_ne _ _ _ _ (by decide), zu_ne _ _ _ _ (by decide), zu_ne _ _ _ _ (by decide), zu_ne _ _ _ _ (by decide), fr_S_X12_begin_49 (h := by decide)]
      exact h.1
    have e14 : R_X12_begin μ 14 a = 0 := by
      unfold R_X12_begin
      rw [zu_ne _ _ _ _ (by decide), zu_ne _ _ _ _ (by decide), zu_ne _ _ _ _ (by decide), zu_ne _ _ _ _ (by decide), fr_S_X12_begin_49 (h := by decide)]
      exact h.2
    exact ⟨by rw [e55, e13], by rw [e56, e14]⟩
  · have e57 : R_X4_clear σ 57 j = -1 := by
      unfold R_X4_clear
      rw [zu_ne _ _ _ _ (by decide), zu_ne _ _ _ _ (by decide), zfl_at, if_pos ⟨j0, j1⟩]
    have e12 : R_X12_begin μ 12 j = -1 := by
      unfold R_X12_begin
      rw [zu_ne _ _ _ _ (by decide), zu_ne _ _ _ _ (by decide), zu_ne _ _ _ _ (by decide), zu_ne _ _ _ _ (by decide)]
      exact b49 100 0 _ (by decide) (by decide) j j0 j1
    rw [e57, e12]
/-- the book judged on both sides -/
theorem LR_run {σ μ : zG} (hV : VS σ μ) (hB : BK σ μ) (hY : DY σ) : LR (μ 2 172) (R_X4_judge σ (-1)) (R_X12_run μ (-1)) := by
  have hb1 := hB.1
  obtain ⟨b1, b2, b3, b4, b5⟩ := begin_rows μ
  unfold R_X4_judge R_X12_run
  refine LR_loop hV hB hY 70 70 0 _ _ ⟨LC_begin hV, ⟨fun d d0 d1 => ?_, fun d e d0 d1 d2 => ?_⟩, clear_p, ⟨fun i i0 i1 => absurd i1 (by omega), ?_⟩, ?_⟩ (fun c hc => fr_R_X4_clear σ (by simp; omega)) (fr_R_X12_begin μ (by decide)) (fr_R_X12_begin μ (by decide)) ?_ (by decide) (by omega) (by omega) (by omega)
  · rw [b2] at d1; omega
  · rw [b2] at d2; omega
  · rw [b5]; rfl
  · rw [b3]; rfl
  · rw [b2]; exact Int.le_refl _
