/-! pure: the rest of the ledger, line by line -/
theorem learn_mid {σ μ : zG} (hV : VS σ μ) (hL : LC σ μ) {who f i li : Int} (hli : i = li) (hw : 0 ≤ who ∧ who < μ 2 0) (hf : 0 ≤ f ∧ f < μ 2 1) : ∃ (fr : Int) (σ1 μ1 : zG), R_X4_learn σ who f i = L_X4_learn_78 who f i fr 200 0 σ1 ∧ R_X12_learns (zu μ 0 45 (bor (μ 0 45) (bshl 1 f))) who f li = L_X12_learns_78 who f li fr 500 0 μ1 ∧ LC σ1 μ1 ∧ (0 ≤ fr ∧ fr < 4096) ∧ (∀ c : Nat, c ∉ [53, 54, 57] → σ1 c = σ c) ∧ (∀ c : Nat, c ∉ [0, 11, 12] → μ1 c = μ c) ∧ (∀ j : Int, j ≠ 45 → μ1 0 j = μ 0 j) ∧ (∀ d : Int, 0 ≤ d → d < μ1 0 43 → μ1 17 d = who → hb fr (μ1 18 d) → μ1 20 d ≤ 198) ∧ (∀ j : Int, 0 ≤ j → j < 12 → hb fr j → hb (μ1 11 who) j) ∧ ((∀ j : Int, 0 ≤ j → j < 96 → σ 57 j = μ 12 j) → ∀ j : Int, 0 ≤ j → j < 96 → σ1 57 j = μ1 12 j) := by
  obtain ⟨hK, hT, hM, hD⟩ := id hL
  obtain ⟨hp, hF, hSR, hset, hfa, hkn⟩ := id hV
  obtain ⟨k1, k2, k3⟩ := hK who hw.1 (by omega)
  have rb := bit_r (c := f) ⟨hf.1, by omega⟩
  have ro := bor_r k2 rb
  have efol := follow_eq hSR ro
  have rfol := follow_r hSR ro
  have hSR' : R_X12_follows (zu μ 0 45 (bor (μ 0 45) (bshl 1 f))) (bor (μ 11 who) (bshl 1 f)) = R_X12_follows μ (bor (μ 11 who) (bshl 1 f)) := follows_row (zu_row _ _ _ (by decide)) _
  unfold R_X4_learn R_X12_learns V_X4_freshFor
  have e11 : zu μ 0 45 (bor (μ 0 45) (bshl 1 f)) 11 = μ 11 := zu_row _ _ _ (by decide)
  rw [e11, hSR', k1, efol]
  have rfr := band_r (b := bxor (μ 11 who) (-1)) rfol
  have fsub : ∀ j : Int, 0 ≤ j → j < 12 → (hb (band (R_X12_follows μ (bor (μ 11 who) (bshl 1 f))) (bxor (μ 11 who) (-1))) j ↔ hb (R_X12_follows μ (bor (μ 11 who) (bshl 1 f))) j ∧ ¬ hb (μ 11 who) j) := fun j j0 j1 => not_r k2 _ j rfol ⟨j0, j1⟩
  have fhi : ∀ j : Int, μ 2 1 ≤ j → j < 12 → ¬ hb (R_X12_follows μ (bor (μ 11 who) (bshl 1 f))) j := fun j j0 j1 => follows_hi hSR ro (fun i i0 i1 => by rw [hb_bor k2 rb ⟨by omega, by omega⟩, hb_bit ⟨hf.1, by omega⟩ ⟨by omega, by omega⟩]; rintro (x | x); exact k3 i i0 i1 x; omega) j j0 j1 (by omega)
  generalize R_X12_follows μ (bor (μ 11 who) (bshl 1 f)) = fo at *
  generalize band fo (bxor (μ 11 who) (-1)) = fr at *
  have rn := bor_r k2 rfr
  have rt := bor_r ⟨hT.2.1, hT.2.2⟩ rb
  have c0 : ∀ c : Nat, c ∉ [53, 54, 57] → (S_X4_learn_34 who f i fr 20 0 (zu (zu σ 54 who (bor (μ 11 who) fr)) 53 7 (bor (σ 53 7) (bshl 1 f)))).2 c = σ c := by
    intro c hc
    rw [fr_S_X4_learn_34 (h := fun h => hc (by revert h; simp; intro h; simp [h])), zu_row _ _ _ (fun h => hc (by simp [h])), zu_row _ _ _ (fun h => hc (by simp [h]))]
  have cK : (S_X4_learn_34 who f i fr 20 0 (zu (zu σ 54 who (bor (μ 11 who) fr)) 53 7 (bor (σ 53 7) (bshl 1 f)))).2 54 = zu σ 54 who (bor (μ 11 who) fr) 54 := by
    rw [fr_S_X4_learn_34 (h := by decide), zu_row _ _ _ (by decide)]
  have cT : ∀ j : Int, (S_X4_learn_34 who f i fr 20 0 (zu (zu σ 54 who (bor (μ 11 who) fr)) 53 7 (bor (σ 53 7) (bshl 1 f)))).2 53 j = if j = 7 then bor (σ 53 7) (bshl 1 f) else σ 53 j := by
    intro j
    rw [fr_S_X4_learn_34 (h := by decide), zu_if, zu_row _ _ _ (by decide)]
  have m0 : ∀ c : Nat, c ∉ [0, 11, 12] → (S_X12_learns_39 who f li fr 20 0 (zu (zu μ 0 45 (bor (μ 0 45) (bshl 1 f))) 11 who (bor (μ 11 who) fr))).2 c = μ c := by
    intro c hc
    rw [fr_S_X12_learns_39 (h := fun h => hc (by revert h; simp; intro h; simp [h])), zu_row _ _ _ (fun h => hc (by simp [h])), zu_row _ _ _ (fun h => hc (by simp [h]))]
  have mK : ∀ a : Int, (S_X12_learns_39 who f li fr 20 0 (zu (zu μ 0 45 (bor (μ 0 45) (bshl 1 f))) 11 who (bor (μ 11 who) fr))).2 11 a = if a = who then bor (μ 11 who) fr else μ 11 a := by
    intro a
    rw [fr_S_X12_learns_39 (h := by decide), zu_if, e11]
  have mT : ∀ j : Int, (S_X12_learns_39 who f li fr 20 0 (zu (zu μ 0 45 (bor (μ 0 45) (bshl 1 f))) 11 who (bor (μ 11 who) fr))).2 0 j = if j = 45 then bor (μ 0 45) (bshl 1 f) else μ 0 j := by
    intro j
    rw [fr_S_X12_learns_39 (h := by decide), zu_row _ _ _ (by decide), zu_if]
  have cC : (∀ j : Int, 0 ≤ j → j < 96 → σ 57 j = μ 12 j) → ∀ j : Int, 0 ≤ j → j < 96 → (S_X4_learn_34 who f i fr 20 0 (zu (zu σ 54 who (bor (μ 11 who) fr)) 53 7 (bor (σ 53 7) (bshl 1 f)))).2 57 j = (S_X12_learns_39 who f li fr 20 0 (zu (zu μ 0 45 (bor (μ 0 45) (bshl 1 f))) 11 who (bor (μ 11 who) fr))).2 12 j := by
    intro h57 j j0 j1
    have a := s34_K who f i fr 20 0 (zu (zu σ 54 who (bor (μ 11 who) fr)) 53 7 (bor (σ 53 7) (bshl 1 f))) j (by rw [zu_ne _ _ _ _ (by decide), zu_ne _ _ _ _ (by decide), hF.1]; omega)
    have b := s39_K who f li fr 20 0 (zu (zu μ 0 45 (bor (μ 0 45) (bshl 1 f))) 11 who (bor (μ 11 who) fr)) j (by decide)
    rw [zu_ne _ _ _ _ (by decide), zu_ne _ _ _ _ (by decide), hF.1, zu_ne _ _ _ _ (by decide), zu_ne _ _ _ _ (by decide)] at a
    rw [zu_ne _ _ _ _ (by decide), zu_ne _ _ _ _ (by decide)] at b
    by_cases ex : ∃ k : Int, 0 ≤ k ∧ k < μ 2 1 ∧ hb fr k ∧ j = (who * 12) + k
    · obtain ⟨k, k0, k1, k2, k3⟩ := ex
      rw [a.1 ⟨k, k0, k1, k2, k3⟩, b.1 ⟨k, k0, by omega, k2, by omega⟩]
      exact hli
    · rw [a.2 (fun k k0 k1 k2 k3 => ex ⟨k, k0, k1, k2, k3⟩), b.2 (fun k k0 k1 k2 k3 => ex ⟨k, k0, ?_, k2, by omega⟩)]
      · exact h57 j j0 j1
      · exact Decidable.byContradiction fun q => fhi k (by omega) k1 ((fsub k k0 k1).mp k2).1
  generalize (S_X4_learn_34 who f i fr 20 0 (zu (zu σ 54 who (bor (μ 11 who) fr)) 53 7 (bor (σ 53 7) (bshl 1 f)))).2 = σ1 at *
  generalize (S_X12_learns_39 who f li fr 20 0 (zu (zu μ 0 45 (bor (μ 0 45) (bshl 1 f))) 11 who (bor (μ 11 who) fr))).2 = μ1 at *
  have hL1 : LC σ1 μ1 := by
    unfold LC
    rw [m0 2 (by decide), cK, c0 59 (by decide), c0 60 (by decide), c0 61 (by decide), c0 63 (by decide), m0 16 (by decide), m0 17 (by decide), m0 18 (by decide), m0 20 (by decide), cT, cT, mT, mT, hT.1, hM.1]
    refine ⟨fun a a0 a8 => ?_, ⟨rfl, rt⟩, ⟨rfl, hM.2⟩, fun d d0 d1 => ?_⟩
    · rw [mK, zu_if]
      by_cases e : a = who
      · simp only [if_pos e]
        refine ⟨trivial, rn, fun j j0 j1 => ?_⟩
        rw [hb_bor k2 rfr ⟨by omega, by omega⟩, fsub j (by omega) j1]
        rintro (x | x)
        · exact k3 j j0 j1 x
        · exact fhi j j0 j1 x.1
      · simp only [if_neg e]
        exact hK a a0 a8
    · obtain ⟨x1, x5, x6, x7, x8, x9, x10⟩ := hD d d0 d1
      refine ⟨x1, x5, x6, x7, x8, x9, fun hn => x10 (fun hy => hn ?_)⟩
      rw [mK]
      split
      · next e => exact (hb_bor k2 rfr ⟨x7.1, by omega⟩).mpr (Or.inl (by rw [← e]; exact hy))
      · exact hy
  refine ⟨fr, σ1, μ1, rfl, rfl, hL1, rfr, c0, m0, fun j hj => by rw [mT, if_neg hj], ?_, ?_, cC⟩
  · intro d d0 d1 d2 d3
    rw [mT] at d1
    rw [m0 17 (by decide)] at d2
    rw [m0 18 (by decide)] at d3
    rw [m0 20 (by decide)]
    obtain ⟨x1, x5, x6, x7, x8, x9, x10⟩ := hD d d0 (by simpa using d1)
    exact x10 (by rw [d2]; exact ((fsub _ x7.1 (by omega)).mp d3).2)
  · intro j j0 j1 hj
    rw [mK, if_pos rfl]
    exact (hb_bor k2 rfr ⟨j0, by omega⟩).mpr (Or.inr hj)
theorem LX_learn {σ μ : zG} (hV : VS σ μ) (hL : LC σ μ) {who f i Q : Int} (hw : 0 ≤ who ∧ who < μ 2 0) (hf : 0 ≤ f ∧ f < μ 2 1) (hX : LXd Q σ μ) (hP : LXp σ μ) : LXd Q (R_X4_learn σ who f i) (R_X12_learns (zu μ 0 45 (bor (μ 0 45) (bshl 1 f))) who f i) ∧ LXp (R_X4_learn σ who f i) (R_X12_learns (zu μ 0 45 (bor (μ 0 45) (bshl 1 f))) who f i) := by
  obtain ⟨fr, σ1, μ1, e1, e2, hL1, rfr, c0, m0, m00, hg, hk, hC⟩ := learn_mid hV hL (i := i) (li := i) rfl hw hf
  have hM := hL1.2.2.1
  have hp := hV.1
  rw [e1, e2]
  constructor
  · refine LX_grow hV who f i fr Q ⟨hw.1, by omega⟩ rfr 200 500 0 σ1 μ1 hL1 (LXd_row hX (c0 62 (by decide)) (c0 64 (by decide)) (c0 65 (by decide)) (c0 66 (by decide)) (c0 34 (by decide)) (m00 43 (by decide)) (m0 19 (by decide)) (m0 20 (by decide)) (m0 21 (by decide)) (m0 22 (by decide)) (m0 23 (by decide)) (m0 24 (by decide)) (m0 25 (by decide))) (m0 2 (by decide)) (c0 15 (by decide)) hg hk (by decide) (by omega) (by omega)
  · have f1 : ∀ c : Nat, c ∉ [63, 66] → L_X4_learn_78 who f i fr 200 0 σ1 c = σ1 c := fun c hc => fr_L_X4_learn_78 _ _ _ _ _ _ _ hc
    have f2 : ∀ c : Nat, c ∉ [20, 23] → L_X12_learns_78 who f i fr 500 0 μ1 c = μ1 c := fun c hc => fr_L_X12_learns_78 _ _ _ _ _ _ _ hc
    unfold LXp
    rw [f1 55 (by decide), f1 56 (by decide), f1 57 (by decide), f2 12 (by decide), f2 13 (by decide), f2 14 (by decide), c0 55 (by decide), c0 56 (by decide), m0 13 (by decide), m0 14 (by decide)]
    exact ⟨hP.1, hC hP.2⟩
theorem LX_tell {σ μ : zG} (hV : VS σ μ) (hL : LC σ μ) {who an f i : Int} (hw : 0 ≤ who ∧ who < μ 2 0) (ha : 0 ≤ an ∧ an < μ 2 0) (hf : 0 ≤ f ∧ f < μ 2 1) (hi : 0 ≤ i) (hday : μ 0 44 = σ 34 i) (hX : LXd (i + 1) σ μ) (hXp : LXp σ μ) : LXd (i + 1) (F_X4_tell σ who an f i) (R_X12_tells μ who an f i) ∧ LXp (F_X4_tell σ who an f i) (R_X12_tells μ who an f i) := by
  unfold F_X4_tell R_X12_tells R_X4_pay
  rw [worth_eq hV hL hw hf]
  have hM := hL.2.2.1
  obtain ⟨hp, hF, hSR, hset, hfa, hkn⟩ := id hV
  obtain ⟨e9, e10, e11, r9, r10, r11⟩ := hfa f hf.1 hf.2
  have hP := LC_pay who an f i i (R_X12_worthOf μ who f) 200 500 0 σ μ hL (by decide) (by omega) (by omega)
  have hQ := LX_pay who an f i (R_X12_worthOf μ who f) hi 200 500 0 σ μ hL hX hday (by decide) (by omega) (by omega)
  have c0 : ∀ c : Nat, c ∉ [63, 65] → L_X4_pay_3 who (R_X12_worthOf μ who f) i 200 0 σ c = σ c := fun c hc => fr_L_X4_pay_3 _ _ _ _ _ _ hc
  have m0 : ∀ c : Nat, c ∉ [20, 22, 25] → (S_X12_tells_11 who an f i (R_X12_worthOf μ who f) 500 0 μ).2 c = μ c := fun c hc => fr_S_X12_tells_11 _ _ _ _ _ _ _ _ hc
  generalize L_X4_pay_3 who (R_X12_worthOf μ who f) i 200 0 σ = σ1 at *
  generalize (S_X12_tells_11 who an f i (R_X12_worthOf μ who f) 500 0 μ).2 = μ1 at *
  have eh : w32 ((σ 55 (σ 11 f)) + (σ 10 f)) = w32 ((μ 13 (μ 2 ((8 + (3 * f)) + 2))) + (μ 2 ((8 + (3 * f)) + 1))) := by
    rw [e11, e10, (hXp.1 (μ 2 ((8 + (3 * f)) + 2)) r11.1 (by omega)).1]
  rw [eh, e11]
  generalize w32 ((μ 13 (μ 2 ((8 + (3 * f)) + 2))) + (μ 2 ((8 + (3 * f)) + 1))) = y at *
  generalize μ 2 ((8 + (3 * f)) + 2) = ab at *
  have hV2 : VS (zu σ1 55 ab y) (zu μ1 13 ab y) := VS_row hV (fun c c5 c16 => by rw [zu_row _ _ _ (by omega), c0 c (by simp; omega)]) (by rw [zu_row _ _ _ (by decide), m0 2 (by decide)])
  have hL2 : LC (zu σ1 55 ab y) (zu μ1 13 ab y) := by
    refine LC_row hP ?_ ?_ ?_ ?_ ?_ ?_ ?_ ?_ ?_ ?_ ?_ ?_ ?_ ?_ ?_
    all_goals first | exact zu_ne _ _ _ _ (by decide) | exact zu_row _ _ _ (by decide)
  have hX2 : LXd (i + 1) (zu σ1 55 ab y) (zu μ1 13 ab y) := by
    refine LXd_row hQ ?_ ?_ ?_ ?_ ?_ ?_ ?_ ?_ ?_ ?_ ?_ ?_ ?_
    all_goals first | exact zu_ne _ _ _ _ (by decide) | exact zu_row _ _ _ (by decide)
  have hP2 : LXp (zu σ1 55 ab y) (zu μ1 13 ab y) := by
    unfold LXp
    rw [zu_row _ _ _ (show (56 : Nat) ≠ 55 by decide), zu_row _ _ _ (show (57 : Nat) ≠ 55 by decide), zu_row _ _ _ (show (14 : Nat) ≠ 13 by decide), zu_row _ _ _ (show (12 : Nat) ≠ 13 by decide), c0 56 (by decide), c0 57 (by decide), m0 14 (by decide), m0 12 (by decide)]
    refine ⟨fun a a0 a8 => ?_, hXp.2⟩
    rw [zu_if, zu_if, c0 55 (by decide), m0 13 (by decide)]
    have := hXp.1 a a0 a8
    by_cases e : a = ab
    · simp only [if_pos e]; exact ⟨trivial, this.2⟩
    · simp only [if_neg e]; exact this
  have e45 : μ 0 45 = (zu μ1 13 ab y) 0 45 := by rw [zu_ne _ _ _ _ (by decide), m0 0 (by decide)]
  have e2 : (zu μ1 13 ab y) 2 = μ 2 := by rw [zu_row _ _ _ (by decide), m0 2 (by decide)]
  rw [e45]
  exact LX_learn hV2 hL2 (by rw [e2]; exact ha) (by rw [e2]; exact hf) hX2 hP2
theorem mowes_day (μ : zG) (who to f kn li : Int) : F_X12_owes μ who to f kn li 0 44 = μ 0 44 := by
  unfold F_X12_owes
  split
  · rfl
  · simp [zu]
theorem LX_lieL {i to f ea : Int} (he : 0 ≤ ea ∧ ea ≤ 198) (hi : 0 ≤ i) (nn : Int) : ∀ (n n' : Nat) (q : Int) (σ μ : zG), LC σ μ → LXd (i + 1) σ μ → μ 0 44 = σ 34 i → (0 ≤ to ∧ to < μ 2 0) → (0 ≤ f ∧ f < μ 2 1) → σ 30 i = to → σ 31 i = f → σ 33 i = μ 9 i → (∀ k : Int, 0 ≤ k → k < nn - 1 → 0 ≤ band (bshr (μ 9 i) (3 * k)) 7 ∧ band (bshr (μ 9 i) (3 * k)) 7 < μ 2 0) → nn ≤ 9 → 0 ≤ q → μ 0 43 + (nn - 1 - q) ≤ 128 → (nn - 1 - q).toNat < n → (nn - 1 - q).toNat < n' → LXd (i + 1) (L_X4_lie_55 i (nn - 1) ea n q σ) (L_X12_does_146 i to f nn ea n' q μ).2
  | 0, n', q, σ, μ, _, _, _, _, _, _, _, _, _, _, _, _, hm, _ => absurd hm (Nat.not_lt_zero _)
  | n + 1, 0, q, σ, μ, _, _, _, _, _, _, _, _, _, _, _, _, _, hm => absurd hm (Nat.not_lt_zero _)
  | n + 1, n' + 1, q, σ, μ, hL, hX, hday, ht, hf, e1, e2, e3, hk, h9, h0, h128, hm, hm' => by
    rw [L_X4_lie_55, L_X12_does_146]
    by_cases c : nn ≤ q + 1
    · rw [if_pos c, if_pos (by omega)]
      exact hX
    · rw [if_neg c, if_neg (by omega), e3, w32_id (z := 3 * q) ⟨by omega, by omega⟩]
      have hL2 := LC_owe hL (li := i) (much := ea) (hk q h0 (by omega)) ht hf he (fun _ => by omega) e1 e2
      have hX2 := LX_owe (who := band (bshr (μ 9 i) (3 * q)) 7) (to := to) (f := f) (much := ea) hL.2.2.1.1 (fun _ => by omega) hi hday hX
      have cr : ∀ c : Nat, c < 53 → F_X4_owe σ (band (bshr (μ 9 i) (3 * q)) 7) ea i c = σ c := fun c hc => fr_F_X4_owe _ _ _ _ (by simp; omega)
      have mr : ∀ c : Nat, c ∉ [0, 16, 17, 18, 19, 20, 21, 22, 23, 24, 25] → F_X12_owes μ (band (bshr (μ 9 i) (3 * q)) 7) to f ea i c = μ c := fun c hc => fr_F_X12_owes _ _ _ _ _ _ hc
      have mm := mowes_many μ (band (bshr (μ 9 i) (3 * q)) 7) to f ea i
      have md := mowes_day μ (band (bshr (μ 9 i) (3 * q)) 7) to f ea i
      refine LX_lieL he hi nn n n' (q + 1) _ _ hL2 hX2 (by rw [md, cr 34 (by decide)]; exact hday) (by rw [mr 2 (by decide)]; exact ht) (by rw [mr 2 (by decide)]; exact hf) (by rw [cr 30 (by decide)]; exact e1) (by rw [cr 31 (by decide)]; exact e2) (by rw [cr 33 (by decide), mr 9 (by decide)]; exact e3) (by rw [mr 9 (by decide), mr 2 (by decide)]; exact hk) h9 (by omega) ?_ (by omega) (by omega)
      rw [mm]
      split <;> omega
