/-! pure: the lines of a book on both sides -/
theorem VS_row {σ τ μ ν : zG} (h : VS σ μ) (hs : ∀ c : Nat, 5 ≤ c → c < 16 → τ c = σ c) (hm : ν 2 = μ 2) : VS τ ν := by
  unfold VS SR at *
  rw [hs 5 (by decide) (by decide), hs 7 (by decide) (by decide), hs 9 (by decide) (by decide), hs 10 (by decide) (by decide), hs 11 (by decide) (by decide), hs 12 (by decide) (by decide), hs 13 (by decide) (by decide), hs 15 (by decide) (by decide), hm]
  exact h
theorem bcnt_pcn : ∀ x : Fin 256, bcnt (x.val : Int) = pcn (x.val : Int) := by decide +kernel
theorem bcnt_eq {x : Int} (h : 0 ≤ x ∧ x < 256) : bcnt x = pcn x := by
  have h1 := bcnt_pcn ⟨x.toNat, by omega⟩
  have e : ((x.toNat : Nat) : Int) = x := by omega
  dsimp only at h1
  rw [e] at h1
  exact h1
theorem pcn_b {x : Int} (h : 0 ≤ x ∧ x < 256) : 0 ≤ pcn x ∧ pcn x ≤ 8 := by
  have h1 := many_r0 (σ := fun _ _ => 0) h.1 h.2
  have h2 : R_X12_many (fun _ _ => 0) x = pcn x := by unfold R_X12_many pcn; exact many_free _ x _ _ _
  rw [h2] at h1
  exact h1
theorem many_pc (σ : zG) (x : Int) : R_X12_many σ x = pcn x := by unfold R_X12_many pcn; exact many_free σ x _ _ _
/-- a line of the book on both sides -/
def LN (σ μ : zG) (i : Int) : Prop := (σ 28 i = μ 2 (173 + (5 * i)) ∧ σ 29 i = μ 2 ((173 + (5 * i)) + 1) ∧ σ 30 i = μ 2 ((173 + (5 * i)) + 2) ∧ σ 31 i = μ 2 ((173 + (5 * i)) + 3) ∧ σ 32 i = μ 2 ((173 + (5 * i)) + 4) ∧ σ 33 i = μ 9 i) ∧ (0 ≤ μ 2 (173 + (5 * i)) ∧ μ 2 (173 + (5 * i)) ≤ 4) ∧ (μ 2 (173 + (5 * i)) ≠ 0 → (0 ≤ μ 2 ((173 + (5 * i)) + 1) ∧ μ 2 ((173 + (5 * i)) + 1) < μ 2 0) ∧ (0 ≤ μ 2 ((173 + (5 * i)) + 2) ∧ μ 2 ((173 + (5 * i)) + 2) < μ 2 0) ∧ μ 2 ((173 + (5 * i)) + 1) ≠ μ 2 ((173 + (5 * i)) + 2) ∧ (0 ≤ μ 2 ((173 + (5 * i)) + 3) ∧ μ 2 ((173 + (5 * i)) + 3) < μ 2 1)) ∧ (μ 2 (173 + (5 * i)) = 1 → (0 ≤ μ 2 ((173 + (5 * i)) + 4) ∧ μ 2 ((173 + (5 * i)) + 4) < 256) ∧ (∀ j : Int, μ 2 0 ≤ j → j < 8 → ¬ hb (μ 2 ((173 + (5 * i)) + 4)) j) ∧ pcn (μ 2 ((173 + (5 * i)) + 4)) ≤ 6 ∧ ∀ k : Int, 0 ≤ k → k < pcn (μ 2 ((173 + (5 * i)) + 4)) → 0 ≤ band (bshr (μ 9 i) (3 * k)) 7 ∧ band (bshr (μ 9 i) (3 * k)) 7 < μ 2 0) ∧ (μ 2 (173 + (5 * i)) = 4 → 0 ≤ μ 2 ((173 + (5 * i)) + 4) ∧ μ 2 ((173 + (5 * i)) + 4) ≤ 99)
/-- how many debts a line may make -/
def dl (t : Int → Int) (i : Int) : Int := if t (173 + (5 * i)) = 1 then 1 + pcn (t ((173 + (5 * i)) + 4)) else if t (173 + (5 * i)) = 2 then 1 else 0
def dsum (t : Int → Int) : Nat → Int
  | 0 => 0
  | n + 1 => dsum t n + dl t n
def BK (σ μ : zG) : Prop := (σ 27 0 = μ 2 172 ∧ 0 ≤ μ 2 172 ∧ μ 2 172 ≤ 60) ∧ (∀ i : Int, 0 ≤ i → i < μ 2 172 → LN σ μ i) ∧ dsum (μ 2) (μ 2 172).toNat ≤ 128
theorem dl_0 {σ μ : zG} {i : Int} (h : LN σ μ i) : 0 ≤ dl (μ 2) i := by
  unfold dl
  split
  · next c => have := pcn_b (h.2.2.2.1 c).1; omega
  · split <;> decide
theorem dsum_mono {σ μ : zG} (h : BK σ μ) : ∀ (b a : Nat), a ≤ b → (b : Int) ≤ μ 2 172 → dsum (μ 2) a ≤ dsum (μ 2) b
  | 0, a, h1, _ => by rw [show a = 0 by omega]; exact Int.le_refl _
  | b + 1, a, h1, h2 => by
    by_cases e : a = b + 1
    · rw [e]; exact Int.le_refl _
    · have h9 := dsum_mono h b a (by omega) (by omega)
      have := dl_0 (h.2.1 b (by omega) (by omega))
      rw [dsum]
      omega
theorem mwhy_r (μ : zG) (wh who to f mo : Int) : R_X12_whyOf μ wh who to f mo = 0 ∨ R_X12_whyOf μ wh who to f mo = 1 ∨ R_X12_whyOf μ wh who to f mo = 2 := by
  have h := mwhy μ wh who to f mo
  by_cases c : hb (μ 11 who) f ∧ (wh = 1 → ∀ j : Int, 0 ≤ j → j < 8 → hb mo j → hb (μ 11 j) f)
  · have h2 := h.2 c
    by_cases d : hb (μ 11 to) f
    · rw [if_pos d] at h2; exact Or.inr (Or.inr h2)
    · rw [if_neg d] at h2; exact Or.inl h2
  · refine Or.inr (Or.inl (h.1 ?_))
    by_cases c1 : hb (μ 11 who) f
    · right
      refine Classical.byContradiction fun q => c ⟨c1, fun e j j0 j1 j2 => Classical.byContradiction fun r => q ⟨e, j, j0, j1, j2, r⟩⟩
    · exact Or.inl c1
theorem does146_1 (i to f nn ea : Int) : ∀ (n : Nat) (q : Int) (μ : zG), (L_X12_does_146 i to f nn ea n q μ).1 = 0
  | 0, q, μ => rfl
  | n + 1, q, μ => by
    rw [L_X12_does_146]
    split
    · rfl
    · exact does146_1 i to f nn ea n _ _
theorem does146_m (i to f nn ea : Int) : ∀ (n : Nat) (q : Int) (μ : zG), (L_X12_does_146 i to f nn ea n q μ).2 0 43 ≤ μ 0 43 + max 0 (nn - 1 - q)
  | 0, q, μ => by show μ 0 43 ≤ _; omega
  | n + 1, q, μ => by
    rw [L_X12_does_146]
    split
    · show μ 0 43 ≤ _; omega
    · have h := does146_m i to f nn ea n (q + 1) (F_X12_owes μ (band (bshr (μ 9 i) (3 * q)) 7) to f ea i)
      have h2 := mowes_many μ (band (bshr (μ 9 i) (3 * q)) 7) to f ea i
      rw [h2] at h
      split at h <;> omega
theorem follow_0 {σ μ : zG} (h : SR σ μ) : R_X12_follows μ 0 = 0 := by
  have p0 : ∀ (n : Nat) (q : Int), 0 ≤ q → (∀ k : Int, 0 ≤ k → k < μ 2 2 → 0 ≤ μ 2 (52 + (3 * k)) ∧ μ 2 (52 + (3 * k)) < 12) → (S_X12_follows_14 μ 0 n 0 q).1 = 0 := by
    intro n
    induction n with
    | zero => intro q _ _; rfl
    | succ n ih =>
      intro q h0 hk
      rw [S_X12_follows_14]
      split
      · rfl
      · have := hk q h0 (by omega)
        rw [if_neg (hb_0 ⟨this.1, by omega⟩)]
        exact ih (q + 1) (by omega) hk
  have e : pss μ 0 = 0 := p0 10 0 (by decide) (fun k k0 k1 => by have := h.2.2 k k0 k1; omega)
  have hs := h.1
  unfold R_X12_follows
  rw [fm_eq h 0 10000 0 (-1) (by decide) (fun e => by omega) (by decide)]
  exact ito_fix e 8

theorem LC_tell {σ μ : zG} (hV : VS σ μ) (hL : LC σ μ) {who an f i li : Int} (hw : 0 ≤ who ∧ who < μ 2 0) (ha : 0 ≤ an ∧ an < μ 2 0) (hf : 0 ≤ f ∧ f < μ 2 1) : LC (F_X4_tell σ who an f i) (R_X12_tells μ who an f li) := by
  unfold F_X4_tell R_X12_tells R_X4_pay
  rw [worth_eq hV hL hw hf]
  have hM := hL.2.2.1
  have hP := LC_pay who an f li i (R_X12_worthOf μ who f) 200 500 0 σ μ hL (by decide) (by omega) (by omega)
  have c0 : ∀ c : Nat, c ∉ [63, 65] → L_X4_pay_3 who (R_X12_worthOf μ who f) i 200 0 σ c = σ c := fun c hc => fr_L_X4_pay_3 _ _ _ _ _ _ hc
  have m0 : ∀ c : Nat, c ∉ [20, 22, 25] → (S_X12_tells_11 who an f li (R_X12_worthOf μ who f) 500 0 μ).2 c = μ c := fun c hc => fr_S_X12_tells_11 _ _ _ _ _ _ _ _ hc
  generalize L_X4_pay_3 who (R_X12_worthOf μ who f) i 200 0 σ = σ1 at *
  generalize (S_X12_tells_11 who an f li (R_X12_worthOf μ who f) 500 0 μ).2 = μ1 at *
  have hV2 : VS (zu σ1 55 (σ 11 f) (w32 ((σ 55 (σ 11 f)) + (σ 10 f)))) (zu μ1 13 (μ 2 ((8 + (3 * f)) + 2)) (w32 ((μ 13 (μ 2 ((8 + (3 * f)) + 2))) + (μ 2 ((8 + (3 * f)) + 1))))) := VS_row hV (fun c c5 c16 => by rw [zu_row _ _ _ (by omega), c0 c (by simp; omega)]) (by rw [zu_row _ _ _ (by decide), m0 2 (by decide)])
  have hL2 : LC (zu σ1 55 (σ 11 f) (w32 ((σ 55 (σ 11 f)) + (σ 10 f)))) (zu μ1 13 (μ 2 ((8 + (3 * f)) + 2)) (w32 ((μ 13 (μ 2 ((8 + (3 * f)) + 2))) + (μ 2 ((8 + (3 * f)) + 1))))) := by
    refine LC_row hP ?_ ?_ ?_ ?_ ?_ ?_ ?_ ?_ ?_ ?_ ?_ ?_ ?_ ?_ ?_
    all_goals first | exact zu_ne _ _ _ _ (by decide) | exact zu_row _ _ _ (by decide)
  have e45 : μ 0 45 = (zu μ1 13 (μ 2 ((8 + (3 * f)) + 2)) (w32 ((μ 13 (μ 2 ((8 + (3 * f)) + 2))) + (μ 2 ((8 + (3 * f)) + 1))))) 0 45 := by rw [zu_ne _ _ _ _ (by decide), m0 0 (by decide)]
  have e2 : (zu μ1 13 (μ 2 ((8 + (3 * f)) + 2)) (w32 ((μ 13 (μ 2 ((8 + (3 * f)) + 2))) + (μ 2 ((8 + (3 * f)) + 1))))) 2 = μ 2 := by rw [zu_row _ _ _ (by decide), m0 2 (by decide)]
  rw [e45]
  exact (LC_learn hV2 hL2 (by rw [e2]; exact ha) (by rw [e2]; exact hf)).1
theorem LC_lieL {i to f ea : Int} (he : 0 ≤ ea ∧ ea ≤ 198) (nn : Int) : ∀ (n n' : Nat) (q : Int) (σ μ : zG), LC σ μ → (0 ≤ to ∧ to < μ 2 0) → (0 ≤ f ∧ f < μ 2 1) → σ 30 i = to → σ 31 i = f → σ 33 i = μ 9 i → (∀ k : Int, 0 ≤ k → k < nn - 1 → 0 ≤ band (bshr (μ 9 i) (3 * k)) 7 ∧ band (bshr (μ 9 i) (3 * k)) 7 < μ 2 0) → nn ≤ 9 → 0 ≤ q → μ 0 43 + (nn - 1 - q) ≤ 128 → (nn - 1 - q).toNat < n → (nn - 1 - q).toNat < n' → LC (L_X4_lie_55 i (nn - 1) ea n q σ) (L_X12_does_146 i to f nn ea n' q μ).2
  | 0, n', q, σ, μ, _, _, _, _, _, _, _, _, _, _, hm, _ => absurd hm (Nat.not_lt_zero _)
  | n + 1, 0, q, σ, μ, _, _, _, _, _, _, _, _, _, _, _, hm => absurd hm (Nat.not_lt_zero _)
  | n + 1, n' + 1, q, σ, μ, hL, ht, hf, e1, e2, e3, hk, h9, h0, h128, hm, hm' => by
    rw [L_X4_lie_55, L_X12_does_146]
    by_cases c : nn ≤ q + 1
    · rw [if_pos c, if_pos (by omega)]
      exact hL
    · rw [if_neg c, if_neg (by omega), e3, w32_id (z := 3 * q) ⟨by omega, by omega⟩]
      have hL2 := LC_owe hL (li := i) (much := ea) (hk q h0 (by omega)) ht hf he (fun _ => by omega) e1 e2
      have cr : ∀ c : Nat, c < 53 → F_X4_owe σ (band (bshr (μ 9 i) (3 * q)) 7) ea i c = σ c := fun c hc => fr_F_X4_owe _ _ _ _ (by simp; omega)
      have mr : ∀ c : Nat, c ∉ [0, 16, 17, 18, 19, 20, 21, 22, 23, 24, 25] → F_X12_owes μ (band (bshr (μ 9 i) (3 * q)) 7) to f ea i c = μ c := fun c hc => fr_F_X12_owes _ _ _ _ _ _ hc
      have mm := mowes_many μ (band (bshr (μ 9 i) (3 * q)) 7) to f ea i
      refine LC_lieL he nn n n' (q + 1) _ _ hL2 (by rw [mr 2 (by decide)]; exact ht) (by rw [mr 2 (by decide)]; exact hf) (by rw [cr 30 (by decide)]; exact e1) (by rw [cr 31 (by decide)]; exact e2) (by rw [cr 33 (by decide), mr 9 (by decide)]; exact e3) (by rw [mr 9 (by decide), mr 2 (by decide)]; exact hk) h9 (by omega) ?_ (by omega) (by omega)
      rw [mm]
      split <;> omega
/-- a line judged, on both sides -/
theorem LC_judge {σ μ : zG} (hV : VS σ μ) (hL : LC σ μ) {i : Int} (hN : LN σ μ i) (h128 : μ 0 43 + dl (μ 2) i ≤ 128) : V_X4_judgeLine σ i = (R_X12_does μ i).1 ∧ LC (F_X4_judgeLine σ i) (R_X12_does μ i).2 ∧ (R_X12_does μ i).2 0 43 ≤ μ 0 43 + dl (μ 2) i := by
  obtain ⟨⟨n1, n2, n3, n4, n5, n6⟩, nk, nv, nl, ns⟩ := id hN
  obtain ⟨hp, hF, hSR, hset, hfa, hkn⟩ := id hV
  have hd0 := dl_0 hN
  unfold V_X4_judgeLine F_X4_judgeLine R_X12_does
  rw [n1, n2, n3, n4, n5]
  by_cases k0 : μ 2 (173 + (5 * i)) = 0
  · simp only [if_pos k0]
    refine ⟨trivial, LC_row hL rfl rfl rfl rfl rfl rfl rfl ?_ ?_ ?_ ?_ ?_ ?_ ?_ ?_, by rw [zu_off _ _ _ (by decide)]; omega⟩
    all_goals first | exact zu_off _ _ _ (by decide) | exact zu_row _ _ _ (by decide)
  · obtain ⟨vw, va, vn, vf⟩ := nv k0
    simp only [if_neg k0]
    generalize hwh : μ 2 (173 + (5 * i)) = wh at *
    generalize hwo : μ 2 ((173 + (5 * i)) + 1) = who at *
    generalize hto : μ 2 ((173 + (5 * i)) + 2) = to at *
    generalize hfz : μ 2 ((173 + (5 * i)) + 3) = f at *
    generalize hmo : μ 2 ((173 + (5 * i)) + 4) = mo at *
    obtain ⟨e9, e10, e11, r9, r10, r11⟩ := hfa f vf.1 vf.2
    have rw8 := bit_r (c := who) ⟨vw.1, by omega⟩
    by_cases k1 : wh = 1
    · obtain ⟨lm, lh, lp, ld⟩ := nl k1
      have lp0 := pcn_b lm
      have hy := why_eq hV hL (wh := wh) (mo := mo) (f := f) (ds := bor mo (bshl 1 who)) vw va (fun j j0 j1 => by
        rw [hb_bor ⟨lm.1, by omega⟩ rw8 ⟨j0, by omega⟩, hb_bit ⟨vw.1, by omega⟩ ⟨j0, by omega⟩]
        constructor
        · rintro (x | x)
          · exact Or.inr ⟨k1, x⟩
          · exact Or.inl x
        · rintro (x | ⟨_, x⟩)
          · exact Or.inr x
          · exact Or.inl x) (fun _ => lh)
      simp only [if_pos k1]
      rw [hy]
      have hr := mwhy_r μ wh who to f mo
      by_cases w0 : R_X12_whyOf μ wh who to f mo = 0
      · rw [w0]
        simp only [if_pos, Int.le_refl, if_true]
        rw [many_pc]
        have ed : dl (μ 2) i = 1 + pcn mo := by unfold dl; rw [hwh, hmo, if_pos k1]
        refine ⟨(does146_1 _ _ _ _ _ _ _ _).symm, ?_, ?_⟩
        · unfold R_X4_lie
          rw [n5, n4, n2, bcnt_eq lm, e9]
          have es : V_cutUpW (μ 2 (8 + (3 * f))) (w32 (pcn mo + 1)) = Int.tdiv (w32 ((w32 ((μ 2 (8 + (3 * f))) + (1 + pcn mo))) - 1)) (1 + pcn mo) := by
            unfold V_cutUpW
            rw [w32_id (z := pcn mo + 1) ⟨by omega, by omega⟩, if_neg (by omega), Int.add_comm (pcn mo) 1]
          rw [es]
          have ev : Int.tdiv (w32 ((w32 ((μ 2 (8 + (3 * f))) + (1 + pcn mo))) - 1)) (1 + pcn mo) = (μ 2 (8 + (3 * f)) + pcn mo) / (1 + pcn mo) := by
            rw [w32_id (z := (μ 2 (8 + (3 * f))) + (1 + pcn mo)) ⟨by omega, by omega⟩, w32_id (z := (μ 2 (8 + (3 * f))) + (1 + pcn mo) - 1) ⟨by omega, by omega⟩, tdiv_pos (by omega)]
            congr 1
            omega
          have ea : 0 ≤ Int.tdiv (w32 ((w32 ((μ 2 (8 + (3 * f))) + (1 + pcn mo))) - 1)) (1 + pcn mo) ∧ Int.tdiv (w32 ((w32 ((μ 2 (8 + (3 * f))) + (1 + pcn mo))) - 1)) (1 + pcn mo) ≤ 198 := by
            rw [ev]
            refine ⟨Int.ediv_nonneg (by omega) (by omega), ?_⟩
            have := Int.ediv_le_self (a := μ 2 (8 + (3 * f)) + pcn mo) (1 + pcn mo) (by omega)
            omega
          generalize Int.tdiv (w32 ((w32 ((μ 2 (8 + (3 * f))) + (1 + pcn mo))) - 1)) (1 + pcn mo) = ea' at *
          have hL2 := LC_owe hL (li := i) (much := ea') vw va vf ea (fun _ => by omega) n3 n4
          have cr : ∀ c : Nat, c < 53 → F_X4_owe σ who ea' i c = σ c := fun c hc => fr_F_X4_owe _ _ _ _ (by simp; omega)
          have mr : ∀ c : Nat, c ∉ [0, 16, 17, 18, 19, 20, 21, 22, 23, 24, 25] → F_X12_owes μ who to f ea' i c = μ c := fun c hc => fr_F_X12_owes _ _ _ _ _ _ hc
          have mm := mowes_many μ who to f ea' i
          have h9 := LC_lieL ea (1 + pcn mo) 70 10 0 _ _ hL2 (by rw [mr 2 (by decide)]; exact va) (by rw [mr 2 (by decide)]; exact vf) (by rw [cr 30 (by decide)]; exact n3) (by rw [cr 31 (by decide)]; exact n4) (by rw [cr 33 (by decide), mr 9 (by decide)]; exact n6) (by rw [mr 9 (by decide), mr 2 (by decide)]; exact fun k k0 k1 => ld k k0 (by omega)) (by omega) (by decide) (by rw [mm]; split <;> omega) (by omega) (by omega)
          rw [show (1 + pcn mo) - 1 = pcn mo by omega] at h9
          exact h9
        · have h1 := does146_m i to f (1 + pcn mo) (Int.tdiv (w32 ((w32 ((μ 2 (8 + (3 * f))) + (1 + pcn mo))) - 1)) (1 + pcn mo)) 10 0 (F_X12_owes μ who to f (Int.tdiv (w32 ((w32 ((μ 2 (8 + (3 * f))) + (1 + pcn mo))) - 1)) (1 + pcn mo)) i)
          rw [mowes_many] at h1
          rw [ed]
          split at h1 <;> omega
      · have w1 : ¬ R_X12_whyOf μ wh who to f mo ≤ 0 := by omega
        simp only [if_neg w0, if_neg w1]
        exact ⟨trivial, hL, by omega⟩
    · have hy := why_eq hV hL (wh := wh) (mo := mo) (f := f) (ds := bor 0 (bshl 1 who)) vw va (fun j j0 j1 => by
        rw [hb_bor (by decide) rw8 ⟨j0, by omega⟩, hb_bit ⟨vw.1, by omega⟩ ⟨j0, by omega⟩]
        constructor
        · rintro (x | x)
          · exact absurd x (hb_0 ⟨j0, by omega⟩)
          · exact Or.inl x
        · rintro (x | ⟨x, _⟩)
          · exact Or.inr x
          · exact absurd x k1) (fun e => absurd e k1)
      simp only [if_neg k1]
      rw [hy]
      have hr := mwhy_r μ wh who to f mo
      by_cases w0 : R_X12_whyOf μ wh who to f mo = 0
      · rw [w0]
        simp only [if_pos, Int.le_refl, if_true]
        by_cases k2 : wh = 2
        · simp only [if_pos k2]
          have ed : dl (μ 2) i = 1 := by unfold dl; rw [hwh, if_neg k1, if_pos k2]
          have hx : 0 ≤ μ 2 (8 + (3 * f)) ∧ μ 2 (8 + (3 * f)) ≤ 792 := by omega
          have e6 : σ 15 3 = μ 2 6 := hset.2.2.2.1
          have r6 := hset.2.2.2.2.2.2.2.2.1
          have ev : V_cutUpW (w32 ((σ 9 f) * (σ 15 3))) 10 = upM (μ 2 (8 + (3 * f))) (μ 2 6) := by
            rw [e9, e6, cut_val hx (by omega), upM_val hx (by omega)]
          have er : 0 ≤ upM (μ 2 (8 + (3 * f))) (μ 2 6) ∧ upM (μ 2 (8 + (3 * f))) (μ 2 6) ≤ 198 := by
            rw [upM_val hx (by omega)]
            have := mul_b (show 0 ≤ μ 2 (8 + (3 * f)) ∧ μ 2 (8 + (3 * f)) ≤ 99 by omega) (show 0 ≤ μ 2 6 ∧ μ 2 6 ≤ 20 by omega)
            omega
          rw [ev]
          refine ⟨trivial, LC_owe hL vw va vf er (fun _ => by omega) n3 n4, ?_⟩
          rw [mowes_many]
          split <;> omega
        · simp only [if_neg k2]
          by_cases k3 : wh = 3
          · simp only [if_pos k3]
            refine ⟨trivial, LC_tell hV hL vw va vf, ?_⟩
            rw [tells_m]
            omega
          · simp only [if_neg k3]
            refine ⟨trivial, ?_, ?_⟩
            · skip
              have hL2 : LC (zu (zu σ 56 who (w32 ((σ 56 who) + mo))) 56 to (w32 ((σ 56 to) - mo))) (zu (zu μ 14 who (w32 ((μ 14 who) + mo))) 14 to (w32 ((μ 14 to) - mo))) := by
                refine LC_row hL ?_ ?_ ?_ ?_ ?_ ?_ ?_ ?_ ?_ ?_ ?_ ?_ ?_ ?_ ?_
                all_goals first | exact (zu_ne _ _ _ _ (by decide)).trans (zu_ne _ _ _ _ (by decide)) | exact (zu_row _ _ _ (by decide)).trans (zu_row _ _ _ (by decide))
              have hV3 : VS (zu (zu σ 56 who (w32 ((σ 56 who) + mo))) 56 to (w32 ((σ 56 to) - mo))) (zu (zu μ 14 who (w32 ((μ 14 who) + mo))) 14 to (w32 ((μ 14 to) - mo))) := VS_row hV (fun c c5 c16 => by rw [zu_row _ _ _ (by omega), zu_row _ _ _ (by omega)]) (by rw [zu_row _ _ _ (by decide), zu_row _ _ _ (by decide)])
              have e45 : μ 0 45 = (zu (zu μ 14 who (w32 ((μ 14 who) + mo))) 14 to (w32 ((μ 14 to) - mo))) 0 45 := by rw [zu_ne _ _ _ _ (by decide), zu_ne _ _ _ _ (by decide)]
              have e2 : (zu (zu μ 14 who (w32 ((μ 14 who) + mo))) 14 to (w32 ((μ 14 to) - mo))) 2 = μ 2 := by rw [zu_row _ _ _ (by decide), zu_row _ _ _ (by decide)]
              rw [e45]
              exact (LC_learn hV3 hL2 (by rw [e2]; exact va) (by rw [e2]; exact vf)).1
            · rw [learns_m, zu_off _ _ _ (by decide), zu_ne _ _ _ _ (by decide), zu_ne _ _ _ _ (by decide)]
              omega
      · have w1 : ¬ R_X12_whyOf μ wh who to f mo ≤ 0 := by omega
        simp only [if_neg w0, if_neg w1]
        exact ⟨trivial, hL, by omega⟩

theorem LC_tellt {σ μ : zG} (hV : VS σ μ) (hL : LCt σ μ) {who an f i li : Int} (hw : 0 ≤ who ∧ who < μ 2 0) (ha : 0 ≤ an ∧ an < μ 2 0) (hf : 0 ≤ f ∧ f < μ 2 1) : LCt (F_X4_tellt σ who an f i) (R_X12_tells μ who an f li) := by
  unfold F_X4_tellt R_X12_tells R_X4_payt
  rw [worth_eqt hV hL hw hf]
  have hM := hL.2.2.1
  have hP := LC_payt who an f li i (R_X12_worthOf μ who f) 200 500 0 σ μ hL (by decide) (by omega) (by omega)
  have c0 : ∀ c : Nat, c ∉ [77, 79] → L_X4_pay_3t who (R_X12_worthOf μ who f) i 200 0 σ c = σ c := fun c hc => fr_L_X4_pay_3t _ _ _ _ _ _ hc
  have m0 : ∀ c : Nat, c ∉ [20, 22, 25] → (S_X12_tells_11 who an f li (R_X12_worthOf μ who f) 500 0 μ).2 c = μ c := fun c hc => fr_S_X12_tells_11 _ _ _ _ _ _ _ _ hc
  generalize L_X4_pay_3t who (R_X12_worthOf μ who f) i 200 0 σ = σ1 at *
  generalize (S_X12_tells_11 who an f li (R_X12_worthOf μ who f) 500 0 μ).2 = μ1 at *
  have hV2 : VS (zu σ1 69 (σ 11 f) (w32 ((σ 69 (σ 11 f)) + (σ 10 f)))) (zu μ1 13 (μ 2 ((8 + (3 * f)) + 2)) (w32 ((μ 13 (μ 2 ((8 + (3 * f)) + 2))) + (μ 2 ((8 + (3 * f)) + 1))))) := VS_row hV (fun c c5 c16 => by rw [zu_row _ _ _ (by omega), c0 c (by simp; omega)]) (by rw [zu_row _ _ _ (by decide), m0 2 (by decide)])
  have hL2 : LCt (zu σ1 69 (σ 11 f) (w32 ((σ 69 (σ 11 f)) + (σ 10 f)))) (zu μ1 13 (μ 2 ((8 + (3 * f)) + 2)) (w32 ((μ 13 (μ 2 ((8 + (3 * f)) + 2))) + (μ 2 ((8 + (3 * f)) + 1))))) := by
    refine LCt_row hP ?_ ?_ ?_ ?_ ?_ ?_ ?_ ?_ ?_ ?_ ?_ ?_ ?_ ?_ ?_
    all_goals first | exact zu_ne _ _ _ _ (by decide) | exact zu_row _ _ _ (by decide)
  have e45 : μ 0 45 = (zu μ1 13 (μ 2 ((8 + (3 * f)) + 2)) (w32 ((μ 13 (μ 2 ((8 + (3 * f)) + 2))) + (μ 2 ((8 + (3 * f)) + 1))))) 0 45 := by rw [zu_ne _ _ _ _ (by decide), m0 0 (by decide)]
  have e2 : (zu μ1 13 (μ 2 ((8 + (3 * f)) + 2)) (w32 ((μ 13 (μ 2 ((8 + (3 * f)) + 2))) + (μ 2 ((8 + (3 * f)) + 1))))) 2 = μ 2 := by rw [zu_row _ _ _ (by decide), m0 2 (by decide)]
  rw [e45]
  exact (LC_learnt hV2 hL2 (by rw [e2]; exact ha) (by rw [e2]; exact hf)).1
theorem LC_lieLt {i to f ea : Int} (he : 0 ≤ ea ∧ ea ≤ 198) (nn : Int) : ∀ (n n' : Nat) (q : Int) (σ μ : zG), LCt σ μ → (0 ≤ to ∧ to < μ 2 0) → (0 ≤ f ∧ f < μ 2 1) → σ 30 i = to → σ 31 i = f → σ 33 i = μ 9 i → (∀ k : Int, 0 ≤ k → k < nn - 1 → 0 ≤ band (bshr (μ 9 i) (3 * k)) 7 ∧ band (bshr (μ 9 i) (3 * k)) 7 < μ 2 0) → nn ≤ 9 → 0 ≤ q → μ 0 43 + (nn - 1 - q) ≤ 128 → (nn - 1 - q).toNat < n → (nn - 1 - q).toNat < n' → LCt (L_X4_lie_55t i (nn - 1) ea n q σ) (L_X12_does_146 i to f nn ea n' q μ).2
  | 0, n', q, σ, μ, _, _, _, _, _, _, _, _, _, _, hm, _ => absurd hm (Nat.not_lt_zero _)
  | n + 1, 0, q, σ, μ, _, _, _, _, _, _, _, _, _, _, _, hm => absurd hm (Nat.not_lt_zero _)
  | n + 1, n' + 1, q, σ, μ, hL, ht, hf, e1, e2, e3, hk, h9, h0, h128, hm, hm' => by
    rw [L_X4_lie_55t, L_X12_does_146]
    by_cases c : nn ≤ q + 1
    · rw [if_pos c, if_pos (by omega)]
      exact hL
    · rw [if_neg c, if_neg (by omega), e3, w32_id (z := 3 * q) ⟨by omega, by omega⟩]
      have hL2 := LC_owet hL (li := i) (much := ea) (hk q h0 (by omega)) ht hf he (fun _ => by omega) e1 e2
      have cr : ∀ c : Nat, c < 53 → F_X4_owet σ (band (bshr (μ 9 i) (3 * q)) 7) ea i c = σ c := fun c hc => fr_F_X4_owet _ _ _ _ (by simp; omega)
      have mr : ∀ c : Nat, c ∉ [0, 16, 17, 18, 19, 20, 21, 22, 23, 24, 25] → F_X12_owes μ (band (bshr (μ 9 i) (3 * q)) 7) to f ea i c = μ c := fun c hc => fr_F_X12_owes _ _ _ _ _ _ hc
      have mm := mowes_many μ (band (bshr (μ 9 i) (3 * q)) 7) to f ea i
      refine LC_lieLt he nn n n' (q + 1) _ _ hL2 (by rw [mr 2 (by decide)]; exact ht) (by rw [mr 2 (by decide)]; exact hf) (by rw [cr 30 (by decide)]; exact e1) (by rw [cr 31 (by decide)]; exact e2) (by rw [cr 33 (by decide), mr 9 (by decide)]; exact e3) (by rw [mr 9 (by decide), mr 2 (by decide)]; exact hk) h9 (by omega) ?_ (by omega) (by omega)
      rw [mm]
      split <;> omega
/-- a line judged, on both sides -/
theorem LC_judget {σ μ : zG} (hV : VS σ μ) (hL : LCt σ μ) {i : Int} (hN : LN σ μ i) (h128 : μ 0 43 + dl (μ 2) i ≤ 128) : V_X4_judgeLinet σ i = (R_X12_does μ i).1 ∧ LCt (F_X4_judgeLinet σ i) (R_X12_does μ i).2 ∧ (R_X12_does μ i).2 0 43 ≤ μ 0 43 + dl (μ 2) i := by
  obtain ⟨⟨n1, n2, n3, n4, n5, n6⟩, nk, nv, nl, ns⟩ := id hN
  obtain ⟨hp, hF, hSR, hset, hfa, hkn⟩ := id hV
  have hd0 := dl_0 hN
  unfold V_X4_judgeLinet F_X4_judgeLinet R_X12_does
  rw [n1, n2, n3, n4, n5]
  by_cases k0 : μ 2 (173 + (5 * i)) = 0
  · simp only [if_pos k0]
    refine ⟨trivial, LCt_row hL rfl rfl rfl rfl rfl rfl rfl ?_ ?_ ?_ ?_ ?_ ?_ ?_ ?_, by rw [zu_off _ _ _ (by decide)]; omega⟩
    all_goals first | exact zu_off _ _ _ (by decide) | exact zu_row _ _ _ (by decide)
  · obtain ⟨vw, va, vn, vf⟩ := nv k0
    simp only [if_neg k0]
    generalize hwh : μ 2 (173 + (5 * i)) = wh at *
    generalize hwo : μ 2 ((173 + (5 * i)) + 1) = who at *
    generalize hto : μ 2 ((173 + (5 * i)) + 2) = to at *
    generalize hfz : μ 2 ((173 + (5 * i)) + 3) = f at *
    generalize hmo : μ 2 ((173 + (5 * i)) + 4) = mo at *
    obtain ⟨e9, e10, e11, r9, r10, r11⟩ := hfa f vf.1 vf.2
    have rw8 := bit_r (c := who) ⟨vw.1, by omega⟩
    by_cases k1 : wh = 1
    · obtain ⟨lm, lh, lp, ld⟩ := nl k1
      have lp0 := pcn_b lm
      have hy := why_eqt hV hL (wh := wh) (mo := mo) (f := f) (ds := bor mo (bshl 1 who)) vw va (fun j j0 j1 => by
        rw [hb_bor ⟨lm.1, by omega⟩ rw8 ⟨j0, by omega⟩, hb_bit ⟨vw.1, by omega⟩ ⟨j0, by omega⟩]
        constructor
        · rintro (x | x)
          · exact Or.inr ⟨k1, x⟩
          · exact Or.inl x
        · rintro (x | ⟨_, x⟩)
          · exact Or.inr x
          · exact Or.inl x) (fun _ => lh)
      simp only [if_pos k1]
      rw [hy]
      have hr := mwhy_r μ wh who to f mo
      by_cases w0 : R_X12_whyOf μ wh who to f mo = 0
      · rw [w0]
        simp only [if_pos, Int.le_refl, if_true]
        rw [many_pc]
        have ed : dl (μ 2) i = 1 + pcn mo := by unfold dl; rw [hwh, hmo, if_pos k1]
        refine ⟨(does146_1 _ _ _ _ _ _ _ _).symm, ?_, ?_⟩
        · unfold R_X4_liet
          rw [n5, n4, n2, bcnt_eq lm, e9]
          have es : V_cutUpW (μ 2 (8 + (3 * f))) (w32 (pcn mo + 1)) = Int.tdiv (w32 ((w32 ((μ 2 (8 + (3 * f))) + (1 + pcn mo))) - 1)) (1 + pcn mo) := by
            unfold V_cutUpW
            rw [w32_id (z := pcn mo + 1) ⟨by omega, by omega⟩, if_neg (by omega), Int.add_comm (pcn mo) 1]
          rw [es]
          have ev : Int.tdiv (w32 ((w32 ((μ 2 (8 + (3 * f))) + (1 + pcn mo))) - 1)) (1 + pcn mo) = (μ 2 (8 + (3 * f)) + pcn mo) / (1 + pcn mo) := by
            rw [w32_id (z := (μ 2 (8 + (3 * f))) + (1 + pcn mo)) ⟨by omega, by omega⟩, w32_id (z := (μ 2 (8 + (3 * f))) + (1 + pcn mo) - 1) ⟨by omega, by omega⟩, tdiv_pos (by omega)]
            congr 1
            omega
          have ea : 0 ≤ Int.tdiv (w32 ((w32 ((μ 2 (8 + (3 * f))) + (1 + pcn mo))) - 1)) (1 + pcn mo) ∧ Int.tdiv (w32 ((w32 ((μ 2 (8 + (3 * f))) + (1 + pcn mo))) - 1)) (1 + pcn mo) ≤ 198 := by
            rw [ev]
            refine ⟨Int.ediv_nonneg (by omega) (by omega), ?_⟩
            have := Int.ediv_le_self (a := μ 2 (8 + (3 * f)) + pcn mo) (1 + pcn mo) (by omega)
            omega
          generalize Int.tdiv (w32 ((w32 ((μ 2 (8 + (3 * f))) + (1 + pcn mo))) - 1)) (1 + pcn mo) = ea' at *
          have hL2 := LC_owet hL (li := i) (much := ea') vw va vf ea (fun _ => by omega) n3 n4
          have cr : ∀ c : Nat, c < 53 → F_X4_owet σ who ea' i c = σ c := fun c hc => fr_F_X4_owet _ _ _ _ (by simp; omega)
          have mr : ∀ c : Nat, c ∉ [0, 16, 17, 18, 19, 20, 21, 22, 23, 24, 25] → F_X12_owes μ who to f ea' i c = μ c := fun c hc => fr_F_X12_owes _ _ _ _ _ _ hc
          have mm := mowes_many μ who to f ea' i
          have h9 := LC_lieLt ea (1 + pcn mo) 70 10 0 _ _ hL2 (by rw [mr 2 (by decide)]; exact va) (by rw [mr 2 (by decide)]; exact vf) (by rw [cr 30 (by decide)]; exact n3) (by rw [cr 31 (by decide)]; exact n4) (by rw [cr 33 (by decide), mr 9 (by decide)]; exact n6) (by rw [mr 9 (by decide), mr 2 (by decide)]; exact fun k k0 k1 => ld k k0 (by omega)) (by omega) (by decide) (by rw [mm]; split <;> omega) (by omega) (by omega)
          rw [show (1 + pcn mo) - 1 = pcn mo by omega] at h9
          exact h9
        · have h1 := does146_m i to f (1 + pcn mo) (Int.tdiv (w32 ((w32 ((μ 2 (8 + (3 * f))) + (1 + pcn mo))) - 1)) (1 + pcn mo)) 10 0 (F_X12_owes μ who to f (Int.tdiv (w32 ((w32 ((μ 2 (8 + (3 * f))) + (1 + pcn mo))) - 1)) (1 + pcn mo)) i)
          rw [mowes_many] at h1
          rw [ed]
          split at h1 <;> omega
      · have w1 : ¬ R_X12_whyOf μ wh who to f mo ≤ 0 := by omega
        simp only [if_neg w0, if_neg w1]
        exact ⟨trivial, hL, by omega⟩
    · have hy := why_eqt hV hL (wh := wh) (mo := mo) (f := f) (ds := bor 0 (bshl 1 who)) vw va (fun j j0 j1 => by
        rw [hb_bor (by decide) rw8 ⟨j0, by omega⟩, hb_bit ⟨vw.1, by omega⟩ ⟨j0, by omega⟩]
        constructor
        · rintro (x | x)
          · exact absurd x (hb_0 ⟨j0, by omega⟩)
          · exact Or.inl x
        · rintro (x | ⟨x, _⟩)
          · exact Or.inr x
          · exact absurd x k1) (fun e => absurd e k1)
      simp only [if_neg k1]
      rw [hy]
      have hr := mwhy_r μ wh who to f mo
      by_cases w0 : R_X12_whyOf μ wh who to f mo = 0
      · rw [w0]
        simp only [if_pos, Int.le_refl, if_true]
        by_cases k2 : wh = 2
        · simp only [if_pos k2]
          have ed : dl (μ 2) i = 1 := by unfold dl; rw [hwh, if_neg k1, if_pos k2]
          have hx : 0 ≤ μ 2 (8 + (3 * f)) ∧ μ 2 (8 + (3 * f)) ≤ 792 := by omega
          have e6 : σ 15 3 = μ 2 6 := hset.2.2.2.1
          have r6 := hset.2.2.2.2.2.2.2.2.1
          have ev : V_cutUpW (w32 ((σ 9 f) * (σ 15 3))) 10 = upM (μ 2 (8 + (3 * f))) (μ 2 6) := by
            rw [e9, e6, cut_val hx (by omega), upM_val hx (by omega)]
          have er : 0 ≤ upM (μ 2 (8 + (3 * f))) (μ 2 6) ∧ upM (μ 2 (8 + (3 * f))) (μ 2 6) ≤ 198 := by
            rw [upM_val hx (by omega)]
            have := mul_b (show 0 ≤ μ 2 (8 + (3 * f)) ∧ μ 2 (8 + (3 * f)) ≤ 99 by omega) (show 0 ≤ μ 2 6 ∧ μ 2 6 ≤ 20 by omega)
            omega
          rw [ev]
          refine ⟨trivial, LC_owet hL vw va vf er (fun _ => by omega) n3 n4, ?_⟩
          rw [mowes_many]
          split <;> omega
        · simp only [if_neg k2]
          by_cases k3 : wh = 3
          · simp only [if_pos k3]
            refine ⟨trivial, LC_tellt hV hL vw va vf, ?_⟩
            rw [tells_m]
            omega
          · simp only [if_neg k3]
            refine ⟨trivial, ?_, ?_⟩
            · skip
              have hL2 : LCt (zu (zu σ 70 who (w32 ((σ 70 who) + mo))) 70 to (w32 ((σ 70 to) - mo))) (zu (zu μ 14 who (w32 ((μ 14 who) + mo))) 14 to (w32 ((μ 14 to) - mo))) := by
                refine LCt_row hL ?_ ?_ ?_ ?_ ?_ ?_ ?_ ?_ ?_ ?_ ?_ ?_ ?_ ?_ ?_
                all_goals first | exact (zu_ne _ _ _ _ (by decide)).trans (zu_ne _ _ _ _ (by decide)) | exact (zu_row _ _ _ (by decide)).trans (zu_row _ _ _ (by decide))
              have hV3 : VS (zu (zu σ 70 who (w32 ((σ 70 who) + mo))) 70 to (w32 ((σ 70 to) - mo))) (zu (zu μ 14 who (w32 ((μ 14 who) + mo))) 14 to (w32 ((μ 14 to) - mo))) := VS_row hV (fun c c5 c16 => by rw [zu_row _ _ _ (by omega), zu_row _ _ _ (by omega)]) (by rw [zu_row _ _ _ (by decide), zu_row _ _ _ (by decide)])
              have e45 : μ 0 45 = (zu (zu μ 14 who (w32 ((μ 14 who) + mo))) 14 to (w32 ((μ 14 to) - mo))) 0 45 := by rw [zu_ne _ _ _ _ (by decide), zu_ne _ _ _ _ (by decide)]
              have e2 : (zu (zu μ 14 who (w32 ((μ 14 who) + mo))) 14 to (w32 ((μ 14 to) - mo))) 2 = μ 2 := by rw [zu_row _ _ _ (by decide), zu_row _ _ _ (by decide)]
              rw [e45]
              exact (LC_learnt hV3 hL2 (by rw [e2]; exact va) (by rw [e2]; exact vf)).1
            · rw [learns_m, zu_off _ _ _ (by decide), zu_ne _ _ _ _ (by decide), zu_ne _ _ _ _ (by decide)]
              omega
      · have w1 : ¬ R_X12_whyOf μ wh who to f mo ≤ 0 := by omega
        simp only [if_neg w0, if_neg w1]
        exact ⟨trivial, hL, by omega⟩
