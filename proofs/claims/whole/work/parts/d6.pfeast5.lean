/-! pure: feast and feastAt on both sides -/
theorem kta {σ : zG} {P : Int} (e : σ 5 0 = P) (hr : ∀ a : Int, 0 ≤ a → a < P → 0 ≤ σ 54 a ∧ σ 54 a < 4096) : ∀ (m : Nat) (al i : Int), 0 ≤ i → (P - i).toNat < m → 0 ≤ al ∧ al < 4096 → (0 ≤ L_X4_knownToAll_6 σ m al i ∧ L_X4_knownToAll_6 σ m al i < 4096) ∧ ∀ f : Int, 0 ≤ f → f < 12 → (hb (L_X4_knownToAll_6 σ m al i) f ↔ hb al f ∧ ∀ j : Int, i ≤ j → j < P → hb (σ 54 j) f)
  | 0, al, i, _, h, _ => absurd h (Nat.not_lt_zero _)
  | m + 1, al, i, i0, h, r => by
    rw [L_X4_knownToAll_6, e]
    by_cases c : P ≤ i
    · rw [if_pos c]
      exact ⟨r, fun f _ _ => ⟨fun x => ⟨x, fun j j0 j1 => absurd j1 (by omega)⟩, fun x => x.1⟩⟩
    · rw [if_neg c]
      have ri := hr i i0 (by omega)
      have ih := kta (σ := σ) (P := P) e hr m (band al (σ 54 i)) (i + 1) (by omega) (by omega) (band_r r)
      refine ⟨ih.1, fun f f0 f1 => ?_⟩
      rw [ih.2 f f0 f1, hb_band r ri ⟨f0, by omega⟩]
      constructor
      · rintro ⟨⟨a, b⟩, d⟩
        refine ⟨a, fun j j0 j1 => ?_⟩
        by_cases x : j = i
        · rw [x]; exact b
        · exact d j (by omega) j1
      · rintro ⟨a, b⟩
        exact ⟨⟨a, b i (Int.le_refl _) (by omega)⟩, fun j j0 j1 => b j (by omega) j1⟩
theorem all12 : ∀ f : Int, 0 ≤ f → f < 12 → hb 4095 f := by
  intro f f0 f1
  obtain ⟨i, rfl⟩ := toN2 f0
  rw [show (4095 : Int) = ((4095 : Nat) : Int) from rfl, hb_nat (by omega) (by decide), show (4095 : Nat) = 2 ^ 12 - 1 from rfl, Nat.testBit_two_pow_sub_one, decide_eq_true_eq]
  omega
theorem pf5 {σ : zG} {d us F : Int} (hF : F ≤ 12) (e : σ 5 1 = F) : ∀ (m : Nat) (fs q : Int), 0 ≤ q → (F - q).toNat < m → 0 ≤ fs ∧ fs < 4096 → (0 ≤ L_X2_payableFor_5 σ d us m fs q ∧ L_X2_payableFor_5 σ d us m fs q < 4096) ∧ ∀ f : Int, 0 ≤ f → f < 12 → (hb (L_X2_payableFor_5 σ d us m fs q) f ↔ hb fs f ∨ ((q ≤ f ∧ f < F) ∧ hb us f ∧ ¬ V_X4_valueFor σ (σ 59 d) f < σ 63 d))
  | 0, fs, q, _, h, _ => absurd h (Nat.not_lt_zero _)
  | m + 1, fs, q, q0, h, r => by
    rw [L_X2_payableFor_5, e]
    by_cases c : F ≤ q
    · rw [if_pos c]
      exact ⟨r, fun f _ _ => ⟨Or.inl, fun x => x.elim id (fun y => absurd y.1.2 (by omega))⟩⟩
    · rw [if_neg c]
      have no : ¬ (hb us q ∧ ¬ V_X4_valueFor σ (σ 59 d) q < σ 63 d) → (0 ≤ L_X2_payableFor_5 σ d us m fs (q + 1) ∧ L_X2_payableFor_5 σ d us m fs (q + 1) < 4096) ∧ ∀ f : Int, 0 ≤ f → f < 12 → (hb (L_X2_payableFor_5 σ d us m fs (q + 1)) f ↔ hb fs f ∨ ((q ≤ f ∧ f < F) ∧ hb us f ∧ ¬ V_X4_valueFor σ (σ 59 d) f < σ 63 d)) := by
        intro n
        have ih := pf5 (d := d) (us := us) hF e m fs (q + 1) (by omega) (by omega) r
        refine ⟨ih.1, fun f f0 f1 => ?_⟩
        rw [ih.2 f f0 f1]
        refine ⟨fun x => x.elim Or.inl (fun y => Or.inr ⟨⟨by omega, y.1.2⟩, y.2⟩), fun x => x.elim Or.inl (fun y => Or.inr ⟨⟨?_, y.1.2⟩, y.2⟩)⟩
        have : f ≠ q := fun z => n (by rw [← z]; exact y.2)
        omega
      by_cases c1 : hb us q
      · rw [if_pos c1]
        by_cases c2 : V_X4_valueFor σ (σ 59 d) q < σ 63 d
        · rw [if_pos c2]
          exact no (fun x => x.2 c2)
        · rw [if_neg c2]
          have br := bit_r (c := q) ⟨q0, by omega⟩
          have ih := pf5 (d := d) (us := us) hF e m (bor fs (bshl 1 q)) (q + 1) (by omega) (by omega) (bor_r r br)
          refine ⟨ih.1, fun f f0 f1 => ?_⟩
          rw [ih.2 f f0 f1, hb_bor r br ⟨f0, by omega⟩, hb_bit ⟨q0, by omega⟩ ⟨f0, by omega⟩]
          constructor
          · rintro ((x | x) | x)
            · exact Or.inl x
            · rw [x]; exact Or.inr ⟨⟨Int.le_refl _, by omega⟩, c1, c2⟩
            · exact Or.inr ⟨⟨by omega, x.1.2⟩, x.2⟩
          · rintro (x | x)
            · exact Or.inl (Or.inl x)
            · by_cases y : f = q
              · exact Or.inl (Or.inr y)
              · exact Or.inr ⟨⟨by omega, x.1.2⟩, x.2⟩
      · rw [if_neg c1]
        exact no (fun x => c1 x.1)
theorem mp40 {μ : zG} {d f P : Int} (e : μ 2 0 = P) : ∀ (m : Nat) (q : Int), 0 ≤ q → (P - q).toNat < m → (L_X12_mayPay_40 μ d f m q = 0 ↔ ∀ j : Int, q ≤ j → j < P → hb (μ 11 j) f)
  | 0, q, _, h => absurd h (Nat.not_lt_zero _)
  | m + 1, q, q0, h => by
    rw [L_X12_mayPay_40, e]
    by_cases c : P ≤ q
    · rw [if_pos c]
      exact ⟨fun _ j j0 j1 => absurd j1 (by omega), fun _ => rfl⟩
    · rw [if_neg c]
      by_cases c1 : hb (μ 11 q) f
      · rw [if_pos c1, mp40 e m (q + 1) (by omega) (by omega)]
        refine ⟨fun h j j0 j1 => ?_, fun h j j0 j1 => h j (by omega) j1⟩
        by_cases x : j = q
        · rw [x]; exact c1
        · exact h j (by omega) j1
      · rw [if_neg c1]
        exact ⟨fun x => absurd x (by decide), fun h => absurd (h q (Int.le_refl _) (by omega)) c1⟩
/-- the facts that pay a debt, on both sides -/
theorem pay_iff {σ μ : zG} (hV : VS σ μ) (hL : LC σ μ) {sp d : Int} (hsp : (0 ≤ sp ∧ sp < 4096) ∧ ∀ f : Int, 0 ≤ f → f < 12 → (hb sp f ↔ ∀ j : Int, 0 ≤ j → j < μ 2 0 → hb (μ 11 j) f)) (hd : 0 ≤ d ∧ d < μ 0 43) {f : Int} (hf : 0 ≤ f ∧ f < μ 2 1) : hb (R_X2_payableFor σ d (band (σ 54 (σ 59 d)) (bxor sp (-1)))) f ↔ ¬ R_X12_mayPay μ d f = 0 := by
  have hp := hV.1
  have hF := hV.2.1
  have dd := hL.2.2.2 d hd.1 hd.2
  have ow := dd.2.1
  have kn := hL.1 (μ 16 d) ow.1 (by omega)
  have pf := (pf5 (σ := σ) (d := d) (us := band (σ 54 (σ 59 d)) (bxor sp (-1))) (by omega) hF.1 20 0 0 (by decide) (by omega) ⟨by decide, by decide⟩).2 f hf.1 (by omega)
  unfold R_X2_payableFor
  rw [pf, dd.1.1, kn.1, not_r hsp.1 (μ 11 (μ 16 d)) f kn.2.1 ⟨hf.1, by omega⟩, hsp.2 f hf.1 (by omega), worth_eq hV hL ow hf, dd.1.2.2.2]
  unfold R_X12_mayPay
  have mp := mp40 (μ := μ) (d := d) (f := f) rfl 10 0 (by decide) (by omega)
  by_cases c1 : hb (μ 11 (μ 16 d)) f
  · rw [if_pos c1]
    by_cases c2 : μ 20 d ≤ R_X12_worthOf μ (μ 16 d) f
    · rw [if_pos c2, mp]
      constructor
      · rintro (x | ⟨_, ⟨_, x⟩, _⟩)
        · exact absurd x (hb_0 ⟨hf.1, by omega⟩)
        · exact x
      · exact fun x => Or.inr ⟨hf, ⟨c1, x⟩, by omega⟩
    · rw [if_neg c2]
      refine ⟨fun x => ?_, fun x => absurd rfl x⟩
      rcases x with x | ⟨_, _, x⟩
      · exact absurd x (hb_0 ⟨hf.1, by omega⟩)
      · omega
  · rw [if_neg c1]
    refine ⟨fun x => ?_, fun x => absurd rfl x⟩
    rcases x with x | ⟨_, x, _⟩
    · exact absurd x (hb_0 ⟨hf.1, by omega⟩)
    · exact absurd x.1 c1
theorem LC_m {σ μ ν : zG} (hL : LC σ μ) (h0 : ∀ j : Int, j ≠ 50 → ν 0 j = μ 0 j) (hr : ∀ k : Nat, k = 2 ∨ k = 11 ∨ k = 16 ∨ k = 17 ∨ k = 18 ∨ k = 20 → ν k = μ k) : LC σ ν := LC_row hL rfl rfl rfl rfl rfl rfl rfl (h0 43 (by decide)) (h0 45 (by decide)) (hr 2 (by decide)) (hr 11 (by decide)) (hr 16 (by decide)) (hr 17 (by decide)) (hr 18 (by decide)) (hr 20 (by decide))
/-- the debts that are looked at, on both sides -/
def TD (σ μ : zG) : Prop := (σ 81 1 = μ 0 50 ∧ 0 ≤ μ 0 50 ∧ μ 0 50 ≤ 8) ∧ ∀ k : Int, 0 ≤ k → k < μ 0 50 → (0 ≤ μ 28 k ∧ μ 28 k < μ 0 43) ∧ ∀ f : Int, 0 ≤ f → f < μ 2 1 → (hb (σ 83 k) f ↔ ¬ R_X12_mayPay μ (μ 28 k) f = 0)
/-- what the model's answer to mayPay hangs on -/
theorem mp_cg {σ μ ν : zG} (hV : VS σ μ) (hL : LC σ μ) (h0 : ∀ j : Int, j ≠ 50 → ν 0 j = μ 0 j) (hr : ∀ k : Nat, k = 2 ∨ k = 11 ∨ k = 16 ∨ k = 17 ∨ k = 18 ∨ k = 20 → ν k = μ k) {d f : Int} (hd : 0 ≤ d ∧ d < μ 0 43) (hf : 0 ≤ f ∧ f < μ 2 1) : R_X12_mayPay ν d f = 0 ↔ R_X12_mayPay μ d f = 0 := by
  have hp := hV.1
  have hF := hV.2.1
  obtain ⟨sp, s1, s2⟩ := set_of (fun f => ∀ j : Int, 0 ≤ j → j < μ 2 0 → hb (μ 11 j) f) 12 (by decide)
  have hsp : ∀ f : Int, 0 ≤ f → f < 12 → (hb sp f ↔ ∀ j : Int, 0 ≤ j → j < μ 2 0 → hb (μ 11 j) f) := fun f f0 f1 => by
    rw [s2 f f0 f1]
    exact ⟨fun x => x.2, fun x => ⟨by omega, x⟩⟩
  have a := pay_iff hV hL (d := d) ⟨s1, hsp⟩ hd hf
  have b := pay_iff (VS_row (τ := σ) (ν := ν) hV (fun _ _ _ => rfl) (hr 2 (by decide))) (LC_m hL h0 hr) (sp := sp) (d := d) ⟨s1, by rw [hr 2 (by decide), hr 11 (by decide)]; exact hsp⟩ (by rw [h0 43 (by decide)]; exact hd) (f := f) (by rw [hr 2 (by decide)]; exact hf)
  rw [a] at b
  constructor
  · exact fun x => Classical.byContradiction fun y => (b.mp y) x
  · exact fun x => Classical.byContradiction fun y => (b.mpr y) x
theorem td12 {σ0 μ0 : zG} {sp : Int} (hV : VS σ0 μ0) (hL : LC σ0 μ0) (hsp : (0 ≤ sp ∧ sp < 4096) ∧ ∀ f : Int, 0 ≤ f → f < 12 → (hb sp f ↔ ∀ j : Int, 0 ≤ j → j < μ0 2 0 → hb (μ0 11 j) f)) : ∀ (m m' : Nat) (q : Int) (σ μ : zG), (∀ k : Nat, k ≠ 81 → k ≠ 83 → σ k = σ0 k) → (∀ k : Nat, k ≠ 0 → k ≠ 28 → μ k = μ0 k) → (∀ j : Int, j ≠ 50 → μ 0 j = μ0 0 j) → TD σ μ → 0 ≤ q → (μ0 0 43 - q).toNat < m → (μ0 0 43 - q).toNat < m' → TD (S_X2_takeDebts_12 sp m q σ).2 (S_X12_feasts_12 m' q μ).2 ∧ (∀ k : Nat, k ≠ 0 → k ≠ 28 → (S_X12_feasts_12 m' q μ).2 k = μ0 k) ∧ ∀ j : Int, j ≠ 50 → (S_X12_feasts_12 m' q μ).2 0 j = μ0 0 j
  | 0, _, q, σ, μ, _, _, _, _, _, h, _ => absurd h (Nat.not_lt_zero _)
  | _ + 1, 0, q, σ, μ, _, _, _, _, _, _, h => absurd h (Nat.not_lt_zero _)
  | m + 1, m' + 1, q, σ, μ, hs, hm, h0, hT, q0, h, h' => by
    have e8 : σ 53 8 = μ0 0 43 := by rw [hs 53 (by decide) (by decide)]; exact hL.2.2.1.1
    rw [S_X2_takeDebts_12, S_X12_feasts_12, e8, h0 43 (by decide)]
    by_cases c : μ0 0 43 ≤ q
    · rw [if_pos c, if_pos c]
      exact ⟨hT, hm, h0⟩
    · rw [if_neg c, if_neg c, hT.1.1]
      by_cases c1 : 8 ≤ μ 0 50
      · rw [if_pos c1, if_pos c1]
        exact ⟨hT, hm, h0⟩
      · rw [if_neg c1, if_neg c1]
        have hd := hL.2.2.2 q q0 (by omega)
        have e63 : σ 63 q = μ0 20 q := by rw [hs 63 (by decide) (by decide)]; exact hd.1.2.2.2
        have e20 : μ 20 q = μ0 20 q := by rw [hm 20 (by decide) (by decide)]
        rw [e63, e20]
        by_cases c2 : μ0 20 q = 0
        · rw [if_pos (show μ0 20 q ≤ 0 by omega), if_pos c2]
          exact td12 hV hL hsp m m' (q + 1) σ μ hs hm h0 hT (by omega) (by omega) (by omega)
        · rw [if_neg (show ¬ μ0 20 q ≤ 0 by omega), if_neg c2]
          have hVs : VS σ μ := VS_row hV (fun k _ _ => hs k (by omega) (by omega)) (hm 2 (by decide) (by decide))
          have hLs : LC σ μ := LC_row hL (by rw [hs 53 (by decide) (by decide)]) (by rw [hs 53 (by decide) (by decide)]) (hs 54 (by decide) (by decide)) (hs 59 (by decide) (by decide)) (hs 60 (by decide) (by decide)) (hs 61 (by decide) (by decide)) (hs 63 (by decide) (by decide)) (h0 43 (by decide)) (h0 45 (by decide)) (hm 2 (by decide) (by decide)) (hm 11 (by decide) (by decide)) (hm 16 (by decide) (by decide)) (hm 17 (by decide) (by decide)) (hm 18 (by decide) (by decide)) (hm 20 (by decide) (by decide))
          have nm : ∀ k : Nat, k ≠ 0 → k ≠ 28 → zu (zu μ 28 (μ 0 50) q) 0 50 (μ 0 50 + 1) k = μ k := fun k a b => by rw [zu_row _ _ _ a, zu_row _ _ _ b]
          have n0 : ∀ j : Int, j ≠ 50 → zu (zu μ 28 (μ 0 50) q) 0 50 (μ 0 50 + 1) 0 j = μ 0 j := fun j a => by rw [zu_off _ _ _ a, zu_ne _ _ _ _ (by decide)]
          refine td12 hV hL hsp m m' (q + 1) _ _ (fun k a b => by rw [zu_row _ _ _ a, zu_row _ _ _ b, hs k a b]) (fun k a b => by rw [nm k a b, hm k a b]) (fun j a => by rw [n0 j a, h0 j a]) ⟨⟨by rw [zu_at, zu_at], by rw [zu_at]; have := hT.1; omega, by rw [zu_at]; omega⟩, fun k k0 k1 => ?_⟩ (by omega) (by omega) (by omega)
          rw [zu_at] at k1
          have r28 : zu (zu μ 28 (μ 0 50) q) 0 50 (μ 0 50 + 1) 28 k = if k = μ 0 50 then q else μ 28 k := by rw [zu_ne _ _ _ _ (by decide), zu_if]
          have r83 : ∀ v : Int, zu (zu σ 83 (μ 0 50) v) 81 1 (μ 0 50 + 1) 83 k = if k = μ 0 50 then v else σ 83 k := fun v => by rw [zu_ne _ _ _ _ (by decide), zu_if]
          rw [r28, n0 43 (by decide), h0 43 (by decide), nm 2 (by decide) (by decide)]
          have mpc : ∀ d f : Int, 0 ≤ d ∧ d < μ 0 43 → 0 ≤ f ∧ f < μ 2 1 → (R_X12_mayPay (zu (zu μ 28 (μ 0 50) q) 0 50 (μ 0 50 + 1)) d f = 0 ↔ R_X12_mayPay μ d f = 0) := fun d f a b => mp_cg hVs hLs n0 (fun k hk => nm k (by omega) (by omega)) a b
          by_cases x : k = μ 0 50
          · refine ⟨by rw [if_pos x]; omega, fun f f0 f1 => ?_⟩
            rw [r83, if_pos x, if_pos x, not_congr (mpc q f ⟨q0, by rw [h0 43 (by decide)]; omega⟩ ⟨f0, f1⟩)]
            exact pay_iff hVs hLs ⟨hsp.1, by rw [hm 2 (by decide) (by decide), hm 11 (by decide) (by decide)]; exact hsp.2⟩ ⟨q0, by rw [h0 43 (by decide)]; omega⟩ ⟨f0, f1⟩
          · have t := hT.2 k k0 (by omega)
            refine ⟨by rw [if_neg x, ← h0 43 (by decide)]; exact t.1, fun f f0 f1 => ?_⟩
            rw [r83, if_neg x, if_neg x, not_congr (mpc (μ 28 k) f t.1 ⟨f0, f1⟩)]
            exact t.2 f f0 f1
/-- the model's feast is the same choice as the class's -/
theorem feasts_eq {σ μ : zG} {μ0 : zG} (hμ : μ = R_X12_run μ0 (-1)) (hQ : QR σ μ) : FE (R_X12_feasts μ0 0 50) (μ 2 1) (fun k x => hb (R_X2_takeDebts σ 83 k) x) (σ 10) (fun i => if i = 1 then R_X12_feasts μ0 0 50 else if i = 2 then R_X12_feasts μ0 0 50 - FS wu (gof (R_X12_feasts μ0 27)) (R_X12_feasts μ0 0 50).toNat 0 else FS (wh (σ 10)) (gof (R_X12_feasts μ0 27)) (R_X12_feasts μ0 0 50).toNat 0) (R_X12_feasts μ0 27) ∧ R_X2_takeDebts σ 81 1 = R_X12_feasts μ0 0 50 ∧ (0 ≤ R_X12_feasts μ0 0 50 ∧ R_X12_feasts μ0 0 50 ≤ 8) ∧ R_X12_feasts μ0 2 = μ 2 ∧ (∀ j : Int, 0 ≤ j → j < R_X12_feasts μ0 0 50 → -1 ≤ R_X12_feasts μ0 27 j ∧ R_X12_feasts μ0 27 j < μ 2 1) := by
  have hV := hQ.1
  have hL := hQ.2.2.1.1
  have hp := hV.1
  have hF := hV.2.1
  have hm := hL.2.2.1
  have hh : ∀ f : Int, 0 ≤ f → f < μ 2 1 → μ 2 ((8 + (3 * f)) + 1) = σ 10 f ∧ 0 ≤ σ 10 f ∧ σ 10 f ≤ 99 := fun f f0 f1 => by
    have a := hV.2.2.2.2.1 f f0 f1
    rw [a.2.1]
    exact ⟨rfl, a.2.2.2.2.1⟩
  -- those looked at
  have hsp : (0 ≤ R_X4_knownToAll (zu σ 81 1 0) ∧ R_X4_knownToAll (zu σ 81 1 0) < 4096) ∧ ∀ f : Int, 0 ≤ f → f < 12 → (hb (R_X4_knownToAll (zu σ 81 1 0)) f ↔ ∀ j : Int, 0 ≤ j → j < μ 2 0 → hb (μ 11 j) f) := by
    have k := kta (σ := zu σ 81 1 0) (P := μ 2 0) (by rw [zu_ne _ _ _ _ (by decide)]; exact hp.1) (fun a a0 a1 => by rw [zu_ne _ _ _ _ (by decide), (hL.1 a a0 (by omega)).1]; exact (hL.1 a a0 (by omega)).2.1) 10 4095 0 (by decide) (by omega) ⟨by decide, by decide⟩
    refine ⟨k.1, fun f f0 f1 => ?_⟩
    unfold R_X4_knownToAll
    rw [k.2 f f0 f1]
    constructor
    · intro x j j0 j1
      have := x.2 j j0 j1
      rw [zu_ne _ _ _ _ (by decide), (hL.1 j j0 (by omega)).1] at this
      exact this
    · intro x
      refine ⟨all12 f f0 f1, fun j j0 j1 => ?_⟩
      rw [zu_ne _ _ _ _ (by decide), (hL.1 j j0 (by omega)).1]
      exact x j j0 j1
  have td := td12 hV hL hsp 200 500 0 (zu σ 81 1 0) (zu μ 0 50 0) (fun k a _ => zu_row _ _ _ a) (fun k a _ => zu_row _ _ _ a) (fun j a => zu_off _ _ _ a) ⟨⟨by rw [zu_at, zu_at], by rw [zu_at]; exact Int.le_refl _, by rw [zu_at]; decide⟩, fun k k0 k1 => by rw [zu_at] at k1; omega⟩ (by decide) (by omega) (by omega)
  have eTD : (S_X2_takeDebts_12 (R_X4_knownToAll (zu σ 81 1 0)) 200 0 (zu σ 81 1 0)).2 = R_X2_takeDebts σ := rfl
  rw [eTD] at td
  have eRF : R_X12_feasts μ0 = (S_X12_feasts_305 20 0 0 ((S_X12_feasts_105 20 ((((S_X12_feasts_12 500 0 (zu μ 0 50 0)).2) 0 50) - 1) ((S_X12_feasts_69 5000 0 ((S_X12_feasts_12 500 0 (zu μ 0 50 0)).2)).2)).2)).2.2 := by rw [hμ]; rfl
  generalize (S_X12_feasts_12 500 0 (zu μ 0 50 0)).2 = μ1 at *
  obtain ⟨⟨⟨t1, t2, t3⟩, t4⟩, m1, m0⟩ := td
  have e2 : μ1 2 = μ 2 := m1 2 (by decide) (by decide)
  have f69 : ∀ k : Nat, k ≠ 26 → (S_X12_feasts_69 5000 0 μ1).2 k = μ1 k := fun k hk => fr_S_X12_feasts_69 _ _ _ (by simp; exact hk)
  have z69 := s69 (n := μ1 0 50) 5000 0 μ1 (by decide) (by decide) rfl
  generalize (S_X12_feasts_69 5000 0 μ1).2 = μ2 at *
  have mayρ : ∀ ρ : zG, (∀ r : Nat, r ≠ 26 → r ≠ 27 → ρ r = μ1 r) → ∀ k : Int, 0 ≤ k → k < μ1 0 50 → ∀ f : Int, 0 ≤ f → f < μ 2 1 → ((fun k x => hb (R_X2_takeDebts σ 83 k) x) k f ↔ ¬ R_X12_mayPay ρ (ρ 28 k) f = 0) := by
    intro ρ hρ k k0 k1 f f0 f1
    have t := t4 k k0 k1
    have x := t.2 f f0 (by rw [e2]; exact f1)
    have c := mp_cg (σ := σ) (μ := μ1) (ν := ρ) (VS_row hV (fun _ _ _ => rfl) e2) (LC_m hL m0 (fun k hk => m1 k (by omega) (by omega))) (fun j _ => by rw [hρ 0 (by decide) (by decide)]) (fun k hk => hρ k (by omega) (by omega)) (d := μ1 28 k) (f := f) t.1 ⟨f0, by rw [e2]; exact f1⟩
    show hb (R_X2_takeDebts σ 83 k) f ↔ _
    rw [x, hρ 28 (by decide) (by decide), not_congr c]
  have T := tab105 (n := μ1 0 50) (F := μ 2 1) (h := σ 10) (may := fun k x => hb (R_X2_takeDebts σ 83 k) x) t3 (by omega) (fun f f0 f1 => (hh f f0 f1).2) 20 (μ1 0 50 - 1) μ2 (by omega) (by omega) (by omega) (by rw [f69 2 (by decide), e2]) (fun f f0 f1 => by rw [f69 2 (by decide), e2]; exact (hh f f0 f1).1) (fun ρ hρ => mayρ ρ (fun r a b => by rw [hρ r a, f69 r a])) ⟨fun st a b => z69.1 st a b, fun k a b => absurd b (by omega)⟩
  have f105 : ∀ k : Nat, k ≠ 26 → (S_X12_feasts_105 20 (μ1 0 50 - 1) μ2).2 k = μ2 k := fun k hk => fr_S_X12_feasts_105 _ _ _ (by simp; exact hk)
  generalize (S_X12_feasts_105 20 (μ1 0 50 - 1) μ2).2 = μ3 at *
  have G := greedy305 (n := μ1 0 50) (F := μ 2 1) (h := σ 10) (t := μ3 26) (may := fun k x => hb (R_X2_takeDebts σ 83 k) x) t3 (by omega) (fun f f0 f1 => (hh f f0 f1).2) T 20 0 0 μ3 (by decide) (by omega) ⟨by decide, by decide⟩ (by rw [f105 0 (by decide), f69 0 (by decide)]) rfl (by rw [f105 2 (by decide), f69 2 (by decide), e2]) (fun f f0 f1 => by rw [f105 2 (by decide), f69 2 (by decide), e2]; exact (hh f f0 f1).1) (fun ρ hρ => mayρ ρ (fun r a b => by rw [hρ r b, f105 r a, f69 r a]))
  have f305 : ∀ k : Nat, k ≠ 27 → (S_X12_feasts_305 20 0 0 μ3).2.2 k = μ3 k := fun k hk => fr_S_X12_feasts_305 _ _ _ _ (by simp; exact hk)
  rw [← eRF] at G f305
  have e50 : R_X12_feasts μ0 0 50 = μ1 0 50 := by rw [f305 0 (by decide), f105 0 (by decide), f69 0 (by decide)]
  have eF2 : R_X12_feasts μ0 2 = μ 2 := by rw [f305 2 (by decide), f105 2 (by decide), f69 2 (by decide), e2]
  rw [e50]
  rw [show (μ1 0 50 - 0).toNat = (μ1 0 50).toNat by omega] at G
  have O := greedy_opt (n := μ1 0 50) (by omega) t3 (fun f f0 f1 => (hh f f0 f1).2) (TB_RU T) (μ1 0 50).toNat 0 0 (by decide) (by omega) ⟨by decide, by decide⟩ G.2.2
  have gofk : ∀ k : Int, 0 ≤ k → k < μ1 0 50 → R_X12_feasts μ0 27 k = if gof (R_X12_feasts μ0 27) k = 15 then -1 else gof (R_X12_feasts μ0 27) k := fun k k0 k1 => by
    have a := G.2.1 k k0 k1
    unfold gof
    by_cases c : R_X12_feasts μ0 27 k < 0
    · simp only [if_pos c, if_true]; omega
    · simp only [if_neg c]
      rw [if_neg (by omega)]
  refine ⟨⟨if_pos rfl, gof (R_X12_feasts μ0 27), O.1, O.2.2, ?_, ?_, gofk⟩, t1, ⟨t2, t3⟩, eF2, fun j j0 j1 => G.2.1 j j0 j1⟩
  · dsimp only
    rw [if_neg (by decide), if_pos rfl]
  · dsimp only
    rw [if_neg (by decide), if_neg (by decide)]
/-- two least choices are one -/
theorem FE_eq {n F : Int} {may : Int → Int → Prop} {h a b a' b' : Int → Int} (hn : 0 ≤ n ∧ n ≤ 8) (hF : F ≤ 12) (hh : ∀ f : Int, 0 ≤ f → f < F → 0 ≤ h f ∧ h f ≤ 99) (x : FE n F may h a b) (y : FE n F may h a' b') : a 1 = a' 1 ∧ a 2 = a' 2 ∧ a 3 = a' 3 ∧ ∀ k : Int, 0 ≤ k → k < n → b k = b' k := by
  obtain ⟨x1, g, x2, x3, x4, x5, x6⟩ := x
  obtain ⟨y1, g', y2, y3, y4, y5, y6⟩ := y
  have l1 := x3 g' y2
  have l2 := y3 g x2
  have q0 := q16_t (k := 0) (by decide)
  have b1 := FS_bd (g := g) hF hh n.toNat 0 (by decide) (by omega) (fun j j0 j1 => VF_DG x2 j j0 (by omega))
  have b2 := FS_bd (g := g') hF hh n.toNat 0 (by decide) (by omega) (fun j j0 j1 => VF_DG y2 j j0 (by omega))
  unfold ck at l1 l2
  have eU : FS wu g n.toNat 0 = FS wu g' n.toNat 0 ∧ FS (wh h) g n.toNat 0 = FS (wh h) g' n.toNat 0 ∧ FS wd g n.toNat 0 = FS wd g' n.toNat 0 := by
    generalize FS wu g n.toNat 0 = U at *
    generalize FS wu g' n.toNat 0 = U' at *
    generalize FS (wh h) g n.toNat 0 = H at *
    generalize FS (wh h) g' n.toNat 0 = H' at *
    generalize FS wd g n.toNat 0 = D at *
    generalize FS wd g' n.toNat 0 = D' at *
    clear x2 x3 x6 y2 y3 y6 hh
    omega
  have ge := ck_inj hF hh n.toNat 0 (by decide) (by omega) (fun j j0 j1 => VF_DG x2 j j0 (by omega)) (fun j j0 j1 => VF_DG y2 j j0 (by omega)) eU.2.2
  refine ⟨by rw [x1, y1], by rw [x4, y4, eU.1], by rw [x5, y5, eU.2.1], fun k k0 k1 => ?_⟩
  rw [x6 k k0 k1, y6 k k0 k1, ge k k0 (by omega)]
/-- the feast as the class keeps it is that of its ledger -/
def FC (σ : zG) : Prop := ¬ σ 81 0 = 0 → ∃ σ0 : zG, σ0 81 0 = 0 ∧ (∀ c : Nat, 5 ≤ c → c < 67 → c < 16 ∨ (27 ≤ c ∧ c < 35) ∨ 53 ≤ c → σ0 c = σ c) ∧ σ 81 1 = R_X2_settle σ0 81 1 ∧ σ 81 2 = R_X2_settle σ0 81 2 ∧ σ 81 3 = R_X2_settle σ0 81 3 ∧ σ 82 = R_X2_settle σ0 82
theorem fsum {n F i : Int} {ν : zG} {h : Int → Int} (hn : 0 ≤ n ∧ n ≤ 8) (hF : F ≤ 12) (e : ν 0 50 = n) (hd : ∀ j : Int, 0 ≤ j → j < n → -1 ≤ ν 27 j ∧ ν 27 j < F) (hh : ∀ f : Int, 0 ≤ f → f < F → ν 2 ((8 + (3 * f)) + 1) = h f ∧ 0 ≤ h f ∧ h f ≤ 99) : ∀ (m : Nat) (cn sm q : Int), 0 ≤ q → q ≤ n → (n - q).toNat < m → 0 ≤ sm → sm ≤ 99 * q → (L_X12_feast_27 i m cn sm q ν).1 = if i = 0 then cn + ((n - q) - FS wu (gof (ν 27)) (n - q).toNat q) else sm + FS (wh h) (gof (ν 27)) (n - q).toNat q
  | 0, cn, sm, q, _, _, hm, _, _ => absurd hm (Nat.not_lt_zero _)
  | m + 1, cn, sm, q, q0, q1, hm, s0, s1 => by
    rw [L_X12_feast_27, e]
    by_cases c : n ≤ q
    · rw [if_pos c, show (n - q).toNat = 0 by omega]
      simp only [FS]
      by_cases z : i = 0
      · simp only [if_pos z]; omega
      · simp only [if_neg z]; omega
    · rw [if_neg c, show (n - q).toNat = (n - (q + 1)).toNat + 1 by omega]
      simp only [FS]
      have d := hd q q0 (by omega)
      by_cases c1 : 0 ≤ ν 27 q
      · have hq := hh (ν 27 q) c1 d.2
        have g15 : gof (ν 27) q = ν 27 q := by unfold gof; rw [if_neg (by omega)]
        rw [if_pos c1, hq.1, w32_id ⟨by omega, by omega⟩, fsum hn hF e hd hh m _ _ (q + 1) (by omega) (by omega) (by omega) (by omega) (by omega), g15, wu_n _ (show ¬ ν 27 q = 15 by omega), wh_n _ (show ¬ ν 27 q = 15 by omega)]
        by_cases z : i = 0
        · simp only [if_pos z]; omega
        · simp only [if_neg z]; omega
      · have g15 : gof (ν 27) q = 15 := by unfold gof; rw [if_pos (by omega)]
        rw [if_neg c1, fsum hn hF e hd hh m _ _ (q + 1) (by omega) (by omega) (by omega) (by omega) (by omega), g15, wu_p _ rfl, wh_p _ rfl]
        by_cases z : i = 0
        · simp only [if_pos z]; omega
        · simp only [if_neg z]; omega
/-- the class's feast behind settle, against the model's -/
theorem feast_key {σ μ : zG} (hV : VS σ μ) (hB : BK σ μ) (hD : DD σ) (hJ : LJ σ) (hC : FC σ) {μ' : zG} (e2 : μ' 2 = μ 2) (e9 : μ' 9 = μ 9) : (0 ≤ R_X12_feasts μ' 0 50 ∧ R_X12_feasts μ' 0 50 ≤ 8) ∧ (R_X2_settle σ 81 1 = R_X12_feasts μ' 0 50 ∧ R_X2_settle σ 81 2 = R_X12_feasts μ' 0 50 - FS wu (gof (R_X12_feasts μ' 27)) (R_X12_feasts μ' 0 50).toNat 0 ∧ R_X2_settle σ 81 3 = FS (wh (σ 10)) (gof (R_X12_feasts μ' 27)) (R_X12_feasts μ' 0 50).toNat 0 ∧ ∀ k : Int, 0 ≤ k → k < R_X12_feasts μ' 0 50 → R_X2_settle σ 82 k = R_X12_feasts μ' 27 k) ∧ R_X12_feasts μ' 2 = μ 2 ∧ (∀ j : Int, 0 ≤ j → j < R_X12_feasts μ' 0 50 → -1 ≤ R_X12_feasts μ' 27 j ∧ R_X12_feasts μ' 27 j < μ 2 1) := by
  have er2 : R_X12_run μ' (-1) 2 = μ 2 := by rw [run_2, e2]
  have main : ∀ σ0 : zG, σ0 81 0 = 0 → QR σ0 (R_X12_run μ' (-1)) → σ0 10 = σ 10 → (0 ≤ R_X12_feasts μ' 0 50 ∧ R_X12_feasts μ' 0 50 ≤ 8) ∧ (R_X2_settle σ0 81 1 = R_X12_feasts μ' 0 50 ∧ R_X2_settle σ0 81 2 = R_X12_feasts μ' 0 50 - FS wu (gof (R_X12_feasts μ' 27)) (R_X12_feasts μ' 0 50).toNat 0 ∧ R_X2_settle σ0 81 3 = FS (wh (σ 10)) (gof (R_X12_feasts μ' 27)) (R_X12_feasts μ' 0 50).toNat 0 ∧ ∀ k : Int, 0 ≤ k → k < R_X12_feasts μ' 0 50 → R_X2_settle σ0 82 k = R_X12_feasts μ' 27 k) ∧ R_X12_feasts μ' 2 = μ 2 ∧ (∀ j : Int, 0 ≤ j → j < R_X12_feasts μ' 0 50 → -1 ≤ R_X12_feasts μ' 27 j ∧ R_X12_feasts μ' 27 j < μ 2 1) := by
    intro σ0 z0 hQ e10
    have fe := feasts_eq (σ := σ0) (μ0 := μ') rfl hQ
    rw [er2, e10] at fe
    have hF := hQ.1.2.1
    rw [er2] at hF
    have hh : ∀ f : Int, 0 ≤ f → f < μ 2 1 → 0 ≤ σ 10 f ∧ σ 10 f ≤ 99 := fun f f0 f1 => by
      have a := hQ.1.2.2.2.2.1 f f0 (by rw [er2]; exact f1)
      rw [← e10, a.2.1]
      exact a.2.2.2.2.1
    have cl := settle_FE (σ := σ0) (F := μ 2 1) z0 (by rw [fe.2.1]; exact fe.2.2.1) hF.1 ⟨by omega, by omega⟩ (by rw [e10]; exact hh)
    rw [fe.2.1, e10] at cl
    have q := FE_eq fe.2.2.1 (by omega) hh cl fe.1
    refine ⟨fe.2.2.1, ⟨?_, ?_, ?_, q.2.2.2⟩, fe.2.2.2⟩
    · rw [q.1, if_pos rfl]
    · rw [q.2.1, if_neg (by decide), if_pos rfl]
    · rw [q.2.2.1, if_neg (by decide), if_neg (by decide)]
  by_cases z : σ 81 0 = 0
  · exact main σ z (QR_of hV hB hD hJ e2 e9) rfl
  · obtain ⟨σ0, z0, hr, a1, a2, a3, a4⟩ := hC z
    have hr1 : ∀ c : Nat, 5 ≤ c → c < 35 → c < 16 ∨ 27 ≤ c → σ0 c = σ c := fun c a b d => hr c a (by omega) (by omega)
    have hB0 : BK σ0 μ := by
      unfold BK LN at *
      rw [hr1 27 (by decide) (by decide) (by decide), hr1 28 (by decide) (by decide) (by decide), hr1 29 (by decide) (by decide) (by decide), hr1 30 (by decide) (by decide) (by decide), hr1 31 (by decide) (by decide) (by decide), hr1 32 (by decide) (by decide) (by decide), hr1 33 (by decide) (by decide) (by decide)]
      exact hB
    have hD0 : DD σ0 := by
      unfold DD DY DYl at *
      rw [hr1 27 (by decide) (by decide) (by decide), hr1 28 (by decide) (by decide) (by decide), hr1 29 (by decide) (by decide) (by decide), hr1 34 (by decide) (by decide) (by decide)]
      exact hD
    have m := main σ0 z0 (QR_of (VS_row hV (fun c a b => hr1 c a (by omega) (Or.inl b)) rfl) hB0 hD0 (LJ_row hJ hr) e2 e9) (hr1 10 (by decide) (by decide) (by decide))
    have es : R_X2_settle σ = σ := by unfold R_X2_settle; rw [if_neg z]
    rw [es, a1, a2, a3, a4]
    exact m
theorem q_feastAt {σ μ : zG} (hV : VS σ μ) (hB : BK σ μ) (hD : DD σ) (hJ : LJ σ) (hC : FC σ) (x : Int) : V_X11_feastAt σ x = V_X12_feastAt μ x ∧ R_X2_settle σ 81 1 ≤ 8 := by
  have k := feast_key hV hB hD hJ hC (μ' := zu μ 0 0 0) (zu_row _ _ _ (by decide)) (zu_row _ _ _ (by decide))
  refine ⟨?_, by rw [k.2.1.1]; exact k.1.2⟩
  unfold V_X11_feastAt V_X12_feastAt
  rw [k.2.1.1]
  by_cases c : x < 0
  · rw [if_pos c, if_neg (by omega)]
  · rw [if_neg c]
    by_cases c1 : R_X12_feasts (zu μ 0 0 0) 0 50 ≤ x
    · rw [if_pos c1, if_neg (by omega)]
    · rw [if_neg c1, if_pos (by omega)]
      exact k.2.1.2.2.2 x (by omega) (by omega)
theorem q_feast {σ μ : zG} (hV : VS σ μ) (hB : BK σ μ) (hD : DD σ) (hJ : LJ σ) (hC : FC σ) (i : Int) : V_X11_feast σ i = (R_X12_feast μ i).1 := by
  have k := feast_key hV hB hD hJ hC (μ' := zu μ 0 0 0) (zu_row _ _ _ (by decide)) (zu_row _ _ _ (by decide))
  have hF := hV.2.1
  unfold V_X11_feast R_X12_feast
  have fs := fun i => fsum (n := R_X12_feasts (zu μ 0 0 0) 0 50) (F := μ 2 1) (i := i) (ν := R_X12_feasts (zu μ 0 0 0)) (h := σ 10) k.1 (by omega) rfl k.2.2.2 (fun f f0 f1 => by
    have a := hV.2.2.2.2.1 f f0 f1
    rw [k.2.2.1, a.2.1]
    exact ⟨rfl, a.2.2.2.2.1⟩) 20 0 0 0 (by decide) k.1.1 (by have := k.1; omega) (by decide) (by decide)
  by_cases c : i = 0
  · rw [if_pos c, if_pos (by omega), fs i, if_pos c, k.2.1.2.1, show (R_X12_feasts (zu μ 0 0 0) 0 50 - 0).toNat = (R_X12_feasts (zu μ 0 0 0) 0 50).toNat by omega]
    omega
  · rw [if_neg c]
    by_cases c1 : i = 1
    · rw [if_pos c1, if_pos (by omega), fs i, if_neg c, k.2.1.2.2.1, show (R_X12_feasts (zu μ 0 0 0) 0 50 - 0).toNat = (R_X12_feasts (zu μ 0 0 0) 0 50).toNat by omega]
      omega
    · rw [if_neg c1, if_neg (by omega)]
