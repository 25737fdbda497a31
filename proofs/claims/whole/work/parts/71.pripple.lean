/-! pure: what a telling would stir up -/
theorem l78_20 (who f li fr : Int) : ∀ (n : Nat) (q : Int) (μ : zG), (μ 0 43 - q).toNat < n → ∀ d : Int, (L_X12_learns_78 who f li fr n q μ) 20 d = if q ≤ d ∧ d < μ 0 43 ∧ μ 17 d = who ∧ hb fr (μ 18 d) then upM (μ 20 d) (μ 2 7) else μ 20 d
  | 0, q, μ, h, d => absurd h (Nat.not_lt_zero _)
  | n + 1, q, μ, h, d => by
    rw [L_X12_learns_78]
    by_cases c : μ 0 43 ≤ q
    · rw [if_pos c, if_neg (fun x => absurd x.2.1 (by omega))]
    · rw [if_neg c]
      by_cases k : μ 17 q = who
      · rw [if_pos k]
        by_cases b : hb fr (μ 18 q)
        · rw [if_pos b]
          have e0 : zu (zu μ 23 q 1) 20 q (upM (μ 20 q) (μ 2 7)) 0 = μ 0 := (zu_row _ _ _ (by decide)).trans (zu_row _ _ _ (by decide))
          have e2 : zu (zu μ 23 q 1) 20 q (upM (μ 20 q) (μ 2 7)) 2 = μ 2 := (zu_row _ _ _ (by decide)).trans (zu_row _ _ _ (by decide))
          have e17 : zu (zu μ 23 q 1) 20 q (upM (μ 20 q) (μ 2 7)) 17 = μ 17 := (zu_row _ _ _ (by decide)).trans (zu_row _ _ _ (by decide))
          have e18 : zu (zu μ 23 q 1) 20 q (upM (μ 20 q) (μ 2 7)) 18 = μ 18 := (zu_row _ _ _ (by decide)).trans (zu_row _ _ _ (by decide))
          have e20 : zu (zu μ 23 q 1) 20 q (upM (μ 20 q) (μ 2 7)) 20 d = if d = q then upM (μ 20 q) (μ 2 7) else μ 20 d := by rw [zu_if, zu_ne _ _ _ _ (by decide)]
          rw [l78_20 who f li fr n (q + 1) _ (by rw [e0]; omega) d, e0, e2, e17, e18, e20]
          by_cases e : d = q
          · rw [if_neg (fun x => absurd x.1 (by omega)), if_pos e, if_pos ⟨by omega, by omega, by rw [e]; exact k, by rw [e]; exact b⟩, e]
          · rw [if_neg e]
            by_cases y : q + 1 ≤ d ∧ d < μ 0 43 ∧ μ 17 d = who ∧ hb fr (μ 18 d)
            · rw [if_pos y, if_pos ⟨by omega, y.2⟩]
            · rw [if_neg y, if_neg (fun x => y ⟨by omega, x.2⟩)]
        · rw [if_neg b, l78_20 who f li fr n (q + 1) μ (by omega) d]
          by_cases y : q + 1 ≤ d ∧ d < μ 0 43 ∧ μ 17 d = who ∧ hb fr (μ 18 d)
          · rw [if_pos y, if_pos ⟨by omega, y.2⟩]
          · rw [if_neg y, if_neg (fun x => y ⟨by
              have : d ≠ q := fun e => b (e ▸ x.2.2.2)
              omega, x.2⟩)]
      · rw [if_neg k, l78_20 who f li fr n (q + 1) μ (by omega) d]
        by_cases y : q + 1 ≤ d ∧ d < μ 0 43 ∧ μ 17 d = who ∧ hb fr (μ 18 d)
        · rw [if_pos y, if_pos ⟨by omega, y.2⟩]
        · rw [if_neg y, if_neg (fun x => y ⟨by
            have : d ≠ q := fun e => k (e ▸ x.2.2.1)
            omega, x.2⟩)]
theorem rip_2 {who to f nw : Int} {μ : zG} : ∀ (n : Nat) (sm d : Int), (μ 0 43 - d).toNat < n → (L_X12_ripple_113 who to f 2 nw n sm d μ).1 = R_X12_owedAll (R_X12_learns μ to f (-1))
  | 0, sm, d, h => absurd h (Nat.not_lt_zero _)
  | n + 1, sm, d, h => by
    rw [L_X12_ripple_113]
    by_cases c : μ 0 43 ≤ d
    · rw [if_pos c, if_neg (by decide)]
    · rw [if_neg c]
      repeat' split
      all_goals exact rip_2 n _ _ (by omega)
theorem rip_1 {who to f fr : Int} {σ μ : zG} (hC : LC σ μ) : ∀ (n n' : Nat) (sm d : Int), 0 ≤ d → (μ 0 43 - d).toNat < n → (μ 0 43 - d).toNat < n' → L_X4_openAbout_5 σ to fr n sm d = (L_X12_ripple_113 who to f 1 fr n' sm d μ).1
  | 0, _, sm, d, _, h, _ => absurd h (Nat.not_lt_zero _)
  | _ + 1, 0, sm, d, _, _, h => absurd h (Nat.not_lt_zero _)
  | n + 1, n' + 1, sm, d, h0, h, h' => by
    rw [L_X4_openAbout_5, L_X12_ripple_113, hC.2.2.1.1]
    by_cases c : μ 0 43 ≤ d
    · rw [if_pos c, if_pos c, if_pos rfl]
    · rw [if_neg c, if_neg c]
      obtain ⟨e1, e2, e3, e4⟩ := (hC.2.2.2 d h0 (by omega)).1
      have ih := fun s => rip_1 (who := who) (to := to) (f := f) (fr := fr) hC n n' s (d + 1) (by omega) (by omega) (by omega)
      rw [e2, e3, e4]
      by_cases k : μ 17 d = to
      · rw [if_pos k]
        by_cases z : μ 20 d ≤ 0
        · rw [if_pos z, if_neg (fun x => absurd x.2.1 (by omega))]; exact ih _
        · rw [if_neg z]
          by_cases b : hb fr (μ 18 d)
          · rw [if_pos b, if_pos ⟨k, by omega, b⟩]; exact ih _
          · rw [if_neg b, if_neg (fun x => b x.2.2)]; exact ih _
      · rw [if_neg k, if_neg (fun x => k x.1)]; exact ih _
theorem up792 {x t : Int} (hx : 0 ≤ x ∧ x ≤ 792) (ht : 10 ≤ t ∧ t ≤ 40) : 0 ≤ (x * t + 9) / 10 ∧ (x * t + 9) / 10 ≤ 3168 := by
  have h1 : x * t ≤ 792 * 40 := Int.mul_le_mul hx.2 ht.2 (by omega) (by decide)
  have h2 : 0 ≤ x * t := Int.mul_nonneg hx.1 (by omega)
  generalize x * t = y at *
  omega
/-- by how much a debt grows -/
def gro (μ : zG) (to fr d : Int) : Int := if μ 17 d = to ∧ 0 < μ 20 d ∧ hb fr (μ 18 d) then (μ 20 d * μ 2 7 + 9) / 10 - μ 20 d else 0
theorem gro_sum {σ μ : zG} (hV : VS σ μ) (hC : LC σ μ) {to fr : Int} : ∀ (n : Nat) (sm d : Int), 0 ≤ d → d ≤ μ 0 43 → (μ 0 43 - d).toNat < n → -3168 * d ≤ sm → sm ≤ 3168 * d → L_X4_growthAbout_5 σ to fr n sm d = sm + (ssum (gro μ to fr) (μ 0 43).toNat - ssum (gro μ to fr) d.toNat)
  | 0, sm, d, _, _, h, _, _ => absurd h (Nat.not_lt_zero _)
  | n + 1, sm, d, h0, h1, h, l, u => by
    have hm := hC.2.2.1
    have hs := hV.2.2.2.1
    rw [L_X4_growthAbout_5, hC.2.2.1.1]
    by_cases c : μ 0 43 ≤ d
    · rw [if_pos c, show μ 0 43 = d by omega]; omega
    · rw [if_neg c]
      obtain ⟨⟨e1, e2, e3, e4⟩, _, _, _, x0, x1, _⟩ := hC.2.2.2 d h0 (by omega)
      have ur := up792 (x := μ 20 d) ⟨x0, x1⟩ hs.2.2.2.2.2.2.2.2.2
      have ev : V_X4_grown σ (μ 20 d) = (μ 20 d * μ 2 7 + 9) / 10 := by
        unfold V_X4_grown
        rw [hs.2.2.2.2.1, cut_val ⟨x0, x1⟩ (by omega)]
      rw [e2, e3, e4, ev]
      by_cases k : μ 17 d = to ∧ 0 < μ 20 d ∧ hb fr (μ 18 d)
      · have eg : gro μ to fr d = (μ 20 d * μ 2 7 + 9) / 10 - μ 20 d := if_pos k
        have gr : -3168 ≤ gro μ to fr d ∧ gro μ to fr d ≤ 3168 := by rw [eg]; omega
        rw [if_pos k, ← eg]
        rw [w32_id (z := gro μ to fr d) ⟨by omega, by omega⟩, w32_id (z := sm + gro μ to fr d) ⟨by omega, by omega⟩, gro_sum hV hC n _ _ (by omega) (by omega) (by omega) (by omega) (by omega), ssum_s _ h0]
        omega
      · have eg : gro μ to fr d = 0 := if_neg k
        rw [if_neg k, w32_id (z := sm + 0) ⟨by omega, by omega⟩, gro_sum hV hC n _ _ (by omega) (by omega) (by omega) (by omega) (by omega), ssum_s _ h0, eg]
        omega
theorem rip_sum {σ μ : zG} (hV : VS σ μ) (hC : LC σ μ) {to f : Int} (hto : 0 ≤ to ∧ to < μ 2 0) (hf : 0 ≤ f ∧ f < μ 2 1) : w32 ((V_X4_owedInAll σ) + (R_X4_growthAbout σ to (V_X4_freshFor σ to f))) = R_X12_owedAll (R_X12_learns μ to f (-1)) ∧ V_X4_freshFor σ to f = band (R_X12_follows μ (bor (μ 11 to) (bshl 1 f))) (bxor (μ 11 to) (-1)) := by
  obtain ⟨k1, k2, k3⟩ := hC.1 to hto.1 (by have := hV.1; omega)
  have hF := hV.2.1
  have hm := hC.2.2.1
  have hs := hV.2.2.2.1
  have rb := bit_r (c := f) ⟨hf.1, by omega⟩
  have ro := bor_r k2 rb
  have ef : V_X4_freshFor σ to f = band (R_X12_follows μ (bor (μ 11 to) (bshl 1 f))) (bxor (μ 11 to) (-1)) := by
    unfold V_X4_freshFor
    rw [k1, follow_eq hV.2.2.1 ro]
  refine ⟨?_, ef⟩
  have e20 : ∀ d : Int, R_X12_learns μ to f (-1) 20 d = if 0 ≤ d ∧ d < μ 0 43 ∧ μ 17 d = to ∧ hb (V_X4_freshFor σ to f) (μ 18 d) then upM (μ 20 d) (μ 2 7) else μ 20 d := by
    intro d
    unfold R_X12_learns
    rw [← ef]
    generalize V_X4_freshFor σ to f = fr
    have r : ∀ c : Nat, c ∉ [11, 12] → (S_X12_learns_39 to f (-1) fr 20 0 (zu μ 11 to (bor (μ 11 to) fr))).2 c = μ c := by
      intro c hc
      rw [fr_S_X12_learns_39 (h := fun h => hc (by revert h; simp; intro h; simp [h])), zu_row _ _ _ (fun h => hc (by simp [h]))]
    rw [l78_20 _ _ _ _ _ _ _ (by rw [r 0 (by decide)]; omega), r 0 (by decide), r 17 (by decide), r 18 (by decide), r 20 (by decide), r 2 (by decide)]
  generalize V_X4_freshFor σ to f = fr at *
  have e0 : R_X12_learns μ to f (-1) 0 = μ 0 := learns_m _ _ _ _
  have v : ∀ d : Int, 0 ≤ d → d < μ 0 43 → R_X12_learns μ to f (-1) 20 d = μ 20 d + gro μ to fr d ∧ (0 ≤ μ 20 d ∧ μ 20 d ≤ 792) ∧ 0 ≤ μ 20 d + gro μ to fr d ∧ μ 20 d + gro μ to fr d ≤ 3168 := by
    intro d d0 d1
    obtain ⟨_, _, _, _, x0, x1, _⟩ := hC.2.2.2 d d0 d1
    have ur := up792 (x := μ 20 d) ⟨x0, x1⟩ hs.2.2.2.2.2.2.2.2.2
    rw [e20 d]
    unfold gro
    by_cases k : μ 17 d = to ∧ hb fr (μ 18 d)
    · rw [if_pos ⟨d0, d1, k⟩, upM_val ⟨x0, x1⟩ (by omega)]
      by_cases z : 0 < μ 20 d
      · rw [if_pos ⟨k.1, z, k.2⟩]
        omega
      · rw [if_neg (fun y => z y.2.1)]
        have z0 : μ 20 d = 0 := by omega
        rw [z0]
        omega
    · rw [if_neg (fun y => k y.2.2), if_neg (fun y => k ⟨y.1, y.2.2⟩)]
      omega
  rw [q_owedA hC, owed_val μ hm.2.1 hm.2.2 (fun d d0 d1 => by have := v d d0 d1; omega), owed_val (R_X12_learns μ to f (-1)) (by rw [e0]; exact hm.2.1) (by rw [e0]; exact hm.2.2) (fun d d0 d1 => by rw [e0] at d1; have := v d d0 d1; omega), e0]
  unfold R_X4_growthAbout
  rw [gro_sum hV hC 200 0 0 (by decide) hm.2.1 (by omega) (by decide) (by decide)]
  have es : ssum (R_X12_learns μ to f (-1) 20) (μ 0 43).toNat = ssum (μ 20) (μ 0 43).toNat + ssum (gro μ to fr) (μ 0 43).toNat := by
    rw [← ssum_a]
    exact ssum_c _ (fun d d0 d1 => (v d d0 (by omega)).1)
  have er := ssum_r (g := R_X12_learns μ to f (-1) 20) (μ 0 43).toNat (fun d d0 d1 => by have := v d d0 (by omega); omega)
  rw [es]
  rw [es] at er
  have z : ssum (gro μ to fr) (Int.toNat 0) = 0 := rfl
  rw [z]
  rw [w32_id ⟨by omega, by omega⟩]
  omega
theorem q_ripple {σ μ : zG} {who to f i : Int} (e2 : R_X12_run (zu μ 0 0 0) (-1) 2 = μ 2) (hQ : QR σ (R_X12_run (zu μ 0 0 0) (-1))) : V_X11_ripple σ who to f i = (R_X12_ripple μ who to f i).1 := by
  unfold V_X11_ripple R_X12_ripple
  generalize R_X12_run (zu μ 0 0 0) (-1) = ρ at *
  rw [← e2]
  have hp := hQ.1.1
  have hF := hQ.1.2.1
  have hC := hQ.2.2.1.1
  have hm := hC.2.2.1
  rw [hp.1, hF.1]
  by_cases cw : 0 ≤ who ∧ who < ρ 2 0
  · rw [if_pos cw, if_pos (show 0 ≤ who ∧ who ≤ ρ 2 0 - 1 from ⟨cw.1, by omega⟩)]
    by_cases ct : 0 ≤ to ∧ to < ρ 2 0
    · rw [if_pos ct, if_pos (show 0 ≤ to ∧ to ≤ ρ 2 0 - 1 from ⟨ct.1, by omega⟩)]
      by_cases cf : 0 ≤ f ∧ f < ρ 2 1
      · rw [if_pos cf, if_pos (show 0 ≤ f ∧ f ≤ ρ 2 1 - 1 from ⟨cf.1, by omega⟩), (hC.1 who cw.1 (by omega)).1, (hC.1 to ct.1 (by omega)).1]
        obtain ⟨r1, r2⟩ := rip_sum hQ.1 hC ct cf
        by_cases ci : 0 ≤ i ∧ i ≤ 2
        · rw [if_pos ci]
          by_cases h1 : hb (ρ 11 who) f
          · rw [if_pos h1, if_pos h1]
            by_cases h2 : hb (ρ 11 to) f
            · rw [if_pos h2, if_pos h2]
            · rw [if_neg h2, if_neg h2]
              by_cases i0 : i = 0
              · rw [if_pos i0, if_pos i0]; exact r2
              · rw [if_neg i0, if_neg i0, ← r2]
                by_cases i1 : i = 1
                · subst i1
                  rw [if_pos rfl]
                  exact rip_1 hC 200 500 0 0 (by decide) (by omega) (by omega)
                · have i2 : i = 2 := by omega
                  subst i2
                  rw [if_neg i1, if_pos rfl, rip_2 500 0 0 (by omega)]
                  exact r1
          · rw [if_neg h1, if_neg h1]
        · rw [if_neg ci]
          repeat' split
          all_goals first | rfl | omega
      · rw [if_neg cf, if_neg (show ¬ (0 ≤ f ∧ f ≤ ρ 2 1 - 1) by omega)]
    · rw [if_neg ct, if_neg (show ¬ (0 ≤ to ∧ to ≤ ρ 2 0 - 1) by omega)]
  · rw [if_neg cw, if_neg (show ¬ (0 ≤ who ∧ who ≤ ρ 2 0 - 1) by omega)]
