/-! pure: dues, prices and the order of facts on both sides -/
/-- what needs and buys look at -/
def NX (σ μ : zG) : Prop := VS σ μ ∧ LC σ μ ∧ ∀ j : Int, 0 ≤ j → j < 96 → σ 14 j = μ 2 (76 + j) - 1 ∧ 0 ≤ μ 2 (76 + j) ∧ μ 2 (76 + j) ≤ 100
theorem NX_r {σ σ' μ μ' : zG} (h : NX σ μ) (a : ∀ k : Nat, k < 86 → σ' k = σ k) (b : ∀ k : Nat, k ≠ 0 → k ≠ 29 → k ≠ 30 → μ' k = μ k) (b0 : ∀ j : Int, j < 53 → μ' 0 j = μ 0 j) : NX σ' μ' := by
  obtain ⟨h1, h2, h3⟩ := h
  refine ⟨VS_row h1 (fun c _ c1 => a c (by omega)) (b 2 (by decide) (by decide) (by decide)), LC_row h2 (by rw [a 53 (by decide)]) (by rw [a 53 (by decide)]) (a 54 (by decide)) (a 59 (by decide)) (a 60 (by decide)) (a 61 (by decide)) (a 63 (by decide)) (b0 43 (by decide)) (b0 45 (by decide)) (b 2 (by decide) (by decide) (by decide)) (b 11 (by decide) (by decide) (by decide)) (b 16 (by decide) (by decide) (by decide)) (b 17 (by decide) (by decide) (by decide)) (b 18 (by decide) (by decide) (by decide)) (b 20 (by decide) (by decide) (by decide)), ?_⟩
  rw [a 14 (by decide), b 2 (by decide) (by decide) (by decide)]; exact h3
/-- the worth of a fact to one, whether known or told -/
def vm (μ : zG) (who f : Int) : Int := if hb (μ 11 who) f then R_X12_worthOf μ who f else Int.tdiv (w32 ((μ 2 (8 + (3 * f))) * (μ 2 4))) 10
/-- what a fact adds to a set -/
def pm (μ : zG) (who b f : Int) : Int := if hb (μ 11 who) f then 0 else if b = 0 then 4096 + bshl 1 f else if R_X12_price μ who f = 1000000000 then 1073741824 else R_X12_price μ who f * 65536 + 4096 + bshl 1 f
theorem price_sim {σ μ : zG} (h : NX σ μ) {who f : Int} (hf : 0 ≤ f ∧ f < 12) : ∀ (n n' : Nat) (sm be q : Int), 0 ≤ q → (μ 2 0 - q).toNat < n → (μ 2 0 - q).toNat < n' → ((sm = -1 ∧ be = 1000000000) ∨ (sm = be ∧ 0 ≤ be ∧ be ≤ 99)) → ((L_X4_priceFor_5 σ who f n sm q = -1 ∧ L_X12_price_7 μ who f n' be q = 1000000000) ∨ (L_X4_priceFor_5 σ who f n sm q = L_X12_price_7 μ who f n' be q ∧ 0 ≤ L_X12_price_7 μ who f n' be q ∧ L_X12_price_7 μ who f n' be q ≤ 99))
  | 0, _, sm, be, q, _, h, _, _ => absurd h (Nat.not_lt_zero _)
  | _ + 1, 0, sm, be, q, _, _, h, _ => absurd h (Nat.not_lt_zero _)
  | n + 1, n' + 1, sm, be, q, q0, hn, hn', hr => by
    have hp := h.1.1
    rw [L_X4_priceFor_5, L_X12_price_7, hp.1]
    by_cases c : μ 2 0 ≤ q
    · rw [if_pos c, if_pos c]; exact hr
    · rw [if_neg c, if_neg c]
      have ih := fun sm be hr => price_sim h (who := who) hf n n' sm be (q + 1) (by omega) (by omega) (by omega) hr
      by_cases cw : q = who
      · rw [if_pos cw, if_pos cw]; exact ih sm be hr
      · rw [if_neg cw, if_neg cw, (h.2.1.1 q q0 (by omega)).1]
        have a := h.2.2 (q * 12 + f) (by omega) (by omega)
        rw [show 76 + (q * 12 + f) = (76 + (12 * q)) + f by omega] at a
        generalize μ 2 ((76 + (12 * q)) + f) = x at *
        rw [a.1]
        by_cases z : x ≤ 0
        · rw [if_pos z]
          by_cases k : hb (μ 11 q) f
          · rw [if_pos k, if_pos (show x - 1 = -1 by omega)]; exact ih sm be hr
          · rw [if_neg k]; exact ih sm be hr
        · rw [if_neg z]
          by_cases k : hb (μ 11 q) f
          · rw [if_pos k, if_pos k, if_neg (show ¬ x - 1 = -1 by omega)]
            by_cases s : sm = -1
            · rw [if_pos s, if_neg (show ¬ be ≤ x - 1 by omega)]
              exact ih _ _ (Or.inr ⟨rfl, by omega, by omega⟩)
            · rw [if_neg s]
              by_cases t : be ≤ x - 1
              · rw [if_pos (show sm ≤ x - 1 by omega), if_pos t]; exact ih sm be hr
              · rw [if_neg (show ¬ sm ≤ x - 1 by omega), if_neg t]
                exact ih _ _ (Or.inr ⟨rfl, by omega, by omega⟩)
          · rw [if_neg k, if_neg k]; exact ih sm be hr
theorem price_eq {σ μ : zG} (h : NX σ μ) {who f : Int} (hf : 0 ≤ f ∧ f < 12) : (R_X4_priceFor σ who f = -1 ∧ R_X12_price μ who f = 1000000000) ∨ (R_X4_priceFor σ who f = R_X12_price μ who f ∧ 0 ≤ R_X12_price μ who f ∧ R_X12_price μ who f ≤ 99) := by
  have hp := h.1.1
  exact price_sim h hf 200 10 (-1) 1000000000 0 (by decide) (by omega) (by omega) (Or.inl ⟨rfl, rfl⟩)
theorem price_c {σ μ μ' : zG} (h : NX σ μ) (h' : NX σ μ') {who f : Int} (hf : 0 ≤ f ∧ f < 12) : R_X12_price μ' who f = R_X12_price μ who f := by
  rcases price_eq h (who := who) hf with a | a
  · rcases price_eq h' (who := who) hf with b | b
    · rw [a.2, b.2]
    · omega
  · rcases price_eq h' (who := who) hf with b | b
    · omega
    · omega
theorem vm_c {σ μ μ' : zG} (h : NX σ μ) (h' : NX σ μ') (e2 : μ' 2 = μ 2) (e11 : μ' 11 = μ 11) {who f : Int} (hw : 0 ≤ who ∧ who < μ 2 0) (hf : 0 ≤ f ∧ f < μ 2 1) : vm μ' who f = vm μ who f := by
  unfold vm
  rw [e2, e11, ← worth_eq h.1 h.2.1 hw hf, ← worth_eq h'.1 h'.2.1 (by rw [e2]; exact hw) (by rw [e2]; exact hf)]
theorem pm_r {σ μ : zG} (h : NX σ μ) {who b f : Int} (hf : 0 ≤ f ∧ f < 12) : pm μ who b f = 1073741824 ∨ (0 ≤ pm μ who b f ∧ pm μ who b f ≤ 7000000) := by
  have br := bit_r hf
  unfold pm
  split
  · exact Or.inr ⟨by decide, by decide⟩
  · split
    · exact Or.inr (by omega)
    · split
      · exact Or.inl rfl
      · rcases price_eq h (who := who) hf with a | a
        · omega
        · exact Or.inr (by omega)
/-- one due sorted in on both sides -/
theorem ins_sim {who du q : Int} : ∀ (n n' : Nat) (j : Int) (σ μ : zG), σ 63 q = μ 20 q → j ≤ du → (∀ i : Int, 0 ≤ i → i ≤ du → i ≠ j → σ 89 i = μ 29 i) → j.toNat < n → j.toNat < n' → (S_X10_takeDues_46 who du q n j σ).1 = (S_X12_duesOf_42 who q n' j μ).1 ∧ (S_X10_takeDues_46 who du q n j σ).1 ≤ j ∧ (0 ≤ j → 0 ≤ (S_X10_takeDues_46 who du q n j σ).1) ∧ (∀ i : Int, 0 ≤ i → i ≤ du → i ≠ (S_X10_takeDues_46 who du q n j σ).1 → (S_X10_takeDues_46 who du q n j σ).2 89 i = (S_X12_duesOf_42 who q n' j μ).2 29 i) ∧ (∀ k : Nat, k ≠ 89 → (S_X10_takeDues_46 who du q n j σ).2 k = σ k) ∧ (∀ k : Nat, k ≠ 29 → (S_X12_duesOf_42 who q n' j μ).2 k = μ k)
  | 0, _, j, σ, μ, _, _, _, h, _ => absurd h (Nat.not_lt_zero _)
  | _ + 1, 0, j, σ, μ, _, _, _, _, h => absurd h (Nat.not_lt_zero _)
  | n + 1, n' + 1, j, σ, μ, e, hj, hi, hn, hn' => by
    rw [S_X10_takeDues_46, S_X12_duesOf_42]
    by_cases c : j ≤ 0
    · rw [if_pos c, if_pos c]
      exact ⟨rfl, Int.le_refl _, fun h => h, hi, fun _ _ => rfl, fun _ _ => rfl⟩
    · rw [if_neg c, if_neg c, e, hi (j - 1) (by omega) (by omega) (by omega)]
      by_cases d : μ 20 q ≤ μ 29 (j - 1)
      · rw [if_pos d, if_pos d]
        exact ⟨rfl, Int.le_refl _, fun h => h, hi, fun _ _ => rfl, fun _ _ => rfl⟩
      · rw [if_neg d, if_neg d]
        have ih := ins_sim (who := who) (du := du) (q := q) n n' (j + (-1)) (zu σ 89 j (μ 29 (j - 1))) (zu μ 29 j (μ 29 (j - 1))) (by rw [zu_ne _ _ _ _ (by decide), zu_ne _ _ _ _ (by decide)]; exact e) (by omega) (fun i i0 i1 i2 => by
          rw [zu_if, zu_if]
          by_cases z : i = j
          · rw [if_pos z, if_pos z]
          · rw [if_neg z, if_neg z]; exact hi i i0 i1 z) (by omega) (by omega)
        refine ⟨ih.1, by omega, fun _ => ih.2.2.1 (by omega), ih.2.2.2.1, fun k hk => ?_, fun k hk => ?_⟩
        · rw [ih.2.2.2.2.1 k hk, zu_row _ _ _ hk]
        · rw [ih.2.2.2.2.2 k hk, zu_row _ _ _ hk]
theorem dues_mono {who : Int} : ∀ (n : Nat) (q : Int) (μ : zG), μ 0 53 ≤ L_X12_duesOf_7 who n q μ 0 53
  | 0, q, μ => Int.le_refl _
  | n + 1, q, μ => by
    rw [L_X12_duesOf_7]
    split
    · exact Int.le_refl _
    · split
      · split
        · exact dues_mono n (q + 1) μ
        · have := dues_mono (who := who) n (q + 1) (zu (zu ((S_X12_duesOf_42 who q 500 (μ 0 53) μ).2) 29 ((S_X12_duesOf_42 who q 500 (μ 0 53) μ).1) (μ 20 q)) 0 53 ((μ 0 53) + 1))
          rw [zu_at] at this
          omega
      · exact dues_mono n (q + 1) μ
theorem dues_sim {who : Int} : ∀ (n n' : Nat) (du q : Int) (σ μ : zG), LC σ μ → 0 ≤ q → 0 ≤ du → du ≤ 12 → μ 0 53 = du → (∀ j : Int, 0 ≤ j → j < du → σ 89 j = μ 29 j) → (μ 0 43 - q).toNat < n → (μ 0 43 - q).toNat < n' → (((L_X10_takeDues_5 who n du q σ).1 = -1 ∧ 12 < L_X12_duesOf_7 who n' q μ 0 53) ∨ ((0 ≤ (L_X10_takeDues_5 who n du q σ).1 ∧ (L_X10_takeDues_5 who n du q σ).1 ≤ 12) ∧ L_X12_duesOf_7 who n' q μ 0 53 = (L_X10_takeDues_5 who n du q σ).1 ∧ ∀ j : Int, 0 ≤ j → j < (L_X10_takeDues_5 who n du q σ).1 → (L_X10_takeDues_5 who n du q σ).2 89 j = L_X12_duesOf_7 who n' q μ 29 j)) ∧ (∀ k : Nat, k ≠ 89 → (L_X10_takeDues_5 who n du q σ).2 k = σ k) ∧ (∀ k : Nat, k ≠ 0 → k ≠ 29 → L_X12_duesOf_7 who n' q μ k = μ k)
  | 0, _, du, q, σ, μ, _, _, _, _, _, _, h, _ => absurd h (Nat.not_lt_zero _)
  | _ + 1, 0, du, q, σ, μ, _, _, _, _, _, _, _, h => absurd h (Nat.not_lt_zero _)
  | n + 1, n' + 1, du, q, σ, μ, hL, q0, d0, d1, e53, hd, hn, hn' => by
    rw [L_X10_takeDues_5, L_X12_duesOf_7, hL.2.2.1.1]
    by_cases c : μ 0 43 ≤ q
    · rw [if_pos c, if_pos c]
      exact ⟨Or.inr ⟨⟨d0, d1⟩, e53, hd⟩, fun _ _ => rfl, fun _ _ _ => rfl⟩
    · rw [if_neg c, if_neg c]
      have x := hL.2.2.2 q q0 (by omega)
      rw [x.1.1, x.1.2.2.2]
      have ih := dues_sim (who := who) n n' du (q + 1) σ μ hL (by omega) d0 d1 e53 hd (by omega) (by omega)
      by_cases w : μ 16 q = who
      · rw [if_pos w, if_pos w]
        by_cases z : μ 20 q = 0
        · rw [if_pos (show μ 20 q ≤ 0 by omega), if_pos z]; exact ih
        · rw [if_neg (show ¬ μ 20 q ≤ 0 by have := x.2.2.2.2.1; omega), if_neg z, e53]
          by_cases d12 : du < 12
          · rw [if_pos d12]
            obtain ⟨i1, i2, i3, i4, i5, i6⟩ := ins_sim (who := who) (du := du) (q := q) 20 500 du σ μ x.1.2.2.2 (Int.le_refl _) (fun i i0 i1 i2 => hd i i0 (by omega)) (by omega) (by omega)
            generalize S_X10_takeDues_46 who du q 20 du σ = r at *
            generalize S_X12_duesOf_42 who q 500 du μ = s at *
            have cr : ∀ k : Nat, k ≠ 89 → zu r.2 89 r.1 (μ 20 q) k = σ k := fun k hk => by rw [zu_row _ _ _ hk]; exact i5 k hk
            have mr : ∀ k : Nat, k ≠ 0 → k ≠ 29 → zu (zu s.2 29 s.1 (μ 20 q)) 0 53 (du + 1) k = μ k := fun k k0 k9 => by rw [zu_row _ _ _ k0, zu_row _ _ _ k9]; exact i6 k k9
            have m0 : ∀ j : Int, j ≠ 53 → zu (zu s.2 29 s.1 (μ 20 q)) 0 53 (du + 1) 0 j = μ 0 j := fun j hj => by rw [zu_off _ _ _ hj, zu_ne _ _ _ _ (by decide), i6 0 (by decide)]
            have hL2 : LC (zu r.2 89 r.1 (μ 20 q)) (zu (zu s.2 29 s.1 (μ 20 q)) 0 53 (du + 1)) := LC_row hL (by rw [cr 53 (by decide)]) (by rw [cr 53 (by decide)]) (cr 54 (by decide)) (cr 59 (by decide)) (cr 60 (by decide)) (cr 61 (by decide)) (cr 63 (by decide)) (m0 43 (by decide)) (m0 45 (by decide)) (mr 2 (by decide) (by decide)) (mr 11 (by decide) (by decide)) (mr 16 (by decide) (by decide)) (mr 17 (by decide) (by decide)) (mr 18 (by decide) (by decide)) (mr 20 (by decide) (by decide))
            have ih2 := dues_sim (who := who) n n' (du + 1) (q + 1) _ _ hL2 (by omega) (by omega) (by omega) (zu_at _ _ _ _) (fun j j0 j1 => by
              rw [zu_if, zu_ne _ _ _ _ (by decide), zu_if, ← i1]
              by_cases y : j = r.1
              · rw [if_pos y, if_pos y]
              · rw [if_neg y, if_neg y]; exact i4 j j0 (by omega) y) (by rw [m0 43 (by decide)]; omega) (by rw [m0 43 (by decide)]; omega)
            refine ⟨ih2.1, fun k hk => ?_, fun k k0 k9 => ?_⟩
            · rw [ih2.2.1 k hk, cr k hk]
            · rw [ih2.2.2 k k0 k9, mr k k0 k9]
          · rw [if_neg d12]
            have mono := dues_mono (who := who) n' (q + 1) (zu (zu ((S_X12_duesOf_42 who q 500 du μ).2) 29 ((S_X12_duesOf_42 who q 500 du μ).1) (μ 20 q)) 0 53 (du + 1))
            rw [zu_at] at mono
            refine ⟨Or.inl ⟨rfl, by omega⟩, fun _ _ => rfl, fun k k0 k9 => ?_⟩
            have fr := fr_L_X12_duesOf_7 who n' (q + 1) (zu (zu ((S_X12_duesOf_42 who q 500 du μ).2) 29 ((S_X12_duesOf_42 who q 500 du μ).1) (μ 20 q)) 0 53 (du + 1)) (k := k) (by simp; omega)
            rw [fr, zu_row _ _ _ k0, zu_row _ _ _ k9, fr_S_X12_duesOf_42 (h := by simp; omega)]
      · rw [if_neg w, if_neg w]; exact ih
