/-! pure: the valley and the book on both sides -/
/-- the valley's numbers on both sides -/
def VS (σ μ : zG) : Prop := (σ 5 0 = μ 2 0 ∧ 0 ≤ μ 2 0 ∧ μ 2 0 ≤ 8) ∧ (σ 5 1 = μ 2 1 ∧ 0 ≤ μ 2 1 ∧ μ 2 1 ≤ 12) ∧ SR σ μ ∧ (σ 15 0 = μ 2 3 ∧ σ 15 1 = μ 2 4 ∧ σ 15 2 = μ 2 5 ∧ σ 15 3 = μ 2 6 ∧ σ 15 4 = μ 2 7 ∧ (1 ≤ μ 2 3 ∧ μ 2 3 ≤ 99) ∧ (0 ≤ μ 2 4 ∧ μ 2 4 ≤ 10) ∧ (10 ≤ μ 2 5 ∧ μ 2 5 ≤ 30) ∧ (0 ≤ μ 2 6 ∧ μ 2 6 ≤ 20) ∧ (10 ≤ μ 2 7 ∧ μ 2 7 ≤ 40)) ∧ (∀ f : Int, 0 ≤ f → f < μ 2 1 → σ 9 f = μ 2 (8 + (3 * f)) ∧ σ 10 f = μ 2 ((8 + (3 * f)) + 1) ∧ σ 11 f = μ 2 ((8 + (3 * f)) + 2) ∧ (1 ≤ μ 2 (8 + (3 * f)) ∧ μ 2 (8 + (3 * f)) ≤ 99) ∧ (0 ≤ μ 2 ((8 + (3 * f)) + 1) ∧ μ 2 ((8 + (3 * f)) + 1) ≤ 99) ∧ (0 ≤ μ 2 ((8 + (3 * f)) + 2) ∧ μ 2 ((8 + (3 * f)) + 2) < μ 2 0)) ∧ (∀ a : Int, 0 ≤ a → a < 8 → (a < μ 2 0 → σ 7 a = μ 2 (44 + a)) ∧ (0 ≤ μ 2 (44 + a) ∧ μ 2 (44 + a) < 4096) ∧ (∀ i : Int, μ 2 1 ≤ i → i < 12 → ¬ hb (μ 2 (44 + a)) i) ∧ (μ 2 0 ≤ a → μ 2 (44 + a) = 0))
theorem mwhyL (μ : zG) (wh who to f mo : Int) : ∀ (n : Nat) (al q : Int), 0 ≤ q → (8 - q).toNat < n → (al = 0 → L_X12_whyOf_16 μ wh who to f mo n al q = 1) ∧ ((wh = 1 ∧ ∃ j : Int, q ≤ j ∧ j < 8 ∧ hb mo j ∧ ¬ hb (μ 11 j) f) → L_X12_whyOf_16 μ wh who to f mo n al q = 1) ∧ ((al ≠ 0 ∧ (wh = 1 → ∀ j : Int, q ≤ j → j < 8 → hb mo j → hb (μ 11 j) f)) → L_X12_whyOf_16 μ wh who to f mo n al q = if hb (μ 11 to) f then 2 else 0)
  | 0, al, q, _, hm => absurd hm (Nat.not_lt_zero _)
  | n + 1, al, q, h0, hm => by
    rw [L_X12_whyOf_16]
    split
    · next c =>
      refine ⟨fun e => by rw [if_pos e], fun ⟨_, j, j0, j1, _⟩ => absurd j1 (by omega), fun ⟨e, _⟩ => by rw [if_neg e]⟩
    · next c =>
      split
      · next c1 =>
        have h9 := fun al => mwhyL μ wh who to f mo n al (q + 1) (by omega) (by omega)
        split
        · next c2 => exact ⟨fun _ => (h9 0).1 rfl, fun _ => (h9 0).1 rfl, fun h => absurd c2 h.1⟩
        · next c2 =>
          split
          · next c3 =>
            split
            · next c4 =>
              refine ⟨fun e => absurd e c2, fun ⟨e, j, j0, j1, j2, j3⟩ => (h9 1).2.1 ⟨e, j, ?_, j1, j2, j3⟩, fun ⟨e, h⟩ => (h9 1).2.2 ⟨by decide, fun e j j0 j1 j2 => h e j (by omega) j1 j2⟩⟩
              have : j ≠ q := fun e => j3 (by rw [e]; exact c4)
              omega
            · next c4 => exact ⟨fun e => absurd e c2, fun _ => (h9 0).1 rfl, fun ⟨e, h⟩ => absurd (h c1 q (Int.le_refl _) (by omega) c3) c4⟩
          · next c3 =>
            refine ⟨fun e => absurd e c2, fun ⟨e, j, j0, j1, j2, j3⟩ => (h9 1).2.1 ⟨e, j, ?_, j1, j2, j3⟩, fun ⟨e, h⟩ => (h9 1).2.2 ⟨by decide, fun e j j0 j1 j2 => h e j (by omega) j1 j2⟩⟩
            have : j ≠ q := fun e => c3 (by rw [← e]; exact j2)
            omega
      · next c1 => exact ⟨fun e => by rw [if_pos e], fun ⟨e, _⟩ => absurd e c1, fun ⟨e, _⟩ => by rw [if_neg e]⟩
theorem mwhy (μ : zG) (wh who to f mo : Int) : ((¬ hb (μ 11 who) f ∨ (wh = 1 ∧ ∃ j : Int, 0 ≤ j ∧ j < 8 ∧ hb mo j ∧ ¬ hb (μ 11 j) f)) → R_X12_whyOf μ wh who to f mo = 1) ∧ ((hb (μ 11 who) f ∧ (wh = 1 → ∀ j : Int, 0 ≤ j → j < 8 → hb mo j → hb (μ 11 j) f)) → R_X12_whyOf μ wh who to f mo = if hb (μ 11 to) f then 2 else 0) := by
  have h := mwhyL μ wh who to f mo 10 (b2 (hb (μ 11 who) f)) 0 (by decide) (by decide)
  unfold R_X12_whyOf
  refine ⟨fun q => q.elim (fun c => h.1 (b2_f c)) (fun c => h.2.1 c), fun ⟨c, d⟩ => h.2.2 ⟨by rw [b2_t c]; decide, d⟩⟩
theorem mworthZ (μ : zG) (who f kn : Int) : ∀ (n : Nat) (q : Int), 0 ≤ q → (μ 2 0 - q).toNat < n → L_X12_worthOf_62 μ who f kn n 0 q = kn
  | 0, q, _, hm => absurd hm (Nat.not_lt_zero _)
  | n + 1, q, h0, hm => by
    rw [L_X12_worthOf_62]
    split
    · rw [if_pos rfl]
    · rw [if_pos rfl]
      exact mworthZ μ who f kn n (q + 1) (by omega) (by omega)
theorem mworth (μ : zG) (who f kn : Int) : ∀ (n : Nat) (q : Int), 0 ≤ q → (μ 2 0 - q).toNat < n → ((∃ j : Int, q ≤ j ∧ j < μ 2 0 ∧ j ≠ who ∧ hb (μ 11 j) f) → L_X12_worthOf_62 μ who f kn n 1 q = kn) ∧ ((∀ j : Int, q ≤ j → j < μ 2 0 → j ≠ who → ¬ hb (μ 11 j) f) → L_X12_worthOf_62 μ who f kn n 1 q = Int.tdiv (w32 (kn * (μ 2 5))) 10)
  | 0, q, _, hm => absurd hm (Nat.not_lt_zero _)
  | n + 1, q, h0, hm => by
    rw [L_X12_worthOf_62]
    split
    · next c => exact ⟨fun ⟨j, j0, j1, _⟩ => absurd j1 (by omega), fun _ => by rw [if_neg (by decide)]⟩
    · next c =>
      have h9 := mworth μ who f kn n (q + 1) (by omega) (by omega)
      rw [if_neg (by decide)]
      split
      · next c1 =>
        refine ⟨fun ⟨j, j0, j1, j2, j3⟩ => h9.1 ⟨j, ?_, j1, j2, j3⟩, fun h => h9.2 (fun j j0 => h j (by omega))⟩
        omega
      · next c1 =>
        split
        · next c2 => exact ⟨fun _ => mworthZ μ who f kn n (q + 1) (by omega) (by omega), fun h => absurd c2 (h q (Int.le_refl _) (by omega) c1)⟩
        · next c2 =>
          refine ⟨fun ⟨j, j0, j1, j2, j3⟩ => h9.1 ⟨j, ?_, j1, j2, j3⟩, fun h => h9.2 (fun j j0 => h j (by omega))⟩
          have : j ≠ q := fun e => c2 (by rw [← e]; exact j3)
          omega

/-! pure: the ledger's core, ledger1 -/
def LC (σ μ : zG) : Prop := (∀ a : Int, 0 ≤ a → a < 8 → σ 54 a = μ 11 a ∧ (0 ≤ μ 11 a ∧ μ 11 a < 4096) ∧ ∀ i : Int, μ 2 1 ≤ i → i < 12 → ¬ hb (μ 11 a) i) ∧ (σ 53 7 = μ 0 45 ∧ 0 ≤ μ 0 45 ∧ μ 0 45 < 4096) ∧ (σ 53 8 = μ 0 43 ∧ 0 ≤ μ 0 43 ∧ μ 0 43 ≤ 128) ∧ ∀ d : Int, 0 ≤ d → d < μ 0 43 → (σ 59 d = μ 16 d ∧ σ 60 d = μ 17 d ∧ σ 61 d = μ 18 d ∧ σ 63 d = μ 20 d) ∧ (0 ≤ μ 16 d ∧ μ 16 d < μ 2 0) ∧ (0 ≤ μ 17 d ∧ μ 17 d < μ 2 0) ∧ (0 ≤ μ 18 d ∧ μ 18 d < μ 2 1) ∧ 0 ≤ μ 20 d ∧ μ 20 d ≤ 792 ∧ (¬ hb (μ 11 (μ 17 d)) (μ 18 d) → μ 20 d ≤ 198)
theorem LC_row {σ τ μ ν : zG} (h : LC σ μ) (a1 : τ 53 7 = σ 53 7) (a1' : τ 53 8 = σ 53 8) (a2 : τ 54 = σ 54) (a3 : τ 59 = σ 59) (a4 : τ 60 = σ 60) (a5 : τ 61 = σ 61) (a6 : τ 63 = σ 63) (b1 : ν 0 43 = μ 0 43) (b2 : ν 0 45 = μ 0 45) (b3 : ν 2 = μ 2) (b4 : ν 11 = μ 11) (b5 : ν 16 = μ 16) (b6 : ν 17 = μ 17) (b7 : ν 18 = μ 18) (b8 : ν 20 = μ 20) : LC τ ν := by
  unfold LC at *
  rw [a1, a1', a2, a3, a4, a5, a6, b1, b2, b3, b4, b5, b6, b7, b8]
  exact h
theorem ww {σ μ : zG} (hV : VS σ μ) (hL : LC σ μ) (ds an f : Int) (ha : 0 ≤ an ∧ an < 8) : ∀ (n : Nat) (i : Int), 0 ≤ i → (μ 2 0 - i).toNat < n → ((∃ j : Int, i ≤ j ∧ j < μ 2 0 ∧ hb ds j ∧ ¬ hb (μ 11 j) f) → L_X4_whyWrong_3 σ ds an f n i = 1) ∧ ((∀ j : Int, i ≤ j → j < μ 2 0 → hb ds j → hb (μ 11 j) f) → L_X4_whyWrong_3 σ ds an f n i = if hb (μ 11 an) f then 2 else 0)
  | 0, i, _, hm => absurd hm (Nat.not_lt_zero _)
  | n + 1, i, h0, hm => by
    have hp := hV.1
    have e0 : σ 5 0 = μ 2 0 := hp.1
    have ea := (hL.1 an ha.1 ha.2).1
    have h9 := ww hV hL ds an f ha n (i + 1) (by omega)
    rw [L_X4_whyWrong_3, e0, ea]
    split
    · next c => exact ⟨fun ⟨j, j0, j1, _⟩ => absurd j1 (by omega), fun _ => rfl⟩
    · next c =>
      have ei := (hL.1 i h0 (by omega)).1
      rw [ei]
      have h9 := h9 (by omega)
      split
      · next c1 =>
        split
        · next c2 =>
          refine ⟨fun ⟨j, j0, j1, j2, j3⟩ => h9.1 ⟨j, ?_, j1, j2, j3⟩, fun h => h9.2 (fun j j0 j1 => h j (by omega) j1)⟩
          have : j ≠ i := fun e => j3 (by rw [e]; exact c2)
          omega
        · next c2 => exact ⟨fun _ => rfl, fun h => absurd (h i (Int.le_refl _) (by omega) c1) c2⟩
      · next c1 =>
        refine ⟨fun ⟨j, j0, j1, j2, j3⟩ => h9.1 ⟨j, ?_, j1, j2, j3⟩, fun h => h9.2 (fun j j0 j1 => h j (by omega) j1)⟩
        have : j ≠ i := fun e => c1 (by rw [← e]; exact j2)
        omega
/-- a line's reason, on both sides: those who do it are one and, of a lie, those with him -/
theorem why_eq {σ μ : zG} (hV : VS σ μ) (hL : LC σ μ) {wh who an f mo ds : Int} (hw : 0 ≤ who ∧ who < μ 2 0) (ha : 0 ≤ an ∧ an < μ 2 0) (hds : ∀ j : Int, 0 ≤ j → j < μ 2 0 → (hb ds j ↔ j = who ∨ (wh = 1 ∧ hb mo j))) (hmo : wh = 1 → ∀ j : Int, μ 2 0 ≤ j → j < 8 → ¬ hb mo j) : R_X4_whyWrong σ ds an f = R_X12_whyOf μ wh who an f mo := by
  have hp := hV.1
  have h1 := ww hV hL ds an f (by omega) 10 0 (by decide) (by omega)
  have h2 := mwhy μ wh who an f mo
  unfold R_X4_whyWrong
  by_cases c : ∀ j : Int, 0 ≤ j → j < μ 2 0 → hb ds j → hb (μ 11 j) f
  · rw [h1.2 c, h2.2 ⟨c who hw.1 hw.2 ((hds who hw.1 hw.2).mpr (Or.inl rfl)), fun e j j0 j8 hj => ?_⟩]
    have hj2 : j < μ 2 0 := Decidable.byContradiction fun q => hmo e j (by omega) j8 hj
    exact c j j0 hj2 ((hds j j0 hj2).mpr (Or.inr ⟨e, hj⟩))
  · have c' : ∃ j : Int, 0 ≤ j ∧ j < μ 2 0 ∧ hb ds j ∧ ¬ hb (μ 11 j) f := by
      refine Classical.byContradiction fun q => c (fun j j0 j1 j2 => Classical.byContradiction fun r => q ⟨j, j0, j1, j2, r⟩)
    rw [h1.1 c', h2.1 ?_]
    obtain ⟨j, j0, j1, j2, j3⟩ := c'
    rcases (hds j j0 j1).mp j2 with e | ⟨e, hj⟩
    · exact Or.inl (by rw [← e]; exact j3)
    · exact Or.inr ⟨e, j, j0, by omega, hj, j3⟩
theorem kto {σ μ : zG} (hV : VS σ μ) (hL : LC σ μ) (who f : Int) (hf : 0 ≤ f ∧ f < 12) : ∀ (n : Nat) (al i : Int), (0 ≤ al ∧ al < 4096) → 0 ≤ i → (μ 2 0 - i).toNat < n → (hb (L_X4_knownToOthers_4 σ who n al i) f ↔ hb al f ∨ ∃ j : Int, i ≤ j ∧ j < μ 2 0 ∧ j ≠ who ∧ hb (μ 11 j) f)
  | 0, al, i, _, _, hm => absurd hm (Nat.not_lt_zero _)
  | n + 1, al, i, hal, h0, hm => by
    have hp := hV.1
    have e0 : σ 5 0 = μ 2 0 := hp.1
    rw [L_X4_knownToOthers_4, e0]
    split
    · next c =>
      refine ⟨Or.inl, fun q => q.elim id (fun ⟨j, j0, j1, _⟩ => absurd j1 (by omega))⟩
    · next c =>
      have ei := hL.1 i h0 (by omega)
      split
      · next c1 =>
        have z := bor_r hal (show (0 : Int) ≤ 0 ∧ (0 : Int) < 4096 by decide)
        rw [kto hV hL who f hf n _ (i + 1) z (by omega) (by omega), hb_bor hal (by decide) ⟨hf.1, by omega⟩]
        constructor
        · rintro ((x | x) | ⟨j, j0, j1, j2, j3⟩)
          · exact Or.inl x
          · exact absurd x (hb_0 ⟨hf.1, by omega⟩)
          · exact Or.inr ⟨j, by omega, j1, j2, j3⟩
        · rintro (x | ⟨j, j0, j1, j2, j3⟩)
          · exact Or.inl (Or.inl x)
          · exact Or.inr ⟨j, by omega, j1, j2, j3⟩
      · next c1 =>
        have z := bor_r hal ei.2.1
        rw [ei.1, kto hV hL who f hf n _ (i + 1) z (by omega) (by omega), hb_bor hal ei.2.1 ⟨hf.1, by omega⟩]
        constructor
        · rintro ((x | x) | ⟨j, j0, j1, j2, j3⟩)
          · exact Or.inl x
          · exact Or.inr ⟨i, Int.le_refl _, by omega, c1, x⟩
          · exact Or.inr ⟨j, by omega, j1, j2, j3⟩
        · rintro (x | ⟨j, j0, j1, j2, j3⟩)
          · exact Or.inl (Or.inl x)
          · by_cases e : j = i
            · subst e; exact Or.inl (Or.inr j3)
            · exact Or.inr ⟨j, by omega, j1, j2, j3⟩
/-- the worth of a fact, on both sides -/
theorem worth_eq {σ μ : zG} (hV : VS σ μ) (hL : LC σ μ) {who f : Int} (hw : 0 ≤ who ∧ who < μ 2 0) (hf : 0 ≤ f ∧ f < μ 2 1) : V_X4_valueFor σ who f = R_X12_worthOf μ who f := by
  obtain ⟨hp, hF, hSR, hset, hfa, hkn⟩ := id hV
  obtain ⟨e9, e10, e11, r9, r10, r11⟩ := hfa f hf.1 hf.2
  have kt := kto hV hL who f ⟨hf.1, by omega⟩ 10 0 0 (by decide) (by decide) (by omega)
  have h2 := mworth μ who f (μ 2 (8 + (3 * f))) 10 0 (by decide) (by omega)
  have n0 : ¬ hb 0 f := hb_0 ⟨hf.1, by omega⟩
  unfold V_X4_valueFor R_X12_worthOf V_X4_oldValue R_X4_knownToOthers
  rw [hL.2.1.1, e9, e11, hset.2.1, hset.2.2.1]
  split
  · rfl
  · split
    · rw [mworthZ μ who f _ 10 0 (by decide) (by omega)]
    · by_cases c : hb (L_X4_knownToOthers_4 σ who 10 0 0) f
      · rw [if_pos c]
        rw [kt] at c
        rcases c with c | ⟨j, j0, j1, j2, j3⟩
        · exact absurd c n0
        · exact (h2.1 ⟨j, j0, j1, j2, j3⟩).symm
      · rw [if_neg c]
        rw [kt] at c
        exact (h2.2 (fun j j0 j1 j2 j3 => c (Or.inr ⟨j, j0, j1, j2, j3⟩))).symm

/-! pure: the ledger's core, ledgert -/
def LCt (σ μ : zG) : Prop := (∀ a : Int, 0 ≤ a → a < 8 → σ 68 a = μ 11 a ∧ (0 ≤ μ 11 a ∧ μ 11 a < 4096) ∧ ∀ i : Int, μ 2 1 ≤ i → i < 12 → ¬ hb (μ 11 a) i) ∧ (σ 67 7 = μ 0 45 ∧ 0 ≤ μ 0 45 ∧ μ 0 45 < 4096) ∧ (σ 67 8 = μ 0 43 ∧ 0 ≤ μ 0 43 ∧ μ 0 43 ≤ 128) ∧ ∀ d : Int, 0 ≤ d → d < μ 0 43 → (σ 73 d = μ 16 d ∧ σ 74 d = μ 17 d ∧ σ 75 d = μ 18 d ∧ σ 77 d = μ 20 d) ∧ (0 ≤ μ 16 d ∧ μ 16 d < μ 2 0) ∧ (0 ≤ μ 17 d ∧ μ 17 d < μ 2 0) ∧ (0 ≤ μ 18 d ∧ μ 18 d < μ 2 1) ∧ 0 ≤ μ 20 d ∧ μ 20 d ≤ 792 ∧ (¬ hb (μ 11 (μ 17 d)) (μ 18 d) → μ 20 d ≤ 198)
theorem LCt_row {σ τ μ ν : zG} (h : LCt σ μ) (a1 : τ 67 7 = σ 67 7) (a1' : τ 67 8 = σ 67 8) (a2 : τ 68 = σ 68) (a3 : τ 73 = σ 73) (a4 : τ 74 = σ 74) (a5 : τ 75 = σ 75) (a6 : τ 77 = σ 77) (b1 : ν 0 43 = μ 0 43) (b2 : ν 0 45 = μ 0 45) (b3 : ν 2 = μ 2) (b4 : ν 11 = μ 11) (b5 : ν 16 = μ 16) (b6 : ν 17 = μ 17) (b7 : ν 18 = μ 18) (b8 : ν 20 = μ 20) : LCt τ ν := by
  unfold LCt at *
  rw [a1, a1', a2, a3, a4, a5, a6, b1, b2, b3, b4, b5, b6, b7, b8]
  exact h
theorem wwt {σ μ : zG} (hV : VS σ μ) (hL : LCt σ μ) (ds an f : Int) (ha : 0 ≤ an ∧ an < 8) : ∀ (n : Nat) (i : Int), 0 ≤ i → (μ 2 0 - i).toNat < n → ((∃ j : Int, i ≤ j ∧ j < μ 2 0 ∧ hb ds j ∧ ¬ hb (μ 11 j) f) → L_X4_whyWrong_3t σ ds an f n i = 1) ∧ ((∀ j : Int, i ≤ j → j < μ 2 0 → hb ds j → hb (μ 11 j) f) → L_X4_whyWrong_3t σ ds an f n i = if hb (μ 11 an) f then 2 else 0)
  | 0, i, _, hm => absurd hm (Nat.not_lt_zero _)
  | n + 1, i, h0, hm => by
    have hp := hV.1
    have e0 : σ 5 0 = μ 2 0 := hp.1
    have ea := (hL.1 an ha.1 ha.2).1
    have h9 := wwt hV hL ds an f ha n (i + 1) (by omega)
    rw [L_X4_whyWrong_3t, e0, ea]
    split
    · next c => exact ⟨fun ⟨j, j0, j1, _⟩ => absurd j1 (by omega), fun _ => rfl⟩
    · next c =>
      have ei := (hL.1 i h0 (by omega)).1
      rw [ei]
      have h9 := h9 (by omega)
      split
      · next c1 =>
        split
        · next c2 =>
          refine ⟨fun ⟨j, j0, j1, j2, j3⟩ => h9.1 ⟨j, ?_, j1, j2, j3⟩, fun h => h9.2 (fun j j0 j1 => h j (by omega) j1)⟩
          have : j ≠ i := fun e => j3 (by rw [e]; exact c2)
          omega
        · next c2 => exact ⟨fun _ => rfl, fun h => absurd (h i (Int.le_refl _) (by omega) c1) c2⟩
      · next c1 =>
        refine ⟨fun ⟨j, j0, j1, j2, j3⟩ => h9.1 ⟨j, ?_, j1, j2, j3⟩, fun h => h9.2 (fun j j0 j1 => h j (by omega) j1)⟩
        have : j ≠ i := fun e => c1 (by rw [← e]; exact j2)
        omega
/-- a line's reason, on both sides: those who do it are one and, of a lie, those with him -/
theorem why_eqt {σ μ : zG} (hV : VS σ μ) (hL : LCt σ μ) {wh who an f mo ds : Int} (hw : 0 ≤ who ∧ who < μ 2 0) (ha : 0 ≤ an ∧ an < μ 2 0) (hds : ∀ j : Int, 0 ≤ j → j < μ 2 0 → (hb ds j ↔ j = who ∨ (wh = 1 ∧ hb mo j))) (hmo : wh = 1 → ∀ j : Int, μ 2 0 ≤ j → j < 8 → ¬ hb mo j) : R_X4_whyWrongt σ ds an f = R_X12_whyOf μ wh who an f mo := by
  have hp := hV.1
  have h1 := wwt hV hL ds an f (by omega) 10 0 (by decide) (by omega)
  have h2 := mwhy μ wh who an f mo
  unfold R_X4_whyWrongt
  by_cases c : ∀ j : Int, 0 ≤ j → j < μ 2 0 → hb ds j → hb (μ 11 j) f
  · rw [h1.2 c, h2.2 ⟨c who hw.1 hw.2 ((hds who hw.1 hw.2).mpr (Or.inl rfl)), fun e j j0 j8 hj => ?_⟩]
    have hj2 : j < μ 2 0 := Decidable.byContradiction fun q => hmo e j (by omega) j8 hj
    exact c j j0 hj2 ((hds j j0 hj2).mpr (Or.inr ⟨e, hj⟩))
  · have c' : ∃ j : Int, 0 ≤ j ∧ j < μ 2 0 ∧ hb ds j ∧ ¬ hb (μ 11 j) f := by
      refine Classical.byContradiction fun q => c (fun j j0 j1 j2 => Classical.byContradiction fun r => q ⟨j, j0, j1, j2, r⟩)
    rw [h1.1 c', h2.1 ?_]
    obtain ⟨j, j0, j1, j2, j3⟩ := c'
    rcases (hds j j0 j1).mp j2 with e | ⟨e, hj⟩
    · exact Or.inl (by rw [← e]; exact j3)
    · exact Or.inr ⟨e, j, j0, by omega, hj, j3⟩
theorem ktot {σ μ : zG} (hV : VS σ μ) (hL : LCt σ μ) (who f : Int) (hf : 0 ≤ f ∧ f < 12) : ∀ (n : Nat) (al i : Int), (0 ≤ al ∧ al < 4096) → 0 ≤ i → (μ 2 0 - i).toNat < n → (hb (L_X4_knownToOthers_4t σ who n al i) f ↔ hb al f ∨ ∃ j : Int, i ≤ j ∧ j < μ 2 0 ∧ j ≠ who ∧ hb (μ 11 j) f)
  | 0, al, i, _, _, hm => absurd hm (Nat.not_lt_zero _)
  | n + 1, al, i, hal, h0, hm => by
    have hp := hV.1
    have e0 : σ 5 0 = μ 2 0 := hp.1
    rw [L_X4_knownToOthers_4t, e0]
    split
    · next c =>
      refine ⟨Or.inl, fun q => q.elim id (fun ⟨j, j0, j1, _⟩ => absurd j1 (by omega))⟩
    · next c =>
      have ei := hL.1 i h0 (by omega)
      split
      · next c1 =>
        have z := bor_r hal (show (0 : Int) ≤ 0 ∧ (0 : Int) < 4096 by decide)
        rw [ktot hV hL who f hf n _ (i + 1) z (by omega) (by omega), hb_bor hal (by decide) ⟨hf.1, by omega⟩]
        constructor
        · rintro ((x | x) | ⟨j, j0, j1, j2, j3⟩)
          · exact Or.inl x
          · exact absurd x (hb_0 ⟨hf.1, by omega⟩)
          · exact Or.inr ⟨j, by omega, j1, j2, j3⟩
        · rintro (x | ⟨j, j0, j1, j2, j3⟩)
          · exact Or.inl (Or.inl x)
          · exact Or.inr ⟨j, by omega, j1, j2, j3⟩
      · next c1 =>
        have z := bor_r hal ei.2.1
        rw [ei.1, ktot hV hL who f hf n _ (i + 1) z (by omega) (by omega), hb_bor hal ei.2.1 ⟨hf.1, by omega⟩]
        constructor
        · rintro ((x | x) | ⟨j, j0, j1, j2, j3⟩)
          · exact Or.inl x
          · exact Or.inr ⟨i, Int.le_refl _, by omega, c1, x⟩
          · exact Or.inr ⟨j, by omega, j1, j2, j3⟩
        · rintro (x | ⟨j, j0, j1, j2, j3⟩)
          · exact Or.inl (Or.inl x)
          · by_cases e : j = i
            · subst e; exact Or.inl (Or.inr j3)
            · exact Or.inr ⟨j, by omega, j1, j2, j3⟩
/-- the worth of a fact, on both sides -/
theorem worth_eqt {σ μ : zG} (hV : VS σ μ) (hL : LCt σ μ) {who f : Int} (hw : 0 ≤ who ∧ who < μ 2 0) (hf : 0 ≤ f ∧ f < μ 2 1) : V_X4_valueFort σ who f = R_X12_worthOf μ who f := by
  obtain ⟨hp, hF, hSR, hset, hfa, hkn⟩ := id hV
  obtain ⟨e9, e10, e11, r9, r10, r11⟩ := hfa f hf.1 hf.2
  have kt := ktot hV hL who f ⟨hf.1, by omega⟩ 10 0 0 (by decide) (by decide) (by omega)
  have h2 := mworth μ who f (μ 2 (8 + (3 * f))) 10 0 (by decide) (by omega)
  have n0 : ¬ hb 0 f := hb_0 ⟨hf.1, by omega⟩
  unfold V_X4_valueFort R_X12_worthOf V_X4_oldValuet R_X4_knownToOtherst
  rw [hL.2.1.1, e9, e11, hset.2.1, hset.2.2.1]
  split
  · rfl
  · split
    · rw [mworthZ μ who f _ 10 0 (by decide) (by omega)]
    · by_cases c : hb (L_X4_knownToOthers_4t σ who 10 0 0) f
      · rw [if_pos c]
        rw [kt] at c
        rcases c with c | ⟨j, j0, j1, j2, j3⟩
        · exact absurd c n0
        · exact (h2.1 ⟨j, j0, j1, j2, j3⟩).symm
      · rw [if_neg c]
        rw [kt] at c
        exact (h2.2 (fun j j0 j1 j2 j3 => c (Or.inr ⟨j, j0, j1, j2, j3⟩))).symm
