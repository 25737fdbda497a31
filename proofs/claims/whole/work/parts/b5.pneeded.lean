/-! pure: the model's best set -/
/-- what a set costs -/
def CO (μ : zG) (who b A : Int) : Int := ws (fun f => if b = 0 then 0 else R_X12_price μ who f) A
def PAY (μ : zG) (who b du : Int) (due : Int → Int) (A : Int) : Prop := band A (μ 11 who) = 0 ∧ rch (pm μ who b) A ∧ du ≤ μ 2 1 ∧ okd (vm μ who) due du (bor (μ 11 who) A)
theorem key_eq {σ μ : zG} (h : NX σ μ) {who b A : Int} (hw : 0 ≤ who ∧ who < μ 2 0) (hA : 0 ≤ A ∧ A < 4096) (hd : band A (μ 11 who) = 0) (hr : rch (pm μ who b) A) : ws (pm μ who b) A = CO μ who b A * 65536 + pcn A * 4096 + A ∧ (0 ≤ CO μ who b A ∧ CO μ who b A ≤ 1188) ∧ 0 ≤ pcn A ∧ pcn A ≤ 12 := by
  have hp := h.1.1
  have ow := (h.2.1.1 who hw.1 (by omega)).2.1
  have dj := (band_0 hA ow).mp hd
  have pr : ∀ f : Int, 0 ≤ f → f < 12 → hb A f → b ≠ 0 → 0 ≤ R_X12_price μ who f ∧ R_X12_price μ who f ≤ 99 := fun f f0 f1 y nb => by
    have z := hr f f0 f1 y
    unfold pm at z
    rw [if_neg (dj f f0 f1 y), if_neg nb] at z
    rcases price_eq h (who := who) (f := f) ⟨f0, f1⟩ with a | a
    · rw [if_pos a.2] at z; exact absurd rfl z
    · exact a.2
  have e : ws (pm μ who b) A = ws (fun f => (if b = 0 then 0 else R_X12_price μ who f) * 65536 + 4096 + bshl 1 f) A := ws_cg (fun f f0 f1 y => by
    have z := hr f f0 f1 y
    unfold pm at z ⊢
    rw [if_neg (dj f f0 f1 y)] at z ⊢
    by_cases nb : b = 0
    · rw [if_pos nb, if_pos nb]; omega
    · rw [if_neg nb] at z ⊢
      rw [if_neg nb]
      by_cases c : R_X12_price μ who f = 1000000000
      · rw [if_pos c] at z; exact absurd rfl z
      · rw [if_neg c])
  refine ⟨by rw [e, ws_lin, ws_bits hA, ws_many hA]; rfl, ⟨?_, ?_⟩, pcn_0 A, ?_⟩
  · refine ws_nn (fun f f0 f1 y => ?_)
    by_cases nb : b = 0
    · show 0 ≤ (if b = 0 then 0 else R_X12_price μ who f)
      rw [if_pos nb]; exact Int.le_refl _
    · show 0 ≤ (if b = 0 then 0 else R_X12_price μ who f)
      rw [if_neg nb]; exact (pr f f0 f1 y nb).1
  · have := ws_bd (g := fun f => if b = 0 then 0 else R_X12_price μ who f) (A := A) (c := 99) (fun f f0 f1 y => by
      show (if b = 0 then 0 else R_X12_price μ who f) ≤ 99
      by_cases nb : b = 0
      · rw [if_pos nb]; decide
      · rw [if_neg nb]; exact (pr f f0 f1 y nb).2) (by decide)
    unfold CO
    omega
  · rw [← ws_many hA]
    have := ws_bd (g := fun _ => 1) (A := A) (c := 1) (fun _ _ _ _ => Int.le_refl _) (by decide)
    omega
theorem sum56 {σ μ0 μ : zG} (h : NX σ μ0) (h' : NX σ μ) (e2 : μ 2 = μ0 2) {who b st : Int} (nb : b ≠ 0) : ∀ (n : Nat) (f : Nat) (sm : Int), (f : Int) ≤ μ0 2 1 → (μ0 2 1 - f).toNat < n → (sm = 1000000000 ∨ (0 ≤ sm ∧ sm ≤ 99 * f)) → (((S_X12_needed_56 who b st n sm f μ).1 = 1000000000 ↔ sm = 1000000000 ∨ ∃ g : Int, (f : Int) ≤ g ∧ g < μ0 2 1 ∧ hb st g ∧ R_X12_price μ0 who g = 1000000000) ∧ ((S_X12_needed_56 who b st n sm f μ).1 ≠ 1000000000 → (S_X12_needed_56 who b st n sm f μ).1 + ssum (fun g => if hb st g then R_X12_price μ0 who g else 0) f = sm + ssum (fun g => if hb st g then R_X12_price μ0 who g else 0) (μ0 2 1).toNat))
  | 0, f, sm, _, h, _ => absurd h (Nat.not_lt_zero _)
  | n + 1, f, sm, hf, hn, hs => by
    have hF := h.1.2.1
    rw [S_X12_needed_56, e2]
    by_cases c : μ0 2 1 ≤ (f : Int)
    · rw [if_pos c]
      refine ⟨⟨Or.inl, fun x => x.elim id (fun ⟨g, a, b, _⟩ => by omega)⟩, fun _ => ?_⟩
      rw [show (μ0 2 1).toNat = f by omega]
    · rw [if_neg c, if_neg nb, price_c h h' (who := who) (f := f) ⟨by omega, by omega⟩]
      have pe := price_eq h (who := who) (f := f) ⟨by omega, by omega⟩
      have f1 : ((f + 1 : Nat) : Int) = (f : Int) + 1 := by omega
      have ih := fun sm hs => sum56 h h' e2 (who := who) (st := st) nb n (f + 1) sm (by omega) (by omega) hs
      rw [f1] at ih
      have sx : ssum (fun g => if hb st g then R_X12_price μ0 who g else 0) (f + 1) = ssum (fun g => if hb st g then R_X12_price μ0 who g else 0) f + (if hb st f then R_X12_price μ0 who f else 0) := rfl
      by_cases m : hb st f
      · rw [if_pos m]
        rw [if_pos m] at sx
        by_cases s9 : 1000000000 ≤ sm
        · have es : sm = 1000000000 := by omega
          rw [if_pos s9]
          have i := ih sm (Or.inl es)
          refine ⟨⟨fun _ => Or.inl es, fun _ => i.1.mpr (Or.inl es)⟩, fun x => absurd (i.1.mpr (Or.inl es)) x⟩
        · rw [if_neg s9]
          by_cases p9 : 1000000000 ≤ R_X12_price μ0 who f
          · have ep : R_X12_price μ0 who f = 1000000000 := by omega
            rw [if_pos p9]
            have i := ih 1000000000 (Or.inl rfl)
            refine ⟨⟨fun _ => Or.inr ⟨f, by omega, by omega, m, ep⟩, fun _ => i.1.mpr (Or.inl rfl)⟩, fun x => absurd (i.1.mpr (Or.inl rfl)) x⟩
          · rw [if_neg p9, w32_id (z := sm + R_X12_price μ0 who f) ⟨by omega, by omega⟩]
            have k1 : sm + R_X12_price μ0 who f < 1000000000 := by omega
            have i := ih (sm + R_X12_price μ0 who f) (Or.inr (by omega))
            refine ⟨?_, fun x => ?_⟩
            · rw [i.1]
              constructor
              · rintro (x | ⟨g, g0, g1⟩)
                · exact absurd x (Int.ne_of_lt k1)
                · exact Or.inr ⟨g, Int.le_trans (Int.le_of_lt (Int.lt_succ _)) g0, g1⟩
              · rintro (x | ⟨g, g0, g1, g2, g3⟩)
                · exact absurd (Int.le_of_eq x.symm) s9
                · by_cases e : g = f
                  · rw [e] at g3; omega
                  · exact Or.inr ⟨g, by omega, g1, g2, g3⟩
            · have j := i.2 x
              rw [sx] at j
              omega
      · rw [if_neg m]
        rw [if_neg m] at sx
        have i := ih sm (by omega)
        refine ⟨?_, fun x => ?_⟩
        · rw [i.1]
          constructor
          · rintro (x | ⟨g, g0, g1⟩)
            · exact Or.inl x
            · exact Or.inr ⟨g, by omega, g1⟩
          · rintro (x | ⟨g, g0, g1, g2, g3⟩)
            · exact Or.inl x
            · by_cases e : g = f
              · rw [e] at g2; exact absurd g2 m
              · exact Or.inr ⟨g, by omega, g1, g2, g3⟩
        · have j := i.2 x
          rw [sx] at j
          omega
/-- what a set costs, as the model adds it up -/
theorem cost_m {σ μ0 μ : zG} (h : NX σ μ0) (h' : NX σ μ) (e2 : μ 2 = μ0 2) {who b st : Int} (hw : 0 ≤ who ∧ who < μ0 2 0) (hst : 0 ≤ st ∧ st < bshl 1 (μ0 2 1)) (hd : band st (μ0 11 who) = 0) : (S_X12_needed_56 who b st 20 0 0 μ).2.2 = μ ∧ ((S_X12_needed_56 who b st 20 0 0 μ).1 = 1000000000 ∧ ¬ rch (pm μ0 who b) st ∨ rch (pm μ0 who b) st ∧ (S_X12_needed_56 who b st 20 0 0 μ).1 = CO μ0 who b st) := by
  have hp := h.1.1
  have hF := h.1.2.1
  have sF := shl_F (F := μ0 2 1) ⟨hF.2.1, hF.2.2⟩
  have ow := (h.2.1.1 who hw.1 (by omega)).2.1
  have dj := (band_0 (x := st) ⟨hst.1, by omega⟩ ow).mp hd
  refine ⟨by funext k; exact fr_S_X12_needed_56 _ _ _ _ _ _ _ (by simp), ?_⟩
  by_cases nb : b = 0
  · refine Or.inr ⟨fun f f0 f1 y => ?_, ?_⟩
    · have br := bit_r (c := f) ⟨f0, f1⟩
      unfold pm
      rw [if_neg (dj f f0 f1 y), if_pos nb]; omega
    · have z : CO μ0 who b st = 0 := by
        have : CO μ0 who b st = ws (fun _ => 0) st := ws_cg (fun f _ _ _ => if_pos nb)
        rw [this]
        have e : ws (fun _ => 0) st = ssum (fun _ => 0) 12 := ssum_cg 12 (fun f f0 f1 => by
          show (if hb st f then (0 : Int) else 0) = 0
          split <;> rfl)
        rw [e]; rfl
      rw [z]
      show (S_X12_needed_56 who b st (19 + 1) 0 0 μ).1 = 0
      rw [S_X12_needed_56]
      split
      · rfl
      · rfl
  · have s := sum56 h h' e2 (who := who) (st := st) nb 20 0 0 (by omega) (by omega) (Or.inr ⟨by decide, by decide⟩)
    have off : ∀ f : Int, μ0 2 1 ≤ f → f < 12 → ¬ hb st f := fun f a c => off_hi hst.1 ⟨hF.2.1, hF.2.2⟩ hst.2 a c
    have rc : rch (pm μ0 who b) st ↔ ¬ ∃ g : Int, ((0 : Nat) : Int) ≤ g ∧ g < μ0 2 1 ∧ hb st g ∧ R_X12_price μ0 who g = 1000000000 := by
      constructor
      · rintro r ⟨g, g0, g1, g2, g3⟩
        have z := r g (by omega) (by omega) g2
        unfold pm at z
        rw [if_neg (dj g (by omega) (by omega) g2), if_neg nb, if_pos g3] at z
        exact z rfl
      · intro n f f0 f1 y
        have fF : f < μ0 2 1 := by
          by_cases c : f < μ0 2 1
          · exact c
          · exact absurd y (off f (by omega) f1)
        unfold pm
        rw [if_neg (dj f f0 f1 y), if_neg nb, if_neg (fun e => n ⟨f, by omega, fF, y, e⟩)]
        have br := bit_r (c := f) ⟨f0, f1⟩
        rcases price_eq h (who := who) (f := f) ⟨f0, f1⟩ with a | a
        · exact absurd ⟨f, by omega, fF, y, a.2⟩ n
        · omega
    have s' : ((S_X12_needed_56 who b st 20 0 0 μ).1 = 1000000000 ↔ (0 : Int) = 1000000000 ∨ ∃ g : Int, ((0 : Nat) : Int) ≤ g ∧ g < μ0 2 1 ∧ hb st g ∧ R_X12_price μ0 who g = 1000000000) ∧ ((S_X12_needed_56 who b st 20 0 0 μ).1 ≠ 1000000000 → (S_X12_needed_56 who b st 20 0 0 μ).1 + 0 = 0 + ssum (fun g => if hb st g then R_X12_price μ0 who g else 0) (μ0 2 1).toNat) := s
    by_cases r : rch (pm μ0 who b) st
    · have ne : (S_X12_needed_56 who b st 20 0 0 μ).1 ≠ 1000000000 := fun e => by
        rcases s'.1.mp e with x | x
        · omega
        · exact (rc.mp r) x
      refine Or.inr ⟨r, ?_⟩
      have j := s'.2 ne
      have e : CO μ0 who b st = ssum (fun g => if hb st g then R_X12_price μ0 who g else 0) (μ0 2 1).toNat := by
        have e12 : 12 = (μ0 2 1).toNat + (12 - (μ0 2 1).toNat) := by omega
        unfold CO ws
        rw [e12, ssum_cut _ _ (fun f f0 f1 => if_neg (off f (by omega) (by omega)))]
        exact ssum_cg _ (fun f f0 f1 => by
          show (if hb st f then (if b = 0 then 0 else R_X12_price μ0 who f) else 0) = (if hb st f then R_X12_price μ0 who f else 0)
          rw [if_neg nb])
      rw [e]; omega
    · refine Or.inl ⟨s'.1.mpr (Or.inr ?_), r⟩
      by_cases x : ∃ g : Int, ((0 : Nat) : Int) ≤ g ∧ g < μ0 2 1 ∧ hb st g ∧ R_X12_price μ0 who g = 1000000000
      · exact x
      · exact absurd (rc.mpr x) r
/-- the best set so far -/
def BST (μ0 : zG) (who b du : Int) (due : Int → Int) (st best coins : Int) : Prop := (best = -1 ∧ coins = 1000000000 ∧ ∀ s : Int, 0 ≤ s → s < st → ¬ PAY μ0 who b du due s) ∨ ((0 ≤ best ∧ best < st) ∧ PAY μ0 who b du due best ∧ coins = CO μ0 who b best ∧ ∀ s : Int, 0 ≤ s → s < st → PAY μ0 who b du due s → ws (pm μ0 who b) best ≤ ws (pm μ0 who b) s)
theorem BST_skip {μ0 : zG} {who b du st best coins : Int} {due : Int → Int} (h : BST μ0 who b du due st best coins) (hn : PAY μ0 who b du due st → 0 ≤ best ∧ ws (pm μ0 who b) best ≤ ws (pm μ0 who b) st) : BST μ0 who b du due (st + 1) best coins := by
  rcases h with ⟨a, c, d⟩ | ⟨a, c, d, e⟩
  · refine Or.inl ⟨a, c, fun s s0 s1 y => ?_⟩
    by_cases z : s = st
    · rw [z] at y; have := hn y; omega
    · exact d s s0 (by omega) y
  · refine Or.inr ⟨by omega, c, d, fun s s0 s1 y => ?_⟩
    by_cases z : s = st
    · rw [z] at y ⊢; exact (hn y).2
    · exact e s s0 (by omega) y
theorem BST_take {μ0 : zG} {who b du st best coins : Int} {due : Int → Int} (h : BST μ0 who b du due st best coins) (h0 : 0 ≤ st) (hp : PAY μ0 who b du due st) (hl : 0 ≤ best → ws (pm μ0 who b) st ≤ ws (pm μ0 who b) best) : BST μ0 who b du due (st + 1) st (CO μ0 who b st) := by
  refine Or.inr ⟨by omega, hp, rfl, fun s s0 s1 y => ?_⟩
  by_cases z : s = st
  · rw [z]; exact Int.le_refl _
  · rcases h with ⟨a, c, d⟩ | ⟨a, c, d, e⟩
    · exact absurd y (d s s0 (by omega))
    · exact Int.le_trans (hl a.1) (e s s0 (by omega) y)
theorem needed_loop {σ μ0 : zG} (h : NX σ μ0) {who b du : Int} {due : Int → Int} (hw : 0 ≤ who ∧ who < μ0 2 0) (hdu : 0 ≤ du) : ∀ (n : Nat) (st : Int) (μ : zG), (∀ k : Nat, k ≠ 0 → k ≠ 29 → k ≠ 30 → μ k = μ0 k) → (∀ j : Int, j < 53 → μ 0 j = μ0 0 j) → μ 29 = due → μ 0 53 = du → 0 ≤ st → st ≤ bshl 1 (μ0 2 1) → BST μ0 who b du due st (μ 0 55) (μ 0 56) → (bshl 1 (μ0 2 1) - st).toNat < n → BST μ0 who b du due (bshl 1 (μ0 2 1)) ((L_X12_needed_24 who b n st μ).2 0 55) ((L_X12_needed_24 who b n st μ).2 0 56) ∧ (L_X12_needed_24 who b n st μ).1 = (if (L_X12_needed_24 who b n st μ).2 0 55 < 0 then 0 else 1)
  | 0, st, μ, _, _, _, _, _, _, _, h => absurd h (Nat.not_lt_zero _)
  | n + 1, st, μ, hr, hz, e29, e53, s0, s1, hB, hn => by
    have hp := h.1.1
    have hF := h.1.2.1
    have sF := shl_F (F := μ0 2 1) ⟨hF.2.1, hF.2.2⟩
    rw [L_X12_needed_24, hr 2 (by decide) (by decide) (by decide), hr 11 (by decide) (by decide) (by decide)]
    by_cases c : bshl 1 (μ0 2 1) ≤ st
    · have e : st = bshl 1 (μ0 2 1) := by omega
      rw [if_pos c]
      rw [e] at hB
      by_cases z : μ 0 55 < 0
      · rw [if_pos z]
        exact ⟨hB, by show (0 : Int) = if μ 0 55 < 0 then 0 else 1; rw [if_pos z]⟩
      · rw [if_neg z]
        exact ⟨hB, by show (1 : Int) = if μ 0 55 < 0 then 0 else 1; rw [if_neg z]⟩
    · rw [if_neg c]
      have ih := fun μ' a1 a2 a3 a4 a5 => needed_loop h (b := b) (due := due) hw hdu n (st + 1) μ' a1 a2 a3 a4 (by omega) (by omega) a5 (by omega)
      by_cases d : band st (μ0 11 who) = 0
      · rw [if_pos d]
        have hx2 : NX σ μ := NX_r h (fun _ _ => rfl) hr hz
        obtain ⟨es, cs⟩ := cost_m h hx2 (hr 2 (by decide) (by decide) (by decide)) (b := b) hw ⟨s0, by omega⟩ d
        rw [es]
        generalize (S_X12_needed_56 who b st 20 0 0 μ).1 = sm at *
        rcases cs with ⟨e9, nr⟩ | ⟨r, ec⟩
        · rw [if_pos e9]
          exact ih μ hr hz e29 e53 (BST_skip hB (fun y => absurd y.2.1 nr))
        · have kst := key_eq h hw (A := st) ⟨s0, by omega⟩ d r
          rw [if_neg (show ¬ sm = 1000000000 by omega)]
          have off : ∀ f : Int, μ0 2 1 ≤ f → f < 12 → ¬ hb st f := fun f a z => off_hi s0 ⟨hF.2.1, hF.2.2⟩ (by omega) a z
          have py := pays (μ := μ) h (x := st) hw ⟨s0, by omega⟩ off hr hz (by omega)
          rw [e29, e53] at py
          have skipc : (R_X12_canPay μ who st).1 = 0 → ¬ PAY μ0 who b du due st := fun z y => by
            have := py.2.1.mpr ⟨y.2.2.1, y.2.2.2⟩
            omega
          have rows : ∀ k : Nat, k ≠ 0 → k ≠ 29 → k ≠ 30 → (R_X12_canPay μ who st).2 k = μ0 k := fun k a1 a2 a3 => by rw [py.2.2.1 k a1 a3]; exact hr k a1 a2 a3
          have z0 : ∀ j : Int, j < 53 → (R_X12_canPay μ who st).2 0 j = μ0 0 j := fun j hj => by rw [py.2.2.2 j (by omega)]; exact hz j hj
          have p29 : (R_X12_canPay μ who st).2 29 = due := by rw [py.2.2.1 29 (by decide) (by decide)]; exact e29
          have p53 : (R_X12_canPay μ who st).2 0 53 = du := by rw [py.2.2.2 53 (by decide)]; exact e53
          have try1 : (0 ≤ μ 0 55 → ws (pm μ0 who b) st ≤ ws (pm μ0 who b) (μ 0 55)) → BST μ0 who b du due (bshl 1 (μ0 2 1)) ((if (R_X12_canPay μ who st).1 = 0 then L_X12_needed_24 who b n (st + 1) (R_X12_canPay μ who st).2 else L_X12_needed_24 who b n (st + 1) (zu (zu (R_X12_canPay μ who st).2 0 55 st) 0 56 sm)).2 0 55) ((if (R_X12_canPay μ who st).1 = 0 then L_X12_needed_24 who b n (st + 1) (R_X12_canPay μ who st).2 else L_X12_needed_24 who b n (st + 1) (zu (zu (R_X12_canPay μ who st).2 0 55 st) 0 56 sm)).2 0 56) ∧ (if (R_X12_canPay μ who st).1 = 0 then L_X12_needed_24 who b n (st + 1) (R_X12_canPay μ who st).2 else L_X12_needed_24 who b n (st + 1) (zu (zu (R_X12_canPay μ who st).2 0 55 st) 0 56 sm)).1 = (if (if (R_X12_canPay μ who st).1 = 0 then L_X12_needed_24 who b n (st + 1) (R_X12_canPay μ who st).2 else L_X12_needed_24 who b n (st + 1) (zu (zu (R_X12_canPay μ who st).2 0 55 st) 0 56 sm)).2 0 55 < 0 then 0 else 1) := by
            intro hl
            by_cases z : (R_X12_canPay μ who st).1 = 0
            · rw [if_pos z]
              refine ih _ rows z0 p29 p53 ?_
              rw [py.2.2.2 55 (by decide), py.2.2.2 56 (by decide)]
              exact BST_skip hB (fun y => absurd y (skipc z))
            · rw [if_neg z]
              have ok := py.2.1.mp (py.1.resolve_left z)
              refine ih _ (fun k a1 a2 a3 => by rw [zu_row _ _ _ a1, zu_row _ _ _ a1]; exact rows k a1 a2 a3) (fun j hj => by rw [zu_off _ _ _ (by omega), zu_off _ _ _ (by omega)]; exact z0 j hj) (by rw [zu_row _ _ _ (by decide), zu_row _ _ _ (by decide)]; exact p29) (by rw [zu_off _ _ _ (by decide), zu_off _ _ _ (by decide)]; exact p53) ?_
              rw [zu_off _ _ _ (by decide), zu_at, zu_at, ec]
              exact BST_take hB s0 ⟨d, r, ok.1, ok.2⟩ hl
          by_cases c1 : μ 0 56 < sm
          · rw [if_pos c1]
            refine ih μ hr hz e29 e53 (BST_skip hB (fun y => ?_))
            rcases hB with ⟨b1, b2, b3⟩ | ⟨b1, b2, b3, b4⟩
            · omega
            · have kb := key_eq h hw (A := μ 0 55) ⟨b1.1, by omega⟩ b2.1 b2.2.1
              exact ⟨b1.1, by omega⟩
          · rw [if_neg c1]
            by_cases c2 : μ 0 55 < 0
            · rw [if_pos c2]
              exact try1 (fun y => by omega)
            · rw [if_neg c2]
              have hb2 : (0 ≤ μ 0 55 ∧ μ 0 55 < st) ∧ PAY μ0 who b du due (μ 0 55) ∧ μ 0 56 = CO μ0 who b (μ 0 55) := by
                rcases hB with ⟨b1, b2, b3⟩ | ⟨b1, b2, b3, b4⟩
                · omega
                · exact ⟨b1, b2, b3⟩
              have kb := key_eq h hw (A := μ 0 55) ⟨hb2.1.1, by omega⟩ hb2.2.1.1 hb2.2.1.2.1
              by_cases c3 : sm = μ 0 56
              · rw [if_pos c3, many_pcn, many_pcn]
                by_cases c4 : pcn (μ 0 55) ≤ pcn st
                · rw [if_pos c4]
                  exact ih μ hr hz e29 e53 (BST_skip hB (fun y => ⟨hb2.1.1, by omega⟩))
                · rw [if_neg c4]
                  exact try1 (fun y => by omega)
              · rw [if_neg c3]
                exact try1 (fun y => by omega)
      · rw [if_neg d]
        exact ih μ hr hz e29 e53 (BST_skip hB (fun y => absurd y.1 d))
