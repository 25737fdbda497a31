/-! pure: what follows, on both sides -/
/-- the rules of 'since' on both sides -/
def SR (σ μ : zG) : Prop := (0 ≤ μ 2 2 ∧ μ 2 2 ≤ 8) ∧ σ 5 2 = μ 2 2 ∧ ∀ i : Int, 0 ≤ i → i < μ 2 2 → (0 ≤ μ 2 (52 + (3 * i)) ∧ μ 2 (52 + (3 * i)) < μ 2 1) ∧ (0 ≤ μ 2 ((52 + (3 * i)) + 1) ∧ μ 2 ((52 + (3 * i)) + 1) < μ 2 1) ∧ (0 ≤ μ 2 ((52 + (3 * i)) + 2) ∧ μ 2 ((52 + (3 * i)) + 2) < μ 2 1) ∧ μ 2 1 ≤ 12 ∧ σ 12 i = bor (bshl 1 (μ 2 (52 + (3 * i)))) (bshl 1 (μ 2 ((52 + (3 * i)) + 1))) ∧ σ 13 i = bshl 1 (μ 2 ((52 + (3 * i)) + 2))
theorem SR_MS {σ μ : zG} (h : SR σ μ) : MS (μ 2) := ⟨h.1.2, fun k k0 k1 => by have := h.2.2 k k0 k1; omega⟩
theorem pass_eq {σ μ : zG} (h : SR σ μ) (kn kn' : Int) : ∀ (n : Nat) (v q : Int), 0 ≤ q → (0 ≤ v ∧ v < 4096) → S_X9_follow_18 σ kn n v q = S_X12_follows_14 μ kn' n v q
  | 0, v, q, _, _ => rfl
  | n + 1, v, q, h0, hv => by
    rw [S_X9_follow_18, S_X12_follows_14, h.2.1]
    split
    · rfl
    · next c =>
      obtain ⟨ha, hb', hc, h12, e1, e2⟩ := h.2.2 q h0 (by omega)
      have m2 := mask2 hv (show 0 ≤ μ 2 (52 + (3 * q)) ∧ μ 2 (52 + (3 * q)) < 12 by omega) (show 0 ≤ μ 2 ((52 + (3 * q)) + 1) ∧ μ 2 ((52 + (3 * q)) + 1) < 12 by omega)
      have r := bor_r hv (bit_r (c := μ 2 ((52 + (3 * q)) + 2)) (by omega))
      rw [e1, e2]
      by_cases c1 : hb v (μ 2 (52 + (3 * q)))
      · by_cases c2 : hb v (μ 2 ((52 + (3 * q)) + 1))
        · rw [if_pos (m2.mpr ⟨c1, c2⟩), if_pos c1, if_pos c2]
          exact pass_eq h kn kn' n _ _ (by omega) r
        · rw [if_neg (fun q => c2 (m2.mp q).2), if_pos c1, if_neg c2]
          exact pass_eq h kn kn' n _ _ (by omega) hv
      · rw [if_neg (fun q => c1 (m2.mp q).1), if_neg c1]
        exact pass_eq h kn kn' n _ _ (by omega) hv
/-- one pass over the rules -/
def pss (μ : zG) (v : Int) : Int := (S_X12_follows_14 μ 0 10 v 0).1
theorem pass_any (μ : zG) (kn kn' : Int) : ∀ (n : Nat) (v q : Int), S_X12_follows_14 μ kn n v q = S_X12_follows_14 μ kn' n v q
  | 0, v, q => rfl
  | n + 1, v, q => by
    rw [S_X12_follows_14, S_X12_follows_14]
    repeat' split
    all_goals first | rfl | exact pass_any μ kn kn' n _ _
/-- how many of the rules' gifts are had, from q on -/
def gft (μ : zG) (v : Int) : Nat → Int → Int
  | 0, _ => 0
  | n + 1, q => if μ 2 2 ≤ q then 0 else (if hb v (μ 2 ((52 + (3 * q)) + 2)) then 1 else 0) + gft μ v n (q + 1)
theorem gft_r (μ : zG) (v : Int) : ∀ (n : Nat) (q : Int), 0 ≤ gft μ v n q ∧ gft μ v n q ≤ max 0 (μ 2 2 - q)
  | 0, q => by simp only [gft]; omega
  | n + 1, q => by
    have h := gft_r μ v n (q + 1)
    rw [gft]
    split
    · omega
    · split <;> omega
theorem gft_mono {σ μ : zG} (h : SR σ μ) {v w : Int} (hvw : ∀ i : Int, 0 ≤ i → i < 12 → hb v i → hb w i) : ∀ (n : Nat) (q : Int), 0 ≤ q → gft μ v n q ≤ gft μ w n q
  | 0, q, _ => Int.le_refl _
  | n + 1, q, h0 => by
    have h9 := gft_mono h hvw n (q + 1) (by omega)
    rw [gft, gft]
    split
    · exact Int.le_refl _
    · obtain ⟨ha, hb', hc, h12, e1, e2⟩ := h.2.2 q h0 (by omega)
      have := hvw (μ 2 ((52 + (3 * q)) + 2)) (by omega) (by omega)
      split
      · next c => rw [if_pos (this c)]; omega
      · split <;> omega
/-- a pass keeps what was had; if it gives something, a gift more is had; if all gifts are had it gives nothing -/
theorem pass_up {σ μ : zG} (h : SR σ μ) : ∀ (n : Nat) (v q : Int), 0 ≤ q → (0 ≤ v ∧ v < 4096) → (μ 2 2 - q).toNat < n → (∀ i : Int, 0 ≤ i → i < 12 → hb v i → hb (S_X12_follows_14 μ 0 n v q).1 i) ∧ (0 ≤ (S_X12_follows_14 μ 0 n v q).1 ∧ (S_X12_follows_14 μ 0 n v q).1 < 4096) ∧ ((S_X12_follows_14 μ 0 n v q).1 = v ∨ gft μ v n q < gft μ (S_X12_follows_14 μ 0 n v q).1 n q)
  | 0, v, q, _, _, hm => absurd hm (Nat.not_lt_zero _)
  | n + 1, v, q, h0, hv, hm => by
    rw [S_X12_follows_14]
    split
    · exact ⟨fun i _ _ hi => hi, hv, Or.inl rfl⟩
    · next c =>
      obtain ⟨ha, hb', hc, h12, e1, e2⟩ := h.2.2 q h0 (by omega)
      have hcb : 0 ≤ μ 2 ((52 + (3 * q)) + 2) ∧ μ 2 ((52 + (3 * q)) + 2) < 12 := by omega
      have rc := bit_r hcb
      have r := bor_r hv rc
      have same : (∀ i : Int, 0 ≤ i → i < 12 → hb v i → hb (S_X12_follows_14 μ 0 n v (q + 1)).1 i) ∧ (0 ≤ (S_X12_follows_14 μ 0 n v (q + 1)).1 ∧ (S_X12_follows_14 μ 0 n v (q + 1)).1 < 4096) ∧ ((S_X12_follows_14 μ 0 n v (q + 1)).1 = v ∨ gft μ v (n + 1) q < gft μ (S_X12_follows_14 μ 0 n v (q + 1)).1 (n + 1) q) := by
        have h9 := pass_up h n v (q + 1) (by omega) hv (by omega)
        refine ⟨h9.1, h9.2.1, ?_⟩
        rcases h9.2.2 with e | e
        · exact Or.inl e
        · right
          rw [gft, gft, if_neg c, if_neg c]
          have h8 := h9.1 (μ 2 ((52 + (3 * q)) + 2)) hcb.1 hcb.2
          split
          · next c3 => rw [if_pos (h8 c3)]; omega
          · split <;> omega
      split
      · split
        · -- the rule fires
          by_cases c3 : hb v (μ 2 ((52 + (3 * q)) + 2))
          · have e : bor v (bshl 1 (μ 2 ((52 + (3 * q)) + 2))) = v := by
              refine hb_ext r hv (fun i i0 i1 => ?_)
              rw [hb_bor hv rc ⟨i0, by omega⟩, hb_bit hcb ⟨i0, by omega⟩]
              constructor
              · rintro (x | rfl)
                · exact x
                · exact c3
              · exact Or.inl
            rw [e]
            exact same
          · have h9 := pass_up h n (bor v (bshl 1 (μ 2 ((52 + (3 * q)) + 2)))) (q + 1) (by omega) r (by omega)
            have up : ∀ i : Int, 0 ≤ i → i < 12 → hb v i → hb (bor v (bshl 1 (μ 2 ((52 + (3 * q)) + 2)))) i := fun i i0 i1 hi => (hb_bor hv rc ⟨i0, by omega⟩).mpr (Or.inl hi)
            have hnew : hb (bor v (bshl 1 (μ 2 ((52 + (3 * q)) + 2)))) (μ 2 ((52 + (3 * q)) + 2)) := (hb_bor hv rc ⟨hcb.1, by omega⟩).mpr (Or.inr ((hb_bit hcb ⟨hcb.1, by omega⟩).mpr rfl))
            refine ⟨fun i i0 i1 hi => h9.1 i i0 i1 (up i i0 i1 hi), h9.2.1, Or.inr ?_⟩
            rw [gft, gft, if_neg c, if_neg c, if_neg c3, if_pos (h9.1 _ hcb.1 hcb.2 hnew)]
            have h7 := gft_mono h (fun i i0 i1 hi => h9.1 i i0 i1 (up i i0 i1 hi)) n (q + 1) (by omega)
            omega
        · exact same
      · exact same
theorem pss_up {σ μ : zG} (h : SR σ μ) {v : Int} (hv : 0 ≤ v ∧ v < 4096) : (∀ i : Int, 0 ≤ i → i < 12 → hb v i → hb (pss μ v) i) ∧ (0 ≤ pss μ v ∧ pss μ v < 4096) ∧ (pss μ v = v ∨ gft μ v 10 0 < gft μ (pss μ v) 10 0) := by
  have := h.1
  exact pass_up h 10 v 0 (by decide) hv (by omega)
/-- the pass again and again -/
def ito (μ : zG) : Nat → Int → Int
  | 0, v => v
  | n + 1, v => ito μ n (pss μ v)
theorem ito_fix {μ : zG} {v : Int} (e : pss μ v = v) : ∀ n : Nat, ito μ n v = v
  | 0 => rfl
  | n + 1 => by rw [ito, e]; exact ito_fix e n
theorem ito_add (μ : zG) : ∀ (a b : Nat) (v : Int), ito μ (a + b) v = ito μ b (ito μ a v)
  | 0, b, v => by rw [Nat.zero_add]; rfl
  | a + 1, b, v => by rw [show a + 1 + b = (a + b) + 1 by omega, ito, ito]; exact ito_add μ a b (pss μ v)
/-- after as many passes as there are gifts wanting the set stands -/
theorem ito_end {σ μ : zG} (h : SR σ μ) : ∀ (n : Nat) (v : Int), (0 ≤ v ∧ v < 4096) → (μ 2 2 - gft μ v 10 0).toNat ≤ n → pss μ (ito μ n v) = ito μ n v
  | 0, v, hv, hm => by
    have h1 := pss_up h hv
    rcases h1.2.2 with e | e
    · exact e
    · have := (gft_r μ (pss μ v) 10 0).2
      have := h.1
      omega
  | n + 1, v, hv, hm => by
    have h1 := pss_up h hv
    rw [ito]
    rcases h1.2.2 with e | e
    · rw [e, ito_fix e n]; exact e
    · exact ito_end h n (pss μ v) h1.2.1 (by omega)
theorem ito_8 {σ μ : zG} (h : SR σ μ) {v : Int} (hv : 0 ≤ v ∧ v < 4096) (n : Nat) (hn : (μ 2 2).toNat ≤ n) : ito μ n v = ito μ 8 v ∧ pss μ (ito μ n v) = ito μ n v := by
  have h0 := (gft_r μ v 10 0).1
  have hs := h.1
  have a := ito_end h (μ 2 2).toNat v hv (by omega)
  have e : ∀ m : Nat, (μ 2 2).toNat ≤ m → ito μ m v = ito μ (μ 2 2).toNat v := by
    intro m hm
    rw [show m = (μ 2 2).toNat + (m - (μ 2 2).toNat) by omega, ito_add, ito_fix a]
  rw [e n hn, e 8 (by omega)]
  exact ⟨rfl, a⟩
theorem fc_eq {σ μ : zG} (h : SR σ μ) (kn : Int) : ∀ (n : Nat) (al ro : Int), (0 ≤ al ∧ al < 4096) → 0 ≤ ro → (μ 2 2 - ro).toNat < n → L_X9_follow_4 σ kn n al ro = ito μ (μ 2 2 - ro).toNat al
  | 0, al, ro, _, _, hm => absurd hm (Nat.not_lt_zero _)
  | n + 1, al, ro, hv, h0, hm => by
    have ep : (S_X9_follow_18 σ kn 10 al 0).1 = pss μ al := by
      unfold pss
      rw [pass_eq h kn 0 10 al 0 (by decide) hv]
    have h1 := pss_up h hv
    rw [L_X9_follow_4, h.2.1, ep]
    split
    · rw [show (μ 2 2 - ro).toNat = 0 by omega]; rfl
    · rw [show (μ 2 2 - ro).toNat = (μ 2 2 - (ro + 1)).toNat + 1 by omega, ito]
      split
      · next e => rw [e, ito_fix e]
      · exact fc_eq h kn n _ _ h1.2.1 (by omega) (by omega)
theorem fm_eq {σ μ : zG} (h : SR σ μ) (kn : Int) : ∀ (n : Nat) (v was : Int), (0 ≤ v ∧ v < 4096) → (v = was → pss μ v = v) → (2 * (4096 - v) + (if v = was then 0 else 1)).toNat < n → L_X12_follows_4 μ kn n v was = ito μ 8 v
  | 0, v, was, _, _, hm => absurd hm (Nat.not_lt_zero _)
  | n + 1, v, was, hv, hw, hm => by
    have ep : (S_X12_follows_14 μ kn 10 v 0).1 = pss μ v := by
      unfold pss
      rw [pass_any μ kn 0]
    have h1 := pss_up h hv
    have h2 := fol_in μ 0 (SR_MS h) 10 v 0 (by decide) hv
    have h3 : v ≤ pss μ v := h2.1
    rw [L_X12_follows_4, ep]
    split
    · next e => rw [ito_fix (hw e)]
    · next e =>
      rw [if_neg e] at hm
      have e8 : ito μ 8 v = ito μ 8 (pss μ v) := by
        have a := (ito_8 h hv 9 (by have := h.1; omega)).1
        rw [← a]
        rfl
      rw [e8]
      refine fm_eq h kn n (pss μ v) v h1.2.1 (fun e => by rw [e]; exact e) ?_
      split
      · omega
      · omega
/-- both sides follow alike -/
theorem follow_eq {σ μ : zG} (h : SR σ μ) {kn : Int} (hk : 0 ≤ kn ∧ kn < 4096) : R_X9_follow σ kn = R_X12_follows μ kn := by
  unfold R_X9_follow R_X12_follows
  have hs := h.1
  rw [fc_eq h kn 10 kn 0 hk (by decide) (by omega), fm_eq h kn 10000 kn (-1) hk (fun e => by omega) (by rw [if_neg (by omega)]; omega)]
  exact (ito_8 h hk _ (by omega)).1
theorem follow_r {σ μ : zG} (h : SR σ μ) {kn : Int} (hk : 0 ≤ kn ∧ kn < 4096) : 0 ≤ R_X12_follows μ kn ∧ R_X12_follows μ kn < 4096 := by
  have := fol_r μ kn (SR_MS h) hk
  omega
