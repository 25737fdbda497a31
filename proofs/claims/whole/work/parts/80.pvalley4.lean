/-! pure: lines of settings -/
theorem set_sim {σ μ : zG} {w lo hi : Int} (hP : TP σ μ) (hT : TK σ μ) (hN : NV σ μ) (hw : 0 ≤ w ∧ w < 5) (h1 : zset 1 w.toNat = lo) (h2 : zset 2 w.toNat = hi) (h0 : 0 ≤ lo) (hR : (w = 0 → 1 ≤ lo ∧ hi ≤ 99) ∧ (w = 1 → 0 ≤ lo ∧ hi ≤ 10) ∧ (w = 2 → 10 ≤ lo ∧ hi ≤ 30) ∧ (w = 3 → 0 ≤ lo ∧ hi ≤ 20) ∧ (w = 4 → 10 ≤ lo ∧ hi ≤ 40)) : SL (V_X9_takeSetting σ w) (V_X12_once μ (3 + w) lo hi) (F_X9_takeSetting σ w) (F_X12_once μ (3 + w) lo hi) := by
  unfold V_X9_takeSetting F_X9_takeSetting V_X12_once F_X12_once
  rw [h1, h2]
  obtain ⟨⟨q0, q1, q2, q3⟩, qF, qK, qS, qA, qT⟩ := hN
  have qw := qT.1 w hw.1 hw.2
  by_cases k : hb (μ 0 20) (3 + w)
  · have k' := qw.2.mpr k
    rw [if_pos k, if_pos k, if_pos k', if_pos k']
    refine Or.inl ⟨rfl, rfl, ?_, ?_⟩
    · rw [zu_at, zu_off _ _ _ (by decide), zu_at]
    · rw [zu_off _ _ _ (by decide), zu_at]; exact hT.1
  · have k' : ¬ hb (σ 16 3) w := fun x => k (qw.2.mp x)
    rw [if_neg k, if_neg k, if_neg k', if_neg k']
    have rb := bit_r (c := w) ⟨hw.1, by omega⟩
    have rb3 := bit_r (c := 3 + w) ⟨by omega, by omega⟩
    have rc := bor_r qT.2.1 rb
    have rm := bor_r qT.2.2.1 rb3
    have hbc : ∀ i : Int, 0 ≤ i → i < 5 → (hb (bor (σ 16 3) (bshl 1 w)) i ↔ hb (bor (μ 0 20) (bshl 1 (3 + w))) (3 + i)) := fun i i0 i1 => by
      rw [hb_bor qT.2.1 rb ⟨by omega, by omega⟩, hb_bor qT.2.2.1 rb3 ⟨by omega, by omega⟩, hb_bit ⟨hw.1, by omega⟩ ⟨by omega, by omega⟩, hb_bit ⟨by omega, by omega⟩ ⟨by omega, by omega⟩, (qT.1 i i0 i1).2]
      constructor
      · rintro (x | x)
        · exact Or.inl x
        · exact Or.inr (by omega)
      · rintro (x | x)
        · exact Or.inl x
        · exact Or.inr (by omega)
    generalize bor (σ 16 3) (bshl 1 w) = nc at *
    generalize bor (μ 0 20) (bshl 1 (3 + w)) = nm at *
    have hL : LK σ (F_X12_next (zu μ 0 20 nm)) := LK_next (TP_row hP rfl rfl rfl rfl (zu_row _ _ _ (by decide)) (zu_off _ _ _ (by decide)) (zu_off _ _ _ (by decide)) (zu_off _ _ _ (by decide)))
    rcases num_s (lo := lo) (hi := hi) hL h0 with ⟨b1, b2, b3, b4⟩ | ⟨b1, b2, b3, b4, b5, b6, b7⟩
    · rw [if_pos b1, if_pos b1, if_pos b2, if_pos b2]
      exact Or.inl ⟨rfl, rfl, b3, b4⟩
    · have b1' : ¬ V_X12_takes (F_X12_next (zu μ 0 20 nm)) lo hi = 0 := by omega
      rw [b2]
      have n2 : ∀ k : Nat, k ≠ 0 → F_X12_takes (F_X12_next (zu μ 0 20 nm)) lo hi k = μ k := fun k hk => by rw [b6 k hk, nx_r _ hk, zu_row _ _ _ hk]
      have n0 : F_X12_takes (F_X12_next (zu μ 0 20 nm)) lo hi 0 20 = nm := by rw [b7, nx_20, zu_at]
      generalize F_X12_takes (F_X12_next (zu μ 0 20 nm)) lo hi = μ2 at *
      generalize F_X5_stepNumber σ lo hi = σ2 at *
      generalize hv1 : μ2 0 18 = v at *
      have b2' : ¬ v = -1 := by omega
      rw [if_neg b1', if_neg b1', if_neg b2', if_neg b2']
      refine Or.inr ⟨rfl, rfl, ?_, ?_⟩
      · exact LK_row b4 ((zu_row _ _ _ (by decide)).trans (zu_row _ _ _ (by decide))) ((zu_row _ _ _ (by decide)).trans (zu_row _ _ _ (by decide))) ((zu_row _ _ _ (by decide)).trans (zu_row _ _ _ (by decide))) (zu_row _ _ _ (by decide)) (fun j _ => zu_ne _ _ _ _ (by decide))
      · have t16 : ∀ j : Int, zu (zu σ2 16 3 nc) 26 w v 16 j = if j = 3 then nc else σ 16 j := fun j => by rw [zu_row _ _ _ (by decide), zu_if, b5 16 (by decide)]
        have t26 : ∀ j : Int, zu (zu σ2 16 3 nc) 26 w v 26 j = if j = w then v else σ 26 j := fun j => by rw [zu_if, zu_row _ _ _ (by decide), b5 26 (by decide)]
        have tr : ∀ k : Nat, k ≠ 3 → k ≠ 16 → k ≠ 26 → zu (zu σ2 16 3 nc) 26 w v k = σ k := fun k h3 h16 h26 => by rw [zu_row _ _ _ h26, zu_row _ _ _ h16, b5 k h3]
        have u3 : ∀ j : Int, zu μ2 3 (3 + w) v 3 j = if j = 3 + w then v else μ 3 j := fun j => by rw [zu_if, n2 3 (by decide)]
        have u5 : zu μ2 3 (3 + w) v 5 = μ 5 := by rw [zu_row _ _ _ (by decide), n2 5 (by decide)]
        have u0 : zu μ2 3 (3 + w) v 0 20 = nm := by rw [zu_ne _ _ _ _ (by decide), n0]
        generalize zu (zu σ2 16 3 nc) 26 w v = τ at *
        generalize zu μ2 3 (3 + w) v = ν at *
        have nj : ∀ j : Int, (j < 3 ∨ 7 < j) → ν 3 j = μ 3 j := fun j hj => by rw [u3, if_neg (by omega)]
        refine ⟨⟨?_, ?_, fun j j0 j1 => ?_, fun j j0 j1 => ?_⟩, fun f f0 f1 => ?_, fun b b0 b8 => ?_, ⟨?_, fun i i0 i1 => ?_⟩, fun j j0 j1 => ?_, ⟨fun i i0 i1 => ?_, ?_, ?_, ?_⟩⟩
        · rw [t16, if_neg (by decide), nj 0 (by omega)]; exact q0
        · rw [t16, if_neg (by decide), nj 1 (by omega)]; exact q1
        · rw [nj 0 (by omega)] at j1
          rw [tr 17 (by decide) (by decide) (by decide), u5]; exact q2 j j0 j1
        · rw [nj 1 (by omega)] at j1
          rw [tr 19 (by decide) (by decide) (by decide), u5]; exact q3 j j0 j1
        · rw [nj 1 (by omega)] at f1
          rw [tr 20 (by decide) (by decide) (by decide), tr 21 (by decide) (by decide) (by decide), tr 22 (by decide) (by decide) (by decide), nj (8 + (3 * f)) (by omega), nj ((8 + (3 * f)) + 1) (by omega), nj ((8 + (3 * f)) + 2) (by omega), nj 0 (by omega)]
          exact qF f f0 f1
        · rw [tr 18 (by decide) (by decide) (by decide), nj (44 + b) (by omega), nj 0 (by omega), nj 1 (by omega)]; exact qK b b0 b8
        · rw [t16, if_neg (by decide), nj 2 (by omega)]; exact qS.1
        · rw [nj 2 (by omega)] at i1
          have qs := qS.1
          rw [tr 23 (by decide) (by decide) (by decide), tr 24 (by decide) (by decide) (by decide), nj 1 (by omega), nj (52 + (3 * i)) (by omega), nj ((52 + (3 * i)) + 1) (by omega), nj ((52 + (3 * i)) + 2) (by omega)]
          exact qS.2 i i0 i1
        · rw [tr 25 (by decide) (by decide) (by decide), nj (76 + j) (by omega)]; exact qA j j0 j1
        · rw [t16, if_pos rfl, u0, t26, u3]
          refine ⟨?_, hbc i i0 i1⟩
          by_cases e : i = w
          · rw [if_pos e, if_pos (by omega)]
          · rw [if_neg e, if_neg (by omega)]; exact (qT.1 i i0 i1).1
        · rw [t16, if_pos rfl]; exact rc
        · rw [u0]; exact rm
        · obtain ⟨t1, t2, t3, t4, t5⟩ := qT.2.2.2
          obtain ⟨r0, r1, r2, r3, r4⟩ := hR
          rw [u3, u3, u3, u3, u3]
          clear qw qT qK qS qA qF q2 q3 nj u3 u5 u0 tr t26 t16
          refine ⟨?_, ?_, ?_, ?_, ?_⟩
          · split
            · have := r0 (by omega); omega
            · exact t1
          · split
            · have := r1 (by omega); omega
            · exact t2
          · split
            · have := r2 (by omega); omega
            · exact t3
          · split
            · have := r3 (by omega); omega
            · exact t4
          · split
            · have := r4 (by omega); omega
            · exact t5
