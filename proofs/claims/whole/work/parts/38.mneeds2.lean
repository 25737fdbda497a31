/-! the reference: needs, buys, terms -/
theorem need56 (who b st : Int) : ∀ (n : Nat) (sm f : Int) (σ : zG), (S_X12_needed_56 who b st n sm f σ).2.2 = σ
  | 0, sm, f, σ => rfl
  | n + 1, sm, f, σ => by
    rw [S_X12_needed_56]
    repeat' split
    all_goals first | rfl | exact need56 who b st n _ _ σ
theorem needL_K (who b : Int) : ∀ (n : Nat) (st : Int) (σ : zG), 0 ≤ st → st ≤ 4096 → (0 ≤ σ 2 1 ∧ σ 2 1 ≤ 12) → (-1 ≤ σ 0 55 ∧ σ 0 55 < 4096) → -1 ≤ (L_X12_needed_24 who b n st σ).2 0 55 ∧ (L_X12_needed_24 who b n st σ).2 0 55 < 4096 ∧ ((L_X12_needed_24 who b n st σ).1 ≠ 0 → 0 ≤ (L_X12_needed_24 who b n st σ).2 0 55)
  | 0, st, σ, h0, h1, hF, hb => ⟨hb.1, hb.2, fun h => absurd rfl h⟩
  | n + 1, st, σ, h0, h1, hF, hb => by
    have hs := bshl_1 hF.1 hF.2
    have k1 : st < bshl 1 (σ 2 1) → -1 ≤ (L_X12_needed_24 who b n (st + 1) σ).2 0 55 ∧ (L_X12_needed_24 who b n (st + 1) σ).2 0 55 < 4096 ∧ ((L_X12_needed_24 who b n (st + 1) σ).1 ≠ 0 → 0 ≤ (L_X12_needed_24 who b n (st + 1) σ).2 0 55) := fun hc => needL_K who b n (st + 1) σ (by omega) (by omega) hF hb
    have k2 : st < bshl 1 (σ 2 1) → -1 ≤ (L_X12_needed_24 who b n (st + 1) (R_X12_canPay σ who st).2).2 0 55 ∧ (L_X12_needed_24 who b n (st + 1) (R_X12_canPay σ who st).2).2 0 55 < 4096 ∧ ((L_X12_needed_24 who b n (st + 1) (R_X12_canPay σ who st).2).1 ≠ 0 → 0 ≤ (L_X12_needed_24 who b n (st + 1) (R_X12_canPay σ who st).2).2 0 55) := fun hc => needL_K who b n (st + 1) _ (by omega) (by omega) (by rw [fr_R_X12_canPay (h := by decide)]; exact hF) (by rw [can_K _ _ _ _ (by decide)]; exact hb)
    have k3 : ∀ x y : Int, st < bshl 1 (σ 2 1) → -1 ≤ (L_X12_needed_24 who b n (st + 1) (zu (zu (R_X12_canPay σ who st).2 0 55 st) 0 56 y)).2 0 55 ∧ (L_X12_needed_24 who b n (st + 1) (zu (zu (R_X12_canPay σ who st).2 0 55 st) 0 56 y)).2 0 55 < 4096 ∧ ((L_X12_needed_24 who b n (st + 1) (zu (zu (R_X12_canPay σ who st).2 0 55 st) 0 56 y)).1 ≠ 0 → 0 ≤ (L_X12_needed_24 who b n (st + 1) (zu (zu (R_X12_canPay σ who st).2 0 55 st) 0 56 y)).2 0 55) := fun x y hc => needL_K who b n (st + 1) _ (by omega) (by omega) (by rw [zu_ne _ _ _ _ (by decide), zu_ne _ _ _ _ (by decide), fr_R_X12_canPay (h := by decide)]; exact hF) (by rw [zu_off _ _ _ (by decide), zu_at]; omega)
    rw [L_X12_needed_24]
    simp only [need56]
    repeat' split
    all_goals first | exact k1 (by omega) | exact k2 (by omega) | exact k3 0 _ (by omega) | exact ⟨hb.1, hb.2, fun h => absurd rfl h⟩ | (refine ⟨hb.1, hb.2, fun _ => ?_⟩; show 0 ≤ σ 0 55; omega)
theorem need_K {σ : zG} {who b : Int} (hF : 0 ≤ σ 2 1 ∧ σ 2 1 ≤ 12) (h : (R_X12_needed σ who b).1 ≠ 0) : 0 ≤ (R_X12_needed σ who b).2 0 55 ∧ (R_X12_needed σ who b).2 0 55 < 4096 := by
  unfold R_X12_needed at *
  have e : (zu (zu (R_X12_duesOf (R_X12_run σ (-1)) who) 0 55 (-1)) 0 56 1000000000) 2 = σ 2 := by
    rw [zu_row _ _ _ (by decide), zu_row _ _ _ (by decide), fr_R_X12_duesOf (h := by decide), fr_R_X12_run (h := by decide)]
  have h9 := needL_K who b 5000 0 (zu (zu (R_X12_duesOf (R_X12_run σ (-1)) who) 0 55 (-1)) 0 56 1000000000) (by decide) (by decide) (by rw [e]; exact hF) (by rw [zu_off _ _ _ (by decide), zu_at]; decide)
  exact ⟨h9.2.2 h, h9.2.1⟩

def V_X12_needs (σ : zG) (who i : Int) : Int := if 0 ≤ who ∧ who ≤ (σ 2 0) - 1 then (if 0 ≤ i ∧ i ≤ 1 then (if ((R_X12_needed (zu σ 0 0 0) who 0).1) = 0 then (-1) else (if i = 0 then (R_X12_many ((R_X12_needed (zu σ 0 0 0) who 0).2) (((R_X12_needed (zu σ 0 0 0) who 0).2) 0 55)) else (((R_X12_needed (zu σ 0 0 0) who 0).2) 0 55))) else (-1)) else (-1)
def F_X12_needs (σ : zG) (who i : Int) : zG := if 0 ≤ who ∧ who ≤ (σ 2 0) - 1 then (if 0 ≤ i ∧ i ≤ 1 then ((R_X12_needed (zu σ 0 0 0) who 0).2) else (zu σ 0 0 0)) else (zu σ 0 0 0)
theorem fr_F_X12_needs (σ : zG) (who i : Int) {k : Nat} (h : k ∉ [0, 11, 12, 13, 14, 15, 16, 17, 18, 19, 20, 21, 22, 23, 24, 25, 29, 30]) : (F_X12_needs σ who i) k = σ k := by
  have ne : ∀ c ∈ [0, 11, 12, 13, 14, 15, 16, 17, 18, 19, 20, 21, 22, 23, 24, 25, 29, 30], k ≠ c := fun c hc e => h (e ▸ hc)
  have nk_R_X12_needed : k ∉ [0, 11, 12, 13, 14, 15, 16, 17, 18, 19, 20, 21, 22, 23, 24, 25, 29, 30] := fun hm => h (by first | (revert hm; simp only [List.mem_cons, List.not_mem_nil, or_false]; omega) | (simp at hm))
  unfold F_X12_needs
  repeat' split
  all_goals first | rfl | simp only [zu_row _ _ _ (ne 0 (by decide)), zu_row _ _ _ (ne 11 (by decide)), zu_row _ _ _ (ne 12 (by decide)), zu_row _ _ _ (ne 13 (by decide)), zu_row _ _ _ (ne 14 (by decide)), zu_row _ _ _ (ne 15 (by decide)), zu_row _ _ _ (ne 16 (by decide)), zu_row _ _ _ (ne 17 (by decide)), zu_row _ _ _ (ne 18 (by decide)), zu_row _ _ _ (ne 19 (by decide)), zu_row _ _ _ (ne 20 (by decide)), zu_row _ _ _ (ne 21 (by decide)), zu_row _ _ _ (ne 22 (by decide)), zu_row _ _ _ (ne 23 (by decide)), zu_row _ _ _ (ne 24 (by decide)), zu_row _ _ _ (ne 25 (by decide)), zu_row _ _ _ (ne 29 (by decide)), zu_row _ _ _ (ne 30 (by decide)), fr_R_X12_needed (h := nk_R_X12_needed)]

set_option maxRecDepth 20000 in
theorem does_X12_needs (σ : zG) (who i : Int) (hN : MN (σ 2)) (hA : MA (σ 2)) : zDo SM 7 m_X12_needs [zP 0, .inl who, .inl i] σ (zEq (some (.inl (V_X12_needs σ who i))) (F_X12_needs σ who i)) := by
  refine zDo.intro mk_X12_needs (Nat.le_of_ble_eq_true rfl) ?_
  obtain ⟨hW, hp, hF, hL⟩ := id hN
  refine zRx.aload_n 0 rfl rfl dX12_needs_0 ?_
  refine zRx.iconst ⟨by decide, by decide⟩ dX12_needs_1 ?_
  refine zRx.putI (a := 0) (ji := 0) pl_12_1 rfl rfl rfl dX12_needs_2 ?_
  refine zRx.aload_n 0 rfl rfl dX12_needs_5 ?_
  refine zRx.iload_n 1 rfl rfl dX12_needs_6 ?_
  refine zRx.cVi (w := .inl (b2 (0 ≤ who ∧ who ≤ (σ 2 0) - 1))) (M := m_X12_isWho) (av := [.inl who]) cv_12_397 mk_X12_isWho (by decide) (b := 0) rfl rfl (Nat.le_of_ble_eq_true rfl) dX12_needs_7 (does_isWho2 (zu σ 0 0 0) who (σ 2 0) (zu_ne _ _ _ _ (by decide)) hN.2.1) ?_
  refine zRx.if_eqB (tgt := 31) dX12_needs_10 (by decide) (fun c10 => ?_) (fun c10 => ?_)
  · refine zRx.iconst ⟨by decide, by decide⟩ dX12_needs_31 ?_
    exact zR.iret rfl dX12_needs_32 ⟨by unfold V_X12_needs; rw [if_neg c10], by unfold F_X12_needs; rw [if_neg c10]⟩
  · refine zRx.iload_n 2 rfl rfl dX12_needs_13 ?_
    refine zRx.iconst ⟨by decide, by decide⟩ dX12_needs_14 ?_
    refine zRx.iconst ⟨by decide, by decide⟩ dX12_needs_15 ?_
    refine zRx.cSi (w := .inl (b2 (0 ≤ i ∧ i ≤ 1))) (M := m_X12_isIn) (av := [.inl i, .inl 0, .inl 1]) cs_12_254 mk_X12_isIn (by decide) rfl (Nat.le_of_ble_eq_true rfl) dX12_needs_16 (does_X12_isIn i 0 1 SM (zu σ 0 0 0)) ?_
    refine zRx.if_eqB (tgt := 31) dX12_needs_19 (by decide) (fun c19 => ?_) (fun c19 => ?_)
    · refine zRx.iconst ⟨by decide, by decide⟩ dX12_needs_31 ?_
      exact zR.iret rfl dX12_needs_32 ⟨by unfold V_X12_needs; rw [if_pos c10, if_neg c19], by unfold F_X12_needs; rw [if_pos c10, if_neg c19]⟩
    · refine zRx.aload_n 0 rfl rfl dX12_needs_22 ?_
      refine zRx.iload_n 1 rfl rfl dX12_needs_23 ?_
      refine zRx.iconst ⟨by decide, by decide⟩ dX12_needs_24 ?_
      refine zRx.cVi (w := .inl ((R_X12_needed (zu σ 0 0 0) who 0).1)) (M := m_X12_needed) (av := [.inl who, .inl 0]) cv_12_444 mk_X12_needed (by decide) (b := 0) rfl rfl (Nat.le_of_ble_eq_true rfl) dX12_needs_25 (does_X12_needed (zu σ 0 0 0) who 0 (by rw [zu_row _ _ _ (by decide)]; exact hN.1) (by rw [zu_row _ _ _ (by decide)]; exact hA) (by rw [zu_row _ _ _ (by decide)]; exact hN.2.2.1) (by rw [zu_row _ _ _ (by decide)]; exact hN.2.1) (by omega)) ?_
      refine zRx.if_ne (tgt := 33) dX12_needs_28 (by decide) (fun c28 => ?_) (fun c28 => ?_)
      · have hk := need_K (σ := zu σ 0 0 0) (who := who) (b := 0) (by rw [zu_row _ _ _ (by decide)]; exact hN.2.2.1) c28
        refine zRx.iload_n 2 rfl rfl dX12_needs_33 ?_
        refine zRx.if_ne (tgt := 47) dX12_needs_34 (by decide) (fun c34 => ?_) (fun c34 => ?_)
        · refine zRx.aload_n 0 rfl rfl dX12_needs_47 ?_
          refine zRx.getIv (a := 0) (ji := 55) (v := ((R_X12_needed (zu σ 0 0 0) who 0).2) 0 55) rfl fl_12_432 rfl rfl rfl dX12_needs_48 ?_
          exact zR.iret rfl dX12_needs_51 ⟨by unfold V_X12_needs; rw [if_pos c10, if_pos c19, if_neg c28, if_neg c34], by unfold F_X12_needs; rw [if_pos c10, if_pos c19]⟩
        · refine zRx.aload_n 0 rfl rfl dX12_needs_37 ?_
          refine zRx.getIv (a := 0) (ji := 55) (v := ((R_X12_needed (zu σ 0 0 0) who 0).2) 0 55) rfl fl_12_432 rfl rfl rfl dX12_needs_38 ?_
          refine zRx.cSi (w := .inl (R_X12_many ((R_X12_needed (zu σ 0 0 0) who 0).2) (((R_X12_needed (zu σ 0 0 0) who 0).2) 0 55))) (M := m_X12_many) (av := [.inl (((R_X12_needed (zu σ 0 0 0) who 0).2) 0 55)]) cs_12_333 mk_X12_many (by decide) rfl (Nat.le_of_ble_eq_true rfl) dX12_needs_41 (does_X12_many ((R_X12_needed (zu σ 0 0 0) who 0).2) (((R_X12_needed (zu σ 0 0 0) who 0).2) 0 55) SM (by omega)) ?_
          refine zRx.goto (tgt := 51) dX12_needs_44 (by decide) ?_
          exact zR.iret rfl dX12_needs_51 ⟨by unfold V_X12_needs; rw [if_pos c10, if_pos c19, if_neg c28, if_pos c34], by unfold F_X12_needs; rw [if_pos c10, if_pos c19]⟩
      · refine zRx.iconst ⟨by decide, by decide⟩ dX12_needs_31 ?_
        exact zR.iret rfl dX12_needs_32 ⟨by unfold V_X12_needs; rw [if_pos c10, if_pos c19, if_pos c28], by unfold F_X12_needs; rw [if_pos c10, if_pos c19]⟩

def V_X12_buys (σ : zG) (who i : Int) : Int := if 0 ≤ who ∧ who ≤ (σ 2 0) - 1 then (if 0 ≤ i ∧ i ≤ 1 then (if ((R_X12_needed (zu σ 0 0 0) who 1).1) = 0 then (-1) else (if i = 0 then (((R_X12_needed (zu σ 0 0 0) who 1).2) 0 56) else (((R_X12_needed (zu σ 0 0 0) who 1).2) 0 55))) else (-1)) else (-1)
def F_X12_buys (σ : zG) (who i : Int) : zG := if 0 ≤ who ∧ who ≤ (σ 2 0) - 1 then (if 0 ≤ i ∧ i ≤ 1 then ((R_X12_needed (zu σ 0 0 0) who 1).2) else (zu σ 0 0 0)) else (zu σ 0 0 0)
theorem fr_F_X12_buys (σ : zG) (who i : Int) {k : Nat} (h : k ∉ [0, 11, 12, 13, 14, 15, 16, 17, 18, 19, 20, 21, 22, 23, 24, 25, 29, 30]) : (F_X12_buys σ who i) k = σ k := by
  have ne : ∀ c ∈ [0, 11, 12, 13, 14, 15, 16, 17, 18, 19, 20, 21, 22, 23, 24, 25, 29, 30], k ≠ c := fun c hc e => h (e ▸ hc)
  have nk_R_X12_needed : k ∉ [0, 11, 12, 13, 14, 15, 16, 17, 18, 19, 20, 21, 22, 23, 24, 25, 29, 30] := fun hm => h (by first | (revert hm; simp only [List.mem_cons, List.not_mem_nil, or_false]; omega) | (simp at hm))
  unfold F_X12_buys
  repeat' split
  all_goals first | rfl | simp only [zu_row _ _ _ (ne 0 (by decide)), zu_row _ _ _ (ne 11 (by decide)), zu_row _ _ _ (ne 12 (by decide)), zu_row _ _ _ (ne 13 (by decide)), zu_row _ _ _ (ne 14 (by decide)), zu_row _ _ _ (ne 15 (by decide)), zu_row _ _ _ (ne 16 (by decide)), zu_row _ _ _ (ne 17 (by decide)), zu_row _ _ _ (ne 18 (by decide)), zu_row _ _ _ (ne 19 (by decide)), zu_row _ _ _ (ne 20 (by decide)), zu_row _ _ _ (ne 21 (by decide)), zu_row _ _ _ (ne 22 (by decide)), zu_row _ _ _ (ne 23 (by decide)), zu_row _ _ _ (ne 24 (by decide)), zu_row _ _ _ (ne 25 (by decide)), zu_row _ _ _ (ne 29 (by decide)), zu_row _ _ _ (ne 30 (by decide)), fr_R_X12_needed (h := nk_R_X12_needed)]

set_option maxRecDepth 20000 in
theorem does_X12_buys (σ : zG) (who i : Int) (hN : MN (σ 2)) (hA : MA (σ 2)) : zDo SM 7 m_X12_buys [zP 0, .inl who, .inl i] σ (zEq (some (.inl (V_X12_buys σ who i))) (F_X12_buys σ who i)) := by
  refine zDo.intro mk_X12_buys (Nat.le_of_ble_eq_true rfl) ?_
  obtain ⟨hW, hp, hF, hL⟩ := id hN
  refine zRx.aload_n 0 rfl rfl dX12_buys_0 ?_
  refine zRx.iconst ⟨by decide, by decide⟩ dX12_buys_1 ?_
  refine zRx.putI (a := 0) (ji := 0) pl_12_1 rfl rfl rfl dX12_buys_2 ?_
  refine zRx.aload_n 0 rfl rfl dX12_buys_5 ?_
  refine zRx.iload_n 1 rfl rfl dX12_buys_6 ?_
  refine zRx.cVi (w := .inl (b2 (0 ≤ who ∧ who ≤ (σ 2 0) - 1))) (M := m_X12_isWho) (av := [.inl who]) cv_12_397 mk_X12_isWho (by decide) (b := 0) rfl rfl (Nat.le_of_ble_eq_true rfl) dX12_buys_7 (does_isWho2 (zu σ 0 0 0) who (σ 2 0) (zu_ne _ _ _ _ (by decide)) hN.2.1) ?_
  refine zRx.if_eqB (tgt := 31) dX12_buys_10 (by decide) (fun c10 => ?_) (fun c10 => ?_)
  · refine zRx.iconst ⟨by decide, by decide⟩ dX12_buys_31 ?_
    exact zR.iret rfl dX12_buys_32 ⟨by unfold V_X12_buys; rw [if_neg c10], by unfold F_X12_buys; rw [if_neg c10]⟩
  · refine zRx.iload_n 2 rfl rfl dX12_buys_13 ?_
    refine zRx.iconst ⟨by decide, by decide⟩ dX12_buys_14 ?_
    refine zRx.iconst ⟨by decide, by decide⟩ dX12_buys_15 ?_
    refine zRx.cSi (w := .inl (b2 (0 ≤ i ∧ i ≤ 1))) (M := m_X12_isIn) (av := [.inl i, .inl 0, .inl 1]) cs_12_254 mk_X12_isIn (by decide) rfl (Nat.le_of_ble_eq_true rfl) dX12_buys_16 (does_X12_isIn i 0 1 SM (zu σ 0 0 0)) ?_
    refine zRx.if_eqB (tgt := 31) dX12_buys_19 (by decide) (fun c19 => ?_) (fun c19 => ?_)
    · refine zRx.iconst ⟨by decide, by decide⟩ dX12_buys_31 ?_
      exact zR.iret rfl dX12_buys_32 ⟨by unfold V_X12_buys; rw [if_pos c10, if_neg c19], by unfold F_X12_buys; rw [if_pos c10, if_neg c19]⟩
    · refine zRx.aload_n 0 rfl rfl dX12_buys_22 ?_
      refine zRx.iload_n 1 rfl rfl dX12_buys_23 ?_
      refine zRx.iconst ⟨by decide, by decide⟩ dX12_buys_24 ?_
      refine zRx.cVi (w := .inl ((R_X12_needed (zu σ 0 0 0) who 1).1)) (M := m_X12_needed) (av := [.inl who, .inl 1]) cv_12_444 mk_X12_needed (by decide) (b := 0) rfl rfl (Nat.le_of_ble_eq_true rfl) dX12_buys_25 (does_X12_needed (zu σ 0 0 0) who 1 (by rw [zu_row _ _ _ (by decide)]; exact hN.1) (by rw [zu_row _ _ _ (by decide)]; exact hA) (by rw [zu_row _ _ _ (by decide)]; exact hN.2.2.1) (by rw [zu_row _ _ _ (by decide)]; exact hN.2.1) (by omega)) ?_
      refine zRx.if_ne (tgt := 33) dX12_buys_28 (by decide) (fun c28 => ?_) (fun c28 => ?_)
      · refine zRx.iload_n 2 rfl rfl dX12_buys_33 ?_
        refine zRx.if_ne (tgt := 44) dX12_buys_34 (by decide) (fun c34 => ?_) (fun c34 => ?_)
        · refine zRx.aload_n 0 rfl rfl dX12_buys_44 ?_
          refine zRx.getIv (a := 0) (ji := 55) (v := ((R_X12_needed (zu σ 0 0 0) who 1).2) 0 55) rfl fl_12_432 rfl rfl rfl dX12_buys_45 ?_
          exact zR.iret rfl dX12_buys_48 ⟨by unfold V_X12_buys; rw [if_pos c10, if_pos c19, if_neg c28, if_neg c34], by unfold F_X12_buys; rw [if_pos c10, if_pos c19]⟩
        · refine zRx.aload_n 0 rfl rfl dX12_buys_37 ?_
          refine zRx.getIv (a := 0) (ji := 56) (v := ((R_X12_needed (zu σ 0 0 0) who 1).2) 0 56) rfl fl_12_435 rfl rfl rfl dX12_buys_38 ?_
          refine zRx.goto (tgt := 48) dX12_buys_41 (by decide) ?_
          exact zR.iret rfl dX12_buys_48 ⟨by unfold V_X12_buys; rw [if_pos c10, if_pos c19, if_neg c28, if_pos c34], by unfold F_X12_buys; rw [if_pos c10, if_pos c19]⟩
      · refine zRx.iconst ⟨by decide, by decide⟩ dX12_buys_31 ?_
        exact zR.iret rfl dX12_buys_32 ⟨by unfold V_X12_buys; rw [if_pos c10, if_pos c19, if_pos c28], by unfold F_X12_buys; rw [if_pos c10, if_pos c19]⟩

def L_X12_terms_28 (who : Int) : Nat → Int → Int → zG → Int × zG
  | 0, _, _, σ => (0, σ)
  | n + 1, be, q, σ => if (σ 0 43) ≤ q then (if be = 1000000000 then ((-10000), σ) else (w32 ((w32 ((w32 (be + (σ 2 3))) + 1)) - (σ 0 44)), σ)) else (if (σ 16 q) = who then (if (σ 20 q) ≤ 0 then (L_X12_terms_28 who n be (q + 1) σ) else (if be ≤ (σ 24 q) then (L_X12_terms_28 who n be (q + 1) σ) else (L_X12_terms_28 who n (σ 24 q) (q + 1) σ))) else (L_X12_terms_28 who n be (q + 1) σ))
theorem fr_L_X12_terms_28 (who : Int)  (n : Nat) (be q : Int) (σ : zG) {k : Nat} (h : k ∉ []) : (L_X12_terms_28 who n be q σ).2 k = σ k := by
  induction n generalizing be q σ with
  | zero => rfl
  | succ n ih =>
    have ne : ∀ c ∈ [], k ≠ c := fun c hc e => h (e ▸ hc)
    rw [L_X12_terms_28]
    repeat' split
    all_goals first | rfl | simp only [ih]

set_option maxRecDepth 20000 in
theorem loop_X12_terms_28 (who : Int)  : ∀ (n : Nat) (be q : Int) (σ : zG), 0 ≤ q → σ 0 43 ≤ 420 → (σ 0 43 - q).toNat < n → zR SM 6 m_X12_terms 28 [(0, zP 0), (1, .inl who), (2, .inl be), (3, .inl q)] [] σ (zEq (some (.inl (L_X12_terms_28 who n be q σ).1)) (L_X12_terms_28 who n be q σ).2) := by
  intro n
  induction n with
  | zero => intro be q σ h0 hm hmz; exact absurd hmz (Nat.not_lt_zero _)
  | succ n ih =>
    intro be q σ h0 hm hmz
    refine zRx.iload_n 3 rfl rfl dX12_terms_28 ?_
    refine zRx.aload_n 0 rfl rfl dX12_terms_29 ?_
    refine zRx.getIv (a := 0) (ji := 43) (v := σ 0 43) rfl fl_12_357 rfl rfl rfl dX12_terms_30 ?_
    refine zRx.icmp_ge (tgt := 78) dX12_terms_33 (by decide) (fun c33 => ?_) (fun c33 => ?_)
    · refine zRx.iload_n 2 rfl rfl dX12_terms_78 ?_
      refine zRx.ldcw ⟨by decide, by decide⟩ kc_12_428 dX12_terms_79 ?_
      refine zRx.icmp_ne (tgt := 91) dX12_terms_82 (by decide) (fun c82 => ?_) (fun c82 => ?_)
      · refine zRx.iload_n 2 rfl rfl dX12_terms_91 ?_
        refine zRx.aload_n 0 rfl rfl dX12_terms_92 ?_
        refine zRx.getR (a := 0) (b := 2) fl_12_33 rfl rfl dX12_terms_93 ?_
        refine zRx.iconst ⟨by decide, by decide⟩ dX12_terms_96 ?_
        refine zRx.ialdv (v := σ 2 3) rfl rfl (by decide) (by decide) dX12_terms_97 ?_
        refine zRx.iaddW dX12_terms_98 ?_
        refine zRx.iconst ⟨by decide, by decide⟩ dX12_terms_99 ?_
        refine zRx.iaddW dX12_terms_100 ?_
        refine zRx.aload_n 0 rfl rfl dX12_terms_101 ?_
        refine zRx.getIv (a := 0) (ji := 44) (v := σ 0 44) rfl fl_12_360 rfl rfl rfl dX12_terms_102 ?_
        refine zRx.isubW dX12_terms_105 ?_
        exact zR.iret rfl dX12_terms_106 (by have he : L_X12_terms_28 who (n + 1) be q σ = (w32 ((w32 ((w32 (be + (σ 2 3))) + 1)) - (σ 0 44)), σ) := (by rw [L_X12_terms_28, if_pos c33, if_neg c82]); rw [he]; exact ⟨rfl, rfl⟩)
      · refine zRx.sipush ⟨by decide, by decide⟩ rfl dX12_terms_85 ?_
        refine zRx.goto (tgt := 106) dX12_terms_88 (by decide) ?_
        exact zR.iret rfl dX12_terms_106 (by have he : L_X12_terms_28 who (n + 1) be q σ = ((-10000), σ) := (by rw [L_X12_terms_28, if_pos c33, if_pos c82]); rw [he]; exact ⟨rfl, rfl⟩)
    · refine zRx.aload_n 0 rfl rfl dX12_terms_36 ?_
      refine zRx.getR (a := 0) (b := 16) fl_12_77 rfl rfl dX12_terms_37 ?_
      refine zRx.iload_n 3 rfl rfl dX12_terms_40 ?_
      refine zRx.ialdv (v := σ 16 q) rfl rfl (by omega) (by omega) dX12_terms_41 ?_
      refine zRx.iload_n 1 rfl rfl dX12_terms_42 ?_
      refine zRx.icmp_ne (tgt := 72) dX12_terms_43 (by decide) (fun c43 => ?_) (fun c43 => ?_)
      · refine zRx.iinc (n := 1) (ls' := [(0, zP 0), (1, .inl who), (2, .inl be), (3, .inl (q + 1))]) 3 rfl ⟨by omega, by omega⟩ rfl (by decide) dX12_terms_72 ?_
        refine zRx.goto (tgt := 28) dX12_terms_75 (by decide) ?_
        have he : L_X12_terms_28 who (n + 1) be q σ = L_X12_terms_28 who n be (q + 1) σ := by rw [L_X12_terms_28, if_neg (Int.not_le.mpr c33), if_neg c43]
        rw [he]
        exact ih be (q + 1) σ (by omega) hm (by omega)
      · refine zRx.aload_n 0 rfl rfl dX12_terms_46 ?_
        refine zRx.getR (a := 0) (b := 20) fl_12_89 rfl rfl dX12_terms_47 ?_
        refine zRx.iload_n 3 rfl rfl dX12_terms_50 ?_
        refine zRx.ialdv (v := σ 20 q) rfl rfl (by omega) (by omega) dX12_terms_51 ?_
        refine zRx.if_le (tgt := 72) dX12_terms_52 (by decide) (fun c52 => ?_) (fun c52 => ?_)
        · refine zRx.iinc (n := 1) (ls' := [(0, zP 0), (1, .inl who), (2, .inl be), (3, .inl (q + 1))]) 3 rfl ⟨by omega, by omega⟩ rfl (by decide) dX12_terms_72 ?_
          refine zRx.goto (tgt := 28) dX12_terms_75 (by decide) ?_
          have he : L_X12_terms_28 who (n + 1) be q σ = L_X12_terms_28 who n be (q + 1) σ := by rw [L_X12_terms_28, if_neg (Int.not_le.mpr c33), if_pos c43, if_pos c52]
          rw [he]
          exact ih be (q + 1) σ (by omega) hm (by omega)
        · refine zRx.aload_n 0 rfl rfl dX12_terms_55 ?_
          refine zRx.getR (a := 0) (b := 24) fl_12_101 rfl rfl dX12_terms_56 ?_
          refine zRx.iload_n 3 rfl rfl dX12_terms_59 ?_
          refine zRx.ialdv (v := σ 24 q) rfl rfl (by omega) (by omega) dX12_terms_60 ?_
          refine zRx.iload_n 2 rfl rfl dX12_terms_61 ?_
          refine zRx.icmp_ge (tgt := 72) dX12_terms_62 (by decide) (fun c62 => ?_) (fun c62 => ?_)
          · refine zRx.iinc (n := 1) (ls' := [(0, zP 0), (1, .inl who), (2, .inl be), (3, .inl (q + 1))]) 3 rfl ⟨by omega, by omega⟩ rfl (by decide) dX12_terms_72 ?_
            refine zRx.goto (tgt := 28) dX12_terms_75 (by decide) ?_
            have he : L_X12_terms_28 who (n + 1) be q σ = L_X12_terms_28 who n be (q + 1) σ := by rw [L_X12_terms_28, if_neg (Int.not_le.mpr c33), if_pos c43, if_neg (Int.not_le.mpr c52), if_pos c62]
            rw [he]
            exact ih be (q + 1) σ (by omega) hm (by omega)
          · refine zRx.aload_n 0 rfl rfl dX12_terms_65 ?_
            refine zRx.getR (a := 0) (b := 24) fl_12_101 rfl rfl dX12_terms_66 ?_
            refine zRx.iload_n 3 rfl rfl dX12_terms_69 ?_
            refine zRx.ialdv (v := σ 24 q) rfl rfl (by omega) (by omega) dX12_terms_70 ?_
            refine zRx.istore_n (ls' := [(0, zP 0), (1, .inl who), (2, .inl (σ 24 q)), (3, .inl q)]) rfl rfl (by decide) dX12_terms_71 ?_
            refine zRx.iinc (n := 1) (ls' := [(0, zP 0), (1, .inl who), (2, .inl (σ 24 q)), (3, .inl (q + 1))]) 3 rfl ⟨by omega, by omega⟩ rfl (by decide) dX12_terms_72 ?_
            refine zRx.goto (tgt := 28) dX12_terms_75 (by decide) ?_
            have he : L_X12_terms_28 who (n + 1) be q σ = L_X12_terms_28 who n (σ 24 q) (q + 1) σ := by rw [L_X12_terms_28, if_neg (Int.not_le.mpr c33), if_pos c43, if_neg (Int.not_le.mpr c52), if_neg (Int.not_le.mpr c62)]
            rw [he]
            exact ih (σ 24 q) (q + 1) σ (by omega) hm (by omega)
def R_X12_terms (σ : zG) (who : Int) : Int × zG := if 0 ≤ who ∧ who ≤ (σ 2 0) - 1 then (L_X12_terms_28 who 500 1000000000 0 (R_X12_run (zu σ 0 0 0) (-1))) else ((-10000), zu σ 0 0 0)
theorem fr_R_X12_terms (σ : zG) (who : Int) {k : Nat} (h : k ∉ [0, 11, 12, 13, 14, 15, 16, 17, 18, 19, 20, 21, 22, 23, 24, 25]) : (R_X12_terms σ who).2 k = σ k := by
  have ne : ∀ c ∈ [0, 11, 12, 13, 14, 15, 16, 17, 18, 19, 20, 21, 22, 23, 24, 25], k ≠ c := fun c hc e => h (e ▸ hc)
  have nk_R_X12_run : k ∉ [0, 11, 12, 13, 14, 15, 16, 17, 18, 19, 20, 21, 22, 23, 24, 25] := fun hm => h (by first | (revert hm; simp only [List.mem_cons, List.not_mem_nil, or_false]; omega) | (simp at hm))
  have nl_L_X12_terms_28 : k ∉ [] := fun hm => h (by first | (revert hm; simp only [List.mem_cons, List.not_mem_nil, or_false]; omega) | (simp at hm))
  unfold R_X12_terms
  repeat' split
  all_goals first | rfl | simp only [zu_row _ _ _ (ne 0 (by decide)), zu_row _ _ _ (ne 11 (by decide)), zu_row _ _ _ (ne 12 (by decide)), zu_row _ _ _ (ne 13 (by decide)), zu_row _ _ _ (ne 14 (by decide)), zu_row _ _ _ (ne 15 (by decide)), zu_row _ _ _ (ne 16 (by decide)), zu_row _ _ _ (ne 17 (by decide)), zu_row _ _ _ (ne 18 (by decide)), zu_row _ _ _ (ne 19 (by decide)), zu_row _ _ _ (ne 20 (by decide)), zu_row _ _ _ (ne 21 (by decide)), zu_row _ _ _ (ne 22 (by decide)), zu_row _ _ _ (ne 23 (by decide)), zu_row _ _ _ (ne 24 (by decide)), zu_row _ _ _ (ne 25 (by decide)), fr_R_X12_run (h := nk_R_X12_run), fr_L_X12_terms_28 (h := nl_L_X12_terms_28)]

set_option maxRecDepth 20000 in
theorem does_X12_terms (σ : zG) (who : Int) (hN : MN (σ 2))  : zDo SM 6 m_X12_terms [zP 0, .inl who] σ (zEq (some (.inl (R_X12_terms σ who).1)) (R_X12_terms σ who).2) := by
  refine zDo.intro mk_X12_terms (Nat.le_of_ble_eq_true rfl) ?_
  obtain ⟨hW, hp, hF, hL⟩ := id hN
  refine zRx.aload_n 0 rfl rfl dX12_terms_0 ?_
  refine zRx.iconst ⟨by decide, by decide⟩ dX12_terms_1 ?_
  refine zRx.putI (a := 0) (ji := 0) pl_12_1 rfl rfl rfl dX12_terms_2 ?_
  refine zRx.aload_n 0 rfl rfl dX12_terms_5 ?_
  refine zRx.iload_n 1 rfl rfl dX12_terms_6 ?_
  refine zRx.cVi (w := .inl (b2 (0 ≤ who ∧ who ≤ (σ 2 0) - 1))) (M := m_X12_isWho) (av := [.inl who]) cv_12_397 mk_X12_isWho (by decide) (b := 0) rfl rfl (Nat.le_of_ble_eq_true rfl) dX12_terms_7 (does_isWho2 (zu σ 0 0 0) who (σ 2 0) (zu_ne _ _ _ _ (by decide)) hN.2.1) ?_
  refine zRx.if_neB (tgt := 17) dX12_terms_10 (by decide) (fun c10 => ?_) (fun c10 => ?_)
  · refine zRx.aload_n 0 rfl rfl dX12_terms_17 ?_
    refine zRx.iconst ⟨by decide, by decide⟩ dX12_terms_18 ?_
    refine zRx.cVv (M := m_X12_run) (av := [.inl (-1)]) cv_12_400 mk_X12_run (by decide) (b := 0) rfl rfl (Nat.le_of_ble_eq_true rfl) dX12_terms_19 (does_X12_run (zu σ 0 0 0) (-1) (MW_z hN _ _)) ?_
    refine zRx.ldcw ⟨by decide, by decide⟩ kc_12_428 dX12_terms_22 ?_
    refine zRx.istore_n (ls' := [(0, zP 0), (1, .inl who), (2, .inl 1000000000)]) rfl rfl (by decide) dX12_terms_25 ?_
    refine zRx.iconst ⟨by decide, by decide⟩ dX12_terms_26 ?_
    refine zRx.istore_n (ls' := [(0, zP 0), (1, .inl who), (2, .inl 1000000000), (3, .inl 0)]) rfl rfl (by decide) dX12_terms_27 ?_
    have he : R_X12_terms σ who = L_X12_terms_28 who 500 1000000000 0 (R_X12_run (zu σ 0 0 0) (-1)) := by rw [R_X12_terms, if_pos c10]
    rw [he]
    exact loop_X12_terms_28 who   500 1000000000 0 (R_X12_run (zu σ 0 0 0) (-1)) (by omega) (run_m hN _ _ _) (by have := run_m hN 0 0 (-1); omega)
  · refine zRx.sipush ⟨by decide, by decide⟩ rfl dX12_terms_13 ?_
    exact zR.iret rfl dX12_terms_16 (by have he : R_X12_terms σ who = ((-10000), zu σ 0 0 0) := (by rw [R_X12_terms, if_neg c10]); rw [he]; exact ⟨rfl, rfl⟩)

