/-! the reference: what it answers of the book -/
/-- the reference's rows, with their lower ends -/
def MN (s : Int → Int) : Prop := MW s ∧ (0 ≤ s 0 ∧ s 0 ≤ 8) ∧ (0 ≤ s 1 ∧ s 1 ≤ 12) ∧ (0 ≤ s 172 ∧ s 172 ≤ 60)
theorem runL_K (but : Int) : ∀ (n : Nat) (q : Int) (σ : zG), 0 ≤ q → MW (σ 2) → MK σ → (0 ≤ σ 0 43 ∧ σ 0 43 ≤ 7 * q ∧ σ 0 43 ≤ 420) → MK (L_X12_run_6 but n q σ) ∧ (0 ≤ L_X12_run_6 but n q σ 0 43 ∧ L_X12_run_6 but n q σ 0 43 ≤ 420)
  | 0, q, σ, h0, hW, hK, hm => ⟨hK, by show 0 ≤ σ 0 43 ∧ σ 0 43 ≤ 420; omega⟩
  | n + 1, q, σ, h0, hW, hK, hm => by
    rw [L_X12_run_6]
    split
    · exact ⟨hK, by omega⟩
    · next c1 =>
      have hL := hW.2.2.2.1
      split
      · exact runL_K but n (q + 1) σ (by omega) hW hK (by omega)
      · have hl := hW.2.2.2.2 q h0 (by omega)
        have key : ∀ x y : Int, MK (L_X12_run_6 but n (q + 1) (zu (zu ((R_X12_does σ q).2) 15 q x) 0 46 y)) ∧ (0 ≤ L_X12_run_6 but n (q + 1) (zu (zu ((R_X12_does σ q).2) 15 q x) 0 46 y) 0 43 ∧ L_X12_run_6 but n (q + 1) (zu (zu ((R_X12_does σ q).2) 15 q x) 0 46 y) 0 43 ≤ 420) := by
          intro x y
          have hd := does_m σ q hl
          refine runL_K but n (q + 1) _ (by omega) ?_ (MK_row (by rw [zu_row _ _ _ (by decide), zu_row _ _ _ (by decide)]) (does_K σ q hl hW.1 hK)) ?_
          · rw [zu_row _ _ _ (by decide), zu_row _ _ _ (by decide), fr_R_X12_does (h := by decide)]
            exact hW
          · rw [zu_off _ _ _ (by decide), zu_ne _ _ _ _ (by decide)]
            omega
        split
        · exact key _ _
        · exact key _ _
theorem run_K (σ : zG) (but : Int) (hW : MW (σ 2)) : MK (R_X12_run σ but) ∧ (0 ≤ R_X12_run σ but 0 43 ∧ R_X12_run σ but 0 43 ≤ 420) := by
  unfold R_X12_run
  refine runL_K but 70 0 _ (by decide) ?_ (begin_MK σ hW) (by rw [begin_m]; decide)
  rw [fr_R_X12_begin σ (k := 2) (by decide)]
  exact hW
theorem MW_z {σ : zG} (hN : MN (σ 2)) (j v : Int) : MW (zu σ 0 j v 2) := by
  rw [zu_row _ _ _ (by decide)]
  exact hN.1

set_option maxRecDepth 20000 in
theorem does_X12_isWho (σ : zG) (who : Int) (hp : 0 ≤ σ 2 0 ∧ σ 2 0 ≤ 8) : zDo SM 1 m_X12_isWho [zP 0, .inl who] σ (zEq (some (.inl (b2 (0 ≤ who ∧ who ≤ σ 2 0 - 1)))) σ) := by
  refine zDo.intro mk_X12_isWho (Nat.le_of_ble_eq_true rfl) ?_
  refine zRx.iload_n 1 rfl rfl dX12_isWho_0 ?_
  refine zRx.iconst ⟨by decide, by decide⟩ dX12_isWho_1 ?_
  refine zRx.aload_n 0 rfl rfl dX12_isWho_2 ?_
  refine zRx.getR (a := 0) (b := 2) fl_12_33 rfl rfl dX12_isWho_3 ?_
  refine zRx.iconst ⟨by decide, by decide⟩ dX12_isWho_6 ?_
  refine zRx.ialdv (v := σ 2 0) rfl rfl (by decide) (by decide) dX12_isWho_7 ?_
  refine zRx.iconst ⟨by decide, by decide⟩ dX12_isWho_8 ?_
  refine zRx.isub ⟨by omega, by omega⟩ dX12_isWho_9 ?_
  refine zRx.cSi (w := .inl (b2 (0 ≤ who ∧ who ≤ ((σ 2 0) - 1)))) (M := m_X12_isIn) (av := [.inl who, .inl 0, .inl ((σ 2 0) - 1)]) cs_12_254 mk_X12_isIn (by decide) rfl (Nat.le_of_ble_eq_true rfl) dX12_isWho_10 (does_X12_isIn who 0 ((σ 2 0) - 1) SM σ) ?_
  exact zR.zret rfl (b2_01 _) dX12_isWho_13 ⟨by rw [show b2 (0 ≤ who ∧ who ≤ ((σ 2 0) - 1)) = b2 (0 ≤ who ∧ who ≤ σ 2 0 - 1) from by unfold b2; simp only []], rfl⟩

set_option maxRecDepth 20000 in
theorem does_X12_isFact (σ : zG) (f : Int) (hp : 0 ≤ σ 2 1 ∧ σ 2 1 ≤ 12) : zDo SM 1 m_X12_isFact [zP 0, .inl f] σ (zEq (some (.inl (b2 (0 ≤ f ∧ f ≤ σ 2 1 - 1)))) σ) := by
  refine zDo.intro mk_X12_isFact (Nat.le_of_ble_eq_true rfl) ?_
  refine zRx.iload_n 1 rfl rfl dX12_isFact_0 ?_
  refine zRx.iconst ⟨by decide, by decide⟩ dX12_isFact_1 ?_
  refine zRx.aload_n 0 rfl rfl dX12_isFact_2 ?_
  refine zRx.getR (a := 0) (b := 2) fl_12_33 rfl rfl dX12_isFact_3 ?_
  refine zRx.iconst ⟨by decide, by decide⟩ dX12_isFact_6 ?_
  refine zRx.ialdv (v := σ 2 1) rfl rfl (by decide) (by decide) dX12_isFact_7 ?_
  refine zRx.iconst ⟨by decide, by decide⟩ dX12_isFact_8 ?_
  refine zRx.isub ⟨by omega, by omega⟩ dX12_isFact_9 ?_
  refine zRx.cSi (w := .inl (b2 (0 ≤ f ∧ f ≤ ((σ 2 1) - 1)))) (M := m_X12_isIn) (av := [.inl f, .inl 0, .inl ((σ 2 1) - 1)]) cs_12_254 mk_X12_isIn (by decide) rfl (Nat.le_of_ble_eq_true rfl) dX12_isFact_10 (does_X12_isIn f 0 ((σ 2 1) - 1) SM σ) ?_
  exact zR.zret rfl (b2_01 _) dX12_isFact_13 ⟨by rw [show b2 (0 ≤ f ∧ f ≤ ((σ 2 1) - 1)) = b2 (0 ≤ f ∧ f ≤ σ 2 1 - 1) from by unfold b2; simp only []], rfl⟩

theorem does_isWho2 (σ : zG) (who l : Int) (e : σ 2 0 = l) (hp : 0 ≤ l ∧ l ≤ 8) : zDo SM 1 m_X12_isWho [zP 0, .inl who] σ (zEq (some (.inl (b2 (0 ≤ who ∧ who ≤ l - 1)))) σ) := by
  subst e
  exact does_X12_isWho σ who hp
theorem does_isFact2 (σ : zG) (f l : Int) (e : σ 2 1 = l) (hp : 0 ≤ l ∧ l ≤ 12) : zDo SM 1 m_X12_isFact [zP 0, .inl f] σ (zEq (some (.inl (b2 (0 ≤ f ∧ f ≤ l - 1)))) σ) := by
  subst e
  exact does_X12_isFact σ f hp

def V_X12_throwsIf (b : Int) : Int := b
def F_X12_throwsIf (σ : zG) (b : Int) : zG := if b = 0 then (zu σ 0 0 0) else (zu σ 0 0 1)
theorem fr_F_X12_throwsIf (σ : zG) (b : Int) {k : Nat} (h : k ∉ [0]) : (F_X12_throwsIf σ b) k = σ k := by
  have ne : ∀ c ∈ [0], k ≠ c := fun c hc e => h (e ▸ hc)
  unfold F_X12_throwsIf
  repeat' split
  all_goals first | rfl | simp only [zu_row _ _ _ (ne 0 (by decide))]

set_option maxRecDepth 20000 in
theorem does_X12_throwsIf (σ : zG) (b : Int) (hb : 0 ≤ b ∧ b ≤ 1) : zDo SM 0 m_X12_throwsIf [zP 0, .inl b] σ (zEq (some (.inl (V_X12_throwsIf b))) (F_X12_throwsIf σ b)) := by
  refine zDo.intro mk_X12_throwsIf (Nat.le_of_ble_eq_true rfl) ?_
  refine zRx.aload_n 0 rfl rfl dX12_throwsIf_0 ?_
  refine zRx.iload_n 1 rfl rfl dX12_throwsIf_1 ?_
  refine zRx.if_eq (tgt := 9) dX12_throwsIf_2 (by decide) (fun c2 => ?_) (fun c2 => ?_)
  · refine zRx.iconst ⟨by decide, by decide⟩ dX12_throwsIf_9 ?_
    refine zRx.putI (a := 0) (ji := 0) pl_12_1 rfl rfl rfl dX12_throwsIf_10 ?_
    refine zRx.iload_n 1 rfl rfl dX12_throwsIf_13 ?_
    exact zR.zret rfl (by omega) dX12_throwsIf_14 ⟨rfl, by unfold F_X12_throwsIf; rw [if_pos c2]⟩
  · refine zRx.iconst ⟨by decide, by decide⟩ dX12_throwsIf_5 ?_
    refine zRx.goto (tgt := 10) dX12_throwsIf_6 (by decide) ?_
    refine zRx.putI (a := 0) (ji := 0) pl_12_1 rfl rfl rfl dX12_throwsIf_10 ?_
    refine zRx.iload_n 1 rfl rfl dX12_throwsIf_13 ?_
    exact zR.zret rfl (by omega) dX12_throwsIf_14 ⟨rfl, by unfold F_X12_throwsIf; rw [if_neg c2]⟩

theorem throws1 (σ : zG) : zDo SM 0 m_X12_throwsIf [zP 0, .inl 1] σ (zEq (some (.inl 1)) (zu σ 0 0 1)) := does_X12_throwsIf σ 1 (by decide)
theorem throws0 (σ : zG) : zDo SM 0 m_X12_throwsIf [zP 0, .inl 0] σ (zEq (some (.inl 0)) (zu σ 0 0 0)) := does_X12_throwsIf σ 0 (by decide)

def V_X12_debts (σ : zG)  : Int := (R_X12_run (zu σ 0 0 0) (-1)) 0 43
def F_X12_debts (σ : zG)  : zG := R_X12_run (zu σ 0 0 0) (-1)
theorem fr_F_X12_debts (σ : zG)  {k : Nat} (h : k ∉ [0, 11, 12, 13, 14, 15, 16, 17, 18, 19, 20, 21, 22, 23, 24, 25]) : (F_X12_debts σ ) k = σ k := by
  have ne : ∀ c ∈ [0, 11, 12, 13, 14, 15, 16, 17, 18, 19, 20, 21, 22, 23, 24, 25], k ≠ c := fun c hc e => h (e ▸ hc)
  have nk_R_X12_run : k ∉ [0, 11, 12, 13, 14, 15, 16, 17, 18, 19, 20, 21, 22, 23, 24, 25] := fun hm => h (by first | (revert hm; simp only [List.mem_cons, List.not_mem_nil, or_false]; omega) | (simp at hm))
  unfold F_X12_debts
  repeat' split
  all_goals first | rfl | simp only [zu_row _ _ _ (ne 0 (by decide)), zu_row _ _ _ (ne 11 (by decide)), zu_row _ _ _ (ne 12 (by decide)), zu_row _ _ _ (ne 13 (by decide)), zu_row _ _ _ (ne 14 (by decide)), zu_row _ _ _ (ne 15 (by decide)), zu_row _ _ _ (ne 16 (by decide)), zu_row _ _ _ (ne 17 (by decide)), zu_row _ _ _ (ne 18 (by decide)), zu_row _ _ _ (ne 19 (by decide)), zu_row _ _ _ (ne 20 (by decide)), zu_row _ _ _ (ne 21 (by decide)), zu_row _ _ _ (ne 22 (by decide)), zu_row _ _ _ (ne 23 (by decide)), zu_row _ _ _ (ne 24 (by decide)), zu_row _ _ _ (ne 25 (by decide)), fr_R_X12_run (h := nk_R_X12_run)]

set_option maxRecDepth 20000 in
theorem does_X12_debts (σ : zG)  (hN : MN (σ 2)) : zDo SM 6 m_X12_debts [zP 0] σ (zEq (some (.inl (V_X12_debts σ ))) (F_X12_debts σ )) := by
  refine zDo.intro mk_X12_debts (Nat.le_of_ble_eq_true rfl) ?_
  refine zRx.aload_n 0 rfl rfl dX12_debts_0 ?_
  refine zRx.iconst ⟨by decide, by decide⟩ dX12_debts_1 ?_
  refine zRx.putI (a := 0) (ji := 0) pl_12_1 rfl rfl rfl dX12_debts_2 ?_
  refine zRx.aload_n 0 rfl rfl dX12_debts_5 ?_
  refine zRx.iconst ⟨by decide, by decide⟩ dX12_debts_6 ?_
  refine zRx.cVv (M := m_X12_run) (av := [.inl (-1)]) cv_12_400 mk_X12_run (by decide) (b := 0) rfl rfl (Nat.le_of_ble_eq_true rfl) dX12_debts_7 (does_X12_run (zu σ 0 0 0) (-1) (MW_z hN _ _)) ?_
  refine zRx.aload_n 0 rfl rfl dX12_debts_10 ?_
  refine zRx.getIv (a := 0) (ji := 43) (v := (R_X12_run (zu σ 0 0 0) (-1)) 0 43) rfl fl_12_357 rfl rfl rfl dX12_debts_11 ?_
  exact zR.iret rfl dX12_debts_14 ⟨rfl, rfl⟩

def V_X12_wrong (σ : zG) (i : Int) : Int := if 0 ≤ i ∧ i ≤ ((σ 2 172) - 1) then ((R_X12_run (zu σ 0 0 0) (-1)) 15 i) else (-1)
def F_X12_wrong (σ : zG) (i : Int) : zG := if 0 ≤ i ∧ i ≤ ((σ 2 172) - 1) then (R_X12_run (zu σ 0 0 0) (-1)) else (zu σ 0 0 0)
theorem fr_F_X12_wrong (σ : zG) (i : Int) {k : Nat} (h : k ∉ [0, 11, 12, 13, 14, 15, 16, 17, 18, 19, 20, 21, 22, 23, 24, 25]) : (F_X12_wrong σ i) k = σ k := by
  have ne : ∀ c ∈ [0, 11, 12, 13, 14, 15, 16, 17, 18, 19, 20, 21, 22, 23, 24, 25], k ≠ c := fun c hc e => h (e ▸ hc)
  have nk_R_X12_run : k ∉ [0, 11, 12, 13, 14, 15, 16, 17, 18, 19, 20, 21, 22, 23, 24, 25] := fun hm => h (by first | (revert hm; simp only [List.mem_cons, List.not_mem_nil, or_false]; omega) | (simp at hm))
  unfold F_X12_wrong
  repeat' split
  all_goals first | rfl | simp only [zu_row _ _ _ (ne 0 (by decide)), zu_row _ _ _ (ne 11 (by decide)), zu_row _ _ _ (ne 12 (by decide)), zu_row _ _ _ (ne 13 (by decide)), zu_row _ _ _ (ne 14 (by decide)), zu_row _ _ _ (ne 15 (by decide)), zu_row _ _ _ (ne 16 (by decide)), zu_row _ _ _ (ne 17 (by decide)), zu_row _ _ _ (ne 18 (by decide)), zu_row _ _ _ (ne 19 (by decide)), zu_row _ _ _ (ne 20 (by decide)), zu_row _ _ _ (ne 21 (by decide)), zu_row _ _ _ (ne 22 (by decide)), zu_row _ _ _ (ne 23 (by decide)), zu_row _ _ _ (ne 24 (by decide)), zu_row _ _ _ (ne 25 (by decide)), fr_R_X12_run (h := nk_R_X12_run)]

set_option maxRecDepth 20000 in
theorem does_X12_wrong (σ : zG) (i : Int) (hN : MN (σ 2)) : zDo SM 6 m_X12_wrong [zP 0, .inl i] σ (zEq (some (.inl (V_X12_wrong σ i))) (F_X12_wrong σ i)) := by
  refine zDo.intro mk_X12_wrong (Nat.le_of_ble_eq_true rfl) ?_
  obtain ⟨hW, hp, hF, hL⟩ := id hN
  refine zRx.aload_n 0 rfl rfl dX12_wrong_0 ?_
  refine zRx.iconst ⟨by decide, by decide⟩ dX12_wrong_1 ?_
  refine zRx.putI (a := 0) (ji := 0) pl_12_1 rfl rfl rfl dX12_wrong_2 ?_
  refine zRx.iload_n 1 rfl rfl dX12_wrong_5 ?_
  refine zRx.iconst ⟨by decide, by decide⟩ dX12_wrong_6 ?_
  refine zRx.aload_n 0 rfl rfl dX12_wrong_7 ?_
  refine zRx.getR (a := 0) (b := 2) fl_12_33 rfl rfl dX12_wrong_8 ?_
  refine zRx.sipush ⟨by decide, by decide⟩ rfl dX12_wrong_11 ?_
  refine zRx.ialdv (v := σ 2 172) (zu_ne _ _ _ _ (by decide)) rfl (by decide) (by decide) dX12_wrong_14 ?_
  refine zRx.iconst ⟨by decide, by decide⟩ dX12_wrong_15 ?_
  refine zRx.isub ⟨by omega, by omega⟩ dX12_wrong_16 ?_
  refine zRx.cSi (w := .inl (b2 (0 ≤ i ∧ i ≤ ((σ 2 172) - 1)))) (M := m_X12_isIn) (av := [.inl i, .inl 0, .inl ((σ 2 172) - 1)]) cs_12_254 mk_X12_isIn (by decide) rfl (Nat.le_of_ble_eq_true rfl) dX12_wrong_17 (does_X12_isIn i 0 ((σ 2 172) - 1) SM (zu σ 0 0 0)) ?_
  refine zRx.if_neB (tgt := 25) dX12_wrong_20 (by decide) (fun c20 => ?_) (fun c20 => ?_)
  · refine zRx.aload_n 0 rfl rfl dX12_wrong_25 ?_
    refine zRx.iconst ⟨by decide, by decide⟩ dX12_wrong_26 ?_
    refine zRx.cVv (M := m_X12_run) (av := [.inl (-1)]) cv_12_400 mk_X12_run (by decide) (b := 0) rfl rfl (Nat.le_of_ble_eq_true rfl) dX12_wrong_27 (does_X12_run (zu σ 0 0 0) (-1) (MW_z hN _ _)) ?_
    refine zRx.aload_n 0 rfl rfl dX12_wrong_30 ?_
    refine zRx.getR (a := 0) (b := 15) fl_12_74 rfl rfl dX12_wrong_31 ?_
    refine zRx.iload_n 1 rfl rfl dX12_wrong_34 ?_
    refine zRx.ialdv (v := (R_X12_run (zu σ 0 0 0) (-1)) 15 i) rfl rfl (by omega) (by omega) dX12_wrong_35 ?_
    exact zR.iret rfl dX12_wrong_36 ⟨by unfold V_X12_wrong; rw [if_pos c20], by unfold F_X12_wrong; rw [if_pos c20]⟩
  · refine zRx.iconst ⟨by decide, by decide⟩ dX12_wrong_23 ?_
    exact zR.iret rfl dX12_wrong_24 ⟨by unfold V_X12_wrong; rw [if_neg c20], by unfold F_X12_wrong; rw [if_neg c20]⟩

def V_X12_source (σ : zG) (who f : Int) : Int := if 0 ≤ who ∧ who ≤ (σ 2 0) - 1 then (if 0 ≤ f ∧ f ≤ (σ 2 1) - 1 then ((R_X12_run (zu σ 0 0 0) (-1)) 12 ((12 * who) + f)) else (-1)) else (-1)
def F_X12_source (σ : zG) (who f : Int) : zG := if 0 ≤ who ∧ who ≤ (σ 2 0) - 1 then (if 0 ≤ f ∧ f ≤ (σ 2 1) - 1 then (R_X12_run (zu σ 0 0 0) (-1)) else (zu σ 0 0 0)) else (zu σ 0 0 0)
theorem fr_F_X12_source (σ : zG) (who f : Int) {k : Nat} (h : k ∉ [0, 11, 12, 13, 14, 15, 16, 17, 18, 19, 20, 21, 22, 23, 24, 25]) : (F_X12_source σ who f) k = σ k := by
  have ne : ∀ c ∈ [0, 11, 12, 13, 14, 15, 16, 17, 18, 19, 20, 21, 22, 23, 24, 25], k ≠ c := fun c hc e => h (e ▸ hc)
  have nk_R_X12_run : k ∉ [0, 11, 12, 13, 14, 15, 16, 17, 18, 19, 20, 21, 22, 23, 24, 25] := fun hm => h (by first | (revert hm; simp only [List.mem_cons, List.not_mem_nil, or_false]; omega) | (simp at hm))
  unfold F_X12_source
  repeat' split
  all_goals first | rfl | simp only [zu_row _ _ _ (ne 0 (by decide)), zu_row _ _ _ (ne 11 (by decide)), zu_row _ _ _ (ne 12 (by decide)), zu_row _ _ _ (ne 13 (by decide)), zu_row _ _ _ (ne 14 (by decide)), zu_row _ _ _ (ne 15 (by decide)), zu_row _ _ _ (ne 16 (by decide)), zu_row _ _ _ (ne 17 (by decide)), zu_row _ _ _ (ne 18 (by decide)), zu_row _ _ _ (ne 19 (by decide)), zu_row _ _ _ (ne 20 (by decide)), zu_row _ _ _ (ne 21 (by decide)), zu_row _ _ _ (ne 22 (by decide)), zu_row _ _ _ (ne 23 (by decide)), zu_row _ _ _ (ne 24 (by decide)), zu_row _ _ _ (ne 25 (by decide)), fr_R_X12_run (h := nk_R_X12_run)]

set_option maxRecDepth 20000 in
theorem does_X12_source (σ : zG) (who f : Int) (hN : MN (σ 2)) : zDo SM 6 m_X12_source [zP 0, .inl who, .inl f] σ (zEq (some (.inl (V_X12_source σ who f))) (F_X12_source σ who f)) := by
  refine zDo.intro mk_X12_source (Nat.le_of_ble_eq_true rfl) ?_
  obtain ⟨hW, hp, hF, hL⟩ := id hN
  refine zRx.aload_n 0 rfl rfl dX12_source_0 ?_
  refine zRx.iconst ⟨by decide, by decide⟩ dX12_source_1 ?_
  refine zRx.putI (a := 0) (ji := 0) pl_12_1 rfl rfl rfl dX12_source_2 ?_
  refine zRx.aload_n 0 rfl rfl dX12_source_5 ?_
  refine zRx.iload_n 1 rfl rfl dX12_source_6 ?_
  refine zRx.cVi (w := .inl (b2 (0 ≤ who ∧ who ≤ (σ 2 0) - 1))) (M := m_X12_isWho) (av := [.inl who]) cv_12_397 mk_X12_isWho (by decide) (b := 0) rfl rfl (Nat.le_of_ble_eq_true rfl) dX12_source_7 (does_isWho2 (zu σ 0 0 0) who (σ 2 0) (zu_ne _ _ _ _ (by decide)) hN.2.1) ?_
  refine zRx.if_eqB (tgt := 21) dX12_source_10 (by decide) (fun c10 => ?_) (fun c10 => ?_)
  · refine zRx.iconst ⟨by decide, by decide⟩ dX12_source_21 ?_
    exact zR.iret rfl dX12_source_22 ⟨by unfold V_X12_source; rw [if_neg c10], by unfold F_X12_source; rw [if_neg c10]⟩
  · refine zRx.aload_n 0 rfl rfl dX12_source_13 ?_
    refine zRx.iload_n 2 rfl rfl dX12_source_14 ?_
    refine zRx.cVi (w := .inl (b2 (0 ≤ f ∧ f ≤ (σ 2 1) - 1))) (M := m_X12_isFact) (av := [.inl f]) cv_12_316 mk_X12_isFact (by decide) (b := 0) rfl rfl (Nat.le_of_ble_eq_true rfl) dX12_source_15 (does_isFact2 (zu σ 0 0 0) f (σ 2 1) (zu_ne _ _ _ _ (by decide)) hN.2.2.1) ?_
    refine zRx.if_neB (tgt := 23) dX12_source_18 (by decide) (fun c18 => ?_) (fun c18 => ?_)
    · refine zRx.aload_n 0 rfl rfl dX12_source_23 ?_
      refine zRx.iconst ⟨by decide, by decide⟩ dX12_source_24 ?_
      refine zRx.cVv (M := m_X12_run) (av := [.inl (-1)]) cv_12_400 mk_X12_run (by decide) (b := 0) rfl rfl (Nat.le_of_ble_eq_true rfl) dX12_source_25 (does_X12_run (zu σ 0 0 0) (-1) (MW_z hN _ _)) ?_
      refine zRx.aload_n 0 rfl rfl dX12_source_28 ?_
      refine zRx.getR (a := 0) (b := 12) fl_12_65 rfl rfl dX12_source_29 ?_
      refine zRx.bipush ⟨by decide, by decide⟩ rfl dX12_source_32 ?_
      refine zRx.iload_n 1 rfl rfl dX12_source_34 ?_
      refine zRx.imul ⟨by omega, by omega⟩ dX12_source_35 ?_
      refine zRx.iload_n 2 rfl rfl dX12_source_36 ?_
      refine zRx.iadd ⟨by omega, by omega⟩ dX12_source_37 ?_
      refine zRx.ialdv (v := (R_X12_run (zu σ 0 0 0) (-1)) 12 ((12 * who) + f)) rfl rfl (by omega) (by omega) dX12_source_38 ?_
      exact zR.iret rfl dX12_source_39 ⟨by unfold V_X12_source; rw [if_pos c10, if_pos c18], by unfold F_X12_source; rw [if_pos c10, if_pos c18]⟩
    · refine zRx.iconst ⟨by decide, by decide⟩ dX12_source_21 ?_
      exact zR.iret rfl dX12_source_22 ⟨by unfold V_X12_source; rw [if_pos c10, if_neg c18], by unfold F_X12_source; rw [if_pos c10, if_neg c18]⟩

def V_X12_orderAt (σ : zG) (i : Int) : Int := if 0 ≤ i ∧ i ≤ ((σ 0 60) - 1) then (σ 32 i) else (-1)
def F_X12_orderAt (σ : zG) (i : Int) : zG := zu σ 0 0 0
theorem fr_F_X12_orderAt (σ : zG) (i : Int) {k : Nat} (h : k ∉ [0]) : (F_X12_orderAt σ i) k = σ k := by
  have ne : ∀ c ∈ [0], k ≠ c := fun c hc e => h (e ▸ hc)
  unfold F_X12_orderAt
  repeat' split
  all_goals first | rfl | simp only [zu_row _ _ _ (ne 0 (by decide))]

set_option maxRecDepth 20000 in
theorem does_X12_orderAt (σ : zG) (i : Int) (ht : 0 ≤ σ 0 60 ∧ σ 0 60 ≤ 5) : zDo SM 1 m_X12_orderAt [zP 0, .inl i] σ (zEq (some (.inl (V_X12_orderAt σ i))) (F_X12_orderAt σ i)) := by
  refine zDo.intro mk_X12_orderAt (Nat.le_of_ble_eq_true rfl) ?_
  refine zRx.aload_n 0 rfl rfl dX12_orderAt_0 ?_
  refine zRx.iconst ⟨by decide, by decide⟩ dX12_orderAt_1 ?_
  refine zRx.putI (a := 0) (ji := 0) pl_12_1 rfl rfl rfl dX12_orderAt_2 ?_
  refine zRx.iload_n 1 rfl rfl dX12_orderAt_5 ?_
  refine zRx.iconst ⟨by decide, by decide⟩ dX12_orderAt_6 ?_
  refine zRx.aload_n 0 rfl rfl dX12_orderAt_7 ?_
  refine zRx.getIv (a := 0) (ji := 60) (v := σ 0 60) (zu_off _ _ _ (by decide)) fl_12_451 rfl rfl rfl dX12_orderAt_8 ?_
  refine zRx.iconst ⟨by decide, by decide⟩ dX12_orderAt_11 ?_
  refine zRx.isub ⟨by omega, by omega⟩ dX12_orderAt_12 ?_
  refine zRx.cSi (w := .inl (b2 (0 ≤ i ∧ i ≤ ((σ 0 60) - 1)))) (M := m_X12_isIn) (av := [.inl i, .inl 0, .inl ((σ 0 60) - 1)]) cs_12_254 mk_X12_isIn (by decide) rfl (Nat.le_of_ble_eq_true rfl) dX12_orderAt_13 (does_X12_isIn i 0 ((σ 0 60) - 1) SM (zu σ 0 0 0)) ?_
  refine zRx.if_eqB (tgt := 28) dX12_orderAt_16 (by decide) (fun c16 => ?_) (fun c16 => ?_)
  · refine zRx.iconst ⟨by decide, by decide⟩ dX12_orderAt_28 ?_
    exact zR.iret rfl dX12_orderAt_29 ⟨by unfold V_X12_orderAt; rw [if_neg c16], rfl⟩
  · refine zRx.aload_n 0 rfl rfl dX12_orderAt_19 ?_
    refine zRx.getR (a := 0) (b := 32) fl_12_126 rfl rfl dX12_orderAt_20 ?_
    refine zRx.iload_n 1 rfl rfl dX12_orderAt_23 ?_
    refine zRx.ialdv (v := σ 32 i) (zu_ne _ _ _ _ (by decide)) rfl (by omega) (by omega) dX12_orderAt_24 ?_
    refine zRx.goto (tgt := 29) dX12_orderAt_25 (by decide) ?_
    exact zR.iret rfl dX12_orderAt_29 ⟨by unfold V_X12_orderAt; rw [if_pos c16], rfl⟩

def V_X12_fact (σ : zG) (f i : Int) : Int := if 0 ≤ f ∧ f ≤ (σ 2 1) - 1 then (if 0 ≤ i ∧ i ≤ 2 then (σ 2 ((8 + (3 * f)) + i)) else 0) else 0
def F_X12_fact (σ : zG) (f i : Int) : zG := if 0 ≤ f ∧ f ≤ (σ 2 1) - 1 then (if 0 ≤ i ∧ i ≤ 2 then (zu σ 0 0 0) else (zu σ 0 0 1)) else (zu σ 0 0 1)
theorem fr_F_X12_fact (σ : zG) (f i : Int) {k : Nat} (h : k ∉ [0]) : (F_X12_fact σ f i) k = σ k := by
  have ne : ∀ c ∈ [0], k ≠ c := fun c hc e => h (e ▸ hc)
  unfold F_X12_fact
  repeat' split
  all_goals first | rfl | simp only [zu_row _ _ _ (ne 0 (by decide))]

set_option maxRecDepth 20000 in
theorem does_X12_fact (σ : zG) (f i : Int) (hN : MN (σ 2)) : zDo SM 2 m_X12_fact [zP 0, .inl f, .inl i] σ (zEq (some (.inl (V_X12_fact σ f i))) (F_X12_fact σ f i)) := by
  refine zDo.intro mk_X12_fact (Nat.le_of_ble_eq_true rfl) ?_
  obtain ⟨hW, hp, hF, hL⟩ := id hN
  refine zRx.aload_n 0 rfl rfl dX12_fact_0 ?_
  refine zRx.aload_n 0 rfl rfl dX12_fact_1 ?_
  refine zRx.iload_n 1 rfl rfl dX12_fact_2 ?_
  refine zRx.cVi (w := .inl (b2 (0 ≤ f ∧ f ≤ (σ 2 1) - 1))) (M := m_X12_isFact) (av := [.inl f]) cv_12_316 mk_X12_isFact (by decide) (b := 0) rfl rfl (Nat.le_of_ble_eq_true rfl) dX12_fact_3 (does_isFact2 σ f (σ 2 1) rfl hN.2.2.1) ?_
  refine zRx.if_eqB (tgt := 18) dX12_fact_6 (by decide) (fun c6 => ?_) (fun c6 => ?_)
  · refine zRx.iconst ⟨by decide, by decide⟩ dX12_fact_18 ?_
    refine zRx.goto (tgt := 23) dX12_fact_19 (by decide) ?_
    refine zRx.cVi (w := .inl 1) (M := m_X12_throwsIf) (av := [.inl 1]) cv_12_319 mk_X12_throwsIf (by decide) (b := 0) rfl rfl (Nat.le_of_ble_eq_true rfl) dX12_fact_23 (throws1 σ) ?_
    refine zRx.if_eq (tgt := 33) dX12_fact_26 (by decide) (fun c26 => absurd c26 (by decide)) (fun _ => ?_)
    refine zRx.iconst ⟨by decide, by decide⟩ dX12_fact_29 ?_
    refine zRx.goto (tgt := 46) dX12_fact_30 (by decide) ?_
    exact zR.iret rfl dX12_fact_46 ⟨by unfold V_X12_fact; rw [if_neg c6], by unfold F_X12_fact; rw [if_neg c6]⟩
  · refine zRx.iload_n 2 rfl rfl dX12_fact_9 ?_
    refine zRx.iconst ⟨by decide, by decide⟩ dX12_fact_10 ?_
    refine zRx.iconst ⟨by decide, by decide⟩ dX12_fact_11 ?_
    refine zRx.cSi (w := .inl (b2 (0 ≤ i ∧ i ≤ 2))) (M := m_X12_isIn) (av := [.inl i, .inl 0, .inl 2]) cs_12_254 mk_X12_isIn (by decide) rfl (Nat.le_of_ble_eq_true rfl) dX12_fact_12 (does_X12_isIn i 0 2 SM σ) ?_
    refine zRx.if_neB (tgt := 22) dX12_fact_15 (by decide) (fun c15 => ?_) (fun c15 => ?_)
    · refine zRx.iconst ⟨by decide, by decide⟩ dX12_fact_22 ?_
      refine zRx.cVi (w := .inl 0) (M := m_X12_throwsIf) (av := [.inl 0]) cv_12_319 mk_X12_throwsIf (by decide) (b := 0) rfl rfl (Nat.le_of_ble_eq_true rfl) dX12_fact_23 (throws0 σ) ?_
      refine zRx.if_eq (tgt := 33) dX12_fact_26 (by decide) (fun _ => ?_) (fun c26 => absurd c26 (by decide))
      refine zRx.aload_n 0 rfl rfl dX12_fact_33 ?_
      refine zRx.getR (a := 0) (b := 2) fl_12_33 rfl rfl dX12_fact_34 ?_
      refine zRx.bipush ⟨by decide, by decide⟩ rfl dX12_fact_37 ?_
      refine zRx.iconst ⟨by decide, by decide⟩ dX12_fact_39 ?_
      refine zRx.iload_n 1 rfl rfl dX12_fact_40 ?_
      refine zRx.imul ⟨by omega, by omega⟩ dX12_fact_41 ?_
      refine zRx.iadd ⟨by omega, by omega⟩ dX12_fact_42 ?_
      refine zRx.iload_n 2 rfl rfl dX12_fact_43 ?_
      refine zRx.iadd ⟨by omega, by omega⟩ dX12_fact_44 ?_
      refine zRx.ialdv (v := σ 2 ((8 + (3 * f)) + i)) (zu_ne _ _ _ _ (by decide)) rfl (by omega) (by omega) dX12_fact_45 ?_
      exact zR.iret rfl dX12_fact_46 ⟨by unfold V_X12_fact; rw [if_pos c6, if_pos c15], by unfold F_X12_fact; rw [if_pos c6, if_pos c15]⟩
    · refine zRx.iconst ⟨by decide, by decide⟩ dX12_fact_18 ?_
      refine zRx.goto (tgt := 23) dX12_fact_19 (by decide) ?_
      refine zRx.cVi (w := .inl 1) (M := m_X12_throwsIf) (av := [.inl 1]) cv_12_319 mk_X12_throwsIf (by decide) (b := 0) rfl rfl (Nat.le_of_ble_eq_true rfl) dX12_fact_23 (throws1 σ) ?_
      refine zRx.if_eq (tgt := 33) dX12_fact_26 (by decide) (fun c26 => absurd c26 (by decide)) (fun _ => ?_)
      refine zRx.iconst ⟨by decide, by decide⟩ dX12_fact_29 ?_
      refine zRx.goto (tgt := 46) dX12_fact_30 (by decide) ?_
      exact zR.iret rfl dX12_fact_46 ⟨by unfold V_X12_fact; rw [if_pos c6, if_neg c15], by unfold F_X12_fact; rw [if_pos c6, if_neg c15]⟩

def V_X12_line (σ : zG) (x i : Int) : Int := if 0 ≤ x ∧ x ≤ ((σ 2 172) - 1) then (if 0 ≤ i ∧ i ≤ 4 then (σ 2 ((173 + (5 * x)) + i)) else 0) else 0
def F_X12_line (σ : zG) (x i : Int) : zG := if 0 ≤ x ∧ x ≤ ((σ 2 172) - 1) then (if 0 ≤ i ∧ i ≤ 4 then (zu σ 0 0 0) else (zu σ 0 0 1)) else (zu σ 0 0 1)
theorem fr_F_X12_line (σ : zG) (x i : Int) {k : Nat} (h : k ∉ [0]) : (F_X12_line σ x i) k = σ k := by
  have ne : ∀ c ∈ [0], k ≠ c := fun c hc e => h (e ▸ hc)
  unfold F_X12_line
  repeat' split
  all_goals first | rfl | simp only [zu_row _ _ _ (ne 0 (by decide))]

set_option maxRecDepth 20000 in
theorem does_X12_line (σ : zG) (x i : Int) (hN : MN (σ 2)) : zDo SM 1 m_X12_line [zP 0, .inl x, .inl i] σ (zEq (some (.inl (V_X12_line σ x i))) (F_X12_line σ x i)) := by
  refine zDo.intro mk_X12_line (Nat.le_of_ble_eq_true rfl) ?_
  obtain ⟨hW, hp, hF, hL⟩ := id hN
  refine zRx.aload_n 0 rfl rfl dX12_line_0 ?_
  refine zRx.iload_n 1 rfl rfl dX12_line_1 ?_
  refine zRx.iconst ⟨by decide, by decide⟩ dX12_line_2 ?_
  refine zRx.aload_n 0 rfl rfl dX12_line_3 ?_
  refine zRx.getR (a := 0) (b := 2) fl_12_33 rfl rfl dX12_line_4 ?_
  refine zRx.sipush ⟨by decide, by decide⟩ rfl dX12_line_7 ?_
  refine zRx.ialdv (v := σ 2 172) rfl rfl (by decide) (by decide) dX12_line_10 ?_
  refine zRx.iconst ⟨by decide, by decide⟩ dX12_line_11 ?_
  refine zRx.isub ⟨by omega, by omega⟩ dX12_line_12 ?_
  refine zRx.cSi (w := .inl (b2 (0 ≤ x ∧ x ≤ ((σ 2 172) - 1)))) (M := m_X12_isIn) (av := [.inl x, .inl 0, .inl ((σ 2 172) - 1)]) cs_12_254 mk_X12_isIn (by decide) rfl (Nat.le_of_ble_eq_true rfl) dX12_line_13 (does_X12_isIn x 0 ((σ 2 172) - 1) SM σ) ?_
  refine zRx.if_eqB (tgt := 28) dX12_line_16 (by decide) (fun c16 => ?_) (fun c16 => ?_)
  · refine zRx.iconst ⟨by decide, by decide⟩ dX12_line_28 ?_
    refine zRx.goto (tgt := 33) dX12_line_29 (by decide) ?_
    refine zRx.cVi (w := .inl 1) (M := m_X12_throwsIf) (av := [.inl 1]) cv_12_319 mk_X12_throwsIf (by decide) (b := 0) rfl rfl (Nat.le_of_ble_eq_true rfl) dX12_line_33 (throws1 σ) ?_
    refine zRx.if_eq (tgt := 43) dX12_line_36 (by decide) (fun c36 => absurd c36 (by decide)) (fun _ => ?_)
    refine zRx.iconst ⟨by decide, by decide⟩ dX12_line_39 ?_
    refine zRx.goto (tgt := 57) dX12_line_40 (by decide) ?_
    exact zR.iret rfl dX12_line_57 ⟨by unfold V_X12_line; rw [if_neg c16], by unfold F_X12_line; rw [if_neg c16]⟩
  · refine zRx.iload_n 2 rfl rfl dX12_line_19 ?_
    refine zRx.iconst ⟨by decide, by decide⟩ dX12_line_20 ?_
    refine zRx.iconst ⟨by decide, by decide⟩ dX12_line_21 ?_
    refine zRx.cSi (w := .inl (b2 (0 ≤ i ∧ i ≤ 4))) (M := m_X12_isIn) (av := [.inl i, .inl 0, .inl 4]) cs_12_254 mk_X12_isIn (by decide) rfl (Nat.le_of_ble_eq_true rfl) dX12_line_22 (does_X12_isIn i 0 4 SM σ) ?_
    refine zRx.if_neB (tgt := 32) dX12_line_25 (by decide) (fun c25 => ?_) (fun c25 => ?_)
    · refine zRx.iconst ⟨by decide, by decide⟩ dX12_line_32 ?_
      refine zRx.cVi (w := .inl 0) (M := m_X12_throwsIf) (av := [.inl 0]) cv_12_319 mk_X12_throwsIf (by decide) (b := 0) rfl rfl (Nat.le_of_ble_eq_true rfl) dX12_line_33 (throws0 σ) ?_
      refine zRx.if_eq (tgt := 43) dX12_line_36 (by decide) (fun _ => ?_) (fun c36 => absurd c36 (by decide))
      refine zRx.aload_n 0 rfl rfl dX12_line_43 ?_
      refine zRx.getR (a := 0) (b := 2) fl_12_33 rfl rfl dX12_line_44 ?_
      refine zRx.sipush ⟨by decide, by decide⟩ rfl dX12_line_47 ?_
      refine zRx.iconst ⟨by decide, by decide⟩ dX12_line_50 ?_
      refine zRx.iload_n 1 rfl rfl dX12_line_51 ?_
      refine zRx.imul ⟨by omega, by omega⟩ dX12_line_52 ?_
      refine zRx.iadd ⟨by omega, by omega⟩ dX12_line_53 ?_
      refine zRx.iload_n 2 rfl rfl dX12_line_54 ?_
      refine zRx.iadd ⟨by omega, by omega⟩ dX12_line_55 ?_
      refine zRx.ialdv (v := σ 2 ((173 + (5 * x)) + i)) (zu_ne _ _ _ _ (by decide)) rfl (by omega) (by omega) dX12_line_56 ?_
      exact zR.iret rfl dX12_line_57 ⟨by unfold V_X12_line; rw [if_pos c16, if_pos c25], by unfold F_X12_line; rw [if_pos c16, if_pos c25]⟩
    · refine zRx.iconst ⟨by decide, by decide⟩ dX12_line_28 ?_
      refine zRx.goto (tgt := 33) dX12_line_29 (by decide) ?_
      refine zRx.cVi (w := .inl 1) (M := m_X12_throwsIf) (av := [.inl 1]) cv_12_319 mk_X12_throwsIf (by decide) (b := 0) rfl rfl (Nat.le_of_ble_eq_true rfl) dX12_line_33 (throws1 σ) ?_
      refine zRx.if_eq (tgt := 43) dX12_line_36 (by decide) (fun c36 => absurd c36 (by decide)) (fun _ => ?_)
      refine zRx.iconst ⟨by decide, by decide⟩ dX12_line_39 ?_
      refine zRx.goto (tgt := 57) dX12_line_40 (by decide) ?_
      exact zR.iret rfl dX12_line_57 ⟨by unfold V_X12_line; rw [if_pos c16, if_neg c25], by unfold F_X12_line; rw [if_pos c16, if_neg c25]⟩

theorem MS_run {σ : zG} (hN : MN (σ 2)) (j v b : Int) : MS (R_X12_run (zu σ 0 j v) b 2) := by
  rw [fr_R_X12_run (h := by decide), zu_row _ _ _ (by decide)]
  exact hN.1.1

def V_X12_knows (σ : zG) (who i : Int) : Int := if 0 ≤ who ∧ who ≤ (σ 2 0) - 1 then (if 0 ≤ i ∧ i ≤ 1 then (if i = 0 then (R_X12_follows (R_X12_run (zu σ 0 0 0) (-1)) (σ 2 (44 + who))) else ((R_X12_run (zu σ 0 0 0) (-1)) 11 who)) else (-1)) else (-1)
def F_X12_knows (σ : zG) (who i : Int) : zG := if 0 ≤ who ∧ who ≤ (σ 2 0) - 1 then (if 0 ≤ i ∧ i ≤ 1 then (R_X12_run (zu σ 0 0 0) (-1)) else (zu σ 0 0 0)) else (zu σ 0 0 0)
theorem fr_F_X12_knows (σ : zG) (who i : Int) {k : Nat} (h : k ∉ [0, 11, 12, 13, 14, 15, 16, 17, 18, 19, 20, 21, 22, 23, 24, 25]) : (F_X12_knows σ who i) k = σ k := by
  have ne : ∀ c ∈ [0, 11, 12, 13, 14, 15, 16, 17, 18, 19, 20, 21, 22, 23, 24, 25], k ≠ c := fun c hc e => h (e ▸ hc)
  have nk_R_X12_run : k ∉ [0, 11, 12, 13, 14, 15, 16, 17, 18, 19, 20, 21, 22, 23, 24, 25] := fun hm => h (by first | (revert hm; simp only [List.mem_cons, List.not_mem_nil, or_false]; omega) | (simp at hm))
  unfold F_X12_knows
  repeat' split
  all_goals first | rfl | simp only [zu_row _ _ _ (ne 0 (by decide)), zu_row _ _ _ (ne 11 (by decide)), zu_row _ _ _ (ne 12 (by decide)), zu_row _ _ _ (ne 13 (by decide)), zu_row _ _ _ (ne 14 (by decide)), zu_row _ _ _ (ne 15 (by decide)), zu_row _ _ _ (ne 16 (by decide)), zu_row _ _ _ (ne 17 (by decide)), zu_row _ _ _ (ne 18 (by decide)), zu_row _ _ _ (ne 19 (by decide)), zu_row _ _ _ (ne 20 (by decide)), zu_row _ _ _ (ne 21 (by decide)), zu_row _ _ _ (ne 22 (by decide)), zu_row _ _ _ (ne 23 (by decide)), zu_row _ _ _ (ne 24 (by decide)), zu_row _ _ _ (ne 25 (by decide)), fr_R_X12_run (h := nk_R_X12_run)]

set_option maxRecDepth 20000 in
theorem does_X12_knows (σ : zG) (who i : Int) (hN : MN (σ 2)) : zDo SM 6 m_X12_knows [zP 0, .inl who, .inl i] σ (zEq (some (.inl (V_X12_knows σ who i))) (F_X12_knows σ who i)) := by
  refine zDo.intro mk_X12_knows (Nat.le_of_ble_eq_true rfl) ?_
  obtain ⟨hW, hp, hF, hL⟩ := id hN
  refine zRx.aload_n 0 rfl rfl dX12_knows_0 ?_
  refine zRx.iconst ⟨by decide, by decide⟩ dX12_knows_1 ?_
  refine zRx.putI (a := 0) (ji := 0) pl_12_1 rfl rfl rfl dX12_knows_2 ?_
  refine zRx.aload_n 0 rfl rfl dX12_knows_5 ?_
  refine zRx.iload_n 1 rfl rfl dX12_knows_6 ?_
  refine zRx.cVi (w := .inl (b2 (0 ≤ who ∧ who ≤ (σ 2 0) - 1))) (M := m_X12_isWho) (av := [.inl who]) cv_12_397 mk_X12_isWho (by decide) (b := 0) rfl rfl (Nat.le_of_ble_eq_true rfl) dX12_knows_7 (does_isWho2 (zu σ 0 0 0) who (σ 2 0) (zu_ne _ _ _ _ (by decide)) hN.2.1) ?_
  refine zRx.if_eqB (tgt := 22) dX12_knows_10 (by decide) (fun c10 => ?_) (fun c10 => ?_)
  · refine zRx.iconst ⟨by decide, by decide⟩ dX12_knows_22 ?_
    exact zR.iret rfl dX12_knows_23 ⟨by unfold V_X12_knows; rw [if_neg c10], by unfold F_X12_knows; rw [if_neg c10]⟩
  · refine zRx.iload_n 2 rfl rfl dX12_knows_13 ?_
    refine zRx.iconst ⟨by decide, by decide⟩ dX12_knows_14 ?_
    refine zRx.iconst ⟨by decide, by decide⟩ dX12_knows_15 ?_
    refine zRx.cSi (w := .inl (b2 (0 ≤ i ∧ i ≤ 1))) (M := m_X12_isIn) (av := [.inl i, .inl 0, .inl 1]) cs_12_254 mk_X12_isIn (by decide) rfl (Nat.le_of_ble_eq_true rfl) dX12_knows_16 (does_X12_isIn i 0 1 SM (zu σ 0 0 0)) ?_
    refine zRx.if_neB (tgt := 24) dX12_knows_19 (by decide) (fun c19 => ?_) (fun c19 => ?_)
    · refine zRx.aload_n 0 rfl rfl dX12_knows_24 ?_
      refine zRx.iconst ⟨by decide, by decide⟩ dX12_knows_25 ?_
      refine zRx.cVv (M := m_X12_run) (av := [.inl (-1)]) cv_12_400 mk_X12_run (by decide) (b := 0) rfl rfl (Nat.le_of_ble_eq_true rfl) dX12_knows_26 (does_X12_run (zu σ 0 0 0) (-1) (MW_z hN _ _)) ?_
      refine zRx.iload_n 2 rfl rfl dX12_knows_29 ?_
      refine zRx.if_ne (tgt := 49) dX12_knows_30 (by decide) (fun c30 => ?_) (fun c30 => ?_)
      · refine zRx.aload_n 0 rfl rfl dX12_knows_49 ?_
        refine zRx.getR (a := 0) (b := 11) fl_12_62 rfl rfl dX12_knows_50 ?_
        refine zRx.iload_n 1 rfl rfl dX12_knows_53 ?_
        refine zRx.ialdv (v := (R_X12_run (zu σ 0 0 0) (-1)) 11 who) rfl rfl (by omega) (by omega) dX12_knows_54 ?_
        exact zR.iret rfl dX12_knows_55 ⟨by unfold V_X12_knows; rw [if_pos c10, if_pos c19, if_neg c30], by unfold F_X12_knows; rw [if_pos c10, if_pos c19]⟩
      · refine zRx.aload_n 0 rfl rfl dX12_knows_33 ?_
        refine zRx.aload_n 0 rfl rfl dX12_knows_34 ?_
        refine zRx.getR (a := 0) (b := 2) fl_12_33 rfl rfl dX12_knows_35 ?_
        refine zRx.bipush ⟨by decide, by decide⟩ rfl dX12_knows_38 ?_
        refine zRx.iload_n 1 rfl rfl dX12_knows_40 ?_
        refine zRx.iadd ⟨by omega, by omega⟩ dX12_knows_41 ?_
        refine zRx.ialdv (v := σ 2 (44 + who)) ((congrFun (fr_R_X12_run (zu σ 0 0 0) (-1) (k := 2) (by decide)) _).trans (zu_ne _ _ _ _ (by decide))) rfl (by omega) (by omega) dX12_knows_42 ?_
        refine zRx.cVi (w := .inl (R_X12_follows (R_X12_run (zu σ 0 0 0) (-1)) (σ 2 (44 + who)))) (M := m_X12_follows) (av := [.inl (σ 2 (44 + who))]) cv_12_354 mk_X12_follows (by decide) (b := 0) rfl rfl (Nat.le_of_ble_eq_true rfl) dX12_knows_43 (does_X12_follows (R_X12_run (zu σ 0 0 0) (-1)) (σ 2 (44 + who)) (MS_run hN _ _ _) (hN.1.2.1 who (by omega) (by omega))) ?_
        refine zRx.goto (tgt := 55) dX12_knows_46 (by decide) ?_
        exact zR.iret rfl dX12_knows_55 ⟨by unfold V_X12_knows; rw [if_pos c10, if_pos c19, if_pos c30], by unfold F_X12_knows; rw [if_pos c10, if_pos c19]⟩
    · refine zRx.iconst ⟨by decide, by decide⟩ dX12_knows_22 ?_
      exact zR.iret rfl dX12_knows_23 ⟨by unfold V_X12_knows; rw [if_pos c10, if_neg c19], by unfold F_X12_knows; rw [if_pos c10, if_neg c19]⟩

def V_X12_worth (σ : zG) (who f : Int) : Int := if 0 ≤ who ∧ who ≤ (σ 2 0) - 1 then (if 0 ≤ f ∧ f ≤ (σ 2 1) - 1 then (if hb ((R_X12_run (zu σ 0 0 0) (-1)) 11 who) f then (R_X12_worthOf (R_X12_run (zu σ 0 0 0) (-1)) who f) else (-1)) else (-1)) else (-1)
def F_X12_worth (σ : zG) (who f : Int) : zG := if 0 ≤ who ∧ who ≤ (σ 2 0) - 1 then (if 0 ≤ f ∧ f ≤ (σ 2 1) - 1 then (R_X12_run (zu σ 0 0 0) (-1)) else (zu σ 0 0 0)) else (zu σ 0 0 0)
theorem fr_F_X12_worth (σ : zG) (who f : Int) {k : Nat} (h : k ∉ [0, 11, 12, 13, 14, 15, 16, 17, 18, 19, 20, 21, 22, 23, 24, 25]) : (F_X12_worth σ who f) k = σ k := by
  have ne : ∀ c ∈ [0, 11, 12, 13, 14, 15, 16, 17, 18, 19, 20, 21, 22, 23, 24, 25], k ≠ c := fun c hc e => h (e ▸ hc)
  have nk_R_X12_run : k ∉ [0, 11, 12, 13, 14, 15, 16, 17, 18, 19, 20, 21, 22, 23, 24, 25] := fun hm => h (by first | (revert hm; simp only [List.mem_cons, List.not_mem_nil, or_false]; omega) | (simp at hm))
  unfold F_X12_worth
  repeat' split
  all_goals first | rfl | simp only [zu_row _ _ _ (ne 0 (by decide)), zu_row _ _ _ (ne 11 (by decide)), zu_row _ _ _ (ne 12 (by decide)), zu_row _ _ _ (ne 13 (by decide)), zu_row _ _ _ (ne 14 (by decide)), zu_row _ _ _ (ne 15 (by decide)), zu_row _ _ _ (ne 16 (by decide)), zu_row _ _ _ (ne 17 (by decide)), zu_row _ _ _ (ne 18 (by decide)), zu_row _ _ _ (ne 19 (by decide)), zu_row _ _ _ (ne 20 (by decide)), zu_row _ _ _ (ne 21 (by decide)), zu_row _ _ _ (ne 22 (by decide)), zu_row _ _ _ (ne 23 (by decide)), zu_row _ _ _ (ne 24 (by decide)), zu_row _ _ _ (ne 25 (by decide)), fr_R_X12_run (h := nk_R_X12_run)]

set_option maxRecDepth 20000 in
theorem does_X12_worth (σ : zG) (who f : Int) (hN : MN (σ 2)) : zDo SM 6 m_X12_worth [zP 0, .inl who, .inl f] σ (zEq (some (.inl (V_X12_worth σ who f))) (F_X12_worth σ who f)) := by
  refine zDo.intro mk_X12_worth (Nat.le_of_ble_eq_true rfl) ?_
  obtain ⟨hW, hp, hF, hL⟩ := id hN
  refine zRx.aload_n 0 rfl rfl dX12_worth_0 ?_
  refine zRx.iconst ⟨by decide, by decide⟩ dX12_worth_1 ?_
  refine zRx.putI (a := 0) (ji := 0) pl_12_1 rfl rfl rfl dX12_worth_2 ?_
  refine zRx.aload_n 0 rfl rfl dX12_worth_5 ?_
  refine zRx.iload_n 1 rfl rfl dX12_worth_6 ?_
  refine zRx.cVi (w := .inl (b2 (0 ≤ who ∧ who ≤ (σ 2 0) - 1))) (M := m_X12_isWho) (av := [.inl who]) cv_12_397 mk_X12_isWho (by decide) (b := 0) rfl rfl (Nat.le_of_ble_eq_true rfl) dX12_worth_7 (does_isWho2 (zu σ 0 0 0) who (σ 2 0) (zu_ne _ _ _ _ (by decide)) hN.2.1) ?_
  refine zRx.if_eqB (tgt := 21) dX12_worth_10 (by decide) (fun c10 => ?_) (fun c10 => ?_)
  · refine zRx.iconst ⟨by decide, by decide⟩ dX12_worth_21 ?_
    exact zR.iret rfl dX12_worth_22 ⟨by unfold V_X12_worth; rw [if_neg c10], by unfold F_X12_worth; rw [if_neg c10]⟩
  · refine zRx.aload_n 0 rfl rfl dX12_worth_13 ?_
    refine zRx.iload_n 2 rfl rfl dX12_worth_14 ?_
    refine zRx.cVi (w := .inl (b2 (0 ≤ f ∧ f ≤ (σ 2 1) - 1))) (M := m_X12_isFact) (av := [.inl f]) cv_12_316 mk_X12_isFact (by decide) (b := 0) rfl rfl (Nat.le_of_ble_eq_true rfl) dX12_worth_15 (does_isFact2 (zu σ 0 0 0) f (σ 2 1) (zu_ne _ _ _ _ (by decide)) hN.2.2.1) ?_
    refine zRx.if_neB (tgt := 23) dX12_worth_18 (by decide) (fun c18 => ?_) (fun c18 => ?_)
    · refine zRx.aload_n 0 rfl rfl dX12_worth_23 ?_
      refine zRx.iconst ⟨by decide, by decide⟩ dX12_worth_24 ?_
      refine zRx.cVv (M := m_X12_run) (av := [.inl (-1)]) cv_12_400 mk_X12_run (by decide) (b := 0) rfl rfl (Nat.le_of_ble_eq_true rfl) dX12_worth_25 (does_X12_run (zu σ 0 0 0) (-1) (MW_z hN _ _)) ?_
      refine zRx.aload_n 0 rfl rfl dX12_worth_28 ?_
      refine zRx.getR (a := 0) (b := 11) fl_12_62 rfl rfl dX12_worth_29 ?_
      refine zRx.iload_n 1 rfl rfl dX12_worth_32 ?_
      refine zRx.ialdv (v := (R_X12_run (zu σ 0 0 0) (-1)) 11 who) rfl rfl (by omega) (by omega) dX12_worth_33 ?_
      refine zRx.iload_n 2 rfl rfl dX12_worth_34 ?_
      refine zRx.cSi (w := .inl (b2 (hb ((R_X12_run (zu σ 0 0 0) (-1)) 11 who) f))) (M := m_X12_has) (av := [.inl ((R_X12_run (zu σ 0 0 0) (-1)) 11 who), .inl f]) cs_12_272 mk_X12_has (by decide) rfl (Nat.le_of_ble_eq_true rfl) dX12_worth_35 (does_X12_has ((R_X12_run (zu σ 0 0 0) (-1)) 11 who) f SM (R_X12_run (zu σ 0 0 0) (-1))) ?_
      refine zRx.if_eqB (tgt := 50) dX12_worth_38 (by decide) (fun c38 => ?_) (fun c38 => ?_)
      · refine zRx.iconst ⟨by decide, by decide⟩ dX12_worth_50 ?_
        exact zR.iret rfl dX12_worth_51 ⟨by unfold V_X12_worth; rw [if_pos c10, if_pos c18, if_neg c38], by unfold F_X12_worth; rw [if_pos c10, if_pos c18]⟩
      · refine zRx.aload_n 0 rfl rfl dX12_worth_41 ?_
        refine zRx.iload_n 1 rfl rfl dX12_worth_42 ?_
        refine zRx.iload_n 2 rfl rfl dX12_worth_43 ?_
        refine zRx.cVi (w := .inl (R_X12_worthOf (R_X12_run (zu σ 0 0 0) (-1)) who f)) (M := m_X12_worthOf) (av := [.inl who, .inl f]) cv_12_372 mk_X12_worthOf (by decide) (b := 0) rfl rfl (Nat.le_of_ble_eq_true rfl) dX12_worth_44 (does_X12_worthOf (R_X12_run (zu σ 0 0 0) (-1)) who f (by omega) (by have e9 : (R_X12_run (zu σ 0 0 0) (-1)) 2 0 = σ 2 0 := ((congrFun (fr_R_X12_run (zu σ 0 0 0) (-1) (k := 2) (by decide)) _).trans (zu_ne _ _ _ _ (by decide))); omega)) ?_
        refine zRx.goto (tgt := 51) dX12_worth_47 (by decide) ?_
        exact zR.iret rfl dX12_worth_51 ⟨by unfold V_X12_worth; rw [if_pos c10, if_pos c18, if_pos c38], by unfold F_X12_worth; rw [if_pos c10, if_pos c18]⟩
    · refine zRx.iconst ⟨by decide, by decide⟩ dX12_worth_21 ?_
      exact zR.iret rfl dX12_worth_22 ⟨by unfold V_X12_worth; rw [if_pos c10, if_neg c18], by unfold F_X12_worth; rw [if_pos c10, if_neg c18]⟩

def L_X12_cameOf_5 (σ : zG) (who i : Int) : Nat → Int → Int → Int
  | 0, _, _ => 0
  | n + 1, sm, q => if (σ 0 43) ≤ q then (if 3 ≤ i then (if i = 3 then (σ 13 who) else (σ 14 who)) else sm) else (if (σ 16 q) = who then (if i = 0 then (L_X12_cameOf_5 σ who i n (w32 (sm + (σ 20 q))) (q + 1)) else (if i = 1 then (L_X12_cameOf_5 σ who i n (w32 (sm + 1)) (q + 1)) else (if (σ 20 q) = 0 then (L_X12_cameOf_5 σ who i n (w32 (sm + 1)) (q + 1)) else (L_X12_cameOf_5 σ who i n (w32 (sm + 0)) (q + 1))))) else (L_X12_cameOf_5 σ who i n sm (q + 1)))
set_option maxRecDepth 20000 in
theorem loop_X12_cameOf_5 (σ : zG) (who i : Int) (hm : σ 0 43 ≤ 420) (hw : 0 ≤ who ∧ who < 8) : ∀ (n : Nat) (sm q : Int) , 0 ≤ q → (σ 0 43 - q).toNat < n → zR SM 0 m_X12_cameOf 5 [(0, zP 0), (1, .inl who), (2, .inl i), (3, .inl sm), (4, .inl q)] [] σ (zEq (some (.inl (L_X12_cameOf_5 σ who i n sm q))) σ) := by
  intro n
  induction n with
  | zero => intro sm q  h0 hmz; exact absurd hmz (Nat.not_lt_zero _)
  | succ n ih =>
    intro sm q  h0 hmz
    refine zRx.iload 4 rfl dX12_cameOf_5 ?_
    refine zRx.aload_n 0 rfl rfl dX12_cameOf_7 ?_
    refine zRx.getIv (a := 0) (ji := 43) (v := σ 0 43) rfl fl_12_357 rfl rfl rfl dX12_cameOf_8 ?_
    refine zRx.icmp_ge (tgt := 75) dX12_cameOf_11 (by decide) (fun c11 => ?_) (fun c11 => ?_)
    · refine zRx.iload_n 2 rfl rfl dX12_cameOf_75 ?_
      refine zRx.iconst ⟨by decide, by decide⟩ dX12_cameOf_76 ?_
      refine zRx.icmp_ge (tgt := 84) dX12_cameOf_77 (by decide) (fun c77 => ?_) (fun c77 => ?_)
      · refine zRx.iload_n 2 rfl rfl dX12_cameOf_84 ?_
        refine zRx.iconst ⟨by decide, by decide⟩ dX12_cameOf_85 ?_
        refine zRx.icmp_ne (tgt := 98) dX12_cameOf_86 (by decide) (fun c86 => ?_) (fun c86 => ?_)
        · refine zRx.aload_n 0 rfl rfl dX12_cameOf_98 ?_
          refine zRx.getR (a := 0) (b := 14) fl_12_71 rfl rfl dX12_cameOf_99 ?_
          refine zRx.iload_n 1 rfl rfl dX12_cameOf_102 ?_
          refine zRx.ialdv (v := σ 14 who) rfl rfl (by omega) (by omega) dX12_cameOf_103 ?_
          exact zR.iret rfl dX12_cameOf_104 (by have he : L_X12_cameOf_5 σ who i (n + 1) sm q = σ 14 who := (by rw [L_X12_cameOf_5, if_pos c11, if_pos c77, if_neg c86]); rw [he]; exact ⟨rfl, rfl⟩)
        · refine zRx.aload_n 0 rfl rfl dX12_cameOf_89 ?_
          refine zRx.getR (a := 0) (b := 13) fl_12_68 rfl rfl dX12_cameOf_90 ?_
          refine zRx.iload_n 1 rfl rfl dX12_cameOf_93 ?_
          refine zRx.ialdv (v := σ 13 who) rfl rfl (by omega) (by omega) dX12_cameOf_94 ?_
          refine zRx.goto (tgt := 104) dX12_cameOf_95 (by decide) ?_
          exact zR.iret rfl dX12_cameOf_104 (by have he : L_X12_cameOf_5 σ who i (n + 1) sm q = σ 13 who := (by rw [L_X12_cameOf_5, if_pos c11, if_pos c77, if_pos c86]); rw [he]; exact ⟨rfl, rfl⟩)
      · refine zRx.iload_n 3 rfl rfl dX12_cameOf_80 ?_
        refine zRx.goto (tgt := 104) dX12_cameOf_81 (by decide) ?_
        exact zR.iret rfl dX12_cameOf_104 (by have he : L_X12_cameOf_5 σ who i (n + 1) sm q = sm := (by rw [L_X12_cameOf_5, if_pos c11, if_neg (Int.not_le.mpr c77)]); rw [he]; exact ⟨rfl, rfl⟩)
    · refine zRx.aload_n 0 rfl rfl dX12_cameOf_14 ?_
      refine zRx.getR (a := 0) (b := 16) fl_12_77 rfl rfl dX12_cameOf_15 ?_
      refine zRx.iload 4 rfl dX12_cameOf_18 ?_
      refine zRx.ialdv (v := σ 16 q) rfl rfl (by omega) (by omega) dX12_cameOf_20 ?_
      refine zRx.iload_n 1 rfl rfl dX12_cameOf_21 ?_
      refine zRx.icmp_eq (tgt := 28) dX12_cameOf_22 (by decide) (fun c22 => ?_) (fun c22 => ?_)
      · refine zRx.iload_n 3 rfl rfl dX12_cameOf_28 ?_
        refine zRx.iload_n 2 rfl rfl dX12_cameOf_29 ?_
        refine zRx.if_ne (tgt := 43) dX12_cameOf_30 (by decide) (fun c30 => ?_) (fun c30 => ?_)
        · refine zRx.iload_n 2 rfl rfl dX12_cameOf_43 ?_
          refine zRx.iconst ⟨by decide, by decide⟩ dX12_cameOf_44 ?_
          refine zRx.icmp_ne (tgt := 52) dX12_cameOf_45 (by decide) (fun c45 => ?_) (fun c45 => ?_)
          · refine zRx.aload_n 0 rfl rfl dX12_cameOf_52 ?_
            refine zRx.getR (a := 0) (b := 20) fl_12_89 rfl rfl dX12_cameOf_53 ?_
            refine zRx.iload 4 rfl dX12_cameOf_56 ?_
            refine zRx.ialdv (v := σ 20 q) rfl rfl (by omega) (by omega) dX12_cameOf_58 ?_
            refine zRx.if_ne (tgt := 66) dX12_cameOf_59 (by decide) (fun c59 => ?_) (fun c59 => ?_)
            · refine zRx.iconst ⟨by decide, by decide⟩ dX12_cameOf_66 ?_
              refine zRx.iaddW dX12_cameOf_67 ?_
              refine zRx.istore_n (ls' := [(0, zP 0), (1, .inl who), (2, .inl i), (3, .inl (w32 (sm + 0))), (4, .inl q)]) rfl rfl (by decide) dX12_cameOf_68 ?_
              refine zRx.iinc (n := 1) (ls' := [(0, zP 0), (1, .inl who), (2, .inl i), (3, .inl (w32 (sm + 0))), (4, .inl (q + 1))]) 4 rfl ⟨by omega, by omega⟩ rfl (by decide) dX12_cameOf_69 ?_
              refine zRx.goto (tgt := 5) dX12_cameOf_72 (by decide) ?_
              have he : L_X12_cameOf_5 σ who i (n + 1) sm q = L_X12_cameOf_5 σ who i n (w32 (sm + 0)) (q + 1) := by rw [L_X12_cameOf_5, if_neg (Int.not_le.mpr c11), if_pos c22, if_neg c30, if_neg c45, if_neg c59]
              rw [he]
              exact ih (w32 (sm + 0)) (q + 1)  (by omega) (by omega)
            · refine zRx.iconst ⟨by decide, by decide⟩ dX12_cameOf_62 ?_
              refine zRx.goto (tgt := 67) dX12_cameOf_63 (by decide) ?_
              refine zRx.iaddW dX12_cameOf_67 ?_
              refine zRx.istore_n (ls' := [(0, zP 0), (1, .inl who), (2, .inl i), (3, .inl (w32 (sm + 1))), (4, .inl q)]) rfl rfl (by decide) dX12_cameOf_68 ?_
              refine zRx.iinc (n := 1) (ls' := [(0, zP 0), (1, .inl who), (2, .inl i), (3, .inl (w32 (sm + 1))), (4, .inl (q + 1))]) 4 rfl ⟨by omega, by omega⟩ rfl (by decide) dX12_cameOf_69 ?_
              refine zRx.goto (tgt := 5) dX12_cameOf_72 (by decide) ?_
              have he : L_X12_cameOf_5 σ who i (n + 1) sm q = L_X12_cameOf_5 σ who i n (w32 (sm + 1)) (q + 1) := by rw [L_X12_cameOf_5, if_neg (Int.not_le.mpr c11), if_pos c22, if_neg c30, if_neg c45, if_pos c59]
              rw [he]
              exact ih (w32 (sm + 1)) (q + 1)  (by omega) (by omega)
          · refine zRx.iconst ⟨by decide, by decide⟩ dX12_cameOf_48 ?_
            refine zRx.goto (tgt := 67) dX12_cameOf_49 (by decide) ?_
            refine zRx.iaddW dX12_cameOf_67 ?_
            refine zRx.istore_n (ls' := [(0, zP 0), (1, .inl who), (2, .inl i), (3, .inl (w32 (sm + 1))), (4, .inl q)]) rfl rfl (by decide) dX12_cameOf_68 ?_
            refine zRx.iinc (n := 1) (ls' := [(0, zP 0), (1, .inl who), (2, .inl i), (3, .inl (w32 (sm + 1))), (4, .inl (q + 1))]) 4 rfl ⟨by omega, by omega⟩ rfl (by decide) dX12_cameOf_69 ?_
            refine zRx.goto (tgt := 5) dX12_cameOf_72 (by decide) ?_
            have he : L_X12_cameOf_5 σ who i (n + 1) sm q = L_X12_cameOf_5 σ who i n (w32 (sm + 1)) (q + 1) := by rw [L_X12_cameOf_5, if_neg (Int.not_le.mpr c11), if_pos c22, if_neg c30, if_pos c45]
            rw [he]
            exact ih (w32 (sm + 1)) (q + 1)  (by omega) (by omega)
        · refine zRx.aload_n 0 rfl rfl dX12_cameOf_33 ?_
          refine zRx.getR (a := 0) (b := 20) fl_12_89 rfl rfl dX12_cameOf_34 ?_
          refine zRx.iload 4 rfl dX12_cameOf_37 ?_
          refine zRx.ialdv (v := σ 20 q) rfl rfl (by omega) (by omega) dX12_cameOf_39 ?_
          refine zRx.goto (tgt := 67) dX12_cameOf_40 (by decide) ?_
          refine zRx.iaddW dX12_cameOf_67 ?_
          refine zRx.istore_n (ls' := [(0, zP 0), (1, .inl who), (2, .inl i), (3, .inl (w32 (sm + (σ 20 q)))), (4, .inl q)]) rfl rfl (by decide) dX12_cameOf_68 ?_
          refine zRx.iinc (n := 1) (ls' := [(0, zP 0), (1, .inl who), (2, .inl i), (3, .inl (w32 (sm + (σ 20 q)))), (4, .inl (q + 1))]) 4 rfl ⟨by omega, by omega⟩ rfl (by decide) dX12_cameOf_69 ?_
          refine zRx.goto (tgt := 5) dX12_cameOf_72 (by decide) ?_
          have he : L_X12_cameOf_5 σ who i (n + 1) sm q = L_X12_cameOf_5 σ who i n (w32 (sm + (σ 20 q))) (q + 1) := by rw [L_X12_cameOf_5, if_neg (Int.not_le.mpr c11), if_pos c22, if_pos c30]
          rw [he]
          exact ih (w32 (sm + (σ 20 q))) (q + 1)  (by omega) (by omega)
      · refine zRx.goto (tgt := 69) dX12_cameOf_25 (by decide) ?_
        refine zRx.iinc (n := 1) (ls' := [(0, zP 0), (1, .inl who), (2, .inl i), (3, .inl sm), (4, .inl (q + 1))]) 4 rfl ⟨by omega, by omega⟩ rfl (by decide) dX12_cameOf_69 ?_
        refine zRx.goto (tgt := 5) dX12_cameOf_72 (by decide) ?_
        have he : L_X12_cameOf_5 σ who i (n + 1) sm q = L_X12_cameOf_5 σ who i n sm (q + 1) := by rw [L_X12_cameOf_5, if_neg (Int.not_le.mpr c11), if_neg c22]
        rw [he]
        exact ih sm (q + 1)  (by omega) (by omega)
def R_X12_cameOf (σ : zG) (who i : Int) : Int := L_X12_cameOf_5 σ who i 500 0 0
set_option maxRecDepth 20000 in
theorem does_X12_cameOf (σ : zG) (who i : Int) (hm : σ 0 43 ≤ 420) (hw : 0 ≤ who ∧ who < 8)  : zDo SM 0 m_X12_cameOf [zP 0, .inl who, .inl i] σ (zEq (some (.inl (R_X12_cameOf σ who i))) σ) := by
  refine zDo.intro mk_X12_cameOf (Nat.le_of_ble_eq_true rfl) ?_
  refine zRx.iconst ⟨by decide, by decide⟩ dX12_cameOf_0 ?_
  refine zRx.istore_n (ls' := [(0, zP 0), (1, .inl who), (2, .inl i), (3, .inl 0)]) rfl rfl (by decide) dX12_cameOf_1 ?_
  refine zRx.iconst ⟨by decide, by decide⟩ dX12_cameOf_2 ?_
  refine zRx.istore (ls' := [(0, zP 0), (1, .inl who), (2, .inl i), (3, .inl 0), (4, .inl 0)]) rfl (by decide) dX12_cameOf_3 ?_
  have he : R_X12_cameOf σ who i = L_X12_cameOf_5 σ who i 500 0 0 := by rw [R_X12_cameOf]
  rw [he]
  exact loop_X12_cameOf_5 σ who i hm hw  500 0 0  (by omega) (by omega)

def V_X12_came (σ : zG) (who i : Int) : Int := if 0 ≤ who ∧ who ≤ (σ 2 0) - 1 then (if 0 ≤ i ∧ i ≤ 4 then (R_X12_cameOf (zu (R_X12_run σ (-1)) 0 0 0) who i) else 0) else 0
def F_X12_came (σ : zG) (who i : Int) : zG := if 0 ≤ who ∧ who ≤ (σ 2 0) - 1 then (if 0 ≤ i ∧ i ≤ 4 then (zu (R_X12_run σ (-1)) 0 0 0) else (zu (R_X12_run σ (-1)) 0 0 1)) else (zu (R_X12_run σ (-1)) 0 0 1)
theorem fr_F_X12_came (σ : zG) (who i : Int) {k : Nat} (h : k ∉ [0, 11, 12, 13, 14, 15, 16, 17, 18, 19, 20, 21, 22, 23, 24, 25]) : (F_X12_came σ who i) k = σ k := by
  have ne : ∀ c ∈ [0, 11, 12, 13, 14, 15, 16, 17, 18, 19, 20, 21, 22, 23, 24, 25], k ≠ c := fun c hc e => h (e ▸ hc)
  have nk_R_X12_run : k ∉ [0, 11, 12, 13, 14, 15, 16, 17, 18, 19, 20, 21, 22, 23, 24, 25] := fun hm => h (by first | (revert hm; simp only [List.mem_cons, List.not_mem_nil, or_false]; omega) | (simp at hm))
  unfold F_X12_came
  repeat' split
  all_goals first | rfl | simp only [zu_row _ _ _ (ne 0 (by decide)), zu_row _ _ _ (ne 11 (by decide)), zu_row _ _ _ (ne 12 (by decide)), zu_row _ _ _ (ne 13 (by decide)), zu_row _ _ _ (ne 14 (by decide)), zu_row _ _ _ (ne 15 (by decide)), zu_row _ _ _ (ne 16 (by decide)), zu_row _ _ _ (ne 17 (by decide)), zu_row _ _ _ (ne 18 (by decide)), zu_row _ _ _ (ne 19 (by decide)), zu_row _ _ _ (ne 20 (by decide)), zu_row _ _ _ (ne 21 (by decide)), zu_row _ _ _ (ne 22 (by decide)), zu_row _ _ _ (ne 23 (by decide)), zu_row _ _ _ (ne 24 (by decide)), zu_row _ _ _ (ne 25 (by decide)), fr_R_X12_run (h := nk_R_X12_run)]

set_option maxRecDepth 20000 in
theorem does_X12_came (σ : zG) (who i : Int) (hN : MN (σ 2)) : zDo SM 6 m_X12_came [zP 0, .inl who, .inl i] σ (zEq (some (.inl (V_X12_came σ who i))) (F_X12_came σ who i)) := by
  refine zDo.intro mk_X12_came (Nat.le_of_ble_eq_true rfl) ?_
  obtain ⟨hW, hp, hF, hL⟩ := id hN
  refine zRx.aload_n 0 rfl rfl dX12_came_0 ?_
  refine zRx.iconst ⟨by decide, by decide⟩ dX12_came_1 ?_
  refine zRx.cVv (M := m_X12_run) (av := [.inl (-1)]) cv_12_400 mk_X12_run (by decide) (b := 0) rfl rfl (Nat.le_of_ble_eq_true rfl) dX12_came_2 (does_X12_run σ (-1) hN.1) ?_
  refine zRx.aload_n 0 rfl rfl dX12_came_5 ?_
  refine zRx.aload_n 0 rfl rfl dX12_came_6 ?_
  refine zRx.iload_n 1 rfl rfl dX12_came_7 ?_
  refine zRx.cVi (w := .inl (b2 (0 ≤ who ∧ who ≤ (σ 2 0) - 1))) (M := m_X12_isWho) (av := [.inl who]) cv_12_397 mk_X12_isWho (by decide) (b := 0) rfl rfl (Nat.le_of_ble_eq_true rfl) dX12_came_8 (does_isWho2 (R_X12_run σ (-1)) who (σ 2 0) (congrFun (fr_R_X12_run σ (-1) (k := 2) (by decide)) _) hN.2.1) ?_
  refine zRx.if_eqB (tgt := 23) dX12_came_11 (by decide) (fun c11 => ?_) (fun c11 => ?_)
  · refine zRx.iconst ⟨by decide, by decide⟩ dX12_came_23 ?_
    refine zRx.goto (tgt := 28) dX12_came_24 (by decide) ?_
    refine zRx.cVi (w := .inl 1) (M := m_X12_throwsIf) (av := [.inl 1]) cv_12_319 mk_X12_throwsIf (by decide) (b := 0) rfl rfl (Nat.le_of_ble_eq_true rfl) dX12_came_28 (throws1 (R_X12_run σ (-1))) ?_
    refine zRx.if_eq (tgt := 38) dX12_came_31 (by decide) (fun c31 => absurd c31 (by decide)) (fun _ => ?_)
    refine zRx.iconst ⟨by decide, by decide⟩ dX12_came_34 ?_
    refine zRx.goto (tgt := 44) dX12_came_35 (by decide) ?_
    exact zR.iret rfl dX12_came_44 ⟨by unfold V_X12_came; rw [if_neg c11], by unfold F_X12_came; rw [if_neg c11]⟩
  · refine zRx.iload_n 2 rfl rfl dX12_came_14 ?_
    refine zRx.iconst ⟨by decide, by decide⟩ dX12_came_15 ?_
    refine zRx.iconst ⟨by decide, by decide⟩ dX12_came_16 ?_
    refine zRx.cSi (w := .inl (b2 (0 ≤ i ∧ i ≤ 4))) (M := m_X12_isIn) (av := [.inl i, .inl 0, .inl 4]) cs_12_254 mk_X12_isIn (by decide) rfl (Nat.le_of_ble_eq_true rfl) dX12_came_17 (does_X12_isIn i 0 4 SM (R_X12_run σ (-1))) ?_
    refine zRx.if_neB (tgt := 27) dX12_came_20 (by decide) (fun c20 => ?_) (fun c20 => ?_)
    · refine zRx.iconst ⟨by decide, by decide⟩ dX12_came_27 ?_
      refine zRx.cVi (w := .inl 0) (M := m_X12_throwsIf) (av := [.inl 0]) cv_12_319 mk_X12_throwsIf (by decide) (b := 0) rfl rfl (Nat.le_of_ble_eq_true rfl) dX12_came_28 (throws0 (R_X12_run σ (-1))) ?_
      refine zRx.if_eq (tgt := 38) dX12_came_31 (by decide) (fun _ => ?_) (fun c31 => absurd c31 (by decide))
      refine zRx.aload_n 0 rfl rfl dX12_came_38 ?_
      refine zRx.iload_n 1 rfl rfl dX12_came_39 ?_
      refine zRx.iload_n 2 rfl rfl dX12_came_40 ?_
      refine zRx.cVi (w := .inl (R_X12_cameOf (zu (R_X12_run σ (-1)) 0 0 0) who i)) (M := m_X12_cameOf) (av := [.inl who, .inl i]) cv_12_406 mk_X12_cameOf (by decide) (b := 0) rfl rfl (Nat.le_of_ble_eq_true rfl) dX12_came_41 (does_X12_cameOf (zu (R_X12_run σ (-1)) 0 0 0) who i (by rw [zu_off _ _ _ (by decide)]; exact (run_K σ (-1) hN.1).2.2) (by omega)) ?_
      exact zR.iret rfl dX12_came_44 ⟨by unfold V_X12_came; rw [if_pos c11, if_pos c20], by unfold F_X12_came; rw [if_pos c11, if_pos c20]⟩
    · refine zRx.iconst ⟨by decide, by decide⟩ dX12_came_23 ?_
      refine zRx.goto (tgt := 28) dX12_came_24 (by decide) ?_
      refine zRx.cVi (w := .inl 1) (M := m_X12_throwsIf) (av := [.inl 1]) cv_12_319 mk_X12_throwsIf (by decide) (b := 0) rfl rfl (Nat.le_of_ble_eq_true rfl) dX12_came_28 (throws1 (R_X12_run σ (-1))) ?_
      refine zRx.if_eq (tgt := 38) dX12_came_31 (by decide) (fun c31 => absurd c31 (by decide)) (fun _ => ?_)
      refine zRx.iconst ⟨by decide, by decide⟩ dX12_came_34 ?_
      refine zRx.goto (tgt := 44) dX12_came_35 (by decide) ?_
      exact zR.iret rfl dX12_came_44 ⟨by unfold V_X12_came; rw [if_pos c11, if_neg c20], by unfold F_X12_came; rw [if_pos c11, if_neg c20]⟩

