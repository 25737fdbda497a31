/-! the class: sentences read -/
def CS (σ : zG) : Prop := 0 ≤ σ 48 1
theorem CS_row {σ τ : zG} (e : τ 48 = σ 48) (h : CS σ) : CS τ := by
  unfold CS at *
  rw [e]
  exact h
theorem CS_zu {σ : zG} {a : Nat} {i z : Int} (h : ¬ (a = 48 ∧ i = 1)) (hI : CS σ) : CS (zu σ a i z) := by
  have e : zu σ a i z 48 1 = σ 48 1 := by
    by_cases ha : 48 = a
    · subst ha
      exact zu_off _ _ _ (by omega)
    · exact zu_ne _ _ _ _ ha
  unfold CS at *
  rw [e]
  exact hI
theorem CS_F_X6_addStep {σ : zG} {a b c : Int} (h : CS σ) : CS (F_X6_addStep σ a b c) := by
  unfold CS F_X6_addStep at *
  split
  · exact h
  · rw [zu_at]; omega
theorem CI_F_X6_addStep {σ : zG} {a b c : Int} (h : CI σ) : CI (F_X6_addStep σ a b c) := CI_row (fr_F_X6_addStep σ a b c (by decide)) (fr_F_X6_addStep σ a b c (by decide)) h
theorem CS_F_X5_step {σ : zG} (h : CS σ) : CS (F_X5_step σ) := CS_row (fr_F_X5_step σ (by decide)) h

theorem CS_F_X5_stepNumber {σ : zG} {lo hi : Int} (h : CS σ) : CS (F_X5_stepNumber σ lo hi) := CS_row (fr_F_X5_stepNumber σ lo hi (by decide)) h

theorem CS_F_X5_stepName_8 {σ : zG} {mn : Int} (h : CS σ) : CS (F_X5_stepName_8 σ mn) := CS_row (fr_F_X5_stepName_8 σ mn (by decide)) h

def V_X6_takePlain (σ : zG) (ky : Int) : Int := if ky = 19 then (if (V_X5_stepName_8 σ (σ 5 1)) = (-1) then 0 else 1) else (if ky = 20 then 1 else (if (F_X5_step σ) 3 4 = 4 ∧ (F_X5_step σ) 3 6 = 60 then (if (V_X5_stepNumber (F_X5_step σ) 0 999) = (-1) then 0 else 1) else (if (F_X5_step σ) 3 4 = 4 ∧ (F_X5_step σ) 3 6 = 61 then (if (V_X5_stepNumber (F_X5_step σ) 0 999) = (-1) then 0 else 1) else (if (F_X5_step σ) 3 4 = 4 ∧ (F_X5_step σ) 3 6 = 62 then (if (V_X5_stepNumber (F_X5_step σ) 0 999) = (-1) then 0 else 1) else 0))))
def F_X6_takePlain (σ : zG) (ky : Int) : zG := if ky = 19 then (if (V_X5_stepName_8 σ (σ 5 1)) = (-1) then (F_X5_stepName_8 σ (σ 5 1)) else (F_X5_step (F_X6_addStep (F_X5_stepName_8 σ (σ 5 1)) ky 0 (V_X5_stepName_8 σ (σ 5 1))))) else (if ky = 20 then (F_X5_step (F_X6_addStep σ ky 0 0)) else (if (F_X5_step σ) 3 4 = 4 ∧ (F_X5_step σ) 3 6 = 60 then (if (V_X5_stepNumber (F_X5_step σ) 0 999) = (-1) then (F_X5_stepNumber (F_X5_step σ) 0 999) else (F_X5_step (F_X6_addStep (F_X5_stepNumber (F_X5_step σ) 0 999) ky ((F_X5_step σ) 3 6) (V_X5_stepNumber (F_X5_step σ) 0 999)))) else (if (F_X5_step σ) 3 4 = 4 ∧ (F_X5_step σ) 3 6 = 61 then (if (V_X5_stepNumber (F_X5_step σ) 0 999) = (-1) then (F_X5_stepNumber (F_X5_step σ) 0 999) else (F_X5_step (F_X6_addStep (F_X5_stepNumber (F_X5_step σ) 0 999) ky ((F_X5_step σ) 3 6) (V_X5_stepNumber (F_X5_step σ) 0 999)))) else (if (F_X5_step σ) 3 4 = 4 ∧ (F_X5_step σ) 3 6 = 62 then (if (V_X5_stepNumber (F_X5_step σ) 0 999) = (-1) then (F_X5_stepNumber (F_X5_step σ) 0 999) else (F_X5_step (F_X6_addStep (F_X5_stepNumber (F_X5_step σ) 0 999) ky ((F_X5_step σ) 3 6) (V_X5_stepNumber (F_X5_step σ) 0 999)))) else (zu (F_X5_step σ) 3 7 1)))))
theorem fr_F_X6_takePlain (σ : zG) (ky : Int) {k : Nat} (h : k ∉ [3, 48, 49, 50, 51]) : (F_X6_takePlain σ ky) k = σ k := by
  have ne : ∀ c ∈ [3, 48, 49, 50, 51], k ≠ c := fun c hc e => h (e ▸ hc)
  have nk_F_X5_stepName_8 : k ∉ [3] := fun hm => h (by first | (revert hm; simp only [List.mem_cons, List.not_mem_nil, or_false]; omega) | (simp at hm))
  have nk_F_X5_step : k ∉ [3] := fun hm => h (by first | (revert hm; simp only [List.mem_cons, List.not_mem_nil, or_false]; omega) | (simp at hm))
  have nk_F_X6_addStep : k ∉ [48, 49, 50, 51] := fun hm => h (by first | (revert hm; simp only [List.mem_cons, List.not_mem_nil, or_false]; omega) | (simp at hm))
  have nk_F_X5_stepNumber : k ∉ [3] := fun hm => h (by first | (revert hm; simp only [List.mem_cons, List.not_mem_nil, or_false]; omega) | (simp at hm))
  unfold F_X6_takePlain
  repeat' split
  all_goals first | rfl | simp only [zu_row _ _ _ (ne 3 (by decide)), zu_row _ _ _ (ne 48 (by decide)), zu_row _ _ _ (ne 49 (by decide)), zu_row _ _ _ (ne 50 (by decide)), zu_row _ _ _ (ne 51 (by decide)), fr_F_X5_stepName_8 (h := nk_F_X5_stepName_8), fr_F_X5_step (h := nk_F_X5_step), fr_F_X6_addStep (h := nk_F_X6_addStep), fr_F_X5_stepNumber (h := nk_F_X5_stepNumber)]

set_option maxRecDepth 20000 in
theorem does_X6_takePlain (σ : zG) (ky : Int) (hI : CI σ) (hS : CS σ) : zDo SC 3 m_X6_takePlain [zP 48, zP 3, zP 5, .inl ky] σ (zEq (some (.inl (V_X6_takePlain σ ky))) (F_X6_takePlain σ ky)) := by
  refine zDo.intro mk_X6_takePlain (Nat.le_of_ble_eq_true rfl) ?_
  refine zRx.iconst ⟨by decide, by decide⟩ dX6_takePlain_0 ?_
  refine zRx.istore (ls' := [(0, zP 48), (1, zP 3), (2, zP 5), (3, .inl ky), (4, .inl 0)]) rfl (by decide) dX6_takePlain_1 ?_
  refine zRx.iconst ⟨by decide, by decide⟩ dX6_takePlain_3 ?_
  refine zRx.istore (ls' := [(0, zP 48), (1, zP 3), (2, zP 5), (3, .inl ky), (4, .inl 0), (5, .inl 0)]) rfl (by decide) dX6_takePlain_4 ?_
  refine zRx.iload_n 3 rfl rfl dX6_takePlain_6 ?_
  refine zRx.bipush ⟨by decide, by decide⟩ rfl dX6_takePlain_7 ?_
  refine zRx.icmp_ne (tgt := 34) dX6_takePlain_9 (by decide) (fun c9 => ?_) (fun c9 => ?_)
  · refine zRx.iload_n 3 rfl rfl dX6_takePlain_34 ?_
    refine zRx.bipush ⟨by decide, by decide⟩ rfl dX6_takePlain_35 ?_
    refine zRx.icmp_eq (tgt := 101) dX6_takePlain_37 (by decide) (fun c37 => ?_) (fun c37 => ?_)
    · refine zRx.aload_n 0 rfl rfl dX6_takePlain_101 ?_
      refine zRx.iload_n 3 rfl rfl dX6_takePlain_102 ?_
      refine zRx.iload 5 rfl dX6_takePlain_103 ?_
      refine zRx.iload 4 rfl dX6_takePlain_105 ?_
      refine zRx.cVv (M := m_X6_addStep) (av := [.inl ky, .inl 0, .inl 0]) cv_6_63 mk_X6_addStep (by decide) (b := 48) rfl rfl (Nat.le_of_ble_eq_true rfl) dX6_takePlain_107 (does_X6_addStep σ ky 0 0 hS) ?_
      refine zRx.aload_n 1 rfl rfl dX6_takePlain_110 ?_
      refine zRx.cVv (M := m_X5_step) (av := []) cv_6_40 mk_X5_step (by decide) (b := 3) rfl rfl (Nat.le_of_ble_eq_true rfl) dX6_takePlain_111 (does_step2 (F_X6_addStep σ ky 0 0) (CI_F_X6_addStep hI)) ?_
      refine zRx.iconst ⟨by decide, by decide⟩ dX6_takePlain_114 ?_
      exact zR.zret rfl ⟨by decide, by decide⟩ dX6_takePlain_115 ⟨by unfold V_X6_takePlain; rw [if_neg c9, if_pos c37], by unfold F_X6_takePlain; rw [if_neg c9, if_pos c37]⟩
    · refine zRx.aload_n 1 rfl rfl dX6_takePlain_40 ?_
      refine zRx.cVv (M := m_X5_step) (av := []) cv_6_40 mk_X5_step (by decide) (b := 3) rfl rfl (Nat.le_of_ble_eq_true rfl) dX6_takePlain_41 (does_step2 σ hI) ?_
      refine zRx.aload_n 1 rfl rfl dX6_takePlain_44 ?_
      refine zRx.getIv (a := 3) (ji := 6) (v := (F_X5_step σ) 3 6) rfl fl_6_89 rfl rfl rfl dX6_takePlain_45 ?_
      refine zRx.istore (ls' := [(0, zP 48), (1, zP 3), (2, zP 5), (3, .inl ky), (4, .inl 0), (5, .inl ((F_X5_step σ) 3 6))]) rfl (by decide) dX6_takePlain_48 ?_
      refine zRx.aload_n 1 rfl rfl dX6_takePlain_50 ?_
      refine zRx.bipush ⟨by decide, by decide⟩ rfl dX6_takePlain_51 ?_
      refine zRx.cVi (w := .inl (b2 ((F_X5_step σ) 3 4 = 4 ∧ (F_X5_step σ) 3 6 = 60))) (M := m_X5_isSign) (av := [.inl 60]) cv_6_70 mk_X5_isSign (by decide) (b := 3) rfl rfl (Nat.le_of_ble_eq_true rfl) dX6_takePlain_53 (isSignC (F_X5_step σ) 60 ((F_X5_step σ) 3 4) ((F_X5_step σ) 3 6) rfl rfl) ?_
      refine zRx.if_neB (tgt := 83) dX6_takePlain_56 (by decide) (fun c56 => ?_) (fun c56 => ?_)
      · refine zRx.aload_n 1 rfl rfl dX6_takePlain_83 ?_
        refine zRx.iconst ⟨by decide, by decide⟩ dX6_takePlain_84 ?_
        refine zRx.sipush ⟨by decide, by decide⟩ rfl dX6_takePlain_85 ?_
        refine zRx.cVi (w := .inl (V_X5_stepNumber (F_X5_step σ) 0 999)) (M := m_X5_stepNumber) (av := [.inl 0, .inl 999]) cv_6_92 mk_X5_stepNumber (by decide) (b := 3) rfl rfl (Nat.le_of_ble_eq_true rfl) dX6_takePlain_88 (does_X5_stepNumber (F_X5_step σ) 0 999 (CI_F_X5_step hI)) ?_
        refine zRx.istore (ls' := [(0, zP 48), (1, zP 3), (2, zP 5), (3, .inl ky), (4, .inl (V_X5_stepNumber (F_X5_step σ) 0 999)), (5, .inl ((F_X5_step σ) 3 6))]) rfl (by decide) dX6_takePlain_91 ?_
        refine zRx.iload 4 rfl dX6_takePlain_93 ?_
        refine zRx.iconst ⟨by decide, by decide⟩ dX6_takePlain_95 ?_
        refine zRx.icmp_ne (tgt := 101) dX6_takePlain_96 (by decide) (fun c96 => ?_) (fun c96 => ?_)
        · refine zRx.aload_n 0 rfl rfl dX6_takePlain_101 ?_
          refine zRx.iload_n 3 rfl rfl dX6_takePlain_102 ?_
          refine zRx.iload 5 rfl dX6_takePlain_103 ?_
          refine zRx.iload 4 rfl dX6_takePlain_105 ?_
          refine zRx.cVv (M := m_X6_addStep) (av := [.inl ky, .inl ((F_X5_step σ) 3 6), .inl (V_X5_stepNumber (F_X5_step σ) 0 999)]) cv_6_63 mk_X6_addStep (by decide) (b := 48) rfl rfl (Nat.le_of_ble_eq_true rfl) dX6_takePlain_107 (does_X6_addStep (F_X5_stepNumber (F_X5_step σ) 0 999) ky ((F_X5_step σ) 3 6) (V_X5_stepNumber (F_X5_step σ) 0 999) (CS_F_X5_stepNumber (CS_F_X5_step hS))) ?_
          refine zRx.aload_n 1 rfl rfl dX6_takePlain_110 ?_
          refine zRx.cVv (M := m_X5_step) (av := []) cv_6_40 mk_X5_step (by decide) (b := 3) rfl rfl (Nat.le_of_ble_eq_true rfl) dX6_takePlain_111 (does_step2 (F_X6_addStep (F_X5_stepNumber (F_X5_step σ) 0 999) ky ((F_X5_step σ) 3 6) (V_X5_stepNumber (F_X5_step σ) 0 999)) (CI_F_X6_addStep (CI_F_X5_stepNumber (CI_F_X5_step hI)))) ?_
          refine zRx.iconst ⟨by decide, by decide⟩ dX6_takePlain_114 ?_
          exact zR.zret rfl ⟨by decide, by decide⟩ dX6_takePlain_115 ⟨by unfold V_X6_takePlain; rw [if_neg c9, if_neg c37, if_pos c56, if_neg c96], by unfold F_X6_takePlain; rw [if_neg c9, if_neg c37, if_pos c56, if_neg c96]⟩
        · refine zRx.iconst ⟨by decide, by decide⟩ dX6_takePlain_99 ?_
          exact zR.zret rfl ⟨by decide, by decide⟩ dX6_takePlain_100 ⟨by unfold V_X6_takePlain; rw [if_neg c9, if_neg c37, if_pos c56, if_pos c96], by unfold F_X6_takePlain; rw [if_neg c9, if_neg c37, if_pos c56, if_pos c96]⟩
      · refine zRx.aload_n 1 rfl rfl dX6_takePlain_59 ?_
        refine zRx.bipush ⟨by decide, by decide⟩ rfl dX6_takePlain_60 ?_
        refine zRx.cVi (w := .inl (b2 ((F_X5_step σ) 3 4 = 4 ∧ (F_X5_step σ) 3 6 = 61))) (M := m_X5_isSign) (av := [.inl 61]) cv_6_70 mk_X5_isSign (by decide) (b := 3) rfl rfl (Nat.le_of_ble_eq_true rfl) dX6_takePlain_62 (isSignC (F_X5_step σ) 61 ((F_X5_step σ) 3 4) ((F_X5_step σ) 3 6) rfl rfl) ?_
        refine zRx.if_neB (tgt := 83) dX6_takePlain_65 (by decide) (fun c65 => ?_) (fun c65 => ?_)
        · refine zRx.aload_n 1 rfl rfl dX6_takePlain_83 ?_
          refine zRx.iconst ⟨by decide, by decide⟩ dX6_takePlain_84 ?_
          refine zRx.sipush ⟨by decide, by decide⟩ rfl dX6_takePlain_85 ?_
          refine zRx.cVi (w := .inl (V_X5_stepNumber (F_X5_step σ) 0 999)) (M := m_X5_stepNumber) (av := [.inl 0, .inl 999]) cv_6_92 mk_X5_stepNumber (by decide) (b := 3) rfl rfl (Nat.le_of_ble_eq_true rfl) dX6_takePlain_88 (does_X5_stepNumber (F_X5_step σ) 0 999 (CI_F_X5_step hI)) ?_
          refine zRx.istore (ls' := [(0, zP 48), (1, zP 3), (2, zP 5), (3, .inl ky), (4, .inl (V_X5_stepNumber (F_X5_step σ) 0 999)), (5, .inl ((F_X5_step σ) 3 6))]) rfl (by decide) dX6_takePlain_91 ?_
          refine zRx.iload 4 rfl dX6_takePlain_93 ?_
          refine zRx.iconst ⟨by decide, by decide⟩ dX6_takePlain_95 ?_
          refine zRx.icmp_ne (tgt := 101) dX6_takePlain_96 (by decide) (fun c96 => ?_) (fun c96 => ?_)
          · refine zRx.aload_n 0 rfl rfl dX6_takePlain_101 ?_
            refine zRx.iload_n 3 rfl rfl dX6_takePlain_102 ?_
            refine zRx.iload 5 rfl dX6_takePlain_103 ?_
            refine zRx.iload 4 rfl dX6_takePlain_105 ?_
            refine zRx.cVv (M := m_X6_addStep) (av := [.inl ky, .inl ((F_X5_step σ) 3 6), .inl (V_X5_stepNumber (F_X5_step σ) 0 999)]) cv_6_63 mk_X6_addStep (by decide) (b := 48) rfl rfl (Nat.le_of_ble_eq_true rfl) dX6_takePlain_107 (does_X6_addStep (F_X5_stepNumber (F_X5_step σ) 0 999) ky ((F_X5_step σ) 3 6) (V_X5_stepNumber (F_X5_step σ) 0 999) (CS_F_X5_stepNumber (CS_F_X5_step hS))) ?_
            refine zRx.aload_n 1 rfl rfl dX6_takePlain_110 ?_
            refine zRx.cVv (M := m_X5_step) (av := []) cv_6_40 mk_X5_step (by decide) (b := 3) rfl rfl (Nat.le_of_ble_eq_true rfl) dX6_takePlain_111 (does_step2 (F_X6_addStep (F_X5_stepNumber (F_X5_step σ) 0 999) ky ((F_X5_step σ) 3 6) (V_X5_stepNumber (F_X5_step σ) 0 999)) (CI_F_X6_addStep (CI_F_X5_stepNumber (CI_F_X5_step hI)))) ?_
            refine zRx.iconst ⟨by decide, by decide⟩ dX6_takePlain_114 ?_
            exact zR.zret rfl ⟨by decide, by decide⟩ dX6_takePlain_115 ⟨by unfold V_X6_takePlain; rw [if_neg c9, if_neg c37, if_neg c56, if_pos c65, if_neg c96], by unfold F_X6_takePlain; rw [if_neg c9, if_neg c37, if_neg c56, if_pos c65, if_neg c96]⟩
          · refine zRx.iconst ⟨by decide, by decide⟩ dX6_takePlain_99 ?_
            exact zR.zret rfl ⟨by decide, by decide⟩ dX6_takePlain_100 ⟨by unfold V_X6_takePlain; rw [if_neg c9, if_neg c37, if_neg c56, if_pos c65, if_pos c96], by unfold F_X6_takePlain; rw [if_neg c9, if_neg c37, if_neg c56, if_pos c65, if_pos c96]⟩
        · refine zRx.aload_n 1 rfl rfl dX6_takePlain_68 ?_
          refine zRx.bipush ⟨by decide, by decide⟩ rfl dX6_takePlain_69 ?_
          refine zRx.cVi (w := .inl (b2 ((F_X5_step σ) 3 4 = 4 ∧ (F_X5_step σ) 3 6 = 62))) (M := m_X5_isSign) (av := [.inl 62]) cv_6_70 mk_X5_isSign (by decide) (b := 3) rfl rfl (Nat.le_of_ble_eq_true rfl) dX6_takePlain_71 (isSignC (F_X5_step σ) 62 ((F_X5_step σ) 3 4) ((F_X5_step σ) 3 6) rfl rfl) ?_
          refine zRx.if_neB (tgt := 83) dX6_takePlain_74 (by decide) (fun c74 => ?_) (fun c74 => ?_)
          · refine zRx.aload_n 1 rfl rfl dX6_takePlain_83 ?_
            refine zRx.iconst ⟨by decide, by decide⟩ dX6_takePlain_84 ?_
            refine zRx.sipush ⟨by decide, by decide⟩ rfl dX6_takePlain_85 ?_
            refine zRx.cVi (w := .inl (V_X5_stepNumber (F_X5_step σ) 0 999)) (M := m_X5_stepNumber) (av := [.inl 0, .inl 999]) cv_6_92 mk_X5_stepNumber (by decide) (b := 3) rfl rfl (Nat.le_of_ble_eq_true rfl) dX6_takePlain_88 (does_X5_stepNumber (F_X5_step σ) 0 999 (CI_F_X5_step hI)) ?_
            refine zRx.istore (ls' := [(0, zP 48), (1, zP 3), (2, zP 5), (3, .inl ky), (4, .inl (V_X5_stepNumber (F_X5_step σ) 0 999)), (5, .inl ((F_X5_step σ) 3 6))]) rfl (by decide) dX6_takePlain_91 ?_
            refine zRx.iload 4 rfl dX6_takePlain_93 ?_
            refine zRx.iconst ⟨by decide, by decide⟩ dX6_takePlain_95 ?_
            refine zRx.icmp_ne (tgt := 101) dX6_takePlain_96 (by decide) (fun c96 => ?_) (fun c96 => ?_)
            · refine zRx.aload_n 0 rfl rfl dX6_takePlain_101 ?_
              refine zRx.iload_n 3 rfl rfl dX6_takePlain_102 ?_
              refine zRx.iload 5 rfl dX6_takePlain_103 ?_
              refine zRx.iload 4 rfl dX6_takePlain_105 ?_
              refine zRx.cVv (M := m_X6_addStep) (av := [.inl ky, .inl ((F_X5_step σ) 3 6), .inl (V_X5_stepNumber (F_X5_step σ) 0 999)]) cv_6_63 mk_X6_addStep (by decide) (b := 48) rfl rfl (Nat.le_of_ble_eq_true rfl) dX6_takePlain_107 (does_X6_addStep (F_X5_stepNumber (F_X5_step σ) 0 999) ky ((F_X5_step σ) 3 6) (V_X5_stepNumber (F_X5_step σ) 0 999) (CS_F_X5_stepNumber (CS_F_X5_step hS))) ?_
              refine zRx.aload_n 1 rfl rfl dX6_takePlain_110 ?_
              refine zRx.cVv (M := m_X5_step) (av := []) cv_6_40 mk_X5_step (by decide) (b := 3) rfl rfl (Nat.le_of_ble_eq_true rfl) dX6_takePlain_111 (does_step2 (F_X6_addStep (F_X5_stepNumber (F_X5_step σ) 0 999) ky ((F_X5_step σ) 3 6) (V_X5_stepNumber (F_X5_step σ) 0 999)) (CI_F_X6_addStep (CI_F_X5_stepNumber (CI_F_X5_step hI)))) ?_
              refine zRx.iconst ⟨by decide, by decide⟩ dX6_takePlain_114 ?_
              exact zR.zret rfl ⟨by decide, by decide⟩ dX6_takePlain_115 ⟨by unfold V_X6_takePlain; rw [if_neg c9, if_neg c37, if_neg c56, if_neg c65, if_pos c74, if_neg c96], by unfold F_X6_takePlain; rw [if_neg c9, if_neg c37, if_neg c56, if_neg c65, if_pos c74, if_neg c96]⟩
            · refine zRx.iconst ⟨by decide, by decide⟩ dX6_takePlain_99 ?_
              exact zR.zret rfl ⟨by decide, by decide⟩ dX6_takePlain_100 ⟨by unfold V_X6_takePlain; rw [if_neg c9, if_neg c37, if_neg c56, if_neg c65, if_pos c74, if_pos c96], by unfold F_X6_takePlain; rw [if_neg c9, if_neg c37, if_neg c56, if_neg c65, if_pos c74, if_pos c96]⟩
          · refine zRx.aload_n 1 rfl rfl dX6_takePlain_77 ?_
            refine zRx.iconst ⟨by decide, by decide⟩ dX6_takePlain_78 ?_
            refine zRx.cVi (w := .inl 0) (M := m_X5_refuse) (av := [.inl 1]) cv_6_52 mk_X5_refuse (by decide) (b := 3) rfl rfl (Nat.le_of_ble_eq_true rfl) dX6_takePlain_79 (refuse_eq (F_X5_step σ) 1) ?_
            exact zR.zret rfl ⟨by decide, by decide⟩ dX6_takePlain_82 ⟨by unfold V_X6_takePlain; rw [if_neg c9, if_neg c37, if_neg c56, if_neg c65, if_neg c74], by unfold F_X6_takePlain; rw [if_neg c9, if_neg c37, if_neg c56, if_neg c65, if_neg c74]⟩
  · refine zRx.aload_n 1 rfl rfl dX6_takePlain_12 ?_
    refine zRx.aload_n 2 rfl rfl dX6_takePlain_13 ?_
    refine zRx.getR (a := 5) (b := 8) fl_6_77 rfl rfl dX6_takePlain_14 ?_
    refine zRx.aload_n 2 rfl rfl dX6_takePlain_17 ?_
    refine zRx.getIv (a := 5) (ji := 1) (v := σ 5 1) rfl fl_6_82 rfl rfl rfl dX6_takePlain_18 ?_
    refine zRx.cVi (w := .inl (V_X5_stepName_8 σ (σ 5 1))) (M := m_X5_stepName) (av := [zP 8, .inl (σ 5 1)]) cv_6_85 mk_X5_stepName (by decide) (b := 3) rfl rfl (Nat.le_of_ble_eq_true rfl) dX6_takePlain_21 (does_X5_stepName_8 σ (σ 5 1) hI) ?_
    refine zRx.istore (ls' := [(0, zP 48), (1, zP 3), (2, zP 5), (3, .inl ky), (4, .inl (V_X5_stepName_8 σ (σ 5 1))), (5, .inl 0)]) rfl (by decide) dX6_takePlain_24 ?_
    refine zRx.iload 4 rfl dX6_takePlain_26 ?_
    refine zRx.iconst ⟨by decide, by decide⟩ dX6_takePlain_28 ?_
    refine zRx.icmp_ne (tgt := 101) dX6_takePlain_29 (by decide) (fun c29 => ?_) (fun c29 => ?_)
    · refine zRx.aload_n 0 rfl rfl dX6_takePlain_101 ?_
      refine zRx.iload_n 3 rfl rfl dX6_takePlain_102 ?_
      refine zRx.iload 5 rfl dX6_takePlain_103 ?_
      refine zRx.iload 4 rfl dX6_takePlain_105 ?_
      refine zRx.cVv (M := m_X6_addStep) (av := [.inl ky, .inl 0, .inl (V_X5_stepName_8 σ (σ 5 1))]) cv_6_63 mk_X6_addStep (by decide) (b := 48) rfl rfl (Nat.le_of_ble_eq_true rfl) dX6_takePlain_107 (does_X6_addStep (F_X5_stepName_8 σ (σ 5 1)) ky 0 (V_X5_stepName_8 σ (σ 5 1)) (CS_F_X5_stepName_8 hS)) ?_
      refine zRx.aload_n 1 rfl rfl dX6_takePlain_110 ?_
      refine zRx.cVv (M := m_X5_step) (av := []) cv_6_40 mk_X5_step (by decide) (b := 3) rfl rfl (Nat.le_of_ble_eq_true rfl) dX6_takePlain_111 (does_step2 (F_X6_addStep (F_X5_stepName_8 σ (σ 5 1)) ky 0 (V_X5_stepName_8 σ (σ 5 1))) (CI_F_X6_addStep (CI_F_X5_stepName_8 hI))) ?_
      refine zRx.iconst ⟨by decide, by decide⟩ dX6_takePlain_114 ?_
      exact zR.zret rfl ⟨by decide, by decide⟩ dX6_takePlain_115 ⟨by unfold V_X6_takePlain; rw [if_pos c9, if_neg c29], by unfold F_X6_takePlain; rw [if_pos c9, if_neg c29]⟩
    · refine zRx.iconst ⟨by decide, by decide⟩ dX6_takePlain_32 ?_
      exact zR.zret rfl ⟨by decide, by decide⟩ dX6_takePlain_33 ⟨by unfold V_X6_takePlain; rw [if_pos c9, if_pos c29], by unfold F_X6_takePlain; rw [if_pos c9, if_pos c29]⟩

theorem CI_F_X6_takePlain {σ : zG} {ky : Int} (hI : CI σ) : CI (F_X6_takePlain σ ky) := by
  unfold F_X6_takePlain
  repeat' split
  all_goals first | exact (CI_F_X5_stepName_8 hI) | exact (CI_F_X5_step (CI_F_X6_addStep (CI_F_X5_stepName_8 hI))) | exact (CI_F_X5_step (CI_F_X6_addStep hI)) | exact (CI_F_X5_stepNumber (CI_F_X5_step hI)) | exact (CI_F_X5_step (CI_F_X6_addStep (CI_F_X5_stepNumber (CI_F_X5_step hI)))) | exact (CI_zu (by decide) (CI_F_X5_step hI))

theorem CS_F_X6_takePlain {σ : zG} {ky : Int} (hS : CS σ) : CS (F_X6_takePlain σ ky) := by
  unfold F_X6_takePlain
  repeat' split
  all_goals first | exact (CS_F_X5_stepName_8 hS) | exact (CS_F_X5_step (CS_F_X6_addStep (CS_F_X5_stepName_8 hS))) | exact (CS_F_X5_step (CS_F_X6_addStep hS)) | exact (CS_F_X5_stepNumber (CS_F_X5_step hS)) | exact (CS_F_X5_step (CS_F_X6_addStep (CS_F_X5_stepNumber (CS_F_X5_step hS)))) | exact (CS_zu (fun h => absurd h.1 (by decide)) (CS_F_X5_step hS))

theorem v01_X6_takePlain (σ : zG) (ky : Int) : 0 ≤ V_X6_takePlain σ ky ∧ V_X6_takePlain σ ky ≤ 1 := by
  unfold V_X6_takePlain
  repeat' split
  all_goals decide
/-- what a reader of a part of a sentence does, and keeps -/
def DOf (M : zMI) (dd k : Nat) (O : Int → zG → Int × zG) : Prop := ∀ (σ : zG) (dp : Int), dp + (k : Int) = 9 → 1 ≤ dp → CI σ → CS σ → zDo SC dd M [zP 48, zP 3, zP 5, .inl dp] σ (zEq (some (.inl (O dp σ).1)) (O dp σ).2)
def OK (O : Int → zG → Int × zG) : Prop := ∀ (dp : Int) (σ : zG), CI σ → CS σ → (CI (O dp σ).2 ∧ CS (O dp σ).2) ∧ (0 ≤ (O dp σ).1 ∧ (O dp σ).1 ≤ 1) ∧ ∀ c : Nat, c ∉ [3, 48, 49, 50, 51] → (O dp σ).2 c = σ c

def L_X6_takeAll_15 (O : Int → zG → Int × zG) (dp : Int) : Nat → Int → zG → Int × zG
  | 0, _, σ => (0, σ)
  | n + 1, q, σ => if 200 ≤ q then (1, σ) else (if (V_X5_keyword σ) = 17 then (if ((O dp (F_X5_step σ)).1) = 0 then (0, (O dp (F_X5_step σ)).2) else (L_X6_takeAll_15 O dp n (q + 1) (F_X6_addStep ((O dp (F_X5_step σ)).2) 17 0 0))) else (1, σ))
set_option maxRecDepth 20000 in
theorem loop_X6_takeAll_15 (O : Int → zG → Int × zG) (dp : Int) (k : Nat) (hO : DOf m_X6_takeOne (4 + 3 * k) k O) (hK : OK O) (hd : dp + (k : Int) = 9) (hd1 : 1 ≤ dp) : ∀ (n : Nat) (q : Int) (σ : zG), 0 ≤ q → CI σ → CS σ → (200 - q).toNat < n → zR SC (5 + 3 * k) m_X6_takeAll 15 [(0, zP 48), (1, zP 3), (2, zP 5), (3, .inl dp), (4, .inl q)] [] σ (zEq (some (.inl (L_X6_takeAll_15 O dp n q σ).1)) (L_X6_takeAll_15 O dp n q σ).2) := by
  intro n
  induction n with
  | zero => intro q σ h0 hI hS hmz; exact absurd hmz (Nat.not_lt_zero _)
  | succ n ih =>
    intro q σ h0 hI hS hmz
    refine zRx.iload 4 rfl dX6_takeAll_15 ?_
    refine zRx.sipush ⟨by decide, by decide⟩ rfl dX6_takeAll_17 ?_
    refine zRx.icmp_ge (tgt := 62) dX6_takeAll_20 (by decide) (fun c20 => ?_) (fun c20 => ?_)
    · refine zRx.iconst ⟨by decide, by decide⟩ dX6_takeAll_62 ?_
      exact zR.zret rfl ⟨by decide, by decide⟩ dX6_takeAll_63 (by have he : L_X6_takeAll_15 O dp (n + 1) q σ = (1, σ) := (by rw [L_X6_takeAll_15, if_pos c20]); rw [he]; exact ⟨rfl, rfl⟩)
    · refine zRx.aload_n 1 rfl rfl dX6_takeAll_23 ?_
      refine zRx.cVi (w := .inl (V_X5_keyword σ)) (M := m_X5_keyword) (av := []) cv_6_59 mk_X5_keyword (by omega) (b := 3) rfl rfl (Nat.le_of_ble_eq_true rfl) dX6_takeAll_24 (does_X5_keyword σ) ?_
      refine zRx.bipush ⟨by decide, by decide⟩ rfl dX6_takeAll_27 ?_
      refine zRx.icmp_ne (tgt := 62) dX6_takeAll_29 (by decide) (fun c29 => ?_) (fun c29 => ?_)
      · refine zRx.iconst ⟨by decide, by decide⟩ dX6_takeAll_62 ?_
        exact zR.zret rfl ⟨by decide, by decide⟩ dX6_takeAll_63 (by have he : L_X6_takeAll_15 O dp (n + 1) q σ = (1, σ) := (by rw [L_X6_takeAll_15, if_neg (Int.not_le.mpr c20), if_neg c29]); rw [he]; exact ⟨rfl, rfl⟩)
      · refine zRx.aload_n 1 rfl rfl dX6_takeAll_32 ?_
        refine zRx.cVv (M := m_X5_step) (av := []) cv_6_40 mk_X5_step (by omega) (b := 3) rfl rfl (Nat.le_of_ble_eq_true rfl) dX6_takeAll_33 (does_step2 σ hI) ?_
        refine zRx.aload_n 0 rfl rfl dX6_takeAll_36 ?_
        refine zRx.aload_n 1 rfl rfl dX6_takeAll_37 ?_
        refine zRx.aload_n 2 rfl rfl dX6_takeAll_38 ?_
        refine zRx.iload_n 3 rfl rfl dX6_takeAll_39 ?_
        refine zRx.cVi (w := .inl ((O dp (F_X5_step σ)).1)) (M := m_X6_takeOne) (av := [zP 3, zP 5, .inl dp]) cv_6_67 mk_X6_takeOne (by omega) (b := 48) rfl rfl (Nat.le_of_ble_eq_true rfl) dX6_takeAll_40 (hO (F_X5_step σ) dp (by omega) (by omega) (CI_F_X5_step hI) (CS_F_X5_step hS)) ?_
        refine zRx.if_ne (tgt := 48) dX6_takeAll_43 (by decide) (fun c43 => ?_) (fun c43 => ?_)
        · refine zRx.aload_n 0 rfl rfl dX6_takeAll_48 ?_
          refine zRx.bipush ⟨by decide, by decide⟩ rfl dX6_takeAll_49 ?_
          refine zRx.iconst ⟨by decide, by decide⟩ dX6_takeAll_51 ?_
          refine zRx.iconst ⟨by decide, by decide⟩ dX6_takeAll_52 ?_
          refine zRx.cVv (M := m_X6_addStep) (av := [.inl 17, .inl 0, .inl 0]) cv_6_63 mk_X6_addStep (by omega) (b := 48) rfl rfl (Nat.le_of_ble_eq_true rfl) dX6_takeAll_53 (does_X6_addStep ((O dp (F_X5_step σ)).2) 17 0 0 ((hK _ _ (CI_F_X5_step hI) (CS_F_X5_step hS)).1.2)) ?_
          refine zRx.iinc (n := 1) (ls' := [(0, zP 48), (1, zP 3), (2, zP 5), (3, .inl dp), (4, .inl (q + 1))]) 4 rfl ⟨by omega, by omega⟩ rfl (by decide) dX6_takeAll_56 ?_
          refine zRx.goto (tgt := 15) dX6_takeAll_59 (by decide) ?_
          have he : L_X6_takeAll_15 O dp (n + 1) q σ = L_X6_takeAll_15 O dp n (q + 1) (F_X6_addStep ((O dp (F_X5_step σ)).2) 17 0 0) := by rw [L_X6_takeAll_15, if_neg (Int.not_le.mpr c20), if_pos c29, if_neg c43]
          rw [he]
          exact ih (q + 1) (F_X6_addStep ((O dp (F_X5_step σ)).2) 17 0 0) (by omega) (CI_F_X6_addStep ((hK _ _ (CI_F_X5_step hI) (CS_F_X5_step hS)).1.1)) (CS_F_X6_addStep ((hK _ _ (CI_F_X5_step hI) (CS_F_X5_step hS)).1.2)) (by omega)
        · refine zRx.iconst ⟨by decide, by decide⟩ dX6_takeAll_46 ?_
          exact zR.zret rfl ⟨by decide, by decide⟩ dX6_takeAll_47 (by have he : L_X6_takeAll_15 O dp (n + 1) q σ = (0, (O dp (F_X5_step σ)).2) := (by rw [L_X6_takeAll_15, if_neg (Int.not_le.mpr c20), if_pos c29, if_pos c43]); rw [he]; exact ⟨rfl, rfl⟩)
def R_X6_takeAll (σ : zG) (O : Int → zG → Int × zG) (dp : Int) : Int × zG := if ((O dp σ).1) = 0 then (0, (O dp σ).2) else (L_X6_takeAll_15 O dp 210 0 ((O dp σ).2))
set_option maxRecDepth 20000 in
theorem does_X6_takeAll (σ : zG) (O : Int → zG → Int × zG) (dp : Int) (k : Nat) (hO : DOf m_X6_takeOne (4 + 3 * k) k O) (hK : OK O) (hd : dp + (k : Int) = 9) (hd1 : 1 ≤ dp) (hI : CI σ) (hS : CS σ)  : zDo SC (5 + 3 * k) m_X6_takeAll [zP 48, zP 3, zP 5, .inl dp] σ (zEq (some (.inl (R_X6_takeAll σ O dp).1)) (R_X6_takeAll σ O dp).2) := by
  refine zDo.intro mk_X6_takeAll (Nat.le_of_ble_eq_true rfl) ?_
  refine zRx.aload_n 0 rfl rfl dX6_takeAll_0 ?_
  refine zRx.aload_n 1 rfl rfl dX6_takeAll_1 ?_
  refine zRx.aload_n 2 rfl rfl dX6_takeAll_2 ?_
  refine zRx.iload_n 3 rfl rfl dX6_takeAll_3 ?_
  refine zRx.cVi (w := .inl ((O dp σ).1)) (M := m_X6_takeOne) (av := [zP 3, zP 5, .inl dp]) cv_6_67 mk_X6_takeOne (by omega) (b := 48) rfl rfl (Nat.le_of_ble_eq_true rfl) dX6_takeAll_4 (hO σ dp (by omega) (by omega) hI hS) ?_
  refine zRx.if_ne (tgt := 12) dX6_takeAll_7 (by decide) (fun c7 => ?_) (fun c7 => ?_)
  · refine zRx.iconst ⟨by decide, by decide⟩ dX6_takeAll_12 ?_
    refine zRx.istore (ls' := [(0, zP 48), (1, zP 3), (2, zP 5), (3, .inl dp), (4, .inl 0)]) rfl (by decide) dX6_takeAll_13 ?_
    have he : R_X6_takeAll σ O dp = L_X6_takeAll_15 O dp 210 0 ((O dp σ).2) := by rw [R_X6_takeAll, if_neg c7]
    rw [he]
    exact loop_X6_takeAll_15 O dp k hO hK hd hd1  210 0 ((O dp σ).2) (by omega) ((hK _ _ hI hS).1.1) ((hK _ _ hI hS).1.2) (by omega)
  · refine zRx.iconst ⟨by decide, by decide⟩ dX6_takeAll_10 ?_
    exact zR.zret rfl ⟨by decide, by decide⟩ dX6_takeAll_11 (by have he : R_X6_takeAll σ O dp = (0, (O dp σ).2) := (by rw [R_X6_takeAll, if_pos c7]); rw [he]; exact ⟨rfl, rfl⟩)

theorem takeAllL_K {O : Int → zG → Int × zG} (hK : OK O) (dp : Int) : ∀ (n : Nat) (q : Int) (σ : zG), CI σ → CS σ → (CI (L_X6_takeAll_15 O dp n q σ).2 ∧ CS (L_X6_takeAll_15 O dp n q σ).2) ∧ (0 ≤ (L_X6_takeAll_15 O dp n q σ).1 ∧ (L_X6_takeAll_15 O dp n q σ).1 ≤ 1) ∧ ∀ c : Nat, c ∉ [3, 48, 49, 50, 51] → (L_X6_takeAll_15 O dp n q σ).2 c = σ c
  | 0, q, σ, hI, hS => ⟨⟨hI, hS⟩, (by decide : (0 : Int) ≤ 0 ∧ (0 : Int) ≤ 1), fun _ _ => rfl⟩
  | n + 1, q, σ, hI, hS => by
    have s1 := CI_F_X5_step hI
    have s2 := CS_F_X5_step hS
    have k1 := hK dp (F_X5_step σ) s1 s2
    have fr1 : ∀ c : Nat, c ∉ [3, 48, 49, 50, 51] → (O dp (F_X5_step σ)).2 c = σ c := fun c hc => (k1.2.2 c hc).trans (fr_F_X5_step σ (fun h => hc (by revert h; simp; intro h; simp [h])))
    rw [L_X6_takeAll_15]
    repeat' split
    all_goals first
      | exact ⟨⟨hI, hS⟩, (by decide : (0 : Int) ≤ 1 ∧ (1 : Int) ≤ 1), fun _ _ => rfl⟩
      | exact ⟨k1.1, (by decide : (0 : Int) ≤ 0 ∧ (0 : Int) ≤ 1), fr1⟩
      | (have h9 := takeAllL_K hK dp n (q + 1) (F_X6_addStep (O dp (F_X5_step σ)).2 17 0 0) (CI_F_X6_addStep k1.1.1) (CS_F_X6_addStep k1.1.2)
         exact ⟨h9.1, h9.2.1, fun c hc => (h9.2.2 c hc).trans ((fr_F_X6_addStep _ _ _ _ (fun h => hc (by revert h; simp; omega))).trans (fr1 c hc))⟩)
theorem takeAll_K {O : Int → zG → Int × zG} (hK : OK O) : OK (fun dp σ => R_X6_takeAll σ O dp) := by
  intro dp σ hI hS
  have k1 := hK dp σ hI hS
  show (CI (R_X6_takeAll σ O dp).2 ∧ CS (R_X6_takeAll σ O dp).2) ∧ (0 ≤ (R_X6_takeAll σ O dp).1 ∧ (R_X6_takeAll σ O dp).1 ≤ 1) ∧ ∀ c : Nat, c ∉ [3, 48, 49, 50, 51] → (R_X6_takeAll σ O dp).2 c = σ c
  unfold R_X6_takeAll
  split
  · exact ⟨k1.1, (by decide : (0 : Int) ≤ 0 ∧ (0 : Int) ≤ 1), k1.2.2⟩
  · have h9 := takeAllL_K hK dp 210 0 (O dp σ).2 k1.1.1 k1.1.2
    exact ⟨h9.1, h9.2.1, fun c hc => (h9.2.2 c hc).trans (k1.2.2 c hc)⟩

def L_X6_takeCond_15 (O : Int → zG → Int × zG) (dp : Int) : Nat → Int → zG → Int × zG
  | 0, _, σ => (0, σ)
  | n + 1, q, σ => if 200 ≤ q then (1, σ) else (if (V_X5_keyword σ) = 16 then (if ((O dp (F_X5_step σ)).1) = 0 then (0, (O dp (F_X5_step σ)).2) else (L_X6_takeCond_15 O dp n (q + 1) (F_X6_addStep ((O dp (F_X5_step σ)).2) 16 0 0))) else (1, σ))
set_option maxRecDepth 20000 in
theorem loop_X6_takeCond_15 (O : Int → zG → Int × zG) (dp : Int) (k : Nat) (hO : DOf m_X6_takeAll (5 + 3 * k) k O) (hK : OK O) (hd : dp + (k : Int) = 9) (hd1 : 1 ≤ dp) : ∀ (n : Nat) (q : Int) (σ : zG), 0 ≤ q → CI σ → CS σ → (200 - q).toNat < n → zR SC (6 + 3 * k) m_X6_takeCond 15 [(0, zP 48), (1, zP 3), (2, zP 5), (3, .inl dp), (4, .inl q)] [] σ (zEq (some (.inl (L_X6_takeCond_15 O dp n q σ).1)) (L_X6_takeCond_15 O dp n q σ).2) := by
  intro n
  induction n with
  | zero => intro q σ h0 hI hS hmz; exact absurd hmz (Nat.not_lt_zero _)
  | succ n ih =>
    intro q σ h0 hI hS hmz
    refine zRx.iload 4 rfl dX6_takeCond_15 ?_
    refine zRx.sipush ⟨by decide, by decide⟩ rfl dX6_takeCond_17 ?_
    refine zRx.icmp_ge (tgt := 62) dX6_takeCond_20 (by decide) (fun c20 => ?_) (fun c20 => ?_)
    · refine zRx.iconst ⟨by decide, by decide⟩ dX6_takeCond_62 ?_
      exact zR.zret rfl ⟨by decide, by decide⟩ dX6_takeCond_63 (by have he : L_X6_takeCond_15 O dp (n + 1) q σ = (1, σ) := (by rw [L_X6_takeCond_15, if_pos c20]); rw [he]; exact ⟨rfl, rfl⟩)
    · refine zRx.aload_n 1 rfl rfl dX6_takeCond_23 ?_
      refine zRx.cVi (w := .inl (V_X5_keyword σ)) (M := m_X5_keyword) (av := []) cv_6_59 mk_X5_keyword (by omega) (b := 3) rfl rfl (Nat.le_of_ble_eq_true rfl) dX6_takeCond_24 (does_X5_keyword σ) ?_
      refine zRx.bipush ⟨by decide, by decide⟩ rfl dX6_takeCond_27 ?_
      refine zRx.icmp_ne (tgt := 62) dX6_takeCond_29 (by decide) (fun c29 => ?_) (fun c29 => ?_)
      · refine zRx.iconst ⟨by decide, by decide⟩ dX6_takeCond_62 ?_
        exact zR.zret rfl ⟨by decide, by decide⟩ dX6_takeCond_63 (by have he : L_X6_takeCond_15 O dp (n + 1) q σ = (1, σ) := (by rw [L_X6_takeCond_15, if_neg (Int.not_le.mpr c20), if_neg c29]); rw [he]; exact ⟨rfl, rfl⟩)
      · refine zRx.aload_n 1 rfl rfl dX6_takeCond_32 ?_
        refine zRx.cVv (M := m_X5_step) (av := []) cv_6_40 mk_X5_step (by omega) (b := 3) rfl rfl (Nat.le_of_ble_eq_true rfl) dX6_takeCond_33 (does_step2 σ hI) ?_
        refine zRx.aload_n 0 rfl rfl dX6_takeCond_36 ?_
        refine zRx.aload_n 1 rfl rfl dX6_takeCond_37 ?_
        refine zRx.aload_n 2 rfl rfl dX6_takeCond_38 ?_
        refine zRx.iload_n 3 rfl rfl dX6_takeCond_39 ?_
        refine zRx.cVi (w := .inl ((O dp (F_X5_step σ)).1)) (M := m_X6_takeAll) (av := [zP 3, zP 5, .inl dp]) cv_6_56 mk_X6_takeAll (by omega) (b := 48) rfl rfl (Nat.le_of_ble_eq_true rfl) dX6_takeCond_40 (hO (F_X5_step σ) dp (by omega) (by omega) (CI_F_X5_step hI) (CS_F_X5_step hS)) ?_
        refine zRx.if_ne (tgt := 48) dX6_takeCond_43 (by decide) (fun c43 => ?_) (fun c43 => ?_)
        · refine zRx.aload_n 0 rfl rfl dX6_takeCond_48 ?_
          refine zRx.bipush ⟨by decide, by decide⟩ rfl dX6_takeCond_49 ?_
          refine zRx.iconst ⟨by decide, by decide⟩ dX6_takeCond_51 ?_
          refine zRx.iconst ⟨by decide, by decide⟩ dX6_takeCond_52 ?_
          refine zRx.cVv (M := m_X6_addStep) (av := [.inl 16, .inl 0, .inl 0]) cv_6_63 mk_X6_addStep (by omega) (b := 48) rfl rfl (Nat.le_of_ble_eq_true rfl) dX6_takeCond_53 (does_X6_addStep ((O dp (F_X5_step σ)).2) 16 0 0 ((hK _ _ (CI_F_X5_step hI) (CS_F_X5_step hS)).1.2)) ?_
          refine zRx.iinc (n := 1) (ls' := [(0, zP 48), (1, zP 3), (2, zP 5), (3, .inl dp), (4, .inl (q + 1))]) 4 rfl ⟨by omega, by omega⟩ rfl (by decide) dX6_takeCond_56 ?_
          refine zRx.goto (tgt := 15) dX6_takeCond_59 (by decide) ?_
          have he : L_X6_takeCond_15 O dp (n + 1) q σ = L_X6_takeCond_15 O dp n (q + 1) (F_X6_addStep ((O dp (F_X5_step σ)).2) 16 0 0) := by rw [L_X6_takeCond_15, if_neg (Int.not_le.mpr c20), if_pos c29, if_neg c43]
          rw [he]
          exact ih (q + 1) (F_X6_addStep ((O dp (F_X5_step σ)).2) 16 0 0) (by omega) (CI_F_X6_addStep ((hK _ _ (CI_F_X5_step hI) (CS_F_X5_step hS)).1.1)) (CS_F_X6_addStep ((hK _ _ (CI_F_X5_step hI) (CS_F_X5_step hS)).1.2)) (by omega)
        · refine zRx.iconst ⟨by decide, by decide⟩ dX6_takeCond_46 ?_
          exact zR.zret rfl ⟨by decide, by decide⟩ dX6_takeCond_47 (by have he : L_X6_takeCond_15 O dp (n + 1) q σ = (0, (O dp (F_X5_step σ)).2) := (by rw [L_X6_takeCond_15, if_neg (Int.not_le.mpr c20), if_pos c29, if_pos c43]); rw [he]; exact ⟨rfl, rfl⟩)
def R_X6_takeCond (σ : zG) (O : Int → zG → Int × zG) (dp : Int) : Int × zG := if ((O dp σ).1) = 0 then (0, (O dp σ).2) else (L_X6_takeCond_15 O dp 210 0 ((O dp σ).2))
set_option maxRecDepth 20000 in
theorem does_X6_takeCond (σ : zG) (O : Int → zG → Int × zG) (dp : Int) (k : Nat) (hO : DOf m_X6_takeAll (5 + 3 * k) k O) (hK : OK O) (hd : dp + (k : Int) = 9) (hd1 : 1 ≤ dp) (hI : CI σ) (hS : CS σ)  : zDo SC (6 + 3 * k) m_X6_takeCond [zP 48, zP 3, zP 5, .inl dp] σ (zEq (some (.inl (R_X6_takeCond σ O dp).1)) (R_X6_takeCond σ O dp).2) := by
  refine zDo.intro mk_X6_takeCond (Nat.le_of_ble_eq_true rfl) ?_
  refine zRx.aload_n 0 rfl rfl dX6_takeCond_0 ?_
  refine zRx.aload_n 1 rfl rfl dX6_takeCond_1 ?_
  refine zRx.aload_n 2 rfl rfl dX6_takeCond_2 ?_
  refine zRx.iload_n 3 rfl rfl dX6_takeCond_3 ?_
  refine zRx.cVi (w := .inl ((O dp σ).1)) (M := m_X6_takeAll) (av := [zP 3, zP 5, .inl dp]) cv_6_56 mk_X6_takeAll (by omega) (b := 48) rfl rfl (Nat.le_of_ble_eq_true rfl) dX6_takeCond_4 (hO σ dp (by omega) (by omega) hI hS) ?_
  refine zRx.if_ne (tgt := 12) dX6_takeCond_7 (by decide) (fun c7 => ?_) (fun c7 => ?_)
  · refine zRx.iconst ⟨by decide, by decide⟩ dX6_takeCond_12 ?_
    refine zRx.istore (ls' := [(0, zP 48), (1, zP 3), (2, zP 5), (3, .inl dp), (4, .inl 0)]) rfl (by decide) dX6_takeCond_13 ?_
    have he : R_X6_takeCond σ O dp = L_X6_takeCond_15 O dp 210 0 ((O dp σ).2) := by rw [R_X6_takeCond, if_neg c7]
    rw [he]
    exact loop_X6_takeCond_15 O dp k hO hK hd hd1  210 0 ((O dp σ).2) (by omega) ((hK _ _ hI hS).1.1) ((hK _ _ hI hS).1.2) (by omega)
  · refine zRx.iconst ⟨by decide, by decide⟩ dX6_takeCond_10 ?_
    exact zR.zret rfl ⟨by decide, by decide⟩ dX6_takeCond_11 (by have he : R_X6_takeCond σ O dp = (0, (O dp σ).2) := (by rw [R_X6_takeCond, if_pos c7]); rw [he]; exact ⟨rfl, rfl⟩)

theorem takeCondL_K {O : Int → zG → Int × zG} (hK : OK O) (dp : Int) : ∀ (n : Nat) (q : Int) (σ : zG), CI σ → CS σ → (CI (L_X6_takeCond_15 O dp n q σ).2 ∧ CS (L_X6_takeCond_15 O dp n q σ).2) ∧ (0 ≤ (L_X6_takeCond_15 O dp n q σ).1 ∧ (L_X6_takeCond_15 O dp n q σ).1 ≤ 1) ∧ ∀ c : Nat, c ∉ [3, 48, 49, 50, 51] → (L_X6_takeCond_15 O dp n q σ).2 c = σ c
  | 0, q, σ, hI, hS => ⟨⟨hI, hS⟩, (by decide : (0 : Int) ≤ 0 ∧ (0 : Int) ≤ 1), fun _ _ => rfl⟩
  | n + 1, q, σ, hI, hS => by
    have s1 := CI_F_X5_step hI
    have s2 := CS_F_X5_step hS
    have k1 := hK dp (F_X5_step σ) s1 s2
    have fr1 : ∀ c : Nat, c ∉ [3, 48, 49, 50, 51] → (O dp (F_X5_step σ)).2 c = σ c := fun c hc => (k1.2.2 c hc).trans (fr_F_X5_step σ (fun h => hc (by revert h; simp; intro h; simp [h])))
    rw [L_X6_takeCond_15]
    repeat' split
    all_goals first
      | exact ⟨⟨hI, hS⟩, (by decide : (0 : Int) ≤ 1 ∧ (1 : Int) ≤ 1), fun _ _ => rfl⟩
      | exact ⟨k1.1, (by decide : (0 : Int) ≤ 0 ∧ (0 : Int) ≤ 1), fr1⟩
      | (have h9 := takeCondL_K hK dp n (q + 1) (F_X6_addStep (O dp (F_X5_step σ)).2 16 0 0) (CI_F_X6_addStep k1.1.1) (CS_F_X6_addStep k1.1.2)
         exact ⟨h9.1, h9.2.1, fun c hc => (h9.2.2 c hc).trans ((fr_F_X6_addStep _ _ _ _ (fun h => hc (by revert h; simp; omega))).trans (fr1 c hc))⟩)
theorem takeCond_K {O : Int → zG → Int × zG} (hK : OK O) : OK (fun dp σ => R_X6_takeCond σ O dp) := by
  intro dp σ hI hS
  have k1 := hK dp σ hI hS
  show (CI (R_X6_takeCond σ O dp).2 ∧ CS (R_X6_takeCond σ O dp).2) ∧ (0 ≤ (R_X6_takeCond σ O dp).1 ∧ (R_X6_takeCond σ O dp).1 ≤ 1) ∧ ∀ c : Nat, c ∉ [3, 48, 49, 50, 51] → (R_X6_takeCond σ O dp).2 c = σ c
  unfold R_X6_takeCond
  split
  · exact ⟨k1.1, (by decide : (0 : Int) ≤ 0 ∧ (0 : Int) ≤ 1), k1.2.2⟩
  · have h9 := takeCondL_K hK dp 210 0 (O dp σ).2 k1.1.1 k1.1.2
    exact ⟨h9.1, h9.2.1, fun c hc => (h9.2.2 c hc).trans (k1.2.2 c hc)⟩

def V_X6_takeOne0  : Int := 0
def F_X6_takeOne0 (σ : zG)  : zG := if σ 3 4 = 4 ∧ σ 3 6 = 40 then (zu σ 3 7 4) else (if (V_X5_keyword σ) < 18 then (zu σ 3 7 1) else (if (V_X5_keyword σ) ≤ 25 then (zu σ 3 7 4) else (zu σ 3 7 1)))
theorem fr_F_X6_takeOne0 (σ : zG)  {k : Nat} (h : k ∉ [3]) : (F_X6_takeOne0 σ ) k = σ k := by
  have ne : ∀ c ∈ [3], k ≠ c := fun c hc e => h (e ▸ hc)
  unfold F_X6_takeOne0
  repeat' split
  all_goals first | rfl | simp only [zu_row _ _ _ (ne 3 (by decide))]

set_option maxRecDepth 20000 in
theorem does_X6_takeOne0 (σ : zG)  (hI : CI σ) (hS : CS σ) : zDo SC 4 m_X6_takeOne [zP 48, zP 3, zP 5, .inl 9] σ (zEq (some (.inl (V_X6_takeOne0 ))) (F_X6_takeOne0 σ )) := by
  refine zDo.intro mk_X6_takeOne (Nat.le_of_ble_eq_true rfl) ?_
  refine zRx.aload_n 1 rfl rfl dX6_takeOne_0 ?_
  refine zRx.cVi (w := .inl (V_X5_keyword σ)) (M := m_X5_keyword) (av := []) cv_6_59 mk_X5_keyword (by decide) (b := 3) rfl rfl (Nat.le_of_ble_eq_true rfl) dX6_takeOne_1 (does_X5_keyword σ) ?_
  refine zRx.istore (ls' := [(0, zP 48), (1, zP 3), (2, zP 5), (3, .inl 9), (4, .inl (V_X5_keyword σ))]) rfl (by decide) dX6_takeOne_4 ?_
  have hk := keyword_r σ
  refine zRx.aload_n 1 rfl rfl dX6_takeOne_6 ?_
  refine zRx.bipush ⟨by decide, by decide⟩ rfl dX6_takeOne_7 ?_
  refine zRx.cVi (w := .inl (b2 (σ 3 4 = 4 ∧ σ 3 6 = 40))) (M := m_X5_isSign) (av := [.inl 40]) cv_6_70 mk_X5_isSign (by decide) (b := 3) rfl rfl (Nat.le_of_ble_eq_true rfl) dX6_takeOne_9 (isSignC σ 40 (σ 3 4) (σ 3 6) rfl rfl) ?_
  refine zRx.istore (ls' := [(0, zP 48), (1, zP 3), (2, zP 5), (3, .inl 9), (4, .inl (V_X5_keyword σ)), (5, .inl (b2 (σ 3 4 = 4 ∧ σ 3 6 = 40)))]) rfl (by decide) dX6_takeOne_12 ?_
  refine zRx.iload 5 rfl dX6_takeOne_14 ?_
  refine zRx.if_neB (tgt := 39) dX6_takeOne_16 (by decide) (fun c16 => ?_) (fun c16 => ?_)
  · refine zRx.aload_n 0 rfl rfl dX6_takeOne_39 ?_
    refine zRx.getIv (a := 48) (ji := 0) (v := σ 48 0) rfl fl_6_24 rfl rfl rfl dX6_takeOne_40 ?_
    refine zRx.bipush ⟨by decide, by decide⟩ rfl dX6_takeOne_43 ?_
    refine zRx.icmp_ge (tgt := 54) dX6_takeOne_45 (by decide) (fun c45 => ?_) (fun c45 => ?_)
    · refine zRx.aload_n 1 rfl rfl dX6_takeOne_54 ?_
      refine zRx.iconst ⟨by decide, by decide⟩ dX6_takeOne_55 ?_
      refine zRx.cVi (w := .inl 0) (M := m_X5_refuse) (av := [.inl 4]) cv_6_52 mk_X5_refuse (by decide) (b := 3) rfl rfl (Nat.le_of_ble_eq_true rfl) dX6_takeOne_56 (refuse_eq σ 4) ?_
      exact zR.zret rfl ⟨by decide, by decide⟩ dX6_takeOne_59 ⟨rfl, by unfold F_X6_takeOne0; rw [if_pos c16]⟩
    · refine zRx.iload_n 3 rfl rfl dX6_takeOne_48 ?_
      refine zRx.bipush ⟨by decide, by decide⟩ rfl dX6_takeOne_49 ?_
      refine zRx.icmp_le (tgt := 60) dX6_takeOne_51 (by decide) (fun c51 => absurd c51 (by decide)) (fun _ => ?_)
      refine zRx.aload_n 1 rfl rfl dX6_takeOne_54 ?_
      refine zRx.iconst ⟨by decide, by decide⟩ dX6_takeOne_55 ?_
      refine zRx.cVi (w := .inl 0) (M := m_X5_refuse) (av := [.inl 4]) cv_6_52 mk_X5_refuse (by decide) (b := 3) rfl rfl (Nat.le_of_ble_eq_true rfl) dX6_takeOne_56 (refuse_eq σ 4) ?_
      exact zR.zret rfl ⟨by decide, by decide⟩ dX6_takeOne_59 ⟨rfl, by unfold F_X6_takeOne0; rw [if_pos c16]⟩
  · refine zRx.iload 4 rfl dX6_takeOne_19 ?_
    refine zRx.bipush ⟨by decide, by decide⟩ rfl dX6_takeOne_21 ?_
    refine zRx.icmp_lt (tgt := 33) dX6_takeOne_23 (by decide) (fun c23 => ?_) (fun c23 => ?_)
    · refine zRx.aload_n 1 rfl rfl dX6_takeOne_33 ?_
      refine zRx.iconst ⟨by decide, by decide⟩ dX6_takeOne_34 ?_
      refine zRx.cVi (w := .inl 0) (M := m_X5_refuse) (av := [.inl 1]) cv_6_52 mk_X5_refuse (by decide) (b := 3) rfl rfl (Nat.le_of_ble_eq_true rfl) dX6_takeOne_35 (refuse_eq σ 1) ?_
      exact zR.zret rfl ⟨by decide, by decide⟩ dX6_takeOne_38 ⟨rfl, by unfold F_X6_takeOne0; rw [if_neg c16, if_pos c23]⟩
    · refine zRx.iload 4 rfl dX6_takeOne_26 ?_
      refine zRx.bipush ⟨by decide, by decide⟩ rfl dX6_takeOne_28 ?_
      refine zRx.icmp_le (tgt := 39) dX6_takeOne_30 (by decide) (fun c30 => ?_) (fun c30 => ?_)
      · refine zRx.aload_n 0 rfl rfl dX6_takeOne_39 ?_
        refine zRx.getIv (a := 48) (ji := 0) (v := σ 48 0) rfl fl_6_24 rfl rfl rfl dX6_takeOne_40 ?_
        refine zRx.bipush ⟨by decide, by decide⟩ rfl dX6_takeOne_43 ?_
        refine zRx.icmp_ge (tgt := 54) dX6_takeOne_45 (by decide) (fun c45 => ?_) (fun c45 => ?_)
        · refine zRx.aload_n 1 rfl rfl dX6_takeOne_54 ?_
          refine zRx.iconst ⟨by decide, by decide⟩ dX6_takeOne_55 ?_
          refine zRx.cVi (w := .inl 0) (M := m_X5_refuse) (av := [.inl 4]) cv_6_52 mk_X5_refuse (by decide) (b := 3) rfl rfl (Nat.le_of_ble_eq_true rfl) dX6_takeOne_56 (refuse_eq σ 4) ?_
          exact zR.zret rfl ⟨by decide, by decide⟩ dX6_takeOne_59 ⟨rfl, by unfold F_X6_takeOne0; rw [if_neg c16, if_neg (Int.not_lt.mpr c23), if_pos c30]⟩
        · refine zRx.iload_n 3 rfl rfl dX6_takeOne_48 ?_
          refine zRx.bipush ⟨by decide, by decide⟩ rfl dX6_takeOne_49 ?_
          refine zRx.icmp_le (tgt := 60) dX6_takeOne_51 (by decide) (fun c51 => absurd c51 (by decide)) (fun _ => ?_)
          refine zRx.aload_n 1 rfl rfl dX6_takeOne_54 ?_
          refine zRx.iconst ⟨by decide, by decide⟩ dX6_takeOne_55 ?_
          refine zRx.cVi (w := .inl 0) (M := m_X5_refuse) (av := [.inl 4]) cv_6_52 mk_X5_refuse (by decide) (b := 3) rfl rfl (Nat.le_of_ble_eq_true rfl) dX6_takeOne_56 (refuse_eq σ 4) ?_
          exact zR.zret rfl ⟨by decide, by decide⟩ dX6_takeOne_59 ⟨rfl, by unfold F_X6_takeOne0; rw [if_neg c16, if_neg (Int.not_lt.mpr c23), if_pos c30]⟩
      · refine zRx.aload_n 1 rfl rfl dX6_takeOne_33 ?_
        refine zRx.iconst ⟨by decide, by decide⟩ dX6_takeOne_34 ?_
        refine zRx.cVi (w := .inl 0) (M := m_X5_refuse) (av := [.inl 1]) cv_6_52 mk_X5_refuse (by decide) (b := 3) rfl rfl (Nat.le_of_ble_eq_true rfl) dX6_takeOne_35 (refuse_eq σ 1) ?_
        exact zR.zret rfl ⟨by decide, by decide⟩ dX6_takeOne_38 ⟨rfl, by unfold F_X6_takeOne0; rw [if_neg c16, if_neg (Int.not_lt.mpr c23), if_neg (Int.not_le.mpr c30)]⟩

def V_X6_takeOne (σ : zG) (O Cn : Int → zG → Int × zG) (dp : Int) : Int := if σ 3 4 = 4 ∧ σ 3 6 = 40 then (if 20 ≤ (σ 48 0) then 0 else (if dp ≤ 8 then (if ((Cn (dp + 1) (F_X5_step (zu σ 48 0 (w32 ((σ 48 0) + 1))))).1) = 0 then 0 else (if ((Cn (dp + 1) (F_X5_step (zu σ 48 0 (w32 ((σ 48 0) + 1))))).2) 3 4 = 4 ∧ ((Cn (dp + 1) (F_X5_step (zu σ 48 0 (w32 ((σ 48 0) + 1))))).2) 3 6 = 41 then 1 else 0)) else 0)) else (if (V_X5_keyword σ) < 18 then 0 else (if (V_X5_keyword σ) ≤ 25 then (if 20 ≤ (σ 48 0) then 0 else (if dp ≤ 8 then (if (V_X5_keyword σ) = 18 then (if ((O (dp + 1) (F_X5_step (zu σ 48 0 (w32 ((σ 48 0) + 1))))).1) = 0 then 0 else 1) else (V_X6_takePlain (zu σ 48 0 (w32 ((σ 48 0) + 1))) (V_X5_keyword σ))) else 0)) else 0))
def F_X6_takeOne (σ : zG) (O Cn : Int → zG → Int × zG) (dp : Int) : zG := if σ 3 4 = 4 ∧ σ 3 6 = 40 then (if 20 ≤ (σ 48 0) then (zu σ 3 7 4) else (if dp ≤ 8 then (if ((Cn (dp + 1) (F_X5_step (zu σ 48 0 (w32 ((σ 48 0) + 1))))).1) = 0 then ((Cn (dp + 1) (F_X5_step (zu σ 48 0 (w32 ((σ 48 0) + 1))))).2) else (if ((Cn (dp + 1) (F_X5_step (zu σ 48 0 (w32 ((σ 48 0) + 1))))).2) 3 4 = 4 ∧ ((Cn (dp + 1) (F_X5_step (zu σ 48 0 (w32 ((σ 48 0) + 1))))).2) 3 6 = 41 then (F_X5_step ((Cn (dp + 1) (F_X5_step (zu σ 48 0 (w32 ((σ 48 0) + 1))))).2)) else (zu ((Cn (dp + 1) (F_X5_step (zu σ 48 0 (w32 ((σ 48 0) + 1))))).2) 3 7 1))) else (zu σ 3 7 4))) else (if (V_X5_keyword σ) < 18 then (zu σ 3 7 1) else (if (V_X5_keyword σ) ≤ 25 then (if 20 ≤ (σ 48 0) then (zu σ 3 7 4) else (if dp ≤ 8 then (if (V_X5_keyword σ) = 18 then (if ((O (dp + 1) (F_X5_step (zu σ 48 0 (w32 ((σ 48 0) + 1))))).1) = 0 then ((O (dp + 1) (F_X5_step (zu σ 48 0 (w32 ((σ 48 0) + 1))))).2) else (F_X6_addStep ((O (dp + 1) (F_X5_step (zu σ 48 0 (w32 ((σ 48 0) + 1))))).2) 18 0 0)) else (F_X6_takePlain (zu σ 48 0 (w32 ((σ 48 0) + 1))) (V_X5_keyword σ))) else (zu σ 3 7 4))) else (zu σ 3 7 1)))
set_option maxRecDepth 20000 in
theorem does_X6_takeOne (σ : zG) (O Cn : Int → zG → Int × zG) (dp : Int) (k : Nat) (hO : DOf m_X6_takeOne (4 + 3 * k) k O) (hC : DOf m_X6_takeCond (6 + 3 * k) k Cn) (hK : OK O) (hKc : OK Cn) (hd : dp + ((k + 1 : Nat) : Int) = 9) (hd1 : 1 ≤ dp) (hI : CI σ) (hS : CS σ) : zDo SC (4 + 3 * (k + 1)) m_X6_takeOne [zP 48, zP 3, zP 5, .inl dp] σ (zEq (some (.inl (V_X6_takeOne σ O Cn dp))) (F_X6_takeOne σ O Cn dp)) := by
  refine zDo.intro mk_X6_takeOne (Nat.le_of_ble_eq_true rfl) ?_
  refine zRx.aload_n 1 rfl rfl dX6_takeOne_0 ?_
  refine zRx.cVi (w := .inl (V_X5_keyword σ)) (M := m_X5_keyword) (av := []) cv_6_59 mk_X5_keyword (by omega) (b := 3) rfl rfl (Nat.le_of_ble_eq_true rfl) dX6_takeOne_1 (does_X5_keyword σ) ?_
  refine zRx.istore (ls' := [(0, zP 48), (1, zP 3), (2, zP 5), (3, .inl dp), (4, .inl (V_X5_keyword σ))]) rfl (by decide) dX6_takeOne_4 ?_
  have hk := keyword_r σ
  refine zRx.aload_n 1 rfl rfl dX6_takeOne_6 ?_
  refine zRx.bipush ⟨by decide, by decide⟩ rfl dX6_takeOne_7 ?_
  refine zRx.cVi (w := .inl (b2 (σ 3 4 = 4 ∧ σ 3 6 = 40))) (M := m_X5_isSign) (av := [.inl 40]) cv_6_70 mk_X5_isSign (by omega) (b := 3) rfl rfl (Nat.le_of_ble_eq_true rfl) dX6_takeOne_9 (isSignC σ 40 (σ 3 4) (σ 3 6) rfl rfl) ?_
  refine zRx.istore (ls' := [(0, zP 48), (1, zP 3), (2, zP 5), (3, .inl dp), (4, .inl (V_X5_keyword σ)), (5, .inl (b2 (σ 3 4 = 4 ∧ σ 3 6 = 40)))]) rfl (by decide) dX6_takeOne_12 ?_
  refine zRx.iload 5 rfl dX6_takeOne_14 ?_
  refine zRx.if_neB (tgt := 39) dX6_takeOne_16 (by decide) (fun c16 => ?_) (fun c16 => ?_)
  · refine zRx.aload_n 0 rfl rfl dX6_takeOne_39 ?_
    refine zRx.getIv (a := 48) (ji := 0) (v := σ 48 0) rfl fl_6_24 rfl rfl rfl dX6_takeOne_40 ?_
    refine zRx.bipush ⟨by decide, by decide⟩ rfl dX6_takeOne_43 ?_
    refine zRx.icmp_ge (tgt := 54) dX6_takeOne_45 (by decide) (fun c45 => ?_) (fun c45 => ?_)
    · refine zRx.aload_n 1 rfl rfl dX6_takeOne_54 ?_
      refine zRx.iconst ⟨by decide, by decide⟩ dX6_takeOne_55 ?_
      refine zRx.cVi (w := .inl 0) (M := m_X5_refuse) (av := [.inl 4]) cv_6_52 mk_X5_refuse (by omega) (b := 3) rfl rfl (Nat.le_of_ble_eq_true rfl) dX6_takeOne_56 (refuse_eq σ 4) ?_
      exact zR.zret rfl ⟨by decide, by decide⟩ dX6_takeOne_59 ⟨by unfold V_X6_takeOne; rw [if_pos c16, if_pos c45], by unfold F_X6_takeOne; rw [if_pos c16, if_pos c45]⟩
    · refine zRx.iload_n 3 rfl rfl dX6_takeOne_48 ?_
      refine zRx.bipush ⟨by decide, by decide⟩ rfl dX6_takeOne_49 ?_
      refine zRx.icmp_le (tgt := 60) dX6_takeOne_51 (by decide) (fun c51 => ?_) (fun c51 => ?_)
      · refine zRx.aload_n 0 rfl rfl dX6_takeOne_60 ?_
        refine zRx.dup rfl dX6_takeOne_61 ?_
        refine zRx.getIv (a := 48) (ji := 0) (v := σ 48 0) rfl fl_6_24 rfl rfl rfl dX6_takeOne_62 ?_
        refine zRx.iconst ⟨by decide, by decide⟩ dX6_takeOne_65 ?_
        refine zRx.iaddW dX6_takeOne_66 ?_
        refine zRx.putI (a := 48) (ji := 0) pl_6_24 rfl rfl rfl dX6_takeOne_67 ?_
        refine zRx.iload 5 rfl dX6_takeOne_70 ?_
        refine zRx.if_neB (tgt := 91) dX6_takeOne_72 (by decide) (fun c72 => ?_) (fun c72 => absurd c16 c72)
        refine zRx.aload_n 1 rfl rfl dX6_takeOne_91 ?_
        refine zRx.cVv (M := m_X5_step) (av := []) cv_6_40 mk_X5_step (by omega) (b := 3) rfl rfl (Nat.le_of_ble_eq_true rfl) dX6_takeOne_92 (does_step2 (zu σ 48 0 (w32 ((σ 48 0) + 1))) (CI_zu ⟨fun h => absurd h.1 (by decide), fun h => absurd h.1 (by decide)⟩ hI)) ?_
        refine zRx.iload 5 rfl dX6_takeOne_95 ?_
        refine zRx.if_neB (tgt := 124) dX6_takeOne_97 (by decide) (fun c97 => ?_) (fun c97 => absurd c16 c97)
        refine zRx.aload_n 0 rfl rfl dX6_takeOne_124 ?_
        refine zRx.aload_n 1 rfl rfl dX6_takeOne_125 ?_
        refine zRx.aload_n 2 rfl rfl dX6_takeOne_126 ?_
        refine zRx.iload_n 3 rfl rfl dX6_takeOne_127 ?_
        refine zRx.iconst ⟨by decide, by decide⟩ dX6_takeOne_128 ?_
        refine zRx.iadd ⟨by omega, by omega⟩ dX6_takeOne_129 ?_
        refine zRx.cVi (w := .inl ((Cn (dp + 1) (F_X5_step (zu σ 48 0 (w32 ((σ 48 0) + 1))))).1)) (M := m_X6_takeCond) (av := [zP 3, zP 5, .inl (dp + 1)]) cv_6_45 mk_X6_takeCond (by omega) (b := 48) rfl rfl (Nat.le_of_ble_eq_true rfl) dX6_takeOne_130 (hC (F_X5_step (zu σ 48 0 (w32 ((σ 48 0) + 1)))) (dp + 1) (by omega) (by omega) (CI_F_X5_step (CI_zu ⟨fun h => absurd h.1 (by decide), fun h => absurd h.1 (by decide)⟩ hI)) (CS_F_X5_step (CS_zu (by decide) hS))) ?_
        refine zRx.if_ne (tgt := 138) dX6_takeOne_133 (by decide) (fun c133 => ?_) (fun c133 => ?_)
        · refine zRx.aload_n 1 rfl rfl dX6_takeOne_138 ?_
          refine zRx.bipush ⟨by decide, by decide⟩ rfl dX6_takeOne_139 ?_
          refine zRx.cVi (w := .inl (b2 (((Cn (dp + 1) (F_X5_step (zu σ 48 0 (w32 ((σ 48 0) + 1))))).2) 3 4 = 4 ∧ ((Cn (dp + 1) (F_X5_step (zu σ 48 0 (w32 ((σ 48 0) + 1))))).2) 3 6 = 41))) (M := m_X5_isSign) (av := [.inl 41]) cv_6_70 mk_X5_isSign (by omega) (b := 3) rfl rfl (Nat.le_of_ble_eq_true rfl) dX6_takeOne_141 (isSignC ((Cn (dp + 1) (F_X5_step (zu σ 48 0 (w32 ((σ 48 0) + 1))))).2) 41 (((Cn (dp + 1) (F_X5_step (zu σ 48 0 (w32 ((σ 48 0) + 1))))).2) 3 4) (((Cn (dp + 1) (F_X5_step (zu σ 48 0 (w32 ((σ 48 0) + 1))))).2) 3 6) rfl rfl) ?_
          refine zRx.if_neB (tgt := 153) dX6_takeOne_144 (by decide) (fun c144 => ?_) (fun c144 => ?_)
          · refine zRx.aload_n 1 rfl rfl dX6_takeOne_153 ?_
            refine zRx.cVv (M := m_X5_step) (av := []) cv_6_40 mk_X5_step (by omega) (b := 3) rfl rfl (Nat.le_of_ble_eq_true rfl) dX6_takeOne_154 (does_step2 ((Cn (dp + 1) (F_X5_step (zu σ 48 0 (w32 ((σ 48 0) + 1))))).2) ((hKc _ _ (CI_F_X5_step (CI_zu ⟨fun h => absurd h.1 (by decide), fun h => absurd h.1 (by decide)⟩ hI)) (CS_F_X5_step (CS_zu (by decide) hS))).1.1)) ?_
            refine zRx.iconst ⟨by decide, by decide⟩ dX6_takeOne_157 ?_
            exact zR.zret rfl ⟨by decide, by decide⟩ dX6_takeOne_158 ⟨by unfold V_X6_takeOne; rw [if_pos c16, if_neg (Int.not_le.mpr c45), if_pos c51, if_neg c133, if_pos c144], by unfold F_X6_takeOne; rw [if_pos c16, if_neg (Int.not_le.mpr c45), if_pos c51, if_neg c133, if_pos c144]⟩
          · refine zRx.aload_n 1 rfl rfl dX6_takeOne_147 ?_
            refine zRx.iconst ⟨by decide, by decide⟩ dX6_takeOne_148 ?_
            refine zRx.cVi (w := .inl 0) (M := m_X5_refuse) (av := [.inl 1]) cv_6_52 mk_X5_refuse (by omega) (b := 3) rfl rfl (Nat.le_of_ble_eq_true rfl) dX6_takeOne_149 (refuse_eq ((Cn (dp + 1) (F_X5_step (zu σ 48 0 (w32 ((σ 48 0) + 1))))).2) 1) ?_
            exact zR.zret rfl ⟨by decide, by decide⟩ dX6_takeOne_152 ⟨by unfold V_X6_takeOne; rw [if_pos c16, if_neg (Int.not_le.mpr c45), if_pos c51, if_neg c133, if_neg c144], by unfold F_X6_takeOne; rw [if_pos c16, if_neg (Int.not_le.mpr c45), if_pos c51, if_neg c133, if_neg c144]⟩
        · refine zRx.iconst ⟨by decide, by decide⟩ dX6_takeOne_136 ?_
          exact zR.zret rfl ⟨by decide, by decide⟩ dX6_takeOne_137 ⟨by unfold V_X6_takeOne; rw [if_pos c16, if_neg (Int.not_le.mpr c45), if_pos c51, if_pos c133], by unfold F_X6_takeOne; rw [if_pos c16, if_neg (Int.not_le.mpr c45), if_pos c51, if_pos c133]⟩
      · refine zRx.aload_n 1 rfl rfl dX6_takeOne_54 ?_
        refine zRx.iconst ⟨by decide, by decide⟩ dX6_takeOne_55 ?_
        refine zRx.cVi (w := .inl 0) (M := m_X5_refuse) (av := [.inl 4]) cv_6_52 mk_X5_refuse (by omega) (b := 3) rfl rfl (Nat.le_of_ble_eq_true rfl) dX6_takeOne_56 (refuse_eq σ 4) ?_
        exact zR.zret rfl ⟨by decide, by decide⟩ dX6_takeOne_59 ⟨by unfold V_X6_takeOne; rw [if_pos c16, if_neg (Int.not_le.mpr c45), if_neg (Int.not_le.mpr c51)], by unfold F_X6_takeOne; rw [if_pos c16, if_neg (Int.not_le.mpr c45), if_neg (Int.not_le.mpr c51)]⟩
  · refine zRx.iload 4 rfl dX6_takeOne_19 ?_
    refine zRx.bipush ⟨by decide, by decide⟩ rfl dX6_takeOne_21 ?_
    refine zRx.icmp_lt (tgt := 33) dX6_takeOne_23 (by decide) (fun c23 => ?_) (fun c23 => ?_)
    · refine zRx.aload_n 1 rfl rfl dX6_takeOne_33 ?_
      refine zRx.iconst ⟨by decide, by decide⟩ dX6_takeOne_34 ?_
      refine zRx.cVi (w := .inl 0) (M := m_X5_refuse) (av := [.inl 1]) cv_6_52 mk_X5_refuse (by omega) (b := 3) rfl rfl (Nat.le_of_ble_eq_true rfl) dX6_takeOne_35 (refuse_eq σ 1) ?_
      exact zR.zret rfl ⟨by decide, by decide⟩ dX6_takeOne_38 ⟨by unfold V_X6_takeOne; rw [if_neg c16, if_pos c23], by unfold F_X6_takeOne; rw [if_neg c16, if_pos c23]⟩
    · refine zRx.iload 4 rfl dX6_takeOne_26 ?_
      refine zRx.bipush ⟨by decide, by decide⟩ rfl dX6_takeOne_28 ?_
      refine zRx.icmp_le (tgt := 39) dX6_takeOne_30 (by decide) (fun c30 => ?_) (fun c30 => ?_)
      · refine zRx.aload_n 0 rfl rfl dX6_takeOne_39 ?_
        refine zRx.getIv (a := 48) (ji := 0) (v := σ 48 0) rfl fl_6_24 rfl rfl rfl dX6_takeOne_40 ?_
        refine zRx.bipush ⟨by decide, by decide⟩ rfl dX6_takeOne_43 ?_
        refine zRx.icmp_ge (tgt := 54) dX6_takeOne_45 (by decide) (fun c45 => ?_) (fun c45 => ?_)
        · refine zRx.aload_n 1 rfl rfl dX6_takeOne_54 ?_
          refine zRx.iconst ⟨by decide, by decide⟩ dX6_takeOne_55 ?_
          refine zRx.cVi (w := .inl 0) (M := m_X5_refuse) (av := [.inl 4]) cv_6_52 mk_X5_refuse (by omega) (b := 3) rfl rfl (Nat.le_of_ble_eq_true rfl) dX6_takeOne_56 (refuse_eq σ 4) ?_
          exact zR.zret rfl ⟨by decide, by decide⟩ dX6_takeOne_59 ⟨by unfold V_X6_takeOne; rw [if_neg c16, if_neg (Int.not_lt.mpr c23), if_pos c30, if_pos c45], by unfold F_X6_takeOne; rw [if_neg c16, if_neg (Int.not_lt.mpr c23), if_pos c30, if_pos c45]⟩
        · refine zRx.iload_n 3 rfl rfl dX6_takeOne_48 ?_
          refine zRx.bipush ⟨by decide, by decide⟩ rfl dX6_takeOne_49 ?_
          refine zRx.icmp_le (tgt := 60) dX6_takeOne_51 (by decide) (fun c51 => ?_) (fun c51 => ?_)
          · refine zRx.aload_n 0 rfl rfl dX6_takeOne_60 ?_
            refine zRx.dup rfl dX6_takeOne_61 ?_
            refine zRx.getIv (a := 48) (ji := 0) (v := σ 48 0) rfl fl_6_24 rfl rfl rfl dX6_takeOne_62 ?_
            refine zRx.iconst ⟨by decide, by decide⟩ dX6_takeOne_65 ?_
            refine zRx.iaddW dX6_takeOne_66 ?_
            refine zRx.putI (a := 48) (ji := 0) pl_6_24 rfl rfl rfl dX6_takeOne_67 ?_
            refine zRx.iload 5 rfl dX6_takeOne_70 ?_
            refine zRx.if_neB (tgt := 91) dX6_takeOne_72 (by decide) (fun c72 => absurd c72 c16) (fun c72 => ?_)
            refine zRx.iload 4 rfl dX6_takeOne_75 ?_
            refine zRx.bipush ⟨by decide, by decide⟩ rfl dX6_takeOne_77 ?_
            refine zRx.icmp_eq (tgt := 91) dX6_takeOne_79 (by decide) (fun c79 => ?_) (fun c79 => ?_)
            · refine zRx.aload_n 1 rfl rfl dX6_takeOne_91 ?_
              refine zRx.cVv (M := m_X5_step) (av := []) cv_6_40 mk_X5_step (by omega) (b := 3) rfl rfl (Nat.le_of_ble_eq_true rfl) dX6_takeOne_92 (does_step2 (zu σ 48 0 (w32 ((σ 48 0) + 1))) (CI_zu ⟨fun h => absurd h.1 (by decide), fun h => absurd h.1 (by decide)⟩ hI)) ?_
              refine zRx.iload 5 rfl dX6_takeOne_95 ?_
              refine zRx.if_neB (tgt := 124) dX6_takeOne_97 (by decide) (fun c97 => absurd c97 c16) (fun c97 => ?_)
              refine zRx.aload_n 0 rfl rfl dX6_takeOne_100 ?_
              refine zRx.aload_n 1 rfl rfl dX6_takeOne_101 ?_
              refine zRx.aload_n 2 rfl rfl dX6_takeOne_102 ?_
              refine zRx.iload_n 3 rfl rfl dX6_takeOne_103 ?_
              refine zRx.iconst ⟨by decide, by decide⟩ dX6_takeOne_104 ?_
              refine zRx.iadd ⟨by omega, by omega⟩ dX6_takeOne_105 ?_
              refine zRx.cVi (w := .inl ((O (dp + 1) (F_X5_step (zu σ 48 0 (w32 ((σ 48 0) + 1))))).1)) (M := m_X6_takeOne) (av := [zP 3, zP 5, .inl (dp + 1)]) cv_6_67 mk_X6_takeOne (by omega) (b := 48) rfl rfl (Nat.le_of_ble_eq_true rfl) dX6_takeOne_106 (hO (F_X5_step (zu σ 48 0 (w32 ((σ 48 0) + 1)))) (dp + 1) (by omega) (by omega) (CI_F_X5_step (CI_zu ⟨fun h => absurd h.1 (by decide), fun h => absurd h.1 (by decide)⟩ hI)) (CS_F_X5_step (CS_zu (by decide) hS))) ?_
              refine zRx.if_ne (tgt := 114) dX6_takeOne_109 (by decide) (fun c109 => ?_) (fun c109 => ?_)
              · refine zRx.aload_n 0 rfl rfl dX6_takeOne_114 ?_
                refine zRx.bipush ⟨by decide, by decide⟩ rfl dX6_takeOne_115 ?_
                refine zRx.iconst ⟨by decide, by decide⟩ dX6_takeOne_117 ?_
                refine zRx.iconst ⟨by decide, by decide⟩ dX6_takeOne_118 ?_
                refine zRx.cVv (M := m_X6_addStep) (av := [.inl 18, .inl 0, .inl 0]) cv_6_63 mk_X6_addStep (by omega) (b := 48) rfl rfl (Nat.le_of_ble_eq_true rfl) dX6_takeOne_119 (does_X6_addStep ((O (dp + 1) (F_X5_step (zu σ 48 0 (w32 ((σ 48 0) + 1))))).2) 18 0 0 ((hK _ _ (CI_F_X5_step (CI_zu ⟨fun h => absurd h.1 (by decide), fun h => absurd h.1 (by decide)⟩ hI)) (CS_F_X5_step (CS_zu (by decide) hS))).1.2)) ?_
                refine zRx.iconst ⟨by decide, by decide⟩ dX6_takeOne_122 ?_
                exact zR.zret rfl ⟨by decide, by decide⟩ dX6_takeOne_123 ⟨by unfold V_X6_takeOne; rw [if_neg c16, if_neg (Int.not_lt.mpr c23), if_pos c30, if_neg (Int.not_le.mpr c45), if_pos c51, if_pos c79, if_neg c109], by unfold F_X6_takeOne; rw [if_neg c16, if_neg (Int.not_lt.mpr c23), if_pos c30, if_neg (Int.not_le.mpr c45), if_pos c51, if_pos c79, if_neg c109]⟩
              · refine zRx.iconst ⟨by decide, by decide⟩ dX6_takeOne_112 ?_
                exact zR.zret rfl ⟨by decide, by decide⟩ dX6_takeOne_113 ⟨by unfold V_X6_takeOne; rw [if_neg c16, if_neg (Int.not_lt.mpr c23), if_pos c30, if_neg (Int.not_le.mpr c45), if_pos c51, if_pos c79, if_pos c109], by unfold F_X6_takeOne; rw [if_neg c16, if_neg (Int.not_lt.mpr c23), if_pos c30, if_neg (Int.not_le.mpr c45), if_pos c51, if_pos c79, if_pos c109]⟩
            · refine zRx.aload_n 0 rfl rfl dX6_takeOne_82 ?_
              refine zRx.aload_n 1 rfl rfl dX6_takeOne_83 ?_
              refine zRx.aload_n 2 rfl rfl dX6_takeOne_84 ?_
              refine zRx.iload 4 rfl dX6_takeOne_85 ?_
              refine zRx.cVi (w := .inl (V_X6_takePlain (zu σ 48 0 (w32 ((σ 48 0) + 1))) (V_X5_keyword σ))) (M := m_X6_takePlain) (av := [zP 3, zP 5, .inl (V_X5_keyword σ)]) cv_6_74 mk_X6_takePlain (by omega) (b := 48) rfl rfl (Nat.le_of_ble_eq_true rfl) dX6_takeOne_87 (does_X6_takePlain (zu σ 48 0 (w32 ((σ 48 0) + 1))) (V_X5_keyword σ) (CI_zu ⟨fun h => absurd h.1 (by decide), fun h => absurd h.1 (by decide)⟩ hI) (CS_zu (by decide) hS)) ?_
              exact zR.zret rfl (v01_X6_takePlain _ _) dX6_takeOne_90 ⟨by unfold V_X6_takeOne; rw [if_neg c16, if_neg (Int.not_lt.mpr c23), if_pos c30, if_neg (Int.not_le.mpr c45), if_pos c51, if_neg c79], by unfold F_X6_takeOne; rw [if_neg c16, if_neg (Int.not_lt.mpr c23), if_pos c30, if_neg (Int.not_le.mpr c45), if_pos c51, if_neg c79]⟩
          · refine zRx.aload_n 1 rfl rfl dX6_takeOne_54 ?_
            refine zRx.iconst ⟨by decide, by decide⟩ dX6_takeOne_55 ?_
            refine zRx.cVi (w := .inl 0) (M := m_X5_refuse) (av := [.inl 4]) cv_6_52 mk_X5_refuse (by omega) (b := 3) rfl rfl (Nat.le_of_ble_eq_true rfl) dX6_takeOne_56 (refuse_eq σ 4) ?_
            exact zR.zret rfl ⟨by decide, by decide⟩ dX6_takeOne_59 ⟨by unfold V_X6_takeOne; rw [if_neg c16, if_neg (Int.not_lt.mpr c23), if_pos c30, if_neg (Int.not_le.mpr c45), if_neg (Int.not_le.mpr c51)], by unfold F_X6_takeOne; rw [if_neg c16, if_neg (Int.not_lt.mpr c23), if_pos c30, if_neg (Int.not_le.mpr c45), if_neg (Int.not_le.mpr c51)]⟩
      · refine zRx.aload_n 1 rfl rfl dX6_takeOne_33 ?_
        refine zRx.iconst ⟨by decide, by decide⟩ dX6_takeOne_34 ?_
        refine zRx.cVi (w := .inl 0) (M := m_X5_refuse) (av := [.inl 1]) cv_6_52 mk_X5_refuse (by omega) (b := 3) rfl rfl (Nat.le_of_ble_eq_true rfl) dX6_takeOne_35 (refuse_eq σ 1) ?_
        exact zR.zret rfl ⟨by decide, by decide⟩ dX6_takeOne_38 ⟨by unfold V_X6_takeOne; rw [if_neg c16, if_neg (Int.not_lt.mpr c23), if_neg (Int.not_le.mpr c30)], by unfold F_X6_takeOne; rw [if_neg c16, if_neg (Int.not_lt.mpr c23), if_neg (Int.not_le.mpr c30)]⟩

theorem one_OK {O Cn : Int → zG → Int × zG} (hK : OK O) (hKc : OK Cn) : OK (fun dp σ => (V_X6_takeOne σ O Cn dp, F_X6_takeOne σ O Cn dp)) := by
  intro dp σ hI hS
  have z1 : CI (zu σ 48 0 (w32 ((σ 48 0) + 1))) := CI_zu ⟨fun h => absurd h.1 (by decide), fun h => absurd h.1 (by decide)⟩ hI
  have z2 : CS (zu σ 48 0 (w32 ((σ 48 0) + 1))) := CS_zu (by decide) hS
  have z3 : ∀ c : Nat, c ∉ [3, 48, 49, 50, 51] → zu σ 48 0 (w32 ((σ 48 0) + 1)) c = σ c := fun c hc => zu_row _ _ _ (fun e => hc (by simp [e]))
  have n1 := CI_F_X5_step z1
  have n2 := CS_F_X5_step z2
  have n3 : ∀ c : Nat, c ∉ [3, 48, 49, 50, 51] → F_X5_step (zu σ 48 0 (w32 ((σ 48 0) + 1))) c = σ c := fun c hc => (fr_F_X5_step _ (fun h => hc (by revert h; simp; intro h; simp [h]))).trans (z3 c hc)
  have o := hK (dp + 1) _ n1 n2
  have cn := hKc (dp + 1) _ n1 n2
  have o3 := fun c hc => (o.2.2 c hc).trans (n3 c hc)
  have cn3 := fun c hc => (cn.2.2 c hc).trans (n3 c hc)
  have zz : (0 : Int) ≤ 0 ∧ (0 : Int) ≤ 1 := by decide
  have oo : (0 : Int) ≤ 1 ∧ (1 : Int) ≤ 1 := by decide
  have f3 : ∀ (τ : zG) (x : Int) (c : Nat), c ∉ [3, 48, 49, 50, 51] → zu τ 3 7 x c = τ c := fun τ x c hc => zu_row _ _ _ (fun e => hc (by simp [e]))
  have fs : ∀ (τ : zG) (c : Nat), c ∉ [3, 48, 49, 50, 51] → F_X5_step τ c = τ c := fun τ c hc => fr_F_X5_step τ (fun h => hc (by revert h; simp; intro h; simp [h]))
  have fa : ∀ (τ : zG) (x y z : Int) (c : Nat), c ∉ [3, 48, 49, 50, 51] → F_X6_addStep τ x y z c = τ c := fun τ x y z c hc => fr_F_X6_addStep τ x y z (fun h => hc (by revert h; simp; omega))
  have fp : ∀ (τ : zG) (x : Int) (c : Nat), c ∉ [3, 48, 49, 50, 51] → F_X6_takePlain τ x c = τ c := fun τ x c hc => fr_F_X6_takePlain τ x hc
  dsimp only
  by_cases c1 : σ 3 4 = 4 ∧ σ 3 6 = 40
  · by_cases c2 : 20 ≤ (σ 48 0)
    · have eV : V_X6_takeOne σ O Cn dp = 0 := by unfold V_X6_takeOne; rw [if_pos c1, if_pos c2]
      have eF : F_X6_takeOne σ O Cn dp = zu σ 3 7 4 := by unfold F_X6_takeOne; rw [if_pos c1, if_pos c2]
      rw [eV, eF]
      exact ⟨⟨CI_zu (by decide) hI, CS_zu (by decide) hS⟩, zz, fun c hc => f3 _ _ c hc⟩
    · by_cases c3 : dp ≤ 8
      · by_cases c4 : ((Cn (dp + 1) (F_X5_step (zu σ 48 0 (w32 ((σ 48 0) + 1))))).1) = 0
        · have eV : V_X6_takeOne σ O Cn dp = 0 := by unfold V_X6_takeOne; rw [if_pos c1, if_neg c2, if_pos c3, if_pos c4]
          have eF : F_X6_takeOne σ O Cn dp = (Cn (dp + 1) (F_X5_step (zu σ 48 0 (w32 ((σ 48 0) + 1))))).2 := by unfold F_X6_takeOne; rw [if_pos c1, if_neg c2, if_pos c3, if_pos c4]
          rw [eV, eF]
          exact ⟨cn.1, zz, cn3⟩
        · by_cases c5 : ((Cn (dp + 1) (F_X5_step (zu σ 48 0 (w32 ((σ 48 0) + 1))))).2) 3 4 = 4 ∧ ((Cn (dp + 1) (F_X5_step (zu σ 48 0 (w32 ((σ 48 0) + 1))))).2) 3 6 = 41
          · have eV : V_X6_takeOne σ O Cn dp = 1 := by unfold V_X6_takeOne; rw [if_pos c1, if_neg c2, if_pos c3, if_neg c4, if_pos c5]
            have eF : F_X6_takeOne σ O Cn dp = F_X5_step ((Cn (dp + 1) (F_X5_step (zu σ 48 0 (w32 ((σ 48 0) + 1))))).2) := by unfold F_X6_takeOne; rw [if_pos c1, if_neg c2, if_pos c3, if_neg c4, if_pos c5]
            rw [eV, eF]
            exact ⟨⟨CI_F_X5_step cn.1.1, CS_F_X5_step cn.1.2⟩, oo, fun c hc => (fs _ c hc).trans (cn3 c hc)⟩
          · have eV : V_X6_takeOne σ O Cn dp = 0 := by unfold V_X6_takeOne; rw [if_pos c1, if_neg c2, if_pos c3, if_neg c4, if_neg c5]
            have eF : F_X6_takeOne σ O Cn dp = zu ((Cn (dp + 1) (F_X5_step (zu σ 48 0 (w32 ((σ 48 0) + 1))))).2) 3 7 1 := by unfold F_X6_takeOne; rw [if_pos c1, if_neg c2, if_pos c3, if_neg c4, if_neg c5]
            rw [eV, eF]
            exact ⟨⟨CI_zu (by decide) cn.1.1, CS_zu (by decide) cn.1.2⟩, zz, fun c hc => (f3 _ _ c hc).trans (cn3 c hc)⟩
      · have eV : V_X6_takeOne σ O Cn dp = 0 := by unfold V_X6_takeOne; rw [if_pos c1, if_neg c2, if_neg c3]
        have eF : F_X6_takeOne σ O Cn dp = zu σ 3 7 4 := by unfold F_X6_takeOne; rw [if_pos c1, if_neg c2, if_neg c3]
        rw [eV, eF]
        exact ⟨⟨CI_zu (by decide) hI, CS_zu (by decide) hS⟩, zz, fun c hc => f3 _ _ c hc⟩
  · by_cases c2 : (V_X5_keyword σ) < 18
    · have eV : V_X6_takeOne σ O Cn dp = 0 := by unfold V_X6_takeOne; rw [if_neg c1, if_pos c2]
      have eF : F_X6_takeOne σ O Cn dp = zu σ 3 7 1 := by unfold F_X6_takeOne; rw [if_neg c1, if_pos c2]
      rw [eV, eF]
      exact ⟨⟨CI_zu (by decide) hI, CS_zu (by decide) hS⟩, zz, fun c hc => f3 _ _ c hc⟩
    · by_cases c3 : (V_X5_keyword σ) ≤ 25
      · by_cases c4 : 20 ≤ (σ 48 0)
        · have eV : V_X6_takeOne σ O Cn dp = 0 := by unfold V_X6_takeOne; rw [if_neg c1, if_neg c2, if_pos c3, if_pos c4]
          have eF : F_X6_takeOne σ O Cn dp = zu σ 3 7 4 := by unfold F_X6_takeOne; rw [if_neg c1, if_neg c2, if_pos c3, if_pos c4]
          rw [eV, eF]
          exact ⟨⟨CI_zu (by decide) hI, CS_zu (by decide) hS⟩, zz, fun c hc => f3 _ _ c hc⟩
        · by_cases c5 : dp ≤ 8
          · by_cases c6 : (V_X5_keyword σ) = 18
            · by_cases c7 : ((O (dp + 1) (F_X5_step (zu σ 48 0 (w32 ((σ 48 0) + 1))))).1) = 0
              · have eV : V_X6_takeOne σ O Cn dp = 0 := by unfold V_X6_takeOne; rw [if_neg c1, if_neg c2, if_pos c3, if_neg c4, if_pos c5, if_pos c6, if_pos c7]
                have eF : F_X6_takeOne σ O Cn dp = (O (dp + 1) (F_X5_step (zu σ 48 0 (w32 ((σ 48 0) + 1))))).2 := by unfold F_X6_takeOne; rw [if_neg c1, if_neg c2, if_pos c3, if_neg c4, if_pos c5, if_pos c6, if_pos c7]
                rw [eV, eF]
                exact ⟨o.1, zz, o3⟩
              · have eV : V_X6_takeOne σ O Cn dp = 1 := by unfold V_X6_takeOne; rw [if_neg c1, if_neg c2, if_pos c3, if_neg c4, if_pos c5, if_pos c6, if_neg c7]
                have eF : F_X6_takeOne σ O Cn dp = F_X6_addStep ((O (dp + 1) (F_X5_step (zu σ 48 0 (w32 ((σ 48 0) + 1))))).2) 18 0 0 := by unfold F_X6_takeOne; rw [if_neg c1, if_neg c2, if_pos c3, if_neg c4, if_pos c5, if_pos c6, if_neg c7]
                rw [eV, eF]
                exact ⟨⟨CI_F_X6_addStep o.1.1, CS_F_X6_addStep o.1.2⟩, oo, fun c hc => (fa _ _ _ _ c hc).trans (o3 c hc)⟩
            · have eV : V_X6_takeOne σ O Cn dp = V_X6_takePlain (zu σ 48 0 (w32 ((σ 48 0) + 1))) (V_X5_keyword σ) := by unfold V_X6_takeOne; rw [if_neg c1, if_neg c2, if_pos c3, if_neg c4, if_pos c5, if_neg c6]
              have eF : F_X6_takeOne σ O Cn dp = F_X6_takePlain (zu σ 48 0 (w32 ((σ 48 0) + 1))) (V_X5_keyword σ) := by unfold F_X6_takeOne; rw [if_neg c1, if_neg c2, if_pos c3, if_neg c4, if_pos c5, if_neg c6]
              rw [eV, eF]
              exact ⟨⟨CI_F_X6_takePlain z1, CS_F_X6_takePlain z2⟩, v01_X6_takePlain _ _, fun c hc => (fp _ _ c hc).trans (z3 c hc)⟩
          · have eV : V_X6_takeOne σ O Cn dp = 0 := by unfold V_X6_takeOne; rw [if_neg c1, if_neg c2, if_pos c3, if_neg c4, if_neg c5]
            have eF : F_X6_takeOne σ O Cn dp = zu σ 3 7 4 := by unfold F_X6_takeOne; rw [if_neg c1, if_neg c2, if_pos c3, if_neg c4, if_neg c5]
            rw [eV, eF]
            exact ⟨⟨CI_zu (by decide) hI, CS_zu (by decide) hS⟩, zz, fun c hc => f3 _ _ c hc⟩
      · have eV : V_X6_takeOne σ O Cn dp = 0 := by unfold V_X6_takeOne; rw [if_neg c1, if_neg c2, if_neg c3]
        have eF : F_X6_takeOne σ O Cn dp = zu σ 3 7 1 := by unfold F_X6_takeOne; rw [if_neg c1, if_neg c2, if_neg c3]
        rw [eV, eF]
        exact ⟨⟨CI_zu (by decide) hI, CS_zu (by decide) hS⟩, zz, fun c hc => f3 _ _ c hc⟩

def tO : Nat → Int → zG → Int × zG
  | 0, _, σ => (V_X6_takeOne0, F_X6_takeOne0 σ)
  | k + 1, dp, σ => (V_X6_takeOne σ (tO k) (fun dp σ => R_X6_takeCond σ (fun dp σ => R_X6_takeAll σ (tO k) dp) dp) dp, F_X6_takeOne σ (tO k) (fun dp σ => R_X6_takeCond σ (fun dp σ => R_X6_takeAll σ (tO k) dp) dp) dp)
def tA (k : Nat) : Int → zG → Int × zG := fun dp σ => R_X6_takeAll σ (tO k) dp
def tC (k : Nat) : Int → zG → Int × zG := fun dp σ => R_X6_takeCond σ (tA k) dp
theorem tO_s (k : Nat) (dp : Int) (σ : zG) : tO (k + 1) dp σ = (V_X6_takeOne σ (tO k) (tC k) dp, F_X6_takeOne σ (tO k) (tC k) dp) := rfl
theorem one0_OK : OK (tO 0) := by
  intro dp σ hI hS
  show (CI (F_X6_takeOne0 σ) ∧ CS (F_X6_takeOne0 σ)) ∧ ((0 : Int) ≤ 0 ∧ (0 : Int) ≤ 1) ∧ ∀ c : Nat, c ∉ [3, 48, 49, 50, 51] → F_X6_takeOne0 σ c = σ c
  have f3 : ∀ (τ : zG) (x : Int) (c : Nat), c ∉ [3, 48, 49, 50, 51] → zu τ 3 7 x c = τ c := fun τ x c hc => zu_row _ _ _ (fun e => hc (by simp [e]))
  unfold F_X6_takeOne0
  repeat' split
  all_goals exact ⟨⟨CI_zu (by decide) hI, CS_zu (by decide) hS⟩, by decide, fun c hc => f3 _ _ c hc⟩
theorem tO_OK : ∀ k : Nat, OK (tO k)
  | 0 => one0_OK
  | k + 1 => one_OK (tO_OK k) (takeCond_K (takeAll_K (tO_OK k)))
theorem tA_OK (k : Nat) : OK (tA k) := takeAll_K (tO_OK k)
theorem tC_OK (k : Nat) : OK (tC k) := takeCond_K (tA_OK k)
theorem tO_does : ∀ k : Nat, DOf m_X6_takeOne (4 + 3 * k) k (tO k)
  | 0 => fun σ dp hd _ hI hS => by
    have e : dp = 9 := by omega
    subst e
    exact does_X6_takeOne0 σ hI hS
  | k + 1 => fun σ dp hd hd1 hI hS => by
    have hA : DOf m_X6_takeAll (5 + 3 * k) k (tA k) := fun σ dp hd hd1 hI hS => does_X6_takeAll σ (tO k) dp k (tO_does k) (tO_OK k) hd hd1 hI hS
    have hC : DOf m_X6_takeCond (6 + 3 * k) k (tC k) := fun σ dp hd hd1 hI hS => does_X6_takeCond σ (tA k) dp k hA (tA_OK k) hd hd1 hI hS
    exact does_X6_takeOne σ (tO k) (tC k) dp k (tO_does k) hC (tO_OK k) (tC_OK k) hd hd1 hI hS
theorem tA_does (k : Nat) : DOf m_X6_takeAll (5 + 3 * k) k (tA k) := fun σ dp hd hd1 hI hS => does_X6_takeAll σ (tO k) dp k (tO_does k) (tO_OK k) hd hd1 hI hS
theorem tC_does (k : Nat) : DOf m_X6_takeCond (6 + 3 * k) k (tC k) := fun σ dp hd hd1 hI hS => does_X6_takeCond σ (tA k) dp k (tA_does k) (tA_OK k) hd hd1 hI hS
theorem fr_tC8 (σ : zG) (hI : CI σ) (hS : CS σ) {k : Nat} (h : k ∉ [3, 48, 49, 50, 51]) : (tC 8 1 σ).2 k = σ k := (tC_OK 8 1 σ hI hS).2.2 k h
theorem CI_F_X6_clear_48 {σ : zG} (h : CI σ) : CI (F_X6_clear_48 σ) := CI_row (fr_F_X6_clear_48 σ (by decide)) (fr_F_X6_clear_48 σ (by decide)) h
theorem CS_clear {σ : zG} : CS (F_X6_clear_48 σ) := by
  unfold CS F_X6_clear_48
  rw [zu_at]
  decide

def V_X6_take (σ : zG)  : Int := if ((tC 8 1 (F_X5_step (F_X6_clear_48 σ))).1) = 0 then 0 else (if (((tC 8 1 (F_X5_step (F_X6_clear_48 σ))).2) 3 4) = 0 then 1 else 0)
def F_X6_take (σ : zG)  : zG := if ((tC 8 1 (F_X5_step (F_X6_clear_48 σ))).1) = 0 then ((tC 8 1 (F_X5_step (F_X6_clear_48 σ))).2) else (if (((tC 8 1 (F_X5_step (F_X6_clear_48 σ))).2) 3 4) = 0 then ((tC 8 1 (F_X5_step (F_X6_clear_48 σ))).2) else (zu ((tC 8 1 (F_X5_step (F_X6_clear_48 σ))).2) 3 7 1))
set_option maxRecDepth 20000 in
theorem does_X6_take (σ : zG)  (hI : CI σ) : zDo SC 40 m_X6_take [zP 48, zP 3, zP 5] σ (zEq (some (.inl (V_X6_take σ ))) (F_X6_take σ )) := by
  refine zDo.intro mk_X6_take (Nat.le_of_ble_eq_true rfl) ?_
  refine zRx.aload_n 0 rfl rfl dX6_take_0 ?_
  refine zRx.cVv (M := m_X6_clear) (av := []) cv_6_37 mk_X6_clear (by decide) (b := 48) rfl rfl (Nat.le_of_ble_eq_true rfl) dX6_take_1 (does_X6_clear_48 σ) ?_
  refine zRx.aload_n 1 rfl rfl dX6_take_4 ?_
  refine zRx.cVv (M := m_X5_step) (av := []) cv_6_40 mk_X5_step (by decide) (b := 3) rfl rfl (Nat.le_of_ble_eq_true rfl) dX6_take_5 (does_step2 (F_X6_clear_48 σ) (CI_F_X6_clear_48 hI)) ?_
  refine zRx.aload_n 0 rfl rfl dX6_take_8 ?_
  refine zRx.aload_n 1 rfl rfl dX6_take_9 ?_
  refine zRx.aload_n 2 rfl rfl dX6_take_10 ?_
  refine zRx.iconst ⟨by decide, by decide⟩ dX6_take_11 ?_
  refine zRx.cVi (w := .inl ((tC 8 1 (F_X5_step (F_X6_clear_48 σ))).1)) (M := m_X6_takeCond) (av := [zP 3, zP 5, .inl 1]) cv_6_45 mk_X6_takeCond (by decide) (b := 48) rfl rfl (Nat.le_of_ble_eq_true rfl) dX6_take_12 (tC_does 8 (F_X5_step (F_X6_clear_48 σ)) 1 (by decide) (by decide) (CI_F_X5_step (CI_F_X6_clear_48 hI)) (CS_F_X5_step CS_clear)) ?_
  refine zRx.if_ne (tgt := 20) dX6_take_15 (by decide) (fun c15 => ?_) (fun c15 => ?_)
  · refine zRx.aload_n 1 rfl rfl dX6_take_20 ?_
    refine zRx.getIv (a := 3) (ji := 4) (v := ((tC 8 1 (F_X5_step (F_X6_clear_48 σ))).2) 3 4) rfl fl_6_49 rfl rfl rfl dX6_take_21 ?_
    refine zRx.if_eq (tgt := 35) dX6_take_24 (by decide) (fun c24 => ?_) (fun c24 => ?_)
    · refine zRx.iconst ⟨by decide, by decide⟩ dX6_take_35 ?_
      refine zRx.goto (tgt := 40) dX6_take_36 (by decide) ?_
      exact zR.zret rfl ⟨by decide, by decide⟩ dX6_take_40 ⟨by unfold V_X6_take; rw [if_neg c15, if_pos c24], by unfold F_X6_take; rw [if_neg c15, if_pos c24]⟩
    · refine zRx.aload_n 1 rfl rfl dX6_take_27 ?_
      refine zRx.iconst ⟨by decide, by decide⟩ dX6_take_28 ?_
      refine zRx.cVi (w := .inl 0) (M := m_X5_refuse) (av := [.inl 1]) cv_6_52 mk_X5_refuse (by decide) (b := 3) rfl rfl (Nat.le_of_ble_eq_true rfl) dX6_take_29 (refuse_eq ((tC 8 1 (F_X5_step (F_X6_clear_48 σ))).2) 1) ?_
      refine zRx.if_eq (tgt := 39) dX6_take_32 (by decide) (fun _ => ?_) (fun c32 => absurd c32 (by decide))
      refine zRx.iconst ⟨by decide, by decide⟩ dX6_take_39 ?_
      exact zR.zret rfl ⟨by decide, by decide⟩ dX6_take_40 ⟨by unfold V_X6_take; rw [if_neg c15, if_neg c24], by unfold F_X6_take; rw [if_neg c15, if_neg c24]⟩
  · refine zRx.iconst ⟨by decide, by decide⟩ dX6_take_18 ?_
    exact zR.zret rfl ⟨by decide, by decide⟩ dX6_take_19 ⟨by unfold V_X6_take; rw [if_pos c15], by unfold F_X6_take; rw [if_pos c15]⟩

theorem fr_F_X6_take (σ : zG) (hI : CI σ) {k : Nat} (h : k ∉ [3, 48, 49, 50, 51]) : F_X6_take σ k = σ k := by
  have e : (tC 8 1 (F_X5_step (F_X6_clear_48 σ))).2 k = σ k := (fr_tC8 _ (CI_F_X5_step (CI_F_X6_clear_48 hI)) (CS_F_X5_step CS_clear) h).trans ((fr_F_X5_step _ (fun q => h (by revert q; simp; intro q; simp [q]))).trans (fr_F_X6_clear_48 _ (fun q => h (by revert q; simp; intro q; simp [q]))))
  unfold F_X6_take
  repeat' split
  all_goals first | exact e | exact (zu_row _ _ _ (fun q => h (by simp [q]))).trans e

