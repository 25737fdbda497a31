/-! the class: its face -/
def F_X11_noteReading (σ : zG)  : zG := zu (zu σ 0 16 (σ 3 7)) 1 1 0
theorem fr_F_X11_noteReading (σ : zG)  {k : Nat} (h : k ∉ [0, 1]) : (F_X11_noteReading σ ) k = σ k := by
  have ne : ∀ c ∈ [0, 1], k ≠ c := fun c hc e => h (e ▸ hc)
  unfold F_X11_noteReading
  repeat' split
  all_goals first | rfl | simp only [zu_row _ _ _ (ne 0 (by decide)), zu_row _ _ _ (ne 1 (by decide))]

set_option maxRecDepth 20000 in
theorem does_X11_noteReading (σ : zG)   : zDo SC 0 m_X11_noteReading [zP 0] σ (zEq (none) (F_X11_noteReading σ )) := by
  refine zDo.intro mk_X11_noteReading (Nat.le_of_ble_eq_true rfl) ?_
  refine zRx.aload_n 0 rfl rfl dX11_noteReading_0 ?_
  refine zRx.aload_n 0 rfl rfl dX11_noteReading_1 ?_
  refine zRx.getR (a := 0) (b := 3) fl_11_21 rfl rfl dX11_noteReading_2 ?_
  refine zRx.getIv (a := 3) (ji := 7) (v := σ 3 7) rfl fl_11_379 rfl rfl rfl dX11_noteReading_5 ?_
  refine zRx.putI (a := 0) (ji := 16) pl_11_106 rfl rfl rfl dX11_noteReading_8 ?_
  refine zRx.aload_n 0 rfl rfl dX11_noteReading_11 ?_
  refine zRx.getR (a := 0) (b := 1) fl_11_12 rfl rfl dX11_noteReading_12 ?_
  refine zRx.iconst ⟨by decide, by decide⟩ dX11_noteReading_15 ?_
  refine zRx.putI (a := 1) (ji := 1) pl_11_110 rfl rfl rfl dX11_noteReading_16 ?_
  exact zR.ret rfl dX11_noteReading_19 ⟨rfl, rfl⟩

def V_X11_refusedAt (σ : zG)  : Int := w32 ((-1) - (σ 3 5))
set_option maxRecDepth 20000 in
theorem does_X11_refusedAt (σ : zG)   : zDo SC 0 m_X11_refusedAt [zP 0] σ (zEq (some (.inl (V_X11_refusedAt σ ))) σ) := by
  refine zDo.intro mk_X11_refusedAt (Nat.le_of_ble_eq_true rfl) ?_
  refine zRx.iconst ⟨by decide, by decide⟩ dX11_refusedAt_0 ?_
  refine zRx.aload_n 0 rfl rfl dX11_refusedAt_1 ?_
  refine zRx.getR (a := 0) (b := 3) fl_11_21 rfl rfl dX11_refusedAt_2 ?_
  refine zRx.getIv (a := 3) (ji := 5) (v := σ 3 5) rfl fl_11_382 rfl rfl rfl dX11_refusedAt_5 ?_
  refine zRx.isubW dX11_refusedAt_8 ?_
  exact zR.iret rfl dX11_refusedAt_9 ⟨rfl, rfl⟩

def F_X11_judgeAnew (σ : zG)  : zG := zu (R_X4_judge σ (-1)) 81 0 0
theorem fr_F_X11_judgeAnew (σ : zG)  {k : Nat} (h : k ∉ [53, 54, 55, 56, 57, 58, 59, 60, 61, 62, 63, 64, 65, 66, 81]) : (F_X11_judgeAnew σ ) k = σ k := by
  have ne : ∀ c ∈ [53, 54, 55, 56, 57, 58, 59, 60, 61, 62, 63, 64, 65, 66, 81], k ≠ c := fun c hc e => h (e ▸ hc)
  have nk_R_X4_judge : k ∉ [53, 54, 55, 56, 57, 58, 59, 60, 61, 62, 63, 64, 65, 66] := fun hm => h (by first | (revert hm; simp only [List.mem_cons, List.not_mem_nil, or_false]; omega) | (simp at hm))
  unfold F_X11_judgeAnew
  repeat' split
  all_goals first | rfl | simp only [zu_row _ _ _ (ne 53 (by decide)), zu_row _ _ _ (ne 54 (by decide)), zu_row _ _ _ (ne 55 (by decide)), zu_row _ _ _ (ne 56 (by decide)), zu_row _ _ _ (ne 57 (by decide)), zu_row _ _ _ (ne 58 (by decide)), zu_row _ _ _ (ne 59 (by decide)), zu_row _ _ _ (ne 60 (by decide)), zu_row _ _ _ (ne 61 (by decide)), zu_row _ _ _ (ne 62 (by decide)), zu_row _ _ _ (ne 63 (by decide)), zu_row _ _ _ (ne 64 (by decide)), zu_row _ _ _ (ne 65 (by decide)), zu_row _ _ _ (ne 66 (by decide)), zu_row _ _ _ (ne 81 (by decide)), fr_R_X4_judge (h := nk_R_X4_judge)]

set_option maxRecDepth 20000 in
theorem does_X11_judgeAnew (σ : zG)  (hW : WC σ) : zDo SC 6 m_X11_judgeAnew [zP 0] σ (zEq (none) (F_X11_judgeAnew σ )) := by
  refine zDo.intro mk_X11_judgeAnew (Nat.le_of_ble_eq_true rfl) ?_
  refine zRx.aload_n 0 rfl rfl dX11_judgeAnew_0 ?_
  refine zRx.getR (a := 0) (b := 53) fl_11_60 rfl rfl dX11_judgeAnew_1 ?_
  refine zRx.iconst ⟨by decide, by decide⟩ dX11_judgeAnew_4 ?_
  refine zRx.cVv (M := m_X4_judge) (av := [.inl (-1)]) cv_11_330 mk_X4_judge (by decide) (b := 53) rfl rfl (Nat.le_of_ble_eq_true rfl) dX11_judgeAnew_5 (does_X4_judge σ (-1) hW) ?_
  refine zRx.aload_n 0 rfl rfl dX11_judgeAnew_8 ?_
  refine zRx.getR (a := 0) (b := 81) fl_11_70 rfl rfl dX11_judgeAnew_9 ?_
  refine zRx.iconst ⟨by decide, by decide⟩ dX11_judgeAnew_12 ?_
  refine zRx.putZ (a := 81) (ji := 0) pl_11_385 rfl rfl rfl ⟨by decide, by decide⟩ dX11_judgeAnew_13 ?_
  exact zR.ret rfl dX11_judgeAnew_16 ⟨rfl, rfl⟩

def V_X11_knows (σ : zG) (who i : Int) : Int := if 0 ≤ who ∧ who < (σ 5 0) then (if i = 0 then (R_X9_follow σ (σ 7 who)) else (if i = 1 then (σ 54 who) else (-1))) else (-1)
set_option maxRecDepth 20000 in
theorem does_X11_knows (σ : zG) (who i : Int) (hp : σ 5 0 ≤ 8) (hs : σ 5 2 ≤ 8) : zDo SC 1 m_X11_knows [zP 0, .inl who, .inl i] σ (zEq (some (.inl (V_X11_knows σ who i))) σ) := by
  refine zDo.intro mk_X11_knows (Nat.le_of_ble_eq_true rfl) ?_
  refine zRx.aload_n 0 rfl rfl dX11_knows_0 ?_
  refine zRx.getR (a := 0) (b := 5) fl_11_28 rfl rfl dX11_knows_1 ?_
  refine zRx.iload_n 1 rfl rfl dX11_knows_4 ?_
  refine zRx.cVi (w := .inl (b2 (0 ≤ who ∧ who < (σ 5 0)))) (M := m_X9_hasWho) (av := [.inl who]) cv_11_158 mk_X9_hasWho (by decide) (b := 5) rfl rfl (Nat.le_of_ble_eq_true rfl) dX11_knows_5 (hasWho2 σ who (σ 5 0) rfl) ?_
  refine zRx.if_neB (tgt := 13) dX11_knows_8 (by decide) (fun c8 => ?_) (fun c8 => ?_)
  · refine zRx.iload_n 2 rfl rfl dX11_knows_13 ?_
    by_cases c14_0 : i = 0
    · refine zRx.topI (b := 0) c14_0 ?_
      refine zRx.lookup (tgt := 40) dX11_knows_14 rfl rfl (by decide) ?_
      refine zRx.aload_n 0 rfl rfl dX11_knows_40 ?_
      refine zRx.getR (a := 0) (b := 5) fl_11_28 rfl rfl dX11_knows_41 ?_
      refine zRx.aload_n 0 rfl rfl dX11_knows_44 ?_
      refine zRx.getR (a := 0) (b := 5) fl_11_28 rfl rfl dX11_knows_45 ?_
      refine zRx.getR (a := 5) (b := 7) fl_11_161 rfl rfl dX11_knows_48 ?_
      refine zRx.iload_n 1 rfl rfl dX11_knows_51 ?_
      refine zRx.ialdv (v := σ 7 who) rfl rfl (by omega) (by omega) dX11_knows_52 ?_
      refine zRx.cVi (w := .inl (R_X9_follow σ (σ 7 who))) (M := m_X9_follow) (av := [.inl (σ 7 who)]) cv_11_164 mk_X9_follow (by decide) (b := 5) rfl rfl (Nat.le_of_ble_eq_true rfl) dX11_knows_53 (does_X9_follow σ (σ 7 who) (by omega)) ?_
      exact zR.iret rfl dX11_knows_56 ⟨by unfold V_X11_knows; rw [if_pos c8, if_pos c14_0], rfl⟩
    by_cases c14_1 : i = 1
    · refine zRx.topI (b := 1) c14_1 ?_
      refine zRx.lookup (tgt := 57) dX11_knows_14 rfl rfl (by decide) ?_
      refine zRx.aload_n 0 rfl rfl dX11_knows_57 ?_
      refine zRx.getR (a := 0) (b := 53) fl_11_60 rfl rfl dX11_knows_58 ?_
      refine zRx.getR (a := 53) (b := 54) fl_11_168 rfl rfl dX11_knows_61 ?_
      refine zRx.iload_n 1 rfl rfl dX11_knows_64 ?_
      refine zRx.ialdv (v := σ 54 who) rfl rfl (by omega) (by omega) dX11_knows_65 ?_
      exact zR.iret rfl dX11_knows_66 ⟨by unfold V_X11_knows; rw [if_pos c8, if_neg c14_0, if_pos c14_1], rfl⟩
    refine zRx.lookup (tgt := 67) (off := 53) dX11_knows_14 rfl (by simp [Op.lookupswitch.offset, (show ¬ 0 = i from fun h => c14_0 h.symm), (show ¬ 1 = i from fun h => c14_1 h.symm)]) (by decide) ?_
    refine zRx.iconst ⟨by decide, by decide⟩ dX11_knows_67 ?_
    exact zR.iret rfl dX11_knows_68 ⟨by unfold V_X11_knows; rw [if_pos c8, if_neg c14_0, if_neg c14_1], rfl⟩
  · refine zRx.iconst ⟨by decide, by decide⟩ dX11_knows_11 ?_
    exact zR.iret rfl dX11_knows_12 ⟨by unfold V_X11_knows; rw [if_neg c8], rfl⟩

def V_X11_wrong (σ : zG) (i : Int) : Int := if 0 ≤ i ∧ i < (σ 27 0) then (σ 58 i) else (-1)
set_option maxRecDepth 20000 in
theorem does_X11_wrong (σ : zG) (i : Int) (hL : σ 27 0 ≤ 60) : zDo SC 1 m_X11_wrong [zP 0, .inl i] σ (zEq (some (.inl (V_X11_wrong σ i))) σ) := by
  refine zDo.intro mk_X11_wrong (Nat.le_of_ble_eq_true rfl) ?_
  refine zRx.aload_n 0 rfl rfl dX11_wrong_0 ?_
  refine zRx.getR (a := 0) (b := 27) fl_11_38 rfl rfl dX11_wrong_1 ?_
  refine zRx.iload_n 1 rfl rfl dX11_wrong_4 ?_
  refine zRx.cVi (w := .inl (b2 (0 ≤ i ∧ i < (σ 27 0)))) (M := m_X0_hasLine) (av := [.inl i]) cv_11_193 mk_X0_hasLine (by decide) (b := 27) rfl rfl (Nat.le_of_ble_eq_true rfl) dX11_wrong_5 (hasLine2 σ i (σ 27 0) rfl) ?_
  refine zRx.if_eqB (tgt := 23) dX11_wrong_8 (by decide) (fun c8 => ?_) (fun c8 => ?_)
  · refine zRx.iconst ⟨by decide, by decide⟩ dX11_wrong_23 ?_
    exact zR.iret rfl dX11_wrong_24 ⟨by unfold V_X11_wrong; rw [if_neg c8], rfl⟩
  · refine zRx.aload_n 0 rfl rfl dX11_wrong_11 ?_
    refine zRx.getR (a := 0) (b := 53) fl_11_60 rfl rfl dX11_wrong_12 ?_
    refine zRx.getR (a := 53) (b := 58) fl_11_209 rfl rfl dX11_wrong_15 ?_
    refine zRx.iload_n 1 rfl rfl dX11_wrong_18 ?_
    refine zRx.ialdv (v := σ 58 i) rfl rfl (by omega) (by omega) dX11_wrong_19 ?_
    refine zRx.goto (tgt := 24) dX11_wrong_20 (by decide) ?_
    exact zR.iret rfl dX11_wrong_24 ⟨by unfold V_X11_wrong; rw [if_pos c8], rfl⟩

def V_X11_debts (σ : zG)  : Int := σ 53 8
set_option maxRecDepth 20000 in
theorem does_X11_debts (σ : zG)   : zDo SC 0 m_X11_debts [zP 0] σ (zEq (some (.inl (V_X11_debts σ ))) σ) := by
  refine zDo.intro mk_X11_debts (Nat.le_of_ble_eq_true rfl) ?_
  refine zRx.aload_n 0 rfl rfl dX11_debts_0 ?_
  refine zRx.getR (a := 0) (b := 53) fl_11_60 rfl rfl dX11_debts_1 ?_
  refine zRx.getIv (a := 53) (ji := 8) (v := σ 53 8) rfl fl_11_212 rfl rfl rfl dX11_debts_4 ?_
  exact zR.iret rfl dX11_debts_7 ⟨rfl, rfl⟩

def V_X11_worth (σ : zG) (who f : Int) : Int := if 0 ≤ who ∧ who < (σ 5 0) then (if 0 ≤ f ∧ f < (σ 5 1) then (if hb (σ 54 who) f then (V_X4_valueFor σ who f) else (-1)) else (-1)) else (-1)
set_option maxRecDepth 20000 in
theorem does_X11_worth (σ : zG) (who f : Int) (hp : σ 5 0 ≤ 8) (hF : σ 5 1 ≤ 12) : zDo SC 2 m_X11_worth [zP 0, .inl who, .inl f] σ (zEq (some (.inl (V_X11_worth σ who f))) σ) := by
  refine zDo.intro mk_X11_worth (Nat.le_of_ble_eq_true rfl) ?_
  refine zRx.aload_n 0 rfl rfl dX11_worth_0 ?_
  refine zRx.getR (a := 0) (b := 5) fl_11_28 rfl rfl dX11_worth_1 ?_
  refine zRx.iload_n 1 rfl rfl dX11_worth_4 ?_
  refine zRx.cVi (w := .inl (b2 (0 ≤ who ∧ who < (σ 5 0)))) (M := m_X9_hasWho) (av := [.inl who]) cv_11_158 mk_X9_hasWho (by decide) (b := 5) rfl rfl (Nat.le_of_ble_eq_true rfl) dX11_worth_5 (hasWho2 σ who (σ 5 0) rfl) ?_
  refine zRx.if_eqB (tgt := 34) dX11_worth_8 (by decide) (fun c8 => ?_) (fun c8 => ?_)
  · refine zRx.iconst ⟨by decide, by decide⟩ dX11_worth_34 ?_
    exact zR.iret rfl dX11_worth_35 ⟨by unfold V_X11_worth; rw [if_neg c8], rfl⟩
  · refine zRx.aload_n 0 rfl rfl dX11_worth_11 ?_
    refine zRx.getR (a := 0) (b := 5) fl_11_28 rfl rfl dX11_worth_12 ?_
    refine zRx.iload_n 2 rfl rfl dX11_worth_15 ?_
    refine zRx.cVi (w := .inl (b2 (0 ≤ f ∧ f < (σ 5 1)))) (M := m_X9_hasFact) (av := [.inl f]) cv_11_142 mk_X9_hasFact (by decide) (b := 5) rfl rfl (Nat.le_of_ble_eq_true rfl) dX11_worth_16 (hasFact2 σ f (σ 5 1) rfl) ?_
    refine zRx.if_eqB (tgt := 34) dX11_worth_19 (by decide) (fun c19 => ?_) (fun c19 => ?_)
    · refine zRx.iconst ⟨by decide, by decide⟩ dX11_worth_34 ?_
      exact zR.iret rfl dX11_worth_35 ⟨by unfold V_X11_worth; rw [if_pos c8, if_neg c19], rfl⟩
    · refine zRx.aload_n 0 rfl rfl dX11_worth_22 ?_
      refine zRx.getR (a := 0) (b := 53) fl_11_60 rfl rfl dX11_worth_23 ?_
      refine zRx.iload_n 1 rfl rfl dX11_worth_26 ?_
      refine zRx.iload_n 2 rfl rfl dX11_worth_27 ?_
      refine zRx.cVi (w := .inl (b2 (hb (σ 54 who) f))) (M := m_X4_isKnown) (av := [.inl who, .inl f]) cv_11_240 mk_X4_isKnown (by decide) (b := 53) rfl rfl (Nat.le_of_ble_eq_true rfl) dX11_worth_28 (does_X4_isKnown σ who f (by omega)) ?_
      refine zRx.if_neB (tgt := 36) dX11_worth_31 (by decide) (fun c31 => ?_) (fun c31 => ?_)
      · refine zRx.aload_n 0 rfl rfl dX11_worth_36 ?_
        refine zRx.getR (a := 0) (b := 53) fl_11_60 rfl rfl dX11_worth_37 ?_
        refine zRx.iload_n 1 rfl rfl dX11_worth_40 ?_
        refine zRx.iload_n 2 rfl rfl dX11_worth_41 ?_
        refine zRx.cVi (w := .inl (V_X4_valueFor σ who f)) (M := m_X4_valueFor) (av := [.inl who, .inl f]) cv_11_244 mk_X4_valueFor (by decide) (b := 53) rfl rfl (Nat.le_of_ble_eq_true rfl) dX11_worth_42 (does_X4_valueFor σ who f (by omega) (by omega)) ?_
        exact zR.iret rfl dX11_worth_45 ⟨by unfold V_X11_worth; rw [if_pos c8, if_pos c19, if_pos c31], rfl⟩
      · refine zRx.iconst ⟨by decide, by decide⟩ dX11_worth_34 ?_
        exact zR.iret rfl dX11_worth_35 ⟨by unfold V_X11_worth; rw [if_pos c8, if_pos c19, if_neg c31], rfl⟩

def V_X11_autumn (σ : zG) (i : Int) : Int := if i = 0 then (R_X4_sumInAll σ i) else (if i = 1 then (R_X4_sumInAll σ i) else (if i = 2 then (R_X4_sumInAll σ i) else (if i = 3 then (R_X4_sumInAll σ i) else (if i = 4 then (R_X4_hurtInAll σ) else (if i = 5 then (R_X4_howManyWrong σ) else (if i = 6 then (σ 27 1) else (-1)))))))
set_option maxRecDepth 20000 in
theorem does_X11_autumn (σ : zG) (i : Int) (hp : σ 5 0 ≤ 8) (hm : σ 53 8 ≤ 128) (hL : σ 27 0 ≤ 60) (hD : WD σ) : zDo SC 3 m_X11_autumn [zP 0, .inl i] σ (zEq (some (.inl (V_X11_autumn σ i))) σ) := by
  refine zDo.intro mk_X11_autumn (Nat.le_of_ble_eq_true rfl) ?_
  refine zRx.iload_n 1 rfl rfl dX11_autumn_0 ?_
  by_cases c1_0 : i = 0
  · refine zRx.topI (b := 0) c1_0 ?_
    refine zRx.tableIn (tgt := 44) dX11_autumn_1 (by decide) (by decide) rfl (by decide) ?_
    refine zRx.aload_n 0 rfl rfl dX11_autumn_44 ?_
    refine zRx.getR (a := 0) (b := 53) fl_11_60 rfl rfl dX11_autumn_45 ?_
    refine zRx.iload_n 1 rfl rfl dX11_autumn_48 ?_
    refine zRx.cVi (w := .inl (R_X4_sumInAll σ i)) (M := m_X4_sumInAll) (av := [.inl i]) cv_11_251 mk_X4_sumInAll (by decide) (b := 53) rfl rfl (Nat.le_of_ble_eq_true rfl) dX11_autumn_49 (does_X4_sumInAll σ i hm hL hD) ?_
    exact zR.iret rfl dX11_autumn_52 ⟨by unfold V_X11_autumn; rw [if_pos c1_0], rfl⟩
  by_cases c1_1 : i = 1
  · refine zRx.topI (b := 1) c1_1 ?_
    refine zRx.tableIn (tgt := 44) dX11_autumn_1 (by decide) (by decide) rfl (by decide) ?_
    refine zRx.aload_n 0 rfl rfl dX11_autumn_44 ?_
    refine zRx.getR (a := 0) (b := 53) fl_11_60 rfl rfl dX11_autumn_45 ?_
    refine zRx.iload_n 1 rfl rfl dX11_autumn_48 ?_
    refine zRx.cVi (w := .inl (R_X4_sumInAll σ i)) (M := m_X4_sumInAll) (av := [.inl i]) cv_11_251 mk_X4_sumInAll (by decide) (b := 53) rfl rfl (Nat.le_of_ble_eq_true rfl) dX11_autumn_49 (does_X4_sumInAll σ i hm hL hD) ?_
    exact zR.iret rfl dX11_autumn_52 ⟨by unfold V_X11_autumn; rw [if_neg c1_0, if_pos c1_1], rfl⟩
  by_cases c1_2 : i = 2
  · refine zRx.topI (b := 2) c1_2 ?_
    refine zRx.tableIn (tgt := 44) dX11_autumn_1 (by decide) (by decide) rfl (by decide) ?_
    refine zRx.aload_n 0 rfl rfl dX11_autumn_44 ?_
    refine zRx.getR (a := 0) (b := 53) fl_11_60 rfl rfl dX11_autumn_45 ?_
    refine zRx.iload_n 1 rfl rfl dX11_autumn_48 ?_
    refine zRx.cVi (w := .inl (R_X4_sumInAll σ i)) (M := m_X4_sumInAll) (av := [.inl i]) cv_11_251 mk_X4_sumInAll (by decide) (b := 53) rfl rfl (Nat.le_of_ble_eq_true rfl) dX11_autumn_49 (does_X4_sumInAll σ i hm hL hD) ?_
    exact zR.iret rfl dX11_autumn_52 ⟨by unfold V_X11_autumn; rw [if_neg c1_0, if_neg c1_1, if_pos c1_2], rfl⟩
  by_cases c1_3 : i = 3
  · refine zRx.topI (b := 3) c1_3 ?_
    refine zRx.tableIn (tgt := 44) dX11_autumn_1 (by decide) (by decide) rfl (by decide) ?_
    refine zRx.aload_n 0 rfl rfl dX11_autumn_44 ?_
    refine zRx.getR (a := 0) (b := 53) fl_11_60 rfl rfl dX11_autumn_45 ?_
    refine zRx.iload_n 1 rfl rfl dX11_autumn_48 ?_
    refine zRx.cVi (w := .inl (R_X4_sumInAll σ i)) (M := m_X4_sumInAll) (av := [.inl i]) cv_11_251 mk_X4_sumInAll (by decide) (b := 53) rfl rfl (Nat.le_of_ble_eq_true rfl) dX11_autumn_49 (does_X4_sumInAll σ i hm hL hD) ?_
    exact zR.iret rfl dX11_autumn_52 ⟨by unfold V_X11_autumn; rw [if_neg c1_0, if_neg c1_1, if_neg c1_2, if_pos c1_3], rfl⟩
  by_cases c1_4 : i = 4
  · refine zRx.topI (b := 4) c1_4 ?_
    refine zRx.tableIn (tgt := 53) dX11_autumn_1 (by decide) (by decide) rfl (by decide) ?_
    refine zRx.aload_n 0 rfl rfl dX11_autumn_53 ?_
    refine zRx.getR (a := 0) (b := 53) fl_11_60 rfl rfl dX11_autumn_54 ?_
    refine zRx.cVi (w := .inl (R_X4_hurtInAll σ)) (M := m_X4_hurtInAll) (av := []) cv_11_254 mk_X4_hurtInAll (by decide) (b := 53) rfl rfl (Nat.le_of_ble_eq_true rfl) dX11_autumn_57 (does_X4_hurtInAll σ hp) ?_
    exact zR.iret rfl dX11_autumn_60 ⟨by unfold V_X11_autumn; rw [if_neg c1_0, if_neg c1_1, if_neg c1_2, if_neg c1_3, if_pos c1_4], rfl⟩
  by_cases c1_5 : i = 5
  · refine zRx.topI (b := 5) c1_5 ?_
    refine zRx.tableIn (tgt := 61) dX11_autumn_1 (by decide) (by decide) rfl (by decide) ?_
    refine zRx.aload_n 0 rfl rfl dX11_autumn_61 ?_
    refine zRx.getR (a := 0) (b := 53) fl_11_60 rfl rfl dX11_autumn_62 ?_
    refine zRx.cVi (w := .inl (R_X4_howManyWrong σ)) (M := m_X4_howManyWrong) (av := []) cv_11_257 mk_X4_howManyWrong (by decide) (b := 53) rfl rfl (Nat.le_of_ble_eq_true rfl) dX11_autumn_65 (does_X4_howManyWrong σ hL) ?_
    exact zR.iret rfl dX11_autumn_68 ⟨by unfold V_X11_autumn; rw [if_neg c1_0, if_neg c1_1, if_neg c1_2, if_neg c1_3, if_neg c1_4, if_pos c1_5], rfl⟩
  by_cases c1_6 : i = 6
  · refine zRx.topI (b := 6) c1_6 ?_
    refine zRx.tableIn (tgt := 69) dX11_autumn_1 (by decide) (by decide) rfl (by decide) ?_
    refine zRx.aload_n 0 rfl rfl dX11_autumn_69 ?_
    refine zRx.getR (a := 0) (b := 27) fl_11_38 rfl rfl dX11_autumn_70 ?_
    refine zRx.getIv (a := 27) (ji := 1) (v := σ 27 1) rfl fl_11_260 rfl rfl rfl dX11_autumn_73 ?_
    exact zR.iret rfl dX11_autumn_76 ⟨by unfold V_X11_autumn; rw [if_neg c1_0, if_neg c1_1, if_neg c1_2, if_neg c1_3, if_neg c1_4, if_neg c1_5, if_pos c1_6], rfl⟩
  refine zRx.tableOut (tgt := 77) dX11_autumn_1 (by omega) (by decide) ?_
  refine zRx.iconst ⟨by decide, by decide⟩ dX11_autumn_77 ?_
  exact zR.iret rfl dX11_autumn_78 ⟨by unfold V_X11_autumn; rw [if_neg c1_0, if_neg c1_1, if_neg c1_2, if_neg c1_3, if_neg c1_4, if_neg c1_5, if_neg c1_6], rfl⟩

def V_X11_feast (σ : zG) (i : Int) : Int := if i = 0 then ((R_X2_settle σ) 81 2) else (if i = 1 then ((R_X2_settle σ) 81 3) else (-1))
def F_X11_feast (σ : zG) (i : Int) : zG := R_X2_settle σ
theorem fr_F_X11_feast (σ : zG) (i : Int) {k : Nat} (h : k ∉ [81, 82, 83, 84]) : (F_X11_feast σ i) k = σ k := by
  have ne : ∀ c ∈ [81, 82, 83, 84], k ≠ c := fun c hc e => h (e ▸ hc)
  have nk_R_X2_settle : k ∉ [81, 82, 83, 84] := fun hm => h (by first | (revert hm; simp only [List.mem_cons, List.not_mem_nil, or_false]; omega) | (simp at hm))
  unfold F_X11_feast
  repeat' split
  all_goals first | rfl | simp only [zu_row _ _ _ (ne 81 (by decide)), zu_row _ _ _ (ne 82 (by decide)), zu_row _ _ _ (ne 83 (by decide)), zu_row _ _ _ (ne 84 (by decide)), fr_R_X2_settle (h := nk_R_X2_settle)]

set_option maxRecDepth 20000 in
theorem does_X11_feast (σ : zG) (i : Int) (hm : σ 53 8 ≤ 128) (hp : σ 5 0 ≤ 8) (hF : σ 5 1 ≤ 12) (hO : WO σ) (hH : WH σ) (hB : LB (σ 84)) : zDo SC 5 m_X11_feast [zP 0, .inl i] σ (zEq (some (.inl (V_X11_feast σ i))) (F_X11_feast σ i)) := by
  refine zDo.intro mk_X11_feast (Nat.le_of_ble_eq_true rfl) ?_
  refine zRx.aload_n 0 rfl rfl dX11_feast_0 ?_
  refine zRx.getR (a := 0) (b := 81) fl_11_70 rfl rfl dX11_feast_1 ?_
  refine zRx.aload_n 0 rfl rfl dX11_feast_4 ?_
  refine zRx.getR (a := 0) (b := 53) fl_11_60 rfl rfl dX11_feast_5 ?_
  refine zRx.cVv (M := m_X2_settle) (av := [zP 53]) cv_11_263 mk_X2_settle (by decide) (b := 81) rfl rfl (Nat.le_of_ble_eq_true rfl) dX11_feast_8 (does_X2_settle σ hm hp hF hO hH hB) ?_
  refine zRx.iload_n 1 rfl rfl dX11_feast_11 ?_
  by_cases c12_0 : i = 0
  · refine zRx.topI (b := 0) c12_0 ?_
    refine zRx.lookup (tgt := 40) dX11_feast_12 rfl rfl (by decide) ?_
    refine zRx.aload_n 0 rfl rfl dX11_feast_40 ?_
    refine zRx.getR (a := 0) (b := 81) fl_11_70 rfl rfl dX11_feast_41 ?_
    refine zRx.getIv (a := 81) (ji := 2) (v := (R_X2_settle σ) 81 2) rfl fl_11_267 rfl rfl rfl dX11_feast_44 ?_
    exact zR.iret rfl dX11_feast_47 ⟨by unfold V_X11_feast; rw [if_pos c12_0], rfl⟩
  by_cases c12_1 : i = 1
  · refine zRx.topI (b := 1) c12_1 ?_
    refine zRx.lookup (tgt := 48) dX11_feast_12 rfl rfl (by decide) ?_
    refine zRx.aload_n 0 rfl rfl dX11_feast_48 ?_
    refine zRx.getR (a := 0) (b := 81) fl_11_70 rfl rfl dX11_feast_49 ?_
    refine zRx.getIv (a := 81) (ji := 3) (v := (R_X2_settle σ) 81 3) rfl fl_11_270 rfl rfl rfl dX11_feast_52 ?_
    exact zR.iret rfl dX11_feast_55 ⟨by unfold V_X11_feast; rw [if_neg c12_0, if_pos c12_1], rfl⟩
  refine zRx.lookup (tgt := 56) (off := 44) dX11_feast_12 rfl (by simp [Op.lookupswitch.offset, (show ¬ 0 = i from fun h => c12_0 h.symm), (show ¬ 1 = i from fun h => c12_1 h.symm)]) (by decide) ?_
  refine zRx.iconst ⟨by decide, by decide⟩ dX11_feast_56 ?_
  exact zR.iret rfl dX11_feast_57 ⟨by unfold V_X11_feast; rw [if_neg c12_0, if_neg c12_1], rfl⟩

def V_X11_feastAt (σ : zG) (x : Int) : Int := if x < 0 then (-1) else (if ((R_X2_settle σ) 81 1) ≤ x then (-1) else ((R_X2_settle σ) 82 x))
def F_X11_feastAt (σ : zG) (x : Int) : zG := R_X2_settle σ
theorem fr_F_X11_feastAt (σ : zG) (x : Int) {k : Nat} (h : k ∉ [81, 82, 83, 84]) : (F_X11_feastAt σ x) k = σ k := by
  have ne : ∀ c ∈ [81, 82, 83, 84], k ≠ c := fun c hc e => h (e ▸ hc)
  have nk_R_X2_settle : k ∉ [81, 82, 83, 84] := fun hm => h (by first | (revert hm; simp only [List.mem_cons, List.not_mem_nil, or_false]; omega) | (simp at hm))
  unfold F_X11_feastAt
  repeat' split
  all_goals first | rfl | simp only [zu_row _ _ _ (ne 81 (by decide)), zu_row _ _ _ (ne 82 (by decide)), zu_row _ _ _ (ne 83 (by decide)), zu_row _ _ _ (ne 84 (by decide)), fr_R_X2_settle (h := nk_R_X2_settle)]

set_option maxRecDepth 20000 in
theorem does_X11_feastAt (σ : zG) (x : Int) (hm : σ 53 8 ≤ 128) (hp : σ 5 0 ≤ 8) (hF : σ 5 1 ≤ 12) (hO : WO σ) (hH : WH σ) (hB : LB (σ 84)) (hM : R_X2_settle σ 81 1 ≤ 8) : zDo SC 5 m_X11_feastAt [zP 0, .inl x] σ (zEq (some (.inl (V_X11_feastAt σ x))) (F_X11_feastAt σ x)) := by
  refine zDo.intro mk_X11_feastAt (Nat.le_of_ble_eq_true rfl) ?_
  refine zRx.aload_n 0 rfl rfl dX11_feastAt_0 ?_
  refine zRx.getR (a := 0) (b := 81) fl_11_70 rfl rfl dX11_feastAt_1 ?_
  refine zRx.aload_n 0 rfl rfl dX11_feastAt_4 ?_
  refine zRx.getR (a := 0) (b := 53) fl_11_60 rfl rfl dX11_feastAt_5 ?_
  refine zRx.cVv (M := m_X2_settle) (av := [zP 53]) cv_11_263 mk_X2_settle (by decide) (b := 81) rfl rfl (Nat.le_of_ble_eq_true rfl) dX11_feastAt_8 (does_X2_settle σ hm hp hF hO hH hB) ?_
  refine zRx.iload_n 1 rfl rfl dX11_feastAt_11 ?_
  refine zRx.if_lt (tgt := 38) dX11_feastAt_12 (by decide) (fun c12 => ?_) (fun c12 => ?_)
  · refine zRx.iconst ⟨by decide, by decide⟩ dX11_feastAt_38 ?_
    exact zR.iret rfl dX11_feastAt_39 ⟨by unfold V_X11_feastAt; rw [if_pos c12], rfl⟩
  · refine zRx.iload_n 1 rfl rfl dX11_feastAt_15 ?_
    refine zRx.aload_n 0 rfl rfl dX11_feastAt_16 ?_
    refine zRx.getR (a := 0) (b := 81) fl_11_70 rfl rfl dX11_feastAt_17 ?_
    refine zRx.getIv (a := 81) (ji := 1) (v := (R_X2_settle σ) 81 1) rfl fl_11_273 rfl rfl rfl dX11_feastAt_20 ?_
    refine zRx.icmp_ge (tgt := 38) dX11_feastAt_23 (by decide) (fun c23 => ?_) (fun c23 => ?_)
    · refine zRx.iconst ⟨by decide, by decide⟩ dX11_feastAt_38 ?_
      exact zR.iret rfl dX11_feastAt_39 ⟨by unfold V_X11_feastAt; rw [if_neg (Int.not_lt.mpr c12), if_pos c23], rfl⟩
    · refine zRx.aload_n 0 rfl rfl dX11_feastAt_26 ?_
      refine zRx.getR (a := 0) (b := 81) fl_11_70 rfl rfl dX11_feastAt_27 ?_
      refine zRx.getR (a := 81) (b := 82) fl_11_274 rfl rfl dX11_feastAt_30 ?_
      refine zRx.iload_n 1 rfl rfl dX11_feastAt_33 ?_
      refine zRx.ialdv (v := (R_X2_settle σ) 82 x) rfl rfl (by omega) (by omega) dX11_feastAt_34 ?_
      refine zRx.goto (tgt := 39) dX11_feastAt_35 (by decide) ?_
      exact zR.iret rfl dX11_feastAt_39 ⟨by unfold V_X11_feastAt; rw [if_neg (Int.not_lt.mpr c12), if_neg (Int.not_le.mpr c23)], rfl⟩

def V_X11_needs (σ : zG) (who i : Int) : Int := if 0 ≤ who ∧ who < (σ 5 0) then (if i < 0 then (-1) else (if i ≤ 1 then (if ((R_X10_leastFor σ who 0).1) = 1073741824 then (-1) else (if i = 0 then (V_X10_factsIn ((R_X10_leastFor σ who 0).1)) else (V_X10_bitsOf ((R_X10_leastFor σ who 0).1)))) else (-1))) else (-1)
def F_X11_needs (σ : zG) (who i : Int) : zG := if 0 ≤ who ∧ who < (σ 5 0) then (if i < 0 then σ else (if i ≤ 1 then ((R_X10_leastFor σ who 0).2) else σ)) else σ
theorem fr_F_X11_needs (σ : zG) (who i : Int) {k : Nat} (h : k ∉ [86, 87, 88, 89, 90]) : (F_X11_needs σ who i) k = σ k := by
  have ne : ∀ c ∈ [86, 87, 88, 89, 90], k ≠ c := fun c hc e => h (e ▸ hc)
  have nk_R_X10_leastFor : k ∉ [86, 87, 88, 89, 90] := fun hm => h (by first | (revert hm; simp only [List.mem_cons, List.not_mem_nil, or_false]; omega) | (simp at hm))
  unfold F_X11_needs
  repeat' split
  all_goals first | rfl | simp only [zu_row _ _ _ (ne 86 (by decide)), zu_row _ _ _ (ne 87 (by decide)), zu_row _ _ _ (ne 88 (by decide)), zu_row _ _ _ (ne 89 (by decide)), zu_row _ _ _ (ne 90 (by decide)), fr_R_X10_leastFor (h := nk_R_X10_leastFor)]

set_option maxRecDepth 20000 in
theorem does_X11_needs (σ : zG) (who i : Int) (hm : σ 53 8 ≤ 128) (hp : σ 5 0 ≤ 8) (hF2 : 0 ≤ σ 5 1 ∧ σ 5 1 ≤ 12) : zDo SC 5 m_X11_needs [zP 0, .inl who, .inl i] σ (zEq (some (.inl (V_X11_needs σ who i))) (F_X11_needs σ who i)) := by
  refine zDo.intro mk_X11_needs (Nat.le_of_ble_eq_true rfl) ?_
  refine zRx.aload_n 0 rfl rfl dX11_needs_0 ?_
  refine zRx.getR (a := 0) (b := 5) fl_11_28 rfl rfl dX11_needs_1 ?_
  refine zRx.iload_n 1 rfl rfl dX11_needs_4 ?_
  refine zRx.cVi (w := .inl (b2 (0 ≤ who ∧ who < (σ 5 0)))) (M := m_X9_hasWho) (av := [.inl who]) cv_11_158 mk_X9_hasWho (by decide) (b := 5) rfl rfl (Nat.le_of_ble_eq_true rfl) dX11_needs_5 (hasWho2 σ who (σ 5 0) rfl) ?_
  refine zRx.if_eqB (tgt := 20) dX11_needs_8 (by decide) (fun c8 => ?_) (fun c8 => ?_)
  · refine zRx.iconst ⟨by decide, by decide⟩ dX11_needs_20 ?_
    exact zR.iret rfl dX11_needs_21 ⟨by unfold V_X11_needs; rw [if_neg c8], by unfold F_X11_needs; rw [if_neg c8]⟩
  · refine zRx.iload_n 2 rfl rfl dX11_needs_11 ?_
    refine zRx.if_lt (tgt := 20) dX11_needs_12 (by decide) (fun c12 => ?_) (fun c12 => ?_)
    · refine zRx.iconst ⟨by decide, by decide⟩ dX11_needs_20 ?_
      exact zR.iret rfl dX11_needs_21 ⟨by unfold V_X11_needs; rw [if_pos c8, if_pos c12], by unfold F_X11_needs; rw [if_pos c8, if_pos c12]⟩
    · refine zRx.iload_n 2 rfl rfl dX11_needs_15 ?_
      refine zRx.iconst ⟨by decide, by decide⟩ dX11_needs_16 ?_
      refine zRx.icmp_le (tgt := 22) dX11_needs_17 (by decide) (fun c17 => ?_) (fun c17 => ?_)
      · refine zRx.aload_n 0 rfl rfl dX11_needs_22 ?_
        refine zRx.getR (a := 0) (b := 85) fl_11_77 rfl rfl dX11_needs_23 ?_
        refine zRx.aload_n 0 rfl rfl dX11_needs_26 ?_
        refine zRx.getR (a := 0) (b := 53) fl_11_60 rfl rfl dX11_needs_27 ?_
        refine zRx.iload_n 1 rfl rfl dX11_needs_30 ?_
        refine zRx.iconst ⟨by decide, by decide⟩ dX11_needs_31 ?_
        refine zRx.cVi (w := .inl ((R_X10_leastFor σ who 0).1)) (M := m_X10_leastFor) (av := [zP 53, .inl who, .inl 0]) cv_11_277 mk_X10_leastFor (by decide) (b := 85) rfl rfl (Nat.le_of_ble_eq_true rfl) dX11_needs_32 (does_X10_leastFor σ who 0 hm hp hF2 (by omega)) ?_
        refine zRx.istore_n (ls' := [(0, zP 0), (1, .inl who), (2, .inl i), (3, .inl ((R_X10_leastFor σ who 0).1))]) rfl rfl (by decide) dX11_needs_35 ?_
        refine zRx.iload_n 3 rfl rfl dX11_needs_36 ?_
        refine zRx.ldcw ⟨by decide, by decide⟩ kc_11_281 dX11_needs_37 ?_
        refine zRx.icmp_ne (tgt := 45) dX11_needs_40 (by decide) (fun c40 => ?_) (fun c40 => ?_)
        · refine zRx.iload_n 2 rfl rfl dX11_needs_45 ?_
          refine zRx.if_ne (tgt := 56) dX11_needs_46 (by decide) (fun c46 => ?_) (fun c46 => ?_)
          · refine zRx.iload_n 3 rfl rfl dX11_needs_56 ?_
            refine zRx.cSi (w := .inl (V_X10_bitsOf ((R_X10_leastFor σ who 0).1))) (M := m_X10_bitsOf) (av := [.inl ((R_X10_leastFor σ who 0).1)]) cs_11_285 mk_X10_bitsOf (by decide) rfl (Nat.le_of_ble_eq_true rfl) dX11_needs_57 (does_X10_bitsOf ((R_X10_leastFor σ who 0).2) ((R_X10_leastFor σ who 0).1) SC) ?_
            exact zR.iret rfl dX11_needs_60 ⟨by unfold V_X11_needs; rw [if_pos c8, if_neg (Int.not_lt.mpr c12), if_pos c17, if_neg c40, if_neg c46], by unfold F_X11_needs; rw [if_pos c8, if_neg (Int.not_lt.mpr c12), if_pos c17]⟩
          · refine zRx.iload_n 3 rfl rfl dX11_needs_49 ?_
            refine zRx.cSi (w := .inl (V_X10_factsIn ((R_X10_leastFor σ who 0).1))) (M := m_X10_factsIn) (av := [.inl ((R_X10_leastFor σ who 0).1)]) cs_11_282 mk_X10_factsIn (by decide) rfl (Nat.le_of_ble_eq_true rfl) dX11_needs_50 (does_X10_factsIn ((R_X10_leastFor σ who 0).2) ((R_X10_leastFor σ who 0).1) SC) ?_
            refine zRx.goto (tgt := 60) dX11_needs_53 (by decide) ?_
            exact zR.iret rfl dX11_needs_60 ⟨by unfold V_X11_needs; rw [if_pos c8, if_neg (Int.not_lt.mpr c12), if_pos c17, if_neg c40, if_pos c46], by unfold F_X11_needs; rw [if_pos c8, if_neg (Int.not_lt.mpr c12), if_pos c17]⟩
        · refine zRx.iconst ⟨by decide, by decide⟩ dX11_needs_43 ?_
          exact zR.iret rfl dX11_needs_44 ⟨by unfold V_X11_needs; rw [if_pos c8, if_neg (Int.not_lt.mpr c12), if_pos c17, if_pos c40], by unfold F_X11_needs; rw [if_pos c8, if_neg (Int.not_lt.mpr c12), if_pos c17]⟩
      · refine zRx.iconst ⟨by decide, by decide⟩ dX11_needs_20 ?_
        exact zR.iret rfl dX11_needs_21 ⟨by unfold V_X11_needs; rw [if_pos c8, if_neg (Int.not_lt.mpr c12), if_neg (Int.not_le.mpr c17)], by unfold F_X11_needs; rw [if_pos c8, if_neg (Int.not_lt.mpr c12), if_neg (Int.not_le.mpr c17)]⟩

def V_X11_buys (σ : zG) (who i : Int) : Int := if 0 ≤ who ∧ who < (σ 5 0) then (if i < 0 then (-1) else (if i ≤ 1 then (if ((R_X10_leastFor σ who 1).1) = 1073741824 then (-1) else (if i = 0 then (V_X10_coinsFor ((R_X10_leastFor σ who 1).1)) else (V_X10_bitsOf ((R_X10_leastFor σ who 1).1)))) else (-1))) else (-1)
def F_X11_buys (σ : zG) (who i : Int) : zG := if 0 ≤ who ∧ who < (σ 5 0) then (if i < 0 then σ else (if i ≤ 1 then ((R_X10_leastFor σ who 1).2) else σ)) else σ
theorem fr_F_X11_buys (σ : zG) (who i : Int) {k : Nat} (h : k ∉ [86, 87, 88, 89, 90]) : (F_X11_buys σ who i) k = σ k := by
  have ne : ∀ c ∈ [86, 87, 88, 89, 90], k ≠ c := fun c hc e => h (e ▸ hc)
  have nk_R_X10_leastFor : k ∉ [86, 87, 88, 89, 90] := fun hm => h (by first | (revert hm; simp only [List.mem_cons, List.not_mem_nil, or_false]; omega) | (simp at hm))
  unfold F_X11_buys
  repeat' split
  all_goals first | rfl | simp only [zu_row _ _ _ (ne 86 (by decide)), zu_row _ _ _ (ne 87 (by decide)), zu_row _ _ _ (ne 88 (by decide)), zu_row _ _ _ (ne 89 (by decide)), zu_row _ _ _ (ne 90 (by decide)), fr_R_X10_leastFor (h := nk_R_X10_leastFor)]

set_option maxRecDepth 20000 in
theorem does_X11_buys (σ : zG) (who i : Int) (hm : σ 53 8 ≤ 128) (hp : σ 5 0 ≤ 8) (hF2 : 0 ≤ σ 5 1 ∧ σ 5 1 ≤ 12) : zDo SC 5 m_X11_buys [zP 0, .inl who, .inl i] σ (zEq (some (.inl (V_X11_buys σ who i))) (F_X11_buys σ who i)) := by
  refine zDo.intro mk_X11_buys (Nat.le_of_ble_eq_true rfl) ?_
  refine zRx.aload_n 0 rfl rfl dX11_buys_0 ?_
  refine zRx.getR (a := 0) (b := 5) fl_11_28 rfl rfl dX11_buys_1 ?_
  refine zRx.iload_n 1 rfl rfl dX11_buys_4 ?_
  refine zRx.cVi (w := .inl (b2 (0 ≤ who ∧ who < (σ 5 0)))) (M := m_X9_hasWho) (av := [.inl who]) cv_11_158 mk_X9_hasWho (by decide) (b := 5) rfl rfl (Nat.le_of_ble_eq_true rfl) dX11_buys_5 (hasWho2 σ who (σ 5 0) rfl) ?_
  refine zRx.if_eqB (tgt := 20) dX11_buys_8 (by decide) (fun c8 => ?_) (fun c8 => ?_)
  · refine zRx.iconst ⟨by decide, by decide⟩ dX11_buys_20 ?_
    exact zR.iret rfl dX11_buys_21 ⟨by unfold V_X11_buys; rw [if_neg c8], by unfold F_X11_buys; rw [if_neg c8]⟩
  · refine zRx.iload_n 2 rfl rfl dX11_buys_11 ?_
    refine zRx.if_lt (tgt := 20) dX11_buys_12 (by decide) (fun c12 => ?_) (fun c12 => ?_)
    · refine zRx.iconst ⟨by decide, by decide⟩ dX11_buys_20 ?_
      exact zR.iret rfl dX11_buys_21 ⟨by unfold V_X11_buys; rw [if_pos c8, if_pos c12], by unfold F_X11_buys; rw [if_pos c8, if_pos c12]⟩
    · refine zRx.iload_n 2 rfl rfl dX11_buys_15 ?_
      refine zRx.iconst ⟨by decide, by decide⟩ dX11_buys_16 ?_
      refine zRx.icmp_le (tgt := 22) dX11_buys_17 (by decide) (fun c17 => ?_) (fun c17 => ?_)
      · refine zRx.aload_n 0 rfl rfl dX11_buys_22 ?_
        refine zRx.getR (a := 0) (b := 85) fl_11_77 rfl rfl dX11_buys_23 ?_
        refine zRx.aload_n 0 rfl rfl dX11_buys_26 ?_
        refine zRx.getR (a := 0) (b := 53) fl_11_60 rfl rfl dX11_buys_27 ?_
        refine zRx.iload_n 1 rfl rfl dX11_buys_30 ?_
        refine zRx.iconst ⟨by decide, by decide⟩ dX11_buys_31 ?_
        refine zRx.cVi (w := .inl ((R_X10_leastFor σ who 1).1)) (M := m_X10_leastFor) (av := [zP 53, .inl who, .inl 1]) cv_11_277 mk_X10_leastFor (by decide) (b := 85) rfl rfl (Nat.le_of_ble_eq_true rfl) dX11_buys_32 (does_X10_leastFor σ who 1 hm hp hF2 (by omega)) ?_
        refine zRx.istore_n (ls' := [(0, zP 0), (1, .inl who), (2, .inl i), (3, .inl ((R_X10_leastFor σ who 1).1))]) rfl rfl (by decide) dX11_buys_35 ?_
        refine zRx.iload_n 3 rfl rfl dX11_buys_36 ?_
        refine zRx.ldcw ⟨by decide, by decide⟩ kc_11_281 dX11_buys_37 ?_
        refine zRx.icmp_ne (tgt := 45) dX11_buys_40 (by decide) (fun c40 => ?_) (fun c40 => ?_)
        · refine zRx.iload_n 2 rfl rfl dX11_buys_45 ?_
          refine zRx.if_ne (tgt := 56) dX11_buys_46 (by decide) (fun c46 => ?_) (fun c46 => ?_)
          · refine zRx.iload_n 3 rfl rfl dX11_buys_56 ?_
            refine zRx.cSi (w := .inl (V_X10_bitsOf ((R_X10_leastFor σ who 1).1))) (M := m_X10_bitsOf) (av := [.inl ((R_X10_leastFor σ who 1).1)]) cs_11_285 mk_X10_bitsOf (by decide) rfl (Nat.le_of_ble_eq_true rfl) dX11_buys_57 (does_X10_bitsOf ((R_X10_leastFor σ who 1).2) ((R_X10_leastFor σ who 1).1) SC) ?_
            exact zR.iret rfl dX11_buys_60 ⟨by unfold V_X11_buys; rw [if_pos c8, if_neg (Int.not_lt.mpr c12), if_pos c17, if_neg c40, if_neg c46], by unfold F_X11_buys; rw [if_pos c8, if_neg (Int.not_lt.mpr c12), if_pos c17]⟩
          · refine zRx.iload_n 3 rfl rfl dX11_buys_49 ?_
            refine zRx.cSi (w := .inl (V_X10_coinsFor ((R_X10_leastFor σ who 1).1))) (M := m_X10_coinsFor) (av := [.inl ((R_X10_leastFor σ who 1).1)]) cs_11_288 mk_X10_coinsFor (by decide) rfl (Nat.le_of_ble_eq_true rfl) dX11_buys_50 (does_X10_coinsFor ((R_X10_leastFor σ who 1).2) ((R_X10_leastFor σ who 1).1) SC) ?_
            refine zRx.goto (tgt := 60) dX11_buys_53 (by decide) ?_
            exact zR.iret rfl dX11_buys_60 ⟨by unfold V_X11_buys; rw [if_pos c8, if_neg (Int.not_lt.mpr c12), if_pos c17, if_neg c40, if_pos c46], by unfold F_X11_buys; rw [if_pos c8, if_neg (Int.not_lt.mpr c12), if_pos c17]⟩
        · refine zRx.iconst ⟨by decide, by decide⟩ dX11_buys_43 ?_
          exact zR.iret rfl dX11_buys_44 ⟨by unfold V_X11_buys; rw [if_pos c8, if_neg (Int.not_lt.mpr c12), if_pos c17, if_pos c40], by unfold F_X11_buys; rw [if_pos c8, if_neg (Int.not_lt.mpr c12), if_pos c17]⟩
      · refine zRx.iconst ⟨by decide, by decide⟩ dX11_buys_20 ?_
        exact zR.iret rfl dX11_buys_21 ⟨by unfold V_X11_buys; rw [if_pos c8, if_neg (Int.not_lt.mpr c12), if_neg (Int.not_le.mpr c17)], by unfold F_X11_buys; rw [if_pos c8, if_neg (Int.not_lt.mpr c12), if_neg (Int.not_le.mpr c17)]⟩

theorem foL_r (σ : zG) (who : Int) : ∀ (n : Nat) (q : Int), 0 ≤ q → L_X4_firstOpenOf_2 σ who n q = -1 ∨ (0 ≤ L_X4_firstOpenOf_2 σ who n q ∧ (L_X4_firstOpenOf_2 σ who n q < σ 53 8 ∨ L_X4_firstOpenOf_2 σ who n q = 0))
  | 0, q, _ => Or.inr ⟨Int.le_refl _, Or.inr rfl⟩
  | n + 1, q, h => by
    rw [L_X4_firstOpenOf_2]
    repeat' split
    all_goals first | exact Or.inl rfl | exact foL_r σ who n (q + 1) (by omega) | exact Or.inr ⟨h, Or.inl (by omega)⟩

def V_X11_terms (σ : zG) (who : Int) : Int := if 0 ≤ who ∧ who < (σ 5 0) then (if (R_X4_firstOpenOf σ who) = (-1) then (-10000) else (w32 ((w32 ((w32 ((V_X4_dayOf σ (R_X4_firstOpenOf σ who)) + (σ 15 0))) + 1)) - (σ 27 1)))) else (-10000)
set_option maxRecDepth 20000 in
theorem does_X11_terms (σ : zG) (who : Int) (hm : σ 53 8 ≤ 128) (hT : ∀ d : Int, 0 ≤ d → d < 128 → 0 ≤ σ 64 d ∧ σ 64 d < 60) : zDo SC 1 m_X11_terms [zP 0, .inl who] σ (zEq (some (.inl (V_X11_terms σ who))) σ) := by
  refine zDo.intro mk_X11_terms (Nat.le_of_ble_eq_true rfl) ?_
  have hfo := foL_r σ who 200 0 (by decide)
  have hfo2 : R_X4_firstOpenOf σ who = -1 ∨ (0 ≤ R_X4_firstOpenOf σ who ∧ (R_X4_firstOpenOf σ who < σ 53 8 ∨ R_X4_firstOpenOf σ who = 0)) := hfo
  refine zRx.aload_n 0 rfl rfl dX11_terms_0 ?_
  refine zRx.getR (a := 0) (b := 5) fl_11_28 rfl rfl dX11_terms_1 ?_
  refine zRx.iload_n 1 rfl rfl dX11_terms_4 ?_
  refine zRx.cVi (w := .inl (b2 (0 ≤ who ∧ who < (σ 5 0)))) (M := m_X9_hasWho) (av := [.inl who]) cv_11_158 mk_X9_hasWho (by decide) (b := 5) rfl rfl (Nat.le_of_ble_eq_true rfl) dX11_terms_5 (hasWho2 σ who (σ 5 0) rfl) ?_
  refine zRx.if_eqB (tgt := 22) dX11_terms_8 (by decide) (fun c8 => ?_) (fun c8 => ?_)
  · refine zRx.iconst ⟨by decide, by decide⟩ dX11_terms_22 ?_
    refine zRx.istore_n (ls' := [(0, zP 0), (1, .inl who), (2, .inl (-1))]) rfl rfl (by decide) dX11_terms_23 ?_
    refine zRx.iload_n 2 rfl rfl dX11_terms_24 ?_
    refine zRx.iconst ⟨by decide, by decide⟩ dX11_terms_25 ?_
    refine zRx.icmp_ne (tgt := 33) dX11_terms_26 (by decide) (fun c26 => absurd c26 (by decide)) (fun _ => ?_)
    refine zRx.sipush ⟨by decide, by decide⟩ rfl dX11_terms_29 ?_
    exact zR.iret rfl dX11_terms_32 ⟨by unfold V_X11_terms; rw [if_neg c8], rfl⟩
  · refine zRx.aload_n 0 rfl rfl dX11_terms_11 ?_
    refine zRx.getR (a := 0) (b := 53) fl_11_60 rfl rfl dX11_terms_12 ?_
    refine zRx.iload_n 1 rfl rfl dX11_terms_15 ?_
    refine zRx.cVi (w := .inl (R_X4_firstOpenOf σ who)) (M := m_X4_firstOpenOf) (av := [.inl who]) cv_11_291 mk_X4_firstOpenOf (by decide) (b := 53) rfl rfl (Nat.le_of_ble_eq_true rfl) dX11_terms_16 (does_X4_firstOpenOf σ who hm) ?_
    refine zRx.goto (tgt := 23) dX11_terms_19 (by decide) ?_
    refine zRx.istore_n (ls' := [(0, zP 0), (1, .inl who), (2, .inl (R_X4_firstOpenOf σ who))]) rfl rfl (by decide) dX11_terms_23 ?_
    refine zRx.iload_n 2 rfl rfl dX11_terms_24 ?_
    refine zRx.iconst ⟨by decide, by decide⟩ dX11_terms_25 ?_
    refine zRx.icmp_ne (tgt := 33) dX11_terms_26 (by decide) (fun c26 => ?_) (fun c26 => ?_)
    · refine zRx.aload_n 0 rfl rfl dX11_terms_33 ?_
      refine zRx.getR (a := 0) (b := 53) fl_11_60 rfl rfl dX11_terms_34 ?_
      refine zRx.iload_n 2 rfl rfl dX11_terms_37 ?_
      refine zRx.cVi (w := .inl (V_X4_dayOf σ (R_X4_firstOpenOf σ who))) (M := m_X4_dayOf) (av := [.inl (R_X4_firstOpenOf σ who)]) cv_11_294 mk_X4_dayOf (by decide) (b := 53) rfl rfl (Nat.le_of_ble_eq_true rfl) dX11_terms_38 (does_X4_dayOf σ (R_X4_firstOpenOf σ who) (by omega) (hT _ (by omega) (by omega))) ?_
      refine zRx.aload_n 0 rfl rfl dX11_terms_41 ?_
      refine zRx.getR (a := 0) (b := 5) fl_11_28 rfl rfl dX11_terms_42 ?_
      refine zRx.getR (a := 5) (b := 15) fl_11_297 rfl rfl dX11_terms_45 ?_
      refine zRx.iconst ⟨by decide, by decide⟩ dX11_terms_48 ?_
      refine zRx.ialdv (v := σ 15 0) rfl rfl (by decide) (by decide) dX11_terms_49 ?_
      refine zRx.iaddW dX11_terms_50 ?_
      refine zRx.iconst ⟨by decide, by decide⟩ dX11_terms_51 ?_
      refine zRx.iaddW dX11_terms_52 ?_
      refine zRx.aload_n 0 rfl rfl dX11_terms_53 ?_
      refine zRx.getR (a := 0) (b := 27) fl_11_38 rfl rfl dX11_terms_54 ?_
      refine zRx.getIv (a := 27) (ji := 1) (v := σ 27 1) rfl fl_11_260 rfl rfl rfl dX11_terms_57 ?_
      refine zRx.isubW dX11_terms_60 ?_
      exact zR.iret rfl dX11_terms_61 ⟨by unfold V_X11_terms; rw [if_pos c8, if_neg c26], rfl⟩
    · refine zRx.sipush ⟨by decide, by decide⟩ rfl dX11_terms_29 ?_
      exact zR.iret rfl dX11_terms_32 ⟨by unfold V_X11_terms; rw [if_pos c8, if_pos c26], rfl⟩

def V_X11_source (σ : zG) (who f : Int) : Int := if 0 ≤ who ∧ who < (σ 5 0) then (if 0 ≤ f ∧ f < (σ 5 1) then (σ 57 ((who * 12) + f)) else (-1)) else (-1)
set_option maxRecDepth 20000 in
theorem does_X11_source (σ : zG) (who f : Int) (hp : σ 5 0 ≤ 8) (hF : σ 5 1 ≤ 12) : zDo SC 1 m_X11_source [zP 0, .inl who, .inl f] σ (zEq (some (.inl (V_X11_source σ who f))) σ) := by
  refine zDo.intro mk_X11_source (Nat.le_of_ble_eq_true rfl) ?_
  refine zRx.aload_n 0 rfl rfl dX11_source_0 ?_
  refine zRx.getR (a := 0) (b := 5) fl_11_28 rfl rfl dX11_source_1 ?_
  refine zRx.iload_n 1 rfl rfl dX11_source_4 ?_
  refine zRx.cVi (w := .inl (b2 (0 ≤ who ∧ who < (σ 5 0)))) (M := m_X9_hasWho) (av := [.inl who]) cv_11_158 mk_X9_hasWho (by decide) (b := 5) rfl rfl (Nat.le_of_ble_eq_true rfl) dX11_source_5 (hasWho2 σ who (σ 5 0) rfl) ?_
  refine zRx.if_eqB (tgt := 39) dX11_source_8 (by decide) (fun c8 => ?_) (fun c8 => ?_)
  · refine zRx.iconst ⟨by decide, by decide⟩ dX11_source_39 ?_
    exact zR.iret rfl dX11_source_40 ⟨by unfold V_X11_source; rw [if_neg c8], rfl⟩
  · refine zRx.aload_n 0 rfl rfl dX11_source_11 ?_
    refine zRx.getR (a := 0) (b := 5) fl_11_28 rfl rfl dX11_source_12 ?_
    refine zRx.iload_n 2 rfl rfl dX11_source_15 ?_
    refine zRx.cVi (w := .inl (b2 (0 ≤ f ∧ f < (σ 5 1)))) (M := m_X9_hasFact) (av := [.inl f]) cv_11_142 mk_X9_hasFact (by decide) (b := 5) rfl rfl (Nat.le_of_ble_eq_true rfl) dX11_source_16 (hasFact2 σ f (σ 5 1) rfl) ?_
    refine zRx.if_eqB (tgt := 39) dX11_source_19 (by decide) (fun c19 => ?_) (fun c19 => ?_)
    · refine zRx.iconst ⟨by decide, by decide⟩ dX11_source_39 ?_
      exact zR.iret rfl dX11_source_40 ⟨by unfold V_X11_source; rw [if_pos c8, if_neg c19], rfl⟩
    · refine zRx.aload_n 0 rfl rfl dX11_source_22 ?_
      refine zRx.getR (a := 0) (b := 53) fl_11_60 rfl rfl dX11_source_23 ?_
      refine zRx.getR (a := 53) (b := 57) fl_11_300 rfl rfl dX11_source_26 ?_
      refine zRx.iload_n 1 rfl rfl dX11_source_29 ?_
      refine zRx.bipush ⟨by decide, by decide⟩ rfl dX11_source_30 ?_
      refine zRx.imul ⟨by omega, by omega⟩ dX11_source_32 ?_
      refine zRx.iload_n 2 rfl rfl dX11_source_33 ?_
      refine zRx.iadd ⟨by omega, by omega⟩ dX11_source_34 ?_
      refine zRx.ialdv (v := σ 57 ((who * 12) + f)) rfl rfl (by omega) (by omega) dX11_source_35 ?_
      refine zRx.goto (tgt := 40) dX11_source_36 (by decide) ?_
      exact zR.iret rfl dX11_source_40 ⟨by unfold V_X11_source; rw [if_pos c8, if_pos c19], rfl⟩

def V_X11_led (σ : zG) (f x : Int) : Int := if 0 ≤ f ∧ f < (σ 5 1) then (R_X4_paidByTelling σ f x) else (-1)
set_option maxRecDepth 20000 in
theorem does_X11_led (σ : zG) (f x : Int) (hm : σ 53 8 ≤ 128) (hL : σ 27 0 ≤ 60) : zDo SC 2 m_X11_led [zP 0, .inl f, .inl x] σ (zEq (some (.inl (V_X11_led σ f x))) σ) := by
  refine zDo.intro mk_X11_led (Nat.le_of_ble_eq_true rfl) ?_
  refine zRx.aload_n 0 rfl rfl dX11_led_0 ?_
  refine zRx.getR (a := 0) (b := 5) fl_11_28 rfl rfl dX11_led_1 ?_
  refine zRx.iload_n 1 rfl rfl dX11_led_4 ?_
  refine zRx.cVi (w := .inl (b2 (0 ≤ f ∧ f < (σ 5 1)))) (M := m_X9_hasFact) (av := [.inl f]) cv_11_142 mk_X9_hasFact (by decide) (b := 5) rfl rfl (Nat.le_of_ble_eq_true rfl) dX11_led_5 (hasFact2 σ f (σ 5 1) rfl) ?_
  refine zRx.if_eqB (tgt := 23) dX11_led_8 (by decide) (fun c8 => ?_) (fun c8 => ?_)
  · refine zRx.iconst ⟨by decide, by decide⟩ dX11_led_23 ?_
    exact zR.iret rfl dX11_led_24 ⟨by unfold V_X11_led; rw [if_neg c8], rfl⟩
  · refine zRx.aload_n 0 rfl rfl dX11_led_11 ?_
    refine zRx.getR (a := 0) (b := 53) fl_11_60 rfl rfl dX11_led_12 ?_
    refine zRx.iload_n 1 rfl rfl dX11_led_15 ?_
    refine zRx.iload_n 2 rfl rfl dX11_led_16 ?_
    refine zRx.cVi (w := .inl (R_X4_paidByTelling σ f x)) (M := m_X4_paidByTelling) (av := [.inl f, .inl x]) cv_11_303 mk_X4_paidByTelling (by decide) (b := 53) rfl rfl (Nat.le_of_ble_eq_true rfl) dX11_led_17 (does_X4_paidByTelling σ f x hm hL) ?_
    refine zRx.goto (tgt := 24) dX11_led_20 (by decide) ?_
    exact zR.iret rfl dX11_led_24 ⟨by unfold V_X11_led; rw [if_pos c8], rfl⟩

def V_X11_orderAt (σ : zG) (i : Int) : Int := if i < 0 then (-1) else (if (σ 91 5) ≤ i then (-1) else (σ 96 i))
set_option maxRecDepth 20000 in
theorem does_X11_orderAt (σ : zG) (i : Int) (hb : σ 91 5 ≤ 5) : zDo SC 0 m_X11_orderAt [zP 0, .inl i] σ (zEq (some (.inl (V_X11_orderAt σ i))) σ) := by
  refine zDo.intro mk_X11_orderAt (Nat.le_of_ble_eq_true rfl) ?_
  refine zRx.iload_n 1 rfl rfl dX11_orderAt_0 ?_
  refine zRx.if_lt (tgt := 27) dX11_orderAt_1 (by decide) (fun c1 => ?_) (fun c1 => ?_)
  · refine zRx.iconst ⟨by decide, by decide⟩ dX11_orderAt_27 ?_
    exact zR.iret rfl dX11_orderAt_28 ⟨by unfold V_X11_orderAt; rw [if_pos c1], rfl⟩
  · refine zRx.iload_n 1 rfl rfl dX11_orderAt_4 ?_
    refine zRx.aload_n 0 rfl rfl dX11_orderAt_5 ?_
    refine zRx.getR (a := 0) (b := 91) fl_11_84 rfl rfl dX11_orderAt_6 ?_
    refine zRx.getIv (a := 91) (ji := 5) (v := σ 91 5) rfl fl_11_312 rfl rfl rfl dX11_orderAt_9 ?_
    refine zRx.icmp_ge (tgt := 27) dX11_orderAt_12 (by decide) (fun c12 => ?_) (fun c12 => ?_)
    · refine zRx.iconst ⟨by decide, by decide⟩ dX11_orderAt_27 ?_
      exact zR.iret rfl dX11_orderAt_28 ⟨by unfold V_X11_orderAt; rw [if_neg (Int.not_lt.mpr c1), if_pos c12], rfl⟩
    · refine zRx.aload_n 0 rfl rfl dX11_orderAt_15 ?_
      refine zRx.getR (a := 0) (b := 91) fl_11_84 rfl rfl dX11_orderAt_16 ?_
      refine zRx.getR (a := 91) (b := 96) fl_11_315 rfl rfl dX11_orderAt_19 ?_
      refine zRx.iload_n 1 rfl rfl dX11_orderAt_22 ?_
      refine zRx.ialdv (v := σ 96 i) rfl rfl (by omega) (by omega) dX11_orderAt_23 ?_
      refine zRx.goto (tgt := 28) dX11_orderAt_24 (by decide) ?_
      exact zR.iret rfl dX11_orderAt_28 ⟨by unfold V_X11_orderAt; rw [if_neg (Int.not_lt.mpr c1), if_neg (Int.not_le.mpr c12)], rfl⟩

def V_X11_ripple (σ : zG) (who to f i : Int) : Int := if 0 ≤ who ∧ who < (σ 5 0) then (if 0 ≤ to ∧ to < (σ 5 0) then (if 0 ≤ f ∧ f < (σ 5 1) then (if hb (σ 54 who) f then (if hb (σ 54 to) f then (-1) else (if i = 0 then (V_X4_freshFor σ to f) else (if i = 1 then (R_X4_openAbout σ to (V_X4_freshFor σ to f)) else (if i = 2 then (w32 ((V_X4_owedInAll σ) + (R_X4_growthAbout σ to (V_X4_freshFor σ to f)))) else (-1))))) else (-1)) else (-1)) else (-1)) else (-1)
set_option maxRecDepth 20000 in
theorem does_X11_ripple (σ : zG) (who to f i : Int) (hp : σ 5 0 ≤ 8) (hs : σ 5 2 ≤ 8) (hm : σ 53 8 ≤ 128) : zDo SC 4 m_X11_ripple [zP 0, .inl who, .inl to, .inl f, .inl i] σ (zEq (some (.inl (V_X11_ripple σ who to f i))) σ) := by
  refine zDo.intro mk_X11_ripple (Nat.le_of_ble_eq_true rfl) ?_
  refine zRx.aload_n 0 rfl rfl dX11_ripple_0 ?_
  refine zRx.getR (a := 0) (b := 5) fl_11_28 rfl rfl dX11_ripple_1 ?_
  refine zRx.iload_n 1 rfl rfl dX11_ripple_4 ?_
  refine zRx.cVi (w := .inl (b2 (0 ≤ who ∧ who < (σ 5 0)))) (M := m_X9_hasWho) (av := [.inl who]) cv_11_158 mk_X9_hasWho (by decide) (b := 5) rfl rfl (Nat.le_of_ble_eq_true rfl) dX11_ripple_5 (hasWho2 σ who (σ 5 0) rfl) ?_
  refine zRx.if_eqB (tgt := 33) dX11_ripple_8 (by decide) (fun c8 => ?_) (fun c8 => ?_)
  · refine zRx.iconst ⟨by decide, by decide⟩ dX11_ripple_33 ?_
    exact zR.iret rfl dX11_ripple_34 ⟨by unfold V_X11_ripple; rw [if_neg c8], rfl⟩
  · refine zRx.aload_n 0 rfl rfl dX11_ripple_11 ?_
    refine zRx.getR (a := 0) (b := 5) fl_11_28 rfl rfl dX11_ripple_12 ?_
    refine zRx.iload_n 2 rfl rfl dX11_ripple_15 ?_
    refine zRx.cVi (w := .inl (b2 (0 ≤ to ∧ to < (σ 5 0)))) (M := m_X9_hasWho) (av := [.inl to]) cv_11_158 mk_X9_hasWho (by decide) (b := 5) rfl rfl (Nat.le_of_ble_eq_true rfl) dX11_ripple_16 (hasWho2 σ to (σ 5 0) rfl) ?_
    refine zRx.if_eqB (tgt := 33) dX11_ripple_19 (by decide) (fun c19 => ?_) (fun c19 => ?_)
    · refine zRx.iconst ⟨by decide, by decide⟩ dX11_ripple_33 ?_
      exact zR.iret rfl dX11_ripple_34 ⟨by unfold V_X11_ripple; rw [if_pos c8, if_neg c19], rfl⟩
    · refine zRx.aload_n 0 rfl rfl dX11_ripple_22 ?_
      refine zRx.getR (a := 0) (b := 5) fl_11_28 rfl rfl dX11_ripple_23 ?_
      refine zRx.iload_n 3 rfl rfl dX11_ripple_26 ?_
      refine zRx.cVi (w := .inl (b2 (0 ≤ f ∧ f < (σ 5 1)))) (M := m_X9_hasFact) (av := [.inl f]) cv_11_142 mk_X9_hasFact (by decide) (b := 5) rfl rfl (Nat.le_of_ble_eq_true rfl) dX11_ripple_27 (hasFact2 σ f (σ 5 1) rfl) ?_
      refine zRx.if_neB (tgt := 35) dX11_ripple_30 (by decide) (fun c30 => ?_) (fun c30 => ?_)
      · refine zRx.aload_n 0 rfl rfl dX11_ripple_35 ?_
        refine zRx.getR (a := 0) (b := 53) fl_11_60 rfl rfl dX11_ripple_36 ?_
        refine zRx.iload_n 1 rfl rfl dX11_ripple_39 ?_
        refine zRx.iload_n 3 rfl rfl dX11_ripple_40 ?_
        refine zRx.cVi (w := .inl (b2 (hb (σ 54 who) f))) (M := m_X4_isKnown) (av := [.inl who, .inl f]) cv_11_240 mk_X4_isKnown (by decide) (b := 53) rfl rfl (Nat.le_of_ble_eq_true rfl) dX11_ripple_41 (does_X4_isKnown σ who f (by omega)) ?_
        refine zRx.if_eqB (tgt := 59) dX11_ripple_44 (by decide) (fun c44 => ?_) (fun c44 => ?_)
        · refine zRx.iconst ⟨by decide, by decide⟩ dX11_ripple_59 ?_
          exact zR.iret rfl dX11_ripple_60 ⟨by unfold V_X11_ripple; rw [if_pos c8, if_pos c19, if_pos c30, if_neg c44], rfl⟩
        · refine zRx.aload_n 0 rfl rfl dX11_ripple_47 ?_
          refine zRx.getR (a := 0) (b := 53) fl_11_60 rfl rfl dX11_ripple_48 ?_
          refine zRx.iload_n 2 rfl rfl dX11_ripple_51 ?_
          refine zRx.iload_n 3 rfl rfl dX11_ripple_52 ?_
          refine zRx.cVi (w := .inl (b2 (hb (σ 54 to) f))) (M := m_X4_isKnown) (av := [.inl to, .inl f]) cv_11_240 mk_X4_isKnown (by decide) (b := 53) rfl rfl (Nat.le_of_ble_eq_true rfl) dX11_ripple_53 (does_X4_isKnown σ to f (by omega)) ?_
          refine zRx.if_eqB (tgt := 61) dX11_ripple_56 (by decide) (fun c56 => ?_) (fun c56 => ?_)
          · refine zRx.aload_n 0 rfl rfl dX11_ripple_61 ?_
            refine zRx.getR (a := 0) (b := 53) fl_11_60 rfl rfl dX11_ripple_62 ?_
            refine zRx.iload_n 2 rfl rfl dX11_ripple_65 ?_
            refine zRx.iload_n 3 rfl rfl dX11_ripple_66 ?_
            refine zRx.cVi (w := .inl (V_X4_freshFor σ to f)) (M := m_X4_freshFor) (av := [.inl to, .inl f]) cv_11_318 mk_X4_freshFor (by decide) (b := 53) rfl rfl (Nat.le_of_ble_eq_true rfl) dX11_ripple_67 (does_X4_freshFor σ to f (by omega) (by omega)) ?_
            refine zRx.istore (ls' := [(0, zP 0), (1, .inl who), (2, .inl to), (3, .inl f), (4, .inl i), (5, .inl (V_X4_freshFor σ to f))]) rfl (by decide) dX11_ripple_70 ?_
            refine zRx.iload 4 rfl dX11_ripple_72 ?_
            by_cases c74_0 : i = 0
            · refine zRx.topI (b := 0) c74_0 ?_
              refine zRx.tableIn (tgt := 100) dX11_ripple_74 (by decide) (by decide) rfl (by decide) ?_
              refine zRx.iload 5 rfl dX11_ripple_100 ?_
              exact zR.iret rfl dX11_ripple_102 ⟨by unfold V_X11_ripple; rw [if_pos c8, if_pos c19, if_pos c30, if_pos c44, if_neg c56, if_pos c74_0], rfl⟩
            by_cases c74_1 : i = 1
            · refine zRx.topI (b := 1) c74_1 ?_
              refine zRx.tableIn (tgt := 103) dX11_ripple_74 (by decide) (by decide) rfl (by decide) ?_
              refine zRx.aload_n 0 rfl rfl dX11_ripple_103 ?_
              refine zRx.getR (a := 0) (b := 53) fl_11_60 rfl rfl dX11_ripple_104 ?_
              refine zRx.iload_n 2 rfl rfl dX11_ripple_107 ?_
              refine zRx.iload 5 rfl dX11_ripple_108 ?_
              refine zRx.cVi (w := .inl (R_X4_openAbout σ to (V_X4_freshFor σ to f))) (M := m_X4_openAbout) (av := [.inl to, .inl (V_X4_freshFor σ to f)]) cv_11_321 mk_X4_openAbout (by decide) (b := 53) rfl rfl (Nat.le_of_ble_eq_true rfl) dX11_ripple_110 (does_X4_openAbout σ to (V_X4_freshFor σ to f) hm) ?_
              exact zR.iret rfl dX11_ripple_113 ⟨by unfold V_X11_ripple; rw [if_pos c8, if_pos c19, if_pos c30, if_pos c44, if_neg c56, if_neg c74_0, if_pos c74_1], rfl⟩
            by_cases c74_2 : i = 2
            · refine zRx.topI (b := 2) c74_2 ?_
              refine zRx.tableIn (tgt := 114) dX11_ripple_74 (by decide) (by decide) rfl (by decide) ?_
              refine zRx.aload_n 0 rfl rfl dX11_ripple_114 ?_
              refine zRx.getR (a := 0) (b := 53) fl_11_60 rfl rfl dX11_ripple_115 ?_
              refine zRx.cVi (w := .inl (V_X4_owedInAll σ)) (M := m_X4_owedInAll) (av := []) cv_11_324 mk_X4_owedInAll (by decide) (b := 53) rfl rfl (Nat.le_of_ble_eq_true rfl) dX11_ripple_118 (does_X4_owedInAll σ hm) ?_
              refine zRx.aload_n 0 rfl rfl dX11_ripple_121 ?_
              refine zRx.getR (a := 0) (b := 53) fl_11_60 rfl rfl dX11_ripple_122 ?_
              refine zRx.iload_n 2 rfl rfl dX11_ripple_125 ?_
              refine zRx.iload 5 rfl dX11_ripple_126 ?_
              refine zRx.cVi (w := .inl (R_X4_growthAbout σ to (V_X4_freshFor σ to f))) (M := m_X4_growthAbout) (av := [.inl to, .inl (V_X4_freshFor σ to f)]) cv_11_327 mk_X4_growthAbout (by decide) (b := 53) rfl rfl (Nat.le_of_ble_eq_true rfl) dX11_ripple_128 (does_X4_growthAbout σ to (V_X4_freshFor σ to f) hm) ?_
              refine zRx.iaddW dX11_ripple_131 ?_
              exact zR.iret rfl dX11_ripple_132 ⟨by unfold V_X11_ripple; rw [if_pos c8, if_pos c19, if_pos c30, if_pos c44, if_neg c56, if_neg c74_0, if_neg c74_1, if_pos c74_2], rfl⟩
            refine zRx.tableOut (tgt := 133) dX11_ripple_74 (by omega) (by decide) ?_
            refine zRx.iconst ⟨by decide, by decide⟩ dX11_ripple_133 ?_
            exact zR.iret rfl dX11_ripple_134 ⟨by unfold V_X11_ripple; rw [if_pos c8, if_pos c19, if_pos c30, if_pos c44, if_neg c56, if_neg c74_0, if_neg c74_1, if_neg c74_2], rfl⟩
          · refine zRx.iconst ⟨by decide, by decide⟩ dX11_ripple_59 ?_
            exact zR.iret rfl dX11_ripple_60 ⟨by unfold V_X11_ripple; rw [if_pos c8, if_pos c19, if_pos c30, if_pos c44, if_pos c56], rfl⟩
      · refine zRx.iconst ⟨by decide, by decide⟩ dX11_ripple_33 ?_
        exact zR.iret rfl dX11_ripple_34 ⟨by unfold V_X11_ripple; rw [if_pos c8, if_pos c19, if_neg c30], rfl⟩

def V_X11_unsaid (σ : zG) (x : Int) : Int := if 0 ≤ x ∧ x < (σ 27 0) then (V_X4_owedInAllt (R_X4_judget σ x)) else (-1)
def F_X11_unsaid (σ : zG) (x : Int) : zG := if 0 ≤ x ∧ x < (σ 27 0) then (R_X4_judget σ x) else σ
theorem fr_F_X11_unsaid (σ : zG) (x : Int) {k : Nat} (h : k ∉ [67, 68, 69, 70, 71, 72, 73, 74, 75, 76, 77, 78, 79, 80]) : (F_X11_unsaid σ x) k = σ k := by
  have ne : ∀ c ∈ [67, 68, 69, 70, 71, 72, 73, 74, 75, 76, 77, 78, 79, 80], k ≠ c := fun c hc e => h (e ▸ hc)
  have nk_R_X4_judget : k ∉ [67, 68, 69, 70, 71, 72, 73, 74, 75, 76, 77, 78, 79, 80] := fun hm => h (by first | (revert hm; simp only [List.mem_cons, List.not_mem_nil, or_false]; omega) | (simp at hm))
  unfold F_X11_unsaid
  repeat' split
  all_goals first | rfl | simp only [zu_row _ _ _ (ne 67 (by decide)), zu_row _ _ _ (ne 68 (by decide)), zu_row _ _ _ (ne 69 (by decide)), zu_row _ _ _ (ne 70 (by decide)), zu_row _ _ _ (ne 71 (by decide)), zu_row _ _ _ (ne 72 (by decide)), zu_row _ _ _ (ne 73 (by decide)), zu_row _ _ _ (ne 74 (by decide)), zu_row _ _ _ (ne 75 (by decide)), zu_row _ _ _ (ne 76 (by decide)), zu_row _ _ _ (ne 77 (by decide)), zu_row _ _ _ (ne 78 (by decide)), zu_row _ _ _ (ne 79 (by decide)), zu_row _ _ _ (ne 80 (by decide)), fr_R_X4_judget (h := nk_R_X4_judget)]

set_option maxRecDepth 20000 in
theorem does_X11_unsaid (σ : zG) (x : Int) (hW : WC σ) (hmt : R_X4_judget σ x 67 8 ≤ 128) : zDo SC 6 m_X11_unsaid [zP 0, .inl x] σ (zEq (some (.inl (V_X11_unsaid σ x))) (F_X11_unsaid σ x)) := by
  refine zDo.intro mk_X11_unsaid (Nat.le_of_ble_eq_true rfl) ?_
  refine zRx.aload_n 0 rfl rfl dX11_unsaid_0 ?_
  refine zRx.getR (a := 0) (b := 27) fl_11_38 rfl rfl dX11_unsaid_1 ?_
  refine zRx.iload_n 1 rfl rfl dX11_unsaid_4 ?_
  refine zRx.cVi (w := .inl (b2 (0 ≤ x ∧ x < (σ 27 0)))) (M := m_X0_hasLine) (av := [.inl x]) cv_11_193 mk_X0_hasLine (by decide) (b := 27) rfl rfl (Nat.le_of_ble_eq_true rfl) dX11_unsaid_5 (hasLine2 σ x (σ 27 0) rfl) ?_
  refine zRx.if_neB (tgt := 13) dX11_unsaid_8 (by decide) (fun c8 => ?_) (fun c8 => ?_)
  · refine zRx.aload_n 0 rfl rfl dX11_unsaid_13 ?_
    refine zRx.getR (a := 0) (b := 67) fl_11_64 rfl rfl dX11_unsaid_14 ?_
    refine zRx.iload_n 1 rfl rfl dX11_unsaid_17 ?_
    refine zRx.cVv (M := m_X4_judge) (av := [.inl x]) cv_11_330 mk_X4_judge (by decide) (b := 67) rfl rfl (Nat.le_of_ble_eq_true rfl) dX11_unsaid_18 (does_X4_judget σ x hW) ?_
    refine zRx.aload_n 0 rfl rfl dX11_unsaid_21 ?_
    refine zRx.getR (a := 0) (b := 67) fl_11_64 rfl rfl dX11_unsaid_22 ?_
    refine zRx.cVi (w := .inl (V_X4_owedInAllt (R_X4_judget σ x))) (M := m_X4_owedInAll) (av := []) cv_11_324 mk_X4_owedInAll (by decide) (b := 67) rfl rfl (Nat.le_of_ble_eq_true rfl) dX11_unsaid_25 (does_X4_owedInAllt (R_X4_judget σ x) hmt) ?_
    exact zR.iret rfl dX11_unsaid_28 ⟨by unfold V_X11_unsaid; rw [if_pos c8], by unfold F_X11_unsaid; rw [if_pos c8]⟩
  · refine zRx.iconst ⟨by decide, by decide⟩ dX11_unsaid_11 ?_
    exact zR.iret rfl dX11_unsaid_12 ⟨by unfold V_X11_unsaid; rw [if_neg c8], by unfold F_X11_unsaid; rw [if_neg c8]⟩

