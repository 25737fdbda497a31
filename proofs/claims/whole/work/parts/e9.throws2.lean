/-! the class: the four calls that may throw -/
def A_X11_fact (σ : zG) (f what : Int) : Option Int := if 0 ≤ f ∧ f < (σ 5 1) then (if what = 0 then (some (σ 9 f)) else (if what = 1 then (some (σ 10 f)) else (if what = 2 then (some (σ 11 f)) else none))) else none
set_option maxRecDepth 20000 in
theorem dox_X11_fact (σ : zG) (f what : Int) (hF : σ 5 1 ≤ 12) : zDoX SC 6 m_X11_fact [zP 0, .inl f, .inl what] σ (A_X11_fact σ f what) := by
  refine zDoX.intro mk_X11_fact rfl rfl (Nat.le_of_ble_eq_true rfl) (by decide) ?_
  refine zRx.aload_n 0 rfl rfl dX11_fact_0 ?_
  refine zRx.getR (a := 0) (b := 5) fl_11_28 rfl rfl dX11_fact_1 ?_
  refine zRx.iload_n 1 rfl rfl dX11_fact_4 ?_
  refine zRx.cVi (w := .inl (b2 (0 ≤ f ∧ f < (σ 5 1)))) (M := m_X9_hasFact) (av := [.inl f]) cv_11_142 mk_X9_hasFact (by decide) (b := 5) rfl rfl (Nat.le_of_ble_eq_true rfl) dX11_fact_5 (hasFact2 σ f (σ 5 1) rfl) ?_
  refine zRx.if_neB (tgt := 19) dX11_fact_8 (by decide) (fun c8 => ?_) (fun c8 => ?_)
  · refine zRx.iload_n 2 rfl rfl dX11_fact_19 ?_
    by_cases c20_0 : what = 0
    · refine zRx.topI (b := 0) c20_0 ?_
      refine zRx.tableIn (tgt := 48) dX11_fact_20 (by decide) (by decide) rfl (by decide) ?_
      refine zRx.aload_n 0 rfl rfl dX11_fact_48 ?_
      refine zRx.getR (a := 0) (b := 5) fl_11_28 rfl rfl dX11_fact_49 ?_
      refine zRx.getR (a := 5) (b := 9) fl_11_149 rfl rfl dX11_fact_52 ?_
      refine zRx.iload_n 1 rfl rfl dX11_fact_55 ?_
      refine zRx.ialdv (v := σ 9 f) rfl rfl (by omega) (by omega) dX11_fact_56 ?_
      exact zRx.stop ⟨rfl, rfl, Or.inl ⟨_, by unfold A_X11_fact; rw [if_pos c8, if_pos c20_0], dX11_fact_57, rfl⟩⟩
    by_cases c20_1 : what = 1
    · refine zRx.topI (b := 1) c20_1 ?_
      refine zRx.tableIn (tgt := 58) dX11_fact_20 (by decide) (by decide) rfl (by decide) ?_
      refine zRx.aload_n 0 rfl rfl dX11_fact_58 ?_
      refine zRx.getR (a := 0) (b := 5) fl_11_28 rfl rfl dX11_fact_59 ?_
      refine zRx.getR (a := 5) (b := 10) fl_11_152 rfl rfl dX11_fact_62 ?_
      refine zRx.iload_n 1 rfl rfl dX11_fact_65 ?_
      refine zRx.ialdv (v := σ 10 f) rfl rfl (by omega) (by omega) dX11_fact_66 ?_
      exact zRx.stop ⟨rfl, rfl, Or.inl ⟨_, by unfold A_X11_fact; rw [if_pos c8, if_neg c20_0, if_pos c20_1], dX11_fact_67, rfl⟩⟩
    by_cases c20_2 : what = 2
    · refine zRx.topI (b := 2) c20_2 ?_
      refine zRx.tableIn (tgt := 68) dX11_fact_20 (by decide) (by decide) rfl (by decide) ?_
      refine zRx.aload_n 0 rfl rfl dX11_fact_68 ?_
      refine zRx.getR (a := 0) (b := 5) fl_11_28 rfl rfl dX11_fact_69 ?_
      refine zRx.getR (a := 5) (b := 11) fl_11_155 rfl rfl dX11_fact_72 ?_
      refine zRx.iload_n 1 rfl rfl dX11_fact_75 ?_
      refine zRx.ialdv (v := σ 11 f) rfl rfl (by omega) (by omega) dX11_fact_76 ?_
      exact zRx.stop ⟨rfl, rfl, Or.inl ⟨_, by unfold A_X11_fact; rw [if_pos c8, if_neg c20_0, if_neg c20_1, if_pos c20_2], dX11_fact_77, rfl⟩⟩
    refine zRx.tableOut (tgt := 78) dX11_fact_20 (by omega) (by decide) ?_
    exact zRx.stop ⟨rfl, rfl, Or.inr ⟨by unfold A_X11_fact; rw [if_pos c8, if_neg c20_0, if_neg c20_1, if_neg c20_2], rfl, dX11_fact_78, dX11_fact_81, dX11_fact_82, dX11_fact_85⟩⟩
  · exact zRx.stop ⟨rfl, rfl, Or.inr ⟨by unfold A_X11_fact; rw [if_neg c8], rfl, dX11_fact_11, dX11_fact_14, dX11_fact_15, dX11_fact_18⟩⟩

def A_X11_line (σ : zG) (i what : Int) : Option Int := if 0 ≤ i ∧ i < (σ 27 0) then (if what = 0 then (some (σ 28 i)) else (if what = 1 then (some (σ 29 i)) else (if what = 2 then (some (σ 30 i)) else (if what = 3 then (some (σ 31 i)) else (if what = 4 then (some (σ 32 i)) else none))))) else none
set_option maxRecDepth 20000 in
theorem dox_X11_line (σ : zG) (i what : Int) (hL : σ 27 0 ≤ 60) : zDoX SC 6 m_X11_line [zP 0, .inl i, .inl what] σ (A_X11_line σ i what) := by
  refine zDoX.intro mk_X11_line rfl rfl (Nat.le_of_ble_eq_true rfl) (by decide) ?_
  refine zRx.aload_n 0 rfl rfl dX11_line_0 ?_
  refine zRx.getR (a := 0) (b := 27) fl_11_38 rfl rfl dX11_line_1 ?_
  refine zRx.iload_n 1 rfl rfl dX11_line_4 ?_
  refine zRx.cVi (w := .inl (b2 (0 ≤ i ∧ i < (σ 27 0)))) (M := m_X0_hasLine) (av := [.inl i]) cv_11_193 mk_X0_hasLine (by decide) (b := 27) rfl rfl (Nat.le_of_ble_eq_true rfl) dX11_line_5 (hasLine2 σ i (σ 27 0) rfl) ?_
  refine zRx.if_neB (tgt := 19) dX11_line_8 (by decide) (fun c8 => ?_) (fun c8 => ?_)
  · refine zRx.iload_n 2 rfl rfl dX11_line_19 ?_
    by_cases c20_0 : what = 0
    · refine zRx.topI (b := 0) c20_0 ?_
      refine zRx.tableIn (tgt := 56) dX11_line_20 (by decide) (by decide) rfl (by decide) ?_
      refine zRx.aload_n 0 rfl rfl dX11_line_56 ?_
      refine zRx.getR (a := 0) (b := 27) fl_11_38 rfl rfl dX11_line_57 ?_
      refine zRx.getR (a := 27) (b := 28) fl_11_196 rfl rfl dX11_line_60 ?_
      refine zRx.iload_n 1 rfl rfl dX11_line_63 ?_
      refine zRx.ialdv (v := σ 28 i) rfl rfl (by omega) (by omega) dX11_line_64 ?_
      exact zRx.stop ⟨rfl, rfl, Or.inl ⟨_, by unfold A_X11_line; rw [if_pos c8, if_pos c20_0], dX11_line_65, rfl⟩⟩
    by_cases c20_1 : what = 1
    · refine zRx.topI (b := 1) c20_1 ?_
      refine zRx.tableIn (tgt := 66) dX11_line_20 (by decide) (by decide) rfl (by decide) ?_
      refine zRx.aload_n 0 rfl rfl dX11_line_66 ?_
      refine zRx.getR (a := 0) (b := 27) fl_11_38 rfl rfl dX11_line_67 ?_
      refine zRx.getR (a := 27) (b := 29) fl_11_199 rfl rfl dX11_line_70 ?_
      refine zRx.iload_n 1 rfl rfl dX11_line_73 ?_
      refine zRx.ialdv (v := σ 29 i) rfl rfl (by omega) (by omega) dX11_line_74 ?_
      exact zRx.stop ⟨rfl, rfl, Or.inl ⟨_, by unfold A_X11_line; rw [if_pos c8, if_neg c20_0, if_pos c20_1], dX11_line_75, rfl⟩⟩
    by_cases c20_2 : what = 2
    · refine zRx.topI (b := 2) c20_2 ?_
      refine zRx.tableIn (tgt := 76) dX11_line_20 (by decide) (by decide) rfl (by decide) ?_
      refine zRx.aload_n 0 rfl rfl dX11_line_76 ?_
      refine zRx.getR (a := 0) (b := 27) fl_11_38 rfl rfl dX11_line_77 ?_
      refine zRx.getR (a := 27) (b := 30) fl_11_202 rfl rfl dX11_line_80 ?_
      refine zRx.iload_n 1 rfl rfl dX11_line_83 ?_
      refine zRx.ialdv (v := σ 30 i) rfl rfl (by omega) (by omega) dX11_line_84 ?_
      exact zRx.stop ⟨rfl, rfl, Or.inl ⟨_, by unfold A_X11_line; rw [if_pos c8, if_neg c20_0, if_neg c20_1, if_pos c20_2], dX11_line_85, rfl⟩⟩
    by_cases c20_3 : what = 3
    · refine zRx.topI (b := 3) c20_3 ?_
      refine zRx.tableIn (tgt := 86) dX11_line_20 (by decide) (by decide) rfl (by decide) ?_
      refine zRx.aload_n 0 rfl rfl dX11_line_86 ?_
      refine zRx.getR (a := 0) (b := 27) fl_11_38 rfl rfl dX11_line_87 ?_
      refine zRx.getR (a := 27) (b := 31) fl_11_205 rfl rfl dX11_line_90 ?_
      refine zRx.iload_n 1 rfl rfl dX11_line_93 ?_
      refine zRx.ialdv (v := σ 31 i) rfl rfl (by omega) (by omega) dX11_line_94 ?_
      exact zRx.stop ⟨rfl, rfl, Or.inl ⟨_, by unfold A_X11_line; rw [if_pos c8, if_neg c20_0, if_neg c20_1, if_neg c20_2, if_pos c20_3], dX11_line_95, rfl⟩⟩
    by_cases c20_4 : what = 4
    · refine zRx.topI (b := 4) c20_4 ?_
      refine zRx.tableIn (tgt := 96) dX11_line_20 (by decide) (by decide) rfl (by decide) ?_
      refine zRx.aload_n 0 rfl rfl dX11_line_96 ?_
      refine zRx.getR (a := 0) (b := 27) fl_11_38 rfl rfl dX11_line_97 ?_
      refine zRx.getR (a := 27) (b := 32) fl_11_206 rfl rfl dX11_line_100 ?_
      refine zRx.iload_n 1 rfl rfl dX11_line_103 ?_
      refine zRx.ialdv (v := σ 32 i) rfl rfl (by omega) (by omega) dX11_line_104 ?_
      exact zRx.stop ⟨rfl, rfl, Or.inl ⟨_, by unfold A_X11_line; rw [if_pos c8, if_neg c20_0, if_neg c20_1, if_neg c20_2, if_neg c20_3, if_pos c20_4], dX11_line_105, rfl⟩⟩
    refine zRx.tableOut (tgt := 106) dX11_line_20 (by omega) (by decide) ?_
    exact zRx.stop ⟨rfl, rfl, Or.inr ⟨by unfold A_X11_line; rw [if_pos c8, if_neg c20_0, if_neg c20_1, if_neg c20_2, if_neg c20_3, if_neg c20_4], rfl, dX11_line_106, dX11_line_109, dX11_line_110, dX11_line_113⟩⟩
  · exact zRx.stop ⟨rfl, rfl, Or.inr ⟨by unfold A_X11_line; rw [if_neg c8], rfl, dX11_line_11, dX11_line_14, dX11_line_15, dX11_line_18⟩⟩

def A_X11_debt (σ : zG) (d what : Int) : Option Int := if 0 ≤ d ∧ d < σ 53 8 then (if what = 0 then (some (σ 59 d)) else (if what = 1 then (some (σ 60 d)) else (if what = 2 then (some (σ 61 d)) else (if what = 3 then (some (σ 62 d)) else (if what = 4 then (some (σ 63 d)) else (if what = 5 then (some (σ 64 d)) else (if what = 6 then (some (σ 65 d)) else (if what = 7 then (some (σ 66 d)) else (if what = 8 then (if (V_X4_isLate σ d) = 0 then (some 0) else (some 1)) else none))))))))) else none
set_option maxRecDepth 20000 in
theorem dox_X11_debt (σ : zG) (d what : Int) (hm : σ 53 8 ≤ 128) (hT : ∀ d : Int, 0 ≤ d → d < σ 53 8 → 0 ≤ σ 64 d ∧ σ 64 d < 60) (hL : σ 27 0 ≤ 60) : zDoX SC 6 m_X11_debt [zP 0, .inl d, .inl what] σ (A_X11_debt σ d what) := by
  refine zDoX.intro mk_X11_debt rfl rfl (Nat.le_of_ble_eq_true rfl) (by decide) ?_
  refine zRx.aload_n 0 rfl rfl dX11_debt_0 ?_
  refine zRx.getR (a := 0) (b := 53) fl_11_60 rfl rfl dX11_debt_1 ?_
  refine zRx.iload_n 1 rfl rfl dX11_debt_4 ?_
  refine zRx.cVi (w := .inl (b2 (0 ≤ d ∧ d < σ 53 8))) (M := m_X4_hasDebt) (av := [.inl d]) cv_11_215 mk_X4_hasDebt (by decide) (b := 53) rfl rfl (Nat.le_of_ble_eq_true rfl) dX11_debt_5 (does_X4_hasDebt σ d) ?_
  refine zRx.if_neB (tgt := 19) dX11_debt_8 (by decide) (fun c8 => ?_) (fun c8 => ?_)
  · refine zRx.iload_n 2 rfl rfl dX11_debt_19 ?_
    by_cases c20_0 : what = 0
    · refine zRx.topI (b := 0) c20_0 ?_
      refine zRx.tableIn (tgt := 72) dX11_debt_20 (by decide) (by decide) rfl (by decide) ?_
      refine zRx.aload_n 0 rfl rfl dX11_debt_72 ?_
      refine zRx.getR (a := 0) (b := 53) fl_11_60 rfl rfl dX11_debt_73 ?_
      refine zRx.getR (a := 53) (b := 59) fl_11_218 rfl rfl dX11_debt_76 ?_
      refine zRx.iload_n 1 rfl rfl dX11_debt_79 ?_
      refine zRx.ialdv (v := σ 59 d) rfl rfl (by omega) (by omega) dX11_debt_80 ?_
      exact zRx.stop ⟨rfl, rfl, Or.inl ⟨_, by unfold A_X11_debt; rw [if_pos c8, if_pos c20_0], dX11_debt_81, rfl⟩⟩
    by_cases c20_1 : what = 1
    · refine zRx.topI (b := 1) c20_1 ?_
      refine zRx.tableIn (tgt := 82) dX11_debt_20 (by decide) (by decide) rfl (by decide) ?_
      refine zRx.aload_n 0 rfl rfl dX11_debt_82 ?_
      refine zRx.getR (a := 0) (b := 53) fl_11_60 rfl rfl dX11_debt_83 ?_
      refine zRx.getR (a := 53) (b := 60) fl_11_221 rfl rfl dX11_debt_86 ?_
      refine zRx.iload_n 1 rfl rfl dX11_debt_89 ?_
      refine zRx.ialdv (v := σ 60 d) rfl rfl (by omega) (by omega) dX11_debt_90 ?_
      exact zRx.stop ⟨rfl, rfl, Or.inl ⟨_, by unfold A_X11_debt; rw [if_pos c8, if_neg c20_0, if_pos c20_1], dX11_debt_91, rfl⟩⟩
    by_cases c20_2 : what = 2
    · refine zRx.topI (b := 2) c20_2 ?_
      refine zRx.tableIn (tgt := 92) dX11_debt_20 (by decide) (by decide) rfl (by decide) ?_
      refine zRx.aload_n 0 rfl rfl dX11_debt_92 ?_
      refine zRx.getR (a := 0) (b := 53) fl_11_60 rfl rfl dX11_debt_93 ?_
      refine zRx.getR (a := 53) (b := 61) fl_11_222 rfl rfl dX11_debt_96 ?_
      refine zRx.iload_n 1 rfl rfl dX11_debt_99 ?_
      refine zRx.ialdv (v := σ 61 d) rfl rfl (by omega) (by omega) dX11_debt_100 ?_
      exact zRx.stop ⟨rfl, rfl, Or.inl ⟨_, by unfold A_X11_debt; rw [if_pos c8, if_neg c20_0, if_neg c20_1, if_pos c20_2], dX11_debt_101, rfl⟩⟩
    by_cases c20_3 : what = 3
    · refine zRx.topI (b := 3) c20_3 ?_
      refine zRx.tableIn (tgt := 102) dX11_debt_20 (by decide) (by decide) rfl (by decide) ?_
      refine zRx.aload_n 0 rfl rfl dX11_debt_102 ?_
      refine zRx.getR (a := 0) (b := 53) fl_11_60 rfl rfl dX11_debt_103 ?_
      refine zRx.getR (a := 53) (b := 62) fl_11_223 rfl rfl dX11_debt_106 ?_
      refine zRx.iload_n 1 rfl rfl dX11_debt_109 ?_
      refine zRx.ialdv (v := σ 62 d) rfl rfl (by omega) (by omega) dX11_debt_110 ?_
      exact zRx.stop ⟨rfl, rfl, Or.inl ⟨_, by unfold A_X11_debt; rw [if_pos c8, if_neg c20_0, if_neg c20_1, if_neg c20_2, if_pos c20_3], dX11_debt_111, rfl⟩⟩
    by_cases c20_4 : what = 4
    · refine zRx.topI (b := 4) c20_4 ?_
      refine zRx.tableIn (tgt := 112) dX11_debt_20 (by decide) (by decide) rfl (by decide) ?_
      refine zRx.aload_n 0 rfl rfl dX11_debt_112 ?_
      refine zRx.getR (a := 0) (b := 53) fl_11_60 rfl rfl dX11_debt_113 ?_
      refine zRx.getR (a := 53) (b := 63) fl_11_226 rfl rfl dX11_debt_116 ?_
      refine zRx.iload_n 1 rfl rfl dX11_debt_119 ?_
      refine zRx.ialdv (v := σ 63 d) rfl rfl (by omega) (by omega) dX11_debt_120 ?_
      exact zRx.stop ⟨rfl, rfl, Or.inl ⟨_, by unfold A_X11_debt; rw [if_pos c8, if_neg c20_0, if_neg c20_1, if_neg c20_2, if_neg c20_3, if_pos c20_4], dX11_debt_121, rfl⟩⟩
    by_cases c20_5 : what = 5
    · refine zRx.topI (b := 5) c20_5 ?_
      refine zRx.tableIn (tgt := 122) dX11_debt_20 (by decide) (by decide) rfl (by decide) ?_
      refine zRx.aload_n 0 rfl rfl dX11_debt_122 ?_
      refine zRx.getR (a := 0) (b := 53) fl_11_60 rfl rfl dX11_debt_123 ?_
      refine zRx.getR (a := 53) (b := 64) fl_11_228 rfl rfl dX11_debt_126 ?_
      refine zRx.iload_n 1 rfl rfl dX11_debt_129 ?_
      refine zRx.ialdv (v := σ 64 d) rfl rfl (by omega) (by omega) dX11_debt_130 ?_
      exact zRx.stop ⟨rfl, rfl, Or.inl ⟨_, by unfold A_X11_debt; rw [if_pos c8, if_neg c20_0, if_neg c20_1, if_neg c20_2, if_neg c20_3, if_neg c20_4, if_pos c20_5], dX11_debt_131, rfl⟩⟩
    by_cases c20_6 : what = 6
    · refine zRx.topI (b := 6) c20_6 ?_
      refine zRx.tableIn (tgt := 132) dX11_debt_20 (by decide) (by decide) rfl (by decide) ?_
      refine zRx.aload_n 0 rfl rfl dX11_debt_132 ?_
      refine zRx.getR (a := 0) (b := 53) fl_11_60 rfl rfl dX11_debt_133 ?_
      refine zRx.getR (a := 53) (b := 65) fl_11_231 rfl rfl dX11_debt_136 ?_
      refine zRx.iload_n 1 rfl rfl dX11_debt_139 ?_
      refine zRx.ialdv (v := σ 65 d) rfl rfl (by omega) (by omega) dX11_debt_140 ?_
      exact zRx.stop ⟨rfl, rfl, Or.inl ⟨_, by unfold A_X11_debt; rw [if_pos c8, if_neg c20_0, if_neg c20_1, if_neg c20_2, if_neg c20_3, if_neg c20_4, if_neg c20_5, if_pos c20_6], dX11_debt_141, rfl⟩⟩
    by_cases c20_7 : what = 7
    · refine zRx.topI (b := 7) c20_7 ?_
      refine zRx.tableIn (tgt := 142) dX11_debt_20 (by decide) (by decide) rfl (by decide) ?_
      refine zRx.aload_n 0 rfl rfl dX11_debt_142 ?_
      refine zRx.getR (a := 0) (b := 53) fl_11_60 rfl rfl dX11_debt_143 ?_
      refine zRx.getR (a := 53) (b := 66) fl_11_234 rfl rfl dX11_debt_146 ?_
      refine zRx.iload_n 1 rfl rfl dX11_debt_149 ?_
      refine zRx.ialdv (v := σ 66 d) rfl rfl (by omega) (by omega) dX11_debt_150 ?_
      exact zRx.stop ⟨rfl, rfl, Or.inl ⟨_, by unfold A_X11_debt; rw [if_pos c8, if_neg c20_0, if_neg c20_1, if_neg c20_2, if_neg c20_3, if_neg c20_4, if_neg c20_5, if_neg c20_6, if_pos c20_7], dX11_debt_151, rfl⟩⟩
    by_cases c20_8 : what = 8
    · refine zRx.topI (b := 8) c20_8 ?_
      refine zRx.tableIn (tgt := 152) dX11_debt_20 (by decide) (by decide) rfl (by decide) ?_
      refine zRx.aload_n 0 rfl rfl dX11_debt_152 ?_
      refine zRx.getR (a := 0) (b := 53) fl_11_60 rfl rfl dX11_debt_153 ?_
      refine zRx.iload_n 1 rfl rfl dX11_debt_156 ?_
      refine zRx.cVi (w := .inl (V_X4_isLate σ d)) (M := m_X4_isLate) (av := [.inl d]) cv_11_237 mk_X4_isLate (by decide) (b := 53) rfl rfl (Nat.le_of_ble_eq_true rfl) dX11_debt_157 (does_X4_isLate σ d (by omega) (hT _ (by omega) (by omega)) hL) ?_
      refine zRx.if_eq (tgt := 167) dX11_debt_160 (by decide) (fun c160 => ?_) (fun c160 => ?_)
      · refine zRx.iconst ⟨by decide, by decide⟩ dX11_debt_167 ?_
        exact zRx.stop ⟨rfl, rfl, Or.inl ⟨_, by unfold A_X11_debt; rw [if_pos c8, if_neg c20_0, if_neg c20_1, if_neg c20_2, if_neg c20_3, if_neg c20_4, if_neg c20_5, if_neg c20_6, if_neg c20_7, if_pos c20_8, if_pos c160], dX11_debt_168, rfl⟩⟩
      · refine zRx.iconst ⟨by decide, by decide⟩ dX11_debt_163 ?_
        refine zRx.goto (tgt := 168) dX11_debt_164 (by decide) ?_
        exact zRx.stop ⟨rfl, rfl, Or.inl ⟨_, by unfold A_X11_debt; rw [if_pos c8, if_neg c20_0, if_neg c20_1, if_neg c20_2, if_neg c20_3, if_neg c20_4, if_neg c20_5, if_neg c20_6, if_neg c20_7, if_pos c20_8, if_neg c160], dX11_debt_168, rfl⟩⟩
    refine zRx.tableOut (tgt := 169) dX11_debt_20 (by omega) (by decide) ?_
    exact zRx.stop ⟨rfl, rfl, Or.inr ⟨by unfold A_X11_debt; rw [if_pos c8, if_neg c20_0, if_neg c20_1, if_neg c20_2, if_neg c20_3, if_neg c20_4, if_neg c20_5, if_neg c20_6, if_neg c20_7, if_neg c20_8], rfl, dX11_debt_169, dX11_debt_172, dX11_debt_173, dX11_debt_176⟩⟩
  · exact zRx.stop ⟨rfl, rfl, Or.inr ⟨by unfold A_X11_debt; rw [if_neg c8], rfl, dX11_debt_11, dX11_debt_14, dX11_debt_15, dX11_debt_18⟩⟩

def A_X11_came (σ : zG) (who what : Int) : Option Int := if 0 ≤ who ∧ who < (σ 5 0) then (if what < 0 then none else (if what ≤ 4 then (some (R_X4_sumFor σ who what)) else none)) else none
set_option maxRecDepth 20000 in
theorem dox_X11_came (σ : zG) (who what : Int) (hp : σ 5 0 ≤ 8) (hm : σ 53 8 ≤ 128) : zDoX SC 6 m_X11_came [zP 0, .inl who, .inl what] σ (A_X11_came σ who what) := by
  refine zDoX.intro mk_X11_came rfl rfl (Nat.le_of_ble_eq_true rfl) (by decide) ?_
  refine zRx.aload_n 0 rfl rfl dX11_came_0 ?_
  refine zRx.getR (a := 0) (b := 5) fl_11_28 rfl rfl dX11_came_1 ?_
  refine zRx.iload_n 1 rfl rfl dX11_came_4 ?_
  refine zRx.cVi (w := .inl (b2 (0 ≤ who ∧ who < (σ 5 0)))) (M := m_X9_hasWho) (av := [.inl who]) cv_11_158 mk_X9_hasWho (by decide) (b := 5) rfl rfl (Nat.le_of_ble_eq_true rfl) dX11_came_5 (hasWho2 σ who (σ 5 0) rfl) ?_
  refine zRx.if_eqB (tgt := 20) dX11_came_8 (by decide) (fun c8 => ?_) (fun c8 => ?_)
  · exact zRx.stop ⟨rfl, rfl, Or.inr ⟨by unfold A_X11_came; rw [if_neg c8], rfl, dX11_came_20, dX11_came_23, dX11_came_24, dX11_came_27⟩⟩
  · refine zRx.iload_n 2 rfl rfl dX11_came_11 ?_
    refine zRx.if_lt (tgt := 20) dX11_came_12 (by decide) (fun c12 => ?_) (fun c12 => ?_)
    · exact zRx.stop ⟨rfl, rfl, Or.inr ⟨by unfold A_X11_came; rw [if_pos c8, if_pos c12], rfl, dX11_came_20, dX11_came_23, dX11_came_24, dX11_came_27⟩⟩
    · refine zRx.iload_n 2 rfl rfl dX11_came_15 ?_
      refine zRx.iconst ⟨by decide, by decide⟩ dX11_came_16 ?_
      refine zRx.icmp_le (tgt := 28) dX11_came_17 (by decide) (fun c17 => ?_) (fun c17 => ?_)
      · refine zRx.aload_n 0 rfl rfl dX11_came_28 ?_
        refine zRx.getR (a := 0) (b := 53) fl_11_60 rfl rfl dX11_came_29 ?_
        refine zRx.iload_n 1 rfl rfl dX11_came_32 ?_
        refine zRx.iload_n 2 rfl rfl dX11_came_33 ?_
        refine zRx.cVi (w := .inl (R_X4_sumFor σ who what)) (M := m_X4_sumFor) (av := [.inl who, .inl what]) cv_11_248 mk_X4_sumFor (by decide) (b := 53) rfl rfl (Nat.le_of_ble_eq_true rfl) dX11_came_34 (does_X4_sumFor σ who what hm (by omega)) ?_
        exact zRx.stop ⟨rfl, rfl, Or.inl ⟨_, by unfold A_X11_came; rw [if_pos c8, if_neg (Int.not_lt.mpr c12), if_pos c17], dX11_came_37, rfl⟩⟩
      · exact zRx.stop ⟨rfl, rfl, Or.inr ⟨by unfold A_X11_came; rw [if_pos c8, if_neg (Int.not_lt.mpr c12), if_neg (Int.not_le.mpr c17)], rfl, dX11_came_20, dX11_came_23, dX11_came_24, dX11_came_27⟩⟩

