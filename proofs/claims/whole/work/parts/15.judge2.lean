/-! the ledger: the book judged -/
/-- a line that is no day names people and facts -/
def WL (σ : zG) (i : Int) : Prop := σ 28 i ≠ 0 → 0 ≤ σ 29 i ∧ σ 29 i < 8 ∧ 0 ≤ σ 30 i ∧ σ 30 i < 8 ∧ 0 ≤ σ 31 i ∧ σ 31 i < 12 ∧ 0 ≤ σ 11 (σ 31 i) ∧ σ 11 (σ 31 i) < 8 ∧ σ 29 i ≠ σ 30 i
def WC (σ : zG) : Prop := σ 5 0 ≤ 8 ∧ σ 5 2 ≤ 8 ∧ σ 5 1 ≤ 12 ∧ σ 27 0 ≤ 60 ∧ ∀ i : Int, 0 ≤ i → i < σ 27 0 → WL σ i
theorem WC_fr {σ τ : zG} (h : ∀ k, k < 53 → τ k = σ k) (hC : WC σ) : WC τ := by
  unfold WC WL at *
  rw [h 5 (by decide), h 27 (by decide), h 28 (by decide), h 29 (by decide), h 30 (by decide), h 31 (by decide), h 11 (by decide)]
  exact hC

def V_X4_judgeLine (σ : zG) (i : Int) : Int := if (σ 28 i) = 0 then 0 else (if (σ 28 i) = 1 then (if (R_X4_whyWrong σ (bor (σ 32 i) (bshl 1 (σ 29 i))) (σ 30 i) (σ 31 i)) = 0 then 0 else (R_X4_whyWrong σ (bor (σ 32 i) (bshl 1 (σ 29 i))) (σ 30 i) (σ 31 i))) else (if (R_X4_whyWrong σ (bor 0 (bshl 1 (σ 29 i))) (σ 30 i) (σ 31 i)) = 0 then 0 else (R_X4_whyWrong σ (bor 0 (bshl 1 (σ 29 i))) (σ 30 i) (σ 31 i))))
def F_X4_judgeLine (σ : zG) (i : Int) : zG := if (σ 28 i) = 0 then σ else (if (σ 28 i) = 1 then (if (R_X4_whyWrong σ (bor (σ 32 i) (bshl 1 (σ 29 i))) (σ 30 i) (σ 31 i)) = 0 then (if (σ 28 i) = 1 then (R_X4_lie σ i) else (if (σ 28 i) = 2 then (F_X4_owe σ (σ 29 i) (V_cutUpW (w32 ((σ 9 (σ 31 i)) * (σ 15 3))) 10) i) else (if (σ 28 i) = 3 then (F_X4_tell σ (σ 29 i) (σ 30 i) (σ 31 i) i) else (R_X4_learn (zu (zu σ 56 (σ 29 i) (w32 ((σ 56 (σ 29 i)) + (σ 32 i)))) 56 (σ 30 i) (w32 ((σ 56 (σ 30 i)) - (σ 32 i)))) (σ 30 i) (σ 31 i) i)))) else σ) else (if (R_X4_whyWrong σ (bor 0 (bshl 1 (σ 29 i))) (σ 30 i) (σ 31 i)) = 0 then (if (σ 28 i) = 1 then (R_X4_lie σ i) else (if (σ 28 i) = 2 then (F_X4_owe σ (σ 29 i) (V_cutUpW (w32 ((σ 9 (σ 31 i)) * (σ 15 3))) 10) i) else (if (σ 28 i) = 3 then (F_X4_tell σ (σ 29 i) (σ 30 i) (σ 31 i) i) else (R_X4_learn (zu (zu σ 56 (σ 29 i) (w32 ((σ 56 (σ 29 i)) + (σ 32 i)))) 56 (σ 30 i) (w32 ((σ 56 (σ 30 i)) - (σ 32 i)))) (σ 30 i) (σ 31 i) i)))) else σ))
theorem fr_F_X4_judgeLine (σ : zG) (i : Int) {k : Nat} (h : k ∉ [53, 54, 55, 56, 57, 59, 60, 61, 62, 63, 64, 65, 66]) : (F_X4_judgeLine σ i) k = σ k := by
  have ne : ∀ c ∈ [53, 54, 55, 56, 57, 59, 60, 61, 62, 63, 64, 65, 66], k ≠ c := fun c hc e => h (e ▸ hc)
  have nk_R_X4_lie : k ∉ [53, 59, 60, 61, 62, 63, 64, 65, 66] := fun hm => h (by revert hm; simp only [List.mem_cons, List.not_mem_nil, or_false]; omega)
  have nk_F_X4_owe : k ∉ [53, 59, 60, 61, 62, 63, 64, 65, 66] := fun hm => h (by revert hm; simp only [List.mem_cons, List.not_mem_nil, or_false]; omega)
  have nk_F_X4_tell : k ∉ [53, 54, 55, 57, 63, 65, 66] := fun hm => h (by revert hm; simp only [List.mem_cons, List.not_mem_nil, or_false]; omega)
  have nk_R_X4_learn : k ∉ [53, 54, 57, 63, 66] := fun hm => h (by revert hm; simp only [List.mem_cons, List.not_mem_nil, or_false]; omega)
  unfold F_X4_judgeLine
  repeat' split
  all_goals first | rfl | simp only [zu_row _ _ _ (ne 53 (by decide)), zu_row _ _ _ (ne 54 (by decide)), zu_row _ _ _ (ne 55 (by decide)), zu_row _ _ _ (ne 56 (by decide)), zu_row _ _ _ (ne 57 (by decide)), zu_row _ _ _ (ne 59 (by decide)), zu_row _ _ _ (ne 60 (by decide)), zu_row _ _ _ (ne 61 (by decide)), zu_row _ _ _ (ne 62 (by decide)), zu_row _ _ _ (ne 63 (by decide)), zu_row _ _ _ (ne 64 (by decide)), zu_row _ _ _ (ne 65 (by decide)), zu_row _ _ _ (ne 66 (by decide)), fr_R_X4_lie (h := nk_R_X4_lie), fr_F_X4_owe (h := nk_F_X4_owe), fr_F_X4_tell (h := nk_F_X4_tell), fr_R_X4_learn (h := nk_R_X4_learn)]

set_option maxRecDepth 20000 in
theorem does_X4_judgeLine (σ : zG) (i : Int) (hi : 0 ≤ i ∧ i < 60) (hk : WL σ i) (hp : σ 5 0 ≤ 8) (hs : σ 5 2 ≤ 8) (hF : σ 5 1 ≤ 12) (hm : 0 ≤ σ 53 8 ∧ σ 53 8 ≤ 128) : zDo SC 4 m_X4_judgeLine [zP 53, .inl i] σ (zEq (some (.inl (V_X4_judgeLine σ i))) (F_X4_judgeLine σ i)) := by
  refine zDo.intro mk_X4_judgeLine (Nat.le_of_ble_eq_true rfl) ?_
  refine zRx.aload_n 0 rfl rfl dX4_judgeLine_0 ?_
  refine zRx.getR (a := 53) (b := 27) fl_4_55 rfl rfl dX4_judgeLine_1 ?_
  refine zRx.getR (a := 27) (b := 28) fl_4_95 rfl rfl dX4_judgeLine_4 ?_
  refine zRx.iload_n 1 rfl rfl dX4_judgeLine_7 ?_
  refine zRx.ialdv (v := σ 28 i) rfl rfl (by omega) (by omega) dX4_judgeLine_8 ?_
  refine zRx.istore_n (ls' := [(0, zP 53), (1, .inl i), (2, .inl (σ 28 i))]) rfl rfl (by decide) dX4_judgeLine_9 ?_
  refine zRx.iload_n 2 rfl rfl dX4_judgeLine_10 ?_
  refine zRx.if_ne (tgt := 16) dX4_judgeLine_11 (by decide) (fun c11 => ?_) (fun c11 => ?_)
  · have hK := hk c11
    refine zRx.aload_n 0 rfl rfl dX4_judgeLine_16 ?_
    refine zRx.getR (a := 53) (b := 27) fl_4_55 rfl rfl dX4_judgeLine_17 ?_
    refine zRx.getR (a := 27) (b := 29) fl_4_98 rfl rfl dX4_judgeLine_20 ?_
    refine zRx.iload_n 1 rfl rfl dX4_judgeLine_23 ?_
    refine zRx.ialdv (v := σ 29 i) rfl rfl (by omega) (by omega) dX4_judgeLine_24 ?_
    refine zRx.istore_n (ls' := [(0, zP 53), (1, .inl i), (2, .inl (σ 28 i)), (3, .inl (σ 29 i))]) rfl rfl (by decide) dX4_judgeLine_25 ?_
    refine zRx.aload_n 0 rfl rfl dX4_judgeLine_26 ?_
    refine zRx.getR (a := 53) (b := 27) fl_4_55 rfl rfl dX4_judgeLine_27 ?_
    refine zRx.getR (a := 27) (b := 30) fl_4_101 rfl rfl dX4_judgeLine_30 ?_
    refine zRx.iload_n 1 rfl rfl dX4_judgeLine_33 ?_
    refine zRx.ialdv (v := σ 30 i) rfl rfl (by omega) (by omega) dX4_judgeLine_34 ?_
    refine zRx.istore (ls' := [(0, zP 53), (1, .inl i), (2, .inl (σ 28 i)), (3, .inl (σ 29 i)), (4, .inl (σ 30 i))]) rfl (by decide) dX4_judgeLine_35 ?_
    refine zRx.aload_n 0 rfl rfl dX4_judgeLine_37 ?_
    refine zRx.getR (a := 53) (b := 27) fl_4_55 rfl rfl dX4_judgeLine_38 ?_
    refine zRx.getR (a := 27) (b := 31) fl_4_102 rfl rfl dX4_judgeLine_41 ?_
    refine zRx.iload_n 1 rfl rfl dX4_judgeLine_44 ?_
    refine zRx.ialdv (v := σ 31 i) rfl rfl (by omega) (by omega) dX4_judgeLine_45 ?_
    refine zRx.istore (ls' := [(0, zP 53), (1, .inl i), (2, .inl (σ 28 i)), (3, .inl (σ 29 i)), (4, .inl (σ 30 i)), (5, .inl (σ 31 i))]) rfl (by decide) dX4_judgeLine_46 ?_
    refine zRx.iload_n 2 rfl rfl dX4_judgeLine_48 ?_
    refine zRx.iconst ⟨by decide, by decide⟩ dX4_judgeLine_49 ?_
    refine zRx.icmp_ne (tgt := 65) dX4_judgeLine_50 (by decide) (fun c50 => ?_) (fun c50 => ?_)
    · refine zRx.iconst ⟨by decide, by decide⟩ dX4_judgeLine_65 ?_
      refine zRx.istore (ls' := [(0, zP 53), (1, .inl i), (2, .inl (σ 28 i)), (3, .inl (σ 29 i)), (4, .inl (σ 30 i)), (5, .inl (σ 31 i)), (6, .inl 0)]) rfl (by decide) dX4_judgeLine_66 ?_
      refine zRx.aload_n 0 rfl rfl dX4_judgeLine_68 ?_
      refine zRx.iload 6 rfl dX4_judgeLine_69 ?_
      refine zRx.iconst ⟨by decide, by decide⟩ dX4_judgeLine_71 ?_
      refine zRx.iload_n 3 rfl rfl dX4_judgeLine_72 ?_
      refine zRx.ishl dX4_judgeLine_73 ?_
      refine zRx.ior dX4_judgeLine_74 ?_
      refine zRx.iload 4 rfl dX4_judgeLine_75 ?_
      refine zRx.iload 5 rfl dX4_judgeLine_77 ?_
      refine zRx.cVi (w := .inl (R_X4_whyWrong σ (bor 0 (bshl 1 (σ 29 i))) (σ 30 i) (σ 31 i))) (M := m_X4_whyWrong) (av := [.inl (bor 0 (bshl 1 (σ 29 i))), .inl (σ 30 i), .inl (σ 31 i)]) cv_4_106 mk_X4_whyWrong (by decide) (b := 53) rfl rfl (Nat.le_of_ble_eq_true rfl) dX4_judgeLine_79 (does_X4_whyWrong σ (bor 0 (bshl 1 (σ 29 i))) (σ 30 i) (σ 31 i) (by omega) (by omega)) ?_
      refine zRx.istore (ls' := [(0, zP 53), (1, .inl i), (2, .inl (σ 28 i)), (3, .inl (σ 29 i)), (4, .inl (σ 30 i)), (5, .inl (σ 31 i)), (6, .inl 0), (7, .inl (R_X4_whyWrong σ (bor 0 (bshl 1 (σ 29 i))) (σ 30 i) (σ 31 i)))]) rfl (by decide) dX4_judgeLine_82 ?_
      refine zRx.iload 7 rfl dX4_judgeLine_84 ?_
      refine zRx.if_eq (tgt := 92) dX4_judgeLine_86 (by decide) (fun c86 => ?_) (fun c86 => ?_)
      · refine zRx.iload_n 2 rfl rfl dX4_judgeLine_92 ?_
        by_cases c93_1 : σ 28 i = 1
        · refine zRx.topI (b := 1) c93_1 ?_
          refine zRx.tableIn (tgt := 120) dX4_judgeLine_93 (by decide) (by decide) rfl (by decide) ?_
          refine zRx.aload_n 0 rfl rfl dX4_judgeLine_120 ?_
          refine zRx.iload_n 1 rfl rfl dX4_judgeLine_121 ?_
          refine zRx.cVv (M := m_X4_lie) (av := [.inl i]) cv_4_110 mk_X4_lie (by decide) (b := 53) rfl rfl (Nat.le_of_ble_eq_true rfl) dX4_judgeLine_122 (does_X4_lie σ i (by omega) (by omega) hm) ?_
          refine zRx.goto (tgt := 221) dX4_judgeLine_125 (by decide) ?_
          refine zRx.iconst ⟨by decide, by decide⟩ dX4_judgeLine_221 ?_
          exact zR.iret rfl dX4_judgeLine_222 ⟨by unfold V_X4_judgeLine; rw [if_neg c11, if_neg c50, if_pos c86], by unfold F_X4_judgeLine; rw [if_neg c11, if_neg c50, if_pos c86, if_pos c93_1]⟩
        by_cases c93_2 : σ 28 i = 2
        · refine zRx.topI (b := 2) c93_2 ?_
          refine zRx.tableIn (tgt := 128) dX4_judgeLine_93 (by decide) (by decide) rfl (by decide) ?_
          refine zRx.aload_n 0 rfl rfl dX4_judgeLine_128 ?_
          refine zRx.iload_n 3 rfl rfl dX4_judgeLine_129 ?_
          refine zRx.aload_n 0 rfl rfl dX4_judgeLine_130 ?_
          refine zRx.getR (a := 53) (b := 5) fl_4_51 rfl rfl dX4_judgeLine_131 ?_
          refine zRx.getR (a := 5) (b := 9) fl_4_114 rfl rfl dX4_judgeLine_134 ?_
          refine zRx.iload 5 rfl dX4_judgeLine_137 ?_
          refine zRx.ialdv (v := σ 9 (σ 31 i)) rfl rfl (by omega) (by omega) dX4_judgeLine_139 ?_
          refine zRx.aload_n 0 rfl rfl dX4_judgeLine_140 ?_
          refine zRx.getR (a := 53) (b := 5) fl_4_51 rfl rfl dX4_judgeLine_141 ?_
          refine zRx.getR (a := 5) (b := 15) fl_4_117 rfl rfl dX4_judgeLine_144 ?_
          refine zRx.iconst ⟨by decide, by decide⟩ dX4_judgeLine_147 ?_
          refine zRx.ialdv (v := σ 15 3) rfl rfl (by decide) (by decide) dX4_judgeLine_148 ?_
          refine zRx.imulW dX4_judgeLine_149 ?_
          refine zRx.bipush ⟨by decide, by decide⟩ rfl dX4_judgeLine_150 ?_
          refine zRx.cSi (w := .inl (V_cutUpW (w32 ((σ 9 (σ 31 i)) * (σ 15 3))) 10)) (M := m_X11_cutUp) (av := [.inl (w32 ((σ 9 (σ 31 i)) * (σ 15 3))), .inl 10]) cs_4_120 mk_X11_cutUp (by decide) rfl (Nat.le_of_ble_eq_true rfl) dX4_judgeLine_152 (does_cutUpW σ (w32 ((σ 9 (σ 31 i)) * (σ 15 3))) 10 SC) ?_
          refine zRx.iload_n 1 rfl rfl dX4_judgeLine_155 ?_
          refine zRx.cVv (M := m_X4_owe) (av := [.inl (σ 29 i), .inl (V_cutUpW (w32 ((σ 9 (σ 31 i)) * (σ 15 3))) 10), .inl i]) cv_4_124 mk_X4_owe (by decide) (b := 53) rfl rfl (Nat.le_of_ble_eq_true rfl) dX4_judgeLine_156 (does_X4_owe σ (σ 29 i) (V_cutUpW (w32 ((σ 9 (σ 31 i)) * (σ 15 3))) 10) i (by omega) (by omega)) ?_
          refine zRx.goto (tgt := 221) dX4_judgeLine_159 (by decide) ?_
          refine zRx.iconst ⟨by decide, by decide⟩ dX4_judgeLine_221 ?_
          exact zR.iret rfl dX4_judgeLine_222 ⟨by unfold V_X4_judgeLine; rw [if_neg c11, if_neg c50, if_pos c86], by unfold F_X4_judgeLine; rw [if_neg c11, if_neg c50, if_pos c86, if_neg c93_1, if_pos c93_2]⟩
        by_cases c93_3 : σ 28 i = 3
        · refine zRx.topI (b := 3) c93_3 ?_
          refine zRx.tableIn (tgt := 162) dX4_judgeLine_93 (by decide) (by decide) rfl (by decide) ?_
          refine zRx.aload_n 0 rfl rfl dX4_judgeLine_162 ?_
          refine zRx.iload_n 3 rfl rfl dX4_judgeLine_163 ?_
          refine zRx.iload 4 rfl dX4_judgeLine_164 ?_
          refine zRx.iload 5 rfl dX4_judgeLine_166 ?_
          refine zRx.iload_n 1 rfl rfl dX4_judgeLine_168 ?_
          refine zRx.cVv (M := m_X4_tell) (av := [.inl (σ 29 i), .inl (σ 30 i), .inl (σ 31 i), .inl i]) cv_4_128 mk_X4_tell (by decide) (b := 53) rfl rfl (Nat.le_of_ble_eq_true rfl) dX4_judgeLine_169 (does_X4_tell σ (σ 29 i) (σ 30 i) (σ 31 i) i (by omega) (by omega) (by omega) hp hs hF (by omega)) ?_
          refine zRx.goto (tgt := 221) dX4_judgeLine_172 (by decide) ?_
          refine zRx.iconst ⟨by decide, by decide⟩ dX4_judgeLine_221 ?_
          exact zR.iret rfl dX4_judgeLine_222 ⟨by unfold V_X4_judgeLine; rw [if_neg c11, if_neg c50, if_pos c86], by unfold F_X4_judgeLine; rw [if_neg c11, if_neg c50, if_pos c86, if_neg c93_1, if_neg c93_2, if_pos c93_3]⟩
        refine zRx.tableOut (tgt := 175) dX4_judgeLine_93 (by omega) (by decide) ?_
        refine zRx.aload_n 0 rfl rfl dX4_judgeLine_175 ?_
        refine zRx.getR (a := 53) (b := 56) fl_4_18 rfl rfl dX4_judgeLine_176 ?_
        refine zRx.iload_n 3 rfl rfl dX4_judgeLine_179 ?_
        refine zRx.dup2 rfl rfl dX4_judgeLine_180 ?_
        refine zRx.ialdv (v := σ 56 (σ 29 i)) rfl rfl (by omega) (by omega) dX4_judgeLine_181 ?_
        refine zRx.aload_n 0 rfl rfl dX4_judgeLine_182 ?_
        refine zRx.getR (a := 53) (b := 27) fl_4_55 rfl rfl dX4_judgeLine_183 ?_
        refine zRx.getR (a := 27) (b := 32) fl_4_103 rfl rfl dX4_judgeLine_186 ?_
        refine zRx.iload_n 1 rfl rfl dX4_judgeLine_189 ?_
        refine zRx.ialdv (v := σ 32 i) rfl rfl (by omega) (by omega) dX4_judgeLine_190 ?_
        refine zRx.iaddW dX4_judgeLine_191 ?_
        refine zRx.iast rfl (by omega) (by omega) dX4_judgeLine_192 ?_
        refine zRx.aload_n 0 rfl rfl dX4_judgeLine_193 ?_
        refine zRx.getR (a := 53) (b := 56) fl_4_18 rfl rfl dX4_judgeLine_194 ?_
        refine zRx.iload 4 rfl dX4_judgeLine_197 ?_
        refine zRx.dup2 rfl rfl dX4_judgeLine_199 ?_
        refine zRx.ialdv (v := σ 56 (σ 30 i)) (zu_off _ _ _ (by omega)) rfl (by omega) (by omega) dX4_judgeLine_200 ?_
        refine zRx.aload_n 0 rfl rfl dX4_judgeLine_201 ?_
        refine zRx.getR (a := 53) (b := 27) fl_4_55 rfl rfl dX4_judgeLine_202 ?_
        refine zRx.getR (a := 27) (b := 32) fl_4_103 rfl rfl dX4_judgeLine_205 ?_
        refine zRx.iload_n 1 rfl rfl dX4_judgeLine_208 ?_
        refine zRx.ialdv (v := σ 32 i) (zu_ne _ _ _ _ (by decide)) rfl (by omega) (by omega) dX4_judgeLine_209 ?_
        refine zRx.isubW dX4_judgeLine_210 ?_
        refine zRx.iast rfl (by omega) (by omega) dX4_judgeLine_211 ?_
        refine zRx.aload_n 0 rfl rfl dX4_judgeLine_212 ?_
        refine zRx.iload 4 rfl dX4_judgeLine_213 ?_
        refine zRx.iload 5 rfl dX4_judgeLine_215 ?_
        refine zRx.iload_n 1 rfl rfl dX4_judgeLine_217 ?_
        refine zRx.cVv (M := m_X4_learn) (av := [.inl (σ 30 i), .inl (σ 31 i), .inl i]) cv_4_132 mk_X4_learn (by decide) (b := 53) rfl rfl (Nat.le_of_ble_eq_true rfl) dX4_judgeLine_218 (does_X4_learn (zu (zu σ 56 (σ 29 i) (w32 ((σ 56 (σ 29 i)) + (σ 32 i)))) 56 (σ 30 i) (w32 ((σ 56 (σ 30 i)) - (σ 32 i)))) (σ 30 i) (σ 31 i) i (by omega) (by have e9 : (zu (zu σ 56 (σ 29 i) (w32 ((σ 56 (σ 29 i)) + (σ 32 i)))) 56 (σ 30 i) (w32 ((σ 56 (σ 30 i)) - (σ 32 i)))) 5 2 = σ 5 2 := ((zu_ne _ _ _ _ (by decide)).trans (zu_ne _ _ _ _ (by decide))); omega) (by have e9 : (zu (zu σ 56 (σ 29 i) (w32 ((σ 56 (σ 29 i)) + (σ 32 i)))) 56 (σ 30 i) (w32 ((σ 56 (σ 30 i)) - (σ 32 i)))) 5 1 = σ 5 1 := ((zu_ne _ _ _ _ (by decide)).trans (zu_ne _ _ _ _ (by decide))); omega) (by have e9 : (zu (zu σ 56 (σ 29 i) (w32 ((σ 56 (σ 29 i)) + (σ 32 i)))) 56 (σ 30 i) (w32 ((σ 56 (σ 30 i)) - (σ 32 i)))) 53 8 = σ 53 8 := ((zu_ne _ _ _ _ (by decide)).trans (zu_ne _ _ _ _ (by decide))); omega)) ?_
        refine zRx.iconst ⟨by decide, by decide⟩ dX4_judgeLine_221 ?_
        exact zR.iret rfl dX4_judgeLine_222 ⟨by unfold V_X4_judgeLine; rw [if_neg c11, if_neg c50, if_pos c86], by unfold F_X4_judgeLine; rw [if_neg c11, if_neg c50, if_pos c86, if_neg c93_1, if_neg c93_2, if_neg c93_3]⟩
      · refine zRx.iload 7 rfl dX4_judgeLine_89 ?_
        exact zR.iret rfl dX4_judgeLine_91 ⟨by unfold V_X4_judgeLine; rw [if_neg c11, if_neg c50, if_neg c86], by unfold F_X4_judgeLine; rw [if_neg c11, if_neg c50, if_neg c86]⟩
    · refine zRx.aload_n 0 rfl rfl dX4_judgeLine_53 ?_
      refine zRx.getR (a := 53) (b := 27) fl_4_55 rfl rfl dX4_judgeLine_54 ?_
      refine zRx.getR (a := 27) (b := 32) fl_4_103 rfl rfl dX4_judgeLine_57 ?_
      refine zRx.iload_n 1 rfl rfl dX4_judgeLine_60 ?_
      refine zRx.ialdv (v := σ 32 i) rfl rfl (by omega) (by omega) dX4_judgeLine_61 ?_
      refine zRx.goto (tgt := 66) dX4_judgeLine_62 (by decide) ?_
      refine zRx.istore (ls' := [(0, zP 53), (1, .inl i), (2, .inl (σ 28 i)), (3, .inl (σ 29 i)), (4, .inl (σ 30 i)), (5, .inl (σ 31 i)), (6, .inl (σ 32 i))]) rfl (by decide) dX4_judgeLine_66 ?_
      refine zRx.aload_n 0 rfl rfl dX4_judgeLine_68 ?_
      refine zRx.iload 6 rfl dX4_judgeLine_69 ?_
      refine zRx.iconst ⟨by decide, by decide⟩ dX4_judgeLine_71 ?_
      refine zRx.iload_n 3 rfl rfl dX4_judgeLine_72 ?_
      refine zRx.ishl dX4_judgeLine_73 ?_
      refine zRx.ior dX4_judgeLine_74 ?_
      refine zRx.iload 4 rfl dX4_judgeLine_75 ?_
      refine zRx.iload 5 rfl dX4_judgeLine_77 ?_
      refine zRx.cVi (w := .inl (R_X4_whyWrong σ (bor (σ 32 i) (bshl 1 (σ 29 i))) (σ 30 i) (σ 31 i))) (M := m_X4_whyWrong) (av := [.inl (bor (σ 32 i) (bshl 1 (σ 29 i))), .inl (σ 30 i), .inl (σ 31 i)]) cv_4_106 mk_X4_whyWrong (by decide) (b := 53) rfl rfl (Nat.le_of_ble_eq_true rfl) dX4_judgeLine_79 (does_X4_whyWrong σ (bor (σ 32 i) (bshl 1 (σ 29 i))) (σ 30 i) (σ 31 i) (by omega) (by omega)) ?_
      refine zRx.istore (ls' := [(0, zP 53), (1, .inl i), (2, .inl (σ 28 i)), (3, .inl (σ 29 i)), (4, .inl (σ 30 i)), (5, .inl (σ 31 i)), (6, .inl (σ 32 i)), (7, .inl (R_X4_whyWrong σ (bor (σ 32 i) (bshl 1 (σ 29 i))) (σ 30 i) (σ 31 i)))]) rfl (by decide) dX4_judgeLine_82 ?_
      refine zRx.iload 7 rfl dX4_judgeLine_84 ?_
      refine zRx.if_eq (tgt := 92) dX4_judgeLine_86 (by decide) (fun c86 => ?_) (fun c86 => ?_)
      · refine zRx.iload_n 2 rfl rfl dX4_judgeLine_92 ?_
        by_cases c93_1 : σ 28 i = 1
        · refine zRx.topI (b := 1) c93_1 ?_
          refine zRx.tableIn (tgt := 120) dX4_judgeLine_93 (by decide) (by decide) rfl (by decide) ?_
          refine zRx.aload_n 0 rfl rfl dX4_judgeLine_120 ?_
          refine zRx.iload_n 1 rfl rfl dX4_judgeLine_121 ?_
          refine zRx.cVv (M := m_X4_lie) (av := [.inl i]) cv_4_110 mk_X4_lie (by decide) (b := 53) rfl rfl (Nat.le_of_ble_eq_true rfl) dX4_judgeLine_122 (does_X4_lie σ i (by omega) (by omega) hm) ?_
          refine zRx.goto (tgt := 221) dX4_judgeLine_125 (by decide) ?_
          refine zRx.iconst ⟨by decide, by decide⟩ dX4_judgeLine_221 ?_
          exact zR.iret rfl dX4_judgeLine_222 ⟨by unfold V_X4_judgeLine; rw [if_neg c11, if_pos c50, if_pos c86], by unfold F_X4_judgeLine; rw [if_neg c11, if_pos c50, if_pos c86, if_pos c93_1]⟩
        by_cases c93_2 : σ 28 i = 2
        · refine zRx.topI (b := 2) c93_2 ?_
          refine zRx.tableIn (tgt := 128) dX4_judgeLine_93 (by decide) (by decide) rfl (by decide) ?_
          refine zRx.aload_n 0 rfl rfl dX4_judgeLine_128 ?_
          refine zRx.iload_n 3 rfl rfl dX4_judgeLine_129 ?_
          refine zRx.aload_n 0 rfl rfl dX4_judgeLine_130 ?_
          refine zRx.getR (a := 53) (b := 5) fl_4_51 rfl rfl dX4_judgeLine_131 ?_
          refine zRx.getR (a := 5) (b := 9) fl_4_114 rfl rfl dX4_judgeLine_134 ?_
          refine zRx.iload 5 rfl dX4_judgeLine_137 ?_
          refine zRx.ialdv (v := σ 9 (σ 31 i)) rfl rfl (by omega) (by omega) dX4_judgeLine_139 ?_
          refine zRx.aload_n 0 rfl rfl dX4_judgeLine_140 ?_
          refine zRx.getR (a := 53) (b := 5) fl_4_51 rfl rfl dX4_judgeLine_141 ?_
          refine zRx.getR (a := 5) (b := 15) fl_4_117 rfl rfl dX4_judgeLine_144 ?_
          refine zRx.iconst ⟨by decide, by decide⟩ dX4_judgeLine_147 ?_
          refine zRx.ialdv (v := σ 15 3) rfl rfl (by decide) (by decide) dX4_judgeLine_148 ?_
          refine zRx.imulW dX4_judgeLine_149 ?_
          refine zRx.bipush ⟨by decide, by decide⟩ rfl dX4_judgeLine_150 ?_
          refine zRx.cSi (w := .inl (V_cutUpW (w32 ((σ 9 (σ 31 i)) * (σ 15 3))) 10)) (M := m_X11_cutUp) (av := [.inl (w32 ((σ 9 (σ 31 i)) * (σ 15 3))), .inl 10]) cs_4_120 mk_X11_cutUp (by decide) rfl (Nat.le_of_ble_eq_true rfl) dX4_judgeLine_152 (does_cutUpW σ (w32 ((σ 9 (σ 31 i)) * (σ 15 3))) 10 SC) ?_
          refine zRx.iload_n 1 rfl rfl dX4_judgeLine_155 ?_
          refine zRx.cVv (M := m_X4_owe) (av := [.inl (σ 29 i), .inl (V_cutUpW (w32 ((σ 9 (σ 31 i)) * (σ 15 3))) 10), .inl i]) cv_4_124 mk_X4_owe (by decide) (b := 53) rfl rfl (Nat.le_of_ble_eq_true rfl) dX4_judgeLine_156 (does_X4_owe σ (σ 29 i) (V_cutUpW (w32 ((σ 9 (σ 31 i)) * (σ 15 3))) 10) i (by omega) (by omega)) ?_
          refine zRx.goto (tgt := 221) dX4_judgeLine_159 (by decide) ?_
          refine zRx.iconst ⟨by decide, by decide⟩ dX4_judgeLine_221 ?_
          exact zR.iret rfl dX4_judgeLine_222 ⟨by unfold V_X4_judgeLine; rw [if_neg c11, if_pos c50, if_pos c86], by unfold F_X4_judgeLine; rw [if_neg c11, if_pos c50, if_pos c86, if_neg c93_1, if_pos c93_2]⟩
        by_cases c93_3 : σ 28 i = 3
        · refine zRx.topI (b := 3) c93_3 ?_
          refine zRx.tableIn (tgt := 162) dX4_judgeLine_93 (by decide) (by decide) rfl (by decide) ?_
          refine zRx.aload_n 0 rfl rfl dX4_judgeLine_162 ?_
          refine zRx.iload_n 3 rfl rfl dX4_judgeLine_163 ?_
          refine zRx.iload 4 rfl dX4_judgeLine_164 ?_
          refine zRx.iload 5 rfl dX4_judgeLine_166 ?_
          refine zRx.iload_n 1 rfl rfl dX4_judgeLine_168 ?_
          refine zRx.cVv (M := m_X4_tell) (av := [.inl (σ 29 i), .inl (σ 30 i), .inl (σ 31 i), .inl i]) cv_4_128 mk_X4_tell (by decide) (b := 53) rfl rfl (Nat.le_of_ble_eq_true rfl) dX4_judgeLine_169 (does_X4_tell σ (σ 29 i) (σ 30 i) (σ 31 i) i (by omega) (by omega) (by omega) hp hs hF (by omega)) ?_
          refine zRx.goto (tgt := 221) dX4_judgeLine_172 (by decide) ?_
          refine zRx.iconst ⟨by decide, by decide⟩ dX4_judgeLine_221 ?_
          exact zR.iret rfl dX4_judgeLine_222 ⟨by unfold V_X4_judgeLine; rw [if_neg c11, if_pos c50, if_pos c86], by unfold F_X4_judgeLine; rw [if_neg c11, if_pos c50, if_pos c86, if_neg c93_1, if_neg c93_2, if_pos c93_3]⟩
        refine zRx.tableOut (tgt := 175) dX4_judgeLine_93 (by omega) (by decide) ?_
        refine zRx.aload_n 0 rfl rfl dX4_judgeLine_175 ?_
        refine zRx.getR (a := 53) (b := 56) fl_4_18 rfl rfl dX4_judgeLine_176 ?_
        refine zRx.iload_n 3 rfl rfl dX4_judgeLine_179 ?_
        refine zRx.dup2 rfl rfl dX4_judgeLine_180 ?_
        refine zRx.ialdv (v := σ 56 (σ 29 i)) rfl rfl (by omega) (by omega) dX4_judgeLine_181 ?_
        refine zRx.aload_n 0 rfl rfl dX4_judgeLine_182 ?_
        refine zRx.getR (a := 53) (b := 27) fl_4_55 rfl rfl dX4_judgeLine_183 ?_
        refine zRx.getR (a := 27) (b := 32) fl_4_103 rfl rfl dX4_judgeLine_186 ?_
        refine zRx.iload_n 1 rfl rfl dX4_judgeLine_189 ?_
        refine zRx.ialdv (v := σ 32 i) rfl rfl (by omega) (by omega) dX4_judgeLine_190 ?_
        refine zRx.iaddW dX4_judgeLine_191 ?_
        refine zRx.iast rfl (by omega) (by omega) dX4_judgeLine_192 ?_
        refine zRx.aload_n 0 rfl rfl dX4_judgeLine_193 ?_
        refine zRx.getR (a := 53) (b := 56) fl_4_18 rfl rfl dX4_judgeLine_194 ?_
        refine zRx.iload 4 rfl dX4_judgeLine_197 ?_
        refine zRx.dup2 rfl rfl dX4_judgeLine_199 ?_
        refine zRx.ialdv (v := σ 56 (σ 30 i)) (zu_off _ _ _ (by omega)) rfl (by omega) (by omega) dX4_judgeLine_200 ?_
        refine zRx.aload_n 0 rfl rfl dX4_judgeLine_201 ?_
        refine zRx.getR (a := 53) (b := 27) fl_4_55 rfl rfl dX4_judgeLine_202 ?_
        refine zRx.getR (a := 27) (b := 32) fl_4_103 rfl rfl dX4_judgeLine_205 ?_
        refine zRx.iload_n 1 rfl rfl dX4_judgeLine_208 ?_
        refine zRx.ialdv (v := σ 32 i) (zu_ne _ _ _ _ (by decide)) rfl (by omega) (by omega) dX4_judgeLine_209 ?_
        refine zRx.isubW dX4_judgeLine_210 ?_
        refine zRx.iast rfl (by omega) (by omega) dX4_judgeLine_211 ?_
        refine zRx.aload_n 0 rfl rfl dX4_judgeLine_212 ?_
        refine zRx.iload 4 rfl dX4_judgeLine_213 ?_
        refine zRx.iload 5 rfl dX4_judgeLine_215 ?_
        refine zRx.iload_n 1 rfl rfl dX4_judgeLine_217 ?_
        refine zRx.cVv (M := m_X4_learn) (av := [.inl (σ 30 i), .inl (σ 31 i), .inl i]) cv_4_132 mk_X4_learn (by decide) (b := 53) rfl rfl (Nat.le_of_ble_eq_true rfl) dX4_judgeLine_218 (does_X4_learn (zu (zu σ 56 (σ 29 i) (w32 ((σ 56 (σ 29 i)) + (σ 32 i)))) 56 (σ 30 i) (w32 ((σ 56 (σ 30 i)) - (σ 32 i)))) (σ 30 i) (σ 31 i) i (by omega) (by have e9 : (zu (zu σ 56 (σ 29 i) (w32 ((σ 56 (σ 29 i)) + (σ 32 i)))) 56 (σ 30 i) (w32 ((σ 56 (σ 30 i)) - (σ 32 i)))) 5 2 = σ 5 2 := ((zu_ne _ _ _ _ (by decide)).trans (zu_ne _ _ _ _ (by decide))); omega) (by have e9 : (zu (zu σ 56 (σ 29 i) (w32 ((σ 56 (σ 29 i)) + (σ 32 i)))) 56 (σ 30 i) (w32 ((σ 56 (σ 30 i)) - (σ 32 i)))) 5 1 = σ 5 1 := ((zu_ne _ _ _ _ (by decide)).trans (zu_ne _ _ _ _ (by decide))); omega) (by have e9 : (zu (zu σ 56 (σ 29 i) (w32 ((σ 56 (σ 29 i)) + (σ 32 i)))) 56 (σ 30 i) (w32 ((σ 56 (σ 30 i)) - (σ 32 i)))) 53 8 = σ 53 8 := ((zu_ne _ _ _ _ (by decide)).trans (zu_ne _ _ _ _ (by decide))); omega)) ?_
        refine zRx.iconst ⟨by decide, by decide⟩ dX4_judgeLine_221 ?_
        exact zR.iret rfl dX4_judgeLine_222 ⟨by unfold V_X4_judgeLine; rw [if_neg c11, if_pos c50, if_pos c86], by unfold F_X4_judgeLine; rw [if_neg c11, if_pos c50, if_pos c86, if_neg c93_1, if_neg c93_2, if_neg c93_3]⟩
      · refine zRx.iload 7 rfl dX4_judgeLine_89 ?_
        exact zR.iret rfl dX4_judgeLine_91 ⟨by unfold V_X4_judgeLine; rw [if_neg c11, if_pos c50, if_neg c86], by unfold F_X4_judgeLine; rw [if_neg c11, if_pos c50, if_neg c86]⟩
  · refine zRx.iconst ⟨by decide, by decide⟩ dX4_judgeLine_14 ?_
    exact zR.iret rfl dX4_judgeLine_15 ⟨by unfold V_X4_judgeLine; rw [if_pos c11], by unfold F_X4_judgeLine; rw [if_pos c11]⟩

theorem lieL_m (i wi much : Int) : ∀ (n : Nat) (q : Int) (σ : zG), (0 ≤ σ 53 8 ∧ σ 53 8 ≤ 128) → 0 ≤ L_X4_lie_55 i wi much n q σ 53 8 ∧ L_X4_lie_55 i wi much n q σ 53 8 ≤ 128
  | 0, q, σ, h => h
  | n + 1, q, σ, h => by
    rw [L_X4_lie_55]
    split
    · exact h
    · exact lieL_m i wi much n _ _ (owe_m _ _ _ _ h)
theorem judge_m (σ : zG) (i : Int) (h : 0 ≤ σ 53 8 ∧ σ 53 8 ≤ 128) : 0 ≤ F_X4_judgeLine σ i 53 8 ∧ F_X4_judgeLine σ i 53 8 ≤ 128 := by
  have hl : 0 ≤ R_X4_lie σ i 53 8 ∧ R_X4_lie σ i 53 8 ≤ 128 := by
    unfold R_X4_lie
    exact lieL_m _ _ _ _ _ _ (owe_m _ _ _ _ h)
  have ht : ∀ who an f i, F_X4_tell σ who an f i 53 8 = σ 53 8 := by
    intro who an f i
    unfold F_X4_tell
    rw [learn_m, zu_ne _ _ _ _ (by decide)]
    exact congrFun (fr_R_X4_pay σ _ _ _ (k := 53) (by decide)) 8
  unfold F_X4_judgeLine
  repeat' split
  all_goals first | exact h | exact hl | exact owe_m _ _ _ _ h | (rw [ht]; exact h) | (rw [learn_m, zu_ne _ _ _ _ (by decide), zu_ne _ _ _ _ (by decide)]; exact h)

def S_X4_clear_2  : Nat → Int → zG → Int × zG
  | 0, q, σ => (q, σ)
  | n + 1, q, σ => if 8 ≤ q then (q, σ) else (if (σ 5 0) ≤ q then (S_X4_clear_2  n (q + 1) (zu σ 54 q 0)) else (S_X4_clear_2  n (q + 1) (zu σ 54 q (R_X9_follow σ (σ 7 q)))))
theorem fr_S_X4_clear_2   (n : Nat) (q : Int) (σ : zG) {k : Nat} (h : k ∉ [54]) : (S_X4_clear_2  n q σ).2 k = σ k := by
  induction n generalizing q σ with
  | zero => rfl
  | succ n ih =>
    have ne : ∀ c ∈ [54], k ≠ c := fun c hc e => h (e ▸ hc)
    rw [S_X4_clear_2]
    repeat' split
    all_goals first | rfl | simp only [zu_row _ _ _ (ne 54 (by decide)), ih]

set_option maxRecDepth 20000 in
theorem seg_X4_clear_2   : ∀ (n : Nat) (q : Int) (σ : zG) (X : zX), 0 ≤ q → σ 5 2 ≤ 8 → (8 - q).toNat < n → zRx none 1 m_X4_clear SC 51 [(0, zP 53), (1, .inl ((S_X4_clear_2  n q σ).1))] [] ((S_X4_clear_2  n q σ).2) X → zRx none 1 m_X4_clear SC 2 [(0, zP 53), (1, .inl q)] [] σ X := by
  intro n
  induction n with
  | zero => intro q σ X h0 hs hmz; exact absurd hmz (Nat.not_lt_zero _)
  | succ n ih =>
    intro q σ X h0 hs hmz K
    refine zRx.iload_n 1 rfl rfl dX4_clear_2 ?_
    refine zRx.bipush ⟨by decide, by decide⟩ rfl dX4_clear_3 ?_
    refine zRx.icmp_ge (tgt := 51) dX4_clear_5 (by decide) (fun c5 => ?_) (fun c5 => ?_)
    · have he : S_X4_clear_2  (n + 1) q σ = (q, σ) := by rw [S_X4_clear_2, if_pos c5]
      rw [he] at K
      exact K
    · refine zRx.aload_n 0 rfl rfl dX4_clear_8 ?_
      refine zRx.getR (a := 53) (b := 54) fl_4_9 rfl rfl dX4_clear_9 ?_
      refine zRx.iload_n 1 rfl rfl dX4_clear_12 ?_
      refine zRx.iload_n 1 rfl rfl dX4_clear_13 ?_
      refine zRx.aload_n 0 rfl rfl dX4_clear_14 ?_
      refine zRx.getR (a := 53) (b := 5) fl_4_51 rfl rfl dX4_clear_15 ?_
      refine zRx.getIv (a := 5) (ji := 0) (v := σ 5 0) rfl fl_4_65 rfl rfl rfl dX4_clear_18 ?_
      refine zRx.icmp_ge (tgt := 43) dX4_clear_21 (by decide) (fun c21 => ?_) (fun c21 => ?_)
      · refine zRx.iconst ⟨by decide, by decide⟩ dX4_clear_43 ?_
        refine zRx.iast rfl (by omega) (by omega) dX4_clear_44 ?_
        refine zRx.iinc (n := 1) (ls' := [(0, zP 53), (1, .inl (q + 1))]) 1 rfl ⟨by omega, by omega⟩ rfl (by decide) dX4_clear_45 ?_
        refine zRx.goto (tgt := 2) dX4_clear_48 (by decide) ?_
        have he : S_X4_clear_2  (n + 1) q σ = S_X4_clear_2  n (q + 1) (zu σ 54 q 0) := by rw [S_X4_clear_2, if_neg (Int.not_le.mpr c5), if_pos c21]
        rw [he] at K
        exact ih (q + 1) (zu σ 54 q 0) _ (by omega) (by have e9 : (zu σ 54 q 0) 5 2 = σ 5 2 := (zu_ne _ _ _ _ (by decide)); omega) (by omega) K
      · refine zRx.aload_n 0 rfl rfl dX4_clear_24 ?_
        refine zRx.getR (a := 53) (b := 5) fl_4_51 rfl rfl dX4_clear_25 ?_
        refine zRx.aload_n 0 rfl rfl dX4_clear_28 ?_
        refine zRx.getR (a := 53) (b := 5) fl_4_51 rfl rfl dX4_clear_29 ?_
        refine zRx.getR (a := 5) (b := 7) fl_4_71 rfl rfl dX4_clear_32 ?_
        refine zRx.iload_n 1 rfl rfl dX4_clear_35 ?_
        refine zRx.ialdv (v := σ 7 q) rfl rfl (by omega) (by omega) dX4_clear_36 ?_
        refine zRx.cVi (w := .inl (R_X9_follow σ (σ 7 q))) (M := m_X9_follow) (av := [.inl (σ 7 q)]) cv_4_74 mk_X9_follow (by decide) (b := 5) rfl rfl (Nat.le_of_ble_eq_true rfl) dX4_clear_37 (does_X9_follow σ (σ 7 q) (by omega)) ?_
        refine zRx.goto (tgt := 44) dX4_clear_40 (by decide) ?_
        refine zRx.iast rfl (by omega) (by omega) dX4_clear_44 ?_
        refine zRx.iinc (n := 1) (ls' := [(0, zP 53), (1, .inl (q + 1))]) 1 rfl ⟨by omega, by omega⟩ rfl (by decide) dX4_clear_45 ?_
        refine zRx.goto (tgt := 2) dX4_clear_48 (by decide) ?_
        have he : S_X4_clear_2  (n + 1) q σ = S_X4_clear_2  n (q + 1) (zu σ 54 q (R_X9_follow σ (σ 7 q))) := by rw [S_X4_clear_2, if_neg (Int.not_le.mpr c5), if_neg (Int.not_le.mpr c21)]
        rw [he] at K
        exact ih (q + 1) (zu σ 54 q (R_X9_follow σ (σ 7 q))) _ (by omega) (by have e9 : (zu σ 54 q (R_X9_follow σ (σ 7 q))) 5 2 = σ 5 2 := (zu_ne _ _ _ _ (by decide)); omega) (by omega) K
def R_X4_clear (σ : zG)  : zG := zu (zu (zfl (zfl (zfl ((S_X4_clear_2  10 0 σ).2) 55 8 0) 56 8 0) 57 96 (-1)) 53 7 0) 53 8 0
theorem fr_R_X4_clear (σ : zG)  {k : Nat} (h : k ∉ [53, 54, 55, 56, 57]) : (R_X4_clear σ ) k = σ k := by
  have ne : ∀ c ∈ [53, 54, 55, 56, 57], k ≠ c := fun c hc e => h (e ▸ hc)
  have nk_zfl_57 : k ∉ [57] := fun hm => h (by revert hm; simp only [List.mem_cons, List.not_mem_nil, or_false]; omega)
  have nk_zfl_56 : k ∉ [56] := fun hm => h (by revert hm; simp only [List.mem_cons, List.not_mem_nil, or_false]; omega)
  have nk_zfl_55 : k ∉ [55] := fun hm => h (by revert hm; simp only [List.mem_cons, List.not_mem_nil, or_false]; omega)
  have nk_S_X4_clear_2 : k ∉ [54] := fun hm => h (by revert hm; simp only [List.mem_cons, List.not_mem_nil, or_false]; omega)
  have nl_S_X4_clear_2 : k ∉ [54] := fun hm => h (by revert hm; simp only [List.mem_cons, List.not_mem_nil, or_false]; omega)
  unfold R_X4_clear
  repeat' split
  all_goals first | rfl | simp only [zu_row _ _ _ (ne 53 (by decide)), zu_row _ _ _ (ne 54 (by decide)), zu_row _ _ _ (ne 55 (by decide)), zu_row _ _ _ (ne 56 (by decide)), zu_row _ _ _ (ne 57 (by decide)), fr_zfl (h := nk_zfl_57), fr_zfl (h := nk_zfl_56), fr_zfl (h := nk_zfl_55), fr_S_X4_clear_2 (h := nk_S_X4_clear_2), fr_S_X4_clear_2 (h := nl_S_X4_clear_2)]

set_option maxRecDepth 20000 in
theorem does_X4_clear (σ : zG)  (hs : σ 5 2 ≤ 8)  : zDo SC 1 m_X4_clear [zP 53] σ (zEq none (R_X4_clear σ )) := by
  refine zDo.intro mk_X4_clear (Nat.le_of_ble_eq_true rfl) ?_
  refine zRx.iconst ⟨by decide, by decide⟩ dX4_clear_0 ?_
  refine zRx.istore_n (ls' := [(0, zP 53), (1, .inl 0)]) rfl rfl (by decide) dX4_clear_1 ?_
  refine seg_X4_clear_2    10 0 σ _ (by omega) hs (by omega) ?_
  refine zRx.aload_n 0 rfl rfl dX4_clear_51 ?_
  refine zRx.getR (a := 53) (b := 55) fl_4_15 rfl rfl dX4_clear_52 ?_
  refine zRx.iconst ⟨by decide, by decide⟩ dX4_clear_55 ?_
  refine zRx.cSv (M := m_J7_fill_53178) (av := [zP 55, .inl 0]) cs_4_59 mk_J7_fill_53178 (by decide) rfl (Nat.le_of_ble_eq_true rfl) dX4_clear_56 (does_fill SC 55 8 0 ((S_X4_clear_2  10 0 σ).2) rfl (by decide)) ?_
  refine zRx.aload_n 0 rfl rfl dX4_clear_59 ?_
  refine zRx.getR (a := 53) (b := 56) fl_4_18 rfl rfl dX4_clear_60 ?_
  refine zRx.iconst ⟨by decide, by decide⟩ dX4_clear_63 ?_
  refine zRx.cSv (M := m_J7_fill_53178) (av := [zP 56, .inl 0]) cs_4_59 mk_J7_fill_53178 (by decide) rfl (Nat.le_of_ble_eq_true rfl) dX4_clear_64 (does_fill SC 56 8 0 (zfl ((S_X4_clear_2  10 0 σ).2) 55 8 0) rfl (by decide)) ?_
  refine zRx.aload_n 0 rfl rfl dX4_clear_67 ?_
  refine zRx.getR (a := 53) (b := 57) fl_4_21 rfl rfl dX4_clear_68 ?_
  refine zRx.iconst ⟨by decide, by decide⟩ dX4_clear_71 ?_
  refine zRx.cSv (M := m_J7_fill_53178) (av := [zP 57, .inl (-1)]) cs_4_59 mk_J7_fill_53178 (by decide) rfl (Nat.le_of_ble_eq_true rfl) dX4_clear_72 (does_fill SC 57 96 (-1) (zfl (zfl ((S_X4_clear_2  10 0 σ).2) 55 8 0) 56 8 0) rfl (by decide)) ?_
  refine zRx.aload_n 0 rfl rfl dX4_clear_75 ?_
  refine zRx.iconst ⟨by decide, by decide⟩ dX4_clear_76 ?_
  refine zRx.putI (a := 53) (ji := 7) pl_4_78 rfl rfl rfl dX4_clear_77 ?_
  refine zRx.aload_n 0 rfl rfl dX4_clear_80 ?_
  refine zRx.iconst ⟨by decide, by decide⟩ dX4_clear_81 ?_
  refine zRx.putI (a := 53) (ji := 8) pl_4_81 rfl rfl rfl dX4_clear_82 ?_
  exact zR.ret rfl dX4_clear_85 ⟨rfl, (by rw [R_X4_clear] : R_X4_clear σ  = zu (zu (zfl (zfl (zfl ((S_X4_clear_2  10 0 σ).2) 55 8 0) 56 8 0) 57 96 (-1)) 53 7 0) 53 8 0).symm⟩

theorem clear_m (σ : zG) : R_X4_clear σ 53 8 = 0 := by
  unfold R_X4_clear
  rw [zu_at]

def L_X4_judge_6 (but : Int) : Nat → Int → zG → zG
  | 0, _, σ => σ
  | n + 1, q, σ => if (σ 27 0) ≤ q then σ else (if q = but then (L_X4_judge_6 but n (q + 1) (zu σ 58 q 0)) else (L_X4_judge_6 but n (q + 1) (zu (F_X4_judgeLine σ q) 58 q (V_X4_judgeLine σ q))))
theorem fr_L_X4_judge_6 (but : Int)  (n : Nat) (q : Int) (σ : zG) {k : Nat} (h : k ∉ [53, 54, 55, 56, 57, 58, 59, 60, 61, 62, 63, 64, 65, 66]) : (L_X4_judge_6 but n q σ) k = σ k := by
  induction n generalizing q σ with
  | zero => rfl
  | succ n ih =>
    have ne : ∀ c ∈ [53, 54, 55, 56, 57, 58, 59, 60, 61, 62, 63, 64, 65, 66], k ≠ c := fun c hc e => h (e ▸ hc)
    have nk_F_X4_judgeLine : k ∉ [53, 54, 55, 56, 57, 59, 60, 61, 62, 63, 64, 65, 66] := fun hm => h (by revert hm; simp only [List.mem_cons, List.not_mem_nil, or_false]; omega)
    rw [L_X4_judge_6]
    repeat' split
    all_goals first | rfl | simp only [zu_row _ _ _ (ne 53 (by decide)), zu_row _ _ _ (ne 54 (by decide)), zu_row _ _ _ (ne 55 (by decide)), zu_row _ _ _ (ne 56 (by decide)), zu_row _ _ _ (ne 57 (by decide)), zu_row _ _ _ (ne 58 (by decide)), zu_row _ _ _ (ne 59 (by decide)), zu_row _ _ _ (ne 60 (by decide)), zu_row _ _ _ (ne 61 (by decide)), zu_row _ _ _ (ne 62 (by decide)), zu_row _ _ _ (ne 63 (by decide)), zu_row _ _ _ (ne 64 (by decide)), zu_row _ _ _ (ne 65 (by decide)), zu_row _ _ _ (ne 66 (by decide)), fr_F_X4_judgeLine (h := nk_F_X4_judgeLine), ih]

set_option maxRecDepth 20000 in
theorem loop_X4_judge_6 (but : Int)  : ∀ (n : Nat) (q : Int) (σ : zG), 0 ≤ q → WC σ → 0 ≤ σ 53 8 ∧ σ 53 8 ≤ 128 → (σ 27 0 - q).toNat < n → zR SC 5 m_X4_judge 6 [(0, zP 53), (1, .inl but), (2, .inl q)] [] σ (zEq none (L_X4_judge_6 but n q σ)) := by
  intro n
  induction n with
  | zero => intro q σ h0 hC hm hmz; exact absurd hmz (Nat.not_lt_zero _)
  | succ n ih =>
    intro q σ h0 hC hm hmz
    refine zRx.iload_n 2 rfl rfl dX4_judge_6 ?_
    refine zRx.aload_n 0 rfl rfl dX4_judge_7 ?_
    refine zRx.getR (a := 53) (b := 27) fl_4_55 rfl rfl dX4_judge_8 ?_
    refine zRx.getIv (a := 27) (ji := 0) (v := σ 27 0) rfl fl_4_87 rfl rfl rfl dX4_judge_11 ?_
    refine zRx.icmp_ge (tgt := 43) dX4_judge_14 (by decide) (fun c14 => ?_) (fun c14 => ?_)
    · exact zR.ret rfl dX4_judge_43 ⟨rfl, (by rw [L_X4_judge_6, if_pos c14] : L_X4_judge_6 but (n + 1) q σ = σ).symm⟩
    · obtain ⟨hp, hs, hF, hL, hB⟩ := id hC
      refine zRx.aload_n 0 rfl rfl dX4_judge_17 ?_
      refine zRx.getR (a := 53) (b := 58) fl_4_24 rfl rfl dX4_judge_18 ?_
      refine zRx.iload_n 2 rfl rfl dX4_judge_21 ?_
      refine zRx.iload_n 2 rfl rfl dX4_judge_22 ?_
      refine zRx.iload_n 1 rfl rfl dX4_judge_23 ?_
      refine zRx.icmp_ne (tgt := 31) dX4_judge_24 (by decide) (fun c24 => ?_) (fun c24 => ?_)
      · refine zRx.aload_n 0 rfl rfl dX4_judge_31 ?_
        refine zRx.iload_n 2 rfl rfl dX4_judge_32 ?_
        refine zRx.cVi (w := .inl (V_X4_judgeLine σ q)) (M := m_X4_judgeLine) (av := [.inl q]) cv_4_92 mk_X4_judgeLine (by decide) (b := 53) rfl rfl (Nat.le_of_ble_eq_true rfl) dX4_judge_33 (does_X4_judgeLine σ q (by omega) (hB _ (by omega) (by omega)) hp hs hF hm) ?_
        refine zRx.iast rfl (by omega) (by omega) dX4_judge_36 ?_
        refine zRx.iinc (n := 1) (ls' := [(0, zP 53), (1, .inl but), (2, .inl (q + 1))]) 2 rfl ⟨by omega, by omega⟩ rfl (by decide) dX4_judge_37 ?_
        refine zRx.goto (tgt := 6) dX4_judge_40 (by decide) ?_
        have he : L_X4_judge_6 but (n + 1) q σ = L_X4_judge_6 but n (q + 1) (zu (F_X4_judgeLine σ q) 58 q (V_X4_judgeLine σ q)) := by rw [L_X4_judge_6, if_neg (Int.not_le.mpr c14), if_neg c24]
        rw [he]
        exact ih (q + 1) (zu (F_X4_judgeLine σ q) 58 q (V_X4_judgeLine σ q)) (by omega) (WC_fr (fun k hk => by rw [zu_row _ _ _ (by omega), fr_F_X4_judgeLine (h := by simp; omega)]) hC) (by rw [zu_ne _ _ _ _ (by decide)]; exact judge_m _ _ hm) (by rw [show (zu (F_X4_judgeLine σ q) 58 q (V_X4_judgeLine σ q)) 27 0 = σ 27 0 from (zu_ne _ _ _ _ (by decide)).trans (congrFun (fr_F_X4_judgeLine σ q (k := 27) (by decide)) 0)]; omega)
      · refine zRx.iconst ⟨by decide, by decide⟩ dX4_judge_27 ?_
        refine zRx.goto (tgt := 36) dX4_judge_28 (by decide) ?_
        refine zRx.iast rfl (by omega) (by omega) dX4_judge_36 ?_
        refine zRx.iinc (n := 1) (ls' := [(0, zP 53), (1, .inl but), (2, .inl (q + 1))]) 2 rfl ⟨by omega, by omega⟩ rfl (by decide) dX4_judge_37 ?_
        refine zRx.goto (tgt := 6) dX4_judge_40 (by decide) ?_
        have he : L_X4_judge_6 but (n + 1) q σ = L_X4_judge_6 but n (q + 1) (zu σ 58 q 0) := by rw [L_X4_judge_6, if_neg (Int.not_le.mpr c14), if_pos c24]
        rw [he]
        exact ih (q + 1) (zu σ 58 q 0) (by omega) (WC_fr (fun k hk => zu_row _ _ _ (by omega)) hC) (by rw [zu_ne _ _ _ _ (by decide)]; exact hm) (by rw [zu_ne _ _ _ _ (by decide)]; omega)
def R_X4_judge (σ : zG) (but : Int) : zG := L_X4_judge_6 but 70 0 (R_X4_clear σ )
theorem fr_R_X4_judge (σ : zG) (but : Int) {k : Nat} (h : k ∉ [53, 54, 55, 56, 57, 58, 59, 60, 61, 62, 63, 64, 65, 66]) : (R_X4_judge σ but) k = σ k := by
  have ne : ∀ c ∈ [53, 54, 55, 56, 57, 58, 59, 60, 61, 62, 63, 64, 65, 66], k ≠ c := fun c hc e => h (e ▸ hc)
  have nk_R_X4_clear : k ∉ [53, 54, 55, 56, 57] := fun hm => h (by revert hm; simp only [List.mem_cons, List.not_mem_nil, or_false]; omega)
  have nl_L_X4_judge_6 : k ∉ [53, 54, 55, 56, 57, 58, 59, 60, 61, 62, 63, 64, 65, 66] := fun hm => h (by revert hm; simp only [List.mem_cons, List.not_mem_nil, or_false]; omega)
  unfold R_X4_judge
  repeat' split
  all_goals first | rfl | simp only [zu_row _ _ _ (ne 53 (by decide)), zu_row _ _ _ (ne 54 (by decide)), zu_row _ _ _ (ne 55 (by decide)), zu_row _ _ _ (ne 56 (by decide)), zu_row _ _ _ (ne 57 (by decide)), zu_row _ _ _ (ne 58 (by decide)), zu_row _ _ _ (ne 59 (by decide)), zu_row _ _ _ (ne 60 (by decide)), zu_row _ _ _ (ne 61 (by decide)), zu_row _ _ _ (ne 62 (by decide)), zu_row _ _ _ (ne 63 (by decide)), zu_row _ _ _ (ne 64 (by decide)), zu_row _ _ _ (ne 65 (by decide)), zu_row _ _ _ (ne 66 (by decide)), fr_R_X4_clear (h := nk_R_X4_clear), fr_L_X4_judge_6 (h := nl_L_X4_judge_6)]

set_option maxRecDepth 20000 in
theorem does_X4_judge (σ : zG) (but : Int) (hC : WC σ)  : zDo SC 5 m_X4_judge [zP 53, .inl but] σ (zEq none (R_X4_judge σ but)) := by
  refine zDo.intro mk_X4_judge (Nat.le_of_ble_eq_true rfl) ?_
  refine zRx.aload_n 0 rfl rfl dX4_judge_0 ?_
  refine zRx.cVv (M := m_X4_clear) (av := []) cv_4_84 mk_X4_clear (by decide) (b := 53) rfl rfl (Nat.le_of_ble_eq_true rfl) dX4_judge_1 (does_X4_clear σ  hC.2.1) ?_
  refine zRx.iconst ⟨by decide, by decide⟩ dX4_judge_4 ?_
  refine zRx.istore_n (ls' := [(0, zP 53), (1, .inl but), (2, .inl 0)]) rfl rfl (by decide) dX4_judge_5 ?_
  have he : R_X4_judge σ but = L_X4_judge_6 but 70 0 (R_X4_clear σ ) := by rw [R_X4_judge]
  rw [he]
  exact loop_X4_judge_6 but   70 0 (R_X4_clear σ ) (by omega) (WC_fr (fun k hk => fr_R_X4_clear σ (h := by simp; omega)) hC) (by rw [clear_m]; decide) (by rw [show R_X4_clear σ 27 0 = σ 27 0 from congrFun (fr_R_X4_clear σ (k := 27) (by decide)) 0]; have := hC.2.2.2.1; omega)

def V_X4_judgeLinet (σ : zG) (i : Int) : Int := if (σ 28 i) = 0 then 0 else (if (σ 28 i) = 1 then (if (R_X4_whyWrongt σ (bor (σ 32 i) (bshl 1 (σ 29 i))) (σ 30 i) (σ 31 i)) = 0 then 0 else (R_X4_whyWrongt σ (bor (σ 32 i) (bshl 1 (σ 29 i))) (σ 30 i) (σ 31 i))) else (if (R_X4_whyWrongt σ (bor 0 (bshl 1 (σ 29 i))) (σ 30 i) (σ 31 i)) = 0 then 0 else (R_X4_whyWrongt σ (bor 0 (bshl 1 (σ 29 i))) (σ 30 i) (σ 31 i))))
def F_X4_judgeLinet (σ : zG) (i : Int) : zG := if (σ 28 i) = 0 then σ else (if (σ 28 i) = 1 then (if (R_X4_whyWrongt σ (bor (σ 32 i) (bshl 1 (σ 29 i))) (σ 30 i) (σ 31 i)) = 0 then (if (σ 28 i) = 1 then (R_X4_liet σ i) else (if (σ 28 i) = 2 then (F_X4_owet σ (σ 29 i) (V_cutUpW (w32 ((σ 9 (σ 31 i)) * (σ 15 3))) 10) i) else (if (σ 28 i) = 3 then (F_X4_tellt σ (σ 29 i) (σ 30 i) (σ 31 i) i) else (R_X4_learnt (zu (zu σ 70 (σ 29 i) (w32 ((σ 70 (σ 29 i)) + (σ 32 i)))) 70 (σ 30 i) (w32 ((σ 70 (σ 30 i)) - (σ 32 i)))) (σ 30 i) (σ 31 i) i)))) else σ) else (if (R_X4_whyWrongt σ (bor 0 (bshl 1 (σ 29 i))) (σ 30 i) (σ 31 i)) = 0 then (if (σ 28 i) = 1 then (R_X4_liet σ i) else (if (σ 28 i) = 2 then (F_X4_owet σ (σ 29 i) (V_cutUpW (w32 ((σ 9 (σ 31 i)) * (σ 15 3))) 10) i) else (if (σ 28 i) = 3 then (F_X4_tellt σ (σ 29 i) (σ 30 i) (σ 31 i) i) else (R_X4_learnt (zu (zu σ 70 (σ 29 i) (w32 ((σ 70 (σ 29 i)) + (σ 32 i)))) 70 (σ 30 i) (w32 ((σ 70 (σ 30 i)) - (σ 32 i)))) (σ 30 i) (σ 31 i) i)))) else σ))
theorem fr_F_X4_judgeLinet (σ : zG) (i : Int) {k : Nat} (h : k ∉ [67, 68, 69, 70, 71, 73, 74, 75, 76, 77, 78, 79, 80]) : (F_X4_judgeLinet σ i) k = σ k := by
  have ne : ∀ c ∈ [67, 68, 69, 70, 71, 73, 74, 75, 76, 77, 78, 79, 80], k ≠ c := fun c hc e => h (e ▸ hc)
  have nk_R_X4_liet : k ∉ [67, 73, 74, 75, 76, 77, 78, 79, 80] := fun hm => h (by revert hm; simp only [List.mem_cons, List.not_mem_nil, or_false]; omega)
  have nk_F_X4_owet : k ∉ [67, 73, 74, 75, 76, 77, 78, 79, 80] := fun hm => h (by revert hm; simp only [List.mem_cons, List.not_mem_nil, or_false]; omega)
  have nk_F_X4_tellt : k ∉ [67, 68, 69, 71, 77, 79, 80] := fun hm => h (by revert hm; simp only [List.mem_cons, List.not_mem_nil, or_false]; omega)
  have nk_R_X4_learnt : k ∉ [67, 68, 71, 77, 80] := fun hm => h (by revert hm; simp only [List.mem_cons, List.not_mem_nil, or_false]; omega)
  unfold F_X4_judgeLinet
  repeat' split
  all_goals first | rfl | simp only [zu_row _ _ _ (ne 67 (by decide)), zu_row _ _ _ (ne 68 (by decide)), zu_row _ _ _ (ne 69 (by decide)), zu_row _ _ _ (ne 70 (by decide)), zu_row _ _ _ (ne 71 (by decide)), zu_row _ _ _ (ne 73 (by decide)), zu_row _ _ _ (ne 74 (by decide)), zu_row _ _ _ (ne 75 (by decide)), zu_row _ _ _ (ne 76 (by decide)), zu_row _ _ _ (ne 77 (by decide)), zu_row _ _ _ (ne 78 (by decide)), zu_row _ _ _ (ne 79 (by decide)), zu_row _ _ _ (ne 80 (by decide)), fr_R_X4_liet (h := nk_R_X4_liet), fr_F_X4_owet (h := nk_F_X4_owet), fr_F_X4_tellt (h := nk_F_X4_tellt), fr_R_X4_learnt (h := nk_R_X4_learnt)]

set_option maxRecDepth 20000 in
theorem does_X4_judgeLinet (σ : zG) (i : Int) (hi : 0 ≤ i ∧ i < 60) (hk : WL σ i) (hp : σ 5 0 ≤ 8) (hs : σ 5 2 ≤ 8) (hF : σ 5 1 ≤ 12) (hm : 0 ≤ σ 67 8 ∧ σ 67 8 ≤ 128) : zDo SC 4 m_X4_judgeLine [zP 67, .inl i] σ (zEq (some (.inl (V_X4_judgeLinet σ i))) (F_X4_judgeLinet σ i)) := by
  refine zDo.intro mk_X4_judgeLine (Nat.le_of_ble_eq_true rfl) ?_
  refine zRx.aload_n 0 rfl rfl dX4_judgeLine_0 ?_
  refine zRx.getR (a := 67) (b := 27) fl_4_55 rfl rfl dX4_judgeLine_1 ?_
  refine zRx.getR (a := 27) (b := 28) fl_4_95 rfl rfl dX4_judgeLine_4 ?_
  refine zRx.iload_n 1 rfl rfl dX4_judgeLine_7 ?_
  refine zRx.ialdv (v := σ 28 i) rfl rfl (by omega) (by omega) dX4_judgeLine_8 ?_
  refine zRx.istore_n (ls' := [(0, zP 67), (1, .inl i), (2, .inl (σ 28 i))]) rfl rfl (by decide) dX4_judgeLine_9 ?_
  refine zRx.iload_n 2 rfl rfl dX4_judgeLine_10 ?_
  refine zRx.if_ne (tgt := 16) dX4_judgeLine_11 (by decide) (fun c11 => ?_) (fun c11 => ?_)
  · have hK := hk c11
    refine zRx.aload_n 0 rfl rfl dX4_judgeLine_16 ?_
    refine zRx.getR (a := 67) (b := 27) fl_4_55 rfl rfl dX4_judgeLine_17 ?_
    refine zRx.getR (a := 27) (b := 29) fl_4_98 rfl rfl dX4_judgeLine_20 ?_
    refine zRx.iload_n 1 rfl rfl dX4_judgeLine_23 ?_
    refine zRx.ialdv (v := σ 29 i) rfl rfl (by omega) (by omega) dX4_judgeLine_24 ?_
    refine zRx.istore_n (ls' := [(0, zP 67), (1, .inl i), (2, .inl (σ 28 i)), (3, .inl (σ 29 i))]) rfl rfl (by decide) dX4_judgeLine_25 ?_
    refine zRx.aload_n 0 rfl rfl dX4_judgeLine_26 ?_
    refine zRx.getR (a := 67) (b := 27) fl_4_55 rfl rfl dX4_judgeLine_27 ?_
    refine zRx.getR (a := 27) (b := 30) fl_4_101 rfl rfl dX4_judgeLine_30 ?_
    refine zRx.iload_n 1 rfl rfl dX4_judgeLine_33 ?_
    refine zRx.ialdv (v := σ 30 i) rfl rfl (by omega) (by omega) dX4_judgeLine_34 ?_
    refine zRx.istore (ls' := [(0, zP 67), (1, .inl i), (2, .inl (σ 28 i)), (3, .inl (σ 29 i)), (4, .inl (σ 30 i))]) rfl (by decide) dX4_judgeLine_35 ?_
    refine zRx.aload_n 0 rfl rfl dX4_judgeLine_37 ?_
    refine zRx.getR (a := 67) (b := 27) fl_4_55 rfl rfl dX4_judgeLine_38 ?_
    refine zRx.getR (a := 27) (b := 31) fl_4_102 rfl rfl dX4_judgeLine_41 ?_
    refine zRx.iload_n 1 rfl rfl dX4_judgeLine_44 ?_
    refine zRx.ialdv (v := σ 31 i) rfl rfl (by omega) (by omega) dX4_judgeLine_45 ?_
    refine zRx.istore (ls' := [(0, zP 67), (1, .inl i), (2, .inl (σ 28 i)), (3, .inl (σ 29 i)), (4, .inl (σ 30 i)), (5, .inl (σ 31 i))]) rfl (by decide) dX4_judgeLine_46 ?_
    refine zRx.iload_n 2 rfl rfl dX4_judgeLine_48 ?_
    refine zRx.iconst ⟨by decide, by decide⟩ dX4_judgeLine_49 ?_
    refine zRx.icmp_ne (tgt := 65) dX4_judgeLine_50 (by decide) (fun c50 => ?_) (fun c50 => ?_)
    · refine zRx.iconst ⟨by decide, by decide⟩ dX4_judgeLine_65 ?_
      refine zRx.istore (ls' := [(0, zP 67), (1, .inl i), (2, .inl (σ 28 i)), (3, .inl (σ 29 i)), (4, .inl (σ 30 i)), (5, .inl (σ 31 i)), (6, .inl 0)]) rfl (by decide) dX4_judgeLine_66 ?_
      refine zRx.aload_n 0 rfl rfl dX4_judgeLine_68 ?_
      refine zRx.iload 6 rfl dX4_judgeLine_69 ?_
      refine zRx.iconst ⟨by decide, by decide⟩ dX4_judgeLine_71 ?_
      refine zRx.iload_n 3 rfl rfl dX4_judgeLine_72 ?_
      refine zRx.ishl dX4_judgeLine_73 ?_
      refine zRx.ior dX4_judgeLine_74 ?_
      refine zRx.iload 4 rfl dX4_judgeLine_75 ?_
      refine zRx.iload 5 rfl dX4_judgeLine_77 ?_
      refine zRx.cVi (w := .inl (R_X4_whyWrongt σ (bor 0 (bshl 1 (σ 29 i))) (σ 30 i) (σ 31 i))) (M := m_X4_whyWrong) (av := [.inl (bor 0 (bshl 1 (σ 29 i))), .inl (σ 30 i), .inl (σ 31 i)]) cv_4_106 mk_X4_whyWrong (by decide) (b := 67) rfl rfl (Nat.le_of_ble_eq_true rfl) dX4_judgeLine_79 (does_X4_whyWrongt σ (bor 0 (bshl 1 (σ 29 i))) (σ 30 i) (σ 31 i) (by omega) (by omega)) ?_
      refine zRx.istore (ls' := [(0, zP 67), (1, .inl i), (2, .inl (σ 28 i)), (3, .inl (σ 29 i)), (4, .inl (σ 30 i)), (5, .inl (σ 31 i)), (6, .inl 0), (7, .inl (R_X4_whyWrongt σ (bor 0 (bshl 1 (σ 29 i))) (σ 30 i) (σ 31 i)))]) rfl (by decide) dX4_judgeLine_82 ?_
      refine zRx.iload 7 rfl dX4_judgeLine_84 ?_
      refine zRx.if_eq (tgt := 92) dX4_judgeLine_86 (by decide) (fun c86 => ?_) (fun c86 => ?_)
      · refine zRx.iload_n 2 rfl rfl dX4_judgeLine_92 ?_
        by_cases c93_1 : σ 28 i = 1
        · refine zRx.topI (b := 1) c93_1 ?_
          refine zRx.tableIn (tgt := 120) dX4_judgeLine_93 (by decide) (by decide) rfl (by decide) ?_
          refine zRx.aload_n 0 rfl rfl dX4_judgeLine_120 ?_
          refine zRx.iload_n 1 rfl rfl dX4_judgeLine_121 ?_
          refine zRx.cVv (M := m_X4_lie) (av := [.inl i]) cv_4_110 mk_X4_lie (by decide) (b := 67) rfl rfl (Nat.le_of_ble_eq_true rfl) dX4_judgeLine_122 (does_X4_liet σ i (by omega) (by omega) hm) ?_
          refine zRx.goto (tgt := 221) dX4_judgeLine_125 (by decide) ?_
          refine zRx.iconst ⟨by decide, by decide⟩ dX4_judgeLine_221 ?_
          exact zR.iret rfl dX4_judgeLine_222 ⟨by unfold V_X4_judgeLinet; rw [if_neg c11, if_neg c50, if_pos c86], by unfold F_X4_judgeLinet; rw [if_neg c11, if_neg c50, if_pos c86, if_pos c93_1]⟩
        by_cases c93_2 : σ 28 i = 2
        · refine zRx.topI (b := 2) c93_2 ?_
          refine zRx.tableIn (tgt := 128) dX4_judgeLine_93 (by decide) (by decide) rfl (by decide) ?_
          refine zRx.aload_n 0 rfl rfl dX4_judgeLine_128 ?_
          refine zRx.iload_n 3 rfl rfl dX4_judgeLine_129 ?_
          refine zRx.aload_n 0 rfl rfl dX4_judgeLine_130 ?_
          refine zRx.getR (a := 67) (b := 5) fl_4_51 rfl rfl dX4_judgeLine_131 ?_
          refine zRx.getR (a := 5) (b := 9) fl_4_114 rfl rfl dX4_judgeLine_134 ?_
          refine zRx.iload 5 rfl dX4_judgeLine_137 ?_
          refine zRx.ialdv (v := σ 9 (σ 31 i)) rfl rfl (by omega) (by omega) dX4_judgeLine_139 ?_
          refine zRx.aload_n 0 rfl rfl dX4_judgeLine_140 ?_
          refine zRx.getR (a := 67) (b := 5) fl_4_51 rfl rfl dX4_judgeLine_141 ?_
          refine zRx.getR (a := 5) (b := 15) fl_4_117 rfl rfl dX4_judgeLine_144 ?_
          refine zRx.iconst ⟨by decide, by decide⟩ dX4_judgeLine_147 ?_
          refine zRx.ialdv (v := σ 15 3) rfl rfl (by decide) (by decide) dX4_judgeLine_148 ?_
          refine zRx.imulW dX4_judgeLine_149 ?_
          refine zRx.bipush ⟨by decide, by decide⟩ rfl dX4_judgeLine_150 ?_
          refine zRx.cSi (w := .inl (V_cutUpW (w32 ((σ 9 (σ 31 i)) * (σ 15 3))) 10)) (M := m_X11_cutUp) (av := [.inl (w32 ((σ 9 (σ 31 i)) * (σ 15 3))), .inl 10]) cs_4_120 mk_X11_cutUp (by decide) rfl (Nat.le_of_ble_eq_true rfl) dX4_judgeLine_152 (does_cutUpW σ (w32 ((σ 9 (σ 31 i)) * (σ 15 3))) 10 SC) ?_
          refine zRx.iload_n 1 rfl rfl dX4_judgeLine_155 ?_
          refine zRx.cVv (M := m_X4_owe) (av := [.inl (σ 29 i), .inl (V_cutUpW (w32 ((σ 9 (σ 31 i)) * (σ 15 3))) 10), .inl i]) cv_4_124 mk_X4_owe (by decide) (b := 67) rfl rfl (Nat.le_of_ble_eq_true rfl) dX4_judgeLine_156 (does_X4_owet σ (σ 29 i) (V_cutUpW (w32 ((σ 9 (σ 31 i)) * (σ 15 3))) 10) i (by omega) (by omega)) ?_
          refine zRx.goto (tgt := 221) dX4_judgeLine_159 (by decide) ?_
          refine zRx.iconst ⟨by decide, by decide⟩ dX4_judgeLine_221 ?_
          exact zR.iret rfl dX4_judgeLine_222 ⟨by unfold V_X4_judgeLinet; rw [if_neg c11, if_neg c50, if_pos c86], by unfold F_X4_judgeLinet; rw [if_neg c11, if_neg c50, if_pos c86, if_neg c93_1, if_pos c93_2]⟩
        by_cases c93_3 : σ 28 i = 3
        · refine zRx.topI (b := 3) c93_3 ?_
          refine zRx.tableIn (tgt := 162) dX4_judgeLine_93 (by decide) (by decide) rfl (by decide) ?_
          refine zRx.aload_n 0 rfl rfl dX4_judgeLine_162 ?_
          refine zRx.iload_n 3 rfl rfl dX4_judgeLine_163 ?_
          refine zRx.iload 4 rfl dX4_judgeLine_164 ?_
          refine zRx.iload 5 rfl dX4_judgeLine_166 ?_
          refine zRx.iload_n 1 rfl rfl dX4_judgeLine_168 ?_
          refine zRx.cVv (M := m_X4_tell) (av := [.inl (σ 29 i), .inl (σ 30 i), .inl (σ 31 i), .inl i]) cv_4_128 mk_X4_tell (by decide) (b := 67) rfl rfl (Nat.le_of_ble_eq_true rfl) dX4_judgeLine_169 (does_X4_tellt σ (σ 29 i) (σ 30 i) (σ 31 i) i (by omega) (by omega) (by omega) hp hs hF (by omega)) ?_
          refine zRx.goto (tgt := 221) dX4_judgeLine_172 (by decide) ?_
          refine zRx.iconst ⟨by decide, by decide⟩ dX4_judgeLine_221 ?_
          exact zR.iret rfl dX4_judgeLine_222 ⟨by unfold V_X4_judgeLinet; rw [if_neg c11, if_neg c50, if_pos c86], by unfold F_X4_judgeLinet; rw [if_neg c11, if_neg c50, if_pos c86, if_neg c93_1, if_neg c93_2, if_pos c93_3]⟩
        refine zRx.tableOut (tgt := 175) dX4_judgeLine_93 (by omega) (by decide) ?_
        refine zRx.aload_n 0 rfl rfl dX4_judgeLine_175 ?_
        refine zRx.getR (a := 67) (b := 70) fl_4_18 rfl rfl dX4_judgeLine_176 ?_
        refine zRx.iload_n 3 rfl rfl dX4_judgeLine_179 ?_
        refine zRx.dup2 rfl rfl dX4_judgeLine_180 ?_
        refine zRx.ialdv (v := σ 70 (σ 29 i)) rfl rfl (by omega) (by omega) dX4_judgeLine_181 ?_
        refine zRx.aload_n 0 rfl rfl dX4_judgeLine_182 ?_
        refine zRx.getR (a := 67) (b := 27) fl_4_55 rfl rfl dX4_judgeLine_183 ?_
        refine zRx.getR (a := 27) (b := 32) fl_4_103 rfl rfl dX4_judgeLine_186 ?_
        refine zRx.iload_n 1 rfl rfl dX4_judgeLine_189 ?_
        refine zRx.ialdv (v := σ 32 i) rfl rfl (by omega) (by omega) dX4_judgeLine_190 ?_
        refine zRx.iaddW dX4_judgeLine_191 ?_
        refine zRx.iast rfl (by omega) (by omega) dX4_judgeLine_192 ?_
        refine zRx.aload_n 0 rfl rfl dX4_judgeLine_193 ?_
        refine zRx.getR (a := 67) (b := 70) fl_4_18 rfl rfl dX4_judgeLine_194 ?_
        refine zRx.iload 4 rfl dX4_judgeLine_197 ?_
        refine zRx.dup2 rfl rfl dX4_judgeLine_199 ?_
        refine zRx.ialdv (v := σ 70 (σ 30 i)) (zu_off _ _ _ (by omega)) rfl (by omega) (by omega) dX4_judgeLine_200 ?_
        refine zRx.aload_n 0 rfl rfl dX4_judgeLine_201 ?_
        refine zRx.getR (a := 67) (b := 27) fl_4_55 rfl rfl dX4_judgeLine_202 ?_
        refine zRx.getR (a := 27) (b := 32) fl_4_103 rfl rfl dX4_judgeLine_205 ?_
        refine zRx.iload_n 1 rfl rfl dX4_judgeLine_208 ?_
        refine zRx.ialdv (v := σ 32 i) (zu_ne _ _ _ _ (by decide)) rfl (by omega) (by omega) dX4_judgeLine_209 ?_
        refine zRx.isubW dX4_judgeLine_210 ?_
        refine zRx.iast rfl (by omega) (by omega) dX4_judgeLine_211 ?_
        refine zRx.aload_n 0 rfl rfl dX4_judgeLine_212 ?_
        refine zRx.iload 4 rfl dX4_judgeLine_213 ?_
        refine zRx.iload 5 rfl dX4_judgeLine_215 ?_
        refine zRx.iload_n 1 rfl rfl dX4_judgeLine_217 ?_
        refine zRx.cVv (M := m_X4_learn) (av := [.inl (σ 30 i), .inl (σ 31 i), .inl i]) cv_4_132 mk_X4_learn (by decide) (b := 67) rfl rfl (Nat.le_of_ble_eq_true rfl) dX4_judgeLine_218 (does_X4_learnt (zu (zu σ 70 (σ 29 i) (w32 ((σ 70 (σ 29 i)) + (σ 32 i)))) 70 (σ 30 i) (w32 ((σ 70 (σ 30 i)) - (σ 32 i)))) (σ 30 i) (σ 31 i) i (by omega) (by have e9 : (zu (zu σ 70 (σ 29 i) (w32 ((σ 70 (σ 29 i)) + (σ 32 i)))) 70 (σ 30 i) (w32 ((σ 70 (σ 30 i)) - (σ 32 i)))) 5 2 = σ 5 2 := ((zu_ne _ _ _ _ (by decide)).trans (zu_ne _ _ _ _ (by decide))); omega) (by have e9 : (zu (zu σ 70 (σ 29 i) (w32 ((σ 70 (σ 29 i)) + (σ 32 i)))) 70 (σ 30 i) (w32 ((σ 70 (σ 30 i)) - (σ 32 i)))) 5 1 = σ 5 1 := ((zu_ne _ _ _ _ (by decide)).trans (zu_ne _ _ _ _ (by decide))); omega) (by have e9 : (zu (zu σ 70 (σ 29 i) (w32 ((σ 70 (σ 29 i)) + (σ 32 i)))) 70 (σ 30 i) (w32 ((σ 70 (σ 30 i)) - (σ 32 i)))) 67 8 = σ 67 8 := ((zu_ne _ _ _ _ (by decide)).trans (zu_ne _ _ _ _ (by decide))); omega)) ?_
        refine zRx.iconst ⟨by decide, by decide⟩ dX4_judgeLine_221 ?_
        exact zR.iret rfl dX4_judgeLine_222 ⟨by unfold V_X4_judgeLinet; rw [if_neg c11, if_neg c50, if_pos c86], by unfold F_X4_judgeLinet; rw [if_neg c11, if_neg c50, if_pos c86, if_neg c93_1, if_neg c93_2, if_neg c93_3]⟩
      · refine zRx.iload 7 rfl dX4_judgeLine_89 ?_
        exact zR.iret rfl dX4_judgeLine_91 ⟨by unfold V_X4_judgeLinet; rw [if_neg c11, if_neg c50, if_neg c86], by unfold F_X4_judgeLinet; rw [if_neg c11, if_neg c50, if_neg c86]⟩
    · refine zRx.aload_n 0 rfl rfl dX4_judgeLine_53 ?_
      refine zRx.getR (a := 67) (b := 27) fl_4_55 rfl rfl dX4_judgeLine_54 ?_
      refine zRx.getR (a := 27) (b := 32) fl_4_103 rfl rfl dX4_judgeLine_57 ?_
      refine zRx.iload_n 1 rfl rfl dX4_judgeLine_60 ?_
      refine zRx.ialdv (v := σ 32 i) rfl rfl (by omega) (by omega) dX4_judgeLine_61 ?_
      refine zRx.goto (tgt := 66) dX4_judgeLine_62 (by decide) ?_
      refine zRx.istore (ls' := [(0, zP 67), (1, .inl i), (2, .inl (σ 28 i)), (3, .inl (σ 29 i)), (4, .inl (σ 30 i)), (5, .inl (σ 31 i)), (6, .inl (σ 32 i))]) rfl (by decide) dX4_judgeLine_66 ?_
      refine zRx.aload_n 0 rfl rfl dX4_judgeLine_68 ?_
      refine zRx.iload 6 rfl dX4_judgeLine_69 ?_
      refine zRx.iconst ⟨by decide, by decide⟩ dX4_judgeLine_71 ?_
      refine zRx.iload_n 3 rfl rfl dX4_judgeLine_72 ?_
      refine zRx.ishl dX4_judgeLine_73 ?_
      refine zRx.ior dX4_judgeLine_74 ?_
      refine zRx.iload 4 rfl dX4_judgeLine_75 ?_
      refine zRx.iload 5 rfl dX4_judgeLine_77 ?_
      refine zRx.cVi (w := .inl (R_X4_whyWrongt σ (bor (σ 32 i) (bshl 1 (σ 29 i))) (σ 30 i) (σ 31 i))) (M := m_X4_whyWrong) (av := [.inl (bor (σ 32 i) (bshl 1 (σ 29 i))), .inl (σ 30 i), .inl (σ 31 i)]) cv_4_106 mk_X4_whyWrong (by decide) (b := 67) rfl rfl (Nat.le_of_ble_eq_true rfl) dX4_judgeLine_79 (does_X4_whyWrongt σ (bor (σ 32 i) (bshl 1 (σ 29 i))) (σ 30 i) (σ 31 i) (by omega) (by omega)) ?_
      refine zRx.istore (ls' := [(0, zP 67), (1, .inl i), (2, .inl (σ 28 i)), (3, .inl (σ 29 i)), (4, .inl (σ 30 i)), (5, .inl (σ 31 i)), (6, .inl (σ 32 i)), (7, .inl (R_X4_whyWrongt σ (bor (σ 32 i) (bshl 1 (σ 29 i))) (σ 30 i) (σ 31 i)))]) rfl (by decide) dX4_judgeLine_82 ?_
      refine zRx.iload 7 rfl dX4_judgeLine_84 ?_
      refine zRx.if_eq (tgt := 92) dX4_judgeLine_86 (by decide) (fun c86 => ?_) (fun c86 => ?_)
      · refine zRx.iload_n 2 rfl rfl dX4_judgeLine_92 ?_
        by_cases c93_1 : σ 28 i = 1
        · refine zRx.topI (b := 1) c93_1 ?_
          refine zRx.tableIn (tgt := 120) dX4_judgeLine_93 (by decide) (by decide) rfl (by decide) ?_
          refine zRx.aload_n 0 rfl rfl dX4_judgeLine_120 ?_
          refine zRx.iload_n 1 rfl rfl dX4_judgeLine_121 ?_
          refine zRx.cVv (M := m_X4_lie) (av := [.inl i]) cv_4_110 mk_X4_lie (by decide) (b := 67) rfl rfl (Nat.le_of_ble_eq_true rfl) dX4_judgeLine_122 (does_X4_liet σ i (by omega) (by omega) hm) ?_
          refine zRx.goto (tgt := 221) dX4_judgeLine_125 (by decide) ?_
          refine zRx.iconst ⟨by decide, by decide⟩ dX4_judgeLine_221 ?_
          exact zR.iret rfl dX4_judgeLine_222 ⟨by unfold V_X4_judgeLinet; rw [if_neg c11, if_pos c50, if_pos c86], by unfold F_X4_judgeLinet; rw [if_neg c11, if_pos c50, if_pos c86, if_pos c93_1]⟩
        by_cases c93_2 : σ 28 i = 2
        · refine zRx.topI (b := 2) c93_2 ?_
          refine zRx.tableIn (tgt := 128) dX4_judgeLine_93 (by decide) (by decide) rfl (by decide) ?_
          refine zRx.aload_n 0 rfl rfl dX4_judgeLine_128 ?_
          refine zRx.iload_n 3 rfl rfl dX4_judgeLine_129 ?_
          refine zRx.aload_n 0 rfl rfl dX4_judgeLine_130 ?_
          refine zRx.getR (a := 67) (b := 5) fl_4_51 rfl rfl dX4_judgeLine_131 ?_
          refine zRx.getR (a := 5) (b := 9) fl_4_114 rfl rfl dX4_judgeLine_134 ?_
          refine zRx.iload 5 rfl dX4_judgeLine_137 ?_
          refine zRx.ialdv (v := σ 9 (σ 31 i)) rfl rfl (by omega) (by omega) dX4_judgeLine_139 ?_
          refine zRx.aload_n 0 rfl rfl dX4_judgeLine_140 ?_
          refine zRx.getR (a := 67) (b := 5) fl_4_51 rfl rfl dX4_judgeLine_141 ?_
          refine zRx.getR (a := 5) (b := 15) fl_4_117 rfl rfl dX4_judgeLine_144 ?_
          refine zRx.iconst ⟨by decide, by decide⟩ dX4_judgeLine_147 ?_
          refine zRx.ialdv (v := σ 15 3) rfl rfl (by decide) (by decide) dX4_judgeLine_148 ?_
          refine zRx.imulW dX4_judgeLine_149 ?_
          refine zRx.bipush ⟨by decide, by decide⟩ rfl dX4_judgeLine_150 ?_
          refine zRx.cSi (w := .inl (V_cutUpW (w32 ((σ 9 (σ 31 i)) * (σ 15 3))) 10)) (M := m_X11_cutUp) (av := [.inl (w32 ((σ 9 (σ 31 i)) * (σ 15 3))), .inl 10]) cs_4_120 mk_X11_cutUp (by decide) rfl (Nat.le_of_ble_eq_true rfl) dX4_judgeLine_152 (does_cutUpW σ (w32 ((σ 9 (σ 31 i)) * (σ 15 3))) 10 SC) ?_
          refine zRx.iload_n 1 rfl rfl dX4_judgeLine_155 ?_
          refine zRx.cVv (M := m_X4_owe) (av := [.inl (σ 29 i), .inl (V_cutUpW (w32 ((σ 9 (σ 31 i)) * (σ 15 3))) 10), .inl i]) cv_4_124 mk_X4_owe (by decide) (b := 67) rfl rfl (Nat.le_of_ble_eq_true rfl) dX4_judgeLine_156 (does_X4_owet σ (σ 29 i) (V_cutUpW (w32 ((σ 9 (σ 31 i)) * (σ 15 3))) 10) i (by omega) (by omega)) ?_
          refine zRx.goto (tgt := 221) dX4_judgeLine_159 (by decide) ?_
          refine zRx.iconst ⟨by decide, by decide⟩ dX4_judgeLine_221 ?_
          exact zR.iret rfl dX4_judgeLine_222 ⟨by unfold V_X4_judgeLinet; rw [if_neg c11, if_pos c50, if_pos c86], by unfold F_X4_judgeLinet; rw [if_neg c11, if_pos c50, if_pos c86, if_neg c93_1, if_pos c93_2]⟩
        by_cases c93_3 : σ 28 i = 3
        · refine zRx.topI (b := 3) c93_3 ?_
          refine zRx.tableIn (tgt := 162) dX4_judgeLine_93 (by decide) (by decide) rfl (by decide) ?_
          refine zRx.aload_n 0 rfl rfl dX4_judgeLine_162 ?_
          refine zRx.iload_n 3 rfl rfl dX4_judgeLine_163 ?_
          refine zRx.iload 4 rfl dX4_judgeLine_164 ?_
          refine zRx.iload 5 rfl dX4_judgeLine_166 ?_
          refine zRx.iload_n 1 rfl rfl dX4_judgeLine_168 ?_
          refine zRx.cVv (M := m_X4_tell) (av := [.inl (σ 29 i), .inl (σ 30 i), .inl (σ 31 i), .inl i]) cv_4_128 mk_X4_tell (by decide) (b := 67) rfl rfl (Nat.le_of_ble_eq_true rfl) dX4_judgeLine_169 (does_X4_tellt σ (σ 29 i) (σ 30 i) (σ 31 i) i (by omega) (by omega) (by omega) hp hs hF (by omega)) ?_
          refine zRx.goto (tgt := 221) dX4_judgeLine_172 (by decide) ?_
          refine zRx.iconst ⟨by decide, by decide⟩ dX4_judgeLine_221 ?_
          exact zR.iret rfl dX4_judgeLine_222 ⟨by unfold V_X4_judgeLinet; rw [if_neg c11, if_pos c50, if_pos c86], by unfold F_X4_judgeLinet; rw [if_neg c11, if_pos c50, if_pos c86, if_neg c93_1, if_neg c93_2, if_pos c93_3]⟩
        refine zRx.tableOut (tgt := 175) dX4_judgeLine_93 (by omega) (by decide) ?_
        refine zRx.aload_n 0 rfl rfl dX4_judgeLine_175 ?_
        refine zRx.getR (a := 67) (b := 70) fl_4_18 rfl rfl dX4_judgeLine_176 ?_
        refine zRx.iload_n 3 rfl rfl dX4_judgeLine_179 ?_
        refine zRx.dup2 rfl rfl dX4_judgeLine_180 ?_
        refine zRx.ialdv (v := σ 70 (σ 29 i)) rfl rfl (by omega) (by omega) dX4_judgeLine_181 ?_
        refine zRx.aload_n 0 rfl rfl dX4_judgeLine_182 ?_
        refine zRx.getR (a := 67) (b := 27) fl_4_55 rfl rfl dX4_judgeLine_183 ?_
        refine zRx.getR (a := 27) (b := 32) fl_4_103 rfl rfl dX4_judgeLine_186 ?_
        refine zRx.iload_n 1 rfl rfl dX4_judgeLine_189 ?_
        refine zRx.ialdv (v := σ 32 i) rfl rfl (by omega) (by omega) dX4_judgeLine_190 ?_
        refine zRx.iaddW dX4_judgeLine_191 ?_
        refine zRx.iast rfl (by omega) (by omega) dX4_judgeLine_192 ?_
        refine zRx.aload_n 0 rfl rfl dX4_judgeLine_193 ?_
        refine zRx.getR (a := 67) (b := 70) fl_4_18 rfl rfl dX4_judgeLine_194 ?_
        refine zRx.iload 4 rfl dX4_judgeLine_197 ?_
        refine zRx.dup2 rfl rfl dX4_judgeLine_199 ?_
        refine zRx.ialdv (v := σ 70 (σ 30 i)) (zu_off _ _ _ (by omega)) rfl (by omega) (by omega) dX4_judgeLine_200 ?_
        refine zRx.aload_n 0 rfl rfl dX4_judgeLine_201 ?_
        refine zRx.getR (a := 67) (b := 27) fl_4_55 rfl rfl dX4_judgeLine_202 ?_
        refine zRx.getR (a := 27) (b := 32) fl_4_103 rfl rfl dX4_judgeLine_205 ?_
        refine zRx.iload_n 1 rfl rfl dX4_judgeLine_208 ?_
        refine zRx.ialdv (v := σ 32 i) (zu_ne _ _ _ _ (by decide)) rfl (by omega) (by omega) dX4_judgeLine_209 ?_
        refine zRx.isubW dX4_judgeLine_210 ?_
        refine zRx.iast rfl (by omega) (by omega) dX4_judgeLine_211 ?_
        refine zRx.aload_n 0 rfl rfl dX4_judgeLine_212 ?_
        refine zRx.iload 4 rfl dX4_judgeLine_213 ?_
        refine zRx.iload 5 rfl dX4_judgeLine_215 ?_
        refine zRx.iload_n 1 rfl rfl dX4_judgeLine_217 ?_
        refine zRx.cVv (M := m_X4_learn) (av := [.inl (σ 30 i), .inl (σ 31 i), .inl i]) cv_4_132 mk_X4_learn (by decide) (b := 67) rfl rfl (Nat.le_of_ble_eq_true rfl) dX4_judgeLine_218 (does_X4_learnt (zu (zu σ 70 (σ 29 i) (w32 ((σ 70 (σ 29 i)) + (σ 32 i)))) 70 (σ 30 i) (w32 ((σ 70 (σ 30 i)) - (σ 32 i)))) (σ 30 i) (σ 31 i) i (by omega) (by have e9 : (zu (zu σ 70 (σ 29 i) (w32 ((σ 70 (σ 29 i)) + (σ 32 i)))) 70 (σ 30 i) (w32 ((σ 70 (σ 30 i)) - (σ 32 i)))) 5 2 = σ 5 2 := ((zu_ne _ _ _ _ (by decide)).trans (zu_ne _ _ _ _ (by decide))); omega) (by have e9 : (zu (zu σ 70 (σ 29 i) (w32 ((σ 70 (σ 29 i)) + (σ 32 i)))) 70 (σ 30 i) (w32 ((σ 70 (σ 30 i)) - (σ 32 i)))) 5 1 = σ 5 1 := ((zu_ne _ _ _ _ (by decide)).trans (zu_ne _ _ _ _ (by decide))); omega) (by have e9 : (zu (zu σ 70 (σ 29 i) (w32 ((σ 70 (σ 29 i)) + (σ 32 i)))) 70 (σ 30 i) (w32 ((σ 70 (σ 30 i)) - (σ 32 i)))) 67 8 = σ 67 8 := ((zu_ne _ _ _ _ (by decide)).trans (zu_ne _ _ _ _ (by decide))); omega)) ?_
        refine zRx.iconst ⟨by decide, by decide⟩ dX4_judgeLine_221 ?_
        exact zR.iret rfl dX4_judgeLine_222 ⟨by unfold V_X4_judgeLinet; rw [if_neg c11, if_pos c50, if_pos c86], by unfold F_X4_judgeLinet; rw [if_neg c11, if_pos c50, if_pos c86, if_neg c93_1, if_neg c93_2, if_neg c93_3]⟩
      · refine zRx.iload 7 rfl dX4_judgeLine_89 ?_
        exact zR.iret rfl dX4_judgeLine_91 ⟨by unfold V_X4_judgeLinet; rw [if_neg c11, if_pos c50, if_neg c86], by unfold F_X4_judgeLinet; rw [if_neg c11, if_pos c50, if_neg c86]⟩
  · refine zRx.iconst ⟨by decide, by decide⟩ dX4_judgeLine_14 ?_
    exact zR.iret rfl dX4_judgeLine_15 ⟨by unfold V_X4_judgeLinet; rw [if_pos c11], by unfold F_X4_judgeLinet; rw [if_pos c11]⟩

theorem lieL_mt (i wi much : Int) : ∀ (n : Nat) (q : Int) (σ : zG), (0 ≤ σ 67 8 ∧ σ 67 8 ≤ 128) → 0 ≤ L_X4_lie_55t i wi much n q σ 67 8 ∧ L_X4_lie_55t i wi much n q σ 67 8 ≤ 128
  | 0, q, σ, h => h
  | n + 1, q, σ, h => by
    rw [L_X4_lie_55t]
    split
    · exact h
    · exact lieL_mt i wi much n _ _ (owe_mt _ _ _ _ h)
theorem judge_mt (σ : zG) (i : Int) (h : 0 ≤ σ 67 8 ∧ σ 67 8 ≤ 128) : 0 ≤ F_X4_judgeLinet σ i 67 8 ∧ F_X4_judgeLinet σ i 67 8 ≤ 128 := by
  have hl : 0 ≤ R_X4_liet σ i 67 8 ∧ R_X4_liet σ i 67 8 ≤ 128 := by
    unfold R_X4_liet
    exact lieL_mt _ _ _ _ _ _ (owe_mt _ _ _ _ h)
  have ht : ∀ who an f i, F_X4_tellt σ who an f i 67 8 = σ 67 8 := by
    intro who an f i
    unfold F_X4_tellt
    rw [learn_mt, zu_ne _ _ _ _ (by decide)]
    exact congrFun (fr_R_X4_payt σ _ _ _ (k := 67) (by decide)) 8
  unfold F_X4_judgeLinet
  repeat' split
  all_goals first | exact h | exact hl | exact owe_mt _ _ _ _ h | (rw [ht]; exact h) | (rw [learn_mt, zu_ne _ _ _ _ (by decide), zu_ne _ _ _ _ (by decide)]; exact h)

def S_X4_clear_2t  : Nat → Int → zG → Int × zG
  | 0, q, σ => (q, σ)
  | n + 1, q, σ => if 8 ≤ q then (q, σ) else (if (σ 5 0) ≤ q then (S_X4_clear_2t  n (q + 1) (zu σ 68 q 0)) else (S_X4_clear_2t  n (q + 1) (zu σ 68 q (R_X9_follow σ (σ 7 q)))))
theorem fr_S_X4_clear_2t   (n : Nat) (q : Int) (σ : zG) {k : Nat} (h : k ∉ [68]) : (S_X4_clear_2t  n q σ).2 k = σ k := by
  induction n generalizing q σ with
  | zero => rfl
  | succ n ih =>
    have ne : ∀ c ∈ [68], k ≠ c := fun c hc e => h (e ▸ hc)
    rw [S_X4_clear_2t]
    repeat' split
    all_goals first | rfl | simp only [zu_row _ _ _ (ne 68 (by decide)), ih]

set_option maxRecDepth 20000 in
theorem seg_X4_clear_2t   : ∀ (n : Nat) (q : Int) (σ : zG) (X : zX), 0 ≤ q → σ 5 2 ≤ 8 → (8 - q).toNat < n → zRx none 1 m_X4_clear SC 51 [(0, zP 67), (1, .inl ((S_X4_clear_2t  n q σ).1))] [] ((S_X4_clear_2t  n q σ).2) X → zRx none 1 m_X4_clear SC 2 [(0, zP 67), (1, .inl q)] [] σ X := by
  intro n
  induction n with
  | zero => intro q σ X h0 hs hmz; exact absurd hmz (Nat.not_lt_zero _)
  | succ n ih =>
    intro q σ X h0 hs hmz K
    refine zRx.iload_n 1 rfl rfl dX4_clear_2 ?_
    refine zRx.bipush ⟨by decide, by decide⟩ rfl dX4_clear_3 ?_
    refine zRx.icmp_ge (tgt := 51) dX4_clear_5 (by decide) (fun c5 => ?_) (fun c5 => ?_)
    · have he : S_X4_clear_2t  (n + 1) q σ = (q, σ) := by rw [S_X4_clear_2t, if_pos c5]
      rw [he] at K
      exact K
    · refine zRx.aload_n 0 rfl rfl dX4_clear_8 ?_
      refine zRx.getR (a := 67) (b := 68) fl_4_9 rfl rfl dX4_clear_9 ?_
      refine zRx.iload_n 1 rfl rfl dX4_clear_12 ?_
      refine zRx.iload_n 1 rfl rfl dX4_clear_13 ?_
      refine zRx.aload_n 0 rfl rfl dX4_clear_14 ?_
      refine zRx.getR (a := 67) (b := 5) fl_4_51 rfl rfl dX4_clear_15 ?_
      refine zRx.getIv (a := 5) (ji := 0) (v := σ 5 0) rfl fl_4_65 rfl rfl rfl dX4_clear_18 ?_
      refine zRx.icmp_ge (tgt := 43) dX4_clear_21 (by decide) (fun c21 => ?_) (fun c21 => ?_)
      · refine zRx.iconst ⟨by decide, by decide⟩ dX4_clear_43 ?_
        refine zRx.iast rfl (by omega) (by omega) dX4_clear_44 ?_
        refine zRx.iinc (n := 1) (ls' := [(0, zP 67), (1, .inl (q + 1))]) 1 rfl ⟨by omega, by omega⟩ rfl (by decide) dX4_clear_45 ?_
        refine zRx.goto (tgt := 2) dX4_clear_48 (by decide) ?_
        have he : S_X4_clear_2t  (n + 1) q σ = S_X4_clear_2t  n (q + 1) (zu σ 68 q 0) := by rw [S_X4_clear_2t, if_neg (Int.not_le.mpr c5), if_pos c21]
        rw [he] at K
        exact ih (q + 1) (zu σ 68 q 0) _ (by omega) (by have e9 : (zu σ 68 q 0) 5 2 = σ 5 2 := (zu_ne _ _ _ _ (by decide)); omega) (by omega) K
      · refine zRx.aload_n 0 rfl rfl dX4_clear_24 ?_
        refine zRx.getR (a := 67) (b := 5) fl_4_51 rfl rfl dX4_clear_25 ?_
        refine zRx.aload_n 0 rfl rfl dX4_clear_28 ?_
        refine zRx.getR (a := 67) (b := 5) fl_4_51 rfl rfl dX4_clear_29 ?_
        refine zRx.getR (a := 5) (b := 7) fl_4_71 rfl rfl dX4_clear_32 ?_
        refine zRx.iload_n 1 rfl rfl dX4_clear_35 ?_
        refine zRx.ialdv (v := σ 7 q) rfl rfl (by omega) (by omega) dX4_clear_36 ?_
        refine zRx.cVi (w := .inl (R_X9_follow σ (σ 7 q))) (M := m_X9_follow) (av := [.inl (σ 7 q)]) cv_4_74 mk_X9_follow (by decide) (b := 5) rfl rfl (Nat.le_of_ble_eq_true rfl) dX4_clear_37 (does_X9_follow σ (σ 7 q) (by omega)) ?_
        refine zRx.goto (tgt := 44) dX4_clear_40 (by decide) ?_
        refine zRx.iast rfl (by omega) (by omega) dX4_clear_44 ?_
        refine zRx.iinc (n := 1) (ls' := [(0, zP 67), (1, .inl (q + 1))]) 1 rfl ⟨by omega, by omega⟩ rfl (by decide) dX4_clear_45 ?_
        refine zRx.goto (tgt := 2) dX4_clear_48 (by decide) ?_
        have he : S_X4_clear_2t  (n + 1) q σ = S_X4_clear_2t  n (q + 1) (zu σ 68 q (R_X9_follow σ (σ 7 q))) := by rw [S_X4_clear_2t, if_neg (Int.not_le.mpr c5), if_neg (Int.not_le.mpr c21)]
        rw [he] at K
        exact ih (q + 1) (zu σ 68 q (R_X9_follow σ (σ 7 q))) _ (by omega) (by have e9 : (zu σ 68 q (R_X9_follow σ (σ 7 q))) 5 2 = σ 5 2 := (zu_ne _ _ _ _ (by decide)); omega) (by omega) K
def R_X4_cleart (σ : zG)  : zG := zu (zu (zfl (zfl (zfl ((S_X4_clear_2t  10 0 σ).2) 69 8 0) 70 8 0) 71 96 (-1)) 67 7 0) 67 8 0
theorem fr_R_X4_cleart (σ : zG)  {k : Nat} (h : k ∉ [67, 68, 69, 70, 71]) : (R_X4_cleart σ ) k = σ k := by
  have ne : ∀ c ∈ [67, 68, 69, 70, 71], k ≠ c := fun c hc e => h (e ▸ hc)
  have nk_zfl_71 : k ∉ [71] := fun hm => h (by revert hm; simp only [List.mem_cons, List.not_mem_nil, or_false]; omega)
  have nk_zfl_70 : k ∉ [70] := fun hm => h (by revert hm; simp only [List.mem_cons, List.not_mem_nil, or_false]; omega)
  have nk_zfl_69 : k ∉ [69] := fun hm => h (by revert hm; simp only [List.mem_cons, List.not_mem_nil, or_false]; omega)
  have nk_S_X4_clear_2t : k ∉ [68] := fun hm => h (by revert hm; simp only [List.mem_cons, List.not_mem_nil, or_false]; omega)
  have nl_S_X4_clear_2t : k ∉ [68] := fun hm => h (by revert hm; simp only [List.mem_cons, List.not_mem_nil, or_false]; omega)
  unfold R_X4_cleart
  repeat' split
  all_goals first | rfl | simp only [zu_row _ _ _ (ne 67 (by decide)), zu_row _ _ _ (ne 68 (by decide)), zu_row _ _ _ (ne 69 (by decide)), zu_row _ _ _ (ne 70 (by decide)), zu_row _ _ _ (ne 71 (by decide)), fr_zfl (h := nk_zfl_71), fr_zfl (h := nk_zfl_70), fr_zfl (h := nk_zfl_69), fr_S_X4_clear_2t (h := nk_S_X4_clear_2t), fr_S_X4_clear_2t (h := nl_S_X4_clear_2t)]

set_option maxRecDepth 20000 in
theorem does_X4_cleart (σ : zG)  (hs : σ 5 2 ≤ 8)  : zDo SC 1 m_X4_clear [zP 67] σ (zEq none (R_X4_cleart σ )) := by
  refine zDo.intro mk_X4_clear (Nat.le_of_ble_eq_true rfl) ?_
  refine zRx.iconst ⟨by decide, by decide⟩ dX4_clear_0 ?_
  refine zRx.istore_n (ls' := [(0, zP 67), (1, .inl 0)]) rfl rfl (by decide) dX4_clear_1 ?_
  refine seg_X4_clear_2t    10 0 σ _ (by omega) hs (by omega) ?_
  refine zRx.aload_n 0 rfl rfl dX4_clear_51 ?_
  refine zRx.getR (a := 67) (b := 69) fl_4_15 rfl rfl dX4_clear_52 ?_
  refine zRx.iconst ⟨by decide, by decide⟩ dX4_clear_55 ?_
  refine zRx.cSv (M := m_J7_fill_53178) (av := [zP 69, .inl 0]) cs_4_59 mk_J7_fill_53178 (by decide) rfl (Nat.le_of_ble_eq_true rfl) dX4_clear_56 (does_fill SC 69 8 0 ((S_X4_clear_2t  10 0 σ).2) rfl (by decide)) ?_
  refine zRx.aload_n 0 rfl rfl dX4_clear_59 ?_
  refine zRx.getR (a := 67) (b := 70) fl_4_18 rfl rfl dX4_clear_60 ?_
  refine zRx.iconst ⟨by decide, by decide⟩ dX4_clear_63 ?_
  refine zRx.cSv (M := m_J7_fill_53178) (av := [zP 70, .inl 0]) cs_4_59 mk_J7_fill_53178 (by decide) rfl (Nat.le_of_ble_eq_true rfl) dX4_clear_64 (does_fill SC 70 8 0 (zfl ((S_X4_clear_2t  10 0 σ).2) 69 8 0) rfl (by decide)) ?_
  refine zRx.aload_n 0 rfl rfl dX4_clear_67 ?_
  refine zRx.getR (a := 67) (b := 71) fl_4_21 rfl rfl dX4_clear_68 ?_
  refine zRx.iconst ⟨by decide, by decide⟩ dX4_clear_71 ?_
  refine zRx.cSv (M := m_J7_fill_53178) (av := [zP 71, .inl (-1)]) cs_4_59 mk_J7_fill_53178 (by decide) rfl (Nat.le_of_ble_eq_true rfl) dX4_clear_72 (does_fill SC 71 96 (-1) (zfl (zfl ((S_X4_clear_2t  10 0 σ).2) 69 8 0) 70 8 0) rfl (by decide)) ?_
  refine zRx.aload_n 0 rfl rfl dX4_clear_75 ?_
  refine zRx.iconst ⟨by decide, by decide⟩ dX4_clear_76 ?_
  refine zRx.putI (a := 67) (ji := 7) pl_4_78 rfl rfl rfl dX4_clear_77 ?_
  refine zRx.aload_n 0 rfl rfl dX4_clear_80 ?_
  refine zRx.iconst ⟨by decide, by decide⟩ dX4_clear_81 ?_
  refine zRx.putI (a := 67) (ji := 8) pl_4_81 rfl rfl rfl dX4_clear_82 ?_
  exact zR.ret rfl dX4_clear_85 ⟨rfl, (by rw [R_X4_cleart] : R_X4_cleart σ  = zu (zu (zfl (zfl (zfl ((S_X4_clear_2t  10 0 σ).2) 69 8 0) 70 8 0) 71 96 (-1)) 67 7 0) 67 8 0).symm⟩

theorem clear_mt (σ : zG) : R_X4_cleart σ 67 8 = 0 := by
  unfold R_X4_cleart
  rw [zu_at]

def L_X4_judge_6t (but : Int) : Nat → Int → zG → zG
  | 0, _, σ => σ
  | n + 1, q, σ => if (σ 27 0) ≤ q then σ else (if q = but then (L_X4_judge_6t but n (q + 1) (zu σ 72 q 0)) else (L_X4_judge_6t but n (q + 1) (zu (F_X4_judgeLinet σ q) 72 q (V_X4_judgeLinet σ q))))
theorem fr_L_X4_judge_6t (but : Int)  (n : Nat) (q : Int) (σ : zG) {k : Nat} (h : k ∉ [67, 68, 69, 70, 71, 72, 73, 74, 75, 76, 77, 78, 79, 80]) : (L_X4_judge_6t but n q σ) k = σ k := by
  induction n generalizing q σ with
  | zero => rfl
  | succ n ih =>
    have ne : ∀ c ∈ [67, 68, 69, 70, 71, 72, 73, 74, 75, 76, 77, 78, 79, 80], k ≠ c := fun c hc e => h (e ▸ hc)
    have nk_F_X4_judgeLinet : k ∉ [67, 68, 69, 70, 71, 73, 74, 75, 76, 77, 78, 79, 80] := fun hm => h (by revert hm; simp only [List.mem_cons, List.not_mem_nil, or_false]; omega)
    rw [L_X4_judge_6t]
    repeat' split
    all_goals first | rfl | simp only [zu_row _ _ _ (ne 67 (by decide)), zu_row _ _ _ (ne 68 (by decide)), zu_row _ _ _ (ne 69 (by decide)), zu_row _ _ _ (ne 70 (by decide)), zu_row _ _ _ (ne 71 (by decide)), zu_row _ _ _ (ne 72 (by decide)), zu_row _ _ _ (ne 73 (by decide)), zu_row _ _ _ (ne 74 (by decide)), zu_row _ _ _ (ne 75 (by decide)), zu_row _ _ _ (ne 76 (by decide)), zu_row _ _ _ (ne 77 (by decide)), zu_row _ _ _ (ne 78 (by decide)), zu_row _ _ _ (ne 79 (by decide)), zu_row _ _ _ (ne 80 (by decide)), fr_F_X4_judgeLinet (h := nk_F_X4_judgeLinet), ih]

set_option maxRecDepth 20000 in
theorem loop_X4_judge_6t (but : Int)  : ∀ (n : Nat) (q : Int) (σ : zG), 0 ≤ q → WC σ → 0 ≤ σ 67 8 ∧ σ 67 8 ≤ 128 → (σ 27 0 - q).toNat < n → zR SC 5 m_X4_judge 6 [(0, zP 67), (1, .inl but), (2, .inl q)] [] σ (zEq none (L_X4_judge_6t but n q σ)) := by
  intro n
  induction n with
  | zero => intro q σ h0 hC hm hmz; exact absurd hmz (Nat.not_lt_zero _)
  | succ n ih =>
    intro q σ h0 hC hm hmz
    refine zRx.iload_n 2 rfl rfl dX4_judge_6 ?_
    refine zRx.aload_n 0 rfl rfl dX4_judge_7 ?_
    refine zRx.getR (a := 67) (b := 27) fl_4_55 rfl rfl dX4_judge_8 ?_
    refine zRx.getIv (a := 27) (ji := 0) (v := σ 27 0) rfl fl_4_87 rfl rfl rfl dX4_judge_11 ?_
    refine zRx.icmp_ge (tgt := 43) dX4_judge_14 (by decide) (fun c14 => ?_) (fun c14 => ?_)
    · exact zR.ret rfl dX4_judge_43 ⟨rfl, (by rw [L_X4_judge_6t, if_pos c14] : L_X4_judge_6t but (n + 1) q σ = σ).symm⟩
    · obtain ⟨hp, hs, hF, hL, hB⟩ := id hC
      refine zRx.aload_n 0 rfl rfl dX4_judge_17 ?_
      refine zRx.getR (a := 67) (b := 72) fl_4_24 rfl rfl dX4_judge_18 ?_
      refine zRx.iload_n 2 rfl rfl dX4_judge_21 ?_
      refine zRx.iload_n 2 rfl rfl dX4_judge_22 ?_
      refine zRx.iload_n 1 rfl rfl dX4_judge_23 ?_
      refine zRx.icmp_ne (tgt := 31) dX4_judge_24 (by decide) (fun c24 => ?_) (fun c24 => ?_)
      · refine zRx.aload_n 0 rfl rfl dX4_judge_31 ?_
        refine zRx.iload_n 2 rfl rfl dX4_judge_32 ?_
        refine zRx.cVi (w := .inl (V_X4_judgeLinet σ q)) (M := m_X4_judgeLine) (av := [.inl q]) cv_4_92 mk_X4_judgeLine (by decide) (b := 67) rfl rfl (Nat.le_of_ble_eq_true rfl) dX4_judge_33 (does_X4_judgeLinet σ q (by omega) (hB _ (by omega) (by omega)) hp hs hF hm) ?_
        refine zRx.iast rfl (by omega) (by omega) dX4_judge_36 ?_
        refine zRx.iinc (n := 1) (ls' := [(0, zP 67), (1, .inl but), (2, .inl (q + 1))]) 2 rfl ⟨by omega, by omega⟩ rfl (by decide) dX4_judge_37 ?_
        refine zRx.goto (tgt := 6) dX4_judge_40 (by decide) ?_
        have he : L_X4_judge_6t but (n + 1) q σ = L_X4_judge_6t but n (q + 1) (zu (F_X4_judgeLinet σ q) 72 q (V_X4_judgeLinet σ q)) := by rw [L_X4_judge_6t, if_neg (Int.not_le.mpr c14), if_neg c24]
        rw [he]
        exact ih (q + 1) (zu (F_X4_judgeLinet σ q) 72 q (V_X4_judgeLinet σ q)) (by omega) (WC_fr (fun k hk => by rw [zu_row _ _ _ (by omega), fr_F_X4_judgeLinet (h := by simp; omega)]) hC) (by rw [zu_ne _ _ _ _ (by decide)]; exact judge_mt _ _ hm) (by rw [show (zu (F_X4_judgeLinet σ q) 72 q (V_X4_judgeLinet σ q)) 27 0 = σ 27 0 from (zu_ne _ _ _ _ (by decide)).trans (congrFun (fr_F_X4_judgeLinet σ q (k := 27) (by decide)) 0)]; omega)
      · refine zRx.iconst ⟨by decide, by decide⟩ dX4_judge_27 ?_
        refine zRx.goto (tgt := 36) dX4_judge_28 (by decide) ?_
        refine zRx.iast rfl (by omega) (by omega) dX4_judge_36 ?_
        refine zRx.iinc (n := 1) (ls' := [(0, zP 67), (1, .inl but), (2, .inl (q + 1))]) 2 rfl ⟨by omega, by omega⟩ rfl (by decide) dX4_judge_37 ?_
        refine zRx.goto (tgt := 6) dX4_judge_40 (by decide) ?_
        have he : L_X4_judge_6t but (n + 1) q σ = L_X4_judge_6t but n (q + 1) (zu σ 72 q 0) := by rw [L_X4_judge_6t, if_neg (Int.not_le.mpr c14), if_pos c24]
        rw [he]
        exact ih (q + 1) (zu σ 72 q 0) (by omega) (WC_fr (fun k hk => zu_row _ _ _ (by omega)) hC) (by rw [zu_ne _ _ _ _ (by decide)]; exact hm) (by rw [zu_ne _ _ _ _ (by decide)]; omega)
def R_X4_judget (σ : zG) (but : Int) : zG := L_X4_judge_6t but 70 0 (R_X4_cleart σ )
theorem fr_R_X4_judget (σ : zG) (but : Int) {k : Nat} (h : k ∉ [67, 68, 69, 70, 71, 72, 73, 74, 75, 76, 77, 78, 79, 80]) : (R_X4_judget σ but) k = σ k := by
  have ne : ∀ c ∈ [67, 68, 69, 70, 71, 72, 73, 74, 75, 76, 77, 78, 79, 80], k ≠ c := fun c hc e => h (e ▸ hc)
  have nk_R_X4_cleart : k ∉ [67, 68, 69, 70, 71] := fun hm => h (by revert hm; simp only [List.mem_cons, List.not_mem_nil, or_false]; omega)
  have nl_L_X4_judge_6t : k ∉ [67, 68, 69, 70, 71, 72, 73, 74, 75, 76, 77, 78, 79, 80] := fun hm => h (by revert hm; simp only [List.mem_cons, List.not_mem_nil, or_false]; omega)
  unfold R_X4_judget
  repeat' split
  all_goals first | rfl | simp only [zu_row _ _ _ (ne 67 (by decide)), zu_row _ _ _ (ne 68 (by decide)), zu_row _ _ _ (ne 69 (by decide)), zu_row _ _ _ (ne 70 (by decide)), zu_row _ _ _ (ne 71 (by decide)), zu_row _ _ _ (ne 72 (by decide)), zu_row _ _ _ (ne 73 (by decide)), zu_row _ _ _ (ne 74 (by decide)), zu_row _ _ _ (ne 75 (by decide)), zu_row _ _ _ (ne 76 (by decide)), zu_row _ _ _ (ne 77 (by decide)), zu_row _ _ _ (ne 78 (by decide)), zu_row _ _ _ (ne 79 (by decide)), zu_row _ _ _ (ne 80 (by decide)), fr_R_X4_cleart (h := nk_R_X4_cleart), fr_L_X4_judge_6t (h := nl_L_X4_judge_6t)]

set_option maxRecDepth 20000 in
theorem does_X4_judget (σ : zG) (but : Int) (hC : WC σ)  : zDo SC 5 m_X4_judge [zP 67, .inl but] σ (zEq none (R_X4_judget σ but)) := by
  refine zDo.intro mk_X4_judge (Nat.le_of_ble_eq_true rfl) ?_
  refine zRx.aload_n 0 rfl rfl dX4_judge_0 ?_
  refine zRx.cVv (M := m_X4_clear) (av := []) cv_4_84 mk_X4_clear (by decide) (b := 67) rfl rfl (Nat.le_of_ble_eq_true rfl) dX4_judge_1 (does_X4_cleart σ  hC.2.1) ?_
  refine zRx.iconst ⟨by decide, by decide⟩ dX4_judge_4 ?_
  refine zRx.istore_n (ls' := [(0, zP 67), (1, .inl but), (2, .inl 0)]) rfl rfl (by decide) dX4_judge_5 ?_
  have he : R_X4_judget σ but = L_X4_judge_6t but 70 0 (R_X4_cleart σ ) := by rw [R_X4_judget]
  rw [he]
  exact loop_X4_judge_6t but   70 0 (R_X4_cleart σ ) (by omega) (WC_fr (fun k hk => fr_R_X4_cleart σ (h := by simp; omega)) hC) (by rw [clear_mt]; decide) (by rw [show R_X4_cleart σ 27 0 = σ 27 0 from congrFun (fr_R_X4_cleart σ (k := 27) (by decide)) 0]; have := hC.2.2.2.1; omega)

