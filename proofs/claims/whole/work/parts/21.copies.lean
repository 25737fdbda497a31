/-! copies, lines added, knots -/
theorem fr_zcp (σ : zG) (a0 a : Nat) (sp dp n : Int) {k : Nat} (h : k ∉ [a]) : zcp σ a0 a sp dp n k = σ k := zcp_row σ sp dp n (by simpa using h)
theorem fr_zcs (σ : zG) (i a : Nat) (n : Int) {k : Nat} (h : k ∉ [a]) : zcs σ i a n k = σ k := zcs_row σ n (by simpa using h)

def F_X9_copy_5_16 (σ : zG)  : zG := zcp (zcp (zcp (zcp (zcp (zcp (zcp (zcp (zcp (zcp (zu (zu (zu σ 5 0 (σ 16 0)) 5 1 (σ 16 1)) 5 2 (σ 16 2)) 17 6 0 0 8) 18 7 0 0 8) 19 8 0 0 12) 20 9 0 0 12) 21 10 0 0 12) 22 11 0 0 12) 23 12 0 0 8) 24 13 0 0 8) 25 14 0 0 96) 26 15 0 0 5
theorem fr_F_X9_copy_5_16 (σ : zG)  {k : Nat} (h : k ∉ [5, 6, 7, 8, 9, 10, 11, 12, 13, 14, 15]) : (F_X9_copy_5_16 σ ) k = σ k := by
  have ne : ∀ c ∈ [5, 6, 7, 8, 9, 10, 11, 12, 13, 14, 15], k ≠ c := fun c hc e => h (e ▸ hc)
  have nk_zcp_15 : k ∉ [15] := fun hm => h (by first | (revert hm; simp only [List.mem_cons, List.not_mem_nil, or_false]; omega) | (simp at hm))
  have nk_zcp_14 : k ∉ [14] := fun hm => h (by first | (revert hm; simp only [List.mem_cons, List.not_mem_nil, or_false]; omega) | (simp at hm))
  have nk_zcp_13 : k ∉ [13] := fun hm => h (by first | (revert hm; simp only [List.mem_cons, List.not_mem_nil, or_false]; omega) | (simp at hm))
  have nk_zcp_12 : k ∉ [12] := fun hm => h (by first | (revert hm; simp only [List.mem_cons, List.not_mem_nil, or_false]; omega) | (simp at hm))
  have nk_zcp_11 : k ∉ [11] := fun hm => h (by first | (revert hm; simp only [List.mem_cons, List.not_mem_nil, or_false]; omega) | (simp at hm))
  have nk_zcp_10 : k ∉ [10] := fun hm => h (by first | (revert hm; simp only [List.mem_cons, List.not_mem_nil, or_false]; omega) | (simp at hm))
  have nk_zcp_9 : k ∉ [9] := fun hm => h (by first | (revert hm; simp only [List.mem_cons, List.not_mem_nil, or_false]; omega) | (simp at hm))
  have nk_zcp_8 : k ∉ [8] := fun hm => h (by first | (revert hm; simp only [List.mem_cons, List.not_mem_nil, or_false]; omega) | (simp at hm))
  have nk_zcp_7 : k ∉ [7] := fun hm => h (by first | (revert hm; simp only [List.mem_cons, List.not_mem_nil, or_false]; omega) | (simp at hm))
  have nk_zcp_6 : k ∉ [6] := fun hm => h (by first | (revert hm; simp only [List.mem_cons, List.not_mem_nil, or_false]; omega) | (simp at hm))
  unfold F_X9_copy_5_16
  repeat' split
  all_goals first | rfl | simp only [zu_row _ _ _ (ne 5 (by decide)), zu_row _ _ _ (ne 6 (by decide)), zu_row _ _ _ (ne 7 (by decide)), zu_row _ _ _ (ne 8 (by decide)), zu_row _ _ _ (ne 9 (by decide)), zu_row _ _ _ (ne 10 (by decide)), zu_row _ _ _ (ne 11 (by decide)), zu_row _ _ _ (ne 12 (by decide)), zu_row _ _ _ (ne 13 (by decide)), zu_row _ _ _ (ne 14 (by decide)), zu_row _ _ _ (ne 15 (by decide)), fr_zcp (h := nk_zcp_15), fr_zcp (h := nk_zcp_14), fr_zcp (h := nk_zcp_13), fr_zcp (h := nk_zcp_12), fr_zcp (h := nk_zcp_11), fr_zcp (h := nk_zcp_10), fr_zcp (h := nk_zcp_9), fr_zcp (h := nk_zcp_8), fr_zcp (h := nk_zcp_7), fr_zcp (h := nk_zcp_6)]

set_option maxRecDepth 20000 in
theorem does_X9_copy_5_16 (σ : zG)   : zDo SC 1 m_X9_copy [zP 5, zP 16] σ (zEq (none) (F_X9_copy_5_16 σ )) := by
  refine zDo.intro mk_X9_copy (Nat.le_of_ble_eq_true rfl) ?_
  refine zRx.aload_n 0 rfl rfl dX9_copy_0 ?_
  refine zRx.aload_n 1 rfl rfl dX9_copy_1 ?_
  refine zRx.getIv (a := 16) (ji := 0) (v := σ 16 0) rfl fl_9_57 rfl rfl rfl dX9_copy_2 ?_
  refine zRx.putI (a := 5) (ji := 0) pl_9_57 rfl rfl rfl dX9_copy_5 ?_
  refine zRx.aload_n 0 rfl rfl dX9_copy_8 ?_
  refine zRx.aload_n 1 rfl rfl dX9_copy_9 ?_
  refine zRx.getIv (a := 16) (ji := 1) (v := σ 16 1) (zu_ne _ _ _ _ (by decide)) fl_9_61 rfl rfl rfl dX9_copy_10 ?_
  refine zRx.putI (a := 5) (ji := 1) pl_9_61 rfl rfl rfl dX9_copy_13 ?_
  refine zRx.aload_n 0 rfl rfl dX9_copy_16 ?_
  refine zRx.aload_n 1 rfl rfl dX9_copy_17 ?_
  refine zRx.getIv (a := 16) (ji := 2) (v := σ 16 2) ((zu_ne _ _ _ _ (by decide)).trans (zu_ne _ _ _ _ (by decide))) fl_9_64 rfl rfl rfl dX9_copy_18 ?_
  refine zRx.putI (a := 5) (ji := 2) pl_9_64 rfl rfl rfl dX9_copy_21 ?_
  refine zRx.aload_n 1 rfl rfl dX9_copy_24 ?_
  refine zRx.getR (a := 16) (b := 17) fl_9_9 rfl rfl dX9_copy_25 ?_
  refine zRx.iconst ⟨by decide, by decide⟩ dX9_copy_28 ?_
  refine zRx.aload_n 0 rfl rfl dX9_copy_29 ?_
  refine zRx.getR (a := 5) (b := 6) fl_9_9 rfl rfl dX9_copy_30 ?_
  refine zRx.iconst ⟨by decide, by decide⟩ dX9_copy_33 ?_
  refine zRx.bipush ⟨by decide, by decide⟩ rfl dX9_copy_34 ?_
  refine zRx.acopy rfl rfl ac_9_51 (by decide) (Nat.le_of_ble_eq_true rfl) (by decide) (by decide) (by decide) (by decide) (by decide) dX9_copy_36 ?_
  refine zRx.aload_n 1 rfl rfl dX9_copy_39 ?_
  refine zRx.getR (a := 16) (b := 18) fl_9_15 rfl rfl dX9_copy_40 ?_
  refine zRx.iconst ⟨by decide, by decide⟩ dX9_copy_43 ?_
  refine zRx.aload_n 0 rfl rfl dX9_copy_44 ?_
  refine zRx.getR (a := 5) (b := 7) fl_9_15 rfl rfl dX9_copy_45 ?_
  refine zRx.iconst ⟨by decide, by decide⟩ dX9_copy_48 ?_
  refine zRx.bipush ⟨by decide, by decide⟩ rfl dX9_copy_49 ?_
  refine zRx.acopy rfl rfl ac_9_51 (by decide) (Nat.le_of_ble_eq_true rfl) (by decide) (by decide) (by decide) (by decide) (by decide) dX9_copy_51 ?_
  refine zRx.aload_n 1 rfl rfl dX9_copy_54 ?_
  refine zRx.getR (a := 16) (b := 19) fl_9_18 rfl rfl dX9_copy_55 ?_
  refine zRx.iconst ⟨by decide, by decide⟩ dX9_copy_58 ?_
  refine zRx.aload_n 0 rfl rfl dX9_copy_59 ?_
  refine zRx.getR (a := 5) (b := 8) fl_9_18 rfl rfl dX9_copy_60 ?_
  refine zRx.iconst ⟨by decide, by decide⟩ dX9_copy_63 ?_
  refine zRx.bipush ⟨by decide, by decide⟩ rfl dX9_copy_64 ?_
  refine zRx.acopy rfl rfl ac_9_51 (by decide) (Nat.le_of_ble_eq_true rfl) (by decide) (by decide) (by decide) (by decide) (by decide) dX9_copy_66 ?_
  refine zRx.aload_n 1 rfl rfl dX9_copy_69 ?_
  refine zRx.getR (a := 16) (b := 20) fl_9_21 rfl rfl dX9_copy_70 ?_
  refine zRx.iconst ⟨by decide, by decide⟩ dX9_copy_73 ?_
  refine zRx.aload_n 0 rfl rfl dX9_copy_74 ?_
  refine zRx.getR (a := 5) (b := 9) fl_9_21 rfl rfl dX9_copy_75 ?_
  refine zRx.iconst ⟨by decide, by decide⟩ dX9_copy_78 ?_
  refine zRx.bipush ⟨by decide, by decide⟩ rfl dX9_copy_79 ?_
  refine zRx.acopy rfl rfl ac_9_51 (by decide) (Nat.le_of_ble_eq_true rfl) (by decide) (by decide) (by decide) (by decide) (by decide) dX9_copy_81 ?_
  refine zRx.aload_n 1 rfl rfl dX9_copy_84 ?_
  refine zRx.getR (a := 16) (b := 21) fl_9_24 rfl rfl dX9_copy_85 ?_
  refine zRx.iconst ⟨by decide, by decide⟩ dX9_copy_88 ?_
  refine zRx.aload_n 0 rfl rfl dX9_copy_89 ?_
  refine zRx.getR (a := 5) (b := 10) fl_9_24 rfl rfl dX9_copy_90 ?_
  refine zRx.iconst ⟨by decide, by decide⟩ dX9_copy_93 ?_
  refine zRx.bipush ⟨by decide, by decide⟩ rfl dX9_copy_94 ?_
  refine zRx.acopy rfl rfl ac_9_51 (by decide) (Nat.le_of_ble_eq_true rfl) (by decide) (by decide) (by decide) (by decide) (by decide) dX9_copy_96 ?_
  refine zRx.aload_n 1 rfl rfl dX9_copy_99 ?_
  refine zRx.getR (a := 16) (b := 22) fl_9_27 rfl rfl dX9_copy_100 ?_
  refine zRx.iconst ⟨by decide, by decide⟩ dX9_copy_103 ?_
  refine zRx.aload_n 0 rfl rfl dX9_copy_104 ?_
  refine zRx.getR (a := 5) (b := 11) fl_9_27 rfl rfl dX9_copy_105 ?_
  refine zRx.iconst ⟨by decide, by decide⟩ dX9_copy_108 ?_
  refine zRx.bipush ⟨by decide, by decide⟩ rfl dX9_copy_109 ?_
  refine zRx.acopy rfl rfl ac_9_51 (by decide) (Nat.le_of_ble_eq_true rfl) (by decide) (by decide) (by decide) (by decide) (by decide) dX9_copy_111 ?_
  refine zRx.aload_n 1 rfl rfl dX9_copy_114 ?_
  refine zRx.getR (a := 16) (b := 23) fl_9_30 rfl rfl dX9_copy_115 ?_
  refine zRx.iconst ⟨by decide, by decide⟩ dX9_copy_118 ?_
  refine zRx.aload_n 0 rfl rfl dX9_copy_119 ?_
  refine zRx.getR (a := 5) (b := 12) fl_9_30 rfl rfl dX9_copy_120 ?_
  refine zRx.iconst ⟨by decide, by decide⟩ dX9_copy_123 ?_
  refine zRx.bipush ⟨by decide, by decide⟩ rfl dX9_copy_124 ?_
  refine zRx.acopy rfl rfl ac_9_51 (by decide) (Nat.le_of_ble_eq_true rfl) (by decide) (by decide) (by decide) (by decide) (by decide) dX9_copy_126 ?_
  refine zRx.aload_n 1 rfl rfl dX9_copy_129 ?_
  refine zRx.getR (a := 16) (b := 24) fl_9_33 rfl rfl dX9_copy_130 ?_
  refine zRx.iconst ⟨by decide, by decide⟩ dX9_copy_133 ?_
  refine zRx.aload_n 0 rfl rfl dX9_copy_134 ?_
  refine zRx.getR (a := 5) (b := 13) fl_9_33 rfl rfl dX9_copy_135 ?_
  refine zRx.iconst ⟨by decide, by decide⟩ dX9_copy_138 ?_
  refine zRx.bipush ⟨by decide, by decide⟩ rfl dX9_copy_139 ?_
  refine zRx.acopy rfl rfl ac_9_51 (by decide) (Nat.le_of_ble_eq_true rfl) (by decide) (by decide) (by decide) (by decide) (by decide) dX9_copy_141 ?_
  refine zRx.aload_n 1 rfl rfl dX9_copy_144 ?_
  refine zRx.getR (a := 16) (b := 25) fl_9_36 rfl rfl dX9_copy_145 ?_
  refine zRx.iconst ⟨by decide, by decide⟩ dX9_copy_148 ?_
  refine zRx.aload_n 0 rfl rfl dX9_copy_149 ?_
  refine zRx.getR (a := 5) (b := 14) fl_9_36 rfl rfl dX9_copy_150 ?_
  refine zRx.iconst ⟨by decide, by decide⟩ dX9_copy_153 ?_
  refine zRx.bipush ⟨by decide, by decide⟩ rfl dX9_copy_154 ?_
  refine zRx.acopy rfl rfl ac_9_51 (by decide) (Nat.le_of_ble_eq_true rfl) (by decide) (by decide) (by decide) (by decide) (by decide) dX9_copy_156 ?_
  refine zRx.aload_n 1 rfl rfl dX9_copy_159 ?_
  refine zRx.getR (a := 16) (b := 26) fl_9_39 rfl rfl dX9_copy_160 ?_
  refine zRx.iconst ⟨by decide, by decide⟩ dX9_copy_163 ?_
  refine zRx.aload_n 0 rfl rfl dX9_copy_164 ?_
  refine zRx.getR (a := 5) (b := 15) fl_9_39 rfl rfl dX9_copy_165 ?_
  refine zRx.iconst ⟨by decide, by decide⟩ dX9_copy_168 ?_
  refine zRx.iconst ⟨by decide, by decide⟩ dX9_copy_169 ?_
  refine zRx.acopy rfl rfl ac_9_51 (by decide) (Nat.le_of_ble_eq_true rfl) (by decide) (by decide) (by decide) (by decide) (by decide) dX9_copy_170 ?_
  exact zR.ret rfl dX9_copy_173 ⟨rfl, rfl⟩

def F_X9_copy_5_101 (σ : zG)  : zG := zcp (zcp (zcp (zcp (zcp (zcp (zcp (zcp (zcp (zcp (zu (zu (zu σ 5 0 (σ 101 0)) 5 1 (σ 101 1)) 5 2 (σ 101 2)) 102 6 0 0 8) 103 7 0 0 8) 104 8 0 0 12) 105 9 0 0 12) 106 10 0 0 12) 107 11 0 0 12) 108 12 0 0 8) 109 13 0 0 8) 110 14 0 0 96) 111 15 0 0 5
theorem fr_F_X9_copy_5_101 (σ : zG)  {k : Nat} (h : k ∉ [5, 6, 7, 8, 9, 10, 11, 12, 13, 14, 15]) : (F_X9_copy_5_101 σ ) k = σ k := by
  have ne : ∀ c ∈ [5, 6, 7, 8, 9, 10, 11, 12, 13, 14, 15], k ≠ c := fun c hc e => h (e ▸ hc)
  have nk_zcp_15 : k ∉ [15] := fun hm => h (by first | (revert hm; simp only [List.mem_cons, List.not_mem_nil, or_false]; omega) | (simp at hm))
  have nk_zcp_14 : k ∉ [14] := fun hm => h (by first | (revert hm; simp only [List.mem_cons, List.not_mem_nil, or_false]; omega) | (simp at hm))
  have nk_zcp_13 : k ∉ [13] := fun hm => h (by first | (revert hm; simp only [List.mem_cons, List.not_mem_nil, or_false]; omega) | (simp at hm))
  have nk_zcp_12 : k ∉ [12] := fun hm => h (by first | (revert hm; simp only [List.mem_cons, List.not_mem_nil, or_false]; omega) | (simp at hm))
  have nk_zcp_11 : k ∉ [11] := fun hm => h (by first | (revert hm; simp only [List.mem_cons, List.not_mem_nil, or_false]; omega) | (simp at hm))
  have nk_zcp_10 : k ∉ [10] := fun hm => h (by first | (revert hm; simp only [List.mem_cons, List.not_mem_nil, or_false]; omega) | (simp at hm))
  have nk_zcp_9 : k ∉ [9] := fun hm => h (by first | (revert hm; simp only [List.mem_cons, List.not_mem_nil, or_false]; omega) | (simp at hm))
  have nk_zcp_8 : k ∉ [8] := fun hm => h (by first | (revert hm; simp only [List.mem_cons, List.not_mem_nil, or_false]; omega) | (simp at hm))
  have nk_zcp_7 : k ∉ [7] := fun hm => h (by first | (revert hm; simp only [List.mem_cons, List.not_mem_nil, or_false]; omega) | (simp at hm))
  have nk_zcp_6 : k ∉ [6] := fun hm => h (by first | (revert hm; simp only [List.mem_cons, List.not_mem_nil, or_false]; omega) | (simp at hm))
  unfold F_X9_copy_5_101
  repeat' split
  all_goals first | rfl | simp only [zu_row _ _ _ (ne 5 (by decide)), zu_row _ _ _ (ne 6 (by decide)), zu_row _ _ _ (ne 7 (by decide)), zu_row _ _ _ (ne 8 (by decide)), zu_row _ _ _ (ne 9 (by decide)), zu_row _ _ _ (ne 10 (by decide)), zu_row _ _ _ (ne 11 (by decide)), zu_row _ _ _ (ne 12 (by decide)), zu_row _ _ _ (ne 13 (by decide)), zu_row _ _ _ (ne 14 (by decide)), zu_row _ _ _ (ne 15 (by decide)), fr_zcp (h := nk_zcp_15), fr_zcp (h := nk_zcp_14), fr_zcp (h := nk_zcp_13), fr_zcp (h := nk_zcp_12), fr_zcp (h := nk_zcp_11), fr_zcp (h := nk_zcp_10), fr_zcp (h := nk_zcp_9), fr_zcp (h := nk_zcp_8), fr_zcp (h := nk_zcp_7), fr_zcp (h := nk_zcp_6)]

set_option maxRecDepth 20000 in
theorem does_X9_copy_5_101 (σ : zG)   : zDo SC 1 m_X9_copy [zP 5, zP 101] σ (zEq (none) (F_X9_copy_5_101 σ )) := by
  refine zDo.intro mk_X9_copy (Nat.le_of_ble_eq_true rfl) ?_
  refine zRx.aload_n 0 rfl rfl dX9_copy_0 ?_
  refine zRx.aload_n 1 rfl rfl dX9_copy_1 ?_
  refine zRx.getIv (a := 101) (ji := 0) (v := σ 101 0) rfl fl_9_57 rfl rfl rfl dX9_copy_2 ?_
  refine zRx.putI (a := 5) (ji := 0) pl_9_57 rfl rfl rfl dX9_copy_5 ?_
  refine zRx.aload_n 0 rfl rfl dX9_copy_8 ?_
  refine zRx.aload_n 1 rfl rfl dX9_copy_9 ?_
  refine zRx.getIv (a := 101) (ji := 1) (v := σ 101 1) (zu_ne _ _ _ _ (by decide)) fl_9_61 rfl rfl rfl dX9_copy_10 ?_
  refine zRx.putI (a := 5) (ji := 1) pl_9_61 rfl rfl rfl dX9_copy_13 ?_
  refine zRx.aload_n 0 rfl rfl dX9_copy_16 ?_
  refine zRx.aload_n 1 rfl rfl dX9_copy_17 ?_
  refine zRx.getIv (a := 101) (ji := 2) (v := σ 101 2) ((zu_ne _ _ _ _ (by decide)).trans (zu_ne _ _ _ _ (by decide))) fl_9_64 rfl rfl rfl dX9_copy_18 ?_
  refine zRx.putI (a := 5) (ji := 2) pl_9_64 rfl rfl rfl dX9_copy_21 ?_
  refine zRx.aload_n 1 rfl rfl dX9_copy_24 ?_
  refine zRx.getR (a := 101) (b := 102) fl_9_9 rfl rfl dX9_copy_25 ?_
  refine zRx.iconst ⟨by decide, by decide⟩ dX9_copy_28 ?_
  refine zRx.aload_n 0 rfl rfl dX9_copy_29 ?_
  refine zRx.getR (a := 5) (b := 6) fl_9_9 rfl rfl dX9_copy_30 ?_
  refine zRx.iconst ⟨by decide, by decide⟩ dX9_copy_33 ?_
  refine zRx.bipush ⟨by decide, by decide⟩ rfl dX9_copy_34 ?_
  refine zRx.acopy rfl rfl ac_9_51 (by decide) (Nat.le_of_ble_eq_true rfl) (by decide) (by decide) (by decide) (by decide) (by decide) dX9_copy_36 ?_
  refine zRx.aload_n 1 rfl rfl dX9_copy_39 ?_
  refine zRx.getR (a := 101) (b := 103) fl_9_15 rfl rfl dX9_copy_40 ?_
  refine zRx.iconst ⟨by decide, by decide⟩ dX9_copy_43 ?_
  refine zRx.aload_n 0 rfl rfl dX9_copy_44 ?_
  refine zRx.getR (a := 5) (b := 7) fl_9_15 rfl rfl dX9_copy_45 ?_
  refine zRx.iconst ⟨by decide, by decide⟩ dX9_copy_48 ?_
  refine zRx.bipush ⟨by decide, by decide⟩ rfl dX9_copy_49 ?_
  refine zRx.acopy rfl rfl ac_9_51 (by decide) (Nat.le_of_ble_eq_true rfl) (by decide) (by decide) (by decide) (by decide) (by decide) dX9_copy_51 ?_
  refine zRx.aload_n 1 rfl rfl dX9_copy_54 ?_
  refine zRx.getR (a := 101) (b := 104) fl_9_18 rfl rfl dX9_copy_55 ?_
  refine zRx.iconst ⟨by decide, by decide⟩ dX9_copy_58 ?_
  refine zRx.aload_n 0 rfl rfl dX9_copy_59 ?_
  refine zRx.getR (a := 5) (b := 8) fl_9_18 rfl rfl dX9_copy_60 ?_
  refine zRx.iconst ⟨by decide, by decide⟩ dX9_copy_63 ?_
  refine zRx.bipush ⟨by decide, by decide⟩ rfl dX9_copy_64 ?_
  refine zRx.acopy rfl rfl ac_9_51 (by decide) (Nat.le_of_ble_eq_true rfl) (by decide) (by decide) (by decide) (by decide) (by decide) dX9_copy_66 ?_
  refine zRx.aload_n 1 rfl rfl dX9_copy_69 ?_
  refine zRx.getR (a := 101) (b := 105) fl_9_21 rfl rfl dX9_copy_70 ?_
  refine zRx.iconst ⟨by decide, by decide⟩ dX9_copy_73 ?_
  refine zRx.aload_n 0 rfl rfl dX9_copy_74 ?_
  refine zRx.getR (a := 5) (b := 9) fl_9_21 rfl rfl dX9_copy_75 ?_
  refine zRx.iconst ⟨by decide, by decide⟩ dX9_copy_78 ?_
  refine zRx.bipush ⟨by decide, by decide⟩ rfl dX9_copy_79 ?_
  refine zRx.acopy rfl rfl ac_9_51 (by decide) (Nat.le_of_ble_eq_true rfl) (by decide) (by decide) (by decide) (by decide) (by decide) dX9_copy_81 ?_
  refine zRx.aload_n 1 rfl rfl dX9_copy_84 ?_
  refine zRx.getR (a := 101) (b := 106) fl_9_24 rfl rfl dX9_copy_85 ?_
  refine zRx.iconst ⟨by decide, by decide⟩ dX9_copy_88 ?_
  refine zRx.aload_n 0 rfl rfl dX9_copy_89 ?_
  refine zRx.getR (a := 5) (b := 10) fl_9_24 rfl rfl dX9_copy_90 ?_
  refine zRx.iconst ⟨by decide, by decide⟩ dX9_copy_93 ?_
  refine zRx.bipush ⟨by decide, by decide⟩ rfl dX9_copy_94 ?_
  refine zRx.acopy rfl rfl ac_9_51 (by decide) (Nat.le_of_ble_eq_true rfl) (by decide) (by decide) (by decide) (by decide) (by decide) dX9_copy_96 ?_
  refine zRx.aload_n 1 rfl rfl dX9_copy_99 ?_
  refine zRx.getR (a := 101) (b := 107) fl_9_27 rfl rfl dX9_copy_100 ?_
  refine zRx.iconst ⟨by decide, by decide⟩ dX9_copy_103 ?_
  refine zRx.aload_n 0 rfl rfl dX9_copy_104 ?_
  refine zRx.getR (a := 5) (b := 11) fl_9_27 rfl rfl dX9_copy_105 ?_
  refine zRx.iconst ⟨by decide, by decide⟩ dX9_copy_108 ?_
  refine zRx.bipush ⟨by decide, by decide⟩ rfl dX9_copy_109 ?_
  refine zRx.acopy rfl rfl ac_9_51 (by decide) (Nat.le_of_ble_eq_true rfl) (by decide) (by decide) (by decide) (by decide) (by decide) dX9_copy_111 ?_
  refine zRx.aload_n 1 rfl rfl dX9_copy_114 ?_
  refine zRx.getR (a := 101) (b := 108) fl_9_30 rfl rfl dX9_copy_115 ?_
  refine zRx.iconst ⟨by decide, by decide⟩ dX9_copy_118 ?_
  refine zRx.aload_n 0 rfl rfl dX9_copy_119 ?_
  refine zRx.getR (a := 5) (b := 12) fl_9_30 rfl rfl dX9_copy_120 ?_
  refine zRx.iconst ⟨by decide, by decide⟩ dX9_copy_123 ?_
  refine zRx.bipush ⟨by decide, by decide⟩ rfl dX9_copy_124 ?_
  refine zRx.acopy rfl rfl ac_9_51 (by decide) (Nat.le_of_ble_eq_true rfl) (by decide) (by decide) (by decide) (by decide) (by decide) dX9_copy_126 ?_
  refine zRx.aload_n 1 rfl rfl dX9_copy_129 ?_
  refine zRx.getR (a := 101) (b := 109) fl_9_33 rfl rfl dX9_copy_130 ?_
  refine zRx.iconst ⟨by decide, by decide⟩ dX9_copy_133 ?_
  refine zRx.aload_n 0 rfl rfl dX9_copy_134 ?_
  refine zRx.getR (a := 5) (b := 13) fl_9_33 rfl rfl dX9_copy_135 ?_
  refine zRx.iconst ⟨by decide, by decide⟩ dX9_copy_138 ?_
  refine zRx.bipush ⟨by decide, by decide⟩ rfl dX9_copy_139 ?_
  refine zRx.acopy rfl rfl ac_9_51 (by decide) (Nat.le_of_ble_eq_true rfl) (by decide) (by decide) (by decide) (by decide) (by decide) dX9_copy_141 ?_
  refine zRx.aload_n 1 rfl rfl dX9_copy_144 ?_
  refine zRx.getR (a := 101) (b := 110) fl_9_36 rfl rfl dX9_copy_145 ?_
  refine zRx.iconst ⟨by decide, by decide⟩ dX9_copy_148 ?_
  refine zRx.aload_n 0 rfl rfl dX9_copy_149 ?_
  refine zRx.getR (a := 5) (b := 14) fl_9_36 rfl rfl dX9_copy_150 ?_
  refine zRx.iconst ⟨by decide, by decide⟩ dX9_copy_153 ?_
  refine zRx.bipush ⟨by decide, by decide⟩ rfl dX9_copy_154 ?_
  refine zRx.acopy rfl rfl ac_9_51 (by decide) (Nat.le_of_ble_eq_true rfl) (by decide) (by decide) (by decide) (by decide) (by decide) dX9_copy_156 ?_
  refine zRx.aload_n 1 rfl rfl dX9_copy_159 ?_
  refine zRx.getR (a := 101) (b := 111) fl_9_39 rfl rfl dX9_copy_160 ?_
  refine zRx.iconst ⟨by decide, by decide⟩ dX9_copy_163 ?_
  refine zRx.aload_n 0 rfl rfl dX9_copy_164 ?_
  refine zRx.getR (a := 5) (b := 15) fl_9_39 rfl rfl dX9_copy_165 ?_
  refine zRx.iconst ⟨by decide, by decide⟩ dX9_copy_168 ?_
  refine zRx.iconst ⟨by decide, by decide⟩ dX9_copy_169 ?_
  refine zRx.acopy rfl rfl ac_9_51 (by decide) (Nat.le_of_ble_eq_true rfl) (by decide) (by decide) (by decide) (by decide) (by decide) dX9_copy_170 ?_
  exact zR.ret rfl dX9_copy_173 ⟨rfl, rfl⟩

def F_X9_copy_5_126 (σ : zG)  : zG := zcp (zcp (zcp (zcp (zcp (zcp (zcp (zcp (zcp (zcp (zu (zu (zu σ 5 0 (σ 126 0)) 5 1 (σ 126 1)) 5 2 (σ 126 2)) 127 6 0 0 8) 128 7 0 0 8) 129 8 0 0 12) 130 9 0 0 12) 131 10 0 0 12) 132 11 0 0 12) 133 12 0 0 8) 134 13 0 0 8) 135 14 0 0 96) 136 15 0 0 5
theorem fr_F_X9_copy_5_126 (σ : zG)  {k : Nat} (h : k ∉ [5, 6, 7, 8, 9, 10, 11, 12, 13, 14, 15]) : (F_X9_copy_5_126 σ ) k = σ k := by
  have ne : ∀ c ∈ [5, 6, 7, 8, 9, 10, 11, 12, 13, 14, 15], k ≠ c := fun c hc e => h (e ▸ hc)
  have nk_zcp_15 : k ∉ [15] := fun hm => h (by first | (revert hm; simp only [List.mem_cons, List.not_mem_nil, or_false]; omega) | (simp at hm))
  have nk_zcp_14 : k ∉ [14] := fun hm => h (by first | (revert hm; simp only [List.mem_cons, List.not_mem_nil, or_false]; omega) | (simp at hm))
  have nk_zcp_13 : k ∉ [13] := fun hm => h (by first | (revert hm; simp only [List.mem_cons, List.not_mem_nil, or_false]; omega) | (simp at hm))
  have nk_zcp_12 : k ∉ [12] := fun hm => h (by first | (revert hm; simp only [List.mem_cons, List.not_mem_nil, or_false]; omega) | (simp at hm))
  have nk_zcp_11 : k ∉ [11] := fun hm => h (by first | (revert hm; simp only [List.mem_cons, List.not_mem_nil, or_false]; omega) | (simp at hm))
  have nk_zcp_10 : k ∉ [10] := fun hm => h (by first | (revert hm; simp only [List.mem_cons, List.not_mem_nil, or_false]; omega) | (simp at hm))
  have nk_zcp_9 : k ∉ [9] := fun hm => h (by first | (revert hm; simp only [List.mem_cons, List.not_mem_nil, or_false]; omega) | (simp at hm))
  have nk_zcp_8 : k ∉ [8] := fun hm => h (by first | (revert hm; simp only [List.mem_cons, List.not_mem_nil, or_false]; omega) | (simp at hm))
  have nk_zcp_7 : k ∉ [7] := fun hm => h (by first | (revert hm; simp only [List.mem_cons, List.not_mem_nil, or_false]; omega) | (simp at hm))
  have nk_zcp_6 : k ∉ [6] := fun hm => h (by first | (revert hm; simp only [List.mem_cons, List.not_mem_nil, or_false]; omega) | (simp at hm))
  unfold F_X9_copy_5_126
  repeat' split
  all_goals first | rfl | simp only [zu_row _ _ _ (ne 5 (by decide)), zu_row _ _ _ (ne 6 (by decide)), zu_row _ _ _ (ne 7 (by decide)), zu_row _ _ _ (ne 8 (by decide)), zu_row _ _ _ (ne 9 (by decide)), zu_row _ _ _ (ne 10 (by decide)), zu_row _ _ _ (ne 11 (by decide)), zu_row _ _ _ (ne 12 (by decide)), zu_row _ _ _ (ne 13 (by decide)), zu_row _ _ _ (ne 14 (by decide)), zu_row _ _ _ (ne 15 (by decide)), fr_zcp (h := nk_zcp_15), fr_zcp (h := nk_zcp_14), fr_zcp (h := nk_zcp_13), fr_zcp (h := nk_zcp_12), fr_zcp (h := nk_zcp_11), fr_zcp (h := nk_zcp_10), fr_zcp (h := nk_zcp_9), fr_zcp (h := nk_zcp_8), fr_zcp (h := nk_zcp_7), fr_zcp (h := nk_zcp_6)]

set_option maxRecDepth 20000 in
theorem does_X9_copy_5_126 (σ : zG)   : zDo SC 1 m_X9_copy [zP 5, zP 126] σ (zEq (none) (F_X9_copy_5_126 σ )) := by
  refine zDo.intro mk_X9_copy (Nat.le_of_ble_eq_true rfl) ?_
  refine zRx.aload_n 0 rfl rfl dX9_copy_0 ?_
  refine zRx.aload_n 1 rfl rfl dX9_copy_1 ?_
  refine zRx.getIv (a := 126) (ji := 0) (v := σ 126 0) rfl fl_9_57 rfl rfl rfl dX9_copy_2 ?_
  refine zRx.putI (a := 5) (ji := 0) pl_9_57 rfl rfl rfl dX9_copy_5 ?_
  refine zRx.aload_n 0 rfl rfl dX9_copy_8 ?_
  refine zRx.aload_n 1 rfl rfl dX9_copy_9 ?_
  refine zRx.getIv (a := 126) (ji := 1) (v := σ 126 1) (zu_ne _ _ _ _ (by decide)) fl_9_61 rfl rfl rfl dX9_copy_10 ?_
  refine zRx.putI (a := 5) (ji := 1) pl_9_61 rfl rfl rfl dX9_copy_13 ?_
  refine zRx.aload_n 0 rfl rfl dX9_copy_16 ?_
  refine zRx.aload_n 1 rfl rfl dX9_copy_17 ?_
  refine zRx.getIv (a := 126) (ji := 2) (v := σ 126 2) ((zu_ne _ _ _ _ (by decide)).trans (zu_ne _ _ _ _ (by decide))) fl_9_64 rfl rfl rfl dX9_copy_18 ?_
  refine zRx.putI (a := 5) (ji := 2) pl_9_64 rfl rfl rfl dX9_copy_21 ?_
  refine zRx.aload_n 1 rfl rfl dX9_copy_24 ?_
  refine zRx.getR (a := 126) (b := 127) fl_9_9 rfl rfl dX9_copy_25 ?_
  refine zRx.iconst ⟨by decide, by decide⟩ dX9_copy_28 ?_
  refine zRx.aload_n 0 rfl rfl dX9_copy_29 ?_
  refine zRx.getR (a := 5) (b := 6) fl_9_9 rfl rfl dX9_copy_30 ?_
  refine zRx.iconst ⟨by decide, by decide⟩ dX9_copy_33 ?_
  refine zRx.bipush ⟨by decide, by decide⟩ rfl dX9_copy_34 ?_
  refine zRx.acopy rfl rfl ac_9_51 (by decide) (Nat.le_of_ble_eq_true rfl) (by decide) (by decide) (by decide) (by decide) (by decide) dX9_copy_36 ?_
  refine zRx.aload_n 1 rfl rfl dX9_copy_39 ?_
  refine zRx.getR (a := 126) (b := 128) fl_9_15 rfl rfl dX9_copy_40 ?_
  refine zRx.iconst ⟨by decide, by decide⟩ dX9_copy_43 ?_
  refine zRx.aload_n 0 rfl rfl dX9_copy_44 ?_
  refine zRx.getR (a := 5) (b := 7) fl_9_15 rfl rfl dX9_copy_45 ?_
  refine zRx.iconst ⟨by decide, by decide⟩ dX9_copy_48 ?_
  refine zRx.bipush ⟨by decide, by decide⟩ rfl dX9_copy_49 ?_
  refine zRx.acopy rfl rfl ac_9_51 (by decide) (Nat.le_of_ble_eq_true rfl) (by decide) (by decide) (by decide) (by decide) (by decide) dX9_copy_51 ?_
  refine zRx.aload_n 1 rfl rfl dX9_copy_54 ?_
  refine zRx.getR (a := 126) (b := 129) fl_9_18 rfl rfl dX9_copy_55 ?_
  refine zRx.iconst ⟨by decide, by decide⟩ dX9_copy_58 ?_
  refine zRx.aload_n 0 rfl rfl dX9_copy_59 ?_
  refine zRx.getR (a := 5) (b := 8) fl_9_18 rfl rfl dX9_copy_60 ?_
  refine zRx.iconst ⟨by decide, by decide⟩ dX9_copy_63 ?_
  refine zRx.bipush ⟨by decide, by decide⟩ rfl dX9_copy_64 ?_
  refine zRx.acopy rfl rfl ac_9_51 (by decide) (Nat.le_of_ble_eq_true rfl) (by decide) (by decide) (by decide) (by decide) (by decide) dX9_copy_66 ?_
  refine zRx.aload_n 1 rfl rfl dX9_copy_69 ?_
  refine zRx.getR (a := 126) (b := 130) fl_9_21 rfl rfl dX9_copy_70 ?_
  refine zRx.iconst ⟨by decide, by decide⟩ dX9_copy_73 ?_
  refine zRx.aload_n 0 rfl rfl dX9_copy_74 ?_
  refine zRx.getR (a := 5) (b := 9) fl_9_21 rfl rfl dX9_copy_75 ?_
  refine zRx.iconst ⟨by decide, by decide⟩ dX9_copy_78 ?_
  refine zRx.bipush ⟨by decide, by decide⟩ rfl dX9_copy_79 ?_
  refine zRx.acopy rfl rfl ac_9_51 (by decide) (Nat.le_of_ble_eq_true rfl) (by decide) (by decide) (by decide) (by decide) (by decide) dX9_copy_81 ?_
  refine zRx.aload_n 1 rfl rfl dX9_copy_84 ?_
  refine zRx.getR (a := 126) (b := 131) fl_9_24 rfl rfl dX9_copy_85 ?_
  refine zRx.iconst ⟨by decide, by decide⟩ dX9_copy_88 ?_
  refine zRx.aload_n 0 rfl rfl dX9_copy_89 ?_
  refine zRx.getR (a := 5) (b := 10) fl_9_24 rfl rfl dX9_copy_90 ?_
  refine zRx.iconst ⟨by decide, by decide⟩ dX9_copy_93 ?_
  refine zRx.bipush ⟨by decide, by decide⟩ rfl dX9_copy_94 ?_
  refine zRx.acopy rfl rfl ac_9_51 (by decide) (Nat.le_of_ble_eq_true rfl) (by decide) (by decide) (by decide) (by decide) (by decide) dX9_copy_96 ?_
  refine zRx.aload_n 1 rfl rfl dX9_copy_99 ?_
  refine zRx.getR (a := 126) (b := 132) fl_9_27 rfl rfl dX9_copy_100 ?_
  refine zRx.iconst ⟨by decide, by decide⟩ dX9_copy_103 ?_
  refine zRx.aload_n 0 rfl rfl dX9_copy_104 ?_
  refine zRx.getR (a := 5) (b := 11) fl_9_27 rfl rfl dX9_copy_105 ?_
  refine zRx.iconst ⟨by decide, by decide⟩ dX9_copy_108 ?_
  refine zRx.bipush ⟨by decide, by decide⟩ rfl dX9_copy_109 ?_
  refine zRx.acopy rfl rfl ac_9_51 (by decide) (Nat.le_of_ble_eq_true rfl) (by decide) (by decide) (by decide) (by decide) (by decide) dX9_copy_111 ?_
  refine zRx.aload_n 1 rfl rfl dX9_copy_114 ?_
  refine zRx.getR (a := 126) (b := 133) fl_9_30 rfl rfl dX9_copy_115 ?_
  refine zRx.iconst ⟨by decide, by decide⟩ dX9_copy_118 ?_
  refine zRx.aload_n 0 rfl rfl dX9_copy_119 ?_
  refine zRx.getR (a := 5) (b := 12) fl_9_30 rfl rfl dX9_copy_120 ?_
  refine zRx.iconst ⟨by decide, by decide⟩ dX9_copy_123 ?_
  refine zRx.bipush ⟨by decide, by decide⟩ rfl dX9_copy_124 ?_
  refine zRx.acopy rfl rfl ac_9_51 (by decide) (Nat.le_of_ble_eq_true rfl) (by decide) (by decide) (by decide) (by decide) (by decide) dX9_copy_126 ?_
  refine zRx.aload_n 1 rfl rfl dX9_copy_129 ?_
  refine zRx.getR (a := 126) (b := 134) fl_9_33 rfl rfl dX9_copy_130 ?_
  refine zRx.iconst ⟨by decide, by decide⟩ dX9_copy_133 ?_
  refine zRx.aload_n 0 rfl rfl dX9_copy_134 ?_
  refine zRx.getR (a := 5) (b := 13) fl_9_33 rfl rfl dX9_copy_135 ?_
  refine zRx.iconst ⟨by decide, by decide⟩ dX9_copy_138 ?_
  refine zRx.bipush ⟨by decide, by decide⟩ rfl dX9_copy_139 ?_
  refine zRx.acopy rfl rfl ac_9_51 (by decide) (Nat.le_of_ble_eq_true rfl) (by decide) (by decide) (by decide) (by decide) (by decide) dX9_copy_141 ?_
  refine zRx.aload_n 1 rfl rfl dX9_copy_144 ?_
  refine zRx.getR (a := 126) (b := 135) fl_9_36 rfl rfl dX9_copy_145 ?_
  refine zRx.iconst ⟨by decide, by decide⟩ dX9_copy_148 ?_
  refine zRx.aload_n 0 rfl rfl dX9_copy_149 ?_
  refine zRx.getR (a := 5) (b := 14) fl_9_36 rfl rfl dX9_copy_150 ?_
  refine zRx.iconst ⟨by decide, by decide⟩ dX9_copy_153 ?_
  refine zRx.bipush ⟨by decide, by decide⟩ rfl dX9_copy_154 ?_
  refine zRx.acopy rfl rfl ac_9_51 (by decide) (Nat.le_of_ble_eq_true rfl) (by decide) (by decide) (by decide) (by decide) (by decide) dX9_copy_156 ?_
  refine zRx.aload_n 1 rfl rfl dX9_copy_159 ?_
  refine zRx.getR (a := 126) (b := 136) fl_9_39 rfl rfl dX9_copy_160 ?_
  refine zRx.iconst ⟨by decide, by decide⟩ dX9_copy_163 ?_
  refine zRx.aload_n 0 rfl rfl dX9_copy_164 ?_
  refine zRx.getR (a := 5) (b := 15) fl_9_39 rfl rfl dX9_copy_165 ?_
  refine zRx.iconst ⟨by decide, by decide⟩ dX9_copy_168 ?_
  refine zRx.iconst ⟨by decide, by decide⟩ dX9_copy_169 ?_
  refine zRx.acopy rfl rfl ac_9_51 (by decide) (Nat.le_of_ble_eq_true rfl) (by decide) (by decide) (by decide) (by decide) (by decide) dX9_copy_170 ?_
  exact zR.ret rfl dX9_copy_173 ⟨rfl, rfl⟩

def F_X9_copy_101_5 (σ : zG)  : zG := zcp (zcp (zcp (zcp (zcp (zcp (zcp (zcp (zcp (zcp (zu (zu (zu σ 101 0 (σ 5 0)) 101 1 (σ 5 1)) 101 2 (σ 5 2)) 6 102 0 0 8) 7 103 0 0 8) 8 104 0 0 12) 9 105 0 0 12) 10 106 0 0 12) 11 107 0 0 12) 12 108 0 0 8) 13 109 0 0 8) 14 110 0 0 96) 15 111 0 0 5
theorem fr_F_X9_copy_101_5 (σ : zG)  {k : Nat} (h : k ∉ [101, 102, 103, 104, 105, 106, 107, 108, 109, 110, 111]) : (F_X9_copy_101_5 σ ) k = σ k := by
  have ne : ∀ c ∈ [101, 102, 103, 104, 105, 106, 107, 108, 109, 110, 111], k ≠ c := fun c hc e => h (e ▸ hc)
  have nk_zcp_111 : k ∉ [111] := fun hm => h (by first | (revert hm; simp only [List.mem_cons, List.not_mem_nil, or_false]; omega) | (simp at hm))
  have nk_zcp_110 : k ∉ [110] := fun hm => h (by first | (revert hm; simp only [List.mem_cons, List.not_mem_nil, or_false]; omega) | (simp at hm))
  have nk_zcp_109 : k ∉ [109] := fun hm => h (by first | (revert hm; simp only [List.mem_cons, List.not_mem_nil, or_false]; omega) | (simp at hm))
  have nk_zcp_108 : k ∉ [108] := fun hm => h (by first | (revert hm; simp only [List.mem_cons, List.not_mem_nil, or_false]; omega) | (simp at hm))
  have nk_zcp_107 : k ∉ [107] := fun hm => h (by first | (revert hm; simp only [List.mem_cons, List.not_mem_nil, or_false]; omega) | (simp at hm))
  have nk_zcp_106 : k ∉ [106] := fun hm => h (by first | (revert hm; simp only [List.mem_cons, List.not_mem_nil, or_false]; omega) | (simp at hm))
  have nk_zcp_105 : k ∉ [105] := fun hm => h (by first | (revert hm; simp only [List.mem_cons, List.not_mem_nil, or_false]; omega) | (simp at hm))
  have nk_zcp_104 : k ∉ [104] := fun hm => h (by first | (revert hm; simp only [List.mem_cons, List.not_mem_nil, or_false]; omega) | (simp at hm))
  have nk_zcp_103 : k ∉ [103] := fun hm => h (by first | (revert hm; simp only [List.mem_cons, List.not_mem_nil, or_false]; omega) | (simp at hm))
  have nk_zcp_102 : k ∉ [102] := fun hm => h (by first | (revert hm; simp only [List.mem_cons, List.not_mem_nil, or_false]; omega) | (simp at hm))
  unfold F_X9_copy_101_5
  repeat' split
  all_goals first | rfl | simp only [zu_row _ _ _ (ne 101 (by decide)), zu_row _ _ _ (ne 102 (by decide)), zu_row _ _ _ (ne 103 (by decide)), zu_row _ _ _ (ne 104 (by decide)), zu_row _ _ _ (ne 105 (by decide)), zu_row _ _ _ (ne 106 (by decide)), zu_row _ _ _ (ne 107 (by decide)), zu_row _ _ _ (ne 108 (by decide)), zu_row _ _ _ (ne 109 (by decide)), zu_row _ _ _ (ne 110 (by decide)), zu_row _ _ _ (ne 111 (by decide)), fr_zcp (h := nk_zcp_111), fr_zcp (h := nk_zcp_110), fr_zcp (h := nk_zcp_109), fr_zcp (h := nk_zcp_108), fr_zcp (h := nk_zcp_107), fr_zcp (h := nk_zcp_106), fr_zcp (h := nk_zcp_105), fr_zcp (h := nk_zcp_104), fr_zcp (h := nk_zcp_103), fr_zcp (h := nk_zcp_102)]

set_option maxRecDepth 20000 in
theorem does_X9_copy_101_5 (σ : zG)   : zDo SC 1 m_X9_copy [zP 101, zP 5] σ (zEq (none) (F_X9_copy_101_5 σ )) := by
  refine zDo.intro mk_X9_copy (Nat.le_of_ble_eq_true rfl) ?_
  refine zRx.aload_n 0 rfl rfl dX9_copy_0 ?_
  refine zRx.aload_n 1 rfl rfl dX9_copy_1 ?_
  refine zRx.getIv (a := 5) (ji := 0) (v := σ 5 0) rfl fl_9_57 rfl rfl rfl dX9_copy_2 ?_
  refine zRx.putI (a := 101) (ji := 0) pl_9_57 rfl rfl rfl dX9_copy_5 ?_
  refine zRx.aload_n 0 rfl rfl dX9_copy_8 ?_
  refine zRx.aload_n 1 rfl rfl dX9_copy_9 ?_
  refine zRx.getIv (a := 5) (ji := 1) (v := σ 5 1) (zu_ne _ _ _ _ (by decide)) fl_9_61 rfl rfl rfl dX9_copy_10 ?_
  refine zRx.putI (a := 101) (ji := 1) pl_9_61 rfl rfl rfl dX9_copy_13 ?_
  refine zRx.aload_n 0 rfl rfl dX9_copy_16 ?_
  refine zRx.aload_n 1 rfl rfl dX9_copy_17 ?_
  refine zRx.getIv (a := 5) (ji := 2) (v := σ 5 2) ((zu_ne _ _ _ _ (by decide)).trans (zu_ne _ _ _ _ (by decide))) fl_9_64 rfl rfl rfl dX9_copy_18 ?_
  refine zRx.putI (a := 101) (ji := 2) pl_9_64 rfl rfl rfl dX9_copy_21 ?_
  refine zRx.aload_n 1 rfl rfl dX9_copy_24 ?_
  refine zRx.getR (a := 5) (b := 6) fl_9_9 rfl rfl dX9_copy_25 ?_
  refine zRx.iconst ⟨by decide, by decide⟩ dX9_copy_28 ?_
  refine zRx.aload_n 0 rfl rfl dX9_copy_29 ?_
  refine zRx.getR (a := 101) (b := 102) fl_9_9 rfl rfl dX9_copy_30 ?_
  refine zRx.iconst ⟨by decide, by decide⟩ dX9_copy_33 ?_
  refine zRx.bipush ⟨by decide, by decide⟩ rfl dX9_copy_34 ?_
  refine zRx.acopy rfl rfl ac_9_51 (by decide) (Nat.le_of_ble_eq_true rfl) (by decide) (by decide) (by decide) (by decide) (by decide) dX9_copy_36 ?_
  refine zRx.aload_n 1 rfl rfl dX9_copy_39 ?_
  refine zRx.getR (a := 5) (b := 7) fl_9_15 rfl rfl dX9_copy_40 ?_
  refine zRx.iconst ⟨by decide, by decide⟩ dX9_copy_43 ?_
  refine zRx.aload_n 0 rfl rfl dX9_copy_44 ?_
  refine zRx.getR (a := 101) (b := 103) fl_9_15 rfl rfl dX9_copy_45 ?_
  refine zRx.iconst ⟨by decide, by decide⟩ dX9_copy_48 ?_
  refine zRx.bipush ⟨by decide, by decide⟩ rfl dX9_copy_49 ?_
  refine zRx.acopy rfl rfl ac_9_51 (by decide) (Nat.le_of_ble_eq_true rfl) (by decide) (by decide) (by decide) (by decide) (by decide) dX9_copy_51 ?_
  refine zRx.aload_n 1 rfl rfl dX9_copy_54 ?_
  refine zRx.getR (a := 5) (b := 8) fl_9_18 rfl rfl dX9_copy_55 ?_
  refine zRx.iconst ⟨by decide, by decide⟩ dX9_copy_58 ?_
  refine zRx.aload_n 0 rfl rfl dX9_copy_59 ?_
  refine zRx.getR (a := 101) (b := 104) fl_9_18 rfl rfl dX9_copy_60 ?_
  refine zRx.iconst ⟨by decide, by decide⟩ dX9_copy_63 ?_
  refine zRx.bipush ⟨by decide, by decide⟩ rfl dX9_copy_64 ?_
  refine zRx.acopy rfl rfl ac_9_51 (by decide) (Nat.le_of_ble_eq_true rfl) (by decide) (by decide) (by decide) (by decide) (by decide) dX9_copy_66 ?_
  refine zRx.aload_n 1 rfl rfl dX9_copy_69 ?_
  refine zRx.getR (a := 5) (b := 9) fl_9_21 rfl rfl dX9_copy_70 ?_
  refine zRx.iconst ⟨by decide, by decide⟩ dX9_copy_73 ?_
  refine zRx.aload_n 0 rfl rfl dX9_copy_74 ?_
  refine zRx.getR (a := 101) (b := 105) fl_9_21 rfl rfl dX9_copy_75 ?_
  refine zRx.iconst ⟨by decide, by decide⟩ dX9_copy_78 ?_
  refine zRx.bipush ⟨by decide, by decide⟩ rfl dX9_copy_79 ?_
  refine zRx.acopy rfl rfl ac_9_51 (by decide) (Nat.le_of_ble_eq_true rfl) (by decide) (by decide) (by decide) (by decide) (by decide) dX9_copy_81 ?_
  refine zRx.aload_n 1 rfl rfl dX9_copy_84 ?_
  refine zRx.getR (a := 5) (b := 10) fl_9_24 rfl rfl dX9_copy_85 ?_
  refine zRx.iconst ⟨by decide, by decide⟩ dX9_copy_88 ?_
  refine zRx.aload_n 0 rfl rfl dX9_copy_89 ?_
  refine zRx.getR (a := 101) (b := 106) fl_9_24 rfl rfl dX9_copy_90 ?_
  refine zRx.iconst ⟨by decide, by decide⟩ dX9_copy_93 ?_
  refine zRx.bipush ⟨by decide, by decide⟩ rfl dX9_copy_94 ?_
  refine zRx.acopy rfl rfl ac_9_51 (by decide) (Nat.le_of_ble_eq_true rfl) (by decide) (by decide) (by decide) (by decide) (by decide) dX9_copy_96 ?_
  refine zRx.aload_n 1 rfl rfl dX9_copy_99 ?_
  refine zRx.getR (a := 5) (b := 11) fl_9_27 rfl rfl dX9_copy_100 ?_
  refine zRx.iconst ⟨by decide, by decide⟩ dX9_copy_103 ?_
  refine zRx.aload_n 0 rfl rfl dX9_copy_104 ?_
  refine zRx.getR (a := 101) (b := 107) fl_9_27 rfl rfl dX9_copy_105 ?_
  refine zRx.iconst ⟨by decide, by decide⟩ dX9_copy_108 ?_
  refine zRx.bipush ⟨by decide, by decide⟩ rfl dX9_copy_109 ?_
  refine zRx.acopy rfl rfl ac_9_51 (by decide) (Nat.le_of_ble_eq_true rfl) (by decide) (by decide) (by decide) (by decide) (by decide) dX9_copy_111 ?_
  refine zRx.aload_n 1 rfl rfl dX9_copy_114 ?_
  refine zRx.getR (a := 5) (b := 12) fl_9_30 rfl rfl dX9_copy_115 ?_
  refine zRx.iconst ⟨by decide, by decide⟩ dX9_copy_118 ?_
  refine zRx.aload_n 0 rfl rfl dX9_copy_119 ?_
  refine zRx.getR (a := 101) (b := 108) fl_9_30 rfl rfl dX9_copy_120 ?_
  refine zRx.iconst ⟨by decide, by decide⟩ dX9_copy_123 ?_
  refine zRx.bipush ⟨by decide, by decide⟩ rfl dX9_copy_124 ?_
  refine zRx.acopy rfl rfl ac_9_51 (by decide) (Nat.le_of_ble_eq_true rfl) (by decide) (by decide) (by decide) (by decide) (by decide) dX9_copy_126 ?_
  refine zRx.aload_n 1 rfl rfl dX9_copy_129 ?_
  refine zRx.getR (a := 5) (b := 13) fl_9_33 rfl rfl dX9_copy_130 ?_
  refine zRx.iconst ⟨by decide, by decide⟩ dX9_copy_133 ?_
  refine zRx.aload_n 0 rfl rfl dX9_copy_134 ?_
  refine zRx.getR (a := 101) (b := 109) fl_9_33 rfl rfl dX9_copy_135 ?_
  refine zRx.iconst ⟨by decide, by decide⟩ dX9_copy_138 ?_
  refine zRx.bipush ⟨by decide, by decide⟩ rfl dX9_copy_139 ?_
  refine zRx.acopy rfl rfl ac_9_51 (by decide) (Nat.le_of_ble_eq_true rfl) (by decide) (by decide) (by decide) (by decide) (by decide) dX9_copy_141 ?_
  refine zRx.aload_n 1 rfl rfl dX9_copy_144 ?_
  refine zRx.getR (a := 5) (b := 14) fl_9_36 rfl rfl dX9_copy_145 ?_
  refine zRx.iconst ⟨by decide, by decide⟩ dX9_copy_148 ?_
  refine zRx.aload_n 0 rfl rfl dX9_copy_149 ?_
  refine zRx.getR (a := 101) (b := 110) fl_9_36 rfl rfl dX9_copy_150 ?_
  refine zRx.iconst ⟨by decide, by decide⟩ dX9_copy_153 ?_
  refine zRx.bipush ⟨by decide, by decide⟩ rfl dX9_copy_154 ?_
  refine zRx.acopy rfl rfl ac_9_51 (by decide) (Nat.le_of_ble_eq_true rfl) (by decide) (by decide) (by decide) (by decide) (by decide) dX9_copy_156 ?_
  refine zRx.aload_n 1 rfl rfl dX9_copy_159 ?_
  refine zRx.getR (a := 5) (b := 15) fl_9_39 rfl rfl dX9_copy_160 ?_
  refine zRx.iconst ⟨by decide, by decide⟩ dX9_copy_163 ?_
  refine zRx.aload_n 0 rfl rfl dX9_copy_164 ?_
  refine zRx.getR (a := 101) (b := 111) fl_9_39 rfl rfl dX9_copy_165 ?_
  refine zRx.iconst ⟨by decide, by decide⟩ dX9_copy_168 ?_
  refine zRx.iconst ⟨by decide, by decide⟩ dX9_copy_169 ?_
  refine zRx.acopy rfl rfl ac_9_51 (by decide) (Nat.le_of_ble_eq_true rfl) (by decide) (by decide) (by decide) (by decide) (by decide) dX9_copy_170 ?_
  exact zR.ret rfl dX9_copy_173 ⟨rfl, rfl⟩

def F_X9_copy_126_5 (σ : zG)  : zG := zcp (zcp (zcp (zcp (zcp (zcp (zcp (zcp (zcp (zcp (zu (zu (zu σ 126 0 (σ 5 0)) 126 1 (σ 5 1)) 126 2 (σ 5 2)) 6 127 0 0 8) 7 128 0 0 8) 8 129 0 0 12) 9 130 0 0 12) 10 131 0 0 12) 11 132 0 0 12) 12 133 0 0 8) 13 134 0 0 8) 14 135 0 0 96) 15 136 0 0 5
theorem fr_F_X9_copy_126_5 (σ : zG)  {k : Nat} (h : k ∉ [126, 127, 128, 129, 130, 131, 132, 133, 134, 135, 136]) : (F_X9_copy_126_5 σ ) k = σ k := by
  have ne : ∀ c ∈ [126, 127, 128, 129, 130, 131, 132, 133, 134, 135, 136], k ≠ c := fun c hc e => h (e ▸ hc)
  have nk_zcp_136 : k ∉ [136] := fun hm => h (by first | (revert hm; simp only [List.mem_cons, List.not_mem_nil, or_false]; omega) | (simp at hm))
  have nk_zcp_135 : k ∉ [135] := fun hm => h (by first | (revert hm; simp only [List.mem_cons, List.not_mem_nil, or_false]; omega) | (simp at hm))
  have nk_zcp_134 : k ∉ [134] := fun hm => h (by first | (revert hm; simp only [List.mem_cons, List.not_mem_nil, or_false]; omega) | (simp at hm))
  have nk_zcp_133 : k ∉ [133] := fun hm => h (by first | (revert hm; simp only [List.mem_cons, List.not_mem_nil, or_false]; omega) | (simp at hm))
  have nk_zcp_132 : k ∉ [132] := fun hm => h (by first | (revert hm; simp only [List.mem_cons, List.not_mem_nil, or_false]; omega) | (simp at hm))
  have nk_zcp_131 : k ∉ [131] := fun hm => h (by first | (revert hm; simp only [List.mem_cons, List.not_mem_nil, or_false]; omega) | (simp at hm))
  have nk_zcp_130 : k ∉ [130] := fun hm => h (by first | (revert hm; simp only [List.mem_cons, List.not_mem_nil, or_false]; omega) | (simp at hm))
  have nk_zcp_129 : k ∉ [129] := fun hm => h (by first | (revert hm; simp only [List.mem_cons, List.not_mem_nil, or_false]; omega) | (simp at hm))
  have nk_zcp_128 : k ∉ [128] := fun hm => h (by first | (revert hm; simp only [List.mem_cons, List.not_mem_nil, or_false]; omega) | (simp at hm))
  have nk_zcp_127 : k ∉ [127] := fun hm => h (by first | (revert hm; simp only [List.mem_cons, List.not_mem_nil, or_false]; omega) | (simp at hm))
  unfold F_X9_copy_126_5
  repeat' split
  all_goals first | rfl | simp only [zu_row _ _ _ (ne 126 (by decide)), zu_row _ _ _ (ne 127 (by decide)), zu_row _ _ _ (ne 128 (by decide)), zu_row _ _ _ (ne 129 (by decide)), zu_row _ _ _ (ne 130 (by decide)), zu_row _ _ _ (ne 131 (by decide)), zu_row _ _ _ (ne 132 (by decide)), zu_row _ _ _ (ne 133 (by decide)), zu_row _ _ _ (ne 134 (by decide)), zu_row _ _ _ (ne 135 (by decide)), zu_row _ _ _ (ne 136 (by decide)), fr_zcp (h := nk_zcp_136), fr_zcp (h := nk_zcp_135), fr_zcp (h := nk_zcp_134), fr_zcp (h := nk_zcp_133), fr_zcp (h := nk_zcp_132), fr_zcp (h := nk_zcp_131), fr_zcp (h := nk_zcp_130), fr_zcp (h := nk_zcp_129), fr_zcp (h := nk_zcp_128), fr_zcp (h := nk_zcp_127)]

set_option maxRecDepth 20000 in
theorem does_X9_copy_126_5 (σ : zG)   : zDo SC 1 m_X9_copy [zP 126, zP 5] σ (zEq (none) (F_X9_copy_126_5 σ )) := by
  refine zDo.intro mk_X9_copy (Nat.le_of_ble_eq_true rfl) ?_
  refine zRx.aload_n 0 rfl rfl dX9_copy_0 ?_
  refine zRx.aload_n 1 rfl rfl dX9_copy_1 ?_
  refine zRx.getIv (a := 5) (ji := 0) (v := σ 5 0) rfl fl_9_57 rfl rfl rfl dX9_copy_2 ?_
  refine zRx.putI (a := 126) (ji := 0) pl_9_57 rfl rfl rfl dX9_copy_5 ?_
  refine zRx.aload_n 0 rfl rfl dX9_copy_8 ?_
  refine zRx.aload_n 1 rfl rfl dX9_copy_9 ?_
  refine zRx.getIv (a := 5) (ji := 1) (v := σ 5 1) (zu_ne _ _ _ _ (by decide)) fl_9_61 rfl rfl rfl dX9_copy_10 ?_
  refine zRx.putI (a := 126) (ji := 1) pl_9_61 rfl rfl rfl dX9_copy_13 ?_
  refine zRx.aload_n 0 rfl rfl dX9_copy_16 ?_
  refine zRx.aload_n 1 rfl rfl dX9_copy_17 ?_
  refine zRx.getIv (a := 5) (ji := 2) (v := σ 5 2) ((zu_ne _ _ _ _ (by decide)).trans (zu_ne _ _ _ _ (by decide))) fl_9_64 rfl rfl rfl dX9_copy_18 ?_
  refine zRx.putI (a := 126) (ji := 2) pl_9_64 rfl rfl rfl dX9_copy_21 ?_
  refine zRx.aload_n 1 rfl rfl dX9_copy_24 ?_
  refine zRx.getR (a := 5) (b := 6) fl_9_9 rfl rfl dX9_copy_25 ?_
  refine zRx.iconst ⟨by decide, by decide⟩ dX9_copy_28 ?_
  refine zRx.aload_n 0 rfl rfl dX9_copy_29 ?_
  refine zRx.getR (a := 126) (b := 127) fl_9_9 rfl rfl dX9_copy_30 ?_
  refine zRx.iconst ⟨by decide, by decide⟩ dX9_copy_33 ?_
  refine zRx.bipush ⟨by decide, by decide⟩ rfl dX9_copy_34 ?_
  refine zRx.acopy rfl rfl ac_9_51 (by decide) (Nat.le_of_ble_eq_true rfl) (by decide) (by decide) (by decide) (by decide) (by decide) dX9_copy_36 ?_
  refine zRx.aload_n 1 rfl rfl dX9_copy_39 ?_
  refine zRx.getR (a := 5) (b := 7) fl_9_15 rfl rfl dX9_copy_40 ?_
  refine zRx.iconst ⟨by decide, by decide⟩ dX9_copy_43 ?_
  refine zRx.aload_n 0 rfl rfl dX9_copy_44 ?_
  refine zRx.getR (a := 126) (b := 128) fl_9_15 rfl rfl dX9_copy_45 ?_
  refine zRx.iconst ⟨by decide, by decide⟩ dX9_copy_48 ?_
  refine zRx.bipush ⟨by decide, by decide⟩ rfl dX9_copy_49 ?_
  refine zRx.acopy rfl rfl ac_9_51 (by decide) (Nat.le_of_ble_eq_true rfl) (by decide) (by decide) (by decide) (by decide) (by decide) dX9_copy_51 ?_
  refine zRx.aload_n 1 rfl rfl dX9_copy_54 ?_
  refine zRx.getR (a := 5) (b := 8) fl_9_18 rfl rfl dX9_copy_55 ?_
  refine zRx.iconst ⟨by decide, by decide⟩ dX9_copy_58 ?_
  refine zRx.aload_n 0 rfl rfl dX9_copy_59 ?_
  refine zRx.getR (a := 126) (b := 129) fl_9_18 rfl rfl dX9_copy_60 ?_
  refine zRx.iconst ⟨by decide, by decide⟩ dX9_copy_63 ?_
  refine zRx.bipush ⟨by decide, by decide⟩ rfl dX9_copy_64 ?_
  refine zRx.acopy rfl rfl ac_9_51 (by decide) (Nat.le_of_ble_eq_true rfl) (by decide) (by decide) (by decide) (by decide) (by decide) dX9_copy_66 ?_
  refine zRx.aload_n 1 rfl rfl dX9_copy_69 ?_
  refine zRx.getR (a := 5) (b := 9) fl_9_21 rfl rfl dX9_copy_70 ?_
  refine zRx.iconst ⟨by decide, by decide⟩ dX9_copy_73 ?_
  refine zRx.aload_n 0 rfl rfl dX9_copy_74 ?_
  refine zRx.getR (a := 126) (b := 130) fl_9_21 rfl rfl dX9_copy_75 ?_
  refine zRx.iconst ⟨by decide, by decide⟩ dX9_copy_78 ?_
  refine zRx.bipush ⟨by decide, by decide⟩ rfl dX9_copy_79 ?_
  refine zRx.acopy rfl rfl ac_9_51 (by decide) (Nat.le_of_ble_eq_true rfl) (by decide) (by decide) (by decide) (by decide) (by decide) dX9_copy_81 ?_
  refine zRx.aload_n 1 rfl rfl dX9_copy_84 ?_
  refine zRx.getR (a := 5) (b := 10) fl_9_24 rfl rfl dX9_copy_85 ?_
  refine zRx.iconst ⟨by decide, by decide⟩ dX9_copy_88 ?_
  refine zRx.aload_n 0 rfl rfl dX9_copy_89 ?_
  refine zRx.getR (a := 126) (b := 131) fl_9_24 rfl rfl dX9_copy_90 ?_
  refine zRx.iconst ⟨by decide, by decide⟩ dX9_copy_93 ?_
  refine zRx.bipush ⟨by decide, by decide⟩ rfl dX9_copy_94 ?_
  refine zRx.acopy rfl rfl ac_9_51 (by decide) (Nat.le_of_ble_eq_true rfl) (by decide) (by decide) (by decide) (by decide) (by decide) dX9_copy_96 ?_
  refine zRx.aload_n 1 rfl rfl dX9_copy_99 ?_
  refine zRx.getR (a := 5) (b := 11) fl_9_27 rfl rfl dX9_copy_100 ?_
  refine zRx.iconst ⟨by decide, by decide⟩ dX9_copy_103 ?_
  refine zRx.aload_n 0 rfl rfl dX9_copy_104 ?_
  refine zRx.getR (a := 126) (b := 132) fl_9_27 rfl rfl dX9_copy_105 ?_
  refine zRx.iconst ⟨by decide, by decide⟩ dX9_copy_108 ?_
  refine zRx.bipush ⟨by decide, by decide⟩ rfl dX9_copy_109 ?_
  refine zRx.acopy rfl rfl ac_9_51 (by decide) (Nat.le_of_ble_eq_true rfl) (by decide) (by decide) (by decide) (by decide) (by decide) dX9_copy_111 ?_
  refine zRx.aload_n 1 rfl rfl dX9_copy_114 ?_
  refine zRx.getR (a := 5) (b := 12) fl_9_30 rfl rfl dX9_copy_115 ?_
  refine zRx.iconst ⟨by decide, by decide⟩ dX9_copy_118 ?_
  refine zRx.aload_n 0 rfl rfl dX9_copy_119 ?_
  refine zRx.getR (a := 126) (b := 133) fl_9_30 rfl rfl dX9_copy_120 ?_
  refine zRx.iconst ⟨by decide, by decide⟩ dX9_copy_123 ?_
  refine zRx.bipush ⟨by decide, by decide⟩ rfl dX9_copy_124 ?_
  refine zRx.acopy rfl rfl ac_9_51 (by decide) (Nat.le_of_ble_eq_true rfl) (by decide) (by decide) (by decide) (by decide) (by decide) dX9_copy_126 ?_
  refine zRx.aload_n 1 rfl rfl dX9_copy_129 ?_
  refine zRx.getR (a := 5) (b := 13) fl_9_33 rfl rfl dX9_copy_130 ?_
  refine zRx.iconst ⟨by decide, by decide⟩ dX9_copy_133 ?_
  refine zRx.aload_n 0 rfl rfl dX9_copy_134 ?_
  refine zRx.getR (a := 126) (b := 134) fl_9_33 rfl rfl dX9_copy_135 ?_
  refine zRx.iconst ⟨by decide, by decide⟩ dX9_copy_138 ?_
  refine zRx.bipush ⟨by decide, by decide⟩ rfl dX9_copy_139 ?_
  refine zRx.acopy rfl rfl ac_9_51 (by decide) (Nat.le_of_ble_eq_true rfl) (by decide) (by decide) (by decide) (by decide) (by decide) dX9_copy_141 ?_
  refine zRx.aload_n 1 rfl rfl dX9_copy_144 ?_
  refine zRx.getR (a := 5) (b := 14) fl_9_36 rfl rfl dX9_copy_145 ?_
  refine zRx.iconst ⟨by decide, by decide⟩ dX9_copy_148 ?_
  refine zRx.aload_n 0 rfl rfl dX9_copy_149 ?_
  refine zRx.getR (a := 126) (b := 135) fl_9_36 rfl rfl dX9_copy_150 ?_
  refine zRx.iconst ⟨by decide, by decide⟩ dX9_copy_153 ?_
  refine zRx.bipush ⟨by decide, by decide⟩ rfl dX9_copy_154 ?_
  refine zRx.acopy rfl rfl ac_9_51 (by decide) (Nat.le_of_ble_eq_true rfl) (by decide) (by decide) (by decide) (by decide) (by decide) dX9_copy_156 ?_
  refine zRx.aload_n 1 rfl rfl dX9_copy_159 ?_
  refine zRx.getR (a := 5) (b := 15) fl_9_39 rfl rfl dX9_copy_160 ?_
  refine zRx.iconst ⟨by decide, by decide⟩ dX9_copy_163 ?_
  refine zRx.aload_n 0 rfl rfl dX9_copy_164 ?_
  refine zRx.getR (a := 126) (b := 136) fl_9_39 rfl rfl dX9_copy_165 ?_
  refine zRx.iconst ⟨by decide, by decide⟩ dX9_copy_168 ?_
  refine zRx.iconst ⟨by decide, by decide⟩ dX9_copy_169 ?_
  refine zRx.acopy rfl rfl ac_9_51 (by decide) (Nat.le_of_ble_eq_true rfl) (by decide) (by decide) (by decide) (by decide) (by decide) dX9_copy_170 ?_
  exact zR.ret rfl dX9_copy_173 ⟨rfl, rfl⟩

def F_X0_copy_27_35 (σ : zG)  : zG := zcp (zcp (zcp (zcp (zcp (zcp (zcp (zu (zu σ 27 0 (σ 35 0)) 27 1 (σ 35 1)) 36 28 0 0 60) 37 29 0 0 60) 38 30 0 0 60) 39 31 0 0 60) 40 32 0 0 60) 41 33 0 0 60) 42 34 0 0 60
theorem fr_F_X0_copy_27_35 (σ : zG)  {k : Nat} (h : k ∉ [27, 28, 29, 30, 31, 32, 33, 34]) : (F_X0_copy_27_35 σ ) k = σ k := by
  have ne : ∀ c ∈ [27, 28, 29, 30, 31, 32, 33, 34], k ≠ c := fun c hc e => h (e ▸ hc)
  have nk_zcp_34 : k ∉ [34] := fun hm => h (by first | (revert hm; simp only [List.mem_cons, List.not_mem_nil, or_false]; omega) | (simp at hm))
  have nk_zcp_33 : k ∉ [33] := fun hm => h (by first | (revert hm; simp only [List.mem_cons, List.not_mem_nil, or_false]; omega) | (simp at hm))
  have nk_zcp_32 : k ∉ [32] := fun hm => h (by first | (revert hm; simp only [List.mem_cons, List.not_mem_nil, or_false]; omega) | (simp at hm))
  have nk_zcp_31 : k ∉ [31] := fun hm => h (by first | (revert hm; simp only [List.mem_cons, List.not_mem_nil, or_false]; omega) | (simp at hm))
  have nk_zcp_30 : k ∉ [30] := fun hm => h (by first | (revert hm; simp only [List.mem_cons, List.not_mem_nil, or_false]; omega) | (simp at hm))
  have nk_zcp_29 : k ∉ [29] := fun hm => h (by first | (revert hm; simp only [List.mem_cons, List.not_mem_nil, or_false]; omega) | (simp at hm))
  have nk_zcp_28 : k ∉ [28] := fun hm => h (by first | (revert hm; simp only [List.mem_cons, List.not_mem_nil, or_false]; omega) | (simp at hm))
  unfold F_X0_copy_27_35
  repeat' split
  all_goals first | rfl | simp only [zu_row _ _ _ (ne 27 (by decide)), zu_row _ _ _ (ne 28 (by decide)), zu_row _ _ _ (ne 29 (by decide)), zu_row _ _ _ (ne 30 (by decide)), zu_row _ _ _ (ne 31 (by decide)), zu_row _ _ _ (ne 32 (by decide)), zu_row _ _ _ (ne 33 (by decide)), zu_row _ _ _ (ne 34 (by decide)), fr_zcp (h := nk_zcp_34), fr_zcp (h := nk_zcp_33), fr_zcp (h := nk_zcp_32), fr_zcp (h := nk_zcp_31), fr_zcp (h := nk_zcp_30), fr_zcp (h := nk_zcp_29), fr_zcp (h := nk_zcp_28)]

set_option maxRecDepth 20000 in
theorem does_X0_copy_27_35 (σ : zG)   : zDo SC 1 m_X0_copy [zP 27, zP 35] σ (zEq (none) (F_X0_copy_27_35 σ )) := by
  refine zDo.intro mk_X0_copy (Nat.le_of_ble_eq_true rfl) ?_
  refine zRx.aload_n 0 rfl rfl dX0_copy_0 ?_
  refine zRx.aload_n 1 rfl rfl dX0_copy_1 ?_
  refine zRx.getIv (a := 35) (ji := 0) (v := σ 35 0) rfl fl_0_33 rfl rfl rfl dX0_copy_2 ?_
  refine zRx.putI (a := 27) (ji := 0) pl_0_33 rfl rfl rfl dX0_copy_5 ?_
  refine zRx.aload_n 0 rfl rfl dX0_copy_8 ?_
  refine zRx.aload_n 1 rfl rfl dX0_copy_9 ?_
  refine zRx.getIv (a := 35) (ji := 1) (v := σ 35 1) (zu_ne _ _ _ _ (by decide)) fl_0_37 rfl rfl rfl dX0_copy_10 ?_
  refine zRx.putI (a := 27) (ji := 1) pl_0_37 rfl rfl rfl dX0_copy_13 ?_
  refine zRx.aload_n 1 rfl rfl dX0_copy_16 ?_
  refine zRx.getR (a := 35) (b := 36) fl_0_9 rfl rfl dX0_copy_17 ?_
  refine zRx.iconst ⟨by decide, by decide⟩ dX0_copy_20 ?_
  refine zRx.aload_n 0 rfl rfl dX0_copy_21 ?_
  refine zRx.getR (a := 27) (b := 28) fl_0_9 rfl rfl dX0_copy_22 ?_
  refine zRx.iconst ⟨by decide, by decide⟩ dX0_copy_25 ?_
  refine zRx.bipush ⟨by decide, by decide⟩ rfl dX0_copy_26 ?_
  refine zRx.acopy rfl rfl ac_0_40 (by decide) (Nat.le_of_ble_eq_true rfl) (by decide) (by decide) (by decide) (by decide) (by decide) dX0_copy_28 ?_
  refine zRx.aload_n 1 rfl rfl dX0_copy_31 ?_
  refine zRx.getR (a := 35) (b := 37) fl_0_15 rfl rfl dX0_copy_32 ?_
  refine zRx.iconst ⟨by decide, by decide⟩ dX0_copy_35 ?_
  refine zRx.aload_n 0 rfl rfl dX0_copy_36 ?_
  refine zRx.getR (a := 27) (b := 29) fl_0_15 rfl rfl dX0_copy_37 ?_
  refine zRx.iconst ⟨by decide, by decide⟩ dX0_copy_40 ?_
  refine zRx.bipush ⟨by decide, by decide⟩ rfl dX0_copy_41 ?_
  refine zRx.acopy rfl rfl ac_0_40 (by decide) (Nat.le_of_ble_eq_true rfl) (by decide) (by decide) (by decide) (by decide) (by decide) dX0_copy_43 ?_
  refine zRx.aload_n 1 rfl rfl dX0_copy_46 ?_
  refine zRx.getR (a := 35) (b := 38) fl_0_18 rfl rfl dX0_copy_47 ?_
  refine zRx.iconst ⟨by decide, by decide⟩ dX0_copy_50 ?_
  refine zRx.aload_n 0 rfl rfl dX0_copy_51 ?_
  refine zRx.getR (a := 27) (b := 30) fl_0_18 rfl rfl dX0_copy_52 ?_
  refine zRx.iconst ⟨by decide, by decide⟩ dX0_copy_55 ?_
  refine zRx.bipush ⟨by decide, by decide⟩ rfl dX0_copy_56 ?_
  refine zRx.acopy rfl rfl ac_0_40 (by decide) (Nat.le_of_ble_eq_true rfl) (by decide) (by decide) (by decide) (by decide) (by decide) dX0_copy_58 ?_
  refine zRx.aload_n 1 rfl rfl dX0_copy_61 ?_
  refine zRx.getR (a := 35) (b := 39) fl_0_21 rfl rfl dX0_copy_62 ?_
  refine zRx.iconst ⟨by decide, by decide⟩ dX0_copy_65 ?_
  refine zRx.aload_n 0 rfl rfl dX0_copy_66 ?_
  refine zRx.getR (a := 27) (b := 31) fl_0_21 rfl rfl dX0_copy_67 ?_
  refine zRx.iconst ⟨by decide, by decide⟩ dX0_copy_70 ?_
  refine zRx.bipush ⟨by decide, by decide⟩ rfl dX0_copy_71 ?_
  refine zRx.acopy rfl rfl ac_0_40 (by decide) (Nat.le_of_ble_eq_true rfl) (by decide) (by decide) (by decide) (by decide) (by decide) dX0_copy_73 ?_
  refine zRx.aload_n 1 rfl rfl dX0_copy_76 ?_
  refine zRx.getR (a := 35) (b := 40) fl_0_24 rfl rfl dX0_copy_77 ?_
  refine zRx.iconst ⟨by decide, by decide⟩ dX0_copy_80 ?_
  refine zRx.aload_n 0 rfl rfl dX0_copy_81 ?_
  refine zRx.getR (a := 27) (b := 32) fl_0_24 rfl rfl dX0_copy_82 ?_
  refine zRx.iconst ⟨by decide, by decide⟩ dX0_copy_85 ?_
  refine zRx.bipush ⟨by decide, by decide⟩ rfl dX0_copy_86 ?_
  refine zRx.acopy rfl rfl ac_0_40 (by decide) (Nat.le_of_ble_eq_true rfl) (by decide) (by decide) (by decide) (by decide) (by decide) dX0_copy_88 ?_
  refine zRx.aload_n 1 rfl rfl dX0_copy_91 ?_
  refine zRx.getR (a := 35) (b := 41) fl_0_27 rfl rfl dX0_copy_92 ?_
  refine zRx.iconst ⟨by decide, by decide⟩ dX0_copy_95 ?_
  refine zRx.aload_n 0 rfl rfl dX0_copy_96 ?_
  refine zRx.getR (a := 27) (b := 33) fl_0_27 rfl rfl dX0_copy_97 ?_
  refine zRx.iconst ⟨by decide, by decide⟩ dX0_copy_100 ?_
  refine zRx.bipush ⟨by decide, by decide⟩ rfl dX0_copy_101 ?_
  refine zRx.acopy rfl rfl ac_0_40 (by decide) (Nat.le_of_ble_eq_true rfl) (by decide) (by decide) (by decide) (by decide) (by decide) dX0_copy_103 ?_
  refine zRx.aload_n 1 rfl rfl dX0_copy_106 ?_
  refine zRx.getR (a := 35) (b := 42) fl_0_30 rfl rfl dX0_copy_107 ?_
  refine zRx.iconst ⟨by decide, by decide⟩ dX0_copy_110 ?_
  refine zRx.aload_n 0 rfl rfl dX0_copy_111 ?_
  refine zRx.getR (a := 27) (b := 34) fl_0_30 rfl rfl dX0_copy_112 ?_
  refine zRx.iconst ⟨by decide, by decide⟩ dX0_copy_115 ?_
  refine zRx.bipush ⟨by decide, by decide⟩ rfl dX0_copy_116 ?_
  refine zRx.acopy rfl rfl ac_0_40 (by decide) (Nat.le_of_ble_eq_true rfl) (by decide) (by decide) (by decide) (by decide) (by decide) dX0_copy_118 ?_
  exact zR.ret rfl dX0_copy_121 ⟨rfl, rfl⟩

def F_X0_copy_27_112 (σ : zG)  : zG := zcp (zcp (zcp (zcp (zcp (zcp (zcp (zu (zu σ 27 0 (σ 112 0)) 27 1 (σ 112 1)) 113 28 0 0 60) 114 29 0 0 60) 115 30 0 0 60) 116 31 0 0 60) 117 32 0 0 60) 118 33 0 0 60) 119 34 0 0 60
theorem fr_F_X0_copy_27_112 (σ : zG)  {k : Nat} (h : k ∉ [27, 28, 29, 30, 31, 32, 33, 34]) : (F_X0_copy_27_112 σ ) k = σ k := by
  have ne : ∀ c ∈ [27, 28, 29, 30, 31, 32, 33, 34], k ≠ c := fun c hc e => h (e ▸ hc)
  have nk_zcp_34 : k ∉ [34] := fun hm => h (by first | (revert hm; simp only [List.mem_cons, List.not_mem_nil, or_false]; omega) | (simp at hm))
  have nk_zcp_33 : k ∉ [33] := fun hm => h (by first | (revert hm; simp only [List.mem_cons, List.not_mem_nil, or_false]; omega) | (simp at hm))
  have nk_zcp_32 : k ∉ [32] := fun hm => h (by first | (revert hm; simp only [List.mem_cons, List.not_mem_nil, or_false]; omega) | (simp at hm))
  have nk_zcp_31 : k ∉ [31] := fun hm => h (by first | (revert hm; simp only [List.mem_cons, List.not_mem_nil, or_false]; omega) | (simp at hm))
  have nk_zcp_30 : k ∉ [30] := fun hm => h (by first | (revert hm; simp only [List.mem_cons, List.not_mem_nil, or_false]; omega) | (simp at hm))
  have nk_zcp_29 : k ∉ [29] := fun hm => h (by first | (revert hm; simp only [List.mem_cons, List.not_mem_nil, or_false]; omega) | (simp at hm))
  have nk_zcp_28 : k ∉ [28] := fun hm => h (by first | (revert hm; simp only [List.mem_cons, List.not_mem_nil, or_false]; omega) | (simp at hm))
  unfold F_X0_copy_27_112
  repeat' split
  all_goals first | rfl | simp only [zu_row _ _ _ (ne 27 (by decide)), zu_row _ _ _ (ne 28 (by decide)), zu_row _ _ _ (ne 29 (by decide)), zu_row _ _ _ (ne 30 (by decide)), zu_row _ _ _ (ne 31 (by decide)), zu_row _ _ _ (ne 32 (by decide)), zu_row _ _ _ (ne 33 (by decide)), zu_row _ _ _ (ne 34 (by decide)), fr_zcp (h := nk_zcp_34), fr_zcp (h := nk_zcp_33), fr_zcp (h := nk_zcp_32), fr_zcp (h := nk_zcp_31), fr_zcp (h := nk_zcp_30), fr_zcp (h := nk_zcp_29), fr_zcp (h := nk_zcp_28)]

set_option maxRecDepth 20000 in
theorem does_X0_copy_27_112 (σ : zG)   : zDo SC 1 m_X0_copy [zP 27, zP 112] σ (zEq (none) (F_X0_copy_27_112 σ )) := by
  refine zDo.intro mk_X0_copy (Nat.le_of_ble_eq_true rfl) ?_
  refine zRx.aload_n 0 rfl rfl dX0_copy_0 ?_
  refine zRx.aload_n 1 rfl rfl dX0_copy_1 ?_
  refine zRx.getIv (a := 112) (ji := 0) (v := σ 112 0) rfl fl_0_33 rfl rfl rfl dX0_copy_2 ?_
  refine zRx.putI (a := 27) (ji := 0) pl_0_33 rfl rfl rfl dX0_copy_5 ?_
  refine zRx.aload_n 0 rfl rfl dX0_copy_8 ?_
  refine zRx.aload_n 1 rfl rfl dX0_copy_9 ?_
  refine zRx.getIv (a := 112) (ji := 1) (v := σ 112 1) (zu_ne _ _ _ _ (by decide)) fl_0_37 rfl rfl rfl dX0_copy_10 ?_
  refine zRx.putI (a := 27) (ji := 1) pl_0_37 rfl rfl rfl dX0_copy_13 ?_
  refine zRx.aload_n 1 rfl rfl dX0_copy_16 ?_
  refine zRx.getR (a := 112) (b := 113) fl_0_9 rfl rfl dX0_copy_17 ?_
  refine zRx.iconst ⟨by decide, by decide⟩ dX0_copy_20 ?_
  refine zRx.aload_n 0 rfl rfl dX0_copy_21 ?_
  refine zRx.getR (a := 27) (b := 28) fl_0_9 rfl rfl dX0_copy_22 ?_
  refine zRx.iconst ⟨by decide, by decide⟩ dX0_copy_25 ?_
  refine zRx.bipush ⟨by decide, by decide⟩ rfl dX0_copy_26 ?_
  refine zRx.acopy rfl rfl ac_0_40 (by decide) (Nat.le_of_ble_eq_true rfl) (by decide) (by decide) (by decide) (by decide) (by decide) dX0_copy_28 ?_
  refine zRx.aload_n 1 rfl rfl dX0_copy_31 ?_
  refine zRx.getR (a := 112) (b := 114) fl_0_15 rfl rfl dX0_copy_32 ?_
  refine zRx.iconst ⟨by decide, by decide⟩ dX0_copy_35 ?_
  refine zRx.aload_n 0 rfl rfl dX0_copy_36 ?_
  refine zRx.getR (a := 27) (b := 29) fl_0_15 rfl rfl dX0_copy_37 ?_
  refine zRx.iconst ⟨by decide, by decide⟩ dX0_copy_40 ?_
  refine zRx.bipush ⟨by decide, by decide⟩ rfl dX0_copy_41 ?_
  refine zRx.acopy rfl rfl ac_0_40 (by decide) (Nat.le_of_ble_eq_true rfl) (by decide) (by decide) (by decide) (by decide) (by decide) dX0_copy_43 ?_
  refine zRx.aload_n 1 rfl rfl dX0_copy_46 ?_
  refine zRx.getR (a := 112) (b := 115) fl_0_18 rfl rfl dX0_copy_47 ?_
  refine zRx.iconst ⟨by decide, by decide⟩ dX0_copy_50 ?_
  refine zRx.aload_n 0 rfl rfl dX0_copy_51 ?_
  refine zRx.getR (a := 27) (b := 30) fl_0_18 rfl rfl dX0_copy_52 ?_
  refine zRx.iconst ⟨by decide, by decide⟩ dX0_copy_55 ?_
  refine zRx.bipush ⟨by decide, by decide⟩ rfl dX0_copy_56 ?_
  refine zRx.acopy rfl rfl ac_0_40 (by decide) (Nat.le_of_ble_eq_true rfl) (by decide) (by decide) (by decide) (by decide) (by decide) dX0_copy_58 ?_
  refine zRx.aload_n 1 rfl rfl dX0_copy_61 ?_
  refine zRx.getR (a := 112) (b := 116) fl_0_21 rfl rfl dX0_copy_62 ?_
  refine zRx.iconst ⟨by decide, by decide⟩ dX0_copy_65 ?_
  refine zRx.aload_n 0 rfl rfl dX0_copy_66 ?_
  refine zRx.getR (a := 27) (b := 31) fl_0_21 rfl rfl dX0_copy_67 ?_
  refine zRx.iconst ⟨by decide, by decide⟩ dX0_copy_70 ?_
  refine zRx.bipush ⟨by decide, by decide⟩ rfl dX0_copy_71 ?_
  refine zRx.acopy rfl rfl ac_0_40 (by decide) (Nat.le_of_ble_eq_true rfl) (by decide) (by decide) (by decide) (by decide) (by decide) dX0_copy_73 ?_
  refine zRx.aload_n 1 rfl rfl dX0_copy_76 ?_
  refine zRx.getR (a := 112) (b := 117) fl_0_24 rfl rfl dX0_copy_77 ?_
  refine zRx.iconst ⟨by decide, by decide⟩ dX0_copy_80 ?_
  refine zRx.aload_n 0 rfl rfl dX0_copy_81 ?_
  refine zRx.getR (a := 27) (b := 32) fl_0_24 rfl rfl dX0_copy_82 ?_
  refine zRx.iconst ⟨by decide, by decide⟩ dX0_copy_85 ?_
  refine zRx.bipush ⟨by decide, by decide⟩ rfl dX0_copy_86 ?_
  refine zRx.acopy rfl rfl ac_0_40 (by decide) (Nat.le_of_ble_eq_true rfl) (by decide) (by decide) (by decide) (by decide) (by decide) dX0_copy_88 ?_
  refine zRx.aload_n 1 rfl rfl dX0_copy_91 ?_
  refine zRx.getR (a := 112) (b := 118) fl_0_27 rfl rfl dX0_copy_92 ?_
  refine zRx.iconst ⟨by decide, by decide⟩ dX0_copy_95 ?_
  refine zRx.aload_n 0 rfl rfl dX0_copy_96 ?_
  refine zRx.getR (a := 27) (b := 33) fl_0_27 rfl rfl dX0_copy_97 ?_
  refine zRx.iconst ⟨by decide, by decide⟩ dX0_copy_100 ?_
  refine zRx.bipush ⟨by decide, by decide⟩ rfl dX0_copy_101 ?_
  refine zRx.acopy rfl rfl ac_0_40 (by decide) (Nat.le_of_ble_eq_true rfl) (by decide) (by decide) (by decide) (by decide) (by decide) dX0_copy_103 ?_
  refine zRx.aload_n 1 rfl rfl dX0_copy_106 ?_
  refine zRx.getR (a := 112) (b := 119) fl_0_30 rfl rfl dX0_copy_107 ?_
  refine zRx.iconst ⟨by decide, by decide⟩ dX0_copy_110 ?_
  refine zRx.aload_n 0 rfl rfl dX0_copy_111 ?_
  refine zRx.getR (a := 27) (b := 34) fl_0_30 rfl rfl dX0_copy_112 ?_
  refine zRx.iconst ⟨by decide, by decide⟩ dX0_copy_115 ?_
  refine zRx.bipush ⟨by decide, by decide⟩ rfl dX0_copy_116 ?_
  refine zRx.acopy rfl rfl ac_0_40 (by decide) (Nat.le_of_ble_eq_true rfl) (by decide) (by decide) (by decide) (by decide) (by decide) dX0_copy_118 ?_
  exact zR.ret rfl dX0_copy_121 ⟨rfl, rfl⟩

def F_X0_copy_27_137 (σ : zG)  : zG := zcp (zcp (zcp (zcp (zcp (zcp (zcp (zu (zu σ 27 0 (σ 137 0)) 27 1 (σ 137 1)) 138 28 0 0 60) 139 29 0 0 60) 140 30 0 0 60) 141 31 0 0 60) 142 32 0 0 60) 143 33 0 0 60) 144 34 0 0 60
theorem fr_F_X0_copy_27_137 (σ : zG)  {k : Nat} (h : k ∉ [27, 28, 29, 30, 31, 32, 33, 34]) : (F_X0_copy_27_137 σ ) k = σ k := by
  have ne : ∀ c ∈ [27, 28, 29, 30, 31, 32, 33, 34], k ≠ c := fun c hc e => h (e ▸ hc)
  have nk_zcp_34 : k ∉ [34] := fun hm => h (by first | (revert hm; simp only [List.mem_cons, List.not_mem_nil, or_false]; omega) | (simp at hm))
  have nk_zcp_33 : k ∉ [33] := fun hm => h (by first | (revert hm; simp only [List.mem_cons, List.not_mem_nil, or_false]; omega) | (simp at hm))
  have nk_zcp_32 : k ∉ [32] := fun hm => h (by first | (revert hm; simp only [List.mem_cons, List.not_mem_nil, or_false]; omega) | (simp at hm))
  have nk_zcp_31 : k ∉ [31] := fun hm => h (by first | (revert hm; simp only [List.mem_cons, List.not_mem_nil, or_false]; omega) | (simp at hm))
  have nk_zcp_30 : k ∉ [30] := fun hm => h (by first | (revert hm; simp only [List.mem_cons, List.not_mem_nil, or_false]; omega) | (simp at hm))
  have nk_zcp_29 : k ∉ [29] := fun hm => h (by first | (revert hm; simp only [List.mem_cons, List.not_mem_nil, or_false]; omega) | (simp at hm))
  have nk_zcp_28 : k ∉ [28] := fun hm => h (by first | (revert hm; simp only [List.mem_cons, List.not_mem_nil, or_false]; omega) | (simp at hm))
  unfold F_X0_copy_27_137
  repeat' split
  all_goals first | rfl | simp only [zu_row _ _ _ (ne 27 (by decide)), zu_row _ _ _ (ne 28 (by decide)), zu_row _ _ _ (ne 29 (by decide)), zu_row _ _ _ (ne 30 (by decide)), zu_row _ _ _ (ne 31 (by decide)), zu_row _ _ _ (ne 32 (by decide)), zu_row _ _ _ (ne 33 (by decide)), zu_row _ _ _ (ne 34 (by decide)), fr_zcp (h := nk_zcp_34), fr_zcp (h := nk_zcp_33), fr_zcp (h := nk_zcp_32), fr_zcp (h := nk_zcp_31), fr_zcp (h := nk_zcp_30), fr_zcp (h := nk_zcp_29), fr_zcp (h := nk_zcp_28)]

set_option maxRecDepth 20000 in
theorem does_X0_copy_27_137 (σ : zG)   : zDo SC 1 m_X0_copy [zP 27, zP 137] σ (zEq (none) (F_X0_copy_27_137 σ )) := by
  refine zDo.intro mk_X0_copy (Nat.le_of_ble_eq_true rfl) ?_
  refine zRx.aload_n 0 rfl rfl dX0_copy_0 ?_
  refine zRx.aload_n 1 rfl rfl dX0_copy_1 ?_
  refine zRx.getIv (a := 137) (ji := 0) (v := σ 137 0) rfl fl_0_33 rfl rfl rfl dX0_copy_2 ?_
  refine zRx.putI (a := 27) (ji := 0) pl_0_33 rfl rfl rfl dX0_copy_5 ?_
  refine zRx.aload_n 0 rfl rfl dX0_copy_8 ?_
  refine zRx.aload_n 1 rfl rfl dX0_copy_9 ?_
  refine zRx.getIv (a := 137) (ji := 1) (v := σ 137 1) (zu_ne _ _ _ _ (by decide)) fl_0_37 rfl rfl rfl dX0_copy_10 ?_
  refine zRx.putI (a := 27) (ji := 1) pl_0_37 rfl rfl rfl dX0_copy_13 ?_
  refine zRx.aload_n 1 rfl rfl dX0_copy_16 ?_
  refine zRx.getR (a := 137) (b := 138) fl_0_9 rfl rfl dX0_copy_17 ?_
  refine zRx.iconst ⟨by decide, by decide⟩ dX0_copy_20 ?_
  refine zRx.aload_n 0 rfl rfl dX0_copy_21 ?_
  refine zRx.getR (a := 27) (b := 28) fl_0_9 rfl rfl dX0_copy_22 ?_
  refine zRx.iconst ⟨by decide, by decide⟩ dX0_copy_25 ?_
  refine zRx.bipush ⟨by decide, by decide⟩ rfl dX0_copy_26 ?_
  refine zRx.acopy rfl rfl ac_0_40 (by decide) (Nat.le_of_ble_eq_true rfl) (by decide) (by decide) (by decide) (by decide) (by decide) dX0_copy_28 ?_
  refine zRx.aload_n 1 rfl rfl dX0_copy_31 ?_
  refine zRx.getR (a := 137) (b := 139) fl_0_15 rfl rfl dX0_copy_32 ?_
  refine zRx.iconst ⟨by decide, by decide⟩ dX0_copy_35 ?_
  refine zRx.aload_n 0 rfl rfl dX0_copy_36 ?_
  refine zRx.getR (a := 27) (b := 29) fl_0_15 rfl rfl dX0_copy_37 ?_
  refine zRx.iconst ⟨by decide, by decide⟩ dX0_copy_40 ?_
  refine zRx.bipush ⟨by decide, by decide⟩ rfl dX0_copy_41 ?_
  refine zRx.acopy rfl rfl ac_0_40 (by decide) (Nat.le_of_ble_eq_true rfl) (by decide) (by decide) (by decide) (by decide) (by decide) dX0_copy_43 ?_
  refine zRx.aload_n 1 rfl rfl dX0_copy_46 ?_
  refine zRx.getR (a := 137) (b := 140) fl_0_18 rfl rfl dX0_copy_47 ?_
  refine zRx.iconst ⟨by decide, by decide⟩ dX0_copy_50 ?_
  refine zRx.aload_n 0 rfl rfl dX0_copy_51 ?_
  refine zRx.getR (a := 27) (b := 30) fl_0_18 rfl rfl dX0_copy_52 ?_
  refine zRx.iconst ⟨by decide, by decide⟩ dX0_copy_55 ?_
  refine zRx.bipush ⟨by decide, by decide⟩ rfl dX0_copy_56 ?_
  refine zRx.acopy rfl rfl ac_0_40 (by decide) (Nat.le_of_ble_eq_true rfl) (by decide) (by decide) (by decide) (by decide) (by decide) dX0_copy_58 ?_
  refine zRx.aload_n 1 rfl rfl dX0_copy_61 ?_
  refine zRx.getR (a := 137) (b := 141) fl_0_21 rfl rfl dX0_copy_62 ?_
  refine zRx.iconst ⟨by decide, by decide⟩ dX0_copy_65 ?_
  refine zRx.aload_n 0 rfl rfl dX0_copy_66 ?_
  refine zRx.getR (a := 27) (b := 31) fl_0_21 rfl rfl dX0_copy_67 ?_
  refine zRx.iconst ⟨by decide, by decide⟩ dX0_copy_70 ?_
  refine zRx.bipush ⟨by decide, by decide⟩ rfl dX0_copy_71 ?_
  refine zRx.acopy rfl rfl ac_0_40 (by decide) (Nat.le_of_ble_eq_true rfl) (by decide) (by decide) (by decide) (by decide) (by decide) dX0_copy_73 ?_
  refine zRx.aload_n 1 rfl rfl dX0_copy_76 ?_
  refine zRx.getR (a := 137) (b := 142) fl_0_24 rfl rfl dX0_copy_77 ?_
  refine zRx.iconst ⟨by decide, by decide⟩ dX0_copy_80 ?_
  refine zRx.aload_n 0 rfl rfl dX0_copy_81 ?_
  refine zRx.getR (a := 27) (b := 32) fl_0_24 rfl rfl dX0_copy_82 ?_
  refine zRx.iconst ⟨by decide, by decide⟩ dX0_copy_85 ?_
  refine zRx.bipush ⟨by decide, by decide⟩ rfl dX0_copy_86 ?_
  refine zRx.acopy rfl rfl ac_0_40 (by decide) (Nat.le_of_ble_eq_true rfl) (by decide) (by decide) (by decide) (by decide) (by decide) dX0_copy_88 ?_
  refine zRx.aload_n 1 rfl rfl dX0_copy_91 ?_
  refine zRx.getR (a := 137) (b := 143) fl_0_27 rfl rfl dX0_copy_92 ?_
  refine zRx.iconst ⟨by decide, by decide⟩ dX0_copy_95 ?_
  refine zRx.aload_n 0 rfl rfl dX0_copy_96 ?_
  refine zRx.getR (a := 27) (b := 33) fl_0_27 rfl rfl dX0_copy_97 ?_
  refine zRx.iconst ⟨by decide, by decide⟩ dX0_copy_100 ?_
  refine zRx.bipush ⟨by decide, by decide⟩ rfl dX0_copy_101 ?_
  refine zRx.acopy rfl rfl ac_0_40 (by decide) (Nat.le_of_ble_eq_true rfl) (by decide) (by decide) (by decide) (by decide) (by decide) dX0_copy_103 ?_
  refine zRx.aload_n 1 rfl rfl dX0_copy_106 ?_
  refine zRx.getR (a := 137) (b := 144) fl_0_30 rfl rfl dX0_copy_107 ?_
  refine zRx.iconst ⟨by decide, by decide⟩ dX0_copy_110 ?_
  refine zRx.aload_n 0 rfl rfl dX0_copy_111 ?_
  refine zRx.getR (a := 27) (b := 34) fl_0_30 rfl rfl dX0_copy_112 ?_
  refine zRx.iconst ⟨by decide, by decide⟩ dX0_copy_115 ?_
  refine zRx.bipush ⟨by decide, by decide⟩ rfl dX0_copy_116 ?_
  refine zRx.acopy rfl rfl ac_0_40 (by decide) (Nat.le_of_ble_eq_true rfl) (by decide) (by decide) (by decide) (by decide) (by decide) dX0_copy_118 ?_
  exact zR.ret rfl dX0_copy_121 ⟨rfl, rfl⟩

def F_X0_copy_112_27 (σ : zG)  : zG := zcp (zcp (zcp (zcp (zcp (zcp (zcp (zu (zu σ 112 0 (σ 27 0)) 112 1 (σ 27 1)) 28 113 0 0 60) 29 114 0 0 60) 30 115 0 0 60) 31 116 0 0 60) 32 117 0 0 60) 33 118 0 0 60) 34 119 0 0 60
theorem fr_F_X0_copy_112_27 (σ : zG)  {k : Nat} (h : k ∉ [112, 113, 114, 115, 116, 117, 118, 119]) : (F_X0_copy_112_27 σ ) k = σ k := by
  have ne : ∀ c ∈ [112, 113, 114, 115, 116, 117, 118, 119], k ≠ c := fun c hc e => h (e ▸ hc)
  have nk_zcp_119 : k ∉ [119] := fun hm => h (by first | (revert hm; simp only [List.mem_cons, List.not_mem_nil, or_false]; omega) | (simp at hm))
  have nk_zcp_118 : k ∉ [118] := fun hm => h (by first | (revert hm; simp only [List.mem_cons, List.not_mem_nil, or_false]; omega) | (simp at hm))
  have nk_zcp_117 : k ∉ [117] := fun hm => h (by first | (revert hm; simp only [List.mem_cons, List.not_mem_nil, or_false]; omega) | (simp at hm))
  have nk_zcp_116 : k ∉ [116] := fun hm => h (by first | (revert hm; simp only [List.mem_cons, List.not_mem_nil, or_false]; omega) | (simp at hm))
  have nk_zcp_115 : k ∉ [115] := fun hm => h (by first | (revert hm; simp only [List.mem_cons, List.not_mem_nil, or_false]; omega) | (simp at hm))
  have nk_zcp_114 : k ∉ [114] := fun hm => h (by first | (revert hm; simp only [List.mem_cons, List.not_mem_nil, or_false]; omega) | (simp at hm))
  have nk_zcp_113 : k ∉ [113] := fun hm => h (by first | (revert hm; simp only [List.mem_cons, List.not_mem_nil, or_false]; omega) | (simp at hm))
  unfold F_X0_copy_112_27
  repeat' split
  all_goals first | rfl | simp only [zu_row _ _ _ (ne 112 (by decide)), zu_row _ _ _ (ne 113 (by decide)), zu_row _ _ _ (ne 114 (by decide)), zu_row _ _ _ (ne 115 (by decide)), zu_row _ _ _ (ne 116 (by decide)), zu_row _ _ _ (ne 117 (by decide)), zu_row _ _ _ (ne 118 (by decide)), zu_row _ _ _ (ne 119 (by decide)), fr_zcp (h := nk_zcp_119), fr_zcp (h := nk_zcp_118), fr_zcp (h := nk_zcp_117), fr_zcp (h := nk_zcp_116), fr_zcp (h := nk_zcp_115), fr_zcp (h := nk_zcp_114), fr_zcp (h := nk_zcp_113)]

set_option maxRecDepth 20000 in
theorem does_X0_copy_112_27 (σ : zG)   : zDo SC 1 m_X0_copy [zP 112, zP 27] σ (zEq (none) (F_X0_copy_112_27 σ )) := by
  refine zDo.intro mk_X0_copy (Nat.le_of_ble_eq_true rfl) ?_
  refine zRx.aload_n 0 rfl rfl dX0_copy_0 ?_
  refine zRx.aload_n 1 rfl rfl dX0_copy_1 ?_
  refine zRx.getIv (a := 27) (ji := 0) (v := σ 27 0) rfl fl_0_33 rfl rfl rfl dX0_copy_2 ?_
  refine zRx.putI (a := 112) (ji := 0) pl_0_33 rfl rfl rfl dX0_copy_5 ?_
  refine zRx.aload_n 0 rfl rfl dX0_copy_8 ?_
  refine zRx.aload_n 1 rfl rfl dX0_copy_9 ?_
  refine zRx.getIv (a := 27) (ji := 1) (v := σ 27 1) (zu_ne _ _ _ _ (by decide)) fl_0_37 rfl rfl rfl dX0_copy_10 ?_
  refine zRx.putI (a := 112) (ji := 1) pl_0_37 rfl rfl rfl dX0_copy_13 ?_
  refine zRx.aload_n 1 rfl rfl dX0_copy_16 ?_
  refine zRx.getR (a := 27) (b := 28) fl_0_9 rfl rfl dX0_copy_17 ?_
  refine zRx.iconst ⟨by decide, by decide⟩ dX0_copy_20 ?_
  refine zRx.aload_n 0 rfl rfl dX0_copy_21 ?_
  refine zRx.getR (a := 112) (b := 113) fl_0_9 rfl rfl dX0_copy_22 ?_
  refine zRx.iconst ⟨by decide, by decide⟩ dX0_copy_25 ?_
  refine zRx.bipush ⟨by decide, by decide⟩ rfl dX0_copy_26 ?_
  refine zRx.acopy rfl rfl ac_0_40 (by decide) (Nat.le_of_ble_eq_true rfl) (by decide) (by decide) (by decide) (by decide) (by decide) dX0_copy_28 ?_
  refine zRx.aload_n 1 rfl rfl dX0_copy_31 ?_
  refine zRx.getR (a := 27) (b := 29) fl_0_15 rfl rfl dX0_copy_32 ?_
  refine zRx.iconst ⟨by decide, by decide⟩ dX0_copy_35 ?_
  refine zRx.aload_n 0 rfl rfl dX0_copy_36 ?_
  refine zRx.getR (a := 112) (b := 114) fl_0_15 rfl rfl dX0_copy_37 ?_
  refine zRx.iconst ⟨by decide, by decide⟩ dX0_copy_40 ?_
  refine zRx.bipush ⟨by decide, by decide⟩ rfl dX0_copy_41 ?_
  refine zRx.acopy rfl rfl ac_0_40 (by decide) (Nat.le_of_ble_eq_true rfl) (by decide) (by decide) (by decide) (by decide) (by decide) dX0_copy_43 ?_
  refine zRx.aload_n 1 rfl rfl dX0_copy_46 ?_
  refine zRx.getR (a := 27) (b := 30) fl_0_18 rfl rfl dX0_copy_47 ?_
  refine zRx.iconst ⟨by decide, by decide⟩ dX0_copy_50 ?_
  refine zRx.aload_n 0 rfl rfl dX0_copy_51 ?_
  refine zRx.getR (a := 112) (b := 115) fl_0_18 rfl rfl dX0_copy_52 ?_
  refine zRx.iconst ⟨by decide, by decide⟩ dX0_copy_55 ?_
  refine zRx.bipush ⟨by decide, by decide⟩ rfl dX0_copy_56 ?_
  refine zRx.acopy rfl rfl ac_0_40 (by decide) (Nat.le_of_ble_eq_true rfl) (by decide) (by decide) (by decide) (by decide) (by decide) dX0_copy_58 ?_
  refine zRx.aload_n 1 rfl rfl dX0_copy_61 ?_
  refine zRx.getR (a := 27) (b := 31) fl_0_21 rfl rfl dX0_copy_62 ?_
  refine zRx.iconst ⟨by decide, by decide⟩ dX0_copy_65 ?_
  refine zRx.aload_n 0 rfl rfl dX0_copy_66 ?_
  refine zRx.getR (a := 112) (b := 116) fl_0_21 rfl rfl dX0_copy_67 ?_
  refine zRx.iconst ⟨by decide, by decide⟩ dX0_copy_70 ?_
  refine zRx.bipush ⟨by decide, by decide⟩ rfl dX0_copy_71 ?_
  refine zRx.acopy rfl rfl ac_0_40 (by decide) (Nat.le_of_ble_eq_true rfl) (by decide) (by decide) (by decide) (by decide) (by decide) dX0_copy_73 ?_
  refine zRx.aload_n 1 rfl rfl dX0_copy_76 ?_
  refine zRx.getR (a := 27) (b := 32) fl_0_24 rfl rfl dX0_copy_77 ?_
  refine zRx.iconst ⟨by decide, by decide⟩ dX0_copy_80 ?_
  refine zRx.aload_n 0 rfl rfl dX0_copy_81 ?_
  refine zRx.getR (a := 112) (b := 117) fl_0_24 rfl rfl dX0_copy_82 ?_
  refine zRx.iconst ⟨by decide, by decide⟩ dX0_copy_85 ?_
  refine zRx.bipush ⟨by decide, by decide⟩ rfl dX0_copy_86 ?_
  refine zRx.acopy rfl rfl ac_0_40 (by decide) (Nat.le_of_ble_eq_true rfl) (by decide) (by decide) (by decide) (by decide) (by decide) dX0_copy_88 ?_
  refine zRx.aload_n 1 rfl rfl dX0_copy_91 ?_
  refine zRx.getR (a := 27) (b := 33) fl_0_27 rfl rfl dX0_copy_92 ?_
  refine zRx.iconst ⟨by decide, by decide⟩ dX0_copy_95 ?_
  refine zRx.aload_n 0 rfl rfl dX0_copy_96 ?_
  refine zRx.getR (a := 112) (b := 118) fl_0_27 rfl rfl dX0_copy_97 ?_
  refine zRx.iconst ⟨by decide, by decide⟩ dX0_copy_100 ?_
  refine zRx.bipush ⟨by decide, by decide⟩ rfl dX0_copy_101 ?_
  refine zRx.acopy rfl rfl ac_0_40 (by decide) (Nat.le_of_ble_eq_true rfl) (by decide) (by decide) (by decide) (by decide) (by decide) dX0_copy_103 ?_
  refine zRx.aload_n 1 rfl rfl dX0_copy_106 ?_
  refine zRx.getR (a := 27) (b := 34) fl_0_30 rfl rfl dX0_copy_107 ?_
  refine zRx.iconst ⟨by decide, by decide⟩ dX0_copy_110 ?_
  refine zRx.aload_n 0 rfl rfl dX0_copy_111 ?_
  refine zRx.getR (a := 112) (b := 119) fl_0_30 rfl rfl dX0_copy_112 ?_
  refine zRx.iconst ⟨by decide, by decide⟩ dX0_copy_115 ?_
  refine zRx.bipush ⟨by decide, by decide⟩ rfl dX0_copy_116 ?_
  refine zRx.acopy rfl rfl ac_0_40 (by decide) (Nat.le_of_ble_eq_true rfl) (by decide) (by decide) (by decide) (by decide) (by decide) dX0_copy_118 ?_
  exact zR.ret rfl dX0_copy_121 ⟨rfl, rfl⟩

def F_X0_copy_137_27 (σ : zG)  : zG := zcp (zcp (zcp (zcp (zcp (zcp (zcp (zu (zu σ 137 0 (σ 27 0)) 137 1 (σ 27 1)) 28 138 0 0 60) 29 139 0 0 60) 30 140 0 0 60) 31 141 0 0 60) 32 142 0 0 60) 33 143 0 0 60) 34 144 0 0 60
theorem fr_F_X0_copy_137_27 (σ : zG)  {k : Nat} (h : k ∉ [137, 138, 139, 140, 141, 142, 143, 144]) : (F_X0_copy_137_27 σ ) k = σ k := by
  have ne : ∀ c ∈ [137, 138, 139, 140, 141, 142, 143, 144], k ≠ c := fun c hc e => h (e ▸ hc)
  have nk_zcp_144 : k ∉ [144] := fun hm => h (by first | (revert hm; simp only [List.mem_cons, List.not_mem_nil, or_false]; omega) | (simp at hm))
  have nk_zcp_143 : k ∉ [143] := fun hm => h (by first | (revert hm; simp only [List.mem_cons, List.not_mem_nil, or_false]; omega) | (simp at hm))
  have nk_zcp_142 : k ∉ [142] := fun hm => h (by first | (revert hm; simp only [List.mem_cons, List.not_mem_nil, or_false]; omega) | (simp at hm))
  have nk_zcp_141 : k ∉ [141] := fun hm => h (by first | (revert hm; simp only [List.mem_cons, List.not_mem_nil, or_false]; omega) | (simp at hm))
  have nk_zcp_140 : k ∉ [140] := fun hm => h (by first | (revert hm; simp only [List.mem_cons, List.not_mem_nil, or_false]; omega) | (simp at hm))
  have nk_zcp_139 : k ∉ [139] := fun hm => h (by first | (revert hm; simp only [List.mem_cons, List.not_mem_nil, or_false]; omega) | (simp at hm))
  have nk_zcp_138 : k ∉ [138] := fun hm => h (by first | (revert hm; simp only [List.mem_cons, List.not_mem_nil, or_false]; omega) | (simp at hm))
  unfold F_X0_copy_137_27
  repeat' split
  all_goals first | rfl | simp only [zu_row _ _ _ (ne 137 (by decide)), zu_row _ _ _ (ne 138 (by decide)), zu_row _ _ _ (ne 139 (by decide)), zu_row _ _ _ (ne 140 (by decide)), zu_row _ _ _ (ne 141 (by decide)), zu_row _ _ _ (ne 142 (by decide)), zu_row _ _ _ (ne 143 (by decide)), zu_row _ _ _ (ne 144 (by decide)), fr_zcp (h := nk_zcp_144), fr_zcp (h := nk_zcp_143), fr_zcp (h := nk_zcp_142), fr_zcp (h := nk_zcp_141), fr_zcp (h := nk_zcp_140), fr_zcp (h := nk_zcp_139), fr_zcp (h := nk_zcp_138)]

set_option maxRecDepth 20000 in
theorem does_X0_copy_137_27 (σ : zG)   : zDo SC 1 m_X0_copy [zP 137, zP 27] σ (zEq (none) (F_X0_copy_137_27 σ )) := by
  refine zDo.intro mk_X0_copy (Nat.le_of_ble_eq_true rfl) ?_
  refine zRx.aload_n 0 rfl rfl dX0_copy_0 ?_
  refine zRx.aload_n 1 rfl rfl dX0_copy_1 ?_
  refine zRx.getIv (a := 27) (ji := 0) (v := σ 27 0) rfl fl_0_33 rfl rfl rfl dX0_copy_2 ?_
  refine zRx.putI (a := 137) (ji := 0) pl_0_33 rfl rfl rfl dX0_copy_5 ?_
  refine zRx.aload_n 0 rfl rfl dX0_copy_8 ?_
  refine zRx.aload_n 1 rfl rfl dX0_copy_9 ?_
  refine zRx.getIv (a := 27) (ji := 1) (v := σ 27 1) (zu_ne _ _ _ _ (by decide)) fl_0_37 rfl rfl rfl dX0_copy_10 ?_
  refine zRx.putI (a := 137) (ji := 1) pl_0_37 rfl rfl rfl dX0_copy_13 ?_
  refine zRx.aload_n 1 rfl rfl dX0_copy_16 ?_
  refine zRx.getR (a := 27) (b := 28) fl_0_9 rfl rfl dX0_copy_17 ?_
  refine zRx.iconst ⟨by decide, by decide⟩ dX0_copy_20 ?_
  refine zRx.aload_n 0 rfl rfl dX0_copy_21 ?_
  refine zRx.getR (a := 137) (b := 138) fl_0_9 rfl rfl dX0_copy_22 ?_
  refine zRx.iconst ⟨by decide, by decide⟩ dX0_copy_25 ?_
  refine zRx.bipush ⟨by decide, by decide⟩ rfl dX0_copy_26 ?_
  refine zRx.acopy rfl rfl ac_0_40 (by decide) (Nat.le_of_ble_eq_true rfl) (by decide) (by decide) (by decide) (by decide) (by decide) dX0_copy_28 ?_
  refine zRx.aload_n 1 rfl rfl dX0_copy_31 ?_
  refine zRx.getR (a := 27) (b := 29) fl_0_15 rfl rfl dX0_copy_32 ?_
  refine zRx.iconst ⟨by decide, by decide⟩ dX0_copy_35 ?_
  refine zRx.aload_n 0 rfl rfl dX0_copy_36 ?_
  refine zRx.getR (a := 137) (b := 139) fl_0_15 rfl rfl dX0_copy_37 ?_
  refine zRx.iconst ⟨by decide, by decide⟩ dX0_copy_40 ?_
  refine zRx.bipush ⟨by decide, by decide⟩ rfl dX0_copy_41 ?_
  refine zRx.acopy rfl rfl ac_0_40 (by decide) (Nat.le_of_ble_eq_true rfl) (by decide) (by decide) (by decide) (by decide) (by decide) dX0_copy_43 ?_
  refine zRx.aload_n 1 rfl rfl dX0_copy_46 ?_
  refine zRx.getR (a := 27) (b := 30) fl_0_18 rfl rfl dX0_copy_47 ?_
  refine zRx.iconst ⟨by decide, by decide⟩ dX0_copy_50 ?_
  refine zRx.aload_n 0 rfl rfl dX0_copy_51 ?_
  refine zRx.getR (a := 137) (b := 140) fl_0_18 rfl rfl dX0_copy_52 ?_
  refine zRx.iconst ⟨by decide, by decide⟩ dX0_copy_55 ?_
  refine zRx.bipush ⟨by decide, by decide⟩ rfl dX0_copy_56 ?_
  refine zRx.acopy rfl rfl ac_0_40 (by decide) (Nat.le_of_ble_eq_true rfl) (by decide) (by decide) (by decide) (by decide) (by decide) dX0_copy_58 ?_
  refine zRx.aload_n 1 rfl rfl dX0_copy_61 ?_
  refine zRx.getR (a := 27) (b := 31) fl_0_21 rfl rfl dX0_copy_62 ?_
  refine zRx.iconst ⟨by decide, by decide⟩ dX0_copy_65 ?_
  refine zRx.aload_n 0 rfl rfl dX0_copy_66 ?_
  refine zRx.getR (a := 137) (b := 141) fl_0_21 rfl rfl dX0_copy_67 ?_
  refine zRx.iconst ⟨by decide, by decide⟩ dX0_copy_70 ?_
  refine zRx.bipush ⟨by decide, by decide⟩ rfl dX0_copy_71 ?_
  refine zRx.acopy rfl rfl ac_0_40 (by decide) (Nat.le_of_ble_eq_true rfl) (by decide) (by decide) (by decide) (by decide) (by decide) dX0_copy_73 ?_
  refine zRx.aload_n 1 rfl rfl dX0_copy_76 ?_
  refine zRx.getR (a := 27) (b := 32) fl_0_24 rfl rfl dX0_copy_77 ?_
  refine zRx.iconst ⟨by decide, by decide⟩ dX0_copy_80 ?_
  refine zRx.aload_n 0 rfl rfl dX0_copy_81 ?_
  refine zRx.getR (a := 137) (b := 142) fl_0_24 rfl rfl dX0_copy_82 ?_
  refine zRx.iconst ⟨by decide, by decide⟩ dX0_copy_85 ?_
  refine zRx.bipush ⟨by decide, by decide⟩ rfl dX0_copy_86 ?_
  refine zRx.acopy rfl rfl ac_0_40 (by decide) (Nat.le_of_ble_eq_true rfl) (by decide) (by decide) (by decide) (by decide) (by decide) dX0_copy_88 ?_
  refine zRx.aload_n 1 rfl rfl dX0_copy_91 ?_
  refine zRx.getR (a := 27) (b := 33) fl_0_27 rfl rfl dX0_copy_92 ?_
  refine zRx.iconst ⟨by decide, by decide⟩ dX0_copy_95 ?_
  refine zRx.aload_n 0 rfl rfl dX0_copy_96 ?_
  refine zRx.getR (a := 137) (b := 143) fl_0_27 rfl rfl dX0_copy_97 ?_
  refine zRx.iconst ⟨by decide, by decide⟩ dX0_copy_100 ?_
  refine zRx.bipush ⟨by decide, by decide⟩ rfl dX0_copy_101 ?_
  refine zRx.acopy rfl rfl ac_0_40 (by decide) (Nat.le_of_ble_eq_true rfl) (by decide) (by decide) (by decide) (by decide) (by decide) dX0_copy_103 ?_
  refine zRx.aload_n 1 rfl rfl dX0_copy_106 ?_
  refine zRx.getR (a := 27) (b := 34) fl_0_30 rfl rfl dX0_copy_107 ?_
  refine zRx.iconst ⟨by decide, by decide⟩ dX0_copy_110 ?_
  refine zRx.aload_n 0 rfl rfl dX0_copy_111 ?_
  refine zRx.getR (a := 137) (b := 144) fl_0_30 rfl rfl dX0_copy_112 ?_
  refine zRx.iconst ⟨by decide, by decide⟩ dX0_copy_115 ?_
  refine zRx.bipush ⟨by decide, by decide⟩ rfl dX0_copy_116 ?_
  refine zRx.acopy rfl rfl ac_0_40 (by decide) (Nat.le_of_ble_eq_true rfl) (by decide) (by decide) (by decide) (by decide) (by decide) dX0_copy_118 ?_
  exact zR.ret rfl dX0_copy_121 ⟨rfl, rfl⟩

def F_X6_copy_43_48 (σ : zG)  : zG := zcp (zcp (zcp (zu (zu σ 43 0 (σ 48 0)) 43 1 (σ 48 1)) 49 44 0 0 40) 50 45 0 0 40) 51 46 0 0 40
theorem fr_F_X6_copy_43_48 (σ : zG)  {k : Nat} (h : k ∉ [43, 44, 45, 46]) : (F_X6_copy_43_48 σ ) k = σ k := by
  have ne : ∀ c ∈ [43, 44, 45, 46], k ≠ c := fun c hc e => h (e ▸ hc)
  have nk_zcp_46 : k ∉ [46] := fun hm => h (by first | (revert hm; simp only [List.mem_cons, List.not_mem_nil, or_false]; omega) | (simp at hm))
  have nk_zcp_45 : k ∉ [45] := fun hm => h (by first | (revert hm; simp only [List.mem_cons, List.not_mem_nil, or_false]; omega) | (simp at hm))
  have nk_zcp_44 : k ∉ [44] := fun hm => h (by first | (revert hm; simp only [List.mem_cons, List.not_mem_nil, or_false]; omega) | (simp at hm))
  unfold F_X6_copy_43_48
  repeat' split
  all_goals first | rfl | simp only [zu_row _ _ _ (ne 43 (by decide)), zu_row _ _ _ (ne 44 (by decide)), zu_row _ _ _ (ne 45 (by decide)), zu_row _ _ _ (ne 46 (by decide)), fr_zcp (h := nk_zcp_46), fr_zcp (h := nk_zcp_45), fr_zcp (h := nk_zcp_44)]

set_option maxRecDepth 20000 in
theorem does_X6_copy_43_48 (σ : zG)   : zDo SC 1 m_X6_copy [zP 43, zP 48] σ (zEq (none) (F_X6_copy_43_48 σ )) := by
  refine zDo.intro mk_X6_copy (Nat.le_of_ble_eq_true rfl) ?_
  refine zRx.aload_n 0 rfl rfl dX6_copy_0 ?_
  refine zRx.aload_n 1 rfl rfl dX6_copy_1 ?_
  refine zRx.getIv (a := 48) (ji := 0) (v := σ 48 0) rfl fl_6_24 rfl rfl rfl dX6_copy_2 ?_
  refine zRx.putI (a := 43) (ji := 0) pl_6_24 rfl rfl rfl dX6_copy_5 ?_
  refine zRx.aload_n 0 rfl rfl dX6_copy_8 ?_
  refine zRx.aload_n 1 rfl rfl dX6_copy_9 ?_
  refine zRx.getIv (a := 48) (ji := 1) (v := σ 48 1) (zu_ne _ _ _ _ (by decide)) fl_6_28 rfl rfl rfl dX6_copy_10 ?_
  refine zRx.putI (a := 43) (ji := 1) pl_6_28 rfl rfl rfl dX6_copy_13 ?_
  refine zRx.aload_n 1 rfl rfl dX6_copy_16 ?_
  refine zRx.getR (a := 48) (b := 49) fl_6_11 rfl rfl dX6_copy_17 ?_
  refine zRx.iconst ⟨by decide, by decide⟩ dX6_copy_20 ?_
  refine zRx.aload_n 0 rfl rfl dX6_copy_21 ?_
  refine zRx.getR (a := 43) (b := 44) fl_6_11 rfl rfl dX6_copy_22 ?_
  refine zRx.iconst ⟨by decide, by decide⟩ dX6_copy_25 ?_
  refine zRx.bipush ⟨by decide, by decide⟩ rfl dX6_copy_26 ?_
  refine zRx.acopy rfl rfl ac_6_31 (by decide) (Nat.le_of_ble_eq_true rfl) (by decide) (by decide) (by decide) (by decide) (by decide) dX6_copy_28 ?_
  refine zRx.aload_n 1 rfl rfl dX6_copy_31 ?_
  refine zRx.getR (a := 48) (b := 50) fl_6_15 rfl rfl dX6_copy_32 ?_
  refine zRx.iconst ⟨by decide, by decide⟩ dX6_copy_35 ?_
  refine zRx.aload_n 0 rfl rfl dX6_copy_36 ?_
  refine zRx.getR (a := 43) (b := 45) fl_6_15 rfl rfl dX6_copy_37 ?_
  refine zRx.iconst ⟨by decide, by decide⟩ dX6_copy_40 ?_
  refine zRx.bipush ⟨by decide, by decide⟩ rfl dX6_copy_41 ?_
  refine zRx.acopy rfl rfl ac_6_31 (by decide) (Nat.le_of_ble_eq_true rfl) (by decide) (by decide) (by decide) (by decide) (by decide) dX6_copy_43 ?_
  refine zRx.aload_n 1 rfl rfl dX6_copy_46 ?_
  refine zRx.getR (a := 48) (b := 51) fl_6_18 rfl rfl dX6_copy_47 ?_
  refine zRx.iconst ⟨by decide, by decide⟩ dX6_copy_50 ?_
  refine zRx.aload_n 0 rfl rfl dX6_copy_51 ?_
  refine zRx.getR (a := 43) (b := 46) fl_6_18 rfl rfl dX6_copy_52 ?_
  refine zRx.iconst ⟨by decide, by decide⟩ dX6_copy_55 ?_
  refine zRx.bipush ⟨by decide, by decide⟩ rfl dX6_copy_56 ?_
  refine zRx.acopy rfl rfl ac_6_31 (by decide) (Nat.le_of_ble_eq_true rfl) (by decide) (by decide) (by decide) (by decide) (by decide) dX6_copy_58 ?_
  exact zR.ret rfl dX6_copy_61 ⟨rfl, rfl⟩

def F_X6_copy_43_120 (σ : zG)  : zG := zcp (zcp (zcp (zu (zu σ 43 0 (σ 120 0)) 43 1 (σ 120 1)) 121 44 0 0 40) 122 45 0 0 40) 123 46 0 0 40
theorem fr_F_X6_copy_43_120 (σ : zG)  {k : Nat} (h : k ∉ [43, 44, 45, 46]) : (F_X6_copy_43_120 σ ) k = σ k := by
  have ne : ∀ c ∈ [43, 44, 45, 46], k ≠ c := fun c hc e => h (e ▸ hc)
  have nk_zcp_46 : k ∉ [46] := fun hm => h (by first | (revert hm; simp only [List.mem_cons, List.not_mem_nil, or_false]; omega) | (simp at hm))
  have nk_zcp_45 : k ∉ [45] := fun hm => h (by first | (revert hm; simp only [List.mem_cons, List.not_mem_nil, or_false]; omega) | (simp at hm))
  have nk_zcp_44 : k ∉ [44] := fun hm => h (by first | (revert hm; simp only [List.mem_cons, List.not_mem_nil, or_false]; omega) | (simp at hm))
  unfold F_X6_copy_43_120
  repeat' split
  all_goals first | rfl | simp only [zu_row _ _ _ (ne 43 (by decide)), zu_row _ _ _ (ne 44 (by decide)), zu_row _ _ _ (ne 45 (by decide)), zu_row _ _ _ (ne 46 (by decide)), fr_zcp (h := nk_zcp_46), fr_zcp (h := nk_zcp_45), fr_zcp (h := nk_zcp_44)]

set_option maxRecDepth 20000 in
theorem does_X6_copy_43_120 (σ : zG)   : zDo SC 1 m_X6_copy [zP 43, zP 120] σ (zEq (none) (F_X6_copy_43_120 σ )) := by
  refine zDo.intro mk_X6_copy (Nat.le_of_ble_eq_true rfl) ?_
  refine zRx.aload_n 0 rfl rfl dX6_copy_0 ?_
  refine zRx.aload_n 1 rfl rfl dX6_copy_1 ?_
  refine zRx.getIv (a := 120) (ji := 0) (v := σ 120 0) rfl fl_6_24 rfl rfl rfl dX6_copy_2 ?_
  refine zRx.putI (a := 43) (ji := 0) pl_6_24 rfl rfl rfl dX6_copy_5 ?_
  refine zRx.aload_n 0 rfl rfl dX6_copy_8 ?_
  refine zRx.aload_n 1 rfl rfl dX6_copy_9 ?_
  refine zRx.getIv (a := 120) (ji := 1) (v := σ 120 1) (zu_ne _ _ _ _ (by decide)) fl_6_28 rfl rfl rfl dX6_copy_10 ?_
  refine zRx.putI (a := 43) (ji := 1) pl_6_28 rfl rfl rfl dX6_copy_13 ?_
  refine zRx.aload_n 1 rfl rfl dX6_copy_16 ?_
  refine zRx.getR (a := 120) (b := 121) fl_6_11 rfl rfl dX6_copy_17 ?_
  refine zRx.iconst ⟨by decide, by decide⟩ dX6_copy_20 ?_
  refine zRx.aload_n 0 rfl rfl dX6_copy_21 ?_
  refine zRx.getR (a := 43) (b := 44) fl_6_11 rfl rfl dX6_copy_22 ?_
  refine zRx.iconst ⟨by decide, by decide⟩ dX6_copy_25 ?_
  refine zRx.bipush ⟨by decide, by decide⟩ rfl dX6_copy_26 ?_
  refine zRx.acopy rfl rfl ac_6_31 (by decide) (Nat.le_of_ble_eq_true rfl) (by decide) (by decide) (by decide) (by decide) (by decide) dX6_copy_28 ?_
  refine zRx.aload_n 1 rfl rfl dX6_copy_31 ?_
  refine zRx.getR (a := 120) (b := 122) fl_6_15 rfl rfl dX6_copy_32 ?_
  refine zRx.iconst ⟨by decide, by decide⟩ dX6_copy_35 ?_
  refine zRx.aload_n 0 rfl rfl dX6_copy_36 ?_
  refine zRx.getR (a := 43) (b := 45) fl_6_15 rfl rfl dX6_copy_37 ?_
  refine zRx.iconst ⟨by decide, by decide⟩ dX6_copy_40 ?_
  refine zRx.bipush ⟨by decide, by decide⟩ rfl dX6_copy_41 ?_
  refine zRx.acopy rfl rfl ac_6_31 (by decide) (Nat.le_of_ble_eq_true rfl) (by decide) (by decide) (by decide) (by decide) (by decide) dX6_copy_43 ?_
  refine zRx.aload_n 1 rfl rfl dX6_copy_46 ?_
  refine zRx.getR (a := 120) (b := 123) fl_6_18 rfl rfl dX6_copy_47 ?_
  refine zRx.iconst ⟨by decide, by decide⟩ dX6_copy_50 ?_
  refine zRx.aload_n 0 rfl rfl dX6_copy_51 ?_
  refine zRx.getR (a := 43) (b := 46) fl_6_18 rfl rfl dX6_copy_52 ?_
  refine zRx.iconst ⟨by decide, by decide⟩ dX6_copy_55 ?_
  refine zRx.bipush ⟨by decide, by decide⟩ rfl dX6_copy_56 ?_
  refine zRx.acopy rfl rfl ac_6_31 (by decide) (Nat.le_of_ble_eq_true rfl) (by decide) (by decide) (by decide) (by decide) (by decide) dX6_copy_58 ?_
  exact zR.ret rfl dX6_copy_61 ⟨rfl, rfl⟩

def F_X6_copy_43_145 (σ : zG)  : zG := zcp (zcp (zcp (zu (zu σ 43 0 (σ 145 0)) 43 1 (σ 145 1)) 146 44 0 0 40) 147 45 0 0 40) 148 46 0 0 40
theorem fr_F_X6_copy_43_145 (σ : zG)  {k : Nat} (h : k ∉ [43, 44, 45, 46]) : (F_X6_copy_43_145 σ ) k = σ k := by
  have ne : ∀ c ∈ [43, 44, 45, 46], k ≠ c := fun c hc e => h (e ▸ hc)
  have nk_zcp_46 : k ∉ [46] := fun hm => h (by first | (revert hm; simp only [List.mem_cons, List.not_mem_nil, or_false]; omega) | (simp at hm))
  have nk_zcp_45 : k ∉ [45] := fun hm => h (by first | (revert hm; simp only [List.mem_cons, List.not_mem_nil, or_false]; omega) | (simp at hm))
  have nk_zcp_44 : k ∉ [44] := fun hm => h (by first | (revert hm; simp only [List.mem_cons, List.not_mem_nil, or_false]; omega) | (simp at hm))
  unfold F_X6_copy_43_145
  repeat' split
  all_goals first | rfl | simp only [zu_row _ _ _ (ne 43 (by decide)), zu_row _ _ _ (ne 44 (by decide)), zu_row _ _ _ (ne 45 (by decide)), zu_row _ _ _ (ne 46 (by decide)), fr_zcp (h := nk_zcp_46), fr_zcp (h := nk_zcp_45), fr_zcp (h := nk_zcp_44)]

set_option maxRecDepth 20000 in
theorem does_X6_copy_43_145 (σ : zG)   : zDo SC 1 m_X6_copy [zP 43, zP 145] σ (zEq (none) (F_X6_copy_43_145 σ )) := by
  refine zDo.intro mk_X6_copy (Nat.le_of_ble_eq_true rfl) ?_
  refine zRx.aload_n 0 rfl rfl dX6_copy_0 ?_
  refine zRx.aload_n 1 rfl rfl dX6_copy_1 ?_
  refine zRx.getIv (a := 145) (ji := 0) (v := σ 145 0) rfl fl_6_24 rfl rfl rfl dX6_copy_2 ?_
  refine zRx.putI (a := 43) (ji := 0) pl_6_24 rfl rfl rfl dX6_copy_5 ?_
  refine zRx.aload_n 0 rfl rfl dX6_copy_8 ?_
  refine zRx.aload_n 1 rfl rfl dX6_copy_9 ?_
  refine zRx.getIv (a := 145) (ji := 1) (v := σ 145 1) (zu_ne _ _ _ _ (by decide)) fl_6_28 rfl rfl rfl dX6_copy_10 ?_
  refine zRx.putI (a := 43) (ji := 1) pl_6_28 rfl rfl rfl dX6_copy_13 ?_
  refine zRx.aload_n 1 rfl rfl dX6_copy_16 ?_
  refine zRx.getR (a := 145) (b := 146) fl_6_11 rfl rfl dX6_copy_17 ?_
  refine zRx.iconst ⟨by decide, by decide⟩ dX6_copy_20 ?_
  refine zRx.aload_n 0 rfl rfl dX6_copy_21 ?_
  refine zRx.getR (a := 43) (b := 44) fl_6_11 rfl rfl dX6_copy_22 ?_
  refine zRx.iconst ⟨by decide, by decide⟩ dX6_copy_25 ?_
  refine zRx.bipush ⟨by decide, by decide⟩ rfl dX6_copy_26 ?_
  refine zRx.acopy rfl rfl ac_6_31 (by decide) (Nat.le_of_ble_eq_true rfl) (by decide) (by decide) (by decide) (by decide) (by decide) dX6_copy_28 ?_
  refine zRx.aload_n 1 rfl rfl dX6_copy_31 ?_
  refine zRx.getR (a := 145) (b := 147) fl_6_15 rfl rfl dX6_copy_32 ?_
  refine zRx.iconst ⟨by decide, by decide⟩ dX6_copy_35 ?_
  refine zRx.aload_n 0 rfl rfl dX6_copy_36 ?_
  refine zRx.getR (a := 43) (b := 45) fl_6_15 rfl rfl dX6_copy_37 ?_
  refine zRx.iconst ⟨by decide, by decide⟩ dX6_copy_40 ?_
  refine zRx.bipush ⟨by decide, by decide⟩ rfl dX6_copy_41 ?_
  refine zRx.acopy rfl rfl ac_6_31 (by decide) (Nat.le_of_ble_eq_true rfl) (by decide) (by decide) (by decide) (by decide) (by decide) dX6_copy_43 ?_
  refine zRx.aload_n 1 rfl rfl dX6_copy_46 ?_
  refine zRx.getR (a := 145) (b := 148) fl_6_18 rfl rfl dX6_copy_47 ?_
  refine zRx.iconst ⟨by decide, by decide⟩ dX6_copy_50 ?_
  refine zRx.aload_n 0 rfl rfl dX6_copy_51 ?_
  refine zRx.getR (a := 43) (b := 46) fl_6_18 rfl rfl dX6_copy_52 ?_
  refine zRx.iconst ⟨by decide, by decide⟩ dX6_copy_55 ?_
  refine zRx.bipush ⟨by decide, by decide⟩ rfl dX6_copy_56 ?_
  refine zRx.acopy rfl rfl ac_6_31 (by decide) (Nat.le_of_ble_eq_true rfl) (by decide) (by decide) (by decide) (by decide) (by decide) dX6_copy_58 ?_
  exact zR.ret rfl dX6_copy_61 ⟨rfl, rfl⟩

def F_X6_copy_120_43 (σ : zG)  : zG := zcp (zcp (zcp (zu (zu σ 120 0 (σ 43 0)) 120 1 (σ 43 1)) 44 121 0 0 40) 45 122 0 0 40) 46 123 0 0 40
theorem fr_F_X6_copy_120_43 (σ : zG)  {k : Nat} (h : k ∉ [120, 121, 122, 123]) : (F_X6_copy_120_43 σ ) k = σ k := by
  have ne : ∀ c ∈ [120, 121, 122, 123], k ≠ c := fun c hc e => h (e ▸ hc)
  have nk_zcp_123 : k ∉ [123] := fun hm => h (by first | (revert hm; simp only [List.mem_cons, List.not_mem_nil, or_false]; omega) | (simp at hm))
  have nk_zcp_122 : k ∉ [122] := fun hm => h (by first | (revert hm; simp only [List.mem_cons, List.not_mem_nil, or_false]; omega) | (simp at hm))
  have nk_zcp_121 : k ∉ [121] := fun hm => h (by first | (revert hm; simp only [List.mem_cons, List.not_mem_nil, or_false]; omega) | (simp at hm))
  unfold F_X6_copy_120_43
  repeat' split
  all_goals first | rfl | simp only [zu_row _ _ _ (ne 120 (by decide)), zu_row _ _ _ (ne 121 (by decide)), zu_row _ _ _ (ne 122 (by decide)), zu_row _ _ _ (ne 123 (by decide)), fr_zcp (h := nk_zcp_123), fr_zcp (h := nk_zcp_122), fr_zcp (h := nk_zcp_121)]

set_option maxRecDepth 20000 in
theorem does_X6_copy_120_43 (σ : zG)   : zDo SC 1 m_X6_copy [zP 120, zP 43] σ (zEq (none) (F_X6_copy_120_43 σ )) := by
  refine zDo.intro mk_X6_copy (Nat.le_of_ble_eq_true rfl) ?_
  refine zRx.aload_n 0 rfl rfl dX6_copy_0 ?_
  refine zRx.aload_n 1 rfl rfl dX6_copy_1 ?_
  refine zRx.getIv (a := 43) (ji := 0) (v := σ 43 0) rfl fl_6_24 rfl rfl rfl dX6_copy_2 ?_
  refine zRx.putI (a := 120) (ji := 0) pl_6_24 rfl rfl rfl dX6_copy_5 ?_
  refine zRx.aload_n 0 rfl rfl dX6_copy_8 ?_
  refine zRx.aload_n 1 rfl rfl dX6_copy_9 ?_
  refine zRx.getIv (a := 43) (ji := 1) (v := σ 43 1) (zu_ne _ _ _ _ (by decide)) fl_6_28 rfl rfl rfl dX6_copy_10 ?_
  refine zRx.putI (a := 120) (ji := 1) pl_6_28 rfl rfl rfl dX6_copy_13 ?_
  refine zRx.aload_n 1 rfl rfl dX6_copy_16 ?_
  refine zRx.getR (a := 43) (b := 44) fl_6_11 rfl rfl dX6_copy_17 ?_
  refine zRx.iconst ⟨by decide, by decide⟩ dX6_copy_20 ?_
  refine zRx.aload_n 0 rfl rfl dX6_copy_21 ?_
  refine zRx.getR (a := 120) (b := 121) fl_6_11 rfl rfl dX6_copy_22 ?_
  refine zRx.iconst ⟨by decide, by decide⟩ dX6_copy_25 ?_
  refine zRx.bipush ⟨by decide, by decide⟩ rfl dX6_copy_26 ?_
  refine zRx.acopy rfl rfl ac_6_31 (by decide) (Nat.le_of_ble_eq_true rfl) (by decide) (by decide) (by decide) (by decide) (by decide) dX6_copy_28 ?_
  refine zRx.aload_n 1 rfl rfl dX6_copy_31 ?_
  refine zRx.getR (a := 43) (b := 45) fl_6_15 rfl rfl dX6_copy_32 ?_
  refine zRx.iconst ⟨by decide, by decide⟩ dX6_copy_35 ?_
  refine zRx.aload_n 0 rfl rfl dX6_copy_36 ?_
  refine zRx.getR (a := 120) (b := 122) fl_6_15 rfl rfl dX6_copy_37 ?_
  refine zRx.iconst ⟨by decide, by decide⟩ dX6_copy_40 ?_
  refine zRx.bipush ⟨by decide, by decide⟩ rfl dX6_copy_41 ?_
  refine zRx.acopy rfl rfl ac_6_31 (by decide) (Nat.le_of_ble_eq_true rfl) (by decide) (by decide) (by decide) (by decide) (by decide) dX6_copy_43 ?_
  refine zRx.aload_n 1 rfl rfl dX6_copy_46 ?_
  refine zRx.getR (a := 43) (b := 46) fl_6_18 rfl rfl dX6_copy_47 ?_
  refine zRx.iconst ⟨by decide, by decide⟩ dX6_copy_50 ?_
  refine zRx.aload_n 0 rfl rfl dX6_copy_51 ?_
  refine zRx.getR (a := 120) (b := 123) fl_6_18 rfl rfl dX6_copy_52 ?_
  refine zRx.iconst ⟨by decide, by decide⟩ dX6_copy_55 ?_
  refine zRx.bipush ⟨by decide, by decide⟩ rfl dX6_copy_56 ?_
  refine zRx.acopy rfl rfl ac_6_31 (by decide) (Nat.le_of_ble_eq_true rfl) (by decide) (by decide) (by decide) (by decide) (by decide) dX6_copy_58 ?_
  exact zR.ret rfl dX6_copy_61 ⟨rfl, rfl⟩

def F_X6_copy_145_43 (σ : zG)  : zG := zcp (zcp (zcp (zu (zu σ 145 0 (σ 43 0)) 145 1 (σ 43 1)) 44 146 0 0 40) 45 147 0 0 40) 46 148 0 0 40
theorem fr_F_X6_copy_145_43 (σ : zG)  {k : Nat} (h : k ∉ [145, 146, 147, 148]) : (F_X6_copy_145_43 σ ) k = σ k := by
  have ne : ∀ c ∈ [145, 146, 147, 148], k ≠ c := fun c hc e => h (e ▸ hc)
  have nk_zcp_148 : k ∉ [148] := fun hm => h (by first | (revert hm; simp only [List.mem_cons, List.not_mem_nil, or_false]; omega) | (simp at hm))
  have nk_zcp_147 : k ∉ [147] := fun hm => h (by first | (revert hm; simp only [List.mem_cons, List.not_mem_nil, or_false]; omega) | (simp at hm))
  have nk_zcp_146 : k ∉ [146] := fun hm => h (by first | (revert hm; simp only [List.mem_cons, List.not_mem_nil, or_false]; omega) | (simp at hm))
  unfold F_X6_copy_145_43
  repeat' split
  all_goals first | rfl | simp only [zu_row _ _ _ (ne 145 (by decide)), zu_row _ _ _ (ne 146 (by decide)), zu_row _ _ _ (ne 147 (by decide)), zu_row _ _ _ (ne 148 (by decide)), fr_zcp (h := nk_zcp_148), fr_zcp (h := nk_zcp_147), fr_zcp (h := nk_zcp_146)]

set_option maxRecDepth 20000 in
theorem does_X6_copy_145_43 (σ : zG)   : zDo SC 1 m_X6_copy [zP 145, zP 43] σ (zEq (none) (F_X6_copy_145_43 σ )) := by
  refine zDo.intro mk_X6_copy (Nat.le_of_ble_eq_true rfl) ?_
  refine zRx.aload_n 0 rfl rfl dX6_copy_0 ?_
  refine zRx.aload_n 1 rfl rfl dX6_copy_1 ?_
  refine zRx.getIv (a := 43) (ji := 0) (v := σ 43 0) rfl fl_6_24 rfl rfl rfl dX6_copy_2 ?_
  refine zRx.putI (a := 145) (ji := 0) pl_6_24 rfl rfl rfl dX6_copy_5 ?_
  refine zRx.aload_n 0 rfl rfl dX6_copy_8 ?_
  refine zRx.aload_n 1 rfl rfl dX6_copy_9 ?_
  refine zRx.getIv (a := 43) (ji := 1) (v := σ 43 1) (zu_ne _ _ _ _ (by decide)) fl_6_28 rfl rfl rfl dX6_copy_10 ?_
  refine zRx.putI (a := 145) (ji := 1) pl_6_28 rfl rfl rfl dX6_copy_13 ?_
  refine zRx.aload_n 1 rfl rfl dX6_copy_16 ?_
  refine zRx.getR (a := 43) (b := 44) fl_6_11 rfl rfl dX6_copy_17 ?_
  refine zRx.iconst ⟨by decide, by decide⟩ dX6_copy_20 ?_
  refine zRx.aload_n 0 rfl rfl dX6_copy_21 ?_
  refine zRx.getR (a := 145) (b := 146) fl_6_11 rfl rfl dX6_copy_22 ?_
  refine zRx.iconst ⟨by decide, by decide⟩ dX6_copy_25 ?_
  refine zRx.bipush ⟨by decide, by decide⟩ rfl dX6_copy_26 ?_
  refine zRx.acopy rfl rfl ac_6_31 (by decide) (Nat.le_of_ble_eq_true rfl) (by decide) (by decide) (by decide) (by decide) (by decide) dX6_copy_28 ?_
  refine zRx.aload_n 1 rfl rfl dX6_copy_31 ?_
  refine zRx.getR (a := 43) (b := 45) fl_6_15 rfl rfl dX6_copy_32 ?_
  refine zRx.iconst ⟨by decide, by decide⟩ dX6_copy_35 ?_
  refine zRx.aload_n 0 rfl rfl dX6_copy_36 ?_
  refine zRx.getR (a := 145) (b := 147) fl_6_15 rfl rfl dX6_copy_37 ?_
  refine zRx.iconst ⟨by decide, by decide⟩ dX6_copy_40 ?_
  refine zRx.bipush ⟨by decide, by decide⟩ rfl dX6_copy_41 ?_
  refine zRx.acopy rfl rfl ac_6_31 (by decide) (Nat.le_of_ble_eq_true rfl) (by decide) (by decide) (by decide) (by decide) (by decide) dX6_copy_43 ?_
  refine zRx.aload_n 1 rfl rfl dX6_copy_46 ?_
  refine zRx.getR (a := 43) (b := 46) fl_6_18 rfl rfl dX6_copy_47 ?_
  refine zRx.iconst ⟨by decide, by decide⟩ dX6_copy_50 ?_
  refine zRx.aload_n 0 rfl rfl dX6_copy_51 ?_
  refine zRx.getR (a := 145) (b := 148) fl_6_18 rfl rfl dX6_copy_52 ?_
  refine zRx.iconst ⟨by decide, by decide⟩ dX6_copy_55 ?_
  refine zRx.bipush ⟨by decide, by decide⟩ rfl dX6_copy_56 ?_
  refine zRx.acopy rfl rfl ac_6_31 (by decide) (Nat.le_of_ble_eq_true rfl) (by decide) (by decide) (by decide) (by decide) (by decide) dX6_copy_58 ?_
  exact zR.ret rfl dX6_copy_61 ⟨rfl, rfl⟩

def F_X9_clear (σ : zG)  : zG := zcs (zfl (zfl (zu (zu (zu (zu σ 16 0 0) 16 1 0) 16 2 0) 16 3 0) 18 8 0) 25 96 (-1)) 0 26 5
theorem fr_F_X9_clear (σ : zG)  {k : Nat} (h : k ∉ [16, 18, 25, 26]) : (F_X9_clear σ ) k = σ k := by
  have ne : ∀ c ∈ [16, 18, 25, 26], k ≠ c := fun c hc e => h (e ▸ hc)
  have nk_zcs_26 : k ∉ [26] := fun hm => h (by first | (revert hm; simp only [List.mem_cons, List.not_mem_nil, or_false]; omega) | (simp at hm))
  have nk_zfl_25 : k ∉ [25] := fun hm => h (by first | (revert hm; simp only [List.mem_cons, List.not_mem_nil, or_false]; omega) | (simp at hm))
  have nk_zfl_18 : k ∉ [18] := fun hm => h (by first | (revert hm; simp only [List.mem_cons, List.not_mem_nil, or_false]; omega) | (simp at hm))
  unfold F_X9_clear
  repeat' split
  all_goals first | rfl | simp only [zu_row _ _ _ (ne 16 (by decide)), zu_row _ _ _ (ne 18 (by decide)), zu_row _ _ _ (ne 25 (by decide)), zu_row _ _ _ (ne 26 (by decide)), fr_zcs (h := nk_zcs_26), fr_zfl (h := nk_zfl_25), fr_zfl (h := nk_zfl_18)]

set_option maxRecDepth 20000 in
theorem does_X9_clear (σ : zG)   : zDo SC 1 m_X9_clear [zP 16] σ (zEq (none) (F_X9_clear σ )) := by
  refine zDo.intro mk_X9_clear (Nat.le_of_ble_eq_true rfl) ?_
  refine zRx.aload_n 0 rfl rfl dX9_clear_0 ?_
  refine zRx.iconst ⟨by decide, by decide⟩ dX9_clear_1 ?_
  refine zRx.putI (a := 16) (ji := 0) pl_9_57 rfl rfl rfl dX9_clear_2 ?_
  refine zRx.aload_n 0 rfl rfl dX9_clear_5 ?_
  refine zRx.iconst ⟨by decide, by decide⟩ dX9_clear_6 ?_
  refine zRx.putI (a := 16) (ji := 1) pl_9_61 rfl rfl rfl dX9_clear_7 ?_
  refine zRx.aload_n 0 rfl rfl dX9_clear_10 ?_
  refine zRx.iconst ⟨by decide, by decide⟩ dX9_clear_11 ?_
  refine zRx.putI (a := 16) (ji := 2) pl_9_64 rfl rfl rfl dX9_clear_12 ?_
  refine zRx.aload_n 0 rfl rfl dX9_clear_15 ?_
  refine zRx.iconst ⟨by decide, by decide⟩ dX9_clear_16 ?_
  refine zRx.putI (a := 16) (ji := 3) pl_9_67 rfl rfl rfl dX9_clear_17 ?_
  refine zRx.aload_n 0 rfl rfl dX9_clear_20 ?_
  refine zRx.getR (a := 16) (b := 18) fl_9_15 rfl rfl dX9_clear_21 ?_
  refine zRx.iconst ⟨by decide, by decide⟩ dX9_clear_24 ?_
  refine zRx.cSv (M := m_J7_fill_53178) (av := [zP 18, .inl 0]) cs_9_42 mk_J7_fill_53178 (by decide) rfl (Nat.le_of_ble_eq_true rfl) dX9_clear_25 (does_fill SC 18 8 0 (zu (zu (zu (zu σ 16 0 0) 16 1 0) 16 2 0) 16 3 0) rfl (by decide)) ?_
  refine zRx.aload_n 0 rfl rfl dX9_clear_28 ?_
  refine zRx.getR (a := 16) (b := 25) fl_9_36 rfl rfl dX9_clear_29 ?_
  refine zRx.iconst ⟨by decide, by decide⟩ dX9_clear_32 ?_
  refine zRx.cSv (M := m_J7_fill_53178) (av := [zP 25, .inl (-1)]) cs_9_42 mk_J7_fill_53178 (by decide) rfl (Nat.le_of_ble_eq_true rfl) dX9_clear_33 (does_fill SC 25 96 (-1) (zfl (zu (zu (zu (zu σ 16 0 0) 16 1 0) 16 2 0) 16 3 0) 18 8 0) rfl (by decide)) ?_
  refine zRx.gets (a := 0) (by decide) sl_9_48 dX9_clear_36 ?_
  refine zRx.iconst ⟨by decide, by decide⟩ dX9_clear_39 ?_
  refine zRx.aload_n 0 rfl rfl dX9_clear_40 ?_
  refine zRx.getR (a := 16) (b := 26) fl_9_39 rfl rfl dX9_clear_41 ?_
  refine zRx.iconst ⟨by decide, by decide⟩ dX9_clear_44 ?_
  refine zRx.iconst ⟨by decide, by decide⟩ dX9_clear_45 ?_
  refine zRx.acopyS (by decide) rfl ac_9_51 (by decide) (Nat.le_of_ble_eq_true rfl) (by decide) (by decide) (by decide) dX9_clear_46 ?_
  exact zR.ret rfl dX9_clear_49 ⟨rfl, rfl⟩

def F_X0_clear_27 (σ : zG)  : zG := zu (zu σ 27 0 0) 27 1 0
theorem fr_F_X0_clear_27 (σ : zG)  {k : Nat} (h : k ∉ [27]) : (F_X0_clear_27 σ ) k = σ k := by
  have ne : ∀ c ∈ [27], k ≠ c := fun c hc e => h (e ▸ hc)
  unfold F_X0_clear_27
  repeat' split
  all_goals first | rfl | simp only [zu_row _ _ _ (ne 27 (by decide))]

set_option maxRecDepth 20000 in
theorem does_X0_clear_27 (σ : zG)   : zDo SC 0 m_X0_clear [zP 27] σ (zEq (none) (F_X0_clear_27 σ )) := by
  refine zDo.intro mk_X0_clear (Nat.le_of_ble_eq_true rfl) ?_
  refine zRx.aload_n 0 rfl rfl dX0_clear_0 ?_
  refine zRx.iconst ⟨by decide, by decide⟩ dX0_clear_1 ?_
  refine zRx.putI (a := 27) (ji := 0) pl_0_33 rfl rfl rfl dX0_clear_2 ?_
  refine zRx.aload_n 0 rfl rfl dX0_clear_5 ?_
  refine zRx.iconst ⟨by decide, by decide⟩ dX0_clear_6 ?_
  refine zRx.putI (a := 27) (ji := 1) pl_0_37 rfl rfl rfl dX0_clear_7 ?_
  exact zR.ret rfl dX0_clear_10 ⟨rfl, rfl⟩

def F_X0_add_27 (σ : zG) (wh on an f ex tu : Int) : zG := if (σ 27 0) < 60 then (zu (zu (zu (zu (zu (zu (zu (zu σ 28 (σ 27 0) wh) 29 (σ 27 0) on) 30 (σ 27 0) an) 31 (σ 27 0) f) 32 (σ 27 0) ex) 33 (σ 27 0) tu) 34 (σ 27 0) (σ 27 1)) 27 0 ((σ 27 0) + 1)) else σ
theorem fr_F_X0_add_27 (σ : zG) (wh on an f ex tu : Int) {k : Nat} (h : k ∉ [27, 28, 29, 30, 31, 32, 33, 34]) : (F_X0_add_27 σ wh on an f ex tu) k = σ k := by
  have ne : ∀ c ∈ [27, 28, 29, 30, 31, 32, 33, 34], k ≠ c := fun c hc e => h (e ▸ hc)
  unfold F_X0_add_27
  repeat' split
  all_goals first | rfl | simp only [zu_row _ _ _ (ne 27 (by decide)), zu_row _ _ _ (ne 28 (by decide)), zu_row _ _ _ (ne 29 (by decide)), zu_row _ _ _ (ne 30 (by decide)), zu_row _ _ _ (ne 31 (by decide)), zu_row _ _ _ (ne 32 (by decide)), zu_row _ _ _ (ne 33 (by decide)), zu_row _ _ _ (ne 34 (by decide))]

set_option maxRecDepth 20000 in
theorem does_X0_add_27 (σ : zG) (wh on an f ex tu : Int) (h0 : 0 ≤ σ 27 0) : zDo SC 0 m_X0_add [zP 27, .inl wh, .inl on, .inl an, .inl f, .inl ex, .inl tu] σ (zEq (none) (F_X0_add_27 σ wh on an f ex tu)) := by
  refine zDo.intro mk_X0_add (Nat.le_of_ble_eq_true rfl) ?_
  refine zRx.aload_n 0 rfl rfl dX0_add_0 ?_
  refine zRx.getIv (a := 27) (ji := 0) (v := σ 27 0) rfl fl_0_33 rfl rfl rfl dX0_add_1 ?_
  refine zRx.bipush ⟨by decide, by decide⟩ rfl dX0_add_4 ?_
  refine zRx.icmp_lt (tgt := 10) dX0_add_6 (by decide) (fun c6 => ?_) (fun c6 => ?_)
  · refine zRx.aload_n 0 rfl rfl dX0_add_10 ?_
    refine zRx.getR (a := 27) (b := 28) fl_0_9 rfl rfl dX0_add_11 ?_
    refine zRx.aload_n 0 rfl rfl dX0_add_14 ?_
    refine zRx.getIv (a := 27) (ji := 0) (v := σ 27 0) rfl fl_0_33 rfl rfl rfl dX0_add_15 ?_
    refine zRx.iload_n 1 rfl rfl dX0_add_18 ?_
    refine zRx.iast rfl (by omega) (by omega) dX0_add_19 ?_
    refine zRx.aload_n 0 rfl rfl dX0_add_20 ?_
    refine zRx.getR (a := 27) (b := 29) fl_0_15 rfl rfl dX0_add_21 ?_
    refine zRx.aload_n 0 rfl rfl dX0_add_24 ?_
    refine zRx.getIv (a := 27) (ji := 0) (v := σ 27 0) (zu_ne _ _ _ _ (by decide)) fl_0_33 rfl rfl rfl dX0_add_25 ?_
    refine zRx.iload_n 2 rfl rfl dX0_add_28 ?_
    refine zRx.iast rfl (by omega) (by omega) dX0_add_29 ?_
    refine zRx.aload_n 0 rfl rfl dX0_add_30 ?_
    refine zRx.getR (a := 27) (b := 30) fl_0_18 rfl rfl dX0_add_31 ?_
    refine zRx.aload_n 0 rfl rfl dX0_add_34 ?_
    refine zRx.getIv (a := 27) (ji := 0) (v := σ 27 0) ((zu_ne _ _ _ _ (by decide)).trans (zu_ne _ _ _ _ (by decide))) fl_0_33 rfl rfl rfl dX0_add_35 ?_
    refine zRx.iload_n 3 rfl rfl dX0_add_38 ?_
    refine zRx.iast rfl (by omega) (by omega) dX0_add_39 ?_
    refine zRx.aload_n 0 rfl rfl dX0_add_40 ?_
    refine zRx.getR (a := 27) (b := 31) fl_0_21 rfl rfl dX0_add_41 ?_
    refine zRx.aload_n 0 rfl rfl dX0_add_44 ?_
    refine zRx.getIv (a := 27) (ji := 0) (v := σ 27 0) ((zu_ne _ _ _ _ (by decide)).trans ((zu_ne _ _ _ _ (by decide)).trans (zu_ne _ _ _ _ (by decide)))) fl_0_33 rfl rfl rfl dX0_add_45 ?_
    refine zRx.iload 4 rfl dX0_add_48 ?_
    refine zRx.iast rfl (by omega) (by omega) dX0_add_50 ?_
    refine zRx.aload_n 0 rfl rfl dX0_add_51 ?_
    refine zRx.getR (a := 27) (b := 32) fl_0_24 rfl rfl dX0_add_52 ?_
    refine zRx.aload_n 0 rfl rfl dX0_add_55 ?_
    refine zRx.getIv (a := 27) (ji := 0) (v := σ 27 0) ((zu_ne _ _ _ _ (by decide)).trans ((zu_ne _ _ _ _ (by decide)).trans ((zu_ne _ _ _ _ (by decide)).trans (zu_ne _ _ _ _ (by decide))))) fl_0_33 rfl rfl rfl dX0_add_56 ?_
    refine zRx.iload 5 rfl dX0_add_59 ?_
    refine zRx.iast rfl (by omega) (by omega) dX0_add_61 ?_
    refine zRx.aload_n 0 rfl rfl dX0_add_62 ?_
    refine zRx.getR (a := 27) (b := 33) fl_0_27 rfl rfl dX0_add_63 ?_
    refine zRx.aload_n 0 rfl rfl dX0_add_66 ?_
    refine zRx.getIv (a := 27) (ji := 0) (v := σ 27 0) ((zu_ne _ _ _ _ (by decide)).trans ((zu_ne _ _ _ _ (by decide)).trans ((zu_ne _ _ _ _ (by decide)).trans ((zu_ne _ _ _ _ (by decide)).trans (zu_ne _ _ _ _ (by decide)))))) fl_0_33 rfl rfl rfl dX0_add_67 ?_
    refine zRx.iload 6 rfl dX0_add_70 ?_
    refine zRx.iast rfl (by omega) (by omega) dX0_add_72 ?_
    refine zRx.aload_n 0 rfl rfl dX0_add_73 ?_
    refine zRx.getR (a := 27) (b := 34) fl_0_30 rfl rfl dX0_add_74 ?_
    refine zRx.aload_n 0 rfl rfl dX0_add_77 ?_
    refine zRx.getIv (a := 27) (ji := 0) (v := σ 27 0) ((zu_ne _ _ _ _ (by decide)).trans ((zu_ne _ _ _ _ (by decide)).trans ((zu_ne _ _ _ _ (by decide)).trans ((zu_ne _ _ _ _ (by decide)).trans ((zu_ne _ _ _ _ (by decide)).trans (zu_ne _ _ _ _ (by decide))))))) fl_0_33 rfl rfl rfl dX0_add_78 ?_
    refine zRx.aload_n 0 rfl rfl dX0_add_81 ?_
    refine zRx.getIv (a := 27) (ji := 1) (v := σ 27 1) ((zu_ne _ _ _ _ (by decide)).trans ((zu_ne _ _ _ _ (by decide)).trans ((zu_ne _ _ _ _ (by decide)).trans ((zu_ne _ _ _ _ (by decide)).trans ((zu_ne _ _ _ _ (by decide)).trans (zu_ne _ _ _ _ (by decide))))))) fl_0_37 rfl rfl rfl dX0_add_82 ?_
    refine zRx.iast rfl (by omega) (by omega) dX0_add_85 ?_
    refine zRx.aload_n 0 rfl rfl dX0_add_86 ?_
    refine zRx.dup rfl dX0_add_87 ?_
    refine zRx.getIv (a := 27) (ji := 0) (v := σ 27 0) ((zu_ne _ _ _ _ (by decide)).trans ((zu_ne _ _ _ _ (by decide)).trans ((zu_ne _ _ _ _ (by decide)).trans ((zu_ne _ _ _ _ (by decide)).trans ((zu_ne _ _ _ _ (by decide)).trans ((zu_ne _ _ _ _ (by decide)).trans (zu_ne _ _ _ _ (by decide)))))))) fl_0_33 rfl rfl rfl dX0_add_88 ?_
    refine zRx.iconst ⟨by decide, by decide⟩ dX0_add_91 ?_
    refine zRx.iadd ⟨by omega, by omega⟩ dX0_add_92 ?_
    refine zRx.putI (a := 27) (ji := 0) pl_0_33 rfl rfl rfl dX0_add_93 ?_
    exact zR.ret rfl dX0_add_96 ⟨rfl, by unfold F_X0_add_27; rw [if_pos c6]⟩
  · exact zR.ret rfl dX0_add_9 ⟨rfl, by unfold F_X0_add_27; rw [if_neg (Int.not_lt.mpr c6)]⟩

def F_X0_addDay_27 (σ : zG) (dy : Int) : zG := F_X0_add_27 (zu σ 27 1 dy) 0 dy (-1) (-1) 0 0
theorem fr_F_X0_addDay_27 (σ : zG) (dy : Int) {k : Nat} (h : k ∉ [27, 28, 29, 30, 31, 32, 33, 34]) : (F_X0_addDay_27 σ dy) k = σ k := by
  have ne : ∀ c ∈ [27, 28, 29, 30, 31, 32, 33, 34], k ≠ c := fun c hc e => h (e ▸ hc)
  have nk_F_X0_add_27 : k ∉ [27, 28, 29, 30, 31, 32, 33, 34] := fun hm => h (by first | (revert hm; simp only [List.mem_cons, List.not_mem_nil, or_false]; omega) | (simp at hm))
  unfold F_X0_addDay_27
  repeat' split
  all_goals first | rfl | simp only [zu_row _ _ _ (ne 27 (by decide)), zu_row _ _ _ (ne 28 (by decide)), zu_row _ _ _ (ne 29 (by decide)), zu_row _ _ _ (ne 30 (by decide)), zu_row _ _ _ (ne 31 (by decide)), zu_row _ _ _ (ne 32 (by decide)), zu_row _ _ _ (ne 33 (by decide)), zu_row _ _ _ (ne 34 (by decide)), fr_F_X0_add_27 (h := nk_F_X0_add_27)]

set_option maxRecDepth 20000 in
theorem does_X0_addDay_27 (σ : zG) (dy : Int) (h0 : 0 ≤ σ 27 0) : zDo SC 1 m_X0_addDay [zP 27, .inl dy] σ (zEq (none) (F_X0_addDay_27 σ dy)) := by
  refine zDo.intro mk_X0_addDay (Nat.le_of_ble_eq_true rfl) ?_
  refine zRx.aload_n 0 rfl rfl dX0_addDay_0 ?_
  refine zRx.iload_n 1 rfl rfl dX0_addDay_1 ?_
  refine zRx.putI (a := 27) (ji := 1) pl_0_37 rfl rfl rfl dX0_addDay_2 ?_
  refine zRx.aload_n 0 rfl rfl dX0_addDay_5 ?_
  refine zRx.iconst ⟨by decide, by decide⟩ dX0_addDay_6 ?_
  refine zRx.iload_n 1 rfl rfl dX0_addDay_7 ?_
  refine zRx.iconst ⟨by decide, by decide⟩ dX0_addDay_8 ?_
  refine zRx.iconst ⟨by decide, by decide⟩ dX0_addDay_9 ?_
  refine zRx.iconst ⟨by decide, by decide⟩ dX0_addDay_10 ?_
  refine zRx.iconst ⟨by decide, by decide⟩ dX0_addDay_11 ?_
  refine zRx.cVv (M := m_X0_add) (av := [.inl 0, .inl dy, .inl (-1), .inl (-1), .inl 0, .inl 0]) cv_0_46 mk_X0_add (by decide) (b := 27) rfl rfl (Nat.le_of_ble_eq_true rfl) dX0_addDay_12 (does_X0_add_27 (zu σ 27 1 dy) 0 dy (-1) (-1) 0 0 (by have e9 : (zu σ 27 1 dy) 27 0 = σ 27 0 := (zu_off _ _ _ (by decide)); omega)) ?_
  exact zR.ret rfl dX0_addDay_15 ⟨rfl, rfl⟩

def F_X0_clear_35 (σ : zG)  : zG := zu (zu σ 35 0 0) 35 1 0
theorem fr_F_X0_clear_35 (σ : zG)  {k : Nat} (h : k ∉ [35]) : (F_X0_clear_35 σ ) k = σ k := by
  have ne : ∀ c ∈ [35], k ≠ c := fun c hc e => h (e ▸ hc)
  unfold F_X0_clear_35
  repeat' split
  all_goals first | rfl | simp only [zu_row _ _ _ (ne 35 (by decide))]

set_option maxRecDepth 20000 in
theorem does_X0_clear_35 (σ : zG)   : zDo SC 0 m_X0_clear [zP 35] σ (zEq (none) (F_X0_clear_35 σ )) := by
  refine zDo.intro mk_X0_clear (Nat.le_of_ble_eq_true rfl) ?_
  refine zRx.aload_n 0 rfl rfl dX0_clear_0 ?_
  refine zRx.iconst ⟨by decide, by decide⟩ dX0_clear_1 ?_
  refine zRx.putI (a := 35) (ji := 0) pl_0_33 rfl rfl rfl dX0_clear_2 ?_
  refine zRx.aload_n 0 rfl rfl dX0_clear_5 ?_
  refine zRx.iconst ⟨by decide, by decide⟩ dX0_clear_6 ?_
  refine zRx.putI (a := 35) (ji := 1) pl_0_37 rfl rfl rfl dX0_clear_7 ?_
  exact zR.ret rfl dX0_clear_10 ⟨rfl, rfl⟩

def F_X0_add_35 (σ : zG) (wh on an f ex tu : Int) : zG := if (σ 35 0) < 60 then (zu (zu (zu (zu (zu (zu (zu (zu σ 36 (σ 35 0) wh) 37 (σ 35 0) on) 38 (σ 35 0) an) 39 (σ 35 0) f) 40 (σ 35 0) ex) 41 (σ 35 0) tu) 42 (σ 35 0) (σ 35 1)) 35 0 ((σ 35 0) + 1)) else σ
theorem fr_F_X0_add_35 (σ : zG) (wh on an f ex tu : Int) {k : Nat} (h : k ∉ [35, 36, 37, 38, 39, 40, 41, 42]) : (F_X0_add_35 σ wh on an f ex tu) k = σ k := by
  have ne : ∀ c ∈ [35, 36, 37, 38, 39, 40, 41, 42], k ≠ c := fun c hc e => h (e ▸ hc)
  unfold F_X0_add_35
  repeat' split
  all_goals first | rfl | simp only [zu_row _ _ _ (ne 35 (by decide)), zu_row _ _ _ (ne 36 (by decide)), zu_row _ _ _ (ne 37 (by decide)), zu_row _ _ _ (ne 38 (by decide)), zu_row _ _ _ (ne 39 (by decide)), zu_row _ _ _ (ne 40 (by decide)), zu_row _ _ _ (ne 41 (by decide)), zu_row _ _ _ (ne 42 (by decide))]

set_option maxRecDepth 20000 in
theorem does_X0_add_35 (σ : zG) (wh on an f ex tu : Int) (h0 : 0 ≤ σ 35 0) : zDo SC 0 m_X0_add [zP 35, .inl wh, .inl on, .inl an, .inl f, .inl ex, .inl tu] σ (zEq (none) (F_X0_add_35 σ wh on an f ex tu)) := by
  refine zDo.intro mk_X0_add (Nat.le_of_ble_eq_true rfl) ?_
  refine zRx.aload_n 0 rfl rfl dX0_add_0 ?_
  refine zRx.getIv (a := 35) (ji := 0) (v := σ 35 0) rfl fl_0_33 rfl rfl rfl dX0_add_1 ?_
  refine zRx.bipush ⟨by decide, by decide⟩ rfl dX0_add_4 ?_
  refine zRx.icmp_lt (tgt := 10) dX0_add_6 (by decide) (fun c6 => ?_) (fun c6 => ?_)
  · refine zRx.aload_n 0 rfl rfl dX0_add_10 ?_
    refine zRx.getR (a := 35) (b := 36) fl_0_9 rfl rfl dX0_add_11 ?_
    refine zRx.aload_n 0 rfl rfl dX0_add_14 ?_
    refine zRx.getIv (a := 35) (ji := 0) (v := σ 35 0) rfl fl_0_33 rfl rfl rfl dX0_add_15 ?_
    refine zRx.iload_n 1 rfl rfl dX0_add_18 ?_
    refine zRx.iast rfl (by omega) (by omega) dX0_add_19 ?_
    refine zRx.aload_n 0 rfl rfl dX0_add_20 ?_
    refine zRx.getR (a := 35) (b := 37) fl_0_15 rfl rfl dX0_add_21 ?_
    refine zRx.aload_n 0 rfl rfl dX0_add_24 ?_
    refine zRx.getIv (a := 35) (ji := 0) (v := σ 35 0) (zu_ne _ _ _ _ (by decide)) fl_0_33 rfl rfl rfl dX0_add_25 ?_
    refine zRx.iload_n 2 rfl rfl dX0_add_28 ?_
    refine zRx.iast rfl (by omega) (by omega) dX0_add_29 ?_
    refine zRx.aload_n 0 rfl rfl dX0_add_30 ?_
    refine zRx.getR (a := 35) (b := 38) fl_0_18 rfl rfl dX0_add_31 ?_
    refine zRx.aload_n 0 rfl rfl dX0_add_34 ?_
    refine zRx.getIv (a := 35) (ji := 0) (v := σ 35 0) ((zu_ne _ _ _ _ (by decide)).trans (zu_ne _ _ _ _ (by decide))) fl_0_33 rfl rfl rfl dX0_add_35 ?_
    refine zRx.iload_n 3 rfl rfl dX0_add_38 ?_
    refine zRx.iast rfl (by omega) (by omega) dX0_add_39 ?_
    refine zRx.aload_n 0 rfl rfl dX0_add_40 ?_
    refine zRx.getR (a := 35) (b := 39) fl_0_21 rfl rfl dX0_add_41 ?_
    refine zRx.aload_n 0 rfl rfl dX0_add_44 ?_
    refine zRx.getIv (a := 35) (ji := 0) (v := σ 35 0) ((zu_ne _ _ _ _ (by decide)).trans ((zu_ne _ _ _ _ (by decide)).trans (zu_ne _ _ _ _ (by decide)))) fl_0_33 rfl rfl rfl dX0_add_45 ?_
    refine zRx.iload 4 rfl dX0_add_48 ?_
    refine zRx.iast rfl (by omega) (by omega) dX0_add_50 ?_
    refine zRx.aload_n 0 rfl rfl dX0_add_51 ?_
    refine zRx.getR (a := 35) (b := 40) fl_0_24 rfl rfl dX0_add_52 ?_
    refine zRx.aload_n 0 rfl rfl dX0_add_55 ?_
    refine zRx.getIv (a := 35) (ji := 0) (v := σ 35 0) ((zu_ne _ _ _ _ (by decide)).trans ((zu_ne _ _ _ _ (by decide)).trans ((zu_ne _ _ _ _ (by decide)).trans (zu_ne _ _ _ _ (by decide))))) fl_0_33 rfl rfl rfl dX0_add_56 ?_
    refine zRx.iload 5 rfl dX0_add_59 ?_
    refine zRx.iast rfl (by omega) (by omega) dX0_add_61 ?_
    refine zRx.aload_n 0 rfl rfl dX0_add_62 ?_
    refine zRx.getR (a := 35) (b := 41) fl_0_27 rfl rfl dX0_add_63 ?_
    refine zRx.aload_n 0 rfl rfl dX0_add_66 ?_
    refine zRx.getIv (a := 35) (ji := 0) (v := σ 35 0) ((zu_ne _ _ _ _ (by decide)).trans ((zu_ne _ _ _ _ (by decide)).trans ((zu_ne _ _ _ _ (by decide)).trans ((zu_ne _ _ _ _ (by decide)).trans (zu_ne _ _ _ _ (by decide)))))) fl_0_33 rfl rfl rfl dX0_add_67 ?_
    refine zRx.iload 6 rfl dX0_add_70 ?_
    refine zRx.iast rfl (by omega) (by omega) dX0_add_72 ?_
    refine zRx.aload_n 0 rfl rfl dX0_add_73 ?_
    refine zRx.getR (a := 35) (b := 42) fl_0_30 rfl rfl dX0_add_74 ?_
    refine zRx.aload_n 0 rfl rfl dX0_add_77 ?_
    refine zRx.getIv (a := 35) (ji := 0) (v := σ 35 0) ((zu_ne _ _ _ _ (by decide)).trans ((zu_ne _ _ _ _ (by decide)).trans ((zu_ne _ _ _ _ (by decide)).trans ((zu_ne _ _ _ _ (by decide)).trans ((zu_ne _ _ _ _ (by decide)).trans (zu_ne _ _ _ _ (by decide))))))) fl_0_33 rfl rfl rfl dX0_add_78 ?_
    refine zRx.aload_n 0 rfl rfl dX0_add_81 ?_
    refine zRx.getIv (a := 35) (ji := 1) (v := σ 35 1) ((zu_ne _ _ _ _ (by decide)).trans ((zu_ne _ _ _ _ (by decide)).trans ((zu_ne _ _ _ _ (by decide)).trans ((zu_ne _ _ _ _ (by decide)).trans ((zu_ne _ _ _ _ (by decide)).trans (zu_ne _ _ _ _ (by decide))))))) fl_0_37 rfl rfl rfl dX0_add_82 ?_
    refine zRx.iast rfl (by omega) (by omega) dX0_add_85 ?_
    refine zRx.aload_n 0 rfl rfl dX0_add_86 ?_
    refine zRx.dup rfl dX0_add_87 ?_
    refine zRx.getIv (a := 35) (ji := 0) (v := σ 35 0) ((zu_ne _ _ _ _ (by decide)).trans ((zu_ne _ _ _ _ (by decide)).trans ((zu_ne _ _ _ _ (by decide)).trans ((zu_ne _ _ _ _ (by decide)).trans ((zu_ne _ _ _ _ (by decide)).trans ((zu_ne _ _ _ _ (by decide)).trans (zu_ne _ _ _ _ (by decide)))))))) fl_0_33 rfl rfl rfl dX0_add_88 ?_
    refine zRx.iconst ⟨by decide, by decide⟩ dX0_add_91 ?_
    refine zRx.iadd ⟨by omega, by omega⟩ dX0_add_92 ?_
    refine zRx.putI (a := 35) (ji := 0) pl_0_33 rfl rfl rfl dX0_add_93 ?_
    exact zR.ret rfl dX0_add_96 ⟨rfl, by unfold F_X0_add_35; rw [if_pos c6]⟩
  · exact zR.ret rfl dX0_add_9 ⟨rfl, by unfold F_X0_add_35; rw [if_neg (Int.not_lt.mpr c6)]⟩

def F_X0_addDay_35 (σ : zG) (dy : Int) : zG := F_X0_add_35 (zu σ 35 1 dy) 0 dy (-1) (-1) 0 0
theorem fr_F_X0_addDay_35 (σ : zG) (dy : Int) {k : Nat} (h : k ∉ [35, 36, 37, 38, 39, 40, 41, 42]) : (F_X0_addDay_35 σ dy) k = σ k := by
  have ne : ∀ c ∈ [35, 36, 37, 38, 39, 40, 41, 42], k ≠ c := fun c hc e => h (e ▸ hc)
  have nk_F_X0_add_35 : k ∉ [35, 36, 37, 38, 39, 40, 41, 42] := fun hm => h (by first | (revert hm; simp only [List.mem_cons, List.not_mem_nil, or_false]; omega) | (simp at hm))
  unfold F_X0_addDay_35
  repeat' split
  all_goals first | rfl | simp only [zu_row _ _ _ (ne 35 (by decide)), zu_row _ _ _ (ne 36 (by decide)), zu_row _ _ _ (ne 37 (by decide)), zu_row _ _ _ (ne 38 (by decide)), zu_row _ _ _ (ne 39 (by decide)), zu_row _ _ _ (ne 40 (by decide)), zu_row _ _ _ (ne 41 (by decide)), zu_row _ _ _ (ne 42 (by decide)), fr_F_X0_add_35 (h := nk_F_X0_add_35)]

set_option maxRecDepth 20000 in
theorem does_X0_addDay_35 (σ : zG) (dy : Int) (h0 : 0 ≤ σ 35 0) : zDo SC 1 m_X0_addDay [zP 35, .inl dy] σ (zEq (none) (F_X0_addDay_35 σ dy)) := by
  refine zDo.intro mk_X0_addDay (Nat.le_of_ble_eq_true rfl) ?_
  refine zRx.aload_n 0 rfl rfl dX0_addDay_0 ?_
  refine zRx.iload_n 1 rfl rfl dX0_addDay_1 ?_
  refine zRx.putI (a := 35) (ji := 1) pl_0_37 rfl rfl rfl dX0_addDay_2 ?_
  refine zRx.aload_n 0 rfl rfl dX0_addDay_5 ?_
  refine zRx.iconst ⟨by decide, by decide⟩ dX0_addDay_6 ?_
  refine zRx.iload_n 1 rfl rfl dX0_addDay_7 ?_
  refine zRx.iconst ⟨by decide, by decide⟩ dX0_addDay_8 ?_
  refine zRx.iconst ⟨by decide, by decide⟩ dX0_addDay_9 ?_
  refine zRx.iconst ⟨by decide, by decide⟩ dX0_addDay_10 ?_
  refine zRx.iconst ⟨by decide, by decide⟩ dX0_addDay_11 ?_
  refine zRx.cVv (M := m_X0_add) (av := [.inl 0, .inl dy, .inl (-1), .inl (-1), .inl 0, .inl 0]) cv_0_46 mk_X0_add (by decide) (b := 35) rfl rfl (Nat.le_of_ble_eq_true rfl) dX0_addDay_12 (does_X0_add_35 (zu σ 35 1 dy) 0 dy (-1) (-1) 0 0 (by have e9 : (zu σ 35 1 dy) 35 0 = σ 35 0 := (zu_off _ _ _ (by decide)); omega)) ?_
  exact zR.ret rfl dX0_addDay_15 ⟨rfl, rfl⟩

def F_X6_clear_43 (σ : zG)  : zG := zu (zu σ 43 0 0) 43 1 0
theorem fr_F_X6_clear_43 (σ : zG)  {k : Nat} (h : k ∉ [43]) : (F_X6_clear_43 σ ) k = σ k := by
  have ne : ∀ c ∈ [43], k ≠ c := fun c hc e => h (e ▸ hc)
  unfold F_X6_clear_43
  repeat' split
  all_goals first | rfl | simp only [zu_row _ _ _ (ne 43 (by decide))]

set_option maxRecDepth 20000 in
theorem does_X6_clear_43 (σ : zG)   : zDo SC 0 m_X6_clear [zP 43] σ (zEq (none) (F_X6_clear_43 σ )) := by
  refine zDo.intro mk_X6_clear (Nat.le_of_ble_eq_true rfl) ?_
  refine zRx.aload_n 0 rfl rfl dX6_clear_0 ?_
  refine zRx.iconst ⟨by decide, by decide⟩ dX6_clear_1 ?_
  refine zRx.putI (a := 43) (ji := 0) pl_6_24 rfl rfl rfl dX6_clear_2 ?_
  refine zRx.aload_n 0 rfl rfl dX6_clear_5 ?_
  refine zRx.iconst ⟨by decide, by decide⟩ dX6_clear_6 ?_
  refine zRx.putI (a := 43) (ji := 1) pl_6_28 rfl rfl rfl dX6_clear_7 ?_
  exact zR.ret rfl dX6_clear_10 ⟨rfl, rfl⟩

def F_X6_clear_48 (σ : zG)  : zG := zu (zu σ 48 0 0) 48 1 0
theorem fr_F_X6_clear_48 (σ : zG)  {k : Nat} (h : k ∉ [48]) : (F_X6_clear_48 σ ) k = σ k := by
  have ne : ∀ c ∈ [48], k ≠ c := fun c hc e => h (e ▸ hc)
  unfold F_X6_clear_48
  repeat' split
  all_goals first | rfl | simp only [zu_row _ _ _ (ne 48 (by decide))]

set_option maxRecDepth 20000 in
theorem does_X6_clear_48 (σ : zG)   : zDo SC 0 m_X6_clear [zP 48] σ (zEq (none) (F_X6_clear_48 σ )) := by
  refine zDo.intro mk_X6_clear (Nat.le_of_ble_eq_true rfl) ?_
  refine zRx.aload_n 0 rfl rfl dX6_clear_0 ?_
  refine zRx.iconst ⟨by decide, by decide⟩ dX6_clear_1 ?_
  refine zRx.putI (a := 48) (ji := 0) pl_6_24 rfl rfl rfl dX6_clear_2 ?_
  refine zRx.aload_n 0 rfl rfl dX6_clear_5 ?_
  refine zRx.iconst ⟨by decide, by decide⟩ dX6_clear_6 ?_
  refine zRx.putI (a := 48) (ji := 1) pl_6_28 rfl rfl rfl dX6_clear_7 ?_
  exact zR.ret rfl dX6_clear_10 ⟨rfl, rfl⟩

def F_X6_addStep (σ : zG) (ky cm wi : Int) : zG := if 40 ≤ (σ 48 1) then σ else (zu (zu (zu (zu σ 49 (σ 48 1) ky) 50 (σ 48 1) cm) 51 (σ 48 1) wi) 48 1 ((σ 48 1) + 1))
theorem fr_F_X6_addStep (σ : zG) (ky cm wi : Int) {k : Nat} (h : k ∉ [48, 49, 50, 51]) : (F_X6_addStep σ ky cm wi) k = σ k := by
  have ne : ∀ c ∈ [48, 49, 50, 51], k ≠ c := fun c hc e => h (e ▸ hc)
  unfold F_X6_addStep
  repeat' split
  all_goals first | rfl | simp only [zu_row _ _ _ (ne 48 (by decide)), zu_row _ _ _ (ne 49 (by decide)), zu_row _ _ _ (ne 50 (by decide)), zu_row _ _ _ (ne 51 (by decide))]

set_option maxRecDepth 20000 in
theorem does_X6_addStep (σ : zG) (ky cm wi : Int) (h0 : 0 ≤ σ 48 1) : zDo SC 0 m_X6_addStep [zP 48, .inl ky, .inl cm, .inl wi] σ (zEq (none) (F_X6_addStep σ ky cm wi)) := by
  refine zDo.intro mk_X6_addStep (Nat.le_of_ble_eq_true rfl) ?_
  refine zRx.aload_n 0 rfl rfl dX6_addStep_0 ?_
  refine zRx.getIv (a := 48) (ji := 1) (v := σ 48 1) rfl fl_6_28 rfl rfl rfl dX6_addStep_1 ?_
  refine zRx.bipush ⟨by decide, by decide⟩ rfl dX6_addStep_4 ?_
  refine zRx.icmp_ge (tgt := 49) dX6_addStep_6 (by decide) (fun c6 => ?_) (fun c6 => ?_)
  · exact zR.ret rfl dX6_addStep_49 ⟨rfl, by unfold F_X6_addStep; rw [if_pos c6]⟩
  · refine zRx.aload_n 0 rfl rfl dX6_addStep_9 ?_
    refine zRx.getR (a := 48) (b := 49) fl_6_11 rfl rfl dX6_addStep_10 ?_
    refine zRx.aload_n 0 rfl rfl dX6_addStep_13 ?_
    refine zRx.getIv (a := 48) (ji := 1) (v := σ 48 1) rfl fl_6_28 rfl rfl rfl dX6_addStep_14 ?_
    refine zRx.iload_n 1 rfl rfl dX6_addStep_17 ?_
    refine zRx.iast rfl (by omega) (by omega) dX6_addStep_18 ?_
    refine zRx.aload_n 0 rfl rfl dX6_addStep_19 ?_
    refine zRx.getR (a := 48) (b := 50) fl_6_15 rfl rfl dX6_addStep_20 ?_
    refine zRx.aload_n 0 rfl rfl dX6_addStep_23 ?_
    refine zRx.getIv (a := 48) (ji := 1) (v := σ 48 1) (zu_ne _ _ _ _ (by decide)) fl_6_28 rfl rfl rfl dX6_addStep_24 ?_
    refine zRx.iload_n 2 rfl rfl dX6_addStep_27 ?_
    refine zRx.iast rfl (by omega) (by omega) dX6_addStep_28 ?_
    refine zRx.aload_n 0 rfl rfl dX6_addStep_29 ?_
    refine zRx.getR (a := 48) (b := 51) fl_6_18 rfl rfl dX6_addStep_30 ?_
    refine zRx.aload_n 0 rfl rfl dX6_addStep_33 ?_
    refine zRx.getIv (a := 48) (ji := 1) (v := σ 48 1) ((zu_ne _ _ _ _ (by decide)).trans (zu_ne _ _ _ _ (by decide))) fl_6_28 rfl rfl rfl dX6_addStep_34 ?_
    refine zRx.iload_n 3 rfl rfl dX6_addStep_37 ?_
    refine zRx.iast rfl (by omega) (by omega) dX6_addStep_38 ?_
    refine zRx.aload_n 0 rfl rfl dX6_addStep_39 ?_
    refine zRx.dup rfl dX6_addStep_40 ?_
    refine zRx.getIv (a := 48) (ji := 1) (v := σ 48 1) ((zu_ne _ _ _ _ (by decide)).trans ((zu_ne _ _ _ _ (by decide)).trans (zu_ne _ _ _ _ (by decide)))) fl_6_28 rfl rfl rfl dX6_addStep_41 ?_
    refine zRx.iconst ⟨by decide, by decide⟩ dX6_addStep_44 ?_
    refine zRx.iadd ⟨by omega, by omega⟩ dX6_addStep_45 ?_
    refine zRx.putI (a := 48) (ji := 1) pl_6_28 rfl rfl rfl dX6_addStep_46 ?_
    exact zR.ret rfl dX6_addStep_49 ⟨rfl, by unfold F_X6_addStep; rw [if_neg (Int.not_le.mpr c6)]⟩

def F_X8_swap (σ : zG) (i j : Int) : zG := zu (zu σ 95 i (σ 95 j)) 95 j (σ 95 i)
theorem fr_F_X8_swap (σ : zG) (i j : Int) {k : Nat} (h : k ∉ [95]) : (F_X8_swap σ i j) k = σ k := by
  have ne : ∀ c ∈ [95], k ≠ c := fun c hc e => h (e ▸ hc)
  unfold F_X8_swap
  repeat' split
  all_goals first | rfl | simp only [zu_row _ _ _ (ne 95 (by decide))]

set_option maxRecDepth 20000 in
theorem does_X8_swap (σ : zG) (i j : Int) (hi : 0 ≤ i ∧ i < 5) (hk : 0 ≤ j ∧ j < 5) : zDo SC 0 m_X8_swap [zP 91, .inl i, .inl j] σ (zEq (none) (F_X8_swap σ i j)) := by
  refine zDo.intro mk_X8_swap (Nat.le_of_ble_eq_true rfl) ?_
  refine zRx.aload_n 0 rfl rfl dX8_swap_0 ?_
  refine zRx.getR (a := 91) (b := 95) fl_8_21 rfl rfl dX8_swap_1 ?_
  refine zRx.iload_n 1 rfl rfl dX8_swap_4 ?_
  refine zRx.ialdv (v := σ 95 i) rfl rfl (by omega) (by omega) dX8_swap_5 ?_
  refine zRx.istore_n (ls' := [(0, zP 91), (1, .inl i), (2, .inl j), (3, .inl (σ 95 i))]) rfl rfl (by decide) dX8_swap_6 ?_
  refine zRx.aload_n 0 rfl rfl dX8_swap_7 ?_
  refine zRx.getR (a := 91) (b := 95) fl_8_21 rfl rfl dX8_swap_8 ?_
  refine zRx.iload_n 1 rfl rfl dX8_swap_11 ?_
  refine zRx.aload_n 0 rfl rfl dX8_swap_12 ?_
  refine zRx.getR (a := 91) (b := 95) fl_8_21 rfl rfl dX8_swap_13 ?_
  refine zRx.iload_n 2 rfl rfl dX8_swap_16 ?_
  refine zRx.ialdv (v := σ 95 j) rfl rfl (by omega) (by omega) dX8_swap_17 ?_
  refine zRx.iast rfl (by omega) (by omega) dX8_swap_18 ?_
  refine zRx.aload_n 0 rfl rfl dX8_swap_19 ?_
  refine zRx.getR (a := 91) (b := 95) fl_8_21 rfl rfl dX8_swap_20 ?_
  refine zRx.iload_n 2 rfl rfl dX8_swap_23 ?_
  refine zRx.iload_n 3 rfl rfl dX8_swap_24 ?_
  refine zRx.iast rfl (by omega) (by omega) dX8_swap_25 ?_
  exact zR.ret rfl dX8_swap_26 ⟨rfl, rfl⟩

theorem knotsAt_r {n i : Int} (h : 0 ≤ n ∧ n < 125) : 0 ≤ V_X11_knotsAt n i ∧ V_X11_knotsAt n i ≤ 4 := by
  unfold V_X11_knotsAt
  split
  · omega
  · split
    · omega
    · split <;> omega

def V_X11_takeKnots (σ : zG)  : Int := if (σ 1 1) = 4 then (if 4 < (σ 2 0) then 0 else (if 4 < (σ 2 1) then 0 else (if 4 < (σ 2 2) then 0 else (if 4 < (σ 2 3) then 0 else 1)))) else 0
def F_X11_takeKnots (σ : zG)  : zG := zu (zu (zu (zu (zu σ 98 0 (σ 2 0)) 98 1 (σ 2 1)) 98 2 (σ 2 2)) 98 3 (σ 2 3)) 1 1 0
theorem fr_F_X11_takeKnots (σ : zG)  {k : Nat} (h : k ∉ [1, 98]) : (F_X11_takeKnots σ ) k = σ k := by
  have ne : ∀ c ∈ [1, 98], k ≠ c := fun c hc e => h (e ▸ hc)
  unfold F_X11_takeKnots
  repeat' split
  all_goals first | rfl | simp only [zu_row _ _ _ (ne 1 (by decide)), zu_row _ _ _ (ne 98 (by decide))]

set_option maxRecDepth 20000 in
theorem does_X11_takeKnots (σ : zG)   : zDo SC 0 m_X11_takeKnots [zP 0] σ (zEq (some (.inl (V_X11_takeKnots σ ))) (F_X11_takeKnots σ )) := by
  refine zDo.intro mk_X11_takeKnots (Nat.le_of_ble_eq_true rfl) ?_
  refine zRx.aload_n 0 rfl rfl dX11_takeKnots_0 ?_
  refine zRx.getR (a := 0) (b := 1) fl_11_12 rfl rfl dX11_takeKnots_1 ?_
  refine zRx.getIv (a := 1) (ji := 1) (v := σ 1 1) rfl fl_11_110 rfl rfl rfl dX11_takeKnots_4 ?_
  refine zRx.iconst ⟨by decide, by decide⟩ dX11_takeKnots_7 ?_
  refine zRx.icmp_ne (tgt := 15) dX11_takeKnots_8 (by decide) (fun c8 => ?_) (fun c8 => ?_)
  · refine zRx.iconst ⟨by decide, by decide⟩ dX11_takeKnots_15 ?_
    refine zRx.istore_n (ls' := [(0, zP 0), (1, .inl 0)]) rfl rfl (by decide) dX11_takeKnots_16 ?_
    refine zRx.iconst ⟨by decide, by decide⟩ dX11_takeKnots_17 ?_
    refine zRx.istore_n (ls' := [(0, zP 0), (1, .inl 0), (2, .inl 0)]) rfl rfl (by decide) dX11_takeKnots_18 ?_
    refine zRx.iload_n 2 rfl rfl dX11_takeKnots_19 ?_
    refine zRx.iconst ⟨by decide, by decide⟩ dX11_takeKnots_20 ?_
    refine zRx.icmp_ge (tgt := 65) dX11_takeKnots_21 (by decide) (fun c21 => absurd c21 (by decide)) (fun _ => ?_)
    refine zRx.aload_n 0 rfl rfl dX11_takeKnots_24 ?_
    refine zRx.getR (a := 0) (b := 98) fl_11_95 rfl rfl dX11_takeKnots_25 ?_
    refine zRx.iload_n 2 rfl rfl dX11_takeKnots_28 ?_
    refine zRx.aload_n 0 rfl rfl dX11_takeKnots_29 ?_
    refine zRx.getR (a := 0) (b := 1) fl_11_12 rfl rfl dX11_takeKnots_30 ?_
    refine zRx.getR (a := 1) (b := 2) fl_11_388 rfl rfl dX11_takeKnots_33 ?_
    refine zRx.iload_n 2 rfl rfl dX11_takeKnots_36 ?_
    refine zRx.ialdv (v := σ 2 0) rfl rfl (by decide) (by decide) dX11_takeKnots_37 ?_
    refine zRx.iast rfl (by decide) (by decide) dX11_takeKnots_38 ?_
    refine zRx.iload_n 1 rfl rfl dX11_takeKnots_39 ?_
    refine zRx.if_eq (tgt := 57) dX11_takeKnots_40 (by decide) (fun _ => ?_) (fun c40 => absurd c40 (by decide))
    refine zRx.iconst ⟨by decide, by decide⟩ dX11_takeKnots_57 ?_
    refine zRx.istore_n (ls' := [(0, zP 0), (1, .inl 0), (2, .inl 0)]) rfl rfl (by decide) dX11_takeKnots_58 ?_
    refine zRx.iinc (n := 1) (ls' := [(0, zP 0), (1, .inl 0), (2, .inl 1)]) 2 rfl ⟨by decide, by decide⟩ rfl (by decide) dX11_takeKnots_59 ?_
    refine zRx.goto (tgt := 19) dX11_takeKnots_62 (by decide) ?_
    refine zRx.iload_n 2 rfl rfl dX11_takeKnots_19 ?_
    refine zRx.iconst ⟨by decide, by decide⟩ dX11_takeKnots_20 ?_
    refine zRx.icmp_ge (tgt := 65) dX11_takeKnots_21 (by decide) (fun c21 => absurd c21 (by decide)) (fun _ => ?_)
    refine zRx.aload_n 0 rfl rfl dX11_takeKnots_24 ?_
    refine zRx.getR (a := 0) (b := 98) fl_11_95 rfl rfl dX11_takeKnots_25 ?_
    refine zRx.iload_n 2 rfl rfl dX11_takeKnots_28 ?_
    refine zRx.aload_n 0 rfl rfl dX11_takeKnots_29 ?_
    refine zRx.getR (a := 0) (b := 1) fl_11_12 rfl rfl dX11_takeKnots_30 ?_
    refine zRx.getR (a := 1) (b := 2) fl_11_388 rfl rfl dX11_takeKnots_33 ?_
    refine zRx.iload_n 2 rfl rfl dX11_takeKnots_36 ?_
    refine zRx.ialdv (v := σ 2 1) (zu_ne _ _ _ _ (by decide)) rfl (by decide) (by decide) dX11_takeKnots_37 ?_
    refine zRx.iast rfl (by decide) (by decide) dX11_takeKnots_38 ?_
    refine zRx.iload_n 1 rfl rfl dX11_takeKnots_39 ?_
    refine zRx.if_eq (tgt := 57) dX11_takeKnots_40 (by decide) (fun _ => ?_) (fun c40 => absurd c40 (by decide))
    refine zRx.iconst ⟨by decide, by decide⟩ dX11_takeKnots_57 ?_
    refine zRx.istore_n (ls' := [(0, zP 0), (1, .inl 0), (2, .inl 1)]) rfl rfl (by decide) dX11_takeKnots_58 ?_
    refine zRx.iinc (n := 1) (ls' := [(0, zP 0), (1, .inl 0), (2, .inl 2)]) 2 rfl ⟨by decide, by decide⟩ rfl (by decide) dX11_takeKnots_59 ?_
    refine zRx.goto (tgt := 19) dX11_takeKnots_62 (by decide) ?_
    refine zRx.iload_n 2 rfl rfl dX11_takeKnots_19 ?_
    refine zRx.iconst ⟨by decide, by decide⟩ dX11_takeKnots_20 ?_
    refine zRx.icmp_ge (tgt := 65) dX11_takeKnots_21 (by decide) (fun c21 => absurd c21 (by decide)) (fun _ => ?_)
    refine zRx.aload_n 0 rfl rfl dX11_takeKnots_24 ?_
    refine zRx.getR (a := 0) (b := 98) fl_11_95 rfl rfl dX11_takeKnots_25 ?_
    refine zRx.iload_n 2 rfl rfl dX11_takeKnots_28 ?_
    refine zRx.aload_n 0 rfl rfl dX11_takeKnots_29 ?_
    refine zRx.getR (a := 0) (b := 1) fl_11_12 rfl rfl dX11_takeKnots_30 ?_
    refine zRx.getR (a := 1) (b := 2) fl_11_388 rfl rfl dX11_takeKnots_33 ?_
    refine zRx.iload_n 2 rfl rfl dX11_takeKnots_36 ?_
    refine zRx.ialdv (v := σ 2 2) ((zu_ne _ _ _ _ (by decide)).trans (zu_ne _ _ _ _ (by decide))) rfl (by decide) (by decide) dX11_takeKnots_37 ?_
    refine zRx.iast rfl (by decide) (by decide) dX11_takeKnots_38 ?_
    refine zRx.iload_n 1 rfl rfl dX11_takeKnots_39 ?_
    refine zRx.if_eq (tgt := 57) dX11_takeKnots_40 (by decide) (fun _ => ?_) (fun c40 => absurd c40 (by decide))
    refine zRx.iconst ⟨by decide, by decide⟩ dX11_takeKnots_57 ?_
    refine zRx.istore_n (ls' := [(0, zP 0), (1, .inl 0), (2, .inl 2)]) rfl rfl (by decide) dX11_takeKnots_58 ?_
    refine zRx.iinc (n := 1) (ls' := [(0, zP 0), (1, .inl 0), (2, .inl 3)]) 2 rfl ⟨by decide, by decide⟩ rfl (by decide) dX11_takeKnots_59 ?_
    refine zRx.goto (tgt := 19) dX11_takeKnots_62 (by decide) ?_
    refine zRx.iload_n 2 rfl rfl dX11_takeKnots_19 ?_
    refine zRx.iconst ⟨by decide, by decide⟩ dX11_takeKnots_20 ?_
    refine zRx.icmp_ge (tgt := 65) dX11_takeKnots_21 (by decide) (fun c21 => absurd c21 (by decide)) (fun _ => ?_)
    refine zRx.aload_n 0 rfl rfl dX11_takeKnots_24 ?_
    refine zRx.getR (a := 0) (b := 98) fl_11_95 rfl rfl dX11_takeKnots_25 ?_
    refine zRx.iload_n 2 rfl rfl dX11_takeKnots_28 ?_
    refine zRx.aload_n 0 rfl rfl dX11_takeKnots_29 ?_
    refine zRx.getR (a := 0) (b := 1) fl_11_12 rfl rfl dX11_takeKnots_30 ?_
    refine zRx.getR (a := 1) (b := 2) fl_11_388 rfl rfl dX11_takeKnots_33 ?_
    refine zRx.iload_n 2 rfl rfl dX11_takeKnots_36 ?_
    refine zRx.ialdv (v := σ 2 3) ((zu_ne _ _ _ _ (by decide)).trans ((zu_ne _ _ _ _ (by decide)).trans (zu_ne _ _ _ _ (by decide)))) rfl (by decide) (by decide) dX11_takeKnots_37 ?_
    refine zRx.iast rfl (by decide) (by decide) dX11_takeKnots_38 ?_
    refine zRx.iload_n 1 rfl rfl dX11_takeKnots_39 ?_
    refine zRx.if_eq (tgt := 57) dX11_takeKnots_40 (by decide) (fun _ => ?_) (fun c40 => absurd c40 (by decide))
    refine zRx.iconst ⟨by decide, by decide⟩ dX11_takeKnots_57 ?_
    refine zRx.istore_n (ls' := [(0, zP 0), (1, .inl 0), (2, .inl 3)]) rfl rfl (by decide) dX11_takeKnots_58 ?_
    refine zRx.iinc (n := 1) (ls' := [(0, zP 0), (1, .inl 0), (2, .inl 4)]) 2 rfl ⟨by decide, by decide⟩ rfl (by decide) dX11_takeKnots_59 ?_
    refine zRx.goto (tgt := 19) dX11_takeKnots_62 (by decide) ?_
    refine zRx.iload_n 2 rfl rfl dX11_takeKnots_19 ?_
    refine zRx.iconst ⟨by decide, by decide⟩ dX11_takeKnots_20 ?_
    refine zRx.icmp_ge (tgt := 65) dX11_takeKnots_21 (by decide) (fun _ => ?_) (fun c21 => absurd c21 (by decide))
    refine zRx.aload_n 0 rfl rfl dX11_takeKnots_65 ?_
    refine zRx.getR (a := 0) (b := 1) fl_11_12 rfl rfl dX11_takeKnots_66 ?_
    refine zRx.iconst ⟨by decide, by decide⟩ dX11_takeKnots_69 ?_
    refine zRx.putI (a := 1) (ji := 1) pl_11_110 rfl rfl rfl dX11_takeKnots_70 ?_
    refine zRx.iload_n 1 rfl rfl dX11_takeKnots_73 ?_
    exact zR.zret rfl ⟨by decide, by decide⟩ dX11_takeKnots_74 ⟨by unfold V_X11_takeKnots; rw [if_neg c8], rfl⟩
  · refine zRx.iconst ⟨by decide, by decide⟩ dX11_takeKnots_11 ?_
    refine zRx.goto (tgt := 16) dX11_takeKnots_12 (by decide) ?_
    refine zRx.istore_n (ls' := [(0, zP 0), (1, .inl 1)]) rfl rfl (by decide) dX11_takeKnots_16 ?_
    refine zRx.iconst ⟨by decide, by decide⟩ dX11_takeKnots_17 ?_
    refine zRx.istore_n (ls' := [(0, zP 0), (1, .inl 1), (2, .inl 0)]) rfl rfl (by decide) dX11_takeKnots_18 ?_
    refine zRx.iload_n 2 rfl rfl dX11_takeKnots_19 ?_
    refine zRx.iconst ⟨by decide, by decide⟩ dX11_takeKnots_20 ?_
    refine zRx.icmp_ge (tgt := 65) dX11_takeKnots_21 (by decide) (fun c21 => absurd c21 (by decide)) (fun _ => ?_)
    refine zRx.aload_n 0 rfl rfl dX11_takeKnots_24 ?_
    refine zRx.getR (a := 0) (b := 98) fl_11_95 rfl rfl dX11_takeKnots_25 ?_
    refine zRx.iload_n 2 rfl rfl dX11_takeKnots_28 ?_
    refine zRx.aload_n 0 rfl rfl dX11_takeKnots_29 ?_
    refine zRx.getR (a := 0) (b := 1) fl_11_12 rfl rfl dX11_takeKnots_30 ?_
    refine zRx.getR (a := 1) (b := 2) fl_11_388 rfl rfl dX11_takeKnots_33 ?_
    refine zRx.iload_n 2 rfl rfl dX11_takeKnots_36 ?_
    refine zRx.ialdv (v := σ 2 0) rfl rfl (by decide) (by decide) dX11_takeKnots_37 ?_
    refine zRx.iast rfl (by decide) (by decide) dX11_takeKnots_38 ?_
    refine zRx.iload_n 1 rfl rfl dX11_takeKnots_39 ?_
    refine zRx.if_eq (tgt := 57) dX11_takeKnots_40 (by decide) (fun c40 => absurd c40 (by decide)) (fun _ => ?_)
    refine zRx.aload_n 0 rfl rfl dX11_takeKnots_43 ?_
    refine zRx.getR (a := 0) (b := 98) fl_11_95 rfl rfl dX11_takeKnots_44 ?_
    refine zRx.iload_n 2 rfl rfl dX11_takeKnots_47 ?_
    refine zRx.ialdv (v := σ 2 0) (zu_at _ _ _ _) rfl (by decide) (by decide) dX11_takeKnots_48 ?_
    refine zRx.iconst ⟨by decide, by decide⟩ dX11_takeKnots_49 ?_
    refine zRx.icmp_gt (tgt := 57) dX11_takeKnots_50 (by decide) (fun c50 => ?_) (fun c50 => ?_)
    · refine zRx.iconst ⟨by decide, by decide⟩ dX11_takeKnots_57 ?_
      refine zRx.istore_n (ls' := [(0, zP 0), (1, .inl 0), (2, .inl 0)]) rfl rfl (by decide) dX11_takeKnots_58 ?_
      refine zRx.iinc (n := 1) (ls' := [(0, zP 0), (1, .inl 0), (2, .inl 1)]) 2 rfl ⟨by decide, by decide⟩ rfl (by decide) dX11_takeKnots_59 ?_
      refine zRx.goto (tgt := 19) dX11_takeKnots_62 (by decide) ?_
      refine zRx.iload_n 2 rfl rfl dX11_takeKnots_19 ?_
      refine zRx.iconst ⟨by decide, by decide⟩ dX11_takeKnots_20 ?_
      refine zRx.icmp_ge (tgt := 65) dX11_takeKnots_21 (by decide) (fun c21 => absurd c21 (by decide)) (fun _ => ?_)
      refine zRx.aload_n 0 rfl rfl dX11_takeKnots_24 ?_
      refine zRx.getR (a := 0) (b := 98) fl_11_95 rfl rfl dX11_takeKnots_25 ?_
      refine zRx.iload_n 2 rfl rfl dX11_takeKnots_28 ?_
      refine zRx.aload_n 0 rfl rfl dX11_takeKnots_29 ?_
      refine zRx.getR (a := 0) (b := 1) fl_11_12 rfl rfl dX11_takeKnots_30 ?_
      refine zRx.getR (a := 1) (b := 2) fl_11_388 rfl rfl dX11_takeKnots_33 ?_
      refine zRx.iload_n 2 rfl rfl dX11_takeKnots_36 ?_
      refine zRx.ialdv (v := σ 2 1) (zu_ne _ _ _ _ (by decide)) rfl (by decide) (by decide) dX11_takeKnots_37 ?_
      refine zRx.iast rfl (by decide) (by decide) dX11_takeKnots_38 ?_
      refine zRx.iload_n 1 rfl rfl dX11_takeKnots_39 ?_
      refine zRx.if_eq (tgt := 57) dX11_takeKnots_40 (by decide) (fun _ => ?_) (fun c40 => absurd c40 (by decide))
      refine zRx.iconst ⟨by decide, by decide⟩ dX11_takeKnots_57 ?_
      refine zRx.istore_n (ls' := [(0, zP 0), (1, .inl 0), (2, .inl 1)]) rfl rfl (by decide) dX11_takeKnots_58 ?_
      refine zRx.iinc (n := 1) (ls' := [(0, zP 0), (1, .inl 0), (2, .inl 2)]) 2 rfl ⟨by decide, by decide⟩ rfl (by decide) dX11_takeKnots_59 ?_
      refine zRx.goto (tgt := 19) dX11_takeKnots_62 (by decide) ?_
      refine zRx.iload_n 2 rfl rfl dX11_takeKnots_19 ?_
      refine zRx.iconst ⟨by decide, by decide⟩ dX11_takeKnots_20 ?_
      refine zRx.icmp_ge (tgt := 65) dX11_takeKnots_21 (by decide) (fun c21 => absurd c21 (by decide)) (fun _ => ?_)
      refine zRx.aload_n 0 rfl rfl dX11_takeKnots_24 ?_
      refine zRx.getR (a := 0) (b := 98) fl_11_95 rfl rfl dX11_takeKnots_25 ?_
      refine zRx.iload_n 2 rfl rfl dX11_takeKnots_28 ?_
      refine zRx.aload_n 0 rfl rfl dX11_takeKnots_29 ?_
      refine zRx.getR (a := 0) (b := 1) fl_11_12 rfl rfl dX11_takeKnots_30 ?_
      refine zRx.getR (a := 1) (b := 2) fl_11_388 rfl rfl dX11_takeKnots_33 ?_
      refine zRx.iload_n 2 rfl rfl dX11_takeKnots_36 ?_
      refine zRx.ialdv (v := σ 2 2) ((zu_ne _ _ _ _ (by decide)).trans (zu_ne _ _ _ _ (by decide))) rfl (by decide) (by decide) dX11_takeKnots_37 ?_
      refine zRx.iast rfl (by decide) (by decide) dX11_takeKnots_38 ?_
      refine zRx.iload_n 1 rfl rfl dX11_takeKnots_39 ?_
      refine zRx.if_eq (tgt := 57) dX11_takeKnots_40 (by decide) (fun _ => ?_) (fun c40 => absurd c40 (by decide))
      refine zRx.iconst ⟨by decide, by decide⟩ dX11_takeKnots_57 ?_
      refine zRx.istore_n (ls' := [(0, zP 0), (1, .inl 0), (2, .inl 2)]) rfl rfl (by decide) dX11_takeKnots_58 ?_
      refine zRx.iinc (n := 1) (ls' := [(0, zP 0), (1, .inl 0), (2, .inl 3)]) 2 rfl ⟨by decide, by decide⟩ rfl (by decide) dX11_takeKnots_59 ?_
      refine zRx.goto (tgt := 19) dX11_takeKnots_62 (by decide) ?_
      refine zRx.iload_n 2 rfl rfl dX11_takeKnots_19 ?_
      refine zRx.iconst ⟨by decide, by decide⟩ dX11_takeKnots_20 ?_
      refine zRx.icmp_ge (tgt := 65) dX11_takeKnots_21 (by decide) (fun c21 => absurd c21 (by decide)) (fun _ => ?_)
      refine zRx.aload_n 0 rfl rfl dX11_takeKnots_24 ?_
      refine zRx.getR (a := 0) (b := 98) fl_11_95 rfl rfl dX11_takeKnots_25 ?_
      refine zRx.iload_n 2 rfl rfl dX11_takeKnots_28 ?_
      refine zRx.aload_n 0 rfl rfl dX11_takeKnots_29 ?_
      refine zRx.getR (a := 0) (b := 1) fl_11_12 rfl rfl dX11_takeKnots_30 ?_
      refine zRx.getR (a := 1) (b := 2) fl_11_388 rfl rfl dX11_takeKnots_33 ?_
      refine zRx.iload_n 2 rfl rfl dX11_takeKnots_36 ?_
      refine zRx.ialdv (v := σ 2 3) ((zu_ne _ _ _ _ (by decide)).trans ((zu_ne _ _ _ _ (by decide)).trans (zu_ne _ _ _ _ (by decide)))) rfl (by decide) (by decide) dX11_takeKnots_37 ?_
      refine zRx.iast rfl (by decide) (by decide) dX11_takeKnots_38 ?_
      refine zRx.iload_n 1 rfl rfl dX11_takeKnots_39 ?_
      refine zRx.if_eq (tgt := 57) dX11_takeKnots_40 (by decide) (fun _ => ?_) (fun c40 => absurd c40 (by decide))
      refine zRx.iconst ⟨by decide, by decide⟩ dX11_takeKnots_57 ?_
      refine zRx.istore_n (ls' := [(0, zP 0), (1, .inl 0), (2, .inl 3)]) rfl rfl (by decide) dX11_takeKnots_58 ?_
      refine zRx.iinc (n := 1) (ls' := [(0, zP 0), (1, .inl 0), (2, .inl 4)]) 2 rfl ⟨by decide, by decide⟩ rfl (by decide) dX11_takeKnots_59 ?_
      refine zRx.goto (tgt := 19) dX11_takeKnots_62 (by decide) ?_
      refine zRx.iload_n 2 rfl rfl dX11_takeKnots_19 ?_
      refine zRx.iconst ⟨by decide, by decide⟩ dX11_takeKnots_20 ?_
      refine zRx.icmp_ge (tgt := 65) dX11_takeKnots_21 (by decide) (fun _ => ?_) (fun c21 => absurd c21 (by decide))
      refine zRx.aload_n 0 rfl rfl dX11_takeKnots_65 ?_
      refine zRx.getR (a := 0) (b := 1) fl_11_12 rfl rfl dX11_takeKnots_66 ?_
      refine zRx.iconst ⟨by decide, by decide⟩ dX11_takeKnots_69 ?_
      refine zRx.putI (a := 1) (ji := 1) pl_11_110 rfl rfl rfl dX11_takeKnots_70 ?_
      refine zRx.iload_n 1 rfl rfl dX11_takeKnots_73 ?_
      exact zR.zret rfl ⟨by decide, by decide⟩ dX11_takeKnots_74 ⟨by unfold V_X11_takeKnots; rw [if_pos c8, if_pos c50], rfl⟩
    · refine zRx.iconst ⟨by decide, by decide⟩ dX11_takeKnots_53 ?_
      refine zRx.goto (tgt := 58) dX11_takeKnots_54 (by decide) ?_
      refine zRx.istore_n (ls' := [(0, zP 0), (1, .inl 1), (2, .inl 0)]) rfl rfl (by decide) dX11_takeKnots_58 ?_
      refine zRx.iinc (n := 1) (ls' := [(0, zP 0), (1, .inl 1), (2, .inl 1)]) 2 rfl ⟨by decide, by decide⟩ rfl (by decide) dX11_takeKnots_59 ?_
      refine zRx.goto (tgt := 19) dX11_takeKnots_62 (by decide) ?_
      refine zRx.iload_n 2 rfl rfl dX11_takeKnots_19 ?_
      refine zRx.iconst ⟨by decide, by decide⟩ dX11_takeKnots_20 ?_
      refine zRx.icmp_ge (tgt := 65) dX11_takeKnots_21 (by decide) (fun c21 => absurd c21 (by decide)) (fun _ => ?_)
      refine zRx.aload_n 0 rfl rfl dX11_takeKnots_24 ?_
      refine zRx.getR (a := 0) (b := 98) fl_11_95 rfl rfl dX11_takeKnots_25 ?_
      refine zRx.iload_n 2 rfl rfl dX11_takeKnots_28 ?_
      refine zRx.aload_n 0 rfl rfl dX11_takeKnots_29 ?_
      refine zRx.getR (a := 0) (b := 1) fl_11_12 rfl rfl dX11_takeKnots_30 ?_
      refine zRx.getR (a := 1) (b := 2) fl_11_388 rfl rfl dX11_takeKnots_33 ?_
      refine zRx.iload_n 2 rfl rfl dX11_takeKnots_36 ?_
      refine zRx.ialdv (v := σ 2 1) (zu_ne _ _ _ _ (by decide)) rfl (by decide) (by decide) dX11_takeKnots_37 ?_
      refine zRx.iast rfl (by decide) (by decide) dX11_takeKnots_38 ?_
      refine zRx.iload_n 1 rfl rfl dX11_takeKnots_39 ?_
      refine zRx.if_eq (tgt := 57) dX11_takeKnots_40 (by decide) (fun c40 => absurd c40 (by decide)) (fun _ => ?_)
      refine zRx.aload_n 0 rfl rfl dX11_takeKnots_43 ?_
      refine zRx.getR (a := 0) (b := 98) fl_11_95 rfl rfl dX11_takeKnots_44 ?_
      refine zRx.iload_n 2 rfl rfl dX11_takeKnots_47 ?_
      refine zRx.ialdv (v := σ 2 1) (zu_at _ _ _ _) rfl (by decide) (by decide) dX11_takeKnots_48 ?_
      refine zRx.iconst ⟨by decide, by decide⟩ dX11_takeKnots_49 ?_
      refine zRx.icmp_gt (tgt := 57) dX11_takeKnots_50 (by decide) (fun c50_2 => ?_) (fun c50_2 => ?_)
      · refine zRx.iconst ⟨by decide, by decide⟩ dX11_takeKnots_57 ?_
        refine zRx.istore_n (ls' := [(0, zP 0), (1, .inl 0), (2, .inl 1)]) rfl rfl (by decide) dX11_takeKnots_58 ?_
        refine zRx.iinc (n := 1) (ls' := [(0, zP 0), (1, .inl 0), (2, .inl 2)]) 2 rfl ⟨by decide, by decide⟩ rfl (by decide) dX11_takeKnots_59 ?_
        refine zRx.goto (tgt := 19) dX11_takeKnots_62 (by decide) ?_
        refine zRx.iload_n 2 rfl rfl dX11_takeKnots_19 ?_
        refine zRx.iconst ⟨by decide, by decide⟩ dX11_takeKnots_20 ?_
        refine zRx.icmp_ge (tgt := 65) dX11_takeKnots_21 (by decide) (fun c21 => absurd c21 (by decide)) (fun _ => ?_)
        refine zRx.aload_n 0 rfl rfl dX11_takeKnots_24 ?_
        refine zRx.getR (a := 0) (b := 98) fl_11_95 rfl rfl dX11_takeKnots_25 ?_
        refine zRx.iload_n 2 rfl rfl dX11_takeKnots_28 ?_
        refine zRx.aload_n 0 rfl rfl dX11_takeKnots_29 ?_
        refine zRx.getR (a := 0) (b := 1) fl_11_12 rfl rfl dX11_takeKnots_30 ?_
        refine zRx.getR (a := 1) (b := 2) fl_11_388 rfl rfl dX11_takeKnots_33 ?_
        refine zRx.iload_n 2 rfl rfl dX11_takeKnots_36 ?_
        refine zRx.ialdv (v := σ 2 2) ((zu_ne _ _ _ _ (by decide)).trans (zu_ne _ _ _ _ (by decide))) rfl (by decide) (by decide) dX11_takeKnots_37 ?_
        refine zRx.iast rfl (by decide) (by decide) dX11_takeKnots_38 ?_
        refine zRx.iload_n 1 rfl rfl dX11_takeKnots_39 ?_
        refine zRx.if_eq (tgt := 57) dX11_takeKnots_40 (by decide) (fun _ => ?_) (fun c40 => absurd c40 (by decide))
        refine zRx.iconst ⟨by decide, by decide⟩ dX11_takeKnots_57 ?_
        refine zRx.istore_n (ls' := [(0, zP 0), (1, .inl 0), (2, .inl 2)]) rfl rfl (by decide) dX11_takeKnots_58 ?_
        refine zRx.iinc (n := 1) (ls' := [(0, zP 0), (1, .inl 0), (2, .inl 3)]) 2 rfl ⟨by decide, by decide⟩ rfl (by decide) dX11_takeKnots_59 ?_
        refine zRx.goto (tgt := 19) dX11_takeKnots_62 (by decide) ?_
        refine zRx.iload_n 2 rfl rfl dX11_takeKnots_19 ?_
        refine zRx.iconst ⟨by decide, by decide⟩ dX11_takeKnots_20 ?_
        refine zRx.icmp_ge (tgt := 65) dX11_takeKnots_21 (by decide) (fun c21 => absurd c21 (by decide)) (fun _ => ?_)
        refine zRx.aload_n 0 rfl rfl dX11_takeKnots_24 ?_
        refine zRx.getR (a := 0) (b := 98) fl_11_95 rfl rfl dX11_takeKnots_25 ?_
        refine zRx.iload_n 2 rfl rfl dX11_takeKnots_28 ?_
        refine zRx.aload_n 0 rfl rfl dX11_takeKnots_29 ?_
        refine zRx.getR (a := 0) (b := 1) fl_11_12 rfl rfl dX11_takeKnots_30 ?_
        refine zRx.getR (a := 1) (b := 2) fl_11_388 rfl rfl dX11_takeKnots_33 ?_
        refine zRx.iload_n 2 rfl rfl dX11_takeKnots_36 ?_
        refine zRx.ialdv (v := σ 2 3) ((zu_ne _ _ _ _ (by decide)).trans ((zu_ne _ _ _ _ (by decide)).trans (zu_ne _ _ _ _ (by decide)))) rfl (by decide) (by decide) dX11_takeKnots_37 ?_
        refine zRx.iast rfl (by decide) (by decide) dX11_takeKnots_38 ?_
        refine zRx.iload_n 1 rfl rfl dX11_takeKnots_39 ?_
        refine zRx.if_eq (tgt := 57) dX11_takeKnots_40 (by decide) (fun _ => ?_) (fun c40 => absurd c40 (by decide))
        refine zRx.iconst ⟨by decide, by decide⟩ dX11_takeKnots_57 ?_
        refine zRx.istore_n (ls' := [(0, zP 0), (1, .inl 0), (2, .inl 3)]) rfl rfl (by decide) dX11_takeKnots_58 ?_
        refine zRx.iinc (n := 1) (ls' := [(0, zP 0), (1, .inl 0), (2, .inl 4)]) 2 rfl ⟨by decide, by decide⟩ rfl (by decide) dX11_takeKnots_59 ?_
        refine zRx.goto (tgt := 19) dX11_takeKnots_62 (by decide) ?_
        refine zRx.iload_n 2 rfl rfl dX11_takeKnots_19 ?_
        refine zRx.iconst ⟨by decide, by decide⟩ dX11_takeKnots_20 ?_
        refine zRx.icmp_ge (tgt := 65) dX11_takeKnots_21 (by decide) (fun _ => ?_) (fun c21 => absurd c21 (by decide))
        refine zRx.aload_n 0 rfl rfl dX11_takeKnots_65 ?_
        refine zRx.getR (a := 0) (b := 1) fl_11_12 rfl rfl dX11_takeKnots_66 ?_
        refine zRx.iconst ⟨by decide, by decide⟩ dX11_takeKnots_69 ?_
        refine zRx.putI (a := 1) (ji := 1) pl_11_110 rfl rfl rfl dX11_takeKnots_70 ?_
        refine zRx.iload_n 1 rfl rfl dX11_takeKnots_73 ?_
        exact zR.zret rfl ⟨by decide, by decide⟩ dX11_takeKnots_74 ⟨by unfold V_X11_takeKnots; rw [if_pos c8, if_neg (Int.not_lt.mpr c50), if_pos c50_2], rfl⟩
      · refine zRx.iconst ⟨by decide, by decide⟩ dX11_takeKnots_53 ?_
        refine zRx.goto (tgt := 58) dX11_takeKnots_54 (by decide) ?_
        refine zRx.istore_n (ls' := [(0, zP 0), (1, .inl 1), (2, .inl 1)]) rfl rfl (by decide) dX11_takeKnots_58 ?_
        refine zRx.iinc (n := 1) (ls' := [(0, zP 0), (1, .inl 1), (2, .inl 2)]) 2 rfl ⟨by decide, by decide⟩ rfl (by decide) dX11_takeKnots_59 ?_
        refine zRx.goto (tgt := 19) dX11_takeKnots_62 (by decide) ?_
        refine zRx.iload_n 2 rfl rfl dX11_takeKnots_19 ?_
        refine zRx.iconst ⟨by decide, by decide⟩ dX11_takeKnots_20 ?_
        refine zRx.icmp_ge (tgt := 65) dX11_takeKnots_21 (by decide) (fun c21 => absurd c21 (by decide)) (fun _ => ?_)
        refine zRx.aload_n 0 rfl rfl dX11_takeKnots_24 ?_
        refine zRx.getR (a := 0) (b := 98) fl_11_95 rfl rfl dX11_takeKnots_25 ?_
        refine zRx.iload_n 2 rfl rfl dX11_takeKnots_28 ?_
        refine zRx.aload_n 0 rfl rfl dX11_takeKnots_29 ?_
        refine zRx.getR (a := 0) (b := 1) fl_11_12 rfl rfl dX11_takeKnots_30 ?_
        refine zRx.getR (a := 1) (b := 2) fl_11_388 rfl rfl dX11_takeKnots_33 ?_
        refine zRx.iload_n 2 rfl rfl dX11_takeKnots_36 ?_
        refine zRx.ialdv (v := σ 2 2) ((zu_ne _ _ _ _ (by decide)).trans (zu_ne _ _ _ _ (by decide))) rfl (by decide) (by decide) dX11_takeKnots_37 ?_
        refine zRx.iast rfl (by decide) (by decide) dX11_takeKnots_38 ?_
        refine zRx.iload_n 1 rfl rfl dX11_takeKnots_39 ?_
        refine zRx.if_eq (tgt := 57) dX11_takeKnots_40 (by decide) (fun c40 => absurd c40 (by decide)) (fun _ => ?_)
        refine zRx.aload_n 0 rfl rfl dX11_takeKnots_43 ?_
        refine zRx.getR (a := 0) (b := 98) fl_11_95 rfl rfl dX11_takeKnots_44 ?_
        refine zRx.iload_n 2 rfl rfl dX11_takeKnots_47 ?_
        refine zRx.ialdv (v := σ 2 2) (zu_at _ _ _ _) rfl (by decide) (by decide) dX11_takeKnots_48 ?_
        refine zRx.iconst ⟨by decide, by decide⟩ dX11_takeKnots_49 ?_
        refine zRx.icmp_gt (tgt := 57) dX11_takeKnots_50 (by decide) (fun c50_3 => ?_) (fun c50_3 => ?_)
        · refine zRx.iconst ⟨by decide, by decide⟩ dX11_takeKnots_57 ?_
          refine zRx.istore_n (ls' := [(0, zP 0), (1, .inl 0), (2, .inl 2)]) rfl rfl (by decide) dX11_takeKnots_58 ?_
          refine zRx.iinc (n := 1) (ls' := [(0, zP 0), (1, .inl 0), (2, .inl 3)]) 2 rfl ⟨by decide, by decide⟩ rfl (by decide) dX11_takeKnots_59 ?_
          refine zRx.goto (tgt := 19) dX11_takeKnots_62 (by decide) ?_
          refine zRx.iload_n 2 rfl rfl dX11_takeKnots_19 ?_
          refine zRx.iconst ⟨by decide, by decide⟩ dX11_takeKnots_20 ?_
          refine zRx.icmp_ge (tgt := 65) dX11_takeKnots_21 (by decide) (fun c21 => absurd c21 (by decide)) (fun _ => ?_)
          refine zRx.aload_n 0 rfl rfl dX11_takeKnots_24 ?_
          refine zRx.getR (a := 0) (b := 98) fl_11_95 rfl rfl dX11_takeKnots_25 ?_
          refine zRx.iload_n 2 rfl rfl dX11_takeKnots_28 ?_
          refine zRx.aload_n 0 rfl rfl dX11_takeKnots_29 ?_
          refine zRx.getR (a := 0) (b := 1) fl_11_12 rfl rfl dX11_takeKnots_30 ?_
          refine zRx.getR (a := 1) (b := 2) fl_11_388 rfl rfl dX11_takeKnots_33 ?_
          refine zRx.iload_n 2 rfl rfl dX11_takeKnots_36 ?_
          refine zRx.ialdv (v := σ 2 3) ((zu_ne _ _ _ _ (by decide)).trans ((zu_ne _ _ _ _ (by decide)).trans (zu_ne _ _ _ _ (by decide)))) rfl (by decide) (by decide) dX11_takeKnots_37 ?_
          refine zRx.iast rfl (by decide) (by decide) dX11_takeKnots_38 ?_
          refine zRx.iload_n 1 rfl rfl dX11_takeKnots_39 ?_
          refine zRx.if_eq (tgt := 57) dX11_takeKnots_40 (by decide) (fun _ => ?_) (fun c40 => absurd c40 (by decide))
          refine zRx.iconst ⟨by decide, by decide⟩ dX11_takeKnots_57 ?_
          refine zRx.istore_n (ls' := [(0, zP 0), (1, .inl 0), (2, .inl 3)]) rfl rfl (by decide) dX11_takeKnots_58 ?_
          refine zRx.iinc (n := 1) (ls' := [(0, zP 0), (1, .inl 0), (2, .inl 4)]) 2 rfl ⟨by decide, by decide⟩ rfl (by decide) dX11_takeKnots_59 ?_
          refine zRx.goto (tgt := 19) dX11_takeKnots_62 (by decide) ?_
          refine zRx.iload_n 2 rfl rfl dX11_takeKnots_19 ?_
          refine zRx.iconst ⟨by decide, by decide⟩ dX11_takeKnots_20 ?_
          refine zRx.icmp_ge (tgt := 65) dX11_takeKnots_21 (by decide) (fun _ => ?_) (fun c21 => absurd c21 (by decide))
          refine zRx.aload_n 0 rfl rfl dX11_takeKnots_65 ?_
          refine zRx.getR (a := 0) (b := 1) fl_11_12 rfl rfl dX11_takeKnots_66 ?_
          refine zRx.iconst ⟨by decide, by decide⟩ dX11_takeKnots_69 ?_
          refine zRx.putI (a := 1) (ji := 1) pl_11_110 rfl rfl rfl dX11_takeKnots_70 ?_
          refine zRx.iload_n 1 rfl rfl dX11_takeKnots_73 ?_
          exact zR.zret rfl ⟨by decide, by decide⟩ dX11_takeKnots_74 ⟨by unfold V_X11_takeKnots; rw [if_pos c8, if_neg (Int.not_lt.mpr c50), if_neg (Int.not_lt.mpr c50_2), if_pos c50_3], rfl⟩
        · refine zRx.iconst ⟨by decide, by decide⟩ dX11_takeKnots_53 ?_
          refine zRx.goto (tgt := 58) dX11_takeKnots_54 (by decide) ?_
          refine zRx.istore_n (ls' := [(0, zP 0), (1, .inl 1), (2, .inl 2)]) rfl rfl (by decide) dX11_takeKnots_58 ?_
          refine zRx.iinc (n := 1) (ls' := [(0, zP 0), (1, .inl 1), (2, .inl 3)]) 2 rfl ⟨by decide, by decide⟩ rfl (by decide) dX11_takeKnots_59 ?_
          refine zRx.goto (tgt := 19) dX11_takeKnots_62 (by decide) ?_
          refine zRx.iload_n 2 rfl rfl dX11_takeKnots_19 ?_
          refine zRx.iconst ⟨by decide, by decide⟩ dX11_takeKnots_20 ?_
          refine zRx.icmp_ge (tgt := 65) dX11_takeKnots_21 (by decide) (fun c21 => absurd c21 (by decide)) (fun _ => ?_)
          refine zRx.aload_n 0 rfl rfl dX11_takeKnots_24 ?_
          refine zRx.getR (a := 0) (b := 98) fl_11_95 rfl rfl dX11_takeKnots_25 ?_
          refine zRx.iload_n 2 rfl rfl dX11_takeKnots_28 ?_
          refine zRx.aload_n 0 rfl rfl dX11_takeKnots_29 ?_
          refine zRx.getR (a := 0) (b := 1) fl_11_12 rfl rfl dX11_takeKnots_30 ?_
          refine zRx.getR (a := 1) (b := 2) fl_11_388 rfl rfl dX11_takeKnots_33 ?_
          refine zRx.iload_n 2 rfl rfl dX11_takeKnots_36 ?_
          refine zRx.ialdv (v := σ 2 3) ((zu_ne _ _ _ _ (by decide)).trans ((zu_ne _ _ _ _ (by decide)).trans (zu_ne _ _ _ _ (by decide)))) rfl (by decide) (by decide) dX11_takeKnots_37 ?_
          refine zRx.iast rfl (by decide) (by decide) dX11_takeKnots_38 ?_
          refine zRx.iload_n 1 rfl rfl dX11_takeKnots_39 ?_
          refine zRx.if_eq (tgt := 57) dX11_takeKnots_40 (by decide) (fun c40 => absurd c40 (by decide)) (fun _ => ?_)
          refine zRx.aload_n 0 rfl rfl dX11_takeKnots_43 ?_
          refine zRx.getR (a := 0) (b := 98) fl_11_95 rfl rfl dX11_takeKnots_44 ?_
          refine zRx.iload_n 2 rfl rfl dX11_takeKnots_47 ?_
          refine zRx.ialdv (v := σ 2 3) (zu_at _ _ _ _) rfl (by decide) (by decide) dX11_takeKnots_48 ?_
          refine zRx.iconst ⟨by decide, by decide⟩ dX11_takeKnots_49 ?_
          refine zRx.icmp_gt (tgt := 57) dX11_takeKnots_50 (by decide) (fun c50_4 => ?_) (fun c50_4 => ?_)
          · refine zRx.iconst ⟨by decide, by decide⟩ dX11_takeKnots_57 ?_
            refine zRx.istore_n (ls' := [(0, zP 0), (1, .inl 0), (2, .inl 3)]) rfl rfl (by decide) dX11_takeKnots_58 ?_
            refine zRx.iinc (n := 1) (ls' := [(0, zP 0), (1, .inl 0), (2, .inl 4)]) 2 rfl ⟨by decide, by decide⟩ rfl (by decide) dX11_takeKnots_59 ?_
            refine zRx.goto (tgt := 19) dX11_takeKnots_62 (by decide) ?_
            refine zRx.iload_n 2 rfl rfl dX11_takeKnots_19 ?_
            refine zRx.iconst ⟨by decide, by decide⟩ dX11_takeKnots_20 ?_
            refine zRx.icmp_ge (tgt := 65) dX11_takeKnots_21 (by decide) (fun _ => ?_) (fun c21 => absurd c21 (by decide))
            refine zRx.aload_n 0 rfl rfl dX11_takeKnots_65 ?_
            refine zRx.getR (a := 0) (b := 1) fl_11_12 rfl rfl dX11_takeKnots_66 ?_
            refine zRx.iconst ⟨by decide, by decide⟩ dX11_takeKnots_69 ?_
            refine zRx.putI (a := 1) (ji := 1) pl_11_110 rfl rfl rfl dX11_takeKnots_70 ?_
            refine zRx.iload_n 1 rfl rfl dX11_takeKnots_73 ?_
            exact zR.zret rfl ⟨by decide, by decide⟩ dX11_takeKnots_74 ⟨by unfold V_X11_takeKnots; rw [if_pos c8, if_neg (Int.not_lt.mpr c50), if_neg (Int.not_lt.mpr c50_2), if_neg (Int.not_lt.mpr c50_3), if_pos c50_4], rfl⟩
          · refine zRx.iconst ⟨by decide, by decide⟩ dX11_takeKnots_53 ?_
            refine zRx.goto (tgt := 58) dX11_takeKnots_54 (by decide) ?_
            refine zRx.istore_n (ls' := [(0, zP 0), (1, .inl 1), (2, .inl 3)]) rfl rfl (by decide) dX11_takeKnots_58 ?_
            refine zRx.iinc (n := 1) (ls' := [(0, zP 0), (1, .inl 1), (2, .inl 4)]) 2 rfl ⟨by decide, by decide⟩ rfl (by decide) dX11_takeKnots_59 ?_
            refine zRx.goto (tgt := 19) dX11_takeKnots_62 (by decide) ?_
            refine zRx.iload_n 2 rfl rfl dX11_takeKnots_19 ?_
            refine zRx.iconst ⟨by decide, by decide⟩ dX11_takeKnots_20 ?_
            refine zRx.icmp_ge (tgt := 65) dX11_takeKnots_21 (by decide) (fun _ => ?_) (fun c21 => absurd c21 (by decide))
            refine zRx.aload_n 0 rfl rfl dX11_takeKnots_65 ?_
            refine zRx.getR (a := 0) (b := 1) fl_11_12 rfl rfl dX11_takeKnots_66 ?_
            refine zRx.iconst ⟨by decide, by decide⟩ dX11_takeKnots_69 ?_
            refine zRx.putI (a := 1) (ji := 1) pl_11_110 rfl rfl rfl dX11_takeKnots_70 ?_
            refine zRx.iload_n 1 rfl rfl dX11_takeKnots_73 ?_
            exact zR.zret rfl ⟨by decide, by decide⟩ dX11_takeKnots_74 ⟨by unfold V_X11_takeKnots; rw [if_pos c8, if_neg (Int.not_lt.mpr c50), if_neg (Int.not_lt.mpr c50_2), if_neg (Int.not_lt.mpr c50_3), if_neg (Int.not_lt.mpr c50_4)], rfl⟩

def V_X11_lengthOf (σ : zG)  : Int := if (V_X11_knotsAt ((((σ 98 0) * 25) + ((σ 98 1) * 5)) + (σ 98 2)) 3) = (σ 98 3) then ((((σ 98 0) * 25) + ((σ 98 1) * 5)) + (σ 98 2)) else (-1)
set_option maxRecDepth 20000 in
theorem does_X11_lengthOf (σ : zG)  (h : ∀ i : Int, 0 ≤ i → i < 4 → 0 ≤ σ 98 i ∧ σ 98 i ≤ 4) : zDo SC 1 m_X11_lengthOf [zP 98] σ (zEq (some (.inl (V_X11_lengthOf σ ))) σ) := by
  refine zDo.intro mk_X11_lengthOf (Nat.le_of_ble_eq_true rfl) ?_
  have k0 := h 0 (by decide) (by decide)
  have k1 := h 1 (by decide) (by decide)
  have k2 := h 2 (by decide) (by decide)
  refine zRx.aload_n 0 rfl rfl dX11_lengthOf_0 ?_
  refine zRx.iconst ⟨by decide, by decide⟩ dX11_lengthOf_1 ?_
  refine zRx.ialdv (v := σ 98 0) rfl rfl (by decide) (by decide) dX11_lengthOf_2 ?_
  refine zRx.bipush ⟨by decide, by decide⟩ rfl dX11_lengthOf_3 ?_
  refine zRx.imul ⟨by omega, by omega⟩ dX11_lengthOf_5 ?_
  refine zRx.aload_n 0 rfl rfl dX11_lengthOf_6 ?_
  refine zRx.iconst ⟨by decide, by decide⟩ dX11_lengthOf_7 ?_
  refine zRx.ialdv (v := σ 98 1) rfl rfl (by decide) (by decide) dX11_lengthOf_8 ?_
  refine zRx.iconst ⟨by decide, by decide⟩ dX11_lengthOf_9 ?_
  refine zRx.imul ⟨by omega, by omega⟩ dX11_lengthOf_10 ?_
  refine zRx.iadd ⟨by omega, by omega⟩ dX11_lengthOf_11 ?_
  refine zRx.aload_n 0 rfl rfl dX11_lengthOf_12 ?_
  refine zRx.iconst ⟨by decide, by decide⟩ dX11_lengthOf_13 ?_
  refine zRx.ialdv (v := σ 98 2) rfl rfl (by decide) (by decide) dX11_lengthOf_14 ?_
  refine zRx.iadd ⟨by omega, by omega⟩ dX11_lengthOf_15 ?_
  refine zRx.istore_n (ls' := [(0, zP 98), (1, .inl ((((σ 98 0) * 25) + ((σ 98 1) * 5)) + (σ 98 2)))]) rfl rfl (by decide) dX11_lengthOf_16 ?_
  refine zRx.iload_n 1 rfl rfl dX11_lengthOf_17 ?_
  refine zRx.iconst ⟨by decide, by decide⟩ dX11_lengthOf_18 ?_
  refine zRx.cSi (w := .inl (V_X11_knotsAt ((((σ 98 0) * 25) + ((σ 98 1) * 5)) + (σ 98 2)) 3)) (M := m_X11_knotsAt) (av := [.inl ((((σ 98 0) * 25) + ((σ 98 1) * 5)) + (σ 98 2)), .inl 3]) cs_11_336 mk_X11_knotsAt (by decide) rfl (Nat.le_of_ble_eq_true rfl) dX11_lengthOf_19 (does_X11_knotsAt σ ((((σ 98 0) * 25) + ((σ 98 1) * 5)) + (σ 98 2)) 3 SC (by omega)) ?_
  refine zRx.aload_n 0 rfl rfl dX11_lengthOf_22 ?_
  refine zRx.iconst ⟨by decide, by decide⟩ dX11_lengthOf_23 ?_
  refine zRx.ialdv (v := σ 98 3) rfl rfl (by decide) (by decide) dX11_lengthOf_24 ?_
  refine zRx.icmp_ne (tgt := 32) dX11_lengthOf_25 (by decide) (fun c25 => ?_) (fun c25 => ?_)
  · refine zRx.iconst ⟨by decide, by decide⟩ dX11_lengthOf_32 ?_
    exact zR.iret rfl dX11_lengthOf_33 ⟨by unfold V_X11_lengthOf; rw [if_neg c25], rfl⟩
  · refine zRx.iload_n 1 rfl rfl dX11_lengthOf_28 ?_
    refine zRx.goto (tgt := 33) dX11_lengthOf_29 (by decide) ?_
    exact zR.iret rfl dX11_lengthOf_33 ⟨by unfold V_X11_lengthOf; rw [if_pos c25], rfl⟩

theorem near_sq {a b ap i : Int} (ha : 0 ≤ a ∧ a ≤ 4) (hb : 0 ≤ b ∧ b ≤ 4) (h : 0 ≤ ap ∧ ap ≤ 100 * i) : 0 ≤ ap + (a - b) * (a - b) ∧ ap + (a - b) * (a - b) ≤ 100 * (i + 1) := by
  rcases (show a - b = -4 ∨ a - b = -3 ∨ a - b = -2 ∨ a - b = -1 ∨ a - b = 0 ∨ a - b = 1 ∨ a - b = 2 ∨ a - b = 3 ∨ a - b = 4 by omega) with e | e | e | e | e | e | e | e | e <;> rw [e] <;> omega

def L_X11_isNear_4 (σ : zG) (ln : Int) : Nat → Int → Int → Int
  | 0, _, _ => 0
  | n + 1, ap, i => if 4 ≤ i then (if ap = 1 then 1 else 0) else (L_X11_isNear_4 σ ln n (ap + (((V_X11_knotsAt ln i) - (σ 98 i)) * ((V_X11_knotsAt ln i) - (σ 98 i)))) (i + 1))
set_option maxRecDepth 20000 in
theorem loop_X11_isNear_4 (σ : zG) (ln : Int) (hn : 0 ≤ ln ∧ ln < 125) (h : ∀ i : Int, 0 ≤ i → i < 4 → 0 ≤ σ 98 i ∧ σ 98 i ≤ 4) : ∀ (n : Nat) (ap i : Int) , 0 ≤ i ∧ i ≤ 4 → 0 ≤ ap ∧ ap ≤ 100 * i → (4 - i).toNat < n → zR SC 1 m_X11_isNear 4 [(0, .inl ln), (1, zP 98), (2, .inl ap), (3, .inl i)] [] σ (zEq (some (.inl (L_X11_isNear_4 σ ln n ap i))) σ) := by
  intro n
  induction n with
  | zero => intro ap i  h0 h1 hmz; exact absurd hmz (Nat.not_lt_zero _)
  | succ n ih =>
    intro ap i  h0 h1 hmz
    refine zRx.iload_n 3 rfl rfl dX11_isNear_4 ?_
    refine zRx.iconst ⟨by decide, by decide⟩ dX11_isNear_5 ?_
    refine zRx.icmp_ge (tgt := 34) dX11_isNear_6 (by decide) (fun c6 => ?_) (fun c6 => ?_)
    · refine zRx.iload_n 2 rfl rfl dX11_isNear_34 ?_
      refine zRx.iconst ⟨by decide, by decide⟩ dX11_isNear_35 ?_
      refine zRx.icmp_ne (tgt := 43) dX11_isNear_36 (by decide) (fun c36 => ?_) (fun c36 => ?_)
      · refine zRx.iconst ⟨by decide, by decide⟩ dX11_isNear_43 ?_
        exact zR.zret rfl ⟨by decide, by decide⟩ dX11_isNear_44 (by have he : L_X11_isNear_4 σ ln (n + 1) ap i = 0 := (by rw [L_X11_isNear_4, if_pos c6, if_neg c36]); rw [he]; exact ⟨rfl, rfl⟩)
      · refine zRx.iconst ⟨by decide, by decide⟩ dX11_isNear_39 ?_
        refine zRx.goto (tgt := 44) dX11_isNear_40 (by decide) ?_
        exact zR.zret rfl ⟨by decide, by decide⟩ dX11_isNear_44 (by have he : L_X11_isNear_4 σ ln (n + 1) ap i = 1 := (by rw [L_X11_isNear_4, if_pos c6, if_pos c36]); rw [he]; exact ⟨rfl, rfl⟩)
    · have kA := knotsAt_r (i := i) hn
      have kB := h i (by omega) (by omega)
      have kC := near_sq kA kB h1
      refine zRx.iload_n 0 rfl rfl dX11_isNear_9 ?_
      refine zRx.iload_n 3 rfl rfl dX11_isNear_10 ?_
      refine zRx.cSi (w := .inl (V_X11_knotsAt ln i)) (M := m_X11_knotsAt) (av := [.inl ln, .inl i]) cs_11_336 mk_X11_knotsAt (by decide) rfl (Nat.le_of_ble_eq_true rfl) dX11_isNear_11 (does_X11_knotsAt σ ln i SC (by omega)) ?_
      refine zRx.aload_n 1 rfl rfl dX11_isNear_14 ?_
      refine zRx.iload_n 3 rfl rfl dX11_isNear_15 ?_
      refine zRx.ialdv (v := σ 98 i) rfl rfl (by omega) (by omega) dX11_isNear_16 ?_
      refine zRx.isub ⟨by omega, by omega⟩ dX11_isNear_17 ?_
      refine zRx.istore (ls' := [(0, .inl ln), (1, zP 98), (2, .inl ap), (3, .inl i), (4, .inl ((V_X11_knotsAt ln i) - (σ 98 i)))]) rfl (by decide) dX11_isNear_18 ?_
      refine zRx.iload_n 2 rfl rfl dX11_isNear_20 ?_
      refine zRx.iload 4 rfl dX11_isNear_21 ?_
      refine zRx.iload 4 rfl dX11_isNear_23 ?_
      refine zRx.imul ⟨by have := near_sq kA kB (show (0:Int) ≤ 0 ∧ (0:Int) ≤ 100 * 0 by decide); omega, by have := near_sq kA kB (show (0:Int) ≤ 0 ∧ (0:Int) ≤ 100 * 0 by decide); omega⟩ dX11_isNear_25 ?_
      refine zRx.iadd ⟨by omega, by omega⟩ dX11_isNear_26 ?_
      refine zRx.istore_n (ls' := [(0, .inl ln), (1, zP 98), (2, .inl (ap + (((V_X11_knotsAt ln i) - (σ 98 i)) * ((V_X11_knotsAt ln i) - (σ 98 i))))), (3, .inl i), (4, .inl ((V_X11_knotsAt ln i) - (σ 98 i)))]) rfl rfl (by decide) dX11_isNear_27 ?_
      refine zRx.iinc (n := 1) (ls' := [(0, .inl ln), (1, zP 98), (2, .inl (ap + (((V_X11_knotsAt ln i) - (σ 98 i)) * ((V_X11_knotsAt ln i) - (σ 98 i))))), (3, .inl (i + 1)), (4, .inl ((V_X11_knotsAt ln i) - (σ 98 i)))]) 3 rfl ⟨by omega, by omega⟩ rfl (by decide) dX11_isNear_28 ?_
      refine zRx.goto (tgt := 4) dX11_isNear_31 (by decide) ?_
      refine zRx.pick [0, 1, 2, 3] (ls' := [(0, .inl ln), (1, zP 98), (2, .inl (ap + (((V_X11_knotsAt ln i) - (σ 98 i)) * ((V_X11_knotsAt ln i) - (σ 98 i))))), (3, .inl (i + 1))]) rfl ?_
      have he : L_X11_isNear_4 σ ln (n + 1) ap i = L_X11_isNear_4 σ ln n (ap + (((V_X11_knotsAt ln i) - (σ 98 i)) * ((V_X11_knotsAt ln i) - (σ 98 i)))) (i + 1) := by rw [L_X11_isNear_4, if_neg (Int.not_le.mpr c6)]
      rw [he]
      exact ih (ap + (((V_X11_knotsAt ln i) - (σ 98 i)) * ((V_X11_knotsAt ln i) - (σ 98 i)))) (i + 1)  (by omega) (near_sq kA kB h1) (by omega)
def R_X11_isNear (σ : zG) (ln : Int) : Int := L_X11_isNear_4 σ ln 10 0 0
set_option maxRecDepth 20000 in
theorem does_X11_isNear (σ : zG) (ln : Int) (hn : 0 ≤ ln ∧ ln < 125) (h : ∀ i : Int, 0 ≤ i → i < 4 → 0 ≤ σ 98 i ∧ σ 98 i ≤ 4)  : zDo SC 1 m_X11_isNear [.inl ln, zP 98] σ (zEq (some (.inl (R_X11_isNear σ ln))) σ) := by
  refine zDo.intro mk_X11_isNear (Nat.le_of_ble_eq_true rfl) ?_
  refine zRx.iconst ⟨by decide, by decide⟩ dX11_isNear_0 ?_
  refine zRx.istore_n (ls' := [(0, .inl ln), (1, zP 98), (2, .inl 0)]) rfl rfl (by decide) dX11_isNear_1 ?_
  refine zRx.iconst ⟨by decide, by decide⟩ dX11_isNear_2 ?_
  refine zRx.istore_n (ls' := [(0, .inl ln), (1, zP 98), (2, .inl 0), (3, .inl 0)]) rfl rfl (by decide) dX11_isNear_3 ?_
  have he : R_X11_isNear σ ln = L_X11_isNear_4 σ ln 10 0 0 := by rw [R_X11_isNear]
  rw [he]
  exact loop_X11_isNear_4 σ ln hn h  10 0 0  (by omega) (by omega) (by omega)

theorem fr_F_X1_draw (σ : zG) (n : Int) {k : Nat} (h : k ∉ [97]) : F_X1_draw σ n k = σ k := by
  unfold F_X1_draw
  exact zu_row _ _ _ (by simpa using h)

def L_X11_measure_2 (ln : Int) : Nat → Int → zG → zG
  | 0, _, σ => σ
  | n + 1, i, σ => if 4 ≤ i then σ else (if (V_X1_draw σ 10) = 0 then (L_X11_measure_2 ln n (i + 1) (zu (F_X1_draw σ 10) 98 i (min ((V_X11_knotsAt ln i) + 1) 4))) else (if (V_X1_draw σ 10) = 1 then (L_X11_measure_2 ln n (i + 1) (zu (F_X1_draw σ 10) 98 i (max ((V_X11_knotsAt ln i) - 1) 0))) else (L_X11_measure_2 ln n (i + 1) (zu (F_X1_draw σ 10) 98 i (V_X11_knotsAt ln i)))))
theorem fr_L_X11_measure_2 (ln : Int)  (n : Nat) (i : Int) (σ : zG) {k : Nat} (h : k ∉ [97, 98]) : (L_X11_measure_2 ln n i σ) k = σ k := by
  induction n generalizing i σ with
  | zero => rfl
  | succ n ih =>
    have ne : ∀ c ∈ [97, 98], k ≠ c := fun c hc e => h (e ▸ hc)
    have nk_F_X1_draw : k ∉ [97] := fun hm => h (by first | (revert hm; simp only [List.mem_cons, List.not_mem_nil, or_false]; omega) | (simp at hm))
    rw [L_X11_measure_2]
    repeat' split
    all_goals first | rfl | simp only [zu_row _ _ _ (ne 97 (by decide)), zu_row _ _ _ (ne 98 (by decide)), fr_F_X1_draw (h := nk_F_X1_draw), ih]

set_option maxRecDepth 20000 in
theorem loop_X11_measure_2 (ln : Int) (hn : 0 ≤ ln ∧ ln < 125) : ∀ (n : Nat) (i : Int) (σ : zG), 0 ≤ i ∧ i ≤ 4 → (4 - i).toNat < n → zR SC 1 m_X11_measure 2 [(0, .inl ln), (1, zP 97), (2, zP 98), (3, .inl i)] [] σ (zEq none (L_X11_measure_2 ln n i σ)) := by
  intro n
  induction n with
  | zero => intro i σ h0 hmz; exact absurd hmz (Nat.not_lt_zero _)
  | succ n ih =>
    intro i σ h0 hmz
    refine zRx.iload_n 3 rfl rfl dX11_measure_2 ?_
    refine zRx.iconst ⟨by decide, by decide⟩ dX11_measure_3 ?_
    refine zRx.icmp_ge (tgt := 67) dX11_measure_4 (by decide) (fun c4 => ?_) (fun c4 => ?_)
    · exact zR.ret rfl dX11_measure_67 ⟨rfl, (by rw [L_X11_measure_2, if_pos c4] : L_X11_measure_2 ln (n + 1) i σ = σ).symm⟩
    · have kA := knotsAt_r (i := i) hn
      refine zRx.iload_n 0 rfl rfl dX11_measure_7 ?_
      refine zRx.iload_n 3 rfl rfl dX11_measure_8 ?_
      refine zRx.cSi (w := .inl (V_X11_knotsAt ln i)) (M := m_X11_knotsAt) (av := [.inl ln, .inl i]) cs_11_336 mk_X11_knotsAt (by decide) rfl (Nat.le_of_ble_eq_true rfl) dX11_measure_9 (does_X11_knotsAt σ ln i SC (by omega)) ?_
      refine zRx.istore (ls' := [(0, .inl ln), (1, zP 97), (2, zP 98), (3, .inl i), (4, .inl (V_X11_knotsAt ln i))]) rfl (by decide) dX11_measure_12 ?_
      refine zRx.aload_n 1 rfl rfl dX11_measure_14 ?_
      refine zRx.bipush ⟨by decide, by decide⟩ rfl dX11_measure_15 ?_
      refine zRx.cVi (w := .inl (V_X1_draw σ 10)) (M := m_X1_draw) (av := [.inl 10]) cv_11_391 mk_X1_draw (by decide) (b := 97) rfl rfl (Nat.le_of_ble_eq_true rfl) dX11_measure_17 (does_X1_draw σ 10) ?_
      refine zRx.istore (ls' := [(0, .inl ln), (1, zP 97), (2, zP 98), (3, .inl i), (4, .inl (V_X11_knotsAt ln i)), (5, .inl (V_X1_draw σ 10))]) rfl (by decide) dX11_measure_20 ?_
      refine zRx.iload 5 rfl dX11_measure_22 ?_
      refine zRx.if_ne (tgt := 40) dX11_measure_24 (by decide) (fun c24 => ?_) (fun c24 => ?_)
      · refine zRx.iload 5 rfl dX11_measure_40 ?_
        refine zRx.iconst ⟨by decide, by decide⟩ dX11_measure_42 ?_
        refine zRx.icmp_ne (tgt := 56) dX11_measure_43 (by decide) (fun c43 => ?_) (fun c43 => ?_)
        · refine zRx.aload_n 2 rfl rfl dX11_measure_56 ?_
          refine zRx.iload_n 3 rfl rfl dX11_measure_57 ?_
          refine zRx.iload 4 rfl dX11_measure_58 ?_
          refine zRx.iast rfl (by omega) (by omega) dX11_measure_60 ?_
          refine zRx.iinc (n := 1) (ls' := [(0, .inl ln), (1, zP 97), (2, zP 98), (3, .inl (i + 1)), (4, .inl (V_X11_knotsAt ln i)), (5, .inl (V_X1_draw σ 10))]) 3 rfl ⟨by omega, by omega⟩ rfl (by decide) dX11_measure_61 ?_
          refine zRx.goto (tgt := 2) dX11_measure_64 (by decide) ?_
          refine zRx.pick [0, 1, 2, 3] (ls' := [(0, .inl ln), (1, zP 97), (2, zP 98), (3, .inl (i + 1))]) rfl ?_
          have he : L_X11_measure_2 ln (n + 1) i σ = L_X11_measure_2 ln n (i + 1) (zu (F_X1_draw σ 10) 98 i (V_X11_knotsAt ln i)) := by rw [L_X11_measure_2, if_neg (Int.not_le.mpr c4), if_neg c24, if_neg c43]
          rw [he]
          exact ih (i + 1) (zu (F_X1_draw σ 10) 98 i (V_X11_knotsAt ln i)) (by omega) (by omega)
        · refine zRx.iload 4 rfl dX11_measure_46 ?_
          refine zRx.iconst ⟨by decide, by decide⟩ dX11_measure_48 ?_
          refine zRx.isub ⟨by omega, by omega⟩ dX11_measure_49 ?_
          refine zRx.iconst ⟨by decide, by decide⟩ dX11_measure_50 ?_
          refine zRx.mmax mm_11_398 (by decide) (Nat.le_of_ble_eq_true rfl) dX11_measure_51 ?_
          refine zRx.istore (ls' := [(0, .inl ln), (1, zP 97), (2, zP 98), (3, .inl i), (4, .inl (max ((V_X11_knotsAt ln i) - 1) 0)), (5, .inl (V_X1_draw σ 10))]) rfl (by decide) dX11_measure_54 ?_
          refine zRx.aload_n 2 rfl rfl dX11_measure_56 ?_
          refine zRx.iload_n 3 rfl rfl dX11_measure_57 ?_
          refine zRx.iload 4 rfl dX11_measure_58 ?_
          refine zRx.iast rfl (by omega) (by omega) dX11_measure_60 ?_
          refine zRx.iinc (n := 1) (ls' := [(0, .inl ln), (1, zP 97), (2, zP 98), (3, .inl (i + 1)), (4, .inl (max ((V_X11_knotsAt ln i) - 1) 0)), (5, .inl (V_X1_draw σ 10))]) 3 rfl ⟨by omega, by omega⟩ rfl (by decide) dX11_measure_61 ?_
          refine zRx.goto (tgt := 2) dX11_measure_64 (by decide) ?_
          refine zRx.pick [0, 1, 2, 3] (ls' := [(0, .inl ln), (1, zP 97), (2, zP 98), (3, .inl (i + 1))]) rfl ?_
          have he : L_X11_measure_2 ln (n + 1) i σ = L_X11_measure_2 ln n (i + 1) (zu (F_X1_draw σ 10) 98 i (max ((V_X11_knotsAt ln i) - 1) 0)) := by rw [L_X11_measure_2, if_neg (Int.not_le.mpr c4), if_neg c24, if_pos c43]
          rw [he]
          exact ih (i + 1) (zu (F_X1_draw σ 10) 98 i (max ((V_X11_knotsAt ln i) - 1) 0)) (by omega) (by omega)
      · refine zRx.iload 4 rfl dX11_measure_27 ?_
        refine zRx.iconst ⟨by decide, by decide⟩ dX11_measure_29 ?_
        refine zRx.iadd ⟨by omega, by omega⟩ dX11_measure_30 ?_
        refine zRx.iconst ⟨by decide, by decide⟩ dX11_measure_31 ?_
        refine zRx.mmin mm_11_393 (by decide) (Nat.le_of_ble_eq_true rfl) dX11_measure_32 ?_
        refine zRx.istore (ls' := [(0, .inl ln), (1, zP 97), (2, zP 98), (3, .inl i), (4, .inl (min ((V_X11_knotsAt ln i) + 1) 4)), (5, .inl (V_X1_draw σ 10))]) rfl (by decide) dX11_measure_35 ?_
        refine zRx.goto (tgt := 56) dX11_measure_37 (by decide) ?_
        refine zRx.aload_n 2 rfl rfl dX11_measure_56 ?_
        refine zRx.iload_n 3 rfl rfl dX11_measure_57 ?_
        refine zRx.iload 4 rfl dX11_measure_58 ?_
        refine zRx.iast rfl (by omega) (by omega) dX11_measure_60 ?_
        refine zRx.iinc (n := 1) (ls' := [(0, .inl ln), (1, zP 97), (2, zP 98), (3, .inl (i + 1)), (4, .inl (min ((V_X11_knotsAt ln i) + 1) 4)), (5, .inl (V_X1_draw σ 10))]) 3 rfl ⟨by omega, by omega⟩ rfl (by decide) dX11_measure_61 ?_
        refine zRx.goto (tgt := 2) dX11_measure_64 (by decide) ?_
        refine zRx.pick [0, 1, 2, 3] (ls' := [(0, .inl ln), (1, zP 97), (2, zP 98), (3, .inl (i + 1))]) rfl ?_
        have he : L_X11_measure_2 ln (n + 1) i σ = L_X11_measure_2 ln n (i + 1) (zu (F_X1_draw σ 10) 98 i (min ((V_X11_knotsAt ln i) + 1) 4)) := by rw [L_X11_measure_2, if_neg (Int.not_le.mpr c4), if_pos c24]
        rw [he]
        exact ih (i + 1) (zu (F_X1_draw σ 10) 98 i (min ((V_X11_knotsAt ln i) + 1) 4)) (by omega) (by omega)
def R_X11_measure (σ : zG) (ln : Int) : zG := L_X11_measure_2 ln 10 0 σ
theorem fr_R_X11_measure (σ : zG) (ln : Int) {k : Nat} (h : k ∉ [97, 98]) : (R_X11_measure σ ln) k = σ k := by
  have ne : ∀ c ∈ [97, 98], k ≠ c := fun c hc e => h (e ▸ hc)
  have nl_L_X11_measure_2 : k ∉ [97, 98] := fun hm => h (by first | (revert hm; simp only [List.mem_cons, List.not_mem_nil, or_false]; omega) | (simp at hm))
  unfold R_X11_measure
  repeat' split
  all_goals first | rfl | simp only [zu_row _ _ _ (ne 97 (by decide)), zu_row _ _ _ (ne 98 (by decide)), fr_L_X11_measure_2 (h := nl_L_X11_measure_2)]

set_option maxRecDepth 20000 in
theorem does_X11_measure (σ : zG) (ln : Int) (hn : 0 ≤ ln ∧ ln < 125)  : zDo SC 1 m_X11_measure [.inl ln, zP 97, zP 98] σ (zEq none (R_X11_measure σ ln)) := by
  refine zDo.intro mk_X11_measure (Nat.le_of_ble_eq_true rfl) ?_
  refine zRx.iconst ⟨by decide, by decide⟩ dX11_measure_0 ?_
  refine zRx.istore_n (ls' := [(0, .inl ln), (1, zP 97), (2, zP 98), (3, .inl 0)]) rfl rfl (by decide) dX11_measure_1 ?_
  have he : R_X11_measure σ ln = L_X11_measure_2 ln 10 0 σ := by rw [R_X11_measure]
  rw [he]
  exact loop_X11_measure_2 ln hn  10 0 σ (by omega) (by omega)

