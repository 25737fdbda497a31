/-! the class: its face, what changes -/
theorem fr_F_X5_open (σ : zG) (l : Int) {k : Nat} (h : k ∉ [3]) : F_X5_open σ l k = σ k := by
  have h3 : k ≠ 3 := by simpa using h
  unfold F_X5_open
  simp only [zu_row _ _ _ h3]
theorem CI_open {σ : zG} {l : Int} (h : 0 ≤ σ 1 1 ∧ σ 1 1 ≤ 940) : CI (F_X5_open σ l) := by
  unfold CI
  rw [fr_F_X5_open σ l (k := 1) (by decide)]
  unfold F_X5_open
  simp only [zu_if]
  simp
  omega

theorem fr_take6 (σ : zG) (h : CI σ) {k : Nat} (hk : k ∉ [3, 48, 49, 50, 51]) : F_X6_take σ k = σ k := fr_F_X6_take σ h hk

def V_X11_valley (σ : zG)  : Int := if 0 ≤ ((R_X9_take (F_X5_open σ 900)).1) then ((R_X9_take (F_X5_open σ 900)).1) else (V_X11_refusedAt (F_X11_noteReading ((R_X9_take (F_X5_open σ 900)).2)))
def F_X11_valley (σ : zG)  : zG := if 0 ≤ ((R_X9_take (F_X5_open σ 900)).1) then (F_X11_judgeAnew (F_X6_clear_43 (F_X0_clear_27 (F_X9_copy_5_16 (F_X11_noteReading ((R_X9_take (F_X5_open σ 900)).2)))))) else (F_X11_noteReading ((R_X9_take (F_X5_open σ 900)).2))
theorem fr_F_X11_valley (σ : zG)  {k : Nat} (h : k ∉ [0, 1, 3, 5, 6, 7, 8, 9, 10, 11, 12, 13, 14, 15, 16, 17, 18, 19, 20, 21, 22, 23, 24, 25, 26, 27, 43, 53, 54, 55, 56, 57, 58, 59, 60, 61, 62, 63, 64, 65, 66, 81]) : (F_X11_valley σ ) k = σ k := by
  have ne : ∀ c ∈ [0, 1, 3, 5, 6, 7, 8, 9, 10, 11, 12, 13, 14, 15, 16, 17, 18, 19, 20, 21, 22, 23, 24, 25, 26, 27, 43, 53, 54, 55, 56, 57, 58, 59, 60, 61, 62, 63, 64, 65, 66, 81], k ≠ c := fun c hc e => h (e ▸ hc)
  have nk_F_X11_judgeAnew : k ∉ [53, 54, 55, 56, 57, 58, 59, 60, 61, 62, 63, 64, 65, 66, 81] := fun hm => h (by first | (revert hm; simp only [List.mem_cons, List.not_mem_nil, or_false]; omega) | (simp at hm))
  have nk_F_X6_clear_43 : k ∉ [43] := fun hm => h (by first | (revert hm; simp only [List.mem_cons, List.not_mem_nil, or_false]; omega) | (simp at hm))
  have nk_F_X0_clear_27 : k ∉ [27] := fun hm => h (by first | (revert hm; simp only [List.mem_cons, List.not_mem_nil, or_false]; omega) | (simp at hm))
  have nk_F_X9_copy_5_16 : k ∉ [5, 6, 7, 8, 9, 10, 11, 12, 13, 14, 15] := fun hm => h (by first | (revert hm; simp only [List.mem_cons, List.not_mem_nil, or_false]; omega) | (simp at hm))
  have nk_F_X11_noteReading : k ∉ [0, 1] := fun hm => h (by first | (revert hm; simp only [List.mem_cons, List.not_mem_nil, or_false]; omega) | (simp at hm))
  have nk_R_X9_take : k ∉ [3, 16, 17, 18, 19, 20, 21, 22, 23, 24, 25, 26] := fun hm => h (by first | (revert hm; simp only [List.mem_cons, List.not_mem_nil, or_false]; omega) | (simp at hm))
  have nk_F_X5_open : k ∉ [3] := fun hm => h (by first | (revert hm; simp only [List.mem_cons, List.not_mem_nil, or_false]; omega) | (simp at hm))
  unfold F_X11_valley
  repeat' split
  all_goals first | rfl | simp only [zu_row _ _ _ (ne 0 (by decide)), zu_row _ _ _ (ne 1 (by decide)), zu_row _ _ _ (ne 3 (by decide)), zu_row _ _ _ (ne 5 (by decide)), zu_row _ _ _ (ne 6 (by decide)), zu_row _ _ _ (ne 7 (by decide)), zu_row _ _ _ (ne 8 (by decide)), zu_row _ _ _ (ne 9 (by decide)), zu_row _ _ _ (ne 10 (by decide)), zu_row _ _ _ (ne 11 (by decide)), zu_row _ _ _ (ne 12 (by decide)), zu_row _ _ _ (ne 13 (by decide)), zu_row _ _ _ (ne 14 (by decide)), zu_row _ _ _ (ne 15 (by decide)), zu_row _ _ _ (ne 16 (by decide)), zu_row _ _ _ (ne 17 (by decide)), zu_row _ _ _ (ne 18 (by decide)), zu_row _ _ _ (ne 19 (by decide)), zu_row _ _ _ (ne 20 (by decide)), zu_row _ _ _ (ne 21 (by decide)), zu_row _ _ _ (ne 22 (by decide)), zu_row _ _ _ (ne 23 (by decide)), zu_row _ _ _ (ne 24 (by decide)), zu_row _ _ _ (ne 25 (by decide)), zu_row _ _ _ (ne 26 (by decide)), zu_row _ _ _ (ne 27 (by decide)), zu_row _ _ _ (ne 43 (by decide)), zu_row _ _ _ (ne 53 (by decide)), zu_row _ _ _ (ne 54 (by decide)), zu_row _ _ _ (ne 55 (by decide)), zu_row _ _ _ (ne 56 (by decide)), zu_row _ _ _ (ne 57 (by decide)), zu_row _ _ _ (ne 58 (by decide)), zu_row _ _ _ (ne 59 (by decide)), zu_row _ _ _ (ne 60 (by decide)), zu_row _ _ _ (ne 61 (by decide)), zu_row _ _ _ (ne 62 (by decide)), zu_row _ _ _ (ne 63 (by decide)), zu_row _ _ _ (ne 64 (by decide)), zu_row _ _ _ (ne 65 (by decide)), zu_row _ _ _ (ne 66 (by decide)), zu_row _ _ _ (ne 81 (by decide)), fr_F_X11_judgeAnew (h := nk_F_X11_judgeAnew), fr_F_X6_clear_43 (h := nk_F_X6_clear_43), fr_F_X0_clear_27 (h := nk_F_X0_clear_27), fr_F_X9_copy_5_16 (h := nk_F_X9_copy_5_16), fr_F_X11_noteReading (h := nk_F_X11_noteReading), fr_R_X9_take (h := nk_R_X9_take), fr_F_X5_open (h := nk_F_X5_open)]

set_option maxRecDepth 20000 in
theorem does_X11_valley (σ : zG)  (ht : 0 ≤ σ 1 1 ∧ σ 1 1 ≤ 940) (hW : WC (F_X6_clear_43 (F_X0_clear_27 (F_X9_copy_5_16 (F_X11_noteReading ((R_X9_take (F_X5_open σ 900)).2)))))) : zDo SC 7 m_X11_valley [zP 0] σ (zEq (some (.inl (V_X11_valley σ ))) (F_X11_valley σ )) := by
  refine zDo.intro mk_X11_valley (Nat.le_of_ble_eq_true rfl) ?_
  refine zRx.aload_n 0 rfl rfl dX11_valley_0 ?_
  refine zRx.getR (a := 0) (b := 3) fl_11_21 rfl rfl dX11_valley_1 ?_
  refine zRx.sipush ⟨by decide, by decide⟩ rfl dX11_valley_4 ?_
  refine zRx.cVv (M := m_X5_open) (av := [.inl 900]) cv_11_117 mk_X5_open (by decide) (b := 3) rfl rfl (Nat.le_of_ble_eq_true rfl) dX11_valley_7 (does_X5_open σ 900) ?_
  refine zRx.aload_n 0 rfl rfl dX11_valley_10 ?_
  refine zRx.getR (a := 0) (b := 16) fl_11_32 rfl rfl dX11_valley_11 ?_
  refine zRx.aload_n 0 rfl rfl dX11_valley_14 ?_
  refine zRx.getR (a := 0) (b := 3) fl_11_21 rfl rfl dX11_valley_15 ?_
  refine zRx.cVi (w := .inl ((R_X9_take (F_X5_open σ 900)).1)) (M := m_X9_take) (av := [zP 3]) cv_11_120 mk_X9_take (by decide) (b := 16) rfl rfl (Nat.le_of_ble_eq_true rfl) dX11_valley_18 (does_X9_take (F_X5_open σ 900) (CI_open ht)) ?_
  refine zRx.istore_n (ls' := [(0, zP 0), (1, .inl ((R_X9_take (F_X5_open σ 900)).1))]) rfl rfl (by decide) dX11_valley_21 ?_
  refine zRx.aload_n 0 rfl rfl dX11_valley_22 ?_
  refine zRx.cVv (M := m_X11_noteReading) (av := []) cv_11_124 mk_X11_noteReading (by decide) (b := 0) rfl rfl (Nat.le_of_ble_eq_true rfl) dX11_valley_23 (does_X11_noteReading ((R_X9_take (F_X5_open σ 900)).2)) ?_
  refine zRx.iload_n 1 rfl rfl dX11_valley_26 ?_
  refine zRx.if_ge (tgt := 35) dX11_valley_27 (by decide) (fun c27 => ?_) (fun c27 => ?_)
  · refine zRx.aload_n 0 rfl rfl dX11_valley_35 ?_
    refine zRx.getR (a := 0) (b := 5) fl_11_28 rfl rfl dX11_valley_36 ?_
    refine zRx.aload_n 0 rfl rfl dX11_valley_39 ?_
    refine zRx.getR (a := 0) (b := 16) fl_11_32 rfl rfl dX11_valley_40 ?_
    refine zRx.cVv (M := m_X9_copy) (av := [zP 16]) cv_11_131 mk_X9_copy (by decide) (b := 5) rfl rfl (Nat.le_of_ble_eq_true rfl) dX11_valley_43 (does_X9_copy_5_16 (F_X11_noteReading ((R_X9_take (F_X5_open σ 900)).2))) ?_
    refine zRx.aload_n 0 rfl rfl dX11_valley_46 ?_
    refine zRx.getR (a := 0) (b := 27) fl_11_38 rfl rfl dX11_valley_47 ?_
    refine zRx.cVv (M := m_X0_clear) (av := []) cv_11_135 mk_X0_clear (by decide) (b := 27) rfl rfl (Nat.le_of_ble_eq_true rfl) dX11_valley_50 (does_X0_clear_27 (F_X9_copy_5_16 (F_X11_noteReading ((R_X9_take (F_X5_open σ 900)).2)))) ?_
    refine zRx.aload_n 0 rfl rfl dX11_valley_53 ?_
    refine zRx.getR (a := 0) (b := 43) fl_11_48 rfl rfl dX11_valley_54 ?_
    refine zRx.cVv (M := m_X6_clear) (av := []) cv_11_138 mk_X6_clear (by decide) (b := 43) rfl rfl (Nat.le_of_ble_eq_true rfl) dX11_valley_57 (does_X6_clear_43 (F_X0_clear_27 (F_X9_copy_5_16 (F_X11_noteReading ((R_X9_take (F_X5_open σ 900)).2))))) ?_
    refine zRx.aload_n 0 rfl rfl dX11_valley_60 ?_
    refine zRx.cVv (M := m_X11_judgeAnew) (av := []) cv_11_139 mk_X11_judgeAnew (by decide) (b := 0) rfl rfl (Nat.le_of_ble_eq_true rfl) dX11_valley_61 (does_X11_judgeAnew (F_X6_clear_43 (F_X0_clear_27 (F_X9_copy_5_16 (F_X11_noteReading ((R_X9_take (F_X5_open σ 900)).2))))) hW) ?_
    refine zRx.iload_n 1 rfl rfl dX11_valley_64 ?_
    exact zR.iret rfl dX11_valley_65 ⟨by unfold V_X11_valley; rw [if_pos c27], by unfold F_X11_valley; rw [if_pos c27]⟩
  · refine zRx.aload_n 0 rfl rfl dX11_valley_30 ?_
    refine zRx.cVi (w := .inl (V_X11_refusedAt (F_X11_noteReading ((R_X9_take (F_X5_open σ 900)).2)))) (M := m_X11_refusedAt) (av := []) cv_11_127 mk_X11_refusedAt (by decide) (b := 0) rfl rfl (Nat.le_of_ble_eq_true rfl) dX11_valley_31 (does_X11_refusedAt (F_X11_noteReading ((R_X9_take (F_X5_open σ 900)).2))) ?_
    exact zR.iret rfl dX11_valley_34 ⟨by unfold V_X11_valley; rw [if_neg (Int.not_le.mpr c27)], by unfold F_X11_valley; rw [if_neg (Int.not_le.mpr c27)]⟩

def V_X11_book (σ : zG)  : Int := if ((R_X0_take (F_X5_open σ 900)).1) = 0 then (V_X11_refusedAt (F_X11_noteReading ((R_X0_take (F_X5_open σ 900)).2))) else ((F_X0_copy_27_35 (F_X11_noteReading ((R_X0_take (F_X5_open σ 900)).2))) 27 0)
def F_X11_book (σ : zG)  : zG := if ((R_X0_take (F_X5_open σ 900)).1) = 0 then (F_X11_noteReading ((R_X0_take (F_X5_open σ 900)).2)) else (F_X11_judgeAnew (F_X0_copy_27_35 (F_X11_noteReading ((R_X0_take (F_X5_open σ 900)).2))))
theorem fr_F_X11_book (σ : zG)  {k : Nat} (h : k ∉ [0, 1, 3, 27, 28, 29, 30, 31, 32, 33, 34, 35, 36, 37, 38, 39, 40, 41, 42, 53, 54, 55, 56, 57, 58, 59, 60, 61, 62, 63, 64, 65, 66, 81]) : (F_X11_book σ ) k = σ k := by
  have ne : ∀ c ∈ [0, 1, 3, 27, 28, 29, 30, 31, 32, 33, 34, 35, 36, 37, 38, 39, 40, 41, 42, 53, 54, 55, 56, 57, 58, 59, 60, 61, 62, 63, 64, 65, 66, 81], k ≠ c := fun c hc e => h (e ▸ hc)
  have nk_F_X11_noteReading : k ∉ [0, 1] := fun hm => h (by first | (revert hm; simp only [List.mem_cons, List.not_mem_nil, or_false]; omega) | (simp at hm))
  have nk_R_X0_take : k ∉ [3, 35, 36, 37, 38, 39, 40, 41, 42] := fun hm => h (by first | (revert hm; simp only [List.mem_cons, List.not_mem_nil, or_false]; omega) | (simp at hm))
  have nk_F_X5_open : k ∉ [3] := fun hm => h (by first | (revert hm; simp only [List.mem_cons, List.not_mem_nil, or_false]; omega) | (simp at hm))
  have nk_F_X11_judgeAnew : k ∉ [53, 54, 55, 56, 57, 58, 59, 60, 61, 62, 63, 64, 65, 66, 81] := fun hm => h (by first | (revert hm; simp only [List.mem_cons, List.not_mem_nil, or_false]; omega) | (simp at hm))
  have nk_F_X0_copy_27_35 : k ∉ [27, 28, 29, 30, 31, 32, 33, 34] := fun hm => h (by first | (revert hm; simp only [List.mem_cons, List.not_mem_nil, or_false]; omega) | (simp at hm))
  unfold F_X11_book
  repeat' split
  all_goals first | rfl | simp only [zu_row _ _ _ (ne 0 (by decide)), zu_row _ _ _ (ne 1 (by decide)), zu_row _ _ _ (ne 3 (by decide)), zu_row _ _ _ (ne 27 (by decide)), zu_row _ _ _ (ne 28 (by decide)), zu_row _ _ _ (ne 29 (by decide)), zu_row _ _ _ (ne 30 (by decide)), zu_row _ _ _ (ne 31 (by decide)), zu_row _ _ _ (ne 32 (by decide)), zu_row _ _ _ (ne 33 (by decide)), zu_row _ _ _ (ne 34 (by decide)), zu_row _ _ _ (ne 35 (by decide)), zu_row _ _ _ (ne 36 (by decide)), zu_row _ _ _ (ne 37 (by decide)), zu_row _ _ _ (ne 38 (by decide)), zu_row _ _ _ (ne 39 (by decide)), zu_row _ _ _ (ne 40 (by decide)), zu_row _ _ _ (ne 41 (by decide)), zu_row _ _ _ (ne 42 (by decide)), zu_row _ _ _ (ne 53 (by decide)), zu_row _ _ _ (ne 54 (by decide)), zu_row _ _ _ (ne 55 (by decide)), zu_row _ _ _ (ne 56 (by decide)), zu_row _ _ _ (ne 57 (by decide)), zu_row _ _ _ (ne 58 (by decide)), zu_row _ _ _ (ne 59 (by decide)), zu_row _ _ _ (ne 60 (by decide)), zu_row _ _ _ (ne 61 (by decide)), zu_row _ _ _ (ne 62 (by decide)), zu_row _ _ _ (ne 63 (by decide)), zu_row _ _ _ (ne 64 (by decide)), zu_row _ _ _ (ne 65 (by decide)), zu_row _ _ _ (ne 66 (by decide)), zu_row _ _ _ (ne 81 (by decide)), fr_F_X11_noteReading (h := nk_F_X11_noteReading), fr_R_X0_take (h := nk_R_X0_take), fr_F_X5_open (h := nk_F_X5_open), fr_F_X11_judgeAnew (h := nk_F_X11_judgeAnew), fr_F_X0_copy_27_35 (h := nk_F_X0_copy_27_35)]

set_option maxRecDepth 20000 in
theorem does_X11_book (σ : zG)  (ht : 0 ≤ σ 1 1 ∧ σ 1 1 ≤ 940) (hW : WC (F_X0_copy_27_35 (F_X11_noteReading ((R_X0_take (F_X5_open σ 900)).2)))) : zDo SC 7 m_X11_book [zP 0] σ (zEq (some (.inl (V_X11_book σ ))) (F_X11_book σ )) := by
  refine zDo.intro mk_X11_book (Nat.le_of_ble_eq_true rfl) ?_
  refine zRx.aload_n 0 rfl rfl dX11_book_0 ?_
  refine zRx.getR (a := 0) (b := 3) fl_11_21 rfl rfl dX11_book_1 ?_
  refine zRx.sipush ⟨by decide, by decide⟩ rfl dX11_book_4 ?_
  refine zRx.cVv (M := m_X5_open) (av := [.inl 900]) cv_11_117 mk_X5_open (by decide) (b := 3) rfl rfl (Nat.le_of_ble_eq_true rfl) dX11_book_7 (does_X5_open σ 900) ?_
  refine zRx.aload_n 0 rfl rfl dX11_book_10 ?_
  refine zRx.getR (a := 0) (b := 35) fl_11_42 rfl rfl dX11_book_11 ?_
  refine zRx.aload_n 0 rfl rfl dX11_book_14 ?_
  refine zRx.getR (a := 0) (b := 3) fl_11_21 rfl rfl dX11_book_15 ?_
  refine zRx.aload_n 0 rfl rfl dX11_book_18 ?_
  refine zRx.getR (a := 0) (b := 5) fl_11_28 rfl rfl dX11_book_19 ?_
  refine zRx.cVi (w := .inl ((R_X0_take (F_X5_open σ 900)).1)) (M := m_X0_take) (av := [zP 3, zP 5]) cv_11_171 mk_X0_take (by decide) (b := 35) rfl rfl (Nat.le_of_ble_eq_true rfl) dX11_book_22 (does_X0_take (F_X5_open σ 900) (CI_open ht)) ?_
  refine zRx.istore_n (ls' := [(0, zP 0), (1, .inl ((R_X0_take (F_X5_open σ 900)).1))]) rfl rfl (by decide) dX11_book_25 ?_
  refine zRx.aload_n 0 rfl rfl dX11_book_26 ?_
  refine zRx.cVv (M := m_X11_noteReading) (av := []) cv_11_124 mk_X11_noteReading (by decide) (b := 0) rfl rfl (Nat.le_of_ble_eq_true rfl) dX11_book_27 (does_X11_noteReading ((R_X0_take (F_X5_open σ 900)).2)) ?_
  refine zRx.iload_n 1 rfl rfl dX11_book_30 ?_
  refine zRx.if_ne (tgt := 39) dX11_book_31 (by decide) (fun c31 => ?_) (fun c31 => ?_)
  · refine zRx.aload_n 0 rfl rfl dX11_book_39 ?_
    refine zRx.getR (a := 0) (b := 27) fl_11_38 rfl rfl dX11_book_40 ?_
    refine zRx.aload_n 0 rfl rfl dX11_book_43 ?_
    refine zRx.getR (a := 0) (b := 35) fl_11_42 rfl rfl dX11_book_44 ?_
    refine zRx.cVv (M := m_X0_copy) (av := [zP 35]) cv_11_174 mk_X0_copy (by decide) (b := 27) rfl rfl (Nat.le_of_ble_eq_true rfl) dX11_book_47 (does_X0_copy_27_35 (F_X11_noteReading ((R_X0_take (F_X5_open σ 900)).2))) ?_
    refine zRx.aload_n 0 rfl rfl dX11_book_50 ?_
    refine zRx.cVv (M := m_X11_judgeAnew) (av := []) cv_11_139 mk_X11_judgeAnew (by decide) (b := 0) rfl rfl (Nat.le_of_ble_eq_true rfl) dX11_book_51 (does_X11_judgeAnew (F_X0_copy_27_35 (F_X11_noteReading ((R_X0_take (F_X5_open σ 900)).2))) hW) ?_
    refine zRx.aload_n 0 rfl rfl dX11_book_54 ?_
    refine zRx.getR (a := 0) (b := 27) fl_11_38 rfl rfl dX11_book_55 ?_
    refine zRx.getIv (a := 27) (ji := 0) (v := (F_X0_copy_27_35 (F_X11_noteReading ((R_X0_take (F_X5_open σ 900)).2))) 27 0) (congrFun (fr_F_X11_judgeAnew (F_X0_copy_27_35 (F_X11_noteReading ((R_X0_take (F_X5_open σ 900)).2))) (k := 27) (by decide)) _) fl_11_177 rfl rfl rfl dX11_book_58 ?_
    exact zR.iret rfl dX11_book_61 ⟨by unfold V_X11_book; rw [if_neg c31], by unfold F_X11_book; rw [if_neg c31]⟩
  · refine zRx.aload_n 0 rfl rfl dX11_book_34 ?_
    refine zRx.cVi (w := .inl (V_X11_refusedAt (F_X11_noteReading ((R_X0_take (F_X5_open σ 900)).2)))) (M := m_X11_refusedAt) (av := []) cv_11_127 mk_X11_refusedAt (by decide) (b := 0) rfl rfl (Nat.le_of_ble_eq_true rfl) dX11_book_35 (does_X11_refusedAt (F_X11_noteReading ((R_X0_take (F_X5_open σ 900)).2))) ?_
    exact zR.iret rfl dX11_book_38 ⟨by unfold V_X11_book; rw [if_pos c31], by unfold F_X11_book; rw [if_pos c31]⟩

def V_X11_drawn (σ : zG) (x sd : Int) : Int := if x < 1 then (-1) else (if 60 < x then (-1) else (if (σ 5 0) < 2 then (-1) else (if 1 ≤ (σ 5 1) then ((R_X0_draw (zu σ 97 0 sd) x) 27 0) else (-1))))
def F_X11_drawn (σ : zG) (x sd : Int) : zG := if x < 1 then σ else (if 60 < x then σ else (if (σ 5 0) < 2 then σ else (if 1 ≤ (σ 5 1) then (F_X11_judgeAnew (R_X0_draw (zu σ 97 0 sd) x)) else σ)))
theorem fr_F_X11_drawn (σ : zG) (x sd : Int) {k : Nat} (h : k ∉ [27, 28, 29, 30, 31, 32, 33, 34, 53, 54, 55, 56, 57, 58, 59, 60, 61, 62, 63, 64, 65, 66, 81, 97]) : (F_X11_drawn σ x sd) k = σ k := by
  have ne : ∀ c ∈ [27, 28, 29, 30, 31, 32, 33, 34, 53, 54, 55, 56, 57, 58, 59, 60, 61, 62, 63, 64, 65, 66, 81, 97], k ≠ c := fun c hc e => h (e ▸ hc)
  have nk_F_X11_judgeAnew : k ∉ [53, 54, 55, 56, 57, 58, 59, 60, 61, 62, 63, 64, 65, 66, 81] := fun hm => h (by first | (revert hm; simp only [List.mem_cons, List.not_mem_nil, or_false]; omega) | (simp at hm))
  have nk_R_X0_draw : k ∉ [27, 28, 29, 30, 31, 32, 33, 34, 97] := fun hm => h (by first | (revert hm; simp only [List.mem_cons, List.not_mem_nil, or_false]; omega) | (simp at hm))
  unfold F_X11_drawn
  repeat' split
  all_goals first | rfl | simp only [zu_row _ _ _ (ne 27 (by decide)), zu_row _ _ _ (ne 28 (by decide)), zu_row _ _ _ (ne 29 (by decide)), zu_row _ _ _ (ne 30 (by decide)), zu_row _ _ _ (ne 31 (by decide)), zu_row _ _ _ (ne 32 (by decide)), zu_row _ _ _ (ne 33 (by decide)), zu_row _ _ _ (ne 34 (by decide)), zu_row _ _ _ (ne 53 (by decide)), zu_row _ _ _ (ne 54 (by decide)), zu_row _ _ _ (ne 55 (by decide)), zu_row _ _ _ (ne 56 (by decide)), zu_row _ _ _ (ne 57 (by decide)), zu_row _ _ _ (ne 58 (by decide)), zu_row _ _ _ (ne 59 (by decide)), zu_row _ _ _ (ne 60 (by decide)), zu_row _ _ _ (ne 61 (by decide)), zu_row _ _ _ (ne 62 (by decide)), zu_row _ _ _ (ne 63 (by decide)), zu_row _ _ _ (ne 64 (by decide)), zu_row _ _ _ (ne 65 (by decide)), zu_row _ _ _ (ne 66 (by decide)), zu_row _ _ _ (ne 81 (by decide)), zu_row _ _ _ (ne 97 (by decide)), fr_F_X11_judgeAnew (h := nk_F_X11_judgeAnew), fr_R_X0_draw (h := nk_R_X0_draw)]

set_option maxRecDepth 20000 in
theorem does_X11_drawn (σ : zG) (x sd : Int) (hp : σ 5 0 ≤ 8) (hF : σ 5 1 ≤ 12) (hW : WC (R_X0_draw (zu σ 97 0 sd) x)) : zDo SC 7 m_X11_drawn [zP 0, .inl x, .inl sd] σ (zEq (some (.inl (V_X11_drawn σ x sd))) (F_X11_drawn σ x sd)) := by
  refine zDo.intro mk_X11_drawn (Nat.le_of_ble_eq_true rfl) ?_
  refine zRx.iload_n 1 rfl rfl dX11_drawn_0 ?_
  refine zRx.iconst ⟨by decide, by decide⟩ dX11_drawn_1 ?_
  refine zRx.icmp_lt (tgt := 33) dX11_drawn_2 (by decide) (fun c2 => ?_) (fun c2 => ?_)
  · refine zRx.iconst ⟨by decide, by decide⟩ dX11_drawn_33 ?_
    exact zR.iret rfl dX11_drawn_34 ⟨by unfold V_X11_drawn; rw [if_pos c2], by unfold F_X11_drawn; rw [if_pos c2]⟩
  · refine zRx.iload_n 1 rfl rfl dX11_drawn_5 ?_
    refine zRx.bipush ⟨by decide, by decide⟩ rfl dX11_drawn_6 ?_
    refine zRx.icmp_gt (tgt := 33) dX11_drawn_8 (by decide) (fun c8 => ?_) (fun c8 => ?_)
    · refine zRx.iconst ⟨by decide, by decide⟩ dX11_drawn_33 ?_
      exact zR.iret rfl dX11_drawn_34 ⟨by unfold V_X11_drawn; rw [if_neg (Int.not_lt.mpr c2), if_pos c8], by unfold F_X11_drawn; rw [if_neg (Int.not_lt.mpr c2), if_pos c8]⟩
    · refine zRx.aload_n 0 rfl rfl dX11_drawn_11 ?_
      refine zRx.getR (a := 0) (b := 5) fl_11_28 rfl rfl dX11_drawn_12 ?_
      refine zRx.getIv (a := 5) (ji := 0) (v := σ 5 0) rfl fl_11_180 rfl rfl rfl dX11_drawn_15 ?_
      refine zRx.iconst ⟨by decide, by decide⟩ dX11_drawn_18 ?_
      refine zRx.icmp_lt (tgt := 33) dX11_drawn_19 (by decide) (fun c19 => ?_) (fun c19 => ?_)
      · refine zRx.iconst ⟨by decide, by decide⟩ dX11_drawn_33 ?_
        exact zR.iret rfl dX11_drawn_34 ⟨by unfold V_X11_drawn; rw [if_neg (Int.not_lt.mpr c2), if_neg (Int.not_lt.mpr c8), if_pos c19], by unfold F_X11_drawn; rw [if_neg (Int.not_lt.mpr c2), if_neg (Int.not_lt.mpr c8), if_pos c19]⟩
      · refine zRx.aload_n 0 rfl rfl dX11_drawn_22 ?_
        refine zRx.getR (a := 0) (b := 5) fl_11_28 rfl rfl dX11_drawn_23 ?_
        refine zRx.getIv (a := 5) (ji := 1) (v := σ 5 1) rfl fl_11_183 rfl rfl rfl dX11_drawn_26 ?_
        refine zRx.iconst ⟨by decide, by decide⟩ dX11_drawn_29 ?_
        refine zRx.icmp_ge (tgt := 35) dX11_drawn_30 (by decide) (fun c30 => ?_) (fun c30 => ?_)
        · refine zRx.aload_n 0 rfl rfl dX11_drawn_35 ?_
          refine zRx.getR (a := 0) (b := 97) fl_11_91 rfl rfl dX11_drawn_36 ?_
          refine zRx.iload_n 2 rfl rfl dX11_drawn_39 ?_
          refine zRx.putI (a := 97) (ji := 0) pl_11_186 rfl rfl rfl dX11_drawn_40 ?_
          refine zRx.aload_n 0 rfl rfl dX11_drawn_43 ?_
          refine zRx.getR (a := 0) (b := 27) fl_11_38 rfl rfl dX11_drawn_44 ?_
          refine zRx.iload_n 1 rfl rfl dX11_drawn_47 ?_
          refine zRx.aload_n 0 rfl rfl dX11_drawn_48 ?_
          refine zRx.getR (a := 0) (b := 97) fl_11_91 rfl rfl dX11_drawn_49 ?_
          refine zRx.aload_n 0 rfl rfl dX11_drawn_52 ?_
          refine zRx.getR (a := 0) (b := 5) fl_11_28 rfl rfl dX11_drawn_53 ?_
          refine zRx.cVv (M := m_X0_draw) (av := [.inl x, zP 97, zP 5]) cv_11_189 mk_X0_draw (by decide) (b := 27) rfl rfl (Nat.le_of_ble_eq_true rfl) dX11_drawn_56 (does_X0_draw (zu σ 97 0 sd) x (by omega) (by have e9 : (zu σ 97 0 sd) 5 0 = σ 5 0 := (zu_ne _ _ _ _ (by decide)); omega) (by have e9 : (zu σ 97 0 sd) 5 1 = σ 5 1 := (zu_ne _ _ _ _ (by decide)); omega)) ?_
          refine zRx.aload_n 0 rfl rfl dX11_drawn_59 ?_
          refine zRx.cVv (M := m_X11_judgeAnew) (av := []) cv_11_139 mk_X11_judgeAnew (by decide) (b := 0) rfl rfl (Nat.le_of_ble_eq_true rfl) dX11_drawn_60 (does_X11_judgeAnew (R_X0_draw (zu σ 97 0 sd) x) hW) ?_
          refine zRx.aload_n 0 rfl rfl dX11_drawn_63 ?_
          refine zRx.getR (a := 0) (b := 27) fl_11_38 rfl rfl dX11_drawn_64 ?_
          refine zRx.getIv (a := 27) (ji := 0) (v := (R_X0_draw (zu σ 97 0 sd) x) 27 0) (congrFun (fr_F_X11_judgeAnew (R_X0_draw (zu σ 97 0 sd) x) (k := 27) (by decide)) _) fl_11_177 rfl rfl rfl dX11_drawn_67 ?_
          exact zR.iret rfl dX11_drawn_70 ⟨by unfold V_X11_drawn; rw [if_neg (Int.not_lt.mpr c2), if_neg (Int.not_lt.mpr c8), if_neg (Int.not_lt.mpr c19), if_pos c30], by unfold F_X11_drawn; rw [if_neg (Int.not_lt.mpr c2), if_neg (Int.not_lt.mpr c8), if_neg (Int.not_lt.mpr c19), if_pos c30]⟩
        · refine zRx.iconst ⟨by decide, by decide⟩ dX11_drawn_33 ?_
          exact zR.iret rfl dX11_drawn_34 ⟨by unfold V_X11_drawn; rw [if_neg (Int.not_lt.mpr c2), if_neg (Int.not_lt.mpr c8), if_neg (Int.not_lt.mpr c19), if_neg (Int.not_le.mpr c30)], by unfold F_X11_drawn; rw [if_neg (Int.not_lt.mpr c2), if_neg (Int.not_lt.mpr c8), if_neg (Int.not_lt.mpr c19), if_neg (Int.not_le.mpr c30)]⟩

def V_X11_order (σ : zG)  : Int := if ((R_X8_take σ).1) = 0 then (-1) else ((R_X8_settle (zu ((R_X8_take σ).2) 1 1 0)).1)
def F_X11_order (σ : zG)  : zG := if ((R_X8_take σ).1) = 0 then (zu ((R_X8_take σ).2) 1 1 0) else ((R_X8_settle (zu ((R_X8_take σ).2) 1 1 0)).2)
theorem fr_F_X11_order (σ : zG)  {k : Nat} (h : k ∉ [1, 67, 68, 69, 71, 73, 74, 75, 77, 79, 80, 91, 92, 93, 94, 95, 96]) : (F_X11_order σ ) k = σ k := by
  have ne : ∀ c ∈ [1, 67, 68, 69, 71, 73, 74, 75, 77, 79, 80, 91, 92, 93, 94, 95, 96], k ≠ c := fun c hc e => h (e ▸ hc)
  have nk_R_X8_take : k ∉ [91, 92, 93, 94] := fun hm => h (by first | (revert hm; simp only [List.mem_cons, List.not_mem_nil, or_false]; omega) | (simp at hm))
  have nk_R_X8_settle : k ∉ [67, 68, 69, 71, 73, 74, 75, 77, 79, 80, 91, 95, 96] := fun hm => h (by first | (revert hm; simp only [List.mem_cons, List.not_mem_nil, or_false]; omega) | (simp at hm))
  unfold F_X11_order
  repeat' split
  all_goals first | rfl | simp only [zu_row _ _ _ (ne 1 (by decide)), zu_row _ _ _ (ne 67 (by decide)), zu_row _ _ _ (ne 68 (by decide)), zu_row _ _ _ (ne 69 (by decide)), zu_row _ _ _ (ne 71 (by decide)), zu_row _ _ _ (ne 73 (by decide)), zu_row _ _ _ (ne 74 (by decide)), zu_row _ _ _ (ne 75 (by decide)), zu_row _ _ _ (ne 77 (by decide)), zu_row _ _ _ (ne 79 (by decide)), zu_row _ _ _ (ne 80 (by decide)), zu_row _ _ _ (ne 91 (by decide)), zu_row _ _ _ (ne 92 (by decide)), zu_row _ _ _ (ne 93 (by decide)), zu_row _ _ _ (ne 94 (by decide)), zu_row _ _ _ (ne 95 (by decide)), zu_row _ _ _ (ne 96 (by decide)), fr_R_X8_take (h := nk_R_X8_take), fr_R_X8_settle (h := nk_R_X8_settle)]

set_option maxRecDepth 20000 in
theorem does_X11_order (σ : zG)  (hp : σ 5 0 ≤ 8) (hs : σ 5 2 ≤ 8) (hF : σ 5 1 ≤ 12) (hm : σ 53 8 ≤ 128) (hS : ¬ (R_X8_take σ).1 = 0 → (1 ≤ (zu ((R_X8_take σ).2) 1 1 0) 91 0 ∧ (zu ((R_X8_take σ).2) 1 1 0) 91 0 ≤ 5) ∧ TEL (zu ((R_X8_take σ).2) 1 1 0)) : zDo SC 7 m_X11_order [zP 0] σ (zEq (some (.inl (V_X11_order σ ))) (F_X11_order σ )) := by
  refine zDo.intro mk_X11_order (Nat.le_of_ble_eq_true rfl) ?_
  refine zRx.aload_n 0 rfl rfl dX11_order_0 ?_
  refine zRx.getR (a := 0) (b := 91) fl_11_84 rfl rfl dX11_order_1 ?_
  refine zRx.aload_n 0 rfl rfl dX11_order_4 ?_
  refine zRx.getR (a := 0) (b := 1) fl_11_12 rfl rfl dX11_order_5 ?_
  refine zRx.aload_n 0 rfl rfl dX11_order_8 ?_
  refine zRx.getR (a := 0) (b := 5) fl_11_28 rfl rfl dX11_order_9 ?_
  refine zRx.cVi (w := .inl ((R_X8_take σ).1)) (M := m_X8_take) (av := [zP 1, zP 5]) cv_11_306 mk_X8_take (by decide) (b := 91) rfl rfl (Nat.le_of_ble_eq_true rfl) dX11_order_12 (does_X8_take σ) ?_
  refine zRx.istore_n (ls' := [(0, zP 0), (1, .inl ((R_X8_take σ).1))]) rfl rfl (by decide) dX11_order_15 ?_
  refine zRx.aload_n 0 rfl rfl dX11_order_16 ?_
  refine zRx.getR (a := 0) (b := 1) fl_11_12 rfl rfl dX11_order_17 ?_
  refine zRx.iconst ⟨by decide, by decide⟩ dX11_order_20 ?_
  refine zRx.putI (a := 1) (ji := 1) pl_11_110 rfl rfl rfl dX11_order_21 ?_
  refine zRx.iload_n 1 rfl rfl dX11_order_24 ?_
  refine zRx.if_eq (tgt := 46) dX11_order_25 (by decide) (fun c25 => ?_) (fun c25 => ?_)
  · refine zRx.iconst ⟨by decide, by decide⟩ dX11_order_46 ?_
    exact zR.iret rfl dX11_order_47 ⟨by unfold V_X11_order; rw [if_pos c25], by unfold F_X11_order; rw [if_pos c25]⟩
  · refine zRx.aload_n 0 rfl rfl dX11_order_28 ?_
    refine zRx.getR (a := 0) (b := 91) fl_11_84 rfl rfl dX11_order_29 ?_
    refine zRx.aload_n 0 rfl rfl dX11_order_32 ?_
    refine zRx.getR (a := 0) (b := 53) fl_11_60 rfl rfl dX11_order_33 ?_
    refine zRx.aload_n 0 rfl rfl dX11_order_36 ?_
    refine zRx.getR (a := 0) (b := 67) fl_11_64 rfl rfl dX11_order_37 ?_
    refine zRx.cVi (w := .inl ((R_X8_settle (zu ((R_X8_take σ).2) 1 1 0)).1)) (M := m_X8_settle) (av := [zP 53, zP 67]) cv_11_309 mk_X8_settle (by decide) (b := 91) rfl rfl (Nat.le_of_ble_eq_true rfl) dX11_order_40 (does_X8_settle (zu ((R_X8_take σ).2) 1 1 0) (hS c25).1 (by have e9 : (zu ((R_X8_take σ).2) 1 1 0) 5 0 = σ 5 0 := ((zu_ne _ _ _ _ (by decide)).trans (congrFun (fr_R_X8_take σ (k := 5) (by decide)) _)); omega) (by have e9 : (zu ((R_X8_take σ).2) 1 1 0) 5 2 = σ 5 2 := ((zu_ne _ _ _ _ (by decide)).trans (congrFun (fr_R_X8_take σ (k := 5) (by decide)) _)); omega) (by have e9 : (zu ((R_X8_take σ).2) 1 1 0) 5 1 = σ 5 1 := ((zu_ne _ _ _ _ (by decide)).trans (congrFun (fr_R_X8_take σ (k := 5) (by decide)) _)); omega) (by have e9 : (zu ((R_X8_take σ).2) 1 1 0) 53 8 = σ 53 8 := ((zu_ne _ _ _ _ (by decide)).trans (congrFun (fr_R_X8_take σ (k := 53) (by decide)) _)); omega) (hS c25).2) ?_
    refine zRx.goto (tgt := 47) dX11_order_43 (by decide) ?_
    exact zR.iret rfl dX11_order_47 ⟨by unfold V_X11_order; rw [if_neg c25], by unfold F_X11_order; rw [if_neg c25]⟩

def V_X11_sentence (σ : zG)  : Int := if (V_X6_take (F_X5_open σ 200)) = 0 then (V_X11_refusedAt (F_X11_noteReading (F_X6_take (F_X5_open σ 200)))) else ((F_X6_copy_43_48 (F_X11_noteReading (F_X6_take (F_X5_open σ 200)))) 43 0)
def F_X11_sentence (σ : zG)  : zG := if (V_X6_take (F_X5_open σ 200)) = 0 then (F_X11_noteReading (F_X6_take (F_X5_open σ 200))) else (F_X6_copy_43_48 (F_X11_noteReading (F_X6_take (F_X5_open σ 200))))
theorem fr_F_X11_sentence (σ : zG) (ht : 0 ≤ σ 1 1 ∧ σ 1 1 ≤ 940)  {k : Nat} (h : k ∉ [0, 1, 3, 43, 44, 45, 46, 48, 49, 50, 51]) : (F_X11_sentence σ ) k = σ k := by
  have ne : ∀ c ∈ [0, 1, 3, 43, 44, 45, 46, 48, 49, 50, 51], k ≠ c := fun c hc e => h (e ▸ hc)
  have nk_F_X11_noteReading : k ∉ [0, 1] := fun hm => h (by first | (revert hm; simp only [List.mem_cons, List.not_mem_nil, or_false]; omega) | (simp at hm))
  have nk_F_X6_take : k ∉ [3, 48, 49, 50, 51] := fun hm => h (by first | (revert hm; simp only [List.mem_cons, List.not_mem_nil, or_false]; omega) | (simp at hm))
  have nk_F_X5_open : k ∉ [3] := fun hm => h (by first | (revert hm; simp only [List.mem_cons, List.not_mem_nil, or_false]; omega) | (simp at hm))
  have nk_F_X6_copy_43_48 : k ∉ [43, 44, 45, 46] := fun hm => h (by first | (revert hm; simp only [List.mem_cons, List.not_mem_nil, or_false]; omega) | (simp at hm))
  unfold F_X11_sentence
  repeat' split
  all_goals first | rfl | simp only [zu_row _ _ _ (ne 0 (by decide)), zu_row _ _ _ (ne 1 (by decide)), zu_row _ _ _ (ne 3 (by decide)), zu_row _ _ _ (ne 43 (by decide)), zu_row _ _ _ (ne 44 (by decide)), zu_row _ _ _ (ne 45 (by decide)), zu_row _ _ _ (ne 46 (by decide)), zu_row _ _ _ (ne 48 (by decide)), zu_row _ _ _ (ne 49 (by decide)), zu_row _ _ _ (ne 50 (by decide)), zu_row _ _ _ (ne 51 (by decide)), fr_F_X11_noteReading (h := nk_F_X11_noteReading), fr_F_X6_take _ (CI_open ht) nk_F_X6_take, fr_F_X5_open (h := nk_F_X5_open), fr_F_X6_copy_43_48 (h := nk_F_X6_copy_43_48)]

set_option maxRecDepth 20000 in
theorem does_X11_sentence (σ : zG)  (ht : 0 ≤ σ 1 1 ∧ σ 1 1 ≤ 940) : zDo SC 41 m_X11_sentence [zP 0] σ (zEq (some (.inl (V_X11_sentence σ ))) (F_X11_sentence σ )) := by
  refine zDo.intro mk_X11_sentence (Nat.le_of_ble_eq_true rfl) ?_
  refine zRx.aload_n 0 rfl rfl dX11_sentence_0 ?_
  refine zRx.getR (a := 0) (b := 3) fl_11_21 rfl rfl dX11_sentence_1 ?_
  refine zRx.sipush ⟨by decide, by decide⟩ rfl dX11_sentence_4 ?_
  refine zRx.cVv (M := m_X5_open) (av := [.inl 200]) cv_11_117 mk_X5_open (by decide) (b := 3) rfl rfl (Nat.le_of_ble_eq_true rfl) dX11_sentence_7 (does_X5_open σ 200) ?_
  refine zRx.aload_n 0 rfl rfl dX11_sentence_10 ?_
  refine zRx.getR (a := 0) (b := 48) fl_11_52 rfl rfl dX11_sentence_11 ?_
  refine zRx.aload_n 0 rfl rfl dX11_sentence_14 ?_
  refine zRx.getR (a := 0) (b := 3) fl_11_21 rfl rfl dX11_sentence_15 ?_
  refine zRx.aload_n 0 rfl rfl dX11_sentence_18 ?_
  refine zRx.getR (a := 0) (b := 5) fl_11_28 rfl rfl dX11_sentence_19 ?_
  refine zRx.cVi (w := .inl (V_X6_take (F_X5_open σ 200))) (M := m_X6_take) (av := [zP 3, zP 5]) cv_11_354 mk_X6_take (by decide) (b := 48) rfl rfl (Nat.le_of_ble_eq_true rfl) dX11_sentence_22 (does_X6_take (F_X5_open σ 200) (CI_open ht)) ?_
  refine zRx.istore_n (ls' := [(0, zP 0), (1, .inl (V_X6_take (F_X5_open σ 200)))]) rfl rfl (by decide) dX11_sentence_25 ?_
  refine zRx.aload_n 0 rfl rfl dX11_sentence_26 ?_
  refine zRx.cVv (M := m_X11_noteReading) (av := []) cv_11_124 mk_X11_noteReading (by decide) (b := 0) rfl rfl (Nat.le_of_ble_eq_true rfl) dX11_sentence_27 (does_X11_noteReading (F_X6_take (F_X5_open σ 200))) ?_
  refine zRx.iload_n 1 rfl rfl dX11_sentence_30 ?_
  refine zRx.if_ne (tgt := 39) dX11_sentence_31 (by decide) (fun c31 => ?_) (fun c31 => ?_)
  · refine zRx.aload_n 0 rfl rfl dX11_sentence_39 ?_
    refine zRx.getR (a := 0) (b := 43) fl_11_48 rfl rfl dX11_sentence_40 ?_
    refine zRx.aload_n 0 rfl rfl dX11_sentence_43 ?_
    refine zRx.getR (a := 0) (b := 48) fl_11_52 rfl rfl dX11_sentence_44 ?_
    refine zRx.cVv (M := m_X6_copy) (av := [zP 48]) cv_11_355 mk_X6_copy (by decide) (b := 43) rfl rfl (Nat.le_of_ble_eq_true rfl) dX11_sentence_47 (does_X6_copy_43_48 (F_X11_noteReading (F_X6_take (F_X5_open σ 200)))) ?_
    refine zRx.aload_n 0 rfl rfl dX11_sentence_50 ?_
    refine zRx.getR (a := 0) (b := 43) fl_11_48 rfl rfl dX11_sentence_51 ?_
    refine zRx.getIv (a := 43) (ji := 0) (v := (F_X6_copy_43_48 (F_X11_noteReading (F_X6_take (F_X5_open σ 200)))) 43 0) rfl fl_11_358 rfl rfl rfl dX11_sentence_54 ?_
    exact zR.iret rfl dX11_sentence_57 ⟨by unfold V_X11_sentence; rw [if_neg c31], by unfold F_X11_sentence; rw [if_neg c31]⟩
  · refine zRx.aload_n 0 rfl rfl dX11_sentence_34 ?_
    refine zRx.cVi (w := .inl (V_X11_refusedAt (F_X11_noteReading (F_X6_take (F_X5_open σ 200))))) (M := m_X11_refusedAt) (av := []) cv_11_127 mk_X11_refusedAt (by decide) (b := 0) rfl rfl (Nat.le_of_ble_eq_true rfl) dX11_sentence_35 (does_X11_refusedAt (F_X11_noteReading (F_X6_take (F_X5_open σ 200)))) ?_
    exact zR.iret rfl dX11_sentence_38 ⟨by unfold V_X11_sentence; rw [if_pos c31], by unfold F_X11_sentence; rw [if_pos c31]⟩

def V_X11_said (σ : zG)  : Int := if (σ 43 0) ≤ 0 then (-1) else ((R_X6_holdsFor σ).1)
def F_X11_said (σ : zG)  : zG := if (σ 43 0) ≤ 0 then σ else ((R_X6_holdsFor σ).2)
theorem fr_F_X11_said (σ : zG)  {k : Nat} (h : k ∉ [47]) : (F_X11_said σ ) k = σ k := by
  have ne : ∀ c ∈ [47], k ≠ c := fun c hc e => h (e ▸ hc)
  have nk_R_X6_holdsFor : k ∉ [47] := fun hm => h (by first | (revert hm; simp only [List.mem_cons, List.not_mem_nil, or_false]; omega) | (simp at hm))
  unfold F_X11_said
  repeat' split
  all_goals first | rfl | simp only [zu_row _ _ _ (ne 47 (by decide)), fr_R_X6_holdsFor (h := nk_R_X6_holdsFor)]

set_option maxRecDepth 20000 in
theorem does_X11_said (σ : zG)  (hm : σ 53 8 ≤ 128) (hL : σ 27 0 ≤ 60) (hD : WD σ) (hp2 : 0 ≤ σ 5 0 ∧ σ 5 0 ≤ 8) (hst : σ 43 1 ≤ 40) : zDo SC 6 m_X11_said [zP 0] σ (zEq (some (.inl (V_X11_said σ ))) (F_X11_said σ )) := by
  refine zDo.intro mk_X11_said (Nat.le_of_ble_eq_true rfl) ?_
  refine zRx.aload_n 0 rfl rfl dX11_said_0 ?_
  refine zRx.getR (a := 0) (b := 43) fl_11_48 rfl rfl dX11_said_1 ?_
  refine zRx.getIv (a := 43) (ji := 0) (v := σ 43 0) rfl fl_11_358 rfl rfl rfl dX11_said_4 ?_
  refine zRx.if_le (tgt := 24) dX11_said_7 (by decide) (fun c7 => ?_) (fun c7 => ?_)
  · refine zRx.iconst ⟨by decide, by decide⟩ dX11_said_24 ?_
    exact zR.iret rfl dX11_said_25 ⟨by unfold V_X11_said; rw [if_pos c7], by unfold F_X11_said; rw [if_pos c7]⟩
  · refine zRx.aload_n 0 rfl rfl dX11_said_10 ?_
    refine zRx.getR (a := 0) (b := 43) fl_11_48 rfl rfl dX11_said_11 ?_
    refine zRx.aload_n 0 rfl rfl dX11_said_14 ?_
    refine zRx.getR (a := 0) (b := 53) fl_11_60 rfl rfl dX11_said_15 ?_
    refine zRx.cVi (w := .inl ((R_X6_holdsFor σ).1)) (M := m_X6_holdsFor) (av := [zP 53]) cv_11_361 mk_X6_holdsFor (by decide) (b := 43) rfl rfl (Nat.le_of_ble_eq_true rfl) dX11_said_18 (does_X6_holdsFor σ hm hL hD hp2 hst) ?_
    refine zRx.goto (tgt := 25) dX11_said_21 (by decide) ?_
    exact zR.iret rfl dX11_said_25 ⟨by unfold V_X11_said; rw [if_neg (Int.not_le.mpr c7)], by unfold F_X11_said; rw [if_neg (Int.not_le.mpr c7)]⟩

def F_X3_keep_100 (σ : zG)  : zG := zu (F_X6_copy_120_43 (F_X0_copy_112_27 (F_X9_copy_101_5 σ))) 100 0 1
theorem fr_F_X3_keep_100 (σ : zG)  {k : Nat} (h : k ∉ [100, 101, 102, 103, 104, 105, 106, 107, 108, 109, 110, 111, 112, 113, 114, 115, 116, 117, 118, 119, 120, 121, 122, 123]) : (F_X3_keep_100 σ ) k = σ k := by
  have ne : ∀ c ∈ [100, 101, 102, 103, 104, 105, 106, 107, 108, 109, 110, 111, 112, 113, 114, 115, 116, 117, 118, 119, 120, 121, 122, 123], k ≠ c := fun c hc e => h (e ▸ hc)
  have nk_F_X6_copy_120_43 : k ∉ [120, 121, 122, 123] := fun hm => h (by first | (revert hm; simp only [List.mem_cons, List.not_mem_nil, or_false]; omega) | (simp at hm))
  have nk_F_X0_copy_112_27 : k ∉ [112, 113, 114, 115, 116, 117, 118, 119] := fun hm => h (by first | (revert hm; simp only [List.mem_cons, List.not_mem_nil, or_false]; omega) | (simp at hm))
  have nk_F_X9_copy_101_5 : k ∉ [101, 102, 103, 104, 105, 106, 107, 108, 109, 110, 111] := fun hm => h (by first | (revert hm; simp only [List.mem_cons, List.not_mem_nil, or_false]; omega) | (simp at hm))
  unfold F_X3_keep_100
  repeat' split
  all_goals first | rfl | simp only [zu_row _ _ _ (ne 100 (by decide)), zu_row _ _ _ (ne 101 (by decide)), zu_row _ _ _ (ne 102 (by decide)), zu_row _ _ _ (ne 103 (by decide)), zu_row _ _ _ (ne 104 (by decide)), zu_row _ _ _ (ne 105 (by decide)), zu_row _ _ _ (ne 106 (by decide)), zu_row _ _ _ (ne 107 (by decide)), zu_row _ _ _ (ne 108 (by decide)), zu_row _ _ _ (ne 109 (by decide)), zu_row _ _ _ (ne 110 (by decide)), zu_row _ _ _ (ne 111 (by decide)), zu_row _ _ _ (ne 112 (by decide)), zu_row _ _ _ (ne 113 (by decide)), zu_row _ _ _ (ne 114 (by decide)), zu_row _ _ _ (ne 115 (by decide)), zu_row _ _ _ (ne 116 (by decide)), zu_row _ _ _ (ne 117 (by decide)), zu_row _ _ _ (ne 118 (by decide)), zu_row _ _ _ (ne 119 (by decide)), zu_row _ _ _ (ne 120 (by decide)), zu_row _ _ _ (ne 121 (by decide)), zu_row _ _ _ (ne 122 (by decide)), zu_row _ _ _ (ne 123 (by decide)), fr_F_X6_copy_120_43 (h := nk_F_X6_copy_120_43), fr_F_X0_copy_112_27 (h := nk_F_X0_copy_112_27), fr_F_X9_copy_101_5 (h := nk_F_X9_copy_101_5)]

set_option maxRecDepth 20000 in
theorem does_X3_keep_100 (σ : zG)   : zDo SC 2 m_X3_keep [zP 100, zP 5, zP 27, zP 43] σ (zEq (none) (F_X3_keep_100 σ )) := by
  refine zDo.intro mk_X3_keep (Nat.le_of_ble_eq_true rfl) ?_
  refine zRx.aload_n 0 rfl rfl dX3_keep_0 ?_
  refine zRx.getR (a := 100) (b := 101) fl_3_10 rfl rfl dX3_keep_1 ?_
  refine zRx.aload_n 1 rfl rfl dX3_keep_4 ?_
  refine zRx.cVv (M := m_X9_copy) (av := [zP 5]) cv_3_30 mk_X9_copy (by decide) (b := 101) rfl rfl (Nat.le_of_ble_eq_true rfl) dX3_keep_5 (does_X9_copy_101_5 σ) ?_
  refine zRx.aload_n 0 rfl rfl dX3_keep_8 ?_
  refine zRx.getR (a := 100) (b := 112) fl_3_19 rfl rfl dX3_keep_9 ?_
  refine zRx.aload_n 2 rfl rfl dX3_keep_12 ?_
  refine zRx.cVv (M := m_X0_copy) (av := [zP 27]) cv_3_34 mk_X0_copy (by decide) (b := 112) rfl rfl (Nat.le_of_ble_eq_true rfl) dX3_keep_13 (does_X0_copy_112_27 (F_X9_copy_101_5 σ)) ?_
  refine zRx.aload_n 0 rfl rfl dX3_keep_16 ?_
  refine zRx.getR (a := 100) (b := 120) fl_3_26 rfl rfl dX3_keep_17 ?_
  refine zRx.aload_n 3 rfl rfl dX3_keep_20 ?_
  refine zRx.cVv (M := m_X6_copy) (av := [zP 43]) cv_3_37 mk_X6_copy (by decide) (b := 120) rfl rfl (Nat.le_of_ble_eq_true rfl) dX3_keep_21 (does_X6_copy_120_43 (F_X0_copy_112_27 (F_X9_copy_101_5 σ))) ?_
  refine zRx.aload_n 0 rfl rfl dX3_keep_24 ?_
  refine zRx.iconst ⟨by decide, by decide⟩ dX3_keep_25 ?_
  refine zRx.putZ (a := 100) (ji := 0) pl_3_40 rfl rfl rfl ⟨by decide, by decide⟩ dX3_keep_26 ?_
  exact zR.ret rfl dX3_keep_29 ⟨rfl, rfl⟩

def F_X3_keep_125 (σ : zG)  : zG := zu (F_X6_copy_145_43 (F_X0_copy_137_27 (F_X9_copy_126_5 σ))) 125 0 1
theorem fr_F_X3_keep_125 (σ : zG)  {k : Nat} (h : k ∉ [125, 126, 127, 128, 129, 130, 131, 132, 133, 134, 135, 136, 137, 138, 139, 140, 141, 142, 143, 144, 145, 146, 147, 148]) : (F_X3_keep_125 σ ) k = σ k := by
  have ne : ∀ c ∈ [125, 126, 127, 128, 129, 130, 131, 132, 133, 134, 135, 136, 137, 138, 139, 140, 141, 142, 143, 144, 145, 146, 147, 148], k ≠ c := fun c hc e => h (e ▸ hc)
  have nk_F_X6_copy_145_43 : k ∉ [145, 146, 147, 148] := fun hm => h (by first | (revert hm; simp only [List.mem_cons, List.not_mem_nil, or_false]; omega) | (simp at hm))
  have nk_F_X0_copy_137_27 : k ∉ [137, 138, 139, 140, 141, 142, 143, 144] := fun hm => h (by first | (revert hm; simp only [List.mem_cons, List.not_mem_nil, or_false]; omega) | (simp at hm))
  have nk_F_X9_copy_126_5 : k ∉ [126, 127, 128, 129, 130, 131, 132, 133, 134, 135, 136] := fun hm => h (by first | (revert hm; simp only [List.mem_cons, List.not_mem_nil, or_false]; omega) | (simp at hm))
  unfold F_X3_keep_125
  repeat' split
  all_goals first | rfl | simp only [zu_row _ _ _ (ne 125 (by decide)), zu_row _ _ _ (ne 126 (by decide)), zu_row _ _ _ (ne 127 (by decide)), zu_row _ _ _ (ne 128 (by decide)), zu_row _ _ _ (ne 129 (by decide)), zu_row _ _ _ (ne 130 (by decide)), zu_row _ _ _ (ne 131 (by decide)), zu_row _ _ _ (ne 132 (by decide)), zu_row _ _ _ (ne 133 (by decide)), zu_row _ _ _ (ne 134 (by decide)), zu_row _ _ _ (ne 135 (by decide)), zu_row _ _ _ (ne 136 (by decide)), zu_row _ _ _ (ne 137 (by decide)), zu_row _ _ _ (ne 138 (by decide)), zu_row _ _ _ (ne 139 (by decide)), zu_row _ _ _ (ne 140 (by decide)), zu_row _ _ _ (ne 141 (by decide)), zu_row _ _ _ (ne 142 (by decide)), zu_row _ _ _ (ne 143 (by decide)), zu_row _ _ _ (ne 144 (by decide)), zu_row _ _ _ (ne 145 (by decide)), zu_row _ _ _ (ne 146 (by decide)), zu_row _ _ _ (ne 147 (by decide)), zu_row _ _ _ (ne 148 (by decide)), fr_F_X6_copy_145_43 (h := nk_F_X6_copy_145_43), fr_F_X0_copy_137_27 (h := nk_F_X0_copy_137_27), fr_F_X9_copy_126_5 (h := nk_F_X9_copy_126_5)]

set_option maxRecDepth 20000 in
theorem does_X3_keep_125 (σ : zG)   : zDo SC 2 m_X3_keep [zP 125, zP 5, zP 27, zP 43] σ (zEq (none) (F_X3_keep_125 σ )) := by
  refine zDo.intro mk_X3_keep (Nat.le_of_ble_eq_true rfl) ?_
  refine zRx.aload_n 0 rfl rfl dX3_keep_0 ?_
  refine zRx.getR (a := 125) (b := 126) fl_3_10 rfl rfl dX3_keep_1 ?_
  refine zRx.aload_n 1 rfl rfl dX3_keep_4 ?_
  refine zRx.cVv (M := m_X9_copy) (av := [zP 5]) cv_3_30 mk_X9_copy (by decide) (b := 126) rfl rfl (Nat.le_of_ble_eq_true rfl) dX3_keep_5 (does_X9_copy_126_5 σ) ?_
  refine zRx.aload_n 0 rfl rfl dX3_keep_8 ?_
  refine zRx.getR (a := 125) (b := 137) fl_3_19 rfl rfl dX3_keep_9 ?_
  refine zRx.aload_n 2 rfl rfl dX3_keep_12 ?_
  refine zRx.cVv (M := m_X0_copy) (av := [zP 27]) cv_3_34 mk_X0_copy (by decide) (b := 137) rfl rfl (Nat.le_of_ble_eq_true rfl) dX3_keep_13 (does_X0_copy_137_27 (F_X9_copy_126_5 σ)) ?_
  refine zRx.aload_n 0 rfl rfl dX3_keep_16 ?_
  refine zRx.getR (a := 125) (b := 145) fl_3_26 rfl rfl dX3_keep_17 ?_
  refine zRx.aload_n 3 rfl rfl dX3_keep_20 ?_
  refine zRx.cVv (M := m_X6_copy) (av := [zP 43]) cv_3_37 mk_X6_copy (by decide) (b := 145) rfl rfl (Nat.le_of_ble_eq_true rfl) dX3_keep_21 (does_X6_copy_145_43 (F_X0_copy_137_27 (F_X9_copy_126_5 σ))) ?_
  refine zRx.aload_n 0 rfl rfl dX3_keep_24 ?_
  refine zRx.iconst ⟨by decide, by decide⟩ dX3_keep_25 ?_
  refine zRx.putZ (a := 125) (ji := 0) pl_3_40 rfl rfl rfl ⟨by decide, by decide⟩ dX3_keep_26 ?_
  exact zR.ret rfl dX3_keep_29 ⟨rfl, rfl⟩

def V_X11_image_0  : Int := 1
def F_X11_image_0 (σ : zG)  : zG := F_X3_keep_100 σ
theorem fr_F_X11_image_0 (σ : zG)  {k : Nat} (h : k ∉ [100, 101, 102, 103, 104, 105, 106, 107, 108, 109, 110, 111, 112, 113, 114, 115, 116, 117, 118, 119, 120, 121, 122, 123]) : (F_X11_image_0 σ ) k = σ k := by
  have ne : ∀ c ∈ [100, 101, 102, 103, 104, 105, 106, 107, 108, 109, 110, 111, 112, 113, 114, 115, 116, 117, 118, 119, 120, 121, 122, 123], k ≠ c := fun c hc e => h (e ▸ hc)
  have nk_F_X3_keep_100 : k ∉ [100, 101, 102, 103, 104, 105, 106, 107, 108, 109, 110, 111, 112, 113, 114, 115, 116, 117, 118, 119, 120, 121, 122, 123] := fun hm => h (by first | (revert hm; simp only [List.mem_cons, List.not_mem_nil, or_false]; omega) | (simp at hm))
  unfold F_X11_image_0
  repeat' split
  all_goals first | rfl | simp only [zu_row _ _ _ (ne 100 (by decide)), zu_row _ _ _ (ne 101 (by decide)), zu_row _ _ _ (ne 102 (by decide)), zu_row _ _ _ (ne 103 (by decide)), zu_row _ _ _ (ne 104 (by decide)), zu_row _ _ _ (ne 105 (by decide)), zu_row _ _ _ (ne 106 (by decide)), zu_row _ _ _ (ne 107 (by decide)), zu_row _ _ _ (ne 108 (by decide)), zu_row _ _ _ (ne 109 (by decide)), zu_row _ _ _ (ne 110 (by decide)), zu_row _ _ _ (ne 111 (by decide)), zu_row _ _ _ (ne 112 (by decide)), zu_row _ _ _ (ne 113 (by decide)), zu_row _ _ _ (ne 114 (by decide)), zu_row _ _ _ (ne 115 (by decide)), zu_row _ _ _ (ne 116 (by decide)), zu_row _ _ _ (ne 117 (by decide)), zu_row _ _ _ (ne 118 (by decide)), zu_row _ _ _ (ne 119 (by decide)), zu_row _ _ _ (ne 120 (by decide)), zu_row _ _ _ (ne 121 (by decide)), zu_row _ _ _ (ne 122 (by decide)), zu_row _ _ _ (ne 123 (by decide)), fr_F_X3_keep_100 (h := nk_F_X3_keep_100)]

set_option maxRecDepth 20000 in
theorem does_X11_image_0 (σ : zG)   : zDo SC 3 m_X11_image [zP 0, .inl 0] σ (zEq (some (.inl (V_X11_image_0 ))) (F_X11_image_0 σ )) := by
  refine zDo.intro mk_X11_image (Nat.le_of_ble_eq_true rfl) ?_
  refine zRx.iload_n 1 rfl rfl dX11_image_0 ?_
  refine zRx.if_lt (tgt := 13) dX11_image_1 (by decide) (fun c1 => absurd c1 (by decide)) (fun _ => ?_)
  refine zRx.iload_n 1 rfl rfl dX11_image_4 ?_
  refine zRx.aload_n 0 rfl rfl dX11_image_5 ?_
  refine zRx.getR (a := 0) (b := 99) fl_11_102 rfl rfl dX11_image_6 ?_
  refine zRx.alenR rfl (by decide) dX11_image_9 ?_
  refine zRx.topI (b := 2) rfl ?_
  refine zRx.icmp_lt (tgt := 15) dX11_image_10 (by decide) (fun _ => ?_) (fun c10 => absurd c10 (by decide))
  refine zRx.aload_n 0 rfl rfl dX11_image_15 ?_
  refine zRx.getR (a := 0) (b := 99) fl_11_102 rfl rfl dX11_image_16 ?_
  refine zRx.iload_n 1 rfl rfl dX11_image_19 ?_
  refine zRx.aald (b := 100) rfl (by decide) (by decide) rfl dX11_image_20 ?_
  refine zRx.aload_n 0 rfl rfl dX11_image_21 ?_
  refine zRx.getR (a := 0) (b := 5) fl_11_28 rfl rfl dX11_image_22 ?_
  refine zRx.aload_n 0 rfl rfl dX11_image_25 ?_
  refine zRx.getR (a := 0) (b := 27) fl_11_38 rfl rfl dX11_image_26 ?_
  refine zRx.aload_n 0 rfl rfl dX11_image_29 ?_
  refine zRx.getR (a := 0) (b := 43) fl_11_48 rfl rfl dX11_image_30 ?_
  refine zRx.cVv (M := m_X3_keep) (av := [zP 5, zP 27, zP 43]) cv_11_365 mk_X3_keep (by decide) (b := 100) rfl rfl (Nat.le_of_ble_eq_true rfl) dX11_image_33 (does_X3_keep_100 σ) ?_
  refine zRx.iconst ⟨by decide, by decide⟩ dX11_image_36 ?_
  exact zR.zret rfl ⟨by decide, by decide⟩ dX11_image_37 ⟨rfl, rfl⟩

def V_X11_restore_0 (σ : zG)  : Int := if (σ 100 0) = 0 then 0 else 1
def F_X11_restore_0 (σ : zG)  : zG := if (σ 100 0) = 0 then σ else (F_X11_judgeAnew (F_X6_copy_43_120 (F_X0_copy_27_112 (F_X9_copy_5_101 σ))))
theorem fr_F_X11_restore_0 (σ : zG)  {k : Nat} (h : k ∉ [5, 6, 7, 8, 9, 10, 11, 12, 13, 14, 15, 27, 28, 29, 30, 31, 32, 33, 34, 43, 44, 45, 46, 53, 54, 55, 56, 57, 58, 59, 60, 61, 62, 63, 64, 65, 66, 81]) : (F_X11_restore_0 σ ) k = σ k := by
  have ne : ∀ c ∈ [5, 6, 7, 8, 9, 10, 11, 12, 13, 14, 15, 27, 28, 29, 30, 31, 32, 33, 34, 43, 44, 45, 46, 53, 54, 55, 56, 57, 58, 59, 60, 61, 62, 63, 64, 65, 66, 81], k ≠ c := fun c hc e => h (e ▸ hc)
  have nk_F_X11_judgeAnew : k ∉ [53, 54, 55, 56, 57, 58, 59, 60, 61, 62, 63, 64, 65, 66, 81] := fun hm => h (by first | (revert hm; simp only [List.mem_cons, List.not_mem_nil, or_false]; omega) | (simp at hm))
  have nk_F_X6_copy_43_120 : k ∉ [43, 44, 45, 46] := fun hm => h (by first | (revert hm; simp only [List.mem_cons, List.not_mem_nil, or_false]; omega) | (simp at hm))
  have nk_F_X0_copy_27_112 : k ∉ [27, 28, 29, 30, 31, 32, 33, 34] := fun hm => h (by first | (revert hm; simp only [List.mem_cons, List.not_mem_nil, or_false]; omega) | (simp at hm))
  have nk_F_X9_copy_5_101 : k ∉ [5, 6, 7, 8, 9, 10, 11, 12, 13, 14, 15] := fun hm => h (by first | (revert hm; simp only [List.mem_cons, List.not_mem_nil, or_false]; omega) | (simp at hm))
  unfold F_X11_restore_0
  repeat' split
  all_goals first | rfl | simp only [zu_row _ _ _ (ne 5 (by decide)), zu_row _ _ _ (ne 6 (by decide)), zu_row _ _ _ (ne 7 (by decide)), zu_row _ _ _ (ne 8 (by decide)), zu_row _ _ _ (ne 9 (by decide)), zu_row _ _ _ (ne 10 (by decide)), zu_row _ _ _ (ne 11 (by decide)), zu_row _ _ _ (ne 12 (by decide)), zu_row _ _ _ (ne 13 (by decide)), zu_row _ _ _ (ne 14 (by decide)), zu_row _ _ _ (ne 15 (by decide)), zu_row _ _ _ (ne 27 (by decide)), zu_row _ _ _ (ne 28 (by decide)), zu_row _ _ _ (ne 29 (by decide)), zu_row _ _ _ (ne 30 (by decide)), zu_row _ _ _ (ne 31 (by decide)), zu_row _ _ _ (ne 32 (by decide)), zu_row _ _ _ (ne 33 (by decide)), zu_row _ _ _ (ne 34 (by decide)), zu_row _ _ _ (ne 43 (by decide)), zu_row _ _ _ (ne 44 (by decide)), zu_row _ _ _ (ne 45 (by decide)), zu_row _ _ _ (ne 46 (by decide)), zu_row _ _ _ (ne 53 (by decide)), zu_row _ _ _ (ne 54 (by decide)), zu_row _ _ _ (ne 55 (by decide)), zu_row _ _ _ (ne 56 (by decide)), zu_row _ _ _ (ne 57 (by decide)), zu_row _ _ _ (ne 58 (by decide)), zu_row _ _ _ (ne 59 (by decide)), zu_row _ _ _ (ne 60 (by decide)), zu_row _ _ _ (ne 61 (by decide)), zu_row _ _ _ (ne 62 (by decide)), zu_row _ _ _ (ne 63 (by decide)), zu_row _ _ _ (ne 64 (by decide)), zu_row _ _ _ (ne 65 (by decide)), zu_row _ _ _ (ne 66 (by decide)), zu_row _ _ _ (ne 81 (by decide)), fr_F_X11_judgeAnew (h := nk_F_X11_judgeAnew), fr_F_X6_copy_43_120 (h := nk_F_X6_copy_43_120), fr_F_X0_copy_27_112 (h := nk_F_X0_copy_27_112), fr_F_X9_copy_5_101 (h := nk_F_X9_copy_5_101)]

set_option maxRecDepth 20000 in
theorem does_X11_restore_0 (σ : zG)   (hW : WC (F_X6_copy_43_120 (F_X0_copy_27_112 (F_X9_copy_5_101 σ)))) : zDo SC 7 m_X11_restore [zP 0, .inl 0] σ (zEq (some (.inl (V_X11_restore_0 σ ))) (F_X11_restore_0 σ )) := by
  refine zDo.intro mk_X11_restore (Nat.le_of_ble_eq_true rfl) ?_
  refine zRx.iload_n 1 rfl rfl dX11_restore_0 ?_
  refine zRx.if_lt (tgt := 25) dX11_restore_1 (by decide) (fun c1 => absurd c1 (by decide)) (fun _ => ?_)
  refine zRx.iload_n 1 rfl rfl dX11_restore_4 ?_
  refine zRx.aload_n 0 rfl rfl dX11_restore_5 ?_
  refine zRx.getR (a := 0) (b := 99) fl_11_102 rfl rfl dX11_restore_6 ?_
  refine zRx.alenR rfl (by decide) dX11_restore_9 ?_
  refine zRx.topI (b := 2) rfl ?_
  refine zRx.icmp_ge (tgt := 25) dX11_restore_10 (by decide) (fun c10 => absurd c10 (by decide)) (fun _ => ?_)
  refine zRx.aload_n 0 rfl rfl dX11_restore_13 ?_
  refine zRx.getR (a := 0) (b := 99) fl_11_102 rfl rfl dX11_restore_14 ?_
  refine zRx.iload_n 1 rfl rfl dX11_restore_17 ?_
  refine zRx.aald (b := 100) rfl (by decide) (by decide) rfl dX11_restore_18 ?_
  refine zRx.getZv (a := 100) (ji := 0) (v := σ 100 0) rfl fl_11_369 rfl rfl rfl dX11_restore_19 ?_
  refine zRx.if_ne (tgt := 27) dX11_restore_22 (by decide) (fun c22 => ?_) (fun c22 => ?_)
  · refine zRx.aload_n 0 rfl rfl dX11_restore_27 ?_
    refine zRx.getR (a := 0) (b := 5) fl_11_28 rfl rfl dX11_restore_28 ?_
    refine zRx.aload_n 0 rfl rfl dX11_restore_31 ?_
    refine zRx.getR (a := 0) (b := 99) fl_11_102 rfl rfl dX11_restore_32 ?_
    refine zRx.iload_n 1 rfl rfl dX11_restore_35 ?_
    refine zRx.aald (b := 100) rfl (by decide) (by decide) rfl dX11_restore_36 ?_
    refine zRx.getR (a := 100) (b := 101) fl_11_373 rfl rfl dX11_restore_37 ?_
    refine zRx.cVv (M := m_X9_copy) (av := [zP 101]) cv_11_131 mk_X9_copy (by decide) (b := 5) rfl rfl (Nat.le_of_ble_eq_true rfl) dX11_restore_40 (does_X9_copy_5_101 σ) ?_
    refine zRx.aload_n 0 rfl rfl dX11_restore_43 ?_
    refine zRx.getR (a := 0) (b := 27) fl_11_38 rfl rfl dX11_restore_44 ?_
    refine zRx.aload_n 0 rfl rfl dX11_restore_47 ?_
    refine zRx.getR (a := 0) (b := 99) fl_11_102 rfl rfl dX11_restore_48 ?_
    refine zRx.iload_n 1 rfl rfl dX11_restore_51 ?_
    refine zRx.aald (b := 100) rfl (by decide) (by decide) rfl dX11_restore_52 ?_
    refine zRx.getR (a := 100) (b := 112) fl_11_374 rfl rfl dX11_restore_53 ?_
    refine zRx.cVv (M := m_X0_copy) (av := [zP 112]) cv_11_174 mk_X0_copy (by decide) (b := 27) rfl rfl (Nat.le_of_ble_eq_true rfl) dX11_restore_56 (does_X0_copy_27_112 (F_X9_copy_5_101 σ)) ?_
    refine zRx.aload_n 0 rfl rfl dX11_restore_59 ?_
    refine zRx.getR (a := 0) (b := 43) fl_11_48 rfl rfl dX11_restore_60 ?_
    refine zRx.aload_n 0 rfl rfl dX11_restore_63 ?_
    refine zRx.getR (a := 0) (b := 99) fl_11_102 rfl rfl dX11_restore_64 ?_
    refine zRx.iload_n 1 rfl rfl dX11_restore_67 ?_
    refine zRx.aald (b := 100) rfl (by decide) (by decide) rfl dX11_restore_68 ?_
    refine zRx.getR (a := 100) (b := 120) fl_11_375 rfl rfl dX11_restore_69 ?_
    refine zRx.cVv (M := m_X6_copy) (av := [zP 120]) cv_11_355 mk_X6_copy (by decide) (b := 43) rfl rfl (Nat.le_of_ble_eq_true rfl) dX11_restore_72 (does_X6_copy_43_120 (F_X0_copy_27_112 (F_X9_copy_5_101 σ))) ?_
    refine zRx.aload_n 0 rfl rfl dX11_restore_75 ?_
    refine zRx.cVv (M := m_X11_judgeAnew) (av := []) cv_11_139 mk_X11_judgeAnew (by decide) (b := 0) rfl rfl (Nat.le_of_ble_eq_true rfl) dX11_restore_76 (does_X11_judgeAnew (F_X6_copy_43_120 (F_X0_copy_27_112 (F_X9_copy_5_101 σ))) hW) ?_
    refine zRx.iconst ⟨by decide, by decide⟩ dX11_restore_79 ?_
    exact zR.zret rfl ⟨by decide, by decide⟩ dX11_restore_80 ⟨by unfold V_X11_restore_0; rw [if_neg c22], by unfold F_X11_restore_0; rw [if_neg c22]⟩
  · refine zRx.iconst ⟨by decide, by decide⟩ dX11_restore_25 ?_
    exact zR.zret rfl ⟨by decide, by decide⟩ dX11_restore_26 ⟨by unfold V_X11_restore_0; rw [if_pos c22], by unfold F_X11_restore_0; rw [if_pos c22]⟩

def V_X11_image_1  : Int := 1
def F_X11_image_1 (σ : zG)  : zG := F_X3_keep_125 σ
theorem fr_F_X11_image_1 (σ : zG)  {k : Nat} (h : k ∉ [125, 126, 127, 128, 129, 130, 131, 132, 133, 134, 135, 136, 137, 138, 139, 140, 141, 142, 143, 144, 145, 146, 147, 148]) : (F_X11_image_1 σ ) k = σ k := by
  have ne : ∀ c ∈ [125, 126, 127, 128, 129, 130, 131, 132, 133, 134, 135, 136, 137, 138, 139, 140, 141, 142, 143, 144, 145, 146, 147, 148], k ≠ c := fun c hc e => h (e ▸ hc)
  have nk_F_X3_keep_125 : k ∉ [125, 126, 127, 128, 129, 130, 131, 132, 133, 134, 135, 136, 137, 138, 139, 140, 141, 142, 143, 144, 145, 146, 147, 148] := fun hm => h (by first | (revert hm; simp only [List.mem_cons, List.not_mem_nil, or_false]; omega) | (simp at hm))
  unfold F_X11_image_1
  repeat' split
  all_goals first | rfl | simp only [zu_row _ _ _ (ne 125 (by decide)), zu_row _ _ _ (ne 126 (by decide)), zu_row _ _ _ (ne 127 (by decide)), zu_row _ _ _ (ne 128 (by decide)), zu_row _ _ _ (ne 129 (by decide)), zu_row _ _ _ (ne 130 (by decide)), zu_row _ _ _ (ne 131 (by decide)), zu_row _ _ _ (ne 132 (by decide)), zu_row _ _ _ (ne 133 (by decide)), zu_row _ _ _ (ne 134 (by decide)), zu_row _ _ _ (ne 135 (by decide)), zu_row _ _ _ (ne 136 (by decide)), zu_row _ _ _ (ne 137 (by decide)), zu_row _ _ _ (ne 138 (by decide)), zu_row _ _ _ (ne 139 (by decide)), zu_row _ _ _ (ne 140 (by decide)), zu_row _ _ _ (ne 141 (by decide)), zu_row _ _ _ (ne 142 (by decide)), zu_row _ _ _ (ne 143 (by decide)), zu_row _ _ _ (ne 144 (by decide)), zu_row _ _ _ (ne 145 (by decide)), zu_row _ _ _ (ne 146 (by decide)), zu_row _ _ _ (ne 147 (by decide)), zu_row _ _ _ (ne 148 (by decide)), fr_F_X3_keep_125 (h := nk_F_X3_keep_125)]

set_option maxRecDepth 20000 in
theorem does_X11_image_1 (σ : zG)   : zDo SC 3 m_X11_image [zP 0, .inl 1] σ (zEq (some (.inl (V_X11_image_1 ))) (F_X11_image_1 σ )) := by
  refine zDo.intro mk_X11_image (Nat.le_of_ble_eq_true rfl) ?_
  refine zRx.iload_n 1 rfl rfl dX11_image_0 ?_
  refine zRx.if_lt (tgt := 13) dX11_image_1 (by decide) (fun c1 => absurd c1 (by decide)) (fun _ => ?_)
  refine zRx.iload_n 1 rfl rfl dX11_image_4 ?_
  refine zRx.aload_n 0 rfl rfl dX11_image_5 ?_
  refine zRx.getR (a := 0) (b := 99) fl_11_102 rfl rfl dX11_image_6 ?_
  refine zRx.alenR rfl (by decide) dX11_image_9 ?_
  refine zRx.topI (b := 2) rfl ?_
  refine zRx.icmp_lt (tgt := 15) dX11_image_10 (by decide) (fun _ => ?_) (fun c10 => absurd c10 (by decide))
  refine zRx.aload_n 0 rfl rfl dX11_image_15 ?_
  refine zRx.getR (a := 0) (b := 99) fl_11_102 rfl rfl dX11_image_16 ?_
  refine zRx.iload_n 1 rfl rfl dX11_image_19 ?_
  refine zRx.aald (b := 125) rfl (by decide) (by decide) rfl dX11_image_20 ?_
  refine zRx.aload_n 0 rfl rfl dX11_image_21 ?_
  refine zRx.getR (a := 0) (b := 5) fl_11_28 rfl rfl dX11_image_22 ?_
  refine zRx.aload_n 0 rfl rfl dX11_image_25 ?_
  refine zRx.getR (a := 0) (b := 27) fl_11_38 rfl rfl dX11_image_26 ?_
  refine zRx.aload_n 0 rfl rfl dX11_image_29 ?_
  refine zRx.getR (a := 0) (b := 43) fl_11_48 rfl rfl dX11_image_30 ?_
  refine zRx.cVv (M := m_X3_keep) (av := [zP 5, zP 27, zP 43]) cv_11_365 mk_X3_keep (by decide) (b := 125) rfl rfl (Nat.le_of_ble_eq_true rfl) dX11_image_33 (does_X3_keep_125 σ) ?_
  refine zRx.iconst ⟨by decide, by decide⟩ dX11_image_36 ?_
  exact zR.zret rfl ⟨by decide, by decide⟩ dX11_image_37 ⟨rfl, rfl⟩

def V_X11_restore_1 (σ : zG)  : Int := if (σ 125 0) = 0 then 0 else 1
def F_X11_restore_1 (σ : zG)  : zG := if (σ 125 0) = 0 then σ else (F_X11_judgeAnew (F_X6_copy_43_145 (F_X0_copy_27_137 (F_X9_copy_5_126 σ))))
theorem fr_F_X11_restore_1 (σ : zG)  {k : Nat} (h : k ∉ [5, 6, 7, 8, 9, 10, 11, 12, 13, 14, 15, 27, 28, 29, 30, 31, 32, 33, 34, 43, 44, 45, 46, 53, 54, 55, 56, 57, 58, 59, 60, 61, 62, 63, 64, 65, 66, 81]) : (F_X11_restore_1 σ ) k = σ k := by
  have ne : ∀ c ∈ [5, 6, 7, 8, 9, 10, 11, 12, 13, 14, 15, 27, 28, 29, 30, 31, 32, 33, 34, 43, 44, 45, 46, 53, 54, 55, 56, 57, 58, 59, 60, 61, 62, 63, 64, 65, 66, 81], k ≠ c := fun c hc e => h (e ▸ hc)
  have nk_F_X11_judgeAnew : k ∉ [53, 54, 55, 56, 57, 58, 59, 60, 61, 62, 63, 64, 65, 66, 81] := fun hm => h (by first | (revert hm; simp only [List.mem_cons, List.not_mem_nil, or_false]; omega) | (simp at hm))
  have nk_F_X6_copy_43_145 : k ∉ [43, 44, 45, 46] := fun hm => h (by first | (revert hm; simp only [List.mem_cons, List.not_mem_nil, or_false]; omega) | (simp at hm))
  have nk_F_X0_copy_27_137 : k ∉ [27, 28, 29, 30, 31, 32, 33, 34] := fun hm => h (by first | (revert hm; simp only [List.mem_cons, List.not_mem_nil, or_false]; omega) | (simp at hm))
  have nk_F_X9_copy_5_126 : k ∉ [5, 6, 7, 8, 9, 10, 11, 12, 13, 14, 15] := fun hm => h (by first | (revert hm; simp only [List.mem_cons, List.not_mem_nil, or_false]; omega) | (simp at hm))
  unfold F_X11_restore_1
  repeat' split
  all_goals first | rfl | simp only [zu_row _ _ _ (ne 5 (by decide)), zu_row _ _ _ (ne 6 (by decide)), zu_row _ _ _ (ne 7 (by decide)), zu_row _ _ _ (ne 8 (by decide)), zu_row _ _ _ (ne 9 (by decide)), zu_row _ _ _ (ne 10 (by decide)), zu_row _ _ _ (ne 11 (by decide)), zu_row _ _ _ (ne 12 (by decide)), zu_row _ _ _ (ne 13 (by decide)), zu_row _ _ _ (ne 14 (by decide)), zu_row _ _ _ (ne 15 (by decide)), zu_row _ _ _ (ne 27 (by decide)), zu_row _ _ _ (ne 28 (by decide)), zu_row _ _ _ (ne 29 (by decide)), zu_row _ _ _ (ne 30 (by decide)), zu_row _ _ _ (ne 31 (by decide)), zu_row _ _ _ (ne 32 (by decide)), zu_row _ _ _ (ne 33 (by decide)), zu_row _ _ _ (ne 34 (by decide)), zu_row _ _ _ (ne 43 (by decide)), zu_row _ _ _ (ne 44 (by decide)), zu_row _ _ _ (ne 45 (by decide)), zu_row _ _ _ (ne 46 (by decide)), zu_row _ _ _ (ne 53 (by decide)), zu_row _ _ _ (ne 54 (by decide)), zu_row _ _ _ (ne 55 (by decide)), zu_row _ _ _ (ne 56 (by decide)), zu_row _ _ _ (ne 57 (by decide)), zu_row _ _ _ (ne 58 (by decide)), zu_row _ _ _ (ne 59 (by decide)), zu_row _ _ _ (ne 60 (by decide)), zu_row _ _ _ (ne 61 (by decide)), zu_row _ _ _ (ne 62 (by decide)), zu_row _ _ _ (ne 63 (by decide)), zu_row _ _ _ (ne 64 (by decide)), zu_row _ _ _ (ne 65 (by decide)), zu_row _ _ _ (ne 66 (by decide)), zu_row _ _ _ (ne 81 (by decide)), fr_F_X11_judgeAnew (h := nk_F_X11_judgeAnew), fr_F_X6_copy_43_145 (h := nk_F_X6_copy_43_145), fr_F_X0_copy_27_137 (h := nk_F_X0_copy_27_137), fr_F_X9_copy_5_126 (h := nk_F_X9_copy_5_126)]

set_option maxRecDepth 20000 in
theorem does_X11_restore_1 (σ : zG)   (hW : WC (F_X6_copy_43_145 (F_X0_copy_27_137 (F_X9_copy_5_126 σ)))) : zDo SC 7 m_X11_restore [zP 0, .inl 1] σ (zEq (some (.inl (V_X11_restore_1 σ ))) (F_X11_restore_1 σ )) := by
  refine zDo.intro mk_X11_restore (Nat.le_of_ble_eq_true rfl) ?_
  refine zRx.iload_n 1 rfl rfl dX11_restore_0 ?_
  refine zRx.if_lt (tgt := 25) dX11_restore_1 (by decide) (fun c1 => absurd c1 (by decide)) (fun _ => ?_)
  refine zRx.iload_n 1 rfl rfl dX11_restore_4 ?_
  refine zRx.aload_n 0 rfl rfl dX11_restore_5 ?_
  refine zRx.getR (a := 0) (b := 99) fl_11_102 rfl rfl dX11_restore_6 ?_
  refine zRx.alenR rfl (by decide) dX11_restore_9 ?_
  refine zRx.topI (b := 2) rfl ?_
  refine zRx.icmp_ge (tgt := 25) dX11_restore_10 (by decide) (fun c10 => absurd c10 (by decide)) (fun _ => ?_)
  refine zRx.aload_n 0 rfl rfl dX11_restore_13 ?_
  refine zRx.getR (a := 0) (b := 99) fl_11_102 rfl rfl dX11_restore_14 ?_
  refine zRx.iload_n 1 rfl rfl dX11_restore_17 ?_
  refine zRx.aald (b := 125) rfl (by decide) (by decide) rfl dX11_restore_18 ?_
  refine zRx.getZv (a := 125) (ji := 0) (v := σ 125 0) rfl fl_11_369 rfl rfl rfl dX11_restore_19 ?_
  refine zRx.if_ne (tgt := 27) dX11_restore_22 (by decide) (fun c22 => ?_) (fun c22 => ?_)
  · refine zRx.aload_n 0 rfl rfl dX11_restore_27 ?_
    refine zRx.getR (a := 0) (b := 5) fl_11_28 rfl rfl dX11_restore_28 ?_
    refine zRx.aload_n 0 rfl rfl dX11_restore_31 ?_
    refine zRx.getR (a := 0) (b := 99) fl_11_102 rfl rfl dX11_restore_32 ?_
    refine zRx.iload_n 1 rfl rfl dX11_restore_35 ?_
    refine zRx.aald (b := 125) rfl (by decide) (by decide) rfl dX11_restore_36 ?_
    refine zRx.getR (a := 125) (b := 126) fl_11_373 rfl rfl dX11_restore_37 ?_
    refine zRx.cVv (M := m_X9_copy) (av := [zP 126]) cv_11_131 mk_X9_copy (by decide) (b := 5) rfl rfl (Nat.le_of_ble_eq_true rfl) dX11_restore_40 (does_X9_copy_5_126 σ) ?_
    refine zRx.aload_n 0 rfl rfl dX11_restore_43 ?_
    refine zRx.getR (a := 0) (b := 27) fl_11_38 rfl rfl dX11_restore_44 ?_
    refine zRx.aload_n 0 rfl rfl dX11_restore_47 ?_
    refine zRx.getR (a := 0) (b := 99) fl_11_102 rfl rfl dX11_restore_48 ?_
    refine zRx.iload_n 1 rfl rfl dX11_restore_51 ?_
    refine zRx.aald (b := 125) rfl (by decide) (by decide) rfl dX11_restore_52 ?_
    refine zRx.getR (a := 125) (b := 137) fl_11_374 rfl rfl dX11_restore_53 ?_
    refine zRx.cVv (M := m_X0_copy) (av := [zP 137]) cv_11_174 mk_X0_copy (by decide) (b := 27) rfl rfl (Nat.le_of_ble_eq_true rfl) dX11_restore_56 (does_X0_copy_27_137 (F_X9_copy_5_126 σ)) ?_
    refine zRx.aload_n 0 rfl rfl dX11_restore_59 ?_
    refine zRx.getR (a := 0) (b := 43) fl_11_48 rfl rfl dX11_restore_60 ?_
    refine zRx.aload_n 0 rfl rfl dX11_restore_63 ?_
    refine zRx.getR (a := 0) (b := 99) fl_11_102 rfl rfl dX11_restore_64 ?_
    refine zRx.iload_n 1 rfl rfl dX11_restore_67 ?_
    refine zRx.aald (b := 125) rfl (by decide) (by decide) rfl dX11_restore_68 ?_
    refine zRx.getR (a := 125) (b := 145) fl_11_375 rfl rfl dX11_restore_69 ?_
    refine zRx.cVv (M := m_X6_copy) (av := [zP 145]) cv_11_355 mk_X6_copy (by decide) (b := 43) rfl rfl (Nat.le_of_ble_eq_true rfl) dX11_restore_72 (does_X6_copy_43_145 (F_X0_copy_27_137 (F_X9_copy_5_126 σ))) ?_
    refine zRx.aload_n 0 rfl rfl dX11_restore_75 ?_
    refine zRx.cVv (M := m_X11_judgeAnew) (av := []) cv_11_139 mk_X11_judgeAnew (by decide) (b := 0) rfl rfl (Nat.le_of_ble_eq_true rfl) dX11_restore_76 (does_X11_judgeAnew (F_X6_copy_43_145 (F_X0_copy_27_137 (F_X9_copy_5_126 σ))) hW) ?_
    refine zRx.iconst ⟨by decide, by decide⟩ dX11_restore_79 ?_
    exact zR.zret rfl ⟨by decide, by decide⟩ dX11_restore_80 ⟨by unfold V_X11_restore_1; rw [if_neg c22], by unfold F_X11_restore_1; rw [if_neg c22]⟩
  · refine zRx.iconst ⟨by decide, by decide⟩ dX11_restore_25 ?_
    exact zR.zret rfl ⟨by decide, by decide⟩ dX11_restore_26 ⟨by unfold V_X11_restore_1; rw [if_pos c22], by unfold F_X11_restore_1; rw [if_pos c22]⟩

def V_X11_image_x (x : Int) : Int := 0
set_option maxRecDepth 20000 in
theorem does_X11_image_x (σ : zG) (x : Int) (hx : ¬ (0 ≤ x ∧ x ≤ 1)) : zDo SC 3 m_X11_image [zP 0, .inl x] σ (zEq (some (.inl (V_X11_image_x x))) σ) := by
  refine zDo.intro mk_X11_image (Nat.le_of_ble_eq_true rfl) ?_
  refine zRx.iload_n 1 rfl rfl dX11_image_0 ?_
  refine zRx.if_lt (tgt := 13) dX11_image_1 (by decide) (fun c1 => ?_) (fun c1 => ?_)
  · refine zRx.iconst ⟨by decide, by decide⟩ dX11_image_13 ?_
    exact zR.zret rfl ⟨by decide, by decide⟩ dX11_image_14 ⟨rfl, rfl⟩
  · refine zRx.iload_n 1 rfl rfl dX11_image_4 ?_
    refine zRx.aload_n 0 rfl rfl dX11_image_5 ?_
    refine zRx.getR (a := 0) (b := 99) fl_11_102 rfl rfl dX11_image_6 ?_
    refine zRx.alenR rfl (by decide) dX11_image_9 ?_
    refine zRx.topI (b := 2) rfl ?_
    refine zRx.icmp_lt (tgt := 15) dX11_image_10 (by decide) (fun c10 => absurd c10 (by omega)) (fun c10 => ?_)
    refine zRx.iconst ⟨by decide, by decide⟩ dX11_image_13 ?_
    exact zR.zret rfl ⟨by decide, by decide⟩ dX11_image_14 ⟨rfl, rfl⟩

def V_X11_restore_x (x : Int) : Int := 0
set_option maxRecDepth 20000 in
theorem does_X11_restore_x (σ : zG) (x : Int) (hx : ¬ (0 ≤ x ∧ x ≤ 1)) : zDo SC 3 m_X11_restore [zP 0, .inl x] σ (zEq (some (.inl (V_X11_restore_x x))) σ) := by
  refine zDo.intro mk_X11_restore (Nat.le_of_ble_eq_true rfl) ?_
  refine zRx.iload_n 1 rfl rfl dX11_restore_0 ?_
  refine zRx.if_lt (tgt := 25) dX11_restore_1 (by decide) (fun c1 => ?_) (fun c1 => ?_)
  · refine zRx.iconst ⟨by decide, by decide⟩ dX11_restore_25 ?_
    exact zR.zret rfl ⟨by decide, by decide⟩ dX11_restore_26 ⟨rfl, rfl⟩
  · refine zRx.iload_n 1 rfl rfl dX11_restore_4 ?_
    refine zRx.aload_n 0 rfl rfl dX11_restore_5 ?_
    refine zRx.getR (a := 0) (b := 99) fl_11_102 rfl rfl dX11_restore_6 ?_
    refine zRx.alenR rfl (by decide) dX11_restore_9 ?_
    refine zRx.topI (b := 2) rfl ?_
    refine zRx.icmp_ge (tgt := 25) dX11_restore_10 (by decide) (fun c10 => ?_) (fun c10 => absurd c10 (by omega))
    refine zRx.iconst ⟨by decide, by decide⟩ dX11_restore_25 ?_
    exact zR.zret rfl ⟨by decide, by decide⟩ dX11_restore_26 ⟨rfl, rfl⟩

