/-! the face once more: what is judged must be sound only where it is taken over -/
set_option maxRecDepth 20000 in
theorem do2_X11_valley (σ : zG)  (ht : 0 ≤ σ 1 1 ∧ σ 1 1 ≤ 940) (hW : 0 ≤ (R_X9_take (F_X5_open σ 900)).1 → WC (F_X6_clear_43 (F_X0_clear_27 (F_X9_copy_5_16 (F_X11_noteReading ((R_X9_take (F_X5_open σ 900)).2)))))) : zDo SC 7 m_X11_valley [zP 0] σ (zEq (some (.inl (V_X11_valley σ ))) (F_X11_valley σ )) := by
  refine zDo.intro mk_X11_valley (Nat.le_of_ble_eq_true rfl) ?_
  refine zRx.aload_n 0 rfl rfl dX11_valley_0 ?_
  refine zRx.getR (a := 0) (b := 3) fl_11_21 rfl rfl dX11_valley_1 ?_
  refine zRx.sipush ⟨by decide, by decide⟩ rfl dX11_valley_4 ?_
  refine zRx.cVv (M := m_X5_open) (av := [.inl 900]) cv_11_117 mk_X5_open (by decide) (b := 3) rfl rfl (Nat.le_of_ble_eq_true rfl) dX11_valley_7 (does_X5_open σ 900) ?_
  refine zRx.aload_n 0 rfl rfl dX11_valley_10 ?_
  refine zRx.getR (a := 0) (b := 16) fl_11_32 rfl rfl dX11_valley_11 ?_
  refine zRx.aload_n 0 rfl rfl dX11_valley_14 ?_
  refine zRx.getR (a := 0) (b := 3) fl_11_21 rfl rfl dX11_valley_15 ?_
  refine zRx.cVi (w := .inl ((R_X9_take (F_X5_open σ 900)).1)) (M := m_X9_take) (av := [zP 3]) cv_11_120 mk_X9_take (by decide) (b := 16) rfl rfl (Nat.le_of_ble_eq_true rfl) dX11_valley_18 (does_X9_take (F_X5_open σ 900) (CI_open ht)) ?_
  refine zRx.istore_n (ls' := [(0, zP 0), (1, .inl ((R_X9_take (F_X5_open σ 900)).1))]) rfl rfl (by decide) dX11_valley_21 ?_
  refine zRx.aload_n 0 rfl rfl dX11_valley_22 ?_
  refine zRx.cVv (M := m_X11_noteReading) (av := []) cv_11_124 mk_X11_noteReading (by decide) (b := 0) rfl rfl (Nat.le_of_ble_eq_true rfl) dX11_valley_23 (does_X11_noteReading ((R_X9_take (F_X5_open σ 900)).2)) ?_
  refine zRx.iload_n 1 rfl rfl dX11_valley_26 ?_
  refine zRx.if_ge (tgt := 35) dX11_valley_27 (by decide) (fun c27 => ?_) (fun c27 => ?_)
  · refine zRx.aload_n 0 rfl rfl dX11_valley_35 ?_
    refine zRx.getR (a := 0) (b := 5) fl_11_28 rfl rfl dX11_valley_36 ?_
    refine zRx.aload_n 0 rfl rfl dX11_valley_39 ?_
    refine zRx.getR (a := 0) (b := 16) fl_11_32 rfl rfl dX11_valley_40 ?_
    refine zRx.cVv (M := m_X9_copy) (av := [zP 16]) cv_11_131 mk_X9_copy (by decide) (b := 5) rfl rfl (Nat.le_of_ble_eq_true rfl) dX11_valley_43 (does_X9_copy_5_16 (F_X11_noteReading ((R_X9_take (F_X5_open σ 900)).2))) ?_
    refine zRx.aload_n 0 rfl rfl dX11_valley_46 ?_
    refine zRx.getR (a := 0) (b := 27) fl_11_38 rfl rfl dX11_valley_47 ?_
    refine zRx.cVv (M := m_X0_clear) (av := []) cv_11_135 mk_X0_clear (by decide) (b := 27) rfl rfl (Nat.le_of_ble_eq_true rfl) dX11_valley_50 (does_X0_clear_27 (F_X9_copy_5_16 (F_X11_noteReading ((R_X9_take (F_X5_open σ 900)).2)))) ?_
    refine zRx.aload_n 0 rfl rfl dX11_valley_53 ?_
    refine zRx.getR (a := 0) (b := 43) fl_11_48 rfl rfl dX11_valley_54 ?_
    refine zRx.cVv (M := m_X6_clear) (av := []) cv_11_138 mk_X6_clear (by decide) (b := 43) rfl rfl (Nat.le_of_ble_eq_true rfl) dX11_valley_57 (does_X6_clear_43 (F_X0_clear_27 (F_X9_copy_5_16 (F_X11_noteReading ((R_X9_take (F_X5_open σ 900)).2))))) ?_
    refine zRx.aload_n 0 rfl rfl dX11_valley_60 ?_
    refine zRx.cVv (M := m_X11_judgeAnew) (av := []) cv_11_139 mk_X11_judgeAnew (by decide) (b := 0) rfl rfl (Nat.le_of_ble_eq_true rfl) dX11_valley_61 (does_X11_judgeAnew (F_X6_clear_43 (F_X0_clear_27 (F_X9_copy_5_16 (F_X11_noteReading ((R_X9_take (F_X5_open σ 900)).2))))) (hW (by assumption))) ?_
    refine zRx.iload_n 1 rfl rfl dX11_valley_64 ?_
    exact zR.iret rfl dX11_valley_65 ⟨by unfold V_X11_valley; rw [if_pos c27], by unfold F_X11_valley; rw [if_pos c27]⟩
  · refine zRx.aload_n 0 rfl rfl dX11_valley_30 ?_
    refine zRx.cVi (w := .inl (V_X11_refusedAt (F_X11_noteReading ((R_X9_take (F_X5_open σ 900)).2)))) (M := m_X11_refusedAt) (av := []) cv_11_127 mk_X11_refusedAt (by decide) (b := 0) rfl rfl (Nat.le_of_ble_eq_true rfl) dX11_valley_31 (does_X11_refusedAt (F_X11_noteReading ((R_X9_take (F_X5_open σ 900)).2))) ?_
    exact zR.iret rfl dX11_valley_34 ⟨by unfold V_X11_valley; rw [if_neg (Int.not_le.mpr c27)], by unfold F_X11_valley; rw [if_neg (Int.not_le.mpr c27)]⟩
set_option maxRecDepth 20000 in
theorem do2_X11_book (σ : zG)  (ht : 0 ≤ σ 1 1 ∧ σ 1 1 ≤ 940) (hW : ¬ (R_X0_take (F_X5_open σ 900)).1 = 0 → WC (F_X0_copy_27_35 (F_X11_noteReading ((R_X0_take (F_X5_open σ 900)).2)))) : zDo SC 7 m_X11_book [zP 0] σ (zEq (some (.inl (V_X11_book σ ))) (F_X11_book σ )) := by
  refine zDo.intro mk_X11_book (Nat.le_of_ble_eq_true rfl) ?_
  refine zRx.aload_n 0 rfl rfl dX11_book_0 ?_
  refine zRx.getR (a := 0) (b := 3) fl_11_21 rfl rfl dX11_book_1 ?_
  refine zRx.sipush ⟨by decide, by decide⟩ rfl dX11_book_4 ?_
  refine zRx.cVv (M := m_X5_open) (av := [.inl 900]) cv_11_117 mk_X5_open (by decide) (b := 3) rfl rfl (Nat.le_of_ble_eq_true rfl) dX11_book_7 (does_X5_open σ 900) ?_
  refine zRx.aload_n 0 rfl rfl dX11_book_10 ?_
  refine zRx.getR (a := 0) (b := 35) fl_11_42 rfl rfl dX11_book_11 ?_
  refine zRx.aload_n 0 rfl rfl dX11_book_14 ?_
  refine zRx.getR (a := 0) (b := 3) fl_11_21 rfl rfl dX11_book_15 ?_
  refine zRx.aload_n 0 rfl rfl dX11_book_18 ?_
  refine zRx.getR (a := 0) (b := 5) fl_11_28 rfl rfl dX11_book_19 ?_
  refine zRx.cVi (w := .inl ((R_X0_take (F_X5_open σ 900)).1)) (M := m_X0_take) (av := [zP 3, zP 5]) cv_11_171 mk_X0_take (by decide) (b := 35) rfl rfl (Nat.le_of_ble_eq_true rfl) dX11_book_22 (does_X0_take (F_X5_open σ 900) (CI_open ht)) ?_
  refine zRx.istore_n (ls' := [(0, zP 0), (1, .inl ((R_X0_take (F_X5_open σ 900)).1))]) rfl rfl (by decide) dX11_book_25 ?_
  refine zRx.aload_n 0 rfl rfl dX11_book_26 ?_
  refine zRx.cVv (M := m_X11_noteReading) (av := []) cv_11_124 mk_X11_noteReading (by decide) (b := 0) rfl rfl (Nat.le_of_ble_eq_true rfl) dX11_book_27 (does_X11_noteReading ((R_X0_take (F_X5_open σ 900)).2)) ?_
  refine zRx.iload_n 1 rfl rfl dX11_book_30 ?_
  refine zRx.if_ne (tgt := 39) dX11_book_31 (by decide) (fun c31 => ?_) (fun c31 => ?_)
  · refine zRx.aload_n 0 rfl rfl dX11_book_39 ?_
    refine zRx.getR (a := 0) (b := 27) fl_11_38 rfl rfl dX11_book_40 ?_
    refine zRx.aload_n 0 rfl rfl dX11_book_43 ?_
    refine zRx.getR (a := 0) (b := 35) fl_11_42 rfl rfl dX11_book_44 ?_
    refine zRx.cVv (M := m_X0_copy) (av := [zP 35]) cv_11_174 mk_X0_copy (by decide) (b := 27) rfl rfl (Nat.le_of_ble_eq_true rfl) dX11_book_47 (does_X0_copy_27_35 (F_X11_noteReading ((R_X0_take (F_X5_open σ 900)).2))) ?_
    refine zRx.aload_n 0 rfl rfl dX11_book_50 ?_
    refine zRx.cVv (M := m_X11_judgeAnew) (av := []) cv_11_139 mk_X11_judgeAnew (by decide) (b := 0) rfl rfl (Nat.le_of_ble_eq_true rfl) dX11_book_51 (does_X11_judgeAnew (F_X0_copy_27_35 (F_X11_noteReading ((R_X0_take (F_X5_open σ 900)).2))) (hW (by assumption))) ?_
    refine zRx.aload_n 0 rfl rfl dX11_book_54 ?_
    refine zRx.getR (a := 0) (b := 27) fl_11_38 rfl rfl dX11_book_55 ?_
    refine zRx.getIv (a := 27) (ji := 0) (v := (F_X0_copy_27_35 (F_X11_noteReading ((R_X0_take (F_X5_open σ 900)).2))) 27 0) (congrFun (fr_F_X11_judgeAnew (F_X0_copy_27_35 (F_X11_noteReading ((R_X0_take (F_X5_open σ 900)).2))) (k := 27) (by decide)) _) fl_11_177 rfl rfl rfl dX11_book_58 ?_
    exact zR.iret rfl dX11_book_61 ⟨by unfold V_X11_book; rw [if_neg c31], by unfold F_X11_book; rw [if_neg c31]⟩
  · refine zRx.aload_n 0 rfl rfl dX11_book_34 ?_
    refine zRx.cVi (w := .inl (V_X11_refusedAt (F_X11_noteReading ((R_X0_take (F_X5_open σ 900)).2)))) (M := m_X11_refusedAt) (av := []) cv_11_127 mk_X11_refusedAt (by decide) (b := 0) rfl rfl (Nat.le_of_ble_eq_true rfl) dX11_book_35 (does_X11_refusedAt (F_X11_noteReading ((R_X0_take (F_X5_open σ 900)).2))) ?_
    exact zR.iret rfl dX11_book_38 ⟨by unfold V_X11_book; rw [if_pos c31], by unfold F_X11_book; rw [if_pos c31]⟩
set_option maxRecDepth 20000 in
theorem do2_X11_drawn (σ : zG) (x sd : Int) (hp : σ 5 0 ≤ 8) (hF : σ 5 1 ≤ 12) (hW : (1 ≤ x ∧ x ≤ 60) ∧ 2 ≤ σ 5 0 ∧ 1 ≤ σ 5 1 → WC (R_X0_draw (zu σ 97 0 sd) x)) : zDo SC 7 m_X11_drawn [zP 0, .inl x, .inl sd] σ (zEq (some (.inl (V_X11_drawn σ x sd))) (F_X11_drawn σ x sd)) := by
  refine zDo.intro mk_X11_drawn (Nat.le_of_ble_eq_true rfl) ?_
  refine zRx.iload_n 1 rfl rfl dX11_drawn_0 ?_
  refine zRx.iconst ⟨by decide, by decide⟩ dX11_drawn_1 ?_
  refine zRx.icmp_lt (tgt := 33) dX11_drawn_2 (by decide) (fun c2 => ?_) (fun c2 => ?_)
  · refine zRx.iconst ⟨by decide, by decide⟩ dX11_drawn_33 ?_
    exact zR.iret rfl dX11_drawn_34 ⟨by unfold V_X11_drawn; rw [if_pos c2], by unfold F_X11_drawn; rw [if_pos c2]⟩
  · refine zRx.iload_n 1 rfl rfl dX11_drawn_5 ?_
    refine zRx.bipush ⟨by decide, by decide⟩ rfl dX11_drawn_6 ?_
    refine zRx.icmp_gt (tgt := 33) dX11_drawn_8 (by decide) (fun c8 => ?_) (fun c8 => ?_)
    · refine zRx.iconst ⟨by decide, by decide⟩ dX11_drawn_33 ?_
      exact zR.iret rfl dX11_drawn_34 ⟨by unfold V_X11_drawn; rw [if_neg (Int.not_lt.mpr c2), if_pos c8], by unfold F_X11_drawn; rw [if_neg (Int.not_lt.mpr c2), if_pos c8]⟩
    · refine zRx.aload_n 0 rfl rfl dX11_drawn_11 ?_
      refine zRx.getR (a := 0) (b := 5) fl_11_28 rfl rfl dX11_drawn_12 ?_
      refine zRx.getIv (a := 5) (ji := 0) (v := σ 5 0) rfl fl_11_180 rfl rfl rfl dX11_drawn_15 ?_
      refine zRx.iconst ⟨by decide, by decide⟩ dX11_drawn_18 ?_
      refine zRx.icmp_lt (tgt := 33) dX11_drawn_19 (by decide) (fun c19 => ?_) (fun c19 => ?_)
      · refine zRx.iconst ⟨by decide, by decide⟩ dX11_drawn_33 ?_
        exact zR.iret rfl dX11_drawn_34 ⟨by unfold V_X11_drawn; rw [if_neg (Int.not_lt.mpr c2), if_neg (Int.not_lt.mpr c8), if_pos c19], by unfold F_X11_drawn; rw [if_neg (Int.not_lt.mpr c2), if_neg (Int.not_lt.mpr c8), if_pos c19]⟩
      · refine zRx.aload_n 0 rfl rfl dX11_drawn_22 ?_
        refine zRx.getR (a := 0) (b := 5) fl_11_28 rfl rfl dX11_drawn_23 ?_
        refine zRx.getIv (a := 5) (ji := 1) (v := σ 5 1) rfl fl_11_183 rfl rfl rfl dX11_drawn_26 ?_
        refine zRx.iconst ⟨by decide, by decide⟩ dX11_drawn_29 ?_
        refine zRx.icmp_ge (tgt := 35) dX11_drawn_30 (by decide) (fun c30 => ?_) (fun c30 => ?_)
        · refine zRx.aload_n 0 rfl rfl dX11_drawn_35 ?_
          refine zRx.getR (a := 0) (b := 97) fl_11_91 rfl rfl dX11_drawn_36 ?_
          refine zRx.iload_n 2 rfl rfl dX11_drawn_39 ?_
          refine zRx.putI (a := 97) (ji := 0) pl_11_186 rfl rfl rfl dX11_drawn_40 ?_
          refine zRx.aload_n 0 rfl rfl dX11_drawn_43 ?_
          refine zRx.getR (a := 0) (b := 27) fl_11_38 rfl rfl dX11_drawn_44 ?_
          refine zRx.iload_n 1 rfl rfl dX11_drawn_47 ?_
          refine zRx.aload_n 0 rfl rfl dX11_drawn_48 ?_
          refine zRx.getR (a := 0) (b := 97) fl_11_91 rfl rfl dX11_drawn_49 ?_
          refine zRx.aload_n 0 rfl rfl dX11_drawn_52 ?_
          refine zRx.getR (a := 0) (b := 5) fl_11_28 rfl rfl dX11_drawn_53 ?_
          refine zRx.cVv (M := m_X0_draw) (av := [.inl x, zP 97, zP 5]) cv_11_189 mk_X0_draw (by decide) (b := 27) rfl rfl (Nat.le_of_ble_eq_true rfl) dX11_drawn_56 (does_X0_draw (zu σ 97 0 sd) x (by omega) (by have e9 : (zu σ 97 0 sd) 5 0 = σ 5 0 := (zu_ne _ _ _ _ (by decide)); omega) (by have e9 : (zu σ 97 0 sd) 5 1 = σ 5 1 := (zu_ne _ _ _ _ (by decide)); omega)) ?_
          refine zRx.aload_n 0 rfl rfl dX11_drawn_59 ?_
          refine zRx.cVv (M := m_X11_judgeAnew) (av := []) cv_11_139 mk_X11_judgeAnew (by decide) (b := 0) rfl rfl (Nat.le_of_ble_eq_true rfl) dX11_drawn_60 (does_X11_judgeAnew (R_X0_draw (zu σ 97 0 sd) x) (hW (by omega))) ?_
          refine zRx.aload_n 0 rfl rfl dX11_drawn_63 ?_
          refine zRx.getR (a := 0) (b := 27) fl_11_38 rfl rfl dX11_drawn_64 ?_
          refine zRx.getIv (a := 27) (ji := 0) (v := (R_X0_draw (zu σ 97 0 sd) x) 27 0) (congrFun (fr_F_X11_judgeAnew (R_X0_draw (zu σ 97 0 sd) x) (k := 27) (by decide)) _) fl_11_177 rfl rfl rfl dX11_drawn_67 ?_
          exact zR.iret rfl dX11_drawn_70 ⟨by unfold V_X11_drawn; rw [if_neg (Int.not_lt.mpr c2), if_neg (Int.not_lt.mpr c8), if_neg (Int.not_lt.mpr c19), if_pos c30], by unfold F_X11_drawn; rw [if_neg (Int.not_lt.mpr c2), if_neg (Int.not_lt.mpr c8), if_neg (Int.not_lt.mpr c19), if_pos c30]⟩
        · refine zRx.iconst ⟨by decide, by decide⟩ dX11_drawn_33 ?_
          exact zR.iret rfl dX11_drawn_34 ⟨by unfold V_X11_drawn; rw [if_neg (Int.not_lt.mpr c2), if_neg (Int.not_lt.mpr c8), if_neg (Int.not_lt.mpr c19), if_neg (Int.not_le.mpr c30)], by unfold F_X11_drawn; rw [if_neg (Int.not_lt.mpr c2), if_neg (Int.not_lt.mpr c8), if_neg (Int.not_lt.mpr c19), if_neg (Int.not_le.mpr c30)]⟩
set_option maxRecDepth 20000 in
theorem do2_X11_restore_0 (σ : zG)   (hW : ¬ σ 100 0 = 0 → WC (F_X6_copy_43_120 (F_X0_copy_27_112 (F_X9_copy_5_101 σ)))) : zDo SC 7 m_X11_restore [zP 0, .inl 0] σ (zEq (some (.inl (V_X11_restore_0 σ ))) (F_X11_restore_0 σ )) := by
  refine zDo.intro mk_X11_restore (Nat.le_of_ble_eq_true rfl) ?_
  refine zRx.iload_n 1 rfl rfl dX11_restore_0 ?_
  refine zRx.if_lt (tgt := 25) dX11_restore_1 (by decide) (fun c1 => absurd c1 (by decide)) (fun _ => ?_)
  refine zRx.iload_n 1 rfl rfl dX11_restore_4 ?_
  refine zRx.aload_n 0 rfl rfl dX11_restore_5 ?_
  refine zRx.getR (a := 0) (b := 99) fl_11_102 rfl rfl dX11_restore_6 ?_
  refine zRx.alenR rfl (by decide) dX11_restore_9 ?_
  refine zRx.topI (b := 2) rfl ?_
  refine zRx.icmp_ge (tgt := 25) dX11_restore_10 (by decide) (fun c10 => absurd c10 (by decide)) (fun _ => ?_)
  refine zRx.aload_n 0 rfl rfl dX11_restore_13 ?_
  refine zRx.getR (a := 0) (b := 99) fl_11_102 rfl rfl dX11_restore_14 ?_
  refine zRx.iload_n 1 rfl rfl dX11_restore_17 ?_
  refine zRx.aald (b := 100) rfl (by decide) (by decide) rfl dX11_restore_18 ?_
  refine zRx.getZv (a := 100) (ji := 0) (v := σ 100 0) rfl fl_11_369 rfl rfl rfl dX11_restore_19 ?_
  refine zRx.if_ne (tgt := 27) dX11_restore_22 (by decide) (fun c22 => ?_) (fun c22 => ?_)
  · refine zRx.aload_n 0 rfl rfl dX11_restore_27 ?_
    refine zRx.getR (a := 0) (b := 5) fl_11_28 rfl rfl dX11_restore_28 ?_
    refine zRx.aload_n 0 rfl rfl dX11_restore_31 ?_
    refine zRx.getR (a := 0) (b := 99) fl_11_102 rfl rfl dX11_restore_32 ?_
    refine zRx.iload_n 1 rfl rfl dX11_restore_35 ?_
    refine zRx.aald (b := 100) rfl (by decide) (by decide) rfl dX11_restore_36 ?_
    refine zRx.getR (a := 100) (b := 101) fl_11_373 rfl rfl dX11_restore_37 ?_
    refine zRx.cVv (M := m_X9_copy) (av := [zP 101]) cv_11_131 mk_X9_copy (by decide) (b := 5) rfl rfl (Nat.le_of_ble_eq_true rfl) dX11_restore_40 (does_X9_copy_5_101 σ) ?_
    refine zRx.aload_n 0 rfl rfl dX11_restore_43 ?_
    refine zRx.getR (a := 0) (b := 27) fl_11_38 rfl rfl dX11_restore_44 ?_
    refine zRx.aload_n 0 rfl rfl dX11_restore_47 ?_
    refine zRx.getR (a := 0) (b := 99) fl_11_102 rfl rfl dX11_restore_48 ?_
    refine zRx.iload_n 1 rfl rfl dX11_restore_51 ?_
    refine zRx.aald (b := 100) rfl (by decide) (by decide) rfl dX11_restore_52 ?_
    refine zRx.getR (a := 100) (b := 112) fl_11_374 rfl rfl dX11_restore_53 ?_
    refine zRx.cVv (M := m_X0_copy) (av := [zP 112]) cv_11_174 mk_X0_copy (by decide) (b := 27) rfl rfl (Nat.le_of_ble_eq_true rfl) dX11_restore_56 (does_X0_copy_27_112 (F_X9_copy_5_101 σ)) ?_
    refine zRx.aload_n 0 rfl rfl dX11_restore_59 ?_
    refine zRx.getR (a := 0) (b := 43) fl_11_48 rfl rfl dX11_restore_60 ?_
    refine zRx.aload_n 0 rfl rfl dX11_restore_63 ?_
    refine zRx.getR (a := 0) (b := 99) fl_11_102 rfl rfl dX11_restore_64 ?_
    refine zRx.iload_n 1 rfl rfl dX11_restore_67 ?_
    refine zRx.aald (b := 100) rfl (by decide) (by decide) rfl dX11_restore_68 ?_
    refine zRx.getR (a := 100) (b := 120) fl_11_375 rfl rfl dX11_restore_69 ?_
    refine zRx.cVv (M := m_X6_copy) (av := [zP 120]) cv_11_355 mk_X6_copy (by decide) (b := 43) rfl rfl (Nat.le_of_ble_eq_true rfl) dX11_restore_72 (does_X6_copy_43_120 (F_X0_copy_27_112 (F_X9_copy_5_101 σ))) ?_
    refine zRx.aload_n 0 rfl rfl dX11_restore_75 ?_
    refine zRx.cVv (M := m_X11_judgeAnew) (av := []) cv_11_139 mk_X11_judgeAnew (by decide) (b := 0) rfl rfl (Nat.le_of_ble_eq_true rfl) dX11_restore_76 (does_X11_judgeAnew (F_X6_copy_43_120 (F_X0_copy_27_112 (F_X9_copy_5_101 σ))) (hW (by assumption))) ?_
    refine zRx.iconst ⟨by decide, by decide⟩ dX11_restore_79 ?_
    exact zR.zret rfl ⟨by decide, by decide⟩ dX11_restore_80 ⟨by unfold V_X11_restore_0; rw [if_neg c22], by unfold F_X11_restore_0; rw [if_neg c22]⟩
  · refine zRx.iconst ⟨by decide, by decide⟩ dX11_restore_25 ?_
    exact zR.zret rfl ⟨by decide, by decide⟩ dX11_restore_26 ⟨by unfold V_X11_restore_0; rw [if_pos c22], by unfold F_X11_restore_0; rw [if_pos c22]⟩
set_option maxRecDepth 20000 in
theorem do2_X11_restore_1 (σ : zG)   (hW : ¬ σ 125 0 = 0 → WC (F_X6_copy_43_145 (F_X0_copy_27_137 (F_X9_copy_5_126 σ)))) : zDo SC 7 m_X11_restore [zP 0, .inl 1] σ (zEq (some (.inl (V_X11_restore_1 σ ))) (F_X11_restore_1 σ )) := by
  refine zDo.intro mk_X11_restore (Nat.le_of_ble_eq_true rfl) ?_
  refine zRx.iload_n 1 rfl rfl dX11_restore_0 ?_
  refine zRx.if_lt (tgt := 25) dX11_restore_1 (by decide) (fun c1 => absurd c1 (by decide)) (fun _ => ?_)
  refine zRx.iload_n 1 rfl rfl dX11_restore_4 ?_
  refine zRx.aload_n 0 rfl rfl dX11_restore_5 ?_
  refine zRx.getR (a := 0) (b := 99) fl_11_102 rfl rfl dX11_restore_6 ?_
  refine zRx.alenR rfl (by decide) dX11_restore_9 ?_
  refine zRx.topI (b := 2) rfl ?_
  refine zRx.icmp_ge (tgt := 25) dX11_restore_10 (by decide) (fun c10 => absurd c10 (by decide)) (fun _ => ?_)
  refine zRx.aload_n 0 rfl rfl dX11_restore_13 ?_
  refine zRx.getR (a := 0) (b := 99) fl_11_102 rfl rfl dX11_restore_14 ?_
  refine zRx.iload_n 1 rfl rfl dX11_restore_17 ?_
  refine zRx.aald (b := 125) rfl (by decide) (by decide) rfl dX11_restore_18 ?_
  refine zRx.getZv (a := 125) (ji := 0) (v := σ 125 0) rfl fl_11_369 rfl rfl rfl dX11_restore_19 ?_
  refine zRx.if_ne (tgt := 27) dX11_restore_22 (by decide) (fun c22 => ?_) (fun c22 => ?_)
  · refine zRx.aload_n 0 rfl rfl dX11_restore_27 ?_
    refine zRx.getR (a := 0) (b := 5) fl_11_28 rfl rfl dX11_restore_28 ?_
    refine zRx.aload_n 0 rfl rfl dX11_restore_31 ?_
    refine zRx.getR (a := 0) (b := 99) fl_11_102 rfl rfl dX11_restore_32 ?_
    refine zRx.iload_n 1 rfl rfl dX11_restore_35 ?_
    refine zRx.aald (b := 125) rfl (by decide) (by decide) rfl dX11_restore_36 ?_
    refine zRx.getR (a := 125) (b := 126) fl_11_373 rfl rfl dX11_restore_37 ?_
    refine zRx.cVv (M := m_X9_copy) (av := [zP 126]) cv_11_131 mk_X9_copy (by decide) (b := 5) rfl rfl (Nat.le_of_ble_eq_true rfl) dX11_restore_40 (does_X9_copy_5_126 σ) ?_
    refine zRx.aload_n 0 rfl rfl dX11_restore_43 ?_
    refine zRx.getR (a := 0) (b := 27) fl_11_38 rfl rfl dX11_restore_44 ?_
    refine zRx.aload_n 0 rfl rfl dX11_restore_47 ?_
    refine zRx.getR (a := 0) (b := 99) fl_11_102 rfl rfl dX11_restore_48 ?_
    refine zRx.iload_n 1 rfl rfl dX11_restore_51 ?_
    refine zRx.aald (b := 125) rfl (by decide) (by decide) rfl dX11_restore_52 ?_
    refine zRx.getR (a := 125) (b := 137) fl_11_374 rfl rfl dX11_restore_53 ?_
    refine zRx.cVv (M := m_X0_copy) (av := [zP 137]) cv_11_174 mk_X0_copy (by decide) (b := 27) rfl rfl (Nat.le_of_ble_eq_true rfl) dX11_restore_56 (does_X0_copy_27_137 (F_X9_copy_5_126 σ)) ?_
    refine zRx.aload_n 0 rfl rfl dX11_restore_59 ?_
    refine zRx.getR (a := 0) (b := 43) fl_11_48 rfl rfl dX11_restore_60 ?_
    refine zRx.aload_n 0 rfl rfl dX11_restore_63 ?_
    refine zRx.getR (a := 0) (b := 99) fl_11_102 rfl rfl dX11_restore_64 ?_
    refine zRx.iload_n 1 rfl rfl dX11_restore_67 ?_
    refine zRx.aald (b := 125) rfl (by decide) (by decide) rfl dX11_restore_68 ?_
    refine zRx.getR (a := 125) (b := 145) fl_11_375 rfl rfl dX11_restore_69 ?_
    refine zRx.cVv (M := m_X6_copy) (av := [zP 145]) cv_11_355 mk_X6_copy (by decide) (b := 43) rfl rfl (Nat.le_of_ble_eq_true rfl) dX11_restore_72 (does_X6_copy_43_145 (F_X0_copy_27_137 (F_X9_copy_5_126 σ))) ?_
    refine zRx.aload_n 0 rfl rfl dX11_restore_75 ?_
    refine zRx.cVv (M := m_X11_judgeAnew) (av := []) cv_11_139 mk_X11_judgeAnew (by decide) (b := 0) rfl rfl (Nat.le_of_ble_eq_true rfl) dX11_restore_76 (does_X11_judgeAnew (F_X6_copy_43_145 (F_X0_copy_27_137 (F_X9_copy_5_126 σ))) (hW (by assumption))) ?_
    refine zRx.iconst ⟨by decide, by decide⟩ dX11_restore_79 ?_
    exact zR.zret rfl ⟨by decide, by decide⟩ dX11_restore_80 ⟨by unfold V_X11_restore_1; rw [if_neg c22], by unfold F_X11_restore_1; rw [if_neg c22]⟩
  · refine zRx.iconst ⟨by decide, by decide⟩ dX11_restore_25 ?_
    exact zR.zret rfl ⟨by decide, by decide⟩ dX11_restore_26 ⟨by unfold V_X11_restore_1; rw [if_pos c22], by unfold F_X11_restore_1; rw [if_pos c22]⟩
