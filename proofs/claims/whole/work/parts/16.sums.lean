/-! the ledger: what it comes to -/
def WD (σ : zG) : Prop := ∀ d : Int, 0 ≤ d → d < σ 53 8 → 0 ≤ σ 64 d ∧ σ 64 d < 60
def V_X4_dayOf (σ : zG) (d : Int) : Int := σ 34 (σ 64 d)
set_option maxRecDepth 20000 in
theorem does_X4_dayOf (σ : zG) (d : Int) (hd : 0 ≤ d ∧ d < 128) (hf : 0 ≤ σ 64 d ∧ σ 64 d < 60) : zDo SC 0 m_X4_dayOf [zP 53, .inl d] σ (zEq (some (.inl (V_X4_dayOf σ d))) σ) := by
  refine zDo.intro mk_X4_dayOf (Nat.le_of_ble_eq_true rfl) ?_
  refine zRx.aload_n 0 rfl rfl dX4_dayOf_0 ?_
  refine zRx.getR (a := 53) (b := 27) fl_4_55 rfl rfl dX4_dayOf_1 ?_
  refine zRx.getR (a := 27) (b := 34) fl_4_181 rfl rfl dX4_dayOf_4 ?_
  refine zRx.aload_n 0 rfl rfl dX4_dayOf_7 ?_
  refine zRx.getR (a := 53) (b := 64) fl_4_42 rfl rfl dX4_dayOf_8 ?_
  refine zRx.iload_n 1 rfl rfl dX4_dayOf_11 ?_
  refine zRx.ialdv (v := σ 64 d) rfl rfl (by omega) (by omega) dX4_dayOf_12 ?_
  refine zRx.ialdv (v := σ 34 (σ 64 d)) rfl rfl (by omega) (by omega) dX4_dayOf_13 ?_
  exact zR.iret rfl dX4_dayOf_14 ⟨rfl, rfl⟩

def V_X4_isLate (σ : zG) (d : Int) : Int := if 0 ≤ (σ 65 d) ∧ (σ 65 d) < σ 27 0 then (if (w32 ((σ 34 (σ 65 d)) - (V_X4_dayOf σ d))) ≤ (σ 15 0) then 0 else 1) else (if (w32 ((σ 27 1) - (V_X4_dayOf σ d))) ≤ (σ 15 0) then 0 else 1)
set_option maxRecDepth 20000 in
theorem does_X4_isLate (σ : zG) (d : Int) (hd : 0 ≤ d ∧ d < 128) (hf : 0 ≤ σ 64 d ∧ σ 64 d < 60) (hL : σ 27 0 ≤ 60) : zDo SC 1 m_X4_isLate [zP 53, .inl d] σ (zEq (some (.inl (V_X4_isLate σ d))) σ) := by
  refine zDo.intro mk_X4_isLate (Nat.le_of_ble_eq_true rfl) ?_
  refine zRx.aload_n 0 rfl rfl dX4_isLate_0 ?_
  refine zRx.getR (a := 53) (b := 27) fl_4_55 rfl rfl dX4_isLate_1 ?_
  refine zRx.aload_n 0 rfl rfl dX4_isLate_4 ?_
  refine zRx.getR (a := 53) (b := 65) fl_4_45 rfl rfl dX4_isLate_5 ?_
  refine zRx.iload_n 1 rfl rfl dX4_isLate_8 ?_
  refine zRx.ialdv (v := σ 65 d) rfl rfl (by omega) (by omega) dX4_isLate_9 ?_
  refine zRx.cVi (w := .inl (b2 (0 ≤ (σ 65 d) ∧ (σ 65 d) < σ 27 0))) (M := m_X0_hasLine) (av := [.inl (σ 65 d)]) cv_4_184 mk_X0_hasLine (by decide) (b := 27) rfl rfl (Nat.le_of_ble_eq_true rfl) dX4_isLate_10 (does_X0_hasLine σ (σ 65 d)) ?_
  refine zRx.if_eqB (tgt := 33) dX4_isLate_13 (by decide) (fun c13 => ?_) (fun c13 => ?_)
  · refine zRx.aload_n 0 rfl rfl dX4_isLate_33 ?_
    refine zRx.getR (a := 53) (b := 27) fl_4_55 rfl rfl dX4_isLate_34 ?_
    refine zRx.getIv (a := 27) (ji := 1) (v := σ 27 1) rfl fl_4_188 rfl rfl rfl dX4_isLate_37 ?_
    refine zRx.istore_n (ls' := [(0, zP 53), (1, .inl d), (2, .inl (σ 27 1))]) rfl rfl (by decide) dX4_isLate_40 ?_
    refine zRx.iload_n 2 rfl rfl dX4_isLate_41 ?_
    refine zRx.aload_n 0 rfl rfl dX4_isLate_42 ?_
    refine zRx.iload_n 1 rfl rfl dX4_isLate_43 ?_
    refine zRx.cVi (w := .inl (V_X4_dayOf σ d)) (M := m_X4_dayOf) (av := [.inl d]) cv_4_191 mk_X4_dayOf (by decide) (b := 53) rfl rfl (Nat.le_of_ble_eq_true rfl) dX4_isLate_44 (does_X4_dayOf σ d hd hf) ?_
    refine zRx.isubW dX4_isLate_47 ?_
    refine zRx.aload_n 0 rfl rfl dX4_isLate_48 ?_
    refine zRx.getR (a := 53) (b := 5) fl_4_51 rfl rfl dX4_isLate_49 ?_
    refine zRx.getR (a := 5) (b := 15) fl_4_117 rfl rfl dX4_isLate_52 ?_
    refine zRx.iconst ⟨by decide, by decide⟩ dX4_isLate_55 ?_
    refine zRx.ialdv (v := σ 15 0) rfl rfl (by decide) (by decide) dX4_isLate_56 ?_
    refine zRx.icmp_le (tgt := 64) dX4_isLate_57 (by decide) (fun c57 => ?_) (fun c57 => ?_)
    · refine zRx.iconst ⟨by decide, by decide⟩ dX4_isLate_64 ?_
      exact zR.zret rfl ⟨by decide, by decide⟩ dX4_isLate_65 ⟨by unfold V_X4_isLate; rw [if_neg c13, if_pos c57], rfl⟩
    · refine zRx.iconst ⟨by decide, by decide⟩ dX4_isLate_60 ?_
      refine zRx.goto (tgt := 65) dX4_isLate_61 (by decide) ?_
      exact zR.zret rfl ⟨by decide, by decide⟩ dX4_isLate_65 ⟨by unfold V_X4_isLate; rw [if_neg c13, if_neg (Int.not_le.mpr c57)], rfl⟩
  · refine zRx.aload_n 0 rfl rfl dX4_isLate_16 ?_
    refine zRx.getR (a := 53) (b := 27) fl_4_55 rfl rfl dX4_isLate_17 ?_
    refine zRx.getR (a := 27) (b := 34) fl_4_181 rfl rfl dX4_isLate_20 ?_
    refine zRx.aload_n 0 rfl rfl dX4_isLate_23 ?_
    refine zRx.getR (a := 53) (b := 65) fl_4_45 rfl rfl dX4_isLate_24 ?_
    refine zRx.iload_n 1 rfl rfl dX4_isLate_27 ?_
    refine zRx.ialdv (v := σ 65 d) rfl rfl (by omega) (by omega) dX4_isLate_28 ?_
    refine zRx.ialdv (v := σ 34 (σ 65 d)) rfl rfl (by omega) (by omega) dX4_isLate_29 ?_
    refine zRx.goto (tgt := 40) dX4_isLate_30 (by decide) ?_
    refine zRx.istore_n (ls' := [(0, zP 53), (1, .inl d), (2, .inl (σ 34 (σ 65 d)))]) rfl rfl (by decide) dX4_isLate_40 ?_
    refine zRx.iload_n 2 rfl rfl dX4_isLate_41 ?_
    refine zRx.aload_n 0 rfl rfl dX4_isLate_42 ?_
    refine zRx.iload_n 1 rfl rfl dX4_isLate_43 ?_
    refine zRx.cVi (w := .inl (V_X4_dayOf σ d)) (M := m_X4_dayOf) (av := [.inl d]) cv_4_191 mk_X4_dayOf (by decide) (b := 53) rfl rfl (Nat.le_of_ble_eq_true rfl) dX4_isLate_44 (does_X4_dayOf σ d hd hf) ?_
    refine zRx.isubW dX4_isLate_47 ?_
    refine zRx.aload_n 0 rfl rfl dX4_isLate_48 ?_
    refine zRx.getR (a := 53) (b := 5) fl_4_51 rfl rfl dX4_isLate_49 ?_
    refine zRx.getR (a := 5) (b := 15) fl_4_117 rfl rfl dX4_isLate_52 ?_
    refine zRx.iconst ⟨by decide, by decide⟩ dX4_isLate_55 ?_
    refine zRx.ialdv (v := σ 15 0) rfl rfl (by decide) (by decide) dX4_isLate_56 ?_
    refine zRx.icmp_le (tgt := 64) dX4_isLate_57 (by decide) (fun c57 => ?_) (fun c57 => ?_)
    · refine zRx.iconst ⟨by decide, by decide⟩ dX4_isLate_64 ?_
      exact zR.zret rfl ⟨by decide, by decide⟩ dX4_isLate_65 ⟨by unfold V_X4_isLate; rw [if_pos c13, if_pos c57], rfl⟩
    · refine zRx.iconst ⟨by decide, by decide⟩ dX4_isLate_60 ?_
      refine zRx.goto (tgt := 65) dX4_isLate_61 (by decide) ?_
      exact zR.zret rfl ⟨by decide, by decide⟩ dX4_isLate_65 ⟨by unfold V_X4_isLate; rw [if_pos c13, if_neg (Int.not_le.mpr c57)], rfl⟩

def L_X4_sumInAll_4 (σ : zG) (what : Int) : Nat → Int → Int → Int
  | 0, _, _ => 0
  | n + 1, sm, q => if (σ 53 8) ≤ q then sm else (if what = 0 then (L_X4_sumInAll_4 σ what n (w32 (sm + (σ 63 q))) (q + 1)) else (if what = 1 then (if (σ 63 q) ≤ 0 then (L_X4_sumInAll_4 σ what n (w32 (sm + 0)) (q + 1)) else (L_X4_sumInAll_4 σ what n (w32 (sm + 1)) (q + 1))) else (if what = 2 then (if (V_X4_isLate σ q) = 0 then (L_X4_sumInAll_4 σ what n (w32 (sm + 0)) (q + 1)) else (L_X4_sumInAll_4 σ what n (w32 (sm + 1)) (q + 1))) else (if what = 3 then (L_X4_sumInAll_4 σ what n (w32 (sm + (σ 66 q))) (q + 1)) else (L_X4_sumInAll_4 σ what n sm (q + 1))))))
set_option maxRecDepth 20000 in
theorem loop_X4_sumInAll_4 (σ : zG) (what : Int) (hm : σ 53 8 ≤ 128) (hL : σ 27 0 ≤ 60) (hD : WD σ) : ∀ (n : Nat) (sm q : Int) , 0 ≤ q → (σ 53 8 - q).toNat < n → zR SC 2 m_X4_sumInAll 4 [(0, zP 53), (1, .inl what), (2, .inl sm), (3, .inl q)] [] σ (zEq (some (.inl (L_X4_sumInAll_4 σ what n sm q))) σ) := by
  intro n
  induction n with
  | zero => intro sm q  h0 hmz; exact absurd hmz (Nat.not_lt_zero _)
  | succ n ih =>
    intro sm q  h0 hmz
    refine zRx.iload_n 3 rfl rfl dX4_sumInAll_4 ?_
    refine zRx.aload_n 0 rfl rfl dX4_sumInAll_5 ?_
    refine zRx.getIv (a := 53) (ji := 8) (v := σ 53 8) rfl fl_4_81 rfl rfl rfl dX4_sumInAll_6 ?_
    refine zRx.icmp_ge (tgt := 113) dX4_sumInAll_9 (by decide) (fun c9 => ?_) (fun c9 => ?_)
    · refine zRx.iload_n 2 rfl rfl dX4_sumInAll_113 ?_
      exact zR.iret rfl dX4_sumInAll_114 (by have he : L_X4_sumInAll_4 σ what (n + 1) sm q = sm := (by rw [L_X4_sumInAll_4, if_pos c9]); rw [he]; exact ⟨rfl, rfl⟩)
    · refine zRx.iload_n 1 rfl rfl dX4_sumInAll_12 ?_
      by_cases c13_0 : what = 0
      · refine zRx.topI (b := 0) c13_0 ?_
        refine zRx.tableIn (tgt := 44) dX4_sumInAll_13 (by decide) (by decide) rfl (by decide) ?_
        refine zRx.iload_n 2 rfl rfl dX4_sumInAll_44 ?_
        refine zRx.aload_n 0 rfl rfl dX4_sumInAll_45 ?_
        refine zRx.getR (a := 53) (b := 63) fl_4_39 rfl rfl dX4_sumInAll_46 ?_
        refine zRx.iload_n 3 rfl rfl dX4_sumInAll_49 ?_
        refine zRx.ialdv (v := σ 63 q) rfl rfl (by omega) (by omega) dX4_sumInAll_50 ?_
        refine zRx.iaddW dX4_sumInAll_51 ?_
        refine zRx.istore_n (ls' := [(0, zP 53), (1, .inl what), (2, .inl (w32 (sm + (σ 63 q)))), (3, .inl q)]) rfl rfl (by decide) dX4_sumInAll_52 ?_
        refine zRx.goto (tgt := 107) dX4_sumInAll_53 (by decide) ?_
        refine zRx.iinc (n := 1) (ls' := [(0, zP 53), (1, .inl what), (2, .inl (w32 (sm + (σ 63 q)))), (3, .inl (q + 1))]) 3 rfl ⟨by omega, by omega⟩ rfl (by decide) dX4_sumInAll_107 ?_
        refine zRx.goto (tgt := 4) dX4_sumInAll_110 (by decide) ?_
        have he : L_X4_sumInAll_4 σ what (n + 1) sm q = L_X4_sumInAll_4 σ what n (w32 (sm + (σ 63 q))) (q + 1) := by rw [L_X4_sumInAll_4, if_neg (Int.not_le.mpr c9), if_pos c13_0]
        rw [he]
        exact ih (w32 (sm + (σ 63 q))) (q + 1)  (by omega) (by omega)
      by_cases c13_1 : what = 1
      · refine zRx.topI (b := 1) c13_1 ?_
        refine zRx.tableIn (tgt := 56) dX4_sumInAll_13 (by decide) (by decide) rfl (by decide) ?_
        refine zRx.iload_n 2 rfl rfl dX4_sumInAll_56 ?_
        refine zRx.aload_n 0 rfl rfl dX4_sumInAll_57 ?_
        refine zRx.getR (a := 53) (b := 63) fl_4_39 rfl rfl dX4_sumInAll_58 ?_
        refine zRx.iload_n 3 rfl rfl dX4_sumInAll_61 ?_
        refine zRx.ialdv (v := σ 63 q) rfl rfl (by omega) (by omega) dX4_sumInAll_62 ?_
        refine zRx.if_le (tgt := 70) dX4_sumInAll_63 (by decide) (fun c63 => ?_) (fun c63 => ?_)
        · refine zRx.iconst ⟨by decide, by decide⟩ dX4_sumInAll_70 ?_
          refine zRx.iaddW dX4_sumInAll_71 ?_
          refine zRx.istore_n (ls' := [(0, zP 53), (1, .inl what), (2, .inl (w32 (sm + 0))), (3, .inl q)]) rfl rfl (by decide) dX4_sumInAll_72 ?_
          refine zRx.goto (tgt := 107) dX4_sumInAll_73 (by decide) ?_
          refine zRx.iinc (n := 1) (ls' := [(0, zP 53), (1, .inl what), (2, .inl (w32 (sm + 0))), (3, .inl (q + 1))]) 3 rfl ⟨by omega, by omega⟩ rfl (by decide) dX4_sumInAll_107 ?_
          refine zRx.goto (tgt := 4) dX4_sumInAll_110 (by decide) ?_
          have he : L_X4_sumInAll_4 σ what (n + 1) sm q = L_X4_sumInAll_4 σ what n (w32 (sm + 0)) (q + 1) := by rw [L_X4_sumInAll_4, if_neg (Int.not_le.mpr c9), if_neg c13_0, if_pos c13_1, if_pos c63]
          rw [he]
          exact ih (w32 (sm + 0)) (q + 1)  (by omega) (by omega)
        · refine zRx.iconst ⟨by decide, by decide⟩ dX4_sumInAll_66 ?_
          refine zRx.goto (tgt := 71) dX4_sumInAll_67 (by decide) ?_
          refine zRx.iaddW dX4_sumInAll_71 ?_
          refine zRx.istore_n (ls' := [(0, zP 53), (1, .inl what), (2, .inl (w32 (sm + 1))), (3, .inl q)]) rfl rfl (by decide) dX4_sumInAll_72 ?_
          refine zRx.goto (tgt := 107) dX4_sumInAll_73 (by decide) ?_
          refine zRx.iinc (n := 1) (ls' := [(0, zP 53), (1, .inl what), (2, .inl (w32 (sm + 1))), (3, .inl (q + 1))]) 3 rfl ⟨by omega, by omega⟩ rfl (by decide) dX4_sumInAll_107 ?_
          refine zRx.goto (tgt := 4) dX4_sumInAll_110 (by decide) ?_
          have he : L_X4_sumInAll_4 σ what (n + 1) sm q = L_X4_sumInAll_4 σ what n (w32 (sm + 1)) (q + 1) := by rw [L_X4_sumInAll_4, if_neg (Int.not_le.mpr c9), if_neg c13_0, if_pos c13_1, if_neg (Int.not_le.mpr c63)]
          rw [he]
          exact ih (w32 (sm + 1)) (q + 1)  (by omega) (by omega)
      by_cases c13_2 : what = 2
      · refine zRx.topI (b := 2) c13_2 ?_
        refine zRx.tableIn (tgt := 76) dX4_sumInAll_13 (by decide) (by decide) rfl (by decide) ?_
        refine zRx.iload_n 2 rfl rfl dX4_sumInAll_76 ?_
        refine zRx.aload_n 0 rfl rfl dX4_sumInAll_77 ?_
        refine zRx.iload_n 3 rfl rfl dX4_sumInAll_78 ?_
        refine zRx.cVi (w := .inl (V_X4_isLate σ q)) (M := m_X4_isLate) (av := [.inl q]) cv_4_194 mk_X4_isLate (by decide) (b := 53) rfl rfl (Nat.le_of_ble_eq_true rfl) dX4_sumInAll_79 (does_X4_isLate σ q (by omega) (hD _ (by omega) (by omega)) hL) ?_
        refine zRx.if_eq (tgt := 89) dX4_sumInAll_82 (by decide) (fun c82 => ?_) (fun c82 => ?_)
        · refine zRx.iconst ⟨by decide, by decide⟩ dX4_sumInAll_89 ?_
          refine zRx.iaddW dX4_sumInAll_90 ?_
          refine zRx.istore_n (ls' := [(0, zP 53), (1, .inl what), (2, .inl (w32 (sm + 0))), (3, .inl q)]) rfl rfl (by decide) dX4_sumInAll_91 ?_
          refine zRx.goto (tgt := 107) dX4_sumInAll_92 (by decide) ?_
          refine zRx.iinc (n := 1) (ls' := [(0, zP 53), (1, .inl what), (2, .inl (w32 (sm + 0))), (3, .inl (q + 1))]) 3 rfl ⟨by omega, by omega⟩ rfl (by decide) dX4_sumInAll_107 ?_
          refine zRx.goto (tgt := 4) dX4_sumInAll_110 (by decide) ?_
          have he : L_X4_sumInAll_4 σ what (n + 1) sm q = L_X4_sumInAll_4 σ what n (w32 (sm + 0)) (q + 1) := by rw [L_X4_sumInAll_4, if_neg (Int.not_le.mpr c9), if_neg c13_0, if_neg c13_1, if_pos c13_2, if_pos c82]
          rw [he]
          exact ih (w32 (sm + 0)) (q + 1)  (by omega) (by omega)
        · refine zRx.iconst ⟨by decide, by decide⟩ dX4_sumInAll_85 ?_
          refine zRx.goto (tgt := 90) dX4_sumInAll_86 (by decide) ?_
          refine zRx.iaddW dX4_sumInAll_90 ?_
          refine zRx.istore_n (ls' := [(0, zP 53), (1, .inl what), (2, .inl (w32 (sm + 1))), (3, .inl q)]) rfl rfl (by decide) dX4_sumInAll_91 ?_
          refine zRx.goto (tgt := 107) dX4_sumInAll_92 (by decide) ?_
          refine zRx.iinc (n := 1) (ls' := [(0, zP 53), (1, .inl what), (2, .inl (w32 (sm + 1))), (3, .inl (q + 1))]) 3 rfl ⟨by omega, by omega⟩ rfl (by decide) dX4_sumInAll_107 ?_
          refine zRx.goto (tgt := 4) dX4_sumInAll_110 (by decide) ?_
          have he : L_X4_sumInAll_4 σ what (n + 1) sm q = L_X4_sumInAll_4 σ what n (w32 (sm + 1)) (q + 1) := by rw [L_X4_sumInAll_4, if_neg (Int.not_le.mpr c9), if_neg c13_0, if_neg c13_1, if_pos c13_2, if_neg c82]
          rw [he]
          exact ih (w32 (sm + 1)) (q + 1)  (by omega) (by omega)
      by_cases c13_3 : what = 3
      · refine zRx.topI (b := 3) c13_3 ?_
        refine zRx.tableIn (tgt := 95) dX4_sumInAll_13 (by decide) (by decide) rfl (by decide) ?_
        refine zRx.iload_n 2 rfl rfl dX4_sumInAll_95 ?_
        refine zRx.aload_n 0 rfl rfl dX4_sumInAll_96 ?_
        refine zRx.getR (a := 53) (b := 66) fl_4_48 rfl rfl dX4_sumInAll_97 ?_
        refine zRx.iload_n 3 rfl rfl dX4_sumInAll_100 ?_
        refine zRx.ialdv (v := σ 66 q) rfl rfl (by omega) (by omega) dX4_sumInAll_101 ?_
        refine zRx.iaddW dX4_sumInAll_102 ?_
        refine zRx.istore_n (ls' := [(0, zP 53), (1, .inl what), (2, .inl (w32 (sm + (σ 66 q)))), (3, .inl q)]) rfl rfl (by decide) dX4_sumInAll_103 ?_
        refine zRx.goto (tgt := 107) dX4_sumInAll_104 (by decide) ?_
        refine zRx.iinc (n := 1) (ls' := [(0, zP 53), (1, .inl what), (2, .inl (w32 (sm + (σ 66 q)))), (3, .inl (q + 1))]) 3 rfl ⟨by omega, by omega⟩ rfl (by decide) dX4_sumInAll_107 ?_
        refine zRx.goto (tgt := 4) dX4_sumInAll_110 (by decide) ?_
        have he : L_X4_sumInAll_4 σ what (n + 1) sm q = L_X4_sumInAll_4 σ what n (w32 (sm + (σ 66 q))) (q + 1) := by rw [L_X4_sumInAll_4, if_neg (Int.not_le.mpr c9), if_neg c13_0, if_neg c13_1, if_neg c13_2, if_pos c13_3]
        rw [he]
        exact ih (w32 (sm + (σ 66 q))) (q + 1)  (by omega) (by omega)
      refine zRx.tableOut (tgt := 107) dX4_sumInAll_13 (by omega) (by decide) ?_
      refine zRx.iinc (n := 1) (ls' := [(0, zP 53), (1, .inl what), (2, .inl sm), (3, .inl (q + 1))]) 3 rfl ⟨by omega, by omega⟩ rfl (by decide) dX4_sumInAll_107 ?_
      refine zRx.goto (tgt := 4) dX4_sumInAll_110 (by decide) ?_
      have he : L_X4_sumInAll_4 σ what (n + 1) sm q = L_X4_sumInAll_4 σ what n sm (q + 1) := by rw [L_X4_sumInAll_4, if_neg (Int.not_le.mpr c9), if_neg c13_0, if_neg c13_1, if_neg c13_2, if_neg c13_3]
      rw [he]
      exact ih sm (q + 1)  (by omega) (by omega)
def R_X4_sumInAll (σ : zG) (what : Int) : Int := L_X4_sumInAll_4 σ what 200 0 0
set_option maxRecDepth 20000 in
theorem does_X4_sumInAll (σ : zG) (what : Int) (hm : σ 53 8 ≤ 128) (hL : σ 27 0 ≤ 60) (hD : WD σ)  : zDo SC 2 m_X4_sumInAll [zP 53, .inl what] σ (zEq (some (.inl (R_X4_sumInAll σ what))) σ) := by
  refine zDo.intro mk_X4_sumInAll (Nat.le_of_ble_eq_true rfl) ?_
  refine zRx.iconst ⟨by decide, by decide⟩ dX4_sumInAll_0 ?_
  refine zRx.istore_n (ls' := [(0, zP 53), (1, .inl what), (2, .inl 0)]) rfl rfl (by decide) dX4_sumInAll_1 ?_
  refine zRx.iconst ⟨by decide, by decide⟩ dX4_sumInAll_2 ?_
  refine zRx.istore_n (ls' := [(0, zP 53), (1, .inl what), (2, .inl 0), (3, .inl 0)]) rfl rfl (by decide) dX4_sumInAll_3 ?_
  have he : R_X4_sumInAll σ what = L_X4_sumInAll_4 σ what 200 0 0 := by rw [R_X4_sumInAll]
  rw [he]
  exact loop_X4_sumInAll_4 σ what hm hL hD  200 0 0  (by omega) (by omega)

def L_X4_sumInAll_4z (σ : zG)  : Nat → Int → Int → Int
  | 0, _, _ => 0
  | n + 1, sm, q => if (σ 53 8) ≤ q then sm else (L_X4_sumInAll_4z σ  n (w32 (sm + (σ 63 q))) (q + 1))
set_option maxRecDepth 20000 in
theorem loop_X4_sumInAll_4z (σ : zG)  (hm : σ 53 8 ≤ 128) : ∀ (n : Nat) (sm q : Int) , 0 ≤ q → (σ 53 8 - q).toNat < n → zR SC 2 m_X4_sumInAll 4 [(0, zP 53), (1, .inl 0), (2, .inl sm), (3, .inl q)] [] σ (zEq (some (.inl (L_X4_sumInAll_4z σ  n sm q))) σ) := by
  intro n
  induction n with
  | zero => intro sm q  h0 hmz; exact absurd hmz (Nat.not_lt_zero _)
  | succ n ih =>
    intro sm q  h0 hmz
    refine zRx.iload_n 3 rfl rfl dX4_sumInAll_4 ?_
    refine zRx.aload_n 0 rfl rfl dX4_sumInAll_5 ?_
    refine zRx.getIv (a := 53) (ji := 8) (v := σ 53 8) rfl fl_4_81 rfl rfl rfl dX4_sumInAll_6 ?_
    refine zRx.icmp_ge (tgt := 113) dX4_sumInAll_9 (by decide) (fun c9 => ?_) (fun c9 => ?_)
    · refine zRx.iload_n 2 rfl rfl dX4_sumInAll_113 ?_
      exact zR.iret rfl dX4_sumInAll_114 (by have he : L_X4_sumInAll_4z σ  (n + 1) sm q = sm := (by rw [L_X4_sumInAll_4z, if_pos c9]); rw [he]; exact ⟨rfl, rfl⟩)
    · refine zRx.iload_n 1 rfl rfl dX4_sumInAll_12 ?_
      refine zRx.tableIn (tgt := 44) dX4_sumInAll_13 (by decide) (by decide) rfl (by decide) ?_
      refine zRx.iload_n 2 rfl rfl dX4_sumInAll_44 ?_
      refine zRx.aload_n 0 rfl rfl dX4_sumInAll_45 ?_
      refine zRx.getR (a := 53) (b := 63) fl_4_39 rfl rfl dX4_sumInAll_46 ?_
      refine zRx.iload_n 3 rfl rfl dX4_sumInAll_49 ?_
      refine zRx.ialdv (v := σ 63 q) rfl rfl (by omega) (by omega) dX4_sumInAll_50 ?_
      refine zRx.iaddW dX4_sumInAll_51 ?_
      refine zRx.istore_n (ls' := [(0, zP 53), (1, .inl 0), (2, .inl (w32 (sm + (σ 63 q)))), (3, .inl q)]) rfl rfl (by decide) dX4_sumInAll_52 ?_
      refine zRx.goto (tgt := 107) dX4_sumInAll_53 (by decide) ?_
      refine zRx.iinc (n := 1) (ls' := [(0, zP 53), (1, .inl 0), (2, .inl (w32 (sm + (σ 63 q)))), (3, .inl (q + 1))]) 3 rfl ⟨by omega, by omega⟩ rfl (by decide) dX4_sumInAll_107 ?_
      refine zRx.goto (tgt := 4) dX4_sumInAll_110 (by decide) ?_
      have he : L_X4_sumInAll_4z σ  (n + 1) sm q = L_X4_sumInAll_4z σ  n (w32 (sm + (σ 63 q))) (q + 1) := by rw [L_X4_sumInAll_4z, if_neg (Int.not_le.mpr c9)]
      rw [he]
      exact ih (w32 (sm + (σ 63 q))) (q + 1)  (by omega) (by omega)
def R_X4_sumInAllz (σ : zG)  : Int := L_X4_sumInAll_4z σ  200 0 0
set_option maxRecDepth 20000 in
theorem does_X4_sumInAllz (σ : zG)  (hm : σ 53 8 ≤ 128)  : zDo SC 2 m_X4_sumInAll [zP 53, .inl 0] σ (zEq (some (.inl (R_X4_sumInAllz σ ))) σ) := by
  refine zDo.intro mk_X4_sumInAll (Nat.le_of_ble_eq_true rfl) ?_
  refine zRx.iconst ⟨by decide, by decide⟩ dX4_sumInAll_0 ?_
  refine zRx.istore_n (ls' := [(0, zP 53), (1, .inl 0), (2, .inl 0)]) rfl rfl (by decide) dX4_sumInAll_1 ?_
  refine zRx.iconst ⟨by decide, by decide⟩ dX4_sumInAll_2 ?_
  refine zRx.istore_n (ls' := [(0, zP 53), (1, .inl 0), (2, .inl 0), (3, .inl 0)]) rfl rfl (by decide) dX4_sumInAll_3 ?_
  have he : R_X4_sumInAllz σ  = L_X4_sumInAll_4z σ  200 0 0 := by rw [R_X4_sumInAllz]
  rw [he]
  exact loop_X4_sumInAll_4z σ  hm  200 0 0  (by omega) (by omega)

def V_X4_owedInAll (σ : zG)  : Int := R_X4_sumInAllz σ
set_option maxRecDepth 20000 in
theorem does_X4_owedInAll (σ : zG)  (hm : σ 53 8 ≤ 128) : zDo SC 3 m_X4_owedInAll [zP 53] σ (zEq (some (.inl (V_X4_owedInAll σ ))) σ) := by
  refine zDo.intro mk_X4_owedInAll (Nat.le_of_ble_eq_true rfl) ?_
  refine zRx.aload_n 0 rfl rfl dX4_owedInAll_0 ?_
  refine zRx.iconst ⟨by decide, by decide⟩ dX4_owedInAll_1 ?_
  refine zRx.cVi (w := .inl (R_X4_sumInAllz σ)) (M := m_X4_sumInAll) (av := [.inl 0]) cv_4_197 mk_X4_sumInAll (by decide) (b := 53) rfl rfl (Nat.le_of_ble_eq_true rfl) dX4_owedInAll_2 (does_X4_sumInAllz σ hm) ?_
  exact zR.iret rfl dX4_owedInAll_5 ⟨rfl, rfl⟩

def L_X4_sumInAll_4zt (σ : zG)  : Nat → Int → Int → Int
  | 0, _, _ => 0
  | n + 1, sm, q => if (σ 67 8) ≤ q then sm else (L_X4_sumInAll_4zt σ  n (w32 (sm + (σ 77 q))) (q + 1))
set_option maxRecDepth 20000 in
theorem loop_X4_sumInAll_4zt (σ : zG)  (hm : σ 67 8 ≤ 128) : ∀ (n : Nat) (sm q : Int) , 0 ≤ q → (σ 67 8 - q).toNat < n → zR SC 2 m_X4_sumInAll 4 [(0, zP 67), (1, .inl 0), (2, .inl sm), (3, .inl q)] [] σ (zEq (some (.inl (L_X4_sumInAll_4zt σ  n sm q))) σ) := by
  intro n
  induction n with
  | zero => intro sm q  h0 hmz; exact absurd hmz (Nat.not_lt_zero _)
  | succ n ih =>
    intro sm q  h0 hmz
    refine zRx.iload_n 3 rfl rfl dX4_sumInAll_4 ?_
    refine zRx.aload_n 0 rfl rfl dX4_sumInAll_5 ?_
    refine zRx.getIv (a := 67) (ji := 8) (v := σ 67 8) rfl fl_4_81 rfl rfl rfl dX4_sumInAll_6 ?_
    refine zRx.icmp_ge (tgt := 113) dX4_sumInAll_9 (by decide) (fun c9 => ?_) (fun c9 => ?_)
    · refine zRx.iload_n 2 rfl rfl dX4_sumInAll_113 ?_
      exact zR.iret rfl dX4_sumInAll_114 (by have he : L_X4_sumInAll_4zt σ  (n + 1) sm q = sm := (by rw [L_X4_sumInAll_4zt, if_pos c9]); rw [he]; exact ⟨rfl, rfl⟩)
    · refine zRx.iload_n 1 rfl rfl dX4_sumInAll_12 ?_
      refine zRx.tableIn (tgt := 44) dX4_sumInAll_13 (by decide) (by decide) rfl (by decide) ?_
      refine zRx.iload_n 2 rfl rfl dX4_sumInAll_44 ?_
      refine zRx.aload_n 0 rfl rfl dX4_sumInAll_45 ?_
      refine zRx.getR (a := 67) (b := 77) fl_4_39 rfl rfl dX4_sumInAll_46 ?_
      refine zRx.iload_n 3 rfl rfl dX4_sumInAll_49 ?_
      refine zRx.ialdv (v := σ 77 q) rfl rfl (by omega) (by omega) dX4_sumInAll_50 ?_
      refine zRx.iaddW dX4_sumInAll_51 ?_
      refine zRx.istore_n (ls' := [(0, zP 67), (1, .inl 0), (2, .inl (w32 (sm + (σ 77 q)))), (3, .inl q)]) rfl rfl (by decide) dX4_sumInAll_52 ?_
      refine zRx.goto (tgt := 107) dX4_sumInAll_53 (by decide) ?_
      refine zRx.iinc (n := 1) (ls' := [(0, zP 67), (1, .inl 0), (2, .inl (w32 (sm + (σ 77 q)))), (3, .inl (q + 1))]) 3 rfl ⟨by omega, by omega⟩ rfl (by decide) dX4_sumInAll_107 ?_
      refine zRx.goto (tgt := 4) dX4_sumInAll_110 (by decide) ?_
      have he : L_X4_sumInAll_4zt σ  (n + 1) sm q = L_X4_sumInAll_4zt σ  n (w32 (sm + (σ 77 q))) (q + 1) := by rw [L_X4_sumInAll_4zt, if_neg (Int.not_le.mpr c9)]
      rw [he]
      exact ih (w32 (sm + (σ 77 q))) (q + 1)  (by omega) (by omega)
def R_X4_sumInAllzt (σ : zG)  : Int := L_X4_sumInAll_4zt σ  200 0 0
set_option maxRecDepth 20000 in
theorem does_X4_sumInAllzt (σ : zG)  (hm : σ 67 8 ≤ 128)  : zDo SC 2 m_X4_sumInAll [zP 67, .inl 0] σ (zEq (some (.inl (R_X4_sumInAllzt σ ))) σ) := by
  refine zDo.intro mk_X4_sumInAll (Nat.le_of_ble_eq_true rfl) ?_
  refine zRx.iconst ⟨by decide, by decide⟩ dX4_sumInAll_0 ?_
  refine zRx.istore_n (ls' := [(0, zP 67), (1, .inl 0), (2, .inl 0)]) rfl rfl (by decide) dX4_sumInAll_1 ?_
  refine zRx.iconst ⟨by decide, by decide⟩ dX4_sumInAll_2 ?_
  refine zRx.istore_n (ls' := [(0, zP 67), (1, .inl 0), (2, .inl 0), (3, .inl 0)]) rfl rfl (by decide) dX4_sumInAll_3 ?_
  have he : R_X4_sumInAllzt σ  = L_X4_sumInAll_4zt σ  200 0 0 := by rw [R_X4_sumInAllzt]
  rw [he]
  exact loop_X4_sumInAll_4zt σ  hm  200 0 0  (by omega) (by omega)

def V_X4_owedInAllt (σ : zG)  : Int := R_X4_sumInAllzt σ
set_option maxRecDepth 20000 in
theorem does_X4_owedInAllt (σ : zG)  (hm : σ 67 8 ≤ 128) : zDo SC 3 m_X4_owedInAll [zP 67] σ (zEq (some (.inl (V_X4_owedInAllt σ ))) σ) := by
  refine zDo.intro mk_X4_owedInAll (Nat.le_of_ble_eq_true rfl) ?_
  refine zRx.aload_n 0 rfl rfl dX4_owedInAll_0 ?_
  refine zRx.iconst ⟨by decide, by decide⟩ dX4_owedInAll_1 ?_
  refine zRx.cVi (w := .inl (R_X4_sumInAllzt σ)) (M := m_X4_sumInAll) (av := [.inl 0]) cv_4_197 mk_X4_sumInAll (by decide) (b := 67) rfl rfl (Nat.le_of_ble_eq_true rfl) dX4_owedInAll_2 (does_X4_sumInAllzt σ hm) ?_
  exact zR.iret rfl dX4_owedInAll_5 ⟨rfl, rfl⟩


def L_X4_sumFor_29 (σ : zG) (who what : Int) : Nat → Int → Int → Int
  | 0, _, _ => 0
  | n + 1, sm, q => if (σ 53 8) ≤ q then sm else (if (σ 59 q) = who then (if what = 0 then (L_X4_sumFor_29 σ who what n (w32 (sm + (σ 63 q))) (q + 1)) else (if what = 1 then (L_X4_sumFor_29 σ who what n (sm + 1) (q + 1)) else (if what = 2 then (if (σ 63 q) = 0 then (L_X4_sumFor_29 σ who what n (w32 (sm + 1)) (q + 1)) else (L_X4_sumFor_29 σ who what n (w32 (sm + 0)) (q + 1))) else (L_X4_sumFor_29 σ who what n sm (q + 1))))) else (L_X4_sumFor_29 σ who what n sm (q + 1)))
set_option maxRecDepth 20000 in
theorem loop_X4_sumFor_29 (σ : zG) (who what : Int) (hm : σ 53 8 ≤ 128) (hw : 0 ≤ who ∧ who < 8) : ∀ (n : Nat) (sm q : Int) , 0 ≤ q → (what = 1 → 0 ≤ sm ∧ sm ≤ q) → (σ 53 8 - q).toNat < n → zR SC 0 m_X4_sumFor 29 [(0, zP 53), (1, .inl who), (2, .inl what), (3, .inl sm), (4, .inl q)] [] σ (zEq (some (.inl (L_X4_sumFor_29 σ who what n sm q))) σ) := by
  intro n
  induction n with
  | zero => intro sm q  h0 h1 hmz; exact absurd hmz (Nat.not_lt_zero _)
  | succ n ih =>
    intro sm q  h0 h1 hmz
    refine zRx.iload 4 rfl dX4_sumFor_29 ?_
    refine zRx.aload_n 0 rfl rfl dX4_sumFor_31 ?_
    refine zRx.getIv (a := 53) (ji := 8) (v := σ 53 8) rfl fl_4_81 rfl rfl rfl dX4_sumFor_32 ?_
    refine zRx.icmp_ge (tgt := 122) dX4_sumFor_35 (by decide) (fun c35 => ?_) (fun c35 => ?_)
    · refine zRx.iload_n 3 rfl rfl dX4_sumFor_122 ?_
      exact zR.iret rfl dX4_sumFor_123 (by have he : L_X4_sumFor_29 σ who what (n + 1) sm q = sm := (by rw [L_X4_sumFor_29, if_pos c35]); rw [he]; exact ⟨rfl, rfl⟩)
    · refine zRx.aload_n 0 rfl rfl dX4_sumFor_38 ?_
      refine zRx.getR (a := 53) (b := 59) fl_4_27 rfl rfl dX4_sumFor_39 ?_
      refine zRx.iload 4 rfl dX4_sumFor_42 ?_
      refine zRx.ialdv (v := σ 59 q) rfl rfl (by omega) (by omega) dX4_sumFor_44 ?_
      refine zRx.iload_n 1 rfl rfl dX4_sumFor_45 ?_
      refine zRx.icmp_ne (tgt := 116) dX4_sumFor_46 (by decide) (fun c46 => ?_) (fun c46 => ?_)
      · refine zRx.iinc (n := 1) (ls' := [(0, zP 53), (1, .inl who), (2, .inl what), (3, .inl sm), (4, .inl (q + 1))]) 4 rfl ⟨by omega, by omega⟩ rfl (by decide) dX4_sumFor_116 ?_
        refine zRx.goto (tgt := 29) dX4_sumFor_119 (by decide) ?_
        have he : L_X4_sumFor_29 σ who what (n + 1) sm q = L_X4_sumFor_29 σ who what n sm (q + 1) := by rw [L_X4_sumFor_29, if_neg (Int.not_le.mpr c35), if_neg c46]
        rw [he]
        exact ih sm (q + 1)  (by omega) (by omega) (by omega)
      · refine zRx.iload_n 2 rfl rfl dX4_sumFor_49 ?_
        by_cases c50_0 : what = 0
        · refine zRx.topI (b := 0) c50_0 ?_
          refine zRx.tableIn (tgt := 76) dX4_sumFor_50 (by decide) (by decide) rfl (by decide) ?_
          refine zRx.iload_n 3 rfl rfl dX4_sumFor_76 ?_
          refine zRx.aload_n 0 rfl rfl dX4_sumFor_77 ?_
          refine zRx.getR (a := 53) (b := 63) fl_4_39 rfl rfl dX4_sumFor_78 ?_
          refine zRx.iload 4 rfl dX4_sumFor_81 ?_
          refine zRx.ialdv (v := σ 63 q) rfl rfl (by omega) (by omega) dX4_sumFor_83 ?_
          refine zRx.iaddW dX4_sumFor_84 ?_
          refine zRx.istore_n (ls' := [(0, zP 53), (1, .inl who), (2, .inl what), (3, .inl (w32 (sm + (σ 63 q)))), (4, .inl q)]) rfl rfl (by decide) dX4_sumFor_85 ?_
          refine zRx.goto (tgt := 116) dX4_sumFor_86 (by decide) ?_
          refine zRx.iinc (n := 1) (ls' := [(0, zP 53), (1, .inl who), (2, .inl what), (3, .inl (w32 (sm + (σ 63 q)))), (4, .inl (q + 1))]) 4 rfl ⟨by omega, by omega⟩ rfl (by decide) dX4_sumFor_116 ?_
          refine zRx.goto (tgt := 29) dX4_sumFor_119 (by decide) ?_
          have he : L_X4_sumFor_29 σ who what (n + 1) sm q = L_X4_sumFor_29 σ who what n (w32 (sm + (σ 63 q))) (q + 1) := by rw [L_X4_sumFor_29, if_neg (Int.not_le.mpr c35), if_pos c46, if_pos c50_0]
          rw [he]
          exact ih (w32 (sm + (σ 63 q))) (q + 1)  (by omega) (by omega) (by omega)
        by_cases c50_1 : what = 1
        · refine zRx.topI (b := 1) c50_1 ?_
          refine zRx.tableIn (tgt := 89) dX4_sumFor_50 (by decide) (by decide) rfl (by decide) ?_
          refine zRx.iinc (n := 1) (ls' := [(0, zP 53), (1, .inl who), (2, .inl what), (3, .inl (sm + 1)), (4, .inl q)]) 3 rfl ⟨by omega, by omega⟩ rfl (by decide) dX4_sumFor_89 ?_
          refine zRx.goto (tgt := 116) dX4_sumFor_92 (by decide) ?_
          refine zRx.iinc (n := 1) (ls' := [(0, zP 53), (1, .inl who), (2, .inl what), (3, .inl (sm + 1)), (4, .inl (q + 1))]) 4 rfl ⟨by omega, by omega⟩ rfl (by decide) dX4_sumFor_116 ?_
          refine zRx.goto (tgt := 29) dX4_sumFor_119 (by decide) ?_
          have he : L_X4_sumFor_29 σ who what (n + 1) sm q = L_X4_sumFor_29 σ who what n (sm + 1) (q + 1) := by rw [L_X4_sumFor_29, if_neg (Int.not_le.mpr c35), if_pos c46, if_neg c50_0, if_pos c50_1]
          rw [he]
          exact ih (sm + 1) (q + 1)  (by omega) (by omega) (by omega)
        by_cases c50_2 : what = 2
        · refine zRx.topI (b := 2) c50_2 ?_
          refine zRx.tableIn (tgt := 95) dX4_sumFor_50 (by decide) (by decide) rfl (by decide) ?_
          refine zRx.iload_n 3 rfl rfl dX4_sumFor_95 ?_
          refine zRx.aload_n 0 rfl rfl dX4_sumFor_96 ?_
          refine zRx.getR (a := 53) (b := 63) fl_4_39 rfl rfl dX4_sumFor_97 ?_
          refine zRx.iload 4 rfl dX4_sumFor_100 ?_
          refine zRx.ialdv (v := σ 63 q) rfl rfl (by omega) (by omega) dX4_sumFor_102 ?_
          refine zRx.if_ne (tgt := 110) dX4_sumFor_103 (by decide) (fun c103 => ?_) (fun c103 => ?_)
          · refine zRx.iconst ⟨by decide, by decide⟩ dX4_sumFor_110 ?_
            refine zRx.iaddW dX4_sumFor_111 ?_
            refine zRx.istore_n (ls' := [(0, zP 53), (1, .inl who), (2, .inl what), (3, .inl (w32 (sm + 0))), (4, .inl q)]) rfl rfl (by decide) dX4_sumFor_112 ?_
            refine zRx.goto (tgt := 116) dX4_sumFor_113 (by decide) ?_
            refine zRx.iinc (n := 1) (ls' := [(0, zP 53), (1, .inl who), (2, .inl what), (3, .inl (w32 (sm + 0))), (4, .inl (q + 1))]) 4 rfl ⟨by omega, by omega⟩ rfl (by decide) dX4_sumFor_116 ?_
            refine zRx.goto (tgt := 29) dX4_sumFor_119 (by decide) ?_
            have he : L_X4_sumFor_29 σ who what (n + 1) sm q = L_X4_sumFor_29 σ who what n (w32 (sm + 0)) (q + 1) := by rw [L_X4_sumFor_29, if_neg (Int.not_le.mpr c35), if_pos c46, if_neg c50_0, if_neg c50_1, if_pos c50_2, if_neg c103]
            rw [he]
            exact ih (w32 (sm + 0)) (q + 1)  (by omega) (by omega) (by omega)
          · refine zRx.iconst ⟨by decide, by decide⟩ dX4_sumFor_106 ?_
            refine zRx.goto (tgt := 111) dX4_sumFor_107 (by decide) ?_
            refine zRx.iaddW dX4_sumFor_111 ?_
            refine zRx.istore_n (ls' := [(0, zP 53), (1, .inl who), (2, .inl what), (3, .inl (w32 (sm + 1))), (4, .inl q)]) rfl rfl (by decide) dX4_sumFor_112 ?_
            refine zRx.goto (tgt := 116) dX4_sumFor_113 (by decide) ?_
            refine zRx.iinc (n := 1) (ls' := [(0, zP 53), (1, .inl who), (2, .inl what), (3, .inl (w32 (sm + 1))), (4, .inl (q + 1))]) 4 rfl ⟨by omega, by omega⟩ rfl (by decide) dX4_sumFor_116 ?_
            refine zRx.goto (tgt := 29) dX4_sumFor_119 (by decide) ?_
            have he : L_X4_sumFor_29 σ who what (n + 1) sm q = L_X4_sumFor_29 σ who what n (w32 (sm + 1)) (q + 1) := by rw [L_X4_sumFor_29, if_neg (Int.not_le.mpr c35), if_pos c46, if_neg c50_0, if_neg c50_1, if_pos c50_2, if_pos c103]
            rw [he]
            exact ih (w32 (sm + 1)) (q + 1)  (by omega) (by omega) (by omega)
        refine zRx.tableOut (tgt := 116) dX4_sumFor_50 (by omega) (by decide) ?_
        refine zRx.iinc (n := 1) (ls' := [(0, zP 53), (1, .inl who), (2, .inl what), (3, .inl sm), (4, .inl (q + 1))]) 4 rfl ⟨by omega, by omega⟩ rfl (by decide) dX4_sumFor_116 ?_
        refine zRx.goto (tgt := 29) dX4_sumFor_119 (by decide) ?_
        have he : L_X4_sumFor_29 σ who what (n + 1) sm q = L_X4_sumFor_29 σ who what n sm (q + 1) := by rw [L_X4_sumFor_29, if_neg (Int.not_le.mpr c35), if_pos c46, if_neg c50_0, if_neg c50_1, if_neg c50_2]
        rw [he]
        exact ih sm (q + 1)  (by omega) (by omega) (by omega)
def R_X4_sumFor (σ : zG) (who what : Int) : Int := if what = 3 then (σ 55 who) else (if what = 4 then (σ 56 who) else (L_X4_sumFor_29 σ who what 200 0 0))
set_option maxRecDepth 20000 in
theorem does_X4_sumFor (σ : zG) (who what : Int) (hm : σ 53 8 ≤ 128) (hw : 0 ≤ who ∧ who < 8)  : zDo SC 0 m_X4_sumFor [zP 53, .inl who, .inl what] σ (zEq (some (.inl (R_X4_sumFor σ who what))) σ) := by
  refine zDo.intro mk_X4_sumFor (Nat.le_of_ble_eq_true rfl) ?_
  refine zRx.iload_n 2 rfl rfl dX4_sumFor_0 ?_
  refine zRx.iconst ⟨by decide, by decide⟩ dX4_sumFor_1 ?_
  refine zRx.icmp_ne (tgt := 12) dX4_sumFor_2 (by decide) (fun c2 => ?_) (fun c2 => ?_)
  · refine zRx.iload_n 2 rfl rfl dX4_sumFor_12 ?_
    refine zRx.iconst ⟨by decide, by decide⟩ dX4_sumFor_13 ?_
    refine zRx.icmp_ne (tgt := 24) dX4_sumFor_14 (by decide) (fun c14 => ?_) (fun c14 => ?_)
    · refine zRx.iconst ⟨by decide, by decide⟩ dX4_sumFor_24 ?_
      refine zRx.istore_n (ls' := [(0, zP 53), (1, .inl who), (2, .inl what), (3, .inl 0)]) rfl rfl (by decide) dX4_sumFor_25 ?_
      refine zRx.iconst ⟨by decide, by decide⟩ dX4_sumFor_26 ?_
      refine zRx.istore (ls' := [(0, zP 53), (1, .inl who), (2, .inl what), (3, .inl 0), (4, .inl 0)]) rfl (by decide) dX4_sumFor_27 ?_
      have he : R_X4_sumFor σ who what = L_X4_sumFor_29 σ who what 200 0 0 := by rw [R_X4_sumFor, if_neg c2, if_neg c14]
      rw [he]
      exact loop_X4_sumFor_29 σ who what hm hw  200 0 0  (by omega) (by omega) (by omega)
    · refine zRx.aload_n 0 rfl rfl dX4_sumFor_17 ?_
      refine zRx.getR (a := 53) (b := 56) fl_4_18 rfl rfl dX4_sumFor_18 ?_
      refine zRx.iload_n 1 rfl rfl dX4_sumFor_21 ?_
      refine zRx.ialdv (v := σ 56 who) rfl rfl (by omega) (by omega) dX4_sumFor_22 ?_
      exact zR.iret rfl dX4_sumFor_23 (by have he : R_X4_sumFor σ who what = σ 56 who := (by rw [R_X4_sumFor, if_neg c2, if_pos c14]); rw [he]; exact ⟨rfl, rfl⟩)
  · refine zRx.aload_n 0 rfl rfl dX4_sumFor_5 ?_
    refine zRx.getR (a := 53) (b := 55) fl_4_15 rfl rfl dX4_sumFor_6 ?_
    refine zRx.iload_n 1 rfl rfl dX4_sumFor_9 ?_
    refine zRx.ialdv (v := σ 55 who) rfl rfl (by omega) (by omega) dX4_sumFor_10 ?_
    exact zR.iret rfl dX4_sumFor_11 (by have he : R_X4_sumFor σ who what = σ 55 who := (by rw [R_X4_sumFor, if_pos c2]); rw [he]; exact ⟨rfl, rfl⟩)

def L_X4_hasLate_2 (σ : zG) (who : Int) : Nat → Int → Int
  | 0, _ => 0
  | n + 1, q => if (σ 53 8) ≤ q then 0 else (if (σ 59 q) = who then (if (V_X4_isLate σ q) = 0 then (L_X4_hasLate_2 σ who n (q + 1)) else 1) else (L_X4_hasLate_2 σ who n (q + 1)))
set_option maxRecDepth 20000 in
theorem loop_X4_hasLate_2 (σ : zG) (who : Int) (hm : σ 53 8 ≤ 128) (hL : σ 27 0 ≤ 60) (hD : WD σ) : ∀ (n : Nat) (q : Int) , 0 ≤ q → (σ 53 8 - q).toNat < n → zR SC 2 m_X4_hasLate 2 [(0, zP 53), (1, .inl who), (2, .inl q)] [] σ (zEq (some (.inl (L_X4_hasLate_2 σ who n q))) σ) := by
  intro n
  induction n with
  | zero => intro q  h0 hmz; exact absurd hmz (Nat.not_lt_zero _)
  | succ n ih =>
    intro q  h0 hmz
    refine zRx.iload_n 2 rfl rfl dX4_hasLate_2 ?_
    refine zRx.aload_n 0 rfl rfl dX4_hasLate_3 ?_
    refine zRx.getIv (a := 53) (ji := 8) (v := σ 53 8) rfl fl_4_81 rfl rfl rfl dX4_hasLate_4 ?_
    refine zRx.icmp_ge (tgt := 36) dX4_hasLate_7 (by decide) (fun c7 => ?_) (fun c7 => ?_)
    · refine zRx.iconst ⟨by decide, by decide⟩ dX4_hasLate_36 ?_
      exact zR.zret rfl ⟨by decide, by decide⟩ dX4_hasLate_37 (by have he : L_X4_hasLate_2 σ who (n + 1) q = 0 := (by rw [L_X4_hasLate_2, if_pos c7]); rw [he]; exact ⟨rfl, rfl⟩)
    · refine zRx.aload_n 0 rfl rfl dX4_hasLate_10 ?_
      refine zRx.getR (a := 53) (b := 59) fl_4_27 rfl rfl dX4_hasLate_11 ?_
      refine zRx.iload_n 2 rfl rfl dX4_hasLate_14 ?_
      refine zRx.ialdv (v := σ 59 q) rfl rfl (by omega) (by omega) dX4_hasLate_15 ?_
      refine zRx.iload_n 1 rfl rfl dX4_hasLate_16 ?_
      refine zRx.icmp_ne (tgt := 30) dX4_hasLate_17 (by decide) (fun c17 => ?_) (fun c17 => ?_)
      · refine zRx.iinc (n := 1) (ls' := [(0, zP 53), (1, .inl who), (2, .inl (q + 1))]) 2 rfl ⟨by omega, by omega⟩ rfl (by decide) dX4_hasLate_30 ?_
        refine zRx.goto (tgt := 2) dX4_hasLate_33 (by decide) ?_
        have he : L_X4_hasLate_2 σ who (n + 1) q = L_X4_hasLate_2 σ who n (q + 1) := by rw [L_X4_hasLate_2, if_neg (Int.not_le.mpr c7), if_neg c17]
        rw [he]
        exact ih (q + 1)  (by omega) (by omega)
      · refine zRx.aload_n 0 rfl rfl dX4_hasLate_20 ?_
        refine zRx.iload_n 2 rfl rfl dX4_hasLate_21 ?_
        refine zRx.cVi (w := .inl (V_X4_isLate σ q)) (M := m_X4_isLate) (av := [.inl q]) cv_4_194 mk_X4_isLate (by decide) (b := 53) rfl rfl (Nat.le_of_ble_eq_true rfl) dX4_hasLate_22 (does_X4_isLate σ q (by omega) (hD _ (by omega) (by omega)) hL) ?_
        refine zRx.if_eq (tgt := 30) dX4_hasLate_25 (by decide) (fun c25 => ?_) (fun c25 => ?_)
        · refine zRx.iinc (n := 1) (ls' := [(0, zP 53), (1, .inl who), (2, .inl (q + 1))]) 2 rfl ⟨by omega, by omega⟩ rfl (by decide) dX4_hasLate_30 ?_
          refine zRx.goto (tgt := 2) dX4_hasLate_33 (by decide) ?_
          have he : L_X4_hasLate_2 σ who (n + 1) q = L_X4_hasLate_2 σ who n (q + 1) := by rw [L_X4_hasLate_2, if_neg (Int.not_le.mpr c7), if_pos c17, if_pos c25]
          rw [he]
          exact ih (q + 1)  (by omega) (by omega)
        · refine zRx.iconst ⟨by decide, by decide⟩ dX4_hasLate_28 ?_
          exact zR.zret rfl ⟨by decide, by decide⟩ dX4_hasLate_29 (by have he : L_X4_hasLate_2 σ who (n + 1) q = 1 := (by rw [L_X4_hasLate_2, if_neg (Int.not_le.mpr c7), if_pos c17, if_neg c25]); rw [he]; exact ⟨rfl, rfl⟩)
def R_X4_hasLate (σ : zG) (who : Int) : Int := L_X4_hasLate_2 σ who 200 0
set_option maxRecDepth 20000 in
theorem does_X4_hasLate (σ : zG) (who : Int) (hm : σ 53 8 ≤ 128) (hL : σ 27 0 ≤ 60) (hD : WD σ)  : zDo SC 2 m_X4_hasLate [zP 53, .inl who] σ (zEq (some (.inl (R_X4_hasLate σ who))) σ) := by
  refine zDo.intro mk_X4_hasLate (Nat.le_of_ble_eq_true rfl) ?_
  refine zRx.iconst ⟨by decide, by decide⟩ dX4_hasLate_0 ?_
  refine zRx.istore_n (ls' := [(0, zP 53), (1, .inl who), (2, .inl 0)]) rfl rfl (by decide) dX4_hasLate_1 ?_
  have he : R_X4_hasLate σ who = L_X4_hasLate_2 σ who 200 0 := by rw [R_X4_hasLate]
  rw [he]
  exact loop_X4_hasLate_2 σ who hm hL hD  200 0  (by omega) (by omega)

def L_X4_paidByTelling_5 (σ : zG) (f k : Int) : Nat → Int → Int → Int
  | 0, _, _ => 0
  | n + 1, sm, q => if (σ 53 8) ≤ q then (if k = (-1) then sm else (-1)) else (if 0 ≤ (σ 65 q) ∧ (σ 65 q) < σ 27 0 then (if (σ 31 (σ 65 q)) = f then (if sm = k then q else (L_X4_paidByTelling_5 σ f k n (sm + 1) (q + 1))) else (L_X4_paidByTelling_5 σ f k n sm (q + 1))) else (L_X4_paidByTelling_5 σ f k n sm (q + 1)))
set_option maxRecDepth 20000 in
theorem loop_X4_paidByTelling_5 (σ : zG) (f k : Int) (hm : σ 53 8 ≤ 128) (hL : σ 27 0 ≤ 60) : ∀ (n : Nat) (sm q : Int) , 0 ≤ q → 0 ≤ sm ∧ sm ≤ q → (σ 53 8 - q).toNat < n → zR SC 1 m_X4_paidByTelling 5 [(0, zP 53), (1, .inl f), (2, .inl k), (3, .inl sm), (4, .inl q)] [] σ (zEq (some (.inl (L_X4_paidByTelling_5 σ f k n sm q))) σ) := by
  intro n
  induction n with
  | zero => intro sm q  h0 h1 hmz; exact absurd hmz (Nat.not_lt_zero _)
  | succ n ih =>
    intro sm q  h0 h1 hmz
    refine zRx.iload 4 rfl dX4_paidByTelling_5 ?_
    refine zRx.aload_n 0 rfl rfl dX4_paidByTelling_7 ?_
    refine zRx.getIv (a := 53) (ji := 8) (v := σ 53 8) rfl fl_4_81 rfl rfl rfl dX4_paidByTelling_8 ?_
    refine zRx.icmp_ge (tgt := 67) dX4_paidByTelling_11 (by decide) (fun c11 => ?_) (fun c11 => ?_)
    · refine zRx.iload_n 2 rfl rfl dX4_paidByTelling_67 ?_
      refine zRx.iconst ⟨by decide, by decide⟩ dX4_paidByTelling_68 ?_
      refine zRx.icmp_ne (tgt := 76) dX4_paidByTelling_69 (by decide) (fun c69 => ?_) (fun c69 => ?_)
      · refine zRx.iconst ⟨by decide, by decide⟩ dX4_paidByTelling_76 ?_
        exact zR.iret rfl dX4_paidByTelling_77 (by have he : L_X4_paidByTelling_5 σ f k (n + 1) sm q = (-1) := (by rw [L_X4_paidByTelling_5, if_pos c11, if_neg c69]); rw [he]; exact ⟨rfl, rfl⟩)
      · refine zRx.iload_n 3 rfl rfl dX4_paidByTelling_72 ?_
        refine zRx.goto (tgt := 77) dX4_paidByTelling_73 (by decide) ?_
        exact zR.iret rfl dX4_paidByTelling_77 (by have he : L_X4_paidByTelling_5 σ f k (n + 1) sm q = sm := (by rw [L_X4_paidByTelling_5, if_pos c11, if_pos c69]); rw [he]; exact ⟨rfl, rfl⟩)
    · refine zRx.aload_n 0 rfl rfl dX4_paidByTelling_14 ?_
      refine zRx.getR (a := 53) (b := 27) fl_4_55 rfl rfl dX4_paidByTelling_15 ?_
      refine zRx.aload_n 0 rfl rfl dX4_paidByTelling_18 ?_
      refine zRx.getR (a := 53) (b := 65) fl_4_45 rfl rfl dX4_paidByTelling_19 ?_
      refine zRx.iload 4 rfl dX4_paidByTelling_22 ?_
      refine zRx.ialdv (v := σ 65 q) rfl rfl (by omega) (by omega) dX4_paidByTelling_24 ?_
      refine zRx.cVi (w := .inl (b2 (0 ≤ (σ 65 q) ∧ (σ 65 q) < σ 27 0))) (M := m_X0_hasLine) (av := [.inl (σ 65 q)]) cv_4_184 mk_X0_hasLine (by decide) (b := 27) rfl rfl (Nat.le_of_ble_eq_true rfl) dX4_paidByTelling_25 (does_X0_hasLine σ (σ 65 q)) ?_
      refine zRx.if_eqB (tgt := 61) dX4_paidByTelling_28 (by decide) (fun c28 => ?_) (fun c28 => ?_)
      · refine zRx.iinc (n := 1) (ls' := [(0, zP 53), (1, .inl f), (2, .inl k), (3, .inl sm), (4, .inl (q + 1))]) 4 rfl ⟨by omega, by omega⟩ rfl (by decide) dX4_paidByTelling_61 ?_
        refine zRx.goto (tgt := 5) dX4_paidByTelling_64 (by decide) ?_
        have he : L_X4_paidByTelling_5 σ f k (n + 1) sm q = L_X4_paidByTelling_5 σ f k n sm (q + 1) := by rw [L_X4_paidByTelling_5, if_neg (Int.not_le.mpr c11), if_neg c28]
        rw [he]
        exact ih sm (q + 1)  (by omega) (by omega) (by omega)
      · refine zRx.aload_n 0 rfl rfl dX4_paidByTelling_31 ?_
        refine zRx.getR (a := 53) (b := 27) fl_4_55 rfl rfl dX4_paidByTelling_32 ?_
        refine zRx.getR (a := 27) (b := 31) fl_4_102 rfl rfl dX4_paidByTelling_35 ?_
        refine zRx.aload_n 0 rfl rfl dX4_paidByTelling_38 ?_
        refine zRx.getR (a := 53) (b := 65) fl_4_45 rfl rfl dX4_paidByTelling_39 ?_
        refine zRx.iload 4 rfl dX4_paidByTelling_42 ?_
        refine zRx.ialdv (v := σ 65 q) rfl rfl (by omega) (by omega) dX4_paidByTelling_44 ?_
        refine zRx.ialdv (v := σ 31 (σ 65 q)) rfl rfl (by omega) (by omega) dX4_paidByTelling_45 ?_
        refine zRx.iload_n 1 rfl rfl dX4_paidByTelling_46 ?_
        refine zRx.icmp_ne (tgt := 61) dX4_paidByTelling_47 (by decide) (fun c47 => ?_) (fun c47 => ?_)
        · refine zRx.iinc (n := 1) (ls' := [(0, zP 53), (1, .inl f), (2, .inl k), (3, .inl sm), (4, .inl (q + 1))]) 4 rfl ⟨by omega, by omega⟩ rfl (by decide) dX4_paidByTelling_61 ?_
          refine zRx.goto (tgt := 5) dX4_paidByTelling_64 (by decide) ?_
          have he : L_X4_paidByTelling_5 σ f k (n + 1) sm q = L_X4_paidByTelling_5 σ f k n sm (q + 1) := by rw [L_X4_paidByTelling_5, if_neg (Int.not_le.mpr c11), if_pos c28, if_neg c47]
          rw [he]
          exact ih sm (q + 1)  (by omega) (by omega) (by omega)
        · refine zRx.iload_n 3 rfl rfl dX4_paidByTelling_50 ?_
          refine zRx.iload_n 2 rfl rfl dX4_paidByTelling_51 ?_
          refine zRx.icmp_ne (tgt := 58) dX4_paidByTelling_52 (by decide) (fun c52 => ?_) (fun c52 => ?_)
          · refine zRx.iinc (n := 1) (ls' := [(0, zP 53), (1, .inl f), (2, .inl k), (3, .inl (sm + 1)), (4, .inl q)]) 3 rfl ⟨by omega, by omega⟩ rfl (by decide) dX4_paidByTelling_58 ?_
            refine zRx.iinc (n := 1) (ls' := [(0, zP 53), (1, .inl f), (2, .inl k), (3, .inl (sm + 1)), (4, .inl (q + 1))]) 4 rfl ⟨by omega, by omega⟩ rfl (by decide) dX4_paidByTelling_61 ?_
            refine zRx.goto (tgt := 5) dX4_paidByTelling_64 (by decide) ?_
            have he : L_X4_paidByTelling_5 σ f k (n + 1) sm q = L_X4_paidByTelling_5 σ f k n (sm + 1) (q + 1) := by rw [L_X4_paidByTelling_5, if_neg (Int.not_le.mpr c11), if_pos c28, if_pos c47, if_neg c52]
            rw [he]
            exact ih (sm + 1) (q + 1)  (by omega) (by omega) (by omega)
          · refine zRx.iload 4 rfl dX4_paidByTelling_55 ?_
            exact zR.iret rfl dX4_paidByTelling_57 (by have he : L_X4_paidByTelling_5 σ f k (n + 1) sm q = q := (by rw [L_X4_paidByTelling_5, if_neg (Int.not_le.mpr c11), if_pos c28, if_pos c47, if_pos c52]); rw [he]; exact ⟨rfl, rfl⟩)
def R_X4_paidByTelling (σ : zG) (f k : Int) : Int := L_X4_paidByTelling_5 σ f k 200 0 0
set_option maxRecDepth 20000 in
theorem does_X4_paidByTelling (σ : zG) (f k : Int) (hm : σ 53 8 ≤ 128) (hL : σ 27 0 ≤ 60)  : zDo SC 1 m_X4_paidByTelling [zP 53, .inl f, .inl k] σ (zEq (some (.inl (R_X4_paidByTelling σ f k))) σ) := by
  refine zDo.intro mk_X4_paidByTelling (Nat.le_of_ble_eq_true rfl) ?_
  refine zRx.iconst ⟨by decide, by decide⟩ dX4_paidByTelling_0 ?_
  refine zRx.istore_n (ls' := [(0, zP 53), (1, .inl f), (2, .inl k), (3, .inl 0)]) rfl rfl (by decide) dX4_paidByTelling_1 ?_
  refine zRx.iconst ⟨by decide, by decide⟩ dX4_paidByTelling_2 ?_
  refine zRx.istore (ls' := [(0, zP 53), (1, .inl f), (2, .inl k), (3, .inl 0), (4, .inl 0)]) rfl (by decide) dX4_paidByTelling_3 ?_
  have he : R_X4_paidByTelling σ f k = L_X4_paidByTelling_5 σ f k 200 0 0 := by rw [R_X4_paidByTelling]
  rw [he]
  exact loop_X4_paidByTelling_5 σ f k hm hL  200 0 0  (by omega) (by omega) (by omega)

def L_X4_firstOpenOf_2 (σ : zG) (who : Int) : Nat → Int → Int
  | 0, _ => 0
  | n + 1, q => if (σ 53 8) ≤ q then (-1) else (if (σ 59 q) = who then (if (σ 63 q) ≤ 0 then (L_X4_firstOpenOf_2 σ who n (q + 1)) else q) else (L_X4_firstOpenOf_2 σ who n (q + 1)))
set_option maxRecDepth 20000 in
theorem loop_X4_firstOpenOf_2 (σ : zG) (who : Int) (hm : σ 53 8 ≤ 128) : ∀ (n : Nat) (q : Int) , 0 ≤ q → (σ 53 8 - q).toNat < n → zR SC 0 m_X4_firstOpenOf 2 [(0, zP 53), (1, .inl who), (2, .inl q)] [] σ (zEq (some (.inl (L_X4_firstOpenOf_2 σ who n q))) σ) := by
  intro n
  induction n with
  | zero => intro q  h0 hmz; exact absurd hmz (Nat.not_lt_zero _)
  | succ n ih =>
    intro q  h0 hmz
    refine zRx.iload_n 2 rfl rfl dX4_firstOpenOf_2 ?_
    refine zRx.aload_n 0 rfl rfl dX4_firstOpenOf_3 ?_
    refine zRx.getIv (a := 53) (ji := 8) (v := σ 53 8) rfl fl_4_81 rfl rfl rfl dX4_firstOpenOf_4 ?_
    refine zRx.icmp_ge (tgt := 37) dX4_firstOpenOf_7 (by decide) (fun c7 => ?_) (fun c7 => ?_)
    · refine zRx.iconst ⟨by decide, by decide⟩ dX4_firstOpenOf_37 ?_
      exact zR.iret rfl dX4_firstOpenOf_38 (by have he : L_X4_firstOpenOf_2 σ who (n + 1) q = (-1) := (by rw [L_X4_firstOpenOf_2, if_pos c7]); rw [he]; exact ⟨rfl, rfl⟩)
    · refine zRx.aload_n 0 rfl rfl dX4_firstOpenOf_10 ?_
      refine zRx.getR (a := 53) (b := 59) fl_4_27 rfl rfl dX4_firstOpenOf_11 ?_
      refine zRx.iload_n 2 rfl rfl dX4_firstOpenOf_14 ?_
      refine zRx.ialdv (v := σ 59 q) rfl rfl (by omega) (by omega) dX4_firstOpenOf_15 ?_
      refine zRx.iload_n 1 rfl rfl dX4_firstOpenOf_16 ?_
      refine zRx.icmp_ne (tgt := 31) dX4_firstOpenOf_17 (by decide) (fun c17 => ?_) (fun c17 => ?_)
      · refine zRx.iinc (n := 1) (ls' := [(0, zP 53), (1, .inl who), (2, .inl (q + 1))]) 2 rfl ⟨by omega, by omega⟩ rfl (by decide) dX4_firstOpenOf_31 ?_
        refine zRx.goto (tgt := 2) dX4_firstOpenOf_34 (by decide) ?_
        have he : L_X4_firstOpenOf_2 σ who (n + 1) q = L_X4_firstOpenOf_2 σ who n (q + 1) := by rw [L_X4_firstOpenOf_2, if_neg (Int.not_le.mpr c7), if_neg c17]
        rw [he]
        exact ih (q + 1)  (by omega) (by omega)
      · refine zRx.aload_n 0 rfl rfl dX4_firstOpenOf_20 ?_
        refine zRx.getR (a := 53) (b := 63) fl_4_39 rfl rfl dX4_firstOpenOf_21 ?_
        refine zRx.iload_n 2 rfl rfl dX4_firstOpenOf_24 ?_
        refine zRx.ialdv (v := σ 63 q) rfl rfl (by omega) (by omega) dX4_firstOpenOf_25 ?_
        refine zRx.if_le (tgt := 31) dX4_firstOpenOf_26 (by decide) (fun c26 => ?_) (fun c26 => ?_)
        · refine zRx.iinc (n := 1) (ls' := [(0, zP 53), (1, .inl who), (2, .inl (q + 1))]) 2 rfl ⟨by omega, by omega⟩ rfl (by decide) dX4_firstOpenOf_31 ?_
          refine zRx.goto (tgt := 2) dX4_firstOpenOf_34 (by decide) ?_
          have he : L_X4_firstOpenOf_2 σ who (n + 1) q = L_X4_firstOpenOf_2 σ who n (q + 1) := by rw [L_X4_firstOpenOf_2, if_neg (Int.not_le.mpr c7), if_pos c17, if_pos c26]
          rw [he]
          exact ih (q + 1)  (by omega) (by omega)
        · refine zRx.iload_n 2 rfl rfl dX4_firstOpenOf_29 ?_
          exact zR.iret rfl dX4_firstOpenOf_30 (by have he : L_X4_firstOpenOf_2 σ who (n + 1) q = q := (by rw [L_X4_firstOpenOf_2, if_neg (Int.not_le.mpr c7), if_pos c17, if_neg (Int.not_le.mpr c26)]); rw [he]; exact ⟨rfl, rfl⟩)
def R_X4_firstOpenOf (σ : zG) (who : Int) : Int := L_X4_firstOpenOf_2 σ who 200 0
set_option maxRecDepth 20000 in
theorem does_X4_firstOpenOf (σ : zG) (who : Int) (hm : σ 53 8 ≤ 128)  : zDo SC 0 m_X4_firstOpenOf [zP 53, .inl who] σ (zEq (some (.inl (R_X4_firstOpenOf σ who))) σ) := by
  refine zDo.intro mk_X4_firstOpenOf (Nat.le_of_ble_eq_true rfl) ?_
  refine zRx.iconst ⟨by decide, by decide⟩ dX4_firstOpenOf_0 ?_
  refine zRx.istore_n (ls' := [(0, zP 53), (1, .inl who), (2, .inl 0)]) rfl rfl (by decide) dX4_firstOpenOf_1 ?_
  have he : R_X4_firstOpenOf σ who = L_X4_firstOpenOf_2 σ who 200 0 := by rw [R_X4_firstOpenOf]
  rw [he]
  exact loop_X4_firstOpenOf_2 σ who hm  200 0  (by omega) (by omega)

def L_X4_hurtInAll_4 (σ : zG)  : Nat → Int → Int → Int
  | 0, _, _ => 0
  | n + 1, sm, q => if (σ 5 0) ≤ q then sm else (L_X4_hurtInAll_4 σ  n (w32 (sm + (σ 55 q))) (q + 1))
set_option maxRecDepth 20000 in
theorem loop_X4_hurtInAll_4 (σ : zG)  (hp : σ 5 0 ≤ 8) : ∀ (n : Nat) (sm q : Int) , 0 ≤ q → (8 - q).toNat < n → zR SC 0 m_X4_hurtInAll 4 [(0, zP 53), (1, .inl sm), (2, .inl q)] [] σ (zEq (some (.inl (L_X4_hurtInAll_4 σ  n sm q))) σ) := by
  intro n
  induction n with
  | zero => intro sm q  h0 hmz; exact absurd hmz (Nat.not_lt_zero _)
  | succ n ih =>
    intro sm q  h0 hmz
    refine zRx.iload_n 2 rfl rfl dX4_hurtInAll_4 ?_
    refine zRx.aload_n 0 rfl rfl dX4_hurtInAll_5 ?_
    refine zRx.getR (a := 53) (b := 5) fl_4_51 rfl rfl dX4_hurtInAll_6 ?_
    refine zRx.getIv (a := 5) (ji := 0) (v := σ 5 0) rfl fl_4_65 rfl rfl rfl dX4_hurtInAll_9 ?_
    refine zRx.icmp_ge (tgt := 30) dX4_hurtInAll_12 (by decide) (fun c12 => ?_) (fun c12 => ?_)
    · refine zRx.iload_n 1 rfl rfl dX4_hurtInAll_30 ?_
      exact zR.iret rfl dX4_hurtInAll_31 (by have he : L_X4_hurtInAll_4 σ  (n + 1) sm q = sm := (by rw [L_X4_hurtInAll_4, if_pos c12]); rw [he]; exact ⟨rfl, rfl⟩)
    · refine zRx.iload_n 1 rfl rfl dX4_hurtInAll_15 ?_
      refine zRx.aload_n 0 rfl rfl dX4_hurtInAll_16 ?_
      refine zRx.getR (a := 53) (b := 55) fl_4_15 rfl rfl dX4_hurtInAll_17 ?_
      refine zRx.iload_n 2 rfl rfl dX4_hurtInAll_20 ?_
      refine zRx.ialdv (v := σ 55 q) rfl rfl (by omega) (by omega) dX4_hurtInAll_21 ?_
      refine zRx.iaddW dX4_hurtInAll_22 ?_
      refine zRx.istore_n (ls' := [(0, zP 53), (1, .inl (w32 (sm + (σ 55 q)))), (2, .inl q)]) rfl rfl (by decide) dX4_hurtInAll_23 ?_
      refine zRx.iinc (n := 1) (ls' := [(0, zP 53), (1, .inl (w32 (sm + (σ 55 q)))), (2, .inl (q + 1))]) 2 rfl ⟨by omega, by omega⟩ rfl (by decide) dX4_hurtInAll_24 ?_
      refine zRx.goto (tgt := 4) dX4_hurtInAll_27 (by decide) ?_
      have he : L_X4_hurtInAll_4 σ  (n + 1) sm q = L_X4_hurtInAll_4 σ  n (w32 (sm + (σ 55 q))) (q + 1) := by rw [L_X4_hurtInAll_4, if_neg (Int.not_le.mpr c12)]
      rw [he]
      exact ih (w32 (sm + (σ 55 q))) (q + 1)  (by omega) (by omega)
def R_X4_hurtInAll (σ : zG)  : Int := L_X4_hurtInAll_4 σ  200 0 0
set_option maxRecDepth 20000 in
theorem does_X4_hurtInAll (σ : zG)  (hp : σ 5 0 ≤ 8)  : zDo SC 0 m_X4_hurtInAll [zP 53] σ (zEq (some (.inl (R_X4_hurtInAll σ ))) σ) := by
  refine zDo.intro mk_X4_hurtInAll (Nat.le_of_ble_eq_true rfl) ?_
  refine zRx.iconst ⟨by decide, by decide⟩ dX4_hurtInAll_0 ?_
  refine zRx.istore_n (ls' := [(0, zP 53), (1, .inl 0)]) rfl rfl (by decide) dX4_hurtInAll_1 ?_
  refine zRx.iconst ⟨by decide, by decide⟩ dX4_hurtInAll_2 ?_
  refine zRx.istore_n (ls' := [(0, zP 53), (1, .inl 0), (2, .inl 0)]) rfl rfl (by decide) dX4_hurtInAll_3 ?_
  have he : R_X4_hurtInAll σ  = L_X4_hurtInAll_4 σ  200 0 0 := by rw [R_X4_hurtInAll]
  rw [he]
  exact loop_X4_hurtInAll_4 σ  hp  200 0 0  (by omega) (by omega)

def L_X4_howManyWrong_4 (σ : zG)  : Nat → Int → Int → Int
  | 0, _, _ => 0
  | n + 1, sm, q => if (σ 27 0) ≤ q then sm else (if (σ 58 q) = 0 then (L_X4_howManyWrong_4 σ  n (w32 (sm + 0)) (q + 1)) else (L_X4_howManyWrong_4 σ  n (w32 (sm + 1)) (q + 1)))
set_option maxRecDepth 20000 in
theorem loop_X4_howManyWrong_4 (σ : zG)  (hL : σ 27 0 ≤ 60) : ∀ (n : Nat) (sm q : Int) , 0 ≤ q → (60 - q).toNat < n → zR SC 0 m_X4_howManyWrong 4 [(0, zP 53), (1, .inl sm), (2, .inl q)] [] σ (zEq (some (.inl (L_X4_howManyWrong_4 σ  n sm q))) σ) := by
  intro n
  induction n with
  | zero => intro sm q  h0 hmz; exact absurd hmz (Nat.not_lt_zero _)
  | succ n ih =>
    intro sm q  h0 hmz
    refine zRx.iload_n 2 rfl rfl dX4_howManyWrong_4 ?_
    refine zRx.aload_n 0 rfl rfl dX4_howManyWrong_5 ?_
    refine zRx.getR (a := 53) (b := 27) fl_4_55 rfl rfl dX4_howManyWrong_6 ?_
    refine zRx.getIv (a := 27) (ji := 0) (v := σ 27 0) rfl fl_4_87 rfl rfl rfl dX4_howManyWrong_9 ?_
    refine zRx.icmp_ge (tgt := 38) dX4_howManyWrong_12 (by decide) (fun c12 => ?_) (fun c12 => ?_)
    · refine zRx.iload_n 1 rfl rfl dX4_howManyWrong_38 ?_
      exact zR.iret rfl dX4_howManyWrong_39 (by have he : L_X4_howManyWrong_4 σ  (n + 1) sm q = sm := (by rw [L_X4_howManyWrong_4, if_pos c12]); rw [he]; exact ⟨rfl, rfl⟩)
    · refine zRx.iload_n 1 rfl rfl dX4_howManyWrong_15 ?_
      refine zRx.aload_n 0 rfl rfl dX4_howManyWrong_16 ?_
      refine zRx.getR (a := 53) (b := 58) fl_4_24 rfl rfl dX4_howManyWrong_17 ?_
      refine zRx.iload_n 2 rfl rfl dX4_howManyWrong_20 ?_
      refine zRx.ialdv (v := σ 58 q) rfl rfl (by omega) (by omega) dX4_howManyWrong_21 ?_
      refine zRx.if_eq (tgt := 29) dX4_howManyWrong_22 (by decide) (fun c22 => ?_) (fun c22 => ?_)
      · refine zRx.iconst ⟨by decide, by decide⟩ dX4_howManyWrong_29 ?_
        refine zRx.iaddW dX4_howManyWrong_30 ?_
        refine zRx.istore_n (ls' := [(0, zP 53), (1, .inl (w32 (sm + 0))), (2, .inl q)]) rfl rfl (by decide) dX4_howManyWrong_31 ?_
        refine zRx.iinc (n := 1) (ls' := [(0, zP 53), (1, .inl (w32 (sm + 0))), (2, .inl (q + 1))]) 2 rfl ⟨by omega, by omega⟩ rfl (by decide) dX4_howManyWrong_32 ?_
        refine zRx.goto (tgt := 4) dX4_howManyWrong_35 (by decide) ?_
        have he : L_X4_howManyWrong_4 σ  (n + 1) sm q = L_X4_howManyWrong_4 σ  n (w32 (sm + 0)) (q + 1) := by rw [L_X4_howManyWrong_4, if_neg (Int.not_le.mpr c12), if_pos c22]
        rw [he]
        exact ih (w32 (sm + 0)) (q + 1)  (by omega) (by omega)
      · refine zRx.iconst ⟨by decide, by decide⟩ dX4_howManyWrong_25 ?_
        refine zRx.goto (tgt := 30) dX4_howManyWrong_26 (by decide) ?_
        refine zRx.iaddW dX4_howManyWrong_30 ?_
        refine zRx.istore_n (ls' := [(0, zP 53), (1, .inl (w32 (sm + 1))), (2, .inl q)]) rfl rfl (by decide) dX4_howManyWrong_31 ?_
        refine zRx.iinc (n := 1) (ls' := [(0, zP 53), (1, .inl (w32 (sm + 1))), (2, .inl (q + 1))]) 2 rfl ⟨by omega, by omega⟩ rfl (by decide) dX4_howManyWrong_32 ?_
        refine zRx.goto (tgt := 4) dX4_howManyWrong_35 (by decide) ?_
        have he : L_X4_howManyWrong_4 σ  (n + 1) sm q = L_X4_howManyWrong_4 σ  n (w32 (sm + 1)) (q + 1) := by rw [L_X4_howManyWrong_4, if_neg (Int.not_le.mpr c12), if_neg c22]
        rw [he]
        exact ih (w32 (sm + 1)) (q + 1)  (by omega) (by omega)
def R_X4_howManyWrong (σ : zG)  : Int := L_X4_howManyWrong_4 σ  200 0 0
set_option maxRecDepth 20000 in
theorem does_X4_howManyWrong (σ : zG)  (hL : σ 27 0 ≤ 60)  : zDo SC 0 m_X4_howManyWrong [zP 53] σ (zEq (some (.inl (R_X4_howManyWrong σ ))) σ) := by
  refine zDo.intro mk_X4_howManyWrong (Nat.le_of_ble_eq_true rfl) ?_
  refine zRx.iconst ⟨by decide, by decide⟩ dX4_howManyWrong_0 ?_
  refine zRx.istore_n (ls' := [(0, zP 53), (1, .inl 0)]) rfl rfl (by decide) dX4_howManyWrong_1 ?_
  refine zRx.iconst ⟨by decide, by decide⟩ dX4_howManyWrong_2 ?_
  refine zRx.istore_n (ls' := [(0, zP 53), (1, .inl 0), (2, .inl 0)]) rfl rfl (by decide) dX4_howManyWrong_3 ?_
  have he : R_X4_howManyWrong σ  = L_X4_howManyWrong_4 σ  200 0 0 := by rw [R_X4_howManyWrong]
  rw [he]
  exact loop_X4_howManyWrong_4 σ  hL  200 0 0  (by omega) (by omega)

set_option maxRecDepth 20000 in
theorem does_X4_isOpenAbout (σ : zG) (d who fs : Int) (hd : 0 ≤ d ∧ d < 128) : zDo SC 1 m_X4_isOpenAbout [zP 53, .inl d, .inl who, .inl fs] σ (zEq (some (.inl (b2 (σ 60 d = who ∧ 0 < σ 63 d ∧ hb fs (σ 61 d))))) σ) := by
  refine zDo.intro mk_X4_isOpenAbout (Nat.le_of_ble_eq_true rfl) ?_
  refine zRx.aload_n 0 rfl rfl dX4_isOpenAbout_0 ?_
  refine zRx.getR (a := 53) (b := 60) fl_4_30 rfl rfl dX4_isOpenAbout_1 ?_
  refine zRx.iload_n 1 rfl rfl dX4_isOpenAbout_4 ?_
  refine zRx.ialdv (v := σ 60 d) rfl rfl (by omega) (by omega) dX4_isOpenAbout_5 ?_
  refine zRx.iload_n 2 rfl rfl dX4_isOpenAbout_6 ?_
  refine zRx.icmp_ne (tgt := 36) dX4_isOpenAbout_7 (by decide) (fun c7 => ?_) (fun c7 => ?_)
  · refine zRx.iconst ⟨by decide, by decide⟩ dX4_isOpenAbout_36 ?_
    exact zR.zret rfl ⟨by decide, by decide⟩ dX4_isOpenAbout_37 ⟨by rw [b2_f (by first | exact ⟨by omega, by omega, by assumption⟩ | (intro q; obtain ⟨q1, q2, q3⟩ := q; first | omega | contradiction))], rfl⟩
  · refine zRx.aload_n 0 rfl rfl dX4_isOpenAbout_10 ?_
    refine zRx.getR (a := 53) (b := 63) fl_4_39 rfl rfl dX4_isOpenAbout_11 ?_
    refine zRx.iload_n 1 rfl rfl dX4_isOpenAbout_14 ?_
    refine zRx.ialdv (v := σ 63 d) rfl rfl (by omega) (by omega) dX4_isOpenAbout_15 ?_
    refine zRx.if_le (tgt := 36) dX4_isOpenAbout_16 (by decide) (fun c16 => ?_) (fun c16 => ?_)
    · refine zRx.iconst ⟨by decide, by decide⟩ dX4_isOpenAbout_36 ?_
      exact zR.zret rfl ⟨by decide, by decide⟩ dX4_isOpenAbout_37 ⟨by rw [b2_f (by first | exact ⟨by omega, by omega, by assumption⟩ | (intro q; obtain ⟨q1, q2, q3⟩ := q; first | omega | contradiction))], rfl⟩
    · refine zRx.iload_n 3 rfl rfl dX4_isOpenAbout_19 ?_
      refine zRx.aload_n 0 rfl rfl dX4_isOpenAbout_20 ?_
      refine zRx.getR (a := 53) (b := 61) fl_4_33 rfl rfl dX4_isOpenAbout_21 ?_
      refine zRx.iload_n 1 rfl rfl dX4_isOpenAbout_24 ?_
      refine zRx.ialdv (v := σ 61 d) rfl rfl (by omega) (by omega) dX4_isOpenAbout_25 ?_
      refine zRx.cSi (w := .inl (b2 (hb fs (σ 61 d)))) (M := m_X11_hasBit) (av := [.inl fs, .inl (σ 61 d)]) cs_4_135 mk_X11_hasBit (by decide) rfl (Nat.le_of_ble_eq_true rfl) dX4_isOpenAbout_26 (does_X11_hasBit fs (σ 61 d) SC σ) ?_
      refine zRx.if_eqB (tgt := 36) dX4_isOpenAbout_29 (by decide) (fun c29 => ?_) (fun c29 => ?_)
      · refine zRx.iconst ⟨by decide, by decide⟩ dX4_isOpenAbout_36 ?_
        exact zR.zret rfl ⟨by decide, by decide⟩ dX4_isOpenAbout_37 ⟨by rw [b2_f (by first | exact ⟨by omega, by omega, by assumption⟩ | (intro q; obtain ⟨q1, q2, q3⟩ := q; first | omega | contradiction))], rfl⟩
      · refine zRx.iconst ⟨by decide, by decide⟩ dX4_isOpenAbout_32 ?_
        refine zRx.goto (tgt := 37) dX4_isOpenAbout_33 (by decide) ?_
        exact zR.zret rfl ⟨by decide, by decide⟩ dX4_isOpenAbout_37 ⟨by rw [b2_t (by first | exact ⟨by omega, by omega, by assumption⟩ | (intro q; obtain ⟨q1, q2, q3⟩ := q; first | omega | contradiction))], rfl⟩

def L_X4_openAbout_5 (σ : zG) (who fs : Int) : Nat → Int → Int → Int
  | 0, _, _ => 0
  | n + 1, sm, q => if (σ 53 8) ≤ q then sm else (if σ 60 q = who ∧ 0 < σ 63 q ∧ hb fs (σ 61 q) then (L_X4_openAbout_5 σ who fs n (w32 (sm + 1)) (q + 1)) else (L_X4_openAbout_5 σ who fs n (w32 (sm + 0)) (q + 1)))
set_option maxRecDepth 20000 in
theorem loop_X4_openAbout_5 (σ : zG) (who fs : Int) (hm : σ 53 8 ≤ 128) : ∀ (n : Nat) (sm q : Int) , 0 ≤ q → (σ 53 8 - q).toNat < n → zR SC 2 m_X4_openAbout 5 [(0, zP 53), (1, .inl who), (2, .inl fs), (3, .inl sm), (4, .inl q)] [] σ (zEq (some (.inl (L_X4_openAbout_5 σ who fs n sm q))) σ) := by
  intro n
  induction n with
  | zero => intro sm q  h0 hmz; exact absurd hmz (Nat.not_lt_zero _)
  | succ n ih =>
    intro sm q  h0 hmz
    refine zRx.iload 4 rfl dX4_openAbout_5 ?_
    refine zRx.aload_n 0 rfl rfl dX4_openAbout_7 ?_
    refine zRx.getIv (a := 53) (ji := 8) (v := σ 53 8) rfl fl_4_81 rfl rfl rfl dX4_openAbout_8 ?_
    refine zRx.icmp_ge (tgt := 39) dX4_openAbout_11 (by decide) (fun c11 => ?_) (fun c11 => ?_)
    · refine zRx.iload_n 3 rfl rfl dX4_openAbout_39 ?_
      exact zR.iret rfl dX4_openAbout_40 (by have he : L_X4_openAbout_5 σ who fs (n + 1) sm q = sm := (by rw [L_X4_openAbout_5, if_pos c11]); rw [he]; exact ⟨rfl, rfl⟩)
    · refine zRx.iload_n 3 rfl rfl dX4_openAbout_14 ?_
      refine zRx.aload_n 0 rfl rfl dX4_openAbout_15 ?_
      refine zRx.iload 4 rfl dX4_openAbout_16 ?_
      refine zRx.iload_n 1 rfl rfl dX4_openAbout_18 ?_
      refine zRx.iload_n 2 rfl rfl dX4_openAbout_19 ?_
      refine zRx.cVi (w := .inl (b2 (σ 60 q = who ∧ 0 < σ 63 q ∧ hb fs (σ 61 q)))) (M := m_X4_isOpenAbout) (av := [.inl q, .inl who, .inl fs]) cv_4_200 mk_X4_isOpenAbout (by decide) (b := 53) rfl rfl (Nat.le_of_ble_eq_true rfl) dX4_openAbout_20 (does_X4_isOpenAbout σ q who fs (by omega)) ?_
      refine zRx.if_eqB (tgt := 30) dX4_openAbout_23 (by decide) (fun c23 => ?_) (fun c23 => ?_)
      · refine zRx.iconst ⟨by decide, by decide⟩ dX4_openAbout_30 ?_
        refine zRx.iaddW dX4_openAbout_31 ?_
        refine zRx.istore_n (ls' := [(0, zP 53), (1, .inl who), (2, .inl fs), (3, .inl (w32 (sm + 0))), (4, .inl q)]) rfl rfl (by decide) dX4_openAbout_32 ?_
        refine zRx.iinc (n := 1) (ls' := [(0, zP 53), (1, .inl who), (2, .inl fs), (3, .inl (w32 (sm + 0))), (4, .inl (q + 1))]) 4 rfl ⟨by omega, by omega⟩ rfl (by decide) dX4_openAbout_33 ?_
        refine zRx.goto (tgt := 5) dX4_openAbout_36 (by decide) ?_
        have he : L_X4_openAbout_5 σ who fs (n + 1) sm q = L_X4_openAbout_5 σ who fs n (w32 (sm + 0)) (q + 1) := by rw [L_X4_openAbout_5, if_neg (Int.not_le.mpr c11), if_neg c23]
        rw [he]
        exact ih (w32 (sm + 0)) (q + 1)  (by omega) (by omega)
      · refine zRx.iconst ⟨by decide, by decide⟩ dX4_openAbout_26 ?_
        refine zRx.goto (tgt := 31) dX4_openAbout_27 (by decide) ?_
        refine zRx.iaddW dX4_openAbout_31 ?_
        refine zRx.istore_n (ls' := [(0, zP 53), (1, .inl who), (2, .inl fs), (3, .inl (w32 (sm + 1))), (4, .inl q)]) rfl rfl (by decide) dX4_openAbout_32 ?_
        refine zRx.iinc (n := 1) (ls' := [(0, zP 53), (1, .inl who), (2, .inl fs), (3, .inl (w32 (sm + 1))), (4, .inl (q + 1))]) 4 rfl ⟨by omega, by omega⟩ rfl (by decide) dX4_openAbout_33 ?_
        refine zRx.goto (tgt := 5) dX4_openAbout_36 (by decide) ?_
        have he : L_X4_openAbout_5 σ who fs (n + 1) sm q = L_X4_openAbout_5 σ who fs n (w32 (sm + 1)) (q + 1) := by rw [L_X4_openAbout_5, if_neg (Int.not_le.mpr c11), if_pos c23]
        rw [he]
        exact ih (w32 (sm + 1)) (q + 1)  (by omega) (by omega)
def R_X4_openAbout (σ : zG) (who fs : Int) : Int := L_X4_openAbout_5 σ who fs 200 0 0
set_option maxRecDepth 20000 in
theorem does_X4_openAbout (σ : zG) (who fs : Int) (hm : σ 53 8 ≤ 128)  : zDo SC 2 m_X4_openAbout [zP 53, .inl who, .inl fs] σ (zEq (some (.inl (R_X4_openAbout σ who fs))) σ) := by
  refine zDo.intro mk_X4_openAbout (Nat.le_of_ble_eq_true rfl) ?_
  refine zRx.iconst ⟨by decide, by decide⟩ dX4_openAbout_0 ?_
  refine zRx.istore_n (ls' := [(0, zP 53), (1, .inl who), (2, .inl fs), (3, .inl 0)]) rfl rfl (by decide) dX4_openAbout_1 ?_
  refine zRx.iconst ⟨by decide, by decide⟩ dX4_openAbout_2 ?_
  refine zRx.istore (ls' := [(0, zP 53), (1, .inl who), (2, .inl fs), (3, .inl 0), (4, .inl 0)]) rfl (by decide) dX4_openAbout_3 ?_
  have he : R_X4_openAbout σ who fs = L_X4_openAbout_5 σ who fs 200 0 0 := by rw [R_X4_openAbout]
  rw [he]
  exact loop_X4_openAbout_5 σ who fs hm  200 0 0  (by omega) (by omega)

def L_X4_growthAbout_5 (σ : zG) (who fs : Int) : Nat → Int → Int → Int
  | 0, _, _ => 0
  | n + 1, sm, q => if (σ 53 8) ≤ q then sm else (if σ 60 q = who ∧ 0 < σ 63 q ∧ hb fs (σ 61 q) then (L_X4_growthAbout_5 σ who fs n (w32 (sm + (w32 ((V_X4_grown σ (σ 63 q)) - (σ 63 q))))) (q + 1)) else (L_X4_growthAbout_5 σ who fs n (w32 (sm + 0)) (q + 1)))
set_option maxRecDepth 20000 in
theorem loop_X4_growthAbout_5 (σ : zG) (who fs : Int) (hm : σ 53 8 ≤ 128) : ∀ (n : Nat) (sm q : Int) , 0 ≤ q → (σ 53 8 - q).toNat < n → zR SC 2 m_X4_growthAbout 5 [(0, zP 53), (1, .inl who), (2, .inl fs), (3, .inl sm), (4, .inl q)] [] σ (zEq (some (.inl (L_X4_growthAbout_5 σ who fs n sm q))) σ) := by
  intro n
  induction n with
  | zero => intro sm q  h0 hmz; exact absurd hmz (Nat.not_lt_zero _)
  | succ n ih =>
    intro sm q  h0 hmz
    refine zRx.iload 4 rfl dX4_growthAbout_5 ?_
    refine zRx.aload_n 0 rfl rfl dX4_growthAbout_7 ?_
    refine zRx.getIv (a := 53) (ji := 8) (v := σ 53 8) rfl fl_4_81 rfl rfl rfl dX4_growthAbout_8 ?_
    refine zRx.icmp_ge (tgt := 57) dX4_growthAbout_11 (by decide) (fun c11 => ?_) (fun c11 => ?_)
    · refine zRx.iload_n 3 rfl rfl dX4_growthAbout_57 ?_
      exact zR.iret rfl dX4_growthAbout_58 (by have he : L_X4_growthAbout_5 σ who fs (n + 1) sm q = sm := (by rw [L_X4_growthAbout_5, if_pos c11]); rw [he]; exact ⟨rfl, rfl⟩)
    · refine zRx.iload_n 3 rfl rfl dX4_growthAbout_14 ?_
      refine zRx.aload_n 0 rfl rfl dX4_growthAbout_15 ?_
      refine zRx.iload 4 rfl dX4_growthAbout_16 ?_
      refine zRx.iload_n 1 rfl rfl dX4_growthAbout_18 ?_
      refine zRx.iload_n 2 rfl rfl dX4_growthAbout_19 ?_
      refine zRx.cVi (w := .inl (b2 (σ 60 q = who ∧ 0 < σ 63 q ∧ hb fs (σ 61 q)))) (M := m_X4_isOpenAbout) (av := [.inl q, .inl who, .inl fs]) cv_4_200 mk_X4_isOpenAbout (by decide) (b := 53) rfl rfl (Nat.le_of_ble_eq_true rfl) dX4_growthAbout_20 (does_X4_isOpenAbout σ q who fs (by omega)) ?_
      refine zRx.if_eqB (tgt := 48) dX4_growthAbout_23 (by decide) (fun c23 => ?_) (fun c23 => ?_)
      · refine zRx.iconst ⟨by decide, by decide⟩ dX4_growthAbout_48 ?_
        refine zRx.iaddW dX4_growthAbout_49 ?_
        refine zRx.istore_n (ls' := [(0, zP 53), (1, .inl who), (2, .inl fs), (3, .inl (w32 (sm + 0))), (4, .inl q)]) rfl rfl (by decide) dX4_growthAbout_50 ?_
        refine zRx.iinc (n := 1) (ls' := [(0, zP 53), (1, .inl who), (2, .inl fs), (3, .inl (w32 (sm + 0))), (4, .inl (q + 1))]) 4 rfl ⟨by omega, by omega⟩ rfl (by decide) dX4_growthAbout_51 ?_
        refine zRx.goto (tgt := 5) dX4_growthAbout_54 (by decide) ?_
        have he : L_X4_growthAbout_5 σ who fs (n + 1) sm q = L_X4_growthAbout_5 σ who fs n (w32 (sm + 0)) (q + 1) := by rw [L_X4_growthAbout_5, if_neg (Int.not_le.mpr c11), if_neg c23]
        rw [he]
        exact ih (w32 (sm + 0)) (q + 1)  (by omega) (by omega)
      · refine zRx.aload_n 0 rfl rfl dX4_growthAbout_26 ?_
        refine zRx.aload_n 0 rfl rfl dX4_growthAbout_27 ?_
        refine zRx.getR (a := 53) (b := 63) fl_4_39 rfl rfl dX4_growthAbout_28 ?_
        refine zRx.iload 4 rfl dX4_growthAbout_31 ?_
        refine zRx.ialdv (v := σ 63 q) rfl rfl (by omega) (by omega) dX4_growthAbout_33 ?_
        refine zRx.cVi (w := .inl (V_X4_grown σ (σ 63 q))) (M := m_X4_grown) (av := [.inl (σ 63 q)]) cv_4_166 mk_X4_grown (by decide) (b := 53) rfl rfl (Nat.le_of_ble_eq_true rfl) dX4_growthAbout_34 (does_X4_grown σ (σ 63 q) ) ?_
        refine zRx.aload_n 0 rfl rfl dX4_growthAbout_37 ?_
        refine zRx.getR (a := 53) (b := 63) fl_4_39 rfl rfl dX4_growthAbout_38 ?_
        refine zRx.iload 4 rfl dX4_growthAbout_41 ?_
        refine zRx.ialdv (v := σ 63 q) rfl rfl (by omega) (by omega) dX4_growthAbout_43 ?_
        refine zRx.isubW dX4_growthAbout_44 ?_
        refine zRx.goto (tgt := 49) dX4_growthAbout_45 (by decide) ?_
        refine zRx.iaddW dX4_growthAbout_49 ?_
        refine zRx.istore_n (ls' := [(0, zP 53), (1, .inl who), (2, .inl fs), (3, .inl (w32 (sm + (w32 ((V_X4_grown σ (σ 63 q)) - (σ 63 q)))))), (4, .inl q)]) rfl rfl (by decide) dX4_growthAbout_50 ?_
        refine zRx.iinc (n := 1) (ls' := [(0, zP 53), (1, .inl who), (2, .inl fs), (3, .inl (w32 (sm + (w32 ((V_X4_grown σ (σ 63 q)) - (σ 63 q)))))), (4, .inl (q + 1))]) 4 rfl ⟨by omega, by omega⟩ rfl (by decide) dX4_growthAbout_51 ?_
        refine zRx.goto (tgt := 5) dX4_growthAbout_54 (by decide) ?_
        have he : L_X4_growthAbout_5 σ who fs (n + 1) sm q = L_X4_growthAbout_5 σ who fs n (w32 (sm + (w32 ((V_X4_grown σ (σ 63 q)) - (σ 63 q))))) (q + 1) := by rw [L_X4_growthAbout_5, if_neg (Int.not_le.mpr c11), if_pos c23]
        rw [he]
        exact ih (w32 (sm + (w32 ((V_X4_grown σ (σ 63 q)) - (σ 63 q))))) (q + 1)  (by omega) (by omega)
def R_X4_growthAbout (σ : zG) (who fs : Int) : Int := L_X4_growthAbout_5 σ who fs 200 0 0
set_option maxRecDepth 20000 in
theorem does_X4_growthAbout (σ : zG) (who fs : Int) (hm : σ 53 8 ≤ 128)  : zDo SC 2 m_X4_growthAbout [zP 53, .inl who, .inl fs] σ (zEq (some (.inl (R_X4_growthAbout σ who fs))) σ) := by
  refine zDo.intro mk_X4_growthAbout (Nat.le_of_ble_eq_true rfl) ?_
  refine zRx.iconst ⟨by decide, by decide⟩ dX4_growthAbout_0 ?_
  refine zRx.istore_n (ls' := [(0, zP 53), (1, .inl who), (2, .inl fs), (3, .inl 0)]) rfl rfl (by decide) dX4_growthAbout_1 ?_
  refine zRx.iconst ⟨by decide, by decide⟩ dX4_growthAbout_2 ?_
  refine zRx.istore (ls' := [(0, zP 53), (1, .inl who), (2, .inl fs), (3, .inl 0), (4, .inl 0)]) rfl (by decide) dX4_growthAbout_3 ?_
  have he : R_X4_growthAbout σ who fs = L_X4_growthAbout_5 σ who fs 200 0 0 := by rw [R_X4_growthAbout]
  rw [he]
  exact loop_X4_growthAbout_5 σ who fs hm  200 0 0  (by omega) (by omega)

def L_X4_priceFor_5 (σ : zG) (who f : Int) : Nat → Int → Int → Int
  | 0, _, _ => 0
  | n + 1, sm, q => if (σ 5 0) ≤ q then sm else (if q = who then (L_X4_priceFor_5 σ who f n sm (q + 1)) else (if hb (σ 54 q) f then (if (σ 14 ((q * 12) + f)) = (-1) then (L_X4_priceFor_5 σ who f n sm (q + 1)) else (if sm = (-1) then (L_X4_priceFor_5 σ who f n (σ 14 ((q * 12) + f)) (q + 1)) else (if sm ≤ (σ 14 ((q * 12) + f)) then (L_X4_priceFor_5 σ who f n sm (q + 1)) else (L_X4_priceFor_5 σ who f n (σ 14 ((q * 12) + f)) (q + 1))))) else (L_X4_priceFor_5 σ who f n sm (q + 1))))
set_option maxRecDepth 20000 in
theorem loop_X4_priceFor_5 (σ : zG) (who f : Int) (hp : σ 5 0 ≤ 8) (hf : 0 ≤ f ∧ f < 12) : ∀ (n : Nat) (sm q : Int) , 0 ≤ q → (8 - q).toNat < n → zR SC 2 m_X4_priceFor 5 [(0, zP 53), (1, .inl who), (2, .inl f), (3, .inl sm), (4, .inl q)] [] σ (zEq (some (.inl (L_X4_priceFor_5 σ who f n sm q))) σ) := by
  intro n
  induction n with
  | zero => intro sm q  h0 hmz; exact absurd hmz (Nat.not_lt_zero _)
  | succ n ih =>
    intro sm q  h0 hmz
    refine zRx.iload 4 rfl dX4_priceFor_5 ?_
    refine zRx.aload_n 0 rfl rfl dX4_priceFor_7 ?_
    refine zRx.getR (a := 53) (b := 5) fl_4_51 rfl rfl dX4_priceFor_8 ?_
    refine zRx.getIv (a := 5) (ji := 0) (v := σ 5 0) rfl fl_4_65 rfl rfl rfl dX4_priceFor_11 ?_
    refine zRx.icmp_ge (tgt := 76) dX4_priceFor_14 (by decide) (fun c14 => ?_) (fun c14 => ?_)
    · refine zRx.iload_n 3 rfl rfl dX4_priceFor_76 ?_
      exact zR.iret rfl dX4_priceFor_77 (by have he : L_X4_priceFor_5 σ who f (n + 1) sm q = sm := (by rw [L_X4_priceFor_5, if_pos c14]); rw [he]; exact ⟨rfl, rfl⟩)
    · refine zRx.aload_n 0 rfl rfl dX4_priceFor_17 ?_
      refine zRx.getR (a := 53) (b := 5) fl_4_51 rfl rfl dX4_priceFor_18 ?_
      refine zRx.getR (a := 5) (b := 14) fl_4_204 rfl rfl dX4_priceFor_21 ?_
      refine zRx.iload 4 rfl dX4_priceFor_24 ?_
      refine zRx.bipush ⟨by decide, by decide⟩ rfl dX4_priceFor_26 ?_
      refine zRx.imul ⟨by omega, by omega⟩ dX4_priceFor_28 ?_
      refine zRx.iload_n 2 rfl rfl dX4_priceFor_29 ?_
      refine zRx.iadd ⟨by omega, by omega⟩ dX4_priceFor_30 ?_
      refine zRx.ialdv (v := σ 14 ((q * 12) + f)) rfl rfl (by omega) (by omega) dX4_priceFor_31 ?_
      refine zRx.istore (ls' := [(0, zP 53), (1, .inl who), (2, .inl f), (3, .inl sm), (4, .inl q), (5, .inl (σ 14 ((q * 12) + f)))]) rfl (by decide) dX4_priceFor_32 ?_
      refine zRx.iload 4 rfl dX4_priceFor_34 ?_
      refine zRx.iload_n 1 rfl rfl dX4_priceFor_36 ?_
      refine zRx.icmp_eq (tgt := 70) dX4_priceFor_37 (by decide) (fun c37 => ?_) (fun c37 => ?_)
      · refine zRx.iinc (n := 1) (ls' := [(0, zP 53), (1, .inl who), (2, .inl f), (3, .inl sm), (4, .inl (q + 1)), (5, .inl (σ 14 ((q * 12) + f)))]) 4 rfl ⟨by omega, by omega⟩ rfl (by decide) dX4_priceFor_70 ?_
        refine zRx.goto (tgt := 5) dX4_priceFor_73 (by decide) ?_
        refine zRx.pick [0, 1, 2, 3, 4] (ls' := [(0, zP 53), (1, .inl who), (2, .inl f), (3, .inl sm), (4, .inl (q + 1))]) rfl ?_
        have he : L_X4_priceFor_5 σ who f (n + 1) sm q = L_X4_priceFor_5 σ who f n sm (q + 1) := by rw [L_X4_priceFor_5, if_neg (Int.not_le.mpr c14), if_pos c37]
        rw [he]
        exact ih sm (q + 1)  (by omega) (by omega)
      · refine zRx.aload_n 0 rfl rfl dX4_priceFor_40 ?_
        refine zRx.iload 4 rfl dX4_priceFor_41 ?_
        refine zRx.iload_n 2 rfl rfl dX4_priceFor_43 ?_
        refine zRx.cVi (w := .inl (b2 (hb (σ 54 q) f))) (M := m_X4_isKnown) (av := [.inl q, .inl f]) cv_4_139 mk_X4_isKnown (by decide) (b := 53) rfl rfl (Nat.le_of_ble_eq_true rfl) dX4_priceFor_44 (does_X4_isKnown σ q f (by omega)) ?_
        refine zRx.if_eqB (tgt := 70) dX4_priceFor_47 (by decide) (fun c47 => ?_) (fun c47 => ?_)
        · refine zRx.iinc (n := 1) (ls' := [(0, zP 53), (1, .inl who), (2, .inl f), (3, .inl sm), (4, .inl (q + 1)), (5, .inl (σ 14 ((q * 12) + f)))]) 4 rfl ⟨by omega, by omega⟩ rfl (by decide) dX4_priceFor_70 ?_
          refine zRx.goto (tgt := 5) dX4_priceFor_73 (by decide) ?_
          refine zRx.pick [0, 1, 2, 3, 4] (ls' := [(0, zP 53), (1, .inl who), (2, .inl f), (3, .inl sm), (4, .inl (q + 1))]) rfl ?_
          have he : L_X4_priceFor_5 σ who f (n + 1) sm q = L_X4_priceFor_5 σ who f n sm (q + 1) := by rw [L_X4_priceFor_5, if_neg (Int.not_le.mpr c14), if_neg c37, if_neg c47]
          rw [he]
          exact ih sm (q + 1)  (by omega) (by omega)
        · refine zRx.iload 5 rfl dX4_priceFor_50 ?_
          refine zRx.iconst ⟨by decide, by decide⟩ dX4_priceFor_52 ?_
          refine zRx.icmp_eq (tgt := 70) dX4_priceFor_53 (by decide) (fun c53 => ?_) (fun c53 => ?_)
          · refine zRx.iinc (n := 1) (ls' := [(0, zP 53), (1, .inl who), (2, .inl f), (3, .inl sm), (4, .inl (q + 1)), (5, .inl (σ 14 ((q * 12) + f)))]) 4 rfl ⟨by omega, by omega⟩ rfl (by decide) dX4_priceFor_70 ?_
            refine zRx.goto (tgt := 5) dX4_priceFor_73 (by decide) ?_
            refine zRx.pick [0, 1, 2, 3, 4] (ls' := [(0, zP 53), (1, .inl who), (2, .inl f), (3, .inl sm), (4, .inl (q + 1))]) rfl ?_
            have he : L_X4_priceFor_5 σ who f (n + 1) sm q = L_X4_priceFor_5 σ who f n sm (q + 1) := by rw [L_X4_priceFor_5, if_neg (Int.not_le.mpr c14), if_neg c37, if_pos c47, if_pos c53]
            rw [he]
            exact ih sm (q + 1)  (by omega) (by omega)
          · refine zRx.iload_n 3 rfl rfl dX4_priceFor_56 ?_
            refine zRx.iconst ⟨by decide, by decide⟩ dX4_priceFor_57 ?_
            refine zRx.icmp_eq (tgt := 67) dX4_priceFor_58 (by decide) (fun c58 => ?_) (fun c58 => ?_)
            · refine zRx.iload 5 rfl dX4_priceFor_67 ?_
              refine zRx.istore_n (ls' := [(0, zP 53), (1, .inl who), (2, .inl f), (3, .inl (σ 14 ((q * 12) + f))), (4, .inl q), (5, .inl (σ 14 ((q * 12) + f)))]) rfl rfl (by decide) dX4_priceFor_69 ?_
              refine zRx.iinc (n := 1) (ls' := [(0, zP 53), (1, .inl who), (2, .inl f), (3, .inl (σ 14 ((q * 12) + f))), (4, .inl (q + 1)), (5, .inl (σ 14 ((q * 12) + f)))]) 4 rfl ⟨by omega, by omega⟩ rfl (by decide) dX4_priceFor_70 ?_
              refine zRx.goto (tgt := 5) dX4_priceFor_73 (by decide) ?_
              refine zRx.pick [0, 1, 2, 3, 4] (ls' := [(0, zP 53), (1, .inl who), (2, .inl f), (3, .inl (σ 14 ((q * 12) + f))), (4, .inl (q + 1))]) rfl ?_
              have he : L_X4_priceFor_5 σ who f (n + 1) sm q = L_X4_priceFor_5 σ who f n (σ 14 ((q * 12) + f)) (q + 1) := by rw [L_X4_priceFor_5, if_neg (Int.not_le.mpr c14), if_neg c37, if_pos c47, if_neg c53, if_pos c58]
              rw [he]
              exact ih (σ 14 ((q * 12) + f)) (q + 1)  (by omega) (by omega)
            · refine zRx.iload 5 rfl dX4_priceFor_61 ?_
              refine zRx.iload_n 3 rfl rfl dX4_priceFor_63 ?_
              refine zRx.icmp_ge (tgt := 70) dX4_priceFor_64 (by decide) (fun c64 => ?_) (fun c64 => ?_)
              · refine zRx.iinc (n := 1) (ls' := [(0, zP 53), (1, .inl who), (2, .inl f), (3, .inl sm), (4, .inl (q + 1)), (5, .inl (σ 14 ((q * 12) + f)))]) 4 rfl ⟨by omega, by omega⟩ rfl (by decide) dX4_priceFor_70 ?_
                refine zRx.goto (tgt := 5) dX4_priceFor_73 (by decide) ?_
                refine zRx.pick [0, 1, 2, 3, 4] (ls' := [(0, zP 53), (1, .inl who), (2, .inl f), (3, .inl sm), (4, .inl (q + 1))]) rfl ?_
                have he : L_X4_priceFor_5 σ who f (n + 1) sm q = L_X4_priceFor_5 σ who f n sm (q + 1) := by rw [L_X4_priceFor_5, if_neg (Int.not_le.mpr c14), if_neg c37, if_pos c47, if_neg c53, if_neg c58, if_pos c64]
                rw [he]
                exact ih sm (q + 1)  (by omega) (by omega)
              · refine zRx.iload 5 rfl dX4_priceFor_67 ?_
                refine zRx.istore_n (ls' := [(0, zP 53), (1, .inl who), (2, .inl f), (3, .inl (σ 14 ((q * 12) + f))), (4, .inl q), (5, .inl (σ 14 ((q * 12) + f)))]) rfl rfl (by decide) dX4_priceFor_69 ?_
                refine zRx.iinc (n := 1) (ls' := [(0, zP 53), (1, .inl who), (2, .inl f), (3, .inl (σ 14 ((q * 12) + f))), (4, .inl (q + 1)), (5, .inl (σ 14 ((q * 12) + f)))]) 4 rfl ⟨by omega, by omega⟩ rfl (by decide) dX4_priceFor_70 ?_
                refine zRx.goto (tgt := 5) dX4_priceFor_73 (by decide) ?_
                refine zRx.pick [0, 1, 2, 3, 4] (ls' := [(0, zP 53), (1, .inl who), (2, .inl f), (3, .inl (σ 14 ((q * 12) + f))), (4, .inl (q + 1))]) rfl ?_
                have he : L_X4_priceFor_5 σ who f (n + 1) sm q = L_X4_priceFor_5 σ who f n (σ 14 ((q * 12) + f)) (q + 1) := by rw [L_X4_priceFor_5, if_neg (Int.not_le.mpr c14), if_neg c37, if_pos c47, if_neg c53, if_neg c58, if_neg (Int.not_le.mpr c64)]
                rw [he]
                exact ih (σ 14 ((q * 12) + f)) (q + 1)  (by omega) (by omega)
def R_X4_priceFor (σ : zG) (who f : Int) : Int := L_X4_priceFor_5 σ who f 200 (-1) 0
set_option maxRecDepth 20000 in
theorem does_X4_priceFor (σ : zG) (who f : Int) (hp : σ 5 0 ≤ 8) (hf : 0 ≤ f ∧ f < 12)  : zDo SC 2 m_X4_priceFor [zP 53, .inl who, .inl f] σ (zEq (some (.inl (R_X4_priceFor σ who f))) σ) := by
  refine zDo.intro mk_X4_priceFor (Nat.le_of_ble_eq_true rfl) ?_
  refine zRx.iconst ⟨by decide, by decide⟩ dX4_priceFor_0 ?_
  refine zRx.istore_n (ls' := [(0, zP 53), (1, .inl who), (2, .inl f), (3, .inl (-1))]) rfl rfl (by decide) dX4_priceFor_1 ?_
  refine zRx.iconst ⟨by decide, by decide⟩ dX4_priceFor_2 ?_
  refine zRx.istore (ls' := [(0, zP 53), (1, .inl who), (2, .inl f), (3, .inl (-1)), (4, .inl 0)]) rfl (by decide) dX4_priceFor_3 ?_
  have he : R_X4_priceFor σ who f = L_X4_priceFor_5 σ who f 200 (-1) 0 := by rw [R_X4_priceFor]
  rw [he]
  exact loop_X4_priceFor_5 σ who f hp hf  200 (-1) 0  (by omega) (by omega)

set_option maxRecDepth 20000 in
theorem does_X4_hasDebt (σ : zG) (d : Int)  : zDo SC 0 m_X4_hasDebt [zP 53, .inl d] σ (zEq (some (.inl (b2 (0 ≤ d ∧ d < σ 53 8)))) σ) := by
  refine zDo.intro mk_X4_hasDebt (Nat.le_of_ble_eq_true rfl) ?_
  refine zRx.iload_n 1 rfl rfl dX4_hasDebt_0 ?_
  refine zRx.if_lt (tgt := 16) dX4_hasDebt_1 (by decide) (fun c1 => ?_) (fun c1 => ?_)
  · refine zRx.iconst ⟨by decide, by decide⟩ dX4_hasDebt_16 ?_
    exact zR.zret rfl ⟨by decide, by decide⟩ dX4_hasDebt_17 ⟨by rw [b2_f (by omega)], rfl⟩
  · refine zRx.iload_n 1 rfl rfl dX4_hasDebt_4 ?_
    refine zRx.aload_n 0 rfl rfl dX4_hasDebt_5 ?_
    refine zRx.getIv (a := 53) (ji := 8) (v := σ 53 8) rfl fl_4_81 rfl rfl rfl dX4_hasDebt_6 ?_
    refine zRx.icmp_ge (tgt := 16) dX4_hasDebt_9 (by decide) (fun c9 => ?_) (fun c9 => ?_)
    · refine zRx.iconst ⟨by decide, by decide⟩ dX4_hasDebt_16 ?_
      exact zR.zret rfl ⟨by decide, by decide⟩ dX4_hasDebt_17 ⟨by rw [b2_f (by omega)], rfl⟩
    · refine zRx.iconst ⟨by decide, by decide⟩ dX4_hasDebt_12 ?_
      refine zRx.goto (tgt := 17) dX4_hasDebt_13 (by decide) ?_
      exact zR.zret rfl ⟨by decide, by decide⟩ dX4_hasDebt_17 ⟨by rw [b2_t (by omega)], rfl⟩

def V_X4_tellMore (σ : zG) (who an f : Int) : Int := R_X4_whyWrongt σ (bshl 1 who) an f
def F_X4_tellMore (σ : zG) (who an f : Int) : zG := if (R_X4_whyWrongt σ (bshl 1 who) an f) = 0 then (F_X4_tellt σ who an f (σ 27 0)) else σ
theorem fr_F_X4_tellMore (σ : zG) (who an f : Int) {k : Nat} (h : k ∉ [67, 68, 69, 71, 77, 79, 80]) : (F_X4_tellMore σ who an f) k = σ k := by
  have ne : ∀ c ∈ [67, 68, 69, 71, 77, 79, 80], k ≠ c := fun c hc e => h (e ▸ hc)
  have nk_F_X4_tellt : k ∉ [67, 68, 69, 71, 77, 79, 80] := fun hm => h (by revert hm; simp only [List.mem_cons, List.not_mem_nil, or_false]; omega)
  unfold F_X4_tellMore
  repeat' split
  all_goals first | rfl | simp only [zu_row _ _ _ (ne 67 (by decide)), zu_row _ _ _ (ne 68 (by decide)), zu_row _ _ _ (ne 69 (by decide)), zu_row _ _ _ (ne 71 (by decide)), zu_row _ _ _ (ne 77 (by decide)), zu_row _ _ _ (ne 79 (by decide)), zu_row _ _ _ (ne 80 (by decide)), fr_F_X4_tellt (h := nk_F_X4_tellt)]

set_option maxRecDepth 20000 in
theorem does_X4_tellMore (σ : zG) (who an f : Int) (hf : 0 ≤ f ∧ f < 12) (hw : 0 ≤ an ∧ an < 8) (ha : 0 ≤ σ 11 f ∧ σ 11 f < 8) (hp : σ 5 0 ≤ 8) (hs : σ 5 2 ≤ 8) (hF : σ 5 1 ≤ 12) (hm : σ 67 8 ≤ 128) : zDo SC 4 m_X4_tellMore [zP 67, .inl who, .inl an, .inl f] σ (zEq (some (.inl (V_X4_tellMore σ who an f))) (F_X4_tellMore σ who an f)) := by
  refine zDo.intro mk_X4_tellMore (Nat.le_of_ble_eq_true rfl) ?_
  refine zRx.aload_n 0 rfl rfl dX4_tellMore_0 ?_
  refine zRx.iconst ⟨by decide, by decide⟩ dX4_tellMore_1 ?_
  refine zRx.iload_n 1 rfl rfl dX4_tellMore_2 ?_
  refine zRx.ishl dX4_tellMore_3 ?_
  refine zRx.iload_n 2 rfl rfl dX4_tellMore_4 ?_
  refine zRx.iload_n 3 rfl rfl dX4_tellMore_5 ?_
  refine zRx.cVi (w := .inl (R_X4_whyWrongt σ (bshl 1 who) an f)) (M := m_X4_whyWrong) (av := [.inl (bshl 1 who), .inl an, .inl f]) cv_4_106 mk_X4_whyWrong (by decide) (b := 67) rfl rfl (Nat.le_of_ble_eq_true rfl) dX4_tellMore_6 (does_X4_whyWrongt σ (bshl 1 who) an f (by omega) (by omega)) ?_
  refine zRx.istore (ls' := [(0, zP 67), (1, .inl who), (2, .inl an), (3, .inl f), (4, .inl (R_X4_whyWrongt σ (bshl 1 who) an f))]) rfl (by decide) dX4_tellMore_9 ?_
  refine zRx.iload 4 rfl dX4_tellMore_11 ?_
  refine zRx.if_ne (tgt := 30) dX4_tellMore_13 (by decide) (fun c13 => ?_) (fun c13 => ?_)
  · refine zRx.iload 4 rfl dX4_tellMore_30 ?_
    exact zR.iret rfl dX4_tellMore_32 ⟨rfl, by unfold F_X4_tellMore; rw [if_neg c13]⟩
  · refine zRx.aload_n 0 rfl rfl dX4_tellMore_16 ?_
    refine zRx.iload_n 1 rfl rfl dX4_tellMore_17 ?_
    refine zRx.iload_n 2 rfl rfl dX4_tellMore_18 ?_
    refine zRx.iload_n 3 rfl rfl dX4_tellMore_19 ?_
    refine zRx.aload_n 0 rfl rfl dX4_tellMore_20 ?_
    refine zRx.getR (a := 67) (b := 27) fl_4_55 rfl rfl dX4_tellMore_21 ?_
    refine zRx.getIv (a := 27) (ji := 0) (v := σ 27 0) rfl fl_4_87 rfl rfl rfl dX4_tellMore_24 ?_
    refine zRx.cVv (M := m_X4_tell) (av := [.inl who, .inl an, .inl f, .inl (σ 27 0)]) cv_4_128 mk_X4_tell (by decide) (b := 67) rfl rfl (Nat.le_of_ble_eq_true rfl) dX4_tellMore_27 (does_X4_tellt σ who an f (σ 27 0) hf hw ha hp hs hF hm) ?_
    refine zRx.iload 4 rfl dX4_tellMore_30 ?_
    exact zR.iret rfl dX4_tellMore_32 ⟨rfl, by unfold F_X4_tellMore; rw [if_pos c13]⟩

def F_X4_copyDebts (σ : zG)  : zG := zcp (zcp (zcp (zu σ 67 8 (σ 53 8)) 59 73 0 0 128) 60 74 0 0 128) 61 75 0 0 128
set_option maxRecDepth 20000 in
theorem does_X4_copyDebts (σ : zG)   : zDo SC 1 m_X4_copyDebts [zP 67, zP 53] σ (zEq (none) (F_X4_copyDebts σ )) := by
  refine zDo.intro mk_X4_copyDebts (Nat.le_of_ble_eq_true rfl) ?_
  refine zRx.aload_n 0 rfl rfl dX4_copyDebts_0 ?_
  refine zRx.aload_n 1 rfl rfl dX4_copyDebts_1 ?_
  refine zRx.getIv (a := 53) (ji := 8) (v := σ 53 8) rfl fl_4_81 rfl rfl rfl dX4_copyDebts_2 ?_
  refine zRx.putI (a := 67) (ji := 8) pl_4_81 rfl rfl rfl dX4_copyDebts_5 ?_
  refine zRx.aload_n 1 rfl rfl dX4_copyDebts_8 ?_
  refine zRx.getR (a := 53) (b := 59) fl_4_27 rfl rfl dX4_copyDebts_9 ?_
  refine zRx.iconst ⟨by decide, by decide⟩ dX4_copyDebts_12 ?_
  refine zRx.aload_n 0 rfl rfl dX4_copyDebts_13 ?_
  refine zRx.getR (a := 67) (b := 73) fl_4_27 rfl rfl dX4_copyDebts_14 ?_
  refine zRx.iconst ⟨by decide, by decide⟩ dX4_copyDebts_17 ?_
  refine zRx.sipush ⟨by decide, by decide⟩ rfl dX4_copyDebts_18 ?_
  refine zRx.acopy rfl rfl ac_4_169 (by decide) (Nat.le_of_ble_eq_true rfl) (by decide) (by decide) (by decide) (by decide) (by decide) dX4_copyDebts_21 ?_
  refine zRx.aload_n 1 rfl rfl dX4_copyDebts_24 ?_
  refine zRx.getR (a := 53) (b := 60) fl_4_30 rfl rfl dX4_copyDebts_25 ?_
  refine zRx.iconst ⟨by decide, by decide⟩ dX4_copyDebts_28 ?_
  refine zRx.aload_n 0 rfl rfl dX4_copyDebts_29 ?_
  refine zRx.getR (a := 67) (b := 74) fl_4_30 rfl rfl dX4_copyDebts_30 ?_
  refine zRx.iconst ⟨by decide, by decide⟩ dX4_copyDebts_33 ?_
  refine zRx.sipush ⟨by decide, by decide⟩ rfl dX4_copyDebts_34 ?_
  refine zRx.acopy rfl rfl ac_4_169 (by decide) (Nat.le_of_ble_eq_true rfl) (by decide) (by decide) (by decide) (by decide) (by decide) dX4_copyDebts_37 ?_
  refine zRx.aload_n 1 rfl rfl dX4_copyDebts_40 ?_
  refine zRx.getR (a := 53) (b := 61) fl_4_33 rfl rfl dX4_copyDebts_41 ?_
  refine zRx.iconst ⟨by decide, by decide⟩ dX4_copyDebts_44 ?_
  refine zRx.aload_n 0 rfl rfl dX4_copyDebts_45 ?_
  refine zRx.getR (a := 67) (b := 75) fl_4_33 rfl rfl dX4_copyDebts_46 ?_
  refine zRx.iconst ⟨by decide, by decide⟩ dX4_copyDebts_49 ?_
  refine zRx.sipush ⟨by decide, by decide⟩ rfl dX4_copyDebts_50 ?_
  refine zRx.acopy rfl rfl ac_4_169 (by decide) (Nat.le_of_ble_eq_true rfl) (by decide) (by decide) (by decide) (by decide) (by decide) dX4_copyDebts_53 ?_
  exact zR.ret rfl dX4_copyDebts_56 ⟨rfl, rfl⟩

def F_X4_goBackTo (σ : zG)  : zG := zcp (zcp (zu σ 67 7 (σ 53 7)) 54 68 0 0 8) 63 77 0 0 128
set_option maxRecDepth 20000 in
theorem does_X4_goBackTo (σ : zG)   : zDo SC 1 m_X4_goBackTo [zP 67, zP 53] σ (zEq (none) (F_X4_goBackTo σ )) := by
  refine zDo.intro mk_X4_goBackTo (Nat.le_of_ble_eq_true rfl) ?_
  refine zRx.aload_n 0 rfl rfl dX4_goBackTo_0 ?_
  refine zRx.aload_n 1 rfl rfl dX4_goBackTo_1 ?_
  refine zRx.getIv (a := 53) (ji := 7) (v := σ 53 7) rfl fl_4_78 rfl rfl rfl dX4_goBackTo_2 ?_
  refine zRx.putI (a := 67) (ji := 7) pl_4_78 rfl rfl rfl dX4_goBackTo_5 ?_
  refine zRx.aload_n 1 rfl rfl dX4_goBackTo_8 ?_
  refine zRx.getR (a := 53) (b := 54) fl_4_9 rfl rfl dX4_goBackTo_9 ?_
  refine zRx.iconst ⟨by decide, by decide⟩ dX4_goBackTo_12 ?_
  refine zRx.aload_n 0 rfl rfl dX4_goBackTo_13 ?_
  refine zRx.getR (a := 67) (b := 68) fl_4_9 rfl rfl dX4_goBackTo_14 ?_
  refine zRx.iconst ⟨by decide, by decide⟩ dX4_goBackTo_17 ?_
  refine zRx.bipush ⟨by decide, by decide⟩ rfl dX4_goBackTo_18 ?_
  refine zRx.acopy rfl rfl ac_4_169 (by decide) (Nat.le_of_ble_eq_true rfl) (by decide) (by decide) (by decide) (by decide) (by decide) dX4_goBackTo_20 ?_
  refine zRx.aload_n 1 rfl rfl dX4_goBackTo_23 ?_
  refine zRx.getR (a := 53) (b := 63) fl_4_39 rfl rfl dX4_goBackTo_24 ?_
  refine zRx.iconst ⟨by decide, by decide⟩ dX4_goBackTo_27 ?_
  refine zRx.aload_n 0 rfl rfl dX4_goBackTo_28 ?_
  refine zRx.getR (a := 67) (b := 77) fl_4_39 rfl rfl dX4_goBackTo_29 ?_
  refine zRx.iconst ⟨by decide, by decide⟩ dX4_goBackTo_32 ?_
  refine zRx.sipush ⟨by decide, by decide⟩ rfl dX4_goBackTo_33 ?_
  refine zRx.acopy rfl rfl ac_4_169 (by decide) (Nat.le_of_ble_eq_true rfl) (by decide) (by decide) (by decide) (by decide) (by decide) dX4_goBackTo_36 ?_
  exact zR.ret rfl dX4_goBackTo_39 ⟨rfl, rfl⟩

