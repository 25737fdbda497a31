/-! the class: what is said; feasts -/
theorem hasLateL_01 (σ : zG) (who : Int) : ∀ (n : Nat) (q : Int), 0 ≤ L_X4_hasLate_2 σ who n q ∧ L_X4_hasLate_2 σ who n q ≤ 1
  | 0, q => (by decide : (0 : Int) ≤ 0 ∧ (0 : Int) ≤ 1)
  | n + 1, q => by
    rw [L_X4_hasLate_2]
    repeat' split
    all_goals first | exact hasLateL_01 σ who n _ | decide

def V_X6_isPlainOf (σ : zG) (who i : Int) : Int := if (σ 44 i) = 19 then (b2 (hb (σ 54 who) (σ 46 i))) else (if (σ 44 i) = 20 then (R_X4_hasLate σ who) else (if (σ 45 i) = 60 then (if (σ 46 i) ≤ (R_X4_sumFor σ who (w32 ((σ 44 i) - 21))) then 0 else 1) else (if (σ 45 i) = 62 then (if (R_X4_sumFor σ who (w32 ((σ 44 i) - 21))) ≤ (σ 46 i) then 0 else 1) else (if (R_X4_sumFor σ who (w32 ((σ 44 i) - 21))) = (σ 46 i) then 1 else 0))))
set_option maxRecDepth 20000 in
theorem does_X6_isPlainOf (σ : zG) (who i : Int) (hm : σ 53 8 ≤ 128) (hL : σ 27 0 ≤ 60) (hD : WD σ) (hw : 0 ≤ who ∧ who < 8) (hi : 0 ≤ i ∧ i < 40) : zDo SC 3 m_X6_isPlainOf [zP 43, zP 53, .inl who, .inl i] σ (zEq (some (.inl (V_X6_isPlainOf σ who i))) σ) := by
  refine zDo.intro mk_X6_isPlainOf (Nat.le_of_ble_eq_true rfl) ?_
  refine zRx.aload_n 0 rfl rfl dX6_isPlainOf_0 ?_
  refine zRx.getR (a := 43) (b := 44) fl_6_11 rfl rfl dX6_isPlainOf_1 ?_
  refine zRx.iload_n 3 rfl rfl dX6_isPlainOf_4 ?_
  refine zRx.ialdv (v := σ 44 i) rfl rfl (by omega) (by omega) dX6_isPlainOf_5 ?_
  refine zRx.bipush ⟨by decide, by decide⟩ rfl dX6_isPlainOf_6 ?_
  refine zRx.icmp_ne (tgt := 23) dX6_isPlainOf_8 (by decide) (fun c8 => ?_) (fun c8 => ?_)
  · refine zRx.aload_n 0 rfl rfl dX6_isPlainOf_23 ?_
    refine zRx.getR (a := 43) (b := 44) fl_6_11 rfl rfl dX6_isPlainOf_24 ?_
    refine zRx.iload_n 3 rfl rfl dX6_isPlainOf_27 ?_
    refine zRx.ialdv (v := σ 44 i) rfl rfl (by omega) (by omega) dX6_isPlainOf_28 ?_
    refine zRx.bipush ⟨by decide, by decide⟩ rfl dX6_isPlainOf_29 ?_
    refine zRx.icmp_ne (tgt := 40) dX6_isPlainOf_31 (by decide) (fun c31 => ?_) (fun c31 => ?_)
    · refine zRx.aload_n 1 rfl rfl dX6_isPlainOf_40 ?_
      refine zRx.iload_n 2 rfl rfl dX6_isPlainOf_41 ?_
      refine zRx.aload_n 0 rfl rfl dX6_isPlainOf_42 ?_
      refine zRx.getR (a := 43) (b := 44) fl_6_11 rfl rfl dX6_isPlainOf_43 ?_
      refine zRx.iload_n 3 rfl rfl dX6_isPlainOf_46 ?_
      refine zRx.ialdv (v := σ 44 i) rfl rfl (by omega) (by omega) dX6_isPlainOf_47 ?_
      refine zRx.bipush ⟨by decide, by decide⟩ rfl dX6_isPlainOf_48 ?_
      refine zRx.isubW dX6_isPlainOf_50 ?_
      refine zRx.cVi (w := .inl (R_X4_sumFor σ who (w32 ((σ 44 i) - 21)))) (M := m_X4_sumFor) (av := [.inl who, .inl (w32 ((σ 44 i) - 21))]) cv_6_120 mk_X4_sumFor (by decide) (b := 53) rfl rfl (Nat.le_of_ble_eq_true rfl) dX6_isPlainOf_51 (does_X4_sumFor σ who (w32 ((σ 44 i) - 21)) hm (by omega)) ?_
      refine zRx.istore (ls' := [(0, zP 43), (1, zP 53), (2, .inl who), (3, .inl i), (4, .inl (R_X4_sumFor σ who (w32 ((σ 44 i) - 21))))]) rfl (by decide) dX6_isPlainOf_54 ?_
      refine zRx.aload_n 0 rfl rfl dX6_isPlainOf_56 ?_
      refine zRx.getR (a := 43) (b := 45) fl_6_15 rfl rfl dX6_isPlainOf_57 ?_
      refine zRx.iload_n 3 rfl rfl dX6_isPlainOf_60 ?_
      refine zRx.ialdv (v := σ 45 i) rfl rfl (by omega) (by omega) dX6_isPlainOf_61 ?_
      by_cases c62_60 : σ 45 i = 60
      · refine zRx.topI (b := 60) c62_60 ?_
        refine zRx.lookup (tgt := 88) dX6_isPlainOf_62 rfl rfl (by decide) ?_
        refine zRx.iload 4 rfl dX6_isPlainOf_88 ?_
        refine zRx.aload_n 0 rfl rfl dX6_isPlainOf_90 ?_
        refine zRx.getR (a := 43) (b := 46) fl_6_18 rfl rfl dX6_isPlainOf_91 ?_
        refine zRx.iload_n 3 rfl rfl dX6_isPlainOf_94 ?_
        refine zRx.ialdv (v := σ 46 i) rfl rfl (by omega) (by omega) dX6_isPlainOf_95 ?_
        refine zRx.icmp_ge (tgt := 103) dX6_isPlainOf_96 (by decide) (fun c96 => ?_) (fun c96 => ?_)
        · refine zRx.iconst ⟨by decide, by decide⟩ dX6_isPlainOf_103 ?_
          exact zR.zret rfl ⟨by decide, by decide⟩ dX6_isPlainOf_104 ⟨by unfold V_X6_isPlainOf; rw [if_neg c8, if_neg c31, if_pos c62_60, if_pos c96], rfl⟩
        · refine zRx.iconst ⟨by decide, by decide⟩ dX6_isPlainOf_99 ?_
          refine zRx.goto (tgt := 104) dX6_isPlainOf_100 (by decide) ?_
          exact zR.zret rfl ⟨by decide, by decide⟩ dX6_isPlainOf_104 ⟨by unfold V_X6_isPlainOf; rw [if_neg c8, if_neg c31, if_pos c62_60, if_neg (Int.not_le.mpr c96)], rfl⟩
      by_cases c62_62 : σ 45 i = 62
      · refine zRx.topI (b := 62) c62_62 ?_
        refine zRx.lookup (tgt := 105) dX6_isPlainOf_62 rfl rfl (by decide) ?_
        refine zRx.iload 4 rfl dX6_isPlainOf_105 ?_
        refine zRx.aload_n 0 rfl rfl dX6_isPlainOf_107 ?_
        refine zRx.getR (a := 43) (b := 46) fl_6_18 rfl rfl dX6_isPlainOf_108 ?_
        refine zRx.iload_n 3 rfl rfl dX6_isPlainOf_111 ?_
        refine zRx.ialdv (v := σ 46 i) rfl rfl (by omega) (by omega) dX6_isPlainOf_112 ?_
        refine zRx.icmp_le (tgt := 120) dX6_isPlainOf_113 (by decide) (fun c113 => ?_) (fun c113 => ?_)
        · refine zRx.iconst ⟨by decide, by decide⟩ dX6_isPlainOf_120 ?_
          exact zR.zret rfl ⟨by decide, by decide⟩ dX6_isPlainOf_121 ⟨by unfold V_X6_isPlainOf; rw [if_neg c8, if_neg c31, if_neg c62_60, if_pos c62_62, if_pos c113], rfl⟩
        · refine zRx.iconst ⟨by decide, by decide⟩ dX6_isPlainOf_116 ?_
          refine zRx.goto (tgt := 121) dX6_isPlainOf_117 (by decide) ?_
          exact zR.zret rfl ⟨by decide, by decide⟩ dX6_isPlainOf_121 ⟨by unfold V_X6_isPlainOf; rw [if_neg c8, if_neg c31, if_neg c62_60, if_pos c62_62, if_neg (Int.not_le.mpr c113)], rfl⟩
      refine zRx.lookup (tgt := 122) (off := 60) dX6_isPlainOf_62 rfl (by simp [Op.lookupswitch.offset, (show ¬ 60 = σ 45 i from fun h => c62_60 h.symm), (show ¬ 62 = σ 45 i from fun h => c62_62 h.symm)]) (by decide) ?_
      refine zRx.iload 4 rfl dX6_isPlainOf_122 ?_
      refine zRx.aload_n 0 rfl rfl dX6_isPlainOf_124 ?_
      refine zRx.getR (a := 43) (b := 46) fl_6_18 rfl rfl dX6_isPlainOf_125 ?_
      refine zRx.iload_n 3 rfl rfl dX6_isPlainOf_128 ?_
      refine zRx.ialdv (v := σ 46 i) rfl rfl (by omega) (by omega) dX6_isPlainOf_129 ?_
      refine zRx.icmp_ne (tgt := 137) dX6_isPlainOf_130 (by decide) (fun c130 => ?_) (fun c130 => ?_)
      · refine zRx.iconst ⟨by decide, by decide⟩ dX6_isPlainOf_137 ?_
        exact zR.zret rfl ⟨by decide, by decide⟩ dX6_isPlainOf_138 ⟨by unfold V_X6_isPlainOf; rw [if_neg c8, if_neg c31, if_neg c62_60, if_neg c62_62, if_neg c130], rfl⟩
      · refine zRx.iconst ⟨by decide, by decide⟩ dX6_isPlainOf_133 ?_
        refine zRx.goto (tgt := 138) dX6_isPlainOf_134 (by decide) ?_
        exact zR.zret rfl ⟨by decide, by decide⟩ dX6_isPlainOf_138 ⟨by unfold V_X6_isPlainOf; rw [if_neg c8, if_neg c31, if_neg c62_60, if_neg c62_62, if_pos c130], rfl⟩
    · refine zRx.aload_n 1 rfl rfl dX6_isPlainOf_34 ?_
      refine zRx.iload_n 2 rfl rfl dX6_isPlainOf_35 ?_
      refine zRx.cVi (w := .inl (R_X4_hasLate σ who)) (M := m_X4_hasLate) (av := [.inl who]) cv_6_117 mk_X4_hasLate (by decide) (b := 53) rfl rfl (Nat.le_of_ble_eq_true rfl) dX6_isPlainOf_36 (does_X4_hasLate σ who hm hL hD) ?_
      exact zR.zret rfl (hasLateL_01 _ _ _ _) dX6_isPlainOf_39 ⟨by unfold V_X6_isPlainOf; rw [if_neg c8, if_pos c31], rfl⟩
  · refine zRx.aload_n 1 rfl rfl dX6_isPlainOf_11 ?_
    refine zRx.iload_n 2 rfl rfl dX6_isPlainOf_12 ?_
    refine zRx.aload_n 0 rfl rfl dX6_isPlainOf_13 ?_
    refine zRx.getR (a := 43) (b := 46) fl_6_18 rfl rfl dX6_isPlainOf_14 ?_
    refine zRx.iload_n 3 rfl rfl dX6_isPlainOf_17 ?_
    refine zRx.ialdv (v := σ 46 i) rfl rfl (by omega) (by omega) dX6_isPlainOf_18 ?_
    refine zRx.cVi (w := .inl (b2 (hb (σ 54 who) (σ 46 i)))) (M := m_X4_isKnown) (av := [.inl who, .inl (σ 46 i)]) cv_6_113 mk_X4_isKnown (by decide) (b := 53) rfl rfl (Nat.le_of_ble_eq_true rfl) dX6_isPlainOf_19 (does_X4_isKnown σ who (σ 46 i) (by omega)) ?_
    exact zR.zret rfl (b2_01 _) dX6_isPlainOf_22 ⟨by unfold V_X6_isPlainOf; rw [if_pos c8], rfl⟩

def L_X6_plainFor_5 (σ : zG) (i : Int) : Nat → Int → Int → Int
  | 0, _, _ => 0
  | n + 1, fs, q => if (σ 5 0) ≤ q then fs else (if (V_X6_isPlainOf σ q i) = 0 then (L_X6_plainFor_5 σ i n fs (q + 1)) else (L_X6_plainFor_5 σ i n (bor fs (bshl 1 q)) (q + 1)))
set_option maxRecDepth 20000 in
theorem loop_X6_plainFor_5 (σ : zG) (i : Int) (hm : σ 53 8 ≤ 128) (hL : σ 27 0 ≤ 60) (hD : WD σ) (hp : σ 5 0 ≤ 8) (hi : 0 ≤ i ∧ i < 40) : ∀ (n : Nat) (fs q : Int) , 0 ≤ q → (σ 5 0 - q).toNat < n → zR SC 4 m_X6_plainFor 5 [(0, zP 43), (1, zP 53), (2, .inl i), (3, .inl fs), (4, .inl q)] [] σ (zEq (some (.inl (L_X6_plainFor_5 σ i n fs q))) σ) := by
  intro n
  induction n with
  | zero => intro fs q  h0 hmz; exact absurd hmz (Nat.not_lt_zero _)
  | succ n ih =>
    intro fs q  h0 hmz
    refine zRx.iload 4 rfl dX6_plainFor_5 ?_
    refine zRx.aload_n 1 rfl rfl dX6_plainFor_7 ?_
    refine zRx.getR (a := 53) (b := 5) fl_6_96 rfl rfl dX6_plainFor_8 ?_
    refine zRx.getIv (a := 5) (ji := 0) (v := σ 5 0) rfl fl_6_102 rfl rfl rfl dX6_plainFor_11 ?_
    refine zRx.icmp_ge (tgt := 41) dX6_plainFor_14 (by decide) (fun c14 => ?_) (fun c14 => ?_)
    · refine zRx.iload_n 3 rfl rfl dX6_plainFor_41 ?_
      exact zR.iret rfl dX6_plainFor_42 (by have he : L_X6_plainFor_5 σ i (n + 1) fs q = fs := (by rw [L_X6_plainFor_5, if_pos c14]); rw [he]; exact ⟨rfl, rfl⟩)
    · refine zRx.aload_n 0 rfl rfl dX6_plainFor_17 ?_
      refine zRx.aload_n 1 rfl rfl dX6_plainFor_18 ?_
      refine zRx.iload 4 rfl dX6_plainFor_19 ?_
      refine zRx.iload_n 2 rfl rfl dX6_plainFor_21 ?_
      refine zRx.cVi (w := .inl (V_X6_isPlainOf σ q i)) (M := m_X6_isPlainOf) (av := [zP 53, .inl q, .inl i]) cv_6_109 mk_X6_isPlainOf (by decide) (b := 43) rfl rfl (Nat.le_of_ble_eq_true rfl) dX6_plainFor_22 (does_X6_isPlainOf σ q i hm hL hD (by omega) (by omega)) ?_
      refine zRx.if_eq (tgt := 35) dX6_plainFor_25 (by decide) (fun c25 => ?_) (fun c25 => ?_)
      · refine zRx.iinc (n := 1) (ls' := [(0, zP 43), (1, zP 53), (2, .inl i), (3, .inl fs), (4, .inl (q + 1))]) 4 rfl ⟨by omega, by omega⟩ rfl (by decide) dX6_plainFor_35 ?_
        refine zRx.goto (tgt := 5) dX6_plainFor_38 (by decide) ?_
        have he : L_X6_plainFor_5 σ i (n + 1) fs q = L_X6_plainFor_5 σ i n fs (q + 1) := by rw [L_X6_plainFor_5, if_neg (Int.not_le.mpr c14), if_pos c25]
        rw [he]
        exact ih fs (q + 1)  (by omega) (by omega)
      · refine zRx.iload_n 3 rfl rfl dX6_plainFor_28 ?_
        refine zRx.iconst ⟨by decide, by decide⟩ dX6_plainFor_29 ?_
        refine zRx.iload 4 rfl dX6_plainFor_30 ?_
        refine zRx.ishl dX6_plainFor_32 ?_
        refine zRx.ior dX6_plainFor_33 ?_
        refine zRx.istore_n (ls' := [(0, zP 43), (1, zP 53), (2, .inl i), (3, .inl (bor fs (bshl 1 q))), (4, .inl q)]) rfl rfl (by decide) dX6_plainFor_34 ?_
        refine zRx.iinc (n := 1) (ls' := [(0, zP 43), (1, zP 53), (2, .inl i), (3, .inl (bor fs (bshl 1 q))), (4, .inl (q + 1))]) 4 rfl ⟨by omega, by omega⟩ rfl (by decide) dX6_plainFor_35 ?_
        refine zRx.goto (tgt := 5) dX6_plainFor_38 (by decide) ?_
        have he : L_X6_plainFor_5 σ i (n + 1) fs q = L_X6_plainFor_5 σ i n (bor fs (bshl 1 q)) (q + 1) := by rw [L_X6_plainFor_5, if_neg (Int.not_le.mpr c14), if_neg c25]
        rw [he]
        exact ih (bor fs (bshl 1 q)) (q + 1)  (by omega) (by omega)
def R_X6_plainFor (σ : zG) (i : Int) : Int := L_X6_plainFor_5 σ i 20 0 0
set_option maxRecDepth 20000 in
theorem does_X6_plainFor (σ : zG) (i : Int) (hm : σ 53 8 ≤ 128) (hL : σ 27 0 ≤ 60) (hD : WD σ) (hp : σ 5 0 ≤ 8) (hi : 0 ≤ i ∧ i < 40)  : zDo SC 4 m_X6_plainFor [zP 43, zP 53, .inl i] σ (zEq (some (.inl (R_X6_plainFor σ i))) σ) := by
  refine zDo.intro mk_X6_plainFor (Nat.le_of_ble_eq_true rfl) ?_
  refine zRx.iconst ⟨by decide, by decide⟩ dX6_plainFor_0 ?_
  refine zRx.istore_n (ls' := [(0, zP 43), (1, zP 53), (2, .inl i), (3, .inl 0)]) rfl rfl (by decide) dX6_plainFor_1 ?_
  refine zRx.iconst ⟨by decide, by decide⟩ dX6_plainFor_2 ?_
  refine zRx.istore (ls' := [(0, zP 43), (1, zP 53), (2, .inl i), (3, .inl 0), (4, .inl 0)]) rfl (by decide) dX6_plainFor_3 ?_
  have he : R_X6_plainFor σ i = L_X6_plainFor_5 σ i 20 0 0 := by rw [R_X6_plainFor]
  rw [he]
  exact loop_X6_plainFor_5 σ i hm hL hD hp hi  20 0 0  (by omega) (by omega)

theorem WD_row {σ τ : zG} (e : τ 53 = σ 53) (e2 : τ 64 = σ 64) (h : WD σ) : WD τ := by
  unfold WD at *
  rw [e, e2]
  exact h

def L_X6_holdsFor_17  (ev : Int) : Nat → Int → Int → zG → Int × zG
  | 0, _, _, σ => (0, σ)
  | n + 1, hi, q, σ => if (σ 43 1) ≤ q then (if hi ≤ 0 then (0, σ) else (σ 47 0, σ)) else (if (σ 44 q) = 18 then (if hi < 1 then (if (σ 44 q) = 17 then (if hi < 2 then (if 40 ≤ hi then (L_X6_holdsFor_17  ev n hi (q + 1) σ) else (L_X6_holdsFor_17  ev n (hi + 1) (q + 1) (zu σ 47 hi (R_X6_plainFor σ q)))) else (L_X6_holdsFor_17  ev n (hi + (-1)) (q + 1) (zu σ 47 ((hi + (-1)) - 1) (band (σ 47 ((hi + (-1)) - 1)) (σ 47 (hi + (-1))))))) else (if (σ 44 q) = 16 then (if hi < 2 then (if 40 ≤ hi then (L_X6_holdsFor_17  ev n hi (q + 1) σ) else (L_X6_holdsFor_17  ev n (hi + 1) (q + 1) (zu σ 47 hi (R_X6_plainFor σ q)))) else (L_X6_holdsFor_17  ev n (hi + (-1)) (q + 1) (zu σ 47 ((hi + (-1)) - 1) (bor (σ 47 ((hi + (-1)) - 1)) (σ 47 (hi + (-1))))))) else (if 40 ≤ hi then (L_X6_holdsFor_17  ev n hi (q + 1) σ) else (L_X6_holdsFor_17  ev n (hi + 1) (q + 1) (zu σ 47 hi (R_X6_plainFor σ q)))))) else (L_X6_holdsFor_17  ev n hi (q + 1) (zu σ 47 (hi - 1) (bxor (σ 47 (hi - 1)) ev)))) else (if (σ 44 q) = 17 then (if hi < 2 then (if 40 ≤ hi then (L_X6_holdsFor_17  ev n hi (q + 1) σ) else (L_X6_holdsFor_17  ev n (hi + 1) (q + 1) (zu σ 47 hi (R_X6_plainFor σ q)))) else (L_X6_holdsFor_17  ev n (hi + (-1)) (q + 1) (zu σ 47 ((hi + (-1)) - 1) (band (σ 47 ((hi + (-1)) - 1)) (σ 47 (hi + (-1))))))) else (if (σ 44 q) = 16 then (if hi < 2 then (if 40 ≤ hi then (L_X6_holdsFor_17  ev n hi (q + 1) σ) else (L_X6_holdsFor_17  ev n (hi + 1) (q + 1) (zu σ 47 hi (R_X6_plainFor σ q)))) else (L_X6_holdsFor_17  ev n (hi + (-1)) (q + 1) (zu σ 47 ((hi + (-1)) - 1) (bor (σ 47 ((hi + (-1)) - 1)) (σ 47 (hi + (-1))))))) else (if 40 ≤ hi then (L_X6_holdsFor_17  ev n hi (q + 1) σ) else (L_X6_holdsFor_17  ev n (hi + 1) (q + 1) (zu σ 47 hi (R_X6_plainFor σ q)))))))
theorem fr_L_X6_holdsFor_17  (ev : Int)  (n : Nat) (hi q : Int) (σ : zG) {k : Nat} (h : k ∉ [47]) : (L_X6_holdsFor_17  ev n hi q σ).2 k = σ k := by
  induction n generalizing hi q σ with
  | zero => rfl
  | succ n ih =>
    have ne : ∀ c ∈ [47], k ≠ c := fun c hc e => h (e ▸ hc)
    rw [L_X6_holdsFor_17]
    repeat' split
    all_goals first | rfl | simp only [zu_row _ _ _ (ne 47 (by decide)), ih]

set_option maxRecDepth 20000 in
theorem loop_X6_holdsFor_17   (ev : Int) : ∀ (n : Nat) (hi q : Int) (σ : zG), 0 ≤ q ∧ 0 ≤ hi ∧ hi ≤ 40 → σ 53 8 ≤ 128 → σ 27 0 ≤ 60 → WD σ → σ 5 0 ≤ 8 → σ 43 1 ≤ 40 → (σ 43 1 - q).toNat < n → zR SC 5 m_X6_holdsFor 17 [(0, zP 43), (1, zP 53), (2, .inl ev), (3, .inl hi), (4, .inl q)] [] σ (zEq (some (.inl (L_X6_holdsFor_17  ev n hi q σ).1)) (L_X6_holdsFor_17  ev n hi q σ).2) := by
  intro n
  induction n with
  | zero => intro hi q σ h0 hm hL hD hp hs hmz; exact absurd hmz (Nat.not_lt_zero _)
  | succ n ih =>
    intro hi q σ h0 hm hL hD hp hs hmz
    refine zRx.iload 4 rfl dX6_holdsFor_17 ?_
    refine zRx.aload_n 0 rfl rfl dX6_holdsFor_19 ?_
    refine zRx.getIv (a := 43) (ji := 1) (v := σ 43 1) rfl fl_6_28 rfl rfl rfl dX6_holdsFor_20 ?_
    refine zRx.icmp_ge (tgt := 160) dX6_holdsFor_23 (by decide) (fun c23 => ?_) (fun c23 => ?_)
    · refine zRx.iload_n 3 rfl rfl dX6_holdsFor_160 ?_
      refine zRx.if_le (tgt := 173) dX6_holdsFor_161 (by decide) (fun c161 => ?_) (fun c161 => ?_)
      · refine zRx.iconst ⟨by decide, by decide⟩ dX6_holdsFor_173 ?_
        exact zR.iret rfl dX6_holdsFor_174 (by have he : L_X6_holdsFor_17  ev (n + 1) hi q σ = (0, σ) := (by rw [L_X6_holdsFor_17, if_pos c23, if_pos c161]); rw [he]; exact ⟨rfl, rfl⟩)
      · refine zRx.aload_n 0 rfl rfl dX6_holdsFor_164 ?_
        refine zRx.getR (a := 43) (b := 47) fl_6_21 rfl rfl dX6_holdsFor_165 ?_
        refine zRx.iconst ⟨by decide, by decide⟩ dX6_holdsFor_168 ?_
        refine zRx.ialdv (v := σ 47 0) rfl rfl (by decide) (by decide) dX6_holdsFor_169 ?_
        refine zRx.goto (tgt := 174) dX6_holdsFor_170 (by decide) ?_
        exact zR.iret rfl dX6_holdsFor_174 (by have he : L_X6_holdsFor_17  ev (n + 1) hi q σ = (σ 47 0, σ) := (by rw [L_X6_holdsFor_17, if_pos c23, if_neg (Int.not_le.mpr c161)]); rw [he]; exact ⟨rfl, rfl⟩)
    · refine zRx.aload_n 0 rfl rfl dX6_holdsFor_26 ?_
      refine zRx.getR (a := 43) (b := 44) fl_6_11 rfl rfl dX6_holdsFor_27 ?_
      refine zRx.iload 4 rfl dX6_holdsFor_30 ?_
      refine zRx.ialdv (v := σ 44 q) rfl rfl (by omega) (by omega) dX6_holdsFor_32 ?_
      refine zRx.istore (ls' := [(0, zP 43), (1, zP 53), (2, .inl ev), (3, .inl hi), (4, .inl q), (5, .inl (σ 44 q))]) rfl (by decide) dX6_holdsFor_33 ?_
      refine zRx.iload 5 rfl dX6_holdsFor_35 ?_
      refine zRx.bipush ⟨by decide, by decide⟩ rfl dX6_holdsFor_37 ?_
      refine zRx.icmp_ne (tgt := 62) dX6_holdsFor_39 (by decide) (fun c39 => ?_) (fun c39 => ?_)
      · refine zRx.iload 5 rfl dX6_holdsFor_62 ?_
        refine zRx.bipush ⟨by decide, by decide⟩ rfl dX6_holdsFor_64 ?_
        refine zRx.icmp_ne (tgt := 97) dX6_holdsFor_66 (by decide) (fun c66 => ?_) (fun c66 => ?_)
        · refine zRx.iload 5 rfl dX6_holdsFor_97 ?_
          refine zRx.bipush ⟨by decide, by decide⟩ rfl dX6_holdsFor_99 ?_
          refine zRx.icmp_ne (tgt := 132) dX6_holdsFor_101 (by decide) (fun c101 => ?_) (fun c101 => ?_)
          · refine zRx.iload_n 3 rfl rfl dX6_holdsFor_132 ?_
            refine zRx.bipush ⟨by decide, by decide⟩ rfl dX6_holdsFor_133 ?_
            refine zRx.icmp_ge (tgt := 154) dX6_holdsFor_135 (by decide) (fun c135 => ?_) (fun c135 => ?_)
            · refine zRx.iinc (n := 1) (ls' := [(0, zP 43), (1, zP 53), (2, .inl ev), (3, .inl hi), (4, .inl (q + 1)), (5, .inl (σ 44 q))]) 4 rfl ⟨by omega, by omega⟩ rfl (by decide) dX6_holdsFor_154 ?_
              refine zRx.goto (tgt := 17) dX6_holdsFor_157 (by decide) ?_
              refine zRx.pick [0, 1, 2, 3, 4] (ls' := [(0, zP 43), (1, zP 53), (2, .inl ev), (3, .inl hi), (4, .inl (q + 1))]) rfl ?_
              have he : L_X6_holdsFor_17  ev (n + 1) hi q σ = L_X6_holdsFor_17  ev n hi (q + 1) σ := by rw [L_X6_holdsFor_17, if_neg (Int.not_le.mpr c23), if_neg c39, if_neg c66, if_neg c101, if_pos c135]
              rw [he]
              exact ih hi (q + 1) σ (by omega) hm hL hD hp hs (by omega)
            · refine zRx.aload_n 0 rfl rfl dX6_holdsFor_138 ?_
              refine zRx.getR (a := 43) (b := 47) fl_6_21 rfl rfl dX6_holdsFor_139 ?_
              refine zRx.iload_n 3 rfl rfl dX6_holdsFor_142 ?_
              refine zRx.aload_n 0 rfl rfl dX6_holdsFor_143 ?_
              refine zRx.aload_n 1 rfl rfl dX6_holdsFor_144 ?_
              refine zRx.iload 4 rfl dX6_holdsFor_145 ?_
              refine zRx.cVi (w := .inl (R_X6_plainFor σ q)) (M := m_X6_plainFor) (av := [zP 53, .inl q]) cv_6_105 mk_X6_plainFor (by decide) (b := 43) rfl rfl (Nat.le_of_ble_eq_true rfl) dX6_holdsFor_147 (does_X6_plainFor σ q hm hL hD hp (by omega)) ?_
              refine zRx.iast rfl (by omega) (by omega) dX6_holdsFor_150 ?_
              refine zRx.iinc (n := 1) (ls' := [(0, zP 43), (1, zP 53), (2, .inl ev), (3, .inl (hi + 1)), (4, .inl q), (5, .inl (σ 44 q))]) 3 rfl ⟨by omega, by omega⟩ rfl (by decide) dX6_holdsFor_151 ?_
              refine zRx.iinc (n := 1) (ls' := [(0, zP 43), (1, zP 53), (2, .inl ev), (3, .inl (hi + 1)), (4, .inl (q + 1)), (5, .inl (σ 44 q))]) 4 rfl ⟨by omega, by omega⟩ rfl (by decide) dX6_holdsFor_154 ?_
              refine zRx.goto (tgt := 17) dX6_holdsFor_157 (by decide) ?_
              refine zRx.pick [0, 1, 2, 3, 4] (ls' := [(0, zP 43), (1, zP 53), (2, .inl ev), (3, .inl (hi + 1)), (4, .inl (q + 1))]) rfl ?_
              have he : L_X6_holdsFor_17  ev (n + 1) hi q σ = L_X6_holdsFor_17  ev n (hi + 1) (q + 1) (zu σ 47 hi (R_X6_plainFor σ q)) := by rw [L_X6_holdsFor_17, if_neg (Int.not_le.mpr c23), if_neg c39, if_neg c66, if_neg c101, if_neg (Int.not_le.mpr c135)]
              rw [he]
              exact ih (hi + 1) (q + 1) (zu σ 47 hi (R_X6_plainFor σ q)) (by omega) (by have e9 : (zu σ 47 hi (R_X6_plainFor σ q)) 53 8 = σ 53 8 := (zu_ne _ _ _ _ (by decide)); omega) (by have e9 : (zu σ 47 hi (R_X6_plainFor σ q)) 27 0 = σ 27 0 := (zu_ne _ _ _ _ (by decide)); omega) (WD_row (zu_row _ _ _ (by decide)) (zu_row _ _ _ (by decide)) hD) (by have e9 : (zu σ 47 hi (R_X6_plainFor σ q)) 5 0 = σ 5 0 := (zu_ne _ _ _ _ (by decide)); omega) (by have e9 : (zu σ 47 hi (R_X6_plainFor σ q)) 43 1 = σ 43 1 := (zu_ne _ _ _ _ (by decide)); omega) (by have e9 : (zu σ 47 hi (R_X6_plainFor σ q)) 43 1 = σ 43 1 := (zu_ne _ _ _ _ (by decide)); omega)
          · refine zRx.iload_n 3 rfl rfl dX6_holdsFor_104 ?_
            refine zRx.iconst ⟨by decide, by decide⟩ dX6_holdsFor_105 ?_
            refine zRx.icmp_lt (tgt := 132) dX6_holdsFor_106 (by decide) (fun c106 => ?_) (fun c106 => ?_)
            · refine zRx.iload_n 3 rfl rfl dX6_holdsFor_132 ?_
              refine zRx.bipush ⟨by decide, by decide⟩ rfl dX6_holdsFor_133 ?_
              refine zRx.icmp_ge (tgt := 154) dX6_holdsFor_135 (by decide) (fun c135 => ?_) (fun c135 => ?_)
              · refine zRx.iinc (n := 1) (ls' := [(0, zP 43), (1, zP 53), (2, .inl ev), (3, .inl hi), (4, .inl (q + 1)), (5, .inl (σ 44 q))]) 4 rfl ⟨by omega, by omega⟩ rfl (by decide) dX6_holdsFor_154 ?_
                refine zRx.goto (tgt := 17) dX6_holdsFor_157 (by decide) ?_
                refine zRx.pick [0, 1, 2, 3, 4] (ls' := [(0, zP 43), (1, zP 53), (2, .inl ev), (3, .inl hi), (4, .inl (q + 1))]) rfl ?_
                have he : L_X6_holdsFor_17  ev (n + 1) hi q σ = L_X6_holdsFor_17  ev n hi (q + 1) σ := by rw [L_X6_holdsFor_17, if_neg (Int.not_le.mpr c23), if_neg c39, if_neg c66, if_pos c101, if_pos c106, if_pos c135]
                rw [he]
                exact ih hi (q + 1) σ (by omega) hm hL hD hp hs (by omega)
              · refine zRx.aload_n 0 rfl rfl dX6_holdsFor_138 ?_
                refine zRx.getR (a := 43) (b := 47) fl_6_21 rfl rfl dX6_holdsFor_139 ?_
                refine zRx.iload_n 3 rfl rfl dX6_holdsFor_142 ?_
                refine zRx.aload_n 0 rfl rfl dX6_holdsFor_143 ?_
                refine zRx.aload_n 1 rfl rfl dX6_holdsFor_144 ?_
                refine zRx.iload 4 rfl dX6_holdsFor_145 ?_
                refine zRx.cVi (w := .inl (R_X6_plainFor σ q)) (M := m_X6_plainFor) (av := [zP 53, .inl q]) cv_6_105 mk_X6_plainFor (by decide) (b := 43) rfl rfl (Nat.le_of_ble_eq_true rfl) dX6_holdsFor_147 (does_X6_plainFor σ q hm hL hD hp (by omega)) ?_
                refine zRx.iast rfl (by omega) (by omega) dX6_holdsFor_150 ?_
                refine zRx.iinc (n := 1) (ls' := [(0, zP 43), (1, zP 53), (2, .inl ev), (3, .inl (hi + 1)), (4, .inl q), (5, .inl (σ 44 q))]) 3 rfl ⟨by omega, by omega⟩ rfl (by decide) dX6_holdsFor_151 ?_
                refine zRx.iinc (n := 1) (ls' := [(0, zP 43), (1, zP 53), (2, .inl ev), (3, .inl (hi + 1)), (4, .inl (q + 1)), (5, .inl (σ 44 q))]) 4 rfl ⟨by omega, by omega⟩ rfl (by decide) dX6_holdsFor_154 ?_
                refine zRx.goto (tgt := 17) dX6_holdsFor_157 (by decide) ?_
                refine zRx.pick [0, 1, 2, 3, 4] (ls' := [(0, zP 43), (1, zP 53), (2, .inl ev), (3, .inl (hi + 1)), (4, .inl (q + 1))]) rfl ?_
                have he : L_X6_holdsFor_17  ev (n + 1) hi q σ = L_X6_holdsFor_17  ev n (hi + 1) (q + 1) (zu σ 47 hi (R_X6_plainFor σ q)) := by rw [L_X6_holdsFor_17, if_neg (Int.not_le.mpr c23), if_neg c39, if_neg c66, if_pos c101, if_pos c106, if_neg (Int.not_le.mpr c135)]
                rw [he]
                exact ih (hi + 1) (q + 1) (zu σ 47 hi (R_X6_plainFor σ q)) (by omega) (by have e9 : (zu σ 47 hi (R_X6_plainFor σ q)) 53 8 = σ 53 8 := (zu_ne _ _ _ _ (by decide)); omega) (by have e9 : (zu σ 47 hi (R_X6_plainFor σ q)) 27 0 = σ 27 0 := (zu_ne _ _ _ _ (by decide)); omega) (WD_row (zu_row _ _ _ (by decide)) (zu_row _ _ _ (by decide)) hD) (by have e9 : (zu σ 47 hi (R_X6_plainFor σ q)) 5 0 = σ 5 0 := (zu_ne _ _ _ _ (by decide)); omega) (by have e9 : (zu σ 47 hi (R_X6_plainFor σ q)) 43 1 = σ 43 1 := (zu_ne _ _ _ _ (by decide)); omega) (by have e9 : (zu σ 47 hi (R_X6_plainFor σ q)) 43 1 = σ 43 1 := (zu_ne _ _ _ _ (by decide)); omega)
            · refine zRx.iinc (n := -1) (ls' := [(0, zP 43), (1, zP 53), (2, .inl ev), (3, .inl (hi + (-1))), (4, .inl q), (5, .inl (σ 44 q))]) 3 rfl ⟨by omega, by omega⟩ rfl (by decide) dX6_holdsFor_109 ?_
              refine zRx.aload_n 0 rfl rfl dX6_holdsFor_112 ?_
              refine zRx.getR (a := 43) (b := 47) fl_6_21 rfl rfl dX6_holdsFor_113 ?_
              refine zRx.iload_n 3 rfl rfl dX6_holdsFor_116 ?_
              refine zRx.iconst ⟨by decide, by decide⟩ dX6_holdsFor_117 ?_
              refine zRx.isub ⟨by omega, by omega⟩ dX6_holdsFor_118 ?_
              refine zRx.dup2 rfl rfl dX6_holdsFor_119 ?_
              refine zRx.ialdv (v := σ 47 ((hi + (-1)) - 1)) rfl rfl (by omega) (by omega) dX6_holdsFor_120 ?_
              refine zRx.aload_n 0 rfl rfl dX6_holdsFor_121 ?_
              refine zRx.getR (a := 43) (b := 47) fl_6_21 rfl rfl dX6_holdsFor_122 ?_
              refine zRx.iload_n 3 rfl rfl dX6_holdsFor_125 ?_
              refine zRx.ialdv (v := σ 47 (hi + (-1))) rfl rfl (by omega) (by omega) dX6_holdsFor_126 ?_
              refine zRx.ior dX6_holdsFor_127 ?_
              refine zRx.iast rfl (by omega) (by omega) dX6_holdsFor_128 ?_
              refine zRx.goto (tgt := 154) dX6_holdsFor_129 (by decide) ?_
              refine zRx.iinc (n := 1) (ls' := [(0, zP 43), (1, zP 53), (2, .inl ev), (3, .inl (hi + (-1))), (4, .inl (q + 1)), (5, .inl (σ 44 q))]) 4 rfl ⟨by omega, by omega⟩ rfl (by decide) dX6_holdsFor_154 ?_
              refine zRx.goto (tgt := 17) dX6_holdsFor_157 (by decide) ?_
              refine zRx.pick [0, 1, 2, 3, 4] (ls' := [(0, zP 43), (1, zP 53), (2, .inl ev), (3, .inl (hi + (-1))), (4, .inl (q + 1))]) rfl ?_
              have he : L_X6_holdsFor_17  ev (n + 1) hi q σ = L_X6_holdsFor_17  ev n (hi + (-1)) (q + 1) (zu σ 47 ((hi + (-1)) - 1) (bor (σ 47 ((hi + (-1)) - 1)) (σ 47 (hi + (-1))))) := by rw [L_X6_holdsFor_17, if_neg (Int.not_le.mpr c23), if_neg c39, if_neg c66, if_pos c101, if_neg (Int.not_lt.mpr c106)]
              rw [he]
              exact ih (hi + (-1)) (q + 1) (zu σ 47 ((hi + (-1)) - 1) (bor (σ 47 ((hi + (-1)) - 1)) (σ 47 (hi + (-1))))) (by omega) (by have e9 : (zu σ 47 ((hi + (-1)) - 1) (bor (σ 47 ((hi + (-1)) - 1)) (σ 47 (hi + (-1))))) 53 8 = σ 53 8 := (zu_ne _ _ _ _ (by decide)); omega) (by have e9 : (zu σ 47 ((hi + (-1)) - 1) (bor (σ 47 ((hi + (-1)) - 1)) (σ 47 (hi + (-1))))) 27 0 = σ 27 0 := (zu_ne _ _ _ _ (by decide)); omega) (WD_row (zu_row _ _ _ (by decide)) (zu_row _ _ _ (by decide)) hD) (by have e9 : (zu σ 47 ((hi + (-1)) - 1) (bor (σ 47 ((hi + (-1)) - 1)) (σ 47 (hi + (-1))))) 5 0 = σ 5 0 := (zu_ne _ _ _ _ (by decide)); omega) (by have e9 : (zu σ 47 ((hi + (-1)) - 1) (bor (σ 47 ((hi + (-1)) - 1)) (σ 47 (hi + (-1))))) 43 1 = σ 43 1 := (zu_ne _ _ _ _ (by decide)); omega) (by have e9 : (zu σ 47 ((hi + (-1)) - 1) (bor (σ 47 ((hi + (-1)) - 1)) (σ 47 (hi + (-1))))) 43 1 = σ 43 1 := (zu_ne _ _ _ _ (by decide)); omega)
        · refine zRx.iload_n 3 rfl rfl dX6_holdsFor_69 ?_
          refine zRx.iconst ⟨by decide, by decide⟩ dX6_holdsFor_70 ?_
          refine zRx.icmp_lt (tgt := 97) dX6_holdsFor_71 (by decide) (fun c71 => ?_) (fun c71 => ?_)
          · refine zRx.iload 5 rfl dX6_holdsFor_97 ?_
            refine zRx.bipush ⟨by decide, by decide⟩ rfl dX6_holdsFor_99 ?_
            refine zRx.icmp_ne (tgt := 132) dX6_holdsFor_101 (by decide) (fun c101 => ?_) (fun c101 => ?_)
            · refine zRx.iload_n 3 rfl rfl dX6_holdsFor_132 ?_
              refine zRx.bipush ⟨by decide, by decide⟩ rfl dX6_holdsFor_133 ?_
              refine zRx.icmp_ge (tgt := 154) dX6_holdsFor_135 (by decide) (fun c135 => ?_) (fun c135 => ?_)
              · refine zRx.iinc (n := 1) (ls' := [(0, zP 43), (1, zP 53), (2, .inl ev), (3, .inl hi), (4, .inl (q + 1)), (5, .inl (σ 44 q))]) 4 rfl ⟨by omega, by omega⟩ rfl (by decide) dX6_holdsFor_154 ?_
                refine zRx.goto (tgt := 17) dX6_holdsFor_157 (by decide) ?_
                refine zRx.pick [0, 1, 2, 3, 4] (ls' := [(0, zP 43), (1, zP 53), (2, .inl ev), (3, .inl hi), (4, .inl (q + 1))]) rfl ?_
                have he : L_X6_holdsFor_17  ev (n + 1) hi q σ = L_X6_holdsFor_17  ev n hi (q + 1) σ := by rw [L_X6_holdsFor_17, if_neg (Int.not_le.mpr c23), if_neg c39, if_pos c66, if_pos c71, if_pos c135]
                rw [he]
                exact ih hi (q + 1) σ (by omega) hm hL hD hp hs (by omega)
              · refine zRx.aload_n 0 rfl rfl dX6_holdsFor_138 ?_
                refine zRx.getR (a := 43) (b := 47) fl_6_21 rfl rfl dX6_holdsFor_139 ?_
                refine zRx.iload_n 3 rfl rfl dX6_holdsFor_142 ?_
                refine zRx.aload_n 0 rfl rfl dX6_holdsFor_143 ?_
                refine zRx.aload_n 1 rfl rfl dX6_holdsFor_144 ?_
                refine zRx.iload 4 rfl dX6_holdsFor_145 ?_
                refine zRx.cVi (w := .inl (R_X6_plainFor σ q)) (M := m_X6_plainFor) (av := [zP 53, .inl q]) cv_6_105 mk_X6_plainFor (by decide) (b := 43) rfl rfl (Nat.le_of_ble_eq_true rfl) dX6_holdsFor_147 (does_X6_plainFor σ q hm hL hD hp (by omega)) ?_
                refine zRx.iast rfl (by omega) (by omega) dX6_holdsFor_150 ?_
                refine zRx.iinc (n := 1) (ls' := [(0, zP 43), (1, zP 53), (2, .inl ev), (3, .inl (hi + 1)), (4, .inl q), (5, .inl (σ 44 q))]) 3 rfl ⟨by omega, by omega⟩ rfl (by decide) dX6_holdsFor_151 ?_
                refine zRx.iinc (n := 1) (ls' := [(0, zP 43), (1, zP 53), (2, .inl ev), (3, .inl (hi + 1)), (4, .inl (q + 1)), (5, .inl (σ 44 q))]) 4 rfl ⟨by omega, by omega⟩ rfl (by decide) dX6_holdsFor_154 ?_
                refine zRx.goto (tgt := 17) dX6_holdsFor_157 (by decide) ?_
                refine zRx.pick [0, 1, 2, 3, 4] (ls' := [(0, zP 43), (1, zP 53), (2, .inl ev), (3, .inl (hi + 1)), (4, .inl (q + 1))]) rfl ?_
                have he : L_X6_holdsFor_17  ev (n + 1) hi q σ = L_X6_holdsFor_17  ev n (hi + 1) (q + 1) (zu σ 47 hi (R_X6_plainFor σ q)) := by rw [L_X6_holdsFor_17, if_neg (Int.not_le.mpr c23), if_neg c39, if_pos c66, if_pos c71, if_neg (Int.not_le.mpr c135)]
                rw [he]
                exact ih (hi + 1) (q + 1) (zu σ 47 hi (R_X6_plainFor σ q)) (by omega) (by have e9 : (zu σ 47 hi (R_X6_plainFor σ q)) 53 8 = σ 53 8 := (zu_ne _ _ _ _ (by decide)); omega) (by have e9 : (zu σ 47 hi (R_X6_plainFor σ q)) 27 0 = σ 27 0 := (zu_ne _ _ _ _ (by decide)); omega) (WD_row (zu_row _ _ _ (by decide)) (zu_row _ _ _ (by decide)) hD) (by have e9 : (zu σ 47 hi (R_X6_plainFor σ q)) 5 0 = σ 5 0 := (zu_ne _ _ _ _ (by decide)); omega) (by have e9 : (zu σ 47 hi (R_X6_plainFor σ q)) 43 1 = σ 43 1 := (zu_ne _ _ _ _ (by decide)); omega) (by have e9 : (zu σ 47 hi (R_X6_plainFor σ q)) 43 1 = σ 43 1 := (zu_ne _ _ _ _ (by decide)); omega)
            · refine zRx.iload_n 3 rfl rfl dX6_holdsFor_104 ?_
              refine zRx.iconst ⟨by decide, by decide⟩ dX6_holdsFor_105 ?_
              refine zRx.icmp_lt (tgt := 132) dX6_holdsFor_106 (by decide) (fun c106 => ?_) (fun c106 => absurd c71 (Int.not_lt.mpr c106))
              refine zRx.iload_n 3 rfl rfl dX6_holdsFor_132 ?_
              refine zRx.bipush ⟨by decide, by decide⟩ rfl dX6_holdsFor_133 ?_
              refine zRx.icmp_ge (tgt := 154) dX6_holdsFor_135 (by decide) (fun c135 => ?_) (fun c135 => ?_)
              · refine zRx.iinc (n := 1) (ls' := [(0, zP 43), (1, zP 53), (2, .inl ev), (3, .inl hi), (4, .inl (q + 1)), (5, .inl (σ 44 q))]) 4 rfl ⟨by omega, by omega⟩ rfl (by decide) dX6_holdsFor_154 ?_
                refine zRx.goto (tgt := 17) dX6_holdsFor_157 (by decide) ?_
                refine zRx.pick [0, 1, 2, 3, 4] (ls' := [(0, zP 43), (1, zP 53), (2, .inl ev), (3, .inl hi), (4, .inl (q + 1))]) rfl ?_
                have he : L_X6_holdsFor_17  ev (n + 1) hi q σ = L_X6_holdsFor_17  ev n hi (q + 1) σ := by rw [L_X6_holdsFor_17, if_neg (Int.not_le.mpr c23), if_neg c39, if_pos c66, if_pos c71, if_pos c135]
                rw [he]
                exact ih hi (q + 1) σ (by omega) hm hL hD hp hs (by omega)
              · refine zRx.aload_n 0 rfl rfl dX6_holdsFor_138 ?_
                refine zRx.getR (a := 43) (b := 47) fl_6_21 rfl rfl dX6_holdsFor_139 ?_
                refine zRx.iload_n 3 rfl rfl dX6_holdsFor_142 ?_
                refine zRx.aload_n 0 rfl rfl dX6_holdsFor_143 ?_
                refine zRx.aload_n 1 rfl rfl dX6_holdsFor_144 ?_
                refine zRx.iload 4 rfl dX6_holdsFor_145 ?_
                refine zRx.cVi (w := .inl (R_X6_plainFor σ q)) (M := m_X6_plainFor) (av := [zP 53, .inl q]) cv_6_105 mk_X6_plainFor (by decide) (b := 43) rfl rfl (Nat.le_of_ble_eq_true rfl) dX6_holdsFor_147 (does_X6_plainFor σ q hm hL hD hp (by omega)) ?_
                refine zRx.iast rfl (by omega) (by omega) dX6_holdsFor_150 ?_
                refine zRx.iinc (n := 1) (ls' := [(0, zP 43), (1, zP 53), (2, .inl ev), (3, .inl (hi + 1)), (4, .inl q), (5, .inl (σ 44 q))]) 3 rfl ⟨by omega, by omega⟩ rfl (by decide) dX6_holdsFor_151 ?_
                refine zRx.iinc (n := 1) (ls' := [(0, zP 43), (1, zP 53), (2, .inl ev), (3, .inl (hi + 1)), (4, .inl (q + 1)), (5, .inl (σ 44 q))]) 4 rfl ⟨by omega, by omega⟩ rfl (by decide) dX6_holdsFor_154 ?_
                refine zRx.goto (tgt := 17) dX6_holdsFor_157 (by decide) ?_
                refine zRx.pick [0, 1, 2, 3, 4] (ls' := [(0, zP 43), (1, zP 53), (2, .inl ev), (3, .inl (hi + 1)), (4, .inl (q + 1))]) rfl ?_
                have he : L_X6_holdsFor_17  ev (n + 1) hi q σ = L_X6_holdsFor_17  ev n (hi + 1) (q + 1) (zu σ 47 hi (R_X6_plainFor σ q)) := by rw [L_X6_holdsFor_17, if_neg (Int.not_le.mpr c23), if_neg c39, if_pos c66, if_pos c71, if_neg (Int.not_le.mpr c135)]
                rw [he]
                exact ih (hi + 1) (q + 1) (zu σ 47 hi (R_X6_plainFor σ q)) (by omega) (by have e9 : (zu σ 47 hi (R_X6_plainFor σ q)) 53 8 = σ 53 8 := (zu_ne _ _ _ _ (by decide)); omega) (by have e9 : (zu σ 47 hi (R_X6_plainFor σ q)) 27 0 = σ 27 0 := (zu_ne _ _ _ _ (by decide)); omega) (WD_row (zu_row _ _ _ (by decide)) (zu_row _ _ _ (by decide)) hD) (by have e9 : (zu σ 47 hi (R_X6_plainFor σ q)) 5 0 = σ 5 0 := (zu_ne _ _ _ _ (by decide)); omega) (by have e9 : (zu σ 47 hi (R_X6_plainFor σ q)) 43 1 = σ 43 1 := (zu_ne _ _ _ _ (by decide)); omega) (by have e9 : (zu σ 47 hi (R_X6_plainFor σ q)) 43 1 = σ 43 1 := (zu_ne _ _ _ _ (by decide)); omega)
          · refine zRx.iinc (n := -1) (ls' := [(0, zP 43), (1, zP 53), (2, .inl ev), (3, .inl (hi + (-1))), (4, .inl q), (5, .inl (σ 44 q))]) 3 rfl ⟨by omega, by omega⟩ rfl (by decide) dX6_holdsFor_74 ?_
            refine zRx.aload_n 0 rfl rfl dX6_holdsFor_77 ?_
            refine zRx.getR (a := 43) (b := 47) fl_6_21 rfl rfl dX6_holdsFor_78 ?_
            refine zRx.iload_n 3 rfl rfl dX6_holdsFor_81 ?_
            refine zRx.iconst ⟨by decide, by decide⟩ dX6_holdsFor_82 ?_
            refine zRx.isub ⟨by omega, by omega⟩ dX6_holdsFor_83 ?_
            refine zRx.dup2 rfl rfl dX6_holdsFor_84 ?_
            refine zRx.ialdv (v := σ 47 ((hi + (-1)) - 1)) rfl rfl (by omega) (by omega) dX6_holdsFor_85 ?_
            refine zRx.aload_n 0 rfl rfl dX6_holdsFor_86 ?_
            refine zRx.getR (a := 43) (b := 47) fl_6_21 rfl rfl dX6_holdsFor_87 ?_
            refine zRx.iload_n 3 rfl rfl dX6_holdsFor_90 ?_
            refine zRx.ialdv (v := σ 47 (hi + (-1))) rfl rfl (by omega) (by omega) dX6_holdsFor_91 ?_
            refine zRx.iand dX6_holdsFor_92 ?_
            refine zRx.iast rfl (by omega) (by omega) dX6_holdsFor_93 ?_
            refine zRx.goto (tgt := 154) dX6_holdsFor_94 (by decide) ?_
            refine zRx.iinc (n := 1) (ls' := [(0, zP 43), (1, zP 53), (2, .inl ev), (3, .inl (hi + (-1))), (4, .inl (q + 1)), (5, .inl (σ 44 q))]) 4 rfl ⟨by omega, by omega⟩ rfl (by decide) dX6_holdsFor_154 ?_
            refine zRx.goto (tgt := 17) dX6_holdsFor_157 (by decide) ?_
            refine zRx.pick [0, 1, 2, 3, 4] (ls' := [(0, zP 43), (1, zP 53), (2, .inl ev), (3, .inl (hi + (-1))), (4, .inl (q + 1))]) rfl ?_
            have he : L_X6_holdsFor_17  ev (n + 1) hi q σ = L_X6_holdsFor_17  ev n (hi + (-1)) (q + 1) (zu σ 47 ((hi + (-1)) - 1) (band (σ 47 ((hi + (-1)) - 1)) (σ 47 (hi + (-1))))) := by rw [L_X6_holdsFor_17, if_neg (Int.not_le.mpr c23), if_neg c39, if_pos c66, if_neg (Int.not_lt.mpr c71)]
            rw [he]
            exact ih (hi + (-1)) (q + 1) (zu σ 47 ((hi + (-1)) - 1) (band (σ 47 ((hi + (-1)) - 1)) (σ 47 (hi + (-1))))) (by omega) (by have e9 : (zu σ 47 ((hi + (-1)) - 1) (band (σ 47 ((hi + (-1)) - 1)) (σ 47 (hi + (-1))))) 53 8 = σ 53 8 := (zu_ne _ _ _ _ (by decide)); omega) (by have e9 : (zu σ 47 ((hi + (-1)) - 1) (band (σ 47 ((hi + (-1)) - 1)) (σ 47 (hi + (-1))))) 27 0 = σ 27 0 := (zu_ne _ _ _ _ (by decide)); omega) (WD_row (zu_row _ _ _ (by decide)) (zu_row _ _ _ (by decide)) hD) (by have e9 : (zu σ 47 ((hi + (-1)) - 1) (band (σ 47 ((hi + (-1)) - 1)) (σ 47 (hi + (-1))))) 5 0 = σ 5 0 := (zu_ne _ _ _ _ (by decide)); omega) (by have e9 : (zu σ 47 ((hi + (-1)) - 1) (band (σ 47 ((hi + (-1)) - 1)) (σ 47 (hi + (-1))))) 43 1 = σ 43 1 := (zu_ne _ _ _ _ (by decide)); omega) (by have e9 : (zu σ 47 ((hi + (-1)) - 1) (band (σ 47 ((hi + (-1)) - 1)) (σ 47 (hi + (-1))))) 43 1 = σ 43 1 := (zu_ne _ _ _ _ (by decide)); omega)
      · refine zRx.iload_n 3 rfl rfl dX6_holdsFor_42 ?_
        refine zRx.iconst ⟨by decide, by decide⟩ dX6_holdsFor_43 ?_
        refine zRx.icmp_lt (tgt := 62) dX6_holdsFor_44 (by decide) (fun c44 => ?_) (fun c44 => ?_)
        · refine zRx.iload 5 rfl dX6_holdsFor_62 ?_
          refine zRx.bipush ⟨by decide, by decide⟩ rfl dX6_holdsFor_64 ?_
          refine zRx.icmp_ne (tgt := 97) dX6_holdsFor_66 (by decide) (fun c66 => ?_) (fun c66 => ?_)
          · refine zRx.iload 5 rfl dX6_holdsFor_97 ?_
            refine zRx.bipush ⟨by decide, by decide⟩ rfl dX6_holdsFor_99 ?_
            refine zRx.icmp_ne (tgt := 132) dX6_holdsFor_101 (by decide) (fun c101 => ?_) (fun c101 => ?_)
            · refine zRx.iload_n 3 rfl rfl dX6_holdsFor_132 ?_
              refine zRx.bipush ⟨by decide, by decide⟩ rfl dX6_holdsFor_133 ?_
              refine zRx.icmp_ge (tgt := 154) dX6_holdsFor_135 (by decide) (fun c135 => ?_) (fun c135 => ?_)
              · refine zRx.iinc (n := 1) (ls' := [(0, zP 43), (1, zP 53), (2, .inl ev), (3, .inl hi), (4, .inl (q + 1)), (5, .inl (σ 44 q))]) 4 rfl ⟨by omega, by omega⟩ rfl (by decide) dX6_holdsFor_154 ?_
                refine zRx.goto (tgt := 17) dX6_holdsFor_157 (by decide) ?_
                refine zRx.pick [0, 1, 2, 3, 4] (ls' := [(0, zP 43), (1, zP 53), (2, .inl ev), (3, .inl hi), (4, .inl (q + 1))]) rfl ?_
                have he : L_X6_holdsFor_17  ev (n + 1) hi q σ = L_X6_holdsFor_17  ev n hi (q + 1) σ := by rw [L_X6_holdsFor_17, if_neg (Int.not_le.mpr c23), if_pos c39, if_pos c44, if_neg c66, if_neg c101, if_pos c135]
                rw [he]
                exact ih hi (q + 1) σ (by omega) hm hL hD hp hs (by omega)
              · refine zRx.aload_n 0 rfl rfl dX6_holdsFor_138 ?_
                refine zRx.getR (a := 43) (b := 47) fl_6_21 rfl rfl dX6_holdsFor_139 ?_
                refine zRx.iload_n 3 rfl rfl dX6_holdsFor_142 ?_
                refine zRx.aload_n 0 rfl rfl dX6_holdsFor_143 ?_
                refine zRx.aload_n 1 rfl rfl dX6_holdsFor_144 ?_
                refine zRx.iload 4 rfl dX6_holdsFor_145 ?_
                refine zRx.cVi (w := .inl (R_X6_plainFor σ q)) (M := m_X6_plainFor) (av := [zP 53, .inl q]) cv_6_105 mk_X6_plainFor (by decide) (b := 43) rfl rfl (Nat.le_of_ble_eq_true rfl) dX6_holdsFor_147 (does_X6_plainFor σ q hm hL hD hp (by omega)) ?_
                refine zRx.iast rfl (by omega) (by omega) dX6_holdsFor_150 ?_
                refine zRx.iinc (n := 1) (ls' := [(0, zP 43), (1, zP 53), (2, .inl ev), (3, .inl (hi + 1)), (4, .inl q), (5, .inl (σ 44 q))]) 3 rfl ⟨by omega, by omega⟩ rfl (by decide) dX6_holdsFor_151 ?_
                refine zRx.iinc (n := 1) (ls' := [(0, zP 43), (1, zP 53), (2, .inl ev), (3, .inl (hi + 1)), (4, .inl (q + 1)), (5, .inl (σ 44 q))]) 4 rfl ⟨by omega, by omega⟩ rfl (by decide) dX6_holdsFor_154 ?_
                refine zRx.goto (tgt := 17) dX6_holdsFor_157 (by decide) ?_
                refine zRx.pick [0, 1, 2, 3, 4] (ls' := [(0, zP 43), (1, zP 53), (2, .inl ev), (3, .inl (hi + 1)), (4, .inl (q + 1))]) rfl ?_
                have he : L_X6_holdsFor_17  ev (n + 1) hi q σ = L_X6_holdsFor_17  ev n (hi + 1) (q + 1) (zu σ 47 hi (R_X6_plainFor σ q)) := by rw [L_X6_holdsFor_17, if_neg (Int.not_le.mpr c23), if_pos c39, if_pos c44, if_neg c66, if_neg c101, if_neg (Int.not_le.mpr c135)]
                rw [he]
                exact ih (hi + 1) (q + 1) (zu σ 47 hi (R_X6_plainFor σ q)) (by omega) (by have e9 : (zu σ 47 hi (R_X6_plainFor σ q)) 53 8 = σ 53 8 := (zu_ne _ _ _ _ (by decide)); omega) (by have e9 : (zu σ 47 hi (R_X6_plainFor σ q)) 27 0 = σ 27 0 := (zu_ne _ _ _ _ (by decide)); omega) (WD_row (zu_row _ _ _ (by decide)) (zu_row _ _ _ (by decide)) hD) (by have e9 : (zu σ 47 hi (R_X6_plainFor σ q)) 5 0 = σ 5 0 := (zu_ne _ _ _ _ (by decide)); omega) (by have e9 : (zu σ 47 hi (R_X6_plainFor σ q)) 43 1 = σ 43 1 := (zu_ne _ _ _ _ (by decide)); omega) (by have e9 : (zu σ 47 hi (R_X6_plainFor σ q)) 43 1 = σ 43 1 := (zu_ne _ _ _ _ (by decide)); omega)
            · refine zRx.iload_n 3 rfl rfl dX6_holdsFor_104 ?_
              refine zRx.iconst ⟨by decide, by decide⟩ dX6_holdsFor_105 ?_
              refine zRx.icmp_lt (tgt := 132) dX6_holdsFor_106 (by decide) (fun c106 => ?_) (fun c106 => ?_)
              · refine zRx.iload_n 3 rfl rfl dX6_holdsFor_132 ?_
                refine zRx.bipush ⟨by decide, by decide⟩ rfl dX6_holdsFor_133 ?_
                refine zRx.icmp_ge (tgt := 154) dX6_holdsFor_135 (by decide) (fun c135 => ?_) (fun c135 => ?_)
                · refine zRx.iinc (n := 1) (ls' := [(0, zP 43), (1, zP 53), (2, .inl ev), (3, .inl hi), (4, .inl (q + 1)), (5, .inl (σ 44 q))]) 4 rfl ⟨by omega, by omega⟩ rfl (by decide) dX6_holdsFor_154 ?_
                  refine zRx.goto (tgt := 17) dX6_holdsFor_157 (by decide) ?_
                  refine zRx.pick [0, 1, 2, 3, 4] (ls' := [(0, zP 43), (1, zP 53), (2, .inl ev), (3, .inl hi), (4, .inl (q + 1))]) rfl ?_
                  have he : L_X6_holdsFor_17  ev (n + 1) hi q σ = L_X6_holdsFor_17  ev n hi (q + 1) σ := by rw [L_X6_holdsFor_17, if_neg (Int.not_le.mpr c23), if_pos c39, if_pos c44, if_neg c66, if_pos c101, if_pos c106, if_pos c135]
                  rw [he]
                  exact ih hi (q + 1) σ (by omega) hm hL hD hp hs (by omega)
                · refine zRx.aload_n 0 rfl rfl dX6_holdsFor_138 ?_
                  refine zRx.getR (a := 43) (b := 47) fl_6_21 rfl rfl dX6_holdsFor_139 ?_
                  refine zRx.iload_n 3 rfl rfl dX6_holdsFor_142 ?_
                  refine zRx.aload_n 0 rfl rfl dX6_holdsFor_143 ?_
                  refine zRx.aload_n 1 rfl rfl dX6_holdsFor_144 ?_
                  refine zRx.iload 4 rfl dX6_holdsFor_145 ?_
                  refine zRx.cVi (w := .inl (R_X6_plainFor σ q)) (M := m_X6_plainFor) (av := [zP 53, .inl q]) cv_6_105 mk_X6_plainFor (by decide) (b := 43) rfl rfl (Nat.le_of_ble_eq_true rfl) dX6_holdsFor_147 (does_X6_plainFor σ q hm hL hD hp (by omega)) ?_
                  refine zRx.iast rfl (by omega) (by omega) dX6_holdsFor_150 ?_
                  refine zRx.iinc (n := 1) (ls' := [(0, zP 43), (1, zP 53), (2, .inl ev), (3, .inl (hi + 1)), (4, .inl q), (5, .inl (σ 44 q))]) 3 rfl ⟨by omega, by omega⟩ rfl (by decide) dX6_holdsFor_151 ?_
                  refine zRx.iinc (n := 1) (ls' := [(0, zP 43), (1, zP 53), (2, .inl ev), (3, .inl (hi + 1)), (4, .inl (q + 1)), (5, .inl (σ 44 q))]) 4 rfl ⟨by omega, by omega⟩ rfl (by decide) dX6_holdsFor_154 ?_
                  refine zRx.goto (tgt := 17) dX6_holdsFor_157 (by decide) ?_
                  refine zRx.pick [0, 1, 2, 3, 4] (ls' := [(0, zP 43), (1, zP 53), (2, .inl ev), (3, .inl (hi + 1)), (4, .inl (q + 1))]) rfl ?_
                  have he : L_X6_holdsFor_17  ev (n + 1) hi q σ = L_X6_holdsFor_17  ev n (hi + 1) (q + 1) (zu σ 47 hi (R_X6_plainFor σ q)) := by rw [L_X6_holdsFor_17, if_neg (Int.not_le.mpr c23), if_pos c39, if_pos c44, if_neg c66, if_pos c101, if_pos c106, if_neg (Int.not_le.mpr c135)]
                  rw [he]
                  exact ih (hi + 1) (q + 1) (zu σ 47 hi (R_X6_plainFor σ q)) (by omega) (by have e9 : (zu σ 47 hi (R_X6_plainFor σ q)) 53 8 = σ 53 8 := (zu_ne _ _ _ _ (by decide)); omega) (by have e9 : (zu σ 47 hi (R_X6_plainFor σ q)) 27 0 = σ 27 0 := (zu_ne _ _ _ _ (by decide)); omega) (WD_row (zu_row _ _ _ (by decide)) (zu_row _ _ _ (by decide)) hD) (by have e9 : (zu σ 47 hi (R_X6_plainFor σ q)) 5 0 = σ 5 0 := (zu_ne _ _ _ _ (by decide)); omega) (by have e9 : (zu σ 47 hi (R_X6_plainFor σ q)) 43 1 = σ 43 1 := (zu_ne _ _ _ _ (by decide)); omega) (by have e9 : (zu σ 47 hi (R_X6_plainFor σ q)) 43 1 = σ 43 1 := (zu_ne _ _ _ _ (by decide)); omega)
              · refine zRx.iinc (n := -1) (ls' := [(0, zP 43), (1, zP 53), (2, .inl ev), (3, .inl (hi + (-1))), (4, .inl q), (5, .inl (σ 44 q))]) 3 rfl ⟨by omega, by omega⟩ rfl (by decide) dX6_holdsFor_109 ?_
                refine zRx.aload_n 0 rfl rfl dX6_holdsFor_112 ?_
                refine zRx.getR (a := 43) (b := 47) fl_6_21 rfl rfl dX6_holdsFor_113 ?_
                refine zRx.iload_n 3 rfl rfl dX6_holdsFor_116 ?_
                refine zRx.iconst ⟨by decide, by decide⟩ dX6_holdsFor_117 ?_
                refine zRx.isub ⟨by omega, by omega⟩ dX6_holdsFor_118 ?_
                refine zRx.dup2 rfl rfl dX6_holdsFor_119 ?_
                refine zRx.ialdv (v := σ 47 ((hi + (-1)) - 1)) rfl rfl (by omega) (by omega) dX6_holdsFor_120 ?_
                refine zRx.aload_n 0 rfl rfl dX6_holdsFor_121 ?_
                refine zRx.getR (a := 43) (b := 47) fl_6_21 rfl rfl dX6_holdsFor_122 ?_
                refine zRx.iload_n 3 rfl rfl dX6_holdsFor_125 ?_
                refine zRx.ialdv (v := σ 47 (hi + (-1))) rfl rfl (by omega) (by omega) dX6_holdsFor_126 ?_
                refine zRx.ior dX6_holdsFor_127 ?_
                refine zRx.iast rfl (by omega) (by omega) dX6_holdsFor_128 ?_
                refine zRx.goto (tgt := 154) dX6_holdsFor_129 (by decide) ?_
                refine zRx.iinc (n := 1) (ls' := [(0, zP 43), (1, zP 53), (2, .inl ev), (3, .inl (hi + (-1))), (4, .inl (q + 1)), (5, .inl (σ 44 q))]) 4 rfl ⟨by omega, by omega⟩ rfl (by decide) dX6_holdsFor_154 ?_
                refine zRx.goto (tgt := 17) dX6_holdsFor_157 (by decide) ?_
                refine zRx.pick [0, 1, 2, 3, 4] (ls' := [(0, zP 43), (1, zP 53), (2, .inl ev), (3, .inl (hi + (-1))), (4, .inl (q + 1))]) rfl ?_
                have he : L_X6_holdsFor_17  ev (n + 1) hi q σ = L_X6_holdsFor_17  ev n (hi + (-1)) (q + 1) (zu σ 47 ((hi + (-1)) - 1) (bor (σ 47 ((hi + (-1)) - 1)) (σ 47 (hi + (-1))))) := by rw [L_X6_holdsFor_17, if_neg (Int.not_le.mpr c23), if_pos c39, if_pos c44, if_neg c66, if_pos c101, if_neg (Int.not_lt.mpr c106)]
                rw [he]
                exact ih (hi + (-1)) (q + 1) (zu σ 47 ((hi + (-1)) - 1) (bor (σ 47 ((hi + (-1)) - 1)) (σ 47 (hi + (-1))))) (by omega) (by have e9 : (zu σ 47 ((hi + (-1)) - 1) (bor (σ 47 ((hi + (-1)) - 1)) (σ 47 (hi + (-1))))) 53 8 = σ 53 8 := (zu_ne _ _ _ _ (by decide)); omega) (by have e9 : (zu σ 47 ((hi + (-1)) - 1) (bor (σ 47 ((hi + (-1)) - 1)) (σ 47 (hi + (-1))))) 27 0 = σ 27 0 := (zu_ne _ _ _ _ (by decide)); omega) (WD_row (zu_row _ _ _ (by decide)) (zu_row _ _ _ (by decide)) hD) (by have e9 : (zu σ 47 ((hi + (-1)) - 1) (bor (σ 47 ((hi + (-1)) - 1)) (σ 47 (hi + (-1))))) 5 0 = σ 5 0 := (zu_ne _ _ _ _ (by decide)); omega) (by have e9 : (zu σ 47 ((hi + (-1)) - 1) (bor (σ 47 ((hi + (-1)) - 1)) (σ 47 (hi + (-1))))) 43 1 = σ 43 1 := (zu_ne _ _ _ _ (by decide)); omega) (by have e9 : (zu σ 47 ((hi + (-1)) - 1) (bor (σ 47 ((hi + (-1)) - 1)) (σ 47 (hi + (-1))))) 43 1 = σ 43 1 := (zu_ne _ _ _ _ (by decide)); omega)
          · refine zRx.iload_n 3 rfl rfl dX6_holdsFor_69 ?_
            refine zRx.iconst ⟨by decide, by decide⟩ dX6_holdsFor_70 ?_
            refine zRx.icmp_lt (tgt := 97) dX6_holdsFor_71 (by decide) (fun c71 => ?_) (fun c71 => ?_)
            · refine zRx.iload 5 rfl dX6_holdsFor_97 ?_
              refine zRx.bipush ⟨by decide, by decide⟩ rfl dX6_holdsFor_99 ?_
              refine zRx.icmp_ne (tgt := 132) dX6_holdsFor_101 (by decide) (fun c101 => ?_) (fun c101 => ?_)
              · refine zRx.iload_n 3 rfl rfl dX6_holdsFor_132 ?_
                refine zRx.bipush ⟨by decide, by decide⟩ rfl dX6_holdsFor_133 ?_
                refine zRx.icmp_ge (tgt := 154) dX6_holdsFor_135 (by decide) (fun c135 => ?_) (fun c135 => ?_)
                · refine zRx.iinc (n := 1) (ls' := [(0, zP 43), (1, zP 53), (2, .inl ev), (3, .inl hi), (4, .inl (q + 1)), (5, .inl (σ 44 q))]) 4 rfl ⟨by omega, by omega⟩ rfl (by decide) dX6_holdsFor_154 ?_
                  refine zRx.goto (tgt := 17) dX6_holdsFor_157 (by decide) ?_
                  refine zRx.pick [0, 1, 2, 3, 4] (ls' := [(0, zP 43), (1, zP 53), (2, .inl ev), (3, .inl hi), (4, .inl (q + 1))]) rfl ?_
                  have he : L_X6_holdsFor_17  ev (n + 1) hi q σ = L_X6_holdsFor_17  ev n hi (q + 1) σ := by rw [L_X6_holdsFor_17, if_neg (Int.not_le.mpr c23), if_pos c39, if_pos c44, if_pos c66, if_pos c71, if_pos c135]
                  rw [he]
                  exact ih hi (q + 1) σ (by omega) hm hL hD hp hs (by omega)
                · refine zRx.aload_n 0 rfl rfl dX6_holdsFor_138 ?_
                  refine zRx.getR (a := 43) (b := 47) fl_6_21 rfl rfl dX6_holdsFor_139 ?_
                  refine zRx.iload_n 3 rfl rfl dX6_holdsFor_142 ?_
                  refine zRx.aload_n 0 rfl rfl dX6_holdsFor_143 ?_
                  refine zRx.aload_n 1 rfl rfl dX6_holdsFor_144 ?_
                  refine zRx.iload 4 rfl dX6_holdsFor_145 ?_
                  refine zRx.cVi (w := .inl (R_X6_plainFor σ q)) (M := m_X6_plainFor) (av := [zP 53, .inl q]) cv_6_105 mk_X6_plainFor (by decide) (b := 43) rfl rfl (Nat.le_of_ble_eq_true rfl) dX6_holdsFor_147 (does_X6_plainFor σ q hm hL hD hp (by omega)) ?_
                  refine zRx.iast rfl (by omega) (by omega) dX6_holdsFor_150 ?_
                  refine zRx.iinc (n := 1) (ls' := [(0, zP 43), (1, zP 53), (2, .inl ev), (3, .inl (hi + 1)), (4, .inl q), (5, .inl (σ 44 q))]) 3 rfl ⟨by omega, by omega⟩ rfl (by decide) dX6_holdsFor_151 ?_
                  refine zRx.iinc (n := 1) (ls' := [(0, zP 43), (1, zP 53), (2, .inl ev), (3, .inl (hi + 1)), (4, .inl (q + 1)), (5, .inl (σ 44 q))]) 4 rfl ⟨by omega, by omega⟩ rfl (by decide) dX6_holdsFor_154 ?_
                  refine zRx.goto (tgt := 17) dX6_holdsFor_157 (by decide) ?_
                  refine zRx.pick [0, 1, 2, 3, 4] (ls' := [(0, zP 43), (1, zP 53), (2, .inl ev), (3, .inl (hi + 1)), (4, .inl (q + 1))]) rfl ?_
                  have he : L_X6_holdsFor_17  ev (n + 1) hi q σ = L_X6_holdsFor_17  ev n (hi + 1) (q + 1) (zu σ 47 hi (R_X6_plainFor σ q)) := by rw [L_X6_holdsFor_17, if_neg (Int.not_le.mpr c23), if_pos c39, if_pos c44, if_pos c66, if_pos c71, if_neg (Int.not_le.mpr c135)]
                  rw [he]
                  exact ih (hi + 1) (q + 1) (zu σ 47 hi (R_X6_plainFor σ q)) (by omega) (by have e9 : (zu σ 47 hi (R_X6_plainFor σ q)) 53 8 = σ 53 8 := (zu_ne _ _ _ _ (by decide)); omega) (by have e9 : (zu σ 47 hi (R_X6_plainFor σ q)) 27 0 = σ 27 0 := (zu_ne _ _ _ _ (by decide)); omega) (WD_row (zu_row _ _ _ (by decide)) (zu_row _ _ _ (by decide)) hD) (by have e9 : (zu σ 47 hi (R_X6_plainFor σ q)) 5 0 = σ 5 0 := (zu_ne _ _ _ _ (by decide)); omega) (by have e9 : (zu σ 47 hi (R_X6_plainFor σ q)) 43 1 = σ 43 1 := (zu_ne _ _ _ _ (by decide)); omega) (by have e9 : (zu σ 47 hi (R_X6_plainFor σ q)) 43 1 = σ 43 1 := (zu_ne _ _ _ _ (by decide)); omega)
              · refine zRx.iload_n 3 rfl rfl dX6_holdsFor_104 ?_
                refine zRx.iconst ⟨by decide, by decide⟩ dX6_holdsFor_105 ?_
                refine zRx.icmp_lt (tgt := 132) dX6_holdsFor_106 (by decide) (fun c106 => ?_) (fun c106 => absurd c71 (Int.not_lt.mpr c106))
                refine zRx.iload_n 3 rfl rfl dX6_holdsFor_132 ?_
                refine zRx.bipush ⟨by decide, by decide⟩ rfl dX6_holdsFor_133 ?_
                refine zRx.icmp_ge (tgt := 154) dX6_holdsFor_135 (by decide) (fun c135 => ?_) (fun c135 => ?_)
                · refine zRx.iinc (n := 1) (ls' := [(0, zP 43), (1, zP 53), (2, .inl ev), (3, .inl hi), (4, .inl (q + 1)), (5, .inl (σ 44 q))]) 4 rfl ⟨by omega, by omega⟩ rfl (by decide) dX6_holdsFor_154 ?_
                  refine zRx.goto (tgt := 17) dX6_holdsFor_157 (by decide) ?_
                  refine zRx.pick [0, 1, 2, 3, 4] (ls' := [(0, zP 43), (1, zP 53), (2, .inl ev), (3, .inl hi), (4, .inl (q + 1))]) rfl ?_
                  have he : L_X6_holdsFor_17  ev (n + 1) hi q σ = L_X6_holdsFor_17  ev n hi (q + 1) σ := by rw [L_X6_holdsFor_17, if_neg (Int.not_le.mpr c23), if_pos c39, if_pos c44, if_pos c66, if_pos c71, if_pos c135]
                  rw [he]
                  exact ih hi (q + 1) σ (by omega) hm hL hD hp hs (by omega)
                · refine zRx.aload_n 0 rfl rfl dX6_holdsFor_138 ?_
                  refine zRx.getR (a := 43) (b := 47) fl_6_21 rfl rfl dX6_holdsFor_139 ?_
                  refine zRx.iload_n 3 rfl rfl dX6_holdsFor_142 ?_
                  refine zRx.aload_n 0 rfl rfl dX6_holdsFor_143 ?_
                  refine zRx.aload_n 1 rfl rfl dX6_holdsFor_144 ?_
                  refine zRx.iload 4 rfl dX6_holdsFor_145 ?_
                  refine zRx.cVi (w := .inl (R_X6_plainFor σ q)) (M := m_X6_plainFor) (av := [zP 53, .inl q]) cv_6_105 mk_X6_plainFor (by decide) (b := 43) rfl rfl (Nat.le_of_ble_eq_true rfl) dX6_holdsFor_147 (does_X6_plainFor σ q hm hL hD hp (by omega)) ?_
                  refine zRx.iast rfl (by omega) (by omega) dX6_holdsFor_150 ?_
                  refine zRx.iinc (n := 1) (ls' := [(0, zP 43), (1, zP 53), (2, .inl ev), (3, .inl (hi + 1)), (4, .inl q), (5, .inl (σ 44 q))]) 3 rfl ⟨by omega, by omega⟩ rfl (by decide) dX6_holdsFor_151 ?_
                  refine zRx.iinc (n := 1) (ls' := [(0, zP 43), (1, zP 53), (2, .inl ev), (3, .inl (hi + 1)), (4, .inl (q + 1)), (5, .inl (σ 44 q))]) 4 rfl ⟨by omega, by omega⟩ rfl (by decide) dX6_holdsFor_154 ?_
                  refine zRx.goto (tgt := 17) dX6_holdsFor_157 (by decide) ?_
                  refine zRx.pick [0, 1, 2, 3, 4] (ls' := [(0, zP 43), (1, zP 53), (2, .inl ev), (3, .inl (hi + 1)), (4, .inl (q + 1))]) rfl ?_
                  have he : L_X6_holdsFor_17  ev (n + 1) hi q σ = L_X6_holdsFor_17  ev n (hi + 1) (q + 1) (zu σ 47 hi (R_X6_plainFor σ q)) := by rw [L_X6_holdsFor_17, if_neg (Int.not_le.mpr c23), if_pos c39, if_pos c44, if_pos c66, if_pos c71, if_neg (Int.not_le.mpr c135)]
                  rw [he]
                  exact ih (hi + 1) (q + 1) (zu σ 47 hi (R_X6_plainFor σ q)) (by omega) (by have e9 : (zu σ 47 hi (R_X6_plainFor σ q)) 53 8 = σ 53 8 := (zu_ne _ _ _ _ (by decide)); omega) (by have e9 : (zu σ 47 hi (R_X6_plainFor σ q)) 27 0 = σ 27 0 := (zu_ne _ _ _ _ (by decide)); omega) (WD_row (zu_row _ _ _ (by decide)) (zu_row _ _ _ (by decide)) hD) (by have e9 : (zu σ 47 hi (R_X6_plainFor σ q)) 5 0 = σ 5 0 := (zu_ne _ _ _ _ (by decide)); omega) (by have e9 : (zu σ 47 hi (R_X6_plainFor σ q)) 43 1 = σ 43 1 := (zu_ne _ _ _ _ (by decide)); omega) (by have e9 : (zu σ 47 hi (R_X6_plainFor σ q)) 43 1 = σ 43 1 := (zu_ne _ _ _ _ (by decide)); omega)
            · refine zRx.iinc (n := -1) (ls' := [(0, zP 43), (1, zP 53), (2, .inl ev), (3, .inl (hi + (-1))), (4, .inl q), (5, .inl (σ 44 q))]) 3 rfl ⟨by omega, by omega⟩ rfl (by decide) dX6_holdsFor_74 ?_
              refine zRx.aload_n 0 rfl rfl dX6_holdsFor_77 ?_
              refine zRx.getR (a := 43) (b := 47) fl_6_21 rfl rfl dX6_holdsFor_78 ?_
              refine zRx.iload_n 3 rfl rfl dX6_holdsFor_81 ?_
              refine zRx.iconst ⟨by decide, by decide⟩ dX6_holdsFor_82 ?_
              refine zRx.isub ⟨by omega, by omega⟩ dX6_holdsFor_83 ?_
              refine zRx.dup2 rfl rfl dX6_holdsFor_84 ?_
              refine zRx.ialdv (v := σ 47 ((hi + (-1)) - 1)) rfl rfl (by omega) (by omega) dX6_holdsFor_85 ?_
              refine zRx.aload_n 0 rfl rfl dX6_holdsFor_86 ?_
              refine zRx.getR (a := 43) (b := 47) fl_6_21 rfl rfl dX6_holdsFor_87 ?_
              refine zRx.iload_n 3 rfl rfl dX6_holdsFor_90 ?_
              refine zRx.ialdv (v := σ 47 (hi + (-1))) rfl rfl (by omega) (by omega) dX6_holdsFor_91 ?_
              refine zRx.iand dX6_holdsFor_92 ?_
              refine zRx.iast rfl (by omega) (by omega) dX6_holdsFor_93 ?_
              refine zRx.goto (tgt := 154) dX6_holdsFor_94 (by decide) ?_
              refine zRx.iinc (n := 1) (ls' := [(0, zP 43), (1, zP 53), (2, .inl ev), (3, .inl (hi + (-1))), (4, .inl (q + 1)), (5, .inl (σ 44 q))]) 4 rfl ⟨by omega, by omega⟩ rfl (by decide) dX6_holdsFor_154 ?_
              refine zRx.goto (tgt := 17) dX6_holdsFor_157 (by decide) ?_
              refine zRx.pick [0, 1, 2, 3, 4] (ls' := [(0, zP 43), (1, zP 53), (2, .inl ev), (3, .inl (hi + (-1))), (4, .inl (q + 1))]) rfl ?_
              have he : L_X6_holdsFor_17  ev (n + 1) hi q σ = L_X6_holdsFor_17  ev n (hi + (-1)) (q + 1) (zu σ 47 ((hi + (-1)) - 1) (band (σ 47 ((hi + (-1)) - 1)) (σ 47 (hi + (-1))))) := by rw [L_X6_holdsFor_17, if_neg (Int.not_le.mpr c23), if_pos c39, if_pos c44, if_pos c66, if_neg (Int.not_lt.mpr c71)]
              rw [he]
              exact ih (hi + (-1)) (q + 1) (zu σ 47 ((hi + (-1)) - 1) (band (σ 47 ((hi + (-1)) - 1)) (σ 47 (hi + (-1))))) (by omega) (by have e9 : (zu σ 47 ((hi + (-1)) - 1) (band (σ 47 ((hi + (-1)) - 1)) (σ 47 (hi + (-1))))) 53 8 = σ 53 8 := (zu_ne _ _ _ _ (by decide)); omega) (by have e9 : (zu σ 47 ((hi + (-1)) - 1) (band (σ 47 ((hi + (-1)) - 1)) (σ 47 (hi + (-1))))) 27 0 = σ 27 0 := (zu_ne _ _ _ _ (by decide)); omega) (WD_row (zu_row _ _ _ (by decide)) (zu_row _ _ _ (by decide)) hD) (by have e9 : (zu σ 47 ((hi + (-1)) - 1) (band (σ 47 ((hi + (-1)) - 1)) (σ 47 (hi + (-1))))) 5 0 = σ 5 0 := (zu_ne _ _ _ _ (by decide)); omega) (by have e9 : (zu σ 47 ((hi + (-1)) - 1) (band (σ 47 ((hi + (-1)) - 1)) (σ 47 (hi + (-1))))) 43 1 = σ 43 1 := (zu_ne _ _ _ _ (by decide)); omega) (by have e9 : (zu σ 47 ((hi + (-1)) - 1) (band (σ 47 ((hi + (-1)) - 1)) (σ 47 (hi + (-1))))) 43 1 = σ 43 1 := (zu_ne _ _ _ _ (by decide)); omega)
        · refine zRx.aload_n 0 rfl rfl dX6_holdsFor_47 ?_
          refine zRx.getR (a := 43) (b := 47) fl_6_21 rfl rfl dX6_holdsFor_48 ?_
          refine zRx.iload_n 3 rfl rfl dX6_holdsFor_51 ?_
          refine zRx.iconst ⟨by decide, by decide⟩ dX6_holdsFor_52 ?_
          refine zRx.isub ⟨by omega, by omega⟩ dX6_holdsFor_53 ?_
          refine zRx.dup2 rfl rfl dX6_holdsFor_54 ?_
          refine zRx.ialdv (v := σ 47 (hi - 1)) rfl rfl (by omega) (by omega) dX6_holdsFor_55 ?_
          refine zRx.iload_n 2 rfl rfl dX6_holdsFor_56 ?_
          refine zRx.ixor dX6_holdsFor_57 ?_
          refine zRx.iast rfl (by omega) (by omega) dX6_holdsFor_58 ?_
          refine zRx.goto (tgt := 154) dX6_holdsFor_59 (by decide) ?_
          refine zRx.iinc (n := 1) (ls' := [(0, zP 43), (1, zP 53), (2, .inl ev), (3, .inl hi), (4, .inl (q + 1)), (5, .inl (σ 44 q))]) 4 rfl ⟨by omega, by omega⟩ rfl (by decide) dX6_holdsFor_154 ?_
          refine zRx.goto (tgt := 17) dX6_holdsFor_157 (by decide) ?_
          refine zRx.pick [0, 1, 2, 3, 4] (ls' := [(0, zP 43), (1, zP 53), (2, .inl ev), (3, .inl hi), (4, .inl (q + 1))]) rfl ?_
          have he : L_X6_holdsFor_17  ev (n + 1) hi q σ = L_X6_holdsFor_17  ev n hi (q + 1) (zu σ 47 (hi - 1) (bxor (σ 47 (hi - 1)) ev)) := by rw [L_X6_holdsFor_17, if_neg (Int.not_le.mpr c23), if_pos c39, if_neg (Int.not_lt.mpr c44)]
          rw [he]
          exact ih hi (q + 1) (zu σ 47 (hi - 1) (bxor (σ 47 (hi - 1)) ev)) (by omega) (by have e9 : (zu σ 47 (hi - 1) (bxor (σ 47 (hi - 1)) ev)) 53 8 = σ 53 8 := (zu_ne _ _ _ _ (by decide)); omega) (by have e9 : (zu σ 47 (hi - 1) (bxor (σ 47 (hi - 1)) ev)) 27 0 = σ 27 0 := (zu_ne _ _ _ _ (by decide)); omega) (WD_row (zu_row _ _ _ (by decide)) (zu_row _ _ _ (by decide)) hD) (by have e9 : (zu σ 47 (hi - 1) (bxor (σ 47 (hi - 1)) ev)) 5 0 = σ 5 0 := (zu_ne _ _ _ _ (by decide)); omega) (by have e9 : (zu σ 47 (hi - 1) (bxor (σ 47 (hi - 1)) ev)) 43 1 = σ 43 1 := (zu_ne _ _ _ _ (by decide)); omega) (by have e9 : (zu σ 47 (hi - 1) (bxor (σ 47 (hi - 1)) ev)) 43 1 = σ 43 1 := (zu_ne _ _ _ _ (by decide)); omega)
def R_X6_holdsFor (σ : zG)  : Int × zG := L_X6_holdsFor_17  ((bshl 1 (σ 5 0)) - 1) 50 0 0 σ
theorem fr_R_X6_holdsFor (σ : zG)  {k : Nat} (h : k ∉ [47]) : (R_X6_holdsFor σ ).2 k = σ k := by
  have ne : ∀ c ∈ [47], k ≠ c := fun c hc e => h (e ▸ hc)
  have nl_L_X6_holdsFor_17 : k ∉ [47] := fun hm => h (by first | (revert hm; simp only [List.mem_cons, List.not_mem_nil, or_false]; omega) | (simp at hm))
  unfold R_X6_holdsFor
  repeat' split
  all_goals first | rfl | simp only [zu_row _ _ _ (ne 47 (by decide)), fr_L_X6_holdsFor_17 (h := nl_L_X6_holdsFor_17)]

set_option maxRecDepth 20000 in
theorem does_X6_holdsFor (σ : zG)  (hm : σ 53 8 ≤ 128) (hL : σ 27 0 ≤ 60) (hD : WD σ) (hp : 0 ≤ σ 5 0 ∧ σ 5 0 ≤ 8) (hs : σ 43 1 ≤ 40)  : zDo SC 5 m_X6_holdsFor [zP 43, zP 53] σ (zEq (some (.inl (R_X6_holdsFor σ ).1)) (R_X6_holdsFor σ ).2) := by
  refine zDo.intro mk_X6_holdsFor (Nat.le_of_ble_eq_true rfl) ?_
  have hb9 := bshl_1 (k := σ 5 0) (by omega) (by omega)
  refine zRx.iconst ⟨by decide, by decide⟩ dX6_holdsFor_0 ?_
  refine zRx.aload_n 1 rfl rfl dX6_holdsFor_1 ?_
  refine zRx.getR (a := 53) (b := 5) fl_6_96 rfl rfl dX6_holdsFor_2 ?_
  refine zRx.getIv (a := 5) (ji := 0) (v := σ 5 0) rfl fl_6_102 rfl rfl rfl dX6_holdsFor_5 ?_
  refine zRx.ishl dX6_holdsFor_8 ?_
  refine zRx.iconst ⟨by decide, by decide⟩ dX6_holdsFor_9 ?_
  refine zRx.isub ⟨by omega, by omega⟩ dX6_holdsFor_10 ?_
  refine zRx.istore_n (ls' := [(0, zP 43), (1, zP 53), (2, .inl ((bshl 1 (σ 5 0)) - 1))]) rfl rfl (by decide) dX6_holdsFor_11 ?_
  refine zRx.iconst ⟨by decide, by decide⟩ dX6_holdsFor_12 ?_
  refine zRx.istore_n (ls' := [(0, zP 43), (1, zP 53), (2, .inl ((bshl 1 (σ 5 0)) - 1)), (3, .inl 0)]) rfl rfl (by decide) dX6_holdsFor_13 ?_
  refine zRx.iconst ⟨by decide, by decide⟩ dX6_holdsFor_14 ?_
  refine zRx.istore (ls' := [(0, zP 43), (1, zP 53), (2, .inl ((bshl 1 (σ 5 0)) - 1)), (3, .inl 0), (4, .inl 0)]) rfl (by decide) dX6_holdsFor_15 ?_
  have he : R_X6_holdsFor σ  = L_X6_holdsFor_17  ((bshl 1 (σ 5 0)) - 1) 50 0 0 σ := by rw [R_X6_holdsFor]
  rw [he]
  exact loop_X6_holdsFor_17   ((bshl 1 (σ 5 0)) - 1) 50 0 0 σ (by omega) hm hL hD hp.2 hs (by omega)

theorem smod64 : ∀ i : Fin 64, (((iv (i.val : Int)).toInt64 &&& 63).toBitVec.smod 64).toNat = i.val := by decide +kernel
theorem jshl_of {a : Int} {i : Nat} (hi : i < 64) (h : r64 a) (h1 : -9223372036854775808 ≤ a * 2 ^ i) (h2 : a * 2 ^ i < 9223372036854775808) : jshl a (i : Int) = a * 2 ^ i := by
  unfold jshl
  have e := jv_toInt h
  have e2 : (jv a <<< ((iv (i : Int)).toInt64 &&& 63)).toInt = ((jv a).toBitVec <<< (((iv (i : Int)).toInt64 &&& 63).toBitVec.smod 64)).toInt := rfl
  have e3 : (jv a).toBitVec.toInt = a := e
  rw [e2, BitVec.shiftLeft_eq', BitVec.toInt_shiftLeft, smod64 ⟨i, hi⟩]
  dsimp only
  rw [Nat.shiftLeft_eq, Int.natCast_mul, Int.natCast_pow, ← Int.bmod_mul_bmod, ← BitVec.toInt_eq_toNat_bmod, e3]
  have e4 : ((2 : Nat) : Int) = 2 := rfl
  rw [e4]
  generalize a * 2 ^ i = y at *
  simp only [Int.bmod]
  omega
theorem jshr_of {a : Int} {i : Nat} (hi : i < 64) (h : r64 a) : jshr a (i : Int) = a / 2 ^ i := by
  unfold jshr
  have e2 : (jv a >>> ((iv (i : Int)).toInt64 &&& 63)).toInt = ((jv a).toBitVec.sshiftRight' (((iv (i : Int)).toInt64 &&& 63).toBitVec.smod 64)).toInt := rfl
  have e3 : (jv a).toBitVec.toInt = a := jv_toInt h
  rw [e2, BitVec.toInt_sshiftRight', smod64 ⟨i, hi⟩, Int.shiftRight_eq_div_pow, e3]
  rfl
/-- a digit of a choice -/
theorem dig_of {f q : Int} (hf : 0 ≤ f ∧ f ≤ 15) (hq : 0 ≤ q ∧ q < 8) : jshl f (4 * (7 - q)) = f * 2 ^ (4 * (7 - q)).toNat ∧ 0 ≤ f * 2 ^ (4 * (7 - q)).toNat ∧ f * 2 ^ (4 * (7 - q)).toNat ≤ 15 * 2 ^ 28 := by
  have e : (4 * (7 - q)) = (((4 * (7 - q)).toNat : Nat) : Int) := by omega
  have hb : 0 ≤ f * 2 ^ (4 * (7 - q)).toNat ∧ f * 2 ^ (4 * (7 - q)).toNat ≤ 15 * 2 ^ 28 := by
    rcases (show q = 0 ∨ q = 1 ∨ q = 2 ∨ q = 3 ∨ q = 4 ∨ q = 5 ∨ q = 6 ∨ q = 7 by omega) with rfl | rfl | rfl | rfl | rfl | rfl | rfl | rfl <;> simp <;> omega
  refine ⟨?_, hb⟩
  have h9 := jshl_of (a := f) (i := (4 * (7 - q)).toNat) (by omega) ⟨by omega, by omega⟩ (by omega) (by omega)
  rw [← e] at h9
  exact h9
theorem hur_of {hu : Int} (h : 0 ≤ hu ∧ hu ≤ 99) : jshl hu 32 = hu * 4294967296 := by
  have h9 := jshl_of (a := hu) (i := 32) (by decide) ⟨by omega, by omega⟩ (by omega) (by omega)
  exact h9
theorem bxor_8 {m a : Int} (h0 : 0 ≤ m ∧ m < 256) (ha : 0 ≤ a ∧ a < 8) : 0 ≤ bxor m (bshl 1 a) ∧ bxor m (bshl 1 a) < 256 := by
  obtain ⟨m', rfl⟩ := Int.eq_ofNat_of_zero_le h0.1
  obtain ⟨a', rfl⟩ := Int.eq_ofNat_of_zero_le ha.1
  have hp : 2 ^ a' ≤ 2 ^ 7 := Nat.pow_le_pow_right (by decide) (by omega)
  have e1 : bshl (1 : Int) (a' : Int) = ((2 ^ a' : Nat) : Int) := by
    have := bshl_nat (a := 1) (i := a') (by omega) (by omega)
    rw [Nat.one_mul] at this
    exact this
  rw [e1, bxor_nat (by omega) (by omega)]
  have h8 : m' ^^^ 2 ^ a' < 2 ^ 8 := Nat.xor_lt_two_pow (by omega) (by omega)
  omega
def LB (t : Int → Int) : Prop := ∀ j : Int, 0 ≤ t j ∧ t j ≤ 1152921504606846976
theorem LB_put {σ : zG} {i v : Int} (h : LB (σ 84)) (hv : 0 ≤ v ∧ v ≤ 1152921504606846976) : LB (zu σ 84 i v 84) := by
  intro j
  rw [zu_if]
  split
  · exact hv
  · exact h j
/-- the owers are people -/
def WO (σ : zG) : Prop := ∀ d : Int, 0 ≤ d → d < σ 53 8 → 0 ≤ σ 59 d ∧ σ 59 d < 8
theorem WO_row {σ τ : zG} (e : τ 53 = σ 53) (e2 : τ 59 = σ 59) (h : WO σ) : WO τ := by
  unfold WO at *
  rw [e, e2]
  exact h

def V_X2_digitShift (q : Int) : Int := 4 * (7 - q)
set_option maxRecDepth 20000 in
theorem does_X2_digitShift (σ : zG) (q : Int) (sh : List zSh) (hq : 0 ≤ q ∧ q < 8) : zDo sh 0 m_X2_digitShift [.inl q] σ (zEq (some (.inl (V_X2_digitShift q))) σ) := by
  refine zDo.intro mk_X2_digitShift (Nat.le_of_ble_eq_true rfl) ?_
  refine zRx.iconst ⟨by decide, by decide⟩ dX2_digitShift_0 ?_
  refine zRx.bipush ⟨by decide, by decide⟩ rfl dX2_digitShift_1 ?_
  refine zRx.iload_n 0 rfl rfl dX2_digitShift_3 ?_
  refine zRx.isub ⟨by omega, by omega⟩ dX2_digitShift_4 ?_
  refine zRx.imul ⟨by omega, by omega⟩ dX2_digitShift_5 ?_
  exact zR.iret rfl dX2_digitShift_6 ⟨rfl, rfl⟩

def L_X2_payableFor_5 (σ : zG) (d us : Int) : Nat → Int → Int → Int
  | 0, _, _ => 0
  | n + 1, fs, q => if (σ 5 1) ≤ q then fs else (if hb us q then (if (V_X4_valueFor σ (σ 59 d) q) < (σ 63 d) then (L_X2_payableFor_5 σ d us n fs (q + 1)) else (L_X2_payableFor_5 σ d us n (bor fs (bshl 1 q)) (q + 1))) else (L_X2_payableFor_5 σ d us n fs (q + 1)))
set_option maxRecDepth 20000 in
theorem loop_X2_payableFor_5 (σ : zG) (d us : Int) (hd : 0 ≤ d ∧ d < 128) (hp : σ 5 0 ≤ 8) (hF : σ 5 1 ≤ 12) : ∀ (n : Nat) (fs q : Int) , 0 ≤ q → (σ 5 1 - q).toNat < n → zR SC 2 m_X2_payableFor 5 [(0, zP 53), (1, .inl d), (2, .inl us), (3, .inl fs), (4, .inl q)] [] σ (zEq (some (.inl (L_X2_payableFor_5 σ d us n fs q))) σ) := by
  intro n
  induction n with
  | zero => intro fs q  h0 hmz; exact absurd hmz (Nat.not_lt_zero _)
  | succ n ih =>
    intro fs q  h0 hmz
    refine zRx.iload 4 rfl dX2_payableFor_5 ?_
    refine zRx.aload_n 0 rfl rfl dX2_payableFor_7 ?_
    refine zRx.getR (a := 53) (b := 5) fl_2_42 rfl rfl dX2_payableFor_8 ?_
    refine zRx.getIv (a := 5) (ji := 1) (v := σ 5 1) rfl fl_2_48 rfl rfl rfl dX2_payableFor_11 ?_
    refine zRx.icmp_ge (tgt := 60) dX2_payableFor_14 (by decide) (fun c14 => ?_) (fun c14 => ?_)
    · refine zRx.iload_n 3 rfl rfl dX2_payableFor_60 ?_
      exact zR.iret rfl dX2_payableFor_61 (by have he : L_X2_payableFor_5 σ d us (n + 1) fs q = fs := (by rw [L_X2_payableFor_5, if_pos c14]); rw [he]; exact ⟨rfl, rfl⟩)
    · refine zRx.iload_n 2 rfl rfl dX2_payableFor_17 ?_
      refine zRx.iload 4 rfl dX2_payableFor_18 ?_
      refine zRx.cSi (w := .inl (b2 (hb us q))) (M := m_X11_hasBit) (av := [.inl us, .inl q]) cs_2_92 mk_X11_hasBit (by decide) rfl (Nat.le_of_ble_eq_true rfl) dX2_payableFor_20 (does_X11_hasBit us q SC σ) ?_
      refine zRx.if_eqB (tgt := 54) dX2_payableFor_23 (by decide) (fun c23 => ?_) (fun c23 => ?_)
      · refine zRx.iinc (n := 1) (ls' := [(0, zP 53), (1, .inl d), (2, .inl us), (3, .inl fs), (4, .inl (q + 1))]) 4 rfl ⟨by omega, by omega⟩ rfl (by decide) dX2_payableFor_54 ?_
        refine zRx.goto (tgt := 5) dX2_payableFor_57 (by decide) ?_
        have he : L_X2_payableFor_5 σ d us (n + 1) fs q = L_X2_payableFor_5 σ d us n fs (q + 1) := by rw [L_X2_payableFor_5, if_neg (Int.not_le.mpr c14), if_neg c23]
        rw [he]
        exact ih fs (q + 1)  (by omega) (by omega)
      · refine zRx.aload_n 0 rfl rfl dX2_payableFor_26 ?_
        refine zRx.aload_n 0 rfl rfl dX2_payableFor_27 ?_
        refine zRx.getR (a := 53) (b := 59) fl_2_85 rfl rfl dX2_payableFor_28 ?_
        refine zRx.iload_n 1 rfl rfl dX2_payableFor_31 ?_
        refine zRx.ialdv (v := σ 59 d) rfl rfl (by omega) (by omega) dX2_payableFor_32 ?_
        refine zRx.iload 4 rfl dX2_payableFor_33 ?_
        refine zRx.cVi (w := .inl (V_X4_valueFor σ (σ 59 d) q)) (M := m_X4_valueFor) (av := [.inl (σ 59 d), .inl q]) cv_2_96 mk_X4_valueFor (by decide) (b := 53) rfl rfl (Nat.le_of_ble_eq_true rfl) dX2_payableFor_35 (does_X4_valueFor σ (σ 59 d) q (by omega) (by omega)) ?_
        refine zRx.aload_n 0 rfl rfl dX2_payableFor_38 ?_
        refine zRx.getR (a := 53) (b := 63) fl_2_79 rfl rfl dX2_payableFor_39 ?_
        refine zRx.iload_n 1 rfl rfl dX2_payableFor_42 ?_
        refine zRx.ialdv (v := σ 63 d) rfl rfl (by omega) (by omega) dX2_payableFor_43 ?_
        refine zRx.icmp_lt (tgt := 54) dX2_payableFor_44 (by decide) (fun c44 => ?_) (fun c44 => ?_)
        · refine zRx.iinc (n := 1) (ls' := [(0, zP 53), (1, .inl d), (2, .inl us), (3, .inl fs), (4, .inl (q + 1))]) 4 rfl ⟨by omega, by omega⟩ rfl (by decide) dX2_payableFor_54 ?_
          refine zRx.goto (tgt := 5) dX2_payableFor_57 (by decide) ?_
          have he : L_X2_payableFor_5 σ d us (n + 1) fs q = L_X2_payableFor_5 σ d us n fs (q + 1) := by rw [L_X2_payableFor_5, if_neg (Int.not_le.mpr c14), if_pos c23, if_pos c44]
          rw [he]
          exact ih fs (q + 1)  (by omega) (by omega)
        · refine zRx.iload_n 3 rfl rfl dX2_payableFor_47 ?_
          refine zRx.iconst ⟨by decide, by decide⟩ dX2_payableFor_48 ?_
          refine zRx.iload 4 rfl dX2_payableFor_49 ?_
          refine zRx.ishl dX2_payableFor_51 ?_
          refine zRx.ior dX2_payableFor_52 ?_
          refine zRx.istore_n (ls' := [(0, zP 53), (1, .inl d), (2, .inl us), (3, .inl (bor fs (bshl 1 q))), (4, .inl q)]) rfl rfl (by decide) dX2_payableFor_53 ?_
          refine zRx.iinc (n := 1) (ls' := [(0, zP 53), (1, .inl d), (2, .inl us), (3, .inl (bor fs (bshl 1 q))), (4, .inl (q + 1))]) 4 rfl ⟨by omega, by omega⟩ rfl (by decide) dX2_payableFor_54 ?_
          refine zRx.goto (tgt := 5) dX2_payableFor_57 (by decide) ?_
          have he : L_X2_payableFor_5 σ d us (n + 1) fs q = L_X2_payableFor_5 σ d us n (bor fs (bshl 1 q)) (q + 1) := by rw [L_X2_payableFor_5, if_neg (Int.not_le.mpr c14), if_pos c23, if_neg (Int.not_lt.mpr c44)]
          rw [he]
          exact ih (bor fs (bshl 1 q)) (q + 1)  (by omega) (by omega)
def R_X2_payableFor (σ : zG) (d us : Int) : Int := L_X2_payableFor_5 σ d us 20 0 0
set_option maxRecDepth 20000 in
theorem does_X2_payableFor (σ : zG) (d us : Int) (hd : 0 ≤ d ∧ d < 128) (hp : σ 5 0 ≤ 8) (hF : σ 5 1 ≤ 12)  : zDo SC 2 m_X2_payableFor [zP 53, .inl d, .inl us] σ (zEq (some (.inl (R_X2_payableFor σ d us))) σ) := by
  refine zDo.intro mk_X2_payableFor (Nat.le_of_ble_eq_true rfl) ?_
  refine zRx.iconst ⟨by decide, by decide⟩ dX2_payableFor_0 ?_
  refine zRx.istore_n (ls' := [(0, zP 53), (1, .inl d), (2, .inl us), (3, .inl 0)]) rfl rfl (by decide) dX2_payableFor_1 ?_
  refine zRx.iconst ⟨by decide, by decide⟩ dX2_payableFor_2 ?_
  refine zRx.istore (ls' := [(0, zP 53), (1, .inl d), (2, .inl us), (3, .inl 0), (4, .inl 0)]) rfl (by decide) dX2_payableFor_3 ?_
  have he : R_X2_payableFor σ d us = L_X2_payableFor_5 σ d us 20 0 0 := by rw [R_X2_payableFor]
  rw [he]
  exact loop_X2_payableFor_5 σ d us hd hp hF  20 0 0  (by omega) (by omega)

def S_X2_takeDebts_12  (sp : Int) : Nat → Int → zG → Int × zG
  | 0, q, σ => (q, σ)
  | n + 1, q, σ => if (σ 53 8) ≤ q then (q, σ) else (if 8 ≤ (σ 81 1) then (q, σ) else (if (σ 63 q) ≤ 0 then (S_X2_takeDebts_12  sp n (q + 1) σ) else (S_X2_takeDebts_12  sp n (q + 1) (zu (zu σ 83 (σ 81 1) (R_X2_payableFor σ q (band (σ 54 (σ 59 q)) (bxor sp (-1))))) 81 1 ((σ 81 1) + 1)))))
theorem fr_S_X2_takeDebts_12  (sp : Int)  (n : Nat) (q : Int) (σ : zG) {k : Nat} (h : k ∉ [81, 83]) : (S_X2_takeDebts_12  sp n q σ).2 k = σ k := by
  induction n generalizing q σ with
  | zero => rfl
  | succ n ih =>
    have ne : ∀ c ∈ [81, 83], k ≠ c := fun c hc e => h (e ▸ hc)
    rw [S_X2_takeDebts_12]
    repeat' split
    all_goals first | rfl | simp only [zu_row _ _ _ (ne 81 (by decide)), zu_row _ _ _ (ne 83 (by decide)), ih]

set_option maxRecDepth 20000 in
theorem seg_X2_takeDebts_12   (sp : Int) : ∀ (n : Nat) (q : Int) (σ : zG) (X : zX), 0 ≤ q → σ 53 8 ≤ 128 → σ 5 0 ≤ 8 → σ 5 1 ≤ 12 → 0 ≤ σ 81 1 ∧ σ 81 1 ≤ 8 → WO σ → (σ 53 8 - q).toNat < n → ((0 ≤ ((S_X2_takeDebts_12  sp n q σ).1)) → (((S_X2_takeDebts_12  sp n q σ).2) 53 8 ≤ 128) → (((S_X2_takeDebts_12  sp n q σ).2) 5 0 ≤ 8) → (((S_X2_takeDebts_12  sp n q σ).2) 5 1 ≤ 12) → (0 ≤ ((S_X2_takeDebts_12  sp n q σ).2) 81 1 ∧ ((S_X2_takeDebts_12  sp n q σ).2) 81 1 ≤ 8) → (WO ((S_X2_takeDebts_12  sp n q σ).2)) → zRx none 3 m_X2_takeDebts SC 83 [(0, zP 81), (1, zP 53), (2, .inl sp), (3, .inl ((S_X2_takeDebts_12  sp n q σ).1))] [] ((S_X2_takeDebts_12  sp n q σ).2) X) → zRx none 3 m_X2_takeDebts SC 12 [(0, zP 81), (1, zP 53), (2, .inl sp), (3, .inl q)] [] σ X := by
  intro n
  induction n with
  | zero => intro q σ X h0 hm hp hF hM hO hmz; exact absurd hmz (Nat.not_lt_zero _)
  | succ n ih =>
    intro q σ X h0 hm hp hF hM hO hmz K
    refine zRx.iload_n 3 rfl rfl dX2_takeDebts_12 ?_
    refine zRx.aload_n 1 rfl rfl dX2_takeDebts_13 ?_
    refine zRx.getIv (a := 53) (ji := 8) (v := σ 53 8) rfl fl_2_78 rfl rfl rfl dX2_takeDebts_14 ?_
    refine zRx.icmp_ge (tgt := 83) dX2_takeDebts_17 (by decide) (fun c17 => ?_) (fun c17 => ?_)
    · have he : S_X2_takeDebts_12  sp (n + 1) q σ = (q, σ) := by rw [S_X2_takeDebts_12, if_pos c17]
      rw [he] at K
      exact K h0 hm hp hF hM hO
    · refine zRx.aload_n 0 rfl rfl dX2_takeDebts_20 ?_
      refine zRx.getIv (a := 81) (ji := 1) (v := σ 81 1) rfl fl_2_30 rfl rfl rfl dX2_takeDebts_21 ?_
      refine zRx.bipush ⟨by decide, by decide⟩ rfl dX2_takeDebts_24 ?_
      refine zRx.icmp_ge (tgt := 83) dX2_takeDebts_26 (by decide) (fun c26 => ?_) (fun c26 => ?_)
      · have he : S_X2_takeDebts_12  sp (n + 1) q σ = (q, σ) := by rw [S_X2_takeDebts_12, if_neg (Int.not_le.mpr c17), if_pos c26]
        rw [he] at K
        exact K h0 hm hp hF hM hO
      · refine zRx.aload_n 1 rfl rfl dX2_takeDebts_29 ?_
        refine zRx.getR (a := 53) (b := 63) fl_2_79 rfl rfl dX2_takeDebts_30 ?_
        refine zRx.iload_n 3 rfl rfl dX2_takeDebts_33 ?_
        refine zRx.ialdv (v := σ 63 q) rfl rfl (by omega) (by omega) dX2_takeDebts_34 ?_
        refine zRx.if_le (tgt := 77) dX2_takeDebts_35 (by decide) (fun c35 => ?_) (fun c35 => ?_)
        · refine zRx.iinc (n := 1) (ls' := [(0, zP 81), (1, zP 53), (2, .inl sp), (3, .inl (q + 1))]) 3 rfl ⟨by omega, by omega⟩ rfl (by decide) dX2_takeDebts_77 ?_
          refine zRx.goto (tgt := 12) dX2_takeDebts_80 (by decide) ?_
          have he : S_X2_takeDebts_12  sp (n + 1) q σ = S_X2_takeDebts_12  sp n (q + 1) σ := by rw [S_X2_takeDebts_12, if_neg (Int.not_le.mpr c17), if_neg (Int.not_le.mpr c26), if_pos c35]
          rw [he] at K
          exact ih (q + 1) σ _ (by omega) hm hp hF hM hO (by omega) K
        · have ho := hO q (by omega) (by omega)
          refine zRx.aload_n 0 rfl rfl dX2_takeDebts_38 ?_
          refine zRx.getR (a := 81) (b := 83) fl_2_15 rfl rfl dX2_takeDebts_39 ?_
          refine zRx.aload_n 0 rfl rfl dX2_takeDebts_42 ?_
          refine zRx.getIv (a := 81) (ji := 1) (v := σ 81 1) rfl fl_2_30 rfl rfl rfl dX2_takeDebts_43 ?_
          refine zRx.aload_n 1 rfl rfl dX2_takeDebts_46 ?_
          refine zRx.iload_n 3 rfl rfl dX2_takeDebts_47 ?_
          refine zRx.aload_n 1 rfl rfl dX2_takeDebts_48 ?_
          refine zRx.getR (a := 53) (b := 54) fl_2_82 rfl rfl dX2_takeDebts_49 ?_
          refine zRx.aload_n 1 rfl rfl dX2_takeDebts_52 ?_
          refine zRx.getR (a := 53) (b := 59) fl_2_85 rfl rfl dX2_takeDebts_53 ?_
          refine zRx.iload_n 3 rfl rfl dX2_takeDebts_56 ?_
          refine zRx.ialdv (v := σ 59 q) rfl rfl (by omega) (by omega) dX2_takeDebts_57 ?_
          refine zRx.ialdv (v := σ 54 (σ 59 q)) rfl rfl (by omega) (by omega) dX2_takeDebts_58 ?_
          refine zRx.iload_n 2 rfl rfl dX2_takeDebts_59 ?_
          refine zRx.iconst ⟨by decide, by decide⟩ dX2_takeDebts_60 ?_
          refine zRx.ixor dX2_takeDebts_61 ?_
          refine zRx.iand dX2_takeDebts_62 ?_
          refine zRx.cSi (w := .inl (R_X2_payableFor σ q (band (σ 54 (σ 59 q)) (bxor sp (-1))))) (M := m_X2_payableFor) (av := [zP 53, .inl q, .inl (band (σ 54 (σ 59 q)) (bxor sp (-1)))]) cs_2_88 mk_X2_payableFor (by decide) rfl (Nat.le_of_ble_eq_true rfl) dX2_takeDebts_63 (does_X2_payableFor σ q (band (σ 54 (σ 59 q)) (bxor sp (-1))) (by omega) (by omega) (by omega)) ?_
          refine zRx.iast rfl (by omega) (by omega) dX2_takeDebts_66 ?_
          refine zRx.aload_n 0 rfl rfl dX2_takeDebts_67 ?_
          refine zRx.dup rfl dX2_takeDebts_68 ?_
          refine zRx.getIv (a := 81) (ji := 1) (v := σ 81 1) (zu_ne _ _ _ _ (by decide)) fl_2_30 rfl rfl rfl dX2_takeDebts_69 ?_
          refine zRx.iconst ⟨by decide, by decide⟩ dX2_takeDebts_72 ?_
          refine zRx.iadd ⟨by omega, by omega⟩ dX2_takeDebts_73 ?_
          refine zRx.putI (a := 81) (ji := 1) pl_2_30 rfl rfl rfl dX2_takeDebts_74 ?_
          refine zRx.iinc (n := 1) (ls' := [(0, zP 81), (1, zP 53), (2, .inl sp), (3, .inl (q + 1))]) 3 rfl ⟨by omega, by omega⟩ rfl (by decide) dX2_takeDebts_77 ?_
          refine zRx.goto (tgt := 12) dX2_takeDebts_80 (by decide) ?_
          have he : S_X2_takeDebts_12  sp (n + 1) q σ = S_X2_takeDebts_12  sp n (q + 1) (zu (zu σ 83 (σ 81 1) (R_X2_payableFor σ q (band (σ 54 (σ 59 q)) (bxor sp (-1))))) 81 1 ((σ 81 1) + 1)) := by rw [S_X2_takeDebts_12, if_neg (Int.not_le.mpr c17), if_neg (Int.not_le.mpr c26), if_neg (Int.not_le.mpr c35)]
          rw [he] at K
          exact ih (q + 1) (zu (zu σ 83 (σ 81 1) (R_X2_payableFor σ q (band (σ 54 (σ 59 q)) (bxor sp (-1))))) 81 1 ((σ 81 1) + 1)) _ (by omega) (by have e9 : (zu (zu σ 83 (σ 81 1) (R_X2_payableFor σ q (band (σ 54 (σ 59 q)) (bxor sp (-1))))) 81 1 ((σ 81 1) + 1)) 53 8 = σ 53 8 := ((zu_ne _ _ _ _ (by decide)).trans (zu_ne _ _ _ _ (by decide))); omega) (by have e9 : (zu (zu σ 83 (σ 81 1) (R_X2_payableFor σ q (band (σ 54 (σ 59 q)) (bxor sp (-1))))) 81 1 ((σ 81 1) + 1)) 5 0 = σ 5 0 := ((zu_ne _ _ _ _ (by decide)).trans (zu_ne _ _ _ _ (by decide))); omega) (by have e9 : (zu (zu σ 83 (σ 81 1) (R_X2_payableFor σ q (band (σ 54 (σ 59 q)) (bxor sp (-1))))) 81 1 ((σ 81 1) + 1)) 5 1 = σ 5 1 := ((zu_ne _ _ _ _ (by decide)).trans (zu_ne _ _ _ _ (by decide))); omega) (by rw [zu_at]; omega) (WO_row ((zu_row _ _ _ (by decide)).trans (zu_row _ _ _ (by decide))) ((zu_row _ _ _ (by decide)).trans (zu_row _ _ _ (by decide))) hO) (by have e9 : (zu (zu σ 83 (σ 81 1) (R_X2_payableFor σ q (band (σ 54 (σ 59 q)) (bxor sp (-1))))) 81 1 ((σ 81 1) + 1)) 53 8 = σ 53 8 := ((zu_ne _ _ _ _ (by decide)).trans (zu_ne _ _ _ _ (by decide))); omega) K
def R_X2_takeDebts (σ : zG)  : zG := (S_X2_takeDebts_12  (R_X4_knownToAll (zu σ 81 1 0) ) 200 0 (zu σ 81 1 0)).2
theorem fr_R_X2_takeDebts (σ : zG)  {k : Nat} (h : k ∉ [81, 83]) : (R_X2_takeDebts σ ) k = σ k := by
  have ne : ∀ c ∈ [81, 83], k ≠ c := fun c hc e => h (e ▸ hc)
  have nk_S_X2_takeDebts_12 : k ∉ [81, 83] := fun hm => h (by first | (revert hm; simp only [List.mem_cons, List.not_mem_nil, or_false]; omega) | (simp at hm))
  have nl_S_X2_takeDebts_12 : k ∉ [81, 83] := fun hm => h (by first | (revert hm; simp only [List.mem_cons, List.not_mem_nil, or_false]; omega) | (simp at hm))
  unfold R_X2_takeDebts
  repeat' split
  all_goals first | rfl | simp only [zu_row _ _ _ (ne 81 (by decide)), zu_row _ _ _ (ne 83 (by decide)), fr_S_X2_takeDebts_12 (h := nk_S_X2_takeDebts_12), fr_S_X2_takeDebts_12 (h := nl_S_X2_takeDebts_12)]

set_option maxRecDepth 20000 in
theorem does_X2_takeDebts (σ : zG)  (hm : σ 53 8 ≤ 128) (hp : σ 5 0 ≤ 8) (hF : σ 5 1 ≤ 12) (hO : WO σ)  : zDo SC 3 m_X2_takeDebts [zP 81, zP 53] σ (fun v σ' => (zEq none (R_X2_takeDebts σ )) v σ' ∧ (0 ≤ R_X2_takeDebts σ 81 1 ∧ R_X2_takeDebts σ 81 1 ≤ 8)) := by
  refine zDo.intro mk_X2_takeDebts (Nat.le_of_ble_eq_true rfl) ?_
  refine zRx.aload_n 0 rfl rfl dX2_takeDebts_0 ?_
  refine zRx.iconst ⟨by decide, by decide⟩ dX2_takeDebts_1 ?_
  refine zRx.putI (a := 81) (ji := 1) pl_2_30 rfl rfl rfl dX2_takeDebts_2 ?_
  refine zRx.aload_n 1 rfl rfl dX2_takeDebts_5 ?_
  refine zRx.cVi (w := .inl (R_X4_knownToAll (zu σ 81 1 0) )) (M := m_X4_knownToAll) (av := []) cv_2_74 mk_X4_knownToAll (by decide) (b := 53) rfl rfl (Nat.le_of_ble_eq_true rfl) dX2_takeDebts_6 (does_X4_knownToAll (zu σ 81 1 0)  (by have e9 : (zu σ 81 1 0) 5 0 = σ 5 0 := (zu_ne _ _ _ _ (by decide)); omega)) ?_
  refine zRx.istore_n (ls' := [(0, zP 81), (1, zP 53), (2, .inl (R_X4_knownToAll (zu σ 81 1 0) ))]) rfl rfl (by decide) dX2_takeDebts_9 ?_
  refine zRx.iconst ⟨by decide, by decide⟩ dX2_takeDebts_10 ?_
  refine zRx.istore_n (ls' := [(0, zP 81), (1, zP 53), (2, .inl (R_X4_knownToAll (zu σ 81 1 0) )), (3, .inl 0)]) rfl rfl (by decide) dX2_takeDebts_11 ?_
  refine seg_X2_takeDebts_12   (R_X4_knownToAll (zu σ 81 1 0) ) 200 0 (zu σ 81 1 0) _ (by omega) (by have e9 : (zu σ 81 1 0) 53 8 = σ 53 8 := (zu_ne _ _ _ _ (by decide)); omega) (by have e9 : (zu σ 81 1 0) 5 0 = σ 5 0 := (zu_ne _ _ _ _ (by decide)); omega) (by have e9 : (zu σ 81 1 0) 5 1 = σ 5 1 := (zu_ne _ _ _ _ (by decide)); omega) (by rw [zu_at]; decide) (WO_row (zu_row _ _ _ (by decide)) (zu_row _ _ _ (by decide)) hO) (by have e9 : (zu σ 81 1 0) 53 8 = σ 53 8 := (zu_ne _ _ _ _ (by decide)); omega) ?_
  intro x12_h0 x12_hm x12_hp x12_hF x12_hM x12_hO
  exact zR.ret rfl dX2_takeDebts_83 ⟨⟨rfl, (by rw [R_X2_takeDebts] : R_X2_takeDebts σ  = (S_X2_takeDebts_12  (R_X4_knownToAll (zu σ 81 1 0) ) 200 0 (zu σ 81 1 0)).2).symm⟩, x12_hM⟩

def S_X2_tryFact_13 (f hu se : Int) (st : Int) : Nat → Int → zG → Int × zG
  | 0, q, σ => (q, σ)
  | n + 1, q, σ => if (σ 81 1) ≤ q then (q, σ) else (if hb st q then (if hb (σ 83 q) f then (S_X2_tryFact_13 f hu se st n (q + 1) (zu σ 84 st (min (σ 84 st) ((σ 84 (bxor st (bshl 1 q))) + ((jshl hu 32) + (jshl f (4 * (7 - q)))))))) else (S_X2_tryFact_13 f hu se st n (q + 1) σ)) else (S_X2_tryFact_13 f hu se st n (q + 1) σ))
theorem fr_S_X2_tryFact_13 (f hu se : Int) (st : Int)  (n : Nat) (q : Int) (σ : zG) {k : Nat} (h : k ∉ [84]) : (S_X2_tryFact_13 f hu se st n q σ).2 k = σ k := by
  induction n generalizing q σ with
  | zero => rfl
  | succ n ih =>
    have ne : ∀ c ∈ [84], k ≠ c := fun c hc e => h (e ▸ hc)
    rw [S_X2_tryFact_13]
    repeat' split
    all_goals first | rfl | simp only [zu_row _ _ _ (ne 84 (by decide)), ih]

set_option maxRecDepth 20000 in
theorem seg_X2_tryFact_13 (f hu se : Int) (hf : 0 ≤ f ∧ f < 12) (hu9 : 0 ≤ hu ∧ hu ≤ 99) (st : Int) : ∀ (n : Nat) (q : Int) (σ : zG) (X : zX), 0 ≤ q ∧ 0 < st ∧ st < 256 → σ 81 1 ≤ 8 → LB (σ 84) → (σ 81 1 - q).toNat < n → ((0 ≤ ((S_X2_tryFact_13 f hu se st n q σ).1) ∧ 0 < st ∧ st < 256) → (((S_X2_tryFact_13 f hu se st n q σ).2) 81 1 ≤ 8) → (LB (((S_X2_tryFact_13 f hu se st n q σ).2) 84)) → zRx none 1 m_X2_tryFact SC 100 [(0, zP 81), (1, .inl f), (2, .inl hu), (3, .inl se), (4, .inl st), (5, .inl ((S_X2_tryFact_13 f hu se st n q σ).1))] [] ((S_X2_tryFact_13 f hu se st n q σ).2) X) → zRx none 1 m_X2_tryFact SC 13 [(0, zP 81), (1, .inl f), (2, .inl hu), (3, .inl se), (4, .inl st), (5, .inl q)] [] σ X := by
  intro n
  induction n with
  | zero => intro q σ X h0 hM hB hmz; exact absurd hmz (Nat.not_lt_zero _)
  | succ n ih =>
    intro q σ X h0 hM hB hmz K
    refine zRx.iload 5 rfl dX2_tryFact_13 ?_
    refine zRx.aload_n 0 rfl rfl dX2_tryFact_15 ?_
    refine zRx.getIv (a := 81) (ji := 1) (v := σ 81 1) rfl fl_2_30 rfl rfl rfl dX2_tryFact_16 ?_
    refine zRx.icmp_ge (tgt := 100) dX2_tryFact_19 (by decide) (fun c19 => ?_) (fun c19 => ?_)
    · have he : S_X2_tryFact_13 f hu se st (n + 1) q σ = (q, σ) := by rw [S_X2_tryFact_13, if_pos c19]
      rw [he] at K
      exact K h0 hM hB
    · refine zRx.iload 4 rfl dX2_tryFact_22 ?_
      refine zRx.iload 5 rfl dX2_tryFact_24 ?_
      refine zRx.cSi (w := .inl (b2 (hb st q))) (M := m_X11_hasBit) (av := [.inl st, .inl q]) cs_2_92 mk_X11_hasBit (by decide) rfl (Nat.le_of_ble_eq_true rfl) dX2_tryFact_26 (does_X11_hasBit st q SC σ) ?_
      refine zRx.if_eqB (tgt := 94) dX2_tryFact_29 (by decide) (fun c29 => ?_) (fun c29 => ?_)
      · refine zRx.iinc (n := 1) (ls' := [(0, zP 81), (1, .inl f), (2, .inl hu), (3, .inl se), (4, .inl st), (5, .inl (q + 1))]) 5 rfl ⟨by omega, by omega⟩ rfl (by decide) dX2_tryFact_94 ?_
        refine zRx.goto (tgt := 13) dX2_tryFact_97 (by decide) ?_
        have he : S_X2_tryFact_13 f hu se st (n + 1) q σ = S_X2_tryFact_13 f hu se st n (q + 1) σ := by rw [S_X2_tryFact_13, if_neg (Int.not_le.mpr c19), if_neg c29]
        rw [he] at K
        exact ih (q + 1) σ _ (by omega) hM hB (by omega) K
      · refine zRx.aload_n 0 rfl rfl dX2_tryFact_32 ?_
        refine zRx.getR (a := 81) (b := 83) fl_2_15 rfl rfl dX2_tryFact_33 ?_
        refine zRx.iload 5 rfl dX2_tryFact_36 ?_
        refine zRx.ialdv (v := σ 83 q) rfl rfl (by omega) (by omega) dX2_tryFact_38 ?_
        refine zRx.iload_n 1 rfl rfl dX2_tryFact_39 ?_
        refine zRx.cSi (w := .inl (b2 (hb (σ 83 q) f))) (M := m_X11_hasBit) (av := [.inl (σ 83 q), .inl f]) cs_2_92 mk_X11_hasBit (by decide) rfl (Nat.le_of_ble_eq_true rfl) dX2_tryFact_40 (does_X11_hasBit (σ 83 q) f SC σ) ?_
        refine zRx.if_eqB (tgt := 94) dX2_tryFact_43 (by decide) (fun c43 => ?_) (fun c43 => ?_)
        · refine zRx.iinc (n := 1) (ls' := [(0, zP 81), (1, .inl f), (2, .inl hu), (3, .inl se), (4, .inl st), (5, .inl (q + 1))]) 5 rfl ⟨by omega, by omega⟩ rfl (by decide) dX2_tryFact_94 ?_
          refine zRx.goto (tgt := 13) dX2_tryFact_97 (by decide) ?_
          have he : S_X2_tryFact_13 f hu se st (n + 1) q σ = S_X2_tryFact_13 f hu se st n (q + 1) σ := by rw [S_X2_tryFact_13, if_neg (Int.not_le.mpr c19), if_pos c29, if_neg c43]
          rw [he] at K
          exact ih (q + 1) σ _ (by omega) hM hB (by omega) K
        · have hx1 := hur_of hu9
          have hx2 := dig_of (f := f) (q := q) (by omega) (by omega)
          have hx3 := bxor_8 (m := st) (a := q) (by omega) (by omega)
          have hx4 := hB st
          have hx5 := hB (bxor st (bshl 1 q))
          refine zRx.iload_n 2 rfl rfl dX2_tryFact_46 ?_
          refine zRx.i2l dX2_tryFact_47 ?_
          refine zRx.bipush ⟨by decide, by decide⟩ rfl dX2_tryFact_48 ?_
          refine zRx.lshl dX2_tryFact_50 ?_
          refine zRx.iload_n 1 rfl rfl dX2_tryFact_51 ?_
          refine zRx.i2l dX2_tryFact_52 ?_
          refine zRx.iload 5 rfl dX2_tryFact_53 ?_
          refine zRx.cSi (w := .inl (4 * (7 - q))) (M := m_X2_digitShift) (av := [.inl q]) cs_2_100 mk_X2_digitShift (by decide) rfl (Nat.le_of_ble_eq_true rfl) dX2_tryFact_55 (does_X2_digitShift σ q SC (by omega)) ?_
          refine zRx.lshl dX2_tryFact_58 ?_
          refine zRx.ladd ⟨by omega, by omega⟩ dX2_tryFact_59 ?_
          refine zRx.lstore (ls' := [(0, zP 81), (1, .inl f), (2, .inl hu), (3, .inl se), (4, .inl st), (5, .inl q), (6, zJ ((jshl hu 32) + (jshl f (4 * (7 - q)))))]) rfl (by decide) dX2_tryFact_60 ?_
          refine zRx.aload_n 0 rfl rfl dX2_tryFact_62 ?_
          refine zRx.getR (a := 81) (b := 84) fl_2_18 rfl rfl dX2_tryFact_63 ?_
          refine zRx.iload 4 rfl dX2_tryFact_66 ?_
          refine zRx.aload_n 0 rfl rfl dX2_tryFact_68 ?_
          refine zRx.getR (a := 81) (b := 84) fl_2_18 rfl rfl dX2_tryFact_69 ?_
          refine zRx.iload 4 rfl dX2_tryFact_72 ?_
          refine zRx.laldv (v := σ 84 st) rfl rfl (by omega) (by omega) dX2_tryFact_74 ?_
          refine zRx.aload_n 0 rfl rfl dX2_tryFact_75 ?_
          refine zRx.getR (a := 81) (b := 84) fl_2_18 rfl rfl dX2_tryFact_76 ?_
          refine zRx.iload 4 rfl dX2_tryFact_79 ?_
          refine zRx.iconst ⟨by decide, by decide⟩ dX2_tryFact_81 ?_
          refine zRx.iload 5 rfl dX2_tryFact_82 ?_
          refine zRx.ishl dX2_tryFact_84 ?_
          refine zRx.ixor dX2_tryFact_85 ?_
          refine zRx.laldv (v := σ 84 (bxor st (bshl 1 q))) rfl rfl (by omega) (by omega) dX2_tryFact_86 ?_
          refine zRx.lload 6 rfl dX2_tryFact_87 ?_
          refine zRx.ladd ⟨by omega, by omega⟩ dX2_tryFact_89 ?_
          refine zRx.mminl mm_2_64 (by decide) (Nat.le_of_ble_eq_true rfl) dX2_tryFact_90 ?_
          refine zRx.last rfl (by omega) (by omega) dX2_tryFact_93 ?_
          refine zRx.iinc (n := 1) (ls' := [(0, zP 81), (1, .inl f), (2, .inl hu), (3, .inl se), (4, .inl st), (5, .inl (q + 1)), (6, zJ ((jshl hu 32) + (jshl f (4 * (7 - q)))))]) 5 rfl ⟨by omega, by omega⟩ rfl (by decide) dX2_tryFact_94 ?_
          refine zRx.goto (tgt := 13) dX2_tryFact_97 (by decide) ?_
          refine zRx.pick [0, 1, 2, 3, 4, 5] (ls' := [(0, zP 81), (1, .inl f), (2, .inl hu), (3, .inl se), (4, .inl st), (5, .inl (q + 1))]) rfl ?_
          have he : S_X2_tryFact_13 f hu se st (n + 1) q σ = S_X2_tryFact_13 f hu se st n (q + 1) (zu σ 84 st (min (σ 84 st) ((σ 84 (bxor st (bshl 1 q))) + ((jshl hu 32) + (jshl f (4 * (7 - q))))))) := by rw [S_X2_tryFact_13, if_neg (Int.not_le.mpr c19), if_pos c29, if_pos c43]
          rw [he] at K
          exact ih (q + 1) (zu σ 84 st (min (σ 84 st) ((σ 84 (bxor st (bshl 1 q))) + ((jshl hu 32) + (jshl f (4 * (7 - q))))))) _ (by omega) (by have e9 : (zu σ 84 st (min (σ 84 st) ((σ 84 (bxor st (bshl 1 q))) + ((jshl hu 32) + (jshl f (4 * (7 - q))))))) 81 1 = σ 81 1 := (zu_ne _ _ _ _ (by decide)); omega) (LB_put hB (by omega)) (by have e9 : (zu σ 84 st (min (σ 84 st) ((σ 84 (bxor st (bshl 1 q))) + ((jshl hu 32) + (jshl f (4 * (7 - q))))))) 81 1 = σ 81 1 := (zu_ne _ _ _ _ (by decide)); omega) K
def S_X2_tryFact_5 (f hu se : Int) : Nat → Int → zG → Int × zG
  | 0, st, σ => (st, σ)
  | n + 1, st, σ => if st ≤ 0 then (st, σ) else (S_X2_tryFact_5 f hu se n (st + (-1)) ((S_X2_tryFact_13 f hu se st 10 0 σ).2))
theorem fr_S_X2_tryFact_5 (f hu se : Int)  (n : Nat) (st : Int) (σ : zG) {k : Nat} (h : k ∉ [84]) : (S_X2_tryFact_5 f hu se n st σ).2 k = σ k := by
  induction n generalizing st σ with
  | zero => rfl
  | succ n ih =>
    have ne : ∀ c ∈ [84], k ≠ c := fun c hc e => h (e ▸ hc)
    have nk_S_X2_tryFact_13 : k ∉ [84] := fun hm => h (by first | (revert hm; simp only [List.mem_cons, List.not_mem_nil, or_false]; omega) | (simp at hm))
    rw [S_X2_tryFact_5]
    repeat' split
    all_goals first | rfl | simp only [zu_row _ _ _ (ne 84 (by decide)), fr_S_X2_tryFact_13 (h := nk_S_X2_tryFact_13), ih]

set_option maxRecDepth 20000 in
theorem seg_X2_tryFact_5 (f hu se : Int) (hf : 0 ≤ f ∧ f < 12) (hu9 : 0 ≤ hu ∧ hu ≤ 99) : ∀ (n : Nat) (st : Int) (σ : zG) (X : zX), st < 256 → σ 81 1 ≤ 8 → LB (σ 84) → st.toNat < n → ((((S_X2_tryFact_5 f hu se n st σ).1) < 256) → (((S_X2_tryFact_5 f hu se n st σ).2) 81 1 ≤ 8) → (LB (((S_X2_tryFact_5 f hu se n st σ).2) 84)) → zRx none 1 m_X2_tryFact SC 106 [(0, zP 81), (1, .inl f), (2, .inl hu), (3, .inl se), (4, .inl ((S_X2_tryFact_5 f hu se n st σ).1))] [] ((S_X2_tryFact_5 f hu se n st σ).2) X) → zRx none 1 m_X2_tryFact SC 5 [(0, zP 81), (1, .inl f), (2, .inl hu), (3, .inl se), (4, .inl st)] [] σ X := by
  intro n
  induction n with
  | zero => intro st σ X h0 hM hB hmz; exact absurd hmz (Nat.not_lt_zero _)
  | succ n ih =>
    intro st σ X h0 hM hB hmz K
    refine zRx.iload 4 rfl dX2_tryFact_5 ?_
    refine zRx.if_le (tgt := 106) dX2_tryFact_7 (by decide) (fun c7 => ?_) (fun c7 => ?_)
    · have he : S_X2_tryFact_5 f hu se (n + 1) st σ = (st, σ) := by rw [S_X2_tryFact_5, if_pos c7]
      rw [he] at K
      exact K h0 hM hB
    · refine zRx.iconst ⟨by decide, by decide⟩ dX2_tryFact_10 ?_
      refine zRx.istore (ls' := [(0, zP 81), (1, .inl f), (2, .inl hu), (3, .inl se), (4, .inl st), (5, .inl 0)]) rfl (by decide) dX2_tryFact_11 ?_
      refine seg_X2_tryFact_13 f hu se hf hu9 st 10 0 σ _ (by omega) hM hB (by omega) ?_
      intro x13_h0 x13_hM x13_hB
      refine zRx.iinc (n := -1) (ls' := [(0, zP 81), (1, .inl f), (2, .inl hu), (3, .inl se), (4, .inl (st + (-1))), (5, .inl ((S_X2_tryFact_13 f hu se st 10 0 σ).1))]) 4 rfl ⟨by omega, by omega⟩ rfl (by decide) dX2_tryFact_100 ?_
      refine zRx.goto (tgt := 5) dX2_tryFact_103 (by decide) ?_
      refine zRx.pick [0, 1, 2, 3, 4] (ls' := [(0, zP 81), (1, .inl f), (2, .inl hu), (3, .inl se), (4, .inl (st + (-1)))]) rfl ?_
      have he : S_X2_tryFact_5 f hu se (n + 1) st σ = S_X2_tryFact_5 f hu se n (st + (-1)) ((S_X2_tryFact_13 f hu se st 10 0 σ).2) := by rw [S_X2_tryFact_5, if_neg (Int.not_le.mpr c7)]
      rw [he] at K
      exact ih (st + (-1)) ((S_X2_tryFact_13 f hu se st 10 0 σ).2) _ (by omega) x13_hM x13_hB (by omega) K
def R_X2_tryFact (σ : zG) (f hu se : Int) : zG := (S_X2_tryFact_5 f hu se 300 (se - 1) σ).2
theorem fr_R_X2_tryFact (σ : zG) (f hu se : Int) {k : Nat} (h : k ∉ [84]) : (R_X2_tryFact σ f hu se) k = σ k := by
  have ne : ∀ c ∈ [84], k ≠ c := fun c hc e => h (e ▸ hc)
  have nk_S_X2_tryFact_5 : k ∉ [84] := fun hm => h (by first | (revert hm; simp only [List.mem_cons, List.not_mem_nil, or_false]; omega) | (simp at hm))
  have nl_S_X2_tryFact_13 : k ∉ [84] := fun hm => h (by first | (revert hm; simp only [List.mem_cons, List.not_mem_nil, or_false]; omega) | (simp at hm))
  have nl_S_X2_tryFact_5 : k ∉ [84] := fun hm => h (by first | (revert hm; simp only [List.mem_cons, List.not_mem_nil, or_false]; omega) | (simp at hm))
  unfold R_X2_tryFact
  repeat' split
  all_goals first | rfl | simp only [zu_row _ _ _ (ne 84 (by decide)), fr_S_X2_tryFact_5 (h := nk_S_X2_tryFact_5), fr_S_X2_tryFact_13 (h := nl_S_X2_tryFact_13), fr_S_X2_tryFact_5 (h := nl_S_X2_tryFact_5)]

set_option maxRecDepth 20000 in
theorem does_X2_tryFact (σ : zG) (f hu se : Int) (hf : 0 ≤ f ∧ f < 12) (hu9 : 0 ≤ hu ∧ hu ≤ 99) (hse : 1 ≤ se ∧ se ≤ 256) (hM : σ 81 1 ≤ 8) (hB : LB (σ 84))  : zDo SC 1 m_X2_tryFact [zP 81, .inl f, .inl hu, .inl se] σ (fun v σ' => (zEq none (R_X2_tryFact σ f hu se)) v σ' ∧ (R_X2_tryFact σ f hu se 81 1 ≤ 8 ∧ LB (R_X2_tryFact σ f hu se 84))) := by
  refine zDo.intro mk_X2_tryFact (Nat.le_of_ble_eq_true rfl) ?_
  refine zRx.iload_n 3 rfl rfl dX2_tryFact_0 ?_
  refine zRx.iconst ⟨by decide, by decide⟩ dX2_tryFact_1 ?_
  refine zRx.isub ⟨by omega, by omega⟩ dX2_tryFact_2 ?_
  refine zRx.istore (ls' := [(0, zP 81), (1, .inl f), (2, .inl hu), (3, .inl se), (4, .inl (se - 1))]) rfl (by decide) dX2_tryFact_3 ?_
  refine seg_X2_tryFact_5 f hu se hf hu9  300 (se - 1) σ _ (by omega) hM hB (by omega) ?_
  intro x5_h0 x5_hM x5_hB
  exact zR.ret rfl dX2_tryFact_106 ⟨⟨rfl, (by rw [R_X2_tryFact] : R_X2_tryFact σ f hu se = (S_X2_tryFact_5 f hu se 300 (se - 1) σ).2).symm⟩, ⟨x5_hM, x5_hB⟩⟩

def L_X2_unpaidBut_5 (σ : zG) (st : Int) : Nat → Int → Int → Int
  | 0, _, _ => 0
  | n + 1, sm, q => if (σ 81 1) ≤ q then sm else (if hb st q then (L_X2_unpaidBut_5 σ st n sm (q + 1)) else (L_X2_unpaidBut_5 σ st n (sm + (4398046511104 + (jshl 15 (4 * (7 - q))))) (q + 1)))
set_option maxRecDepth 20000 in
theorem loop_X2_unpaidBut_5 (σ : zG) (st : Int) (hM : 0 ≤ σ 81 1 ∧ σ 81 1 ≤ 8) : ∀ (n : Nat) (sm q : Int) , 0 ≤ q ∧ q ≤ 8 ∧ 0 ≤ sm ∧ sm ≤ q * 8796093022208 → (σ 81 1 - q).toNat < n → zR SC 1 m_X2_unpaidBut 5 [(0, zP 81), (1, .inl st), (2, zJ sm), (4, .inl q)] [] σ (zEq (some (zJ (L_X2_unpaidBut_5 σ st n sm q))) σ) := by
  intro n
  induction n with
  | zero => intro sm q  h0 hmz; exact absurd hmz (Nat.not_lt_zero _)
  | succ n ih =>
    intro sm q  h0 hmz
    refine zRx.iload 3 rfl dX2_unpaidBut_5 ?_
    refine zRx.aload_n 0 rfl rfl dX2_unpaidBut_7 ?_
    refine zRx.getIv (a := 81) (ji := 1) (v := σ 81 1) rfl fl_2_30 rfl rfl rfl dX2_unpaidBut_8 ?_
    refine zRx.icmp_ge (tgt := 45) dX2_unpaidBut_11 (by decide) (fun c11 => ?_) (fun c11 => ?_)
    · refine zRx.lload_n 2 rfl rfl dX2_unpaidBut_45 ?_
      exact zR.lret rfl dX2_unpaidBut_46 (by have he : L_X2_unpaidBut_5 σ st (n + 1) sm q = sm := (by rw [L_X2_unpaidBut_5, if_pos c11]); rw [he]; exact ⟨rfl, rfl⟩)
    · refine zRx.iload_n 1 rfl rfl dX2_unpaidBut_14 ?_
      refine zRx.iload 3 rfl dX2_unpaidBut_15 ?_
      refine zRx.cSi (w := .inl (b2 (hb st q))) (M := m_X11_hasBit) (av := [.inl st, .inl q]) cs_2_92 mk_X11_hasBit (by decide) rfl (Nat.le_of_ble_eq_true rfl) dX2_unpaidBut_17 (does_X11_hasBit st q SC σ) ?_
      refine zRx.if_neB (tgt := 39) dX2_unpaidBut_20 (by decide) (fun c20 => ?_) (fun c20 => ?_)
      · refine zRx.iinc (n := 1) (ls' := [(0, zP 81), (1, .inl st), (2, zJ sm), (4, .inl (q + 1))]) 3 rfl ⟨by omega, by omega⟩ rfl (by decide) dX2_unpaidBut_39 ?_
        refine zRx.goto (tgt := 5) dX2_unpaidBut_42 (by decide) ?_
        have he : L_X2_unpaidBut_5 σ st (n + 1) sm q = L_X2_unpaidBut_5 σ st n sm (q + 1) := by rw [L_X2_unpaidBut_5, if_neg (Int.not_le.mpr c11), if_pos c20]
        rw [he]
        exact ih sm (q + 1)  (by omega) (by omega)
      · have hx2 := dig_of (f := 15) (q := q) (by decide) (by omega)
        refine zRx.lload_n 2 rfl rfl dX2_unpaidBut_23 ?_
        refine zRx.ldc2 ⟨by decide, by decide⟩ kl_2_104 dX2_unpaidBut_24 ?_
        refine zRx.ldc2 ⟨by decide, by decide⟩ kl_2_106 dX2_unpaidBut_27 ?_
        refine zRx.iload 3 rfl dX2_unpaidBut_30 ?_
        refine zRx.cSi (w := .inl (4 * (7 - q))) (M := m_X2_digitShift) (av := [.inl q]) cs_2_100 mk_X2_digitShift (by decide) rfl (Nat.le_of_ble_eq_true rfl) dX2_unpaidBut_32 (does_X2_digitShift σ q SC (by omega)) ?_
        refine zRx.lshl dX2_unpaidBut_35 ?_
        refine zRx.ladd ⟨by omega, by omega⟩ dX2_unpaidBut_36 ?_
        refine zRx.ladd ⟨by omega, by omega⟩ dX2_unpaidBut_37 ?_
        refine zRx.lstore_n (ls' := [(0, zP 81), (1, .inl st), (2, zJ (sm + (4398046511104 + (jshl 15 (4 * (7 - q)))))), (4, .inl q)]) rfl rfl (by decide) dX2_unpaidBut_38 ?_
        refine zRx.iinc (n := 1) (ls' := [(0, zP 81), (1, .inl st), (2, zJ (sm + (4398046511104 + (jshl 15 (4 * (7 - q)))))), (4, .inl (q + 1))]) 3 rfl ⟨by omega, by omega⟩ rfl (by decide) dX2_unpaidBut_39 ?_
        refine zRx.goto (tgt := 5) dX2_unpaidBut_42 (by decide) ?_
        have he : L_X2_unpaidBut_5 σ st (n + 1) sm q = L_X2_unpaidBut_5 σ st n (sm + (4398046511104 + (jshl 15 (4 * (7 - q))))) (q + 1) := by rw [L_X2_unpaidBut_5, if_neg (Int.not_le.mpr c11), if_neg c20]
        rw [he]
        exact ih (sm + (4398046511104 + (jshl 15 (4 * (7 - q))))) (q + 1)  (by omega) (by omega)
def R_X2_unpaidBut (σ : zG) (st : Int) : Int := L_X2_unpaidBut_5 σ st 10 0 0
set_option maxRecDepth 20000 in
theorem does_X2_unpaidBut (σ : zG) (st : Int) (hM : 0 ≤ σ 81 1 ∧ σ 81 1 ≤ 8)  : zDo SC 1 m_X2_unpaidBut [zP 81, .inl st] σ (zEq (some (zJ (R_X2_unpaidBut σ st))) σ) := by
  refine zDo.intro mk_X2_unpaidBut (Nat.le_of_ble_eq_true rfl) ?_
  refine zRx.lconst (z := 0) rfl ⟨by decide, by decide⟩ dX2_unpaidBut_0 ?_
  refine zRx.lstore_n (ls' := [(0, zP 81), (1, .inl st), (2, zJ 0)]) rfl rfl (by decide) dX2_unpaidBut_1 ?_
  refine zRx.iconst ⟨by decide, by decide⟩ dX2_unpaidBut_2 ?_
  refine zRx.istore (ls' := [(0, zP 81), (1, .inl st), (2, zJ 0), (4, .inl 0)]) rfl (by decide) dX2_unpaidBut_3 ?_
  have he : R_X2_unpaidBut σ st = L_X2_unpaidBut_5 σ st 10 0 0 := by rw [R_X2_unpaidBut]
  rw [he]
  exact loop_X2_unpaidBut_5 σ st hM  10 0 0  (by omega) (by omega)

