/-! the ledger: lines judged -/
theorem band63 (x : Int) : 0 ≤ band x 63 ∧ band x 63 ≤ 63 := by
  have h : ∀ y : Int32, 0 ≤ (y &&& 63).toInt ∧ (y &&& 63).toInt ≤ 63 := by
    intro y
    have h1 : (y &&& 63).toBitVec.toNat = y.toBitVec.toNat % 64 := by
      rw [Int32.toBitVec_and, BitVec.toNat_and]
      exact Nat.and_two_pow_sub_one_eq_mod _ 6
    rw [toInt_small (by rw [h1]; omega), h1]
    omega
  exact h (iv x)
theorem bcnt_r (x : Int) : 0 ≤ bcnt x ∧ bcnt x ≤ 63 := band63 _

theorem owe_many (σ : zG) (who much i : Int) : F_X4_owe σ who much i 53 8 = if much = 0 then σ 53 8 else if σ 53 8 < 128 then σ 53 8 + 1 else σ 53 8 := by
  unfold F_X4_owe
  by_cases h1 : much = 0
  · rw [if_pos h1, if_pos h1]
  · rw [if_neg h1, if_neg h1]
    by_cases h2 : σ 53 8 < 128
    · rw [if_pos h2, if_pos h2]; simp [zu]
    · rw [if_neg h2, if_neg h2]
theorem owe_m (σ : zG) (who much i : Int) (h : 0 ≤ σ 53 8 ∧ σ 53 8 ≤ 128) : 0 ≤ F_X4_owe σ who much i 53 8 ∧ F_X4_owe σ who much i 53 8 ≤ 128 := by
  rw [owe_many]
  split
  · exact h
  · split <;> omega
theorem learn_m (σ : zG) (who f i : Int) : R_X4_learn σ who f i 53 8 = σ 53 8 := by
  unfold R_X4_learn
  rw [fr_L_X4_learn_78 (h := by decide), fr_S_X4_learn_34 (h := by decide)]
  simp [zu]

def F_X4_tell (σ : zG) (who an f i : Int) : zG := R_X4_learn (zu (R_X4_pay σ who (V_X4_valueFor σ who f) i) 55 (σ 11 f) (w32 ((σ 55 (σ 11 f)) + (σ 10 f)))) an f i
theorem fr_F_X4_tell (σ : zG) (who an f i : Int) {k : Nat} (h : k ∉ [53, 54, 55, 57, 63, 65, 66]) : (F_X4_tell σ who an f i) k = σ k := by
  have ne : ∀ c ∈ [53, 54, 55, 57, 63, 65, 66], k ≠ c := fun c hc e => h (e ▸ hc)
  have nk_R_X4_learn : k ∉ [53, 54, 57, 63, 66] := fun hm => h (by revert hm; simp only [List.mem_cons, List.not_mem_nil, or_false]; omega)
  have nk_R_X4_pay : k ∉ [63, 65] := fun hm => h (by revert hm; simp only [List.mem_cons, List.not_mem_nil, or_false]; omega)
  unfold F_X4_tell
  repeat' split
  all_goals first | rfl | simp only [zu_row _ _ _ (ne 53 (by decide)), zu_row _ _ _ (ne 54 (by decide)), zu_row _ _ _ (ne 55 (by decide)), zu_row _ _ _ (ne 57 (by decide)), zu_row _ _ _ (ne 63 (by decide)), zu_row _ _ _ (ne 65 (by decide)), zu_row _ _ _ (ne 66 (by decide)), fr_R_X4_learn (h := nk_R_X4_learn), fr_R_X4_pay (h := nk_R_X4_pay)]

set_option maxRecDepth 20000 in
theorem does_X4_tell (σ : zG) (who an f i : Int) (hf : 0 ≤ f ∧ f < 12) (hw : 0 ≤ an ∧ an < 8) (ha : 0 ≤ σ 11 f ∧ σ 11 f < 8) (hp : σ 5 0 ≤ 8) (hs : σ 5 2 ≤ 8) (hF : σ 5 1 ≤ 12) (hm : σ 53 8 ≤ 128) : zDo SC 3 m_X4_tell [zP 53, .inl who, .inl an, .inl f, .inl i] σ (zEq (none) (F_X4_tell σ who an f i)) := by
  refine zDo.intro mk_X4_tell (Nat.le_of_ble_eq_true rfl) ?_
  refine zRx.aload_n 0 rfl rfl dX4_tell_0 ?_
  refine zRx.iload_n 1 rfl rfl dX4_tell_1 ?_
  refine zRx.aload_n 0 rfl rfl dX4_tell_2 ?_
  refine zRx.iload_n 1 rfl rfl dX4_tell_3 ?_
  refine zRx.iload_n 3 rfl rfl dX4_tell_4 ?_
  refine zRx.cVi (w := .inl (V_X4_valueFor σ who f)) (M := m_X4_valueFor) (av := [.inl who, .inl f]) cv_4_150 mk_X4_valueFor (by decide) (b := 53) rfl rfl (Nat.le_of_ble_eq_true rfl) dX4_tell_5 (does_X4_valueFor σ who f (by omega) (by omega)) ?_
  refine zRx.iload 4 rfl dX4_tell_8 ?_
  refine zRx.cVv (M := m_X4_pay) (av := [.inl who, .inl (V_X4_valueFor σ who f), .inl i]) cv_4_153 mk_X4_pay (by decide) (b := 53) rfl rfl (Nat.le_of_ble_eq_true rfl) dX4_tell_10 (does_X4_pay σ who (V_X4_valueFor σ who f) i (by omega)) ?_
  refine zRx.aload_n 0 rfl rfl dX4_tell_13 ?_
  refine zRx.getR (a := 53) (b := 55) fl_4_15 rfl rfl dX4_tell_14 ?_
  refine zRx.aload_n 0 rfl rfl dX4_tell_17 ?_
  refine zRx.getR (a := 53) (b := 5) fl_4_51 rfl rfl dX4_tell_18 ?_
  refine zRx.getR (a := 5) (b := 11) fl_4_156 rfl rfl dX4_tell_21 ?_
  refine zRx.iload_n 3 rfl rfl dX4_tell_24 ?_
  refine zRx.ialdv (v := σ 11 f) (congrFun (fr_R_X4_pay σ who (V_X4_valueFor σ who f) i (k := 11) (by decide)) _) rfl (by omega) (by omega) dX4_tell_25 ?_
  refine zRx.dup2 rfl rfl dX4_tell_26 ?_
  refine zRx.ialdv (v := σ 55 (σ 11 f)) (congrFun (fr_R_X4_pay σ who (V_X4_valueFor σ who f) i (k := 55) (by decide)) _) rfl (by omega) (by omega) dX4_tell_27 ?_
  refine zRx.aload_n 0 rfl rfl dX4_tell_28 ?_
  refine zRx.getR (a := 53) (b := 5) fl_4_51 rfl rfl dX4_tell_29 ?_
  refine zRx.getR (a := 5) (b := 10) fl_4_157 rfl rfl dX4_tell_32 ?_
  refine zRx.iload_n 3 rfl rfl dX4_tell_35 ?_
  refine zRx.ialdv (v := σ 10 f) (congrFun (fr_R_X4_pay σ who (V_X4_valueFor σ who f) i (k := 10) (by decide)) _) rfl (by omega) (by omega) dX4_tell_36 ?_
  refine zRx.iaddW dX4_tell_37 ?_
  refine zRx.iast rfl (by omega) (by omega) dX4_tell_38 ?_
  refine zRx.aload_n 0 rfl rfl dX4_tell_39 ?_
  refine zRx.iload_n 2 rfl rfl dX4_tell_40 ?_
  refine zRx.iload_n 3 rfl rfl dX4_tell_41 ?_
  refine zRx.iload 4 rfl dX4_tell_42 ?_
  refine zRx.cVv (M := m_X4_learn) (av := [.inl an, .inl f, .inl i]) cv_4_132 mk_X4_learn (by decide) (b := 53) rfl rfl (Nat.le_of_ble_eq_true rfl) dX4_tell_44 (does_X4_learn (zu (R_X4_pay σ who (V_X4_valueFor σ who f) i) 55 (σ 11 f) (w32 ((σ 55 (σ 11 f)) + (σ 10 f)))) an f i (by omega) (by have e9 : (zu (R_X4_pay σ who (V_X4_valueFor σ who f) i) 55 (σ 11 f) (w32 ((σ 55 (σ 11 f)) + (σ 10 f)))) 5 2 = σ 5 2 := ((zu_ne _ _ _ _ (by decide)).trans (congrFun (fr_R_X4_pay σ who (V_X4_valueFor σ who f) i (k := 5) (by decide)) _)); omega) (by have e9 : (zu (R_X4_pay σ who (V_X4_valueFor σ who f) i) 55 (σ 11 f) (w32 ((σ 55 (σ 11 f)) + (σ 10 f)))) 5 1 = σ 5 1 := ((zu_ne _ _ _ _ (by decide)).trans (congrFun (fr_R_X4_pay σ who (V_X4_valueFor σ who f) i (k := 5) (by decide)) _)); omega) (by have e9 : (zu (R_X4_pay σ who (V_X4_valueFor σ who f) i) 55 (σ 11 f) (w32 ((σ 55 (σ 11 f)) + (σ 10 f)))) 53 8 = σ 53 8 := ((zu_ne _ _ _ _ (by decide)).trans (congrFun (fr_R_X4_pay σ who (V_X4_valueFor σ who f) i (k := 53) (by decide)) _)); omega)) ?_
  exact zR.ret rfl dX4_tell_47 ⟨rfl, rfl⟩

def L_X4_lie_55 (i : Int) (wi much : Int) : Nat → Int → zG → zG
  | 0, _, σ => σ
  | n + 1, q, σ => if wi ≤ q then σ else (L_X4_lie_55 i wi much n (q + 1) (F_X4_owe σ (band (bshr (σ 33 i) (w32 (3 * q))) 7) much i))
theorem fr_L_X4_lie_55 (i : Int) (wi much : Int)  (n : Nat) (q : Int) (σ : zG) {k : Nat} (h : k ∉ [53, 59, 60, 61, 62, 63, 64, 65, 66]) : (L_X4_lie_55 i wi much n q σ) k = σ k := by
  induction n generalizing q σ with
  | zero => rfl
  | succ n ih =>
    have ne : ∀ c ∈ [53, 59, 60, 61, 62, 63, 64, 65, 66], k ≠ c := fun c hc e => h (e ▸ hc)
    have nk_F_X4_owe : k ∉ [53, 59, 60, 61, 62, 63, 64, 65, 66] := fun hm => h (by revert hm; simp only [List.mem_cons, List.not_mem_nil, or_false]; omega)
    rw [L_X4_lie_55]
    repeat' split
    all_goals first | rfl | simp only [zu_row _ _ _ (ne 53 (by decide)), zu_row _ _ _ (ne 59 (by decide)), zu_row _ _ _ (ne 60 (by decide)), zu_row _ _ _ (ne 61 (by decide)), zu_row _ _ _ (ne 62 (by decide)), zu_row _ _ _ (ne 63 (by decide)), zu_row _ _ _ (ne 64 (by decide)), zu_row _ _ _ (ne 65 (by decide)), zu_row _ _ _ (ne 66 (by decide)), fr_F_X4_owe (h := nk_F_X4_owe), ih]

set_option maxRecDepth 20000 in
theorem loop_X4_lie_55 (i : Int) (hi : 0 ≤ i ∧ i < 60) (wi much : Int) : ∀ (n : Nat) (q : Int) (σ : zG), 0 ≤ q → 0 ≤ σ 53 8 ∧ σ 53 8 ≤ 128 → wi ≤ 63 → (wi - q).toNat < n → zR SC 1 m_X4_lie 55 [(0, zP 53), (1, .inl i), (2, .inl wi), (3, .inl much), (4, .inl q)] [] σ (zEq none (L_X4_lie_55 i wi much n q σ)) := by
  intro n
  induction n with
  | zero => intro q σ h0 hm hwi hmz; exact absurd hmz (Nat.not_lt_zero _)
  | succ n ih =>
    intro q σ h0 hm hwi hmz
    refine zRx.iload 4 rfl dX4_lie_55 ?_
    refine zRx.iload_n 2 rfl rfl dX4_lie_57 ?_
    refine zRx.icmp_ge (tgt := 90) dX4_lie_58 (by decide) (fun c58 => ?_) (fun c58 => ?_)
    · exact zR.ret rfl dX4_lie_90 ⟨rfl, (by rw [L_X4_lie_55, if_pos c58] : L_X4_lie_55 i wi much (n + 1) q σ = σ).symm⟩
    · refine zRx.aload_n 0 rfl rfl dX4_lie_61 ?_
      refine zRx.aload_n 0 rfl rfl dX4_lie_62 ?_
      refine zRx.getR (a := 53) (b := 27) fl_4_55 rfl rfl dX4_lie_63 ?_
      refine zRx.getR (a := 27) (b := 33) fl_4_147 rfl rfl dX4_lie_66 ?_
      refine zRx.iload_n 1 rfl rfl dX4_lie_69 ?_
      refine zRx.ialdv (v := σ 33 i) rfl rfl (by omega) (by omega) dX4_lie_70 ?_
      refine zRx.iconst ⟨by decide, by decide⟩ dX4_lie_71 ?_
      refine zRx.iload 4 rfl dX4_lie_72 ?_
      refine zRx.imulW dX4_lie_74 ?_
      refine zRx.ishr dX4_lie_75 ?_
      refine zRx.bipush ⟨by decide, by decide⟩ rfl dX4_lie_76 ?_
      refine zRx.iand dX4_lie_78 ?_
      refine zRx.iload_n 3 rfl rfl dX4_lie_79 ?_
      refine zRx.iload_n 1 rfl rfl dX4_lie_80 ?_
      refine zRx.cVv (M := m_X4_owe) (av := [.inl (band (bshr (σ 33 i) (w32 (3 * q))) 7), .inl much, .inl i]) cv_4_124 mk_X4_owe (by decide) (b := 53) rfl rfl (Nat.le_of_ble_eq_true rfl) dX4_lie_81 (does_X4_owe σ (band (bshr (σ 33 i) (w32 (3 * q))) 7) much i (by omega) (by omega)) ?_
      refine zRx.iinc (n := 1) (ls' := [(0, zP 53), (1, .inl i), (2, .inl wi), (3, .inl much), (4, .inl (q + 1))]) 4 rfl ⟨by omega, by omega⟩ rfl (by decide) dX4_lie_84 ?_
      refine zRx.goto (tgt := 55) dX4_lie_87 (by decide) ?_
      have he : L_X4_lie_55 i wi much (n + 1) q σ = L_X4_lie_55 i wi much n (q + 1) (F_X4_owe σ (band (bshr (σ 33 i) (w32 (3 * q))) 7) much i) := by rw [L_X4_lie_55, if_neg (Int.not_le.mpr c58)]
      rw [he]
      exact ih (q + 1) (F_X4_owe σ (band (bshr (σ 33 i) (w32 (3 * q))) 7) much i) (by omega) (owe_m _ _ _ _ (by omega)) hwi (by omega)
def R_X4_lie (σ : zG) (i : Int) : zG := L_X4_lie_55 i (bcnt (σ 32 i)) (V_cutUpW (σ 9 (σ 31 i)) (w32 ((bcnt (σ 32 i)) + 1))) 70 0 (F_X4_owe σ (σ 29 i) (V_cutUpW (σ 9 (σ 31 i)) (w32 ((bcnt (σ 32 i)) + 1))) i)
theorem fr_R_X4_lie (σ : zG) (i : Int) {k : Nat} (h : k ∉ [53, 59, 60, 61, 62, 63, 64, 65, 66]) : (R_X4_lie σ i) k = σ k := by
  have ne : ∀ c ∈ [53, 59, 60, 61, 62, 63, 64, 65, 66], k ≠ c := fun c hc e => h (e ▸ hc)
  have nk_F_X4_owe : k ∉ [53, 59, 60, 61, 62, 63, 64, 65, 66] := fun hm => h (by revert hm; simp only [List.mem_cons, List.not_mem_nil, or_false]; omega)
  have nl_L_X4_lie_55 : k ∉ [53, 59, 60, 61, 62, 63, 64, 65, 66] := fun hm => h (by revert hm; simp only [List.mem_cons, List.not_mem_nil, or_false]; omega)
  unfold R_X4_lie
  repeat' split
  all_goals first | rfl | simp only [zu_row _ _ _ (ne 53 (by decide)), zu_row _ _ _ (ne 59 (by decide)), zu_row _ _ _ (ne 60 (by decide)), zu_row _ _ _ (ne 61 (by decide)), zu_row _ _ _ (ne 62 (by decide)), zu_row _ _ _ (ne 63 (by decide)), zu_row _ _ _ (ne 64 (by decide)), zu_row _ _ _ (ne 65 (by decide)), zu_row _ _ _ (ne 66 (by decide)), fr_F_X4_owe (h := nk_F_X4_owe), fr_L_X4_lie_55 (h := nl_L_X4_lie_55)]

set_option maxRecDepth 20000 in
theorem does_X4_lie (σ : zG) (i : Int) (hi : 0 ≤ i ∧ i < 60) (ha : 0 ≤ σ 31 i ∧ σ 31 i < 12) (hm : 0 ≤ σ 53 8 ∧ σ 53 8 ≤ 128)  : zDo SC 1 m_X4_lie [zP 53, .inl i] σ (zEq none (R_X4_lie σ i)) := by
  refine zDo.intro mk_X4_lie (Nat.le_of_ble_eq_true rfl) ?_
  refine zRx.aload_n 0 rfl rfl dX4_lie_0 ?_
  refine zRx.getR (a := 53) (b := 27) fl_4_55 rfl rfl dX4_lie_1 ?_
  refine zRx.getR (a := 27) (b := 32) fl_4_103 rfl rfl dX4_lie_4 ?_
  refine zRx.iload_n 1 rfl rfl dX4_lie_7 ?_
  refine zRx.ialdv (v := σ 32 i) rfl rfl (by omega) (by omega) dX4_lie_8 ?_
  refine zRx.cSi (w := .inl (bcnt (σ 32 i))) (M := m_J6_bitCount_0f7a4) (av := [.inl (σ 32 i)]) cs_4_142 mk_J6_bitCount_0f7a4 (by decide) rfl (Nat.le_of_ble_eq_true rfl) dX4_lie_9 (does_bitCount σ (σ 32 i) SC) ?_
  refine zRx.istore_n (ls' := [(0, zP 53), (1, .inl i), (2, .inl (bcnt (σ 32 i)))]) rfl rfl (by decide) dX4_lie_12 ?_
  refine zRx.aload_n 0 rfl rfl dX4_lie_13 ?_
  refine zRx.getR (a := 53) (b := 5) fl_4_51 rfl rfl dX4_lie_14 ?_
  refine zRx.getR (a := 5) (b := 9) fl_4_114 rfl rfl dX4_lie_17 ?_
  refine zRx.aload_n 0 rfl rfl dX4_lie_20 ?_
  refine zRx.getR (a := 53) (b := 27) fl_4_55 rfl rfl dX4_lie_21 ?_
  refine zRx.getR (a := 27) (b := 31) fl_4_102 rfl rfl dX4_lie_24 ?_
  refine zRx.iload_n 1 rfl rfl dX4_lie_27 ?_
  refine zRx.ialdv (v := σ 31 i) rfl rfl (by omega) (by omega) dX4_lie_28 ?_
  refine zRx.ialdv (v := σ 9 (σ 31 i)) rfl rfl (by omega) (by omega) dX4_lie_29 ?_
  refine zRx.iload_n 2 rfl rfl dX4_lie_30 ?_
  refine zRx.iconst ⟨by decide, by decide⟩ dX4_lie_31 ?_
  refine zRx.iaddW dX4_lie_32 ?_
  refine zRx.cSi (w := .inl (V_cutUpW (σ 9 (σ 31 i)) (w32 ((bcnt (σ 32 i)) + 1)))) (M := m_X11_cutUp) (av := [.inl (σ 9 (σ 31 i)), .inl (w32 ((bcnt (σ 32 i)) + 1))]) cs_4_120 mk_X11_cutUp (by decide) rfl (Nat.le_of_ble_eq_true rfl) dX4_lie_33 (does_cutUpW σ (σ 9 (σ 31 i)) (w32 ((bcnt (σ 32 i)) + 1)) SC) ?_
  refine zRx.istore_n (ls' := [(0, zP 53), (1, .inl i), (2, .inl (bcnt (σ 32 i))), (3, .inl (V_cutUpW (σ 9 (σ 31 i)) (w32 ((bcnt (σ 32 i)) + 1))))]) rfl rfl (by decide) dX4_lie_36 ?_
  refine zRx.aload_n 0 rfl rfl dX4_lie_37 ?_
  refine zRx.aload_n 0 rfl rfl dX4_lie_38 ?_
  refine zRx.getR (a := 53) (b := 27) fl_4_55 rfl rfl dX4_lie_39 ?_
  refine zRx.getR (a := 27) (b := 29) fl_4_98 rfl rfl dX4_lie_42 ?_
  refine zRx.iload_n 1 rfl rfl dX4_lie_45 ?_
  refine zRx.ialdv (v := σ 29 i) rfl rfl (by omega) (by omega) dX4_lie_46 ?_
  refine zRx.iload_n 3 rfl rfl dX4_lie_47 ?_
  refine zRx.iload_n 1 rfl rfl dX4_lie_48 ?_
  refine zRx.cVv (M := m_X4_owe) (av := [.inl (σ 29 i), .inl (V_cutUpW (σ 9 (σ 31 i)) (w32 ((bcnt (σ 32 i)) + 1))), .inl i]) cv_4_124 mk_X4_owe (by decide) (b := 53) rfl rfl (Nat.le_of_ble_eq_true rfl) dX4_lie_49 (does_X4_owe σ (σ 29 i) (V_cutUpW (σ 9 (σ 31 i)) (w32 ((bcnt (σ 32 i)) + 1))) i (by omega) (by omega)) ?_
  refine zRx.iconst ⟨by decide, by decide⟩ dX4_lie_52 ?_
  refine zRx.istore (ls' := [(0, zP 53), (1, .inl i), (2, .inl (bcnt (σ 32 i))), (3, .inl (V_cutUpW (σ 9 (σ 31 i)) (w32 ((bcnt (σ 32 i)) + 1)))), (4, .inl 0)]) rfl (by decide) dX4_lie_53 ?_
  have he : R_X4_lie σ i = L_X4_lie_55 i (bcnt (σ 32 i)) (V_cutUpW (σ 9 (σ 31 i)) (w32 ((bcnt (σ 32 i)) + 1))) 70 0 (F_X4_owe σ (σ 29 i) (V_cutUpW (σ 9 (σ 31 i)) (w32 ((bcnt (σ 32 i)) + 1))) i) := by rw [R_X4_lie]
  rw [he]
  exact loop_X4_lie_55 i hi (bcnt (σ 32 i)) (V_cutUpW (σ 9 (σ 31 i)) (w32 ((bcnt (σ 32 i)) + 1))) 70 0 (F_X4_owe σ (σ 29 i) (V_cutUpW (σ 9 (σ 31 i)) (w32 ((bcnt (σ 32 i)) + 1))) i) (by omega) (owe_m _ _ _ _ (by omega)) (bcnt_r _).2 (by have := bcnt_r (σ 32 i); omega)

theorem owe_manyt (σ : zG) (who much i : Int) : F_X4_owet σ who much i 67 8 = if much = 0 then σ 67 8 else if σ 67 8 < 128 then σ 67 8 + 1 else σ 67 8 := by
  unfold F_X4_owet
  by_cases h1 : much = 0
  · rw [if_pos h1, if_pos h1]
  · rw [if_neg h1, if_neg h1]
    by_cases h2 : σ 67 8 < 128
    · rw [if_pos h2, if_pos h2]; simp [zu]
    · rw [if_neg h2, if_neg h2]
theorem owe_mt (σ : zG) (who much i : Int) (h : 0 ≤ σ 67 8 ∧ σ 67 8 ≤ 128) : 0 ≤ F_X4_owet σ who much i 67 8 ∧ F_X4_owet σ who much i 67 8 ≤ 128 := by
  rw [owe_manyt]
  split
  · exact h
  · split <;> omega
theorem learn_mt (σ : zG) (who f i : Int) : R_X4_learnt σ who f i 67 8 = σ 67 8 := by
  unfold R_X4_learnt
  rw [fr_L_X4_learn_78t (h := by decide), fr_S_X4_learn_34t (h := by decide)]
  simp [zu]

def F_X4_tellt (σ : zG) (who an f i : Int) : zG := R_X4_learnt (zu (R_X4_payt σ who (V_X4_valueFort σ who f) i) 69 (σ 11 f) (w32 ((σ 69 (σ 11 f)) + (σ 10 f)))) an f i
theorem fr_F_X4_tellt (σ : zG) (who an f i : Int) {k : Nat} (h : k ∉ [67, 68, 69, 71, 77, 79, 80]) : (F_X4_tellt σ who an f i) k = σ k := by
  have ne : ∀ c ∈ [67, 68, 69, 71, 77, 79, 80], k ≠ c := fun c hc e => h (e ▸ hc)
  have nk_R_X4_learnt : k ∉ [67, 68, 71, 77, 80] := fun hm => h (by revert hm; simp only [List.mem_cons, List.not_mem_nil, or_false]; omega)
  have nk_R_X4_payt : k ∉ [77, 79] := fun hm => h (by revert hm; simp only [List.mem_cons, List.not_mem_nil, or_false]; omega)
  unfold F_X4_tellt
  repeat' split
  all_goals first | rfl | simp only [zu_row _ _ _ (ne 67 (by decide)), zu_row _ _ _ (ne 68 (by decide)), zu_row _ _ _ (ne 69 (by decide)), zu_row _ _ _ (ne 71 (by decide)), zu_row _ _ _ (ne 77 (by decide)), zu_row _ _ _ (ne 79 (by decide)), zu_row _ _ _ (ne 80 (by decide)), fr_R_X4_learnt (h := nk_R_X4_learnt), fr_R_X4_payt (h := nk_R_X4_payt)]

set_option maxRecDepth 20000 in
theorem does_X4_tellt (σ : zG) (who an f i : Int) (hf : 0 ≤ f ∧ f < 12) (hw : 0 ≤ an ∧ an < 8) (ha : 0 ≤ σ 11 f ∧ σ 11 f < 8) (hp : σ 5 0 ≤ 8) (hs : σ 5 2 ≤ 8) (hF : σ 5 1 ≤ 12) (hm : σ 67 8 ≤ 128) : zDo SC 3 m_X4_tell [zP 67, .inl who, .inl an, .inl f, .inl i] σ (zEq (none) (F_X4_tellt σ who an f i)) := by
  refine zDo.intro mk_X4_tell (Nat.le_of_ble_eq_true rfl) ?_
  refine zRx.aload_n 0 rfl rfl dX4_tell_0 ?_
  refine zRx.iload_n 1 rfl rfl dX4_tell_1 ?_
  refine zRx.aload_n 0 rfl rfl dX4_tell_2 ?_
  refine zRx.iload_n 1 rfl rfl dX4_tell_3 ?_
  refine zRx.iload_n 3 rfl rfl dX4_tell_4 ?_
  refine zRx.cVi (w := .inl (V_X4_valueFort σ who f)) (M := m_X4_valueFor) (av := [.inl who, .inl f]) cv_4_150 mk_X4_valueFor (by decide) (b := 67) rfl rfl (Nat.le_of_ble_eq_true rfl) dX4_tell_5 (does_X4_valueFort σ who f (by omega) (by omega)) ?_
  refine zRx.iload 4 rfl dX4_tell_8 ?_
  refine zRx.cVv (M := m_X4_pay) (av := [.inl who, .inl (V_X4_valueFort σ who f), .inl i]) cv_4_153 mk_X4_pay (by decide) (b := 67) rfl rfl (Nat.le_of_ble_eq_true rfl) dX4_tell_10 (does_X4_payt σ who (V_X4_valueFort σ who f) i (by omega)) ?_
  refine zRx.aload_n 0 rfl rfl dX4_tell_13 ?_
  refine zRx.getR (a := 67) (b := 69) fl_4_15 rfl rfl dX4_tell_14 ?_
  refine zRx.aload_n 0 rfl rfl dX4_tell_17 ?_
  refine zRx.getR (a := 67) (b := 5) fl_4_51 rfl rfl dX4_tell_18 ?_
  refine zRx.getR (a := 5) (b := 11) fl_4_156 rfl rfl dX4_tell_21 ?_
  refine zRx.iload_n 3 rfl rfl dX4_tell_24 ?_
  refine zRx.ialdv (v := σ 11 f) (congrFun (fr_R_X4_payt σ who (V_X4_valueFort σ who f) i (k := 11) (by decide)) _) rfl (by omega) (by omega) dX4_tell_25 ?_
  refine zRx.dup2 rfl rfl dX4_tell_26 ?_
  refine zRx.ialdv (v := σ 69 (σ 11 f)) (congrFun (fr_R_X4_payt σ who (V_X4_valueFort σ who f) i (k := 69) (by decide)) _) rfl (by omega) (by omega) dX4_tell_27 ?_
  refine zRx.aload_n 0 rfl rfl dX4_tell_28 ?_
  refine zRx.getR (a := 67) (b := 5) fl_4_51 rfl rfl dX4_tell_29 ?_
  refine zRx.getR (a := 5) (b := 10) fl_4_157 rfl rfl dX4_tell_32 ?_
  refine zRx.iload_n 3 rfl rfl dX4_tell_35 ?_
  refine zRx.ialdv (v := σ 10 f) (congrFun (fr_R_X4_payt σ who (V_X4_valueFort σ who f) i (k := 10) (by decide)) _) rfl (by omega) (by omega) dX4_tell_36 ?_
  refine zRx.iaddW dX4_tell_37 ?_
  refine zRx.iast rfl (by omega) (by omega) dX4_tell_38 ?_
  refine zRx.aload_n 0 rfl rfl dX4_tell_39 ?_
  refine zRx.iload_n 2 rfl rfl dX4_tell_40 ?_
  refine zRx.iload_n 3 rfl rfl dX4_tell_41 ?_
  refine zRx.iload 4 rfl dX4_tell_42 ?_
  refine zRx.cVv (M := m_X4_learn) (av := [.inl an, .inl f, .inl i]) cv_4_132 mk_X4_learn (by decide) (b := 67) rfl rfl (Nat.le_of_ble_eq_true rfl) dX4_tell_44 (does_X4_learnt (zu (R_X4_payt σ who (V_X4_valueFort σ who f) i) 69 (σ 11 f) (w32 ((σ 69 (σ 11 f)) + (σ 10 f)))) an f i (by omega) (by have e9 : (zu (R_X4_payt σ who (V_X4_valueFort σ who f) i) 69 (σ 11 f) (w32 ((σ 69 (σ 11 f)) + (σ 10 f)))) 5 2 = σ 5 2 := ((zu_ne _ _ _ _ (by decide)).trans (congrFun (fr_R_X4_payt σ who (V_X4_valueFort σ who f) i (k := 5) (by decide)) _)); omega) (by have e9 : (zu (R_X4_payt σ who (V_X4_valueFort σ who f) i) 69 (σ 11 f) (w32 ((σ 69 (σ 11 f)) + (σ 10 f)))) 5 1 = σ 5 1 := ((zu_ne _ _ _ _ (by decide)).trans (congrFun (fr_R_X4_payt σ who (V_X4_valueFort σ who f) i (k := 5) (by decide)) _)); omega) (by have e9 : (zu (R_X4_payt σ who (V_X4_valueFort σ who f) i) 69 (σ 11 f) (w32 ((σ 69 (σ 11 f)) + (σ 10 f)))) 67 8 = σ 67 8 := ((zu_ne _ _ _ _ (by decide)).trans (congrFun (fr_R_X4_payt σ who (V_X4_valueFort σ who f) i (k := 67) (by decide)) _)); omega)) ?_
  exact zR.ret rfl dX4_tell_47 ⟨rfl, rfl⟩

def L_X4_lie_55t (i : Int) (wi much : Int) : Nat → Int → zG → zG
  | 0, _, σ => σ
  | n + 1, q, σ => if wi ≤ q then σ else (L_X4_lie_55t i wi much n (q + 1) (F_X4_owet σ (band (bshr (σ 33 i) (w32 (3 * q))) 7) much i))
theorem fr_L_X4_lie_55t (i : Int) (wi much : Int)  (n : Nat) (q : Int) (σ : zG) {k : Nat} (h : k ∉ [67, 73, 74, 75, 76, 77, 78, 79, 80]) : (L_X4_lie_55t i wi much n q σ) k = σ k := by
  induction n generalizing q σ with
  | zero => rfl
  | succ n ih =>
    have ne : ∀ c ∈ [67, 73, 74, 75, 76, 77, 78, 79, 80], k ≠ c := fun c hc e => h (e ▸ hc)
    have nk_F_X4_owet : k ∉ [67, 73, 74, 75, 76, 77, 78, 79, 80] := fun hm => h (by revert hm; simp only [List.mem_cons, List.not_mem_nil, or_false]; omega)
    rw [L_X4_lie_55t]
    repeat' split
    all_goals first | rfl | simp only [zu_row _ _ _ (ne 67 (by decide)), zu_row _ _ _ (ne 73 (by decide)), zu_row _ _ _ (ne 74 (by decide)), zu_row _ _ _ (ne 75 (by decide)), zu_row _ _ _ (ne 76 (by decide)), zu_row _ _ _ (ne 77 (by decide)), zu_row _ _ _ (ne 78 (by decide)), zu_row _ _ _ (ne 79 (by decide)), zu_row _ _ _ (ne 80 (by decide)), fr_F_X4_owet (h := nk_F_X4_owet), ih]

set_option maxRecDepth 20000 in
theorem loop_X4_lie_55t (i : Int) (hi : 0 ≤ i ∧ i < 60) (wi much : Int) : ∀ (n : Nat) (q : Int) (σ : zG), 0 ≤ q → 0 ≤ σ 67 8 ∧ σ 67 8 ≤ 128 → wi ≤ 63 → (wi - q).toNat < n → zR SC 1 m_X4_lie 55 [(0, zP 67), (1, .inl i), (2, .inl wi), (3, .inl much), (4, .inl q)] [] σ (zEq none (L_X4_lie_55t i wi much n q σ)) := by
  intro n
  induction n with
  | zero => intro q σ h0 hm hwi hmz; exact absurd hmz (Nat.not_lt_zero _)
  | succ n ih =>
    intro q σ h0 hm hwi hmz
    refine zRx.iload 4 rfl dX4_lie_55 ?_
    refine zRx.iload_n 2 rfl rfl dX4_lie_57 ?_
    refine zRx.icmp_ge (tgt := 90) dX4_lie_58 (by decide) (fun c58 => ?_) (fun c58 => ?_)
    · exact zR.ret rfl dX4_lie_90 ⟨rfl, (by rw [L_X4_lie_55t, if_pos c58] : L_X4_lie_55t i wi much (n + 1) q σ = σ).symm⟩
    · refine zRx.aload_n 0 rfl rfl dX4_lie_61 ?_
      refine zRx.aload_n 0 rfl rfl dX4_lie_62 ?_
      refine zRx.getR (a := 67) (b := 27) fl_4_55 rfl rfl dX4_lie_63 ?_
      refine zRx.getR (a := 27) (b := 33) fl_4_147 rfl rfl dX4_lie_66 ?_
      refine zRx.iload_n 1 rfl rfl dX4_lie_69 ?_
      refine zRx.ialdv (v := σ 33 i) rfl rfl (by omega) (by omega) dX4_lie_70 ?_
      refine zRx.iconst ⟨by decide, by decide⟩ dX4_lie_71 ?_
      refine zRx.iload 4 rfl dX4_lie_72 ?_
      refine zRx.imulW dX4_lie_74 ?_
      refine zRx.ishr dX4_lie_75 ?_
      refine zRx.bipush ⟨by decide, by decide⟩ rfl dX4_lie_76 ?_
      refine zRx.iand dX4_lie_78 ?_
      refine zRx.iload_n 3 rfl rfl dX4_lie_79 ?_
      refine zRx.iload_n 1 rfl rfl dX4_lie_80 ?_
      refine zRx.cVv (M := m_X4_owe) (av := [.inl (band (bshr (σ 33 i) (w32 (3 * q))) 7), .inl much, .inl i]) cv_4_124 mk_X4_owe (by decide) (b := 67) rfl rfl (Nat.le_of_ble_eq_true rfl) dX4_lie_81 (does_X4_owet σ (band (bshr (σ 33 i) (w32 (3 * q))) 7) much i (by omega) (by omega)) ?_
      refine zRx.iinc (n := 1) (ls' := [(0, zP 67), (1, .inl i), (2, .inl wi), (3, .inl much), (4, .inl (q + 1))]) 4 rfl ⟨by omega, by omega⟩ rfl (by decide) dX4_lie_84 ?_
      refine zRx.goto (tgt := 55) dX4_lie_87 (by decide) ?_
      have he : L_X4_lie_55t i wi much (n + 1) q σ = L_X4_lie_55t i wi much n (q + 1) (F_X4_owet σ (band (bshr (σ 33 i) (w32 (3 * q))) 7) much i) := by rw [L_X4_lie_55t, if_neg (Int.not_le.mpr c58)]
      rw [he]
      exact ih (q + 1) (F_X4_owet σ (band (bshr (σ 33 i) (w32 (3 * q))) 7) much i) (by omega) (owe_mt _ _ _ _ (by omega)) hwi (by omega)
def R_X4_liet (σ : zG) (i : Int) : zG := L_X4_lie_55t i (bcnt (σ 32 i)) (V_cutUpW (σ 9 (σ 31 i)) (w32 ((bcnt (σ 32 i)) + 1))) 70 0 (F_X4_owet σ (σ 29 i) (V_cutUpW (σ 9 (σ 31 i)) (w32 ((bcnt (σ 32 i)) + 1))) i)
theorem fr_R_X4_liet (σ : zG) (i : Int) {k : Nat} (h : k ∉ [67, 73, 74, 75, 76, 77, 78, 79, 80]) : (R_X4_liet σ i) k = σ k := by
  have ne : ∀ c ∈ [67, 73, 74, 75, 76, 77, 78, 79, 80], k ≠ c := fun c hc e => h (e ▸ hc)
  have nk_F_X4_owet : k ∉ [67, 73, 74, 75, 76, 77, 78, 79, 80] := fun hm => h (by revert hm; simp only [List.mem_cons, List.not_mem_nil, or_false]; omega)
  have nl_L_X4_lie_55t : k ∉ [67, 73, 74, 75, 76, 77, 78, 79, 80] := fun hm => h (by revert hm; simp only [List.mem_cons, List.not_mem_nil, or_false]; omega)
  unfold R_X4_liet
  repeat' split
  all_goals first | rfl | simp only [zu_row _ _ _ (ne 67 (by decide)), zu_row _ _ _ (ne 73 (by decide)), zu_row _ _ _ (ne 74 (by decide)), zu_row _ _ _ (ne 75 (by decide)), zu_row _ _ _ (ne 76 (by decide)), zu_row _ _ _ (ne 77 (by decide)), zu_row _ _ _ (ne 78 (by decide)), zu_row _ _ _ (ne 79 (by decide)), zu_row _ _ _ (ne 80 (by decide)), fr_F_X4_owet (h := nk_F_X4_owet), fr_L_X4_lie_55t (h := nl_L_X4_lie_55t)]

set_option maxRecDepth 20000 in
theorem does_X4_liet (σ : zG) (i : Int) (hi : 0 ≤ i ∧ i < 60) (ha : 0 ≤ σ 31 i ∧ σ 31 i < 12) (hm : 0 ≤ σ 67 8 ∧ σ 67 8 ≤ 128)  : zDo SC 1 m_X4_lie [zP 67, .inl i] σ (zEq none (R_X4_liet σ i)) := by
  refine zDo.intro mk_X4_lie (Nat.le_of_ble_eq_true rfl) ?_
  refine zRx.aload_n 0 rfl rfl dX4_lie_0 ?_
  refine zRx.getR (a := 67) (b := 27) fl_4_55 rfl rfl dX4_lie_1 ?_
  refine zRx.getR (a := 27) (b := 32) fl_4_103 rfl rfl dX4_lie_4 ?_
  refine zRx.iload_n 1 rfl rfl dX4_lie_7 ?_
  refine zRx.ialdv (v := σ 32 i) rfl rfl (by omega) (by omega) dX4_lie_8 ?_
  refine zRx.cSi (w := .inl (bcnt (σ 32 i))) (M := m_J6_bitCount_0f7a4) (av := [.inl (σ 32 i)]) cs_4_142 mk_J6_bitCount_0f7a4 (by decide) rfl (Nat.le_of_ble_eq_true rfl) dX4_lie_9 (does_bitCount σ (σ 32 i) SC) ?_
  refine zRx.istore_n (ls' := [(0, zP 67), (1, .inl i), (2, .inl (bcnt (σ 32 i)))]) rfl rfl (by decide) dX4_lie_12 ?_
  refine zRx.aload_n 0 rfl rfl dX4_lie_13 ?_
  refine zRx.getR (a := 67) (b := 5) fl_4_51 rfl rfl dX4_lie_14 ?_
  refine zRx.getR (a := 5) (b := 9) fl_4_114 rfl rfl dX4_lie_17 ?_
  refine zRx.aload_n 0 rfl rfl dX4_lie_20 ?_
  refine zRx.getR (a := 67) (b := 27) fl_4_55 rfl rfl dX4_lie_21 ?_
  refine zRx.getR (a := 27) (b := 31) fl_4_102 rfl rfl dX4_lie_24 ?_
  refine zRx.iload_n 1 rfl rfl dX4_lie_27 ?_
  refine zRx.ialdv (v := σ 31 i) rfl rfl (by omega) (by omega) dX4_lie_28 ?_
  refine zRx.ialdv (v := σ 9 (σ 31 i)) rfl rfl (by omega) (by omega) dX4_lie_29 ?_
  refine zRx.iload_n 2 rfl rfl dX4_lie_30 ?_
  refine zRx.iconst ⟨by decide, by decide⟩ dX4_lie_31 ?_
  refine zRx.iaddW dX4_lie_32 ?_
  refine zRx.cSi (w := .inl (V_cutUpW (σ 9 (σ 31 i)) (w32 ((bcnt (σ 32 i)) + 1)))) (M := m_X11_cutUp) (av := [.inl (σ 9 (σ 31 i)), .inl (w32 ((bcnt (σ 32 i)) + 1))]) cs_4_120 mk_X11_cutUp (by decide) rfl (Nat.le_of_ble_eq_true rfl) dX4_lie_33 (does_cutUpW σ (σ 9 (σ 31 i)) (w32 ((bcnt (σ 32 i)) + 1)) SC) ?_
  refine zRx.istore_n (ls' := [(0, zP 67), (1, .inl i), (2, .inl (bcnt (σ 32 i))), (3, .inl (V_cutUpW (σ 9 (σ 31 i)) (w32 ((bcnt (σ 32 i)) + 1))))]) rfl rfl (by decide) dX4_lie_36 ?_
  refine zRx.aload_n 0 rfl rfl dX4_lie_37 ?_
  refine zRx.aload_n 0 rfl rfl dX4_lie_38 ?_
  refine zRx.getR (a := 67) (b := 27) fl_4_55 rfl rfl dX4_lie_39 ?_
  refine zRx.getR (a := 27) (b := 29) fl_4_98 rfl rfl dX4_lie_42 ?_
  refine zRx.iload_n 1 rfl rfl dX4_lie_45 ?_
  refine zRx.ialdv (v := σ 29 i) rfl rfl (by omega) (by omega) dX4_lie_46 ?_
  refine zRx.iload_n 3 rfl rfl dX4_lie_47 ?_
  refine zRx.iload_n 1 rfl rfl dX4_lie_48 ?_
  refine zRx.cVv (M := m_X4_owe) (av := [.inl (σ 29 i), .inl (V_cutUpW (σ 9 (σ 31 i)) (w32 ((bcnt (σ 32 i)) + 1))), .inl i]) cv_4_124 mk_X4_owe (by decide) (b := 67) rfl rfl (Nat.le_of_ble_eq_true rfl) dX4_lie_49 (does_X4_owet σ (σ 29 i) (V_cutUpW (σ 9 (σ 31 i)) (w32 ((bcnt (σ 32 i)) + 1))) i (by omega) (by omega)) ?_
  refine zRx.iconst ⟨by decide, by decide⟩ dX4_lie_52 ?_
  refine zRx.istore (ls' := [(0, zP 67), (1, .inl i), (2, .inl (bcnt (σ 32 i))), (3, .inl (V_cutUpW (σ 9 (σ 31 i)) (w32 ((bcnt (σ 32 i)) + 1)))), (4, .inl 0)]) rfl (by decide) dX4_lie_53 ?_
  have he : R_X4_liet σ i = L_X4_lie_55t i (bcnt (σ 32 i)) (V_cutUpW (σ 9 (σ 31 i)) (w32 ((bcnt (σ 32 i)) + 1))) 70 0 (F_X4_owet σ (σ 29 i) (V_cutUpW (σ 9 (σ 31 i)) (w32 ((bcnt (σ 32 i)) + 1))) i) := by rw [R_X4_liet]
  rw [he]
  exact loop_X4_lie_55t i hi (bcnt (σ 32 i)) (V_cutUpW (σ 9 (σ 31 i)) (w32 ((bcnt (σ 32 i)) + 1))) 70 0 (F_X4_owet σ (σ 29 i) (V_cutUpW (σ 9 (σ 31 i)) (w32 ((bcnt (σ 32 i)) + 1))) i) (by omega) (owe_mt _ _ _ _ (by omega)) (bcnt_r _).2 (by have := bcnt_r (σ 32 i); omega)

