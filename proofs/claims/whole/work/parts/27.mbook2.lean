/-! the reference: autumn, debts, unsaid -/
theorem run_m {σ : zG} (hN : MN (σ 2)) (j v b : Int) : R_X12_run (zu σ 0 j v) b 0 43 ≤ 420 := (run_K _ b (MW_z hN j v)).2.2

def V_X12_unsaid (σ : zG) (x : Int) : Int := if 0 ≤ x ∧ x ≤ ((σ 2 172) - 1) then (R_X12_owedAll (R_X12_run (zu σ 0 0 0) x)) else (-1)
def F_X12_unsaid (σ : zG) (x : Int) : zG := if 0 ≤ x ∧ x ≤ ((σ 2 172) - 1) then (R_X12_run (zu σ 0 0 0) x) else (zu σ 0 0 0)
theorem fr_F_X12_unsaid (σ : zG) (x : Int) {k : Nat} (h : k ∉ [0, 11, 12, 13, 14, 15, 16, 17, 18, 19, 20, 21, 22, 23, 24, 25]) : (F_X12_unsaid σ x) k = σ k := by
  have ne : ∀ c ∈ [0, 11, 12, 13, 14, 15, 16, 17, 18, 19, 20, 21, 22, 23, 24, 25], k ≠ c := fun c hc e => h (e ▸ hc)
  have nk_R_X12_run : k ∉ [0, 11, 12, 13, 14, 15, 16, 17, 18, 19, 20, 21, 22, 23, 24, 25] := fun hm => h (by first | (revert hm; simp only [List.mem_cons, List.not_mem_nil, or_false]; omega) | (simp at hm))
  unfold F_X12_unsaid
  repeat' split
  all_goals first | rfl | simp only [zu_row _ _ _ (ne 0 (by decide)), zu_row _ _ _ (ne 11 (by decide)), zu_row _ _ _ (ne 12 (by decide)), zu_row _ _ _ (ne 13 (by decide)), zu_row _ _ _ (ne 14 (by decide)), zu_row _ _ _ (ne 15 (by decide)), zu_row _ _ _ (ne 16 (by decide)), zu_row _ _ _ (ne 17 (by decide)), zu_row _ _ _ (ne 18 (by decide)), zu_row _ _ _ (ne 19 (by decide)), zu_row _ _ _ (ne 20 (by decide)), zu_row _ _ _ (ne 21 (by decide)), zu_row _ _ _ (ne 22 (by decide)), zu_row _ _ _ (ne 23 (by decide)), zu_row _ _ _ (ne 24 (by decide)), zu_row _ _ _ (ne 25 (by decide)), fr_R_X12_run (h := nk_R_X12_run)]

set_option maxRecDepth 20000 in
theorem does_X12_unsaid (σ : zG) (x : Int) (hN : MN (σ 2)) : zDo SM 6 m_X12_unsaid [zP 0, .inl x] σ (zEq (some (.inl (V_X12_unsaid σ x))) (F_X12_unsaid σ x)) := by
  refine zDo.intro mk_X12_unsaid (Nat.le_of_ble_eq_true rfl) ?_
  obtain ⟨hW, hp, hF, hL⟩ := id hN
  refine zRx.aload_n 0 rfl rfl dX12_unsaid_0 ?_
  refine zRx.iconst ⟨by decide, by decide⟩ dX12_unsaid_1 ?_
  refine zRx.putI (a := 0) (ji := 0) pl_12_1 rfl rfl rfl dX12_unsaid_2 ?_
  refine zRx.iload_n 1 rfl rfl dX12_unsaid_5 ?_
  refine zRx.iconst ⟨by decide, by decide⟩ dX12_unsaid_6 ?_
  refine zRx.aload_n 0 rfl rfl dX12_unsaid_7 ?_
  refine zRx.getR (a := 0) (b := 2) fl_12_33 rfl rfl dX12_unsaid_8 ?_
  refine zRx.sipush ⟨by decide, by decide⟩ rfl dX12_unsaid_11 ?_
  refine zRx.ialdv (v := σ 2 172) (zu_ne _ _ _ _ (by decide)) rfl (by decide) (by decide) dX12_unsaid_14 ?_
  refine zRx.iconst ⟨by decide, by decide⟩ dX12_unsaid_15 ?_
  refine zRx.isub ⟨by omega, by omega⟩ dX12_unsaid_16 ?_
  refine zRx.cSi (w := .inl (b2 (0 ≤ x ∧ x ≤ ((σ 2 172) - 1)))) (M := m_X12_isIn) (av := [.inl x, .inl 0, .inl ((σ 2 172) - 1)]) cs_12_254 mk_X12_isIn (by decide) rfl (Nat.le_of_ble_eq_true rfl) dX12_unsaid_17 (does_X12_isIn x 0 ((σ 2 172) - 1) SM (zu σ 0 0 0)) ?_
  refine zRx.if_neB (tgt := 25) dX12_unsaid_20 (by decide) (fun c20 => ?_) (fun c20 => ?_)
  · refine zRx.aload_n 0 rfl rfl dX12_unsaid_25 ?_
    refine zRx.iload_n 1 rfl rfl dX12_unsaid_26 ?_
    refine zRx.cVv (M := m_X12_run) (av := [.inl x]) cv_12_400 mk_X12_run (by decide) (b := 0) rfl rfl (Nat.le_of_ble_eq_true rfl) dX12_unsaid_27 (does_X12_run (zu σ 0 0 0) x (MW_z hN _ _)) ?_
    refine zRx.aload_n 0 rfl rfl dX12_unsaid_30 ?_
    refine zRx.cVi (w := .inl (R_X12_owedAll (R_X12_run (zu σ 0 0 0) x))) (M := m_X12_owedAll) (av := []) cv_12_409 mk_X12_owedAll (by decide) (b := 0) rfl rfl (Nat.le_of_ble_eq_true rfl) dX12_unsaid_31 (does_X12_owedAll (R_X12_run (zu σ 0 0 0) x) (run_m hN _ _ _)) ?_
    exact zR.iret rfl dX12_unsaid_34 ⟨by unfold V_X12_unsaid; rw [if_pos c20], by unfold F_X12_unsaid; rw [if_pos c20]⟩
  · refine zRx.iconst ⟨by decide, by decide⟩ dX12_unsaid_23 ?_
    exact zR.iret rfl dX12_unsaid_24 ⟨by unfold V_X12_unsaid; rw [if_neg c20], by unfold F_X12_unsaid; rw [if_neg c20]⟩

def L_X12_mayPay_40 (σ : zG) (d f : Int) : Nat → Int → Int
  | 0, _ => 0
  | n + 1, q => if (σ 2 0) ≤ q then 0 else (if hb (σ 11 q) f then (L_X12_mayPay_40 σ d f n (q + 1)) else 1)
set_option maxRecDepth 20000 in
theorem loop_X12_mayPay_40 (σ : zG) (d f : Int) (hp : 0 ≤ σ 2 0 ∧ σ 2 0 ≤ 8) (w : Int) : ∀ (n : Nat) (q : Int) , 0 ≤ q → (σ 2 0 - q).toNat < n → zR SM 2 m_X12_mayPay 40 [(0, zP 0), (1, .inl d), (2, .inl f), (3, .inl w), (4, .inl q)] [] σ (zEq (some (.inl (L_X12_mayPay_40 σ d f n q))) σ) := by
  intro n
  induction n with
  | zero => intro q  h0 hmz; exact absurd hmz (Nat.not_lt_zero _)
  | succ n ih =>
    intro q  h0 hmz
    refine zRx.iload 4 rfl dX12_mayPay_40 ?_
    refine zRx.aload_n 0 rfl rfl dX12_mayPay_42 ?_
    refine zRx.getR (a := 0) (b := 2) fl_12_33 rfl rfl dX12_mayPay_43 ?_
    refine zRx.iconst ⟨by decide, by decide⟩ dX12_mayPay_46 ?_
    refine zRx.ialdv (v := σ 2 0) rfl rfl (by decide) (by decide) dX12_mayPay_47 ?_
    refine zRx.icmp_ge (tgt := 73) dX12_mayPay_48 (by decide) (fun c48 => ?_) (fun c48 => ?_)
    · refine zRx.iconst ⟨by decide, by decide⟩ dX12_mayPay_73 ?_
      exact zR.zret rfl ⟨by decide, by decide⟩ dX12_mayPay_74 (by have he : L_X12_mayPay_40 σ d f (n + 1) q = 0 := (by rw [L_X12_mayPay_40, if_pos c48]); rw [he]; exact ⟨rfl, rfl⟩)
    · refine zRx.aload_n 0 rfl rfl dX12_mayPay_51 ?_
      refine zRx.getR (a := 0) (b := 11) fl_12_62 rfl rfl dX12_mayPay_52 ?_
      refine zRx.iload 4 rfl dX12_mayPay_55 ?_
      refine zRx.ialdv (v := σ 11 q) rfl rfl (by omega) (by omega) dX12_mayPay_57 ?_
      refine zRx.iload_n 2 rfl rfl dX12_mayPay_58 ?_
      refine zRx.cSi (w := .inl (b2 (hb (σ 11 q) f))) (M := m_X12_has) (av := [.inl (σ 11 q), .inl f]) cs_12_272 mk_X12_has (by decide) rfl (Nat.le_of_ble_eq_true rfl) dX12_mayPay_59 (does_X12_has (σ 11 q) f SM σ) ?_
      refine zRx.if_neB (tgt := 67) dX12_mayPay_62 (by decide) (fun c62 => ?_) (fun c62 => ?_)
      · refine zRx.iinc (n := 1) (ls' := [(0, zP 0), (1, .inl d), (2, .inl f), (3, .inl w), (4, .inl (q + 1))]) 4 rfl ⟨by omega, by omega⟩ rfl (by decide) dX12_mayPay_67 ?_
        refine zRx.goto (tgt := 40) dX12_mayPay_70 (by decide) ?_
        have he : L_X12_mayPay_40 σ d f (n + 1) q = L_X12_mayPay_40 σ d f n (q + 1) := by rw [L_X12_mayPay_40, if_neg (Int.not_le.mpr c48), if_pos c62]
        rw [he]
        exact ih (q + 1)  (by omega) (by omega)
      · refine zRx.iconst ⟨by decide, by decide⟩ dX12_mayPay_65 ?_
        exact zR.zret rfl ⟨by decide, by decide⟩ dX12_mayPay_66 (by have he : L_X12_mayPay_40 σ d f (n + 1) q = 1 := (by rw [L_X12_mayPay_40, if_neg (Int.not_le.mpr c48), if_neg c62]); rw [he]; exact ⟨rfl, rfl⟩)
def R_X12_mayPay (σ : zG) (d f : Int) : Int := if hb (σ 11 (σ 16 d)) f then (if (σ 20 d) ≤ (R_X12_worthOf σ (σ 16 d) f) then (L_X12_mayPay_40 σ d f 10 0) else 0) else 0
set_option maxRecDepth 20000 in
theorem does_X12_mayPay (σ : zG) (d f : Int) (hd : 0 ≤ d ∧ d < 420) (hf : 0 ≤ f ∧ f < 12) (hp : 0 ≤ σ 2 0 ∧ σ 2 0 ≤ 8) (hw : 0 ≤ σ 16 d ∧ σ 16 d < 8)  : zDo SM 2 m_X12_mayPay [zP 0, .inl d, .inl f] σ (zEq (some (.inl (R_X12_mayPay σ d f))) σ) := by
  refine zDo.intro mk_X12_mayPay (Nat.le_of_ble_eq_true rfl) ?_
  refine zRx.aload_n 0 rfl rfl dX12_mayPay_0 ?_
  refine zRx.getR (a := 0) (b := 16) fl_12_77 rfl rfl dX12_mayPay_1 ?_
  refine zRx.iload_n 1 rfl rfl dX12_mayPay_4 ?_
  refine zRx.ialdv (v := σ 16 d) rfl rfl (by omega) (by omega) dX12_mayPay_5 ?_
  refine zRx.istore_n (ls' := [(0, zP 0), (1, .inl d), (2, .inl f), (3, .inl (σ 16 d))]) rfl rfl (by decide) dX12_mayPay_6 ?_
  refine zRx.aload_n 0 rfl rfl dX12_mayPay_7 ?_
  refine zRx.getR (a := 0) (b := 11) fl_12_62 rfl rfl dX12_mayPay_8 ?_
  refine zRx.iload_n 3 rfl rfl dX12_mayPay_11 ?_
  refine zRx.ialdv (v := σ 11 (σ 16 d)) rfl rfl (by omega) (by omega) dX12_mayPay_12 ?_
  refine zRx.iload_n 2 rfl rfl dX12_mayPay_13 ?_
  refine zRx.cSi (w := .inl (b2 (hb (σ 11 (σ 16 d)) f))) (M := m_X12_has) (av := [.inl (σ 11 (σ 16 d)), .inl f]) cs_12_272 mk_X12_has (by decide) rfl (Nat.le_of_ble_eq_true rfl) dX12_mayPay_14 (does_X12_has (σ 11 (σ 16 d)) f SM σ) ?_
  refine zRx.if_eqB (tgt := 35) dX12_mayPay_17 (by decide) (fun c17 => ?_) (fun c17 => ?_)
  · refine zRx.iconst ⟨by decide, by decide⟩ dX12_mayPay_35 ?_
    exact zR.zret rfl ⟨by decide, by decide⟩ dX12_mayPay_36 (by have he : R_X12_mayPay σ d f = 0 := (by rw [R_X12_mayPay, if_neg c17]); rw [he]; exact ⟨rfl, rfl⟩)
  · refine zRx.aload_n 0 rfl rfl dX12_mayPay_20 ?_
    refine zRx.iload_n 3 rfl rfl dX12_mayPay_21 ?_
    refine zRx.iload_n 2 rfl rfl dX12_mayPay_22 ?_
    refine zRx.cVi (w := .inl (R_X12_worthOf σ (σ 16 d) f)) (M := m_X12_worthOf) (av := [.inl (σ 16 d), .inl f]) cv_12_372 mk_X12_worthOf (by decide) (b := 0) rfl rfl (Nat.le_of_ble_eq_true rfl) dX12_mayPay_23 (does_X12_worthOf σ (σ 16 d) f (by omega) (by omega)) ?_
    refine zRx.aload_n 0 rfl rfl dX12_mayPay_26 ?_
    refine zRx.getR (a := 0) (b := 20) fl_12_89 rfl rfl dX12_mayPay_27 ?_
    refine zRx.iload_n 1 rfl rfl dX12_mayPay_30 ?_
    refine zRx.ialdv (v := σ 20 d) rfl rfl (by omega) (by omega) dX12_mayPay_31 ?_
    refine zRx.icmp_ge (tgt := 37) dX12_mayPay_32 (by decide) (fun c32 => ?_) (fun c32 => ?_)
    · refine zRx.iconst ⟨by decide, by decide⟩ dX12_mayPay_37 ?_
      refine zRx.istore (ls' := [(0, zP 0), (1, .inl d), (2, .inl f), (3, .inl (σ 16 d)), (4, .inl 0)]) rfl (by decide) dX12_mayPay_38 ?_
      have he : R_X12_mayPay σ d f = L_X12_mayPay_40 σ d f 10 0 := by rw [R_X12_mayPay, if_pos c17, if_pos c32]
      rw [he]
      exact loop_X12_mayPay_40 σ d f hp (σ 16 d) 10 0  (by omega) (by omega)
    · refine zRx.iconst ⟨by decide, by decide⟩ dX12_mayPay_35 ?_
      exact zR.zret rfl ⟨by decide, by decide⟩ dX12_mayPay_36 (by have he : R_X12_mayPay σ d f = 0 := (by rw [R_X12_mayPay, if_pos c17, if_neg (Int.not_le.mpr c32)]); rw [he]; exact ⟨rfl, rfl⟩)

def V_X12_debt (σ : zG) (d i : Int) : Int := if 0 ≤ d ∧ d ≤ (((R_X12_run σ (-1)) 0 43) - 1) then (if 0 ≤ i ∧ i ≤ 8 then (if i = 0 then ((R_X12_run σ (-1)) 16 d) else (if i = 1 then ((R_X12_run σ (-1)) 17 d) else (if i = 2 then ((R_X12_run σ (-1)) 18 d) else (if i = 3 then ((R_X12_run σ (-1)) 19 d) else (if i = 4 then ((R_X12_run σ (-1)) 20 d) else (if i = 5 then ((R_X12_run σ (-1)) 21 d) else (if i = 6 then ((R_X12_run σ (-1)) 22 d) else (if i = 7 then ((R_X12_run σ (-1)) 23 d) else (if (V_X12_isLate (zu (R_X12_run σ (-1)) 0 0 0) d) = 0 then 0 else 1))))))))) else 0) else 0
def F_X12_debt (σ : zG) (d i : Int) : zG := if 0 ≤ d ∧ d ≤ (((R_X12_run σ (-1)) 0 43) - 1) then (if 0 ≤ i ∧ i ≤ 8 then (zu (R_X12_run σ (-1)) 0 0 0) else (zu (R_X12_run σ (-1)) 0 0 1)) else (zu (R_X12_run σ (-1)) 0 0 1)
theorem fr_F_X12_debt (σ : zG) (d i : Int) {k : Nat} (h : k ∉ [0, 11, 12, 13, 14, 15, 16, 17, 18, 19, 20, 21, 22, 23, 24, 25]) : (F_X12_debt σ d i) k = σ k := by
  have ne : ∀ c ∈ [0, 11, 12, 13, 14, 15, 16, 17, 18, 19, 20, 21, 22, 23, 24, 25], k ≠ c := fun c hc e => h (e ▸ hc)
  have nk_R_X12_run : k ∉ [0, 11, 12, 13, 14, 15, 16, 17, 18, 19, 20, 21, 22, 23, 24, 25] := fun hm => h (by first | (revert hm; simp only [List.mem_cons, List.not_mem_nil, or_false]; omega) | (simp at hm))
  unfold F_X12_debt
  repeat' split
  all_goals first | rfl | simp only [zu_row _ _ _ (ne 0 (by decide)), zu_row _ _ _ (ne 11 (by decide)), zu_row _ _ _ (ne 12 (by decide)), zu_row _ _ _ (ne 13 (by decide)), zu_row _ _ _ (ne 14 (by decide)), zu_row _ _ _ (ne 15 (by decide)), zu_row _ _ _ (ne 16 (by decide)), zu_row _ _ _ (ne 17 (by decide)), zu_row _ _ _ (ne 18 (by decide)), zu_row _ _ _ (ne 19 (by decide)), zu_row _ _ _ (ne 20 (by decide)), zu_row _ _ _ (ne 21 (by decide)), zu_row _ _ _ (ne 22 (by decide)), zu_row _ _ _ (ne 23 (by decide)), zu_row _ _ _ (ne 24 (by decide)), zu_row _ _ _ (ne 25 (by decide)), fr_R_X12_run (h := nk_R_X12_run)]

set_option maxRecDepth 20000 in
theorem does_X12_debt (σ : zG) (d i : Int) (hN : MN (σ 2)) : zDo SM 6 m_X12_debt [zP 0, .inl d, .inl i] σ (zEq (some (.inl (V_X12_debt σ d i))) (F_X12_debt σ d i)) := by
  refine zDo.intro mk_X12_debt (Nat.le_of_ble_eq_true rfl) ?_
  obtain ⟨hW, hp, hF, hL⟩ := id hN
  refine zRx.aload_n 0 rfl rfl dX12_debt_0 ?_
  refine zRx.iconst ⟨by decide, by decide⟩ dX12_debt_1 ?_
  refine zRx.cVv (M := m_X12_run) (av := [.inl (-1)]) cv_12_400 mk_X12_run (by decide) (b := 0) rfl rfl (Nat.le_of_ble_eq_true rfl) dX12_debt_2 (does_X12_run σ (-1) hN.1) ?_
  have hR := (run_K σ (-1) hN.1).2
  refine zRx.aload_n 0 rfl rfl dX12_debt_5 ?_
  refine zRx.iload_n 1 rfl rfl dX12_debt_6 ?_
  refine zRx.iconst ⟨by decide, by decide⟩ dX12_debt_7 ?_
  refine zRx.aload_n 0 rfl rfl dX12_debt_8 ?_
  refine zRx.getIv (a := 0) (ji := 43) (v := (R_X12_run σ (-1)) 0 43) rfl fl_12_357 rfl rfl rfl dX12_debt_9 ?_
  refine zRx.iconst ⟨by decide, by decide⟩ dX12_debt_12 ?_
  refine zRx.isub ⟨by omega, by omega⟩ dX12_debt_13 ?_
  refine zRx.cSi (w := .inl (b2 (0 ≤ d ∧ d ≤ (((R_X12_run σ (-1)) 0 43) - 1)))) (M := m_X12_isIn) (av := [.inl d, .inl 0, .inl (((R_X12_run σ (-1)) 0 43) - 1)]) cs_12_254 mk_X12_isIn (by decide) rfl (Nat.le_of_ble_eq_true rfl) dX12_debt_14 (does_X12_isIn d 0 (((R_X12_run σ (-1)) 0 43) - 1) SM (R_X12_run σ (-1))) ?_
  refine zRx.if_eqB (tgt := 30) dX12_debt_17 (by decide) (fun c17 => ?_) (fun c17 => ?_)
  · refine zRx.iconst ⟨by decide, by decide⟩ dX12_debt_30 ?_
    refine zRx.goto (tgt := 35) dX12_debt_31 (by decide) ?_
    refine zRx.cVi (w := .inl 1) (M := m_X12_throwsIf) (av := [.inl 1]) cv_12_319 mk_X12_throwsIf (by decide) (b := 0) rfl rfl (Nat.le_of_ble_eq_true rfl) dX12_debt_35 (throws1 (R_X12_run σ (-1))) ?_
    refine zRx.if_eq (tgt := 43) dX12_debt_38 (by decide) (fun c38 => absurd c38 (by decide)) (fun _ => ?_)
    refine zRx.iconst ⟨by decide, by decide⟩ dX12_debt_41 ?_
    exact zR.iret rfl dX12_debt_42 ⟨by unfold V_X12_debt; rw [if_neg c17], by unfold F_X12_debt; rw [if_neg c17]⟩
  · refine zRx.iload_n 2 rfl rfl dX12_debt_20 ?_
    refine zRx.iconst ⟨by decide, by decide⟩ dX12_debt_21 ?_
    refine zRx.bipush ⟨by decide, by decide⟩ rfl dX12_debt_22 ?_
    refine zRx.cSi (w := .inl (b2 (0 ≤ i ∧ i ≤ 8))) (M := m_X12_isIn) (av := [.inl i, .inl 0, .inl 8]) cs_12_254 mk_X12_isIn (by decide) rfl (Nat.le_of_ble_eq_true rfl) dX12_debt_24 (does_X12_isIn i 0 8 SM (R_X12_run σ (-1))) ?_
    refine zRx.if_neB (tgt := 34) dX12_debt_27 (by decide) (fun c27 => ?_) (fun c27 => ?_)
    · refine zRx.iconst ⟨by decide, by decide⟩ dX12_debt_34 ?_
      refine zRx.cVi (w := .inl 0) (M := m_X12_throwsIf) (av := [.inl 0]) cv_12_319 mk_X12_throwsIf (by decide) (b := 0) rfl rfl (Nat.le_of_ble_eq_true rfl) dX12_debt_35 (throws0 (R_X12_run σ (-1))) ?_
      refine zRx.if_eq (tgt := 43) dX12_debt_38 (by decide) (fun _ => ?_) (fun c38 => absurd c38 (by decide))
      refine zRx.iload_n 2 rfl rfl dX12_debt_43 ?_
      by_cases c44_0 : i = 0
      · refine zRx.topI (b := 0) c44_0 ?_
        refine zRx.tableIn (tgt := 92) dX12_debt_44 (by decide) (by decide) rfl (by decide) ?_
        refine zRx.aload_n 0 rfl rfl dX12_debt_92 ?_
        refine zRx.getR (a := 0) (b := 16) fl_12_77 rfl rfl dX12_debt_93 ?_
        refine zRx.iload_n 1 rfl rfl dX12_debt_96 ?_
        refine zRx.ialdv (v := (R_X12_run σ (-1)) 16 d) (zu_ne _ _ _ _ (by decide)) rfl (by omega) (by omega) dX12_debt_97 ?_
        exact zR.iret rfl dX12_debt_98 ⟨by unfold V_X12_debt; rw [if_pos c17, if_pos c27, if_pos c44_0], by unfold F_X12_debt; rw [if_pos c17, if_pos c27]⟩
      by_cases c44_1 : i = 1
      · refine zRx.topI (b := 1) c44_1 ?_
        refine zRx.tableIn (tgt := 99) dX12_debt_44 (by decide) (by decide) rfl (by decide) ?_
        refine zRx.aload_n 0 rfl rfl dX12_debt_99 ?_
        refine zRx.getR (a := 0) (b := 17) fl_12_80 rfl rfl dX12_debt_100 ?_
        refine zRx.iload_n 1 rfl rfl dX12_debt_103 ?_
        refine zRx.ialdv (v := (R_X12_run σ (-1)) 17 d) (zu_ne _ _ _ _ (by decide)) rfl (by omega) (by omega) dX12_debt_104 ?_
        exact zR.iret rfl dX12_debt_105 ⟨by unfold V_X12_debt; rw [if_pos c17, if_pos c27, if_neg c44_0, if_pos c44_1], by unfold F_X12_debt; rw [if_pos c17, if_pos c27]⟩
      by_cases c44_2 : i = 2
      · refine zRx.topI (b := 2) c44_2 ?_
        refine zRx.tableIn (tgt := 106) dX12_debt_44 (by decide) (by decide) rfl (by decide) ?_
        refine zRx.aload_n 0 rfl rfl dX12_debt_106 ?_
        refine zRx.getR (a := 0) (b := 18) fl_12_83 rfl rfl dX12_debt_107 ?_
        refine zRx.iload_n 1 rfl rfl dX12_debt_110 ?_
        refine zRx.ialdv (v := (R_X12_run σ (-1)) 18 d) (zu_ne _ _ _ _ (by decide)) rfl (by omega) (by omega) dX12_debt_111 ?_
        exact zR.iret rfl dX12_debt_112 ⟨by unfold V_X12_debt; rw [if_pos c17, if_pos c27, if_neg c44_0, if_neg c44_1, if_pos c44_2], by unfold F_X12_debt; rw [if_pos c17, if_pos c27]⟩
      by_cases c44_3 : i = 3
      · refine zRx.topI (b := 3) c44_3 ?_
        refine zRx.tableIn (tgt := 113) dX12_debt_44 (by decide) (by decide) rfl (by decide) ?_
        refine zRx.aload_n 0 rfl rfl dX12_debt_113 ?_
        refine zRx.getR (a := 0) (b := 19) fl_12_86 rfl rfl dX12_debt_114 ?_
        refine zRx.iload_n 1 rfl rfl dX12_debt_117 ?_
        refine zRx.ialdv (v := (R_X12_run σ (-1)) 19 d) (zu_ne _ _ _ _ (by decide)) rfl (by omega) (by omega) dX12_debt_118 ?_
        exact zR.iret rfl dX12_debt_119 ⟨by unfold V_X12_debt; rw [if_pos c17, if_pos c27, if_neg c44_0, if_neg c44_1, if_neg c44_2, if_pos c44_3], by unfold F_X12_debt; rw [if_pos c17, if_pos c27]⟩
      by_cases c44_4 : i = 4
      · refine zRx.topI (b := 4) c44_4 ?_
        refine zRx.tableIn (tgt := 120) dX12_debt_44 (by decide) (by decide) rfl (by decide) ?_
        refine zRx.aload_n 0 rfl rfl dX12_debt_120 ?_
        refine zRx.getR (a := 0) (b := 20) fl_12_89 rfl rfl dX12_debt_121 ?_
        refine zRx.iload_n 1 rfl rfl dX12_debt_124 ?_
        refine zRx.ialdv (v := (R_X12_run σ (-1)) 20 d) (zu_ne _ _ _ _ (by decide)) rfl (by omega) (by omega) dX12_debt_125 ?_
        exact zR.iret rfl dX12_debt_126 ⟨by unfold V_X12_debt; rw [if_pos c17, if_pos c27, if_neg c44_0, if_neg c44_1, if_neg c44_2, if_neg c44_3, if_pos c44_4], by unfold F_X12_debt; rw [if_pos c17, if_pos c27]⟩
      by_cases c44_5 : i = 5
      · refine zRx.topI (b := 5) c44_5 ?_
        refine zRx.tableIn (tgt := 127) dX12_debt_44 (by decide) (by decide) rfl (by decide) ?_
        refine zRx.aload_n 0 rfl rfl dX12_debt_127 ?_
        refine zRx.getR (a := 0) (b := 21) fl_12_92 rfl rfl dX12_debt_128 ?_
        refine zRx.iload_n 1 rfl rfl dX12_debt_131 ?_
        refine zRx.ialdv (v := (R_X12_run σ (-1)) 21 d) (zu_ne _ _ _ _ (by decide)) rfl (by omega) (by omega) dX12_debt_132 ?_
        exact zR.iret rfl dX12_debt_133 ⟨by unfold V_X12_debt; rw [if_pos c17, if_pos c27, if_neg c44_0, if_neg c44_1, if_neg c44_2, if_neg c44_3, if_neg c44_4, if_pos c44_5], by unfold F_X12_debt; rw [if_pos c17, if_pos c27]⟩
      by_cases c44_6 : i = 6
      · refine zRx.topI (b := 6) c44_6 ?_
        refine zRx.tableIn (tgt := 134) dX12_debt_44 (by decide) (by decide) rfl (by decide) ?_
        refine zRx.aload_n 0 rfl rfl dX12_debt_134 ?_
        refine zRx.getR (a := 0) (b := 22) fl_12_95 rfl rfl dX12_debt_135 ?_
        refine zRx.iload_n 1 rfl rfl dX12_debt_138 ?_
        refine zRx.ialdv (v := (R_X12_run σ (-1)) 22 d) (zu_ne _ _ _ _ (by decide)) rfl (by omega) (by omega) dX12_debt_139 ?_
        exact zR.iret rfl dX12_debt_140 ⟨by unfold V_X12_debt; rw [if_pos c17, if_pos c27, if_neg c44_0, if_neg c44_1, if_neg c44_2, if_neg c44_3, if_neg c44_4, if_neg c44_5, if_pos c44_6], by unfold F_X12_debt; rw [if_pos c17, if_pos c27]⟩
      by_cases c44_7 : i = 7
      · refine zRx.topI (b := 7) c44_7 ?_
        refine zRx.tableIn (tgt := 141) dX12_debt_44 (by decide) (by decide) rfl (by decide) ?_
        refine zRx.aload_n 0 rfl rfl dX12_debt_141 ?_
        refine zRx.getR (a := 0) (b := 23) fl_12_98 rfl rfl dX12_debt_142 ?_
        refine zRx.iload_n 1 rfl rfl dX12_debt_145 ?_
        refine zRx.ialdv (v := (R_X12_run σ (-1)) 23 d) (zu_ne _ _ _ _ (by decide)) rfl (by omega) (by omega) dX12_debt_146 ?_
        exact zR.iret rfl dX12_debt_147 ⟨by unfold V_X12_debt; rw [if_pos c17, if_pos c27, if_neg c44_0, if_neg c44_1, if_neg c44_2, if_neg c44_3, if_neg c44_4, if_neg c44_5, if_neg c44_6, if_pos c44_7], by unfold F_X12_debt; rw [if_pos c17, if_pos c27]⟩
      refine zRx.tableOut (tgt := 148) dX12_debt_44 (by omega) (by decide) ?_
      refine zRx.aload_n 0 rfl rfl dX12_debt_148 ?_
      refine zRx.iload_n 1 rfl rfl dX12_debt_149 ?_
      refine zRx.cVi (w := .inl (V_X12_isLate (zu (R_X12_run σ (-1)) 0 0 0) d)) (M := m_X12_isLate) (av := [.inl d]) cv_12_403 mk_X12_isLate (by decide) (b := 0) rfl rfl (Nat.le_of_ble_eq_true rfl) dX12_debt_150 (does_X12_isLate (zu (R_X12_run σ (-1)) 0 0 0) d (by omega)) ?_
      refine zRx.if_eq (tgt := 160) dX12_debt_153 (by decide) (fun c153 => ?_) (fun c153 => ?_)
      · refine zRx.iconst ⟨by decide, by decide⟩ dX12_debt_160 ?_
        exact zR.iret rfl dX12_debt_161 ⟨by unfold V_X12_debt; rw [if_pos c17, if_pos c27, if_neg c44_0, if_neg c44_1, if_neg c44_2, if_neg c44_3, if_neg c44_4, if_neg c44_5, if_neg c44_6, if_neg c44_7, if_pos c153], by unfold F_X12_debt; rw [if_pos c17, if_pos c27]⟩
      · refine zRx.iconst ⟨by decide, by decide⟩ dX12_debt_156 ?_
        refine zRx.goto (tgt := 161) dX12_debt_157 (by decide) ?_
        exact zR.iret rfl dX12_debt_161 ⟨by unfold V_X12_debt; rw [if_pos c17, if_pos c27, if_neg c44_0, if_neg c44_1, if_neg c44_2, if_neg c44_3, if_neg c44_4, if_neg c44_5, if_neg c44_6, if_neg c44_7, if_neg c153], by unfold F_X12_debt; rw [if_pos c17, if_pos c27]⟩
    · refine zRx.iconst ⟨by decide, by decide⟩ dX12_debt_30 ?_
      refine zRx.goto (tgt := 35) dX12_debt_31 (by decide) ?_
      refine zRx.cVi (w := .inl 1) (M := m_X12_throwsIf) (av := [.inl 1]) cv_12_319 mk_X12_throwsIf (by decide) (b := 0) rfl rfl (Nat.le_of_ble_eq_true rfl) dX12_debt_35 (throws1 (R_X12_run σ (-1))) ?_
      refine zRx.if_eq (tgt := 43) dX12_debt_38 (by decide) (fun c38 => absurd c38 (by decide)) (fun _ => ?_)
      refine zRx.iconst ⟨by decide, by decide⟩ dX12_debt_41 ?_
      exact zR.iret rfl dX12_debt_42 ⟨by unfold V_X12_debt; rw [if_pos c17, if_neg c27], by unfold F_X12_debt; rw [if_pos c17, if_neg c27]⟩

