/-! cords measured -/
theorem measL_r (ln : Int) (hn : 0 ≤ ln ∧ ln < 125) : ∀ (n : Nat) (i : Int) (σ : zG), 0 ≤ i → (4 - i).toNat < n → (∀ j : Int, 0 ≤ j → j < i → 0 ≤ σ 98 j ∧ σ 98 j ≤ 4) → ∀ j : Int, 0 ≤ j → j < 4 → 0 ≤ L_X11_measure_2 ln n i σ 98 j ∧ L_X11_measure_2 ln n i σ 98 j ≤ 4
  | 0, i, σ, h0, hm, h => absurd hm (Nat.not_lt_zero _)
  | n + 1, i, σ, h0, hm, h => by
    have kA := knotsAt_r (i := i) hn
    have key : ∀ z : Int, 0 ≤ z → z ≤ 4 → i < 4 → ∀ j : Int, 0 ≤ j → j < 4 → 0 ≤ L_X11_measure_2 ln n (i + 1) (zu (F_X1_draw σ 10) 98 i z) 98 j ∧ L_X11_measure_2 ln n (i + 1) (zu (F_X1_draw σ 10) 98 i z) 98 j ≤ 4 := by
      intro z z0 z4 i4
      refine measL_r ln hn n (i + 1) _ (by omega) (by omega) (fun j j0 ji => ?_)
      rw [zu_if]
      split
      · omega
      · rw [congrFun (fr_F_X1_draw σ 10 (k := 98) (by decide)) j]
        exact h j j0 (by omega)
    rw [L_X11_measure_2]
    split
    · intro j j0 j4
      exact h j j0 (by omega)
    · split
      · exact key _ (by omega) (by omega) (by omega)
      · split
        · exact key _ (by omega) (by omega) (by omega)
        · exact key _ (by omega) (by omega) (by omega)
theorem meas_r (σ : zG) (ln : Int) (hn : 0 ≤ ln ∧ ln < 125) : ∀ j : Int, 0 ≤ j → j < 4 → 0 ≤ R_X11_measure σ ln 98 j ∧ R_X11_measure σ ln 98 j ≤ 4 := measL_r ln hn 10 0 σ (by decide) (by decide) (fun j h1 h2 => by omega)
theorem mmeasL_r (x : Int) : ∀ (n : Nat) (i : Int) (σ : zG), 0 ≤ i → (4 - i).toNat < n → (∀ j : Int, 0 ≤ j → j < 4 → 0 ≤ σ 34 j ∧ σ 34 j ≤ 4) → (∀ j : Int, 0 ≤ j → j < i → 0 ≤ σ 35 j ∧ σ 35 j ≤ 4) → ∀ j : Int, 0 ≤ j → j < 4 → 0 ≤ L_X12_measure_7 x n i σ 35 j ∧ L_X12_measure_7 x n i σ 35 j ≤ 4
  | 0, i, σ, h0, hm, hk, h => absurd hm (Nat.not_lt_zero _)
  | n + 1, i, σ, h0, hm, hk, h => by
    have key : ∀ z : Int, 0 ≤ z → z ≤ 4 → i < 4 → ∀ j : Int, 0 ≤ j → j < 4 → 0 ≤ L_X12_measure_7 x n (i + 1) (zu (F_X12_draw σ 10) 35 i z) 35 j ∧ L_X12_measure_7 x n (i + 1) (zu (F_X12_draw σ 10) 35 i z) 35 j ≤ 4 := by
      intro z z0 z4 i4
      refine mmeasL_r x n (i + 1) _ (by omega) (by omega) (fun j j0 ji => ?_) (fun j j0 ji => ?_)
      · rw [zu_ne _ _ _ _ (by decide), congrFun (fr_F_X12_draw σ 10 (k := 34) (by decide)) j]
        exact hk j j0 ji
      · rw [zu_if]
        split
        · omega
        · rw [congrFun (fr_F_X12_draw σ 10 (k := 35) (by decide)) j]
          exact h j j0 (by omega)
    rw [L_X12_measure_7]
    split
    · intro j j0 j4
      exact h j j0 (by omega)
    · next h4 =>
      have k1 := hk i h0 (by omega)
      repeat' split
      all_goals exact key _ (by omega) (by omega) (by omega)
theorem mmeas_r (σ : zG) (x : Int) (hx : 0 ≤ x ∧ x < 125) : ∀ j : Int, 0 ≤ j → j < 4 → 0 ≤ R_X12_measure σ x 35 j ∧ R_X12_measure σ x 35 j ≤ 4 := mmeasL_r x 10 0 _ (by decide) (by decide) (lay_r σ x hx) (fun j h1 h2 => by omega)

def V_X11_measured (σ : zG) (x sd : Int) : Int := if 0 ≤ x ∧ x < 125 then (((((((0 + ((R_X11_measure (zu σ 97 0 sd) x) 98 0)) * 10) + ((R_X11_measure (zu σ 97 0 sd) x) 98 1)) * 10) + ((R_X11_measure (zu σ 97 0 sd) x) 98 2)) * 10) + ((R_X11_measure (zu σ 97 0 sd) x) 98 3)) else (-1)
def F_X11_measured (σ : zG) (x sd : Int) : zG := if 0 ≤ x ∧ x < 125 then (R_X11_measure (zu σ 97 0 sd) x) else σ
theorem fr_F_X11_measured (σ : zG) (x sd : Int) {k : Nat} (h : k ∉ [97, 98]) : (F_X11_measured σ x sd) k = σ k := by
  have ne : ∀ c ∈ [97, 98], k ≠ c := fun c hc e => h (e ▸ hc)
  have nk_R_X11_measure : k ∉ [97, 98] := fun hm => h (by first | (revert hm; simp only [List.mem_cons, List.not_mem_nil, or_false]; omega) | (simp at hm))
  unfold F_X11_measured
  repeat' split
  all_goals first | rfl | simp only [zu_row _ _ _ (ne 97 (by decide)), zu_row _ _ _ (ne 98 (by decide)), fr_R_X11_measure (h := nk_R_X11_measure)]

set_option maxRecDepth 20000 in
theorem does_X11_measured (σ : zG) (x sd : Int)  : zDo SC 2 m_X11_measured [zP 0, .inl x, .inl sd] σ (zEq (some (.inl (V_X11_measured σ x sd))) (F_X11_measured σ x sd)) := by
  refine zDo.intro mk_X11_measured (Nat.le_of_ble_eq_true rfl) ?_
  refine zRx.iload_n 1 rfl rfl dX11_measured_0 ?_
  refine zRx.cSi (w := .inl (b2 (0 ≤ x ∧ x < 125))) (M := m_X11_isLength) (av := [.inl x]) cs_11_333 mk_X11_isLength (by decide) rfl (Nat.le_of_ble_eq_true rfl) dX11_measured_1 (does_X11_isLength x SC σ) ?_
  refine zRx.if_neB (tgt := 9) dX11_measured_4 (by decide) (fun c4 => ?_) (fun c4 => ?_)
  · refine zRx.aload_n 0 rfl rfl dX11_measured_9 ?_
    refine zRx.getR (a := 0) (b := 97) fl_11_91 rfl rfl dX11_measured_10 ?_
    refine zRx.iload_n 2 rfl rfl dX11_measured_13 ?_
    refine zRx.putI (a := 97) (ji := 0) pl_11_186 rfl rfl rfl dX11_measured_14 ?_
    refine zRx.iload_n 1 rfl rfl dX11_measured_17 ?_
    refine zRx.aload_n 0 rfl rfl dX11_measured_18 ?_
    refine zRx.getR (a := 0) (b := 97) fl_11_91 rfl rfl dX11_measured_19 ?_
    refine zRx.aload_n 0 rfl rfl dX11_measured_22 ?_
    refine zRx.getR (a := 0) (b := 98) fl_11_95 rfl rfl dX11_measured_23 ?_
    refine zRx.cSv (M := m_X11_measure) (av := [.inl x, zP 97, zP 98]) cs_11_350 mk_X11_measure (by decide) rfl (Nat.le_of_ble_eq_true rfl) dX11_measured_26 (does_X11_measure (zu σ 97 0 sd) x (by omega)) ?_
    have k0 := meas_r (zu σ 97 0 sd) x (by omega) 0 (by decide) (by decide)
    have k1 := meas_r (zu σ 97 0 sd) x (by omega) 1 (by decide) (by decide)
    have k2 := meas_r (zu σ 97 0 sd) x (by omega) 2 (by decide) (by decide)
    have k3 := meas_r (zu σ 97 0 sd) x (by omega) 3 (by decide) (by decide)
    refine zRx.iconst ⟨by decide, by decide⟩ dX11_measured_29 ?_
    refine zRx.istore_n (ls' := [(0, zP 0), (1, .inl x), (2, .inl sd), (3, .inl 0)]) rfl rfl (by decide) dX11_measured_30 ?_
    refine zRx.iconst ⟨by decide, by decide⟩ dX11_measured_31 ?_
    refine zRx.istore (ls' := [(0, zP 0), (1, .inl x), (2, .inl sd), (3, .inl 0), (4, .inl 0)]) rfl (by decide) dX11_measured_32 ?_
    refine zRx.iload 4 rfl dX11_measured_34 ?_
    refine zRx.iconst ⟨by decide, by decide⟩ dX11_measured_36 ?_
    refine zRx.icmp_ge (tgt := 59) dX11_measured_37 (by decide) (fun c37 => absurd c37 (by decide)) (fun _ => ?_)
    refine zRx.iload_n 3 rfl rfl dX11_measured_40 ?_
    refine zRx.bipush ⟨by decide, by decide⟩ rfl dX11_measured_41 ?_
    refine zRx.imul ⟨by decide, by decide⟩ dX11_measured_43 ?_
    refine zRx.topI (b := 0) rfl ?_
    refine zRx.aload_n 0 rfl rfl dX11_measured_44 ?_
    refine zRx.getR (a := 0) (b := 98) fl_11_95 rfl rfl dX11_measured_45 ?_
    refine zRx.iload 4 rfl dX11_measured_48 ?_
    refine zRx.ialdv (v := (R_X11_measure (zu σ 97 0 sd) x) 98 0) rfl rfl (by decide) (by decide) dX11_measured_50 ?_
    refine zRx.iadd ⟨by omega, by omega⟩ dX11_measured_51 ?_
    refine zRx.istore_n (ls' := [(0, zP 0), (1, .inl x), (2, .inl sd), (3, .inl (0 + ((R_X11_measure (zu σ 97 0 sd) x) 98 0))), (4, .inl 0)]) rfl rfl (by decide) dX11_measured_52 ?_
    refine zRx.iinc (n := 1) (ls' := [(0, zP 0), (1, .inl x), (2, .inl sd), (3, .inl (0 + ((R_X11_measure (zu σ 97 0 sd) x) 98 0))), (4, .inl 1)]) 4 rfl ⟨by decide, by decide⟩ rfl (by decide) dX11_measured_53 ?_
    refine zRx.goto (tgt := 34) dX11_measured_56 (by decide) ?_
    refine zRx.iload 4 rfl dX11_measured_34 ?_
    refine zRx.iconst ⟨by decide, by decide⟩ dX11_measured_36 ?_
    refine zRx.icmp_ge (tgt := 59) dX11_measured_37 (by decide) (fun c37 => absurd c37 (by decide)) (fun _ => ?_)
    refine zRx.iload_n 3 rfl rfl dX11_measured_40 ?_
    refine zRx.bipush ⟨by decide, by decide⟩ rfl dX11_measured_41 ?_
    refine zRx.imul ⟨by omega, by omega⟩ dX11_measured_43 ?_
    refine zRx.aload_n 0 rfl rfl dX11_measured_44 ?_
    refine zRx.getR (a := 0) (b := 98) fl_11_95 rfl rfl dX11_measured_45 ?_
    refine zRx.iload 4 rfl dX11_measured_48 ?_
    refine zRx.ialdv (v := (R_X11_measure (zu σ 97 0 sd) x) 98 1) rfl rfl (by decide) (by decide) dX11_measured_50 ?_
    refine zRx.iadd ⟨by omega, by omega⟩ dX11_measured_51 ?_
    refine zRx.istore_n (ls' := [(0, zP 0), (1, .inl x), (2, .inl sd), (3, .inl (((0 + ((R_X11_measure (zu σ 97 0 sd) x) 98 0)) * 10) + ((R_X11_measure (zu σ 97 0 sd) x) 98 1))), (4, .inl 1)]) rfl rfl (by decide) dX11_measured_52 ?_
    refine zRx.iinc (n := 1) (ls' := [(0, zP 0), (1, .inl x), (2, .inl sd), (3, .inl (((0 + ((R_X11_measure (zu σ 97 0 sd) x) 98 0)) * 10) + ((R_X11_measure (zu σ 97 0 sd) x) 98 1))), (4, .inl 2)]) 4 rfl ⟨by decide, by decide⟩ rfl (by decide) dX11_measured_53 ?_
    refine zRx.goto (tgt := 34) dX11_measured_56 (by decide) ?_
    refine zRx.iload 4 rfl dX11_measured_34 ?_
    refine zRx.iconst ⟨by decide, by decide⟩ dX11_measured_36 ?_
    refine zRx.icmp_ge (tgt := 59) dX11_measured_37 (by decide) (fun c37 => absurd c37 (by decide)) (fun _ => ?_)
    refine zRx.iload_n 3 rfl rfl dX11_measured_40 ?_
    refine zRx.bipush ⟨by decide, by decide⟩ rfl dX11_measured_41 ?_
    refine zRx.imul ⟨by omega, by omega⟩ dX11_measured_43 ?_
    refine zRx.aload_n 0 rfl rfl dX11_measured_44 ?_
    refine zRx.getR (a := 0) (b := 98) fl_11_95 rfl rfl dX11_measured_45 ?_
    refine zRx.iload 4 rfl dX11_measured_48 ?_
    refine zRx.ialdv (v := (R_X11_measure (zu σ 97 0 sd) x) 98 2) rfl rfl (by decide) (by decide) dX11_measured_50 ?_
    refine zRx.iadd ⟨by omega, by omega⟩ dX11_measured_51 ?_
    refine zRx.istore_n (ls' := [(0, zP 0), (1, .inl x), (2, .inl sd), (3, .inl (((((0 + ((R_X11_measure (zu σ 97 0 sd) x) 98 0)) * 10) + ((R_X11_measure (zu σ 97 0 sd) x) 98 1)) * 10) + ((R_X11_measure (zu σ 97 0 sd) x) 98 2))), (4, .inl 2)]) rfl rfl (by decide) dX11_measured_52 ?_
    refine zRx.iinc (n := 1) (ls' := [(0, zP 0), (1, .inl x), (2, .inl sd), (3, .inl (((((0 + ((R_X11_measure (zu σ 97 0 sd) x) 98 0)) * 10) + ((R_X11_measure (zu σ 97 0 sd) x) 98 1)) * 10) + ((R_X11_measure (zu σ 97 0 sd) x) 98 2))), (4, .inl 3)]) 4 rfl ⟨by decide, by decide⟩ rfl (by decide) dX11_measured_53 ?_
    refine zRx.goto (tgt := 34) dX11_measured_56 (by decide) ?_
    refine zRx.iload 4 rfl dX11_measured_34 ?_
    refine zRx.iconst ⟨by decide, by decide⟩ dX11_measured_36 ?_
    refine zRx.icmp_ge (tgt := 59) dX11_measured_37 (by decide) (fun c37 => absurd c37 (by decide)) (fun _ => ?_)
    refine zRx.iload_n 3 rfl rfl dX11_measured_40 ?_
    refine zRx.bipush ⟨by decide, by decide⟩ rfl dX11_measured_41 ?_
    refine zRx.imul ⟨by omega, by omega⟩ dX11_measured_43 ?_
    refine zRx.aload_n 0 rfl rfl dX11_measured_44 ?_
    refine zRx.getR (a := 0) (b := 98) fl_11_95 rfl rfl dX11_measured_45 ?_
    refine zRx.iload 4 rfl dX11_measured_48 ?_
    refine zRx.ialdv (v := (R_X11_measure (zu σ 97 0 sd) x) 98 3) rfl rfl (by decide) (by decide) dX11_measured_50 ?_
    refine zRx.iadd ⟨by omega, by omega⟩ dX11_measured_51 ?_
    refine zRx.istore_n (ls' := [(0, zP 0), (1, .inl x), (2, .inl sd), (3, .inl (((((((0 + ((R_X11_measure (zu σ 97 0 sd) x) 98 0)) * 10) + ((R_X11_measure (zu σ 97 0 sd) x) 98 1)) * 10) + ((R_X11_measure (zu σ 97 0 sd) x) 98 2)) * 10) + ((R_X11_measure (zu σ 97 0 sd) x) 98 3))), (4, .inl 3)]) rfl rfl (by decide) dX11_measured_52 ?_
    refine zRx.iinc (n := 1) (ls' := [(0, zP 0), (1, .inl x), (2, .inl sd), (3, .inl (((((((0 + ((R_X11_measure (zu σ 97 0 sd) x) 98 0)) * 10) + ((R_X11_measure (zu σ 97 0 sd) x) 98 1)) * 10) + ((R_X11_measure (zu σ 97 0 sd) x) 98 2)) * 10) + ((R_X11_measure (zu σ 97 0 sd) x) 98 3))), (4, .inl 4)]) 4 rfl ⟨by decide, by decide⟩ rfl (by decide) dX11_measured_53 ?_
    refine zRx.goto (tgt := 34) dX11_measured_56 (by decide) ?_
    refine zRx.iload 4 rfl dX11_measured_34 ?_
    refine zRx.iconst ⟨by decide, by decide⟩ dX11_measured_36 ?_
    refine zRx.icmp_ge (tgt := 59) dX11_measured_37 (by decide) (fun _ => ?_) (fun c37 => absurd c37 (by decide))
    refine zRx.iload_n 3 rfl rfl dX11_measured_59 ?_
    exact zR.iret rfl dX11_measured_60 ⟨by unfold V_X11_measured; rw [if_pos c4], by unfold F_X11_measured; rw [if_pos c4]⟩
  · refine zRx.iconst ⟨by decide, by decide⟩ dX11_measured_7 ?_
    exact zR.iret rfl dX11_measured_8 ⟨by unfold V_X11_measured; rw [if_neg c4], by unfold F_X11_measured; rw [if_neg c4]⟩

def L_X11_slips_35 (x mn sd : Int) : Nat → Int → Int → zG → Int × zG
  | 0, _, _, σ => (0, σ)
  | n + 1, sm, q, σ => if mn ≤ q then (sm, σ) else (if (V_X11_lengthOf (R_X11_measure σ x)) = (-1) then (L_X11_slips_35 x mn sd n sm (q + 1) (R_X11_measure σ x)) else (if (V_X11_lengthOf (R_X11_measure σ x)) = x then (L_X11_slips_35 x mn sd n sm (q + 1) (R_X11_measure σ x)) else (L_X11_slips_35 x mn sd n (sm + 1) (q + 1) (R_X11_measure σ x))))
theorem fr_L_X11_slips_35 (x mn sd : Int)  (n : Nat) (sm q : Int) (σ : zG) {k : Nat} (h : k ∉ [97, 98]) : (L_X11_slips_35 x mn sd n sm q σ).2 k = σ k := by
  induction n generalizing sm q σ with
  | zero => rfl
  | succ n ih =>
    have ne : ∀ c ∈ [97, 98], k ≠ c := fun c hc e => h (e ▸ hc)
    have nk_R_X11_measure : k ∉ [97, 98] := fun hm => h (by first | (revert hm; simp only [List.mem_cons, List.not_mem_nil, or_false]; omega) | (simp at hm))
    rw [L_X11_slips_35]
    repeat' split
    all_goals first | rfl | simp only [zu_row _ _ _ (ne 97 (by decide)), zu_row _ _ _ (ne 98 (by decide)), fr_R_X11_measure (h := nk_R_X11_measure), ih]

set_option maxRecDepth 20000 in
theorem loop_X11_slips_35 (x mn sd : Int) (hx : 0 ≤ x ∧ x < 125) (hn : 1 ≤ mn ∧ mn ≤ 1000) : ∀ (n : Nat) (sm q : Int) (σ : zG), 0 ≤ q ∧ 0 ≤ sm ∧ sm ≤ q → (mn - q).toNat < n → zR SC 2 m_X11_slips 35 [(0, zP 0), (1, .inl x), (2, .inl mn), (3, .inl sd), (4, .inl sm), (5, .inl q)] [] σ (zEq (some (.inl (L_X11_slips_35 x mn sd n sm q σ).1)) (L_X11_slips_35 x mn sd n sm q σ).2) := by
  intro n
  induction n with
  | zero => intro sm q σ h0 hmz; exact absurd hmz (Nat.not_lt_zero _)
  | succ n ih =>
    intro sm q σ h0 hmz
    refine zRx.iload 5 rfl dX11_slips_35 ?_
    refine zRx.iload_n 2 rfl rfl dX11_slips_37 ?_
    refine zRx.icmp_ge (tgt := 83) dX11_slips_38 (by decide) (fun c38 => ?_) (fun c38 => ?_)
    · refine zRx.iload 4 rfl dX11_slips_83 ?_
      exact zR.iret rfl dX11_slips_85 (by have he : L_X11_slips_35 x mn sd (n + 1) sm q σ = (sm, σ) := (by rw [L_X11_slips_35, if_pos c38]); rw [he]; exact ⟨rfl, rfl⟩)
    · refine zRx.iload_n 1 rfl rfl dX11_slips_41 ?_
      refine zRx.aload_n 0 rfl rfl dX11_slips_42 ?_
      refine zRx.getR (a := 0) (b := 97) fl_11_91 rfl rfl dX11_slips_43 ?_
      refine zRx.aload_n 0 rfl rfl dX11_slips_46 ?_
      refine zRx.getR (a := 0) (b := 98) fl_11_95 rfl rfl dX11_slips_47 ?_
      refine zRx.cSv (M := m_X11_measure) (av := [.inl x, zP 97, zP 98]) cs_11_350 mk_X11_measure (by decide) rfl (Nat.le_of_ble_eq_true rfl) dX11_slips_50 (does_X11_measure σ x (by omega)) ?_
      refine zRx.aload_n 0 rfl rfl dX11_slips_53 ?_
      refine zRx.getR (a := 0) (b := 98) fl_11_95 rfl rfl dX11_slips_54 ?_
      refine zRx.cSi (w := .inl (V_X11_lengthOf (R_X11_measure σ x))) (M := m_X11_lengthOf) (av := [zP 98]) cs_11_343 mk_X11_lengthOf (by decide) rfl (Nat.le_of_ble_eq_true rfl) dX11_slips_57 (does_X11_lengthOf (R_X11_measure σ x) (meas_r σ x hx)) ?_
      refine zRx.istore (ls' := [(0, zP 0), (1, .inl x), (2, .inl mn), (3, .inl sd), (4, .inl sm), (5, .inl q), (6, .inl (V_X11_lengthOf (R_X11_measure σ x)))]) rfl (by decide) dX11_slips_60 ?_
      refine zRx.iload 6 rfl dX11_slips_62 ?_
      refine zRx.iconst ⟨by decide, by decide⟩ dX11_slips_64 ?_
      refine zRx.icmp_eq (tgt := 77) dX11_slips_65 (by decide) (fun c65 => ?_) (fun c65 => ?_)
      · refine zRx.iinc (n := 1) (ls' := [(0, zP 0), (1, .inl x), (2, .inl mn), (3, .inl sd), (4, .inl sm), (5, .inl (q + 1)), (6, .inl (V_X11_lengthOf (R_X11_measure σ x)))]) 5 rfl ⟨by omega, by omega⟩ rfl (by decide) dX11_slips_77 ?_
        refine zRx.goto (tgt := 35) dX11_slips_80 (by decide) ?_
        refine zRx.pick [0, 1, 2, 3, 4, 5] (ls' := [(0, zP 0), (1, .inl x), (2, .inl mn), (3, .inl sd), (4, .inl sm), (5, .inl (q + 1))]) rfl ?_
        have he : L_X11_slips_35 x mn sd (n + 1) sm q σ = L_X11_slips_35 x mn sd n sm (q + 1) (R_X11_measure σ x) := by rw [L_X11_slips_35, if_neg (Int.not_le.mpr c38), if_pos c65]
        rw [he]
        exact ih sm (q + 1) (R_X11_measure σ x) (by omega) (by omega)
      · refine zRx.iload 6 rfl dX11_slips_68 ?_
        refine zRx.iload_n 1 rfl rfl dX11_slips_70 ?_
        refine zRx.icmp_eq (tgt := 77) dX11_slips_71 (by decide) (fun c71 => ?_) (fun c71 => ?_)
        · refine zRx.iinc (n := 1) (ls' := [(0, zP 0), (1, .inl x), (2, .inl mn), (3, .inl sd), (4, .inl sm), (5, .inl (q + 1)), (6, .inl (V_X11_lengthOf (R_X11_measure σ x)))]) 5 rfl ⟨by omega, by omega⟩ rfl (by decide) dX11_slips_77 ?_
          refine zRx.goto (tgt := 35) dX11_slips_80 (by decide) ?_
          refine zRx.pick [0, 1, 2, 3, 4, 5] (ls' := [(0, zP 0), (1, .inl x), (2, .inl mn), (3, .inl sd), (4, .inl sm), (5, .inl (q + 1))]) rfl ?_
          have he : L_X11_slips_35 x mn sd (n + 1) sm q σ = L_X11_slips_35 x mn sd n sm (q + 1) (R_X11_measure σ x) := by rw [L_X11_slips_35, if_neg (Int.not_le.mpr c38), if_neg c65, if_pos c71]
          rw [he]
          exact ih sm (q + 1) (R_X11_measure σ x) (by omega) (by omega)
        · refine zRx.iinc (n := 1) (ls' := [(0, zP 0), (1, .inl x), (2, .inl mn), (3, .inl sd), (4, .inl (sm + 1)), (5, .inl q), (6, .inl (V_X11_lengthOf (R_X11_measure σ x)))]) 4 rfl ⟨by omega, by omega⟩ rfl (by decide) dX11_slips_74 ?_
          refine zRx.iinc (n := 1) (ls' := [(0, zP 0), (1, .inl x), (2, .inl mn), (3, .inl sd), (4, .inl (sm + 1)), (5, .inl (q + 1)), (6, .inl (V_X11_lengthOf (R_X11_measure σ x)))]) 5 rfl ⟨by omega, by omega⟩ rfl (by decide) dX11_slips_77 ?_
          refine zRx.goto (tgt := 35) dX11_slips_80 (by decide) ?_
          refine zRx.pick [0, 1, 2, 3, 4, 5] (ls' := [(0, zP 0), (1, .inl x), (2, .inl mn), (3, .inl sd), (4, .inl (sm + 1)), (5, .inl (q + 1))]) rfl ?_
          have he : L_X11_slips_35 x mn sd (n + 1) sm q σ = L_X11_slips_35 x mn sd n (sm + 1) (q + 1) (R_X11_measure σ x) := by rw [L_X11_slips_35, if_neg (Int.not_le.mpr c38), if_neg c65, if_neg c71]
          rw [he]
          exact ih (sm + 1) (q + 1) (R_X11_measure σ x) (by omega) (by omega)
def R_X11_slips (σ : zG) (x mn sd : Int) : Int × zG := if 0 ≤ x ∧ x < 125 then (if mn < 1 then ((-1), σ) else (if mn ≤ 1000 then (L_X11_slips_35 x mn sd 1010 0 0 (zu σ 97 0 sd)) else ((-1), σ))) else ((-1), σ)
theorem fr_R_X11_slips (σ : zG) (x mn sd : Int) {k : Nat} (h : k ∉ [97, 98]) : (R_X11_slips σ x mn sd).2 k = σ k := by
  have ne : ∀ c ∈ [97, 98], k ≠ c := fun c hc e => h (e ▸ hc)
  have nl_L_X11_slips_35 : k ∉ [97, 98] := fun hm => h (by first | (revert hm; simp only [List.mem_cons, List.not_mem_nil, or_false]; omega) | (simp at hm))
  unfold R_X11_slips
  repeat' split
  all_goals first | rfl | simp only [zu_row _ _ _ (ne 97 (by decide)), zu_row _ _ _ (ne 98 (by decide)), fr_L_X11_slips_35 (h := nl_L_X11_slips_35)]

set_option maxRecDepth 20000 in
theorem does_X11_slips (σ : zG) (x mn sd : Int)   : zDo SC 2 m_X11_slips [zP 0, .inl x, .inl mn, .inl sd] σ (zEq (some (.inl (R_X11_slips σ x mn sd).1)) (R_X11_slips σ x mn sd).2) := by
  refine zDo.intro mk_X11_slips (Nat.le_of_ble_eq_true rfl) ?_
  refine zRx.iload_n 1 rfl rfl dX11_slips_0 ?_
  refine zRx.cSi (w := .inl (b2 (0 ≤ x ∧ x < 125))) (M := m_X11_isLength) (av := [.inl x]) cs_11_333 mk_X11_isLength (by decide) rfl (Nat.le_of_ble_eq_true rfl) dX11_slips_1 (does_X11_isLength x SC σ) ?_
  refine zRx.if_eqB (tgt := 19) dX11_slips_4 (by decide) (fun c4 => ?_) (fun c4 => ?_)
  · refine zRx.iconst ⟨by decide, by decide⟩ dX11_slips_19 ?_
    exact zR.iret rfl dX11_slips_20 (by have he : R_X11_slips σ x mn sd = ((-1), σ) := (by rw [R_X11_slips, if_neg c4]); rw [he]; exact ⟨rfl, rfl⟩)
  · refine zRx.iload_n 2 rfl rfl dX11_slips_7 ?_
    refine zRx.iconst ⟨by decide, by decide⟩ dX11_slips_8 ?_
    refine zRx.icmp_lt (tgt := 19) dX11_slips_9 (by decide) (fun c9 => ?_) (fun c9 => ?_)
    · refine zRx.iconst ⟨by decide, by decide⟩ dX11_slips_19 ?_
      exact zR.iret rfl dX11_slips_20 (by have he : R_X11_slips σ x mn sd = ((-1), σ) := (by rw [R_X11_slips, if_pos c4, if_pos c9]); rw [he]; exact ⟨rfl, rfl⟩)
    · refine zRx.iload_n 2 rfl rfl dX11_slips_12 ?_
      refine zRx.sipush ⟨by decide, by decide⟩ rfl dX11_slips_13 ?_
      refine zRx.icmp_le (tgt := 21) dX11_slips_16 (by decide) (fun c16 => ?_) (fun c16 => ?_)
      · refine zRx.aload_n 0 rfl rfl dX11_slips_21 ?_
        refine zRx.getR (a := 0) (b := 97) fl_11_91 rfl rfl dX11_slips_22 ?_
        refine zRx.iload_n 3 rfl rfl dX11_slips_25 ?_
        refine zRx.putI (a := 97) (ji := 0) pl_11_186 rfl rfl rfl dX11_slips_26 ?_
        refine zRx.iconst ⟨by decide, by decide⟩ dX11_slips_29 ?_
        refine zRx.istore (ls' := [(0, zP 0), (1, .inl x), (2, .inl mn), (3, .inl sd), (4, .inl 0)]) rfl (by decide) dX11_slips_30 ?_
        refine zRx.iconst ⟨by decide, by decide⟩ dX11_slips_32 ?_
        refine zRx.istore (ls' := [(0, zP 0), (1, .inl x), (2, .inl mn), (3, .inl sd), (4, .inl 0), (5, .inl 0)]) rfl (by decide) dX11_slips_33 ?_
        have he : R_X11_slips σ x mn sd = L_X11_slips_35 x mn sd 1010 0 0 (zu σ 97 0 sd) := by rw [R_X11_slips, if_pos c4, if_neg (Int.not_lt.mpr c9), if_pos c16]
        rw [he]
        exact loop_X11_slips_35 x mn sd (by omega) (by omega)  1010 0 0 (zu σ 97 0 sd) (by omega) (by omega)
      · refine zRx.iconst ⟨by decide, by decide⟩ dX11_slips_19 ?_
        exact zR.iret rfl dX11_slips_20 (by have he : R_X11_slips σ x mn sd = ((-1), σ) := (by rw [R_X11_slips, if_pos c4, if_neg (Int.not_lt.mpr c9), if_neg (Int.not_le.mpr c16)]); rw [he]; exact ⟨rfl, rfl⟩)

def V_X12_measured (σ : zG) (x sd : Int) : Int := if 0 ≤ x ∧ x ≤ 124 then ((((1000 * ((R_X12_measure (zu (zu σ 0 0 0) 0 27 sd) x) 35 0)) + (100 * ((R_X12_measure (zu (zu σ 0 0 0) 0 27 sd) x) 35 1))) + (10 * ((R_X12_measure (zu (zu σ 0 0 0) 0 27 sd) x) 35 2))) + ((R_X12_measure (zu (zu σ 0 0 0) 0 27 sd) x) 35 3)) else (-1)
def F_X12_measured (σ : zG) (x sd : Int) : zG := if 0 ≤ x ∧ x ≤ 124 then (R_X12_measure (zu (zu σ 0 0 0) 0 27 sd) x) else (zu σ 0 0 0)
theorem fr_F_X12_measured (σ : zG) (x sd : Int) {k : Nat} (h : k ∉ [0, 34, 35]) : (F_X12_measured σ x sd) k = σ k := by
  have ne : ∀ c ∈ [0, 34, 35], k ≠ c := fun c hc e => h (e ▸ hc)
  have nk_R_X12_measure : k ∉ [0, 34, 35] := fun hm => h (by first | (revert hm; simp only [List.mem_cons, List.not_mem_nil, or_false]; omega) | (simp at hm))
  unfold F_X12_measured
  repeat' split
  all_goals first | rfl | simp only [zu_row _ _ _ (ne 0 (by decide)), zu_row _ _ _ (ne 34 (by decide)), zu_row _ _ _ (ne 35 (by decide)), fr_R_X12_measure (h := nk_R_X12_measure)]

set_option maxRecDepth 20000 in
theorem does_X12_measured (σ : zG) (x sd : Int)  : zDo SM 2 m_X12_measured [zP 0, .inl x, .inl sd] σ (zEq (some (.inl (V_X12_measured σ x sd))) (F_X12_measured σ x sd)) := by
  refine zDo.intro mk_X12_measured (Nat.le_of_ble_eq_true rfl) ?_
  refine zRx.aload_n 0 rfl rfl dX12_measured_0 ?_
  refine zRx.iconst ⟨by decide, by decide⟩ dX12_measured_1 ?_
  refine zRx.putI (a := 0) (ji := 0) pl_12_1 rfl rfl rfl dX12_measured_2 ?_
  refine zRx.iload_n 1 rfl rfl dX12_measured_5 ?_
  refine zRx.iconst ⟨by decide, by decide⟩ dX12_measured_6 ?_
  refine zRx.bipush ⟨by decide, by decide⟩ rfl dX12_measured_7 ?_
  refine zRx.cSi (w := .inl (b2 (0 ≤ x ∧ x ≤ 124))) (M := m_X12_isIn) (av := [.inl x, .inl 0, .inl 124]) cs_12_254 mk_X12_isIn (by decide) rfl (Nat.le_of_ble_eq_true rfl) dX12_measured_9 (does_X12_isIn x 0 124 SM (zu σ 0 0 0)) ?_
  refine zRx.if_neB (tgt := 17) dX12_measured_12 (by decide) (fun c12 => ?_) (fun c12 => ?_)
  · refine zRx.aload_n 0 rfl rfl dX12_measured_17 ?_
    refine zRx.iload_n 2 rfl rfl dX12_measured_18 ?_
    refine zRx.putI (a := 0) (ji := 27) pl_12_347 rfl rfl rfl dX12_measured_19 ?_
    refine zRx.aload_n 0 rfl rfl dX12_measured_22 ?_
    refine zRx.iload_n 1 rfl rfl dX12_measured_23 ?_
    refine zRx.cVv (M := m_X12_measure) (av := [.inl x]) cv_12_463 mk_X12_measure (by decide) (b := 0) rfl rfl (Nat.le_of_ble_eq_true rfl) dX12_measured_24 (does_X12_measure (zu (zu σ 0 0 0) 0 27 sd) x (by omega)) ?_
    have k0 := mmeas_r (zu (zu σ 0 0 0) 0 27 sd) x (by omega) 0 (by decide) (by decide)
    have k1 := mmeas_r (zu (zu σ 0 0 0) 0 27 sd) x (by omega) 1 (by decide) (by decide)
    have k2 := mmeas_r (zu (zu σ 0 0 0) 0 27 sd) x (by omega) 2 (by decide) (by decide)
    have k3 := mmeas_r (zu (zu σ 0 0 0) 0 27 sd) x (by omega) 3 (by decide) (by decide)
    refine zRx.sipush ⟨by decide, by decide⟩ rfl dX12_measured_27 ?_
    refine zRx.aload_n 0 rfl rfl dX12_measured_30 ?_
    refine zRx.getR (a := 0) (b := 35) fl_12_135 rfl rfl dX12_measured_31 ?_
    refine zRx.iconst ⟨by decide, by decide⟩ dX12_measured_34 ?_
    refine zRx.ialdv (v := (R_X12_measure (zu (zu σ 0 0 0) 0 27 sd) x) 35 0) rfl rfl (by decide) (by decide) dX12_measured_35 ?_
    refine zRx.imul ⟨by omega, by omega⟩ dX12_measured_36 ?_
    refine zRx.bipush ⟨by decide, by decide⟩ rfl dX12_measured_37 ?_
    refine zRx.aload_n 0 rfl rfl dX12_measured_39 ?_
    refine zRx.getR (a := 0) (b := 35) fl_12_135 rfl rfl dX12_measured_40 ?_
    refine zRx.iconst ⟨by decide, by decide⟩ dX12_measured_43 ?_
    refine zRx.ialdv (v := (R_X12_measure (zu (zu σ 0 0 0) 0 27 sd) x) 35 1) rfl rfl (by decide) (by decide) dX12_measured_44 ?_
    refine zRx.imul ⟨by omega, by omega⟩ dX12_measured_45 ?_
    refine zRx.iadd ⟨by omega, by omega⟩ dX12_measured_46 ?_
    refine zRx.bipush ⟨by decide, by decide⟩ rfl dX12_measured_47 ?_
    refine zRx.aload_n 0 rfl rfl dX12_measured_49 ?_
    refine zRx.getR (a := 0) (b := 35) fl_12_135 rfl rfl dX12_measured_50 ?_
    refine zRx.iconst ⟨by decide, by decide⟩ dX12_measured_53 ?_
    refine zRx.ialdv (v := (R_X12_measure (zu (zu σ 0 0 0) 0 27 sd) x) 35 2) rfl rfl (by decide) (by decide) dX12_measured_54 ?_
    refine zRx.imul ⟨by omega, by omega⟩ dX12_measured_55 ?_
    refine zRx.iadd ⟨by omega, by omega⟩ dX12_measured_56 ?_
    refine zRx.aload_n 0 rfl rfl dX12_measured_57 ?_
    refine zRx.getR (a := 0) (b := 35) fl_12_135 rfl rfl dX12_measured_58 ?_
    refine zRx.iconst ⟨by decide, by decide⟩ dX12_measured_61 ?_
    refine zRx.ialdv (v := (R_X12_measure (zu (zu σ 0 0 0) 0 27 sd) x) 35 3) rfl rfl (by decide) (by decide) dX12_measured_62 ?_
    refine zRx.iadd ⟨by omega, by omega⟩ dX12_measured_63 ?_
    exact zR.iret rfl dX12_measured_64 ⟨by unfold V_X12_measured; rw [if_pos c12], by unfold F_X12_measured; rw [if_pos c12]⟩
  · refine zRx.iconst ⟨by decide, by decide⟩ dX12_measured_15 ?_
    exact zR.iret rfl dX12_measured_16 ⟨by unfold V_X12_measured; rw [if_neg c12], by unfold F_X12_measured; rw [if_neg c12]⟩

def L_X12_slips_39 (x mn sd : Int) : Nat → Int → Int → zG → Int × zG
  | 0, _, _, σ => (0, σ)
  | n + 1, sm, q, σ => if mn ≤ q then (sm, σ) else (if (V_X12_readSeen (R_X12_measure σ x)) < 0 then (L_X12_slips_39 x mn sd n (sm + 0) (q + 1) (R_X12_measure σ x)) else (if (V_X12_readSeen (R_X12_measure σ x)) = x then (L_X12_slips_39 x mn sd n (sm + 0) (q + 1) (R_X12_measure σ x)) else (L_X12_slips_39 x mn sd n (sm + 1) (q + 1) (R_X12_measure σ x))))
theorem fr_L_X12_slips_39 (x mn sd : Int)  (n : Nat) (sm q : Int) (σ : zG) {k : Nat} (h : k ∉ [0, 34, 35]) : (L_X12_slips_39 x mn sd n sm q σ).2 k = σ k := by
  induction n generalizing sm q σ with
  | zero => rfl
  | succ n ih =>
    have ne : ∀ c ∈ [0, 34, 35], k ≠ c := fun c hc e => h (e ▸ hc)
    have nk_R_X12_measure : k ∉ [0, 34, 35] := fun hm => h (by first | (revert hm; simp only [List.mem_cons, List.not_mem_nil, or_false]; omega) | (simp at hm))
    rw [L_X12_slips_39]
    repeat' split
    all_goals first | rfl | simp only [zu_row _ _ _ (ne 0 (by decide)), zu_row _ _ _ (ne 34 (by decide)), zu_row _ _ _ (ne 35 (by decide)), fr_R_X12_measure (h := nk_R_X12_measure), ih]

set_option maxRecDepth 20000 in
theorem loop_X12_slips_39 (x mn sd : Int) (hx : 0 ≤ x ∧ x < 125) (hn : 1 ≤ mn ∧ mn ≤ 1000) : ∀ (n : Nat) (sm q : Int) (σ : zG), 0 ≤ q ∧ 0 ≤ sm ∧ sm ≤ q → (mn - q).toNat < n → zR SM 2 m_X12_slips 39 [(0, zP 0), (1, .inl x), (2, .inl mn), (3, .inl sd), (4, .inl sm), (5, .inl q)] [] σ (zEq (some (.inl (L_X12_slips_39 x mn sd n sm q σ).1)) (L_X12_slips_39 x mn sd n sm q σ).2) := by
  intro n
  induction n with
  | zero => intro sm q σ h0 hmz; exact absurd hmz (Nat.not_lt_zero _)
  | succ n ih =>
    intro sm q σ h0 hmz
    refine zRx.iload 5 rfl dX12_slips_39 ?_
    refine zRx.iload_n 2 rfl rfl dX12_slips_41 ?_
    refine zRx.icmp_ge (tgt := 81) dX12_slips_42 (by decide) (fun c42 => ?_) (fun c42 => ?_)
    · refine zRx.iload 4 rfl dX12_slips_81 ?_
      exact zR.iret rfl dX12_slips_83 (by have he : L_X12_slips_39 x mn sd (n + 1) sm q σ = (sm, σ) := (by rw [L_X12_slips_39, if_pos c42]); rw [he]; exact ⟨rfl, rfl⟩)
    · refine zRx.aload_n 0 rfl rfl dX12_slips_45 ?_
      refine zRx.iload_n 1 rfl rfl dX12_slips_46 ?_
      refine zRx.cVv (M := m_X12_measure) (av := [.inl x]) cv_12_463 mk_X12_measure (by decide) (b := 0) rfl rfl (Nat.le_of_ble_eq_true rfl) dX12_slips_47 (does_X12_measure σ x (by omega)) ?_
      refine zRx.iload 4 rfl dX12_slips_50 ?_
      refine zRx.aload_n 0 rfl rfl dX12_slips_52 ?_
      refine zRx.cVi (w := .inl (V_X12_readSeen (R_X12_measure σ x))) (M := m_X12_readSeen) (av := []) cv_12_460 mk_X12_readSeen (by decide) (b := 0) rfl rfl (Nat.le_of_ble_eq_true rfl) dX12_slips_53 (does_X12_readSeen (R_X12_measure σ x) (mmeas_r σ x hx)) ?_
      refine zRx.if_lt (tgt := 71) dX12_slips_56 (by decide) (fun c56 => ?_) (fun c56 => ?_)
      · refine zRx.iconst ⟨by decide, by decide⟩ dX12_slips_71 ?_
        refine zRx.iadd ⟨by omega, by omega⟩ dX12_slips_72 ?_
        refine zRx.istore (ls' := [(0, zP 0), (1, .inl x), (2, .inl mn), (3, .inl sd), (4, .inl (sm + 0)), (5, .inl q)]) rfl (by decide) dX12_slips_73 ?_
        refine zRx.iinc (n := 1) (ls' := [(0, zP 0), (1, .inl x), (2, .inl mn), (3, .inl sd), (4, .inl (sm + 0)), (5, .inl (q + 1))]) 5 rfl ⟨by omega, by omega⟩ rfl (by decide) dX12_slips_75 ?_
        refine zRx.goto (tgt := 39) dX12_slips_78 (by decide) ?_
        have he : L_X12_slips_39 x mn sd (n + 1) sm q σ = L_X12_slips_39 x mn sd n (sm + 0) (q + 1) (R_X12_measure σ x) := by rw [L_X12_slips_39, if_neg (Int.not_le.mpr c42), if_pos c56]
        rw [he]
        exact ih (sm + 0) (q + 1) (R_X12_measure σ x) (by omega) (by omega)
      · refine zRx.aload_n 0 rfl rfl dX12_slips_59 ?_
        refine zRx.cVi (w := .inl (V_X12_readSeen (R_X12_measure σ x))) (M := m_X12_readSeen) (av := []) cv_12_460 mk_X12_readSeen (by decide) (b := 0) rfl rfl (Nat.le_of_ble_eq_true rfl) dX12_slips_60 (does_X12_readSeen (R_X12_measure σ x) (mmeas_r σ x hx)) ?_
        refine zRx.iload_n 1 rfl rfl dX12_slips_63 ?_
        refine zRx.icmp_eq (tgt := 71) dX12_slips_64 (by decide) (fun c64 => ?_) (fun c64 => ?_)
        · refine zRx.iconst ⟨by decide, by decide⟩ dX12_slips_71 ?_
          refine zRx.iadd ⟨by omega, by omega⟩ dX12_slips_72 ?_
          refine zRx.istore (ls' := [(0, zP 0), (1, .inl x), (2, .inl mn), (3, .inl sd), (4, .inl (sm + 0)), (5, .inl q)]) rfl (by decide) dX12_slips_73 ?_
          refine zRx.iinc (n := 1) (ls' := [(0, zP 0), (1, .inl x), (2, .inl mn), (3, .inl sd), (4, .inl (sm + 0)), (5, .inl (q + 1))]) 5 rfl ⟨by omega, by omega⟩ rfl (by decide) dX12_slips_75 ?_
          refine zRx.goto (tgt := 39) dX12_slips_78 (by decide) ?_
          have he : L_X12_slips_39 x mn sd (n + 1) sm q σ = L_X12_slips_39 x mn sd n (sm + 0) (q + 1) (R_X12_measure σ x) := by rw [L_X12_slips_39, if_neg (Int.not_le.mpr c42), if_neg (Int.not_lt.mpr c56), if_pos c64]
          rw [he]
          exact ih (sm + 0) (q + 1) (R_X12_measure σ x) (by omega) (by omega)
        · refine zRx.iconst ⟨by decide, by decide⟩ dX12_slips_67 ?_
          refine zRx.goto (tgt := 72) dX12_slips_68 (by decide) ?_
          refine zRx.iadd ⟨by omega, by omega⟩ dX12_slips_72 ?_
          refine zRx.istore (ls' := [(0, zP 0), (1, .inl x), (2, .inl mn), (3, .inl sd), (4, .inl (sm + 1)), (5, .inl q)]) rfl (by decide) dX12_slips_73 ?_
          refine zRx.iinc (n := 1) (ls' := [(0, zP 0), (1, .inl x), (2, .inl mn), (3, .inl sd), (4, .inl (sm + 1)), (5, .inl (q + 1))]) 5 rfl ⟨by omega, by omega⟩ rfl (by decide) dX12_slips_75 ?_
          refine zRx.goto (tgt := 39) dX12_slips_78 (by decide) ?_
          have he : L_X12_slips_39 x mn sd (n + 1) sm q σ = L_X12_slips_39 x mn sd n (sm + 1) (q + 1) (R_X12_measure σ x) := by rw [L_X12_slips_39, if_neg (Int.not_le.mpr c42), if_neg (Int.not_lt.mpr c56), if_neg c64]
          rw [he]
          exact ih (sm + 1) (q + 1) (R_X12_measure σ x) (by omega) (by omega)
def R_X12_slips (σ : zG) (x mn sd : Int) : Int × zG := if 0 ≤ x ∧ x ≤ 124 then (if 1 ≤ mn ∧ mn ≤ 1000 then (L_X12_slips_39 x mn sd 1010 0 0 (zu (zu σ 0 0 0) 0 27 sd)) else ((-1), zu σ 0 0 0)) else ((-1), zu σ 0 0 0)
theorem fr_R_X12_slips (σ : zG) (x mn sd : Int) {k : Nat} (h : k ∉ [0, 34, 35]) : (R_X12_slips σ x mn sd).2 k = σ k := by
  have ne : ∀ c ∈ [0, 34, 35], k ≠ c := fun c hc e => h (e ▸ hc)
  have nl_L_X12_slips_39 : k ∉ [0, 34, 35] := fun hm => h (by first | (revert hm; simp only [List.mem_cons, List.not_mem_nil, or_false]; omega) | (simp at hm))
  unfold R_X12_slips
  repeat' split
  all_goals first | rfl | simp only [zu_row _ _ _ (ne 0 (by decide)), zu_row _ _ _ (ne 34 (by decide)), zu_row _ _ _ (ne 35 (by decide)), fr_L_X12_slips_39 (h := nl_L_X12_slips_39)]

set_option maxRecDepth 20000 in
theorem does_X12_slips (σ : zG) (x mn sd : Int)   : zDo SM 2 m_X12_slips [zP 0, .inl x, .inl mn, .inl sd] σ (zEq (some (.inl (R_X12_slips σ x mn sd).1)) (R_X12_slips σ x mn sd).2) := by
  refine zDo.intro mk_X12_slips (Nat.le_of_ble_eq_true rfl) ?_
  refine zRx.aload_n 0 rfl rfl dX12_slips_0 ?_
  refine zRx.iconst ⟨by decide, by decide⟩ dX12_slips_1 ?_
  refine zRx.putI (a := 0) (ji := 0) pl_12_1 rfl rfl rfl dX12_slips_2 ?_
  refine zRx.iload_n 1 rfl rfl dX12_slips_5 ?_
  refine zRx.iconst ⟨by decide, by decide⟩ dX12_slips_6 ?_
  refine zRx.bipush ⟨by decide, by decide⟩ rfl dX12_slips_7 ?_
  refine zRx.cSi (w := .inl (b2 (0 ≤ x ∧ x ≤ 124))) (M := m_X12_isIn) (av := [.inl x, .inl 0, .inl 124]) cs_12_254 mk_X12_isIn (by decide) rfl (Nat.le_of_ble_eq_true rfl) dX12_slips_9 (does_X12_isIn x 0 124 SM (zu σ 0 0 0)) ?_
  refine zRx.if_eqB (tgt := 26) dX12_slips_12 (by decide) (fun c12 => ?_) (fun c12 => ?_)
  · refine zRx.iconst ⟨by decide, by decide⟩ dX12_slips_26 ?_
    exact zR.iret rfl dX12_slips_27 (by have he : R_X12_slips σ x mn sd = ((-1), zu σ 0 0 0) := (by rw [R_X12_slips, if_neg c12]); rw [he]; exact ⟨rfl, rfl⟩)
  · refine zRx.iload_n 2 rfl rfl dX12_slips_15 ?_
    refine zRx.iconst ⟨by decide, by decide⟩ dX12_slips_16 ?_
    refine zRx.sipush ⟨by decide, by decide⟩ rfl dX12_slips_17 ?_
    refine zRx.cSi (w := .inl (b2 (1 ≤ mn ∧ mn ≤ 1000))) (M := m_X12_isIn) (av := [.inl mn, .inl 1, .inl 1000]) cs_12_254 mk_X12_isIn (by decide) rfl (Nat.le_of_ble_eq_true rfl) dX12_slips_20 (does_X12_isIn mn 1 1000 SM (zu σ 0 0 0)) ?_
    refine zRx.if_neB (tgt := 28) dX12_slips_23 (by decide) (fun c23 => ?_) (fun c23 => ?_)
    · refine zRx.aload_n 0 rfl rfl dX12_slips_28 ?_
      refine zRx.iload_n 3 rfl rfl dX12_slips_29 ?_
      refine zRx.putI (a := 0) (ji := 27) pl_12_347 rfl rfl rfl dX12_slips_30 ?_
      refine zRx.iconst ⟨by decide, by decide⟩ dX12_slips_33 ?_
      refine zRx.istore (ls' := [(0, zP 0), (1, .inl x), (2, .inl mn), (3, .inl sd), (4, .inl 0)]) rfl (by decide) dX12_slips_34 ?_
      refine zRx.iconst ⟨by decide, by decide⟩ dX12_slips_36 ?_
      refine zRx.istore (ls' := [(0, zP 0), (1, .inl x), (2, .inl mn), (3, .inl sd), (4, .inl 0), (5, .inl 0)]) rfl (by decide) dX12_slips_37 ?_
      have he : R_X12_slips σ x mn sd = L_X12_slips_39 x mn sd 1010 0 0 (zu (zu σ 0 0 0) 0 27 sd) := by rw [R_X12_slips, if_pos c12, if_pos c23]
      rw [he]
      exact loop_X12_slips_39 x mn sd (by omega) (by omega)  1010 0 0 (zu (zu σ 0 0 0) 0 27 sd) (by omega) (by omega)
    · refine zRx.iconst ⟨by decide, by decide⟩ dX12_slips_26 ?_
      exact zR.iret rfl dX12_slips_27 (by have he : R_X12_slips σ x mn sd = ((-1), zu σ 0 0 0) := (by rw [R_X12_slips, if_pos c12, if_neg c23]); rw [he]; exact ⟨rfl, rfl⟩)

