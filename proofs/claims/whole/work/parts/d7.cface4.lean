/-! the face once more: terms, led, image, restore -/
theorem fo_lt (σ : zG) (who : Int) : ∀ (n : Nat) (q : Int), 0 ≤ q → (σ 53 8 - q).toNat < n → L_X4_firstOpenOf_2 σ who n q = -1 ∨ (0 ≤ L_X4_firstOpenOf_2 σ who n q ∧ L_X4_firstOpenOf_2 σ who n q < σ 53 8)
  | 0, q, _, h => absurd h (Nat.not_lt_zero _)
  | n + 1, q, q0, h => by
    rw [L_X4_firstOpenOf_2]
    split
    · exact Or.inl rfl
    · next c =>
      have ih := fo_lt σ who n (q + 1) (by omega) (by omega)
      split
      · split
        · exact ih
        · exact Or.inr ⟨q0, by omega⟩
      · exact ih
set_option maxRecDepth 20000 in
theorem do2_X11_terms (σ : zG) (who : Int) (hm : σ 53 8 ≤ 128) (hT : WD σ) : zDo SC 1 m_X11_terms [zP 0, .inl who] σ (zEq (some (.inl (V_X11_terms σ who))) σ) := by
  refine zDo.intro mk_X11_terms (Nat.le_of_ble_eq_true rfl) ?_
  have hfo2 : R_X4_firstOpenOf σ who = -1 ∨ (0 ≤ R_X4_firstOpenOf σ who ∧ R_X4_firstOpenOf σ who < σ 53 8) := fo_lt σ who 200 0 (by decide) (by omega)
  refine zRx.aload_n 0 rfl rfl dX11_terms_0 ?_
  refine zRx.getR (a := 0) (b := 5) fl_11_28 rfl rfl dX11_terms_1 ?_
  refine zRx.iload_n 1 rfl rfl dX11_terms_4 ?_
  refine zRx.cVi (w := .inl (b2 (0 ≤ who ∧ who < (σ 5 0)))) (M := m_X9_hasWho) (av := [.inl who]) cv_11_158 mk_X9_hasWho (by decide) (b := 5) rfl rfl (Nat.le_of_ble_eq_true rfl) dX11_terms_5 (hasWho2 σ who (σ 5 0) rfl) ?_
  refine zRx.if_eqB (tgt := 22) dX11_terms_8 (by decide) (fun c8 => ?_) (fun c8 => ?_)
  · refine zRx.iconst ⟨by decide, by decide⟩ dX11_terms_22 ?_
    refine zRx.istore_n (ls' := [(0, zP 0), (1, .inl who), (2, .inl (-1))]) rfl rfl (by decide) dX11_terms_23 ?_
    refine zRx.iload_n 2 rfl rfl dX11_terms_24 ?_
    refine zRx.iconst ⟨by decide, by decide⟩ dX11_terms_25 ?_
    refine zRx.icmp_ne (tgt := 33) dX11_terms_26 (by decide) (fun c26 => absurd c26 (by decide)) (fun _ => ?_)
    refine zRx.sipush ⟨by decide, by decide⟩ rfl dX11_terms_29 ?_
    exact zR.iret rfl dX11_terms_32 ⟨by unfold V_X11_terms; rw [if_neg c8], rfl⟩
  · refine zRx.aload_n 0 rfl rfl dX11_terms_11 ?_
    refine zRx.getR (a := 0) (b := 53) fl_11_60 rfl rfl dX11_terms_12 ?_
    refine zRx.iload_n 1 rfl rfl dX11_terms_15 ?_
    refine zRx.cVi (w := .inl (R_X4_firstOpenOf σ who)) (M := m_X4_firstOpenOf) (av := [.inl who]) cv_11_291 mk_X4_firstOpenOf (by decide) (b := 53) rfl rfl (Nat.le_of_ble_eq_true rfl) dX11_terms_16 (does_X4_firstOpenOf σ who hm) ?_
    refine zRx.goto (tgt := 23) dX11_terms_19 (by decide) ?_
    refine zRx.istore_n (ls' := [(0, zP 0), (1, .inl who), (2, .inl (R_X4_firstOpenOf σ who))]) rfl rfl (by decide) dX11_terms_23 ?_
    refine zRx.iload_n 2 rfl rfl dX11_terms_24 ?_
    refine zRx.iconst ⟨by decide, by decide⟩ dX11_terms_25 ?_
    refine zRx.icmp_ne (tgt := 33) dX11_terms_26 (by decide) (fun c26 => ?_) (fun c26 => ?_)
    · refine zRx.aload_n 0 rfl rfl dX11_terms_33 ?_
      refine zRx.getR (a := 0) (b := 53) fl_11_60 rfl rfl dX11_terms_34 ?_
      refine zRx.iload_n 2 rfl rfl dX11_terms_37 ?_
      refine zRx.cVi (w := .inl (V_X4_dayOf σ (R_X4_firstOpenOf σ who))) (M := m_X4_dayOf) (av := [.inl (R_X4_firstOpenOf σ who)]) cv_11_294 mk_X4_dayOf (by decide) (b := 53) rfl rfl (Nat.le_of_ble_eq_true rfl) dX11_terms_38 (does_X4_dayOf σ (R_X4_firstOpenOf σ who) (by omega) (hT _ (by omega) (by omega))) ?_
      refine zRx.aload_n 0 rfl rfl dX11_terms_41 ?_
      refine zRx.getR (a := 0) (b := 5) fl_11_28 rfl rfl dX11_terms_42 ?_
      refine zRx.getR (a := 5) (b := 15) fl_11_297 rfl rfl dX11_terms_45 ?_
      refine zRx.iconst ⟨by decide, by decide⟩ dX11_terms_48 ?_
      refine zRx.ialdv (v := σ 15 0) rfl rfl (by decide) (by decide) dX11_terms_49 ?_
      refine zRx.iaddW dX11_terms_50 ?_
      refine zRx.iconst ⟨by decide, by decide⟩ dX11_terms_51 ?_
      refine zRx.iaddW dX11_terms_52 ?_
      refine zRx.aload_n 0 rfl rfl dX11_terms_53 ?_
      refine zRx.getR (a := 0) (b := 27) fl_11_38 rfl rfl dX11_terms_54 ?_
      refine zRx.getIv (a := 27) (ji := 1) (v := σ 27 1) rfl fl_11_260 rfl rfl rfl dX11_terms_57 ?_
      refine zRx.isubW dX11_terms_60 ?_
      exact zR.iret rfl dX11_terms_61 ⟨by unfold V_X11_terms; rw [if_pos c8, if_neg c26], rfl⟩
    · refine zRx.sipush ⟨by decide, by decide⟩ rfl dX11_terms_29 ?_
      exact zR.iret rfl dX11_terms_32 ⟨by unfold V_X11_terms; rw [if_pos c8, if_pos c26], rfl⟩
def MP2 (σ : zG) : Prop := ∀ d : Int, 0 ≤ d → d < σ 0 43 → σ 22 d < 60
set_option maxRecDepth 20000 in
theorem loop2_X12_led_30 (f i : Int)  : ∀ (n : Nat) (sm q : Int) (σ : zG), 0 ≤ q ∧ 0 ≤ sm ∧ sm ≤ q → σ 0 43 ≤ 420 → MP2 σ → (σ 0 43 - q).toNat < n → zR SM 6 m_X12_led 30 [(0, zP 0), (1, .inl f), (2, .inl i), (3, .inl sm), (4, .inl q)] [] σ (zEq (some (.inl (L_X12_led_30 f i n sm q σ).1)) (L_X12_led_30 f i n sm q σ).2) := by
  intro n
  induction n with
  | zero => intro sm q σ h0 hm hP hmz; exact absurd hmz (Nat.not_lt_zero _)
  | succ n ih =>
    intro sm q σ h0 hm hP hmz
    refine zRx.iload 4 rfl dX12_led_30 ?_
    refine zRx.aload_n 0 rfl rfl dX12_led_32 ?_
    refine zRx.getIv (a := 0) (ji := 43) (v := σ 0 43) rfl fl_12_357 rfl rfl rfl dX12_led_33 ?_
    refine zRx.icmp_ge (tgt := 93) dX12_led_36 (by decide) (fun c36 => ?_) (fun c36 => ?_)
    · refine zRx.iload_n 2 rfl rfl dX12_led_93 ?_
      refine zRx.iconst ⟨by decide, by decide⟩ dX12_led_94 ?_
      refine zRx.icmp_ne (tgt := 102) dX12_led_95 (by decide) (fun c95 => ?_) (fun c95 => ?_)
      · refine zRx.iconst ⟨by decide, by decide⟩ dX12_led_102 ?_
        exact zR.iret rfl dX12_led_103 (by have he : L_X12_led_30 f i (n + 1) sm q σ = ((-1), σ) := (by rw [L_X12_led_30, if_pos c36, if_neg c95]); rw [he]; exact ⟨rfl, rfl⟩)
      · refine zRx.iload_n 3 rfl rfl dX12_led_98 ?_
        refine zRx.goto (tgt := 103) dX12_led_99 (by decide) ?_
        exact zR.iret rfl dX12_led_103 (by have he : L_X12_led_30 f i (n + 1) sm q σ = (sm, σ) := (by rw [L_X12_led_30, if_pos c36, if_pos c95]); rw [he]; exact ⟨rfl, rfl⟩)
    · have hz := hP q (by omega) (by omega)
      refine zRx.aload_n 0 rfl rfl dX12_led_39 ?_
      refine zRx.getR (a := 0) (b := 22) fl_12_95 rfl rfl dX12_led_40 ?_
      refine zRx.iload 4 rfl dX12_led_43 ?_
      refine zRx.ialdv (v := σ 22 q) rfl rfl (by omega) (by omega) dX12_led_45 ?_
      refine zRx.if_lt (tgt := 87) dX12_led_46 (by decide) (fun c46 => ?_) (fun c46 => ?_)
      · refine zRx.iinc (n := 1) (ls' := [(0, zP 0), (1, .inl f), (2, .inl i), (3, .inl sm), (4, .inl (q + 1))]) 4 rfl ⟨by omega, by omega⟩ rfl (by decide) dX12_led_87 ?_
        refine zRx.goto (tgt := 30) dX12_led_90 (by decide) ?_
        have he : L_X12_led_30 f i (n + 1) sm q σ = L_X12_led_30 f i n sm (q + 1) σ := by rw [L_X12_led_30, if_neg (Int.not_le.mpr c36), if_pos c46]
        rw [he]
        exact ih sm (q + 1) σ (by omega) hm hP (by omega)
      · refine zRx.aload_n 0 rfl rfl dX12_led_49 ?_
        refine zRx.getR (a := 0) (b := 2) fl_12_33 rfl rfl dX12_led_50 ?_
        refine zRx.sipush ⟨by decide, by decide⟩ rfl dX12_led_53 ?_
        refine zRx.iconst ⟨by decide, by decide⟩ dX12_led_56 ?_
        refine zRx.aload_n 0 rfl rfl dX12_led_57 ?_
        refine zRx.getR (a := 0) (b := 22) fl_12_95 rfl rfl dX12_led_58 ?_
        refine zRx.iload 4 rfl dX12_led_61 ?_
        refine zRx.ialdv (v := σ 22 q) rfl rfl (by omega) (by omega) dX12_led_63 ?_
        refine zRx.imul ⟨by omega, by omega⟩ dX12_led_64 ?_
        refine zRx.iadd ⟨by omega, by omega⟩ dX12_led_65 ?_
        refine zRx.iconst ⟨by decide, by decide⟩ dX12_led_66 ?_
        refine zRx.iadd ⟨by omega, by omega⟩ dX12_led_67 ?_
        refine zRx.ialdv (v := σ 2 ((173 + (5 * (σ 22 q))) + 3)) rfl rfl (by omega) (by omega) dX12_led_68 ?_
        refine zRx.iload_n 1 rfl rfl dX12_led_69 ?_
        refine zRx.icmp_eq (tgt := 76) dX12_led_70 (by decide) (fun c70 => ?_) (fun c70 => ?_)
        · refine zRx.iload_n 3 rfl rfl dX12_led_76 ?_
          refine zRx.iload_n 2 rfl rfl dX12_led_77 ?_
          refine zRx.icmp_ne (tgt := 84) dX12_led_78 (by decide) (fun c78 => ?_) (fun c78 => ?_)
          · refine zRx.iinc (n := 1) (ls' := [(0, zP 0), (1, .inl f), (2, .inl i), (3, .inl (sm + 1)), (4, .inl q)]) 3 rfl ⟨by omega, by omega⟩ rfl (by decide) dX12_led_84 ?_
            refine zRx.iinc (n := 1) (ls' := [(0, zP 0), (1, .inl f), (2, .inl i), (3, .inl (sm + 1)), (4, .inl (q + 1))]) 4 rfl ⟨by omega, by omega⟩ rfl (by decide) dX12_led_87 ?_
            refine zRx.goto (tgt := 30) dX12_led_90 (by decide) ?_
            have he : L_X12_led_30 f i (n + 1) sm q σ = L_X12_led_30 f i n (sm + 1) (q + 1) σ := by rw [L_X12_led_30, if_neg (Int.not_le.mpr c36), if_neg (Int.not_lt.mpr c46), if_pos c70, if_neg c78]
            rw [he]
            exact ih (sm + 1) (q + 1) σ (by omega) hm hP (by omega)
          · refine zRx.iload 4 rfl dX12_led_81 ?_
            exact zR.iret rfl dX12_led_83 (by have he : L_X12_led_30 f i (n + 1) sm q σ = (q, σ) := (by rw [L_X12_led_30, if_neg (Int.not_le.mpr c36), if_neg (Int.not_lt.mpr c46), if_pos c70, if_pos c78]); rw [he]; exact ⟨rfl, rfl⟩)
        · refine zRx.goto (tgt := 87) dX12_led_73 (by decide) ?_
          refine zRx.iinc (n := 1) (ls' := [(0, zP 0), (1, .inl f), (2, .inl i), (3, .inl sm), (4, .inl (q + 1))]) 4 rfl ⟨by omega, by omega⟩ rfl (by decide) dX12_led_87 ?_
          refine zRx.goto (tgt := 30) dX12_led_90 (by decide) ?_
          have he : L_X12_led_30 f i (n + 1) sm q σ = L_X12_led_30 f i n sm (q + 1) σ := by rw [L_X12_led_30, if_neg (Int.not_le.mpr c36), if_neg (Int.not_lt.mpr c46), if_neg c70]
          rw [he]
          exact ih sm (q + 1) σ (by omega) hm hP (by omega)
set_option maxRecDepth 20000 in
theorem do2_X12_led (σ : zG) (f i : Int) (hN : MN (σ 2)) (hP : MP2 (R_X12_run (zu σ 0 0 0) (-1)))  : zDo SM 6 m_X12_led [zP 0, .inl f, .inl i] σ (zEq (some (.inl (R_X12_led σ f i).1)) (R_X12_led σ f i).2) := by
  refine zDo.intro mk_X12_led (Nat.le_of_ble_eq_true rfl) ?_
  obtain ⟨hW, hp, hF, hL⟩ := id hN
  refine zRx.aload_n 0 rfl rfl dX12_led_0 ?_
  refine zRx.iconst ⟨by decide, by decide⟩ dX12_led_1 ?_
  refine zRx.putI (a := 0) (ji := 0) pl_12_1 rfl rfl rfl dX12_led_2 ?_
  refine zRx.aload_n 0 rfl rfl dX12_led_5 ?_
  refine zRx.iload_n 1 rfl rfl dX12_led_6 ?_
  refine zRx.cVi (w := .inl (b2 (0 ≤ f ∧ f ≤ (σ 2 1) - 1))) (M := m_X12_isFact) (av := [.inl f]) cv_12_316 mk_X12_isFact (by decide) (b := 0) rfl rfl (Nat.le_of_ble_eq_true rfl) dX12_led_7 (does_isFact2 (zu σ 0 0 0) f (σ 2 1) (zu_ne _ _ _ _ (by decide)) hN.2.2.1) ?_
  refine zRx.if_eqB (tgt := 18) dX12_led_10 (by decide) (fun c10 => ?_) (fun c10 => ?_)
  · refine zRx.iconst ⟨by decide, by decide⟩ dX12_led_18 ?_
    exact zR.iret rfl dX12_led_19 (by have he : R_X12_led σ f i = ((-1), zu σ 0 0 0) := (by rw [R_X12_led, if_neg c10]); rw [he]; exact ⟨rfl, rfl⟩)
  · refine zRx.iload_n 2 rfl rfl dX12_led_13 ?_
    refine zRx.iconst ⟨by decide, by decide⟩ dX12_led_14 ?_
    refine zRx.icmp_ge (tgt := 20) dX12_led_15 (by decide) (fun c15 => ?_) (fun c15 => ?_)
    · refine zRx.aload_n 0 rfl rfl dX12_led_20 ?_
      refine zRx.iconst ⟨by decide, by decide⟩ dX12_led_21 ?_
      refine zRx.cVv (M := m_X12_run) (av := [.inl (-1)]) cv_12_400 mk_X12_run (by decide) (b := 0) rfl rfl (Nat.le_of_ble_eq_true rfl) dX12_led_22 (does_X12_run (zu σ 0 0 0) (-1) (MW_z hN _ _)) ?_
      refine zRx.iconst ⟨by decide, by decide⟩ dX12_led_25 ?_
      refine zRx.istore_n (ls' := [(0, zP 0), (1, .inl f), (2, .inl i), (3, .inl 0)]) rfl rfl (by decide) dX12_led_26 ?_
      refine zRx.iconst ⟨by decide, by decide⟩ dX12_led_27 ?_
      refine zRx.istore (ls' := [(0, zP 0), (1, .inl f), (2, .inl i), (3, .inl 0), (4, .inl 0)]) rfl (by decide) dX12_led_28 ?_
      have he : R_X12_led σ f i = L_X12_led_30 f i 500 0 0 (R_X12_run (zu σ 0 0 0) (-1)) := by rw [R_X12_led, if_pos c10, if_pos c15]
      rw [he]
      exact loop2_X12_led_30 f i   500 0 0 (R_X12_run (zu σ 0 0 0) (-1)) (by omega) (run_m hN _ _ _) hP (by have := run_m hN 0 0 (-1); omega)
    · refine zRx.iconst ⟨by decide, by decide⟩ dX12_led_18 ?_
      exact zR.iret rfl dX12_led_19 (by have he : R_X12_led σ f i = ((-1), zu σ 0 0 0) := (by rw [R_X12_led, if_pos c10, if_neg (Int.not_le.mpr c15)]); rw [he]; exact ⟨rfl, rfl⟩)
theorem does_X11_image_n (σ : zG) (x : Int) (h : x < 0 ∨ 2 ≤ x) : zDo SC 3 m_X11_image [zP 0, .inl x] σ (zEq (some (.inl 0)) σ) := by
  refine zDo.intro mk_X11_image (Nat.le_of_ble_eq_true rfl) ?_
  refine zRx.iload_n 1 rfl rfl dX11_image_0 ?_
  refine zRx.if_lt (tgt := 13) dX11_image_1 (by decide) (fun c1 => ?_) (fun c1 => ?_)
  · refine zRx.iconst ⟨by decide, by decide⟩ dX11_image_13 ?_
    exact zR.zret rfl ⟨by decide, by decide⟩ dX11_image_14 ⟨rfl, rfl⟩
  · refine zRx.iload_n 1 rfl rfl dX11_image_4 ?_
    refine zRx.aload_n 0 rfl rfl dX11_image_5 ?_
    refine zRx.getR (a := 0) (b := 99) fl_11_102 rfl rfl dX11_image_6 ?_
    refine zRx.alenR rfl (by decide) dX11_image_9 ?_
    refine zRx.topI (b := 2) rfl ?_
    refine zRx.icmp_lt (tgt := 15) dX11_image_10 (by decide) (fun c10 => absurd c10 (by omega)) (fun _ => ?_)
    refine zRx.iconst ⟨by decide, by decide⟩ dX11_image_13 ?_
    exact zR.zret rfl ⟨by decide, by decide⟩ dX11_image_14 ⟨rfl, rfl⟩
theorem does_X11_restore_n (σ : zG) (x : Int) (h : x < 0 ∨ 2 ≤ x) : zDo SC 7 m_X11_restore [zP 0, .inl x] σ (zEq (some (.inl 0)) σ) := by
  refine zDo.intro mk_X11_restore (Nat.le_of_ble_eq_true rfl) ?_
  refine zRx.iload_n 1 rfl rfl dX11_restore_0 ?_
  refine zRx.if_lt (tgt := 25) dX11_restore_1 (by decide) (fun c1 => ?_) (fun c1 => ?_)
  · refine zRx.iconst ⟨by decide, by decide⟩ dX11_restore_25 ?_
    exact zR.zret rfl ⟨by decide, by decide⟩ dX11_restore_26 ⟨rfl, rfl⟩
  · refine zRx.iload_n 1 rfl rfl dX11_restore_4 ?_
    refine zRx.aload_n 0 rfl rfl dX11_restore_5 ?_
    refine zRx.getR (a := 0) (b := 99) fl_11_102 rfl rfl dX11_restore_6 ?_
    refine zRx.alenR rfl (by decide) dX11_restore_9 ?_
    refine zRx.topI (b := 2) rfl ?_
    refine zRx.icmp_ge (tgt := 25) dX11_restore_10 (by decide) (fun _ => ?_) (fun c10 => absurd c10 (by omega))
    refine zRx.iconst ⟨by decide, by decide⟩ dX11_restore_25 ?_
    exact zR.zret rfl ⟨by decide, by decide⟩ dX11_restore_26 ⟨rfl, rfl⟩
