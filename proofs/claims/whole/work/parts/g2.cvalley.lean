/-! constructors: the valley -/
set_option maxRecDepth 20000 in
theorem new_X9 (σ : zG) : zDoA 3 m_X9_init 10 181 [zP 0] [.inr (.inl (9, [.inl 0, .inl 0, .inl 0, .inl 0, .inr none, .inr none, .inr none, .inr none, .inr none, .inr none, .inr none, .inr none, .inr none, .inr none]))] σ (fun sh' σ' => sh' = [.inr (.inl (9, [.inl 0, .inl 0, .inl 0, .inl 0, .inr (some 1), .inr (some 2), .inr (some 3), .inr (some 4), .inr (some 5), .inr (some 6), .inr (some 7), .inr (some 8), .inr (some 9), .inr (some 10)])), .inl (0, 8), .inl (0, 8), .inl (0, 12), .inl (0, 12), .inl (0, 12), .inl (0, 12), .inl (0, 8), .inl (0, 8), .inl (0, 96), .inl (0, 5)] ∧ σ' = zcs (zfl (zr0 (zr0 (zr0 (zr0 (zr0 (zr0 (zr0 (zr0 (zr0 (zr0 σ 1) 2) 3) 4) 5) 6) 7) 8) 9) 10) 9 96 (-1)) 0 10 5) := by
  refine zDoA.intro mk_X9_init rfl rfl (Nat.le_of_ble_eq_true rfl) ?_
  refine zRi.lift (fun X h => zRx.aload_n 0 rfl rfl dX9_init_0 h) ?_
  refine zRi.objInit (gt_t1 148 (by decide +kernel) rfl) oi_ok.1 oi_ok.2 (by decide) (Nat.le_of_ble_eq_true rfl) dX9_init_1 ?_
  refine zRi.lift (fun X h => zRx.aload_n 0 rfl rfl dX9_init_4 h) ?_
  refine zRi.lift (fun X h => zRx.bipush ⟨by decide, by decide⟩ rfl dX9_init_5 h) ?_
  refine zRi.newI (n := 8) rfl (by decide) (Nat.le_of_ble_eq_true rfl) (Nat.le_of_ble_eq_true rfl) (Nat.le_of_ble_eq_true rfl) (Nat.le_of_ble_eq_true rfl) dX9_init_7 ?_
  refine zRi.putR (a := 0) (b := 1) (j := 4) (fun _ _ _ h => h) ck_9 (by decide) rfl rfl (gt_t1 172 (by decide +kernel) rfl) rfl (fun _ => ⟨rfl, rfl⟩) rfl rfl dX9_init_9 ?_
  refine zRi.lift (fun X h => zRx.aload_n 0 rfl rfl dX9_init_12 h) ?_
  refine zRi.lift (fun X h => zRx.bipush ⟨by decide, by decide⟩ rfl dX9_init_13 h) ?_
  refine zRi.newI (n := 8) rfl (by decide) (Nat.le_of_ble_eq_true rfl) (Nat.le_of_ble_eq_true rfl) (Nat.le_of_ble_eq_true rfl) (Nat.le_of_ble_eq_true rfl) dX9_init_15 ?_
  refine zRi.putR (a := 0) (b := 2) (j := 5) (fun _ _ _ h => h) ck_9 (by decide) rfl rfl (gt_t1 174 (by decide +kernel) rfl) rfl (fun _ => ⟨rfl, rfl⟩) rfl rfl dX9_init_17 ?_
  refine zRi.lift (fun X h => zRx.aload_n 0 rfl rfl dX9_init_20 h) ?_
  refine zRi.lift (fun X h => zRx.bipush ⟨by decide, by decide⟩ rfl dX9_init_21 h) ?_
  refine zRi.newI (n := 12) rfl (by decide) (Nat.le_of_ble_eq_true rfl) (Nat.le_of_ble_eq_true rfl) (Nat.le_of_ble_eq_true rfl) (Nat.le_of_ble_eq_true rfl) dX9_init_23 ?_
  refine zRi.putR (a := 0) (b := 3) (j := 6) (fun _ _ _ h => h) ck_9 (by decide) rfl rfl (gt_t1 177 (by decide +kernel) rfl) rfl (fun _ => ⟨rfl, rfl⟩) rfl rfl dX9_init_25 ?_
  refine zRi.lift (fun X h => zRx.aload_n 0 rfl rfl dX9_init_28 h) ?_
  refine zRi.lift (fun X h => zRx.bipush ⟨by decide, by decide⟩ rfl dX9_init_29 h) ?_
  refine zRi.newI (n := 12) rfl (by decide) (Nat.le_of_ble_eq_true rfl) (Nat.le_of_ble_eq_true rfl) (Nat.le_of_ble_eq_true rfl) (Nat.le_of_ble_eq_true rfl) dX9_init_31 ?_
  refine zRi.putR (a := 0) (b := 4) (j := 7) (fun _ _ _ h => h) ck_9 (by decide) rfl rfl (gt_t1 180 (by decide +kernel) rfl) rfl (fun _ => ⟨rfl, rfl⟩) rfl rfl dX9_init_33 ?_
  refine zRi.lift (fun X h => zRx.aload_n 0 rfl rfl dX9_init_36 h) ?_
  refine zRi.lift (fun X h => zRx.bipush ⟨by decide, by decide⟩ rfl dX9_init_37 h) ?_
  refine zRi.newI (n := 12) rfl (by decide) (Nat.le_of_ble_eq_true rfl) (Nat.le_of_ble_eq_true rfl) (Nat.le_of_ble_eq_true rfl) (Nat.le_of_ble_eq_true rfl) dX9_init_39 ?_
  refine zRi.putR (a := 0) (b := 5) (j := 8) (fun _ _ _ h => h) ck_9 (by decide) rfl rfl (gt_t1 183 (by decide +kernel) rfl) rfl (fun _ => ⟨rfl, rfl⟩) rfl rfl dX9_init_41 ?_
  refine zRi.lift (fun X h => zRx.aload_n 0 rfl rfl dX9_init_44 h) ?_
  refine zRi.lift (fun X h => zRx.bipush ⟨by decide, by decide⟩ rfl dX9_init_45 h) ?_
  refine zRi.newI (n := 12) rfl (by decide) (Nat.le_of_ble_eq_true rfl) (Nat.le_of_ble_eq_true rfl) (Nat.le_of_ble_eq_true rfl) (Nat.le_of_ble_eq_true rfl) dX9_init_47 ?_
  refine zRi.putR (a := 0) (b := 6) (j := 9) (fun _ _ _ h => h) ck_9 (by decide) rfl rfl (gt_t1 187 (by decide +kernel) rfl) rfl (fun _ => ⟨rfl, rfl⟩) rfl rfl dX9_init_49 ?_
  refine zRi.lift (fun X h => zRx.aload_n 0 rfl rfl dX9_init_52 h) ?_
  refine zRi.lift (fun X h => zRx.bipush ⟨by decide, by decide⟩ rfl dX9_init_53 h) ?_
  refine zRi.newI (n := 8) rfl (by decide) (Nat.le_of_ble_eq_true rfl) (Nat.le_of_ble_eq_true rfl) (Nat.le_of_ble_eq_true rfl) (Nat.le_of_ble_eq_true rfl) dX9_init_55 ?_
  refine zRi.putR (a := 0) (b := 7) (j := 10) (fun _ _ _ h => h) ck_9 (by decide) rfl rfl (gt_t1 190 (by decide +kernel) rfl) rfl (fun _ => ⟨rfl, rfl⟩) rfl rfl dX9_init_57 ?_
  refine zRi.lift (fun X h => zRx.aload_n 0 rfl rfl dX9_init_60 h) ?_
  refine zRi.lift (fun X h => zRx.bipush ⟨by decide, by decide⟩ rfl dX9_init_61 h) ?_
  refine zRi.newI (n := 8) rfl (by decide) (Nat.le_of_ble_eq_true rfl) (Nat.le_of_ble_eq_true rfl) (Nat.le_of_ble_eq_true rfl) (Nat.le_of_ble_eq_true rfl) dX9_init_63 ?_
  refine zRi.putR (a := 0) (b := 8) (j := 11) (fun _ _ _ h => h) ck_9 (by decide) rfl rfl (gt_t1 191 (by decide +kernel) rfl) rfl (fun _ => ⟨rfl, rfl⟩) rfl rfl dX9_init_65 ?_
  refine zRi.lift (fun X h => zRx.aload_n 0 rfl rfl dX9_init_68 h) ?_
  refine zRi.lift (fun X h => zRx.bipush ⟨by decide, by decide⟩ rfl dX9_init_69 h) ?_
  refine zRi.newI (n := 96) rfl (by decide) (Nat.le_of_ble_eq_true rfl) (Nat.le_of_ble_eq_true rfl) (Nat.le_of_ble_eq_true rfl) (Nat.le_of_ble_eq_true rfl) dX9_init_71 ?_
  refine zRi.putR (a := 0) (b := 9) (j := 12) (fun _ _ _ h => h) ck_9 (by decide) rfl rfl (gt_t1 192 (by decide +kernel) rfl) rfl (fun _ => ⟨rfl, rfl⟩) rfl rfl dX9_init_73 ?_
  refine zRi.lift (fun X h => zRx.aload_n 0 rfl rfl dX9_init_76 h) ?_
  refine zRi.lift (fun X h => zRx.iconst ⟨by decide, by decide⟩ dX9_init_77 h) ?_
  refine zRi.newI (n := 5) rfl (by decide) (Nat.le_of_ble_eq_true rfl) (Nat.le_of_ble_eq_true rfl) (Nat.le_of_ble_eq_true rfl) (Nat.le_of_ble_eq_true rfl) dX9_init_78 ?_
  refine zRi.putR (a := 0) (b := 10) (j := 13) (fun _ _ _ h => h) ck_9 (by decide) rfl rfl (gt_t1 194 (by decide +kernel) rfl) rfl (fun _ => ⟨rfl, rfl⟩) rfl rfl dX9_init_80 ?_
  refine zRi.lift (fun X h => zRx.aload_n 0 rfl rfl dX9_init_83 h) ?_
  refine zRi.lift (fun X h => zRx.getR (a := 0) (b := 9) fl_9_36 rfl rfl dX9_init_84 h) ?_
  refine zRi.lift (fun X h => zRx.iconst ⟨by decide, by decide⟩ dX9_init_87 h) ?_
  refine zRi.lift (fun X h => zRx.cSv (M := m_J7_fill_53178) (av := [zP 9, .inl (-1)]) cs_9_42 mk_J7_fill_53178 (by decide) rfl (Nat.le_of_ble_eq_true rfl) dX9_init_88 (does_fill [.inr (.inl (9, [.inl 0, .inl 0, .inl 0, .inl 0, .inr (some 1), .inr (some 2), .inr (some 3), .inr (some 4), .inr (some 5), .inr (some 6), .inr (some 7), .inr (some 8), .inr (some 9), .inr (some 10)])), .inl (0, 8), .inl (0, 8), .inl (0, 12), .inl (0, 12), .inl (0, 12), .inl (0, 12), .inl (0, 8), .inl (0, 8), .inl (0, 96), .inl (0, 5)] 9 96 (-1) (zr0 (zr0 (zr0 (zr0 (zr0 (zr0 (zr0 (zr0 (zr0 (zr0 σ 1) 2) 3) 4) 5) 6) 7) 8) 9) 10) rfl (by decide)) h) ?_
  refine zRi.lift (fun X h => zRx.gets (a := 0) (by decide) sl_9_48 dX9_init_91 h) ?_
  refine zRi.lift (fun X h => zRx.iconst ⟨by decide, by decide⟩ dX9_init_94 h) ?_
  refine zRi.lift (fun X h => zRx.aload_n 0 rfl rfl dX9_init_95 h) ?_
  refine zRi.lift (fun X h => zRx.getR (a := 0) (b := 10) fl_9_39 rfl rfl dX9_init_96 h) ?_
  refine zRi.lift (fun X h => zRx.iconst ⟨by decide, by decide⟩ dX9_init_99 h) ?_
  refine zRi.lift (fun X h => zRx.iconst ⟨by decide, by decide⟩ dX9_init_100 h) ?_
  refine zRi.lift (fun X h => zRx.acopyS (by decide) rfl ac_9_51 (by decide) (Nat.le_of_ble_eq_true rfl) (by decide) (by decide) (by decide) dX9_init_101 h) ?_
  exact zRi.stop ⟨dX9_init_104, rfl, ⟨rfl, rfl⟩, rfl, rfl⟩
