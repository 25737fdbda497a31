/-! constructors: those that make rows alone -/
theorem ar_J : Cond.arrayClass .long ∈ gt := gt_t2 176 (by decide +kernel) rfl
theorem zRi.newJ {NN : zC → State → Method → Prop} {d : Nat} {Y : zMI} {sh : List zSh} {pc : Nat} {ls : List (Nat × zV)} {st : List zV} {σ : zG} {X : zX} {q : Nat × Nat × Nat × Nat} {n : Nat} {z : Int} (hz : z = (n : Int)) (hb : n * 8 ≤ 536870912) (h0 : q.1 ≤ sh.length) (h1 : sh.length + 1 ≤ q.2.2.1) (z0 : q.2.1 ≤ szs sh) (z1 : szs sh + n ≤ q.2.2.2) (hd : decode Y.2.1 pc = .ok (.newarray .long, 2)) (h : zRi NN (some q) d Y (sh ++ [.inl (1, n)]) (pc + 2) ls (zP sh.length :: st) (zr0 σ sh.length) X) : zRi NN (some q) d Y sh pc ls (.inl z :: st) σ X := by
  refine zRi.newarr (t := 1) (at9 := .long) (ft := .long) rfl (fun _ => rfl) (fun U cA h => h) ar_J (fun k cA hk y hy => ?_) hz hb (fun j => (⟨by decide, by decide⟩ : (-9223372036854775808 : Int) ≤ 0 ∧ (0 : Int) < 9223372036854775808)) (by omega) h0 h1 z0 z1 hd h
  subst hk
  cases hy
  rfl

set_option maxRecDepth 20000 in
theorem new_X0 (σ : zG) : zDoA 2 m_X0_init 7 420 [zP 0] [.inr (.inl (0, [.inl 0, .inl 0, .inr none, .inr none, .inr none, .inr none, .inr none, .inr none, .inr none]))] σ (fun sh' σ' => sh' = [.inr (.inl (0, [.inl 0, .inl 0, .inr (some 1), .inr (some 2), .inr (some 3), .inr (some 4), .inr (some 5), .inr (some 6), .inr (some 7)])), .inl (0, 60), .inl (0, 60), .inl (0, 60), .inl (0, 60), .inl (0, 60), .inl (0, 60), .inl (0, 60)] ∧ σ' = zr0 (zr0 (zr0 (zr0 (zr0 (zr0 (zr0 σ 1) 2) 3) 4) 5) 6) 7) := by
  refine zDoA.intro mk_X0_init rfl rfl (Nat.le_of_ble_eq_true rfl) ?_
  refine zRi.lift (fun X h => zRx.aload_n 0 rfl rfl dX0_init_0 h) ?_
  refine zRi.objInit (gt_t1 231 (by decide +kernel) rfl) oi_ok.1 oi_ok.2 (by decide) (Nat.le_of_ble_eq_true rfl) dX0_init_1 ?_
  refine zRi.lift (fun X h => zRx.aload_n 0 rfl rfl dX0_init_4 h) ?_
  refine zRi.lift (fun X h => zRx.bipush ⟨by decide, by decide⟩ rfl dX0_init_5 h) ?_
  refine zRi.newI (n := 60) rfl (by decide) (Nat.le_of_ble_eq_true rfl) (Nat.le_of_ble_eq_true rfl) (Nat.le_of_ble_eq_true rfl) (Nat.le_of_ble_eq_true rfl) dX0_init_7 ?_
  refine zRi.putR (a := 0) (b := 1) (j := 2) (fun _ _ _ h => h) ck_0 (by decide) rfl rfl (gt_t1 238 (by decide +kernel) rfl) rfl (fun _ => ⟨rfl, rfl⟩) rfl rfl dX0_init_9 ?_
  refine zRi.lift (fun X h => zRx.aload_n 0 rfl rfl dX0_init_12 h) ?_
  refine zRi.lift (fun X h => zRx.bipush ⟨by decide, by decide⟩ rfl dX0_init_13 h) ?_
  refine zRi.newI (n := 60) rfl (by decide) (Nat.le_of_ble_eq_true rfl) (Nat.le_of_ble_eq_true rfl) (Nat.le_of_ble_eq_true rfl) (Nat.le_of_ble_eq_true rfl) dX0_init_15 ?_
  refine zRi.putR (a := 0) (b := 2) (j := 3) (fun _ _ _ h => h) ck_0 (by decide) rfl rfl (gt_t2 1 (by decide +kernel) rfl) rfl (fun _ => ⟨rfl, rfl⟩) rfl rfl dX0_init_17 ?_
  refine zRi.lift (fun X h => zRx.aload_n 0 rfl rfl dX0_init_20 h) ?_
  refine zRi.lift (fun X h => zRx.bipush ⟨by decide, by decide⟩ rfl dX0_init_21 h) ?_
  refine zRi.newI (n := 60) rfl (by decide) (Nat.le_of_ble_eq_true rfl) (Nat.le_of_ble_eq_true rfl) (Nat.le_of_ble_eq_true rfl) (Nat.le_of_ble_eq_true rfl) dX0_init_23 ?_
  refine zRi.putR (a := 0) (b := 3) (j := 4) (fun _ _ _ h => h) ck_0 (by decide) rfl rfl (gt_t2 4 (by decide +kernel) rfl) rfl (fun _ => ⟨rfl, rfl⟩) rfl rfl dX0_init_25 ?_
  refine zRi.lift (fun X h => zRx.aload_n 0 rfl rfl dX0_init_28 h) ?_
  refine zRi.lift (fun X h => zRx.bipush ⟨by decide, by decide⟩ rfl dX0_init_29 h) ?_
  refine zRi.newI (n := 60) rfl (by decide) (Nat.le_of_ble_eq_true rfl) (Nat.le_of_ble_eq_true rfl) (Nat.le_of_ble_eq_true rfl) (Nat.le_of_ble_eq_true rfl) dX0_init_31 ?_
  refine zRi.putR (a := 0) (b := 4) (j := 5) (fun _ _ _ h => h) ck_0 (by decide) rfl rfl (gt_t2 7 (by decide +kernel) rfl) rfl (fun _ => ⟨rfl, rfl⟩) rfl rfl dX0_init_33 ?_
  refine zRi.lift (fun X h => zRx.aload_n 0 rfl rfl dX0_init_36 h) ?_
  refine zRi.lift (fun X h => zRx.bipush ⟨by decide, by decide⟩ rfl dX0_init_37 h) ?_
  refine zRi.newI (n := 60) rfl (by decide) (Nat.le_of_ble_eq_true rfl) (Nat.le_of_ble_eq_true rfl) (Nat.le_of_ble_eq_true rfl) (Nat.le_of_ble_eq_true rfl) dX0_init_39 ?_
  refine zRi.putR (a := 0) (b := 5) (j := 6) (fun _ _ _ h => h) ck_0 (by decide) rfl rfl (gt_t2 10 (by decide +kernel) rfl) rfl (fun _ => ⟨rfl, rfl⟩) rfl rfl dX0_init_41 ?_
  refine zRi.lift (fun X h => zRx.aload_n 0 rfl rfl dX0_init_44 h) ?_
  refine zRi.lift (fun X h => zRx.bipush ⟨by decide, by decide⟩ rfl dX0_init_45 h) ?_
  refine zRi.newI (n := 60) rfl (by decide) (Nat.le_of_ble_eq_true rfl) (Nat.le_of_ble_eq_true rfl) (Nat.le_of_ble_eq_true rfl) (Nat.le_of_ble_eq_true rfl) dX0_init_47 ?_
  refine zRi.putR (a := 0) (b := 6) (j := 7) (fun _ _ _ h => h) ck_0 (by decide) rfl rfl (gt_t2 13 (by decide +kernel) rfl) rfl (fun _ => ⟨rfl, rfl⟩) rfl rfl dX0_init_49 ?_
  refine zRi.lift (fun X h => zRx.aload_n 0 rfl rfl dX0_init_52 h) ?_
  refine zRi.lift (fun X h => zRx.bipush ⟨by decide, by decide⟩ rfl dX0_init_53 h) ?_
  refine zRi.newI (n := 60) rfl (by decide) (Nat.le_of_ble_eq_true rfl) (Nat.le_of_ble_eq_true rfl) (Nat.le_of_ble_eq_true rfl) (Nat.le_of_ble_eq_true rfl) dX0_init_55 ?_
  refine zRi.putR (a := 0) (b := 7) (j := 8) (fun _ _ _ h => h) ck_0 (by decide) rfl rfl (gt_t2 15 (by decide +kernel) rfl) rfl (fun _ => ⟨rfl, rfl⟩) rfl rfl dX0_init_57 ?_
  exact zRi.stop ⟨dX0_init_60, rfl, ⟨rfl, rfl⟩, rfl, rfl⟩

set_option maxRecDepth 20000 in
theorem new_X1 (σ : zG) : zDoA 2 m_X1_init 0 0 [zP 0] [.inr (.inl (1, [.inl 0]))] σ (fun sh' σ' => sh' = [.inr (.inl (1, [.inl 0]))] ∧ σ' = σ) := by
  refine zDoA.intro mk_X1_init rfl rfl (Nat.le_of_ble_eq_true rfl) ?_
  refine zRi.lift (fun X h => zRx.aload_n 0 rfl rfl dX1_init_0 h) ?_
  refine zRi.objInit (gt_t2 234 (by decide +kernel) rfl) oi_ok.1 oi_ok.2 (by decide) (Nat.le_of_ble_eq_true rfl) dX1_init_1 ?_
  exact zRi.stop ⟨dX1_init_4, rfl, ⟨rfl, rfl⟩, rfl, rfl⟩

set_option maxRecDepth 20000 in
theorem new_X2 (σ : zG) : zDoA 2 m_X2_init 3 272 [zP 0] [.inr (.inl (2, [.inl 3, .inl 0, .inl 0, .inl 0, .inr none, .inr none, .inr none]))] σ (fun sh' σ' => sh' = [.inr (.inl (2, [.inl 3, .inl 0, .inl 0, .inl 0, .inr (some 1), .inr (some 2), .inr (some 3)])), .inl (0, 8), .inl (0, 8), .inl (1, 256)] ∧ σ' = zr0 (zr0 (zr0 σ 1) 2) 3) := by
  refine zDoA.intro mk_X2_init rfl rfl (Nat.le_of_ble_eq_true rfl) ?_
  refine zRi.lift (fun X h => zRx.aload_n 0 rfl rfl dX2_init_0 h) ?_
  refine zRi.objInit (gt_t2 148 (by decide +kernel) rfl) oi_ok.1 oi_ok.2 (by decide) (Nat.le_of_ble_eq_true rfl) dX2_init_1 ?_
  refine zRi.lift (fun X h => zRx.aload_n 0 rfl rfl dX2_init_4 h) ?_
  refine zRi.lift (fun X h => zRx.bipush ⟨by decide, by decide⟩ rfl dX2_init_5 h) ?_
  refine zRi.newI (n := 8) rfl (by decide) (Nat.le_of_ble_eq_true rfl) (Nat.le_of_ble_eq_true rfl) (Nat.le_of_ble_eq_true rfl) (Nat.le_of_ble_eq_true rfl) dX2_init_7 ?_
  refine zRi.putR (a := 0) (b := 1) (j := 4) (fun _ _ _ h => h) ck_2 (by decide) rfl rfl (gt_t2 157 (by decide +kernel) rfl) rfl (fun _ => ⟨rfl, rfl⟩) rfl rfl dX2_init_9 ?_
  refine zRi.lift (fun X h => zRx.aload_n 0 rfl rfl dX2_init_12 h) ?_
  refine zRi.lift (fun X h => zRx.bipush ⟨by decide, by decide⟩ rfl dX2_init_13 h) ?_
  refine zRi.newI (n := 8) rfl (by decide) (Nat.le_of_ble_eq_true rfl) (Nat.le_of_ble_eq_true rfl) (Nat.le_of_ble_eq_true rfl) (Nat.le_of_ble_eq_true rfl) dX2_init_15 ?_
  refine zRi.putR (a := 0) (b := 2) (j := 5) (fun _ _ _ h => h) ck_2 (by decide) rfl rfl (gt_t2 159 (by decide +kernel) rfl) rfl (fun _ => ⟨rfl, rfl⟩) rfl rfl dX2_init_17 ?_
  refine zRi.lift (fun X h => zRx.aload_n 0 rfl rfl dX2_init_20 h) ?_
  refine zRi.lift (fun X h => zRx.sipush ⟨by decide, by decide⟩ rfl dX2_init_21 h) ?_
  refine zRi.newJ (n := 256) rfl (by decide) (Nat.le_of_ble_eq_true rfl) (Nat.le_of_ble_eq_true rfl) (Nat.le_of_ble_eq_true rfl) (Nat.le_of_ble_eq_true rfl) dX2_init_24 ?_
  refine zRi.putR (a := 0) (b := 3) (j := 6) (fun _ _ _ h => h) ck_2 (by decide) rfl rfl (gt_t2 160 (by decide +kernel) rfl) rfl (fun _ => ⟨rfl, rfl⟩) rfl rfl dX2_init_26 ?_
  exact zRi.stop ⟨dX2_init_29, rfl, ⟨rfl, rfl⟩, rfl, rfl⟩

set_option maxRecDepth 20000 in
theorem new_X6 (σ : zG) : zDoA 2 m_X6_init 4 160 [zP 0] [.inr (.inl (6, [.inl 0, .inl 0, .inr none, .inr none, .inr none, .inr none]))] σ (fun sh' σ' => sh' = [.inr (.inl (6, [.inl 0, .inl 0, .inr (some 1), .inr (some 2), .inr (some 3), .inr (some 4)])), .inl (0, 40), .inl (0, 40), .inl (0, 40), .inl (0, 40)] ∧ σ' = zr0 (zr0 (zr0 (zr0 σ 1) 2) 3) 4) := by
  refine zDoA.intro mk_X6_init rfl rfl (Nat.le_of_ble_eq_true rfl) ?_
  refine zRi.lift (fun X h => zRx.aload_n 0 rfl rfl dX6_init_0 h) ?_
  refine zRi.objInit (gt_t2 41 (by decide +kernel) rfl) oi_ok.1 oi_ok.2 (by decide) (Nat.le_of_ble_eq_true rfl) dX6_init_1 ?_
  refine zRi.lift (fun X h => zRx.aload_n 0 rfl rfl dX6_init_4 h) ?_
  refine zRi.lift (fun X h => zRx.bipush ⟨by decide, by decide⟩ rfl dX6_init_5 h) ?_
  refine zRi.newI (n := 40) rfl (by decide) (Nat.le_of_ble_eq_true rfl) (Nat.le_of_ble_eq_true rfl) (Nat.le_of_ble_eq_true rfl) (Nat.le_of_ble_eq_true rfl) dX6_init_7 ?_
  refine zRi.putR (a := 0) (b := 1) (j := 2) (fun _ _ _ h => h) ck_6 (by decide) rfl rfl (gt_t2 45 (by decide +kernel) rfl) rfl (fun _ => ⟨rfl, rfl⟩) rfl rfl dX6_init_9 ?_
  refine zRi.lift (fun X h => zRx.aload_n 0 rfl rfl dX6_init_12 h) ?_
  refine zRi.lift (fun X h => zRx.bipush ⟨by decide, by decide⟩ rfl dX6_init_13 h) ?_
  refine zRi.newI (n := 40) rfl (by decide) (Nat.le_of_ble_eq_true rfl) (Nat.le_of_ble_eq_true rfl) (Nat.le_of_ble_eq_true rfl) (Nat.le_of_ble_eq_true rfl) dX6_init_15 ?_
  refine zRi.putR (a := 0) (b := 2) (j := 3) (fun _ _ _ h => h) ck_6 (by decide) rfl rfl (gt_t2 46 (by decide +kernel) rfl) rfl (fun _ => ⟨rfl, rfl⟩) rfl rfl dX6_init_17 ?_
  refine zRi.lift (fun X h => zRx.aload_n 0 rfl rfl dX6_init_20 h) ?_
  refine zRi.lift (fun X h => zRx.bipush ⟨by decide, by decide⟩ rfl dX6_init_21 h) ?_
  refine zRi.newI (n := 40) rfl (by decide) (Nat.le_of_ble_eq_true rfl) (Nat.le_of_ble_eq_true rfl) (Nat.le_of_ble_eq_true rfl) (Nat.le_of_ble_eq_true rfl) dX6_init_23 ?_
  refine zRi.putR (a := 0) (b := 3) (j := 4) (fun _ _ _ h => h) ck_6 (by decide) rfl rfl (gt_t2 47 (by decide +kernel) rfl) rfl (fun _ => ⟨rfl, rfl⟩) rfl rfl dX6_init_25 ?_
  refine zRi.lift (fun X h => zRx.aload_n 0 rfl rfl dX6_init_28 h) ?_
  refine zRi.lift (fun X h => zRx.bipush ⟨by decide, by decide⟩ rfl dX6_init_29 h) ?_
  refine zRi.newI (n := 40) rfl (by decide) (Nat.le_of_ble_eq_true rfl) (Nat.le_of_ble_eq_true rfl) (Nat.le_of_ble_eq_true rfl) (Nat.le_of_ble_eq_true rfl) dX6_init_31 ?_
  refine zRi.putR (a := 0) (b := 4) (j := 5) (fun _ _ _ h => h) ck_6 (by decide) rfl rfl (gt_t2 48 (by decide +kernel) rfl) rfl (fun _ => ⟨rfl, rfl⟩) rfl rfl dX6_init_33 ?_
  exact zRi.stop ⟨dX6_init_36, rfl, ⟨rfl, rfl⟩, rfl, rfl⟩

set_option maxRecDepth 20000 in
theorem new_X8 (σ : zG) : zDoA 2 m_X8_init 5 25 [zP 0] [.inr (.inl (8, [.inl 0, .inr none, .inr none, .inr none, .inr none, .inl 0, .inr none]))] σ (fun sh' σ' => sh' = [.inr (.inl (8, [.inl 0, .inr (some 1), .inr (some 2), .inr (some 3), .inr (some 4), .inl 0, .inr (some 5)])), .inl (0, 5), .inl (0, 5), .inl (0, 5), .inl (0, 5), .inl (0, 5)] ∧ σ' = zr0 (zr0 (zr0 (zr0 (zr0 σ 1) 2) 3) 4) 5) := by
  refine zDoA.intro mk_X8_init rfl rfl (Nat.le_of_ble_eq_true rfl) ?_
  refine zRi.lift (fun X h => zRx.aload_n 0 rfl rfl dX8_init_0 h) ?_
  refine zRi.objInit (gt_t2 204 (by decide +kernel) rfl) oi_ok.1 oi_ok.2 (by decide) (Nat.le_of_ble_eq_true rfl) dX8_init_1 ?_
  refine zRi.lift (fun X h => zRx.aload_n 0 rfl rfl dX8_init_4 h) ?_
  refine zRi.lift (fun X h => zRx.iconst ⟨by decide, by decide⟩ dX8_init_5 h) ?_
  refine zRi.newI (n := 5) rfl (by decide) (Nat.le_of_ble_eq_true rfl) (Nat.le_of_ble_eq_true rfl) (Nat.le_of_ble_eq_true rfl) (Nat.le_of_ble_eq_true rfl) dX8_init_6 ?_
  refine zRi.putR (a := 0) (b := 1) (j := 1) (fun _ _ _ h => h) ck_8 (by decide) rfl rfl (gt_t2 206 (by decide +kernel) rfl) rfl (fun _ => ⟨rfl, rfl⟩) rfl rfl dX8_init_8 ?_
  refine zRi.lift (fun X h => zRx.aload_n 0 rfl rfl dX8_init_11 h) ?_
  refine zRi.lift (fun X h => zRx.iconst ⟨by decide, by decide⟩ dX8_init_12 h) ?_
  refine zRi.newI (n := 5) rfl (by decide) (Nat.le_of_ble_eq_true rfl) (Nat.le_of_ble_eq_true rfl) (Nat.le_of_ble_eq_true rfl) (Nat.le_of_ble_eq_true rfl) dX8_init_13 ?_
  refine zRi.putR (a := 0) (b := 2) (j := 2) (fun _ _ _ h => h) ck_8 (by decide) rfl rfl (gt_t2 207 (by decide +kernel) rfl) rfl (fun _ => ⟨rfl, rfl⟩) rfl rfl dX8_init_15 ?_
  refine zRi.lift (fun X h => zRx.aload_n 0 rfl rfl dX8_init_18 h) ?_
  refine zRi.lift (fun X h => zRx.iconst ⟨by decide, by decide⟩ dX8_init_19 h) ?_
  refine zRi.newI (n := 5) rfl (by decide) (Nat.le_of_ble_eq_true rfl) (Nat.le_of_ble_eq_true rfl) (Nat.le_of_ble_eq_true rfl) (Nat.le_of_ble_eq_true rfl) dX8_init_20 ?_
  refine zRi.putR (a := 0) (b := 3) (j := 3) (fun _ _ _ h => h) ck_8 (by decide) rfl rfl (gt_t2 208 (by decide +kernel) rfl) rfl (fun _ => ⟨rfl, rfl⟩) rfl rfl dX8_init_22 ?_
  refine zRi.lift (fun X h => zRx.aload_n 0 rfl rfl dX8_init_25 h) ?_
  refine zRi.lift (fun X h => zRx.iconst ⟨by decide, by decide⟩ dX8_init_26 h) ?_
  refine zRi.newI (n := 5) rfl (by decide) (Nat.le_of_ble_eq_true rfl) (Nat.le_of_ble_eq_true rfl) (Nat.le_of_ble_eq_true rfl) (Nat.le_of_ble_eq_true rfl) dX8_init_27 ?_
  refine zRi.putR (a := 0) (b := 4) (j := 4) (fun _ _ _ h => h) ck_8 (by decide) rfl rfl (gt_t2 209 (by decide +kernel) rfl) rfl (fun _ => ⟨rfl, rfl⟩) rfl rfl dX8_init_29 ?_
  refine zRi.lift (fun X h => zRx.aload_n 0 rfl rfl dX8_init_32 h) ?_
  refine zRi.lift (fun X h => zRx.iconst ⟨by decide, by decide⟩ dX8_init_33 h) ?_
  refine zRi.newI (n := 5) rfl (by decide) (Nat.le_of_ble_eq_true rfl) (Nat.le_of_ble_eq_true rfl) (Nat.le_of_ble_eq_true rfl) (Nat.le_of_ble_eq_true rfl) dX8_init_34 ?_
  refine zRi.putR (a := 0) (b := 5) (j := 6) (fun _ _ _ h => h) ck_8 (by decide) rfl rfl (gt_t2 212 (by decide +kernel) rfl) rfl (fun _ => ⟨rfl, rfl⟩) rfl rfl dX8_init_36 ?_
  exact zRi.stop ⟨dX8_init_39, rfl, ⟨rfl, rfl⟩, rfl, rfl⟩

set_option maxRecDepth 20000 in
theorem new_X10 (σ : zG) : zDoA 2 m_X10_init 5 61 [zP 0] [.inr (.inl (10, [.inr none, .inr none, .inr none, .inr none, .inr none]))] σ (fun sh' σ' => sh' = [.inr (.inl (10, [.inr (some 1), .inr (some 2), .inr (some 3), .inr (some 4), .inr (some 5)])), .inl (0, 12), .inl (0, 12), .inl (0, 12), .inl (0, 12), .inl (0, 13)] ∧ σ' = zr0 (zr0 (zr0 (zr0 (zr0 σ 1) 2) 3) 4) 5) := by
  refine zDoA.intro mk_X10_init rfl rfl (Nat.le_of_ble_eq_true rfl) ?_
  refine zRi.lift (fun X h => zRx.aload_n 0 rfl rfl dX10_init_0 h) ?_
  refine zRi.objInit (gt_t2 182 (by decide +kernel) rfl) oi_ok.1 oi_ok.2 (by decide) (Nat.le_of_ble_eq_true rfl) dX10_init_1 ?_
  refine zRi.lift (fun X h => zRx.aload_n 0 rfl rfl dX10_init_4 h) ?_
  refine zRi.lift (fun X h => zRx.bipush ⟨by decide, by decide⟩ rfl dX10_init_5 h) ?_
  refine zRi.newI (n := 12) rfl (by decide) (Nat.le_of_ble_eq_true rfl) (Nat.le_of_ble_eq_true rfl) (Nat.le_of_ble_eq_true rfl) (Nat.le_of_ble_eq_true rfl) dX10_init_7 ?_
  refine zRi.putR (a := 0) (b := 1) (j := 0) (fun _ _ _ h => h) ck_10 (by decide) rfl rfl (gt_t2 183 (by decide +kernel) rfl) rfl (fun _ => ⟨rfl, rfl⟩) rfl rfl dX10_init_9 ?_
  refine zRi.lift (fun X h => zRx.aload_n 0 rfl rfl dX10_init_12 h) ?_
  refine zRi.lift (fun X h => zRx.bipush ⟨by decide, by decide⟩ rfl dX10_init_13 h) ?_
  refine zRi.newI (n := 12) rfl (by decide) (Nat.le_of_ble_eq_true rfl) (Nat.le_of_ble_eq_true rfl) (Nat.le_of_ble_eq_true rfl) (Nat.le_of_ble_eq_true rfl) dX10_init_15 ?_
  refine zRi.putR (a := 0) (b := 2) (j := 1) (fun _ _ _ h => h) ck_10 (by decide) rfl rfl (gt_t2 184 (by decide +kernel) rfl) rfl (fun _ => ⟨rfl, rfl⟩) rfl rfl dX10_init_17 ?_
  refine zRi.lift (fun X h => zRx.aload_n 0 rfl rfl dX10_init_20 h) ?_
  refine zRi.lift (fun X h => zRx.bipush ⟨by decide, by decide⟩ rfl dX10_init_21 h) ?_
  refine zRi.newI (n := 12) rfl (by decide) (Nat.le_of_ble_eq_true rfl) (Nat.le_of_ble_eq_true rfl) (Nat.le_of_ble_eq_true rfl) (Nat.le_of_ble_eq_true rfl) dX10_init_23 ?_
  refine zRi.putR (a := 0) (b := 3) (j := 2) (fun _ _ _ h => h) ck_10 (by decide) rfl rfl (gt_t2 185 (by decide +kernel) rfl) rfl (fun _ => ⟨rfl, rfl⟩) rfl rfl dX10_init_25 ?_
  refine zRi.lift (fun X h => zRx.aload_n 0 rfl rfl dX10_init_28 h) ?_
  refine zRi.lift (fun X h => zRx.bipush ⟨by decide, by decide⟩ rfl dX10_init_29 h) ?_
  refine zRi.newI (n := 12) rfl (by decide) (Nat.le_of_ble_eq_true rfl) (Nat.le_of_ble_eq_true rfl) (Nat.le_of_ble_eq_true rfl) (Nat.le_of_ble_eq_true rfl) dX10_init_31 ?_
  refine zRi.putR (a := 0) (b := 4) (j := 3) (fun _ _ _ h => h) ck_10 (by decide) rfl rfl (gt_t2 186 (by decide +kernel) rfl) rfl (fun _ => ⟨rfl, rfl⟩) rfl rfl dX10_init_33 ?_
  refine zRi.lift (fun X h => zRx.aload_n 0 rfl rfl dX10_init_36 h) ?_
  refine zRi.lift (fun X h => zRx.bipush ⟨by decide, by decide⟩ rfl dX10_init_37 h) ?_
  refine zRi.newI (n := 13) rfl (by decide) (Nat.le_of_ble_eq_true rfl) (Nat.le_of_ble_eq_true rfl) (Nat.le_of_ble_eq_true rfl) (Nat.le_of_ble_eq_true rfl) dX10_init_39 ?_
  refine zRi.putR (a := 0) (b := 5) (j := 4) (fun _ _ _ h => h) ck_10 (by decide) rfl rfl (gt_t2 187 (by decide +kernel) rfl) rfl (fun _ => ⟨rfl, rfl⟩) rfl rfl dX10_init_41 ?_
  exact zRi.stop ⟨dX10_init_44, rfl, ⟨rfl, rfl⟩, rfl, rfl⟩
