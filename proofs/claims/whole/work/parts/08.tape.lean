/-! the tape, the dice, the knots -/
section ZLW
variable {sh : List zSh} {al : zAl} {d : Nat} {Y : zMI} {pc : Nat} {ls : List (Nat × zV)} {st : List zV} {σ : zG} {X : zX}
theorem zRx.ldcw {i : Nat} {n : Int} (hr : r32 n) (hw : Cond.constant Y.1.cls i (iv n) ∈ gt) (hd : decode Y.2.1 pc = .ok (.ldc_w i, 3)) (h : zRx al d Y sh (pc + 3) ls (.inl n :: st) σ X) : zRx al d Y sh pc ls st σ X := by
  intro p l e R s m args below meth c k cf sf Z hF hX H locs la hW hL hS
  exact lv_ldcw (v := iv n) hF.1.1 hF.1.2.1 hF.1.2.2.2.1 (hF.1.2.2.2.2 _ hw) hd (h p l e R s m args below meth c k cf sf Z hF hX H locs la hW hL ⟨hr, hS⟩)
end ZLW
theorem bushr8_0 (x : Int) : 0 ≤ bushr x 8 := by rw [bushr_8]; omega

def F_X7_put (σ : zG) (v : Int) : zG := zu (zu (zu (zu (zu (zu (zu (zu σ 2 (σ 1 1) (band (bushr v 24) 255)) 1 1 ((σ 1 1) + 1)) 2 ((σ 1 1) + 1) (band (bushr v 16) 255)) 1 1 (((σ 1 1) + 1) + 1)) 2 (((σ 1 1) + 1) + 1) (band (bushr v 8) 255)) 1 1 ((((σ 1 1) + 1) + 1) + 1)) 2 ((((σ 1 1) + 1) + 1) + 1) (band (bushr v 0) 255)) 1 1 (((((σ 1 1) + 1) + 1) + 1) + 1)
set_option maxRecDepth 20000 in
theorem does_X7_put (σ : zG) (v : Int) (h0 : 0 ≤ σ 1 1) (h1 : σ 1 1 + 4 ≤ 940) : zDo SC 0 m_X7_put [zP 1, .inl v] σ (zEq (none) (F_X7_put σ v)) := by
  refine zDo.intro mk_X7_put (Nat.le_of_ble_eq_true rfl) ?_
  refine zRx.bipush ⟨by decide, by decide⟩ rfl dX7_put_0 ?_
  refine zRx.istore_n (ls' := [(0, zP 1), (1, .inl v), (2, .inl 24)]) rfl rfl (by decide) dX7_put_2 ?_
  refine zRx.iload_n 2 rfl rfl dX7_put_3 ?_
  refine zRx.if_lt (tgt := 51) dX7_put_4 (by decide) (fun c4 => absurd c4 (by decide)) (fun _ => ?_)
  refine zRx.aload_n 0 rfl rfl dX7_put_7 ?_
  refine zRx.getIv (a := 1) (ji := 1) (v := σ 1 1) rfl fl_7_15 rfl rfl rfl dX7_put_8 ?_
  refine zRx.aload_n 0 rfl rfl dX7_put_11 ?_
  refine zRx.getR (a := 1) (b := 2) fl_7_9 rfl rfl dX7_put_12 ?_
  refine zRx.alen (n := 940) rfl (by decide) (by decide) dX7_put_15 ?_
  refine zRx.topI (b := 940) rfl ?_
  refine zRx.icmp_ge (tgt := 51) dX7_put_16 (by decide) (fun c16 => absurd c16 (by omega)) (fun c16 => ?_)
  refine zRx.aload_n 0 rfl rfl dX7_put_19 ?_
  refine zRx.getR (a := 1) (b := 2) fl_7_9 rfl rfl dX7_put_20 ?_
  refine zRx.aload_n 0 rfl rfl dX7_put_23 ?_
  refine zRx.getIv (a := 1) (ji := 1) (v := σ 1 1) rfl fl_7_15 rfl rfl rfl dX7_put_24 ?_
  refine zRx.iload_n 1 rfl rfl dX7_put_27 ?_
  refine zRx.iload_n 2 rfl rfl dX7_put_28 ?_
  refine zRx.iushr dX7_put_29 ?_
  refine zRx.sipush ⟨by decide, by decide⟩ rfl dX7_put_30 ?_
  refine zRx.iand dX7_put_33 ?_
  refine zRx.iast rfl (by omega) (by omega) dX7_put_34 ?_
  refine zRx.aload_n 0 rfl rfl dX7_put_35 ?_
  refine zRx.dup rfl dX7_put_36 ?_
  refine zRx.getIv (a := 1) (ji := 1) (v := σ 1 1) (zu_ne _ _ _ _ (by decide)) fl_7_15 rfl rfl rfl dX7_put_37 ?_
  refine zRx.iconst ⟨by decide, by decide⟩ dX7_put_40 ?_
  refine zRx.iadd ⟨by omega, by omega⟩ dX7_put_41 ?_
  refine zRx.putI (a := 1) (ji := 1) pl_7_15 rfl rfl rfl dX7_put_42 ?_
  refine zRx.iinc (n := -8) (ls' := [(0, zP 1), (1, .inl v), (2, .inl 16)]) 2 rfl ⟨by decide, by decide⟩ rfl (by decide) dX7_put_45 ?_
  refine zRx.goto (tgt := 3) dX7_put_48 (by decide) ?_
  refine zRx.iload_n 2 rfl rfl dX7_put_3 ?_
  refine zRx.if_lt (tgt := 51) dX7_put_4 (by decide) (fun c4 => absurd c4 (by decide)) (fun _ => ?_)
  refine zRx.aload_n 0 rfl rfl dX7_put_7 ?_
  refine zRx.getIv (a := 1) (ji := 1) (v := (σ 1 1) + 1) (zu_at _ _ _ _) fl_7_15 rfl rfl rfl dX7_put_8 ?_
  refine zRx.aload_n 0 rfl rfl dX7_put_11 ?_
  refine zRx.getR (a := 1) (b := 2) fl_7_9 rfl rfl dX7_put_12 ?_
  refine zRx.alen (n := 940) rfl (by decide) (by decide) dX7_put_15 ?_
  refine zRx.topI (b := 940) rfl ?_
  refine zRx.icmp_ge (tgt := 51) dX7_put_16 (by decide) (fun c16 => absurd c16 (by omega)) (fun c16 => ?_)
  refine zRx.aload_n 0 rfl rfl dX7_put_19 ?_
  refine zRx.getR (a := 1) (b := 2) fl_7_9 rfl rfl dX7_put_20 ?_
  refine zRx.aload_n 0 rfl rfl dX7_put_23 ?_
  refine zRx.getIv (a := 1) (ji := 1) (v := (σ 1 1) + 1) (zu_at _ _ _ _) fl_7_15 rfl rfl rfl dX7_put_24 ?_
  refine zRx.iload_n 1 rfl rfl dX7_put_27 ?_
  refine zRx.iload_n 2 rfl rfl dX7_put_28 ?_
  refine zRx.iushr dX7_put_29 ?_
  refine zRx.sipush ⟨by decide, by decide⟩ rfl dX7_put_30 ?_
  refine zRx.iand dX7_put_33 ?_
  refine zRx.iast rfl (by omega) (by omega) dX7_put_34 ?_
  refine zRx.aload_n 0 rfl rfl dX7_put_35 ?_
  refine zRx.dup rfl dX7_put_36 ?_
  refine zRx.getIv (a := 1) (ji := 1) (v := (σ 1 1) + 1) ((zu_ne _ _ _ _ (by decide)).trans (zu_at _ _ _ _)) fl_7_15 rfl rfl rfl dX7_put_37 ?_
  refine zRx.iconst ⟨by decide, by decide⟩ dX7_put_40 ?_
  refine zRx.iadd ⟨by omega, by omega⟩ dX7_put_41 ?_
  refine zRx.putI (a := 1) (ji := 1) pl_7_15 rfl rfl rfl dX7_put_42 ?_
  refine zRx.iinc (n := -8) (ls' := [(0, zP 1), (1, .inl v), (2, .inl 8)]) 2 rfl ⟨by decide, by decide⟩ rfl (by decide) dX7_put_45 ?_
  refine zRx.goto (tgt := 3) dX7_put_48 (by decide) ?_
  refine zRx.iload_n 2 rfl rfl dX7_put_3 ?_
  refine zRx.if_lt (tgt := 51) dX7_put_4 (by decide) (fun c4 => absurd c4 (by decide)) (fun _ => ?_)
  refine zRx.aload_n 0 rfl rfl dX7_put_7 ?_
  refine zRx.getIv (a := 1) (ji := 1) (v := ((σ 1 1) + 1) + 1) (zu_at _ _ _ _) fl_7_15 rfl rfl rfl dX7_put_8 ?_
  refine zRx.aload_n 0 rfl rfl dX7_put_11 ?_
  refine zRx.getR (a := 1) (b := 2) fl_7_9 rfl rfl dX7_put_12 ?_
  refine zRx.alen (n := 940) rfl (by decide) (by decide) dX7_put_15 ?_
  refine zRx.topI (b := 940) rfl ?_
  refine zRx.icmp_ge (tgt := 51) dX7_put_16 (by decide) (fun c16 => absurd c16 (by omega)) (fun c16 => ?_)
  refine zRx.aload_n 0 rfl rfl dX7_put_19 ?_
  refine zRx.getR (a := 1) (b := 2) fl_7_9 rfl rfl dX7_put_20 ?_
  refine zRx.aload_n 0 rfl rfl dX7_put_23 ?_
  refine zRx.getIv (a := 1) (ji := 1) (v := ((σ 1 1) + 1) + 1) (zu_at _ _ _ _) fl_7_15 rfl rfl rfl dX7_put_24 ?_
  refine zRx.iload_n 1 rfl rfl dX7_put_27 ?_
  refine zRx.iload_n 2 rfl rfl dX7_put_28 ?_
  refine zRx.iushr dX7_put_29 ?_
  refine zRx.sipush ⟨by decide, by decide⟩ rfl dX7_put_30 ?_
  refine zRx.iand dX7_put_33 ?_
  refine zRx.iast rfl (by omega) (by omega) dX7_put_34 ?_
  refine zRx.aload_n 0 rfl rfl dX7_put_35 ?_
  refine zRx.dup rfl dX7_put_36 ?_
  refine zRx.getIv (a := 1) (ji := 1) (v := ((σ 1 1) + 1) + 1) ((zu_ne _ _ _ _ (by decide)).trans (zu_at _ _ _ _)) fl_7_15 rfl rfl rfl dX7_put_37 ?_
  refine zRx.iconst ⟨by decide, by decide⟩ dX7_put_40 ?_
  refine zRx.iadd ⟨by omega, by omega⟩ dX7_put_41 ?_
  refine zRx.putI (a := 1) (ji := 1) pl_7_15 rfl rfl rfl dX7_put_42 ?_
  refine zRx.iinc (n := -8) (ls' := [(0, zP 1), (1, .inl v), (2, .inl 0)]) 2 rfl ⟨by decide, by decide⟩ rfl (by decide) dX7_put_45 ?_
  refine zRx.goto (tgt := 3) dX7_put_48 (by decide) ?_
  refine zRx.iload_n 2 rfl rfl dX7_put_3 ?_
  refine zRx.if_lt (tgt := 51) dX7_put_4 (by decide) (fun c4 => absurd c4 (by decide)) (fun _ => ?_)
  refine zRx.aload_n 0 rfl rfl dX7_put_7 ?_
  refine zRx.getIv (a := 1) (ji := 1) (v := (((σ 1 1) + 1) + 1) + 1) (zu_at _ _ _ _) fl_7_15 rfl rfl rfl dX7_put_8 ?_
  refine zRx.aload_n 0 rfl rfl dX7_put_11 ?_
  refine zRx.getR (a := 1) (b := 2) fl_7_9 rfl rfl dX7_put_12 ?_
  refine zRx.alen (n := 940) rfl (by decide) (by decide) dX7_put_15 ?_
  refine zRx.topI (b := 940) rfl ?_
  refine zRx.icmp_ge (tgt := 51) dX7_put_16 (by decide) (fun c16 => absurd c16 (by omega)) (fun c16 => ?_)
  refine zRx.aload_n 0 rfl rfl dX7_put_19 ?_
  refine zRx.getR (a := 1) (b := 2) fl_7_9 rfl rfl dX7_put_20 ?_
  refine zRx.aload_n 0 rfl rfl dX7_put_23 ?_
  refine zRx.getIv (a := 1) (ji := 1) (v := (((σ 1 1) + 1) + 1) + 1) (zu_at _ _ _ _) fl_7_15 rfl rfl rfl dX7_put_24 ?_
  refine zRx.iload_n 1 rfl rfl dX7_put_27 ?_
  refine zRx.iload_n 2 rfl rfl dX7_put_28 ?_
  refine zRx.iushr dX7_put_29 ?_
  refine zRx.sipush ⟨by decide, by decide⟩ rfl dX7_put_30 ?_
  refine zRx.iand dX7_put_33 ?_
  refine zRx.iast rfl (by omega) (by omega) dX7_put_34 ?_
  refine zRx.aload_n 0 rfl rfl dX7_put_35 ?_
  refine zRx.dup rfl dX7_put_36 ?_
  refine zRx.getIv (a := 1) (ji := 1) (v := (((σ 1 1) + 1) + 1) + 1) ((zu_ne _ _ _ _ (by decide)).trans (zu_at _ _ _ _)) fl_7_15 rfl rfl rfl dX7_put_37 ?_
  refine zRx.iconst ⟨by decide, by decide⟩ dX7_put_40 ?_
  refine zRx.iadd ⟨by omega, by omega⟩ dX7_put_41 ?_
  refine zRx.putI (a := 1) (ji := 1) pl_7_15 rfl rfl rfl dX7_put_42 ?_
  refine zRx.iinc (n := -8) (ls' := [(0, zP 1), (1, .inl v), (2, .inl (-8))]) 2 rfl ⟨by decide, by decide⟩ rfl (by decide) dX7_put_45 ?_
  refine zRx.goto (tgt := 3) dX7_put_48 (by decide) ?_
  refine zRx.iload_n 2 rfl rfl dX7_put_3 ?_
  refine zRx.if_lt (tgt := 51) dX7_put_4 (by decide) (fun _ => ?_) (fun c4 => absurd c4 (by decide))
  exact zR.ret rfl dX7_put_51 ⟨rfl, rfl⟩

def F_X12_four (σ : zG) (v : Int) : zG := zu (zu (zu (zu (zu (zu (zu (zu σ 1 (σ 0 2) (wbyte (bshr v 24))) 0 2 ((σ 0 2) + 1)) 1 ((σ 0 2) + 1) (wbyte (bshr v 16))) 0 2 (((σ 0 2) + 1) + 1)) 1 (((σ 0 2) + 1) + 1) (wbyte (bshr v 8))) 0 2 ((((σ 0 2) + 1) + 1) + 1)) 1 ((((σ 0 2) + 1) + 1) + 1) (wbyte (bshr v 0))) 0 2 (((((σ 0 2) + 1) + 1) + 1) + 1)
set_option maxRecDepth 20000 in
theorem does_X12_four (σ : zG) (v : Int) (h0 : 0 ≤ σ 0 2) (h1 : σ 0 2 + 4 ≤ 940) : zDo SM 0 m_X12_four [zP 0, .inl v] σ (zEq (none) (F_X12_four σ v)) := by
  refine zDo.intro mk_X12_four (Nat.le_of_ble_eq_true rfl) ?_
  refine zRx.bipush ⟨by decide, by decide⟩ rfl dX12_four_0 ?_
  refine zRx.istore_n (ls' := [(0, zP 0), (1, .inl v), (2, .inl 24)]) rfl rfl (by decide) dX12_four_2 ?_
  refine zRx.iload_n 2 rfl rfl dX12_four_3 ?_
  refine zRx.if_lt (tgt := 36) dX12_four_4 (by decide) (fun c4 => absurd c4 (by decide)) (fun _ => ?_)
  refine zRx.aload_n 0 rfl rfl dX12_four_7 ?_
  refine zRx.getR (a := 0) (b := 1) fl_12_14 rfl rfl dX12_four_8 ?_
  refine zRx.aload_n 0 rfl rfl dX12_four_11 ?_
  refine zRx.getIv (a := 0) (ji := 2) (v := σ 0 2) rfl fl_12_7 rfl rfl rfl dX12_four_12 ?_
  refine zRx.iload_n 1 rfl rfl dX12_four_15 ?_
  refine zRx.iload_n 2 rfl rfl dX12_four_16 ?_
  refine zRx.ishr dX12_four_17 ?_
  refine zRx.i2b dX12_four_18 ?_
  refine zRx.bast rfl (by omega) (by omega) (wbyte_r _) dX12_four_19 ?_
  refine zRx.aload_n 0 rfl rfl dX12_four_20 ?_
  refine zRx.dup rfl dX12_four_21 ?_
  refine zRx.getIv (a := 0) (ji := 2) (v := σ 0 2) (zu_ne _ _ _ _ (by decide)) fl_12_7 rfl rfl rfl dX12_four_22 ?_
  refine zRx.iconst ⟨by decide, by decide⟩ dX12_four_25 ?_
  refine zRx.iadd ⟨by omega, by omega⟩ dX12_four_26 ?_
  refine zRx.putI (a := 0) (ji := 2) pl_12_7 rfl rfl rfl dX12_four_27 ?_
  refine zRx.iinc (n := -8) (ls' := [(0, zP 0), (1, .inl v), (2, .inl 16)]) 2 rfl ⟨by decide, by decide⟩ rfl (by decide) dX12_four_30 ?_
  refine zRx.goto (tgt := 3) dX12_four_33 (by decide) ?_
  refine zRx.iload_n 2 rfl rfl dX12_four_3 ?_
  refine zRx.if_lt (tgt := 36) dX12_four_4 (by decide) (fun c4 => absurd c4 (by decide)) (fun _ => ?_)
  refine zRx.aload_n 0 rfl rfl dX12_four_7 ?_
  refine zRx.getR (a := 0) (b := 1) fl_12_14 rfl rfl dX12_four_8 ?_
  refine zRx.aload_n 0 rfl rfl dX12_four_11 ?_
  refine zRx.getIv (a := 0) (ji := 2) (v := (σ 0 2) + 1) (zu_at _ _ _ _) fl_12_7 rfl rfl rfl dX12_four_12 ?_
  refine zRx.iload_n 1 rfl rfl dX12_four_15 ?_
  refine zRx.iload_n 2 rfl rfl dX12_four_16 ?_
  refine zRx.ishr dX12_four_17 ?_
  refine zRx.i2b dX12_four_18 ?_
  refine zRx.bast rfl (by omega) (by omega) (wbyte_r _) dX12_four_19 ?_
  refine zRx.aload_n 0 rfl rfl dX12_four_20 ?_
  refine zRx.dup rfl dX12_four_21 ?_
  refine zRx.getIv (a := 0) (ji := 2) (v := (σ 0 2) + 1) ((zu_ne _ _ _ _ (by decide)).trans (zu_at _ _ _ _)) fl_12_7 rfl rfl rfl dX12_four_22 ?_
  refine zRx.iconst ⟨by decide, by decide⟩ dX12_four_25 ?_
  refine zRx.iadd ⟨by omega, by omega⟩ dX12_four_26 ?_
  refine zRx.putI (a := 0) (ji := 2) pl_12_7 rfl rfl rfl dX12_four_27 ?_
  refine zRx.iinc (n := -8) (ls' := [(0, zP 0), (1, .inl v), (2, .inl 8)]) 2 rfl ⟨by decide, by decide⟩ rfl (by decide) dX12_four_30 ?_
  refine zRx.goto (tgt := 3) dX12_four_33 (by decide) ?_
  refine zRx.iload_n 2 rfl rfl dX12_four_3 ?_
  refine zRx.if_lt (tgt := 36) dX12_four_4 (by decide) (fun c4 => absurd c4 (by decide)) (fun _ => ?_)
  refine zRx.aload_n 0 rfl rfl dX12_four_7 ?_
  refine zRx.getR (a := 0) (b := 1) fl_12_14 rfl rfl dX12_four_8 ?_
  refine zRx.aload_n 0 rfl rfl dX12_four_11 ?_
  refine zRx.getIv (a := 0) (ji := 2) (v := ((σ 0 2) + 1) + 1) (zu_at _ _ _ _) fl_12_7 rfl rfl rfl dX12_four_12 ?_
  refine zRx.iload_n 1 rfl rfl dX12_four_15 ?_
  refine zRx.iload_n 2 rfl rfl dX12_four_16 ?_
  refine zRx.ishr dX12_four_17 ?_
  refine zRx.i2b dX12_four_18 ?_
  refine zRx.bast rfl (by omega) (by omega) (wbyte_r _) dX12_four_19 ?_
  refine zRx.aload_n 0 rfl rfl dX12_four_20 ?_
  refine zRx.dup rfl dX12_four_21 ?_
  refine zRx.getIv (a := 0) (ji := 2) (v := ((σ 0 2) + 1) + 1) ((zu_ne _ _ _ _ (by decide)).trans (zu_at _ _ _ _)) fl_12_7 rfl rfl rfl dX12_four_22 ?_
  refine zRx.iconst ⟨by decide, by decide⟩ dX12_four_25 ?_
  refine zRx.iadd ⟨by omega, by omega⟩ dX12_four_26 ?_
  refine zRx.putI (a := 0) (ji := 2) pl_12_7 rfl rfl rfl dX12_four_27 ?_
  refine zRx.iinc (n := -8) (ls' := [(0, zP 0), (1, .inl v), (2, .inl 0)]) 2 rfl ⟨by decide, by decide⟩ rfl (by decide) dX12_four_30 ?_
  refine zRx.goto (tgt := 3) dX12_four_33 (by decide) ?_
  refine zRx.iload_n 2 rfl rfl dX12_four_3 ?_
  refine zRx.if_lt (tgt := 36) dX12_four_4 (by decide) (fun c4 => absurd c4 (by decide)) (fun _ => ?_)
  refine zRx.aload_n 0 rfl rfl dX12_four_7 ?_
  refine zRx.getR (a := 0) (b := 1) fl_12_14 rfl rfl dX12_four_8 ?_
  refine zRx.aload_n 0 rfl rfl dX12_four_11 ?_
  refine zRx.getIv (a := 0) (ji := 2) (v := (((σ 0 2) + 1) + 1) + 1) (zu_at _ _ _ _) fl_12_7 rfl rfl rfl dX12_four_12 ?_
  refine zRx.iload_n 1 rfl rfl dX12_four_15 ?_
  refine zRx.iload_n 2 rfl rfl dX12_four_16 ?_
  refine zRx.ishr dX12_four_17 ?_
  refine zRx.i2b dX12_four_18 ?_
  refine zRx.bast rfl (by omega) (by omega) (wbyte_r _) dX12_four_19 ?_
  refine zRx.aload_n 0 rfl rfl dX12_four_20 ?_
  refine zRx.dup rfl dX12_four_21 ?_
  refine zRx.getIv (a := 0) (ji := 2) (v := (((σ 0 2) + 1) + 1) + 1) ((zu_ne _ _ _ _ (by decide)).trans (zu_at _ _ _ _)) fl_12_7 rfl rfl rfl dX12_four_22 ?_
  refine zRx.iconst ⟨by decide, by decide⟩ dX12_four_25 ?_
  refine zRx.iadd ⟨by omega, by omega⟩ dX12_four_26 ?_
  refine zRx.putI (a := 0) (ji := 2) pl_12_7 rfl rfl rfl dX12_four_27 ?_
  refine zRx.iinc (n := -8) (ls' := [(0, zP 0), (1, .inl v), (2, .inl (-8))]) 2 rfl ⟨by decide, by decide⟩ rfl (by decide) dX12_four_30 ?_
  refine zRx.goto (tgt := 3) dX12_four_33 (by decide) ?_
  refine zRx.iload_n 2 rfl rfl dX12_four_3 ?_
  refine zRx.if_lt (tgt := 36) dX12_four_4 (by decide) (fun _ => ?_) (fun c4 => absurd c4 (by decide))
  exact zR.ret rfl dX12_four_36 ⟨rfl, rfl⟩

def V_X1_draw (σ : zG) (n : Int) : Int := if n ≤ 0 then 0 else ((bushr (w32 ((w32 ((σ 97 0) * 1103515245)) + 12345)) 8) % n)
def F_X1_draw (σ : zG) (n : Int) : zG := zu σ 97 0 (w32 ((w32 ((σ 97 0) * 1103515245)) + 12345))
set_option maxRecDepth 20000 in
theorem does_X1_draw (σ : zG) (n : Int)  : zDo SC 0 m_X1_draw [zP 97, .inl n] σ (zEq (some (.inl (V_X1_draw σ n))) (F_X1_draw σ n)) := by
  refine zDo.intro mk_X1_draw (Nat.le_of_ble_eq_true rfl) ?_
  refine zRx.aload_n 0 rfl rfl dX1_draw_0 ?_
  refine zRx.aload_n 0 rfl rfl dX1_draw_1 ?_
  refine zRx.getIv (a := 97) (ji := 0) (v := σ 97 0) rfl fl_1_7 rfl rfl rfl dX1_draw_2 ?_
  refine zRx.ldc ⟨by decide, by decide⟩ kc_1_13 dX1_draw_5 ?_
  refine zRx.imulW dX1_draw_7 ?_
  refine zRx.sipush ⟨by decide, by decide⟩ rfl dX1_draw_8 ?_
  refine zRx.iaddW dX1_draw_11 ?_
  refine zRx.putI (a := 97) (ji := 0) pl_1_7 rfl rfl rfl dX1_draw_12 ?_
  refine zRx.iload_n 1 rfl rfl dX1_draw_15 ?_
  refine zRx.if_le (tgt := 31) dX1_draw_16 (by decide) (fun c16 => ?_) (fun c16 => ?_)
  · refine zRx.iconst ⟨by decide, by decide⟩ dX1_draw_31 ?_
    exact zR.iret rfl dX1_draw_32 ⟨by unfold V_X1_draw; rw [if_pos c16], rfl⟩
  · refine zRx.aload_n 0 rfl rfl dX1_draw_19 ?_
    refine zRx.getIv (a := 97) (ji := 0) (v := w32 ((w32 ((σ 97 0) * 1103515245)) + 12345)) (zu_at _ _ _ _) fl_1_7 rfl rfl rfl dX1_draw_20 ?_
    refine zRx.bipush ⟨by decide, by decide⟩ rfl dX1_draw_23 ?_
    refine zRx.iushr dX1_draw_25 ?_
    refine zRx.iload_n 1 rfl rfl dX1_draw_26 ?_
    refine zRx.irem (bushr8_0 _) (by omega) dX1_draw_27 ?_
    refine zRx.goto (tgt := 32) dX1_draw_28 (by decide) ?_
    exact zR.iret rfl dX1_draw_32 ⟨by unfold V_X1_draw; rw [if_neg (Int.not_le.mpr c16)], rfl⟩

def V_X12_draw (σ : zG) (n : Int) : Int := (bushr (w32 ((w32 ((σ 0 27) * 1103515245)) + 12345)) 8) % n
def F_X12_draw (σ : zG) (n : Int) : zG := zu σ 0 27 (w32 ((w32 ((σ 0 27) * 1103515245)) + 12345))
set_option maxRecDepth 20000 in
theorem does_X12_draw (σ : zG) (n : Int) (h0 : 0 < n) : zDo SM 0 m_X12_draw [zP 0, .inl n] σ (zEq (some (.inl (V_X12_draw σ n))) (F_X12_draw σ n)) := by
  refine zDo.intro mk_X12_draw (Nat.le_of_ble_eq_true rfl) ?_
  refine zRx.aload_n 0 rfl rfl dX12_draw_0 ?_
  refine zRx.aload_n 0 rfl rfl dX12_draw_1 ?_
  refine zRx.getIv (a := 0) (ji := 27) (v := σ 0 27) rfl fl_12_347 rfl rfl rfl dX12_draw_2 ?_
  refine zRx.ldcw ⟨by decide, by decide⟩ kc_12_350 dX12_draw_5 ?_
  refine zRx.imulW dX12_draw_8 ?_
  refine zRx.sipush ⟨by decide, by decide⟩ rfl dX12_draw_9 ?_
  refine zRx.iaddW dX12_draw_12 ?_
  refine zRx.putI (a := 0) (ji := 27) pl_12_347 rfl rfl rfl dX12_draw_13 ?_
  refine zRx.aload_n 0 rfl rfl dX12_draw_16 ?_
  refine zRx.getIv (a := 0) (ji := 27) (v := w32 ((w32 ((σ 0 27) * 1103515245)) + 12345)) (zu_at _ _ _ _) fl_12_347 rfl rfl rfl dX12_draw_17 ?_
  refine zRx.bipush ⟨by decide, by decide⟩ rfl dX12_draw_20 ?_
  refine zRx.iushr dX12_draw_22 ?_
  refine zRx.iload_n 1 rfl rfl dX12_draw_23 ?_
  refine zRx.irem (bushr8_0 _) (by omega) dX12_draw_24 ?_
  exact zR.iret rfl dX12_draw_25 ⟨rfl, rfl⟩

def V_X11_cutUp (a b : Int) : Int := if b ≤ 0 then 0 else (((a + b) - 1) / b)
set_option maxRecDepth 20000 in
theorem does_X11_cutUp (σ : zG) (a b : Int) (sh : List zSh) (ha : 0 ≤ a) (hb : 0 ≤ b) (hc : a + b < 2147483648) : zDo sh 0 m_X11_cutUp [.inl a, .inl b] σ (zEq (some (.inl (V_X11_cutUp a b))) σ) := by
  refine zDo.intro mk_X11_cutUp (Nat.le_of_ble_eq_true rfl) ?_
  refine zRx.iload_n 1 rfl rfl dX11_cutUp_0 ?_
  refine zRx.if_le (tgt := 14) dX11_cutUp_1 (by decide) (fun c1 => ?_) (fun c1 => ?_)
  · refine zRx.iconst ⟨by decide, by decide⟩ dX11_cutUp_14 ?_
    exact zR.iret rfl dX11_cutUp_15 ⟨by unfold V_X11_cutUp; rw [if_pos c1], rfl⟩
  · refine zRx.iload_n 0 rfl rfl dX11_cutUp_4 ?_
    refine zRx.iload_n 1 rfl rfl dX11_cutUp_5 ?_
    refine zRx.iadd ⟨by omega, by omega⟩ dX11_cutUp_6 ?_
    refine zRx.iconst ⟨by decide, by decide⟩ dX11_cutUp_7 ?_
    refine zRx.isub ⟨by omega, by omega⟩ dX11_cutUp_8 ?_
    refine zRx.iload_n 1 rfl rfl dX11_cutUp_9 ?_
    refine zRx.idiv (by omega) (by omega) dX11_cutUp_10 ?_
    refine zRx.goto (tgt := 15) dX11_cutUp_11 (by decide) ?_
    exact zR.iret rfl dX11_cutUp_15 ⟨by unfold V_X11_cutUp; rw [if_neg (Int.not_le.mpr c1)], rfl⟩

def V_X11_knotsAt (n i : Int) : Int := if i = 0 then (n / 25) else (if i = 1 then ((n / 5) % 5) else (if i = 2 then (n % 5) else ((((n / 25) + (2 * ((n / 5) % 5))) + (3 * (n % 5))) % 5)))
set_option maxRecDepth 20000 in
theorem does_X11_knotsAt (σ : zG) (n i : Int) (sh : List zSh) (h : 0 ≤ n ∧ n < 125) : zDo sh 0 m_X11_knotsAt [.inl n, .inl i] σ (zEq (some (.inl (V_X11_knotsAt n i))) σ) := by
  refine zDo.intro mk_X11_knotsAt (Nat.le_of_ble_eq_true rfl) ?_
  refine zRx.iload_n 0 rfl rfl dX11_knotsAt_0 ?_
  refine zRx.bipush ⟨by decide, by decide⟩ rfl dX11_knotsAt_1 ?_
  refine zRx.idiv (by omega) (by omega) dX11_knotsAt_3 ?_
  refine zRx.istore_n (ls' := [(0, .inl n), (1, .inl i), (2, .inl (n / 25))]) rfl rfl (by decide) dX11_knotsAt_4 ?_
  refine zRx.iload_n 0 rfl rfl dX11_knotsAt_5 ?_
  refine zRx.iconst ⟨by decide, by decide⟩ dX11_knotsAt_6 ?_
  refine zRx.idiv (by omega) (by omega) dX11_knotsAt_7 ?_
  refine zRx.iconst ⟨by decide, by decide⟩ dX11_knotsAt_8 ?_
  refine zRx.irem (by omega) (by omega) dX11_knotsAt_9 ?_
  refine zRx.istore_n (ls' := [(0, .inl n), (1, .inl i), (2, .inl (n / 25)), (3, .inl ((n / 5) % 5))]) rfl rfl (by decide) dX11_knotsAt_10 ?_
  refine zRx.iload_n 0 rfl rfl dX11_knotsAt_11 ?_
  refine zRx.iconst ⟨by decide, by decide⟩ dX11_knotsAt_12 ?_
  refine zRx.irem (by omega) (by omega) dX11_knotsAt_13 ?_
  refine zRx.istore (ls' := [(0, .inl n), (1, .inl i), (2, .inl (n / 25)), (3, .inl ((n / 5) % 5)), (4, .inl (n % 5))]) rfl (by decide) dX11_knotsAt_14 ?_
  refine zRx.iload_n 1 rfl rfl dX11_knotsAt_16 ?_
  by_cases c17_0 : i = 0
  · refine zRx.topI (b := 0) c17_0 ?_
    refine zRx.tableIn (tgt := 44) dX11_knotsAt_17 (by decide) (by decide) rfl (by decide) ?_
    refine zRx.iload_n 2 rfl rfl dX11_knotsAt_44 ?_
    exact zR.iret rfl dX11_knotsAt_45 ⟨by unfold V_X11_knotsAt; rw [if_pos c17_0], rfl⟩
  by_cases c17_1 : i = 1
  · refine zRx.topI (b := 1) c17_1 ?_
    refine zRx.tableIn (tgt := 46) dX11_knotsAt_17 (by decide) (by decide) rfl (by decide) ?_
    refine zRx.iload_n 3 rfl rfl dX11_knotsAt_46 ?_
    exact zR.iret rfl dX11_knotsAt_47 ⟨by unfold V_X11_knotsAt; rw [if_neg c17_0, if_pos c17_1], rfl⟩
  by_cases c17_2 : i = 2
  · refine zRx.topI (b := 2) c17_2 ?_
    refine zRx.tableIn (tgt := 48) dX11_knotsAt_17 (by decide) (by decide) rfl (by decide) ?_
    refine zRx.iload 4 rfl dX11_knotsAt_48 ?_
    exact zR.iret rfl dX11_knotsAt_50 ⟨by unfold V_X11_knotsAt; rw [if_neg c17_0, if_neg c17_1, if_pos c17_2], rfl⟩
  refine zRx.tableOut (tgt := 51) dX11_knotsAt_17 (by omega) (by decide) ?_
  refine zRx.iload_n 2 rfl rfl dX11_knotsAt_51 ?_
  refine zRx.iconst ⟨by decide, by decide⟩ dX11_knotsAt_52 ?_
  refine zRx.iload_n 3 rfl rfl dX11_knotsAt_53 ?_
  refine zRx.imul ⟨by omega, by omega⟩ dX11_knotsAt_54 ?_
  refine zRx.iadd ⟨by omega, by omega⟩ dX11_knotsAt_55 ?_
  refine zRx.iconst ⟨by decide, by decide⟩ dX11_knotsAt_56 ?_
  refine zRx.iload 4 rfl dX11_knotsAt_57 ?_
  refine zRx.imul ⟨by omega, by omega⟩ dX11_knotsAt_59 ?_
  refine zRx.iadd ⟨by omega, by omega⟩ dX11_knotsAt_60 ?_
  refine zRx.iconst ⟨by decide, by decide⟩ dX11_knotsAt_61 ?_
  refine zRx.irem (by omega) (by omega) dX11_knotsAt_62 ?_
  exact zR.iret rfl dX11_knotsAt_63 ⟨by unfold V_X11_knotsAt; rw [if_neg c17_0, if_neg c17_1, if_neg c17_2], rfl⟩

