/-! constructors: the reader, its table of reserved words -/
def kq : Nat → List Int × Int
  | 0 => ([], 0)
  | i + 1 => if kwB.getD i 0 = 32 then ((kq i).1 ++ [(kq i).2], 0) else ((kq i).1, bor (bshl (kq i).2 5) ((kwB.getD i 0).toInt - 96))
theorem kq_all : (List.range 134).all (fun i => (!(kwB.getD i 0 == 32) || decide ((kq i).1.length < 26)) && decide (0 ≤ (kwB.getD i 0).toInt ∧ (kwB.getD i 0).toInt ≤ 127)) = true := by decide +kernel
theorem kq_at {i : Nat} (h : i < 134) : (kwB.getD i 0 = 32 → (kq i).1.length < 26) ∧ 0 ≤ (kwB.getD i 0).toInt ∧ (kwB.getD i 0).toInt ≤ 127 := by
  have h1 := List.all_eq_true.mp kq_all i (List.mem_range.mpr h)
  simp only [Bool.and_eq_true, Bool.or_eq_true, decide_eq_true_eq, Bool.not_eq_true', beq_eq_false_iff_ne] at h1
  exact ⟨fun e => h1.1.resolve_left (fun z => z e), h1.2⟩
theorem kq_end : (kq 134).1 = kwl := by decide +kernel
theorem kq_r (i : Nat) : r32 (kq i).2 := by
  cases i with
  | zero => exact r32_0
  | succ i =>
    show r32 (if kwB.getD i 0 = 32 then ((kq i).1 ++ [(kq i).2], (0 : Int)) else ((kq i).1, bor (bshl (kq i).2 5) ((kwB.getD i 0).toInt - 96))).2
    split
    · exact r32_0
    · exact r32_of _
theorem kq_s1 {i : Nat} (h : kwB.getD i 0 = 32) : kq (i + 1) = ((kq i).1 ++ [(kq i).2], 0) := if_pos h
theorem kq_s2 {i : Nat} (h : ¬ kwB.getD i 0 = 32) : kq (i + 1) = ((kq i).1, bor (bshl (kq i).2 5) ((kwB.getD i 0).toInt - 96)) := if_neg h
/-- the state with a row of words at cell 3 -/
def kG (σ : zG) (l : List Int) : zG := fun a j => if a = 3 then (if 0 ≤ j then l.getD j.toNat 0 else 0) else σ a j
theorem kG_0 (σ : zG) : zr0 σ 3 = kG σ [] := by
  funext a j
  simp [zr0, kG]
theorem kG_put (σ : zG) (l : List Int) (c : Int) : zu (kG σ l) 3 (l.length : Int) c = kG σ (l ++ [c]) := by
  funext a j
  unfold zu kG
  by_cases ha : a = 3
  · simp only [if_pos ha]
    by_cases hj : j = (l.length : Int)
    · rw [if_pos hj, hj, if_pos (by omega), show ((l.length : Int)).toNat = l.length by omega]
      simp [List.getD_eq_getElem?_getD]
    · rw [if_neg hj]
      by_cases h0 : 0 ≤ j
      · rw [if_pos h0, if_pos h0, List.getD_eq_getElem?_getD, List.getD_eq_getElem?_getD]
        by_cases hl : j.toNat < l.length
        · rw [List.getElem?_append_left hl]
        · rw [List.getElem?_eq_none (by omega), List.getElem?_eq_none (by rw [List.length_append, List.length_singleton]; omega)]
      · rw [if_neg h0, if_neg h0]
  · simp only [if_neg ha]
def rdW : List zSh := [.inr (.inl (7, [.inr (some 1), .inl 0])), .inl (0, 940), .inr (.inl (5, [.inr (some 0), .inr (some 3), .inl 0, .inl 0, .inl 0, .inl 0, .inl 0, .inl 0])), .inl (0, 26)]
def rdL (i : Nat) : List (Nat × zV) := [(0, zP 2), (1, zP 0), (2, .inl ((kq i).1.length : Int)), (3, .inl (kq i).2), (4, .inl (i : Int))]
theorem iv_nn {i : Nat} (h : i < 134) : ¬ iv (i : Int) < 0 ∧ iv (i : Int) < 134 ∧ vp_in (iv (i : Int)) 134 ∧ (iv (i : Int)).toNatClampNeg = i := by
  have r : r32 (i : Int) := ⟨by omega, by omega⟩
  refine ⟨fun q => ?_, ?_, iv_in (by omega) (by omega) (by omega), ?_⟩
  · have := (iv_lt r r32_0).mp q
    omega
  · exact (iv_lt (b := 134) r ⟨by decide, by decide⟩).mpr (by omega)
  · rw [iv_clamp (by omega) r.2]
    omega
theorem rd_loop {al : zAl} (σ : zG) {X : zX} (hX : X rdW 90 (rdL 134) [] (kG σ (kq 134).1)) : ∀ (n i : Nat), i + n = 134 → zRi iN al 6 m_X5_init rdW 24 (rdL i) [] (kG σ (kq i).1) X
  | 0, i, h => by
    have hi : i = 134 := by omega
    subst hi
    refine zRi.lift (fun X h => zRx.iload 4 rfl dX5_init_24 h) ?_
    refine zRi.ldcK rfl dX5_init_26 ?_
    refine zRi.callJ (av := []) (st := [.inl ((134 : Nat) : Int)]) (z := 134) (w := 134) jv_J0_length rfl mk_J0_length_8abf5 (by decide) rfl (Nat.le_of_ble_eq_true rfl) dX5_init_28 (fun k => j_length _ _) rfl ⟨by decide, by decide⟩ ?_
    refine zRi.lift (fun X h => zRx.icmp_ge (tgt := 90) dX5_init_31 rfl (fun _ => h) (fun q => absurd q (by decide))) ?_
    exact zRi.stop hX
  | n + 1, i, h => by
    have hi : i < 134 := by omega
    obtain ⟨k1, k2, k3⟩ := kq_at hi
    obtain ⟨v1, v2, v3, v4⟩ := iv_nn hi
    have hr := kq_r i
    have ih := rd_loop (al := al) σ hX n (i + 1) (by omega)
    refine zRi.lift (fun X h => zRx.iload 4 rfl dX5_init_24 h) ?_
    refine zRi.ldcK rfl dX5_init_26 ?_
    refine zRi.callJ (av := []) (st := [.inl (i : Int)]) (z := 134) (w := 134) jv_J0_length rfl mk_J0_length_8abf5 (by decide) rfl (Nat.le_of_ble_eq_true rfl) dX5_init_28 (fun k => j_length _ _) rfl ⟨by decide, by decide⟩ ?_
    refine zRi.lift (fun X h => zRx.icmp_ge (tgt := 90) dX5_init_31 rfl (fun q => absurd q (by omega)) (fun _ => h)) ?_
    refine zRi.ldcK rfl dX5_init_34 ?_
    refine zRi.lift (fun X h => zRx.iload 4 rfl dX5_init_36 h) ?_
    refine zRi.callJ (d' := 4) (av := [.inl (i : Int)]) (st := []) (z := (kwB.getD i 0).toInt) (w := kwB.getD i 0) jv_J0_charAt rfl mk_J0_charAt_5068e (by decide) rfl (Nat.le_of_ble_eq_true rfl) dX5_init_38 (fun k => ?_) (iv_of _) (r32_of _) ?_
    · have h9 := j_charAt (k.2.1 6) (k.2.1 7) v1 v2 v3 (by omega)
      rw [v4] at h9
      exact h9
    refine zRi.lift (fun X h => zRx.istore (ls' := [(0, zP 2), (1, zP 0), (2, .inl ((kq i).1.length : Int)), (3, .inl (kq i).2), (4, .inl (i : Int)), (5, .inl (kwB.getD i 0).toInt)]) rfl (by decide) dX5_init_41 h) ?_
    refine zRi.lift (fun X h => zRx.iload 5 rfl dX5_init_43 h) ?_
    refine zRi.lift (fun X h => zRx.bipush ⟨by decide, by decide⟩ rfl dX5_init_45 h) ?_
    by_cases hb : kwB.getD i 0 = 32
    · have hb2 : (kwB.getD i 0).toInt = 32 := by rw [hb]; rfl
      have hl := k1 hb
      have e := kq_s1 hb
      refine zRi.lift (fun X h => zRx.icmp_eq (tgt := 63) dX5_init_47 rfl (fun _ => h) (fun q => absurd hb2 q)) ?_
      refine zRi.lift (fun X h => zRx.iload_n 2 rfl rfl dX5_init_63 h) ?_
      refine zRi.lift (fun X h => zRx.aload_n 0 rfl rfl dX5_init_64 h) ?_
      refine zRi.lift (fun X h => zRx.getR (a := 2) (b := 3) fl_5_9 rfl rfl dX5_init_65 h) ?_
      refine zRi.lift (fun X h => zRx.alen (n := 26) rfl (by decide) (by decide) dX5_init_68 h) ?_
      refine zRi.lift (fun X h => zRx.icmp_ge (tgt := 84) dX5_init_69 rfl (fun q => absurd q (by omega)) (fun _ => h)) ?_
      refine zRi.lift (fun X h => zRx.aload_n 0 rfl rfl dX5_init_72 h) ?_
      refine zRi.lift (fun X h => zRx.getR (a := 2) (b := 3) fl_5_9 rfl rfl dX5_init_73 h) ?_
      refine zRi.lift (fun X h => zRx.iload_n 2 rfl rfl dX5_init_76 h) ?_
      refine zRi.lift (fun X h => zRx.iload_n 3 rfl rfl dX5_init_77 h) ?_
      refine zRi.lift (fun X h => zRx.iast (a := 3) (n := 26) rfl (by omega) (by omega) dX5_init_78 h) ?_
      refine zRi.lift (fun X h => zRx.iinc (n := 1) (ls' := [(0, zP 2), (1, zP 0), (2, .inl (((kq i).1.length : Int) + 1)), (3, .inl (kq i).2), (4, .inl (i : Int)), (5, .inl (kwB.getD i 0).toInt)]) 2 rfl ⟨by omega, by omega⟩ rfl (by decide) dX5_init_79 h) ?_
      refine zRi.lift (fun X h => zRx.iconst ⟨by decide, by decide⟩ dX5_init_82 h) ?_
      refine zRi.lift (fun X h => zRx.istore_n (i := 3) (ls' := [(0, zP 2), (1, zP 0), (2, .inl (((kq i).1.length : Int) + 1)), (3, .inl 0), (4, .inl (i : Int)), (5, .inl (kwB.getD i 0).toInt)]) rfl rfl (by decide) dX5_init_83 h) ?_
      refine zRi.lift (fun X h => zRx.iinc (n := 1) (ls' := [(0, zP 2), (1, zP 0), (2, .inl (((kq i).1.length : Int) + 1)), (3, .inl 0), (4, .inl ((i : Int) + 1)), (5, .inl (kwB.getD i 0).toInt)]) 4 rfl ⟨by omega, by omega⟩ rfl (by decide) dX5_init_84 h) ?_
      refine zRi.lift (fun X h => zRx.goto (tgt := 24) dX5_init_87 rfl h) ?_
      refine zRi.lift (fun X h => zRx.pick [0, 1, 2, 3, 4] rfl h) ?_
      rw [kG_put]
      unfold rdL at ih
      rw [e] at ih
      rw [show (((kq i).1 ++ [(kq i).2], (0 : Int)).1.length : Int) = ((kq i).1.length : Int) + 1 by simp] at ih
      exact ih
    · have hb2 : ¬ (kwB.getD i 0).toInt = 32 := fun q => hb (Int32.toInt_inj.mp q)
      have e := kq_s2 hb
      refine zRi.lift (fun X h => zRx.icmp_eq (tgt := 63) dX5_init_47 rfl (fun q => absurd q hb2) (fun _ => h)) ?_
      refine zRi.lift (fun X h => zRx.iload_n 3 rfl rfl dX5_init_50 h) ?_
      refine zRi.lift (fun X h => zRx.iconst ⟨by decide, by decide⟩ dX5_init_51 h) ?_
      refine zRi.lift (fun X h => zRx.ishl dX5_init_52 h) ?_
      refine zRi.lift (fun X h => zRx.iload 5 rfl dX5_init_53 h) ?_
      refine zRi.lift (fun X h => zRx.bipush ⟨by decide, by decide⟩ rfl dX5_init_55 h) ?_
      refine zRi.lift (fun X h => zRx.isub ⟨by omega, by omega⟩ dX5_init_57 h) ?_
      refine zRi.lift (fun X h => zRx.ior dX5_init_58 h) ?_
      refine zRi.lift (fun X h => zRx.istore_n (i := 3) (ls' := [(0, zP 2), (1, zP 0), (2, .inl ((kq i).1.length : Int)), (3, .inl (bor (bshl (kq i).2 5) ((kwB.getD i 0).toInt - 96))), (4, .inl (i : Int)), (5, .inl (kwB.getD i 0).toInt)]) rfl rfl (by decide) dX5_init_59 h) ?_
      refine zRi.lift (fun X h => zRx.goto (tgt := 84) dX5_init_60 rfl h) ?_
      refine zRi.lift (fun X h => zRx.iinc (n := 1) (ls' := [(0, zP 2), (1, zP 0), (2, .inl ((kq i).1.length : Int)), (3, .inl (bor (bshl (kq i).2 5) ((kwB.getD i 0).toInt - 96))), (4, .inl ((i : Int) + 1)), (5, .inl (kwB.getD i 0).toInt)]) 4 rfl ⟨by omega, by omega⟩ rfl (by decide) dX5_init_84 h) ?_
      refine zRi.lift (fun X h => zRx.goto (tgt := 24) dX5_init_87 rfl h) ?_
      refine zRi.lift (fun X h => zRx.pick [0, 1, 2, 3, 4] rfl h) ?_
      unfold rdL at ih
      rw [e] at ih
      exact ih
theorem new_X5 (σ : zG) : zDoA 6 m_X5_init 1 26 [zP 2, zP 0] [.inr (.inl (7, [.inr (some 1), .inl 0])), .inl (0, 940), .inr (.inl (5, [.inr none, .inr none, .inl 0, .inl 0, .inl 0, .inl 0, .inl 0, .inl 0]))] σ (fun sh' σ' => sh' = rdW ∧ σ' = kG σ kwl) := by
  refine zDoA.intro mk_X5_init rfl rfl (Nat.le_of_ble_eq_true rfl) ?_
  refine zRi.lift (fun X h => zRx.aload_n 0 rfl rfl dX5_init_0 h) ?_
  refine zRi.objInit (gt_t1 59 (by decide +kernel) rfl) oi_ok.1 oi_ok.2 (by decide) (Nat.le_of_ble_eq_true rfl) dX5_init_1 ?_
  refine zRi.lift (fun X h => zRx.aload_n 0 rfl rfl dX5_init_4 h) ?_
  refine zRi.lift (fun X h => zRx.bipush ⟨by decide, by decide⟩ rfl dX5_init_5 h) ?_
  refine zRi.newI (n := 26) rfl (by decide) (Nat.le_of_ble_eq_true rfl) (Nat.le_of_ble_eq_true rfl) (Nat.le_of_ble_eq_true rfl) (Nat.le_of_ble_eq_true rfl) dX5_init_7 ?_
  refine zRi.putR (a := 2) (b := 3) (j := 1) (fun _ _ _ h => h) ck_5 (by decide) rfl rfl (gt_t1 110 (by decide +kernel) rfl) rfl (fun _ => ⟨rfl, rfl⟩) rfl rfl dX5_init_9 ?_
  refine zRi.lift (fun X h => zRx.aload_n 0 rfl rfl dX5_init_12 h) ?_
  refine zRi.lift (fun X h => zRx.aload_n 1 rfl rfl dX5_init_13 h) ?_
  refine zRi.putR (a := 2) (b := 0) (j := 0) (fun _ _ _ h => h) ck_5 (by decide) rfl rfl (gt_t1 109 (by decide +kernel) rfl) rfl (fun _ => ⟨rfl, rfl⟩) rfl rfl dX5_init_14 ?_
  refine zRi.lift (fun X h => zRx.iconst ⟨by decide, by decide⟩ dX5_init_17 h) ?_
  refine zRi.lift (fun X h => zRx.istore_n (i := 2) (ls' := [(0, zP 2), (1, zP 0), (2, .inl 0)]) rfl rfl (by decide) dX5_init_18 h) ?_
  refine zRi.lift (fun X h => zRx.iconst ⟨by decide, by decide⟩ dX5_init_19 h) ?_
  refine zRi.lift (fun X h => zRx.istore_n (i := 3) (ls' := [(0, zP 2), (1, zP 0), (2, .inl 0), (3, .inl 0)]) rfl rfl (by decide) dX5_init_20 h) ?_
  refine zRi.lift (fun X h => zRx.iconst ⟨by decide, by decide⟩ dX5_init_21 h) ?_
  refine zRi.lift (fun X h => zRx.istore (ls' := [(0, zP 2), (1, zP 0), (2, .inl 0), (3, .inl 0), (4, .inl 0)]) rfl (by decide) dX5_init_22 h) ?_
  have h0 := kG_0 σ
  show zRi iN _ 6 m_X5_init rdW 24 (rdL 0) [] (zr0 σ 3) _
  rw [h0]
  exact rd_loop σ ⟨dX5_init_90, rfl, ⟨rfl, by rw [kq_end]⟩, rfl, rfl⟩ 134 0 rfl
