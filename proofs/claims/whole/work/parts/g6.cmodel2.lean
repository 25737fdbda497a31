/-! constructors: the model -/
def cpM : Nat → zG → Int → zG
  | 0, σ, _ => σ
  | m + 1, σ, i => cpM m (zu σ 2 i (σ 3 i)) (i + 1)
theorem newM_loop {al : zAl} : ∀ (m : Nat) (i : Int) (σ : zG), i + m = 172 → 0 ≤ i → zRx al 5 m_X12_init SM 604 [(0, zP 0), (1, .inl i)] [] σ (fun sh' pc' _ st' σ' => sh' = SM ∧ pc' = 629 ∧ st' = [] ∧ σ' = cpM m σ i) := by
  intro m
  induction m with
  | zero =>
    intro i σ h h0
    refine zRx.iload_n 1 rfl rfl dX12_init_604 ?_
    refine zRx.sipush ⟨by decide, by decide⟩ rfl dX12_init_605 ?_
    refine zRx.icmp_ge (tgt := 629) dX12_init_608 (by decide) (fun _ => ?_) (fun x => absurd x (by omega))
    exact zRx.stop ⟨rfl, rfl, rfl, rfl⟩
  | succ m ih =>
    intro i σ h h0
    refine zRx.iload_n 1 rfl rfl dX12_init_604 ?_
    refine zRx.sipush ⟨by decide, by decide⟩ rfl dX12_init_605 ?_
    refine zRx.icmp_ge (tgt := 629) dX12_init_608 (by decide) (fun x => absurd x (by omega)) (fun _ => ?_)
    refine zRx.aload_n 0 rfl rfl dX12_init_611 ?_
    refine zRx.getR (a := 0) (b := 2) fl_12_33 rfl rfl dX12_init_612 ?_
    refine zRx.iload_n 1 rfl rfl dX12_init_615 ?_
    refine zRx.aload_n 0 rfl rfl dX12_init_616 ?_
    refine zRx.getR (a := 0) (b := 3) fl_12_37 rfl rfl dX12_init_617 ?_
    refine zRx.iload_n 1 rfl rfl dX12_init_620 ?_
    refine zRx.iald rfl h0 (by omega) dX12_init_621 ?_
    refine zRx.iast rfl h0 (by omega) dX12_init_622 ?_
    refine zRx.iinc (n := 1) (ls' := [(0, zP 0), (1, .inl (i + 1))]) 1 rfl ⟨by omega, by omega⟩ rfl (by decide) dX12_init_623 ?_
    refine zRx.goto (tgt := 604) dX12_init_626 (by decide) ?_
    exact ih (i + 1) (zu σ 2 i (σ 3 i)) (by omega) (by omega)
set_option maxRecDepth 20000 in
theorem new_X12 (σ : zG) : zDoA 5 m_X12_init 41 45779 [zP 0] [.inr (.inl (12, [.inl 0, .inr none, .inl 0, .inl 0, .inl 0, .inl 0, .inr none, .inr none, .inr none, .inr none, .inr none, .inl 0, .inl 0, .inl 0, .inl 0, .inl 0, .inl 0, .inl 1, .inl 0, .inl 0, .inl 0, .inl 0, .inl 0, .inr none, .inr none, .inr none, .inr none, .inl 0, .inr none, .inr none, .inr none, .inr none, .inr none, .inr none, .inr none, .inr none, .inr none, .inr none, .inr none, .inr none, .inr none, .inr none, .inr none, .inl 0, .inl 0, .inl 0, .inl 0, .inr none, .inr none, .inr none, .inl 0, .inr none, .inr none, .inl 0, .inl 0, .inl 0, .inl 0, .inr none, .inr none, .inr none, .inl 0, .inr none, .inr none, .inr none, .inr none, .inr none, .inl 0, .inl 0, .inl 0, .inr none, .inr none, .inr none]))] σ (fun sh' σ' => sh' = SM ∧ σ' = cpM 172 (R_X12_plainValley (mRows σ)) 0) := by
  refine zDoA.intro mk_X12_init rfl rfl (Nat.le_of_ble_eq_true rfl) ?_
  have h := newM_rows σ
  intro p l e R s m args below meth c k cf sf Z hk hn hE hF hX H locs la hW hL hS
  refine h p l e R s m args below meth c k cf sf Z hk hn hE hF ?_ H locs la hW hL hS
  rintro _ _ _ _ _ H1 locs1 la1 ⟨rfl, rfl, rfl, rfl, rfl⟩ hW1 hL1 hS1
  have h2 : zRx (some (1, 72, 42, 45851)) 5 m_X12_init SM 598 [(0, zP 0)] [] (mRows σ) (fun sh' pc' _ st' σ' => sh' = SM ∧ pc' = 629 ∧ st' = [] ∧ σ' = cpM 172 (R_X12_plainValley (mRows σ)) 0) := by
    refine zRx.aload_n 0 rfl rfl dX12_init_598 ?_
    refine zRx.cVv (M := m_X12_plainValley) (av := []) cv_12_209 mk_X12_plainValley (by decide) (b := 0) rfl rfl (Nat.le_of_ble_eq_true rfl) dX12_init_599 (does_X12_plainValley _) ?_
    refine zRx.iconst ⟨by decide, by decide⟩ dX12_init_602 ?_
    refine zRx.istore_n (ls' := [(0, zP 0), (1, .inl 0)]) rfl rfl (by decide) dX12_init_603 ?_
    exact newM_loop 172 0 _ rfl (Int.le_refl _)
  refine h2 p l e R s m args below meth c k cf sf Z hF ?_ H1 locs1 la1 hW1 hL1 hS1
  rintro _ _ ls2 _ _ H2 locs2 la2 ⟨rfl, rfl, rfl, rfl⟩ hW2 hL2 hS2
  exact hX _ _ ls2 _ _ H2 locs2 la2 ⟨dX12_init_629, rfl, ⟨rfl, rfl⟩, by decide +kernel, by decide +kernel⟩ hW2 hL2 hS2
