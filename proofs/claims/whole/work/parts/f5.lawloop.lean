/-! the law: its loop -/
section LO
variable {L : Nat} {xs : Nat → Int32} {g g1 g' : Nat × Nat} {pc pc1 : Nat} {ls ls1 : List (Nat × zV)} {st st1 : List zV} {σ σ1 : zG} {X X1 : zX}
theorem zRt.lift (r : ∀ X : zX, zRx none 70 YL LSH pc1 ls1 st1 σ1 X → zRx none 70 YL LSH pc ls st σ X) (h : zRt L xs g g' pc1 ls1 st1 σ1 X) : zRt L xs g g' pc ls st σ X := by
  refine zRt.seg (X1 := fun sh' pc' ls' st' σ' => sh' = LSH ∧ pc' = pc1 ∧ ls' = ls1 ∧ st' = st1 ∧ σ' = σ1) (zRi.lift r (zRi.stop ⟨rfl, rfl, rfl, rfl, rfl⟩)) ?_
  rintro _ _ _ _ _ ⟨rfl, rfl, rfl, rfl, rfl⟩
  exact ⟨rfl, h⟩
theorem zRt.trans (h1 : zRt L xs g g1 pc ls st σ X1) (hg : g1.1 ≤ g'.1 ∧ g1.2 ≤ g'.2) (h2 : ∀ sh' pc' ls' st' σ', X1 sh' pc' ls' st' σ' → sh' = LSH ∧ zRt L xs g1 g' pc' ls' st' σ' X) : zRt L xs g g' pc ls st σ X := by
  intro p l e R s m args below meth c k Z hst hT hk hN hE hF hR hX H locs la hW hL hS
  refine h1 p l e R s m args below meth c k Z hst hT hk hN hE hF ⟨Nat.le_trans hg.1 hR.1, Nat.le_trans hg.2 hR.2⟩ ?_ H locs la hW hL hS
  intro sh' pc' ls' st' σ' H1 locs1 la1 hx hW1 hL1 hS1
  obtain ⟨rfl, h9⟩ := h2 _ _ _ _ _ hx
  exact h9 p l e R s m args below meth c k Z hst hT hk hN hE hF hR hX H1 locs1 la1 hW1 hL1 hS1
end LO
theorem law_switch {σ μ : zG} {o : Int → Int} {L : Nat} {xs : Nat → Int32} (h : REL σ μ) {i : Int} (i0 : 0 ≤ i) (i1 : i + 6 ≤ (L : Int)) (hL : L ≤ 3072) (g : Nat × Nat) (v : Int) : zRt L xs g (g.1 + 1, g.2 + 6) 40 (lls i) [.inl v] (cmb σ μ o) (lX i) := by
  by_cases c0 : v = 0
  · refine zRt.lift (fun X h => zRx.topI (b := 0) c0 (zRx.tableIn (tgt := 200) dL_law_40 (by decide) (by decide) rfl (by decide) h)) ?_
    exact zRt.ofI (Nat.le_succ _) (Nat.le_add_right _ _) (law_feed h i0 i1 hL)
  by_cases c1 : v = 1
  · refine zRt.lift (fun X h => zRx.topI (b := 1) c1 (zRx.tableIn (tgt := 273) dL_law_40 (by decide) (by decide) rfl (by decide) h)) ?_
    exact zRt.ofI (Nat.le_succ _) (Nat.le_add_right _ _) (law_end h i0 i1 hL)
  by_cases c2 : v = 2
  · refine zRt.lift (fun X h => zRx.topI (b := 2) c2 (zRx.tableIn (tgt := 298) dL_law_40 (by decide) (by decide) rfl (by decide) h)) ?_
    exact zRt.ofI (Nat.le_succ _) (Nat.le_add_right _ _) (law_valley h i0 i1 hL)
  by_cases c3 : v = 3
  · refine zRt.lift (fun X h => zRx.topI (b := 3) c3 (zRx.tableIn (tgt := 311) dL_law_40 (by decide) (by decide) rfl (by decide) h)) ?_
    exact zRt.ofI (Nat.le_succ _) (Nat.le_add_right _ _) (law_fault h i0 i1 hL)
  by_cases c4 : v = 4
  · refine zRt.lift (fun X h => zRx.topI (b := 4) c4 (zRx.tableIn (tgt := 324) dL_law_40 (by decide) (by decide) rfl (by decide) h)) ?_
    exact law_fact h i0 i1 hL g
  by_cases c5 : v = 5
  · refine zRt.lift (fun X h => zRx.topI (b := 5) c5 (zRx.tableIn (tgt := 392) dL_law_40 (by decide) (by decide) rfl (by decide) h)) ?_
    exact zRt.ofI (Nat.le_succ _) (Nat.le_add_right _ _) (law_knows h i0 i1 hL)
  by_cases c6 : v = 6
  · refine zRt.lift (fun X h => zRx.topI (b := 6) c6 (zRx.tableIn (tgt := 429) dL_law_40 (by decide) (by decide) rfl (by decide) h)) ?_
    exact zRt.ofI (Nat.le_succ _) (Nat.le_add_right _ _) (law_book h i0 i1 hL)
  by_cases c7 : v = 7
  · refine zRt.lift (fun X h => zRx.topI (b := 7) c7 (zRx.tableIn (tgt := 442) dL_law_40 (by decide) (by decide) rfl (by decide) h)) ?_
    exact zRt.ofI (Nat.le_succ _) (Nat.le_add_right _ _) (law_drawn h i0 i1 hL)
  by_cases c8 : v = 8
  · refine zRt.lift (fun X h => zRx.topI (b := 8) c8 (zRx.tableIn (tgt := 479) dL_law_40 (by decide) (by decide) rfl (by decide) h)) ?_
    exact law_line h i0 i1 hL g
  by_cases c9 : v = 9
  · refine zRt.lift (fun X h => zRx.topI (b := 9) c9 (zRx.tableIn (tgt := 547) dL_law_40 (by decide) (by decide) rfl (by decide) h)) ?_
    exact zRt.ofI (Nat.le_succ _) (Nat.le_add_right _ _) (law_wrong h i0 i1 hL)
  by_cases c10 : v = 10
  · refine zRt.lift (fun X h => zRx.topI (b := 10) c10 (zRx.tableIn (tgt := 572) dL_law_40 (by decide) (by decide) rfl (by decide) h)) ?_
    exact zRt.ofI (Nat.le_succ _) (Nat.le_add_right _ _) (law_debts h i0 i1 hL)
  by_cases c11 : v = 11
  · refine zRt.lift (fun X h => zRx.topI (b := 11) c11 (zRx.tableIn (tgt := 585) dL_law_40 (by decide) (by decide) rfl (by decide) h)) ?_
    exact law_debt h i0 i1 hL g
  by_cases c12 : v = 12
  · refine zRt.lift (fun X h => zRx.topI (b := 12) c12 (zRx.tableIn (tgt := 653) dL_law_40 (by decide) (by decide) rfl (by decide) h)) ?_
    exact zRt.ofI (Nat.le_succ _) (Nat.le_add_right _ _) (law_worth h i0 i1 hL)
  by_cases c13 : v = 13
  · refine zRt.lift (fun X h => zRx.topI (b := 13) c13 (zRx.tableIn (tgt := 690) dL_law_40 (by decide) (by decide) rfl (by decide) h)) ?_
    exact law_came h i0 i1 hL g
  by_cases c14 : v = 14
  · refine zRt.lift (fun X h => zRx.topI (b := 14) c14 (zRx.tableIn (tgt := 758) dL_law_40 (by decide) (by decide) rfl (by decide) h)) ?_
    exact zRt.ofI (Nat.le_succ _) (Nat.le_add_right _ _) (law_autumn h i0 i1 hL)
  by_cases c15 : v = 15
  · refine zRt.lift (fun X h => zRx.topI (b := 15) c15 (zRx.tableIn (tgt := 783) dL_law_40 (by decide) (by decide) rfl (by decide) h)) ?_
    exact zRt.ofI (Nat.le_succ _) (Nat.le_add_right _ _) (law_feast h i0 i1 hL)
  by_cases c16 : v = 16
  · refine zRt.lift (fun X h => zRx.topI (b := 16) c16 (zRx.tableIn (tgt := 808) dL_law_40 (by decide) (by decide) rfl (by decide) h)) ?_
    exact zRt.ofI (Nat.le_succ _) (Nat.le_add_right _ _) (law_feastAt h i0 i1 hL)
  by_cases c17 : v = 17
  · refine zRt.lift (fun X h => zRx.topI (b := 17) c17 (zRx.tableIn (tgt := 833) dL_law_40 (by decide) (by decide) rfl (by decide) h)) ?_
    exact zRt.ofI (Nat.le_succ _) (Nat.le_add_right _ _) (law_needs h i0 i1 hL)
  by_cases c18 : v = 18
  · refine zRt.lift (fun X h => zRx.topI (b := 18) c18 (zRx.tableIn (tgt := 870) dL_law_40 (by decide) (by decide) rfl (by decide) h)) ?_
    exact zRt.ofI (Nat.le_succ _) (Nat.le_add_right _ _) (law_buys h i0 i1 hL)
  by_cases c19 : v = 19
  · refine zRt.lift (fun X h => zRx.topI (b := 19) c19 (zRx.tableIn (tgt := 907) dL_law_40 (by decide) (by decide) rfl (by decide) h)) ?_
    exact zRt.ofI (Nat.le_succ _) (Nat.le_add_right _ _) (law_terms h i0 i1 hL)
  by_cases c20 : v = 20
  · refine zRt.lift (fun X h => zRx.topI (b := 20) c20 (zRx.tableIn (tgt := 932) dL_law_40 (by decide) (by decide) rfl (by decide) h)) ?_
    exact zRt.ofI (Nat.le_succ _) (Nat.le_add_right _ _) (law_source h i0 i1 hL)
  by_cases c21 : v = 21
  · refine zRt.lift (fun X h => zRx.topI (b := 21) c21 (zRx.tableIn (tgt := 969) dL_law_40 (by decide) (by decide) rfl (by decide) h)) ?_
    exact zRt.ofI (Nat.le_succ _) (Nat.le_add_right _ _) (law_led h i0 i1 hL)
  by_cases c22 : v = 22
  · refine zRt.lift (fun X h => zRx.topI (b := 22) c22 (zRx.tableIn (tgt := 1006) dL_law_40 (by decide) (by decide) rfl (by decide) h)) ?_
    exact zRt.ofI (Nat.le_succ _) (Nat.le_add_right _ _) (law_order h i0 i1 hL)
  by_cases c23 : v = 23
  · refine zRt.lift (fun X h => zRx.topI (b := 23) c23 (zRx.tableIn (tgt := 1019) dL_law_40 (by decide) (by decide) rfl (by decide) h)) ?_
    exact zRt.ofI (Nat.le_succ _) (Nat.le_add_right _ _) (law_orderAt h i0 i1 hL)
  by_cases c24 : v = 24
  · refine zRt.lift (fun X h => zRx.topI (b := 24) c24 (zRx.tableIn (tgt := 1044) dL_law_40 (by decide) (by decide) rfl (by decide) h)) ?_
    exact zRt.ofI (Nat.le_succ _) (Nat.le_add_right _ _) (law_ripple h i0 i1 hL)
  by_cases c25 : v = 25
  · refine zRt.lift (fun X h => zRx.topI (b := 25) c25 (zRx.tableIn (tgt := 1105) dL_law_40 (by decide) (by decide) rfl (by decide) h)) ?_
    exact zRt.ofI (Nat.le_succ _) (Nat.le_add_right _ _) (law_unsaid h i0 i1 hL)
  by_cases c26 : v = 26
  · refine zRt.lift (fun X h => zRx.topI (b := 26) c26 (zRx.tableIn (tgt := 1130) dL_law_40 (by decide) (by decide) rfl (by decide) h)) ?_
    exact zRt.ofI (Nat.le_succ _) (Nat.le_add_right _ _) (law_cord h i0 i1 hL)
  by_cases c27 : v = 27
  · refine zRt.lift (fun X h => zRx.topI (b := 27) c27 (zRx.tableIn (tgt := 1167) dL_law_40 (by decide) (by decide) rfl (by decide) h)) ?_
    exact zRt.ofI (Nat.le_succ _) (Nat.le_add_right _ _) (law_read h i0 i1 hL)
  by_cases c28 : v = 28
  · refine zRt.lift (fun X h => zRx.topI (b := 28) c28 (zRx.tableIn (tgt := 1180) dL_law_40 (by decide) (by decide) rfl (by decide) h)) ?_
    exact zRt.ofI (Nat.le_succ _) (Nat.le_add_right _ _) (law_near h i0 i1 hL)
  by_cases c29 : v = 29
  · refine zRt.lift (fun X h => zRx.topI (b := 29) c29 (zRx.tableIn (tgt := 1205) dL_law_40 (by decide) (by decide) rfl (by decide) h)) ?_
    exact zRt.ofI (Nat.le_succ _) (Nat.le_add_right _ _) (law_measured h i0 i1 hL)
  by_cases c30 : v = 30
  · refine zRt.lift (fun X h => zRx.topI (b := 30) c30 (zRx.tableIn (tgt := 1242) dL_law_40 (by decide) (by decide) rfl (by decide) h)) ?_
    exact zRt.ofI (Nat.le_succ _) (Nat.le_add_right _ _) (law_slips h i0 i1 hL)
  by_cases c31 : v = 31
  · refine zRt.lift (fun X h => zRx.topI (b := 31) c31 (zRx.tableIn (tgt := 1291) dL_law_40 (by decide) (by decide) rfl (by decide) h)) ?_
    exact zRt.ofI (Nat.le_succ _) (Nat.le_add_right _ _) (law_sentence h i0 i1 hL)
  by_cases c32 : v = 32
  · refine zRt.lift (fun X h => zRx.topI (b := 32) c32 (zRx.tableIn (tgt := 1304) dL_law_40 (by decide) (by decide) rfl (by decide) h)) ?_
    exact zRt.ofI (Nat.le_succ _) (Nat.le_add_right _ _) (law_said h i0 i1 hL)
  by_cases c33 : v = 33
  · refine zRt.lift (fun X h => zRx.topI (b := 33) c33 (zRx.tableIn (tgt := 1317) dL_law_40 (by decide) (by decide) rfl (by decide) h)) ?_
    exact zRt.ofI (Nat.le_succ _) (Nat.le_add_right _ _) (law_image h i0 i1 hL)
  by_cases c34 : v = 34
  · refine zRt.lift (fun X h => zRx.topI (b := 34) c34 (zRx.tableIn (tgt := 1342) dL_law_40 (by decide) (by decide) rfl (by decide) h)) ?_
    exact zRt.ofI (Nat.le_succ _) (Nat.le_add_right _ _) (law_restore h i0 i1 hL)
  by_cases c35 : v = 35
  · refine zRt.lift (fun X h => zRx.topI (b := 35) c35 (zRx.tableIn (tgt := 1367) dL_law_40 (by decide) (by decide) rfl (by decide) h)) ?_
    exact zRt.ofI (Nat.le_succ _) (Nat.le_add_right _ _) (law_count h i0 i1 hL)
  refine zRt.lift (fun X h => zRx.tableOut (tgt := 1392) dL_law_40 (by omega) (by decide) h) ?_
  exact zRt.ofI (Nat.le_succ _) (Nat.le_add_right _ _) (zRi.stop ⟨rfl, rfl, rfl, rfl, σ, μ, o, rfl, h⟩)
def lY (i : Int) : zX := fun sh' pc' ls' st' σ' => sh' = LSH ∧ pc' = 23 ∧ ls' = lls i ∧ st' = [] ∧ ∃ (σ μ : zG) (o : Int → Int), σ' = cmb σ μ o ∧ REL σ μ
theorem law_iter {σ μ : zG} {o : Int → Int} {L : Nat} {xs : Nat → Int32} (h : REL σ μ) {i : Int} (i0 : 0 ≤ i) (i1 : i + 6 ≤ (L : Int)) (hL : L ≤ 3072) (g : Nat × Nat) : zRt L xs g (g.1 + 1, g.2 + 6) 23 (lls i) [] (cmb σ μ o) (lY (i + 6)) := by
  refine zRt.seg (X1 := fun sh' pc' ls' st' σ' => sh' = LSH ∧ pc' = 40 ∧ ls' = lls i ∧ st' = [.inl (band (sx xs i) 63)] ∧ σ' = cmb σ μ o) ?_ ?_
  · refine zRi.lift (fun X h => zRx.iload 4 rfl dL_law_23 h) ?_
    refine zRi.lift (fun X h => zRx.aloadT 0 rfl rfl dL_law_25 h) ?_
    refine zRi.scl (by omega) dL_law_26 ?_
    refine zRi.lift (fun X h => zRx.bipush ⟨by decide, by decide⟩ rfl dL_law_27 h) ?_
    refine zRi.lift (fun X h => zRx.isub ⟨by omega, by omega⟩ dL_law_29 h) ?_
    refine zRi.lift (fun X h => zRx.icmp_gt (tgt := 1398) dL_law_30 (by decide) (fun x => absurd x (by omega)) (fun _ => h)) ?_
    refine zRi.lift (fun X h => zRx.aloadT 0 rfl rfl dL_law_33 h) ?_
    refine zRi.lift (fun X h => zRx.iload 4 rfl dL_law_34 h) ?_
    refine zRi.scr (by omega) (by omega) (by omega) dL_law_36 ?_
    refine zRi.lift (fun X h => zRx.bipush ⟨by decide, by decide⟩ rfl dL_law_37 h) ?_
    refine zRi.lift (fun X h => zRx.iand dL_law_39 h) ?_
    exact zRi.stop ⟨rfl, rfl, rfl, rfl, rfl⟩
  rintro _ _ _ _ _ ⟨rfl, rfl, rfl, rfl, rfl⟩
  refine ⟨rfl, zRt.trans (law_switch h i0 i1 hL g _) ⟨Nat.le_refl _, Nat.le_refl _⟩ ?_⟩
  rintro _ _ _ _ _ ⟨rfl, rfl, rfl, rfl, σ', μ', o', rfl, r⟩
  refine ⟨rfl, zRt.ofI (Nat.le_refl _) (Nat.le_refl _) ?_⟩
  refine zRi.lift (fun X h => zRx.iinc (n := 6) (ls' := lls (i + 6)) 4 rfl ⟨by omega, by omega⟩ rfl (by decide) dL_law_1392 h) ?_
  refine zRi.lift (fun X h => zRx.goto (tgt := 23) dL_law_1395 (by decide) h) ?_
  exact zRi.stop ⟨rfl, rfl, rfl, rfl, σ', μ', o', rfl, r⟩
theorem law_loop {L : Nat} {xs : Nat → Int32} (hL : L ≤ 3072) : ∀ (n : Nat) (i : Int) (g : Nat × Nat) (σ μ : zG) (o : Int → Int), REL σ μ → 0 ≤ i → i ≤ 3072 + 6 → (L : Int) < i + 6 * n + 6 → zRt L xs g (g.1 + n, g.2 + 6 * n) 23 (lls i) [] (cmb σ μ o) (fun sh' pc' _ st' _ => sh' = LSH ∧ pc' = 1399 ∧ st' = [.inl 1]) := by
  intro n
  induction n with
  | zero =>
    intro i g σ μ o h i0 i9 hn
    refine zRt.ofI (Nat.le_refl _) (Nat.le_refl _) ?_
    refine zRi.lift (fun X h => zRx.iload 4 rfl dL_law_23 h) ?_
    refine zRi.lift (fun X h => zRx.aloadT 0 rfl rfl dL_law_25 h) ?_
    refine zRi.scl (by omega) dL_law_26 ?_
    refine zRi.lift (fun X h => zRx.bipush ⟨by decide, by decide⟩ rfl dL_law_27 h) ?_
    refine zRi.lift (fun X h => zRx.isub ⟨by omega, by omega⟩ dL_law_29 h) ?_
    refine zRi.lift (fun X h => zRx.icmp_gt (tgt := 1398) dL_law_30 (by decide) (fun _ => h) (fun x => absurd x (by omega))) ?_
    refine zRi.lift (fun X h => zRx.iconst ⟨by decide, by decide⟩ dL_law_1398 h) ?_
    exact zRi.stop ⟨rfl, rfl, rfl⟩
  | succ n ih =>
    intro i g σ μ o h i0 i9 hn
    by_cases c : i + 6 ≤ (L : Int)
    · refine zRt.trans (law_iter h i0 c hL g) (g' := (g.1 + (n + 1), g.2 + 6 * (n + 1))) ⟨by show g.1 + 1 ≤ g.1 + (n + 1); omega, by show g.2 + 6 ≤ g.2 + 6 * (n + 1); omega⟩ ?_
      rintro _ _ _ _ _ ⟨rfl, rfl, rfl, rfl, σ', μ', o', rfl, r⟩
      have h9 := ih (i + 6) (g.1 + 1, g.2 + 6) σ' μ' o' r (by omega) (by omega) (by omega)
      rw [show (g.1 + 1, g.2 + 6).1 + n = g.1 + (n + 1) by show g.1 + 1 + n = _; omega, show (g.1 + 1, g.2 + 6).2 + 6 * n = g.2 + 6 * (n + 1) by show g.2 + 6 + 6 * n = _; omega] at h9
      exact ⟨rfl, h9⟩
    · refine zRt.trans (ih i g σ μ o h i0 i9 (by omega)) (g' := (g.1 + (n + 1), g.2 + 6 * (n + 1))) ⟨by show g.1 + n ≤ g.1 + (n + 1); omega, by show g.2 + 6 * n ≤ g.2 + 6 * (n + 1); omega⟩ ?_
      rintro _ _ _ _ _ ⟨rfl, rfl, rfl⟩
      exact ⟨rfl, zRt.ofI (by show g.1 + n ≤ g.1 + (n + 1); omega) (by show g.2 + 6 * n ≤ g.2 + 6 * (n + 1); omega) (zRi.stop ⟨rfl, rfl, rfl⟩)⟩
