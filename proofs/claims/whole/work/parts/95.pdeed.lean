/-! pure: a line of a book on both sides -/
theorem stepSign_ok {σ : zG} {c : Int} (h : ¬ V_X5_stepSign σ c = 0) : F_X5_stepSign σ c = F_X5_step σ := by
  unfold V_X5_stepSign at h
  unfold F_X5_stepSign
  by_cases k : F_X5_step σ 3 4 = 4 ∧ F_X5_step σ 3 6 = c
  · rw [if_pos k]
  · rw [if_neg k] at h; exact absurd rfl h
theorem end_sim {P F N s0 wh on an f ex : Int} {σ σx μ μx : zG} (hL : LK σ μ) (hB : BR P F σ μ) (h21 : μ 0 21 = N) (hN : N < 60) (hs : σ 3 2 = s0) (f7 : σ 3 7 = 0) (f15 : μ 0 15 = 0) (cx : ¬ V_X5_stepSign σ 59 = 0 → ∀ k : Nat, k ≠ 35 → σx k = F_X5_step σ k) (cx0 : σx 35 0 = σ 35 0) (mx : ∀ k : Nat, k ≠ 0 → μx k = μ k) (mx0 : ∀ j : Int, j ≠ 22 → μx 0 j = μ 0 j) (d : σx 35 1 = μx 0 22) (v : LV P F wh on an f ex 0) (y0 : wh = 0 → σx 35 1 = on ∧ (N = 0 ∨ σ 35 1 ≤ σx 35 1) ∧ 0 ≤ σx 35 1 ∧ σx 35 1 ≤ 999) (y1 : wh ≠ 0 → σx 35 1 = σ 35 1) (hb7 : 7 * (ds (μ 4) N.toNat + dk wh ex) ≤ σ 3 3 + 1) :
    LOb P F N s0 (if V_X5_stepSign σ 59 = 0 then 0 else 1) (if V_X5_stepSign σ 59 = 0 then F_X5_stepSign σ 59 else F_X0_add_35 σx wh on an f ex 0) 1 (F_X12_put μx (5 * N) wh on an f ex) := by
  have sg := TK_s hL.2 59
  have n35 : σ 35 0 = N := by rw [hB.2.1]; exact h21
  have pr : ∀ k : Nat, k ≠ 4 → k ≠ 8 → F_X12_put μx (5 * N) wh on an f ex k = μx k := fun k k4 k8 => fr_F_X12_put _ _ _ _ _ _ _ (by simp; omega)
  obtain ⟨q1, q2, q3, q4⟩ := put_rows μx (n := N) wh on an f ex
  generalize F_X12_put μx (5 * N) wh on an f ex = ν at *
  have z0 : ∀ j : Int, j ≠ 22 → ν 0 j = μ 0 j := fun j hj => by rw [pr 0 (by decide) (by decide)]; exact mx0 j hj
  have z11 := z0 11 (by decide)
  have z14 := z0 14 (by decide)
  have z12 := z0 12 (by decide)
  by_cases ms : μ 0 11 = 3 ∧ μ 0 14 = 59
  · have s := sg.mpr ms
    have ss := step_sign s.1
    rw [hs] at ss
    have cv : V_X5_stepSign σ 59 = 1 := by unfold V_X5_stepSign; exact if_pos s
    have cn : ¬ V_X5_stepSign σ 59 = 0 := by omega
    have ev : V_X12_sign ν 59 = 1 := by unfold V_X12_sign; rw [z11, z14]; exact if_pos ms
    have ef : F_X12_sign ν 59 = F_X12_next ν := by unfold F_X12_sign; rw [z11, z14]; exact if_pos ms
    rw [if_neg cn, if_neg cn]
    have cr : ∀ k : Nat, k ≠ 35 → k ≠ 3 → σx k = σ k := fun k h5 h3 => by rw [cx cn k h5, st_r σ h3]
    have hBx : BB (σx 36) (σx 37) (σx 38) (σx 39) (σx 40) (σx 41) (σx 42) (σx 35 0) (σ 35 1) (μ 4) (μ 8) P F := by
      rw [cr 36 (by decide) (by decide), cr 37 (by decide) (by decide), cr 38 (by decide) (by decide), cr 39 (by decide) (by decide), cr 40 (by decide) (by decide), cr 41 (by decide) (by decide), cr 42 (by decide) (by decide), cx0]
      exact hB.1
    have nx35 : σx 35 0 = N := by rw [cx0]; exact n35
    have add := bb_add35 (σ := σx) (L' := ν 4) (O' := ν 8) (wh := wh) (on := on) (an := an) (f := f) (ex := ex) (tu := 0) hBx (by rw [nx35]; exact hN) (fun j j0 j1 => by rw [nx35] at j1; rw [q1 j j0 j1, mx 4 (by decide)]) (fun i i0 i1 => by rw [nx35] at i1; rw [q3 i (by omega), mx 8 (by decide)]) (by rw [nx35]; exact q2) (by rw [nx35]; exact q4) v (by rw [nx35]; exact y0) y1
    have ar := (add35_rows (σ := σx) (by rw [nx35]; exact hN) wh on an f ex 0).1
    have fr : ∀ k : Nat, k < 35 → F_X0_add_35 σx wh on an f ex 0 k = F_X5_step σ k := fun k hk => by rw [fr_F_X0_add_35 (h := by simp; omega)]; exact cx cn k (by omega)
    refine Or.inr (Or.inr ⟨rfl, rfl, ev, ?_, add.1, ⟨?_, ?_⟩, ?_, ?_, ?_, ?_, ?_⟩)
    · rw [ef]
      exact LK_next (TP_row hL.1 (fr 1 (by decide)) (fr 2 (by decide)) (by rw [fr 3 (by decide)]) (by rw [fr 3 (by decide)]) (by rw [pr 1 (by decide) (by decide), mx 1 (by decide)]) (z0 3 (by decide)) (z0 4 (by decide)) (z0 5 (by decide)))
    · rw [ar.1, nx35]
    · rw [ar.2, pr 0 (by decide) (by decide)]; exact d
    · have d1 := add.2
      rw [nx35] at d1
      rw [d1, fr 3 (by decide)]
      omega
    · rw [fr 3 (by decide)]; exact ss.2
    · rw [fr 3 (by decide), (step_vals σ).2.2.2.2.2]; exact hs
    · rw [fr 3 (by decide), (step_vals σ).2.2.2.2.1]; exact f7
    · rw [z0 15 (by decide)]; exact f15
  · have s : ¬ (F_X5_step σ 3 4 = 4 ∧ F_X5_step σ 3 6 = 59) := fun x => ms (sg.mp x)
    have cv : V_X5_stepSign σ 59 = 0 := by unfold V_X5_stepSign; exact if_neg s
    have cf : F_X5_stepSign σ 59 = zu (F_X5_step σ) 3 7 1 := by unfold F_X5_stepSign; exact if_neg s
    have ev : V_X12_sign ν 59 = 0 := by unfold V_X12_sign; rw [z11, z14]; exact if_neg ms
    have ef : F_X12_sign ν 59 = zu (zu ν 0 15 1) 0 16 (μ 0 12) := by unfold F_X12_sign; rw [z11, z14, z12]; exact if_neg ms
    rw [if_pos cv, if_pos cv]
    refine Or.inr (Or.inl ⟨rfl, rfl, ev, ?_, ?_⟩)
    · rw [cf, ef, zu_at, zu_off _ _ _ (by decide), zu_at]
    · rw [cf, ef, zu_at, zu_off _ _ _ (by decide)]; exact hL.2.1
theorem ss_35 (σ : zG) (c : Int) {k : Nat} (h : k ≠ 3) : F_X5_stepSign σ c k = σ k := fr_F_X5_stepSign σ c (by simpa using h)
theorem pcn_at_0 : pcn 0 = 0 := by decide +kernel
theorem WI_0 {P on an : Int} (hP : 0 ≤ P ∧ P ≤ 8) (ho : 0 ≤ on ∧ on < P) (ha : 0 ≤ an ∧ an < P) (hne : on ≠ an) (t : Int → Int) : WI P on an (bor (bshl 1 on) (bshl 1 an)) 0 0 0 t := by
  have b0 := bor_bit (m := 0) (by decide) (by decide) ho.1 (show on < 8 by omega)
  have e0 : bor 0 (bshl 1 on) = bshl 1 on := by
    obtain ⟨c, rfl⟩ := toN2 ho.1
    have e := (bit_nat (c := c) (by omega))
    rw [e.1, show (0 : Int) = ((0 : Nat) : Int) from rfl, bor_nat (by decide) (by omega), Nat.zero_or]
  rw [e0] at b0
  have br := bit_r (c := on) ⟨ho.1, by omega⟩
  have br2 := bit_r (c := an) ⟨ha.1, by omega⟩
  have b1 := bor_bit (m := bshl 1 on) (by omega) b0.2 ha.1 (show an < 8 by omega)
  have nh : ¬ hb (bshl 1 on) an := by rw [hb_bit ⟨ho.1, by omega⟩ ⟨ha.1, by omega⟩]; omega
  have n0 : ¬ hb 0 on := hb_0 ⟨ho.1, by omega⟩
  refine ⟨⟨by omega, b1.2⟩, ⟨by decide, by decide⟩, fun i i0 i1 => ?_, ?_, pcn_at_0.symm, rfl, fun k k0 k1 => by omega, fun j j0 j1 => hb_0 ⟨by omega, by omega⟩⟩
  · rw [hb_bor br br2 ⟨i0, by omega⟩, hb_bit ⟨ho.1, by omega⟩ ⟨i0, by omega⟩, hb_bit ⟨ha.1, by omega⟩ ⟨i0, by omega⟩]
    constructor
    · rintro (x | x)
      · exact Or.inl x
      · exact Or.inr (Or.inl x)
    · rintro (x | x | x)
      · exact Or.inl x
      · exact Or.inr x
      · exact absurd x (hb_0 ⟨i0, by omega⟩)
  · have a := pcn_bit (x := 0) (a := on) ⟨by decide, by decide⟩ ⟨ho.1, by omega⟩ n0
    rw [e0] at a
    rw [pcn_bit ⟨by omega, b0.2⟩ ⟨ha.1, by omega⟩ nh, a]; omega
theorem deed_sim {P F N s0 on wh to : Int} {σ μ : zG} (hP8 : 0 ≤ P ∧ P ≤ 8) (hF : 0 ≤ F ∧ F ≤ 12) (ho : 0 ≤ on ∧ on < P) (hto : to = 5 * N) (hN : N < 60) (hK : KW σ μ) (hC : KC σ) (hP : TP σ μ) (hE : WE σ) (hp : σ 5 0 = P ∧ μ 2 0 = P ∧ σ 5 1 = F ∧ μ 2 1 = F ∧ μ 0 21 = N ∧ σ 3 2 = s0 ∧ σ 3 7 = 0 ∧ μ 0 15 = 0) (hw6 : ∀ i : Int, 0 ≤ i → i < P → wr (σ 6 i) (μ 5 (0 + i))) (hw8 : ∀ i : Int, 0 ≤ i → i < F → wr (σ 8 i) (μ 5 (8 + i))) (hB : BR P F σ μ) (hb7 : 7 * ds (μ 4) N.toNat + 1 ≤ σ 3 3) (hwh : (wh = V_X5_keyword (F_X5_step σ) - 10 ∧ 1 ≤ wh ∧ wh ≤ 4) ∨ (wh = -1 ∧ (V_X5_keyword (F_X5_step σ) < 11 ∨ 14 < V_X5_keyword (F_X5_step σ)))) :
    LOb P F N s0 (V_X0_takeDeed σ on) (F_X0_takeDeed σ on) (L_X12_bookLine_200 to on wh 1 (F_X12_next μ)).1 (L_X12_bookLine_200 to on wh 1 (F_X12_next μ)).2 := by
  obtain ⟨p1, p2, p3, p4, p5, p6, p7, p15⟩ := hp
  have hL1 := LK_next hP
  have hT0 := TC_of hP
  unfold V_X0_takeDeed F_X0_takeDeed
  rw [L_X12_bookLine_200, nx_r μ (show (2 : Nat) ≠ 0 by decide), p1, p2, p3, p4]
  rcases hwh with ⟨e, w1, w4⟩ | ⟨e, w⟩
  · generalize hkw : V_X5_keyword (F_X5_step σ) = kw at *
    have k2 := kw_2 (show (0 : Int) ≤ kw by omega) hkw
    rw [if_neg (show ¬ kw < 11 by omega), if_neg (show ¬ kw < 11 by omega), if_pos (show kw ≤ 14 by omega), if_pos (show kw ≤ 14 by omega), if_pos (show 0 ≤ wh by omega)]
    have hL2 := LK_next hL1.1
    have hK2 : KW (F_X5_step σ) (F_X12_next (F_X12_next μ)) := KW_row hK (st_r σ (by decide)) (by rw [nx_r _ (by decide), nx_r _ (by decide)])
    have nm := name6_h hK2 hL2 hP8 (by rw [st_r σ (show (6 : Nat) ≠ 3 by decide), nx_r _ (show (5 : Nat) ≠ 0 by decide), nx_r _ (show (5 : Nat) ≠ 0 by decide)]; exact hw6)
    rcases nm with ⟨a1, a2, a3, a4⟩ | ⟨a1, a2, a3, a4, a5⟩ | ⟨a1, a2, a3, a4⟩
    · rw [if_pos a2, if_pos a2, if_pos a1]
      refine Or.inl ⟨rfl, rfl, ?_, ?_⟩
      · show _ = zu (zu (F_X12_next (F_X12_next μ)) 0 15 1) 0 16 (F_X12_next (F_X12_next μ) 0 12) 0 15
        rw [zu_off _ _ _ (by decide), zu_at]; exact a3
      · show _ = zu (zu (F_X12_next (F_X12_next μ)) 0 15 1) 0 16 (F_X12_next (F_X12_next μ) 0 12) 0 16
        rw [zu_at]; exact a4
    · rw [if_pos a3, if_pos a3, if_neg a1, if_pos a2]
      refine Or.inl ⟨rfl, rfl, ?_, ?_⟩
      · show _ = zu (zu (F_X12_next (F_X12_next μ)) 0 15 3) 0 16 (F_X12_next (F_X12_next μ) 0 12) 0 15
        rw [zu_off _ _ _ (by decide), zu_at]; exact a4
      · show _ = zu (zu (F_X12_next (F_X12_next μ)) 0 15 3) 0 16 (F_X12_next (F_X12_next μ) 0 12) 0 16
        rw [zu_at]; exact a5
    · have t2 := TK_w hL2.2 (isName_tok a1)
      have a5 : F_X5_step (F_X5_step σ) 3 5 = F_X12_next (F_X12_next μ) 0 12 := hL2.2.1
      rw [a3, a4, if_neg a1]
      generalize hr : R_X12_find (F_X12_next (F_X12_next μ)) 0 P = r at *
      rw [if_neg (show ¬ r = -1 by omega), if_neg (show ¬ r = -1 by omega), if_neg (show ¬ r < 0 by omega)]
      by_cases c1 : r = on
      · rw [if_pos c1, if_pos c1, if_pos c1]
        refine Or.inl ⟨rfl, rfl, ?_, ?_⟩
        · show zu (F_X5_step (F_X5_step σ)) 3 7 3 3 7 = zu (zu (F_X12_next (F_X12_next μ)) 0 15 3) 0 16 (F_X12_next (F_X12_next μ) 0 12) 0 15
          rw [zu_at, zu_off _ _ _ (by decide), zu_at]
        · show zu (F_X5_step (F_X5_step σ)) 3 7 3 3 5 = zu (zu (F_X12_next (F_X12_next μ)) 0 15 3) 0 16 (F_X12_next (F_X12_next μ) 0 12) 0 16
          rw [zu_off _ _ _ (by decide), zu_at]; exact a5
      · rw [if_neg c1, if_neg c1, if_neg c1]
        have hL3 := LK_next hL2.1
        have s1 := step_word hT0 k2
        have hT1 := TC_step hT0
        have s2 := step_word hT1 t2.1
        have hT2 := TC_step hT1
        have q32 : F_X5_step (F_X5_step σ) 3 2 = s0 := by rw [(step_vals _).2.2.2.2.2, (step_vals _).2.2.2.2.2]; exact p6
        have f72 : F_X5_step (F_X5_step σ) 3 7 = 0 := by rw [(step_vals _).2.2.2.2.1, (step_vals _).2.2.2.2.1]; exact p7
        have f153 : F_X12_next (F_X12_next (F_X12_next μ)) 0 15 = 0 := by rw [nx_15, nx_15, nx_15]; exact p15
        have cr2 : ∀ k : Nat, k ≠ 3 → F_X5_step (F_X5_step σ) k = σ k := fun k hk => by rw [st_r _ hk, st_r _ hk]
        have mr3 : ∀ k : Nat, k ≠ 0 → F_X12_next (F_X12_next (F_X12_next μ)) k = μ k := fun k hk => by rw [nx_r _ hk, nx_r _ hk, nx_r _ hk]
        have mz3 : ∀ j : Int, KI j → F_X12_next (F_X12_next (F_X12_next μ)) 0 j = μ 0 j := fun j hj => by rw [kp_next _ j hj, kp_next _ j hj, kp_next _ j hj]
        obtain ⟨we1, g1, l1, ⟨x1, x2⟩, x3, x4, x5⟩ := s1
        obtain ⟨we2, g2, l2, ⟨y1, y2⟩, y3, y4, y5⟩ := s2
        have g1' := x4 hE
        have g2' := y4 we1
        clear x4 x5 y4 y5 t2 a5 hr
        generalize F_X5_step (F_X5_step σ) = σ2 at *
        generalize F_X12_next (F_X12_next (F_X12_next μ)) = μ3 at *
        have hK3 : KW σ2 μ3 := KW_row hK (cr2 4 (by decide)) (mr3 6 (by decide))
        rcases name8_sim hK3 hL3 hF (by rw [cr2 8 (by decide), mr3 5 (by decide)]; exact hw8) with ⟨b1, b2, b3, b4⟩ | ⟨b1, b2, b3, b4, b5, b6, b7⟩
        · rw [if_pos b2, if_pos b2, if_pos b1]
          exact Or.inl ⟨rfl, rfl, b3, b4⟩
        · have tok : ¬ R_X12_isName μ3 = 0 := by
            intro x
            unfold V_X12_takesName at b1
            rw [if_pos x] at b1
            omega
          have t3 := TK_w hL3.2 (isName_tok tok)
          obtain ⟨we3, g3, l3, ⟨z1, z2⟩, z3, z4, z5⟩ := step_word hT2 t3.1
          have g3' := z4 we2
          have hT3 := TC_step hT2
          rw [b2, if_neg (show ¬ R_X12_find μ3 8 F = -1 by omega), if_neg (show ¬ R_X12_find μ3 8 F = -1 by omega), if_neg (show ¬ V_X12_takesName μ3 8 F = 0 by omega), b4]
          rw [b6] at b5 ⊢
          have q33 : F_X5_step σ2 3 2 = s0 := by rw [(step_vals _).2.2.2.2.2]; exact q32
          have f73 : F_X5_step σ2 3 7 = 0 := by rw [(step_vals _).2.2.2.2.1]; exact f72
          have f154 : F_X12_takesName μ3 8 F 0 15 = 0 := by rw [b7, nx_15, zu_off _ _ _ (by decide)]; exact f153
          have cr3 : ∀ k : Nat, k ≠ 3 → F_X5_step σ2 k = σ k := fun k hk => by rw [st_r _ hk]; exact cr2 k hk
          have mr4 : ∀ k : Nat, k ≠ 0 → F_X12_takesName μ3 8 F k = μ k := fun k hk => by rw [b7, nx_r _ hk, zu_row _ _ _ hk]; exact mr3 k hk
          have mz4 : ∀ j : Int, KI j → F_X12_takesName μ3 8 F 0 j = μ 0 j := fun j hj => by rw [kp_takesName _ _ _ j hj]; exact mz3 j hj
          clear z4 z5 t3 b4 b7 tok
          generalize R_X12_find μ3 8 F = ff at *
          generalize F_X12_takesName μ3 8 F = μ4 at *
          generalize F_X5_step σ2 = σ3 at *
          have hB3 : BR P F σ3 μ4 := BR_row hB (fun k k0 k1 => cr3 k (by omega)) (mr4 4 (by decide)) (mr4 8 (by decide)) (mz4 21 (by unfold KI; decide)) (mz4 22 (by unfold KI; decide))
          have m21 : μ4 0 21 = N := by rw [mz4 21 (by unfold KI; decide)]; exact p5
          have d4 : μ4 4 = μ 4 := mr4 4 (by decide)
          by_cases k11 : kw = 11
          · rw [if_pos k11, if_pos k11]
            have ew : wh = 1 := by omega
            subst ew
            unfold V_X0_takeWith F_X0_takeWith R_X0_takeWith
            refine with_loop hP8 ho a2 (fun x => c1 x.symm) b3 hto hN 20 1000 _ 0 0 0 σ3 μ4 ?_ ?_ b5 we3 hT3 ⟨?_, ?_, m21, q33, f73, f154⟩ ?_ hB3 (WI_0 hP8 ho a2 (fun x => c1 x.symm) _) ?_ (by decide) (by decide)
            · exact KW_row hK (cr3 4 (by decide)) (mr4 6 (by decide))
            · exact KC_row hC (cr3 4 (by decide))
            · rw [cr3 5 (by decide)]; exact p1
            · rw [mr4 2 (by decide)]; exact p2
            · rw [cr3 6 (by decide), mr4 5 (by decide)]; exact hw6
            · rw [d4]; omega
          · rw [if_neg k11, if_neg k11, L_X12_bookLine_287, if_neg (show ¬ wh = 1 by omega)]
            by_cases k14 : kw = 14
            · rw [if_pos k14, if_pos k14, if_pos (show wh = 4 by omega)]
              rcases num_sim (lo := 0) (hi := 99) b5 (by decide) with ⟨n1, n2, n3, n4⟩ | ⟨n1, n2, n3, n4, n5, n6⟩
              · rw [if_pos n2, if_pos n2, if_pos n1]
                exact Or.inl ⟨rfl, rfl, n3, n4⟩
              · rw [n2, if_neg (show ¬ F_X12_takes μ4 0 99 0 18 = -1 by omega), if_neg (show ¬ F_X12_takes μ4 0 99 0 18 = -1 by omega), if_neg (show ¬ V_X12_takes μ4 0 99 = 0 by omega)]
                rw [n5] at n4 ⊢
                have cr5 : ∀ k : Nat, k ≠ 3 → F_X5_step σ3 k = σ3 k := fun k hk => st_r σ3 hk
                have mr5 : ∀ k : Nat, k ≠ 0 → F_X12_takes μ4 0 99 k = μ4 k := fun k hk => by rw [n6, nx_r _ hk, zu_row _ _ _ hk]
                have mz5 : ∀ j : Int, KI j → F_X12_takes μ4 0 99 0 j = μ4 0 j := fun j hj => kp_takes _ _ _ j hj
                have sm := step_mono σ3
                have q34 : F_X5_step σ3 3 2 = s0 := by rw [(step_vals _).2.2.2.2.2]; exact q33
                have f74 : F_X5_step σ3 3 7 = 0 := by rw [(step_vals _).2.2.2.2.1]; exact f73
                have f155 : F_X12_takes μ4 0 99 0 15 = 0 := by rw [n6, nx_15, zu_off _ _ _ (by decide)]; exact f154
                clear n6
                generalize F_X12_takes μ4 0 99 = μ5 at *
                generalize F_X5_step σ3 = σ4 at *
                have hB5 : BR P F σ4 μ5 := BR_row hB3 (fun k k0 k1 => cr5 k (by omega)) (mr5 4 (by decide)) (mr5 8 (by decide)) (mz5 21 (by unfold KI; decide)) (mz5 22 (by unfold KI; decide))
                have m215 : μ5 0 21 = N := by rw [mz5 21 (by unfold KI; decide)]; exact m21
                rw [← e, hto]
                have e4 : dk wh (μ5 0 18) = 0 := by unfold dk; rw [if_neg (by omega), if_neg (by omega)]
                refine end_sim n4 hB5 m215 hN q34 f74 f155 (fun h k _ => by rw [stepSign_ok h]) (by rw [ss_35 _ _ (by decide)]) (fun _ _ => rfl) (fun _ _ => rfl) (by rw [ss_35 _ _ (by decide)]; exact hB5.2.2) ⟨by omega, fun _ => ⟨ho, a2, fun x => c1 x.symm, b3⟩, fun x => by omega, fun _ => n3⟩ (fun x => by omega) (fun _ => by rw [ss_35 _ _ (by decide)]) ?_
                rw [e4, mr5 4 (by decide), d4]; omega
            · rw [if_neg k14, if_neg k14, if_neg (show ¬ wh = 4 by omega), ← e, hto]
              have e4 : dk wh 0 ≤ 1 := by unfold dk; rw [if_neg (by omega)]; split <;> omega
              refine end_sim b5 hB3 m21 hN q33 f73 f154 (fun h k _ => by rw [stepSign_ok h]) (by rw [ss_35 _ _ (by decide)]) (fun _ _ => rfl) (fun _ _ => rfl) (by rw [ss_35 _ _ (by decide)]; exact hB3.2.2) ⟨by omega, fun _ => ⟨ho, a2, fun x => c1 x.symm, b3⟩, fun x => by omega, fun x => by omega⟩ (fun x => by omega) (fun _ => by rw [ss_35 _ _ (by decide)]) ?_
              rw [d4]; omega
  · have bad : LOb P F N s0 0 (zu (F_X5_step σ) 3 7 1) ((0 : Int), zu (zu (F_X12_next μ) 0 15 1) 0 16 (F_X12_next μ 0 12)).1 ((0 : Int), zu (zu (F_X12_next μ) 0 15 1) 0 16 (F_X12_next μ 0 12)).2 := by
      refine Or.inl ⟨rfl, rfl, ?_, ?_⟩
      · show _ = zu (zu (F_X12_next μ) 0 15 1) 0 16 (F_X12_next μ 0 12) 0 15
        rw [zu_at, zu_off _ _ _ (by decide), zu_at]
      · show _ = zu (zu (F_X12_next μ) 0 15 1) 0 16 (F_X12_next μ 0 12) 0 16
        rw [zu_off _ _ _ (by decide), zu_at]; exact hL1.2.1
    rw [if_neg (show ¬ 0 ≤ wh by omega)]
    generalize V_X5_keyword (F_X5_step σ) = kw at *
    by_cases c : kw < 11
    · rw [if_pos c, if_pos c]; exact bad
    · rw [if_neg c, if_neg c, if_neg (show ¬ kw ≤ 14 by omega), if_neg (show ¬ kw ≤ 14 by omega)]; exact bad
