/-! pure: a one on both sides, and a whole sentence -/
theorem atom_kw {σ μ : zG} (hC : KC σ) (hT : TK σ μ) : V_X12_atom μ = if 19 ≤ V_X5_keyword σ ∧ V_X5_keyword σ ≤ 25 then V_X5_keyword σ - 19 else -1 := by
  have k19 := kw_m (k := 19) (c := 6840691) hC hT (by decide) (by decide) ⟨by decide, by decide, ⟨by decide, by decide⟩, by decide, by decide⟩
  have k20 := kw_m (k := 20) (c := 1818326117) hC hT (by decide) (by decide) ⟨by decide, by decide, ⟨by decide, by decide⟩, by decide, by decide⟩
  have k21 := kw_m (k := 21) (c := 1870095731) hC hT (by decide) (by decide) ⟨by decide, by decide, ⟨by decide, by decide⟩, by decide, by decide⟩
  have k22 := kw_m (k := 22) (c := 431197680755) hC hT (by decide) (by decide) ⟨by decide, by decide, ⟨by decide, by decide⟩, by decide, by decide⟩
  have k23 := kw_m (k := 23) (c := 1885432164) hC hT (by decide) (by decide) ⟨by decide, by decide, ⟨by decide, by decide⟩, by decide, by decide⟩
  have k24 := kw_m (k := 24) (c := 1752527476) hC hT (by decide) (by decide) ⟨by decide, by decide, ⟨by decide, by decide⟩, by decide, by decide⟩
  have k25 := kw_m (k := 25) (c := 427070942835) hC hT (by decide) (by decide) ⟨by decide, by decide, ⟨by decide, by decide⟩, by decide, by decide⟩
  unfold V_X12_atom
  generalize V_X5_keyword σ = K at *
  by_cases c19 : K = 19
  · rw [if_pos (k19.mp c19), if_pos (by omega)]; omega
  rw [if_neg (fun x => c19 (k19.mpr x))]
  by_cases c20 : K = 20
  · rw [if_pos (k20.mp c20), if_pos (by omega)]; omega
  rw [if_neg (fun x => c20 (k20.mpr x))]
  by_cases c21 : K = 21
  · rw [if_pos (k21.mp c21), if_pos (by omega)]; omega
  rw [if_neg (fun x => c21 (k21.mpr x))]
  by_cases c22 : K = 22
  · rw [if_pos (k22.mp c22), if_pos (by omega)]; omega
  rw [if_neg (fun x => c22 (k22.mpr x))]
  by_cases c23 : K = 23
  · rw [if_pos (k23.mp c23), if_pos (by omega)]; omega
  rw [if_neg (fun x => c23 (k23.mpr x))]
  by_cases c24 : K = 24
  · rw [if_pos (k24.mp c24), if_pos (by omega)]; omega
  rw [if_neg (fun x => c24 (k24.mpr x))]
  by_cases c25 : K = 25
  · rw [if_pos (k25.mp c25), if_pos (by omega)]; omega
  rw [if_neg (fun x => c25 (k25.mpr x)), if_neg (by omega)]
/-- a not or a bracket pushed on both sides -/
theorem RS_in {F x : Int} {σ μ : zG} {C : List (Int × Int × Int)} {P : List Int} (h : RS F σ μ C) (hc : CP μ C P) (h20 : μ 0 68 < 20) :
    RS F (F_X5_step (zu σ 48 0 (μ 0 68 + 1))) (zu (zu (F_X12_next (zu μ 0 68 (μ 0 68 + 1))) 37 (μ 0 67) x) 0 67 (μ 0 67 + 1)) C ∧ CP (zu (zu (F_X12_next (zu μ 0 68 (μ 0 68 + 1))) 37 (μ 0 67) x) 0 67 (μ 0 67 + 1)) C (x :: P) ∧ zu (zu (F_X12_next (zu μ 0 68 (μ 0 68 + 1))) 37 (μ 0 67) x) 0 67 (μ 0 67 + 1) 0 68 = μ 0 68 + 1 := by
  obtain ⟨⟨hP0, hT0⟩, hB, hR⟩ := h
  have hones := hR.2.1
  have hP1 : TP (zu σ 48 0 (μ 0 68 + 1)) (zu μ 0 68 (μ 0 68 + 1)) := TP_row hP0 (zu_row _ _ _ (by decide)) (zu_row _ _ _ (by decide)) (zu_ne _ _ _ _ (by decide)) (zu_ne _ _ _ _ (by decide)) (zu_row _ _ _ (by decide)) (zu_off _ _ _ (by decide)) (zu_off _ _ _ (by decide)) (zu_off _ _ _ (by decide))
  have hL := LK_next hP1
  have n67 : F_X12_next (zu μ 0 68 (μ 0 68 + 1)) 0 67 = μ 0 67 := by rw [kp_next _ 67 (by unfold KI; decide), zu_off _ _ _ (by decide)]
  have n68 : F_X12_next (zu μ 0 68 (μ 0 68 + 1)) 0 68 = μ 0 68 + 1 := by rw [kp_next _ 68 (by unfold KI; decide), zu_at]
  have nr : ∀ k : Nat, k ≠ 0 → F_X12_next (zu μ 0 68 (μ 0 68 + 1)) k = μ k := fun k hk => by rw [nx_r _ hk, zu_row _ _ _ hk]
  have n15 : F_X12_next (zu μ 0 68 (μ 0 68 + 1)) 0 15 = μ 0 15 := by rw [nx_15, zu_off _ _ _ (by decide)]
  have cr : ∀ k : Nat, k ≠ 48 → zu σ 48 0 (μ 0 68 + 1) k = σ k := fun k hk => zu_row _ _ _ hk
  have hc1 : CP (F_X12_next (zu μ 0 68 (μ 0 68 + 1))) C P := CP_row hc (by rw [kp_next _ 66 (by unfold KI; decide), zu_off _ _ _ (by decide)]) n67 (nr 36 (by decide)) (nr 37 (by decide))
  have pc := CP_push hc1 x
  rw [n67] at pc
  have hR1 : RC F (zu σ 48 0 (μ 0 68 + 1)) (F_X12_next (zu μ 0 68 (μ 0 68 + 1))) C := by
    refine ⟨⟨by rw [zu_off _ _ _ (by decide)]; exact hR.1.1, by rw [cr 49 (by decide), cr 50 (by decide), cr 51 (by decide)]; exact hR.1.2⟩, ?_, hR.2.2⟩
    rw [zu_at, n68]; omega
  have e0 : ∀ j : Int, j ≠ 67 → zu (zu (F_X12_next (zu μ 0 68 (μ 0 68 + 1))) 37 (μ 0 67) x) 0 67 (μ 0 67 + 1) 0 j = F_X12_next (zu μ 0 68 (μ 0 68 + 1)) 0 j := fun j hj => by rw [zu_off _ _ _ hj, zu_ne _ _ _ _ (by decide)]
  have er : ∀ k : Nat, k ≠ 0 → k ≠ 37 → zu (zu (F_X12_next (zu μ 0 68 (μ 0 68 + 1))) 37 (μ 0 67) x) 0 67 (μ 0 67 + 1) k = F_X12_next (zu μ 0 68 (μ 0 68 + 1)) k := fun k k0 k7 => by rw [zu_row _ _ _ k0, zu_row _ _ _ k7]
  refine ⟨⟨⟨TP_row hL.1 rfl rfl rfl rfl (er 1 (by decide) (by decide)) (e0 3 (by decide)) (e0 4 (by decide)) (e0 5 (by decide)), TK_row hL.2 rfl rfl rfl (e0 11 (by decide)) (e0 12 (by decide)) (e0 14 (by decide)) (e0 17 (by decide))⟩, RB_row hB ?_ ?_ ?_ ?_ ?_ ?_ ?_ ?_, RC_row hR1 ?_ ?_ ?_ ?_ (e0 68 (by decide))⟩, pc, ?_⟩
  · rw [st_r _ (by decide), cr 4 (by decide)]
  · rw [st_r _ (by decide), cr 5 (by decide)]
  · rw [st_r _ (by decide), cr 8 (by decide)]
  · rw [(step_vals _).2.2.2.2.1, cr 3 (by decide)]
  · rw [er 2 (by decide) (by decide), nr 2 (by decide)]
  · rw [er 5 (by decide) (by decide), nr 5 (by decide)]
  · rw [er 6 (by decide) (by decide), nr 6 (by decide)]
  · rw [e0 15 (by decide), n15]
  · exact st_r _ (by decide)
  · exact st_r _ (by decide)
  · exact st_r _ (by decide)
  · exact st_r _ (by decide)
  · rw [e0 68 (by decide), n68]
theorem M1_bad {m n : Nat} {μ : zG} {x : Int} (h : L_X12_one_0 m μ = (0, zu (zu μ 0 15 x) 0 16 (μ 0 12))) {σ : zG} (hT : TK σ μ) : FL (zu σ 3 7 x) (M1 m n μ) := by
  unfold M1
  rw [h]
  refine ⟨rfl, ?_, ?_⟩
  · show zu σ 3 7 x 3 7 = zu (zu μ 0 15 x) 0 16 (μ 0 12) 0 15
    rw [zu_at, zu_off _ _ _ (by decide), zu_at]
  · show zu σ 3 7 x 3 5 = zu (zu μ 0 15 x) 0 16 (μ 0 12) 0 16
    rw [zu_off _ _ _ (by decide), zu_at]; exact hT.1
theorem M1_in {m n : Nat} {μ ν : zG} (h : L_X12_one_0 (m + 1) μ = L_X12_one_0 m ν) : M1 (m + 1) n μ = M1 m n ν := by
  unfold M1
  rw [h]
/-- what the model does at a one, by the class's token -/
theorem one_case {σ μ : zG} (hC : KC σ) (hT : TK σ μ) (m : Nat) :
    (¬ (σ 3 4 = 4 ∧ σ 3 6 = 40) → V_X5_keyword σ < 18 → L_X12_one_0 (m + 1) μ = (0, zu (zu μ 0 15 1) 0 16 (μ 0 12))) ∧
    (((σ 3 4 = 4 ∧ σ 3 6 = 40) ∨ 18 ≤ V_X5_keyword σ) → (μ 0 68 = 20 ∨ R_X12_opened μ = 8) → L_X12_one_0 (m + 1) μ = (0, zu (zu μ 0 15 4) 0 16 (μ 0 12))) ∧
    (¬ (μ 0 68 = 20 ∨ R_X12_opened μ = 8) → V_X5_keyword σ = 18 → L_X12_one_0 (m + 1) μ = L_X12_one_0 m (zu (zu (F_X12_next (zu μ 0 68 (μ 0 68 + 1))) 37 (μ 0 67) 7) 0 67 (μ 0 67 + 1))) ∧
    (¬ (μ 0 68 = 20 ∨ R_X12_opened μ = 8) → (σ 3 4 = 4 ∧ σ 3 6 = 40) → L_X12_one_0 (m + 1) μ = L_X12_one_0 m (zu (zu (F_X12_next (zu μ 0 68 (μ 0 68 + 1))) 37 (μ 0 67) 10) 0 67 (μ 0 67 + 1))) ∧
    (¬ (μ 0 68 = 20 ∨ R_X12_opened μ = 8) → 19 ≤ V_X5_keyword σ → L_X12_one_0 (m + 1) μ = (V_X12_asks (F_X12_next (zu μ 0 68 (μ 0 68 + 1))) (V_X5_keyword σ - 19), F_X12_asks (F_X12_next (zu μ 0 68 (μ 0 68 + 1))) (V_X5_keyword σ - 19))) := by
  have k18 := kw_m (k := 18) (c := 7237492) hC hT (by decide) (by decide) ⟨by decide, by decide, ⟨by decide, by decide⟩, by decide, by decide⟩
  have ka := atom_kw hC hT
  have kb := TK_s hT 40
  have kr := kw_r (σ := σ)
  have kx : (σ 3 4 = 4 ∧ σ 3 6 = 40) → V_X5_keyword σ = -1 := fun x => by
    unfold V_X5_keyword
    rw [if_neg (by omega)]
  rw [L_X12_one_0, ka]
  generalize V_X5_keyword σ = K at *
  refine ⟨fun nb hk => ?_, fun hk h4 => ?_, fun h4 hk => ?_, fun h4 hb => ?_, fun h4 hk => ?_⟩
  · rw [if_neg (fun x => by have := k18.mpr x; omega), if_neg (show ¬ (19 ≤ K ∧ K ≤ 25) by omega), if_neg (show ¬ (0 : Int) ≤ -1 by decide), if_neg (fun x => nb (kb.mpr x))]
  · have g : ∀ (z : Int × zG), (if μ 0 68 = 20 then ((0 : Int), zu (zu μ 0 15 4) 0 16 (μ 0 12)) else (if R_X12_opened μ = 8 then (0, zu (zu μ 0 15 4) 0 16 (μ 0 12)) else z)) = (0, zu (zu μ 0 15 4) 0 16 (μ 0 12)) := fun z => by
      by_cases c : μ 0 68 = 20
      · rw [if_pos c]
      · rw [if_neg c, if_pos (h4.resolve_left c)]
    rw [g, g, g]
    by_cases c18 : K = 18
    · rw [if_pos (k18.mp c18)]
    · rw [if_neg (fun x => c18 (k18.mpr x))]
      by_cases c19 : 19 ≤ K ∧ K ≤ 25
      · rw [if_pos c19, if_pos (show 0 ≤ K - 19 by omega)]
      · rw [if_neg c19, if_neg (show ¬ (0 : Int) ≤ -1 by decide)]
        rcases hk with x | x
        · rw [if_pos (kb.mp x)]
        · omega
  · rw [if_pos (k18.mp hk), if_neg (fun x => h4 (Or.inl x)), if_neg (fun x => h4 (Or.inr x)), if_neg (show ¬ (19 ≤ K ∧ K ≤ 25) by omega), if_neg (show ¬ (0 : Int) ≤ -1 by decide)]
  · have hK := kx hb
    rw [if_neg (fun x => by have := k18.mpr x; omega), if_neg (show ¬ (19 ≤ K ∧ K ≤ 25) by omega), if_neg (show ¬ (0 : Int) ≤ -1 by decide), if_pos (kb.mp hb), if_neg (fun x => h4 (Or.inl x)), if_neg (fun x => h4 (Or.inr x))]
  · rw [if_neg (fun x => by have := k18.mpr x; omega), if_pos (show 19 ≤ K ∧ K ≤ 25 by omega), if_pos (show 0 ≤ K - 19 by omega), if_neg (fun x => h4 (Or.inl x)), if_neg (fun x => h4 (Or.inr x))]
theorem one_0 (F : Int) : cO F 0 := by
  intro m n dp σ μ C P hB
  obtain ⟨hR, hc, hd, ⟨hl, hg⟩, hm, hn⟩ := hB
  have h68 := hR.2.2.2.1
  have op := opened_l hc (by omega)
  have o8 : R_X12_opened μ = 8 := by rw [op]; omega
  obtain ⟨m1, rfl⟩ : ∃ m1 : Nat, m = m1 + 1 := ⟨m - 1, by omega⟩
  obtain ⟨w1, w2, _, _, _⟩ := one_case hR.2.1.1.2 hR.1.2 m1
  have kr := kw_r (σ := σ)
  refine Or.inl ⟨rfl, ?_⟩
  show FL (F_X6_takeOne0 σ) _
  unfold F_X6_takeOne0
  by_cases b : σ 3 4 = 4 ∧ σ 3 6 = 40
  · rw [if_pos b]
    exact M1_bad (w2 (Or.inl b) (Or.inr o8)) hR.1.2
  · rw [if_neg b]
    by_cases c : V_X5_keyword σ < 18
    · rw [if_pos c]
      exact M1_bad (w1 b c) hR.1.2
    · rw [if_neg c, if_pos (show V_X5_keyword σ ≤ 25 by omega)]
      exact M1_bad (w2 (Or.inr (by omega)) (Or.inr o8)) hR.1.2
theorem one_s {F : Int} {k : Nat} (hO : cO F k) (hCn : cC F k) : cO F (k + 1) := by
  intro m n dp σ μ C P hB
  obtain ⟨hR, hc, hd, ⟨hl, hg⟩, hm, hn⟩ := id hB
  have h68 := hR.2.2.2.1
  have op := opened_l hc (by omega)
  have o8 : ¬ R_X12_opened μ = 8 := by rw [op]; omega
  obtain ⟨m1, rfl⟩ : ∃ m1 : Nat, m = m1 + 1 := ⟨m - 1, by omega⟩
  obtain ⟨w1, w2, w3, w4, w5⟩ := one_case hR.2.1.1.2 hR.1.2 m1
  have kr := kw_r (σ := σ)
  have e48 : σ 48 0 = μ 0 68 := h68.1
  have et : tO (k + 1) dp σ = (V_X6_takeOne σ (tO k) (tC k) dp, F_X6_takeOne σ (tO k) (tC k) dp) := rfl
  rw [et]
  show (V_X6_takeOne σ (tO k) (tC k) dp = 0 ∧ FL (F_X6_takeOne σ (tO k) (tC k) dp) (M1 (m1 + 1) n μ)) ∨ (V_X6_takeOne σ (tO k) (tC k) dp = 1 ∧ ∃ (s n' : Nat) (μ' : zG) (C' : List (Int × Int × Int)), M1 (m1 + 1) n μ = AO s n' μ' ∧ (40 ≤ s + (k + 1) ∧ 22 ≤ (n' : Int) + μ' 0 68) ∧ RS F (F_X6_takeOne σ (tO k) (tC k) dp) μ' C' ∧ CP μ' (wdl 3 C' P).1 (wdl 3 C' P).2 ∧ hgl C' = hgl C + 1 ∧ (C'.length : Int) + P.length + 1 ≤ 2 * μ' 0 68 ∧ μ 0 68 + 1 ≤ μ' 0 68)
  unfold V_X6_takeOne F_X6_takeOne
  rw [e48, w32_id (z := μ 0 68 + 1) ⟨by omega, by omega⟩]
  have dp8 : dp ≤ 8 := by omega
  by_cases b : σ 3 4 = 4 ∧ σ 3 6 = 40
  · rw [if_pos b, if_pos b]
    by_cases c20 : 20 ≤ μ 0 68
    · rw [if_pos c20, if_pos c20]
      exact Or.inl ⟨rfl, M1_bad (w2 (Or.inl b) (Or.inl (by omega))) hR.1.2⟩
    · rw [if_neg c20, if_neg c20, if_pos dp8, if_pos dp8]
      have nb : ¬ (μ 0 68 = 20 ∨ R_X12_opened μ = 8) := by omega
      rw [M1_in (w4 nb b)]
      obtain ⟨r1, r2, r3⟩ := RS_in (x := 10) hR hc (by omega)
      generalize zu (zu (F_X12_next (zu μ 0 68 (μ 0 68 + 1))) 37 (μ 0 67) 10) 0 67 (μ 0 67 + 1) = μ1 at *
      generalize F_X5_step (zu σ 48 0 (μ 0 68 + 1)) = σ1 at *
      have hlx : ((10 :: P : List Int).length : Int) = P.length + 1 := by simp
      have ox : opl (10 :: P) = opl P + 1 := by rw [opl, if_pos (Or.inr rfl)]
      rcases hCn m1 n (dp + 1) σ1 μ1 C (10 :: P) ⟨r1, r2, ⟨by omega, by omega, by omega⟩, ⟨by omega, hg⟩, by omega, by omega⟩ (fun x xs e => by cases e; rfl) with ⟨a, z⟩ | ⟨a, ⟨k17, k16⟩, s', n', μ', C', e1, ⟨⟨e2, e2'⟩, e3, ⟨D', Q', e4, e4'⟩, e5, e6⟩, e7⟩
      · rw [if_pos a, if_pos a]
        exact Or.inl ⟨rfl, z⟩
      · rw [if_neg (show ¬ (tC k (dp + 1) σ1).1 = 0 by omega), if_neg (show ¬ (tC k (dp + 1) σ1).1 = 0 by omega), e1]
        have h68' := e3.2.2.2.1
        have wl := wdl_len 1 Q' D'
        rw [e4'] at wl
        have wl1 : C'.length + (10 :: P).length = D'.length + Q'.length := wl.1
        have hlx' : (10 :: P : List Int).length = P.length + 1 := rfl
        have k17' := kw_m (k := 17) (c := 6385252) e3.2.1.1.2 e3.1.2 (by decide) (by decide) ⟨by decide, by decide, ⟨by decide, by decide⟩, by decide, by decide⟩
        have k16' := kw_m (k := 16) (c := 28530) e3.2.1.1.2 e3.1.2 (by decide) (by decide) ⟨by decide, by decide, ⟨by decide, by decide⟩, by decide, by decide⟩
        have sg := TK_s e3.1.2 41
        have oQ : opb Q' := by
          have : ∀ (Q : List Int) (D : List (Int × Int × Int)), opb (wdl 1 D Q).2 → opb Q := by
            intro Q
            induction Q with
            | nil => intro D h; exact h
            | cons x xs ih =>
              intro D h
              rw [wdl] at h
              by_cases cx : x = 10
              · exact Or.inl cx
              · rw [if_neg cx] at h
                by_cases cb : V_X12_binds x < 1
                · rw [if_pos cb] at h; exact h
                · rw [if_neg cb] at h; exact Or.inr (ih _ h)
          refine this Q' D' ?_
          rw [e4']; exact Or.inl rfl
        have io : ¬ R_X12_isOpen μ' = 0 := fun x => (isOpen_l e4 (by omega)).mp x oQ
        generalize (tC k (dp + 1) σ1).2 = τ at *
        by_cases cl : τ 3 4 = 4 ∧ τ 3 6 = 41
        · rw [if_pos cl, if_pos cl]
          obtain ⟨s1, rfl⟩ : ∃ s1 : Nat, s' = s1 + 1 := ⟨s' - 1, by omega⟩
          rw [AO_close s1 n' (sg.mp cl) io]
          have wc := wd_cp 1 (by omega) e4
          rw [e4'] at wc
          have pc := CP_pop wc
          have wc3 := wd_cp 3 (by omega) pc
          have pr : ∀ j : Nat, j ≠ 0 → j ≠ 36 → R_X12_writeDown (zu (R_X12_writeDown μ' 1) 0 67 (R_X12_writeDown μ' 1 0 67 - 1)) 3 j = μ' j := fun j j0 j6 => by rw [fr_R_X12_writeDown _ _ (by simp; omega), zu_row _ _ _ j0, fr_R_X12_writeDown _ _ (by simp; omega)]
          have p0 : ∀ j : Int, j ≠ 66 → j ≠ 67 → R_X12_writeDown (zu (R_X12_writeDown μ' 1) 0 67 (R_X12_writeDown μ' 1 0 67 - 1)) 3 0 j = μ' 0 j := fun j j6 j7 => by rw [kp_wd _ _ _ ⟨j6, j7⟩, zu_off _ _ _ j7, kp_wd _ _ _ ⟨j6, j7⟩]
          generalize R_X12_writeDown (zu (R_X12_writeDown μ' 1) 0 67 (R_X12_writeDown μ' 1 0 67 - 1)) 3 = ν at *
          have hL := LK_next (TP_row (τ := τ) (ν := ν) e3.1.1 rfl rfl rfl rfl (pr 1 (by decide) (by decide)) (p0 3 (by decide) (by decide)) (p0 4 (by decide) (by decide)) (p0 5 (by decide) (by decide)))
          have m68 : F_X12_next ν 0 68 = μ' 0 68 := by rw [kp_next _ 68 (by unfold KI; decide)]; exact p0 68 (by decide) (by decide)
          refine Or.inr ⟨rfl, s1, n', F_X12_next ν, C', rfl, ⟨by omega, by rw [m68]; exact e2'⟩, ⟨hL, RB_row e3.2.1 ?_ ?_ ?_ ?_ ?_ ?_ ?_ ?_, RC_row e3.2.2 ?_ ?_ ?_ ?_ m68⟩, CP_row wc3 ?_ ?_ ?_ ?_, e5, by rw [m68]; omega, by rw [m68]; omega⟩
          · exact st_r _ (by decide)
          · exact st_r _ (by decide)
          · exact st_r _ (by decide)
          · exact (step_vals _).2.2.2.2.1
          · rw [nx_r _ (by decide)]; exact pr 2 (by decide) (by decide)
          · rw [nx_r _ (by decide)]; exact pr 5 (by decide) (by decide)
          · rw [nx_r _ (by decide)]; exact pr 6 (by decide) (by decide)
          · rw [nx_15]; exact p0 15 (by decide) (by decide)
          · exact st_r _ (by decide)
          · exact st_r _ (by decide)
          · exact st_r _ (by decide)
          · exact st_r _ (by decide)
          · exact kp_next _ 66 (by unfold KI; decide)
          · exact kp_next _ 67 (by unfold KI; decide)
          · exact nx_r _ (by decide)
          · exact nx_r _ (by decide)
        · rw [if_neg cl, if_neg cl, AO_not s' n' (fun x => k17 (k17'.mpr x)) (fun x => k16 (k16'.mpr x)) (fun x => cl (sg.mpr x)) io]
          refine Or.inl ⟨rfl, rfl, ?_, ?_⟩
          · show zu τ 3 7 1 3 7 = zu (zu μ' 0 15 1) 0 16 (μ' 0 12) 0 15
            rw [zu_at, zu_off _ _ _ (by decide), zu_at]
          · show zu τ 3 7 1 3 5 = zu (zu μ' 0 15 1) 0 16 (μ' 0 12) 0 16
            rw [zu_off _ _ _ (by decide), zu_at]; exact e3.1.2.1
  · rw [if_neg b, if_neg b]
    by_cases c : V_X5_keyword σ < 18
    · rw [if_pos c, if_pos c]
      exact Or.inl ⟨rfl, M1_bad (w1 b c) hR.1.2⟩
    · rw [if_neg c, if_neg c, if_pos (show V_X5_keyword σ ≤ 25 by omega), if_pos (show V_X5_keyword σ ≤ 25 by omega)]
      by_cases c20 : 20 ≤ μ 0 68
      · rw [if_pos c20, if_pos c20]
        exact Or.inl ⟨rfl, M1_bad (w2 (Or.inr (by omega)) (Or.inl (by omega))) hR.1.2⟩
      · rw [if_neg c20, if_neg c20, if_pos dp8, if_pos dp8]
        have nb : ¬ (μ 0 68 = 20 ∨ R_X12_opened μ = 8) := by omega
        by_cases c18 : V_X5_keyword σ = 18
        · rw [if_pos c18, if_pos c18, M1_in (w3 nb c18)]
          obtain ⟨r1, r2, r3⟩ := RS_in (x := 7) hR hc (by omega)
          generalize zu (zu (F_X12_next (zu μ 0 68 (μ 0 68 + 1))) 37 (μ 0 67) 7) 0 67 (μ 0 67 + 1) = μ1 at *
          generalize F_X5_step (zu σ 48 0 (μ 0 68 + 1)) = σ1 at *
          have hlx : ((7 :: P : List Int).length : Int) = P.length + 1 := by simp
          have ox : opl (7 :: P) = opl P + 1 := by rw [opl, if_pos (Or.inl rfl)]
          rcases hO m1 n (dp + 1) σ1 μ1 C (7 :: P) ⟨r1, r2, ⟨by omega, by omega, by omega⟩, ⟨by omega, hg⟩, by omega, by omega⟩ with ⟨a, z⟩ | ⟨a, s', n', μ', C', e1, ⟨e2, e2'⟩, e3, e4, e5, e6, e7⟩
          · rw [if_pos a, if_pos a]
            exact Or.inl ⟨rfl, z⟩
          · rw [if_neg (show ¬ (tO k (dp + 1) σ1).1 = 0 by omega), if_neg (show ¬ (tO k (dp + 1) σ1).1 = 0 by omega), e1]
            have h68' := e3.2.2.2.1
            rw [wdl3_7] at e4
            have hl' : ((7, 0, 0) :: C' : List (Int × Int × Int)).length = C'.length + 1 := rfl
            have v2 : vl F ((7, 0, 0) :: C') := ⟨e3.2.2.2.2, ⟨fun _ => by omega, fun x => absurd x (by decide)⟩, by decide, fun x => absurd x (by decide), fun _ x => absurd x (by decide)⟩
            have hR2 := RS_op (ky := 18) (a := 7) e3 (by omega) ⟨by decide, fun x => absurd x (by decide), fun _ => ⟨rfl, rfl⟩⟩ v2
            exact Or.inr ⟨rfl, s', n', μ', (7, 0, 0) :: C', rfl, ⟨by omega, e2'⟩, hR2, e4, by rw [hgl, if_pos rfl]; exact e5, by omega, by omega⟩
        · rw [if_neg c18, if_neg c18]
          have w := w5 nb (by omega)
          rcases plain_sim (ky := V_X5_keyword σ) hR hc ⟨by omega, by omega⟩ (by omega) (by omega) (by omega) hg with ⟨a1, a2, a3, a4⟩ | ⟨a1, a2, C', a3, a4, a5, a6, a7⟩
          · refine Or.inl ⟨a1, ?_⟩
            unfold M1
            rw [w, if_pos a2]
            exact ⟨rfl, a3, a4⟩
          · refine Or.inr ⟨a1, 40, n, F_X12_asks (F_X12_next (zu μ 0 68 (μ 0 68 + 1))) (V_X5_keyword σ - 19), C', ?_, ⟨by omega, by rw [a7]; omega⟩, a3, a4, a5, by rw [a7]; omega, by rw [a7]; exact Int.le_refl _⟩
            unfold M1
            rw [w, if_neg (show ¬ V_X12_asks (F_X12_next (zu μ 0 68 (μ 0 68 + 1))) (V_X5_keyword σ - 19) = 0 by omega)]
theorem one_all (F : Int) : ∀ k : Nat, cO F k
  | 0 => one_0 F
  | k + 1 => one_s (one_all F k) (cond_of (all_of (one_all F k)))
