/-! pure: calls that change what stands -/
theorem VS_p {σ' σ μ' μ : zG} (hV : VS σ μ) (hs : ∀ k : Nat, 5 ≤ k → k < 16 → σ' k = σ k) (m2 : ∀ j : Int, 0 ≤ j → j < 172 → μ' 2 j = μ 2 j) : VS σ' μ' := by
  obtain ⟨h0, h1, ⟨s0, s1, s2⟩, ht, hf, hk⟩ := hV
  have n0 := m2 0 (by decide) (by decide)
  have n1 := m2 1 (by decide) (by decide)
  have n2 := m2 2 (by decide) (by decide)
  refine ⟨?_, ?_, ⟨?_, ?_, fun i i0 i1 => ?_⟩, ?_, fun f f0 f1 => ?_, fun a a0 a8 => ?_⟩
  · rw [hs 5 (by decide) (by decide), n0]; exact h0
  · rw [hs 5 (by decide) (by decide), n1]; exact h1
  · rw [n2]; exact s0
  · rw [hs 5 (by decide) (by decide), n2]; exact s1
  · rw [n2] at i1
    have q := s2 i i0 i1
    rw [hs 12 (by decide) (by decide), hs 13 (by decide) (by decide), n1, m2 (52 + (3 * i)) (by omega) (by omega), m2 ((52 + (3 * i)) + 1) (by omega) (by omega), m2 ((52 + (3 * i)) + 2) (by omega) (by omega)]
    exact q
  · rw [hs 15 (by decide) (by decide), m2 3 (by decide) (by decide), m2 4 (by decide) (by decide), m2 5 (by decide) (by decide), m2 6 (by decide) (by decide), m2 7 (by decide) (by decide)]
    exact ht
  · rw [n1] at f1
    have q := hf f f0 f1
    rw [hs 9 (by decide) (by decide), hs 10 (by decide) (by decide), hs 11 (by decide) (by decide), n0, m2 (8 + (3 * f)) (by omega) (by omega), m2 ((8 + (3 * f)) + 1) (by omega) (by omega), m2 ((8 + (3 * f)) + 2) (by omega) (by omega)]
    exact q
  · have q := hk a a0 a8
    rw [hs 7 (by decide) (by decide), n0, n1, m2 (44 + a) (by omega) (by omega)]
    exact q
theorem NW_p {σ' σ μ' μ : zG} (hV : VS σ μ) (hN : NW σ μ) (hs : ∀ k : Nat, 5 ≤ k → k < 16 → σ' k = σ k) (m2 : ∀ j : Int, 0 ≤ j → j < 172 → μ' 2 j = μ 2 j) (m5 : ∀ j : Int, 0 ≤ j → j < 20 → μ' 5 j = μ 5 j) : NW σ' μ' := by
  have n0 := m2 0 (by decide) (by decide)
  have n1 := m2 1 (by decide) (by decide)
  have h0 := hV.1
  have h1 := hV.2.1
  refine ⟨fun i i0 i1 => ?_, fun f f0 f1 => ?_, fun j j0 j1 => ?_⟩
  · rw [n0] at i1
    rw [hs 6 (by decide) (by decide), m5 i i0 (by omega)]
    exact hN.1 i i0 i1
  · rw [n1] at f1
    rw [hs 8 (by decide) (by decide), m5 (8 + f) (by omega) (by omega)]
    exact hN.2.1 f f0 f1
  · rw [hs 14 (by decide) (by decide), m2 (76 + j) (by omega) (by omega)]
    exact hN.2.2 j j0 j1
theorem SN_p {σ' σ μ' μ : zG} (hS : SN σ μ) (hs : ∀ k : Nat, 43 ≤ k → k < 47 → σ' k = σ k) (n1 : μ' 2 1 = μ 2 1) (m2 : ∀ j : Int, 473 ≤ j → j < 666 → μ' 2 j = μ 2 j) : SN σ' μ' := by
  obtain ⟨C, ⟨c1, c2⟩, ⟨c3, c4⟩, c5, c6, c7, c8, c9⟩ := hS
  refine ⟨C, ⟨by rw [hs 43 (by decide) (by decide)]; exact c1, by rw [hs 44 (by decide) (by decide), hs 45 (by decide) (by decide), hs 46 (by decide) (by decide)]; exact c2⟩, ⟨by rw [m2 473 (by decide) (by decide)]; exact c3, CL_c C (fun j j0 j1 => m2 (474 + j) (by omega) (by omega)) c4⟩, by rw [n1]; exact c5, c6, by rw [hs 43 (by decide) (by decide)]; exact c7, by rw [hs 43 (by decide) (by decide)]; exact c8, c9⟩
theorem TT_0 {σ' σ ν μ : zG} (h : TT σ μ) (c1 : σ' 1 1 = 0) (c2 : σ' 2 = σ 2) (m0 : ν 0 2 = 0) (m1 : ν 1 = μ 1) : TT σ' ν := by
  unfold TT mu at *
  rw [c1, c2, m0, m1]
  exact ⟨⟨rfl, by decide, by decide⟩, h.2⟩
theorem REL_mk {σ' ν σ μ : zG} (h : REL σ μ) (t : TT σ' ν) (f : σ' 0 16 = ν 0 15) (c4 : σ' 4 = σ 4) (m6 : ν 6 = μ 6) (s : STD σ' ν) (j : LJ σ') (fc : FC σ') (lb : LB (σ' 84)) (b : BO2 σ' ν) (i : IMG σ' ν) : REL σ' ν := ⟨t, f, ⟨KW_row h.2.2.1.1 c4 m6, KC_row h.2.2.1.2 c4⟩, s, j, fc, lb, b, i⟩
/-- a book judged anew -/
theorem REL_ju {τ ν σ μ : zG} (h : REL σ μ) (t : TT τ ν) (f : τ 0 16 = ν 0 15) (c4 : τ 4 = σ 4) (m6 : ν 6 = μ 6) (s : STD τ ν) (rs : ∀ k : Nat, k = 84 ∨ k = 91 ∨ k = 96 ∨ (100 ≤ k ∧ k < 150) → τ k = σ k) (m60 : ν 0 60 = μ 0 60) (mr : ∀ k : Nat, k = 10 ∨ k = 32 ∨ k = 39 ∨ k = 40 ∨ k = 41 → ν k = μ k) : REL (F_X11_judgeAnew τ) ν := by
  have fr : ∀ k : Nat, k < 53 ∨ (67 ≤ k ∧ k ≠ 81) → F_X11_judgeAnew τ k = τ k := fun k hk => fr_F_X11_judgeAnew _ (by simp; omega)
  refine REL_mk h (TT_row t (by rw [fr 1 (by decide)]) (fr 2 (by decide)) rfl rfl) (by rw [fr 0 (by decide)]; exact f) (by rw [fr 4 (by decide)]; exact c4) m6 (STD_r s (fun k hk => fr k (by omega)) rfl rfl rfl) ?_ ?_ ?_ ?_ ?_
  · exact LJ_row (LJ_run τ) (fun c a b d => zu_row _ _ _ (by omega))
  · exact fun z => absurd (zu_at _ _ _ _) z
  · rw [fr 84 (by decide), rs 84 (by decide)]; exact h.2.2.2.2.2.2.1
  · exact BO2_cg h.2.2.2.2.2.2.2.1 (by rw [fr 91 (by decide), rs 91 (by decide)]) (by rw [fr 96 (by decide), rs 96 (by decide)]) m60 (mr 32 (by decide))
  · exact IMG_cg h.2.2.2.2.2.2.2.2 (fun k a b => by rw [fr k (by omega), rs k (by omega)]) (mr 39 (by decide)) (mr 40 (by decide)) (mr 10 (by decide)) (mr 41 (by decide))
/-- only the tape, the fault and what is laid aside have changed -/
theorem REL_tp {σ' ν σ μ : zG} (h : REL σ μ) (t : TT σ' ν) (f : σ' 0 16 = ν 0 15) (rs : ∀ k : Nat, k = 4 ∨ (5 ≤ k ∧ k < 16) ∨ (27 ≤ k ∧ k < 35) ∨ (43 ≤ k ∧ k < 47) ∨ (53 ≤ k ∧ k < 67) ∨ (81 ≤ k ∧ k < 85) ∨ k = 91 ∨ k = 96 ∨ (100 ≤ k ∧ k < 150) → σ' k = σ k) (m60 : ν 0 60 = μ 0 60) (m2 : ν 2 = μ 2) (m5 : ∀ j : Int, 0 ≤ j → j < 20 → ν 5 j = μ 5 j) (mr : ∀ k : Nat, k = 6 ∨ k = 9 ∨ k = 10 ∨ k = 32 ∨ k = 39 ∨ k = 40 ∨ k = 41 → ν k = μ k) : REL σ' ν := by
  obtain ⟨hT, hf, hKK, hS, hJ, hFC, hLB, hBO, hI⟩ := id h
  exact REL_mk h t f (rs 4 (by decide)) (mr 6 (by decide)) (STD_cg hS (sEQ_row (fun k hk => rs k (by omega))) ⟨fun j _ _ => by rw [m2], m5, fun j _ _ => by rw [mr 9 (by decide)]⟩) (LJ_row hJ (fun c a b d => rs c (by omega))) (FC_cg hFC (fun j _ => by rw [rs 81 (by decide)]) (rs 82 (by decide)) (fun c a b d => rs c (by omega))) (by rw [rs 84 (by decide)]; exact hLB) (BO2_cg hBO (by rw [rs 91 (by decide)]) (rs 96 (by decide)) m60 (mr 32 (by decide))) (IMG_cg hI (fun k a b => rs k (by omega)) (mr 39 (by decide)) (mr 40 (by decide)) (mr 10 (by decide)) (mr 41 (by decide)))
theorem k_feed {σ μ : zG} (h : REL σ μ) {a b c d e : Int} (ha : r32 a) (hb' : r32 b) (hc : r32 c) (hd : r32 d) (he : r32 e) : CALL m_X11_feed m_X12_feed [.inl a, .inl b, .inl c, .inl d, .inl e] σ μ := by
  have q := q_feed h.1 ha hb' hc hd he
  have t := h.1.1
  refine CALL_of _ _ (by decide) (by decide) q.1 (does_X11_feed σ a b c d e (by omega)) (does_X12_feed μ a b c d e t.2) (REL_tp h q.2 ?_ (fun k hk => fr_F_X11_feed _ _ _ _ _ _ (by simp; omega)) (g_F_X12_feed (Or.inr rfl) _ _ _ _ _ _) (fr_F_X12_feed _ _ _ _ _ _ (by decide)) (fun j _ _ => by rw [fr_F_X12_feed _ _ _ _ _ _ (by decide)]) (fun k hk => fr_F_X12_feed _ _ _ _ _ _ (by simp; omega)))
  rw [fr_F_X11_feed _ _ _ _ _ _ (by decide), g_F_X12_feed (Or.inl rfl)]; exact h.2.1
theorem k_end {σ μ : zG} (h : REL σ μ) (x : Int) : CALL m_X11_end m_X12_end [.inl x] σ μ := by
  have q := q_end h.1 x
  refine CALL_of _ _ (by decide) (by decide) q.1 (does_X11_end σ x) (does_X12_end μ x) (REL_tp h q.2 ?_ (fun k hk => fr_F_X11_end _ _ (by simp; omega)) (g_F_X12_end (Or.inr rfl) _ _) (fr_F_X12_end _ _ (by decide)) (fun j _ _ => by rw [fr_F_X12_end _ _ (by decide)]) (fun k hk => fr_F_X12_end _ _ (by simp; omega)))
  rw [fr_F_X11_end _ _ (by decide), g_F_X12_end (Or.inl rfl)]; exact h.2.1
theorem k_read {σ μ : zG} (h : REL σ μ) : CALL m_X11_read m_X12_read [] σ μ := by
  have q := take_eq h.1
  have e1 : F_X11_read σ = F_X11_takeKnots σ := by
    unfold F_X11_read
    repeat' split
    all_goals rfl
  refine CALL_of _ _ (by decide) (by decide) (q_read h.1) (does_X11_read σ (fun j j0 j1 => (h.1.2 j j0 (by omega)).2.1)) (does_X12_read μ) (REL_tp h (TT_0 h.1 (by rw [e1]; exact q.2.2.1) (fr_F_X11_read _ (by decide)) q.2.2.2.1 (fr_F_X12_read _ (by decide))) ?_ (fun k hk => fr_F_X11_read _ (by simp; omega)) (g_F_X12_read (Or.inr rfl) _) (fr_F_X12_read _ (by decide)) (fun j _ _ => by rw [fr_F_X12_read _ (by decide)]) (fun k hk => fr_F_X12_read _ (by simp; omega)))
  rw [fr_F_X11_read _ (by decide), g_F_X12_read (Or.inl rfl)]; exact h.2.1
theorem k_near {σ μ : zG} (h : REL σ μ) (kq : Int) : CALL m_X11_near m_X12_near [.inl kq] σ μ := by
  have q := take_eq h.1
  have n := q_near h.1 kq
  refine CALL_of _ _ (by decide) (by decide) n.1 (does_X11_near σ kq (fun j j0 j1 => (h.1.2 j j0 (by omega)).2.1)) (does_X12_near μ kq) (REL_tp h (TT_0 h.1 (by rw [n.2.1]; exact q.2.2.1) (fr_R_X11_near _ _ (by decide)) (by rw [n.2.2 0 (by decide)]; exact q.2.2.2.1) (fr_R_X12_near _ _ (by decide))) ?_ (fun k hk => fr_R_X11_near _ _ (by simp; omega)) (g_R_X12_near (Or.inr rfl) _ _) (fr_R_X12_near _ _ (by decide)) (fun j _ _ => by rw [fr_R_X12_near _ _ (by decide)]) (fun k hk => fr_R_X12_near _ _ (by simp; omega)))
  rw [fr_R_X11_near _ _ (by decide), g_R_X12_near (Or.inl rfl)]; exact h.2.1
/-- the feast settled -/
theorem REL_fe {σ μ ν : zG} (h : REL σ μ) (hm : mK ν μ) : REL (R_X2_settle σ) ν := by
  have g := REL_giv h
  obtain ⟨hT, hf, hKK, hS, hJ, hFC, hLB, hBO, hI⟩ := id h
  have fr : ∀ k : Nat, k ≠ 81 → k ≠ 82 → k ≠ 83 → k ≠ 84 → R_X2_settle σ k = σ k := fun k a b c d => fr_R_X2_settle _ (by simp; omega)
  have fe := feasts_eq (σ := σ) (μ0 := zu μ 0 0 0) rfl g.2.2.2.2.2.2.2.2.1
  have hV := hS.1
  have hF := hV.2.1
  refine REL_mk h (TT_row hT (by rw [fr 1 (by decide) (by decide) (by decide) (by decide)]) (fr 2 (by decide) (by decide) (by decide) (by decide)) (hm.1 2 (by decide)) (hm.2 1 (by decide))) (by rw [fr 0 (by decide) (by decide) (by decide) (by decide), hm.1 15 (by decide)]; exact hf) (fr 4 (by decide) (by decide) (by decide) (by decide)) (hm.2 6 (by decide)) (STD_r hS (fun k hk => fr k (by omega) (by omega) (by omega) (by omega)) (hm.2 2 (by decide)) (hm.2 5 (by decide)) (hm.2 9 (by decide))) (LJ_row hJ (fun c a b d => fr c (by omega) (by omega) (by omega) (by omega))) ?_ ?_ (BO2_cg hBO (by rw [fr 91 (by decide) (by decide) (by decide) (by decide)]) (fr 96 (by decide) (by decide) (by decide) (by decide)) (hm.1 60 (by decide)) (hm.2 32 (by decide))) (IMG_cg hI (fun k a b => fr k (by omega) (by omega) (by omega) (by omega)) (hm.2 39 (by decide)) (hm.2 40 (by decide)) (hm.2 10 (by decide)) (hm.2 41 (by decide)))
  · by_cases z : σ 81 0 = 0
    · exact fun _ => ⟨σ, z, fun c a b d => (fr c (by omega) (by omega) (by omega) (by omega)).symm, rfl, rfl, rfl, rfl⟩
    · have es : R_X2_settle σ = σ := by unfold R_X2_settle; rw [if_neg z]
      rw [es]; exact hFC
  · refine LB_settle (F := μ 2 1) ?_ hF.1 (by omega) (fun f f0 f1 => ?_) hLB
    · rw [fe.2.1]; exact fe.2.2.1
    · have a := hV.2.2.2.2.1 f f0 f1
      rw [a.2.1]; exact a.2.2.2.2.1
theorem k_feast {σ μ : zG} (h : REL σ μ) (i : Int) : CALL m_X11_feast m_X12_feast [.inl i] σ μ := by
  have g := REL_giv h
  obtain ⟨⟨p8, p0⟩, F2, s8, m8, l60, ⟨hD, hO, hH, hW⟩, ⟨hN, hA, hB⟩, ⟨hMD, hMP⟩, hQ, e2⟩ := g
  obtain ⟨hT, hf, hKK, ⟨sV, sN, sB, sD, sS⟩, hJ, hFC, hLB, hBO, hI⟩ := id h
  exact CALL_of _ _ (by decide) (by decide) (q_feast sV sB sD hJ hFC i) (does_X11_feast σ i m8 p8 F2.2 hO hH hLB) (does_X12_feast μ i hN hMD) (REL_fe h ⟨fun j hj => g_R_X12_feast hj _ _, fun k hk => fr_R_X12_feast _ _ (by simp; omega)⟩)
theorem k_feastAt {σ μ : zG} (h : REL σ μ) (x : Int) : CALL m_X11_feastAt m_X12_feastAt [.inl x] σ μ := by
  have g := REL_giv h
  obtain ⟨⟨p8, p0⟩, F2, s8, m8, l60, ⟨hD, hO, hH, hW⟩, ⟨hN, hA, hB⟩, ⟨hMD, hMP⟩, hQ, e2⟩ := g
  obtain ⟨hT, hf, hKK, ⟨sV, sN, sB, sD, sS⟩, hJ, hFC, hLB, hBO, hI⟩ := id h
  have q := q_feastAt sV sB sD hJ hFC x
  exact CALL_of _ _ (by decide) (by decide) q.1 (does_X11_feastAt σ x m8 p8 F2.2 hO hH hLB q.2) (does_X12_feastAt μ x hN hMD) (REL_fe h ⟨fun j hj => g_F_X12_feastAt hj _ _, fun k hk => fr_F_X12_feastAt _ _ (by simp; omega)⟩)
theorem order_2 (μ : zG) : (R_X12_order μ).2 0 2 = 0 := by
  unfold R_X12_order
  repeat' split
  · rw [g_L_X12_order_41 (Or.inl rfl)]; simp [zu]
  · simp [zu]
  · simp [zu]
theorem order_c1 (σ : zG) : F_X11_order σ 1 1 = 0 := by
  unfold F_X11_order
  split
  · exact zu_at _ _ _ _
  · rw [fr_R_X8_settle _ (by decide)]; exact zu_at _ _ _ _
theorem k_order {σ μ : zG} (h : REL σ μ) : CALL m_X11_order m_X12_order [] σ μ := by
  have g := REL_giv h
  obtain ⟨⟨p8, p0⟩, F2, s8, m8, l60, ⟨hD, hO, hH, hW⟩, ⟨hN, hA, hB⟩, ⟨hMD, hMP⟩, hQ, e2⟩ := g
  obtain ⟨hT, hf, hKK, hS, hJ, hFC, hLB, hBO, hI⟩ := id h
  obtain ⟨sV, sN, sB, sD, sS⟩ := id hS
  have q := q_order hT sV sB sD hJ hBO
  have fr : ∀ k : Nat, k ≠ 1 → k < 67 ∨ (81 ≤ k ∧ k < 91) ∨ 97 ≤ k → F_X11_order σ k = σ k := fun k a b => fr_F_X11_order _ (by simp; omega)
  have fm : ∀ k : Nat, k = 1 ∨ k = 2 ∨ k = 5 ∨ k = 6 ∨ k = 9 ∨ k = 10 ∨ k = 39 ∨ k = 40 ∨ k = 41 → (R_X12_order μ).2 k = μ k := fun k hk => fr_R_X12_order _ (by simp; omega)
  refine CALL_of _ _ (by decide) (by decide) q.1 (does_X11_order σ p8 s8 F2.2 m8 q.2.2) (does_X12_order μ hN hB hT.1.2) (REL_mk h (TT_0 hT (order_c1 σ) (fr 2 (by decide) (by decide)) (order_2 μ) (fm 1 (by decide))) ?_ (fr 4 (by decide) (by decide)) (fm 6 (by decide)) (STD_r hS (fun k hk => fr k (by omega) (by omega)) (fm 2 (by decide)) (fm 5 (by decide)) (fm 9 (by decide))) (LJ_row hJ (fun c a b d => fr c (by omega) (by omega))) (FC_cg hFC (fun j _ => by rw [fr 81 (by decide) (by decide)]) (fr 82 (by decide) (by decide)) (fun c a b d => fr c (by omega) (by omega))) (by rw [fr 84 (by decide) (by decide)]; exact hLB) q.2.1 (IMG_cg hI (fun k a b => fr k (by omega) (by omega)) (fm 39 (by decide)) (fm 40 (by decide)) (fm 10 (by decide)) (fm 41 (by decide))))
  rw [fr 0 (by decide) (by decide), g_R_X12_order rfl]; exact hf
/-! a valley read -/
theorem valley_2 (μ : zG) : (R_X12_valley μ).2 0 2 = 0 := by
  unfold R_X12_valley
  rw [g_L_X12_valley_35 (Or.inl rfl), g_F_X12_next (Or.inl rfl), fr_R_X12_plainValley _ (by decide), zu_off _ _ _ (by decide), zu_off _ _ _ (by decide), zu_off _ _ _ (by decide)]
  unfold F_X12_taken
  simp [zu]
theorem book_2 (μ : zG) : (R_X12_book μ).2 0 2 = 0 := by
  unfold R_X12_book
  rw [g_L_X12_book_31 (Or.inl rfl), g_F_X12_next (Or.inl rfl), zu_off _ _ _ (by decide), zu_off _ _ _ (by decide), zu_off _ _ _ (by decide)]
  unfold F_X12_taken
  simp [zu]
theorem sent_2 (μ : zG) : (R_X12_sentence μ).2 0 2 = 0 := by
  have k : (F_X12_cond (F_X12_next (zu (zu (zu (zu (F_X12_taken (zu μ 0 0 0) 200) 0 15 0) 0 66 0) 0 67 0) 0 68 0))) 0 2 = 0 := by
    rw [g_F_X12_cond (Or.inl rfl), g_F_X12_next (Or.inl rfl), zu_off _ _ _ (by decide), zu_off _ _ _ (by decide), zu_off _ _ _ (by decide), zu_off _ _ _ (by decide)]
    unfold F_X12_taken
    simp [zu]
  unfold R_X12_sentence
  split
  · exact k
  · show (S_X12_sentence_64 200 0 _).2 0 2 = 0
    rw [fr_S_X12_sentence_64 (h := by decide), zu_ne _ _ _ _ (by decide)]
    exact k
theorem open_k (σ : zG) (x : Int) {k : Nat} (h : k ≠ 3) : F_X5_open σ x k = σ k := by unfold F_X5_open; simp only [zu_row _ _ _ h]
theorem note_k (σ : zG) {k : Nat} (h0 : k ≠ 0) (h1 : k ≠ 1) : F_X11_noteReading σ k = σ k := fr_F_X11_noteReading _ (by simp; omega)
theorem note_16 (σ : zG) : F_X11_noteReading σ 0 16 = σ 3 7 := by unfold F_X11_noteReading; rw [zu_ne _ _ _ _ (by decide), zu_at]
theorem note_1 (σ : zG) : F_X11_noteReading σ 1 1 = 0 := by unfold F_X11_noteReading; rw [zu_at]
theorem k_valley {σ μ : zG} (h : REL σ μ) : CALL m_X11_valley m_X12_valley [] σ μ := by
  obtain ⟨hT, hf, ⟨hK, hC⟩, hS, hJ, hFC, hLB, hBO, hI⟩ := id h
  have vo := valley_read hK hC hT.1 hT.2
  have m2 := valley_2 μ
  have m60 : (R_X12_valley μ).2 0 60 = μ 0 60 := g_R_X12_valley rfl μ
  have mr : ∀ k : Nat, k ≠ 0 → k ≠ 2 → k ≠ 3 → k ≠ 5 → (R_X12_valley μ).2 k = μ k := fun k a b c d => fr_R_X12_valley _ (by simp; omega)
  have cr : ∀ k : Nat, k ≠ 3 → k < 16 ∨ 27 ≤ k → (R_X9_take (F_X5_open σ 900)).2 k = σ k := fun k a b => by rw [fr_R_X9_take (h := by simp; omega), open_k _ _ a]
  have hl := hT.1
  by_cases z : 0 ≤ (R_X9_take (F_X5_open σ 900)).1
  · have vf := valley_fault hK hC hT.1 hT.2 z
    obtain ⟨e1, oV, oN, o0⟩ := valley_ok vo z
    generalize hr : R_X9_take (F_X5_open σ 900) = r at *
    have cp := copy_rows (F_X11_noteReading r.2)
    have cq := copy_rows r.2
    have nk : ∀ k : Nat, 16 ≤ k → F_X11_noteReading r.2 k = r.2 k := fun k hk => note_k _ (by omega) (by omega)
    -- the valley taken over, an empty book, no sentence
    have hSt : STD (F_X6_clear_43 (F_X0_clear_27 (F_X9_copy_5_16 r.2))) (R_X12_valley μ).2 := by
      have w : ∀ k : Nat, k ≠ 27 → k ≠ 43 → F_X6_clear_43 (F_X0_clear_27 (F_X9_copy_5_16 r.2)) k = F_X9_copy_5_16 r.2 k := fun k a b => by
        unfold F_X6_clear_43 F_X0_clear_27
        rw [zu_row _ _ _ b, zu_row _ _ _ b, zu_row _ _ _ a, zu_row _ _ _ a]
      have w27 : F_X6_clear_43 (F_X0_clear_27 (F_X9_copy_5_16 r.2)) 27 0 = 0 ∧ F_X6_clear_43 (F_X0_clear_27 (F_X9_copy_5_16 r.2)) 27 1 = 0 := by
        unfold F_X6_clear_43 F_X0_clear_27
        exact ⟨by simp [zu], by simp [zu]⟩
      have w43 : F_X6_clear_43 (F_X0_clear_27 (F_X9_copy_5_16 r.2)) 43 0 = 0 ∧ F_X6_clear_43 (F_X0_clear_27 (F_X9_copy_5_16 r.2)) 43 1 = 0 := by
        unfold F_X6_clear_43
        exact ⟨by simp [zu], by simp [zu]⟩
      have z172 := o0 172 (by decide) (by decide)
      have z473 := o0 473 (by decide) (by decide)
      refine ⟨VS_p oV (fun k a b => w k (by omega) (by omega)) (fun _ _ _ => rfl), NW_p oV oN (fun k a b => w k (by omega) (by omega)) (fun _ _ _ => rfl) (fun _ _ _ => rfl), ⟨⟨by rw [w27.1, z172], by rw [z172]; exact Int.le_refl _, by rw [z172]; decide⟩, fun i i0 i1 => by rw [z172] at i1; omega, by rw [z172]; exact (show (0 : Int) ≤ 128 by decide)⟩, ⟨fun i i0 i1 => by rw [w27.1] at i1; omega, by rw [w27.1, w27.2, if_pos rfl], fun i j i0 ij j1 => by rw [w27.1] at j1; omega, fun i i0 i1 => by rw [w27.1] at i1; omega⟩, ⟨[], ⟨w43.2, trivial⟩, ⟨z473, trivial⟩, trivial, by decide, ⟨by rw [w43.1]; exact Int.le_refl _, by rw [w43.1]; decide⟩, ⟨fun _ => rfl, fun _ => w43.1⟩, fun x => absurd rfl x⟩⟩
    have tk : ∀ k : Nat, (k < 5 ∧ k ≠ 3) ∨ (28 ≤ k ∧ k ≠ 43) → F_X6_clear_43 (F_X0_clear_27 (F_X9_copy_5_16 (F_X11_noteReading r.2))) k = F_X11_noteReading r.2 k := fun k hk => by
      unfold F_X6_clear_43 F_X0_clear_27
      rw [zu_row _ _ _ (by omega), zu_row _ _ _ (by omega), zu_row _ _ _ (by omega), zu_row _ _ _ (by omega), fr_F_X9_copy_5_16 (h := by simp; omega)]
    have hS2 : STD (F_X6_clear_43 (F_X0_clear_27 (F_X9_copy_5_16 (F_X11_noteReading r.2)))) (R_X12_valley μ).2 := by
      refine STD_cg hSt ?_ (mEQ_row rfl rfl rfl)
      have w : ∀ (τ : zG) (k : Nat), k ≠ 27 → k ≠ 43 → F_X6_clear_43 (F_X0_clear_27 τ) k = τ k := fun τ k a b => by
        unfold F_X6_clear_43 F_X0_clear_27
        rw [zu_row _ _ _ b, zu_row _ _ _ b, zu_row _ _ _ a, zu_row _ _ _ a]
      have q27 : ∀ (τ τ' : zG) (j : Int), j = 0 ∨ j = 1 → F_X6_clear_43 (F_X0_clear_27 τ) 27 j = F_X6_clear_43 (F_X0_clear_27 τ') 27 j := fun τ τ' j hj => by
        unfold F_X6_clear_43 F_X0_clear_27
        rcases hj with rfl | rfl <;> simp [zu]
      have q43 : ∀ (τ τ' : zG) (j : Int), j = 0 ∨ j = 1 → F_X6_clear_43 τ 43 j = F_X6_clear_43 τ' 43 j := fun τ τ' j hj => by
        unfold F_X6_clear_43
        rcases hj with rfl | rfl <;> simp [zu]
      have w' : ∀ k : Nat, 28 ≤ k → k ≠ 43 → F_X6_clear_43 (F_X0_clear_27 (F_X9_copy_5_16 (F_X11_noteReading r.2))) k = F_X6_clear_43 (F_X0_clear_27 (F_X9_copy_5_16 r.2)) k := fun k a b => by
        rw [w _ k (by omega) b, w _ k (by omega) b, fr_F_X9_copy_5_16 (h := by simp; omega), fr_F_X9_copy_5_16 (h := by simp; omega), nk k (by omega)]
      refine ⟨fun j hj => ?_, fun j j0 j1 => ?_, fun j j0 j1 => ?_, fun j j0 j1 => ?_, fun j j0 j1 => ?_, fun j hj => q27 _ _ j hj, fun j j0 j1 => ?_, fun j hj => q43 _ _ j hj, fun j j0 j1 => ?_⟩
      · rw [w _ 5 (by decide) (by decide), w _ 5 (by decide) (by decide), cp.1 j hj, cq.1 j hj, nk 16 (by decide)]
      · have a := cp.2.1 j j0 j1
        have b := cq.2.1 j j0 j1
        rw [w _ 6 (by decide) (by decide), w _ 6 (by decide) (by decide), w _ 7 (by decide) (by decide), w _ 7 (by decide) (by decide), w _ 12 (by decide) (by decide), w _ 12 (by decide) (by decide), w _ 13 (by decide) (by decide), w _ 13 (by decide) (by decide), a.1, a.2.1, a.2.2.1, a.2.2.2, b.1, b.2.1, b.2.2.1, b.2.2.2, nk 17 (by decide), nk 18 (by decide), nk 23 (by decide), nk 24 (by decide)]
        exact ⟨rfl, rfl, rfl, rfl⟩
      · have a := cp.2.2.1 j j0 j1
        have b := cq.2.2.1 j j0 j1
        rw [w _ 8 (by decide) (by decide), w _ 8 (by decide) (by decide), w _ 9 (by decide) (by decide), w _ 9 (by decide) (by decide), w _ 10 (by decide) (by decide), w _ 10 (by decide) (by decide), w _ 11 (by decide) (by decide), w _ 11 (by decide) (by decide), a.1, a.2.1, a.2.2.1, a.2.2.2, b.1, b.2.1, b.2.2.1, b.2.2.2, nk 19 (by decide), nk 20 (by decide), nk 21 (by decide), nk 22 (by decide)]
        exact ⟨rfl, rfl, rfl, rfl⟩
      · rw [w _ 14 (by decide) (by decide), w _ 14 (by decide) (by decide), cp.2.2.2.1 j j0 j1, cq.2.2.2.1 j j0 j1, nk 25 (by decide)]
      · rw [w _ 15 (by decide) (by decide), w _ 15 (by decide) (by decide), cp.2.2.2.2 j j0 j1, cq.2.2.2.2 j j0 j1, nk 26 (by decide)]
      · rw [w' 28 (by decide) (by decide), w' 29 (by decide) (by decide), w' 30 (by decide) (by decide), w' 31 (by decide) (by decide), w' 32 (by decide) (by decide), w' 33 (by decide) (by decide), w' 34 (by decide) (by decide)]
        exact ⟨rfl, rfl, rfl, rfl, rfl, rfl, rfl⟩
      · rw [w' 44 (by decide) (by decide), w' 45 (by decide) (by decide), w' 46 (by decide) (by decide)]
        exact ⟨rfl, rfl, rfl⟩
    have eV : V_X11_valley σ = (R_X12_valley μ).1 := by unfold V_X11_valley; rw [hr, if_pos z, e1]
    have eF : F_X11_valley σ = F_X11_judgeAnew (F_X6_clear_43 (F_X0_clear_27 (F_X9_copy_5_16 (F_X11_noteReading r.2)))) := by unfold F_X11_valley; rw [hr, if_pos z]
    refine CALL_of _ _ (by decide) (by decide) eV (do2_X11_valley σ (by omega) (fun _ => by rw [hr]; exact WC_of hS2.1 hS2.2.2.1)) (does_X12_valley μ (by omega)) ?_
    rw [eF]
    refine REL_ju h (TT_0 hT (by rw [tk 1 (by decide)]; exact note_1 _) (by rw [tk 2 (by decide), note_k _ (by decide) (by decide), cr 2 (by decide) (by decide)]) m2 (mr 1 (by decide) (by decide) (by decide) (by decide))) (by rw [tk 0 (by decide), note_16]; exact vf) (by rw [tk 4 (by decide), note_k _ (by decide) (by decide), cr 4 (by decide) (by decide)]) (mr 6 (by decide) (by decide) (by decide) (by decide)) hS2 (fun k hk => by rw [tk k (by omega), note_k _ (by omega) (by omega), cr k (by omega) (by omega)]) m60 (fun k hk => mr k (by omega) (by omega) (by omega) (by omega))
  · have kv := valley_none hK hC hT.1 hT.2 z
    rcases vo with ⟨a1, a2, a3, a4⟩ | ⟨a1, _⟩
    · generalize hr : R_X9_take (F_X5_open σ 900) = r at *
      have eV : V_X11_valley σ = (R_X12_valley μ).1 := by
        unfold V_X11_valley V_X11_refusedAt
        rw [hr, if_neg z, note_k _ (by decide) (by decide), a3, a4]
      have eF : F_X11_valley σ = F_X11_noteReading r.2 := by unfold F_X11_valley; rw [hr, if_neg z]
      refine CALL_of _ _ (by decide) (by decide) eV (do2_X11_valley σ (by omega) (fun x => absurd x (by rw [hr]; exact z))) (does_X12_valley μ (by omega)) ?_
      rw [eF]
      exact REL_tp h (TT_0 hT (note_1 _) (by rw [note_k _ (by decide) (by decide), cr 2 (by decide) (by decide)]) m2 (mr 1 (by decide) (by decide) (by decide) (by decide))) (by rw [note_16]; exact a2) (fun k hk => by rw [note_k _ (by omega) (by omega), cr k (by omega) (by omega)]) m60 kv.1 (fun j _ j1 => kv.2 j j1) (fun k hk => mr k (by omega) (by omega) (by omega) (by omega))
    · exact absurd a1 z
