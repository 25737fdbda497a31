/-! pure: book, drawn, sentence, image, restore on both sides -/
theorem mK_0 (μ : zG) : mK (zu μ 0 0 0) μ := ⟨fun j hj => zu_off _ _ _ (by omega), fun k hk => zu_row _ _ _ (by omega)⟩
theorem bk31 : ∀ (n : Nat) (μ : zG), (∃ ν : zG, L_X12_book_31 n μ = (ν 0 21, R_X12_keepBook ν) ∧ ν 2 = μ 2) ∨ (L_X12_book_31 n μ).2 2 = μ 2
  | 0, μ => Or.inr rfl
  | n + 1, μ => by
    rw [L_X12_book_31]
    by_cases c : μ 0 11 = 0
    · rw [if_pos c]; exact Or.inl ⟨μ, rfl, rfl⟩
    · rw [if_neg c]
      by_cases c1 : V_X12_bookLine μ = 0
      · rw [if_pos c1]; exact Or.inr (fr_F_X12_bookLine _ (by decide))
      · rw [if_neg c1]
        have e : ∀ x : Int, zu (F_X12_sign (F_X12_bookLine μ) 59) 0 21 x 2 = μ 2 := fun x => by rw [zu_row _ _ _ (by decide), fr_F_X12_sign _ _ (by decide), fr_F_X12_bookLine _ (by decide)]
        by_cases c2 : V_X12_sign (F_X12_bookLine μ) 59 = 0
        · rw [if_pos c2]
          exact Or.inr ((fr_F_X12_sign _ _ (by decide)).trans (fr_F_X12_bookLine _ (by decide)))
        · rw [if_neg c2]
          rcases bk31 n (zu (F_X12_sign (F_X12_bookLine μ) 59) 0 21 (μ 0 21 + 1)) with ⟨ν, a, b⟩ | a
          · exact Or.inl ⟨ν, a, b.trans (e _)⟩
          · exact Or.inr (a.trans (e _))
theorem book_172 {μ : zG} (h : 0 ≤ (R_X12_book μ).1 ∧ (R_X12_book μ).1 ≤ 60) (j : Int) (hj : j < 172 ∨ 473 ≤ j) : (R_X12_book μ).2 2 j = μ 2 j := by
  have t : ∀ k : Nat, k ≠ 0 → F_X12_taken (zu μ 0 0 0) 900 k = μ k := fun k hk => by unfold F_X12_taken; simp only [zu_row _ _ _ hk]
  have e : (F_X12_next (zu (zu (zu (F_X12_taken (zu μ 0 0 0) 900) 0 15 0) 0 21 0) 0 22 0)) 2 = μ 2 := by rw [fr_F_X12_next _ (by decide), zu_row _ _ _ (by decide), zu_row _ _ _ (by decide), zu_row _ _ _ (by decide), t 2 (by decide)]
  unfold R_X12_book at *
  rcases bk31 1000 (F_X12_next (zu (zu (zu (F_X12_taken (zu μ 0 0 0) 900) 0 15 0) 0 21 0) 0 22 0)) with ⟨ν, a, b⟩ | a
  · rw [a] at h ⊢
    have k := keep_rows (μ := ν) h
    show R_X12_keepBook ν 2 j = μ 2 j
    rw [k.2.2.1 j (by have h' : 0 ≤ ν 0 21 ∧ ν 0 21 ≤ 60 := h; omega), b, e]
  · rw [a, e]
theorem note_b (σ : zG) : sEQ (F_X0_copy_27_35 (F_X11_noteReading σ)) (F_X0_copy_27_35 σ) := by
  have a := bcopy_rows (F_X11_noteReading σ)
  have b := bcopy_rows σ
  have nk : ∀ k : Nat, 5 ≤ k → F_X11_noteReading σ k = σ k := fun k hk => note_k _ (by omega) (by omega)
  have w : ∀ k : Nat, 5 ≤ k → k < 27 ∨ 35 ≤ k → F_X0_copy_27_35 (F_X11_noteReading σ) k = F_X0_copy_27_35 σ k := fun k h5 hk => by rw [fr_F_X0_copy_27_35 (h := by simp; omega), fr_F_X0_copy_27_35 (h := by simp; omega), nk k h5]
  refine ⟨fun j _ => by rw [w 5 (by decide) (by decide)], fun j _ _ => ⟨by rw [w 6 (by decide) (by decide)], by rw [w 7 (by decide) (by decide)], by rw [w 12 (by decide) (by decide)], by rw [w 13 (by decide) (by decide)]⟩, fun j _ _ => ⟨by rw [w 8 (by decide) (by decide)], by rw [w 9 (by decide) (by decide)], by rw [w 10 (by decide) (by decide)], by rw [w 11 (by decide) (by decide)]⟩, fun j _ _ => by rw [w 14 (by decide) (by decide)], fun j _ _ => by rw [w 15 (by decide) (by decide)], fun j hj => by rw [a.1 j hj, b.1 j hj, nk 35 (by decide)], fun j j0 j1 => ?_, fun j _ => by rw [w 43 (by decide) (by decide)], fun j _ _ => ⟨by rw [w 44 (by decide) (by decide)], by rw [w 45 (by decide) (by decide)], by rw [w 46 (by decide) (by decide)]⟩⟩
  have x := a.2 j j0 j1
  have y := b.2 j j0 j1
  rw [x.1, x.2.1, x.2.2.1, x.2.2.2.1, x.2.2.2.2.1, x.2.2.2.2.2.1, x.2.2.2.2.2.2, y.1, y.2.1, y.2.2.1, y.2.2.2.1, y.2.2.2.2.1, y.2.2.2.2.2.1, y.2.2.2.2.2.2, nk 36 (by decide), nk 37 (by decide), nk 38 (by decide), nk 39 (by decide), nk 40 (by decide), nk 41 (by decide), nk 42 (by decide)]
  exact ⟨rfl, rfl, rfl, rfl, rfl, rfl, rfl⟩
theorem k_book {σ μ : zG} (h : REL σ μ) : CALL m_X11_book m_X12_book [] σ μ := by
  obtain ⟨hT, hf, ⟨hK, hC⟩, hS, hJ, hFC, hLB, hBO, hI⟩ := id h
  obtain ⟨sV, sN, sB, sD, sS⟩ := id hS
  have bo := book_read hK hC sV sN hT.1 hT.2
  have m2 := book_2 μ
  have m60 : (R_X12_book μ).2 0 60 = μ 0 60 := g_R_X12_book rfl μ
  have mr : ∀ k : Nat, k ≠ 0 → k ≠ 2 → k ≠ 4 → k ≠ 7 → k ≠ 8 → k ≠ 9 → (R_X12_book μ).2 k = μ k := fun k a b c d e f => fr_R_X12_book _ (by simp; omega)
  have cr : ∀ k : Nat, k ≠ 3 → k < 35 ∨ 43 ≤ k → (R_X0_take (F_X5_open σ 900)).2 k = σ k := fun k a b => by rw [fr_R_X0_take (h := by simp; omega), open_k _ _ a]
  have hl := hT.1
  have hp := sV.1
  have hF := sV.2.1
  by_cases z : (R_X0_take (F_X5_open σ 900)).1 = 0
  · have kp := book_none hK hC sV sN hT.1 hT.2 z
    rcases bo with ⟨a1, a2, a3, a4⟩ | ⟨a1, _⟩
    · generalize hr : R_X0_take (F_X5_open σ 900) = r at *
      have eV : V_X11_book σ = (R_X12_book μ).1 := by
        unfold V_X11_book V_X11_refusedAt
        rw [hr, if_pos z, note_k _ (by decide) (by decide), a3, a4]
      have eF : F_X11_book σ = F_X11_noteReading r.2 := by unfold F_X11_book; rw [hr, if_pos z]
      refine CALL_of _ _ (by decide) (by decide) eV (do2_X11_book σ (by omega) (fun x => absurd z (by rw [hr] at x; exact x))) (does_X12_book μ (by omega) hp.2 hF.2) ?_
      rw [eF]
      refine REL_tp h (TT_0 hT (note_1 _) (by rw [note_k _ (by decide) (by decide), cr 2 (by decide) (by decide)]) m2 (mr 1 (by decide) (by decide) (by decide) (by decide) (by decide) (by decide))) (by rw [note_16]; exact a2) (fun k hk => by rw [note_k _ (by omega) (by omega), cr k (by omega) (by omega)]) m60 kp.1 (fun j _ _ => by rw [mr 5 (by decide) (by decide) (by decide) (by decide) (by decide) (by decide)]) (fun k hk => ?_)
      by_cases k9 : k = 9
      · rw [k9]; exact kp.2
      · exact mr k (by omega) (by omega) (by omega) (by omega) (by omega) k9
    · rw [a1] at z; exact absurd z (by decide)
  · have r1 : (R_X0_take (F_X5_open σ 900)).1 = 1 := by
      rcases bo with ⟨a1, _⟩ | ⟨a1, _⟩
      · exact absurd a1 z
      · exact a1
    obtain ⟨⟨ν, b1, b2, b3, b4⟩, oB, oD⟩ := book_ok bo r1
    have b5 : (R_X12_book μ).1 = ν 0 21 := by
      rcases bo with ⟨a1, _⟩ | ⟨_, ν', c1, c2, c3, _⟩
      · exact absurd a1 z
      · have e1 := (keep_rows (μ := ν) b3).1
        have q : (R_X12_book μ).2 2 172 = F_X0_copy_27_35 (R_X0_take (F_X5_open σ 900)).2 27 0 := oB.1.1.symm
        rw [b2, e1] at q
        rw [b1, q]
    have mj := fun (j : Int) (hj : j < 172 ∨ 473 ≤ j) => book_172 (μ := μ) (by rw [b5]; exact b3) j hj
    have f15 : (R_X0_take (F_X5_open σ 900)).2 3 7 = (R_X12_book μ).2 0 15 := by rw [b4, b2, (keep_rows b3).2.2.2.2 0 (by decide) (by decide)]
    generalize hr : R_X0_take (F_X5_open σ 900) = r at *
    have ck : ∀ k : Nat, k < 27 ∨ 35 ≤ k → F_X0_copy_27_35 r.2 k = r.2 k := fun k hk => fr_F_X0_copy_27_35 _ (by simp; omega)
    have hSt : STD (F_X0_copy_27_35 r.2) (R_X12_book μ).2 := ⟨VS_p sV (fun k a b => by rw [ck k (by omega), cr k (by omega) (by omega)]) (fun j _ j1 => mj j (Or.inl j1)), NW_p sV sN (fun k a b => by rw [ck k (by omega), cr k (by omega) (by omega)]) (fun j _ j1 => mj j (Or.inl j1)) (fun j _ _ => by rw [mr 5 (by decide) (by decide) (by decide) (by decide) (by decide) (by decide)]), oB, oD, SN_p sS (fun k a b => by rw [ck k (by omega), cr k (by omega) (by omega)]) (mj 1 (by decide)) (fun j j0 _ => mj j (Or.inr j0))⟩
    have hS2 : STD (F_X0_copy_27_35 (F_X11_noteReading r.2)) (R_X12_book μ).2 := STD_cg hSt (note_b r.2) (mEQ_row rfl rfl rfl)
    have tk : ∀ k : Nat, k < 27 ∨ 35 ≤ k → F_X0_copy_27_35 (F_X11_noteReading r.2) k = F_X11_noteReading r.2 k := fun k hk => fr_F_X0_copy_27_35 _ (by simp; omega)
    have eV : V_X11_book σ = (R_X12_book μ).1 := by
      unfold V_X11_book
      rw [hr, if_neg z, b1, (bcopy_rows (F_X11_noteReading r.2)).1 0 (by decide), (bcopy_rows r.2).1 0 (by decide), note_k _ (by decide) (by decide)]
    have eF : F_X11_book σ = F_X11_judgeAnew (F_X0_copy_27_35 (F_X11_noteReading r.2)) := by unfold F_X11_book; rw [hr, if_neg z]
    refine CALL_of _ _ (by decide) (by decide) eV (do2_X11_book σ (by omega) (fun _ => by rw [hr]; exact WC_of hS2.1 hS2.2.2.1)) (does_X12_book μ (by omega) hp.2 hF.2) ?_
    rw [eF]
    exact REL_ju h (TT_0 hT (by rw [tk 1 (by decide)]; exact note_1 _) (by rw [tk 2 (by decide), note_k _ (by decide) (by decide), cr 2 (by decide) (by decide)]) m2 (mr 1 (by decide) (by decide) (by decide) (by decide) (by decide) (by decide))) (by rw [tk 0 (by decide), note_16]; exact f15) (by rw [tk 4 (by decide), note_k _ (by decide) (by decide), cr 4 (by decide) (by decide)]) (mr 6 (by decide) (by decide) (by decide) (by decide) (by decide) (by decide)) hS2 (fun k hk => by rw [tk k (by omega), note_k _ (by omega) (by omega), cr k (by omega) (by omega)]) m60 (fun k hk => mr k (by omega) (by omega) (by omega) (by omega) (by omega) (by omega))
theorem k_drawn {σ μ : zG} (h : REL σ μ) (x sd : Int) : CALL m_X11_drawn m_X12_drawn [.inl x, .inl sd] σ μ := by
  obtain ⟨hT, hf, ⟨hK, hC⟩, hS, hJ, hFC, hLB, hBO, hI⟩ := id h
  obtain ⟨sV, sN, sB, sD, sS⟩ := id hS
  have hp := sV.1
  have hF := sV.2.1
  have c5 : σ 5 0 = μ 2 0 := hp.1
  have c6 : σ 5 1 = μ 2 1 := hF.1
  by_cases ok : (1 ≤ x ∧ x ≤ 60) ∧ 2 ≤ σ 5 0 ∧ 1 ≤ σ 5 1
  · obtain ⟨d1, d2, d3, d4, d5, d6, d7⟩ := drawn_ok (sd := sd) sV ok.1 (by omega) (by omega)
    have cr : ∀ k : Nat, k < 27 ∨ (35 ≤ k ∧ k ≠ 97) → R_X0_draw (zu σ 97 0 sd) x k = σ k := fun k hk => by rw [fr_R_X0_draw (h := by simp; omega), zu_row _ _ _ (by omega)]
    have hS2 : STD (R_X0_draw (zu σ 97 0 sd) x) (R_X12_drawn μ x sd).2 := ⟨VS_p sV (fun k a b => cr k (by omega)) (fun j _ j1 => d5 j (Or.inl j1)), NW_p sV sN (fun k a b => cr k (by omega)) (fun j _ j1 => d5 j (Or.inl j1)) (fun j _ _ => by rw [d6 5 (by decide) (by decide) (by decide) (by decide) (by decide)]), d3, d4, SN_p sS (fun k a b => cr k (by omega)) (d5 1 (by decide)) (fun j j0 _ => d5 j (Or.inr j0))⟩
    have eV : V_X11_drawn σ x sd = (R_X12_drawn μ x sd).1 := by
      unfold V_X11_drawn
      rw [if_neg (by omega), if_neg (by omega), if_neg (by omega), if_pos ok.2.2, d1, d2]
    have eF : F_X11_drawn σ x sd = F_X11_judgeAnew (R_X0_draw (zu σ 97 0 sd) x) := by
      unfold F_X11_drawn
      rw [if_neg (by omega), if_neg (by omega), if_neg (by omega), if_pos ok.2.2]
    refine CALL_of _ _ (by decide) (by decide) eV (do2_X11_drawn σ x sd (by omega) (by omega) (fun _ => WC_of hS2.1 hS2.2.2.1)) (does_X12_drawn μ x sd hp.2 hF.2) ?_
    rw [eF]
    exact REL_ju h (TT_row hT (by rw [cr 1 (by decide)]) (cr 2 (by decide)) (d7 2 (by decide) (by decide) (by decide) (by decide)) (d6 1 (by decide) (by decide) (by decide) (by decide) (by decide))) (by rw [cr 0 (by decide), d7 15 (by decide) (by decide) (by decide) (by decide)]; exact hf) (cr 4 (by decide)) (d6 6 (by decide) (by decide) (by decide) (by decide) (by decide)) hS2 (fun k hk => cr k (by omega)) (d7 60 (by decide) (by decide) (by decide) (by decide)) (fun k hk => d6 k (by omega) (by omega) (by omega) (by omega) (by omega))
  · have eM : R_X12_drawn μ x sd = (-1, zu μ 0 0 0) := by
      unfold R_X12_drawn
      by_cases a : 1 ≤ x ∧ x ≤ 60
      · rw [if_pos a]
        by_cases b : μ 2 0 < 2
        · rw [if_pos b]
        · rw [if_neg b, if_pos (by omega)]
      · rw [if_neg a]
    have eC : V_X11_drawn σ x sd = -1 ∧ F_X11_drawn σ x sd = σ := by
      unfold V_X11_drawn F_X11_drawn
      by_cases a : x < 1
      · rw [if_pos a, if_pos a]; exact ⟨rfl, rfl⟩
      · rw [if_neg a, if_neg a]
        by_cases b : 60 < x
        · rw [if_pos b, if_pos b]; exact ⟨rfl, rfl⟩
        · rw [if_neg b, if_neg b]
          by_cases c : σ 5 0 < 2
          · rw [if_pos c, if_pos c]; exact ⟨rfl, rfl⟩
          · rw [if_neg c, if_neg c, if_neg (by omega), if_neg (by omega)]; exact ⟨rfl, rfl⟩
    refine CALL_of _ _ (by decide) (by decide) (by rw [eC.1, eM]) (do2_X11_drawn σ x sd (by omega) (by omega) (fun y => absurd y ok)) (does_X12_drawn μ x sd hp.2 hF.2) ?_
    rw [eC.2, eM]
    exact REL_m h (mK_0 μ)
theorem note_s (σ : zG) : (∀ k : Nat, 5 ≤ k → k < 43 ∨ 47 ≤ k → F_X6_copy_43_48 (F_X11_noteReading σ) k = F_X6_copy_43_48 σ k) ∧ (∀ j : Int, j = 0 ∨ j = 1 → F_X6_copy_43_48 (F_X11_noteReading σ) 43 j = F_X6_copy_43_48 σ 43 j) ∧ ∀ i : Int, 0 ≤ i → i < 40 → F_X6_copy_43_48 (F_X11_noteReading σ) 44 i = F_X6_copy_43_48 σ 44 i ∧ F_X6_copy_43_48 (F_X11_noteReading σ) 45 i = F_X6_copy_43_48 σ 45 i ∧ F_X6_copy_43_48 (F_X11_noteReading σ) 46 i = F_X6_copy_43_48 σ 46 i := by
  have a := scopy_rows (F_X11_noteReading σ)
  have b := scopy_rows σ
  have nk : ∀ k : Nat, 5 ≤ k → F_X11_noteReading σ k = σ k := fun k hk => note_k _ (by omega) (by omega)
  refine ⟨fun k h5 hk => by rw [fr_F_X6_copy_43_48 (h := by simp; omega), fr_F_X6_copy_43_48 (h := by simp; omega), nk k h5], fun j hj => by rw [a.1 j hj, b.1 j hj, nk 48 (by decide)], fun i i0 i1 => ?_⟩
  have x := a.2 i i0 i1
  have y := b.2 i i0 i1
  rw [x.1, x.2.1, x.2.2, y.1, y.2.1, y.2.2, nk 49 (by decide), nk 50 (by decide), nk 51 (by decide)]
  exact ⟨rfl, rfl, rfl⟩
theorem dsum_473 {T T' : Int → Int} (e : ∀ j : Int, j < 473 → T' j = T j) : ∀ n : Nat, n ≤ 60 → dsum T' n = dsum T n
  | 0, _ => rfl
  | n + 1, h => by
    rw [dsum, dsum, dsum_473 e n (by omega)]
    unfold dl
    rw [e (173 + 5 * (n : Int)) (by omega), e (173 + 5 * (n : Int) + 4) (by omega)]
theorem sent_low (σ : zG) (ht : 0 ≤ σ 1 1 ∧ σ 1 1 ≤ 940) {k : Nat} (a : 43 ≤ k) (b : k < 47) : F_X6_take (F_X5_open σ 200) k = σ k := by
  rw [fr_F_X6_take _ (CI_open ht) (by simp; omega), open_k _ _ (by omega)]
theorem k_sentence {σ μ : zG} (h : REL σ μ) : CALL m_X11_sentence m_X12_sentence [] σ μ := by
  obtain ⟨hT, hf, ⟨hK, hC⟩, hS, hJ, hFC, hLB, hBO, hI⟩ := id h
  obtain ⟨sV, sN, sB, sD, sS⟩ := id hS
  have so := sent_read hK hC sV sN hT.1 hT.2
  have m2 := sent_2 μ
  have m60 : (R_X12_sentence μ).2 0 60 = μ 0 60 := g_R_X12_sentence rfl μ
  have mr : ∀ k : Nat, k ≠ 0 → k ≠ 2 → k ≠ 36 → k ≠ 37 → (R_X12_sentence μ).2 k = μ k := fun k a b c d => fr_R_X12_sentence _ (by simp; omega)
  have hl := hT.1
  have hF := sV.2.1
  have fx : ∀ k : Nat, k ≠ 0 → k ≠ 1 → k ≠ 3 → k < 43 ∨ 52 ≤ k → F_X11_sentence σ k = σ k := fun k a b c d => fr_F_X11_sentence σ (by omega) (by simp; omega)
  rcases so with ⟨z, a1, a2, a3, a4⟩ | ⟨z, a1, a2, a3, a4⟩
  · have eV : V_X11_sentence σ = (R_X12_sentence μ).1 := by
      unfold V_X11_sentence V_X11_refusedAt
      rw [if_pos z, note_k _ (by decide) (by decide), a3, a1]
    have eF : F_X11_sentence σ = F_X11_noteReading (F_X6_take (F_X5_open σ 200)) := by unfold F_X11_sentence; rw [if_pos z]
    refine CALL_of _ _ (by decide) (by decide) eV (does_X11_sentence σ (by omega)) (does_X12_sentence μ (by omega) hF.2) ?_
    have sr : ∀ k : Nat, 43 ≤ k → k < 47 → F_X11_sentence σ k = σ k := fun k a b => by
      rw [eF, note_k _ (by omega) (by omega)]
      exact sent_low σ (by omega) a b
    exact REL_tp h (TT_0 hT (by rw [eF]; exact note_1 _) (fx 2 (by decide) (by decide) (by decide) (by decide)) m2 (mr 1 (by decide) (by decide) (by decide) (by decide))) (by rw [eF, note_16]; exact a2) (fun k hk => by
      by_cases c : 43 ≤ k ∧ k < 47
      · exact sr k c.1 c.2
      · exact fx k (by omega) (by omega) (by omega) (by omega)) m60 a4 (fun j _ _ => by rw [mr 5 (by decide) (by decide) (by decide) (by decide)]) (fun k hk => mr k (by omega) (by omega) (by omega) (by omega))
  · have nz : ¬ V_X6_take (F_X5_open σ 200) = 0 := by rw [z]; decide
    have ns := note_s (F_X6_take (F_X5_open σ 200))
    have eV : V_X11_sentence σ = (R_X12_sentence μ).1 := by
      unfold V_X11_sentence
      rw [if_neg nz, a2, ns.2.1 0 (by decide)]
    have eF : F_X11_sentence σ = F_X6_copy_43_48 (F_X11_noteReading (F_X6_take (F_X5_open σ 200))) := by unfold F_X11_sentence; rw [if_neg nz]
    refine CALL_of _ _ (by decide) (by decide) eV (does_X11_sentence σ (by omega)) (does_X12_sentence μ (by omega) hF.2) ?_
    have ck : ∀ (τ : zG) (k : Nat), k < 43 ∨ 47 ≤ k → F_X6_copy_43_48 τ k = τ k := fun τ k hk => fr_F_X6_copy_43_48 _ (by simp; omega)
    have hSN : SN (F_X11_sentence σ) (R_X12_sentence μ).2 := by
      rw [eF]
      obtain ⟨C, ⟨c1, c2⟩, c34, c5, c6, c7, c8, c9⟩ := a3
      exact ⟨C, ⟨by rw [ns.2.1 1 (by decide)]; exact c1, KL_c C (fun j j0 j1 => ns.2.2 j j0 (by omega)) c2⟩, c34, c5, c6, by rw [ns.2.1 0 (by decide)]; exact c7, by rw [ns.2.1 0 (by decide)]; exact c8, c9⟩
    have hS2 : STD (F_X11_sentence σ) (R_X12_sentence μ).2 := by
      refine ⟨VS_p sV (fun k a b => fx k (by omega) (by omega) (by omega) (by omega)) (fun j _ j1 => a4 j (by omega)), NW_p sV sN (fun k a b => fx k (by omega) (by omega) (by omega) (by omega)) (fun j _ j1 => a4 j (by omega)) (fun j _ _ => by rw [mr 5 (by decide) (by decide) (by decide) (by decide)]), ?_, ?_, hSN⟩
      · have f2 : ∀ k : Nat, 27 ≤ k → k < 35 → F_X11_sentence σ k = σ k := fun k a b => fx k (by omega) (by omega) (by omega) (by omega)
        have b60 := sB.1
        unfold BK LN at sB ⊢
        rw [f2 27 (by decide) (by decide), f2 28 (by decide) (by decide), f2 29 (by decide) (by decide), f2 30 (by decide) (by decide), f2 31 (by decide) (by decide), f2 32 (by decide) (by decide), f2 33 (by decide) (by decide), mr 9 (by decide) (by decide) (by decide) (by decide), a4 172 (by decide), a4 0 (by decide), a4 1 (by decide)]
        refine ⟨sB.1, fun i i0 i1 => ?_, ?_⟩
        · have l := sB.2.1 i i0 i1
          rw [a4 (173 + (5 * i)) (by omega), a4 ((173 + (5 * i)) + 1) (by omega), a4 ((173 + (5 * i)) + 2) (by omega), a4 ((173 + (5 * i)) + 3) (by omega), a4 ((173 + (5 * i)) + 4) (by omega)]
          exact l
        · rw [dsum_473 (fun j j1 => a4 j j1) _ (by omega)]
          exact sB.2.2
      · have f2 : ∀ k : Nat, 27 ≤ k → k < 35 → F_X11_sentence σ k = σ k := fun k a b => fx k (by omega) (by omega) (by omega) (by omega)
        unfold DD DY DYl at sD ⊢
        rw [f2 27 (by decide) (by decide), f2 28 (by decide) (by decide), f2 29 (by decide) (by decide), f2 34 (by decide) (by decide)]
        exact sD
    exact REL_mk h (TT_0 hT (by rw [eF, ck _ 1 (by decide)]; exact note_1 _) (fx 2 (by decide) (by decide) (by decide) (by decide)) m2 (mr 1 (by decide) (by decide) (by decide) (by decide))) (by rw [eF, ck _ 0 (by decide), note_16]; exact a1) (fx 4 (by decide) (by decide) (by decide) (by decide)) (mr 6 (by decide) (by decide) (by decide) (by decide)) hS2 (LJ_row hJ (fun c a b d => fx c (by omega) (by omega) (by omega) (by omega))) (FC_cg hFC (fun j _ => by rw [fx 81 (by decide) (by decide) (by decide) (by decide)]) (fx 82 (by decide) (by decide) (by decide) (by decide)) (fun c a b d => fx c (by omega) (by omega) (by omega) (by omega))) (by rw [fx 84 (by decide) (by decide) (by decide) (by decide)]; exact hLB) (BO2_cg hBO (by rw [fx 91 (by decide) (by decide) (by decide) (by decide)]) (fx 96 (by decide) (by decide) (by decide) (by decide)) m60 (mr 32 (by decide) (by decide) (by decide) (by decide))) (IMG_cg hI (fun k a b => fx k (by omega) (by omega) (by omega) (by omega)) (mr 39 (by decide) (by decide) (by decide) (by decide)) (mr 40 (by decide) (by decide) (by decide) (by decide)) (mr 10 (by decide) (by decide) (by decide) (by decide)) (mr 41 (by decide) (by decide) (by decide) (by decide)))
/-! images -/
theorem restore_0 (μ : zG) {x : Int} (h : ¬ (0 ≤ x ∧ x ≤ 1) ∨ μ 41 x = 0) : R_X12_restore μ x = (0, zu μ 0 0 0) := by
  unfold R_X12_restore
  by_cases c : 0 ≤ x ∧ x ≤ 1
  · rw [if_pos c]
    rcases h with h | h
    · exact absurd c h
    · rw [if_pos h]
  · rw [if_neg c]
theorem IMG_k {σ' σ ν μ : zG} (h : IMG σ μ) (hS : STD σ μ) {a : Nat} {x : Int} (ha : (a = 100 ∧ x = 0) ∨ (a = 125 ∧ x = 1)) (k1 : sEQ (vS a σ') σ) (k2 : σ' a 0 = 1) (k3 : ∀ k : Nat, k < a ∨ a + 24 ≤ k → σ' k = σ k) (m1 : mEQ (vM x ν) μ) (m2 : ν 41 x = 1) (m3 : ∀ y : Int, y = 0 ∨ y = 1 → y ≠ x → mEQ (vM y ν) (vM y μ) ∧ ν 41 y = μ 41 y) : IMG σ' ν := by
  rcases ha with ⟨rfl, rfl⟩ | ⟨rfl, rfl⟩
  · have o := m3 1 (by decide) (by decide)
    refine ⟨⟨by rw [k2, m2], fun _ => STD_cg hS k1 m1⟩, ?_, fun z => ?_⟩
    · rw [k3 125 (by decide), o.2]; exact h.2.1
    · rw [k3 125 (by decide)] at z
      exact STD_cg (h.2.2 z) (vS_row (fun k a b => k3 k (by omega))) o.1
  · have o := m3 0 (by decide) (by decide)
    refine ⟨⟨?_, fun z => ?_⟩, by rw [k2, m2], fun _ => STD_cg hS k1 m1⟩
    · rw [k3 100 (by decide), o.2]; exact h.1.1
    · rw [k3 100 (by decide)] at z
      exact STD_cg (h.1.2 z) (vS_row (fun k a b => k3 k (by omega))) o.1
theorem REL_im {σ' ν σ μ : zG} (h : REL σ μ) {a : Nat} {x : Int} (ha : (a = 100 ∧ x = 0) ∨ (a = 125 ∧ x = 1)) (k1 : sEQ (vS a σ') σ) (k2 : σ' a 0 = 1) (k3 : ∀ k : Nat, k < a ∨ a + 24 ≤ k → σ' k = σ k) (m1 : mEQ (vM x ν) μ) (m2 : ν 41 x = 1) (m3 : ∀ y : Int, y = 0 ∨ y = 1 → y ≠ x → mEQ (vM y ν) (vM y μ) ∧ ν 41 y = μ 41 y) (m4 : ∀ k : Nat, k ≠ 0 → k ≠ 10 → k ≠ 39 → k ≠ 40 → k ≠ 41 → ν k = μ k) (m5 : ∀ j : Int, j ≠ 0 → ν 0 j = μ 0 j) : REL σ' ν := by
  obtain ⟨hT, hf, ⟨hK, hC⟩, hS, hJ, hFC, hLB, hBO, hI⟩ := id h
  have lo : ∀ k : Nat, k < 100 → σ' k = σ k := fun k hk => k3 k (by omega)
  exact REL_mk h (TT_row hT (by rw [lo 1 (by decide)]) (lo 2 (by decide)) (m5 2 (by decide)) (m4 1 (by decide) (by decide) (by decide) (by decide) (by decide))) (by rw [lo 0 (by decide), m5 15 (by decide)]; exact hf) (lo 4 (by decide)) (m4 6 (by decide) (by decide) (by decide) (by decide) (by decide)) (STD_r hS (fun k hk => lo k (by omega)) (m4 2 (by decide) (by decide) (by decide) (by decide) (by decide)) (m4 5 (by decide) (by decide) (by decide) (by decide) (by decide)) (m4 9 (by decide) (by decide) (by decide) (by decide) (by decide))) (LJ_row hJ (fun c a b d => lo c (by omega))) (FC_cg hFC (fun j _ => by rw [lo 81 (by decide)]) (lo 82 (by decide)) (fun c a b d => lo c (by omega))) (by rw [lo 84 (by decide)]; exact hLB) (BO2_cg hBO (by rw [lo 91 (by decide)]) (lo 96 (by decide)) (m5 60 (by decide)) (m4 32 (by decide) (by decide) (by decide) (by decide) (by decide))) (IMG_k hI hS ha k1 k2 k3 m1 m2 m3)
theorem k_image {σ μ : zG} (h : REL σ μ) (x : Int) : CALL m_X11_image m_X12_image [.inl x] σ μ := by
  by_cases c0 : x = 0
  · subst c0
    obtain ⟨a1, a2, a3, a4, a5, a6⟩ := image_m μ (x := 0) (Or.inl rfl)
    have k := keep_100 σ
    exact CALL_of _ _ (by decide) (by decide) a1.symm (does_X11_image_0 σ) (does_X12_image μ 0) (REL_im h (Or.inl ⟨rfl, rfl⟩) k.1 k.2.1 (fun q hq => k.2.2 q (by omega)) a2 a3 a4 a5 a6)
  · by_cases c1 : x = 1
    · subst c1
      obtain ⟨a1, a2, a3, a4, a5, a6⟩ := image_m μ (x := 1) (Or.inr rfl)
      have k := keep_125 σ
      exact CALL_of _ _ (by decide) (by decide) a1.symm (does_X11_image_1 σ) (does_X12_image μ 1) (REL_im h (Or.inr ⟨rfl, rfl⟩) k.1 k.2.1 (fun q hq => k.2.2 q (by omega)) a2 a3 a4 a5 a6)
    · have e : R_X12_image μ x = (0, zu μ 0 0 0) := by unfold R_X12_image; rw [if_neg (by omega)]
      refine CALL_of _ _ (by decide) (by decide) (by rw [e]) (does_X11_image_n σ x (by omega)) (does_X12_image μ x) ?_
      rw [e]
      exact REL_m h (mK_0 μ)
/-- an image taken back -/
theorem REL_re {τ ν σ μ : zG} (h : REL σ μ) (hS : STD τ ν) (hlo : ∀ k : Nat, k < 5 ∨ 47 ≤ k → τ k = σ k) (m4 : ∀ k : Nat, k ≠ 0 → k ≠ 2 → k ≠ 5 → k ≠ 9 → ν k = μ k) (m5 : ∀ j : Int, j ≠ 0 → ν 0 j = μ 0 j) : REL (F_X11_judgeAnew τ) ν := by
  obtain ⟨hT, hf, ⟨hK, hC⟩, _, hJ, hFC, hLB, hBO, hI⟩ := id h
  exact REL_ju h (TT_row hT (by rw [hlo 1 (by decide)]) (hlo 2 (by decide)) (m5 2 (by decide)) (m4 1 (by decide) (by decide) (by decide) (by decide))) (by rw [hlo 0 (by decide), m5 15 (by decide)]; exact hf) (hlo 4 (by decide)) (m4 6 (by decide) (by decide) (by decide) (by decide)) hS (fun k hk => hlo k (by omega)) (m5 60 (by decide)) (fun k hk => m4 k (by omega) (by omega) (by omega) (by omega))
theorem k_restore {σ μ : zG} (h : REL σ μ) (x : Int) : CALL m_X11_restore m_X12_restore [.inl x] σ μ := by
  have hI := h.2.2.2.2.2.2.2.2
  have zz : REL σ (zu μ 0 0 0) := REL_m h ⟨fun j hj => zu_off _ _ _ (by omega), fun k hk => zu_row _ _ _ (by omega)⟩
  by_cases c0 : x = 0
  · subst c0
    by_cases z : σ 100 0 = 0
    · have e := restore_0 μ (x := 0) (Or.inr (hI.1.1.mp z))
      have eF : F_X11_restore_0 σ = σ := by unfold F_X11_restore_0; rw [if_pos z]
      refine CALL_of _ _ (by decide) (by decide) (by rw [e]; unfold V_X11_restore_0; rw [if_pos z]) (do2_X11_restore_0 σ (fun y => absurd z y)) (does_X12_restore μ 0) ?_
      rw [eF, e]; exact zz
    · obtain ⟨a1, a2, a3, a4⟩ := restore_m μ (x := 0) (Or.inl rfl) (fun y => z (hI.1.1.mpr y))
      have b := back_100 σ
      have hS : STD (F_X6_copy_43_120 (F_X0_copy_27_112 (F_X9_copy_5_101 σ))) (R_X12_restore μ 0).2 := STD_cg (hI.1.2 z) b.1 a2
      have eF : F_X11_restore_0 σ = F_X11_judgeAnew (F_X6_copy_43_120 (F_X0_copy_27_112 (F_X9_copy_5_101 σ))) := by unfold F_X11_restore_0; rw [if_neg z]
      refine CALL_of _ _ (by decide) (by decide) (by rw [a1]; unfold V_X11_restore_0; rw [if_neg z]) (do2_X11_restore_0 σ (fun _ => WC_of hS.1 hS.2.2.1)) (does_X12_restore μ 0) ?_
      rw [eF]
      refine REL_re h hS (fun k hk => ?_) a3 a4
      rcases hk with hk | hk
      · rw [fr_F_X6_copy_43_120 (h := by simp; omega), fr_F_X0_copy_27_112 (h := by simp; omega), fr_F_X9_copy_5_101 (h := by simp; omega)]
      · exact b.2 k hk
  · by_cases c1 : x = 1
    · subst c1
      by_cases z : σ 125 0 = 0
      · have e := restore_0 μ (x := 1) (Or.inr (hI.2.1.mp z))
        have eF : F_X11_restore_1 σ = σ := by unfold F_X11_restore_1; rw [if_pos z]
        refine CALL_of _ _ (by decide) (by decide) (by rw [e]; unfold V_X11_restore_1; rw [if_pos z]) (do2_X11_restore_1 σ (fun y => absurd z y)) (does_X12_restore μ 1) ?_
        rw [eF, e]; exact zz
      · obtain ⟨a1, a2, a3, a4⟩ := restore_m μ (x := 1) (Or.inr rfl) (fun y => z (hI.2.1.mpr y))
        have b := back_125 σ
        have hS : STD (F_X6_copy_43_145 (F_X0_copy_27_137 (F_X9_copy_5_126 σ))) (R_X12_restore μ 1).2 := STD_cg (hI.2.2 z) b.1 a2
        have eF : F_X11_restore_1 σ = F_X11_judgeAnew (F_X6_copy_43_145 (F_X0_copy_27_137 (F_X9_copy_5_126 σ))) := by unfold F_X11_restore_1; rw [if_neg z]
        refine CALL_of _ _ (by decide) (by decide) (by rw [a1]; unfold V_X11_restore_1; rw [if_neg z]) (do2_X11_restore_1 σ (fun _ => WC_of hS.1 hS.2.2.1)) (does_X12_restore μ 1) ?_
        rw [eF]
        refine REL_re h hS (fun k hk => ?_) a3 a4
        rcases hk with hk | hk
        · rw [fr_F_X6_copy_43_145 (h := by simp; omega), fr_F_X0_copy_27_137 (h := by simp; omega), fr_F_X9_copy_5_126 (h := by simp; omega)]
        · exact b.2 k hk
    · have e := restore_0 μ (x := x) (Or.inl (by omega))
      refine CALL_of _ _ (by decide) (by decide) (by rw [e]) (does_X11_restore_n σ x (by omega)) (does_X12_restore μ x) ?_
      rw [e]; exact zz
