/-! pure: what ties the class's state to the model's, between two calls -/
def REL (σ μ : zG) : Prop := TT σ μ ∧ σ 0 16 = μ 0 15 ∧ (KW σ μ ∧ KC σ) ∧ STD σ μ ∧ LJ σ ∧ FC σ ∧ LB (σ 84) ∧ BO2 σ μ ∧ IMG σ μ
/-- the rows of the class that it hangs on -/
def sK (σ' σ : zG) : Prop := (σ' 1 1 = σ 1 1 ∧ σ' 0 16 = σ 0 16 ∧ σ' 91 5 = σ 91 5) ∧ (∀ j : Int, j = 0 ∨ j = 1 ∨ j = 2 ∨ j = 3 → σ' 81 j = σ 81 j) ∧ ∀ k : Nat, k = 2 ∨ k = 4 ∨ (5 ≤ k ∧ k < 16) ∨ (27 ≤ k ∧ k < 35) ∨ (43 ≤ k ∧ k < 47) ∨ (53 ≤ k ∧ k < 67) ∨ k = 82 ∨ k = 84 ∨ k = 96 ∨ (100 ≤ k ∧ k < 150) → σ' k = σ k
/-- the model's rows that it hangs on -/
def mK (ν μ : zG) : Prop := (∀ j : Int, j = 2 ∨ j = 15 ∨ j = 60 → ν 0 j = μ 0 j) ∧ ∀ k : Nat, k = 1 ∨ k = 2 ∨ k = 5 ∨ k = 6 ∨ k = 9 ∨ k = 10 ∨ k = 32 ∨ k = 39 ∨ k = 40 ∨ k = 41 → ν k = μ k
theorem sK_rf (σ : zG) : sK σ σ := ⟨⟨rfl, rfl, rfl⟩, fun _ _ => rfl, fun _ _ => rfl⟩
theorem mK_rf (μ : zG) : mK μ μ := ⟨fun _ _ => rfl, fun _ _ => rfl⟩
theorem sEQ_row {σ' σ : zG} (r : ∀ k : Nat, (5 ≤ k ∧ k < 16) ∨ (27 ≤ k ∧ k < 35) ∨ (43 ≤ k ∧ k < 47) → σ' k = σ k) : sEQ σ' σ := by
  refine ⟨fun j _ => by rw [r 5 (by decide)], fun j _ _ => ⟨by rw [r 6 (by decide)], by rw [r 7 (by decide)], by rw [r 12 (by decide)], by rw [r 13 (by decide)]⟩, fun j _ _ => ⟨by rw [r 8 (by decide)], by rw [r 9 (by decide)], by rw [r 10 (by decide)], by rw [r 11 (by decide)]⟩, fun j _ _ => by rw [r 14 (by decide)], fun j _ _ => by rw [r 15 (by decide)], fun j _ => by rw [r 27 (by decide)], fun j _ _ => ⟨by rw [r 28 (by decide)], by rw [r 29 (by decide)], by rw [r 30 (by decide)], by rw [r 31 (by decide)], by rw [r 32 (by decide)], by rw [r 33 (by decide)], by rw [r 34 (by decide)]⟩, fun j _ => by rw [r 43 (by decide)], fun j _ _ => ⟨by rw [r 44 (by decide)], by rw [r 45 (by decide)], by rw [r 46 (by decide)]⟩⟩
theorem mEQ_row {ν μ : zG} (e2 : ν 2 = μ 2) (e5 : ν 5 = μ 5) (e9 : ν 9 = μ 9) : mEQ ν μ := ⟨fun j _ _ => by rw [e2], fun j _ _ => by rw [e5], fun j _ _ => by rw [e9]⟩
theorem vS_row {σ' σ : zG} {a : Nat} (h : ∀ k : Nat, a + 1 ≤ k → k < a + 24 → σ' k = σ k) : sEQ (vS a σ') (vS a σ) := by
  refine sEQ_row (fun k hk => ?_)
  unfold vS
  by_cases c1 : 5 ≤ k ∧ k < 16
  · simp only [if_pos c1]; exact h _ (by omega) (by omega)
  · by_cases c2 : 27 ≤ k ∧ k < 35
    · simp only [if_neg c1, if_pos c2]; exact h _ (by omega) (by omega)
    · by_cases c3 : 43 ≤ k ∧ k < 47
      · simp only [if_neg c1, if_neg c2, if_pos c3]; exact h _ (by omega) (by omega)
      · omega
theorem vM_row {ν μ : zG} (x : Int) (h39 : ν 39 = μ 39) (h40 : ν 40 = μ 40) (h10 : ν 10 = μ 10) : mEQ (vM x ν) (vM x μ) := by
  refine ⟨fun j _ _ => ?_, fun j _ _ => ?_, fun j _ _ => ?_⟩
  · show ν 39 _ = μ 39 _
    rw [h39]
  · show ν 40 _ = μ 40 _
    rw [h40]
  · show ν 10 _ = μ 10 _
    rw [h10]
theorem IMG_cg {σ' σ ν μ : zG} (h : IMG σ μ) (hs : ∀ k : Nat, 100 ≤ k → k < 150 → σ' k = σ k) (h39 : ν 39 = μ 39) (h40 : ν 40 = μ 40) (h10 : ν 10 = μ 10) (h41 : ν 41 = μ 41) : IMG σ' ν := by
  unfold IMG at *
  rw [hs 100 (by decide) (by decide), hs 125 (by decide) (by decide), h41]
  exact ⟨⟨h.1.1, fun z => STD_cg (h.1.2 z) (vS_row (fun k a b => hs k (by omega) (by omega))) (vM_row 0 h39 h40 h10)⟩, h.2.1, fun z => STD_cg (h.2.2 z) (vS_row (fun k a b => hs k (by omega) (by omega))) (vM_row 1 h39 h40 h10)⟩
theorem FC_cg {σ' σ : zG} (h : FC σ) (f : ∀ j : Int, j = 0 ∨ j = 1 ∨ j = 2 ∨ j = 3 → σ' 81 j = σ 81 j) (e82 : σ' 82 = σ 82) (r : ∀ c : Nat, 5 ≤ c → c < 67 → c < 16 ∨ (27 ≤ c ∧ c < 35) ∨ 53 ≤ c → σ' c = σ c) : FC σ' := by
  intro z
  rw [f 0 (by decide)] at z
  obtain ⟨σ0, a1, a2, a3, a4, a5, a6⟩ := h z
  rw [f 1 (by decide), f 2 (by decide), f 3 (by decide), e82]
  exact ⟨σ0, a1, fun c a b d => (a2 c a b d).trans (r c a b d).symm, a3, a4, a5, a6⟩
theorem BO2_cg {σ' σ ν μ : zG} (h : BO2 σ μ) (e5 : σ' 91 5 = σ 91 5) (e96 : σ' 96 = σ 96) (m60 : ν 0 60 = μ 0 60) (m32 : ν 32 = μ 32) : BO2 σ' ν := by
  unfold BO2 at *
  rw [e5, e96, m60, m32]; exact h
theorem STD_r {σ' σ ν μ : zG} (h : STD σ μ) (r : ∀ k : Nat, (5 ≤ k ∧ k < 16) ∨ (27 ≤ k ∧ k < 35) ∨ (43 ≤ k ∧ k < 47) → σ' k = σ k) (e2 : ν 2 = μ 2) (e5 : ν 5 = μ 5) (e9 : ν 9 = μ 9) : STD σ' ν := STD_cg h (sEQ_row r) (mEQ_row e2 e5 e9)
theorem REL_cg {σ' σ ν μ : zG} (h : REL σ μ) (hs : sK σ' σ) (hm : mK ν μ) : REL σ' ν := by
  obtain ⟨hT, hf, ⟨hK, hC⟩, hS, hJ, hF, hL, hB, hI⟩ := h
  obtain ⟨⟨c1, c0, c91⟩, c81, r⟩ := hs
  obtain ⟨m0, m⟩ := hm
  refine ⟨TT_row hT c1 (r 2 (by decide)) (m0 2 (by decide)) (m 1 (by decide)), by rw [c0, m0 15 (by decide)]; exact hf, ⟨KW_row hK (r 4 (by decide)) (m 6 (by decide)), KC_row hC (r 4 (by decide))⟩, STD_r hS (fun k hk => r k (by omega)) (m 2 (by decide)) (m 5 (by decide)) (m 9 (by decide)), LJ_row hJ (fun c a b d => r c (by omega)), FC_cg hF c81 (r 82 (by decide)) (fun c a b d => r c (by omega)), by rw [r 84 (by decide)]; exact hL, BO2_cg hB c91 (r 96 (by decide)) (m0 60 (by decide)) (m 32 (by decide)), IMG_cg hI (fun k a b => r k (by omega)) (m 39 (by decide)) (m 40 (by decide)) (m 10 (by decide)) (m 41 (by decide))⟩
theorem REL_m {σ ν μ : zG} (h : REL σ μ) (hm : mK ν μ) : REL σ ν := REL_cg h (sK_rf σ) hm
/-! what the contracts take as given -/
theorem MN_of {σ μ : zG} (hV : VS σ μ) (hB : BK σ μ) : MN (μ 2) := by
  have hp := hV.1
  have hF := hV.2.1
  have hS := hV.2.2.1
  have hb' := hB.1
  refine ⟨⟨⟨hS.1.2, fun k k0 k1 => ?_⟩, fun a a0 a1 => ?_, hp.2.2, hb'.2.2, fun i i0 i1 => ?_⟩, hp.2, hF.2, hb'.2⟩
  · have a := hS.2.2 k k0 k1
    exact ⟨⟨a.1.1, by omega⟩, ⟨a.2.1.1, by omega⟩, a.2.2.1.1, by omega⟩
  · exact (hV.2.2.2.2.2 a a0 a1).2.1
  · intro z
    have l := hB.2.1 i i0 i1
    have w := l.2.2.1 z
    have f := hV.2.2.2.2.1 _ w.2.2.2.1 w.2.2.2.2
    refine ⟨⟨w.1.1, by omega⟩, ⟨w.2.1.1, by omega⟩, ⟨w.2.2.2.1, by omega⟩, fun y => ⟨(l.2.2.2.1 y).1, (l.2.2.2.1 y).2.2.1⟩, ⟨f.2.2.2.2.2.1, by omega⟩, w.2.2.1⟩
theorem MA_of {σ μ : zG} (hN : NW σ μ) : MA (μ 2) := by
  intro j j0 j1
  have a := (hN.2.2 (j - 76) (by omega) (by omega)).2
  rw [show 76 + (j - 76) = j by omega] at a
  omega
theorem MBo {σ μ : zG} (hV : VS σ μ) : MB (μ 2) := by
  intro f f0 f1
  have hp := hV.1
  have a := (hV.2.2.2.2.1 f f0 f1).2.2.2.2.2
  omega
theorem WC_of {σ μ : zG} (hV : VS σ μ) (hB : BK σ μ) : WC σ := by
  have hp := hV.1
  have hF := hV.2.1
  have hS := hV.2.2.1
  have hb' := hB.1
  refine ⟨by omega, by have := hS.2.1; have := hS.1; omega, by omega, by omega, fun i i0 i1 => ?_⟩
  have l := hB.2.1 i i0 (by omega)
  intro z
  obtain ⟨⟨e28, e29, e30, e31, e32, e33⟩, _, w0, _⟩ := l
  rw [e28] at z
  have w := w0 z
  have f := hV.2.2.2.2.1 _ w.2.2.2.1 w.2.2.2.2
  rw [e29, e30, e31, f.2.2.1]
  have := f.2.2.2.2.2
  exact ⟨w.1.1, by omega, w.2.1.1, by omega, w.2.2.2.1, by omega, by omega, by omega, w.2.2.1⟩
theorem WD_of {σ μ : zG} (hQ : QR σ μ) : WD σ := by
  intro d d0 d1
  have c := hQ.2.2.1.1.2.2.1
  have b := hQ.2.1.1
  have x := (hQ.2.2.1.2.1.1 d d0 (by omega)).2.1
  omega
theorem WO_of {σ μ : zG} (hQ : QR σ μ) : WO σ := by
  intro d d0 d1
  have c := hQ.2.2.1.1.2.2.1
  have p := hQ.1.1
  have x := hQ.2.2.1.1.2.2.2 d d0 (by omega)
  have y := x.1.1
  have z := x.2.1
  omega
theorem WH_of {σ μ : zG} (hV : VS σ μ) : WH σ := by
  intro f f0 f1
  have hF := hV.2.1
  have a := hV.2.2.2.2.1 f f0 (by omega)
  rw [a.2.1]
  exact a.2.2.2.2.1
theorem MD_of2 {σ μ : zG} (hQ : QR σ μ) : MD μ := by
  intro d d0 d1
  have p := hQ.1.1
  have x := (hQ.2.2.1.1.2.2.2 d d0 d1).2.1
  omega
theorem MP_of {σ μ : zG} (hQ : QR σ μ) : MP2 μ := by
  intro d d0 d1
  have b := hQ.2.1.1
  have x := (hQ.2.2.1.2.1.1 d d0 d1).2.2.1
  omega
/-- all that stands in REL, as the contracts want it -/
def GIV (σ μ : zG) : Prop := (σ 5 0 ≤ 8 ∧ 0 ≤ σ 5 0) ∧ (0 ≤ σ 5 1 ∧ σ 5 1 ≤ 12) ∧ σ 5 2 ≤ 8 ∧ σ 53 8 ≤ 128 ∧ σ 27 0 ≤ 60 ∧ (WD σ ∧ WO σ ∧ WH σ ∧ WC σ) ∧ (MN (μ 2) ∧ MA (μ 2) ∧ MB (μ 2)) ∧ (MD (R_X12_run (zu μ 0 0 0) (-1)) ∧ MP2 (R_X12_run (zu μ 0 0 0) (-1))) ∧ QR σ (R_X12_run (zu μ 0 0 0) (-1)) ∧ R_X12_run (zu μ 0 0 0) (-1) 2 = μ 2
theorem REL_giv {σ μ : zG} (h : REL σ μ) : GIV σ μ := by
  obtain ⟨hT, hf, ⟨hK, hC⟩, ⟨hV, hN, hB, hD, hS⟩, hJ, hF, hL, hO, hI⟩ := h
  have hQ : QR σ (R_X12_run (zu μ 0 0 0) (-1)) := QR_of hV hB hD hJ (zu_row _ _ _ (by decide)) (zu_row _ _ _ (by decide))
  have hp := hV.1
  have hF := hV.2.1
  have hb' := hB.1
  have hR := hV.2.2.1
  have hm := hQ.2.2.1.1.2.2.1
  exact ⟨⟨by omega, by omega⟩, ⟨by omega, by omega⟩, by have := hR.2.1; have := hR.1; omega, by omega, by omega, ⟨WD_of hQ, WO_of hQ, WH_of hV, WC_of hV hB⟩, ⟨MN_of hV hB, MA_of hN, MBo hV⟩, ⟨MD_of2 hQ, MP_of hQ⟩, hQ, by rw [run_2, zu_row _ _ _ (by decide)]⟩
/-- a call on both sides: one answer, and they stay tied -/
def CALL (M M' : zMI) (av : List zV) (σ μ : zG) : Prop := ∃ (v : Int) (σ' μ' : zG) (d d' : Nat), d ≤ 60 ∧ d' ≤ 60 ∧ zDo SC d M (zP 0 :: av) σ (zEq (some (.inl v)) σ') ∧ zDo SM d' M' (zP 0 :: av) μ (zEq (some (.inl v)) μ') ∧ REL σ' μ'
theorem CALL_of {M M' : zMI} {av : List zV} {σ μ σ' μ' : zG} {v v' : Int} (d d' : Nat) (h1 : d ≤ 60) (h2 : d' ≤ 60) (e : v = v') (a : zDo SC d M (zP 0 :: av) σ (zEq (some (.inl v)) σ')) (b : zDo SM d' M' (zP 0 :: av) μ (zEq (some (.inl v')) μ')) (r : REL σ' μ') : CALL M M' av σ μ := ⟨v, σ', μ', d, d', h1, h2, a, by rw [e]; exact b, r⟩
theorem k_fault {σ μ : zG} (h : REL σ μ)  : CALL m_X11_fault m_X12_fault [] σ μ := by
  have g := REL_giv h
  obtain ⟨⟨p8, p0⟩, F2, s8, m8, l60, ⟨hD, hO, hH, hW⟩, ⟨hN, hA, hB⟩, ⟨hMD, hMP⟩, hQ, e2⟩ := g
  obtain ⟨hT, hf, hKK, ⟨sV, sN, sB, sD, sS⟩, hJ, hFC, hLB, hBO, hI⟩ := id h
  refine CALL_of _ _ (by decide) (by decide) (hf) (does_X11_fault σ) (does_X12_fault μ) (REL_m h ⟨fun j hj => g_F_X12_fault hj _ , fun k hk => fr_F_X12_fault _  (by simp; omega)⟩)
theorem k_knows {σ μ : zG} (h : REL σ μ) (who i : Int) : CALL m_X11_knows m_X12_knows [.inl who, .inl i] σ μ := by
  have g := REL_giv h
  obtain ⟨⟨p8, p0⟩, F2, s8, m8, l60, ⟨hD, hO, hH, hW⟩, ⟨hN, hA, hB⟩, ⟨hMD, hMP⟩, hQ, e2⟩ := g
  obtain ⟨hT, hf, hKK, ⟨sV, sN, sB, sD, sS⟩, hJ, hFC, hLB, hBO, hI⟩ := id h
  refine CALL_of _ _ (by decide) (by decide) (q_knows e2 hQ) (does_X11_knows σ who i p8 s8) (does_X12_knows μ who i hN) (REL_m h ⟨fun j hj => g_F_X12_knows hj _ _ _, fun k hk => fr_F_X12_knows _ _ _ (by simp; omega)⟩)
theorem k_wrong {σ μ : zG} (h : REL σ μ) (i : Int) : CALL m_X11_wrong m_X12_wrong [.inl i] σ μ := by
  have g := REL_giv h
  obtain ⟨⟨p8, p0⟩, F2, s8, m8, l60, ⟨hD, hO, hH, hW⟩, ⟨hN, hA, hB⟩, ⟨hMD, hMP⟩, hQ, e2⟩ := g
  obtain ⟨hT, hf, hKK, ⟨sV, sN, sB, sD, sS⟩, hJ, hFC, hLB, hBO, hI⟩ := id h
  refine CALL_of _ _ (by decide) (by decide) (q_wrongAt e2 hQ) (does_X11_wrong σ i l60) (does_X12_wrong μ i hN) (REL_m h ⟨fun j hj => g_F_X12_wrong hj _ _, fun k hk => fr_F_X12_wrong _ _ (by simp; omega)⟩)
theorem k_debts {σ μ : zG} (h : REL σ μ)  : CALL m_X11_debts m_X12_debts [] σ μ := by
  have g := REL_giv h
  obtain ⟨⟨p8, p0⟩, F2, s8, m8, l60, ⟨hD, hO, hH, hW⟩, ⟨hN, hA, hB⟩, ⟨hMD, hMP⟩, hQ, e2⟩ := g
  obtain ⟨hT, hf, hKK, ⟨sV, sN, sB, sD, sS⟩, hJ, hFC, hLB, hBO, hI⟩ := id h
  refine CALL_of _ _ (by decide) (by decide) (q_debts hQ) (does_X11_debts σ) (does_X12_debts μ hN) (REL_m h ⟨fun j hj => g_F_X12_debts hj _ , fun k hk => fr_F_X12_debts _  (by simp; omega)⟩)
theorem k_worth {σ μ : zG} (h : REL σ μ) (who f : Int) : CALL m_X11_worth m_X12_worth [.inl who, .inl f] σ μ := by
  have g := REL_giv h
  obtain ⟨⟨p8, p0⟩, F2, s8, m8, l60, ⟨hD, hO, hH, hW⟩, ⟨hN, hA, hB⟩, ⟨hMD, hMP⟩, hQ, e2⟩ := g
  obtain ⟨hT, hf, hKK, ⟨sV, sN, sB, sD, sS⟩, hJ, hFC, hLB, hBO, hI⟩ := id h
  refine CALL_of _ _ (by decide) (by decide) (q_worth e2 hQ) (does_X11_worth σ who f p8 F2.2) (does_X12_worth μ who f hN) (REL_m h ⟨fun j hj => g_F_X12_worth hj _ _ _, fun k hk => fr_F_X12_worth _ _ _ (by simp; omega)⟩)
theorem k_autumn {σ μ : zG} (h : REL σ μ) (i : Int) : CALL m_X11_autumn m_X12_autumn [.inl i] σ μ := by
  have g := REL_giv h
  obtain ⟨⟨p8, p0⟩, F2, s8, m8, l60, ⟨hD, hO, hH, hW⟩, ⟨hN, hA, hB⟩, ⟨hMD, hMP⟩, hQ, e2⟩ := g
  obtain ⟨hT, hf, hKK, ⟨sV, sN, sB, sD, sS⟩, hJ, hFC, hLB, hBO, hI⟩ := id h
  refine CALL_of _ _ (by decide) (by decide) (q_autumn hQ) (does_X11_autumn σ i p8 m8 l60 hD) (does_X12_autumn μ i hN) (REL_m h ⟨fun j hj => g_R_X12_autumn hj _ _, fun k hk => fr_R_X12_autumn _ _ (by simp; omega)⟩)
theorem k_terms {σ μ : zG} (h : REL σ μ) (who : Int) : CALL m_X11_terms m_X12_terms [.inl who] σ μ := by
  have g := REL_giv h
  obtain ⟨⟨p8, p0⟩, F2, s8, m8, l60, ⟨hD, hO, hH, hW⟩, ⟨hN, hA, hB⟩, ⟨hMD, hMP⟩, hQ, e2⟩ := g
  obtain ⟨hT, hf, hKK, ⟨sV, sN, sB, sD, sS⟩, hJ, hFC, hLB, hBO, hI⟩ := id h
  refine CALL_of _ _ (by decide) (by decide) (q_terms e2 hQ) (do2_X11_terms σ who m8 hD) (does_X12_terms μ who hN) (REL_m h ⟨fun j hj => g_R_X12_terms hj _ _, fun k hk => fr_R_X12_terms _ _ (by simp; omega)⟩)
theorem k_source {σ μ : zG} (h : REL σ μ) (who f : Int) : CALL m_X11_source m_X12_source [.inl who, .inl f] σ μ := by
  have g := REL_giv h
  obtain ⟨⟨p8, p0⟩, F2, s8, m8, l60, ⟨hD, hO, hH, hW⟩, ⟨hN, hA, hB⟩, ⟨hMD, hMP⟩, hQ, e2⟩ := g
  obtain ⟨hT, hf, hKK, ⟨sV, sN, sB, sD, sS⟩, hJ, hFC, hLB, hBO, hI⟩ := id h
  refine CALL_of _ _ (by decide) (by decide) (q_source e2 hQ) (does_X11_source σ who f p8 F2.2) (does_X12_source μ who f hN) (REL_m h ⟨fun j hj => g_F_X12_source hj _ _ _, fun k hk => fr_F_X12_source _ _ _ (by simp; omega)⟩)
theorem k_led {σ μ : zG} (h : REL σ μ) (f x : Int) : CALL m_X11_led m_X12_led [.inl f, .inl x] σ μ := by
  have g := REL_giv h
  obtain ⟨⟨p8, p0⟩, F2, s8, m8, l60, ⟨hD, hO, hH, hW⟩, ⟨hN, hA, hB⟩, ⟨hMD, hMP⟩, hQ, e2⟩ := g
  obtain ⟨hT, hf, hKK, ⟨sV, sN, sB, sD, sS⟩, hJ, hFC, hLB, hBO, hI⟩ := id h
  refine CALL_of _ _ (by decide) (by decide) (q_led e2 hQ) (does_X11_led σ f x m8 l60) (do2_X12_led μ f x hN hMP) (REL_m h ⟨fun j hj => g_R_X12_led hj _ _ _, fun k hk => fr_R_X12_led _ _ _ (by simp; omega)⟩)
theorem k_ripple {σ μ : zG} (h : REL σ μ) (who to f i : Int) : CALL m_X11_ripple m_X12_ripple [.inl who, .inl to, .inl f, .inl i] σ μ := by
  have g := REL_giv h
  obtain ⟨⟨p8, p0⟩, F2, s8, m8, l60, ⟨hD, hO, hH, hW⟩, ⟨hN, hA, hB⟩, ⟨hMD, hMP⟩, hQ, e2⟩ := g
  obtain ⟨hT, hf, hKK, ⟨sV, sN, sB, sD, sS⟩, hJ, hFC, hLB, hBO, hI⟩ := id h
  refine CALL_of _ _ (by decide) (by decide) (q_ripple e2 hQ) (does_X11_ripple σ who to f i p8 s8 m8) (does_X12_ripple μ who to f i hN) (REL_m h ⟨fun j hj => g_R_X12_ripple hj _ _ _ _ _, fun k hk => fr_R_X12_ripple _ _ _ _ _ (by simp; omega)⟩)
theorem k_cord {σ μ : zG} (h : REL σ μ) (x i : Int) : CALL m_X11_cord m_X12_cord [.inl x, .inl i] σ μ := by
  have g := REL_giv h
  obtain ⟨⟨p8, p0⟩, F2, s8, m8, l60, ⟨hD, hO, hH, hW⟩, ⟨hN, hA, hB⟩, ⟨hMD, hMP⟩, hQ, e2⟩ := g
  obtain ⟨hT, hf, hKK, ⟨sV, sN, sB, sD, sS⟩, hJ, hFC, hLB, hBO, hI⟩ := id h
  refine CALL_of _ _ (by decide) (by decide) (q_cord μ x i) (does_X11_cord σ x i) (does_X12_cord μ x i) (REL_m h ⟨fun j hj => g_F_X12_cord hj _ _ _, fun k hk => fr_F_X12_cord _ _ _ (by simp; omega)⟩)
theorem k_count {σ μ : zG} (h : REL σ μ) (x : Int) : CALL m_X11_count m_X12_count [.inl x] σ μ := by
  have g := REL_giv h
  obtain ⟨⟨p8, p0⟩, F2, s8, m8, l60, ⟨hD, hO, hH, hW⟩, ⟨hN, hA, hB⟩, ⟨hMD, hMP⟩, hQ, e2⟩ := g
  obtain ⟨hT, hf, hKK, ⟨sV, sN, sB, sD, sS⟩, hJ, hFC, hLB, hBO, hI⟩ := id h
  refine CALL_of _ _ (by decide) (by decide) (q_count hT sV sB x) (does_X11_count σ x) (does_X12_count μ x) (REL_m h ⟨fun j hj => g_F_X12_count hj _ _, fun k hk => fr_F_X12_count _ _ (by simp; omega)⟩)
theorem q_orderAt {σ μ : zG} (h : BO2 σ μ) (i : Int) : V_X11_orderAt σ i = V_X12_orderAt μ i := by
  unfold V_X11_orderAt V_X12_orderAt
  rw [h.1.1]
  by_cases c : i < 0
  · rw [if_pos c, if_neg (by omega)]
  · rw [if_neg c]
    by_cases c1 : μ 0 60 ≤ i
    · rw [if_pos c1, if_neg (by omega)]
    · rw [if_neg c1, if_pos (by omega)]
      exact h.2 i (by omega) (by omega)
theorem k_orderAt {σ μ : zG} (h : REL σ μ) (i : Int) : CALL m_X11_orderAt m_X12_orderAt [.inl i] σ μ := by
  have g := REL_giv h
  obtain ⟨⟨p8, p0⟩, F2, s8, m8, l60, ⟨hD, hO, hH, hW⟩, ⟨hN, hA, hB⟩, ⟨hMD, hMP⟩, hQ, e2⟩ := g
  obtain ⟨hT, hf, hKK, ⟨sV, sN, sB, sD, sS⟩, hJ, hFC, hLB, hBO, hI⟩ := id h
  refine CALL_of _ _ (by decide) (by decide) (q_orderAt hBO i) (does_X11_orderAt σ i (by have := hBO.1; omega)) (does_X12_orderAt μ i hBO.1.2) (REL_m h ⟨fun j hj => g_F_X12_orderAt hj _ _, fun k hk => fr_F_X12_orderAt _ _ (by simp; omega)⟩)
theorem k_needs {σ μ : zG} (h : REL σ μ) (who i : Int) : CALL m_X11_needs m_X12_needs [.inl who, .inl i] σ μ := by
  have g := REL_giv h
  obtain ⟨⟨p8, p0⟩, F2, s8, m8, l60, ⟨hD, hO, hH, hW⟩, ⟨hN, hA, hB⟩, ⟨hMD, hMP⟩, hQ, e2⟩ := g
  obtain ⟨hT, hf, hKK, ⟨sV, sN, sB, sD, sS⟩, hJ, hFC, hLB, hBO, hI⟩ := id h
  refine CALL_of _ _ (by decide) (by decide) (q_needs e2 hQ sN) (does_X11_needs σ who i m8 p8 F2) (does_X12_needs μ who i hN hA) (REL_cg h ⟨⟨by rw [fr_F_X11_needs _ _ _ (by decide)], by rw [fr_F_X11_needs _ _ _ (by decide)], by rw [fr_F_X11_needs _ _ _ (by decide)]⟩, fun j _ => by rw [fr_F_X11_needs _ _ _ (by decide)], fun k hk => fr_F_X11_needs _ _ _ (by simp; omega)⟩ ⟨fun j hj => g_F_X12_needs hj _ _ _, fun k hk => fr_F_X12_needs _ _ _ (by simp; omega)⟩)
theorem k_buys {σ μ : zG} (h : REL σ μ) (who i : Int) : CALL m_X11_buys m_X12_buys [.inl who, .inl i] σ μ := by
  have g := REL_giv h
  obtain ⟨⟨p8, p0⟩, F2, s8, m8, l60, ⟨hD, hO, hH, hW⟩, ⟨hN, hA, hB⟩, ⟨hMD, hMP⟩, hQ, e2⟩ := g
  obtain ⟨hT, hf, hKK, ⟨sV, sN, sB, sD, sS⟩, hJ, hFC, hLB, hBO, hI⟩ := id h
  refine CALL_of _ _ (by decide) (by decide) (q_buys e2 hQ sN) (does_X11_buys σ who i m8 p8 F2) (does_X12_buys μ who i hN hA) (REL_cg h ⟨⟨by rw [fr_F_X11_buys _ _ _ (by decide)], by rw [fr_F_X11_buys _ _ _ (by decide)], by rw [fr_F_X11_buys _ _ _ (by decide)]⟩, fun j _ => by rw [fr_F_X11_buys _ _ _ (by decide)], fun k hk => fr_F_X11_buys _ _ _ (by simp; omega)⟩ ⟨fun j hj => g_F_X12_buys hj _ _ _, fun k hk => fr_F_X12_buys _ _ _ (by simp; omega)⟩)
theorem judget_m {σ μ : zG} (hV : VS σ μ) (hB : BK σ μ) (x : Int) : R_X4_judget σ x 67 8 ≤ 128 := by
  have := (LC_runt hV hB x).2.2.1
  omega
theorem k_unsaid {σ μ : zG} (h : REL σ μ) (x : Int) : CALL m_X11_unsaid m_X12_unsaid [.inl x] σ μ := by
  have g := REL_giv h
  obtain ⟨⟨p8, p0⟩, F2, s8, m8, l60, ⟨hD, hO, hH, hW⟩, ⟨hN, hA, hB⟩, ⟨hMD, hMP⟩, hQ, e2⟩ := g
  obtain ⟨hT, hf, hKK, ⟨sV, sN, sB, sD, sS⟩, hJ, hFC, hLB, hBO, hI⟩ := id h
  refine CALL_of _ _ (by decide) (by decide) (q_unsaid sV sB) (does_X11_unsaid σ x hW (judget_m sV sB x)) (does_X12_unsaid μ x hN) (REL_cg h ⟨⟨by rw [fr_F_X11_unsaid _ _ (by decide)], by rw [fr_F_X11_unsaid _ _ (by decide)], by rw [fr_F_X11_unsaid _ _ (by decide)]⟩, fun j _ => by rw [fr_F_X11_unsaid _ _ (by decide)], fun k hk => fr_F_X11_unsaid _ _ (by simp; omega)⟩ ⟨fun j hj => g_F_X12_unsaid hj _ _, fun k hk => fr_F_X12_unsaid _ _ (by simp; omega)⟩)
theorem k_measured {σ μ : zG} (h : REL σ μ) (x sd : Int) : CALL m_X11_measured m_X12_measured [.inl x, .inl sd] σ μ := by
  have g := REL_giv h
  obtain ⟨⟨p8, p0⟩, F2, s8, m8, l60, ⟨hD, hO, hH, hW⟩, ⟨hN, hA, hB⟩, ⟨hMD, hMP⟩, hQ, e2⟩ := g
  obtain ⟨hT, hf, hKK, ⟨sV, sN, sB, sD, sS⟩, hJ, hFC, hLB, hBO, hI⟩ := id h
  refine CALL_of _ _ (by decide) (by decide) (q_measured) (does_X11_measured σ x sd) (does_X12_measured μ x sd) (REL_cg h ⟨⟨by rw [fr_F_X11_measured _ _ _ (by decide)], by rw [fr_F_X11_measured _ _ _ (by decide)], by rw [fr_F_X11_measured _ _ _ (by decide)]⟩, fun j _ => by rw [fr_F_X11_measured _ _ _ (by decide)], fun k hk => fr_F_X11_measured _ _ _ (by simp; omega)⟩ ⟨fun j hj => g_F_X12_measured hj _ _ _, fun k hk => fr_F_X12_measured _ _ _ (by simp; omega)⟩)
theorem k_slips {σ μ : zG} (h : REL σ μ) (x mn sd : Int) : CALL m_X11_slips m_X12_slips [.inl x, .inl mn, .inl sd] σ μ := by
  have g := REL_giv h
  obtain ⟨⟨p8, p0⟩, F2, s8, m8, l60, ⟨hD, hO, hH, hW⟩, ⟨hN, hA, hB⟩, ⟨hMD, hMP⟩, hQ, e2⟩ := g
  obtain ⟨hT, hf, hKK, ⟨sV, sN, sB, sD, sS⟩, hJ, hFC, hLB, hBO, hI⟩ := id h
  refine CALL_of _ _ (by decide) (by decide) (q_slips.1) (does_X11_slips σ x mn sd) (does_X12_slips μ x mn sd) (REL_cg h ⟨⟨by rw [fr_R_X11_slips _ _ _ _ (by decide)], by rw [fr_R_X11_slips _ _ _ _ (by decide)], by rw [fr_R_X11_slips _ _ _ _ (by decide)]⟩, fun j _ => by rw [fr_R_X11_slips _ _ _ _ (by decide)], fun k hk => fr_R_X11_slips _ _ _ _ (by simp; omega)⟩ ⟨fun j hj => g_R_X12_slips hj _ _ _ _, fun k hk => fr_R_X12_slips _ _ _ _ (by simp; omega)⟩)
theorem k_said {σ μ : zG} (h : REL σ μ)  : CALL m_X11_said m_X12_said [] σ μ := by
  have g := REL_giv h
  obtain ⟨⟨p8, p0⟩, F2, s8, m8, l60, ⟨hD, hO, hH, hW⟩, ⟨hN, hA, hB⟩, ⟨hMD, hMP⟩, hQ, e2⟩ := g
  obtain ⟨hT, hf, hKK, ⟨sV, sN, sB, sD, sS⟩, hJ, hFC, hLB, hBO, hI⟩ := id h
  refine CALL_of _ _ (by decide) (by decide) (q_said e2 hQ sS) (does_X11_said σ m8 l60 hD ⟨p0, p8⟩ (by obtain ⟨C, ⟨a, _⟩, _, _, c, _⟩ := sS; omega)) (does_X12_said μ hN (SN_CW sS)) (REL_cg h ⟨⟨by rw [fr_F_X11_said _  (by decide)], by rw [fr_F_X11_said _  (by decide)], by rw [fr_F_X11_said _  (by decide)]⟩, fun j _ => by rw [fr_F_X11_said _  (by decide)], fun k hk => fr_F_X11_said _  (by simp; omega)⟩ ⟨fun j hj => g_R_X12_said hj _ , fun k hk => fr_R_X12_said _  (by simp; omega)⟩)
