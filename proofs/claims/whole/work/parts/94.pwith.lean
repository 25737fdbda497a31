/-! pure: those with a liar, on both sides -/
/-- the book that is being read, on both sides -/
def BR (P F : Int) (σ μ : zG) : Prop := BB (σ 36) (σ 37) (σ 38) (σ 39) (σ 40) (σ 41) (σ 42) (σ 35 0) (σ 35 1) (μ 4) (μ 8) P F ∧ σ 35 0 = μ 0 21 ∧ σ 35 1 = μ 0 22
theorem BR_row {P F : Int} {σ τ μ ν : zG} (h : BR P F σ μ) (c : ∀ k : Nat, 35 ≤ k → k < 43 → τ k = σ k) (m4 : ν 4 = μ 4) (m8 : ν 8 = μ 8) (m1 : ν 0 21 = μ 0 21) (m2 : ν 0 22 = μ 0 22) : BR P F τ ν := by
  unfold BR at *
  rw [c 35 (by decide) (by decide), c 36 (by decide) (by decide), c 37 (by decide) (by decide), c 38 (by decide) (by decide), c 39 (by decide) (by decide), c 40 (by decide) (by decide), c 41 (by decide) (by decide), c 42 (by decide) (by decide), m4, m8, m1, m2]
  exact h
/-- how a line of a book and its end came out on both sides -/
def LOb (P F n s0 : Int) (V : Int) (τ : zG) (Vm : Int) (ν : zG) : Prop := (V = 0 ∧ Vm = 0 ∧ τ 3 7 = ν 0 15 ∧ τ 3 5 = ν 0 16) ∨ (V = 0 ∧ Vm = 1 ∧ V_X12_sign ν 59 = 0 ∧ τ 3 7 = F_X12_sign ν 59 0 15 ∧ τ 3 5 = F_X12_sign ν 59 0 16) ∨ (V = 1 ∧ Vm = 1 ∧ V_X12_sign ν 59 = 1 ∧ LK τ (F_X12_sign ν 59) ∧ BB (τ 36) (τ 37) (τ 38) (τ 39) (τ 40) (τ 41) (τ 42) (τ 35 0) (τ 35 1) (ν 4) (ν 8) P F ∧ (τ 35 0 = n + 1 ∧ τ 35 1 = ν 0 22) ∧ 7 * ds (ν 4) (τ 35 0).toNat ≤ τ 3 3 ∧ τ 3 3 ≤ s0 ∧ τ 3 2 = s0 ∧ τ 3 7 = 0 ∧ ν 0 15 = 0)
theorem nx_15 (μ : zG) : F_X12_next μ 0 15 = μ 0 15 := (next_all _).2.1 15 (by decide) (by decide) (by decide) (by decide) (by decide) (by decide)
theorem TK_w {σ μ : zG} (h : TK σ μ) (e : μ 0 11 = 1) : σ 3 4 = 2 ∧ wr (σ 3 6) (μ 0 17) := by
  rcases h.2 with x | x | x | x | x
  · omega
  · omega
  · exact ⟨x.1, x.2.2⟩
  · omega
  · omega
theorem TK_s {σ μ : zG} (h : TK σ μ) (c : Int) : (σ 3 4 = 4 ∧ σ 3 6 = c) ↔ (μ 0 11 = 3 ∧ μ 0 14 = c) := by
  rcases h.2 with x | x | x | x | x
  all_goals omega
theorem kw_2 {σ : zG} {k : Int} (hk : 0 ≤ k) (h : V_X5_keyword σ = k) : σ 3 4 = 2 := by
  unfold V_X5_keyword at h
  by_cases c : σ 3 4 = 2
  · exact c
  · rw [if_neg c] at h; omega
/-- a reserved word on both sides -/
theorem kw_m {σ μ : zG} (hC : KC σ) (hT : TK σ μ) {k c : Int} (k0 : 0 ≤ k) (k1 : k < 26) (hc : wr (kwl.getD k.toNat 0) c) : V_X5_keyword σ = k ↔ (μ 0 11 = 1 ∧ μ 0 17 = c) := by
  constructor
  · intro e
    have h2 := kw_2 k0 e
    have hm : μ 0 11 = 1 := by rcases hT.2 with x | x | x | x | x <;> omega
    exact ⟨hm, (wr_inj (TK_w hT hm).2 hc).mp ((kw_iff hC ⟨k0, k1⟩ h2).mp e)⟩
  · intro e
    have w := TK_w hT e.1
    exact (kw_iff hC ⟨k0, k1⟩ w.1).mpr ((wr_inj w.2 hc).mpr e.2)
theorem KC_row {σ τ : zG} (h : KC σ) (e : τ 4 = σ 4) : KC τ := by
  unfold KC at *; rw [e]; exact h
/-- the sets of a lie half read -/
def WI (P on an me wi tu q : Int) (t : Int → Int) : Prop := (0 ≤ me ∧ me < 256) ∧ (0 ≤ wi ∧ wi < 256) ∧ (∀ i : Int, 0 ≤ i → i < 8 → (hb me i ↔ i = on ∨ i = an ∨ hb wi i)) ∧ pcn me = pcn wi + 2 ∧ q = pcn wi ∧ tu = wo t q.toNat ∧ (∀ k : Int, 0 ≤ k → k < q → 0 ≤ t k ∧ t k < P) ∧ ∀ j : Int, P ≤ j → j < 8 → ¬ hb wi j
theorem WI_q {P on an me wi tu q : Int} {t : Int → Int} (h : WI P on an me wi tu q t) : 0 ≤ q ∧ q ≤ 6 := by
  obtain ⟨h1, h2, _, h4, h5, _⟩ := h
  have a := pcn_0 wi
  obtain ⟨n, hn⟩ := toN2 h1.1
  have b := (pcn_r ⟨n, by omega⟩).2.2
  simp only at b
  rw [← hn] at b
  omega
theorem WI_step {P on an me wi tu q r : Int} {t t' : Int → Int} (h : WI P on an me wi tu q t) (hP : 0 ≤ P ∧ P ≤ 8) (hr : 0 ≤ r ∧ r < P) (hm : ¬ hb me r) (e : ∀ k : Int, 0 ≤ k → k < q → t' k = t k) (er : t' q = r) : WI P on an (bor me (bshl 1 r)) (bor wi (bshl 1 r)) (bor tu (bshl r (3 * q))) (q + 1) t' := by
  have hq := WI_q h
  obtain ⟨h1, h2, h3, h4, h5, h6, h7, h8⟩ := h
  have hw : ¬ hb wi r := fun x => hm ((h3 r hr.1 (by omega)).mpr (Or.inr (Or.inr x)))
  have b1 := bor_bit h1.1 h1.2 hr.1 (show r < 8 by omega)
  have b2 := bor_bit h2.1 h2.2 hr.1 (show r < 8 by omega)
  have br := bit_r (c := r) ⟨hr.1, by omega⟩
  have hbi : ∀ (x i : Int), (0 ≤ x ∧ x < 256) → 0 ≤ i → i < 8 → (hb (bor x (bshl 1 r)) i ↔ hb x i ∨ i = r) := fun x i hx i0 i1 => by
    rw [hb_bor ⟨hx.1, by omega⟩ br ⟨i0, by omega⟩, hb_bit ⟨hr.1, by omega⟩ ⟨i0, by omega⟩]
  refine ⟨⟨by omega, b1.2⟩, ⟨by omega, b2.2⟩, fun i i0 i1 => ?_, ?_, ?_, ?_, fun k k0 k1 => ?_, fun j j0 j1 => ?_⟩
  · rw [hbi me i h1 i0 i1, hbi wi i h2 i0 i1, h3 i i0 i1]
    constructor
    · rintro ((x | x | x) | x)
      · exact Or.inl x
      · exact Or.inr (Or.inl x)
      · exact Or.inr (Or.inr (Or.inl x))
      · exact Or.inr (Or.inr (Or.inr x))
    · rintro (x | x | x | x)
      · exact Or.inl (Or.inl x)
      · exact Or.inl (Or.inr (Or.inl x))
      · exact Or.inl (Or.inr (Or.inr x))
      · exact Or.inr x
  · rw [pcn_bit h1 ⟨hr.1, by omega⟩ hm, pcn_bit h2 ⟨hr.1, by omega⟩ hw]; omega
  · rw [pcn_bit h2 ⟨hr.1, by omega⟩ hw]; omega
  · have eq1 : ((q.toNat : Nat) : Int) = q := by omega
    rw [show (q + 1).toNat = q.toNat + 1 by omega, wo, eq1, er, wo_c q.toNat (fun k a b => e k a (by omega)), h6]
  · by_cases c : k = q
    · rw [c, er]; exact hr
    · rw [e k k0 (by omega)]; exact h7 k k0 (by omega)
  · rw [hbi wi j h2 (by omega) j1]
    rintro (x | x)
    · exact h8 j j0 j1 x
    · omega
theorem WI_LV {P F on an f me wi tu q : Int} {t : Int → Int} (h : WI P on an me wi tu q t) (hP : 0 ≤ P ∧ P ≤ 8) (ho : 0 ≤ on ∧ on < P) (ha : 0 ≤ an ∧ an < P) (hne : on ≠ an) (hf : 0 ≤ f ∧ f < F) : LV P F 1 on an f wi tu := by
  have hq := WI_q h
  obtain ⟨h1, h2, h3, h4, h5, h6, h7, h8⟩ := h
  refine ⟨by decide, fun _ => ⟨ho, ha, hne, hf⟩, fun _ => ⟨h2, h8, by omega, fun k k0 k1 => ?_⟩, fun x => absurd x (by decide)⟩
  rw [h6, wo_at (n := q.toNat) (by omega) (fun k a b => by have := h7 k a (by omega); omega) k0 (by omega)]
  exact h7 k k0 (by omega)
theorem with_loop {P F on an f N to s0 : Int} (hP : 0 ≤ P ∧ P ≤ 8) (ho : 0 ≤ on ∧ on < P) (ha : 0 ≤ an ∧ an < P) (hne : on ≠ an) (hf : 0 ≤ f ∧ f < F) (hto : to = 5 * N) (hN : N < 60) : ∀ (n n' : Nat) (me wi tu q : Int) (σ μ : zG), KW σ μ → KC σ → LK σ μ → WE σ → TC σ → (σ 5 0 = P ∧ μ 2 0 = P ∧ μ 0 21 = N ∧ σ 3 2 = s0 ∧ σ 3 7 = 0 ∧ μ 0 15 = 0) → (∀ i : Int, 0 ≤ i → i < P → wr (σ 6 i) (μ 5 (0 + i))) → BR P F σ μ → WI P on an me wi tu q (μ 7) → 7 * (ds (μ 4) N.toNat + 1 + q) ≤ σ 3 3 → (10 - q).toNat < n → (10 - q).toNat < n' → LOb P F N s0 (L_X0_takeWith_19 on an f n me wi tu q σ).1 (L_X0_takeWith_19 on an f n me wi tu q σ).2 (L_X12_bookLine_287 to on 1 an f n' wi μ).1 (L_X12_bookLine_287 to on 1 an f n' wi μ).2
  | 0, _, me, wi, tu, q, σ, μ, _, _, _, _, _, _, _, _, _, _, h, _ => absurd h (Nat.not_lt_zero _)
  | _ + 1, 0, me, wi, tu, q, σ, μ, _, _, _, _, _, _, _, _, _, _, _, h => absurd h (Nat.not_lt_zero _)
  | n + 1, n' + 1, me, wi, tu, q, σ, μ, hK, hC, hL, hE, hT, hp, hw, hB, hW, hs, hm, hm' => by
    have hq := WI_q hW
    obtain ⟨p1, p2, p3, p4, p7, p15⟩ := hp
    rw [L_X0_takeWith_19, L_X12_bookLine_287, if_neg (show ¬ 8 < q by omega), if_pos (show (1 : Int) = 1 from rfl), if_neg (show ¬ (1 : Int) = 4 by decide), p1, p2]
    have hC1 : KC (F_X5_step σ) := KC_row hC (st_r σ (by decide))
    have kwm := kw_m (k := 15) (c := 2003399784) hC1 hL.2 (by decide) (by decide) ⟨by decide, by decide, ⟨by decide, by decide⟩, by decide, by decide⟩
    have sg := TK_s hL.2 59
    by_cases w : μ 0 11 = 1 ∧ μ 0 17 = 2003399784
    · have w2 := TK_w hL.2 w.1
      have kk := kwm.mpr w
      have kv := (kw_iff hC1 (k := 15) ⟨by decide, by decide⟩ w2.1).mp kk
      rw [if_neg (show ¬ (F_X5_step σ 3 4 = 4 ∧ F_X5_step σ 3 6 = 59) by omega), if_pos kk, if_pos w]
      have hL2 := LK_next hL.1
      have hK2 : KW (F_X5_step σ) (F_X12_next μ) := KW_row hK (st_r σ (by decide)) (nx_r μ (by decide))
      have nm := name6_h hK2 hL2 hP (by rw [st_r σ (show (6 : Nat) ≠ 3 by decide), nx_r μ (show (5 : Nat) ≠ 0 by decide)]; exact hw)
      rcases nm with ⟨a1, a2, a3, a4⟩ | ⟨a1, a2, a3, a4, a5⟩ | ⟨a1, a2, a3, a4⟩
      · rw [if_pos a2, if_pos a1]
        refine Or.inl ⟨rfl, rfl, ?_, ?_⟩
        · show _ = zu (zu (F_X12_next μ) 0 15 1) 0 16 (F_X12_next μ 0 12) 0 15
          rw [zu_off _ _ _ (by decide), zu_at]; exact a3
        · show _ = zu (zu (F_X12_next μ) 0 15 1) 0 16 (F_X12_next μ 0 12) 0 16
          rw [zu_at]; exact a4
      · rw [if_pos a3, if_neg a1, if_pos a2]
        refine Or.inl ⟨rfl, rfl, ?_, ?_⟩
        · show _ = zu (zu (F_X12_next μ) 0 15 3) 0 16 (F_X12_next μ 0 12) 0 15
          rw [zu_off _ _ _ (by decide), zu_at]; exact a4
        · show _ = zu (zu (F_X12_next μ) 0 15 3) 0 16 (F_X12_next μ 0 12) 0 16
          rw [zu_at]; exact a5
      · have tok := isName_tok a1
        have t2 := TK_w hL2.2 tok
        have a5 : F_X5_step (F_X5_step σ) 3 5 = F_X12_next μ 0 12 := hL2.2.1
        rw [a3, a4, if_neg a1]
        generalize hr : R_X12_find (F_X12_next μ) 0 P = r at *
        rw [if_neg (show ¬ r = -1 by omega), if_neg (show ¬ r < 0 by omega)]
        have bad : LOb P F N s0 ((0 : Int), zu (F_X5_step (F_X5_step σ)) 3 7 3).1 ((0 : Int), zu (F_X5_step (F_X5_step σ)) 3 7 3).2 ((0 : Int), zu (zu (F_X12_next μ) 0 15 3) 0 16 (F_X12_next μ 0 12)).1 ((0 : Int), zu (zu (F_X12_next μ) 0 15 3) 0 16 (F_X12_next μ 0 12)).2 := by
          refine Or.inl ⟨rfl, rfl, ?_, ?_⟩
          · show zu (F_X5_step (F_X5_step σ)) 3 7 3 3 7 = zu (zu (F_X12_next μ) 0 15 3) 0 16 (F_X12_next μ 0 12) 0 15
            rw [zu_at, zu_off _ _ _ (by decide), zu_at]
          · show zu (F_X5_step (F_X5_step σ)) 3 7 3 3 5 = zu (zu (F_X12_next μ) 0 15 3) 0 16 (F_X12_next μ 0 12) 0 16
            rw [zu_off _ _ _ (by decide), zu_at]; exact a5
        have mb := hW.2.2.1 r a2.1 (by omega)
        by_cases c1 : r = on
        · rw [if_pos c1, if_pos (mb.mpr (Or.inl c1))]; exact bad
        · rw [if_neg c1]
          by_cases c2 : r = an
          · rw [if_pos c2, if_pos (mb.mpr (Or.inr (Or.inl c2)))]; exact bad
          · rw [if_neg c2]
            by_cases c3 : hb wi r
            · rw [if_pos c3, if_pos (mb.mpr (Or.inr (Or.inr c3)))]; exact bad
            · have nm : ¬ hb me r := fun x => by
                rcases mb.mp x with y | y | y
                · exact c1 y
                · exact c2 y
                · exact c3 y
              rw [if_neg c3, if_neg nm, many_pcn, pcn_bit hW.2.1 ⟨a2.1, by omega⟩ c3, ← hW.2.2.2.2.1, show q + 1 - 1 = q by omega]
              have s1 := step_word hT w2.1
              have hT1 := TC_step hT
              have s2 := step_word hT1 t2.1
              obtain ⟨we1, g1, l1, ⟨x1, x2⟩, x3, x4, x5⟩ := s1
              obtain ⟨we2, g2, l2, ⟨y1, y2⟩, y3, y4, y5⟩ := s2
              have l4 := word_4 x5 x2 (by rw [kv]; decide)
              have g1' := x4 hE
              have g2' := y4 we1
              have e4 : F_X12_next (zu (F_X12_next μ) 7 q r) 4 = μ 4 := by rw [nx_r _ (by decide), zu_row _ _ _ (by decide), nx_r _ (by decide)]
              have e7 : ∀ k : Int, F_X12_next (zu (F_X12_next μ) 7 q r) 7 k = if k = q then r else μ 7 k := fun k => by rw [nx_r _ (by decide), zu_if, nx_r _ (by decide)]
              have e0 : ∀ j : Int, KI j → F_X12_next (zu (F_X12_next μ) 7 q r) 0 j = μ 0 j := fun j hj => by rw [kp_next _ j hj, zu_ne _ _ _ _ (by decide), kp_next _ j hj]
              have er : ∀ k : Nat, k ≠ 0 → k ≠ 7 → F_X12_next (zu (F_X12_next μ) 7 q r) k = μ k := fun k k0 k7 => by rw [nx_r _ k0, zu_row _ _ _ k7, nx_r _ k0]
              have cr : ∀ k : Nat, k ≠ 3 → F_X5_step (F_X5_step σ) k = σ k := fun k hk => by rw [st_r _ hk, st_r _ hk]
              refine with_loop hP ho ha hne hf hto hN n n' _ _ _ _ _ _ ?_ ?_ ?_ we2 (TC_step hT1) ⟨?_, ?_, ?_, ?_, ?_, ?_⟩ ?_ ?_ ?_ ?_ (by omega) (by omega)
              · exact KW_row hK (cr 4 (by decide)) (er 6 (by decide) (by decide))
              · exact KC_row hC (cr 4 (by decide))
              · exact LK_next (TP_row hL2.1 rfl rfl rfl rfl (zu_row _ _ _ (by decide)) (zu_ne _ _ _ _ (by decide)) (zu_ne _ _ _ _ (by decide)) (zu_ne _ _ _ _ (by decide)))
              · rw [cr 5 (by decide)]; exact p1
              · rw [er 2 (by decide) (by decide)]; exact p2
              · rw [e0 21 (by unfold KI; decide)]; exact p3
              · rw [(step_vals _).2.2.2.2.2, (step_vals _).2.2.2.2.2]; exact p4
              · rw [(step_vals _).2.2.2.2.1, (step_vals _).2.2.2.2.1]; exact p7
              · rw [nx_15, zu_ne _ _ _ _ (by decide), nx_15]; exact p15
              · rw [cr 6 (by decide), er 5 (by decide) (by decide)]; exact hw
              · exact BR_row hB (fun k k0 k1 => cr k (by omega)) e4 (er 8 (by decide) (by decide)) (e0 21 (by unfold KI; decide)) (e0 22 (by unfold KI; decide))
              · exact WI_step hW hP a2 nm (fun k k0 k1 => by rw [e7, if_neg (by omega)]) (by rw [e7, if_pos rfl])
              · rw [e4]; omega
    · have nk : ¬ V_X5_keyword (F_X5_step σ) = 15 := fun x => w (kwm.mp x)
      rw [if_neg w, if_neg nk]
      have hB1 : BR P F (F_X5_step σ) μ := BR_row hB (fun k _ _ => st_r σ (by omega)) rfl rfl rfl rfl
      have n21 : F_X5_step σ 35 0 = N := by rw [hB1.2.1]; exact p3
      have pw := hW.2.2.2.2.1
      rw [many_pcn, ← pw, withOrder_eq _ hq.1 (by omega), hto, show 5 * N / 5 = N by omega, fr_F_X12_put _ _ _ _ _ _ _ (show (7 : Nat) ∉ [4, 8] by decide)]
      obtain ⟨q1, q2, q3, q4⟩ := put_rows μ (n := N) 1 on an f wi
      have pr : ∀ k : Nat, k ≠ 4 → k ≠ 8 → F_X12_put μ (5 * N) 1 on an f wi k = μ k := fun k k4 k8 => fr_F_X12_put _ _ _ _ _ _ _ (by simp; omega)
      generalize F_X12_put μ (5 * N) 1 on an f wi = ν at *
      have z0 : ∀ x : Int, zu ν 8 N x 0 = μ 0 := fun x => by rw [zu_row _ _ _ (by decide), pr 0 (by decide) (by decide)]
      by_cases s : F_X5_step σ 3 4 = 4 ∧ F_X5_step σ 3 6 = 59
      · rw [if_pos s]
        have ms := sg.mp s
        have ss := step_sign s.1
        rw [p4] at ss
        have ev : V_X12_sign (zu ν 8 N (wo (μ 7) q.toNat)) 59 = 1 := by unfold V_X12_sign; rw [z0]; exact if_pos ms
        have ef : F_X12_sign (zu ν 8 N (wo (μ 7) q.toNat)) 59 = F_X12_next (zu ν 8 N (wo (μ 7) q.toNat)) := by unfold F_X12_sign; rw [z0]; exact if_pos ms
        have z8 : ∀ i : Int, zu ν 8 N (wo (μ 7) q.toNat) 8 i = if i = N then wo (μ 7) q.toNat else ν 8 i := fun i => zu_if _ _ _ _ _
        have z4 : zu ν 8 N (wo (μ 7) q.toNat) 4 = ν 4 := zu_row _ _ _ (by decide)
        have add := bb_add35 (σ := F_X5_step σ) (L' := zu ν 8 N (wo (μ 7) q.toNat) 4) (O' := zu ν 8 N (wo (μ 7) q.toNat) 8) (wh := 1) (on := on) (an := an) (f := f) (ex := wi) (tu := tu) hB1.1 (by rw [n21]; exact hN) (fun j j0 j1 => by rw [n21] at j1; rw [z4]; exact q1 j j0 j1) (fun i i0 i1 => by rw [n21] at i1; rw [z8, if_neg (by omega)]; exact q3 i (by omega)) (by rw [n21, z4]; exact q2) (by rw [n21, z8, if_pos rfl]; exact hW.2.2.2.2.2.1.symm) (WI_LV hW hP ho ha hne hf) (fun x => absurd x (by decide)) (fun _ => rfl)
        have ar := (add35_rows (σ := F_X5_step σ) (by rw [n21]; exact hN) 1 on an f wi tu).1
        have fr : ∀ k : Nat, k < 35 → F_X0_add_35 (F_X5_step σ) 1 on an f wi tu k = F_X5_step σ k := fun k hk => fr_F_X0_add_35 _ _ _ _ _ _ _ (by simp; omega)
        refine Or.inr (Or.inr ⟨rfl, rfl, ev, ?_, add.1, ⟨?_, ?_⟩, ?_, ?_, ?_, ?_, ?_⟩)
        · show LK (F_X0_add_35 (F_X5_step σ) 1 on an f wi tu) (F_X12_sign (zu ν 8 N (wo (μ 7) q.toNat)) 59)
          rw [ef]
          exact LK_next (TP_row hL.1 (fr 1 (by decide)) (fr 2 (by decide)) (by rw [fr 3 (by decide)]) (by rw [fr 3 (by decide)]) (by rw [zu_row _ _ _ (by decide), pr 1 (by decide) (by decide)]) (by rw [z0]) (by rw [z0]) (by rw [z0]))
        · exact ar.1.trans (by rw [n21])
        · exact ar.2.trans (by show _ = zu ν 8 N (wo (μ 7) q.toNat) 0 22; rw [z0]; exact hB1.2.2)
        · have d1 := add.2
          have d2 : dk 1 wi = 1 + pcn wi := if_pos rfl
          rw [d2, ← pw, n21] at d1
          show 7 * ds (zu ν 8 N (wo (μ 7) q.toNat) 4) _ ≤ F_X0_add_35 (F_X5_step σ) 1 on an f wi tu 3 3
          rw [d1, fr 3 (by decide)]
          omega
        · show F_X0_add_35 (F_X5_step σ) 1 on an f wi tu 3 3 ≤ s0
          rw [fr 3 (by decide)]; exact ss.2
        · show F_X0_add_35 (F_X5_step σ) 1 on an f wi tu 3 2 = s0
          rw [fr 3 (by decide), (step_vals σ).2.2.2.2.2]; exact p4
        · show F_X0_add_35 (F_X5_step σ) 1 on an f wi tu 3 7 = 0
          rw [fr 3 (by decide), (step_vals σ).2.2.2.2.1]; exact p7
        · show zu ν 8 N (wo (μ 7) q.toNat) 0 15 = 0
          rw [z0]; exact p15
      · rw [if_neg s]
        have ms : ¬ (μ 0 11 = 3 ∧ μ 0 14 = 59) := fun x => s (sg.mpr x)
        have ev : V_X12_sign (zu ν 8 N (wo (μ 7) q.toNat)) 59 = 0 := by unfold V_X12_sign; rw [z0]; exact if_neg ms
        have ef : F_X12_sign (zu ν 8 N (wo (μ 7) q.toNat)) 59 = zu (zu (zu ν 8 N (wo (μ 7) q.toNat)) 0 15 1) 0 16 (μ 0 12) := by unfold F_X12_sign; rw [z0]; exact if_neg ms
        refine Or.inr (Or.inl ⟨rfl, rfl, ev, ?_, ?_⟩)
        · show zu (F_X5_step σ) 3 7 1 3 7 = F_X12_sign (zu ν 8 N (wo (μ 7) q.toNat)) 59 0 15
          rw [ef, zu_at, zu_off _ _ _ (by decide), zu_at]
        · show zu (F_X5_step σ) 3 7 1 3 5 = F_X12_sign (zu ν 8 N (wo (μ 7) q.toNat)) 59 0 16
          rw [ef, zu_at, zu_off _ _ _ (by decide)]; exact hL.2.1
