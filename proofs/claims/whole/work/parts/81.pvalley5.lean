/-! pure: a line of what follows from what -/
theorem since_1 {σ μ : zG} {mn nd gi q to : Int} (hK : KW σ μ) (h : LK σ μ) (e1 : σ 16 1 = mn) (e2 : μ 3 1 = mn) (hm : 0 ≤ mn ∧ mn ≤ 12) (hw : ∀ j : Int, 0 ≤ j → j < mn → wr (σ 19 j) (μ 5 (28 + j))) (hq : q = 0 ∨ q = 1 ∨ q = 2) (hd : ∀ f : Int, 0 ≤ f → f < mn → (hb nd f ↔ ((0 < q ∧ f = μ 3 to) ∨ (1 < q ∧ f = μ 3 (to + 1))))) (n n' : Nat) :
    ((L_X12_readSince_35 to (n' + 1) q μ).1 = 0 ∧ (L_X9_takeSince_22 (n + 1) nd gi q σ).1 = 0 ∧ (L_X9_takeSince_22 (n + 1) nd gi q σ).2 3 7 = (L_X12_readSince_35 to (n' + 1) q μ).2 0 15 ∧ (L_X9_takeSince_22 (n + 1) nd gi q σ).2 3 5 = (L_X12_readSince_35 to (n' + 1) q μ).2 0 16) ∨
    ∃ f : Int, (0 ≤ f ∧ f < mn) ∧ ¬ ((0 < q ∧ f = μ 3 to) ∨ (1 < q ∧ f = μ 3 (to + 1))) ∧ L_X12_readSince_35 to (n' + 1) q μ = L_X12_readSince_35 to n' (q + 1) (F_X12_next (zu μ 3 (to + q) f)) ∧ L_X9_takeSince_22 (n + 1) nd gi q σ = (if 2 ≤ q then L_X9_takeSince_22 n nd (bshl 1 f) (q + 1) (F_X5_step σ) else L_X9_takeSince_22 n (bor nd (bshl 1 f)) gi (q + 1) (F_X5_step σ)) ∧ LK (F_X5_step σ) (F_X12_next (zu μ 3 (to + q) f)) := by
  have e15 : ∀ x : Int, zu (zu μ 0 15 x) 0 16 (μ 0 12) 0 15 = x := fun x => by rw [zu_off _ _ _ (by decide), zu_at]
  have hq3 : ¬ 3 ≤ q := by omega
  rw [L_X9_takeSince_22, L_X12_readSince_35, if_neg hq3, if_neg hq3, e1, e2]
  rcases name19_h (mn := mn) hK h hm hw with ⟨j1, j2, j3, j4⟩ | ⟨j1, j2, j3, j4, j5⟩ | ⟨j1, j2, j3, j4⟩
  · rw [if_pos j1, if_pos j2]
    exact Or.inl ⟨rfl, rfl, by show F_X5_stepName_19 σ mn 3 7 = zu (zu μ 0 15 1) 0 16 (μ 0 12) 0 15; rw [j3, e15], by show F_X5_stepName_19 σ mn 3 5 = zu (zu μ 0 15 1) 0 16 (μ 0 12) 0 16; rw [j4, zu_at]⟩
  · rw [if_neg j1, if_pos j2, if_pos j3]
    exact Or.inl ⟨rfl, rfl, by show F_X5_stepName_19 σ mn 3 7 = zu (zu μ 0 15 3) 0 16 (μ 0 12) 0 15; rw [j4, e15], by show F_X5_stepName_19 σ mn 3 5 = zu (zu μ 0 15 3) 0 16 (μ 0 12) 0 16; rw [j5, zu_at]⟩
  · rw [j3, j4]
    generalize R_X12_find μ 28 mn = f at *
    have j2' : ¬ f < 0 := by omega
    have j3' : ¬ f = -1 := by omega
    have hdf := hd f j2.1 j2.2
    rw [if_neg j1, if_neg j2', if_neg j3']
    have lk : LK (F_X5_step σ) (F_X12_next (zu μ 3 (to + q) f)) := LK_next (TP_row h.1 rfl rfl rfl rfl (zu_row _ _ _ (by decide)) (zu_ne _ _ _ _ (by decide)) (zu_ne _ _ _ _ (by decide)) (zu_ne _ _ _ _ (by decide)))
    by_cases k : (0 < q ∧ f = μ 3 to) ∨ (1 < q ∧ f = μ 3 (to + 1))
    · have k' := hdf.mpr k
      rw [if_pos k']
      have em : (if q ≤ 0 then (if q ≤ 1 then (L_X12_readSince_35 to n' (q + 1) (F_X12_next (zu μ 3 (to + q) f))) else (if f = (μ 3 (to + 1)) then (0, zu (zu μ 0 15 3) 0 16 (μ 0 12)) else (L_X12_readSince_35 to n' (q + 1) (F_X12_next (zu μ 3 (to + q) f))))) else (if f = (μ 3 to) then (0, zu (zu μ 0 15 3) 0 16 (μ 0 12)) else (if q ≤ 1 then (L_X12_readSince_35 to n' (q + 1) (F_X12_next (zu μ 3 (to + q) f))) else (if f = (μ 3 (to + 1)) then (0, zu (zu μ 0 15 3) 0 16 (μ 0 12)) else (L_X12_readSince_35 to n' (q + 1) (F_X12_next (zu μ 3 (to + q) f))))))) = (0, zu (zu μ 0 15 3) 0 16 (μ 0 12)) := by
        rw [if_neg (show ¬ q ≤ 0 by omega)]
        by_cases x : f = μ 3 to
        · rw [if_pos x]
        · rw [if_neg x, if_neg (show ¬ q ≤ 1 by omega), if_pos (by omega)]
      rw [em]
      exact Or.inl ⟨rfl, rfl, by show zu (F_X5_step σ) 3 7 3 3 7 = zu (zu μ 0 15 3) 0 16 (μ 0 12) 0 15; rw [zu_at, e15], by show zu (F_X5_step σ) 3 7 3 3 5 = zu (zu μ 0 15 3) 0 16 (μ 0 12) 0 16; rw [zu_off _ _ _ (by decide), zu_at]; exact h.2.1⟩
    · have k' : ¬ hb nd f := fun x => k (hdf.mp x)
      rw [if_neg k']
      refine Or.inr ⟨f, j2, k, ?_, rfl, lk⟩
      rcases hq with e | e | e
      · rw [if_pos (show q ≤ 0 by omega), if_pos (show q ≤ 1 by omega)]
      · rw [if_neg (show ¬ q ≤ 0 by omega), if_neg (by omega), if_pos (show q ≤ 1 by omega)]
      · rw [if_neg (show ¬ q ≤ 0 by omega), if_neg (by omega), if_neg (show ¬ q ≤ 1 by omega), if_neg (by omega)]
theorem since_sim {σ μ : zG} (hK : KW σ μ) (hP : TP σ μ) (hT : TK σ μ) (hN : NV σ μ) : SL (V_X9_takeSince σ) (V_X12_readSince μ) (F_X9_takeSince σ) (F_X12_readSince μ) := by
  unfold V_X9_takeSince F_X9_takeSince V_X12_readSince F_X12_readSince R_X9_takeSince R_X12_readSince
  obtain ⟨⟨q0, q1, q2, q3⟩, qF, qK, qS, qA, qT⟩ := id hN
  have qs := qS.1
  rw [qs.1]
  by_cases c : μ 3 2 = 8
  · rw [if_pos c, if_neg (show ¬ μ 3 2 < 8 by omega)]
    refine Or.inl ⟨rfl, rfl, ?_, ?_⟩
    · show zu σ 3 7 4 3 7 = zu (zu μ 0 15 4) 0 16 (μ 0 12) 0 15
      rw [zu_at, zu_off _ _ _ (by decide), zu_at]
    · show zu σ 3 7 4 3 5 = zu (zu μ 0 15 4) 0 16 (μ 0 12) 0 16
      rw [zu_off _ _ _ (by decide), zu_at]; exact hT.1
  · rw [if_neg c, if_pos (show μ 3 2 < 8 by omega)]
    have hL := LK_next hP
    have r3 : F_X12_next μ 3 = μ 3 := nx_r μ (by decide)
    have r5 : F_X12_next μ 5 = μ 5 := nx_r μ (by decide)
    have r6 : F_X12_next μ 6 = μ 6 := nx_r μ (by decide)
    have r0 := nx_20 μ
    generalize hto : 52 + (3 * μ 3 2) = to at *
    generalize F_X12_next μ = μ1 at *
    have f1 : ¬ (1 : Int) = 0 := by decide
    rcases since_1 (to := to) (nd := 0) (gi := 0) (q := 0) (mn := μ 3 1) (KW_row hK rfl r6) hL q1.1 (by rw [r3]) ⟨q1.2.1, q1.2.2⟩ (by rw [r5]; exact q3) (Or.inl rfl) (fun f f0 f2 => ⟨fun x => absurd x (hb_0 ⟨f0, by omega⟩), fun x => absurd x (by omega)⟩) 9 9 with ⟨a, b, d, e⟩ | ⟨fa, ga, _, ma, ca, la⟩
    · exact Or.inl ⟨a, b, d, e⟩
    · rw [if_neg (show ¬ (2 : Int) ≤ 0 by decide)] at ca
      rw [show (10 : Nat) = 9 + 1 from rfl, ma, ca]
      have ra := bit_r (c := fa) ⟨ga.1, by omega⟩
      have ea : bor 0 (bshl 1 fa) = bshl 1 fa := hb_ext (bor_r (by decide) ra) ra (fun i i0 i1 => by
        rw [hb_bor (by decide) ra ⟨i0, by omega⟩]
        exact ⟨fun x => x.elim (fun y => absurd y (hb_0 ⟨i0, by omega⟩)) id, Or.inr⟩)
      rw [ea]
      have s1 : ∀ k : Nat, k ≠ 3 → F_X5_step σ k = σ k := fun k hk => st_r σ hk
      have m1 : ∀ k : Nat, k ≠ 0 → k ≠ 3 → F_X12_next (zu μ1 3 (to + 0) fa) k = μ1 k := fun k h0 h3 => by rw [nx_r _ h0, zu_row _ _ _ h3]
      have m13 : ∀ j : Int, F_X12_next (zu μ1 3 (to + 0) fa) 3 j = if j = to then fa else μ 3 j := fun j => by rw [nx_r _ (k := 3) (by decide), zu_if, r3, Int.add_zero]
      have m10 : F_X12_next (zu μ1 3 (to + 0) fa) 0 20 = μ 0 20 := by rw [nx_20, zu_ne _ _ _ _ (by decide), r0]
      generalize F_X12_next (zu μ1 3 (to + 0) fa) = μ2 at *
      generalize F_X5_step σ = σ1 at *
      rcases since_1 (to := to) (nd := bshl 1 fa) (gi := 0) (q := 0 + 1) (mn := μ 3 1) (KW_row hK (s1 4 (by decide)) (by rw [m1 6 (by decide) (by decide), r6])) la (by rw [s1 16 (by decide)]; exact q1.1) (by rw [m13, if_neg (by omega)]) ⟨q1.2.1, q1.2.2⟩ (by rw [s1 19 (by decide), m1 5 (by decide) (by decide), r5]; exact q3) (Or.inr (Or.inl rfl)) (fun f f0 f2 => by
        rw [hb_bit ⟨ga.1, by omega⟩ ⟨f0, by omega⟩, m13, if_pos rfl]; omega) 8 8 with ⟨a, b, d, e⟩ | ⟨fb, gb, nb, mb, cb, lb⟩
      · exact Or.inl ⟨a, b, d, e⟩
      · rw [if_neg (show ¬ (2 : Int) ≤ 0 + 1 by decide)] at cb
        rw [show (9 : Nat) = 8 + 1 from rfl, mb, cb]
        have rb := bit_r (c := fb) ⟨gb.1, by omega⟩
        have s2 : ∀ k : Nat, k ≠ 3 → F_X5_step σ1 k = σ k := fun k hk => by rw [st_r σ1 hk, s1 k hk]
        have m2 : ∀ k : Nat, k ≠ 0 → k ≠ 3 → F_X12_next (zu μ2 3 (to + (0 + 1)) fb) k = μ1 k := fun k h0 h3 => by rw [nx_r _ h0, zu_row _ _ _ h3, m1 k h0 h3]
        have m23 : ∀ j : Int, F_X12_next (zu μ2 3 (to + (0 + 1)) fb) 3 j = if j = to + 1 then fb else if j = to then fa else μ 3 j := fun j => by rw [nx_r _ (k := 3) (by decide), zu_if, m13, Int.zero_add]
        have m20 : F_X12_next (zu μ2 3 (to + (0 + 1)) fb) 0 20 = μ 0 20 := by rw [nx_20, zu_ne _ _ _ _ (by decide), m10]
        generalize F_X12_next (zu μ2 3 (to + (0 + 1)) fb) = μ3 at *
        generalize F_X5_step σ1 = σ2 at *
        rcases since_1 (to := to) (nd := bor (bshl 1 fa) (bshl 1 fb)) (gi := 0) (q := 0 + 1 + 1) (mn := μ 3 1) (KW_row hK (s2 4 (by decide)) (by rw [m2 6 (by decide) (by decide), r6])) lb (by rw [s2 16 (by decide)]; exact q1.1) (by rw [m23, if_neg (by omega), if_neg (by omega)]) ⟨q1.2.1, q1.2.2⟩ (by rw [s2 19 (by decide), m2 5 (by decide) (by decide), r5]; exact q3) (Or.inr (Or.inr rfl)) (fun f f0 f2 => by
          rw [hb_bor ra rb ⟨f0, by omega⟩, hb_bit ⟨ga.1, by omega⟩ ⟨f0, by omega⟩, hb_bit ⟨gb.1, by omega⟩ ⟨f0, by omega⟩, m23, m23, if_neg (by omega), if_pos rfl, if_pos rfl]; omega) 7 7 with ⟨a, b, d, e⟩ | ⟨fc, gc, nc, mc, cc, lc⟩
        · exact Or.inl ⟨a, b, d, e⟩
        · rw [if_pos (show (2 : Int) ≤ 0 + 1 + 1 by decide)] at cc
          rw [show (8 : Nat) = 7 + 1 from rfl, mc, cc]
          have s3 : ∀ k : Nat, k ≠ 3 → F_X5_step σ2 k = σ k := fun k hk => by rw [st_r σ2 hk, s2 k hk]
          have m3 : ∀ k : Nat, k ≠ 0 → k ≠ 3 → F_X12_next (zu μ3 3 (to + (0 + 1 + 1)) fc) k = μ1 k := fun k h0 h3 => by rw [nx_r _ h0, zu_row _ _ _ h3, m2 k h0 h3]
          have m33 : ∀ j : Int, F_X12_next (zu μ3 3 (to + (0 + 1 + 1)) fc) 3 j = if j = to + 2 then fc else if j = to + 1 then fb else if j = to then fa else μ 3 j := fun j => by rw [nx_r _ (k := 3) (by decide), zu_if, m23]; rfl
          have m30 : F_X12_next (zu μ3 3 (to + (0 + 1 + 1)) fc) 0 20 = μ 0 20 := by rw [nx_20, zu_ne _ _ _ _ (by decide), m20]
          generalize F_X12_next (zu μ3 3 (to + (0 + 1 + 1)) fc) = μ4 at *
          generalize F_X5_step σ2 = σ3 at *
          rw [show (7 : Nat) = 6 + 1 from rfl, L_X9_takeSince_22, L_X12_readSince_35, if_pos (by decide), if_pos (by decide), s3 16 (by decide), qs.1, m33 2, if_neg (by omega), if_neg (by omega), if_neg (by omega)]
          refine Or.inr ⟨rfl, rfl, ?_, ?_⟩
          · show LK (zu (zu (zu σ3 23 (μ 3 2) (bor (bshl 1 fa) (bshl 1 fb))) 24 (μ 3 2) (bshl 1 fc)) 16 2 (μ 3 2 + 1)) (zu μ4 3 2 (μ 3 2 + 1))
            refine LK_row lc ?_ ?_ ?_ (zu_row _ _ _ (by decide)) (fun j _ => zu_ne _ _ _ _ (by decide))
            all_goals rw [zu_row _ _ _ (by decide), zu_row _ _ _ (by decide), zu_row _ _ _ (by decide)]
          · show NV (zu (zu (zu σ3 23 (μ 3 2) (bor (bshl 1 fa) (bshl 1 fb))) 24 (μ 3 2) (bshl 1 fc)) 16 2 (μ 3 2 + 1)) (zu μ4 3 2 (μ 3 2 + 1))
            clear la lb lc hL ma mb mc ca cb cc hP hT hK hN
            have t16 : ∀ j : Int, zu (zu (zu σ3 23 (μ 3 2) (bor (bshl 1 fa) (bshl 1 fb))) 24 (μ 3 2) (bshl 1 fc)) 16 2 (μ 3 2 + 1) 16 j = if j = 2 then μ 3 2 + 1 else σ 16 j := fun j => by rw [zu_if, zu_row _ _ _ (by decide), zu_row _ _ _ (by decide), s3 16 (by decide)]
            have t23 : ∀ j : Int, zu (zu (zu σ3 23 (μ 3 2) (bor (bshl 1 fa) (bshl 1 fb))) 24 (μ 3 2) (bshl 1 fc)) 16 2 (μ 3 2 + 1) 23 j = if j = μ 3 2 then bor (bshl 1 fa) (bshl 1 fb) else σ 23 j := fun j => by rw [zu_row _ _ _ (by decide), zu_row _ _ _ (by decide), zu_if, s3 23 (by decide)]
            have t24 : ∀ j : Int, zu (zu (zu σ3 23 (μ 3 2) (bor (bshl 1 fa) (bshl 1 fb))) 24 (μ 3 2) (bshl 1 fc)) 16 2 (μ 3 2 + 1) 24 j = if j = μ 3 2 then bshl 1 fc else σ 24 j := fun j => by rw [zu_row _ _ _ (by decide), zu_if, zu_row _ _ _ (by decide), s3 24 (by decide)]
            have tr : ∀ k : Nat, k = 17 ∨ k = 18 ∨ k = 19 ∨ k = 20 ∨ k = 21 ∨ k = 22 ∨ k = 25 ∨ k = 26 → zu (zu (zu σ3 23 (μ 3 2) (bor (bshl 1 fa) (bshl 1 fb))) 24 (μ 3 2) (bshl 1 fc)) 16 2 (μ 3 2 + 1) k = σ k := fun k hk => by rw [zu_row _ _ _ (by omega), zu_row _ _ _ (by omega), zu_row _ _ _ (by omega), s3 k (by omega)]
            have u3 : ∀ j : Int, zu μ4 3 2 (μ 3 2 + 1) 3 j = if j = 2 then μ 3 2 + 1 else if j = to + 2 then fc else if j = to + 1 then fb else if j = to then fa else μ 3 j := fun j => by rw [zu_if, m33]
            have u5 : zu μ4 3 2 (μ 3 2 + 1) 5 = μ 5 := by rw [zu_row _ _ _ (by decide), m3 5 (by decide) (by decide), r5]
            have u0 : zu μ4 3 2 (μ 3 2 + 1) 0 20 = μ 0 20 := by rw [zu_ne _ _ _ _ (by decide), m30]
            generalize zu (zu (zu σ3 23 (μ 3 2) (bor (bshl 1 fa) (bshl 1 fb))) 24 (μ 3 2) (bshl 1 fc)) 16 2 (μ 3 2 + 1) = τ at *
            generalize zu μ4 3 2 (μ 3 2 + 1) = ν at *
            have n2 : ν 3 2 = μ 3 2 + 1 := by rw [u3, if_pos rfl]
            have nj : ∀ j : Int, j ≠ 2 → (j < to ∨ to + 2 < j) → ν 3 j = μ 3 j := fun j h1 h2 => by rw [u3, if_neg h1, if_neg (by omega), if_neg (by omega), if_neg (by omega)]
            have na : ν 3 to = fa := by rw [u3, if_neg (by omega), if_neg (by omega), if_neg (by omega), if_pos rfl]
            have nb' : ν 3 (to + 1) = fb := by rw [u3, if_neg (by omega), if_neg (by omega), if_pos rfl]
            have nc' : ν 3 (to + 2) = fc := by rw [u3, if_neg (by omega), if_pos rfl]
            refine ⟨⟨?_, ?_, fun j j0 j1 => ?_, fun j j0 j1 => ?_⟩, fun f f0 f1 => ?_, fun b b0 b8 => ?_, ⟨?_, fun i i0 i1 => ?_⟩, fun j j0 j1 => ?_, ⟨fun w w0 w1 => ?_, ?_, ?_, ?_⟩⟩
            · rw [t16, if_neg (by decide), nj 0 (by omega) (by omega)]; exact q0
            · rw [t16, if_neg (by decide), nj 1 (by omega) (by omega)]; exact q1
            · rw [nj 0 (by omega) (by omega)] at j1
              rw [tr 17 (by decide), u5]; exact q2 j j0 j1
            · rw [nj 1 (by omega) (by omega)] at j1
              rw [tr 19 (by decide), u5]; exact q3 j j0 j1
            · rw [nj 1 (by omega) (by omega)] at f1
              rw [tr 20 (by decide), tr 21 (by decide), tr 22 (by decide), nj (8 + (3 * f)) (by omega) (by omega), nj ((8 + (3 * f)) + 1) (by omega) (by omega), nj ((8 + (3 * f)) + 2) (by omega) (by omega), nj 0 (by omega) (by omega)]
              exact qF f f0 f1
            · rw [tr 18 (by decide), nj (44 + b) (by omega) (by omega), nj 0 (by omega) (by omega), nj 1 (by omega) (by omega)]; exact qK b b0 b8
            · rw [t16, if_pos rfl, n2]; omega
            · rw [n2] at i1
              rw [t23, t24, nj 1 (by omega) (by omega)]
              by_cases e : i = μ 3 2
              · rw [if_pos e, if_pos e, show 52 + (3 * i) = to by omega, na, nb', nc']
                exact ⟨ga, gb, gc, rfl, rfl⟩
              · rw [if_neg e, if_neg e, nj (52 + (3 * i)) (by omega) (by omega), nj ((52 + (3 * i)) + 1) (by omega) (by omega), nj ((52 + (3 * i)) + 2) (by omega) (by omega)]
                exact qS.2 i i0 (by omega)
            · rw [tr 25 (by decide), nj (76 + j) (by omega) (by omega)]; exact qA j j0 j1
            · rw [tr 26 (by decide), t16, if_neg (by decide), nj (3 + w) (by omega) (by omega), u0]; exact qT.1 w w0 w1
            · rw [t16, if_neg (by decide)]; exact qT.2.1
            · rw [u0]; exact qT.2.2.1
            · rw [nj 3 (by omega) (by omega), nj 4 (by omega) (by omega), nj 5 (by omega) (by omega), nj 6 (by omega) (by omega), nj 7 (by omega) (by omega)]; exact qT.2.2.2
