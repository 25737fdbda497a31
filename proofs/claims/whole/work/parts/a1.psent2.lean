/-! pure: ones, ands and ors on both sides -/
def FL (τ : zG) (r : Int × zG) : Prop := r.1 = 0 ∧ τ 3 7 = r.2 0 15 ∧ τ 3 5 = r.2 0 16
/-- before a one -/
def BF (F : Int) (k m n : Nat) (dp : Int) (σ μ : zG) (C : List (Int × Int × Int)) (P : List Int) : Prop := RS F σ μ C ∧ CP μ C P ∧ (dp + (k : Int) = 9 ∧ 1 ≤ dp ∧ opl P = dp - 1) ∧ ((C.length : Int) + P.length ≤ 2 * μ 0 68 ∧ 0 ≤ hgl C) ∧ k + 1 ≤ m ∧ 21 ≤ (n : Int) + μ 0 68
/-- behind a one, its ands (le = 2) and ors (le = 1) -/
def AF (F le : Int) (k s n : Nat) (h0 : Int) (σ μ : zG) (C : List (Int × Int × Int)) (P : List Int) : Prop := (40 ≤ s + k ∧ 22 ≤ (n : Int) + μ 0 68) ∧ RS F σ μ C ∧ (∃ (D : List (Int × Int × Int)) (Q : List Int), CP μ D Q ∧ wdl le D Q = (C, P)) ∧ hgl C = h0 + 1 ∧ (C.length : Int) + P.length + 1 ≤ 2 * μ 0 68
def cO (F : Int) (k : Nat) : Prop := ∀ (m n : Nat) (dp : Int) (σ μ : zG) (C : List (Int × Int × Int)) (P : List Int), BF F k m n dp σ μ C P → ((tO k dp σ).1 = 0 ∧ FL (tO k dp σ).2 (M1 m n μ)) ∨ ((tO k dp σ).1 = 1 ∧ ∃ (s n' : Nat) (μ' : zG) (C' : List (Int × Int × Int)), M1 m n μ = AO s n' μ' ∧ (40 ≤ s + k ∧ 22 ≤ (n' : Int) + μ' 0 68) ∧ RS F (tO k dp σ).2 μ' C' ∧ CP μ' (wdl 3 C' P).1 (wdl 3 C' P).2 ∧ hgl C' = hgl C + 1 ∧ (C'.length : Int) + P.length + 1 ≤ 2 * μ' 0 68 ∧ μ 0 68 + 1 ≤ μ' 0 68)
def cA (F : Int) (k : Nat) : Prop := ∀ (m n : Nat) (dp : Int) (σ μ : zG) (C : List (Int × Int × Int)) (P : List Int), BF F k m n dp σ μ C P → (∀ x xs, P = x :: xs → x ≠ 7 ∧ x ≠ 8) → ((tA k dp σ).1 = 0 ∧ FL (tA k dp σ).2 (M1 m n μ)) ∨ ((tA k dp σ).1 = 1 ∧ V_X5_keyword (tA k dp σ).2 ≠ 17 ∧ ∃ (s n' : Nat) (μ' : zG) (C' : List (Int × Int × Int)), M1 m n μ = AO s n' μ' ∧ AF F 2 k s n' (hgl C) (tA k dp σ).2 μ' C' P ∧ μ 0 68 + 1 ≤ μ' 0 68)
def cC (F : Int) (k : Nat) : Prop := ∀ (m n : Nat) (dp : Int) (σ μ : zG) (C : List (Int × Int × Int)) (P : List Int), BF F k m n dp σ μ C P → (∀ x xs, P = x :: xs → x = 10) → ((tC k dp σ).1 = 0 ∧ FL (tC k dp σ).2 (M1 m n μ)) ∨ ((tC k dp σ).1 = 1 ∧ (V_X5_keyword (tC k dp σ).2 ≠ 17 ∧ V_X5_keyword (tC k dp σ).2 ≠ 16) ∧ ∃ (s n' : Nat) (μ' : zG) (C' : List (Int × Int × Int)), M1 m n μ = AO s n' μ' ∧ AF F 1 k s n' (hgl C) (tC k dp σ).2 μ' C' P ∧ μ 0 68 + 1 ≤ μ' 0 68)
theorem RS_push {F le x : Int} {σ μ : zG} {C D : List (Int × Int × Int)} {P Q : List Int} (h : RS F σ μ C) (hc : CP μ D Q) (hw : wdl le D Q = (C, P)) (hQ : Q.length < 50) :
    RS F (F_X5_step σ) (F_X12_next (zu (zu (R_X12_writeDown μ le) 37 (R_X12_writeDown μ le 0 67) x) 0 67 (R_X12_writeDown μ le 0 67 + 1))) C ∧ CP (F_X12_next (zu (zu (R_X12_writeDown μ le) 37 (R_X12_writeDown μ le 0 67) x) 0 67 (R_X12_writeDown μ le 0 67 + 1))) C (x :: P) ∧ F_X12_next (zu (zu (R_X12_writeDown μ le) 37 (R_X12_writeDown μ le 0 67) x) 0 67 (R_X12_writeDown μ le 0 67 + 1)) 0 68 = μ 0 68 := by
  obtain ⟨⟨h1, h2⟩, h3, h4⟩ := h
  have wc := wd_cp le hQ hc
  rw [hw] at wc
  have pc := CP_push wc x
  have pr : ∀ k : Nat, k ≠ 0 → k ≠ 36 → k ≠ 37 → zu (zu (R_X12_writeDown μ le) 37 (R_X12_writeDown μ le 0 67) x) 0 67 (R_X12_writeDown μ le 0 67 + 1) k = μ k := fun k k0 k6 k7 => by rw [zu_row _ _ _ k0, zu_row _ _ _ k7, fr_R_X12_writeDown _ _ (by simp; omega)]
  have p0 : ∀ j : Int, j ≠ 66 → j ≠ 67 → zu (zu (R_X12_writeDown μ le) 37 (R_X12_writeDown μ le 0 67) x) 0 67 (R_X12_writeDown μ le 0 67 + 1) 0 j = μ 0 j := fun j j6 j7 => by rw [zu_off _ _ _ j7, zu_ne _ _ _ _ (by decide), kp_wd _ _ _ ⟨j6, j7⟩]
  generalize zu (zu (R_X12_writeDown μ le) 37 (R_X12_writeDown μ le 0 67) x) 0 67 (R_X12_writeDown μ le 0 67 + 1) = ν at *
  have hL := LK_next (TP_row (τ := σ) (ν := ν) h1 rfl rfl rfl rfl (pr 1 (by decide) (by decide) (by decide)) (p0 3 (by decide) (by decide)) (p0 4 (by decide) (by decide)) (p0 5 (by decide) (by decide)))
  have m68 : F_X12_next ν 0 68 = μ 0 68 := by rw [kp_next _ 68 (by unfold KI; decide)]; exact p0 68 (by decide) (by decide)
  refine ⟨⟨hL, RB_row h3 ?_ ?_ ?_ ?_ ?_ ?_ ?_ ?_, RC_row h4 ?_ ?_ ?_ ?_ m68⟩, CP_row pc ?_ ?_ ?_ ?_, m68⟩
  · exact st_r _ (by decide)
  · exact st_r _ (by decide)
  · exact st_r _ (by decide)
  · exact (step_vals _).2.2.2.2.1
  · rw [nx_r _ (by decide)]; exact pr 2 (by decide) (by decide) (by decide)
  · rw [nx_r _ (by decide)]; exact pr 5 (by decide) (by decide) (by decide)
  · rw [nx_r _ (by decide)]; exact pr 6 (by decide) (by decide) (by decide)
  · rw [nx_15]; exact p0 15 (by decide) (by decide)
  · exact st_r _ (by decide)
  · exact st_r _ (by decide)
  · exact st_r _ (by decide)
  · exact st_r _ (by decide)
  · exact kp_next _ 66 (by unfold KI; decide)
  · exact kp_next _ 67 (by unfold KI; decide)
  · exact nx_r _ (by decide)
  · exact nx_r _ (by decide)
theorem opl_op {x : Int} (h : x = 8 ∨ x = 9) (P : List Int) : opl (x :: P) = opl P := by
  rw [opl, if_neg (by omega)]; omega
theorem all_loop {F : Int} {k : Nat} (hO : cO F k) {dp h0 : Int} {P : List Int} (hd : dp + (k : Int) = 9 ∧ 1 ≤ dp ∧ opl P = dp - 1) (hh : 0 ≤ h0) (hP : ∀ x xs, P = x :: xs → x ≠ 7 ∧ x ≠ 8) : ∀ (f : Nat) (q : Int) (s n : Nat) (σ μ : zG) (C : List (Int × Int × Int)), AF F 2 k s n h0 σ μ C P → 0 ≤ q → q ≤ μ 0 68 → (21 - q).toNat < f → ((L_X6_takeAll_15 (tO k) dp f q σ).1 = 0 ∧ FL (L_X6_takeAll_15 (tO k) dp f q σ).2 (AO s n μ)) ∨ ((L_X6_takeAll_15 (tO k) dp f q σ).1 = 1 ∧ V_X5_keyword (L_X6_takeAll_15 (tO k) dp f q σ).2 ≠ 17 ∧ ∃ (s' n' : Nat) (μ' : zG) (C' : List (Int × Int × Int)), AO s n μ = AO s' n' μ' ∧ AF F 2 k s' n' h0 (L_X6_takeAll_15 (tO k) dp f q σ).2 μ' C' P ∧ μ 0 68 ≤ μ' 0 68)
  | 0, q, s, n, σ, μ, C, _, _, _, h => absurd h (Nat.not_lt_zero _)
  | f + 1, q, s, n, σ, μ, C, hA, q0, q1, hf => by
    obtain ⟨⟨s1, s2⟩, hR, ⟨D, Q, hc, hw⟩, hg, hl⟩ := id hA
    have h68 := hR.2.2.2.1
    have wl := wdl_len 2 Q D
    rw [hw] at wl
    have wl1 : C.length + P.length = D.length + Q.length := wl.1
    rw [L_X6_takeAll_15, if_neg (show ¬ 200 ≤ q by omega)]
    have km := kw_m (k := 17) (c := 6385252) hR.2.1.1.2 hR.1.2 (by decide) (by decide) ⟨by decide, by decide, ⟨by decide, by decide⟩, by decide, by decide⟩
    by_cases c : V_X5_keyword σ = 17
    · rw [if_pos c, AO_and s n (km.mp c)]
      obtain ⟨n1, rfl⟩ : ∃ n1 : Nat, n = n1 + 1 := ⟨n - 1, by omega⟩
      rw [cond_M1]
      obtain ⟨r1, r2, r3⟩ := RS_push (x := 8) hR hc hw (by omega)
      generalize F_X12_next (zu (zu (R_X12_writeDown μ 2) 37 (R_X12_writeDown μ 2 0 67) 8) 0 67 (R_X12_writeDown μ 2 0 67 + 1)) = μ2 at *
      have hl8 : ((8 :: P : List Int).length : Int) = P.length + 1 := by simp
      rcases hO 30 n1 dp (F_X5_step σ) μ2 C (8 :: P) ⟨r1, r2, ⟨hd.1, hd.2.1, by rw [opl_op (Or.inl rfl)]; exact hd.2.2⟩, ⟨by omega, by omega⟩, by omega, by omega⟩ with ⟨a, b⟩ | ⟨a, s', n', μ', C', e1, e2, e3, e4, e5, e6, e7⟩
      · rw [if_pos a]
        exact Or.inl ⟨rfl, b⟩
      · rw [if_neg (show ¬ (tO k dp (F_X5_step σ)).1 = 0 by omega), e1]
        rw [wdl3 (8 :: P) (fun x xs e => by cases e; decide)] at e4
        have h68' := e3.2.2.2.1
        have hl' : ((8, 0, 0) :: C' : List (Int × Int × Int)).length = C'.length + 1 := rfl
        have v2 : vl F ((8, 0, 0) :: C') := ⟨e3.2.2.2.2, ⟨fun x => absurd x (by decide), fun _ => by omega⟩, by decide, fun x => absurd x (by decide), fun _ x => absurd x (by decide)⟩
        have hR2 := RS_op (ky := 17) (a := 8) e3 (by omega) ⟨by decide, fun x => absurd x (by decide), fun _ => ⟨rfl, rfl⟩⟩ v2
        have hA2 : AF F 2 k s' n' h0 (F_X6_addStep (tO k dp (F_X5_step σ)).2 17 0 0) μ' ((8, 0, 0) :: C') P := by
          refine ⟨e2, hR2, ⟨C', 8 :: P, e4, ?_⟩, ?_, by omega⟩
          · rw [wdl2_8, wdl2 P hP]
          · rw [hgl, if_neg (by decide), if_pos (Or.inl rfl)]; omega
        rcases all_loop hO hd hh hP f (q + 1) s' n' _ μ' _ hA2 (by omega) (by omega) (by omega) with x | ⟨x1, x2, s'', n'', μ'', C'', y1, y2, y3⟩
        · exact Or.inl x
        · exact Or.inr ⟨x1, x2, s'', n'', μ'', C'', y1, y2, by omega⟩
    · rw [if_neg c]
      exact Or.inr ⟨rfl, c, s, n, μ, C, rfl, hA, Int.le_refl _⟩
theorem all_of {F : Int} {k : Nat} (hO : cO F k) : cA F k := by
  intro m n dp σ μ C P hB hP
  obtain ⟨hR, hc, hd, ⟨hl, hg⟩, hm, hn⟩ := id hB
  show ((R_X6_takeAll σ (tO k) dp).1 = 0 ∧ FL (R_X6_takeAll σ (tO k) dp).2 (M1 m n μ)) ∨ ((R_X6_takeAll σ (tO k) dp).1 = 1 ∧ V_X5_keyword (R_X6_takeAll σ (tO k) dp).2 ≠ 17 ∧ ∃ (s n' : Nat) (μ' : zG) (C' : List (Int × Int × Int)), M1 m n μ = AO s n' μ' ∧ AF F 2 k s n' (hgl C) (R_X6_takeAll σ (tO k) dp).2 μ' C' P ∧ μ 0 68 + 1 ≤ μ' 0 68)
  unfold R_X6_takeAll
  rcases hO m n dp σ μ C P hB with ⟨a, b⟩ | ⟨a, s', n', μ', C', e1, e2, e3, e4, e5, e6, e7⟩
  · rw [if_pos a]
    exact Or.inl ⟨rfl, b⟩
  · rw [if_neg (show ¬ (tO k dp σ).1 = 0 by omega), e1]
    have h68 := hR.2.2.2.1
    rw [wdl3 P (fun x xs e => (hP x xs e).1)] at e4
    have hA : AF F 2 k s' n' (hgl C) (tO k dp σ).2 μ' C' P := ⟨e2, e3, ⟨C', P, e4, wdl2 P hP⟩, e5, e6⟩
    rcases all_loop hO hd hg hP 210 0 s' n' _ μ' C' hA (by decide) (by omega) (by decide) with x | ⟨x1, x2, s'', n'', μ'', C'', y1, y2, y3⟩
    · exact Or.inl x
    · exact Or.inr ⟨x1, x2, s'', n'', μ'', C'', y1, y2, by omega⟩
theorem cond_loop {F : Int} {k : Nat} (hA0 : cA F k) {dp h0 : Int} {P : List Int} (hd : dp + (k : Int) = 9 ∧ 1 ≤ dp ∧ opl P = dp - 1) (hh : 0 ≤ h0) (hP : ∀ x xs, P = x :: xs → x = 10) : ∀ (f : Nat) (q : Int) (s n : Nat) (σ μ : zG) (C : List (Int × Int × Int)), AF F 1 k s n h0 σ μ C P → V_X5_keyword σ ≠ 17 → 0 ≤ q → q ≤ μ 0 68 → (21 - q).toNat < f → ((L_X6_takeCond_15 (tA k) dp f q σ).1 = 0 ∧ FL (L_X6_takeCond_15 (tA k) dp f q σ).2 (AO s n μ)) ∨ ((L_X6_takeCond_15 (tA k) dp f q σ).1 = 1 ∧ (V_X5_keyword (L_X6_takeCond_15 (tA k) dp f q σ).2 ≠ 17 ∧ V_X5_keyword (L_X6_takeCond_15 (tA k) dp f q σ).2 ≠ 16) ∧ ∃ (s' n' : Nat) (μ' : zG) (C' : List (Int × Int × Int)), AO s n μ = AO s' n' μ' ∧ AF F 1 k s' n' h0 (L_X6_takeCond_15 (tA k) dp f q σ).2 μ' C' P ∧ μ 0 68 ≤ μ' 0 68)
  | 0, q, s, n, σ, μ, C, _, _, _, _, h => absurd h (Nat.not_lt_zero _)
  | f + 1, q, s, n, σ, μ, C, hA, hk, q0, q1, hf => by
    obtain ⟨⟨s1, s2⟩, hR, ⟨D, Q, hc, hw⟩, hg, hl⟩ := id hA
    have h68 := hR.2.2.2.1
    have wl := wdl_len 1 Q D
    rw [hw] at wl
    have wl1 : C.length + P.length = D.length + Q.length := wl.1
    rw [L_X6_takeCond_15, if_neg (show ¬ 200 ≤ q by omega)]
    have km := kw_m (k := 16) (c := 28530) hR.2.1.1.2 hR.1.2 (by decide) (by decide) ⟨by decide, by decide, ⟨by decide, by decide⟩, by decide, by decide⟩
    by_cases c : V_X5_keyword σ = 16
    · rw [if_pos c, AO_or s n (km.mp c)]
      obtain ⟨n1, rfl⟩ : ∃ n1 : Nat, n = n1 + 1 := ⟨n - 1, by omega⟩
      rw [cond_M1]
      obtain ⟨r1, r2, r3⟩ := RS_push (x := 9) hR hc hw (by omega)
      generalize F_X12_next (zu (zu (R_X12_writeDown μ 1) 37 (R_X12_writeDown μ 1 0 67) 9) 0 67 (R_X12_writeDown μ 1 0 67 + 1)) = μ2 at *
      have hl8 : ((9 :: P : List Int).length : Int) = P.length + 1 := by simp
      rcases hA0 30 n1 dp (F_X5_step σ) μ2 C (9 :: P) ⟨r1, r2, ⟨hd.1, hd.2.1, by rw [opl_op (Or.inr rfl)]; exact hd.2.2⟩, ⟨by omega, by omega⟩, by omega, by omega⟩ (fun x xs e => by cases e; decide) with ⟨a, b⟩ | ⟨a, kk, s', n', μ', C', e1, ⟨e2, e3, ⟨D', Q', e4, e4'⟩, e5, e6⟩, e7⟩
      · rw [if_pos a]
        exact Or.inl ⟨rfl, b⟩
      · rw [if_neg (show ¬ (tA k dp (F_X5_step σ)).1 = 0 by omega), e1]
        have h68' := e3.2.2.2.1
        have hl' : ((9, 0, 0) :: C' : List (Int × Int × Int)).length = C'.length + 1 := rfl
        have v2 : vl F ((9, 0, 0) :: C') := ⟨e3.2.2.2.2, ⟨fun x => absurd x (by decide), fun _ => by omega⟩, by decide, fun x => absurd x (by decide), fun _ x => absurd x (by decide)⟩
        have hR2 := RS_op (ky := 16) (a := 9) e3 (by omega) ⟨by decide, fun x => absurd x (by decide), fun _ => ⟨rfl, rfl⟩⟩ v2
        have hA2 : AF F 1 k s' n' h0 (F_X6_addStep (tA k dp (F_X5_step σ)).2 16 0 0) μ' ((9, 0, 0) :: C') P := by
          refine ⟨e2, hR2, ⟨D', Q', e4, ?_⟩, ?_, by omega⟩
          · rw [← wdl12, e4', wdl1_n (by decide), wdl1 P hP]
          · rw [hgl, if_neg (by decide), if_pos (Or.inr rfl)]; omega
        have hk2 : V_X5_keyword (F_X6_addStep (tA k dp (F_X5_step σ)).2 16 0 0) ≠ 17 := by rw [kw_row (as_r _ _ _ _ (by decide)) (as_r _ _ _ _ (by decide))]; exact kk
        rcases cond_loop hA0 hd hh hP f (q + 1) s' n' _ μ' _ hA2 hk2 (by omega) (by omega) (by omega) with x | ⟨x1, x2, s'', n'', μ'', C'', y1, y2, y3⟩
        · exact Or.inl x
        · exact Or.inr ⟨x1, x2, s'', n'', μ'', C'', y1, y2, by omega⟩
    · rw [if_neg c]
      exact Or.inr ⟨rfl, ⟨hk, c⟩, s, n, μ, C, rfl, hA, Int.le_refl _⟩
theorem cond_of {F : Int} {k : Nat} (hA0 : cA F k) : cC F k := by
  intro m n dp σ μ C P hB hP
  obtain ⟨hR, hc, hd, ⟨hl, hg⟩, hm, hn⟩ := id hB
  show ((R_X6_takeCond σ (tA k) dp).1 = 0 ∧ FL (R_X6_takeCond σ (tA k) dp).2 (M1 m n μ)) ∨ ((R_X6_takeCond σ (tA k) dp).1 = 1 ∧ (V_X5_keyword (R_X6_takeCond σ (tA k) dp).2 ≠ 17 ∧ V_X5_keyword (R_X6_takeCond σ (tA k) dp).2 ≠ 16) ∧ ∃ (s n' : Nat) (μ' : zG) (C' : List (Int × Int × Int)), M1 m n μ = AO s n' μ' ∧ AF F 1 k s n' (hgl C) (R_X6_takeCond σ (tA k) dp).2 μ' C' P ∧ μ 0 68 + 1 ≤ μ' 0 68)
  unfold R_X6_takeCond
  rcases hA0 m n dp σ μ C P hB (fun x xs e => by rw [hP x xs e]; decide) with ⟨a, b⟩ | ⟨a, kk, s', n', μ', C', e1, ⟨e2, e3, ⟨D', Q', e4, e4'⟩, e5, e6⟩, e7⟩
  · rw [if_pos a]
    exact Or.inl ⟨rfl, b⟩
  · rw [if_neg (show ¬ (tA k dp σ).1 = 0 by omega), e1]
    have h68 := hR.2.2.2.1
    have hA : AF F 1 k s' n' (hgl C) (tA k dp σ).2 μ' C' P := ⟨e2, e3, ⟨D', Q', e4, by rw [← wdl12, e4', wdl1 P hP]⟩, e5, e6⟩
    rcases cond_loop hA0 hd hg hP 210 0 s' n' _ μ' C' hA kk (by decide) (by omega) (by decide) with x | ⟨x1, x2, s'', n'', μ'', C'', y1, y2, y3⟩
    · exact Or.inl x
    · exact Or.inr ⟨x1, x2, s'', n'', μ'', C'', y1, y2, by omega⟩
