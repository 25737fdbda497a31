/-! pure: the sentence on both sides: what goes on behind a one -/
def AO (s n : Nat) (μ : zG) : Int × zG := if (S_X12_cond_9 s μ) 0 11 = 1 ∧ (S_X12_cond_9 s μ) 0 17 = 6385252 then (L_X12_cond_0 n (F_X12_next (zu (zu (R_X12_writeDown (S_X12_cond_9 s μ) 2) 37 ((R_X12_writeDown (S_X12_cond_9 s μ) 2) 0 67) 8) 0 67 (((R_X12_writeDown (S_X12_cond_9 s μ) 2) 0 67) + 1)))) else (if (S_X12_cond_9 s μ) 0 11 = 1 ∧ (S_X12_cond_9 s μ) 0 17 = 28530 then (L_X12_cond_0 n (F_X12_next (zu (zu (R_X12_writeDown (S_X12_cond_9 s μ) 1) 37 ((R_X12_writeDown (S_X12_cond_9 s μ) 1) 0 67) 9) 0 67 (((R_X12_writeDown (S_X12_cond_9 s μ) 1) 0 67) + 1)))) else (if (R_X12_isOpen (S_X12_cond_9 s μ)) = 0 then (if ((S_X12_cond_9 s μ) 0 11) = 0 then (1, R_X12_writeDown (S_X12_cond_9 s μ) 1) else (0, zu (zu (R_X12_writeDown (S_X12_cond_9 s μ) 1) 0 15 1) 0 16 ((S_X12_cond_9 s μ) 0 12))) else (0, zu (zu (S_X12_cond_9 s μ) 0 15 1) 0 16 ((S_X12_cond_9 s μ) 0 12))))
def M1 (m n : Nat) (μ : zG) : Int × zG := if (L_X12_one_0 m μ).1 = 0 then (0, (L_X12_one_0 m μ).2) else AO 40 n (L_X12_one_0 m μ).2
theorem cond_M1 (n : Nat) (μ : zG) : L_X12_cond_0 (n + 1) μ = M1 30 n μ := by
  rw [L_X12_cond_0]; rfl
theorem S9_id (s : Nat) {μ : zG} (h : ¬ (μ 0 11 = 3 ∧ μ 0 14 = 41) ∨ R_X12_isOpen μ = 0) : S_X12_cond_9 s μ = μ := by
  cases s with
  | zero => rfl
  | succ s =>
    rw [S_X12_cond_9]
    by_cases c : μ 0 11 = 3 ∧ μ 0 14 = 41
    · rw [if_pos c]
      rcases h with x | x
      · exact absurd c x
      · rw [if_pos x]
    · rw [if_neg c]
theorem AO_close (s n : Nat) {μ : zG} (h : μ 0 11 = 3 ∧ μ 0 14 = 41) (ho : ¬ R_X12_isOpen μ = 0) : AO (s + 1) n μ = AO s n (F_X12_next (R_X12_writeDown (zu (R_X12_writeDown μ 1) 0 67 (((R_X12_writeDown μ 1) 0 67) - 1)) 3)) := by
  have e : S_X12_cond_9 (s + 1) μ = S_X12_cond_9 s (F_X12_next (R_X12_writeDown (zu (R_X12_writeDown μ 1) 0 67 (((R_X12_writeDown μ 1) 0 67) - 1)) 3)) := by
    rw [S_X12_cond_9, if_pos h, if_neg ho]
  unfold AO
  rw [e]
theorem AO_and (s n : Nat) {μ : zG} (h : μ 0 11 = 1 ∧ μ 0 17 = 6385252) : AO s n μ = L_X12_cond_0 n (F_X12_next (zu (zu (R_X12_writeDown μ 2) 37 ((R_X12_writeDown μ 2) 0 67) 8) 0 67 (((R_X12_writeDown μ 2) 0 67) + 1))) := by
  unfold AO
  rw [S9_id s (Or.inl (by omega)), if_pos h]
theorem AO_or (s n : Nat) {μ : zG} (h : μ 0 11 = 1 ∧ μ 0 17 = 28530) : AO s n μ = L_X12_cond_0 n (F_X12_next (zu (zu (R_X12_writeDown μ 1) 37 ((R_X12_writeDown μ 1) 0 67) 9) 0 67 (((R_X12_writeDown μ 1) 0 67) + 1))) := by
  unfold AO
  rw [S9_id s (Or.inl (by omega)), if_neg (by omega), if_pos h]
theorem AO_not (s n : Nat) {μ : zG} (h1 : ¬ (μ 0 11 = 1 ∧ μ 0 17 = 6385252)) (h2 : ¬ (μ 0 11 = 1 ∧ μ 0 17 = 28530)) (h3 : ¬ (μ 0 11 = 3 ∧ μ 0 14 = 41)) (ho : ¬ R_X12_isOpen μ = 0) : AO s n μ = (0, zu (zu μ 0 15 1) 0 16 (μ 0 12)) := by
  unfold AO
  rw [S9_id s (Or.inl h3), if_neg h1, if_neg h2, if_neg ho]
theorem AO_end (s n : Nat) {μ : zG} (h1 : ¬ (μ 0 11 = 1 ∧ μ 0 17 = 6385252)) (h2 : ¬ (μ 0 11 = 1 ∧ μ 0 17 = 28530)) (ho : R_X12_isOpen μ = 0) : AO s n μ = (if μ 0 11 = 0 then (1, R_X12_writeDown μ 1) else (0, zu (zu (R_X12_writeDown μ 1) 0 15 1) 0 16 (μ 0 12))) := by
  unfold AO
  rw [S9_id s (Or.inr ho), if_neg h1, if_neg h2, if_pos ho]
/-- what stays all along -/
def RB (F : Int) (σ μ : zG) : Prop := (KW σ μ ∧ KC σ) ∧ (σ 5 1 = F ∧ μ 2 1 = F ∧ 0 ≤ F ∧ F ≤ 12) ∧ (∀ i : Int, 0 ≤ i → i < F → wr (σ 8 i) (μ 5 (8 + i))) ∧ σ 3 7 = 0 ∧ μ 0 15 = 0
theorem RB_row {F : Int} {σ τ μ ν : zG} (h : RB F σ μ) (c4 : τ 4 = σ 4) (c5 : τ 5 = σ 5) (c8 : τ 8 = σ 8) (c3 : τ 3 7 = σ 3 7) (m2 : ν 2 = μ 2) (m5 : ν 5 = μ 5) (m6 : ν 6 = μ 6) (m0 : ν 0 15 = μ 0 15) : RB F τ ν := by
  obtain ⟨⟨a, b⟩, c, d, e⟩ := h
  refine ⟨⟨KW_row a c4 m6, KC_row b c4⟩, ?_, ?_, ?_⟩
  · rw [c5, m2]; exact c
  · rw [c8, m5]; exact d
  · rw [c3, m0]; exact e
/-- the code of the class, and how many ones -/
def RC (F : Int) (σ μ : zG) (C : List (Int × Int × Int)) : Prop := (σ 48 1 = (C.length : Int) ∧ KL (σ 49) (σ 50) (σ 51) C) ∧ (σ 48 0 = μ 0 68 ∧ 0 ≤ μ 0 68 ∧ μ 0 68 ≤ 20) ∧ vl F C
theorem RC_row {F : Int} {σ τ μ ν : zG} {C : List (Int × Int × Int)} (h : RC F σ μ C) (c0 : τ 48 = σ 48) (c1 : τ 49 = σ 49) (c2 : τ 50 = σ 50) (c3 : τ 51 = σ 51) (m : ν 0 68 = μ 0 68) : RC F τ ν C := by
  unfold RC at *
  rw [c0, c1, c2, c3, m]; exact h
/-- a sentence half read on both sides -/
def RS (F : Int) (σ μ : zG) (C : List (Int × Int × Int)) : Prop := (TP σ μ ∧ TK σ μ) ∧ RB F σ μ ∧ RC F σ μ C
theorem add_rows {σ : zG} {ky cm wi : Int} (h : σ 48 1 < 40) : F_X6_addStep σ ky cm wi 48 1 = σ 48 1 + 1 ∧ F_X6_addStep σ ky cm wi 48 0 = σ 48 0 ∧ ∀ j : Int, F_X6_addStep σ ky cm wi 49 j = (if j = σ 48 1 then ky else σ 49 j) ∧ F_X6_addStep σ ky cm wi 50 j = (if j = σ 48 1 then cm else σ 50 j) ∧ F_X6_addStep σ ky cm wi 51 j = (if j = σ 48 1 then wi else σ 51 j) := by
  unfold F_X6_addStep
  rw [if_neg (by omega)]
  refine ⟨?_, ?_, fun j => ⟨?_, ?_, ?_⟩⟩
  all_goals simp [zu]
theorem RC_add {F ky cm wi a b c : Int} {σ μ : zG} {C : List (Int × Int × Int)} (h : RC F σ μ C) (hl : C.length < 40) (e : E1 ky cm wi a b c) (v : vl F ((a, b, c) :: C)) : RC F (F_X6_addStep σ ky cm wi) μ ((a, b, c) :: C) := by
  obtain ⟨⟨h1, h2⟩, h3, h4⟩ := h
  have el : (((a, b, c) :: C).length : Int) = C.length + 1 := by simp
  obtain ⟨r1, r0, rj⟩ := add_rows (σ := σ) (ky := ky) (cm := cm) (wi := wi) (by omega)
  refine ⟨⟨?_, ⟨?_, ?_⟩⟩, ?_, v⟩
  · rw [r1, h1, el]
  · have x := rj (C.length : Int)
    rw [x.1, x.2.1, x.2.2, if_pos h1.symm, if_pos h1.symm, if_pos h1.symm]; exact e
  · refine KL_c C (fun j j0 j1 => ?_) h2
    have x := rj j
    rw [x.1, x.2.1, x.2.2, if_neg (by omega), if_neg (by omega), if_neg (by omega)]
    exact ⟨rfl, rfl, rfl⟩
  · rw [r0]; exact h3
theorem vl_plain {F a b c : Int} {C : List (Int × Int × Int)} (h : vl F C) (ha : 0 ≤ a ∧ a ≤ 6) (h0 : a = 0 → 0 ≤ b ∧ b < F) (h2 : 2 ≤ a → (b = 60 ∨ b = 61 ∨ b = 62) ∧ 0 ≤ c ∧ c ≤ 999) : vl F ((a, b, c) :: C) := by
  refine ⟨h, ⟨fun x => ?_, fun x => ?_⟩, ⟨ha.1, ?_⟩, h0, fun x _ => h2 x⟩
  · have : a = 7 := x
    omega
  · have : a = 8 ∨ a = 9 := x
    omega
  · show a ≤ 9
    omega
theorem as_r (σ : zG) (ky cm wi : Int) {k : Nat} (h : k < 48) : F_X6_addStep σ ky cm wi k = σ k := by
  unfold F_X6_addStep
  split
  · rfl
  · rw [zu_row _ _ _ (by omega), zu_row _ _ _ (by omega), zu_row _ _ _ (by omega), zu_row _ _ _ (by omega)]
/-- a step of an operator on the class's side alone -/
theorem RS_op {F ky a : Int} {σ μ : zG} {C : List (Int × Int × Int)} (h : RS F σ μ C) (hl : C.length < 40) (e : E1 ky 0 0 a 0 0) (v : vl F ((a, 0, 0) :: C)) : RS F (F_X6_addStep σ ky 0 0) μ ((a, 0, 0) :: C) := by
  obtain ⟨⟨h1, h2⟩, h3, h4⟩ := h
  have r3 : F_X6_addStep σ ky 0 0 3 = σ 3 := as_r σ ky 0 0 (by decide)
  refine ⟨⟨TP_row h1 (as_r _ _ _ _ (by decide)) (as_r _ _ _ _ (by decide)) (by rw [r3]) (by rw [r3]) rfl rfl rfl rfl, TK_row h2 (by rw [r3]) (by rw [r3]) (by rw [r3]) rfl rfl rfl rfl⟩, RB_row h3 (as_r _ _ _ _ (by decide)) (as_r _ _ _ _ (by decide)) (as_r _ _ _ _ (by decide)) (by rw [r3]) rfl rfl rfl rfl, RC_add h4 hl e v⟩
theorem kw_row {σ τ : zG} (h3 : τ 3 = σ 3) (h4 : τ 4 = σ 4) : V_X5_keyword τ = V_X5_keyword σ := by
  unfold V_X5_keyword R_X11_placeOf_4
  rw [h3, h4]
/-- a step and what is written on both sides, the token behind it read -/
theorem RS_fin {F ky cm wi a b c : Int} {τ ν : zG} {C : List (Int × Int × Int)} {P : List Int} (hL : LK τ ν) (hB : RB F τ ν) (hR : RC F τ ν C) (hc : CP ν C P) (hl : C.length < 40) (hP : P.length < 50) (e : E1 ky cm wi a b c) (v : vl F ((a, b, c) :: C)) :
    RS F (F_X5_step (F_X6_addStep τ ky cm wi)) (R_X12_writeDown (F_X12_write ν a b c) 3) ((a, b, c) :: C) ∧ CP (R_X12_writeDown (F_X12_write ν a b c) 3) (wdl 3 ((a, b, c) :: C) P).1 (wdl 3 ((a, b, c) :: C) P).2 := by
  have r3 : F_X6_addStep τ ky cm wi 3 = τ 3 := as_r τ ky cm wi (by decide)
  have m : ∀ k : Nat, k ≠ 0 → k ≠ 36 → R_X12_writeDown (F_X12_write ν a b c) 3 k = ν k := fun k k0 k6 => by rw [fr_R_X12_writeDown _ _ (by simp; omega), fr_F_X12_write _ _ _ _ (by simp; omega)]
  have m0 : ∀ j : Int, j ≠ 66 → j ≠ 67 → R_X12_writeDown (F_X12_write ν a b c) 3 0 j = ν 0 j := fun j j6 j7 => by rw [kp_wd _ _ _ ⟨j6, j7⟩, kp_write _ _ _ _ _ j6]
  have hL2 : LK (F_X6_addStep τ ky cm wi) (R_X12_writeDown (F_X12_write ν a b c) 3) := LK_row hL (as_r _ _ _ _ (by decide)) (as_r _ _ _ _ (by decide)) r3 (m 1 (by decide) (by decide)) (fun j hj => m0 j (by omega) (by omega))
  refine ⟨⟨hL2, RB_row hB ?_ ?_ ?_ ?_ (m 2 (by decide) (by decide)) (m 5 (by decide) (by decide)) (m 6 (by decide) (by decide)) (m0 15 (by decide) (by decide)), ?_⟩, wd_cp 3 hP (CP_write hc a b c)⟩
  · rw [st_r _ (by decide), as_r _ _ _ _ (by decide)]
  · rw [st_r _ (by decide), as_r _ _ _ _ (by decide)]
  · rw [st_r _ (by decide), as_r _ _ _ _ (by decide)]
  · rw [(step_vals _).2.2.2.2.1, r3]
  · refine RC_row (RC_add hR hl e v) ?_ ?_ ?_ ?_ (m0 68 (by decide) (by decide))
    all_goals rw [st_r _ (by decide)]
/-- a plain one on both sides -/
theorem plain_sim {F ky : Int} {σ μ : zG} {C : List (Int × Int × Int)} {P : List Int} (h : RS F σ μ C) (hc : CP μ C P) (hk : 19 ≤ ky ∧ ky ≤ 25) (h20 : μ 0 68 < 20) (hl : C.length < 40) (hP : P.length < 50) (hh : 0 ≤ hgl C) :
    (V_X6_takePlain (zu σ 48 0 (μ 0 68 + 1)) ky = 0 ∧ V_X12_asks (F_X12_next (zu μ 0 68 (μ 0 68 + 1))) (ky - 19) = 0 ∧ F_X6_takePlain (zu σ 48 0 (μ 0 68 + 1)) ky 3 7 = F_X12_asks (F_X12_next (zu μ 0 68 (μ 0 68 + 1))) (ky - 19) 0 15 ∧ F_X6_takePlain (zu σ 48 0 (μ 0 68 + 1)) ky 3 5 = F_X12_asks (F_X12_next (zu μ 0 68 (μ 0 68 + 1))) (ky - 19) 0 16) ∨
    (V_X6_takePlain (zu σ 48 0 (μ 0 68 + 1)) ky = 1 ∧ V_X12_asks (F_X12_next (zu μ 0 68 (μ 0 68 + 1))) (ky - 19) = 1 ∧ ∃ C' : List (Int × Int × Int), RS F (F_X6_takePlain (zu σ 48 0 (μ 0 68 + 1)) ky) (F_X12_asks (F_X12_next (zu μ 0 68 (μ 0 68 + 1))) (ky - 19)) C' ∧ CP (F_X12_asks (F_X12_next (zu μ 0 68 (μ 0 68 + 1))) (ky - 19)) (wdl 3 C' P).1 (wdl 3 C' P).2 ∧ hgl C' = hgl C + 1 ∧ C'.length = C.length + 1 ∧ F_X12_asks (F_X12_next (zu μ 0 68 (μ 0 68 + 1))) (ky - 19) 0 68 = μ 0 68 + 1) := by
  obtain ⟨⟨hP0, hT0⟩, hB, hR⟩ := h
  have hones := hR.2.1
  -- the states behind the atom's word
  have hP1 : TP (zu σ 48 0 (μ 0 68 + 1)) (zu μ 0 68 (μ 0 68 + 1)) := TP_row hP0 (zu_row _ _ _ (by decide)) (zu_row _ _ _ (by decide)) (zu_ne _ _ _ _ (by decide)) (zu_ne _ _ _ _ (by decide)) (zu_row _ _ _ (by decide)) (zu_off _ _ _ (by decide)) (zu_off _ _ _ (by decide)) (zu_off _ _ _ (by decide))
  have hL := LK_next hP1
  have n68 : F_X12_next (zu μ 0 68 (μ 0 68 + 1)) 0 68 = μ 0 68 + 1 := by rw [kp_next _ 68 (by unfold KI; decide), zu_at]
  have nr : ∀ k : Nat, k ≠ 0 → F_X12_next (zu μ 0 68 (μ 0 68 + 1)) k = μ k := fun k hk => by rw [nx_r _ hk, zu_row _ _ _ hk]
  have n15 : F_X12_next (zu μ 0 68 (μ 0 68 + 1)) 0 15 = μ 0 15 := by rw [nx_15, zu_off _ _ _ (by decide)]
  have cr : ∀ k : Nat, k ≠ 48 → zu σ 48 0 (μ 0 68 + 1) k = σ k := fun k hk => zu_row _ _ _ hk
  have hB1 : RB F (zu σ 48 0 (μ 0 68 + 1)) (F_X12_next (zu μ 0 68 (μ 0 68 + 1))) := RB_row hB (cr 4 (by decide)) (cr 5 (by decide)) (cr 8 (by decide)) (by rw [cr 3 (by decide)]) (nr 2 (by decide)) (nr 5 (by decide)) (nr 6 (by decide)) n15
  have hR1 : RC F (zu σ 48 0 (μ 0 68 + 1)) (F_X12_next (zu μ 0 68 (μ 0 68 + 1))) C := by
    refine ⟨⟨by rw [zu_off _ _ _ (by decide)]; exact hR.1.1, by rw [cr 49 (by decide), cr 50 (by decide), cr 51 (by decide)]; exact hR.1.2⟩, ?_, hR.2.2⟩
    rw [zu_at, n68]; omega
  have hc1 : CP (F_X12_next (zu μ 0 68 (μ 0 68 + 1))) C P := CP_row hc (by rw [kp_next _ 66 (by unfold KI; decide), zu_off _ _ _ (by decide)]) (by rw [kp_next _ 67 (by unfold KI; decide), zu_off _ _ _ (by decide)]) (nr 36 (by decide)) (nr 37 (by decide))
  generalize F_X12_next (zu μ 0 68 (μ 0 68 + 1)) = μ1 at *
  generalize zu σ 48 0 (μ 0 68 + 1) = σ1 at *
  have hF := hB1.2.1
  have hg1 : ∀ a b c : Int, a ≤ 6 → hgl ((a, b, c) :: C) = hgl C + 1 := fun a b c ha => by
    rw [hgl, if_neg (show ¬ a = 7 by omega), if_neg (show ¬ (a = 8 ∨ a = 9) by omega)]
  have w68 : ∀ (ν : zG) (a b c : Int), R_X12_writeDown (F_X12_write ν a b c) 3 0 68 = ν 0 68 := fun ν a b c => by rw [kp_wd _ _ _ ⟨by decide, by decide⟩, kp_write _ _ _ _ _ (by decide)]
  unfold V_X6_takePlain F_X6_takePlain V_X12_asks F_X12_asks
  by_cases k19 : ky = 19
  · have a0 : ky - 19 = 0 := by omega
    rw [a0, if_pos k19, if_pos k19, if_pos rfl, if_pos rfl, hF.1, hF.2.1]
    rcases name8_sim hB1.1.1 hL ⟨hF.2.2.1, hF.2.2.2⟩ hB1.2.2.1 with ⟨b1, b2, b3, b4⟩ | ⟨b1, b2, b3, b4, b5, b6, b7⟩
    · rw [if_pos b1, if_pos b1, if_pos b2, if_pos b2]
      exact Or.inl ⟨rfl, rfl, b3, b4⟩
    · rw [if_neg (show ¬ V_X12_takesName μ1 8 F = 0 by omega), if_neg (show ¬ V_X12_takesName μ1 8 F = 0 by omega), b2, if_neg (show ¬ R_X12_find μ1 8 F = -1 by omega), if_neg (show ¬ R_X12_find μ1 8 F = -1 by omega), b4]
      have mr : ∀ k : Nat, k ≠ 0 → F_X12_takesName μ1 8 F k = μ1 k := fun k hk => by rw [b7, nx_r _ hk, zu_row _ _ _ hk]
      have mz : ∀ j : Int, KI j → F_X12_takesName μ1 8 F 0 j = μ1 0 j := fun j hj => kp_takesName _ _ _ j hj
      have m15 : F_X12_takesName μ1 8 F 0 15 = μ1 0 15 := by rw [b7, nx_15, zu_off _ _ _ (by decide)]
      have sr : ∀ k : Nat, k ≠ 3 → F_X5_stepName_8 σ1 F k = σ1 k := fun k hk => by rw [b6, st_r _ hk]
      have s37 : F_X5_stepName_8 σ1 F 3 7 = σ1 3 7 := by rw [b6, (step_vals _).2.2.2.2.1]
      have hB2 := RB_row (τ := F_X5_stepName_8 σ1 F) (ν := F_X12_takesName μ1 8 F) hB1 (sr 4 (by decide)) (sr 5 (by decide)) (sr 8 (by decide)) s37 (mr 2 (by decide)) (mr 5 (by decide)) (mr 6 (by decide)) m15
      have hR2 := RC_row (τ := F_X5_stepName_8 σ1 F) (ν := F_X12_takesName μ1 8 F) hR1 (sr 48 (by decide)) (sr 49 (by decide)) (sr 50 (by decide)) (sr 51 (by decide)) (mz 68 (by unfold KI; decide))
      have hc2 := CP_row (ν := F_X12_takesName μ1 8 F) hc1 (mz 66 (by unfold KI; decide)) (mz 67 (by unfold KI; decide)) (mr 36 (by decide)) (mr 37 (by decide))
      have n68' : F_X12_takesName μ1 8 F 0 68 = μ 0 68 + 1 := by rw [mz 68 (by unfold KI; decide)]; exact n68
      have fin := RS_fin (ky := ky) (cm := 0) (wi := R_X12_find μ1 8 F) (a := 0) (b := R_X12_find μ1 8 F) (c := 0) b5 hB2 hR2 hc2 hl hP ⟨by rw [if_pos (by decide)]; omega, fun _ => ⟨rfl, rfl, rfl⟩, fun x => absurd rfl x⟩ (vl_plain hR.2.2 (by decide) (fun _ => b3) (fun x => absurd x (by decide)))
      exact Or.inr ⟨rfl, rfl, (0, R_X12_find μ1 8 F, 0) :: C, fin.1, fin.2, hg1 _ _ _ (by decide), rfl, by rw [w68]; exact n68'⟩
  · by_cases k20 : ky = 20
    · have a1 : ky - 19 = 1 := by omega
      rw [a1, if_neg k19, if_neg k19, if_pos k20, if_pos k20, if_neg (show ¬ (1 : Int) = 0 by decide), if_neg (show ¬ (1 : Int) = 0 by decide), if_pos (show (1 : Int) ≤ 1 by decide), if_pos (show (1 : Int) ≤ 1 by decide)]
      have fin := RS_fin (ky := ky) (cm := 0) (wi := 0) (a := 1) (b := 0) (c := 0) hL hB1 hR1 hc1 hl hP ⟨by rw [if_pos (by decide)]; omega, fun x => absurd x (by decide), fun _ => ⟨rfl, rfl⟩⟩ (vl_plain hR.2.2 (by decide) (fun x => absurd x (by decide)) (fun x => absurd x (by decide)))
      exact Or.inr ⟨rfl, rfl, (1, 0, 0) :: C, fin.1, fin.2, hg1 _ _ _ (by decide), rfl, by rw [w68]; exact n68⟩
    · rw [if_neg k19, if_neg k19, if_neg k20, if_neg k20, if_neg (show ¬ ky - 19 = 0 by omega), if_neg (show ¬ ky - 19 = 0 by omega), if_neg (show ¬ ky - 19 ≤ 1 by omega), if_neg (show ¬ ky - 19 ≤ 1 by omega)]
      have e60 := TK_s hL.2 60
      have e61 := TK_s hL.2 61
      have e62 := TK_s hL.2 62
      have go : ∀ sg : Int, (sg = 60 ∨ sg = 61 ∨ sg = 62) → (μ1 0 11 = 3 ∧ μ1 0 14 = sg) → F_X5_step σ1 3 6 = sg →
          ((if V_X5_stepNumber (F_X5_step σ1) 0 999 = -1 then (0 : Int) else 1) = 0 ∧ (if F_X12_next μ1 0 11 = 2 then (1 : Int) else 0) = 0 ∧ (if V_X5_stepNumber (F_X5_step σ1) 0 999 = -1 then F_X5_stepNumber (F_X5_step σ1) 0 999 else F_X5_step (F_X6_addStep (F_X5_stepNumber (F_X5_step σ1) 0 999) ky (F_X5_step σ1 3 6) (V_X5_stepNumber (F_X5_step σ1) 0 999))) 3 7 = (if F_X12_next μ1 0 11 = 2 then R_X12_writeDown (F_X12_write (F_X12_next (F_X12_next μ1)) (ky - 19) (μ1 0 14) (F_X12_next μ1 0 14)) 3 else zu (zu (F_X12_next μ1) 0 15 1) 0 16 (F_X12_next μ1 0 12)) 0 15 ∧ (if V_X5_stepNumber (F_X5_step σ1) 0 999 = -1 then F_X5_stepNumber (F_X5_step σ1) 0 999 else F_X5_step (F_X6_addStep (F_X5_stepNumber (F_X5_step σ1) 0 999) ky (F_X5_step σ1 3 6) (V_X5_stepNumber (F_X5_step σ1) 0 999))) 3 5 = (if F_X12_next μ1 0 11 = 2 then R_X12_writeDown (F_X12_write (F_X12_next (F_X12_next μ1)) (ky - 19) (μ1 0 14) (F_X12_next μ1 0 14)) 3 else zu (zu (F_X12_next μ1) 0 15 1) 0 16 (F_X12_next μ1 0 12)) 0 16) ∨
          ((if V_X5_stepNumber (F_X5_step σ1) 0 999 = -1 then (0 : Int) else 1) = 1 ∧ (if F_X12_next μ1 0 11 = 2 then (1 : Int) else 0) = 1 ∧ ∃ C' : List (Int × Int × Int), RS F (if V_X5_stepNumber (F_X5_step σ1) 0 999 = -1 then F_X5_stepNumber (F_X5_step σ1) 0 999 else F_X5_step (F_X6_addStep (F_X5_stepNumber (F_X5_step σ1) 0 999) ky (F_X5_step σ1 3 6) (V_X5_stepNumber (F_X5_step σ1) 0 999))) (if F_X12_next μ1 0 11 = 2 then R_X12_writeDown (F_X12_write (F_X12_next (F_X12_next μ1)) (ky - 19) (μ1 0 14) (F_X12_next μ1 0 14)) 3 else zu (zu (F_X12_next μ1) 0 15 1) 0 16 (F_X12_next μ1 0 12)) C' ∧ CP (if F_X12_next μ1 0 11 = 2 then R_X12_writeDown (F_X12_write (F_X12_next (F_X12_next μ1)) (ky - 19) (μ1 0 14) (F_X12_next μ1 0 14)) 3 else zu (zu (F_X12_next μ1) 0 15 1) 0 16 (F_X12_next μ1 0 12)) (wdl 3 C' P).1 (wdl 3 C' P).2 ∧ hgl C' = hgl C + 1 ∧ C'.length = C.length + 1 ∧ (if F_X12_next μ1 0 11 = 2 then R_X12_writeDown (F_X12_write (F_X12_next (F_X12_next μ1)) (ky - 19) (μ1 0 14) (F_X12_next μ1 0 14)) 3 else zu (zu (F_X12_next μ1) 0 15 1) 0 16 (F_X12_next μ1 0 12)) 0 68 = μ 0 68 + 1) := by
        intro sg hsg hm hs
        have hL2 := LK_next hL.1
        by_cases k2 : F_X12_next μ1 0 11 = 2
        · have e4 : F_X5_step (F_X5_step σ1) 3 4 = 3 ∧ F_X5_step (F_X5_step σ1) 3 6 = F_X12_next μ1 0 14 ∧ 0 ≤ F_X12_next μ1 0 14 ∧ F_X12_next μ1 0 14 ≤ 999 := by
            rcases hL2.2.2 with x | x | x | x | x
            · omega
            · omega
            · omega
            · exact ⟨x.1, x.2.2⟩
            · omega
          have ev : V_X5_stepNumber (F_X5_step σ1) 0 999 = F_X12_next μ1 0 14 := by
            unfold V_X5_stepNumber
            rw [if_pos e4.1, e4.2.1, if_neg (by omega), if_pos e4.2.2.2]
          have ef : F_X5_stepNumber (F_X5_step σ1) 0 999 = F_X5_step (F_X5_step σ1) := by
            unfold F_X5_stepNumber
            rw [if_pos e4.1, e4.2.1, if_neg (by omega), if_pos e4.2.2.2]
          rw [ev, ef, if_neg (show ¬ F_X12_next μ1 0 14 = -1 by omega), if_neg (show ¬ F_X12_next μ1 0 14 = -1 by omega), if_pos k2, if_pos k2, hs, hm.2]
          have hL3 := LK_next hL2.1
          have mr : ∀ k : Nat, k ≠ 0 → F_X12_next (F_X12_next μ1) k = μ1 k := fun k hk => by rw [nx_r _ hk, nx_r _ hk]
          have mz : ∀ j : Int, KI j → F_X12_next (F_X12_next μ1) 0 j = μ1 0 j := fun j hj => by rw [kp_next _ j hj, kp_next _ j hj]
          have sr : ∀ k : Nat, k ≠ 3 → F_X5_step (F_X5_step σ1) k = σ1 k := fun k hk => by rw [st_r _ hk, st_r _ hk]
          have s37 : F_X5_step (F_X5_step σ1) 3 7 = σ1 3 7 := by rw [(step_vals _).2.2.2.2.1, (step_vals _).2.2.2.2.1]
          have hB2 := RB_row (τ := F_X5_step (F_X5_step σ1)) (ν := F_X12_next (F_X12_next μ1)) hB1 (sr 4 (by decide)) (sr 5 (by decide)) (sr 8 (by decide)) s37 (mr 2 (by decide)) (mr 5 (by decide)) (mr 6 (by decide)) (by rw [nx_15, nx_15])
          have hR2 := RC_row (τ := F_X5_step (F_X5_step σ1)) (ν := F_X12_next (F_X12_next μ1)) hR1 (sr 48 (by decide)) (sr 49 (by decide)) (sr 50 (by decide)) (sr 51 (by decide)) (mz 68 (by unfold KI; decide))
          have hc2 := CP_row (ν := F_X12_next (F_X12_next μ1)) hc1 (mz 66 (by unfold KI; decide)) (mz 67 (by unfold KI; decide)) (mr 36 (by decide)) (mr 37 (by decide))
          have fin := RS_fin (ky := ky) (cm := sg) (wi := F_X12_next μ1 0 14) (a := ky - 19) (b := sg) (c := F_X12_next μ1 0 14) hL3 hB2 hR2 hc2 hl hP ⟨by rw [if_pos (by omega)]; omega, fun x => by omega, fun _ => ⟨rfl, rfl⟩⟩ (vl_plain hR.2.2 (by omega) (fun x => by omega) (fun _ => ⟨hsg, e4.2.2⟩))
          exact Or.inr ⟨rfl, rfl, (ky - 19, sg, F_X12_next μ1 0 14) :: C, fin.1, fin.2, hg1 _ _ _ (by omega), rfl, by rw [w68, mz 68 (by unfold KI; decide)]; exact n68⟩
        · have e4 : ¬ F_X5_step (F_X5_step σ1) 3 4 = 3 := by
            rcases hL2.2.2 with x | x | x | x | x <;> omega
          have ev : V_X5_stepNumber (F_X5_step σ1) 0 999 = -1 := by unfold V_X5_stepNumber; rw [if_neg e4]
          have ef : F_X5_stepNumber (F_X5_step σ1) 0 999 = zu (F_X5_step (F_X5_step σ1)) 3 7 1 := by unfold F_X5_stepNumber; rw [if_neg e4]
          rw [if_pos ev, if_pos ev, if_neg k2, if_neg k2, ef]
          refine Or.inl ⟨rfl, rfl, ?_, ?_⟩
          · rw [zu_at, zu_off _ _ _ (by decide), zu_at]
          · rw [zu_off _ _ _ (by decide), zu_at]; exact hL2.2.1
      by_cases c60 : μ1 0 11 = 3 ∧ μ1 0 14 = 60
      · have s := e60.mpr c60
        rw [if_pos s, if_pos s, if_pos c60, if_pos c60]
        exact go 60 (Or.inl rfl) c60 s.2
      · have s : ¬ (F_X5_step σ1 3 4 = 4 ∧ F_X5_step σ1 3 6 = 60) := fun x => c60 (e60.mp x)
        rw [if_neg s, if_neg s, if_neg c60, if_neg c60]
        by_cases c61 : μ1 0 11 = 3 ∧ μ1 0 14 = 61
        · have s := e61.mpr c61
          rw [if_pos s, if_pos s, if_pos c61, if_pos c61]
          exact go 61 (Or.inr (Or.inl rfl)) c61 s.2
        · have s : ¬ (F_X5_step σ1 3 4 = 4 ∧ F_X5_step σ1 3 6 = 61) := fun x => c61 (e61.mp x)
          rw [if_neg s, if_neg s, if_neg c61, if_neg c61]
          by_cases c62 : μ1 0 11 = 3 ∧ μ1 0 14 = 62
          · have s := e62.mpr c62
            rw [if_pos s, if_pos s, if_pos c62, if_pos c62]
            exact go 62 (Or.inr (Or.inr rfl)) c62 s.2
          · have s : ¬ (F_X5_step σ1 3 4 = 4 ∧ F_X5_step σ1 3 6 = 62) := fun x => c62 (e62.mp x)
            rw [if_neg s, if_neg s, if_neg c62, if_neg c62]
            refine Or.inl ⟨rfl, rfl, ?_, ?_⟩
            · rw [zu_at, zu_off _ _ _ (by decide), zu_at]
            · rw [zu_off _ _ _ (by decide), zu_at]; exact hL.2.1
