/-! pure: a whole sentence on both sides -/
theorem opb_wd (le : Int) : ∀ (Q : List Int) (D : List (Int × Int × Int)), opb Q → opb (wdl le D Q).2
  | [], D, h => h
  | x :: xs, D, h => by
    rw [wdl]
    by_cases c : x = 10
    · rw [if_pos c]; exact h
    · rw [if_neg c]
      by_cases c2 : V_X12_binds x < le
      · rw [if_pos c2]; exact h
      · rw [if_neg c2]
        exact opb_wd le xs _ (h.resolve_left c)
/-- how a sentence came out on both sides -/
def SO (F : Int) (V : Int) (τ : zG) (r : Int × zG) : Prop := (V = 0 ∧ FL τ r) ∨ (V = 1 ∧ r.1 = 1 ∧ τ 3 7 = 0 ∧ r.2 0 15 = 0 ∧ ∃ C : List (Int × Int × Int), CP r.2 C [] ∧ RC F τ r.2 C ∧ hgl C = 1 ∧ C.length < 40 ∧ 1 ≤ r.2 0 68)
theorem sent_sim {F : Int} {σ μ : zG} (h : RS F σ μ []) (hc : CP μ [] []) (h0 : μ 0 68 = 0) : SO F (if (tC 8 1 σ).1 = 0 then 0 else (if (tC 8 1 σ).2 3 4 = 0 then 1 else 0)) (if (tC 8 1 σ).1 = 0 then (tC 8 1 σ).2 else (if (tC 8 1 σ).2 3 4 = 0 then (tC 8 1 σ).2 else zu (tC 8 1 σ).2 3 7 1)) (L_X12_cond_0 1000 μ) := by
  rw [cond_M1]
  rcases cond_of (all_of (one_all F 8)) 30 999 1 σ μ [] [] ⟨h, hc, ⟨by decide, by decide, rfl⟩, ⟨by rw [h0]; decide, Int.le_refl _⟩, by decide, by omega⟩ (fun x xs e => by cases e) with ⟨a, b⟩ | ⟨a, ⟨k17, k16⟩, s', n', μ', C', e1, ⟨⟨e2, e2'⟩, e3, ⟨D', Q', e4, e4'⟩, e5, e6⟩, e7⟩
  · rw [if_pos a, if_pos a]
    exact Or.inl ⟨rfl, b⟩
  · rw [if_neg (show ¬ (tC 8 1 σ).1 = 0 by omega), if_neg (show ¬ (tC 8 1 σ).1 = 0 by omega), e1]
    generalize (tC 8 1 σ).2 = τ at *
    have h68' := e3.2.2.2.1
    have wl := wdl_len 1 Q' D'
    rw [e4'] at wl
    have wl1 : C'.length + 0 = D'.length + Q'.length := wl.1
    have e6' : (C'.length : Int) + 0 + 1 ≤ 2 * μ' 0 68 := e6
    have k17' := kw_m (k := 17) (c := 6385252) e3.2.1.1.2 e3.1.2 (by decide) (by decide) ⟨by decide, by decide, ⟨by decide, by decide⟩, by decide, by decide⟩
    have k16' := kw_m (k := 16) (c := 28530) e3.2.1.1.2 e3.1.2 (by decide) (by decide) ⟨by decide, by decide, ⟨by decide, by decide⟩, by decide, by decide⟩
    have io : R_X12_isOpen μ' = 0 := (isOpen_l e4 (by omega)).mpr (fun x => by
      have := opb_wd 1 Q' D' x
      rw [e4'] at this
      exact this)
    rw [AO_end s' n' (fun x => k17 (k17'.mpr x)) (fun x => k16 (k16'.mpr x)) io]
    have tk := e3.1.2.2
    by_cases z : μ' 0 11 = 0
    · have z4 : τ 3 4 = 0 := by
        rcases tk with x | x | x | x | x
        · exact x.1
        · omega
        · omega
        · omega
        · omega
      rw [if_pos z, if_pos z4, if_pos z4]
      have wc := wd_cp 1 (by omega) e4
      rw [e4'] at wc
      have w0 : ∀ j : Int, j ≠ 66 → j ≠ 67 → R_X12_writeDown μ' 1 0 j = μ' 0 j := fun j j6 j7 => kp_wd _ _ _ ⟨j6, j7⟩
      refine Or.inr ⟨rfl, rfl, e3.2.1.2.2.2.1, ?_, C', wc, RC_row e3.2.2 rfl rfl rfl rfl (w0 68 (by decide) (by decide)), e5, by omega, ?_⟩
      · show R_X12_writeDown μ' 1 0 15 = 0
        rw [w0 15 (by decide) (by decide)]; exact e3.2.1.2.2.2.2
      · show 1 ≤ R_X12_writeDown μ' 1 0 68
        rw [w0 68 (by decide) (by decide)]; omega
    · have z4 : ¬ τ 3 4 = 0 := by
        rcases tk with x | x | x | x | x <;> omega
      rw [if_neg z, if_neg z4, if_neg z4]
      refine Or.inl ⟨rfl, rfl, ?_, ?_⟩
      · show zu τ 3 7 1 3 7 = zu (zu (R_X12_writeDown μ' 1) 0 15 1) 0 16 (μ' 0 12) 0 15
        rw [zu_at, zu_off _ _ _ (by decide), zu_at]
      · show zu τ 3 7 1 3 5 = zu (zu (R_X12_writeDown μ' 1) 0 15 1) 0 16 (μ' 0 12) 0 16
        rw [zu_off _ _ _ (by decide), zu_at]; exact e3.1.2.1
theorem keep64 : ∀ (n : Nat) (q : Int) (μ : zG), 0 ≤ q → (3 * μ 0 66 - q).toNat < n → (∀ j : Int, q ≤ j → j < 3 * μ 0 66 → (S_X12_sentence_64 n q μ).2 2 (474 + j) = μ 36 j) ∧ ∀ j : Int, j < 474 + q ∨ 474 + 3 * μ 0 66 ≤ j → (S_X12_sentence_64 n q μ).2 2 j = μ 2 j
  | 0, q, μ, _, h => absurd h (Nat.not_lt_zero _)
  | n + 1, q, μ, h0, h => by
    rw [S_X12_sentence_64]
    by_cases c : 3 * μ 0 66 ≤ q
    · rw [if_pos c]; exact ⟨fun j a b => absurd b (by omega), fun _ _ => rfl⟩
    · rw [if_neg c]
      have e0 : zu μ 2 (474 + q) (μ 36 q) 0 = μ 0 := zu_row _ _ _ (by decide)
      have e4 : zu μ 2 (474 + q) (μ 36 q) 36 = μ 36 := zu_row _ _ _ (by decide)
      have ih := keep64 n (q + 1) (zu μ 2 (474 + q) (μ 36 q)) (by omega) (by rw [e0]; omega)
      rw [e0, e4] at ih
      refine ⟨fun j a b => ?_, fun j a => ?_⟩
      · by_cases e : j = q
        · rw [ih.2 (474 + j) (by omega), e, zu_at]
        · exact ih.1 j (by omega) b
      · rw [ih.2 j (by omega), zu_off _ _ _ (by omega)]
/-- the sentence that stands, on both sides -/
def SN (σ μ : zG) : Prop := ∃ C : List (Int × Int × Int), (σ 43 1 = (C.length : Int) ∧ KL (σ 44) (σ 45) (σ 46) C) ∧ (μ 2 473 = (C.length : Int) ∧ CL (fun j => μ 2 (474 + j)) C) ∧ vl (μ 2 1) C ∧ C.length < 40 ∧ (0 ≤ σ 43 0 ∧ σ 43 0 ≤ 20) ∧ (σ 43 0 = 0 ↔ C = []) ∧ (C ≠ [] → hgl C = 1)
theorem scopy_rows (σ : zG) : (∀ j : Int, j = 0 ∨ j = 1 → F_X6_copy_43_48 σ 43 j = σ 48 j) ∧ ∀ i : Int, 0 ≤ i → i < 40 → F_X6_copy_43_48 σ 44 i = σ 49 i ∧ F_X6_copy_43_48 σ 45 i = σ 50 i ∧ F_X6_copy_43_48 σ 46 i = σ 51 i := by
  unfold F_X6_copy_43_48
  refine ⟨fun j hj => ?_, fun i i0 i1 => ⟨?_, ?_, ?_⟩⟩
  · rcases hj with rfl | rfl <;> simp [zcp, zu]
  all_goals simp [zcp, zu, i0, i1]
/-- a sentence read on both sides -/
theorem sent_read {σ μ : zG} (hK : KW σ μ) (hC : KC σ) (hV : VS σ μ) (hN : NW σ μ) (h1 : σ 1 1 = μ 0 2 ∧ 0 ≤ μ 0 2 ∧ μ 0 2 ≤ 940) (h2 : ∀ j : Int, 0 ≤ j → j < 940 → σ 2 j = mu μ j ∧ 0 ≤ σ 2 j ∧ σ 2 j ≤ 255) :
    (V_X6_take (F_X5_open σ 200) = 0 ∧ (R_X12_sentence μ).1 = w32 (-1 - (R_X12_sentence μ).2 0 16) ∧ F_X6_take (F_X5_open σ 200) 3 7 = (R_X12_sentence μ).2 0 15 ∧ F_X6_take (F_X5_open σ 200) 3 5 = (R_X12_sentence μ).2 0 16 ∧ (R_X12_sentence μ).2 2 = μ 2) ∨
    (V_X6_take (F_X5_open σ 200) = 1 ∧ F_X6_take (F_X5_open σ 200) 3 7 = (R_X12_sentence μ).2 0 15 ∧ (R_X12_sentence μ).1 = F_X6_copy_43_48 (F_X6_take (F_X5_open σ 200)) 43 0 ∧ SN (F_X6_copy_43_48 (F_X6_take (F_X5_open σ 200))) (R_X12_sentence μ).2 ∧ ∀ j : Int, j < 473 → (R_X12_sentence μ).2 2 j = μ 2 j) := by
  have hTP := valley_TP h1 h2 (x := 200) (by decide)
  have o : ∀ k : Nat, k ≠ 3 → F_X5_open σ 200 k = σ k := fun k hk => by unfold F_X5_open; simp only [zu_row _ _ _ hk]
  have t : ∀ k : Nat, k ≠ 0 → F_X12_taken (zu μ 0 0 0) 200 k = μ k := fun k hk => by unfold F_X12_taken; simp only [zu_row _ _ _ hk]
  have o37 : F_X5_open σ 200 3 7 = 0 := by unfold F_X5_open; simp [zu]
  have hf := hV.2.1
  unfold V_X6_take F_X6_take R_X12_sentence
  generalize F_X12_taken (zu μ 0 0 0) 200 = μ1 at *
  generalize F_X5_open σ 200 = σ1 at *
  have c : ∀ k : Nat, k ≠ 48 → F_X6_clear_48 σ1 k = σ1 k := fun k hk => by unfold F_X6_clear_48; rw [zu_row _ _ _ hk, zu_row _ _ _ hk]
  have c0 : F_X6_clear_48 σ1 48 0 = 0 := by unfold F_X6_clear_48; rw [zu_off _ _ _ (by decide), zu_at]
  have c1 : F_X6_clear_48 σ1 48 1 = 0 := by unfold F_X6_clear_48; rw [zu_at]
  have b : ∀ j : Int, j ≠ 15 → j ≠ 66 → j ≠ 67 → j ≠ 68 → zu (zu (zu (zu μ1 0 15 0) 0 66 0) 0 67 0) 0 68 0 0 j = μ1 0 j := fun j h15 h6 h7 h8 => by rw [zu_off _ _ _ h8, zu_off _ _ _ h7, zu_off _ _ _ h6, zu_off _ _ _ h15]
  have br : ∀ k : Nat, k ≠ 0 → zu (zu (zu (zu μ1 0 15 0) 0 66 0) 0 67 0) 0 68 0 k = μ1 k := fun k hk => by rw [zu_row _ _ _ hk, zu_row _ _ _ hk, zu_row _ _ _ hk, zu_row _ _ _ hk]
  have b68 : zu (zu (zu (zu μ1 0 15 0) 0 66 0) 0 67 0) 0 68 0 0 68 = 0 := zu_at _ _ _ _
  have b67 : zu (zu (zu (zu μ1 0 15 0) 0 66 0) 0 67 0) 0 68 0 0 67 = 0 := by rw [zu_off _ _ _ (by decide), zu_at]
  have b66 : zu (zu (zu (zu μ1 0 15 0) 0 66 0) 0 67 0) 0 68 0 0 66 = 0 := by rw [zu_off _ _ _ (by decide), zu_off _ _ _ (by decide), zu_at]
  have b15 : zu (zu (zu (zu μ1 0 15 0) 0 66 0) 0 67 0) 0 68 0 0 15 = 0 := by rw [zu_off _ _ _ (by decide), zu_off _ _ _ (by decide), zu_off _ _ _ (by decide), zu_at]
  generalize zu (zu (zu (zu μ1 0 15 0) 0 66 0) 0 67 0) 0 68 0 = μ2 at *
  have hP2 : TP (F_X6_clear_48 σ1) μ2 := TP_row hTP (c 1 (by decide)) (c 2 (by decide)) (by rw [c 3 (by decide)]) (by rw [c 3 (by decide)]) (br 1 (by decide)) (b 3 (by decide) (by decide) (by decide) (by decide)) (b 4 (by decide) (by decide) (by decide) (by decide)) (b 5 (by decide) (by decide) (by decide) (by decide))
  have hL := LK_next hP2
  have n68 : F_X12_next μ2 0 68 = 0 := by rw [kp_next _ 68 (by unfold KI; decide)]; exact b68
  have nr : ∀ k : Nat, k ≠ 0 → F_X12_next μ2 k = μ k := fun k hk => by rw [nx_r _ hk, br k hk, t k hk]
  have sr : ∀ k : Nat, k ≠ 3 → k ≠ 48 → F_X5_step (F_X6_clear_48 σ1) k = σ k := fun k h3 h8 => by rw [st_r _ h3, c k h8, o k h3]
  have hRS : RS (μ 2 1) (F_X5_step (F_X6_clear_48 σ1)) (F_X12_next μ2) [] := by
    refine ⟨hL, ⟨⟨KW_row hK (sr 4 (by decide) (by decide)) (nr 6 (by decide)), KC_row hC (sr 4 (by decide) (by decide))⟩, ?_, fun i i0 i1 => ?_, ?_, ?_⟩, ⟨?_, trivial⟩, ?_, trivial⟩
    · rw [sr 5 (by decide) (by decide), nr 2 (by decide)]; exact ⟨hf.1, rfl, hf.2⟩
    · rw [sr 8 (by decide) (by decide), nr 5 (by decide)]; exact hN.2.1 i i0 i1
    · rw [(step_vals _).2.2.2.2.1, c 3 (by decide)]; exact o37
    · rw [nx_15]; exact b15
    · rw [st_r _ (by decide), c1]; rfl
    · rw [st_r _ (by decide), c0, n68]; decide
  have hcp : CP (F_X12_next μ2) [] [] := ⟨⟨by rw [kp_next _ 66 (by unfold KI; decide), b66]; rfl, trivial⟩, by rw [kp_next _ 67 (by unfold KI; decide), b67]; rfl, trivial⟩
  have hso := sent_sim hRS hcp n68
  have e2 : (L_X12_cond_0 1000 (F_X12_next μ2)).2 2 = μ 2 := by rw [fr_L_X12_cond_0 _ _ (by decide)]; exact nr 2 (by decide)
  unfold V_X12_cond F_X12_cond R_X12_cond
  generalize L_X12_cond_0 1000 (F_X12_next μ2) = r at *
  generalize (if (tC 8 1 (F_X5_step (F_X6_clear_48 σ1))).1 = 0 then (0 : Int) else (if (tC 8 1 (F_X5_step (F_X6_clear_48 σ1))).2 3 4 = 0 then 1 else 0)) = V at *
  generalize (if (tC 8 1 (F_X5_step (F_X6_clear_48 σ1))).1 = 0 then (tC 8 1 (F_X5_step (F_X6_clear_48 σ1))).2 else (if (tC 8 1 (F_X5_step (F_X6_clear_48 σ1))).2 3 4 = 0 then (tC 8 1 (F_X5_step (F_X6_clear_48 σ1))).2 else zu (tC 8 1 (F_X5_step (F_X6_clear_48 σ1))).2 3 7 1)) = τ at *
  rcases hso with ⟨a, f1, f2, f3⟩ | ⟨a, f1, f2, f3, C, f4, f5, f6, f7, f8⟩
  · rw [if_pos f1]
    exact Or.inl ⟨a, rfl, f2, f3, e2⟩
  · rw [if_neg (show ¬ r.1 = 0 by omega)]
    have z0 : zu r.2 2 473 (r.2 0 66) 0 = r.2 0 := zu_row _ _ _ (by decide)
    have z36 : zu r.2 2 473 (r.2 0 66) 36 = r.2 36 := zu_row _ _ _ (by decide)
    have k := keep64 200 0 (zu r.2 2 473 (r.2 0 66)) (by decide) (by rw [z0, f4.1.1]; omega)
    rw [z0, z36] at k
    have s0 : (S_X12_sentence_64 200 0 (zu r.2 2 473 (r.2 0 66))).2 0 = r.2 0 := by rw [fr_S_X12_sentence_64 (h := by decide)]; exact z0
    obtain ⟨cp0, cpi⟩ := scopy_rows τ
    have f9 := f5.2.1
    refine Or.inr ⟨a, ?_, ?_, ⟨C, ⟨?_, ?_⟩, ⟨?_, ?_⟩, ?_, f7, ?_, ?_, fun _ => f6⟩, fun j hj => ?_⟩
    · show τ 3 7 = (S_X12_sentence_64 200 0 (zu r.2 2 473 (r.2 0 66))).2 0 15
      rw [s0, f2, f3]
    · show r.2 0 68 = F_X6_copy_43_48 τ 43 0
      rw [cp0 0 (by decide)]; exact f9.1.symm
    · rw [cp0 1 (by decide)]; exact f5.1.1
    · exact KL_c C (fun j j0 j1 => cpi j j0 (by omega)) f5.1.2
    · show (S_X12_sentence_64 200 0 (zu r.2 2 473 (r.2 0 66))).2 2 473 = (C.length : Int)
      rw [k.2 473 (by omega), zu_at]; exact f4.1.1
    · refine CL_c C (fun j j0 j1 => ?_) f4.1.2
      show (S_X12_sentence_64 200 0 (zu r.2 2 473 (r.2 0 66))).2 2 (474 + j) = r.2 36 j
      exact k.1 j j0 (by rw [f4.1.1]; exact j1)
    · show vl ((S_X12_sentence_64 200 0 (zu r.2 2 473 (r.2 0 66))).2 2 1) C
      rw [k.2 1 (by omega), zu_off _ _ _ (by decide), e2]; exact f5.2.2
    · rw [cp0 0 (by decide)]; omega
    · rw [cp0 0 (by decide)]
      constructor
      · intro x; omega
      · intro x
        rw [x] at f6
        exact absurd f6 (by decide)
    · show (S_X12_sentence_64 200 0 (zu r.2 2 473 (r.2 0 66))).2 2 j = μ 2 j
      rw [k.2 j (by omega), zu_off _ _ _ (by omega), e2]
