/-! the class: the lines of a book -/
def CB (σ : zG) : Prop := 0 ≤ σ 35 0 ∧ σ 35 0 ≤ 60
theorem CB_row {σ τ : zG} (e : τ 35 = σ 35) (h : CB σ) : CB τ := by
  unfold CB at *
  rw [e]
  exact h
theorem CB_zu {σ : zG} {a : Nat} {i z : Int} (h : ¬ (a = 35 ∧ i = 0)) (hI : CB σ) : CB (zu σ a i z) := by
  have e : zu σ a i z 35 0 = σ 35 0 := by
    by_cases ha : 35 = a
    · subst ha
      exact zu_off _ _ _ (by omega)
    · exact zu_ne _ _ _ _ ha
  unfold CB at *
  rw [e]
  exact hI
theorem add_len (σ : zG) (a b c d e f : Int) : F_X0_add_35 σ a b c d e f 35 0 = if σ 35 0 < 60 then σ 35 0 + 1 else σ 35 0 := by
  unfold F_X0_add_35
  split
  · rw [zu_at]
  · rfl
theorem CB_F_X0_add_35 {σ : zG} {a b c d e f : Int} (h : CB σ) : CB (F_X0_add_35 σ a b c d e f) := by
  unfold CB at *
  rw [add_len]
  split <;> omega
theorem CI_F_X0_add_35 {σ : zG} {a b c d e f : Int} (h : CI σ) : CI (F_X0_add_35 σ a b c d e f) := CI_row (fr_F_X0_add_35 σ a b c d e f (by decide)) (fr_F_X0_add_35 σ a b c d e f (by decide)) h
theorem CB_F_X0_addDay_35 {σ : zG} {d : Int} (h : CB σ) : CB (F_X0_addDay_35 σ d) := by
  unfold F_X0_addDay_35
  exact CB_F_X0_add_35 (CB_zu (by decide) h)
theorem CI_F_X0_addDay_35 {σ : zG} {d : Int} (h : CI σ) : CI (F_X0_addDay_35 σ d) := CI_row (fr_F_X0_addDay_35 σ d (by decide)) (fr_F_X0_addDay_35 σ d (by decide)) h
theorem CB_F_X5_step {σ : zG} (h : CB σ) : CB (F_X5_step σ) := CB_row (fr_F_X5_step σ (by decide)) h

theorem CB_F_X5_stepSign {σ : zG} {c : Int} (h : CB σ) : CB (F_X5_stepSign σ c) := CB_row (fr_F_X5_stepSign σ c (by decide)) h

theorem CB_F_X5_stepNumber {σ : zG} {lo hi : Int} (h : CB σ) : CB (F_X5_stepNumber σ lo hi) := CB_row (fr_F_X5_stepNumber σ lo hi (by decide)) h

theorem CB_F_X5_stepName_6 {σ : zG} {mn : Int} (h : CB σ) : CB (F_X5_stepName_6 σ mn) := CB_row (fr_F_X5_stepName_6 σ mn (by decide)) h

theorem CB_F_X5_stepName_8 {σ : zG} {mn : Int} (h : CB σ) : CB (F_X5_stepName_8 σ mn) := CB_row (fr_F_X5_stepName_8 σ mn (by decide)) h

def V_X0_takeDay (σ : zG)  : Int := if (σ 35 0) < 60 then (if (σ 35 0) = 0 then (if (V_X5_stepNumber σ 0 999) = (-1) then 0 else (if (V_X5_stepSign (F_X5_stepNumber σ 0 999) 59) = 0 then 0 else 1)) else (if (V_X5_stepNumber σ (w32 ((σ 35 1) + 1)) 999) = (-1) then 0 else (if (V_X5_stepSign (F_X5_stepNumber σ (w32 ((σ 35 1) + 1)) 999) 59) = 0 then 0 else 1))) else 0
def F_X0_takeDay (σ : zG)  : zG := if (σ 35 0) < 60 then (if (σ 35 0) = 0 then (if (V_X5_stepNumber σ 0 999) = (-1) then (F_X5_stepNumber σ 0 999) else (if (V_X5_stepSign (F_X5_stepNumber σ 0 999) 59) = 0 then (F_X5_stepSign (F_X5_stepNumber σ 0 999) 59) else (F_X0_addDay_35 (F_X5_stepSign (F_X5_stepNumber σ 0 999) 59) (V_X5_stepNumber σ 0 999)))) else (if (V_X5_stepNumber σ (w32 ((σ 35 1) + 1)) 999) = (-1) then (F_X5_stepNumber σ (w32 ((σ 35 1) + 1)) 999) else (if (V_X5_stepSign (F_X5_stepNumber σ (w32 ((σ 35 1) + 1)) 999) 59) = 0 then (F_X5_stepSign (F_X5_stepNumber σ (w32 ((σ 35 1) + 1)) 999) 59) else (F_X0_addDay_35 (F_X5_stepSign (F_X5_stepNumber σ (w32 ((σ 35 1) + 1)) 999) 59) (V_X5_stepNumber σ (w32 ((σ 35 1) + 1)) 999))))) else (zu σ 3 7 4)
theorem fr_F_X0_takeDay (σ : zG)  {k : Nat} (h : k ∉ [3, 35, 36, 37, 38, 39, 40, 41, 42]) : (F_X0_takeDay σ ) k = σ k := by
  have ne : ∀ c ∈ [3, 35, 36, 37, 38, 39, 40, 41, 42], k ≠ c := fun c hc e => h (e ▸ hc)
  have nk_F_X5_stepNumber : k ∉ [3] := fun hm => h (by first | (revert hm; simp only [List.mem_cons, List.not_mem_nil, or_false]; omega) | (simp at hm))
  have nk_F_X5_stepSign : k ∉ [3] := fun hm => h (by first | (revert hm; simp only [List.mem_cons, List.not_mem_nil, or_false]; omega) | (simp at hm))
  have nk_F_X0_addDay_35 : k ∉ [35, 36, 37, 38, 39, 40, 41, 42] := fun hm => h (by first | (revert hm; simp only [List.mem_cons, List.not_mem_nil, or_false]; omega) | (simp at hm))
  unfold F_X0_takeDay
  repeat' split
  all_goals first | rfl | simp only [zu_row _ _ _ (ne 3 (by decide)), zu_row _ _ _ (ne 35 (by decide)), zu_row _ _ _ (ne 36 (by decide)), zu_row _ _ _ (ne 37 (by decide)), zu_row _ _ _ (ne 38 (by decide)), zu_row _ _ _ (ne 39 (by decide)), zu_row _ _ _ (ne 40 (by decide)), zu_row _ _ _ (ne 41 (by decide)), zu_row _ _ _ (ne 42 (by decide)), fr_F_X5_stepNumber (h := nk_F_X5_stepNumber), fr_F_X5_stepSign (h := nk_F_X5_stepSign), fr_F_X0_addDay_35 (h := nk_F_X0_addDay_35)]

set_option maxRecDepth 20000 in
theorem does_X0_takeDay (σ : zG)  (hI : CI σ) (hB : CB σ) : zDo SC 3 m_X0_takeDay [zP 35, zP 3] σ (zEq (some (.inl (V_X0_takeDay σ ))) (F_X0_takeDay σ )) := by
  refine zDo.intro mk_X0_takeDay (Nat.le_of_ble_eq_true rfl) ?_
  have hB0 := id hB
  unfold CB at hB0
  refine zRx.aload_n 0 rfl rfl dX0_takeDay_0 ?_
  refine zRx.getIv (a := 35) (ji := 0) (v := σ 35 0) rfl fl_0_33 rfl rfl rfl dX0_takeDay_1 ?_
  refine zRx.bipush ⟨by decide, by decide⟩ rfl dX0_takeDay_4 ?_
  refine zRx.icmp_lt (tgt := 15) dX0_takeDay_6 (by decide) (fun c6 => ?_) (fun c6 => ?_)
  · refine zRx.aload_n 1 rfl rfl dX0_takeDay_15 ?_
    refine zRx.aload_n 0 rfl rfl dX0_takeDay_16 ?_
    refine zRx.getIv (a := 35) (ji := 0) (v := σ 35 0) rfl fl_0_33 rfl rfl rfl dX0_takeDay_17 ?_
    refine zRx.if_ne (tgt := 27) dX0_takeDay_20 (by decide) (fun c20 => ?_) (fun c20 => ?_)
    · refine zRx.aload_n 0 rfl rfl dX0_takeDay_27 ?_
      refine zRx.getIv (a := 35) (ji := 1) (v := σ 35 1) rfl fl_0_37 rfl rfl rfl dX0_takeDay_28 ?_
      refine zRx.iconst ⟨by decide, by decide⟩ dX0_takeDay_31 ?_
      refine zRx.iaddW dX0_takeDay_32 ?_
      refine zRx.sipush ⟨by decide, by decide⟩ rfl dX0_takeDay_33 ?_
      refine zRx.cVi (w := .inl (V_X5_stepNumber σ (w32 ((σ 35 1) + 1)) 999)) (M := m_X5_stepNumber) (av := [.inl (w32 ((σ 35 1) + 1)), .inl 999]) cv_0_112 mk_X5_stepNumber (by decide) (b := 3) rfl rfl (Nat.le_of_ble_eq_true rfl) dX0_takeDay_36 (does_X5_stepNumber σ (w32 ((σ 35 1) + 1)) 999 hI) ?_
      refine zRx.istore_n (ls' := [(0, zP 35), (1, zP 3), (2, .inl (V_X5_stepNumber σ (w32 ((σ 35 1) + 1)) 999))]) rfl rfl (by decide) dX0_takeDay_39 ?_
      refine zRx.iload_n 2 rfl rfl dX0_takeDay_40 ?_
      refine zRx.iconst ⟨by decide, by decide⟩ dX0_takeDay_41 ?_
      refine zRx.icmp_eq (tgt := 54) dX0_takeDay_42 (by decide) (fun c42 => ?_) (fun c42 => ?_)
      · refine zRx.iconst ⟨by decide, by decide⟩ dX0_takeDay_54 ?_
        exact zR.zret rfl ⟨by decide, by decide⟩ dX0_takeDay_55 ⟨by unfold V_X0_takeDay; rw [if_pos c6, if_neg c20, if_pos c42], by unfold F_X0_takeDay; rw [if_pos c6, if_neg c20, if_pos c42]⟩
      · refine zRx.aload_n 1 rfl rfl dX0_takeDay_45 ?_
        refine zRx.bipush ⟨by decide, by decide⟩ rfl dX0_takeDay_46 ?_
        refine zRx.cVi (w := .inl (V_X5_stepSign (F_X5_stepNumber σ (w32 ((σ 35 1) + 1)) 999) 59)) (M := m_X5_stepSign) (av := [.inl 59]) cv_0_116 mk_X5_stepSign (by decide) (b := 3) rfl rfl (Nat.le_of_ble_eq_true rfl) dX0_takeDay_48 (does_X5_stepSign (F_X5_stepNumber σ (w32 ((σ 35 1) + 1)) 999) 59 (CI_F_X5_stepNumber hI)) ?_
        refine zRx.if_ne (tgt := 56) dX0_takeDay_51 (by decide) (fun c51 => ?_) (fun c51 => ?_)
        · refine zRx.aload_n 0 rfl rfl dX0_takeDay_56 ?_
          refine zRx.iload_n 2 rfl rfl dX0_takeDay_57 ?_
          refine zRx.cVv (M := m_X0_addDay) (av := [.inl (V_X5_stepNumber σ (w32 ((σ 35 1) + 1)) 999)]) cv_0_67 mk_X0_addDay (by decide) (b := 35) rfl rfl (Nat.le_of_ble_eq_true rfl) dX0_takeDay_58 (does_X0_addDay_35 (F_X5_stepSign (F_X5_stepNumber σ (w32 ((σ 35 1) + 1)) 999) 59) (V_X5_stepNumber σ (w32 ((σ 35 1) + 1)) 999) ((CB_F_X5_stepSign (CB_F_X5_stepNumber hB))).1) ?_
          refine zRx.iconst ⟨by decide, by decide⟩ dX0_takeDay_61 ?_
          exact zR.zret rfl ⟨by decide, by decide⟩ dX0_takeDay_62 ⟨by unfold V_X0_takeDay; rw [if_pos c6, if_neg c20, if_neg c42, if_neg c51], by unfold F_X0_takeDay; rw [if_pos c6, if_neg c20, if_neg c42, if_neg c51]⟩
        · refine zRx.iconst ⟨by decide, by decide⟩ dX0_takeDay_54 ?_
          exact zR.zret rfl ⟨by decide, by decide⟩ dX0_takeDay_55 ⟨by unfold V_X0_takeDay; rw [if_pos c6, if_neg c20, if_neg c42, if_pos c51], by unfold F_X0_takeDay; rw [if_pos c6, if_neg c20, if_neg c42, if_pos c51]⟩
    · refine zRx.iconst ⟨by decide, by decide⟩ dX0_takeDay_23 ?_
      refine zRx.goto (tgt := 33) dX0_takeDay_24 (by decide) ?_
      refine zRx.sipush ⟨by decide, by decide⟩ rfl dX0_takeDay_33 ?_
      refine zRx.cVi (w := .inl (V_X5_stepNumber σ 0 999)) (M := m_X5_stepNumber) (av := [.inl 0, .inl 999]) cv_0_112 mk_X5_stepNumber (by decide) (b := 3) rfl rfl (Nat.le_of_ble_eq_true rfl) dX0_takeDay_36 (does_X5_stepNumber σ 0 999 hI) ?_
      refine zRx.istore_n (ls' := [(0, zP 35), (1, zP 3), (2, .inl (V_X5_stepNumber σ 0 999))]) rfl rfl (by decide) dX0_takeDay_39 ?_
      refine zRx.iload_n 2 rfl rfl dX0_takeDay_40 ?_
      refine zRx.iconst ⟨by decide, by decide⟩ dX0_takeDay_41 ?_
      refine zRx.icmp_eq (tgt := 54) dX0_takeDay_42 (by decide) (fun c42 => ?_) (fun c42 => ?_)
      · refine zRx.iconst ⟨by decide, by decide⟩ dX0_takeDay_54 ?_
        exact zR.zret rfl ⟨by decide, by decide⟩ dX0_takeDay_55 ⟨by unfold V_X0_takeDay; rw [if_pos c6, if_pos c20, if_pos c42], by unfold F_X0_takeDay; rw [if_pos c6, if_pos c20, if_pos c42]⟩
      · refine zRx.aload_n 1 rfl rfl dX0_takeDay_45 ?_
        refine zRx.bipush ⟨by decide, by decide⟩ rfl dX0_takeDay_46 ?_
        refine zRx.cVi (w := .inl (V_X5_stepSign (F_X5_stepNumber σ 0 999) 59)) (M := m_X5_stepSign) (av := [.inl 59]) cv_0_116 mk_X5_stepSign (by decide) (b := 3) rfl rfl (Nat.le_of_ble_eq_true rfl) dX0_takeDay_48 (does_X5_stepSign (F_X5_stepNumber σ 0 999) 59 (CI_F_X5_stepNumber hI)) ?_
        refine zRx.if_ne (tgt := 56) dX0_takeDay_51 (by decide) (fun c51 => ?_) (fun c51 => ?_)
        · refine zRx.aload_n 0 rfl rfl dX0_takeDay_56 ?_
          refine zRx.iload_n 2 rfl rfl dX0_takeDay_57 ?_
          refine zRx.cVv (M := m_X0_addDay) (av := [.inl (V_X5_stepNumber σ 0 999)]) cv_0_67 mk_X0_addDay (by decide) (b := 35) rfl rfl (Nat.le_of_ble_eq_true rfl) dX0_takeDay_58 (does_X0_addDay_35 (F_X5_stepSign (F_X5_stepNumber σ 0 999) 59) (V_X5_stepNumber σ 0 999) ((CB_F_X5_stepSign (CB_F_X5_stepNumber hB))).1) ?_
          refine zRx.iconst ⟨by decide, by decide⟩ dX0_takeDay_61 ?_
          exact zR.zret rfl ⟨by decide, by decide⟩ dX0_takeDay_62 ⟨by unfold V_X0_takeDay; rw [if_pos c6, if_pos c20, if_neg c42, if_neg c51], by unfold F_X0_takeDay; rw [if_pos c6, if_pos c20, if_neg c42, if_neg c51]⟩
        · refine zRx.iconst ⟨by decide, by decide⟩ dX0_takeDay_54 ?_
          exact zR.zret rfl ⟨by decide, by decide⟩ dX0_takeDay_55 ⟨by unfold V_X0_takeDay; rw [if_pos c6, if_pos c20, if_neg c42, if_pos c51], by unfold F_X0_takeDay; rw [if_pos c6, if_pos c20, if_neg c42, if_pos c51]⟩
  · refine zRx.aload_n 1 rfl rfl dX0_takeDay_9 ?_
    refine zRx.iconst ⟨by decide, by decide⟩ dX0_takeDay_10 ?_
    refine zRx.cVi (w := .inl 0) (M := m_X5_refuse) (av := [.inl 4]) cv_0_94 mk_X5_refuse (by decide) (b := 3) rfl rfl (Nat.le_of_ble_eq_true rfl) dX0_takeDay_11 (refuse_eq σ 4) ?_
    exact zR.zret rfl ⟨by decide, by decide⟩ dX0_takeDay_14 ⟨by unfold V_X0_takeDay; rw [if_neg (Int.not_lt.mpr c6)], by unfold F_X0_takeDay; rw [if_neg (Int.not_lt.mpr c6)]⟩

theorem CI_F_X0_takeDay {σ : zG}  (hI : CI σ) : CI ((F_X0_takeDay σ )) := by
  unfold F_X0_takeDay
  repeat' split
  all_goals first | exact (CI_F_X5_stepNumber hI) | exact (CI_F_X5_stepSign (CI_F_X5_stepNumber hI)) | exact (CI_F_X0_addDay_35 (CI_F_X5_stepSign (CI_F_X5_stepNumber hI))) | exact (CI_zu (by decide) hI)

theorem CB_F_X0_takeDay {σ : zG}  (hB : CB σ) : CB (F_X0_takeDay σ ) := by
  unfold F_X0_takeDay
  repeat' split
  all_goals first | exact (CB_F_X5_stepNumber hB) | exact (CB_F_X5_stepSign (CB_F_X5_stepNumber hB)) | exact (CB_F_X0_addDay_35 (CB_F_X5_stepSign (CB_F_X5_stepNumber hB))) | exact (CB_zu (fun h => absurd h.1 (by decide)) hB)

def L_X0_takeWith_19 (on an f : Int) : Nat → Int → Int → Int → Int → zG → Int × zG
  | 0, _, _, _, _, σ => (0, σ)
  | n + 1, me, wi, tu, q, σ => if 8 < q then (0, zu σ 3 7 1) else (if (F_X5_step σ) 3 4 = 4 ∧ (F_X5_step σ) 3 6 = 59 then (1, F_X0_add_35 (F_X5_step σ) 1 on an f wi tu) else (if (V_X5_keyword (F_X5_step σ)) = 15 then (if (V_X5_stepName_6 (F_X5_step σ) (σ 5 0)) = (-1) then (0, F_X5_stepName_6 (F_X5_step σ) (σ 5 0)) else (if hb me (V_X5_stepName_6 (F_X5_step σ) (σ 5 0)) then (0, zu (F_X5_stepName_6 (F_X5_step σ) (σ 5 0)) 3 7 3) else (L_X0_takeWith_19 on an f n (bor me (bshl 1 (V_X5_stepName_6 (F_X5_step σ) (σ 5 0)))) (bor wi (bshl 1 (V_X5_stepName_6 (F_X5_step σ) (σ 5 0)))) (bor tu (bshl (V_X5_stepName_6 (F_X5_step σ) (σ 5 0)) (3 * q))) (q + 1) (F_X5_stepName_6 (F_X5_step σ) (σ 5 0))))) else (0, zu (F_X5_step σ) 3 7 1)))
theorem fr_L_X0_takeWith_19 (on an f : Int)  (n : Nat) (me wi tu q : Int) (σ : zG) {k : Nat} (h : k ∉ [3, 35, 36, 37, 38, 39, 40, 41, 42]) : (L_X0_takeWith_19 on an f n me wi tu q σ).2 k = σ k := by
  induction n generalizing me wi tu q σ with
  | zero => rfl
  | succ n ih =>
    have ne : ∀ c ∈ [3, 35, 36, 37, 38, 39, 40, 41, 42], k ≠ c := fun c hc e => h (e ▸ hc)
    have nk_F_X0_add_35 : k ∉ [35, 36, 37, 38, 39, 40, 41, 42] := fun hm => h (by first | (revert hm; simp only [List.mem_cons, List.not_mem_nil, or_false]; omega) | (simp at hm))
    have nk_F_X5_step : k ∉ [3] := fun hm => h (by first | (revert hm; simp only [List.mem_cons, List.not_mem_nil, or_false]; omega) | (simp at hm))
    have nk_F_X5_stepName_6 : k ∉ [3] := fun hm => h (by first | (revert hm; simp only [List.mem_cons, List.not_mem_nil, or_false]; omega) | (simp at hm))
    rw [L_X0_takeWith_19]
    repeat' split
    all_goals first | rfl | simp only [zu_row _ _ _ (ne 3 (by decide)), zu_row _ _ _ (ne 35 (by decide)), zu_row _ _ _ (ne 36 (by decide)), zu_row _ _ _ (ne 37 (by decide)), zu_row _ _ _ (ne 38 (by decide)), zu_row _ _ _ (ne 39 (by decide)), zu_row _ _ _ (ne 40 (by decide)), zu_row _ _ _ (ne 41 (by decide)), zu_row _ _ _ (ne 42 (by decide)), fr_F_X0_add_35 (h := nk_F_X0_add_35), fr_F_X5_step (h := nk_F_X5_step), fr_F_X5_stepName_6 (h := nk_F_X5_stepName_6), ih]

set_option maxRecDepth 20000 in
theorem loop_X0_takeWith_19 (on an f : Int)  : ∀ (n : Nat) (me wi tu q : Int) (σ : zG), 0 ≤ q → CI σ → CB σ → (9 - q).toNat < n → zR SC 3 m_X0_takeWith 19 [(0, zP 35), (1, zP 3), (2, zP 5), (3, .inl on), (4, .inl an), (5, .inl f), (6, .inl me), (7, .inl wi), (8, .inl tu), (9, .inl q)] [] σ (zEq (some (.inl (L_X0_takeWith_19 on an f n me wi tu q σ).1)) (L_X0_takeWith_19 on an f n me wi tu q σ).2) := by
  intro n
  induction n with
  | zero => intro me wi tu q σ h0 hI hB hmz; exact absurd hmz (Nat.not_lt_zero _)
  | succ n ih =>
    intro me wi tu q σ h0 hI hB hmz
    refine zRx.iload 9 rfl dX0_takeWith_19 ?_
    refine zRx.bipush ⟨by decide, by decide⟩ rfl dX0_takeWith_21 ?_
    refine zRx.icmp_gt (tgt := 144) dX0_takeWith_23 (by decide) (fun c23 => ?_) (fun c23 => ?_)
    · refine zRx.aload_n 1 rfl rfl dX0_takeWith_144 ?_
      refine zRx.iconst ⟨by decide, by decide⟩ dX0_takeWith_145 ?_
      refine zRx.cVi (w := .inl 0) (M := m_X5_refuse) (av := [.inl 1]) cv_0_94 mk_X5_refuse (by decide) (b := 3) rfl rfl (Nat.le_of_ble_eq_true rfl) dX0_takeWith_146 (refuse_eq σ 1) ?_
      exact zR.zret rfl ⟨by decide, by decide⟩ dX0_takeWith_149 (by have he : L_X0_takeWith_19 on an f (n + 1) me wi tu q σ = (0, zu σ 3 7 1) := (by rw [L_X0_takeWith_19, if_pos c23]); rw [he]; exact ⟨rfl, rfl⟩)
    · refine zRx.aload_n 1 rfl rfl dX0_takeWith_26 ?_
      refine zRx.cVv (M := m_X5_step) (av := []) cv_0_71 mk_X5_step (by decide) (b := 3) rfl rfl (Nat.le_of_ble_eq_true rfl) dX0_takeWith_27 (does_step2 σ hI) ?_
      refine zRx.aload_n 1 rfl rfl dX0_takeWith_30 ?_
      refine zRx.bipush ⟨by decide, by decide⟩ rfl dX0_takeWith_31 ?_
      refine zRx.cVi (w := .inl (b2 ((F_X5_step σ) 3 4 = 4 ∧ (F_X5_step σ) 3 6 = 59))) (M := m_X5_isSign) (av := [.inl 59]) cv_0_131 mk_X5_isSign (by decide) (b := 3) rfl rfl (Nat.le_of_ble_eq_true rfl) dX0_takeWith_33 (isSignC (F_X5_step σ) 59 ((F_X5_step σ) 3 4) ((F_X5_step σ) 3 6) rfl rfl) ?_
      refine zRx.if_eqB (tgt := 55) dX0_takeWith_36 (by decide) (fun c36 => ?_) (fun c36 => ?_)
      · refine zRx.aload_n 1 rfl rfl dX0_takeWith_55 ?_
        refine zRx.cVi (w := .inl (V_X5_keyword (F_X5_step σ))) (M := m_X5_keyword) (av := []) cv_0_82 mk_X5_keyword (by decide) (b := 3) rfl rfl (Nat.le_of_ble_eq_true rfl) dX0_takeWith_56 (does_X5_keyword (F_X5_step σ)) ?_
        refine zRx.bipush ⟨by decide, by decide⟩ rfl dX0_takeWith_59 ?_
        refine zRx.icmp_eq (tgt := 70) dX0_takeWith_61 (by decide) (fun c61 => ?_) (fun c61 => ?_)
        · refine zRx.aload_n 1 rfl rfl dX0_takeWith_70 ?_
          refine zRx.aload_n 2 rfl rfl dX0_takeWith_71 ?_
          refine zRx.getR (a := 5) (b := 6) fl_0_101 rfl rfl dX0_takeWith_72 ?_
          refine zRx.aload_n 2 rfl rfl dX0_takeWith_75 ?_
          refine zRx.getIv (a := 5) (ji := 0) (v := σ 5 0) (congrFun (fr_F_X5_step σ (k := 5) (by decide)) _) fl_0_59 rfl rfl rfl dX0_takeWith_76 ?_
          refine zRx.cVi (w := .inl (V_X5_stepName_6 (F_X5_step σ) (σ 5 0))) (M := m_X5_stepName) (av := [zP 6, .inl (σ 5 0)]) cv_0_120 mk_X5_stepName (by decide) (b := 3) rfl rfl (Nat.le_of_ble_eq_true rfl) dX0_takeWith_79 (does_X5_stepName_6 (F_X5_step σ) (σ 5 0) (CI_F_X5_step hI)) ?_
          refine zRx.istore (ls' := [(0, zP 35), (1, zP 3), (2, zP 5), (3, .inl on), (4, .inl an), (5, .inl f), (6, .inl me), (7, .inl wi), (8, .inl tu), (9, .inl q), (10, .inl (V_X5_stepName_6 (F_X5_step σ) (σ 5 0)))]) rfl (by decide) dX0_takeWith_82 ?_
          refine zRx.iload 10 rfl dX0_takeWith_84 ?_
          refine zRx.iconst ⟨by decide, by decide⟩ dX0_takeWith_86 ?_
          refine zRx.icmp_ne (tgt := 92) dX0_takeWith_87 (by decide) (fun c87 => ?_) (fun c87 => ?_)
          · refine zRx.iload 6 rfl dX0_takeWith_92 ?_
            refine zRx.iload 10 rfl dX0_takeWith_94 ?_
            refine zRx.cSi (w := .inl (b2 (hb me (V_X5_stepName_6 (F_X5_step σ) (σ 5 0))))) (M := m_X11_hasBit) (av := [.inl me, .inl (V_X5_stepName_6 (F_X5_step σ) (σ 5 0))]) cs_0_134 mk_X11_hasBit (by decide) rfl (Nat.le_of_ble_eq_true rfl) dX0_takeWith_96 (does_X11_hasBit me (V_X5_stepName_6 (F_X5_step σ) (σ 5 0)) SC (F_X5_stepName_6 (F_X5_step σ) (σ 5 0))) ?_
            refine zRx.if_eqB (tgt := 108) dX0_takeWith_99 (by decide) (fun c99 => ?_) (fun c99 => ?_)
            · refine zRx.iload 6 rfl dX0_takeWith_108 ?_
              refine zRx.iconst ⟨by decide, by decide⟩ dX0_takeWith_110 ?_
              refine zRx.iload 10 rfl dX0_takeWith_111 ?_
              refine zRx.ishl dX0_takeWith_113 ?_
              refine zRx.ior dX0_takeWith_114 ?_
              refine zRx.istore (ls' := [(0, zP 35), (1, zP 3), (2, zP 5), (3, .inl on), (4, .inl an), (5, .inl f), (6, .inl (bor me (bshl 1 (V_X5_stepName_6 (F_X5_step σ) (σ 5 0))))), (7, .inl wi), (8, .inl tu), (9, .inl q), (10, .inl (V_X5_stepName_6 (F_X5_step σ) (σ 5 0)))]) rfl (by decide) dX0_takeWith_115 ?_
              refine zRx.iload 7 rfl dX0_takeWith_117 ?_
              refine zRx.iconst ⟨by decide, by decide⟩ dX0_takeWith_119 ?_
              refine zRx.iload 10 rfl dX0_takeWith_120 ?_
              refine zRx.ishl dX0_takeWith_122 ?_
              refine zRx.ior dX0_takeWith_123 ?_
              refine zRx.istore (ls' := [(0, zP 35), (1, zP 3), (2, zP 5), (3, .inl on), (4, .inl an), (5, .inl f), (6, .inl (bor me (bshl 1 (V_X5_stepName_6 (F_X5_step σ) (σ 5 0))))), (7, .inl (bor wi (bshl 1 (V_X5_stepName_6 (F_X5_step σ) (σ 5 0))))), (8, .inl tu), (9, .inl q), (10, .inl (V_X5_stepName_6 (F_X5_step σ) (σ 5 0)))]) rfl (by decide) dX0_takeWith_124 ?_
              refine zRx.iload 8 rfl dX0_takeWith_126 ?_
              refine zRx.iload 10 rfl dX0_takeWith_128 ?_
              refine zRx.iconst ⟨by decide, by decide⟩ dX0_takeWith_130 ?_
              refine zRx.iload 9 rfl dX0_takeWith_131 ?_
              refine zRx.imul ⟨by omega, by omega⟩ dX0_takeWith_133 ?_
              refine zRx.ishl dX0_takeWith_134 ?_
              refine zRx.ior dX0_takeWith_135 ?_
              refine zRx.istore (ls' := [(0, zP 35), (1, zP 3), (2, zP 5), (3, .inl on), (4, .inl an), (5, .inl f), (6, .inl (bor me (bshl 1 (V_X5_stepName_6 (F_X5_step σ) (σ 5 0))))), (7, .inl (bor wi (bshl 1 (V_X5_stepName_6 (F_X5_step σ) (σ 5 0))))), (8, .inl (bor tu (bshl (V_X5_stepName_6 (F_X5_step σ) (σ 5 0)) (3 * q)))), (9, .inl q), (10, .inl (V_X5_stepName_6 (F_X5_step σ) (σ 5 0)))]) rfl (by decide) dX0_takeWith_136 ?_
              refine zRx.iinc (n := 1) (ls' := [(0, zP 35), (1, zP 3), (2, zP 5), (3, .inl on), (4, .inl an), (5, .inl f), (6, .inl (bor me (bshl 1 (V_X5_stepName_6 (F_X5_step σ) (σ 5 0))))), (7, .inl (bor wi (bshl 1 (V_X5_stepName_6 (F_X5_step σ) (σ 5 0))))), (8, .inl (bor tu (bshl (V_X5_stepName_6 (F_X5_step σ) (σ 5 0)) (3 * q)))), (9, .inl (q + 1)), (10, .inl (V_X5_stepName_6 (F_X5_step σ) (σ 5 0)))]) 9 rfl ⟨by omega, by omega⟩ rfl (by decide) dX0_takeWith_138 ?_
              refine zRx.goto (tgt := 19) dX0_takeWith_141 (by decide) ?_
              refine zRx.pick [0, 1, 2, 3, 4, 5, 6, 7, 8, 9] (ls' := [(0, zP 35), (1, zP 3), (2, zP 5), (3, .inl on), (4, .inl an), (5, .inl f), (6, .inl (bor me (bshl 1 (V_X5_stepName_6 (F_X5_step σ) (σ 5 0))))), (7, .inl (bor wi (bshl 1 (V_X5_stepName_6 (F_X5_step σ) (σ 5 0))))), (8, .inl (bor tu (bshl (V_X5_stepName_6 (F_X5_step σ) (σ 5 0)) (3 * q)))), (9, .inl (q + 1))]) rfl ?_
              have he : L_X0_takeWith_19 on an f (n + 1) me wi tu q σ = L_X0_takeWith_19 on an f n (bor me (bshl 1 (V_X5_stepName_6 (F_X5_step σ) (σ 5 0)))) (bor wi (bshl 1 (V_X5_stepName_6 (F_X5_step σ) (σ 5 0)))) (bor tu (bshl (V_X5_stepName_6 (F_X5_step σ) (σ 5 0)) (3 * q))) (q + 1) (F_X5_stepName_6 (F_X5_step σ) (σ 5 0)) := by rw [L_X0_takeWith_19, if_neg (Int.not_lt.mpr c23), if_neg c36, if_pos c61, if_neg c87, if_neg c99]
              rw [he]
              exact ih (bor me (bshl 1 (V_X5_stepName_6 (F_X5_step σ) (σ 5 0)))) (bor wi (bshl 1 (V_X5_stepName_6 (F_X5_step σ) (σ 5 0)))) (bor tu (bshl (V_X5_stepName_6 (F_X5_step σ) (σ 5 0)) (3 * q))) (q + 1) (F_X5_stepName_6 (F_X5_step σ) (σ 5 0)) (by omega) (CI_F_X5_stepName_6 (CI_F_X5_step hI)) (CB_F_X5_stepName_6 (CB_F_X5_step hB)) (by omega)
            · refine zRx.aload_n 1 rfl rfl dX0_takeWith_102 ?_
              refine zRx.iconst ⟨by decide, by decide⟩ dX0_takeWith_103 ?_
              refine zRx.cVi (w := .inl 0) (M := m_X5_refuse) (av := [.inl 3]) cv_0_94 mk_X5_refuse (by decide) (b := 3) rfl rfl (Nat.le_of_ble_eq_true rfl) dX0_takeWith_104 (refuse_eq (F_X5_stepName_6 (F_X5_step σ) (σ 5 0)) 3) ?_
              exact zR.zret rfl ⟨by decide, by decide⟩ dX0_takeWith_107 (by have he : L_X0_takeWith_19 on an f (n + 1) me wi tu q σ = (0, zu (F_X5_stepName_6 (F_X5_step σ) (σ 5 0)) 3 7 3) := (by rw [L_X0_takeWith_19, if_neg (Int.not_lt.mpr c23), if_neg c36, if_pos c61, if_neg c87, if_pos c99]); rw [he]; exact ⟨rfl, rfl⟩)
          · refine zRx.iconst ⟨by decide, by decide⟩ dX0_takeWith_90 ?_
            exact zR.zret rfl ⟨by decide, by decide⟩ dX0_takeWith_91 (by have he : L_X0_takeWith_19 on an f (n + 1) me wi tu q σ = (0, F_X5_stepName_6 (F_X5_step σ) (σ 5 0)) := (by rw [L_X0_takeWith_19, if_neg (Int.not_lt.mpr c23), if_neg c36, if_pos c61, if_pos c87]); rw [he]; exact ⟨rfl, rfl⟩)
        · refine zRx.aload_n 1 rfl rfl dX0_takeWith_64 ?_
          refine zRx.iconst ⟨by decide, by decide⟩ dX0_takeWith_65 ?_
          refine zRx.cVi (w := .inl 0) (M := m_X5_refuse) (av := [.inl 1]) cv_0_94 mk_X5_refuse (by decide) (b := 3) rfl rfl (Nat.le_of_ble_eq_true rfl) dX0_takeWith_66 (refuse_eq (F_X5_step σ) 1) ?_
          exact zR.zret rfl ⟨by decide, by decide⟩ dX0_takeWith_69 (by have he : L_X0_takeWith_19 on an f (n + 1) me wi tu q σ = (0, zu (F_X5_step σ) 3 7 1) := (by rw [L_X0_takeWith_19, if_neg (Int.not_lt.mpr c23), if_neg c36, if_neg c61]); rw [he]; exact ⟨rfl, rfl⟩)
      · refine zRx.aload_n 0 rfl rfl dX0_takeWith_39 ?_
        refine zRx.iconst ⟨by decide, by decide⟩ dX0_takeWith_40 ?_
        refine zRx.iload_n 3 rfl rfl dX0_takeWith_41 ?_
        refine zRx.iload 4 rfl dX0_takeWith_42 ?_
        refine zRx.iload 5 rfl dX0_takeWith_44 ?_
        refine zRx.iload 7 rfl dX0_takeWith_46 ?_
        refine zRx.iload 8 rfl dX0_takeWith_48 ?_
        refine zRx.cVv (M := m_X0_add) (av := [.inl 1, .inl on, .inl an, .inl f, .inl wi, .inl tu]) cv_0_46 mk_X0_add (by decide) (b := 35) rfl rfl (Nat.le_of_ble_eq_true rfl) dX0_takeWith_50 (does_X0_add_35 (F_X5_step σ) 1 on an f wi tu ((CB_F_X5_step hB)).1) ?_
        refine zRx.iconst ⟨by decide, by decide⟩ dX0_takeWith_53 ?_
        exact zR.zret rfl ⟨by decide, by decide⟩ dX0_takeWith_54 (by have he : L_X0_takeWith_19 on an f (n + 1) me wi tu q σ = (1, F_X0_add_35 (F_X5_step σ) 1 on an f wi tu) := (by rw [L_X0_takeWith_19, if_neg (Int.not_lt.mpr c23), if_pos c36]); rw [he]; exact ⟨rfl, rfl⟩)
def R_X0_takeWith (σ : zG) (on an f : Int) : Int × zG := L_X0_takeWith_19 on an f 20 (bor (bshl 1 on) (bshl 1 an)) 0 0 0 σ
theorem fr_R_X0_takeWith (σ : zG) (on an f : Int) {k : Nat} (h : k ∉ [3, 35, 36, 37, 38, 39, 40, 41, 42]) : (R_X0_takeWith σ on an f).2 k = σ k := by
  have ne : ∀ c ∈ [3, 35, 36, 37, 38, 39, 40, 41, 42], k ≠ c := fun c hc e => h (e ▸ hc)
  have nl_L_X0_takeWith_19 : k ∉ [3, 35, 36, 37, 38, 39, 40, 41, 42] := fun hm => h (by first | (revert hm; simp only [List.mem_cons, List.not_mem_nil, or_false]; omega) | (simp at hm))
  unfold R_X0_takeWith
  repeat' split
  all_goals first | rfl | simp only [zu_row _ _ _ (ne 3 (by decide)), zu_row _ _ _ (ne 35 (by decide)), zu_row _ _ _ (ne 36 (by decide)), zu_row _ _ _ (ne 37 (by decide)), zu_row _ _ _ (ne 38 (by decide)), zu_row _ _ _ (ne 39 (by decide)), zu_row _ _ _ (ne 40 (by decide)), zu_row _ _ _ (ne 41 (by decide)), zu_row _ _ _ (ne 42 (by decide)), fr_L_X0_takeWith_19 (h := nl_L_X0_takeWith_19)]

set_option maxRecDepth 20000 in
theorem does_X0_takeWith (σ : zG) (on an f : Int) (hI : CI σ) (hB : CB σ)  : zDo SC 3 m_X0_takeWith [zP 35, zP 3, zP 5, .inl on, .inl an, .inl f] σ (zEq (some (.inl (R_X0_takeWith σ on an f).1)) (R_X0_takeWith σ on an f).2) := by
  refine zDo.intro mk_X0_takeWith (Nat.le_of_ble_eq_true rfl) ?_
  refine zRx.iconst ⟨by decide, by decide⟩ dX0_takeWith_0 ?_
  refine zRx.iload_n 3 rfl rfl dX0_takeWith_1 ?_
  refine zRx.ishl dX0_takeWith_2 ?_
  refine zRx.iconst ⟨by decide, by decide⟩ dX0_takeWith_3 ?_
  refine zRx.iload 4 rfl dX0_takeWith_4 ?_
  refine zRx.ishl dX0_takeWith_6 ?_
  refine zRx.ior dX0_takeWith_7 ?_
  refine zRx.istore (ls' := [(0, zP 35), (1, zP 3), (2, zP 5), (3, .inl on), (4, .inl an), (5, .inl f), (6, .inl (bor (bshl 1 on) (bshl 1 an)))]) rfl (by decide) dX0_takeWith_8 ?_
  refine zRx.iconst ⟨by decide, by decide⟩ dX0_takeWith_10 ?_
  refine zRx.istore (ls' := [(0, zP 35), (1, zP 3), (2, zP 5), (3, .inl on), (4, .inl an), (5, .inl f), (6, .inl (bor (bshl 1 on) (bshl 1 an))), (7, .inl 0)]) rfl (by decide) dX0_takeWith_11 ?_
  refine zRx.iconst ⟨by decide, by decide⟩ dX0_takeWith_13 ?_
  refine zRx.istore (ls' := [(0, zP 35), (1, zP 3), (2, zP 5), (3, .inl on), (4, .inl an), (5, .inl f), (6, .inl (bor (bshl 1 on) (bshl 1 an))), (7, .inl 0), (8, .inl 0)]) rfl (by decide) dX0_takeWith_14 ?_
  refine zRx.iconst ⟨by decide, by decide⟩ dX0_takeWith_16 ?_
  refine zRx.istore (ls' := [(0, zP 35), (1, zP 3), (2, zP 5), (3, .inl on), (4, .inl an), (5, .inl f), (6, .inl (bor (bshl 1 on) (bshl 1 an))), (7, .inl 0), (8, .inl 0), (9, .inl 0)]) rfl (by decide) dX0_takeWith_17 ?_
  have he : R_X0_takeWith σ on an f = L_X0_takeWith_19 on an f 20 (bor (bshl 1 on) (bshl 1 an)) 0 0 0 σ := by rw [R_X0_takeWith]
  rw [he]
  exact loop_X0_takeWith_19 on an f   20 (bor (bshl 1 on) (bshl 1 an)) 0 0 0 σ (by omega) hI hB (by omega)

theorem withC_K (on an f : Int) : ∀ (n : Nat) (me wi tu q : Int) (σ : zG), CI σ → CB σ → (CI (L_X0_takeWith_19 on an f n me wi tu q σ).2 ∧ CB (L_X0_takeWith_19 on an f n me wi tu q σ).2) ∧ (0 ≤ (L_X0_takeWith_19 on an f n me wi tu q σ).1 ∧ (L_X0_takeWith_19 on an f n me wi tu q σ).1 ≤ 1)
  | 0, me, wi, tu, q, σ, hI, hB => ⟨⟨hI, hB⟩, (by decide : (0 : Int) ≤ 0 ∧ (0 : Int) ≤ 1)⟩
  | n + 1, me, wi, tu, q, σ, hI, hB => by
    have s1 := CI_F_X5_step hI
    have s2 := CB_F_X5_step hB
    have i1 : CI (F_X5_stepName_6 (F_X5_step σ) (σ 5 0)) := CI_F_X5_stepName_6 s1
    have i2 : CB (F_X5_stepName_6 (F_X5_step σ) (σ 5 0)) := CB_F_X5_stepName_6 s2
    rw [L_X0_takeWith_19]
    repeat' split
    all_goals first
      | exact withC_K on an f n _ _ _ _ _ i1 i2
      | exact ⟨⟨i1, i2⟩, (by decide : (0 : Int) ≤ 0 ∧ (0 : Int) ≤ 1)⟩
      | exact ⟨⟨CI_zu (by decide) i1, CB_zu (by decide) i2⟩, (by decide : (0 : Int) ≤ 0 ∧ (0 : Int) ≤ 1)⟩
      | exact ⟨⟨CI_zu (by decide) s1, CB_zu (by decide) s2⟩, (by decide : (0 : Int) ≤ 0 ∧ (0 : Int) ≤ 1)⟩
      | exact ⟨⟨CI_zu (by decide) hI, CB_zu (by decide) hB⟩, (by decide : (0 : Int) ≤ 0 ∧ (0 : Int) ≤ 1)⟩
      | exact ⟨⟨CI_F_X0_add_35 s1, CB_F_X0_add_35 s2⟩, (by decide : (0 : Int) ≤ 1 ∧ (1 : Int) ≤ 1)⟩
def V_X0_takeWith (σ : zG) (on an f : Int) : Int := (R_X0_takeWith σ on an f).1
def F_X0_takeWith (σ : zG) (on an f : Int) : zG := (R_X0_takeWith σ on an f).2
theorem does_withC (σ : zG) (on an f : Int) (hI : CI σ) (hB : CB σ) : zDo SC 3 m_X0_takeWith [zP 35, zP 3, zP 5, .inl on, .inl an, .inl f] σ (zEq (some (.inl (V_X0_takeWith σ on an f))) (F_X0_takeWith σ on an f)) := does_X0_takeWith σ on an f hI hB
theorem fr_F_X0_takeWith (σ : zG) (on an f : Int) {k : Nat} (h : k ∉ [3, 35, 36, 37, 38, 39, 40, 41, 42]) : F_X0_takeWith σ on an f k = σ k := fr_R_X0_takeWith σ on an f h
theorem withC_K2 {σ : zG} {on an f : Int} (hI : CI σ) (hB : CB σ) : CI (F_X0_takeWith σ on an f) ∧ CB (F_X0_takeWith σ on an f) := (withC_K on an f _ _ _ _ _ σ hI hB).1
theorem CI_F_X0_takeWith {σ : zG} {on an f : Int} (hI : CI σ) (hB : CB σ) : CI (F_X0_takeWith σ on an f) := (withC_K2 hI hB).1
theorem CB_F_X0_takeWith {σ : zG} {on an f : Int} (hI : CI σ) (hB : CB σ) : CB (F_X0_takeWith σ on an f) := (withC_K2 hI hB).2
theorem withC_01 (on an f : Int) : ∀ (n : Nat) (me wi tu q : Int) (σ : zG), 0 ≤ (L_X0_takeWith_19 on an f n me wi tu q σ).1 ∧ (L_X0_takeWith_19 on an f n me wi tu q σ).1 ≤ 1
  | 0, me, wi, tu, q, σ => (by decide : (0 : Int) ≤ 0 ∧ (0 : Int) ≤ 1)
  | n + 1, me, wi, tu, q, σ => by
    rw [L_X0_takeWith_19]
    repeat' split
    all_goals first
      | exact withC_01 on an f n _ _ _ _ _
      | exact (by decide : (0 : Int) ≤ 0 ∧ (0 : Int) ≤ 1)
      | exact (by decide : (0 : Int) ≤ 1 ∧ (1 : Int) ≤ 1)
theorem v01_X0_takeWith (σ : zG) (on an f : Int) : 0 ≤ V_X0_takeWith σ on an f ∧ V_X0_takeWith σ on an f ≤ 1 := withC_01 on an f _ _ _ _ _ σ

def V_X0_takeDeed (σ : zG) (on : Int) : Int := if (V_X5_keyword (F_X5_step σ)) < 11 then 0 else (if (V_X5_keyword (F_X5_step σ)) ≤ 14 then (if (V_X5_stepName_6 (F_X5_step σ) (σ 5 0)) = (-1) then 0 else (if (V_X5_stepName_6 (F_X5_step σ) (σ 5 0)) = on then 0 else (if (V_X5_stepName_8 (F_X5_stepName_6 (F_X5_step σ) (σ 5 0)) (σ 5 1)) = (-1) then 0 else (if (V_X5_keyword (F_X5_step σ)) = 11 then (V_X0_takeWith (F_X5_stepName_8 (F_X5_stepName_6 (F_X5_step σ) (σ 5 0)) (σ 5 1)) on (V_X5_stepName_6 (F_X5_step σ) (σ 5 0)) (V_X5_stepName_8 (F_X5_stepName_6 (F_X5_step σ) (σ 5 0)) (σ 5 1))) else (if (V_X5_keyword (F_X5_step σ)) = 14 then (if (V_X5_stepNumber (F_X5_stepName_8 (F_X5_stepName_6 (F_X5_step σ) (σ 5 0)) (σ 5 1)) 0 99) = (-1) then 0 else (if (V_X5_stepSign (F_X5_stepNumber (F_X5_stepName_8 (F_X5_stepName_6 (F_X5_step σ) (σ 5 0)) (σ 5 1)) 0 99) 59) = 0 then 0 else 1)) else (if (V_X5_stepSign (F_X5_stepName_8 (F_X5_stepName_6 (F_X5_step σ) (σ 5 0)) (σ 5 1)) 59) = 0 then 0 else 1)))))) else 0)
def F_X0_takeDeed (σ : zG) (on : Int) : zG := if (V_X5_keyword (F_X5_step σ)) < 11 then (zu (F_X5_step σ) 3 7 1) else (if (V_X5_keyword (F_X5_step σ)) ≤ 14 then (if (V_X5_stepName_6 (F_X5_step σ) (σ 5 0)) = (-1) then (F_X5_stepName_6 (F_X5_step σ) (σ 5 0)) else (if (V_X5_stepName_6 (F_X5_step σ) (σ 5 0)) = on then (zu (F_X5_stepName_6 (F_X5_step σ) (σ 5 0)) 3 7 3) else (if (V_X5_stepName_8 (F_X5_stepName_6 (F_X5_step σ) (σ 5 0)) (σ 5 1)) = (-1) then (F_X5_stepName_8 (F_X5_stepName_6 (F_X5_step σ) (σ 5 0)) (σ 5 1)) else (if (V_X5_keyword (F_X5_step σ)) = 11 then (F_X0_takeWith (F_X5_stepName_8 (F_X5_stepName_6 (F_X5_step σ) (σ 5 0)) (σ 5 1)) on (V_X5_stepName_6 (F_X5_step σ) (σ 5 0)) (V_X5_stepName_8 (F_X5_stepName_6 (F_X5_step σ) (σ 5 0)) (σ 5 1))) else (if (V_X5_keyword (F_X5_step σ)) = 14 then (if (V_X5_stepNumber (F_X5_stepName_8 (F_X5_stepName_6 (F_X5_step σ) (σ 5 0)) (σ 5 1)) 0 99) = (-1) then (F_X5_stepNumber (F_X5_stepName_8 (F_X5_stepName_6 (F_X5_step σ) (σ 5 0)) (σ 5 1)) 0 99) else (if (V_X5_stepSign (F_X5_stepNumber (F_X5_stepName_8 (F_X5_stepName_6 (F_X5_step σ) (σ 5 0)) (σ 5 1)) 0 99) 59) = 0 then (F_X5_stepSign (F_X5_stepNumber (F_X5_stepName_8 (F_X5_stepName_6 (F_X5_step σ) (σ 5 0)) (σ 5 1)) 0 99) 59) else (F_X0_add_35 (F_X5_stepSign (F_X5_stepNumber (F_X5_stepName_8 (F_X5_stepName_6 (F_X5_step σ) (σ 5 0)) (σ 5 1)) 0 99) 59) ((V_X5_keyword (F_X5_step σ)) - 10) on (V_X5_stepName_6 (F_X5_step σ) (σ 5 0)) (V_X5_stepName_8 (F_X5_stepName_6 (F_X5_step σ) (σ 5 0)) (σ 5 1)) (V_X5_stepNumber (F_X5_stepName_8 (F_X5_stepName_6 (F_X5_step σ) (σ 5 0)) (σ 5 1)) 0 99) 0))) else (if (V_X5_stepSign (F_X5_stepName_8 (F_X5_stepName_6 (F_X5_step σ) (σ 5 0)) (σ 5 1)) 59) = 0 then (F_X5_stepSign (F_X5_stepName_8 (F_X5_stepName_6 (F_X5_step σ) (σ 5 0)) (σ 5 1)) 59) else (F_X0_add_35 (F_X5_stepSign (F_X5_stepName_8 (F_X5_stepName_6 (F_X5_step σ) (σ 5 0)) (σ 5 1)) 59) ((V_X5_keyword (F_X5_step σ)) - 10) on (V_X5_stepName_6 (F_X5_step σ) (σ 5 0)) (V_X5_stepName_8 (F_X5_stepName_6 (F_X5_step σ) (σ 5 0)) (σ 5 1)) 0 0))))))) else (zu (F_X5_step σ) 3 7 1))
theorem fr_F_X0_takeDeed (σ : zG) (on : Int) {k : Nat} (h : k ∉ [3, 35, 36, 37, 38, 39, 40, 41, 42]) : (F_X0_takeDeed σ on) k = σ k := by
  have ne : ∀ c ∈ [3, 35, 36, 37, 38, 39, 40, 41, 42], k ≠ c := fun c hc e => h (e ▸ hc)
  have nk_F_X5_step : k ∉ [3] := fun hm => h (by first | (revert hm; simp only [List.mem_cons, List.not_mem_nil, or_false]; omega) | (simp at hm))
  have nk_F_X5_stepName_6 : k ∉ [3] := fun hm => h (by first | (revert hm; simp only [List.mem_cons, List.not_mem_nil, or_false]; omega) | (simp at hm))
  have nk_F_X5_stepName_8 : k ∉ [3] := fun hm => h (by first | (revert hm; simp only [List.mem_cons, List.not_mem_nil, or_false]; omega) | (simp at hm))
  have nk_F_X0_takeWith : k ∉ [3, 35, 36, 37, 38, 39, 40, 41, 42] := fun hm => h (by first | (revert hm; simp only [List.mem_cons, List.not_mem_nil, or_false]; omega) | (simp at hm))
  have nk_F_X5_stepNumber : k ∉ [3] := fun hm => h (by first | (revert hm; simp only [List.mem_cons, List.not_mem_nil, or_false]; omega) | (simp at hm))
  have nk_F_X5_stepSign : k ∉ [3] := fun hm => h (by first | (revert hm; simp only [List.mem_cons, List.not_mem_nil, or_false]; omega) | (simp at hm))
  have nk_F_X0_add_35 : k ∉ [35, 36, 37, 38, 39, 40, 41, 42] := fun hm => h (by first | (revert hm; simp only [List.mem_cons, List.not_mem_nil, or_false]; omega) | (simp at hm))
  unfold F_X0_takeDeed
  repeat' split
  all_goals first | rfl | simp only [zu_row _ _ _ (ne 3 (by decide)), zu_row _ _ _ (ne 35 (by decide)), zu_row _ _ _ (ne 36 (by decide)), zu_row _ _ _ (ne 37 (by decide)), zu_row _ _ _ (ne 38 (by decide)), zu_row _ _ _ (ne 39 (by decide)), zu_row _ _ _ (ne 40 (by decide)), zu_row _ _ _ (ne 41 (by decide)), zu_row _ _ _ (ne 42 (by decide)), fr_F_X5_step (h := nk_F_X5_step), fr_F_X5_stepName_6 (h := nk_F_X5_stepName_6), fr_F_X5_stepName_8 (h := nk_F_X5_stepName_8), fr_F_X0_takeWith (h := nk_F_X0_takeWith), fr_F_X5_stepNumber (h := nk_F_X5_stepNumber), fr_F_X5_stepSign (h := nk_F_X5_stepSign), fr_F_X0_add_35 (h := nk_F_X0_add_35)]

set_option maxRecDepth 20000 in
theorem does_X0_takeDeed (σ : zG) (on : Int) (hI : CI σ) (hB : CB σ) : zDo SC 4 m_X0_takeDeed [zP 35, zP 3, zP 5, .inl on] σ (zEq (some (.inl (V_X0_takeDeed σ on))) (F_X0_takeDeed σ on)) := by
  refine zDo.intro mk_X0_takeDeed (Nat.le_of_ble_eq_true rfl) ?_
  refine zRx.aload_n 1 rfl rfl dX0_takeDeed_0 ?_
  refine zRx.cVv (M := m_X5_step) (av := []) cv_0_71 mk_X5_step (by decide) (b := 3) rfl rfl (Nat.le_of_ble_eq_true rfl) dX0_takeDeed_1 (does_step2 σ hI) ?_
  refine zRx.aload_n 1 rfl rfl dX0_takeDeed_4 ?_
  refine zRx.cVi (w := .inl (V_X5_keyword (F_X5_step σ))) (M := m_X5_keyword) (av := []) cv_0_82 mk_X5_keyword (by decide) (b := 3) rfl rfl (Nat.le_of_ble_eq_true rfl) dX0_takeDeed_5 (does_X5_keyword (F_X5_step σ)) ?_
  have hk := keyword_r (F_X5_step σ)
  refine zRx.istore (ls' := [(0, zP 35), (1, zP 3), (2, zP 5), (3, .inl on), (4, .inl (V_X5_keyword (F_X5_step σ)))]) rfl (by decide) dX0_takeDeed_8 ?_
  refine zRx.iload 4 rfl dX0_takeDeed_10 ?_
  refine zRx.bipush ⟨by decide, by decide⟩ rfl dX0_takeDeed_12 ?_
  refine zRx.icmp_lt (tgt := 24) dX0_takeDeed_14 (by decide) (fun c14 => ?_) (fun c14 => ?_)
  · refine zRx.aload_n 1 rfl rfl dX0_takeDeed_24 ?_
    refine zRx.iconst ⟨by decide, by decide⟩ dX0_takeDeed_25 ?_
    refine zRx.cVi (w := .inl 0) (M := m_X5_refuse) (av := [.inl 1]) cv_0_94 mk_X5_refuse (by decide) (b := 3) rfl rfl (Nat.le_of_ble_eq_true rfl) dX0_takeDeed_26 (refuse_eq (F_X5_step σ) 1) ?_
    exact zR.zret rfl ⟨by decide, by decide⟩ dX0_takeDeed_29 ⟨by unfold V_X0_takeDeed; rw [if_pos c14], by unfold F_X0_takeDeed; rw [if_pos c14]⟩
  · refine zRx.iload 4 rfl dX0_takeDeed_17 ?_
    refine zRx.bipush ⟨by decide, by decide⟩ rfl dX0_takeDeed_19 ?_
    refine zRx.icmp_le (tgt := 30) dX0_takeDeed_21 (by decide) (fun c21 => ?_) (fun c21 => ?_)
    · refine zRx.aload_n 1 rfl rfl dX0_takeDeed_30 ?_
      refine zRx.aload_n 2 rfl rfl dX0_takeDeed_31 ?_
      refine zRx.getR (a := 5) (b := 6) fl_0_101 rfl rfl dX0_takeDeed_32 ?_
      refine zRx.aload_n 2 rfl rfl dX0_takeDeed_35 ?_
      refine zRx.getIv (a := 5) (ji := 0) (v := σ 5 0) (congrFun (fr_F_X5_step σ (k := 5) (by decide)) _) fl_0_59 rfl rfl rfl dX0_takeDeed_36 ?_
      refine zRx.cVi (w := .inl (V_X5_stepName_6 (F_X5_step σ) (σ 5 0))) (M := m_X5_stepName) (av := [zP 6, .inl (σ 5 0)]) cv_0_120 mk_X5_stepName (by decide) (b := 3) rfl rfl (Nat.le_of_ble_eq_true rfl) dX0_takeDeed_39 (does_X5_stepName_6 (F_X5_step σ) (σ 5 0) (CI_F_X5_step hI)) ?_
      refine zRx.istore (ls' := [(0, zP 35), (1, zP 3), (2, zP 5), (3, .inl on), (4, .inl (V_X5_keyword (F_X5_step σ))), (5, .inl (V_X5_stepName_6 (F_X5_step σ) (σ 5 0)))]) rfl (by decide) dX0_takeDeed_42 ?_
      refine zRx.iload 5 rfl dX0_takeDeed_44 ?_
      refine zRx.iconst ⟨by decide, by decide⟩ dX0_takeDeed_46 ?_
      refine zRx.icmp_ne (tgt := 52) dX0_takeDeed_47 (by decide) (fun c47 => ?_) (fun c47 => ?_)
      · refine zRx.iload 5 rfl dX0_takeDeed_52 ?_
        refine zRx.iload_n 3 rfl rfl dX0_takeDeed_54 ?_
        refine zRx.icmp_ne (tgt := 64) dX0_takeDeed_55 (by decide) (fun c55 => ?_) (fun c55 => ?_)
        · refine zRx.aload_n 1 rfl rfl dX0_takeDeed_64 ?_
          refine zRx.aload_n 2 rfl rfl dX0_takeDeed_65 ?_
          refine zRx.getR (a := 5) (b := 8) fl_0_124 rfl rfl dX0_takeDeed_66 ?_
          refine zRx.aload_n 2 rfl rfl dX0_takeDeed_69 ?_
          refine zRx.getIv (a := 5) (ji := 1) (v := σ 5 1) ((congrFun (fr_F_X5_stepName_6 (F_X5_step σ) (σ 5 0) (k := 5) (by decide)) _).trans (congrFun (fr_F_X5_step σ (k := 5) (by decide)) _)) fl_0_64 rfl rfl rfl dX0_takeDeed_70 ?_
          refine zRx.cVi (w := .inl (V_X5_stepName_8 (F_X5_stepName_6 (F_X5_step σ) (σ 5 0)) (σ 5 1))) (M := m_X5_stepName) (av := [zP 8, .inl (σ 5 1)]) cv_0_120 mk_X5_stepName (by decide) (b := 3) rfl rfl (Nat.le_of_ble_eq_true rfl) dX0_takeDeed_73 (does_X5_stepName_8 (F_X5_stepName_6 (F_X5_step σ) (σ 5 0)) (σ 5 1) (CI_F_X5_stepName_6 (CI_F_X5_step hI))) ?_
          refine zRx.istore (ls' := [(0, zP 35), (1, zP 3), (2, zP 5), (3, .inl on), (4, .inl (V_X5_keyword (F_X5_step σ))), (5, .inl (V_X5_stepName_6 (F_X5_step σ) (σ 5 0))), (6, .inl (V_X5_stepName_8 (F_X5_stepName_6 (F_X5_step σ) (σ 5 0)) (σ 5 1)))]) rfl (by decide) dX0_takeDeed_76 ?_
          refine zRx.iload 6 rfl dX0_takeDeed_78 ?_
          refine zRx.iconst ⟨by decide, by decide⟩ dX0_takeDeed_80 ?_
          refine zRx.icmp_ne (tgt := 86) dX0_takeDeed_81 (by decide) (fun c81 => ?_) (fun c81 => ?_)
          · refine zRx.iload 4 rfl dX0_takeDeed_86 ?_
            refine zRx.bipush ⟨by decide, by decide⟩ rfl dX0_takeDeed_88 ?_
            refine zRx.icmp_ne (tgt := 105) dX0_takeDeed_90 (by decide) (fun c90 => ?_) (fun c90 => ?_)
            · refine zRx.iload 4 rfl dX0_takeDeed_105 ?_
              refine zRx.bipush ⟨by decide, by decide⟩ rfl dX0_takeDeed_107 ?_
              refine zRx.icmp_ne (tgt := 122) dX0_takeDeed_109 (by decide) (fun c109 => ?_) (fun c109 => ?_)
              · refine zRx.iconst ⟨by decide, by decide⟩ dX0_takeDeed_122 ?_
                refine zRx.istore (ls' := [(0, zP 35), (1, zP 3), (2, zP 5), (3, .inl on), (4, .inl (V_X5_keyword (F_X5_step σ))), (5, .inl (V_X5_stepName_6 (F_X5_step σ) (σ 5 0))), (6, .inl (V_X5_stepName_8 (F_X5_stepName_6 (F_X5_step σ) (σ 5 0)) (σ 5 1))), (7, .inl 0)]) rfl (by decide) dX0_takeDeed_123 ?_
                refine zRx.iload 7 rfl dX0_takeDeed_125 ?_
                refine zRx.iconst ⟨by decide, by decide⟩ dX0_takeDeed_127 ?_
                refine zRx.icmp_eq (tgt := 140) dX0_takeDeed_128 (by decide) (fun c128 => absurd c128 (by decide)) (fun _ => ?_)
                refine zRx.aload_n 1 rfl rfl dX0_takeDeed_131 ?_
                refine zRx.bipush ⟨by decide, by decide⟩ rfl dX0_takeDeed_132 ?_
                refine zRx.cVi (w := .inl (V_X5_stepSign (F_X5_stepName_8 (F_X5_stepName_6 (F_X5_step σ) (σ 5 0)) (σ 5 1)) 59)) (M := m_X5_stepSign) (av := [.inl 59]) cv_0_116 mk_X5_stepSign (by decide) (b := 3) rfl rfl (Nat.le_of_ble_eq_true rfl) dX0_takeDeed_134 (does_X5_stepSign (F_X5_stepName_8 (F_X5_stepName_6 (F_X5_step σ) (σ 5 0)) (σ 5 1)) 59 (CI_F_X5_stepName_8 (CI_F_X5_stepName_6 (CI_F_X5_step hI)))) ?_
                refine zRx.if_ne (tgt := 142) dX0_takeDeed_137 (by decide) (fun c137 => ?_) (fun c137 => ?_)
                · refine zRx.aload_n 0 rfl rfl dX0_takeDeed_142 ?_
                  refine zRx.iload 4 rfl dX0_takeDeed_143 ?_
                  refine zRx.bipush ⟨by decide, by decide⟩ rfl dX0_takeDeed_145 ?_
                  refine zRx.isub ⟨by omega, by omega⟩ dX0_takeDeed_147 ?_
                  refine zRx.iload_n 3 rfl rfl dX0_takeDeed_148 ?_
                  refine zRx.iload 5 rfl dX0_takeDeed_149 ?_
                  refine zRx.iload 6 rfl dX0_takeDeed_151 ?_
                  refine zRx.iload 7 rfl dX0_takeDeed_153 ?_
                  refine zRx.iconst ⟨by decide, by decide⟩ dX0_takeDeed_155 ?_
                  refine zRx.cVv (M := m_X0_add) (av := [.inl ((V_X5_keyword (F_X5_step σ)) - 10), .inl on, .inl (V_X5_stepName_6 (F_X5_step σ) (σ 5 0)), .inl (V_X5_stepName_8 (F_X5_stepName_6 (F_X5_step σ) (σ 5 0)) (σ 5 1)), .inl 0, .inl 0]) cv_0_46 mk_X0_add (by decide) (b := 35) rfl rfl (Nat.le_of_ble_eq_true rfl) dX0_takeDeed_156 (does_X0_add_35 (F_X5_stepSign (F_X5_stepName_8 (F_X5_stepName_6 (F_X5_step σ) (σ 5 0)) (σ 5 1)) 59) ((V_X5_keyword (F_X5_step σ)) - 10) on (V_X5_stepName_6 (F_X5_step σ) (σ 5 0)) (V_X5_stepName_8 (F_X5_stepName_6 (F_X5_step σ) (σ 5 0)) (σ 5 1)) 0 0 ((CB_F_X5_stepSign (CB_F_X5_stepName_8 (CB_F_X5_stepName_6 (CB_F_X5_step hB))))).1) ?_
                  refine zRx.iconst ⟨by decide, by decide⟩ dX0_takeDeed_159 ?_
                  exact zR.zret rfl ⟨by decide, by decide⟩ dX0_takeDeed_160 ⟨by unfold V_X0_takeDeed; rw [if_neg (Int.not_lt.mpr c14), if_pos c21, if_neg c47, if_neg c55, if_neg c81, if_neg c90, if_neg c109, if_neg c137], by unfold F_X0_takeDeed; rw [if_neg (Int.not_lt.mpr c14), if_pos c21, if_neg c47, if_neg c55, if_neg c81, if_neg c90, if_neg c109, if_neg c137]⟩
                · refine zRx.iconst ⟨by decide, by decide⟩ dX0_takeDeed_140 ?_
                  exact zR.zret rfl ⟨by decide, by decide⟩ dX0_takeDeed_141 ⟨by unfold V_X0_takeDeed; rw [if_neg (Int.not_lt.mpr c14), if_pos c21, if_neg c47, if_neg c55, if_neg c81, if_neg c90, if_neg c109, if_pos c137], by unfold F_X0_takeDeed; rw [if_neg (Int.not_lt.mpr c14), if_pos c21, if_neg c47, if_neg c55, if_neg c81, if_neg c90, if_neg c109, if_pos c137]⟩
              · refine zRx.aload_n 1 rfl rfl dX0_takeDeed_112 ?_
                refine zRx.iconst ⟨by decide, by decide⟩ dX0_takeDeed_113 ?_
                refine zRx.bipush ⟨by decide, by decide⟩ rfl dX0_takeDeed_114 ?_
                refine zRx.cVi (w := .inl (V_X5_stepNumber (F_X5_stepName_8 (F_X5_stepName_6 (F_X5_step σ) (σ 5 0)) (σ 5 1)) 0 99)) (M := m_X5_stepNumber) (av := [.inl 0, .inl 99]) cv_0_112 mk_X5_stepNumber (by decide) (b := 3) rfl rfl (Nat.le_of_ble_eq_true rfl) dX0_takeDeed_116 (does_X5_stepNumber (F_X5_stepName_8 (F_X5_stepName_6 (F_X5_step σ) (σ 5 0)) (σ 5 1)) 0 99 (CI_F_X5_stepName_8 (CI_F_X5_stepName_6 (CI_F_X5_step hI)))) ?_
                refine zRx.goto (tgt := 123) dX0_takeDeed_119 (by decide) ?_
                refine zRx.istore (ls' := [(0, zP 35), (1, zP 3), (2, zP 5), (3, .inl on), (4, .inl (V_X5_keyword (F_X5_step σ))), (5, .inl (V_X5_stepName_6 (F_X5_step σ) (σ 5 0))), (6, .inl (V_X5_stepName_8 (F_X5_stepName_6 (F_X5_step σ) (σ 5 0)) (σ 5 1))), (7, .inl (V_X5_stepNumber (F_X5_stepName_8 (F_X5_stepName_6 (F_X5_step σ) (σ 5 0)) (σ 5 1)) 0 99))]) rfl (by decide) dX0_takeDeed_123 ?_
                refine zRx.iload 7 rfl dX0_takeDeed_125 ?_
                refine zRx.iconst ⟨by decide, by decide⟩ dX0_takeDeed_127 ?_
                refine zRx.icmp_eq (tgt := 140) dX0_takeDeed_128 (by decide) (fun c128 => ?_) (fun c128 => ?_)
                · refine zRx.iconst ⟨by decide, by decide⟩ dX0_takeDeed_140 ?_
                  exact zR.zret rfl ⟨by decide, by decide⟩ dX0_takeDeed_141 ⟨by unfold V_X0_takeDeed; rw [if_neg (Int.not_lt.mpr c14), if_pos c21, if_neg c47, if_neg c55, if_neg c81, if_neg c90, if_pos c109, if_pos c128], by unfold F_X0_takeDeed; rw [if_neg (Int.not_lt.mpr c14), if_pos c21, if_neg c47, if_neg c55, if_neg c81, if_neg c90, if_pos c109, if_pos c128]⟩
                · refine zRx.aload_n 1 rfl rfl dX0_takeDeed_131 ?_
                  refine zRx.bipush ⟨by decide, by decide⟩ rfl dX0_takeDeed_132 ?_
                  refine zRx.cVi (w := .inl (V_X5_stepSign (F_X5_stepNumber (F_X5_stepName_8 (F_X5_stepName_6 (F_X5_step σ) (σ 5 0)) (σ 5 1)) 0 99) 59)) (M := m_X5_stepSign) (av := [.inl 59]) cv_0_116 mk_X5_stepSign (by decide) (b := 3) rfl rfl (Nat.le_of_ble_eq_true rfl) dX0_takeDeed_134 (does_X5_stepSign (F_X5_stepNumber (F_X5_stepName_8 (F_X5_stepName_6 (F_X5_step σ) (σ 5 0)) (σ 5 1)) 0 99) 59 (CI_F_X5_stepNumber (CI_F_X5_stepName_8 (CI_F_X5_stepName_6 (CI_F_X5_step hI))))) ?_
                  refine zRx.if_ne (tgt := 142) dX0_takeDeed_137 (by decide) (fun c137 => ?_) (fun c137 => ?_)
                  · refine zRx.aload_n 0 rfl rfl dX0_takeDeed_142 ?_
                    refine zRx.iload 4 rfl dX0_takeDeed_143 ?_
                    refine zRx.bipush ⟨by decide, by decide⟩ rfl dX0_takeDeed_145 ?_
                    refine zRx.isub ⟨by omega, by omega⟩ dX0_takeDeed_147 ?_
                    refine zRx.iload_n 3 rfl rfl dX0_takeDeed_148 ?_
                    refine zRx.iload 5 rfl dX0_takeDeed_149 ?_
                    refine zRx.iload 6 rfl dX0_takeDeed_151 ?_
                    refine zRx.iload 7 rfl dX0_takeDeed_153 ?_
                    refine zRx.iconst ⟨by decide, by decide⟩ dX0_takeDeed_155 ?_
                    refine zRx.cVv (M := m_X0_add) (av := [.inl ((V_X5_keyword (F_X5_step σ)) - 10), .inl on, .inl (V_X5_stepName_6 (F_X5_step σ) (σ 5 0)), .inl (V_X5_stepName_8 (F_X5_stepName_6 (F_X5_step σ) (σ 5 0)) (σ 5 1)), .inl (V_X5_stepNumber (F_X5_stepName_8 (F_X5_stepName_6 (F_X5_step σ) (σ 5 0)) (σ 5 1)) 0 99), .inl 0]) cv_0_46 mk_X0_add (by decide) (b := 35) rfl rfl (Nat.le_of_ble_eq_true rfl) dX0_takeDeed_156 (does_X0_add_35 (F_X5_stepSign (F_X5_stepNumber (F_X5_stepName_8 (F_X5_stepName_6 (F_X5_step σ) (σ 5 0)) (σ 5 1)) 0 99) 59) ((V_X5_keyword (F_X5_step σ)) - 10) on (V_X5_stepName_6 (F_X5_step σ) (σ 5 0)) (V_X5_stepName_8 (F_X5_stepName_6 (F_X5_step σ) (σ 5 0)) (σ 5 1)) (V_X5_stepNumber (F_X5_stepName_8 (F_X5_stepName_6 (F_X5_step σ) (σ 5 0)) (σ 5 1)) 0 99) 0 ((CB_F_X5_stepSign (CB_F_X5_stepNumber (CB_F_X5_stepName_8 (CB_F_X5_stepName_6 (CB_F_X5_step hB)))))).1) ?_
                    refine zRx.iconst ⟨by decide, by decide⟩ dX0_takeDeed_159 ?_
                    exact zR.zret rfl ⟨by decide, by decide⟩ dX0_takeDeed_160 ⟨by unfold V_X0_takeDeed; rw [if_neg (Int.not_lt.mpr c14), if_pos c21, if_neg c47, if_neg c55, if_neg c81, if_neg c90, if_pos c109, if_neg c128, if_neg c137], by unfold F_X0_takeDeed; rw [if_neg (Int.not_lt.mpr c14), if_pos c21, if_neg c47, if_neg c55, if_neg c81, if_neg c90, if_pos c109, if_neg c128, if_neg c137]⟩
                  · refine zRx.iconst ⟨by decide, by decide⟩ dX0_takeDeed_140 ?_
                    exact zR.zret rfl ⟨by decide, by decide⟩ dX0_takeDeed_141 ⟨by unfold V_X0_takeDeed; rw [if_neg (Int.not_lt.mpr c14), if_pos c21, if_neg c47, if_neg c55, if_neg c81, if_neg c90, if_pos c109, if_neg c128, if_pos c137], by unfold F_X0_takeDeed; rw [if_neg (Int.not_lt.mpr c14), if_pos c21, if_neg c47, if_neg c55, if_neg c81, if_neg c90, if_pos c109, if_neg c128, if_pos c137]⟩
            · refine zRx.aload_n 0 rfl rfl dX0_takeDeed_93 ?_
              refine zRx.aload_n 1 rfl rfl dX0_takeDeed_94 ?_
              refine zRx.aload_n 2 rfl rfl dX0_takeDeed_95 ?_
              refine zRx.iload_n 3 rfl rfl dX0_takeDeed_96 ?_
              refine zRx.iload 5 rfl dX0_takeDeed_97 ?_
              refine zRx.iload 6 rfl dX0_takeDeed_99 ?_
              refine zRx.cVi (w := .inl (V_X0_takeWith (F_X5_stepName_8 (F_X5_stepName_6 (F_X5_step σ) (σ 5 0)) (σ 5 1)) on (V_X5_stepName_6 (F_X5_step σ) (σ 5 0)) (V_X5_stepName_8 (F_X5_stepName_6 (F_X5_step σ) (σ 5 0)) (σ 5 1)))) (M := m_X0_takeWith) (av := [zP 3, zP 5, .inl on, .inl (V_X5_stepName_6 (F_X5_step σ) (σ 5 0)), .inl (V_X5_stepName_8 (F_X5_stepName_6 (F_X5_step σ) (σ 5 0)) (σ 5 1))]) cv_0_127 mk_X0_takeWith (by decide) (b := 35) rfl rfl (Nat.le_of_ble_eq_true rfl) dX0_takeDeed_101 (does_withC (F_X5_stepName_8 (F_X5_stepName_6 (F_X5_step σ) (σ 5 0)) (σ 5 1)) on (V_X5_stepName_6 (F_X5_step σ) (σ 5 0)) (V_X5_stepName_8 (F_X5_stepName_6 (F_X5_step σ) (σ 5 0)) (σ 5 1)) (CI_F_X5_stepName_8 (CI_F_X5_stepName_6 (CI_F_X5_step hI))) (CB_F_X5_stepName_8 (CB_F_X5_stepName_6 (CB_F_X5_step hB)))) ?_
              exact zR.zret rfl (v01_X0_takeWith _ _ _ _) dX0_takeDeed_104 ⟨by unfold V_X0_takeDeed; rw [if_neg (Int.not_lt.mpr c14), if_pos c21, if_neg c47, if_neg c55, if_neg c81, if_pos c90], by unfold F_X0_takeDeed; rw [if_neg (Int.not_lt.mpr c14), if_pos c21, if_neg c47, if_neg c55, if_neg c81, if_pos c90]⟩
          · refine zRx.iconst ⟨by decide, by decide⟩ dX0_takeDeed_84 ?_
            exact zR.zret rfl ⟨by decide, by decide⟩ dX0_takeDeed_85 ⟨by unfold V_X0_takeDeed; rw [if_neg (Int.not_lt.mpr c14), if_pos c21, if_neg c47, if_neg c55, if_pos c81], by unfold F_X0_takeDeed; rw [if_neg (Int.not_lt.mpr c14), if_pos c21, if_neg c47, if_neg c55, if_pos c81]⟩
        · refine zRx.aload_n 1 rfl rfl dX0_takeDeed_58 ?_
          refine zRx.iconst ⟨by decide, by decide⟩ dX0_takeDeed_59 ?_
          refine zRx.cVi (w := .inl 0) (M := m_X5_refuse) (av := [.inl 3]) cv_0_94 mk_X5_refuse (by decide) (b := 3) rfl rfl (Nat.le_of_ble_eq_true rfl) dX0_takeDeed_60 (refuse_eq (F_X5_stepName_6 (F_X5_step σ) (σ 5 0)) 3) ?_
          exact zR.zret rfl ⟨by decide, by decide⟩ dX0_takeDeed_63 ⟨by unfold V_X0_takeDeed; rw [if_neg (Int.not_lt.mpr c14), if_pos c21, if_neg c47, if_pos c55], by unfold F_X0_takeDeed; rw [if_neg (Int.not_lt.mpr c14), if_pos c21, if_neg c47, if_pos c55]⟩
      · refine zRx.iconst ⟨by decide, by decide⟩ dX0_takeDeed_50 ?_
        exact zR.zret rfl ⟨by decide, by decide⟩ dX0_takeDeed_51 ⟨by unfold V_X0_takeDeed; rw [if_neg (Int.not_lt.mpr c14), if_pos c21, if_pos c47], by unfold F_X0_takeDeed; rw [if_neg (Int.not_lt.mpr c14), if_pos c21, if_pos c47]⟩
    · refine zRx.aload_n 1 rfl rfl dX0_takeDeed_24 ?_
      refine zRx.iconst ⟨by decide, by decide⟩ dX0_takeDeed_25 ?_
      refine zRx.cVi (w := .inl 0) (M := m_X5_refuse) (av := [.inl 1]) cv_0_94 mk_X5_refuse (by decide) (b := 3) rfl rfl (Nat.le_of_ble_eq_true rfl) dX0_takeDeed_26 (refuse_eq (F_X5_step σ) 1) ?_
      exact zR.zret rfl ⟨by decide, by decide⟩ dX0_takeDeed_29 ⟨by unfold V_X0_takeDeed; rw [if_neg (Int.not_lt.mpr c14), if_neg (Int.not_le.mpr c21)], by unfold F_X0_takeDeed; rw [if_neg (Int.not_lt.mpr c14), if_neg (Int.not_le.mpr c21)]⟩

theorem CI_F_X0_takeDeed {σ : zG} {on : Int} (hI : CI σ) (hB : CB σ) : CI ((F_X0_takeDeed σ on)) := by
  unfold F_X0_takeDeed
  repeat' split
  all_goals first | exact (CI_zu (by decide) (CI_F_X5_step hI)) | exact (CI_F_X5_stepName_6 (CI_F_X5_step hI)) | exact (CI_zu (by decide) (CI_F_X5_stepName_6 (CI_F_X5_step hI))) | exact (CI_F_X5_stepName_8 (CI_F_X5_stepName_6 (CI_F_X5_step hI))) | exact (CI_F_X0_takeWith (CI_F_X5_stepName_8 (CI_F_X5_stepName_6 (CI_F_X5_step hI))) (CB_F_X5_stepName_8 (CB_F_X5_stepName_6 (CB_F_X5_step hB)))) | exact (CI_F_X5_stepNumber (CI_F_X5_stepName_8 (CI_F_X5_stepName_6 (CI_F_X5_step hI)))) | exact (CI_F_X5_stepSign (CI_F_X5_stepNumber (CI_F_X5_stepName_8 (CI_F_X5_stepName_6 (CI_F_X5_step hI))))) | exact (CI_F_X0_add_35 (CI_F_X5_stepSign (CI_F_X5_stepNumber (CI_F_X5_stepName_8 (CI_F_X5_stepName_6 (CI_F_X5_step hI)))))) | exact (CI_F_X5_stepSign (CI_F_X5_stepName_8 (CI_F_X5_stepName_6 (CI_F_X5_step hI)))) | exact (CI_F_X0_add_35 (CI_F_X5_stepSign (CI_F_X5_stepName_8 (CI_F_X5_stepName_6 (CI_F_X5_step hI)))))

theorem CB_F_X0_takeDeed {σ : zG} {on : Int} (hI : CI σ) (hB : CB σ) : CB (F_X0_takeDeed σ on) := by
  unfold F_X0_takeDeed
  repeat' split
  all_goals first | exact (CB_zu (fun h => absurd h.1 (by decide)) (CB_F_X5_step hB)) | exact (CB_F_X5_stepName_6 (CB_F_X5_step hB)) | exact (CB_zu (fun h => absurd h.1 (by decide)) (CB_F_X5_stepName_6 (CB_F_X5_step hB))) | exact (CB_F_X5_stepName_8 (CB_F_X5_stepName_6 (CB_F_X5_step hB))) | exact (CB_F_X0_takeWith (CI_F_X5_stepName_8 (CI_F_X5_stepName_6 (CI_F_X5_step hI))) (CB_F_X5_stepName_8 (CB_F_X5_stepName_6 (CB_F_X5_step hB)))) | exact (CB_F_X5_stepNumber (CB_F_X5_stepName_8 (CB_F_X5_stepName_6 (CB_F_X5_step hB)))) | exact (CB_F_X5_stepSign (CB_F_X5_stepNumber (CB_F_X5_stepName_8 (CB_F_X5_stepName_6 (CB_F_X5_step hB))))) | exact (CB_F_X0_add_35 (CB_F_X5_stepSign (CB_F_X5_stepNumber (CB_F_X5_stepName_8 (CB_F_X5_stepName_6 (CB_F_X5_step hB)))))) | exact (CB_F_X5_stepSign (CB_F_X5_stepName_8 (CB_F_X5_stepName_6 (CB_F_X5_step hB)))) | exact (CB_F_X0_add_35 (CB_F_X5_stepSign (CB_F_X5_stepName_8 (CB_F_X5_stepName_6 (CB_F_X5_step hB)))))

theorem v01_X0_takeDeed (σ : zG) (on : Int) : 0 ≤ V_X0_takeDeed σ on ∧ V_X0_takeDeed σ on ≤ 1 := by
  unfold V_X0_takeDeed
  repeat' split
  all_goals first | exact v01_X0_takeWith _ _ _ _ | decide
theorem v01_X0_takeDay (σ : zG) : 0 ≤ V_X0_takeDay σ ∧ V_X0_takeDay σ ≤ 1 := by
  unfold V_X0_takeDay
  repeat' split
  all_goals decide
def V_X0_takeLine (σ : zG)  : Int := if (V_X5_keyword σ) = 10 then (V_X0_takeDay σ) else (if (V_X5_isName σ) = 0 then 0 else (if (R_X11_placeOf_6 σ (σ 3 6) (σ 5 0)) = (-1) then 0 else (if (σ 35 0) < 60 then (V_X0_takeDeed σ (R_X11_placeOf_6 σ (σ 3 6) (σ 5 0))) else 0)))
def F_X0_takeLine (σ : zG)  : zG := if (V_X5_keyword σ) = 10 then (F_X0_takeDay σ) else (if (V_X5_isName σ) = 0 then (zu σ 3 7 1) else (if (R_X11_placeOf_6 σ (σ 3 6) (σ 5 0)) = (-1) then (zu σ 3 7 3) else (if (σ 35 0) < 60 then (F_X0_takeDeed σ (R_X11_placeOf_6 σ (σ 3 6) (σ 5 0))) else (zu σ 3 7 4))))
theorem fr_F_X0_takeLine (σ : zG)  {k : Nat} (h : k ∉ [3, 35, 36, 37, 38, 39, 40, 41, 42]) : (F_X0_takeLine σ ) k = σ k := by
  have ne : ∀ c ∈ [3, 35, 36, 37, 38, 39, 40, 41, 42], k ≠ c := fun c hc e => h (e ▸ hc)
  have nk_F_X0_takeDay : k ∉ [3, 35, 36, 37, 38, 39, 40, 41, 42] := fun hm => h (by first | (revert hm; simp only [List.mem_cons, List.not_mem_nil, or_false]; omega) | (simp at hm))
  have nk_F_X0_takeDeed : k ∉ [3, 35, 36, 37, 38, 39, 40, 41, 42] := fun hm => h (by first | (revert hm; simp only [List.mem_cons, List.not_mem_nil, or_false]; omega) | (simp at hm))
  unfold F_X0_takeLine
  repeat' split
  all_goals first | rfl | simp only [zu_row _ _ _ (ne 3 (by decide)), zu_row _ _ _ (ne 35 (by decide)), zu_row _ _ _ (ne 36 (by decide)), zu_row _ _ _ (ne 37 (by decide)), zu_row _ _ _ (ne 38 (by decide)), zu_row _ _ _ (ne 39 (by decide)), zu_row _ _ _ (ne 40 (by decide)), zu_row _ _ _ (ne 41 (by decide)), zu_row _ _ _ (ne 42 (by decide)), fr_F_X0_takeDay (h := nk_F_X0_takeDay), fr_F_X0_takeDeed (h := nk_F_X0_takeDeed)]

set_option maxRecDepth 20000 in
theorem does_X0_takeLine (σ : zG)  (hI : CI σ) (hB : CB σ) : zDo SC 5 m_X0_takeLine [zP 35, zP 3, zP 5] σ (zEq (some (.inl (V_X0_takeLine σ ))) (F_X0_takeLine σ )) := by
  refine zDo.intro mk_X0_takeLine (Nat.le_of_ble_eq_true rfl) ?_
  refine zRx.aload_n 1 rfl rfl dX0_takeLine_0 ?_
  refine zRx.cVi (w := .inl (V_X5_keyword σ)) (M := m_X5_keyword) (av := []) cv_0_82 mk_X5_keyword (by decide) (b := 3) rfl rfl (Nat.le_of_ble_eq_true rfl) dX0_takeLine_1 (does_X5_keyword σ) ?_
  refine zRx.bipush ⟨by decide, by decide⟩ rfl dX0_takeLine_4 ?_
  refine zRx.icmp_ne (tgt := 15) dX0_takeLine_6 (by decide) (fun c6 => ?_) (fun c6 => ?_)
  · refine zRx.aload_n 1 rfl rfl dX0_takeLine_15 ?_
    refine zRx.cVi (w := .inl (V_X5_isName σ)) (M := m_X5_isName) (av := []) cv_0_90 mk_X5_isName (by decide) (b := 3) rfl rfl (Nat.le_of_ble_eq_true rfl) dX0_takeLine_16 (does_isNameC σ) ?_
    refine zRx.if_ne (tgt := 28) dX0_takeLine_19 (by decide) (fun c19 => ?_) (fun c19 => ?_)
    · refine zRx.aload_n 1 rfl rfl dX0_takeLine_28 ?_
      refine zRx.getIv (a := 3) (ji := 6) (v := σ 3 6) rfl fl_0_98 rfl rfl rfl dX0_takeLine_29 ?_
      refine zRx.aload_n 2 rfl rfl dX0_takeLine_32 ?_
      refine zRx.getR (a := 5) (b := 6) fl_0_101 rfl rfl dX0_takeLine_33 ?_
      refine zRx.aload_n 2 rfl rfl dX0_takeLine_36 ?_
      refine zRx.getIv (a := 5) (ji := 0) (v := σ 5 0) rfl fl_0_59 rfl rfl rfl dX0_takeLine_37 ?_
      refine zRx.cSi (w := .inl (R_X11_placeOf_6 σ (σ 3 6) (σ 5 0))) (M := m_X11_placeOf) (av := [.inl (σ 3 6), zP 6, .inl (σ 5 0)]) cs_0_104 mk_X11_placeOf (by decide) rfl (Nat.le_of_ble_eq_true rfl) dX0_takeLine_40 (does_X11_placeOf_6 σ (σ 3 6) (σ 5 0)) ?_
      refine zRx.istore_n (ls' := [(0, zP 35), (1, zP 3), (2, zP 5), (3, .inl (R_X11_placeOf_6 σ (σ 3 6) (σ 5 0)))]) rfl rfl (by decide) dX0_takeLine_43 ?_
      refine zRx.iload_n 3 rfl rfl dX0_takeLine_44 ?_
      refine zRx.iconst ⟨by decide, by decide⟩ dX0_takeLine_45 ?_
      refine zRx.icmp_ne (tgt := 55) dX0_takeLine_46 (by decide) (fun c46 => ?_) (fun c46 => ?_)
      · refine zRx.aload_n 0 rfl rfl dX0_takeLine_55 ?_
        refine zRx.getIv (a := 35) (ji := 0) (v := σ 35 0) rfl fl_0_33 rfl rfl rfl dX0_takeLine_56 ?_
        refine zRx.bipush ⟨by decide, by decide⟩ rfl dX0_takeLine_59 ?_
        refine zRx.icmp_lt (tgt := 70) dX0_takeLine_61 (by decide) (fun c61 => ?_) (fun c61 => ?_)
        · refine zRx.aload_n 0 rfl rfl dX0_takeLine_70 ?_
          refine zRx.aload_n 1 rfl rfl dX0_takeLine_71 ?_
          refine zRx.aload_n 2 rfl rfl dX0_takeLine_72 ?_
          refine zRx.iload_n 3 rfl rfl dX0_takeLine_73 ?_
          refine zRx.cVi (w := .inl (V_X0_takeDeed σ (R_X11_placeOf_6 σ (σ 3 6) (σ 5 0)))) (M := m_X0_takeDeed) (av := [zP 3, zP 5, .inl (R_X11_placeOf_6 σ (σ 3 6) (σ 5 0))]) cv_0_108 mk_X0_takeDeed (by decide) (b := 35) rfl rfl (Nat.le_of_ble_eq_true rfl) dX0_takeLine_74 (does_X0_takeDeed σ (R_X11_placeOf_6 σ (σ 3 6) (σ 5 0)) hI hB) ?_
          exact zR.zret rfl (v01_X0_takeDeed _ _) dX0_takeLine_77 ⟨by unfold V_X0_takeLine; rw [if_neg c6, if_neg c19, if_neg c46, if_pos c61], by unfold F_X0_takeLine; rw [if_neg c6, if_neg c19, if_neg c46, if_pos c61]⟩
        · refine zRx.aload_n 1 rfl rfl dX0_takeLine_64 ?_
          refine zRx.iconst ⟨by decide, by decide⟩ dX0_takeLine_65 ?_
          refine zRx.cVi (w := .inl 0) (M := m_X5_refuse) (av := [.inl 4]) cv_0_94 mk_X5_refuse (by decide) (b := 3) rfl rfl (Nat.le_of_ble_eq_true rfl) dX0_takeLine_66 (refuse_eq σ 4) ?_
          exact zR.zret rfl ⟨by decide, by decide⟩ dX0_takeLine_69 ⟨by unfold V_X0_takeLine; rw [if_neg c6, if_neg c19, if_neg c46, if_neg (Int.not_lt.mpr c61)], by unfold F_X0_takeLine; rw [if_neg c6, if_neg c19, if_neg c46, if_neg (Int.not_lt.mpr c61)]⟩
      · refine zRx.aload_n 1 rfl rfl dX0_takeLine_49 ?_
        refine zRx.iconst ⟨by decide, by decide⟩ dX0_takeLine_50 ?_
        refine zRx.cVi (w := .inl 0) (M := m_X5_refuse) (av := [.inl 3]) cv_0_94 mk_X5_refuse (by decide) (b := 3) rfl rfl (Nat.le_of_ble_eq_true rfl) dX0_takeLine_51 (refuse_eq σ 3) ?_
        exact zR.zret rfl ⟨by decide, by decide⟩ dX0_takeLine_54 ⟨by unfold V_X0_takeLine; rw [if_neg c6, if_neg c19, if_pos c46], by unfold F_X0_takeLine; rw [if_neg c6, if_neg c19, if_pos c46]⟩
    · refine zRx.aload_n 1 rfl rfl dX0_takeLine_22 ?_
      refine zRx.iconst ⟨by decide, by decide⟩ dX0_takeLine_23 ?_
      refine zRx.cVi (w := .inl 0) (M := m_X5_refuse) (av := [.inl 1]) cv_0_94 mk_X5_refuse (by decide) (b := 3) rfl rfl (Nat.le_of_ble_eq_true rfl) dX0_takeLine_24 (refuse_eq σ 1) ?_
      exact zR.zret rfl ⟨by decide, by decide⟩ dX0_takeLine_27 ⟨by unfold V_X0_takeLine; rw [if_neg c6, if_pos c19], by unfold F_X0_takeLine; rw [if_neg c6, if_pos c19]⟩
  · refine zRx.aload_n 0 rfl rfl dX0_takeLine_9 ?_
    refine zRx.aload_n 1 rfl rfl dX0_takeLine_10 ?_
    refine zRx.cVi (w := .inl (V_X0_takeDay σ)) (M := m_X0_takeDay) (av := [zP 3]) cv_0_86 mk_X0_takeDay (by decide) (b := 35) rfl rfl (Nat.le_of_ble_eq_true rfl) dX0_takeLine_11 (does_X0_takeDay σ  hI hB) ?_
    exact zR.zret rfl (v01_X0_takeDay _) dX0_takeLine_14 ⟨by unfold V_X0_takeLine; rw [if_pos c6], by unfold F_X0_takeLine; rw [if_pos c6]⟩

theorem CI_F_X0_takeLine {σ : zG}  (hI : CI σ) (hB : CB σ) : CI ((F_X0_takeLine σ )) := by
  unfold F_X0_takeLine
  repeat' split
  all_goals first | exact (CI_F_X0_takeDay hI) | exact (CI_zu (by decide) hI) | exact (CI_F_X0_takeDeed hI hB)

theorem CB_F_X0_takeLine {σ : zG}  (hI : CI σ) (hB : CB σ) : CB (F_X0_takeLine σ ) := by
  unfold F_X0_takeLine
  repeat' split
  all_goals first | exact (CB_F_X0_takeDay hB) | exact (CB_zu (fun h => absurd h.1 (by decide)) hB) | exact (CB_F_X0_takeDeed hI hB)

theorem CB_clear {σ : zG} : CB (F_X0_clear_35 σ) := by
  unfold CB F_X0_clear_35
  rw [zu_off _ _ _ (by decide), zu_at]
  decide
theorem CI_F_X0_clear_35 {σ : zG} (h : CI σ) : CI (F_X0_clear_35 σ) := CI_row (fr_F_X0_clear_35 σ (by decide)) (fr_F_X0_clear_35 σ (by decide)) h

def L_X0_take_6  : Nat → Int → zG → Int × zG
  | 0, _, σ => (0, σ)
  | n + 1, q, σ => if 60 < q then (0, σ) else (if ((F_X5_step σ) 3 4) = 0 then (1, F_X5_step σ) else (if (V_X0_takeLine (F_X5_step σ)) = 0 then (0, F_X0_takeLine (F_X5_step σ)) else (L_X0_take_6  n (q + 1) (F_X0_takeLine (F_X5_step σ)))))
theorem fr_L_X0_take_6   (n : Nat) (q : Int) (σ : zG) {k : Nat} (h : k ∉ [3, 35, 36, 37, 38, 39, 40, 41, 42]) : (L_X0_take_6  n q σ).2 k = σ k := by
  induction n generalizing q σ with
  | zero => rfl
  | succ n ih =>
    have ne : ∀ c ∈ [3, 35, 36, 37, 38, 39, 40, 41, 42], k ≠ c := fun c hc e => h (e ▸ hc)
    have nk_F_X5_step : k ∉ [3] := fun hm => h (by first | (revert hm; simp only [List.mem_cons, List.not_mem_nil, or_false]; omega) | (simp at hm))
    have nk_F_X0_takeLine : k ∉ [3, 35, 36, 37, 38, 39, 40, 41, 42] := fun hm => h (by first | (revert hm; simp only [List.mem_cons, List.not_mem_nil, or_false]; omega) | (simp at hm))
    rw [L_X0_take_6]
    repeat' split
    all_goals first | rfl | simp only [zu_row _ _ _ (ne 3 (by decide)), zu_row _ _ _ (ne 35 (by decide)), zu_row _ _ _ (ne 36 (by decide)), zu_row _ _ _ (ne 37 (by decide)), zu_row _ _ _ (ne 38 (by decide)), zu_row _ _ _ (ne 39 (by decide)), zu_row _ _ _ (ne 40 (by decide)), zu_row _ _ _ (ne 41 (by decide)), zu_row _ _ _ (ne 42 (by decide)), fr_F_X5_step (h := nk_F_X5_step), fr_F_X0_takeLine (h := nk_F_X0_takeLine), ih]

set_option maxRecDepth 20000 in
theorem loop_X0_take_6   : ∀ (n : Nat) (q : Int) (σ : zG), 0 ≤ q → CI σ → CB σ → (61 - q).toNat < n → zR SC 6 m_X0_take 6 [(0, zP 35), (1, zP 3), (2, zP 5), (3, .inl q)] [] σ (zEq (some (.inl (L_X0_take_6  n q σ).1)) (L_X0_take_6  n q σ).2) := by
  intro n
  induction n with
  | zero => intro q σ h0 hI hB hmz; exact absurd hmz (Nat.not_lt_zero _)
  | succ n ih =>
    intro q σ h0 hI hB hmz
    refine zRx.iload_n 3 rfl rfl dX0_take_6 ?_
    refine zRx.bipush ⟨by decide, by decide⟩ rfl dX0_take_7 ?_
    refine zRx.icmp_gt (tgt := 42) dX0_take_9 (by decide) (fun c9 => ?_) (fun c9 => ?_)
    · refine zRx.iconst ⟨by decide, by decide⟩ dX0_take_42 ?_
      exact zR.zret rfl ⟨by decide, by decide⟩ dX0_take_43 (by have he : L_X0_take_6  (n + 1) q σ = (0, σ) := (by rw [L_X0_take_6, if_pos c9]); rw [he]; exact ⟨rfl, rfl⟩)
    · refine zRx.aload_n 1 rfl rfl dX0_take_12 ?_
      refine zRx.cVv (M := m_X5_step) (av := []) cv_0_71 mk_X5_step (by decide) (b := 3) rfl rfl (Nat.le_of_ble_eq_true rfl) dX0_take_13 (does_step2 σ hI) ?_
      refine zRx.aload_n 1 rfl rfl dX0_take_16 ?_
      refine zRx.getIv (a := 3) (ji := 4) (v := (F_X5_step σ) 3 4) rfl fl_0_76 rfl rfl rfl dX0_take_17 ?_
      refine zRx.if_ne (tgt := 25) dX0_take_20 (by decide) (fun c20 => ?_) (fun c20 => ?_)
      · refine zRx.aload_n 0 rfl rfl dX0_take_25 ?_
        refine zRx.aload_n 1 rfl rfl dX0_take_26 ?_
        refine zRx.aload_n 2 rfl rfl dX0_take_27 ?_
        refine zRx.cVi (w := .inl (V_X0_takeLine (F_X5_step σ))) (M := m_X0_takeLine) (av := [zP 3, zP 5]) cv_0_78 mk_X0_takeLine (by decide) (b := 35) rfl rfl (Nat.le_of_ble_eq_true rfl) dX0_take_28 (does_X0_takeLine (F_X5_step σ)  (CI_F_X5_step hI) (CB_F_X5_step hB)) ?_
        refine zRx.if_ne (tgt := 36) dX0_take_31 (by decide) (fun c31 => ?_) (fun c31 => ?_)
        · refine zRx.iinc (n := 1) (ls' := [(0, zP 35), (1, zP 3), (2, zP 5), (3, .inl (q + 1))]) 3 rfl ⟨by omega, by omega⟩ rfl (by decide) dX0_take_36 ?_
          refine zRx.goto (tgt := 6) dX0_take_39 (by decide) ?_
          have he : L_X0_take_6  (n + 1) q σ = L_X0_take_6  n (q + 1) (F_X0_takeLine (F_X5_step σ)) := by rw [L_X0_take_6, if_neg (Int.not_lt.mpr c9), if_neg c20, if_neg c31]
          rw [he]
          exact ih (q + 1) (F_X0_takeLine (F_X5_step σ)) (by omega) (CI_F_X0_takeLine (CI_F_X5_step hI) (CB_F_X5_step hB)) (CB_F_X0_takeLine (CI_F_X5_step hI) (CB_F_X5_step hB)) (by omega)
        · refine zRx.iconst ⟨by decide, by decide⟩ dX0_take_34 ?_
          exact zR.zret rfl ⟨by decide, by decide⟩ dX0_take_35 (by have he : L_X0_take_6  (n + 1) q σ = (0, F_X0_takeLine (F_X5_step σ)) := (by rw [L_X0_take_6, if_neg (Int.not_lt.mpr c9), if_neg c20, if_pos c31]); rw [he]; exact ⟨rfl, rfl⟩)
      · refine zRx.iconst ⟨by decide, by decide⟩ dX0_take_23 ?_
        exact zR.zret rfl ⟨by decide, by decide⟩ dX0_take_24 (by have he : L_X0_take_6  (n + 1) q σ = (1, F_X5_step σ) := (by rw [L_X0_take_6, if_neg (Int.not_lt.mpr c9), if_pos c20]); rw [he]; exact ⟨rfl, rfl⟩)
def R_X0_take (σ : zG)  : Int × zG := L_X0_take_6  70 0 (F_X0_clear_35 σ)
theorem fr_R_X0_take (σ : zG)  {k : Nat} (h : k ∉ [3, 35, 36, 37, 38, 39, 40, 41, 42]) : (R_X0_take σ ).2 k = σ k := by
  have ne : ∀ c ∈ [3, 35, 36, 37, 38, 39, 40, 41, 42], k ≠ c := fun c hc e => h (e ▸ hc)
  have nk_F_X0_clear_35 : k ∉ [35] := fun hm => h (by first | (revert hm; simp only [List.mem_cons, List.not_mem_nil, or_false]; omega) | (simp at hm))
  have nl_L_X0_take_6 : k ∉ [3, 35, 36, 37, 38, 39, 40, 41, 42] := fun hm => h (by first | (revert hm; simp only [List.mem_cons, List.not_mem_nil, or_false]; omega) | (simp at hm))
  unfold R_X0_take
  repeat' split
  all_goals first | rfl | simp only [zu_row _ _ _ (ne 3 (by decide)), zu_row _ _ _ (ne 35 (by decide)), zu_row _ _ _ (ne 36 (by decide)), zu_row _ _ _ (ne 37 (by decide)), zu_row _ _ _ (ne 38 (by decide)), zu_row _ _ _ (ne 39 (by decide)), zu_row _ _ _ (ne 40 (by decide)), zu_row _ _ _ (ne 41 (by decide)), zu_row _ _ _ (ne 42 (by decide)), fr_F_X0_clear_35 (h := nk_F_X0_clear_35), fr_L_X0_take_6 (h := nl_L_X0_take_6)]

set_option maxRecDepth 20000 in
theorem does_X0_take (σ : zG)  (hI : CI σ)  : zDo SC 6 m_X0_take [zP 35, zP 3, zP 5] σ (zEq (some (.inl (R_X0_take σ ).1)) (R_X0_take σ ).2) := by
  refine zDo.intro mk_X0_take (Nat.le_of_ble_eq_true rfl) ?_
  refine zRx.aload_n 0 rfl rfl dX0_take_0 ?_
  refine zRx.cVv (M := m_X0_clear) (av := []) cv_0_50 mk_X0_clear (by decide) (b := 35) rfl rfl (Nat.le_of_ble_eq_true rfl) dX0_take_1 (does_X0_clear_35 σ) ?_
  refine zRx.iconst ⟨by decide, by decide⟩ dX0_take_4 ?_
  refine zRx.istore_n (ls' := [(0, zP 35), (1, zP 3), (2, zP 5), (3, .inl 0)]) rfl rfl (by decide) dX0_take_5 ?_
  have he : R_X0_take σ  = L_X0_take_6  70 0 (F_X0_clear_35 σ) := by rw [R_X0_take]
  rw [he]
  exact loop_X0_take_6    70 0 (F_X0_clear_35 σ) (by omega) (CI_F_X0_clear_35 hI) CB_clear (by omega)

theorem drawC_r (σ : zG) (n : Int) (h : 0 < n) : 0 ≤ V_X1_draw σ n ∧ V_X1_draw σ n < n := by
  unfold V_X1_draw
  rw [if_neg (by omega)]
  exact ⟨Int.emod_nonneg _ (by omega), Int.emod_lt_of_pos _ h⟩
theorem add27_len (σ : zG) (a b c d e f : Int) : F_X0_add_27 σ a b c d e f 27 0 = if σ 27 0 < 60 then σ 27 0 + 1 else σ 27 0 := by
  unfold F_X0_add_27
  split
  · rw [zu_at]
  · rfl
theorem addDay27_len (σ : zG) (d : Int) : F_X0_addDay_27 σ d 27 0 = if σ 27 0 < 60 then σ 27 0 + 1 else σ 27 0 := by
  unfold F_X0_addDay_27
  rw [add27_len, zu_off _ _ _ (by decide)]

def L_X0_draw_7 (x : Int) : Nat → Int → zG → zG
  | 0, _, σ => σ
  | n + 1, q, σ => if x ≤ q then σ else (if (V_X1_draw (F_X1_draw (F_X1_draw σ 8) (σ 5 0)) (σ 5 0)) = (V_X1_draw (F_X1_draw σ 8) (σ 5 0)) then (if (σ 5 0) ≤ ((V_X1_draw (F_X1_draw σ 8) (σ 5 0)) + 1) then (if (V_X1_draw σ 8) = 0 then (L_X0_draw_7 x n (q + 1) (F_X0_addDay_27 (F_X1_draw (F_X1_draw (F_X1_draw (F_X1_draw σ 8) (σ 5 0)) (σ 5 0)) (σ 5 1)) (w32 ((σ 27 1) + 1)))) else (if (V_X1_draw σ 8) = 1 then (L_X0_draw_7 x n (q + 1) (F_X0_add_27 (F_X1_draw (F_X1_draw (F_X1_draw (F_X1_draw σ 8) (σ 5 0)) (σ 5 0)) (σ 5 1)) 1 (V_X1_draw (F_X1_draw σ 8) (σ 5 0)) 0 (V_X1_draw (F_X1_draw (F_X1_draw (F_X1_draw σ 8) (σ 5 0)) (σ 5 0)) (σ 5 1)) 0 0)) else (if (V_X1_draw σ 8) = 2 then (L_X0_draw_7 x n (q + 1) (F_X0_add_27 (F_X1_draw (F_X1_draw (F_X1_draw (F_X1_draw σ 8) (σ 5 0)) (σ 5 0)) (σ 5 1)) 1 (V_X1_draw (F_X1_draw σ 8) (σ 5 0)) 0 (V_X1_draw (F_X1_draw (F_X1_draw (F_X1_draw σ 8) (σ 5 0)) (σ 5 0)) (σ 5 1)) 0 0)) else (if (V_X1_draw σ 8) = 3 then (L_X0_draw_7 x n (q + 1) (F_X0_add_27 (F_X1_draw (F_X1_draw (F_X1_draw (F_X1_draw σ 8) (σ 5 0)) (σ 5 0)) (σ 5 1)) 2 (V_X1_draw (F_X1_draw σ 8) (σ 5 0)) 0 (V_X1_draw (F_X1_draw (F_X1_draw (F_X1_draw σ 8) (σ 5 0)) (σ 5 0)) (σ 5 1)) 0 0)) else (if (V_X1_draw σ 8) = 4 then (L_X0_draw_7 x n (q + 1) (F_X0_add_27 (F_X1_draw (F_X1_draw (F_X1_draw (F_X1_draw (F_X1_draw σ 8) (σ 5 0)) (σ 5 0)) (σ 5 1)) 20) 4 (V_X1_draw (F_X1_draw σ 8) (σ 5 0)) 0 (V_X1_draw (F_X1_draw (F_X1_draw (F_X1_draw σ 8) (σ 5 0)) (σ 5 0)) (σ 5 1)) (V_X1_draw (F_X1_draw (F_X1_draw (F_X1_draw (F_X1_draw σ 8) (σ 5 0)) (σ 5 0)) (σ 5 1)) 20) 0)) else (L_X0_draw_7 x n (q + 1) (F_X0_add_27 (F_X1_draw (F_X1_draw (F_X1_draw (F_X1_draw σ 8) (σ 5 0)) (σ 5 0)) (σ 5 1)) 3 (V_X1_draw (F_X1_draw σ 8) (σ 5 0)) 0 (V_X1_draw (F_X1_draw (F_X1_draw (F_X1_draw σ 8) (σ 5 0)) (σ 5 0)) (σ 5 1)) 0 0))))))) else (if (V_X1_draw σ 8) = 0 then (L_X0_draw_7 x n (q + 1) (F_X0_addDay_27 (F_X1_draw (F_X1_draw (F_X1_draw (F_X1_draw σ 8) (σ 5 0)) (σ 5 0)) (σ 5 1)) (w32 ((σ 27 1) + 1)))) else (if (V_X1_draw σ 8) = 1 then (L_X0_draw_7 x n (q + 1) (F_X0_add_27 (F_X1_draw (F_X1_draw (F_X1_draw (F_X1_draw σ 8) (σ 5 0)) (σ 5 0)) (σ 5 1)) 1 (V_X1_draw (F_X1_draw σ 8) (σ 5 0)) ((V_X1_draw (F_X1_draw σ 8) (σ 5 0)) + 1) (V_X1_draw (F_X1_draw (F_X1_draw (F_X1_draw σ 8) (σ 5 0)) (σ 5 0)) (σ 5 1)) 0 0)) else (if (V_X1_draw σ 8) = 2 then (L_X0_draw_7 x n (q + 1) (F_X0_add_27 (F_X1_draw (F_X1_draw (F_X1_draw (F_X1_draw σ 8) (σ 5 0)) (σ 5 0)) (σ 5 1)) 1 (V_X1_draw (F_X1_draw σ 8) (σ 5 0)) ((V_X1_draw (F_X1_draw σ 8) (σ 5 0)) + 1) (V_X1_draw (F_X1_draw (F_X1_draw (F_X1_draw σ 8) (σ 5 0)) (σ 5 0)) (σ 5 1)) 0 0)) else (if (V_X1_draw σ 8) = 3 then (L_X0_draw_7 x n (q + 1) (F_X0_add_27 (F_X1_draw (F_X1_draw (F_X1_draw (F_X1_draw σ 8) (σ 5 0)) (σ 5 0)) (σ 5 1)) 2 (V_X1_draw (F_X1_draw σ 8) (σ 5 0)) ((V_X1_draw (F_X1_draw σ 8) (σ 5 0)) + 1) (V_X1_draw (F_X1_draw (F_X1_draw (F_X1_draw σ 8) (σ 5 0)) (σ 5 0)) (σ 5 1)) 0 0)) else (if (V_X1_draw σ 8) = 4 then (L_X0_draw_7 x n (q + 1) (F_X0_add_27 (F_X1_draw (F_X1_draw (F_X1_draw (F_X1_draw (F_X1_draw σ 8) (σ 5 0)) (σ 5 0)) (σ 5 1)) 20) 4 (V_X1_draw (F_X1_draw σ 8) (σ 5 0)) ((V_X1_draw (F_X1_draw σ 8) (σ 5 0)) + 1) (V_X1_draw (F_X1_draw (F_X1_draw (F_X1_draw σ 8) (σ 5 0)) (σ 5 0)) (σ 5 1)) (V_X1_draw (F_X1_draw (F_X1_draw (F_X1_draw (F_X1_draw σ 8) (σ 5 0)) (σ 5 0)) (σ 5 1)) 20) 0)) else (L_X0_draw_7 x n (q + 1) (F_X0_add_27 (F_X1_draw (F_X1_draw (F_X1_draw (F_X1_draw σ 8) (σ 5 0)) (σ 5 0)) (σ 5 1)) 3 (V_X1_draw (F_X1_draw σ 8) (σ 5 0)) ((V_X1_draw (F_X1_draw σ 8) (σ 5 0)) + 1) (V_X1_draw (F_X1_draw (F_X1_draw (F_X1_draw σ 8) (σ 5 0)) (σ 5 0)) (σ 5 1)) 0 0)))))))) else (if (V_X1_draw σ 8) = 0 then (L_X0_draw_7 x n (q + 1) (F_X0_addDay_27 (F_X1_draw (F_X1_draw (F_X1_draw (F_X1_draw σ 8) (σ 5 0)) (σ 5 0)) (σ 5 1)) (w32 ((σ 27 1) + 1)))) else (if (V_X1_draw σ 8) = 1 then (L_X0_draw_7 x n (q + 1) (F_X0_add_27 (F_X1_draw (F_X1_draw (F_X1_draw (F_X1_draw σ 8) (σ 5 0)) (σ 5 0)) (σ 5 1)) 1 (V_X1_draw (F_X1_draw σ 8) (σ 5 0)) (V_X1_draw (F_X1_draw (F_X1_draw σ 8) (σ 5 0)) (σ 5 0)) (V_X1_draw (F_X1_draw (F_X1_draw (F_X1_draw σ 8) (σ 5 0)) (σ 5 0)) (σ 5 1)) 0 0)) else (if (V_X1_draw σ 8) = 2 then (L_X0_draw_7 x n (q + 1) (F_X0_add_27 (F_X1_draw (F_X1_draw (F_X1_draw (F_X1_draw σ 8) (σ 5 0)) (σ 5 0)) (σ 5 1)) 1 (V_X1_draw (F_X1_draw σ 8) (σ 5 0)) (V_X1_draw (F_X1_draw (F_X1_draw σ 8) (σ 5 0)) (σ 5 0)) (V_X1_draw (F_X1_draw (F_X1_draw (F_X1_draw σ 8) (σ 5 0)) (σ 5 0)) (σ 5 1)) 0 0)) else (if (V_X1_draw σ 8) = 3 then (L_X0_draw_7 x n (q + 1) (F_X0_add_27 (F_X1_draw (F_X1_draw (F_X1_draw (F_X1_draw σ 8) (σ 5 0)) (σ 5 0)) (σ 5 1)) 2 (V_X1_draw (F_X1_draw σ 8) (σ 5 0)) (V_X1_draw (F_X1_draw (F_X1_draw σ 8) (σ 5 0)) (σ 5 0)) (V_X1_draw (F_X1_draw (F_X1_draw (F_X1_draw σ 8) (σ 5 0)) (σ 5 0)) (σ 5 1)) 0 0)) else (if (V_X1_draw σ 8) = 4 then (L_X0_draw_7 x n (q + 1) (F_X0_add_27 (F_X1_draw (F_X1_draw (F_X1_draw (F_X1_draw (F_X1_draw σ 8) (σ 5 0)) (σ 5 0)) (σ 5 1)) 20) 4 (V_X1_draw (F_X1_draw σ 8) (σ 5 0)) (V_X1_draw (F_X1_draw (F_X1_draw σ 8) (σ 5 0)) (σ 5 0)) (V_X1_draw (F_X1_draw (F_X1_draw (F_X1_draw σ 8) (σ 5 0)) (σ 5 0)) (σ 5 1)) (V_X1_draw (F_X1_draw (F_X1_draw (F_X1_draw (F_X1_draw σ 8) (σ 5 0)) (σ 5 0)) (σ 5 1)) 20) 0)) else (L_X0_draw_7 x n (q + 1) (F_X0_add_27 (F_X1_draw (F_X1_draw (F_X1_draw (F_X1_draw σ 8) (σ 5 0)) (σ 5 0)) (σ 5 1)) 3 (V_X1_draw (F_X1_draw σ 8) (σ 5 0)) (V_X1_draw (F_X1_draw (F_X1_draw σ 8) (σ 5 0)) (σ 5 0)) (V_X1_draw (F_X1_draw (F_X1_draw (F_X1_draw σ 8) (σ 5 0)) (σ 5 0)) (σ 5 1)) 0 0))))))))
theorem fr_L_X0_draw_7 (x : Int)  (n : Nat) (q : Int) (σ : zG) {k : Nat} (h : k ∉ [27, 28, 29, 30, 31, 32, 33, 34, 97]) : (L_X0_draw_7 x n q σ) k = σ k := by
  induction n generalizing q σ with
  | zero => rfl
  | succ n ih =>
    have ne : ∀ c ∈ [27, 28, 29, 30, 31, 32, 33, 34, 97], k ≠ c := fun c hc e => h (e ▸ hc)
    have nk_F_X0_addDay_27 : k ∉ [27, 28, 29, 30, 31, 32, 33, 34] := fun hm => h (by first | (revert hm; simp only [List.mem_cons, List.not_mem_nil, or_false]; omega) | (simp at hm))
    have nk_F_X1_draw : k ∉ [97] := fun hm => h (by first | (revert hm; simp only [List.mem_cons, List.not_mem_nil, or_false]; omega) | (simp at hm))
    have nk_F_X0_add_27 : k ∉ [27, 28, 29, 30, 31, 32, 33, 34] := fun hm => h (by first | (revert hm; simp only [List.mem_cons, List.not_mem_nil, or_false]; omega) | (simp at hm))
    rw [L_X0_draw_7]
    repeat' split
    all_goals first | rfl | simp only [zu_row _ _ _ (ne 27 (by decide)), zu_row _ _ _ (ne 28 (by decide)), zu_row _ _ _ (ne 29 (by decide)), zu_row _ _ _ (ne 30 (by decide)), zu_row _ _ _ (ne 31 (by decide)), zu_row _ _ _ (ne 32 (by decide)), zu_row _ _ _ (ne 33 (by decide)), zu_row _ _ _ (ne 34 (by decide)), zu_row _ _ _ (ne 97 (by decide)), fr_F_X0_addDay_27 (h := nk_F_X0_addDay_27), fr_F_X1_draw (h := nk_F_X1_draw), fr_F_X0_add_27 (h := nk_F_X0_add_27), ih]

set_option maxRecDepth 20000 in
theorem loop_X0_draw_7 (x : Int) (hx : x ≤ 60) : ∀ (n : Nat) (q : Int) (σ : zG), 0 ≤ q → 0 ≤ σ 27 0 → 0 < σ 5 0 ∧ σ 5 0 ≤ 8 → 0 < σ 5 1 ∧ σ 5 1 ≤ 12 → (x - q).toNat < n → zR SC 2 m_X0_draw 7 [(0, zP 27), (1, .inl x), (2, zP 97), (3, zP 5), (4, .inl q)] [] σ (zEq none (L_X0_draw_7 x n q σ)) := by
  intro n
  induction n with
  | zero => intro q σ h0 hL hp hF hmz; exact absurd hmz (Nat.not_lt_zero _)
  | succ n ih =>
    intro q σ h0 hL hp hF hmz
    refine zRx.iload 4 rfl dX0_draw_7 ?_
    refine zRx.iload_n 1 rfl rfl dX0_draw_9 ?_
    refine zRx.icmp_ge (tgt := 201) dX0_draw_10 (by decide) (fun c10 => ?_) (fun c10 => ?_)
    · exact zR.ret rfl dX0_draw_201 ⟨rfl, (by rw [L_X0_draw_7, if_pos c10] : L_X0_draw_7 x (n + 1) q σ = σ).symm⟩
    · refine zRx.aload_n 2 rfl rfl dX0_draw_13 ?_
      refine zRx.bipush ⟨by decide, by decide⟩ rfl dX0_draw_14 ?_
      refine zRx.cVi (w := .inl (V_X1_draw σ 8)) (M := m_X1_draw) (av := [.inl 8]) cv_0_53 mk_X1_draw (by decide) (b := 97) rfl rfl (Nat.le_of_ble_eq_true rfl) dX0_draw_16 (does_X1_draw σ 8) ?_
      refine zRx.istore (ls' := [(0, zP 27), (1, .inl x), (2, zP 97), (3, zP 5), (4, .inl q), (5, .inl (V_X1_draw σ 8))]) rfl (by decide) dX0_draw_19 ?_
      refine zRx.aload_n 2 rfl rfl dX0_draw_21 ?_
      refine zRx.aload_n 3 rfl rfl dX0_draw_22 ?_
      refine zRx.getIv (a := 5) (ji := 0) (v := σ 5 0) (congrFun (fr_F_X1_draw σ 8 (k := 5) (by decide)) _) fl_0_59 rfl rfl rfl dX0_draw_23 ?_
      refine zRx.cVi (w := .inl (V_X1_draw (F_X1_draw σ 8) (σ 5 0))) (M := m_X1_draw) (av := [.inl (σ 5 0)]) cv_0_53 mk_X1_draw (by decide) (b := 97) rfl rfl (Nat.le_of_ble_eq_true rfl) dX0_draw_26 (does_X1_draw (F_X1_draw σ 8) (σ 5 0)) ?_
      have hd6 := drawC_r (F_X1_draw σ 8) (σ 5 0) (by omega)
      refine zRx.istore (ls' := [(0, zP 27), (1, .inl x), (2, zP 97), (3, zP 5), (4, .inl q), (5, .inl (V_X1_draw σ 8)), (6, .inl (V_X1_draw (F_X1_draw σ 8) (σ 5 0)))]) rfl (by decide) dX0_draw_29 ?_
      refine zRx.aload_n 2 rfl rfl dX0_draw_31 ?_
      refine zRx.aload_n 3 rfl rfl dX0_draw_32 ?_
      refine zRx.getIv (a := 5) (ji := 0) (v := σ 5 0) ((congrFun (fr_F_X1_draw (F_X1_draw σ 8) (σ 5 0) (k := 5) (by decide)) _).trans (congrFun (fr_F_X1_draw σ 8 (k := 5) (by decide)) _)) fl_0_59 rfl rfl rfl dX0_draw_33 ?_
      refine zRx.cVi (w := .inl (V_X1_draw (F_X1_draw (F_X1_draw σ 8) (σ 5 0)) (σ 5 0))) (M := m_X1_draw) (av := [.inl (σ 5 0)]) cv_0_53 mk_X1_draw (by decide) (b := 97) rfl rfl (Nat.le_of_ble_eq_true rfl) dX0_draw_36 (does_X1_draw (F_X1_draw (F_X1_draw σ 8) (σ 5 0)) (σ 5 0)) ?_
      refine zRx.istore (ls' := [(0, zP 27), (1, .inl x), (2, zP 97), (3, zP 5), (4, .inl q), (5, .inl (V_X1_draw σ 8)), (6, .inl (V_X1_draw (F_X1_draw σ 8) (σ 5 0))), (7, .inl (V_X1_draw (F_X1_draw (F_X1_draw σ 8) (σ 5 0)) (σ 5 0)))]) rfl (by decide) dX0_draw_39 ?_
      refine zRx.aload_n 2 rfl rfl dX0_draw_41 ?_
      refine zRx.aload_n 3 rfl rfl dX0_draw_42 ?_
      refine zRx.getIv (a := 5) (ji := 1) (v := σ 5 1) ((congrFun (fr_F_X1_draw (F_X1_draw (F_X1_draw σ 8) (σ 5 0)) (σ 5 0) (k := 5) (by decide)) _).trans ((congrFun (fr_F_X1_draw (F_X1_draw σ 8) (σ 5 0) (k := 5) (by decide)) _).trans (congrFun (fr_F_X1_draw σ 8 (k := 5) (by decide)) _))) fl_0_64 rfl rfl rfl dX0_draw_43 ?_
      refine zRx.cVi (w := .inl (V_X1_draw (F_X1_draw (F_X1_draw (F_X1_draw σ 8) (σ 5 0)) (σ 5 0)) (σ 5 1))) (M := m_X1_draw) (av := [.inl (σ 5 1)]) cv_0_53 mk_X1_draw (by decide) (b := 97) rfl rfl (Nat.le_of_ble_eq_true rfl) dX0_draw_46 (does_X1_draw (F_X1_draw (F_X1_draw (F_X1_draw σ 8) (σ 5 0)) (σ 5 0)) (σ 5 1)) ?_
      refine zRx.istore (ls' := [(0, zP 27), (1, .inl x), (2, zP 97), (3, zP 5), (4, .inl q), (5, .inl (V_X1_draw σ 8)), (6, .inl (V_X1_draw (F_X1_draw σ 8) (σ 5 0))), (7, .inl (V_X1_draw (F_X1_draw (F_X1_draw σ 8) (σ 5 0)) (σ 5 0))), (8, .inl (V_X1_draw (F_X1_draw (F_X1_draw (F_X1_draw σ 8) (σ 5 0)) (σ 5 0)) (σ 5 1)))]) rfl (by decide) dX0_draw_49 ?_
      refine zRx.iload 7 rfl dX0_draw_51 ?_
      refine zRx.iload 6 rfl dX0_draw_53 ?_
      refine zRx.icmp_ne (tgt := 79) dX0_draw_55 (by decide) (fun c55 => ?_) (fun c55 => ?_)
      · refine zRx.iload 5 rfl dX0_draw_79 ?_
        by_cases c81_0 : V_X1_draw σ 8 = 0
        · refine zRx.topI (b := 0) c81_0 ?_
          refine zRx.tableIn (tgt := 116) dX0_draw_81 (by decide) (by decide) rfl (by decide) ?_
          refine zRx.aload_n 0 rfl rfl dX0_draw_116 ?_
          refine zRx.aload_n 0 rfl rfl dX0_draw_117 ?_
          refine zRx.getIv (a := 27) (ji := 1) (v := σ 27 1) ((congrFun (fr_F_X1_draw (F_X1_draw (F_X1_draw (F_X1_draw σ 8) (σ 5 0)) (σ 5 0)) (σ 5 1) (k := 27) (by decide)) _).trans ((congrFun (fr_F_X1_draw (F_X1_draw (F_X1_draw σ 8) (σ 5 0)) (σ 5 0) (k := 27) (by decide)) _).trans ((congrFun (fr_F_X1_draw (F_X1_draw σ 8) (σ 5 0) (k := 27) (by decide)) _).trans (congrFun (fr_F_X1_draw σ 8 (k := 27) (by decide)) _)))) fl_0_37 rfl rfl rfl dX0_draw_118 ?_
          refine zRx.iconst ⟨by decide, by decide⟩ dX0_draw_121 ?_
          refine zRx.iaddW dX0_draw_122 ?_
          refine zRx.cVv (M := m_X0_addDay) (av := [.inl (w32 ((σ 27 1) + 1))]) cv_0_67 mk_X0_addDay (by decide) (b := 27) rfl rfl (Nat.le_of_ble_eq_true rfl) dX0_draw_123 (does_X0_addDay_27 (F_X1_draw (F_X1_draw (F_X1_draw (F_X1_draw σ 8) (σ 5 0)) (σ 5 0)) (σ 5 1)) (w32 ((σ 27 1) + 1)) (by rw [show (F_X1_draw (F_X1_draw (F_X1_draw (F_X1_draw σ 8) (σ 5 0)) (σ 5 0)) (σ 5 1)) 27 0 = σ 27 0 from ((congrFun (fr_F_X1_draw (F_X1_draw (F_X1_draw (F_X1_draw σ 8) (σ 5 0)) (σ 5 0)) (σ 5 1) (k := 27) (by decide)) _).trans ((congrFun (fr_F_X1_draw (F_X1_draw (F_X1_draw σ 8) (σ 5 0)) (σ 5 0) (k := 27) (by decide)) _).trans ((congrFun (fr_F_X1_draw (F_X1_draw σ 8) (σ 5 0) (k := 27) (by decide)) _).trans (congrFun (fr_F_X1_draw σ 8 (k := 27) (by decide)) _))))]; exact hL)) ?_
          refine zRx.goto (tgt := 195) dX0_draw_126 (by decide) ?_
          refine zRx.iinc (n := 1) (ls' := [(0, zP 27), (1, .inl x), (2, zP 97), (3, zP 5), (4, .inl (q + 1)), (5, .inl (V_X1_draw σ 8)), (6, .inl (V_X1_draw (F_X1_draw σ 8) (σ 5 0))), (7, .inl (V_X1_draw (F_X1_draw (F_X1_draw σ 8) (σ 5 0)) (σ 5 0))), (8, .inl (V_X1_draw (F_X1_draw (F_X1_draw (F_X1_draw σ 8) (σ 5 0)) (σ 5 0)) (σ 5 1)))]) 4 rfl ⟨by omega, by omega⟩ rfl (by decide) dX0_draw_195 ?_
          refine zRx.goto (tgt := 7) dX0_draw_198 (by decide) ?_
          refine zRx.pick [0, 1, 2, 3, 4] (ls' := [(0, zP 27), (1, .inl x), (2, zP 97), (3, zP 5), (4, .inl (q + 1))]) rfl ?_
          have he : L_X0_draw_7 x (n + 1) q σ = L_X0_draw_7 x n (q + 1) (F_X0_addDay_27 (F_X1_draw (F_X1_draw (F_X1_draw (F_X1_draw σ 8) (σ 5 0)) (σ 5 0)) (σ 5 1)) (w32 ((σ 27 1) + 1))) := by rw [L_X0_draw_7, if_neg (Int.not_le.mpr c10), if_neg c55, if_pos c81_0]
          rw [he]
          exact ih (q + 1) (F_X0_addDay_27 (F_X1_draw (F_X1_draw (F_X1_draw (F_X1_draw σ 8) (σ 5 0)) (σ 5 0)) (σ 5 1)) (w32 ((σ 27 1) + 1))) (by omega) (by rw [addDay27_len, show (F_X1_draw (F_X1_draw (F_X1_draw (F_X1_draw σ 8) (σ 5 0)) (σ 5 0)) (σ 5 1)) 27 0 = σ 27 0 from ((congrFun (fr_F_X1_draw (F_X1_draw (F_X1_draw (F_X1_draw σ 8) (σ 5 0)) (σ 5 0)) (σ 5 1) (k := 27) (by decide)) _).trans ((congrFun (fr_F_X1_draw (F_X1_draw (F_X1_draw σ 8) (σ 5 0)) (σ 5 0) (k := 27) (by decide)) _).trans ((congrFun (fr_F_X1_draw (F_X1_draw σ 8) (σ 5 0) (k := 27) (by decide)) _).trans (congrFun (fr_F_X1_draw σ 8 (k := 27) (by decide)) _))))]; split <;> omega) (by have e9 : (F_X0_addDay_27 (F_X1_draw (F_X1_draw (F_X1_draw (F_X1_draw σ 8) (σ 5 0)) (σ 5 0)) (σ 5 1)) (w32 ((σ 27 1) + 1))) 5 0 = σ 5 0 := ((congrFun (fr_F_X0_addDay_27 (F_X1_draw (F_X1_draw (F_X1_draw (F_X1_draw σ 8) (σ 5 0)) (σ 5 0)) (σ 5 1)) (w32 ((σ 27 1) + 1)) (k := 5) (by decide)) _).trans ((congrFun (fr_F_X1_draw (F_X1_draw (F_X1_draw (F_X1_draw σ 8) (σ 5 0)) (σ 5 0)) (σ 5 1) (k := 5) (by decide)) _).trans ((congrFun (fr_F_X1_draw (F_X1_draw (F_X1_draw σ 8) (σ 5 0)) (σ 5 0) (k := 5) (by decide)) _).trans ((congrFun (fr_F_X1_draw (F_X1_draw σ 8) (σ 5 0) (k := 5) (by decide)) _).trans (congrFun (fr_F_X1_draw σ 8 (k := 5) (by decide)) _))))); omega) (by have e9 : (F_X0_addDay_27 (F_X1_draw (F_X1_draw (F_X1_draw (F_X1_draw σ 8) (σ 5 0)) (σ 5 0)) (σ 5 1)) (w32 ((σ 27 1) + 1))) 5 1 = σ 5 1 := ((congrFun (fr_F_X0_addDay_27 (F_X1_draw (F_X1_draw (F_X1_draw (F_X1_draw σ 8) (σ 5 0)) (σ 5 0)) (σ 5 1)) (w32 ((σ 27 1) + 1)) (k := 5) (by decide)) _).trans ((congrFun (fr_F_X1_draw (F_X1_draw (F_X1_draw (F_X1_draw σ 8) (σ 5 0)) (σ 5 0)) (σ 5 1) (k := 5) (by decide)) _).trans ((congrFun (fr_F_X1_draw (F_X1_draw (F_X1_draw σ 8) (σ 5 0)) (σ 5 0) (k := 5) (by decide)) _).trans ((congrFun (fr_F_X1_draw (F_X1_draw σ 8) (σ 5 0) (k := 5) (by decide)) _).trans (congrFun (fr_F_X1_draw σ 8 (k := 5) (by decide)) _))))); omega) (by omega)
        by_cases c81_1 : V_X1_draw σ 8 = 1
        · refine zRx.topI (b := 1) c81_1 ?_
          refine zRx.tableIn (tgt := 129) dX0_draw_81 (by decide) (by decide) rfl (by decide) ?_
          refine zRx.aload_n 0 rfl rfl dX0_draw_129 ?_
          refine zRx.iconst ⟨by decide, by decide⟩ dX0_draw_130 ?_
          refine zRx.iload 6 rfl dX0_draw_131 ?_
          refine zRx.iload 7 rfl dX0_draw_133 ?_
          refine zRx.iload 8 rfl dX0_draw_135 ?_
          refine zRx.iconst ⟨by decide, by decide⟩ dX0_draw_137 ?_
          refine zRx.iconst ⟨by decide, by decide⟩ dX0_draw_138 ?_
          refine zRx.cVv (M := m_X0_add) (av := [.inl 1, .inl (V_X1_draw (F_X1_draw σ 8) (σ 5 0)), .inl (V_X1_draw (F_X1_draw (F_X1_draw σ 8) (σ 5 0)) (σ 5 0)), .inl (V_X1_draw (F_X1_draw (F_X1_draw (F_X1_draw σ 8) (σ 5 0)) (σ 5 0)) (σ 5 1)), .inl 0, .inl 0]) cv_0_46 mk_X0_add (by decide) (b := 27) rfl rfl (Nat.le_of_ble_eq_true rfl) dX0_draw_139 (does_X0_add_27 (F_X1_draw (F_X1_draw (F_X1_draw (F_X1_draw σ 8) (σ 5 0)) (σ 5 0)) (σ 5 1)) 1 (V_X1_draw (F_X1_draw σ 8) (σ 5 0)) (V_X1_draw (F_X1_draw (F_X1_draw σ 8) (σ 5 0)) (σ 5 0)) (V_X1_draw (F_X1_draw (F_X1_draw (F_X1_draw σ 8) (σ 5 0)) (σ 5 0)) (σ 5 1)) 0 0 (by rw [show (F_X1_draw (F_X1_draw (F_X1_draw (F_X1_draw σ 8) (σ 5 0)) (σ 5 0)) (σ 5 1)) 27 0 = σ 27 0 from ((congrFun (fr_F_X1_draw (F_X1_draw (F_X1_draw (F_X1_draw σ 8) (σ 5 0)) (σ 5 0)) (σ 5 1) (k := 27) (by decide)) _).trans ((congrFun (fr_F_X1_draw (F_X1_draw (F_X1_draw σ 8) (σ 5 0)) (σ 5 0) (k := 27) (by decide)) _).trans ((congrFun (fr_F_X1_draw (F_X1_draw σ 8) (σ 5 0) (k := 27) (by decide)) _).trans (congrFun (fr_F_X1_draw σ 8 (k := 27) (by decide)) _))))]; exact hL)) ?_
          refine zRx.goto (tgt := 195) dX0_draw_142 (by decide) ?_
          refine zRx.iinc (n := 1) (ls' := [(0, zP 27), (1, .inl x), (2, zP 97), (3, zP 5), (4, .inl (q + 1)), (5, .inl (V_X1_draw σ 8)), (6, .inl (V_X1_draw (F_X1_draw σ 8) (σ 5 0))), (7, .inl (V_X1_draw (F_X1_draw (F_X1_draw σ 8) (σ 5 0)) (σ 5 0))), (8, .inl (V_X1_draw (F_X1_draw (F_X1_draw (F_X1_draw σ 8) (σ 5 0)) (σ 5 0)) (σ 5 1)))]) 4 rfl ⟨by omega, by omega⟩ rfl (by decide) dX0_draw_195 ?_
          refine zRx.goto (tgt := 7) dX0_draw_198 (by decide) ?_
          refine zRx.pick [0, 1, 2, 3, 4] (ls' := [(0, zP 27), (1, .inl x), (2, zP 97), (3, zP 5), (4, .inl (q + 1))]) rfl ?_
          have he : L_X0_draw_7 x (n + 1) q σ = L_X0_draw_7 x n (q + 1) (F_X0_add_27 (F_X1_draw (F_X1_draw (F_X1_draw (F_X1_draw σ 8) (σ 5 0)) (σ 5 0)) (σ 5 1)) 1 (V_X1_draw (F_X1_draw σ 8) (σ 5 0)) (V_X1_draw (F_X1_draw (F_X1_draw σ 8) (σ 5 0)) (σ 5 0)) (V_X1_draw (F_X1_draw (F_X1_draw (F_X1_draw σ 8) (σ 5 0)) (σ 5 0)) (σ 5 1)) 0 0) := by rw [L_X0_draw_7, if_neg (Int.not_le.mpr c10), if_neg c55, if_neg c81_0, if_pos c81_1]
          rw [he]
          exact ih (q + 1) (F_X0_add_27 (F_X1_draw (F_X1_draw (F_X1_draw (F_X1_draw σ 8) (σ 5 0)) (σ 5 0)) (σ 5 1)) 1 (V_X1_draw (F_X1_draw σ 8) (σ 5 0)) (V_X1_draw (F_X1_draw (F_X1_draw σ 8) (σ 5 0)) (σ 5 0)) (V_X1_draw (F_X1_draw (F_X1_draw (F_X1_draw σ 8) (σ 5 0)) (σ 5 0)) (σ 5 1)) 0 0) (by omega) (by rw [add27_len, show (F_X1_draw (F_X1_draw (F_X1_draw (F_X1_draw σ 8) (σ 5 0)) (σ 5 0)) (σ 5 1)) 27 0 = σ 27 0 from ((congrFun (fr_F_X1_draw (F_X1_draw (F_X1_draw (F_X1_draw σ 8) (σ 5 0)) (σ 5 0)) (σ 5 1) (k := 27) (by decide)) _).trans ((congrFun (fr_F_X1_draw (F_X1_draw (F_X1_draw σ 8) (σ 5 0)) (σ 5 0) (k := 27) (by decide)) _).trans ((congrFun (fr_F_X1_draw (F_X1_draw σ 8) (σ 5 0) (k := 27) (by decide)) _).trans (congrFun (fr_F_X1_draw σ 8 (k := 27) (by decide)) _))))]; split <;> omega) (by have e9 : (F_X0_add_27 (F_X1_draw (F_X1_draw (F_X1_draw (F_X1_draw σ 8) (σ 5 0)) (σ 5 0)) (σ 5 1)) 1 (V_X1_draw (F_X1_draw σ 8) (σ 5 0)) (V_X1_draw (F_X1_draw (F_X1_draw σ 8) (σ 5 0)) (σ 5 0)) (V_X1_draw (F_X1_draw (F_X1_draw (F_X1_draw σ 8) (σ 5 0)) (σ 5 0)) (σ 5 1)) 0 0) 5 0 = σ 5 0 := ((congrFun (fr_F_X0_add_27 (F_X1_draw (F_X1_draw (F_X1_draw (F_X1_draw σ 8) (σ 5 0)) (σ 5 0)) (σ 5 1)) 1 (V_X1_draw (F_X1_draw σ 8) (σ 5 0)) (V_X1_draw (F_X1_draw (F_X1_draw σ 8) (σ 5 0)) (σ 5 0)) (V_X1_draw (F_X1_draw (F_X1_draw (F_X1_draw σ 8) (σ 5 0)) (σ 5 0)) (σ 5 1)) 0 0 (k := 5) (by decide)) _).trans ((congrFun (fr_F_X1_draw (F_X1_draw (F_X1_draw (F_X1_draw σ 8) (σ 5 0)) (σ 5 0)) (σ 5 1) (k := 5) (by decide)) _).trans ((congrFun (fr_F_X1_draw (F_X1_draw (F_X1_draw σ 8) (σ 5 0)) (σ 5 0) (k := 5) (by decide)) _).trans ((congrFun (fr_F_X1_draw (F_X1_draw σ 8) (σ 5 0) (k := 5) (by decide)) _).trans (congrFun (fr_F_X1_draw σ 8 (k := 5) (by decide)) _))))); omega) (by have e9 : (F_X0_add_27 (F_X1_draw (F_X1_draw (F_X1_draw (F_X1_draw σ 8) (σ 5 0)) (σ 5 0)) (σ 5 1)) 1 (V_X1_draw (F_X1_draw σ 8) (σ 5 0)) (V_X1_draw (F_X1_draw (F_X1_draw σ 8) (σ 5 0)) (σ 5 0)) (V_X1_draw (F_X1_draw (F_X1_draw (F_X1_draw σ 8) (σ 5 0)) (σ 5 0)) (σ 5 1)) 0 0) 5 1 = σ 5 1 := ((congrFun (fr_F_X0_add_27 (F_X1_draw (F_X1_draw (F_X1_draw (F_X1_draw σ 8) (σ 5 0)) (σ 5 0)) (σ 5 1)) 1 (V_X1_draw (F_X1_draw σ 8) (σ 5 0)) (V_X1_draw (F_X1_draw (F_X1_draw σ 8) (σ 5 0)) (σ 5 0)) (V_X1_draw (F_X1_draw (F_X1_draw (F_X1_draw σ 8) (σ 5 0)) (σ 5 0)) (σ 5 1)) 0 0 (k := 5) (by decide)) _).trans ((congrFun (fr_F_X1_draw (F_X1_draw (F_X1_draw (F_X1_draw σ 8) (σ 5 0)) (σ 5 0)) (σ 5 1) (k := 5) (by decide)) _).trans ((congrFun (fr_F_X1_draw (F_X1_draw (F_X1_draw σ 8) (σ 5 0)) (σ 5 0) (k := 5) (by decide)) _).trans ((congrFun (fr_F_X1_draw (F_X1_draw σ 8) (σ 5 0) (k := 5) (by decide)) _).trans (congrFun (fr_F_X1_draw σ 8 (k := 5) (by decide)) _))))); omega) (by omega)
        by_cases c81_2 : V_X1_draw σ 8 = 2
        · refine zRx.topI (b := 2) c81_2 ?_
          refine zRx.tableIn (tgt := 129) dX0_draw_81 (by decide) (by decide) rfl (by decide) ?_
          refine zRx.aload_n 0 rfl rfl dX0_draw_129 ?_
          refine zRx.iconst ⟨by decide, by decide⟩ dX0_draw_130 ?_
          refine zRx.iload 6 rfl dX0_draw_131 ?_
          refine zRx.iload 7 rfl dX0_draw_133 ?_
          refine zRx.iload 8 rfl dX0_draw_135 ?_
          refine zRx.iconst ⟨by decide, by decide⟩ dX0_draw_137 ?_
          refine zRx.iconst ⟨by decide, by decide⟩ dX0_draw_138 ?_
          refine zRx.cVv (M := m_X0_add) (av := [.inl 1, .inl (V_X1_draw (F_X1_draw σ 8) (σ 5 0)), .inl (V_X1_draw (F_X1_draw (F_X1_draw σ 8) (σ 5 0)) (σ 5 0)), .inl (V_X1_draw (F_X1_draw (F_X1_draw (F_X1_draw σ 8) (σ 5 0)) (σ 5 0)) (σ 5 1)), .inl 0, .inl 0]) cv_0_46 mk_X0_add (by decide) (b := 27) rfl rfl (Nat.le_of_ble_eq_true rfl) dX0_draw_139 (does_X0_add_27 (F_X1_draw (F_X1_draw (F_X1_draw (F_X1_draw σ 8) (σ 5 0)) (σ 5 0)) (σ 5 1)) 1 (V_X1_draw (F_X1_draw σ 8) (σ 5 0)) (V_X1_draw (F_X1_draw (F_X1_draw σ 8) (σ 5 0)) (σ 5 0)) (V_X1_draw (F_X1_draw (F_X1_draw (F_X1_draw σ 8) (σ 5 0)) (σ 5 0)) (σ 5 1)) 0 0 (by rw [show (F_X1_draw (F_X1_draw (F_X1_draw (F_X1_draw σ 8) (σ 5 0)) (σ 5 0)) (σ 5 1)) 27 0 = σ 27 0 from ((congrFun (fr_F_X1_draw (F_X1_draw (F_X1_draw (F_X1_draw σ 8) (σ 5 0)) (σ 5 0)) (σ 5 1) (k := 27) (by decide)) _).trans ((congrFun (fr_F_X1_draw (F_X1_draw (F_X1_draw σ 8) (σ 5 0)) (σ 5 0) (k := 27) (by decide)) _).trans ((congrFun (fr_F_X1_draw (F_X1_draw σ 8) (σ 5 0) (k := 27) (by decide)) _).trans (congrFun (fr_F_X1_draw σ 8 (k := 27) (by decide)) _))))]; exact hL)) ?_
          refine zRx.goto (tgt := 195) dX0_draw_142 (by decide) ?_
          refine zRx.iinc (n := 1) (ls' := [(0, zP 27), (1, .inl x), (2, zP 97), (3, zP 5), (4, .inl (q + 1)), (5, .inl (V_X1_draw σ 8)), (6, .inl (V_X1_draw (F_X1_draw σ 8) (σ 5 0))), (7, .inl (V_X1_draw (F_X1_draw (F_X1_draw σ 8) (σ 5 0)) (σ 5 0))), (8, .inl (V_X1_draw (F_X1_draw (F_X1_draw (F_X1_draw σ 8) (σ 5 0)) (σ 5 0)) (σ 5 1)))]) 4 rfl ⟨by omega, by omega⟩ rfl (by decide) dX0_draw_195 ?_
          refine zRx.goto (tgt := 7) dX0_draw_198 (by decide) ?_
          refine zRx.pick [0, 1, 2, 3, 4] (ls' := [(0, zP 27), (1, .inl x), (2, zP 97), (3, zP 5), (4, .inl (q + 1))]) rfl ?_
          have he : L_X0_draw_7 x (n + 1) q σ = L_X0_draw_7 x n (q + 1) (F_X0_add_27 (F_X1_draw (F_X1_draw (F_X1_draw (F_X1_draw σ 8) (σ 5 0)) (σ 5 0)) (σ 5 1)) 1 (V_X1_draw (F_X1_draw σ 8) (σ 5 0)) (V_X1_draw (F_X1_draw (F_X1_draw σ 8) (σ 5 0)) (σ 5 0)) (V_X1_draw (F_X1_draw (F_X1_draw (F_X1_draw σ 8) (σ 5 0)) (σ 5 0)) (σ 5 1)) 0 0) := by rw [L_X0_draw_7, if_neg (Int.not_le.mpr c10), if_neg c55, if_neg c81_0, if_neg c81_1, if_pos c81_2]
          rw [he]
          exact ih (q + 1) (F_X0_add_27 (F_X1_draw (F_X1_draw (F_X1_draw (F_X1_draw σ 8) (σ 5 0)) (σ 5 0)) (σ 5 1)) 1 (V_X1_draw (F_X1_draw σ 8) (σ 5 0)) (V_X1_draw (F_X1_draw (F_X1_draw σ 8) (σ 5 0)) (σ 5 0)) (V_X1_draw (F_X1_draw (F_X1_draw (F_X1_draw σ 8) (σ 5 0)) (σ 5 0)) (σ 5 1)) 0 0) (by omega) (by rw [add27_len, show (F_X1_draw (F_X1_draw (F_X1_draw (F_X1_draw σ 8) (σ 5 0)) (σ 5 0)) (σ 5 1)) 27 0 = σ 27 0 from ((congrFun (fr_F_X1_draw (F_X1_draw (F_X1_draw (F_X1_draw σ 8) (σ 5 0)) (σ 5 0)) (σ 5 1) (k := 27) (by decide)) _).trans ((congrFun (fr_F_X1_draw (F_X1_draw (F_X1_draw σ 8) (σ 5 0)) (σ 5 0) (k := 27) (by decide)) _).trans ((congrFun (fr_F_X1_draw (F_X1_draw σ 8) (σ 5 0) (k := 27) (by decide)) _).trans (congrFun (fr_F_X1_draw σ 8 (k := 27) (by decide)) _))))]; split <;> omega) (by have e9 : (F_X0_add_27 (F_X1_draw (F_X1_draw (F_X1_draw (F_X1_draw σ 8) (σ 5 0)) (σ 5 0)) (σ 5 1)) 1 (V_X1_draw (F_X1_draw σ 8) (σ 5 0)) (V_X1_draw (F_X1_draw (F_X1_draw σ 8) (σ 5 0)) (σ 5 0)) (V_X1_draw (F_X1_draw (F_X1_draw (F_X1_draw σ 8) (σ 5 0)) (σ 5 0)) (σ 5 1)) 0 0) 5 0 = σ 5 0 := ((congrFun (fr_F_X0_add_27 (F_X1_draw (F_X1_draw (F_X1_draw (F_X1_draw σ 8) (σ 5 0)) (σ 5 0)) (σ 5 1)) 1 (V_X1_draw (F_X1_draw σ 8) (σ 5 0)) (V_X1_draw (F_X1_draw (F_X1_draw σ 8) (σ 5 0)) (σ 5 0)) (V_X1_draw (F_X1_draw (F_X1_draw (F_X1_draw σ 8) (σ 5 0)) (σ 5 0)) (σ 5 1)) 0 0 (k := 5) (by decide)) _).trans ((congrFun (fr_F_X1_draw (F_X1_draw (F_X1_draw (F_X1_draw σ 8) (σ 5 0)) (σ 5 0)) (σ 5 1) (k := 5) (by decide)) _).trans ((congrFun (fr_F_X1_draw (F_X1_draw (F_X1_draw σ 8) (σ 5 0)) (σ 5 0) (k := 5) (by decide)) _).trans ((congrFun (fr_F_X1_draw (F_X1_draw σ 8) (σ 5 0) (k := 5) (by decide)) _).trans (congrFun (fr_F_X1_draw σ 8 (k := 5) (by decide)) _))))); omega) (by have e9 : (F_X0_add_27 (F_X1_draw (F_X1_draw (F_X1_draw (F_X1_draw σ 8) (σ 5 0)) (σ 5 0)) (σ 5 1)) 1 (V_X1_draw (F_X1_draw σ 8) (σ 5 0)) (V_X1_draw (F_X1_draw (F_X1_draw σ 8) (σ 5 0)) (σ 5 0)) (V_X1_draw (F_X1_draw (F_X1_draw (F_X1_draw σ 8) (σ 5 0)) (σ 5 0)) (σ 5 1)) 0 0) 5 1 = σ 5 1 := ((congrFun (fr_F_X0_add_27 (F_X1_draw (F_X1_draw (F_X1_draw (F_X1_draw σ 8) (σ 5 0)) (σ 5 0)) (σ 5 1)) 1 (V_X1_draw (F_X1_draw σ 8) (σ 5 0)) (V_X1_draw (F_X1_draw (F_X1_draw σ 8) (σ 5 0)) (σ 5 0)) (V_X1_draw (F_X1_draw (F_X1_draw (F_X1_draw σ 8) (σ 5 0)) (σ 5 0)) (σ 5 1)) 0 0 (k := 5) (by decide)) _).trans ((congrFun (fr_F_X1_draw (F_X1_draw (F_X1_draw (F_X1_draw σ 8) (σ 5 0)) (σ 5 0)) (σ 5 1) (k := 5) (by decide)) _).trans ((congrFun (fr_F_X1_draw (F_X1_draw (F_X1_draw σ 8) (σ 5 0)) (σ 5 0) (k := 5) (by decide)) _).trans ((congrFun (fr_F_X1_draw (F_X1_draw σ 8) (σ 5 0) (k := 5) (by decide)) _).trans (congrFun (fr_F_X1_draw σ 8 (k := 5) (by decide)) _))))); omega) (by omega)
        by_cases c81_3 : V_X1_draw σ 8 = 3
        · refine zRx.topI (b := 3) c81_3 ?_
          refine zRx.tableIn (tgt := 145) dX0_draw_81 (by decide) (by decide) rfl (by decide) ?_
          refine zRx.aload_n 0 rfl rfl dX0_draw_145 ?_
          refine zRx.iconst ⟨by decide, by decide⟩ dX0_draw_146 ?_
          refine zRx.iload 6 rfl dX0_draw_147 ?_
          refine zRx.iload 7 rfl dX0_draw_149 ?_
          refine zRx.iload 8 rfl dX0_draw_151 ?_
          refine zRx.iconst ⟨by decide, by decide⟩ dX0_draw_153 ?_
          refine zRx.iconst ⟨by decide, by decide⟩ dX0_draw_154 ?_
          refine zRx.cVv (M := m_X0_add) (av := [.inl 2, .inl (V_X1_draw (F_X1_draw σ 8) (σ 5 0)), .inl (V_X1_draw (F_X1_draw (F_X1_draw σ 8) (σ 5 0)) (σ 5 0)), .inl (V_X1_draw (F_X1_draw (F_X1_draw (F_X1_draw σ 8) (σ 5 0)) (σ 5 0)) (σ 5 1)), .inl 0, .inl 0]) cv_0_46 mk_X0_add (by decide) (b := 27) rfl rfl (Nat.le_of_ble_eq_true rfl) dX0_draw_155 (does_X0_add_27 (F_X1_draw (F_X1_draw (F_X1_draw (F_X1_draw σ 8) (σ 5 0)) (σ 5 0)) (σ 5 1)) 2 (V_X1_draw (F_X1_draw σ 8) (σ 5 0)) (V_X1_draw (F_X1_draw (F_X1_draw σ 8) (σ 5 0)) (σ 5 0)) (V_X1_draw (F_X1_draw (F_X1_draw (F_X1_draw σ 8) (σ 5 0)) (σ 5 0)) (σ 5 1)) 0 0 (by rw [show (F_X1_draw (F_X1_draw (F_X1_draw (F_X1_draw σ 8) (σ 5 0)) (σ 5 0)) (σ 5 1)) 27 0 = σ 27 0 from ((congrFun (fr_F_X1_draw (F_X1_draw (F_X1_draw (F_X1_draw σ 8) (σ 5 0)) (σ 5 0)) (σ 5 1) (k := 27) (by decide)) _).trans ((congrFun (fr_F_X1_draw (F_X1_draw (F_X1_draw σ 8) (σ 5 0)) (σ 5 0) (k := 27) (by decide)) _).trans ((congrFun (fr_F_X1_draw (F_X1_draw σ 8) (σ 5 0) (k := 27) (by decide)) _).trans (congrFun (fr_F_X1_draw σ 8 (k := 27) (by decide)) _))))]; exact hL)) ?_
          refine zRx.goto (tgt := 195) dX0_draw_158 (by decide) ?_
          refine zRx.iinc (n := 1) (ls' := [(0, zP 27), (1, .inl x), (2, zP 97), (3, zP 5), (4, .inl (q + 1)), (5, .inl (V_X1_draw σ 8)), (6, .inl (V_X1_draw (F_X1_draw σ 8) (σ 5 0))), (7, .inl (V_X1_draw (F_X1_draw (F_X1_draw σ 8) (σ 5 0)) (σ 5 0))), (8, .inl (V_X1_draw (F_X1_draw (F_X1_draw (F_X1_draw σ 8) (σ 5 0)) (σ 5 0)) (σ 5 1)))]) 4 rfl ⟨by omega, by omega⟩ rfl (by decide) dX0_draw_195 ?_
          refine zRx.goto (tgt := 7) dX0_draw_198 (by decide) ?_
          refine zRx.pick [0, 1, 2, 3, 4] (ls' := [(0, zP 27), (1, .inl x), (2, zP 97), (3, zP 5), (4, .inl (q + 1))]) rfl ?_
          have he : L_X0_draw_7 x (n + 1) q σ = L_X0_draw_7 x n (q + 1) (F_X0_add_27 (F_X1_draw (F_X1_draw (F_X1_draw (F_X1_draw σ 8) (σ 5 0)) (σ 5 0)) (σ 5 1)) 2 (V_X1_draw (F_X1_draw σ 8) (σ 5 0)) (V_X1_draw (F_X1_draw (F_X1_draw σ 8) (σ 5 0)) (σ 5 0)) (V_X1_draw (F_X1_draw (F_X1_draw (F_X1_draw σ 8) (σ 5 0)) (σ 5 0)) (σ 5 1)) 0 0) := by rw [L_X0_draw_7, if_neg (Int.not_le.mpr c10), if_neg c55, if_neg c81_0, if_neg c81_1, if_neg c81_2, if_pos c81_3]
          rw [he]
          exact ih (q + 1) (F_X0_add_27 (F_X1_draw (F_X1_draw (F_X1_draw (F_X1_draw σ 8) (σ 5 0)) (σ 5 0)) (σ 5 1)) 2 (V_X1_draw (F_X1_draw σ 8) (σ 5 0)) (V_X1_draw (F_X1_draw (F_X1_draw σ 8) (σ 5 0)) (σ 5 0)) (V_X1_draw (F_X1_draw (F_X1_draw (F_X1_draw σ 8) (σ 5 0)) (σ 5 0)) (σ 5 1)) 0 0) (by omega) (by rw [add27_len, show (F_X1_draw (F_X1_draw (F_X1_draw (F_X1_draw σ 8) (σ 5 0)) (σ 5 0)) (σ 5 1)) 27 0 = σ 27 0 from ((congrFun (fr_F_X1_draw (F_X1_draw (F_X1_draw (F_X1_draw σ 8) (σ 5 0)) (σ 5 0)) (σ 5 1) (k := 27) (by decide)) _).trans ((congrFun (fr_F_X1_draw (F_X1_draw (F_X1_draw σ 8) (σ 5 0)) (σ 5 0) (k := 27) (by decide)) _).trans ((congrFun (fr_F_X1_draw (F_X1_draw σ 8) (σ 5 0) (k := 27) (by decide)) _).trans (congrFun (fr_F_X1_draw σ 8 (k := 27) (by decide)) _))))]; split <;> omega) (by have e9 : (F_X0_add_27 (F_X1_draw (F_X1_draw (F_X1_draw (F_X1_draw σ 8) (σ 5 0)) (σ 5 0)) (σ 5 1)) 2 (V_X1_draw (F_X1_draw σ 8) (σ 5 0)) (V_X1_draw (F_X1_draw (F_X1_draw σ 8) (σ 5 0)) (σ 5 0)) (V_X1_draw (F_X1_draw (F_X1_draw (F_X1_draw σ 8) (σ 5 0)) (σ 5 0)) (σ 5 1)) 0 0) 5 0 = σ 5 0 := ((congrFun (fr_F_X0_add_27 (F_X1_draw (F_X1_draw (F_X1_draw (F_X1_draw σ 8) (σ 5 0)) (σ 5 0)) (σ 5 1)) 2 (V_X1_draw (F_X1_draw σ 8) (σ 5 0)) (V_X1_draw (F_X1_draw (F_X1_draw σ 8) (σ 5 0)) (σ 5 0)) (V_X1_draw (F_X1_draw (F_X1_draw (F_X1_draw σ 8) (σ 5 0)) (σ 5 0)) (σ 5 1)) 0 0 (k := 5) (by decide)) _).trans ((congrFun (fr_F_X1_draw (F_X1_draw (F_X1_draw (F_X1_draw σ 8) (σ 5 0)) (σ 5 0)) (σ 5 1) (k := 5) (by decide)) _).trans ((congrFun (fr_F_X1_draw (F_X1_draw (F_X1_draw σ 8) (σ 5 0)) (σ 5 0) (k := 5) (by decide)) _).trans ((congrFun (fr_F_X1_draw (F_X1_draw σ 8) (σ 5 0) (k := 5) (by decide)) _).trans (congrFun (fr_F_X1_draw σ 8 (k := 5) (by decide)) _))))); omega) (by have e9 : (F_X0_add_27 (F_X1_draw (F_X1_draw (F_X1_draw (F_X1_draw σ 8) (σ 5 0)) (σ 5 0)) (σ 5 1)) 2 (V_X1_draw (F_X1_draw σ 8) (σ 5 0)) (V_X1_draw (F_X1_draw (F_X1_draw σ 8) (σ 5 0)) (σ 5 0)) (V_X1_draw (F_X1_draw (F_X1_draw (F_X1_draw σ 8) (σ 5 0)) (σ 5 0)) (σ 5 1)) 0 0) 5 1 = σ 5 1 := ((congrFun (fr_F_X0_add_27 (F_X1_draw (F_X1_draw (F_X1_draw (F_X1_draw σ 8) (σ 5 0)) (σ 5 0)) (σ 5 1)) 2 (V_X1_draw (F_X1_draw σ 8) (σ 5 0)) (V_X1_draw (F_X1_draw (F_X1_draw σ 8) (σ 5 0)) (σ 5 0)) (V_X1_draw (F_X1_draw (F_X1_draw (F_X1_draw σ 8) (σ 5 0)) (σ 5 0)) (σ 5 1)) 0 0 (k := 5) (by decide)) _).trans ((congrFun (fr_F_X1_draw (F_X1_draw (F_X1_draw (F_X1_draw σ 8) (σ 5 0)) (σ 5 0)) (σ 5 1) (k := 5) (by decide)) _).trans ((congrFun (fr_F_X1_draw (F_X1_draw (F_X1_draw σ 8) (σ 5 0)) (σ 5 0) (k := 5) (by decide)) _).trans ((congrFun (fr_F_X1_draw (F_X1_draw σ 8) (σ 5 0) (k := 5) (by decide)) _).trans (congrFun (fr_F_X1_draw σ 8 (k := 5) (by decide)) _))))); omega) (by omega)
        by_cases c81_4 : V_X1_draw σ 8 = 4
        · refine zRx.topI (b := 4) c81_4 ?_
          refine zRx.tableIn (tgt := 161) dX0_draw_81 (by decide) (by decide) rfl (by decide) ?_
          refine zRx.aload_n 0 rfl rfl dX0_draw_161 ?_
          refine zRx.iconst ⟨by decide, by decide⟩ dX0_draw_162 ?_
          refine zRx.iload 6 rfl dX0_draw_163 ?_
          refine zRx.iload 7 rfl dX0_draw_165 ?_
          refine zRx.iload 8 rfl dX0_draw_167 ?_
          refine zRx.aload_n 2 rfl rfl dX0_draw_169 ?_
          refine zRx.bipush ⟨by decide, by decide⟩ rfl dX0_draw_170 ?_
          refine zRx.cVi (w := .inl (V_X1_draw (F_X1_draw (F_X1_draw (F_X1_draw (F_X1_draw σ 8) (σ 5 0)) (σ 5 0)) (σ 5 1)) 20)) (M := m_X1_draw) (av := [.inl 20]) cv_0_53 mk_X1_draw (by decide) (b := 97) rfl rfl (Nat.le_of_ble_eq_true rfl) dX0_draw_172 (does_X1_draw (F_X1_draw (F_X1_draw (F_X1_draw (F_X1_draw σ 8) (σ 5 0)) (σ 5 0)) (σ 5 1)) 20) ?_
          refine zRx.iconst ⟨by decide, by decide⟩ dX0_draw_175 ?_
          refine zRx.cVv (M := m_X0_add) (av := [.inl 4, .inl (V_X1_draw (F_X1_draw σ 8) (σ 5 0)), .inl (V_X1_draw (F_X1_draw (F_X1_draw σ 8) (σ 5 0)) (σ 5 0)), .inl (V_X1_draw (F_X1_draw (F_X1_draw (F_X1_draw σ 8) (σ 5 0)) (σ 5 0)) (σ 5 1)), .inl (V_X1_draw (F_X1_draw (F_X1_draw (F_X1_draw (F_X1_draw σ 8) (σ 5 0)) (σ 5 0)) (σ 5 1)) 20), .inl 0]) cv_0_46 mk_X0_add (by decide) (b := 27) rfl rfl (Nat.le_of_ble_eq_true rfl) dX0_draw_176 (does_X0_add_27 (F_X1_draw (F_X1_draw (F_X1_draw (F_X1_draw (F_X1_draw σ 8) (σ 5 0)) (σ 5 0)) (σ 5 1)) 20) 4 (V_X1_draw (F_X1_draw σ 8) (σ 5 0)) (V_X1_draw (F_X1_draw (F_X1_draw σ 8) (σ 5 0)) (σ 5 0)) (V_X1_draw (F_X1_draw (F_X1_draw (F_X1_draw σ 8) (σ 5 0)) (σ 5 0)) (σ 5 1)) (V_X1_draw (F_X1_draw (F_X1_draw (F_X1_draw (F_X1_draw σ 8) (σ 5 0)) (σ 5 0)) (σ 5 1)) 20) 0 (by rw [show (F_X1_draw (F_X1_draw (F_X1_draw (F_X1_draw (F_X1_draw σ 8) (σ 5 0)) (σ 5 0)) (σ 5 1)) 20) 27 0 = σ 27 0 from ((congrFun (fr_F_X1_draw (F_X1_draw (F_X1_draw (F_X1_draw (F_X1_draw σ 8) (σ 5 0)) (σ 5 0)) (σ 5 1)) 20 (k := 27) (by decide)) _).trans ((congrFun (fr_F_X1_draw (F_X1_draw (F_X1_draw (F_X1_draw σ 8) (σ 5 0)) (σ 5 0)) (σ 5 1) (k := 27) (by decide)) _).trans ((congrFun (fr_F_X1_draw (F_X1_draw (F_X1_draw σ 8) (σ 5 0)) (σ 5 0) (k := 27) (by decide)) _).trans ((congrFun (fr_F_X1_draw (F_X1_draw σ 8) (σ 5 0) (k := 27) (by decide)) _).trans (congrFun (fr_F_X1_draw σ 8 (k := 27) (by decide)) _)))))]; exact hL)) ?_
          refine zRx.goto (tgt := 195) dX0_draw_179 (by decide) ?_
          refine zRx.iinc (n := 1) (ls' := [(0, zP 27), (1, .inl x), (2, zP 97), (3, zP 5), (4, .inl (q + 1)), (5, .inl (V_X1_draw σ 8)), (6, .inl (V_X1_draw (F_X1_draw σ 8) (σ 5 0))), (7, .inl (V_X1_draw (F_X1_draw (F_X1_draw σ 8) (σ 5 0)) (σ 5 0))), (8, .inl (V_X1_draw (F_X1_draw (F_X1_draw (F_X1_draw σ 8) (σ 5 0)) (σ 5 0)) (σ 5 1)))]) 4 rfl ⟨by omega, by omega⟩ rfl (by decide) dX0_draw_195 ?_
          refine zRx.goto (tgt := 7) dX0_draw_198 (by decide) ?_
          refine zRx.pick [0, 1, 2, 3, 4] (ls' := [(0, zP 27), (1, .inl x), (2, zP 97), (3, zP 5), (4, .inl (q + 1))]) rfl ?_
          have he : L_X0_draw_7 x (n + 1) q σ = L_X0_draw_7 x n (q + 1) (F_X0_add_27 (F_X1_draw (F_X1_draw (F_X1_draw (F_X1_draw (F_X1_draw σ 8) (σ 5 0)) (σ 5 0)) (σ 5 1)) 20) 4 (V_X1_draw (F_X1_draw σ 8) (σ 5 0)) (V_X1_draw (F_X1_draw (F_X1_draw σ 8) (σ 5 0)) (σ 5 0)) (V_X1_draw (F_X1_draw (F_X1_draw (F_X1_draw σ 8) (σ 5 0)) (σ 5 0)) (σ 5 1)) (V_X1_draw (F_X1_draw (F_X1_draw (F_X1_draw (F_X1_draw σ 8) (σ 5 0)) (σ 5 0)) (σ 5 1)) 20) 0) := by rw [L_X0_draw_7, if_neg (Int.not_le.mpr c10), if_neg c55, if_neg c81_0, if_neg c81_1, if_neg c81_2, if_neg c81_3, if_pos c81_4]
          rw [he]
          exact ih (q + 1) (F_X0_add_27 (F_X1_draw (F_X1_draw (F_X1_draw (F_X1_draw (F_X1_draw σ 8) (σ 5 0)) (σ 5 0)) (σ 5 1)) 20) 4 (V_X1_draw (F_X1_draw σ 8) (σ 5 0)) (V_X1_draw (F_X1_draw (F_X1_draw σ 8) (σ 5 0)) (σ 5 0)) (V_X1_draw (F_X1_draw (F_X1_draw (F_X1_draw σ 8) (σ 5 0)) (σ 5 0)) (σ 5 1)) (V_X1_draw (F_X1_draw (F_X1_draw (F_X1_draw (F_X1_draw σ 8) (σ 5 0)) (σ 5 0)) (σ 5 1)) 20) 0) (by omega) (by rw [add27_len, show (F_X1_draw (F_X1_draw (F_X1_draw (F_X1_draw (F_X1_draw σ 8) (σ 5 0)) (σ 5 0)) (σ 5 1)) 20) 27 0 = σ 27 0 from ((congrFun (fr_F_X1_draw (F_X1_draw (F_X1_draw (F_X1_draw (F_X1_draw σ 8) (σ 5 0)) (σ 5 0)) (σ 5 1)) 20 (k := 27) (by decide)) _).trans ((congrFun (fr_F_X1_draw (F_X1_draw (F_X1_draw (F_X1_draw σ 8) (σ 5 0)) (σ 5 0)) (σ 5 1) (k := 27) (by decide)) _).trans ((congrFun (fr_F_X1_draw (F_X1_draw (F_X1_draw σ 8) (σ 5 0)) (σ 5 0) (k := 27) (by decide)) _).trans ((congrFun (fr_F_X1_draw (F_X1_draw σ 8) (σ 5 0) (k := 27) (by decide)) _).trans (congrFun (fr_F_X1_draw σ 8 (k := 27) (by decide)) _)))))]; split <;> omega) (by have e9 : (F_X0_add_27 (F_X1_draw (F_X1_draw (F_X1_draw (F_X1_draw (F_X1_draw σ 8) (σ 5 0)) (σ 5 0)) (σ 5 1)) 20) 4 (V_X1_draw (F_X1_draw σ 8) (σ 5 0)) (V_X1_draw (F_X1_draw (F_X1_draw σ 8) (σ 5 0)) (σ 5 0)) (V_X1_draw (F_X1_draw (F_X1_draw (F_X1_draw σ 8) (σ 5 0)) (σ 5 0)) (σ 5 1)) (V_X1_draw (F_X1_draw (F_X1_draw (F_X1_draw (F_X1_draw σ 8) (σ 5 0)) (σ 5 0)) (σ 5 1)) 20) 0) 5 0 = σ 5 0 := ((congrFun (fr_F_X0_add_27 (F_X1_draw (F_X1_draw (F_X1_draw (F_X1_draw (F_X1_draw σ 8) (σ 5 0)) (σ 5 0)) (σ 5 1)) 20) 4 (V_X1_draw (F_X1_draw σ 8) (σ 5 0)) (V_X1_draw (F_X1_draw (F_X1_draw σ 8) (σ 5 0)) (σ 5 0)) (V_X1_draw (F_X1_draw (F_X1_draw (F_X1_draw σ 8) (σ 5 0)) (σ 5 0)) (σ 5 1)) (V_X1_draw (F_X1_draw (F_X1_draw (F_X1_draw (F_X1_draw σ 8) (σ 5 0)) (σ 5 0)) (σ 5 1)) 20) 0 (k := 5) (by decide)) _).trans ((congrFun (fr_F_X1_draw (F_X1_draw (F_X1_draw (F_X1_draw (F_X1_draw σ 8) (σ 5 0)) (σ 5 0)) (σ 5 1)) 20 (k := 5) (by decide)) _).trans ((congrFun (fr_F_X1_draw (F_X1_draw (F_X1_draw (F_X1_draw σ 8) (σ 5 0)) (σ 5 0)) (σ 5 1) (k := 5) (by decide)) _).trans ((congrFun (fr_F_X1_draw (F_X1_draw (F_X1_draw σ 8) (σ 5 0)) (σ 5 0) (k := 5) (by decide)) _).trans ((congrFun (fr_F_X1_draw (F_X1_draw σ 8) (σ 5 0) (k := 5) (by decide)) _).trans (congrFun (fr_F_X1_draw σ 8 (k := 5) (by decide)) _)))))); omega) (by have e9 : (F_X0_add_27 (F_X1_draw (F_X1_draw (F_X1_draw (F_X1_draw (F_X1_draw σ 8) (σ 5 0)) (σ 5 0)) (σ 5 1)) 20) 4 (V_X1_draw (F_X1_draw σ 8) (σ 5 0)) (V_X1_draw (F_X1_draw (F_X1_draw σ 8) (σ 5 0)) (σ 5 0)) (V_X1_draw (F_X1_draw (F_X1_draw (F_X1_draw σ 8) (σ 5 0)) (σ 5 0)) (σ 5 1)) (V_X1_draw (F_X1_draw (F_X1_draw (F_X1_draw (F_X1_draw σ 8) (σ 5 0)) (σ 5 0)) (σ 5 1)) 20) 0) 5 1 = σ 5 1 := ((congrFun (fr_F_X0_add_27 (F_X1_draw (F_X1_draw (F_X1_draw (F_X1_draw (F_X1_draw σ 8) (σ 5 0)) (σ 5 0)) (σ 5 1)) 20) 4 (V_X1_draw (F_X1_draw σ 8) (σ 5 0)) (V_X1_draw (F_X1_draw (F_X1_draw σ 8) (σ 5 0)) (σ 5 0)) (V_X1_draw (F_X1_draw (F_X1_draw (F_X1_draw σ 8) (σ 5 0)) (σ 5 0)) (σ 5 1)) (V_X1_draw (F_X1_draw (F_X1_draw (F_X1_draw (F_X1_draw σ 8) (σ 5 0)) (σ 5 0)) (σ 5 1)) 20) 0 (k := 5) (by decide)) _).trans ((congrFun (fr_F_X1_draw (F_X1_draw (F_X1_draw (F_X1_draw (F_X1_draw σ 8) (σ 5 0)) (σ 5 0)) (σ 5 1)) 20 (k := 5) (by decide)) _).trans ((congrFun (fr_F_X1_draw (F_X1_draw (F_X1_draw (F_X1_draw σ 8) (σ 5 0)) (σ 5 0)) (σ 5 1) (k := 5) (by decide)) _).trans ((congrFun (fr_F_X1_draw (F_X1_draw (F_X1_draw σ 8) (σ 5 0)) (σ 5 0) (k := 5) (by decide)) _).trans ((congrFun (fr_F_X1_draw (F_X1_draw σ 8) (σ 5 0) (k := 5) (by decide)) _).trans (congrFun (fr_F_X1_draw σ 8 (k := 5) (by decide)) _)))))); omega) (by omega)
        refine zRx.tableOut (tgt := 182) dX0_draw_81 (by omega) (by decide) ?_
        refine zRx.aload_n 0 rfl rfl dX0_draw_182 ?_
        refine zRx.iconst ⟨by decide, by decide⟩ dX0_draw_183 ?_
        refine zRx.iload 6 rfl dX0_draw_184 ?_
        refine zRx.iload 7 rfl dX0_draw_186 ?_
        refine zRx.iload 8 rfl dX0_draw_188 ?_
        refine zRx.iconst ⟨by decide, by decide⟩ dX0_draw_190 ?_
        refine zRx.iconst ⟨by decide, by decide⟩ dX0_draw_191 ?_
        refine zRx.cVv (M := m_X0_add) (av := [.inl 3, .inl (V_X1_draw (F_X1_draw σ 8) (σ 5 0)), .inl (V_X1_draw (F_X1_draw (F_X1_draw σ 8) (σ 5 0)) (σ 5 0)), .inl (V_X1_draw (F_X1_draw (F_X1_draw (F_X1_draw σ 8) (σ 5 0)) (σ 5 0)) (σ 5 1)), .inl 0, .inl 0]) cv_0_46 mk_X0_add (by decide) (b := 27) rfl rfl (Nat.le_of_ble_eq_true rfl) dX0_draw_192 (does_X0_add_27 (F_X1_draw (F_X1_draw (F_X1_draw (F_X1_draw σ 8) (σ 5 0)) (σ 5 0)) (σ 5 1)) 3 (V_X1_draw (F_X1_draw σ 8) (σ 5 0)) (V_X1_draw (F_X1_draw (F_X1_draw σ 8) (σ 5 0)) (σ 5 0)) (V_X1_draw (F_X1_draw (F_X1_draw (F_X1_draw σ 8) (σ 5 0)) (σ 5 0)) (σ 5 1)) 0 0 (by rw [show (F_X1_draw (F_X1_draw (F_X1_draw (F_X1_draw σ 8) (σ 5 0)) (σ 5 0)) (σ 5 1)) 27 0 = σ 27 0 from ((congrFun (fr_F_X1_draw (F_X1_draw (F_X1_draw (F_X1_draw σ 8) (σ 5 0)) (σ 5 0)) (σ 5 1) (k := 27) (by decide)) _).trans ((congrFun (fr_F_X1_draw (F_X1_draw (F_X1_draw σ 8) (σ 5 0)) (σ 5 0) (k := 27) (by decide)) _).trans ((congrFun (fr_F_X1_draw (F_X1_draw σ 8) (σ 5 0) (k := 27) (by decide)) _).trans (congrFun (fr_F_X1_draw σ 8 (k := 27) (by decide)) _))))]; exact hL)) ?_
        refine zRx.iinc (n := 1) (ls' := [(0, zP 27), (1, .inl x), (2, zP 97), (3, zP 5), (4, .inl (q + 1)), (5, .inl (V_X1_draw σ 8)), (6, .inl (V_X1_draw (F_X1_draw σ 8) (σ 5 0))), (7, .inl (V_X1_draw (F_X1_draw (F_X1_draw σ 8) (σ 5 0)) (σ 5 0))), (8, .inl (V_X1_draw (F_X1_draw (F_X1_draw (F_X1_draw σ 8) (σ 5 0)) (σ 5 0)) (σ 5 1)))]) 4 rfl ⟨by omega, by omega⟩ rfl (by decide) dX0_draw_195 ?_
        refine zRx.goto (tgt := 7) dX0_draw_198 (by decide) ?_
        refine zRx.pick [0, 1, 2, 3, 4] (ls' := [(0, zP 27), (1, .inl x), (2, zP 97), (3, zP 5), (4, .inl (q + 1))]) rfl ?_
        have he : L_X0_draw_7 x (n + 1) q σ = L_X0_draw_7 x n (q + 1) (F_X0_add_27 (F_X1_draw (F_X1_draw (F_X1_draw (F_X1_draw σ 8) (σ 5 0)) (σ 5 0)) (σ 5 1)) 3 (V_X1_draw (F_X1_draw σ 8) (σ 5 0)) (V_X1_draw (F_X1_draw (F_X1_draw σ 8) (σ 5 0)) (σ 5 0)) (V_X1_draw (F_X1_draw (F_X1_draw (F_X1_draw σ 8) (σ 5 0)) (σ 5 0)) (σ 5 1)) 0 0) := by rw [L_X0_draw_7, if_neg (Int.not_le.mpr c10), if_neg c55, if_neg c81_0, if_neg c81_1, if_neg c81_2, if_neg c81_3, if_neg c81_4]
        rw [he]
        exact ih (q + 1) (F_X0_add_27 (F_X1_draw (F_X1_draw (F_X1_draw (F_X1_draw σ 8) (σ 5 0)) (σ 5 0)) (σ 5 1)) 3 (V_X1_draw (F_X1_draw σ 8) (σ 5 0)) (V_X1_draw (F_X1_draw (F_X1_draw σ 8) (σ 5 0)) (σ 5 0)) (V_X1_draw (F_X1_draw (F_X1_draw (F_X1_draw σ 8) (σ 5 0)) (σ 5 0)) (σ 5 1)) 0 0) (by omega) (by rw [add27_len, show (F_X1_draw (F_X1_draw (F_X1_draw (F_X1_draw σ 8) (σ 5 0)) (σ 5 0)) (σ 5 1)) 27 0 = σ 27 0 from ((congrFun (fr_F_X1_draw (F_X1_draw (F_X1_draw (F_X1_draw σ 8) (σ 5 0)) (σ 5 0)) (σ 5 1) (k := 27) (by decide)) _).trans ((congrFun (fr_F_X1_draw (F_X1_draw (F_X1_draw σ 8) (σ 5 0)) (σ 5 0) (k := 27) (by decide)) _).trans ((congrFun (fr_F_X1_draw (F_X1_draw σ 8) (σ 5 0) (k := 27) (by decide)) _).trans (congrFun (fr_F_X1_draw σ 8 (k := 27) (by decide)) _))))]; split <;> omega) (by have e9 : (F_X0_add_27 (F_X1_draw (F_X1_draw (F_X1_draw (F_X1_draw σ 8) (σ 5 0)) (σ 5 0)) (σ 5 1)) 3 (V_X1_draw (F_X1_draw σ 8) (σ 5 0)) (V_X1_draw (F_X1_draw (F_X1_draw σ 8) (σ 5 0)) (σ 5 0)) (V_X1_draw (F_X1_draw (F_X1_draw (F_X1_draw σ 8) (σ 5 0)) (σ 5 0)) (σ 5 1)) 0 0) 5 0 = σ 5 0 := ((congrFun (fr_F_X0_add_27 (F_X1_draw (F_X1_draw (F_X1_draw (F_X1_draw σ 8) (σ 5 0)) (σ 5 0)) (σ 5 1)) 3 (V_X1_draw (F_X1_draw σ 8) (σ 5 0)) (V_X1_draw (F_X1_draw (F_X1_draw σ 8) (σ 5 0)) (σ 5 0)) (V_X1_draw (F_X1_draw (F_X1_draw (F_X1_draw σ 8) (σ 5 0)) (σ 5 0)) (σ 5 1)) 0 0 (k := 5) (by decide)) _).trans ((congrFun (fr_F_X1_draw (F_X1_draw (F_X1_draw (F_X1_draw σ 8) (σ 5 0)) (σ 5 0)) (σ 5 1) (k := 5) (by decide)) _).trans ((congrFun (fr_F_X1_draw (F_X1_draw (F_X1_draw σ 8) (σ 5 0)) (σ 5 0) (k := 5) (by decide)) _).trans ((congrFun (fr_F_X1_draw (F_X1_draw σ 8) (σ 5 0) (k := 5) (by decide)) _).trans (congrFun (fr_F_X1_draw σ 8 (k := 5) (by decide)) _))))); omega) (by have e9 : (F_X0_add_27 (F_X1_draw (F_X1_draw (F_X1_draw (F_X1_draw σ 8) (σ 5 0)) (σ 5 0)) (σ 5 1)) 3 (V_X1_draw (F_X1_draw σ 8) (σ 5 0)) (V_X1_draw (F_X1_draw (F_X1_draw σ 8) (σ 5 0)) (σ 5 0)) (V_X1_draw (F_X1_draw (F_X1_draw (F_X1_draw σ 8) (σ 5 0)) (σ 5 0)) (σ 5 1)) 0 0) 5 1 = σ 5 1 := ((congrFun (fr_F_X0_add_27 (F_X1_draw (F_X1_draw (F_X1_draw (F_X1_draw σ 8) (σ 5 0)) (σ 5 0)) (σ 5 1)) 3 (V_X1_draw (F_X1_draw σ 8) (σ 5 0)) (V_X1_draw (F_X1_draw (F_X1_draw σ 8) (σ 5 0)) (σ 5 0)) (V_X1_draw (F_X1_draw (F_X1_draw (F_X1_draw σ 8) (σ 5 0)) (σ 5 0)) (σ 5 1)) 0 0 (k := 5) (by decide)) _).trans ((congrFun (fr_F_X1_draw (F_X1_draw (F_X1_draw (F_X1_draw σ 8) (σ 5 0)) (σ 5 0)) (σ 5 1) (k := 5) (by decide)) _).trans ((congrFun (fr_F_X1_draw (F_X1_draw (F_X1_draw σ 8) (σ 5 0)) (σ 5 0) (k := 5) (by decide)) _).trans ((congrFun (fr_F_X1_draw (F_X1_draw σ 8) (σ 5 0) (k := 5) (by decide)) _).trans (congrFun (fr_F_X1_draw σ 8 (k := 5) (by decide)) _))))); omega) (by omega)
      · refine zRx.iload 6 rfl dX0_draw_58 ?_
        refine zRx.iconst ⟨by decide, by decide⟩ dX0_draw_60 ?_
        refine zRx.iadd ⟨by omega, by omega⟩ dX0_draw_61 ?_
        refine zRx.aload_n 3 rfl rfl dX0_draw_62 ?_
        refine zRx.getIv (a := 5) (ji := 0) (v := σ 5 0) ((congrFun (fr_F_X1_draw (F_X1_draw (F_X1_draw (F_X1_draw σ 8) (σ 5 0)) (σ 5 0)) (σ 5 1) (k := 5) (by decide)) _).trans ((congrFun (fr_F_X1_draw (F_X1_draw (F_X1_draw σ 8) (σ 5 0)) (σ 5 0) (k := 5) (by decide)) _).trans ((congrFun (fr_F_X1_draw (F_X1_draw σ 8) (σ 5 0) (k := 5) (by decide)) _).trans (congrFun (fr_F_X1_draw σ 8 (k := 5) (by decide)) _)))) fl_0_59 rfl rfl rfl dX0_draw_63 ?_
        refine zRx.icmp_ge (tgt := 76) dX0_draw_66 (by decide) (fun c66 => ?_) (fun c66 => ?_)
        · refine zRx.iconst ⟨by decide, by decide⟩ dX0_draw_76 ?_
          refine zRx.istore (ls' := [(0, zP 27), (1, .inl x), (2, zP 97), (3, zP 5), (4, .inl q), (5, .inl (V_X1_draw σ 8)), (6, .inl (V_X1_draw (F_X1_draw σ 8) (σ 5 0))), (7, .inl 0), (8, .inl (V_X1_draw (F_X1_draw (F_X1_draw (F_X1_draw σ 8) (σ 5 0)) (σ 5 0)) (σ 5 1)))]) rfl (by decide) dX0_draw_77 ?_
          refine zRx.iload 5 rfl dX0_draw_79 ?_
          by_cases c81_0 : V_X1_draw σ 8 = 0
          · refine zRx.topI (b := 0) c81_0 ?_
            refine zRx.tableIn (tgt := 116) dX0_draw_81 (by decide) (by decide) rfl (by decide) ?_
            refine zRx.aload_n 0 rfl rfl dX0_draw_116 ?_
            refine zRx.aload_n 0 rfl rfl dX0_draw_117 ?_
            refine zRx.getIv (a := 27) (ji := 1) (v := σ 27 1) ((congrFun (fr_F_X1_draw (F_X1_draw (F_X1_draw (F_X1_draw σ 8) (σ 5 0)) (σ 5 0)) (σ 5 1) (k := 27) (by decide)) _).trans ((congrFun (fr_F_X1_draw (F_X1_draw (F_X1_draw σ 8) (σ 5 0)) (σ 5 0) (k := 27) (by decide)) _).trans ((congrFun (fr_F_X1_draw (F_X1_draw σ 8) (σ 5 0) (k := 27) (by decide)) _).trans (congrFun (fr_F_X1_draw σ 8 (k := 27) (by decide)) _)))) fl_0_37 rfl rfl rfl dX0_draw_118 ?_
            refine zRx.iconst ⟨by decide, by decide⟩ dX0_draw_121 ?_
            refine zRx.iaddW dX0_draw_122 ?_
            refine zRx.cVv (M := m_X0_addDay) (av := [.inl (w32 ((σ 27 1) + 1))]) cv_0_67 mk_X0_addDay (by decide) (b := 27) rfl rfl (Nat.le_of_ble_eq_true rfl) dX0_draw_123 (does_X0_addDay_27 (F_X1_draw (F_X1_draw (F_X1_draw (F_X1_draw σ 8) (σ 5 0)) (σ 5 0)) (σ 5 1)) (w32 ((σ 27 1) + 1)) (by rw [show (F_X1_draw (F_X1_draw (F_X1_draw (F_X1_draw σ 8) (σ 5 0)) (σ 5 0)) (σ 5 1)) 27 0 = σ 27 0 from ((congrFun (fr_F_X1_draw (F_X1_draw (F_X1_draw (F_X1_draw σ 8) (σ 5 0)) (σ 5 0)) (σ 5 1) (k := 27) (by decide)) _).trans ((congrFun (fr_F_X1_draw (F_X1_draw (F_X1_draw σ 8) (σ 5 0)) (σ 5 0) (k := 27) (by decide)) _).trans ((congrFun (fr_F_X1_draw (F_X1_draw σ 8) (σ 5 0) (k := 27) (by decide)) _).trans (congrFun (fr_F_X1_draw σ 8 (k := 27) (by decide)) _))))]; exact hL)) ?_
            refine zRx.goto (tgt := 195) dX0_draw_126 (by decide) ?_
            refine zRx.iinc (n := 1) (ls' := [(0, zP 27), (1, .inl x), (2, zP 97), (3, zP 5), (4, .inl (q + 1)), (5, .inl (V_X1_draw σ 8)), (6, .inl (V_X1_draw (F_X1_draw σ 8) (σ 5 0))), (7, .inl 0), (8, .inl (V_X1_draw (F_X1_draw (F_X1_draw (F_X1_draw σ 8) (σ 5 0)) (σ 5 0)) (σ 5 1)))]) 4 rfl ⟨by omega, by omega⟩ rfl (by decide) dX0_draw_195 ?_
            refine zRx.goto (tgt := 7) dX0_draw_198 (by decide) ?_
            refine zRx.pick [0, 1, 2, 3, 4] (ls' := [(0, zP 27), (1, .inl x), (2, zP 97), (3, zP 5), (4, .inl (q + 1))]) rfl ?_
            have he : L_X0_draw_7 x (n + 1) q σ = L_X0_draw_7 x n (q + 1) (F_X0_addDay_27 (F_X1_draw (F_X1_draw (F_X1_draw (F_X1_draw σ 8) (σ 5 0)) (σ 5 0)) (σ 5 1)) (w32 ((σ 27 1) + 1))) := by rw [L_X0_draw_7, if_neg (Int.not_le.mpr c10), if_pos c55, if_pos c66, if_pos c81_0]
            rw [he]
            exact ih (q + 1) (F_X0_addDay_27 (F_X1_draw (F_X1_draw (F_X1_draw (F_X1_draw σ 8) (σ 5 0)) (σ 5 0)) (σ 5 1)) (w32 ((σ 27 1) + 1))) (by omega) (by rw [addDay27_len, show (F_X1_draw (F_X1_draw (F_X1_draw (F_X1_draw σ 8) (σ 5 0)) (σ 5 0)) (σ 5 1)) 27 0 = σ 27 0 from ((congrFun (fr_F_X1_draw (F_X1_draw (F_X1_draw (F_X1_draw σ 8) (σ 5 0)) (σ 5 0)) (σ 5 1) (k := 27) (by decide)) _).trans ((congrFun (fr_F_X1_draw (F_X1_draw (F_X1_draw σ 8) (σ 5 0)) (σ 5 0) (k := 27) (by decide)) _).trans ((congrFun (fr_F_X1_draw (F_X1_draw σ 8) (σ 5 0) (k := 27) (by decide)) _).trans (congrFun (fr_F_X1_draw σ 8 (k := 27) (by decide)) _))))]; split <;> omega) (by have e9 : (F_X0_addDay_27 (F_X1_draw (F_X1_draw (F_X1_draw (F_X1_draw σ 8) (σ 5 0)) (σ 5 0)) (σ 5 1)) (w32 ((σ 27 1) + 1))) 5 0 = σ 5 0 := ((congrFun (fr_F_X0_addDay_27 (F_X1_draw (F_X1_draw (F_X1_draw (F_X1_draw σ 8) (σ 5 0)) (σ 5 0)) (σ 5 1)) (w32 ((σ 27 1) + 1)) (k := 5) (by decide)) _).trans ((congrFun (fr_F_X1_draw (F_X1_draw (F_X1_draw (F_X1_draw σ 8) (σ 5 0)) (σ 5 0)) (σ 5 1) (k := 5) (by decide)) _).trans ((congrFun (fr_F_X1_draw (F_X1_draw (F_X1_draw σ 8) (σ 5 0)) (σ 5 0) (k := 5) (by decide)) _).trans ((congrFun (fr_F_X1_draw (F_X1_draw σ 8) (σ 5 0) (k := 5) (by decide)) _).trans (congrFun (fr_F_X1_draw σ 8 (k := 5) (by decide)) _))))); omega) (by have e9 : (F_X0_addDay_27 (F_X1_draw (F_X1_draw (F_X1_draw (F_X1_draw σ 8) (σ 5 0)) (σ 5 0)) (σ 5 1)) (w32 ((σ 27 1) + 1))) 5 1 = σ 5 1 := ((congrFun (fr_F_X0_addDay_27 (F_X1_draw (F_X1_draw (F_X1_draw (F_X1_draw σ 8) (σ 5 0)) (σ 5 0)) (σ 5 1)) (w32 ((σ 27 1) + 1)) (k := 5) (by decide)) _).trans ((congrFun (fr_F_X1_draw (F_X1_draw (F_X1_draw (F_X1_draw σ 8) (σ 5 0)) (σ 5 0)) (σ 5 1) (k := 5) (by decide)) _).trans ((congrFun (fr_F_X1_draw (F_X1_draw (F_X1_draw σ 8) (σ 5 0)) (σ 5 0) (k := 5) (by decide)) _).trans ((congrFun (fr_F_X1_draw (F_X1_draw σ 8) (σ 5 0) (k := 5) (by decide)) _).trans (congrFun (fr_F_X1_draw σ 8 (k := 5) (by decide)) _))))); omega) (by omega)
          by_cases c81_1 : V_X1_draw σ 8 = 1
          · refine zRx.topI (b := 1) c81_1 ?_
            refine zRx.tableIn (tgt := 129) dX0_draw_81 (by decide) (by decide) rfl (by decide) ?_
            refine zRx.aload_n 0 rfl rfl dX0_draw_129 ?_
            refine zRx.iconst ⟨by decide, by decide⟩ dX0_draw_130 ?_
            refine zRx.iload 6 rfl dX0_draw_131 ?_
            refine zRx.iload 7 rfl dX0_draw_133 ?_
            refine zRx.iload 8 rfl dX0_draw_135 ?_
            refine zRx.iconst ⟨by decide, by decide⟩ dX0_draw_137 ?_
            refine zRx.iconst ⟨by decide, by decide⟩ dX0_draw_138 ?_
            refine zRx.cVv (M := m_X0_add) (av := [.inl 1, .inl (V_X1_draw (F_X1_draw σ 8) (σ 5 0)), .inl 0, .inl (V_X1_draw (F_X1_draw (F_X1_draw (F_X1_draw σ 8) (σ 5 0)) (σ 5 0)) (σ 5 1)), .inl 0, .inl 0]) cv_0_46 mk_X0_add (by decide) (b := 27) rfl rfl (Nat.le_of_ble_eq_true rfl) dX0_draw_139 (does_X0_add_27 (F_X1_draw (F_X1_draw (F_X1_draw (F_X1_draw σ 8) (σ 5 0)) (σ 5 0)) (σ 5 1)) 1 (V_X1_draw (F_X1_draw σ 8) (σ 5 0)) 0 (V_X1_draw (F_X1_draw (F_X1_draw (F_X1_draw σ 8) (σ 5 0)) (σ 5 0)) (σ 5 1)) 0 0 (by rw [show (F_X1_draw (F_X1_draw (F_X1_draw (F_X1_draw σ 8) (σ 5 0)) (σ 5 0)) (σ 5 1)) 27 0 = σ 27 0 from ((congrFun (fr_F_X1_draw (F_X1_draw (F_X1_draw (F_X1_draw σ 8) (σ 5 0)) (σ 5 0)) (σ 5 1) (k := 27) (by decide)) _).trans ((congrFun (fr_F_X1_draw (F_X1_draw (F_X1_draw σ 8) (σ 5 0)) (σ 5 0) (k := 27) (by decide)) _).trans ((congrFun (fr_F_X1_draw (F_X1_draw σ 8) (σ 5 0) (k := 27) (by decide)) _).trans (congrFun (fr_F_X1_draw σ 8 (k := 27) (by decide)) _))))]; exact hL)) ?_
            refine zRx.goto (tgt := 195) dX0_draw_142 (by decide) ?_
            refine zRx.iinc (n := 1) (ls' := [(0, zP 27), (1, .inl x), (2, zP 97), (3, zP 5), (4, .inl (q + 1)), (5, .inl (V_X1_draw σ 8)), (6, .inl (V_X1_draw (F_X1_draw σ 8) (σ 5 0))), (7, .inl 0), (8, .inl (V_X1_draw (F_X1_draw (F_X1_draw (F_X1_draw σ 8) (σ 5 0)) (σ 5 0)) (σ 5 1)))]) 4 rfl ⟨by omega, by omega⟩ rfl (by decide) dX0_draw_195 ?_
            refine zRx.goto (tgt := 7) dX0_draw_198 (by decide) ?_
            refine zRx.pick [0, 1, 2, 3, 4] (ls' := [(0, zP 27), (1, .inl x), (2, zP 97), (3, zP 5), (4, .inl (q + 1))]) rfl ?_
            have he : L_X0_draw_7 x (n + 1) q σ = L_X0_draw_7 x n (q + 1) (F_X0_add_27 (F_X1_draw (F_X1_draw (F_X1_draw (F_X1_draw σ 8) (σ 5 0)) (σ 5 0)) (σ 5 1)) 1 (V_X1_draw (F_X1_draw σ 8) (σ 5 0)) 0 (V_X1_draw (F_X1_draw (F_X1_draw (F_X1_draw σ 8) (σ 5 0)) (σ 5 0)) (σ 5 1)) 0 0) := by rw [L_X0_draw_7, if_neg (Int.not_le.mpr c10), if_pos c55, if_pos c66, if_neg c81_0, if_pos c81_1]
            rw [he]
            exact ih (q + 1) (F_X0_add_27 (F_X1_draw (F_X1_draw (F_X1_draw (F_X1_draw σ 8) (σ 5 0)) (σ 5 0)) (σ 5 1)) 1 (V_X1_draw (F_X1_draw σ 8) (σ 5 0)) 0 (V_X1_draw (F_X1_draw (F_X1_draw (F_X1_draw σ 8) (σ 5 0)) (σ 5 0)) (σ 5 1)) 0 0) (by omega) (by rw [add27_len, show (F_X1_draw (F_X1_draw (F_X1_draw (F_X1_draw σ 8) (σ 5 0)) (σ 5 0)) (σ 5 1)) 27 0 = σ 27 0 from ((congrFun (fr_F_X1_draw (F_X1_draw (F_X1_draw (F_X1_draw σ 8) (σ 5 0)) (σ 5 0)) (σ 5 1) (k := 27) (by decide)) _).trans ((congrFun (fr_F_X1_draw (F_X1_draw (F_X1_draw σ 8) (σ 5 0)) (σ 5 0) (k := 27) (by decide)) _).trans ((congrFun (fr_F_X1_draw (F_X1_draw σ 8) (σ 5 0) (k := 27) (by decide)) _).trans (congrFun (fr_F_X1_draw σ 8 (k := 27) (by decide)) _))))]; split <;> omega) (by have e9 : (F_X0_add_27 (F_X1_draw (F_X1_draw (F_X1_draw (F_X1_draw σ 8) (σ 5 0)) (σ 5 0)) (σ 5 1)) 1 (V_X1_draw (F_X1_draw σ 8) (σ 5 0)) 0 (V_X1_draw (F_X1_draw (F_X1_draw (F_X1_draw σ 8) (σ 5 0)) (σ 5 0)) (σ 5 1)) 0 0) 5 0 = σ 5 0 := ((congrFun (fr_F_X0_add_27 (F_X1_draw (F_X1_draw (F_X1_draw (F_X1_draw σ 8) (σ 5 0)) (σ 5 0)) (σ 5 1)) 1 (V_X1_draw (F_X1_draw σ 8) (σ 5 0)) 0 (V_X1_draw (F_X1_draw (F_X1_draw (F_X1_draw σ 8) (σ 5 0)) (σ 5 0)) (σ 5 1)) 0 0 (k := 5) (by decide)) _).trans ((congrFun (fr_F_X1_draw (F_X1_draw (F_X1_draw (F_X1_draw σ 8) (σ 5 0)) (σ 5 0)) (σ 5 1) (k := 5) (by decide)) _).trans ((congrFun (fr_F_X1_draw (F_X1_draw (F_X1_draw σ 8) (σ 5 0)) (σ 5 0) (k := 5) (by decide)) _).trans ((congrFun (fr_F_X1_draw (F_X1_draw σ 8) (σ 5 0) (k := 5) (by decide)) _).trans (congrFun (fr_F_X1_draw σ 8 (k := 5) (by decide)) _))))); omega) (by have e9 : (F_X0_add_27 (F_X1_draw (F_X1_draw (F_X1_draw (F_X1_draw σ 8) (σ 5 0)) (σ 5 0)) (σ 5 1)) 1 (V_X1_draw (F_X1_draw σ 8) (σ 5 0)) 0 (V_X1_draw (F_X1_draw (F_X1_draw (F_X1_draw σ 8) (σ 5 0)) (σ 5 0)) (σ 5 1)) 0 0) 5 1 = σ 5 1 := ((congrFun (fr_F_X0_add_27 (F_X1_draw (F_X1_draw (F_X1_draw (F_X1_draw σ 8) (σ 5 0)) (σ 5 0)) (σ 5 1)) 1 (V_X1_draw (F_X1_draw σ 8) (σ 5 0)) 0 (V_X1_draw (F_X1_draw (F_X1_draw (F_X1_draw σ 8) (σ 5 0)) (σ 5 0)) (σ 5 1)) 0 0 (k := 5) (by decide)) _).trans ((congrFun (fr_F_X1_draw (F_X1_draw (F_X1_draw (F_X1_draw σ 8) (σ 5 0)) (σ 5 0)) (σ 5 1) (k := 5) (by decide)) _).trans ((congrFun (fr_F_X1_draw (F_X1_draw (F_X1_draw σ 8) (σ 5 0)) (σ 5 0) (k := 5) (by decide)) _).trans ((congrFun (fr_F_X1_draw (F_X1_draw σ 8) (σ 5 0) (k := 5) (by decide)) _).trans (congrFun (fr_F_X1_draw σ 8 (k := 5) (by decide)) _))))); omega) (by omega)
          by_cases c81_2 : V_X1_draw σ 8 = 2
          · refine zRx.topI (b := 2) c81_2 ?_
            refine zRx.tableIn (tgt := 129) dX0_draw_81 (by decide) (by decide) rfl (by decide) ?_
            refine zRx.aload_n 0 rfl rfl dX0_draw_129 ?_
            refine zRx.iconst ⟨by decide, by decide⟩ dX0_draw_130 ?_
            refine zRx.iload 6 rfl dX0_draw_131 ?_
            refine zRx.iload 7 rfl dX0_draw_133 ?_
            refine zRx.iload 8 rfl dX0_draw_135 ?_
            refine zRx.iconst ⟨by decide, by decide⟩ dX0_draw_137 ?_
            refine zRx.iconst ⟨by decide, by decide⟩ dX0_draw_138 ?_
            refine zRx.cVv (M := m_X0_add) (av := [.inl 1, .inl (V_X1_draw (F_X1_draw σ 8) (σ 5 0)), .inl 0, .inl (V_X1_draw (F_X1_draw (F_X1_draw (F_X1_draw σ 8) (σ 5 0)) (σ 5 0)) (σ 5 1)), .inl 0, .inl 0]) cv_0_46 mk_X0_add (by decide) (b := 27) rfl rfl (Nat.le_of_ble_eq_true rfl) dX0_draw_139 (does_X0_add_27 (F_X1_draw (F_X1_draw (F_X1_draw (F_X1_draw σ 8) (σ 5 0)) (σ 5 0)) (σ 5 1)) 1 (V_X1_draw (F_X1_draw σ 8) (σ 5 0)) 0 (V_X1_draw (F_X1_draw (F_X1_draw (F_X1_draw σ 8) (σ 5 0)) (σ 5 0)) (σ 5 1)) 0 0 (by rw [show (F_X1_draw (F_X1_draw (F_X1_draw (F_X1_draw σ 8) (σ 5 0)) (σ 5 0)) (σ 5 1)) 27 0 = σ 27 0 from ((congrFun (fr_F_X1_draw (F_X1_draw (F_X1_draw (F_X1_draw σ 8) (σ 5 0)) (σ 5 0)) (σ 5 1) (k := 27) (by decide)) _).trans ((congrFun (fr_F_X1_draw (F_X1_draw (F_X1_draw σ 8) (σ 5 0)) (σ 5 0) (k := 27) (by decide)) _).trans ((congrFun (fr_F_X1_draw (F_X1_draw σ 8) (σ 5 0) (k := 27) (by decide)) _).trans (congrFun (fr_F_X1_draw σ 8 (k := 27) (by decide)) _))))]; exact hL)) ?_
            refine zRx.goto (tgt := 195) dX0_draw_142 (by decide) ?_
            refine zRx.iinc (n := 1) (ls' := [(0, zP 27), (1, .inl x), (2, zP 97), (3, zP 5), (4, .inl (q + 1)), (5, .inl (V_X1_draw σ 8)), (6, .inl (V_X1_draw (F_X1_draw σ 8) (σ 5 0))), (7, .inl 0), (8, .inl (V_X1_draw (F_X1_draw (F_X1_draw (F_X1_draw σ 8) (σ 5 0)) (σ 5 0)) (σ 5 1)))]) 4 rfl ⟨by omega, by omega⟩ rfl (by decide) dX0_draw_195 ?_
            refine zRx.goto (tgt := 7) dX0_draw_198 (by decide) ?_
            refine zRx.pick [0, 1, 2, 3, 4] (ls' := [(0, zP 27), (1, .inl x), (2, zP 97), (3, zP 5), (4, .inl (q + 1))]) rfl ?_
            have he : L_X0_draw_7 x (n + 1) q σ = L_X0_draw_7 x n (q + 1) (F_X0_add_27 (F_X1_draw (F_X1_draw (F_X1_draw (F_X1_draw σ 8) (σ 5 0)) (σ 5 0)) (σ 5 1)) 1 (V_X1_draw (F_X1_draw σ 8) (σ 5 0)) 0 (V_X1_draw (F_X1_draw (F_X1_draw (F_X1_draw σ 8) (σ 5 0)) (σ 5 0)) (σ 5 1)) 0 0) := by rw [L_X0_draw_7, if_neg (Int.not_le.mpr c10), if_pos c55, if_pos c66, if_neg c81_0, if_neg c81_1, if_pos c81_2]
            rw [he]
            exact ih (q + 1) (F_X0_add_27 (F_X1_draw (F_X1_draw (F_X1_draw (F_X1_draw σ 8) (σ 5 0)) (σ 5 0)) (σ 5 1)) 1 (V_X1_draw (F_X1_draw σ 8) (σ 5 0)) 0 (V_X1_draw (F_X1_draw (F_X1_draw (F_X1_draw σ 8) (σ 5 0)) (σ 5 0)) (σ 5 1)) 0 0) (by omega) (by rw [add27_len, show (F_X1_draw (F_X1_draw (F_X1_draw (F_X1_draw σ 8) (σ 5 0)) (σ 5 0)) (σ 5 1)) 27 0 = σ 27 0 from ((congrFun (fr_F_X1_draw (F_X1_draw (F_X1_draw (F_X1_draw σ 8) (σ 5 0)) (σ 5 0)) (σ 5 1) (k := 27) (by decide)) _).trans ((congrFun (fr_F_X1_draw (F_X1_draw (F_X1_draw σ 8) (σ 5 0)) (σ 5 0) (k := 27) (by decide)) _).trans ((congrFun (fr_F_X1_draw (F_X1_draw σ 8) (σ 5 0) (k := 27) (by decide)) _).trans (congrFun (fr_F_X1_draw σ 8 (k := 27) (by decide)) _))))]; split <;> omega) (by have e9 : (F_X0_add_27 (F_X1_draw (F_X1_draw (F_X1_draw (F_X1_draw σ 8) (σ 5 0)) (σ 5 0)) (σ 5 1)) 1 (V_X1_draw (F_X1_draw σ 8) (σ 5 0)) 0 (V_X1_draw (F_X1_draw (F_X1_draw (F_X1_draw σ 8) (σ 5 0)) (σ 5 0)) (σ 5 1)) 0 0) 5 0 = σ 5 0 := ((congrFun (fr_F_X0_add_27 (F_X1_draw (F_X1_draw (F_X1_draw (F_X1_draw σ 8) (σ 5 0)) (σ 5 0)) (σ 5 1)) 1 (V_X1_draw (F_X1_draw σ 8) (σ 5 0)) 0 (V_X1_draw (F_X1_draw (F_X1_draw (F_X1_draw σ 8) (σ 5 0)) (σ 5 0)) (σ 5 1)) 0 0 (k := 5) (by decide)) _).trans ((congrFun (fr_F_X1_draw (F_X1_draw (F_X1_draw (F_X1_draw σ 8) (σ 5 0)) (σ 5 0)) (σ 5 1) (k := 5) (by decide)) _).trans ((congrFun (fr_F_X1_draw (F_X1_draw (F_X1_draw σ 8) (σ 5 0)) (σ 5 0) (k := 5) (by decide)) _).trans ((congrFun (fr_F_X1_draw (F_X1_draw σ 8) (σ 5 0) (k := 5) (by decide)) _).trans (congrFun (fr_F_X1_draw σ 8 (k := 5) (by decide)) _))))); omega) (by have e9 : (F_X0_add_27 (F_X1_draw (F_X1_draw (F_X1_draw (F_X1_draw σ 8) (σ 5 0)) (σ 5 0)) (σ 5 1)) 1 (V_X1_draw (F_X1_draw σ 8) (σ 5 0)) 0 (V_X1_draw (F_X1_draw (F_X1_draw (F_X1_draw σ 8) (σ 5 0)) (σ 5 0)) (σ 5 1)) 0 0) 5 1 = σ 5 1 := ((congrFun (fr_F_X0_add_27 (F_X1_draw (F_X1_draw (F_X1_draw (F_X1_draw σ 8) (σ 5 0)) (σ 5 0)) (σ 5 1)) 1 (V_X1_draw (F_X1_draw σ 8) (σ 5 0)) 0 (V_X1_draw (F_X1_draw (F_X1_draw (F_X1_draw σ 8) (σ 5 0)) (σ 5 0)) (σ 5 1)) 0 0 (k := 5) (by decide)) _).trans ((congrFun (fr_F_X1_draw (F_X1_draw (F_X1_draw (F_X1_draw σ 8) (σ 5 0)) (σ 5 0)) (σ 5 1) (k := 5) (by decide)) _).trans ((congrFun (fr_F_X1_draw (F_X1_draw (F_X1_draw σ 8) (σ 5 0)) (σ 5 0) (k := 5) (by decide)) _).trans ((congrFun (fr_F_X1_draw (F_X1_draw σ 8) (σ 5 0) (k := 5) (by decide)) _).trans (congrFun (fr_F_X1_draw σ 8 (k := 5) (by decide)) _))))); omega) (by omega)
          by_cases c81_3 : V_X1_draw σ 8 = 3
          · refine zRx.topI (b := 3) c81_3 ?_
            refine zRx.tableIn (tgt := 145) dX0_draw_81 (by decide) (by decide) rfl (by decide) ?_
            refine zRx.aload_n 0 rfl rfl dX0_draw_145 ?_
            refine zRx.iconst ⟨by decide, by decide⟩ dX0_draw_146 ?_
            refine zRx.iload 6 rfl dX0_draw_147 ?_
            refine zRx.iload 7 rfl dX0_draw_149 ?_
            refine zRx.iload 8 rfl dX0_draw_151 ?_
            refine zRx.iconst ⟨by decide, by decide⟩ dX0_draw_153 ?_
            refine zRx.iconst ⟨by decide, by decide⟩ dX0_draw_154 ?_
            refine zRx.cVv (M := m_X0_add) (av := [.inl 2, .inl (V_X1_draw (F_X1_draw σ 8) (σ 5 0)), .inl 0, .inl (V_X1_draw (F_X1_draw (F_X1_draw (F_X1_draw σ 8) (σ 5 0)) (σ 5 0)) (σ 5 1)), .inl 0, .inl 0]) cv_0_46 mk_X0_add (by decide) (b := 27) rfl rfl (Nat.le_of_ble_eq_true rfl) dX0_draw_155 (does_X0_add_27 (F_X1_draw (F_X1_draw (F_X1_draw (F_X1_draw σ 8) (σ 5 0)) (σ 5 0)) (σ 5 1)) 2 (V_X1_draw (F_X1_draw σ 8) (σ 5 0)) 0 (V_X1_draw (F_X1_draw (F_X1_draw (F_X1_draw σ 8) (σ 5 0)) (σ 5 0)) (σ 5 1)) 0 0 (by rw [show (F_X1_draw (F_X1_draw (F_X1_draw (F_X1_draw σ 8) (σ 5 0)) (σ 5 0)) (σ 5 1)) 27 0 = σ 27 0 from ((congrFun (fr_F_X1_draw (F_X1_draw (F_X1_draw (F_X1_draw σ 8) (σ 5 0)) (σ 5 0)) (σ 5 1) (k := 27) (by decide)) _).trans ((congrFun (fr_F_X1_draw (F_X1_draw (F_X1_draw σ 8) (σ 5 0)) (σ 5 0) (k := 27) (by decide)) _).trans ((congrFun (fr_F_X1_draw (F_X1_draw σ 8) (σ 5 0) (k := 27) (by decide)) _).trans (congrFun (fr_F_X1_draw σ 8 (k := 27) (by decide)) _))))]; exact hL)) ?_
            refine zRx.goto (tgt := 195) dX0_draw_158 (by decide) ?_
            refine zRx.iinc (n := 1) (ls' := [(0, zP 27), (1, .inl x), (2, zP 97), (3, zP 5), (4, .inl (q + 1)), (5, .inl (V_X1_draw σ 8)), (6, .inl (V_X1_draw (F_X1_draw σ 8) (σ 5 0))), (7, .inl 0), (8, .inl (V_X1_draw (F_X1_draw (F_X1_draw (F_X1_draw σ 8) (σ 5 0)) (σ 5 0)) (σ 5 1)))]) 4 rfl ⟨by omega, by omega⟩ rfl (by decide) dX0_draw_195 ?_
            refine zRx.goto (tgt := 7) dX0_draw_198 (by decide) ?_
            refine zRx.pick [0, 1, 2, 3, 4] (ls' := [(0, zP 27), (1, .inl x), (2, zP 97), (3, zP 5), (4, .inl (q + 1))]) rfl ?_
            have he : L_X0_draw_7 x (n + 1) q σ = L_X0_draw_7 x n (q + 1) (F_X0_add_27 (F_X1_draw (F_X1_draw (F_X1_draw (F_X1_draw σ 8) (σ 5 0)) (σ 5 0)) (σ 5 1)) 2 (V_X1_draw (F_X1_draw σ 8) (σ 5 0)) 0 (V_X1_draw (F_X1_draw (F_X1_draw (F_X1_draw σ 8) (σ 5 0)) (σ 5 0)) (σ 5 1)) 0 0) := by rw [L_X0_draw_7, if_neg (Int.not_le.mpr c10), if_pos c55, if_pos c66, if_neg c81_0, if_neg c81_1, if_neg c81_2, if_pos c81_3]
            rw [he]
            exact ih (q + 1) (F_X0_add_27 (F_X1_draw (F_X1_draw (F_X1_draw (F_X1_draw σ 8) (σ 5 0)) (σ 5 0)) (σ 5 1)) 2 (V_X1_draw (F_X1_draw σ 8) (σ 5 0)) 0 (V_X1_draw (F_X1_draw (F_X1_draw (F_X1_draw σ 8) (σ 5 0)) (σ 5 0)) (σ 5 1)) 0 0) (by omega) (by rw [add27_len, show (F_X1_draw (F_X1_draw (F_X1_draw (F_X1_draw σ 8) (σ 5 0)) (σ 5 0)) (σ 5 1)) 27 0 = σ 27 0 from ((congrFun (fr_F_X1_draw (F_X1_draw (F_X1_draw (F_X1_draw σ 8) (σ 5 0)) (σ 5 0)) (σ 5 1) (k := 27) (by decide)) _).trans ((congrFun (fr_F_X1_draw (F_X1_draw (F_X1_draw σ 8) (σ 5 0)) (σ 5 0) (k := 27) (by decide)) _).trans ((congrFun (fr_F_X1_draw (F_X1_draw σ 8) (σ 5 0) (k := 27) (by decide)) _).trans (congrFun (fr_F_X1_draw σ 8 (k := 27) (by decide)) _))))]; split <;> omega) (by have e9 : (F_X0_add_27 (F_X1_draw (F_X1_draw (F_X1_draw (F_X1_draw σ 8) (σ 5 0)) (σ 5 0)) (σ 5 1)) 2 (V_X1_draw (F_X1_draw σ 8) (σ 5 0)) 0 (V_X1_draw (F_X1_draw (F_X1_draw (F_X1_draw σ 8) (σ 5 0)) (σ 5 0)) (σ 5 1)) 0 0) 5 0 = σ 5 0 := ((congrFun (fr_F_X0_add_27 (F_X1_draw (F_X1_draw (F_X1_draw (F_X1_draw σ 8) (σ 5 0)) (σ 5 0)) (σ 5 1)) 2 (V_X1_draw (F_X1_draw σ 8) (σ 5 0)) 0 (V_X1_draw (F_X1_draw (F_X1_draw (F_X1_draw σ 8) (σ 5 0)) (σ 5 0)) (σ 5 1)) 0 0 (k := 5) (by decide)) _).trans ((congrFun (fr_F_X1_draw (F_X1_draw (F_X1_draw (F_X1_draw σ 8) (σ 5 0)) (σ 5 0)) (σ 5 1) (k := 5) (by decide)) _).trans ((congrFun (fr_F_X1_draw (F_X1_draw (F_X1_draw σ 8) (σ 5 0)) (σ 5 0) (k := 5) (by decide)) _).trans ((congrFun (fr_F_X1_draw (F_X1_draw σ 8) (σ 5 0) (k := 5) (by decide)) _).trans (congrFun (fr_F_X1_draw σ 8 (k := 5) (by decide)) _))))); omega) (by have e9 : (F_X0_add_27 (F_X1_draw (F_X1_draw (F_X1_draw (F_X1_draw σ 8) (σ 5 0)) (σ 5 0)) (σ 5 1)) 2 (V_X1_draw (F_X1_draw σ 8) (σ 5 0)) 0 (V_X1_draw (F_X1_draw (F_X1_draw (F_X1_draw σ 8) (σ 5 0)) (σ 5 0)) (σ 5 1)) 0 0) 5 1 = σ 5 1 := ((congrFun (fr_F_X0_add_27 (F_X1_draw (F_X1_draw (F_X1_draw (F_X1_draw σ 8) (σ 5 0)) (σ 5 0)) (σ 5 1)) 2 (V_X1_draw (F_X1_draw σ 8) (σ 5 0)) 0 (V_X1_draw (F_X1_draw (F_X1_draw (F_X1_draw σ 8) (σ 5 0)) (σ 5 0)) (σ 5 1)) 0 0 (k := 5) (by decide)) _).trans ((congrFun (fr_F_X1_draw (F_X1_draw (F_X1_draw (F_X1_draw σ 8) (σ 5 0)) (σ 5 0)) (σ 5 1) (k := 5) (by decide)) _).trans ((congrFun (fr_F_X1_draw (F_X1_draw (F_X1_draw σ 8) (σ 5 0)) (σ 5 0) (k := 5) (by decide)) _).trans ((congrFun (fr_F_X1_draw (F_X1_draw σ 8) (σ 5 0) (k := 5) (by decide)) _).trans (congrFun (fr_F_X1_draw σ 8 (k := 5) (by decide)) _))))); omega) (by omega)
          by_cases c81_4 : V_X1_draw σ 8 = 4
          · refine zRx.topI (b := 4) c81_4 ?_
            refine zRx.tableIn (tgt := 161) dX0_draw_81 (by decide) (by decide) rfl (by decide) ?_
            refine zRx.aload_n 0 rfl rfl dX0_draw_161 ?_
            refine zRx.iconst ⟨by decide, by decide⟩ dX0_draw_162 ?_
            refine zRx.iload 6 rfl dX0_draw_163 ?_
            refine zRx.iload 7 rfl dX0_draw_165 ?_
            refine zRx.iload 8 rfl dX0_draw_167 ?_
            refine zRx.aload_n 2 rfl rfl dX0_draw_169 ?_
            refine zRx.bipush ⟨by decide, by decide⟩ rfl dX0_draw_170 ?_
            refine zRx.cVi (w := .inl (V_X1_draw (F_X1_draw (F_X1_draw (F_X1_draw (F_X1_draw σ 8) (σ 5 0)) (σ 5 0)) (σ 5 1)) 20)) (M := m_X1_draw) (av := [.inl 20]) cv_0_53 mk_X1_draw (by decide) (b := 97) rfl rfl (Nat.le_of_ble_eq_true rfl) dX0_draw_172 (does_X1_draw (F_X1_draw (F_X1_draw (F_X1_draw (F_X1_draw σ 8) (σ 5 0)) (σ 5 0)) (σ 5 1)) 20) ?_
            refine zRx.iconst ⟨by decide, by decide⟩ dX0_draw_175 ?_
            refine zRx.cVv (M := m_X0_add) (av := [.inl 4, .inl (V_X1_draw (F_X1_draw σ 8) (σ 5 0)), .inl 0, .inl (V_X1_draw (F_X1_draw (F_X1_draw (F_X1_draw σ 8) (σ 5 0)) (σ 5 0)) (σ 5 1)), .inl (V_X1_draw (F_X1_draw (F_X1_draw (F_X1_draw (F_X1_draw σ 8) (σ 5 0)) (σ 5 0)) (σ 5 1)) 20), .inl 0]) cv_0_46 mk_X0_add (by decide) (b := 27) rfl rfl (Nat.le_of_ble_eq_true rfl) dX0_draw_176 (does_X0_add_27 (F_X1_draw (F_X1_draw (F_X1_draw (F_X1_draw (F_X1_draw σ 8) (σ 5 0)) (σ 5 0)) (σ 5 1)) 20) 4 (V_X1_draw (F_X1_draw σ 8) (σ 5 0)) 0 (V_X1_draw (F_X1_draw (F_X1_draw (F_X1_draw σ 8) (σ 5 0)) (σ 5 0)) (σ 5 1)) (V_X1_draw (F_X1_draw (F_X1_draw (F_X1_draw (F_X1_draw σ 8) (σ 5 0)) (σ 5 0)) (σ 5 1)) 20) 0 (by rw [show (F_X1_draw (F_X1_draw (F_X1_draw (F_X1_draw (F_X1_draw σ 8) (σ 5 0)) (σ 5 0)) (σ 5 1)) 20) 27 0 = σ 27 0 from ((congrFun (fr_F_X1_draw (F_X1_draw (F_X1_draw (F_X1_draw (F_X1_draw σ 8) (σ 5 0)) (σ 5 0)) (σ 5 1)) 20 (k := 27) (by decide)) _).trans ((congrFun (fr_F_X1_draw (F_X1_draw (F_X1_draw (F_X1_draw σ 8) (σ 5 0)) (σ 5 0)) (σ 5 1) (k := 27) (by decide)) _).trans ((congrFun (fr_F_X1_draw (F_X1_draw (F_X1_draw σ 8) (σ 5 0)) (σ 5 0) (k := 27) (by decide)) _).trans ((congrFun (fr_F_X1_draw (F_X1_draw σ 8) (σ 5 0) (k := 27) (by decide)) _).trans (congrFun (fr_F_X1_draw σ 8 (k := 27) (by decide)) _)))))]; exact hL)) ?_
            refine zRx.goto (tgt := 195) dX0_draw_179 (by decide) ?_
            refine zRx.iinc (n := 1) (ls' := [(0, zP 27), (1, .inl x), (2, zP 97), (3, zP 5), (4, .inl (q + 1)), (5, .inl (V_X1_draw σ 8)), (6, .inl (V_X1_draw (F_X1_draw σ 8) (σ 5 0))), (7, .inl 0), (8, .inl (V_X1_draw (F_X1_draw (F_X1_draw (F_X1_draw σ 8) (σ 5 0)) (σ 5 0)) (σ 5 1)))]) 4 rfl ⟨by omega, by omega⟩ rfl (by decide) dX0_draw_195 ?_
            refine zRx.goto (tgt := 7) dX0_draw_198 (by decide) ?_
            refine zRx.pick [0, 1, 2, 3, 4] (ls' := [(0, zP 27), (1, .inl x), (2, zP 97), (3, zP 5), (4, .inl (q + 1))]) rfl ?_
            have he : L_X0_draw_7 x (n + 1) q σ = L_X0_draw_7 x n (q + 1) (F_X0_add_27 (F_X1_draw (F_X1_draw (F_X1_draw (F_X1_draw (F_X1_draw σ 8) (σ 5 0)) (σ 5 0)) (σ 5 1)) 20) 4 (V_X1_draw (F_X1_draw σ 8) (σ 5 0)) 0 (V_X1_draw (F_X1_draw (F_X1_draw (F_X1_draw σ 8) (σ 5 0)) (σ 5 0)) (σ 5 1)) (V_X1_draw (F_X1_draw (F_X1_draw (F_X1_draw (F_X1_draw σ 8) (σ 5 0)) (σ 5 0)) (σ 5 1)) 20) 0) := by rw [L_X0_draw_7, if_neg (Int.not_le.mpr c10), if_pos c55, if_pos c66, if_neg c81_0, if_neg c81_1, if_neg c81_2, if_neg c81_3, if_pos c81_4]
            rw [he]
            exact ih (q + 1) (F_X0_add_27 (F_X1_draw (F_X1_draw (F_X1_draw (F_X1_draw (F_X1_draw σ 8) (σ 5 0)) (σ 5 0)) (σ 5 1)) 20) 4 (V_X1_draw (F_X1_draw σ 8) (σ 5 0)) 0 (V_X1_draw (F_X1_draw (F_X1_draw (F_X1_draw σ 8) (σ 5 0)) (σ 5 0)) (σ 5 1)) (V_X1_draw (F_X1_draw (F_X1_draw (F_X1_draw (F_X1_draw σ 8) (σ 5 0)) (σ 5 0)) (σ 5 1)) 20) 0) (by omega) (by rw [add27_len, show (F_X1_draw (F_X1_draw (F_X1_draw (F_X1_draw (F_X1_draw σ 8) (σ 5 0)) (σ 5 0)) (σ 5 1)) 20) 27 0 = σ 27 0 from ((congrFun (fr_F_X1_draw (F_X1_draw (F_X1_draw (F_X1_draw (F_X1_draw σ 8) (σ 5 0)) (σ 5 0)) (σ 5 1)) 20 (k := 27) (by decide)) _).trans ((congrFun (fr_F_X1_draw (F_X1_draw (F_X1_draw (F_X1_draw σ 8) (σ 5 0)) (σ 5 0)) (σ 5 1) (k := 27) (by decide)) _).trans ((congrFun (fr_F_X1_draw (F_X1_draw (F_X1_draw σ 8) (σ 5 0)) (σ 5 0) (k := 27) (by decide)) _).trans ((congrFun (fr_F_X1_draw (F_X1_draw σ 8) (σ 5 0) (k := 27) (by decide)) _).trans (congrFun (fr_F_X1_draw σ 8 (k := 27) (by decide)) _)))))]; split <;> omega) (by have e9 : (F_X0_add_27 (F_X1_draw (F_X1_draw (F_X1_draw (F_X1_draw (F_X1_draw σ 8) (σ 5 0)) (σ 5 0)) (σ 5 1)) 20) 4 (V_X1_draw (F_X1_draw σ 8) (σ 5 0)) 0 (V_X1_draw (F_X1_draw (F_X1_draw (F_X1_draw σ 8) (σ 5 0)) (σ 5 0)) (σ 5 1)) (V_X1_draw (F_X1_draw (F_X1_draw (F_X1_draw (F_X1_draw σ 8) (σ 5 0)) (σ 5 0)) (σ 5 1)) 20) 0) 5 0 = σ 5 0 := ((congrFun (fr_F_X0_add_27 (F_X1_draw (F_X1_draw (F_X1_draw (F_X1_draw (F_X1_draw σ 8) (σ 5 0)) (σ 5 0)) (σ 5 1)) 20) 4 (V_X1_draw (F_X1_draw σ 8) (σ 5 0)) 0 (V_X1_draw (F_X1_draw (F_X1_draw (F_X1_draw σ 8) (σ 5 0)) (σ 5 0)) (σ 5 1)) (V_X1_draw (F_X1_draw (F_X1_draw (F_X1_draw (F_X1_draw σ 8) (σ 5 0)) (σ 5 0)) (σ 5 1)) 20) 0 (k := 5) (by decide)) _).trans ((congrFun (fr_F_X1_draw (F_X1_draw (F_X1_draw (F_X1_draw (F_X1_draw σ 8) (σ 5 0)) (σ 5 0)) (σ 5 1)) 20 (k := 5) (by decide)) _).trans ((congrFun (fr_F_X1_draw (F_X1_draw (F_X1_draw (F_X1_draw σ 8) (σ 5 0)) (σ 5 0)) (σ 5 1) (k := 5) (by decide)) _).trans ((congrFun (fr_F_X1_draw (F_X1_draw (F_X1_draw σ 8) (σ 5 0)) (σ 5 0) (k := 5) (by decide)) _).trans ((congrFun (fr_F_X1_draw (F_X1_draw σ 8) (σ 5 0) (k := 5) (by decide)) _).trans (congrFun (fr_F_X1_draw σ 8 (k := 5) (by decide)) _)))))); omega) (by have e9 : (F_X0_add_27 (F_X1_draw (F_X1_draw (F_X1_draw (F_X1_draw (F_X1_draw σ 8) (σ 5 0)) (σ 5 0)) (σ 5 1)) 20) 4 (V_X1_draw (F_X1_draw σ 8) (σ 5 0)) 0 (V_X1_draw (F_X1_draw (F_X1_draw (F_X1_draw σ 8) (σ 5 0)) (σ 5 0)) (σ 5 1)) (V_X1_draw (F_X1_draw (F_X1_draw (F_X1_draw (F_X1_draw σ 8) (σ 5 0)) (σ 5 0)) (σ 5 1)) 20) 0) 5 1 = σ 5 1 := ((congrFun (fr_F_X0_add_27 (F_X1_draw (F_X1_draw (F_X1_draw (F_X1_draw (F_X1_draw σ 8) (σ 5 0)) (σ 5 0)) (σ 5 1)) 20) 4 (V_X1_draw (F_X1_draw σ 8) (σ 5 0)) 0 (V_X1_draw (F_X1_draw (F_X1_draw (F_X1_draw σ 8) (σ 5 0)) (σ 5 0)) (σ 5 1)) (V_X1_draw (F_X1_draw (F_X1_draw (F_X1_draw (F_X1_draw σ 8) (σ 5 0)) (σ 5 0)) (σ 5 1)) 20) 0 (k := 5) (by decide)) _).trans ((congrFun (fr_F_X1_draw (F_X1_draw (F_X1_draw (F_X1_draw (F_X1_draw σ 8) (σ 5 0)) (σ 5 0)) (σ 5 1)) 20 (k := 5) (by decide)) _).trans ((congrFun (fr_F_X1_draw (F_X1_draw (F_X1_draw (F_X1_draw σ 8) (σ 5 0)) (σ 5 0)) (σ 5 1) (k := 5) (by decide)) _).trans ((congrFun (fr_F_X1_draw (F_X1_draw (F_X1_draw σ 8) (σ 5 0)) (σ 5 0) (k := 5) (by decide)) _).trans ((congrFun (fr_F_X1_draw (F_X1_draw σ 8) (σ 5 0) (k := 5) (by decide)) _).trans (congrFun (fr_F_X1_draw σ 8 (k := 5) (by decide)) _)))))); omega) (by omega)
          refine zRx.tableOut (tgt := 182) dX0_draw_81 (by omega) (by decide) ?_
          refine zRx.aload_n 0 rfl rfl dX0_draw_182 ?_
          refine zRx.iconst ⟨by decide, by decide⟩ dX0_draw_183 ?_
          refine zRx.iload 6 rfl dX0_draw_184 ?_
          refine zRx.iload 7 rfl dX0_draw_186 ?_
          refine zRx.iload 8 rfl dX0_draw_188 ?_
          refine zRx.iconst ⟨by decide, by decide⟩ dX0_draw_190 ?_
          refine zRx.iconst ⟨by decide, by decide⟩ dX0_draw_191 ?_
          refine zRx.cVv (M := m_X0_add) (av := [.inl 3, .inl (V_X1_draw (F_X1_draw σ 8) (σ 5 0)), .inl 0, .inl (V_X1_draw (F_X1_draw (F_X1_draw (F_X1_draw σ 8) (σ 5 0)) (σ 5 0)) (σ 5 1)), .inl 0, .inl 0]) cv_0_46 mk_X0_add (by decide) (b := 27) rfl rfl (Nat.le_of_ble_eq_true rfl) dX0_draw_192 (does_X0_add_27 (F_X1_draw (F_X1_draw (F_X1_draw (F_X1_draw σ 8) (σ 5 0)) (σ 5 0)) (σ 5 1)) 3 (V_X1_draw (F_X1_draw σ 8) (σ 5 0)) 0 (V_X1_draw (F_X1_draw (F_X1_draw (F_X1_draw σ 8) (σ 5 0)) (σ 5 0)) (σ 5 1)) 0 0 (by rw [show (F_X1_draw (F_X1_draw (F_X1_draw (F_X1_draw σ 8) (σ 5 0)) (σ 5 0)) (σ 5 1)) 27 0 = σ 27 0 from ((congrFun (fr_F_X1_draw (F_X1_draw (F_X1_draw (F_X1_draw σ 8) (σ 5 0)) (σ 5 0)) (σ 5 1) (k := 27) (by decide)) _).trans ((congrFun (fr_F_X1_draw (F_X1_draw (F_X1_draw σ 8) (σ 5 0)) (σ 5 0) (k := 27) (by decide)) _).trans ((congrFun (fr_F_X1_draw (F_X1_draw σ 8) (σ 5 0) (k := 27) (by decide)) _).trans (congrFun (fr_F_X1_draw σ 8 (k := 27) (by decide)) _))))]; exact hL)) ?_
          refine zRx.iinc (n := 1) (ls' := [(0, zP 27), (1, .inl x), (2, zP 97), (3, zP 5), (4, .inl (q + 1)), (5, .inl (V_X1_draw σ 8)), (6, .inl (V_X1_draw (F_X1_draw σ 8) (σ 5 0))), (7, .inl 0), (8, .inl (V_X1_draw (F_X1_draw (F_X1_draw (F_X1_draw σ 8) (σ 5 0)) (σ 5 0)) (σ 5 1)))]) 4 rfl ⟨by omega, by omega⟩ rfl (by decide) dX0_draw_195 ?_
          refine zRx.goto (tgt := 7) dX0_draw_198 (by decide) ?_
          refine zRx.pick [0, 1, 2, 3, 4] (ls' := [(0, zP 27), (1, .inl x), (2, zP 97), (3, zP 5), (4, .inl (q + 1))]) rfl ?_
          have he : L_X0_draw_7 x (n + 1) q σ = L_X0_draw_7 x n (q + 1) (F_X0_add_27 (F_X1_draw (F_X1_draw (F_X1_draw (F_X1_draw σ 8) (σ 5 0)) (σ 5 0)) (σ 5 1)) 3 (V_X1_draw (F_X1_draw σ 8) (σ 5 0)) 0 (V_X1_draw (F_X1_draw (F_X1_draw (F_X1_draw σ 8) (σ 5 0)) (σ 5 0)) (σ 5 1)) 0 0) := by rw [L_X0_draw_7, if_neg (Int.not_le.mpr c10), if_pos c55, if_pos c66, if_neg c81_0, if_neg c81_1, if_neg c81_2, if_neg c81_3, if_neg c81_4]
          rw [he]
          exact ih (q + 1) (F_X0_add_27 (F_X1_draw (F_X1_draw (F_X1_draw (F_X1_draw σ 8) (σ 5 0)) (σ 5 0)) (σ 5 1)) 3 (V_X1_draw (F_X1_draw σ 8) (σ 5 0)) 0 (V_X1_draw (F_X1_draw (F_X1_draw (F_X1_draw σ 8) (σ 5 0)) (σ 5 0)) (σ 5 1)) 0 0) (by omega) (by rw [add27_len, show (F_X1_draw (F_X1_draw (F_X1_draw (F_X1_draw σ 8) (σ 5 0)) (σ 5 0)) (σ 5 1)) 27 0 = σ 27 0 from ((congrFun (fr_F_X1_draw (F_X1_draw (F_X1_draw (F_X1_draw σ 8) (σ 5 0)) (σ 5 0)) (σ 5 1) (k := 27) (by decide)) _).trans ((congrFun (fr_F_X1_draw (F_X1_draw (F_X1_draw σ 8) (σ 5 0)) (σ 5 0) (k := 27) (by decide)) _).trans ((congrFun (fr_F_X1_draw (F_X1_draw σ 8) (σ 5 0) (k := 27) (by decide)) _).trans (congrFun (fr_F_X1_draw σ 8 (k := 27) (by decide)) _))))]; split <;> omega) (by have e9 : (F_X0_add_27 (F_X1_draw (F_X1_draw (F_X1_draw (F_X1_draw σ 8) (σ 5 0)) (σ 5 0)) (σ 5 1)) 3 (V_X1_draw (F_X1_draw σ 8) (σ 5 0)) 0 (V_X1_draw (F_X1_draw (F_X1_draw (F_X1_draw σ 8) (σ 5 0)) (σ 5 0)) (σ 5 1)) 0 0) 5 0 = σ 5 0 := ((congrFun (fr_F_X0_add_27 (F_X1_draw (F_X1_draw (F_X1_draw (F_X1_draw σ 8) (σ 5 0)) (σ 5 0)) (σ 5 1)) 3 (V_X1_draw (F_X1_draw σ 8) (σ 5 0)) 0 (V_X1_draw (F_X1_draw (F_X1_draw (F_X1_draw σ 8) (σ 5 0)) (σ 5 0)) (σ 5 1)) 0 0 (k := 5) (by decide)) _).trans ((congrFun (fr_F_X1_draw (F_X1_draw (F_X1_draw (F_X1_draw σ 8) (σ 5 0)) (σ 5 0)) (σ 5 1) (k := 5) (by decide)) _).trans ((congrFun (fr_F_X1_draw (F_X1_draw (F_X1_draw σ 8) (σ 5 0)) (σ 5 0) (k := 5) (by decide)) _).trans ((congrFun (fr_F_X1_draw (F_X1_draw σ 8) (σ 5 0) (k := 5) (by decide)) _).trans (congrFun (fr_F_X1_draw σ 8 (k := 5) (by decide)) _))))); omega) (by have e9 : (F_X0_add_27 (F_X1_draw (F_X1_draw (F_X1_draw (F_X1_draw σ 8) (σ 5 0)) (σ 5 0)) (σ 5 1)) 3 (V_X1_draw (F_X1_draw σ 8) (σ 5 0)) 0 (V_X1_draw (F_X1_draw (F_X1_draw (F_X1_draw σ 8) (σ 5 0)) (σ 5 0)) (σ 5 1)) 0 0) 5 1 = σ 5 1 := ((congrFun (fr_F_X0_add_27 (F_X1_draw (F_X1_draw (F_X1_draw (F_X1_draw σ 8) (σ 5 0)) (σ 5 0)) (σ 5 1)) 3 (V_X1_draw (F_X1_draw σ 8) (σ 5 0)) 0 (V_X1_draw (F_X1_draw (F_X1_draw (F_X1_draw σ 8) (σ 5 0)) (σ 5 0)) (σ 5 1)) 0 0 (k := 5) (by decide)) _).trans ((congrFun (fr_F_X1_draw (F_X1_draw (F_X1_draw (F_X1_draw σ 8) (σ 5 0)) (σ 5 0)) (σ 5 1) (k := 5) (by decide)) _).trans ((congrFun (fr_F_X1_draw (F_X1_draw (F_X1_draw σ 8) (σ 5 0)) (σ 5 0) (k := 5) (by decide)) _).trans ((congrFun (fr_F_X1_draw (F_X1_draw σ 8) (σ 5 0) (k := 5) (by decide)) _).trans (congrFun (fr_F_X1_draw σ 8 (k := 5) (by decide)) _))))); omega) (by omega)
        · refine zRx.iload 6 rfl dX0_draw_69 ?_
          refine zRx.iconst ⟨by decide, by decide⟩ dX0_draw_71 ?_
          refine zRx.iadd ⟨by omega, by omega⟩ dX0_draw_72 ?_
          refine zRx.goto (tgt := 77) dX0_draw_73 (by decide) ?_
          refine zRx.istore (ls' := [(0, zP 27), (1, .inl x), (2, zP 97), (3, zP 5), (4, .inl q), (5, .inl (V_X1_draw σ 8)), (6, .inl (V_X1_draw (F_X1_draw σ 8) (σ 5 0))), (7, .inl ((V_X1_draw (F_X1_draw σ 8) (σ 5 0)) + 1)), (8, .inl (V_X1_draw (F_X1_draw (F_X1_draw (F_X1_draw σ 8) (σ 5 0)) (σ 5 0)) (σ 5 1)))]) rfl (by decide) dX0_draw_77 ?_
          refine zRx.iload 5 rfl dX0_draw_79 ?_
          by_cases c81_0 : V_X1_draw σ 8 = 0
          · refine zRx.topI (b := 0) c81_0 ?_
            refine zRx.tableIn (tgt := 116) dX0_draw_81 (by decide) (by decide) rfl (by decide) ?_
            refine zRx.aload_n 0 rfl rfl dX0_draw_116 ?_
            refine zRx.aload_n 0 rfl rfl dX0_draw_117 ?_
            refine zRx.getIv (a := 27) (ji := 1) (v := σ 27 1) ((congrFun (fr_F_X1_draw (F_X1_draw (F_X1_draw (F_X1_draw σ 8) (σ 5 0)) (σ 5 0)) (σ 5 1) (k := 27) (by decide)) _).trans ((congrFun (fr_F_X1_draw (F_X1_draw (F_X1_draw σ 8) (σ 5 0)) (σ 5 0) (k := 27) (by decide)) _).trans ((congrFun (fr_F_X1_draw (F_X1_draw σ 8) (σ 5 0) (k := 27) (by decide)) _).trans (congrFun (fr_F_X1_draw σ 8 (k := 27) (by decide)) _)))) fl_0_37 rfl rfl rfl dX0_draw_118 ?_
            refine zRx.iconst ⟨by decide, by decide⟩ dX0_draw_121 ?_
            refine zRx.iaddW dX0_draw_122 ?_
            refine zRx.cVv (M := m_X0_addDay) (av := [.inl (w32 ((σ 27 1) + 1))]) cv_0_67 mk_X0_addDay (by decide) (b := 27) rfl rfl (Nat.le_of_ble_eq_true rfl) dX0_draw_123 (does_X0_addDay_27 (F_X1_draw (F_X1_draw (F_X1_draw (F_X1_draw σ 8) (σ 5 0)) (σ 5 0)) (σ 5 1)) (w32 ((σ 27 1) + 1)) (by rw [show (F_X1_draw (F_X1_draw (F_X1_draw (F_X1_draw σ 8) (σ 5 0)) (σ 5 0)) (σ 5 1)) 27 0 = σ 27 0 from ((congrFun (fr_F_X1_draw (F_X1_draw (F_X1_draw (F_X1_draw σ 8) (σ 5 0)) (σ 5 0)) (σ 5 1) (k := 27) (by decide)) _).trans ((congrFun (fr_F_X1_draw (F_X1_draw (F_X1_draw σ 8) (σ 5 0)) (σ 5 0) (k := 27) (by decide)) _).trans ((congrFun (fr_F_X1_draw (F_X1_draw σ 8) (σ 5 0) (k := 27) (by decide)) _).trans (congrFun (fr_F_X1_draw σ 8 (k := 27) (by decide)) _))))]; exact hL)) ?_
            refine zRx.goto (tgt := 195) dX0_draw_126 (by decide) ?_
            refine zRx.iinc (n := 1) (ls' := [(0, zP 27), (1, .inl x), (2, zP 97), (3, zP 5), (4, .inl (q + 1)), (5, .inl (V_X1_draw σ 8)), (6, .inl (V_X1_draw (F_X1_draw σ 8) (σ 5 0))), (7, .inl ((V_X1_draw (F_X1_draw σ 8) (σ 5 0)) + 1)), (8, .inl (V_X1_draw (F_X1_draw (F_X1_draw (F_X1_draw σ 8) (σ 5 0)) (σ 5 0)) (σ 5 1)))]) 4 rfl ⟨by omega, by omega⟩ rfl (by decide) dX0_draw_195 ?_
            refine zRx.goto (tgt := 7) dX0_draw_198 (by decide) ?_
            refine zRx.pick [0, 1, 2, 3, 4] (ls' := [(0, zP 27), (1, .inl x), (2, zP 97), (3, zP 5), (4, .inl (q + 1))]) rfl ?_
            have he : L_X0_draw_7 x (n + 1) q σ = L_X0_draw_7 x n (q + 1) (F_X0_addDay_27 (F_X1_draw (F_X1_draw (F_X1_draw (F_X1_draw σ 8) (σ 5 0)) (σ 5 0)) (σ 5 1)) (w32 ((σ 27 1) + 1))) := by rw [L_X0_draw_7, if_neg (Int.not_le.mpr c10), if_pos c55, if_neg (Int.not_le.mpr c66), if_pos c81_0]
            rw [he]
            exact ih (q + 1) (F_X0_addDay_27 (F_X1_draw (F_X1_draw (F_X1_draw (F_X1_draw σ 8) (σ 5 0)) (σ 5 0)) (σ 5 1)) (w32 ((σ 27 1) + 1))) (by omega) (by rw [addDay27_len, show (F_X1_draw (F_X1_draw (F_X1_draw (F_X1_draw σ 8) (σ 5 0)) (σ 5 0)) (σ 5 1)) 27 0 = σ 27 0 from ((congrFun (fr_F_X1_draw (F_X1_draw (F_X1_draw (F_X1_draw σ 8) (σ 5 0)) (σ 5 0)) (σ 5 1) (k := 27) (by decide)) _).trans ((congrFun (fr_F_X1_draw (F_X1_draw (F_X1_draw σ 8) (σ 5 0)) (σ 5 0) (k := 27) (by decide)) _).trans ((congrFun (fr_F_X1_draw (F_X1_draw σ 8) (σ 5 0) (k := 27) (by decide)) _).trans (congrFun (fr_F_X1_draw σ 8 (k := 27) (by decide)) _))))]; split <;> omega) (by have e9 : (F_X0_addDay_27 (F_X1_draw (F_X1_draw (F_X1_draw (F_X1_draw σ 8) (σ 5 0)) (σ 5 0)) (σ 5 1)) (w32 ((σ 27 1) + 1))) 5 0 = σ 5 0 := ((congrFun (fr_F_X0_addDay_27 (F_X1_draw (F_X1_draw (F_X1_draw (F_X1_draw σ 8) (σ 5 0)) (σ 5 0)) (σ 5 1)) (w32 ((σ 27 1) + 1)) (k := 5) (by decide)) _).trans ((congrFun (fr_F_X1_draw (F_X1_draw (F_X1_draw (F_X1_draw σ 8) (σ 5 0)) (σ 5 0)) (σ 5 1) (k := 5) (by decide)) _).trans ((congrFun (fr_F_X1_draw (F_X1_draw (F_X1_draw σ 8) (σ 5 0)) (σ 5 0) (k := 5) (by decide)) _).trans ((congrFun (fr_F_X1_draw (F_X1_draw σ 8) (σ 5 0) (k := 5) (by decide)) _).trans (congrFun (fr_F_X1_draw σ 8 (k := 5) (by decide)) _))))); omega) (by have e9 : (F_X0_addDay_27 (F_X1_draw (F_X1_draw (F_X1_draw (F_X1_draw σ 8) (σ 5 0)) (σ 5 0)) (σ 5 1)) (w32 ((σ 27 1) + 1))) 5 1 = σ 5 1 := ((congrFun (fr_F_X0_addDay_27 (F_X1_draw (F_X1_draw (F_X1_draw (F_X1_draw σ 8) (σ 5 0)) (σ 5 0)) (σ 5 1)) (w32 ((σ 27 1) + 1)) (k := 5) (by decide)) _).trans ((congrFun (fr_F_X1_draw (F_X1_draw (F_X1_draw (F_X1_draw σ 8) (σ 5 0)) (σ 5 0)) (σ 5 1) (k := 5) (by decide)) _).trans ((congrFun (fr_F_X1_draw (F_X1_draw (F_X1_draw σ 8) (σ 5 0)) (σ 5 0) (k := 5) (by decide)) _).trans ((congrFun (fr_F_X1_draw (F_X1_draw σ 8) (σ 5 0) (k := 5) (by decide)) _).trans (congrFun (fr_F_X1_draw σ 8 (k := 5) (by decide)) _))))); omega) (by omega)
          by_cases c81_1 : V_X1_draw σ 8 = 1
          · refine zRx.topI (b := 1) c81_1 ?_
            refine zRx.tableIn (tgt := 129) dX0_draw_81 (by decide) (by decide) rfl (by decide) ?_
            refine zRx.aload_n 0 rfl rfl dX0_draw_129 ?_
            refine zRx.iconst ⟨by decide, by decide⟩ dX0_draw_130 ?_
            refine zRx.iload 6 rfl dX0_draw_131 ?_
            refine zRx.iload 7 rfl dX0_draw_133 ?_
            refine zRx.iload 8 rfl dX0_draw_135 ?_
            refine zRx.iconst ⟨by decide, by decide⟩ dX0_draw_137 ?_
            refine zRx.iconst ⟨by decide, by decide⟩ dX0_draw_138 ?_
            refine zRx.cVv (M := m_X0_add) (av := [.inl 1, .inl (V_X1_draw (F_X1_draw σ 8) (σ 5 0)), .inl ((V_X1_draw (F_X1_draw σ 8) (σ 5 0)) + 1), .inl (V_X1_draw (F_X1_draw (F_X1_draw (F_X1_draw σ 8) (σ 5 0)) (σ 5 0)) (σ 5 1)), .inl 0, .inl 0]) cv_0_46 mk_X0_add (by decide) (b := 27) rfl rfl (Nat.le_of_ble_eq_true rfl) dX0_draw_139 (does_X0_add_27 (F_X1_draw (F_X1_draw (F_X1_draw (F_X1_draw σ 8) (σ 5 0)) (σ 5 0)) (σ 5 1)) 1 (V_X1_draw (F_X1_draw σ 8) (σ 5 0)) ((V_X1_draw (F_X1_draw σ 8) (σ 5 0)) + 1) (V_X1_draw (F_X1_draw (F_X1_draw (F_X1_draw σ 8) (σ 5 0)) (σ 5 0)) (σ 5 1)) 0 0 (by rw [show (F_X1_draw (F_X1_draw (F_X1_draw (F_X1_draw σ 8) (σ 5 0)) (σ 5 0)) (σ 5 1)) 27 0 = σ 27 0 from ((congrFun (fr_F_X1_draw (F_X1_draw (F_X1_draw (F_X1_draw σ 8) (σ 5 0)) (σ 5 0)) (σ 5 1) (k := 27) (by decide)) _).trans ((congrFun (fr_F_X1_draw (F_X1_draw (F_X1_draw σ 8) (σ 5 0)) (σ 5 0) (k := 27) (by decide)) _).trans ((congrFun (fr_F_X1_draw (F_X1_draw σ 8) (σ 5 0) (k := 27) (by decide)) _).trans (congrFun (fr_F_X1_draw σ 8 (k := 27) (by decide)) _))))]; exact hL)) ?_
            refine zRx.goto (tgt := 195) dX0_draw_142 (by decide) ?_
            refine zRx.iinc (n := 1) (ls' := [(0, zP 27), (1, .inl x), (2, zP 97), (3, zP 5), (4, .inl (q + 1)), (5, .inl (V_X1_draw σ 8)), (6, .inl (V_X1_draw (F_X1_draw σ 8) (σ 5 0))), (7, .inl ((V_X1_draw (F_X1_draw σ 8) (σ 5 0)) + 1)), (8, .inl (V_X1_draw (F_X1_draw (F_X1_draw (F_X1_draw σ 8) (σ 5 0)) (σ 5 0)) (σ 5 1)))]) 4 rfl ⟨by omega, by omega⟩ rfl (by decide) dX0_draw_195 ?_
            refine zRx.goto (tgt := 7) dX0_draw_198 (by decide) ?_
            refine zRx.pick [0, 1, 2, 3, 4] (ls' := [(0, zP 27), (1, .inl x), (2, zP 97), (3, zP 5), (4, .inl (q + 1))]) rfl ?_
            have he : L_X0_draw_7 x (n + 1) q σ = L_X0_draw_7 x n (q + 1) (F_X0_add_27 (F_X1_draw (F_X1_draw (F_X1_draw (F_X1_draw σ 8) (σ 5 0)) (σ 5 0)) (σ 5 1)) 1 (V_X1_draw (F_X1_draw σ 8) (σ 5 0)) ((V_X1_draw (F_X1_draw σ 8) (σ 5 0)) + 1) (V_X1_draw (F_X1_draw (F_X1_draw (F_X1_draw σ 8) (σ 5 0)) (σ 5 0)) (σ 5 1)) 0 0) := by rw [L_X0_draw_7, if_neg (Int.not_le.mpr c10), if_pos c55, if_neg (Int.not_le.mpr c66), if_neg c81_0, if_pos c81_1]
            rw [he]
            exact ih (q + 1) (F_X0_add_27 (F_X1_draw (F_X1_draw (F_X1_draw (F_X1_draw σ 8) (σ 5 0)) (σ 5 0)) (σ 5 1)) 1 (V_X1_draw (F_X1_draw σ 8) (σ 5 0)) ((V_X1_draw (F_X1_draw σ 8) (σ 5 0)) + 1) (V_X1_draw (F_X1_draw (F_X1_draw (F_X1_draw σ 8) (σ 5 0)) (σ 5 0)) (σ 5 1)) 0 0) (by omega) (by rw [add27_len, show (F_X1_draw (F_X1_draw (F_X1_draw (F_X1_draw σ 8) (σ 5 0)) (σ 5 0)) (σ 5 1)) 27 0 = σ 27 0 from ((congrFun (fr_F_X1_draw (F_X1_draw (F_X1_draw (F_X1_draw σ 8) (σ 5 0)) (σ 5 0)) (σ 5 1) (k := 27) (by decide)) _).trans ((congrFun (fr_F_X1_draw (F_X1_draw (F_X1_draw σ 8) (σ 5 0)) (σ 5 0) (k := 27) (by decide)) _).trans ((congrFun (fr_F_X1_draw (F_X1_draw σ 8) (σ 5 0) (k := 27) (by decide)) _).trans (congrFun (fr_F_X1_draw σ 8 (k := 27) (by decide)) _))))]; split <;> omega) (by have e9 : (F_X0_add_27 (F_X1_draw (F_X1_draw (F_X1_draw (F_X1_draw σ 8) (σ 5 0)) (σ 5 0)) (σ 5 1)) 1 (V_X1_draw (F_X1_draw σ 8) (σ 5 0)) ((V_X1_draw (F_X1_draw σ 8) (σ 5 0)) + 1) (V_X1_draw (F_X1_draw (F_X1_draw (F_X1_draw σ 8) (σ 5 0)) (σ 5 0)) (σ 5 1)) 0 0) 5 0 = σ 5 0 := ((congrFun (fr_F_X0_add_27 (F_X1_draw (F_X1_draw (F_X1_draw (F_X1_draw σ 8) (σ 5 0)) (σ 5 0)) (σ 5 1)) 1 (V_X1_draw (F_X1_draw σ 8) (σ 5 0)) ((V_X1_draw (F_X1_draw σ 8) (σ 5 0)) + 1) (V_X1_draw (F_X1_draw (F_X1_draw (F_X1_draw σ 8) (σ 5 0)) (σ 5 0)) (σ 5 1)) 0 0 (k := 5) (by decide)) _).trans ((congrFun (fr_F_X1_draw (F_X1_draw (F_X1_draw (F_X1_draw σ 8) (σ 5 0)) (σ 5 0)) (σ 5 1) (k := 5) (by decide)) _).trans ((congrFun (fr_F_X1_draw (F_X1_draw (F_X1_draw σ 8) (σ 5 0)) (σ 5 0) (k := 5) (by decide)) _).trans ((congrFun (fr_F_X1_draw (F_X1_draw σ 8) (σ 5 0) (k := 5) (by decide)) _).trans (congrFun (fr_F_X1_draw σ 8 (k := 5) (by decide)) _))))); omega) (by have e9 : (F_X0_add_27 (F_X1_draw (F_X1_draw (F_X1_draw (F_X1_draw σ 8) (σ 5 0)) (σ 5 0)) (σ 5 1)) 1 (V_X1_draw (F_X1_draw σ 8) (σ 5 0)) ((V_X1_draw (F_X1_draw σ 8) (σ 5 0)) + 1) (V_X1_draw (F_X1_draw (F_X1_draw (F_X1_draw σ 8) (σ 5 0)) (σ 5 0)) (σ 5 1)) 0 0) 5 1 = σ 5 1 := ((congrFun (fr_F_X0_add_27 (F_X1_draw (F_X1_draw (F_X1_draw (F_X1_draw σ 8) (σ 5 0)) (σ 5 0)) (σ 5 1)) 1 (V_X1_draw (F_X1_draw σ 8) (σ 5 0)) ((V_X1_draw (F_X1_draw σ 8) (σ 5 0)) + 1) (V_X1_draw (F_X1_draw (F_X1_draw (F_X1_draw σ 8) (σ 5 0)) (σ 5 0)) (σ 5 1)) 0 0 (k := 5) (by decide)) _).trans ((congrFun (fr_F_X1_draw (F_X1_draw (F_X1_draw (F_X1_draw σ 8) (σ 5 0)) (σ 5 0)) (σ 5 1) (k := 5) (by decide)) _).trans ((congrFun (fr_F_X1_draw (F_X1_draw (F_X1_draw σ 8) (σ 5 0)) (σ 5 0) (k := 5) (by decide)) _).trans ((congrFun (fr_F_X1_draw (F_X1_draw σ 8) (σ 5 0) (k := 5) (by decide)) _).trans (congrFun (fr_F_X1_draw σ 8 (k := 5) (by decide)) _))))); omega) (by omega)
          by_cases c81_2 : V_X1_draw σ 8 = 2
          · refine zRx.topI (b := 2) c81_2 ?_
            refine zRx.tableIn (tgt := 129) dX0_draw_81 (by decide) (by decide) rfl (by decide) ?_
            refine zRx.aload_n 0 rfl rfl dX0_draw_129 ?_
            refine zRx.iconst ⟨by decide, by decide⟩ dX0_draw_130 ?_
            refine zRx.iload 6 rfl dX0_draw_131 ?_
            refine zRx.iload 7 rfl dX0_draw_133 ?_
            refine zRx.iload 8 rfl dX0_draw_135 ?_
            refine zRx.iconst ⟨by decide, by decide⟩ dX0_draw_137 ?_
            refine zRx.iconst ⟨by decide, by decide⟩ dX0_draw_138 ?_
            refine zRx.cVv (M := m_X0_add) (av := [.inl 1, .inl (V_X1_draw (F_X1_draw σ 8) (σ 5 0)), .inl ((V_X1_draw (F_X1_draw σ 8) (σ 5 0)) + 1), .inl (V_X1_draw (F_X1_draw (F_X1_draw (F_X1_draw σ 8) (σ 5 0)) (σ 5 0)) (σ 5 1)), .inl 0, .inl 0]) cv_0_46 mk_X0_add (by decide) (b := 27) rfl rfl (Nat.le_of_ble_eq_true rfl) dX0_draw_139 (does_X0_add_27 (F_X1_draw (F_X1_draw (F_X1_draw (F_X1_draw σ 8) (σ 5 0)) (σ 5 0)) (σ 5 1)) 1 (V_X1_draw (F_X1_draw σ 8) (σ 5 0)) ((V_X1_draw (F_X1_draw σ 8) (σ 5 0)) + 1) (V_X1_draw (F_X1_draw (F_X1_draw (F_X1_draw σ 8) (σ 5 0)) (σ 5 0)) (σ 5 1)) 0 0 (by rw [show (F_X1_draw (F_X1_draw (F_X1_draw (F_X1_draw σ 8) (σ 5 0)) (σ 5 0)) (σ 5 1)) 27 0 = σ 27 0 from ((congrFun (fr_F_X1_draw (F_X1_draw (F_X1_draw (F_X1_draw σ 8) (σ 5 0)) (σ 5 0)) (σ 5 1) (k := 27) (by decide)) _).trans ((congrFun (fr_F_X1_draw (F_X1_draw (F_X1_draw σ 8) (σ 5 0)) (σ 5 0) (k := 27) (by decide)) _).trans ((congrFun (fr_F_X1_draw (F_X1_draw σ 8) (σ 5 0) (k := 27) (by decide)) _).trans (congrFun (fr_F_X1_draw σ 8 (k := 27) (by decide)) _))))]; exact hL)) ?_
            refine zRx.goto (tgt := 195) dX0_draw_142 (by decide) ?_
            refine zRx.iinc (n := 1) (ls' := [(0, zP 27), (1, .inl x), (2, zP 97), (3, zP 5), (4, .inl (q + 1)), (5, .inl (V_X1_draw σ 8)), (6, .inl (V_X1_draw (F_X1_draw σ 8) (σ 5 0))), (7, .inl ((V_X1_draw (F_X1_draw σ 8) (σ 5 0)) + 1)), (8, .inl (V_X1_draw (F_X1_draw (F_X1_draw (F_X1_draw σ 8) (σ 5 0)) (σ 5 0)) (σ 5 1)))]) 4 rfl ⟨by omega, by omega⟩ rfl (by decide) dX0_draw_195 ?_
            refine zRx.goto (tgt := 7) dX0_draw_198 (by decide) ?_
            refine zRx.pick [0, 1, 2, 3, 4] (ls' := [(0, zP 27), (1, .inl x), (2, zP 97), (3, zP 5), (4, .inl (q + 1))]) rfl ?_
            have he : L_X0_draw_7 x (n + 1) q σ = L_X0_draw_7 x n (q + 1) (F_X0_add_27 (F_X1_draw (F_X1_draw (F_X1_draw (F_X1_draw σ 8) (σ 5 0)) (σ 5 0)) (σ 5 1)) 1 (V_X1_draw (F_X1_draw σ 8) (σ 5 0)) ((V_X1_draw (F_X1_draw σ 8) (σ 5 0)) + 1) (V_X1_draw (F_X1_draw (F_X1_draw (F_X1_draw σ 8) (σ 5 0)) (σ 5 0)) (σ 5 1)) 0 0) := by rw [L_X0_draw_7, if_neg (Int.not_le.mpr c10), if_pos c55, if_neg (Int.not_le.mpr c66), if_neg c81_0, if_neg c81_1, if_pos c81_2]
            rw [he]
            exact ih (q + 1) (F_X0_add_27 (F_X1_draw (F_X1_draw (F_X1_draw (F_X1_draw σ 8) (σ 5 0)) (σ 5 0)) (σ 5 1)) 1 (V_X1_draw (F_X1_draw σ 8) (σ 5 0)) ((V_X1_draw (F_X1_draw σ 8) (σ 5 0)) + 1) (V_X1_draw (F_X1_draw (F_X1_draw (F_X1_draw σ 8) (σ 5 0)) (σ 5 0)) (σ 5 1)) 0 0) (by omega) (by rw [add27_len, show (F_X1_draw (F_X1_draw (F_X1_draw (F_X1_draw σ 8) (σ 5 0)) (σ 5 0)) (σ 5 1)) 27 0 = σ 27 0 from ((congrFun (fr_F_X1_draw (F_X1_draw (F_X1_draw (F_X1_draw σ 8) (σ 5 0)) (σ 5 0)) (σ 5 1) (k := 27) (by decide)) _).trans ((congrFun (fr_F_X1_draw (F_X1_draw (F_X1_draw σ 8) (σ 5 0)) (σ 5 0) (k := 27) (by decide)) _).trans ((congrFun (fr_F_X1_draw (F_X1_draw σ 8) (σ 5 0) (k := 27) (by decide)) _).trans (congrFun (fr_F_X1_draw σ 8 (k := 27) (by decide)) _))))]; split <;> omega) (by have e9 : (F_X0_add_27 (F_X1_draw (F_X1_draw (F_X1_draw (F_X1_draw σ 8) (σ 5 0)) (σ 5 0)) (σ 5 1)) 1 (V_X1_draw (F_X1_draw σ 8) (σ 5 0)) ((V_X1_draw (F_X1_draw σ 8) (σ 5 0)) + 1) (V_X1_draw (F_X1_draw (F_X1_draw (F_X1_draw σ 8) (σ 5 0)) (σ 5 0)) (σ 5 1)) 0 0) 5 0 = σ 5 0 := ((congrFun (fr_F_X0_add_27 (F_X1_draw (F_X1_draw (F_X1_draw (F_X1_draw σ 8) (σ 5 0)) (σ 5 0)) (σ 5 1)) 1 (V_X1_draw (F_X1_draw σ 8) (σ 5 0)) ((V_X1_draw (F_X1_draw σ 8) (σ 5 0)) + 1) (V_X1_draw (F_X1_draw (F_X1_draw (F_X1_draw σ 8) (σ 5 0)) (σ 5 0)) (σ 5 1)) 0 0 (k := 5) (by decide)) _).trans ((congrFun (fr_F_X1_draw (F_X1_draw (F_X1_draw (F_X1_draw σ 8) (σ 5 0)) (σ 5 0)) (σ 5 1) (k := 5) (by decide)) _).trans ((congrFun (fr_F_X1_draw (F_X1_draw (F_X1_draw σ 8) (σ 5 0)) (σ 5 0) (k := 5) (by decide)) _).trans ((congrFun (fr_F_X1_draw (F_X1_draw σ 8) (σ 5 0) (k := 5) (by decide)) _).trans (congrFun (fr_F_X1_draw σ 8 (k := 5) (by decide)) _))))); omega) (by have e9 : (F_X0_add_27 (F_X1_draw (F_X1_draw (F_X1_draw (F_X1_draw σ 8) (σ 5 0)) (σ 5 0)) (σ 5 1)) 1 (V_X1_draw (F_X1_draw σ 8) (σ 5 0)) ((V_X1_draw (F_X1_draw σ 8) (σ 5 0)) + 1) (V_X1_draw (F_X1_draw (F_X1_draw (F_X1_draw σ 8) (σ 5 0)) (σ 5 0)) (σ 5 1)) 0 0) 5 1 = σ 5 1 := ((congrFun (fr_F_X0_add_27 (F_X1_draw (F_X1_draw (F_X1_draw (F_X1_draw σ 8) (σ 5 0)) (σ 5 0)) (σ 5 1)) 1 (V_X1_draw (F_X1_draw σ 8) (σ 5 0)) ((V_X1_draw (F_X1_draw σ 8) (σ 5 0)) + 1) (V_X1_draw (F_X1_draw (F_X1_draw (F_X1_draw σ 8) (σ 5 0)) (σ 5 0)) (σ 5 1)) 0 0 (k := 5) (by decide)) _).trans ((congrFun (fr_F_X1_draw (F_X1_draw (F_X1_draw (F_X1_draw σ 8) (σ 5 0)) (σ 5 0)) (σ 5 1) (k := 5) (by decide)) _).trans ((congrFun (fr_F_X1_draw (F_X1_draw (F_X1_draw σ 8) (σ 5 0)) (σ 5 0) (k := 5) (by decide)) _).trans ((congrFun (fr_F_X1_draw (F_X1_draw σ 8) (σ 5 0) (k := 5) (by decide)) _).trans (congrFun (fr_F_X1_draw σ 8 (k := 5) (by decide)) _))))); omega) (by omega)
          by_cases c81_3 : V_X1_draw σ 8 = 3
          · refine zRx.topI (b := 3) c81_3 ?_
            refine zRx.tableIn (tgt := 145) dX0_draw_81 (by decide) (by decide) rfl (by decide) ?_
            refine zRx.aload_n 0 rfl rfl dX0_draw_145 ?_
            refine zRx.iconst ⟨by decide, by decide⟩ dX0_draw_146 ?_
            refine zRx.iload 6 rfl dX0_draw_147 ?_
            refine zRx.iload 7 rfl dX0_draw_149 ?_
            refine zRx.iload 8 rfl dX0_draw_151 ?_
            refine zRx.iconst ⟨by decide, by decide⟩ dX0_draw_153 ?_
            refine zRx.iconst ⟨by decide, by decide⟩ dX0_draw_154 ?_
            refine zRx.cVv (M := m_X0_add) (av := [.inl 2, .inl (V_X1_draw (F_X1_draw σ 8) (σ 5 0)), .inl ((V_X1_draw (F_X1_draw σ 8) (σ 5 0)) + 1), .inl (V_X1_draw (F_X1_draw (F_X1_draw (F_X1_draw σ 8) (σ 5 0)) (σ 5 0)) (σ 5 1)), .inl 0, .inl 0]) cv_0_46 mk_X0_add (by decide) (b := 27) rfl rfl (Nat.le_of_ble_eq_true rfl) dX0_draw_155 (does_X0_add_27 (F_X1_draw (F_X1_draw (F_X1_draw (F_X1_draw σ 8) (σ 5 0)) (σ 5 0)) (σ 5 1)) 2 (V_X1_draw (F_X1_draw σ 8) (σ 5 0)) ((V_X1_draw (F_X1_draw σ 8) (σ 5 0)) + 1) (V_X1_draw (F_X1_draw (F_X1_draw (F_X1_draw σ 8) (σ 5 0)) (σ 5 0)) (σ 5 1)) 0 0 (by rw [show (F_X1_draw (F_X1_draw (F_X1_draw (F_X1_draw σ 8) (σ 5 0)) (σ 5 0)) (σ 5 1)) 27 0 = σ 27 0 from ((congrFun (fr_F_X1_draw (F_X1_draw (F_X1_draw (F_X1_draw σ 8) (σ 5 0)) (σ 5 0)) (σ 5 1) (k := 27) (by decide)) _).trans ((congrFun (fr_F_X1_draw (F_X1_draw (F_X1_draw σ 8) (σ 5 0)) (σ 5 0) (k := 27) (by decide)) _).trans ((congrFun (fr_F_X1_draw (F_X1_draw σ 8) (σ 5 0) (k := 27) (by decide)) _).trans (congrFun (fr_F_X1_draw σ 8 (k := 27) (by decide)) _))))]; exact hL)) ?_
            refine zRx.goto (tgt := 195) dX0_draw_158 (by decide) ?_
            refine zRx.iinc (n := 1) (ls' := [(0, zP 27), (1, .inl x), (2, zP 97), (3, zP 5), (4, .inl (q + 1)), (5, .inl (V_X1_draw σ 8)), (6, .inl (V_X1_draw (F_X1_draw σ 8) (σ 5 0))), (7, .inl ((V_X1_draw (F_X1_draw σ 8) (σ 5 0)) + 1)), (8, .inl (V_X1_draw (F_X1_draw (F_X1_draw (F_X1_draw σ 8) (σ 5 0)) (σ 5 0)) (σ 5 1)))]) 4 rfl ⟨by omega, by omega⟩ rfl (by decide) dX0_draw_195 ?_
            refine zRx.goto (tgt := 7) dX0_draw_198 (by decide) ?_
            refine zRx.pick [0, 1, 2, 3, 4] (ls' := [(0, zP 27), (1, .inl x), (2, zP 97), (3, zP 5), (4, .inl (q + 1))]) rfl ?_
            have he : L_X0_draw_7 x (n + 1) q σ = L_X0_draw_7 x n (q + 1) (F_X0_add_27 (F_X1_draw (F_X1_draw (F_X1_draw (F_X1_draw σ 8) (σ 5 0)) (σ 5 0)) (σ 5 1)) 2 (V_X1_draw (F_X1_draw σ 8) (σ 5 0)) ((V_X1_draw (F_X1_draw σ 8) (σ 5 0)) + 1) (V_X1_draw (F_X1_draw (F_X1_draw (F_X1_draw σ 8) (σ 5 0)) (σ 5 0)) (σ 5 1)) 0 0) := by rw [L_X0_draw_7, if_neg (Int.not_le.mpr c10), if_pos c55, if_neg (Int.not_le.mpr c66), if_neg c81_0, if_neg c81_1, if_neg c81_2, if_pos c81_3]
            rw [he]
            exact ih (q + 1) (F_X0_add_27 (F_X1_draw (F_X1_draw (F_X1_draw (F_X1_draw σ 8) (σ 5 0)) (σ 5 0)) (σ 5 1)) 2 (V_X1_draw (F_X1_draw σ 8) (σ 5 0)) ((V_X1_draw (F_X1_draw σ 8) (σ 5 0)) + 1) (V_X1_draw (F_X1_draw (F_X1_draw (F_X1_draw σ 8) (σ 5 0)) (σ 5 0)) (σ 5 1)) 0 0) (by omega) (by rw [add27_len, show (F_X1_draw (F_X1_draw (F_X1_draw (F_X1_draw σ 8) (σ 5 0)) (σ 5 0)) (σ 5 1)) 27 0 = σ 27 0 from ((congrFun (fr_F_X1_draw (F_X1_draw (F_X1_draw (F_X1_draw σ 8) (σ 5 0)) (σ 5 0)) (σ 5 1) (k := 27) (by decide)) _).trans ((congrFun (fr_F_X1_draw (F_X1_draw (F_X1_draw σ 8) (σ 5 0)) (σ 5 0) (k := 27) (by decide)) _).trans ((congrFun (fr_F_X1_draw (F_X1_draw σ 8) (σ 5 0) (k := 27) (by decide)) _).trans (congrFun (fr_F_X1_draw σ 8 (k := 27) (by decide)) _))))]; split <;> omega) (by have e9 : (F_X0_add_27 (F_X1_draw (F_X1_draw (F_X1_draw (F_X1_draw σ 8) (σ 5 0)) (σ 5 0)) (σ 5 1)) 2 (V_X1_draw (F_X1_draw σ 8) (σ 5 0)) ((V_X1_draw (F_X1_draw σ 8) (σ 5 0)) + 1) (V_X1_draw (F_X1_draw (F_X1_draw (F_X1_draw σ 8) (σ 5 0)) (σ 5 0)) (σ 5 1)) 0 0) 5 0 = σ 5 0 := ((congrFun (fr_F_X0_add_27 (F_X1_draw (F_X1_draw (F_X1_draw (F_X1_draw σ 8) (σ 5 0)) (σ 5 0)) (σ 5 1)) 2 (V_X1_draw (F_X1_draw σ 8) (σ 5 0)) ((V_X1_draw (F_X1_draw σ 8) (σ 5 0)) + 1) (V_X1_draw (F_X1_draw (F_X1_draw (F_X1_draw σ 8) (σ 5 0)) (σ 5 0)) (σ 5 1)) 0 0 (k := 5) (by decide)) _).trans ((congrFun (fr_F_X1_draw (F_X1_draw (F_X1_draw (F_X1_draw σ 8) (σ 5 0)) (σ 5 0)) (σ 5 1) (k := 5) (by decide)) _).trans ((congrFun (fr_F_X1_draw (F_X1_draw (F_X1_draw σ 8) (σ 5 0)) (σ 5 0) (k := 5) (by decide)) _).trans ((congrFun (fr_F_X1_draw (F_X1_draw σ 8) (σ 5 0) (k := 5) (by decide)) _).trans (congrFun (fr_F_X1_draw σ 8 (k := 5) (by decide)) _))))); omega) (by have e9 : (F_X0_add_27 (F_X1_draw (F_X1_draw (F_X1_draw (F_X1_draw σ 8) (σ 5 0)) (σ 5 0)) (σ 5 1)) 2 (V_X1_draw (F_X1_draw σ 8) (σ 5 0)) ((V_X1_draw (F_X1_draw σ 8) (σ 5 0)) + 1) (V_X1_draw (F_X1_draw (F_X1_draw (F_X1_draw σ 8) (σ 5 0)) (σ 5 0)) (σ 5 1)) 0 0) 5 1 = σ 5 1 := ((congrFun (fr_F_X0_add_27 (F_X1_draw (F_X1_draw (F_X1_draw (F_X1_draw σ 8) (σ 5 0)) (σ 5 0)) (σ 5 1)) 2 (V_X1_draw (F_X1_draw σ 8) (σ 5 0)) ((V_X1_draw (F_X1_draw σ 8) (σ 5 0)) + 1) (V_X1_draw (F_X1_draw (F_X1_draw (F_X1_draw σ 8) (σ 5 0)) (σ 5 0)) (σ 5 1)) 0 0 (k := 5) (by decide)) _).trans ((congrFun (fr_F_X1_draw (F_X1_draw (F_X1_draw (F_X1_draw σ 8) (σ 5 0)) (σ 5 0)) (σ 5 1) (k := 5) (by decide)) _).trans ((congrFun (fr_F_X1_draw (F_X1_draw (F_X1_draw σ 8) (σ 5 0)) (σ 5 0) (k := 5) (by decide)) _).trans ((congrFun (fr_F_X1_draw (F_X1_draw σ 8) (σ 5 0) (k := 5) (by decide)) _).trans (congrFun (fr_F_X1_draw σ 8 (k := 5) (by decide)) _))))); omega) (by omega)
          by_cases c81_4 : V_X1_draw σ 8 = 4
          · refine zRx.topI (b := 4) c81_4 ?_
            refine zRx.tableIn (tgt := 161) dX0_draw_81 (by decide) (by decide) rfl (by decide) ?_
            refine zRx.aload_n 0 rfl rfl dX0_draw_161 ?_
            refine zRx.iconst ⟨by decide, by decide⟩ dX0_draw_162 ?_
            refine zRx.iload 6 rfl dX0_draw_163 ?_
            refine zRx.iload 7 rfl dX0_draw_165 ?_
            refine zRx.iload 8 rfl dX0_draw_167 ?_
            refine zRx.aload_n 2 rfl rfl dX0_draw_169 ?_
            refine zRx.bipush ⟨by decide, by decide⟩ rfl dX0_draw_170 ?_
            refine zRx.cVi (w := .inl (V_X1_draw (F_X1_draw (F_X1_draw (F_X1_draw (F_X1_draw σ 8) (σ 5 0)) (σ 5 0)) (σ 5 1)) 20)) (M := m_X1_draw) (av := [.inl 20]) cv_0_53 mk_X1_draw (by decide) (b := 97) rfl rfl (Nat.le_of_ble_eq_true rfl) dX0_draw_172 (does_X1_draw (F_X1_draw (F_X1_draw (F_X1_draw (F_X1_draw σ 8) (σ 5 0)) (σ 5 0)) (σ 5 1)) 20) ?_
            refine zRx.iconst ⟨by decide, by decide⟩ dX0_draw_175 ?_
            refine zRx.cVv (M := m_X0_add) (av := [.inl 4, .inl (V_X1_draw (F_X1_draw σ 8) (σ 5 0)), .inl ((V_X1_draw (F_X1_draw σ 8) (σ 5 0)) + 1), .inl (V_X1_draw (F_X1_draw (F_X1_draw (F_X1_draw σ 8) (σ 5 0)) (σ 5 0)) (σ 5 1)), .inl (V_X1_draw (F_X1_draw (F_X1_draw (F_X1_draw (F_X1_draw σ 8) (σ 5 0)) (σ 5 0)) (σ 5 1)) 20), .inl 0]) cv_0_46 mk_X0_add (by decide) (b := 27) rfl rfl (Nat.le_of_ble_eq_true rfl) dX0_draw_176 (does_X0_add_27 (F_X1_draw (F_X1_draw (F_X1_draw (F_X1_draw (F_X1_draw σ 8) (σ 5 0)) (σ 5 0)) (σ 5 1)) 20) 4 (V_X1_draw (F_X1_draw σ 8) (σ 5 0)) ((V_X1_draw (F_X1_draw σ 8) (σ 5 0)) + 1) (V_X1_draw (F_X1_draw (F_X1_draw (F_X1_draw σ 8) (σ 5 0)) (σ 5 0)) (σ 5 1)) (V_X1_draw (F_X1_draw (F_X1_draw (F_X1_draw (F_X1_draw σ 8) (σ 5 0)) (σ 5 0)) (σ 5 1)) 20) 0 (by rw [show (F_X1_draw (F_X1_draw (F_X1_draw (F_X1_draw (F_X1_draw σ 8) (σ 5 0)) (σ 5 0)) (σ 5 1)) 20) 27 0 = σ 27 0 from ((congrFun (fr_F_X1_draw (F_X1_draw (F_X1_draw (F_X1_draw (F_X1_draw σ 8) (σ 5 0)) (σ 5 0)) (σ 5 1)) 20 (k := 27) (by decide)) _).trans ((congrFun (fr_F_X1_draw (F_X1_draw (F_X1_draw (F_X1_draw σ 8) (σ 5 0)) (σ 5 0)) (σ 5 1) (k := 27) (by decide)) _).trans ((congrFun (fr_F_X1_draw (F_X1_draw (F_X1_draw σ 8) (σ 5 0)) (σ 5 0) (k := 27) (by decide)) _).trans ((congrFun (fr_F_X1_draw (F_X1_draw σ 8) (σ 5 0) (k := 27) (by decide)) _).trans (congrFun (fr_F_X1_draw σ 8 (k := 27) (by decide)) _)))))]; exact hL)) ?_
            refine zRx.goto (tgt := 195) dX0_draw_179 (by decide) ?_
            refine zRx.iinc (n := 1) (ls' := [(0, zP 27), (1, .inl x), (2, zP 97), (3, zP 5), (4, .inl (q + 1)), (5, .inl (V_X1_draw σ 8)), (6, .inl (V_X1_draw (F_X1_draw σ 8) (σ 5 0))), (7, .inl ((V_X1_draw (F_X1_draw σ 8) (σ 5 0)) + 1)), (8, .inl (V_X1_draw (F_X1_draw (F_X1_draw (F_X1_draw σ 8) (σ 5 0)) (σ 5 0)) (σ 5 1)))]) 4 rfl ⟨by omega, by omega⟩ rfl (by decide) dX0_draw_195 ?_
            refine zRx.goto (tgt := 7) dX0_draw_198 (by decide) ?_
            refine zRx.pick [0, 1, 2, 3, 4] (ls' := [(0, zP 27), (1, .inl x), (2, zP 97), (3, zP 5), (4, .inl (q + 1))]) rfl ?_
            have he : L_X0_draw_7 x (n + 1) q σ = L_X0_draw_7 x n (q + 1) (F_X0_add_27 (F_X1_draw (F_X1_draw (F_X1_draw (F_X1_draw (F_X1_draw σ 8) (σ 5 0)) (σ 5 0)) (σ 5 1)) 20) 4 (V_X1_draw (F_X1_draw σ 8) (σ 5 0)) ((V_X1_draw (F_X1_draw σ 8) (σ 5 0)) + 1) (V_X1_draw (F_X1_draw (F_X1_draw (F_X1_draw σ 8) (σ 5 0)) (σ 5 0)) (σ 5 1)) (V_X1_draw (F_X1_draw (F_X1_draw (F_X1_draw (F_X1_draw σ 8) (σ 5 0)) (σ 5 0)) (σ 5 1)) 20) 0) := by rw [L_X0_draw_7, if_neg (Int.not_le.mpr c10), if_pos c55, if_neg (Int.not_le.mpr c66), if_neg c81_0, if_neg c81_1, if_neg c81_2, if_neg c81_3, if_pos c81_4]
            rw [he]
            exact ih (q + 1) (F_X0_add_27 (F_X1_draw (F_X1_draw (F_X1_draw (F_X1_draw (F_X1_draw σ 8) (σ 5 0)) (σ 5 0)) (σ 5 1)) 20) 4 (V_X1_draw (F_X1_draw σ 8) (σ 5 0)) ((V_X1_draw (F_X1_draw σ 8) (σ 5 0)) + 1) (V_X1_draw (F_X1_draw (F_X1_draw (F_X1_draw σ 8) (σ 5 0)) (σ 5 0)) (σ 5 1)) (V_X1_draw (F_X1_draw (F_X1_draw (F_X1_draw (F_X1_draw σ 8) (σ 5 0)) (σ 5 0)) (σ 5 1)) 20) 0) (by omega) (by rw [add27_len, show (F_X1_draw (F_X1_draw (F_X1_draw (F_X1_draw (F_X1_draw σ 8) (σ 5 0)) (σ 5 0)) (σ 5 1)) 20) 27 0 = σ 27 0 from ((congrFun (fr_F_X1_draw (F_X1_draw (F_X1_draw (F_X1_draw (F_X1_draw σ 8) (σ 5 0)) (σ 5 0)) (σ 5 1)) 20 (k := 27) (by decide)) _).trans ((congrFun (fr_F_X1_draw (F_X1_draw (F_X1_draw (F_X1_draw σ 8) (σ 5 0)) (σ 5 0)) (σ 5 1) (k := 27) (by decide)) _).trans ((congrFun (fr_F_X1_draw (F_X1_draw (F_X1_draw σ 8) (σ 5 0)) (σ 5 0) (k := 27) (by decide)) _).trans ((congrFun (fr_F_X1_draw (F_X1_draw σ 8) (σ 5 0) (k := 27) (by decide)) _).trans (congrFun (fr_F_X1_draw σ 8 (k := 27) (by decide)) _)))))]; split <;> omega) (by have e9 : (F_X0_add_27 (F_X1_draw (F_X1_draw (F_X1_draw (F_X1_draw (F_X1_draw σ 8) (σ 5 0)) (σ 5 0)) (σ 5 1)) 20) 4 (V_X1_draw (F_X1_draw σ 8) (σ 5 0)) ((V_X1_draw (F_X1_draw σ 8) (σ 5 0)) + 1) (V_X1_draw (F_X1_draw (F_X1_draw (F_X1_draw σ 8) (σ 5 0)) (σ 5 0)) (σ 5 1)) (V_X1_draw (F_X1_draw (F_X1_draw (F_X1_draw (F_X1_draw σ 8) (σ 5 0)) (σ 5 0)) (σ 5 1)) 20) 0) 5 0 = σ 5 0 := ((congrFun (fr_F_X0_add_27 (F_X1_draw (F_X1_draw (F_X1_draw (F_X1_draw (F_X1_draw σ 8) (σ 5 0)) (σ 5 0)) (σ 5 1)) 20) 4 (V_X1_draw (F_X1_draw σ 8) (σ 5 0)) ((V_X1_draw (F_X1_draw σ 8) (σ 5 0)) + 1) (V_X1_draw (F_X1_draw (F_X1_draw (F_X1_draw σ 8) (σ 5 0)) (σ 5 0)) (σ 5 1)) (V_X1_draw (F_X1_draw (F_X1_draw (F_X1_draw (F_X1_draw σ 8) (σ 5 0)) (σ 5 0)) (σ 5 1)) 20) 0 (k := 5) (by decide)) _).trans ((congrFun (fr_F_X1_draw (F_X1_draw (F_X1_draw (F_X1_draw (F_X1_draw σ 8) (σ 5 0)) (σ 5 0)) (σ 5 1)) 20 (k := 5) (by decide)) _).trans ((congrFun (fr_F_X1_draw (F_X1_draw (F_X1_draw (F_X1_draw σ 8) (σ 5 0)) (σ 5 0)) (σ 5 1) (k := 5) (by decide)) _).trans ((congrFun (fr_F_X1_draw (F_X1_draw (F_X1_draw σ 8) (σ 5 0)) (σ 5 0) (k := 5) (by decide)) _).trans ((congrFun (fr_F_X1_draw (F_X1_draw σ 8) (σ 5 0) (k := 5) (by decide)) _).trans (congrFun (fr_F_X1_draw σ 8 (k := 5) (by decide)) _)))))); omega) (by have e9 : (F_X0_add_27 (F_X1_draw (F_X1_draw (F_X1_draw (F_X1_draw (F_X1_draw σ 8) (σ 5 0)) (σ 5 0)) (σ 5 1)) 20) 4 (V_X1_draw (F_X1_draw σ 8) (σ 5 0)) ((V_X1_draw (F_X1_draw σ 8) (σ 5 0)) + 1) (V_X1_draw (F_X1_draw (F_X1_draw (F_X1_draw σ 8) (σ 5 0)) (σ 5 0)) (σ 5 1)) (V_X1_draw (F_X1_draw (F_X1_draw (F_X1_draw (F_X1_draw σ 8) (σ 5 0)) (σ 5 0)) (σ 5 1)) 20) 0) 5 1 = σ 5 1 := ((congrFun (fr_F_X0_add_27 (F_X1_draw (F_X1_draw (F_X1_draw (F_X1_draw (F_X1_draw σ 8) (σ 5 0)) (σ 5 0)) (σ 5 1)) 20) 4 (V_X1_draw (F_X1_draw σ 8) (σ 5 0)) ((V_X1_draw (F_X1_draw σ 8) (σ 5 0)) + 1) (V_X1_draw (F_X1_draw (F_X1_draw (F_X1_draw σ 8) (σ 5 0)) (σ 5 0)) (σ 5 1)) (V_X1_draw (F_X1_draw (F_X1_draw (F_X1_draw (F_X1_draw σ 8) (σ 5 0)) (σ 5 0)) (σ 5 1)) 20) 0 (k := 5) (by decide)) _).trans ((congrFun (fr_F_X1_draw (F_X1_draw (F_X1_draw (F_X1_draw (F_X1_draw σ 8) (σ 5 0)) (σ 5 0)) (σ 5 1)) 20 (k := 5) (by decide)) _).trans ((congrFun (fr_F_X1_draw (F_X1_draw (F_X1_draw (F_X1_draw σ 8) (σ 5 0)) (σ 5 0)) (σ 5 1) (k := 5) (by decide)) _).trans ((congrFun (fr_F_X1_draw (F_X1_draw (F_X1_draw σ 8) (σ 5 0)) (σ 5 0) (k := 5) (by decide)) _).trans ((congrFun (fr_F_X1_draw (F_X1_draw σ 8) (σ 5 0) (k := 5) (by decide)) _).trans (congrFun (fr_F_X1_draw σ 8 (k := 5) (by decide)) _)))))); omega) (by omega)
          refine zRx.tableOut (tgt := 182) dX0_draw_81 (by omega) (by decide) ?_
          refine zRx.aload_n 0 rfl rfl dX0_draw_182 ?_
          refine zRx.iconst ⟨by decide, by decide⟩ dX0_draw_183 ?_
          refine zRx.iload 6 rfl dX0_draw_184 ?_
          refine zRx.iload 7 rfl dX0_draw_186 ?_
          refine zRx.iload 8 rfl dX0_draw_188 ?_
          refine zRx.iconst ⟨by decide, by decide⟩ dX0_draw_190 ?_
          refine zRx.iconst ⟨by decide, by decide⟩ dX0_draw_191 ?_
          refine zRx.cVv (M := m_X0_add) (av := [.inl 3, .inl (V_X1_draw (F_X1_draw σ 8) (σ 5 0)), .inl ((V_X1_draw (F_X1_draw σ 8) (σ 5 0)) + 1), .inl (V_X1_draw (F_X1_draw (F_X1_draw (F_X1_draw σ 8) (σ 5 0)) (σ 5 0)) (σ 5 1)), .inl 0, .inl 0]) cv_0_46 mk_X0_add (by decide) (b := 27) rfl rfl (Nat.le_of_ble_eq_true rfl) dX0_draw_192 (does_X0_add_27 (F_X1_draw (F_X1_draw (F_X1_draw (F_X1_draw σ 8) (σ 5 0)) (σ 5 0)) (σ 5 1)) 3 (V_X1_draw (F_X1_draw σ 8) (σ 5 0)) ((V_X1_draw (F_X1_draw σ 8) (σ 5 0)) + 1) (V_X1_draw (F_X1_draw (F_X1_draw (F_X1_draw σ 8) (σ 5 0)) (σ 5 0)) (σ 5 1)) 0 0 (by rw [show (F_X1_draw (F_X1_draw (F_X1_draw (F_X1_draw σ 8) (σ 5 0)) (σ 5 0)) (σ 5 1)) 27 0 = σ 27 0 from ((congrFun (fr_F_X1_draw (F_X1_draw (F_X1_draw (F_X1_draw σ 8) (σ 5 0)) (σ 5 0)) (σ 5 1) (k := 27) (by decide)) _).trans ((congrFun (fr_F_X1_draw (F_X1_draw (F_X1_draw σ 8) (σ 5 0)) (σ 5 0) (k := 27) (by decide)) _).trans ((congrFun (fr_F_X1_draw (F_X1_draw σ 8) (σ 5 0) (k := 27) (by decide)) _).trans (congrFun (fr_F_X1_draw σ 8 (k := 27) (by decide)) _))))]; exact hL)) ?_
          refine zRx.iinc (n := 1) (ls' := [(0, zP 27), (1, .inl x), (2, zP 97), (3, zP 5), (4, .inl (q + 1)), (5, .inl (V_X1_draw σ 8)), (6, .inl (V_X1_draw (F_X1_draw σ 8) (σ 5 0))), (7, .inl ((V_X1_draw (F_X1_draw σ 8) (σ 5 0)) + 1)), (8, .inl (V_X1_draw (F_X1_draw (F_X1_draw (F_X1_draw σ 8) (σ 5 0)) (σ 5 0)) (σ 5 1)))]) 4 rfl ⟨by omega, by omega⟩ rfl (by decide) dX0_draw_195 ?_
          refine zRx.goto (tgt := 7) dX0_draw_198 (by decide) ?_
          refine zRx.pick [0, 1, 2, 3, 4] (ls' := [(0, zP 27), (1, .inl x), (2, zP 97), (3, zP 5), (4, .inl (q + 1))]) rfl ?_
          have he : L_X0_draw_7 x (n + 1) q σ = L_X0_draw_7 x n (q + 1) (F_X0_add_27 (F_X1_draw (F_X1_draw (F_X1_draw (F_X1_draw σ 8) (σ 5 0)) (σ 5 0)) (σ 5 1)) 3 (V_X1_draw (F_X1_draw σ 8) (σ 5 0)) ((V_X1_draw (F_X1_draw σ 8) (σ 5 0)) + 1) (V_X1_draw (F_X1_draw (F_X1_draw (F_X1_draw σ 8) (σ 5 0)) (σ 5 0)) (σ 5 1)) 0 0) := by rw [L_X0_draw_7, if_neg (Int.not_le.mpr c10), if_pos c55, if_neg (Int.not_le.mpr c66), if_neg c81_0, if_neg c81_1, if_neg c81_2, if_neg c81_3, if_neg c81_4]
          rw [he]
          exact ih (q + 1) (F_X0_add_27 (F_X1_draw (F_X1_draw (F_X1_draw (F_X1_draw σ 8) (σ 5 0)) (σ 5 0)) (σ 5 1)) 3 (V_X1_draw (F_X1_draw σ 8) (σ 5 0)) ((V_X1_draw (F_X1_draw σ 8) (σ 5 0)) + 1) (V_X1_draw (F_X1_draw (F_X1_draw (F_X1_draw σ 8) (σ 5 0)) (σ 5 0)) (σ 5 1)) 0 0) (by omega) (by rw [add27_len, show (F_X1_draw (F_X1_draw (F_X1_draw (F_X1_draw σ 8) (σ 5 0)) (σ 5 0)) (σ 5 1)) 27 0 = σ 27 0 from ((congrFun (fr_F_X1_draw (F_X1_draw (F_X1_draw (F_X1_draw σ 8) (σ 5 0)) (σ 5 0)) (σ 5 1) (k := 27) (by decide)) _).trans ((congrFun (fr_F_X1_draw (F_X1_draw (F_X1_draw σ 8) (σ 5 0)) (σ 5 0) (k := 27) (by decide)) _).trans ((congrFun (fr_F_X1_draw (F_X1_draw σ 8) (σ 5 0) (k := 27) (by decide)) _).trans (congrFun (fr_F_X1_draw σ 8 (k := 27) (by decide)) _))))]; split <;> omega) (by have e9 : (F_X0_add_27 (F_X1_draw (F_X1_draw (F_X1_draw (F_X1_draw σ 8) (σ 5 0)) (σ 5 0)) (σ 5 1)) 3 (V_X1_draw (F_X1_draw σ 8) (σ 5 0)) ((V_X1_draw (F_X1_draw σ 8) (σ 5 0)) + 1) (V_X1_draw (F_X1_draw (F_X1_draw (F_X1_draw σ 8) (σ 5 0)) (σ 5 0)) (σ 5 1)) 0 0) 5 0 = σ 5 0 := ((congrFun (fr_F_X0_add_27 (F_X1_draw (F_X1_draw (F_X1_draw (F_X1_draw σ 8) (σ 5 0)) (σ 5 0)) (σ 5 1)) 3 (V_X1_draw (F_X1_draw σ 8) (σ 5 0)) ((V_X1_draw (F_X1_draw σ 8) (σ 5 0)) + 1) (V_X1_draw (F_X1_draw (F_X1_draw (F_X1_draw σ 8) (σ 5 0)) (σ 5 0)) (σ 5 1)) 0 0 (k := 5) (by decide)) _).trans ((congrFun (fr_F_X1_draw (F_X1_draw (F_X1_draw (F_X1_draw σ 8) (σ 5 0)) (σ 5 0)) (σ 5 1) (k := 5) (by decide)) _).trans ((congrFun (fr_F_X1_draw (F_X1_draw (F_X1_draw σ 8) (σ 5 0)) (σ 5 0) (k := 5) (by decide)) _).trans ((congrFun (fr_F_X1_draw (F_X1_draw σ 8) (σ 5 0) (k := 5) (by decide)) _).trans (congrFun (fr_F_X1_draw σ 8 (k := 5) (by decide)) _))))); omega) (by have e9 : (F_X0_add_27 (F_X1_draw (F_X1_draw (F_X1_draw (F_X1_draw σ 8) (σ 5 0)) (σ 5 0)) (σ 5 1)) 3 (V_X1_draw (F_X1_draw σ 8) (σ 5 0)) ((V_X1_draw (F_X1_draw σ 8) (σ 5 0)) + 1) (V_X1_draw (F_X1_draw (F_X1_draw (F_X1_draw σ 8) (σ 5 0)) (σ 5 0)) (σ 5 1)) 0 0) 5 1 = σ 5 1 := ((congrFun (fr_F_X0_add_27 (F_X1_draw (F_X1_draw (F_X1_draw (F_X1_draw σ 8) (σ 5 0)) (σ 5 0)) (σ 5 1)) 3 (V_X1_draw (F_X1_draw σ 8) (σ 5 0)) ((V_X1_draw (F_X1_draw σ 8) (σ 5 0)) + 1) (V_X1_draw (F_X1_draw (F_X1_draw (F_X1_draw σ 8) (σ 5 0)) (σ 5 0)) (σ 5 1)) 0 0 (k := 5) (by decide)) _).trans ((congrFun (fr_F_X1_draw (F_X1_draw (F_X1_draw (F_X1_draw σ 8) (σ 5 0)) (σ 5 0)) (σ 5 1) (k := 5) (by decide)) _).trans ((congrFun (fr_F_X1_draw (F_X1_draw (F_X1_draw σ 8) (σ 5 0)) (σ 5 0) (k := 5) (by decide)) _).trans ((congrFun (fr_F_X1_draw (F_X1_draw σ 8) (σ 5 0) (k := 5) (by decide)) _).trans (congrFun (fr_F_X1_draw σ 8 (k := 5) (by decide)) _))))); omega) (by omega)
def R_X0_draw (σ : zG) (x : Int) : zG := L_X0_draw_7 x 70 0 (F_X0_clear_27 σ)
theorem fr_R_X0_draw (σ : zG) (x : Int) {k : Nat} (h : k ∉ [27, 28, 29, 30, 31, 32, 33, 34, 97]) : (R_X0_draw σ x) k = σ k := by
  have ne : ∀ c ∈ [27, 28, 29, 30, 31, 32, 33, 34, 97], k ≠ c := fun c hc e => h (e ▸ hc)
  have nk_F_X0_clear_27 : k ∉ [27] := fun hm => h (by first | (revert hm; simp only [List.mem_cons, List.not_mem_nil, or_false]; omega) | (simp at hm))
  have nl_L_X0_draw_7 : k ∉ [27, 28, 29, 30, 31, 32, 33, 34, 97] := fun hm => h (by first | (revert hm; simp only [List.mem_cons, List.not_mem_nil, or_false]; omega) | (simp at hm))
  unfold R_X0_draw
  repeat' split
  all_goals first | rfl | simp only [zu_row _ _ _ (ne 27 (by decide)), zu_row _ _ _ (ne 28 (by decide)), zu_row _ _ _ (ne 29 (by decide)), zu_row _ _ _ (ne 30 (by decide)), zu_row _ _ _ (ne 31 (by decide)), zu_row _ _ _ (ne 32 (by decide)), zu_row _ _ _ (ne 33 (by decide)), zu_row _ _ _ (ne 34 (by decide)), zu_row _ _ _ (ne 97 (by decide)), fr_F_X0_clear_27 (h := nk_F_X0_clear_27), fr_L_X0_draw_7 (h := nl_L_X0_draw_7)]

set_option maxRecDepth 20000 in
theorem does_X0_draw (σ : zG) (x : Int) (hx : x ≤ 60) (hp : 0 < σ 5 0 ∧ σ 5 0 ≤ 8) (hF : 0 < σ 5 1 ∧ σ 5 1 ≤ 12)  : zDo SC 2 m_X0_draw [zP 27, .inl x, zP 97, zP 5] σ (zEq none (R_X0_draw σ x)) := by
  refine zDo.intro mk_X0_draw (Nat.le_of_ble_eq_true rfl) ?_
  refine zRx.aload_n 0 rfl rfl dX0_draw_0 ?_
  refine zRx.cVv (M := m_X0_clear) (av := []) cv_0_50 mk_X0_clear (by decide) (b := 27) rfl rfl (Nat.le_of_ble_eq_true rfl) dX0_draw_1 (does_X0_clear_27 σ) ?_
  refine zRx.iconst ⟨by decide, by decide⟩ dX0_draw_4 ?_
  refine zRx.istore (ls' := [(0, zP 27), (1, .inl x), (2, zP 97), (3, zP 5), (4, .inl 0)]) rfl (by decide) dX0_draw_5 ?_
  have he : R_X0_draw σ x = L_X0_draw_7 x 70 0 (F_X0_clear_27 σ) := by rw [R_X0_draw]
  rw [he]
  exact loop_X0_draw_7 x hx  70 0 (F_X0_clear_27 σ) (by omega) (by unfold F_X0_clear_27; rw [zu_off _ _ _ (by decide), zu_at]; decide) (by have e9 : (F_X0_clear_27 σ) 5 0 = σ 5 0 := (congrFun (fr_F_X0_clear_27 σ (k := 5) (by decide)) _); omega) (by have e9 : (F_X0_clear_27 σ) 5 1 = σ 5 1 := (congrFun (fr_F_X0_clear_27 σ (k := 5) (by decide)) _); omega) (by omega)

