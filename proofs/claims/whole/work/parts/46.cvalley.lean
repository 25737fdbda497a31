/-! the class: its reader by steps, the lines of a valley -/
theorem Tk_n (b : Int → Int) (len stop p : Int) : p ≤ (Tk b len stop p).2.2.2 := by
  have h1 := skb_r b stop 1000 p
  have h2 := tkR_mono b len 1000 0 0 0 0 (skb b stop 1000 p)
  unfold Tk
  split
  · exact h1.1
  · split
    · show p ≤ (tkR b len 1000 0 0 0 0 (skb b stop 1000 p)).2.2.2.2
      omega
    · show p ≤ skb b stop 1000 p + 1
      omega
def CI (σ : zG) : Prop := 0 ≤ σ 3 3 ∧ σ 3 2 ≤ 940 ∧ σ 3 2 ≤ σ 1 1 ∧ σ 1 1 ≤ 940
def CV (σ : zG) : Prop := (0 ≤ σ 16 0 ∧ σ 16 0 ≤ 8) ∧ (0 ≤ σ 16 1 ∧ σ 16 1 ≤ 12) ∧ (0 ≤ σ 16 2 ∧ σ 16 2 ≤ 8)
def F_X5_step (σ : zG) : zG := zRd σ (Tk (σ 2) (σ 1 1) (σ 3 2) (σ 3 3)).2.2.2 (Tk (σ 2) (σ 1 1) (σ 3 2) (σ 3 3)).1 (Tk (σ 2) (σ 1 1) (σ 3 2) (σ 3 3)).2.1 (Tk (σ 2) (σ 1 1) (σ 3 2) (σ 3 3)).2.2.1 (σ 3 7)
theorem does_step2 (σ : zG) (h : CI σ) : zDo SC 1 m_X5_step [zP 3] σ (zEq none (F_X5_step σ)) := does_X5_step σ h.1 h.2.1 h.2.2.1 h.2.2.2
theorem fr_F_X5_step (σ : zG) {k : Nat} (h : k ∉ [3]) : F_X5_step σ k = σ k := by
  have h3 : k ≠ 3 := by simpa using h
  funext i
  unfold F_X5_step zRd
  rw [if_neg h3]
theorem kp_step (σ : zG) (i : Int) (h : i ≠ 3 ∧ i ≠ 4 ∧ i ≠ 5 ∧ i ≠ 6) : F_X5_step σ 3 i = σ 3 i := by
  unfold F_X5_step zRd
  rw [if_pos rfl, if_neg h.1, if_neg h.2.1, if_neg h.2.2.1, if_neg h.2.2.2]
  split
  · next e => rw [e]
  · rfl
theorem CI_F_X5_step {σ : zG} (h : CI σ) : CI (F_X5_step σ) := by
  have h1 := Tk_n (σ 2) (σ 1 1) (σ 3 2) (σ 3 3)
  unfold CI at *
  rw [fr_F_X5_step σ (k := 1) (by decide), kp_step σ 2 (by decide)]
  refine ⟨?_, h.2⟩
  show 0 ≤ F_X5_step σ 3 3
  have e : F_X5_step σ 3 3 = (Tk (σ 2) (σ 1 1) (σ 3 2) (σ 3 3)).2.2.2 := by
    unfold F_X5_step zRd
    rw [if_pos rfl, if_pos rfl]
  rw [e]
  omega
theorem CI_zu {σ : zG} {a : Nat} {i z : Int} (h : ¬ (a = 3 ∧ (i = 2 ∨ i = 3)) ∧ ¬ (a = 1 ∧ i = 1)) (hI : CI σ) : CI (zu σ a i z) := by
  have e : ∀ (b : Nat) (j : Int), (b = 3 ∧ (j = 2 ∨ j = 3)) ∨ (b = 1 ∧ j = 1) → zu σ a i z b j = σ b j := by
    intro b j hb
    by_cases ha : b = a
    · subst ha
      exact zu_off _ _ _ (by omega)
    · exact zu_ne _ _ _ _ ha
  unfold CI at *
  rw [e 3 3 (by decide), e 3 2 (by decide), e 1 1 (by decide)]
  exact hI
theorem CI_row {σ τ : zG} (e3 : τ 3 = σ 3) (e1 : τ 1 = σ 1) (h : CI σ) : CI τ := by
  unfold CI at *
  rw [e3, e1]
  exact h
theorem CV_row {σ τ : zG} (e : τ 16 = σ 16) (h : CV σ) : CV τ := by
  unfold CV at *
  rw [e]
  exact h
theorem CV_zu {σ : zG} {a : Nat} {i z : Int} (h : a ≠ 16 ∨ (i ≠ 0 ∧ i ≠ 1 ∧ i ≠ 2)) (hI : CV σ) : CV (zu σ a i z) := by
  by_cases ha : a = 16
  · subst ha
    unfold CV at *
    rw [zu_off _ _ _ (by omega), zu_off _ _ _ (by omega), zu_off _ _ _ (by omega)]
    exact hI
  · exact CV_row (zu_row _ _ _ (by omega)) hI
theorem CV_zu0 {σ : zG} {z : Int} (h : 0 ≤ z ∧ z ≤ 8) (hI : CV σ) : CV (zu σ 16 0 z) := by
  unfold CV at *
  rw [zu_at, zu_off _ _ _ (by decide), zu_off _ _ _ (by decide)]
  exact ⟨h, hI.2⟩
theorem CV_zu1 {σ : zG} {z : Int} (h : 0 ≤ z ∧ z ≤ 12) (hI : CV σ) : CV (zu σ 16 1 z) := by
  unfold CV at *
  rw [zu_at, zu_off _ _ _ (by decide), zu_off _ _ _ (by decide)]
  exact ⟨hI.1, h, hI.2.2⟩
theorem CV_zu2 {σ : zG} {z : Int} (h : 0 ≤ z ∧ z ≤ 8) (hI : CV σ) : CV (zu σ 16 2 z) := by
  unfold CV at *
  rw [zu_at, zu_off _ _ _ (by decide), zu_off _ _ _ (by decide)]
  exact ⟨hI.1, hI.2.1, h⟩
theorem CV_F_X5_step {σ : zG} (h : CV σ) : CV (F_X5_step σ) := CV_row (fr_F_X5_step σ (by decide)) h
theorem refuse_eq (σ : zG) (why : Int) : zDo SC 0 m_X5_refuse [zP 3, .inl why] σ (zEq (some (.inl 0)) (zu σ 3 7 why)) := does_X5_refuse σ why
theorem keyword_r (σ : zG) : -1 ≤ V_X5_keyword σ ∧ V_X5_keyword σ < 26 := by
  unfold V_X5_keyword R_X11_placeOf_4
  split
  · have := plc_r (f := σ 4) (code := σ 3 6) (many := 26) (len := 26) 30 0 (by decide)
    omega
  · decide

theorem isSignC (σ : zG) (c v w : Int) (e : σ 3 4 = v) (e2 : σ 3 6 = w) : zDo SC 0 m_X5_isSign [zP 3, .inl c] σ (zEq (some (.inl (b2 (v = 4 ∧ w = c)))) σ) := by
  subst e
  subst e2
  exact does_X5_isSign σ c

def isN (σ : zG) : Prop := σ 3 4 = 2 ∧ R_X11_placeOf_4 σ (σ 3 6) 26 = -1
theorem isN_dec (σ : zG) : isN σ ↔ (σ 3 4 = 2 ∧ R_X11_placeOf_4 σ (σ 3 6) 26 = -1) := Iff.rfl
def V_X5_isName (σ : zG) : Int := b2 (σ 3 4 = 2 ∧ R_X11_placeOf_4 σ (σ 3 6) 26 = -1)
theorem does_isNameC (σ : zG) : zDo SC 1 m_X5_isName [zP 3] σ (zEq (some (.inl (V_X5_isName σ))) σ) := does_X5_isName σ

def V_X5_stepSign (σ : zG) (c : Int) : Int := if (F_X5_step σ) 3 4 = 4 ∧ (F_X5_step σ) 3 6 = c then 1 else 0
def F_X5_stepSign (σ : zG) (c : Int) : zG := if (F_X5_step σ) 3 4 = 4 ∧ (F_X5_step σ) 3 6 = c then (F_X5_step σ) else (zu (F_X5_step σ) 3 7 1)
theorem fr_F_X5_stepSign (σ : zG) (c : Int) {k : Nat} (h : k ∉ [3]) : (F_X5_stepSign σ c) k = σ k := by
  have ne : ∀ c ∈ [3], k ≠ c := fun c hc e => h (e ▸ hc)
  have nk_F_X5_step : k ∉ [3] := fun hm => h (by first | (revert hm; simp only [List.mem_cons, List.not_mem_nil, or_false]; omega) | (simp at hm))
  unfold F_X5_stepSign
  repeat' split
  all_goals first | rfl | simp only [zu_row _ _ _ (ne 3 (by decide)), fr_F_X5_step (h := nk_F_X5_step)]

set_option maxRecDepth 20000 in
theorem does_X5_stepSign (σ : zG) (c : Int) (hI : CI σ) : zDo SC 2 m_X5_stepSign [zP 3, .inl c] σ (zEq (some (.inl (V_X5_stepSign σ c))) (F_X5_stepSign σ c)) := by
  refine zDo.intro mk_X5_stepSign (Nat.le_of_ble_eq_true rfl) ?_
  refine zRx.aload_n 0 rfl rfl dX5_stepSign_0 ?_
  refine zRx.cVv (M := m_X5_step) (av := []) cv_5_71 mk_X5_step (by decide) (b := 3) rfl rfl (Nat.le_of_ble_eq_true rfl) dX5_stepSign_1 (does_step2 σ hI) ?_
  refine zRx.aload_n 0 rfl rfl dX5_stepSign_4 ?_
  refine zRx.iload_n 1 rfl rfl dX5_stepSign_5 ?_
  refine zRx.cVi (w := .inl (b2 ((F_X5_step σ) 3 4 = 4 ∧ (F_X5_step σ) 3 6 = c))) (M := m_X5_isSign) (av := [.inl c]) cv_5_74 mk_X5_isSign (by decide) (b := 3) rfl rfl (Nat.le_of_ble_eq_true rfl) dX5_stepSign_6 (isSignC (F_X5_step σ) c ((F_X5_step σ) 3 4) ((F_X5_step σ) 3 6) rfl rfl) ?_
  refine zRx.if_neB (tgt := 20) dX5_stepSign_9 (by decide) (fun c9 => ?_) (fun c9 => ?_)
  · refine zRx.iconst ⟨by decide, by decide⟩ dX5_stepSign_20 ?_
    refine zRx.goto (tgt := 25) dX5_stepSign_21 (by decide) ?_
    exact zR.zret rfl ⟨by decide, by decide⟩ dX5_stepSign_25 ⟨by unfold V_X5_stepSign; rw [if_pos c9], by unfold F_X5_stepSign; rw [if_pos c9]⟩
  · refine zRx.aload_n 0 rfl rfl dX5_stepSign_12 ?_
    refine zRx.iconst ⟨by decide, by decide⟩ dX5_stepSign_13 ?_
    refine zRx.cVi (w := .inl 0) (M := m_X5_refuse) (av := [.inl 1]) cv_5_78 mk_X5_refuse (by decide) (b := 3) rfl rfl (Nat.le_of_ble_eq_true rfl) dX5_stepSign_14 (refuse_eq (F_X5_step σ) 1) ?_
    refine zRx.if_eq (tgt := 24) dX5_stepSign_17 (by decide) (fun _ => ?_) (fun c17 => absurd c17 (by decide))
    refine zRx.iconst ⟨by decide, by decide⟩ dX5_stepSign_24 ?_
    exact zR.zret rfl ⟨by decide, by decide⟩ dX5_stepSign_25 ⟨by unfold V_X5_stepSign; rw [if_neg c9], by unfold F_X5_stepSign; rw [if_neg c9]⟩

def V_X5_stepNumber (σ : zG) (lo hi : Int) : Int := if ((F_X5_step σ) 3 4) = 3 then (if ((F_X5_step σ) 3 6) < lo then (-1) else (if ((F_X5_step σ) 3 6) ≤ hi then ((F_X5_step σ) 3 6) else (-1))) else (-1)
def F_X5_stepNumber (σ : zG) (lo hi : Int) : zG := if ((F_X5_step σ) 3 4) = 3 then (if ((F_X5_step σ) 3 6) < lo then (zu (F_X5_step σ) 3 7 2) else (if ((F_X5_step σ) 3 6) ≤ hi then (F_X5_step σ) else (zu (F_X5_step σ) 3 7 2))) else (zu (F_X5_step σ) 3 7 1)
theorem fr_F_X5_stepNumber (σ : zG) (lo hi : Int) {k : Nat} (h : k ∉ [3]) : (F_X5_stepNumber σ lo hi) k = σ k := by
  have ne : ∀ c ∈ [3], k ≠ c := fun c hc e => h (e ▸ hc)
  have nk_F_X5_step : k ∉ [3] := fun hm => h (by first | (revert hm; simp only [List.mem_cons, List.not_mem_nil, or_false]; omega) | (simp at hm))
  unfold F_X5_stepNumber
  repeat' split
  all_goals first | rfl | simp only [zu_row _ _ _ (ne 3 (by decide)), fr_F_X5_step (h := nk_F_X5_step)]

set_option maxRecDepth 20000 in
theorem does_X5_stepNumber (σ : zG) (lo hi : Int) (hI : CI σ) : zDo SC 2 m_X5_stepNumber [zP 3, .inl lo, .inl hi] σ (zEq (some (.inl (V_X5_stepNumber σ lo hi))) (F_X5_stepNumber σ lo hi)) := by
  refine zDo.intro mk_X5_stepNumber (Nat.le_of_ble_eq_true rfl) ?_
  refine zRx.aload_n 0 rfl rfl dX5_stepNumber_0 ?_
  refine zRx.cVv (M := m_X5_step) (av := []) cv_5_71 mk_X5_step (by decide) (b := 3) rfl rfl (Nat.le_of_ble_eq_true rfl) dX5_stepNumber_1 (does_step2 σ hI) ?_
  refine zRx.aload_n 0 rfl rfl dX5_stepNumber_4 ?_
  refine zRx.getIv (a := 3) (ji := 4) (v := (F_X5_step σ) 3 4) rfl fl_5_51 rfl rfl rfl dX5_stepNumber_5 ?_
  refine zRx.iconst ⟨by decide, by decide⟩ dX5_stepNumber_8 ?_
  refine zRx.icmp_eq (tgt := 20) dX5_stepNumber_9 (by decide) (fun c9 => ?_) (fun c9 => ?_)
  · refine zRx.aload_n 0 rfl rfl dX5_stepNumber_20 ?_
    refine zRx.getIv (a := 3) (ji := 6) (v := (F_X5_step σ) 3 6) rfl fl_5_54 rfl rfl rfl dX5_stepNumber_21 ?_
    refine zRx.iload_n 1 rfl rfl dX5_stepNumber_24 ?_
    refine zRx.icmp_lt (tgt := 36) dX5_stepNumber_25 (by decide) (fun c25 => ?_) (fun c25 => ?_)
    · refine zRx.aload_n 0 rfl rfl dX5_stepNumber_36 ?_
      refine zRx.iconst ⟨by decide, by decide⟩ dX5_stepNumber_37 ?_
      refine zRx.cVi (w := .inl 0) (M := m_X5_refuse) (av := [.inl 2]) cv_5_78 mk_X5_refuse (by decide) (b := 3) rfl rfl (Nat.le_of_ble_eq_true rfl) dX5_stepNumber_38 (refuse_eq (F_X5_step σ) 2) ?_
      refine zRx.pop rfl dX5_stepNumber_41 ?_
      refine zRx.iconst ⟨by decide, by decide⟩ dX5_stepNumber_42 ?_
      exact zR.iret rfl dX5_stepNumber_43 ⟨by unfold V_X5_stepNumber; rw [if_pos c9, if_pos c25], by unfold F_X5_stepNumber; rw [if_pos c9, if_pos c25]⟩
    · refine zRx.aload_n 0 rfl rfl dX5_stepNumber_28 ?_
      refine zRx.getIv (a := 3) (ji := 6) (v := (F_X5_step σ) 3 6) rfl fl_5_54 rfl rfl rfl dX5_stepNumber_29 ?_
      refine zRx.iload_n 2 rfl rfl dX5_stepNumber_32 ?_
      refine zRx.icmp_le (tgt := 44) dX5_stepNumber_33 (by decide) (fun c33 => ?_) (fun c33 => ?_)
      · refine zRx.aload_n 0 rfl rfl dX5_stepNumber_44 ?_
        refine zRx.getIv (a := 3) (ji := 6) (v := (F_X5_step σ) 3 6) rfl fl_5_54 rfl rfl rfl dX5_stepNumber_45 ?_
        exact zR.iret rfl dX5_stepNumber_48 ⟨by unfold V_X5_stepNumber; rw [if_pos c9, if_neg (Int.not_lt.mpr c25), if_pos c33], by unfold F_X5_stepNumber; rw [if_pos c9, if_neg (Int.not_lt.mpr c25), if_pos c33]⟩
      · refine zRx.aload_n 0 rfl rfl dX5_stepNumber_36 ?_
        refine zRx.iconst ⟨by decide, by decide⟩ dX5_stepNumber_37 ?_
        refine zRx.cVi (w := .inl 0) (M := m_X5_refuse) (av := [.inl 2]) cv_5_78 mk_X5_refuse (by decide) (b := 3) rfl rfl (Nat.le_of_ble_eq_true rfl) dX5_stepNumber_38 (refuse_eq (F_X5_step σ) 2) ?_
        refine zRx.pop rfl dX5_stepNumber_41 ?_
        refine zRx.iconst ⟨by decide, by decide⟩ dX5_stepNumber_42 ?_
        exact zR.iret rfl dX5_stepNumber_43 ⟨by unfold V_X5_stepNumber; rw [if_pos c9, if_neg (Int.not_lt.mpr c25), if_neg (Int.not_le.mpr c33)], by unfold F_X5_stepNumber; rw [if_pos c9, if_neg (Int.not_lt.mpr c25), if_neg (Int.not_le.mpr c33)]⟩
  · refine zRx.aload_n 0 rfl rfl dX5_stepNumber_12 ?_
    refine zRx.iconst ⟨by decide, by decide⟩ dX5_stepNumber_13 ?_
    refine zRx.cVi (w := .inl 0) (M := m_X5_refuse) (av := [.inl 1]) cv_5_78 mk_X5_refuse (by decide) (b := 3) rfl rfl (Nat.le_of_ble_eq_true rfl) dX5_stepNumber_14 (refuse_eq (F_X5_step σ) 1) ?_
    refine zRx.pop rfl dX5_stepNumber_17 ?_
    refine zRx.iconst ⟨by decide, by decide⟩ dX5_stepNumber_18 ?_
    exact zR.iret rfl dX5_stepNumber_19 ⟨by unfold V_X5_stepNumber; rw [if_neg c9], by unfold F_X5_stepNumber; rw [if_neg c9]⟩

def V_X5_stepName_17 (σ : zG) (mn : Int) : Int := if (V_X5_isName (F_X5_step σ)) = 0 then (-1) else (R_X11_placeOf_17 (F_X5_step σ) ((F_X5_step σ) 3 6) mn)
def F_X5_stepName_17 (σ : zG) (mn : Int) : zG := if (V_X5_isName (F_X5_step σ)) = 0 then (zu (F_X5_step σ) 3 7 1) else (if (R_X11_placeOf_17 (F_X5_step σ) ((F_X5_step σ) 3 6) mn) = (-1) then (zu (F_X5_step σ) 3 7 3) else (F_X5_step σ))
theorem fr_F_X5_stepName_17 (σ : zG) (mn : Int) {k : Nat} (h : k ∉ [3]) : (F_X5_stepName_17 σ mn) k = σ k := by
  have ne : ∀ c ∈ [3], k ≠ c := fun c hc e => h (e ▸ hc)
  have nk_F_X5_step : k ∉ [3] := fun hm => h (by first | (revert hm; simp only [List.mem_cons, List.not_mem_nil, or_false]; omega) | (simp at hm))
  unfold F_X5_stepName_17
  repeat' split
  all_goals first | rfl | simp only [zu_row _ _ _ (ne 3 (by decide)), fr_F_X5_step (h := nk_F_X5_step)]

set_option maxRecDepth 20000 in
theorem does_X5_stepName_17 (σ : zG) (mn : Int) (hI : CI σ) : zDo SC 2 m_X5_stepName [zP 3, zP 17, .inl mn] σ (zEq (some (.inl (V_X5_stepName_17 σ mn))) (F_X5_stepName_17 σ mn)) := by
  refine zDo.intro mk_X5_stepName (Nat.le_of_ble_eq_true rfl) ?_
  refine zRx.aload_n 0 rfl rfl dX5_stepName_0 ?_
  refine zRx.cVv (M := m_X5_step) (av := []) cv_5_71 mk_X5_step (by decide) (b := 3) rfl rfl (Nat.le_of_ble_eq_true rfl) dX5_stepName_1 (does_step2 σ hI) ?_
  refine zRx.aload_n 0 rfl rfl dX5_stepName_4 ?_
  refine zRx.cVi (w := .inl (V_X5_isName (F_X5_step σ))) (M := m_X5_isName) (av := []) cv_5_82 mk_X5_isName (by decide) (b := 3) rfl rfl (Nat.le_of_ble_eq_true rfl) dX5_stepName_5 (does_isNameC (F_X5_step σ)) ?_
  refine zRx.if_ne (tgt := 19) dX5_stepName_8 (by decide) (fun c8 => ?_) (fun c8 => ?_)
  · refine zRx.aload_n 0 rfl rfl dX5_stepName_19 ?_
    refine zRx.getIv (a := 3) (ji := 6) (v := (F_X5_step σ) 3 6) rfl fl_5_54 rfl rfl rfl dX5_stepName_20 ?_
    refine zRx.aload_n 1 rfl rfl dX5_stepName_23 ?_
    refine zRx.iload_n 2 rfl rfl dX5_stepName_24 ?_
    refine zRx.cSi (w := .inl (R_X11_placeOf_17 (F_X5_step σ) ((F_X5_step σ) 3 6) mn)) (M := m_X11_placeOf) (av := [.inl ((F_X5_step σ) 3 6), zP 17, .inl mn]) cs_5_67 mk_X11_placeOf (by decide) rfl (Nat.le_of_ble_eq_true rfl) dX5_stepName_25 (does_X11_placeOf_17 (F_X5_step σ) ((F_X5_step σ) 3 6) mn) ?_
    refine zRx.istore_n (ls' := [(0, zP 3), (1, zP 17), (2, .inl mn), (3, .inl (R_X11_placeOf_17 (F_X5_step σ) ((F_X5_step σ) 3 6) mn))]) rfl rfl (by decide) dX5_stepName_28 ?_
    refine zRx.iload_n 3 rfl rfl dX5_stepName_29 ?_
    refine zRx.iconst ⟨by decide, by decide⟩ dX5_stepName_30 ?_
    refine zRx.icmp_ne (tgt := 40) dX5_stepName_31 (by decide) (fun c31 => ?_) (fun c31 => ?_)
    · refine zRx.iload_n 3 rfl rfl dX5_stepName_40 ?_
      exact zR.iret rfl dX5_stepName_41 ⟨by unfold V_X5_stepName_17; rw [if_neg c8], by unfold F_X5_stepName_17; rw [if_neg c8, if_neg c31]⟩
    · refine zRx.aload_n 0 rfl rfl dX5_stepName_34 ?_
      refine zRx.iconst ⟨by decide, by decide⟩ dX5_stepName_35 ?_
      refine zRx.cVi (w := .inl 0) (M := m_X5_refuse) (av := [.inl 3]) cv_5_78 mk_X5_refuse (by decide) (b := 3) rfl rfl (Nat.le_of_ble_eq_true rfl) dX5_stepName_36 (refuse_eq (F_X5_step σ) 3) ?_
      refine zRx.pop rfl dX5_stepName_39 ?_
      refine zRx.iload_n 3 rfl rfl dX5_stepName_40 ?_
      exact zR.iret rfl dX5_stepName_41 ⟨by unfold V_X5_stepName_17; rw [if_neg c8], by unfold F_X5_stepName_17; rw [if_neg c8, if_pos c31]⟩
  · refine zRx.aload_n 0 rfl rfl dX5_stepName_11 ?_
    refine zRx.iconst ⟨by decide, by decide⟩ dX5_stepName_12 ?_
    refine zRx.cVi (w := .inl 0) (M := m_X5_refuse) (av := [.inl 1]) cv_5_78 mk_X5_refuse (by decide) (b := 3) rfl rfl (Nat.le_of_ble_eq_true rfl) dX5_stepName_13 (refuse_eq (F_X5_step σ) 1) ?_
    refine zRx.pop rfl dX5_stepName_16 ?_
    refine zRx.iconst ⟨by decide, by decide⟩ dX5_stepName_17 ?_
    exact zR.iret rfl dX5_stepName_18 ⟨by unfold V_X5_stepName_17; rw [if_pos c8], by unfold F_X5_stepName_17; rw [if_pos c8]⟩

theorem sn_r_17 (σ : zG) (mn : Int) : -1 ≤ V_X5_stepName_17 σ mn ∧ V_X5_stepName_17 σ mn < 8 := by
  have h := fun (τ : zG) (x : Int) => plc_r (f := τ 17) (code := x) (many := mn) (len := 8) 30 0 (by decide)
  have h2 := h (F_X5_step σ) ((F_X5_step σ) 3 6)
  unfold V_X5_stepName_17 R_X11_placeOf_17
  repeat' split
  all_goals omega

def V_X5_stepName_19 (σ : zG) (mn : Int) : Int := if (V_X5_isName (F_X5_step σ)) = 0 then (-1) else (R_X11_placeOf_19 (F_X5_step σ) ((F_X5_step σ) 3 6) mn)
def F_X5_stepName_19 (σ : zG) (mn : Int) : zG := if (V_X5_isName (F_X5_step σ)) = 0 then (zu (F_X5_step σ) 3 7 1) else (if (R_X11_placeOf_19 (F_X5_step σ) ((F_X5_step σ) 3 6) mn) = (-1) then (zu (F_X5_step σ) 3 7 3) else (F_X5_step σ))
theorem fr_F_X5_stepName_19 (σ : zG) (mn : Int) {k : Nat} (h : k ∉ [3]) : (F_X5_stepName_19 σ mn) k = σ k := by
  have ne : ∀ c ∈ [3], k ≠ c := fun c hc e => h (e ▸ hc)
  have nk_F_X5_step : k ∉ [3] := fun hm => h (by first | (revert hm; simp only [List.mem_cons, List.not_mem_nil, or_false]; omega) | (simp at hm))
  unfold F_X5_stepName_19
  repeat' split
  all_goals first | rfl | simp only [zu_row _ _ _ (ne 3 (by decide)), fr_F_X5_step (h := nk_F_X5_step)]

set_option maxRecDepth 20000 in
theorem does_X5_stepName_19 (σ : zG) (mn : Int) (hI : CI σ) : zDo SC 2 m_X5_stepName [zP 3, zP 19, .inl mn] σ (zEq (some (.inl (V_X5_stepName_19 σ mn))) (F_X5_stepName_19 σ mn)) := by
  refine zDo.intro mk_X5_stepName (Nat.le_of_ble_eq_true rfl) ?_
  refine zRx.aload_n 0 rfl rfl dX5_stepName_0 ?_
  refine zRx.cVv (M := m_X5_step) (av := []) cv_5_71 mk_X5_step (by decide) (b := 3) rfl rfl (Nat.le_of_ble_eq_true rfl) dX5_stepName_1 (does_step2 σ hI) ?_
  refine zRx.aload_n 0 rfl rfl dX5_stepName_4 ?_
  refine zRx.cVi (w := .inl (V_X5_isName (F_X5_step σ))) (M := m_X5_isName) (av := []) cv_5_82 mk_X5_isName (by decide) (b := 3) rfl rfl (Nat.le_of_ble_eq_true rfl) dX5_stepName_5 (does_isNameC (F_X5_step σ)) ?_
  refine zRx.if_ne (tgt := 19) dX5_stepName_8 (by decide) (fun c8 => ?_) (fun c8 => ?_)
  · refine zRx.aload_n 0 rfl rfl dX5_stepName_19 ?_
    refine zRx.getIv (a := 3) (ji := 6) (v := (F_X5_step σ) 3 6) rfl fl_5_54 rfl rfl rfl dX5_stepName_20 ?_
    refine zRx.aload_n 1 rfl rfl dX5_stepName_23 ?_
    refine zRx.iload_n 2 rfl rfl dX5_stepName_24 ?_
    refine zRx.cSi (w := .inl (R_X11_placeOf_19 (F_X5_step σ) ((F_X5_step σ) 3 6) mn)) (M := m_X11_placeOf) (av := [.inl ((F_X5_step σ) 3 6), zP 19, .inl mn]) cs_5_67 mk_X11_placeOf (by decide) rfl (Nat.le_of_ble_eq_true rfl) dX5_stepName_25 (does_X11_placeOf_19 (F_X5_step σ) ((F_X5_step σ) 3 6) mn) ?_
    refine zRx.istore_n (ls' := [(0, zP 3), (1, zP 19), (2, .inl mn), (3, .inl (R_X11_placeOf_19 (F_X5_step σ) ((F_X5_step σ) 3 6) mn))]) rfl rfl (by decide) dX5_stepName_28 ?_
    refine zRx.iload_n 3 rfl rfl dX5_stepName_29 ?_
    refine zRx.iconst ⟨by decide, by decide⟩ dX5_stepName_30 ?_
    refine zRx.icmp_ne (tgt := 40) dX5_stepName_31 (by decide) (fun c31 => ?_) (fun c31 => ?_)
    · refine zRx.iload_n 3 rfl rfl dX5_stepName_40 ?_
      exact zR.iret rfl dX5_stepName_41 ⟨by unfold V_X5_stepName_19; rw [if_neg c8], by unfold F_X5_stepName_19; rw [if_neg c8, if_neg c31]⟩
    · refine zRx.aload_n 0 rfl rfl dX5_stepName_34 ?_
      refine zRx.iconst ⟨by decide, by decide⟩ dX5_stepName_35 ?_
      refine zRx.cVi (w := .inl 0) (M := m_X5_refuse) (av := [.inl 3]) cv_5_78 mk_X5_refuse (by decide) (b := 3) rfl rfl (Nat.le_of_ble_eq_true rfl) dX5_stepName_36 (refuse_eq (F_X5_step σ) 3) ?_
      refine zRx.pop rfl dX5_stepName_39 ?_
      refine zRx.iload_n 3 rfl rfl dX5_stepName_40 ?_
      exact zR.iret rfl dX5_stepName_41 ⟨by unfold V_X5_stepName_19; rw [if_neg c8], by unfold F_X5_stepName_19; rw [if_neg c8, if_pos c31]⟩
  · refine zRx.aload_n 0 rfl rfl dX5_stepName_11 ?_
    refine zRx.iconst ⟨by decide, by decide⟩ dX5_stepName_12 ?_
    refine zRx.cVi (w := .inl 0) (M := m_X5_refuse) (av := [.inl 1]) cv_5_78 mk_X5_refuse (by decide) (b := 3) rfl rfl (Nat.le_of_ble_eq_true rfl) dX5_stepName_13 (refuse_eq (F_X5_step σ) 1) ?_
    refine zRx.pop rfl dX5_stepName_16 ?_
    refine zRx.iconst ⟨by decide, by decide⟩ dX5_stepName_17 ?_
    exact zR.iret rfl dX5_stepName_18 ⟨by unfold V_X5_stepName_19; rw [if_pos c8], by unfold F_X5_stepName_19; rw [if_pos c8]⟩

theorem sn_r_19 (σ : zG) (mn : Int) : -1 ≤ V_X5_stepName_19 σ mn ∧ V_X5_stepName_19 σ mn < 12 := by
  have h := fun (τ : zG) (x : Int) => plc_r (f := τ 19) (code := x) (many := mn) (len := 12) 30 0 (by decide)
  have h2 := h (F_X5_step σ) ((F_X5_step σ) 3 6)
  unfold V_X5_stepName_19 R_X11_placeOf_19
  repeat' split
  all_goals omega

def V_X5_stepName_6 (σ : zG) (mn : Int) : Int := if (V_X5_isName (F_X5_step σ)) = 0 then (-1) else (R_X11_placeOf_6 (F_X5_step σ) ((F_X5_step σ) 3 6) mn)
def F_X5_stepName_6 (σ : zG) (mn : Int) : zG := if (V_X5_isName (F_X5_step σ)) = 0 then (zu (F_X5_step σ) 3 7 1) else (if (R_X11_placeOf_6 (F_X5_step σ) ((F_X5_step σ) 3 6) mn) = (-1) then (zu (F_X5_step σ) 3 7 3) else (F_X5_step σ))
theorem fr_F_X5_stepName_6 (σ : zG) (mn : Int) {k : Nat} (h : k ∉ [3]) : (F_X5_stepName_6 σ mn) k = σ k := by
  have ne : ∀ c ∈ [3], k ≠ c := fun c hc e => h (e ▸ hc)
  have nk_F_X5_step : k ∉ [3] := fun hm => h (by first | (revert hm; simp only [List.mem_cons, List.not_mem_nil, or_false]; omega) | (simp at hm))
  unfold F_X5_stepName_6
  repeat' split
  all_goals first | rfl | simp only [zu_row _ _ _ (ne 3 (by decide)), fr_F_X5_step (h := nk_F_X5_step)]

set_option maxRecDepth 20000 in
theorem does_X5_stepName_6 (σ : zG) (mn : Int) (hI : CI σ) : zDo SC 2 m_X5_stepName [zP 3, zP 6, .inl mn] σ (zEq (some (.inl (V_X5_stepName_6 σ mn))) (F_X5_stepName_6 σ mn)) := by
  refine zDo.intro mk_X5_stepName (Nat.le_of_ble_eq_true rfl) ?_
  refine zRx.aload_n 0 rfl rfl dX5_stepName_0 ?_
  refine zRx.cVv (M := m_X5_step) (av := []) cv_5_71 mk_X5_step (by decide) (b := 3) rfl rfl (Nat.le_of_ble_eq_true rfl) dX5_stepName_1 (does_step2 σ hI) ?_
  refine zRx.aload_n 0 rfl rfl dX5_stepName_4 ?_
  refine zRx.cVi (w := .inl (V_X5_isName (F_X5_step σ))) (M := m_X5_isName) (av := []) cv_5_82 mk_X5_isName (by decide) (b := 3) rfl rfl (Nat.le_of_ble_eq_true rfl) dX5_stepName_5 (does_isNameC (F_X5_step σ)) ?_
  refine zRx.if_ne (tgt := 19) dX5_stepName_8 (by decide) (fun c8 => ?_) (fun c8 => ?_)
  · refine zRx.aload_n 0 rfl rfl dX5_stepName_19 ?_
    refine zRx.getIv (a := 3) (ji := 6) (v := (F_X5_step σ) 3 6) rfl fl_5_54 rfl rfl rfl dX5_stepName_20 ?_
    refine zRx.aload_n 1 rfl rfl dX5_stepName_23 ?_
    refine zRx.iload_n 2 rfl rfl dX5_stepName_24 ?_
    refine zRx.cSi (w := .inl (R_X11_placeOf_6 (F_X5_step σ) ((F_X5_step σ) 3 6) mn)) (M := m_X11_placeOf) (av := [.inl ((F_X5_step σ) 3 6), zP 6, .inl mn]) cs_5_67 mk_X11_placeOf (by decide) rfl (Nat.le_of_ble_eq_true rfl) dX5_stepName_25 (does_X11_placeOf_6 (F_X5_step σ) ((F_X5_step σ) 3 6) mn) ?_
    refine zRx.istore_n (ls' := [(0, zP 3), (1, zP 6), (2, .inl mn), (3, .inl (R_X11_placeOf_6 (F_X5_step σ) ((F_X5_step σ) 3 6) mn))]) rfl rfl (by decide) dX5_stepName_28 ?_
    refine zRx.iload_n 3 rfl rfl dX5_stepName_29 ?_
    refine zRx.iconst ⟨by decide, by decide⟩ dX5_stepName_30 ?_
    refine zRx.icmp_ne (tgt := 40) dX5_stepName_31 (by decide) (fun c31 => ?_) (fun c31 => ?_)
    · refine zRx.iload_n 3 rfl rfl dX5_stepName_40 ?_
      exact zR.iret rfl dX5_stepName_41 ⟨by unfold V_X5_stepName_6; rw [if_neg c8], by unfold F_X5_stepName_6; rw [if_neg c8, if_neg c31]⟩
    · refine zRx.aload_n 0 rfl rfl dX5_stepName_34 ?_
      refine zRx.iconst ⟨by decide, by decide⟩ dX5_stepName_35 ?_
      refine zRx.cVi (w := .inl 0) (M := m_X5_refuse) (av := [.inl 3]) cv_5_78 mk_X5_refuse (by decide) (b := 3) rfl rfl (Nat.le_of_ble_eq_true rfl) dX5_stepName_36 (refuse_eq (F_X5_step σ) 3) ?_
      refine zRx.pop rfl dX5_stepName_39 ?_
      refine zRx.iload_n 3 rfl rfl dX5_stepName_40 ?_
      exact zR.iret rfl dX5_stepName_41 ⟨by unfold V_X5_stepName_6; rw [if_neg c8], by unfold F_X5_stepName_6; rw [if_neg c8, if_pos c31]⟩
  · refine zRx.aload_n 0 rfl rfl dX5_stepName_11 ?_
    refine zRx.iconst ⟨by decide, by decide⟩ dX5_stepName_12 ?_
    refine zRx.cVi (w := .inl 0) (M := m_X5_refuse) (av := [.inl 1]) cv_5_78 mk_X5_refuse (by decide) (b := 3) rfl rfl (Nat.le_of_ble_eq_true rfl) dX5_stepName_13 (refuse_eq (F_X5_step σ) 1) ?_
    refine zRx.pop rfl dX5_stepName_16 ?_
    refine zRx.iconst ⟨by decide, by decide⟩ dX5_stepName_17 ?_
    exact zR.iret rfl dX5_stepName_18 ⟨by unfold V_X5_stepName_6; rw [if_pos c8], by unfold F_X5_stepName_6; rw [if_pos c8]⟩

theorem sn_r_6 (σ : zG) (mn : Int) : -1 ≤ V_X5_stepName_6 σ mn ∧ V_X5_stepName_6 σ mn < 8 := by
  have h := fun (τ : zG) (x : Int) => plc_r (f := τ 6) (code := x) (many := mn) (len := 8) 30 0 (by decide)
  have h2 := h (F_X5_step σ) ((F_X5_step σ) 3 6)
  unfold V_X5_stepName_6 R_X11_placeOf_6
  repeat' split
  all_goals omega

def V_X5_stepName_8 (σ : zG) (mn : Int) : Int := if (V_X5_isName (F_X5_step σ)) = 0 then (-1) else (R_X11_placeOf_8 (F_X5_step σ) ((F_X5_step σ) 3 6) mn)
def F_X5_stepName_8 (σ : zG) (mn : Int) : zG := if (V_X5_isName (F_X5_step σ)) = 0 then (zu (F_X5_step σ) 3 7 1) else (if (R_X11_placeOf_8 (F_X5_step σ) ((F_X5_step σ) 3 6) mn) = (-1) then (zu (F_X5_step σ) 3 7 3) else (F_X5_step σ))
theorem fr_F_X5_stepName_8 (σ : zG) (mn : Int) {k : Nat} (h : k ∉ [3]) : (F_X5_stepName_8 σ mn) k = σ k := by
  have ne : ∀ c ∈ [3], k ≠ c := fun c hc e => h (e ▸ hc)
  have nk_F_X5_step : k ∉ [3] := fun hm => h (by first | (revert hm; simp only [List.mem_cons, List.not_mem_nil, or_false]; omega) | (simp at hm))
  unfold F_X5_stepName_8
  repeat' split
  all_goals first | rfl | simp only [zu_row _ _ _ (ne 3 (by decide)), fr_F_X5_step (h := nk_F_X5_step)]

set_option maxRecDepth 20000 in
theorem does_X5_stepName_8 (σ : zG) (mn : Int) (hI : CI σ) : zDo SC 2 m_X5_stepName [zP 3, zP 8, .inl mn] σ (zEq (some (.inl (V_X5_stepName_8 σ mn))) (F_X5_stepName_8 σ mn)) := by
  refine zDo.intro mk_X5_stepName (Nat.le_of_ble_eq_true rfl) ?_
  refine zRx.aload_n 0 rfl rfl dX5_stepName_0 ?_
  refine zRx.cVv (M := m_X5_step) (av := []) cv_5_71 mk_X5_step (by decide) (b := 3) rfl rfl (Nat.le_of_ble_eq_true rfl) dX5_stepName_1 (does_step2 σ hI) ?_
  refine zRx.aload_n 0 rfl rfl dX5_stepName_4 ?_
  refine zRx.cVi (w := .inl (V_X5_isName (F_X5_step σ))) (M := m_X5_isName) (av := []) cv_5_82 mk_X5_isName (by decide) (b := 3) rfl rfl (Nat.le_of_ble_eq_true rfl) dX5_stepName_5 (does_isNameC (F_X5_step σ)) ?_
  refine zRx.if_ne (tgt := 19) dX5_stepName_8 (by decide) (fun c8 => ?_) (fun c8 => ?_)
  · refine zRx.aload_n 0 rfl rfl dX5_stepName_19 ?_
    refine zRx.getIv (a := 3) (ji := 6) (v := (F_X5_step σ) 3 6) rfl fl_5_54 rfl rfl rfl dX5_stepName_20 ?_
    refine zRx.aload_n 1 rfl rfl dX5_stepName_23 ?_
    refine zRx.iload_n 2 rfl rfl dX5_stepName_24 ?_
    refine zRx.cSi (w := .inl (R_X11_placeOf_8 (F_X5_step σ) ((F_X5_step σ) 3 6) mn)) (M := m_X11_placeOf) (av := [.inl ((F_X5_step σ) 3 6), zP 8, .inl mn]) cs_5_67 mk_X11_placeOf (by decide) rfl (Nat.le_of_ble_eq_true rfl) dX5_stepName_25 (does_X11_placeOf_8 (F_X5_step σ) ((F_X5_step σ) 3 6) mn) ?_
    refine zRx.istore_n (ls' := [(0, zP 3), (1, zP 8), (2, .inl mn), (3, .inl (R_X11_placeOf_8 (F_X5_step σ) ((F_X5_step σ) 3 6) mn))]) rfl rfl (by decide) dX5_stepName_28 ?_
    refine zRx.iload_n 3 rfl rfl dX5_stepName_29 ?_
    refine zRx.iconst ⟨by decide, by decide⟩ dX5_stepName_30 ?_
    refine zRx.icmp_ne (tgt := 40) dX5_stepName_31 (by decide) (fun c31 => ?_) (fun c31 => ?_)
    · refine zRx.iload_n 3 rfl rfl dX5_stepName_40 ?_
      exact zR.iret rfl dX5_stepName_41 ⟨by unfold V_X5_stepName_8; rw [if_neg c8], by unfold F_X5_stepName_8; rw [if_neg c8, if_neg c31]⟩
    · refine zRx.aload_n 0 rfl rfl dX5_stepName_34 ?_
      refine zRx.iconst ⟨by decide, by decide⟩ dX5_stepName_35 ?_
      refine zRx.cVi (w := .inl 0) (M := m_X5_refuse) (av := [.inl 3]) cv_5_78 mk_X5_refuse (by decide) (b := 3) rfl rfl (Nat.le_of_ble_eq_true rfl) dX5_stepName_36 (refuse_eq (F_X5_step σ) 3) ?_
      refine zRx.pop rfl dX5_stepName_39 ?_
      refine zRx.iload_n 3 rfl rfl dX5_stepName_40 ?_
      exact zR.iret rfl dX5_stepName_41 ⟨by unfold V_X5_stepName_8; rw [if_neg c8], by unfold F_X5_stepName_8; rw [if_neg c8, if_pos c31]⟩
  · refine zRx.aload_n 0 rfl rfl dX5_stepName_11 ?_
    refine zRx.iconst ⟨by decide, by decide⟩ dX5_stepName_12 ?_
    refine zRx.cVi (w := .inl 0) (M := m_X5_refuse) (av := [.inl 1]) cv_5_78 mk_X5_refuse (by decide) (b := 3) rfl rfl (Nat.le_of_ble_eq_true rfl) dX5_stepName_13 (refuse_eq (F_X5_step σ) 1) ?_
    refine zRx.pop rfl dX5_stepName_16 ?_
    refine zRx.iconst ⟨by decide, by decide⟩ dX5_stepName_17 ?_
    exact zR.iret rfl dX5_stepName_18 ⟨by unfold V_X5_stepName_8; rw [if_pos c8], by unfold F_X5_stepName_8; rw [if_pos c8]⟩

theorem sn_r_8 (σ : zG) (mn : Int) : -1 ≤ V_X5_stepName_8 σ mn ∧ V_X5_stepName_8 σ mn < 12 := by
  have h := fun (τ : zG) (x : Int) => plc_r (f := τ 8) (code := x) (many := mn) (len := 12) 30 0 (by decide)
  have h2 := h (F_X5_step σ) ((F_X5_step σ) 3 6)
  unfold V_X5_stepName_8 R_X11_placeOf_8
  repeat' split
  all_goals omega

theorem CI_F_X5_stepSign {σ : zG} {c : Int} (hI : CI σ) : CI ((F_X5_stepSign σ c)) := by
  unfold F_X5_stepSign
  repeat' split
  all_goals first | exact (CI_F_X5_step hI) | exact (CI_zu (by decide) (CI_F_X5_step hI))

theorem CV_F_X5_stepSign {σ : zG} {c : Int} (h : CV σ) : CV (F_X5_stepSign σ c) := CV_row (fr_F_X5_stepSign σ c (by decide)) h

theorem CI_F_X5_stepNumber {σ : zG} {lo hi : Int} (hI : CI σ) : CI ((F_X5_stepNumber σ lo hi)) := by
  unfold F_X5_stepNumber
  repeat' split
  all_goals first | exact (CI_zu (by decide) (CI_F_X5_step hI)) | exact (CI_F_X5_step hI)

theorem CV_F_X5_stepNumber {σ : zG} {lo hi : Int} (h : CV σ) : CV (F_X5_stepNumber σ lo hi) := CV_row (fr_F_X5_stepNumber σ lo hi (by decide)) h

theorem CI_F_X5_stepName_17 {σ : zG} {mn : Int} (hI : CI σ) : CI ((F_X5_stepName_17 σ mn)) := by
  unfold F_X5_stepName_17
  repeat' split
  all_goals first | exact (CI_zu (by decide) (CI_F_X5_step hI)) | exact (CI_F_X5_step hI)

theorem CV_F_X5_stepName_17 {σ : zG} {mn : Int} (h : CV σ) : CV (F_X5_stepName_17 σ mn) := CV_row (fr_F_X5_stepName_17 σ mn (by decide)) h

theorem CI_F_X5_stepName_19 {σ : zG} {mn : Int} (hI : CI σ) : CI ((F_X5_stepName_19 σ mn)) := by
  unfold F_X5_stepName_19
  repeat' split
  all_goals first | exact (CI_zu (by decide) (CI_F_X5_step hI)) | exact (CI_F_X5_step hI)

theorem CV_F_X5_stepName_19 {σ : zG} {mn : Int} (h : CV σ) : CV (F_X5_stepName_19 σ mn) := CV_row (fr_F_X5_stepName_19 σ mn (by decide)) h

theorem CI_F_X5_stepName_6 {σ : zG} {mn : Int} (hI : CI σ) : CI ((F_X5_stepName_6 σ mn)) := by
  unfold F_X5_stepName_6
  repeat' split
  all_goals first | exact (CI_zu (by decide) (CI_F_X5_step hI)) | exact (CI_F_X5_step hI)

theorem CV_F_X5_stepName_6 {σ : zG} {mn : Int} (h : CV σ) : CV (F_X5_stepName_6 σ mn) := CV_row (fr_F_X5_stepName_6 σ mn (by decide)) h

theorem CI_F_X5_stepName_8 {σ : zG} {mn : Int} (hI : CI σ) : CI ((F_X5_stepName_8 σ mn)) := by
  unfold F_X5_stepName_8
  repeat' split
  all_goals first | exact (CI_zu (by decide) (CI_F_X5_step hI)) | exact (CI_F_X5_step hI)

theorem CV_F_X5_stepName_8 {σ : zG} {mn : Int} (h : CV σ) : CV (F_X5_stepName_8 σ mn) := CV_row (fr_F_X5_stepName_8 σ mn (by decide)) h

def V_X9_takeNewName (σ : zG)  : Int := if (V_X5_isName (F_X5_step σ)) = 0 then 0 else (if (R_X11_placeOf_17 (F_X5_step σ) ((F_X5_step σ) 3 6) (σ 16 0)) = (-1) then (if (R_X11_placeOf_19 (F_X5_step σ) ((F_X5_step σ) 3 6) (σ 16 1)) = (-1) then 1 else 0) else 0)
def F_X9_takeNewName (σ : zG)  : zG := if (V_X5_isName (F_X5_step σ)) = 0 then (zu (F_X5_step σ) 3 7 1) else (if (R_X11_placeOf_17 (F_X5_step σ) ((F_X5_step σ) 3 6) (σ 16 0)) = (-1) then (if (R_X11_placeOf_19 (F_X5_step σ) ((F_X5_step σ) 3 6) (σ 16 1)) = (-1) then (F_X5_step σ) else (zu (F_X5_step σ) 3 7 3)) else (zu (F_X5_step σ) 3 7 3))
theorem fr_F_X9_takeNewName (σ : zG)  {k : Nat} (h : k ∉ [3]) : (F_X9_takeNewName σ ) k = σ k := by
  have ne : ∀ c ∈ [3], k ≠ c := fun c hc e => h (e ▸ hc)
  have nk_F_X5_step : k ∉ [3] := fun hm => h (by first | (revert hm; simp only [List.mem_cons, List.not_mem_nil, or_false]; omega) | (simp at hm))
  unfold F_X9_takeNewName
  repeat' split
  all_goals first | rfl | simp only [zu_row _ _ _ (ne 3 (by decide)), fr_F_X5_step (h := nk_F_X5_step)]

set_option maxRecDepth 20000 in
theorem does_X9_takeNewName (σ : zG)  (hI : CI σ) : zDo SC 2 m_X9_takeNewName [zP 16, zP 3] σ (zEq (some (.inl (V_X9_takeNewName σ ))) (F_X9_takeNewName σ )) := by
  refine zDo.intro mk_X9_takeNewName (Nat.le_of_ble_eq_true rfl) ?_
  refine zRx.aload_n 1 rfl rfl dX9_takeNewName_0 ?_
  refine zRx.cVv (M := m_X5_step) (av := []) cv_9_73 mk_X5_step (by decide) (b := 3) rfl rfl (Nat.le_of_ble_eq_true rfl) dX9_takeNewName_1 (does_step2 σ hI) ?_
  refine zRx.aload_n 1 rfl rfl dX9_takeNewName_4 ?_
  refine zRx.cVi (w := .inl (V_X5_isName (F_X5_step σ))) (M := m_X5_isName) (av := []) cv_9_116 mk_X5_isName (by decide) (b := 3) rfl rfl (Nat.le_of_ble_eq_true rfl) dX9_takeNewName_5 (does_isNameC (F_X5_step σ)) ?_
  refine zRx.if_ne (tgt := 17) dX9_takeNewName_8 (by decide) (fun c8 => ?_) (fun c8 => ?_)
  · refine zRx.aload_n 1 rfl rfl dX9_takeNewName_17 ?_
    refine zRx.getIv (a := 3) (ji := 6) (v := (F_X5_step σ) 3 6) rfl fl_9_120 rfl rfl rfl dX9_takeNewName_18 ?_
    refine zRx.aload_n 0 rfl rfl dX9_takeNewName_21 ?_
    refine zRx.getR (a := 16) (b := 17) fl_9_9 rfl rfl dX9_takeNewName_22 ?_
    refine zRx.aload_n 0 rfl rfl dX9_takeNewName_25 ?_
    refine zRx.getIv (a := 16) (ji := 0) (v := σ 16 0) (congrFun (fr_F_X5_step σ (k := 16) (by decide)) _) fl_9_57 rfl rfl rfl dX9_takeNewName_26 ?_
    refine zRx.cSi (w := .inl (R_X11_placeOf_17 (F_X5_step σ) ((F_X5_step σ) 3 6) (σ 16 0))) (M := m_X11_placeOf) (av := [.inl ((F_X5_step σ) 3 6), zP 17, .inl (σ 16 0)]) cs_9_123 mk_X11_placeOf (by decide) rfl (Nat.le_of_ble_eq_true rfl) dX9_takeNewName_29 (does_X11_placeOf_17 (F_X5_step σ) ((F_X5_step σ) 3 6) (σ 16 0)) ?_
    refine zRx.iconst ⟨by decide, by decide⟩ dX9_takeNewName_32 ?_
    refine zRx.icmp_eq (tgt := 40) dX9_takeNewName_33 (by decide) (fun c33 => ?_) (fun c33 => ?_)
    · refine zRx.iconst ⟨by decide, by decide⟩ dX9_takeNewName_40 ?_
      refine zRx.istore_n (ls' := [(0, zP 16), (1, zP 3), (2, .inl 0)]) rfl rfl (by decide) dX9_takeNewName_41 ?_
      refine zRx.aload_n 1 rfl rfl dX9_takeNewName_42 ?_
      refine zRx.getIv (a := 3) (ji := 6) (v := (F_X5_step σ) 3 6) rfl fl_9_120 rfl rfl rfl dX9_takeNewName_43 ?_
      refine zRx.aload_n 0 rfl rfl dX9_takeNewName_46 ?_
      refine zRx.getR (a := 16) (b := 19) fl_9_18 rfl rfl dX9_takeNewName_47 ?_
      refine zRx.aload_n 0 rfl rfl dX9_takeNewName_50 ?_
      refine zRx.getIv (a := 16) (ji := 1) (v := σ 16 1) (congrFun (fr_F_X5_step σ (k := 16) (by decide)) _) fl_9_61 rfl rfl rfl dX9_takeNewName_51 ?_
      refine zRx.cSi (w := .inl (R_X11_placeOf_19 (F_X5_step σ) ((F_X5_step σ) 3 6) (σ 16 1))) (M := m_X11_placeOf) (av := [.inl ((F_X5_step σ) 3 6), zP 19, .inl (σ 16 1)]) cs_9_123 mk_X11_placeOf (by decide) rfl (Nat.le_of_ble_eq_true rfl) dX9_takeNewName_54 (does_X11_placeOf_19 (F_X5_step σ) ((F_X5_step σ) 3 6) (σ 16 1)) ?_
      refine zRx.iconst ⟨by decide, by decide⟩ dX9_takeNewName_57 ?_
      refine zRx.icmp_eq (tgt := 65) dX9_takeNewName_58 (by decide) (fun c58 => ?_) (fun c58 => ?_)
      · refine zRx.iconst ⟨by decide, by decide⟩ dX9_takeNewName_65 ?_
        refine zRx.istore_n (ls' := [(0, zP 16), (1, zP 3), (2, .inl 0), (3, .inl 0)]) rfl rfl (by decide) dX9_takeNewName_66 ?_
        refine zRx.iload_n 2 rfl rfl dX9_takeNewName_67 ?_
        refine zRx.if_ne (tgt := 75) dX9_takeNewName_68 (by decide) (fun c68 => absurd c68 (by decide)) (fun _ => ?_)
        refine zRx.iload_n 3 rfl rfl dX9_takeNewName_71 ?_
        refine zRx.if_eq (tgt := 83) dX9_takeNewName_72 (by decide) (fun _ => ?_) (fun c72 => absurd c72 (by decide))
        refine zRx.iconst ⟨by decide, by decide⟩ dX9_takeNewName_83 ?_
        refine zRx.goto (tgt := 88) dX9_takeNewName_84 (by decide) ?_
        exact zR.zret rfl ⟨by decide, by decide⟩ dX9_takeNewName_88 ⟨by unfold V_X9_takeNewName; rw [if_neg c8, if_pos c33, if_pos c58], by unfold F_X9_takeNewName; rw [if_neg c8, if_pos c33, if_pos c58]⟩
      · refine zRx.iconst ⟨by decide, by decide⟩ dX9_takeNewName_61 ?_
        refine zRx.goto (tgt := 66) dX9_takeNewName_62 (by decide) ?_
        refine zRx.istore_n (ls' := [(0, zP 16), (1, zP 3), (2, .inl 0), (3, .inl 1)]) rfl rfl (by decide) dX9_takeNewName_66 ?_
        refine zRx.iload_n 2 rfl rfl dX9_takeNewName_67 ?_
        refine zRx.if_ne (tgt := 75) dX9_takeNewName_68 (by decide) (fun c68 => absurd c68 (by decide)) (fun _ => ?_)
        refine zRx.iload_n 3 rfl rfl dX9_takeNewName_71 ?_
        refine zRx.if_eq (tgt := 83) dX9_takeNewName_72 (by decide) (fun c72 => absurd c72 (by decide)) (fun _ => ?_)
        refine zRx.aload_n 1 rfl rfl dX9_takeNewName_75 ?_
        refine zRx.iconst ⟨by decide, by decide⟩ dX9_takeNewName_76 ?_
        refine zRx.cVi (w := .inl 0) (M := m_X5_refuse) (av := [.inl 3]) cv_9_108 mk_X5_refuse (by decide) (b := 3) rfl rfl (Nat.le_of_ble_eq_true rfl) dX9_takeNewName_77 (refuse_eq (F_X5_step σ) 3) ?_
        refine zRx.if_eq (tgt := 87) dX9_takeNewName_80 (by decide) (fun _ => ?_) (fun c80 => absurd c80 (by decide))
        refine zRx.iconst ⟨by decide, by decide⟩ dX9_takeNewName_87 ?_
        exact zR.zret rfl ⟨by decide, by decide⟩ dX9_takeNewName_88 ⟨by unfold V_X9_takeNewName; rw [if_neg c8, if_pos c33, if_neg c58], by unfold F_X9_takeNewName; rw [if_neg c8, if_pos c33, if_neg c58]⟩
    · refine zRx.iconst ⟨by decide, by decide⟩ dX9_takeNewName_36 ?_
      refine zRx.goto (tgt := 41) dX9_takeNewName_37 (by decide) ?_
      refine zRx.istore_n (ls' := [(0, zP 16), (1, zP 3), (2, .inl 1)]) rfl rfl (by decide) dX9_takeNewName_41 ?_
      refine zRx.aload_n 1 rfl rfl dX9_takeNewName_42 ?_
      refine zRx.getIv (a := 3) (ji := 6) (v := (F_X5_step σ) 3 6) rfl fl_9_120 rfl rfl rfl dX9_takeNewName_43 ?_
      refine zRx.aload_n 0 rfl rfl dX9_takeNewName_46 ?_
      refine zRx.getR (a := 16) (b := 19) fl_9_18 rfl rfl dX9_takeNewName_47 ?_
      refine zRx.aload_n 0 rfl rfl dX9_takeNewName_50 ?_
      refine zRx.getIv (a := 16) (ji := 1) (v := σ 16 1) (congrFun (fr_F_X5_step σ (k := 16) (by decide)) _) fl_9_61 rfl rfl rfl dX9_takeNewName_51 ?_
      refine zRx.cSi (w := .inl (R_X11_placeOf_19 (F_X5_step σ) ((F_X5_step σ) 3 6) (σ 16 1))) (M := m_X11_placeOf) (av := [.inl ((F_X5_step σ) 3 6), zP 19, .inl (σ 16 1)]) cs_9_123 mk_X11_placeOf (by decide) rfl (Nat.le_of_ble_eq_true rfl) dX9_takeNewName_54 (does_X11_placeOf_19 (F_X5_step σ) ((F_X5_step σ) 3 6) (σ 16 1)) ?_
      refine zRx.iconst ⟨by decide, by decide⟩ dX9_takeNewName_57 ?_
      refine zRx.icmp_eq (tgt := 65) dX9_takeNewName_58 (by decide) (fun c58 => ?_) (fun c58 => ?_)
      · refine zRx.iconst ⟨by decide, by decide⟩ dX9_takeNewName_65 ?_
        refine zRx.istore_n (ls' := [(0, zP 16), (1, zP 3), (2, .inl 1), (3, .inl 0)]) rfl rfl (by decide) dX9_takeNewName_66 ?_
        refine zRx.iload_n 2 rfl rfl dX9_takeNewName_67 ?_
        refine zRx.if_ne (tgt := 75) dX9_takeNewName_68 (by decide) (fun _ => ?_) (fun c68 => absurd c68 (by decide))
        refine zRx.aload_n 1 rfl rfl dX9_takeNewName_75 ?_
        refine zRx.iconst ⟨by decide, by decide⟩ dX9_takeNewName_76 ?_
        refine zRx.cVi (w := .inl 0) (M := m_X5_refuse) (av := [.inl 3]) cv_9_108 mk_X5_refuse (by decide) (b := 3) rfl rfl (Nat.le_of_ble_eq_true rfl) dX9_takeNewName_77 (refuse_eq (F_X5_step σ) 3) ?_
        refine zRx.if_eq (tgt := 87) dX9_takeNewName_80 (by decide) (fun _ => ?_) (fun c80 => absurd c80 (by decide))
        refine zRx.iconst ⟨by decide, by decide⟩ dX9_takeNewName_87 ?_
        exact zR.zret rfl ⟨by decide, by decide⟩ dX9_takeNewName_88 ⟨by unfold V_X9_takeNewName; rw [if_neg c8, if_neg c33], by unfold F_X9_takeNewName; rw [if_neg c8, if_neg c33]⟩
      · refine zRx.iconst ⟨by decide, by decide⟩ dX9_takeNewName_61 ?_
        refine zRx.goto (tgt := 66) dX9_takeNewName_62 (by decide) ?_
        refine zRx.istore_n (ls' := [(0, zP 16), (1, zP 3), (2, .inl 1), (3, .inl 1)]) rfl rfl (by decide) dX9_takeNewName_66 ?_
        refine zRx.iload_n 2 rfl rfl dX9_takeNewName_67 ?_
        refine zRx.if_ne (tgt := 75) dX9_takeNewName_68 (by decide) (fun _ => ?_) (fun c68 => absurd c68 (by decide))
        refine zRx.aload_n 1 rfl rfl dX9_takeNewName_75 ?_
        refine zRx.iconst ⟨by decide, by decide⟩ dX9_takeNewName_76 ?_
        refine zRx.cVi (w := .inl 0) (M := m_X5_refuse) (av := [.inl 3]) cv_9_108 mk_X5_refuse (by decide) (b := 3) rfl rfl (Nat.le_of_ble_eq_true rfl) dX9_takeNewName_77 (refuse_eq (F_X5_step σ) 3) ?_
        refine zRx.if_eq (tgt := 87) dX9_takeNewName_80 (by decide) (fun _ => ?_) (fun c80 => absurd c80 (by decide))
        refine zRx.iconst ⟨by decide, by decide⟩ dX9_takeNewName_87 ?_
        exact zR.zret rfl ⟨by decide, by decide⟩ dX9_takeNewName_88 ⟨by unfold V_X9_takeNewName; rw [if_neg c8, if_neg c33], by unfold F_X9_takeNewName; rw [if_neg c8, if_neg c33]⟩
  · refine zRx.aload_n 1 rfl rfl dX9_takeNewName_11 ?_
    refine zRx.iconst ⟨by decide, by decide⟩ dX9_takeNewName_12 ?_
    refine zRx.cVi (w := .inl 0) (M := m_X5_refuse) (av := [.inl 1]) cv_9_108 mk_X5_refuse (by decide) (b := 3) rfl rfl (Nat.le_of_ble_eq_true rfl) dX9_takeNewName_13 (refuse_eq (F_X5_step σ) 1) ?_
    exact zR.zret rfl ⟨by decide, by decide⟩ dX9_takeNewName_16 ⟨by unfold V_X9_takeNewName; rw [if_pos c8], by unfold F_X9_takeNewName; rw [if_pos c8]⟩

theorem CI_F_X9_takeNewName {σ : zG}  (hI : CI σ) : CI ((F_X9_takeNewName σ )) := by
  unfold F_X9_takeNewName
  repeat' split
  all_goals first | exact (CI_zu (by decide) (CI_F_X5_step hI)) | exact (CI_F_X5_step hI)

theorem CV_F_X9_takeNewName {σ : zG}  (hV : CV σ) : CV (F_X9_takeNewName σ ) := by
  have hV0 := id hV
  unfold CV at hV0
  unfold F_X9_takeNewName
  repeat' split
  all_goals first | exact (CV_zu (Or.inl (by decide)) (CV_F_X5_step hV)) | exact (CV_F_X5_step hV)

def V_X9_takeWho (σ : zG)  : Int := if (σ 16 0) < 8 then (if (V_X9_takeNewName σ) = 0 then 0 else 1) else 0
def F_X9_takeWho (σ : zG)  : zG := if (σ 16 0) < 8 then (if (V_X9_takeNewName σ) = 0 then (F_X9_takeNewName σ) else (zu (zu (F_X9_takeNewName σ) 17 (σ 16 0) ((F_X9_takeNewName σ) 3 6)) 16 0 ((σ 16 0) + 1))) else (zu σ 3 7 4)
theorem fr_F_X9_takeWho (σ : zG)  {k : Nat} (h : k ∉ [3, 16, 17]) : (F_X9_takeWho σ ) k = σ k := by
  have ne : ∀ c ∈ [3, 16, 17], k ≠ c := fun c hc e => h (e ▸ hc)
  have nk_F_X9_takeNewName : k ∉ [3] := fun hm => h (by first | (revert hm; simp only [List.mem_cons, List.not_mem_nil, or_false]; omega) | (simp at hm))
  unfold F_X9_takeWho
  repeat' split
  all_goals first | rfl | simp only [zu_row _ _ _ (ne 3 (by decide)), zu_row _ _ _ (ne 16 (by decide)), zu_row _ _ _ (ne 17 (by decide)), fr_F_X9_takeNewName (h := nk_F_X9_takeNewName)]

set_option maxRecDepth 20000 in
theorem does_X9_takeWho (σ : zG)  (hI : CI σ) (hV : CV σ) : zDo SC 3 m_X9_takeWho [zP 16, zP 3] σ (zEq (some (.inl (V_X9_takeWho σ ))) (F_X9_takeWho σ )) := by
  refine zDo.intro mk_X9_takeWho (Nat.le_of_ble_eq_true rfl) ?_
  obtain ⟨hp, hf, hs⟩ := id hV
  refine zRx.aload_n 0 rfl rfl dX9_takeWho_0 ?_
  refine zRx.getIv (a := 16) (ji := 0) (v := σ 16 0) rfl fl_9_57 rfl rfl rfl dX9_takeWho_1 ?_
  refine zRx.bipush ⟨by decide, by decide⟩ rfl dX9_takeWho_4 ?_
  refine zRx.icmp_lt (tgt := 15) dX9_takeWho_6 (by decide) (fun c6 => ?_) (fun c6 => ?_)
  · refine zRx.aload_n 0 rfl rfl dX9_takeWho_15 ?_
    refine zRx.aload_n 1 rfl rfl dX9_takeWho_16 ?_
    refine zRx.cVi (w := .inl (V_X9_takeNewName σ)) (M := m_X9_takeNewName) (av := [zP 3]) cv_9_127 mk_X9_takeNewName (by decide) (b := 16) rfl rfl (Nat.le_of_ble_eq_true rfl) dX9_takeWho_17 (does_X9_takeNewName σ  hI) ?_
    refine zRx.if_ne (tgt := 25) dX9_takeWho_20 (by decide) (fun c20 => ?_) (fun c20 => ?_)
    · refine zRx.aload_n 0 rfl rfl dX9_takeWho_25 ?_
      refine zRx.getR (a := 16) (b := 17) fl_9_9 rfl rfl dX9_takeWho_26 ?_
      refine zRx.aload_n 0 rfl rfl dX9_takeWho_29 ?_
      refine zRx.getIv (a := 16) (ji := 0) (v := σ 16 0) (congrFun (fr_F_X9_takeNewName σ  (k := 16) (by decide)) _) fl_9_57 rfl rfl rfl dX9_takeWho_30 ?_
      refine zRx.aload_n 1 rfl rfl dX9_takeWho_33 ?_
      refine zRx.getIv (a := 3) (ji := 6) (v := (F_X9_takeNewName σ) 3 6) rfl fl_9_120 rfl rfl rfl dX9_takeWho_34 ?_
      refine zRx.iast rfl (by omega) (by omega) dX9_takeWho_37 ?_
      refine zRx.aload_n 0 rfl rfl dX9_takeWho_38 ?_
      refine zRx.dup rfl dX9_takeWho_39 ?_
      refine zRx.getIv (a := 16) (ji := 0) (v := σ 16 0) ((zu_ne _ _ _ _ (by decide)).trans (congrFun (fr_F_X9_takeNewName σ  (k := 16) (by decide)) _)) fl_9_57 rfl rfl rfl dX9_takeWho_40 ?_
      refine zRx.iconst ⟨by decide, by decide⟩ dX9_takeWho_43 ?_
      refine zRx.iadd ⟨by omega, by omega⟩ dX9_takeWho_44 ?_
      refine zRx.putI (a := 16) (ji := 0) pl_9_57 rfl rfl rfl dX9_takeWho_45 ?_
      refine zRx.iconst ⟨by decide, by decide⟩ dX9_takeWho_48 ?_
      exact zR.zret rfl ⟨by decide, by decide⟩ dX9_takeWho_49 ⟨by unfold V_X9_takeWho; rw [if_pos c6, if_neg c20], by unfold F_X9_takeWho; rw [if_pos c6, if_neg c20]⟩
    · refine zRx.iconst ⟨by decide, by decide⟩ dX9_takeWho_23 ?_
      exact zR.zret rfl ⟨by decide, by decide⟩ dX9_takeWho_24 ⟨by unfold V_X9_takeWho; rw [if_pos c6, if_pos c20], by unfold F_X9_takeWho; rw [if_pos c6, if_pos c20]⟩
  · refine zRx.aload_n 1 rfl rfl dX9_takeWho_9 ?_
    refine zRx.iconst ⟨by decide, by decide⟩ dX9_takeWho_10 ?_
    refine zRx.cVi (w := .inl 0) (M := m_X5_refuse) (av := [.inl 4]) cv_9_108 mk_X5_refuse (by decide) (b := 3) rfl rfl (Nat.le_of_ble_eq_true rfl) dX9_takeWho_11 (refuse_eq σ 4) ?_
    exact zR.zret rfl ⟨by decide, by decide⟩ dX9_takeWho_14 ⟨by unfold V_X9_takeWho; rw [if_neg (Int.not_lt.mpr c6)], by unfold F_X9_takeWho; rw [if_neg (Int.not_lt.mpr c6)]⟩

theorem CI_F_X9_takeWho {σ : zG}  (hI : CI σ) : CI ((F_X9_takeWho σ )) := by
  unfold F_X9_takeWho
  repeat' split
  all_goals first | exact (CI_F_X9_takeNewName hI) | exact (CI_zu ⟨fun h => absurd h.1 (by decide), fun h => absurd h.1 (by decide)⟩ (CI_zu ⟨fun h => absurd h.1 (by decide), fun h => absurd h.1 (by decide)⟩ (CI_F_X9_takeNewName hI))) | exact (CI_zu (by decide) hI)

theorem CV_F_X9_takeWho {σ : zG}  (hV : CV σ) : CV (F_X9_takeWho σ ) := by
  have hV0 := id hV
  unfold CV at hV0
  unfold F_X9_takeWho
  repeat' split
  all_goals first | exact (CV_F_X9_takeNewName hV) | exact (CV_zu0 (by omega) (CV_zu (Or.inl (by decide)) (CV_F_X9_takeNewName hV))) | exact (CV_zu (Or.inl (by decide)) hV)

def V_X9_takeFact (σ : zG)  : Int := if (σ 16 1) < 12 then (if (V_X9_takeNewName σ) = 0 then 0 else (if (V_X5_stepNumber (F_X9_takeNewName σ) 1 99) = (-1) then 0 else (if (V_X5_stepNumber (F_X5_stepNumber (F_X9_takeNewName σ) 1 99) 0 99) = (-1) then 0 else (if (V_X5_stepName_17 (F_X5_stepNumber (F_X5_stepNumber (F_X9_takeNewName σ) 1 99) 0 99) (σ 16 0)) = (-1) then 0 else 1)))) else 0
def F_X9_takeFact (σ : zG)  : zG := if (σ 16 1) < 12 then (if (V_X9_takeNewName σ) = 0 then (F_X9_takeNewName σ) else (if (V_X5_stepNumber (F_X9_takeNewName σ) 1 99) = (-1) then (F_X5_stepNumber (F_X9_takeNewName σ) 1 99) else (if (V_X5_stepNumber (F_X5_stepNumber (F_X9_takeNewName σ) 1 99) 0 99) = (-1) then (F_X5_stepNumber (F_X5_stepNumber (F_X9_takeNewName σ) 1 99) 0 99) else (if (V_X5_stepName_17 (F_X5_stepNumber (F_X5_stepNumber (F_X9_takeNewName σ) 1 99) 0 99) (σ 16 0)) = (-1) then (F_X5_stepName_17 (F_X5_stepNumber (F_X5_stepNumber (F_X9_takeNewName σ) 1 99) 0 99) (σ 16 0)) else (zu (zu (zu (zu (zu (F_X5_stepName_17 (F_X5_stepNumber (F_X5_stepNumber (F_X9_takeNewName σ) 1 99) 0 99) (σ 16 0)) 19 (σ 16 1) ((F_X9_takeNewName σ) 3 6)) 20 (σ 16 1) (V_X5_stepNumber (F_X9_takeNewName σ) 1 99)) 21 (σ 16 1) (V_X5_stepNumber (F_X5_stepNumber (F_X9_takeNewName σ) 1 99) 0 99)) 22 (σ 16 1) (V_X5_stepName_17 (F_X5_stepNumber (F_X5_stepNumber (F_X9_takeNewName σ) 1 99) 0 99) (σ 16 0))) 16 1 ((σ 16 1) + 1)))))) else (zu σ 3 7 4)
theorem fr_F_X9_takeFact (σ : zG)  {k : Nat} (h : k ∉ [3, 16, 19, 20, 21, 22]) : (F_X9_takeFact σ ) k = σ k := by
  have ne : ∀ c ∈ [3, 16, 19, 20, 21, 22], k ≠ c := fun c hc e => h (e ▸ hc)
  have nk_F_X9_takeNewName : k ∉ [3] := fun hm => h (by first | (revert hm; simp only [List.mem_cons, List.not_mem_nil, or_false]; omega) | (simp at hm))
  have nk_F_X5_stepNumber : k ∉ [3] := fun hm => h (by first | (revert hm; simp only [List.mem_cons, List.not_mem_nil, or_false]; omega) | (simp at hm))
  have nk_F_X5_stepName_17 : k ∉ [3] := fun hm => h (by first | (revert hm; simp only [List.mem_cons, List.not_mem_nil, or_false]; omega) | (simp at hm))
  unfold F_X9_takeFact
  repeat' split
  all_goals first | rfl | simp only [zu_row _ _ _ (ne 3 (by decide)), zu_row _ _ _ (ne 16 (by decide)), zu_row _ _ _ (ne 19 (by decide)), zu_row _ _ _ (ne 20 (by decide)), zu_row _ _ _ (ne 21 (by decide)), zu_row _ _ _ (ne 22 (by decide)), fr_F_X9_takeNewName (h := nk_F_X9_takeNewName), fr_F_X5_stepNumber (h := nk_F_X5_stepNumber), fr_F_X5_stepName_17 (h := nk_F_X5_stepName_17)]

set_option maxRecDepth 20000 in
theorem does_X9_takeFact (σ : zG)  (hI : CI σ) (hV : CV σ) : zDo SC 3 m_X9_takeFact [zP 16, zP 3] σ (zEq (some (.inl (V_X9_takeFact σ ))) (F_X9_takeFact σ )) := by
  refine zDo.intro mk_X9_takeFact (Nat.le_of_ble_eq_true rfl) ?_
  obtain ⟨hp, hf, hs⟩ := id hV
  refine zRx.aload_n 0 rfl rfl dX9_takeFact_0 ?_
  refine zRx.getIv (a := 16) (ji := 1) (v := σ 16 1) rfl fl_9_61 rfl rfl rfl dX9_takeFact_1 ?_
  refine zRx.bipush ⟨by decide, by decide⟩ rfl dX9_takeFact_4 ?_
  refine zRx.icmp_lt (tgt := 15) dX9_takeFact_6 (by decide) (fun c6 => ?_) (fun c6 => ?_)
  · refine zRx.aload_n 0 rfl rfl dX9_takeFact_15 ?_
    refine zRx.aload_n 1 rfl rfl dX9_takeFact_16 ?_
    refine zRx.cVi (w := .inl (V_X9_takeNewName σ)) (M := m_X9_takeNewName) (av := [zP 3]) cv_9_127 mk_X9_takeNewName (by decide) (b := 16) rfl rfl (Nat.le_of_ble_eq_true rfl) dX9_takeFact_17 (does_X9_takeNewName σ  hI) ?_
    refine zRx.if_ne (tgt := 25) dX9_takeFact_20 (by decide) (fun c20 => ?_) (fun c20 => ?_)
    · refine zRx.aload_n 1 rfl rfl dX9_takeFact_25 ?_
      refine zRx.getIv (a := 3) (ji := 6) (v := (F_X9_takeNewName σ) 3 6) rfl fl_9_120 rfl rfl rfl dX9_takeFact_26 ?_
      refine zRx.istore_n (ls' := [(0, zP 16), (1, zP 3), (2, .inl ((F_X9_takeNewName σ) 3 6))]) rfl rfl (by decide) dX9_takeFact_29 ?_
      refine zRx.aload_n 1 rfl rfl dX9_takeFact_30 ?_
      refine zRx.iconst ⟨by decide, by decide⟩ dX9_takeFact_31 ?_
      refine zRx.bipush ⟨by decide, by decide⟩ rfl dX9_takeFact_32 ?_
      refine zRx.cVi (w := .inl (V_X5_stepNumber (F_X9_takeNewName σ) 1 99)) (M := m_X5_stepNumber) (av := [.inl 1, .inl 99]) cv_9_130 mk_X5_stepNumber (by decide) (b := 3) rfl rfl (Nat.le_of_ble_eq_true rfl) dX9_takeFact_34 (does_X5_stepNumber (F_X9_takeNewName σ) 1 99 (CI_F_X9_takeNewName hI)) ?_
      refine zRx.istore_n (ls' := [(0, zP 16), (1, zP 3), (2, .inl ((F_X9_takeNewName σ) 3 6)), (3, .inl (V_X5_stepNumber (F_X9_takeNewName σ) 1 99))]) rfl rfl (by decide) dX9_takeFact_37 ?_
      refine zRx.iload_n 3 rfl rfl dX9_takeFact_38 ?_
      refine zRx.iconst ⟨by decide, by decide⟩ dX9_takeFact_39 ?_
      refine zRx.icmp_ne (tgt := 45) dX9_takeFact_40 (by decide) (fun c40 => ?_) (fun c40 => ?_)
      · refine zRx.aload_n 1 rfl rfl dX9_takeFact_45 ?_
        refine zRx.iconst ⟨by decide, by decide⟩ dX9_takeFact_46 ?_
        refine zRx.bipush ⟨by decide, by decide⟩ rfl dX9_takeFact_47 ?_
        refine zRx.cVi (w := .inl (V_X5_stepNumber (F_X5_stepNumber (F_X9_takeNewName σ) 1 99) 0 99)) (M := m_X5_stepNumber) (av := [.inl 0, .inl 99]) cv_9_130 mk_X5_stepNumber (by decide) (b := 3) rfl rfl (Nat.le_of_ble_eq_true rfl) dX9_takeFact_49 (does_X5_stepNumber (F_X5_stepNumber (F_X9_takeNewName σ) 1 99) 0 99 (CI_F_X5_stepNumber (CI_F_X9_takeNewName hI))) ?_
        refine zRx.istore (ls' := [(0, zP 16), (1, zP 3), (2, .inl ((F_X9_takeNewName σ) 3 6)), (3, .inl (V_X5_stepNumber (F_X9_takeNewName σ) 1 99)), (4, .inl (V_X5_stepNumber (F_X5_stepNumber (F_X9_takeNewName σ) 1 99) 0 99))]) rfl (by decide) dX9_takeFact_52 ?_
        refine zRx.iload 4 rfl dX9_takeFact_54 ?_
        refine zRx.iconst ⟨by decide, by decide⟩ dX9_takeFact_56 ?_
        refine zRx.icmp_ne (tgt := 62) dX9_takeFact_57 (by decide) (fun c57 => ?_) (fun c57 => ?_)
        · refine zRx.aload_n 1 rfl rfl dX9_takeFact_62 ?_
          refine zRx.aload_n 0 rfl rfl dX9_takeFact_63 ?_
          refine zRx.getR (a := 16) (b := 17) fl_9_9 rfl rfl dX9_takeFact_64 ?_
          refine zRx.aload_n 0 rfl rfl dX9_takeFact_67 ?_
          refine zRx.getIv (a := 16) (ji := 0) (v := σ 16 0) ((congrFun (fr_F_X5_stepNumber (F_X5_stepNumber (F_X9_takeNewName σ) 1 99) 0 99 (k := 16) (by decide)) _).trans ((congrFun (fr_F_X5_stepNumber (F_X9_takeNewName σ) 1 99 (k := 16) (by decide)) _).trans (congrFun (fr_F_X9_takeNewName σ  (k := 16) (by decide)) _))) fl_9_57 rfl rfl rfl dX9_takeFact_68 ?_
          refine zRx.cVi (w := .inl (V_X5_stepName_17 (F_X5_stepNumber (F_X5_stepNumber (F_X9_takeNewName σ) 1 99) 0 99) (σ 16 0))) (M := m_X5_stepName) (av := [zP 17, .inl (σ 16 0)]) cv_9_134 mk_X5_stepName (by decide) (b := 3) rfl rfl (Nat.le_of_ble_eq_true rfl) dX9_takeFact_71 (does_X5_stepName_17 (F_X5_stepNumber (F_X5_stepNumber (F_X9_takeNewName σ) 1 99) 0 99) (σ 16 0) (CI_F_X5_stepNumber (CI_F_X5_stepNumber (CI_F_X9_takeNewName hI)))) ?_
          refine zRx.istore (ls' := [(0, zP 16), (1, zP 3), (2, .inl ((F_X9_takeNewName σ) 3 6)), (3, .inl (V_X5_stepNumber (F_X9_takeNewName σ) 1 99)), (4, .inl (V_X5_stepNumber (F_X5_stepNumber (F_X9_takeNewName σ) 1 99) 0 99)), (5, .inl (V_X5_stepName_17 (F_X5_stepNumber (F_X5_stepNumber (F_X9_takeNewName σ) 1 99) 0 99) (σ 16 0)))]) rfl (by decide) dX9_takeFact_74 ?_
          refine zRx.iload 5 rfl dX9_takeFact_76 ?_
          refine zRx.iconst ⟨by decide, by decide⟩ dX9_takeFact_78 ?_
          refine zRx.icmp_ne (tgt := 84) dX9_takeFact_79 (by decide) (fun c79 => ?_) (fun c79 => ?_)
          · refine zRx.aload_n 0 rfl rfl dX9_takeFact_84 ?_
            refine zRx.getR (a := 16) (b := 19) fl_9_18 rfl rfl dX9_takeFact_85 ?_
            refine zRx.aload_n 0 rfl rfl dX9_takeFact_88 ?_
            refine zRx.getIv (a := 16) (ji := 1) (v := σ 16 1) ((congrFun (fr_F_X5_stepName_17 (F_X5_stepNumber (F_X5_stepNumber (F_X9_takeNewName σ) 1 99) 0 99) (σ 16 0) (k := 16) (by decide)) _).trans ((congrFun (fr_F_X5_stepNumber (F_X5_stepNumber (F_X9_takeNewName σ) 1 99) 0 99 (k := 16) (by decide)) _).trans ((congrFun (fr_F_X5_stepNumber (F_X9_takeNewName σ) 1 99 (k := 16) (by decide)) _).trans (congrFun (fr_F_X9_takeNewName σ  (k := 16) (by decide)) _)))) fl_9_61 rfl rfl rfl dX9_takeFact_89 ?_
            refine zRx.iload_n 2 rfl rfl dX9_takeFact_92 ?_
            refine zRx.iast rfl (by omega) (by omega) dX9_takeFact_93 ?_
            refine zRx.aload_n 0 rfl rfl dX9_takeFact_94 ?_
            refine zRx.getR (a := 16) (b := 20) fl_9_21 rfl rfl dX9_takeFact_95 ?_
            refine zRx.aload_n 0 rfl rfl dX9_takeFact_98 ?_
            refine zRx.getIv (a := 16) (ji := 1) (v := σ 16 1) ((zu_ne _ _ _ _ (by decide)).trans ((congrFun (fr_F_X5_stepName_17 (F_X5_stepNumber (F_X5_stepNumber (F_X9_takeNewName σ) 1 99) 0 99) (σ 16 0) (k := 16) (by decide)) _).trans ((congrFun (fr_F_X5_stepNumber (F_X5_stepNumber (F_X9_takeNewName σ) 1 99) 0 99 (k := 16) (by decide)) _).trans ((congrFun (fr_F_X5_stepNumber (F_X9_takeNewName σ) 1 99 (k := 16) (by decide)) _).trans (congrFun (fr_F_X9_takeNewName σ  (k := 16) (by decide)) _))))) fl_9_61 rfl rfl rfl dX9_takeFact_99 ?_
            refine zRx.iload_n 3 rfl rfl dX9_takeFact_102 ?_
            refine zRx.iast rfl (by omega) (by omega) dX9_takeFact_103 ?_
            refine zRx.aload_n 0 rfl rfl dX9_takeFact_104 ?_
            refine zRx.getR (a := 16) (b := 21) fl_9_24 rfl rfl dX9_takeFact_105 ?_
            refine zRx.aload_n 0 rfl rfl dX9_takeFact_108 ?_
            refine zRx.getIv (a := 16) (ji := 1) (v := σ 16 1) ((zu_ne _ _ _ _ (by decide)).trans ((zu_ne _ _ _ _ (by decide)).trans ((congrFun (fr_F_X5_stepName_17 (F_X5_stepNumber (F_X5_stepNumber (F_X9_takeNewName σ) 1 99) 0 99) (σ 16 0) (k := 16) (by decide)) _).trans ((congrFun (fr_F_X5_stepNumber (F_X5_stepNumber (F_X9_takeNewName σ) 1 99) 0 99 (k := 16) (by decide)) _).trans ((congrFun (fr_F_X5_stepNumber (F_X9_takeNewName σ) 1 99 (k := 16) (by decide)) _).trans (congrFun (fr_F_X9_takeNewName σ  (k := 16) (by decide)) _)))))) fl_9_61 rfl rfl rfl dX9_takeFact_109 ?_
            refine zRx.iload 4 rfl dX9_takeFact_112 ?_
            refine zRx.iast rfl (by omega) (by omega) dX9_takeFact_114 ?_
            refine zRx.aload_n 0 rfl rfl dX9_takeFact_115 ?_
            refine zRx.getR (a := 16) (b := 22) fl_9_27 rfl rfl dX9_takeFact_116 ?_
            refine zRx.aload_n 0 rfl rfl dX9_takeFact_119 ?_
            refine zRx.getIv (a := 16) (ji := 1) (v := σ 16 1) ((zu_ne _ _ _ _ (by decide)).trans ((zu_ne _ _ _ _ (by decide)).trans ((zu_ne _ _ _ _ (by decide)).trans ((congrFun (fr_F_X5_stepName_17 (F_X5_stepNumber (F_X5_stepNumber (F_X9_takeNewName σ) 1 99) 0 99) (σ 16 0) (k := 16) (by decide)) _).trans ((congrFun (fr_F_X5_stepNumber (F_X5_stepNumber (F_X9_takeNewName σ) 1 99) 0 99 (k := 16) (by decide)) _).trans ((congrFun (fr_F_X5_stepNumber (F_X9_takeNewName σ) 1 99 (k := 16) (by decide)) _).trans (congrFun (fr_F_X9_takeNewName σ  (k := 16) (by decide)) _))))))) fl_9_61 rfl rfl rfl dX9_takeFact_120 ?_
            refine zRx.iload 5 rfl dX9_takeFact_123 ?_
            refine zRx.iast rfl (by omega) (by omega) dX9_takeFact_125 ?_
            refine zRx.aload_n 0 rfl rfl dX9_takeFact_126 ?_
            refine zRx.dup rfl dX9_takeFact_127 ?_
            refine zRx.getIv (a := 16) (ji := 1) (v := σ 16 1) ((zu_ne _ _ _ _ (by decide)).trans ((zu_ne _ _ _ _ (by decide)).trans ((zu_ne _ _ _ _ (by decide)).trans ((zu_ne _ _ _ _ (by decide)).trans ((congrFun (fr_F_X5_stepName_17 (F_X5_stepNumber (F_X5_stepNumber (F_X9_takeNewName σ) 1 99) 0 99) (σ 16 0) (k := 16) (by decide)) _).trans ((congrFun (fr_F_X5_stepNumber (F_X5_stepNumber (F_X9_takeNewName σ) 1 99) 0 99 (k := 16) (by decide)) _).trans ((congrFun (fr_F_X5_stepNumber (F_X9_takeNewName σ) 1 99 (k := 16) (by decide)) _).trans (congrFun (fr_F_X9_takeNewName σ  (k := 16) (by decide)) _)))))))) fl_9_61 rfl rfl rfl dX9_takeFact_128 ?_
            refine zRx.iconst ⟨by decide, by decide⟩ dX9_takeFact_131 ?_
            refine zRx.iadd ⟨by omega, by omega⟩ dX9_takeFact_132 ?_
            refine zRx.putI (a := 16) (ji := 1) pl_9_61 rfl rfl rfl dX9_takeFact_133 ?_
            refine zRx.iconst ⟨by decide, by decide⟩ dX9_takeFact_136 ?_
            exact zR.zret rfl ⟨by decide, by decide⟩ dX9_takeFact_137 ⟨by unfold V_X9_takeFact; rw [if_pos c6, if_neg c20, if_neg c40, if_neg c57, if_neg c79], by unfold F_X9_takeFact; rw [if_pos c6, if_neg c20, if_neg c40, if_neg c57, if_neg c79]⟩
          · refine zRx.iconst ⟨by decide, by decide⟩ dX9_takeFact_82 ?_
            exact zR.zret rfl ⟨by decide, by decide⟩ dX9_takeFact_83 ⟨by unfold V_X9_takeFact; rw [if_pos c6, if_neg c20, if_neg c40, if_neg c57, if_pos c79], by unfold F_X9_takeFact; rw [if_pos c6, if_neg c20, if_neg c40, if_neg c57, if_pos c79]⟩
        · refine zRx.iconst ⟨by decide, by decide⟩ dX9_takeFact_60 ?_
          exact zR.zret rfl ⟨by decide, by decide⟩ dX9_takeFact_61 ⟨by unfold V_X9_takeFact; rw [if_pos c6, if_neg c20, if_neg c40, if_pos c57], by unfold F_X9_takeFact; rw [if_pos c6, if_neg c20, if_neg c40, if_pos c57]⟩
      · refine zRx.iconst ⟨by decide, by decide⟩ dX9_takeFact_43 ?_
        exact zR.zret rfl ⟨by decide, by decide⟩ dX9_takeFact_44 ⟨by unfold V_X9_takeFact; rw [if_pos c6, if_neg c20, if_pos c40], by unfold F_X9_takeFact; rw [if_pos c6, if_neg c20, if_pos c40]⟩
    · refine zRx.iconst ⟨by decide, by decide⟩ dX9_takeFact_23 ?_
      exact zR.zret rfl ⟨by decide, by decide⟩ dX9_takeFact_24 ⟨by unfold V_X9_takeFact; rw [if_pos c6, if_pos c20], by unfold F_X9_takeFact; rw [if_pos c6, if_pos c20]⟩
  · refine zRx.aload_n 1 rfl rfl dX9_takeFact_9 ?_
    refine zRx.iconst ⟨by decide, by decide⟩ dX9_takeFact_10 ?_
    refine zRx.cVi (w := .inl 0) (M := m_X5_refuse) (av := [.inl 4]) cv_9_108 mk_X5_refuse (by decide) (b := 3) rfl rfl (Nat.le_of_ble_eq_true rfl) dX9_takeFact_11 (refuse_eq σ 4) ?_
    exact zR.zret rfl ⟨by decide, by decide⟩ dX9_takeFact_14 ⟨by unfold V_X9_takeFact; rw [if_neg (Int.not_lt.mpr c6)], by unfold F_X9_takeFact; rw [if_neg (Int.not_lt.mpr c6)]⟩

theorem CI_F_X9_takeFact {σ : zG}  (hI : CI σ) : CI ((F_X9_takeFact σ )) := by
  unfold F_X9_takeFact
  repeat' split
  all_goals first | exact (CI_F_X9_takeNewName hI) | exact (CI_F_X5_stepNumber (CI_F_X9_takeNewName hI)) | exact (CI_F_X5_stepNumber (CI_F_X5_stepNumber (CI_F_X9_takeNewName hI))) | exact (CI_F_X5_stepName_17 (CI_F_X5_stepNumber (CI_F_X5_stepNumber (CI_F_X9_takeNewName hI)))) | exact (CI_zu ⟨fun h => absurd h.1 (by decide), fun h => absurd h.1 (by decide)⟩ (CI_zu ⟨fun h => absurd h.1 (by decide), fun h => absurd h.1 (by decide)⟩ (CI_zu ⟨fun h => absurd h.1 (by decide), fun h => absurd h.1 (by decide)⟩ (CI_zu ⟨fun h => absurd h.1 (by decide), fun h => absurd h.1 (by decide)⟩ (CI_zu ⟨fun h => absurd h.1 (by decide), fun h => absurd h.1 (by decide)⟩ (CI_F_X5_stepName_17 (CI_F_X5_stepNumber (CI_F_X5_stepNumber (CI_F_X9_takeNewName hI))))))))) | exact (CI_zu (by decide) hI)

theorem CV_F_X9_takeFact {σ : zG}  (hV : CV σ) : CV (F_X9_takeFact σ ) := by
  have hV0 := id hV
  unfold CV at hV0
  unfold F_X9_takeFact
  repeat' split
  all_goals first | exact (CV_F_X9_takeNewName hV) | exact (CV_F_X5_stepNumber (CV_F_X9_takeNewName hV)) | exact (CV_F_X5_stepNumber (CV_F_X5_stepNumber (CV_F_X9_takeNewName hV))) | exact (CV_F_X5_stepName_17 (CV_F_X5_stepNumber (CV_F_X5_stepNumber (CV_F_X9_takeNewName hV)))) | exact (CV_zu1 (by omega) (CV_zu (Or.inl (by decide)) (CV_zu (Or.inl (by decide)) (CV_zu (Or.inl (by decide)) (CV_zu (Or.inl (by decide)) (CV_F_X5_stepName_17 (CV_F_X5_stepNumber (CV_F_X5_stepNumber (CV_F_X9_takeNewName hV))))))))) | exact (CV_zu (Or.inl (by decide)) hV)

def V_X9_takeKnows (σ : zG)  : Int := if (V_X5_stepName_17 σ (σ 16 0)) = (-1) then 0 else (if (V_X5_stepName_19 (F_X5_stepName_17 σ (σ 16 0)) (σ 16 1)) = (-1) then 0 else (if hb (σ 18 (V_X5_stepName_17 σ (σ 16 0))) (V_X5_stepName_19 (F_X5_stepName_17 σ (σ 16 0)) (σ 16 1)) then 0 else 1))
def F_X9_takeKnows (σ : zG)  : zG := if (V_X5_stepName_17 σ (σ 16 0)) = (-1) then (F_X5_stepName_17 σ (σ 16 0)) else (if (V_X5_stepName_19 (F_X5_stepName_17 σ (σ 16 0)) (σ 16 1)) = (-1) then (F_X5_stepName_19 (F_X5_stepName_17 σ (σ 16 0)) (σ 16 1)) else (if hb (σ 18 (V_X5_stepName_17 σ (σ 16 0))) (V_X5_stepName_19 (F_X5_stepName_17 σ (σ 16 0)) (σ 16 1)) then (zu (F_X5_stepName_19 (F_X5_stepName_17 σ (σ 16 0)) (σ 16 1)) 3 7 3) else (zu (F_X5_stepName_19 (F_X5_stepName_17 σ (σ 16 0)) (σ 16 1)) 18 (V_X5_stepName_17 σ (σ 16 0)) (bor (σ 18 (V_X5_stepName_17 σ (σ 16 0))) (bshl 1 (V_X5_stepName_19 (F_X5_stepName_17 σ (σ 16 0)) (σ 16 1)))))))
theorem fr_F_X9_takeKnows (σ : zG)  {k : Nat} (h : k ∉ [3, 18]) : (F_X9_takeKnows σ ) k = σ k := by
  have ne : ∀ c ∈ [3, 18], k ≠ c := fun c hc e => h (e ▸ hc)
  have nk_F_X5_stepName_17 : k ∉ [3] := fun hm => h (by first | (revert hm; simp only [List.mem_cons, List.not_mem_nil, or_false]; omega) | (simp at hm))
  have nk_F_X5_stepName_19 : k ∉ [3] := fun hm => h (by first | (revert hm; simp only [List.mem_cons, List.not_mem_nil, or_false]; omega) | (simp at hm))
  unfold F_X9_takeKnows
  repeat' split
  all_goals first | rfl | simp only [zu_row _ _ _ (ne 3 (by decide)), zu_row _ _ _ (ne 18 (by decide)), fr_F_X5_stepName_17 (h := nk_F_X5_stepName_17), fr_F_X5_stepName_19 (h := nk_F_X5_stepName_19)]

set_option maxRecDepth 20000 in
theorem does_X9_takeKnows (σ : zG)  (hI : CI σ) (hV : CV σ) : zDo SC 3 m_X9_takeKnows [zP 16, zP 3] σ (zEq (some (.inl (V_X9_takeKnows σ ))) (F_X9_takeKnows σ )) := by
  refine zDo.intro mk_X9_takeKnows (Nat.le_of_ble_eq_true rfl) ?_
  obtain ⟨hp, hf, hs⟩ := id hV
  refine zRx.aload_n 1 rfl rfl dX9_takeKnows_0 ?_
  refine zRx.aload_n 0 rfl rfl dX9_takeKnows_1 ?_
  refine zRx.getR (a := 16) (b := 17) fl_9_9 rfl rfl dX9_takeKnows_2 ?_
  refine zRx.aload_n 0 rfl rfl dX9_takeKnows_5 ?_
  refine zRx.getIv (a := 16) (ji := 0) (v := σ 16 0) rfl fl_9_57 rfl rfl rfl dX9_takeKnows_6 ?_
  refine zRx.cVi (w := .inl (V_X5_stepName_17 σ (σ 16 0))) (M := m_X5_stepName) (av := [zP 17, .inl (σ 16 0)]) cv_9_134 mk_X5_stepName (by decide) (b := 3) rfl rfl (Nat.le_of_ble_eq_true rfl) dX9_takeKnows_9 (does_X5_stepName_17 σ (σ 16 0) hI) ?_
  have r2 := sn_r_17 σ (σ 16 0)
  refine zRx.istore_n (ls' := [(0, zP 16), (1, zP 3), (2, .inl (V_X5_stepName_17 σ (σ 16 0)))]) rfl rfl (by decide) dX9_takeKnows_12 ?_
  refine zRx.iload_n 2 rfl rfl dX9_takeKnows_13 ?_
  refine zRx.iconst ⟨by decide, by decide⟩ dX9_takeKnows_14 ?_
  refine zRx.icmp_ne (tgt := 20) dX9_takeKnows_15 (by decide) (fun c15 => ?_) (fun c15 => ?_)
  · refine zRx.aload_n 1 rfl rfl dX9_takeKnows_20 ?_
    refine zRx.aload_n 0 rfl rfl dX9_takeKnows_21 ?_
    refine zRx.getR (a := 16) (b := 19) fl_9_18 rfl rfl dX9_takeKnows_22 ?_
    refine zRx.aload_n 0 rfl rfl dX9_takeKnows_25 ?_
    refine zRx.getIv (a := 16) (ji := 1) (v := σ 16 1) (congrFun (fr_F_X5_stepName_17 σ (σ 16 0) (k := 16) (by decide)) _) fl_9_61 rfl rfl rfl dX9_takeKnows_26 ?_
    refine zRx.cVi (w := .inl (V_X5_stepName_19 (F_X5_stepName_17 σ (σ 16 0)) (σ 16 1))) (M := m_X5_stepName) (av := [zP 19, .inl (σ 16 1)]) cv_9_134 mk_X5_stepName (by decide) (b := 3) rfl rfl (Nat.le_of_ble_eq_true rfl) dX9_takeKnows_29 (does_X5_stepName_19 (F_X5_stepName_17 σ (σ 16 0)) (σ 16 1) (CI_F_X5_stepName_17 hI)) ?_
    have r3 := sn_r_19 (F_X5_stepName_17 σ (σ 16 0)) (σ 16 1)
    refine zRx.istore_n (ls' := [(0, zP 16), (1, zP 3), (2, .inl (V_X5_stepName_17 σ (σ 16 0))), (3, .inl (V_X5_stepName_19 (F_X5_stepName_17 σ (σ 16 0)) (σ 16 1)))]) rfl rfl (by decide) dX9_takeKnows_32 ?_
    refine zRx.iload_n 3 rfl rfl dX9_takeKnows_33 ?_
    refine zRx.iconst ⟨by decide, by decide⟩ dX9_takeKnows_34 ?_
    refine zRx.icmp_ne (tgt := 40) dX9_takeKnows_35 (by decide) (fun c35 => ?_) (fun c35 => ?_)
    · refine zRx.aload_n 0 rfl rfl dX9_takeKnows_40 ?_
      refine zRx.getR (a := 16) (b := 18) fl_9_15 rfl rfl dX9_takeKnows_41 ?_
      refine zRx.iload_n 2 rfl rfl dX9_takeKnows_44 ?_
      refine zRx.ialdv (v := σ 18 (V_X5_stepName_17 σ (σ 16 0))) ((congrFun (fr_F_X5_stepName_19 (F_X5_stepName_17 σ (σ 16 0)) (σ 16 1) (k := 18) (by decide)) _).trans (congrFun (fr_F_X5_stepName_17 σ (σ 16 0) (k := 18) (by decide)) _)) rfl (by omega) (by omega) dX9_takeKnows_45 ?_
      refine zRx.iload_n 3 rfl rfl dX9_takeKnows_46 ?_
      refine zRx.cSi (w := .inl (b2 (hb (σ 18 (V_X5_stepName_17 σ (σ 16 0))) (V_X5_stepName_19 (F_X5_stepName_17 σ (σ 16 0)) (σ 16 1))))) (M := m_X11_hasBit) (av := [.inl (σ 18 (V_X5_stepName_17 σ (σ 16 0))), .inl (V_X5_stepName_19 (F_X5_stepName_17 σ (σ 16 0)) (σ 16 1))]) cs_9_138 mk_X11_hasBit (by decide) rfl (Nat.le_of_ble_eq_true rfl) dX9_takeKnows_47 (does_X11_hasBit (σ 18 (V_X5_stepName_17 σ (σ 16 0))) (V_X5_stepName_19 (F_X5_stepName_17 σ (σ 16 0)) (σ 16 1)) SC (F_X5_stepName_19 (F_X5_stepName_17 σ (σ 16 0)) (σ 16 1))) ?_
      refine zRx.if_eqB (tgt := 59) dX9_takeKnows_50 (by decide) (fun c50 => ?_) (fun c50 => ?_)
      · refine zRx.aload_n 0 rfl rfl dX9_takeKnows_59 ?_
        refine zRx.getR (a := 16) (b := 18) fl_9_15 rfl rfl dX9_takeKnows_60 ?_
        refine zRx.iload_n 2 rfl rfl dX9_takeKnows_63 ?_
        refine zRx.dup2 rfl rfl dX9_takeKnows_64 ?_
        refine zRx.ialdv (v := σ 18 (V_X5_stepName_17 σ (σ 16 0))) ((congrFun (fr_F_X5_stepName_19 (F_X5_stepName_17 σ (σ 16 0)) (σ 16 1) (k := 18) (by decide)) _).trans (congrFun (fr_F_X5_stepName_17 σ (σ 16 0) (k := 18) (by decide)) _)) rfl (by omega) (by omega) dX9_takeKnows_65 ?_
        refine zRx.iconst ⟨by decide, by decide⟩ dX9_takeKnows_66 ?_
        refine zRx.iload_n 3 rfl rfl dX9_takeKnows_67 ?_
        refine zRx.ishl dX9_takeKnows_68 ?_
        refine zRx.ior dX9_takeKnows_69 ?_
        refine zRx.iast rfl (by omega) (by omega) dX9_takeKnows_70 ?_
        refine zRx.iconst ⟨by decide, by decide⟩ dX9_takeKnows_71 ?_
        exact zR.zret rfl ⟨by decide, by decide⟩ dX9_takeKnows_72 ⟨by unfold V_X9_takeKnows; rw [if_neg c15, if_neg c35, if_neg c50], by unfold F_X9_takeKnows; rw [if_neg c15, if_neg c35, if_neg c50]⟩
      · refine zRx.aload_n 1 rfl rfl dX9_takeKnows_53 ?_
        refine zRx.iconst ⟨by decide, by decide⟩ dX9_takeKnows_54 ?_
        refine zRx.cVi (w := .inl 0) (M := m_X5_refuse) (av := [.inl 3]) cv_9_108 mk_X5_refuse (by decide) (b := 3) rfl rfl (Nat.le_of_ble_eq_true rfl) dX9_takeKnows_55 (refuse_eq (F_X5_stepName_19 (F_X5_stepName_17 σ (σ 16 0)) (σ 16 1)) 3) ?_
        exact zR.zret rfl ⟨by decide, by decide⟩ dX9_takeKnows_58 ⟨by unfold V_X9_takeKnows; rw [if_neg c15, if_neg c35, if_pos c50], by unfold F_X9_takeKnows; rw [if_neg c15, if_neg c35, if_pos c50]⟩
    · refine zRx.iconst ⟨by decide, by decide⟩ dX9_takeKnows_38 ?_
      exact zR.zret rfl ⟨by decide, by decide⟩ dX9_takeKnows_39 ⟨by unfold V_X9_takeKnows; rw [if_neg c15, if_pos c35], by unfold F_X9_takeKnows; rw [if_neg c15, if_pos c35]⟩
  · refine zRx.iconst ⟨by decide, by decide⟩ dX9_takeKnows_18 ?_
    exact zR.zret rfl ⟨by decide, by decide⟩ dX9_takeKnows_19 ⟨by unfold V_X9_takeKnows; rw [if_pos c15], by unfold F_X9_takeKnows; rw [if_pos c15]⟩

theorem CI_F_X9_takeKnows {σ : zG}  (hI : CI σ) : CI ((F_X9_takeKnows σ )) := by
  unfold F_X9_takeKnows
  repeat' split
  all_goals first | exact (CI_F_X5_stepName_17 hI) | exact (CI_F_X5_stepName_19 (CI_F_X5_stepName_17 hI)) | exact (CI_zu (by decide) (CI_F_X5_stepName_19 (CI_F_X5_stepName_17 hI))) | exact (CI_zu ⟨fun h => absurd h.1 (by decide), fun h => absurd h.1 (by decide)⟩ (CI_F_X5_stepName_19 (CI_F_X5_stepName_17 hI)))

theorem CV_F_X9_takeKnows {σ : zG}  (hV : CV σ) : CV (F_X9_takeKnows σ ) := by
  have hV0 := id hV
  unfold CV at hV0
  unfold F_X9_takeKnows
  repeat' split
  all_goals first | exact (CV_F_X5_stepName_17 hV) | exact (CV_F_X5_stepName_19 (CV_F_X5_stepName_17 hV)) | exact (CV_zu (Or.inl (by decide)) (CV_F_X5_stepName_19 (CV_F_X5_stepName_17 hV)))

def V_X9_takeAsks (σ : zG)  : Int := if (V_X5_stepName_17 σ (σ 16 0)) = (-1) then 0 else (if (V_X5_stepName_19 (F_X5_stepName_17 σ (σ 16 0)) (σ 16 1)) = (-1) then 0 else (if (σ 25 (((V_X5_stepName_17 σ (σ 16 0)) * 12) + (V_X5_stepName_19 (F_X5_stepName_17 σ (σ 16 0)) (σ 16 1)))) = (-1) then (if (V_X5_stepNumber (F_X5_stepName_19 (F_X5_stepName_17 σ (σ 16 0)) (σ 16 1)) 0 99) = (-1) then 0 else 1) else 0))
def F_X9_takeAsks (σ : zG)  : zG := if (V_X5_stepName_17 σ (σ 16 0)) = (-1) then (F_X5_stepName_17 σ (σ 16 0)) else (if (V_X5_stepName_19 (F_X5_stepName_17 σ (σ 16 0)) (σ 16 1)) = (-1) then (F_X5_stepName_19 (F_X5_stepName_17 σ (σ 16 0)) (σ 16 1)) else (if (σ 25 (((V_X5_stepName_17 σ (σ 16 0)) * 12) + (V_X5_stepName_19 (F_X5_stepName_17 σ (σ 16 0)) (σ 16 1)))) = (-1) then (if (V_X5_stepNumber (F_X5_stepName_19 (F_X5_stepName_17 σ (σ 16 0)) (σ 16 1)) 0 99) = (-1) then (F_X5_stepNumber (F_X5_stepName_19 (F_X5_stepName_17 σ (σ 16 0)) (σ 16 1)) 0 99) else (zu (F_X5_stepNumber (F_X5_stepName_19 (F_X5_stepName_17 σ (σ 16 0)) (σ 16 1)) 0 99) 25 (((V_X5_stepName_17 σ (σ 16 0)) * 12) + (V_X5_stepName_19 (F_X5_stepName_17 σ (σ 16 0)) (σ 16 1))) (V_X5_stepNumber (F_X5_stepName_19 (F_X5_stepName_17 σ (σ 16 0)) (σ 16 1)) 0 99))) else (zu (F_X5_stepName_19 (F_X5_stepName_17 σ (σ 16 0)) (σ 16 1)) 3 7 3)))
theorem fr_F_X9_takeAsks (σ : zG)  {k : Nat} (h : k ∉ [3, 25]) : (F_X9_takeAsks σ ) k = σ k := by
  have ne : ∀ c ∈ [3, 25], k ≠ c := fun c hc e => h (e ▸ hc)
  have nk_F_X5_stepName_17 : k ∉ [3] := fun hm => h (by first | (revert hm; simp only [List.mem_cons, List.not_mem_nil, or_false]; omega) | (simp at hm))
  have nk_F_X5_stepName_19 : k ∉ [3] := fun hm => h (by first | (revert hm; simp only [List.mem_cons, List.not_mem_nil, or_false]; omega) | (simp at hm))
  have nk_F_X5_stepNumber : k ∉ [3] := fun hm => h (by first | (revert hm; simp only [List.mem_cons, List.not_mem_nil, or_false]; omega) | (simp at hm))
  unfold F_X9_takeAsks
  repeat' split
  all_goals first | rfl | simp only [zu_row _ _ _ (ne 3 (by decide)), zu_row _ _ _ (ne 25 (by decide)), fr_F_X5_stepName_17 (h := nk_F_X5_stepName_17), fr_F_X5_stepName_19 (h := nk_F_X5_stepName_19), fr_F_X5_stepNumber (h := nk_F_X5_stepNumber)]

set_option maxRecDepth 20000 in
theorem does_X9_takeAsks (σ : zG)  (hI : CI σ) (hV : CV σ) : zDo SC 3 m_X9_takeAsks [zP 16, zP 3] σ (zEq (some (.inl (V_X9_takeAsks σ ))) (F_X9_takeAsks σ )) := by
  refine zDo.intro mk_X9_takeAsks (Nat.le_of_ble_eq_true rfl) ?_
  obtain ⟨hp, hf, hs⟩ := id hV
  refine zRx.aload_n 1 rfl rfl dX9_takeAsks_0 ?_
  refine zRx.aload_n 0 rfl rfl dX9_takeAsks_1 ?_
  refine zRx.getR (a := 16) (b := 17) fl_9_9 rfl rfl dX9_takeAsks_2 ?_
  refine zRx.aload_n 0 rfl rfl dX9_takeAsks_5 ?_
  refine zRx.getIv (a := 16) (ji := 0) (v := σ 16 0) rfl fl_9_57 rfl rfl rfl dX9_takeAsks_6 ?_
  refine zRx.cVi (w := .inl (V_X5_stepName_17 σ (σ 16 0))) (M := m_X5_stepName) (av := [zP 17, .inl (σ 16 0)]) cv_9_134 mk_X5_stepName (by decide) (b := 3) rfl rfl (Nat.le_of_ble_eq_true rfl) dX9_takeAsks_9 (does_X5_stepName_17 σ (σ 16 0) hI) ?_
  have r2 := sn_r_17 σ (σ 16 0)
  refine zRx.istore_n (ls' := [(0, zP 16), (1, zP 3), (2, .inl (V_X5_stepName_17 σ (σ 16 0)))]) rfl rfl (by decide) dX9_takeAsks_12 ?_
  refine zRx.iload_n 2 rfl rfl dX9_takeAsks_13 ?_
  refine zRx.iconst ⟨by decide, by decide⟩ dX9_takeAsks_14 ?_
  refine zRx.icmp_ne (tgt := 20) dX9_takeAsks_15 (by decide) (fun c15 => ?_) (fun c15 => ?_)
  · refine zRx.aload_n 1 rfl rfl dX9_takeAsks_20 ?_
    refine zRx.aload_n 0 rfl rfl dX9_takeAsks_21 ?_
    refine zRx.getR (a := 16) (b := 19) fl_9_18 rfl rfl dX9_takeAsks_22 ?_
    refine zRx.aload_n 0 rfl rfl dX9_takeAsks_25 ?_
    refine zRx.getIv (a := 16) (ji := 1) (v := σ 16 1) (congrFun (fr_F_X5_stepName_17 σ (σ 16 0) (k := 16) (by decide)) _) fl_9_61 rfl rfl rfl dX9_takeAsks_26 ?_
    refine zRx.cVi (w := .inl (V_X5_stepName_19 (F_X5_stepName_17 σ (σ 16 0)) (σ 16 1))) (M := m_X5_stepName) (av := [zP 19, .inl (σ 16 1)]) cv_9_134 mk_X5_stepName (by decide) (b := 3) rfl rfl (Nat.le_of_ble_eq_true rfl) dX9_takeAsks_29 (does_X5_stepName_19 (F_X5_stepName_17 σ (σ 16 0)) (σ 16 1) (CI_F_X5_stepName_17 hI)) ?_
    have r3 := sn_r_19 (F_X5_stepName_17 σ (σ 16 0)) (σ 16 1)
    refine zRx.istore_n (ls' := [(0, zP 16), (1, zP 3), (2, .inl (V_X5_stepName_17 σ (σ 16 0))), (3, .inl (V_X5_stepName_19 (F_X5_stepName_17 σ (σ 16 0)) (σ 16 1)))]) rfl rfl (by decide) dX9_takeAsks_32 ?_
    refine zRx.iload_n 3 rfl rfl dX9_takeAsks_33 ?_
    refine zRx.iconst ⟨by decide, by decide⟩ dX9_takeAsks_34 ?_
    refine zRx.icmp_ne (tgt := 40) dX9_takeAsks_35 (by decide) (fun c35 => ?_) (fun c35 => ?_)
    · refine zRx.iload_n 2 rfl rfl dX9_takeAsks_40 ?_
      refine zRx.bipush ⟨by decide, by decide⟩ rfl dX9_takeAsks_41 ?_
      refine zRx.imul ⟨by omega, by omega⟩ dX9_takeAsks_43 ?_
      refine zRx.iload_n 3 rfl rfl dX9_takeAsks_44 ?_
      refine zRx.iadd ⟨by omega, by omega⟩ dX9_takeAsks_45 ?_
      refine zRx.istore (ls' := [(0, zP 16), (1, zP 3), (2, .inl (V_X5_stepName_17 σ (σ 16 0))), (3, .inl (V_X5_stepName_19 (F_X5_stepName_17 σ (σ 16 0)) (σ 16 1))), (4, .inl (((V_X5_stepName_17 σ (σ 16 0)) * 12) + (V_X5_stepName_19 (F_X5_stepName_17 σ (σ 16 0)) (σ 16 1))))]) rfl (by decide) dX9_takeAsks_46 ?_
      refine zRx.aload_n 0 rfl rfl dX9_takeAsks_48 ?_
      refine zRx.getR (a := 16) (b := 25) fl_9_36 rfl rfl dX9_takeAsks_49 ?_
      refine zRx.iload 4 rfl dX9_takeAsks_52 ?_
      refine zRx.ialdv (v := σ 25 (((V_X5_stepName_17 σ (σ 16 0)) * 12) + (V_X5_stepName_19 (F_X5_stepName_17 σ (σ 16 0)) (σ 16 1)))) ((congrFun (fr_F_X5_stepName_19 (F_X5_stepName_17 σ (σ 16 0)) (σ 16 1) (k := 25) (by decide)) _).trans (congrFun (fr_F_X5_stepName_17 σ (σ 16 0) (k := 25) (by decide)) _)) rfl (by omega) (by omega) dX9_takeAsks_54 ?_
      refine zRx.iconst ⟨by decide, by decide⟩ dX9_takeAsks_55 ?_
      refine zRx.icmp_eq (tgt := 65) dX9_takeAsks_56 (by decide) (fun c56 => ?_) (fun c56 => ?_)
      · refine zRx.aload_n 1 rfl rfl dX9_takeAsks_65 ?_
        refine zRx.iconst ⟨by decide, by decide⟩ dX9_takeAsks_66 ?_
        refine zRx.bipush ⟨by decide, by decide⟩ rfl dX9_takeAsks_67 ?_
        refine zRx.cVi (w := .inl (V_X5_stepNumber (F_X5_stepName_19 (F_X5_stepName_17 σ (σ 16 0)) (σ 16 1)) 0 99)) (M := m_X5_stepNumber) (av := [.inl 0, .inl 99]) cv_9_130 mk_X5_stepNumber (by decide) (b := 3) rfl rfl (Nat.le_of_ble_eq_true rfl) dX9_takeAsks_69 (does_X5_stepNumber (F_X5_stepName_19 (F_X5_stepName_17 σ (σ 16 0)) (σ 16 1)) 0 99 (CI_F_X5_stepName_19 (CI_F_X5_stepName_17 hI))) ?_
        refine zRx.istore (ls' := [(0, zP 16), (1, zP 3), (2, .inl (V_X5_stepName_17 σ (σ 16 0))), (3, .inl (V_X5_stepName_19 (F_X5_stepName_17 σ (σ 16 0)) (σ 16 1))), (4, .inl (((V_X5_stepName_17 σ (σ 16 0)) * 12) + (V_X5_stepName_19 (F_X5_stepName_17 σ (σ 16 0)) (σ 16 1)))), (5, .inl (V_X5_stepNumber (F_X5_stepName_19 (F_X5_stepName_17 σ (σ 16 0)) (σ 16 1)) 0 99))]) rfl (by decide) dX9_takeAsks_72 ?_
        refine zRx.iload 5 rfl dX9_takeAsks_74 ?_
        refine zRx.iconst ⟨by decide, by decide⟩ dX9_takeAsks_76 ?_
        refine zRx.icmp_ne (tgt := 82) dX9_takeAsks_77 (by decide) (fun c77 => ?_) (fun c77 => ?_)
        · refine zRx.aload_n 0 rfl rfl dX9_takeAsks_82 ?_
          refine zRx.getR (a := 16) (b := 25) fl_9_36 rfl rfl dX9_takeAsks_83 ?_
          refine zRx.iload 4 rfl dX9_takeAsks_86 ?_
          refine zRx.iload 5 rfl dX9_takeAsks_88 ?_
          refine zRx.iast rfl (by omega) (by omega) dX9_takeAsks_90 ?_
          refine zRx.iconst ⟨by decide, by decide⟩ dX9_takeAsks_91 ?_
          exact zR.zret rfl ⟨by decide, by decide⟩ dX9_takeAsks_92 ⟨by unfold V_X9_takeAsks; rw [if_neg c15, if_neg c35, if_pos c56, if_neg c77], by unfold F_X9_takeAsks; rw [if_neg c15, if_neg c35, if_pos c56, if_neg c77]⟩
        · refine zRx.iconst ⟨by decide, by decide⟩ dX9_takeAsks_80 ?_
          exact zR.zret rfl ⟨by decide, by decide⟩ dX9_takeAsks_81 ⟨by unfold V_X9_takeAsks; rw [if_neg c15, if_neg c35, if_pos c56, if_pos c77], by unfold F_X9_takeAsks; rw [if_neg c15, if_neg c35, if_pos c56, if_pos c77]⟩
      · refine zRx.aload_n 1 rfl rfl dX9_takeAsks_59 ?_
        refine zRx.iconst ⟨by decide, by decide⟩ dX9_takeAsks_60 ?_
        refine zRx.cVi (w := .inl 0) (M := m_X5_refuse) (av := [.inl 3]) cv_9_108 mk_X5_refuse (by decide) (b := 3) rfl rfl (Nat.le_of_ble_eq_true rfl) dX9_takeAsks_61 (refuse_eq (F_X5_stepName_19 (F_X5_stepName_17 σ (σ 16 0)) (σ 16 1)) 3) ?_
        exact zR.zret rfl ⟨by decide, by decide⟩ dX9_takeAsks_64 ⟨by unfold V_X9_takeAsks; rw [if_neg c15, if_neg c35, if_neg c56], by unfold F_X9_takeAsks; rw [if_neg c15, if_neg c35, if_neg c56]⟩
    · refine zRx.iconst ⟨by decide, by decide⟩ dX9_takeAsks_38 ?_
      exact zR.zret rfl ⟨by decide, by decide⟩ dX9_takeAsks_39 ⟨by unfold V_X9_takeAsks; rw [if_neg c15, if_pos c35], by unfold F_X9_takeAsks; rw [if_neg c15, if_pos c35]⟩
  · refine zRx.iconst ⟨by decide, by decide⟩ dX9_takeAsks_18 ?_
    exact zR.zret rfl ⟨by decide, by decide⟩ dX9_takeAsks_19 ⟨by unfold V_X9_takeAsks; rw [if_pos c15], by unfold F_X9_takeAsks; rw [if_pos c15]⟩

theorem CI_F_X9_takeAsks {σ : zG}  (hI : CI σ) : CI ((F_X9_takeAsks σ )) := by
  unfold F_X9_takeAsks
  repeat' split
  all_goals first | exact (CI_F_X5_stepName_17 hI) | exact (CI_F_X5_stepName_19 (CI_F_X5_stepName_17 hI)) | exact (CI_F_X5_stepNumber (CI_F_X5_stepName_19 (CI_F_X5_stepName_17 hI))) | exact (CI_zu ⟨fun h => absurd h.1 (by decide), fun h => absurd h.1 (by decide)⟩ (CI_F_X5_stepNumber (CI_F_X5_stepName_19 (CI_F_X5_stepName_17 hI)))) | exact (CI_zu (by decide) (CI_F_X5_stepName_19 (CI_F_X5_stepName_17 hI)))

theorem CV_F_X9_takeAsks {σ : zG}  (hV : CV σ) : CV (F_X9_takeAsks σ ) := by
  have hV0 := id hV
  unfold CV at hV0
  unfold F_X9_takeAsks
  repeat' split
  all_goals first | exact (CV_F_X5_stepName_17 hV) | exact (CV_F_X5_stepName_19 (CV_F_X5_stepName_17 hV)) | exact (CV_F_X5_stepNumber (CV_F_X5_stepName_19 (CV_F_X5_stepName_17 hV))) | exact (CV_zu (Or.inl (by decide)) (CV_F_X5_stepNumber (CV_F_X5_stepName_19 (CV_F_X5_stepName_17 hV)))) | exact (CV_zu (Or.inl (by decide)) (CV_F_X5_stepName_19 (CV_F_X5_stepName_17 hV)))

def V_X9_takeSetting (σ : zG) (w : Int) : Int := if hb (σ 16 3) w then 0 else (if (V_X5_stepNumber σ (zset 1 w.toNat) (zset 2 w.toNat)) = (-1) then 0 else 1)
def F_X9_takeSetting (σ : zG) (w : Int) : zG := if hb (σ 16 3) w then (zu σ 3 7 3) else (if (V_X5_stepNumber σ (zset 1 w.toNat) (zset 2 w.toNat)) = (-1) then (F_X5_stepNumber σ (zset 1 w.toNat) (zset 2 w.toNat)) else (zu (zu (F_X5_stepNumber σ (zset 1 w.toNat) (zset 2 w.toNat)) 16 3 (bor (σ 16 3) (bshl 1 w))) 26 w (V_X5_stepNumber σ (zset 1 w.toNat) (zset 2 w.toNat))))
theorem fr_F_X9_takeSetting (σ : zG) (w : Int) {k : Nat} (h : k ∉ [3, 16, 26]) : (F_X9_takeSetting σ w) k = σ k := by
  have ne : ∀ c ∈ [3, 16, 26], k ≠ c := fun c hc e => h (e ▸ hc)
  have nk_F_X5_stepNumber : k ∉ [3] := fun hm => h (by first | (revert hm; simp only [List.mem_cons, List.not_mem_nil, or_false]; omega) | (simp at hm))
  unfold F_X9_takeSetting
  repeat' split
  all_goals first | rfl | simp only [zu_row _ _ _ (ne 3 (by decide)), zu_row _ _ _ (ne 16 (by decide)), zu_row _ _ _ (ne 26 (by decide)), fr_F_X5_stepNumber (h := nk_F_X5_stepNumber)]

set_option maxRecDepth 20000 in
theorem does_X9_takeSetting (σ : zG) (w : Int) (hI : CI σ) (hw : 0 ≤ w ∧ w < 5) : zDo SC 3 m_X9_takeSetting [zP 16, zP 3, .inl w] σ (zEq (some (.inl (V_X9_takeSetting σ w))) (F_X9_takeSetting σ w)) := by
  refine zDo.intro mk_X9_takeSetting (Nat.le_of_ble_eq_true rfl) ?_
  refine zRx.aload_n 0 rfl rfl dX9_takeSetting_0 ?_
  refine zRx.getIv (a := 16) (ji := 3) (v := σ 16 3) rfl fl_9_67 rfl rfl rfl dX9_takeSetting_1 ?_
  refine zRx.iload_n 2 rfl rfl dX9_takeSetting_4 ?_
  refine zRx.cSi (w := .inl (b2 (hb (σ 16 3) w))) (M := m_X11_hasBit) (av := [.inl (σ 16 3), .inl w]) cs_9_138 mk_X11_hasBit (by decide) rfl (Nat.le_of_ble_eq_true rfl) dX9_takeSetting_5 (does_X11_hasBit (σ 16 3) w SC σ) ?_
  refine zRx.if_eqB (tgt := 17) dX9_takeSetting_8 (by decide) (fun c8 => ?_) (fun c8 => ?_)
  · refine zRx.aload_n 1 rfl rfl dX9_takeSetting_17 ?_
    refine zRx.gets (a := 1) (by decide) sl_9_142 dX9_takeSetting_18 ?_
    refine zRx.iload_n 2 rfl rfl dX9_takeSetting_21 ?_
    refine zRx.sld (by decide) (by omega) (by omega) dX9_takeSetting_22 ?_
    refine zRx.gets (a := 2) (by decide) sl_9_145 dX9_takeSetting_23 ?_
    refine zRx.iload_n 2 rfl rfl dX9_takeSetting_26 ?_
    refine zRx.sld (by decide) (by omega) (by omega) dX9_takeSetting_27 ?_
    refine zRx.cVi (w := .inl (V_X5_stepNumber σ (zset 1 w.toNat) (zset 2 w.toNat))) (M := m_X5_stepNumber) (av := [.inl (zset 1 w.toNat), .inl (zset 2 w.toNat)]) cv_9_130 mk_X5_stepNumber (by decide) (b := 3) rfl rfl (Nat.le_of_ble_eq_true rfl) dX9_takeSetting_28 (does_X5_stepNumber σ (zset 1 w.toNat) (zset 2 w.toNat) hI) ?_
    refine zRx.istore_n (ls' := [(0, zP 16), (1, zP 3), (2, .inl w), (3, .inl (V_X5_stepNumber σ (zset 1 w.toNat) (zset 2 w.toNat)))]) rfl rfl (by decide) dX9_takeSetting_31 ?_
    refine zRx.iload_n 3 rfl rfl dX9_takeSetting_32 ?_
    refine zRx.iconst ⟨by decide, by decide⟩ dX9_takeSetting_33 ?_
    refine zRx.icmp_ne (tgt := 39) dX9_takeSetting_34 (by decide) (fun c34 => ?_) (fun c34 => ?_)
    · refine zRx.aload_n 0 rfl rfl dX9_takeSetting_39 ?_
      refine zRx.dup rfl dX9_takeSetting_40 ?_
      refine zRx.getIv (a := 16) (ji := 3) (v := σ 16 3) (congrFun (fr_F_X5_stepNumber σ (zset 1 w.toNat) (zset 2 w.toNat) (k := 16) (by decide)) _) fl_9_67 rfl rfl rfl dX9_takeSetting_41 ?_
      refine zRx.iconst ⟨by decide, by decide⟩ dX9_takeSetting_44 ?_
      refine zRx.iload_n 2 rfl rfl dX9_takeSetting_45 ?_
      refine zRx.ishl dX9_takeSetting_46 ?_
      refine zRx.ior dX9_takeSetting_47 ?_
      refine zRx.putI (a := 16) (ji := 3) pl_9_67 rfl rfl rfl dX9_takeSetting_48 ?_
      refine zRx.aload_n 0 rfl rfl dX9_takeSetting_51 ?_
      refine zRx.getR (a := 16) (b := 26) fl_9_39 rfl rfl dX9_takeSetting_52 ?_
      refine zRx.iload_n 2 rfl rfl dX9_takeSetting_55 ?_
      refine zRx.iload_n 3 rfl rfl dX9_takeSetting_56 ?_
      refine zRx.iast rfl (by omega) (by omega) dX9_takeSetting_57 ?_
      refine zRx.iconst ⟨by decide, by decide⟩ dX9_takeSetting_58 ?_
      exact zR.zret rfl ⟨by decide, by decide⟩ dX9_takeSetting_59 ⟨by unfold V_X9_takeSetting; rw [if_neg c8, if_neg c34], by unfold F_X9_takeSetting; rw [if_neg c8, if_neg c34]⟩
    · refine zRx.iconst ⟨by decide, by decide⟩ dX9_takeSetting_37 ?_
      exact zR.zret rfl ⟨by decide, by decide⟩ dX9_takeSetting_38 ⟨by unfold V_X9_takeSetting; rw [if_neg c8, if_pos c34], by unfold F_X9_takeSetting; rw [if_neg c8, if_pos c34]⟩
  · refine zRx.aload_n 1 rfl rfl dX9_takeSetting_11 ?_
    refine zRx.iconst ⟨by decide, by decide⟩ dX9_takeSetting_12 ?_
    refine zRx.cVi (w := .inl 0) (M := m_X5_refuse) (av := [.inl 3]) cv_9_108 mk_X5_refuse (by decide) (b := 3) rfl rfl (Nat.le_of_ble_eq_true rfl) dX9_takeSetting_13 (refuse_eq σ 3) ?_
    exact zR.zret rfl ⟨by decide, by decide⟩ dX9_takeSetting_16 ⟨by unfold V_X9_takeSetting; rw [if_pos c8], by unfold F_X9_takeSetting; rw [if_pos c8]⟩

theorem CI_F_X9_takeSetting {σ : zG} {w : Int} (hI : CI σ) : CI ((F_X9_takeSetting σ w)) := by
  unfold F_X9_takeSetting
  repeat' split
  all_goals first | exact (CI_zu (by decide) hI) | exact (CI_F_X5_stepNumber hI) | exact (CI_zu ⟨fun h => absurd h.1 (by decide), fun h => absurd h.1 (by decide)⟩ (CI_zu ⟨fun h => absurd h.1 (by decide), fun h => absurd h.1 (by decide)⟩ (CI_F_X5_stepNumber hI)))

theorem CV_F_X9_takeSetting {σ : zG} {w : Int} (hV : CV σ) : CV (F_X9_takeSetting σ w) := by
  have hV0 := id hV
  unfold CV at hV0
  unfold F_X9_takeSetting
  repeat' split
  all_goals first | exact (CV_zu (Or.inl (by decide)) hV) | exact (CV_F_X5_stepNumber hV) | exact (CV_zu (Or.inl (by decide)) (CV_zu (Or.inr (by decide)) (CV_F_X5_stepNumber hV)))

def L_X9_takeSince_22  : Nat → Int → Int → Int → zG → Int × zG
  | 0, _, _, _, σ => (0, σ)
  | n + 1, nd, gi, q, σ => if 3 ≤ q then (1, zu (zu (zu σ 23 (σ 16 2) nd) 24 (σ 16 2) gi) 16 2 ((σ 16 2) + 1)) else (if (V_X5_stepName_19 σ (σ 16 1)) = (-1) then (0, F_X5_stepName_19 σ (σ 16 1)) else (if hb nd (V_X5_stepName_19 σ (σ 16 1)) then (0, zu (F_X5_stepName_19 σ (σ 16 1)) 3 7 3) else (if 2 ≤ q then (L_X9_takeSince_22  n nd (bshl 1 (V_X5_stepName_19 σ (σ 16 1))) (q + 1) (F_X5_stepName_19 σ (σ 16 1))) else (L_X9_takeSince_22  n (bor nd (bshl 1 (V_X5_stepName_19 σ (σ 16 1)))) gi (q + 1) (F_X5_stepName_19 σ (σ 16 1))))))
theorem fr_L_X9_takeSince_22   (n : Nat) (nd gi q : Int) (σ : zG) {k : Nat} (h : k ∉ [3, 16, 23, 24]) : (L_X9_takeSince_22  n nd gi q σ).2 k = σ k := by
  induction n generalizing nd gi q σ with
  | zero => rfl
  | succ n ih =>
    have ne : ∀ c ∈ [3, 16, 23, 24], k ≠ c := fun c hc e => h (e ▸ hc)
    have nk_F_X5_stepName_19 : k ∉ [3] := fun hm => h (by first | (revert hm; simp only [List.mem_cons, List.not_mem_nil, or_false]; omega) | (simp at hm))
    rw [L_X9_takeSince_22]
    repeat' split
    all_goals first | rfl | simp only [zu_row _ _ _ (ne 3 (by decide)), zu_row _ _ _ (ne 16 (by decide)), zu_row _ _ _ (ne 23 (by decide)), zu_row _ _ _ (ne 24 (by decide)), fr_F_X5_stepName_19 (h := nk_F_X5_stepName_19), ih]

set_option maxRecDepth 20000 in
theorem loop_X9_takeSince_22   : ∀ (n : Nat) (nd gi q : Int) (σ : zG), 0 ≤ q → CI σ → CV σ → σ 16 2 ≤ 7 → (3 - q).toNat < n → zR SC 3 m_X9_takeSince 22 [(0, zP 16), (1, zP 3), (2, .inl nd), (3, .inl gi), (4, .inl q)] [] σ (zEq (some (.inl (L_X9_takeSince_22  n nd gi q σ).1)) (L_X9_takeSince_22  n nd gi q σ).2) := by
  intro n
  induction n with
  | zero => intro nd gi q σ h0 hI hV h7 hmz; exact absurd hmz (Nat.not_lt_zero _)
  | succ n ih =>
    intro nd gi q σ h0 hI hV h7 hmz
    obtain ⟨hp, hf, hs⟩ := id hV
    refine zRx.iload 4 rfl dX9_takeSince_22 ?_
    refine zRx.iconst ⟨by decide, by decide⟩ dX9_takeSince_24 ?_
    refine zRx.icmp_ge (tgt := 92) dX9_takeSince_25 (by decide) (fun c25 => ?_) (fun c25 => ?_)
    · refine zRx.aload_n 0 rfl rfl dX9_takeSince_92 ?_
      refine zRx.getR (a := 16) (b := 23) fl_9_30 rfl rfl dX9_takeSince_93 ?_
      refine zRx.aload_n 0 rfl rfl dX9_takeSince_96 ?_
      refine zRx.getIv (a := 16) (ji := 2) (v := σ 16 2) rfl fl_9_64 rfl rfl rfl dX9_takeSince_97 ?_
      refine zRx.iload_n 2 rfl rfl dX9_takeSince_100 ?_
      refine zRx.iast rfl (by omega) (by omega) dX9_takeSince_101 ?_
      refine zRx.aload_n 0 rfl rfl dX9_takeSince_102 ?_
      refine zRx.getR (a := 16) (b := 24) fl_9_33 rfl rfl dX9_takeSince_103 ?_
      refine zRx.aload_n 0 rfl rfl dX9_takeSince_106 ?_
      refine zRx.getIv (a := 16) (ji := 2) (v := σ 16 2) (zu_ne _ _ _ _ (by decide)) fl_9_64 rfl rfl rfl dX9_takeSince_107 ?_
      refine zRx.iload_n 3 rfl rfl dX9_takeSince_110 ?_
      refine zRx.iast rfl (by omega) (by omega) dX9_takeSince_111 ?_
      refine zRx.aload_n 0 rfl rfl dX9_takeSince_112 ?_
      refine zRx.dup rfl dX9_takeSince_113 ?_
      refine zRx.getIv (a := 16) (ji := 2) (v := σ 16 2) ((zu_ne _ _ _ _ (by decide)).trans (zu_ne _ _ _ _ (by decide))) fl_9_64 rfl rfl rfl dX9_takeSince_114 ?_
      refine zRx.iconst ⟨by decide, by decide⟩ dX9_takeSince_117 ?_
      refine zRx.iadd ⟨by omega, by omega⟩ dX9_takeSince_118 ?_
      refine zRx.putI (a := 16) (ji := 2) pl_9_64 rfl rfl rfl dX9_takeSince_119 ?_
      refine zRx.iconst ⟨by decide, by decide⟩ dX9_takeSince_122 ?_
      exact zR.zret rfl ⟨by decide, by decide⟩ dX9_takeSince_123 (by have he : L_X9_takeSince_22  (n + 1) nd gi q σ = (1, zu (zu (zu σ 23 (σ 16 2) nd) 24 (σ 16 2) gi) 16 2 ((σ 16 2) + 1)) := (by rw [L_X9_takeSince_22, if_pos c25]); rw [he]; exact ⟨rfl, rfl⟩)
    · refine zRx.aload_n 1 rfl rfl dX9_takeSince_28 ?_
      refine zRx.aload_n 0 rfl rfl dX9_takeSince_29 ?_
      refine zRx.getR (a := 16) (b := 19) fl_9_18 rfl rfl dX9_takeSince_30 ?_
      refine zRx.aload_n 0 rfl rfl dX9_takeSince_33 ?_
      refine zRx.getIv (a := 16) (ji := 1) (v := σ 16 1) rfl fl_9_61 rfl rfl rfl dX9_takeSince_34 ?_
      refine zRx.cVi (w := .inl (V_X5_stepName_19 σ (σ 16 1))) (M := m_X5_stepName) (av := [zP 19, .inl (σ 16 1)]) cv_9_134 mk_X5_stepName (by decide) (b := 3) rfl rfl (Nat.le_of_ble_eq_true rfl) dX9_takeSince_37 (does_X5_stepName_19 σ (σ 16 1) hI) ?_
      refine zRx.istore (ls' := [(0, zP 16), (1, zP 3), (2, .inl nd), (3, .inl gi), (4, .inl q), (5, .inl (V_X5_stepName_19 σ (σ 16 1)))]) rfl (by decide) dX9_takeSince_40 ?_
      refine zRx.iload 5 rfl dX9_takeSince_42 ?_
      refine zRx.iconst ⟨by decide, by decide⟩ dX9_takeSince_44 ?_
      refine zRx.icmp_ne (tgt := 50) dX9_takeSince_45 (by decide) (fun c45 => ?_) (fun c45 => ?_)
      · refine zRx.iload_n 2 rfl rfl dX9_takeSince_50 ?_
        refine zRx.iload 5 rfl dX9_takeSince_51 ?_
        refine zRx.cSi (w := .inl (b2 (hb nd (V_X5_stepName_19 σ (σ 16 1))))) (M := m_X11_hasBit) (av := [.inl nd, .inl (V_X5_stepName_19 σ (σ 16 1))]) cs_9_138 mk_X11_hasBit (by decide) rfl (Nat.le_of_ble_eq_true rfl) dX9_takeSince_53 (does_X11_hasBit nd (V_X5_stepName_19 σ (σ 16 1)) SC (F_X5_stepName_19 σ (σ 16 1))) ?_
        refine zRx.if_eqB (tgt := 65) dX9_takeSince_56 (by decide) (fun c56 => ?_) (fun c56 => ?_)
        · refine zRx.iload 4 rfl dX9_takeSince_65 ?_
          refine zRx.iconst ⟨by decide, by decide⟩ dX9_takeSince_67 ?_
          refine zRx.icmp_ge (tgt := 81) dX9_takeSince_68 (by decide) (fun c68 => ?_) (fun c68 => ?_)
          · refine zRx.iconst ⟨by decide, by decide⟩ dX9_takeSince_81 ?_
            refine zRx.iload 5 rfl dX9_takeSince_82 ?_
            refine zRx.ishl dX9_takeSince_84 ?_
            refine zRx.istore_n (ls' := [(0, zP 16), (1, zP 3), (2, .inl nd), (3, .inl (bshl 1 (V_X5_stepName_19 σ (σ 16 1)))), (4, .inl q), (5, .inl (V_X5_stepName_19 σ (σ 16 1)))]) rfl rfl (by decide) dX9_takeSince_85 ?_
            refine zRx.iinc (n := 1) (ls' := [(0, zP 16), (1, zP 3), (2, .inl nd), (3, .inl (bshl 1 (V_X5_stepName_19 σ (σ 16 1)))), (4, .inl (q + 1)), (5, .inl (V_X5_stepName_19 σ (σ 16 1)))]) 4 rfl ⟨by omega, by omega⟩ rfl (by decide) dX9_takeSince_86 ?_
            refine zRx.goto (tgt := 22) dX9_takeSince_89 (by decide) ?_
            refine zRx.pick [0, 1, 2, 3, 4] (ls' := [(0, zP 16), (1, zP 3), (2, .inl nd), (3, .inl (bshl 1 (V_X5_stepName_19 σ (σ 16 1)))), (4, .inl (q + 1))]) rfl ?_
            have he : L_X9_takeSince_22  (n + 1) nd gi q σ = L_X9_takeSince_22  n nd (bshl 1 (V_X5_stepName_19 σ (σ 16 1))) (q + 1) (F_X5_stepName_19 σ (σ 16 1)) := by rw [L_X9_takeSince_22, if_neg (Int.not_le.mpr c25), if_neg c45, if_neg c56, if_pos c68]
            rw [he]
            exact ih nd (bshl 1 (V_X5_stepName_19 σ (σ 16 1))) (q + 1) (F_X5_stepName_19 σ (σ 16 1)) (by omega) (CI_F_X5_stepName_19 hI) (CV_F_X5_stepName_19 hV) (by have e9 : (F_X5_stepName_19 σ (σ 16 1)) 16 2 = σ 16 2 := (congrFun (fr_F_X5_stepName_19 σ (σ 16 1) (k := 16) (by decide)) _); omega) (by omega)
          · refine zRx.iload_n 2 rfl rfl dX9_takeSince_71 ?_
            refine zRx.iconst ⟨by decide, by decide⟩ dX9_takeSince_72 ?_
            refine zRx.iload 5 rfl dX9_takeSince_73 ?_
            refine zRx.ishl dX9_takeSince_75 ?_
            refine zRx.ior dX9_takeSince_76 ?_
            refine zRx.istore_n (ls' := [(0, zP 16), (1, zP 3), (2, .inl (bor nd (bshl 1 (V_X5_stepName_19 σ (σ 16 1))))), (3, .inl gi), (4, .inl q), (5, .inl (V_X5_stepName_19 σ (σ 16 1)))]) rfl rfl (by decide) dX9_takeSince_77 ?_
            refine zRx.goto (tgt := 86) dX9_takeSince_78 (by decide) ?_
            refine zRx.iinc (n := 1) (ls' := [(0, zP 16), (1, zP 3), (2, .inl (bor nd (bshl 1 (V_X5_stepName_19 σ (σ 16 1))))), (3, .inl gi), (4, .inl (q + 1)), (5, .inl (V_X5_stepName_19 σ (σ 16 1)))]) 4 rfl ⟨by omega, by omega⟩ rfl (by decide) dX9_takeSince_86 ?_
            refine zRx.goto (tgt := 22) dX9_takeSince_89 (by decide) ?_
            refine zRx.pick [0, 1, 2, 3, 4] (ls' := [(0, zP 16), (1, zP 3), (2, .inl (bor nd (bshl 1 (V_X5_stepName_19 σ (σ 16 1))))), (3, .inl gi), (4, .inl (q + 1))]) rfl ?_
            have he : L_X9_takeSince_22  (n + 1) nd gi q σ = L_X9_takeSince_22  n (bor nd (bshl 1 (V_X5_stepName_19 σ (σ 16 1)))) gi (q + 1) (F_X5_stepName_19 σ (σ 16 1)) := by rw [L_X9_takeSince_22, if_neg (Int.not_le.mpr c25), if_neg c45, if_neg c56, if_neg (Int.not_le.mpr c68)]
            rw [he]
            exact ih (bor nd (bshl 1 (V_X5_stepName_19 σ (σ 16 1)))) gi (q + 1) (F_X5_stepName_19 σ (σ 16 1)) (by omega) (CI_F_X5_stepName_19 hI) (CV_F_X5_stepName_19 hV) (by have e9 : (F_X5_stepName_19 σ (σ 16 1)) 16 2 = σ 16 2 := (congrFun (fr_F_X5_stepName_19 σ (σ 16 1) (k := 16) (by decide)) _); omega) (by omega)
        · refine zRx.aload_n 1 rfl rfl dX9_takeSince_59 ?_
          refine zRx.iconst ⟨by decide, by decide⟩ dX9_takeSince_60 ?_
          refine zRx.cVi (w := .inl 0) (M := m_X5_refuse) (av := [.inl 3]) cv_9_108 mk_X5_refuse (by decide) (b := 3) rfl rfl (Nat.le_of_ble_eq_true rfl) dX9_takeSince_61 (refuse_eq (F_X5_stepName_19 σ (σ 16 1)) 3) ?_
          exact zR.zret rfl ⟨by decide, by decide⟩ dX9_takeSince_64 (by have he : L_X9_takeSince_22  (n + 1) nd gi q σ = (0, zu (F_X5_stepName_19 σ (σ 16 1)) 3 7 3) := (by rw [L_X9_takeSince_22, if_neg (Int.not_le.mpr c25), if_neg c45, if_pos c56]); rw [he]; exact ⟨rfl, rfl⟩)
      · refine zRx.iconst ⟨by decide, by decide⟩ dX9_takeSince_48 ?_
        exact zR.zret rfl ⟨by decide, by decide⟩ dX9_takeSince_49 (by have he : L_X9_takeSince_22  (n + 1) nd gi q σ = (0, F_X5_stepName_19 σ (σ 16 1)) := (by rw [L_X9_takeSince_22, if_neg (Int.not_le.mpr c25), if_pos c45]); rw [he]; exact ⟨rfl, rfl⟩)
def R_X9_takeSince (σ : zG)  : Int × zG := if (σ 16 2) < 8 then (L_X9_takeSince_22  10 0 0 0 σ) else (0, zu σ 3 7 4)
theorem fr_R_X9_takeSince (σ : zG)  {k : Nat} (h : k ∉ [3, 16, 23, 24]) : (R_X9_takeSince σ ).2 k = σ k := by
  have ne : ∀ c ∈ [3, 16, 23, 24], k ≠ c := fun c hc e => h (e ▸ hc)
  have nl_L_X9_takeSince_22 : k ∉ [3, 16, 23, 24] := fun hm => h (by first | (revert hm; simp only [List.mem_cons, List.not_mem_nil, or_false]; omega) | (simp at hm))
  unfold R_X9_takeSince
  repeat' split
  all_goals first | rfl | simp only [zu_row _ _ _ (ne 3 (by decide)), zu_row _ _ _ (ne 16 (by decide)), zu_row _ _ _ (ne 23 (by decide)), zu_row _ _ _ (ne 24 (by decide)), fr_L_X9_takeSince_22 (h := nl_L_X9_takeSince_22)]

set_option maxRecDepth 20000 in
theorem does_X9_takeSince (σ : zG)  (hI : CI σ) (hV : CV σ)  : zDo SC 3 m_X9_takeSince [zP 16, zP 3] σ (zEq (some (.inl (R_X9_takeSince σ ).1)) (R_X9_takeSince σ ).2) := by
  refine zDo.intro mk_X9_takeSince (Nat.le_of_ble_eq_true rfl) ?_
  obtain ⟨hp, hf, hs⟩ := id hV
  refine zRx.aload_n 0 rfl rfl dX9_takeSince_0 ?_
  refine zRx.getIv (a := 16) (ji := 2) (v := σ 16 2) rfl fl_9_64 rfl rfl rfl dX9_takeSince_1 ?_
  refine zRx.bipush ⟨by decide, by decide⟩ rfl dX9_takeSince_4 ?_
  refine zRx.icmp_lt (tgt := 15) dX9_takeSince_6 (by decide) (fun c6 => ?_) (fun c6 => ?_)
  · refine zRx.iconst ⟨by decide, by decide⟩ dX9_takeSince_15 ?_
    refine zRx.istore_n (ls' := [(0, zP 16), (1, zP 3), (2, .inl 0)]) rfl rfl (by decide) dX9_takeSince_16 ?_
    refine zRx.iconst ⟨by decide, by decide⟩ dX9_takeSince_17 ?_
    refine zRx.istore_n (ls' := [(0, zP 16), (1, zP 3), (2, .inl 0), (3, .inl 0)]) rfl rfl (by decide) dX9_takeSince_18 ?_
    refine zRx.iconst ⟨by decide, by decide⟩ dX9_takeSince_19 ?_
    refine zRx.istore (ls' := [(0, zP 16), (1, zP 3), (2, .inl 0), (3, .inl 0), (4, .inl 0)]) rfl (by decide) dX9_takeSince_20 ?_
    have he : R_X9_takeSince σ  = L_X9_takeSince_22  10 0 0 0 σ := by rw [R_X9_takeSince, if_pos c6]
    rw [he]
    exact loop_X9_takeSince_22    10 0 0 0 σ (by omega) hI hV (by omega) (by omega)
  · refine zRx.aload_n 1 rfl rfl dX9_takeSince_9 ?_
    refine zRx.iconst ⟨by decide, by decide⟩ dX9_takeSince_10 ?_
    refine zRx.cVi (w := .inl 0) (M := m_X5_refuse) (av := [.inl 4]) cv_9_108 mk_X5_refuse (by decide) (b := 3) rfl rfl (Nat.le_of_ble_eq_true rfl) dX9_takeSince_11 (refuse_eq σ 4) ?_
    exact zR.zret rfl ⟨by decide, by decide⟩ dX9_takeSince_14 (by have he : R_X9_takeSince σ  = (0, zu σ 3 7 4) := (by rw [R_X9_takeSince, if_neg (Int.not_lt.mpr c6)]); rw [he]; exact ⟨rfl, rfl⟩)

theorem sinceC_K : ∀ (n : Nat) (nd gi q : Int) (σ : zG), CI σ → CV σ → σ 16 2 ≤ 7 → CI (L_X9_takeSince_22 n nd gi q σ).2 ∧ CV (L_X9_takeSince_22 n nd gi q σ).2
  | 0, nd, gi, q, σ, hI, hV, h7 => ⟨hI, hV⟩
  | n + 1, nd, gi, q, σ, hI, hV, h7 => by
    have hV0 := id hV
    unfold CV at hV0
    have i1 : CI (F_X5_stepName_19 σ (σ 16 1)) := CI_F_X5_stepName_19 hI
    have i2 : CV (F_X5_stepName_19 σ (σ 16 1)) := CV_F_X5_stepName_19 hV
    have i3 : (F_X5_stepName_19 σ (σ 16 1)) 16 2 ≤ 7 := by rw [fr_F_X5_stepName_19 _ _ (by decide)]; exact h7
    rw [L_X9_takeSince_22]
    repeat' split
    all_goals first
      | exact sinceC_K n _ _ _ _ i1 i2 i3
      | exact ⟨i1, i2⟩
      | exact ⟨CI_zu (by decide) i1, CV_zu (Or.inl (by decide)) i2⟩
      | exact ⟨CI_zu (by decide) (CI_zu ⟨fun h => absurd h.1 (by decide), fun h => absurd h.1 (by decide)⟩ (CI_zu ⟨fun h => absurd h.1 (by decide), fun h => absurd h.1 (by decide)⟩ hI)), CV_zu2 (by omega) (CV_zu (Or.inl (by decide)) (CV_zu (Or.inl (by decide)) hV))⟩
def V_X9_takeSince (σ : zG) : Int := (R_X9_takeSince σ).1
def F_X9_takeSince (σ : zG) : zG := (R_X9_takeSince σ).2
theorem does_sinceC (σ : zG) (hI : CI σ) (hV : CV σ) : zDo SC 3 m_X9_takeSince [zP 16, zP 3] σ (zEq (some (.inl (V_X9_takeSince σ))) (F_X9_takeSince σ)) := does_X9_takeSince σ hI hV
theorem fr_F_X9_takeSince (σ : zG) {k : Nat} (h : k ∉ [3, 16, 23, 24]) : F_X9_takeSince σ k = σ k := fr_R_X9_takeSince σ h
theorem sinceC_K2 {σ : zG} (hI : CI σ) (hV : CV σ) : CI (F_X9_takeSince σ) ∧ CV (F_X9_takeSince σ) := by
  have hV0 := id hV
  unfold CV at hV0
  unfold F_X9_takeSince R_X9_takeSince
  split
  · exact sinceC_K _ _ _ _ _ hI hV (by omega)
  · exact ⟨CI_zu (by decide) hI, CV_zu (Or.inl (by decide)) hV⟩

def V_X9_takeLine (σ : zG)  : Int := if (V_X5_keyword σ) = 0 then (if (V_X9_takeWho σ) = 0 then 0 else (if (V_X5_stepSign (F_X9_takeWho σ) 59) = 0 then 0 else 1)) else (if (V_X5_keyword σ) = 1 then (if (V_X9_takeFact σ) = 0 then 0 else (if (V_X5_stepSign (F_X9_takeFact σ) 59) = 0 then 0 else 1)) else (if (V_X5_keyword σ) = 2 then (if (V_X9_takeKnows σ) = 0 then 0 else (if (V_X5_stepSign (F_X9_takeKnows σ) 59) = 0 then 0 else 1)) else (if (V_X5_keyword σ) = 3 then (if (V_X9_takeSince σ) = 0 then 0 else (if (V_X5_stepSign (F_X9_takeSince σ) 59) = 0 then 0 else 1)) else (if (V_X5_keyword σ) = 4 then (if (V_X9_takeAsks σ) = 0 then 0 else (if (V_X5_stepSign (F_X9_takeAsks σ) 59) = 0 then 0 else 1)) else (if (V_X5_keyword σ) < 5 then 0 else (if (V_X5_keyword σ) ≤ 9 then (if (V_X9_takeSetting σ ((V_X5_keyword σ) - 5)) = 0 then 0 else (if (V_X5_stepSign (F_X9_takeSetting σ ((V_X5_keyword σ) - 5)) 59) = 0 then 0 else 1)) else 0))))))
def F_X9_takeLine (σ : zG)  : zG := if (V_X5_keyword σ) = 0 then (if (V_X9_takeWho σ) = 0 then (F_X9_takeWho σ) else (F_X5_stepSign (F_X9_takeWho σ) 59)) else (if (V_X5_keyword σ) = 1 then (if (V_X9_takeFact σ) = 0 then (F_X9_takeFact σ) else (F_X5_stepSign (F_X9_takeFact σ) 59)) else (if (V_X5_keyword σ) = 2 then (if (V_X9_takeKnows σ) = 0 then (F_X9_takeKnows σ) else (F_X5_stepSign (F_X9_takeKnows σ) 59)) else (if (V_X5_keyword σ) = 3 then (if (V_X9_takeSince σ) = 0 then (F_X9_takeSince σ) else (F_X5_stepSign (F_X9_takeSince σ) 59)) else (if (V_X5_keyword σ) = 4 then (if (V_X9_takeAsks σ) = 0 then (F_X9_takeAsks σ) else (F_X5_stepSign (F_X9_takeAsks σ) 59)) else (if (V_X5_keyword σ) < 5 then (zu σ 3 7 1) else (if (V_X5_keyword σ) ≤ 9 then (if (V_X9_takeSetting σ ((V_X5_keyword σ) - 5)) = 0 then (F_X9_takeSetting σ ((V_X5_keyword σ) - 5)) else (F_X5_stepSign (F_X9_takeSetting σ ((V_X5_keyword σ) - 5)) 59)) else (zu σ 3 7 1)))))))
theorem fr_F_X9_takeLine (σ : zG)  {k : Nat} (h : k ∉ [3, 16, 17, 18, 19, 20, 21, 22, 23, 24, 25, 26]) : (F_X9_takeLine σ ) k = σ k := by
  have ne : ∀ c ∈ [3, 16, 17, 18, 19, 20, 21, 22, 23, 24, 25, 26], k ≠ c := fun c hc e => h (e ▸ hc)
  have nk_F_X9_takeWho : k ∉ [3, 16, 17] := fun hm => h (by first | (revert hm; simp only [List.mem_cons, List.not_mem_nil, or_false]; omega) | (simp at hm))
  have nk_F_X5_stepSign : k ∉ [3] := fun hm => h (by first | (revert hm; simp only [List.mem_cons, List.not_mem_nil, or_false]; omega) | (simp at hm))
  have nk_F_X9_takeFact : k ∉ [3, 16, 19, 20, 21, 22] := fun hm => h (by first | (revert hm; simp only [List.mem_cons, List.not_mem_nil, or_false]; omega) | (simp at hm))
  have nk_F_X9_takeKnows : k ∉ [3, 18] := fun hm => h (by first | (revert hm; simp only [List.mem_cons, List.not_mem_nil, or_false]; omega) | (simp at hm))
  have nk_F_X9_takeSince : k ∉ [3, 16, 23, 24] := fun hm => h (by first | (revert hm; simp only [List.mem_cons, List.not_mem_nil, or_false]; omega) | (simp at hm))
  have nk_F_X9_takeAsks : k ∉ [3, 25] := fun hm => h (by first | (revert hm; simp only [List.mem_cons, List.not_mem_nil, or_false]; omega) | (simp at hm))
  have nk_F_X9_takeSetting : k ∉ [3, 16, 26] := fun hm => h (by first | (revert hm; simp only [List.mem_cons, List.not_mem_nil, or_false]; omega) | (simp at hm))
  unfold F_X9_takeLine
  repeat' split
  all_goals first | rfl | simp only [zu_row _ _ _ (ne 3 (by decide)), zu_row _ _ _ (ne 16 (by decide)), zu_row _ _ _ (ne 17 (by decide)), zu_row _ _ _ (ne 18 (by decide)), zu_row _ _ _ (ne 19 (by decide)), zu_row _ _ _ (ne 20 (by decide)), zu_row _ _ _ (ne 21 (by decide)), zu_row _ _ _ (ne 22 (by decide)), zu_row _ _ _ (ne 23 (by decide)), zu_row _ _ _ (ne 24 (by decide)), zu_row _ _ _ (ne 25 (by decide)), zu_row _ _ _ (ne 26 (by decide)), fr_F_X9_takeWho (h := nk_F_X9_takeWho), fr_F_X5_stepSign (h := nk_F_X5_stepSign), fr_F_X9_takeFact (h := nk_F_X9_takeFact), fr_F_X9_takeKnows (h := nk_F_X9_takeKnows), fr_F_X9_takeSince (h := nk_F_X9_takeSince), fr_F_X9_takeAsks (h := nk_F_X9_takeAsks), fr_F_X9_takeSetting (h := nk_F_X9_takeSetting)]

set_option maxRecDepth 20000 in
theorem does_X9_takeLine (σ : zG)  (hI : CI σ) (hV : CV σ) : zDo SC 4 m_X9_takeLine [zP 16, zP 3] σ (zEq (some (.inl (V_X9_takeLine σ ))) (F_X9_takeLine σ )) := by
  refine zDo.intro mk_X9_takeLine (Nat.le_of_ble_eq_true rfl) ?_
  have hk := keyword_r σ
  refine zRx.aload_n 1 rfl rfl dX9_takeLine_0 ?_
  refine zRx.cVi (w := .inl (V_X5_keyword σ)) (M := m_X5_keyword) (av := []) cv_9_85 mk_X5_keyword (by decide) (b := 3) rfl rfl (Nat.le_of_ble_eq_true rfl) dX9_takeLine_1 (does_X5_keyword σ) ?_
  refine zRx.istore_n (ls' := [(0, zP 16), (1, zP 3), (2, .inl (V_X5_keyword σ))]) rfl rfl (by decide) dX9_takeLine_4 ?_
  refine zRx.iload_n 2 rfl rfl dX9_takeLine_5 ?_
  by_cases c6_0 : V_X5_keyword σ = 0
  · refine zRx.topI (b := 0) c6_0 ?_
    refine zRx.tableIn (tgt := 40) dX9_takeLine_6 (by decide) (by decide) rfl (by decide) ?_
    refine zRx.aload_n 0 rfl rfl dX9_takeLine_40 ?_
    refine zRx.aload_n 1 rfl rfl dX9_takeLine_41 ?_
    refine zRx.cVi (w := .inl (V_X9_takeWho σ)) (M := m_X9_takeWho) (av := [zP 3]) cv_9_89 mk_X9_takeWho (by decide) (b := 16) rfl rfl (Nat.le_of_ble_eq_true rfl) dX9_takeLine_42 (does_X9_takeWho σ  hI hV) ?_
    refine zRx.if_eq (tgt := 61) dX9_takeLine_45 (by decide) (fun c45 => ?_) (fun c45 => ?_)
    · refine zRx.iconst ⟨by decide, by decide⟩ dX9_takeLine_61 ?_
      exact zR.zret rfl ⟨by decide, by decide⟩ dX9_takeLine_62 ⟨by unfold V_X9_takeLine; rw [if_pos c6_0, if_pos c45], by unfold F_X9_takeLine; rw [if_pos c6_0, if_pos c45]⟩
    · refine zRx.aload_n 1 rfl rfl dX9_takeLine_48 ?_
      refine zRx.bipush ⟨by decide, by decide⟩ rfl dX9_takeLine_49 ?_
      refine zRx.cVi (w := .inl (V_X5_stepSign (F_X9_takeWho σ) 59)) (M := m_X5_stepSign) (av := [.inl 59]) cv_9_92 mk_X5_stepSign (by decide) (b := 3) rfl rfl (Nat.le_of_ble_eq_true rfl) dX9_takeLine_51 (does_X5_stepSign (F_X9_takeWho σ) 59 (CI_F_X9_takeWho hI)) ?_
      refine zRx.if_eq (tgt := 61) dX9_takeLine_54 (by decide) (fun c54 => ?_) (fun c54 => ?_)
      · refine zRx.iconst ⟨by decide, by decide⟩ dX9_takeLine_61 ?_
        exact zR.zret rfl ⟨by decide, by decide⟩ dX9_takeLine_62 ⟨by unfold V_X9_takeLine; rw [if_pos c6_0, if_neg c45, if_pos c54], by unfold F_X9_takeLine; rw [if_pos c6_0, if_neg c45]⟩
      · refine zRx.iconst ⟨by decide, by decide⟩ dX9_takeLine_57 ?_
        refine zRx.goto (tgt := 62) dX9_takeLine_58 (by decide) ?_
        exact zR.zret rfl ⟨by decide, by decide⟩ dX9_takeLine_62 ⟨by unfold V_X9_takeLine; rw [if_pos c6_0, if_neg c45, if_neg c54], by unfold F_X9_takeLine; rw [if_pos c6_0, if_neg c45]⟩
  by_cases c6_1 : V_X5_keyword σ = 1
  · refine zRx.topI (b := 1) c6_1 ?_
    refine zRx.tableIn (tgt := 63) dX9_takeLine_6 (by decide) (by decide) rfl (by decide) ?_
    refine zRx.aload_n 0 rfl rfl dX9_takeLine_63 ?_
    refine zRx.aload_n 1 rfl rfl dX9_takeLine_64 ?_
    refine zRx.cVi (w := .inl (V_X9_takeFact σ)) (M := m_X9_takeFact) (av := [zP 3]) cv_9_96 mk_X9_takeFact (by decide) (b := 16) rfl rfl (Nat.le_of_ble_eq_true rfl) dX9_takeLine_65 (does_X9_takeFact σ  hI hV) ?_
    refine zRx.if_eq (tgt := 84) dX9_takeLine_68 (by decide) (fun c68 => ?_) (fun c68 => ?_)
    · refine zRx.iconst ⟨by decide, by decide⟩ dX9_takeLine_84 ?_
      exact zR.zret rfl ⟨by decide, by decide⟩ dX9_takeLine_85 ⟨by unfold V_X9_takeLine; rw [if_neg c6_0, if_pos c6_1, if_pos c68], by unfold F_X9_takeLine; rw [if_neg c6_0, if_pos c6_1, if_pos c68]⟩
    · refine zRx.aload_n 1 rfl rfl dX9_takeLine_71 ?_
      refine zRx.bipush ⟨by decide, by decide⟩ rfl dX9_takeLine_72 ?_
      refine zRx.cVi (w := .inl (V_X5_stepSign (F_X9_takeFact σ) 59)) (M := m_X5_stepSign) (av := [.inl 59]) cv_9_92 mk_X5_stepSign (by decide) (b := 3) rfl rfl (Nat.le_of_ble_eq_true rfl) dX9_takeLine_74 (does_X5_stepSign (F_X9_takeFact σ) 59 (CI_F_X9_takeFact hI)) ?_
      refine zRx.if_eq (tgt := 84) dX9_takeLine_77 (by decide) (fun c77 => ?_) (fun c77 => ?_)
      · refine zRx.iconst ⟨by decide, by decide⟩ dX9_takeLine_84 ?_
        exact zR.zret rfl ⟨by decide, by decide⟩ dX9_takeLine_85 ⟨by unfold V_X9_takeLine; rw [if_neg c6_0, if_pos c6_1, if_neg c68, if_pos c77], by unfold F_X9_takeLine; rw [if_neg c6_0, if_pos c6_1, if_neg c68]⟩
      · refine zRx.iconst ⟨by decide, by decide⟩ dX9_takeLine_80 ?_
        refine zRx.goto (tgt := 85) dX9_takeLine_81 (by decide) ?_
        exact zR.zret rfl ⟨by decide, by decide⟩ dX9_takeLine_85 ⟨by unfold V_X9_takeLine; rw [if_neg c6_0, if_pos c6_1, if_neg c68, if_neg c77], by unfold F_X9_takeLine; rw [if_neg c6_0, if_pos c6_1, if_neg c68]⟩
  by_cases c6_2 : V_X5_keyword σ = 2
  · refine zRx.topI (b := 2) c6_2 ?_
    refine zRx.tableIn (tgt := 86) dX9_takeLine_6 (by decide) (by decide) rfl (by decide) ?_
    refine zRx.aload_n 0 rfl rfl dX9_takeLine_86 ?_
    refine zRx.aload_n 1 rfl rfl dX9_takeLine_87 ?_
    refine zRx.cVi (w := .inl (V_X9_takeKnows σ)) (M := m_X9_takeKnows) (av := [zP 3]) cv_9_99 mk_X9_takeKnows (by decide) (b := 16) rfl rfl (Nat.le_of_ble_eq_true rfl) dX9_takeLine_88 (does_X9_takeKnows σ  hI hV) ?_
    refine zRx.if_eq (tgt := 107) dX9_takeLine_91 (by decide) (fun c91 => ?_) (fun c91 => ?_)
    · refine zRx.iconst ⟨by decide, by decide⟩ dX9_takeLine_107 ?_
      exact zR.zret rfl ⟨by decide, by decide⟩ dX9_takeLine_108 ⟨by unfold V_X9_takeLine; rw [if_neg c6_0, if_neg c6_1, if_pos c6_2, if_pos c91], by unfold F_X9_takeLine; rw [if_neg c6_0, if_neg c6_1, if_pos c6_2, if_pos c91]⟩
    · refine zRx.aload_n 1 rfl rfl dX9_takeLine_94 ?_
      refine zRx.bipush ⟨by decide, by decide⟩ rfl dX9_takeLine_95 ?_
      refine zRx.cVi (w := .inl (V_X5_stepSign (F_X9_takeKnows σ) 59)) (M := m_X5_stepSign) (av := [.inl 59]) cv_9_92 mk_X5_stepSign (by decide) (b := 3) rfl rfl (Nat.le_of_ble_eq_true rfl) dX9_takeLine_97 (does_X5_stepSign (F_X9_takeKnows σ) 59 (CI_F_X9_takeKnows hI)) ?_
      refine zRx.if_eq (tgt := 107) dX9_takeLine_100 (by decide) (fun c100 => ?_) (fun c100 => ?_)
      · refine zRx.iconst ⟨by decide, by decide⟩ dX9_takeLine_107 ?_
        exact zR.zret rfl ⟨by decide, by decide⟩ dX9_takeLine_108 ⟨by unfold V_X9_takeLine; rw [if_neg c6_0, if_neg c6_1, if_pos c6_2, if_neg c91, if_pos c100], by unfold F_X9_takeLine; rw [if_neg c6_0, if_neg c6_1, if_pos c6_2, if_neg c91]⟩
      · refine zRx.iconst ⟨by decide, by decide⟩ dX9_takeLine_103 ?_
        refine zRx.goto (tgt := 108) dX9_takeLine_104 (by decide) ?_
        exact zR.zret rfl ⟨by decide, by decide⟩ dX9_takeLine_108 ⟨by unfold V_X9_takeLine; rw [if_neg c6_0, if_neg c6_1, if_pos c6_2, if_neg c91, if_neg c100], by unfold F_X9_takeLine; rw [if_neg c6_0, if_neg c6_1, if_pos c6_2, if_neg c91]⟩
  by_cases c6_3 : V_X5_keyword σ = 3
  · refine zRx.topI (b := 3) c6_3 ?_
    refine zRx.tableIn (tgt := 109) dX9_takeLine_6 (by decide) (by decide) rfl (by decide) ?_
    refine zRx.aload_n 0 rfl rfl dX9_takeLine_109 ?_
    refine zRx.aload_n 1 rfl rfl dX9_takeLine_110 ?_
    refine zRx.cVi (w := .inl (V_X9_takeSince σ)) (M := m_X9_takeSince) (av := [zP 3]) cv_9_102 mk_X9_takeSince (by decide) (b := 16) rfl rfl (Nat.le_of_ble_eq_true rfl) dX9_takeLine_111 (does_sinceC σ hI hV) ?_
    refine zRx.if_eq (tgt := 130) dX9_takeLine_114 (by decide) (fun c114 => ?_) (fun c114 => ?_)
    · refine zRx.iconst ⟨by decide, by decide⟩ dX9_takeLine_130 ?_
      exact zR.zret rfl ⟨by decide, by decide⟩ dX9_takeLine_131 ⟨by unfold V_X9_takeLine; rw [if_neg c6_0, if_neg c6_1, if_neg c6_2, if_pos c6_3, if_pos c114], by unfold F_X9_takeLine; rw [if_neg c6_0, if_neg c6_1, if_neg c6_2, if_pos c6_3, if_pos c114]⟩
    · refine zRx.aload_n 1 rfl rfl dX9_takeLine_117 ?_
      refine zRx.bipush ⟨by decide, by decide⟩ rfl dX9_takeLine_118 ?_
      refine zRx.cVi (w := .inl (V_X5_stepSign (F_X9_takeSince σ) 59)) (M := m_X5_stepSign) (av := [.inl 59]) cv_9_92 mk_X5_stepSign (by decide) (b := 3) rfl rfl (Nat.le_of_ble_eq_true rfl) dX9_takeLine_120 (does_X5_stepSign (F_X9_takeSince σ) 59 (sinceC_K2 hI hV).1) ?_
      refine zRx.if_eq (tgt := 130) dX9_takeLine_123 (by decide) (fun c123 => ?_) (fun c123 => ?_)
      · refine zRx.iconst ⟨by decide, by decide⟩ dX9_takeLine_130 ?_
        exact zR.zret rfl ⟨by decide, by decide⟩ dX9_takeLine_131 ⟨by unfold V_X9_takeLine; rw [if_neg c6_0, if_neg c6_1, if_neg c6_2, if_pos c6_3, if_neg c114, if_pos c123], by unfold F_X9_takeLine; rw [if_neg c6_0, if_neg c6_1, if_neg c6_2, if_pos c6_3, if_neg c114]⟩
      · refine zRx.iconst ⟨by decide, by decide⟩ dX9_takeLine_126 ?_
        refine zRx.goto (tgt := 131) dX9_takeLine_127 (by decide) ?_
        exact zR.zret rfl ⟨by decide, by decide⟩ dX9_takeLine_131 ⟨by unfold V_X9_takeLine; rw [if_neg c6_0, if_neg c6_1, if_neg c6_2, if_pos c6_3, if_neg c114, if_neg c123], by unfold F_X9_takeLine; rw [if_neg c6_0, if_neg c6_1, if_neg c6_2, if_pos c6_3, if_neg c114]⟩
  by_cases c6_4 : V_X5_keyword σ = 4
  · refine zRx.topI (b := 4) c6_4 ?_
    refine zRx.tableIn (tgt := 132) dX9_takeLine_6 (by decide) (by decide) rfl (by decide) ?_
    refine zRx.aload_n 0 rfl rfl dX9_takeLine_132 ?_
    refine zRx.aload_n 1 rfl rfl dX9_takeLine_133 ?_
    refine zRx.cVi (w := .inl (V_X9_takeAsks σ)) (M := m_X9_takeAsks) (av := [zP 3]) cv_9_105 mk_X9_takeAsks (by decide) (b := 16) rfl rfl (Nat.le_of_ble_eq_true rfl) dX9_takeLine_134 (does_X9_takeAsks σ  hI hV) ?_
    refine zRx.if_eq (tgt := 153) dX9_takeLine_137 (by decide) (fun c137 => ?_) (fun c137 => ?_)
    · refine zRx.iconst ⟨by decide, by decide⟩ dX9_takeLine_153 ?_
      exact zR.zret rfl ⟨by decide, by decide⟩ dX9_takeLine_154 ⟨by unfold V_X9_takeLine; rw [if_neg c6_0, if_neg c6_1, if_neg c6_2, if_neg c6_3, if_pos c6_4, if_pos c137], by unfold F_X9_takeLine; rw [if_neg c6_0, if_neg c6_1, if_neg c6_2, if_neg c6_3, if_pos c6_4, if_pos c137]⟩
    · refine zRx.aload_n 1 rfl rfl dX9_takeLine_140 ?_
      refine zRx.bipush ⟨by decide, by decide⟩ rfl dX9_takeLine_141 ?_
      refine zRx.cVi (w := .inl (V_X5_stepSign (F_X9_takeAsks σ) 59)) (M := m_X5_stepSign) (av := [.inl 59]) cv_9_92 mk_X5_stepSign (by decide) (b := 3) rfl rfl (Nat.le_of_ble_eq_true rfl) dX9_takeLine_143 (does_X5_stepSign (F_X9_takeAsks σ) 59 (CI_F_X9_takeAsks hI)) ?_
      refine zRx.if_eq (tgt := 153) dX9_takeLine_146 (by decide) (fun c146 => ?_) (fun c146 => ?_)
      · refine zRx.iconst ⟨by decide, by decide⟩ dX9_takeLine_153 ?_
        exact zR.zret rfl ⟨by decide, by decide⟩ dX9_takeLine_154 ⟨by unfold V_X9_takeLine; rw [if_neg c6_0, if_neg c6_1, if_neg c6_2, if_neg c6_3, if_pos c6_4, if_neg c137, if_pos c146], by unfold F_X9_takeLine; rw [if_neg c6_0, if_neg c6_1, if_neg c6_2, if_neg c6_3, if_pos c6_4, if_neg c137]⟩
      · refine zRx.iconst ⟨by decide, by decide⟩ dX9_takeLine_149 ?_
        refine zRx.goto (tgt := 154) dX9_takeLine_150 (by decide) ?_
        exact zR.zret rfl ⟨by decide, by decide⟩ dX9_takeLine_154 ⟨by unfold V_X9_takeLine; rw [if_neg c6_0, if_neg c6_1, if_neg c6_2, if_neg c6_3, if_pos c6_4, if_neg c137, if_neg c146], by unfold F_X9_takeLine; rw [if_neg c6_0, if_neg c6_1, if_neg c6_2, if_neg c6_3, if_pos c6_4, if_neg c137]⟩
  refine zRx.tableOut (tgt := 155) dX9_takeLine_6 (by omega) (by decide) ?_
  refine zRx.iload_n 2 rfl rfl dX9_takeLine_155 ?_
  refine zRx.iconst ⟨by decide, by decide⟩ dX9_takeLine_156 ?_
  refine zRx.icmp_lt (tgt := 166) dX9_takeLine_157 (by decide) (fun c157 => ?_) (fun c157 => ?_)
  · refine zRx.aload_n 1 rfl rfl dX9_takeLine_166 ?_
    refine zRx.iconst ⟨by decide, by decide⟩ dX9_takeLine_167 ?_
    refine zRx.cVi (w := .inl 0) (M := m_X5_refuse) (av := [.inl 1]) cv_9_108 mk_X5_refuse (by decide) (b := 3) rfl rfl (Nat.le_of_ble_eq_true rfl) dX9_takeLine_168 (refuse_eq σ 1) ?_
    exact zR.zret rfl ⟨by decide, by decide⟩ dX9_takeLine_171 ⟨by unfold V_X9_takeLine; rw [if_neg c6_0, if_neg c6_1, if_neg c6_2, if_neg c6_3, if_neg c6_4, if_pos c157], by unfold F_X9_takeLine; rw [if_neg c6_0, if_neg c6_1, if_neg c6_2, if_neg c6_3, if_neg c6_4, if_pos c157]⟩
  · refine zRx.iload_n 2 rfl rfl dX9_takeLine_160 ?_
    refine zRx.bipush ⟨by decide, by decide⟩ rfl dX9_takeLine_161 ?_
    refine zRx.icmp_le (tgt := 172) dX9_takeLine_163 (by decide) (fun c163 => ?_) (fun c163 => ?_)
    · refine zRx.aload_n 0 rfl rfl dX9_takeLine_172 ?_
      refine zRx.aload_n 1 rfl rfl dX9_takeLine_173 ?_
      refine zRx.iload_n 2 rfl rfl dX9_takeLine_174 ?_
      refine zRx.iconst ⟨by decide, by decide⟩ dX9_takeLine_175 ?_
      refine zRx.isub ⟨by omega, by omega⟩ dX9_takeLine_176 ?_
      refine zRx.cVi (w := .inl (V_X9_takeSetting σ ((V_X5_keyword σ) - 5))) (M := m_X9_takeSetting) (av := [zP 3, .inl ((V_X5_keyword σ) - 5)]) cv_9_112 mk_X9_takeSetting (by decide) (b := 16) rfl rfl (Nat.le_of_ble_eq_true rfl) dX9_takeLine_177 (does_X9_takeSetting σ ((V_X5_keyword σ) - 5) hI (by omega)) ?_
      refine zRx.if_eq (tgt := 196) dX9_takeLine_180 (by decide) (fun c180 => ?_) (fun c180 => ?_)
      · refine zRx.iconst ⟨by decide, by decide⟩ dX9_takeLine_196 ?_
        exact zR.zret rfl ⟨by decide, by decide⟩ dX9_takeLine_197 ⟨by unfold V_X9_takeLine; rw [if_neg c6_0, if_neg c6_1, if_neg c6_2, if_neg c6_3, if_neg c6_4, if_neg (Int.not_lt.mpr c157), if_pos c163, if_pos c180], by unfold F_X9_takeLine; rw [if_neg c6_0, if_neg c6_1, if_neg c6_2, if_neg c6_3, if_neg c6_4, if_neg (Int.not_lt.mpr c157), if_pos c163, if_pos c180]⟩
      · refine zRx.aload_n 1 rfl rfl dX9_takeLine_183 ?_
        refine zRx.bipush ⟨by decide, by decide⟩ rfl dX9_takeLine_184 ?_
        refine zRx.cVi (w := .inl (V_X5_stepSign (F_X9_takeSetting σ ((V_X5_keyword σ) - 5)) 59)) (M := m_X5_stepSign) (av := [.inl 59]) cv_9_92 mk_X5_stepSign (by decide) (b := 3) rfl rfl (Nat.le_of_ble_eq_true rfl) dX9_takeLine_186 (does_X5_stepSign (F_X9_takeSetting σ ((V_X5_keyword σ) - 5)) 59 (CI_F_X9_takeSetting hI)) ?_
        refine zRx.if_eq (tgt := 196) dX9_takeLine_189 (by decide) (fun c189 => ?_) (fun c189 => ?_)
        · refine zRx.iconst ⟨by decide, by decide⟩ dX9_takeLine_196 ?_
          exact zR.zret rfl ⟨by decide, by decide⟩ dX9_takeLine_197 ⟨by unfold V_X9_takeLine; rw [if_neg c6_0, if_neg c6_1, if_neg c6_2, if_neg c6_3, if_neg c6_4, if_neg (Int.not_lt.mpr c157), if_pos c163, if_neg c180, if_pos c189], by unfold F_X9_takeLine; rw [if_neg c6_0, if_neg c6_1, if_neg c6_2, if_neg c6_3, if_neg c6_4, if_neg (Int.not_lt.mpr c157), if_pos c163, if_neg c180]⟩
        · refine zRx.iconst ⟨by decide, by decide⟩ dX9_takeLine_192 ?_
          refine zRx.goto (tgt := 197) dX9_takeLine_193 (by decide) ?_
          exact zR.zret rfl ⟨by decide, by decide⟩ dX9_takeLine_197 ⟨by unfold V_X9_takeLine; rw [if_neg c6_0, if_neg c6_1, if_neg c6_2, if_neg c6_3, if_neg c6_4, if_neg (Int.not_lt.mpr c157), if_pos c163, if_neg c180, if_neg c189], by unfold F_X9_takeLine; rw [if_neg c6_0, if_neg c6_1, if_neg c6_2, if_neg c6_3, if_neg c6_4, if_neg (Int.not_lt.mpr c157), if_pos c163, if_neg c180]⟩
    · refine zRx.aload_n 1 rfl rfl dX9_takeLine_166 ?_
      refine zRx.iconst ⟨by decide, by decide⟩ dX9_takeLine_167 ?_
      refine zRx.cVi (w := .inl 0) (M := m_X5_refuse) (av := [.inl 1]) cv_9_108 mk_X5_refuse (by decide) (b := 3) rfl rfl (Nat.le_of_ble_eq_true rfl) dX9_takeLine_168 (refuse_eq σ 1) ?_
      exact zR.zret rfl ⟨by decide, by decide⟩ dX9_takeLine_171 ⟨by unfold V_X9_takeLine; rw [if_neg c6_0, if_neg c6_1, if_neg c6_2, if_neg c6_3, if_neg c6_4, if_neg (Int.not_lt.mpr c157), if_neg (Int.not_le.mpr c163)], by unfold F_X9_takeLine; rw [if_neg c6_0, if_neg c6_1, if_neg c6_2, if_neg c6_3, if_neg c6_4, if_neg (Int.not_lt.mpr c157), if_neg (Int.not_le.mpr c163)]⟩

theorem CI_F_X9_takeLine {σ : zG}  (hI : CI σ) (hV : CV σ) : CI ((F_X9_takeLine σ )) := by
  unfold F_X9_takeLine
  repeat' split
  all_goals first | exact (CI_F_X9_takeWho hI) | exact (CI_F_X5_stepSign (CI_F_X9_takeWho hI)) | exact (CI_F_X9_takeFact hI) | exact (CI_F_X5_stepSign (CI_F_X9_takeFact hI)) | exact (CI_F_X9_takeKnows hI) | exact (CI_F_X5_stepSign (CI_F_X9_takeKnows hI)) | exact (sinceC_K2 hI hV).1 | exact (CI_F_X5_stepSign (sinceC_K2 hI hV).1) | exact (CI_F_X9_takeAsks hI) | exact (CI_F_X5_stepSign (CI_F_X9_takeAsks hI)) | exact (CI_zu (by decide) hI) | exact (CI_F_X9_takeSetting hI) | exact (CI_F_X5_stepSign (CI_F_X9_takeSetting hI))

theorem CV_F_X9_takeLine {σ : zG}  (hI : CI σ) (hV : CV σ) : CV (F_X9_takeLine σ ) := by
  have hV0 := id hV
  unfold CV at hV0
  unfold F_X9_takeLine
  repeat' split
  all_goals first | exact (CV_F_X9_takeWho hV) | exact (CV_F_X5_stepSign (CV_F_X9_takeWho hV)) | exact (CV_F_X9_takeFact hV) | exact (CV_F_X5_stepSign (CV_F_X9_takeFact hV)) | exact (CV_F_X9_takeKnows hV) | exact (CV_F_X5_stepSign (CV_F_X9_takeKnows hV)) | exact (sinceC_K2 hI hV).2 | exact (CV_F_X5_stepSign (sinceC_K2 hI hV).2) | exact (CV_F_X9_takeAsks hV) | exact (CV_F_X5_stepSign (CV_F_X9_takeAsks hV)) | exact (CV_zu (Or.inl (by decide)) hV) | exact (CV_F_X9_takeSetting hV) | exact (CV_F_X5_stepSign (CV_F_X9_takeSetting hV))

theorem CV_clear {σ : zG} : CV (F_X9_clear σ) := by
  unfold CV F_X9_clear
  simp [zu, zcs, zfl]
theorem CI_F_X9_clear {σ : zG} (h : CI σ) : CI (F_X9_clear σ) := CI_row (fr_F_X9_clear σ (by decide)) (fr_F_X9_clear σ (by decide)) h

def L_X9_take_6  : Nat → Int → zG → Int × zG
  | 0, _, σ => (0, σ)
  | n + 1, q, σ => if 900 < q then ((-1), σ) else (if ((F_X5_step σ) 3 4) = 0 then (q, F_X5_step σ) else (if (V_X9_takeLine (F_X5_step σ)) = 0 then ((-1), F_X9_takeLine (F_X5_step σ)) else (L_X9_take_6  n (q + 1) (F_X9_takeLine (F_X5_step σ)))))
theorem fr_L_X9_take_6   (n : Nat) (q : Int) (σ : zG) {k : Nat} (h : k ∉ [3, 16, 17, 18, 19, 20, 21, 22, 23, 24, 25, 26]) : (L_X9_take_6  n q σ).2 k = σ k := by
  induction n generalizing q σ with
  | zero => rfl
  | succ n ih =>
    have ne : ∀ c ∈ [3, 16, 17, 18, 19, 20, 21, 22, 23, 24, 25, 26], k ≠ c := fun c hc e => h (e ▸ hc)
    have nk_F_X5_step : k ∉ [3] := fun hm => h (by first | (revert hm; simp only [List.mem_cons, List.not_mem_nil, or_false]; omega) | (simp at hm))
    have nk_F_X9_takeLine : k ∉ [3, 16, 17, 18, 19, 20, 21, 22, 23, 24, 25, 26] := fun hm => h (by first | (revert hm; simp only [List.mem_cons, List.not_mem_nil, or_false]; omega) | (simp at hm))
    rw [L_X9_take_6]
    repeat' split
    all_goals first | rfl | simp only [zu_row _ _ _ (ne 3 (by decide)), zu_row _ _ _ (ne 16 (by decide)), zu_row _ _ _ (ne 17 (by decide)), zu_row _ _ _ (ne 18 (by decide)), zu_row _ _ _ (ne 19 (by decide)), zu_row _ _ _ (ne 20 (by decide)), zu_row _ _ _ (ne 21 (by decide)), zu_row _ _ _ (ne 22 (by decide)), zu_row _ _ _ (ne 23 (by decide)), zu_row _ _ _ (ne 24 (by decide)), zu_row _ _ _ (ne 25 (by decide)), zu_row _ _ _ (ne 26 (by decide)), fr_F_X5_step (h := nk_F_X5_step), fr_F_X9_takeLine (h := nk_F_X9_takeLine), ih]

set_option maxRecDepth 20000 in
theorem loop_X9_take_6   : ∀ (n : Nat) (q : Int) (σ : zG), 0 ≤ q → CI σ → CV σ → (901 - q).toNat < n → zR SC 5 m_X9_take 6 [(0, zP 16), (1, zP 3), (2, .inl q)] [] σ (zEq (some (.inl (L_X9_take_6  n q σ).1)) (L_X9_take_6  n q σ).2) := by
  intro n
  induction n with
  | zero => intro q σ h0 hI hV hmz; exact absurd hmz (Nat.not_lt_zero _)
  | succ n ih =>
    intro q σ h0 hI hV hmz
    refine zRx.iload_n 2 rfl rfl dX9_take_6 ?_
    refine zRx.sipush ⟨by decide, by decide⟩ rfl dX9_take_7 ?_
    refine zRx.icmp_gt (tgt := 42) dX9_take_10 (by decide) (fun c10 => ?_) (fun c10 => ?_)
    · refine zRx.iconst ⟨by decide, by decide⟩ dX9_take_42 ?_
      exact zR.iret rfl dX9_take_43 (by have he : L_X9_take_6  (n + 1) q σ = ((-1), σ) := (by rw [L_X9_take_6, if_pos c10]); rw [he]; exact ⟨rfl, rfl⟩)
    · refine zRx.aload_n 1 rfl rfl dX9_take_13 ?_
      refine zRx.cVv (M := m_X5_step) (av := []) cv_9_73 mk_X5_step (by decide) (b := 3) rfl rfl (Nat.le_of_ble_eq_true rfl) dX9_take_14 (does_step2 σ hI) ?_
      refine zRx.aload_n 1 rfl rfl dX9_take_17 ?_
      refine zRx.getIv (a := 3) (ji := 4) (v := (F_X5_step σ) 3 4) rfl fl_9_78 rfl rfl rfl dX9_take_18 ?_
      refine zRx.if_ne (tgt := 26) dX9_take_21 (by decide) (fun c21 => ?_) (fun c21 => ?_)
      · refine zRx.aload_n 0 rfl rfl dX9_take_26 ?_
        refine zRx.aload_n 1 rfl rfl dX9_take_27 ?_
        refine zRx.cVi (w := .inl (V_X9_takeLine (F_X5_step σ))) (M := m_X9_takeLine) (av := [zP 3]) cv_9_81 mk_X9_takeLine (by decide) (b := 16) rfl rfl (Nat.le_of_ble_eq_true rfl) dX9_take_28 (does_X9_takeLine (F_X5_step σ)  (CI_F_X5_step hI) (CV_F_X5_step hV)) ?_
        refine zRx.if_ne (tgt := 36) dX9_take_31 (by decide) (fun c31 => ?_) (fun c31 => ?_)
        · refine zRx.iinc (n := 1) (ls' := [(0, zP 16), (1, zP 3), (2, .inl (q + 1))]) 2 rfl ⟨by omega, by omega⟩ rfl (by decide) dX9_take_36 ?_
          refine zRx.goto (tgt := 6) dX9_take_39 (by decide) ?_
          have he : L_X9_take_6  (n + 1) q σ = L_X9_take_6  n (q + 1) (F_X9_takeLine (F_X5_step σ)) := by rw [L_X9_take_6, if_neg (Int.not_lt.mpr c10), if_neg c21, if_neg c31]
          rw [he]
          exact ih (q + 1) (F_X9_takeLine (F_X5_step σ)) (by omega) (CI_F_X9_takeLine (CI_F_X5_step hI) (CV_F_X5_step hV)) (CV_F_X9_takeLine (CI_F_X5_step hI) (CV_F_X5_step hV)) (by omega)
        · refine zRx.iconst ⟨by decide, by decide⟩ dX9_take_34 ?_
          exact zR.iret rfl dX9_take_35 (by have he : L_X9_take_6  (n + 1) q σ = ((-1), F_X9_takeLine (F_X5_step σ)) := (by rw [L_X9_take_6, if_neg (Int.not_lt.mpr c10), if_neg c21, if_pos c31]); rw [he]; exact ⟨rfl, rfl⟩)
      · refine zRx.iload_n 2 rfl rfl dX9_take_24 ?_
        exact zR.iret rfl dX9_take_25 (by have he : L_X9_take_6  (n + 1) q σ = (q, F_X5_step σ) := (by rw [L_X9_take_6, if_neg (Int.not_lt.mpr c10), if_pos c21]); rw [he]; exact ⟨rfl, rfl⟩)
def R_X9_take (σ : zG)  : Int × zG := L_X9_take_6  1000 0 (F_X9_clear σ)
theorem fr_R_X9_take (σ : zG)  {k : Nat} (h : k ∉ [3, 16, 17, 18, 19, 20, 21, 22, 23, 24, 25, 26]) : (R_X9_take σ ).2 k = σ k := by
  have ne : ∀ c ∈ [3, 16, 17, 18, 19, 20, 21, 22, 23, 24, 25, 26], k ≠ c := fun c hc e => h (e ▸ hc)
  have nk_F_X9_clear : k ∉ [16, 18, 25, 26] := fun hm => h (by first | (revert hm; simp only [List.mem_cons, List.not_mem_nil, or_false]; omega) | (simp at hm))
  have nl_L_X9_take_6 : k ∉ [3, 16, 17, 18, 19, 20, 21, 22, 23, 24, 25, 26] := fun hm => h (by first | (revert hm; simp only [List.mem_cons, List.not_mem_nil, or_false]; omega) | (simp at hm))
  unfold R_X9_take
  repeat' split
  all_goals first | rfl | simp only [zu_row _ _ _ (ne 3 (by decide)), zu_row _ _ _ (ne 16 (by decide)), zu_row _ _ _ (ne 17 (by decide)), zu_row _ _ _ (ne 18 (by decide)), zu_row _ _ _ (ne 19 (by decide)), zu_row _ _ _ (ne 20 (by decide)), zu_row _ _ _ (ne 21 (by decide)), zu_row _ _ _ (ne 22 (by decide)), zu_row _ _ _ (ne 23 (by decide)), zu_row _ _ _ (ne 24 (by decide)), zu_row _ _ _ (ne 25 (by decide)), zu_row _ _ _ (ne 26 (by decide)), fr_F_X9_clear (h := nk_F_X9_clear), fr_L_X9_take_6 (h := nl_L_X9_take_6)]

set_option maxRecDepth 20000 in
theorem does_X9_take (σ : zG)  (hI : CI σ)  : zDo SC 5 m_X9_take [zP 16, zP 3] σ (zEq (some (.inl (R_X9_take σ ).1)) (R_X9_take σ ).2) := by
  refine zDo.intro mk_X9_take (Nat.le_of_ble_eq_true rfl) ?_
  refine zRx.aload_n 0 rfl rfl dX9_take_0 ?_
  refine zRx.cVv (M := m_X9_clear) (av := []) cv_9_70 mk_X9_clear (by decide) (b := 16) rfl rfl (Nat.le_of_ble_eq_true rfl) dX9_take_1 (does_X9_clear σ) ?_
  refine zRx.iconst ⟨by decide, by decide⟩ dX9_take_4 ?_
  refine zRx.istore_n (ls' := [(0, zP 16), (1, zP 3), (2, .inl 0)]) rfl rfl (by decide) dX9_take_5 ?_
  have he : R_X9_take σ  = L_X9_take_6  1000 0 (F_X9_clear σ) := by rw [R_X9_take]
  rw [he]
  exact loop_X9_take_6    1000 0 (F_X9_clear σ) (by omega) (CI_F_X9_clear hI) CV_clear (by omega)

