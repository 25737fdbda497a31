/-! the reference: sentence, said -/
theorem isOpenL (σ : zG) : ∀ (n : Nat) (q : Int), 0 ≤ q → ¬ L_X12_isOpen_2 σ n q = 0 → ∃ j : Int, 0 ≤ j ∧ j < σ 0 67 ∧ σ 37 j = 10
  | 0, q, _, h => absurd rfl h
  | n + 1, q, h0, h => by
    rw [L_X12_isOpen_2] at h
    split at h
    · exact absurd rfl h
    · split at h
      · next c => exact ⟨q, h0, by omega, c⟩
      · exact isOpenL σ n (q + 1) (by omega) h
theorem isOpen_some {σ : zG} (h : ¬ R_X12_isOpen σ = 0) : ∃ j : Int, 0 ≤ j ∧ j < σ 0 67 ∧ σ 37 j = 10 := isOpenL σ 50 0 (by decide) h
theorem isOpen_01 (σ : zG) : ∀ (n : Nat) (q : Int), L_X12_isOpen_2 σ n q = 0 ∨ L_X12_isOpen_2 σ n q = 1
  | 0, q => Or.inl rfl
  | n + 1, q => by
    rw [L_X12_isOpen_2]
    split
    · exact Or.inl rfl
    · split
      · exact Or.inr rfl
      · exact isOpen_01 σ n (q + 1)
theorem wd_stop (le : Int) : ∀ (n : Nat) (σ : zG) (j : Int), j < σ 0 67 → σ 37 j = 10 → j < S_X12_writeDown_0 le n σ 0 67
  | 0, σ, j, h, _ => h
  | n + 1, σ, j, h, h10 => by
    rw [S_X12_writeDown_0]
    repeat' split
    all_goals first
      | exact h
      | (refine wd_stop le n _ j ?_ ?_
         · rw [kp_write _ _ _ _ _ (by decide), zu_at]
           have : j ≠ σ 0 67 - 1 := fun e => by subst e; contradiction
           omega
         · rw [fr_F_X12_write (h := by decide), zu_row _ _ _ (by decide)]; exact h10)
theorem wd_open {σ : zG} (h : ¬ R_X12_isOpen σ = 0) : 0 < R_X12_writeDown σ 1 0 67 := by
  obtain ⟨j, h0, h1, h2⟩ := isOpen_some h
  have := wd_stop 1 50 σ j h1 h2
  show 0 < S_X12_writeDown_0 1 50 σ 0 67
  omega
theorem wd_pre {k : Int} {σ : zG} (h : SV k σ) (hk : 0 ≤ k) : (0 ≤ σ 0 66 ∧ 0 ≤ σ 0 67) ∧ σ 0 67 ≤ 30 ∧ σ 0 66 + σ 0 67 ≤ 60 := by
  have := SV_m h
  omega
theorem SV_pop {k : Int} {σ : zG} (h : SV k σ) (h0 : 0 < σ 0 67) : SV k (zu σ 0 67 (σ 0 67 - 1)) := by
  unfold SV at *
  rw [zu_at, zu_off _ _ _ (by decide), zu_off _ _ _ (by decide), zu_row _ _ _ (by decide)]
  have h2 := opn_mono (σ 37) (a := (σ 0 67 - 1).toNat) (b := (σ 0 67).toNat) (by omega)
  exact ⟨by omega, h.2.1, by omega, PV_less h.2.2.2.1 (by omega), by omega⟩
theorem cond_push8 {σ : zG} (h : SV 1 σ) : SV 0 (zu (zu (R_X12_writeDown σ 2) 37 (R_X12_writeDown σ 2 0 67) 8) 0 67 (R_X12_writeDown σ 2 0 67 + 1)) := by
  have hm := SV_m h
  have h1 := wd_K (le := 2) hm.1.2 (by omega)
  have e : R_X12_writeDown σ 2 37 = σ 37 := fr_R_X12_writeDown σ 2 (by decide)
  refine SV_push (k := 0) (SV_wd h) (by decide) (fun h => absurd h (by decide)) (fun _ => ?_) (fun h => absurd h (by decide))
  rw [e]
  have h4 := h1.2.2.2
  unfold V_X12_binds at h4
  by_cases z : R_X12_writeDown σ 2 0 67 = 0
  · exact Or.inl z
  · have h5 := (h.2.2.2.1 (R_X12_writeDown σ 2 0 67 - 1) (by omega) (by omega)).1
    split at h4
    · omega
    · split at h4 <;> omega
theorem cond_push9 {σ : zG} (h : SV 1 σ) : SV 0 (zu (zu (R_X12_writeDown σ 1) 37 (R_X12_writeDown σ 1 0 67) 9) 0 67 (R_X12_writeDown σ 1 0 67 + 1)) := by
  have hm := SV_m h
  have h1 := wd_K (le := 1) hm.1.2 (by omega)
  have e : R_X12_writeDown σ 1 37 = σ 37 := fr_R_X12_writeDown σ 1 (by decide)
  refine SV_push (k := 0) (SV_wd h) (by decide) (fun _ => ?_) (fun h => absurd h (by decide)) (fun h => absurd h (by decide))
  rw [e]
  have h4 := h1.2.2.2
  have h5 := (binds_r (σ 37 (R_X12_writeDown σ 1 0 67 - 1))).1
  omega

theorem cond_m {σ : zG} {n : Nat} (hS : SV 1 σ) (h0 : 0 < R_X12_writeDown σ 1 0 67) (h : (σ 0 67).toNat < n + 1) : (R_X12_writeDown (zu (R_X12_writeDown σ 1) 0 67 (R_X12_writeDown σ 1 0 67 - 1)) 3 0 67).toNat < n := by
  have hm := SV_m hS
  have h1 := (wd_K (le := 1) hm.1.2 (by omega)).1
  have h2 := SV_m (SV_pop (SV_wd (le := 1) hS) h0)
  have h3 := (wd_K (le := 3) h2.1.2 (by omega)).1
  rw [zu_at] at h3
  omega

def S_X12_cond_9  : Nat → zG → zG
  | 0, σ => (σ)
  | n + 1, σ => if σ 0 11 = 3 ∧ σ 0 14 = 41 then (if (R_X12_isOpen σ) = 0 then σ else (S_X12_cond_9  n  (F_X12_next (R_X12_writeDown (zu (R_X12_writeDown σ 1) 0 67 (((R_X12_writeDown σ 1) 0 67) - 1)) 3)))) else σ
theorem fr_S_X12_cond_9   (n : Nat) (σ : zG) {k : Nat} (h : k ∉ [0, 36]) : (S_X12_cond_9  n  σ) k = σ k := by
  induction n generalizing  σ with
  | zero => rfl
  | succ n ih =>
    have ne : ∀ c ∈ [0, 36], k ≠ c := fun c hc e => h (e ▸ hc)
    have nk_F_X12_next : k ∉ [0] := fun hm => h (by first | (revert hm; simp only [List.mem_cons, List.not_mem_nil, or_false]; omega) | (simp at hm))
    have nk_R_X12_writeDown : k ∉ [0, 36] := fun hm => h (by first | (revert hm; simp only [List.mem_cons, List.not_mem_nil, or_false]; omega) | (simp at hm))
    rw [S_X12_cond_9]
    repeat' split
    all_goals first | rfl | simp only [zu_row _ _ _ (ne 0 (by decide)), zu_row _ _ _ (ne 36 (by decide)), fr_F_X12_next (h := nk_F_X12_next), fr_R_X12_writeDown (h := nk_R_X12_writeDown), ih]

set_option maxRecDepth 20000 in
theorem seg_X12_cond_9   : ∀ (n : Nat) (σ : zG) (X : zX), PI σ → SV 1 σ → 0 ≤ σ 2 1 ∧ σ 2 1 ≤ 12 → (σ 0 67).toNat < n → ((PI (S_X12_cond_9  n  σ)) → (SV 1 (S_X12_cond_9  n  σ)) → (0 ≤ (S_X12_cond_9  n  σ) 2 1 ∧ (S_X12_cond_9  n  σ) 2 1 ≤ 12) → zRx none 5 m_X12_cond SM 52 [(0, zP 0)] [] (S_X12_cond_9  n  σ) X) → zRx none 5 m_X12_cond SM 9 [(0, zP 0)] [] σ X := by
  intro n
  induction n with
  | zero => intro  σ X hI hS hF hmz; exact absurd hmz (Nat.not_lt_zero _)
  | succ n ih =>
    intro  σ X hI hS hF hmz K
    refine zRx.aload_n 0 rfl rfl dX12_cond_9 ?_
    refine zRx.bipush ⟨by decide, by decide⟩ rfl dX12_cond_10 ?_
    refine zRx.cVi (w := .inl (b2 (σ 0 11 = 3 ∧ σ 0 14 = 41))) (M := m_X12_isSign) (av := [.inl 41]) cv_12_245 mk_X12_isSign (by decide) (b := 0) rfl rfl (Nat.le_of_ble_eq_true rfl) dX12_cond_12 (isSign2 σ 41 (σ 0 11) (σ 0 14) rfl rfl) ?_
    refine zRx.if_eqB (tgt := 52) dX12_cond_15 (by decide) (fun c15 => ?_) (fun c15 => ?_)
    · have he : S_X12_cond_9  (n + 1)  σ = σ := by rw [S_X12_cond_9, if_neg c15]
      rw [he] at K
      exact K hI hS hF
    · refine zRx.aload_n 0 rfl rfl dX12_cond_18 ?_
      refine zRx.cVi (w := .inl (R_X12_isOpen σ)) (M := m_X12_isOpen) (av := []) cv_12_481 mk_X12_isOpen (by decide) (b := 0) rfl rfl (Nat.le_of_ble_eq_true rfl) dX12_cond_19 (does_X12_isOpen σ (by have := SV_m hS; omega)) ?_
      refine zRx.if_eq (tgt := 52) dX12_cond_22 (by decide) (fun c22 => ?_) (fun c22 => ?_)
      · have he : S_X12_cond_9  (n + 1)  σ = σ := by rw [S_X12_cond_9, if_pos c15, if_pos c22]
        rw [he] at K
        exact K hI hS hF
      · refine zRx.aload_n 0 rfl rfl dX12_cond_25 ?_
        refine zRx.iconst ⟨by decide, by decide⟩ dX12_cond_26 ?_
        refine zRx.cVv (M := m_X12_writeDown) (av := [.inl 1]) cv_12_484 mk_X12_writeDown (by decide) (b := 0) rfl rfl (Nat.le_of_ble_eq_true rfl) dX12_cond_27 (does_X12_writeDown σ 1 (wd_pre hS (by decide))) ?_
        have hw := wd_open c22
        have hw2 := SV_m (SV_wd (le := 1) hS)
        refine zRx.aload_n 0 rfl rfl dX12_cond_30 ?_
        refine zRx.dup rfl dX12_cond_31 ?_
        refine zRx.getIv (a := 0) (ji := 67) (v := (R_X12_writeDown σ 1) 0 67) rfl fl_12_469 rfl rfl rfl dX12_cond_32 ?_
        refine zRx.iconst ⟨by decide, by decide⟩ dX12_cond_35 ?_
        refine zRx.isub ⟨by omega, by omega⟩ dX12_cond_36 ?_
        refine zRx.putI (a := 0) (ji := 67) pl_12_469 rfl rfl rfl dX12_cond_37 ?_
        refine zRx.aload_n 0 rfl rfl dX12_cond_40 ?_
        refine zRx.iconst ⟨by decide, by decide⟩ dX12_cond_41 ?_
        refine zRx.cVv (M := m_X12_writeDown) (av := [.inl 3]) cv_12_484 mk_X12_writeDown (by decide) (b := 0) rfl rfl (Nat.le_of_ble_eq_true rfl) dX12_cond_42 (does_X12_writeDown (zu (R_X12_writeDown σ 1) 0 67 (((R_X12_writeDown σ 1) 0 67) - 1)) 3 (wd_pre (SV_pop (SV_wd hS) (wd_open c22)) (by decide))) ?_
        refine zRx.aload_n 0 rfl rfl dX12_cond_45 ?_
        refine zRx.cVv (M := m_X12_next) (av := []) cv_12_251 mk_X12_next (by decide) (b := 0) rfl rfl (Nat.le_of_ble_eq_true rfl) dX12_cond_46 (does_next2 (R_X12_writeDown (zu (R_X12_writeDown σ 1) 0 67 (((R_X12_writeDown σ 1) 0 67) - 1)) 3) (PI_R_X12_writeDown (PI_zu (by decide) (PI_R_X12_writeDown hI)))) ?_
        refine zRx.goto (tgt := 9) dX12_cond_49 (by decide) ?_
        have he : S_X12_cond_9  (n + 1)  σ = S_X12_cond_9  n  (F_X12_next (R_X12_writeDown (zu (R_X12_writeDown σ 1) 0 67 (((R_X12_writeDown σ 1) 0 67) - 1)) 3)) := by rw [S_X12_cond_9, if_pos c15, if_neg c22]
        rw [he] at K
        exact ih  (F_X12_next (R_X12_writeDown (zu (R_X12_writeDown σ 1) 0 67 (((R_X12_writeDown σ 1) 0 67) - 1)) 3)) _ (PI_F_X12_next (PI_R_X12_writeDown (PI_zu (by decide) (PI_R_X12_writeDown hI)))) (SV_next (SV_wd (SV_pop (SV_wd hS) (wd_open c22)))) (by have e9 : (F_X12_next (R_X12_writeDown (zu (R_X12_writeDown σ 1) 0 67 (((R_X12_writeDown σ 1) 0 67) - 1)) 3)) 2 1 = σ 2 1 := ((congrFun (fr_F_X12_next (R_X12_writeDown (zu (R_X12_writeDown σ 1) 0 67 (((R_X12_writeDown σ 1) 0 67) - 1)) 3) (k := 2) (by decide)) _).trans ((congrFun (fr_R_X12_writeDown (zu (R_X12_writeDown σ 1) 0 67 (((R_X12_writeDown σ 1) 0 67) - 1)) 3 (k := 2) (by decide)) _).trans ((zu_ne _ _ _ _ (by decide)).trans (congrFun (fr_R_X12_writeDown σ 1 (k := 2) (by decide)) _)))); omega) (by rw [kp_next _ _ (by unfold KI; decide)]; exact cond_m hS (wd_open c22) hmz) K
theorem cond9_K {p0 : Int} : ∀ (n : Nat) (σ : zG), PI σ → PM p0 σ → SV 1 σ → AD p0 σ → PI (S_X12_cond_9 n σ) ∧ PM p0 (S_X12_cond_9 n σ) ∧ SV 1 (S_X12_cond_9 n σ) ∧ AD p0 (S_X12_cond_9 n σ)
  | 0, σ, hI, hM, hS, hA => ⟨hI, hM, hS, hA⟩
  | n + 1, σ, hI, hM, hS, hA => by
    rw [S_X12_cond_9]
    split
    · split
      · exact ⟨hI, hM, hS, hA⟩
      · next c =>
        have m1 : PM p0 (R_X12_writeDown (zu (R_X12_writeDown σ 1) 0 67 (R_X12_writeDown σ 1 0 67 - 1)) 3) := PM_R_X12_writeDown (PM_zu (by decide) (PM_R_X12_writeDown hM))
        exact cond9_K n _ (PI_F_X12_next (PI_R_X12_writeDown (PI_zu (by decide) (PI_R_X12_writeDown hI)))) (PM_F_X12_next m1) (SV_next (SV_wd (SV_pop (SV_wd hS) (wd_open c)))) (AD_F_X12_next m1)
    · exact ⟨hI, hM, hS, hA⟩
theorem cond_step {σ : zG} {n m : Nat} {x le j y : Int} (hI : PI σ) (hS : SV 0 σ) (hmz : (940 - σ 0 4).toNat < n + 1) (c4 : ¬ V_X12_one σ = 0) (hw : S_X12_cond_9 m (F_X12_one σ) 0 11 = 1) (hI2 : PI (F_X12_next (zu (zu (R_X12_writeDown (S_X12_cond_9 m (F_X12_one σ)) le) 37 j x) 0 67 y))) : (940 - F_X12_next (zu (zu (R_X12_writeDown (S_X12_cond_9 m (F_X12_one σ)) le) 37 j x) 0 67 y) 0 4).toNat < n := by
  have h1 := one_K (p0 := σ 0 4) hI (Int.le_refl _) hS
  have h2 := h1.2.2 c4
  have h3 := cond9_K m _ h1.1 h1.2.1 h2.1 h2.2
  have h4 := h3.2.2.2
  have h5 := (next_all (zu (zu (R_X12_writeDown (S_X12_cond_9 m (F_X12_one σ)) le) 37 j x) 0 67 y)).2.2.1.1
  rw [zu_off _ _ _ (by decide), zu_ne _ _ _ _ (by decide), kp_wd _ _ _ (by decide)] at h5
  unfold AD at h4
  have h6 := hI2.2.1
  omega
def L_X12_cond_0  : Nat → zG → Int × zG
  | 0, σ => (0, σ)
  | n + 1, σ => if (V_X12_one σ) = 0 then (0, F_X12_one σ) else (if (S_X12_cond_9  40  (F_X12_one σ)) 0 11 = 1 ∧ (S_X12_cond_9  40  (F_X12_one σ)) 0 17 = 6385252 then (L_X12_cond_0  n  (F_X12_next (zu (zu (R_X12_writeDown (S_X12_cond_9  40  (F_X12_one σ)) 2) 37 ((R_X12_writeDown (S_X12_cond_9  40  (F_X12_one σ)) 2) 0 67) 8) 0 67 (((R_X12_writeDown (S_X12_cond_9  40  (F_X12_one σ)) 2) 0 67) + 1)))) else (if (S_X12_cond_9  40  (F_X12_one σ)) 0 11 = 1 ∧ (S_X12_cond_9  40  (F_X12_one σ)) 0 17 = 28530 then (L_X12_cond_0  n  (F_X12_next (zu (zu (R_X12_writeDown (S_X12_cond_9  40  (F_X12_one σ)) 1) 37 ((R_X12_writeDown (S_X12_cond_9  40  (F_X12_one σ)) 1) 0 67) 9) 0 67 (((R_X12_writeDown (S_X12_cond_9  40  (F_X12_one σ)) 1) 0 67) + 1)))) else (if (R_X12_isOpen (S_X12_cond_9  40  (F_X12_one σ))) = 0 then (if ((S_X12_cond_9  40  (F_X12_one σ)) 0 11) = 0 then (1, R_X12_writeDown (S_X12_cond_9  40  (F_X12_one σ)) 1) else (0, zu (zu (R_X12_writeDown (S_X12_cond_9  40  (F_X12_one σ)) 1) 0 15 1) 0 16 ((S_X12_cond_9  40  (F_X12_one σ)) 0 12))) else (0, zu (zu (S_X12_cond_9  40  (F_X12_one σ)) 0 15 1) 0 16 ((S_X12_cond_9  40  (F_X12_one σ)) 0 12)))))
theorem fr_L_X12_cond_0   (n : Nat) (σ : zG) {k : Nat} (h : k ∉ [0, 36, 37]) : (L_X12_cond_0  n  σ).2 k = σ k := by
  induction n generalizing  σ with
  | zero => rfl
  | succ n ih =>
    have ne : ∀ c ∈ [0, 36, 37], k ≠ c := fun c hc e => h (e ▸ hc)
    have nk_F_X12_one : k ∉ [0, 36, 37] := fun hm => h (by first | (revert hm; simp only [List.mem_cons, List.not_mem_nil, or_false]; omega) | (simp at hm))
    have nk_F_X12_next : k ∉ [0] := fun hm => h (by first | (revert hm; simp only [List.mem_cons, List.not_mem_nil, or_false]; omega) | (simp at hm))
    have nk_R_X12_writeDown : k ∉ [0, 36] := fun hm => h (by first | (revert hm; simp only [List.mem_cons, List.not_mem_nil, or_false]; omega) | (simp at hm))
    have nk_S_X12_cond_9 : k ∉ [0, 36] := fun hm => h (by first | (revert hm; simp only [List.mem_cons, List.not_mem_nil, or_false]; omega) | (simp at hm))
    rw [L_X12_cond_0]
    repeat' split
    all_goals first | rfl | simp only [zu_row _ _ _ (ne 0 (by decide)), zu_row _ _ _ (ne 36 (by decide)), zu_row _ _ _ (ne 37 (by decide)), fr_F_X12_one (h := nk_F_X12_one), fr_F_X12_next (h := nk_F_X12_next), fr_R_X12_writeDown (h := nk_R_X12_writeDown), fr_S_X12_cond_9 (h := nk_S_X12_cond_9), ih]

set_option maxRecDepth 20000 in
theorem loop_X12_cond_0   : ∀ (n : Nat) (σ : zG), PI σ → SV 0 σ → 0 ≤ σ 2 1 ∧ σ 2 1 ≤ 12 → (940 - σ 0 4).toNat < n → zR SM 5 m_X12_cond 0 [(0, zP 0)] [] σ (zEq (some (.inl (L_X12_cond_0  n  σ).1)) (L_X12_cond_0  n  σ).2) := by
  intro n
  induction n with
  | zero => intro  σ hI hS hF hmz; exact absurd hmz (Nat.not_lt_zero _)
  | succ n ih =>
    intro  σ hI hS hF hmz
    refine zRx.aload_n 0 rfl rfl dX12_cond_0 ?_
    refine zRx.cVi (w := .inl (V_X12_one σ)) (M := m_X12_one) (av := []) cv_12_478 mk_X12_one (by decide) (b := 0) rfl rfl (Nat.le_of_ble_eq_true rfl) dX12_cond_1 (does_one2 σ hI hS hF) ?_
    refine zRx.if_ne (tgt := 9) dX12_cond_4 (by decide) (fun c4 => ?_) (fun c4 => ?_)
    · refine seg_X12_cond_9    40  (F_X12_one σ) _ (one_K (p0 := σ 0 4) hI (Int.le_refl _) hS).1 ((one_K (p0 := σ 0 4) hI (Int.le_refl _) hS).2.2 c4).1 (by have e9 : (F_X12_one σ) 2 1 = σ 2 1 := (congrFun (fr_F_X12_one σ (k := 2) (by decide)) _); omega) (by have h9 := SV_m ((one_K (p0 := σ 0 4) hI (Int.le_refl _) hS).2.2 c4).1; omega) ?_
      intro x9_hI x9_hS x9_hF
      refine zRx.aload_n 0 rfl rfl dX12_cond_52 ?_
      refine zRx.ldc2 ⟨by decide, by decide⟩ kl_12_191 dX12_cond_53 ?_
      refine zRx.cVi (w := .inl (b2 ((S_X12_cond_9  40  (F_X12_one σ)) 0 11 = 1 ∧ (S_X12_cond_9  40  (F_X12_one σ)) 0 17 = 6385252))) (M := m_X12_isWord) (av := [zJ 6385252]) cv_12_279 mk_X12_isWord (by decide) (b := 0) rfl rfl (Nat.le_of_ble_eq_true rfl) dX12_cond_56 (isWord2 (S_X12_cond_9  40  (F_X12_one σ)) 6385252 ((S_X12_cond_9  40  (F_X12_one σ)) 0 11) ((S_X12_cond_9  40  (F_X12_one σ)) 0 17) rfl rfl) ?_
      refine zRx.istore_n (ls' := [(0, zP 0), (1, .inl (b2 ((S_X12_cond_9  40  (F_X12_one σ)) 0 11 = 1 ∧ (S_X12_cond_9  40  (F_X12_one σ)) 0 17 = 6385252)))]) rfl rfl (by decide) dX12_cond_59 ?_
      refine zRx.iload_n 1 rfl rfl dX12_cond_60 ?_
      refine zRx.if_neB (tgt := 113) dX12_cond_61 (by decide) (fun c61 => ?_) (fun c61 => ?_)
      · refine zRx.aload_n 0 rfl rfl dX12_cond_113 ?_
        refine zRx.iload_n 1 rfl rfl dX12_cond_114 ?_
        refine zRx.if_eqB (tgt := 122) dX12_cond_115 (by decide) (fun c115 => absurd c61 c115) (fun c115 => ?_)
        refine zRx.iconst ⟨by decide, by decide⟩ dX12_cond_118 ?_
        refine zRx.goto (tgt := 123) dX12_cond_119 (by decide) ?_
        refine zRx.cVv (M := m_X12_writeDown) (av := [.inl 2]) cv_12_484 mk_X12_writeDown (by decide) (b := 0) rfl rfl (Nat.le_of_ble_eq_true rfl) dX12_cond_123 (does_X12_writeDown (S_X12_cond_9  40  (F_X12_one σ)) 2 (wd_pre x9_hS (by decide))) ?_
        have hm2 := SV_m (SV_wd (le := 2) x9_hS)
        refine zRx.aload_n 0 rfl rfl dX12_cond_126 ?_
        refine zRx.getR (a := 0) (b := 37) fl_12_141 rfl rfl dX12_cond_127 ?_
        refine zRx.aload_n 0 rfl rfl dX12_cond_130 ?_
        refine zRx.getIv (a := 0) (ji := 67) (v := (R_X12_writeDown (S_X12_cond_9  40  (F_X12_one σ)) 2) 0 67) rfl fl_12_469 rfl rfl rfl dX12_cond_131 ?_
        refine zRx.iload_n 1 rfl rfl dX12_cond_134 ?_
        refine zRx.if_eqB (tgt := 143) dX12_cond_135 (by decide) (fun c135 => absurd c61 c135) (fun c135 => ?_)
        refine zRx.bipush ⟨by decide, by decide⟩ rfl dX12_cond_138 ?_
        refine zRx.goto (tgt := 145) dX12_cond_140 (by decide) ?_
        refine zRx.iast rfl (by omega) (by omega) dX12_cond_145 ?_
        refine zRx.aload_n 0 rfl rfl dX12_cond_146 ?_
        refine zRx.dup rfl dX12_cond_147 ?_
        refine zRx.getIv (a := 0) (ji := 67) (v := (R_X12_writeDown (S_X12_cond_9  40  (F_X12_one σ)) 2) 0 67) (zu_ne _ _ _ _ (by decide)) fl_12_469 rfl rfl rfl dX12_cond_148 ?_
        refine zRx.iconst ⟨by decide, by decide⟩ dX12_cond_151 ?_
        refine zRx.iadd ⟨by omega, by omega⟩ dX12_cond_152 ?_
        refine zRx.putI (a := 0) (ji := 67) pl_12_469 rfl rfl rfl dX12_cond_153 ?_
        refine zRx.aload_n 0 rfl rfl dX12_cond_156 ?_
        refine zRx.cVv (M := m_X12_next) (av := []) cv_12_251 mk_X12_next (by decide) (b := 0) rfl rfl (Nat.le_of_ble_eq_true rfl) dX12_cond_157 (does_next2 (zu (zu (R_X12_writeDown (S_X12_cond_9  40  (F_X12_one σ)) 2) 37 ((R_X12_writeDown (S_X12_cond_9  40  (F_X12_one σ)) 2) 0 67) 8) 0 67 (((R_X12_writeDown (S_X12_cond_9  40  (F_X12_one σ)) 2) 0 67) + 1)) (PI_zu (by decide) (PI_zu (fun h => absurd h.1 (by decide)) (PI_R_X12_writeDown x9_hI)))) ?_
        refine zRx.goto (tgt := 0) dX12_cond_160 (by decide) ?_
        refine zRx.pick [0] (ls' := [(0, zP 0)]) rfl ?_
        have he : L_X12_cond_0  (n + 1)  σ = L_X12_cond_0  n  (F_X12_next (zu (zu (R_X12_writeDown (S_X12_cond_9  40  (F_X12_one σ)) 2) 37 ((R_X12_writeDown (S_X12_cond_9  40  (F_X12_one σ)) 2) 0 67) 8) 0 67 (((R_X12_writeDown (S_X12_cond_9  40  (F_X12_one σ)) 2) 0 67) + 1))) := by rw [L_X12_cond_0, if_neg c4, if_pos c61]
        rw [he]
        exact ih  (F_X12_next (zu (zu (R_X12_writeDown (S_X12_cond_9  40  (F_X12_one σ)) 2) 37 ((R_X12_writeDown (S_X12_cond_9  40  (F_X12_one σ)) 2) 0 67) 8) 0 67 (((R_X12_writeDown (S_X12_cond_9  40  (F_X12_one σ)) 2) 0 67) + 1))) (PI_F_X12_next (PI_zu (by decide) (PI_zu (fun h => absurd h.1 (by decide)) (PI_R_X12_writeDown x9_hI)))) (SV_next (cond_push8 x9_hS)) (by have e9 : (F_X12_next (zu (zu (R_X12_writeDown (S_X12_cond_9  40  (F_X12_one σ)) 2) 37 ((R_X12_writeDown (S_X12_cond_9  40  (F_X12_one σ)) 2) 0 67) 8) 0 67 (((R_X12_writeDown (S_X12_cond_9  40  (F_X12_one σ)) 2) 0 67) + 1))) 2 1 = σ 2 1 := ((congrFun (fr_F_X12_next (zu (zu (R_X12_writeDown (S_X12_cond_9  40  (F_X12_one σ)) 2) 37 ((R_X12_writeDown (S_X12_cond_9  40  (F_X12_one σ)) 2) 0 67) 8) 0 67 (((R_X12_writeDown (S_X12_cond_9  40  (F_X12_one σ)) 2) 0 67) + 1)) (k := 2) (by decide)) _).trans ((zu_ne _ _ _ _ (by decide)).trans ((zu_ne _ _ _ _ (by decide)).trans ((congrFun (fr_R_X12_writeDown (S_X12_cond_9  40  (F_X12_one σ)) 2 (k := 2) (by decide)) _).trans ((congrFun (fr_S_X12_cond_9   40  (F_X12_one σ) (k := 2) (by decide)) _).trans (congrFun (fr_F_X12_one σ (k := 2) (by decide)) _)))))); omega) (cond_step hI hS hmz c4 c61.1 (x := 8) (le := 2) (PI_F_X12_next (PI_zu (by decide) (PI_zu (fun h => absurd h.1 (by decide)) (PI_R_X12_writeDown x9_hI)))))
      · refine zRx.aload_n 0 rfl rfl dX12_cond_64 ?_
        refine zRx.ldc2 ⟨by decide, by decide⟩ kl_12_189 dX12_cond_65 ?_
        refine zRx.cVi (w := .inl (b2 ((S_X12_cond_9  40  (F_X12_one σ)) 0 11 = 1 ∧ (S_X12_cond_9  40  (F_X12_one σ)) 0 17 = 28530))) (M := m_X12_isWord) (av := [zJ 28530]) cv_12_279 mk_X12_isWord (by decide) (b := 0) rfl rfl (Nat.le_of_ble_eq_true rfl) dX12_cond_68 (isWord2 (S_X12_cond_9  40  (F_X12_one σ)) 28530 ((S_X12_cond_9  40  (F_X12_one σ)) 0 11) ((S_X12_cond_9  40  (F_X12_one σ)) 0 17) rfl rfl) ?_
        refine zRx.if_neB (tgt := 113) dX12_cond_71 (by decide) (fun c71 => ?_) (fun c71 => ?_)
        · refine zRx.aload_n 0 rfl rfl dX12_cond_113 ?_
          refine zRx.iload_n 1 rfl rfl dX12_cond_114 ?_
          refine zRx.if_eqB (tgt := 122) dX12_cond_115 (by decide) (fun c115 => ?_) (fun c115 => absurd c115 c61)
          refine zRx.iconst ⟨by decide, by decide⟩ dX12_cond_122 ?_
          refine zRx.cVv (M := m_X12_writeDown) (av := [.inl 1]) cv_12_484 mk_X12_writeDown (by decide) (b := 0) rfl rfl (Nat.le_of_ble_eq_true rfl) dX12_cond_123 (does_X12_writeDown (S_X12_cond_9  40  (F_X12_one σ)) 1 (wd_pre x9_hS (by decide))) ?_
          have hm2 := SV_m (SV_wd (le := 1) x9_hS)
          refine zRx.aload_n 0 rfl rfl dX12_cond_126 ?_
          refine zRx.getR (a := 0) (b := 37) fl_12_141 rfl rfl dX12_cond_127 ?_
          refine zRx.aload_n 0 rfl rfl dX12_cond_130 ?_
          refine zRx.getIv (a := 0) (ji := 67) (v := (R_X12_writeDown (S_X12_cond_9  40  (F_X12_one σ)) 1) 0 67) rfl fl_12_469 rfl rfl rfl dX12_cond_131 ?_
          refine zRx.iload_n 1 rfl rfl dX12_cond_134 ?_
          refine zRx.if_eqB (tgt := 143) dX12_cond_135 (by decide) (fun c135 => ?_) (fun c135 => absurd c135 c61)
          refine zRx.bipush ⟨by decide, by decide⟩ rfl dX12_cond_143 ?_
          refine zRx.iast rfl (by omega) (by omega) dX12_cond_145 ?_
          refine zRx.aload_n 0 rfl rfl dX12_cond_146 ?_
          refine zRx.dup rfl dX12_cond_147 ?_
          refine zRx.getIv (a := 0) (ji := 67) (v := (R_X12_writeDown (S_X12_cond_9  40  (F_X12_one σ)) 1) 0 67) (zu_ne _ _ _ _ (by decide)) fl_12_469 rfl rfl rfl dX12_cond_148 ?_
          refine zRx.iconst ⟨by decide, by decide⟩ dX12_cond_151 ?_
          refine zRx.iadd ⟨by omega, by omega⟩ dX12_cond_152 ?_
          refine zRx.putI (a := 0) (ji := 67) pl_12_469 rfl rfl rfl dX12_cond_153 ?_
          refine zRx.aload_n 0 rfl rfl dX12_cond_156 ?_
          refine zRx.cVv (M := m_X12_next) (av := []) cv_12_251 mk_X12_next (by decide) (b := 0) rfl rfl (Nat.le_of_ble_eq_true rfl) dX12_cond_157 (does_next2 (zu (zu (R_X12_writeDown (S_X12_cond_9  40  (F_X12_one σ)) 1) 37 ((R_X12_writeDown (S_X12_cond_9  40  (F_X12_one σ)) 1) 0 67) 9) 0 67 (((R_X12_writeDown (S_X12_cond_9  40  (F_X12_one σ)) 1) 0 67) + 1)) (PI_zu (by decide) (PI_zu (fun h => absurd h.1 (by decide)) (PI_R_X12_writeDown x9_hI)))) ?_
          refine zRx.goto (tgt := 0) dX12_cond_160 (by decide) ?_
          refine zRx.pick [0] (ls' := [(0, zP 0)]) rfl ?_
          have he : L_X12_cond_0  (n + 1)  σ = L_X12_cond_0  n  (F_X12_next (zu (zu (R_X12_writeDown (S_X12_cond_9  40  (F_X12_one σ)) 1) 37 ((R_X12_writeDown (S_X12_cond_9  40  (F_X12_one σ)) 1) 0 67) 9) 0 67 (((R_X12_writeDown (S_X12_cond_9  40  (F_X12_one σ)) 1) 0 67) + 1))) := by rw [L_X12_cond_0, if_neg c4, if_neg c61, if_pos c71]
          rw [he]
          exact ih  (F_X12_next (zu (zu (R_X12_writeDown (S_X12_cond_9  40  (F_X12_one σ)) 1) 37 ((R_X12_writeDown (S_X12_cond_9  40  (F_X12_one σ)) 1) 0 67) 9) 0 67 (((R_X12_writeDown (S_X12_cond_9  40  (F_X12_one σ)) 1) 0 67) + 1))) (PI_F_X12_next (PI_zu (by decide) (PI_zu (fun h => absurd h.1 (by decide)) (PI_R_X12_writeDown x9_hI)))) (SV_next (cond_push9 x9_hS)) (by have e9 : (F_X12_next (zu (zu (R_X12_writeDown (S_X12_cond_9  40  (F_X12_one σ)) 1) 37 ((R_X12_writeDown (S_X12_cond_9  40  (F_X12_one σ)) 1) 0 67) 9) 0 67 (((R_X12_writeDown (S_X12_cond_9  40  (F_X12_one σ)) 1) 0 67) + 1))) 2 1 = σ 2 1 := ((congrFun (fr_F_X12_next (zu (zu (R_X12_writeDown (S_X12_cond_9  40  (F_X12_one σ)) 1) 37 ((R_X12_writeDown (S_X12_cond_9  40  (F_X12_one σ)) 1) 0 67) 9) 0 67 (((R_X12_writeDown (S_X12_cond_9  40  (F_X12_one σ)) 1) 0 67) + 1)) (k := 2) (by decide)) _).trans ((zu_ne _ _ _ _ (by decide)).trans ((zu_ne _ _ _ _ (by decide)).trans ((congrFun (fr_R_X12_writeDown (S_X12_cond_9  40  (F_X12_one σ)) 1 (k := 2) (by decide)) _).trans ((congrFun (fr_S_X12_cond_9   40  (F_X12_one σ) (k := 2) (by decide)) _).trans (congrFun (fr_F_X12_one σ (k := 2) (by decide)) _)))))); omega) (cond_step hI hS hmz c4 c71.1 (x := 9) (le := 1) (PI_F_X12_next (PI_zu (by decide) (PI_zu (fun h => absurd h.1 (by decide)) (PI_R_X12_writeDown x9_hI)))))
        · refine zRx.aload_n 0 rfl rfl dX12_cond_74 ?_
          refine zRx.cVi (w := .inl (R_X12_isOpen (S_X12_cond_9  40  (F_X12_one σ)))) (M := m_X12_isOpen) (av := []) cv_12_481 mk_X12_isOpen (by decide) (b := 0) rfl rfl (Nat.le_of_ble_eq_true rfl) dX12_cond_75 (does_X12_isOpen (S_X12_cond_9  40  (F_X12_one σ)) (by have := SV_m x9_hS; omega)) ?_
          refine zRx.if_eq (tgt := 87) dX12_cond_78 (by decide) (fun c78 => ?_) (fun c78 => ?_)
          · refine zRx.aload_n 0 rfl rfl dX12_cond_87 ?_
            refine zRx.iconst ⟨by decide, by decide⟩ dX12_cond_88 ?_
            refine zRx.cVv (M := m_X12_writeDown) (av := [.inl 1]) cv_12_484 mk_X12_writeDown (by decide) (b := 0) rfl rfl (Nat.le_of_ble_eq_true rfl) dX12_cond_89 (does_X12_writeDown (S_X12_cond_9  40  (F_X12_one σ)) 1 (wd_pre x9_hS (by decide))) ?_
            refine zRx.aload_n 0 rfl rfl dX12_cond_92 ?_
            refine zRx.getIv (a := 0) (ji := 11) (v := (S_X12_cond_9  40  (F_X12_one σ)) 0 11) (kp_wd _ _ 11 (by decide)) fl_12_222 rfl rfl rfl dX12_cond_93 ?_
            refine zRx.if_eq (tgt := 107) dX12_cond_96 (by decide) (fun c96 => ?_) (fun c96 => ?_)
            · refine zRx.iconst ⟨by decide, by decide⟩ dX12_cond_107 ?_
              refine zRx.goto (tgt := 112) dX12_cond_108 (by decide) ?_
              exact zR.zret rfl ⟨by decide, by decide⟩ dX12_cond_112 (by have he : L_X12_cond_0  (n + 1)  σ = (1, R_X12_writeDown (S_X12_cond_9  40  (F_X12_one σ)) 1) := (by rw [L_X12_cond_0, if_neg c4, if_neg c61, if_neg c71, if_pos c78, if_pos c96]); rw [he]; exact ⟨rfl, rfl⟩)
            · refine zRx.aload_n 0 rfl rfl dX12_cond_99 ?_
              refine zRx.iconst ⟨by decide, by decide⟩ dX12_cond_100 ?_
              refine zRx.cVi (w := .inl 0) (M := m_X12_bad) (av := [.inl 1]) cv_12_248 mk_X12_bad (by decide) (b := 0) rfl rfl (Nat.le_of_ble_eq_true rfl) dX12_cond_101 (bad_eq2 (R_X12_writeDown (S_X12_cond_9  40  (F_X12_one σ)) 1) 1 ((S_X12_cond_9  40  (F_X12_one σ)) 0 12) (kp_wd _ _ 12 (by decide))) ?_
              refine zRx.if_eq (tgt := 111) dX12_cond_104 (by decide) (fun _ => ?_) (fun c104 => absurd c104 (by decide))
              refine zRx.iconst ⟨by decide, by decide⟩ dX12_cond_111 ?_
              exact zR.zret rfl ⟨by decide, by decide⟩ dX12_cond_112 (by have he : L_X12_cond_0  (n + 1)  σ = (0, zu (zu (R_X12_writeDown (S_X12_cond_9  40  (F_X12_one σ)) 1) 0 15 1) 0 16 ((S_X12_cond_9  40  (F_X12_one σ)) 0 12)) := (by rw [L_X12_cond_0, if_neg c4, if_neg c61, if_neg c71, if_pos c78, if_neg c96]); rw [he]; exact ⟨rfl, rfl⟩)
          · refine zRx.aload_n 0 rfl rfl dX12_cond_81 ?_
            refine zRx.iconst ⟨by decide, by decide⟩ dX12_cond_82 ?_
            refine zRx.cVi (w := .inl 0) (M := m_X12_bad) (av := [.inl 1]) cv_12_248 mk_X12_bad (by decide) (b := 0) rfl rfl (Nat.le_of_ble_eq_true rfl) dX12_cond_83 (bad_eq2 (S_X12_cond_9  40  (F_X12_one σ)) 1 ((S_X12_cond_9  40  (F_X12_one σ)) 0 12) rfl) ?_
            exact zR.zret rfl ⟨by decide, by decide⟩ dX12_cond_86 (by have he : L_X12_cond_0  (n + 1)  σ = (0, zu (zu (S_X12_cond_9  40  (F_X12_one σ)) 0 15 1) 0 16 ((S_X12_cond_9  40  (F_X12_one σ)) 0 12)) := (by rw [L_X12_cond_0, if_neg c4, if_neg c61, if_neg c71, if_neg c78]); rw [he]; exact ⟨rfl, rfl⟩)
    · refine zRx.iconst ⟨by decide, by decide⟩ dX12_cond_7 ?_
      exact zR.zret rfl ⟨by decide, by decide⟩ dX12_cond_8 (by have he : L_X12_cond_0  (n + 1)  σ = (0, F_X12_one σ) := (by rw [L_X12_cond_0, if_pos c4]); rw [he]; exact ⟨rfl, rfl⟩)
def R_X12_cond (σ : zG)  : Int × zG := L_X12_cond_0  1000  σ
theorem fr_R_X12_cond (σ : zG)  {k : Nat} (h : k ∉ [0, 36, 37]) : (R_X12_cond σ ).2 k = σ k := by
  have ne : ∀ c ∈ [0, 36, 37], k ≠ c := fun c hc e => h (e ▸ hc)
  have nl_S_X12_cond_9 : k ∉ [0, 36] := fun hm => h (by first | (revert hm; simp only [List.mem_cons, List.not_mem_nil, or_false]; omega) | (simp at hm))
  have nl_L_X12_cond_0 : k ∉ [0, 36, 37] := fun hm => h (by first | (revert hm; simp only [List.mem_cons, List.not_mem_nil, or_false]; omega) | (simp at hm))
  unfold R_X12_cond
  repeat' split
  all_goals first | rfl | simp only [zu_row _ _ _ (ne 0 (by decide)), zu_row _ _ _ (ne 36 (by decide)), zu_row _ _ _ (ne 37 (by decide)), fr_S_X12_cond_9 (h := nl_S_X12_cond_9), fr_L_X12_cond_0 (h := nl_L_X12_cond_0)]

set_option maxRecDepth 20000 in
theorem does_X12_cond (σ : zG)  (hI : PI σ) (hS : SV 0 σ) (hF : 0 ≤ σ 2 1 ∧ σ 2 1 ≤ 12)  : zDo SM 5 m_X12_cond [zP 0] σ (zEq (some (.inl (R_X12_cond σ ).1)) (R_X12_cond σ ).2) := by
  refine zDo.intro mk_X12_cond (Nat.le_of_ble_eq_true rfl) ?_
  have he : R_X12_cond σ  = L_X12_cond_0  1000  σ := by rw [R_X12_cond]
  rw [he]
  exact loop_X12_cond_0    1000  σ hI hS hF (by have := hI.1; omega)

theorem condL_K : ∀ (n : Nat) (σ : zG), PI σ → SV 0 σ → (L_X12_cond_0 n σ).1 ≠ 0 → SV 1 (L_X12_cond_0 n σ).2
  | 0, σ, hI, hS, h => absurd rfl h
  | n + 1, σ, hI, hS, h => by
    have h1 := one_K (p0 := σ 0 4) hI (Int.le_refl _) hS
    rw [L_X12_cond_0] at h ⊢
    split
    · next c => rw [if_pos c] at h; exact absurd rfl h
    · next c =>
      rw [if_neg c] at h
      have h2 := h1.2.2 c
      have h3 := cond9_K 40 _ h1.1 h1.2.1 h2.1 h2.2
      split
      · next c2 =>
        rw [if_pos c2] at h
        exact condL_K n _ (PI_F_X12_next (PI_zu (by decide) (PI_zu (fun h => absurd h.1 (by decide)) (PI_R_X12_writeDown h3.1)))) (SV_next (cond_push8 h3.2.2.1)) h
      · next c2 =>
        rw [if_neg c2] at h
        split
        · next c3 =>
          rw [if_pos c3] at h
          exact condL_K n _ (PI_F_X12_next (PI_zu (by decide) (PI_zu (fun h => absurd h.1 (by decide)) (PI_R_X12_writeDown h3.1)))) (SV_next (cond_push9 h3.2.2.1)) h
        · next c3 =>
          rw [if_neg c3] at h
          split
          · next c4 =>
            rw [if_pos c4] at h
            split
            · exact SV_wd h3.2.2.1
            · next c5 => rw [if_neg c5] at h; exact absurd rfl h
          · next c4 => rw [if_neg c4] at h; exact absurd rfl h
def V_X12_cond (σ : zG) : Int := (R_X12_cond σ).1
def F_X12_cond (σ : zG) : zG := (R_X12_cond σ).2
theorem does_cond2 (σ : zG) (hI : PI σ) (hS : SV 0 σ) (hF : 0 ≤ σ 2 1 ∧ σ 2 1 ≤ 12) : zDo SM 5 m_X12_cond [zP 0] σ (zEq (some (.inl (V_X12_cond σ))) (F_X12_cond σ)) := does_X12_cond σ hI hS hF
theorem fr_F_X12_cond (σ : zG) {k : Nat} (h : k ∉ [0, 36, 37]) : F_X12_cond σ k = σ k := fr_R_X12_cond σ h
theorem cond_K {σ : zG} (hI : PI σ) (hS : SV 0 σ) (h : ¬ V_X12_cond σ = 0) : SV 1 (F_X12_cond σ) := condL_K 1000 σ hI hS h
theorem SV_0 {σ : zG} (h6 : σ 0 66 = 0) (h7 : σ 0 67 = 0) (h8 : σ 0 68 = 0) : SV 0 σ := by
  unfold SV
  rw [h6, h7, h8]
  exact ⟨by decide, by decide, by decide, fun j h0 h1 => absurd h0 (by omega), (by decide : (0 : Int) ≤ 8)⟩

def S_X12_sentence_64  : Nat → Int → zG → Int × zG
  | 0, q, σ => (q, σ)
  | n + 1, q, σ => if (3 * (σ 0 66)) ≤ q then (q, σ) else (S_X12_sentence_64  n (q + 1) (zu σ 2 (474 + q) (σ 36 q)))
theorem fr_S_X12_sentence_64   (n : Nat) (q : Int) (σ : zG) {k : Nat} (h : k ∉ [2]) : (S_X12_sentence_64  n q σ).2 k = σ k := by
  induction n generalizing q σ with
  | zero => rfl
  | succ n ih =>
    have ne : ∀ c ∈ [2], k ≠ c := fun c hc e => h (e ▸ hc)
    rw [S_X12_sentence_64]
    repeat' split
    all_goals first | rfl | simp only [zu_row _ _ _ (ne 2 (by decide)), ih]

set_option maxRecDepth 20000 in
theorem seg_X12_sentence_64   : ∀ (n : Nat) (q : Int) (σ : zG) (X : zX), 0 ≤ q ∧ 0 ≤ σ 0 66 ∧ σ 0 66 ≤ 40 → (3 * σ 0 66 - q).toNat < n → (zRx none 6 m_X12_sentence SM 96 [(0, zP 0), (1, .inl ((S_X12_sentence_64  n q σ).1))] [] ((S_X12_sentence_64  n q σ).2) X) → zRx none 6 m_X12_sentence SM 64 [(0, zP 0), (1, .inl q)] [] σ X := by
  intro n
  induction n with
  | zero => intro q σ X h0 hmz; exact absurd hmz (Nat.not_lt_zero _)
  | succ n ih =>
    intro q σ X h0 hmz K
    refine zRx.iload_n 1 rfl rfl dX12_sentence_64 ?_
    refine zRx.iconst ⟨by decide, by decide⟩ dX12_sentence_65 ?_
    refine zRx.aload_n 0 rfl rfl dX12_sentence_66 ?_
    refine zRx.getIv (a := 0) (ji := 66) (v := σ 0 66) rfl fl_12_466 rfl rfl rfl dX12_sentence_67 ?_
    refine zRx.imul ⟨by omega, by omega⟩ dX12_sentence_70 ?_
    refine zRx.icmp_ge (tgt := 96) dX12_sentence_71 (by decide) (fun c71 => ?_) (fun c71 => ?_)
    · have he : S_X12_sentence_64  (n + 1) q σ = (q, σ) := by rw [S_X12_sentence_64, if_pos c71]
      rw [he] at K
      exact K
    · refine zRx.aload_n 0 rfl rfl dX12_sentence_74 ?_
      refine zRx.getR (a := 0) (b := 2) fl_12_33 rfl rfl dX12_sentence_75 ?_
      refine zRx.sipush ⟨by decide, by decide⟩ rfl dX12_sentence_78 ?_
      refine zRx.iload_n 1 rfl rfl dX12_sentence_81 ?_
      refine zRx.iadd ⟨by omega, by omega⟩ dX12_sentence_82 ?_
      refine zRx.aload_n 0 rfl rfl dX12_sentence_83 ?_
      refine zRx.getR (a := 0) (b := 36) fl_12_138 rfl rfl dX12_sentence_84 ?_
      refine zRx.iload_n 1 rfl rfl dX12_sentence_87 ?_
      refine zRx.ialdv (v := σ 36 q) rfl rfl (by omega) (by omega) dX12_sentence_88 ?_
      refine zRx.iast rfl (by omega) (by omega) dX12_sentence_89 ?_
      refine zRx.iinc (n := 1) (ls' := [(0, zP 0), (1, .inl (q + 1))]) 1 rfl ⟨by omega, by omega⟩ rfl (by decide) dX12_sentence_90 ?_
      refine zRx.goto (tgt := 64) dX12_sentence_93 (by decide) ?_
      have he : S_X12_sentence_64  (n + 1) q σ = S_X12_sentence_64  n (q + 1) (zu σ 2 (474 + q) (σ 36 q)) := by rw [S_X12_sentence_64, if_neg (Int.not_le.mpr c71)]
      rw [he] at K
      exact ih (q + 1) (zu σ 2 (474 + q) (σ 36 q)) _ (by have e9 : (zu σ 2 (474 + q) (σ 36 q)) 0 66 = σ 0 66 := (zu_ne _ _ _ _ (by decide)); omega) (by have e9 : (zu σ 2 (474 + q) (σ 36 q)) 0 66 = σ 0 66 := (zu_ne _ _ _ _ (by decide)); omega) K
def R_X12_sentence (σ : zG)  : Int × zG := if (V_X12_cond (F_X12_next (zu (zu (zu (zu (F_X12_taken (zu σ 0 0 0) 200) 0 15 0) 0 66 0) 0 67 0) 0 68 0))) = 0 then (w32 ((-1) - ((F_X12_cond (F_X12_next (zu (zu (zu (zu (F_X12_taken (zu σ 0 0 0) 200) 0 15 0) 0 66 0) 0 67 0) 0 68 0))) 0 16)), F_X12_cond (F_X12_next (zu (zu (zu (zu (F_X12_taken (zu σ 0 0 0) 200) 0 15 0) 0 66 0) 0 67 0) 0 68 0))) else ((F_X12_cond (F_X12_next (zu (zu (zu (zu (F_X12_taken (zu σ 0 0 0) 200) 0 15 0) 0 66 0) 0 67 0) 0 68 0))) 0 68, (S_X12_sentence_64  200 0 (zu (F_X12_cond (F_X12_next (zu (zu (zu (zu (F_X12_taken (zu σ 0 0 0) 200) 0 15 0) 0 66 0) 0 67 0) 0 68 0))) 2 473 ((F_X12_cond (F_X12_next (zu (zu (zu (zu (F_X12_taken (zu σ 0 0 0) 200) 0 15 0) 0 66 0) 0 67 0) 0 68 0))) 0 66))).2)
theorem fr_R_X12_sentence (σ : zG)  {k : Nat} (h : k ∉ [0, 2, 36, 37]) : (R_X12_sentence σ ).2 k = σ k := by
  have ne : ∀ c ∈ [0, 2, 36, 37], k ≠ c := fun c hc e => h (e ▸ hc)
  have nk_F_X12_cond : k ∉ [0, 36, 37] := fun hm => h (by first | (revert hm; simp only [List.mem_cons, List.not_mem_nil, or_false]; omega) | (simp at hm))
  have nk_F_X12_next : k ∉ [0] := fun hm => h (by first | (revert hm; simp only [List.mem_cons, List.not_mem_nil, or_false]; omega) | (simp at hm))
  have nk_taken : k ∉ [0] := fun hm => h (by first | (revert hm; simp only [List.mem_cons, List.not_mem_nil, or_false]; omega) | (simp at hm))
  have nk_S_X12_sentence_64 : k ∉ [2] := fun hm => h (by first | (revert hm; simp only [List.mem_cons, List.not_mem_nil, or_false]; omega) | (simp at hm))
  have nl_S_X12_sentence_64 : k ∉ [2] := fun hm => h (by first | (revert hm; simp only [List.mem_cons, List.not_mem_nil, or_false]; omega) | (simp at hm))
  unfold R_X12_sentence
  repeat' split
  all_goals first | rfl | simp only [zu_row _ _ _ (ne 0 (by decide)), zu_row _ _ _ (ne 2 (by decide)), zu_row _ _ _ (ne 36 (by decide)), zu_row _ _ _ (ne 37 (by decide)), fr_F_X12_cond (h := nk_F_X12_cond), fr_F_X12_next (h := nk_F_X12_next), fr_taken (h := nk_taken), fr_S_X12_sentence_64 (h := nk_S_X12_sentence_64), fr_S_X12_sentence_64 (h := nl_S_X12_sentence_64)]

set_option maxRecDepth 20000 in
theorem does_X12_sentence (σ : zG)  (hl : σ 0 2 ≤ 940) (hF : 0 ≤ σ 2 1 ∧ σ 2 1 ≤ 12)  : zDo SM 6 m_X12_sentence [zP 0] σ (zEq (some (.inl (R_X12_sentence σ ).1)) (R_X12_sentence σ ).2) := by
  refine zDo.intro mk_X12_sentence (Nat.le_of_ble_eq_true rfl) ?_
  refine zRx.aload_n 0 rfl rfl dX12_sentence_0 ?_
  refine zRx.iconst ⟨by decide, by decide⟩ dX12_sentence_1 ?_
  refine zRx.putI (a := 0) (ji := 0) pl_12_1 rfl rfl rfl dX12_sentence_2 ?_
  refine zRx.aload_n 0 rfl rfl dX12_sentence_5 ?_
  refine zRx.sipush ⟨by decide, by decide⟩ rfl dX12_sentence_6 ?_
  refine zRx.cVv (M := m_X12_taken) (av := [.inl 200]) cv_12_304 mk_X12_taken (by decide) (b := 0) rfl rfl (Nat.le_of_ble_eq_true rfl) dX12_sentence_9 (does_X12_taken (zu σ 0 0 0) 200) ?_
  refine zRx.aload_n 0 rfl rfl dX12_sentence_12 ?_
  refine zRx.iconst ⟨by decide, by decide⟩ dX12_sentence_13 ?_
  refine zRx.putI (a := 0) (ji := 15) pl_12_239 rfl rfl rfl dX12_sentence_14 ?_
  refine zRx.aload_n 0 rfl rfl dX12_sentence_17 ?_
  refine zRx.iconst ⟨by decide, by decide⟩ dX12_sentence_18 ?_
  refine zRx.putI (a := 0) (ji := 66) pl_12_466 rfl rfl rfl dX12_sentence_19 ?_
  refine zRx.aload_n 0 rfl rfl dX12_sentence_22 ?_
  refine zRx.iconst ⟨by decide, by decide⟩ dX12_sentence_23 ?_
  refine zRx.putI (a := 0) (ji := 67) pl_12_469 rfl rfl rfl dX12_sentence_24 ?_
  refine zRx.aload_n 0 rfl rfl dX12_sentence_27 ?_
  refine zRx.iconst ⟨by decide, by decide⟩ dX12_sentence_28 ?_
  refine zRx.putI (a := 0) (ji := 68) pl_12_490 rfl rfl rfl dX12_sentence_29 ?_
  refine zRx.aload_n 0 rfl rfl dX12_sentence_32 ?_
  refine zRx.cVv (M := m_X12_next) (av := []) cv_12_251 mk_X12_next (by decide) (b := 0) rfl rfl (Nat.le_of_ble_eq_true rfl) dX12_sentence_33 (does_next2 (zu (zu (zu (zu (F_X12_taken (zu σ 0 0 0) 200) 0 15 0) 0 66 0) 0 67 0) 0 68 0) (PI_zu (by decide) (PI_zu (by decide) (PI_zu (by decide) (PI_zu (by decide) (PI_taken (by have e9 : (zu σ 0 0 0) 0 2 = σ 0 2 := (zu_off _ _ _ (by decide)); omega))))))) ?_
  refine zRx.aload_n 0 rfl rfl dX12_sentence_36 ?_
  refine zRx.cVi (w := .inl (V_X12_cond (F_X12_next (zu (zu (zu (zu (F_X12_taken (zu σ 0 0 0) 200) 0 15 0) 0 66 0) 0 67 0) 0 68 0)))) (M := m_X12_cond) (av := []) cv_12_499 mk_X12_cond (by decide) (b := 0) rfl rfl (Nat.le_of_ble_eq_true rfl) dX12_sentence_37 (does_cond2 (F_X12_next (zu (zu (zu (zu (F_X12_taken (zu σ 0 0 0) 200) 0 15 0) 0 66 0) 0 67 0) 0 68 0)) (PI_F_X12_next (PI_zu (by decide) (PI_zu (by decide) (PI_zu (by decide) (PI_zu (by decide) (PI_taken (by have e9 : (zu σ 0 0 0) 0 2 = σ 0 2 := (zu_off _ _ _ (by decide)); omega))))))) (SV_0 ((kp_next _ 66 (by unfold KI; decide)).trans ((zu_off _ _ _ (by decide)).trans ((zu_off _ _ _ (by decide)).trans (zu_at _ _ _ _)))) ((kp_next _ 67 (by unfold KI; decide)).trans ((zu_off _ _ _ (by decide)).trans (zu_at _ _ _ _))) ((kp_next _ 68 (by unfold KI; decide)).trans (zu_at _ _ _ _))) (by have e9 : (F_X12_next (zu (zu (zu (zu (F_X12_taken (zu σ 0 0 0) 200) 0 15 0) 0 66 0) 0 67 0) 0 68 0)) 2 1 = σ 2 1 := ((congrFun (fr_F_X12_next (zu (zu (zu (zu (F_X12_taken (zu σ 0 0 0) 200) 0 15 0) 0 66 0) 0 67 0) 0 68 0) (k := 2) (by decide)) _).trans ((zu_ne _ _ _ _ (by decide)).trans ((zu_ne _ _ _ _ (by decide)).trans ((zu_ne _ _ _ _ (by decide)).trans ((zu_ne _ _ _ _ (by decide)).trans ((congrFun (fr_taken (zu σ 0 0 0) 200 (k := 2) (by decide)) _).trans (zu_ne _ _ _ _ (by decide)))))))); omega)) ?_
  refine zRx.if_ne (tgt := 50) dX12_sentence_40 (by decide) (fun c40 => ?_) (fun c40 => ?_)
  · have hk := SV_m (cond_K (PI_F_X12_next (PI_zu (by decide) (PI_zu (by decide) (PI_zu (by decide) (PI_zu (by decide) (PI_taken (by have e9 : (zu σ 0 0 0) 0 2 = σ 0 2 := (zu_off _ _ _ (by decide)); omega))))))) (SV_0 ((kp_next _ 66 (by unfold KI; decide)).trans ((zu_off _ _ _ (by decide)).trans ((zu_off _ _ _ (by decide)).trans (zu_at _ _ _ _)))) ((kp_next _ 67 (by unfold KI; decide)).trans ((zu_off _ _ _ (by decide)).trans (zu_at _ _ _ _))) ((kp_next _ 68 (by unfold KI; decide)).trans (zu_at _ _ _ _))) c40)
    refine zRx.aload_n 0 rfl rfl dX12_sentence_50 ?_
    refine zRx.getR (a := 0) (b := 2) fl_12_33 rfl rfl dX12_sentence_51 ?_
    refine zRx.sipush ⟨by decide, by decide⟩ rfl dX12_sentence_54 ?_
    refine zRx.aload_n 0 rfl rfl dX12_sentence_57 ?_
    refine zRx.getIv (a := 0) (ji := 66) (v := (F_X12_cond (F_X12_next (zu (zu (zu (zu (F_X12_taken (zu σ 0 0 0) 200) 0 15 0) 0 66 0) 0 67 0) 0 68 0))) 0 66) rfl fl_12_466 rfl rfl rfl dX12_sentence_58 ?_
    refine zRx.iast rfl (by decide) (by decide) dX12_sentence_61 ?_
    refine zRx.iconst ⟨by decide, by decide⟩ dX12_sentence_62 ?_
    refine zRx.istore_n (ls' := [(0, zP 0), (1, .inl 0)]) rfl rfl (by decide) dX12_sentence_63 ?_
    refine seg_X12_sentence_64    200 0 (zu (F_X12_cond (F_X12_next (zu (zu (zu (zu (F_X12_taken (zu σ 0 0 0) 200) 0 15 0) 0 66 0) 0 67 0) 0 68 0))) 2 473 ((F_X12_cond (F_X12_next (zu (zu (zu (zu (F_X12_taken (zu σ 0 0 0) 200) 0 15 0) 0 66 0) 0 67 0) 0 68 0))) 0 66)) _ (by have e9 : (zu (F_X12_cond (F_X12_next (zu (zu (zu (zu (F_X12_taken (zu σ 0 0 0) 200) 0 15 0) 0 66 0) 0 67 0) 0 68 0))) 2 473 ((F_X12_cond (F_X12_next (zu (zu (zu (zu (F_X12_taken (zu σ 0 0 0) 200) 0 15 0) 0 66 0) 0 67 0) 0 68 0))) 0 66)) 0 66 = (F_X12_cond (F_X12_next (zu (zu (zu (zu (F_X12_taken (zu σ 0 0 0) 200) 0 15 0) 0 66 0) 0 67 0) 0 68 0))) 0 66 := (zu_ne _ _ _ _ (by decide)); omega) (by have e9 : (zu (F_X12_cond (F_X12_next (zu (zu (zu (zu (F_X12_taken (zu σ 0 0 0) 200) 0 15 0) 0 66 0) 0 67 0) 0 68 0))) 2 473 ((F_X12_cond (F_X12_next (zu (zu (zu (zu (F_X12_taken (zu σ 0 0 0) 200) 0 15 0) 0 66 0) 0 67 0) 0 68 0))) 0 66)) 0 66 = (F_X12_cond (F_X12_next (zu (zu (zu (zu (F_X12_taken (zu σ 0 0 0) 200) 0 15 0) 0 66 0) 0 67 0) 0 68 0))) 0 66 := (zu_ne _ _ _ _ (by decide)); omega) ?_
    refine zRx.aload_n 0 rfl rfl dX12_sentence_96 ?_
    refine zRx.getIv (a := 0) (ji := 68) (v := (F_X12_cond (F_X12_next (zu (zu (zu (zu (F_X12_taken (zu σ 0 0 0) 200) 0 15 0) 0 66 0) 0 67 0) 0 68 0))) 0 68) ((congrFun (fr_S_X12_sentence_64   200 0 (zu (F_X12_cond (F_X12_next (zu (zu (zu (zu (F_X12_taken (zu σ 0 0 0) 200) 0 15 0) 0 66 0) 0 67 0) 0 68 0))) 2 473 ((F_X12_cond (F_X12_next (zu (zu (zu (zu (F_X12_taken (zu σ 0 0 0) 200) 0 15 0) 0 66 0) 0 67 0) 0 68 0))) 0 66)) (k := 0) (by decide)) _).trans (zu_ne _ _ _ _ (by decide))) fl_12_490 rfl rfl rfl dX12_sentence_97 ?_
    exact zR.iret rfl dX12_sentence_100 (by have he : R_X12_sentence σ  = ((F_X12_cond (F_X12_next (zu (zu (zu (zu (F_X12_taken (zu σ 0 0 0) 200) 0 15 0) 0 66 0) 0 67 0) 0 68 0))) 0 68, (S_X12_sentence_64  200 0 (zu (F_X12_cond (F_X12_next (zu (zu (zu (zu (F_X12_taken (zu σ 0 0 0) 200) 0 15 0) 0 66 0) 0 67 0) 0 68 0))) 2 473 ((F_X12_cond (F_X12_next (zu (zu (zu (zu (F_X12_taken (zu σ 0 0 0) 200) 0 15 0) 0 66 0) 0 67 0) 0 68 0))) 0 66))).2) := (by rw [R_X12_sentence, if_neg c40]); rw [he]; exact ⟨rfl, rfl⟩)
  · refine zRx.iconst ⟨by decide, by decide⟩ dX12_sentence_43 ?_
    refine zRx.aload_n 0 rfl rfl dX12_sentence_44 ?_
    refine zRx.getIv (a := 0) (ji := 16) (v := (F_X12_cond (F_X12_next (zu (zu (zu (zu (F_X12_taken (zu σ 0 0 0) 200) 0 15 0) 0 66 0) 0 67 0) 0 68 0))) 0 16) rfl fl_12_242 rfl rfl rfl dX12_sentence_45 ?_
    refine zRx.isubW dX12_sentence_48 ?_
    exact zR.iret rfl dX12_sentence_49 (by have he : R_X12_sentence σ  = (w32 ((-1) - ((F_X12_cond (F_X12_next (zu (zu (zu (zu (F_X12_taken (zu σ 0 0 0) 200) 0 15 0) 0 66 0) 0 67 0) 0 68 0))) 0 16)), F_X12_cond (F_X12_next (zu (zu (zu (zu (F_X12_taken (zu σ 0 0 0) 200) 0 15 0) 0 66 0) 0 67 0) 0 68 0))) := (by rw [R_X12_sentence, if_pos c40]); rw [he]; exact ⟨rfl, rfl⟩)

