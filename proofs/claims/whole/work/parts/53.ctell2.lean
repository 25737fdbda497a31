/-! the class: tellings settled -/
theorem TUR_swap {σ : zG} {i j : Int} (h : TUR σ) (hi : 0 ≤ i ∧ i < σ 91 0) (hj : 0 ≤ j ∧ j < σ 91 0) : TUR (F_X8_swap σ i j) := by
  have e : F_X8_swap σ i j 91 = σ 91 := fr_F_X8_swap σ i j (by decide)
  intro k k0 k1
  rw [e] at k1 ⊢
  have h1 := h i hi.1 hi.2
  have h2 := h j hj.1 hj.2
  have h3 := h k k0 k1
  unfold F_X8_swap
  rw [zu_if]
  split
  · exact h1
  · rw [zu_if]
    split
    · exact h2
    · exact h3
theorem nt91_K : ∀ (n : Nat) (a b : Int) (σ : zG), TUR σ → 0 ≤ a → b < σ 91 0 → TUR (L_X8_nextTurns_91 n a b σ).2
  | 0, a, b, σ, h, _, _ => h
  | n + 1, a, b, σ, h, h0, h1 => by
    rw [L_X8_nextTurns_91]
    split
    · exact h
    · have e : F_X8_swap σ a b 91 = σ 91 := fr_F_X8_swap σ a b (by decide)
      exact nt91_K n (a + 1) (b + (-1)) _ (TUR_swap h (by omega) (by omega)) (by omega) (by rw [e]; omega)
theorem nt7_s : ∀ (n : Nat) (lw : Int) (σ : zG), (S_X8_nextTurns_7 n lw σ).2 = σ ∧ (S_X8_nextTurns_7 n lw σ).1 ≤ lw
  | 0, lw, σ => ⟨rfl, Int.le_refl _⟩
  | n + 1, lw, σ => by
    rw [S_X8_nextTurns_7]
    repeat' split
    all_goals first | exact ⟨rfl, Int.le_refl _⟩ | (have h9 := nt7_s n (lw + (-1)) σ; exact ⟨h9.1, by omega⟩)
theorem nt47_s (lw : Int) : ∀ (n : Nat) (hg : Int) (σ : zG), (S_X8_nextTurns_47 lw n hg σ).2 = σ ∧ (S_X8_nextTurns_47 lw n hg σ).1 ≤ hg ∧ (lw ≤ hg → lw ≤ (S_X8_nextTurns_47 lw n hg σ).1)
  | 0, hg, σ => ⟨rfl, Int.le_refl _, fun h => h⟩
  | n + 1, hg, σ => by
    rw [S_X8_nextTurns_47]
    repeat' split
    all_goals first | exact ⟨rfl, Int.le_refl _, fun h => h⟩ | (have h9 := nt47_s lw n (hg + (-1)) σ; exact ⟨h9.1, by omega, fun h => h9.2.2 (by omega)⟩)
theorem nt_K {σ : zG} (h : TUR σ) : TUR (R_X8_nextTurns σ).2 := by
  unfold R_X8_nextTurns
  split
  · next c =>
    have h7 := nt7_s 10 (σ 91 0 - 2) σ
    have h47 := nt47_s (S_X8_nextTurns_7 10 (σ 91 0 - 2) σ).1 10 (σ 91 0 - 1) σ
    rw [h7.1, h47.1]
    have e : ∀ i j : Int, F_X8_swap σ i j 91 = σ 91 := fun i j => fr_F_X8_swap σ i j (by decide)
    have h48 := h47.2.2 (by omega)
    refine nt91_K _ _ _ _ (TUR_swap h ⟨c, by omega⟩ ⟨by omega, by omega⟩) (by omega) (by rw [e]; omega)
  · rw [(nt7_s 10 (σ 91 0 - 2) σ).1]
    exact h

theorem settle_U {σ : zG} {q : Int} (h0 : 0 ≤ q ∧ q ≤ σ 91 0 ∧ σ 91 0 ≤ 5) (hq : ∀ j : Int, 0 ≤ j → j < q → σ 95 j = j) (c : σ 91 0 ≤ q) : TUR σ := by
  intro j j0 j1
  rw [hq j j0 (by omega)]
  omega

def S_X8_settle_7  : Nat → Int → zG → Int × zG
  | 0, q, σ => (q, σ)
  | n + 1, q, σ => if (σ 91 0) ≤ q then (q, σ) else (S_X8_settle_7  n (q + 1) (zu σ 95 q q))
theorem fr_S_X8_settle_7   (n : Nat) (q : Int) (σ : zG) {k : Nat} (h : k ∉ [95]) : (S_X8_settle_7  n q σ).2 k = σ k := by
  induction n generalizing q σ with
  | zero => rfl
  | succ n ih =>
    have ne : ∀ c ∈ [95], k ≠ c := fun c hc e => h (e ▸ hc)
    rw [S_X8_settle_7]
    repeat' split
    all_goals first | rfl | simp only [zu_row _ _ _ (ne 95 (by decide)), ih]

set_option maxRecDepth 20000 in
theorem seg_X8_settle_7   : ∀ (n : Nat) (q : Int) (σ : zG) (X : zX), 0 ≤ q ∧ q ≤ σ 91 0 ∧ σ 91 0 ≤ 5 → (∀ j : Int, 0 ≤ j → j < q → σ 95 j = j) → (σ 91 0 - q).toNat < n → ((0 ≤ ((S_X8_settle_7  n q σ).1) ∧ ((S_X8_settle_7  n q σ).1) ≤ ((S_X8_settle_7  n q σ).2) 91 0 ∧ ((S_X8_settle_7  n q σ).2) 91 0 ≤ 5) → (∀ j : Int, 0 ≤ j → j < ((S_X8_settle_7  n q σ).1) → ((S_X8_settle_7  n q σ).2) 95 j = j) → (TUR ((S_X8_settle_7  n q σ).2)) → zRx none 6 m_X8_settle SC 28 [(0, zP 91), (1, zP 53), (2, zP 67), (3, .inl ((S_X8_settle_7  n q σ).1))] [] ((S_X8_settle_7  n q σ).2) X) → zRx none 6 m_X8_settle SC 7 [(0, zP 91), (1, zP 53), (2, zP 67), (3, .inl q)] [] σ X := by
  intro n
  induction n with
  | zero => intro q σ X h0 hq hmz; exact absurd hmz (Nat.not_lt_zero _)
  | succ n ih =>
    intro q σ X h0 hq hmz K
    refine zRx.iload_n 3 rfl rfl dX8_settle_7 ?_
    refine zRx.aload_n 0 rfl rfl dX8_settle_8 ?_
    refine zRx.getIv (a := 91) (ji := 0) (v := σ 91 0) rfl fl_8_33 rfl rfl rfl dX8_settle_9 ?_
    refine zRx.icmp_ge (tgt := 28) dX8_settle_12 (by decide) (fun c12 => ?_) (fun c12 => ?_)
    · have he : S_X8_settle_7  (n + 1) q σ = (q, σ) := by rw [S_X8_settle_7, if_pos c12]
      rw [he] at K
      exact K h0 hq (settle_U h0 hq c12)
    · refine zRx.aload_n 0 rfl rfl dX8_settle_15 ?_
      refine zRx.getR (a := 91) (b := 95) fl_8_21 rfl rfl dX8_settle_16 ?_
      refine zRx.iload_n 3 rfl rfl dX8_settle_19 ?_
      refine zRx.iload_n 3 rfl rfl dX8_settle_20 ?_
      refine zRx.iast rfl (by omega) (by omega) dX8_settle_21 ?_
      refine zRx.iinc (n := 1) (ls' := [(0, zP 91), (1, zP 53), (2, zP 67), (3, .inl (q + 1))]) 3 rfl ⟨by omega, by omega⟩ rfl (by decide) dX8_settle_22 ?_
      refine zRx.goto (tgt := 7) dX8_settle_25 (by decide) ?_
      have he : S_X8_settle_7  (n + 1) q σ = S_X8_settle_7  n (q + 1) (zu σ 95 q q) := by rw [S_X8_settle_7, if_neg (Int.not_le.mpr c12)]
      rw [he] at K
      exact ih (q + 1) (zu σ 95 q q) _ (by have e9 : (zu σ 95 q q) 91 0 = σ 91 0 := (zu_ne _ _ _ _ (by decide)); omega) (fun j j0 j1 => by rw [zu_if]; split <;> first | (symm; assumption) | exact hq j j0 (by omega)) (by have e9 : (zu σ 95 q q) 91 0 = σ 91 0 := (zu_ne _ _ _ _ (by decide)); omega) K
def L_X8_settle_41  : Nat → Int → Int → Int → Int → zG → Int × zG
  | 0, _, _, _, _, σ => (0, σ)
  | n + 1, le, fw, mo, q, σ => if 120 ≤ q then (le, zu σ 91 5 (σ 91 0)) else (if mo = 0 then (le, zu σ 91 5 (σ 91 0)) else (if (V_X4_owedInAllt ((R_X8_tryTurns (F_X4_goBackTo σ)).2)) < le then (L_X8_settle_41  n (V_X4_owedInAllt ((R_X8_tryTurns (F_X4_goBackTo σ)).2)) ((R_X8_tryTurns (F_X4_goBackTo σ)).1) ((R_X8_nextTurns (zcp ((R_X8_tryTurns (F_X4_goBackTo σ)).2) 95 96 0 0 (σ 91 0))).1) (q + 1) ((R_X8_nextTurns (zcp ((R_X8_tryTurns (F_X4_goBackTo σ)).2) 95 96 0 0 (σ 91 0))).2)) else (if (V_X4_owedInAllt ((R_X8_tryTurns (F_X4_goBackTo σ)).2)) = le then (if fw ≤ ((R_X8_tryTurns (F_X4_goBackTo σ)).1) then (L_X8_settle_41  n le fw ((R_X8_nextTurns ((R_X8_tryTurns (F_X4_goBackTo σ)).2)).1) (q + 1) ((R_X8_nextTurns ((R_X8_tryTurns (F_X4_goBackTo σ)).2)).2)) else (L_X8_settle_41  n (V_X4_owedInAllt ((R_X8_tryTurns (F_X4_goBackTo σ)).2)) ((R_X8_tryTurns (F_X4_goBackTo σ)).1) ((R_X8_nextTurns (zcp ((R_X8_tryTurns (F_X4_goBackTo σ)).2) 95 96 0 0 (σ 91 0))).1) (q + 1) ((R_X8_nextTurns (zcp ((R_X8_tryTurns (F_X4_goBackTo σ)).2) 95 96 0 0 (σ 91 0))).2))) else (L_X8_settle_41  n le fw ((R_X8_nextTurns ((R_X8_tryTurns (F_X4_goBackTo σ)).2)).1) (q + 1) ((R_X8_nextTurns ((R_X8_tryTurns (F_X4_goBackTo σ)).2)).2)))))
theorem fr_L_X8_settle_41   (n : Nat) (le fw mo q : Int) (σ : zG) {k : Nat} (h : k ∉ [67, 68, 69, 71, 77, 79, 80, 91, 95, 96]) : (L_X8_settle_41  n le fw mo q σ).2 k = σ k := by
  induction n generalizing le fw mo q σ with
  | zero => rfl
  | succ n ih =>
    have ne : ∀ c ∈ [67, 68, 69, 71, 77, 79, 80, 91, 95, 96], k ≠ c := fun c hc e => h (e ▸ hc)
    have nk_R_X8_nextTurns : k ∉ [95] := fun hm => h (by first | (revert hm; simp only [List.mem_cons, List.not_mem_nil, or_false]; omega) | (simp at hm))
    have nk_zcp_96 : k ∉ [96] := fun hm => h (by first | (revert hm; simp only [List.mem_cons, List.not_mem_nil, or_false]; omega) | (simp at hm))
    have nk_R_X8_tryTurns : k ∉ [67, 68, 69, 71, 77, 79, 80] := fun hm => h (by first | (revert hm; simp only [List.mem_cons, List.not_mem_nil, or_false]; omega) | (simp at hm))
    have nk_F_X4_goBackTo : k ∉ [67, 68, 77] := fun hm => h (by first | (revert hm; simp only [List.mem_cons, List.not_mem_nil, or_false]; omega) | (simp at hm))
    rw [L_X8_settle_41]
    repeat' split
    all_goals first | rfl | simp only [zu_row _ _ _ (ne 67 (by decide)), zu_row _ _ _ (ne 68 (by decide)), zu_row _ _ _ (ne 69 (by decide)), zu_row _ _ _ (ne 71 (by decide)), zu_row _ _ _ (ne 77 (by decide)), zu_row _ _ _ (ne 79 (by decide)), zu_row _ _ _ (ne 80 (by decide)), zu_row _ _ _ (ne 91 (by decide)), zu_row _ _ _ (ne 95 (by decide)), zu_row _ _ _ (ne 96 (by decide)), fr_R_X8_nextTurns (h := nk_R_X8_nextTurns), fr_zcp (h := nk_zcp_96), fr_R_X8_tryTurns (h := nk_R_X8_tryTurns), fr_F_X4_goBackTo (h := nk_F_X4_goBackTo), ih]

set_option maxRecDepth 20000 in
theorem loop_X8_settle_41   : ∀ (n : Nat) (le fw mo q : Int) (σ : zG), 0 ≤ q → 1 ≤ σ 91 0 ∧ σ 91 0 ≤ 5 → σ 5 0 ≤ 8 → σ 5 2 ≤ 8 → σ 5 1 ≤ 12 → σ 67 8 ≤ 128 → TEL σ → TUR σ → (120 - q).toNat < n → zR SC 6 m_X8_settle 41 [(0, zP 91), (1, zP 53), (2, zP 67), (3, .inl le), (4, .inl fw), (5, .inl mo), (6, .inl q)] [] σ (zEq (some (.inl (L_X8_settle_41  n le fw mo q σ).1)) (L_X8_settle_41  n le fw mo q σ).2) := by
  intro n
  induction n with
  | zero => intro le fw mo q σ h0 hM hp hs hF hm hT hU hmz; exact absurd hmz (Nat.not_lt_zero _)
  | succ n ih =>
    intro le fw mo q σ h0 hM hp hs hF hm hT hU hmz
    refine zRx.iload 6 rfl dX8_settle_41 ?_
    refine zRx.bipush ⟨by decide, by decide⟩ rfl dX8_settle_43 ?_
    refine zRx.icmp_ge (tgt := 126) dX8_settle_45 (by decide) (fun c45 => ?_) (fun c45 => ?_)
    · refine zRx.aload_n 0 rfl rfl dX8_settle_126 ?_
      refine zRx.aload_n 0 rfl rfl dX8_settle_127 ?_
      refine zRx.getIv (a := 91) (ji := 0) (v := σ 91 0) rfl fl_8_33 rfl rfl rfl dX8_settle_128 ?_
      refine zRx.putI (a := 91) (ji := 5) pl_8_76 rfl rfl rfl dX8_settle_131 ?_
      refine zRx.iload_n 3 rfl rfl dX8_settle_134 ?_
      exact zR.iret rfl dX8_settle_135 (by have he : L_X8_settle_41  (n + 1) le fw mo q σ = (le, zu σ 91 5 (σ 91 0)) := (by rw [L_X8_settle_41, if_pos c45]); rw [he]; exact ⟨rfl, rfl⟩)
    · refine zRx.iload 5 rfl dX8_settle_48 ?_
      refine zRx.if_eq (tgt := 126) dX8_settle_50 (by decide) (fun c50 => ?_) (fun c50 => ?_)
      · refine zRx.aload_n 0 rfl rfl dX8_settle_126 ?_
        refine zRx.aload_n 0 rfl rfl dX8_settle_127 ?_
        refine zRx.getIv (a := 91) (ji := 0) (v := σ 91 0) rfl fl_8_33 rfl rfl rfl dX8_settle_128 ?_
        refine zRx.putI (a := 91) (ji := 5) pl_8_76 rfl rfl rfl dX8_settle_131 ?_
        refine zRx.iload_n 3 rfl rfl dX8_settle_134 ?_
        exact zR.iret rfl dX8_settle_135 (by have he : L_X8_settle_41  (n + 1) le fw mo q σ = (le, zu σ 91 5 (σ 91 0)) := (by rw [L_X8_settle_41, if_neg (Int.not_le.mpr c45), if_pos c50]); rw [he]; exact ⟨rfl, rfl⟩)
      · refine zRx.aload_n 2 rfl rfl dX8_settle_53 ?_
        refine zRx.aload_n 1 rfl rfl dX8_settle_54 ?_
        refine zRx.cVv (M := m_X4_goBackTo) (av := [zP 53]) cv_8_55 mk_X4_goBackTo (by decide) (b := 67) rfl rfl (Nat.le_of_ble_eq_true rfl) dX8_settle_55 (does_X4_goBackTo σ) ?_
        refine zRx.aload_n 0 rfl rfl dX8_settle_58 ?_
        refine zRx.aload_n 2 rfl rfl dX8_settle_59 ?_
        refine zRx.cVi (w := .inl ((R_X8_tryTurns (F_X4_goBackTo σ)).1)) (M := m_X8_tryTurns) (av := [zP 67]) cv_8_58 mk_X8_tryTurns (by decide) (b := 91) rfl rfl (Nat.le_of_ble_eq_true rfl) dX8_settle_60 (does_X8_tryTurns (F_X4_goBackTo σ) (by have e9 : (F_X4_goBackTo σ) 91 0 = σ 91 0 := (congrFun (fr_F_X4_goBackTo σ (k := 91) (by decide)) _); omega) (by have e9 : (F_X4_goBackTo σ) 5 0 = σ 5 0 := (congrFun (fr_F_X4_goBackTo σ (k := 5) (by decide)) _); omega) (by have e9 : (F_X4_goBackTo σ) 5 2 = σ 5 2 := (congrFun (fr_F_X4_goBackTo σ (k := 5) (by decide)) _); omega) (by have e9 : (F_X4_goBackTo σ) 5 1 = σ 5 1 := (congrFun (fr_F_X4_goBackTo σ (k := 5) (by decide)) _); omega) (by have e9 : (F_X4_goBackTo σ) 67 8 = σ 67 8 := (goBackTo_m _); omega) (TEL_row (congrFun (fr_F_X4_goBackTo σ (k := 91) (by decide)) _) (fr_F_X4_goBackTo σ (k := 93) (by decide)) (fr_F_X4_goBackTo σ (k := 94) (by decide)) (fr_F_X4_goBackTo σ (k := 11) (by decide)) hT) (TUR_row (congrFun (fr_F_X4_goBackTo σ (k := 91) (by decide)) _) (fr_F_X4_goBackTo σ (k := 95) (by decide)) hU)) ?_
        refine zRx.istore (ls' := [(0, zP 91), (1, zP 53), (2, zP 67), (3, .inl le), (4, .inl fw), (5, .inl mo), (6, .inl q), (7, .inl ((R_X8_tryTurns (F_X4_goBackTo σ)).1))]) rfl (by decide) dX8_settle_63 ?_
        refine zRx.aload_n 2 rfl rfl dX8_settle_65 ?_
        refine zRx.cVi (w := .inl (V_X4_owedInAllt ((R_X8_tryTurns (F_X4_goBackTo σ)).2))) (M := m_X4_owedInAll) (av := []) cv_8_62 mk_X4_owedInAll (by decide) (b := 67) rfl rfl (Nat.le_of_ble_eq_true rfl) dX8_settle_66 (does_X4_owedInAllt ((R_X8_tryTurns (F_X4_goBackTo σ)).2) (by have e9 : ((R_X8_tryTurns (F_X4_goBackTo σ)).2) 67 8 = σ 67 8 := ((tryL_m _ _ _ _).trans (goBackTo_m _)); omega)) ?_
        refine zRx.istore (ls' := [(0, zP 91), (1, zP 53), (2, zP 67), (3, .inl le), (4, .inl fw), (5, .inl mo), (6, .inl q), (7, .inl ((R_X8_tryTurns (F_X4_goBackTo σ)).1)), (8, .inl (V_X4_owedInAllt ((R_X8_tryTurns (F_X4_goBackTo σ)).2)))]) rfl (by decide) dX8_settle_69 ?_
        refine zRx.iload 8 rfl dX8_settle_71 ?_
        refine zRx.iload_n 3 rfl rfl dX8_settle_73 ?_
        refine zRx.icmp_lt (tgt := 90) dX8_settle_74 (by decide) (fun c74 => ?_) (fun c74 => ?_)
        · refine zRx.iload 8 rfl dX8_settle_90 ?_
          refine zRx.istore_n (ls' := [(0, zP 91), (1, zP 53), (2, zP 67), (3, .inl (V_X4_owedInAllt ((R_X8_tryTurns (F_X4_goBackTo σ)).2))), (4, .inl fw), (5, .inl mo), (6, .inl q), (7, .inl ((R_X8_tryTurns (F_X4_goBackTo σ)).1)), (8, .inl (V_X4_owedInAllt ((R_X8_tryTurns (F_X4_goBackTo σ)).2)))]) rfl rfl (by decide) dX8_settle_92 ?_
          refine zRx.iload 7 rfl dX8_settle_93 ?_
          refine zRx.istore (ls' := [(0, zP 91), (1, zP 53), (2, zP 67), (3, .inl (V_X4_owedInAllt ((R_X8_tryTurns (F_X4_goBackTo σ)).2))), (4, .inl ((R_X8_tryTurns (F_X4_goBackTo σ)).1)), (5, .inl mo), (6, .inl q), (7, .inl ((R_X8_tryTurns (F_X4_goBackTo σ)).1)), (8, .inl (V_X4_owedInAllt ((R_X8_tryTurns (F_X4_goBackTo σ)).2)))]) rfl (by decide) dX8_settle_95 ?_
          refine zRx.aload_n 0 rfl rfl dX8_settle_97 ?_
          refine zRx.getR (a := 91) (b := 95) fl_8_21 rfl rfl dX8_settle_98 ?_
          refine zRx.iconst ⟨by decide, by decide⟩ dX8_settle_101 ?_
          refine zRx.aload_n 0 rfl rfl dX8_settle_102 ?_
          refine zRx.getR (a := 91) (b := 96) fl_8_24 rfl rfl dX8_settle_103 ?_
          refine zRx.iconst ⟨by decide, by decide⟩ dX8_settle_106 ?_
          refine zRx.aload_n 0 rfl rfl dX8_settle_107 ?_
          refine zRx.getIv (a := 91) (ji := 0) (v := σ 91 0) ((congrFun (fr_R_X8_tryTurns (F_X4_goBackTo σ) (k := 91) (by decide)) _).trans (congrFun (fr_F_X4_goBackTo σ (k := 91) (by decide)) _)) fl_8_33 rfl rfl rfl dX8_settle_108 ?_
          refine zRx.acopy rfl rfl ac_8_66 (by decide) (Nat.le_of_ble_eq_true rfl) (by omega) (by omega) (by omega) (by omega) (by omega) dX8_settle_111 ?_
          refine zRx.aload_n 0 rfl rfl dX8_settle_114 ?_
          refine zRx.cVi (w := .inl ((R_X8_nextTurns (zcp ((R_X8_tryTurns (F_X4_goBackTo σ)).2) 95 96 0 0 (σ 91 0))).1)) (M := m_X8_nextTurns) (av := []) cv_8_72 mk_X8_nextTurns (by decide) (b := 91) rfl rfl (Nat.le_of_ble_eq_true rfl) dX8_settle_115 (does_X8_nextTurns (zcp ((R_X8_tryTurns (F_X4_goBackTo σ)).2) 95 96 0 0 (σ 91 0)) (by have e9 : (zcp ((R_X8_tryTurns (F_X4_goBackTo σ)).2) 95 96 0 0 (σ 91 0)) 91 0 = σ 91 0 := ((congrFun (fr_zcp ((R_X8_tryTurns (F_X4_goBackTo σ)).2) 95 96 0 0 (σ 91 0) (k := 91) (by decide)) _).trans ((congrFun (fr_R_X8_tryTurns (F_X4_goBackTo σ) (k := 91) (by decide)) _).trans (congrFun (fr_F_X4_goBackTo σ (k := 91) (by decide)) _))); omega)) ?_
          refine zRx.istore (ls' := [(0, zP 91), (1, zP 53), (2, zP 67), (3, .inl (V_X4_owedInAllt ((R_X8_tryTurns (F_X4_goBackTo σ)).2))), (4, .inl ((R_X8_tryTurns (F_X4_goBackTo σ)).1)), (5, .inl ((R_X8_nextTurns (zcp ((R_X8_tryTurns (F_X4_goBackTo σ)).2) 95 96 0 0 (σ 91 0))).1)), (6, .inl q), (7, .inl ((R_X8_tryTurns (F_X4_goBackTo σ)).1)), (8, .inl (V_X4_owedInAllt ((R_X8_tryTurns (F_X4_goBackTo σ)).2)))]) rfl (by decide) dX8_settle_118 ?_
          refine zRx.iinc (n := 1) (ls' := [(0, zP 91), (1, zP 53), (2, zP 67), (3, .inl (V_X4_owedInAllt ((R_X8_tryTurns (F_X4_goBackTo σ)).2))), (4, .inl ((R_X8_tryTurns (F_X4_goBackTo σ)).1)), (5, .inl ((R_X8_nextTurns (zcp ((R_X8_tryTurns (F_X4_goBackTo σ)).2) 95 96 0 0 (σ 91 0))).1)), (6, .inl (q + 1)), (7, .inl ((R_X8_tryTurns (F_X4_goBackTo σ)).1)), (8, .inl (V_X4_owedInAllt ((R_X8_tryTurns (F_X4_goBackTo σ)).2)))]) 6 rfl ⟨by omega, by omega⟩ rfl (by decide) dX8_settle_120 ?_
          refine zRx.goto (tgt := 41) dX8_settle_123 (by decide) ?_
          refine zRx.pick [0, 1, 2, 3, 4, 5, 6] (ls' := [(0, zP 91), (1, zP 53), (2, zP 67), (3, .inl (V_X4_owedInAllt ((R_X8_tryTurns (F_X4_goBackTo σ)).2))), (4, .inl ((R_X8_tryTurns (F_X4_goBackTo σ)).1)), (5, .inl ((R_X8_nextTurns (zcp ((R_X8_tryTurns (F_X4_goBackTo σ)).2) 95 96 0 0 (σ 91 0))).1)), (6, .inl (q + 1))]) rfl ?_
          have he : L_X8_settle_41  (n + 1) le fw mo q σ = L_X8_settle_41  n (V_X4_owedInAllt ((R_X8_tryTurns (F_X4_goBackTo σ)).2)) ((R_X8_tryTurns (F_X4_goBackTo σ)).1) ((R_X8_nextTurns (zcp ((R_X8_tryTurns (F_X4_goBackTo σ)).2) 95 96 0 0 (σ 91 0))).1) (q + 1) ((R_X8_nextTurns (zcp ((R_X8_tryTurns (F_X4_goBackTo σ)).2) 95 96 0 0 (σ 91 0))).2) := by rw [L_X8_settle_41, if_neg (Int.not_le.mpr c45), if_neg c50, if_pos c74]
          rw [he]
          exact ih (V_X4_owedInAllt ((R_X8_tryTurns (F_X4_goBackTo σ)).2)) ((R_X8_tryTurns (F_X4_goBackTo σ)).1) ((R_X8_nextTurns (zcp ((R_X8_tryTurns (F_X4_goBackTo σ)).2) 95 96 0 0 (σ 91 0))).1) (q + 1) ((R_X8_nextTurns (zcp ((R_X8_tryTurns (F_X4_goBackTo σ)).2) 95 96 0 0 (σ 91 0))).2) (by omega) (by have e9 : ((R_X8_nextTurns (zcp ((R_X8_tryTurns (F_X4_goBackTo σ)).2) 95 96 0 0 (σ 91 0))).2) 91 0 = σ 91 0 := ((congrFun (fr_R_X8_nextTurns (zcp ((R_X8_tryTurns (F_X4_goBackTo σ)).2) 95 96 0 0 (σ 91 0)) (k := 91) (by decide)) _).trans ((congrFun (fr_zcp ((R_X8_tryTurns (F_X4_goBackTo σ)).2) 95 96 0 0 (σ 91 0) (k := 91) (by decide)) _).trans ((congrFun (fr_R_X8_tryTurns (F_X4_goBackTo σ) (k := 91) (by decide)) _).trans (congrFun (fr_F_X4_goBackTo σ (k := 91) (by decide)) _)))); omega) (by have e9 : ((R_X8_nextTurns (zcp ((R_X8_tryTurns (F_X4_goBackTo σ)).2) 95 96 0 0 (σ 91 0))).2) 5 0 = σ 5 0 := ((congrFun (fr_R_X8_nextTurns (zcp ((R_X8_tryTurns (F_X4_goBackTo σ)).2) 95 96 0 0 (σ 91 0)) (k := 5) (by decide)) _).trans ((congrFun (fr_zcp ((R_X8_tryTurns (F_X4_goBackTo σ)).2) 95 96 0 0 (σ 91 0) (k := 5) (by decide)) _).trans ((congrFun (fr_R_X8_tryTurns (F_X4_goBackTo σ) (k := 5) (by decide)) _).trans (congrFun (fr_F_X4_goBackTo σ (k := 5) (by decide)) _)))); omega) (by have e9 : ((R_X8_nextTurns (zcp ((R_X8_tryTurns (F_X4_goBackTo σ)).2) 95 96 0 0 (σ 91 0))).2) 5 2 = σ 5 2 := ((congrFun (fr_R_X8_nextTurns (zcp ((R_X8_tryTurns (F_X4_goBackTo σ)).2) 95 96 0 0 (σ 91 0)) (k := 5) (by decide)) _).trans ((congrFun (fr_zcp ((R_X8_tryTurns (F_X4_goBackTo σ)).2) 95 96 0 0 (σ 91 0) (k := 5) (by decide)) _).trans ((congrFun (fr_R_X8_tryTurns (F_X4_goBackTo σ) (k := 5) (by decide)) _).trans (congrFun (fr_F_X4_goBackTo σ (k := 5) (by decide)) _)))); omega) (by have e9 : ((R_X8_nextTurns (zcp ((R_X8_tryTurns (F_X4_goBackTo σ)).2) 95 96 0 0 (σ 91 0))).2) 5 1 = σ 5 1 := ((congrFun (fr_R_X8_nextTurns (zcp ((R_X8_tryTurns (F_X4_goBackTo σ)).2) 95 96 0 0 (σ 91 0)) (k := 5) (by decide)) _).trans ((congrFun (fr_zcp ((R_X8_tryTurns (F_X4_goBackTo σ)).2) 95 96 0 0 (σ 91 0) (k := 5) (by decide)) _).trans ((congrFun (fr_R_X8_tryTurns (F_X4_goBackTo σ) (k := 5) (by decide)) _).trans (congrFun (fr_F_X4_goBackTo σ (k := 5) (by decide)) _)))); omega) (by have e9 : ((R_X8_nextTurns (zcp ((R_X8_tryTurns (F_X4_goBackTo σ)).2) 95 96 0 0 (σ 91 0))).2) 67 8 = σ 67 8 := ((congrFun (fr_R_X8_nextTurns (zcp ((R_X8_tryTurns (F_X4_goBackTo σ)).2) 95 96 0 0 (σ 91 0)) (k := 67) (by decide)) _).trans ((congrFun (fr_zcp ((R_X8_tryTurns (F_X4_goBackTo σ)).2) 95 96 0 0 (σ 91 0) (k := 67) (by decide)) _).trans ((tryL_m _ _ _ _).trans (goBackTo_m _)))); omega) (TEL_row ((congrFun (fr_R_X8_nextTurns (zcp ((R_X8_tryTurns (F_X4_goBackTo σ)).2) 95 96 0 0 (σ 91 0)) (k := 91) (by decide)) _).trans ((congrFun (fr_zcp ((R_X8_tryTurns (F_X4_goBackTo σ)).2) 95 96 0 0 (σ 91 0) (k := 91) (by decide)) _).trans ((congrFun (fr_R_X8_tryTurns (F_X4_goBackTo σ) (k := 91) (by decide)) _).trans (congrFun (fr_F_X4_goBackTo σ (k := 91) (by decide)) _)))) ((fr_R_X8_nextTurns (zcp ((R_X8_tryTurns (F_X4_goBackTo σ)).2) 95 96 0 0 (σ 91 0)) (k := 93) (by decide)).trans ((fr_zcp ((R_X8_tryTurns (F_X4_goBackTo σ)).2) 95 96 0 0 (σ 91 0) (k := 93) (by decide)).trans ((fr_R_X8_tryTurns (F_X4_goBackTo σ) (k := 93) (by decide)).trans (fr_F_X4_goBackTo σ (k := 93) (by decide))))) ((fr_R_X8_nextTurns (zcp ((R_X8_tryTurns (F_X4_goBackTo σ)).2) 95 96 0 0 (σ 91 0)) (k := 94) (by decide)).trans ((fr_zcp ((R_X8_tryTurns (F_X4_goBackTo σ)).2) 95 96 0 0 (σ 91 0) (k := 94) (by decide)).trans ((fr_R_X8_tryTurns (F_X4_goBackTo σ) (k := 94) (by decide)).trans (fr_F_X4_goBackTo σ (k := 94) (by decide))))) ((fr_R_X8_nextTurns (zcp ((R_X8_tryTurns (F_X4_goBackTo σ)).2) 95 96 0 0 (σ 91 0)) (k := 11) (by decide)).trans ((fr_zcp ((R_X8_tryTurns (F_X4_goBackTo σ)).2) 95 96 0 0 (σ 91 0) (k := 11) (by decide)).trans ((fr_R_X8_tryTurns (F_X4_goBackTo σ) (k := 11) (by decide)).trans (fr_F_X4_goBackTo σ (k := 11) (by decide))))) hT) (nt_K (TUR_row ((congrFun (fr_zcp ((R_X8_tryTurns (F_X4_goBackTo σ)).2) 95 96 0 0 (σ 91 0) (k := 91) (by decide)) _).trans ((congrFun (fr_R_X8_tryTurns (F_X4_goBackTo σ) (k := 91) (by decide)) _).trans (congrFun (fr_F_X4_goBackTo σ (k := 91) (by decide)) _))) ((fr_zcp ((R_X8_tryTurns (F_X4_goBackTo σ)).2) 95 96 0 0 (σ 91 0) (k := 95) (by decide)).trans ((fr_R_X8_tryTurns (F_X4_goBackTo σ) (k := 95) (by decide)).trans (fr_F_X4_goBackTo σ (k := 95) (by decide)))) hU)) (by omega)
        · refine zRx.iload 8 rfl dX8_settle_77 ?_
          refine zRx.iload_n 3 rfl rfl dX8_settle_79 ?_
          refine zRx.icmp_ne (tgt := 114) dX8_settle_80 (by decide) (fun c80 => ?_) (fun c80 => ?_)
          · refine zRx.aload_n 0 rfl rfl dX8_settle_114 ?_
            refine zRx.cVi (w := .inl ((R_X8_nextTurns ((R_X8_tryTurns (F_X4_goBackTo σ)).2)).1)) (M := m_X8_nextTurns) (av := []) cv_8_72 mk_X8_nextTurns (by decide) (b := 91) rfl rfl (Nat.le_of_ble_eq_true rfl) dX8_settle_115 (does_X8_nextTurns ((R_X8_tryTurns (F_X4_goBackTo σ)).2) (by have e9 : ((R_X8_tryTurns (F_X4_goBackTo σ)).2) 91 0 = σ 91 0 := ((congrFun (fr_R_X8_tryTurns (F_X4_goBackTo σ) (k := 91) (by decide)) _).trans (congrFun (fr_F_X4_goBackTo σ (k := 91) (by decide)) _)); omega)) ?_
            refine zRx.istore (ls' := [(0, zP 91), (1, zP 53), (2, zP 67), (3, .inl le), (4, .inl fw), (5, .inl ((R_X8_nextTurns ((R_X8_tryTurns (F_X4_goBackTo σ)).2)).1)), (6, .inl q), (7, .inl ((R_X8_tryTurns (F_X4_goBackTo σ)).1)), (8, .inl (V_X4_owedInAllt ((R_X8_tryTurns (F_X4_goBackTo σ)).2)))]) rfl (by decide) dX8_settle_118 ?_
            refine zRx.iinc (n := 1) (ls' := [(0, zP 91), (1, zP 53), (2, zP 67), (3, .inl le), (4, .inl fw), (5, .inl ((R_X8_nextTurns ((R_X8_tryTurns (F_X4_goBackTo σ)).2)).1)), (6, .inl (q + 1)), (7, .inl ((R_X8_tryTurns (F_X4_goBackTo σ)).1)), (8, .inl (V_X4_owedInAllt ((R_X8_tryTurns (F_X4_goBackTo σ)).2)))]) 6 rfl ⟨by omega, by omega⟩ rfl (by decide) dX8_settle_120 ?_
            refine zRx.goto (tgt := 41) dX8_settle_123 (by decide) ?_
            refine zRx.pick [0, 1, 2, 3, 4, 5, 6] (ls' := [(0, zP 91), (1, zP 53), (2, zP 67), (3, .inl le), (4, .inl fw), (5, .inl ((R_X8_nextTurns ((R_X8_tryTurns (F_X4_goBackTo σ)).2)).1)), (6, .inl (q + 1))]) rfl ?_
            have he : L_X8_settle_41  (n + 1) le fw mo q σ = L_X8_settle_41  n le fw ((R_X8_nextTurns ((R_X8_tryTurns (F_X4_goBackTo σ)).2)).1) (q + 1) ((R_X8_nextTurns ((R_X8_tryTurns (F_X4_goBackTo σ)).2)).2) := by rw [L_X8_settle_41, if_neg (Int.not_le.mpr c45), if_neg c50, if_neg (Int.not_lt.mpr c74), if_neg c80]
            rw [he]
            exact ih le fw ((R_X8_nextTurns ((R_X8_tryTurns (F_X4_goBackTo σ)).2)).1) (q + 1) ((R_X8_nextTurns ((R_X8_tryTurns (F_X4_goBackTo σ)).2)).2) (by omega) (by have e9 : ((R_X8_nextTurns ((R_X8_tryTurns (F_X4_goBackTo σ)).2)).2) 91 0 = σ 91 0 := ((congrFun (fr_R_X8_nextTurns ((R_X8_tryTurns (F_X4_goBackTo σ)).2) (k := 91) (by decide)) _).trans ((congrFun (fr_R_X8_tryTurns (F_X4_goBackTo σ) (k := 91) (by decide)) _).trans (congrFun (fr_F_X4_goBackTo σ (k := 91) (by decide)) _))); omega) (by have e9 : ((R_X8_nextTurns ((R_X8_tryTurns (F_X4_goBackTo σ)).2)).2) 5 0 = σ 5 0 := ((congrFun (fr_R_X8_nextTurns ((R_X8_tryTurns (F_X4_goBackTo σ)).2) (k := 5) (by decide)) _).trans ((congrFun (fr_R_X8_tryTurns (F_X4_goBackTo σ) (k := 5) (by decide)) _).trans (congrFun (fr_F_X4_goBackTo σ (k := 5) (by decide)) _))); omega) (by have e9 : ((R_X8_nextTurns ((R_X8_tryTurns (F_X4_goBackTo σ)).2)).2) 5 2 = σ 5 2 := ((congrFun (fr_R_X8_nextTurns ((R_X8_tryTurns (F_X4_goBackTo σ)).2) (k := 5) (by decide)) _).trans ((congrFun (fr_R_X8_tryTurns (F_X4_goBackTo σ) (k := 5) (by decide)) _).trans (congrFun (fr_F_X4_goBackTo σ (k := 5) (by decide)) _))); omega) (by have e9 : ((R_X8_nextTurns ((R_X8_tryTurns (F_X4_goBackTo σ)).2)).2) 5 1 = σ 5 1 := ((congrFun (fr_R_X8_nextTurns ((R_X8_tryTurns (F_X4_goBackTo σ)).2) (k := 5) (by decide)) _).trans ((congrFun (fr_R_X8_tryTurns (F_X4_goBackTo σ) (k := 5) (by decide)) _).trans (congrFun (fr_F_X4_goBackTo σ (k := 5) (by decide)) _))); omega) (by have e9 : ((R_X8_nextTurns ((R_X8_tryTurns (F_X4_goBackTo σ)).2)).2) 67 8 = σ 67 8 := ((congrFun (fr_R_X8_nextTurns ((R_X8_tryTurns (F_X4_goBackTo σ)).2) (k := 67) (by decide)) _).trans ((tryL_m _ _ _ _).trans (goBackTo_m _))); omega) (TEL_row ((congrFun (fr_R_X8_nextTurns ((R_X8_tryTurns (F_X4_goBackTo σ)).2) (k := 91) (by decide)) _).trans ((congrFun (fr_R_X8_tryTurns (F_X4_goBackTo σ) (k := 91) (by decide)) _).trans (congrFun (fr_F_X4_goBackTo σ (k := 91) (by decide)) _))) ((fr_R_X8_nextTurns ((R_X8_tryTurns (F_X4_goBackTo σ)).2) (k := 93) (by decide)).trans ((fr_R_X8_tryTurns (F_X4_goBackTo σ) (k := 93) (by decide)).trans (fr_F_X4_goBackTo σ (k := 93) (by decide)))) ((fr_R_X8_nextTurns ((R_X8_tryTurns (F_X4_goBackTo σ)).2) (k := 94) (by decide)).trans ((fr_R_X8_tryTurns (F_X4_goBackTo σ) (k := 94) (by decide)).trans (fr_F_X4_goBackTo σ (k := 94) (by decide)))) ((fr_R_X8_nextTurns ((R_X8_tryTurns (F_X4_goBackTo σ)).2) (k := 11) (by decide)).trans ((fr_R_X8_tryTurns (F_X4_goBackTo σ) (k := 11) (by decide)).trans (fr_F_X4_goBackTo σ (k := 11) (by decide)))) hT) (nt_K (TUR_row ((congrFun (fr_R_X8_tryTurns (F_X4_goBackTo σ) (k := 91) (by decide)) _).trans (congrFun (fr_F_X4_goBackTo σ (k := 91) (by decide)) _)) ((fr_R_X8_tryTurns (F_X4_goBackTo σ) (k := 95) (by decide)).trans (fr_F_X4_goBackTo σ (k := 95) (by decide))) hU)) (by omega)
          · refine zRx.iload 7 rfl dX8_settle_83 ?_
            refine zRx.iload 4 rfl dX8_settle_85 ?_
            refine zRx.icmp_ge (tgt := 114) dX8_settle_87 (by decide) (fun c87 => ?_) (fun c87 => ?_)
            · refine zRx.aload_n 0 rfl rfl dX8_settle_114 ?_
              refine zRx.cVi (w := .inl ((R_X8_nextTurns ((R_X8_tryTurns (F_X4_goBackTo σ)).2)).1)) (M := m_X8_nextTurns) (av := []) cv_8_72 mk_X8_nextTurns (by decide) (b := 91) rfl rfl (Nat.le_of_ble_eq_true rfl) dX8_settle_115 (does_X8_nextTurns ((R_X8_tryTurns (F_X4_goBackTo σ)).2) (by have e9 : ((R_X8_tryTurns (F_X4_goBackTo σ)).2) 91 0 = σ 91 0 := ((congrFun (fr_R_X8_tryTurns (F_X4_goBackTo σ) (k := 91) (by decide)) _).trans (congrFun (fr_F_X4_goBackTo σ (k := 91) (by decide)) _)); omega)) ?_
              refine zRx.istore (ls' := [(0, zP 91), (1, zP 53), (2, zP 67), (3, .inl le), (4, .inl fw), (5, .inl ((R_X8_nextTurns ((R_X8_tryTurns (F_X4_goBackTo σ)).2)).1)), (6, .inl q), (7, .inl ((R_X8_tryTurns (F_X4_goBackTo σ)).1)), (8, .inl (V_X4_owedInAllt ((R_X8_tryTurns (F_X4_goBackTo σ)).2)))]) rfl (by decide) dX8_settle_118 ?_
              refine zRx.iinc (n := 1) (ls' := [(0, zP 91), (1, zP 53), (2, zP 67), (3, .inl le), (4, .inl fw), (5, .inl ((R_X8_nextTurns ((R_X8_tryTurns (F_X4_goBackTo σ)).2)).1)), (6, .inl (q + 1)), (7, .inl ((R_X8_tryTurns (F_X4_goBackTo σ)).1)), (8, .inl (V_X4_owedInAllt ((R_X8_tryTurns (F_X4_goBackTo σ)).2)))]) 6 rfl ⟨by omega, by omega⟩ rfl (by decide) dX8_settle_120 ?_
              refine zRx.goto (tgt := 41) dX8_settle_123 (by decide) ?_
              refine zRx.pick [0, 1, 2, 3, 4, 5, 6] (ls' := [(0, zP 91), (1, zP 53), (2, zP 67), (3, .inl le), (4, .inl fw), (5, .inl ((R_X8_nextTurns ((R_X8_tryTurns (F_X4_goBackTo σ)).2)).1)), (6, .inl (q + 1))]) rfl ?_
              have he : L_X8_settle_41  (n + 1) le fw mo q σ = L_X8_settle_41  n le fw ((R_X8_nextTurns ((R_X8_tryTurns (F_X4_goBackTo σ)).2)).1) (q + 1) ((R_X8_nextTurns ((R_X8_tryTurns (F_X4_goBackTo σ)).2)).2) := by rw [L_X8_settle_41, if_neg (Int.not_le.mpr c45), if_neg c50, if_neg (Int.not_lt.mpr c74), if_pos c80, if_pos c87]
              rw [he]
              exact ih le fw ((R_X8_nextTurns ((R_X8_tryTurns (F_X4_goBackTo σ)).2)).1) (q + 1) ((R_X8_nextTurns ((R_X8_tryTurns (F_X4_goBackTo σ)).2)).2) (by omega) (by have e9 : ((R_X8_nextTurns ((R_X8_tryTurns (F_X4_goBackTo σ)).2)).2) 91 0 = σ 91 0 := ((congrFun (fr_R_X8_nextTurns ((R_X8_tryTurns (F_X4_goBackTo σ)).2) (k := 91) (by decide)) _).trans ((congrFun (fr_R_X8_tryTurns (F_X4_goBackTo σ) (k := 91) (by decide)) _).trans (congrFun (fr_F_X4_goBackTo σ (k := 91) (by decide)) _))); omega) (by have e9 : ((R_X8_nextTurns ((R_X8_tryTurns (F_X4_goBackTo σ)).2)).2) 5 0 = σ 5 0 := ((congrFun (fr_R_X8_nextTurns ((R_X8_tryTurns (F_X4_goBackTo σ)).2) (k := 5) (by decide)) _).trans ((congrFun (fr_R_X8_tryTurns (F_X4_goBackTo σ) (k := 5) (by decide)) _).trans (congrFun (fr_F_X4_goBackTo σ (k := 5) (by decide)) _))); omega) (by have e9 : ((R_X8_nextTurns ((R_X8_tryTurns (F_X4_goBackTo σ)).2)).2) 5 2 = σ 5 2 := ((congrFun (fr_R_X8_nextTurns ((R_X8_tryTurns (F_X4_goBackTo σ)).2) (k := 5) (by decide)) _).trans ((congrFun (fr_R_X8_tryTurns (F_X4_goBackTo σ) (k := 5) (by decide)) _).trans (congrFun (fr_F_X4_goBackTo σ (k := 5) (by decide)) _))); omega) (by have e9 : ((R_X8_nextTurns ((R_X8_tryTurns (F_X4_goBackTo σ)).2)).2) 5 1 = σ 5 1 := ((congrFun (fr_R_X8_nextTurns ((R_X8_tryTurns (F_X4_goBackTo σ)).2) (k := 5) (by decide)) _).trans ((congrFun (fr_R_X8_tryTurns (F_X4_goBackTo σ) (k := 5) (by decide)) _).trans (congrFun (fr_F_X4_goBackTo σ (k := 5) (by decide)) _))); omega) (by have e9 : ((R_X8_nextTurns ((R_X8_tryTurns (F_X4_goBackTo σ)).2)).2) 67 8 = σ 67 8 := ((congrFun (fr_R_X8_nextTurns ((R_X8_tryTurns (F_X4_goBackTo σ)).2) (k := 67) (by decide)) _).trans ((tryL_m _ _ _ _).trans (goBackTo_m _))); omega) (TEL_row ((congrFun (fr_R_X8_nextTurns ((R_X8_tryTurns (F_X4_goBackTo σ)).2) (k := 91) (by decide)) _).trans ((congrFun (fr_R_X8_tryTurns (F_X4_goBackTo σ) (k := 91) (by decide)) _).trans (congrFun (fr_F_X4_goBackTo σ (k := 91) (by decide)) _))) ((fr_R_X8_nextTurns ((R_X8_tryTurns (F_X4_goBackTo σ)).2) (k := 93) (by decide)).trans ((fr_R_X8_tryTurns (F_X4_goBackTo σ) (k := 93) (by decide)).trans (fr_F_X4_goBackTo σ (k := 93) (by decide)))) ((fr_R_X8_nextTurns ((R_X8_tryTurns (F_X4_goBackTo σ)).2) (k := 94) (by decide)).trans ((fr_R_X8_tryTurns (F_X4_goBackTo σ) (k := 94) (by decide)).trans (fr_F_X4_goBackTo σ (k := 94) (by decide)))) ((fr_R_X8_nextTurns ((R_X8_tryTurns (F_X4_goBackTo σ)).2) (k := 11) (by decide)).trans ((fr_R_X8_tryTurns (F_X4_goBackTo σ) (k := 11) (by decide)).trans (fr_F_X4_goBackTo σ (k := 11) (by decide)))) hT) (nt_K (TUR_row ((congrFun (fr_R_X8_tryTurns (F_X4_goBackTo σ) (k := 91) (by decide)) _).trans (congrFun (fr_F_X4_goBackTo σ (k := 91) (by decide)) _)) ((fr_R_X8_tryTurns (F_X4_goBackTo σ) (k := 95) (by decide)).trans (fr_F_X4_goBackTo σ (k := 95) (by decide))) hU)) (by omega)
            · refine zRx.iload 8 rfl dX8_settle_90 ?_
              refine zRx.istore_n (ls' := [(0, zP 91), (1, zP 53), (2, zP 67), (3, .inl (V_X4_owedInAllt ((R_X8_tryTurns (F_X4_goBackTo σ)).2))), (4, .inl fw), (5, .inl mo), (6, .inl q), (7, .inl ((R_X8_tryTurns (F_X4_goBackTo σ)).1)), (8, .inl (V_X4_owedInAllt ((R_X8_tryTurns (F_X4_goBackTo σ)).2)))]) rfl rfl (by decide) dX8_settle_92 ?_
              refine zRx.iload 7 rfl dX8_settle_93 ?_
              refine zRx.istore (ls' := [(0, zP 91), (1, zP 53), (2, zP 67), (3, .inl (V_X4_owedInAllt ((R_X8_tryTurns (F_X4_goBackTo σ)).2))), (4, .inl ((R_X8_tryTurns (F_X4_goBackTo σ)).1)), (5, .inl mo), (6, .inl q), (7, .inl ((R_X8_tryTurns (F_X4_goBackTo σ)).1)), (8, .inl (V_X4_owedInAllt ((R_X8_tryTurns (F_X4_goBackTo σ)).2)))]) rfl (by decide) dX8_settle_95 ?_
              refine zRx.aload_n 0 rfl rfl dX8_settle_97 ?_
              refine zRx.getR (a := 91) (b := 95) fl_8_21 rfl rfl dX8_settle_98 ?_
              refine zRx.iconst ⟨by decide, by decide⟩ dX8_settle_101 ?_
              refine zRx.aload_n 0 rfl rfl dX8_settle_102 ?_
              refine zRx.getR (a := 91) (b := 96) fl_8_24 rfl rfl dX8_settle_103 ?_
              refine zRx.iconst ⟨by decide, by decide⟩ dX8_settle_106 ?_
              refine zRx.aload_n 0 rfl rfl dX8_settle_107 ?_
              refine zRx.getIv (a := 91) (ji := 0) (v := σ 91 0) ((congrFun (fr_R_X8_tryTurns (F_X4_goBackTo σ) (k := 91) (by decide)) _).trans (congrFun (fr_F_X4_goBackTo σ (k := 91) (by decide)) _)) fl_8_33 rfl rfl rfl dX8_settle_108 ?_
              refine zRx.acopy rfl rfl ac_8_66 (by decide) (Nat.le_of_ble_eq_true rfl) (by omega) (by omega) (by omega) (by omega) (by omega) dX8_settle_111 ?_
              refine zRx.aload_n 0 rfl rfl dX8_settle_114 ?_
              refine zRx.cVi (w := .inl ((R_X8_nextTurns (zcp ((R_X8_tryTurns (F_X4_goBackTo σ)).2) 95 96 0 0 (σ 91 0))).1)) (M := m_X8_nextTurns) (av := []) cv_8_72 mk_X8_nextTurns (by decide) (b := 91) rfl rfl (Nat.le_of_ble_eq_true rfl) dX8_settle_115 (does_X8_nextTurns (zcp ((R_X8_tryTurns (F_X4_goBackTo σ)).2) 95 96 0 0 (σ 91 0)) (by have e9 : (zcp ((R_X8_tryTurns (F_X4_goBackTo σ)).2) 95 96 0 0 (σ 91 0)) 91 0 = σ 91 0 := ((congrFun (fr_zcp ((R_X8_tryTurns (F_X4_goBackTo σ)).2) 95 96 0 0 (σ 91 0) (k := 91) (by decide)) _).trans ((congrFun (fr_R_X8_tryTurns (F_X4_goBackTo σ) (k := 91) (by decide)) _).trans (congrFun (fr_F_X4_goBackTo σ (k := 91) (by decide)) _))); omega)) ?_
              refine zRx.istore (ls' := [(0, zP 91), (1, zP 53), (2, zP 67), (3, .inl (V_X4_owedInAllt ((R_X8_tryTurns (F_X4_goBackTo σ)).2))), (4, .inl ((R_X8_tryTurns (F_X4_goBackTo σ)).1)), (5, .inl ((R_X8_nextTurns (zcp ((R_X8_tryTurns (F_X4_goBackTo σ)).2) 95 96 0 0 (σ 91 0))).1)), (6, .inl q), (7, .inl ((R_X8_tryTurns (F_X4_goBackTo σ)).1)), (8, .inl (V_X4_owedInAllt ((R_X8_tryTurns (F_X4_goBackTo σ)).2)))]) rfl (by decide) dX8_settle_118 ?_
              refine zRx.iinc (n := 1) (ls' := [(0, zP 91), (1, zP 53), (2, zP 67), (3, .inl (V_X4_owedInAllt ((R_X8_tryTurns (F_X4_goBackTo σ)).2))), (4, .inl ((R_X8_tryTurns (F_X4_goBackTo σ)).1)), (5, .inl ((R_X8_nextTurns (zcp ((R_X8_tryTurns (F_X4_goBackTo σ)).2) 95 96 0 0 (σ 91 0))).1)), (6, .inl (q + 1)), (7, .inl ((R_X8_tryTurns (F_X4_goBackTo σ)).1)), (8, .inl (V_X4_owedInAllt ((R_X8_tryTurns (F_X4_goBackTo σ)).2)))]) 6 rfl ⟨by omega, by omega⟩ rfl (by decide) dX8_settle_120 ?_
              refine zRx.goto (tgt := 41) dX8_settle_123 (by decide) ?_
              refine zRx.pick [0, 1, 2, 3, 4, 5, 6] (ls' := [(0, zP 91), (1, zP 53), (2, zP 67), (3, .inl (V_X4_owedInAllt ((R_X8_tryTurns (F_X4_goBackTo σ)).2))), (4, .inl ((R_X8_tryTurns (F_X4_goBackTo σ)).1)), (5, .inl ((R_X8_nextTurns (zcp ((R_X8_tryTurns (F_X4_goBackTo σ)).2) 95 96 0 0 (σ 91 0))).1)), (6, .inl (q + 1))]) rfl ?_
              have he : L_X8_settle_41  (n + 1) le fw mo q σ = L_X8_settle_41  n (V_X4_owedInAllt ((R_X8_tryTurns (F_X4_goBackTo σ)).2)) ((R_X8_tryTurns (F_X4_goBackTo σ)).1) ((R_X8_nextTurns (zcp ((R_X8_tryTurns (F_X4_goBackTo σ)).2) 95 96 0 0 (σ 91 0))).1) (q + 1) ((R_X8_nextTurns (zcp ((R_X8_tryTurns (F_X4_goBackTo σ)).2) 95 96 0 0 (σ 91 0))).2) := by rw [L_X8_settle_41, if_neg (Int.not_le.mpr c45), if_neg c50, if_neg (Int.not_lt.mpr c74), if_pos c80, if_neg (Int.not_le.mpr c87)]
              rw [he]
              exact ih (V_X4_owedInAllt ((R_X8_tryTurns (F_X4_goBackTo σ)).2)) ((R_X8_tryTurns (F_X4_goBackTo σ)).1) ((R_X8_nextTurns (zcp ((R_X8_tryTurns (F_X4_goBackTo σ)).2) 95 96 0 0 (σ 91 0))).1) (q + 1) ((R_X8_nextTurns (zcp ((R_X8_tryTurns (F_X4_goBackTo σ)).2) 95 96 0 0 (σ 91 0))).2) (by omega) (by have e9 : ((R_X8_nextTurns (zcp ((R_X8_tryTurns (F_X4_goBackTo σ)).2) 95 96 0 0 (σ 91 0))).2) 91 0 = σ 91 0 := ((congrFun (fr_R_X8_nextTurns (zcp ((R_X8_tryTurns (F_X4_goBackTo σ)).2) 95 96 0 0 (σ 91 0)) (k := 91) (by decide)) _).trans ((congrFun (fr_zcp ((R_X8_tryTurns (F_X4_goBackTo σ)).2) 95 96 0 0 (σ 91 0) (k := 91) (by decide)) _).trans ((congrFun (fr_R_X8_tryTurns (F_X4_goBackTo σ) (k := 91) (by decide)) _).trans (congrFun (fr_F_X4_goBackTo σ (k := 91) (by decide)) _)))); omega) (by have e9 : ((R_X8_nextTurns (zcp ((R_X8_tryTurns (F_X4_goBackTo σ)).2) 95 96 0 0 (σ 91 0))).2) 5 0 = σ 5 0 := ((congrFun (fr_R_X8_nextTurns (zcp ((R_X8_tryTurns (F_X4_goBackTo σ)).2) 95 96 0 0 (σ 91 0)) (k := 5) (by decide)) _).trans ((congrFun (fr_zcp ((R_X8_tryTurns (F_X4_goBackTo σ)).2) 95 96 0 0 (σ 91 0) (k := 5) (by decide)) _).trans ((congrFun (fr_R_X8_tryTurns (F_X4_goBackTo σ) (k := 5) (by decide)) _).trans (congrFun (fr_F_X4_goBackTo σ (k := 5) (by decide)) _)))); omega) (by have e9 : ((R_X8_nextTurns (zcp ((R_X8_tryTurns (F_X4_goBackTo σ)).2) 95 96 0 0 (σ 91 0))).2) 5 2 = σ 5 2 := ((congrFun (fr_R_X8_nextTurns (zcp ((R_X8_tryTurns (F_X4_goBackTo σ)).2) 95 96 0 0 (σ 91 0)) (k := 5) (by decide)) _).trans ((congrFun (fr_zcp ((R_X8_tryTurns (F_X4_goBackTo σ)).2) 95 96 0 0 (σ 91 0) (k := 5) (by decide)) _).trans ((congrFun (fr_R_X8_tryTurns (F_X4_goBackTo σ) (k := 5) (by decide)) _).trans (congrFun (fr_F_X4_goBackTo σ (k := 5) (by decide)) _)))); omega) (by have e9 : ((R_X8_nextTurns (zcp ((R_X8_tryTurns (F_X4_goBackTo σ)).2) 95 96 0 0 (σ 91 0))).2) 5 1 = σ 5 1 := ((congrFun (fr_R_X8_nextTurns (zcp ((R_X8_tryTurns (F_X4_goBackTo σ)).2) 95 96 0 0 (σ 91 0)) (k := 5) (by decide)) _).trans ((congrFun (fr_zcp ((R_X8_tryTurns (F_X4_goBackTo σ)).2) 95 96 0 0 (σ 91 0) (k := 5) (by decide)) _).trans ((congrFun (fr_R_X8_tryTurns (F_X4_goBackTo σ) (k := 5) (by decide)) _).trans (congrFun (fr_F_X4_goBackTo σ (k := 5) (by decide)) _)))); omega) (by have e9 : ((R_X8_nextTurns (zcp ((R_X8_tryTurns (F_X4_goBackTo σ)).2) 95 96 0 0 (σ 91 0))).2) 67 8 = σ 67 8 := ((congrFun (fr_R_X8_nextTurns (zcp ((R_X8_tryTurns (F_X4_goBackTo σ)).2) 95 96 0 0 (σ 91 0)) (k := 67) (by decide)) _).trans ((congrFun (fr_zcp ((R_X8_tryTurns (F_X4_goBackTo σ)).2) 95 96 0 0 (σ 91 0) (k := 67) (by decide)) _).trans ((tryL_m _ _ _ _).trans (goBackTo_m _)))); omega) (TEL_row ((congrFun (fr_R_X8_nextTurns (zcp ((R_X8_tryTurns (F_X4_goBackTo σ)).2) 95 96 0 0 (σ 91 0)) (k := 91) (by decide)) _).trans ((congrFun (fr_zcp ((R_X8_tryTurns (F_X4_goBackTo σ)).2) 95 96 0 0 (σ 91 0) (k := 91) (by decide)) _).trans ((congrFun (fr_R_X8_tryTurns (F_X4_goBackTo σ) (k := 91) (by decide)) _).trans (congrFun (fr_F_X4_goBackTo σ (k := 91) (by decide)) _)))) ((fr_R_X8_nextTurns (zcp ((R_X8_tryTurns (F_X4_goBackTo σ)).2) 95 96 0 0 (σ 91 0)) (k := 93) (by decide)).trans ((fr_zcp ((R_X8_tryTurns (F_X4_goBackTo σ)).2) 95 96 0 0 (σ 91 0) (k := 93) (by decide)).trans ((fr_R_X8_tryTurns (F_X4_goBackTo σ) (k := 93) (by decide)).trans (fr_F_X4_goBackTo σ (k := 93) (by decide))))) ((fr_R_X8_nextTurns (zcp ((R_X8_tryTurns (F_X4_goBackTo σ)).2) 95 96 0 0 (σ 91 0)) (k := 94) (by decide)).trans ((fr_zcp ((R_X8_tryTurns (F_X4_goBackTo σ)).2) 95 96 0 0 (σ 91 0) (k := 94) (by decide)).trans ((fr_R_X8_tryTurns (F_X4_goBackTo σ) (k := 94) (by decide)).trans (fr_F_X4_goBackTo σ (k := 94) (by decide))))) ((fr_R_X8_nextTurns (zcp ((R_X8_tryTurns (F_X4_goBackTo σ)).2) 95 96 0 0 (σ 91 0)) (k := 11) (by decide)).trans ((fr_zcp ((R_X8_tryTurns (F_X4_goBackTo σ)).2) 95 96 0 0 (σ 91 0) (k := 11) (by decide)).trans ((fr_R_X8_tryTurns (F_X4_goBackTo σ) (k := 11) (by decide)).trans (fr_F_X4_goBackTo σ (k := 11) (by decide))))) hT) (nt_K (TUR_row ((congrFun (fr_zcp ((R_X8_tryTurns (F_X4_goBackTo σ)).2) 95 96 0 0 (σ 91 0) (k := 91) (by decide)) _).trans ((congrFun (fr_R_X8_tryTurns (F_X4_goBackTo σ) (k := 91) (by decide)) _).trans (congrFun (fr_F_X4_goBackTo σ (k := 91) (by decide)) _))) ((fr_zcp ((R_X8_tryTurns (F_X4_goBackTo σ)).2) 95 96 0 0 (σ 91 0) (k := 95) (by decide)).trans ((fr_R_X8_tryTurns (F_X4_goBackTo σ) (k := 95) (by decide)).trans (fr_F_X4_goBackTo σ (k := 95) (by decide)))) hU)) (by omega)
def R_X8_settle (σ : zG)  : Int × zG := L_X8_settle_41  130 1073741824 1073741824 1 0 ((S_X8_settle_7  10 0 (F_X4_copyDebts σ)).2)
theorem fr_R_X8_settle (σ : zG)  {k : Nat} (h : k ∉ [67, 68, 69, 71, 73, 74, 75, 77, 79, 80, 91, 95, 96]) : (R_X8_settle σ ).2 k = σ k := by
  have ne : ∀ c ∈ [67, 68, 69, 71, 73, 74, 75, 77, 79, 80, 91, 95, 96], k ≠ c := fun c hc e => h (e ▸ hc)
  have nk_S_X8_settle_7 : k ∉ [95] := fun hm => h (by first | (revert hm; simp only [List.mem_cons, List.not_mem_nil, or_false]; omega) | (simp at hm))
  have nk_F_X4_copyDebts : k ∉ [67, 73, 74, 75] := fun hm => h (by first | (revert hm; simp only [List.mem_cons, List.not_mem_nil, or_false]; omega) | (simp at hm))
  have nl_S_X8_settle_7 : k ∉ [95] := fun hm => h (by first | (revert hm; simp only [List.mem_cons, List.not_mem_nil, or_false]; omega) | (simp at hm))
  have nl_L_X8_settle_41 : k ∉ [67, 68, 69, 71, 77, 79, 80, 91, 95, 96] := fun hm => h (by first | (revert hm; simp only [List.mem_cons, List.not_mem_nil, or_false]; omega) | (simp at hm))
  unfold R_X8_settle
  repeat' split
  all_goals first | rfl | simp only [zu_row _ _ _ (ne 67 (by decide)), zu_row _ _ _ (ne 68 (by decide)), zu_row _ _ _ (ne 69 (by decide)), zu_row _ _ _ (ne 71 (by decide)), zu_row _ _ _ (ne 73 (by decide)), zu_row _ _ _ (ne 74 (by decide)), zu_row _ _ _ (ne 75 (by decide)), zu_row _ _ _ (ne 77 (by decide)), zu_row _ _ _ (ne 79 (by decide)), zu_row _ _ _ (ne 80 (by decide)), zu_row _ _ _ (ne 91 (by decide)), zu_row _ _ _ (ne 95 (by decide)), zu_row _ _ _ (ne 96 (by decide)), fr_S_X8_settle_7 (h := nk_S_X8_settle_7), fr_F_X4_copyDebts (h := nk_F_X4_copyDebts), fr_S_X8_settle_7 (h := nl_S_X8_settle_7), fr_L_X8_settle_41 (h := nl_L_X8_settle_41)]

set_option maxRecDepth 20000 in
theorem does_X8_settle (σ : zG)  (hM : 1 ≤ σ 91 0 ∧ σ 91 0 ≤ 5) (hp : σ 5 0 ≤ 8) (hs : σ 5 2 ≤ 8) (hF : σ 5 1 ≤ 12) (hm : σ 53 8 ≤ 128) (hT : TEL σ)  : zDo SC 6 m_X8_settle [zP 91, zP 53, zP 67] σ (zEq (some (.inl (R_X8_settle σ ).1)) (R_X8_settle σ ).2) := by
  refine zDo.intro mk_X8_settle (Nat.le_of_ble_eq_true rfl) ?_
  refine zRx.aload_n 2 rfl rfl dX8_settle_0 ?_
  refine zRx.aload_n 1 rfl rfl dX8_settle_1 ?_
  refine zRx.cVv (M := m_X4_copyDebts) (av := [zP 53]) cv_8_48 mk_X4_copyDebts (by decide) (b := 67) rfl rfl (Nat.le_of_ble_eq_true rfl) dX8_settle_2 (does_X4_copyDebts σ) ?_
  refine zRx.iconst ⟨by decide, by decide⟩ dX8_settle_5 ?_
  refine zRx.istore_n (ls' := [(0, zP 91), (1, zP 53), (2, zP 67), (3, .inl 0)]) rfl rfl (by decide) dX8_settle_6 ?_
  refine seg_X8_settle_7    10 0 (F_X4_copyDebts σ) _ (by have e9 : (F_X4_copyDebts σ) 91 0 = σ 91 0 := (congrFun (fr_F_X4_copyDebts σ (k := 91) (by decide)) _); omega) (fun j j0 j1 => absurd j0 (by omega)) (by have e9 : (F_X4_copyDebts σ) 91 0 = σ 91 0 := (congrFun (fr_F_X4_copyDebts σ (k := 91) (by decide)) _); omega) ?_
  intro x7_h0 x7_hq x7_hU
  refine zRx.ldc ⟨by decide, by decide⟩ kc_8_54 dX8_settle_28 ?_
  refine zRx.istore_n (ls' := [(0, zP 91), (1, zP 53), (2, zP 67), (3, .inl 1073741824)]) rfl rfl (by decide) dX8_settle_30 ?_
  refine zRx.ldc ⟨by decide, by decide⟩ kc_8_54 dX8_settle_31 ?_
  refine zRx.istore (ls' := [(0, zP 91), (1, zP 53), (2, zP 67), (3, .inl 1073741824), (4, .inl 1073741824)]) rfl (by decide) dX8_settle_33 ?_
  refine zRx.iconst ⟨by decide, by decide⟩ dX8_settle_35 ?_
  refine zRx.istore (ls' := [(0, zP 91), (1, zP 53), (2, zP 67), (3, .inl 1073741824), (4, .inl 1073741824), (5, .inl 1)]) rfl (by decide) dX8_settle_36 ?_
  refine zRx.iconst ⟨by decide, by decide⟩ dX8_settle_38 ?_
  refine zRx.istore (ls' := [(0, zP 91), (1, zP 53), (2, zP 67), (3, .inl 1073741824), (4, .inl 1073741824), (5, .inl 1), (6, .inl 0)]) rfl (by decide) dX8_settle_39 ?_
  have he : R_X8_settle σ  = L_X8_settle_41  130 1073741824 1073741824 1 0 ((S_X8_settle_7  10 0 (F_X4_copyDebts σ)).2) := by rw [R_X8_settle]
  rw [he]
  exact loop_X8_settle_41    130 1073741824 1073741824 1 0 ((S_X8_settle_7  10 0 (F_X4_copyDebts σ)).2) (by omega) (by have e9 : ((S_X8_settle_7  10 0 (F_X4_copyDebts σ)).2) 91 0 = σ 91 0 := ((congrFun (fr_S_X8_settle_7   10 0 (F_X4_copyDebts σ) (k := 91) (by decide)) _).trans (congrFun (fr_F_X4_copyDebts σ (k := 91) (by decide)) _)); omega) (by have e9 : ((S_X8_settle_7  10 0 (F_X4_copyDebts σ)).2) 5 0 = σ 5 0 := ((congrFun (fr_S_X8_settle_7   10 0 (F_X4_copyDebts σ) (k := 5) (by decide)) _).trans (congrFun (fr_F_X4_copyDebts σ (k := 5) (by decide)) _)); omega) (by have e9 : ((S_X8_settle_7  10 0 (F_X4_copyDebts σ)).2) 5 2 = σ 5 2 := ((congrFun (fr_S_X8_settle_7   10 0 (F_X4_copyDebts σ) (k := 5) (by decide)) _).trans (congrFun (fr_F_X4_copyDebts σ (k := 5) (by decide)) _)); omega) (by have e9 : ((S_X8_settle_7  10 0 (F_X4_copyDebts σ)).2) 5 1 = σ 5 1 := ((congrFun (fr_S_X8_settle_7   10 0 (F_X4_copyDebts σ) (k := 5) (by decide)) _).trans (congrFun (fr_F_X4_copyDebts σ (k := 5) (by decide)) _)); omega) (by rw [show ((S_X8_settle_7  10 0 (F_X4_copyDebts σ)).2) 67 = F_X4_copyDebts σ 67 from (fr_S_X8_settle_7   10 0 (F_X4_copyDebts σ) (k := 67) (by decide)), copyDebts_m]; exact hm) (TEL_row ((congrFun (fr_S_X8_settle_7   10 0 (F_X4_copyDebts σ) (k := 91) (by decide)) _).trans (congrFun (fr_F_X4_copyDebts σ (k := 91) (by decide)) _)) ((fr_S_X8_settle_7   10 0 (F_X4_copyDebts σ) (k := 93) (by decide)).trans (fr_F_X4_copyDebts σ (k := 93) (by decide))) ((fr_S_X8_settle_7   10 0 (F_X4_copyDebts σ) (k := 94) (by decide)).trans (fr_F_X4_copyDebts σ (k := 94) (by decide))) ((fr_S_X8_settle_7   10 0 (F_X4_copyDebts σ) (k := 11) (by decide)).trans (fr_F_X4_copyDebts σ (k := 11) (by decide))) hT) x7_hU (by omega)

