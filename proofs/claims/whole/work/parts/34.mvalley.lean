/-! the reference: valley -/
theorem PI_taken {σ : zG} {x : Int} (h : σ 0 2 ≤ 940) : PI (F_X12_taken σ x) := by
  unfold PI F_X12_taken
  simp [zu]
  exact h
theorem fr_taken (σ : zG) (x : Int) {k : Nat} (h : k ∉ [0]) : F_X12_taken σ x k = σ k := by
  unfold F_X12_taken
  have h0 : k ≠ 0 := by simpa using h
  simp only [zu_row _ _ _ h0]
theorem vl_step {σ : zG} (hI : PI σ) (hH : PH σ) (hv : ¬ V_X12_valleyLine σ = 0) (hs : ¬ V_X12_sign (F_X12_valleyLine σ) 59 = 0) (x : Int) : σ 0 4 < zu (F_X12_sign (F_X12_valleyLine σ) 59) 0 19 x 0 4 := by
  have h1 := AD_F_X12_valleyLine hI hH hv (Int.le_refl (σ 0 4))
  have h2 : PM (F_X12_valleyLine σ 0 4) (F_X12_sign (F_X12_valleyLine σ) 59) := PM_F_X12_sign (Int.le_refl _)
  have h3 : F_X12_valleyLine σ 0 11 = 3 := by
    unfold V_X12_sign at hs
    split at hs
    · next c => exact c.1
    · exact absurd rfl hs
  rw [zu_off _ _ _ (by decide)]
  unfold AD at h1
  unfold PM at h2
  omega
theorem plainL : ∀ (n : Nat) (q : Int) (σ : zG), (∀ j : Int, 0 ≤ j → j < q → σ 3 j = 0) → 0 ≤ q → (172 - q).toNat < n → ∀ j : Int, 0 ≤ j → j < 172 → (S_X12_plainValley_2 n q σ).2 3 j = 0
  | 0, q, σ, _, _, h => absurd h (Nat.not_lt_zero _)
  | n + 1, q, σ, h, h0, hm => by
    rw [S_X12_plainValley_2]
    split
    · intro j j0 j1
      exact h j j0 (by omega)
    · exact plainL n (q + 1) (zu σ 3 q 0) (fun j j0 j1 => by rw [zu_if]; split <;> first | rfl | exact h j j0 (by omega)) (by omega) (by omega)
theorem plain_at (σ : zG) (j : Int) (h0 : 0 ≤ j) (h1 : j < 172) : R_X12_plainValley σ 3 j = if j = 7 then 20 else if j = 6 then 5 else if j = 5 then 15 else if j = 4 then 5 else if j = 3 then 28 else 0 := by
  have h := plainL 180 0 σ (fun j a b => absurd a (by omega)) (by decide) (by decide) j h0 h1
  unfold R_X12_plainValley
  simp only [zu_if, h]
theorem PH_R_X12_plainValley {σ : zG} : PH (R_X12_plainValley σ) := by
  unfold PH
  rw [plain_at σ 0 (by decide) (by decide), plain_at σ 1 (by decide) (by decide), plain_at σ 2 (by decide) (by decide)]
  decide
theorem PI_R_X12_plainValley {σ : zG} (h : PI σ) : PI (R_X12_plainValley σ) := by
  unfold PI at *
  rw [fr_R_X12_plainValley σ (k := 0) (by decide)]
  exact h

def S_X12_valley_80  : Nat → Int → zG → Int × zG
  | 0, q, σ => (q, σ)
  | n + 1, q, σ => if 666 ≤ q then (q, σ) else (if 172 ≤ q then (S_X12_valley_80  n (q + 1) (zu σ 2 q 0)) else (S_X12_valley_80  n (q + 1) (zu σ 2 q (σ 3 q))))
theorem fr_S_X12_valley_80   (n : Nat) (q : Int) (σ : zG) {k : Nat} (h : k ∉ [2]) : (S_X12_valley_80  n q σ).2 k = σ k := by
  induction n generalizing q σ with
  | zero => rfl
  | succ n ih =>
    have ne : ∀ c ∈ [2], k ≠ c := fun c hc e => h (e ▸ hc)
    rw [S_X12_valley_80]
    repeat' split
    all_goals first | rfl | simp only [zu_row _ _ _ (ne 2 (by decide)), ih]

set_option maxRecDepth 20000 in
theorem seg_X12_valley_80   : ∀ (n : Nat) (q : Int) (σ : zG) (X : zX), 0 ≤ q → (666 - q).toNat < n → zRx none 5 m_X12_valley SM 116 [(0, zP 0), (1, .inl ((S_X12_valley_80  n q σ).1))] [] ((S_X12_valley_80  n q σ).2) X → zRx none 5 m_X12_valley SM 80 [(0, zP 0), (1, .inl q)] [] σ X := by
  intro n
  induction n with
  | zero => intro q σ X h0 hmz; exact absurd hmz (Nat.not_lt_zero _)
  | succ n ih =>
    intro q σ X h0 hmz K
    refine zRx.iload_n 1 rfl rfl dX12_valley_80 ?_
    refine zRx.sipush ⟨by decide, by decide⟩ rfl dX12_valley_81 ?_
    refine zRx.icmp_ge (tgt := 116) dX12_valley_84 (by decide) (fun c84 => ?_) (fun c84 => ?_)
    · have he : S_X12_valley_80  (n + 1) q σ = (q, σ) := by rw [S_X12_valley_80, if_pos c84]
      rw [he] at K
      exact K
    · refine zRx.aload_n 0 rfl rfl dX12_valley_87 ?_
      refine zRx.getR (a := 0) (b := 2) fl_12_33 rfl rfl dX12_valley_88 ?_
      refine zRx.iload_n 1 rfl rfl dX12_valley_91 ?_
      refine zRx.iload_n 1 rfl rfl dX12_valley_92 ?_
      refine zRx.sipush ⟨by decide, by decide⟩ rfl dX12_valley_93 ?_
      refine zRx.icmp_ge (tgt := 108) dX12_valley_96 (by decide) (fun c96 => ?_) (fun c96 => ?_)
      · refine zRx.iconst ⟨by decide, by decide⟩ dX12_valley_108 ?_
        refine zRx.iast rfl (by omega) (by omega) dX12_valley_109 ?_
        refine zRx.iinc (n := 1) (ls' := [(0, zP 0), (1, .inl (q + 1))]) 1 rfl ⟨by omega, by omega⟩ rfl (by decide) dX12_valley_110 ?_
        refine zRx.goto (tgt := 80) dX12_valley_113 (by decide) ?_
        have he : S_X12_valley_80  (n + 1) q σ = S_X12_valley_80  n (q + 1) (zu σ 2 q 0) := by rw [S_X12_valley_80, if_neg (Int.not_le.mpr c84), if_pos c96]
        rw [he] at K
        exact ih (q + 1) (zu σ 2 q 0) _ (by omega) (by omega) K
      · refine zRx.aload_n 0 rfl rfl dX12_valley_99 ?_
        refine zRx.getR (a := 0) (b := 3) fl_12_37 rfl rfl dX12_valley_100 ?_
        refine zRx.iload_n 1 rfl rfl dX12_valley_103 ?_
        refine zRx.ialdv (v := σ 3 q) rfl rfl (by omega) (by omega) dX12_valley_104 ?_
        refine zRx.goto (tgt := 109) dX12_valley_105 (by decide) ?_
        refine zRx.iast rfl (by omega) (by omega) dX12_valley_109 ?_
        refine zRx.iinc (n := 1) (ls' := [(0, zP 0), (1, .inl (q + 1))]) 1 rfl ⟨by omega, by omega⟩ rfl (by decide) dX12_valley_110 ?_
        refine zRx.goto (tgt := 80) dX12_valley_113 (by decide) ?_
        have he : S_X12_valley_80  (n + 1) q σ = S_X12_valley_80  n (q + 1) (zu σ 2 q (σ 3 q)) := by rw [S_X12_valley_80, if_neg (Int.not_le.mpr c84), if_neg (Int.not_le.mpr c96)]
        rw [he] at K
        exact ih (q + 1) (zu σ 2 q (σ 3 q)) _ (by omega) (by omega) K
def S_X12_valley_118  : Nat → Int → zG → Int × zG
  | 0, q, σ => (q, σ)
  | n + 1, q, σ => if 20 ≤ q then (q, σ) else (S_X12_valley_118  n (q + 1) (zu σ 5 q (σ 5 (20 + q))))
theorem fr_S_X12_valley_118   (n : Nat) (q : Int) (σ : zG) {k : Nat} (h : k ∉ [5]) : (S_X12_valley_118  n q σ).2 k = σ k := by
  induction n generalizing q σ with
  | zero => rfl
  | succ n ih =>
    have ne : ∀ c ∈ [5], k ≠ c := fun c hc e => h (e ▸ hc)
    rw [S_X12_valley_118]
    repeat' split
    all_goals first | rfl | simp only [zu_row _ _ _ (ne 5 (by decide)), ih]

set_option maxRecDepth 20000 in
theorem seg_X12_valley_118   : ∀ (n : Nat) (q : Int) (σ : zG) (X : zX), 0 ≤ q → (20 - q).toNat < n → zRx none 5 m_X12_valley SM 145 [(0, zP 0), (1, .inl ((S_X12_valley_118  n q σ).1))] [] ((S_X12_valley_118  n q σ).2) X → zRx none 5 m_X12_valley SM 118 [(0, zP 0), (1, .inl q)] [] σ X := by
  intro n
  induction n with
  | zero => intro q σ X h0 hmz; exact absurd hmz (Nat.not_lt_zero _)
  | succ n ih =>
    intro q σ X h0 hmz K
    refine zRx.iload_n 1 rfl rfl dX12_valley_118 ?_
    refine zRx.bipush ⟨by decide, by decide⟩ rfl dX12_valley_119 ?_
    refine zRx.icmp_ge (tgt := 145) dX12_valley_121 (by decide) (fun c121 => ?_) (fun c121 => ?_)
    · have he : S_X12_valley_118  (n + 1) q σ = (q, σ) := by rw [S_X12_valley_118, if_pos c121]
      rw [he] at K
      exact K
    · refine zRx.aload_n 0 rfl rfl dX12_valley_124 ?_
      refine zRx.getR (a := 0) (b := 5) fl_12_43 rfl rfl dX12_valley_125 ?_
      refine zRx.iload_n 1 rfl rfl dX12_valley_128 ?_
      refine zRx.aload_n 0 rfl rfl dX12_valley_129 ?_
      refine zRx.getR (a := 0) (b := 5) fl_12_43 rfl rfl dX12_valley_130 ?_
      refine zRx.bipush ⟨by decide, by decide⟩ rfl dX12_valley_133 ?_
      refine zRx.iload_n 1 rfl rfl dX12_valley_135 ?_
      refine zRx.iadd ⟨by omega, by omega⟩ dX12_valley_136 ?_
      refine zRx.laldv (v := σ 5 (20 + q)) rfl rfl (by omega) (by omega) dX12_valley_137 ?_
      refine zRx.last rfl (by omega) (by omega) dX12_valley_138 ?_
      refine zRx.iinc (n := 1) (ls' := [(0, zP 0), (1, .inl (q + 1))]) 1 rfl ⟨by omega, by omega⟩ rfl (by decide) dX12_valley_139 ?_
      refine zRx.goto (tgt := 118) dX12_valley_142 (by decide) ?_
      have he : S_X12_valley_118  (n + 1) q σ = S_X12_valley_118  n (q + 1) (zu σ 5 q (σ 5 (20 + q))) := by rw [S_X12_valley_118, if_neg (Int.not_le.mpr c121)]
      rw [he] at K
      exact ih (q + 1) (zu σ 5 q (σ 5 (20 + q))) _ (by omega) (by omega) K
def L_X12_valley_35  : Nat → zG → Int × zG
  | 0, σ => (0, σ)
  | n + 1, σ => if (σ 0 11) = 0 then (σ 0 19, (S_X12_valley_118  30 0 ((S_X12_valley_80  700 0 σ).2)).2) else (if (V_X12_valleyLine σ) = 0 then (w32 ((-1) - ((F_X12_valleyLine σ) 0 16)), F_X12_valleyLine σ) else (if (V_X12_sign (F_X12_valleyLine σ) 59) = 0 then (w32 ((-1) - ((F_X12_sign (F_X12_valleyLine σ) 59) 0 16)), F_X12_sign (F_X12_valleyLine σ) 59) else (L_X12_valley_35  n  (zu (F_X12_sign (F_X12_valleyLine σ) 59) 0 19 (w32 (((F_X12_sign (F_X12_valleyLine σ) 59) 0 19) + 1))))))
theorem fr_L_X12_valley_35   (n : Nat) (σ : zG) {k : Nat} (h : k ∉ [0, 2, 3, 5]) : (L_X12_valley_35  n  σ).2 k = σ k := by
  induction n generalizing  σ with
  | zero => rfl
  | succ n ih =>
    have ne : ∀ c ∈ [0, 2, 3, 5], k ≠ c := fun c hc e => h (e ▸ hc)
    have nk_S_X12_valley_118 : k ∉ [5] := fun hm => h (by first | (revert hm; simp only [List.mem_cons, List.not_mem_nil, or_false]; omega) | (simp at hm))
    have nk_S_X12_valley_80 : k ∉ [2] := fun hm => h (by first | (revert hm; simp only [List.mem_cons, List.not_mem_nil, or_false]; omega) | (simp at hm))
    have nk_F_X12_valleyLine : k ∉ [0, 3, 5] := fun hm => h (by first | (revert hm; simp only [List.mem_cons, List.not_mem_nil, or_false]; omega) | (simp at hm))
    have nk_F_X12_sign : k ∉ [0] := fun hm => h (by first | (revert hm; simp only [List.mem_cons, List.not_mem_nil, or_false]; omega) | (simp at hm))
    rw [L_X12_valley_35]
    repeat' split
    all_goals first | rfl | simp only [zu_row _ _ _ (ne 0 (by decide)), zu_row _ _ _ (ne 2 (by decide)), zu_row _ _ _ (ne 3 (by decide)), zu_row _ _ _ (ne 5 (by decide)), fr_S_X12_valley_118 (h := nk_S_X12_valley_118), fr_S_X12_valley_80 (h := nk_S_X12_valley_80), fr_F_X12_valleyLine (h := nk_F_X12_valleyLine), fr_F_X12_sign (h := nk_F_X12_sign), ih]

set_option maxRecDepth 20000 in
theorem loop_X12_valley_35   : ∀ (n : Nat) (σ : zG), PI σ → PH σ → (940 - σ 0 4).toNat < n → zR SM 5 m_X12_valley 35 [(0, zP 0)] [] σ (zEq (some (.inl (L_X12_valley_35  n  σ).1)) (L_X12_valley_35  n  σ).2) := by
  intro n
  induction n with
  | zero => intro  σ hI hH hmz; exact absurd hmz (Nat.not_lt_zero _)
  | succ n ih =>
    intro  σ hI hH hmz
    refine zRx.aload_n 0 rfl rfl dX12_valley_35 ?_
    refine zRx.getIv (a := 0) (ji := 11) (v := σ 0 11) rfl fl_12_222 rfl rfl rfl dX12_valley_36 ?_
    refine zRx.if_eq (tgt := 78) dX12_valley_39 (by decide) (fun c39 => ?_) (fun c39 => ?_)
    · refine zRx.iconst ⟨by decide, by decide⟩ dX12_valley_78 ?_
      refine zRx.istore_n (ls' := [(0, zP 0), (1, .inl 0)]) rfl rfl (by decide) dX12_valley_79 ?_
      refine seg_X12_valley_80    700 0 σ _ (by omega) (by omega) ?_
      refine zRx.iconst ⟨by decide, by decide⟩ dX12_valley_116 ?_
      refine zRx.istore_n (ls' := [(0, zP 0), (1, .inl 0)]) rfl rfl (by decide) dX12_valley_117 ?_
      refine seg_X12_valley_118    30 0 ((S_X12_valley_80  700 0 σ).2) _ (by omega) (by omega) ?_
      refine zRx.aload_n 0 rfl rfl dX12_valley_145 ?_
      refine zRx.getIv (a := 0) (ji := 19) (v := σ 0 19) ((congrFun (fr_S_X12_valley_118   30 0 ((S_X12_valley_80  700 0 σ).2) (k := 0) (by decide)) _).trans (congrFun (fr_S_X12_valley_80   700 0 σ (k := 0) (by decide)) _)) fl_12_307 rfl rfl rfl dX12_valley_146 ?_
      exact zR.iret rfl dX12_valley_149 (by have he : L_X12_valley_35  (n + 1)  σ = (σ 0 19, (S_X12_valley_118  30 0 ((S_X12_valley_80  700 0 σ).2)).2) := (by rw [L_X12_valley_35, if_pos c39]); rw [he]; exact ⟨rfl, rfl⟩)
    · refine zRx.aload_n 0 rfl rfl dX12_valley_42 ?_
      refine zRx.cVi (w := .inl (V_X12_valleyLine σ)) (M := m_X12_valleyLine) (av := []) cv_12_310 mk_X12_valleyLine (by decide) (b := 0) rfl rfl (Nat.le_of_ble_eq_true rfl) dX12_valley_43 (does_X12_valleyLine σ  hI hH) ?_
      refine zRx.if_eq (tgt := 58) dX12_valley_46 (by decide) (fun c46 => ?_) (fun c46 => ?_)
      · refine zRx.iconst ⟨by decide, by decide⟩ dX12_valley_58 ?_
        refine zRx.aload_n 0 rfl rfl dX12_valley_59 ?_
        refine zRx.getIv (a := 0) (ji := 16) (v := (F_X12_valleyLine σ) 0 16) rfl fl_12_242 rfl rfl rfl dX12_valley_60 ?_
        refine zRx.isubW dX12_valley_63 ?_
        exact zR.iret rfl dX12_valley_64 (by have he : L_X12_valley_35  (n + 1)  σ = (w32 ((-1) - ((F_X12_valleyLine σ) 0 16)), F_X12_valleyLine σ) := (by rw [L_X12_valley_35, if_neg c39, if_pos c46]); rw [he]; exact ⟨rfl, rfl⟩)
      · refine zRx.aload_n 0 rfl rfl dX12_valley_49 ?_
        refine zRx.bipush ⟨by decide, by decide⟩ rfl dX12_valley_50 ?_
        refine zRx.cVi (w := .inl (V_X12_sign (F_X12_valleyLine σ) 59)) (M := m_X12_sign) (av := [.inl 59]) cv_12_313 mk_X12_sign (by decide) (b := 0) rfl rfl (Nat.le_of_ble_eq_true rfl) dX12_valley_52 (does_X12_sign (F_X12_valleyLine σ) 59 (PI_F_X12_valleyLine hI hH)) ?_
        refine zRx.if_ne (tgt := 65) dX12_valley_55 (by decide) (fun c55 => ?_) (fun c55 => ?_)
        · refine zRx.aload_n 0 rfl rfl dX12_valley_65 ?_
          refine zRx.dup rfl dX12_valley_66 ?_
          refine zRx.getIv (a := 0) (ji := 19) (v := (F_X12_sign (F_X12_valleyLine σ) 59) 0 19) rfl fl_12_307 rfl rfl rfl dX12_valley_67 ?_
          refine zRx.iconst ⟨by decide, by decide⟩ dX12_valley_70 ?_
          refine zRx.iaddW dX12_valley_71 ?_
          refine zRx.putI (a := 0) (ji := 19) pl_12_307 rfl rfl rfl dX12_valley_72 ?_
          refine zRx.goto (tgt := 35) dX12_valley_75 (by decide) ?_
          have he : L_X12_valley_35  (n + 1)  σ = L_X12_valley_35  n  (zu (F_X12_sign (F_X12_valleyLine σ) 59) 0 19 (w32 (((F_X12_sign (F_X12_valleyLine σ) 59) 0 19) + 1))) := by rw [L_X12_valley_35, if_neg c39, if_neg c46, if_neg c55]
          rw [he]
          exact ih  (zu (F_X12_sign (F_X12_valleyLine σ) 59) 0 19 (w32 (((F_X12_sign (F_X12_valleyLine σ) 59) 0 19) + 1))) (PI_zu (by decide) (PI_F_X12_sign (PI_F_X12_valleyLine hI hH))) (PH_zu (Or.inl (by decide)) (PH_F_X12_sign (PH_F_X12_valleyLine hI hH))) (by have h9 := vl_step hI hH c46 c55 (w32 (((F_X12_sign (F_X12_valleyLine σ) 59) 0 19) + 1)); have h8 := hI.2.1; have h7 : PI (zu (F_X12_sign (F_X12_valleyLine σ) 59) 0 19 (w32 (((F_X12_sign (F_X12_valleyLine σ) 59) 0 19) + 1))) := (PI_zu (by decide) (PI_F_X12_sign (PI_F_X12_valleyLine hI hH))); have h6 := h7.2.1; omega)
        · refine zRx.iconst ⟨by decide, by decide⟩ dX12_valley_58 ?_
          refine zRx.aload_n 0 rfl rfl dX12_valley_59 ?_
          refine zRx.getIv (a := 0) (ji := 16) (v := (F_X12_sign (F_X12_valleyLine σ) 59) 0 16) rfl fl_12_242 rfl rfl rfl dX12_valley_60 ?_
          refine zRx.isubW dX12_valley_63 ?_
          exact zR.iret rfl dX12_valley_64 (by have he : L_X12_valley_35  (n + 1)  σ = (w32 ((-1) - ((F_X12_sign (F_X12_valleyLine σ) 59) 0 16)), F_X12_sign (F_X12_valleyLine σ) 59) := (by rw [L_X12_valley_35, if_neg c39, if_neg c46, if_pos c55]); rw [he]; exact ⟨rfl, rfl⟩)
def R_X12_valley (σ : zG)  : Int × zG := L_X12_valley_35  1000  (F_X12_next (R_X12_plainValley (zu (zu (zu (F_X12_taken (zu σ 0 0 0) 900) 0 15 0) 0 20 0) 0 19 0)))
theorem fr_R_X12_valley (σ : zG)  {k : Nat} (h : k ∉ [0, 2, 3, 5]) : (R_X12_valley σ ).2 k = σ k := by
  have ne : ∀ c ∈ [0, 2, 3, 5], k ≠ c := fun c hc e => h (e ▸ hc)
  have nk_F_X12_next : k ∉ [0] := fun hm => h (by first | (revert hm; simp only [List.mem_cons, List.not_mem_nil, or_false]; omega) | (simp at hm))
  have nk_R_X12_plainValley : k ∉ [3] := fun hm => h (by first | (revert hm; simp only [List.mem_cons, List.not_mem_nil, or_false]; omega) | (simp at hm))
  have nk_taken : k ∉ [0] := fun hm => h (by first | (revert hm; simp only [List.mem_cons, List.not_mem_nil, or_false]; omega) | (simp at hm))
  have nl_S_X12_valley_80 : k ∉ [2] := fun hm => h (by first | (revert hm; simp only [List.mem_cons, List.not_mem_nil, or_false]; omega) | (simp at hm))
  have nl_S_X12_valley_118 : k ∉ [5] := fun hm => h (by first | (revert hm; simp only [List.mem_cons, List.not_mem_nil, or_false]; omega) | (simp at hm))
  have nl_L_X12_valley_35 : k ∉ [0, 2, 3, 5] := fun hm => h (by first | (revert hm; simp only [List.mem_cons, List.not_mem_nil, or_false]; omega) | (simp at hm))
  unfold R_X12_valley
  repeat' split
  all_goals first | rfl | simp only [zu_row _ _ _ (ne 0 (by decide)), zu_row _ _ _ (ne 2 (by decide)), zu_row _ _ _ (ne 3 (by decide)), zu_row _ _ _ (ne 5 (by decide)), fr_F_X12_next (h := nk_F_X12_next), fr_R_X12_plainValley (h := nk_R_X12_plainValley), fr_taken (h := nk_taken), fr_S_X12_valley_80 (h := nl_S_X12_valley_80), fr_S_X12_valley_118 (h := nl_S_X12_valley_118), fr_L_X12_valley_35 (h := nl_L_X12_valley_35)]

set_option maxRecDepth 20000 in
theorem does_X12_valley (σ : zG)  (hl : σ 0 2 ≤ 940)  : zDo SM 5 m_X12_valley [zP 0] σ (zEq (some (.inl (R_X12_valley σ ).1)) (R_X12_valley σ ).2) := by
  refine zDo.intro mk_X12_valley (Nat.le_of_ble_eq_true rfl) ?_
  refine zRx.aload_n 0 rfl rfl dX12_valley_0 ?_
  refine zRx.iconst ⟨by decide, by decide⟩ dX12_valley_1 ?_
  refine zRx.putI (a := 0) (ji := 0) pl_12_1 rfl rfl rfl dX12_valley_2 ?_
  refine zRx.aload_n 0 rfl rfl dX12_valley_5 ?_
  refine zRx.sipush ⟨by decide, by decide⟩ rfl dX12_valley_6 ?_
  refine zRx.cVv (M := m_X12_taken) (av := [.inl 900]) cv_12_304 mk_X12_taken (by decide) (b := 0) rfl rfl (Nat.le_of_ble_eq_true rfl) dX12_valley_9 (does_X12_taken (zu σ 0 0 0) 900) ?_
  refine zRx.aload_n 0 rfl rfl dX12_valley_12 ?_
  refine zRx.iconst ⟨by decide, by decide⟩ dX12_valley_13 ?_
  refine zRx.putI (a := 0) (ji := 15) pl_12_239 rfl rfl rfl dX12_valley_14 ?_
  refine zRx.aload_n 0 rfl rfl dX12_valley_17 ?_
  refine zRx.iconst ⟨by decide, by decide⟩ dX12_valley_18 ?_
  refine zRx.putI (a := 0) (ji := 20) pl_12_269 rfl rfl rfl dX12_valley_19 ?_
  refine zRx.aload_n 0 rfl rfl dX12_valley_22 ?_
  refine zRx.iconst ⟨by decide, by decide⟩ dX12_valley_23 ?_
  refine zRx.putI (a := 0) (ji := 19) pl_12_307 rfl rfl rfl dX12_valley_24 ?_
  refine zRx.aload_n 0 rfl rfl dX12_valley_27 ?_
  refine zRx.cVv (M := m_X12_plainValley) (av := []) cv_12_209 mk_X12_plainValley (by decide) (b := 0) rfl rfl (Nat.le_of_ble_eq_true rfl) dX12_valley_28 (does_X12_plainValley (zu (zu (zu (F_X12_taken (zu σ 0 0 0) 900) 0 15 0) 0 20 0) 0 19 0)) ?_
  refine zRx.aload_n 0 rfl rfl dX12_valley_31 ?_
  refine zRx.cVv (M := m_X12_next) (av := []) cv_12_251 mk_X12_next (by decide) (b := 0) rfl rfl (Nat.le_of_ble_eq_true rfl) dX12_valley_32 (does_next2 (R_X12_plainValley (zu (zu (zu (F_X12_taken (zu σ 0 0 0) 900) 0 15 0) 0 20 0) 0 19 0)) (PI_R_X12_plainValley (PI_zu (by decide) (PI_zu (by decide) (PI_zu (by decide) (PI_taken (by have e9 : (zu σ 0 0 0) 0 2 = σ 0 2 := (zu_off _ _ _ (by decide)); omega))))))) ?_
  have he : R_X12_valley σ  = L_X12_valley_35  1000  (F_X12_next (R_X12_plainValley (zu (zu (zu (F_X12_taken (zu σ 0 0 0) 900) 0 15 0) 0 20 0) 0 19 0))) := by rw [R_X12_valley]
  rw [he]
  exact loop_X12_valley_35    1000  (F_X12_next (R_X12_plainValley (zu (zu (zu (F_X12_taken (zu σ 0 0 0) 900) 0 15 0) 0 20 0) 0 19 0))) (PI_F_X12_next (PI_R_X12_plainValley (PI_zu (by decide) (PI_zu (by decide) (PI_zu (by decide) (PI_taken (by have e9 : (zu σ 0 0 0) 0 2 = σ 0 2 := (zu_off _ _ _ (by decide)); omega))))))) (PH_F_X12_next PH_R_X12_plainValley) (by have h9 : PI (F_X12_next (R_X12_plainValley (zu (zu (zu (F_X12_taken (zu σ 0 0 0) 900) 0 15 0) 0 20 0) 0 19 0))) := (PI_F_X12_next (PI_R_X12_plainValley (PI_zu (by decide) (PI_zu (by decide) (PI_zu (by decide) (PI_taken (by have e9 : (zu σ 0 0 0) 0 2 = σ 0 2 := (zu_off _ _ _ (by decide)); omega))))))); have h8 := h9.1; omega)

