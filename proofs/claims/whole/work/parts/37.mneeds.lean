/-! the reference: dues, needs, buys, terms -/
def S_X12_duesOf_42 (who : Int) (q : Int) : Nat → Int → zG → Int × zG
  | 0, j, σ => (j, σ)
  | n + 1, j, σ => if j ≤ 0 then (j, σ) else (if (σ 20 q) ≤ (σ 29 (j - 1)) then (j, σ) else (S_X12_duesOf_42 who q n (j + (-1)) (zu σ 29 j (σ 29 (j - 1)))))
theorem fr_S_X12_duesOf_42 (who : Int) (q : Int)  (n : Nat) (j : Int) (σ : zG) {k : Nat} (h : k ∉ [29]) : (S_X12_duesOf_42 who q n j σ).2 k = σ k := by
  induction n generalizing j σ with
  | zero => rfl
  | succ n ih =>
    have ne : ∀ c ∈ [29], k ≠ c := fun c hc e => h (e ▸ hc)
    rw [S_X12_duesOf_42]
    repeat' split
    all_goals first | rfl | simp only [zu_row _ _ _ (ne 29 (by decide)), ih]

set_option maxRecDepth 20000 in
theorem seg_X12_duesOf_42 (who : Int)  (q : Int) : ∀ (n : Nat) (j : Int) (σ : zG) (X : zX), 0 ≤ j ∧ j < 420 ∧ 0 ≤ q ∧ q < 420 → j.toNat < n → zRx none 0 m_X12_duesOf SM 83 [(0, zP 0), (1, .inl who), (2, .inl q), (3, .inl ((S_X12_duesOf_42 who q n j σ).1))] [] ((S_X12_duesOf_42 who q n j σ).2) X → zRx none 0 m_X12_duesOf SM 42 [(0, zP 0), (1, .inl who), (2, .inl q), (3, .inl j)] [] σ X := by
  intro n
  induction n with
  | zero => intro j σ X h1 hmz; exact absurd hmz (Nat.not_lt_zero _)
  | succ n ih =>
    intro j σ X h1 hmz K
    refine zRx.iload_n 3 rfl rfl dX12_duesOf_42 ?_
    refine zRx.if_le (tgt := 83) dX12_duesOf_43 (by decide) (fun c43 => ?_) (fun c43 => ?_)
    · have he : S_X12_duesOf_42 who q (n + 1) j σ = (j, σ) := by rw [S_X12_duesOf_42, if_pos c43]
      rw [he] at K
      exact K
    · refine zRx.aload_n 0 rfl rfl dX12_duesOf_46 ?_
      refine zRx.getR (a := 0) (b := 29) fl_12_117 rfl rfl dX12_duesOf_47 ?_
      refine zRx.iload_n 3 rfl rfl dX12_duesOf_50 ?_
      refine zRx.iconst ⟨by decide, by decide⟩ dX12_duesOf_51 ?_
      refine zRx.isub ⟨by omega, by omega⟩ dX12_duesOf_52 ?_
      refine zRx.ialdv (v := σ 29 (j - 1)) rfl rfl (by omega) (by omega) dX12_duesOf_53 ?_
      refine zRx.aload_n 0 rfl rfl dX12_duesOf_54 ?_
      refine zRx.getR (a := 0) (b := 20) fl_12_89 rfl rfl dX12_duesOf_55 ?_
      refine zRx.iload_n 2 rfl rfl dX12_duesOf_58 ?_
      refine zRx.ialdv (v := σ 20 q) rfl rfl (by omega) (by omega) dX12_duesOf_59 ?_
      refine zRx.icmp_ge (tgt := 83) dX12_duesOf_60 (by decide) (fun c60 => ?_) (fun c60 => ?_)
      · have he : S_X12_duesOf_42 who q (n + 1) j σ = (j, σ) := by rw [S_X12_duesOf_42, if_neg (Int.not_le.mpr c43), if_pos c60]
        rw [he] at K
        exact K
      · refine zRx.aload_n 0 rfl rfl dX12_duesOf_63 ?_
        refine zRx.getR (a := 0) (b := 29) fl_12_117 rfl rfl dX12_duesOf_64 ?_
        refine zRx.iload_n 3 rfl rfl dX12_duesOf_67 ?_
        refine zRx.aload_n 0 rfl rfl dX12_duesOf_68 ?_
        refine zRx.getR (a := 0) (b := 29) fl_12_117 rfl rfl dX12_duesOf_69 ?_
        refine zRx.iload_n 3 rfl rfl dX12_duesOf_72 ?_
        refine zRx.iconst ⟨by decide, by decide⟩ dX12_duesOf_73 ?_
        refine zRx.isub ⟨by omega, by omega⟩ dX12_duesOf_74 ?_
        refine zRx.ialdv (v := σ 29 (j - 1)) rfl rfl (by omega) (by omega) dX12_duesOf_75 ?_
        refine zRx.iast rfl (by omega) (by omega) dX12_duesOf_76 ?_
        refine zRx.iinc (n := -1) (ls' := [(0, zP 0), (1, .inl who), (2, .inl q), (3, .inl (j + (-1)))]) 3 rfl ⟨by omega, by omega⟩ rfl (by decide) dX12_duesOf_77 ?_
        refine zRx.goto (tgt := 42) dX12_duesOf_80 (by decide) ?_
        have he : S_X12_duesOf_42 who q (n + 1) j σ = S_X12_duesOf_42 who q n (j + (-1)) (zu σ 29 j (σ 29 (j - 1))) := by rw [S_X12_duesOf_42, if_neg (Int.not_le.mpr c43), if_neg (Int.not_le.mpr c60)]
        rw [he] at K
        exact ih (j + (-1)) (zu σ 29 j (σ 29 (j - 1))) _ (by omega) (by omega) K
theorem duesJ (who q : Int) : ∀ (n : Nat) (j : Int) (σ : zG), 0 ≤ j → 0 ≤ (S_X12_duesOf_42 who q n j σ).1 ∧ (S_X12_duesOf_42 who q n j σ).1 ≤ j
  | 0, j, σ, h => ⟨h, Int.le_refl _⟩
  | n + 1, j, σ, h => by
    rw [S_X12_duesOf_42]
    repeat' split
    all_goals first | exact ⟨h, Int.le_refl _⟩ | (have h9 := duesJ who q n (j + (-1)) (zu σ 29 j (σ 29 (j - 1))) (by omega); omega)
def L_X12_duesOf_7 (who : Int) : Nat → Int → zG → zG
  | 0, _, σ => σ
  | n + 1, q, σ => if (σ 0 43) ≤ q then σ else (if (σ 16 q) = who then (if (σ 20 q) = 0 then (L_X12_duesOf_7 who n (q + 1) σ) else (L_X12_duesOf_7 who n (q + 1) (zu (zu ((S_X12_duesOf_42 who q 500 (σ 0 53) σ).2) 29 ((S_X12_duesOf_42 who q 500 (σ 0 53) σ).1) (σ 20 q)) 0 53 ((σ 0 53) + 1)))) else (L_X12_duesOf_7 who n (q + 1) σ))
theorem fr_L_X12_duesOf_7 (who : Int)  (n : Nat) (q : Int) (σ : zG) {k : Nat} (h : k ∉ [0, 29]) : (L_X12_duesOf_7 who n q σ) k = σ k := by
  induction n generalizing q σ with
  | zero => rfl
  | succ n ih =>
    have ne : ∀ c ∈ [0, 29], k ≠ c := fun c hc e => h (e ▸ hc)
    have nk_S_X12_duesOf_42 : k ∉ [29] := fun hm => h (by first | (revert hm; simp only [List.mem_cons, List.not_mem_nil, or_false]; omega) | (simp at hm))
    rw [L_X12_duesOf_7]
    repeat' split
    all_goals first | rfl | simp only [zu_row _ _ _ (ne 0 (by decide)), zu_row _ _ _ (ne 29 (by decide)), fr_S_X12_duesOf_42 (h := nk_S_X12_duesOf_42), ih]

set_option maxRecDepth 20000 in
theorem loop_X12_duesOf_7 (who : Int)  : ∀ (n : Nat) (q : Int) (σ : zG), 0 ≤ q → σ 0 43 ≤ 420 → 0 ≤ σ 0 53 ∧ σ 0 53 ≤ q → (σ 0 43 - q).toNat < n → zR SM 0 m_X12_duesOf 7 [(0, zP 0), (1, .inl who), (2, .inl q)] [] σ (zEq none (L_X12_duesOf_7 who n q σ)) := by
  intro n
  induction n with
  | zero => intro q σ h0 hm hd hmz; exact absurd hmz (Nat.not_lt_zero _)
  | succ n ih =>
    intro q σ h0 hm hd hmz
    refine zRx.iload_n 2 rfl rfl dX12_duesOf_7 ?_
    refine zRx.aload_n 0 rfl rfl dX12_duesOf_8 ?_
    refine zRx.getIv (a := 0) (ji := 43) (v := σ 0 43) rfl fl_12_357 rfl rfl rfl dX12_duesOf_9 ?_
    refine zRx.icmp_ge (tgt := 111) dX12_duesOf_12 (by decide) (fun c12 => ?_) (fun c12 => ?_)
    · exact zR.ret rfl dX12_duesOf_111 ⟨rfl, (by rw [L_X12_duesOf_7, if_pos c12] : L_X12_duesOf_7 who (n + 1) q σ = σ).symm⟩
    · refine zRx.aload_n 0 rfl rfl dX12_duesOf_15 ?_
      refine zRx.getR (a := 0) (b := 16) fl_12_77 rfl rfl dX12_duesOf_16 ?_
      refine zRx.iload_n 2 rfl rfl dX12_duesOf_19 ?_
      refine zRx.ialdv (v := σ 16 q) rfl rfl (by omega) (by omega) dX12_duesOf_20 ?_
      refine zRx.iload_n 1 rfl rfl dX12_duesOf_21 ?_
      refine zRx.icmp_ne (tgt := 105) dX12_duesOf_22 (by decide) (fun c22 => ?_) (fun c22 => ?_)
      · refine zRx.iinc (n := 1) (ls' := [(0, zP 0), (1, .inl who), (2, .inl (q + 1))]) 2 rfl ⟨by omega, by omega⟩ rfl (by decide) dX12_duesOf_105 ?_
        refine zRx.goto (tgt := 7) dX12_duesOf_108 (by decide) ?_
        have he : L_X12_duesOf_7 who (n + 1) q σ = L_X12_duesOf_7 who n (q + 1) σ := by rw [L_X12_duesOf_7, if_neg (Int.not_le.mpr c12), if_neg c22]
        rw [he]
        exact ih (q + 1) σ (by omega) (by omega) (by omega) (by omega)
      · refine zRx.aload_n 0 rfl rfl dX12_duesOf_25 ?_
        refine zRx.getR (a := 0) (b := 20) fl_12_89 rfl rfl dX12_duesOf_26 ?_
        refine zRx.iload_n 2 rfl rfl dX12_duesOf_29 ?_
        refine zRx.ialdv (v := σ 20 q) rfl rfl (by omega) (by omega) dX12_duesOf_30 ?_
        refine zRx.if_ne (tgt := 37) dX12_duesOf_31 (by decide) (fun c31 => ?_) (fun c31 => ?_)
        · refine zRx.aload_n 0 rfl rfl dX12_duesOf_37 ?_
          refine zRx.getIv (a := 0) (ji := 53) (v := σ 0 53) rfl fl_12_422 rfl rfl rfl dX12_duesOf_38 ?_
          refine zRx.istore_n (ls' := [(0, zP 0), (1, .inl who), (2, .inl q), (3, .inl (σ 0 53))]) rfl rfl (by decide) dX12_duesOf_41 ?_
          refine seg_X12_duesOf_42 who  q 500 (σ 0 53) σ _ (by omega) (by omega) ?_
          have hj := duesJ who q 500 (σ 0 53) σ (by omega)
          refine zRx.aload_n 0 rfl rfl dX12_duesOf_83 ?_
          refine zRx.getR (a := 0) (b := 29) fl_12_117 rfl rfl dX12_duesOf_84 ?_
          refine zRx.iload_n 3 rfl rfl dX12_duesOf_87 ?_
          refine zRx.aload_n 0 rfl rfl dX12_duesOf_88 ?_
          refine zRx.getR (a := 0) (b := 20) fl_12_89 rfl rfl dX12_duesOf_89 ?_
          refine zRx.iload_n 2 rfl rfl dX12_duesOf_92 ?_
          refine zRx.ialdv (v := σ 20 q) (congrFun (fr_S_X12_duesOf_42 who q 500 (σ 0 53) σ (k := 20) (by decide)) _) rfl (by omega) (by omega) dX12_duesOf_93 ?_
          refine zRx.iast rfl (by omega) (by omega) dX12_duesOf_94 ?_
          refine zRx.aload_n 0 rfl rfl dX12_duesOf_95 ?_
          refine zRx.dup rfl dX12_duesOf_96 ?_
          refine zRx.getIv (a := 0) (ji := 53) (v := σ 0 53) ((zu_ne _ _ _ _ (by decide)).trans (congrFun (fr_S_X12_duesOf_42 who q 500 (σ 0 53) σ (k := 0) (by decide)) _)) fl_12_422 rfl rfl rfl dX12_duesOf_97 ?_
          refine zRx.iconst ⟨by decide, by decide⟩ dX12_duesOf_100 ?_
          refine zRx.iadd ⟨by omega, by omega⟩ dX12_duesOf_101 ?_
          refine zRx.putI (a := 0) (ji := 53) pl_12_422 rfl rfl rfl dX12_duesOf_102 ?_
          refine zRx.iinc (n := 1) (ls' := [(0, zP 0), (1, .inl who), (2, .inl (q + 1)), (3, .inl ((S_X12_duesOf_42 who q 500 (σ 0 53) σ).1))]) 2 rfl ⟨by omega, by omega⟩ rfl (by decide) dX12_duesOf_105 ?_
          refine zRx.goto (tgt := 7) dX12_duesOf_108 (by decide) ?_
          refine zRx.pick [0, 1, 2] (ls' := [(0, zP 0), (1, .inl who), (2, .inl (q + 1))]) rfl ?_
          have he : L_X12_duesOf_7 who (n + 1) q σ = L_X12_duesOf_7 who n (q + 1) (zu (zu ((S_X12_duesOf_42 who q 500 (σ 0 53) σ).2) 29 ((S_X12_duesOf_42 who q 500 (σ 0 53) σ).1) (σ 20 q)) 0 53 ((σ 0 53) + 1)) := by rw [L_X12_duesOf_7, if_neg (Int.not_le.mpr c12), if_pos c22, if_neg c31]
          rw [he]
          exact ih (q + 1) (zu (zu ((S_X12_duesOf_42 who q 500 (σ 0 53) σ).2) 29 ((S_X12_duesOf_42 who q 500 (σ 0 53) σ).1) (σ 20 q)) 0 53 ((σ 0 53) + 1)) (by omega) (by have e9 : (zu (zu ((S_X12_duesOf_42 who q 500 (σ 0 53) σ).2) 29 ((S_X12_duesOf_42 who q 500 (σ 0 53) σ).1) (σ 20 q)) 0 53 ((σ 0 53) + 1)) 0 43 = σ 0 43 := ((zu_off _ _ _ (by decide)).trans ((zu_ne _ _ _ _ (by decide)).trans (congrFun (fr_S_X12_duesOf_42 who q 500 (σ 0 53) σ (k := 0) (by decide)) _))); omega) (by have e9 : (zu (zu ((S_X12_duesOf_42 who q 500 (σ 0 53) σ).2) 29 ((S_X12_duesOf_42 who q 500 (σ 0 53) σ).1) (σ 20 q)) 0 53 ((σ 0 53) + 1)) 0 53 = (σ 0 53) + 1 := (zu_at _ _ _ _); omega) (by rw [show (zu (zu ((S_X12_duesOf_42 who q 500 (σ 0 53) σ).2) 29 ((S_X12_duesOf_42 who q 500 (σ 0 53) σ).1) (σ 20 q)) 0 53 ((σ 0 53) + 1)) 0 43 = σ 0 43 from ((zu_off _ _ _ (by decide)).trans ((zu_ne _ _ _ _ (by decide)).trans (congrFun (fr_S_X12_duesOf_42 who q 500 (σ 0 53) σ (k := 0) (by decide)) _)))]; omega)
        · refine zRx.goto (tgt := 105) dX12_duesOf_34 (by decide) ?_
          refine zRx.iinc (n := 1) (ls' := [(0, zP 0), (1, .inl who), (2, .inl (q + 1))]) 2 rfl ⟨by omega, by omega⟩ rfl (by decide) dX12_duesOf_105 ?_
          refine zRx.goto (tgt := 7) dX12_duesOf_108 (by decide) ?_
          have he : L_X12_duesOf_7 who (n + 1) q σ = L_X12_duesOf_7 who n (q + 1) σ := by rw [L_X12_duesOf_7, if_neg (Int.not_le.mpr c12), if_pos c22, if_pos c31]
          rw [he]
          exact ih (q + 1) σ (by omega) (by omega) (by omega) (by omega)
def R_X12_duesOf (σ : zG) (who : Int) : zG := L_X12_duesOf_7 who 500 0 (zu σ 0 53 0)
theorem fr_R_X12_duesOf (σ : zG) (who : Int) {k : Nat} (h : k ∉ [0, 29]) : (R_X12_duesOf σ who) k = σ k := by
  have ne : ∀ c ∈ [0, 29], k ≠ c := fun c hc e => h (e ▸ hc)
  have nl_S_X12_duesOf_42 : k ∉ [29] := fun hm => h (by first | (revert hm; simp only [List.mem_cons, List.not_mem_nil, or_false]; omega) | (simp at hm))
  have nl_L_X12_duesOf_7 : k ∉ [0, 29] := fun hm => h (by first | (revert hm; simp only [List.mem_cons, List.not_mem_nil, or_false]; omega) | (simp at hm))
  unfold R_X12_duesOf
  repeat' split
  all_goals first | rfl | simp only [zu_row _ _ _ (ne 0 (by decide)), zu_row _ _ _ (ne 29 (by decide)), fr_S_X12_duesOf_42 (h := nl_S_X12_duesOf_42), fr_L_X12_duesOf_7 (h := nl_L_X12_duesOf_7)]

set_option maxRecDepth 20000 in
theorem does_X12_duesOf (σ : zG) (who : Int) (hm : σ 0 43 ≤ 420)  : zDo SM 0 m_X12_duesOf [zP 0, .inl who] σ (zEq none (R_X12_duesOf σ who)) := by
  refine zDo.intro mk_X12_duesOf (Nat.le_of_ble_eq_true rfl) ?_
  refine zRx.aload_n 0 rfl rfl dX12_duesOf_0 ?_
  refine zRx.iconst ⟨by decide, by decide⟩ dX12_duesOf_1 ?_
  refine zRx.putI (a := 0) (ji := 53) pl_12_422 rfl rfl rfl dX12_duesOf_2 ?_
  refine zRx.iconst ⟨by decide, by decide⟩ dX12_duesOf_5 ?_
  refine zRx.istore_n (ls' := [(0, zP 0), (1, .inl who), (2, .inl 0)]) rfl rfl (by decide) dX12_duesOf_6 ?_
  have he : R_X12_duesOf σ who = L_X12_duesOf_7 who 500 0 (zu σ 0 53 0) := by rw [R_X12_duesOf]
  rw [he]
  exact loop_X12_duesOf_7 who   500 0 (zu σ 0 53 0) (by omega) (by have e9 : (zu σ 0 53 0) 0 43 = σ 0 43 := (zu_off _ _ _ (by decide)); omega) (by rw [zu_at]; decide) (by rw [zu_off _ _ _ (by decide)]; omega)

theorem duesL_m (who : Int) : ∀ (n : Nat) (q : Int) (σ : zG), 0 ≤ q → 0 ≤ σ 0 53 ∧ σ 0 53 ≤ q → σ 0 43 ≤ 420 → q ≤ 420 → (σ 0 43 - q).toNat < n → (0 ≤ L_X12_duesOf_7 who n q σ 0 53 ∧ L_X12_duesOf_7 who n q σ 0 53 ≤ 420) ∧ ∀ i : Int, i ≠ 53 → L_X12_duesOf_7 who n q σ 0 i = σ 0 i
  | 0, q, σ, h0, hd, hm, h4, h => absurd h (Nat.not_lt_zero _)
  | n + 1, q, σ, h0, hd, hm, h4, h => by
    rw [L_X12_duesOf_7]
    split
    · exact ⟨by omega, fun i _ => rfl⟩
    · have key : ∀ j x y : Int, (0 ≤ L_X12_duesOf_7 who n (q + 1) (zu (zu ((S_X12_duesOf_42 who q 500 (σ 0 53) σ).2) 29 j x) 0 53 (σ 0 53 + 1)) 0 53 ∧ L_X12_duesOf_7 who n (q + 1) (zu (zu ((S_X12_duesOf_42 who q 500 (σ 0 53) σ).2) 29 j x) 0 53 (σ 0 53 + 1)) 0 53 ≤ 420) ∧ ∀ i : Int, i ≠ 53 → L_X12_duesOf_7 who n (q + 1) (zu (zu ((S_X12_duesOf_42 who q 500 (σ 0 53) σ).2) 29 j x) 0 53 (σ 0 53 + 1)) 0 i = σ 0 i := by
        intro j x y
        have e : ∀ i : Int, i ≠ 53 → zu (zu ((S_X12_duesOf_42 who q 500 (σ 0 53) σ).2) 29 j x) 0 53 (σ 0 53 + 1) 0 i = σ 0 i := fun i hi => by rw [zu_off _ _ _ hi, zu_ne _ _ _ _ (by decide), fr_S_X12_duesOf_42 (h := by decide)]
        have e43 := e 43 (by decide)
        have h9 := duesL_m who n (q + 1) (zu (zu ((S_X12_duesOf_42 who q 500 (σ 0 53) σ).2) 29 j x) 0 53 (σ 0 53 + 1)) (by omega) (by rw [zu_at]; omega) (by rw [e43]; exact hm) (by omega) (by rw [e43]; omega)
        exact ⟨h9.1, fun i hi => (h9.2 i hi).trans (e i hi)⟩
      repeat' split
      all_goals first | exact key _ _ 0 | exact duesL_m who n (q + 1) σ (by omega) (by omega) hm (by omega) (by omega)
theorem dues_m {σ : zG} {who : Int} (hm : σ 0 43 ≤ 420) : (0 ≤ R_X12_duesOf σ who 0 53 ∧ R_X12_duesOf σ who 0 53 ≤ 420) ∧ ∀ i : Int, i ≠ 53 → R_X12_duesOf σ who 0 i = σ 0 i := by
  unfold R_X12_duesOf
  have e : ∀ i : Int, i ≠ 53 → zu σ 0 53 0 0 i = σ 0 i := fun i hi => zu_off _ _ _ hi
  have h9 := duesL_m who 500 0 (zu σ 0 53 0) (by decide) (by rw [zu_at]; decide) (by rw [e 43 (by decide)]; exact hm) (by decide) (by rw [e 43 (by decide)]; omega)
  exact ⟨h9.1, fun i hi => (h9.2 i hi).trans (e i hi)⟩

def S_X12_canPay_103 (who x : Int) (q v : Int) : Nat → Int → zG → Int × zG
  | 0, j, σ => (j, σ)
  | n + 1, j, σ => if j ≤ 0 then (j, σ) else (if v ≤ (σ 30 (j - 1)) then (j, σ) else (S_X12_canPay_103 who x q v n (j + (-1)) (zu σ 30 j (σ 30 (j - 1)))))
theorem fr_S_X12_canPay_103 (who x : Int) (q v : Int)  (n : Nat) (j : Int) (σ : zG) {k : Nat} (h : k ∉ [30]) : (S_X12_canPay_103 who x q v n j σ).2 k = σ k := by
  induction n generalizing j σ with
  | zero => rfl
  | succ n ih =>
    have ne : ∀ c ∈ [30], k ≠ c := fun c hc e => h (e ▸ hc)
    rw [S_X12_canPay_103]
    repeat' split
    all_goals first | rfl | simp only [zu_row _ _ _ (ne 30 (by decide)), ih]

set_option maxRecDepth 20000 in
theorem seg_X12_canPay_103 (who x : Int)  (q v : Int) : ∀ (n : Nat) (j : Int) (σ : zG) (X : zX), 0 ≤ j ∧ j < 13 → j.toNat < n → zRx none 2 m_X12_canPay SM 144 [(0, zP 0), (1, .inl who), (2, .inl x), (3, .inl q), (5, .inl v), (6, .inl ((S_X12_canPay_103 who x q v n j σ).1))] [] ((S_X12_canPay_103 who x q v n j σ).2) X → zRx none 2 m_X12_canPay SM 103 [(0, zP 0), (1, .inl who), (2, .inl x), (3, .inl q), (5, .inl v), (6, .inl j)] [] σ X := by
  intro n
  induction n with
  | zero => intro j σ X h1 hmz; exact absurd hmz (Nat.not_lt_zero _)
  | succ n ih =>
    intro j σ X h1 hmz K
    refine zRx.iload 5 rfl dX12_canPay_103 ?_
    refine zRx.if_le (tgt := 144) dX12_canPay_105 (by decide) (fun c105 => ?_) (fun c105 => ?_)
    · have he : S_X12_canPay_103 who x q v (n + 1) j σ = (j, σ) := by rw [S_X12_canPay_103, if_pos c105]
      rw [he] at K
      exact K
    · refine zRx.aload_n 0 rfl rfl dX12_canPay_108 ?_
      refine zRx.getR (a := 0) (b := 30) fl_12_120 rfl rfl dX12_canPay_109 ?_
      refine zRx.iload 5 rfl dX12_canPay_112 ?_
      refine zRx.iconst ⟨by decide, by decide⟩ dX12_canPay_114 ?_
      refine zRx.isub ⟨by omega, by omega⟩ dX12_canPay_115 ?_
      refine zRx.ialdv (v := σ 30 (j - 1)) rfl rfl (by omega) (by omega) dX12_canPay_116 ?_
      refine zRx.iload 4 rfl dX12_canPay_117 ?_
      refine zRx.icmp_ge (tgt := 144) dX12_canPay_119 (by decide) (fun c119 => ?_) (fun c119 => ?_)
      · have he : S_X12_canPay_103 who x q v (n + 1) j σ = (j, σ) := by rw [S_X12_canPay_103, if_neg (Int.not_le.mpr c105), if_pos c119]
        rw [he] at K
        exact K
      · refine zRx.aload_n 0 rfl rfl dX12_canPay_122 ?_
        refine zRx.getR (a := 0) (b := 30) fl_12_120 rfl rfl dX12_canPay_123 ?_
        refine zRx.iload 5 rfl dX12_canPay_126 ?_
        refine zRx.aload_n 0 rfl rfl dX12_canPay_128 ?_
        refine zRx.getR (a := 0) (b := 30) fl_12_120 rfl rfl dX12_canPay_129 ?_
        refine zRx.iload 5 rfl dX12_canPay_132 ?_
        refine zRx.iconst ⟨by decide, by decide⟩ dX12_canPay_134 ?_
        refine zRx.isub ⟨by omega, by omega⟩ dX12_canPay_135 ?_
        refine zRx.ialdv (v := σ 30 (j - 1)) rfl rfl (by omega) (by omega) dX12_canPay_136 ?_
        refine zRx.iast rfl (by omega) (by omega) dX12_canPay_137 ?_
        refine zRx.iinc (n := -1) (ls' := [(0, zP 0), (1, .inl who), (2, .inl x), (3, .inl q), (5, .inl v), (6, .inl (j + (-1)))]) 5 rfl ⟨by omega, by omega⟩ rfl (by decide) dX12_canPay_138 ?_
        refine zRx.goto (tgt := 103) dX12_canPay_141 (by decide) ?_
        have he : S_X12_canPay_103 who x q v (n + 1) j σ = S_X12_canPay_103 who x q v n (j + (-1)) (zu σ 30 j (σ 30 (j - 1))) := by rw [S_X12_canPay_103, if_neg (Int.not_le.mpr c105), if_neg (Int.not_le.mpr c119)]
        rw [he] at K
        exact ih (j + (-1)) (zu σ 30 j (σ 30 (j - 1))) _ (by omega) (by omega) K
theorem canJ (who x q v : Int) : ∀ (n : Nat) (j : Int) (σ : zG), 0 ≤ j → 0 ≤ (S_X12_canPay_103 who x q v n j σ).1 ∧ (S_X12_canPay_103 who x q v n j σ).1 ≤ j
  | 0, j, σ, h => ⟨h, Int.le_refl _⟩
  | n + 1, j, σ, h => by
    rw [S_X12_canPay_103]
    repeat' split
    all_goals first | exact ⟨h, Int.le_refl _⟩ | (have h9 := canJ who x q v n (j + (-1)) (zu σ 30 j (σ 30 (j - 1))) (by omega); omega)
def S_X12_canPay_22 (who x : Int) : Nat → Int → zG → Int × zG
  | 0, q, σ => (q, σ)
  | n + 1, q, σ => if (σ 2 1) ≤ q then (q, σ) else (if hb (σ 11 who) q then (S_X12_canPay_22 who x n (q + 1) (zu (zu ((S_X12_canPay_103 who x q (R_X12_worthOf σ who q) 20 (σ 0 54) σ).2) 30 ((S_X12_canPay_103 who x q (R_X12_worthOf σ who q) 20 (σ 0 54) σ).1) (R_X12_worthOf σ who q)) 0 54 ((σ 0 54) + 1))) else (if hb x q then (S_X12_canPay_22 who x n (q + 1) (zu (zu ((S_X12_canPay_103 who x q (Int.tdiv (w32 ((σ 2 (8 + (3 * q))) * (σ 2 4))) 10) 20 (σ 0 54) σ).2) 30 ((S_X12_canPay_103 who x q (Int.tdiv (w32 ((σ 2 (8 + (3 * q))) * (σ 2 4))) 10) 20 (σ 0 54) σ).1) (Int.tdiv (w32 ((σ 2 (8 + (3 * q))) * (σ 2 4))) 10)) 0 54 ((σ 0 54) + 1))) else (S_X12_canPay_22 who x n (q + 1) σ)))
theorem fr_S_X12_canPay_22 (who x : Int)  (n : Nat) (q : Int) (σ : zG) {k : Nat} (h : k ∉ [0, 30]) : (S_X12_canPay_22 who x n q σ).2 k = σ k := by
  induction n generalizing q σ with
  | zero => rfl
  | succ n ih =>
    have ne : ∀ c ∈ [0, 30], k ≠ c := fun c hc e => h (e ▸ hc)
    have nk_S_X12_canPay_103 : k ∉ [30] := fun hm => h (by first | (revert hm; simp only [List.mem_cons, List.not_mem_nil, or_false]; omega) | (simp at hm))
    rw [S_X12_canPay_22]
    repeat' split
    all_goals first | rfl | simp only [zu_row _ _ _ (ne 0 (by decide)), zu_row _ _ _ (ne 30 (by decide)), fr_S_X12_canPay_103 (h := nk_S_X12_canPay_103), ih]

set_option maxRecDepth 20000 in
theorem seg_X12_canPay_22 (who x : Int) (hw : 0 ≤ who ∧ who < 8) : ∀ (n : Nat) (q : Int) (σ : zG) (X : zX), 0 ≤ q → 0 ≤ σ 2 1 ∧ σ 2 1 ≤ 12 → σ 2 0 ≤ 8 → 0 ≤ σ 0 54 ∧ σ 0 54 ≤ q → (σ 2 1 - q).toNat < n → zRx none 2 m_X12_canPay SM 169 [(0, zP 0), (1, .inl who), (2, .inl x), (3, .inl ((S_X12_canPay_22 who x n q σ).1))] [] ((S_X12_canPay_22 who x n q σ).2) X → zRx none 2 m_X12_canPay SM 22 [(0, zP 0), (1, .inl who), (2, .inl x), (3, .inl q)] [] σ X := by
  intro n
  induction n with
  | zero => intro q σ X h0 hF hp ht hmz; exact absurd hmz (Nat.not_lt_zero _)
  | succ n ih =>
    intro q σ X h0 hF hp ht hmz K
    refine zRx.iload_n 3 rfl rfl dX12_canPay_22 ?_
    refine zRx.aload_n 0 rfl rfl dX12_canPay_23 ?_
    refine zRx.getR (a := 0) (b := 2) fl_12_33 rfl rfl dX12_canPay_24 ?_
    refine zRx.iconst ⟨by decide, by decide⟩ dX12_canPay_27 ?_
    refine zRx.ialdv (v := σ 2 1) rfl rfl (by decide) (by decide) dX12_canPay_28 ?_
    refine zRx.icmp_ge (tgt := 169) dX12_canPay_29 (by decide) (fun c29 => ?_) (fun c29 => ?_)
    · have he : S_X12_canPay_22 who x (n + 1) q σ = (q, σ) := by rw [S_X12_canPay_22, if_pos c29]
      rw [he] at K
      exact K
    · refine zRx.aload_n 0 rfl rfl dX12_canPay_32 ?_
      refine zRx.getR (a := 0) (b := 11) fl_12_62 rfl rfl dX12_canPay_33 ?_
      refine zRx.iload_n 1 rfl rfl dX12_canPay_36 ?_
      refine zRx.ialdv (v := σ 11 who) rfl rfl (by omega) (by omega) dX12_canPay_37 ?_
      refine zRx.iload_n 3 rfl rfl dX12_canPay_38 ?_
      refine zRx.cSi (w := .inl (b2 (hb (σ 11 who) q))) (M := m_X12_has) (av := [.inl (σ 11 who), .inl q]) cs_12_272 mk_X12_has (by decide) rfl (Nat.le_of_ble_eq_true rfl) dX12_canPay_39 (does_X12_has (σ 11 who) q SM σ) ?_
      refine zRx.istore (ls' := [(0, zP 0), (1, .inl who), (2, .inl x), (3, .inl q), (4, .inl (b2 (hb (σ 11 who) q)))]) rfl (by decide) dX12_canPay_42 ?_
      refine zRx.iload 4 rfl dX12_canPay_44 ?_
      refine zRx.if_neB (tgt := 60) dX12_canPay_46 (by decide) (fun c46 => ?_) (fun c46 => ?_)
      · refine zRx.iload 4 rfl dX12_canPay_60 ?_
        refine zRx.if_eqB (tgt := 74) dX12_canPay_62 (by decide) (fun c62 => absurd c46 c62) (fun c62 => ?_)
        refine zRx.aload_n 0 rfl rfl dX12_canPay_65 ?_
        refine zRx.iload_n 1 rfl rfl dX12_canPay_66 ?_
        refine zRx.iload_n 3 rfl rfl dX12_canPay_67 ?_
        refine zRx.cVi (w := .inl (R_X12_worthOf σ who q)) (M := m_X12_worthOf) (av := [.inl who, .inl q]) cv_12_372 mk_X12_worthOf (by decide) (b := 0) rfl rfl (Nat.le_of_ble_eq_true rfl) dX12_canPay_68 (does_X12_worthOf σ who q (by omega) (by omega)) ?_
        refine zRx.goto (tgt := 95) dX12_canPay_71 (by decide) ?_
        refine zRx.istore (ls' := [(0, zP 0), (1, .inl who), (2, .inl x), (3, .inl q), (4, .inl (b2 (hb (σ 11 who) q))), (5, .inl (R_X12_worthOf σ who q))]) rfl (by decide) dX12_canPay_95 ?_
        refine zRx.aload_n 0 rfl rfl dX12_canPay_97 ?_
        refine zRx.getIv (a := 0) (ji := 54) (v := σ 0 54) rfl fl_12_425 rfl rfl rfl dX12_canPay_98 ?_
        refine zRx.istore (ls' := [(0, zP 0), (1, .inl who), (2, .inl x), (3, .inl q), (4, .inl (b2 (hb (σ 11 who) q))), (5, .inl (R_X12_worthOf σ who q)), (6, .inl (σ 0 54))]) rfl (by decide) dX12_canPay_101 ?_
        refine zRx.pick [0, 1, 2, 3, 5, 6] (ls' := [(0, zP 0), (1, .inl who), (2, .inl x), (3, .inl q), (5, .inl (R_X12_worthOf σ who q)), (6, .inl (σ 0 54))]) rfl ?_
        refine seg_X12_canPay_103 who x  q (R_X12_worthOf σ who q) 20 (σ 0 54) σ _ (by omega) (by omega) ?_
        have hj := canJ who x q (R_X12_worthOf σ who q) 20 (σ 0 54) σ (by omega)
        refine zRx.aload_n 0 rfl rfl dX12_canPay_144 ?_
        refine zRx.getR (a := 0) (b := 30) fl_12_120 rfl rfl dX12_canPay_145 ?_
        refine zRx.iload 5 rfl dX12_canPay_148 ?_
        refine zRx.iload 4 rfl dX12_canPay_150 ?_
        refine zRx.iast rfl (by omega) (by omega) dX12_canPay_152 ?_
        refine zRx.aload_n 0 rfl rfl dX12_canPay_153 ?_
        refine zRx.dup rfl dX12_canPay_154 ?_
        refine zRx.getIv (a := 0) (ji := 54) (v := σ 0 54) ((zu_ne _ _ _ _ (by decide)).trans (congrFun (fr_S_X12_canPay_103 who x q (R_X12_worthOf σ who q) 20 (σ 0 54) σ (k := 0) (by decide)) _)) fl_12_425 rfl rfl rfl dX12_canPay_155 ?_
        refine zRx.iconst ⟨by decide, by decide⟩ dX12_canPay_158 ?_
        refine zRx.iadd ⟨by omega, by omega⟩ dX12_canPay_159 ?_
        refine zRx.putI (a := 0) (ji := 54) pl_12_425 rfl rfl rfl dX12_canPay_160 ?_
        refine zRx.iinc (n := 1) (ls' := [(0, zP 0), (1, .inl who), (2, .inl x), (3, .inl (q + 1)), (5, .inl (R_X12_worthOf σ who q)), (6, .inl ((S_X12_canPay_103 who x q (R_X12_worthOf σ who q) 20 (σ 0 54) σ).1))]) 3 rfl ⟨by omega, by omega⟩ rfl (by decide) dX12_canPay_163 ?_
        refine zRx.goto (tgt := 22) dX12_canPay_166 (by decide) ?_
        refine zRx.pick [0, 1, 2, 3] (ls' := [(0, zP 0), (1, .inl who), (2, .inl x), (3, .inl (q + 1))]) rfl ?_
        have he : S_X12_canPay_22 who x (n + 1) q σ = S_X12_canPay_22 who x n (q + 1) (zu (zu ((S_X12_canPay_103 who x q (R_X12_worthOf σ who q) 20 (σ 0 54) σ).2) 30 ((S_X12_canPay_103 who x q (R_X12_worthOf σ who q) 20 (σ 0 54) σ).1) (R_X12_worthOf σ who q)) 0 54 ((σ 0 54) + 1)) := by rw [S_X12_canPay_22, if_neg (Int.not_le.mpr c29), if_pos c46]
        rw [he] at K
        exact ih (q + 1) (zu (zu ((S_X12_canPay_103 who x q (R_X12_worthOf σ who q) 20 (σ 0 54) σ).2) 30 ((S_X12_canPay_103 who x q (R_X12_worthOf σ who q) 20 (σ 0 54) σ).1) (R_X12_worthOf σ who q)) 0 54 ((σ 0 54) + 1)) _ (by omega) (by have e9 : (zu (zu ((S_X12_canPay_103 who x q (R_X12_worthOf σ who q) 20 (σ 0 54) σ).2) 30 ((S_X12_canPay_103 who x q (R_X12_worthOf σ who q) 20 (σ 0 54) σ).1) (R_X12_worthOf σ who q)) 0 54 ((σ 0 54) + 1)) 2 1 = σ 2 1 := ((zu_ne _ _ _ _ (by decide)).trans ((zu_ne _ _ _ _ (by decide)).trans (congrFun (fr_S_X12_canPay_103 who x q (R_X12_worthOf σ who q) 20 (σ 0 54) σ (k := 2) (by decide)) _))); omega) (by have e9 : (zu (zu ((S_X12_canPay_103 who x q (R_X12_worthOf σ who q) 20 (σ 0 54) σ).2) 30 ((S_X12_canPay_103 who x q (R_X12_worthOf σ who q) 20 (σ 0 54) σ).1) (R_X12_worthOf σ who q)) 0 54 ((σ 0 54) + 1)) 2 0 = σ 2 0 := ((zu_ne _ _ _ _ (by decide)).trans ((zu_ne _ _ _ _ (by decide)).trans (congrFun (fr_S_X12_canPay_103 who x q (R_X12_worthOf σ who q) 20 (σ 0 54) σ (k := 2) (by decide)) _))); omega) (by have e9 : (zu (zu ((S_X12_canPay_103 who x q (R_X12_worthOf σ who q) 20 (σ 0 54) σ).2) 30 ((S_X12_canPay_103 who x q (R_X12_worthOf σ who q) 20 (σ 0 54) σ).1) (R_X12_worthOf σ who q)) 0 54 ((σ 0 54) + 1)) 0 54 = (σ 0 54) + 1 := (zu_at _ _ _ _); omega) (by have e9 : (zu (zu ((S_X12_canPay_103 who x q (R_X12_worthOf σ who q) 20 (σ 0 54) σ).2) 30 ((S_X12_canPay_103 who x q (R_X12_worthOf σ who q) 20 (σ 0 54) σ).1) (R_X12_worthOf σ who q)) 0 54 ((σ 0 54) + 1)) 2 1 = σ 2 1 := ((zu_ne _ _ _ _ (by decide)).trans ((zu_ne _ _ _ _ (by decide)).trans (congrFun (fr_S_X12_canPay_103 who x q (R_X12_worthOf σ who q) 20 (σ 0 54) σ (k := 2) (by decide)) _))); omega) K
      · refine zRx.iload_n 2 rfl rfl dX12_canPay_49 ?_
        refine zRx.iload_n 3 rfl rfl dX12_canPay_50 ?_
        refine zRx.cSi (w := .inl (b2 (hb x q))) (M := m_X12_has) (av := [.inl x, .inl q]) cs_12_272 mk_X12_has (by decide) rfl (Nat.le_of_ble_eq_true rfl) dX12_canPay_51 (does_X12_has x q SM σ) ?_
        refine zRx.if_neB (tgt := 60) dX12_canPay_54 (by decide) (fun c54 => ?_) (fun c54 => ?_)
        · refine zRx.iload 4 rfl dX12_canPay_60 ?_
          refine zRx.if_eqB (tgt := 74) dX12_canPay_62 (by decide) (fun c62 => ?_) (fun c62 => absurd c62 c46)
          refine zRx.aload_n 0 rfl rfl dX12_canPay_74 ?_
          refine zRx.getR (a := 0) (b := 2) fl_12_33 rfl rfl dX12_canPay_75 ?_
          refine zRx.bipush ⟨by decide, by decide⟩ rfl dX12_canPay_78 ?_
          refine zRx.iconst ⟨by decide, by decide⟩ dX12_canPay_80 ?_
          refine zRx.iload_n 3 rfl rfl dX12_canPay_81 ?_
          refine zRx.imul ⟨by omega, by omega⟩ dX12_canPay_82 ?_
          refine zRx.iadd ⟨by omega, by omega⟩ dX12_canPay_83 ?_
          refine zRx.ialdv (v := σ 2 (8 + (3 * q))) rfl rfl (by omega) (by omega) dX12_canPay_84 ?_
          refine zRx.aload_n 0 rfl rfl dX12_canPay_85 ?_
          refine zRx.getR (a := 0) (b := 2) fl_12_33 rfl rfl dX12_canPay_86 ?_
          refine zRx.iconst ⟨by decide, by decide⟩ dX12_canPay_89 ?_
          refine zRx.ialdv (v := σ 2 4) rfl rfl (by decide) (by decide) dX12_canPay_90 ?_
          refine zRx.imulW dX12_canPay_91 ?_
          refine zRx.bipush ⟨by decide, by decide⟩ rfl dX12_canPay_92 ?_
          refine zRx.idivT (by decide) dX12_canPay_94 ?_
          refine zRx.istore (ls' := [(0, zP 0), (1, .inl who), (2, .inl x), (3, .inl q), (4, .inl (b2 (hb (σ 11 who) q))), (5, .inl (Int.tdiv (w32 ((σ 2 (8 + (3 * q))) * (σ 2 4))) 10))]) rfl (by decide) dX12_canPay_95 ?_
          refine zRx.aload_n 0 rfl rfl dX12_canPay_97 ?_
          refine zRx.getIv (a := 0) (ji := 54) (v := σ 0 54) rfl fl_12_425 rfl rfl rfl dX12_canPay_98 ?_
          refine zRx.istore (ls' := [(0, zP 0), (1, .inl who), (2, .inl x), (3, .inl q), (4, .inl (b2 (hb (σ 11 who) q))), (5, .inl (Int.tdiv (w32 ((σ 2 (8 + (3 * q))) * (σ 2 4))) 10)), (6, .inl (σ 0 54))]) rfl (by decide) dX12_canPay_101 ?_
          refine zRx.pick [0, 1, 2, 3, 5, 6] (ls' := [(0, zP 0), (1, .inl who), (2, .inl x), (3, .inl q), (5, .inl (Int.tdiv (w32 ((σ 2 (8 + (3 * q))) * (σ 2 4))) 10)), (6, .inl (σ 0 54))]) rfl ?_
          refine seg_X12_canPay_103 who x  q (Int.tdiv (w32 ((σ 2 (8 + (3 * q))) * (σ 2 4))) 10) 20 (σ 0 54) σ _ (by omega) (by omega) ?_
          have hj := canJ who x q (Int.tdiv (w32 ((σ 2 (8 + (3 * q))) * (σ 2 4))) 10) 20 (σ 0 54) σ (by omega)
          refine zRx.aload_n 0 rfl rfl dX12_canPay_144 ?_
          refine zRx.getR (a := 0) (b := 30) fl_12_120 rfl rfl dX12_canPay_145 ?_
          refine zRx.iload 5 rfl dX12_canPay_148 ?_
          refine zRx.iload 4 rfl dX12_canPay_150 ?_
          refine zRx.iast rfl (by omega) (by omega) dX12_canPay_152 ?_
          refine zRx.aload_n 0 rfl rfl dX12_canPay_153 ?_
          refine zRx.dup rfl dX12_canPay_154 ?_
          refine zRx.getIv (a := 0) (ji := 54) (v := σ 0 54) ((zu_ne _ _ _ _ (by decide)).trans (congrFun (fr_S_X12_canPay_103 who x q (Int.tdiv (w32 ((σ 2 (8 + (3 * q))) * (σ 2 4))) 10) 20 (σ 0 54) σ (k := 0) (by decide)) _)) fl_12_425 rfl rfl rfl dX12_canPay_155 ?_
          refine zRx.iconst ⟨by decide, by decide⟩ dX12_canPay_158 ?_
          refine zRx.iadd ⟨by omega, by omega⟩ dX12_canPay_159 ?_
          refine zRx.putI (a := 0) (ji := 54) pl_12_425 rfl rfl rfl dX12_canPay_160 ?_
          refine zRx.iinc (n := 1) (ls' := [(0, zP 0), (1, .inl who), (2, .inl x), (3, .inl (q + 1)), (5, .inl (Int.tdiv (w32 ((σ 2 (8 + (3 * q))) * (σ 2 4))) 10)), (6, .inl ((S_X12_canPay_103 who x q (Int.tdiv (w32 ((σ 2 (8 + (3 * q))) * (σ 2 4))) 10) 20 (σ 0 54) σ).1))]) 3 rfl ⟨by omega, by omega⟩ rfl (by decide) dX12_canPay_163 ?_
          refine zRx.goto (tgt := 22) dX12_canPay_166 (by decide) ?_
          refine zRx.pick [0, 1, 2, 3] (ls' := [(0, zP 0), (1, .inl who), (2, .inl x), (3, .inl (q + 1))]) rfl ?_
          have he : S_X12_canPay_22 who x (n + 1) q σ = S_X12_canPay_22 who x n (q + 1) (zu (zu ((S_X12_canPay_103 who x q (Int.tdiv (w32 ((σ 2 (8 + (3 * q))) * (σ 2 4))) 10) 20 (σ 0 54) σ).2) 30 ((S_X12_canPay_103 who x q (Int.tdiv (w32 ((σ 2 (8 + (3 * q))) * (σ 2 4))) 10) 20 (σ 0 54) σ).1) (Int.tdiv (w32 ((σ 2 (8 + (3 * q))) * (σ 2 4))) 10)) 0 54 ((σ 0 54) + 1)) := by rw [S_X12_canPay_22, if_neg (Int.not_le.mpr c29), if_neg c46, if_pos c54]
          rw [he] at K
          exact ih (q + 1) (zu (zu ((S_X12_canPay_103 who x q (Int.tdiv (w32 ((σ 2 (8 + (3 * q))) * (σ 2 4))) 10) 20 (σ 0 54) σ).2) 30 ((S_X12_canPay_103 who x q (Int.tdiv (w32 ((σ 2 (8 + (3 * q))) * (σ 2 4))) 10) 20 (σ 0 54) σ).1) (Int.tdiv (w32 ((σ 2 (8 + (3 * q))) * (σ 2 4))) 10)) 0 54 ((σ 0 54) + 1)) _ (by omega) (by have e9 : (zu (zu ((S_X12_canPay_103 who x q (Int.tdiv (w32 ((σ 2 (8 + (3 * q))) * (σ 2 4))) 10) 20 (σ 0 54) σ).2) 30 ((S_X12_canPay_103 who x q (Int.tdiv (w32 ((σ 2 (8 + (3 * q))) * (σ 2 4))) 10) 20 (σ 0 54) σ).1) (Int.tdiv (w32 ((σ 2 (8 + (3 * q))) * (σ 2 4))) 10)) 0 54 ((σ 0 54) + 1)) 2 1 = σ 2 1 := ((zu_ne _ _ _ _ (by decide)).trans ((zu_ne _ _ _ _ (by decide)).trans (congrFun (fr_S_X12_canPay_103 who x q (Int.tdiv (w32 ((σ 2 (8 + (3 * q))) * (σ 2 4))) 10) 20 (σ 0 54) σ (k := 2) (by decide)) _))); omega) (by have e9 : (zu (zu ((S_X12_canPay_103 who x q (Int.tdiv (w32 ((σ 2 (8 + (3 * q))) * (σ 2 4))) 10) 20 (σ 0 54) σ).2) 30 ((S_X12_canPay_103 who x q (Int.tdiv (w32 ((σ 2 (8 + (3 * q))) * (σ 2 4))) 10) 20 (σ 0 54) σ).1) (Int.tdiv (w32 ((σ 2 (8 + (3 * q))) * (σ 2 4))) 10)) 0 54 ((σ 0 54) + 1)) 2 0 = σ 2 0 := ((zu_ne _ _ _ _ (by decide)).trans ((zu_ne _ _ _ _ (by decide)).trans (congrFun (fr_S_X12_canPay_103 who x q (Int.tdiv (w32 ((σ 2 (8 + (3 * q))) * (σ 2 4))) 10) 20 (σ 0 54) σ (k := 2) (by decide)) _))); omega) (by have e9 : (zu (zu ((S_X12_canPay_103 who x q (Int.tdiv (w32 ((σ 2 (8 + (3 * q))) * (σ 2 4))) 10) 20 (σ 0 54) σ).2) 30 ((S_X12_canPay_103 who x q (Int.tdiv (w32 ((σ 2 (8 + (3 * q))) * (σ 2 4))) 10) 20 (σ 0 54) σ).1) (Int.tdiv (w32 ((σ 2 (8 + (3 * q))) * (σ 2 4))) 10)) 0 54 ((σ 0 54) + 1)) 0 54 = (σ 0 54) + 1 := (zu_at _ _ _ _); omega) (by have e9 : (zu (zu ((S_X12_canPay_103 who x q (Int.tdiv (w32 ((σ 2 (8 + (3 * q))) * (σ 2 4))) 10) 20 (σ 0 54) σ).2) 30 ((S_X12_canPay_103 who x q (Int.tdiv (w32 ((σ 2 (8 + (3 * q))) * (σ 2 4))) 10) 20 (σ 0 54) σ).1) (Int.tdiv (w32 ((σ 2 (8 + (3 * q))) * (σ 2 4))) 10)) 0 54 ((σ 0 54) + 1)) 2 1 = σ 2 1 := ((zu_ne _ _ _ _ (by decide)).trans ((zu_ne _ _ _ _ (by decide)).trans (congrFun (fr_S_X12_canPay_103 who x q (Int.tdiv (w32 ((σ 2 (8 + (3 * q))) * (σ 2 4))) 10) 20 (σ 0 54) σ (k := 2) (by decide)) _))); omega) K
        · refine zRx.goto (tgt := 163) dX12_canPay_57 (by decide) ?_
          refine zRx.iinc (n := 1) (ls' := [(0, zP 0), (1, .inl who), (2, .inl x), (3, .inl (q + 1)), (4, .inl (b2 (hb (σ 11 who) q)))]) 3 rfl ⟨by omega, by omega⟩ rfl (by decide) dX12_canPay_163 ?_
          refine zRx.goto (tgt := 22) dX12_canPay_166 (by decide) ?_
          refine zRx.pick [0, 1, 2, 3] (ls' := [(0, zP 0), (1, .inl who), (2, .inl x), (3, .inl (q + 1))]) rfl ?_
          have he : S_X12_canPay_22 who x (n + 1) q σ = S_X12_canPay_22 who x n (q + 1) σ := by rw [S_X12_canPay_22, if_neg (Int.not_le.mpr c29), if_neg c46, if_neg c54]
          rw [he] at K
          exact ih (q + 1) σ _ (by omega) (by omega) (by omega) (by omega) (by omega) K
theorem canP22 (who x : Int) : ∀ (n : Nat) (q : Int) (σ : zG) (i : Int), i ≠ 54 → (S_X12_canPay_22 who x n q σ).2 0 i = σ 0 i
  | 0, q, σ, i, h => rfl
  | n + 1, q, σ, i, h => by
    have key : ∀ v j y : Int, (S_X12_canPay_22 who x n (q + 1) (zu (zu ((S_X12_canPay_103 who x q v 20 (σ 0 54) σ).2) 30 j y) 0 54 (σ 0 54 + 1))).2 0 i = σ 0 i := by
      intro v j y
      rw [canP22 who x n (q + 1) _ i h, zu_off _ _ _ h, zu_ne _ _ _ _ (by decide), fr_S_X12_canPay_103 (h := by decide)]
    rw [S_X12_canPay_22]
    repeat' split
    all_goals first | rfl | exact key _ _ _ | exact canP22 who x n (q + 1) σ i h
def L_X12_canPay_184 (who x : Int) : Nat → Int → zG → Int × zG
  | 0, _, σ => (0, σ)
  | n + 1, q, σ => if (σ 0 53) ≤ q then (1, σ) else (if (σ 29 q) ≤ (σ 30 q) then (L_X12_canPay_184 who x n (q + 1) σ) else (0, σ))
theorem fr_L_X12_canPay_184 (who x : Int)  (n : Nat) (q : Int) (σ : zG) {k : Nat} (h : k ∉ []) : (L_X12_canPay_184 who x n q σ).2 k = σ k := by
  induction n generalizing q σ with
  | zero => rfl
  | succ n ih =>
    have ne : ∀ c ∈ [], k ≠ c := fun c hc e => h (e ▸ hc)
    rw [L_X12_canPay_184]
    repeat' split
    all_goals first | rfl | simp only [ih]

set_option maxRecDepth 20000 in
theorem loop_X12_canPay_184 (who x : Int)  : ∀ (n : Nat) (q : Int) (σ : zG), 0 ≤ q → σ 0 53 ≤ 12 → (σ 0 53 - q).toNat < n → zR SM 2 m_X12_canPay 184 [(0, zP 0), (1, .inl who), (2, .inl x), (3, .inl q)] [] σ (zEq (some (.inl (L_X12_canPay_184 who x n q σ).1)) (L_X12_canPay_184 who x n q σ).2) := by
  intro n
  induction n with
  | zero => intro q σ h0 hd hmz; exact absurd hmz (Nat.not_lt_zero _)
  | succ n ih =>
    intro q σ h0 hd hmz
    refine zRx.iload_n 3 rfl rfl dX12_canPay_184 ?_
    refine zRx.aload_n 0 rfl rfl dX12_canPay_185 ?_
    refine zRx.getIv (a := 0) (ji := 53) (v := σ 0 53) rfl fl_12_422 rfl rfl rfl dX12_canPay_186 ?_
    refine zRx.icmp_ge (tgt := 215) dX12_canPay_189 (by decide) (fun c189 => ?_) (fun c189 => ?_)
    · refine zRx.iconst ⟨by decide, by decide⟩ dX12_canPay_215 ?_
      exact zR.zret rfl ⟨by decide, by decide⟩ dX12_canPay_216 (by have he : L_X12_canPay_184 who x (n + 1) q σ = (1, σ) := (by rw [L_X12_canPay_184, if_pos c189]); rw [he]; exact ⟨rfl, rfl⟩)
    · refine zRx.aload_n 0 rfl rfl dX12_canPay_192 ?_
      refine zRx.getR (a := 0) (b := 30) fl_12_120 rfl rfl dX12_canPay_193 ?_
      refine zRx.iload_n 3 rfl rfl dX12_canPay_196 ?_
      refine zRx.ialdv (v := σ 30 q) rfl rfl (by omega) (by omega) dX12_canPay_197 ?_
      refine zRx.aload_n 0 rfl rfl dX12_canPay_198 ?_
      refine zRx.getR (a := 0) (b := 29) fl_12_117 rfl rfl dX12_canPay_199 ?_
      refine zRx.iload_n 3 rfl rfl dX12_canPay_202 ?_
      refine zRx.ialdv (v := σ 29 q) rfl rfl (by omega) (by omega) dX12_canPay_203 ?_
      refine zRx.icmp_ge (tgt := 209) dX12_canPay_204 (by decide) (fun c204 => ?_) (fun c204 => ?_)
      · refine zRx.iinc (n := 1) (ls' := [(0, zP 0), (1, .inl who), (2, .inl x), (3, .inl (q + 1))]) 3 rfl ⟨by omega, by omega⟩ rfl (by decide) dX12_canPay_209 ?_
        refine zRx.goto (tgt := 184) dX12_canPay_212 (by decide) ?_
        have he : L_X12_canPay_184 who x (n + 1) q σ = L_X12_canPay_184 who x n (q + 1) σ := by rw [L_X12_canPay_184, if_neg (Int.not_le.mpr c189), if_pos c204]
        rw [he]
        exact ih (q + 1) σ (by omega) hd (by omega)
      · refine zRx.iconst ⟨by decide, by decide⟩ dX12_canPay_207 ?_
        exact zR.zret rfl ⟨by decide, by decide⟩ dX12_canPay_208 (by have he : L_X12_canPay_184 who x (n + 1) q σ = (0, σ) := (by rw [L_X12_canPay_184, if_neg (Int.not_le.mpr c189), if_neg (Int.not_le.mpr c204)]); rw [he]; exact ⟨rfl, rfl⟩)
def R_X12_canPay (σ : zG) (who x : Int) : Int × zG := if (σ 0 53) ≤ (σ 2 1) then (if (σ 0 53) ≤ (((S_X12_canPay_22 who x 20 0 (zu σ 0 54 0)).2) 0 54) then (L_X12_canPay_184 who x 20 0 ((S_X12_canPay_22 who x 20 0 (zu σ 0 54 0)).2)) else (0, (S_X12_canPay_22 who x 20 0 (zu σ 0 54 0)).2)) else (0, σ)
theorem fr_R_X12_canPay (σ : zG) (who x : Int) {k : Nat} (h : k ∉ [0, 30]) : (R_X12_canPay σ who x).2 k = σ k := by
  have ne : ∀ c ∈ [0, 30], k ≠ c := fun c hc e => h (e ▸ hc)
  have nk_S_X12_canPay_22 : k ∉ [0, 30] := fun hm => h (by first | (revert hm; simp only [List.mem_cons, List.not_mem_nil, or_false]; omega) | (simp at hm))
  have nl_S_X12_canPay_103 : k ∉ [30] := fun hm => h (by first | (revert hm; simp only [List.mem_cons, List.not_mem_nil, or_false]; omega) | (simp at hm))
  have nl_S_X12_canPay_22 : k ∉ [0, 30] := fun hm => h (by first | (revert hm; simp only [List.mem_cons, List.not_mem_nil, or_false]; omega) | (simp at hm))
  have nl_L_X12_canPay_184 : k ∉ [] := fun hm => h (by first | (revert hm; simp only [List.mem_cons, List.not_mem_nil, or_false]; omega) | (simp at hm))
  unfold R_X12_canPay
  repeat' split
  all_goals first | rfl | simp only [zu_row _ _ _ (ne 0 (by decide)), zu_row _ _ _ (ne 30 (by decide)), fr_S_X12_canPay_22 (h := nk_S_X12_canPay_22), fr_S_X12_canPay_103 (h := nl_S_X12_canPay_103), fr_S_X12_canPay_22 (h := nl_S_X12_canPay_22), fr_L_X12_canPay_184 (h := nl_L_X12_canPay_184)]

set_option maxRecDepth 20000 in
theorem does_X12_canPay (σ : zG) (who x : Int) (hw : 0 ≤ who ∧ who < 8) (hF : 0 ≤ σ 2 1 ∧ σ 2 1 ≤ 12) (hp : σ 2 0 ≤ 8)  : zDo SM 2 m_X12_canPay [zP 0, .inl who, .inl x] σ (zEq (some (.inl (R_X12_canPay σ who x).1)) (R_X12_canPay σ who x).2) := by
  refine zDo.intro mk_X12_canPay (Nat.le_of_ble_eq_true rfl) ?_
  refine zRx.aload_n 0 rfl rfl dX12_canPay_0 ?_
  refine zRx.getIv (a := 0) (ji := 53) (v := σ 0 53) rfl fl_12_422 rfl rfl rfl dX12_canPay_1 ?_
  refine zRx.aload_n 0 rfl rfl dX12_canPay_4 ?_
  refine zRx.getR (a := 0) (b := 2) fl_12_33 rfl rfl dX12_canPay_5 ?_
  refine zRx.iconst ⟨by decide, by decide⟩ dX12_canPay_8 ?_
  refine zRx.ialdv (v := σ 2 1) rfl rfl (by decide) (by decide) dX12_canPay_9 ?_
  refine zRx.icmp_le (tgt := 15) dX12_canPay_10 (by decide) (fun c10 => ?_) (fun c10 => ?_)
  · refine zRx.aload_n 0 rfl rfl dX12_canPay_15 ?_
    refine zRx.iconst ⟨by decide, by decide⟩ dX12_canPay_16 ?_
    refine zRx.putI (a := 0) (ji := 54) pl_12_425 rfl rfl rfl dX12_canPay_17 ?_
    refine zRx.iconst ⟨by decide, by decide⟩ dX12_canPay_20 ?_
    refine zRx.istore_n (ls' := [(0, zP 0), (1, .inl who), (2, .inl x), (3, .inl 0)]) rfl rfl (by decide) dX12_canPay_21 ?_
    refine seg_X12_canPay_22 who x hw  20 0 (zu σ 0 54 0) _ (by omega) (by have e9 : (zu σ 0 54 0) 2 1 = σ 2 1 := (zu_ne _ _ _ _ (by decide)); omega) (by have e9 : (zu σ 0 54 0) 2 0 = σ 2 0 := (zu_ne _ _ _ _ (by decide)); omega) (by rw [zu_at]; decide) (by have e9 : (zu σ 0 54 0) 2 1 = σ 2 1 := (zu_ne _ _ _ _ (by decide)); omega) ?_
    refine zRx.aload_n 0 rfl rfl dX12_canPay_169 ?_
    refine zRx.getIv (a := 0) (ji := 54) (v := ((S_X12_canPay_22 who x 20 0 (zu σ 0 54 0)).2) 0 54) rfl fl_12_425 rfl rfl rfl dX12_canPay_170 ?_
    refine zRx.aload_n 0 rfl rfl dX12_canPay_173 ?_
    refine zRx.getIv (a := 0) (ji := 53) (v := σ 0 53) ((canP22 _ _ _ _ _ 53 (by decide)).trans (zu_off _ _ _ (by decide))) fl_12_422 rfl rfl rfl dX12_canPay_174 ?_
    refine zRx.icmp_ge (tgt := 182) dX12_canPay_177 (by decide) (fun c177 => ?_) (fun c177 => ?_)
    · refine zRx.iconst ⟨by decide, by decide⟩ dX12_canPay_182 ?_
      refine zRx.istore_n (ls' := [(0, zP 0), (1, .inl who), (2, .inl x), (3, .inl 0)]) rfl rfl (by decide) dX12_canPay_183 ?_
      have he : R_X12_canPay σ who x = L_X12_canPay_184 who x 20 0 ((S_X12_canPay_22 who x 20 0 (zu σ 0 54 0)).2) := by rw [R_X12_canPay, if_pos c10, if_pos c177]
      rw [he]
      exact loop_X12_canPay_184 who x   20 0 ((S_X12_canPay_22 who x 20 0 (zu σ 0 54 0)).2) (by omega) (by have e9 : ((S_X12_canPay_22 who x 20 0 (zu σ 0 54 0)).2) 0 53 = σ 0 53 := ((canP22 _ _ _ _ _ 53 (by decide)).trans (zu_off _ _ _ (by decide))); omega) (by have e9 : ((S_X12_canPay_22 who x 20 0 (zu σ 0 54 0)).2) 0 53 = σ 0 53 := ((canP22 _ _ _ _ _ 53 (by decide)).trans (zu_off _ _ _ (by decide))); omega)
    · refine zRx.iconst ⟨by decide, by decide⟩ dX12_canPay_180 ?_
      exact zR.zret rfl ⟨by decide, by decide⟩ dX12_canPay_181 (by have he : R_X12_canPay σ who x = (0, (S_X12_canPay_22 who x 20 0 (zu σ 0 54 0)).2) := (by rw [R_X12_canPay, if_pos c10, if_neg (Int.not_le.mpr c177)]); rw [he]; exact ⟨rfl, rfl⟩)
  · refine zRx.iconst ⟨by decide, by decide⟩ dX12_canPay_13 ?_
    exact zR.zret rfl ⟨by decide, by decide⟩ dX12_canPay_14 (by have he : R_X12_canPay σ who x = (0, σ) := (by rw [R_X12_canPay, if_neg (Int.not_le.mpr c10)]); rw [he]; exact ⟨rfl, rfl⟩)

theorem canL_K (who x : Int) : ∀ (n : Nat) (q : Int) (σ : zG), (L_X12_canPay_184 who x n q σ).2 = σ ∧ (0 ≤ (L_X12_canPay_184 who x n q σ).1 ∧ (L_X12_canPay_184 who x n q σ).1 ≤ 1)
  | 0, q, σ => ⟨rfl, (by decide : (0 : Int) ≤ 0 ∧ (0 : Int) ≤ 1)⟩
  | n + 1, q, σ => by
    rw [L_X12_canPay_184]
    repeat' split
    all_goals first | exact ⟨rfl, (by decide : (0 : Int) ≤ 0 ∧ (0 : Int) ≤ 1)⟩ | exact ⟨rfl, (by decide : (0 : Int) ≤ 1 ∧ (1 : Int) ≤ 1)⟩ | exact canL_K who x n (q + 1) σ
theorem can_K (σ : zG) (who x i : Int) (h : i ≠ 54) : (R_X12_canPay σ who x).2 0 i = σ 0 i := by
  unfold R_X12_canPay
  repeat' split
  all_goals first | rfl | rw [(canL_K who x _ _ _).1, canP22 _ _ _ _ _ _ h, zu_off _ _ _ h] | rw [canP22 _ _ _ _ _ _ h, zu_off _ _ _ h]
theorem bshl_1 {k : Int} (h0 : 0 ≤ k) (h1 : k ≤ 12) : 1 ≤ bshl 1 k ∧ bshl 1 k ≤ 4096 := by
  obtain ⟨k', rfl⟩ := Int.eq_ofNat_of_zero_le h0
  have hp : 2 ^ k' ≤ 2 ^ 12 := Nat.pow_le_pow_right (by decide) (by omega)
  have hq : 0 < 2 ^ k' := Nat.two_pow_pos k'
  have e1 : bshl (1 : Int) (k' : Int) = ((2 ^ k' : Nat) : Int) := by
    have := bshl_nat (a := 1) (i := k') (by omega) (by omega)
    rw [Nat.one_mul] at this
    exact this
  rw [e1]
  omega

theorem run_m2 {σ : zG} {b : Int} (hW : MW (σ 2)) : R_X12_run σ b 0 43 ≤ 420 := (run_K _ b hW).2.2

def S_X12_needed_56 (who b : Int) (st : Int) : Nat → Int → Int → zG → Int × Int × zG
  | 0, sm, f, σ => (sm, f, σ)
  | n + 1, sm, f, σ => if (σ 2 1) ≤ f then (sm, f, σ) else (if b = 0 then (sm, f, σ) else (if hb st f then (if 1000000000 ≤ sm then (S_X12_needed_56 who b st n sm (f + 1) σ) else (if 1000000000 ≤ (R_X12_price σ who f) then (S_X12_needed_56 who b st n 1000000000 (f + 1) σ) else (S_X12_needed_56 who b st n (w32 (sm + (R_X12_price σ who f))) (f + 1) σ))) else (S_X12_needed_56 who b st n sm (f + 1) σ)))
theorem fr_S_X12_needed_56 (who b : Int) (st : Int)  (n : Nat) (sm f : Int) (σ : zG) {k : Nat} (h : k ∉ []) : (S_X12_needed_56 who b st n sm f σ).2.2 k = σ k := by
  induction n generalizing sm f σ with
  | zero => rfl
  | succ n ih =>
    have ne : ∀ c ∈ [], k ≠ c := fun c hc e => h (e ▸ hc)
    rw [S_X12_needed_56]
    repeat' split
    all_goals first | rfl | simp only [ih]

set_option maxRecDepth 20000 in
theorem seg_X12_needed_56 (who b : Int) (hw : 0 ≤ who ∧ who < 8) (st : Int) : ∀ (n : Nat) (sm f : Int) (σ : zG) (X : zX), 0 ≤ f → MA (σ 2) → 0 ≤ σ 2 1 ∧ σ 2 1 ≤ 12 → 0 ≤ σ 2 0 ∧ σ 2 0 ≤ 8 → (σ 2 1 - f).toNat < n → zRx none 6 m_X12_needed SM 130 [(0, zP 0), (1, .inl who), (2, .inl b), (3, .inl st), (4, .inl ((S_X12_needed_56 who b st n sm f σ).1)), (5, .inl ((S_X12_needed_56 who b st n sm f σ).2.1))] [] ((S_X12_needed_56 who b st n sm f σ).2.2) X → zRx none 6 m_X12_needed SM 56 [(0, zP 0), (1, .inl who), (2, .inl b), (3, .inl st), (4, .inl sm), (5, .inl f)] [] σ X := by
  intro n
  induction n with
  | zero => intro sm f σ X h1 hA hF hp hmz; exact absurd hmz (Nat.not_lt_zero _)
  | succ n ih =>
    intro sm f σ X h1 hA hF hp hmz K
    refine zRx.iload 5 rfl dX12_needed_56 ?_
    refine zRx.aload_n 0 rfl rfl dX12_needed_58 ?_
    refine zRx.getR (a := 0) (b := 2) fl_12_33 rfl rfl dX12_needed_59 ?_
    refine zRx.iconst ⟨by decide, by decide⟩ dX12_needed_62 ?_
    refine zRx.ialdv (v := σ 2 1) rfl rfl (by decide) (by decide) dX12_needed_63 ?_
    refine zRx.icmp_ge (tgt := 130) dX12_needed_64 (by decide) (fun c64 => ?_) (fun c64 => ?_)
    · have he : S_X12_needed_56 who b st (n + 1) sm f σ = (sm, f, σ) := by rw [S_X12_needed_56, if_pos c64]
      rw [he] at K
      exact K
    · refine zRx.iload_n 2 rfl rfl dX12_needed_67 ?_
      refine zRx.if_eq (tgt := 130) dX12_needed_68 (by decide) (fun c68 => ?_) (fun c68 => ?_)
      · have he : S_X12_needed_56 who b st (n + 1) sm f σ = (sm, f, σ) := by rw [S_X12_needed_56, if_neg (Int.not_le.mpr c64), if_pos c68]
        rw [he] at K
        exact K
      · refine zRx.iload_n 3 rfl rfl dX12_needed_71 ?_
        refine zRx.iload 5 rfl dX12_needed_72 ?_
        refine zRx.cSi (w := .inl (b2 (hb st f))) (M := m_X12_has) (av := [.inl st, .inl f]) cs_12_272 mk_X12_has (by decide) rfl (Nat.le_of_ble_eq_true rfl) dX12_needed_74 (does_X12_has st f SM σ) ?_
        refine zRx.if_eqB (tgt := 120) dX12_needed_77 (by decide) (fun c77 => ?_) (fun c77 => ?_)
        · refine zRx.iload 4 rfl dX12_needed_120 ?_
          refine zRx.istore (ls' := [(0, zP 0), (1, .inl who), (2, .inl b), (3, .inl st), (4, .inl sm), (5, .inl f)]) rfl (by decide) dX12_needed_122 ?_
          refine zRx.iinc (n := 1) (ls' := [(0, zP 0), (1, .inl who), (2, .inl b), (3, .inl st), (4, .inl sm), (5, .inl (f + 1))]) 5 rfl ⟨by omega, by omega⟩ rfl (by decide) dX12_needed_124 ?_
          refine zRx.goto (tgt := 56) dX12_needed_127 (by decide) ?_
          have he : S_X12_needed_56 who b st (n + 1) sm f σ = S_X12_needed_56 who b st n sm (f + 1) σ := by rw [S_X12_needed_56, if_neg (Int.not_le.mpr c64), if_neg c68, if_neg c77]
          rw [he] at K
          exact ih sm (f + 1) σ _ (by omega) hA hF hp (by omega) K
        · refine zRx.iload 4 rfl dX12_needed_80 ?_
          refine zRx.ldcw ⟨by decide, by decide⟩ kc_12_428 dX12_needed_82 ?_
          refine zRx.icmp_ge (tgt := 120) dX12_needed_85 (by decide) (fun c85 => ?_) (fun c85 => ?_)
          · refine zRx.iload 4 rfl dX12_needed_120 ?_
            refine zRx.istore (ls' := [(0, zP 0), (1, .inl who), (2, .inl b), (3, .inl st), (4, .inl sm), (5, .inl f)]) rfl (by decide) dX12_needed_122 ?_
            refine zRx.iinc (n := 1) (ls' := [(0, zP 0), (1, .inl who), (2, .inl b), (3, .inl st), (4, .inl sm), (5, .inl (f + 1))]) 5 rfl ⟨by omega, by omega⟩ rfl (by decide) dX12_needed_124 ?_
            refine zRx.goto (tgt := 56) dX12_needed_127 (by decide) ?_
            have he : S_X12_needed_56 who b st (n + 1) sm f σ = S_X12_needed_56 who b st n sm (f + 1) σ := by rw [S_X12_needed_56, if_neg (Int.not_le.mpr c64), if_neg c68, if_pos c77, if_pos c85]
            rw [he] at K
            exact ih sm (f + 1) σ _ (by omega) hA hF hp (by omega) K
          · refine zRx.aload_n 0 rfl rfl dX12_needed_88 ?_
            refine zRx.iload_n 1 rfl rfl dX12_needed_89 ?_
            refine zRx.iload 5 rfl dX12_needed_90 ?_
            refine zRx.cVi (w := .inl (R_X12_price σ who f)) (M := m_X12_price) (av := [.inl who, .inl f]) cv_12_438 mk_X12_price (by decide) (b := 0) rfl rfl (Nat.le_of_ble_eq_true rfl) dX12_needed_92 (does_X12_price σ who f hA (by omega) (by omega)) ?_
            refine zRx.ldcw ⟨by decide, by decide⟩ kc_12_428 dX12_needed_95 ?_
            refine zRx.icmp_ge (tgt := 114) dX12_needed_98 (by decide) (fun c98 => ?_) (fun c98 => ?_)
            · refine zRx.ldcw ⟨by decide, by decide⟩ kc_12_428 dX12_needed_114 ?_
              refine zRx.goto (tgt := 122) dX12_needed_117 (by decide) ?_
              refine zRx.istore (ls' := [(0, zP 0), (1, .inl who), (2, .inl b), (3, .inl st), (4, .inl 1000000000), (5, .inl f)]) rfl (by decide) dX12_needed_122 ?_
              refine zRx.iinc (n := 1) (ls' := [(0, zP 0), (1, .inl who), (2, .inl b), (3, .inl st), (4, .inl 1000000000), (5, .inl (f + 1))]) 5 rfl ⟨by omega, by omega⟩ rfl (by decide) dX12_needed_124 ?_
              refine zRx.goto (tgt := 56) dX12_needed_127 (by decide) ?_
              have he : S_X12_needed_56 who b st (n + 1) sm f σ = S_X12_needed_56 who b st n 1000000000 (f + 1) σ := by rw [S_X12_needed_56, if_neg (Int.not_le.mpr c64), if_neg c68, if_pos c77, if_neg (Int.not_le.mpr c85), if_pos c98]
              rw [he] at K
              exact ih 1000000000 (f + 1) σ _ (by omega) hA hF hp (by omega) K
            · refine zRx.iload 4 rfl dX12_needed_101 ?_
              refine zRx.aload_n 0 rfl rfl dX12_needed_103 ?_
              refine zRx.iload_n 1 rfl rfl dX12_needed_104 ?_
              refine zRx.iload 5 rfl dX12_needed_105 ?_
              refine zRx.cVi (w := .inl (R_X12_price σ who f)) (M := m_X12_price) (av := [.inl who, .inl f]) cv_12_438 mk_X12_price (by decide) (b := 0) rfl rfl (Nat.le_of_ble_eq_true rfl) dX12_needed_107 (does_X12_price σ who f hA (by omega) (by omega)) ?_
              refine zRx.iaddW dX12_needed_110 ?_
              refine zRx.goto (tgt := 122) dX12_needed_111 (by decide) ?_
              refine zRx.istore (ls' := [(0, zP 0), (1, .inl who), (2, .inl b), (3, .inl st), (4, .inl (w32 (sm + (R_X12_price σ who f)))), (5, .inl f)]) rfl (by decide) dX12_needed_122 ?_
              refine zRx.iinc (n := 1) (ls' := [(0, zP 0), (1, .inl who), (2, .inl b), (3, .inl st), (4, .inl (w32 (sm + (R_X12_price σ who f)))), (5, .inl (f + 1))]) 5 rfl ⟨by omega, by omega⟩ rfl (by decide) dX12_needed_124 ?_
              refine zRx.goto (tgt := 56) dX12_needed_127 (by decide) ?_
              have he : S_X12_needed_56 who b st (n + 1) sm f σ = S_X12_needed_56 who b st n (w32 (sm + (R_X12_price σ who f))) (f + 1) σ := by rw [S_X12_needed_56, if_neg (Int.not_le.mpr c64), if_neg c68, if_pos c77, if_neg (Int.not_le.mpr c85), if_neg (Int.not_le.mpr c98)]
              rw [he] at K
              exact ih (w32 (sm + (R_X12_price σ who f))) (f + 1) σ _ (by omega) hA hF hp (by omega) K
def L_X12_needed_24 (who b : Int) : Nat → Int → zG → Int × zG
  | 0, _, σ => (0, σ)
  | n + 1, st, σ => if (bshl 1 (σ 2 1)) ≤ st then (if (σ 0 55) < 0 then (0, σ) else (1, σ)) else (if (band st (σ 11 who)) = 0 then (if ((S_X12_needed_56 who b st 20 0 0 σ).1) = 1000000000 then (L_X12_needed_24 who b n (st + 1) ((S_X12_needed_56 who b st 20 0 0 σ).2.2)) else (if (σ 0 56) < ((S_X12_needed_56 who b st 20 0 0 σ).1) then (L_X12_needed_24 who b n (st + 1) ((S_X12_needed_56 who b st 20 0 0 σ).2.2)) else (if (σ 0 55) < 0 then (if ((R_X12_canPay ((S_X12_needed_56 who b st 20 0 0 σ).2.2) who st).1) = 0 then (L_X12_needed_24 who b n (st + 1) ((R_X12_canPay ((S_X12_needed_56 who b st 20 0 0 σ).2.2) who st).2)) else (L_X12_needed_24 who b n (st + 1) (zu (zu ((R_X12_canPay ((S_X12_needed_56 who b st 20 0 0 σ).2.2) who st).2) 0 55 st) 0 56 ((S_X12_needed_56 who b st 20 0 0 σ).1)))) else (if ((S_X12_needed_56 who b st 20 0 0 σ).1) = (σ 0 56) then (if (R_X12_many ((S_X12_needed_56 who b st 20 0 0 σ).2.2) (σ 0 55)) ≤ (R_X12_many ((S_X12_needed_56 who b st 20 0 0 σ).2.2) st) then (L_X12_needed_24 who b n (st + 1) ((S_X12_needed_56 who b st 20 0 0 σ).2.2)) else (if ((R_X12_canPay ((S_X12_needed_56 who b st 20 0 0 σ).2.2) who st).1) = 0 then (L_X12_needed_24 who b n (st + 1) ((R_X12_canPay ((S_X12_needed_56 who b st 20 0 0 σ).2.2) who st).2)) else (L_X12_needed_24 who b n (st + 1) (zu (zu ((R_X12_canPay ((S_X12_needed_56 who b st 20 0 0 σ).2.2) who st).2) 0 55 st) 0 56 ((S_X12_needed_56 who b st 20 0 0 σ).1))))) else (if ((R_X12_canPay ((S_X12_needed_56 who b st 20 0 0 σ).2.2) who st).1) = 0 then (L_X12_needed_24 who b n (st + 1) ((R_X12_canPay ((S_X12_needed_56 who b st 20 0 0 σ).2.2) who st).2)) else (L_X12_needed_24 who b n (st + 1) (zu (zu ((R_X12_canPay ((S_X12_needed_56 who b st 20 0 0 σ).2.2) who st).2) 0 55 st) 0 56 ((S_X12_needed_56 who b st 20 0 0 σ).1)))))))) else (L_X12_needed_24 who b n (st + 1) σ))
theorem fr_L_X12_needed_24 (who b : Int)  (n : Nat) (st : Int) (σ : zG) {k : Nat} (h : k ∉ [0, 30]) : (L_X12_needed_24 who b n st σ).2 k = σ k := by
  induction n generalizing st σ with
  | zero => rfl
  | succ n ih =>
    have ne : ∀ c ∈ [0, 30], k ≠ c := fun c hc e => h (e ▸ hc)
    have nk_S_X12_needed_56 : k ∉ [] := fun hm => h (by first | (revert hm; simp only [List.mem_cons, List.not_mem_nil, or_false]; omega) | (simp at hm))
    have nk_R_X12_canPay : k ∉ [0, 30] := fun hm => h (by first | (revert hm; simp only [List.mem_cons, List.not_mem_nil, or_false]; omega) | (simp at hm))
    rw [L_X12_needed_24]
    repeat' split
    all_goals first | rfl | simp only [zu_row _ _ _ (ne 0 (by decide)), zu_row _ _ _ (ne 30 (by decide)), fr_S_X12_needed_56 (h := nk_S_X12_needed_56), fr_R_X12_canPay (h := nk_R_X12_canPay), ih]

set_option maxRecDepth 20000 in
theorem loop_X12_needed_24 (who b : Int) (hw : 0 ≤ who ∧ who < 8) : ∀ (n : Nat) (st : Int) (σ : zG), 0 ≤ st ∧ st ≤ 4096 → MA (σ 2) → 0 ≤ σ 2 1 ∧ σ 2 1 ≤ 12 → 0 ≤ σ 2 0 ∧ σ 2 0 ≤ 8 → -1 ≤ σ 0 55 ∧ σ 0 55 < 4096 → (bshl 1 (σ 2 1) - st).toNat < n → zR SM 6 m_X12_needed 24 [(0, zP 0), (1, .inl who), (2, .inl b), (3, .inl st)] [] σ (zEq (some (.inl (L_X12_needed_24 who b n st σ).1)) (L_X12_needed_24 who b n st σ).2) := by
  intro n
  induction n with
  | zero => intro st σ h0 hA hF hp hb hmz; exact absurd hmz (Nat.not_lt_zero _)
  | succ n ih =>
    intro st σ h0 hA hF hp hb hmz
    have hsh := bshl_1 hF.1 hF.2
    refine zRx.iload_n 3 rfl rfl dX12_needed_24 ?_
    refine zRx.iconst ⟨by decide, by decide⟩ dX12_needed_25 ?_
    refine zRx.aload_n 0 rfl rfl dX12_needed_26 ?_
    refine zRx.getR (a := 0) (b := 2) fl_12_33 rfl rfl dX12_needed_27 ?_
    refine zRx.iconst ⟨by decide, by decide⟩ dX12_needed_30 ?_
    refine zRx.ialdv (v := σ 2 1) rfl rfl (by decide) (by decide) dX12_needed_31 ?_
    refine zRx.ishl dX12_needed_32 ?_
    refine zRx.icmp_ge (tgt := 206) dX12_needed_33 (by decide) (fun c33 => ?_) (fun c33 => ?_)
    · refine zRx.aload_n 0 rfl rfl dX12_needed_206 ?_
      refine zRx.getIv (a := 0) (ji := 55) (v := σ 0 55) rfl fl_12_432 rfl rfl rfl dX12_needed_207 ?_
      refine zRx.if_lt (tgt := 217) dX12_needed_210 (by decide) (fun c210 => ?_) (fun c210 => ?_)
      · refine zRx.iconst ⟨by decide, by decide⟩ dX12_needed_217 ?_
        exact zR.zret rfl ⟨by decide, by decide⟩ dX12_needed_218 (by have he : L_X12_needed_24 who b (n + 1) st σ = (0, σ) := (by rw [L_X12_needed_24, if_pos c33, if_pos c210]); rw [he]; exact ⟨rfl, rfl⟩)
      · refine zRx.iconst ⟨by decide, by decide⟩ dX12_needed_213 ?_
        refine zRx.goto (tgt := 218) dX12_needed_214 (by decide) ?_
        exact zR.zret rfl ⟨by decide, by decide⟩ dX12_needed_218 (by have he : L_X12_needed_24 who b (n + 1) st σ = (1, σ) := (by rw [L_X12_needed_24, if_pos c33, if_neg (Int.not_lt.mpr c210)]); rw [he]; exact ⟨rfl, rfl⟩)
    · refine zRx.iload_n 3 rfl rfl dX12_needed_36 ?_
      refine zRx.aload_n 0 rfl rfl dX12_needed_37 ?_
      refine zRx.getR (a := 0) (b := 11) fl_12_62 rfl rfl dX12_needed_38 ?_
      refine zRx.iload_n 1 rfl rfl dX12_needed_41 ?_
      refine zRx.ialdv (v := σ 11 who) rfl rfl (by omega) (by omega) dX12_needed_42 ?_
      refine zRx.iand dX12_needed_43 ?_
      refine zRx.if_eq (tgt := 50) dX12_needed_44 (by decide) (fun c44 => ?_) (fun c44 => ?_)
      · refine zRx.iconst ⟨by decide, by decide⟩ dX12_needed_50 ?_
        refine zRx.istore (ls' := [(0, zP 0), (1, .inl who), (2, .inl b), (3, .inl st), (4, .inl 0)]) rfl (by decide) dX12_needed_51 ?_
        refine zRx.iconst ⟨by decide, by decide⟩ dX12_needed_53 ?_
        refine zRx.istore (ls' := [(0, zP 0), (1, .inl who), (2, .inl b), (3, .inl st), (4, .inl 0), (5, .inl 0)]) rfl (by decide) dX12_needed_54 ?_
        refine seg_X12_needed_56 who b hw st 20 0 0 σ _ (by omega) hA hF hp (by omega) ?_
        refine zRx.iload 4 rfl dX12_needed_130 ?_
        refine zRx.ldcw ⟨by decide, by decide⟩ kc_12_428 dX12_needed_132 ?_
        refine zRx.icmp_eq (tgt := 200) dX12_needed_135 (by decide) (fun c135 => ?_) (fun c135 => ?_)
        · refine zRx.iinc (n := 1) (ls' := [(0, zP 0), (1, .inl who), (2, .inl b), (3, .inl (st + 1)), (4, .inl ((S_X12_needed_56 who b st 20 0 0 σ).1)), (5, .inl ((S_X12_needed_56 who b st 20 0 0 σ).2.1))]) 3 rfl ⟨by omega, by omega⟩ rfl (by decide) dX12_needed_200 ?_
          refine zRx.goto (tgt := 24) dX12_needed_203 (by decide) ?_
          refine zRx.pick [0, 1, 2, 3] (ls' := [(0, zP 0), (1, .inl who), (2, .inl b), (3, .inl (st + 1))]) rfl ?_
          have he : L_X12_needed_24 who b (n + 1) st σ = L_X12_needed_24 who b n (st + 1) ((S_X12_needed_56 who b st 20 0 0 σ).2.2) := by rw [L_X12_needed_24, if_neg (Int.not_le.mpr c33), if_pos c44, if_pos c135]
          rw [he]
          exact ih (st + 1) ((S_X12_needed_56 who b st 20 0 0 σ).2.2) (by omega) (by rw [show ((S_X12_needed_56 who b st 20 0 0 σ).2.2) 2 = σ 2 from (fr_S_X12_needed_56 who b st 20 0 0 σ (k := 2) (by decide))]; exact hA) (by have e9 : ((S_X12_needed_56 who b st 20 0 0 σ).2.2) 2 1 = σ 2 1 := (congrFun (fr_S_X12_needed_56 who b st 20 0 0 σ (k := 2) (by decide)) _); omega) (by have e9 : ((S_X12_needed_56 who b st 20 0 0 σ).2.2) 2 0 = σ 2 0 := (congrFun (fr_S_X12_needed_56 who b st 20 0 0 σ (k := 2) (by decide)) _); omega) (by have e9 : ((S_X12_needed_56 who b st 20 0 0 σ).2.2) 0 55 = σ 0 55 := (congrFun (fr_S_X12_needed_56 who b st 20 0 0 σ (k := 0) (by decide)) _); omega) (by rw [show ((S_X12_needed_56 who b st 20 0 0 σ).2.2) 2 1 = σ 2 1 from (congrFun (fr_S_X12_needed_56 who b st 20 0 0 σ (k := 2) (by decide)) _)]; omega)
        · refine zRx.iload 4 rfl dX12_needed_138 ?_
          refine zRx.aload_n 0 rfl rfl dX12_needed_140 ?_
          refine zRx.getIv (a := 0) (ji := 56) (v := σ 0 56) (congrFun (fr_S_X12_needed_56 who b st 20 0 0 σ (k := 0) (by decide)) _) fl_12_435 rfl rfl rfl dX12_needed_141 ?_
          refine zRx.icmp_gt (tgt := 200) dX12_needed_144 (by decide) (fun c144 => ?_) (fun c144 => ?_)
          · refine zRx.iinc (n := 1) (ls' := [(0, zP 0), (1, .inl who), (2, .inl b), (3, .inl (st + 1)), (4, .inl ((S_X12_needed_56 who b st 20 0 0 σ).1)), (5, .inl ((S_X12_needed_56 who b st 20 0 0 σ).2.1))]) 3 rfl ⟨by omega, by omega⟩ rfl (by decide) dX12_needed_200 ?_
            refine zRx.goto (tgt := 24) dX12_needed_203 (by decide) ?_
            refine zRx.pick [0, 1, 2, 3] (ls' := [(0, zP 0), (1, .inl who), (2, .inl b), (3, .inl (st + 1))]) rfl ?_
            have he : L_X12_needed_24 who b (n + 1) st σ = L_X12_needed_24 who b n (st + 1) ((S_X12_needed_56 who b st 20 0 0 σ).2.2) := by rw [L_X12_needed_24, if_neg (Int.not_le.mpr c33), if_pos c44, if_neg c135, if_pos c144]
            rw [he]
            exact ih (st + 1) ((S_X12_needed_56 who b st 20 0 0 σ).2.2) (by omega) (by rw [show ((S_X12_needed_56 who b st 20 0 0 σ).2.2) 2 = σ 2 from (fr_S_X12_needed_56 who b st 20 0 0 σ (k := 2) (by decide))]; exact hA) (by have e9 : ((S_X12_needed_56 who b st 20 0 0 σ).2.2) 2 1 = σ 2 1 := (congrFun (fr_S_X12_needed_56 who b st 20 0 0 σ (k := 2) (by decide)) _); omega) (by have e9 : ((S_X12_needed_56 who b st 20 0 0 σ).2.2) 2 0 = σ 2 0 := (congrFun (fr_S_X12_needed_56 who b st 20 0 0 σ (k := 2) (by decide)) _); omega) (by have e9 : ((S_X12_needed_56 who b st 20 0 0 σ).2.2) 0 55 = σ 0 55 := (congrFun (fr_S_X12_needed_56 who b st 20 0 0 σ (k := 0) (by decide)) _); omega) (by rw [show ((S_X12_needed_56 who b st 20 0 0 σ).2.2) 2 1 = σ 2 1 from (congrFun (fr_S_X12_needed_56 who b st 20 0 0 σ (k := 2) (by decide)) _)]; omega)
          · refine zRx.aload_n 0 rfl rfl dX12_needed_147 ?_
            refine zRx.getIv (a := 0) (ji := 55) (v := σ 0 55) (congrFun (fr_S_X12_needed_56 who b st 20 0 0 σ (k := 0) (by decide)) _) fl_12_432 rfl rfl rfl dX12_needed_148 ?_
            refine zRx.if_lt (tgt := 177) dX12_needed_151 (by decide) (fun c151 => ?_) (fun c151 => ?_)
            · refine zRx.aload_n 0 rfl rfl dX12_needed_177 ?_
              refine zRx.iload_n 1 rfl rfl dX12_needed_178 ?_
              refine zRx.iload_n 3 rfl rfl dX12_needed_179 ?_
              refine zRx.cVi (w := .inl ((R_X12_canPay ((S_X12_needed_56 who b st 20 0 0 σ).2.2) who st).1)) (M := m_X12_canPay) (av := [.inl who, .inl st]) cv_12_441 mk_X12_canPay (by decide) (b := 0) rfl rfl (Nat.le_of_ble_eq_true rfl) dX12_needed_180 (does_X12_canPay ((S_X12_needed_56 who b st 20 0 0 σ).2.2) who st (by omega) (by have e9 : ((S_X12_needed_56 who b st 20 0 0 σ).2.2) 2 1 = σ 2 1 := (congrFun (fr_S_X12_needed_56 who b st 20 0 0 σ (k := 2) (by decide)) _); omega) (by have e9 : ((S_X12_needed_56 who b st 20 0 0 σ).2.2) 2 0 = σ 2 0 := (congrFun (fr_S_X12_needed_56 who b st 20 0 0 σ (k := 2) (by decide)) _); omega)) ?_
              refine zRx.if_ne (tgt := 189) dX12_needed_183 (by decide) (fun c183 => ?_) (fun c183 => ?_)
              · refine zRx.aload_n 0 rfl rfl dX12_needed_189 ?_
                refine zRx.iload_n 3 rfl rfl dX12_needed_190 ?_
                refine zRx.putI (a := 0) (ji := 55) pl_12_432 rfl rfl rfl dX12_needed_191 ?_
                refine zRx.aload_n 0 rfl rfl dX12_needed_194 ?_
                refine zRx.iload 4 rfl dX12_needed_195 ?_
                refine zRx.putI (a := 0) (ji := 56) pl_12_435 rfl rfl rfl dX12_needed_197 ?_
                refine zRx.iinc (n := 1) (ls' := [(0, zP 0), (1, .inl who), (2, .inl b), (3, .inl (st + 1)), (4, .inl ((S_X12_needed_56 who b st 20 0 0 σ).1)), (5, .inl ((S_X12_needed_56 who b st 20 0 0 σ).2.1))]) 3 rfl ⟨by omega, by omega⟩ rfl (by decide) dX12_needed_200 ?_
                refine zRx.goto (tgt := 24) dX12_needed_203 (by decide) ?_
                refine zRx.pick [0, 1, 2, 3] (ls' := [(0, zP 0), (1, .inl who), (2, .inl b), (3, .inl (st + 1))]) rfl ?_
                have he : L_X12_needed_24 who b (n + 1) st σ = L_X12_needed_24 who b n (st + 1) (zu (zu ((R_X12_canPay ((S_X12_needed_56 who b st 20 0 0 σ).2.2) who st).2) 0 55 st) 0 56 ((S_X12_needed_56 who b st 20 0 0 σ).1)) := by rw [L_X12_needed_24, if_neg (Int.not_le.mpr c33), if_pos c44, if_neg c135, if_neg (Int.not_lt.mpr c144), if_pos c151, if_neg c183]
                rw [he]
                exact ih (st + 1) (zu (zu ((R_X12_canPay ((S_X12_needed_56 who b st 20 0 0 σ).2.2) who st).2) 0 55 st) 0 56 ((S_X12_needed_56 who b st 20 0 0 σ).1)) (by omega) (by rw [show (zu (zu ((R_X12_canPay ((S_X12_needed_56 who b st 20 0 0 σ).2.2) who st).2) 0 55 st) 0 56 ((S_X12_needed_56 who b st 20 0 0 σ).1)) 2 = σ 2 from ((zu_row _ _ _ (by decide)).trans ((zu_row _ _ _ (by decide)).trans ((fr_R_X12_canPay ((S_X12_needed_56 who b st 20 0 0 σ).2.2) who st (k := 2) (by decide)).trans (fr_S_X12_needed_56 who b st 20 0 0 σ (k := 2) (by decide)))))]; exact hA) (by have e9 : (zu (zu ((R_X12_canPay ((S_X12_needed_56 who b st 20 0 0 σ).2.2) who st).2) 0 55 st) 0 56 ((S_X12_needed_56 who b st 20 0 0 σ).1)) 2 1 = σ 2 1 := ((zu_ne _ _ _ _ (by decide)).trans ((zu_ne _ _ _ _ (by decide)).trans ((congrFun (fr_R_X12_canPay ((S_X12_needed_56 who b st 20 0 0 σ).2.2) who st (k := 2) (by decide)) _).trans (congrFun (fr_S_X12_needed_56 who b st 20 0 0 σ (k := 2) (by decide)) _)))); omega) (by have e9 : (zu (zu ((R_X12_canPay ((S_X12_needed_56 who b st 20 0 0 σ).2.2) who st).2) 0 55 st) 0 56 ((S_X12_needed_56 who b st 20 0 0 σ).1)) 2 0 = σ 2 0 := ((zu_ne _ _ _ _ (by decide)).trans ((zu_ne _ _ _ _ (by decide)).trans ((congrFun (fr_R_X12_canPay ((S_X12_needed_56 who b st 20 0 0 σ).2.2) who st (k := 2) (by decide)) _).trans (congrFun (fr_S_X12_needed_56 who b st 20 0 0 σ (k := 2) (by decide)) _)))); omega) (by have e9 : (zu (zu ((R_X12_canPay ((S_X12_needed_56 who b st 20 0 0 σ).2.2) who st).2) 0 55 st) 0 56 ((S_X12_needed_56 who b st 20 0 0 σ).1)) 0 55 = st := ((zu_off _ _ _ (by decide)).trans (zu_at _ _ _ _)); omega) (by rw [show (zu (zu ((R_X12_canPay ((S_X12_needed_56 who b st 20 0 0 σ).2.2) who st).2) 0 55 st) 0 56 ((S_X12_needed_56 who b st 20 0 0 σ).1)) 2 1 = σ 2 1 from ((zu_ne _ _ _ _ (by decide)).trans ((zu_ne _ _ _ _ (by decide)).trans ((congrFun (fr_R_X12_canPay ((S_X12_needed_56 who b st 20 0 0 σ).2.2) who st (k := 2) (by decide)) _).trans (congrFun (fr_S_X12_needed_56 who b st 20 0 0 σ (k := 2) (by decide)) _))))]; omega)
              · refine zRx.goto (tgt := 200) dX12_needed_186 (by decide) ?_
                refine zRx.iinc (n := 1) (ls' := [(0, zP 0), (1, .inl who), (2, .inl b), (3, .inl (st + 1)), (4, .inl ((S_X12_needed_56 who b st 20 0 0 σ).1)), (5, .inl ((S_X12_needed_56 who b st 20 0 0 σ).2.1))]) 3 rfl ⟨by omega, by omega⟩ rfl (by decide) dX12_needed_200 ?_
                refine zRx.goto (tgt := 24) dX12_needed_203 (by decide) ?_
                refine zRx.pick [0, 1, 2, 3] (ls' := [(0, zP 0), (1, .inl who), (2, .inl b), (3, .inl (st + 1))]) rfl ?_
                have he : L_X12_needed_24 who b (n + 1) st σ = L_X12_needed_24 who b n (st + 1) ((R_X12_canPay ((S_X12_needed_56 who b st 20 0 0 σ).2.2) who st).2) := by rw [L_X12_needed_24, if_neg (Int.not_le.mpr c33), if_pos c44, if_neg c135, if_neg (Int.not_lt.mpr c144), if_pos c151, if_pos c183]
                rw [he]
                exact ih (st + 1) ((R_X12_canPay ((S_X12_needed_56 who b st 20 0 0 σ).2.2) who st).2) (by omega) (by rw [show ((R_X12_canPay ((S_X12_needed_56 who b st 20 0 0 σ).2.2) who st).2) 2 = σ 2 from ((fr_R_X12_canPay ((S_X12_needed_56 who b st 20 0 0 σ).2.2) who st (k := 2) (by decide)).trans (fr_S_X12_needed_56 who b st 20 0 0 σ (k := 2) (by decide)))]; exact hA) (by have e9 : ((R_X12_canPay ((S_X12_needed_56 who b st 20 0 0 σ).2.2) who st).2) 2 1 = σ 2 1 := ((congrFun (fr_R_X12_canPay ((S_X12_needed_56 who b st 20 0 0 σ).2.2) who st (k := 2) (by decide)) _).trans (congrFun (fr_S_X12_needed_56 who b st 20 0 0 σ (k := 2) (by decide)) _)); omega) (by have e9 : ((R_X12_canPay ((S_X12_needed_56 who b st 20 0 0 σ).2.2) who st).2) 2 0 = σ 2 0 := ((congrFun (fr_R_X12_canPay ((S_X12_needed_56 who b st 20 0 0 σ).2.2) who st (k := 2) (by decide)) _).trans (congrFun (fr_S_X12_needed_56 who b st 20 0 0 σ (k := 2) (by decide)) _)); omega) (by have e9 : ((R_X12_canPay ((S_X12_needed_56 who b st 20 0 0 σ).2.2) who st).2) 0 55 = σ 0 55 := ((can_K _ _ _ 55 (by decide)).trans (congrFun (fr_S_X12_needed_56 who b st 20 0 0 σ (k := 0) (by decide)) _)); omega) (by rw [show ((R_X12_canPay ((S_X12_needed_56 who b st 20 0 0 σ).2.2) who st).2) 2 1 = σ 2 1 from ((congrFun (fr_R_X12_canPay ((S_X12_needed_56 who b st 20 0 0 σ).2.2) who st (k := 2) (by decide)) _).trans (congrFun (fr_S_X12_needed_56 who b st 20 0 0 σ (k := 2) (by decide)) _))]; omega)
            · refine zRx.iload 4 rfl dX12_needed_154 ?_
              refine zRx.aload_n 0 rfl rfl dX12_needed_156 ?_
              refine zRx.getIv (a := 0) (ji := 56) (v := σ 0 56) (congrFun (fr_S_X12_needed_56 who b st 20 0 0 σ (k := 0) (by decide)) _) fl_12_435 rfl rfl rfl dX12_needed_157 ?_
              refine zRx.icmp_ne (tgt := 177) dX12_needed_160 (by decide) (fun c160 => ?_) (fun c160 => ?_)
              · refine zRx.aload_n 0 rfl rfl dX12_needed_177 ?_
                refine zRx.iload_n 1 rfl rfl dX12_needed_178 ?_
                refine zRx.iload_n 3 rfl rfl dX12_needed_179 ?_
                refine zRx.cVi (w := .inl ((R_X12_canPay ((S_X12_needed_56 who b st 20 0 0 σ).2.2) who st).1)) (M := m_X12_canPay) (av := [.inl who, .inl st]) cv_12_441 mk_X12_canPay (by decide) (b := 0) rfl rfl (Nat.le_of_ble_eq_true rfl) dX12_needed_180 (does_X12_canPay ((S_X12_needed_56 who b st 20 0 0 σ).2.2) who st (by omega) (by have e9 : ((S_X12_needed_56 who b st 20 0 0 σ).2.2) 2 1 = σ 2 1 := (congrFun (fr_S_X12_needed_56 who b st 20 0 0 σ (k := 2) (by decide)) _); omega) (by have e9 : ((S_X12_needed_56 who b st 20 0 0 σ).2.2) 2 0 = σ 2 0 := (congrFun (fr_S_X12_needed_56 who b st 20 0 0 σ (k := 2) (by decide)) _); omega)) ?_
                refine zRx.if_ne (tgt := 189) dX12_needed_183 (by decide) (fun c183 => ?_) (fun c183 => ?_)
                · refine zRx.aload_n 0 rfl rfl dX12_needed_189 ?_
                  refine zRx.iload_n 3 rfl rfl dX12_needed_190 ?_
                  refine zRx.putI (a := 0) (ji := 55) pl_12_432 rfl rfl rfl dX12_needed_191 ?_
                  refine zRx.aload_n 0 rfl rfl dX12_needed_194 ?_
                  refine zRx.iload 4 rfl dX12_needed_195 ?_
                  refine zRx.putI (a := 0) (ji := 56) pl_12_435 rfl rfl rfl dX12_needed_197 ?_
                  refine zRx.iinc (n := 1) (ls' := [(0, zP 0), (1, .inl who), (2, .inl b), (3, .inl (st + 1)), (4, .inl ((S_X12_needed_56 who b st 20 0 0 σ).1)), (5, .inl ((S_X12_needed_56 who b st 20 0 0 σ).2.1))]) 3 rfl ⟨by omega, by omega⟩ rfl (by decide) dX12_needed_200 ?_
                  refine zRx.goto (tgt := 24) dX12_needed_203 (by decide) ?_
                  refine zRx.pick [0, 1, 2, 3] (ls' := [(0, zP 0), (1, .inl who), (2, .inl b), (3, .inl (st + 1))]) rfl ?_
                  have he : L_X12_needed_24 who b (n + 1) st σ = L_X12_needed_24 who b n (st + 1) (zu (zu ((R_X12_canPay ((S_X12_needed_56 who b st 20 0 0 σ).2.2) who st).2) 0 55 st) 0 56 ((S_X12_needed_56 who b st 20 0 0 σ).1)) := by rw [L_X12_needed_24, if_neg (Int.not_le.mpr c33), if_pos c44, if_neg c135, if_neg (Int.not_lt.mpr c144), if_neg (Int.not_lt.mpr c151), if_neg c160, if_neg c183]
                  rw [he]
                  exact ih (st + 1) (zu (zu ((R_X12_canPay ((S_X12_needed_56 who b st 20 0 0 σ).2.2) who st).2) 0 55 st) 0 56 ((S_X12_needed_56 who b st 20 0 0 σ).1)) (by omega) (by rw [show (zu (zu ((R_X12_canPay ((S_X12_needed_56 who b st 20 0 0 σ).2.2) who st).2) 0 55 st) 0 56 ((S_X12_needed_56 who b st 20 0 0 σ).1)) 2 = σ 2 from ((zu_row _ _ _ (by decide)).trans ((zu_row _ _ _ (by decide)).trans ((fr_R_X12_canPay ((S_X12_needed_56 who b st 20 0 0 σ).2.2) who st (k := 2) (by decide)).trans (fr_S_X12_needed_56 who b st 20 0 0 σ (k := 2) (by decide)))))]; exact hA) (by have e9 : (zu (zu ((R_X12_canPay ((S_X12_needed_56 who b st 20 0 0 σ).2.2) who st).2) 0 55 st) 0 56 ((S_X12_needed_56 who b st 20 0 0 σ).1)) 2 1 = σ 2 1 := ((zu_ne _ _ _ _ (by decide)).trans ((zu_ne _ _ _ _ (by decide)).trans ((congrFun (fr_R_X12_canPay ((S_X12_needed_56 who b st 20 0 0 σ).2.2) who st (k := 2) (by decide)) _).trans (congrFun (fr_S_X12_needed_56 who b st 20 0 0 σ (k := 2) (by decide)) _)))); omega) (by have e9 : (zu (zu ((R_X12_canPay ((S_X12_needed_56 who b st 20 0 0 σ).2.2) who st).2) 0 55 st) 0 56 ((S_X12_needed_56 who b st 20 0 0 σ).1)) 2 0 = σ 2 0 := ((zu_ne _ _ _ _ (by decide)).trans ((zu_ne _ _ _ _ (by decide)).trans ((congrFun (fr_R_X12_canPay ((S_X12_needed_56 who b st 20 0 0 σ).2.2) who st (k := 2) (by decide)) _).trans (congrFun (fr_S_X12_needed_56 who b st 20 0 0 σ (k := 2) (by decide)) _)))); omega) (by have e9 : (zu (zu ((R_X12_canPay ((S_X12_needed_56 who b st 20 0 0 σ).2.2) who st).2) 0 55 st) 0 56 ((S_X12_needed_56 who b st 20 0 0 σ).1)) 0 55 = st := ((zu_off _ _ _ (by decide)).trans (zu_at _ _ _ _)); omega) (by rw [show (zu (zu ((R_X12_canPay ((S_X12_needed_56 who b st 20 0 0 σ).2.2) who st).2) 0 55 st) 0 56 ((S_X12_needed_56 who b st 20 0 0 σ).1)) 2 1 = σ 2 1 from ((zu_ne _ _ _ _ (by decide)).trans ((zu_ne _ _ _ _ (by decide)).trans ((congrFun (fr_R_X12_canPay ((S_X12_needed_56 who b st 20 0 0 σ).2.2) who st (k := 2) (by decide)) _).trans (congrFun (fr_S_X12_needed_56 who b st 20 0 0 σ (k := 2) (by decide)) _))))]; omega)
                · refine zRx.goto (tgt := 200) dX12_needed_186 (by decide) ?_
                  refine zRx.iinc (n := 1) (ls' := [(0, zP 0), (1, .inl who), (2, .inl b), (3, .inl (st + 1)), (4, .inl ((S_X12_needed_56 who b st 20 0 0 σ).1)), (5, .inl ((S_X12_needed_56 who b st 20 0 0 σ).2.1))]) 3 rfl ⟨by omega, by omega⟩ rfl (by decide) dX12_needed_200 ?_
                  refine zRx.goto (tgt := 24) dX12_needed_203 (by decide) ?_
                  refine zRx.pick [0, 1, 2, 3] (ls' := [(0, zP 0), (1, .inl who), (2, .inl b), (3, .inl (st + 1))]) rfl ?_
                  have he : L_X12_needed_24 who b (n + 1) st σ = L_X12_needed_24 who b n (st + 1) ((R_X12_canPay ((S_X12_needed_56 who b st 20 0 0 σ).2.2) who st).2) := by rw [L_X12_needed_24, if_neg (Int.not_le.mpr c33), if_pos c44, if_neg c135, if_neg (Int.not_lt.mpr c144), if_neg (Int.not_lt.mpr c151), if_neg c160, if_pos c183]
                  rw [he]
                  exact ih (st + 1) ((R_X12_canPay ((S_X12_needed_56 who b st 20 0 0 σ).2.2) who st).2) (by omega) (by rw [show ((R_X12_canPay ((S_X12_needed_56 who b st 20 0 0 σ).2.2) who st).2) 2 = σ 2 from ((fr_R_X12_canPay ((S_X12_needed_56 who b st 20 0 0 σ).2.2) who st (k := 2) (by decide)).trans (fr_S_X12_needed_56 who b st 20 0 0 σ (k := 2) (by decide)))]; exact hA) (by have e9 : ((R_X12_canPay ((S_X12_needed_56 who b st 20 0 0 σ).2.2) who st).2) 2 1 = σ 2 1 := ((congrFun (fr_R_X12_canPay ((S_X12_needed_56 who b st 20 0 0 σ).2.2) who st (k := 2) (by decide)) _).trans (congrFun (fr_S_X12_needed_56 who b st 20 0 0 σ (k := 2) (by decide)) _)); omega) (by have e9 : ((R_X12_canPay ((S_X12_needed_56 who b st 20 0 0 σ).2.2) who st).2) 2 0 = σ 2 0 := ((congrFun (fr_R_X12_canPay ((S_X12_needed_56 who b st 20 0 0 σ).2.2) who st (k := 2) (by decide)) _).trans (congrFun (fr_S_X12_needed_56 who b st 20 0 0 σ (k := 2) (by decide)) _)); omega) (by have e9 : ((R_X12_canPay ((S_X12_needed_56 who b st 20 0 0 σ).2.2) who st).2) 0 55 = σ 0 55 := ((can_K _ _ _ 55 (by decide)).trans (congrFun (fr_S_X12_needed_56 who b st 20 0 0 σ (k := 0) (by decide)) _)); omega) (by rw [show ((R_X12_canPay ((S_X12_needed_56 who b st 20 0 0 σ).2.2) who st).2) 2 1 = σ 2 1 from ((congrFun (fr_R_X12_canPay ((S_X12_needed_56 who b st 20 0 0 σ).2.2) who st (k := 2) (by decide)) _).trans (congrFun (fr_S_X12_needed_56 who b st 20 0 0 σ (k := 2) (by decide)) _))]; omega)
              · refine zRx.iload_n 3 rfl rfl dX12_needed_163 ?_
                refine zRx.cSi (w := .inl (R_X12_many ((S_X12_needed_56 who b st 20 0 0 σ).2.2) st)) (M := m_X12_many) (av := [.inl st]) cs_12_333 mk_X12_many (by decide) rfl (Nat.le_of_ble_eq_true rfl) dX12_needed_164 (does_X12_many ((S_X12_needed_56 who b st 20 0 0 σ).2.2) st SM (by omega)) ?_
                refine zRx.aload_n 0 rfl rfl dX12_needed_167 ?_
                refine zRx.getIv (a := 0) (ji := 55) (v := σ 0 55) (congrFun (fr_S_X12_needed_56 who b st 20 0 0 σ (k := 0) (by decide)) _) fl_12_432 rfl rfl rfl dX12_needed_168 ?_
                refine zRx.cSi (w := .inl (R_X12_many ((S_X12_needed_56 who b st 20 0 0 σ).2.2) (σ 0 55))) (M := m_X12_many) (av := [.inl (σ 0 55)]) cs_12_333 mk_X12_many (by decide) rfl (Nat.le_of_ble_eq_true rfl) dX12_needed_171 (does_X12_many ((S_X12_needed_56 who b st 20 0 0 σ).2.2) (σ 0 55) SM (by omega)) ?_
                refine zRx.icmp_ge (tgt := 200) dX12_needed_174 (by decide) (fun c174 => ?_) (fun c174 => ?_)
                · refine zRx.iinc (n := 1) (ls' := [(0, zP 0), (1, .inl who), (2, .inl b), (3, .inl (st + 1)), (4, .inl ((S_X12_needed_56 who b st 20 0 0 σ).1)), (5, .inl ((S_X12_needed_56 who b st 20 0 0 σ).2.1))]) 3 rfl ⟨by omega, by omega⟩ rfl (by decide) dX12_needed_200 ?_
                  refine zRx.goto (tgt := 24) dX12_needed_203 (by decide) ?_
                  refine zRx.pick [0, 1, 2, 3] (ls' := [(0, zP 0), (1, .inl who), (2, .inl b), (3, .inl (st + 1))]) rfl ?_
                  have he : L_X12_needed_24 who b (n + 1) st σ = L_X12_needed_24 who b n (st + 1) ((S_X12_needed_56 who b st 20 0 0 σ).2.2) := by rw [L_X12_needed_24, if_neg (Int.not_le.mpr c33), if_pos c44, if_neg c135, if_neg (Int.not_lt.mpr c144), if_neg (Int.not_lt.mpr c151), if_pos c160, if_pos c174]
                  rw [he]
                  exact ih (st + 1) ((S_X12_needed_56 who b st 20 0 0 σ).2.2) (by omega) (by rw [show ((S_X12_needed_56 who b st 20 0 0 σ).2.2) 2 = σ 2 from (fr_S_X12_needed_56 who b st 20 0 0 σ (k := 2) (by decide))]; exact hA) (by have e9 : ((S_X12_needed_56 who b st 20 0 0 σ).2.2) 2 1 = σ 2 1 := (congrFun (fr_S_X12_needed_56 who b st 20 0 0 σ (k := 2) (by decide)) _); omega) (by have e9 : ((S_X12_needed_56 who b st 20 0 0 σ).2.2) 2 0 = σ 2 0 := (congrFun (fr_S_X12_needed_56 who b st 20 0 0 σ (k := 2) (by decide)) _); omega) (by have e9 : ((S_X12_needed_56 who b st 20 0 0 σ).2.2) 0 55 = σ 0 55 := (congrFun (fr_S_X12_needed_56 who b st 20 0 0 σ (k := 0) (by decide)) _); omega) (by rw [show ((S_X12_needed_56 who b st 20 0 0 σ).2.2) 2 1 = σ 2 1 from (congrFun (fr_S_X12_needed_56 who b st 20 0 0 σ (k := 2) (by decide)) _)]; omega)
                · refine zRx.aload_n 0 rfl rfl dX12_needed_177 ?_
                  refine zRx.iload_n 1 rfl rfl dX12_needed_178 ?_
                  refine zRx.iload_n 3 rfl rfl dX12_needed_179 ?_
                  refine zRx.cVi (w := .inl ((R_X12_canPay ((S_X12_needed_56 who b st 20 0 0 σ).2.2) who st).1)) (M := m_X12_canPay) (av := [.inl who, .inl st]) cv_12_441 mk_X12_canPay (by decide) (b := 0) rfl rfl (Nat.le_of_ble_eq_true rfl) dX12_needed_180 (does_X12_canPay ((S_X12_needed_56 who b st 20 0 0 σ).2.2) who st (by omega) (by have e9 : ((S_X12_needed_56 who b st 20 0 0 σ).2.2) 2 1 = σ 2 1 := (congrFun (fr_S_X12_needed_56 who b st 20 0 0 σ (k := 2) (by decide)) _); omega) (by have e9 : ((S_X12_needed_56 who b st 20 0 0 σ).2.2) 2 0 = σ 2 0 := (congrFun (fr_S_X12_needed_56 who b st 20 0 0 σ (k := 2) (by decide)) _); omega)) ?_
                  refine zRx.if_ne (tgt := 189) dX12_needed_183 (by decide) (fun c183 => ?_) (fun c183 => ?_)
                  · refine zRx.aload_n 0 rfl rfl dX12_needed_189 ?_
                    refine zRx.iload_n 3 rfl rfl dX12_needed_190 ?_
                    refine zRx.putI (a := 0) (ji := 55) pl_12_432 rfl rfl rfl dX12_needed_191 ?_
                    refine zRx.aload_n 0 rfl rfl dX12_needed_194 ?_
                    refine zRx.iload 4 rfl dX12_needed_195 ?_
                    refine zRx.putI (a := 0) (ji := 56) pl_12_435 rfl rfl rfl dX12_needed_197 ?_
                    refine zRx.iinc (n := 1) (ls' := [(0, zP 0), (1, .inl who), (2, .inl b), (3, .inl (st + 1)), (4, .inl ((S_X12_needed_56 who b st 20 0 0 σ).1)), (5, .inl ((S_X12_needed_56 who b st 20 0 0 σ).2.1))]) 3 rfl ⟨by omega, by omega⟩ rfl (by decide) dX12_needed_200 ?_
                    refine zRx.goto (tgt := 24) dX12_needed_203 (by decide) ?_
                    refine zRx.pick [0, 1, 2, 3] (ls' := [(0, zP 0), (1, .inl who), (2, .inl b), (3, .inl (st + 1))]) rfl ?_
                    have he : L_X12_needed_24 who b (n + 1) st σ = L_X12_needed_24 who b n (st + 1) (zu (zu ((R_X12_canPay ((S_X12_needed_56 who b st 20 0 0 σ).2.2) who st).2) 0 55 st) 0 56 ((S_X12_needed_56 who b st 20 0 0 σ).1)) := by rw [L_X12_needed_24, if_neg (Int.not_le.mpr c33), if_pos c44, if_neg c135, if_neg (Int.not_lt.mpr c144), if_neg (Int.not_lt.mpr c151), if_pos c160, if_neg (Int.not_le.mpr c174), if_neg c183]
                    rw [he]
                    exact ih (st + 1) (zu (zu ((R_X12_canPay ((S_X12_needed_56 who b st 20 0 0 σ).2.2) who st).2) 0 55 st) 0 56 ((S_X12_needed_56 who b st 20 0 0 σ).1)) (by omega) (by rw [show (zu (zu ((R_X12_canPay ((S_X12_needed_56 who b st 20 0 0 σ).2.2) who st).2) 0 55 st) 0 56 ((S_X12_needed_56 who b st 20 0 0 σ).1)) 2 = σ 2 from ((zu_row _ _ _ (by decide)).trans ((zu_row _ _ _ (by decide)).trans ((fr_R_X12_canPay ((S_X12_needed_56 who b st 20 0 0 σ).2.2) who st (k := 2) (by decide)).trans (fr_S_X12_needed_56 who b st 20 0 0 σ (k := 2) (by decide)))))]; exact hA) (by have e9 : (zu (zu ((R_X12_canPay ((S_X12_needed_56 who b st 20 0 0 σ).2.2) who st).2) 0 55 st) 0 56 ((S_X12_needed_56 who b st 20 0 0 σ).1)) 2 1 = σ 2 1 := ((zu_ne _ _ _ _ (by decide)).trans ((zu_ne _ _ _ _ (by decide)).trans ((congrFun (fr_R_X12_canPay ((S_X12_needed_56 who b st 20 0 0 σ).2.2) who st (k := 2) (by decide)) _).trans (congrFun (fr_S_X12_needed_56 who b st 20 0 0 σ (k := 2) (by decide)) _)))); omega) (by have e9 : (zu (zu ((R_X12_canPay ((S_X12_needed_56 who b st 20 0 0 σ).2.2) who st).2) 0 55 st) 0 56 ((S_X12_needed_56 who b st 20 0 0 σ).1)) 2 0 = σ 2 0 := ((zu_ne _ _ _ _ (by decide)).trans ((zu_ne _ _ _ _ (by decide)).trans ((congrFun (fr_R_X12_canPay ((S_X12_needed_56 who b st 20 0 0 σ).2.2) who st (k := 2) (by decide)) _).trans (congrFun (fr_S_X12_needed_56 who b st 20 0 0 σ (k := 2) (by decide)) _)))); omega) (by have e9 : (zu (zu ((R_X12_canPay ((S_X12_needed_56 who b st 20 0 0 σ).2.2) who st).2) 0 55 st) 0 56 ((S_X12_needed_56 who b st 20 0 0 σ).1)) 0 55 = st := ((zu_off _ _ _ (by decide)).trans (zu_at _ _ _ _)); omega) (by rw [show (zu (zu ((R_X12_canPay ((S_X12_needed_56 who b st 20 0 0 σ).2.2) who st).2) 0 55 st) 0 56 ((S_X12_needed_56 who b st 20 0 0 σ).1)) 2 1 = σ 2 1 from ((zu_ne _ _ _ _ (by decide)).trans ((zu_ne _ _ _ _ (by decide)).trans ((congrFun (fr_R_X12_canPay ((S_X12_needed_56 who b st 20 0 0 σ).2.2) who st (k := 2) (by decide)) _).trans (congrFun (fr_S_X12_needed_56 who b st 20 0 0 σ (k := 2) (by decide)) _))))]; omega)
                  · refine zRx.goto (tgt := 200) dX12_needed_186 (by decide) ?_
                    refine zRx.iinc (n := 1) (ls' := [(0, zP 0), (1, .inl who), (2, .inl b), (3, .inl (st + 1)), (4, .inl ((S_X12_needed_56 who b st 20 0 0 σ).1)), (5, .inl ((S_X12_needed_56 who b st 20 0 0 σ).2.1))]) 3 rfl ⟨by omega, by omega⟩ rfl (by decide) dX12_needed_200 ?_
                    refine zRx.goto (tgt := 24) dX12_needed_203 (by decide) ?_
                    refine zRx.pick [0, 1, 2, 3] (ls' := [(0, zP 0), (1, .inl who), (2, .inl b), (3, .inl (st + 1))]) rfl ?_
                    have he : L_X12_needed_24 who b (n + 1) st σ = L_X12_needed_24 who b n (st + 1) ((R_X12_canPay ((S_X12_needed_56 who b st 20 0 0 σ).2.2) who st).2) := by rw [L_X12_needed_24, if_neg (Int.not_le.mpr c33), if_pos c44, if_neg c135, if_neg (Int.not_lt.mpr c144), if_neg (Int.not_lt.mpr c151), if_pos c160, if_neg (Int.not_le.mpr c174), if_pos c183]
                    rw [he]
                    exact ih (st + 1) ((R_X12_canPay ((S_X12_needed_56 who b st 20 0 0 σ).2.2) who st).2) (by omega) (by rw [show ((R_X12_canPay ((S_X12_needed_56 who b st 20 0 0 σ).2.2) who st).2) 2 = σ 2 from ((fr_R_X12_canPay ((S_X12_needed_56 who b st 20 0 0 σ).2.2) who st (k := 2) (by decide)).trans (fr_S_X12_needed_56 who b st 20 0 0 σ (k := 2) (by decide)))]; exact hA) (by have e9 : ((R_X12_canPay ((S_X12_needed_56 who b st 20 0 0 σ).2.2) who st).2) 2 1 = σ 2 1 := ((congrFun (fr_R_X12_canPay ((S_X12_needed_56 who b st 20 0 0 σ).2.2) who st (k := 2) (by decide)) _).trans (congrFun (fr_S_X12_needed_56 who b st 20 0 0 σ (k := 2) (by decide)) _)); omega) (by have e9 : ((R_X12_canPay ((S_X12_needed_56 who b st 20 0 0 σ).2.2) who st).2) 2 0 = σ 2 0 := ((congrFun (fr_R_X12_canPay ((S_X12_needed_56 who b st 20 0 0 σ).2.2) who st (k := 2) (by decide)) _).trans (congrFun (fr_S_X12_needed_56 who b st 20 0 0 σ (k := 2) (by decide)) _)); omega) (by have e9 : ((R_X12_canPay ((S_X12_needed_56 who b st 20 0 0 σ).2.2) who st).2) 0 55 = σ 0 55 := ((can_K _ _ _ 55 (by decide)).trans (congrFun (fr_S_X12_needed_56 who b st 20 0 0 σ (k := 0) (by decide)) _)); omega) (by rw [show ((R_X12_canPay ((S_X12_needed_56 who b st 20 0 0 σ).2.2) who st).2) 2 1 = σ 2 1 from ((congrFun (fr_R_X12_canPay ((S_X12_needed_56 who b st 20 0 0 σ).2.2) who st (k := 2) (by decide)) _).trans (congrFun (fr_S_X12_needed_56 who b st 20 0 0 σ (k := 2) (by decide)) _))]; omega)
      · refine zRx.goto (tgt := 200) dX12_needed_47 (by decide) ?_
        refine zRx.iinc (n := 1) (ls' := [(0, zP 0), (1, .inl who), (2, .inl b), (3, .inl (st + 1))]) 3 rfl ⟨by omega, by omega⟩ rfl (by decide) dX12_needed_200 ?_
        refine zRx.goto (tgt := 24) dX12_needed_203 (by decide) ?_
        have he : L_X12_needed_24 who b (n + 1) st σ = L_X12_needed_24 who b n (st + 1) σ := by rw [L_X12_needed_24, if_neg (Int.not_le.mpr c33), if_neg c44]
        rw [he]
        exact ih (st + 1) σ (by omega) hA (by omega) (by omega) (by omega) (by omega)
def R_X12_needed (σ : zG) (who b : Int) : Int × zG := L_X12_needed_24 who b 5000 0 (zu (zu (R_X12_duesOf (R_X12_run σ (-1)) who) 0 55 (-1)) 0 56 1000000000)
theorem fr_R_X12_needed (σ : zG) (who b : Int) {k : Nat} (h : k ∉ [0, 11, 12, 13, 14, 15, 16, 17, 18, 19, 20, 21, 22, 23, 24, 25, 29, 30]) : (R_X12_needed σ who b).2 k = σ k := by
  have ne : ∀ c ∈ [0, 11, 12, 13, 14, 15, 16, 17, 18, 19, 20, 21, 22, 23, 24, 25, 29, 30], k ≠ c := fun c hc e => h (e ▸ hc)
  have nk_R_X12_duesOf : k ∉ [0, 29] := fun hm => h (by first | (revert hm; simp only [List.mem_cons, List.not_mem_nil, or_false]; omega) | (simp at hm))
  have nk_R_X12_run : k ∉ [0, 11, 12, 13, 14, 15, 16, 17, 18, 19, 20, 21, 22, 23, 24, 25] := fun hm => h (by first | (revert hm; simp only [List.mem_cons, List.not_mem_nil, or_false]; omega) | (simp at hm))
  have nl_S_X12_needed_56 : k ∉ [] := fun hm => h (by first | (revert hm; simp only [List.mem_cons, List.not_mem_nil, or_false]; omega) | (simp at hm))
  have nl_L_X12_needed_24 : k ∉ [0, 30] := fun hm => h (by first | (revert hm; simp only [List.mem_cons, List.not_mem_nil, or_false]; omega) | (simp at hm))
  unfold R_X12_needed
  repeat' split
  all_goals first | rfl | simp only [zu_row _ _ _ (ne 0 (by decide)), zu_row _ _ _ (ne 11 (by decide)), zu_row _ _ _ (ne 12 (by decide)), zu_row _ _ _ (ne 13 (by decide)), zu_row _ _ _ (ne 14 (by decide)), zu_row _ _ _ (ne 15 (by decide)), zu_row _ _ _ (ne 16 (by decide)), zu_row _ _ _ (ne 17 (by decide)), zu_row _ _ _ (ne 18 (by decide)), zu_row _ _ _ (ne 19 (by decide)), zu_row _ _ _ (ne 20 (by decide)), zu_row _ _ _ (ne 21 (by decide)), zu_row _ _ _ (ne 22 (by decide)), zu_row _ _ _ (ne 23 (by decide)), zu_row _ _ _ (ne 24 (by decide)), zu_row _ _ _ (ne 25 (by decide)), zu_row _ _ _ (ne 29 (by decide)), zu_row _ _ _ (ne 30 (by decide)), fr_R_X12_duesOf (h := nk_R_X12_duesOf), fr_R_X12_run (h := nk_R_X12_run), fr_S_X12_needed_56 (h := nl_S_X12_needed_56), fr_L_X12_needed_24 (h := nl_L_X12_needed_24)]

set_option maxRecDepth 20000 in
theorem does_X12_needed (σ : zG) (who b : Int) (hW : MW (σ 2)) (hA : MA (σ 2)) (hF : 0 ≤ σ 2 1 ∧ σ 2 1 ≤ 12) (hp : 0 ≤ σ 2 0 ∧ σ 2 0 ≤ 8) (hw : 0 ≤ who ∧ who < 8)  : zDo SM 6 m_X12_needed [zP 0, .inl who, .inl b] σ (zEq (some (.inl (R_X12_needed σ who b).1)) (R_X12_needed σ who b).2) := by
  refine zDo.intro mk_X12_needed (Nat.le_of_ble_eq_true rfl) ?_
  refine zRx.aload_n 0 rfl rfl dX12_needed_0 ?_
  refine zRx.iconst ⟨by decide, by decide⟩ dX12_needed_1 ?_
  refine zRx.cVv (M := m_X12_run) (av := [.inl (-1)]) cv_12_400 mk_X12_run (by decide) (b := 0) rfl rfl (Nat.le_of_ble_eq_true rfl) dX12_needed_2 (does_X12_run σ (-1) hW) ?_
  refine zRx.aload_n 0 rfl rfl dX12_needed_5 ?_
  refine zRx.iload_n 1 rfl rfl dX12_needed_6 ?_
  refine zRx.cVv (M := m_X12_duesOf) (av := [.inl who]) cv_12_429 mk_X12_duesOf (by decide) (b := 0) rfl rfl (Nat.le_of_ble_eq_true rfl) dX12_needed_7 (does_X12_duesOf (R_X12_run σ (-1)) who (run_m2 hW)) ?_
  refine zRx.aload_n 0 rfl rfl dX12_needed_10 ?_
  refine zRx.iconst ⟨by decide, by decide⟩ dX12_needed_11 ?_
  refine zRx.putI (a := 0) (ji := 55) pl_12_432 rfl rfl rfl dX12_needed_12 ?_
  refine zRx.aload_n 0 rfl rfl dX12_needed_15 ?_
  refine zRx.ldcw ⟨by decide, by decide⟩ kc_12_428 dX12_needed_16 ?_
  refine zRx.putI (a := 0) (ji := 56) pl_12_435 rfl rfl rfl dX12_needed_19 ?_
  refine zRx.iconst ⟨by decide, by decide⟩ dX12_needed_22 ?_
  refine zRx.istore_n (ls' := [(0, zP 0), (1, .inl who), (2, .inl b), (3, .inl 0)]) rfl rfl (by decide) dX12_needed_23 ?_
  have he : R_X12_needed σ who b = L_X12_needed_24 who b 5000 0 (zu (zu (R_X12_duesOf (R_X12_run σ (-1)) who) 0 55 (-1)) 0 56 1000000000) := by rw [R_X12_needed]
  rw [he]
  exact loop_X12_needed_24 who b hw  5000 0 (zu (zu (R_X12_duesOf (R_X12_run σ (-1)) who) 0 55 (-1)) 0 56 1000000000) (by omega) (by rw [show (zu (zu (R_X12_duesOf (R_X12_run σ (-1)) who) 0 55 (-1)) 0 56 1000000000) 2 = σ 2 from ((zu_row _ _ _ (by decide)).trans ((zu_row _ _ _ (by decide)).trans ((fr_R_X12_duesOf (R_X12_run σ (-1)) who (k := 2) (by decide)).trans (fr_R_X12_run σ (-1) (k := 2) (by decide)))))]; exact hA) (by have e9 : (zu (zu (R_X12_duesOf (R_X12_run σ (-1)) who) 0 55 (-1)) 0 56 1000000000) 2 1 = σ 2 1 := ((zu_ne _ _ _ _ (by decide)).trans ((zu_ne _ _ _ _ (by decide)).trans ((congrFun (fr_R_X12_duesOf (R_X12_run σ (-1)) who (k := 2) (by decide)) _).trans (congrFun (fr_R_X12_run σ (-1) (k := 2) (by decide)) _)))); omega) (by have e9 : (zu (zu (R_X12_duesOf (R_X12_run σ (-1)) who) 0 55 (-1)) 0 56 1000000000) 2 0 = σ 2 0 := ((zu_ne _ _ _ _ (by decide)).trans ((zu_ne _ _ _ _ (by decide)).trans ((congrFun (fr_R_X12_duesOf (R_X12_run σ (-1)) who (k := 2) (by decide)) _).trans (congrFun (fr_R_X12_run σ (-1) (k := 2) (by decide)) _)))); omega) (by have e9 : (zu (zu (R_X12_duesOf (R_X12_run σ (-1)) who) 0 55 (-1)) 0 56 1000000000) 0 55 = (-1) := ((zu_off _ _ _ (by decide)).trans (zu_at _ _ _ _)); omega) (by have h9 := bshl_1 hF.1 hF.2; rw [show (zu (zu (R_X12_duesOf (R_X12_run σ (-1)) who) 0 55 (-1)) 0 56 1000000000) 2 1 = σ 2 1 from ((zu_ne _ _ _ _ (by decide)).trans ((zu_ne _ _ _ _ (by decide)).trans ((congrFun (fr_R_X12_duesOf (R_X12_run σ (-1)) who (k := 2) (by decide)) _).trans (congrFun (fr_R_X12_run σ (-1) (k := 2) (by decide)) _))))]; omega)

