/-! the class: wants -/
def V_X10_coinsFor (x : Int) : Int := bshr x 16
set_option maxRecDepth 20000 in
theorem does_X10_coinsFor (σ : zG) (x : Int) (sh : List zSh) : zDo sh 0 m_X10_coinsFor [.inl x] σ (zEq (some (.inl (V_X10_coinsFor x))) σ) := by
  refine zDo.intro mk_X10_coinsFor (Nat.le_of_ble_eq_true rfl) ?_
  refine zRx.iload_n 0 rfl rfl dX10_coinsFor_0 ?_
  refine zRx.bipush ⟨by decide, by decide⟩ rfl dX10_coinsFor_1 ?_
  refine zRx.ishr dX10_coinsFor_3 ?_
  exact zR.iret rfl dX10_coinsFor_4 ⟨rfl, rfl⟩

def V_X10_factsIn (x : Int) : Int := band (bshr x 12) 15
set_option maxRecDepth 20000 in
theorem does_X10_factsIn (σ : zG) (x : Int) (sh : List zSh) : zDo sh 0 m_X10_factsIn [.inl x] σ (zEq (some (.inl (V_X10_factsIn x))) σ) := by
  refine zDo.intro mk_X10_factsIn (Nat.le_of_ble_eq_true rfl) ?_
  refine zRx.iload_n 0 rfl rfl dX10_factsIn_0 ?_
  refine zRx.bipush ⟨by decide, by decide⟩ rfl dX10_factsIn_1 ?_
  refine zRx.ishr dX10_factsIn_3 ?_
  refine zRx.bipush ⟨by decide, by decide⟩ rfl dX10_factsIn_4 ?_
  refine zRx.iand dX10_factsIn_6 ?_
  exact zR.iret rfl dX10_factsIn_7 ⟨rfl, rfl⟩

def V_X10_bitsOf (x : Int) : Int := band x 4095
set_option maxRecDepth 20000 in
theorem does_X10_bitsOf (σ : zG) (x : Int) (sh : List zSh) : zDo sh 0 m_X10_bitsOf [.inl x] σ (zEq (some (.inl (V_X10_bitsOf x))) σ) := by
  refine zDo.intro mk_X10_bitsOf (Nat.le_of_ble_eq_true rfl) ?_
  refine zRx.iload_n 0 rfl rfl dX10_bitsOf_0 ?_
  refine zRx.sipush ⟨by decide, by decide⟩ rfl dX10_bitsOf_1 ?_
  refine zRx.iand dX10_bitsOf_4 ?_
  exact zR.iret rfl dX10_bitsOf_5 ⟨rfl, rfl⟩

def S_X10_takeDues_46 (who : Int) (du q : Int) : Nat → Int → zG → Int × zG
  | 0, j, σ => (j, σ)
  | n + 1, j, σ => if j ≤ 0 then (j, σ) else (if (σ 63 q) ≤ (σ 89 (j - 1)) then (j, σ) else (S_X10_takeDues_46 who du q n (j + (-1)) (zu σ 89 j (σ 89 (j - 1)))))
theorem fr_S_X10_takeDues_46 (who : Int) (du q : Int)  (n : Nat) (j : Int) (σ : zG) {k : Nat} (h : k ∉ [89]) : (S_X10_takeDues_46 who du q n j σ).2 k = σ k := by
  induction n generalizing j σ with
  | zero => rfl
  | succ n ih =>
    have ne : ∀ c ∈ [89], k ≠ c := fun c hc e => h (e ▸ hc)
    rw [S_X10_takeDues_46]
    repeat' split
    all_goals first | rfl | simp only [zu_row _ _ _ (ne 89 (by decide)), ih]

set_option maxRecDepth 20000 in
theorem seg_X10_takeDues_46 (who : Int)  (du q : Int) : ∀ (n : Nat) (j : Int) (σ : zG) (X : zX), 0 ≤ j ∧ j < 12 ∧ 0 ≤ q ∧ q < 128 → j.toNat < n → (zRx none 0 m_X10_takeDues SC 92 [(0, zP 85), (1, zP 53), (2, .inl who), (3, .inl du), (4, .inl q), (5, .inl ((S_X10_takeDues_46 who du q n j σ).1))] [] ((S_X10_takeDues_46 who du q n j σ).2) X) → zRx none 0 m_X10_takeDues SC 46 [(0, zP 85), (1, zP 53), (2, .inl who), (3, .inl du), (4, .inl q), (5, .inl j)] [] σ X := by
  intro n
  induction n with
  | zero => intro j σ X h1 hmz; exact absurd hmz (Nat.not_lt_zero _)
  | succ n ih =>
    intro j σ X h1 hmz K
    refine zRx.iload 5 rfl dX10_takeDues_46 ?_
    refine zRx.if_le (tgt := 92) dX10_takeDues_48 (by decide) (fun c48 => ?_) (fun c48 => ?_)
    · have he : S_X10_takeDues_46 who du q (n + 1) j σ = (j, σ) := by rw [S_X10_takeDues_46, if_pos c48]
      rw [he] at K
      exact K
    · refine zRx.aload_n 0 rfl rfl dX10_takeDues_51 ?_
      refine zRx.getR (a := 85) (b := 89) fl_10_21 rfl rfl dX10_takeDues_52 ?_
      refine zRx.iload 5 rfl dX10_takeDues_55 ?_
      refine zRx.iconst ⟨by decide, by decide⟩ dX10_takeDues_57 ?_
      refine zRx.isub ⟨by omega, by omega⟩ dX10_takeDues_58 ?_
      refine zRx.ialdv (v := σ 89 (j - 1)) rfl rfl (by omega) (by omega) dX10_takeDues_59 ?_
      refine zRx.aload_n 1 rfl rfl dX10_takeDues_60 ?_
      refine zRx.getR (a := 53) (b := 63) fl_10_66 rfl rfl dX10_takeDues_61 ?_
      refine zRx.iload 4 rfl dX10_takeDues_64 ?_
      refine zRx.ialdv (v := σ 63 q) rfl rfl (by omega) (by omega) dX10_takeDues_66 ?_
      refine zRx.icmp_ge (tgt := 92) dX10_takeDues_67 (by decide) (fun c67 => ?_) (fun c67 => ?_)
      · have he : S_X10_takeDues_46 who du q (n + 1) j σ = (j, σ) := by rw [S_X10_takeDues_46, if_neg (Int.not_le.mpr c48), if_pos c67]
        rw [he] at K
        exact K
      · refine zRx.aload_n 0 rfl rfl dX10_takeDues_70 ?_
        refine zRx.getR (a := 85) (b := 89) fl_10_21 rfl rfl dX10_takeDues_71 ?_
        refine zRx.iload 5 rfl dX10_takeDues_74 ?_
        refine zRx.aload_n 0 rfl rfl dX10_takeDues_76 ?_
        refine zRx.getR (a := 85) (b := 89) fl_10_21 rfl rfl dX10_takeDues_77 ?_
        refine zRx.iload 5 rfl dX10_takeDues_80 ?_
        refine zRx.iconst ⟨by decide, by decide⟩ dX10_takeDues_82 ?_
        refine zRx.isub ⟨by omega, by omega⟩ dX10_takeDues_83 ?_
        refine zRx.ialdv (v := σ 89 (j - 1)) rfl rfl (by omega) (by omega) dX10_takeDues_84 ?_
        refine zRx.iast rfl (by omega) (by omega) dX10_takeDues_85 ?_
        refine zRx.iinc (n := -1) (ls' := [(0, zP 85), (1, zP 53), (2, .inl who), (3, .inl du), (4, .inl q), (5, .inl (j + (-1)))]) 5 rfl ⟨by omega, by omega⟩ rfl (by decide) dX10_takeDues_86 ?_
        refine zRx.goto (tgt := 46) dX10_takeDues_89 (by decide) ?_
        have he : S_X10_takeDues_46 who du q (n + 1) j σ = S_X10_takeDues_46 who du q n (j + (-1)) (zu σ 89 j (σ 89 (j - 1))) := by rw [S_X10_takeDues_46, if_neg (Int.not_le.mpr c48), if_neg (Int.not_le.mpr c67)]
        rw [he] at K
        exact ih (j + (-1)) (zu σ 89 j (σ 89 (j - 1))) _ (by omega) (by omega) K
theorem duesCJ (who du q : Int) : ∀ (n : Nat) (j : Int) (σ : zG), 0 ≤ j → 0 ≤ (S_X10_takeDues_46 who du q n j σ).1 ∧ (S_X10_takeDues_46 who du q n j σ).1 ≤ j
  | 0, j, σ, h => ⟨h, Int.le_refl _⟩
  | n + 1, j, σ, h => by
    rw [S_X10_takeDues_46]
    repeat' split
    all_goals first | exact ⟨h, Int.le_refl _⟩ | (have h9 := duesCJ who du q n (j + (-1)) (zu σ 89 j (σ 89 (j - 1))) (by omega); omega)
def L_X10_takeDues_5 (who : Int) : Nat → Int → Int → zG → Int × zG
  | 0, _, _, σ => (0, σ)
  | n + 1, du, q, σ => if (σ 53 8) ≤ q then (du, σ) else (if (σ 59 q) = who then (if (σ 63 q) ≤ 0 then (L_X10_takeDues_5 who n du (q + 1) σ) else (if du < 12 then (L_X10_takeDues_5 who n (du + 1) (q + 1) (zu ((S_X10_takeDues_46 who du q 20 du σ).2) 89 ((S_X10_takeDues_46 who du q 20 du σ).1) (σ 63 q))) else ((-1), σ))) else (L_X10_takeDues_5 who n du (q + 1) σ))
theorem fr_L_X10_takeDues_5 (who : Int)  (n : Nat) (du q : Int) (σ : zG) {k : Nat} (h : k ∉ [89]) : (L_X10_takeDues_5 who n du q σ).2 k = σ k := by
  induction n generalizing du q σ with
  | zero => rfl
  | succ n ih =>
    have ne : ∀ c ∈ [89], k ≠ c := fun c hc e => h (e ▸ hc)
    have nk_S_X10_takeDues_46 : k ∉ [89] := fun hm => h (by first | (revert hm; simp only [List.mem_cons, List.not_mem_nil, or_false]; omega) | (simp at hm))
    rw [L_X10_takeDues_5]
    repeat' split
    all_goals first | rfl | simp only [zu_row _ _ _ (ne 89 (by decide)), fr_S_X10_takeDues_46 (h := nk_S_X10_takeDues_46), ih]

set_option maxRecDepth 20000 in
theorem loop_X10_takeDues_5 (who : Int)  : ∀ (n : Nat) (du q : Int) (σ : zG), 0 ≤ q ∧ 0 ≤ du ∧ du ≤ 12 → σ 53 8 ≤ 128 → (σ 53 8 - q).toNat < n → zR SC 0 m_X10_takeDues 5 [(0, zP 85), (1, zP 53), (2, .inl who), (3, .inl du), (4, .inl q)] [] σ (zEq (some (.inl (L_X10_takeDues_5 who n du q σ).1)) (L_X10_takeDues_5 who n du q σ).2) := by
  intro n
  induction n with
  | zero => intro du q σ h0 hm hmz; exact absurd hmz (Nat.not_lt_zero _)
  | succ n ih =>
    intro du q σ h0 hm hmz
    refine zRx.iload 4 rfl dX10_takeDues_5 ?_
    refine zRx.aload_n 1 rfl rfl dX10_takeDues_7 ?_
    refine zRx.getIv (a := 53) (ji := 8) (v := σ 53 8) rfl fl_10_60 rfl rfl rfl dX10_takeDues_8 ?_
    refine zRx.icmp_ge (tgt := 115) dX10_takeDues_11 (by decide) (fun c11 => ?_) (fun c11 => ?_)
    · refine zRx.iload_n 3 rfl rfl dX10_takeDues_115 ?_
      exact zR.iret rfl dX10_takeDues_116 (by have he : L_X10_takeDues_5 who (n + 1) du q σ = (du, σ) := (by rw [L_X10_takeDues_5, if_pos c11]); rw [he]; exact ⟨rfl, rfl⟩)
    · refine zRx.aload_n 1 rfl rfl dX10_takeDues_14 ?_
      refine zRx.getR (a := 53) (b := 59) fl_10_63 rfl rfl dX10_takeDues_15 ?_
      refine zRx.iload 4 rfl dX10_takeDues_18 ?_
      refine zRx.ialdv (v := σ 59 q) rfl rfl (by omega) (by omega) dX10_takeDues_20 ?_
      refine zRx.iload_n 2 rfl rfl dX10_takeDues_21 ?_
      refine zRx.icmp_ne (tgt := 109) dX10_takeDues_22 (by decide) (fun c22 => ?_) (fun c22 => ?_)
      · refine zRx.iinc (n := 1) (ls' := [(0, zP 85), (1, zP 53), (2, .inl who), (3, .inl du), (4, .inl (q + 1))]) 4 rfl ⟨by omega, by omega⟩ rfl (by decide) dX10_takeDues_109 ?_
        refine zRx.goto (tgt := 5) dX10_takeDues_112 (by decide) ?_
        have he : L_X10_takeDues_5 who (n + 1) du q σ = L_X10_takeDues_5 who n du (q + 1) σ := by rw [L_X10_takeDues_5, if_neg (Int.not_le.mpr c11), if_neg c22]
        rw [he]
        exact ih du (q + 1) σ (by omega) (by omega) (by omega)
      · refine zRx.aload_n 1 rfl rfl dX10_takeDues_25 ?_
        refine zRx.getR (a := 53) (b := 63) fl_10_66 rfl rfl dX10_takeDues_26 ?_
        refine zRx.iload 4 rfl dX10_takeDues_29 ?_
        refine zRx.ialdv (v := σ 63 q) rfl rfl (by omega) (by omega) dX10_takeDues_31 ?_
        refine zRx.if_le (tgt := 109) dX10_takeDues_32 (by decide) (fun c32 => ?_) (fun c32 => ?_)
        · refine zRx.iinc (n := 1) (ls' := [(0, zP 85), (1, zP 53), (2, .inl who), (3, .inl du), (4, .inl (q + 1))]) 4 rfl ⟨by omega, by omega⟩ rfl (by decide) dX10_takeDues_109 ?_
          refine zRx.goto (tgt := 5) dX10_takeDues_112 (by decide) ?_
          have he : L_X10_takeDues_5 who (n + 1) du q σ = L_X10_takeDues_5 who n du (q + 1) σ := by rw [L_X10_takeDues_5, if_neg (Int.not_le.mpr c11), if_pos c22, if_pos c32]
          rw [he]
          exact ih du (q + 1) σ (by omega) (by omega) (by omega)
        · refine zRx.iload_n 3 rfl rfl dX10_takeDues_35 ?_
          refine zRx.bipush ⟨by decide, by decide⟩ rfl dX10_takeDues_36 ?_
          refine zRx.icmp_lt (tgt := 43) dX10_takeDues_38 (by decide) (fun c38 => ?_) (fun c38 => ?_)
          · refine zRx.iload_n 3 rfl rfl dX10_takeDues_43 ?_
            refine zRx.istore (ls' := [(0, zP 85), (1, zP 53), (2, .inl who), (3, .inl du), (4, .inl q), (5, .inl du)]) rfl (by decide) dX10_takeDues_44 ?_
            refine seg_X10_takeDues_46 who  du q 20 du σ _ (by omega) (by omega) ?_
            have hj := duesCJ who du q 20 du σ (by omega)
            refine zRx.aload_n 0 rfl rfl dX10_takeDues_92 ?_
            refine zRx.getR (a := 85) (b := 89) fl_10_21 rfl rfl dX10_takeDues_93 ?_
            refine zRx.iload 5 rfl dX10_takeDues_96 ?_
            refine zRx.aload_n 1 rfl rfl dX10_takeDues_98 ?_
            refine zRx.getR (a := 53) (b := 63) fl_10_66 rfl rfl dX10_takeDues_99 ?_
            refine zRx.iload 4 rfl dX10_takeDues_102 ?_
            refine zRx.ialdv (v := σ 63 q) (congrFun (fr_S_X10_takeDues_46 who du q 20 du σ (k := 63) (by decide)) _) rfl (by omega) (by omega) dX10_takeDues_104 ?_
            refine zRx.iast rfl (by omega) (by omega) dX10_takeDues_105 ?_
            refine zRx.iinc (n := 1) (ls' := [(0, zP 85), (1, zP 53), (2, .inl who), (3, .inl (du + 1)), (4, .inl q), (5, .inl ((S_X10_takeDues_46 who du q 20 du σ).1))]) 3 rfl ⟨by omega, by omega⟩ rfl (by decide) dX10_takeDues_106 ?_
            refine zRx.iinc (n := 1) (ls' := [(0, zP 85), (1, zP 53), (2, .inl who), (3, .inl (du + 1)), (4, .inl (q + 1)), (5, .inl ((S_X10_takeDues_46 who du q 20 du σ).1))]) 4 rfl ⟨by omega, by omega⟩ rfl (by decide) dX10_takeDues_109 ?_
            refine zRx.goto (tgt := 5) dX10_takeDues_112 (by decide) ?_
            refine zRx.pick [0, 1, 2, 3, 4] (ls' := [(0, zP 85), (1, zP 53), (2, .inl who), (3, .inl (du + 1)), (4, .inl (q + 1))]) rfl ?_
            have he : L_X10_takeDues_5 who (n + 1) du q σ = L_X10_takeDues_5 who n (du + 1) (q + 1) (zu ((S_X10_takeDues_46 who du q 20 du σ).2) 89 ((S_X10_takeDues_46 who du q 20 du σ).1) (σ 63 q)) := by rw [L_X10_takeDues_5, if_neg (Int.not_le.mpr c11), if_pos c22, if_neg (Int.not_le.mpr c32), if_pos c38]
            rw [he]
            exact ih (du + 1) (q + 1) (zu ((S_X10_takeDues_46 who du q 20 du σ).2) 89 ((S_X10_takeDues_46 who du q 20 du σ).1) (σ 63 q)) (by omega) (by have e9 : (zu ((S_X10_takeDues_46 who du q 20 du σ).2) 89 ((S_X10_takeDues_46 who du q 20 du σ).1) (σ 63 q)) 53 8 = σ 53 8 := ((zu_ne _ _ _ _ (by decide)).trans (congrFun (fr_S_X10_takeDues_46 who du q 20 du σ (k := 53) (by decide)) _)); omega) (by have e9 : (zu ((S_X10_takeDues_46 who du q 20 du σ).2) 89 ((S_X10_takeDues_46 who du q 20 du σ).1) (σ 63 q)) 53 8 = σ 53 8 := ((zu_ne _ _ _ _ (by decide)).trans (congrFun (fr_S_X10_takeDues_46 who du q 20 du σ (k := 53) (by decide)) _)); omega)
          · refine zRx.iconst ⟨by decide, by decide⟩ dX10_takeDues_41 ?_
            exact zR.iret rfl dX10_takeDues_42 (by have he : L_X10_takeDues_5 who (n + 1) du q σ = ((-1), σ) := (by rw [L_X10_takeDues_5, if_neg (Int.not_le.mpr c11), if_pos c22, if_neg (Int.not_le.mpr c32), if_neg (Int.not_lt.mpr c38)]); rw [he]; exact ⟨rfl, rfl⟩)
def R_X10_takeDues (σ : zG) (who : Int) : Int × zG := L_X10_takeDues_5 who 200 0 0 σ
theorem fr_R_X10_takeDues (σ : zG) (who : Int) {k : Nat} (h : k ∉ [89]) : (R_X10_takeDues σ who).2 k = σ k := by
  have ne : ∀ c ∈ [89], k ≠ c := fun c hc e => h (e ▸ hc)
  have nl_S_X10_takeDues_46 : k ∉ [89] := fun hm => h (by first | (revert hm; simp only [List.mem_cons, List.not_mem_nil, or_false]; omega) | (simp at hm))
  have nl_L_X10_takeDues_5 : k ∉ [89] := fun hm => h (by first | (revert hm; simp only [List.mem_cons, List.not_mem_nil, or_false]; omega) | (simp at hm))
  unfold R_X10_takeDues
  repeat' split
  all_goals first | rfl | simp only [zu_row _ _ _ (ne 89 (by decide)), fr_S_X10_takeDues_46 (h := nl_S_X10_takeDues_46), fr_L_X10_takeDues_5 (h := nl_L_X10_takeDues_5)]

set_option maxRecDepth 20000 in
theorem does_X10_takeDues (σ : zG) (who : Int) (hm : σ 53 8 ≤ 128)  : zDo SC 0 m_X10_takeDues [zP 85, zP 53, .inl who] σ (zEq (some (.inl (R_X10_takeDues σ who).1)) (R_X10_takeDues σ who).2) := by
  refine zDo.intro mk_X10_takeDues (Nat.le_of_ble_eq_true rfl) ?_
  refine zRx.iconst ⟨by decide, by decide⟩ dX10_takeDues_0 ?_
  refine zRx.istore_n (ls' := [(0, zP 85), (1, zP 53), (2, .inl who), (3, .inl 0)]) rfl rfl (by decide) dX10_takeDues_1 ?_
  refine zRx.iconst ⟨by decide, by decide⟩ dX10_takeDues_2 ?_
  refine zRx.istore (ls' := [(0, zP 85), (1, zP 53), (2, .inl who), (3, .inl 0), (4, .inl 0)]) rfl (by decide) dX10_takeDues_3 ?_
  have he : R_X10_takeDues σ who = L_X10_takeDues_5 who 200 0 0 σ := by rw [R_X10_takeDues]
  rw [he]
  exact loop_X10_takeDues_5 who   200 0 0 σ (by omega) (by omega) (by omega)

theorem duesC_r (who : Int) : ∀ (n : Nat) (du q : Int) (σ : zG), 0 ≤ du → du ≤ 12 → -1 ≤ (L_X10_takeDues_5 who n du q σ).1 ∧ (L_X10_takeDues_5 who n du q σ).1 ≤ 12
  | 0, du, q, σ, _, _ => (by decide : (-1 : Int) ≤ 0 ∧ (0 : Int) ≤ 12)
  | n + 1, du, q, σ, h0, h1 => by
    rw [L_X10_takeDues_5]
    repeat' split
    all_goals first | exact duesC_r who n _ _ _ (by omega) (by omega) | exact ⟨by omega, by omega⟩ | exact (by decide : (-1 : Int) ≤ -1 ∧ (-1 : Int) ≤ 12) | exact ⟨(by omega : -1 ≤ du), h1⟩

/-- the facts that were sorted in -/
def DE (t : Int → Int) (m : Int) : Prop := ∀ j : Int, 0 ≤ j → j < m → 0 ≤ t j ∧ t j < 12
theorem DE_put {σ : zG} {m i v : Int} (h : DE (σ 88) m) (hv : 0 ≤ v ∧ v < 12) : DE (zu σ 88 i v 88) m := by
  intro j j0 j1
  rw [zu_if]
  split
  · exact hv
  · exact h j j0 j1
theorem DE_shift {σ : zG} {m i v : Int} (h : DE (σ 88) m) (hi : i = m) (hv : 0 ≤ v ∧ v < 12) : DE (zu σ 88 i v 88) (m + 1) := by
  intro j j0 j1
  rw [zu_if]
  split
  · exact hv
  · exact h j j0 (by omega)
theorem DE_of {σ τ : zG} {m : Int} (e : τ 88 = σ 88) (h : DE (σ 88) m) : DE (τ 88) m := by rw [e]; exact h

theorem tf_DE {σ : zG} {f j : Int} (h1 : 0 ≤ j ∧ j ≤ f ∧ f < 12) (hE : DE (σ 88) f) (hE2 : j < f → 0 ≤ σ 88 f ∧ σ 88 f < 12) : DE (zu σ 88 j f 88) (f + 1) := by
  intro i i0 i1
  rw [zu_if]
  split
  · omega
  · by_cases e : i = f
    · rw [e]; exact hE2 (by omega)
    · exact hE i i0 (by omega)

def S_X10_takeFact_92 (who f bu : Int) : Nat → Int → zG → Int × zG
  | 0, j, σ => (j, σ)
  | n + 1, j, σ => if j ≤ 0 then (j, σ) else (if (σ 86 f) ≤ (σ 86 (σ 88 (j - 1))) then (j, σ) else (S_X10_takeFact_92 who f bu n (j + (-1)) (zu σ 88 j (σ 88 (j - 1)))))
theorem fr_S_X10_takeFact_92 (who f bu : Int)  (n : Nat) (j : Int) (σ : zG) {k : Nat} (h : k ∉ [88]) : (S_X10_takeFact_92 who f bu n j σ).2 k = σ k := by
  induction n generalizing j σ with
  | zero => rfl
  | succ n ih =>
    have ne : ∀ c ∈ [88], k ≠ c := fun c hc e => h (e ▸ hc)
    rw [S_X10_takeFact_92]
    repeat' split
    all_goals first | rfl | simp only [zu_row _ _ _ (ne 88 (by decide)), ih]

set_option maxRecDepth 20000 in
theorem seg_X10_takeFact_92 (who f bu : Int)  : ∀ (n : Nat) (j : Int) (σ : zG) (X : zX), 0 ≤ j ∧ j ≤ f ∧ f < 12 → DE (σ 88) f → (j < f → 0 ≤ σ 88 f ∧ σ 88 f < 12) → j.toNat < n → ((0 ≤ ((S_X10_takeFact_92 who f bu n j σ).1) ∧ ((S_X10_takeFact_92 who f bu n j σ).1) ≤ f ∧ f < 12) → (DE (((S_X10_takeFact_92 who f bu n j σ).2) 88) f) → (((S_X10_takeFact_92 who f bu n j σ).1) < f → 0 ≤ ((S_X10_takeFact_92 who f bu n j σ).2) 88 f ∧ ((S_X10_takeFact_92 who f bu n j σ).2) 88 f < 12) → zRx none 3 m_X10_takeFact SC 142 [(0, zP 85), (1, zP 53), (2, .inl who), (3, .inl f), (4, .inl bu), (5, .inl ((S_X10_takeFact_92 who f bu n j σ).1))] [] ((S_X10_takeFact_92 who f bu n j σ).2) X) → zRx none 3 m_X10_takeFact SC 92 [(0, zP 85), (1, zP 53), (2, .inl who), (3, .inl f), (4, .inl bu), (5, .inl j)] [] σ X := by
  intro n
  induction n with
  | zero => intro j σ X h1 hE hE2 hmz; exact absurd hmz (Nat.not_lt_zero _)
  | succ n ih =>
    intro j σ X h1 hE hE2 hmz K
    refine zRx.iload 5 rfl dX10_takeFact_92 ?_
    refine zRx.if_le (tgt := 142) dX10_takeFact_94 (by decide) (fun c94 => ?_) (fun c94 => ?_)
    · have he : S_X10_takeFact_92 who f bu (n + 1) j σ = (j, σ) := by rw [S_X10_takeFact_92, if_pos c94]
      rw [he] at K
      exact K h1 hE hE2
    · have hd9 := hE (j - 1) (by omega) (by omega)
      refine zRx.aload_n 0 rfl rfl dX10_takeFact_97 ?_
      refine zRx.getR (a := 85) (b := 86) fl_10_9 rfl rfl dX10_takeFact_98 ?_
      refine zRx.aload_n 0 rfl rfl dX10_takeFact_101 ?_
      refine zRx.getR (a := 85) (b := 88) fl_10_18 rfl rfl dX10_takeFact_102 ?_
      refine zRx.iload 5 rfl dX10_takeFact_105 ?_
      refine zRx.iconst ⟨by decide, by decide⟩ dX10_takeFact_107 ?_
      refine zRx.isub ⟨by omega, by omega⟩ dX10_takeFact_108 ?_
      refine zRx.ialdv (v := σ 88 (j - 1)) rfl rfl (by omega) (by omega) dX10_takeFact_109 ?_
      refine zRx.ialdv (v := σ 86 (σ 88 (j - 1))) rfl rfl (by omega) (by omega) dX10_takeFact_110 ?_
      refine zRx.aload_n 0 rfl rfl dX10_takeFact_111 ?_
      refine zRx.getR (a := 85) (b := 86) fl_10_9 rfl rfl dX10_takeFact_112 ?_
      refine zRx.iload_n 3 rfl rfl dX10_takeFact_115 ?_
      refine zRx.ialdv (v := σ 86 f) rfl rfl (by omega) (by omega) dX10_takeFact_116 ?_
      refine zRx.icmp_ge (tgt := 142) dX10_takeFact_117 (by decide) (fun c117 => ?_) (fun c117 => ?_)
      · have he : S_X10_takeFact_92 who f bu (n + 1) j σ = (j, σ) := by rw [S_X10_takeFact_92, if_neg (Int.not_le.mpr c94), if_pos c117]
        rw [he] at K
        exact K h1 hE hE2
      · refine zRx.aload_n 0 rfl rfl dX10_takeFact_120 ?_
        refine zRx.getR (a := 85) (b := 88) fl_10_18 rfl rfl dX10_takeFact_121 ?_
        refine zRx.iload 5 rfl dX10_takeFact_124 ?_
        refine zRx.aload_n 0 rfl rfl dX10_takeFact_126 ?_
        refine zRx.getR (a := 85) (b := 88) fl_10_18 rfl rfl dX10_takeFact_127 ?_
        refine zRx.iload 5 rfl dX10_takeFact_130 ?_
        refine zRx.iconst ⟨by decide, by decide⟩ dX10_takeFact_132 ?_
        refine zRx.isub ⟨by omega, by omega⟩ dX10_takeFact_133 ?_
        refine zRx.ialdv (v := σ 88 (j - 1)) rfl rfl (by omega) (by omega) dX10_takeFact_134 ?_
        refine zRx.iast rfl (by omega) (by omega) dX10_takeFact_135 ?_
        refine zRx.iinc (n := -1) (ls' := [(0, zP 85), (1, zP 53), (2, .inl who), (3, .inl f), (4, .inl bu), (5, .inl (j + (-1)))]) 5 rfl ⟨by omega, by omega⟩ rfl (by decide) dX10_takeFact_136 ?_
        refine zRx.goto (tgt := 92) dX10_takeFact_139 (by decide) ?_
        have he : S_X10_takeFact_92 who f bu (n + 1) j σ = S_X10_takeFact_92 who f bu n (j + (-1)) (zu σ 88 j (σ 88 (j - 1))) := by rw [S_X10_takeFact_92, if_neg (Int.not_le.mpr c94), if_neg (Int.not_le.mpr c117)]
        rw [he] at K
        exact ih (j + (-1)) (zu σ 88 j (σ 88 (j - 1))) _ (by omega) (DE_put hE (hE (j - 1) (by omega) (by omega))) (fun _ => by have h9 := hE (j - 1) (by omega) (by omega); rw [zu_if]; split <;> omega) (by omega) K
def R_X10_takeFact (σ : zG) (who f bu : Int) : zG := if hb (σ 54 who) f then (zu ((S_X10_takeFact_92 who f bu 20 f (zu (zu σ 86 f (V_X4_valueFor σ who f)) 87 f 0)).2) 88 ((S_X10_takeFact_92 who f bu 20 f (zu (zu σ 86 f (V_X4_valueFor σ who f)) 87 f 0)).1) f) else (if bu = 0 then (zu ((S_X10_takeFact_92 who f bu 20 f (zu (zu σ 86 f (V_X4_oldValue σ f)) 87 f (w32 ((w32 ((bshl 0 16) + 4096)) + (bshl 1 f))))).2) 88 ((S_X10_takeFact_92 who f bu 20 f (zu (zu σ 86 f (V_X4_oldValue σ f)) 87 f (w32 ((w32 ((bshl 0 16) + 4096)) + (bshl 1 f))))).1) f) else (if (R_X4_priceFor σ who f) = (-1) then (zu ((S_X10_takeFact_92 who f bu 20 f (zu (zu σ 86 f (V_X4_oldValue σ f)) 87 f 1073741824)).2) 88 ((S_X10_takeFact_92 who f bu 20 f (zu (zu σ 86 f (V_X4_oldValue σ f)) 87 f 1073741824)).1) f) else (zu ((S_X10_takeFact_92 who f bu 20 f (zu (zu σ 86 f (V_X4_oldValue σ f)) 87 f (w32 ((w32 ((bshl (R_X4_priceFor σ who f) 16) + 4096)) + (bshl 1 f))))).2) 88 ((S_X10_takeFact_92 who f bu 20 f (zu (zu σ 86 f (V_X4_oldValue σ f)) 87 f (w32 ((w32 ((bshl (R_X4_priceFor σ who f) 16) + 4096)) + (bshl 1 f))))).1) f)))
theorem fr_R_X10_takeFact (σ : zG) (who f bu : Int) {k : Nat} (h : k ∉ [86, 87, 88]) : (R_X10_takeFact σ who f bu) k = σ k := by
  have ne : ∀ c ∈ [86, 87, 88], k ≠ c := fun c hc e => h (e ▸ hc)
  have nk_S_X10_takeFact_92 : k ∉ [88] := fun hm => h (by first | (revert hm; simp only [List.mem_cons, List.not_mem_nil, or_false]; omega) | (simp at hm))
  have nl_S_X10_takeFact_92 : k ∉ [88] := fun hm => h (by first | (revert hm; simp only [List.mem_cons, List.not_mem_nil, or_false]; omega) | (simp at hm))
  unfold R_X10_takeFact
  repeat' split
  all_goals first | rfl | simp only [zu_row _ _ _ (ne 86 (by decide)), zu_row _ _ _ (ne 87 (by decide)), zu_row _ _ _ (ne 88 (by decide)), fr_S_X10_takeFact_92 (h := nk_S_X10_takeFact_92), fr_S_X10_takeFact_92 (h := nl_S_X10_takeFact_92)]

set_option maxRecDepth 20000 in
theorem does_X10_takeFact (σ : zG) (who f bu : Int) (hf : 0 ≤ f ∧ f < 12) (hw : 0 ≤ who ∧ who < 8) (hp : σ 5 0 ≤ 8) (hE : DE (σ 88) f)  : zDo SC 3 m_X10_takeFact [zP 85, zP 53, .inl who, .inl f, .inl bu] σ (fun v σ' => (zEq none (R_X10_takeFact σ who f bu)) v σ' ∧ (DE (R_X10_takeFact σ who f bu 88) (f + 1))) := by
  refine zDo.intro mk_X10_takeFact (Nat.le_of_ble_eq_true rfl) ?_
  refine zRx.aload_n 1 rfl rfl dX10_takeFact_0 ?_
  refine zRx.iload_n 2 rfl rfl dX10_takeFact_1 ?_
  refine zRx.iload_n 3 rfl rfl dX10_takeFact_2 ?_
  refine zRx.cVi (w := .inl (b2 (hb (σ 54 who) f))) (M := m_X4_isKnown) (av := [.inl who, .inl f]) cv_10_69 mk_X4_isKnown (by decide) (b := 53) rfl rfl (Nat.le_of_ble_eq_true rfl) dX10_takeFact_3 (does_X4_isKnown σ who f (by omega)) ?_
  refine zRx.if_eqB (tgt := 31) dX10_takeFact_6 (by decide) (fun c6 => ?_) (fun c6 => ?_)
  · refine zRx.iload 4 rfl dX10_takeFact_31 ?_
    refine zRx.if_eq (tgt := 45) dX10_takeFact_33 (by decide) (fun c33 => ?_) (fun c33 => ?_)
    · refine zRx.iconst ⟨by decide, by decide⟩ dX10_takeFact_45 ?_
      refine zRx.istore (ls' := [(0, zP 85), (1, zP 53), (2, .inl who), (3, .inl f), (4, .inl bu), (5, .inl 0)]) rfl (by decide) dX10_takeFact_46 ?_
      refine zRx.aload_n 0 rfl rfl dX10_takeFact_48 ?_
      refine zRx.getR (a := 85) (b := 86) fl_10_9 rfl rfl dX10_takeFact_49 ?_
      refine zRx.iload_n 3 rfl rfl dX10_takeFact_52 ?_
      refine zRx.aload_n 1 rfl rfl dX10_takeFact_53 ?_
      refine zRx.iload_n 3 rfl rfl dX10_takeFact_54 ?_
      refine zRx.cVi (w := .inl (V_X4_oldValue σ f)) (M := m_X4_oldValue) (av := [.inl f]) cv_10_79 mk_X4_oldValue (by decide) (b := 53) rfl rfl (Nat.le_of_ble_eq_true rfl) dX10_takeFact_55 (does_X4_oldValue σ f (by omega)) ?_
      refine zRx.iast rfl (by omega) (by omega) dX10_takeFact_58 ?_
      refine zRx.aload_n 0 rfl rfl dX10_takeFact_59 ?_
      refine zRx.getR (a := 85) (b := 87) fl_10_15 rfl rfl dX10_takeFact_60 ?_
      refine zRx.iload_n 3 rfl rfl dX10_takeFact_63 ?_
      refine zRx.iload 5 rfl dX10_takeFact_64 ?_
      refine zRx.iconst ⟨by decide, by decide⟩ dX10_takeFact_66 ?_
      refine zRx.icmp_ne (tgt := 75) dX10_takeFact_67 (by decide) (fun _ => ?_) (fun c67 => absurd c67 (by decide))
      refine zRx.iload 5 rfl dX10_takeFact_75 ?_
      refine zRx.bipush ⟨by decide, by decide⟩ rfl dX10_takeFact_77 ?_
      refine zRx.ishl dX10_takeFact_79 ?_
      refine zRx.sipush ⟨by decide, by decide⟩ rfl dX10_takeFact_80 ?_
      refine zRx.iaddW dX10_takeFact_83 ?_
      refine zRx.iconst ⟨by decide, by decide⟩ dX10_takeFact_84 ?_
      refine zRx.iload_n 3 rfl rfl dX10_takeFact_85 ?_
      refine zRx.ishl dX10_takeFact_86 ?_
      refine zRx.iaddW dX10_takeFact_87 ?_
      refine zRx.iast rfl (by omega) (by omega) dX10_takeFact_88 ?_
      refine zRx.iload_n 3 rfl rfl dX10_takeFact_89 ?_
      refine zRx.istore (ls' := [(0, zP 85), (1, zP 53), (2, .inl who), (3, .inl f), (4, .inl bu), (5, .inl f)]) rfl (by decide) dX10_takeFact_90 ?_
      refine seg_X10_takeFact_92 who f bu   20 f (zu (zu σ 86 f (V_X4_oldValue σ f)) 87 f (w32 ((w32 ((bshl 0 16) + 4096)) + (bshl 1 f)))) _ (by omega) (DE_of ((zu_row _ _ _ (by decide)).trans (zu_row _ _ _ (by decide))) hE) (fun h => absurd h (by omega)) (by omega) ?_
      intro x92_h1 x92_hE x92_hE2
      refine zRx.aload_n 0 rfl rfl dX10_takeFact_142 ?_
      refine zRx.getR (a := 85) (b := 88) fl_10_18 rfl rfl dX10_takeFact_143 ?_
      refine zRx.iload 5 rfl dX10_takeFact_146 ?_
      refine zRx.iload_n 3 rfl rfl dX10_takeFact_148 ?_
      refine zRx.iast rfl (by omega) (by omega) dX10_takeFact_149 ?_
      exact zR.ret rfl dX10_takeFact_150 ⟨⟨rfl, (by rw [R_X10_takeFact, if_neg c6, if_pos c33] : R_X10_takeFact σ who f bu = zu ((S_X10_takeFact_92 who f bu 20 f (zu (zu σ 86 f (V_X4_oldValue σ f)) 87 f (w32 ((w32 ((bshl 0 16) + 4096)) + (bshl 1 f))))).2) 88 ((S_X10_takeFact_92 who f bu 20 f (zu (zu σ 86 f (V_X4_oldValue σ f)) 87 f (w32 ((w32 ((bshl 0 16) + 4096)) + (bshl 1 f))))).1) f).symm⟩, (by rw [show R_X10_takeFact σ who f bu = zu ((S_X10_takeFact_92 who f bu 20 f (zu (zu σ 86 f (V_X4_oldValue σ f)) 87 f (w32 ((w32 ((bshl 0 16) + 4096)) + (bshl 1 f))))).2) 88 ((S_X10_takeFact_92 who f bu 20 f (zu (zu σ 86 f (V_X4_oldValue σ f)) 87 f (w32 ((w32 ((bshl 0 16) + 4096)) + (bshl 1 f))))).1) f from by rw [R_X10_takeFact, if_neg c6, if_pos c33]]; exact tf_DE x92_h1 x92_hE x92_hE2)⟩
    · refine zRx.aload_n 1 rfl rfl dX10_takeFact_36 ?_
      refine zRx.iload_n 2 rfl rfl dX10_takeFact_37 ?_
      refine zRx.iload_n 3 rfl rfl dX10_takeFact_38 ?_
      refine zRx.cVi (w := .inl (R_X4_priceFor σ who f)) (M := m_X4_priceFor) (av := [.inl who, .inl f]) cv_10_76 mk_X4_priceFor (by decide) (b := 53) rfl rfl (Nat.le_of_ble_eq_true rfl) dX10_takeFact_39 (does_X4_priceFor σ who f (by omega) (by omega)) ?_
      refine zRx.goto (tgt := 46) dX10_takeFact_42 (by decide) ?_
      refine zRx.istore (ls' := [(0, zP 85), (1, zP 53), (2, .inl who), (3, .inl f), (4, .inl bu), (5, .inl (R_X4_priceFor σ who f))]) rfl (by decide) dX10_takeFact_46 ?_
      refine zRx.aload_n 0 rfl rfl dX10_takeFact_48 ?_
      refine zRx.getR (a := 85) (b := 86) fl_10_9 rfl rfl dX10_takeFact_49 ?_
      refine zRx.iload_n 3 rfl rfl dX10_takeFact_52 ?_
      refine zRx.aload_n 1 rfl rfl dX10_takeFact_53 ?_
      refine zRx.iload_n 3 rfl rfl dX10_takeFact_54 ?_
      refine zRx.cVi (w := .inl (V_X4_oldValue σ f)) (M := m_X4_oldValue) (av := [.inl f]) cv_10_79 mk_X4_oldValue (by decide) (b := 53) rfl rfl (Nat.le_of_ble_eq_true rfl) dX10_takeFact_55 (does_X4_oldValue σ f (by omega)) ?_
      refine zRx.iast rfl (by omega) (by omega) dX10_takeFact_58 ?_
      refine zRx.aload_n 0 rfl rfl dX10_takeFact_59 ?_
      refine zRx.getR (a := 85) (b := 87) fl_10_15 rfl rfl dX10_takeFact_60 ?_
      refine zRx.iload_n 3 rfl rfl dX10_takeFact_63 ?_
      refine zRx.iload 5 rfl dX10_takeFact_64 ?_
      refine zRx.iconst ⟨by decide, by decide⟩ dX10_takeFact_66 ?_
      refine zRx.icmp_ne (tgt := 75) dX10_takeFact_67 (by decide) (fun c67 => ?_) (fun c67 => ?_)
      · refine zRx.iload 5 rfl dX10_takeFact_75 ?_
        refine zRx.bipush ⟨by decide, by decide⟩ rfl dX10_takeFact_77 ?_
        refine zRx.ishl dX10_takeFact_79 ?_
        refine zRx.sipush ⟨by decide, by decide⟩ rfl dX10_takeFact_80 ?_
        refine zRx.iaddW dX10_takeFact_83 ?_
        refine zRx.iconst ⟨by decide, by decide⟩ dX10_takeFact_84 ?_
        refine zRx.iload_n 3 rfl rfl dX10_takeFact_85 ?_
        refine zRx.ishl dX10_takeFact_86 ?_
        refine zRx.iaddW dX10_takeFact_87 ?_
        refine zRx.iast rfl (by omega) (by omega) dX10_takeFact_88 ?_
        refine zRx.iload_n 3 rfl rfl dX10_takeFact_89 ?_
        refine zRx.istore (ls' := [(0, zP 85), (1, zP 53), (2, .inl who), (3, .inl f), (4, .inl bu), (5, .inl f)]) rfl (by decide) dX10_takeFact_90 ?_
        refine seg_X10_takeFact_92 who f bu   20 f (zu (zu σ 86 f (V_X4_oldValue σ f)) 87 f (w32 ((w32 ((bshl (R_X4_priceFor σ who f) 16) + 4096)) + (bshl 1 f)))) _ (by omega) (DE_of ((zu_row _ _ _ (by decide)).trans (zu_row _ _ _ (by decide))) hE) (fun h => absurd h (by omega)) (by omega) ?_
        intro x92_h1 x92_hE x92_hE2
        refine zRx.aload_n 0 rfl rfl dX10_takeFact_142 ?_
        refine zRx.getR (a := 85) (b := 88) fl_10_18 rfl rfl dX10_takeFact_143 ?_
        refine zRx.iload 5 rfl dX10_takeFact_146 ?_
        refine zRx.iload_n 3 rfl rfl dX10_takeFact_148 ?_
        refine zRx.iast rfl (by omega) (by omega) dX10_takeFact_149 ?_
        exact zR.ret rfl dX10_takeFact_150 ⟨⟨rfl, (by rw [R_X10_takeFact, if_neg c6, if_neg c33, if_neg c67] : R_X10_takeFact σ who f bu = zu ((S_X10_takeFact_92 who f bu 20 f (zu (zu σ 86 f (V_X4_oldValue σ f)) 87 f (w32 ((w32 ((bshl (R_X4_priceFor σ who f) 16) + 4096)) + (bshl 1 f))))).2) 88 ((S_X10_takeFact_92 who f bu 20 f (zu (zu σ 86 f (V_X4_oldValue σ f)) 87 f (w32 ((w32 ((bshl (R_X4_priceFor σ who f) 16) + 4096)) + (bshl 1 f))))).1) f).symm⟩, (by rw [show R_X10_takeFact σ who f bu = zu ((S_X10_takeFact_92 who f bu 20 f (zu (zu σ 86 f (V_X4_oldValue σ f)) 87 f (w32 ((w32 ((bshl (R_X4_priceFor σ who f) 16) + 4096)) + (bshl 1 f))))).2) 88 ((S_X10_takeFact_92 who f bu 20 f (zu (zu σ 86 f (V_X4_oldValue σ f)) 87 f (w32 ((w32 ((bshl (R_X4_priceFor σ who f) 16) + 4096)) + (bshl 1 f))))).1) f from by rw [R_X10_takeFact, if_neg c6, if_neg c33, if_neg c67]]; exact tf_DE x92_h1 x92_hE x92_hE2)⟩
      · refine zRx.ldc ⟨by decide, by decide⟩ kc_10_31 dX10_takeFact_70 ?_
        refine zRx.goto (tgt := 88) dX10_takeFact_72 (by decide) ?_
        refine zRx.iast rfl (by omega) (by omega) dX10_takeFact_88 ?_
        refine zRx.iload_n 3 rfl rfl dX10_takeFact_89 ?_
        refine zRx.istore (ls' := [(0, zP 85), (1, zP 53), (2, .inl who), (3, .inl f), (4, .inl bu), (5, .inl f)]) rfl (by decide) dX10_takeFact_90 ?_
        refine seg_X10_takeFact_92 who f bu   20 f (zu (zu σ 86 f (V_X4_oldValue σ f)) 87 f 1073741824) _ (by omega) (DE_of ((zu_row _ _ _ (by decide)).trans (zu_row _ _ _ (by decide))) hE) (fun h => absurd h (by omega)) (by omega) ?_
        intro x92_h1 x92_hE x92_hE2
        refine zRx.aload_n 0 rfl rfl dX10_takeFact_142 ?_
        refine zRx.getR (a := 85) (b := 88) fl_10_18 rfl rfl dX10_takeFact_143 ?_
        refine zRx.iload 5 rfl dX10_takeFact_146 ?_
        refine zRx.iload_n 3 rfl rfl dX10_takeFact_148 ?_
        refine zRx.iast rfl (by omega) (by omega) dX10_takeFact_149 ?_
        exact zR.ret rfl dX10_takeFact_150 ⟨⟨rfl, (by rw [R_X10_takeFact, if_neg c6, if_neg c33, if_pos c67] : R_X10_takeFact σ who f bu = zu ((S_X10_takeFact_92 who f bu 20 f (zu (zu σ 86 f (V_X4_oldValue σ f)) 87 f 1073741824)).2) 88 ((S_X10_takeFact_92 who f bu 20 f (zu (zu σ 86 f (V_X4_oldValue σ f)) 87 f 1073741824)).1) f).symm⟩, (by rw [show R_X10_takeFact σ who f bu = zu ((S_X10_takeFact_92 who f bu 20 f (zu (zu σ 86 f (V_X4_oldValue σ f)) 87 f 1073741824)).2) 88 ((S_X10_takeFact_92 who f bu 20 f (zu (zu σ 86 f (V_X4_oldValue σ f)) 87 f 1073741824)).1) f from by rw [R_X10_takeFact, if_neg c6, if_neg c33, if_pos c67]]; exact tf_DE x92_h1 x92_hE x92_hE2)⟩
  · refine zRx.aload_n 0 rfl rfl dX10_takeFact_9 ?_
    refine zRx.getR (a := 85) (b := 86) fl_10_9 rfl rfl dX10_takeFact_10 ?_
    refine zRx.iload_n 3 rfl rfl dX10_takeFact_13 ?_
    refine zRx.aload_n 1 rfl rfl dX10_takeFact_14 ?_
    refine zRx.iload_n 2 rfl rfl dX10_takeFact_15 ?_
    refine zRx.iload_n 3 rfl rfl dX10_takeFact_16 ?_
    refine zRx.cVi (w := .inl (V_X4_valueFor σ who f)) (M := m_X4_valueFor) (av := [.inl who, .inl f]) cv_10_73 mk_X4_valueFor (by decide) (b := 53) rfl rfl (Nat.le_of_ble_eq_true rfl) dX10_takeFact_17 (does_X4_valueFor σ who f (by omega) (by omega)) ?_
    refine zRx.iast rfl (by omega) (by omega) dX10_takeFact_20 ?_
    refine zRx.aload_n 0 rfl rfl dX10_takeFact_21 ?_
    refine zRx.getR (a := 85) (b := 87) fl_10_15 rfl rfl dX10_takeFact_22 ?_
    refine zRx.iload_n 3 rfl rfl dX10_takeFact_25 ?_
    refine zRx.iconst ⟨by decide, by decide⟩ dX10_takeFact_26 ?_
    refine zRx.iast rfl (by omega) (by omega) dX10_takeFact_27 ?_
    refine zRx.goto (tgt := 89) dX10_takeFact_28 (by decide) ?_
    refine zRx.iload_n 3 rfl rfl dX10_takeFact_89 ?_
    refine zRx.istore (ls' := [(0, zP 85), (1, zP 53), (2, .inl who), (3, .inl f), (4, .inl bu), (5, .inl f)]) rfl (by decide) dX10_takeFact_90 ?_
    refine seg_X10_takeFact_92 who f bu   20 f (zu (zu σ 86 f (V_X4_valueFor σ who f)) 87 f 0) _ (by omega) (DE_of ((zu_row _ _ _ (by decide)).trans (zu_row _ _ _ (by decide))) hE) (fun h => absurd h (by omega)) (by omega) ?_
    intro x92_h1 x92_hE x92_hE2
    refine zRx.aload_n 0 rfl rfl dX10_takeFact_142 ?_
    refine zRx.getR (a := 85) (b := 88) fl_10_18 rfl rfl dX10_takeFact_143 ?_
    refine zRx.iload 5 rfl dX10_takeFact_146 ?_
    refine zRx.iload_n 3 rfl rfl dX10_takeFact_148 ?_
    refine zRx.iast rfl (by omega) (by omega) dX10_takeFact_149 ?_
    exact zR.ret rfl dX10_takeFact_150 ⟨⟨rfl, (by rw [R_X10_takeFact, if_pos c6] : R_X10_takeFact σ who f bu = zu ((S_X10_takeFact_92 who f bu 20 f (zu (zu σ 86 f (V_X4_valueFor σ who f)) 87 f 0)).2) 88 ((S_X10_takeFact_92 who f bu 20 f (zu (zu σ 86 f (V_X4_valueFor σ who f)) 87 f 0)).1) f).symm⟩, (by rw [show R_X10_takeFact σ who f bu = zu ((S_X10_takeFact_92 who f bu 20 f (zu (zu σ 86 f (V_X4_valueFor σ who f)) 87 f 0)).2) 88 ((S_X10_takeFact_92 who f bu 20 f (zu (zu σ 86 f (V_X4_valueFor σ who f)) 87 f 0)).1) f from by rw [R_X10_takeFact, if_pos c6]]; exact tf_DE x92_h1 x92_hE x92_hE2)⟩

def S_X10_leastFor_29 (who bu : Int) (du fa : Int) : Nat → Int → zG → Int × zG
  | 0, q, σ => (q, σ)
  | n + 1, q, σ => if fa ≤ q then (q, σ) else (S_X10_leastFor_29 who bu du fa n (q + 1) (R_X10_takeFact σ who q bu))
theorem fr_S_X10_leastFor_29 (who bu : Int) (du fa : Int)  (n : Nat) (q : Int) (σ : zG) {k : Nat} (h : k ∉ [86, 87, 88]) : (S_X10_leastFor_29 who bu du fa n q σ).2 k = σ k := by
  induction n generalizing q σ with
  | zero => rfl
  | succ n ih =>
    have ne : ∀ c ∈ [86, 87, 88], k ≠ c := fun c hc e => h (e ▸ hc)
    have nk_R_X10_takeFact : k ∉ [86, 87, 88] := fun hm => h (by first | (revert hm; simp only [List.mem_cons, List.not_mem_nil, or_false]; omega) | (simp at hm))
    rw [S_X10_leastFor_29]
    repeat' split
    all_goals first | rfl | simp only [zu_row _ _ _ (ne 86 (by decide)), zu_row _ _ _ (ne 87 (by decide)), zu_row _ _ _ (ne 88 (by decide)), fr_R_X10_takeFact (h := nk_R_X10_takeFact), ih]

set_option maxRecDepth 20000 in
theorem seg_X10_leastFor_29 (who bu : Int) (hw : 0 ≤ who ∧ who < 8) (du fa : Int) : ∀ (n : Nat) (q : Int) (σ : zG) (X : zX), 0 ≤ q ∧ q ≤ fa ∧ fa ≤ 12 → σ 5 0 ≤ 8 → DE (σ 88) q → (fa - q).toNat < n → ((0 ≤ ((S_X10_leastFor_29 who bu du fa n q σ).1) ∧ ((S_X10_leastFor_29 who bu du fa n q σ).1) ≤ fa ∧ fa ≤ 12) → (((S_X10_leastFor_29 who bu du fa n q σ).2) 5 0 ≤ 8) → (DE (((S_X10_leastFor_29 who bu du fa n q σ).2) 88) ((S_X10_leastFor_29 who bu du fa n q σ).1)) → (DE (((S_X10_leastFor_29 who bu du fa n q σ).2) 88) fa) → zRx none 4 m_X10_leastFor SC 51 [(0, zP 85), (1, zP 53), (2, .inl who), (3, .inl bu), (4, .inl du), (5, .inl fa), (6, .inl ((S_X10_leastFor_29 who bu du fa n q σ).1))] [] ((S_X10_leastFor_29 who bu du fa n q σ).2) X) → zRx none 4 m_X10_leastFor SC 29 [(0, zP 85), (1, zP 53), (2, .inl who), (3, .inl bu), (4, .inl du), (5, .inl fa), (6, .inl q)] [] σ X := by
  intro n
  induction n with
  | zero => intro q σ X h0 hp hE hmz; exact absurd hmz (Nat.not_lt_zero _)
  | succ n ih =>
    intro q σ X h0 hp hE hmz K
    refine zRx.iload 6 rfl dX10_leastFor_29 ?_
    refine zRx.iload 5 rfl dX10_leastFor_31 ?_
    refine zRx.icmp_ge (tgt := 51) dX10_leastFor_33 (by decide) (fun c33 => ?_) (fun c33 => ?_)
    · have he : S_X10_leastFor_29 who bu du fa (n + 1) q σ = (q, σ) := by rw [S_X10_leastFor_29, if_pos c33]
      rw [he] at K
      exact K h0 hp hE (fun j j0 j1 => hE j j0 (by omega))
    · refine zRx.aload_n 0 rfl rfl dX10_leastFor_36 ?_
      refine zRx.aload_n 1 rfl rfl dX10_leastFor_37 ?_
      refine zRx.iload_n 2 rfl rfl dX10_leastFor_38 ?_
      refine zRx.iload 6 rfl dX10_leastFor_39 ?_
      refine zRx.iload_n 3 rfl rfl dX10_leastFor_41 ?_
      refine zRx.cV (M := m_X10_takeFact) (av := [zP 53, .inl who, .inl q, .inl bu]) cv_10_44 mk_X10_takeFact (by decide) (b := 85) rfl rfl (Nat.le_of_ble_eq_true rfl) dX10_leastFor_42 (does_X10_takeFact σ who q bu (by omega) hw hp hE) ?_
      intro v' σ' hq
      obtain ⟨⟨rfl, rfl⟩, hE1⟩ := hq
      refine id ?_
      refine zRx.iinc (n := 1) (ls' := [(0, zP 85), (1, zP 53), (2, .inl who), (3, .inl bu), (4, .inl du), (5, .inl fa), (6, .inl (q + 1))]) 6 rfl ⟨by omega, by omega⟩ rfl (by decide) dX10_leastFor_45 ?_
      refine zRx.goto (tgt := 29) dX10_leastFor_48 (by decide) ?_
      have he : S_X10_leastFor_29 who bu du fa (n + 1) q σ = S_X10_leastFor_29 who bu du fa n (q + 1) (R_X10_takeFact σ who q bu) := by rw [S_X10_leastFor_29, if_neg (Int.not_le.mpr c33)]
      rw [he] at K
      exact ih (q + 1) (R_X10_takeFact σ who q bu) _ (by omega) (by have e9 : (R_X10_takeFact σ who q bu) 5 0 = σ 5 0 := (congrFun (fr_R_X10_takeFact σ who q bu (k := 5) (by decide)) _); omega) hE1 (by omega) K
def S_X10_leastFor_92 (who bu : Int) (du f : Int) : Nat → Int → zG → Int × zG
  | 0, kk, σ => (kk, σ)
  | n + 1, kk, σ => if kk < 0 then (kk, σ) else (if (σ 87 f) = 1073741824 then (kk, σ) else (if (σ 86 f) < (σ 89 kk) then (S_X10_leastFor_92 who bu du f n (kk + (-1)) σ) else (if (σ 90 kk) = 1073741824 then (S_X10_leastFor_92 who bu du f n (kk + (-1)) σ) else (S_X10_leastFor_92 who bu du f n (kk + (-1)) (zu σ 90 (kk + 1) (min (σ 90 (kk + 1)) (w32 ((σ 90 kk) + (σ 87 f)))))))))
theorem fr_S_X10_leastFor_92 (who bu : Int) (du f : Int)  (n : Nat) (kk : Int) (σ : zG) {k : Nat} (h : k ∉ [90]) : (S_X10_leastFor_92 who bu du f n kk σ).2 k = σ k := by
  induction n generalizing kk σ with
  | zero => rfl
  | succ n ih =>
    have ne : ∀ c ∈ [90], k ≠ c := fun c hc e => h (e ▸ hc)
    rw [S_X10_leastFor_92]
    repeat' split
    all_goals first | rfl | simp only [zu_row _ _ _ (ne 90 (by decide)), ih]

set_option maxRecDepth 20000 in
theorem seg_X10_leastFor_92 (who bu : Int)  (fa q du f : Int) : ∀ (n : Nat) (kk : Int) (σ : zG) (X : zX), -1 ≤ kk ∧ kk < du ∧ du ≤ 12 ∧ 0 ≤ f ∧ f < 12 → DE (σ 88) fa → (kk + 1).toNat < n → ((-1 ≤ ((S_X10_leastFor_92 who bu du f n kk σ).1) ∧ ((S_X10_leastFor_92 who bu du f n kk σ).1) < du ∧ du ≤ 12 ∧ 0 ≤ f ∧ f < 12) → (DE (((S_X10_leastFor_92 who bu du f n kk σ).2) 88) fa) → zRx none 4 m_X10_leastFor SC 180 [(0, zP 85), (1, zP 53), (2, .inl who), (3, .inl bu), (4, .inl du), (5, .inl fa), (6, .inl q), (7, .inl f), (8, .inl ((S_X10_leastFor_92 who bu du f n kk σ).1))] [] ((S_X10_leastFor_92 who bu du f n kk σ).2) X) → zRx none 4 m_X10_leastFor SC 92 [(0, zP 85), (1, zP 53), (2, .inl who), (3, .inl bu), (4, .inl du), (5, .inl fa), (6, .inl q), (7, .inl f), (8, .inl kk)] [] σ X := by
  intro n
  induction n with
  | zero => intro kk σ X h0 hE hmz; exact absurd hmz (Nat.not_lt_zero _)
  | succ n ih =>
    intro kk σ X h0 hE hmz K
    refine zRx.iload 8 rfl dX10_leastFor_92 ?_
    refine zRx.if_lt (tgt := 180) dX10_leastFor_94 (by decide) (fun c94 => ?_) (fun c94 => ?_)
    · have he : S_X10_leastFor_92 who bu du f (n + 1) kk σ = (kk, σ) := by rw [S_X10_leastFor_92, if_pos c94]
      rw [he] at K
      exact K h0 hE
    · refine zRx.aload_n 0 rfl rfl dX10_leastFor_97 ?_
      refine zRx.getR (a := 85) (b := 87) fl_10_15 rfl rfl dX10_leastFor_98 ?_
      refine zRx.iload 7 rfl dX10_leastFor_101 ?_
      refine zRx.ialdv (v := σ 87 f) rfl rfl (by omega) (by omega) dX10_leastFor_103 ?_
      refine zRx.ldc ⟨by decide, by decide⟩ kc_10_31 dX10_leastFor_104 ?_
      refine zRx.icmp_eq (tgt := 180) dX10_leastFor_106 (by decide) (fun c106 => ?_) (fun c106 => ?_)
      · have he : S_X10_leastFor_92 who bu du f (n + 1) kk σ = (kk, σ) := by rw [S_X10_leastFor_92, if_neg (Int.not_lt.mpr c94), if_pos c106]
        rw [he] at K
        exact K h0 hE
      · refine zRx.aload_n 0 rfl rfl dX10_leastFor_109 ?_
        refine zRx.getR (a := 85) (b := 86) fl_10_9 rfl rfl dX10_leastFor_110 ?_
        refine zRx.iload 7 rfl dX10_leastFor_113 ?_
        refine zRx.ialdv (v := σ 86 f) rfl rfl (by omega) (by omega) dX10_leastFor_115 ?_
        refine zRx.aload_n 0 rfl rfl dX10_leastFor_116 ?_
        refine zRx.getR (a := 85) (b := 89) fl_10_21 rfl rfl dX10_leastFor_117 ?_
        refine zRx.iload 8 rfl dX10_leastFor_120 ?_
        refine zRx.ialdv (v := σ 89 kk) rfl rfl (by omega) (by omega) dX10_leastFor_122 ?_
        refine zRx.icmp_lt (tgt := 174) dX10_leastFor_123 (by decide) (fun c123 => ?_) (fun c123 => ?_)
        · refine zRx.iinc (n := -1) (ls' := [(0, zP 85), (1, zP 53), (2, .inl who), (3, .inl bu), (4, .inl du), (5, .inl fa), (6, .inl q), (7, .inl f), (8, .inl (kk + (-1)))]) 8 rfl ⟨by omega, by omega⟩ rfl (by decide) dX10_leastFor_174 ?_
          refine zRx.goto (tgt := 92) dX10_leastFor_177 (by decide) ?_
          have he : S_X10_leastFor_92 who bu du f (n + 1) kk σ = S_X10_leastFor_92 who bu du f n (kk + (-1)) σ := by rw [S_X10_leastFor_92, if_neg (Int.not_lt.mpr c94), if_neg c106, if_pos c123]
          rw [he] at K
          exact ih (kk + (-1)) σ _ (by omega) hE (by omega) K
        · refine zRx.aload_n 0 rfl rfl dX10_leastFor_126 ?_
          refine zRx.getR (a := 85) (b := 90) fl_10_24 rfl rfl dX10_leastFor_127 ?_
          refine zRx.iload 8 rfl dX10_leastFor_130 ?_
          refine zRx.ialdv (v := σ 90 kk) rfl rfl (by omega) (by omega) dX10_leastFor_132 ?_
          refine zRx.ldc ⟨by decide, by decide⟩ kc_10_31 dX10_leastFor_133 ?_
          refine zRx.icmp_eq (tgt := 174) dX10_leastFor_135 (by decide) (fun c135 => ?_) (fun c135 => ?_)
          · refine zRx.iinc (n := -1) (ls' := [(0, zP 85), (1, zP 53), (2, .inl who), (3, .inl bu), (4, .inl du), (5, .inl fa), (6, .inl q), (7, .inl f), (8, .inl (kk + (-1)))]) 8 rfl ⟨by omega, by omega⟩ rfl (by decide) dX10_leastFor_174 ?_
            refine zRx.goto (tgt := 92) dX10_leastFor_177 (by decide) ?_
            have he : S_X10_leastFor_92 who bu du f (n + 1) kk σ = S_X10_leastFor_92 who bu du f n (kk + (-1)) σ := by rw [S_X10_leastFor_92, if_neg (Int.not_lt.mpr c94), if_neg c106, if_neg (Int.not_lt.mpr c123), if_pos c135]
            rw [he] at K
            exact ih (kk + (-1)) σ _ (by omega) hE (by omega) K
          · refine zRx.aload_n 0 rfl rfl dX10_leastFor_138 ?_
            refine zRx.getR (a := 85) (b := 90) fl_10_24 rfl rfl dX10_leastFor_139 ?_
            refine zRx.iload 8 rfl dX10_leastFor_142 ?_
            refine zRx.iconst ⟨by decide, by decide⟩ dX10_leastFor_144 ?_
            refine zRx.iadd ⟨by omega, by omega⟩ dX10_leastFor_145 ?_
            refine zRx.aload_n 0 rfl rfl dX10_leastFor_146 ?_
            refine zRx.getR (a := 85) (b := 90) fl_10_24 rfl rfl dX10_leastFor_147 ?_
            refine zRx.iload 8 rfl dX10_leastFor_150 ?_
            refine zRx.iconst ⟨by decide, by decide⟩ dX10_leastFor_152 ?_
            refine zRx.iadd ⟨by omega, by omega⟩ dX10_leastFor_153 ?_
            refine zRx.ialdv (v := σ 90 (kk + 1)) rfl rfl (by omega) (by omega) dX10_leastFor_154 ?_
            refine zRx.aload_n 0 rfl rfl dX10_leastFor_155 ?_
            refine zRx.getR (a := 85) (b := 90) fl_10_24 rfl rfl dX10_leastFor_156 ?_
            refine zRx.iload 8 rfl dX10_leastFor_159 ?_
            refine zRx.ialdv (v := σ 90 kk) rfl rfl (by omega) (by omega) dX10_leastFor_161 ?_
            refine zRx.aload_n 0 rfl rfl dX10_leastFor_162 ?_
            refine zRx.getR (a := 85) (b := 87) fl_10_15 rfl rfl dX10_leastFor_163 ?_
            refine zRx.iload 7 rfl dX10_leastFor_166 ?_
            refine zRx.ialdv (v := σ 87 f) rfl rfl (by omega) (by omega) dX10_leastFor_168 ?_
            refine zRx.iaddW dX10_leastFor_169 ?_
            refine zRx.mmin mm_10_54 (by decide) (Nat.le_of_ble_eq_true rfl) dX10_leastFor_170 ?_
            refine zRx.iast rfl (by omega) (by omega) dX10_leastFor_173 ?_
            refine zRx.iinc (n := -1) (ls' := [(0, zP 85), (1, zP 53), (2, .inl who), (3, .inl bu), (4, .inl du), (5, .inl fa), (6, .inl q), (7, .inl f), (8, .inl (kk + (-1)))]) 8 rfl ⟨by omega, by omega⟩ rfl (by decide) dX10_leastFor_174 ?_
            refine zRx.goto (tgt := 92) dX10_leastFor_177 (by decide) ?_
            have he : S_X10_leastFor_92 who bu du f (n + 1) kk σ = S_X10_leastFor_92 who bu du f n (kk + (-1)) (zu σ 90 (kk + 1) (min (σ 90 (kk + 1)) (w32 ((σ 90 kk) + (σ 87 f))))) := by rw [S_X10_leastFor_92, if_neg (Int.not_lt.mpr c94), if_neg c106, if_neg (Int.not_lt.mpr c123), if_neg c135]
            rw [he] at K
            exact ih (kk + (-1)) (zu σ 90 (kk + 1) (min (σ 90 (kk + 1)) (w32 ((σ 90 kk) + (σ 87 f))))) _ (by omega) (DE_of (zu_row _ _ _ (by decide)) hE) (by omega) K
def S_X10_leastFor_70 (who bu : Int) (du fa : Int) : Nat → Int → zG → Int × zG
  | 0, q, σ => (q, σ)
  | n + 1, q, σ => if fa ≤ q then (q, σ) else (S_X10_leastFor_70 who bu du fa n (q + 1) ((S_X10_leastFor_92 who bu du (σ 88 q) 20 (du - 1) σ).2))
theorem fr_S_X10_leastFor_70 (who bu : Int) (du fa : Int)  (n : Nat) (q : Int) (σ : zG) {k : Nat} (h : k ∉ [90]) : (S_X10_leastFor_70 who bu du fa n q σ).2 k = σ k := by
  induction n generalizing q σ with
  | zero => rfl
  | succ n ih =>
    have ne : ∀ c ∈ [90], k ≠ c := fun c hc e => h (e ▸ hc)
    have nk_S_X10_leastFor_92 : k ∉ [90] := fun hm => h (by first | (revert hm; simp only [List.mem_cons, List.not_mem_nil, or_false]; omega) | (simp at hm))
    rw [S_X10_leastFor_70]
    repeat' split
    all_goals first | rfl | simp only [zu_row _ _ _ (ne 90 (by decide)), fr_S_X10_leastFor_92 (h := nk_S_X10_leastFor_92), ih]

set_option maxRecDepth 20000 in
theorem seg_X10_leastFor_70 (who bu : Int)  (du fa : Int) : ∀ (n : Nat) (q : Int) (σ : zG) (X : zX), 0 ≤ q ∧ fa ≤ 12 ∧ 0 ≤ du ∧ du ≤ 12 → DE (σ 88) fa → (fa - q).toNat < n → ((0 ≤ ((S_X10_leastFor_70 who bu du fa n q σ).1) ∧ fa ≤ 12 ∧ 0 ≤ du ∧ du ≤ 12) → (DE (((S_X10_leastFor_70 who bu du fa n q σ).2) 88) fa) → zRx none 4 m_X10_leastFor SC 186 [(0, zP 85), (1, zP 53), (2, .inl who), (3, .inl bu), (4, .inl du), (5, .inl fa), (6, .inl ((S_X10_leastFor_70 who bu du fa n q σ).1))] [] ((S_X10_leastFor_70 who bu du fa n q σ).2) X) → zRx none 4 m_X10_leastFor SC 70 [(0, zP 85), (1, zP 53), (2, .inl who), (3, .inl bu), (4, .inl du), (5, .inl fa), (6, .inl q)] [] σ X := by
  intro n
  induction n with
  | zero => intro q σ X h0 hE hmz; exact absurd hmz (Nat.not_lt_zero _)
  | succ n ih =>
    intro q σ X h0 hE hmz K
    refine zRx.iload 6 rfl dX10_leastFor_70 ?_
    refine zRx.iload 5 rfl dX10_leastFor_72 ?_
    refine zRx.icmp_ge (tgt := 186) dX10_leastFor_74 (by decide) (fun c74 => ?_) (fun c74 => ?_)
    · have he : S_X10_leastFor_70 who bu du fa (n + 1) q σ = (q, σ) := by rw [S_X10_leastFor_70, if_pos c74]
      rw [he] at K
      exact K h0 hE
    · refine zRx.aload_n 0 rfl rfl dX10_leastFor_77 ?_
      refine zRx.getR (a := 85) (b := 88) fl_10_18 rfl rfl dX10_leastFor_78 ?_
      refine zRx.iload 6 rfl dX10_leastFor_81 ?_
      refine zRx.ialdv (v := σ 88 q) rfl rfl (by omega) (by omega) dX10_leastFor_83 ?_
      have hd9 := hE q (by omega) (by omega)
      refine zRx.istore (ls' := [(0, zP 85), (1, zP 53), (2, .inl who), (3, .inl bu), (4, .inl du), (5, .inl fa), (6, .inl q), (7, .inl (σ 88 q))]) rfl (by decide) dX10_leastFor_84 ?_
      refine zRx.iload 4 rfl dX10_leastFor_86 ?_
      refine zRx.iconst ⟨by decide, by decide⟩ dX10_leastFor_88 ?_
      refine zRx.isub ⟨by omega, by omega⟩ dX10_leastFor_89 ?_
      refine zRx.istore (ls' := [(0, zP 85), (1, zP 53), (2, .inl who), (3, .inl bu), (4, .inl du), (5, .inl fa), (6, .inl q), (7, .inl (σ 88 q)), (8, .inl (du - 1))]) rfl (by decide) dX10_leastFor_90 ?_
      refine seg_X10_leastFor_92 who bu  fa q du (σ 88 q) 20 (du - 1) σ _ (by omega) hE (by omega) ?_
      intro x92_h0 x92_hE
      refine zRx.iinc (n := 1) (ls' := [(0, zP 85), (1, zP 53), (2, .inl who), (3, .inl bu), (4, .inl du), (5, .inl fa), (6, .inl (q + 1)), (7, .inl (σ 88 q)), (8, .inl ((S_X10_leastFor_92 who bu du (σ 88 q) 20 (du - 1) σ).1))]) 6 rfl ⟨by omega, by omega⟩ rfl (by decide) dX10_leastFor_180 ?_
      refine zRx.goto (tgt := 70) dX10_leastFor_183 (by decide) ?_
      refine zRx.pick [0, 1, 2, 3, 4, 5, 6] (ls' := [(0, zP 85), (1, zP 53), (2, .inl who), (3, .inl bu), (4, .inl du), (5, .inl fa), (6, .inl (q + 1))]) rfl ?_
      have he : S_X10_leastFor_70 who bu du fa (n + 1) q σ = S_X10_leastFor_70 who bu du fa n (q + 1) ((S_X10_leastFor_92 who bu du (σ 88 q) 20 (du - 1) σ).2) := by rw [S_X10_leastFor_70, if_neg (Int.not_le.mpr c74)]
      rw [he] at K
      exact ih (q + 1) ((S_X10_leastFor_92 who bu du (σ 88 q) 20 (du - 1) σ).2) _ (by omega) x92_hE (by omega) K
def R_X10_leastFor (σ : zG) (who bu : Int) : Int × zG := if ((R_X10_takeDues σ who).1) = (-1) then (1073741824, (R_X10_takeDues σ who).2) else (((S_X10_leastFor_70 who bu ((R_X10_takeDues σ who).1) (σ 5 1) 20 0 (zu (zfl ((S_X10_leastFor_29 who bu ((R_X10_takeDues σ who).1) (σ 5 1) 20 0 ((R_X10_takeDues σ who).2)).2) 90 13 1073741824) 90 0 0)).2) 90 ((R_X10_takeDues σ who).1), (S_X10_leastFor_70 who bu ((R_X10_takeDues σ who).1) (σ 5 1) 20 0 (zu (zfl ((S_X10_leastFor_29 who bu ((R_X10_takeDues σ who).1) (σ 5 1) 20 0 ((R_X10_takeDues σ who).2)).2) 90 13 1073741824) 90 0 0)).2)
theorem fr_R_X10_leastFor (σ : zG) (who bu : Int) {k : Nat} (h : k ∉ [86, 87, 88, 89, 90]) : (R_X10_leastFor σ who bu).2 k = σ k := by
  have ne : ∀ c ∈ [86, 87, 88, 89, 90], k ≠ c := fun c hc e => h (e ▸ hc)
  have nk_R_X10_takeDues : k ∉ [89] := fun hm => h (by first | (revert hm; simp only [List.mem_cons, List.not_mem_nil, or_false]; omega) | (simp at hm))
  have nk_S_X10_leastFor_70 : k ∉ [90] := fun hm => h (by first | (revert hm; simp only [List.mem_cons, List.not_mem_nil, or_false]; omega) | (simp at hm))
  have nk_zfl_90 : k ∉ [90] := fun hm => h (by first | (revert hm; simp only [List.mem_cons, List.not_mem_nil, or_false]; omega) | (simp at hm))
  have nk_S_X10_leastFor_29 : k ∉ [86, 87, 88] := fun hm => h (by first | (revert hm; simp only [List.mem_cons, List.not_mem_nil, or_false]; omega) | (simp at hm))
  have nl_S_X10_leastFor_29 : k ∉ [86, 87, 88] := fun hm => h (by first | (revert hm; simp only [List.mem_cons, List.not_mem_nil, or_false]; omega) | (simp at hm))
  have nl_S_X10_leastFor_92 : k ∉ [90] := fun hm => h (by first | (revert hm; simp only [List.mem_cons, List.not_mem_nil, or_false]; omega) | (simp at hm))
  have nl_S_X10_leastFor_70 : k ∉ [90] := fun hm => h (by first | (revert hm; simp only [List.mem_cons, List.not_mem_nil, or_false]; omega) | (simp at hm))
  unfold R_X10_leastFor
  repeat' split
  all_goals first | rfl | simp only [zu_row _ _ _ (ne 86 (by decide)), zu_row _ _ _ (ne 87 (by decide)), zu_row _ _ _ (ne 88 (by decide)), zu_row _ _ _ (ne 89 (by decide)), zu_row _ _ _ (ne 90 (by decide)), fr_R_X10_takeDues (h := nk_R_X10_takeDues), fr_S_X10_leastFor_70 (h := nk_S_X10_leastFor_70), fr_zfl (h := nk_zfl_90), fr_S_X10_leastFor_29 (h := nk_S_X10_leastFor_29), fr_S_X10_leastFor_29 (h := nl_S_X10_leastFor_29), fr_S_X10_leastFor_92 (h := nl_S_X10_leastFor_92), fr_S_X10_leastFor_70 (h := nl_S_X10_leastFor_70)]

set_option maxRecDepth 20000 in
theorem does_X10_leastFor (σ : zG) (who bu : Int) (hm : σ 53 8 ≤ 128) (hp : σ 5 0 ≤ 8) (hF : 0 ≤ σ 5 1 ∧ σ 5 1 ≤ 12) (hw : 0 ≤ who ∧ who < 8)  : zDo SC 4 m_X10_leastFor [zP 85, zP 53, .inl who, .inl bu] σ (zEq (some (.inl (R_X10_leastFor σ who bu).1)) (R_X10_leastFor σ who bu).2) := by
  refine zDo.intro mk_X10_leastFor (Nat.le_of_ble_eq_true rfl) ?_
  refine zRx.aload_n 0 rfl rfl dX10_leastFor_0 ?_
  refine zRx.aload_n 1 rfl rfl dX10_leastFor_1 ?_
  refine zRx.iload_n 2 rfl rfl dX10_leastFor_2 ?_
  refine zRx.cVi (w := .inl ((R_X10_takeDues σ who).1)) (M := m_X10_takeDues) (av := [zP 53, .inl who]) cv_10_27 mk_X10_takeDues (by decide) (b := 85) rfl rfl (Nat.le_of_ble_eq_true rfl) dX10_leastFor_3 (does_X10_takeDues σ who (by omega)) ?_
  have hdu := duesC_r who 200 0 0 σ (by decide) (by decide)
  have hdu2 : -1 ≤ (R_X10_takeDues σ who).1 ∧ (R_X10_takeDues σ who).1 ≤ 12 := hdu
  refine zRx.istore (ls' := [(0, zP 85), (1, zP 53), (2, .inl who), (3, .inl bu), (4, .inl ((R_X10_takeDues σ who).1))]) rfl (by decide) dX10_leastFor_6 ?_
  refine zRx.iload 4 rfl dX10_leastFor_8 ?_
  refine zRx.iconst ⟨by decide, by decide⟩ dX10_leastFor_10 ?_
  refine zRx.icmp_ne (tgt := 17) dX10_leastFor_11 (by decide) (fun c11 => ?_) (fun c11 => ?_)
  · refine zRx.aload_n 1 rfl rfl dX10_leastFor_17 ?_
    refine zRx.getR (a := 53) (b := 5) fl_10_32 rfl rfl dX10_leastFor_18 ?_
    refine zRx.getIv (a := 5) (ji := 1) (v := σ 5 1) (congrFun (fr_R_X10_takeDues σ who (k := 5) (by decide)) _) fl_10_38 rfl rfl rfl dX10_leastFor_21 ?_
    refine zRx.istore (ls' := [(0, zP 85), (1, zP 53), (2, .inl who), (3, .inl bu), (4, .inl ((R_X10_takeDues σ who).1)), (5, .inl (σ 5 1))]) rfl (by decide) dX10_leastFor_24 ?_
    refine zRx.iconst ⟨by decide, by decide⟩ dX10_leastFor_26 ?_
    refine zRx.istore (ls' := [(0, zP 85), (1, zP 53), (2, .inl who), (3, .inl bu), (4, .inl ((R_X10_takeDues σ who).1)), (5, .inl (σ 5 1)), (6, .inl 0)]) rfl (by decide) dX10_leastFor_27 ?_
    refine seg_X10_leastFor_29 who bu hw ((R_X10_takeDues σ who).1) (σ 5 1) 20 0 ((R_X10_takeDues σ who).2) _ (by omega) (by have e9 : ((R_X10_takeDues σ who).2) 5 0 = σ 5 0 := (congrFun (fr_R_X10_takeDues σ who (k := 5) (by decide)) _); omega) (fun j j0 j1 => absurd j0 (by omega)) (by omega) ?_
    intro x29_h0 x29_hp x29_hE x29_hE9
    refine zRx.aload_n 0 rfl rfl dX10_leastFor_51 ?_
    refine zRx.getR (a := 85) (b := 90) fl_10_24 rfl rfl dX10_leastFor_52 ?_
    refine zRx.ldc ⟨by decide, by decide⟩ kc_10_31 dX10_leastFor_55 ?_
    refine zRx.cSv (M := m_J7_fill_53178) (av := [zP 90, .inl 1073741824]) cs_10_48 mk_J7_fill_53178 (by decide) rfl (Nat.le_of_ble_eq_true rfl) dX10_leastFor_57 (does_fill SC 90 13 1073741824 ((S_X10_leastFor_29 who bu ((R_X10_takeDues σ who).1) (σ 5 1) 20 0 ((R_X10_takeDues σ who).2)).2) rfl (by decide)) ?_
    refine zRx.aload_n 0 rfl rfl dX10_leastFor_60 ?_
    refine zRx.getR (a := 85) (b := 90) fl_10_24 rfl rfl dX10_leastFor_61 ?_
    refine zRx.iconst ⟨by decide, by decide⟩ dX10_leastFor_64 ?_
    refine zRx.iconst ⟨by decide, by decide⟩ dX10_leastFor_65 ?_
    refine zRx.iast rfl (by decide) (by decide) dX10_leastFor_66 ?_
    refine zRx.iconst ⟨by decide, by decide⟩ dX10_leastFor_67 ?_
    refine zRx.istore (ls' := [(0, zP 85), (1, zP 53), (2, .inl who), (3, .inl bu), (4, .inl ((R_X10_takeDues σ who).1)), (5, .inl (σ 5 1)), (6, .inl 0)]) rfl (by decide) dX10_leastFor_68 ?_
    refine seg_X10_leastFor_70 who bu  ((R_X10_takeDues σ who).1) (σ 5 1) 20 0 (zu (zfl ((S_X10_leastFor_29 who bu ((R_X10_takeDues σ who).1) (σ 5 1) 20 0 ((R_X10_takeDues σ who).2)).2) 90 13 1073741824) 90 0 0) _ (by omega) (DE_of ((zu_row _ _ _ (by decide)).trans (fr_zfl ((S_X10_leastFor_29 who bu ((R_X10_takeDues σ who).1) (σ 5 1) 20 0 ((R_X10_takeDues σ who).2)).2) 90 13 1073741824 (k := 88) (by decide))) x29_hE9) (by omega) ?_
    intro x70_h0 x70_hE
    refine zRx.aload_n 0 rfl rfl dX10_leastFor_186 ?_
    refine zRx.getR (a := 85) (b := 90) fl_10_24 rfl rfl dX10_leastFor_187 ?_
    refine zRx.iload 4 rfl dX10_leastFor_190 ?_
    refine zRx.ialdv (v := ((S_X10_leastFor_70 who bu ((R_X10_takeDues σ who).1) (σ 5 1) 20 0 (zu (zfl ((S_X10_leastFor_29 who bu ((R_X10_takeDues σ who).1) (σ 5 1) 20 0 ((R_X10_takeDues σ who).2)).2) 90 13 1073741824) 90 0 0)).2) 90 ((R_X10_takeDues σ who).1)) rfl rfl (by omega) (by omega) dX10_leastFor_192 ?_
    exact zR.iret rfl dX10_leastFor_193 (by have he : R_X10_leastFor σ who bu = (((S_X10_leastFor_70 who bu ((R_X10_takeDues σ who).1) (σ 5 1) 20 0 (zu (zfl ((S_X10_leastFor_29 who bu ((R_X10_takeDues σ who).1) (σ 5 1) 20 0 ((R_X10_takeDues σ who).2)).2) 90 13 1073741824) 90 0 0)).2) 90 ((R_X10_takeDues σ who).1), (S_X10_leastFor_70 who bu ((R_X10_takeDues σ who).1) (σ 5 1) 20 0 (zu (zfl ((S_X10_leastFor_29 who bu ((R_X10_takeDues σ who).1) (σ 5 1) 20 0 ((R_X10_takeDues σ who).2)).2) 90 13 1073741824) 90 0 0)).2) := (by rw [R_X10_leastFor, if_neg c11]); rw [he]; exact ⟨rfl, rfl⟩)
  · refine zRx.ldc ⟨by decide, by decide⟩ kc_10_31 dX10_leastFor_14 ?_
    exact zR.iret rfl dX10_leastFor_16 (by have he : R_X10_leastFor σ who bu = (1073741824, (R_X10_takeDues σ who).2) := (by rw [R_X10_leastFor, if_pos c11]); rw [he]; exact ⟨rfl, rfl⟩)

