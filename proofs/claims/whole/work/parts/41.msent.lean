/-! the reference: images; the small methods of a sentence -/
def S_X12_image_18 (x : Int) : Nat → Int → zG → Int × zG
  | 0, q, σ => (q, σ)
  | n + 1, q, σ => if 666 ≤ q then (q, σ) else (S_X12_image_18 x n (q + 1) (zu σ 39 ((666 * x) + q) (σ 2 q)))
theorem fr_S_X12_image_18 (x : Int)  (n : Nat) (q : Int) (σ : zG) {k : Nat} (h : k ∉ [39]) : (S_X12_image_18 x n q σ).2 k = σ k := by
  induction n generalizing q σ with
  | zero => rfl
  | succ n ih =>
    have ne : ∀ c ∈ [39], k ≠ c := fun c hc e => h (e ▸ hc)
    rw [S_X12_image_18]
    repeat' split
    all_goals first | rfl | simp only [zu_row _ _ _ (ne 39 (by decide)), ih]

set_option maxRecDepth 20000 in
theorem seg_X12_image_18 (x : Int) (hx : 0 ≤ x ∧ x ≤ 1) : ∀ (n : Nat) (q : Int) (σ : zG) (X : zX), 0 ≤ q → (666 - q).toNat < n → (zRx none 1 m_X12_image SM 49 [(0, zP 0), (1, .inl x), (2, .inl ((S_X12_image_18 x n q σ).1))] [] ((S_X12_image_18 x n q σ).2) X) → zRx none 1 m_X12_image SM 18 [(0, zP 0), (1, .inl x), (2, .inl q)] [] σ X := by
  intro n
  induction n with
  | zero => intro q σ X h0 hmz; exact absurd hmz (Nat.not_lt_zero _)
  | succ n ih =>
    intro q σ X h0 hmz K
    refine zRx.iload_n 2 rfl rfl dX12_image_18 ?_
    refine zRx.sipush ⟨by decide, by decide⟩ rfl dX12_image_19 ?_
    refine zRx.icmp_ge (tgt := 49) dX12_image_22 (by decide) (fun c22 => ?_) (fun c22 => ?_)
    · have he : S_X12_image_18 x (n + 1) q σ = (q, σ) := by rw [S_X12_image_18, if_pos c22]
      rw [he] at K
      exact K
    · refine zRx.aload_n 0 rfl rfl dX12_image_25 ?_
      refine zRx.getR (a := 0) (b := 39) fl_12_148 rfl rfl dX12_image_26 ?_
      refine zRx.sipush ⟨by decide, by decide⟩ rfl dX12_image_29 ?_
      refine zRx.iload_n 1 rfl rfl dX12_image_32 ?_
      refine zRx.imul ⟨by omega, by omega⟩ dX12_image_33 ?_
      refine zRx.iload_n 2 rfl rfl dX12_image_34 ?_
      refine zRx.iadd ⟨by omega, by omega⟩ dX12_image_35 ?_
      refine zRx.aload_n 0 rfl rfl dX12_image_36 ?_
      refine zRx.getR (a := 0) (b := 2) fl_12_33 rfl rfl dX12_image_37 ?_
      refine zRx.iload_n 2 rfl rfl dX12_image_40 ?_
      refine zRx.ialdv (v := σ 2 q) rfl rfl (by omega) (by omega) dX12_image_41 ?_
      refine zRx.iast rfl (by omega) (by omega) dX12_image_42 ?_
      refine zRx.iinc (n := 1) (ls' := [(0, zP 0), (1, .inl x), (2, .inl (q + 1))]) 2 rfl ⟨by omega, by omega⟩ rfl (by decide) dX12_image_43 ?_
      refine zRx.goto (tgt := 18) dX12_image_46 (by decide) ?_
      have he : S_X12_image_18 x (n + 1) q σ = S_X12_image_18 x n (q + 1) (zu σ 39 ((666 * x) + q) (σ 2 q)) := by rw [S_X12_image_18, if_neg (Int.not_le.mpr c22)]
      rw [he] at K
      exact ih (q + 1) (zu σ 39 ((666 * x) + q) (σ 2 q)) _ (by omega) (by omega) K
def S_X12_image_51 (x : Int) : Nat → Int → zG → Int × zG
  | 0, q, σ => (q, σ)
  | n + 1, q, σ => if 20 ≤ q then (q, σ) else (S_X12_image_51 x n (q + 1) (zu σ 40 ((20 * x) + q) (σ 5 q)))
theorem fr_S_X12_image_51 (x : Int)  (n : Nat) (q : Int) (σ : zG) {k : Nat} (h : k ∉ [40]) : (S_X12_image_51 x n q σ).2 k = σ k := by
  induction n generalizing q σ with
  | zero => rfl
  | succ n ih =>
    have ne : ∀ c ∈ [40], k ≠ c := fun c hc e => h (e ▸ hc)
    rw [S_X12_image_51]
    repeat' split
    all_goals first | rfl | simp only [zu_row _ _ _ (ne 40 (by decide)), ih]

set_option maxRecDepth 20000 in
theorem seg_X12_image_51 (x : Int) (hx : 0 ≤ x ∧ x ≤ 1) : ∀ (n : Nat) (q : Int) (σ : zG) (X : zX), 0 ≤ q → (20 - q).toNat < n → (zRx none 1 m_X12_image SM 80 [(0, zP 0), (1, .inl x), (2, .inl ((S_X12_image_51 x n q σ).1))] [] ((S_X12_image_51 x n q σ).2) X) → zRx none 1 m_X12_image SM 51 [(0, zP 0), (1, .inl x), (2, .inl q)] [] σ X := by
  intro n
  induction n with
  | zero => intro q σ X h0 hmz; exact absurd hmz (Nat.not_lt_zero _)
  | succ n ih =>
    intro q σ X h0 hmz K
    refine zRx.iload_n 2 rfl rfl dX12_image_51 ?_
    refine zRx.bipush ⟨by decide, by decide⟩ rfl dX12_image_52 ?_
    refine zRx.icmp_ge (tgt := 80) dX12_image_54 (by decide) (fun c54 => ?_) (fun c54 => ?_)
    · have he : S_X12_image_51 x (n + 1) q σ = (q, σ) := by rw [S_X12_image_51, if_pos c54]
      rw [he] at K
      exact K
    · refine zRx.aload_n 0 rfl rfl dX12_image_57 ?_
      refine zRx.getR (a := 0) (b := 40) fl_12_151 rfl rfl dX12_image_58 ?_
      refine zRx.bipush ⟨by decide, by decide⟩ rfl dX12_image_61 ?_
      refine zRx.iload_n 1 rfl rfl dX12_image_63 ?_
      refine zRx.imul ⟨by omega, by omega⟩ dX12_image_64 ?_
      refine zRx.iload_n 2 rfl rfl dX12_image_65 ?_
      refine zRx.iadd ⟨by omega, by omega⟩ dX12_image_66 ?_
      refine zRx.aload_n 0 rfl rfl dX12_image_67 ?_
      refine zRx.getR (a := 0) (b := 5) fl_12_43 rfl rfl dX12_image_68 ?_
      refine zRx.iload_n 2 rfl rfl dX12_image_71 ?_
      refine zRx.laldv (v := σ 5 q) rfl rfl (by omega) (by omega) dX12_image_72 ?_
      refine zRx.last rfl (by omega) (by omega) dX12_image_73 ?_
      refine zRx.iinc (n := 1) (ls' := [(0, zP 0), (1, .inl x), (2, .inl (q + 1))]) 2 rfl ⟨by omega, by omega⟩ rfl (by decide) dX12_image_74 ?_
      refine zRx.goto (tgt := 51) dX12_image_77 (by decide) ?_
      have he : S_X12_image_51 x (n + 1) q σ = S_X12_image_51 x n (q + 1) (zu σ 40 ((20 * x) + q) (σ 5 q)) := by rw [S_X12_image_51, if_neg (Int.not_le.mpr c54)]
      rw [he] at K
      exact ih (q + 1) (zu σ 40 ((20 * x) + q) (σ 5 q)) _ (by omega) (by omega) K
def S_X12_image_82 (x : Int) : Nat → Int → zG → Int × zG
  | 0, q, σ => (q, σ)
  | n + 1, q, σ => if 60 ≤ q then (q, σ) else (S_X12_image_82 x n (q + 1) (zu σ 10 ((60 * x) + q) (σ 9 q)))
theorem fr_S_X12_image_82 (x : Int)  (n : Nat) (q : Int) (σ : zG) {k : Nat} (h : k ∉ [10]) : (S_X12_image_82 x n q σ).2 k = σ k := by
  induction n generalizing q σ with
  | zero => rfl
  | succ n ih =>
    have ne : ∀ c ∈ [10], k ≠ c := fun c hc e => h (e ▸ hc)
    rw [S_X12_image_82]
    repeat' split
    all_goals first | rfl | simp only [zu_row _ _ _ (ne 10 (by decide)), ih]

set_option maxRecDepth 20000 in
theorem seg_X12_image_82 (x : Int) (hx : 0 ≤ x ∧ x ≤ 1) : ∀ (n : Nat) (q : Int) (σ : zG) (X : zX), 0 ≤ q → (60 - q).toNat < n → (zRx none 1 m_X12_image SM 111 [(0, zP 0), (1, .inl x), (2, .inl ((S_X12_image_82 x n q σ).1))] [] ((S_X12_image_82 x n q σ).2) X) → zRx none 1 m_X12_image SM 82 [(0, zP 0), (1, .inl x), (2, .inl q)] [] σ X := by
  intro n
  induction n with
  | zero => intro q σ X h0 hmz; exact absurd hmz (Nat.not_lt_zero _)
  | succ n ih =>
    intro q σ X h0 hmz K
    refine zRx.iload_n 2 rfl rfl dX12_image_82 ?_
    refine zRx.bipush ⟨by decide, by decide⟩ rfl dX12_image_83 ?_
    refine zRx.icmp_ge (tgt := 111) dX12_image_85 (by decide) (fun c85 => ?_) (fun c85 => ?_)
    · have he : S_X12_image_82 x (n + 1) q σ = (q, σ) := by rw [S_X12_image_82, if_pos c85]
      rw [he] at K
      exact K
    · refine zRx.aload_n 0 rfl rfl dX12_image_88 ?_
      refine zRx.getR (a := 0) (b := 10) fl_12_59 rfl rfl dX12_image_89 ?_
      refine zRx.bipush ⟨by decide, by decide⟩ rfl dX12_image_92 ?_
      refine zRx.iload_n 1 rfl rfl dX12_image_94 ?_
      refine zRx.imul ⟨by omega, by omega⟩ dX12_image_95 ?_
      refine zRx.iload_n 2 rfl rfl dX12_image_96 ?_
      refine zRx.iadd ⟨by omega, by omega⟩ dX12_image_97 ?_
      refine zRx.aload_n 0 rfl rfl dX12_image_98 ?_
      refine zRx.getR (a := 0) (b := 9) fl_12_56 rfl rfl dX12_image_99 ?_
      refine zRx.iload_n 2 rfl rfl dX12_image_102 ?_
      refine zRx.ialdv (v := σ 9 q) rfl rfl (by omega) (by omega) dX12_image_103 ?_
      refine zRx.iast rfl (by omega) (by omega) dX12_image_104 ?_
      refine zRx.iinc (n := 1) (ls' := [(0, zP 0), (1, .inl x), (2, .inl (q + 1))]) 2 rfl ⟨by omega, by omega⟩ rfl (by decide) dX12_image_105 ?_
      refine zRx.goto (tgt := 82) dX12_image_108 (by decide) ?_
      have he : S_X12_image_82 x (n + 1) q σ = S_X12_image_82 x n (q + 1) (zu σ 10 ((60 * x) + q) (σ 9 q)) := by rw [S_X12_image_82, if_neg (Int.not_le.mpr c85)]
      rw [he] at K
      exact ih (q + 1) (zu σ 10 ((60 * x) + q) (σ 9 q)) _ (by omega) (by omega) K
def R_X12_image (σ : zG) (x : Int) : Int × zG := if 0 ≤ x ∧ x ≤ 1 then (1, zu ((S_X12_image_82 x 80 0 ((S_X12_image_51 x 40 0 ((S_X12_image_18 x 686 0 (zu σ 0 0 0)).2)).2)).2) 41 x 1) else (0, zu σ 0 0 0)
theorem fr_R_X12_image (σ : zG) (x : Int) {k : Nat} (h : k ∉ [0, 10, 39, 40, 41]) : (R_X12_image σ x).2 k = σ k := by
  have ne : ∀ c ∈ [0, 10, 39, 40, 41], k ≠ c := fun c hc e => h (e ▸ hc)
  have nk_S_X12_image_82 : k ∉ [10] := fun hm => h (by first | (revert hm; simp only [List.mem_cons, List.not_mem_nil, or_false]; omega) | (simp at hm))
  have nk_S_X12_image_51 : k ∉ [40] := fun hm => h (by first | (revert hm; simp only [List.mem_cons, List.not_mem_nil, or_false]; omega) | (simp at hm))
  have nk_S_X12_image_18 : k ∉ [39] := fun hm => h (by first | (revert hm; simp only [List.mem_cons, List.not_mem_nil, or_false]; omega) | (simp at hm))
  have nl_S_X12_image_18 : k ∉ [39] := fun hm => h (by first | (revert hm; simp only [List.mem_cons, List.not_mem_nil, or_false]; omega) | (simp at hm))
  have nl_S_X12_image_51 : k ∉ [40] := fun hm => h (by first | (revert hm; simp only [List.mem_cons, List.not_mem_nil, or_false]; omega) | (simp at hm))
  have nl_S_X12_image_82 : k ∉ [10] := fun hm => h (by first | (revert hm; simp only [List.mem_cons, List.not_mem_nil, or_false]; omega) | (simp at hm))
  unfold R_X12_image
  repeat' split
  all_goals first | rfl | simp only [zu_row _ _ _ (ne 0 (by decide)), zu_row _ _ _ (ne 10 (by decide)), zu_row _ _ _ (ne 39 (by decide)), zu_row _ _ _ (ne 40 (by decide)), zu_row _ _ _ (ne 41 (by decide)), fr_S_X12_image_82 (h := nk_S_X12_image_82), fr_S_X12_image_51 (h := nk_S_X12_image_51), fr_S_X12_image_18 (h := nk_S_X12_image_18), fr_S_X12_image_18 (h := nl_S_X12_image_18), fr_S_X12_image_51 (h := nl_S_X12_image_51), fr_S_X12_image_82 (h := nl_S_X12_image_82)]

set_option maxRecDepth 20000 in
theorem does_X12_image (σ : zG) (x : Int)   : zDo SM 1 m_X12_image [zP 0, .inl x] σ (zEq (some (.inl (R_X12_image σ x).1)) (R_X12_image σ x).2) := by
  refine zDo.intro mk_X12_image (Nat.le_of_ble_eq_true rfl) ?_
  refine zRx.aload_n 0 rfl rfl dX12_image_0 ?_
  refine zRx.iconst ⟨by decide, by decide⟩ dX12_image_1 ?_
  refine zRx.putI (a := 0) (ji := 0) pl_12_1 rfl rfl rfl dX12_image_2 ?_
  refine zRx.iload_n 1 rfl rfl dX12_image_5 ?_
  refine zRx.iconst ⟨by decide, by decide⟩ dX12_image_6 ?_
  refine zRx.iconst ⟨by decide, by decide⟩ dX12_image_7 ?_
  refine zRx.cSi (w := .inl (b2 (0 ≤ x ∧ x ≤ 1))) (M := m_X12_isIn) (av := [.inl x, .inl 0, .inl 1]) cs_12_254 mk_X12_isIn (by decide) rfl (Nat.le_of_ble_eq_true rfl) dX12_image_8 (does_X12_isIn x 0 1 SM (zu σ 0 0 0)) ?_
  refine zRx.if_neB (tgt := 16) dX12_image_11 (by decide) (fun c11 => ?_) (fun c11 => ?_)
  · refine zRx.iconst ⟨by decide, by decide⟩ dX12_image_16 ?_
    refine zRx.istore_n (ls' := [(0, zP 0), (1, .inl x), (2, .inl 0)]) rfl rfl (by decide) dX12_image_17 ?_
    refine seg_X12_image_18 x (by omega)  686 0 (zu σ 0 0 0) _ (by omega) (by omega) ?_
    refine zRx.iconst ⟨by decide, by decide⟩ dX12_image_49 ?_
    refine zRx.istore_n (ls' := [(0, zP 0), (1, .inl x), (2, .inl 0)]) rfl rfl (by decide) dX12_image_50 ?_
    refine seg_X12_image_51 x (by omega)  40 0 ((S_X12_image_18 x 686 0 (zu σ 0 0 0)).2) _ (by omega) (by omega) ?_
    refine zRx.iconst ⟨by decide, by decide⟩ dX12_image_80 ?_
    refine zRx.istore_n (ls' := [(0, zP 0), (1, .inl x), (2, .inl 0)]) rfl rfl (by decide) dX12_image_81 ?_
    refine seg_X12_image_82 x (by omega)  80 0 ((S_X12_image_51 x 40 0 ((S_X12_image_18 x 686 0 (zu σ 0 0 0)).2)).2) _ (by omega) (by omega) ?_
    refine zRx.aload_n 0 rfl rfl dX12_image_111 ?_
    refine zRx.getR (a := 0) (b := 41) fl_12_154 rfl rfl dX12_image_112 ?_
    refine zRx.iload_n 1 rfl rfl dX12_image_115 ?_
    refine zRx.iconst ⟨by decide, by decide⟩ dX12_image_116 ?_
    refine zRx.zast rfl (by omega) (by omega) ⟨by decide, by decide⟩ dX12_image_117 ?_
    refine zRx.iconst ⟨by decide, by decide⟩ dX12_image_118 ?_
    exact zR.zret rfl ⟨by decide, by decide⟩ dX12_image_119 (by have he : R_X12_image σ x = (1, zu ((S_X12_image_82 x 80 0 ((S_X12_image_51 x 40 0 ((S_X12_image_18 x 686 0 (zu σ 0 0 0)).2)).2)).2) 41 x 1) := (by rw [R_X12_image, if_pos c11]); rw [he]; exact ⟨rfl, rfl⟩)
  · refine zRx.iconst ⟨by decide, by decide⟩ dX12_image_14 ?_
    exact zR.zret rfl ⟨by decide, by decide⟩ dX12_image_15 (by have he : R_X12_image σ x = (0, zu σ 0 0 0) := (by rw [R_X12_image, if_neg c11]); rw [he]; exact ⟨rfl, rfl⟩)

def S_X12_restore_27 (x : Int) : Nat → Int → zG → Int × zG
  | 0, q, σ => (q, σ)
  | n + 1, q, σ => if 666 ≤ q then (q, σ) else (S_X12_restore_27 x n (q + 1) (zu σ 2 q (σ 39 ((666 * x) + q))))
theorem fr_S_X12_restore_27 (x : Int)  (n : Nat) (q : Int) (σ : zG) {k : Nat} (h : k ∉ [2]) : (S_X12_restore_27 x n q σ).2 k = σ k := by
  induction n generalizing q σ with
  | zero => rfl
  | succ n ih =>
    have ne : ∀ c ∈ [2], k ≠ c := fun c hc e => h (e ▸ hc)
    rw [S_X12_restore_27]
    repeat' split
    all_goals first | rfl | simp only [zu_row _ _ _ (ne 2 (by decide)), ih]

set_option maxRecDepth 20000 in
theorem seg_X12_restore_27 (x : Int) (hx : 0 ≤ x ∧ x ≤ 1) : ∀ (n : Nat) (q : Int) (σ : zG) (X : zX), 0 ≤ q → (666 - q).toNat < n → (zRx none 1 m_X12_restore SM 58 [(0, zP 0), (1, .inl x), (2, .inl ((S_X12_restore_27 x n q σ).1))] [] ((S_X12_restore_27 x n q σ).2) X) → zRx none 1 m_X12_restore SM 27 [(0, zP 0), (1, .inl x), (2, .inl q)] [] σ X := by
  intro n
  induction n with
  | zero => intro q σ X h0 hmz; exact absurd hmz (Nat.not_lt_zero _)
  | succ n ih =>
    intro q σ X h0 hmz K
    refine zRx.iload_n 2 rfl rfl dX12_restore_27 ?_
    refine zRx.sipush ⟨by decide, by decide⟩ rfl dX12_restore_28 ?_
    refine zRx.icmp_ge (tgt := 58) dX12_restore_31 (by decide) (fun c31 => ?_) (fun c31 => ?_)
    · have he : S_X12_restore_27 x (n + 1) q σ = (q, σ) := by rw [S_X12_restore_27, if_pos c31]
      rw [he] at K
      exact K
    · refine zRx.aload_n 0 rfl rfl dX12_restore_34 ?_
      refine zRx.getR (a := 0) (b := 2) fl_12_33 rfl rfl dX12_restore_35 ?_
      refine zRx.iload_n 2 rfl rfl dX12_restore_38 ?_
      refine zRx.aload_n 0 rfl rfl dX12_restore_39 ?_
      refine zRx.getR (a := 0) (b := 39) fl_12_148 rfl rfl dX12_restore_40 ?_
      refine zRx.sipush ⟨by decide, by decide⟩ rfl dX12_restore_43 ?_
      refine zRx.iload_n 1 rfl rfl dX12_restore_46 ?_
      refine zRx.imul ⟨by omega, by omega⟩ dX12_restore_47 ?_
      refine zRx.iload_n 2 rfl rfl dX12_restore_48 ?_
      refine zRx.iadd ⟨by omega, by omega⟩ dX12_restore_49 ?_
      refine zRx.ialdv (v := σ 39 ((666 * x) + q)) rfl rfl (by omega) (by omega) dX12_restore_50 ?_
      refine zRx.iast rfl (by omega) (by omega) dX12_restore_51 ?_
      refine zRx.iinc (n := 1) (ls' := [(0, zP 0), (1, .inl x), (2, .inl (q + 1))]) 2 rfl ⟨by omega, by omega⟩ rfl (by decide) dX12_restore_52 ?_
      refine zRx.goto (tgt := 27) dX12_restore_55 (by decide) ?_
      have he : S_X12_restore_27 x (n + 1) q σ = S_X12_restore_27 x n (q + 1) (zu σ 2 q (σ 39 ((666 * x) + q))) := by rw [S_X12_restore_27, if_neg (Int.not_le.mpr c31)]
      rw [he] at K
      exact ih (q + 1) (zu σ 2 q (σ 39 ((666 * x) + q))) _ (by omega) (by omega) K
def S_X12_restore_60 (x : Int) : Nat → Int → zG → Int × zG
  | 0, q, σ => (q, σ)
  | n + 1, q, σ => if 20 ≤ q then (q, σ) else (S_X12_restore_60 x n (q + 1) (zu σ 5 q (σ 40 ((20 * x) + q))))
theorem fr_S_X12_restore_60 (x : Int)  (n : Nat) (q : Int) (σ : zG) {k : Nat} (h : k ∉ [5]) : (S_X12_restore_60 x n q σ).2 k = σ k := by
  induction n generalizing q σ with
  | zero => rfl
  | succ n ih =>
    have ne : ∀ c ∈ [5], k ≠ c := fun c hc e => h (e ▸ hc)
    rw [S_X12_restore_60]
    repeat' split
    all_goals first | rfl | simp only [zu_row _ _ _ (ne 5 (by decide)), ih]

set_option maxRecDepth 20000 in
theorem seg_X12_restore_60 (x : Int) (hx : 0 ≤ x ∧ x ≤ 1) : ∀ (n : Nat) (q : Int) (σ : zG) (X : zX), 0 ≤ q → (20 - q).toNat < n → (zRx none 1 m_X12_restore SM 89 [(0, zP 0), (1, .inl x), (2, .inl ((S_X12_restore_60 x n q σ).1))] [] ((S_X12_restore_60 x n q σ).2) X) → zRx none 1 m_X12_restore SM 60 [(0, zP 0), (1, .inl x), (2, .inl q)] [] σ X := by
  intro n
  induction n with
  | zero => intro q σ X h0 hmz; exact absurd hmz (Nat.not_lt_zero _)
  | succ n ih =>
    intro q σ X h0 hmz K
    refine zRx.iload_n 2 rfl rfl dX12_restore_60 ?_
    refine zRx.bipush ⟨by decide, by decide⟩ rfl dX12_restore_61 ?_
    refine zRx.icmp_ge (tgt := 89) dX12_restore_63 (by decide) (fun c63 => ?_) (fun c63 => ?_)
    · have he : S_X12_restore_60 x (n + 1) q σ = (q, σ) := by rw [S_X12_restore_60, if_pos c63]
      rw [he] at K
      exact K
    · refine zRx.aload_n 0 rfl rfl dX12_restore_66 ?_
      refine zRx.getR (a := 0) (b := 5) fl_12_43 rfl rfl dX12_restore_67 ?_
      refine zRx.iload_n 2 rfl rfl dX12_restore_70 ?_
      refine zRx.aload_n 0 rfl rfl dX12_restore_71 ?_
      refine zRx.getR (a := 0) (b := 40) fl_12_151 rfl rfl dX12_restore_72 ?_
      refine zRx.bipush ⟨by decide, by decide⟩ rfl dX12_restore_75 ?_
      refine zRx.iload_n 1 rfl rfl dX12_restore_77 ?_
      refine zRx.imul ⟨by omega, by omega⟩ dX12_restore_78 ?_
      refine zRx.iload_n 2 rfl rfl dX12_restore_79 ?_
      refine zRx.iadd ⟨by omega, by omega⟩ dX12_restore_80 ?_
      refine zRx.laldv (v := σ 40 ((20 * x) + q)) rfl rfl (by omega) (by omega) dX12_restore_81 ?_
      refine zRx.last rfl (by omega) (by omega) dX12_restore_82 ?_
      refine zRx.iinc (n := 1) (ls' := [(0, zP 0), (1, .inl x), (2, .inl (q + 1))]) 2 rfl ⟨by omega, by omega⟩ rfl (by decide) dX12_restore_83 ?_
      refine zRx.goto (tgt := 60) dX12_restore_86 (by decide) ?_
      have he : S_X12_restore_60 x (n + 1) q σ = S_X12_restore_60 x n (q + 1) (zu σ 5 q (σ 40 ((20 * x) + q))) := by rw [S_X12_restore_60, if_neg (Int.not_le.mpr c63)]
      rw [he] at K
      exact ih (q + 1) (zu σ 5 q (σ 40 ((20 * x) + q))) _ (by omega) (by omega) K
def S_X12_restore_91 (x : Int) : Nat → Int → zG → Int × zG
  | 0, q, σ => (q, σ)
  | n + 1, q, σ => if 60 ≤ q then (q, σ) else (S_X12_restore_91 x n (q + 1) (zu σ 9 q (σ 10 ((60 * x) + q))))
theorem fr_S_X12_restore_91 (x : Int)  (n : Nat) (q : Int) (σ : zG) {k : Nat} (h : k ∉ [9]) : (S_X12_restore_91 x n q σ).2 k = σ k := by
  induction n generalizing q σ with
  | zero => rfl
  | succ n ih =>
    have ne : ∀ c ∈ [9], k ≠ c := fun c hc e => h (e ▸ hc)
    rw [S_X12_restore_91]
    repeat' split
    all_goals first | rfl | simp only [zu_row _ _ _ (ne 9 (by decide)), ih]

set_option maxRecDepth 20000 in
theorem seg_X12_restore_91 (x : Int) (hx : 0 ≤ x ∧ x ≤ 1) : ∀ (n : Nat) (q : Int) (σ : zG) (X : zX), 0 ≤ q → (60 - q).toNat < n → (zRx none 1 m_X12_restore SM 120 [(0, zP 0), (1, .inl x), (2, .inl ((S_X12_restore_91 x n q σ).1))] [] ((S_X12_restore_91 x n q σ).2) X) → zRx none 1 m_X12_restore SM 91 [(0, zP 0), (1, .inl x), (2, .inl q)] [] σ X := by
  intro n
  induction n with
  | zero => intro q σ X h0 hmz; exact absurd hmz (Nat.not_lt_zero _)
  | succ n ih =>
    intro q σ X h0 hmz K
    refine zRx.iload_n 2 rfl rfl dX12_restore_91 ?_
    refine zRx.bipush ⟨by decide, by decide⟩ rfl dX12_restore_92 ?_
    refine zRx.icmp_ge (tgt := 120) dX12_restore_94 (by decide) (fun c94 => ?_) (fun c94 => ?_)
    · have he : S_X12_restore_91 x (n + 1) q σ = (q, σ) := by rw [S_X12_restore_91, if_pos c94]
      rw [he] at K
      exact K
    · refine zRx.aload_n 0 rfl rfl dX12_restore_97 ?_
      refine zRx.getR (a := 0) (b := 9) fl_12_56 rfl rfl dX12_restore_98 ?_
      refine zRx.iload_n 2 rfl rfl dX12_restore_101 ?_
      refine zRx.aload_n 0 rfl rfl dX12_restore_102 ?_
      refine zRx.getR (a := 0) (b := 10) fl_12_59 rfl rfl dX12_restore_103 ?_
      refine zRx.bipush ⟨by decide, by decide⟩ rfl dX12_restore_106 ?_
      refine zRx.iload_n 1 rfl rfl dX12_restore_108 ?_
      refine zRx.imul ⟨by omega, by omega⟩ dX12_restore_109 ?_
      refine zRx.iload_n 2 rfl rfl dX12_restore_110 ?_
      refine zRx.iadd ⟨by omega, by omega⟩ dX12_restore_111 ?_
      refine zRx.ialdv (v := σ 10 ((60 * x) + q)) rfl rfl (by omega) (by omega) dX12_restore_112 ?_
      refine zRx.iast rfl (by omega) (by omega) dX12_restore_113 ?_
      refine zRx.iinc (n := 1) (ls' := [(0, zP 0), (1, .inl x), (2, .inl (q + 1))]) 2 rfl ⟨by omega, by omega⟩ rfl (by decide) dX12_restore_114 ?_
      refine zRx.goto (tgt := 91) dX12_restore_117 (by decide) ?_
      have he : S_X12_restore_91 x (n + 1) q σ = S_X12_restore_91 x n (q + 1) (zu σ 9 q (σ 10 ((60 * x) + q))) := by rw [S_X12_restore_91, if_neg (Int.not_le.mpr c94)]
      rw [he] at K
      exact ih (q + 1) (zu σ 9 q (σ 10 ((60 * x) + q))) _ (by omega) (by omega) K
def R_X12_restore (σ : zG) (x : Int) : Int × zG := if 0 ≤ x ∧ x ≤ 1 then (if (σ 41 x) = 0 then (0, zu σ 0 0 0) else (1, (S_X12_restore_91 x 80 0 ((S_X12_restore_60 x 40 0 ((S_X12_restore_27 x 686 0 (zu σ 0 0 0)).2)).2)).2)) else (0, zu σ 0 0 0)
theorem fr_R_X12_restore (σ : zG) (x : Int) {k : Nat} (h : k ∉ [0, 2, 5, 9]) : (R_X12_restore σ x).2 k = σ k := by
  have ne : ∀ c ∈ [0, 2, 5, 9], k ≠ c := fun c hc e => h (e ▸ hc)
  have nk_S_X12_restore_91 : k ∉ [9] := fun hm => h (by first | (revert hm; simp only [List.mem_cons, List.not_mem_nil, or_false]; omega) | (simp at hm))
  have nk_S_X12_restore_60 : k ∉ [5] := fun hm => h (by first | (revert hm; simp only [List.mem_cons, List.not_mem_nil, or_false]; omega) | (simp at hm))
  have nk_S_X12_restore_27 : k ∉ [2] := fun hm => h (by first | (revert hm; simp only [List.mem_cons, List.not_mem_nil, or_false]; omega) | (simp at hm))
  have nl_S_X12_restore_27 : k ∉ [2] := fun hm => h (by first | (revert hm; simp only [List.mem_cons, List.not_mem_nil, or_false]; omega) | (simp at hm))
  have nl_S_X12_restore_60 : k ∉ [5] := fun hm => h (by first | (revert hm; simp only [List.mem_cons, List.not_mem_nil, or_false]; omega) | (simp at hm))
  have nl_S_X12_restore_91 : k ∉ [9] := fun hm => h (by first | (revert hm; simp only [List.mem_cons, List.not_mem_nil, or_false]; omega) | (simp at hm))
  unfold R_X12_restore
  repeat' split
  all_goals first | rfl | simp only [zu_row _ _ _ (ne 0 (by decide)), zu_row _ _ _ (ne 2 (by decide)), zu_row _ _ _ (ne 5 (by decide)), zu_row _ _ _ (ne 9 (by decide)), fr_S_X12_restore_91 (h := nk_S_X12_restore_91), fr_S_X12_restore_60 (h := nk_S_X12_restore_60), fr_S_X12_restore_27 (h := nk_S_X12_restore_27), fr_S_X12_restore_27 (h := nl_S_X12_restore_27), fr_S_X12_restore_60 (h := nl_S_X12_restore_60), fr_S_X12_restore_91 (h := nl_S_X12_restore_91)]

set_option maxRecDepth 20000 in
theorem does_X12_restore (σ : zG) (x : Int)   : zDo SM 1 m_X12_restore [zP 0, .inl x] σ (zEq (some (.inl (R_X12_restore σ x).1)) (R_X12_restore σ x).2) := by
  refine zDo.intro mk_X12_restore (Nat.le_of_ble_eq_true rfl) ?_
  refine zRx.aload_n 0 rfl rfl dX12_restore_0 ?_
  refine zRx.iconst ⟨by decide, by decide⟩ dX12_restore_1 ?_
  refine zRx.putI (a := 0) (ji := 0) pl_12_1 rfl rfl rfl dX12_restore_2 ?_
  refine zRx.iload_n 1 rfl rfl dX12_restore_5 ?_
  refine zRx.iconst ⟨by decide, by decide⟩ dX12_restore_6 ?_
  refine zRx.iconst ⟨by decide, by decide⟩ dX12_restore_7 ?_
  refine zRx.cSi (w := .inl (b2 (0 ≤ x ∧ x ≤ 1))) (M := m_X12_isIn) (av := [.inl x, .inl 0, .inl 1]) cs_12_254 mk_X12_isIn (by decide) rfl (Nat.le_of_ble_eq_true rfl) dX12_restore_8 (does_X12_isIn x 0 1 SM (zu σ 0 0 0)) ?_
  refine zRx.if_eqB (tgt := 23) dX12_restore_11 (by decide) (fun c11 => ?_) (fun c11 => ?_)
  · refine zRx.iconst ⟨by decide, by decide⟩ dX12_restore_23 ?_
    exact zR.zret rfl ⟨by decide, by decide⟩ dX12_restore_24 (by have he : R_X12_restore σ x = (0, zu σ 0 0 0) := (by rw [R_X12_restore, if_neg c11]); rw [he]; exact ⟨rfl, rfl⟩)
  · refine zRx.aload_n 0 rfl rfl dX12_restore_14 ?_
    refine zRx.getR (a := 0) (b := 41) fl_12_154 rfl rfl dX12_restore_15 ?_
    refine zRx.iload_n 1 rfl rfl dX12_restore_18 ?_
    refine zRx.zaldv (v := σ 41 x) (zu_ne _ _ _ _ (by decide)) rfl (by omega) (by omega) dX12_restore_19 ?_
    refine zRx.if_ne (tgt := 25) dX12_restore_20 (by decide) (fun c20 => ?_) (fun c20 => ?_)
    · refine zRx.iconst ⟨by decide, by decide⟩ dX12_restore_25 ?_
      refine zRx.istore_n (ls' := [(0, zP 0), (1, .inl x), (2, .inl 0)]) rfl rfl (by decide) dX12_restore_26 ?_
      refine seg_X12_restore_27 x (by omega)  686 0 (zu σ 0 0 0) _ (by omega) (by omega) ?_
      refine zRx.iconst ⟨by decide, by decide⟩ dX12_restore_58 ?_
      refine zRx.istore_n (ls' := [(0, zP 0), (1, .inl x), (2, .inl 0)]) rfl rfl (by decide) dX12_restore_59 ?_
      refine seg_X12_restore_60 x (by omega)  40 0 ((S_X12_restore_27 x 686 0 (zu σ 0 0 0)).2) _ (by omega) (by omega) ?_
      refine zRx.iconst ⟨by decide, by decide⟩ dX12_restore_89 ?_
      refine zRx.istore_n (ls' := [(0, zP 0), (1, .inl x), (2, .inl 0)]) rfl rfl (by decide) dX12_restore_90 ?_
      refine seg_X12_restore_91 x (by omega)  80 0 ((S_X12_restore_60 x 40 0 ((S_X12_restore_27 x 686 0 (zu σ 0 0 0)).2)).2) _ (by omega) (by omega) ?_
      refine zRx.iconst ⟨by decide, by decide⟩ dX12_restore_120 ?_
      exact zR.zret rfl ⟨by decide, by decide⟩ dX12_restore_121 (by have he : R_X12_restore σ x = (1, (S_X12_restore_91 x 80 0 ((S_X12_restore_60 x 40 0 ((S_X12_restore_27 x 686 0 (zu σ 0 0 0)).2)).2)).2) := (by rw [R_X12_restore, if_pos c11, if_neg c20]); rw [he]; exact ⟨rfl, rfl⟩)
    · refine zRx.iconst ⟨by decide, by decide⟩ dX12_restore_23 ?_
      exact zR.zret rfl ⟨by decide, by decide⟩ dX12_restore_24 (by have he : R_X12_restore σ x = (0, zu σ 0 0 0) := (by rw [R_X12_restore, if_pos c11, if_pos c20]); rw [he]; exact ⟨rfl, rfl⟩)

/-- the pile: how many of it are 'not' or a bracket; which may lie on which -/
def opn (t : Int → Int) : Nat → Int
  | 0 => 0
  | n + 1 => opn t n + (if t n = 7 ∨ t n = 10 then 1 else 0)
def PV (t : Int → Int) (m : Int) : Prop := ∀ j : Int, 0 ≤ j → j < m → (t j = 7 ∨ t j = 8 ∨ t j = 9 ∨ t j = 10) ∧ (t j = 9 → j = 0 ∨ t (j - 1) = 10) ∧ (t j = 8 → j = 0 ∨ t (j - 1) = 10 ∨ t (j - 1) = 9)
theorem opn_0 (t : Int → Int) : ∀ n : Nat, 0 ≤ opn t n
  | 0 => Int.le_refl _
  | n + 1 => by
    have h := opn_0 t n
    rw [opn]
    split <;> omega
theorem opn_mono (t : Int → Int) {a b : Nat} (h : a ≤ b) : opn t a ≤ opn t b := by
  induction b with
  | zero => have : a = 0 := by omega
            rw [this]; exact Int.le_refl _
  | succ n ih =>
    by_cases e : a = n + 1
    · rw [e]; exact Int.le_refl _
    · have h1 := ih (by omega)
      rw [opn]
      split <;> omega
theorem opn_put (t t' : Int → Int) : ∀ n : Nat, (∀ j : Int, 0 ≤ j → j < n → t' j = t j) → opn t' n = opn t n
  | 0, _ => rfl
  | n + 1, h => by
    rw [opn, opn, opn_put t t' n (fun j h0 h1 => h j h0 (by omega)), h n (by omega) (by omega)]
theorem PV_len (t : Int → Int) : ∀ n : Nat, PV t n → (n : Int) ≤ 3 * opn t n + 2 ∧ (0 < n → t (n - 1) = 10 ∨ t (n - 1) = 7 → (n : Int) ≤ 3 * opn t n) ∧ (0 < n → t (n - 1) = 9 → (n : Int) ≤ 3 * opn t n + 1)
  | 0, _ => ⟨by simp [opn], fun h => absurd h (by decide), fun h => absurd h (by decide)⟩
  | n + 1, h => by
    have h1 := PV_len t n (fun j h0 h1 => h j h0 (by omega))
    have h2 := h n (by omega) (by omega)
    have e : ((n + 1 : Nat) : Int) - 1 = (n : Int) := by omega
    rw [opn, e]
    have hz : n = 0 → opn t n = 0 := fun e => by rw [e]; rfl
    by_cases n0 : n = 0
    · have := hz n0
      split <;> omega
    · have h3 := h1.2.1 (by omega)
      have h4 := h1.2.2 (by omega)
      split <;> omega
theorem PV_less {t : Int → Int} {a b : Int} (h : PV t b) (hab : a ≤ b) : PV t a := fun j h0 h1 => h j h0 (by omega)
/-- the sentence's rows: code, pile, ones -/
def SV (k : Int) (σ : zG) : Prop := (0 ≤ σ 0 66 ∧ 0 ≤ σ 0 67) ∧ (0 ≤ σ 0 68 ∧ σ 0 68 ≤ 20) ∧ σ 0 66 + σ 0 67 + k ≤ 2 * σ 0 68 ∧ PV (σ 37) (σ 0 67) ∧ opn (σ 37) (σ 0 67).toNat ≤ 8
theorem SV_len {k : Int} {σ : zG} (h : SV k σ) : σ 0 67 ≤ 3 * opn (σ 37) (σ 0 67).toNat + 2 := by
  have e : (((σ 0 67).toNat : Nat) : Int) = σ 0 67 := by have := h.1.2; omega
  have h1 := (PV_len (σ 37) (σ 0 67).toNat (by rw [e]; exact h.2.2.2.1)).1
  omega
theorem SV_of {k : Int} {σ τ : zG} (e6 : τ 0 66 = σ 0 66) (e7 : τ 0 67 = σ 0 67) (e8 : τ 0 68 = σ 0 68) (e : τ 37 = σ 37) (h : SV k σ) : SV k τ := by
  unfold SV at *
  rw [e6, e7, e8, e]
  exact h

def F_X12_write (σ : zG) (a b c : Int) : zG := zu (zu (zu (zu σ 36 (3 * (σ 0 66)) a) 36 ((3 * (σ 0 66)) + 1) b) 36 ((3 * (σ 0 66)) + 2) c) 0 66 ((σ 0 66) + 1)
theorem fr_F_X12_write (σ : zG) (a b c : Int) {k : Nat} (h : k ∉ [0, 36]) : (F_X12_write σ a b c) k = σ k := by
  have ne : ∀ c ∈ [0, 36], k ≠ c := fun c hc e => h (e ▸ hc)
  unfold F_X12_write
  repeat' split
  all_goals first | rfl | simp only [zu_row _ _ _ (ne 0 (by decide)), zu_row _ _ _ (ne 36 (by decide))]

set_option maxRecDepth 20000 in
theorem does_X12_write (σ : zG) (a b c : Int) (hc : 0 ≤ σ 0 66 ∧ σ 0 66 ≤ 60) : zDo SM 0 m_X12_write [zP 0, .inl a, .inl b, .inl c] σ (zEq (none) (F_X12_write σ a b c)) := by
  refine zDo.intro mk_X12_write (Nat.le_of_ble_eq_true rfl) ?_
  refine zRx.aload_n 0 rfl rfl dX12_write_0 ?_
  refine zRx.getR (a := 0) (b := 36) fl_12_138 rfl rfl dX12_write_1 ?_
  refine zRx.iconst ⟨by decide, by decide⟩ dX12_write_4 ?_
  refine zRx.aload_n 0 rfl rfl dX12_write_5 ?_
  refine zRx.getIv (a := 0) (ji := 66) (v := σ 0 66) rfl fl_12_466 rfl rfl rfl dX12_write_6 ?_
  refine zRx.imul ⟨by omega, by omega⟩ dX12_write_9 ?_
  refine zRx.iload_n 1 rfl rfl dX12_write_10 ?_
  refine zRx.iast rfl (by omega) (by omega) dX12_write_11 ?_
  refine zRx.aload_n 0 rfl rfl dX12_write_12 ?_
  refine zRx.getR (a := 0) (b := 36) fl_12_138 rfl rfl dX12_write_13 ?_
  refine zRx.iconst ⟨by decide, by decide⟩ dX12_write_16 ?_
  refine zRx.aload_n 0 rfl rfl dX12_write_17 ?_
  refine zRx.getIv (a := 0) (ji := 66) (v := σ 0 66) (zu_ne _ _ _ _ (by decide)) fl_12_466 rfl rfl rfl dX12_write_18 ?_
  refine zRx.imul ⟨by omega, by omega⟩ dX12_write_21 ?_
  refine zRx.iconst ⟨by decide, by decide⟩ dX12_write_22 ?_
  refine zRx.iadd ⟨by omega, by omega⟩ dX12_write_23 ?_
  refine zRx.iload_n 2 rfl rfl dX12_write_24 ?_
  refine zRx.iast rfl (by omega) (by omega) dX12_write_25 ?_
  refine zRx.aload_n 0 rfl rfl dX12_write_26 ?_
  refine zRx.getR (a := 0) (b := 36) fl_12_138 rfl rfl dX12_write_27 ?_
  refine zRx.iconst ⟨by decide, by decide⟩ dX12_write_30 ?_
  refine zRx.aload_n 0 rfl rfl dX12_write_31 ?_
  refine zRx.getIv (a := 0) (ji := 66) (v := σ 0 66) ((zu_ne _ _ _ _ (by decide)).trans (zu_ne _ _ _ _ (by decide))) fl_12_466 rfl rfl rfl dX12_write_32 ?_
  refine zRx.imul ⟨by omega, by omega⟩ dX12_write_35 ?_
  refine zRx.iconst ⟨by decide, by decide⟩ dX12_write_36 ?_
  refine zRx.iadd ⟨by omega, by omega⟩ dX12_write_37 ?_
  refine zRx.iload_n 3 rfl rfl dX12_write_38 ?_
  refine zRx.iast rfl (by omega) (by omega) dX12_write_39 ?_
  refine zRx.aload_n 0 rfl rfl dX12_write_40 ?_
  refine zRx.dup rfl dX12_write_41 ?_
  refine zRx.getIv (a := 0) (ji := 66) (v := σ 0 66) ((zu_ne _ _ _ _ (by decide)).trans ((zu_ne _ _ _ _ (by decide)).trans (zu_ne _ _ _ _ (by decide)))) fl_12_466 rfl rfl rfl dX12_write_42 ?_
  refine zRx.iconst ⟨by decide, by decide⟩ dX12_write_45 ?_
  refine zRx.iadd ⟨by omega, by omega⟩ dX12_write_46 ?_
  refine zRx.putI (a := 0) (ji := 66) pl_12_466 rfl rfl rfl dX12_write_47 ?_
  exact zR.ret rfl dX12_write_50 ⟨rfl, rfl⟩

def V_X12_binds (a : Int) : Int := if a = 7 then 3 else (if a = 8 then 2 else 1)
set_option maxRecDepth 20000 in
theorem does_X12_binds (σ : zG) (a : Int) (sh : List zSh) : zDo sh 0 m_X12_binds [.inl a] σ (zEq (some (.inl (V_X12_binds a))) σ) := by
  refine zDo.intro mk_X12_binds (Nat.le_of_ble_eq_true rfl) ?_
  refine zRx.iload_n 0 rfl rfl dX12_binds_0 ?_
  refine zRx.bipush ⟨by decide, by decide⟩ rfl dX12_binds_1 ?_
  refine zRx.icmp_ne (tgt := 10) dX12_binds_3 (by decide) (fun c3 => ?_) (fun c3 => ?_)
  · refine zRx.iload_n 0 rfl rfl dX12_binds_10 ?_
    refine zRx.bipush ⟨by decide, by decide⟩ rfl dX12_binds_11 ?_
    refine zRx.icmp_ne (tgt := 20) dX12_binds_13 (by decide) (fun c13 => ?_) (fun c13 => ?_)
    · refine zRx.iconst ⟨by decide, by decide⟩ dX12_binds_20 ?_
      exact zR.iret rfl dX12_binds_21 ⟨by unfold V_X12_binds; rw [if_neg c3, if_neg c13], rfl⟩
    · refine zRx.iconst ⟨by decide, by decide⟩ dX12_binds_16 ?_
      refine zRx.goto (tgt := 21) dX12_binds_17 (by decide) ?_
      exact zR.iret rfl dX12_binds_21 ⟨by unfold V_X12_binds; rw [if_neg c3, if_pos c13], rfl⟩
  · refine zRx.iconst ⟨by decide, by decide⟩ dX12_binds_6 ?_
    refine zRx.goto (tgt := 21) dX12_binds_7 (by decide) ?_
    exact zR.iret rfl dX12_binds_21 ⟨by unfold V_X12_binds; rw [if_pos c3], rfl⟩

def L_X12_opened_4 (σ : zG)  : Nat → Int → Int → Int
  | 0, _, _ => 0
  | n + 1, c, q => if (σ 0 67) ≤ q then c else (if (σ 37 q) = 7 then (L_X12_opened_4 σ  n (c + 1) (q + 1)) else (if (σ 37 q) = 10 then (L_X12_opened_4 σ  n (c + 1) (q + 1)) else (L_X12_opened_4 σ  n (c + 0) (q + 1))))
set_option maxRecDepth 20000 in
theorem loop_X12_opened_4 (σ : zG)  (hm : σ 0 67 ≤ 30) : ∀ (n : Nat) (c q : Int) , 0 ≤ q ∧ 0 ≤ c ∧ c ≤ q → (σ 0 67 - q).toNat < n → zR SM 0 m_X12_opened 4 [(0, zP 0), (1, .inl c), (2, .inl q)] [] σ (zEq (some (.inl (L_X12_opened_4 σ  n c q))) σ) := by
  intro n
  induction n with
  | zero => intro c q  h0 hmz; exact absurd hmz (Nat.not_lt_zero _)
  | succ n ih =>
    intro c q  h0 hmz
    refine zRx.iload_n 2 rfl rfl dX12_opened_4 ?_
    refine zRx.aload_n 0 rfl rfl dX12_opened_5 ?_
    refine zRx.getIv (a := 0) (ji := 67) (v := σ 0 67) rfl fl_12_469 rfl rfl rfl dX12_opened_6 ?_
    refine zRx.icmp_ge (tgt := 48) dX12_opened_9 (by decide) (fun c9 => ?_) (fun c9 => ?_)
    · refine zRx.iload_n 1 rfl rfl dX12_opened_48 ?_
      exact zR.iret rfl dX12_opened_49 (by have he : L_X12_opened_4 σ  (n + 1) c q = c := (by rw [L_X12_opened_4, if_pos c9]); rw [he]; exact ⟨rfl, rfl⟩)
    · refine zRx.iload_n 1 rfl rfl dX12_opened_12 ?_
      refine zRx.aload_n 0 rfl rfl dX12_opened_13 ?_
      refine zRx.getR (a := 0) (b := 37) fl_12_141 rfl rfl dX12_opened_14 ?_
      refine zRx.iload_n 2 rfl rfl dX12_opened_17 ?_
      refine zRx.ialdv (v := σ 37 q) rfl rfl (by omega) (by omega) dX12_opened_18 ?_
      refine zRx.bipush ⟨by decide, by decide⟩ rfl dX12_opened_19 ?_
      refine zRx.icmp_eq (tgt := 35) dX12_opened_21 (by decide) (fun c21 => ?_) (fun c21 => ?_)
      · refine zRx.iconst ⟨by decide, by decide⟩ dX12_opened_35 ?_
        refine zRx.goto (tgt := 40) dX12_opened_36 (by decide) ?_
        refine zRx.iadd ⟨by omega, by omega⟩ dX12_opened_40 ?_
        refine zRx.istore_n (ls' := [(0, zP 0), (1, .inl (c + 1)), (2, .inl q)]) rfl rfl (by decide) dX12_opened_41 ?_
        refine zRx.iinc (n := 1) (ls' := [(0, zP 0), (1, .inl (c + 1)), (2, .inl (q + 1))]) 2 rfl ⟨by omega, by omega⟩ rfl (by decide) dX12_opened_42 ?_
        refine zRx.goto (tgt := 4) dX12_opened_45 (by decide) ?_
        have he : L_X12_opened_4 σ  (n + 1) c q = L_X12_opened_4 σ  n (c + 1) (q + 1) := by rw [L_X12_opened_4, if_neg (Int.not_le.mpr c9), if_pos c21]
        rw [he]
        exact ih (c + 1) (q + 1)  (by omega) (by omega)
      · refine zRx.aload_n 0 rfl rfl dX12_opened_24 ?_
        refine zRx.getR (a := 0) (b := 37) fl_12_141 rfl rfl dX12_opened_25 ?_
        refine zRx.iload_n 2 rfl rfl dX12_opened_28 ?_
        refine zRx.ialdv (v := σ 37 q) rfl rfl (by omega) (by omega) dX12_opened_29 ?_
        refine zRx.bipush ⟨by decide, by decide⟩ rfl dX12_opened_30 ?_
        refine zRx.icmp_ne (tgt := 39) dX12_opened_32 (by decide) (fun c32 => ?_) (fun c32 => ?_)
        · refine zRx.iconst ⟨by decide, by decide⟩ dX12_opened_39 ?_
          refine zRx.iadd ⟨by omega, by omega⟩ dX12_opened_40 ?_
          refine zRx.istore_n (ls' := [(0, zP 0), (1, .inl (c + 0)), (2, .inl q)]) rfl rfl (by decide) dX12_opened_41 ?_
          refine zRx.iinc (n := 1) (ls' := [(0, zP 0), (1, .inl (c + 0)), (2, .inl (q + 1))]) 2 rfl ⟨by omega, by omega⟩ rfl (by decide) dX12_opened_42 ?_
          refine zRx.goto (tgt := 4) dX12_opened_45 (by decide) ?_
          have he : L_X12_opened_4 σ  (n + 1) c q = L_X12_opened_4 σ  n (c + 0) (q + 1) := by rw [L_X12_opened_4, if_neg (Int.not_le.mpr c9), if_neg c21, if_neg c32]
          rw [he]
          exact ih (c + 0) (q + 1)  (by omega) (by omega)
        · refine zRx.iconst ⟨by decide, by decide⟩ dX12_opened_35 ?_
          refine zRx.goto (tgt := 40) dX12_opened_36 (by decide) ?_
          refine zRx.iadd ⟨by omega, by omega⟩ dX12_opened_40 ?_
          refine zRx.istore_n (ls' := [(0, zP 0), (1, .inl (c + 1)), (2, .inl q)]) rfl rfl (by decide) dX12_opened_41 ?_
          refine zRx.iinc (n := 1) (ls' := [(0, zP 0), (1, .inl (c + 1)), (2, .inl (q + 1))]) 2 rfl ⟨by omega, by omega⟩ rfl (by decide) dX12_opened_42 ?_
          refine zRx.goto (tgt := 4) dX12_opened_45 (by decide) ?_
          have he : L_X12_opened_4 σ  (n + 1) c q = L_X12_opened_4 σ  n (c + 1) (q + 1) := by rw [L_X12_opened_4, if_neg (Int.not_le.mpr c9), if_neg c21, if_pos c32]
          rw [he]
          exact ih (c + 1) (q + 1)  (by omega) (by omega)
def R_X12_opened (σ : zG)  : Int := L_X12_opened_4 σ  50 0 0
set_option maxRecDepth 20000 in
theorem does_X12_opened (σ : zG)  (hm : σ 0 67 ≤ 30)  : zDo SM 0 m_X12_opened [zP 0] σ (zEq (some (.inl (R_X12_opened σ ))) σ) := by
  refine zDo.intro mk_X12_opened (Nat.le_of_ble_eq_true rfl) ?_
  refine zRx.iconst ⟨by decide, by decide⟩ dX12_opened_0 ?_
  refine zRx.istore_n (ls' := [(0, zP 0), (1, .inl 0)]) rfl rfl (by decide) dX12_opened_1 ?_
  refine zRx.iconst ⟨by decide, by decide⟩ dX12_opened_2 ?_
  refine zRx.istore_n (ls' := [(0, zP 0), (1, .inl 0), (2, .inl 0)]) rfl rfl (by decide) dX12_opened_3 ?_
  have he : R_X12_opened σ  = L_X12_opened_4 σ  50 0 0 := by rw [R_X12_opened]
  rw [he]
  exact loop_X12_opened_4 σ  hm  50 0 0  (by omega) (by omega)

def L_X12_isOpen_2 (σ : zG)  : Nat → Int → Int
  | 0, _ => 0
  | n + 1, q => if (σ 0 67) ≤ q then 0 else (if (σ 37 q) = 10 then 1 else (L_X12_isOpen_2 σ  n (q + 1)))
set_option maxRecDepth 20000 in
theorem loop_X12_isOpen_2 (σ : zG)  (hm : σ 0 67 ≤ 30) : ∀ (n : Nat) (q : Int) , 0 ≤ q → (σ 0 67 - q).toNat < n → zR SM 0 m_X12_isOpen 2 [(0, zP 0), (1, .inl q)] [] σ (zEq (some (.inl (L_X12_isOpen_2 σ  n q))) σ) := by
  intro n
  induction n with
  | zero => intro q  h0 hmz; exact absurd hmz (Nat.not_lt_zero _)
  | succ n ih =>
    intro q  h0 hmz
    refine zRx.iload_n 1 rfl rfl dX12_isOpen_2 ?_
    refine zRx.aload_n 0 rfl rfl dX12_isOpen_3 ?_
    refine zRx.getIv (a := 0) (ji := 67) (v := σ 0 67) rfl fl_12_469 rfl rfl rfl dX12_isOpen_4 ?_
    refine zRx.icmp_ge (tgt := 29) dX12_isOpen_7 (by decide) (fun c7 => ?_) (fun c7 => ?_)
    · refine zRx.iconst ⟨by decide, by decide⟩ dX12_isOpen_29 ?_
      exact zR.zret rfl ⟨by decide, by decide⟩ dX12_isOpen_30 (by have he : L_X12_isOpen_2 σ  (n + 1) q = 0 := (by rw [L_X12_isOpen_2, if_pos c7]); rw [he]; exact ⟨rfl, rfl⟩)
    · refine zRx.aload_n 0 rfl rfl dX12_isOpen_10 ?_
      refine zRx.getR (a := 0) (b := 37) fl_12_141 rfl rfl dX12_isOpen_11 ?_
      refine zRx.iload_n 1 rfl rfl dX12_isOpen_14 ?_
      refine zRx.ialdv (v := σ 37 q) rfl rfl (by omega) (by omega) dX12_isOpen_15 ?_
      refine zRx.bipush ⟨by decide, by decide⟩ rfl dX12_isOpen_16 ?_
      refine zRx.icmp_ne (tgt := 23) dX12_isOpen_18 (by decide) (fun c18 => ?_) (fun c18 => ?_)
      · refine zRx.iinc (n := 1) (ls' := [(0, zP 0), (1, .inl (q + 1))]) 1 rfl ⟨by omega, by omega⟩ rfl (by decide) dX12_isOpen_23 ?_
        refine zRx.goto (tgt := 2) dX12_isOpen_26 (by decide) ?_
        have he : L_X12_isOpen_2 σ  (n + 1) q = L_X12_isOpen_2 σ  n (q + 1) := by rw [L_X12_isOpen_2, if_neg (Int.not_le.mpr c7), if_neg c18]
        rw [he]
        exact ih (q + 1)  (by omega) (by omega)
      · refine zRx.iconst ⟨by decide, by decide⟩ dX12_isOpen_21 ?_
        exact zR.zret rfl ⟨by decide, by decide⟩ dX12_isOpen_22 (by have he : L_X12_isOpen_2 σ  (n + 1) q = 1 := (by rw [L_X12_isOpen_2, if_neg (Int.not_le.mpr c7), if_pos c18]); rw [he]; exact ⟨rfl, rfl⟩)
def R_X12_isOpen (σ : zG)  : Int := L_X12_isOpen_2 σ  50 0
set_option maxRecDepth 20000 in
theorem does_X12_isOpen (σ : zG)  (hm : σ 0 67 ≤ 30)  : zDo SM 0 m_X12_isOpen [zP 0] σ (zEq (some (.inl (R_X12_isOpen σ ))) σ) := by
  refine zDo.intro mk_X12_isOpen (Nat.le_of_ble_eq_true rfl) ?_
  refine zRx.iconst ⟨by decide, by decide⟩ dX12_isOpen_0 ?_
  refine zRx.istore_n (ls' := [(0, zP 0), (1, .inl 0)]) rfl rfl (by decide) dX12_isOpen_1 ?_
  have he : R_X12_isOpen σ  = L_X12_isOpen_2 σ  50 0 := by rw [R_X12_isOpen]
  rw [he]
  exact loop_X12_isOpen_2 σ  hm  50 0  (by omega) (by omega)

def V_X12_atom (σ : zG)  : Int := if σ 0 11 = 1 ∧ σ 0 17 = 6840691 then 0 else (if σ 0 11 = 1 ∧ σ 0 17 = 1818326117 then 1 else (if σ 0 11 = 1 ∧ σ 0 17 = 1870095731 then 2 else (if σ 0 11 = 1 ∧ σ 0 17 = 431197680755 then 3 else (if σ 0 11 = 1 ∧ σ 0 17 = 1885432164 then 4 else (if σ 0 11 = 1 ∧ σ 0 17 = 1752527476 then 5 else (if σ 0 11 = 1 ∧ σ 0 17 = 427070942835 then 6 else (-1)))))))
set_option maxRecDepth 20000 in
theorem does_X12_atom (σ : zG)   : zDo SM 1 m_X12_atom [zP 0] σ (zEq (some (.inl (V_X12_atom σ ))) σ) := by
  refine zDo.intro mk_X12_atom (Nat.le_of_ble_eq_true rfl) ?_
  refine zRx.aload_n 0 rfl rfl dX12_atom_0 ?_
  refine zRx.ldc2 ⟨by decide, by decide⟩ kl_12_195 dX12_atom_1 ?_
  refine zRx.cVi (w := .inl (b2 (σ 0 11 = 1 ∧ σ 0 17 = 6840691))) (M := m_X12_isWord) (av := [zJ 6840691]) cv_12_279 mk_X12_isWord (by decide) (b := 0) rfl rfl (Nat.le_of_ble_eq_true rfl) dX12_atom_4 (isWord2 σ 6840691 (σ 0 11) (σ 0 17) rfl rfl) ?_
  refine zRx.if_eqB (tgt := 14) dX12_atom_7 (by decide) (fun c7 => ?_) (fun c7 => ?_)
  · refine zRx.aload_n 0 rfl rfl dX12_atom_14 ?_
    refine zRx.ldc2 ⟨by decide, by decide⟩ kl_12_197 dX12_atom_15 ?_
    refine zRx.cVi (w := .inl (b2 (σ 0 11 = 1 ∧ σ 0 17 = 1818326117))) (M := m_X12_isWord) (av := [zJ 1818326117]) cv_12_279 mk_X12_isWord (by decide) (b := 0) rfl rfl (Nat.le_of_ble_eq_true rfl) dX12_atom_18 (isWord2 σ 1818326117 (σ 0 11) (σ 0 17) rfl rfl) ?_
    refine zRx.if_eqB (tgt := 28) dX12_atom_21 (by decide) (fun c21 => ?_) (fun c21 => ?_)
    · refine zRx.aload_n 0 rfl rfl dX12_atom_28 ?_
      refine zRx.ldc2 ⟨by decide, by decide⟩ kl_12_199 dX12_atom_29 ?_
      refine zRx.cVi (w := .inl (b2 (σ 0 11 = 1 ∧ σ 0 17 = 1870095731))) (M := m_X12_isWord) (av := [zJ 1870095731]) cv_12_279 mk_X12_isWord (by decide) (b := 0) rfl rfl (Nat.le_of_ble_eq_true rfl) dX12_atom_32 (isWord2 σ 1870095731 (σ 0 11) (σ 0 17) rfl rfl) ?_
      refine zRx.if_eqB (tgt := 42) dX12_atom_35 (by decide) (fun c35 => ?_) (fun c35 => ?_)
      · refine zRx.aload_n 0 rfl rfl dX12_atom_42 ?_
        refine zRx.ldc2 ⟨by decide, by decide⟩ kl_12_201 dX12_atom_43 ?_
        refine zRx.cVi (w := .inl (b2 (σ 0 11 = 1 ∧ σ 0 17 = 431197680755))) (M := m_X12_isWord) (av := [zJ 431197680755]) cv_12_279 mk_X12_isWord (by decide) (b := 0) rfl rfl (Nat.le_of_ble_eq_true rfl) dX12_atom_46 (isWord2 σ 431197680755 (σ 0 11) (σ 0 17) rfl rfl) ?_
        refine zRx.if_eqB (tgt := 56) dX12_atom_49 (by decide) (fun c49 => ?_) (fun c49 => ?_)
        · refine zRx.aload_n 0 rfl rfl dX12_atom_56 ?_
          refine zRx.ldc2 ⟨by decide, by decide⟩ kl_12_203 dX12_atom_57 ?_
          refine zRx.cVi (w := .inl (b2 (σ 0 11 = 1 ∧ σ 0 17 = 1885432164))) (M := m_X12_isWord) (av := [zJ 1885432164]) cv_12_279 mk_X12_isWord (by decide) (b := 0) rfl rfl (Nat.le_of_ble_eq_true rfl) dX12_atom_60 (isWord2 σ 1885432164 (σ 0 11) (σ 0 17) rfl rfl) ?_
          refine zRx.if_eqB (tgt := 70) dX12_atom_63 (by decide) (fun c63 => ?_) (fun c63 => ?_)
          · refine zRx.aload_n 0 rfl rfl dX12_atom_70 ?_
            refine zRx.ldc2 ⟨by decide, by decide⟩ kl_12_205 dX12_atom_71 ?_
            refine zRx.cVi (w := .inl (b2 (σ 0 11 = 1 ∧ σ 0 17 = 1752527476))) (M := m_X12_isWord) (av := [zJ 1752527476]) cv_12_279 mk_X12_isWord (by decide) (b := 0) rfl rfl (Nat.le_of_ble_eq_true rfl) dX12_atom_74 (isWord2 σ 1752527476 (σ 0 11) (σ 0 17) rfl rfl) ?_
            refine zRx.if_eqB (tgt := 84) dX12_atom_77 (by decide) (fun c77 => ?_) (fun c77 => ?_)
            · refine zRx.aload_n 0 rfl rfl dX12_atom_84 ?_
              refine zRx.ldc2 ⟨by decide, by decide⟩ kl_12_207 dX12_atom_85 ?_
              refine zRx.cVi (w := .inl (b2 (σ 0 11 = 1 ∧ σ 0 17 = 427070942835))) (M := m_X12_isWord) (av := [zJ 427070942835]) cv_12_279 mk_X12_isWord (by decide) (b := 0) rfl rfl (Nat.le_of_ble_eq_true rfl) dX12_atom_88 (isWord2 σ 427070942835 (σ 0 11) (σ 0 17) rfl rfl) ?_
              refine zRx.if_eqB (tgt := 99) dX12_atom_91 (by decide) (fun c91 => ?_) (fun c91 => ?_)
              · refine zRx.iconst ⟨by decide, by decide⟩ dX12_atom_99 ?_
                exact zR.iret rfl dX12_atom_100 ⟨by unfold V_X12_atom; rw [if_neg c7, if_neg c21, if_neg c35, if_neg c49, if_neg c63, if_neg c77, if_neg c91], rfl⟩
              · refine zRx.bipush ⟨by decide, by decide⟩ rfl dX12_atom_94 ?_
                refine zRx.goto (tgt := 100) dX12_atom_96 (by decide) ?_
                exact zR.iret rfl dX12_atom_100 ⟨by unfold V_X12_atom; rw [if_neg c7, if_neg c21, if_neg c35, if_neg c49, if_neg c63, if_neg c77, if_pos c91], rfl⟩
            · refine zRx.iconst ⟨by decide, by decide⟩ dX12_atom_80 ?_
              refine zRx.goto (tgt := 100) dX12_atom_81 (by decide) ?_
              exact zR.iret rfl dX12_atom_100 ⟨by unfold V_X12_atom; rw [if_neg c7, if_neg c21, if_neg c35, if_neg c49, if_neg c63, if_pos c77], rfl⟩
          · refine zRx.iconst ⟨by decide, by decide⟩ dX12_atom_66 ?_
            refine zRx.goto (tgt := 100) dX12_atom_67 (by decide) ?_
            exact zR.iret rfl dX12_atom_100 ⟨by unfold V_X12_atom; rw [if_neg c7, if_neg c21, if_neg c35, if_neg c49, if_pos c63], rfl⟩
        · refine zRx.iconst ⟨by decide, by decide⟩ dX12_atom_52 ?_
          refine zRx.goto (tgt := 100) dX12_atom_53 (by decide) ?_
          exact zR.iret rfl dX12_atom_100 ⟨by unfold V_X12_atom; rw [if_neg c7, if_neg c21, if_neg c35, if_pos c49], rfl⟩
      · refine zRx.iconst ⟨by decide, by decide⟩ dX12_atom_38 ?_
        refine zRx.goto (tgt := 100) dX12_atom_39 (by decide) ?_
        exact zR.iret rfl dX12_atom_100 ⟨by unfold V_X12_atom; rw [if_neg c7, if_neg c21, if_pos c35], rfl⟩
    · refine zRx.iconst ⟨by decide, by decide⟩ dX12_atom_24 ?_
      refine zRx.goto (tgt := 100) dX12_atom_25 (by decide) ?_
      exact zR.iret rfl dX12_atom_100 ⟨by unfold V_X12_atom; rw [if_neg c7, if_pos c21], rfl⟩
  · refine zRx.iconst ⟨by decide, by decide⟩ dX12_atom_10 ?_
    refine zRx.goto (tgt := 100) dX12_atom_11 (by decide) ?_
    exact zR.iret rfl dX12_atom_100 ⟨by unfold V_X12_atom; rw [if_pos c7], rfl⟩

