/-! the reference: the lines of a book -/
/-- fields that no reading of tokens touches -/
def KI (i : Int) : Prop := i ≠ 4 ∧ i ≠ 11 ∧ i ≠ 12 ∧ i ≠ 13 ∧ i ≠ 14 ∧ i ≠ 15 ∧ i ≠ 16 ∧ i ≠ 17 ∧ i ≠ 18
theorem kp_next (σ : zG) (i : Int) (h : KI i) : F_X12_next σ 0 i = σ 0 i := (next_all σ).2.1 i h.1 h.2.1 h.2.2.1 h.2.2.2.1 h.2.2.2.2.1 h.2.2.2.2.2.2.2.1
theorem kp_bad (σ : zG) (x y i : Int) (h : KI i) : zu (zu σ 0 15 x) 0 16 y 0 i = σ 0 i := by rw [zu_off _ _ _ h.2.2.2.2.2.2.1, zu_off _ _ _ h.2.2.2.2.2.1]
theorem kp_takes (σ : zG) (lo hi i : Int) (h : KI i) : F_X12_takes σ lo hi 0 i = σ 0 i := by
  unfold F_X12_takes
  split
  · split
    · rw [kp_next _ _ h, zu_off _ _ _ h.2.2.2.2.2.2.2.2]
    · exact kp_bad _ _ _ _ h
  · exact kp_bad _ _ _ _ h
theorem kp_takesName (σ : zG) (fm nn i : Int) (h : KI i) : F_X12_takesName σ fm nn 0 i = σ 0 i := by
  unfold F_X12_takesName
  split
  · exact kp_bad _ _ _ _ h
  · split
    · rw [kp_next _ _ h, zu_off _ _ _ h.2.2.2.2.2.2.2.2]
    · rw [kp_bad _ _ _ _ h, zu_off _ _ _ h.2.2.2.2.2.2.2.2]
theorem kp_sign (σ : zG) (c i : Int) (h : KI i) : F_X12_sign σ c 0 i = σ 0 i := by
  unfold F_X12_sign
  split
  · exact kp_next _ _ h
  · exact kp_bad _ _ _ _ h
theorem kp_draw (σ : zG) (x i : Int) (h : i ≠ 27) : F_X12_draw σ x 0 i = σ 0 i := zu_off _ _ _ h
theorem kp_taken (σ : zG) (x i : Int) (h : i ≠ 2 ∧ i ≠ 3 ∧ i ≠ 4 ∧ i ≠ 5) : F_X12_taken σ x 0 i = σ 0 i := by
  unfold F_X12_taken
  rw [zu_off _ _ _ h.2.2.2, zu_off _ _ _ h.2.2.1, zu_off _ _ _ h.1, zu_off _ _ _ h.2.1]
theorem isNameL_1 (σ : zG) : ∀ (n : Nat) (q : Int), L_X12_isName_16 σ n 0 q = 0
  | 0, q => rfl
  | n + 1, q => by
    rw [L_X12_isName_16]
    split
    · rfl
    · rw [if_pos rfl]
      exact isNameL_1 σ n (q + 1)
theorem isName_tok {σ : zG} (h : ¬ R_X12_isName σ = 0) : σ 0 11 = 1 := by
  unfold R_X12_isName at h
  split at h
  · assumption
  · exact absurd (isNameL_1 σ _ _) h
theorem pcn_r : ∀ x : Fin 256, (x.val = 0 → pcn (x.val : Int) = 0) ∧ (x.val ≠ 0 → 1 ≤ pcn (x.val : Int)) ∧ pcn (x.val : Int) ≤ 8 := by decide +kernel
theorem many_r {σ : zG} {x : Int} (h0 : 0 < x) (h1 : x < 256) : 1 ≤ R_X12_many σ x ∧ R_X12_many σ x ≤ 8 := by
  have h := pcn_r ⟨x.toNat, by omega⟩
  have e : ((x.toNat : Nat) : Int) = x := by omega
  have h2 : R_X12_many σ x = pcn x := by unfold R_X12_many pcn; exact many_free σ x _ _ _
  rw [h2]
  dsimp only at h
  rw [e] at h
  exact ⟨h.2.1 (by omega), h.2.2⟩
theorem many_r0 {σ : zG} {x : Int} (h0 : 0 ≤ x) (h1 : x < 256) : 0 ≤ R_X12_many σ x ∧ R_X12_many σ x ≤ 8 := by
  have h := pcn_r ⟨x.toNat, by omega⟩
  have e : ((x.toNat : Nat) : Int) = x := by omega
  have h2 : R_X12_many σ x = pcn x := by unfold R_X12_many pcn; exact many_free σ x _ _ _
  rw [h2]
  dsimp only at h
  rw [e] at h
  by_cases hz : x = 0
  · exact ⟨by rw [h.1 (by omega)]; decide, h.2.2⟩
  · exact ⟨by have := h.2.1 (by omega); omega, h.2.2⟩
theorem bor_bit {m a : Int} (h0 : 0 ≤ m) (h1 : m < 256) (a0 : 0 ≤ a) (a1 : a < 8) : 0 < bor m (bshl 1 a) ∧ bor m (bshl 1 a) < 256 := by
  obtain ⟨m', rfl⟩ := Int.eq_ofNat_of_zero_le h0
  obtain ⟨a', rfl⟩ := Int.eq_ofNat_of_zero_le a0
  have hp : 2 ^ a' ≤ 2 ^ 7 := Nat.pow_le_pow_right (by decide) (by omega)
  have hq : 0 < 2 ^ a' := Nat.pos_of_ne_zero (by exact Nat.ne_of_gt (Nat.two_pow_pos a'))
  have e1 : bshl (1 : Int) (a' : Int) = ((2 ^ a' : Nat) : Int) := by
    have := bshl_nat (a := 1) (i := a') (by omega) (by omega)
    rw [Nat.one_mul] at this
    exact this
  rw [e1, bor_nat (by omega) (by omega)]
  have h8 : m' ||| 2 ^ a' < 2 ^ 8 := Nat.or_lt_two_pow (by omega) (by omega)
  have h9 : 2 ^ a' ≤ m' ||| 2 ^ a' := Nat.right_le_or
  omega

def F_X12_put (σ : zG) (to wh who ot f mo : Int) : zG := zu (zu (zu (zu (zu (zu σ 4 to wh) 4 (to + 1) who) 4 (to + 2) ot) 4 (to + 3) f) 4 (to + 4) mo) 8 (to / 5) 0
theorem fr_F_X12_put (σ : zG) (to wh who ot f mo : Int) {k : Nat} (h : k ∉ [4, 8]) : (F_X12_put σ to wh who ot f mo) k = σ k := by
  have ne : ∀ c ∈ [4, 8], k ≠ c := fun c hc e => h (e ▸ hc)
  unfold F_X12_put
  repeat' split
  all_goals first | rfl | simp only [zu_row _ _ _ (ne 4 (by decide)), zu_row _ _ _ (ne 8 (by decide))]

set_option maxRecDepth 20000 in
theorem does_X12_put (σ : zG) (to wh who ot f mo : Int) (ht : 0 ≤ to ∧ to + 4 < 300) : zDo SM 0 m_X12_put [zP 0, .inl to, .inl wh, .inl who, .inl ot, .inl f, .inl mo] σ (zEq (none) (F_X12_put σ to wh who ot f mo)) := by
  refine zDo.intro mk_X12_put (Nat.le_of_ble_eq_true rfl) ?_
  refine zRx.aload_n 0 rfl rfl dX12_put_0 ?_
  refine zRx.getR (a := 0) (b := 4) fl_12_40 rfl rfl dX12_put_1 ?_
  refine zRx.iload_n 1 rfl rfl dX12_put_4 ?_
  refine zRx.iload_n 2 rfl rfl dX12_put_5 ?_
  refine zRx.iast rfl (by omega) (by omega) dX12_put_6 ?_
  refine zRx.aload_n 0 rfl rfl dX12_put_7 ?_
  refine zRx.getR (a := 0) (b := 4) fl_12_40 rfl rfl dX12_put_8 ?_
  refine zRx.iload_n 1 rfl rfl dX12_put_11 ?_
  refine zRx.iconst ⟨by decide, by decide⟩ dX12_put_12 ?_
  refine zRx.iadd ⟨by omega, by omega⟩ dX12_put_13 ?_
  refine zRx.iload_n 3 rfl rfl dX12_put_14 ?_
  refine zRx.iast rfl (by omega) (by omega) dX12_put_15 ?_
  refine zRx.aload_n 0 rfl rfl dX12_put_16 ?_
  refine zRx.getR (a := 0) (b := 4) fl_12_40 rfl rfl dX12_put_17 ?_
  refine zRx.iload_n 1 rfl rfl dX12_put_20 ?_
  refine zRx.iconst ⟨by decide, by decide⟩ dX12_put_21 ?_
  refine zRx.iadd ⟨by omega, by omega⟩ dX12_put_22 ?_
  refine zRx.iload 4 rfl dX12_put_23 ?_
  refine zRx.iast rfl (by omega) (by omega) dX12_put_25 ?_
  refine zRx.aload_n 0 rfl rfl dX12_put_26 ?_
  refine zRx.getR (a := 0) (b := 4) fl_12_40 rfl rfl dX12_put_27 ?_
  refine zRx.iload_n 1 rfl rfl dX12_put_30 ?_
  refine zRx.iconst ⟨by decide, by decide⟩ dX12_put_31 ?_
  refine zRx.iadd ⟨by omega, by omega⟩ dX12_put_32 ?_
  refine zRx.iload 5 rfl dX12_put_33 ?_
  refine zRx.iast rfl (by omega) (by omega) dX12_put_35 ?_
  refine zRx.aload_n 0 rfl rfl dX12_put_36 ?_
  refine zRx.getR (a := 0) (b := 4) fl_12_40 rfl rfl dX12_put_37 ?_
  refine zRx.iload_n 1 rfl rfl dX12_put_40 ?_
  refine zRx.iconst ⟨by decide, by decide⟩ dX12_put_41 ?_
  refine zRx.iadd ⟨by omega, by omega⟩ dX12_put_42 ?_
  refine zRx.iload 6 rfl dX12_put_43 ?_
  refine zRx.iast rfl (by omega) (by omega) dX12_put_45 ?_
  refine zRx.aload_n 0 rfl rfl dX12_put_46 ?_
  refine zRx.getR (a := 0) (b := 8) fl_12_53 rfl rfl dX12_put_47 ?_
  refine zRx.iload_n 1 rfl rfl dX12_put_50 ?_
  refine zRx.iconst ⟨by decide, by decide⟩ dX12_put_51 ?_
  refine zRx.idiv (by omega) (by decide) dX12_put_52 ?_
  refine zRx.iconst ⟨by decide, by decide⟩ dX12_put_53 ?_
  refine zRx.iast rfl (by omega) (by omega) dX12_put_54 ?_
  exact zR.ret rfl dX12_put_55 ⟨rfl, rfl⟩

def S_X12_withOrder_5 (to nn : Int) : Nat → Int → Int → zG → Int × Int × zG
  | 0, v, q, σ => (v, q, σ)
  | n + 1, v, q, σ => if nn ≤ q then (v, q, σ) else (S_X12_withOrder_5 to nn n (bor v (bshl (σ 7 q) (3 * q))) (q + 1) σ)
theorem fr_S_X12_withOrder_5 (to nn : Int)  (n : Nat) (v q : Int) (σ : zG) {k : Nat} (h : k ∉ []) : (S_X12_withOrder_5 to nn n v q σ).2.2 k = σ k := by
  induction n generalizing v q σ with
  | zero => rfl
  | succ n ih =>
    have ne : ∀ c ∈ [], k ≠ c := fun c hc e => h (e ▸ hc)
    rw [S_X12_withOrder_5]
    repeat' split
    all_goals first | rfl | simp only [ih]

set_option maxRecDepth 20000 in
theorem seg_X12_withOrder_5 (to nn : Int) (hn : nn ≤ 8) : ∀ (n : Nat) (v q : Int) (σ : zG) (X : zX), 0 ≤ q → (nn - q).toNat < n → zRx none 0 m_X12_withOrder SM 32 [(0, zP 0), (1, .inl to), (2, .inl nn), (3, .inl ((S_X12_withOrder_5 to nn n v q σ).1)), (4, .inl ((S_X12_withOrder_5 to nn n v q σ).2.1))] [] ((S_X12_withOrder_5 to nn n v q σ).2.2) X → zRx none 0 m_X12_withOrder SM 5 [(0, zP 0), (1, .inl to), (2, .inl nn), (3, .inl v), (4, .inl q)] [] σ X := by
  intro n
  induction n with
  | zero => intro v q σ X h0 hmz; exact absurd hmz (Nat.not_lt_zero _)
  | succ n ih =>
    intro v q σ X h0 hmz K
    refine zRx.iload 4 rfl dX12_withOrder_5 ?_
    refine zRx.iload_n 2 rfl rfl dX12_withOrder_7 ?_
    refine zRx.icmp_ge (tgt := 32) dX12_withOrder_8 (by decide) (fun c8 => ?_) (fun c8 => ?_)
    · have he : S_X12_withOrder_5 to nn (n + 1) v q σ = (v, q, σ) := by rw [S_X12_withOrder_5, if_pos c8]
      rw [he] at K
      exact K
    · refine zRx.iload_n 3 rfl rfl dX12_withOrder_11 ?_
      refine zRx.aload_n 0 rfl rfl dX12_withOrder_12 ?_
      refine zRx.getR (a := 0) (b := 7) fl_12_50 rfl rfl dX12_withOrder_13 ?_
      refine zRx.iload 4 rfl dX12_withOrder_16 ?_
      refine zRx.ialdv (v := σ 7 q) rfl rfl (by omega) (by omega) dX12_withOrder_18 ?_
      refine zRx.iconst ⟨by decide, by decide⟩ dX12_withOrder_19 ?_
      refine zRx.iload 4 rfl dX12_withOrder_20 ?_
      refine zRx.imul ⟨by omega, by omega⟩ dX12_withOrder_22 ?_
      refine zRx.ishl dX12_withOrder_23 ?_
      refine zRx.ior dX12_withOrder_24 ?_
      refine zRx.istore_n (ls' := [(0, zP 0), (1, .inl to), (2, .inl nn), (3, .inl (bor v (bshl (σ 7 q) (3 * q)))), (4, .inl q)]) rfl rfl (by decide) dX12_withOrder_25 ?_
      refine zRx.iinc (n := 1) (ls' := [(0, zP 0), (1, .inl to), (2, .inl nn), (3, .inl (bor v (bshl (σ 7 q) (3 * q)))), (4, .inl (q + 1))]) 4 rfl ⟨by omega, by omega⟩ rfl (by decide) dX12_withOrder_26 ?_
      refine zRx.goto (tgt := 5) dX12_withOrder_29 (by decide) ?_
      have he : S_X12_withOrder_5 to nn (n + 1) v q σ = S_X12_withOrder_5 to nn n (bor v (bshl (σ 7 q) (3 * q))) (q + 1) σ := by rw [S_X12_withOrder_5, if_neg (Int.not_le.mpr c8)]
      rw [he] at K
      exact ih (bor v (bshl (σ 7 q) (3 * q))) (q + 1) σ _ (by omega) (by omega) K
def R_X12_withOrder (σ : zG) (to nn : Int) : zG := zu ((S_X12_withOrder_5 to nn 10 0 0 σ).2.2) 8 (to / 5) ((S_X12_withOrder_5 to nn 10 0 0 σ).1)
theorem fr_R_X12_withOrder (σ : zG) (to nn : Int) {k : Nat} (h : k ∉ [8]) : (R_X12_withOrder σ to nn) k = σ k := by
  have ne : ∀ c ∈ [8], k ≠ c := fun c hc e => h (e ▸ hc)
  have nk_S_X12_withOrder_5 : k ∉ [] := fun hm => h (by first | (revert hm; simp only [List.mem_cons, List.not_mem_nil, or_false]; omega) | (simp at hm))
  have nl_S_X12_withOrder_5 : k ∉ [] := fun hm => h (by first | (revert hm; simp only [List.mem_cons, List.not_mem_nil, or_false]; omega) | (simp at hm))
  unfold R_X12_withOrder
  repeat' split
  all_goals first | rfl | simp only [zu_row _ _ _ (ne 8 (by decide)), fr_S_X12_withOrder_5 (h := nk_S_X12_withOrder_5), fr_S_X12_withOrder_5 (h := nl_S_X12_withOrder_5)]

set_option maxRecDepth 20000 in
theorem does_X12_withOrder (σ : zG) (to nn : Int) (ht : 0 ≤ to ∧ to + 4 < 300) (hn : nn ≤ 8)  : zDo SM 0 m_X12_withOrder [zP 0, .inl to, .inl nn] σ (zEq none (R_X12_withOrder σ to nn)) := by
  refine zDo.intro mk_X12_withOrder (Nat.le_of_ble_eq_true rfl) ?_
  refine zRx.iconst ⟨by decide, by decide⟩ dX12_withOrder_0 ?_
  refine zRx.istore_n (ls' := [(0, zP 0), (1, .inl to), (2, .inl nn), (3, .inl 0)]) rfl rfl (by decide) dX12_withOrder_1 ?_
  refine zRx.iconst ⟨by decide, by decide⟩ dX12_withOrder_2 ?_
  refine zRx.istore (ls' := [(0, zP 0), (1, .inl to), (2, .inl nn), (3, .inl 0), (4, .inl 0)]) rfl (by decide) dX12_withOrder_3 ?_
  refine seg_X12_withOrder_5 to nn hn  10 0 0 σ _ (by omega) (by omega) ?_
  refine zRx.aload_n 0 rfl rfl dX12_withOrder_32 ?_
  refine zRx.getR (a := 0) (b := 8) fl_12_53 rfl rfl dX12_withOrder_33 ?_
  refine zRx.iload_n 1 rfl rfl dX12_withOrder_36 ?_
  refine zRx.iconst ⟨by decide, by decide⟩ dX12_withOrder_37 ?_
  refine zRx.idiv (by omega) (by decide) dX12_withOrder_38 ?_
  refine zRx.iload_n 3 rfl rfl dX12_withOrder_39 ?_
  refine zRx.iast rfl (by omega) (by omega) dX12_withOrder_40 ?_
  exact zR.ret rfl dX12_withOrder_41 ⟨rfl, (by rw [R_X12_withOrder] : R_X12_withOrder σ to nn = zu ((S_X12_withOrder_5 to nn 10 0 0 σ).2.2) 8 (to / 5) ((S_X12_withOrder_5 to nn 10 0 0 σ).1)).symm⟩

theorem PI_row {σ τ : zG} (e : τ 0 = σ 0) (h : PI σ) : PI τ := by
  unfold PI at *
  rw [e]
  exact h
theorem PI_F_X12_put {σ : zG} {to wh who ot f mo : Int} (h : PI σ) : PI (F_X12_put σ to wh who ot f mo) := PI_row (fr_F_X12_put σ to wh who ot f mo (by decide)) h
theorem PI_R_X12_withOrder {σ : zG} {to nn : Int} (h : PI σ) : PI (R_X12_withOrder σ to nn) := PI_row (fr_R_X12_withOrder σ to nn (by decide)) h
theorem with_step {σ : zG} {i : Nat} {j x : Int} (hi : i ≠ 0) (h : ¬ R_X12_isName (F_X12_next σ) = 0) : σ 0 4 < F_X12_next (zu (F_X12_next σ) i j x) 0 4 := by
  have h1 := isName_tok h
  have h2 := (next_all σ).2.2.2.1
  have h3 := (next_all (zu (F_X12_next σ) i j x)).2.2.1.1
  rw [zu_ne _ _ _ _ (fun e => hi e.symm)] at h3
  omega

def L_X12_bookLine_287  (to who wh ot f : Int) : Nat → Int → zG → Int × zG
  | 0, _, σ => (0, σ)
  | n + 1, mo, σ => if wh = 1 then (if σ 0 11 = 1 ∧ σ 0 17 = 2003399784 then (if (R_X12_isName (F_X12_next σ)) = 0 then (0, zu (zu (F_X12_next σ) 0 15 1) 0 16 ((F_X12_next σ) 0 12)) else (if (R_X12_find (F_X12_next σ) 0 (σ 2 0)) < 0 then (0, zu (zu (F_X12_next σ) 0 15 3) 0 16 ((F_X12_next σ) 0 12)) else (if (R_X12_find (F_X12_next σ) 0 (σ 2 0)) = who then (0, zu (zu (F_X12_next σ) 0 15 3) 0 16 ((F_X12_next σ) 0 12)) else (if (R_X12_find (F_X12_next σ) 0 (σ 2 0)) = ot then (0, zu (zu (F_X12_next σ) 0 15 3) 0 16 ((F_X12_next σ) 0 12)) else (if hb mo (R_X12_find (F_X12_next σ) 0 (σ 2 0)) then (0, zu (zu (F_X12_next σ) 0 15 3) 0 16 ((F_X12_next σ) 0 12)) else (L_X12_bookLine_287  to who wh ot f n (bor mo (bshl 1 (R_X12_find (F_X12_next σ) 0 (σ 2 0)))) (F_X12_next (zu (F_X12_next σ) 7 ((R_X12_many (F_X12_next σ) (bor mo (bshl 1 (R_X12_find (F_X12_next σ) 0 (σ 2 0))))) - 1) (R_X12_find (F_X12_next σ) 0 (σ 2 0)))))))))) else (if wh = 4 then (if (V_X12_takes σ 0 99) = 0 then (0, F_X12_takes σ 0 99) else (1, R_X12_withOrder (F_X12_put (F_X12_takes σ 0 99) to wh who ot f ((F_X12_takes σ 0 99) 0 18)) to (R_X12_many (F_X12_put (F_X12_takes σ 0 99) to wh who ot f ((F_X12_takes σ 0 99) 0 18)) ((F_X12_takes σ 0 99) 0 18)))) else (1, R_X12_withOrder (F_X12_put σ to wh who ot f mo) to (R_X12_many (F_X12_put σ to wh who ot f mo) mo)))) else (if wh = 4 then (if (V_X12_takes σ 0 99) = 0 then (0, F_X12_takes σ 0 99) else (1, F_X12_put (F_X12_takes σ 0 99) to wh who ot f ((F_X12_takes σ 0 99) 0 18))) else (1, F_X12_put σ to wh who ot f mo))
theorem fr_L_X12_bookLine_287  (to who wh ot f : Int)  (n : Nat) (mo : Int) (σ : zG) {k : Nat} (h : k ∉ [0, 4, 7, 8]) : (L_X12_bookLine_287  to who wh ot f n mo σ).2 k = σ k := by
  induction n generalizing mo σ with
  | zero => rfl
  | succ n ih =>
    have ne : ∀ c ∈ [0, 4, 7, 8], k ≠ c := fun c hc e => h (e ▸ hc)
    have nk_F_X12_next : k ∉ [0] := fun hm => h (by first | (revert hm; simp only [List.mem_cons, List.not_mem_nil, or_false]; omega) | (simp at hm))
    have nk_F_X12_takes : k ∉ [0] := fun hm => h (by first | (revert hm; simp only [List.mem_cons, List.not_mem_nil, or_false]; omega) | (simp at hm))
    have nk_R_X12_withOrder : k ∉ [8] := fun hm => h (by first | (revert hm; simp only [List.mem_cons, List.not_mem_nil, or_false]; omega) | (simp at hm))
    have nk_F_X12_put : k ∉ [4, 8] := fun hm => h (by first | (revert hm; simp only [List.mem_cons, List.not_mem_nil, or_false]; omega) | (simp at hm))
    rw [L_X12_bookLine_287]
    repeat' split
    all_goals first | rfl | simp only [zu_row _ _ _ (ne 0 (by decide)), zu_row _ _ _ (ne 4 (by decide)), zu_row _ _ _ (ne 7 (by decide)), zu_row _ _ _ (ne 8 (by decide)), fr_F_X12_next (h := nk_F_X12_next), fr_F_X12_takes (h := nk_F_X12_takes), fr_R_X12_withOrder (h := nk_R_X12_withOrder), fr_F_X12_put (h := nk_F_X12_put), ih]

set_option maxRecDepth 20000 in
theorem loop_X12_bookLine_287   (to who wh ot f : Int) : ∀ (n : Nat) (mo : Int) (σ : zG), PI σ → 0 ≤ σ 2 0 ∧ σ 2 0 ≤ 8 → 0 ≤ σ 2 1 ∧ σ 2 1 ≤ 12 → (0 ≤ mo ∧ mo < 256) ∧ (0 ≤ to ∧ to + 4 < 300) → (940 - σ 0 4).toNat < n → zR SM 3 m_X12_bookLine 287 [(0, zP 0), (1, .inl to), (2, .inl who), (3, .inl wh), (4, .inl ot), (5, .inl f), (6, .inl mo)] [] σ (zEq (some (.inl (L_X12_bookLine_287  to who wh ot f n mo σ).1)) (L_X12_bookLine_287  to who wh ot f n mo σ).2) := by
  intro n
  induction n with
  | zero => intro mo σ hI hp hF h5 hmz; exact absurd hmz (Nat.not_lt_zero _)
  | succ n ih =>
    intro mo σ hI hp hF h5 hmz
    refine zRx.iload_n 3 rfl rfl dX12_bookLine_287 ?_
    refine zRx.iconst ⟨by decide, by decide⟩ dX12_bookLine_288 ?_
    refine zRx.icmp_ne (tgt := 396) dX12_bookLine_289 (by decide) (fun c289 => ?_) (fun c289 => ?_)
    · refine zRx.iload_n 3 rfl rfl dX12_bookLine_396 ?_
      refine zRx.iconst ⟨by decide, by decide⟩ dX12_bookLine_397 ?_
      refine zRx.icmp_ne (tgt := 419) dX12_bookLine_398 (by decide) (fun c398 => ?_) (fun c398 => ?_)
      · refine zRx.aload_n 0 rfl rfl dX12_bookLine_419 ?_
        refine zRx.iload_n 1 rfl rfl dX12_bookLine_420 ?_
        refine zRx.iload_n 3 rfl rfl dX12_bookLine_421 ?_
        refine zRx.iload_n 2 rfl rfl dX12_bookLine_422 ?_
        refine zRx.iload 4 rfl dX12_bookLine_423 ?_
        refine zRx.iload 5 rfl dX12_bookLine_425 ?_
        refine zRx.iload 6 rfl dX12_bookLine_427 ?_
        refine zRx.cVv (M := m_X12_put) (av := [.inl to, .inl wh, .inl who, .inl ot, .inl f, .inl mo]) cv_12_329 mk_X12_put (by decide) (b := 0) rfl rfl (Nat.le_of_ble_eq_true rfl) dX12_bookLine_429 (does_X12_put σ to wh who ot f mo (by omega)) ?_
        refine zRx.iload_n 3 rfl rfl dX12_bookLine_432 ?_
        refine zRx.iconst ⟨by decide, by decide⟩ dX12_bookLine_433 ?_
        refine zRx.icmp_ne (tgt := 447) dX12_bookLine_434 (by decide) (fun c434 => ?_) (fun c434 => absurd c434 c289)
        refine zRx.iconst ⟨by decide, by decide⟩ dX12_bookLine_447 ?_
        exact zR.zret rfl ⟨by decide, by decide⟩ dX12_bookLine_448 (by have he : L_X12_bookLine_287  to who wh ot f (n + 1) mo σ = (1, F_X12_put σ to wh who ot f mo) := (by rw [L_X12_bookLine_287, if_neg c289, if_neg c398]); rw [he]; exact ⟨rfl, rfl⟩)
      · refine zRx.aload_n 0 rfl rfl dX12_bookLine_401 ?_
        refine zRx.iconst ⟨by decide, by decide⟩ dX12_bookLine_402 ?_
        refine zRx.bipush ⟨by decide, by decide⟩ rfl dX12_bookLine_403 ?_
        refine zRx.cVi (w := .inl (V_X12_takes σ 0 99)) (M := m_X12_takes) (av := [.inl 0, .inl 99]) cv_12_276 mk_X12_takes (by decide) (b := 0) rfl rfl (Nat.le_of_ble_eq_true rfl) dX12_bookLine_405 (does_X12_takes σ 0 99 hI) ?_
        refine zRx.if_ne (tgt := 413) dX12_bookLine_408 (by decide) (fun c408 => ?_) (fun c408 => ?_)
        · refine zRx.aload_n 0 rfl rfl dX12_bookLine_413 ?_
          refine zRx.getIv (a := 0) (ji := 18) (v := (F_X12_takes σ 0 99) 0 18) rfl fl_12_258 rfl rfl rfl dX12_bookLine_414 ?_
          refine zRx.istore (ls' := [(0, zP 0), (1, .inl to), (2, .inl who), (3, .inl wh), (4, .inl ot), (5, .inl f), (6, .inl ((F_X12_takes σ 0 99) 0 18))]) rfl (by decide) dX12_bookLine_417 ?_
          refine zRx.aload_n 0 rfl rfl dX12_bookLine_419 ?_
          refine zRx.iload_n 1 rfl rfl dX12_bookLine_420 ?_
          refine zRx.iload_n 3 rfl rfl dX12_bookLine_421 ?_
          refine zRx.iload_n 2 rfl rfl dX12_bookLine_422 ?_
          refine zRx.iload 4 rfl dX12_bookLine_423 ?_
          refine zRx.iload 5 rfl dX12_bookLine_425 ?_
          refine zRx.iload 6 rfl dX12_bookLine_427 ?_
          refine zRx.cVv (M := m_X12_put) (av := [.inl to, .inl wh, .inl who, .inl ot, .inl f, .inl ((F_X12_takes σ 0 99) 0 18)]) cv_12_329 mk_X12_put (by decide) (b := 0) rfl rfl (Nat.le_of_ble_eq_true rfl) dX12_bookLine_429 (does_X12_put (F_X12_takes σ 0 99) to wh who ot f ((F_X12_takes σ 0 99) 0 18) (by omega)) ?_
          refine zRx.iload_n 3 rfl rfl dX12_bookLine_432 ?_
          refine zRx.iconst ⟨by decide, by decide⟩ dX12_bookLine_433 ?_
          refine zRx.icmp_ne (tgt := 447) dX12_bookLine_434 (by decide) (fun c434 => ?_) (fun c434 => absurd c434 c289)
          refine zRx.iconst ⟨by decide, by decide⟩ dX12_bookLine_447 ?_
          exact zR.zret rfl ⟨by decide, by decide⟩ dX12_bookLine_448 (by have he : L_X12_bookLine_287  to who wh ot f (n + 1) mo σ = (1, F_X12_put (F_X12_takes σ 0 99) to wh who ot f ((F_X12_takes σ 0 99) 0 18)) := (by rw [L_X12_bookLine_287, if_neg c289, if_pos c398, if_neg c408]); rw [he]; exact ⟨rfl, rfl⟩)
        · refine zRx.iconst ⟨by decide, by decide⟩ dX12_bookLine_411 ?_
          exact zR.zret rfl ⟨by decide, by decide⟩ dX12_bookLine_412 (by have he : L_X12_bookLine_287  to who wh ot f (n + 1) mo σ = (0, F_X12_takes σ 0 99) := (by rw [L_X12_bookLine_287, if_neg c289, if_pos c398, if_pos c408]); rw [he]; exact ⟨rfl, rfl⟩)
    · refine zRx.aload_n 0 rfl rfl dX12_bookLine_292 ?_
      refine zRx.ldc2 ⟨by decide, by decide⟩ kl_12_181 dX12_bookLine_293 ?_
      refine zRx.cVi (w := .inl (b2 (σ 0 11 = 1 ∧ σ 0 17 = 2003399784))) (M := m_X12_isWord) (av := [zJ 2003399784]) cv_12_279 mk_X12_isWord (by decide) (b := 0) rfl rfl (Nat.le_of_ble_eq_true rfl) dX12_bookLine_296 (isWord2 σ 2003399784 (σ 0 11) (σ 0 17) rfl rfl) ?_
      refine zRx.if_eqB (tgt := 396) dX12_bookLine_299 (by decide) (fun c299 => ?_) (fun c299 => ?_)
      · refine zRx.iload_n 3 rfl rfl dX12_bookLine_396 ?_
        refine zRx.iconst ⟨by decide, by decide⟩ dX12_bookLine_397 ?_
        refine zRx.icmp_ne (tgt := 419) dX12_bookLine_398 (by decide) (fun c398 => ?_) (fun c398 => ?_)
        · refine zRx.aload_n 0 rfl rfl dX12_bookLine_419 ?_
          refine zRx.iload_n 1 rfl rfl dX12_bookLine_420 ?_
          refine zRx.iload_n 3 rfl rfl dX12_bookLine_421 ?_
          refine zRx.iload_n 2 rfl rfl dX12_bookLine_422 ?_
          refine zRx.iload 4 rfl dX12_bookLine_423 ?_
          refine zRx.iload 5 rfl dX12_bookLine_425 ?_
          refine zRx.iload 6 rfl dX12_bookLine_427 ?_
          refine zRx.cVv (M := m_X12_put) (av := [.inl to, .inl wh, .inl who, .inl ot, .inl f, .inl mo]) cv_12_329 mk_X12_put (by decide) (b := 0) rfl rfl (Nat.le_of_ble_eq_true rfl) dX12_bookLine_429 (does_X12_put σ to wh who ot f mo (by omega)) ?_
          refine zRx.iload_n 3 rfl rfl dX12_bookLine_432 ?_
          refine zRx.iconst ⟨by decide, by decide⟩ dX12_bookLine_433 ?_
          refine zRx.icmp_ne (tgt := 447) dX12_bookLine_434 (by decide) (fun c434 => absurd c289 c434) (fun c434 => ?_)
          have hm2 := many_r0 (σ := F_X12_put σ to wh who ot f mo) (x := mo) (by omega) (by omega)
          refine zRx.aload_n 0 rfl rfl dX12_bookLine_437 ?_
          refine zRx.iload_n 1 rfl rfl dX12_bookLine_438 ?_
          refine zRx.iload 6 rfl dX12_bookLine_439 ?_
          refine zRx.cSi (w := .inl (R_X12_many (F_X12_put σ to wh who ot f mo) mo)) (M := m_X12_many) (av := [.inl mo]) cs_12_333 mk_X12_many (by decide) rfl (Nat.le_of_ble_eq_true rfl) dX12_bookLine_441 (does_X12_many (F_X12_put σ to wh who ot f mo) mo SM (by omega)) ?_
          refine zRx.cVv (M := m_X12_withOrder) (av := [.inl to, .inl (R_X12_many (F_X12_put σ to wh who ot f mo) mo)]) cv_12_337 mk_X12_withOrder (by decide) (b := 0) rfl rfl (Nat.le_of_ble_eq_true rfl) dX12_bookLine_444 (does_X12_withOrder (F_X12_put σ to wh who ot f mo) to (R_X12_many (F_X12_put σ to wh who ot f mo) mo) (by omega) (by omega)) ?_
          refine zRx.iconst ⟨by decide, by decide⟩ dX12_bookLine_447 ?_
          exact zR.zret rfl ⟨by decide, by decide⟩ dX12_bookLine_448 (by have he : L_X12_bookLine_287  to who wh ot f (n + 1) mo σ = (1, R_X12_withOrder (F_X12_put σ to wh who ot f mo) to (R_X12_many (F_X12_put σ to wh who ot f mo) mo)) := (by rw [L_X12_bookLine_287, if_pos c289, if_neg c299, if_neg c398]); rw [he]; exact ⟨rfl, rfl⟩)
        · refine zRx.aload_n 0 rfl rfl dX12_bookLine_401 ?_
          refine zRx.iconst ⟨by decide, by decide⟩ dX12_bookLine_402 ?_
          refine zRx.bipush ⟨by decide, by decide⟩ rfl dX12_bookLine_403 ?_
          refine zRx.cVi (w := .inl (V_X12_takes σ 0 99)) (M := m_X12_takes) (av := [.inl 0, .inl 99]) cv_12_276 mk_X12_takes (by decide) (b := 0) rfl rfl (Nat.le_of_ble_eq_true rfl) dX12_bookLine_405 (does_X12_takes σ 0 99 hI) ?_
          refine zRx.if_ne (tgt := 413) dX12_bookLine_408 (by decide) (fun c408 => ?_) (fun c408 => ?_)
          · refine zRx.aload_n 0 rfl rfl dX12_bookLine_413 ?_
            refine zRx.getIv (a := 0) (ji := 18) (v := (F_X12_takes σ 0 99) 0 18) rfl fl_12_258 rfl rfl rfl dX12_bookLine_414 ?_
            refine zRx.istore (ls' := [(0, zP 0), (1, .inl to), (2, .inl who), (3, .inl wh), (4, .inl ot), (5, .inl f), (6, .inl ((F_X12_takes σ 0 99) 0 18))]) rfl (by decide) dX12_bookLine_417 ?_
            refine zRx.aload_n 0 rfl rfl dX12_bookLine_419 ?_
            refine zRx.iload_n 1 rfl rfl dX12_bookLine_420 ?_
            refine zRx.iload_n 3 rfl rfl dX12_bookLine_421 ?_
            refine zRx.iload_n 2 rfl rfl dX12_bookLine_422 ?_
            refine zRx.iload 4 rfl dX12_bookLine_423 ?_
            refine zRx.iload 5 rfl dX12_bookLine_425 ?_
            refine zRx.iload 6 rfl dX12_bookLine_427 ?_
            refine zRx.cVv (M := m_X12_put) (av := [.inl to, .inl wh, .inl who, .inl ot, .inl f, .inl ((F_X12_takes σ 0 99) 0 18)]) cv_12_329 mk_X12_put (by decide) (b := 0) rfl rfl (Nat.le_of_ble_eq_true rfl) dX12_bookLine_429 (does_X12_put (F_X12_takes σ 0 99) to wh who ot f ((F_X12_takes σ 0 99) 0 18) (by omega)) ?_
            refine zRx.iload_n 3 rfl rfl dX12_bookLine_432 ?_
            refine zRx.iconst ⟨by decide, by decide⟩ dX12_bookLine_433 ?_
            refine zRx.icmp_ne (tgt := 447) dX12_bookLine_434 (by decide) (fun c434 => absurd c289 c434) (fun c434 => ?_)
            have hm2 := many_r0 (σ := F_X12_put (F_X12_takes σ 0 99) to wh who ot f ((F_X12_takes σ 0 99) 0 18)) (x := (F_X12_takes σ 0 99) 0 18) (by omega) (by omega)
            refine zRx.aload_n 0 rfl rfl dX12_bookLine_437 ?_
            refine zRx.iload_n 1 rfl rfl dX12_bookLine_438 ?_
            refine zRx.iload 6 rfl dX12_bookLine_439 ?_
            refine zRx.cSi (w := .inl (R_X12_many (F_X12_put (F_X12_takes σ 0 99) to wh who ot f ((F_X12_takes σ 0 99) 0 18)) ((F_X12_takes σ 0 99) 0 18))) (M := m_X12_many) (av := [.inl ((F_X12_takes σ 0 99) 0 18)]) cs_12_333 mk_X12_many (by decide) rfl (Nat.le_of_ble_eq_true rfl) dX12_bookLine_441 (does_X12_many (F_X12_put (F_X12_takes σ 0 99) to wh who ot f ((F_X12_takes σ 0 99) 0 18)) ((F_X12_takes σ 0 99) 0 18) SM (by omega)) ?_
            refine zRx.cVv (M := m_X12_withOrder) (av := [.inl to, .inl (R_X12_many (F_X12_put (F_X12_takes σ 0 99) to wh who ot f ((F_X12_takes σ 0 99) 0 18)) ((F_X12_takes σ 0 99) 0 18))]) cv_12_337 mk_X12_withOrder (by decide) (b := 0) rfl rfl (Nat.le_of_ble_eq_true rfl) dX12_bookLine_444 (does_X12_withOrder (F_X12_put (F_X12_takes σ 0 99) to wh who ot f ((F_X12_takes σ 0 99) 0 18)) to (R_X12_many (F_X12_put (F_X12_takes σ 0 99) to wh who ot f ((F_X12_takes σ 0 99) 0 18)) ((F_X12_takes σ 0 99) 0 18)) (by omega) (by omega)) ?_
            refine zRx.iconst ⟨by decide, by decide⟩ dX12_bookLine_447 ?_
            exact zR.zret rfl ⟨by decide, by decide⟩ dX12_bookLine_448 (by have he : L_X12_bookLine_287  to who wh ot f (n + 1) mo σ = (1, R_X12_withOrder (F_X12_put (F_X12_takes σ 0 99) to wh who ot f ((F_X12_takes σ 0 99) 0 18)) to (R_X12_many (F_X12_put (F_X12_takes σ 0 99) to wh who ot f ((F_X12_takes σ 0 99) 0 18)) ((F_X12_takes σ 0 99) 0 18))) := (by rw [L_X12_bookLine_287, if_pos c289, if_neg c299, if_pos c398, if_neg c408]); rw [he]; exact ⟨rfl, rfl⟩)
          · refine zRx.iconst ⟨by decide, by decide⟩ dX12_bookLine_411 ?_
            exact zR.zret rfl ⟨by decide, by decide⟩ dX12_bookLine_412 (by have he : L_X12_bookLine_287  to who wh ot f (n + 1) mo σ = (0, F_X12_takes σ 0 99) := (by rw [L_X12_bookLine_287, if_pos c289, if_neg c299, if_pos c398, if_pos c408]); rw [he]; exact ⟨rfl, rfl⟩)
      · refine zRx.aload_n 0 rfl rfl dX12_bookLine_302 ?_
        refine zRx.cVv (M := m_X12_next) (av := []) cv_12_251 mk_X12_next (by decide) (b := 0) rfl rfl (Nat.le_of_ble_eq_true rfl) dX12_bookLine_303 (does_next2 σ hI) ?_
        refine zRx.aload_n 0 rfl rfl dX12_bookLine_306 ?_
        refine zRx.cVi (w := .inl (R_X12_isName (F_X12_next σ))) (M := m_X12_isName) (av := []) cv_12_261 mk_X12_isName (by decide) (b := 0) rfl rfl (Nat.le_of_ble_eq_true rfl) dX12_bookLine_307 (does_X12_isName (F_X12_next σ)) ?_
        refine zRx.if_ne (tgt := 319) dX12_bookLine_310 (by decide) (fun c310 => ?_) (fun c310 => ?_)
        · refine zRx.aload_n 0 rfl rfl dX12_bookLine_319 ?_
          refine zRx.iconst ⟨by decide, by decide⟩ dX12_bookLine_320 ?_
          refine zRx.aload_n 0 rfl rfl dX12_bookLine_321 ?_
          refine zRx.getR (a := 0) (b := 2) fl_12_33 rfl rfl dX12_bookLine_322 ?_
          refine zRx.iconst ⟨by decide, by decide⟩ dX12_bookLine_325 ?_
          refine zRx.ialdv (v := σ 2 0) (congrFun (fr_F_X12_next σ (k := 2) (by decide)) _) rfl (by decide) (by decide) dX12_bookLine_326 ?_
          refine zRx.cVi (w := .inl (R_X12_find (F_X12_next σ) 0 (σ 2 0))) (M := m_X12_find) (av := [.inl 0, .inl (σ 2 0)]) cv_12_265 mk_X12_find (by decide) (b := 0) rfl rfl (Nat.le_of_ble_eq_true rfl) dX12_bookLine_327 (does_X12_find (F_X12_next σ) 0 (σ 2 0) (by omega)) ?_
          refine zRx.istore (ls' := [(0, zP 0), (1, .inl to), (2, .inl who), (3, .inl wh), (4, .inl ot), (5, .inl f), (6, .inl mo), (7, .inl (R_X12_find (F_X12_next σ) 0 (σ 2 0)))]) rfl (by decide) dX12_bookLine_330 ?_
          have hz := find_r (F_X12_next σ) 0 (σ 2 0) (by omega)
          refine zRx.iload 7 rfl dX12_bookLine_332 ?_
          refine zRx.if_lt (tgt := 360) dX12_bookLine_334 (by decide) (fun c334 => ?_) (fun c334 => ?_)
          · refine zRx.aload_n 0 rfl rfl dX12_bookLine_360 ?_
            refine zRx.iconst ⟨by decide, by decide⟩ dX12_bookLine_361 ?_
            refine zRx.cVi (w := .inl 0) (M := m_X12_bad) (av := [.inl 3]) cv_12_248 mk_X12_bad (by decide) (b := 0) rfl rfl (Nat.le_of_ble_eq_true rfl) dX12_bookLine_362 (bad_eq2 (F_X12_next σ) 3 ((F_X12_next σ) 0 12) rfl) ?_
            exact zR.zret rfl ⟨by decide, by decide⟩ dX12_bookLine_365 (by have he : L_X12_bookLine_287  to who wh ot f (n + 1) mo σ = (0, zu (zu (F_X12_next σ) 0 15 3) 0 16 ((F_X12_next σ) 0 12)) := (by rw [L_X12_bookLine_287, if_pos c289, if_pos c299, if_neg c310, if_pos c334]); rw [he]; exact ⟨rfl, rfl⟩)
          · refine zRx.iload 7 rfl dX12_bookLine_337 ?_
            refine zRx.iload_n 2 rfl rfl dX12_bookLine_339 ?_
            refine zRx.icmp_eq (tgt := 360) dX12_bookLine_340 (by decide) (fun c340 => ?_) (fun c340 => ?_)
            · refine zRx.aload_n 0 rfl rfl dX12_bookLine_360 ?_
              refine zRx.iconst ⟨by decide, by decide⟩ dX12_bookLine_361 ?_
              refine zRx.cVi (w := .inl 0) (M := m_X12_bad) (av := [.inl 3]) cv_12_248 mk_X12_bad (by decide) (b := 0) rfl rfl (Nat.le_of_ble_eq_true rfl) dX12_bookLine_362 (bad_eq2 (F_X12_next σ) 3 ((F_X12_next σ) 0 12) rfl) ?_
              exact zR.zret rfl ⟨by decide, by decide⟩ dX12_bookLine_365 (by have he : L_X12_bookLine_287  to who wh ot f (n + 1) mo σ = (0, zu (zu (F_X12_next σ) 0 15 3) 0 16 ((F_X12_next σ) 0 12)) := (by rw [L_X12_bookLine_287, if_pos c289, if_pos c299, if_neg c310, if_neg (Int.not_lt.mpr c334), if_pos c340]); rw [he]; exact ⟨rfl, rfl⟩)
            · refine zRx.iload 7 rfl dX12_bookLine_343 ?_
              refine zRx.iload 4 rfl dX12_bookLine_345 ?_
              refine zRx.icmp_eq (tgt := 360) dX12_bookLine_347 (by decide) (fun c347 => ?_) (fun c347 => ?_)
              · refine zRx.aload_n 0 rfl rfl dX12_bookLine_360 ?_
                refine zRx.iconst ⟨by decide, by decide⟩ dX12_bookLine_361 ?_
                refine zRx.cVi (w := .inl 0) (M := m_X12_bad) (av := [.inl 3]) cv_12_248 mk_X12_bad (by decide) (b := 0) rfl rfl (Nat.le_of_ble_eq_true rfl) dX12_bookLine_362 (bad_eq2 (F_X12_next σ) 3 ((F_X12_next σ) 0 12) rfl) ?_
                exact zR.zret rfl ⟨by decide, by decide⟩ dX12_bookLine_365 (by have he : L_X12_bookLine_287  to who wh ot f (n + 1) mo σ = (0, zu (zu (F_X12_next σ) 0 15 3) 0 16 ((F_X12_next σ) 0 12)) := (by rw [L_X12_bookLine_287, if_pos c289, if_pos c299, if_neg c310, if_neg (Int.not_lt.mpr c334), if_neg c340, if_pos c347]); rw [he]; exact ⟨rfl, rfl⟩)
              · refine zRx.iload 6 rfl dX12_bookLine_350 ?_
                refine zRx.iload 7 rfl dX12_bookLine_352 ?_
                refine zRx.cSi (w := .inl (b2 (hb mo (R_X12_find (F_X12_next σ) 0 (σ 2 0))))) (M := m_X12_has) (av := [.inl mo, .inl (R_X12_find (F_X12_next σ) 0 (σ 2 0))]) cs_12_272 mk_X12_has (by decide) rfl (Nat.le_of_ble_eq_true rfl) dX12_bookLine_354 (does_X12_has mo (R_X12_find (F_X12_next σ) 0 (σ 2 0)) SM (F_X12_next σ)) ?_
                refine zRx.if_eqB (tgt := 366) dX12_bookLine_357 (by decide) (fun c357 => ?_) (fun c357 => ?_)
                · have hb1 := bor_bit (m := mo) (a := (R_X12_find (F_X12_next σ) 0 (σ 2 0))) (by omega) (by omega) (by omega) (by omega)
                  have hm1 := many_r (σ := F_X12_next σ) hb1.1 hb1.2
                  refine zRx.iload 6 rfl dX12_bookLine_366 ?_
                  refine zRx.iconst ⟨by decide, by decide⟩ dX12_bookLine_368 ?_
                  refine zRx.iload 7 rfl dX12_bookLine_369 ?_
                  refine zRx.ishl dX12_bookLine_371 ?_
                  refine zRx.ior dX12_bookLine_372 ?_
                  refine zRx.istore (ls' := [(0, zP 0), (1, .inl to), (2, .inl who), (3, .inl wh), (4, .inl ot), (5, .inl f), (6, .inl (bor mo (bshl 1 (R_X12_find (F_X12_next σ) 0 (σ 2 0))))), (7, .inl (R_X12_find (F_X12_next σ) 0 (σ 2 0)))]) rfl (by decide) dX12_bookLine_373 ?_
                  refine zRx.aload_n 0 rfl rfl dX12_bookLine_375 ?_
                  refine zRx.getR (a := 0) (b := 7) fl_12_50 rfl rfl dX12_bookLine_376 ?_
                  refine zRx.iload 6 rfl dX12_bookLine_379 ?_
                  refine zRx.cSi (w := .inl (R_X12_many (F_X12_next σ) (bor mo (bshl 1 (R_X12_find (F_X12_next σ) 0 (σ 2 0)))))) (M := m_X12_many) (av := [.inl (bor mo (bshl 1 (R_X12_find (F_X12_next σ) 0 (σ 2 0))))]) cs_12_333 mk_X12_many (by decide) rfl (Nat.le_of_ble_eq_true rfl) dX12_bookLine_381 (does_X12_many (F_X12_next σ) (bor mo (bshl 1 (R_X12_find (F_X12_next σ) 0 (σ 2 0)))) SM (by omega)) ?_
                  refine zRx.iconst ⟨by decide, by decide⟩ dX12_bookLine_384 ?_
                  refine zRx.isub ⟨by omega, by omega⟩ dX12_bookLine_385 ?_
                  refine zRx.iload 7 rfl dX12_bookLine_386 ?_
                  refine zRx.iast rfl (by omega) (by omega) dX12_bookLine_388 ?_
                  refine zRx.aload_n 0 rfl rfl dX12_bookLine_389 ?_
                  refine zRx.cVv (M := m_X12_next) (av := []) cv_12_251 mk_X12_next (by decide) (b := 0) rfl rfl (Nat.le_of_ble_eq_true rfl) dX12_bookLine_390 (does_next2 (zu (F_X12_next σ) 7 ((R_X12_many (F_X12_next σ) (bor mo (bshl 1 (R_X12_find (F_X12_next σ) 0 (σ 2 0))))) - 1) (R_X12_find (F_X12_next σ) 0 (σ 2 0))) (PI_zu (fun h => absurd h.1 (by decide)) (PI_F_X12_next hI))) ?_
                  refine zRx.goto (tgt := 287) dX12_bookLine_393 (by decide) ?_
                  refine zRx.pick [0, 1, 2, 3, 4, 5, 6] (ls' := [(0, zP 0), (1, .inl to), (2, .inl who), (3, .inl wh), (4, .inl ot), (5, .inl f), (6, .inl (bor mo (bshl 1 (R_X12_find (F_X12_next σ) 0 (σ 2 0)))))]) rfl ?_
                  have he : L_X12_bookLine_287  to who wh ot f (n + 1) mo σ = L_X12_bookLine_287  to who wh ot f n (bor mo (bshl 1 (R_X12_find (F_X12_next σ) 0 (σ 2 0)))) (F_X12_next (zu (F_X12_next σ) 7 ((R_X12_many (F_X12_next σ) (bor mo (bshl 1 (R_X12_find (F_X12_next σ) 0 (σ 2 0))))) - 1) (R_X12_find (F_X12_next σ) 0 (σ 2 0)))) := by rw [L_X12_bookLine_287, if_pos c289, if_pos c299, if_neg c310, if_neg (Int.not_lt.mpr c334), if_neg c340, if_neg c347, if_neg c357]
                  rw [he]
                  exact ih (bor mo (bshl 1 (R_X12_find (F_X12_next σ) 0 (σ 2 0)))) (F_X12_next (zu (F_X12_next σ) 7 ((R_X12_many (F_X12_next σ) (bor mo (bshl 1 (R_X12_find (F_X12_next σ) 0 (σ 2 0))))) - 1) (R_X12_find (F_X12_next σ) 0 (σ 2 0)))) (PI_F_X12_next (PI_zu (fun h => absurd h.1 (by decide)) (PI_F_X12_next hI))) (by have e9 : (F_X12_next (zu (F_X12_next σ) 7 ((R_X12_many (F_X12_next σ) (bor mo (bshl 1 (R_X12_find (F_X12_next σ) 0 (σ 2 0))))) - 1) (R_X12_find (F_X12_next σ) 0 (σ 2 0)))) 2 0 = σ 2 0 := ((congrFun (fr_F_X12_next (zu (F_X12_next σ) 7 ((R_X12_many (F_X12_next σ) (bor mo (bshl 1 (R_X12_find (F_X12_next σ) 0 (σ 2 0))))) - 1) (R_X12_find (F_X12_next σ) 0 (σ 2 0))) (k := 2) (by decide)) _).trans ((zu_ne _ _ _ _ (by decide)).trans (congrFun (fr_F_X12_next σ (k := 2) (by decide)) _))); omega) (by have e9 : (F_X12_next (zu (F_X12_next σ) 7 ((R_X12_many (F_X12_next σ) (bor mo (bshl 1 (R_X12_find (F_X12_next σ) 0 (σ 2 0))))) - 1) (R_X12_find (F_X12_next σ) 0 (σ 2 0)))) 2 1 = σ 2 1 := ((congrFun (fr_F_X12_next (zu (F_X12_next σ) 7 ((R_X12_many (F_X12_next σ) (bor mo (bshl 1 (R_X12_find (F_X12_next σ) 0 (σ 2 0))))) - 1) (R_X12_find (F_X12_next σ) 0 (σ 2 0))) (k := 2) (by decide)) _).trans ((zu_ne _ _ _ _ (by decide)).trans (congrFun (fr_F_X12_next σ (k := 2) (by decide)) _))); omega) (by omega) (by have h9 := with_step (σ := σ) (i := 7) (j := R_X12_many (F_X12_next σ) (bor mo (bshl 1 (R_X12_find (F_X12_next σ) 0 (σ 2 0)))) - 1) (x := R_X12_find (F_X12_next σ) 0 (σ 2 0)) (by decide) c310; have h8 := hI.2.1; have h7 : PI (F_X12_next (zu (F_X12_next σ) 7 ((R_X12_many (F_X12_next σ) (bor mo (bshl 1 (R_X12_find (F_X12_next σ) 0 (σ 2 0))))) - 1) (R_X12_find (F_X12_next σ) 0 (σ 2 0)))) := (PI_F_X12_next (PI_zu (fun h => absurd h.1 (by decide)) (PI_F_X12_next hI))); have h6 := h7.2.1; omega)
                · refine zRx.aload_n 0 rfl rfl dX12_bookLine_360 ?_
                  refine zRx.iconst ⟨by decide, by decide⟩ dX12_bookLine_361 ?_
                  refine zRx.cVi (w := .inl 0) (M := m_X12_bad) (av := [.inl 3]) cv_12_248 mk_X12_bad (by decide) (b := 0) rfl rfl (Nat.le_of_ble_eq_true rfl) dX12_bookLine_362 (bad_eq2 (F_X12_next σ) 3 ((F_X12_next σ) 0 12) rfl) ?_
                  exact zR.zret rfl ⟨by decide, by decide⟩ dX12_bookLine_365 (by have he : L_X12_bookLine_287  to who wh ot f (n + 1) mo σ = (0, zu (zu (F_X12_next σ) 0 15 3) 0 16 ((F_X12_next σ) 0 12)) := (by rw [L_X12_bookLine_287, if_pos c289, if_pos c299, if_neg c310, if_neg (Int.not_lt.mpr c334), if_neg c340, if_neg c347, if_pos c357]); rw [he]; exact ⟨rfl, rfl⟩)
        · refine zRx.aload_n 0 rfl rfl dX12_bookLine_313 ?_
          refine zRx.iconst ⟨by decide, by decide⟩ dX12_bookLine_314 ?_
          refine zRx.cVi (w := .inl 0) (M := m_X12_bad) (av := [.inl 1]) cv_12_248 mk_X12_bad (by decide) (b := 0) rfl rfl (Nat.le_of_ble_eq_true rfl) dX12_bookLine_315 (bad_eq2 (F_X12_next σ) 1 ((F_X12_next σ) 0 12) rfl) ?_
          exact zR.zret rfl ⟨by decide, by decide⟩ dX12_bookLine_318 (by have he : L_X12_bookLine_287  to who wh ot f (n + 1) mo σ = (0, zu (zu (F_X12_next σ) 0 15 1) 0 16 ((F_X12_next σ) 0 12)) := (by rw [L_X12_bookLine_287, if_pos c289, if_pos c299, if_pos c310]); rw [he]; exact ⟨rfl, rfl⟩)
def L_X12_bookLine_200  (to who wh : Int) : Nat → zG → Int × zG
  | 0, σ => (0, σ)
  | n + 1, σ => if 0 ≤ wh then (if (R_X12_isName (F_X12_next σ)) = 0 then (0, zu (zu (F_X12_next σ) 0 15 1) 0 16 ((F_X12_next σ) 0 12)) else (if (R_X12_find (F_X12_next σ) 0 (σ 2 0)) < 0 then (0, zu (zu (F_X12_next σ) 0 15 3) 0 16 ((F_X12_next σ) 0 12)) else (if (R_X12_find (F_X12_next σ) 0 (σ 2 0)) = who then (0, zu (zu (F_X12_next σ) 0 15 3) 0 16 ((F_X12_next σ) 0 12)) else (if (V_X12_takesName (F_X12_next (F_X12_next σ)) 8 (σ 2 1)) = 0 then (0, F_X12_takesName (F_X12_next (F_X12_next σ)) 8 (σ 2 1)) else (L_X12_bookLine_287  to who wh (R_X12_find (F_X12_next σ) 0 (σ 2 0)) ((F_X12_takesName (F_X12_next (F_X12_next σ)) 8 (σ 2 1)) 0 18) 1000 0 (F_X12_takesName (F_X12_next (F_X12_next σ)) 8 (σ 2 1))))))) else (0, zu (zu σ 0 15 1) 0 16 (σ 0 12))
theorem fr_L_X12_bookLine_200  (to who wh : Int)  (n : Nat) (σ : zG) {k : Nat} (h : k ∉ [0, 4, 7, 8]) : (L_X12_bookLine_200  to who wh n  σ).2 k = σ k := by
  induction n generalizing  σ with
  | zero => rfl
  | succ n ih =>
    have ne : ∀ c ∈ [0, 4, 7, 8], k ≠ c := fun c hc e => h (e ▸ hc)
    have nk_F_X12_next : k ∉ [0] := fun hm => h (by first | (revert hm; simp only [List.mem_cons, List.not_mem_nil, or_false]; omega) | (simp at hm))
    have nk_F_X12_takesName : k ∉ [0] := fun hm => h (by first | (revert hm; simp only [List.mem_cons, List.not_mem_nil, or_false]; omega) | (simp at hm))
    have nl_L_X12_bookLine_287 : k ∉ [0, 4, 7, 8] := fun hm => h (by first | (revert hm; simp only [List.mem_cons, List.not_mem_nil, or_false]; omega) | (simp at hm))
    rw [L_X12_bookLine_200]
    repeat' split
    all_goals first | rfl | simp only [zu_row _ _ _ (ne 0 (by decide)), zu_row _ _ _ (ne 4 (by decide)), zu_row _ _ _ (ne 7 (by decide)), zu_row _ _ _ (ne 8 (by decide)), fr_F_X12_next (h := nk_F_X12_next), fr_F_X12_takesName (h := nk_F_X12_takesName), fr_L_X12_bookLine_287 (h := nl_L_X12_bookLine_287), ih]

set_option maxRecDepth 20000 in
theorem loop_X12_bookLine_200   (to who wh : Int) : ∀ (n : Nat) (σ : zG), PI σ → 0 ≤ σ 2 0 ∧ σ 2 0 ≤ 8 → 0 ≤ σ 2 1 ∧ σ 2 1 ≤ 12 → 0 ≤ to ∧ to + 4 < 300 → 0 < n → zR SM 3 m_X12_bookLine 200 [(0, zP 0), (1, .inl to), (2, .inl who), (3, .inl wh)] [] σ (zEq (some (.inl (L_X12_bookLine_200  to who wh n  σ).1)) (L_X12_bookLine_200  to who wh n  σ).2) := by
  intro n
  induction n with
  | zero => intro  σ hI hp hF h5 hmz; exact absurd hmz (Nat.not_lt_zero _)
  | succ n ih =>
    intro  σ hI hp hF h5 hmz
    refine zRx.iload_n 3 rfl rfl dX12_bookLine_200 ?_
    refine zRx.if_ge (tgt := 210) dX12_bookLine_201 (by decide) (fun c201 => ?_) (fun c201 => ?_)
    · refine zRx.aload_n 0 rfl rfl dX12_bookLine_210 ?_
      refine zRx.cVv (M := m_X12_next) (av := []) cv_12_251 mk_X12_next (by decide) (b := 0) rfl rfl (Nat.le_of_ble_eq_true rfl) dX12_bookLine_211 (does_next2 σ hI) ?_
      refine zRx.aload_n 0 rfl rfl dX12_bookLine_214 ?_
      refine zRx.cVi (w := .inl (R_X12_isName (F_X12_next σ))) (M := m_X12_isName) (av := []) cv_12_261 mk_X12_isName (by decide) (b := 0) rfl rfl (Nat.le_of_ble_eq_true rfl) dX12_bookLine_215 (does_X12_isName (F_X12_next σ)) ?_
      refine zRx.if_ne (tgt := 227) dX12_bookLine_218 (by decide) (fun c218 => ?_) (fun c218 => ?_)
      · refine zRx.aload_n 0 rfl rfl dX12_bookLine_227 ?_
        refine zRx.iconst ⟨by decide, by decide⟩ dX12_bookLine_228 ?_
        refine zRx.aload_n 0 rfl rfl dX12_bookLine_229 ?_
        refine zRx.getR (a := 0) (b := 2) fl_12_33 rfl rfl dX12_bookLine_230 ?_
        refine zRx.iconst ⟨by decide, by decide⟩ dX12_bookLine_233 ?_
        refine zRx.ialdv (v := σ 2 0) (congrFun (fr_F_X12_next σ (k := 2) (by decide)) _) rfl (by decide) (by decide) dX12_bookLine_234 ?_
        refine zRx.cVi (w := .inl (R_X12_find (F_X12_next σ) 0 (σ 2 0))) (M := m_X12_find) (av := [.inl 0, .inl (σ 2 0)]) cv_12_265 mk_X12_find (by decide) (b := 0) rfl rfl (Nat.le_of_ble_eq_true rfl) dX12_bookLine_235 (does_X12_find (F_X12_next σ) 0 (σ 2 0) (by omega)) ?_
        refine zRx.istore (ls' := [(0, zP 0), (1, .inl to), (2, .inl who), (3, .inl wh), (4, .inl (R_X12_find (F_X12_next σ) 0 (σ 2 0)))]) rfl (by decide) dX12_bookLine_238 ?_
        refine zRx.iload 4 rfl dX12_bookLine_240 ?_
        refine zRx.if_lt (tgt := 251) dX12_bookLine_242 (by decide) (fun c242 => ?_) (fun c242 => ?_)
        · refine zRx.aload_n 0 rfl rfl dX12_bookLine_251 ?_
          refine zRx.iconst ⟨by decide, by decide⟩ dX12_bookLine_252 ?_
          refine zRx.cVi (w := .inl 0) (M := m_X12_bad) (av := [.inl 3]) cv_12_248 mk_X12_bad (by decide) (b := 0) rfl rfl (Nat.le_of_ble_eq_true rfl) dX12_bookLine_253 (bad_eq2 (F_X12_next σ) 3 ((F_X12_next σ) 0 12) rfl) ?_
          exact zR.zret rfl ⟨by decide, by decide⟩ dX12_bookLine_256 (by have he : L_X12_bookLine_200  to who wh (n + 1)  σ = (0, zu (zu (F_X12_next σ) 0 15 3) 0 16 ((F_X12_next σ) 0 12)) := (by rw [L_X12_bookLine_200, if_pos c201, if_neg c218, if_pos c242]); rw [he]; exact ⟨rfl, rfl⟩)
        · refine zRx.iload 4 rfl dX12_bookLine_245 ?_
          refine zRx.iload_n 2 rfl rfl dX12_bookLine_247 ?_
          refine zRx.icmp_ne (tgt := 257) dX12_bookLine_248 (by decide) (fun c248 => ?_) (fun c248 => ?_)
          · refine zRx.aload_n 0 rfl rfl dX12_bookLine_257 ?_
            refine zRx.cVv (M := m_X12_next) (av := []) cv_12_251 mk_X12_next (by decide) (b := 0) rfl rfl (Nat.le_of_ble_eq_true rfl) dX12_bookLine_258 (does_next2 (F_X12_next σ) (PI_F_X12_next hI)) ?_
            refine zRx.aload_n 0 rfl rfl dX12_bookLine_261 ?_
            refine zRx.bipush ⟨by decide, by decide⟩ rfl dX12_bookLine_262 ?_
            refine zRx.aload_n 0 rfl rfl dX12_bookLine_264 ?_
            refine zRx.getR (a := 0) (b := 2) fl_12_33 rfl rfl dX12_bookLine_265 ?_
            refine zRx.iconst ⟨by decide, by decide⟩ dX12_bookLine_268 ?_
            refine zRx.ialdv (v := σ 2 1) ((congrFun (fr_F_X12_next (F_X12_next σ) (k := 2) (by decide)) _).trans (congrFun (fr_F_X12_next σ (k := 2) (by decide)) _)) rfl (by decide) (by decide) dX12_bookLine_269 ?_
            refine zRx.cVi (w := .inl (V_X12_takesName (F_X12_next (F_X12_next σ)) 8 (σ 2 1))) (M := m_X12_takesName) (av := [.inl 8, .inl (σ 2 1)]) cv_12_301 mk_X12_takesName (by decide) (b := 0) rfl rfl (Nat.le_of_ble_eq_true rfl) dX12_bookLine_270 (does_X12_takesName (F_X12_next (F_X12_next σ)) 8 (σ 2 1) (PI_F_X12_next (PI_F_X12_next hI)) (by omega)) ?_
            refine zRx.if_ne (tgt := 278) dX12_bookLine_273 (by decide) (fun c273 => ?_) (fun c273 => ?_)
            · refine zRx.aload_n 0 rfl rfl dX12_bookLine_278 ?_
              refine zRx.getIv (a := 0) (ji := 18) (v := (F_X12_takesName (F_X12_next (F_X12_next σ)) 8 (σ 2 1)) 0 18) rfl fl_12_258 rfl rfl rfl dX12_bookLine_279 ?_
              refine zRx.istore (ls' := [(0, zP 0), (1, .inl to), (2, .inl who), (3, .inl wh), (4, .inl (R_X12_find (F_X12_next σ) 0 (σ 2 0))), (5, .inl ((F_X12_takesName (F_X12_next (F_X12_next σ)) 8 (σ 2 1)) 0 18))]) rfl (by decide) dX12_bookLine_282 ?_
              refine zRx.iconst ⟨by decide, by decide⟩ dX12_bookLine_284 ?_
              refine zRx.istore (ls' := [(0, zP 0), (1, .inl to), (2, .inl who), (3, .inl wh), (4, .inl (R_X12_find (F_X12_next σ) 0 (σ 2 0))), (5, .inl ((F_X12_takesName (F_X12_next (F_X12_next σ)) 8 (σ 2 1)) 0 18)), (6, .inl 0)]) rfl (by decide) dX12_bookLine_285 ?_
              have he : L_X12_bookLine_200  to who wh (n + 1)  σ = L_X12_bookLine_287  to who wh (R_X12_find (F_X12_next σ) 0 (σ 2 0)) ((F_X12_takesName (F_X12_next (F_X12_next σ)) 8 (σ 2 1)) 0 18) 1000 0 (F_X12_takesName (F_X12_next (F_X12_next σ)) 8 (σ 2 1)) := by rw [L_X12_bookLine_200, if_pos c201, if_neg c218, if_neg (Int.not_lt.mpr c242), if_neg c248, if_neg c273]
              rw [he]
              exact loop_X12_bookLine_287   to who wh (R_X12_find (F_X12_next σ) 0 (σ 2 0)) ((F_X12_takesName (F_X12_next (F_X12_next σ)) 8 (σ 2 1)) 0 18) 1000 0 (F_X12_takesName (F_X12_next (F_X12_next σ)) 8 (σ 2 1)) (PI_F_X12_takesName (PI_F_X12_next (PI_F_X12_next hI))) (by have e9 : (F_X12_takesName (F_X12_next (F_X12_next σ)) 8 (σ 2 1)) 2 0 = σ 2 0 := ((congrFun (fr_F_X12_takesName (F_X12_next (F_X12_next σ)) 8 (σ 2 1) (k := 2) (by decide)) _).trans ((congrFun (fr_F_X12_next (F_X12_next σ) (k := 2) (by decide)) _).trans (congrFun (fr_F_X12_next σ (k := 2) (by decide)) _))); omega) (by have e9 : (F_X12_takesName (F_X12_next (F_X12_next σ)) 8 (σ 2 1)) 2 1 = σ 2 1 := ((congrFun (fr_F_X12_takesName (F_X12_next (F_X12_next σ)) 8 (σ 2 1) (k := 2) (by decide)) _).trans ((congrFun (fr_F_X12_next (F_X12_next σ) (k := 2) (by decide)) _).trans (congrFun (fr_F_X12_next σ (k := 2) (by decide)) _))); omega) (by omega) (by have h9 : PI (F_X12_takesName (F_X12_next (F_X12_next σ)) 8 (σ 2 1)) := (PI_F_X12_takesName (PI_F_X12_next (PI_F_X12_next hI))); have h8 := h9.1; omega)
            · refine zRx.iconst ⟨by decide, by decide⟩ dX12_bookLine_276 ?_
              exact zR.zret rfl ⟨by decide, by decide⟩ dX12_bookLine_277 (by have he : L_X12_bookLine_200  to who wh (n + 1)  σ = (0, F_X12_takesName (F_X12_next (F_X12_next σ)) 8 (σ 2 1)) := (by rw [L_X12_bookLine_200, if_pos c201, if_neg c218, if_neg (Int.not_lt.mpr c242), if_neg c248, if_pos c273]); rw [he]; exact ⟨rfl, rfl⟩)
          · refine zRx.aload_n 0 rfl rfl dX12_bookLine_251 ?_
            refine zRx.iconst ⟨by decide, by decide⟩ dX12_bookLine_252 ?_
            refine zRx.cVi (w := .inl 0) (M := m_X12_bad) (av := [.inl 3]) cv_12_248 mk_X12_bad (by decide) (b := 0) rfl rfl (Nat.le_of_ble_eq_true rfl) dX12_bookLine_253 (bad_eq2 (F_X12_next σ) 3 ((F_X12_next σ) 0 12) rfl) ?_
            exact zR.zret rfl ⟨by decide, by decide⟩ dX12_bookLine_256 (by have he : L_X12_bookLine_200  to who wh (n + 1)  σ = (0, zu (zu (F_X12_next σ) 0 15 3) 0 16 ((F_X12_next σ) 0 12)) := (by rw [L_X12_bookLine_200, if_pos c201, if_neg c218, if_neg (Int.not_lt.mpr c242), if_pos c248]); rw [he]; exact ⟨rfl, rfl⟩)
      · refine zRx.aload_n 0 rfl rfl dX12_bookLine_221 ?_
        refine zRx.iconst ⟨by decide, by decide⟩ dX12_bookLine_222 ?_
        refine zRx.cVi (w := .inl 0) (M := m_X12_bad) (av := [.inl 1]) cv_12_248 mk_X12_bad (by decide) (b := 0) rfl rfl (Nat.le_of_ble_eq_true rfl) dX12_bookLine_223 (bad_eq2 (F_X12_next σ) 1 ((F_X12_next σ) 0 12) rfl) ?_
        exact zR.zret rfl ⟨by decide, by decide⟩ dX12_bookLine_226 (by have he : L_X12_bookLine_200  to who wh (n + 1)  σ = (0, zu (zu (F_X12_next σ) 0 15 1) 0 16 ((F_X12_next σ) 0 12)) := (by rw [L_X12_bookLine_200, if_pos c201, if_pos c218]); rw [he]; exact ⟨rfl, rfl⟩)
    · refine zRx.aload_n 0 rfl rfl dX12_bookLine_204 ?_
      refine zRx.iconst ⟨by decide, by decide⟩ dX12_bookLine_205 ?_
      refine zRx.cVi (w := .inl 0) (M := m_X12_bad) (av := [.inl 1]) cv_12_248 mk_X12_bad (by decide) (b := 0) rfl rfl (Nat.le_of_ble_eq_true rfl) dX12_bookLine_206 (bad_eq2 σ 1 (σ 0 12) rfl) ?_
      exact zR.zret rfl ⟨by decide, by decide⟩ dX12_bookLine_209 (by have he : L_X12_bookLine_200  to who wh (n + 1)  σ = (0, zu (zu σ 0 15 1) 0 16 (σ 0 12)) := (by rw [L_X12_bookLine_200, if_neg (Int.not_le.mpr c201)]); rw [he]; exact ⟨rfl, rfl⟩)
def R_X12_bookLine (σ : zG)  : Int × zG := if σ 0 11 = 1 ∧ σ 0 17 = 6578553 then (if (σ 0 21) = 60 then (0, zu (zu σ 0 15 4) 0 16 (σ 0 12)) else (if (σ 0 21) = 0 then (if (V_X12_takes (F_X12_next σ) 0 999) = 0 then (0, F_X12_takes (F_X12_next σ) 0 999) else (1, F_X12_put (zu (F_X12_takes (F_X12_next σ) 0 999) 0 22 ((F_X12_takes (F_X12_next σ) 0 999) 0 18)) (5 * (σ 0 21)) 0 ((F_X12_takes (F_X12_next σ) 0 999) 0 18) (-1) (-1) 0)) else (if (V_X12_takes (F_X12_next σ) (w32 ((σ 0 22) + 1)) 999) = 0 then (0, F_X12_takes (F_X12_next σ) (w32 ((σ 0 22) + 1)) 999) else (1, F_X12_put (zu (F_X12_takes (F_X12_next σ) (w32 ((σ 0 22) + 1)) 999) 0 22 ((F_X12_takes (F_X12_next σ) (w32 ((σ 0 22) + 1)) 999) 0 18)) (5 * (σ 0 21)) 0 ((F_X12_takes (F_X12_next σ) (w32 ((σ 0 22) + 1)) 999) 0 18) (-1) (-1) 0)))) else (if (R_X12_isName σ) = 0 then (0, zu (zu σ 0 15 1) 0 16 (σ 0 12)) else (if 0 ≤ (R_X12_find σ 0 (σ 2 0)) then (if (σ 0 21) = 60 then (0, zu (zu σ 0 15 4) 0 16 (σ 0 12)) else (if (F_X12_next σ) 0 11 = 1 ∧ (F_X12_next σ) 0 17 = 1818846579 then (L_X12_bookLine_200  (5 * (σ 0 21)) (R_X12_find σ 0 (σ 2 0)) 1 1  (F_X12_next σ)) else (if (F_X12_next σ) 0 11 = 1 ∧ (F_X12_next σ) 0 17 = 448444786035 then (L_X12_bookLine_200  (5 * (σ 0 21)) (R_X12_find σ 0 (σ 2 0)) 2 1  (F_X12_next σ)) else (if (F_X12_next σ) 0 11 = 1 ∧ (F_X12_next σ) 0 17 = 499917810803 then (L_X12_bookLine_200  (5 * (σ 0 21)) (R_X12_find σ 0 (σ 2 0)) 3 1  (F_X12_next σ)) else (if (F_X12_next σ) 0 11 = 1 ∧ (F_X12_next σ) 0 17 = 495622843507 then (L_X12_bookLine_200  (5 * (σ 0 21)) (R_X12_find σ 0 (σ 2 0)) 4 1  (F_X12_next σ)) else (L_X12_bookLine_200  (5 * (σ 0 21)) (R_X12_find σ 0 (σ 2 0)) (-1) 1  (F_X12_next σ))))))) else (0, zu (zu σ 0 15 3) 0 16 (σ 0 12))))
theorem fr_R_X12_bookLine (σ : zG)  {k : Nat} (h : k ∉ [0, 4, 7, 8]) : (R_X12_bookLine σ ).2 k = σ k := by
  have ne : ∀ c ∈ [0, 4, 7, 8], k ≠ c := fun c hc e => h (e ▸ hc)
  have nk_F_X12_takes : k ∉ [0] := fun hm => h (by first | (revert hm; simp only [List.mem_cons, List.not_mem_nil, or_false]; omega) | (simp at hm))
  have nk_F_X12_next : k ∉ [0] := fun hm => h (by first | (revert hm; simp only [List.mem_cons, List.not_mem_nil, or_false]; omega) | (simp at hm))
  have nk_F_X12_put : k ∉ [4, 8] := fun hm => h (by first | (revert hm; simp only [List.mem_cons, List.not_mem_nil, or_false]; omega) | (simp at hm))
  have nl_L_X12_bookLine_287 : k ∉ [0, 4, 7, 8] := fun hm => h (by first | (revert hm; simp only [List.mem_cons, List.not_mem_nil, or_false]; omega) | (simp at hm))
  have nl_L_X12_bookLine_200 : k ∉ [0, 4, 7, 8] := fun hm => h (by first | (revert hm; simp only [List.mem_cons, List.not_mem_nil, or_false]; omega) | (simp at hm))
  unfold R_X12_bookLine
  repeat' split
  all_goals first | rfl | simp only [zu_row _ _ _ (ne 0 (by decide)), zu_row _ _ _ (ne 4 (by decide)), zu_row _ _ _ (ne 7 (by decide)), zu_row _ _ _ (ne 8 (by decide)), fr_F_X12_takes (h := nk_F_X12_takes), fr_F_X12_next (h := nk_F_X12_next), fr_F_X12_put (h := nk_F_X12_put), fr_L_X12_bookLine_287 (h := nl_L_X12_bookLine_287), fr_L_X12_bookLine_200 (h := nl_L_X12_bookLine_200)]

set_option maxRecDepth 20000 in
theorem does_X12_bookLine (σ : zG)  (hI : PI σ) (hp : 0 ≤ σ 2 0 ∧ σ 2 0 ≤ 8) (hF : 0 ≤ σ 2 1 ∧ σ 2 1 ≤ 12) (hc : 0 ≤ σ 0 21 ∧ σ 0 21 ≤ 60)  : zDo SM 3 m_X12_bookLine [zP 0] σ (zEq (some (.inl (R_X12_bookLine σ ).1)) (R_X12_bookLine σ ).2) := by
  refine zDo.intro mk_X12_bookLine (Nat.le_of_ble_eq_true rfl) ?_
  refine zRx.iconst ⟨by decide, by decide⟩ dX12_bookLine_0 ?_
  refine zRx.aload_n 0 rfl rfl dX12_bookLine_1 ?_
  refine zRx.getIv (a := 0) (ji := 21) (v := σ 0 21) rfl fl_12_323 rfl rfl rfl dX12_bookLine_2 ?_
  refine zRx.imul ⟨by omega, by omega⟩ dX12_bookLine_5 ?_
  refine zRx.istore_n (ls' := [(0, zP 0), (1, .inl (5 * (σ 0 21)))]) rfl rfl (by decide) dX12_bookLine_6 ?_
  refine zRx.aload_n 0 rfl rfl dX12_bookLine_7 ?_
  refine zRx.ldc2 ⟨by decide, by decide⟩ kl_12_177 dX12_bookLine_8 ?_
  refine zRx.cVi (w := .inl (b2 (σ 0 11 = 1 ∧ σ 0 17 = 6578553))) (M := m_X12_isWord) (av := [zJ 6578553]) cv_12_279 mk_X12_isWord (by decide) (b := 0) rfl rfl (Nat.le_of_ble_eq_true rfl) dX12_bookLine_11 (isWord2 σ 6578553 (σ 0 11) (σ 0 17) rfl rfl) ?_
  refine zRx.if_eqB (tgt := 88) dX12_bookLine_14 (by decide) (fun c14 => ?_) (fun c14 => ?_)
  · refine zRx.aload_n 0 rfl rfl dX12_bookLine_88 ?_
    refine zRx.cVi (w := .inl (R_X12_isName σ)) (M := m_X12_isName) (av := []) cv_12_261 mk_X12_isName (by decide) (b := 0) rfl rfl (Nat.le_of_ble_eq_true rfl) dX12_bookLine_89 (does_X12_isName σ) ?_
    refine zRx.if_ne (tgt := 101) dX12_bookLine_92 (by decide) (fun c92 => ?_) (fun c92 => ?_)
    · refine zRx.aload_n 0 rfl rfl dX12_bookLine_101 ?_
      refine zRx.iconst ⟨by decide, by decide⟩ dX12_bookLine_102 ?_
      refine zRx.aload_n 0 rfl rfl dX12_bookLine_103 ?_
      refine zRx.getR (a := 0) (b := 2) fl_12_33 rfl rfl dX12_bookLine_104 ?_
      refine zRx.iconst ⟨by decide, by decide⟩ dX12_bookLine_107 ?_
      refine zRx.ialdv (v := σ 2 0) rfl rfl (by decide) (by decide) dX12_bookLine_108 ?_
      refine zRx.cVi (w := .inl (R_X12_find σ 0 (σ 2 0))) (M := m_X12_find) (av := [.inl 0, .inl (σ 2 0)]) cv_12_265 mk_X12_find (by decide) (b := 0) rfl rfl (Nat.le_of_ble_eq_true rfl) dX12_bookLine_109 (does_X12_find σ 0 (σ 2 0) (by omega)) ?_
      refine zRx.istore_n (ls' := [(0, zP 0), (1, .inl (5 * (σ 0 21))), (2, .inl (R_X12_find σ 0 (σ 2 0)))]) rfl rfl (by decide) dX12_bookLine_112 ?_
      refine zRx.iload_n 2 rfl rfl dX12_bookLine_113 ?_
      refine zRx.if_ge (tgt := 123) dX12_bookLine_114 (by decide) (fun c114 => ?_) (fun c114 => ?_)
      · refine zRx.aload_n 0 rfl rfl dX12_bookLine_123 ?_
        refine zRx.getIv (a := 0) (ji := 21) (v := σ 0 21) rfl fl_12_323 rfl rfl rfl dX12_bookLine_124 ?_
        refine zRx.bipush ⟨by decide, by decide⟩ rfl dX12_bookLine_127 ?_
        refine zRx.icmp_ne (tgt := 138) dX12_bookLine_129 (by decide) (fun c129 => ?_) (fun c129 => ?_)
        · refine zRx.aload_n 0 rfl rfl dX12_bookLine_138 ?_
          refine zRx.cVv (M := m_X12_next) (av := []) cv_12_251 mk_X12_next (by decide) (b := 0) rfl rfl (Nat.le_of_ble_eq_true rfl) dX12_bookLine_139 (does_next2 σ hI) ?_
          refine zRx.aload_n 0 rfl rfl dX12_bookLine_142 ?_
          refine zRx.ldc2 ⟨by decide, by decide⟩ kl_12_179 dX12_bookLine_143 ?_
          refine zRx.cVi (w := .inl (b2 ((F_X12_next σ) 0 11 = 1 ∧ (F_X12_next σ) 0 17 = 1818846579))) (M := m_X12_isWord) (av := [zJ 1818846579]) cv_12_279 mk_X12_isWord (by decide) (b := 0) rfl rfl (Nat.le_of_ble_eq_true rfl) dX12_bookLine_146 (isWord2 (F_X12_next σ) 1818846579 ((F_X12_next σ) 0 11) ((F_X12_next σ) 0 17) rfl rfl) ?_
          refine zRx.if_eqB (tgt := 156) dX12_bookLine_149 (by decide) (fun c149 => ?_) (fun c149 => ?_)
          · refine zRx.aload_n 0 rfl rfl dX12_bookLine_156 ?_
            refine zRx.ldc2 ⟨by decide, by decide⟩ kl_12_183 dX12_bookLine_157 ?_
            refine zRx.cVi (w := .inl (b2 ((F_X12_next σ) 0 11 = 1 ∧ (F_X12_next σ) 0 17 = 448444786035))) (M := m_X12_isWord) (av := [zJ 448444786035]) cv_12_279 mk_X12_isWord (by decide) (b := 0) rfl rfl (Nat.le_of_ble_eq_true rfl) dX12_bookLine_160 (isWord2 (F_X12_next σ) 448444786035 ((F_X12_next σ) 0 11) ((F_X12_next σ) 0 17) rfl rfl) ?_
            refine zRx.if_eqB (tgt := 170) dX12_bookLine_163 (by decide) (fun c163 => ?_) (fun c163 => ?_)
            · refine zRx.aload_n 0 rfl rfl dX12_bookLine_170 ?_
              refine zRx.ldc2 ⟨by decide, by decide⟩ kl_12_185 dX12_bookLine_171 ?_
              refine zRx.cVi (w := .inl (b2 ((F_X12_next σ) 0 11 = 1 ∧ (F_X12_next σ) 0 17 = 499917810803))) (M := m_X12_isWord) (av := [zJ 499917810803]) cv_12_279 mk_X12_isWord (by decide) (b := 0) rfl rfl (Nat.le_of_ble_eq_true rfl) dX12_bookLine_174 (isWord2 (F_X12_next σ) 499917810803 ((F_X12_next σ) 0 11) ((F_X12_next σ) 0 17) rfl rfl) ?_
              refine zRx.if_eqB (tgt := 184) dX12_bookLine_177 (by decide) (fun c177 => ?_) (fun c177 => ?_)
              · refine zRx.aload_n 0 rfl rfl dX12_bookLine_184 ?_
                refine zRx.ldc2 ⟨by decide, by decide⟩ kl_12_187 dX12_bookLine_185 ?_
                refine zRx.cVi (w := .inl (b2 ((F_X12_next σ) 0 11 = 1 ∧ (F_X12_next σ) 0 17 = 495622843507))) (M := m_X12_isWord) (av := [zJ 495622843507]) cv_12_279 mk_X12_isWord (by decide) (b := 0) rfl rfl (Nat.le_of_ble_eq_true rfl) dX12_bookLine_188 (isWord2 (F_X12_next σ) 495622843507 ((F_X12_next σ) 0 11) ((F_X12_next σ) 0 17) rfl rfl) ?_
                refine zRx.if_eqB (tgt := 198) dX12_bookLine_191 (by decide) (fun c191 => ?_) (fun c191 => ?_)
                · refine zRx.iconst ⟨by decide, by decide⟩ dX12_bookLine_198 ?_
                  refine zRx.istore_n (ls' := [(0, zP 0), (1, .inl (5 * (σ 0 21))), (2, .inl (R_X12_find σ 0 (σ 2 0))), (3, .inl (-1))]) rfl rfl (by decide) dX12_bookLine_199 ?_
                  have he : R_X12_bookLine σ  = L_X12_bookLine_200  (5 * (σ 0 21)) (R_X12_find σ 0 (σ 2 0)) (-1) 1  (F_X12_next σ) := by rw [R_X12_bookLine, if_neg c14, if_neg c92, if_pos c114, if_neg c129, if_neg c149, if_neg c163, if_neg c177, if_neg c191]
                  rw [he]
                  exact loop_X12_bookLine_200   (5 * (σ 0 21)) (R_X12_find σ 0 (σ 2 0)) (-1) 1  (F_X12_next σ) (PI_F_X12_next hI) (by have e9 : (F_X12_next σ) 2 0 = σ 2 0 := (congrFun (fr_F_X12_next σ (k := 2) (by decide)) _); omega) (by have e9 : (F_X12_next σ) 2 1 = σ 2 1 := (congrFun (fr_F_X12_next σ (k := 2) (by decide)) _); omega) (by omega) (by decide)
                · refine zRx.iconst ⟨by decide, by decide⟩ dX12_bookLine_194 ?_
                  refine zRx.goto (tgt := 199) dX12_bookLine_195 (by decide) ?_
                  refine zRx.istore_n (ls' := [(0, zP 0), (1, .inl (5 * (σ 0 21))), (2, .inl (R_X12_find σ 0 (σ 2 0))), (3, .inl 4)]) rfl rfl (by decide) dX12_bookLine_199 ?_
                  have he : R_X12_bookLine σ  = L_X12_bookLine_200  (5 * (σ 0 21)) (R_X12_find σ 0 (σ 2 0)) 4 1  (F_X12_next σ) := by rw [R_X12_bookLine, if_neg c14, if_neg c92, if_pos c114, if_neg c129, if_neg c149, if_neg c163, if_neg c177, if_pos c191]
                  rw [he]
                  exact loop_X12_bookLine_200   (5 * (σ 0 21)) (R_X12_find σ 0 (σ 2 0)) 4 1  (F_X12_next σ) (PI_F_X12_next hI) (by have e9 : (F_X12_next σ) 2 0 = σ 2 0 := (congrFun (fr_F_X12_next σ (k := 2) (by decide)) _); omega) (by have e9 : (F_X12_next σ) 2 1 = σ 2 1 := (congrFun (fr_F_X12_next σ (k := 2) (by decide)) _); omega) (by omega) (by decide)
              · refine zRx.iconst ⟨by decide, by decide⟩ dX12_bookLine_180 ?_
                refine zRx.goto (tgt := 199) dX12_bookLine_181 (by decide) ?_
                refine zRx.istore_n (ls' := [(0, zP 0), (1, .inl (5 * (σ 0 21))), (2, .inl (R_X12_find σ 0 (σ 2 0))), (3, .inl 3)]) rfl rfl (by decide) dX12_bookLine_199 ?_
                have he : R_X12_bookLine σ  = L_X12_bookLine_200  (5 * (σ 0 21)) (R_X12_find σ 0 (σ 2 0)) 3 1  (F_X12_next σ) := by rw [R_X12_bookLine, if_neg c14, if_neg c92, if_pos c114, if_neg c129, if_neg c149, if_neg c163, if_pos c177]
                rw [he]
                exact loop_X12_bookLine_200   (5 * (σ 0 21)) (R_X12_find σ 0 (σ 2 0)) 3 1  (F_X12_next σ) (PI_F_X12_next hI) (by have e9 : (F_X12_next σ) 2 0 = σ 2 0 := (congrFun (fr_F_X12_next σ (k := 2) (by decide)) _); omega) (by have e9 : (F_X12_next σ) 2 1 = σ 2 1 := (congrFun (fr_F_X12_next σ (k := 2) (by decide)) _); omega) (by omega) (by decide)
            · refine zRx.iconst ⟨by decide, by decide⟩ dX12_bookLine_166 ?_
              refine zRx.goto (tgt := 199) dX12_bookLine_167 (by decide) ?_
              refine zRx.istore_n (ls' := [(0, zP 0), (1, .inl (5 * (σ 0 21))), (2, .inl (R_X12_find σ 0 (σ 2 0))), (3, .inl 2)]) rfl rfl (by decide) dX12_bookLine_199 ?_
              have he : R_X12_bookLine σ  = L_X12_bookLine_200  (5 * (σ 0 21)) (R_X12_find σ 0 (σ 2 0)) 2 1  (F_X12_next σ) := by rw [R_X12_bookLine, if_neg c14, if_neg c92, if_pos c114, if_neg c129, if_neg c149, if_pos c163]
              rw [he]
              exact loop_X12_bookLine_200   (5 * (σ 0 21)) (R_X12_find σ 0 (σ 2 0)) 2 1  (F_X12_next σ) (PI_F_X12_next hI) (by have e9 : (F_X12_next σ) 2 0 = σ 2 0 := (congrFun (fr_F_X12_next σ (k := 2) (by decide)) _); omega) (by have e9 : (F_X12_next σ) 2 1 = σ 2 1 := (congrFun (fr_F_X12_next σ (k := 2) (by decide)) _); omega) (by omega) (by decide)
          · refine zRx.iconst ⟨by decide, by decide⟩ dX12_bookLine_152 ?_
            refine zRx.goto (tgt := 199) dX12_bookLine_153 (by decide) ?_
            refine zRx.istore_n (ls' := [(0, zP 0), (1, .inl (5 * (σ 0 21))), (2, .inl (R_X12_find σ 0 (σ 2 0))), (3, .inl 1)]) rfl rfl (by decide) dX12_bookLine_199 ?_
            have he : R_X12_bookLine σ  = L_X12_bookLine_200  (5 * (σ 0 21)) (R_X12_find σ 0 (σ 2 0)) 1 1  (F_X12_next σ) := by rw [R_X12_bookLine, if_neg c14, if_neg c92, if_pos c114, if_neg c129, if_pos c149]
            rw [he]
            exact loop_X12_bookLine_200   (5 * (σ 0 21)) (R_X12_find σ 0 (σ 2 0)) 1 1  (F_X12_next σ) (PI_F_X12_next hI) (by have e9 : (F_X12_next σ) 2 0 = σ 2 0 := (congrFun (fr_F_X12_next σ (k := 2) (by decide)) _); omega) (by have e9 : (F_X12_next σ) 2 1 = σ 2 1 := (congrFun (fr_F_X12_next σ (k := 2) (by decide)) _); omega) (by omega) (by decide)
        · refine zRx.aload_n 0 rfl rfl dX12_bookLine_132 ?_
          refine zRx.iconst ⟨by decide, by decide⟩ dX12_bookLine_133 ?_
          refine zRx.cVi (w := .inl 0) (M := m_X12_bad) (av := [.inl 4]) cv_12_248 mk_X12_bad (by decide) (b := 0) rfl rfl (Nat.le_of_ble_eq_true rfl) dX12_bookLine_134 (bad_eq2 σ 4 (σ 0 12) rfl) ?_
          exact zR.zret rfl ⟨by decide, by decide⟩ dX12_bookLine_137 (by have he : R_X12_bookLine σ  = (0, zu (zu σ 0 15 4) 0 16 (σ 0 12)) := (by rw [R_X12_bookLine, if_neg c14, if_neg c92, if_pos c114, if_pos c129]); rw [he]; exact ⟨rfl, rfl⟩)
      · refine zRx.aload_n 0 rfl rfl dX12_bookLine_117 ?_
        refine zRx.iconst ⟨by decide, by decide⟩ dX12_bookLine_118 ?_
        refine zRx.cVi (w := .inl 0) (M := m_X12_bad) (av := [.inl 3]) cv_12_248 mk_X12_bad (by decide) (b := 0) rfl rfl (Nat.le_of_ble_eq_true rfl) dX12_bookLine_119 (bad_eq2 σ 3 (σ 0 12) rfl) ?_
        exact zR.zret rfl ⟨by decide, by decide⟩ dX12_bookLine_122 (by have he : R_X12_bookLine σ  = (0, zu (zu σ 0 15 3) 0 16 (σ 0 12)) := (by rw [R_X12_bookLine, if_neg c14, if_neg c92, if_neg (Int.not_le.mpr c114)]); rw [he]; exact ⟨rfl, rfl⟩)
    · refine zRx.aload_n 0 rfl rfl dX12_bookLine_95 ?_
      refine zRx.iconst ⟨by decide, by decide⟩ dX12_bookLine_96 ?_
      refine zRx.cVi (w := .inl 0) (M := m_X12_bad) (av := [.inl 1]) cv_12_248 mk_X12_bad (by decide) (b := 0) rfl rfl (Nat.le_of_ble_eq_true rfl) dX12_bookLine_97 (bad_eq2 σ 1 (σ 0 12) rfl) ?_
      exact zR.zret rfl ⟨by decide, by decide⟩ dX12_bookLine_100 (by have he : R_X12_bookLine σ  = (0, zu (zu σ 0 15 1) 0 16 (σ 0 12)) := (by rw [R_X12_bookLine, if_neg c14, if_pos c92]); rw [he]; exact ⟨rfl, rfl⟩)
  · refine zRx.aload_n 0 rfl rfl dX12_bookLine_17 ?_
    refine zRx.getIv (a := 0) (ji := 21) (v := σ 0 21) rfl fl_12_323 rfl rfl rfl dX12_bookLine_18 ?_
    refine zRx.bipush ⟨by decide, by decide⟩ rfl dX12_bookLine_21 ?_
    refine zRx.icmp_ne (tgt := 32) dX12_bookLine_23 (by decide) (fun c23 => ?_) (fun c23 => ?_)
    · refine zRx.aload_n 0 rfl rfl dX12_bookLine_32 ?_
      refine zRx.cVv (M := m_X12_next) (av := []) cv_12_251 mk_X12_next (by decide) (b := 0) rfl rfl (Nat.le_of_ble_eq_true rfl) dX12_bookLine_33 (does_next2 σ hI) ?_
      refine zRx.aload_n 0 rfl rfl dX12_bookLine_36 ?_
      refine zRx.aload_n 0 rfl rfl dX12_bookLine_37 ?_
      refine zRx.getIv (a := 0) (ji := 21) (v := σ 0 21) (kp_next _ 21 (by unfold KI; decide)) fl_12_323 rfl rfl rfl dX12_bookLine_38 ?_
      refine zRx.if_ne (tgt := 48) dX12_bookLine_41 (by decide) (fun c41 => ?_) (fun c41 => ?_)
      · refine zRx.aload_n 0 rfl rfl dX12_bookLine_48 ?_
        refine zRx.getIv (a := 0) (ji := 22) (v := σ 0 22) (kp_next _ 22 (by unfold KI; decide)) fl_12_326 rfl rfl rfl dX12_bookLine_49 ?_
        refine zRx.iconst ⟨by decide, by decide⟩ dX12_bookLine_52 ?_
        refine zRx.iaddW dX12_bookLine_53 ?_
        refine zRx.sipush ⟨by decide, by decide⟩ rfl dX12_bookLine_54 ?_
        refine zRx.cVi (w := .inl (V_X12_takes (F_X12_next σ) (w32 ((σ 0 22) + 1)) 999)) (M := m_X12_takes) (av := [.inl (w32 ((σ 0 22) + 1)), .inl 999]) cv_12_276 mk_X12_takes (by decide) (b := 0) rfl rfl (Nat.le_of_ble_eq_true rfl) dX12_bookLine_57 (does_X12_takes (F_X12_next σ) (w32 ((σ 0 22) + 1)) 999 (PI_F_X12_next hI)) ?_
        refine zRx.if_ne (tgt := 65) dX12_bookLine_60 (by decide) (fun c60 => ?_) (fun c60 => ?_)
        · refine zRx.aload_n 0 rfl rfl dX12_bookLine_65 ?_
          refine zRx.aload_n 0 rfl rfl dX12_bookLine_66 ?_
          refine zRx.getIv (a := 0) (ji := 18) (v := (F_X12_takes (F_X12_next σ) (w32 ((σ 0 22) + 1)) 999) 0 18) rfl fl_12_258 rfl rfl rfl dX12_bookLine_67 ?_
          refine zRx.putI (a := 0) (ji := 22) pl_12_326 rfl rfl rfl dX12_bookLine_70 ?_
          refine zRx.aload_n 0 rfl rfl dX12_bookLine_73 ?_
          refine zRx.iload_n 1 rfl rfl dX12_bookLine_74 ?_
          refine zRx.iconst ⟨by decide, by decide⟩ dX12_bookLine_75 ?_
          refine zRx.aload_n 0 rfl rfl dX12_bookLine_76 ?_
          refine zRx.getIv (a := 0) (ji := 18) (v := (F_X12_takes (F_X12_next σ) (w32 ((σ 0 22) + 1)) 999) 0 18) (zu_off _ _ _ (by decide)) fl_12_258 rfl rfl rfl dX12_bookLine_77 ?_
          refine zRx.iconst ⟨by decide, by decide⟩ dX12_bookLine_80 ?_
          refine zRx.iconst ⟨by decide, by decide⟩ dX12_bookLine_81 ?_
          refine zRx.iconst ⟨by decide, by decide⟩ dX12_bookLine_82 ?_
          refine zRx.cVv (M := m_X12_put) (av := [.inl (5 * (σ 0 21)), .inl 0, .inl ((F_X12_takes (F_X12_next σ) (w32 ((σ 0 22) + 1)) 999) 0 18), .inl (-1), .inl (-1), .inl 0]) cv_12_329 mk_X12_put (by decide) (b := 0) rfl rfl (Nat.le_of_ble_eq_true rfl) dX12_bookLine_83 (does_X12_put (zu (F_X12_takes (F_X12_next σ) (w32 ((σ 0 22) + 1)) 999) 0 22 ((F_X12_takes (F_X12_next σ) (w32 ((σ 0 22) + 1)) 999) 0 18)) (5 * (σ 0 21)) 0 ((F_X12_takes (F_X12_next σ) (w32 ((σ 0 22) + 1)) 999) 0 18) (-1) (-1) 0 (by omega)) ?_
          refine zRx.iconst ⟨by decide, by decide⟩ dX12_bookLine_86 ?_
          exact zR.zret rfl ⟨by decide, by decide⟩ dX12_bookLine_87 (by have he : R_X12_bookLine σ  = (1, F_X12_put (zu (F_X12_takes (F_X12_next σ) (w32 ((σ 0 22) + 1)) 999) 0 22 ((F_X12_takes (F_X12_next σ) (w32 ((σ 0 22) + 1)) 999) 0 18)) (5 * (σ 0 21)) 0 ((F_X12_takes (F_X12_next σ) (w32 ((σ 0 22) + 1)) 999) 0 18) (-1) (-1) 0) := (by rw [R_X12_bookLine, if_pos c14, if_neg c23, if_neg c41, if_neg c60]); rw [he]; exact ⟨rfl, rfl⟩)
        · refine zRx.iconst ⟨by decide, by decide⟩ dX12_bookLine_63 ?_
          exact zR.zret rfl ⟨by decide, by decide⟩ dX12_bookLine_64 (by have he : R_X12_bookLine σ  = (0, F_X12_takes (F_X12_next σ) (w32 ((σ 0 22) + 1)) 999) := (by rw [R_X12_bookLine, if_pos c14, if_neg c23, if_neg c41, if_pos c60]); rw [he]; exact ⟨rfl, rfl⟩)
      · refine zRx.iconst ⟨by decide, by decide⟩ dX12_bookLine_44 ?_
        refine zRx.goto (tgt := 54) dX12_bookLine_45 (by decide) ?_
        refine zRx.sipush ⟨by decide, by decide⟩ rfl dX12_bookLine_54 ?_
        refine zRx.cVi (w := .inl (V_X12_takes (F_X12_next σ) 0 999)) (M := m_X12_takes) (av := [.inl 0, .inl 999]) cv_12_276 mk_X12_takes (by decide) (b := 0) rfl rfl (Nat.le_of_ble_eq_true rfl) dX12_bookLine_57 (does_X12_takes (F_X12_next σ) 0 999 (PI_F_X12_next hI)) ?_
        refine zRx.if_ne (tgt := 65) dX12_bookLine_60 (by decide) (fun c60 => ?_) (fun c60 => ?_)
        · refine zRx.aload_n 0 rfl rfl dX12_bookLine_65 ?_
          refine zRx.aload_n 0 rfl rfl dX12_bookLine_66 ?_
          refine zRx.getIv (a := 0) (ji := 18) (v := (F_X12_takes (F_X12_next σ) 0 999) 0 18) rfl fl_12_258 rfl rfl rfl dX12_bookLine_67 ?_
          refine zRx.putI (a := 0) (ji := 22) pl_12_326 rfl rfl rfl dX12_bookLine_70 ?_
          refine zRx.aload_n 0 rfl rfl dX12_bookLine_73 ?_
          refine zRx.iload_n 1 rfl rfl dX12_bookLine_74 ?_
          refine zRx.iconst ⟨by decide, by decide⟩ dX12_bookLine_75 ?_
          refine zRx.aload_n 0 rfl rfl dX12_bookLine_76 ?_
          refine zRx.getIv (a := 0) (ji := 18) (v := (F_X12_takes (F_X12_next σ) 0 999) 0 18) (zu_off _ _ _ (by decide)) fl_12_258 rfl rfl rfl dX12_bookLine_77 ?_
          refine zRx.iconst ⟨by decide, by decide⟩ dX12_bookLine_80 ?_
          refine zRx.iconst ⟨by decide, by decide⟩ dX12_bookLine_81 ?_
          refine zRx.iconst ⟨by decide, by decide⟩ dX12_bookLine_82 ?_
          refine zRx.cVv (M := m_X12_put) (av := [.inl (5 * (σ 0 21)), .inl 0, .inl ((F_X12_takes (F_X12_next σ) 0 999) 0 18), .inl (-1), .inl (-1), .inl 0]) cv_12_329 mk_X12_put (by decide) (b := 0) rfl rfl (Nat.le_of_ble_eq_true rfl) dX12_bookLine_83 (does_X12_put (zu (F_X12_takes (F_X12_next σ) 0 999) 0 22 ((F_X12_takes (F_X12_next σ) 0 999) 0 18)) (5 * (σ 0 21)) 0 ((F_X12_takes (F_X12_next σ) 0 999) 0 18) (-1) (-1) 0 (by omega)) ?_
          refine zRx.iconst ⟨by decide, by decide⟩ dX12_bookLine_86 ?_
          exact zR.zret rfl ⟨by decide, by decide⟩ dX12_bookLine_87 (by have he : R_X12_bookLine σ  = (1, F_X12_put (zu (F_X12_takes (F_X12_next σ) 0 999) 0 22 ((F_X12_takes (F_X12_next σ) 0 999) 0 18)) (5 * (σ 0 21)) 0 ((F_X12_takes (F_X12_next σ) 0 999) 0 18) (-1) (-1) 0) := (by rw [R_X12_bookLine, if_pos c14, if_neg c23, if_pos c41, if_neg c60]); rw [he]; exact ⟨rfl, rfl⟩)
        · refine zRx.iconst ⟨by decide, by decide⟩ dX12_bookLine_63 ?_
          exact zR.zret rfl ⟨by decide, by decide⟩ dX12_bookLine_64 (by have he : R_X12_bookLine σ  = (0, F_X12_takes (F_X12_next σ) 0 999) := (by rw [R_X12_bookLine, if_pos c14, if_neg c23, if_pos c41, if_pos c60]); rw [he]; exact ⟨rfl, rfl⟩)
    · refine zRx.aload_n 0 rfl rfl dX12_bookLine_26 ?_
      refine zRx.iconst ⟨by decide, by decide⟩ dX12_bookLine_27 ?_
      refine zRx.cVi (w := .inl 0) (M := m_X12_bad) (av := [.inl 4]) cv_12_248 mk_X12_bad (by decide) (b := 0) rfl rfl (Nat.le_of_ble_eq_true rfl) dX12_bookLine_28 (bad_eq2 σ 4 (σ 0 12) rfl) ?_
      exact zR.zret rfl ⟨by decide, by decide⟩ dX12_bookLine_31 (by have he : R_X12_bookLine σ  = (0, zu (zu σ 0 15 4) 0 16 (σ 0 12)) := (by rw [R_X12_bookLine, if_pos c14, if_pos c23]); rw [he]; exact ⟨rfl, rfl⟩)

