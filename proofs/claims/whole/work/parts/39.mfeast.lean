/-! the reference: feasts -/
/-- the debts' owers are people -/
def MD (σ : zG) : Prop := ∀ d : Int, 0 ≤ d → d < σ 0 43 → 0 ≤ σ 16 d ∧ σ 16 d < 8
def FD (σ : zG) : Prop := ∀ j : Int, 0 ≤ j → j < σ 0 50 → (0 ≤ σ 28 j ∧ σ 28 j < 420) ∧ (0 ≤ σ 16 (σ 28 j) ∧ σ 16 (σ 28 j) < 8)
def FF (σ : zG) (n : Int) : Prop := ∀ j : Int, 0 ≤ j → j < n → -1 ≤ σ 27 j ∧ σ 27 j < 12
theorem MD_of {σ τ : zG} (e0 : τ 0 43 = σ 0 43) (e : τ 16 = σ 16) (h : MD σ) : MD τ := by
  unfold MD at *
  rw [e0, e]
  exact h
theorem FD_of {σ τ : zG} (e0 : τ 0 50 = σ 0 50) (e1 : τ 28 = σ 28) (e : τ 16 = σ 16) (h : FD σ) : FD τ := by
  unfold FD at *
  rw [e0, e, e1]
  exact h
theorem FD_0 {σ : zG} (h : σ 0 50 = 0) : FD σ := fun j h0 h1 => absurd h0 (by omega)
theorem FD_push {σ : zG} {q : Int} (h0 : 0 ≤ q) (h1 : q < σ 0 43) (hm : σ 0 43 ≤ 420) (hf : 0 ≤ σ 0 50) (hD : MD σ) (hFD : FD σ) : FD (zu (zu σ 28 (σ 0 50) q) 0 50 (σ 0 50 + 1)) := by
  intro j j0 j1
  rw [zu_at] at j1
  have e28 : zu (zu σ 28 (σ 0 50) q) 0 50 (σ 0 50 + 1) 28 j = if j = σ 0 50 then q else σ 28 j := by rw [zu_ne _ _ _ _ (by decide), zu_if]
  have e16 : zu (zu σ 28 (σ 0 50) q) 0 50 (σ 0 50 + 1) 16 = σ 16 := by rw [zu_row _ _ _ (by decide), zu_row _ _ _ (by decide)]
  rw [e28, e16]
  split
  · have h9 := hD q h0 h1
    omega
  · exact hFD j j0 (by omega)
theorem bor_12 {m a : Int} (h0 : 0 ≤ m ∧ m < 4096) (ha : 0 ≤ a ∧ a < 12) : 0 ≤ bor m (bshl 1 a) ∧ bor m (bshl 1 a) < 4096 := by
  obtain ⟨m', rfl⟩ := Int.eq_ofNat_of_zero_le h0.1
  obtain ⟨a', rfl⟩ := Int.eq_ofNat_of_zero_le ha.1
  have hp : 2 ^ a' ≤ 2 ^ 11 := Nat.pow_le_pow_right (by decide) (by omega)
  have e1 : bshl (1 : Int) (a' : Int) = ((2 ^ a' : Nat) : Int) := by
    have := bshl_nat (a := 1) (i := a') (by omega) (by omega)
    rw [Nat.one_mul] at this
    exact this
  rw [e1, bor_nat (by omega) (by omega)]
  have h8 : m' ||| 2 ^ a' < 2 ^ 12 := Nat.or_lt_two_pow (by omega) (by omega)
  omega
theorem bor_z {m : Int} (h0 : 0 ≤ m ∧ m < 4096) : bor m 0 = m := by
  obtain ⟨m', rfl⟩ := Int.eq_ofNat_of_zero_le h0.1
  rw [show (0 : Int) = ((0 : Nat) : Int) from rfl, bor_nat (by omega) (by decide), Nat.or_zero]

theorem FF_put {σ : zG} {k z : Int} (h : FF σ k) (hk : 0 ≤ k) : FF (zu σ 27 k z) k := by
  intro j j0 j1
  rw [zu_off _ _ _ (by omega)]
  exact h j j0 j1
theorem FF_more {σ : zG} {k : Int} (h : FF σ k) (hv : -1 ≤ σ 27 k ∧ σ 27 k < 12) : FF σ (k + 1) := by
  intro j j0 j1
  by_cases e : j = k
  · rw [e]; exact hv
  · exact h j j0 (by omega)

def S_X12_feasts_12  : Nat → Int → zG → Int × zG
  | 0, q, σ => (q, σ)
  | n + 1, q, σ => if (σ 0 43) ≤ q then (q, σ) else (if 8 ≤ (σ 0 50) then (q, σ) else (if (σ 20 q) = 0 then (S_X12_feasts_12  n (q + 1) σ) else (S_X12_feasts_12  n (q + 1) (zu (zu σ 28 (σ 0 50) q) 0 50 ((σ 0 50) + 1)))))
theorem fr_S_X12_feasts_12   (n : Nat) (q : Int) (σ : zG) {k : Nat} (h : k ∉ [0, 28]) : (S_X12_feasts_12  n q σ).2 k = σ k := by
  induction n generalizing q σ with
  | zero => rfl
  | succ n ih =>
    have ne : ∀ c ∈ [0, 28], k ≠ c := fun c hc e => h (e ▸ hc)
    rw [S_X12_feasts_12]
    repeat' split
    all_goals first | rfl | simp only [zu_row _ _ _ (ne 0 (by decide)), zu_row _ _ _ (ne 28 (by decide)), ih]

set_option maxRecDepth 20000 in
theorem seg_X12_feasts_12   : ∀ (n : Nat) (q : Int) (σ : zG) (X : zX), 0 ≤ q → σ 0 43 ≤ 420 → 0 ≤ σ 0 50 ∧ σ 0 50 ≤ 8 → MD σ → FD σ → 0 ≤ σ 2 1 ∧ σ 2 1 ≤ 12 → 0 ≤ σ 2 0 ∧ σ 2 0 ≤ 8 → (σ 0 43 - q).toNat < n → ((0 ≤ ((S_X12_feasts_12  n q σ).1)) → (((S_X12_feasts_12  n q σ).2) 0 43 ≤ 420) → (0 ≤ ((S_X12_feasts_12  n q σ).2) 0 50 ∧ ((S_X12_feasts_12  n q σ).2) 0 50 ≤ 8) → (MD ((S_X12_feasts_12  n q σ).2)) → (FD ((S_X12_feasts_12  n q σ).2)) → (0 ≤ ((S_X12_feasts_12  n q σ).2) 2 1 ∧ ((S_X12_feasts_12  n q σ).2) 2 1 ≤ 12) → (0 ≤ ((S_X12_feasts_12  n q σ).2) 2 0 ∧ ((S_X12_feasts_12  n q σ).2) 2 0 ≤ 8) → zRx none 6 m_X12_feasts SM 67 [(0, zP 0), (1, .inl ((S_X12_feasts_12  n q σ).1))] [] ((S_X12_feasts_12  n q σ).2) X) → zRx none 6 m_X12_feasts SM 12 [(0, zP 0), (1, .inl q)] [] σ X := by
  intro n
  induction n with
  | zero => intro q σ X h0 hm hM hD hFD hF hp hmz; exact absurd hmz (Nat.not_lt_zero _)
  | succ n ih =>
    intro q σ X h0 hm hM hD hFD hF hp hmz K
    refine zRx.iload_n 1 rfl rfl dX12_feasts_12 ?_
    refine zRx.aload_n 0 rfl rfl dX12_feasts_13 ?_
    refine zRx.getIv (a := 0) (ji := 43) (v := σ 0 43) rfl fl_12_357 rfl rfl rfl dX12_feasts_14 ?_
    refine zRx.icmp_ge (tgt := 67) dX12_feasts_17 (by decide) (fun c17 => ?_) (fun c17 => ?_)
    · have he : S_X12_feasts_12  (n + 1) q σ = (q, σ) := by rw [S_X12_feasts_12, if_pos c17]
      rw [he] at K
      exact K h0 hm hM hD hFD hF hp
    · refine zRx.aload_n 0 rfl rfl dX12_feasts_20 ?_
      refine zRx.getIv (a := 0) (ji := 50) (v := σ 0 50) rfl fl_12_412 rfl rfl rfl dX12_feasts_21 ?_
      refine zRx.bipush ⟨by decide, by decide⟩ rfl dX12_feasts_24 ?_
      refine zRx.icmp_ge (tgt := 67) dX12_feasts_26 (by decide) (fun c26 => ?_) (fun c26 => ?_)
      · have he : S_X12_feasts_12  (n + 1) q σ = (q, σ) := by rw [S_X12_feasts_12, if_neg (Int.not_le.mpr c17), if_pos c26]
        rw [he] at K
        exact K h0 hm hM hD hFD hF hp
      · refine zRx.aload_n 0 rfl rfl dX12_feasts_29 ?_
        refine zRx.getR (a := 0) (b := 20) fl_12_89 rfl rfl dX12_feasts_30 ?_
        refine zRx.iload_n 1 rfl rfl dX12_feasts_33 ?_
        refine zRx.ialdv (v := σ 20 q) rfl rfl (by omega) (by omega) dX12_feasts_34 ?_
        refine zRx.if_ne (tgt := 41) dX12_feasts_35 (by decide) (fun c35 => ?_) (fun c35 => ?_)
        · refine zRx.aload_n 0 rfl rfl dX12_feasts_41 ?_
          refine zRx.getR (a := 0) (b := 28) fl_12_114 rfl rfl dX12_feasts_42 ?_
          refine zRx.aload_n 0 rfl rfl dX12_feasts_45 ?_
          refine zRx.getIv (a := 0) (ji := 50) (v := σ 0 50) rfl fl_12_412 rfl rfl rfl dX12_feasts_46 ?_
          refine zRx.iload_n 1 rfl rfl dX12_feasts_49 ?_
          refine zRx.iast rfl (by omega) (by omega) dX12_feasts_50 ?_
          refine zRx.aload_n 0 rfl rfl dX12_feasts_51 ?_
          refine zRx.dup rfl dX12_feasts_52 ?_
          refine zRx.getIv (a := 0) (ji := 50) (v := σ 0 50) (zu_ne _ _ _ _ (by decide)) fl_12_412 rfl rfl rfl dX12_feasts_53 ?_
          refine zRx.iconst ⟨by decide, by decide⟩ dX12_feasts_56 ?_
          refine zRx.iadd ⟨by omega, by omega⟩ dX12_feasts_57 ?_
          refine zRx.putI (a := 0) (ji := 50) pl_12_412 rfl rfl rfl dX12_feasts_58 ?_
          refine zRx.iinc (n := 1) (ls' := [(0, zP 0), (1, .inl (q + 1))]) 1 rfl ⟨by omega, by omega⟩ rfl (by decide) dX12_feasts_61 ?_
          refine zRx.goto (tgt := 12) dX12_feasts_64 (by decide) ?_
          have he : S_X12_feasts_12  (n + 1) q σ = S_X12_feasts_12  n (q + 1) (zu (zu σ 28 (σ 0 50) q) 0 50 ((σ 0 50) + 1)) := by rw [S_X12_feasts_12, if_neg (Int.not_le.mpr c17), if_neg (Int.not_le.mpr c26), if_neg c35]
          rw [he] at K
          exact ih (q + 1) (zu (zu σ 28 (σ 0 50) q) 0 50 ((σ 0 50) + 1)) _ (by omega) (by have e9 : (zu (zu σ 28 (σ 0 50) q) 0 50 ((σ 0 50) + 1)) 0 43 = σ 0 43 := ((zu_off _ _ _ (by decide)).trans (zu_ne _ _ _ _ (by decide))); omega) (by rw [zu_at]; omega) (MD_of (by rw [zu_off _ _ _ (by decide), zu_ne _ _ _ _ (by decide)]) (by rw [zu_row _ _ _ (by decide), zu_row _ _ _ (by decide)]) hD) (FD_push h0 (by omega) hm hM.1 hD hFD) (by have e9 : (zu (zu σ 28 (σ 0 50) q) 0 50 ((σ 0 50) + 1)) 2 1 = σ 2 1 := ((zu_ne _ _ _ _ (by decide)).trans (zu_ne _ _ _ _ (by decide))); omega) (by have e9 : (zu (zu σ 28 (σ 0 50) q) 0 50 ((σ 0 50) + 1)) 2 0 = σ 2 0 := ((zu_ne _ _ _ _ (by decide)).trans (zu_ne _ _ _ _ (by decide))); omega) (by rw [zu_off _ _ _ (by decide), zu_ne _ _ _ _ (by decide)]; omega) K
        · refine zRx.goto (tgt := 61) dX12_feasts_38 (by decide) ?_
          refine zRx.iinc (n := 1) (ls' := [(0, zP 0), (1, .inl (q + 1))]) 1 rfl ⟨by omega, by omega⟩ rfl (by decide) dX12_feasts_61 ?_
          refine zRx.goto (tgt := 12) dX12_feasts_64 (by decide) ?_
          have he : S_X12_feasts_12  (n + 1) q σ = S_X12_feasts_12  n (q + 1) σ := by rw [S_X12_feasts_12, if_neg (Int.not_le.mpr c17), if_neg (Int.not_le.mpr c26), if_pos c35]
          rw [he] at K
          exact ih (q + 1) σ _ (by omega) (by omega) hM hD hFD (by omega) (by omega) (by omega) K
def S_X12_feasts_69  : Nat → Int → zG → Int × zG
  | 0, q, σ => (q, σ)
  | n + 1, q, σ => if 4096 ≤ q then (q, σ) else (S_X12_feasts_69  n (q + 1) (zu σ 26 ((4096 * (σ 0 50)) + q) 0))
theorem fr_S_X12_feasts_69   (n : Nat) (q : Int) (σ : zG) {k : Nat} (h : k ∉ [26]) : (S_X12_feasts_69  n q σ).2 k = σ k := by
  induction n generalizing q σ with
  | zero => rfl
  | succ n ih =>
    have ne : ∀ c ∈ [26], k ≠ c := fun c hc e => h (e ▸ hc)
    rw [S_X12_feasts_69]
    repeat' split
    all_goals first | rfl | simp only [zu_row _ _ _ (ne 26 (by decide)), ih]

set_option maxRecDepth 20000 in
theorem seg_X12_feasts_69   : ∀ (n : Nat) (q : Int) (σ : zG) (X : zX), 0 ≤ q → 0 ≤ σ 0 50 ∧ σ 0 50 ≤ 8 → FD σ → 0 ≤ σ 2 1 ∧ σ 2 1 ≤ 12 → 0 ≤ σ 2 0 ∧ σ 2 0 ≤ 8 → (4096 - q).toNat < n → ((0 ≤ ((S_X12_feasts_69  n q σ).1)) → (0 ≤ ((S_X12_feasts_69  n q σ).2) 0 50 ∧ ((S_X12_feasts_69  n q σ).2) 0 50 ≤ 8) → (FD ((S_X12_feasts_69  n q σ).2)) → (0 ≤ ((S_X12_feasts_69  n q σ).2) 2 1 ∧ ((S_X12_feasts_69  n q σ).2) 2 1 ≤ 12) → (0 ≤ ((S_X12_feasts_69  n q σ).2) 2 0 ∧ ((S_X12_feasts_69  n q σ).2) 2 0 ≤ 8) → zRx none 6 m_X12_feasts SM 98 [(0, zP 0), (1, .inl ((S_X12_feasts_69  n q σ).1))] [] ((S_X12_feasts_69  n q σ).2) X) → zRx none 6 m_X12_feasts SM 69 [(0, zP 0), (1, .inl q)] [] σ X := by
  intro n
  induction n with
  | zero => intro q σ X h0 hM hFD hF hp hmz; exact absurd hmz (Nat.not_lt_zero _)
  | succ n ih =>
    intro q σ X h0 hM hFD hF hp hmz K
    refine zRx.iload_n 1 rfl rfl dX12_feasts_69 ?_
    refine zRx.sipush ⟨by decide, by decide⟩ rfl dX12_feasts_70 ?_
    refine zRx.icmp_ge (tgt := 98) dX12_feasts_73 (by decide) (fun c73 => ?_) (fun c73 => ?_)
    · have he : S_X12_feasts_69  (n + 1) q σ = (q, σ) := by rw [S_X12_feasts_69, if_pos c73]
      rw [he] at K
      exact K h0 hM hFD hF hp
    · refine zRx.aload_n 0 rfl rfl dX12_feasts_76 ?_
      refine zRx.getR (a := 0) (b := 26) fl_12_108 rfl rfl dX12_feasts_77 ?_
      refine zRx.sipush ⟨by decide, by decide⟩ rfl dX12_feasts_80 ?_
      refine zRx.aload_n 0 rfl rfl dX12_feasts_83 ?_
      refine zRx.getIv (a := 0) (ji := 50) (v := σ 0 50) rfl fl_12_412 rfl rfl rfl dX12_feasts_84 ?_
      refine zRx.imul ⟨by omega, by omega⟩ dX12_feasts_87 ?_
      refine zRx.iload_n 1 rfl rfl dX12_feasts_88 ?_
      refine zRx.iadd ⟨by omega, by omega⟩ dX12_feasts_89 ?_
      refine zRx.iconst ⟨by decide, by decide⟩ dX12_feasts_90 ?_
      refine zRx.iast rfl (by omega) (by omega) dX12_feasts_91 ?_
      refine zRx.iinc (n := 1) (ls' := [(0, zP 0), (1, .inl (q + 1))]) 1 rfl ⟨by omega, by omega⟩ rfl (by decide) dX12_feasts_92 ?_
      refine zRx.goto (tgt := 69) dX12_feasts_95 (by decide) ?_
      have he : S_X12_feasts_69  (n + 1) q σ = S_X12_feasts_69  n (q + 1) (zu σ 26 ((4096 * (σ 0 50)) + q) 0) := by rw [S_X12_feasts_69, if_neg (Int.not_le.mpr c73)]
      rw [he] at K
      exact ih (q + 1) (zu σ 26 ((4096 * (σ 0 50)) + q) 0) _ (by omega) (by have e9 : (zu σ 26 ((4096 * (σ 0 50)) + q) 0) 0 50 = σ 0 50 := (zu_ne _ _ _ _ (by decide)); omega) (FD_of (zu_ne _ _ _ _ (by decide)) (zu_row _ _ _ (by decide)) (zu_row _ _ _ (by decide)) hFD) (by have e9 : (zu σ 26 ((4096 * (σ 0 50)) + q) 0) 2 1 = σ 2 1 := (zu_ne _ _ _ _ (by decide)); omega) (by have e9 : (zu σ 26 ((4096 * (σ 0 50)) + q) 0) 2 0 = σ 2 0 := (zu_ne _ _ _ _ (by decide)); omega) (by omega) K
def S_X12_feasts_113  (kk : Int) : Nat → Int → Int → zG → Int × Int × zG
  | 0, my, f, σ => (my, f, σ)
  | n + 1, my, f, σ => if (σ 2 1) ≤ f then (my, f, σ) else (if (R_X12_mayPay σ (σ 28 kk) f) = 0 then (S_X12_feasts_113  kk n (bor my 0) (f + 1) σ) else (S_X12_feasts_113  kk n (bor my (bshl 1 f)) (f + 1) σ))
theorem fr_S_X12_feasts_113  (kk : Int)  (n : Nat) (my f : Int) (σ : zG) {k : Nat} (h : k ∉ []) : (S_X12_feasts_113  kk n my f σ).2.2 k = σ k := by
  induction n generalizing my f σ with
  | zero => rfl
  | succ n ih =>
    have ne : ∀ c ∈ [], k ≠ c := fun c hc e => h (e ▸ hc)
    rw [S_X12_feasts_113]
    repeat' split
    all_goals first | rfl | simp only [ih]

set_option maxRecDepth 20000 in
theorem seg_X12_feasts_113   (kk : Int) : ∀ (n : Nat) (my f : Int) (σ : zG) (X : zX), 0 ≤ f → 0 ≤ kk ∧ kk < σ 0 50 ∧ σ 0 50 ≤ 8 → FD σ → 0 ≤ σ 2 1 ∧ σ 2 1 ≤ 12 → 0 ≤ σ 2 0 ∧ σ 2 0 ≤ 8 → (σ 2 1 - f).toNat < n → ((0 ≤ ((S_X12_feasts_113  kk n my f σ).2.1)) → (0 ≤ kk ∧ kk < ((S_X12_feasts_113  kk n my f σ).2.2) 0 50 ∧ ((S_X12_feasts_113  kk n my f σ).2.2) 0 50 ≤ 8) → (FD ((S_X12_feasts_113  kk n my f σ).2.2)) → (0 ≤ ((S_X12_feasts_113  kk n my f σ).2.2) 2 1 ∧ ((S_X12_feasts_113  kk n my f σ).2.2) 2 1 ≤ 12) → (0 ≤ ((S_X12_feasts_113  kk n my f σ).2.2) 2 0 ∧ ((S_X12_feasts_113  kk n my f σ).2.2) 2 0 ≤ 8) → zRx none 6 m_X12_feasts SM 153 [(0, zP 0), (1, .inl kk), (2, .inl ((S_X12_feasts_113  kk n my f σ).1)), (3, .inl ((S_X12_feasts_113  kk n my f σ).2.1))] [] ((S_X12_feasts_113  kk n my f σ).2.2) X) → zRx none 6 m_X12_feasts SM 113 [(0, zP 0), (1, .inl kk), (2, .inl my), (3, .inl f)] [] σ X := by
  intro n
  induction n with
  | zero => intro my f σ X h0 hk hFD hF hp hmz; exact absurd hmz (Nat.not_lt_zero _)
  | succ n ih =>
    intro my f σ X h0 hk hFD hF hp hmz K
    refine zRx.iload_n 3 rfl rfl dX12_feasts_113 ?_
    refine zRx.aload_n 0 rfl rfl dX12_feasts_114 ?_
    refine zRx.getR (a := 0) (b := 2) fl_12_33 rfl rfl dX12_feasts_115 ?_
    refine zRx.iconst ⟨by decide, by decide⟩ dX12_feasts_118 ?_
    refine zRx.ialdv (v := σ 2 1) rfl rfl (by decide) (by decide) dX12_feasts_119 ?_
    refine zRx.icmp_ge (tgt := 153) dX12_feasts_120 (by decide) (fun c120 => ?_) (fun c120 => ?_)
    · have he : S_X12_feasts_113  kk (n + 1) my f σ = (my, f, σ) := by rw [S_X12_feasts_113, if_pos c120]
      rw [he] at K
      exact K h0 hk hFD hF hp
    · refine zRx.iload_n 2 rfl rfl dX12_feasts_123 ?_
      refine zRx.aload_n 0 rfl rfl dX12_feasts_124 ?_
      refine zRx.aload_n 0 rfl rfl dX12_feasts_125 ?_
      refine zRx.getR (a := 0) (b := 28) fl_12_114 rfl rfl dX12_feasts_126 ?_
      refine zRx.iload_n 1 rfl rfl dX12_feasts_129 ?_
      refine zRx.ialdv (v := σ 28 kk) rfl rfl (by omega) (by omega) dX12_feasts_130 ?_
      refine zRx.iload_n 3 rfl rfl dX12_feasts_131 ?_
      refine zRx.cVi (w := .inl (R_X12_mayPay σ (σ 28 kk) f)) (M := m_X12_mayPay) (av := [.inl (σ 28 kk), .inl f]) cv_12_415 mk_X12_mayPay (by decide) (b := 0) rfl rfl (Nat.le_of_ble_eq_true rfl) dX12_feasts_132 (does_X12_mayPay σ (σ 28 kk) f (by have h9 := hFD kk (by omega) (by omega); omega) (by omega) hp (by have h9 := hFD kk (by omega) (by omega); omega)) ?_
      refine zRx.if_eq (tgt := 144) dX12_feasts_135 (by decide) (fun c135 => ?_) (fun c135 => ?_)
      · refine zRx.iconst ⟨by decide, by decide⟩ dX12_feasts_144 ?_
        refine zRx.ior dX12_feasts_145 ?_
        refine zRx.istore_n (ls' := [(0, zP 0), (1, .inl kk), (2, .inl (bor my 0)), (3, .inl f)]) rfl rfl (by decide) dX12_feasts_146 ?_
        refine zRx.iinc (n := 1) (ls' := [(0, zP 0), (1, .inl kk), (2, .inl (bor my 0)), (3, .inl (f + 1))]) 3 rfl ⟨by omega, by omega⟩ rfl (by decide) dX12_feasts_147 ?_
        refine zRx.goto (tgt := 113) dX12_feasts_150 (by decide) ?_
        have he : S_X12_feasts_113  kk (n + 1) my f σ = S_X12_feasts_113  kk n (bor my 0) (f + 1) σ := by rw [S_X12_feasts_113, if_neg (Int.not_le.mpr c120), if_pos c135]
        rw [he] at K
        exact ih (bor my 0) (f + 1) σ _ (by omega) hk hFD hF hp (by omega) K
      · refine zRx.iconst ⟨by decide, by decide⟩ dX12_feasts_138 ?_
        refine zRx.iload_n 3 rfl rfl dX12_feasts_139 ?_
        refine zRx.ishl dX12_feasts_140 ?_
        refine zRx.goto (tgt := 145) dX12_feasts_141 (by decide) ?_
        refine zRx.ior dX12_feasts_145 ?_
        refine zRx.istore_n (ls' := [(0, zP 0), (1, .inl kk), (2, .inl (bor my (bshl 1 f))), (3, .inl f)]) rfl rfl (by decide) dX12_feasts_146 ?_
        refine zRx.iinc (n := 1) (ls' := [(0, zP 0), (1, .inl kk), (2, .inl (bor my (bshl 1 f))), (3, .inl (f + 1))]) 3 rfl ⟨by omega, by omega⟩ rfl (by decide) dX12_feasts_147 ?_
        refine zRx.goto (tgt := 113) dX12_feasts_150 (by decide) ?_
        have he : S_X12_feasts_113  kk (n + 1) my f σ = S_X12_feasts_113  kk n (bor my (bshl 1 f)) (f + 1) σ := by rw [S_X12_feasts_113, if_neg (Int.not_le.mpr c120), if_neg c135]
        rw [he] at K
        exact ih (bor my (bshl 1 f)) (f + 1) σ _ (by omega) hk hFD hF hp (by omega) K
def S_X12_feasts_181  (kk my st : Int) : Nat → Int → Int → zG → Int × Int × zG
  | 0, be, f, σ => (be, f, σ)
  | n + 1, be, f, σ => if (σ 2 1) ≤ f then (be, f, σ) else (if hb st f then (S_X12_feasts_181  kk my st n be (f + 1) σ) else (if hb my f then (if (w32 ((w32 (100000 - (σ 2 ((8 + (3 * f)) + 1)))) + (σ 26 ((4096 * (kk + 1)) + (bor st (bshl 1 f)))))) ≤ be then (S_X12_feasts_181  kk my st n be (f + 1) σ) else (S_X12_feasts_181  kk my st n (w32 ((w32 (100000 - (σ 2 ((8 + (3 * f)) + 1)))) + (σ 26 ((4096 * (kk + 1)) + (bor st (bshl 1 f)))))) (f + 1) σ)) else (S_X12_feasts_181  kk my st n be (f + 1) σ)))
theorem fr_S_X12_feasts_181  (kk my st : Int)  (n : Nat) (be f : Int) (σ : zG) {k : Nat} (h : k ∉ []) : (S_X12_feasts_181  kk my st n be f σ).2.2 k = σ k := by
  induction n generalizing be f σ with
  | zero => rfl
  | succ n ih =>
    have ne : ∀ c ∈ [], k ≠ c := fun c hc e => h (e ▸ hc)
    rw [S_X12_feasts_181]
    repeat' split
    all_goals first | rfl | simp only [ih]

set_option maxRecDepth 20000 in
theorem seg_X12_feasts_181   (kk my st : Int) : ∀ (n : Nat) (be f : Int) (σ : zG) (X : zX), 0 ≤ f ∧ (0 ≤ st ∧ st < 4096) ∧ (0 ≤ kk ∧ kk < 8) → 0 ≤ σ 2 1 ∧ σ 2 1 ≤ 12 → 0 ≤ σ 2 0 ∧ σ 2 0 ≤ 8 → (σ 2 1 - f).toNat < n → ((0 ≤ ((S_X12_feasts_181  kk my st n be f σ).2.1) ∧ (0 ≤ st ∧ st < 4096) ∧ (0 ≤ kk ∧ kk < 8)) → (0 ≤ ((S_X12_feasts_181  kk my st n be f σ).2.2) 2 1 ∧ ((S_X12_feasts_181  kk my st n be f σ).2.2) 2 1 ≤ 12) → (0 ≤ ((S_X12_feasts_181  kk my st n be f σ).2.2) 2 0 ∧ ((S_X12_feasts_181  kk my st n be f σ).2.2) 2 0 ≤ 8) → zRx none 6 m_X12_feasts SM 275 [(0, zP 0), (1, .inl kk), (2, .inl my), (3, .inl st), (4, .inl ((S_X12_feasts_181  kk my st n be f σ).1)), (5, .inl ((S_X12_feasts_181  kk my st n be f σ).2.1))] [] ((S_X12_feasts_181  kk my st n be f σ).2.2) X) → zRx none 6 m_X12_feasts SM 181 [(0, zP 0), (1, .inl kk), (2, .inl my), (3, .inl st), (4, .inl be), (5, .inl f)] [] σ X := by
  intro n
  induction n with
  | zero => intro be f σ X h0 hF hp hmz; exact absurd hmz (Nat.not_lt_zero _)
  | succ n ih =>
    intro be f σ X h0 hF hp hmz K
    refine zRx.iload 5 rfl dX12_feasts_181 ?_
    refine zRx.aload_n 0 rfl rfl dX12_feasts_183 ?_
    refine zRx.getR (a := 0) (b := 2) fl_12_33 rfl rfl dX12_feasts_184 ?_
    refine zRx.iconst ⟨by decide, by decide⟩ dX12_feasts_187 ?_
    refine zRx.ialdv (v := σ 2 1) rfl rfl (by decide) (by decide) dX12_feasts_188 ?_
    refine zRx.icmp_ge (tgt := 275) dX12_feasts_189 (by decide) (fun c189 => ?_) (fun c189 => ?_)
    · have he : S_X12_feasts_181  kk my st (n + 1) be f σ = (be, f, σ) := by rw [S_X12_feasts_181, if_pos c189]
      rw [he] at K
      exact K h0 hF hp
    · refine zRx.iload_n 3 rfl rfl dX12_feasts_192 ?_
      refine zRx.iload 5 rfl dX12_feasts_193 ?_
      refine zRx.cSi (w := .inl (b2 (hb st f))) (M := m_X12_has) (av := [.inl st, .inl f]) cs_12_272 mk_X12_has (by decide) rfl (Nat.le_of_ble_eq_true rfl) dX12_feasts_195 (does_X12_has st f SM σ) ?_
      refine zRx.if_neB (tgt := 269) dX12_feasts_198 (by decide) (fun c198 => ?_) (fun c198 => ?_)
      · refine zRx.iinc (n := 1) (ls' := [(0, zP 0), (1, .inl kk), (2, .inl my), (3, .inl st), (4, .inl be), (5, .inl (f + 1))]) 5 rfl ⟨by omega, by omega⟩ rfl (by decide) dX12_feasts_269 ?_
        refine zRx.goto (tgt := 181) dX12_feasts_272 (by decide) ?_
        have he : S_X12_feasts_181  kk my st (n + 1) be f σ = S_X12_feasts_181  kk my st n be (f + 1) σ := by rw [S_X12_feasts_181, if_neg (Int.not_le.mpr c189), if_pos c198]
        rw [he] at K
        exact ih be (f + 1) σ _ (by omega) hF hp (by omega) K
      · refine zRx.iload_n 2 rfl rfl dX12_feasts_201 ?_
        refine zRx.iload 5 rfl dX12_feasts_202 ?_
        refine zRx.cSi (w := .inl (b2 (hb my f))) (M := m_X12_has) (av := [.inl my, .inl f]) cs_12_272 mk_X12_has (by decide) rfl (Nat.le_of_ble_eq_true rfl) dX12_feasts_204 (does_X12_has my f SM σ) ?_
        refine zRx.if_neB (tgt := 213) dX12_feasts_207 (by decide) (fun c207 => ?_) (fun c207 => ?_)
        · have hb9 := bor_12 (m := st) (a := f) (by omega) (by omega)
          refine zRx.ldcw ⟨by decide, by decide⟩ kc_12_418 dX12_feasts_213 ?_
          refine zRx.aload_n 0 rfl rfl dX12_feasts_216 ?_
          refine zRx.getR (a := 0) (b := 2) fl_12_33 rfl rfl dX12_feasts_217 ?_
          refine zRx.bipush ⟨by decide, by decide⟩ rfl dX12_feasts_220 ?_
          refine zRx.iconst ⟨by decide, by decide⟩ dX12_feasts_222 ?_
          refine zRx.iload 5 rfl dX12_feasts_223 ?_
          refine zRx.imul ⟨by omega, by omega⟩ dX12_feasts_225 ?_
          refine zRx.iadd ⟨by omega, by omega⟩ dX12_feasts_226 ?_
          refine zRx.iconst ⟨by decide, by decide⟩ dX12_feasts_227 ?_
          refine zRx.iadd ⟨by omega, by omega⟩ dX12_feasts_228 ?_
          refine zRx.ialdv (v := σ 2 ((8 + (3 * f)) + 1)) rfl rfl (by omega) (by omega) dX12_feasts_229 ?_
          refine zRx.isubW dX12_feasts_230 ?_
          refine zRx.aload_n 0 rfl rfl dX12_feasts_231 ?_
          refine zRx.getR (a := 0) (b := 26) fl_12_108 rfl rfl dX12_feasts_232 ?_
          refine zRx.sipush ⟨by decide, by decide⟩ rfl dX12_feasts_235 ?_
          refine zRx.iload_n 1 rfl rfl dX12_feasts_238 ?_
          refine zRx.iconst ⟨by decide, by decide⟩ dX12_feasts_239 ?_
          refine zRx.iadd ⟨by omega, by omega⟩ dX12_feasts_240 ?_
          refine zRx.imul ⟨by omega, by omega⟩ dX12_feasts_241 ?_
          refine zRx.iload_n 3 rfl rfl dX12_feasts_242 ?_
          refine zRx.iconst ⟨by decide, by decide⟩ dX12_feasts_243 ?_
          refine zRx.iload 5 rfl dX12_feasts_244 ?_
          refine zRx.ishl dX12_feasts_246 ?_
          refine zRx.ior dX12_feasts_247 ?_
          refine zRx.iadd ⟨by omega, by omega⟩ dX12_feasts_248 ?_
          refine zRx.ialdv (v := σ 26 ((4096 * (kk + 1)) + (bor st (bshl 1 f)))) rfl rfl (by omega) (by omega) dX12_feasts_249 ?_
          refine zRx.iaddW dX12_feasts_250 ?_
          refine zRx.istore (ls' := [(0, zP 0), (1, .inl kk), (2, .inl my), (3, .inl st), (4, .inl be), (5, .inl f), (6, .inl (w32 ((w32 (100000 - (σ 2 ((8 + (3 * f)) + 1)))) + (σ 26 ((4096 * (kk + 1)) + (bor st (bshl 1 f)))))))]) rfl (by decide) dX12_feasts_251 ?_
          refine zRx.iload 6 rfl dX12_feasts_253 ?_
          refine zRx.iload 4 rfl dX12_feasts_255 ?_
          refine zRx.icmp_le (tgt := 265) dX12_feasts_257 (by decide) (fun c257 => ?_) (fun c257 => ?_)
          · refine zRx.iload 4 rfl dX12_feasts_265 ?_
            refine zRx.istore (ls' := [(0, zP 0), (1, .inl kk), (2, .inl my), (3, .inl st), (4, .inl be), (5, .inl f), (6, .inl (w32 ((w32 (100000 - (σ 2 ((8 + (3 * f)) + 1)))) + (σ 26 ((4096 * (kk + 1)) + (bor st (bshl 1 f)))))))]) rfl (by decide) dX12_feasts_267 ?_
            refine zRx.iinc (n := 1) (ls' := [(0, zP 0), (1, .inl kk), (2, .inl my), (3, .inl st), (4, .inl be), (5, .inl (f + 1)), (6, .inl (w32 ((w32 (100000 - (σ 2 ((8 + (3 * f)) + 1)))) + (σ 26 ((4096 * (kk + 1)) + (bor st (bshl 1 f)))))))]) 5 rfl ⟨by omega, by omega⟩ rfl (by decide) dX12_feasts_269 ?_
            refine zRx.goto (tgt := 181) dX12_feasts_272 (by decide) ?_
            refine zRx.pick [0, 1, 2, 3, 4, 5] (ls' := [(0, zP 0), (1, .inl kk), (2, .inl my), (3, .inl st), (4, .inl be), (5, .inl (f + 1))]) rfl ?_
            have he : S_X12_feasts_181  kk my st (n + 1) be f σ = S_X12_feasts_181  kk my st n be (f + 1) σ := by rw [S_X12_feasts_181, if_neg (Int.not_le.mpr c189), if_neg c198, if_pos c207, if_pos c257]
            rw [he] at K
            exact ih be (f + 1) σ _ (by omega) hF hp (by omega) K
          · refine zRx.iload 6 rfl dX12_feasts_260 ?_
            refine zRx.goto (tgt := 267) dX12_feasts_262 (by decide) ?_
            refine zRx.istore (ls' := [(0, zP 0), (1, .inl kk), (2, .inl my), (3, .inl st), (4, .inl (w32 ((w32 (100000 - (σ 2 ((8 + (3 * f)) + 1)))) + (σ 26 ((4096 * (kk + 1)) + (bor st (bshl 1 f))))))), (5, .inl f), (6, .inl (w32 ((w32 (100000 - (σ 2 ((8 + (3 * f)) + 1)))) + (σ 26 ((4096 * (kk + 1)) + (bor st (bshl 1 f)))))))]) rfl (by decide) dX12_feasts_267 ?_
            refine zRx.iinc (n := 1) (ls' := [(0, zP 0), (1, .inl kk), (2, .inl my), (3, .inl st), (4, .inl (w32 ((w32 (100000 - (σ 2 ((8 + (3 * f)) + 1)))) + (σ 26 ((4096 * (kk + 1)) + (bor st (bshl 1 f))))))), (5, .inl (f + 1)), (6, .inl (w32 ((w32 (100000 - (σ 2 ((8 + (3 * f)) + 1)))) + (σ 26 ((4096 * (kk + 1)) + (bor st (bshl 1 f)))))))]) 5 rfl ⟨by omega, by omega⟩ rfl (by decide) dX12_feasts_269 ?_
            refine zRx.goto (tgt := 181) dX12_feasts_272 (by decide) ?_
            refine zRx.pick [0, 1, 2, 3, 4, 5] (ls' := [(0, zP 0), (1, .inl kk), (2, .inl my), (3, .inl st), (4, .inl (w32 ((w32 (100000 - (σ 2 ((8 + (3 * f)) + 1)))) + (σ 26 ((4096 * (kk + 1)) + (bor st (bshl 1 f))))))), (5, .inl (f + 1))]) rfl ?_
            have he : S_X12_feasts_181  kk my st (n + 1) be f σ = S_X12_feasts_181  kk my st n (w32 ((w32 (100000 - (σ 2 ((8 + (3 * f)) + 1)))) + (σ 26 ((4096 * (kk + 1)) + (bor st (bshl 1 f)))))) (f + 1) σ := by rw [S_X12_feasts_181, if_neg (Int.not_le.mpr c189), if_neg c198, if_pos c207, if_neg (Int.not_le.mpr c257)]
            rw [he] at K
            exact ih (w32 ((w32 (100000 - (σ 2 ((8 + (3 * f)) + 1)))) + (σ 26 ((4096 * (kk + 1)) + (bor st (bshl 1 f)))))) (f + 1) σ _ (by omega) hF hp (by omega) K
        · refine zRx.goto (tgt := 269) dX12_feasts_210 (by decide) ?_
          refine zRx.iinc (n := 1) (ls' := [(0, zP 0), (1, .inl kk), (2, .inl my), (3, .inl st), (4, .inl be), (5, .inl (f + 1))]) 5 rfl ⟨by omega, by omega⟩ rfl (by decide) dX12_feasts_269 ?_
          refine zRx.goto (tgt := 181) dX12_feasts_272 (by decide) ?_
          have he : S_X12_feasts_181  kk my st (n + 1) be f σ = S_X12_feasts_181  kk my st n be (f + 1) σ := by rw [S_X12_feasts_181, if_neg (Int.not_le.mpr c189), if_neg c198, if_neg c207]
          rw [he] at K
          exact ih be (f + 1) σ _ (by omega) hF hp (by omega) K
def S_X12_feasts_155  (kk my : Int) : Nat → Int → zG → Int × zG
  | 0, st, σ => (st, σ)
  | n + 1, st, σ => if 4096 ≤ st then (st, σ) else (S_X12_feasts_155  kk my n (st + 1) (zu ((S_X12_feasts_181  kk my st 20 (σ 26 ((4096 * (kk + 1)) + st)) 0 σ).2.2) 26 ((4096 * kk) + st) ((S_X12_feasts_181  kk my st 20 (σ 26 ((4096 * (kk + 1)) + st)) 0 σ).1)))
theorem fr_S_X12_feasts_155  (kk my : Int)  (n : Nat) (st : Int) (σ : zG) {k : Nat} (h : k ∉ [26]) : (S_X12_feasts_155  kk my n st σ).2 k = σ k := by
  induction n generalizing st σ with
  | zero => rfl
  | succ n ih =>
    have ne : ∀ c ∈ [26], k ≠ c := fun c hc e => h (e ▸ hc)
    have nk_S_X12_feasts_181 : k ∉ [] := fun hm => h (by first | (revert hm; simp only [List.mem_cons, List.not_mem_nil, or_false]; omega) | (simp at hm))
    rw [S_X12_feasts_155]
    repeat' split
    all_goals first | rfl | simp only [zu_row _ _ _ (ne 26 (by decide)), fr_S_X12_feasts_181 (h := nk_S_X12_feasts_181), ih]

set_option maxRecDepth 20000 in
theorem seg_X12_feasts_155   (kk my : Int) : ∀ (n : Nat) (st : Int) (σ : zG) (X : zX), 0 ≤ st → 0 ≤ kk ∧ kk < σ 0 50 ∧ σ 0 50 ≤ 8 → FD σ → 0 ≤ σ 2 1 ∧ σ 2 1 ≤ 12 → 0 ≤ σ 2 0 ∧ σ 2 0 ≤ 8 → (4096 - st).toNat < n → ((0 ≤ ((S_X12_feasts_155  kk my n st σ).1)) → (0 ≤ kk ∧ kk < ((S_X12_feasts_155  kk my n st σ).2) 0 50 ∧ ((S_X12_feasts_155  kk my n st σ).2) 0 50 ≤ 8) → (FD ((S_X12_feasts_155  kk my n st σ).2)) → (0 ≤ ((S_X12_feasts_155  kk my n st σ).2) 2 1 ∧ ((S_X12_feasts_155  kk my n st σ).2) 2 1 ≤ 12) → (0 ≤ ((S_X12_feasts_155  kk my n st σ).2) 2 0 ∧ ((S_X12_feasts_155  kk my n st σ).2) 2 0 ≤ 8) → zRx none 6 m_X12_feasts SM 295 [(0, zP 0), (1, .inl kk), (2, .inl my), (3, .inl ((S_X12_feasts_155  kk my n st σ).1))] [] ((S_X12_feasts_155  kk my n st σ).2) X) → zRx none 6 m_X12_feasts SM 155 [(0, zP 0), (1, .inl kk), (2, .inl my), (3, .inl st)] [] σ X := by
  intro n
  induction n with
  | zero => intro st σ X h0 hk hFD hF hp hmz; exact absurd hmz (Nat.not_lt_zero _)
  | succ n ih =>
    intro st σ X h0 hk hFD hF hp hmz K
    refine zRx.iload_n 3 rfl rfl dX12_feasts_155 ?_
    refine zRx.sipush ⟨by decide, by decide⟩ rfl dX12_feasts_156 ?_
    refine zRx.icmp_ge (tgt := 295) dX12_feasts_159 (by decide) (fun c159 => ?_) (fun c159 => ?_)
    · have he : S_X12_feasts_155  kk my (n + 1) st σ = (st, σ) := by rw [S_X12_feasts_155, if_pos c159]
      rw [he] at K
      exact K h0 hk hFD hF hp
    · refine zRx.aload_n 0 rfl rfl dX12_feasts_162 ?_
      refine zRx.getR (a := 0) (b := 26) fl_12_108 rfl rfl dX12_feasts_163 ?_
      refine zRx.sipush ⟨by decide, by decide⟩ rfl dX12_feasts_166 ?_
      refine zRx.iload_n 1 rfl rfl dX12_feasts_169 ?_
      refine zRx.iconst ⟨by decide, by decide⟩ dX12_feasts_170 ?_
      refine zRx.iadd ⟨by omega, by omega⟩ dX12_feasts_171 ?_
      refine zRx.imul ⟨by omega, by omega⟩ dX12_feasts_172 ?_
      refine zRx.iload_n 3 rfl rfl dX12_feasts_173 ?_
      refine zRx.iadd ⟨by omega, by omega⟩ dX12_feasts_174 ?_
      refine zRx.ialdv (v := σ 26 ((4096 * (kk + 1)) + st)) rfl rfl (by omega) (by omega) dX12_feasts_175 ?_
      refine zRx.istore (ls' := [(0, zP 0), (1, .inl kk), (2, .inl my), (3, .inl st), (4, .inl (σ 26 ((4096 * (kk + 1)) + st)))]) rfl (by decide) dX12_feasts_176 ?_
      refine zRx.iconst ⟨by decide, by decide⟩ dX12_feasts_178 ?_
      refine zRx.istore (ls' := [(0, zP 0), (1, .inl kk), (2, .inl my), (3, .inl st), (4, .inl (σ 26 ((4096 * (kk + 1)) + st))), (5, .inl 0)]) rfl (by decide) dX12_feasts_179 ?_
      refine seg_X12_feasts_181   kk my st 20 (σ 26 ((4096 * (kk + 1)) + st)) 0 σ _ (by omega) hF hp (by omega) ?_
      intro x181_h0 x181_hF x181_hp
      refine zRx.aload_n 0 rfl rfl dX12_feasts_275 ?_
      refine zRx.getR (a := 0) (b := 26) fl_12_108 rfl rfl dX12_feasts_276 ?_
      refine zRx.sipush ⟨by decide, by decide⟩ rfl dX12_feasts_279 ?_
      refine zRx.iload_n 1 rfl rfl dX12_feasts_282 ?_
      refine zRx.imul ⟨by omega, by omega⟩ dX12_feasts_283 ?_
      refine zRx.iload_n 3 rfl rfl dX12_feasts_284 ?_
      refine zRx.iadd ⟨by omega, by omega⟩ dX12_feasts_285 ?_
      refine zRx.iload 4 rfl dX12_feasts_286 ?_
      refine zRx.iast rfl (by omega) (by omega) dX12_feasts_288 ?_
      refine zRx.iinc (n := 1) (ls' := [(0, zP 0), (1, .inl kk), (2, .inl my), (3, .inl (st + 1)), (4, .inl ((S_X12_feasts_181  kk my st 20 (σ 26 ((4096 * (kk + 1)) + st)) 0 σ).1)), (5, .inl ((S_X12_feasts_181  kk my st 20 (σ 26 ((4096 * (kk + 1)) + st)) 0 σ).2.1))]) 3 rfl ⟨by omega, by omega⟩ rfl (by decide) dX12_feasts_289 ?_
      refine zRx.goto (tgt := 155) dX12_feasts_292 (by decide) ?_
      refine zRx.pick [0, 1, 2, 3] (ls' := [(0, zP 0), (1, .inl kk), (2, .inl my), (3, .inl (st + 1))]) rfl ?_
      have he : S_X12_feasts_155  kk my (n + 1) st σ = S_X12_feasts_155  kk my n (st + 1) (zu ((S_X12_feasts_181  kk my st 20 (σ 26 ((4096 * (kk + 1)) + st)) 0 σ).2.2) 26 ((4096 * kk) + st) ((S_X12_feasts_181  kk my st 20 (σ 26 ((4096 * (kk + 1)) + st)) 0 σ).1)) := by rw [S_X12_feasts_155, if_neg (Int.not_le.mpr c159)]
      rw [he] at K
      exact ih (st + 1) (zu ((S_X12_feasts_181  kk my st 20 (σ 26 ((4096 * (kk + 1)) + st)) 0 σ).2.2) 26 ((4096 * kk) + st) ((S_X12_feasts_181  kk my st 20 (σ 26 ((4096 * (kk + 1)) + st)) 0 σ).1)) _ (by omega) (by have e9 : (zu ((S_X12_feasts_181  kk my st 20 (σ 26 ((4096 * (kk + 1)) + st)) 0 σ).2.2) 26 ((4096 * kk) + st) ((S_X12_feasts_181  kk my st 20 (σ 26 ((4096 * (kk + 1)) + st)) 0 σ).1)) 0 50 = σ 0 50 := ((zu_ne _ _ _ _ (by decide)).trans (congrFun (fr_S_X12_feasts_181  kk my st 20 (σ 26 ((4096 * (kk + 1)) + st)) 0 σ (k := 0) (by decide)) _)); omega) (FD_of ((zu_ne _ _ _ _ (by decide)).trans (congrFun (fr_S_X12_feasts_181  kk my st 20 (σ 26 ((4096 * (kk + 1)) + st)) 0 σ (k := 0) (by decide)) _)) ((zu_row _ _ _ (by decide)).trans (fr_S_X12_feasts_181  kk my st 20 (σ 26 ((4096 * (kk + 1)) + st)) 0 σ (k := 28) (by decide))) ((zu_row _ _ _ (by decide)).trans (fr_S_X12_feasts_181  kk my st 20 (σ 26 ((4096 * (kk + 1)) + st)) 0 σ (k := 16) (by decide))) hFD) (by have e9 : (zu ((S_X12_feasts_181  kk my st 20 (σ 26 ((4096 * (kk + 1)) + st)) 0 σ).2.2) 26 ((4096 * kk) + st) ((S_X12_feasts_181  kk my st 20 (σ 26 ((4096 * (kk + 1)) + st)) 0 σ).1)) 2 1 = σ 2 1 := ((zu_ne _ _ _ _ (by decide)).trans (congrFun (fr_S_X12_feasts_181  kk my st 20 (σ 26 ((4096 * (kk + 1)) + st)) 0 σ (k := 2) (by decide)) _)); omega) (by have e9 : (zu ((S_X12_feasts_181  kk my st 20 (σ 26 ((4096 * (kk + 1)) + st)) 0 σ).2.2) 26 ((4096 * kk) + st) ((S_X12_feasts_181  kk my st 20 (σ 26 ((4096 * (kk + 1)) + st)) 0 σ).1)) 2 0 = σ 2 0 := ((zu_ne _ _ _ _ (by decide)).trans (congrFun (fr_S_X12_feasts_181  kk my st 20 (σ 26 ((4096 * (kk + 1)) + st)) 0 σ (k := 2) (by decide)) _)); omega) (by omega) K
def S_X12_feasts_105  : Nat → Int → zG → Int × zG
  | 0, kk, σ => (kk, σ)
  | n + 1, kk, σ => if kk < 0 then (kk, σ) else (S_X12_feasts_105  n (kk + (-1)) ((S_X12_feasts_155  kk ((S_X12_feasts_113  kk 20 0 0 σ).1) 5000 0 ((S_X12_feasts_113  kk 20 0 0 σ).2.2)).2))
theorem fr_S_X12_feasts_105   (n : Nat) (kk : Int) (σ : zG) {k : Nat} (h : k ∉ [26]) : (S_X12_feasts_105  n kk σ).2 k = σ k := by
  induction n generalizing kk σ with
  | zero => rfl
  | succ n ih =>
    have ne : ∀ c ∈ [26], k ≠ c := fun c hc e => h (e ▸ hc)
    have nk_S_X12_feasts_155 : k ∉ [26] := fun hm => h (by first | (revert hm; simp only [List.mem_cons, List.not_mem_nil, or_false]; omega) | (simp at hm))
    have nk_S_X12_feasts_113 : k ∉ [] := fun hm => h (by first | (revert hm; simp only [List.mem_cons, List.not_mem_nil, or_false]; omega) | (simp at hm))
    rw [S_X12_feasts_105]
    repeat' split
    all_goals first | rfl | simp only [zu_row _ _ _ (ne 26 (by decide)), fr_S_X12_feasts_155 (h := nk_S_X12_feasts_155), fr_S_X12_feasts_113 (h := nk_S_X12_feasts_113), ih]

set_option maxRecDepth 20000 in
theorem seg_X12_feasts_105   : ∀ (n : Nat) (kk : Int) (σ : zG) (X : zX), -1 ≤ kk ∧ kk < σ 0 50 ∧ σ 0 50 ≤ 8 ∧ 0 ≤ σ 0 50 → FD σ → 0 ≤ σ 2 1 ∧ σ 2 1 ≤ 12 → 0 ≤ σ 2 0 ∧ σ 2 0 ≤ 8 → (kk + 1).toNat < n → ((-1 ≤ ((S_X12_feasts_105  n kk σ).1) ∧ ((S_X12_feasts_105  n kk σ).1) < ((S_X12_feasts_105  n kk σ).2) 0 50 ∧ ((S_X12_feasts_105  n kk σ).2) 0 50 ≤ 8 ∧ 0 ≤ ((S_X12_feasts_105  n kk σ).2) 0 50) → (FD ((S_X12_feasts_105  n kk σ).2)) → (0 ≤ ((S_X12_feasts_105  n kk σ).2) 2 1 ∧ ((S_X12_feasts_105  n kk σ).2) 2 1 ≤ 12) → (0 ≤ ((S_X12_feasts_105  n kk σ).2) 2 0 ∧ ((S_X12_feasts_105  n kk σ).2) 2 0 ≤ 8) → zRx none 6 m_X12_feasts SM 301 [(0, zP 0), (1, .inl ((S_X12_feasts_105  n kk σ).1))] [] ((S_X12_feasts_105  n kk σ).2) X) → zRx none 6 m_X12_feasts SM 105 [(0, zP 0), (1, .inl kk)] [] σ X := by
  intro n
  induction n with
  | zero => intro kk σ X h0 hFD hF hp hmz; exact absurd hmz (Nat.not_lt_zero _)
  | succ n ih =>
    intro kk σ X h0 hFD hF hp hmz K
    refine zRx.iload_n 1 rfl rfl dX12_feasts_105 ?_
    refine zRx.if_lt (tgt := 301) dX12_feasts_106 (by decide) (fun c106 => ?_) (fun c106 => ?_)
    · have he : S_X12_feasts_105  (n + 1) kk σ = (kk, σ) := by rw [S_X12_feasts_105, if_pos c106]
      rw [he] at K
      exact K h0 hFD hF hp
    · refine zRx.iconst ⟨by decide, by decide⟩ dX12_feasts_109 ?_
      refine zRx.istore_n (ls' := [(0, zP 0), (1, .inl kk), (2, .inl 0)]) rfl rfl (by decide) dX12_feasts_110 ?_
      refine zRx.iconst ⟨by decide, by decide⟩ dX12_feasts_111 ?_
      refine zRx.istore_n (ls' := [(0, zP 0), (1, .inl kk), (2, .inl 0), (3, .inl 0)]) rfl rfl (by decide) dX12_feasts_112 ?_
      refine seg_X12_feasts_113   kk 20 0 0 σ _ (by omega) (by omega) hFD hF hp (by omega) ?_
      intro x113_h0 x113_hk x113_hFD x113_hF x113_hp
      refine zRx.iconst ⟨by decide, by decide⟩ dX12_feasts_153 ?_
      refine zRx.istore_n (ls' := [(0, zP 0), (1, .inl kk), (2, .inl ((S_X12_feasts_113  kk 20 0 0 σ).1)), (3, .inl 0)]) rfl rfl (by decide) dX12_feasts_154 ?_
      refine seg_X12_feasts_155   kk ((S_X12_feasts_113  kk 20 0 0 σ).1) 5000 0 ((S_X12_feasts_113  kk 20 0 0 σ).2.2) _ (by omega) x113_hk x113_hFD x113_hF x113_hp (by omega) ?_
      intro x155_h0 x155_hk x155_hFD x155_hF x155_hp
      refine zRx.iinc (n := -1) (ls' := [(0, zP 0), (1, .inl (kk + (-1))), (2, .inl ((S_X12_feasts_113  kk 20 0 0 σ).1)), (3, .inl ((S_X12_feasts_155  kk ((S_X12_feasts_113  kk 20 0 0 σ).1) 5000 0 ((S_X12_feasts_113  kk 20 0 0 σ).2.2)).1))]) 1 rfl ⟨by omega, by omega⟩ rfl (by decide) dX12_feasts_295 ?_
      refine zRx.goto (tgt := 105) dX12_feasts_298 (by decide) ?_
      refine zRx.pick [0, 1] (ls' := [(0, zP 0), (1, .inl (kk + (-1)))]) rfl ?_
      have he : S_X12_feasts_105  (n + 1) kk σ = S_X12_feasts_105  n (kk + (-1)) ((S_X12_feasts_155  kk ((S_X12_feasts_113  kk 20 0 0 σ).1) 5000 0 ((S_X12_feasts_113  kk 20 0 0 σ).2.2)).2) := by rw [S_X12_feasts_105, if_neg (Int.not_lt.mpr c106)]
      rw [he] at K
      exact ih (kk + (-1)) ((S_X12_feasts_155  kk ((S_X12_feasts_113  kk 20 0 0 σ).1) 5000 0 ((S_X12_feasts_113  kk 20 0 0 σ).2.2)).2) _ (by omega) x155_hFD x155_hF x155_hp (by omega) K
def S_X12_feasts_329  (st kk : Int) : Nat → Int → zG → Int × zG
  | 0, f, σ => (f, σ)
  | n + 1, f, σ => if f < 0 then (f, σ) else (if hb st f then (S_X12_feasts_329  st kk n (f + (-1)) σ) else (if (R_X12_mayPay σ (σ 28 kk) f) = 0 then (S_X12_feasts_329  st kk n (f + (-1)) σ) else (if (w32 ((w32 (100000 - (σ 2 ((8 + (3 * f)) + 1)))) + (σ 26 ((4096 * (kk + 1)) + (bor st (bshl 1 f)))))) = (σ 26 ((4096 * kk) + st)) then (S_X12_feasts_329  st kk n (f + (-1)) (zu σ 27 kk f)) else (S_X12_feasts_329  st kk n (f + (-1)) σ))))
theorem fr_S_X12_feasts_329  (st kk : Int)  (n : Nat) (f : Int) (σ : zG) {k : Nat} (h : k ∉ [27]) : (S_X12_feasts_329  st kk n f σ).2 k = σ k := by
  induction n generalizing f σ with
  | zero => rfl
  | succ n ih =>
    have ne : ∀ c ∈ [27], k ≠ c := fun c hc e => h (e ▸ hc)
    rw [S_X12_feasts_329]
    repeat' split
    all_goals first | rfl | simp only [zu_row _ _ _ (ne 27 (by decide)), ih]

set_option maxRecDepth 20000 in
theorem seg_X12_feasts_329   (st kk : Int) : ∀ (n : Nat) (f : Int) (σ : zG) (X : zX), -1 ≤ f ∧ f < 12 ∧ 0 ≤ st ∧ st < 4096 → 0 ≤ kk ∧ kk < σ 0 50 ∧ σ 0 50 ≤ 8 → FD σ → 0 ≤ σ 2 1 ∧ σ 2 1 ≤ 12 → 0 ≤ σ 2 0 ∧ σ 2 0 ≤ 8 → -1 ≤ σ 27 kk ∧ σ 27 kk < 12 → FF σ kk → (f + 1).toNat < n → ((-1 ≤ ((S_X12_feasts_329  st kk n f σ).1) ∧ ((S_X12_feasts_329  st kk n f σ).1) < 12 ∧ 0 ≤ st ∧ st < 4096) → (0 ≤ kk ∧ kk < ((S_X12_feasts_329  st kk n f σ).2) 0 50 ∧ ((S_X12_feasts_329  st kk n f σ).2) 0 50 ≤ 8) → (FD ((S_X12_feasts_329  st kk n f σ).2)) → (0 ≤ ((S_X12_feasts_329  st kk n f σ).2) 2 1 ∧ ((S_X12_feasts_329  st kk n f σ).2) 2 1 ≤ 12) → (0 ≤ ((S_X12_feasts_329  st kk n f σ).2) 2 0 ∧ ((S_X12_feasts_329  st kk n f σ).2) 2 0 ≤ 8) → (-1 ≤ ((S_X12_feasts_329  st kk n f σ).2) 27 kk ∧ ((S_X12_feasts_329  st kk n f σ).2) 27 kk < 12) → (FF ((S_X12_feasts_329  st kk n f σ).2) kk) → zRx none 6 m_X12_feasts SM 419 [(0, zP 0), (1, .inl st), (2, .inl kk), (3, .inl ((S_X12_feasts_329  st kk n f σ).1))] [] ((S_X12_feasts_329  st kk n f σ).2) X) → zRx none 6 m_X12_feasts SM 329 [(0, zP 0), (1, .inl st), (2, .inl kk), (3, .inl f)] [] σ X := by
  intro n
  induction n with
  | zero => intro f σ X h0 hk hFD hF hp hv hff hmz; exact absurd hmz (Nat.not_lt_zero _)
  | succ n ih =>
    intro f σ X h0 hk hFD hF hp hv hff hmz K
    refine zRx.iload_n 3 rfl rfl dX12_feasts_329 ?_
    refine zRx.if_lt (tgt := 419) dX12_feasts_330 (by decide) (fun c330 => ?_) (fun c330 => ?_)
    · have he : S_X12_feasts_329  st kk (n + 1) f σ = (f, σ) := by rw [S_X12_feasts_329, if_pos c330]
      rw [he] at K
      exact K h0 hk hFD hF hp hv hff
    · refine zRx.iload_n 1 rfl rfl dX12_feasts_333 ?_
      refine zRx.iload_n 3 rfl rfl dX12_feasts_334 ?_
      refine zRx.cSi (w := .inl (b2 (hb st f))) (M := m_X12_has) (av := [.inl st, .inl f]) cs_12_272 mk_X12_has (by decide) rfl (Nat.le_of_ble_eq_true rfl) dX12_feasts_335 (does_X12_has st f SM σ) ?_
      refine zRx.if_neB (tgt := 413) dX12_feasts_338 (by decide) (fun c338 => ?_) (fun c338 => ?_)
      · refine zRx.iinc (n := -1) (ls' := [(0, zP 0), (1, .inl st), (2, .inl kk), (3, .inl (f + (-1)))]) 3 rfl ⟨by omega, by omega⟩ rfl (by decide) dX12_feasts_413 ?_
        refine zRx.goto (tgt := 329) dX12_feasts_416 (by decide) ?_
        have he : S_X12_feasts_329  st kk (n + 1) f σ = S_X12_feasts_329  st kk n (f + (-1)) σ := by rw [S_X12_feasts_329, if_neg (Int.not_lt.mpr c330), if_pos c338]
        rw [he] at K
        exact ih (f + (-1)) σ _ (by omega) hk hFD hF hp hv hff (by omega) K
      · refine zRx.aload_n 0 rfl rfl dX12_feasts_341 ?_
        refine zRx.aload_n 0 rfl rfl dX12_feasts_342 ?_
        refine zRx.getR (a := 0) (b := 28) fl_12_114 rfl rfl dX12_feasts_343 ?_
        refine zRx.iload_n 2 rfl rfl dX12_feasts_346 ?_
        refine zRx.ialdv (v := σ 28 kk) rfl rfl (by omega) (by omega) dX12_feasts_347 ?_
        refine zRx.iload_n 3 rfl rfl dX12_feasts_348 ?_
        refine zRx.cVi (w := .inl (R_X12_mayPay σ (σ 28 kk) f)) (M := m_X12_mayPay) (av := [.inl (σ 28 kk), .inl f]) cv_12_415 mk_X12_mayPay (by decide) (b := 0) rfl rfl (Nat.le_of_ble_eq_true rfl) dX12_feasts_349 (does_X12_mayPay σ (σ 28 kk) f (by have h9 := hFD kk (by omega) (by omega); omega) (by omega) hp (by have h9 := hFD kk (by omega) (by omega); omega)) ?_
        refine zRx.if_eq (tgt := 413) dX12_feasts_352 (by decide) (fun c352 => ?_) (fun c352 => ?_)
        · refine zRx.iinc (n := -1) (ls' := [(0, zP 0), (1, .inl st), (2, .inl kk), (3, .inl (f + (-1)))]) 3 rfl ⟨by omega, by omega⟩ rfl (by decide) dX12_feasts_413 ?_
          refine zRx.goto (tgt := 329) dX12_feasts_416 (by decide) ?_
          have he : S_X12_feasts_329  st kk (n + 1) f σ = S_X12_feasts_329  st kk n (f + (-1)) σ := by rw [S_X12_feasts_329, if_neg (Int.not_lt.mpr c330), if_neg c338, if_pos c352]
          rw [he] at K
          exact ih (f + (-1)) σ _ (by omega) hk hFD hF hp hv hff (by omega) K
        · have hb9 := bor_12 (m := st) (a := f) (by omega) (by omega)
          refine zRx.ldcw ⟨by decide, by decide⟩ kc_12_418 dX12_feasts_355 ?_
          refine zRx.aload_n 0 rfl rfl dX12_feasts_358 ?_
          refine zRx.getR (a := 0) (b := 2) fl_12_33 rfl rfl dX12_feasts_359 ?_
          refine zRx.bipush ⟨by decide, by decide⟩ rfl dX12_feasts_362 ?_
          refine zRx.iconst ⟨by decide, by decide⟩ dX12_feasts_364 ?_
          refine zRx.iload_n 3 rfl rfl dX12_feasts_365 ?_
          refine zRx.imul ⟨by omega, by omega⟩ dX12_feasts_366 ?_
          refine zRx.iadd ⟨by omega, by omega⟩ dX12_feasts_367 ?_
          refine zRx.iconst ⟨by decide, by decide⟩ dX12_feasts_368 ?_
          refine zRx.iadd ⟨by omega, by omega⟩ dX12_feasts_369 ?_
          refine zRx.ialdv (v := σ 2 ((8 + (3 * f)) + 1)) rfl rfl (by omega) (by omega) dX12_feasts_370 ?_
          refine zRx.isubW dX12_feasts_371 ?_
          refine zRx.aload_n 0 rfl rfl dX12_feasts_372 ?_
          refine zRx.getR (a := 0) (b := 26) fl_12_108 rfl rfl dX12_feasts_373 ?_
          refine zRx.sipush ⟨by decide, by decide⟩ rfl dX12_feasts_376 ?_
          refine zRx.iload_n 2 rfl rfl dX12_feasts_379 ?_
          refine zRx.iconst ⟨by decide, by decide⟩ dX12_feasts_380 ?_
          refine zRx.iadd ⟨by omega, by omega⟩ dX12_feasts_381 ?_
          refine zRx.imul ⟨by omega, by omega⟩ dX12_feasts_382 ?_
          refine zRx.iload_n 1 rfl rfl dX12_feasts_383 ?_
          refine zRx.iconst ⟨by decide, by decide⟩ dX12_feasts_384 ?_
          refine zRx.iload_n 3 rfl rfl dX12_feasts_385 ?_
          refine zRx.ishl dX12_feasts_386 ?_
          refine zRx.ior dX12_feasts_387 ?_
          refine zRx.iadd ⟨by omega, by omega⟩ dX12_feasts_388 ?_
          refine zRx.ialdv (v := σ 26 ((4096 * (kk + 1)) + (bor st (bshl 1 f)))) rfl rfl (by omega) (by omega) dX12_feasts_389 ?_
          refine zRx.iaddW dX12_feasts_390 ?_
          refine zRx.aload_n 0 rfl rfl dX12_feasts_391 ?_
          refine zRx.getR (a := 0) (b := 26) fl_12_108 rfl rfl dX12_feasts_392 ?_
          refine zRx.sipush ⟨by decide, by decide⟩ rfl dX12_feasts_395 ?_
          refine zRx.iload_n 2 rfl rfl dX12_feasts_398 ?_
          refine zRx.imul ⟨by omega, by omega⟩ dX12_feasts_399 ?_
          refine zRx.iload_n 1 rfl rfl dX12_feasts_400 ?_
          refine zRx.iadd ⟨by omega, by omega⟩ dX12_feasts_401 ?_
          refine zRx.ialdv (v := σ 26 ((4096 * kk) + st)) rfl rfl (by omega) (by omega) dX12_feasts_402 ?_
          refine zRx.icmp_ne (tgt := 413) dX12_feasts_403 (by decide) (fun c403 => ?_) (fun c403 => ?_)
          · refine zRx.iinc (n := -1) (ls' := [(0, zP 0), (1, .inl st), (2, .inl kk), (3, .inl (f + (-1)))]) 3 rfl ⟨by omega, by omega⟩ rfl (by decide) dX12_feasts_413 ?_
            refine zRx.goto (tgt := 329) dX12_feasts_416 (by decide) ?_
            have he : S_X12_feasts_329  st kk (n + 1) f σ = S_X12_feasts_329  st kk n (f + (-1)) σ := by rw [S_X12_feasts_329, if_neg (Int.not_lt.mpr c330), if_neg c338, if_neg c352, if_neg c403]
            rw [he] at K
            exact ih (f + (-1)) σ _ (by omega) hk hFD hF hp hv hff (by omega) K
          · refine zRx.aload_n 0 rfl rfl dX12_feasts_406 ?_
            refine zRx.getR (a := 0) (b := 27) fl_12_111 rfl rfl dX12_feasts_407 ?_
            refine zRx.iload_n 2 rfl rfl dX12_feasts_410 ?_
            refine zRx.iload_n 3 rfl rfl dX12_feasts_411 ?_
            refine zRx.iast rfl (by omega) (by omega) dX12_feasts_412 ?_
            refine zRx.iinc (n := -1) (ls' := [(0, zP 0), (1, .inl st), (2, .inl kk), (3, .inl (f + (-1)))]) 3 rfl ⟨by omega, by omega⟩ rfl (by decide) dX12_feasts_413 ?_
            refine zRx.goto (tgt := 329) dX12_feasts_416 (by decide) ?_
            have he : S_X12_feasts_329  st kk (n + 1) f σ = S_X12_feasts_329  st kk n (f + (-1)) (zu σ 27 kk f) := by rw [S_X12_feasts_329, if_neg (Int.not_lt.mpr c330), if_neg c338, if_neg c352, if_pos c403]
            rw [he] at K
            exact ih (f + (-1)) (zu σ 27 kk f) _ (by omega) hk (FD_of (zu_ne _ _ _ _ (by decide)) (zu_row _ _ _ (by decide)) (zu_row _ _ _ (by decide)) hFD) (by rw [zu_ne _ _ _ _ (by decide)]; exact hF) (by rw [zu_ne _ _ _ _ (by decide)]; exact hp) (by rw [zu_at]; omega) (FF_put hff (by omega)) (by omega) K
def S_X12_feasts_305  : Nat → Int → Int → zG → Int × Int × zG
  | 0, st, kk, σ => (st, kk, σ)
  | n + 1, st, kk, σ => if (σ 0 50) ≤ kk then (st, kk, σ) else (if 0 ≤ (((S_X12_feasts_329  st kk 20 ((σ 2 1) - 1) (zu σ 27 kk (-1))).2) 27 kk) then (S_X12_feasts_305  n (bor st (bshl 1 (((S_X12_feasts_329  st kk 20 ((σ 2 1) - 1) (zu σ 27 kk (-1))).2) 27 kk))) (kk + 1) ((S_X12_feasts_329  st kk 20 ((σ 2 1) - 1) (zu σ 27 kk (-1))).2)) else (S_X12_feasts_305  n (bor st 0) (kk + 1) ((S_X12_feasts_329  st kk 20 ((σ 2 1) - 1) (zu σ 27 kk (-1))).2)))
theorem fr_S_X12_feasts_305   (n : Nat) (st kk : Int) (σ : zG) {k : Nat} (h : k ∉ [27]) : (S_X12_feasts_305  n st kk σ).2.2 k = σ k := by
  induction n generalizing st kk σ with
  | zero => rfl
  | succ n ih =>
    have ne : ∀ c ∈ [27], k ≠ c := fun c hc e => h (e ▸ hc)
    have nk_S_X12_feasts_329 : k ∉ [27] := fun hm => h (by first | (revert hm; simp only [List.mem_cons, List.not_mem_nil, or_false]; omega) | (simp at hm))
    rw [S_X12_feasts_305]
    repeat' split
    all_goals first | rfl | simp only [zu_row _ _ _ (ne 27 (by decide)), fr_S_X12_feasts_329 (h := nk_S_X12_feasts_329), ih]

set_option maxRecDepth 20000 in
theorem seg_X12_feasts_305   : ∀ (n : Nat) (st kk : Int) (σ : zG) (X : zX), (0 ≤ st ∧ st < 4096) ∧ 0 ≤ kk ∧ kk ≤ σ 0 50 ∧ σ 0 50 ≤ 8 → FD σ → 0 ≤ σ 2 1 ∧ σ 2 1 ≤ 12 → 0 ≤ σ 2 0 ∧ σ 2 0 ≤ 8 → FF σ kk → (σ 0 50 - kk).toNat < n → (((0 ≤ ((S_X12_feasts_305  n st kk σ).1) ∧ ((S_X12_feasts_305  n st kk σ).1) < 4096) ∧ 0 ≤ ((S_X12_feasts_305  n st kk σ).2.1) ∧ ((S_X12_feasts_305  n st kk σ).2.1) ≤ ((S_X12_feasts_305  n st kk σ).2.2) 0 50 ∧ ((S_X12_feasts_305  n st kk σ).2.2) 0 50 ≤ 8) → (FD ((S_X12_feasts_305  n st kk σ).2.2)) → (0 ≤ ((S_X12_feasts_305  n st kk σ).2.2) 2 1 ∧ ((S_X12_feasts_305  n st kk σ).2.2) 2 1 ≤ 12) → (0 ≤ ((S_X12_feasts_305  n st kk σ).2.2) 2 0 ∧ ((S_X12_feasts_305  n st kk σ).2.2) 2 0 ≤ 8) → (FF ((S_X12_feasts_305  n st kk σ).2.2) ((S_X12_feasts_305  n st kk σ).2.1)) → (((S_X12_feasts_305  n st kk σ).2.2) 0 50 ≤ ((S_X12_feasts_305  n st kk σ).2.1)) → zRx none 6 m_X12_feasts SM 449 [(0, zP 0), (1, .inl ((S_X12_feasts_305  n st kk σ).1)), (2, .inl ((S_X12_feasts_305  n st kk σ).2.1))] [] ((S_X12_feasts_305  n st kk σ).2.2) X) → zRx none 6 m_X12_feasts SM 305 [(0, zP 0), (1, .inl st), (2, .inl kk)] [] σ X := by
  intro n
  induction n with
  | zero => intro st kk σ X h0 hFD hF hp hff hmz; exact absurd hmz (Nat.not_lt_zero _)
  | succ n ih =>
    intro st kk σ X h0 hFD hF hp hff hmz K
    refine zRx.iload_n 2 rfl rfl dX12_feasts_305 ?_
    refine zRx.aload_n 0 rfl rfl dX12_feasts_306 ?_
    refine zRx.getIv (a := 0) (ji := 50) (v := σ 0 50) rfl fl_12_412 rfl rfl rfl dX12_feasts_307 ?_
    refine zRx.icmp_ge (tgt := 449) dX12_feasts_310 (by decide) (fun c310 => ?_) (fun c310 => ?_)
    · have he : S_X12_feasts_305  (n + 1) st kk σ = (st, kk, σ) := by rw [S_X12_feasts_305, if_pos c310]
      rw [he] at K
      exact K h0 hFD hF hp hff c310
    · refine zRx.aload_n 0 rfl rfl dX12_feasts_313 ?_
      refine zRx.getR (a := 0) (b := 27) fl_12_111 rfl rfl dX12_feasts_314 ?_
      refine zRx.iload_n 2 rfl rfl dX12_feasts_317 ?_
      refine zRx.iconst ⟨by decide, by decide⟩ dX12_feasts_318 ?_
      refine zRx.iast rfl (by omega) (by omega) dX12_feasts_319 ?_
      refine zRx.aload_n 0 rfl rfl dX12_feasts_320 ?_
      refine zRx.getR (a := 0) (b := 2) fl_12_33 rfl rfl dX12_feasts_321 ?_
      refine zRx.iconst ⟨by decide, by decide⟩ dX12_feasts_324 ?_
      refine zRx.ialdv (v := σ 2 1) (zu_ne _ _ _ _ (by decide)) rfl (by decide) (by decide) dX12_feasts_325 ?_
      refine zRx.iconst ⟨by decide, by decide⟩ dX12_feasts_326 ?_
      refine zRx.isub ⟨by omega, by omega⟩ dX12_feasts_327 ?_
      refine zRx.istore_n (ls' := [(0, zP 0), (1, .inl st), (2, .inl kk), (3, .inl ((σ 2 1) - 1))]) rfl rfl (by decide) dX12_feasts_328 ?_
      refine seg_X12_feasts_329   st kk 20 ((σ 2 1) - 1) (zu σ 27 kk (-1)) _ (by omega) (by rw [zu_ne _ _ _ _ (by decide)]; omega) (FD_of (zu_ne _ _ _ _ (by decide)) (zu_row _ _ _ (by decide)) (zu_row _ _ _ (by decide)) hFD) (by rw [zu_ne _ _ _ _ (by decide)]; exact hF) (by rw [zu_ne _ _ _ _ (by decide)]; exact hp) (by rw [zu_at]; decide) (FF_put hff (by omega)) (by omega) ?_
      intro x329_h0 x329_hk x329_hFD x329_hF x329_hp x329_hv x329_hff
      have hz1 := bor_z (m := st) (by omega)
      have hz2 := fun h => bor_12 (m := st) (a := ((S_X12_feasts_329  st kk 20 ((σ 2 1) - 1) (zu σ 27 kk (-1))).2) 27 kk) (by omega) h
      have e419 : ((S_X12_feasts_329  st kk 20 ((σ 2 1) - 1) (zu σ 27 kk (-1))).2) 0 50 = σ 0 50 := ((congrFun (fr_S_X12_feasts_329  st kk 20 ((σ 2 1) - 1) (zu σ 27 kk (-1)) (k := 0) (by decide)) _).trans (zu_ne _ _ _ _ (by decide)))
      refine zRx.iload_n 1 rfl rfl dX12_feasts_419 ?_
      refine zRx.aload_n 0 rfl rfl dX12_feasts_420 ?_
      refine zRx.getR (a := 0) (b := 27) fl_12_111 rfl rfl dX12_feasts_421 ?_
      refine zRx.iload_n 2 rfl rfl dX12_feasts_424 ?_
      refine zRx.ialdv (v := ((S_X12_feasts_329  st kk 20 ((σ 2 1) - 1) (zu σ 27 kk (-1))).2) 27 kk) rfl rfl (by omega) (by omega) dX12_feasts_425 ?_
      refine zRx.if_ge (tgt := 433) dX12_feasts_426 (by decide) (fun c426 => ?_) (fun c426 => ?_)
      · refine zRx.iconst ⟨by decide, by decide⟩ dX12_feasts_433 ?_
        refine zRx.aload_n 0 rfl rfl dX12_feasts_434 ?_
        refine zRx.getR (a := 0) (b := 27) fl_12_111 rfl rfl dX12_feasts_435 ?_
        refine zRx.iload_n 2 rfl rfl dX12_feasts_438 ?_
        refine zRx.ialdv (v := ((S_X12_feasts_329  st kk 20 ((σ 2 1) - 1) (zu σ 27 kk (-1))).2) 27 kk) rfl rfl (by omega) (by omega) dX12_feasts_439 ?_
        refine zRx.ishl dX12_feasts_440 ?_
        refine zRx.ior dX12_feasts_441 ?_
        refine zRx.istore_n (ls' := [(0, zP 0), (1, .inl (bor st (bshl 1 (((S_X12_feasts_329  st kk 20 ((σ 2 1) - 1) (zu σ 27 kk (-1))).2) 27 kk)))), (2, .inl kk), (3, .inl ((S_X12_feasts_329  st kk 20 ((σ 2 1) - 1) (zu σ 27 kk (-1))).1))]) rfl rfl (by decide) dX12_feasts_442 ?_
        refine zRx.iinc (n := 1) (ls' := [(0, zP 0), (1, .inl (bor st (bshl 1 (((S_X12_feasts_329  st kk 20 ((σ 2 1) - 1) (zu σ 27 kk (-1))).2) 27 kk)))), (2, .inl (kk + 1)), (3, .inl ((S_X12_feasts_329  st kk 20 ((σ 2 1) - 1) (zu σ 27 kk (-1))).1))]) 2 rfl ⟨by omega, by omega⟩ rfl (by decide) dX12_feasts_443 ?_
        refine zRx.goto (tgt := 305) dX12_feasts_446 (by decide) ?_
        refine zRx.pick [0, 1, 2] (ls' := [(0, zP 0), (1, .inl (bor st (bshl 1 (((S_X12_feasts_329  st kk 20 ((σ 2 1) - 1) (zu σ 27 kk (-1))).2) 27 kk)))), (2, .inl (kk + 1))]) rfl ?_
        have he : S_X12_feasts_305  (n + 1) st kk σ = S_X12_feasts_305  n (bor st (bshl 1 (((S_X12_feasts_329  st kk 20 ((σ 2 1) - 1) (zu σ 27 kk (-1))).2) 27 kk))) (kk + 1) ((S_X12_feasts_329  st kk 20 ((σ 2 1) - 1) (zu σ 27 kk (-1))).2) := by rw [S_X12_feasts_305, if_neg (Int.not_le.mpr c310), if_pos c426]
        rw [he] at K
        exact ih (bor st (bshl 1 (((S_X12_feasts_329  st kk 20 ((σ 2 1) - 1) (zu σ 27 kk (-1))).2) 27 kk))) (kk + 1) ((S_X12_feasts_329  st kk 20 ((σ 2 1) - 1) (zu σ 27 kk (-1))).2) _ (by omega) x329_hFD x329_hF x329_hp (FF_more x329_hff x329_hv) (by omega) K
      · refine zRx.iconst ⟨by decide, by decide⟩ dX12_feasts_429 ?_
        refine zRx.goto (tgt := 441) dX12_feasts_430 (by decide) ?_
        refine zRx.ior dX12_feasts_441 ?_
        refine zRx.istore_n (ls' := [(0, zP 0), (1, .inl (bor st 0)), (2, .inl kk), (3, .inl ((S_X12_feasts_329  st kk 20 ((σ 2 1) - 1) (zu σ 27 kk (-1))).1))]) rfl rfl (by decide) dX12_feasts_442 ?_
        refine zRx.iinc (n := 1) (ls' := [(0, zP 0), (1, .inl (bor st 0)), (2, .inl (kk + 1)), (3, .inl ((S_X12_feasts_329  st kk 20 ((σ 2 1) - 1) (zu σ 27 kk (-1))).1))]) 2 rfl ⟨by omega, by omega⟩ rfl (by decide) dX12_feasts_443 ?_
        refine zRx.goto (tgt := 305) dX12_feasts_446 (by decide) ?_
        refine zRx.pick [0, 1, 2] (ls' := [(0, zP 0), (1, .inl (bor st 0)), (2, .inl (kk + 1))]) rfl ?_
        have he : S_X12_feasts_305  (n + 1) st kk σ = S_X12_feasts_305  n (bor st 0) (kk + 1) ((S_X12_feasts_329  st kk 20 ((σ 2 1) - 1) (zu σ 27 kk (-1))).2) := by rw [S_X12_feasts_305, if_neg (Int.not_le.mpr c310), if_neg (Int.not_le.mpr c426)]
        rw [he] at K
        exact ih (bor st 0) (kk + 1) ((S_X12_feasts_329  st kk 20 ((σ 2 1) - 1) (zu σ 27 kk (-1))).2) _ (by omega) x329_hFD x329_hF x329_hp (FF_more x329_hff x329_hv) (by omega) K
def R_X12_feasts (σ : zG)  : zG := (S_X12_feasts_305  20 0 0 ((S_X12_feasts_105  20 ((((S_X12_feasts_12  500 0 (zu (R_X12_run σ (-1)) 0 50 0)).2) 0 50) - 1) ((S_X12_feasts_69  5000 0 ((S_X12_feasts_12  500 0 (zu (R_X12_run σ (-1)) 0 50 0)).2)).2)).2)).2.2
theorem fr_R_X12_feasts (σ : zG)  {k : Nat} (h : k ∉ [0, 11, 12, 13, 14, 15, 16, 17, 18, 19, 20, 21, 22, 23, 24, 25, 26, 27, 28]) : (R_X12_feasts σ ) k = σ k := by
  have ne : ∀ c ∈ [0, 11, 12, 13, 14, 15, 16, 17, 18, 19, 20, 21, 22, 23, 24, 25, 26, 27, 28], k ≠ c := fun c hc e => h (e ▸ hc)
  have nk_S_X12_feasts_305 : k ∉ [27] := fun hm => h (by first | (revert hm; simp only [List.mem_cons, List.not_mem_nil, or_false]; omega) | (simp at hm))
  have nk_S_X12_feasts_105 : k ∉ [26] := fun hm => h (by first | (revert hm; simp only [List.mem_cons, List.not_mem_nil, or_false]; omega) | (simp at hm))
  have nk_S_X12_feasts_69 : k ∉ [26] := fun hm => h (by first | (revert hm; simp only [List.mem_cons, List.not_mem_nil, or_false]; omega) | (simp at hm))
  have nk_S_X12_feasts_12 : k ∉ [0, 28] := fun hm => h (by first | (revert hm; simp only [List.mem_cons, List.not_mem_nil, or_false]; omega) | (simp at hm))
  have nk_R_X12_run : k ∉ [0, 11, 12, 13, 14, 15, 16, 17, 18, 19, 20, 21, 22, 23, 24, 25] := fun hm => h (by first | (revert hm; simp only [List.mem_cons, List.not_mem_nil, or_false]; omega) | (simp at hm))
  have nl_S_X12_feasts_12 : k ∉ [0, 28] := fun hm => h (by first | (revert hm; simp only [List.mem_cons, List.not_mem_nil, or_false]; omega) | (simp at hm))
  have nl_S_X12_feasts_69 : k ∉ [26] := fun hm => h (by first | (revert hm; simp only [List.mem_cons, List.not_mem_nil, or_false]; omega) | (simp at hm))
  have nl_S_X12_feasts_113 : k ∉ [] := fun hm => h (by first | (revert hm; simp only [List.mem_cons, List.not_mem_nil, or_false]; omega) | (simp at hm))
  have nl_S_X12_feasts_181 : k ∉ [] := fun hm => h (by first | (revert hm; simp only [List.mem_cons, List.not_mem_nil, or_false]; omega) | (simp at hm))
  have nl_S_X12_feasts_155 : k ∉ [26] := fun hm => h (by first | (revert hm; simp only [List.mem_cons, List.not_mem_nil, or_false]; omega) | (simp at hm))
  have nl_S_X12_feasts_105 : k ∉ [26] := fun hm => h (by first | (revert hm; simp only [List.mem_cons, List.not_mem_nil, or_false]; omega) | (simp at hm))
  have nl_S_X12_feasts_329 : k ∉ [27] := fun hm => h (by first | (revert hm; simp only [List.mem_cons, List.not_mem_nil, or_false]; omega) | (simp at hm))
  have nl_S_X12_feasts_305 : k ∉ [27] := fun hm => h (by first | (revert hm; simp only [List.mem_cons, List.not_mem_nil, or_false]; omega) | (simp at hm))
  unfold R_X12_feasts
  repeat' split
  all_goals first | rfl | simp only [zu_row _ _ _ (ne 0 (by decide)), zu_row _ _ _ (ne 11 (by decide)), zu_row _ _ _ (ne 12 (by decide)), zu_row _ _ _ (ne 13 (by decide)), zu_row _ _ _ (ne 14 (by decide)), zu_row _ _ _ (ne 15 (by decide)), zu_row _ _ _ (ne 16 (by decide)), zu_row _ _ _ (ne 17 (by decide)), zu_row _ _ _ (ne 18 (by decide)), zu_row _ _ _ (ne 19 (by decide)), zu_row _ _ _ (ne 20 (by decide)), zu_row _ _ _ (ne 21 (by decide)), zu_row _ _ _ (ne 22 (by decide)), zu_row _ _ _ (ne 23 (by decide)), zu_row _ _ _ (ne 24 (by decide)), zu_row _ _ _ (ne 25 (by decide)), zu_row _ _ _ (ne 26 (by decide)), zu_row _ _ _ (ne 27 (by decide)), zu_row _ _ _ (ne 28 (by decide)), fr_S_X12_feasts_305 (h := nk_S_X12_feasts_305), fr_S_X12_feasts_105 (h := nk_S_X12_feasts_105), fr_S_X12_feasts_69 (h := nk_S_X12_feasts_69), fr_S_X12_feasts_12 (h := nk_S_X12_feasts_12), fr_R_X12_run (h := nk_R_X12_run), fr_S_X12_feasts_12 (h := nl_S_X12_feasts_12), fr_S_X12_feasts_69 (h := nl_S_X12_feasts_69), fr_S_X12_feasts_113 (h := nl_S_X12_feasts_113), fr_S_X12_feasts_181 (h := nl_S_X12_feasts_181), fr_S_X12_feasts_155 (h := nl_S_X12_feasts_155), fr_S_X12_feasts_105 (h := nl_S_X12_feasts_105), fr_S_X12_feasts_329 (h := nl_S_X12_feasts_329), fr_S_X12_feasts_305 (h := nl_S_X12_feasts_305)]

theorem feasts_x {σ : zG} {k st : Int} (h : (0 ≤ st ∧ st < 4096) ∧ 0 ≤ k ∧ k ≤ σ 0 50 ∧ σ 0 50 ≤ 8) (he : σ 0 50 ≤ k) (hf : FF σ k) : (0 ≤ σ 0 50 ∧ σ 0 50 ≤ 8) ∧ FF σ (σ 0 50) := by
  have e : k = σ 0 50 := by omega
  rw [← e]
  exact ⟨by omega, hf⟩

set_option maxRecDepth 20000 in
theorem does_X12_feasts (σ : zG)  (hW : MW (σ 2)) (hD : MD (R_X12_run σ (-1))) (hF : 0 ≤ σ 2 1 ∧ σ 2 1 ≤ 12) (hp : 0 ≤ σ 2 0 ∧ σ 2 0 ≤ 8)  : zDo SM 6 m_X12_feasts [zP 0] σ (fun v σ' => (zEq none (R_X12_feasts σ )) v σ' ∧ ((0 ≤ R_X12_feasts σ 0 50 ∧ R_X12_feasts σ 0 50 ≤ 8) ∧ FF (R_X12_feasts σ) (R_X12_feasts σ 0 50))) := by
  refine zDo.intro mk_X12_feasts (Nat.le_of_ble_eq_true rfl) ?_
  refine zRx.aload_n 0 rfl rfl dX12_feasts_0 ?_
  refine zRx.iconst ⟨by decide, by decide⟩ dX12_feasts_1 ?_
  refine zRx.cVv (M := m_X12_run) (av := [.inl (-1)]) cv_12_400 mk_X12_run (by decide) (b := 0) rfl rfl (Nat.le_of_ble_eq_true rfl) dX12_feasts_2 (does_X12_run σ (-1) hW) ?_
  have hm := run_m2 (b := -1) hW
  refine zRx.aload_n 0 rfl rfl dX12_feasts_5 ?_
  refine zRx.iconst ⟨by decide, by decide⟩ dX12_feasts_6 ?_
  refine zRx.putI (a := 0) (ji := 50) pl_12_412 rfl rfl rfl dX12_feasts_7 ?_
  refine zRx.iconst ⟨by decide, by decide⟩ dX12_feasts_10 ?_
  refine zRx.istore_n (ls' := [(0, zP 0), (1, .inl 0)]) rfl rfl (by decide) dX12_feasts_11 ?_
  refine seg_X12_feasts_12    500 0 (zu (R_X12_run σ (-1)) 0 50 0) _ (by omega) (by have e9 : (zu (R_X12_run σ (-1)) 0 50 0) 0 43 = (R_X12_run σ (-1)) 0 43 := (zu_off _ _ _ (by decide)); omega) (by rw [zu_at]; decide) (MD_of (zu_off _ _ _ (by decide)) (zu_row _ _ _ (by decide)) hD) (FD_0 (zu_at _ _ _ _)) (by have e9 : (zu (R_X12_run σ (-1)) 0 50 0) 2 1 = σ 2 1 := ((zu_ne _ _ _ _ (by decide)).trans (congrFun (fr_R_X12_run σ (-1) (k := 2) (by decide)) _)); omega) (by have e9 : (zu (R_X12_run σ (-1)) 0 50 0) 2 0 = σ 2 0 := ((zu_ne _ _ _ _ (by decide)).trans (congrFun (fr_R_X12_run σ (-1) (k := 2) (by decide)) _)); omega) (by rw [zu_off _ _ _ (by decide)]; omega) ?_
  intro x12_h0 x12_hm x12_hM x12_hD x12_hFD x12_hF x12_hp
  refine zRx.iconst ⟨by decide, by decide⟩ dX12_feasts_67 ?_
  refine zRx.istore_n (ls' := [(0, zP 0), (1, .inl 0)]) rfl rfl (by decide) dX12_feasts_68 ?_
  refine seg_X12_feasts_69    5000 0 ((S_X12_feasts_12  500 0 (zu (R_X12_run σ (-1)) 0 50 0)).2) _ (by omega) x12_hM x12_hFD x12_hF x12_hp (by omega) ?_
  intro x69_h0 x69_hM x69_hFD x69_hF x69_hp
  have e98 : ((S_X12_feasts_69  5000 0 ((S_X12_feasts_12  500 0 (zu (R_X12_run σ (-1)) 0 50 0)).2)).2) 0 50 = ((S_X12_feasts_12  500 0 (zu (R_X12_run σ (-1)) 0 50 0)).2) 0 50 := (congrFun (fr_S_X12_feasts_69   5000 0 ((S_X12_feasts_12  500 0 (zu (R_X12_run σ (-1)) 0 50 0)).2) (k := 0) (by decide)) _)
  refine zRx.aload_n 0 rfl rfl dX12_feasts_98 ?_
  refine zRx.getIv (a := 0) (ji := 50) (v := ((S_X12_feasts_12  500 0 (zu (R_X12_run σ (-1)) 0 50 0)).2) 0 50) (congrFun (fr_S_X12_feasts_69   5000 0 ((S_X12_feasts_12  500 0 (zu (R_X12_run σ (-1)) 0 50 0)).2) (k := 0) (by decide)) _) fl_12_412 rfl rfl rfl dX12_feasts_99 ?_
  refine zRx.iconst ⟨by decide, by decide⟩ dX12_feasts_102 ?_
  refine zRx.isub ⟨by omega, by omega⟩ dX12_feasts_103 ?_
  refine zRx.istore_n (ls' := [(0, zP 0), (1, .inl ((((S_X12_feasts_12  500 0 (zu (R_X12_run σ (-1)) 0 50 0)).2) 0 50) - 1))]) rfl rfl (by decide) dX12_feasts_104 ?_
  refine seg_X12_feasts_105    20 ((((S_X12_feasts_12  500 0 (zu (R_X12_run σ (-1)) 0 50 0)).2) 0 50) - 1) ((S_X12_feasts_69  5000 0 ((S_X12_feasts_12  500 0 (zu (R_X12_run σ (-1)) 0 50 0)).2)).2) _ (by omega) x69_hFD x69_hF x69_hp (by omega) ?_
  intro x105_h0 x105_hFD x105_hF x105_hp
  refine zRx.iconst ⟨by decide, by decide⟩ dX12_feasts_301 ?_
  refine zRx.istore_n (ls' := [(0, zP 0), (1, .inl 0)]) rfl rfl (by decide) dX12_feasts_302 ?_
  refine zRx.iconst ⟨by decide, by decide⟩ dX12_feasts_303 ?_
  refine zRx.istore_n (ls' := [(0, zP 0), (1, .inl 0), (2, .inl 0)]) rfl rfl (by decide) dX12_feasts_304 ?_
  refine seg_X12_feasts_305    20 0 0 ((S_X12_feasts_105  20 ((((S_X12_feasts_12  500 0 (zu (R_X12_run σ (-1)) 0 50 0)).2) 0 50) - 1) ((S_X12_feasts_69  5000 0 ((S_X12_feasts_12  500 0 (zu (R_X12_run σ (-1)) 0 50 0)).2)).2)).2) _ (by omega) x105_hFD x105_hF x105_hp (fun j j0 j1 => absurd j0 (by omega)) (by omega) ?_
  intro x305_h0 x305_hFD x305_hF x305_hp x305_hff x305_he
  exact zR.ret rfl dX12_feasts_449 ⟨⟨rfl, (by rw [R_X12_feasts] : R_X12_feasts σ  = (S_X12_feasts_305  20 0 0 ((S_X12_feasts_105  20 ((((S_X12_feasts_12  500 0 (zu (R_X12_run σ (-1)) 0 50 0)).2) 0 50) - 1) ((S_X12_feasts_69  5000 0 ((S_X12_feasts_12  500 0 (zu (R_X12_run σ (-1)) 0 50 0)).2)).2)).2)).2.2).symm⟩, feasts_x x305_h0 x305_he x305_hff⟩

def V_X12_feastAt (σ : zG) (x : Int) : Int := if 0 ≤ x ∧ x ≤ (((R_X12_feasts (zu σ 0 0 0)) 0 50) - 1) then ((R_X12_feasts (zu σ 0 0 0)) 27 x) else (-1)
def F_X12_feastAt (σ : zG) (x : Int) : zG := R_X12_feasts (zu σ 0 0 0)
theorem fr_F_X12_feastAt (σ : zG) (x : Int) {k : Nat} (h : k ∉ [0, 11, 12, 13, 14, 15, 16, 17, 18, 19, 20, 21, 22, 23, 24, 25, 26, 27, 28]) : (F_X12_feastAt σ x) k = σ k := by
  have ne : ∀ c ∈ [0, 11, 12, 13, 14, 15, 16, 17, 18, 19, 20, 21, 22, 23, 24, 25, 26, 27, 28], k ≠ c := fun c hc e => h (e ▸ hc)
  have nk_R_X12_feasts : k ∉ [0, 11, 12, 13, 14, 15, 16, 17, 18, 19, 20, 21, 22, 23, 24, 25, 26, 27, 28] := fun hm => h (by first | (revert hm; simp only [List.mem_cons, List.not_mem_nil, or_false]; omega) | (simp at hm))
  unfold F_X12_feastAt
  repeat' split
  all_goals first | rfl | simp only [zu_row _ _ _ (ne 0 (by decide)), zu_row _ _ _ (ne 11 (by decide)), zu_row _ _ _ (ne 12 (by decide)), zu_row _ _ _ (ne 13 (by decide)), zu_row _ _ _ (ne 14 (by decide)), zu_row _ _ _ (ne 15 (by decide)), zu_row _ _ _ (ne 16 (by decide)), zu_row _ _ _ (ne 17 (by decide)), zu_row _ _ _ (ne 18 (by decide)), zu_row _ _ _ (ne 19 (by decide)), zu_row _ _ _ (ne 20 (by decide)), zu_row _ _ _ (ne 21 (by decide)), zu_row _ _ _ (ne 22 (by decide)), zu_row _ _ _ (ne 23 (by decide)), zu_row _ _ _ (ne 24 (by decide)), zu_row _ _ _ (ne 25 (by decide)), zu_row _ _ _ (ne 26 (by decide)), zu_row _ _ _ (ne 27 (by decide)), zu_row _ _ _ (ne 28 (by decide)), fr_R_X12_feasts (h := nk_R_X12_feasts)]

set_option maxRecDepth 20000 in
theorem does_X12_feastAt (σ : zG) (x : Int) (hN : MN (σ 2)) (hD : MD (R_X12_run (zu σ 0 0 0) (-1))) : zDo SM 7 m_X12_feastAt [zP 0, .inl x] σ (zEq (some (.inl (V_X12_feastAt σ x))) (F_X12_feastAt σ x)) := by
  refine zDo.intro mk_X12_feastAt (Nat.le_of_ble_eq_true rfl) ?_
  refine zRx.aload_n 0 rfl rfl dX12_feastAt_0 ?_
  refine zRx.iconst ⟨by decide, by decide⟩ dX12_feastAt_1 ?_
  refine zRx.putI (a := 0) (ji := 0) pl_12_1 rfl rfl rfl dX12_feastAt_2 ?_
  refine zRx.aload_n 0 rfl rfl dX12_feastAt_5 ?_
  refine zRx.cV (M := m_X12_feasts) (av := []) cv_12_419 mk_X12_feasts (by decide) (b := 0) rfl rfl (Nat.le_of_ble_eq_true rfl) dX12_feastAt_6 (does_X12_feasts (zu σ 0 0 0) (by rw [zu_row _ _ _ (by decide)]; exact hN.1) hD (by rw [zu_row _ _ _ (by decide)]; exact hN.2.2.1) (by rw [zu_row _ _ _ (by decide)]; exact hN.2.1)) ?_
  intro v' σ' hq
  obtain ⟨⟨rfl, rfl⟩, hM, hff⟩ := hq
  refine id ?_
  refine zRx.iload_n 1 rfl rfl dX12_feastAt_9 ?_
  refine zRx.iconst ⟨by decide, by decide⟩ dX12_feastAt_10 ?_
  refine zRx.aload_n 0 rfl rfl dX12_feastAt_11 ?_
  refine zRx.getIv (a := 0) (ji := 50) (v := (R_X12_feasts (zu σ 0 0 0)) 0 50) rfl fl_12_412 rfl rfl rfl dX12_feastAt_12 ?_
  refine zRx.iconst ⟨by decide, by decide⟩ dX12_feastAt_15 ?_
  refine zRx.isub ⟨by omega, by omega⟩ dX12_feastAt_16 ?_
  refine zRx.cSi (w := .inl (b2 (0 ≤ x ∧ x ≤ (((R_X12_feasts (zu σ 0 0 0)) 0 50) - 1)))) (M := m_X12_isIn) (av := [.inl x, .inl 0, .inl (((R_X12_feasts (zu σ 0 0 0)) 0 50) - 1)]) cs_12_254 mk_X12_isIn (by decide) rfl (Nat.le_of_ble_eq_true rfl) dX12_feastAt_17 (does_X12_isIn x 0 (((R_X12_feasts (zu σ 0 0 0)) 0 50) - 1) SM (R_X12_feasts (zu σ 0 0 0))) ?_
  refine zRx.if_eqB (tgt := 32) dX12_feastAt_20 (by decide) (fun c20 => ?_) (fun c20 => ?_)
  · refine zRx.iconst ⟨by decide, by decide⟩ dX12_feastAt_32 ?_
    exact zR.iret rfl dX12_feastAt_33 ⟨by unfold V_X12_feastAt; rw [if_neg c20], rfl⟩
  · refine zRx.aload_n 0 rfl rfl dX12_feastAt_23 ?_
    refine zRx.getR (a := 0) (b := 27) fl_12_111 rfl rfl dX12_feastAt_24 ?_
    refine zRx.iload_n 1 rfl rfl dX12_feastAt_27 ?_
    refine zRx.ialdv (v := (R_X12_feasts (zu σ 0 0 0)) 27 x) rfl rfl (by omega) (by omega) dX12_feastAt_28 ?_
    refine zRx.goto (tgt := 33) dX12_feastAt_29 (by decide) ?_
    exact zR.iret rfl dX12_feastAt_33 ⟨by unfold V_X12_feastAt; rw [if_pos c20], rfl⟩

def L_X12_feast_27 (i : Int) : Nat → Int → Int → Int → zG → Int × zG
  | 0, _, _, _, σ => (0, σ)
  | n + 1, cn, sm, q, σ => if (σ 0 50) ≤ q then (if i = 0 then (cn, σ) else (sm, σ)) else (if 0 ≤ (σ 27 q) then (L_X12_feast_27 i n (cn + 1) (w32 (sm + (σ 2 ((8 + (3 * (σ 27 q))) + 1)))) (q + 1) σ) else (L_X12_feast_27 i n cn sm (q + 1) σ))
theorem fr_L_X12_feast_27 (i : Int)  (n : Nat) (cn sm q : Int) (σ : zG) {k : Nat} (h : k ∉ []) : (L_X12_feast_27 i n cn sm q σ).2 k = σ k := by
  induction n generalizing cn sm q σ with
  | zero => rfl
  | succ n ih =>
    have ne : ∀ c ∈ [], k ≠ c := fun c hc e => h (e ▸ hc)
    rw [L_X12_feast_27]
    repeat' split
    all_goals first | rfl | simp only [ih]

set_option maxRecDepth 20000 in
theorem loop_X12_feast_27 (i : Int)  : ∀ (n : Nat) (cn sm q : Int) (σ : zG), 0 ≤ q ∧ 0 ≤ cn ∧ cn ≤ q → 0 ≤ σ 0 50 ∧ σ 0 50 ≤ 8 → FF σ (σ 0 50) → (σ 0 50 - q).toNat < n → zR SM 7 m_X12_feast 27 [(0, zP 0), (1, .inl i), (2, .inl cn), (3, .inl sm), (4, .inl q)] [] σ (zEq (some (.inl (L_X12_feast_27 i n cn sm q σ).1)) (L_X12_feast_27 i n cn sm q σ).2) := by
  intro n
  induction n with
  | zero => intro cn sm q σ h0 hM hff hmz; exact absurd hmz (Nat.not_lt_zero _)
  | succ n ih =>
    intro cn sm q σ h0 hM hff hmz
    refine zRx.iload 4 rfl dX12_feast_27 ?_
    refine zRx.aload_n 0 rfl rfl dX12_feast_29 ?_
    refine zRx.getIv (a := 0) (ji := 50) (v := σ 0 50) rfl fl_12_412 rfl rfl rfl dX12_feast_30 ?_
    refine zRx.icmp_ge (tgt := 80) dX12_feast_33 (by decide) (fun c33 => ?_) (fun c33 => ?_)
    · refine zRx.iload_n 1 rfl rfl dX12_feast_80 ?_
      refine zRx.if_ne (tgt := 88) dX12_feast_81 (by decide) (fun c81 => ?_) (fun c81 => ?_)
      · refine zRx.iload_n 3 rfl rfl dX12_feast_88 ?_
        exact zR.iret rfl dX12_feast_89 (by have he : L_X12_feast_27 i (n + 1) cn sm q σ = (sm, σ) := (by rw [L_X12_feast_27, if_pos c33, if_neg c81]); rw [he]; exact ⟨rfl, rfl⟩)
      · refine zRx.iload_n 2 rfl rfl dX12_feast_84 ?_
        refine zRx.goto (tgt := 89) dX12_feast_85 (by decide) ?_
        exact zR.iret rfl dX12_feast_89 (by have he : L_X12_feast_27 i (n + 1) cn sm q σ = (cn, σ) := (by rw [L_X12_feast_27, if_pos c33, if_pos c81]); rw [he]; exact ⟨rfl, rfl⟩)
    · have hv := hff q (by omega) (by omega)
      refine zRx.aload_n 0 rfl rfl dX12_feast_36 ?_
      refine zRx.getR (a := 0) (b := 27) fl_12_111 rfl rfl dX12_feast_37 ?_
      refine zRx.iload 4 rfl dX12_feast_40 ?_
      refine zRx.ialdv (v := σ 27 q) rfl rfl (by omega) (by omega) dX12_feast_42 ?_
      refine zRx.if_ge (tgt := 49) dX12_feast_43 (by decide) (fun c43 => ?_) (fun c43 => ?_)
      · refine zRx.iinc (n := 1) (ls' := [(0, zP 0), (1, .inl i), (2, .inl (cn + 1)), (3, .inl sm), (4, .inl q)]) 2 rfl ⟨by omega, by omega⟩ rfl (by decide) dX12_feast_49 ?_
        refine zRx.iload_n 3 rfl rfl dX12_feast_52 ?_
        refine zRx.aload_n 0 rfl rfl dX12_feast_53 ?_
        refine zRx.getR (a := 0) (b := 2) fl_12_33 rfl rfl dX12_feast_54 ?_
        refine zRx.bipush ⟨by decide, by decide⟩ rfl dX12_feast_57 ?_
        refine zRx.iconst ⟨by decide, by decide⟩ dX12_feast_59 ?_
        refine zRx.aload_n 0 rfl rfl dX12_feast_60 ?_
        refine zRx.getR (a := 0) (b := 27) fl_12_111 rfl rfl dX12_feast_61 ?_
        refine zRx.iload 4 rfl dX12_feast_64 ?_
        refine zRx.ialdv (v := σ 27 q) rfl rfl (by omega) (by omega) dX12_feast_66 ?_
        refine zRx.imul ⟨by omega, by omega⟩ dX12_feast_67 ?_
        refine zRx.iadd ⟨by omega, by omega⟩ dX12_feast_68 ?_
        refine zRx.iconst ⟨by decide, by decide⟩ dX12_feast_69 ?_
        refine zRx.iadd ⟨by omega, by omega⟩ dX12_feast_70 ?_
        refine zRx.ialdv (v := σ 2 ((8 + (3 * (σ 27 q))) + 1)) rfl rfl (by omega) (by omega) dX12_feast_71 ?_
        refine zRx.iaddW dX12_feast_72 ?_
        refine zRx.istore_n (ls' := [(0, zP 0), (1, .inl i), (2, .inl (cn + 1)), (3, .inl (w32 (sm + (σ 2 ((8 + (3 * (σ 27 q))) + 1))))), (4, .inl q)]) rfl rfl (by decide) dX12_feast_73 ?_
        refine zRx.iinc (n := 1) (ls' := [(0, zP 0), (1, .inl i), (2, .inl (cn + 1)), (3, .inl (w32 (sm + (σ 2 ((8 + (3 * (σ 27 q))) + 1))))), (4, .inl (q + 1))]) 4 rfl ⟨by omega, by omega⟩ rfl (by decide) dX12_feast_74 ?_
        refine zRx.goto (tgt := 27) dX12_feast_77 (by decide) ?_
        have he : L_X12_feast_27 i (n + 1) cn sm q σ = L_X12_feast_27 i n (cn + 1) (w32 (sm + (σ 2 ((8 + (3 * (σ 27 q))) + 1)))) (q + 1) σ := by rw [L_X12_feast_27, if_neg (Int.not_le.mpr c33), if_pos c43]
        rw [he]
        exact ih (cn + 1) (w32 (sm + (σ 2 ((8 + (3 * (σ 27 q))) + 1)))) (q + 1) σ (by omega) hM hff (by omega)
      · refine zRx.goto (tgt := 74) dX12_feast_46 (by decide) ?_
        refine zRx.iinc (n := 1) (ls' := [(0, zP 0), (1, .inl i), (2, .inl cn), (3, .inl sm), (4, .inl (q + 1))]) 4 rfl ⟨by omega, by omega⟩ rfl (by decide) dX12_feast_74 ?_
        refine zRx.goto (tgt := 27) dX12_feast_77 (by decide) ?_
        have he : L_X12_feast_27 i (n + 1) cn sm q σ = L_X12_feast_27 i n cn sm (q + 1) σ := by rw [L_X12_feast_27, if_neg (Int.not_le.mpr c33), if_neg (Int.not_le.mpr c43)]
        rw [he]
        exact ih cn sm (q + 1) σ (by omega) hM hff (by omega)
def R_X12_feast (σ : zG) (i : Int) : Int × zG := if 0 ≤ i ∧ i ≤ 1 then (L_X12_feast_27 i 20 0 0 0 (R_X12_feasts (zu σ 0 0 0))) else ((-1), zu σ 0 0 0)
theorem fr_R_X12_feast (σ : zG) (i : Int) {k : Nat} (h : k ∉ [0, 11, 12, 13, 14, 15, 16, 17, 18, 19, 20, 21, 22, 23, 24, 25, 26, 27, 28]) : (R_X12_feast σ i).2 k = σ k := by
  have ne : ∀ c ∈ [0, 11, 12, 13, 14, 15, 16, 17, 18, 19, 20, 21, 22, 23, 24, 25, 26, 27, 28], k ≠ c := fun c hc e => h (e ▸ hc)
  have nk_R_X12_feasts : k ∉ [0, 11, 12, 13, 14, 15, 16, 17, 18, 19, 20, 21, 22, 23, 24, 25, 26, 27, 28] := fun hm => h (by first | (revert hm; simp only [List.mem_cons, List.not_mem_nil, or_false]; omega) | (simp at hm))
  have nl_L_X12_feast_27 : k ∉ [] := fun hm => h (by first | (revert hm; simp only [List.mem_cons, List.not_mem_nil, or_false]; omega) | (simp at hm))
  unfold R_X12_feast
  repeat' split
  all_goals first | rfl | simp only [zu_row _ _ _ (ne 0 (by decide)), zu_row _ _ _ (ne 11 (by decide)), zu_row _ _ _ (ne 12 (by decide)), zu_row _ _ _ (ne 13 (by decide)), zu_row _ _ _ (ne 14 (by decide)), zu_row _ _ _ (ne 15 (by decide)), zu_row _ _ _ (ne 16 (by decide)), zu_row _ _ _ (ne 17 (by decide)), zu_row _ _ _ (ne 18 (by decide)), zu_row _ _ _ (ne 19 (by decide)), zu_row _ _ _ (ne 20 (by decide)), zu_row _ _ _ (ne 21 (by decide)), zu_row _ _ _ (ne 22 (by decide)), zu_row _ _ _ (ne 23 (by decide)), zu_row _ _ _ (ne 24 (by decide)), zu_row _ _ _ (ne 25 (by decide)), zu_row _ _ _ (ne 26 (by decide)), zu_row _ _ _ (ne 27 (by decide)), zu_row _ _ _ (ne 28 (by decide)), fr_R_X12_feasts (h := nk_R_X12_feasts), fr_L_X12_feast_27 (h := nl_L_X12_feast_27)]

set_option maxRecDepth 20000 in
theorem does_X12_feast (σ : zG) (i : Int) (hN : MN (σ 2)) (hD : MD (R_X12_run (zu σ 0 0 0) (-1)))  : zDo SM 7 m_X12_feast [zP 0, .inl i] σ (zEq (some (.inl (R_X12_feast σ i).1)) (R_X12_feast σ i).2) := by
  refine zDo.intro mk_X12_feast (Nat.le_of_ble_eq_true rfl) ?_
  refine zRx.aload_n 0 rfl rfl dX12_feast_0 ?_
  refine zRx.iconst ⟨by decide, by decide⟩ dX12_feast_1 ?_
  refine zRx.putI (a := 0) (ji := 0) pl_12_1 rfl rfl rfl dX12_feast_2 ?_
  refine zRx.iload_n 1 rfl rfl dX12_feast_5 ?_
  refine zRx.iconst ⟨by decide, by decide⟩ dX12_feast_6 ?_
  refine zRx.iconst ⟨by decide, by decide⟩ dX12_feast_7 ?_
  refine zRx.cSi (w := .inl (b2 (0 ≤ i ∧ i ≤ 1))) (M := m_X12_isIn) (av := [.inl i, .inl 0, .inl 1]) cs_12_254 mk_X12_isIn (by decide) rfl (Nat.le_of_ble_eq_true rfl) dX12_feast_8 (does_X12_isIn i 0 1 SM (zu σ 0 0 0)) ?_
  refine zRx.if_neB (tgt := 16) dX12_feast_11 (by decide) (fun c11 => ?_) (fun c11 => ?_)
  · refine zRx.aload_n 0 rfl rfl dX12_feast_16 ?_
    refine zRx.cV (M := m_X12_feasts) (av := []) cv_12_419 mk_X12_feasts (by decide) (b := 0) rfl rfl (Nat.le_of_ble_eq_true rfl) dX12_feast_17 (does_X12_feasts (zu σ 0 0 0) (by rw [zu_row _ _ _ (by decide)]; exact hN.1) hD (by rw [zu_row _ _ _ (by decide)]; exact hN.2.2.1) (by rw [zu_row _ _ _ (by decide)]; exact hN.2.1)) ?_
    intro v' σ' hq
    obtain ⟨⟨rfl, rfl⟩, hM, hff⟩ := hq
    refine id ?_
    refine zRx.iconst ⟨by decide, by decide⟩ dX12_feast_20 ?_
    refine zRx.istore_n (ls' := [(0, zP 0), (1, .inl i), (2, .inl 0)]) rfl rfl (by decide) dX12_feast_21 ?_
    refine zRx.iconst ⟨by decide, by decide⟩ dX12_feast_22 ?_
    refine zRx.istore_n (ls' := [(0, zP 0), (1, .inl i), (2, .inl 0), (3, .inl 0)]) rfl rfl (by decide) dX12_feast_23 ?_
    refine zRx.iconst ⟨by decide, by decide⟩ dX12_feast_24 ?_
    refine zRx.istore (ls' := [(0, zP 0), (1, .inl i), (2, .inl 0), (3, .inl 0), (4, .inl 0)]) rfl (by decide) dX12_feast_25 ?_
    have he : R_X12_feast σ i = L_X12_feast_27 i 20 0 0 0 (R_X12_feasts (zu σ 0 0 0)) := by rw [R_X12_feast, if_pos c11]
    rw [he]
    exact loop_X12_feast_27 i   20 0 0 0 (R_X12_feasts (zu σ 0 0 0)) (by omega) hM hff (by omega)
  · refine zRx.iconst ⟨by decide, by decide⟩ dX12_feast_14 ?_
    exact zR.iret rfl dX12_feast_15 (by have he : R_X12_feast σ i = ((-1), zu σ 0 0 0) := (by rw [R_X12_feast, if_neg c11]); rw [he]; exact ⟨rfl, rfl⟩)

