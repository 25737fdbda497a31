/-! the reference: ones of a sentence -/
theorem openedL (σ : zG) : ∀ (n : Nat) (c : Int) (q : Nat), (σ 0 67 - q).toNat < n → 0 ≤ σ 0 67 → (q : Int) ≤ σ 0 67 → L_X12_opened_4 σ n (c + opn (σ 37) q) q = c + opn (σ 37) (σ 0 67).toNat
  | 0, c, q, h, _, _ => absurd h (Nat.not_lt_zero _)
  | n + 1, c, q, h, h0, h1 => by
    have hs : ∀ x : Int, opn (σ 37) (q + 1) = opn (σ 37) q + x → ¬ σ 0 67 ≤ (q : Int) → L_X12_opened_4 σ n ((c + opn (σ 37) q) + x) ((q : Int) + 1) = c + opn (σ 37) (σ 0 67).toNat := by
      intro x hx hq
      have h9 := openedL σ n c (q + 1) (by omega) h0 (by omega)
      rw [hx] at h9
      rw [show ((q + 1 : Nat) : Int) = (q : Int) + 1 by omega] at h9
      rw [← h9]
      congr 1
      omega
    rw [L_X12_opened_4]
    split
    · have e : (σ 0 67).toNat = q := by omega
      rw [e]
    · next hq =>
      split
      · next h7 => exact hs 1 (by rw [opn, if_pos (Or.inl h7)]) hq
      · next h7 =>
        split
        · next h10 => exact hs 1 (by rw [opn, if_pos (Or.inr h10)]) hq
        · next h10 => exact hs 0 (by rw [opn, if_neg (fun q => q.elim h7 h10)]) hq
theorem opened_eq (σ : zG) (h0 : 0 ≤ σ 0 67) (h1 : σ 0 67 ≤ 30) : R_X12_opened σ = opn (σ 37) (σ 0 67).toNat := by
  have h := openedL σ 50 0 0 (by omega) h0 h0
  have h2 : L_X12_opened_4 σ 50 (0 + opn (σ 37) 0) ((0 : Nat) : Int) = R_X12_opened σ := rfl
  rw [← h2, h, Int.zero_add]
theorem atom_r (σ : zG) : -1 ≤ V_X12_atom σ ∧ V_X12_atom σ ≤ 6 := by
  unfold V_X12_atom
  repeat' split
  all_goals decide

theorem write_c (σ : zG) (a b c : Int) : F_X12_write σ a b c 0 66 = σ 0 66 + 1 := by
  unfold F_X12_write
  rw [zu_at]
theorem kp_write (σ : zG) (a b c i : Int) (h : i ≠ 66) : F_X12_write σ a b c 0 i = σ 0 i := by
  unfold F_X12_write
  rw [zu_off _ _ _ h, zu_ne _ _ _ _ (by decide), zu_ne _ _ _ _ (by decide), zu_ne _ _ _ _ (by decide)]
theorem binds_r (a : Int) : 1 ≤ V_X12_binds a ∧ V_X12_binds a ≤ 3 := by
  unfold V_X12_binds
  repeat' split
  all_goals decide

def S_X12_writeDown_0 (le : Int) : Nat → zG → zG
  | 0, σ => (σ)
  | n + 1, σ => if (σ 0 67) ≤ 0 then σ else (if (σ 37 ((σ 0 67) - 1)) = 10 then σ else (if (V_X12_binds (σ 37 ((σ 0 67) - 1))) < le then σ else (S_X12_writeDown_0 le n  (F_X12_write (zu σ 0 67 ((σ 0 67) - 1)) (σ 37 ((σ 0 67) - 1)) 0 0))))
theorem fr_S_X12_writeDown_0 (le : Int)  (n : Nat) (σ : zG) {k : Nat} (h : k ∉ [0, 36]) : (S_X12_writeDown_0 le n  σ) k = σ k := by
  induction n generalizing  σ with
  | zero => rfl
  | succ n ih =>
    have ne : ∀ c ∈ [0, 36], k ≠ c := fun c hc e => h (e ▸ hc)
    have nk_F_X12_write : k ∉ [0, 36] := fun hm => h (by first | (revert hm; simp only [List.mem_cons, List.not_mem_nil, or_false]; omega) | (simp at hm))
    rw [S_X12_writeDown_0]
    repeat' split
    all_goals first | rfl | simp only [zu_row _ _ _ (ne 0 (by decide)), zu_row _ _ _ (ne 36 (by decide)), fr_F_X12_write (h := nk_F_X12_write), ih]

set_option maxRecDepth 20000 in
theorem seg_X12_writeDown_0 (le : Int)  : ∀ (n : Nat) (σ : zG) (X : zX), (0 ≤ σ 0 66 ∧ 0 ≤ σ 0 67) ∧ σ 0 67 ≤ 30 ∧ σ 0 66 + σ 0 67 ≤ 60 → (σ 0 67).toNat < n → (zRx none 1 m_X12_writeDown SM 69 [(0, zP 0), (1, .inl le)] [] (S_X12_writeDown_0 le n  σ) X) → zRx none 1 m_X12_writeDown SM 0 [(0, zP 0), (1, .inl le)] [] σ X := by
  intro n
  induction n with
  | zero => intro  σ X h0 hmz; exact absurd hmz (Nat.not_lt_zero _)
  | succ n ih =>
    intro  σ X h0 hmz K
    refine zRx.aload_n 0 rfl rfl dX12_writeDown_0 ?_
    refine zRx.getIv (a := 0) (ji := 67) (v := σ 0 67) rfl fl_12_469 rfl rfl rfl dX12_writeDown_1 ?_
    refine zRx.if_le (tgt := 69) dX12_writeDown_4 (by decide) (fun c4 => ?_) (fun c4 => ?_)
    · have he : S_X12_writeDown_0 le (n + 1)  σ = σ := by rw [S_X12_writeDown_0, if_pos c4]
      rw [he] at K
      exact K
    · refine zRx.aload_n 0 rfl rfl dX12_writeDown_7 ?_
      refine zRx.getR (a := 0) (b := 37) fl_12_141 rfl rfl dX12_writeDown_8 ?_
      refine zRx.aload_n 0 rfl rfl dX12_writeDown_11 ?_
      refine zRx.getIv (a := 0) (ji := 67) (v := σ 0 67) rfl fl_12_469 rfl rfl rfl dX12_writeDown_12 ?_
      refine zRx.iconst ⟨by decide, by decide⟩ dX12_writeDown_15 ?_
      refine zRx.isub ⟨by omega, by omega⟩ dX12_writeDown_16 ?_
      refine zRx.ialdv (v := σ 37 ((σ 0 67) - 1)) rfl rfl (by omega) (by omega) dX12_writeDown_17 ?_
      refine zRx.bipush ⟨by decide, by decide⟩ rfl dX12_writeDown_18 ?_
      refine zRx.icmp_eq (tgt := 69) dX12_writeDown_20 (by decide) (fun c20 => ?_) (fun c20 => ?_)
      · have he : S_X12_writeDown_0 le (n + 1)  σ = σ := by rw [S_X12_writeDown_0, if_neg (Int.not_le.mpr c4), if_pos c20]
        rw [he] at K
        exact K
      · refine zRx.aload_n 0 rfl rfl dX12_writeDown_23 ?_
        refine zRx.getR (a := 0) (b := 37) fl_12_141 rfl rfl dX12_writeDown_24 ?_
        refine zRx.aload_n 0 rfl rfl dX12_writeDown_27 ?_
        refine zRx.getIv (a := 0) (ji := 67) (v := σ 0 67) rfl fl_12_469 rfl rfl rfl dX12_writeDown_28 ?_
        refine zRx.iconst ⟨by decide, by decide⟩ dX12_writeDown_31 ?_
        refine zRx.isub ⟨by omega, by omega⟩ dX12_writeDown_32 ?_
        refine zRx.ialdv (v := σ 37 ((σ 0 67) - 1)) rfl rfl (by omega) (by omega) dX12_writeDown_33 ?_
        refine zRx.cSi (w := .inl (V_X12_binds (σ 37 ((σ 0 67) - 1)))) (M := m_X12_binds) (av := [.inl (σ 37 ((σ 0 67) - 1))]) cs_12_472 mk_X12_binds (by decide) rfl (Nat.le_of_ble_eq_true rfl) dX12_writeDown_34 (does_X12_binds σ (σ 37 ((σ 0 67) - 1)) SM) ?_
        have hb9 := binds_r (σ 37 ((σ 0 67) - 1))
        refine zRx.iload_n 1 rfl rfl dX12_writeDown_37 ?_
        refine zRx.icmp_lt (tgt := 69) dX12_writeDown_38 (by decide) (fun c38 => ?_) (fun c38 => ?_)
        · have he : S_X12_writeDown_0 le (n + 1)  σ = σ := by rw [S_X12_writeDown_0, if_neg (Int.not_le.mpr c4), if_neg c20, if_pos c38]
          rw [he] at K
          exact K
        · refine zRx.aload_n 0 rfl rfl dX12_writeDown_41 ?_
          refine zRx.dup rfl dX12_writeDown_42 ?_
          refine zRx.getIv (a := 0) (ji := 67) (v := σ 0 67) rfl fl_12_469 rfl rfl rfl dX12_writeDown_43 ?_
          refine zRx.iconst ⟨by decide, by decide⟩ dX12_writeDown_46 ?_
          refine zRx.isub ⟨by omega, by omega⟩ dX12_writeDown_47 ?_
          refine zRx.putI (a := 0) (ji := 67) pl_12_469 rfl rfl rfl dX12_writeDown_48 ?_
          refine zRx.aload_n 0 rfl rfl dX12_writeDown_51 ?_
          refine zRx.aload_n 0 rfl rfl dX12_writeDown_52 ?_
          refine zRx.getR (a := 0) (b := 37) fl_12_141 rfl rfl dX12_writeDown_53 ?_
          refine zRx.aload_n 0 rfl rfl dX12_writeDown_56 ?_
          refine zRx.getIv (a := 0) (ji := 67) (v := (σ 0 67) - 1) (zu_at _ _ _ _) fl_12_469 rfl rfl rfl dX12_writeDown_57 ?_
          refine zRx.ialdv (v := σ 37 ((σ 0 67) - 1)) (zu_ne _ _ _ _ (by decide)) rfl (by omega) (by omega) dX12_writeDown_60 ?_
          refine zRx.iconst ⟨by decide, by decide⟩ dX12_writeDown_61 ?_
          refine zRx.iconst ⟨by decide, by decide⟩ dX12_writeDown_62 ?_
          refine zRx.cVv (M := m_X12_write) (av := [.inl (σ 37 ((σ 0 67) - 1)), .inl 0, .inl 0]) cv_12_475 mk_X12_write (by decide) (b := 0) rfl rfl (Nat.le_of_ble_eq_true rfl) dX12_writeDown_63 (does_X12_write (zu σ 0 67 ((σ 0 67) - 1)) (σ 37 ((σ 0 67) - 1)) 0 0 (by have e9 : (zu σ 0 67 ((σ 0 67) - 1)) 0 66 = σ 0 66 := (zu_off _ _ _ (by decide)); omega)) ?_
          refine zRx.goto (tgt := 0) dX12_writeDown_66 (by decide) ?_
          have he : S_X12_writeDown_0 le (n + 1)  σ = S_X12_writeDown_0 le n  (F_X12_write (zu σ 0 67 ((σ 0 67) - 1)) (σ 37 ((σ 0 67) - 1)) 0 0) := by rw [S_X12_writeDown_0, if_neg (Int.not_le.mpr c4), if_neg c20, if_neg (Int.not_lt.mpr c38)]
          rw [he] at K
          exact ih  (F_X12_write (zu σ 0 67 ((σ 0 67) - 1)) (σ 37 ((σ 0 67) - 1)) 0 0) _ (by have e66 : (F_X12_write (zu σ 0 67 ((σ 0 67) - 1)) (σ 37 ((σ 0 67) - 1)) 0 0) 0 66 = (σ 0 66) + 1 := ((write_c (zu σ 0 67 ((σ 0 67) - 1)) (σ 37 ((σ 0 67) - 1)) 0 0).trans (congrArg (· + 1) (zu_off _ _ _ (by decide)))); have e67 : (F_X12_write (zu σ 0 67 ((σ 0 67) - 1)) (σ 37 ((σ 0 67) - 1)) 0 0) 0 67 = (σ 0 67) - 1 := ((kp_write _ _ _ _ 67 (by decide)).trans (zu_at _ _ _ _)); omega) (by have e66 : (F_X12_write (zu σ 0 67 ((σ 0 67) - 1)) (σ 37 ((σ 0 67) - 1)) 0 0) 0 66 = (σ 0 66) + 1 := ((write_c (zu σ 0 67 ((σ 0 67) - 1)) (σ 37 ((σ 0 67) - 1)) 0 0).trans (congrArg (· + 1) (zu_off _ _ _ (by decide)))); have e67 : (F_X12_write (zu σ 0 67 ((σ 0 67) - 1)) (σ 37 ((σ 0 67) - 1)) 0 0) 0 67 = (σ 0 67) - 1 := ((kp_write _ _ _ _ 67 (by decide)).trans (zu_at _ _ _ _)); omega) K
def R_X12_writeDown (σ : zG) (le : Int) : zG := (S_X12_writeDown_0 le 50  σ)
theorem fr_R_X12_writeDown (σ : zG) (le : Int) {k : Nat} (h : k ∉ [0, 36]) : (R_X12_writeDown σ le) k = σ k := by
  have ne : ∀ c ∈ [0, 36], k ≠ c := fun c hc e => h (e ▸ hc)
  have nk_S_X12_writeDown_0 : k ∉ [0, 36] := fun hm => h (by first | (revert hm; simp only [List.mem_cons, List.not_mem_nil, or_false]; omega) | (simp at hm))
  have nl_S_X12_writeDown_0 : k ∉ [0, 36] := fun hm => h (by first | (revert hm; simp only [List.mem_cons, List.not_mem_nil, or_false]; omega) | (simp at hm))
  unfold R_X12_writeDown
  repeat' split
  all_goals first | rfl | simp only [zu_row _ _ _ (ne 0 (by decide)), zu_row _ _ _ (ne 36 (by decide)), fr_S_X12_writeDown_0 (h := nk_S_X12_writeDown_0), fr_S_X12_writeDown_0 (h := nl_S_X12_writeDown_0)]

set_option maxRecDepth 20000 in
theorem does_X12_writeDown (σ : zG) (le : Int) (h0 : (0 ≤ σ 0 66 ∧ 0 ≤ σ 0 67) ∧ σ 0 67 ≤ 30 ∧ σ 0 66 + σ 0 67 ≤ 60)  : zDo SM 1 m_X12_writeDown [zP 0, .inl le] σ (zEq none (R_X12_writeDown σ le)) := by
  refine zDo.intro mk_X12_writeDown (Nat.le_of_ble_eq_true rfl) ?_
  refine seg_X12_writeDown_0 le   50  σ _ (by omega) (by omega) ?_
  exact zR.ret rfl dX12_writeDown_69 ⟨rfl, (by rw [R_X12_writeDown] : R_X12_writeDown σ le = (S_X12_writeDown_0 le 50  σ)).symm⟩

theorem wdL_K (le : Int) : ∀ (n : Nat) (σ : zG), 0 ≤ σ 0 67 → (σ 0 67).toNat < n → (0 ≤ S_X12_writeDown_0 le n σ 0 67 ∧ S_X12_writeDown_0 le n σ 0 67 ≤ σ 0 67) ∧ S_X12_writeDown_0 le n σ 0 66 + S_X12_writeDown_0 le n σ 0 67 = σ 0 66 + σ 0 67 ∧ (∀ i : Int, i ≠ 66 → i ≠ 67 → S_X12_writeDown_0 le n σ 0 i = σ 0 i) ∧ (S_X12_writeDown_0 le n σ 0 67 = 0 ∨ σ 37 (S_X12_writeDown_0 le n σ 0 67 - 1) = 10 ∨ V_X12_binds (σ 37 (S_X12_writeDown_0 le n σ 0 67 - 1)) < le)
  | 0, σ, _, h => absurd h (Nat.not_lt_zero _)
  | n + 1, σ, h0, h => by
    rw [S_X12_writeDown_0]
    split
    · exact ⟨⟨h0, Int.le_refl _⟩, rfl, fun _ _ _ => rfl, Or.inl (by omega)⟩
    · next c1 =>
      split
      · next c2 => exact ⟨⟨h0, Int.le_refl _⟩, rfl, fun _ _ _ => rfl, Or.inr (Or.inl c2)⟩
      · split
        · next c3 => exact ⟨⟨h0, Int.le_refl _⟩, rfl, fun _ _ _ => rfl, Or.inr (Or.inr c3)⟩
        · have e6 : ∀ x y z : Int, F_X12_write (zu σ 0 67 (σ 0 67 - 1)) x y z 0 66 = σ 0 66 + 1 := fun x y z => by rw [write_c, zu_off _ _ _ (by decide)]
          have e7 : ∀ x y z : Int, F_X12_write (zu σ 0 67 (σ 0 67 - 1)) x y z 0 67 = σ 0 67 - 1 := fun x y z => by rw [kp_write _ _ _ _ _ (by decide), zu_at]
          have e3 : ∀ x y z : Int, F_X12_write (zu σ 0 67 (σ 0 67 - 1)) x y z 37 = σ 37 := fun x y z => by rw [fr_F_X12_write (h := by decide), zu_row _ _ _ (by decide)]
          have h9 := wdL_K le n (F_X12_write (zu σ 0 67 (σ 0 67 - 1)) (σ 37 (σ 0 67 - 1)) 0 0) (by rw [e7]; omega) (by rw [e7]; omega)
          rw [e6, e7, e3] at h9
          refine ⟨by omega, by omega, fun i h1 h2 => ?_, h9.2.2.2⟩
          rw [h9.2.2.1 i h1 h2, kp_write _ _ _ _ _ h1, zu_off _ _ _ h2]
theorem wd_K {σ : zG} {le : Int} (h0 : 0 ≤ σ 0 67) (h1 : σ 0 67 ≤ 30) : (0 ≤ R_X12_writeDown σ le 0 67 ∧ R_X12_writeDown σ le 0 67 ≤ σ 0 67) ∧ R_X12_writeDown σ le 0 66 + R_X12_writeDown σ le 0 67 = σ 0 66 + σ 0 67 ∧ (∀ i : Int, i ≠ 66 → i ≠ 67 → R_X12_writeDown σ le 0 i = σ 0 i) ∧ (R_X12_writeDown σ le 0 67 = 0 ∨ σ 37 (R_X12_writeDown σ le 0 67 - 1) = 10 ∨ V_X12_binds (σ 37 (R_X12_writeDown σ le 0 67 - 1)) < le) := wdL_K le 50 σ h0 (by omega)
theorem SV_m {k : Int} {σ : zG} (h : SV k σ) : (0 ≤ σ 0 66 ∧ 0 ≤ σ 0 67) ∧ σ 0 67 ≤ 26 ∧ σ 0 66 + σ 0 67 + k ≤ 40 := by
  have h1 := SV_len h
  have h2 := h.2.2.2.2
  have h3 := h.1
  have h4 := h.2.1
  have h5 := h.2.2.1
  omega
theorem SV_wd {k le : Int} {σ : zG} (h : SV k σ) : SV k (R_X12_writeDown σ le) := by
  have hm := SV_m h
  have h1 := wd_K (le := le) hm.1.2 (by omega)
  have e : R_X12_writeDown σ le 37 = σ 37 := fr_R_X12_writeDown σ le (by decide)
  unfold SV at *
  rw [h1.2.2.1 68 (by decide) (by decide), e]
  have h2 := opn_mono (σ 37) (a := (R_X12_writeDown σ le 0 67).toNat) (b := (σ 0 67).toNat) (by omega)
  have h3 := SV_len h
  refine ⟨⟨?_, h1.1.1⟩, h.2.1, by omega, PV_less h.2.2.2.1 h1.1.2, by omega⟩
  omega

theorem PI_F_X12_write {σ : zG} {a b c : Int} (h : PI σ) : PI (F_X12_write σ a b c) := by
  unfold PI at *
  rw [kp_write _ _ _ _ _ (by decide), kp_write _ _ _ _ _ (by decide)]
  exact h
theorem PM_F_X12_write {σ : zG} {a b c p0 : Int} (h : PM p0 σ) : PM p0 (F_X12_write σ a b c) := by
  unfold PM at *
  rw [kp_write _ _ _ _ _ (by decide)]
  exact h
theorem AD_F_X12_write {σ : zG} {a b c p0 : Int} (h : AD p0 σ) : AD p0 (F_X12_write σ a b c) := by
  unfold AD at *
  rw [kp_write _ _ _ _ _ (by decide), kp_write _ _ _ _ _ (by decide)]
  exact h
theorem wd_off (le : Int) : ∀ (n : Nat) (σ : zG) (i : Int), i ≠ 66 → i ≠ 67 → S_X12_writeDown_0 le n σ 0 i = σ 0 i
  | 0, σ, i, _, _ => rfl
  | n + 1, σ, i, h1, h2 => by
    rw [S_X12_writeDown_0]
    repeat' split
    all_goals first | rfl | rw [wd_off le n _ i h1 h2, kp_write _ _ _ _ _ h1, zu_off _ _ _ h2]
theorem kp_wd (σ : zG) (le i : Int) (h : i ≠ 66 ∧ i ≠ 67) : R_X12_writeDown σ le 0 i = σ 0 i := wd_off le 50 σ i h.1 h.2
theorem PI_R_X12_writeDown {σ : zG} {le : Int} (h : PI σ) : PI (R_X12_writeDown σ le) := by
  unfold PI at *
  rw [kp_wd _ _ _ (by decide), kp_wd _ _ _ (by decide)]
  exact h
theorem PM_R_X12_writeDown {σ : zG} {le p0 : Int} (h : PM p0 σ) : PM p0 (R_X12_writeDown σ le) := by
  unfold PM at *
  rw [kp_wd _ _ _ (by decide)]
  exact h
theorem AD_R_X12_writeDown {σ : zG} {le p0 : Int} (h : AD p0 σ) : AD p0 (R_X12_writeDown σ le) := by
  unfold AD at *
  rw [kp_wd _ _ _ (by decide), kp_wd _ _ _ (by decide)]
  exact h

def V_X12_asks (σ : zG) (a : Int) : Int := if a = 0 then (if (V_X12_takesName σ 8 (σ 2 1)) = 0 then 0 else 1) else (if a ≤ 1 then 1 else (if σ 0 11 = 3 ∧ σ 0 14 = 60 then (if ((F_X12_next σ) 0 11) = 2 then 1 else 0) else (if σ 0 11 = 3 ∧ σ 0 14 = 61 then (if ((F_X12_next σ) 0 11) = 2 then 1 else 0) else (if σ 0 11 = 3 ∧ σ 0 14 = 62 then (if ((F_X12_next σ) 0 11) = 2 then 1 else 0) else 0))))
def F_X12_asks (σ : zG) (a : Int) : zG := if a = 0 then (if (V_X12_takesName σ 8 (σ 2 1)) = 0 then (F_X12_takesName σ 8 (σ 2 1)) else (R_X12_writeDown (F_X12_write (F_X12_takesName σ 8 (σ 2 1)) a ((F_X12_takesName σ 8 (σ 2 1)) 0 18) 0) 3)) else (if a ≤ 1 then (R_X12_writeDown (F_X12_write σ a 0 0) 3) else (if σ 0 11 = 3 ∧ σ 0 14 = 60 then (if ((F_X12_next σ) 0 11) = 2 then (R_X12_writeDown (F_X12_write (F_X12_next (F_X12_next σ)) a (σ 0 14) ((F_X12_next σ) 0 14)) 3) else (zu (zu (F_X12_next σ) 0 15 1) 0 16 ((F_X12_next σ) 0 12))) else (if σ 0 11 = 3 ∧ σ 0 14 = 61 then (if ((F_X12_next σ) 0 11) = 2 then (R_X12_writeDown (F_X12_write (F_X12_next (F_X12_next σ)) a (σ 0 14) ((F_X12_next σ) 0 14)) 3) else (zu (zu (F_X12_next σ) 0 15 1) 0 16 ((F_X12_next σ) 0 12))) else (if σ 0 11 = 3 ∧ σ 0 14 = 62 then (if ((F_X12_next σ) 0 11) = 2 then (R_X12_writeDown (F_X12_write (F_X12_next (F_X12_next σ)) a (σ 0 14) ((F_X12_next σ) 0 14)) 3) else (zu (zu (F_X12_next σ) 0 15 1) 0 16 ((F_X12_next σ) 0 12))) else (zu (zu σ 0 15 1) 0 16 (σ 0 12))))))
theorem fr_F_X12_asks (σ : zG) (a : Int) {k : Nat} (h : k ∉ [0, 36]) : (F_X12_asks σ a) k = σ k := by
  have ne : ∀ c ∈ [0, 36], k ≠ c := fun c hc e => h (e ▸ hc)
  have nk_F_X12_takesName : k ∉ [0] := fun hm => h (by first | (revert hm; simp only [List.mem_cons, List.not_mem_nil, or_false]; omega) | (simp at hm))
  have nk_R_X12_writeDown : k ∉ [0, 36] := fun hm => h (by first | (revert hm; simp only [List.mem_cons, List.not_mem_nil, or_false]; omega) | (simp at hm))
  have nk_F_X12_write : k ∉ [0, 36] := fun hm => h (by first | (revert hm; simp only [List.mem_cons, List.not_mem_nil, or_false]; omega) | (simp at hm))
  have nk_F_X12_next : k ∉ [0] := fun hm => h (by first | (revert hm; simp only [List.mem_cons, List.not_mem_nil, or_false]; omega) | (simp at hm))
  unfold F_X12_asks
  repeat' split
  all_goals first | rfl | simp only [zu_row _ _ _ (ne 0 (by decide)), zu_row _ _ _ (ne 36 (by decide)), fr_F_X12_takesName (h := nk_F_X12_takesName), fr_R_X12_writeDown (h := nk_R_X12_writeDown), fr_F_X12_write (h := nk_F_X12_write), fr_F_X12_next (h := nk_F_X12_next)]

set_option maxRecDepth 20000 in
theorem does_X12_asks (σ : zG) (a : Int) (hI : PI σ) (hS : SV 2 σ) (hF : 0 ≤ σ 2 1 ∧ σ 2 1 ≤ 12) : zDo SM 3 m_X12_asks [zP 0, .inl a] σ (zEq (some (.inl (V_X12_asks σ a))) (F_X12_asks σ a)) := by
  refine zDo.intro mk_X12_asks (Nat.le_of_ble_eq_true rfl) ?_
  have hm := SV_m hS
  refine zRx.iconst ⟨by decide, by decide⟩ dX12_asks_0 ?_
  refine zRx.istore_n (ls' := [(0, zP 0), (1, .inl a), (2, .inl 0)]) rfl rfl (by decide) dX12_asks_1 ?_
  refine zRx.iconst ⟨by decide, by decide⟩ dX12_asks_2 ?_
  refine zRx.istore_n (ls' := [(0, zP 0), (1, .inl a), (2, .inl 0), (3, .inl 0)]) rfl rfl (by decide) dX12_asks_3 ?_
  refine zRx.iload_n 1 rfl rfl dX12_asks_4 ?_
  refine zRx.if_ne (tgt := 33) dX12_asks_5 (by decide) (fun c5 => ?_) (fun c5 => ?_)
  · refine zRx.iload_n 1 rfl rfl dX12_asks_33 ?_
    refine zRx.iconst ⟨by decide, by decide⟩ dX12_asks_34 ?_
    refine zRx.icmp_le (tgt := 103) dX12_asks_35 (by decide) (fun c35 => ?_) (fun c35 => ?_)
    · refine zRx.aload_n 0 rfl rfl dX12_asks_103 ?_
      refine zRx.iload_n 1 rfl rfl dX12_asks_104 ?_
      refine zRx.iload_n 2 rfl rfl dX12_asks_105 ?_
      refine zRx.iload_n 3 rfl rfl dX12_asks_106 ?_
      refine zRx.cVv (M := m_X12_write) (av := [.inl a, .inl 0, .inl 0]) cv_12_475 mk_X12_write (by decide) (b := 0) rfl rfl (Nat.le_of_ble_eq_true rfl) dX12_asks_107 (does_X12_write σ a 0 0 (by omega)) ?_
      refine zRx.aload_n 0 rfl rfl dX12_asks_110 ?_
      refine zRx.iconst ⟨by decide, by decide⟩ dX12_asks_111 ?_
      refine zRx.cVv (M := m_X12_writeDown) (av := [.inl 3]) cv_12_484 mk_X12_writeDown (by decide) (b := 0) rfl rfl (Nat.le_of_ble_eq_true rfl) dX12_asks_112 (does_X12_writeDown (F_X12_write σ a 0 0) 3 (by have e66 : (F_X12_write σ a 0 0) 0 66 = (σ 0 66) + 1 := (write_c σ a 0 0); have e67 : (F_X12_write σ a 0 0) 0 67 = σ 0 67 := (kp_write _ _ _ _ 67 (by decide)); omega)) ?_
      refine zRx.iconst ⟨by decide, by decide⟩ dX12_asks_115 ?_
      exact zR.zret rfl ⟨by decide, by decide⟩ dX12_asks_116 ⟨by unfold V_X12_asks; rw [if_neg c5, if_pos c35], by unfold F_X12_asks; rw [if_neg c5, if_pos c35]⟩
    · refine zRx.aload_n 0 rfl rfl dX12_asks_38 ?_
      refine zRx.bipush ⟨by decide, by decide⟩ rfl dX12_asks_39 ?_
      refine zRx.cVi (w := .inl (b2 (σ 0 11 = 3 ∧ σ 0 14 = 60))) (M := m_X12_isSign) (av := [.inl 60]) cv_12_245 mk_X12_isSign (by decide) (b := 0) rfl rfl (Nat.le_of_ble_eq_true rfl) dX12_asks_41 (isSign2 σ 60 (σ 0 11) (σ 0 14) rfl rfl) ?_
      refine zRx.if_neB (tgt := 71) dX12_asks_44 (by decide) (fun c44 => ?_) (fun c44 => ?_)
      · refine zRx.aload_n 0 rfl rfl dX12_asks_71 ?_
        refine zRx.getIv (a := 0) (ji := 14) (v := σ 0 14) rfl fl_12_232 rfl rfl rfl dX12_asks_72 ?_
        refine zRx.istore_n (ls' := [(0, zP 0), (1, .inl a), (2, .inl (σ 0 14)), (3, .inl 0)]) rfl rfl (by decide) dX12_asks_75 ?_
        refine zRx.aload_n 0 rfl rfl dX12_asks_76 ?_
        refine zRx.cVv (M := m_X12_next) (av := []) cv_12_251 mk_X12_next (by decide) (b := 0) rfl rfl (Nat.le_of_ble_eq_true rfl) dX12_asks_77 (does_next2 σ hI) ?_
        refine zRx.aload_n 0 rfl rfl dX12_asks_80 ?_
        refine zRx.getIv (a := 0) (ji := 11) (v := (F_X12_next σ) 0 11) rfl fl_12_222 rfl rfl rfl dX12_asks_81 ?_
        refine zRx.iconst ⟨by decide, by decide⟩ dX12_asks_84 ?_
        refine zRx.icmp_eq (tgt := 94) dX12_asks_85 (by decide) (fun c85 => ?_) (fun c85 => ?_)
        · refine zRx.aload_n 0 rfl rfl dX12_asks_94 ?_
          refine zRx.getIv (a := 0) (ji := 14) (v := (F_X12_next σ) 0 14) rfl fl_12_232 rfl rfl rfl dX12_asks_95 ?_
          refine zRx.istore_n (ls' := [(0, zP 0), (1, .inl a), (2, .inl (σ 0 14)), (3, .inl ((F_X12_next σ) 0 14))]) rfl rfl (by decide) dX12_asks_98 ?_
          refine zRx.aload_n 0 rfl rfl dX12_asks_99 ?_
          refine zRx.cVv (M := m_X12_next) (av := []) cv_12_251 mk_X12_next (by decide) (b := 0) rfl rfl (Nat.le_of_ble_eq_true rfl) dX12_asks_100 (does_next2 (F_X12_next σ) (PI_F_X12_next hI)) ?_
          refine zRx.aload_n 0 rfl rfl dX12_asks_103 ?_
          refine zRx.iload_n 1 rfl rfl dX12_asks_104 ?_
          refine zRx.iload_n 2 rfl rfl dX12_asks_105 ?_
          refine zRx.iload_n 3 rfl rfl dX12_asks_106 ?_
          refine zRx.cVv (M := m_X12_write) (av := [.inl a, .inl (σ 0 14), .inl ((F_X12_next σ) 0 14)]) cv_12_475 mk_X12_write (by decide) (b := 0) rfl rfl (Nat.le_of_ble_eq_true rfl) dX12_asks_107 (does_X12_write (F_X12_next (F_X12_next σ)) a (σ 0 14) ((F_X12_next σ) 0 14) (by have e9 : (F_X12_next (F_X12_next σ)) 0 66 = σ 0 66 := ((kp_next _ 66 (by unfold KI; decide)).trans (kp_next _ 66 (by unfold KI; decide))); omega)) ?_
          refine zRx.aload_n 0 rfl rfl dX12_asks_110 ?_
          refine zRx.iconst ⟨by decide, by decide⟩ dX12_asks_111 ?_
          refine zRx.cVv (M := m_X12_writeDown) (av := [.inl 3]) cv_12_484 mk_X12_writeDown (by decide) (b := 0) rfl rfl (Nat.le_of_ble_eq_true rfl) dX12_asks_112 (does_X12_writeDown (F_X12_write (F_X12_next (F_X12_next σ)) a (σ 0 14) ((F_X12_next σ) 0 14)) 3 (by have e66 : (F_X12_write (F_X12_next (F_X12_next σ)) a (σ 0 14) ((F_X12_next σ) 0 14)) 0 66 = (σ 0 66) + 1 := ((write_c (F_X12_next (F_X12_next σ)) a (σ 0 14) ((F_X12_next σ) 0 14)).trans (congrArg (· + 1) ((kp_next _ 66 (by unfold KI; decide)).trans (kp_next _ 66 (by unfold KI; decide))))); have e67 : (F_X12_write (F_X12_next (F_X12_next σ)) a (σ 0 14) ((F_X12_next σ) 0 14)) 0 67 = σ 0 67 := ((kp_write _ _ _ _ 67 (by decide)).trans ((kp_next _ 67 (by unfold KI; decide)).trans (kp_next _ 67 (by unfold KI; decide)))); omega)) ?_
          refine zRx.iconst ⟨by decide, by decide⟩ dX12_asks_115 ?_
          exact zR.zret rfl ⟨by decide, by decide⟩ dX12_asks_116 ⟨by unfold V_X12_asks; rw [if_neg c5, if_neg (Int.not_le.mpr c35), if_pos c44, if_pos c85], by unfold F_X12_asks; rw [if_neg c5, if_neg (Int.not_le.mpr c35), if_pos c44, if_pos c85]⟩
        · refine zRx.aload_n 0 rfl rfl dX12_asks_88 ?_
          refine zRx.iconst ⟨by decide, by decide⟩ dX12_asks_89 ?_
          refine zRx.cVi (w := .inl 0) (M := m_X12_bad) (av := [.inl 1]) cv_12_248 mk_X12_bad (by decide) (b := 0) rfl rfl (Nat.le_of_ble_eq_true rfl) dX12_asks_90 (bad_eq2 (F_X12_next σ) 1 ((F_X12_next σ) 0 12) rfl) ?_
          exact zR.zret rfl ⟨by decide, by decide⟩ dX12_asks_93 ⟨by unfold V_X12_asks; rw [if_neg c5, if_neg (Int.not_le.mpr c35), if_pos c44, if_neg c85], by unfold F_X12_asks; rw [if_neg c5, if_neg (Int.not_le.mpr c35), if_pos c44, if_neg c85]⟩
      · refine zRx.aload_n 0 rfl rfl dX12_asks_47 ?_
        refine zRx.bipush ⟨by decide, by decide⟩ rfl dX12_asks_48 ?_
        refine zRx.cVi (w := .inl (b2 (σ 0 11 = 3 ∧ σ 0 14 = 61))) (M := m_X12_isSign) (av := [.inl 61]) cv_12_245 mk_X12_isSign (by decide) (b := 0) rfl rfl (Nat.le_of_ble_eq_true rfl) dX12_asks_50 (isSign2 σ 61 (σ 0 11) (σ 0 14) rfl rfl) ?_
        refine zRx.if_neB (tgt := 71) dX12_asks_53 (by decide) (fun c53 => ?_) (fun c53 => ?_)
        · refine zRx.aload_n 0 rfl rfl dX12_asks_71 ?_
          refine zRx.getIv (a := 0) (ji := 14) (v := σ 0 14) rfl fl_12_232 rfl rfl rfl dX12_asks_72 ?_
          refine zRx.istore_n (ls' := [(0, zP 0), (1, .inl a), (2, .inl (σ 0 14)), (3, .inl 0)]) rfl rfl (by decide) dX12_asks_75 ?_
          refine zRx.aload_n 0 rfl rfl dX12_asks_76 ?_
          refine zRx.cVv (M := m_X12_next) (av := []) cv_12_251 mk_X12_next (by decide) (b := 0) rfl rfl (Nat.le_of_ble_eq_true rfl) dX12_asks_77 (does_next2 σ hI) ?_
          refine zRx.aload_n 0 rfl rfl dX12_asks_80 ?_
          refine zRx.getIv (a := 0) (ji := 11) (v := (F_X12_next σ) 0 11) rfl fl_12_222 rfl rfl rfl dX12_asks_81 ?_
          refine zRx.iconst ⟨by decide, by decide⟩ dX12_asks_84 ?_
          refine zRx.icmp_eq (tgt := 94) dX12_asks_85 (by decide) (fun c85 => ?_) (fun c85 => ?_)
          · refine zRx.aload_n 0 rfl rfl dX12_asks_94 ?_
            refine zRx.getIv (a := 0) (ji := 14) (v := (F_X12_next σ) 0 14) rfl fl_12_232 rfl rfl rfl dX12_asks_95 ?_
            refine zRx.istore_n (ls' := [(0, zP 0), (1, .inl a), (2, .inl (σ 0 14)), (3, .inl ((F_X12_next σ) 0 14))]) rfl rfl (by decide) dX12_asks_98 ?_
            refine zRx.aload_n 0 rfl rfl dX12_asks_99 ?_
            refine zRx.cVv (M := m_X12_next) (av := []) cv_12_251 mk_X12_next (by decide) (b := 0) rfl rfl (Nat.le_of_ble_eq_true rfl) dX12_asks_100 (does_next2 (F_X12_next σ) (PI_F_X12_next hI)) ?_
            refine zRx.aload_n 0 rfl rfl dX12_asks_103 ?_
            refine zRx.iload_n 1 rfl rfl dX12_asks_104 ?_
            refine zRx.iload_n 2 rfl rfl dX12_asks_105 ?_
            refine zRx.iload_n 3 rfl rfl dX12_asks_106 ?_
            refine zRx.cVv (M := m_X12_write) (av := [.inl a, .inl (σ 0 14), .inl ((F_X12_next σ) 0 14)]) cv_12_475 mk_X12_write (by decide) (b := 0) rfl rfl (Nat.le_of_ble_eq_true rfl) dX12_asks_107 (does_X12_write (F_X12_next (F_X12_next σ)) a (σ 0 14) ((F_X12_next σ) 0 14) (by have e9 : (F_X12_next (F_X12_next σ)) 0 66 = σ 0 66 := ((kp_next _ 66 (by unfold KI; decide)).trans (kp_next _ 66 (by unfold KI; decide))); omega)) ?_
            refine zRx.aload_n 0 rfl rfl dX12_asks_110 ?_
            refine zRx.iconst ⟨by decide, by decide⟩ dX12_asks_111 ?_
            refine zRx.cVv (M := m_X12_writeDown) (av := [.inl 3]) cv_12_484 mk_X12_writeDown (by decide) (b := 0) rfl rfl (Nat.le_of_ble_eq_true rfl) dX12_asks_112 (does_X12_writeDown (F_X12_write (F_X12_next (F_X12_next σ)) a (σ 0 14) ((F_X12_next σ) 0 14)) 3 (by have e66 : (F_X12_write (F_X12_next (F_X12_next σ)) a (σ 0 14) ((F_X12_next σ) 0 14)) 0 66 = (σ 0 66) + 1 := ((write_c (F_X12_next (F_X12_next σ)) a (σ 0 14) ((F_X12_next σ) 0 14)).trans (congrArg (· + 1) ((kp_next _ 66 (by unfold KI; decide)).trans (kp_next _ 66 (by unfold KI; decide))))); have e67 : (F_X12_write (F_X12_next (F_X12_next σ)) a (σ 0 14) ((F_X12_next σ) 0 14)) 0 67 = σ 0 67 := ((kp_write _ _ _ _ 67 (by decide)).trans ((kp_next _ 67 (by unfold KI; decide)).trans (kp_next _ 67 (by unfold KI; decide)))); omega)) ?_
            refine zRx.iconst ⟨by decide, by decide⟩ dX12_asks_115 ?_
            exact zR.zret rfl ⟨by decide, by decide⟩ dX12_asks_116 ⟨by unfold V_X12_asks; rw [if_neg c5, if_neg (Int.not_le.mpr c35), if_neg c44, if_pos c53, if_pos c85], by unfold F_X12_asks; rw [if_neg c5, if_neg (Int.not_le.mpr c35), if_neg c44, if_pos c53, if_pos c85]⟩
          · refine zRx.aload_n 0 rfl rfl dX12_asks_88 ?_
            refine zRx.iconst ⟨by decide, by decide⟩ dX12_asks_89 ?_
            refine zRx.cVi (w := .inl 0) (M := m_X12_bad) (av := [.inl 1]) cv_12_248 mk_X12_bad (by decide) (b := 0) rfl rfl (Nat.le_of_ble_eq_true rfl) dX12_asks_90 (bad_eq2 (F_X12_next σ) 1 ((F_X12_next σ) 0 12) rfl) ?_
            exact zR.zret rfl ⟨by decide, by decide⟩ dX12_asks_93 ⟨by unfold V_X12_asks; rw [if_neg c5, if_neg (Int.not_le.mpr c35), if_neg c44, if_pos c53, if_neg c85], by unfold F_X12_asks; rw [if_neg c5, if_neg (Int.not_le.mpr c35), if_neg c44, if_pos c53, if_neg c85]⟩
        · refine zRx.aload_n 0 rfl rfl dX12_asks_56 ?_
          refine zRx.bipush ⟨by decide, by decide⟩ rfl dX12_asks_57 ?_
          refine zRx.cVi (w := .inl (b2 (σ 0 11 = 3 ∧ σ 0 14 = 62))) (M := m_X12_isSign) (av := [.inl 62]) cv_12_245 mk_X12_isSign (by decide) (b := 0) rfl rfl (Nat.le_of_ble_eq_true rfl) dX12_asks_59 (isSign2 σ 62 (σ 0 11) (σ 0 14) rfl rfl) ?_
          refine zRx.if_neB (tgt := 71) dX12_asks_62 (by decide) (fun c62 => ?_) (fun c62 => ?_)
          · refine zRx.aload_n 0 rfl rfl dX12_asks_71 ?_
            refine zRx.getIv (a := 0) (ji := 14) (v := σ 0 14) rfl fl_12_232 rfl rfl rfl dX12_asks_72 ?_
            refine zRx.istore_n (ls' := [(0, zP 0), (1, .inl a), (2, .inl (σ 0 14)), (3, .inl 0)]) rfl rfl (by decide) dX12_asks_75 ?_
            refine zRx.aload_n 0 rfl rfl dX12_asks_76 ?_
            refine zRx.cVv (M := m_X12_next) (av := []) cv_12_251 mk_X12_next (by decide) (b := 0) rfl rfl (Nat.le_of_ble_eq_true rfl) dX12_asks_77 (does_next2 σ hI) ?_
            refine zRx.aload_n 0 rfl rfl dX12_asks_80 ?_
            refine zRx.getIv (a := 0) (ji := 11) (v := (F_X12_next σ) 0 11) rfl fl_12_222 rfl rfl rfl dX12_asks_81 ?_
            refine zRx.iconst ⟨by decide, by decide⟩ dX12_asks_84 ?_
            refine zRx.icmp_eq (tgt := 94) dX12_asks_85 (by decide) (fun c85 => ?_) (fun c85 => ?_)
            · refine zRx.aload_n 0 rfl rfl dX12_asks_94 ?_
              refine zRx.getIv (a := 0) (ji := 14) (v := (F_X12_next σ) 0 14) rfl fl_12_232 rfl rfl rfl dX12_asks_95 ?_
              refine zRx.istore_n (ls' := [(0, zP 0), (1, .inl a), (2, .inl (σ 0 14)), (3, .inl ((F_X12_next σ) 0 14))]) rfl rfl (by decide) dX12_asks_98 ?_
              refine zRx.aload_n 0 rfl rfl dX12_asks_99 ?_
              refine zRx.cVv (M := m_X12_next) (av := []) cv_12_251 mk_X12_next (by decide) (b := 0) rfl rfl (Nat.le_of_ble_eq_true rfl) dX12_asks_100 (does_next2 (F_X12_next σ) (PI_F_X12_next hI)) ?_
              refine zRx.aload_n 0 rfl rfl dX12_asks_103 ?_
              refine zRx.iload_n 1 rfl rfl dX12_asks_104 ?_
              refine zRx.iload_n 2 rfl rfl dX12_asks_105 ?_
              refine zRx.iload_n 3 rfl rfl dX12_asks_106 ?_
              refine zRx.cVv (M := m_X12_write) (av := [.inl a, .inl (σ 0 14), .inl ((F_X12_next σ) 0 14)]) cv_12_475 mk_X12_write (by decide) (b := 0) rfl rfl (Nat.le_of_ble_eq_true rfl) dX12_asks_107 (does_X12_write (F_X12_next (F_X12_next σ)) a (σ 0 14) ((F_X12_next σ) 0 14) (by have e9 : (F_X12_next (F_X12_next σ)) 0 66 = σ 0 66 := ((kp_next _ 66 (by unfold KI; decide)).trans (kp_next _ 66 (by unfold KI; decide))); omega)) ?_
              refine zRx.aload_n 0 rfl rfl dX12_asks_110 ?_
              refine zRx.iconst ⟨by decide, by decide⟩ dX12_asks_111 ?_
              refine zRx.cVv (M := m_X12_writeDown) (av := [.inl 3]) cv_12_484 mk_X12_writeDown (by decide) (b := 0) rfl rfl (Nat.le_of_ble_eq_true rfl) dX12_asks_112 (does_X12_writeDown (F_X12_write (F_X12_next (F_X12_next σ)) a (σ 0 14) ((F_X12_next σ) 0 14)) 3 (by have e66 : (F_X12_write (F_X12_next (F_X12_next σ)) a (σ 0 14) ((F_X12_next σ) 0 14)) 0 66 = (σ 0 66) + 1 := ((write_c (F_X12_next (F_X12_next σ)) a (σ 0 14) ((F_X12_next σ) 0 14)).trans (congrArg (· + 1) ((kp_next _ 66 (by unfold KI; decide)).trans (kp_next _ 66 (by unfold KI; decide))))); have e67 : (F_X12_write (F_X12_next (F_X12_next σ)) a (σ 0 14) ((F_X12_next σ) 0 14)) 0 67 = σ 0 67 := ((kp_write _ _ _ _ 67 (by decide)).trans ((kp_next _ 67 (by unfold KI; decide)).trans (kp_next _ 67 (by unfold KI; decide)))); omega)) ?_
              refine zRx.iconst ⟨by decide, by decide⟩ dX12_asks_115 ?_
              exact zR.zret rfl ⟨by decide, by decide⟩ dX12_asks_116 ⟨by unfold V_X12_asks; rw [if_neg c5, if_neg (Int.not_le.mpr c35), if_neg c44, if_neg c53, if_pos c62, if_pos c85], by unfold F_X12_asks; rw [if_neg c5, if_neg (Int.not_le.mpr c35), if_neg c44, if_neg c53, if_pos c62, if_pos c85]⟩
            · refine zRx.aload_n 0 rfl rfl dX12_asks_88 ?_
              refine zRx.iconst ⟨by decide, by decide⟩ dX12_asks_89 ?_
              refine zRx.cVi (w := .inl 0) (M := m_X12_bad) (av := [.inl 1]) cv_12_248 mk_X12_bad (by decide) (b := 0) rfl rfl (Nat.le_of_ble_eq_true rfl) dX12_asks_90 (bad_eq2 (F_X12_next σ) 1 ((F_X12_next σ) 0 12) rfl) ?_
              exact zR.zret rfl ⟨by decide, by decide⟩ dX12_asks_93 ⟨by unfold V_X12_asks; rw [if_neg c5, if_neg (Int.not_le.mpr c35), if_neg c44, if_neg c53, if_pos c62, if_neg c85], by unfold F_X12_asks; rw [if_neg c5, if_neg (Int.not_le.mpr c35), if_neg c44, if_neg c53, if_pos c62, if_neg c85]⟩
          · refine zRx.aload_n 0 rfl rfl dX12_asks_65 ?_
            refine zRx.iconst ⟨by decide, by decide⟩ dX12_asks_66 ?_
            refine zRx.cVi (w := .inl 0) (M := m_X12_bad) (av := [.inl 1]) cv_12_248 mk_X12_bad (by decide) (b := 0) rfl rfl (Nat.le_of_ble_eq_true rfl) dX12_asks_67 (bad_eq2 σ 1 (σ 0 12) rfl) ?_
            exact zR.zret rfl ⟨by decide, by decide⟩ dX12_asks_70 ⟨by unfold V_X12_asks; rw [if_neg c5, if_neg (Int.not_le.mpr c35), if_neg c44, if_neg c53, if_neg c62], by unfold F_X12_asks; rw [if_neg c5, if_neg (Int.not_le.mpr c35), if_neg c44, if_neg c53, if_neg c62]⟩
  · refine zRx.aload_n 0 rfl rfl dX12_asks_8 ?_
    refine zRx.bipush ⟨by decide, by decide⟩ rfl dX12_asks_9 ?_
    refine zRx.aload_n 0 rfl rfl dX12_asks_11 ?_
    refine zRx.getR (a := 0) (b := 2) fl_12_33 rfl rfl dX12_asks_12 ?_
    refine zRx.iconst ⟨by decide, by decide⟩ dX12_asks_15 ?_
    refine zRx.ialdv (v := σ 2 1) rfl rfl (by decide) (by decide) dX12_asks_16 ?_
    refine zRx.cVi (w := .inl (V_X12_takesName σ 8 (σ 2 1))) (M := m_X12_takesName) (av := [.inl 8, .inl (σ 2 1)]) cv_12_301 mk_X12_takesName (by decide) (b := 0) rfl rfl (Nat.le_of_ble_eq_true rfl) dX12_asks_17 (does_X12_takesName σ 8 (σ 2 1) hI (by omega)) ?_
    refine zRx.if_ne (tgt := 25) dX12_asks_20 (by decide) (fun c20 => ?_) (fun c20 => ?_)
    · refine zRx.aload_n 0 rfl rfl dX12_asks_25 ?_
      refine zRx.getIv (a := 0) (ji := 18) (v := (F_X12_takesName σ 8 (σ 2 1)) 0 18) rfl fl_12_258 rfl rfl rfl dX12_asks_26 ?_
      refine zRx.istore_n (ls' := [(0, zP 0), (1, .inl a), (2, .inl ((F_X12_takesName σ 8 (σ 2 1)) 0 18)), (3, .inl 0)]) rfl rfl (by decide) dX12_asks_29 ?_
      refine zRx.goto (tgt := 103) dX12_asks_30 (by decide) ?_
      refine zRx.aload_n 0 rfl rfl dX12_asks_103 ?_
      refine zRx.iload_n 1 rfl rfl dX12_asks_104 ?_
      refine zRx.iload_n 2 rfl rfl dX12_asks_105 ?_
      refine zRx.iload_n 3 rfl rfl dX12_asks_106 ?_
      refine zRx.cVv (M := m_X12_write) (av := [.inl a, .inl ((F_X12_takesName σ 8 (σ 2 1)) 0 18), .inl 0]) cv_12_475 mk_X12_write (by decide) (b := 0) rfl rfl (Nat.le_of_ble_eq_true rfl) dX12_asks_107 (does_X12_write (F_X12_takesName σ 8 (σ 2 1)) a ((F_X12_takesName σ 8 (σ 2 1)) 0 18) 0 (by have e9 : (F_X12_takesName σ 8 (σ 2 1)) 0 66 = σ 0 66 := (kp_takesName _ _ _ 66 (by unfold KI; decide)); omega)) ?_
      refine zRx.aload_n 0 rfl rfl dX12_asks_110 ?_
      refine zRx.iconst ⟨by decide, by decide⟩ dX12_asks_111 ?_
      refine zRx.cVv (M := m_X12_writeDown) (av := [.inl 3]) cv_12_484 mk_X12_writeDown (by decide) (b := 0) rfl rfl (Nat.le_of_ble_eq_true rfl) dX12_asks_112 (does_X12_writeDown (F_X12_write (F_X12_takesName σ 8 (σ 2 1)) a ((F_X12_takesName σ 8 (σ 2 1)) 0 18) 0) 3 (by have e66 : (F_X12_write (F_X12_takesName σ 8 (σ 2 1)) a ((F_X12_takesName σ 8 (σ 2 1)) 0 18) 0) 0 66 = (σ 0 66) + 1 := ((write_c (F_X12_takesName σ 8 (σ 2 1)) a ((F_X12_takesName σ 8 (σ 2 1)) 0 18) 0).trans (congrArg (· + 1) (kp_takesName _ _ _ 66 (by unfold KI; decide)))); have e67 : (F_X12_write (F_X12_takesName σ 8 (σ 2 1)) a ((F_X12_takesName σ 8 (σ 2 1)) 0 18) 0) 0 67 = σ 0 67 := ((kp_write _ _ _ _ 67 (by decide)).trans (kp_takesName _ _ _ 67 (by unfold KI; decide))); omega)) ?_
      refine zRx.iconst ⟨by decide, by decide⟩ dX12_asks_115 ?_
      exact zR.zret rfl ⟨by decide, by decide⟩ dX12_asks_116 ⟨by unfold V_X12_asks; rw [if_pos c5, if_neg c20], by unfold F_X12_asks; rw [if_pos c5, if_neg c20]⟩
    · refine zRx.iconst ⟨by decide, by decide⟩ dX12_asks_23 ?_
      exact zR.zret rfl ⟨by decide, by decide⟩ dX12_asks_24 ⟨by unfold V_X12_asks; rw [if_pos c5, if_pos c20], by unfold F_X12_asks; rw [if_pos c5, if_pos c20]⟩

theorem v01_X12_asks (σ : zG) (a : Int) : 0 ≤ V_X12_asks σ a ∧ V_X12_asks σ a ≤ 1 := by
  unfold V_X12_asks
  repeat' split
  all_goals decide
