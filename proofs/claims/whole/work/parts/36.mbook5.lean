/-! the reference: book, drawn -/
theorem PM_row {p0 : Int} {σ τ : zG} (e : τ 0 = σ 0) (h : PM p0 σ) : PM p0 τ := by
  unfold PM at *
  rw [e]
  exact h
theorem AD_row {p0 : Int} {σ τ : zG} (e : τ 0 = σ 0) (h : AD p0 σ) : AD p0 τ := by
  unfold AD at *
  rw [e]
  exact h
def BG (p0 c0 : Int) (r : Int × zG) : Prop := PI r.2 ∧ PM p0 r.2 ∧ r.2 0 21 = c0 ∧ (r.1 ≠ 0 → AD p0 r.2)
theorem BG_bad {p0 c0 : Int} {σ : zG} {x y : Int} (hI : PI σ) (hM : PM p0 σ) (hc : σ 0 21 = c0) : BG p0 c0 (0, zu (zu σ 0 15 x) 0 16 y) := ⟨PI_zu (by decide) (PI_zu (by decide) hI), PM_zu (by decide) (PM_zu (by decide) hM), (kp_bad σ x y 21 (by unfold KI; decide)).trans hc, fun h => absurd rfl h⟩
theorem BG_nak {p0 c0 : Int} {σ : zG} (hI : PI σ) (hM : PM p0 σ) (hc : σ 0 21 = c0) : BG p0 c0 (0, σ) := ⟨hI, hM, hc, fun h => absurd rfl h⟩
theorem BG_ok {p0 c0 x : Int} {σ τ : zG} (e : τ 0 = σ 0) (hI : PI σ) (hM : PM p0 σ) (hc : σ 0 21 = c0) (hA : AD p0 σ) : BG p0 c0 (x, τ) := ⟨PI_row e hI, PM_row e hM, by show τ 0 21 = c0; rw [e]; exact hc, fun _ => AD_row e hA⟩
theorem bl287_K {p0 c0 : Int} (to who wh ot f : Int) : ∀ (n : Nat) (mo : Int) (σ : zG), PI σ → PM p0 σ → σ 0 21 = c0 → AD p0 σ → BG p0 c0 (L_X12_bookLine_287 to who wh ot f n mo σ)
  | 0, mo, σ, hI, hM, hc, hA => ⟨hI, hM, hc, fun h => absurd rfl h⟩
  | n + 1, mo, σ, hI, hM, hc, hA => by
    have n1 := PI_F_X12_next hI
    have n2 := PM_F_X12_next hM
    have n3 : F_X12_next σ 0 21 = c0 := (kp_next σ 21 (by unfold KI; decide)).trans hc
    have t1 := PI_F_X12_takes (lo := 0) (hi := 99) hI
    have t2 := PM_F_X12_takes (lo := 0) (hi := 99) hM
    have t3 : F_X12_takes σ 0 99 0 21 = c0 := (kp_takes σ 0 99 21 (by unfold KI; decide)).trans hc
    have key : ∀ m j x, BG p0 c0 (L_X12_bookLine_287 to who wh ot f n m (F_X12_next (zu (F_X12_next σ) 7 j x))) := by
      intro m j x
      have a2 : PM p0 (zu (F_X12_next σ) 7 j x) := PM_zu (fun h => absurd h.1 (by decide)) n2
      refine bl287_K to who wh ot f n m _ (PI_F_X12_next (PI_zu (fun h => absurd h.1 (by decide)) n1)) (PM_F_X12_next a2) ?_ (AD_F_X12_next a2)
      rw [kp_next _ 21 (by unfold KI; decide), zu_ne _ _ _ _ (by decide)]
      exact n3
    rw [L_X12_bookLine_287]
    repeat' split
    all_goals first
      | exact key _ _ _
      | exact BG_bad n1 n2 n3
      | exact BG_nak t1 t2 t3
      | exact BG_ok (by rw [fr_R_X12_withOrder _ _ _ (by decide), fr_F_X12_put _ _ _ _ _ _ _ (by decide)]) t1 t2 t3 (AD_F_X12_takes (by assumption) hM)
      | exact BG_ok (by rw [fr_F_X12_put _ _ _ _ _ _ _ (by decide)]) t1 t2 t3 (AD_F_X12_takes (by assumption) hM)
      | exact BG_ok (by rw [fr_R_X12_withOrder _ _ _ (by decide), fr_F_X12_put _ _ _ _ _ _ _ (by decide)]) hI hM hc hA
      | exact BG_ok (by rw [fr_F_X12_put _ _ _ _ _ _ _ (by decide)]) hI hM hc hA
theorem bl200_K {p0 c0 : Int} (to who wh : Int) (n : Nat) (σ : zG) (hI : PI σ) (hM : PM p0 σ) (hc : σ 0 21 = c0) : BG p0 c0 (L_X12_bookLine_200 to who wh n σ) := by
  cases n with
  | zero => exact BG_nak hI hM hc
  | succ n =>
    have n1 := PI_F_X12_next hI
    have n2 := PM_F_X12_next hM
    have n3 : F_X12_next σ 0 21 = c0 := (kp_next σ 21 (by unfold KI; decide)).trans hc
    have m1 := PI_F_X12_takesName (fm := 8) (nn := σ 2 1) (PI_F_X12_next n1)
    have m2 := PM_F_X12_takesName (fm := 8) (nn := σ 2 1) (PM_F_X12_next n2)
    have m3 : F_X12_takesName (F_X12_next (F_X12_next σ)) 8 (σ 2 1) 0 21 = c0 := (kp_takesName _ _ _ 21 (by unfold KI; decide)).trans ((kp_next _ 21 (by unfold KI; decide)).trans n3)
    rw [L_X12_bookLine_200]
    repeat' split
    all_goals first
      | exact BG_bad n1 n2 n3
      | exact BG_nak m1 m2 m3
      | exact bl287_K _ _ _ _ _ _ _ _ m1 m2 m3 (AD_F_X12_takesName (by assumption) (PM_F_X12_next n2))
      | exact BG_bad hI hM hc
def V_X12_bookLine (σ : zG) : Int := (R_X12_bookLine σ).1
def F_X12_bookLine (σ : zG) : zG := (R_X12_bookLine σ).2
theorem does_bookLine2 (σ : zG) (hI : PI σ) (hp : 0 ≤ σ 2 0 ∧ σ 2 0 ≤ 8) (hF : 0 ≤ σ 2 1 ∧ σ 2 1 ≤ 12) (hc : 0 ≤ σ 0 21 ∧ σ 0 21 ≤ 60) : zDo SM 3 m_X12_bookLine [zP 0] σ (zEq (some (.inl (V_X12_bookLine σ))) (F_X12_bookLine σ)) := does_X12_bookLine σ hI hp hF hc
theorem fr_F_X12_bookLine (σ : zG) {k : Nat} (h : k ∉ [0, 4, 7, 8]) : F_X12_bookLine σ k = σ k := fr_R_X12_bookLine σ h
theorem bl_K {p0 : Int} {σ : zG} (hI : PI σ) (hM : PM p0 σ) : BG p0 (σ 0 21) (R_X12_bookLine σ) ∧ (σ 0 21 = 60 → (R_X12_bookLine σ).1 = 0) := by
  have n1 := PI_F_X12_next hI
  have n2 := PM_F_X12_next hM
  have n3 : F_X12_next σ 0 21 = σ 0 21 := kp_next σ 21 (by unfold KI; decide)
  have tk : ∀ lo : Int, PI (F_X12_takes (F_X12_next σ) lo 999) ∧ PM p0 (F_X12_takes (F_X12_next σ) lo 999) ∧ F_X12_takes (F_X12_next σ) lo 999 0 21 = σ 0 21 := fun lo => ⟨PI_F_X12_takes n1, PM_F_X12_takes n2, (kp_takes _ _ _ 21 (by unfold KI; decide)).trans n3⟩
  have ok : ∀ (lo x to a b c d e : Int), ¬ V_X12_takes (F_X12_next σ) lo 999 = 0 → BG p0 (σ 0 21) (1, F_X12_put (zu (F_X12_takes (F_X12_next σ) lo 999) 0 22 x) to a b c d e) := by
    intro lo x to a b c d e hv
    refine BG_ok (fr_F_X12_put _ _ _ _ _ _ _ (by decide)) (PI_zu (by decide) (tk lo).1) (PM_zu (by decide) (tk lo).2.1) ?_ (AD_zu (by decide) (AD_F_X12_takes hv n2))
    rw [zu_off _ _ _ (by decide)]
    exact (tk lo).2.2
  unfold R_X12_bookLine
  constructor
  · repeat' split
    all_goals first
      | exact BG_bad hI hM rfl
      | exact BG_nak (tk _).1 (tk _).2.1 (tk _).2.2
      | exact ok _ _ _ _ _ _ _ _ (by assumption)
      | exact bl200_K _ _ _ _ _ n1 n2 n3
  · intro h60
    rw [h60]
    repeat' split
    all_goals first | rfl | contradiction
theorem PI_F_X12_bookLine {σ : zG} (hI : PI σ) : PI (F_X12_bookLine σ) := (bl_K hI (Int.le_refl (σ 0 4))).1.1
theorem kp_bookLine {σ : zG} (hI : PI σ) : F_X12_bookLine σ 0 21 = σ 0 21 := (bl_K hI (Int.le_refl (σ 0 4))).1.2.2.1
theorem bl_60 {σ : zG} (hI : PI σ) (hv : ¬ V_X12_bookLine σ = 0) : ¬ σ 0 21 = 60 := fun h => hv ((bl_K hI (Int.le_refl (σ 0 4))).2 h)
theorem bl_step {σ : zG} (hI : PI σ) (hv : ¬ V_X12_bookLine σ = 0) (hs : ¬ V_X12_sign (F_X12_bookLine σ) 59 = 0) (x : Int) : σ 0 4 < zu (F_X12_sign (F_X12_bookLine σ) 59) 0 21 x 0 4 := by
  have h1 := (bl_K hI (Int.le_refl (σ 0 4))).1.2.2.2 hv
  have h2 : PM (F_X12_bookLine σ 0 4) (F_X12_sign (F_X12_bookLine σ) 59) := PM_F_X12_sign (Int.le_refl _)
  have h3 : F_X12_bookLine σ 0 11 = 3 := by
    unfold V_X12_sign at hs
    split at hs
    · next c => exact c.1
    · exact absurd rfl hs
  rw [zu_off _ _ _ (by decide)]
  unfold AD at h1
  unfold PM at h2
  unfold F_X12_bookLine at *
  omega

def S_X12_keepBook_14  : Nat → Int → zG → Int × zG
  | 0, q, σ => (q, σ)
  | n + 1, q, σ => if (5 * (σ 0 21)) ≤ q then (q, σ) else (S_X12_keepBook_14  n (q + 1) (zu σ 2 (173 + q) (σ 4 q)))
theorem fr_S_X12_keepBook_14   (n : Nat) (q : Int) (σ : zG) {k : Nat} (h : k ∉ [2]) : (S_X12_keepBook_14  n q σ).2 k = σ k := by
  induction n generalizing q σ with
  | zero => rfl
  | succ n ih =>
    have ne : ∀ c ∈ [2], k ≠ c := fun c hc e => h (e ▸ hc)
    rw [S_X12_keepBook_14]
    repeat' split
    all_goals first | rfl | simp only [zu_row _ _ _ (ne 2 (by decide)), ih]

set_option maxRecDepth 20000 in
theorem seg_X12_keepBook_14   : ∀ (n : Nat) (q : Int) (σ : zG) (X : zX), 0 ≤ q ∧ 0 ≤ σ 0 21 ∧ σ 0 21 ≤ 60 → (5 * σ 0 21 - q).toNat < n → zRx none 0 m_X12_keepBook SM 46 [(0, zP 0), (1, .inl ((S_X12_keepBook_14  n q σ).1))] [] ((S_X12_keepBook_14  n q σ).2) X → zRx none 0 m_X12_keepBook SM 14 [(0, zP 0), (1, .inl q)] [] σ X := by
  intro n
  induction n with
  | zero => intro q σ X h0 hmz; exact absurd hmz (Nat.not_lt_zero _)
  | succ n ih =>
    intro q σ X h0 hmz K
    refine zRx.iload_n 1 rfl rfl dX12_keepBook_14 ?_
    refine zRx.iconst ⟨by decide, by decide⟩ dX12_keepBook_15 ?_
    refine zRx.aload_n 0 rfl rfl dX12_keepBook_16 ?_
    refine zRx.getIv (a := 0) (ji := 21) (v := σ 0 21) rfl fl_12_323 rfl rfl rfl dX12_keepBook_17 ?_
    refine zRx.imul ⟨by omega, by omega⟩ dX12_keepBook_20 ?_
    refine zRx.icmp_ge (tgt := 46) dX12_keepBook_21 (by decide) (fun c21 => ?_) (fun c21 => ?_)
    · have he : S_X12_keepBook_14  (n + 1) q σ = (q, σ) := by rw [S_X12_keepBook_14, if_pos c21]
      rw [he] at K
      exact K
    · refine zRx.aload_n 0 rfl rfl dX12_keepBook_24 ?_
      refine zRx.getR (a := 0) (b := 2) fl_12_33 rfl rfl dX12_keepBook_25 ?_
      refine zRx.sipush ⟨by decide, by decide⟩ rfl dX12_keepBook_28 ?_
      refine zRx.iload_n 1 rfl rfl dX12_keepBook_31 ?_
      refine zRx.iadd ⟨by omega, by omega⟩ dX12_keepBook_32 ?_
      refine zRx.aload_n 0 rfl rfl dX12_keepBook_33 ?_
      refine zRx.getR (a := 0) (b := 4) fl_12_40 rfl rfl dX12_keepBook_34 ?_
      refine zRx.iload_n 1 rfl rfl dX12_keepBook_37 ?_
      refine zRx.ialdv (v := σ 4 q) rfl rfl (by omega) (by omega) dX12_keepBook_38 ?_
      refine zRx.iast rfl (by omega) (by omega) dX12_keepBook_39 ?_
      refine zRx.iinc (n := 1) (ls' := [(0, zP 0), (1, .inl (q + 1))]) 1 rfl ⟨by omega, by omega⟩ rfl (by decide) dX12_keepBook_40 ?_
      refine zRx.goto (tgt := 14) dX12_keepBook_43 (by decide) ?_
      have he : S_X12_keepBook_14  (n + 1) q σ = S_X12_keepBook_14  n (q + 1) (zu σ 2 (173 + q) (σ 4 q)) := by rw [S_X12_keepBook_14, if_neg (Int.not_le.mpr c21)]
      rw [he] at K
      exact ih (q + 1) (zu σ 2 (173 + q) (σ 4 q)) _ (by have e9 : (zu σ 2 (173 + q) (σ 4 q)) 0 21 = σ 0 21 := (zu_ne _ _ _ _ (by decide)); omega) (by have e9 : (zu σ 2 (173 + q) (σ 4 q)) 0 21 = σ 0 21 := (zu_ne _ _ _ _ (by decide)); omega) K
def S_X12_keepBook_48  : Nat → Int → zG → Int × zG
  | 0, q, σ => (q, σ)
  | n + 1, q, σ => if (σ 0 21) ≤ q then (q, σ) else (S_X12_keepBook_48  n (q + 1) (zu σ 9 q (σ 8 q)))
theorem fr_S_X12_keepBook_48   (n : Nat) (q : Int) (σ : zG) {k : Nat} (h : k ∉ [9]) : (S_X12_keepBook_48  n q σ).2 k = σ k := by
  induction n generalizing q σ with
  | zero => rfl
  | succ n ih =>
    have ne : ∀ c ∈ [9], k ≠ c := fun c hc e => h (e ▸ hc)
    rw [S_X12_keepBook_48]
    repeat' split
    all_goals first | rfl | simp only [zu_row _ _ _ (ne 9 (by decide)), ih]

set_option maxRecDepth 20000 in
theorem seg_X12_keepBook_48   : ∀ (n : Nat) (q : Int) (σ : zG) (X : zX), 0 ≤ q ∧ 0 ≤ σ 0 21 ∧ σ 0 21 ≤ 60 → (σ 0 21 - q).toNat < n → zRx none 0 m_X12_keepBook SM 74 [(0, zP 0), (1, .inl ((S_X12_keepBook_48  n q σ).1))] [] ((S_X12_keepBook_48  n q σ).2) X → zRx none 0 m_X12_keepBook SM 48 [(0, zP 0), (1, .inl q)] [] σ X := by
  intro n
  induction n with
  | zero => intro q σ X h0 hmz; exact absurd hmz (Nat.not_lt_zero _)
  | succ n ih =>
    intro q σ X h0 hmz K
    refine zRx.iload_n 1 rfl rfl dX12_keepBook_48 ?_
    refine zRx.aload_n 0 rfl rfl dX12_keepBook_49 ?_
    refine zRx.getIv (a := 0) (ji := 21) (v := σ 0 21) rfl fl_12_323 rfl rfl rfl dX12_keepBook_50 ?_
    refine zRx.icmp_ge (tgt := 74) dX12_keepBook_53 (by decide) (fun c53 => ?_) (fun c53 => ?_)
    · have he : S_X12_keepBook_48  (n + 1) q σ = (q, σ) := by rw [S_X12_keepBook_48, if_pos c53]
      rw [he] at K
      exact K
    · refine zRx.aload_n 0 rfl rfl dX12_keepBook_56 ?_
      refine zRx.getR (a := 0) (b := 9) fl_12_56 rfl rfl dX12_keepBook_57 ?_
      refine zRx.iload_n 1 rfl rfl dX12_keepBook_60 ?_
      refine zRx.aload_n 0 rfl rfl dX12_keepBook_61 ?_
      refine zRx.getR (a := 0) (b := 8) fl_12_53 rfl rfl dX12_keepBook_62 ?_
      refine zRx.iload_n 1 rfl rfl dX12_keepBook_65 ?_
      refine zRx.ialdv (v := σ 8 q) rfl rfl (by omega) (by omega) dX12_keepBook_66 ?_
      refine zRx.iast rfl (by omega) (by omega) dX12_keepBook_67 ?_
      refine zRx.iinc (n := 1) (ls' := [(0, zP 0), (1, .inl (q + 1))]) 1 rfl ⟨by omega, by omega⟩ rfl (by decide) dX12_keepBook_68 ?_
      refine zRx.goto (tgt := 48) dX12_keepBook_71 (by decide) ?_
      have he : S_X12_keepBook_48  (n + 1) q σ = S_X12_keepBook_48  n (q + 1) (zu σ 9 q (σ 8 q)) := by rw [S_X12_keepBook_48, if_neg (Int.not_le.mpr c53)]
      rw [he] at K
      exact ih (q + 1) (zu σ 9 q (σ 8 q)) _ (by have e9 : (zu σ 9 q (σ 8 q)) 0 21 = σ 0 21 := (zu_ne _ _ _ _ (by decide)); omega) (by have e9 : (zu σ 9 q (σ 8 q)) 0 21 = σ 0 21 := (zu_ne _ _ _ _ (by decide)); omega) K
def R_X12_keepBook (σ : zG)  : zG := (S_X12_keepBook_48  70 0 ((S_X12_keepBook_14  310 0 (zu σ 2 172 (σ 0 21))).2)).2
theorem fr_R_X12_keepBook (σ : zG)  {k : Nat} (h : k ∉ [2, 9]) : (R_X12_keepBook σ ) k = σ k := by
  have ne : ∀ c ∈ [2, 9], k ≠ c := fun c hc e => h (e ▸ hc)
  have nk_S_X12_keepBook_48 : k ∉ [9] := fun hm => h (by first | (revert hm; simp only [List.mem_cons, List.not_mem_nil, or_false]; omega) | (simp at hm))
  have nk_S_X12_keepBook_14 : k ∉ [2] := fun hm => h (by first | (revert hm; simp only [List.mem_cons, List.not_mem_nil, or_false]; omega) | (simp at hm))
  have nl_S_X12_keepBook_14 : k ∉ [2] := fun hm => h (by first | (revert hm; simp only [List.mem_cons, List.not_mem_nil, or_false]; omega) | (simp at hm))
  have nl_S_X12_keepBook_48 : k ∉ [9] := fun hm => h (by first | (revert hm; simp only [List.mem_cons, List.not_mem_nil, or_false]; omega) | (simp at hm))
  unfold R_X12_keepBook
  repeat' split
  all_goals first | rfl | simp only [zu_row _ _ _ (ne 2 (by decide)), zu_row _ _ _ (ne 9 (by decide)), fr_S_X12_keepBook_48 (h := nk_S_X12_keepBook_48), fr_S_X12_keepBook_14 (h := nk_S_X12_keepBook_14), fr_S_X12_keepBook_14 (h := nl_S_X12_keepBook_14), fr_S_X12_keepBook_48 (h := nl_S_X12_keepBook_48)]

set_option maxRecDepth 20000 in
theorem does_X12_keepBook (σ : zG)  (hc : 0 ≤ σ 0 21 ∧ σ 0 21 ≤ 60)  : zDo SM 0 m_X12_keepBook [zP 0] σ (zEq none (R_X12_keepBook σ )) := by
  refine zDo.intro mk_X12_keepBook (Nat.le_of_ble_eq_true rfl) ?_
  refine zRx.aload_n 0 rfl rfl dX12_keepBook_0 ?_
  refine zRx.getR (a := 0) (b := 2) fl_12_33 rfl rfl dX12_keepBook_1 ?_
  refine zRx.sipush ⟨by decide, by decide⟩ rfl dX12_keepBook_4 ?_
  refine zRx.aload_n 0 rfl rfl dX12_keepBook_7 ?_
  refine zRx.getIv (a := 0) (ji := 21) (v := σ 0 21) rfl fl_12_323 rfl rfl rfl dX12_keepBook_8 ?_
  refine zRx.iast rfl (by decide) (by decide) dX12_keepBook_11 ?_
  refine zRx.iconst ⟨by decide, by decide⟩ dX12_keepBook_12 ?_
  refine zRx.istore_n (ls' := [(0, zP 0), (1, .inl 0)]) rfl rfl (by decide) dX12_keepBook_13 ?_
  refine seg_X12_keepBook_14    310 0 (zu σ 2 172 (σ 0 21)) _ (by have e9 : (zu σ 2 172 (σ 0 21)) 0 21 = σ 0 21 := (zu_ne _ _ _ _ (by decide)); omega) (by have e9 : (zu σ 2 172 (σ 0 21)) 0 21 = σ 0 21 := (zu_ne _ _ _ _ (by decide)); omega) ?_
  refine zRx.iconst ⟨by decide, by decide⟩ dX12_keepBook_46 ?_
  refine zRx.istore_n (ls' := [(0, zP 0), (1, .inl 0)]) rfl rfl (by decide) dX12_keepBook_47 ?_
  refine seg_X12_keepBook_48    70 0 ((S_X12_keepBook_14  310 0 (zu σ 2 172 (σ 0 21))).2) _ (by have e9 : ((S_X12_keepBook_14  310 0 (zu σ 2 172 (σ 0 21))).2) 0 21 = σ 0 21 := ((congrFun (fr_S_X12_keepBook_14   310 0 (zu σ 2 172 (σ 0 21)) (k := 0) (by decide)) _).trans (zu_ne _ _ _ _ (by decide))); omega) (by have e9 : ((S_X12_keepBook_14  310 0 (zu σ 2 172 (σ 0 21))).2) 0 21 = σ 0 21 := ((congrFun (fr_S_X12_keepBook_14   310 0 (zu σ 2 172 (σ 0 21)) (k := 0) (by decide)) _).trans (zu_ne _ _ _ _ (by decide))); omega) ?_
  exact zR.ret rfl dX12_keepBook_74 ⟨rfl, (by rw [R_X12_keepBook] : R_X12_keepBook σ  = (S_X12_keepBook_48  70 0 ((S_X12_keepBook_14  310 0 (zu σ 2 172 (σ 0 21))).2)).2).symm⟩

def L_X12_book_31  : Nat → zG → Int × zG
  | 0, σ => (0, σ)
  | n + 1, σ => if (σ 0 11) = 0 then (σ 0 21, R_X12_keepBook σ) else (if (V_X12_bookLine σ) = 0 then (w32 ((-1) - ((F_X12_bookLine σ) 0 16)), F_X12_bookLine σ) else (if (V_X12_sign (F_X12_bookLine σ) 59) = 0 then (w32 ((-1) - ((F_X12_sign (F_X12_bookLine σ) 59) 0 16)), F_X12_sign (F_X12_bookLine σ) 59) else (L_X12_book_31  n  (zu (F_X12_sign (F_X12_bookLine σ) 59) 0 21 ((σ 0 21) + 1)))))
theorem fr_L_X12_book_31   (n : Nat) (σ : zG) {k : Nat} (h : k ∉ [0, 2, 4, 7, 8, 9]) : (L_X12_book_31  n  σ).2 k = σ k := by
  induction n generalizing  σ with
  | zero => rfl
  | succ n ih =>
    have ne : ∀ c ∈ [0, 2, 4, 7, 8, 9], k ≠ c := fun c hc e => h (e ▸ hc)
    have nk_R_X12_keepBook : k ∉ [2, 9] := fun hm => h (by first | (revert hm; simp only [List.mem_cons, List.not_mem_nil, or_false]; omega) | (simp at hm))
    have nk_F_X12_bookLine : k ∉ [0, 4, 7, 8] := fun hm => h (by first | (revert hm; simp only [List.mem_cons, List.not_mem_nil, or_false]; omega) | (simp at hm))
    have nk_F_X12_sign : k ∉ [0] := fun hm => h (by first | (revert hm; simp only [List.mem_cons, List.not_mem_nil, or_false]; omega) | (simp at hm))
    rw [L_X12_book_31]
    repeat' split
    all_goals first | rfl | simp only [zu_row _ _ _ (ne 0 (by decide)), zu_row _ _ _ (ne 2 (by decide)), zu_row _ _ _ (ne 4 (by decide)), zu_row _ _ _ (ne 7 (by decide)), zu_row _ _ _ (ne 8 (by decide)), zu_row _ _ _ (ne 9 (by decide)), fr_R_X12_keepBook (h := nk_R_X12_keepBook), fr_F_X12_bookLine (h := nk_F_X12_bookLine), fr_F_X12_sign (h := nk_F_X12_sign), ih]

set_option maxRecDepth 20000 in
theorem loop_X12_book_31   : ∀ (n : Nat) (σ : zG), PI σ → 0 ≤ σ 2 0 ∧ σ 2 0 ≤ 8 → 0 ≤ σ 2 1 ∧ σ 2 1 ≤ 12 → 0 ≤ σ 0 21 ∧ σ 0 21 ≤ 60 → (940 - σ 0 4).toNat < n → zR SM 4 m_X12_book 31 [(0, zP 0)] [] σ (zEq (some (.inl (L_X12_book_31  n  σ).1)) (L_X12_book_31  n  σ).2) := by
  intro n
  induction n with
  | zero => intro  σ hI hp hF hc hmz; exact absurd hmz (Nat.not_lt_zero _)
  | succ n ih =>
    intro  σ hI hp hF hc hmz
    refine zRx.aload_n 0 rfl rfl dX12_book_31 ?_
    refine zRx.getIv (a := 0) (ji := 11) (v := σ 0 11) rfl fl_12_222 rfl rfl rfl dX12_book_32 ?_
    refine zRx.if_eq (tgt := 74) dX12_book_35 (by decide) (fun c35 => ?_) (fun c35 => ?_)
    · refine zRx.aload_n 0 rfl rfl dX12_book_74 ?_
      refine zRx.cVv (M := m_X12_keepBook) (av := []) cv_12_344 mk_X12_keepBook (by decide) (b := 0) rfl rfl (Nat.le_of_ble_eq_true rfl) dX12_book_75 (does_X12_keepBook σ (by omega)) ?_
      refine zRx.aload_n 0 rfl rfl dX12_book_78 ?_
      refine zRx.getIv (a := 0) (ji := 21) (v := σ 0 21) (congrFun (fr_R_X12_keepBook σ (k := 0) (by decide)) _) fl_12_323 rfl rfl rfl dX12_book_79 ?_
      exact zR.iret rfl dX12_book_82 (by have he : L_X12_book_31  (n + 1)  σ = (σ 0 21, R_X12_keepBook σ) := (by rw [L_X12_book_31, if_pos c35]); rw [he]; exact ⟨rfl, rfl⟩)
    · refine zRx.aload_n 0 rfl rfl dX12_book_38 ?_
      refine zRx.cVi (w := .inl (V_X12_bookLine σ)) (M := m_X12_bookLine) (av := []) cv_12_341 mk_X12_bookLine (by decide) (b := 0) rfl rfl (Nat.le_of_ble_eq_true rfl) dX12_book_39 (does_bookLine2 σ hI (by omega) (by omega) (by omega)) ?_
      refine zRx.if_eq (tgt := 54) dX12_book_42 (by decide) (fun c42 => ?_) (fun c42 => ?_)
      · refine zRx.iconst ⟨by decide, by decide⟩ dX12_book_54 ?_
        refine zRx.aload_n 0 rfl rfl dX12_book_55 ?_
        refine zRx.getIv (a := 0) (ji := 16) (v := (F_X12_bookLine σ) 0 16) rfl fl_12_242 rfl rfl rfl dX12_book_56 ?_
        refine zRx.isubW dX12_book_59 ?_
        exact zR.iret rfl dX12_book_60 (by have he : L_X12_book_31  (n + 1)  σ = (w32 ((-1) - ((F_X12_bookLine σ) 0 16)), F_X12_bookLine σ) := (by rw [L_X12_book_31, if_neg c35, if_pos c42]); rw [he]; exact ⟨rfl, rfl⟩)
      · refine zRx.aload_n 0 rfl rfl dX12_book_45 ?_
        refine zRx.bipush ⟨by decide, by decide⟩ rfl dX12_book_46 ?_
        refine zRx.cVi (w := .inl (V_X12_sign (F_X12_bookLine σ) 59)) (M := m_X12_sign) (av := [.inl 59]) cv_12_313 mk_X12_sign (by decide) (b := 0) rfl rfl (Nat.le_of_ble_eq_true rfl) dX12_book_48 (does_X12_sign (F_X12_bookLine σ) 59 (PI_F_X12_bookLine hI)) ?_
        refine zRx.if_ne (tgt := 61) dX12_book_51 (by decide) (fun c51 => ?_) (fun c51 => ?_)
        · have h60 := bl_60 hI c42
          refine zRx.aload_n 0 rfl rfl dX12_book_61 ?_
          refine zRx.dup rfl dX12_book_62 ?_
          refine zRx.getIv (a := 0) (ji := 21) (v := σ 0 21) ((kp_sign _ _ 21 (by unfold KI; decide)).trans (kp_bookLine hI)) fl_12_323 rfl rfl rfl dX12_book_63 ?_
          refine zRx.iconst ⟨by decide, by decide⟩ dX12_book_66 ?_
          refine zRx.iadd ⟨by omega, by omega⟩ dX12_book_67 ?_
          refine zRx.putI (a := 0) (ji := 21) pl_12_323 rfl rfl rfl dX12_book_68 ?_
          refine zRx.goto (tgt := 31) dX12_book_71 (by decide) ?_
          have he : L_X12_book_31  (n + 1)  σ = L_X12_book_31  n  (zu (F_X12_sign (F_X12_bookLine σ) 59) 0 21 ((σ 0 21) + 1)) := by rw [L_X12_book_31, if_neg c35, if_neg c42, if_neg c51]
          rw [he]
          exact ih  (zu (F_X12_sign (F_X12_bookLine σ) 59) 0 21 ((σ 0 21) + 1)) (PI_zu (by decide) (PI_F_X12_sign (PI_F_X12_bookLine hI))) (by have e9 : (zu (F_X12_sign (F_X12_bookLine σ) 59) 0 21 ((σ 0 21) + 1)) 2 0 = σ 2 0 := ((zu_ne _ _ _ _ (by decide)).trans ((congrFun (fr_F_X12_sign (F_X12_bookLine σ) 59 (k := 2) (by decide)) _).trans (congrFun (fr_F_X12_bookLine σ (k := 2) (by decide)) _))); omega) (by have e9 : (zu (F_X12_sign (F_X12_bookLine σ) 59) 0 21 ((σ 0 21) + 1)) 2 1 = σ 2 1 := ((zu_ne _ _ _ _ (by decide)).trans ((congrFun (fr_F_X12_sign (F_X12_bookLine σ) 59 (k := 2) (by decide)) _).trans (congrFun (fr_F_X12_bookLine σ (k := 2) (by decide)) _))); omega) (by rw [zu_at]; have h9 := bl_60 hI c42; omega) (by have h9 := bl_step hI c42 c51 ((σ 0 21) + 1); have h8 := hI.2.1; have h7 : PI (zu (F_X12_sign (F_X12_bookLine σ) 59) 0 21 ((σ 0 21) + 1)) := (PI_zu (by decide) (PI_F_X12_sign (PI_F_X12_bookLine hI))); have h6 := h7.2.1; omega)
        · refine zRx.iconst ⟨by decide, by decide⟩ dX12_book_54 ?_
          refine zRx.aload_n 0 rfl rfl dX12_book_55 ?_
          refine zRx.getIv (a := 0) (ji := 16) (v := (F_X12_sign (F_X12_bookLine σ) 59) 0 16) rfl fl_12_242 rfl rfl rfl dX12_book_56 ?_
          refine zRx.isubW dX12_book_59 ?_
          exact zR.iret rfl dX12_book_60 (by have he : L_X12_book_31  (n + 1)  σ = (w32 ((-1) - ((F_X12_sign (F_X12_bookLine σ) 59) 0 16)), F_X12_sign (F_X12_bookLine σ) 59) := (by rw [L_X12_book_31, if_neg c35, if_neg c42, if_pos c51]); rw [he]; exact ⟨rfl, rfl⟩)
def R_X12_book (σ : zG)  : Int × zG := L_X12_book_31  1000  (F_X12_next (zu (zu (zu (F_X12_taken (zu σ 0 0 0) 900) 0 15 0) 0 21 0) 0 22 0))
theorem fr_R_X12_book (σ : zG)  {k : Nat} (h : k ∉ [0, 2, 4, 7, 8, 9]) : (R_X12_book σ ).2 k = σ k := by
  have ne : ∀ c ∈ [0, 2, 4, 7, 8, 9], k ≠ c := fun c hc e => h (e ▸ hc)
  have nk_F_X12_next : k ∉ [0] := fun hm => h (by first | (revert hm; simp only [List.mem_cons, List.not_mem_nil, or_false]; omega) | (simp at hm))
  have nk_taken : k ∉ [0] := fun hm => h (by first | (revert hm; simp only [List.mem_cons, List.not_mem_nil, or_false]; omega) | (simp at hm))
  have nl_L_X12_book_31 : k ∉ [0, 2, 4, 7, 8, 9] := fun hm => h (by first | (revert hm; simp only [List.mem_cons, List.not_mem_nil, or_false]; omega) | (simp at hm))
  unfold R_X12_book
  repeat' split
  all_goals first | rfl | simp only [zu_row _ _ _ (ne 0 (by decide)), zu_row _ _ _ (ne 2 (by decide)), zu_row _ _ _ (ne 4 (by decide)), zu_row _ _ _ (ne 7 (by decide)), zu_row _ _ _ (ne 8 (by decide)), zu_row _ _ _ (ne 9 (by decide)), fr_F_X12_next (h := nk_F_X12_next), fr_taken (h := nk_taken), fr_L_X12_book_31 (h := nl_L_X12_book_31)]

set_option maxRecDepth 20000 in
theorem does_X12_book (σ : zG)  (hl : σ 0 2 ≤ 940) (hp : 0 ≤ σ 2 0 ∧ σ 2 0 ≤ 8) (hF : 0 ≤ σ 2 1 ∧ σ 2 1 ≤ 12)  : zDo SM 4 m_X12_book [zP 0] σ (zEq (some (.inl (R_X12_book σ ).1)) (R_X12_book σ ).2) := by
  refine zDo.intro mk_X12_book (Nat.le_of_ble_eq_true rfl) ?_
  refine zRx.aload_n 0 rfl rfl dX12_book_0 ?_
  refine zRx.iconst ⟨by decide, by decide⟩ dX12_book_1 ?_
  refine zRx.putI (a := 0) (ji := 0) pl_12_1 rfl rfl rfl dX12_book_2 ?_
  refine zRx.aload_n 0 rfl rfl dX12_book_5 ?_
  refine zRx.sipush ⟨by decide, by decide⟩ rfl dX12_book_6 ?_
  refine zRx.cVv (M := m_X12_taken) (av := [.inl 900]) cv_12_304 mk_X12_taken (by decide) (b := 0) rfl rfl (Nat.le_of_ble_eq_true rfl) dX12_book_9 (does_X12_taken (zu σ 0 0 0) 900) ?_
  refine zRx.aload_n 0 rfl rfl dX12_book_12 ?_
  refine zRx.iconst ⟨by decide, by decide⟩ dX12_book_13 ?_
  refine zRx.putI (a := 0) (ji := 15) pl_12_239 rfl rfl rfl dX12_book_14 ?_
  refine zRx.aload_n 0 rfl rfl dX12_book_17 ?_
  refine zRx.iconst ⟨by decide, by decide⟩ dX12_book_18 ?_
  refine zRx.putI (a := 0) (ji := 21) pl_12_323 rfl rfl rfl dX12_book_19 ?_
  refine zRx.aload_n 0 rfl rfl dX12_book_22 ?_
  refine zRx.iconst ⟨by decide, by decide⟩ dX12_book_23 ?_
  refine zRx.putI (a := 0) (ji := 22) pl_12_326 rfl rfl rfl dX12_book_24 ?_
  refine zRx.aload_n 0 rfl rfl dX12_book_27 ?_
  refine zRx.cVv (M := m_X12_next) (av := []) cv_12_251 mk_X12_next (by decide) (b := 0) rfl rfl (Nat.le_of_ble_eq_true rfl) dX12_book_28 (does_next2 (zu (zu (zu (F_X12_taken (zu σ 0 0 0) 900) 0 15 0) 0 21 0) 0 22 0) (PI_zu (by decide) (PI_zu (by decide) (PI_zu (by decide) (PI_taken (by have e9 : (zu σ 0 0 0) 0 2 = σ 0 2 := (zu_off _ _ _ (by decide)); omega)))))) ?_
  have he : R_X12_book σ  = L_X12_book_31  1000  (F_X12_next (zu (zu (zu (F_X12_taken (zu σ 0 0 0) 900) 0 15 0) 0 21 0) 0 22 0)) := by rw [R_X12_book]
  rw [he]
  exact loop_X12_book_31    1000  (F_X12_next (zu (zu (zu (F_X12_taken (zu σ 0 0 0) 900) 0 15 0) 0 21 0) 0 22 0)) (PI_F_X12_next (PI_zu (by decide) (PI_zu (by decide) (PI_zu (by decide) (PI_taken (by have e9 : (zu σ 0 0 0) 0 2 = σ 0 2 := (zu_off _ _ _ (by decide)); omega)))))) (by have e9 : (F_X12_next (zu (zu (zu (F_X12_taken (zu σ 0 0 0) 900) 0 15 0) 0 21 0) 0 22 0)) 2 0 = σ 2 0 := ((congrFun (fr_F_X12_next (zu (zu (zu (F_X12_taken (zu σ 0 0 0) 900) 0 15 0) 0 21 0) 0 22 0) (k := 2) (by decide)) _).trans ((zu_ne _ _ _ _ (by decide)).trans ((zu_ne _ _ _ _ (by decide)).trans ((zu_ne _ _ _ _ (by decide)).trans ((congrFun (fr_taken (zu σ 0 0 0) 900 (k := 2) (by decide)) _).trans (zu_ne _ _ _ _ (by decide))))))); omega) (by have e9 : (F_X12_next (zu (zu (zu (F_X12_taken (zu σ 0 0 0) 900) 0 15 0) 0 21 0) 0 22 0)) 2 1 = σ 2 1 := ((congrFun (fr_F_X12_next (zu (zu (zu (F_X12_taken (zu σ 0 0 0) 900) 0 15 0) 0 21 0) 0 22 0) (k := 2) (by decide)) _).trans ((zu_ne _ _ _ _ (by decide)).trans ((zu_ne _ _ _ _ (by decide)).trans ((zu_ne _ _ _ _ (by decide)).trans ((congrFun (fr_taken (zu σ 0 0 0) 900 (k := 2) (by decide)) _).trans (zu_ne _ _ _ _ (by decide))))))); omega) (by have e9 : (F_X12_next (zu (zu (zu (F_X12_taken (zu σ 0 0 0) 900) 0 15 0) 0 21 0) 0 22 0)) 0 21 = 0 := ((kp_next _ 21 (by unfold KI; decide)).trans ((zu_off _ _ _ (by decide)).trans (zu_at _ _ _ _))); omega) (by have h9 : PI (F_X12_next (zu (zu (zu (F_X12_taken (zu σ 0 0 0) 900) 0 15 0) 0 21 0) 0 22 0)) := (PI_F_X12_next (PI_zu (by decide) (PI_zu (by decide) (PI_zu (by decide) (PI_taken (by have e9 : (zu σ 0 0 0) 0 2 = σ 0 2 := (zu_off _ _ _ (by decide)); omega)))))); have h8 := h9.1; omega)

theorem draw_r (σ : zG) (n : Int) (h : 0 < n) : 0 ≤ V_X12_draw σ n ∧ V_X12_draw σ n < n := by
  unfold V_X12_draw
  exact ⟨Int.emod_nonneg _ (by omega), Int.emod_lt_of_pos _ h⟩

def L_X12_drawn_51 (x sd : Int) : Nat → zG → Int × zG
  | 0, σ => (0, σ)
  | n + 1, σ => if x ≤ (σ 0 21) then (x, R_X12_keepBook σ) else (if (V_X12_draw (F_X12_draw (F_X12_draw σ 8) (σ 2 0)) (σ 2 0)) = (V_X12_draw (F_X12_draw σ 8) (σ 2 0)) then (if (V_X12_draw σ 8) = 0 then (L_X12_drawn_51 x sd n  (zu (F_X12_put (zu (F_X12_draw (F_X12_draw (F_X12_draw (F_X12_draw σ 8) (σ 2 0)) (σ 2 0)) (σ 2 1)) 0 22 (w32 ((σ 0 22) + 1))) (5 * (σ 0 21)) 0 (w32 ((σ 0 22) + 1)) (-1) (-1) 0) 0 21 ((σ 0 21) + 1))) else (if 3 ≤ (V_X12_draw σ 8) then (if (V_X12_draw σ 8) = 3 then (L_X12_drawn_51 x sd n  (zu (F_X12_put (F_X12_draw (F_X12_draw (F_X12_draw (F_X12_draw σ 8) (σ 2 0)) (σ 2 0)) (σ 2 1)) (5 * (σ 0 21)) 2 (V_X12_draw (F_X12_draw σ 8) (σ 2 0)) (((V_X12_draw (F_X12_draw σ 8) (σ 2 0)) + 1) % (σ 2 0)) (V_X12_draw (F_X12_draw (F_X12_draw (F_X12_draw σ 8) (σ 2 0)) (σ 2 0)) (σ 2 1)) 0) 0 21 ((σ 0 21) + 1))) else (if (V_X12_draw σ 8) = 4 then (L_X12_drawn_51 x sd n  (zu (F_X12_put (F_X12_draw (F_X12_draw (F_X12_draw (F_X12_draw (F_X12_draw σ 8) (σ 2 0)) (σ 2 0)) (σ 2 1)) 20) (5 * (σ 0 21)) 4 (V_X12_draw (F_X12_draw σ 8) (σ 2 0)) (((V_X12_draw (F_X12_draw σ 8) (σ 2 0)) + 1) % (σ 2 0)) (V_X12_draw (F_X12_draw (F_X12_draw (F_X12_draw σ 8) (σ 2 0)) (σ 2 0)) (σ 2 1)) (V_X12_draw (F_X12_draw (F_X12_draw (F_X12_draw (F_X12_draw σ 8) (σ 2 0)) (σ 2 0)) (σ 2 1)) 20)) 0 21 ((σ 0 21) + 1))) else (L_X12_drawn_51 x sd n  (zu (F_X12_put (F_X12_draw (F_X12_draw (F_X12_draw (F_X12_draw σ 8) (σ 2 0)) (σ 2 0)) (σ 2 1)) (5 * (σ 0 21)) 3 (V_X12_draw (F_X12_draw σ 8) (σ 2 0)) (((V_X12_draw (F_X12_draw σ 8) (σ 2 0)) + 1) % (σ 2 0)) (V_X12_draw (F_X12_draw (F_X12_draw (F_X12_draw σ 8) (σ 2 0)) (σ 2 0)) (σ 2 1)) 0) 0 21 ((σ 0 21) + 1))))) else (L_X12_drawn_51 x sd n  (zu (F_X12_put (F_X12_draw (F_X12_draw (F_X12_draw (F_X12_draw σ 8) (σ 2 0)) (σ 2 0)) (σ 2 1)) (5 * (σ 0 21)) 1 (V_X12_draw (F_X12_draw σ 8) (σ 2 0)) (((V_X12_draw (F_X12_draw σ 8) (σ 2 0)) + 1) % (σ 2 0)) (V_X12_draw (F_X12_draw (F_X12_draw (F_X12_draw σ 8) (σ 2 0)) (σ 2 0)) (σ 2 1)) 0) 0 21 ((σ 0 21) + 1))))) else (if (V_X12_draw σ 8) = 0 then (L_X12_drawn_51 x sd n  (zu (F_X12_put (zu (F_X12_draw (F_X12_draw (F_X12_draw (F_X12_draw σ 8) (σ 2 0)) (σ 2 0)) (σ 2 1)) 0 22 (w32 ((σ 0 22) + 1))) (5 * (σ 0 21)) 0 (w32 ((σ 0 22) + 1)) (-1) (-1) 0) 0 21 ((σ 0 21) + 1))) else (if 3 ≤ (V_X12_draw σ 8) then (if (V_X12_draw σ 8) = 3 then (L_X12_drawn_51 x sd n  (zu (F_X12_put (F_X12_draw (F_X12_draw (F_X12_draw (F_X12_draw σ 8) (σ 2 0)) (σ 2 0)) (σ 2 1)) (5 * (σ 0 21)) 2 (V_X12_draw (F_X12_draw σ 8) (σ 2 0)) (V_X12_draw (F_X12_draw (F_X12_draw σ 8) (σ 2 0)) (σ 2 0)) (V_X12_draw (F_X12_draw (F_X12_draw (F_X12_draw σ 8) (σ 2 0)) (σ 2 0)) (σ 2 1)) 0) 0 21 ((σ 0 21) + 1))) else (if (V_X12_draw σ 8) = 4 then (L_X12_drawn_51 x sd n  (zu (F_X12_put (F_X12_draw (F_X12_draw (F_X12_draw (F_X12_draw (F_X12_draw σ 8) (σ 2 0)) (σ 2 0)) (σ 2 1)) 20) (5 * (σ 0 21)) 4 (V_X12_draw (F_X12_draw σ 8) (σ 2 0)) (V_X12_draw (F_X12_draw (F_X12_draw σ 8) (σ 2 0)) (σ 2 0)) (V_X12_draw (F_X12_draw (F_X12_draw (F_X12_draw σ 8) (σ 2 0)) (σ 2 0)) (σ 2 1)) (V_X12_draw (F_X12_draw (F_X12_draw (F_X12_draw (F_X12_draw σ 8) (σ 2 0)) (σ 2 0)) (σ 2 1)) 20)) 0 21 ((σ 0 21) + 1))) else (L_X12_drawn_51 x sd n  (zu (F_X12_put (F_X12_draw (F_X12_draw (F_X12_draw (F_X12_draw σ 8) (σ 2 0)) (σ 2 0)) (σ 2 1)) (5 * (σ 0 21)) 3 (V_X12_draw (F_X12_draw σ 8) (σ 2 0)) (V_X12_draw (F_X12_draw (F_X12_draw σ 8) (σ 2 0)) (σ 2 0)) (V_X12_draw (F_X12_draw (F_X12_draw (F_X12_draw σ 8) (σ 2 0)) (σ 2 0)) (σ 2 1)) 0) 0 21 ((σ 0 21) + 1))))) else (L_X12_drawn_51 x sd n  (zu (F_X12_put (F_X12_draw (F_X12_draw (F_X12_draw (F_X12_draw σ 8) (σ 2 0)) (σ 2 0)) (σ 2 1)) (5 * (σ 0 21)) 1 (V_X12_draw (F_X12_draw σ 8) (σ 2 0)) (V_X12_draw (F_X12_draw (F_X12_draw σ 8) (σ 2 0)) (σ 2 0)) (V_X12_draw (F_X12_draw (F_X12_draw (F_X12_draw σ 8) (σ 2 0)) (σ 2 0)) (σ 2 1)) 0) 0 21 ((σ 0 21) + 1))))))
theorem fr_L_X12_drawn_51 (x sd : Int)  (n : Nat) (σ : zG) {k : Nat} (h : k ∉ [0, 2, 4, 8, 9]) : (L_X12_drawn_51 x sd n  σ).2 k = σ k := by
  induction n generalizing  σ with
  | zero => rfl
  | succ n ih =>
    have ne : ∀ c ∈ [0, 2, 4, 8, 9], k ≠ c := fun c hc e => h (e ▸ hc)
    have nk_R_X12_keepBook : k ∉ [2, 9] := fun hm => h (by first | (revert hm; simp only [List.mem_cons, List.not_mem_nil, or_false]; omega) | (simp at hm))
    have nk_F_X12_put : k ∉ [4, 8] := fun hm => h (by first | (revert hm; simp only [List.mem_cons, List.not_mem_nil, or_false]; omega) | (simp at hm))
    have nk_F_X12_draw : k ∉ [0] := fun hm => h (by first | (revert hm; simp only [List.mem_cons, List.not_mem_nil, or_false]; omega) | (simp at hm))
    rw [L_X12_drawn_51]
    repeat' split
    all_goals first | rfl | simp only [zu_row _ _ _ (ne 0 (by decide)), zu_row _ _ _ (ne 2 (by decide)), zu_row _ _ _ (ne 4 (by decide)), zu_row _ _ _ (ne 8 (by decide)), zu_row _ _ _ (ne 9 (by decide)), fr_R_X12_keepBook (h := nk_R_X12_keepBook), fr_F_X12_put (h := nk_F_X12_put), fr_F_X12_draw (h := nk_F_X12_draw), ih]

set_option maxRecDepth 20000 in
theorem loop_X12_drawn_51 (x sd : Int) (hx : 1 ≤ x ∧ x ≤ 60) : ∀ (n : Nat) (σ : zG), 2 ≤ σ 2 0 ∧ σ 2 0 ≤ 8 → 1 ≤ σ 2 1 ∧ σ 2 1 ≤ 12 → 0 ≤ σ 0 21 ∧ σ 0 21 ≤ x → (x - σ 0 21).toNat < n → zR SM 1 m_X12_drawn 51 [(0, zP 0), (1, .inl x), (2, .inl sd)] [] σ (zEq (some (.inl (L_X12_drawn_51 x sd n  σ).1)) (L_X12_drawn_51 x sd n  σ).2) := by
  intro n
  induction n with
  | zero => intro  σ hp hF hc hmz; exact absurd hmz (Nat.not_lt_zero _)
  | succ n ih =>
    intro  σ hp hF hc hmz
    refine zRx.aload_n 0 rfl rfl dX12_drawn_51 ?_
    refine zRx.getIv (a := 0) (ji := 21) (v := σ 0 21) rfl fl_12_323 rfl rfl rfl dX12_drawn_52 ?_
    refine zRx.iload_n 1 rfl rfl dX12_drawn_55 ?_
    refine zRx.icmp_ge (tgt := 239) dX12_drawn_56 (by decide) (fun c56 => ?_) (fun c56 => ?_)
    · refine zRx.aload_n 0 rfl rfl dX12_drawn_239 ?_
      refine zRx.cVv (M := m_X12_keepBook) (av := []) cv_12_344 mk_X12_keepBook (by decide) (b := 0) rfl rfl (Nat.le_of_ble_eq_true rfl) dX12_drawn_240 (does_X12_keepBook σ (by omega)) ?_
      refine zRx.iload_n 1 rfl rfl dX12_drawn_243 ?_
      exact zR.iret rfl dX12_drawn_244 (by have he : L_X12_drawn_51 x sd (n + 1)  σ = (x, R_X12_keepBook σ) := (by rw [L_X12_drawn_51, if_pos c56]); rw [he]; exact ⟨rfl, rfl⟩)
    · refine zRx.aload_n 0 rfl rfl dX12_drawn_59 ?_
      refine zRx.bipush ⟨by decide, by decide⟩ rfl dX12_drawn_60 ?_
      refine zRx.cVi (w := .inl (V_X12_draw σ 8)) (M := m_X12_draw) (av := [.inl 8]) cv_12_351 mk_X12_draw (by decide) (b := 0) rfl rfl (Nat.le_of_ble_eq_true rfl) dX12_drawn_62 (does_X12_draw σ 8 (by decide)) ?_
      refine zRx.istore_n (ls' := [(0, zP 0), (1, .inl x), (2, .inl sd), (3, .inl (V_X12_draw σ 8))]) rfl rfl (by decide) dX12_drawn_65 ?_
      refine zRx.aload_n 0 rfl rfl dX12_drawn_66 ?_
      refine zRx.aload_n 0 rfl rfl dX12_drawn_67 ?_
      refine zRx.getR (a := 0) (b := 2) fl_12_33 rfl rfl dX12_drawn_68 ?_
      refine zRx.iconst ⟨by decide, by decide⟩ dX12_drawn_71 ?_
      refine zRx.ialdv (v := σ 2 0) (congrFun (fr_F_X12_draw σ 8 (k := 2) (by decide)) _) rfl (by decide) (by decide) dX12_drawn_72 ?_
      refine zRx.cVi (w := .inl (V_X12_draw (F_X12_draw σ 8) (σ 2 0))) (M := m_X12_draw) (av := [.inl (σ 2 0)]) cv_12_351 mk_X12_draw (by decide) (b := 0) rfl rfl (Nat.le_of_ble_eq_true rfl) dX12_drawn_73 (does_X12_draw (F_X12_draw σ 8) (σ 2 0) (by omega)) ?_
      have hd4 := draw_r (F_X12_draw σ 8) (σ 2 0) (by omega)
      refine zRx.istore (ls' := [(0, zP 0), (1, .inl x), (2, .inl sd), (3, .inl (V_X12_draw σ 8)), (4, .inl (V_X12_draw (F_X12_draw σ 8) (σ 2 0)))]) rfl (by decide) dX12_drawn_76 ?_
      refine zRx.aload_n 0 rfl rfl dX12_drawn_78 ?_
      refine zRx.aload_n 0 rfl rfl dX12_drawn_79 ?_
      refine zRx.getR (a := 0) (b := 2) fl_12_33 rfl rfl dX12_drawn_80 ?_
      refine zRx.iconst ⟨by decide, by decide⟩ dX12_drawn_83 ?_
      refine zRx.ialdv (v := σ 2 0) ((congrFun (fr_F_X12_draw (F_X12_draw σ 8) (σ 2 0) (k := 2) (by decide)) _).trans (congrFun (fr_F_X12_draw σ 8 (k := 2) (by decide)) _)) rfl (by decide) (by decide) dX12_drawn_84 ?_
      refine zRx.cVi (w := .inl (V_X12_draw (F_X12_draw (F_X12_draw σ 8) (σ 2 0)) (σ 2 0))) (M := m_X12_draw) (av := [.inl (σ 2 0)]) cv_12_351 mk_X12_draw (by decide) (b := 0) rfl rfl (Nat.le_of_ble_eq_true rfl) dX12_drawn_85 (does_X12_draw (F_X12_draw (F_X12_draw σ 8) (σ 2 0)) (σ 2 0) (by omega)) ?_
      refine zRx.istore (ls' := [(0, zP 0), (1, .inl x), (2, .inl sd), (3, .inl (V_X12_draw σ 8)), (4, .inl (V_X12_draw (F_X12_draw σ 8) (σ 2 0))), (5, .inl (V_X12_draw (F_X12_draw (F_X12_draw σ 8) (σ 2 0)) (σ 2 0)))]) rfl (by decide) dX12_drawn_88 ?_
      refine zRx.aload_n 0 rfl rfl dX12_drawn_90 ?_
      refine zRx.aload_n 0 rfl rfl dX12_drawn_91 ?_
      refine zRx.getR (a := 0) (b := 2) fl_12_33 rfl rfl dX12_drawn_92 ?_
      refine zRx.iconst ⟨by decide, by decide⟩ dX12_drawn_95 ?_
      refine zRx.ialdv (v := σ 2 1) ((congrFun (fr_F_X12_draw (F_X12_draw (F_X12_draw σ 8) (σ 2 0)) (σ 2 0) (k := 2) (by decide)) _).trans ((congrFun (fr_F_X12_draw (F_X12_draw σ 8) (σ 2 0) (k := 2) (by decide)) _).trans (congrFun (fr_F_X12_draw σ 8 (k := 2) (by decide)) _))) rfl (by decide) (by decide) dX12_drawn_96 ?_
      refine zRx.cVi (w := .inl (V_X12_draw (F_X12_draw (F_X12_draw (F_X12_draw σ 8) (σ 2 0)) (σ 2 0)) (σ 2 1))) (M := m_X12_draw) (av := [.inl (σ 2 1)]) cv_12_351 mk_X12_draw (by decide) (b := 0) rfl rfl (Nat.le_of_ble_eq_true rfl) dX12_drawn_97 (does_X12_draw (F_X12_draw (F_X12_draw (F_X12_draw σ 8) (σ 2 0)) (σ 2 0)) (σ 2 1) (by omega)) ?_
      refine zRx.istore (ls' := [(0, zP 0), (1, .inl x), (2, .inl sd), (3, .inl (V_X12_draw σ 8)), (4, .inl (V_X12_draw (F_X12_draw σ 8) (σ 2 0))), (5, .inl (V_X12_draw (F_X12_draw (F_X12_draw σ 8) (σ 2 0)) (σ 2 0))), (6, .inl (V_X12_draw (F_X12_draw (F_X12_draw (F_X12_draw σ 8) (σ 2 0)) (σ 2 0)) (σ 2 1)))]) rfl (by decide) dX12_drawn_100 ?_
      refine zRx.iload 5 rfl dX12_drawn_102 ?_
      refine zRx.iload 4 rfl dX12_drawn_104 ?_
      refine zRx.icmp_ne (tgt := 123) dX12_drawn_106 (by decide) (fun c106 => ?_) (fun c106 => ?_)
      · refine zRx.iload 5 rfl dX12_drawn_123 ?_
        refine zRx.istore (ls' := [(0, zP 0), (1, .inl x), (2, .inl sd), (3, .inl (V_X12_draw σ 8)), (4, .inl (V_X12_draw (F_X12_draw σ 8) (σ 2 0))), (5, .inl (V_X12_draw (F_X12_draw (F_X12_draw σ 8) (σ 2 0)) (σ 2 0))), (6, .inl (V_X12_draw (F_X12_draw (F_X12_draw (F_X12_draw σ 8) (σ 2 0)) (σ 2 0)) (σ 2 1)))]) rfl (by decide) dX12_drawn_125 ?_
        refine zRx.iload_n 3 rfl rfl dX12_drawn_127 ?_
        refine zRx.if_ne (tgt := 162) dX12_drawn_128 (by decide) (fun c128 => ?_) (fun c128 => ?_)
        · refine zRx.iload_n 3 rfl rfl dX12_drawn_162 ?_
          refine zRx.iconst ⟨by decide, by decide⟩ dX12_drawn_163 ?_
          refine zRx.icmp_ge (tgt := 171) dX12_drawn_164 (by decide) (fun c164 => ?_) (fun c164 => ?_)
          · refine zRx.iload_n 3 rfl rfl dX12_drawn_171 ?_
            refine zRx.iconst ⟨by decide, by decide⟩ dX12_drawn_172 ?_
            refine zRx.icmp_ne (tgt := 180) dX12_drawn_173 (by decide) (fun c173 => ?_) (fun c173 => ?_)
            · refine zRx.iload_n 3 rfl rfl dX12_drawn_180 ?_
              refine zRx.iconst ⟨by decide, by decide⟩ dX12_drawn_181 ?_
              refine zRx.icmp_ne (tgt := 189) dX12_drawn_182 (by decide) (fun c182 => ?_) (fun c182 => ?_)
              · refine zRx.iconst ⟨by decide, by decide⟩ dX12_drawn_189 ?_
                refine zRx.istore (ls' := [(0, zP 0), (1, .inl x), (2, .inl sd), (3, .inl (V_X12_draw σ 8)), (4, .inl (V_X12_draw (F_X12_draw σ 8) (σ 2 0))), (5, .inl (V_X12_draw (F_X12_draw (F_X12_draw σ 8) (σ 2 0)) (σ 2 0))), (6, .inl (V_X12_draw (F_X12_draw (F_X12_draw (F_X12_draw σ 8) (σ 2 0)) (σ 2 0)) (σ 2 1))), (7, .inl 3)]) rfl (by decide) dX12_drawn_190 ?_
                refine zRx.aload_n 0 rfl rfl dX12_drawn_192 ?_
                refine zRx.iconst ⟨by decide, by decide⟩ dX12_drawn_193 ?_
                refine zRx.aload_n 0 rfl rfl dX12_drawn_194 ?_
                refine zRx.getIv (a := 0) (ji := 21) (v := σ 0 21) ((kp_draw _ _ 21 (by decide)).trans ((kp_draw _ _ 21 (by decide)).trans ((kp_draw _ _ 21 (by decide)).trans (kp_draw _ _ 21 (by decide))))) fl_12_323 rfl rfl rfl dX12_drawn_195 ?_
                refine zRx.imul ⟨by omega, by omega⟩ dX12_drawn_198 ?_
                refine zRx.iload 7 rfl dX12_drawn_199 ?_
                refine zRx.iload 4 rfl dX12_drawn_201 ?_
                refine zRx.iload 5 rfl dX12_drawn_203 ?_
                refine zRx.iload 6 rfl dX12_drawn_205 ?_
                refine zRx.iload 7 rfl dX12_drawn_207 ?_
                refine zRx.iconst ⟨by decide, by decide⟩ dX12_drawn_209 ?_
                refine zRx.icmp_ne (tgt := 222) dX12_drawn_210 (by decide) (fun _ => ?_) (fun c210 => absurd c210 (by decide))
                refine zRx.iconst ⟨by decide, by decide⟩ dX12_drawn_222 ?_
                refine zRx.cVv (M := m_X12_put) (av := [.inl (5 * (σ 0 21)), .inl 3, .inl (V_X12_draw (F_X12_draw σ 8) (σ 2 0)), .inl (V_X12_draw (F_X12_draw (F_X12_draw σ 8) (σ 2 0)) (σ 2 0)), .inl (V_X12_draw (F_X12_draw (F_X12_draw (F_X12_draw σ 8) (σ 2 0)) (σ 2 0)) (σ 2 1)), .inl 0]) cv_12_329 mk_X12_put (by decide) (b := 0) rfl rfl (Nat.le_of_ble_eq_true rfl) dX12_drawn_223 (does_X12_put (F_X12_draw (F_X12_draw (F_X12_draw (F_X12_draw σ 8) (σ 2 0)) (σ 2 0)) (σ 2 1)) (5 * (σ 0 21)) 3 (V_X12_draw (F_X12_draw σ 8) (σ 2 0)) (V_X12_draw (F_X12_draw (F_X12_draw σ 8) (σ 2 0)) (σ 2 0)) (V_X12_draw (F_X12_draw (F_X12_draw (F_X12_draw σ 8) (σ 2 0)) (σ 2 0)) (σ 2 1)) 0 (by omega)) ?_
                refine zRx.aload_n 0 rfl rfl dX12_drawn_226 ?_
                refine zRx.dup rfl dX12_drawn_227 ?_
                refine zRx.getIv (a := 0) (ji := 21) (v := σ 0 21) ((congrFun (fr_F_X12_put (F_X12_draw (F_X12_draw (F_X12_draw (F_X12_draw σ 8) (σ 2 0)) (σ 2 0)) (σ 2 1)) (5 * (σ 0 21)) 3 (V_X12_draw (F_X12_draw σ 8) (σ 2 0)) (V_X12_draw (F_X12_draw (F_X12_draw σ 8) (σ 2 0)) (σ 2 0)) (V_X12_draw (F_X12_draw (F_X12_draw (F_X12_draw σ 8) (σ 2 0)) (σ 2 0)) (σ 2 1)) 0 (k := 0) (by decide)) _).trans ((kp_draw _ _ 21 (by decide)).trans ((kp_draw _ _ 21 (by decide)).trans ((kp_draw _ _ 21 (by decide)).trans (kp_draw _ _ 21 (by decide)))))) fl_12_323 rfl rfl rfl dX12_drawn_228 ?_
                refine zRx.iconst ⟨by decide, by decide⟩ dX12_drawn_231 ?_
                refine zRx.iadd ⟨by omega, by omega⟩ dX12_drawn_232 ?_
                refine zRx.putI (a := 0) (ji := 21) pl_12_323 rfl rfl rfl dX12_drawn_233 ?_
                refine zRx.goto (tgt := 51) dX12_drawn_236 (by decide) ?_
                refine zRx.pick [0, 1, 2] (ls' := [(0, zP 0), (1, .inl x), (2, .inl sd)]) rfl ?_
                have he : L_X12_drawn_51 x sd (n + 1)  σ = L_X12_drawn_51 x sd n  (zu (F_X12_put (F_X12_draw (F_X12_draw (F_X12_draw (F_X12_draw σ 8) (σ 2 0)) (σ 2 0)) (σ 2 1)) (5 * (σ 0 21)) 3 (V_X12_draw (F_X12_draw σ 8) (σ 2 0)) (V_X12_draw (F_X12_draw (F_X12_draw σ 8) (σ 2 0)) (σ 2 0)) (V_X12_draw (F_X12_draw (F_X12_draw (F_X12_draw σ 8) (σ 2 0)) (σ 2 0)) (σ 2 1)) 0) 0 21 ((σ 0 21) + 1)) := by rw [L_X12_drawn_51, if_neg (Int.not_le.mpr c56), if_neg c106, if_neg c128, if_pos c164, if_neg c173, if_neg c182]
                rw [he]
                exact ih  (zu (F_X12_put (F_X12_draw (F_X12_draw (F_X12_draw (F_X12_draw σ 8) (σ 2 0)) (σ 2 0)) (σ 2 1)) (5 * (σ 0 21)) 3 (V_X12_draw (F_X12_draw σ 8) (σ 2 0)) (V_X12_draw (F_X12_draw (F_X12_draw σ 8) (σ 2 0)) (σ 2 0)) (V_X12_draw (F_X12_draw (F_X12_draw (F_X12_draw σ 8) (σ 2 0)) (σ 2 0)) (σ 2 1)) 0) 0 21 ((σ 0 21) + 1)) (by have e9 : (zu (F_X12_put (F_X12_draw (F_X12_draw (F_X12_draw (F_X12_draw σ 8) (σ 2 0)) (σ 2 0)) (σ 2 1)) (5 * (σ 0 21)) 3 (V_X12_draw (F_X12_draw σ 8) (σ 2 0)) (V_X12_draw (F_X12_draw (F_X12_draw σ 8) (σ 2 0)) (σ 2 0)) (V_X12_draw (F_X12_draw (F_X12_draw (F_X12_draw σ 8) (σ 2 0)) (σ 2 0)) (σ 2 1)) 0) 0 21 ((σ 0 21) + 1)) 2 0 = σ 2 0 := ((zu_ne _ _ _ _ (by decide)).trans ((congrFun (fr_F_X12_put (F_X12_draw (F_X12_draw (F_X12_draw (F_X12_draw σ 8) (σ 2 0)) (σ 2 0)) (σ 2 1)) (5 * (σ 0 21)) 3 (V_X12_draw (F_X12_draw σ 8) (σ 2 0)) (V_X12_draw (F_X12_draw (F_X12_draw σ 8) (σ 2 0)) (σ 2 0)) (V_X12_draw (F_X12_draw (F_X12_draw (F_X12_draw σ 8) (σ 2 0)) (σ 2 0)) (σ 2 1)) 0 (k := 2) (by decide)) _).trans ((congrFun (fr_F_X12_draw (F_X12_draw (F_X12_draw (F_X12_draw σ 8) (σ 2 0)) (σ 2 0)) (σ 2 1) (k := 2) (by decide)) _).trans ((congrFun (fr_F_X12_draw (F_X12_draw (F_X12_draw σ 8) (σ 2 0)) (σ 2 0) (k := 2) (by decide)) _).trans ((congrFun (fr_F_X12_draw (F_X12_draw σ 8) (σ 2 0) (k := 2) (by decide)) _).trans (congrFun (fr_F_X12_draw σ 8 (k := 2) (by decide)) _)))))); omega) (by have e9 : (zu (F_X12_put (F_X12_draw (F_X12_draw (F_X12_draw (F_X12_draw σ 8) (σ 2 0)) (σ 2 0)) (σ 2 1)) (5 * (σ 0 21)) 3 (V_X12_draw (F_X12_draw σ 8) (σ 2 0)) (V_X12_draw (F_X12_draw (F_X12_draw σ 8) (σ 2 0)) (σ 2 0)) (V_X12_draw (F_X12_draw (F_X12_draw (F_X12_draw σ 8) (σ 2 0)) (σ 2 0)) (σ 2 1)) 0) 0 21 ((σ 0 21) + 1)) 2 1 = σ 2 1 := ((zu_ne _ _ _ _ (by decide)).trans ((congrFun (fr_F_X12_put (F_X12_draw (F_X12_draw (F_X12_draw (F_X12_draw σ 8) (σ 2 0)) (σ 2 0)) (σ 2 1)) (5 * (σ 0 21)) 3 (V_X12_draw (F_X12_draw σ 8) (σ 2 0)) (V_X12_draw (F_X12_draw (F_X12_draw σ 8) (σ 2 0)) (σ 2 0)) (V_X12_draw (F_X12_draw (F_X12_draw (F_X12_draw σ 8) (σ 2 0)) (σ 2 0)) (σ 2 1)) 0 (k := 2) (by decide)) _).trans ((congrFun (fr_F_X12_draw (F_X12_draw (F_X12_draw (F_X12_draw σ 8) (σ 2 0)) (σ 2 0)) (σ 2 1) (k := 2) (by decide)) _).trans ((congrFun (fr_F_X12_draw (F_X12_draw (F_X12_draw σ 8) (σ 2 0)) (σ 2 0) (k := 2) (by decide)) _).trans ((congrFun (fr_F_X12_draw (F_X12_draw σ 8) (σ 2 0) (k := 2) (by decide)) _).trans (congrFun (fr_F_X12_draw σ 8 (k := 2) (by decide)) _)))))); omega) (by rw [zu_at]; omega) (by rw [zu_at]; omega)
              · refine zRx.iconst ⟨by decide, by decide⟩ dX12_drawn_185 ?_
                refine zRx.goto (tgt := 190) dX12_drawn_186 (by decide) ?_
                refine zRx.istore (ls' := [(0, zP 0), (1, .inl x), (2, .inl sd), (3, .inl (V_X12_draw σ 8)), (4, .inl (V_X12_draw (F_X12_draw σ 8) (σ 2 0))), (5, .inl (V_X12_draw (F_X12_draw (F_X12_draw σ 8) (σ 2 0)) (σ 2 0))), (6, .inl (V_X12_draw (F_X12_draw (F_X12_draw (F_X12_draw σ 8) (σ 2 0)) (σ 2 0)) (σ 2 1))), (7, .inl 4)]) rfl (by decide) dX12_drawn_190 ?_
                refine zRx.aload_n 0 rfl rfl dX12_drawn_192 ?_
                refine zRx.iconst ⟨by decide, by decide⟩ dX12_drawn_193 ?_
                refine zRx.aload_n 0 rfl rfl dX12_drawn_194 ?_
                refine zRx.getIv (a := 0) (ji := 21) (v := σ 0 21) ((kp_draw _ _ 21 (by decide)).trans ((kp_draw _ _ 21 (by decide)).trans ((kp_draw _ _ 21 (by decide)).trans (kp_draw _ _ 21 (by decide))))) fl_12_323 rfl rfl rfl dX12_drawn_195 ?_
                refine zRx.imul ⟨by omega, by omega⟩ dX12_drawn_198 ?_
                refine zRx.iload 7 rfl dX12_drawn_199 ?_
                refine zRx.iload 4 rfl dX12_drawn_201 ?_
                refine zRx.iload 5 rfl dX12_drawn_203 ?_
                refine zRx.iload 6 rfl dX12_drawn_205 ?_
                refine zRx.iload 7 rfl dX12_drawn_207 ?_
                refine zRx.iconst ⟨by decide, by decide⟩ dX12_drawn_209 ?_
                refine zRx.icmp_ne (tgt := 222) dX12_drawn_210 (by decide) (fun c210 => absurd c210 (by decide)) (fun _ => ?_)
                refine zRx.aload_n 0 rfl rfl dX12_drawn_213 ?_
                refine zRx.bipush ⟨by decide, by decide⟩ rfl dX12_drawn_214 ?_
                refine zRx.cVi (w := .inl (V_X12_draw (F_X12_draw (F_X12_draw (F_X12_draw (F_X12_draw σ 8) (σ 2 0)) (σ 2 0)) (σ 2 1)) 20)) (M := m_X12_draw) (av := [.inl 20]) cv_12_351 mk_X12_draw (by decide) (b := 0) rfl rfl (Nat.le_of_ble_eq_true rfl) dX12_drawn_216 (does_X12_draw (F_X12_draw (F_X12_draw (F_X12_draw (F_X12_draw σ 8) (σ 2 0)) (σ 2 0)) (σ 2 1)) 20 (by decide)) ?_
                refine zRx.goto (tgt := 223) dX12_drawn_219 (by decide) ?_
                refine zRx.cVv (M := m_X12_put) (av := [.inl (5 * (σ 0 21)), .inl 4, .inl (V_X12_draw (F_X12_draw σ 8) (σ 2 0)), .inl (V_X12_draw (F_X12_draw (F_X12_draw σ 8) (σ 2 0)) (σ 2 0)), .inl (V_X12_draw (F_X12_draw (F_X12_draw (F_X12_draw σ 8) (σ 2 0)) (σ 2 0)) (σ 2 1)), .inl (V_X12_draw (F_X12_draw (F_X12_draw (F_X12_draw (F_X12_draw σ 8) (σ 2 0)) (σ 2 0)) (σ 2 1)) 20)]) cv_12_329 mk_X12_put (by decide) (b := 0) rfl rfl (Nat.le_of_ble_eq_true rfl) dX12_drawn_223 (does_X12_put (F_X12_draw (F_X12_draw (F_X12_draw (F_X12_draw (F_X12_draw σ 8) (σ 2 0)) (σ 2 0)) (σ 2 1)) 20) (5 * (σ 0 21)) 4 (V_X12_draw (F_X12_draw σ 8) (σ 2 0)) (V_X12_draw (F_X12_draw (F_X12_draw σ 8) (σ 2 0)) (σ 2 0)) (V_X12_draw (F_X12_draw (F_X12_draw (F_X12_draw σ 8) (σ 2 0)) (σ 2 0)) (σ 2 1)) (V_X12_draw (F_X12_draw (F_X12_draw (F_X12_draw (F_X12_draw σ 8) (σ 2 0)) (σ 2 0)) (σ 2 1)) 20) (by omega)) ?_
                refine zRx.aload_n 0 rfl rfl dX12_drawn_226 ?_
                refine zRx.dup rfl dX12_drawn_227 ?_
                refine zRx.getIv (a := 0) (ji := 21) (v := σ 0 21) ((congrFun (fr_F_X12_put (F_X12_draw (F_X12_draw (F_X12_draw (F_X12_draw (F_X12_draw σ 8) (σ 2 0)) (σ 2 0)) (σ 2 1)) 20) (5 * (σ 0 21)) 4 (V_X12_draw (F_X12_draw σ 8) (σ 2 0)) (V_X12_draw (F_X12_draw (F_X12_draw σ 8) (σ 2 0)) (σ 2 0)) (V_X12_draw (F_X12_draw (F_X12_draw (F_X12_draw σ 8) (σ 2 0)) (σ 2 0)) (σ 2 1)) (V_X12_draw (F_X12_draw (F_X12_draw (F_X12_draw (F_X12_draw σ 8) (σ 2 0)) (σ 2 0)) (σ 2 1)) 20) (k := 0) (by decide)) _).trans ((kp_draw _ _ 21 (by decide)).trans ((kp_draw _ _ 21 (by decide)).trans ((kp_draw _ _ 21 (by decide)).trans ((kp_draw _ _ 21 (by decide)).trans (kp_draw _ _ 21 (by decide))))))) fl_12_323 rfl rfl rfl dX12_drawn_228 ?_
                refine zRx.iconst ⟨by decide, by decide⟩ dX12_drawn_231 ?_
                refine zRx.iadd ⟨by omega, by omega⟩ dX12_drawn_232 ?_
                refine zRx.putI (a := 0) (ji := 21) pl_12_323 rfl rfl rfl dX12_drawn_233 ?_
                refine zRx.goto (tgt := 51) dX12_drawn_236 (by decide) ?_
                refine zRx.pick [0, 1, 2] (ls' := [(0, zP 0), (1, .inl x), (2, .inl sd)]) rfl ?_
                have he : L_X12_drawn_51 x sd (n + 1)  σ = L_X12_drawn_51 x sd n  (zu (F_X12_put (F_X12_draw (F_X12_draw (F_X12_draw (F_X12_draw (F_X12_draw σ 8) (σ 2 0)) (σ 2 0)) (σ 2 1)) 20) (5 * (σ 0 21)) 4 (V_X12_draw (F_X12_draw σ 8) (σ 2 0)) (V_X12_draw (F_X12_draw (F_X12_draw σ 8) (σ 2 0)) (σ 2 0)) (V_X12_draw (F_X12_draw (F_X12_draw (F_X12_draw σ 8) (σ 2 0)) (σ 2 0)) (σ 2 1)) (V_X12_draw (F_X12_draw (F_X12_draw (F_X12_draw (F_X12_draw σ 8) (σ 2 0)) (σ 2 0)) (σ 2 1)) 20)) 0 21 ((σ 0 21) + 1)) := by rw [L_X12_drawn_51, if_neg (Int.not_le.mpr c56), if_neg c106, if_neg c128, if_pos c164, if_neg c173, if_pos c182]
                rw [he]
                exact ih  (zu (F_X12_put (F_X12_draw (F_X12_draw (F_X12_draw (F_X12_draw (F_X12_draw σ 8) (σ 2 0)) (σ 2 0)) (σ 2 1)) 20) (5 * (σ 0 21)) 4 (V_X12_draw (F_X12_draw σ 8) (σ 2 0)) (V_X12_draw (F_X12_draw (F_X12_draw σ 8) (σ 2 0)) (σ 2 0)) (V_X12_draw (F_X12_draw (F_X12_draw (F_X12_draw σ 8) (σ 2 0)) (σ 2 0)) (σ 2 1)) (V_X12_draw (F_X12_draw (F_X12_draw (F_X12_draw (F_X12_draw σ 8) (σ 2 0)) (σ 2 0)) (σ 2 1)) 20)) 0 21 ((σ 0 21) + 1)) (by have e9 : (zu (F_X12_put (F_X12_draw (F_X12_draw (F_X12_draw (F_X12_draw (F_X12_draw σ 8) (σ 2 0)) (σ 2 0)) (σ 2 1)) 20) (5 * (σ 0 21)) 4 (V_X12_draw (F_X12_draw σ 8) (σ 2 0)) (V_X12_draw (F_X12_draw (F_X12_draw σ 8) (σ 2 0)) (σ 2 0)) (V_X12_draw (F_X12_draw (F_X12_draw (F_X12_draw σ 8) (σ 2 0)) (σ 2 0)) (σ 2 1)) (V_X12_draw (F_X12_draw (F_X12_draw (F_X12_draw (F_X12_draw σ 8) (σ 2 0)) (σ 2 0)) (σ 2 1)) 20)) 0 21 ((σ 0 21) + 1)) 2 0 = σ 2 0 := ((zu_ne _ _ _ _ (by decide)).trans ((congrFun (fr_F_X12_put (F_X12_draw (F_X12_draw (F_X12_draw (F_X12_draw (F_X12_draw σ 8) (σ 2 0)) (σ 2 0)) (σ 2 1)) 20) (5 * (σ 0 21)) 4 (V_X12_draw (F_X12_draw σ 8) (σ 2 0)) (V_X12_draw (F_X12_draw (F_X12_draw σ 8) (σ 2 0)) (σ 2 0)) (V_X12_draw (F_X12_draw (F_X12_draw (F_X12_draw σ 8) (σ 2 0)) (σ 2 0)) (σ 2 1)) (V_X12_draw (F_X12_draw (F_X12_draw (F_X12_draw (F_X12_draw σ 8) (σ 2 0)) (σ 2 0)) (σ 2 1)) 20) (k := 2) (by decide)) _).trans ((congrFun (fr_F_X12_draw (F_X12_draw (F_X12_draw (F_X12_draw (F_X12_draw σ 8) (σ 2 0)) (σ 2 0)) (σ 2 1)) 20 (k := 2) (by decide)) _).trans ((congrFun (fr_F_X12_draw (F_X12_draw (F_X12_draw (F_X12_draw σ 8) (σ 2 0)) (σ 2 0)) (σ 2 1) (k := 2) (by decide)) _).trans ((congrFun (fr_F_X12_draw (F_X12_draw (F_X12_draw σ 8) (σ 2 0)) (σ 2 0) (k := 2) (by decide)) _).trans ((congrFun (fr_F_X12_draw (F_X12_draw σ 8) (σ 2 0) (k := 2) (by decide)) _).trans (congrFun (fr_F_X12_draw σ 8 (k := 2) (by decide)) _))))))); omega) (by have e9 : (zu (F_X12_put (F_X12_draw (F_X12_draw (F_X12_draw (F_X12_draw (F_X12_draw σ 8) (σ 2 0)) (σ 2 0)) (σ 2 1)) 20) (5 * (σ 0 21)) 4 (V_X12_draw (F_X12_draw σ 8) (σ 2 0)) (V_X12_draw (F_X12_draw (F_X12_draw σ 8) (σ 2 0)) (σ 2 0)) (V_X12_draw (F_X12_draw (F_X12_draw (F_X12_draw σ 8) (σ 2 0)) (σ 2 0)) (σ 2 1)) (V_X12_draw (F_X12_draw (F_X12_draw (F_X12_draw (F_X12_draw σ 8) (σ 2 0)) (σ 2 0)) (σ 2 1)) 20)) 0 21 ((σ 0 21) + 1)) 2 1 = σ 2 1 := ((zu_ne _ _ _ _ (by decide)).trans ((congrFun (fr_F_X12_put (F_X12_draw (F_X12_draw (F_X12_draw (F_X12_draw (F_X12_draw σ 8) (σ 2 0)) (σ 2 0)) (σ 2 1)) 20) (5 * (σ 0 21)) 4 (V_X12_draw (F_X12_draw σ 8) (σ 2 0)) (V_X12_draw (F_X12_draw (F_X12_draw σ 8) (σ 2 0)) (σ 2 0)) (V_X12_draw (F_X12_draw (F_X12_draw (F_X12_draw σ 8) (σ 2 0)) (σ 2 0)) (σ 2 1)) (V_X12_draw (F_X12_draw (F_X12_draw (F_X12_draw (F_X12_draw σ 8) (σ 2 0)) (σ 2 0)) (σ 2 1)) 20) (k := 2) (by decide)) _).trans ((congrFun (fr_F_X12_draw (F_X12_draw (F_X12_draw (F_X12_draw (F_X12_draw σ 8) (σ 2 0)) (σ 2 0)) (σ 2 1)) 20 (k := 2) (by decide)) _).trans ((congrFun (fr_F_X12_draw (F_X12_draw (F_X12_draw (F_X12_draw σ 8) (σ 2 0)) (σ 2 0)) (σ 2 1) (k := 2) (by decide)) _).trans ((congrFun (fr_F_X12_draw (F_X12_draw (F_X12_draw σ 8) (σ 2 0)) (σ 2 0) (k := 2) (by decide)) _).trans ((congrFun (fr_F_X12_draw (F_X12_draw σ 8) (σ 2 0) (k := 2) (by decide)) _).trans (congrFun (fr_F_X12_draw σ 8 (k := 2) (by decide)) _))))))); omega) (by rw [zu_at]; omega) (by rw [zu_at]; omega)
            · refine zRx.iconst ⟨by decide, by decide⟩ dX12_drawn_176 ?_
              refine zRx.goto (tgt := 190) dX12_drawn_177 (by decide) ?_
              refine zRx.istore (ls' := [(0, zP 0), (1, .inl x), (2, .inl sd), (3, .inl (V_X12_draw σ 8)), (4, .inl (V_X12_draw (F_X12_draw σ 8) (σ 2 0))), (5, .inl (V_X12_draw (F_X12_draw (F_X12_draw σ 8) (σ 2 0)) (σ 2 0))), (6, .inl (V_X12_draw (F_X12_draw (F_X12_draw (F_X12_draw σ 8) (σ 2 0)) (σ 2 0)) (σ 2 1))), (7, .inl 2)]) rfl (by decide) dX12_drawn_190 ?_
              refine zRx.aload_n 0 rfl rfl dX12_drawn_192 ?_
              refine zRx.iconst ⟨by decide, by decide⟩ dX12_drawn_193 ?_
              refine zRx.aload_n 0 rfl rfl dX12_drawn_194 ?_
              refine zRx.getIv (a := 0) (ji := 21) (v := σ 0 21) ((kp_draw _ _ 21 (by decide)).trans ((kp_draw _ _ 21 (by decide)).trans ((kp_draw _ _ 21 (by decide)).trans (kp_draw _ _ 21 (by decide))))) fl_12_323 rfl rfl rfl dX12_drawn_195 ?_
              refine zRx.imul ⟨by omega, by omega⟩ dX12_drawn_198 ?_
              refine zRx.iload 7 rfl dX12_drawn_199 ?_
              refine zRx.iload 4 rfl dX12_drawn_201 ?_
              refine zRx.iload 5 rfl dX12_drawn_203 ?_
              refine zRx.iload 6 rfl dX12_drawn_205 ?_
              refine zRx.iload 7 rfl dX12_drawn_207 ?_
              refine zRx.iconst ⟨by decide, by decide⟩ dX12_drawn_209 ?_
              refine zRx.icmp_ne (tgt := 222) dX12_drawn_210 (by decide) (fun _ => ?_) (fun c210 => absurd c210 (by decide))
              refine zRx.iconst ⟨by decide, by decide⟩ dX12_drawn_222 ?_
              refine zRx.cVv (M := m_X12_put) (av := [.inl (5 * (σ 0 21)), .inl 2, .inl (V_X12_draw (F_X12_draw σ 8) (σ 2 0)), .inl (V_X12_draw (F_X12_draw (F_X12_draw σ 8) (σ 2 0)) (σ 2 0)), .inl (V_X12_draw (F_X12_draw (F_X12_draw (F_X12_draw σ 8) (σ 2 0)) (σ 2 0)) (σ 2 1)), .inl 0]) cv_12_329 mk_X12_put (by decide) (b := 0) rfl rfl (Nat.le_of_ble_eq_true rfl) dX12_drawn_223 (does_X12_put (F_X12_draw (F_X12_draw (F_X12_draw (F_X12_draw σ 8) (σ 2 0)) (σ 2 0)) (σ 2 1)) (5 * (σ 0 21)) 2 (V_X12_draw (F_X12_draw σ 8) (σ 2 0)) (V_X12_draw (F_X12_draw (F_X12_draw σ 8) (σ 2 0)) (σ 2 0)) (V_X12_draw (F_X12_draw (F_X12_draw (F_X12_draw σ 8) (σ 2 0)) (σ 2 0)) (σ 2 1)) 0 (by omega)) ?_
              refine zRx.aload_n 0 rfl rfl dX12_drawn_226 ?_
              refine zRx.dup rfl dX12_drawn_227 ?_
              refine zRx.getIv (a := 0) (ji := 21) (v := σ 0 21) ((congrFun (fr_F_X12_put (F_X12_draw (F_X12_draw (F_X12_draw (F_X12_draw σ 8) (σ 2 0)) (σ 2 0)) (σ 2 1)) (5 * (σ 0 21)) 2 (V_X12_draw (F_X12_draw σ 8) (σ 2 0)) (V_X12_draw (F_X12_draw (F_X12_draw σ 8) (σ 2 0)) (σ 2 0)) (V_X12_draw (F_X12_draw (F_X12_draw (F_X12_draw σ 8) (σ 2 0)) (σ 2 0)) (σ 2 1)) 0 (k := 0) (by decide)) _).trans ((kp_draw _ _ 21 (by decide)).trans ((kp_draw _ _ 21 (by decide)).trans ((kp_draw _ _ 21 (by decide)).trans (kp_draw _ _ 21 (by decide)))))) fl_12_323 rfl rfl rfl dX12_drawn_228 ?_
              refine zRx.iconst ⟨by decide, by decide⟩ dX12_drawn_231 ?_
              refine zRx.iadd ⟨by omega, by omega⟩ dX12_drawn_232 ?_
              refine zRx.putI (a := 0) (ji := 21) pl_12_323 rfl rfl rfl dX12_drawn_233 ?_
              refine zRx.goto (tgt := 51) dX12_drawn_236 (by decide) ?_
              refine zRx.pick [0, 1, 2] (ls' := [(0, zP 0), (1, .inl x), (2, .inl sd)]) rfl ?_
              have he : L_X12_drawn_51 x sd (n + 1)  σ = L_X12_drawn_51 x sd n  (zu (F_X12_put (F_X12_draw (F_X12_draw (F_X12_draw (F_X12_draw σ 8) (σ 2 0)) (σ 2 0)) (σ 2 1)) (5 * (σ 0 21)) 2 (V_X12_draw (F_X12_draw σ 8) (σ 2 0)) (V_X12_draw (F_X12_draw (F_X12_draw σ 8) (σ 2 0)) (σ 2 0)) (V_X12_draw (F_X12_draw (F_X12_draw (F_X12_draw σ 8) (σ 2 0)) (σ 2 0)) (σ 2 1)) 0) 0 21 ((σ 0 21) + 1)) := by rw [L_X12_drawn_51, if_neg (Int.not_le.mpr c56), if_neg c106, if_neg c128, if_pos c164, if_pos c173]
              rw [he]
              exact ih  (zu (F_X12_put (F_X12_draw (F_X12_draw (F_X12_draw (F_X12_draw σ 8) (σ 2 0)) (σ 2 0)) (σ 2 1)) (5 * (σ 0 21)) 2 (V_X12_draw (F_X12_draw σ 8) (σ 2 0)) (V_X12_draw (F_X12_draw (F_X12_draw σ 8) (σ 2 0)) (σ 2 0)) (V_X12_draw (F_X12_draw (F_X12_draw (F_X12_draw σ 8) (σ 2 0)) (σ 2 0)) (σ 2 1)) 0) 0 21 ((σ 0 21) + 1)) (by have e9 : (zu (F_X12_put (F_X12_draw (F_X12_draw (F_X12_draw (F_X12_draw σ 8) (σ 2 0)) (σ 2 0)) (σ 2 1)) (5 * (σ 0 21)) 2 (V_X12_draw (F_X12_draw σ 8) (σ 2 0)) (V_X12_draw (F_X12_draw (F_X12_draw σ 8) (σ 2 0)) (σ 2 0)) (V_X12_draw (F_X12_draw (F_X12_draw (F_X12_draw σ 8) (σ 2 0)) (σ 2 0)) (σ 2 1)) 0) 0 21 ((σ 0 21) + 1)) 2 0 = σ 2 0 := ((zu_ne _ _ _ _ (by decide)).trans ((congrFun (fr_F_X12_put (F_X12_draw (F_X12_draw (F_X12_draw (F_X12_draw σ 8) (σ 2 0)) (σ 2 0)) (σ 2 1)) (5 * (σ 0 21)) 2 (V_X12_draw (F_X12_draw σ 8) (σ 2 0)) (V_X12_draw (F_X12_draw (F_X12_draw σ 8) (σ 2 0)) (σ 2 0)) (V_X12_draw (F_X12_draw (F_X12_draw (F_X12_draw σ 8) (σ 2 0)) (σ 2 0)) (σ 2 1)) 0 (k := 2) (by decide)) _).trans ((congrFun (fr_F_X12_draw (F_X12_draw (F_X12_draw (F_X12_draw σ 8) (σ 2 0)) (σ 2 0)) (σ 2 1) (k := 2) (by decide)) _).trans ((congrFun (fr_F_X12_draw (F_X12_draw (F_X12_draw σ 8) (σ 2 0)) (σ 2 0) (k := 2) (by decide)) _).trans ((congrFun (fr_F_X12_draw (F_X12_draw σ 8) (σ 2 0) (k := 2) (by decide)) _).trans (congrFun (fr_F_X12_draw σ 8 (k := 2) (by decide)) _)))))); omega) (by have e9 : (zu (F_X12_put (F_X12_draw (F_X12_draw (F_X12_draw (F_X12_draw σ 8) (σ 2 0)) (σ 2 0)) (σ 2 1)) (5 * (σ 0 21)) 2 (V_X12_draw (F_X12_draw σ 8) (σ 2 0)) (V_X12_draw (F_X12_draw (F_X12_draw σ 8) (σ 2 0)) (σ 2 0)) (V_X12_draw (F_X12_draw (F_X12_draw (F_X12_draw σ 8) (σ 2 0)) (σ 2 0)) (σ 2 1)) 0) 0 21 ((σ 0 21) + 1)) 2 1 = σ 2 1 := ((zu_ne _ _ _ _ (by decide)).trans ((congrFun (fr_F_X12_put (F_X12_draw (F_X12_draw (F_X12_draw (F_X12_draw σ 8) (σ 2 0)) (σ 2 0)) (σ 2 1)) (5 * (σ 0 21)) 2 (V_X12_draw (F_X12_draw σ 8) (σ 2 0)) (V_X12_draw (F_X12_draw (F_X12_draw σ 8) (σ 2 0)) (σ 2 0)) (V_X12_draw (F_X12_draw (F_X12_draw (F_X12_draw σ 8) (σ 2 0)) (σ 2 0)) (σ 2 1)) 0 (k := 2) (by decide)) _).trans ((congrFun (fr_F_X12_draw (F_X12_draw (F_X12_draw (F_X12_draw σ 8) (σ 2 0)) (σ 2 0)) (σ 2 1) (k := 2) (by decide)) _).trans ((congrFun (fr_F_X12_draw (F_X12_draw (F_X12_draw σ 8) (σ 2 0)) (σ 2 0) (k := 2) (by decide)) _).trans ((congrFun (fr_F_X12_draw (F_X12_draw σ 8) (σ 2 0) (k := 2) (by decide)) _).trans (congrFun (fr_F_X12_draw σ 8 (k := 2) (by decide)) _)))))); omega) (by rw [zu_at]; omega) (by rw [zu_at]; omega)
          · refine zRx.iconst ⟨by decide, by decide⟩ dX12_drawn_167 ?_
            refine zRx.goto (tgt := 190) dX12_drawn_168 (by decide) ?_
            refine zRx.istore (ls' := [(0, zP 0), (1, .inl x), (2, .inl sd), (3, .inl (V_X12_draw σ 8)), (4, .inl (V_X12_draw (F_X12_draw σ 8) (σ 2 0))), (5, .inl (V_X12_draw (F_X12_draw (F_X12_draw σ 8) (σ 2 0)) (σ 2 0))), (6, .inl (V_X12_draw (F_X12_draw (F_X12_draw (F_X12_draw σ 8) (σ 2 0)) (σ 2 0)) (σ 2 1))), (7, .inl 1)]) rfl (by decide) dX12_drawn_190 ?_
            refine zRx.aload_n 0 rfl rfl dX12_drawn_192 ?_
            refine zRx.iconst ⟨by decide, by decide⟩ dX12_drawn_193 ?_
            refine zRx.aload_n 0 rfl rfl dX12_drawn_194 ?_
            refine zRx.getIv (a := 0) (ji := 21) (v := σ 0 21) ((kp_draw _ _ 21 (by decide)).trans ((kp_draw _ _ 21 (by decide)).trans ((kp_draw _ _ 21 (by decide)).trans (kp_draw _ _ 21 (by decide))))) fl_12_323 rfl rfl rfl dX12_drawn_195 ?_
            refine zRx.imul ⟨by omega, by omega⟩ dX12_drawn_198 ?_
            refine zRx.iload 7 rfl dX12_drawn_199 ?_
            refine zRx.iload 4 rfl dX12_drawn_201 ?_
            refine zRx.iload 5 rfl dX12_drawn_203 ?_
            refine zRx.iload 6 rfl dX12_drawn_205 ?_
            refine zRx.iload 7 rfl dX12_drawn_207 ?_
            refine zRx.iconst ⟨by decide, by decide⟩ dX12_drawn_209 ?_
            refine zRx.icmp_ne (tgt := 222) dX12_drawn_210 (by decide) (fun _ => ?_) (fun c210 => absurd c210 (by decide))
            refine zRx.iconst ⟨by decide, by decide⟩ dX12_drawn_222 ?_
            refine zRx.cVv (M := m_X12_put) (av := [.inl (5 * (σ 0 21)), .inl 1, .inl (V_X12_draw (F_X12_draw σ 8) (σ 2 0)), .inl (V_X12_draw (F_X12_draw (F_X12_draw σ 8) (σ 2 0)) (σ 2 0)), .inl (V_X12_draw (F_X12_draw (F_X12_draw (F_X12_draw σ 8) (σ 2 0)) (σ 2 0)) (σ 2 1)), .inl 0]) cv_12_329 mk_X12_put (by decide) (b := 0) rfl rfl (Nat.le_of_ble_eq_true rfl) dX12_drawn_223 (does_X12_put (F_X12_draw (F_X12_draw (F_X12_draw (F_X12_draw σ 8) (σ 2 0)) (σ 2 0)) (σ 2 1)) (5 * (σ 0 21)) 1 (V_X12_draw (F_X12_draw σ 8) (σ 2 0)) (V_X12_draw (F_X12_draw (F_X12_draw σ 8) (σ 2 0)) (σ 2 0)) (V_X12_draw (F_X12_draw (F_X12_draw (F_X12_draw σ 8) (σ 2 0)) (σ 2 0)) (σ 2 1)) 0 (by omega)) ?_
            refine zRx.aload_n 0 rfl rfl dX12_drawn_226 ?_
            refine zRx.dup rfl dX12_drawn_227 ?_
            refine zRx.getIv (a := 0) (ji := 21) (v := σ 0 21) ((congrFun (fr_F_X12_put (F_X12_draw (F_X12_draw (F_X12_draw (F_X12_draw σ 8) (σ 2 0)) (σ 2 0)) (σ 2 1)) (5 * (σ 0 21)) 1 (V_X12_draw (F_X12_draw σ 8) (σ 2 0)) (V_X12_draw (F_X12_draw (F_X12_draw σ 8) (σ 2 0)) (σ 2 0)) (V_X12_draw (F_X12_draw (F_X12_draw (F_X12_draw σ 8) (σ 2 0)) (σ 2 0)) (σ 2 1)) 0 (k := 0) (by decide)) _).trans ((kp_draw _ _ 21 (by decide)).trans ((kp_draw _ _ 21 (by decide)).trans ((kp_draw _ _ 21 (by decide)).trans (kp_draw _ _ 21 (by decide)))))) fl_12_323 rfl rfl rfl dX12_drawn_228 ?_
            refine zRx.iconst ⟨by decide, by decide⟩ dX12_drawn_231 ?_
            refine zRx.iadd ⟨by omega, by omega⟩ dX12_drawn_232 ?_
            refine zRx.putI (a := 0) (ji := 21) pl_12_323 rfl rfl rfl dX12_drawn_233 ?_
            refine zRx.goto (tgt := 51) dX12_drawn_236 (by decide) ?_
            refine zRx.pick [0, 1, 2] (ls' := [(0, zP 0), (1, .inl x), (2, .inl sd)]) rfl ?_
            have he : L_X12_drawn_51 x sd (n + 1)  σ = L_X12_drawn_51 x sd n  (zu (F_X12_put (F_X12_draw (F_X12_draw (F_X12_draw (F_X12_draw σ 8) (σ 2 0)) (σ 2 0)) (σ 2 1)) (5 * (σ 0 21)) 1 (V_X12_draw (F_X12_draw σ 8) (σ 2 0)) (V_X12_draw (F_X12_draw (F_X12_draw σ 8) (σ 2 0)) (σ 2 0)) (V_X12_draw (F_X12_draw (F_X12_draw (F_X12_draw σ 8) (σ 2 0)) (σ 2 0)) (σ 2 1)) 0) 0 21 ((σ 0 21) + 1)) := by rw [L_X12_drawn_51, if_neg (Int.not_le.mpr c56), if_neg c106, if_neg c128, if_neg (Int.not_le.mpr c164)]
            rw [he]
            exact ih  (zu (F_X12_put (F_X12_draw (F_X12_draw (F_X12_draw (F_X12_draw σ 8) (σ 2 0)) (σ 2 0)) (σ 2 1)) (5 * (σ 0 21)) 1 (V_X12_draw (F_X12_draw σ 8) (σ 2 0)) (V_X12_draw (F_X12_draw (F_X12_draw σ 8) (σ 2 0)) (σ 2 0)) (V_X12_draw (F_X12_draw (F_X12_draw (F_X12_draw σ 8) (σ 2 0)) (σ 2 0)) (σ 2 1)) 0) 0 21 ((σ 0 21) + 1)) (by have e9 : (zu (F_X12_put (F_X12_draw (F_X12_draw (F_X12_draw (F_X12_draw σ 8) (σ 2 0)) (σ 2 0)) (σ 2 1)) (5 * (σ 0 21)) 1 (V_X12_draw (F_X12_draw σ 8) (σ 2 0)) (V_X12_draw (F_X12_draw (F_X12_draw σ 8) (σ 2 0)) (σ 2 0)) (V_X12_draw (F_X12_draw (F_X12_draw (F_X12_draw σ 8) (σ 2 0)) (σ 2 0)) (σ 2 1)) 0) 0 21 ((σ 0 21) + 1)) 2 0 = σ 2 0 := ((zu_ne _ _ _ _ (by decide)).trans ((congrFun (fr_F_X12_put (F_X12_draw (F_X12_draw (F_X12_draw (F_X12_draw σ 8) (σ 2 0)) (σ 2 0)) (σ 2 1)) (5 * (σ 0 21)) 1 (V_X12_draw (F_X12_draw σ 8) (σ 2 0)) (V_X12_draw (F_X12_draw (F_X12_draw σ 8) (σ 2 0)) (σ 2 0)) (V_X12_draw (F_X12_draw (F_X12_draw (F_X12_draw σ 8) (σ 2 0)) (σ 2 0)) (σ 2 1)) 0 (k := 2) (by decide)) _).trans ((congrFun (fr_F_X12_draw (F_X12_draw (F_X12_draw (F_X12_draw σ 8) (σ 2 0)) (σ 2 0)) (σ 2 1) (k := 2) (by decide)) _).trans ((congrFun (fr_F_X12_draw (F_X12_draw (F_X12_draw σ 8) (σ 2 0)) (σ 2 0) (k := 2) (by decide)) _).trans ((congrFun (fr_F_X12_draw (F_X12_draw σ 8) (σ 2 0) (k := 2) (by decide)) _).trans (congrFun (fr_F_X12_draw σ 8 (k := 2) (by decide)) _)))))); omega) (by have e9 : (zu (F_X12_put (F_X12_draw (F_X12_draw (F_X12_draw (F_X12_draw σ 8) (σ 2 0)) (σ 2 0)) (σ 2 1)) (5 * (σ 0 21)) 1 (V_X12_draw (F_X12_draw σ 8) (σ 2 0)) (V_X12_draw (F_X12_draw (F_X12_draw σ 8) (σ 2 0)) (σ 2 0)) (V_X12_draw (F_X12_draw (F_X12_draw (F_X12_draw σ 8) (σ 2 0)) (σ 2 0)) (σ 2 1)) 0) 0 21 ((σ 0 21) + 1)) 2 1 = σ 2 1 := ((zu_ne _ _ _ _ (by decide)).trans ((congrFun (fr_F_X12_put (F_X12_draw (F_X12_draw (F_X12_draw (F_X12_draw σ 8) (σ 2 0)) (σ 2 0)) (σ 2 1)) (5 * (σ 0 21)) 1 (V_X12_draw (F_X12_draw σ 8) (σ 2 0)) (V_X12_draw (F_X12_draw (F_X12_draw σ 8) (σ 2 0)) (σ 2 0)) (V_X12_draw (F_X12_draw (F_X12_draw (F_X12_draw σ 8) (σ 2 0)) (σ 2 0)) (σ 2 1)) 0 (k := 2) (by decide)) _).trans ((congrFun (fr_F_X12_draw (F_X12_draw (F_X12_draw (F_X12_draw σ 8) (σ 2 0)) (σ 2 0)) (σ 2 1) (k := 2) (by decide)) _).trans ((congrFun (fr_F_X12_draw (F_X12_draw (F_X12_draw σ 8) (σ 2 0)) (σ 2 0) (k := 2) (by decide)) _).trans ((congrFun (fr_F_X12_draw (F_X12_draw σ 8) (σ 2 0) (k := 2) (by decide)) _).trans (congrFun (fr_F_X12_draw σ 8 (k := 2) (by decide)) _)))))); omega) (by rw [zu_at]; omega) (by rw [zu_at]; omega)
        · refine zRx.aload_n 0 rfl rfl dX12_drawn_131 ?_
          refine zRx.dup rfl dX12_drawn_132 ?_
          refine zRx.getIv (a := 0) (ji := 22) (v := σ 0 22) ((kp_draw _ _ 22 (by decide)).trans ((kp_draw _ _ 22 (by decide)).trans ((kp_draw _ _ 22 (by decide)).trans (kp_draw _ _ 22 (by decide))))) fl_12_326 rfl rfl rfl dX12_drawn_133 ?_
          refine zRx.iconst ⟨by decide, by decide⟩ dX12_drawn_136 ?_
          refine zRx.iaddW dX12_drawn_137 ?_
          refine zRx.putI (a := 0) (ji := 22) pl_12_326 rfl rfl rfl dX12_drawn_138 ?_
          refine zRx.aload_n 0 rfl rfl dX12_drawn_141 ?_
          refine zRx.iconst ⟨by decide, by decide⟩ dX12_drawn_142 ?_
          refine zRx.aload_n 0 rfl rfl dX12_drawn_143 ?_
          refine zRx.getIv (a := 0) (ji := 21) (v := σ 0 21) ((zu_off _ _ _ (by decide)).trans ((kp_draw _ _ 21 (by decide)).trans ((kp_draw _ _ 21 (by decide)).trans ((kp_draw _ _ 21 (by decide)).trans (kp_draw _ _ 21 (by decide)))))) fl_12_323 rfl rfl rfl dX12_drawn_144 ?_
          refine zRx.imul ⟨by omega, by omega⟩ dX12_drawn_147 ?_
          refine zRx.iconst ⟨by decide, by decide⟩ dX12_drawn_148 ?_
          refine zRx.aload_n 0 rfl rfl dX12_drawn_149 ?_
          refine zRx.getIv (a := 0) (ji := 22) (v := w32 ((σ 0 22) + 1)) (zu_at _ _ _ _) fl_12_326 rfl rfl rfl dX12_drawn_150 ?_
          refine zRx.iconst ⟨by decide, by decide⟩ dX12_drawn_153 ?_
          refine zRx.iconst ⟨by decide, by decide⟩ dX12_drawn_154 ?_
          refine zRx.iconst ⟨by decide, by decide⟩ dX12_drawn_155 ?_
          refine zRx.cVv (M := m_X12_put) (av := [.inl (5 * (σ 0 21)), .inl 0, .inl (w32 ((σ 0 22) + 1)), .inl (-1), .inl (-1), .inl 0]) cv_12_329 mk_X12_put (by decide) (b := 0) rfl rfl (Nat.le_of_ble_eq_true rfl) dX12_drawn_156 (does_X12_put (zu (F_X12_draw (F_X12_draw (F_X12_draw (F_X12_draw σ 8) (σ 2 0)) (σ 2 0)) (σ 2 1)) 0 22 (w32 ((σ 0 22) + 1))) (5 * (σ 0 21)) 0 (w32 ((σ 0 22) + 1)) (-1) (-1) 0 (by omega)) ?_
          refine zRx.goto (tgt := 226) dX12_drawn_159 (by decide) ?_
          refine zRx.aload_n 0 rfl rfl dX12_drawn_226 ?_
          refine zRx.dup rfl dX12_drawn_227 ?_
          refine zRx.getIv (a := 0) (ji := 21) (v := σ 0 21) ((congrFun (fr_F_X12_put (zu (F_X12_draw (F_X12_draw (F_X12_draw (F_X12_draw σ 8) (σ 2 0)) (σ 2 0)) (σ 2 1)) 0 22 (w32 ((σ 0 22) + 1))) (5 * (σ 0 21)) 0 (w32 ((σ 0 22) + 1)) (-1) (-1) 0 (k := 0) (by decide)) _).trans ((zu_off _ _ _ (by decide)).trans ((kp_draw _ _ 21 (by decide)).trans ((kp_draw _ _ 21 (by decide)).trans ((kp_draw _ _ 21 (by decide)).trans (kp_draw _ _ 21 (by decide))))))) fl_12_323 rfl rfl rfl dX12_drawn_228 ?_
          refine zRx.iconst ⟨by decide, by decide⟩ dX12_drawn_231 ?_
          refine zRx.iadd ⟨by omega, by omega⟩ dX12_drawn_232 ?_
          refine zRx.putI (a := 0) (ji := 21) pl_12_323 rfl rfl rfl dX12_drawn_233 ?_
          refine zRx.goto (tgt := 51) dX12_drawn_236 (by decide) ?_
          refine zRx.pick [0, 1, 2] (ls' := [(0, zP 0), (1, .inl x), (2, .inl sd)]) rfl ?_
          have he : L_X12_drawn_51 x sd (n + 1)  σ = L_X12_drawn_51 x sd n  (zu (F_X12_put (zu (F_X12_draw (F_X12_draw (F_X12_draw (F_X12_draw σ 8) (σ 2 0)) (σ 2 0)) (σ 2 1)) 0 22 (w32 ((σ 0 22) + 1))) (5 * (σ 0 21)) 0 (w32 ((σ 0 22) + 1)) (-1) (-1) 0) 0 21 ((σ 0 21) + 1)) := by rw [L_X12_drawn_51, if_neg (Int.not_le.mpr c56), if_neg c106, if_pos c128]
          rw [he]
          exact ih  (zu (F_X12_put (zu (F_X12_draw (F_X12_draw (F_X12_draw (F_X12_draw σ 8) (σ 2 0)) (σ 2 0)) (σ 2 1)) 0 22 (w32 ((σ 0 22) + 1))) (5 * (σ 0 21)) 0 (w32 ((σ 0 22) + 1)) (-1) (-1) 0) 0 21 ((σ 0 21) + 1)) (by have e9 : (zu (F_X12_put (zu (F_X12_draw (F_X12_draw (F_X12_draw (F_X12_draw σ 8) (σ 2 0)) (σ 2 0)) (σ 2 1)) 0 22 (w32 ((σ 0 22) + 1))) (5 * (σ 0 21)) 0 (w32 ((σ 0 22) + 1)) (-1) (-1) 0) 0 21 ((σ 0 21) + 1)) 2 0 = σ 2 0 := ((zu_ne _ _ _ _ (by decide)).trans ((congrFun (fr_F_X12_put (zu (F_X12_draw (F_X12_draw (F_X12_draw (F_X12_draw σ 8) (σ 2 0)) (σ 2 0)) (σ 2 1)) 0 22 (w32 ((σ 0 22) + 1))) (5 * (σ 0 21)) 0 (w32 ((σ 0 22) + 1)) (-1) (-1) 0 (k := 2) (by decide)) _).trans ((zu_ne _ _ _ _ (by decide)).trans ((congrFun (fr_F_X12_draw (F_X12_draw (F_X12_draw (F_X12_draw σ 8) (σ 2 0)) (σ 2 0)) (σ 2 1) (k := 2) (by decide)) _).trans ((congrFun (fr_F_X12_draw (F_X12_draw (F_X12_draw σ 8) (σ 2 0)) (σ 2 0) (k := 2) (by decide)) _).trans ((congrFun (fr_F_X12_draw (F_X12_draw σ 8) (σ 2 0) (k := 2) (by decide)) _).trans (congrFun (fr_F_X12_draw σ 8 (k := 2) (by decide)) _))))))); omega) (by have e9 : (zu (F_X12_put (zu (F_X12_draw (F_X12_draw (F_X12_draw (F_X12_draw σ 8) (σ 2 0)) (σ 2 0)) (σ 2 1)) 0 22 (w32 ((σ 0 22) + 1))) (5 * (σ 0 21)) 0 (w32 ((σ 0 22) + 1)) (-1) (-1) 0) 0 21 ((σ 0 21) + 1)) 2 1 = σ 2 1 := ((zu_ne _ _ _ _ (by decide)).trans ((congrFun (fr_F_X12_put (zu (F_X12_draw (F_X12_draw (F_X12_draw (F_X12_draw σ 8) (σ 2 0)) (σ 2 0)) (σ 2 1)) 0 22 (w32 ((σ 0 22) + 1))) (5 * (σ 0 21)) 0 (w32 ((σ 0 22) + 1)) (-1) (-1) 0 (k := 2) (by decide)) _).trans ((zu_ne _ _ _ _ (by decide)).trans ((congrFun (fr_F_X12_draw (F_X12_draw (F_X12_draw (F_X12_draw σ 8) (σ 2 0)) (σ 2 0)) (σ 2 1) (k := 2) (by decide)) _).trans ((congrFun (fr_F_X12_draw (F_X12_draw (F_X12_draw σ 8) (σ 2 0)) (σ 2 0) (k := 2) (by decide)) _).trans ((congrFun (fr_F_X12_draw (F_X12_draw σ 8) (σ 2 0) (k := 2) (by decide)) _).trans (congrFun (fr_F_X12_draw σ 8 (k := 2) (by decide)) _))))))); omega) (by rw [zu_at]; omega) (by rw [zu_at]; omega)
      · refine zRx.iload 4 rfl dX12_drawn_109 ?_
        refine zRx.iconst ⟨by decide, by decide⟩ dX12_drawn_111 ?_
        refine zRx.iadd ⟨by omega, by omega⟩ dX12_drawn_112 ?_
        refine zRx.aload_n 0 rfl rfl dX12_drawn_113 ?_
        refine zRx.getR (a := 0) (b := 2) fl_12_33 rfl rfl dX12_drawn_114 ?_
        refine zRx.iconst ⟨by decide, by decide⟩ dX12_drawn_117 ?_
        refine zRx.ialdv (v := σ 2 0) ((congrFun (fr_F_X12_draw (F_X12_draw (F_X12_draw (F_X12_draw σ 8) (σ 2 0)) (σ 2 0)) (σ 2 1) (k := 2) (by decide)) _).trans ((congrFun (fr_F_X12_draw (F_X12_draw (F_X12_draw σ 8) (σ 2 0)) (σ 2 0) (k := 2) (by decide)) _).trans ((congrFun (fr_F_X12_draw (F_X12_draw σ 8) (σ 2 0) (k := 2) (by decide)) _).trans (congrFun (fr_F_X12_draw σ 8 (k := 2) (by decide)) _)))) rfl (by decide) (by decide) dX12_drawn_118 ?_
        refine zRx.irem (by omega) (by omega) dX12_drawn_119 ?_
        refine zRx.goto (tgt := 125) dX12_drawn_120 (by decide) ?_
        refine zRx.istore (ls' := [(0, zP 0), (1, .inl x), (2, .inl sd), (3, .inl (V_X12_draw σ 8)), (4, .inl (V_X12_draw (F_X12_draw σ 8) (σ 2 0))), (5, .inl (((V_X12_draw (F_X12_draw σ 8) (σ 2 0)) + 1) % (σ 2 0))), (6, .inl (V_X12_draw (F_X12_draw (F_X12_draw (F_X12_draw σ 8) (σ 2 0)) (σ 2 0)) (σ 2 1)))]) rfl (by decide) dX12_drawn_125 ?_
        refine zRx.iload_n 3 rfl rfl dX12_drawn_127 ?_
        refine zRx.if_ne (tgt := 162) dX12_drawn_128 (by decide) (fun c128 => ?_) (fun c128 => ?_)
        · refine zRx.iload_n 3 rfl rfl dX12_drawn_162 ?_
          refine zRx.iconst ⟨by decide, by decide⟩ dX12_drawn_163 ?_
          refine zRx.icmp_ge (tgt := 171) dX12_drawn_164 (by decide) (fun c164 => ?_) (fun c164 => ?_)
          · refine zRx.iload_n 3 rfl rfl dX12_drawn_171 ?_
            refine zRx.iconst ⟨by decide, by decide⟩ dX12_drawn_172 ?_
            refine zRx.icmp_ne (tgt := 180) dX12_drawn_173 (by decide) (fun c173 => ?_) (fun c173 => ?_)
            · refine zRx.iload_n 3 rfl rfl dX12_drawn_180 ?_
              refine zRx.iconst ⟨by decide, by decide⟩ dX12_drawn_181 ?_
              refine zRx.icmp_ne (tgt := 189) dX12_drawn_182 (by decide) (fun c182 => ?_) (fun c182 => ?_)
              · refine zRx.iconst ⟨by decide, by decide⟩ dX12_drawn_189 ?_
                refine zRx.istore (ls' := [(0, zP 0), (1, .inl x), (2, .inl sd), (3, .inl (V_X12_draw σ 8)), (4, .inl (V_X12_draw (F_X12_draw σ 8) (σ 2 0))), (5, .inl (((V_X12_draw (F_X12_draw σ 8) (σ 2 0)) + 1) % (σ 2 0))), (6, .inl (V_X12_draw (F_X12_draw (F_X12_draw (F_X12_draw σ 8) (σ 2 0)) (σ 2 0)) (σ 2 1))), (7, .inl 3)]) rfl (by decide) dX12_drawn_190 ?_
                refine zRx.aload_n 0 rfl rfl dX12_drawn_192 ?_
                refine zRx.iconst ⟨by decide, by decide⟩ dX12_drawn_193 ?_
                refine zRx.aload_n 0 rfl rfl dX12_drawn_194 ?_
                refine zRx.getIv (a := 0) (ji := 21) (v := σ 0 21) ((kp_draw _ _ 21 (by decide)).trans ((kp_draw _ _ 21 (by decide)).trans ((kp_draw _ _ 21 (by decide)).trans (kp_draw _ _ 21 (by decide))))) fl_12_323 rfl rfl rfl dX12_drawn_195 ?_
                refine zRx.imul ⟨by omega, by omega⟩ dX12_drawn_198 ?_
                refine zRx.iload 7 rfl dX12_drawn_199 ?_
                refine zRx.iload 4 rfl dX12_drawn_201 ?_
                refine zRx.iload 5 rfl dX12_drawn_203 ?_
                refine zRx.iload 6 rfl dX12_drawn_205 ?_
                refine zRx.iload 7 rfl dX12_drawn_207 ?_
                refine zRx.iconst ⟨by decide, by decide⟩ dX12_drawn_209 ?_
                refine zRx.icmp_ne (tgt := 222) dX12_drawn_210 (by decide) (fun _ => ?_) (fun c210 => absurd c210 (by decide))
                refine zRx.iconst ⟨by decide, by decide⟩ dX12_drawn_222 ?_
                refine zRx.cVv (M := m_X12_put) (av := [.inl (5 * (σ 0 21)), .inl 3, .inl (V_X12_draw (F_X12_draw σ 8) (σ 2 0)), .inl (((V_X12_draw (F_X12_draw σ 8) (σ 2 0)) + 1) % (σ 2 0)), .inl (V_X12_draw (F_X12_draw (F_X12_draw (F_X12_draw σ 8) (σ 2 0)) (σ 2 0)) (σ 2 1)), .inl 0]) cv_12_329 mk_X12_put (by decide) (b := 0) rfl rfl (Nat.le_of_ble_eq_true rfl) dX12_drawn_223 (does_X12_put (F_X12_draw (F_X12_draw (F_X12_draw (F_X12_draw σ 8) (σ 2 0)) (σ 2 0)) (σ 2 1)) (5 * (σ 0 21)) 3 (V_X12_draw (F_X12_draw σ 8) (σ 2 0)) (((V_X12_draw (F_X12_draw σ 8) (σ 2 0)) + 1) % (σ 2 0)) (V_X12_draw (F_X12_draw (F_X12_draw (F_X12_draw σ 8) (σ 2 0)) (σ 2 0)) (σ 2 1)) 0 (by omega)) ?_
                refine zRx.aload_n 0 rfl rfl dX12_drawn_226 ?_
                refine zRx.dup rfl dX12_drawn_227 ?_
                refine zRx.getIv (a := 0) (ji := 21) (v := σ 0 21) ((congrFun (fr_F_X12_put (F_X12_draw (F_X12_draw (F_X12_draw (F_X12_draw σ 8) (σ 2 0)) (σ 2 0)) (σ 2 1)) (5 * (σ 0 21)) 3 (V_X12_draw (F_X12_draw σ 8) (σ 2 0)) (((V_X12_draw (F_X12_draw σ 8) (σ 2 0)) + 1) % (σ 2 0)) (V_X12_draw (F_X12_draw (F_X12_draw (F_X12_draw σ 8) (σ 2 0)) (σ 2 0)) (σ 2 1)) 0 (k := 0) (by decide)) _).trans ((kp_draw _ _ 21 (by decide)).trans ((kp_draw _ _ 21 (by decide)).trans ((kp_draw _ _ 21 (by decide)).trans (kp_draw _ _ 21 (by decide)))))) fl_12_323 rfl rfl rfl dX12_drawn_228 ?_
                refine zRx.iconst ⟨by decide, by decide⟩ dX12_drawn_231 ?_
                refine zRx.iadd ⟨by omega, by omega⟩ dX12_drawn_232 ?_
                refine zRx.putI (a := 0) (ji := 21) pl_12_323 rfl rfl rfl dX12_drawn_233 ?_
                refine zRx.goto (tgt := 51) dX12_drawn_236 (by decide) ?_
                refine zRx.pick [0, 1, 2] (ls' := [(0, zP 0), (1, .inl x), (2, .inl sd)]) rfl ?_
                have he : L_X12_drawn_51 x sd (n + 1)  σ = L_X12_drawn_51 x sd n  (zu (F_X12_put (F_X12_draw (F_X12_draw (F_X12_draw (F_X12_draw σ 8) (σ 2 0)) (σ 2 0)) (σ 2 1)) (5 * (σ 0 21)) 3 (V_X12_draw (F_X12_draw σ 8) (σ 2 0)) (((V_X12_draw (F_X12_draw σ 8) (σ 2 0)) + 1) % (σ 2 0)) (V_X12_draw (F_X12_draw (F_X12_draw (F_X12_draw σ 8) (σ 2 0)) (σ 2 0)) (σ 2 1)) 0) 0 21 ((σ 0 21) + 1)) := by rw [L_X12_drawn_51, if_neg (Int.not_le.mpr c56), if_pos c106, if_neg c128, if_pos c164, if_neg c173, if_neg c182]
                rw [he]
                exact ih  (zu (F_X12_put (F_X12_draw (F_X12_draw (F_X12_draw (F_X12_draw σ 8) (σ 2 0)) (σ 2 0)) (σ 2 1)) (5 * (σ 0 21)) 3 (V_X12_draw (F_X12_draw σ 8) (σ 2 0)) (((V_X12_draw (F_X12_draw σ 8) (σ 2 0)) + 1) % (σ 2 0)) (V_X12_draw (F_X12_draw (F_X12_draw (F_X12_draw σ 8) (σ 2 0)) (σ 2 0)) (σ 2 1)) 0) 0 21 ((σ 0 21) + 1)) (by have e9 : (zu (F_X12_put (F_X12_draw (F_X12_draw (F_X12_draw (F_X12_draw σ 8) (σ 2 0)) (σ 2 0)) (σ 2 1)) (5 * (σ 0 21)) 3 (V_X12_draw (F_X12_draw σ 8) (σ 2 0)) (((V_X12_draw (F_X12_draw σ 8) (σ 2 0)) + 1) % (σ 2 0)) (V_X12_draw (F_X12_draw (F_X12_draw (F_X12_draw σ 8) (σ 2 0)) (σ 2 0)) (σ 2 1)) 0) 0 21 ((σ 0 21) + 1)) 2 0 = σ 2 0 := ((zu_ne _ _ _ _ (by decide)).trans ((congrFun (fr_F_X12_put (F_X12_draw (F_X12_draw (F_X12_draw (F_X12_draw σ 8) (σ 2 0)) (σ 2 0)) (σ 2 1)) (5 * (σ 0 21)) 3 (V_X12_draw (F_X12_draw σ 8) (σ 2 0)) (((V_X12_draw (F_X12_draw σ 8) (σ 2 0)) + 1) % (σ 2 0)) (V_X12_draw (F_X12_draw (F_X12_draw (F_X12_draw σ 8) (σ 2 0)) (σ 2 0)) (σ 2 1)) 0 (k := 2) (by decide)) _).trans ((congrFun (fr_F_X12_draw (F_X12_draw (F_X12_draw (F_X12_draw σ 8) (σ 2 0)) (σ 2 0)) (σ 2 1) (k := 2) (by decide)) _).trans ((congrFun (fr_F_X12_draw (F_X12_draw (F_X12_draw σ 8) (σ 2 0)) (σ 2 0) (k := 2) (by decide)) _).trans ((congrFun (fr_F_X12_draw (F_X12_draw σ 8) (σ 2 0) (k := 2) (by decide)) _).trans (congrFun (fr_F_X12_draw σ 8 (k := 2) (by decide)) _)))))); omega) (by have e9 : (zu (F_X12_put (F_X12_draw (F_X12_draw (F_X12_draw (F_X12_draw σ 8) (σ 2 0)) (σ 2 0)) (σ 2 1)) (5 * (σ 0 21)) 3 (V_X12_draw (F_X12_draw σ 8) (σ 2 0)) (((V_X12_draw (F_X12_draw σ 8) (σ 2 0)) + 1) % (σ 2 0)) (V_X12_draw (F_X12_draw (F_X12_draw (F_X12_draw σ 8) (σ 2 0)) (σ 2 0)) (σ 2 1)) 0) 0 21 ((σ 0 21) + 1)) 2 1 = σ 2 1 := ((zu_ne _ _ _ _ (by decide)).trans ((congrFun (fr_F_X12_put (F_X12_draw (F_X12_draw (F_X12_draw (F_X12_draw σ 8) (σ 2 0)) (σ 2 0)) (σ 2 1)) (5 * (σ 0 21)) 3 (V_X12_draw (F_X12_draw σ 8) (σ 2 0)) (((V_X12_draw (F_X12_draw σ 8) (σ 2 0)) + 1) % (σ 2 0)) (V_X12_draw (F_X12_draw (F_X12_draw (F_X12_draw σ 8) (σ 2 0)) (σ 2 0)) (σ 2 1)) 0 (k := 2) (by decide)) _).trans ((congrFun (fr_F_X12_draw (F_X12_draw (F_X12_draw (F_X12_draw σ 8) (σ 2 0)) (σ 2 0)) (σ 2 1) (k := 2) (by decide)) _).trans ((congrFun (fr_F_X12_draw (F_X12_draw (F_X12_draw σ 8) (σ 2 0)) (σ 2 0) (k := 2) (by decide)) _).trans ((congrFun (fr_F_X12_draw (F_X12_draw σ 8) (σ 2 0) (k := 2) (by decide)) _).trans (congrFun (fr_F_X12_draw σ 8 (k := 2) (by decide)) _)))))); omega) (by rw [zu_at]; omega) (by rw [zu_at]; omega)
              · refine zRx.iconst ⟨by decide, by decide⟩ dX12_drawn_185 ?_
                refine zRx.goto (tgt := 190) dX12_drawn_186 (by decide) ?_
                refine zRx.istore (ls' := [(0, zP 0), (1, .inl x), (2, .inl sd), (3, .inl (V_X12_draw σ 8)), (4, .inl (V_X12_draw (F_X12_draw σ 8) (σ 2 0))), (5, .inl (((V_X12_draw (F_X12_draw σ 8) (σ 2 0)) + 1) % (σ 2 0))), (6, .inl (V_X12_draw (F_X12_draw (F_X12_draw (F_X12_draw σ 8) (σ 2 0)) (σ 2 0)) (σ 2 1))), (7, .inl 4)]) rfl (by decide) dX12_drawn_190 ?_
                refine zRx.aload_n 0 rfl rfl dX12_drawn_192 ?_
                refine zRx.iconst ⟨by decide, by decide⟩ dX12_drawn_193 ?_
                refine zRx.aload_n 0 rfl rfl dX12_drawn_194 ?_
                refine zRx.getIv (a := 0) (ji := 21) (v := σ 0 21) ((kp_draw _ _ 21 (by decide)).trans ((kp_draw _ _ 21 (by decide)).trans ((kp_draw _ _ 21 (by decide)).trans (kp_draw _ _ 21 (by decide))))) fl_12_323 rfl rfl rfl dX12_drawn_195 ?_
                refine zRx.imul ⟨by omega, by omega⟩ dX12_drawn_198 ?_
                refine zRx.iload 7 rfl dX12_drawn_199 ?_
                refine zRx.iload 4 rfl dX12_drawn_201 ?_
                refine zRx.iload 5 rfl dX12_drawn_203 ?_
                refine zRx.iload 6 rfl dX12_drawn_205 ?_
                refine zRx.iload 7 rfl dX12_drawn_207 ?_
                refine zRx.iconst ⟨by decide, by decide⟩ dX12_drawn_209 ?_
                refine zRx.icmp_ne (tgt := 222) dX12_drawn_210 (by decide) (fun c210 => absurd c210 (by decide)) (fun _ => ?_)
                refine zRx.aload_n 0 rfl rfl dX12_drawn_213 ?_
                refine zRx.bipush ⟨by decide, by decide⟩ rfl dX12_drawn_214 ?_
                refine zRx.cVi (w := .inl (V_X12_draw (F_X12_draw (F_X12_draw (F_X12_draw (F_X12_draw σ 8) (σ 2 0)) (σ 2 0)) (σ 2 1)) 20)) (M := m_X12_draw) (av := [.inl 20]) cv_12_351 mk_X12_draw (by decide) (b := 0) rfl rfl (Nat.le_of_ble_eq_true rfl) dX12_drawn_216 (does_X12_draw (F_X12_draw (F_X12_draw (F_X12_draw (F_X12_draw σ 8) (σ 2 0)) (σ 2 0)) (σ 2 1)) 20 (by decide)) ?_
                refine zRx.goto (tgt := 223) dX12_drawn_219 (by decide) ?_
                refine zRx.cVv (M := m_X12_put) (av := [.inl (5 * (σ 0 21)), .inl 4, .inl (V_X12_draw (F_X12_draw σ 8) (σ 2 0)), .inl (((V_X12_draw (F_X12_draw σ 8) (σ 2 0)) + 1) % (σ 2 0)), .inl (V_X12_draw (F_X12_draw (F_X12_draw (F_X12_draw σ 8) (σ 2 0)) (σ 2 0)) (σ 2 1)), .inl (V_X12_draw (F_X12_draw (F_X12_draw (F_X12_draw (F_X12_draw σ 8) (σ 2 0)) (σ 2 0)) (σ 2 1)) 20)]) cv_12_329 mk_X12_put (by decide) (b := 0) rfl rfl (Nat.le_of_ble_eq_true rfl) dX12_drawn_223 (does_X12_put (F_X12_draw (F_X12_draw (F_X12_draw (F_X12_draw (F_X12_draw σ 8) (σ 2 0)) (σ 2 0)) (σ 2 1)) 20) (5 * (σ 0 21)) 4 (V_X12_draw (F_X12_draw σ 8) (σ 2 0)) (((V_X12_draw (F_X12_draw σ 8) (σ 2 0)) + 1) % (σ 2 0)) (V_X12_draw (F_X12_draw (F_X12_draw (F_X12_draw σ 8) (σ 2 0)) (σ 2 0)) (σ 2 1)) (V_X12_draw (F_X12_draw (F_X12_draw (F_X12_draw (F_X12_draw σ 8) (σ 2 0)) (σ 2 0)) (σ 2 1)) 20) (by omega)) ?_
                refine zRx.aload_n 0 rfl rfl dX12_drawn_226 ?_
                refine zRx.dup rfl dX12_drawn_227 ?_
                refine zRx.getIv (a := 0) (ji := 21) (v := σ 0 21) ((congrFun (fr_F_X12_put (F_X12_draw (F_X12_draw (F_X12_draw (F_X12_draw (F_X12_draw σ 8) (σ 2 0)) (σ 2 0)) (σ 2 1)) 20) (5 * (σ 0 21)) 4 (V_X12_draw (F_X12_draw σ 8) (σ 2 0)) (((V_X12_draw (F_X12_draw σ 8) (σ 2 0)) + 1) % (σ 2 0)) (V_X12_draw (F_X12_draw (F_X12_draw (F_X12_draw σ 8) (σ 2 0)) (σ 2 0)) (σ 2 1)) (V_X12_draw (F_X12_draw (F_X12_draw (F_X12_draw (F_X12_draw σ 8) (σ 2 0)) (σ 2 0)) (σ 2 1)) 20) (k := 0) (by decide)) _).trans ((kp_draw _ _ 21 (by decide)).trans ((kp_draw _ _ 21 (by decide)).trans ((kp_draw _ _ 21 (by decide)).trans ((kp_draw _ _ 21 (by decide)).trans (kp_draw _ _ 21 (by decide))))))) fl_12_323 rfl rfl rfl dX12_drawn_228 ?_
                refine zRx.iconst ⟨by decide, by decide⟩ dX12_drawn_231 ?_
                refine zRx.iadd ⟨by omega, by omega⟩ dX12_drawn_232 ?_
                refine zRx.putI (a := 0) (ji := 21) pl_12_323 rfl rfl rfl dX12_drawn_233 ?_
                refine zRx.goto (tgt := 51) dX12_drawn_236 (by decide) ?_
                refine zRx.pick [0, 1, 2] (ls' := [(0, zP 0), (1, .inl x), (2, .inl sd)]) rfl ?_
                have he : L_X12_drawn_51 x sd (n + 1)  σ = L_X12_drawn_51 x sd n  (zu (F_X12_put (F_X12_draw (F_X12_draw (F_X12_draw (F_X12_draw (F_X12_draw σ 8) (σ 2 0)) (σ 2 0)) (σ 2 1)) 20) (5 * (σ 0 21)) 4 (V_X12_draw (F_X12_draw σ 8) (σ 2 0)) (((V_X12_draw (F_X12_draw σ 8) (σ 2 0)) + 1) % (σ 2 0)) (V_X12_draw (F_X12_draw (F_X12_draw (F_X12_draw σ 8) (σ 2 0)) (σ 2 0)) (σ 2 1)) (V_X12_draw (F_X12_draw (F_X12_draw (F_X12_draw (F_X12_draw σ 8) (σ 2 0)) (σ 2 0)) (σ 2 1)) 20)) 0 21 ((σ 0 21) + 1)) := by rw [L_X12_drawn_51, if_neg (Int.not_le.mpr c56), if_pos c106, if_neg c128, if_pos c164, if_neg c173, if_pos c182]
                rw [he]
                exact ih  (zu (F_X12_put (F_X12_draw (F_X12_draw (F_X12_draw (F_X12_draw (F_X12_draw σ 8) (σ 2 0)) (σ 2 0)) (σ 2 1)) 20) (5 * (σ 0 21)) 4 (V_X12_draw (F_X12_draw σ 8) (σ 2 0)) (((V_X12_draw (F_X12_draw σ 8) (σ 2 0)) + 1) % (σ 2 0)) (V_X12_draw (F_X12_draw (F_X12_draw (F_X12_draw σ 8) (σ 2 0)) (σ 2 0)) (σ 2 1)) (V_X12_draw (F_X12_draw (F_X12_draw (F_X12_draw (F_X12_draw σ 8) (σ 2 0)) (σ 2 0)) (σ 2 1)) 20)) 0 21 ((σ 0 21) + 1)) (by have e9 : (zu (F_X12_put (F_X12_draw (F_X12_draw (F_X12_draw (F_X12_draw (F_X12_draw σ 8) (σ 2 0)) (σ 2 0)) (σ 2 1)) 20) (5 * (σ 0 21)) 4 (V_X12_draw (F_X12_draw σ 8) (σ 2 0)) (((V_X12_draw (F_X12_draw σ 8) (σ 2 0)) + 1) % (σ 2 0)) (V_X12_draw (F_X12_draw (F_X12_draw (F_X12_draw σ 8) (σ 2 0)) (σ 2 0)) (σ 2 1)) (V_X12_draw (F_X12_draw (F_X12_draw (F_X12_draw (F_X12_draw σ 8) (σ 2 0)) (σ 2 0)) (σ 2 1)) 20)) 0 21 ((σ 0 21) + 1)) 2 0 = σ 2 0 := ((zu_ne _ _ _ _ (by decide)).trans ((congrFun (fr_F_X12_put (F_X12_draw (F_X12_draw (F_X12_draw (F_X12_draw (F_X12_draw σ 8) (σ 2 0)) (σ 2 0)) (σ 2 1)) 20) (5 * (σ 0 21)) 4 (V_X12_draw (F_X12_draw σ 8) (σ 2 0)) (((V_X12_draw (F_X12_draw σ 8) (σ 2 0)) + 1) % (σ 2 0)) (V_X12_draw (F_X12_draw (F_X12_draw (F_X12_draw σ 8) (σ 2 0)) (σ 2 0)) (σ 2 1)) (V_X12_draw (F_X12_draw (F_X12_draw (F_X12_draw (F_X12_draw σ 8) (σ 2 0)) (σ 2 0)) (σ 2 1)) 20) (k := 2) (by decide)) _).trans ((congrFun (fr_F_X12_draw (F_X12_draw (F_X12_draw (F_X12_draw (F_X12_draw σ 8) (σ 2 0)) (σ 2 0)) (σ 2 1)) 20 (k := 2) (by decide)) _).trans ((congrFun (fr_F_X12_draw (F_X12_draw (F_X12_draw (F_X12_draw σ 8) (σ 2 0)) (σ 2 0)) (σ 2 1) (k := 2) (by decide)) _).trans ((congrFun (fr_F_X12_draw (F_X12_draw (F_X12_draw σ 8) (σ 2 0)) (σ 2 0) (k := 2) (by decide)) _).trans ((congrFun (fr_F_X12_draw (F_X12_draw σ 8) (σ 2 0) (k := 2) (by decide)) _).trans (congrFun (fr_F_X12_draw σ 8 (k := 2) (by decide)) _))))))); omega) (by have e9 : (zu (F_X12_put (F_X12_draw (F_X12_draw (F_X12_draw (F_X12_draw (F_X12_draw σ 8) (σ 2 0)) (σ 2 0)) (σ 2 1)) 20) (5 * (σ 0 21)) 4 (V_X12_draw (F_X12_draw σ 8) (σ 2 0)) (((V_X12_draw (F_X12_draw σ 8) (σ 2 0)) + 1) % (σ 2 0)) (V_X12_draw (F_X12_draw (F_X12_draw (F_X12_draw σ 8) (σ 2 0)) (σ 2 0)) (σ 2 1)) (V_X12_draw (F_X12_draw (F_X12_draw (F_X12_draw (F_X12_draw σ 8) (σ 2 0)) (σ 2 0)) (σ 2 1)) 20)) 0 21 ((σ 0 21) + 1)) 2 1 = σ 2 1 := ((zu_ne _ _ _ _ (by decide)).trans ((congrFun (fr_F_X12_put (F_X12_draw (F_X12_draw (F_X12_draw (F_X12_draw (F_X12_draw σ 8) (σ 2 0)) (σ 2 0)) (σ 2 1)) 20) (5 * (σ 0 21)) 4 (V_X12_draw (F_X12_draw σ 8) (σ 2 0)) (((V_X12_draw (F_X12_draw σ 8) (σ 2 0)) + 1) % (σ 2 0)) (V_X12_draw (F_X12_draw (F_X12_draw (F_X12_draw σ 8) (σ 2 0)) (σ 2 0)) (σ 2 1)) (V_X12_draw (F_X12_draw (F_X12_draw (F_X12_draw (F_X12_draw σ 8) (σ 2 0)) (σ 2 0)) (σ 2 1)) 20) (k := 2) (by decide)) _).trans ((congrFun (fr_F_X12_draw (F_X12_draw (F_X12_draw (F_X12_draw (F_X12_draw σ 8) (σ 2 0)) (σ 2 0)) (σ 2 1)) 20 (k := 2) (by decide)) _).trans ((congrFun (fr_F_X12_draw (F_X12_draw (F_X12_draw (F_X12_draw σ 8) (σ 2 0)) (σ 2 0)) (σ 2 1) (k := 2) (by decide)) _).trans ((congrFun (fr_F_X12_draw (F_X12_draw (F_X12_draw σ 8) (σ 2 0)) (σ 2 0) (k := 2) (by decide)) _).trans ((congrFun (fr_F_X12_draw (F_X12_draw σ 8) (σ 2 0) (k := 2) (by decide)) _).trans (congrFun (fr_F_X12_draw σ 8 (k := 2) (by decide)) _))))))); omega) (by rw [zu_at]; omega) (by rw [zu_at]; omega)
            · refine zRx.iconst ⟨by decide, by decide⟩ dX12_drawn_176 ?_
              refine zRx.goto (tgt := 190) dX12_drawn_177 (by decide) ?_
              refine zRx.istore (ls' := [(0, zP 0), (1, .inl x), (2, .inl sd), (3, .inl (V_X12_draw σ 8)), (4, .inl (V_X12_draw (F_X12_draw σ 8) (σ 2 0))), (5, .inl (((V_X12_draw (F_X12_draw σ 8) (σ 2 0)) + 1) % (σ 2 0))), (6, .inl (V_X12_draw (F_X12_draw (F_X12_draw (F_X12_draw σ 8) (σ 2 0)) (σ 2 0)) (σ 2 1))), (7, .inl 2)]) rfl (by decide) dX12_drawn_190 ?_
              refine zRx.aload_n 0 rfl rfl dX12_drawn_192 ?_
              refine zRx.iconst ⟨by decide, by decide⟩ dX12_drawn_193 ?_
              refine zRx.aload_n 0 rfl rfl dX12_drawn_194 ?_
              refine zRx.getIv (a := 0) (ji := 21) (v := σ 0 21) ((kp_draw _ _ 21 (by decide)).trans ((kp_draw _ _ 21 (by decide)).trans ((kp_draw _ _ 21 (by decide)).trans (kp_draw _ _ 21 (by decide))))) fl_12_323 rfl rfl rfl dX12_drawn_195 ?_
              refine zRx.imul ⟨by omega, by omega⟩ dX12_drawn_198 ?_
              refine zRx.iload 7 rfl dX12_drawn_199 ?_
              refine zRx.iload 4 rfl dX12_drawn_201 ?_
              refine zRx.iload 5 rfl dX12_drawn_203 ?_
              refine zRx.iload 6 rfl dX12_drawn_205 ?_
              refine zRx.iload 7 rfl dX12_drawn_207 ?_
              refine zRx.iconst ⟨by decide, by decide⟩ dX12_drawn_209 ?_
              refine zRx.icmp_ne (tgt := 222) dX12_drawn_210 (by decide) (fun _ => ?_) (fun c210 => absurd c210 (by decide))
              refine zRx.iconst ⟨by decide, by decide⟩ dX12_drawn_222 ?_
              refine zRx.cVv (M := m_X12_put) (av := [.inl (5 * (σ 0 21)), .inl 2, .inl (V_X12_draw (F_X12_draw σ 8) (σ 2 0)), .inl (((V_X12_draw (F_X12_draw σ 8) (σ 2 0)) + 1) % (σ 2 0)), .inl (V_X12_draw (F_X12_draw (F_X12_draw (F_X12_draw σ 8) (σ 2 0)) (σ 2 0)) (σ 2 1)), .inl 0]) cv_12_329 mk_X12_put (by decide) (b := 0) rfl rfl (Nat.le_of_ble_eq_true rfl) dX12_drawn_223 (does_X12_put (F_X12_draw (F_X12_draw (F_X12_draw (F_X12_draw σ 8) (σ 2 0)) (σ 2 0)) (σ 2 1)) (5 * (σ 0 21)) 2 (V_X12_draw (F_X12_draw σ 8) (σ 2 0)) (((V_X12_draw (F_X12_draw σ 8) (σ 2 0)) + 1) % (σ 2 0)) (V_X12_draw (F_X12_draw (F_X12_draw (F_X12_draw σ 8) (σ 2 0)) (σ 2 0)) (σ 2 1)) 0 (by omega)) ?_
              refine zRx.aload_n 0 rfl rfl dX12_drawn_226 ?_
              refine zRx.dup rfl dX12_drawn_227 ?_
              refine zRx.getIv (a := 0) (ji := 21) (v := σ 0 21) ((congrFun (fr_F_X12_put (F_X12_draw (F_X12_draw (F_X12_draw (F_X12_draw σ 8) (σ 2 0)) (σ 2 0)) (σ 2 1)) (5 * (σ 0 21)) 2 (V_X12_draw (F_X12_draw σ 8) (σ 2 0)) (((V_X12_draw (F_X12_draw σ 8) (σ 2 0)) + 1) % (σ 2 0)) (V_X12_draw (F_X12_draw (F_X12_draw (F_X12_draw σ 8) (σ 2 0)) (σ 2 0)) (σ 2 1)) 0 (k := 0) (by decide)) _).trans ((kp_draw _ _ 21 (by decide)).trans ((kp_draw _ _ 21 (by decide)).trans ((kp_draw _ _ 21 (by decide)).trans (kp_draw _ _ 21 (by decide)))))) fl_12_323 rfl rfl rfl dX12_drawn_228 ?_
              refine zRx.iconst ⟨by decide, by decide⟩ dX12_drawn_231 ?_
              refine zRx.iadd ⟨by omega, by omega⟩ dX12_drawn_232 ?_
              refine zRx.putI (a := 0) (ji := 21) pl_12_323 rfl rfl rfl dX12_drawn_233 ?_
              refine zRx.goto (tgt := 51) dX12_drawn_236 (by decide) ?_
              refine zRx.pick [0, 1, 2] (ls' := [(0, zP 0), (1, .inl x), (2, .inl sd)]) rfl ?_
              have he : L_X12_drawn_51 x sd (n + 1)  σ = L_X12_drawn_51 x sd n  (zu (F_X12_put (F_X12_draw (F_X12_draw (F_X12_draw (F_X12_draw σ 8) (σ 2 0)) (σ 2 0)) (σ 2 1)) (5 * (σ 0 21)) 2 (V_X12_draw (F_X12_draw σ 8) (σ 2 0)) (((V_X12_draw (F_X12_draw σ 8) (σ 2 0)) + 1) % (σ 2 0)) (V_X12_draw (F_X12_draw (F_X12_draw (F_X12_draw σ 8) (σ 2 0)) (σ 2 0)) (σ 2 1)) 0) 0 21 ((σ 0 21) + 1)) := by rw [L_X12_drawn_51, if_neg (Int.not_le.mpr c56), if_pos c106, if_neg c128, if_pos c164, if_pos c173]
              rw [he]
              exact ih  (zu (F_X12_put (F_X12_draw (F_X12_draw (F_X12_draw (F_X12_draw σ 8) (σ 2 0)) (σ 2 0)) (σ 2 1)) (5 * (σ 0 21)) 2 (V_X12_draw (F_X12_draw σ 8) (σ 2 0)) (((V_X12_draw (F_X12_draw σ 8) (σ 2 0)) + 1) % (σ 2 0)) (V_X12_draw (F_X12_draw (F_X12_draw (F_X12_draw σ 8) (σ 2 0)) (σ 2 0)) (σ 2 1)) 0) 0 21 ((σ 0 21) + 1)) (by have e9 : (zu (F_X12_put (F_X12_draw (F_X12_draw (F_X12_draw (F_X12_draw σ 8) (σ 2 0)) (σ 2 0)) (σ 2 1)) (5 * (σ 0 21)) 2 (V_X12_draw (F_X12_draw σ 8) (σ 2 0)) (((V_X12_draw (F_X12_draw σ 8) (σ 2 0)) + 1) % (σ 2 0)) (V_X12_draw (F_X12_draw (F_X12_draw (F_X12_draw σ 8) (σ 2 0)) (σ 2 0)) (σ 2 1)) 0) 0 21 ((σ 0 21) + 1)) 2 0 = σ 2 0 := ((zu_ne _ _ _ _ (by decide)).trans ((congrFun (fr_F_X12_put (F_X12_draw (F_X12_draw (F_X12_draw (F_X12_draw σ 8) (σ 2 0)) (σ 2 0)) (σ 2 1)) (5 * (σ 0 21)) 2 (V_X12_draw (F_X12_draw σ 8) (σ 2 0)) (((V_X12_draw (F_X12_draw σ 8) (σ 2 0)) + 1) % (σ 2 0)) (V_X12_draw (F_X12_draw (F_X12_draw (F_X12_draw σ 8) (σ 2 0)) (σ 2 0)) (σ 2 1)) 0 (k := 2) (by decide)) _).trans ((congrFun (fr_F_X12_draw (F_X12_draw (F_X12_draw (F_X12_draw σ 8) (σ 2 0)) (σ 2 0)) (σ 2 1) (k := 2) (by decide)) _).trans ((congrFun (fr_F_X12_draw (F_X12_draw (F_X12_draw σ 8) (σ 2 0)) (σ 2 0) (k := 2) (by decide)) _).trans ((congrFun (fr_F_X12_draw (F_X12_draw σ 8) (σ 2 0) (k := 2) (by decide)) _).trans (congrFun (fr_F_X12_draw σ 8 (k := 2) (by decide)) _)))))); omega) (by have e9 : (zu (F_X12_put (F_X12_draw (F_X12_draw (F_X12_draw (F_X12_draw σ 8) (σ 2 0)) (σ 2 0)) (σ 2 1)) (5 * (σ 0 21)) 2 (V_X12_draw (F_X12_draw σ 8) (σ 2 0)) (((V_X12_draw (F_X12_draw σ 8) (σ 2 0)) + 1) % (σ 2 0)) (V_X12_draw (F_X12_draw (F_X12_draw (F_X12_draw σ 8) (σ 2 0)) (σ 2 0)) (σ 2 1)) 0) 0 21 ((σ 0 21) + 1)) 2 1 = σ 2 1 := ((zu_ne _ _ _ _ (by decide)).trans ((congrFun (fr_F_X12_put (F_X12_draw (F_X12_draw (F_X12_draw (F_X12_draw σ 8) (σ 2 0)) (σ 2 0)) (σ 2 1)) (5 * (σ 0 21)) 2 (V_X12_draw (F_X12_draw σ 8) (σ 2 0)) (((V_X12_draw (F_X12_draw σ 8) (σ 2 0)) + 1) % (σ 2 0)) (V_X12_draw (F_X12_draw (F_X12_draw (F_X12_draw σ 8) (σ 2 0)) (σ 2 0)) (σ 2 1)) 0 (k := 2) (by decide)) _).trans ((congrFun (fr_F_X12_draw (F_X12_draw (F_X12_draw (F_X12_draw σ 8) (σ 2 0)) (σ 2 0)) (σ 2 1) (k := 2) (by decide)) _).trans ((congrFun (fr_F_X12_draw (F_X12_draw (F_X12_draw σ 8) (σ 2 0)) (σ 2 0) (k := 2) (by decide)) _).trans ((congrFun (fr_F_X12_draw (F_X12_draw σ 8) (σ 2 0) (k := 2) (by decide)) _).trans (congrFun (fr_F_X12_draw σ 8 (k := 2) (by decide)) _)))))); omega) (by rw [zu_at]; omega) (by rw [zu_at]; omega)
          · refine zRx.iconst ⟨by decide, by decide⟩ dX12_drawn_167 ?_
            refine zRx.goto (tgt := 190) dX12_drawn_168 (by decide) ?_
            refine zRx.istore (ls' := [(0, zP 0), (1, .inl x), (2, .inl sd), (3, .inl (V_X12_draw σ 8)), (4, .inl (V_X12_draw (F_X12_draw σ 8) (σ 2 0))), (5, .inl (((V_X12_draw (F_X12_draw σ 8) (σ 2 0)) + 1) % (σ 2 0))), (6, .inl (V_X12_draw (F_X12_draw (F_X12_draw (F_X12_draw σ 8) (σ 2 0)) (σ 2 0)) (σ 2 1))), (7, .inl 1)]) rfl (by decide) dX12_drawn_190 ?_
            refine zRx.aload_n 0 rfl rfl dX12_drawn_192 ?_
            refine zRx.iconst ⟨by decide, by decide⟩ dX12_drawn_193 ?_
            refine zRx.aload_n 0 rfl rfl dX12_drawn_194 ?_
            refine zRx.getIv (a := 0) (ji := 21) (v := σ 0 21) ((kp_draw _ _ 21 (by decide)).trans ((kp_draw _ _ 21 (by decide)).trans ((kp_draw _ _ 21 (by decide)).trans (kp_draw _ _ 21 (by decide))))) fl_12_323 rfl rfl rfl dX12_drawn_195 ?_
            refine zRx.imul ⟨by omega, by omega⟩ dX12_drawn_198 ?_
            refine zRx.iload 7 rfl dX12_drawn_199 ?_
            refine zRx.iload 4 rfl dX12_drawn_201 ?_
            refine zRx.iload 5 rfl dX12_drawn_203 ?_
            refine zRx.iload 6 rfl dX12_drawn_205 ?_
            refine zRx.iload 7 rfl dX12_drawn_207 ?_
            refine zRx.iconst ⟨by decide, by decide⟩ dX12_drawn_209 ?_
            refine zRx.icmp_ne (tgt := 222) dX12_drawn_210 (by decide) (fun _ => ?_) (fun c210 => absurd c210 (by decide))
            refine zRx.iconst ⟨by decide, by decide⟩ dX12_drawn_222 ?_
            refine zRx.cVv (M := m_X12_put) (av := [.inl (5 * (σ 0 21)), .inl 1, .inl (V_X12_draw (F_X12_draw σ 8) (σ 2 0)), .inl (((V_X12_draw (F_X12_draw σ 8) (σ 2 0)) + 1) % (σ 2 0)), .inl (V_X12_draw (F_X12_draw (F_X12_draw (F_X12_draw σ 8) (σ 2 0)) (σ 2 0)) (σ 2 1)), .inl 0]) cv_12_329 mk_X12_put (by decide) (b := 0) rfl rfl (Nat.le_of_ble_eq_true rfl) dX12_drawn_223 (does_X12_put (F_X12_draw (F_X12_draw (F_X12_draw (F_X12_draw σ 8) (σ 2 0)) (σ 2 0)) (σ 2 1)) (5 * (σ 0 21)) 1 (V_X12_draw (F_X12_draw σ 8) (σ 2 0)) (((V_X12_draw (F_X12_draw σ 8) (σ 2 0)) + 1) % (σ 2 0)) (V_X12_draw (F_X12_draw (F_X12_draw (F_X12_draw σ 8) (σ 2 0)) (σ 2 0)) (σ 2 1)) 0 (by omega)) ?_
            refine zRx.aload_n 0 rfl rfl dX12_drawn_226 ?_
            refine zRx.dup rfl dX12_drawn_227 ?_
            refine zRx.getIv (a := 0) (ji := 21) (v := σ 0 21) ((congrFun (fr_F_X12_put (F_X12_draw (F_X12_draw (F_X12_draw (F_X12_draw σ 8) (σ 2 0)) (σ 2 0)) (σ 2 1)) (5 * (σ 0 21)) 1 (V_X12_draw (F_X12_draw σ 8) (σ 2 0)) (((V_X12_draw (F_X12_draw σ 8) (σ 2 0)) + 1) % (σ 2 0)) (V_X12_draw (F_X12_draw (F_X12_draw (F_X12_draw σ 8) (σ 2 0)) (σ 2 0)) (σ 2 1)) 0 (k := 0) (by decide)) _).trans ((kp_draw _ _ 21 (by decide)).trans ((kp_draw _ _ 21 (by decide)).trans ((kp_draw _ _ 21 (by decide)).trans (kp_draw _ _ 21 (by decide)))))) fl_12_323 rfl rfl rfl dX12_drawn_228 ?_
            refine zRx.iconst ⟨by decide, by decide⟩ dX12_drawn_231 ?_
            refine zRx.iadd ⟨by omega, by omega⟩ dX12_drawn_232 ?_
            refine zRx.putI (a := 0) (ji := 21) pl_12_323 rfl rfl rfl dX12_drawn_233 ?_
            refine zRx.goto (tgt := 51) dX12_drawn_236 (by decide) ?_
            refine zRx.pick [0, 1, 2] (ls' := [(0, zP 0), (1, .inl x), (2, .inl sd)]) rfl ?_
            have he : L_X12_drawn_51 x sd (n + 1)  σ = L_X12_drawn_51 x sd n  (zu (F_X12_put (F_X12_draw (F_X12_draw (F_X12_draw (F_X12_draw σ 8) (σ 2 0)) (σ 2 0)) (σ 2 1)) (5 * (σ 0 21)) 1 (V_X12_draw (F_X12_draw σ 8) (σ 2 0)) (((V_X12_draw (F_X12_draw σ 8) (σ 2 0)) + 1) % (σ 2 0)) (V_X12_draw (F_X12_draw (F_X12_draw (F_X12_draw σ 8) (σ 2 0)) (σ 2 0)) (σ 2 1)) 0) 0 21 ((σ 0 21) + 1)) := by rw [L_X12_drawn_51, if_neg (Int.not_le.mpr c56), if_pos c106, if_neg c128, if_neg (Int.not_le.mpr c164)]
            rw [he]
            exact ih  (zu (F_X12_put (F_X12_draw (F_X12_draw (F_X12_draw (F_X12_draw σ 8) (σ 2 0)) (σ 2 0)) (σ 2 1)) (5 * (σ 0 21)) 1 (V_X12_draw (F_X12_draw σ 8) (σ 2 0)) (((V_X12_draw (F_X12_draw σ 8) (σ 2 0)) + 1) % (σ 2 0)) (V_X12_draw (F_X12_draw (F_X12_draw (F_X12_draw σ 8) (σ 2 0)) (σ 2 0)) (σ 2 1)) 0) 0 21 ((σ 0 21) + 1)) (by have e9 : (zu (F_X12_put (F_X12_draw (F_X12_draw (F_X12_draw (F_X12_draw σ 8) (σ 2 0)) (σ 2 0)) (σ 2 1)) (5 * (σ 0 21)) 1 (V_X12_draw (F_X12_draw σ 8) (σ 2 0)) (((V_X12_draw (F_X12_draw σ 8) (σ 2 0)) + 1) % (σ 2 0)) (V_X12_draw (F_X12_draw (F_X12_draw (F_X12_draw σ 8) (σ 2 0)) (σ 2 0)) (σ 2 1)) 0) 0 21 ((σ 0 21) + 1)) 2 0 = σ 2 0 := ((zu_ne _ _ _ _ (by decide)).trans ((congrFun (fr_F_X12_put (F_X12_draw (F_X12_draw (F_X12_draw (F_X12_draw σ 8) (σ 2 0)) (σ 2 0)) (σ 2 1)) (5 * (σ 0 21)) 1 (V_X12_draw (F_X12_draw σ 8) (σ 2 0)) (((V_X12_draw (F_X12_draw σ 8) (σ 2 0)) + 1) % (σ 2 0)) (V_X12_draw (F_X12_draw (F_X12_draw (F_X12_draw σ 8) (σ 2 0)) (σ 2 0)) (σ 2 1)) 0 (k := 2) (by decide)) _).trans ((congrFun (fr_F_X12_draw (F_X12_draw (F_X12_draw (F_X12_draw σ 8) (σ 2 0)) (σ 2 0)) (σ 2 1) (k := 2) (by decide)) _).trans ((congrFun (fr_F_X12_draw (F_X12_draw (F_X12_draw σ 8) (σ 2 0)) (σ 2 0) (k := 2) (by decide)) _).trans ((congrFun (fr_F_X12_draw (F_X12_draw σ 8) (σ 2 0) (k := 2) (by decide)) _).trans (congrFun (fr_F_X12_draw σ 8 (k := 2) (by decide)) _)))))); omega) (by have e9 : (zu (F_X12_put (F_X12_draw (F_X12_draw (F_X12_draw (F_X12_draw σ 8) (σ 2 0)) (σ 2 0)) (σ 2 1)) (5 * (σ 0 21)) 1 (V_X12_draw (F_X12_draw σ 8) (σ 2 0)) (((V_X12_draw (F_X12_draw σ 8) (σ 2 0)) + 1) % (σ 2 0)) (V_X12_draw (F_X12_draw (F_X12_draw (F_X12_draw σ 8) (σ 2 0)) (σ 2 0)) (σ 2 1)) 0) 0 21 ((σ 0 21) + 1)) 2 1 = σ 2 1 := ((zu_ne _ _ _ _ (by decide)).trans ((congrFun (fr_F_X12_put (F_X12_draw (F_X12_draw (F_X12_draw (F_X12_draw σ 8) (σ 2 0)) (σ 2 0)) (σ 2 1)) (5 * (σ 0 21)) 1 (V_X12_draw (F_X12_draw σ 8) (σ 2 0)) (((V_X12_draw (F_X12_draw σ 8) (σ 2 0)) + 1) % (σ 2 0)) (V_X12_draw (F_X12_draw (F_X12_draw (F_X12_draw σ 8) (σ 2 0)) (σ 2 0)) (σ 2 1)) 0 (k := 2) (by decide)) _).trans ((congrFun (fr_F_X12_draw (F_X12_draw (F_X12_draw (F_X12_draw σ 8) (σ 2 0)) (σ 2 0)) (σ 2 1) (k := 2) (by decide)) _).trans ((congrFun (fr_F_X12_draw (F_X12_draw (F_X12_draw σ 8) (σ 2 0)) (σ 2 0) (k := 2) (by decide)) _).trans ((congrFun (fr_F_X12_draw (F_X12_draw σ 8) (σ 2 0) (k := 2) (by decide)) _).trans (congrFun (fr_F_X12_draw σ 8 (k := 2) (by decide)) _)))))); omega) (by rw [zu_at]; omega) (by rw [zu_at]; omega)
        · refine zRx.aload_n 0 rfl rfl dX12_drawn_131 ?_
          refine zRx.dup rfl dX12_drawn_132 ?_
          refine zRx.getIv (a := 0) (ji := 22) (v := σ 0 22) ((kp_draw _ _ 22 (by decide)).trans ((kp_draw _ _ 22 (by decide)).trans ((kp_draw _ _ 22 (by decide)).trans (kp_draw _ _ 22 (by decide))))) fl_12_326 rfl rfl rfl dX12_drawn_133 ?_
          refine zRx.iconst ⟨by decide, by decide⟩ dX12_drawn_136 ?_
          refine zRx.iaddW dX12_drawn_137 ?_
          refine zRx.putI (a := 0) (ji := 22) pl_12_326 rfl rfl rfl dX12_drawn_138 ?_
          refine zRx.aload_n 0 rfl rfl dX12_drawn_141 ?_
          refine zRx.iconst ⟨by decide, by decide⟩ dX12_drawn_142 ?_
          refine zRx.aload_n 0 rfl rfl dX12_drawn_143 ?_
          refine zRx.getIv (a := 0) (ji := 21) (v := σ 0 21) ((zu_off _ _ _ (by decide)).trans ((kp_draw _ _ 21 (by decide)).trans ((kp_draw _ _ 21 (by decide)).trans ((kp_draw _ _ 21 (by decide)).trans (kp_draw _ _ 21 (by decide)))))) fl_12_323 rfl rfl rfl dX12_drawn_144 ?_
          refine zRx.imul ⟨by omega, by omega⟩ dX12_drawn_147 ?_
          refine zRx.iconst ⟨by decide, by decide⟩ dX12_drawn_148 ?_
          refine zRx.aload_n 0 rfl rfl dX12_drawn_149 ?_
          refine zRx.getIv (a := 0) (ji := 22) (v := w32 ((σ 0 22) + 1)) (zu_at _ _ _ _) fl_12_326 rfl rfl rfl dX12_drawn_150 ?_
          refine zRx.iconst ⟨by decide, by decide⟩ dX12_drawn_153 ?_
          refine zRx.iconst ⟨by decide, by decide⟩ dX12_drawn_154 ?_
          refine zRx.iconst ⟨by decide, by decide⟩ dX12_drawn_155 ?_
          refine zRx.cVv (M := m_X12_put) (av := [.inl (5 * (σ 0 21)), .inl 0, .inl (w32 ((σ 0 22) + 1)), .inl (-1), .inl (-1), .inl 0]) cv_12_329 mk_X12_put (by decide) (b := 0) rfl rfl (Nat.le_of_ble_eq_true rfl) dX12_drawn_156 (does_X12_put (zu (F_X12_draw (F_X12_draw (F_X12_draw (F_X12_draw σ 8) (σ 2 0)) (σ 2 0)) (σ 2 1)) 0 22 (w32 ((σ 0 22) + 1))) (5 * (σ 0 21)) 0 (w32 ((σ 0 22) + 1)) (-1) (-1) 0 (by omega)) ?_
          refine zRx.goto (tgt := 226) dX12_drawn_159 (by decide) ?_
          refine zRx.aload_n 0 rfl rfl dX12_drawn_226 ?_
          refine zRx.dup rfl dX12_drawn_227 ?_
          refine zRx.getIv (a := 0) (ji := 21) (v := σ 0 21) ((congrFun (fr_F_X12_put (zu (F_X12_draw (F_X12_draw (F_X12_draw (F_X12_draw σ 8) (σ 2 0)) (σ 2 0)) (σ 2 1)) 0 22 (w32 ((σ 0 22) + 1))) (5 * (σ 0 21)) 0 (w32 ((σ 0 22) + 1)) (-1) (-1) 0 (k := 0) (by decide)) _).trans ((zu_off _ _ _ (by decide)).trans ((kp_draw _ _ 21 (by decide)).trans ((kp_draw _ _ 21 (by decide)).trans ((kp_draw _ _ 21 (by decide)).trans (kp_draw _ _ 21 (by decide))))))) fl_12_323 rfl rfl rfl dX12_drawn_228 ?_
          refine zRx.iconst ⟨by decide, by decide⟩ dX12_drawn_231 ?_
          refine zRx.iadd ⟨by omega, by omega⟩ dX12_drawn_232 ?_
          refine zRx.putI (a := 0) (ji := 21) pl_12_323 rfl rfl rfl dX12_drawn_233 ?_
          refine zRx.goto (tgt := 51) dX12_drawn_236 (by decide) ?_
          refine zRx.pick [0, 1, 2] (ls' := [(0, zP 0), (1, .inl x), (2, .inl sd)]) rfl ?_
          have he : L_X12_drawn_51 x sd (n + 1)  σ = L_X12_drawn_51 x sd n  (zu (F_X12_put (zu (F_X12_draw (F_X12_draw (F_X12_draw (F_X12_draw σ 8) (σ 2 0)) (σ 2 0)) (σ 2 1)) 0 22 (w32 ((σ 0 22) + 1))) (5 * (σ 0 21)) 0 (w32 ((σ 0 22) + 1)) (-1) (-1) 0) 0 21 ((σ 0 21) + 1)) := by rw [L_X12_drawn_51, if_neg (Int.not_le.mpr c56), if_pos c106, if_pos c128]
          rw [he]
          exact ih  (zu (F_X12_put (zu (F_X12_draw (F_X12_draw (F_X12_draw (F_X12_draw σ 8) (σ 2 0)) (σ 2 0)) (σ 2 1)) 0 22 (w32 ((σ 0 22) + 1))) (5 * (σ 0 21)) 0 (w32 ((σ 0 22) + 1)) (-1) (-1) 0) 0 21 ((σ 0 21) + 1)) (by have e9 : (zu (F_X12_put (zu (F_X12_draw (F_X12_draw (F_X12_draw (F_X12_draw σ 8) (σ 2 0)) (σ 2 0)) (σ 2 1)) 0 22 (w32 ((σ 0 22) + 1))) (5 * (σ 0 21)) 0 (w32 ((σ 0 22) + 1)) (-1) (-1) 0) 0 21 ((σ 0 21) + 1)) 2 0 = σ 2 0 := ((zu_ne _ _ _ _ (by decide)).trans ((congrFun (fr_F_X12_put (zu (F_X12_draw (F_X12_draw (F_X12_draw (F_X12_draw σ 8) (σ 2 0)) (σ 2 0)) (σ 2 1)) 0 22 (w32 ((σ 0 22) + 1))) (5 * (σ 0 21)) 0 (w32 ((σ 0 22) + 1)) (-1) (-1) 0 (k := 2) (by decide)) _).trans ((zu_ne _ _ _ _ (by decide)).trans ((congrFun (fr_F_X12_draw (F_X12_draw (F_X12_draw (F_X12_draw σ 8) (σ 2 0)) (σ 2 0)) (σ 2 1) (k := 2) (by decide)) _).trans ((congrFun (fr_F_X12_draw (F_X12_draw (F_X12_draw σ 8) (σ 2 0)) (σ 2 0) (k := 2) (by decide)) _).trans ((congrFun (fr_F_X12_draw (F_X12_draw σ 8) (σ 2 0) (k := 2) (by decide)) _).trans (congrFun (fr_F_X12_draw σ 8 (k := 2) (by decide)) _))))))); omega) (by have e9 : (zu (F_X12_put (zu (F_X12_draw (F_X12_draw (F_X12_draw (F_X12_draw σ 8) (σ 2 0)) (σ 2 0)) (σ 2 1)) 0 22 (w32 ((σ 0 22) + 1))) (5 * (σ 0 21)) 0 (w32 ((σ 0 22) + 1)) (-1) (-1) 0) 0 21 ((σ 0 21) + 1)) 2 1 = σ 2 1 := ((zu_ne _ _ _ _ (by decide)).trans ((congrFun (fr_F_X12_put (zu (F_X12_draw (F_X12_draw (F_X12_draw (F_X12_draw σ 8) (σ 2 0)) (σ 2 0)) (σ 2 1)) 0 22 (w32 ((σ 0 22) + 1))) (5 * (σ 0 21)) 0 (w32 ((σ 0 22) + 1)) (-1) (-1) 0 (k := 2) (by decide)) _).trans ((zu_ne _ _ _ _ (by decide)).trans ((congrFun (fr_F_X12_draw (F_X12_draw (F_X12_draw (F_X12_draw σ 8) (σ 2 0)) (σ 2 0)) (σ 2 1) (k := 2) (by decide)) _).trans ((congrFun (fr_F_X12_draw (F_X12_draw (F_X12_draw σ 8) (σ 2 0)) (σ 2 0) (k := 2) (by decide)) _).trans ((congrFun (fr_F_X12_draw (F_X12_draw σ 8) (σ 2 0) (k := 2) (by decide)) _).trans (congrFun (fr_F_X12_draw σ 8 (k := 2) (by decide)) _))))))); omega) (by rw [zu_at]; omega) (by rw [zu_at]; omega)
def R_X12_drawn (σ : zG) (x sd : Int) : Int × zG := if 1 ≤ x ∧ x ≤ 60 then (if (σ 2 0) < 2 then ((-1), zu σ 0 0 0) else (if (σ 2 1) = 0 then ((-1), zu σ 0 0 0) else (L_X12_drawn_51 x sd 70  (zu (zu (zu (zu σ 0 0 0) 0 27 sd) 0 22 0) 0 21 0)))) else ((-1), zu σ 0 0 0)
theorem fr_R_X12_drawn (σ : zG) (x sd : Int) {k : Nat} (h : k ∉ [0, 2, 4, 8, 9]) : (R_X12_drawn σ x sd).2 k = σ k := by
  have ne : ∀ c ∈ [0, 2, 4, 8, 9], k ≠ c := fun c hc e => h (e ▸ hc)
  have nl_L_X12_drawn_51 : k ∉ [0, 2, 4, 8, 9] := fun hm => h (by first | (revert hm; simp only [List.mem_cons, List.not_mem_nil, or_false]; omega) | (simp at hm))
  unfold R_X12_drawn
  repeat' split
  all_goals first | rfl | simp only [zu_row _ _ _ (ne 0 (by decide)), zu_row _ _ _ (ne 2 (by decide)), zu_row _ _ _ (ne 4 (by decide)), zu_row _ _ _ (ne 8 (by decide)), zu_row _ _ _ (ne 9 (by decide)), fr_L_X12_drawn_51 (h := nl_L_X12_drawn_51)]

set_option maxRecDepth 20000 in
theorem does_X12_drawn (σ : zG) (x sd : Int) (hp : 0 ≤ σ 2 0 ∧ σ 2 0 ≤ 8) (hF : 0 ≤ σ 2 1 ∧ σ 2 1 ≤ 12)  : zDo SM 1 m_X12_drawn [zP 0, .inl x, .inl sd] σ (zEq (some (.inl (R_X12_drawn σ x sd).1)) (R_X12_drawn σ x sd).2) := by
  refine zDo.intro mk_X12_drawn (Nat.le_of_ble_eq_true rfl) ?_
  refine zRx.aload_n 0 rfl rfl dX12_drawn_0 ?_
  refine zRx.iconst ⟨by decide, by decide⟩ dX12_drawn_1 ?_
  refine zRx.putI (a := 0) (ji := 0) pl_12_1 rfl rfl rfl dX12_drawn_2 ?_
  refine zRx.iload_n 1 rfl rfl dX12_drawn_5 ?_
  refine zRx.iconst ⟨by decide, by decide⟩ dX12_drawn_6 ?_
  refine zRx.bipush ⟨by decide, by decide⟩ rfl dX12_drawn_7 ?_
  refine zRx.cSi (w := .inl (b2 (1 ≤ x ∧ x ≤ 60))) (M := m_X12_isIn) (av := [.inl x, .inl 1, .inl 60]) cs_12_254 mk_X12_isIn (by decide) rfl (Nat.le_of_ble_eq_true rfl) dX12_drawn_9 (does_X12_isIn x 1 60 SM (zu σ 0 0 0)) ?_
  refine zRx.if_eqB (tgt := 34) dX12_drawn_12 (by decide) (fun c12 => ?_) (fun c12 => ?_)
  · refine zRx.iconst ⟨by decide, by decide⟩ dX12_drawn_34 ?_
    exact zR.iret rfl dX12_drawn_35 (by have he : R_X12_drawn σ x sd = ((-1), zu σ 0 0 0) := (by rw [R_X12_drawn, if_neg c12]); rw [he]; exact ⟨rfl, rfl⟩)
  · refine zRx.aload_n 0 rfl rfl dX12_drawn_15 ?_
    refine zRx.getR (a := 0) (b := 2) fl_12_33 rfl rfl dX12_drawn_16 ?_
    refine zRx.iconst ⟨by decide, by decide⟩ dX12_drawn_19 ?_
    refine zRx.ialdv (v := σ 2 0) (zu_ne _ _ _ _ (by decide)) rfl (by decide) (by decide) dX12_drawn_20 ?_
    refine zRx.iconst ⟨by decide, by decide⟩ dX12_drawn_21 ?_
    refine zRx.icmp_lt (tgt := 34) dX12_drawn_22 (by decide) (fun c22 => ?_) (fun c22 => ?_)
    · refine zRx.iconst ⟨by decide, by decide⟩ dX12_drawn_34 ?_
      exact zR.iret rfl dX12_drawn_35 (by have he : R_X12_drawn σ x sd = ((-1), zu σ 0 0 0) := (by rw [R_X12_drawn, if_pos c12, if_pos c22]); rw [he]; exact ⟨rfl, rfl⟩)
    · refine zRx.aload_n 0 rfl rfl dX12_drawn_25 ?_
      refine zRx.getR (a := 0) (b := 2) fl_12_33 rfl rfl dX12_drawn_26 ?_
      refine zRx.iconst ⟨by decide, by decide⟩ dX12_drawn_29 ?_
      refine zRx.ialdv (v := σ 2 1) (zu_ne _ _ _ _ (by decide)) rfl (by decide) (by decide) dX12_drawn_30 ?_
      refine zRx.if_ne (tgt := 36) dX12_drawn_31 (by decide) (fun c31 => ?_) (fun c31 => ?_)
      · refine zRx.aload_n 0 rfl rfl dX12_drawn_36 ?_
        refine zRx.iload_n 2 rfl rfl dX12_drawn_37 ?_
        refine zRx.putI (a := 0) (ji := 27) pl_12_347 rfl rfl rfl dX12_drawn_38 ?_
        refine zRx.aload_n 0 rfl rfl dX12_drawn_41 ?_
        refine zRx.iconst ⟨by decide, by decide⟩ dX12_drawn_42 ?_
        refine zRx.putI (a := 0) (ji := 22) pl_12_326 rfl rfl rfl dX12_drawn_43 ?_
        refine zRx.aload_n 0 rfl rfl dX12_drawn_46 ?_
        refine zRx.iconst ⟨by decide, by decide⟩ dX12_drawn_47 ?_
        refine zRx.putI (a := 0) (ji := 21) pl_12_323 rfl rfl rfl dX12_drawn_48 ?_
        have he : R_X12_drawn σ x sd = L_X12_drawn_51 x sd 70  (zu (zu (zu (zu σ 0 0 0) 0 27 sd) 0 22 0) 0 21 0) := by rw [R_X12_drawn, if_pos c12, if_neg (Int.not_lt.mpr c22), if_neg c31]
        rw [he]
        exact loop_X12_drawn_51 x sd (by omega)  70  (zu (zu (zu (zu σ 0 0 0) 0 27 sd) 0 22 0) 0 21 0) (by have e9 : (zu (zu (zu (zu σ 0 0 0) 0 27 sd) 0 22 0) 0 21 0) 2 0 = σ 2 0 := ((zu_ne _ _ _ _ (by decide)).trans ((zu_ne _ _ _ _ (by decide)).trans ((zu_ne _ _ _ _ (by decide)).trans (zu_ne _ _ _ _ (by decide))))); omega) (by have e9 : (zu (zu (zu (zu σ 0 0 0) 0 27 sd) 0 22 0) 0 21 0) 2 1 = σ 2 1 := ((zu_ne _ _ _ _ (by decide)).trans ((zu_ne _ _ _ _ (by decide)).trans ((zu_ne _ _ _ _ (by decide)).trans (zu_ne _ _ _ _ (by decide))))); omega) (by rw [zu_at]; omega) (by rw [zu_at]; omega)
      · refine zRx.iconst ⟨by decide, by decide⟩ dX12_drawn_34 ?_
        exact zR.iret rfl dX12_drawn_35 (by have he : R_X12_drawn σ x sd = ((-1), zu σ 0 0 0) := (by rw [R_X12_drawn, if_pos c12, if_neg (Int.not_lt.mpr c22), if_pos c31]); rw [he]; exact ⟨rfl, rfl⟩)

