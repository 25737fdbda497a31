/-! the reference: the lines of a valley -/
/-- the reading place is no less; a token was read behind it -/
def PM (p0 : Int) (σ : zG) : Prop := p0 ≤ σ 0 4
def AD (p0 : Int) (σ : zG) : Prop := σ 0 11 = 0 ∨ σ 0 11 = 4 ∨ p0 < σ 0 4
theorem PM_zu {p0 : Int} {σ : zG} {a : Nat} {i z : Int} (h : ¬ (a = 0 ∧ i = 4)) (hI : PM p0 σ) : PM p0 (zu σ a i z) := by
  unfold PM at *
  have e4 : zu σ a i z 0 4 = σ 0 4 := by
    by_cases ha : a = 0
    · subst ha
      exact zu_off _ _ _ (by omega)
    · exact zu_ne _ _ _ _ (by omega)
  rw [e4]
  exact hI
theorem AD_zu {p0 : Int} {σ : zG} {a : Nat} {i z : Int} (h : ¬ (a = 0 ∧ (i = 4 ∨ i = 11))) (hI : AD p0 σ) : AD p0 (zu σ a i z) := by
  unfold AD at *
  have e4 : zu σ a i z 0 4 = σ 0 4 := by
    by_cases ha : a = 0
    · subst ha
      exact zu_off _ _ _ (by omega)
    · exact zu_ne _ _ _ _ (by omega)
  have e5 : zu σ a i z 0 11 = σ 0 11 := by
    by_cases ha : a = 0
    · subst ha
      exact zu_off _ _ _ (by omega)
    · exact zu_ne _ _ _ _ (by omega)
  rw [e4, e5]
  exact hI
theorem PM_F_X12_next {p0 : Int} {σ : zG} (h : PM p0 σ) : PM p0 (F_X12_next σ) := Int.le_trans h (next_all σ).2.2.1.1
theorem AD_F_X12_next {p0 : Int} {σ : zG} (h : PM p0 σ) : AD p0 (F_X12_next σ) := by
  have h1 := (next_all σ).2.2.2.1
  unfold AD
  unfold PM at h
  omega

theorem PM_F_X12_sign {σ : zG} {c : Int}  {p0 : Int} (hM : PM p0 σ) : PM p0 (F_X12_sign σ c) := by
  unfold F_X12_sign
  repeat' split
  all_goals first | exact (PM_F_X12_next hM) | exact (PM_zu (by decide) (PM_zu (by decide) hM))

theorem AD_F_X12_sign {σ : zG} {c : Int}  {p0 : Int} (hv : ¬ V_X12_sign σ c = 0) (hM : PM p0 σ) : AD p0 (F_X12_sign σ c) := by
  by_cases c1 : σ 0 11 = 3 ∧ σ 0 14 = c
  · unfold V_X12_sign at hv
    rw [if_pos c1] at hv
    unfold F_X12_sign
    rw [if_pos c1]
    exact (AD_F_X12_next hM)
  · unfold V_X12_sign at hv
    rw [if_neg c1] at hv
    exact absurd rfl hv

theorem PM_F_X12_takes {σ : zG} {lo hi : Int}  {p0 : Int} (hM : PM p0 σ) : PM p0 (F_X12_takes σ lo hi) := by
  unfold F_X12_takes
  repeat' split
  all_goals first | exact (PM_F_X12_next (PM_zu (by decide) hM)) | exact (PM_zu (by decide) (PM_zu (by decide) hM))

theorem AD_F_X12_takes {σ : zG} {lo hi : Int}  {p0 : Int} (hv : ¬ V_X12_takes σ lo hi = 0) (hM : PM p0 σ) : AD p0 (F_X12_takes σ lo hi) := by
  by_cases c1 : (σ 0 11) = 2
  · by_cases c2 : lo ≤ (σ 0 14) ∧ (σ 0 14) ≤ hi
    · unfold V_X12_takes at hv
      rw [if_pos c1, if_pos c2] at hv
      unfold F_X12_takes
      rw [if_pos c1, if_pos c2]
      exact (AD_F_X12_next (PM_zu (by decide) hM))
    · unfold V_X12_takes at hv
      rw [if_pos c1, if_neg c2] at hv
      exact absurd rfl hv
  · unfold V_X12_takes at hv
    rw [if_neg c1] at hv
    exact absurd rfl hv

theorem PM_F_X12_takesName {σ : zG} {fm nn : Int}  {p0 : Int} (hM : PM p0 σ) : PM p0 (F_X12_takesName σ fm nn) := by
  unfold F_X12_takesName
  repeat' split
  all_goals first | exact (PM_zu (by decide) (PM_zu (by decide) hM)) | exact (PM_F_X12_next (PM_zu (by decide) hM)) | exact (PM_zu (by decide) (PM_zu (by decide) (PM_zu (by decide) hM)))

theorem AD_F_X12_takesName {σ : zG} {fm nn : Int}  {p0 : Int} (hv : ¬ V_X12_takesName σ fm nn = 0) (hM : PM p0 σ) : AD p0 (F_X12_takesName σ fm nn) := by
  by_cases c1 : (R_X12_isName σ) = 0
  · unfold V_X12_takesName at hv
    rw [if_pos c1] at hv
    exact absurd rfl hv
  · by_cases c2 : 0 ≤ (R_X12_find σ fm nn)
    · unfold V_X12_takesName at hv
      rw [if_neg c1, if_pos c2] at hv
      unfold F_X12_takesName
      rw [if_neg c1, if_pos c2]
      exact (AD_F_X12_next (PM_zu (by decide) hM))
    · unfold V_X12_takesName at hv
      rw [if_neg c1, if_neg c2] at hv
      exact absurd rfl hv

theorem PM_F_X12_fresh {σ : zG} {to : Int}  {p0 : Int} (hM : PM p0 σ) : PM p0 (F_X12_fresh σ to) := by
  unfold F_X12_fresh
  repeat' split
  all_goals first | exact (PM_zu (by decide) (PM_zu (by decide) hM)) | exact (PM_F_X12_next (PM_zu (fun h => absurd h.1 (by decide)) hM))

theorem AD_F_X12_fresh {σ : zG} {to : Int}  {p0 : Int} (hv : ¬ V_X12_fresh σ to = 0) (hM : PM p0 σ) : AD p0 (F_X12_fresh σ to) := by
  by_cases c1 : (R_X12_isName σ) = 0
  · unfold V_X12_fresh at hv
    rw [if_pos c1] at hv
    exact absurd rfl hv
  · by_cases c2 : 0 ≤ (R_X12_find σ 20 (σ 3 0))
    · unfold V_X12_fresh at hv
      rw [if_neg c1, if_pos c2] at hv
      exact absurd rfl hv
    · by_cases c3 : (R_X12_find σ 28 (σ 3 1)) < 0
      · unfold V_X12_fresh at hv
        rw [if_neg c1, if_neg c2, if_pos c3] at hv
        unfold F_X12_fresh
        rw [if_neg c1, if_neg c2, if_pos c3]
        exact (AD_F_X12_next (PM_zu (fun h => absurd h.1 (by decide)) hM))
      · unfold V_X12_fresh at hv
        rw [if_neg c1, if_neg c2, if_neg c3] at hv
        exact absurd rfl hv

theorem PM_F_X12_once {σ : zG} {wh lo hi : Int}  {p0 : Int} (hM : PM p0 σ) : PM p0 (F_X12_once σ wh lo hi) := by
  unfold F_X12_once
  repeat' split
  all_goals first | exact (PM_zu (by decide) (PM_zu (by decide) hM)) | exact (PM_F_X12_takes (PM_F_X12_next (PM_zu (by decide) hM))) | exact (PM_zu (fun h => absurd h.1 (by decide)) (PM_F_X12_takes (PM_F_X12_next (PM_zu (by decide) hM))))

theorem AD_F_X12_once {σ : zG} {wh lo hi : Int}  {p0 : Int} (hv : ¬ V_X12_once σ wh lo hi = 0) (hM : PM p0 σ) : AD p0 (F_X12_once σ wh lo hi) := by
  by_cases c1 : hb (σ 0 20) wh
  · unfold V_X12_once at hv
    rw [if_pos c1] at hv
    exact absurd rfl hv
  · by_cases c2 : (V_X12_takes (F_X12_next (zu σ 0 20 (bor (σ 0 20) (bshl 1 wh)))) lo hi) = 0
    · unfold V_X12_once at hv
      rw [if_neg c1, if_pos c2] at hv
      exact absurd rfl hv
    · unfold V_X12_once at hv
      rw [if_neg c1, if_neg c2] at hv
      unfold F_X12_once
      rw [if_neg c1, if_neg c2]
      exact (AD_zu (fun h => absurd h.1 (by decide)) (AD_F_X12_takes c2 (PM_F_X12_next (PM_zu (by decide) hM))))

theorem PH_zu0 {σ : zG} {z : Int} (h : 0 ≤ z ∧ z ≤ 8) (hI : PH σ) : PH (zu σ 3 0 z) := by
  unfold PH at *
  rw [zu_at, zu_off _ _ _ (by decide), zu_off _ _ _ (by decide)]
  exact ⟨h, hI.2⟩
theorem PH_zu1 {σ : zG} {z : Int} (h : 0 ≤ z ∧ z ≤ 12) (hI : PH σ) : PH (zu σ 3 1 z) := by
  unfold PH at *
  rw [zu_at, zu_off _ _ _ (by decide), zu_off _ _ _ (by decide)]
  exact ⟨hI.1, h, hI.2.2⟩
theorem PH_zu2 {σ : zG} {z : Int} (h : 0 ≤ z ∧ z ≤ 8) (hI : PH σ) : PH (zu σ 3 2 z) := by
  unfold PH at *
  rw [zu_at, zu_off _ _ _ (by decide), zu_off _ _ _ (by decide)]
  exact ⟨hI.1, hI.2.1, h⟩

def V_X12_readFact (σ : zG)  : Int := if (σ 3 1) = 12 then 0 else (if (V_X12_fresh (F_X12_next σ) (28 + (σ 3 1))) = 0 then 0 else (if (V_X12_takes (F_X12_fresh (F_X12_next σ) (28 + (σ 3 1))) 1 99) = 0 then 0 else (if (V_X12_takes (zu (F_X12_takes (F_X12_fresh (F_X12_next σ) (28 + (σ 3 1))) 1 99) 3 (8 + (3 * (σ 3 1))) ((F_X12_takes (F_X12_fresh (F_X12_next σ) (28 + (σ 3 1))) 1 99) 0 18)) 0 99) = 0 then 0 else (if (V_X12_takesName (zu (F_X12_takes (zu (F_X12_takes (F_X12_fresh (F_X12_next σ) (28 + (σ 3 1))) 1 99) 3 (8 + (3 * (σ 3 1))) ((F_X12_takes (F_X12_fresh (F_X12_next σ) (28 + (σ 3 1))) 1 99) 0 18)) 0 99) 3 ((8 + (3 * (σ 3 1))) + 1) ((F_X12_takes (zu (F_X12_takes (F_X12_fresh (F_X12_next σ) (28 + (σ 3 1))) 1 99) 3 (8 + (3 * (σ 3 1))) ((F_X12_takes (F_X12_fresh (F_X12_next σ) (28 + (σ 3 1))) 1 99) 0 18)) 0 99) 0 18)) 20 (σ 3 0)) = 0 then 0 else 1))))
def F_X12_readFact (σ : zG)  : zG := if (σ 3 1) = 12 then (zu (zu σ 0 15 4) 0 16 (σ 0 12)) else (if (V_X12_fresh (F_X12_next σ) (28 + (σ 3 1))) = 0 then (F_X12_fresh (F_X12_next σ) (28 + (σ 3 1))) else (if (V_X12_takes (F_X12_fresh (F_X12_next σ) (28 + (σ 3 1))) 1 99) = 0 then (F_X12_takes (F_X12_fresh (F_X12_next σ) (28 + (σ 3 1))) 1 99) else (if (V_X12_takes (zu (F_X12_takes (F_X12_fresh (F_X12_next σ) (28 + (σ 3 1))) 1 99) 3 (8 + (3 * (σ 3 1))) ((F_X12_takes (F_X12_fresh (F_X12_next σ) (28 + (σ 3 1))) 1 99) 0 18)) 0 99) = 0 then (F_X12_takes (zu (F_X12_takes (F_X12_fresh (F_X12_next σ) (28 + (σ 3 1))) 1 99) 3 (8 + (3 * (σ 3 1))) ((F_X12_takes (F_X12_fresh (F_X12_next σ) (28 + (σ 3 1))) 1 99) 0 18)) 0 99) else (if (V_X12_takesName (zu (F_X12_takes (zu (F_X12_takes (F_X12_fresh (F_X12_next σ) (28 + (σ 3 1))) 1 99) 3 (8 + (3 * (σ 3 1))) ((F_X12_takes (F_X12_fresh (F_X12_next σ) (28 + (σ 3 1))) 1 99) 0 18)) 0 99) 3 ((8 + (3 * (σ 3 1))) + 1) ((F_X12_takes (zu (F_X12_takes (F_X12_fresh (F_X12_next σ) (28 + (σ 3 1))) 1 99) 3 (8 + (3 * (σ 3 1))) ((F_X12_takes (F_X12_fresh (F_X12_next σ) (28 + (σ 3 1))) 1 99) 0 18)) 0 99) 0 18)) 20 (σ 3 0)) = 0 then (F_X12_takesName (zu (F_X12_takes (zu (F_X12_takes (F_X12_fresh (F_X12_next σ) (28 + (σ 3 1))) 1 99) 3 (8 + (3 * (σ 3 1))) ((F_X12_takes (F_X12_fresh (F_X12_next σ) (28 + (σ 3 1))) 1 99) 0 18)) 0 99) 3 ((8 + (3 * (σ 3 1))) + 1) ((F_X12_takes (zu (F_X12_takes (F_X12_fresh (F_X12_next σ) (28 + (σ 3 1))) 1 99) 3 (8 + (3 * (σ 3 1))) ((F_X12_takes (F_X12_fresh (F_X12_next σ) (28 + (σ 3 1))) 1 99) 0 18)) 0 99) 0 18)) 20 (σ 3 0)) else (zu (zu (F_X12_takesName (zu (F_X12_takes (zu (F_X12_takes (F_X12_fresh (F_X12_next σ) (28 + (σ 3 1))) 1 99) 3 (8 + (3 * (σ 3 1))) ((F_X12_takes (F_X12_fresh (F_X12_next σ) (28 + (σ 3 1))) 1 99) 0 18)) 0 99) 3 ((8 + (3 * (σ 3 1))) + 1) ((F_X12_takes (zu (F_X12_takes (F_X12_fresh (F_X12_next σ) (28 + (σ 3 1))) 1 99) 3 (8 + (3 * (σ 3 1))) ((F_X12_takes (F_X12_fresh (F_X12_next σ) (28 + (σ 3 1))) 1 99) 0 18)) 0 99) 0 18)) 20 (σ 3 0)) 3 ((8 + (3 * (σ 3 1))) + 2) ((F_X12_takesName (zu (F_X12_takes (zu (F_X12_takes (F_X12_fresh (F_X12_next σ) (28 + (σ 3 1))) 1 99) 3 (8 + (3 * (σ 3 1))) ((F_X12_takes (F_X12_fresh (F_X12_next σ) (28 + (σ 3 1))) 1 99) 0 18)) 0 99) 3 ((8 + (3 * (σ 3 1))) + 1) ((F_X12_takes (zu (F_X12_takes (F_X12_fresh (F_X12_next σ) (28 + (σ 3 1))) 1 99) 3 (8 + (3 * (σ 3 1))) ((F_X12_takes (F_X12_fresh (F_X12_next σ) (28 + (σ 3 1))) 1 99) 0 18)) 0 99) 0 18)) 20 (σ 3 0)) 0 18)) 3 1 ((σ 3 1) + 1))))))
theorem fr_F_X12_readFact (σ : zG)  {k : Nat} (h : k ∉ [0, 3, 5]) : (F_X12_readFact σ ) k = σ k := by
  have ne : ∀ c ∈ [0, 3, 5], k ≠ c := fun c hc e => h (e ▸ hc)
  have nk_F_X12_fresh : k ∉ [0, 5] := fun hm => h (by first | (revert hm; simp only [List.mem_cons, List.not_mem_nil, or_false]; omega) | (simp at hm))
  have nk_F_X12_next : k ∉ [0] := fun hm => h (by first | (revert hm; simp only [List.mem_cons, List.not_mem_nil, or_false]; omega) | (simp at hm))
  have nk_F_X12_takes : k ∉ [0] := fun hm => h (by first | (revert hm; simp only [List.mem_cons, List.not_mem_nil, or_false]; omega) | (simp at hm))
  have nk_F_X12_takesName : k ∉ [0] := fun hm => h (by first | (revert hm; simp only [List.mem_cons, List.not_mem_nil, or_false]; omega) | (simp at hm))
  unfold F_X12_readFact
  repeat' split
  all_goals first | rfl | simp only [zu_row _ _ _ (ne 0 (by decide)), zu_row _ _ _ (ne 3 (by decide)), zu_row _ _ _ (ne 5 (by decide)), fr_F_X12_fresh (h := nk_F_X12_fresh), fr_F_X12_next (h := nk_F_X12_next), fr_F_X12_takes (h := nk_F_X12_takes), fr_F_X12_takesName (h := nk_F_X12_takesName)]

set_option maxRecDepth 20000 in
theorem does_X12_readFact (σ : zG)  (hI : PI σ) (hH : PH σ) : zDo SM 3 m_X12_readFact [zP 0] σ (zEq (some (.inl (V_X12_readFact σ ))) (F_X12_readFact σ )) := by
  refine zDo.intro mk_X12_readFact (Nat.le_of_ble_eq_true rfl) ?_
  obtain ⟨hp, hf, hs⟩ := id hH
  refine zRx.aload_n 0 rfl rfl dX12_readFact_0 ?_
  refine zRx.getR (a := 0) (b := 3) fl_12_37 rfl rfl dX12_readFact_1 ?_
  refine zRx.iconst ⟨by decide, by decide⟩ dX12_readFact_4 ?_
  refine zRx.ialdv (v := σ 3 1) rfl rfl (by decide) (by decide) dX12_readFact_5 ?_
  refine zRx.istore_n (ls' := [(0, zP 0), (1, .inl (σ 3 1))]) rfl rfl (by decide) dX12_readFact_6 ?_
  refine zRx.iload_n 1 rfl rfl dX12_readFact_7 ?_
  refine zRx.bipush ⟨by decide, by decide⟩ rfl dX12_readFact_8 ?_
  refine zRx.icmp_ne (tgt := 19) dX12_readFact_10 (by decide) (fun c10 => ?_) (fun c10 => ?_)
  · refine zRx.aload_n 0 rfl rfl dX12_readFact_19 ?_
    refine zRx.cVv (M := m_X12_next) (av := []) cv_12_251 mk_X12_next (by decide) (b := 0) rfl rfl (Nat.le_of_ble_eq_true rfl) dX12_readFact_20 (does_next2 σ hI) ?_
    refine zRx.aload_n 0 rfl rfl dX12_readFact_23 ?_
    refine zRx.bipush ⟨by decide, by decide⟩ rfl dX12_readFact_24 ?_
    refine zRx.iload_n 1 rfl rfl dX12_readFact_26 ?_
    refine zRx.iadd ⟨by omega, by omega⟩ dX12_readFact_27 ?_
    refine zRx.cVi (w := .inl (V_X12_fresh (F_X12_next σ) (28 + (σ 3 1)))) (M := m_X12_fresh) (av := [.inl (28 + (σ 3 1))]) cv_12_283 mk_X12_fresh (by decide) (b := 0) rfl rfl (Nat.le_of_ble_eq_true rfl) dX12_readFact_28 (does_X12_fresh (F_X12_next σ) (28 + (σ 3 1)) (PI_F_X12_next hI) (PH_F_X12_next hH) (by omega)) ?_
    refine zRx.if_ne (tgt := 36) dX12_readFact_31 (by decide) (fun c31 => ?_) (fun c31 => ?_)
    · refine zRx.aload_n 0 rfl rfl dX12_readFact_36 ?_
      refine zRx.iconst ⟨by decide, by decide⟩ dX12_readFact_37 ?_
      refine zRx.bipush ⟨by decide, by decide⟩ rfl dX12_readFact_38 ?_
      refine zRx.cVi (w := .inl (V_X12_takes (F_X12_fresh (F_X12_next σ) (28 + (σ 3 1))) 1 99)) (M := m_X12_takes) (av := [.inl 1, .inl 99]) cv_12_276 mk_X12_takes (by decide) (b := 0) rfl rfl (Nat.le_of_ble_eq_true rfl) dX12_readFact_40 (does_X12_takes (F_X12_fresh (F_X12_next σ) (28 + (σ 3 1))) 1 99 (PI_F_X12_fresh (PI_F_X12_next hI))) ?_
      refine zRx.if_ne (tgt := 48) dX12_readFact_43 (by decide) (fun c43 => ?_) (fun c43 => ?_)
      · refine zRx.aload_n 0 rfl rfl dX12_readFact_48 ?_
        refine zRx.getR (a := 0) (b := 3) fl_12_37 rfl rfl dX12_readFact_49 ?_
        refine zRx.bipush ⟨by decide, by decide⟩ rfl dX12_readFact_52 ?_
        refine zRx.iconst ⟨by decide, by decide⟩ dX12_readFact_54 ?_
        refine zRx.iload_n 1 rfl rfl dX12_readFact_55 ?_
        refine zRx.imul ⟨by omega, by omega⟩ dX12_readFact_56 ?_
        refine zRx.iadd ⟨by omega, by omega⟩ dX12_readFact_57 ?_
        refine zRx.aload_n 0 rfl rfl dX12_readFact_58 ?_
        refine zRx.getIv (a := 0) (ji := 18) (v := (F_X12_takes (F_X12_fresh (F_X12_next σ) (28 + (σ 3 1))) 1 99) 0 18) rfl fl_12_258 rfl rfl rfl dX12_readFact_59 ?_
        refine zRx.iast rfl (by omega) (by omega) dX12_readFact_62 ?_
        refine zRx.aload_n 0 rfl rfl dX12_readFact_63 ?_
        refine zRx.iconst ⟨by decide, by decide⟩ dX12_readFact_64 ?_
        refine zRx.bipush ⟨by decide, by decide⟩ rfl dX12_readFact_65 ?_
        refine zRx.cVi (w := .inl (V_X12_takes (zu (F_X12_takes (F_X12_fresh (F_X12_next σ) (28 + (σ 3 1))) 1 99) 3 (8 + (3 * (σ 3 1))) ((F_X12_takes (F_X12_fresh (F_X12_next σ) (28 + (σ 3 1))) 1 99) 0 18)) 0 99)) (M := m_X12_takes) (av := [.inl 0, .inl 99]) cv_12_276 mk_X12_takes (by decide) (b := 0) rfl rfl (Nat.le_of_ble_eq_true rfl) dX12_readFact_67 (does_X12_takes (zu (F_X12_takes (F_X12_fresh (F_X12_next σ) (28 + (σ 3 1))) 1 99) 3 (8 + (3 * (σ 3 1))) ((F_X12_takes (F_X12_fresh (F_X12_next σ) (28 + (σ 3 1))) 1 99) 0 18)) 0 99 (PI_zu (fun h => absurd h.1 (by decide)) (PI_F_X12_takes (PI_F_X12_fresh (PI_F_X12_next hI))))) ?_
        refine zRx.if_ne (tgt := 75) dX12_readFact_70 (by decide) (fun c70 => ?_) (fun c70 => ?_)
        · refine zRx.aload_n 0 rfl rfl dX12_readFact_75 ?_
          refine zRx.getR (a := 0) (b := 3) fl_12_37 rfl rfl dX12_readFact_76 ?_
          refine zRx.bipush ⟨by decide, by decide⟩ rfl dX12_readFact_79 ?_
          refine zRx.iconst ⟨by decide, by decide⟩ dX12_readFact_81 ?_
          refine zRx.iload_n 1 rfl rfl dX12_readFact_82 ?_
          refine zRx.imul ⟨by omega, by omega⟩ dX12_readFact_83 ?_
          refine zRx.iadd ⟨by omega, by omega⟩ dX12_readFact_84 ?_
          refine zRx.iconst ⟨by decide, by decide⟩ dX12_readFact_85 ?_
          refine zRx.iadd ⟨by omega, by omega⟩ dX12_readFact_86 ?_
          refine zRx.aload_n 0 rfl rfl dX12_readFact_87 ?_
          refine zRx.getIv (a := 0) (ji := 18) (v := (F_X12_takes (zu (F_X12_takes (F_X12_fresh (F_X12_next σ) (28 + (σ 3 1))) 1 99) 3 (8 + (3 * (σ 3 1))) ((F_X12_takes (F_X12_fresh (F_X12_next σ) (28 + (σ 3 1))) 1 99) 0 18)) 0 99) 0 18) rfl fl_12_258 rfl rfl rfl dX12_readFact_88 ?_
          refine zRx.iast rfl (by omega) (by omega) dX12_readFact_91 ?_
          refine zRx.aload_n 0 rfl rfl dX12_readFact_92 ?_
          refine zRx.bipush ⟨by decide, by decide⟩ rfl dX12_readFact_93 ?_
          refine zRx.aload_n 0 rfl rfl dX12_readFact_95 ?_
          refine zRx.getR (a := 0) (b := 3) fl_12_37 rfl rfl dX12_readFact_96 ?_
          refine zRx.iconst ⟨by decide, by decide⟩ dX12_readFact_99 ?_
          refine zRx.ialdv (v := σ 3 0) ((zu_off _ _ _ (by omega)).trans ((congrFun (fr_F_X12_takes (zu (F_X12_takes (F_X12_fresh (F_X12_next σ) (28 + (σ 3 1))) 1 99) 3 (8 + (3 * (σ 3 1))) ((F_X12_takes (F_X12_fresh (F_X12_next σ) (28 + (σ 3 1))) 1 99) 0 18)) 0 99 (k := 3) (by decide)) _).trans ((zu_off _ _ _ (by omega)).trans ((congrFun (fr_F_X12_takes (F_X12_fresh (F_X12_next σ) (28 + (σ 3 1))) 1 99 (k := 3) (by decide)) _).trans ((congrFun (fr_F_X12_fresh (F_X12_next σ) (28 + (σ 3 1)) (k := 3) (by decide)) _).trans (congrFun (fr_F_X12_next σ (k := 3) (by decide)) _)))))) rfl (by decide) (by decide) dX12_readFact_100 ?_
          refine zRx.cVi (w := .inl (V_X12_takesName (zu (F_X12_takes (zu (F_X12_takes (F_X12_fresh (F_X12_next σ) (28 + (σ 3 1))) 1 99) 3 (8 + (3 * (σ 3 1))) ((F_X12_takes (F_X12_fresh (F_X12_next σ) (28 + (σ 3 1))) 1 99) 0 18)) 0 99) 3 ((8 + (3 * (σ 3 1))) + 1) ((F_X12_takes (zu (F_X12_takes (F_X12_fresh (F_X12_next σ) (28 + (σ 3 1))) 1 99) 3 (8 + (3 * (σ 3 1))) ((F_X12_takes (F_X12_fresh (F_X12_next σ) (28 + (σ 3 1))) 1 99) 0 18)) 0 99) 0 18)) 20 (σ 3 0))) (M := m_X12_takesName) (av := [.inl 20, .inl (σ 3 0)]) cv_12_301 mk_X12_takesName (by decide) (b := 0) rfl rfl (Nat.le_of_ble_eq_true rfl) dX12_readFact_101 (does_X12_takesName (zu (F_X12_takes (zu (F_X12_takes (F_X12_fresh (F_X12_next σ) (28 + (σ 3 1))) 1 99) 3 (8 + (3 * (σ 3 1))) ((F_X12_takes (F_X12_fresh (F_X12_next σ) (28 + (σ 3 1))) 1 99) 0 18)) 0 99) 3 ((8 + (3 * (σ 3 1))) + 1) ((F_X12_takes (zu (F_X12_takes (F_X12_fresh (F_X12_next σ) (28 + (σ 3 1))) 1 99) 3 (8 + (3 * (σ 3 1))) ((F_X12_takes (F_X12_fresh (F_X12_next σ) (28 + (σ 3 1))) 1 99) 0 18)) 0 99) 0 18)) 20 (σ 3 0) (PI_zu (fun h => absurd h.1 (by decide)) (PI_F_X12_takes (PI_zu (fun h => absurd h.1 (by decide)) (PI_F_X12_takes (PI_F_X12_fresh (PI_F_X12_next hI)))))) (by omega)) ?_
          refine zRx.if_ne (tgt := 109) dX12_readFact_104 (by decide) (fun c104 => ?_) (fun c104 => ?_)
          · refine zRx.aload_n 0 rfl rfl dX12_readFact_109 ?_
            refine zRx.getR (a := 0) (b := 3) fl_12_37 rfl rfl dX12_readFact_110 ?_
            refine zRx.bipush ⟨by decide, by decide⟩ rfl dX12_readFact_113 ?_
            refine zRx.iconst ⟨by decide, by decide⟩ dX12_readFact_115 ?_
            refine zRx.iload_n 1 rfl rfl dX12_readFact_116 ?_
            refine zRx.imul ⟨by omega, by omega⟩ dX12_readFact_117 ?_
            refine zRx.iadd ⟨by omega, by omega⟩ dX12_readFact_118 ?_
            refine zRx.iconst ⟨by decide, by decide⟩ dX12_readFact_119 ?_
            refine zRx.iadd ⟨by omega, by omega⟩ dX12_readFact_120 ?_
            refine zRx.aload_n 0 rfl rfl dX12_readFact_121 ?_
            refine zRx.getIv (a := 0) (ji := 18) (v := (F_X12_takesName (zu (F_X12_takes (zu (F_X12_takes (F_X12_fresh (F_X12_next σ) (28 + (σ 3 1))) 1 99) 3 (8 + (3 * (σ 3 1))) ((F_X12_takes (F_X12_fresh (F_X12_next σ) (28 + (σ 3 1))) 1 99) 0 18)) 0 99) 3 ((8 + (3 * (σ 3 1))) + 1) ((F_X12_takes (zu (F_X12_takes (F_X12_fresh (F_X12_next σ) (28 + (σ 3 1))) 1 99) 3 (8 + (3 * (σ 3 1))) ((F_X12_takes (F_X12_fresh (F_X12_next σ) (28 + (σ 3 1))) 1 99) 0 18)) 0 99) 0 18)) 20 (σ 3 0)) 0 18) rfl fl_12_258 rfl rfl rfl dX12_readFact_122 ?_
            refine zRx.iast rfl (by omega) (by omega) dX12_readFact_125 ?_
            refine zRx.aload_n 0 rfl rfl dX12_readFact_126 ?_
            refine zRx.getR (a := 0) (b := 3) fl_12_37 rfl rfl dX12_readFact_127 ?_
            refine zRx.iconst ⟨by decide, by decide⟩ dX12_readFact_130 ?_
            refine zRx.dup2 rfl rfl dX12_readFact_131 ?_
            refine zRx.ialdv (v := σ 3 1) ((zu_off _ _ _ (by omega)).trans ((congrFun (fr_F_X12_takesName (zu (F_X12_takes (zu (F_X12_takes (F_X12_fresh (F_X12_next σ) (28 + (σ 3 1))) 1 99) 3 (8 + (3 * (σ 3 1))) ((F_X12_takes (F_X12_fresh (F_X12_next σ) (28 + (σ 3 1))) 1 99) 0 18)) 0 99) 3 ((8 + (3 * (σ 3 1))) + 1) ((F_X12_takes (zu (F_X12_takes (F_X12_fresh (F_X12_next σ) (28 + (σ 3 1))) 1 99) 3 (8 + (3 * (σ 3 1))) ((F_X12_takes (F_X12_fresh (F_X12_next σ) (28 + (σ 3 1))) 1 99) 0 18)) 0 99) 0 18)) 20 (σ 3 0) (k := 3) (by decide)) _).trans ((zu_off _ _ _ (by omega)).trans ((congrFun (fr_F_X12_takes (zu (F_X12_takes (F_X12_fresh (F_X12_next σ) (28 + (σ 3 1))) 1 99) 3 (8 + (3 * (σ 3 1))) ((F_X12_takes (F_X12_fresh (F_X12_next σ) (28 + (σ 3 1))) 1 99) 0 18)) 0 99 (k := 3) (by decide)) _).trans ((zu_off _ _ _ (by omega)).trans ((congrFun (fr_F_X12_takes (F_X12_fresh (F_X12_next σ) (28 + (σ 3 1))) 1 99 (k := 3) (by decide)) _).trans ((congrFun (fr_F_X12_fresh (F_X12_next σ) (28 + (σ 3 1)) (k := 3) (by decide)) _).trans (congrFun (fr_F_X12_next σ (k := 3) (by decide)) _)))))))) rfl (by decide) (by decide) dX12_readFact_132 ?_
            refine zRx.iconst ⟨by decide, by decide⟩ dX12_readFact_133 ?_
            refine zRx.iadd ⟨by omega, by omega⟩ dX12_readFact_134 ?_
            refine zRx.iast rfl (by decide) (by decide) dX12_readFact_135 ?_
            refine zRx.iconst ⟨by decide, by decide⟩ dX12_readFact_136 ?_
            exact zR.zret rfl ⟨by decide, by decide⟩ dX12_readFact_137 ⟨by unfold V_X12_readFact; rw [if_neg c10, if_neg c31, if_neg c43, if_neg c70, if_neg c104], by unfold F_X12_readFact; rw [if_neg c10, if_neg c31, if_neg c43, if_neg c70, if_neg c104]⟩
          · refine zRx.iconst ⟨by decide, by decide⟩ dX12_readFact_107 ?_
            exact zR.zret rfl ⟨by decide, by decide⟩ dX12_readFact_108 ⟨by unfold V_X12_readFact; rw [if_neg c10, if_neg c31, if_neg c43, if_neg c70, if_pos c104], by unfold F_X12_readFact; rw [if_neg c10, if_neg c31, if_neg c43, if_neg c70, if_pos c104]⟩
        · refine zRx.iconst ⟨by decide, by decide⟩ dX12_readFact_73 ?_
          exact zR.zret rfl ⟨by decide, by decide⟩ dX12_readFact_74 ⟨by unfold V_X12_readFact; rw [if_neg c10, if_neg c31, if_neg c43, if_pos c70], by unfold F_X12_readFact; rw [if_neg c10, if_neg c31, if_neg c43, if_pos c70]⟩
      · refine zRx.iconst ⟨by decide, by decide⟩ dX12_readFact_46 ?_
        exact zR.zret rfl ⟨by decide, by decide⟩ dX12_readFact_47 ⟨by unfold V_X12_readFact; rw [if_neg c10, if_neg c31, if_pos c43], by unfold F_X12_readFact; rw [if_neg c10, if_neg c31, if_pos c43]⟩
    · refine zRx.iconst ⟨by decide, by decide⟩ dX12_readFact_34 ?_
      exact zR.zret rfl ⟨by decide, by decide⟩ dX12_readFact_35 ⟨by unfold V_X12_readFact; rw [if_neg c10, if_pos c31], by unfold F_X12_readFact; rw [if_neg c10, if_pos c31]⟩
  · refine zRx.aload_n 0 rfl rfl dX12_readFact_13 ?_
    refine zRx.iconst ⟨by decide, by decide⟩ dX12_readFact_14 ?_
    refine zRx.cVi (w := .inl 0) (M := m_X12_bad) (av := [.inl 4]) cv_12_248 mk_X12_bad (by decide) (b := 0) rfl rfl (Nat.le_of_ble_eq_true rfl) dX12_readFact_15 (bad_eq2 σ 4 (σ 0 12) rfl) ?_
    exact zR.zret rfl ⟨by decide, by decide⟩ dX12_readFact_18 ⟨by unfold V_X12_readFact; rw [if_pos c10], by unfold F_X12_readFact; rw [if_pos c10]⟩

theorem PI_F_X12_readFact {σ : zG}  (hI : PI σ) (hH : PH σ) : PI ((F_X12_readFact σ )) := by
  unfold F_X12_readFact
  repeat' split
  all_goals first | exact (PI_zu (by decide) (PI_zu (by decide) hI)) | exact (PI_F_X12_fresh (PI_F_X12_next hI)) | exact (PI_F_X12_takes (PI_F_X12_fresh (PI_F_X12_next hI))) | exact (PI_F_X12_takes (PI_zu (fun h => absurd h.1 (by decide)) (PI_F_X12_takes (PI_F_X12_fresh (PI_F_X12_next hI))))) | exact (PI_F_X12_takesName (PI_zu (fun h => absurd h.1 (by decide)) (PI_F_X12_takes (PI_zu (fun h => absurd h.1 (by decide)) (PI_F_X12_takes (PI_F_X12_fresh (PI_F_X12_next hI))))))) | exact (PI_zu (fun h => absurd h.1 (by decide)) (PI_zu (fun h => absurd h.1 (by decide)) (PI_F_X12_takesName (PI_zu (fun h => absurd h.1 (by decide)) (PI_F_X12_takes (PI_zu (fun h => absurd h.1 (by decide)) (PI_F_X12_takes (PI_F_X12_fresh (PI_F_X12_next hI)))))))))

theorem PH_F_X12_readFact {σ : zG}   (hH : PH σ) : PH (F_X12_readFact σ ) := by
  have hH0 := id hH
  unfold PH at hH0
  unfold F_X12_readFact
  repeat' split
  all_goals first | exact (PH_zu (Or.inl (by decide)) (PH_zu (Or.inl (by decide)) hH)) | exact (PH_F_X12_fresh (PH_F_X12_next hH)) | exact (PH_F_X12_takes (PH_F_X12_fresh (PH_F_X12_next hH))) | exact (PH_F_X12_takes (PH_zu (Or.inr (by omega)) (PH_F_X12_takes (PH_F_X12_fresh (PH_F_X12_next hH))))) | exact (PH_F_X12_takesName (PH_zu (Or.inr (by omega)) (PH_F_X12_takes (PH_zu (Or.inr (by omega)) (PH_F_X12_takes (PH_F_X12_fresh (PH_F_X12_next hH))))))) | exact (PH_zu1 (by omega) (PH_zu (Or.inr (by omega)) (PH_F_X12_takesName (PH_zu (Or.inr (by omega)) (PH_F_X12_takes (PH_zu (Or.inr (by omega)) (PH_F_X12_takes (PH_F_X12_fresh (PH_F_X12_next hH)))))))))

theorem PM_F_X12_readFact {σ : zG}   {p0 : Int} (hM : PM p0 σ) : PM p0 (F_X12_readFact σ ) := by
  unfold F_X12_readFact
  repeat' split
  all_goals first | exact (PM_zu (by decide) (PM_zu (by decide) hM)) | exact (PM_F_X12_fresh (PM_F_X12_next hM)) | exact (PM_F_X12_takes (PM_F_X12_fresh (PM_F_X12_next hM))) | exact (PM_F_X12_takes (PM_zu (fun h => absurd h.1 (by decide)) (PM_F_X12_takes (PM_F_X12_fresh (PM_F_X12_next hM))))) | exact (PM_F_X12_takesName (PM_zu (fun h => absurd h.1 (by decide)) (PM_F_X12_takes (PM_zu (fun h => absurd h.1 (by decide)) (PM_F_X12_takes (PM_F_X12_fresh (PM_F_X12_next hM))))))) | exact (PM_zu (fun h => absurd h.1 (by decide)) (PM_zu (fun h => absurd h.1 (by decide)) (PM_F_X12_takesName (PM_zu (fun h => absurd h.1 (by decide)) (PM_F_X12_takes (PM_zu (fun h => absurd h.1 (by decide)) (PM_F_X12_takes (PM_F_X12_fresh (PM_F_X12_next hM)))))))))

theorem AD_F_X12_readFact {σ : zG}   {p0 : Int} (hv : ¬ V_X12_readFact σ  = 0) (hM : PM p0 σ) : AD p0 (F_X12_readFact σ ) := by
  by_cases c1 : (σ 3 1) = 12
  · unfold V_X12_readFact at hv
    rw [if_pos c1] at hv
    exact absurd rfl hv
  · by_cases c2 : (V_X12_fresh (F_X12_next σ) (28 + (σ 3 1))) = 0
    · unfold V_X12_readFact at hv
      rw [if_neg c1, if_pos c2] at hv
      exact absurd rfl hv
    · by_cases c3 : (V_X12_takes (F_X12_fresh (F_X12_next σ) (28 + (σ 3 1))) 1 99) = 0
      · unfold V_X12_readFact at hv
        rw [if_neg c1, if_neg c2, if_pos c3] at hv
        exact absurd rfl hv
      · by_cases c4 : (V_X12_takes (zu (F_X12_takes (F_X12_fresh (F_X12_next σ) (28 + (σ 3 1))) 1 99) 3 (8 + (3 * (σ 3 1))) ((F_X12_takes (F_X12_fresh (F_X12_next σ) (28 + (σ 3 1))) 1 99) 0 18)) 0 99) = 0
        · unfold V_X12_readFact at hv
          rw [if_neg c1, if_neg c2, if_neg c3, if_pos c4] at hv
          exact absurd rfl hv
        · by_cases c5 : (V_X12_takesName (zu (F_X12_takes (zu (F_X12_takes (F_X12_fresh (F_X12_next σ) (28 + (σ 3 1))) 1 99) 3 (8 + (3 * (σ 3 1))) ((F_X12_takes (F_X12_fresh (F_X12_next σ) (28 + (σ 3 1))) 1 99) 0 18)) 0 99) 3 ((8 + (3 * (σ 3 1))) + 1) ((F_X12_takes (zu (F_X12_takes (F_X12_fresh (F_X12_next σ) (28 + (σ 3 1))) 1 99) 3 (8 + (3 * (σ 3 1))) ((F_X12_takes (F_X12_fresh (F_X12_next σ) (28 + (σ 3 1))) 1 99) 0 18)) 0 99) 0 18)) 20 (σ 3 0)) = 0
          · unfold V_X12_readFact at hv
            rw [if_neg c1, if_neg c2, if_neg c3, if_neg c4, if_pos c5] at hv
            exact absurd rfl hv
          · unfold V_X12_readFact at hv
            rw [if_neg c1, if_neg c2, if_neg c3, if_neg c4, if_neg c5] at hv
            unfold F_X12_readFact
            rw [if_neg c1, if_neg c2, if_neg c3, if_neg c4, if_neg c5]
            exact (AD_zu (fun h => absurd h.1 (by decide)) (AD_zu (fun h => absurd h.1 (by decide)) (AD_F_X12_takesName c5 (PM_zu (fun h => absurd h.1 (by decide)) (PM_F_X12_takes (PM_zu (fun h => absurd h.1 (by decide)) (PM_F_X12_takes (PM_F_X12_fresh (PM_F_X12_next hM)))))))))

def V_X12_readKnows (σ : zG)  : Int := if (V_X12_takesName (F_X12_next σ) 20 (σ 3 0)) = 0 then 0 else (if (R_X12_isName (F_X12_takesName (F_X12_next σ) 20 (σ 3 0))) = 0 then 0 else (if (R_X12_find (F_X12_takesName (F_X12_next σ) 20 (σ 3 0)) 28 (σ 3 1)) < 0 then 0 else (if hb (σ 3 (44 + ((F_X12_takesName (F_X12_next σ) 20 (σ 3 0)) 0 18))) (R_X12_find (F_X12_takesName (F_X12_next σ) 20 (σ 3 0)) 28 (σ 3 1)) then 0 else 1)))
def F_X12_readKnows (σ : zG)  : zG := if (V_X12_takesName (F_X12_next σ) 20 (σ 3 0)) = 0 then (F_X12_takesName (F_X12_next σ) 20 (σ 3 0)) else (if (R_X12_isName (F_X12_takesName (F_X12_next σ) 20 (σ 3 0))) = 0 then (zu (zu (F_X12_takesName (F_X12_next σ) 20 (σ 3 0)) 0 15 1) 0 16 ((F_X12_takesName (F_X12_next σ) 20 (σ 3 0)) 0 12)) else (if (R_X12_find (F_X12_takesName (F_X12_next σ) 20 (σ 3 0)) 28 (σ 3 1)) < 0 then (zu (zu (F_X12_takesName (F_X12_next σ) 20 (σ 3 0)) 0 15 3) 0 16 ((F_X12_takesName (F_X12_next σ) 20 (σ 3 0)) 0 12)) else (if hb (σ 3 (44 + ((F_X12_takesName (F_X12_next σ) 20 (σ 3 0)) 0 18))) (R_X12_find (F_X12_takesName (F_X12_next σ) 20 (σ 3 0)) 28 (σ 3 1)) then (zu (zu (F_X12_takesName (F_X12_next σ) 20 (σ 3 0)) 0 15 3) 0 16 ((F_X12_takesName (F_X12_next σ) 20 (σ 3 0)) 0 12)) else (F_X12_next (zu (F_X12_takesName (F_X12_next σ) 20 (σ 3 0)) 3 (44 + ((F_X12_takesName (F_X12_next σ) 20 (σ 3 0)) 0 18)) (bor (σ 3 (44 + ((F_X12_takesName (F_X12_next σ) 20 (σ 3 0)) 0 18))) (bshl 1 (R_X12_find (F_X12_takesName (F_X12_next σ) 20 (σ 3 0)) 28 (σ 3 1)))))))))
theorem fr_F_X12_readKnows (σ : zG)  {k : Nat} (h : k ∉ [0, 3]) : (F_X12_readKnows σ ) k = σ k := by
  have ne : ∀ c ∈ [0, 3], k ≠ c := fun c hc e => h (e ▸ hc)
  have nk_F_X12_takesName : k ∉ [0] := fun hm => h (by first | (revert hm; simp only [List.mem_cons, List.not_mem_nil, or_false]; omega) | (simp at hm))
  have nk_F_X12_next : k ∉ [0] := fun hm => h (by first | (revert hm; simp only [List.mem_cons, List.not_mem_nil, or_false]; omega) | (simp at hm))
  unfold F_X12_readKnows
  repeat' split
  all_goals first | rfl | simp only [zu_row _ _ _ (ne 0 (by decide)), zu_row _ _ _ (ne 3 (by decide)), fr_F_X12_takesName (h := nk_F_X12_takesName), fr_F_X12_next (h := nk_F_X12_next)]

set_option maxRecDepth 20000 in
theorem does_X12_readKnows (σ : zG)  (hI : PI σ) (hH : PH σ) : zDo SM 3 m_X12_readKnows [zP 0] σ (zEq (some (.inl (V_X12_readKnows σ ))) (F_X12_readKnows σ )) := by
  refine zDo.intro mk_X12_readKnows (Nat.le_of_ble_eq_true rfl) ?_
  obtain ⟨hp, hf, hs⟩ := id hH
  refine zRx.aload_n 0 rfl rfl dX12_readKnows_0 ?_
  refine zRx.cVv (M := m_X12_next) (av := []) cv_12_251 mk_X12_next (by decide) (b := 0) rfl rfl (Nat.le_of_ble_eq_true rfl) dX12_readKnows_1 (does_next2 σ hI) ?_
  refine zRx.aload_n 0 rfl rfl dX12_readKnows_4 ?_
  refine zRx.bipush ⟨by decide, by decide⟩ rfl dX12_readKnows_5 ?_
  refine zRx.aload_n 0 rfl rfl dX12_readKnows_7 ?_
  refine zRx.getR (a := 0) (b := 3) fl_12_37 rfl rfl dX12_readKnows_8 ?_
  refine zRx.iconst ⟨by decide, by decide⟩ dX12_readKnows_11 ?_
  refine zRx.ialdv (v := σ 3 0) (congrFun (fr_F_X12_next σ (k := 3) (by decide)) _) rfl (by decide) (by decide) dX12_readKnows_12 ?_
  refine zRx.cVi (w := .inl (V_X12_takesName (F_X12_next σ) 20 (σ 3 0))) (M := m_X12_takesName) (av := [.inl 20, .inl (σ 3 0)]) cv_12_301 mk_X12_takesName (by decide) (b := 0) rfl rfl (Nat.le_of_ble_eq_true rfl) dX12_readKnows_13 (does_X12_takesName (F_X12_next σ) 20 (σ 3 0) (PI_F_X12_next hI) (by omega)) ?_
  refine zRx.if_ne (tgt := 21) dX12_readKnows_16 (by decide) (fun c16 => ?_) (fun c16 => ?_)
  · have hg := takesName_got (F_X12_next σ) 20 (σ 3 0) (by omega) c16
    refine zRx.aload_n 0 rfl rfl dX12_readKnows_21 ?_
    refine zRx.getIv (a := 0) (ji := 18) (v := (F_X12_takesName (F_X12_next σ) 20 (σ 3 0)) 0 18) rfl fl_12_258 rfl rfl rfl dX12_readKnows_22 ?_
    refine zRx.istore_n (ls' := [(0, zP 0), (1, .inl ((F_X12_takesName (F_X12_next σ) 20 (σ 3 0)) 0 18))]) rfl rfl (by decide) dX12_readKnows_25 ?_
    refine zRx.aload_n 0 rfl rfl dX12_readKnows_26 ?_
    refine zRx.cVi (w := .inl (R_X12_isName (F_X12_takesName (F_X12_next σ) 20 (σ 3 0)))) (M := m_X12_isName) (av := []) cv_12_261 mk_X12_isName (by decide) (b := 0) rfl rfl (Nat.le_of_ble_eq_true rfl) dX12_readKnows_27 (does_X12_isName (F_X12_takesName (F_X12_next σ) 20 (σ 3 0))) ?_
    refine zRx.if_ne (tgt := 39) dX12_readKnows_30 (by decide) (fun c30 => ?_) (fun c30 => ?_)
    · refine zRx.aload_n 0 rfl rfl dX12_readKnows_39 ?_
      refine zRx.bipush ⟨by decide, by decide⟩ rfl dX12_readKnows_40 ?_
      refine zRx.aload_n 0 rfl rfl dX12_readKnows_42 ?_
      refine zRx.getR (a := 0) (b := 3) fl_12_37 rfl rfl dX12_readKnows_43 ?_
      refine zRx.iconst ⟨by decide, by decide⟩ dX12_readKnows_46 ?_
      refine zRx.ialdv (v := σ 3 1) ((congrFun (fr_F_X12_takesName (F_X12_next σ) 20 (σ 3 0) (k := 3) (by decide)) _).trans (congrFun (fr_F_X12_next σ (k := 3) (by decide)) _)) rfl (by decide) (by decide) dX12_readKnows_47 ?_
      refine zRx.cVi (w := .inl (R_X12_find (F_X12_takesName (F_X12_next σ) 20 (σ 3 0)) 28 (σ 3 1))) (M := m_X12_find) (av := [.inl 28, .inl (σ 3 1)]) cv_12_265 mk_X12_find (by decide) (b := 0) rfl rfl (Nat.le_of_ble_eq_true rfl) dX12_readKnows_48 (does_X12_find (F_X12_takesName (F_X12_next σ) 20 (σ 3 0)) 28 (σ 3 1) (by omega)) ?_
      refine zRx.istore_n (ls' := [(0, zP 0), (1, .inl ((F_X12_takesName (F_X12_next σ) 20 (σ 3 0)) 0 18)), (2, .inl (R_X12_find (F_X12_takesName (F_X12_next σ) 20 (σ 3 0)) 28 (σ 3 1)))]) rfl rfl (by decide) dX12_readKnows_51 ?_
      have hz := find_r (F_X12_takesName (F_X12_next σ) 20 (σ 3 0)) 28 (σ 3 1) (by omega)
      refine zRx.iload_n 2 rfl rfl dX12_readKnows_52 ?_
      refine zRx.if_lt (tgt := 72) dX12_readKnows_53 (by decide) (fun c53 => ?_) (fun c53 => ?_)
      · refine zRx.aload_n 0 rfl rfl dX12_readKnows_72 ?_
        refine zRx.iconst ⟨by decide, by decide⟩ dX12_readKnows_73 ?_
        refine zRx.cVi (w := .inl 0) (M := m_X12_bad) (av := [.inl 3]) cv_12_248 mk_X12_bad (by decide) (b := 0) rfl rfl (Nat.le_of_ble_eq_true rfl) dX12_readKnows_74 (bad_eq2 (F_X12_takesName (F_X12_next σ) 20 (σ 3 0)) 3 ((F_X12_takesName (F_X12_next σ) 20 (σ 3 0)) 0 12) rfl) ?_
        exact zR.zret rfl ⟨by decide, by decide⟩ dX12_readKnows_77 ⟨by unfold V_X12_readKnows; rw [if_neg c16, if_neg c30, if_pos c53], by unfold F_X12_readKnows; rw [if_neg c16, if_neg c30, if_pos c53]⟩
      · refine zRx.aload_n 0 rfl rfl dX12_readKnows_56 ?_
        refine zRx.getR (a := 0) (b := 3) fl_12_37 rfl rfl dX12_readKnows_57 ?_
        refine zRx.bipush ⟨by decide, by decide⟩ rfl dX12_readKnows_60 ?_
        refine zRx.iload_n 1 rfl rfl dX12_readKnows_62 ?_
        refine zRx.iadd ⟨by omega, by omega⟩ dX12_readKnows_63 ?_
        refine zRx.ialdv (v := σ 3 (44 + ((F_X12_takesName (F_X12_next σ) 20 (σ 3 0)) 0 18))) ((congrFun (fr_F_X12_takesName (F_X12_next σ) 20 (σ 3 0) (k := 3) (by decide)) _).trans (congrFun (fr_F_X12_next σ (k := 3) (by decide)) _)) rfl (by omega) (by omega) dX12_readKnows_64 ?_
        refine zRx.iload_n 2 rfl rfl dX12_readKnows_65 ?_
        refine zRx.cSi (w := .inl (b2 (hb (σ 3 (44 + ((F_X12_takesName (F_X12_next σ) 20 (σ 3 0)) 0 18))) (R_X12_find (F_X12_takesName (F_X12_next σ) 20 (σ 3 0)) 28 (σ 3 1))))) (M := m_X12_has) (av := [.inl (σ 3 (44 + ((F_X12_takesName (F_X12_next σ) 20 (σ 3 0)) 0 18))), .inl (R_X12_find (F_X12_takesName (F_X12_next σ) 20 (σ 3 0)) 28 (σ 3 1))]) cs_12_272 mk_X12_has (by decide) rfl (Nat.le_of_ble_eq_true rfl) dX12_readKnows_66 (does_X12_has (σ 3 (44 + ((F_X12_takesName (F_X12_next σ) 20 (σ 3 0)) 0 18))) (R_X12_find (F_X12_takesName (F_X12_next σ) 20 (σ 3 0)) 28 (σ 3 1)) SM (F_X12_takesName (F_X12_next σ) 20 (σ 3 0))) ?_
        refine zRx.if_eqB (tgt := 78) dX12_readKnows_69 (by decide) (fun c69 => ?_) (fun c69 => ?_)
        · refine zRx.aload_n 0 rfl rfl dX12_readKnows_78 ?_
          refine zRx.getR (a := 0) (b := 3) fl_12_37 rfl rfl dX12_readKnows_79 ?_
          refine zRx.bipush ⟨by decide, by decide⟩ rfl dX12_readKnows_82 ?_
          refine zRx.iload_n 1 rfl rfl dX12_readKnows_84 ?_
          refine zRx.iadd ⟨by omega, by omega⟩ dX12_readKnows_85 ?_
          refine zRx.aload_n 0 rfl rfl dX12_readKnows_86 ?_
          refine zRx.getR (a := 0) (b := 3) fl_12_37 rfl rfl dX12_readKnows_87 ?_
          refine zRx.bipush ⟨by decide, by decide⟩ rfl dX12_readKnows_90 ?_
          refine zRx.iload_n 1 rfl rfl dX12_readKnows_92 ?_
          refine zRx.iadd ⟨by omega, by omega⟩ dX12_readKnows_93 ?_
          refine zRx.ialdv (v := σ 3 (44 + ((F_X12_takesName (F_X12_next σ) 20 (σ 3 0)) 0 18))) ((congrFun (fr_F_X12_takesName (F_X12_next σ) 20 (σ 3 0) (k := 3) (by decide)) _).trans (congrFun (fr_F_X12_next σ (k := 3) (by decide)) _)) rfl (by omega) (by omega) dX12_readKnows_94 ?_
          refine zRx.iconst ⟨by decide, by decide⟩ dX12_readKnows_95 ?_
          refine zRx.iload_n 2 rfl rfl dX12_readKnows_96 ?_
          refine zRx.ishl dX12_readKnows_97 ?_
          refine zRx.ior dX12_readKnows_98 ?_
          refine zRx.iast rfl (by omega) (by omega) dX12_readKnows_99 ?_
          refine zRx.aload_n 0 rfl rfl dX12_readKnows_100 ?_
          refine zRx.cVv (M := m_X12_next) (av := []) cv_12_251 mk_X12_next (by decide) (b := 0) rfl rfl (Nat.le_of_ble_eq_true rfl) dX12_readKnows_101 (does_next2 (zu (F_X12_takesName (F_X12_next σ) 20 (σ 3 0)) 3 (44 + ((F_X12_takesName (F_X12_next σ) 20 (σ 3 0)) 0 18)) (bor (σ 3 (44 + ((F_X12_takesName (F_X12_next σ) 20 (σ 3 0)) 0 18))) (bshl 1 (R_X12_find (F_X12_takesName (F_X12_next σ) 20 (σ 3 0)) 28 (σ 3 1))))) (PI_zu (fun h => absurd h.1 (by decide)) (PI_F_X12_takesName (PI_F_X12_next hI)))) ?_
          refine zRx.iconst ⟨by decide, by decide⟩ dX12_readKnows_104 ?_
          exact zR.zret rfl ⟨by decide, by decide⟩ dX12_readKnows_105 ⟨by unfold V_X12_readKnows; rw [if_neg c16, if_neg c30, if_neg (Int.not_lt.mpr c53), if_neg c69], by unfold F_X12_readKnows; rw [if_neg c16, if_neg c30, if_neg (Int.not_lt.mpr c53), if_neg c69]⟩
        · refine zRx.aload_n 0 rfl rfl dX12_readKnows_72 ?_
          refine zRx.iconst ⟨by decide, by decide⟩ dX12_readKnows_73 ?_
          refine zRx.cVi (w := .inl 0) (M := m_X12_bad) (av := [.inl 3]) cv_12_248 mk_X12_bad (by decide) (b := 0) rfl rfl (Nat.le_of_ble_eq_true rfl) dX12_readKnows_74 (bad_eq2 (F_X12_takesName (F_X12_next σ) 20 (σ 3 0)) 3 ((F_X12_takesName (F_X12_next σ) 20 (σ 3 0)) 0 12) rfl) ?_
          exact zR.zret rfl ⟨by decide, by decide⟩ dX12_readKnows_77 ⟨by unfold V_X12_readKnows; rw [if_neg c16, if_neg c30, if_neg (Int.not_lt.mpr c53), if_pos c69], by unfold F_X12_readKnows; rw [if_neg c16, if_neg c30, if_neg (Int.not_lt.mpr c53), if_pos c69]⟩
    · refine zRx.aload_n 0 rfl rfl dX12_readKnows_33 ?_
      refine zRx.iconst ⟨by decide, by decide⟩ dX12_readKnows_34 ?_
      refine zRx.cVi (w := .inl 0) (M := m_X12_bad) (av := [.inl 1]) cv_12_248 mk_X12_bad (by decide) (b := 0) rfl rfl (Nat.le_of_ble_eq_true rfl) dX12_readKnows_35 (bad_eq2 (F_X12_takesName (F_X12_next σ) 20 (σ 3 0)) 1 ((F_X12_takesName (F_X12_next σ) 20 (σ 3 0)) 0 12) rfl) ?_
      exact zR.zret rfl ⟨by decide, by decide⟩ dX12_readKnows_38 ⟨by unfold V_X12_readKnows; rw [if_neg c16, if_pos c30], by unfold F_X12_readKnows; rw [if_neg c16, if_pos c30]⟩
  · refine zRx.iconst ⟨by decide, by decide⟩ dX12_readKnows_19 ?_
    exact zR.zret rfl ⟨by decide, by decide⟩ dX12_readKnows_20 ⟨by unfold V_X12_readKnows; rw [if_pos c16], by unfold F_X12_readKnows; rw [if_pos c16]⟩

theorem PI_F_X12_readKnows {σ : zG}  (hI : PI σ) (hH : PH σ) : PI ((F_X12_readKnows σ )) := by
  unfold F_X12_readKnows
  repeat' split
  all_goals first | exact (PI_F_X12_takesName (PI_F_X12_next hI)) | exact (PI_zu (by decide) (PI_zu (by decide) (PI_F_X12_takesName (PI_F_X12_next hI)))) | exact (PI_F_X12_next (PI_zu (fun h => absurd h.1 (by decide)) (PI_F_X12_takesName (PI_F_X12_next hI))))

theorem PH_F_X12_readKnows {σ : zG} (hH : PH σ) : PH (F_X12_readKnows σ) := by
  have hH0 := id hH
  unfold PH at hH0
  by_cases c1 : (V_X12_takesName (F_X12_next σ) 20 (σ 3 0)) = 0
  · unfold F_X12_readKnows
    rw [if_pos c1]
    exact (PH_F_X12_takesName (PH_F_X12_next hH))
  · by_cases c2 : (R_X12_isName (F_X12_takesName (F_X12_next σ) 20 (σ 3 0))) = 0
    · unfold F_X12_readKnows
      rw [if_neg c1, if_pos c2]
      have hg := takesName_got (F_X12_next σ) 20 (σ 3 0) (by omega) c1
      exact (PH_zu (Or.inl (by decide)) (PH_zu (Or.inl (by decide)) (PH_F_X12_takesName (PH_F_X12_next hH))))
    · by_cases c3 : (R_X12_find (F_X12_takesName (F_X12_next σ) 20 (σ 3 0)) 28 (σ 3 1)) < 0
      · unfold F_X12_readKnows
        rw [if_neg c1, if_neg c2, if_pos c3]
        have hg := takesName_got (F_X12_next σ) 20 (σ 3 0) (by omega) c1
        exact (PH_zu (Or.inl (by decide)) (PH_zu (Or.inl (by decide)) (PH_F_X12_takesName (PH_F_X12_next hH))))
      · by_cases c4 : hb (σ 3 (44 + ((F_X12_takesName (F_X12_next σ) 20 (σ 3 0)) 0 18))) (R_X12_find (F_X12_takesName (F_X12_next σ) 20 (σ 3 0)) 28 (σ 3 1))
        · unfold F_X12_readKnows
          rw [if_neg c1, if_neg c2, if_neg c3, if_pos c4]
          have hg := takesName_got (F_X12_next σ) 20 (σ 3 0) (by omega) c1
          exact (PH_zu (Or.inl (by decide)) (PH_zu (Or.inl (by decide)) (PH_F_X12_takesName (PH_F_X12_next hH))))
        · unfold F_X12_readKnows
          rw [if_neg c1, if_neg c2, if_neg c3, if_neg c4]
          have hg := takesName_got (F_X12_next σ) 20 (σ 3 0) (by omega) c1
          exact (PH_F_X12_next (PH_zu (Or.inr (by omega)) (PH_F_X12_takesName (PH_F_X12_next hH))))

theorem PM_F_X12_readKnows {σ : zG}   {p0 : Int} (hM : PM p0 σ) : PM p0 (F_X12_readKnows σ ) := by
  unfold F_X12_readKnows
  repeat' split
  all_goals first | exact (PM_F_X12_takesName (PM_F_X12_next hM)) | exact (PM_zu (by decide) (PM_zu (by decide) (PM_F_X12_takesName (PM_F_X12_next hM)))) | exact (PM_F_X12_next (PM_zu (fun h => absurd h.1 (by decide)) (PM_F_X12_takesName (PM_F_X12_next hM))))

theorem AD_F_X12_readKnows {σ : zG}   {p0 : Int} (hv : ¬ V_X12_readKnows σ  = 0) (hM : PM p0 σ) : AD p0 (F_X12_readKnows σ ) := by
  by_cases c1 : (V_X12_takesName (F_X12_next σ) 20 (σ 3 0)) = 0
  · unfold V_X12_readKnows at hv
    rw [if_pos c1] at hv
    exact absurd rfl hv
  · by_cases c2 : (R_X12_isName (F_X12_takesName (F_X12_next σ) 20 (σ 3 0))) = 0
    · unfold V_X12_readKnows at hv
      rw [if_neg c1, if_pos c2] at hv
      exact absurd rfl hv
    · by_cases c3 : (R_X12_find (F_X12_takesName (F_X12_next σ) 20 (σ 3 0)) 28 (σ 3 1)) < 0
      · unfold V_X12_readKnows at hv
        rw [if_neg c1, if_neg c2, if_pos c3] at hv
        exact absurd rfl hv
      · by_cases c4 : hb (σ 3 (44 + ((F_X12_takesName (F_X12_next σ) 20 (σ 3 0)) 0 18))) (R_X12_find (F_X12_takesName (F_X12_next σ) 20 (σ 3 0)) 28 (σ 3 1))
        · unfold V_X12_readKnows at hv
          rw [if_neg c1, if_neg c2, if_neg c3, if_pos c4] at hv
          exact absurd rfl hv
        · unfold V_X12_readKnows at hv
          rw [if_neg c1, if_neg c2, if_neg c3, if_neg c4] at hv
          unfold F_X12_readKnows
          rw [if_neg c1, if_neg c2, if_neg c3, if_neg c4]
          exact (AD_F_X12_next (PM_zu (fun h => absurd h.1 (by decide)) (PM_F_X12_takesName (PM_F_X12_next hM))))

def V_X12_readAsks (σ : zG)  : Int := if (V_X12_takesName (F_X12_next σ) 20 (σ 3 0)) = 0 then 0 else (if (R_X12_isName (F_X12_takesName (F_X12_next σ) 20 (σ 3 0))) = 0 then 0 else (if (R_X12_find (F_X12_takesName (F_X12_next σ) 20 (σ 3 0)) 28 (σ 3 1)) < 0 then 0 else (if (σ 3 ((76 + (12 * ((F_X12_takesName (F_X12_next σ) 20 (σ 3 0)) 0 18))) + (R_X12_find (F_X12_takesName (F_X12_next σ) 20 (σ 3 0)) 28 (σ 3 1)))) ≤ 0 then (if (V_X12_takes (F_X12_next (F_X12_takesName (F_X12_next σ) 20 (σ 3 0))) 0 99) = 0 then 0 else 1) else 0)))
def F_X12_readAsks (σ : zG)  : zG := if (V_X12_takesName (F_X12_next σ) 20 (σ 3 0)) = 0 then (F_X12_takesName (F_X12_next σ) 20 (σ 3 0)) else (if (R_X12_isName (F_X12_takesName (F_X12_next σ) 20 (σ 3 0))) = 0 then (zu (zu (F_X12_takesName (F_X12_next σ) 20 (σ 3 0)) 0 15 1) 0 16 ((F_X12_takesName (F_X12_next σ) 20 (σ 3 0)) 0 12)) else (if (R_X12_find (F_X12_takesName (F_X12_next σ) 20 (σ 3 0)) 28 (σ 3 1)) < 0 then (zu (zu (F_X12_takesName (F_X12_next σ) 20 (σ 3 0)) 0 15 3) 0 16 ((F_X12_takesName (F_X12_next σ) 20 (σ 3 0)) 0 12)) else (if (σ 3 ((76 + (12 * ((F_X12_takesName (F_X12_next σ) 20 (σ 3 0)) 0 18))) + (R_X12_find (F_X12_takesName (F_X12_next σ) 20 (σ 3 0)) 28 (σ 3 1)))) ≤ 0 then (if (V_X12_takes (F_X12_next (F_X12_takesName (F_X12_next σ) 20 (σ 3 0))) 0 99) = 0 then (F_X12_takes (F_X12_next (F_X12_takesName (F_X12_next σ) 20 (σ 3 0))) 0 99) else (zu (F_X12_takes (F_X12_next (F_X12_takesName (F_X12_next σ) 20 (σ 3 0))) 0 99) 3 ((76 + (12 * ((F_X12_takesName (F_X12_next σ) 20 (σ 3 0)) 0 18))) + (R_X12_find (F_X12_takesName (F_X12_next σ) 20 (σ 3 0)) 28 (σ 3 1))) (w32 (((F_X12_takes (F_X12_next (F_X12_takesName (F_X12_next σ) 20 (σ 3 0))) 0 99) 0 18) + 1)))) else (zu (zu (F_X12_takesName (F_X12_next σ) 20 (σ 3 0)) 0 15 3) 0 16 ((F_X12_takesName (F_X12_next σ) 20 (σ 3 0)) 0 12)))))
theorem fr_F_X12_readAsks (σ : zG)  {k : Nat} (h : k ∉ [0, 3]) : (F_X12_readAsks σ ) k = σ k := by
  have ne : ∀ c ∈ [0, 3], k ≠ c := fun c hc e => h (e ▸ hc)
  have nk_F_X12_takesName : k ∉ [0] := fun hm => h (by first | (revert hm; simp only [List.mem_cons, List.not_mem_nil, or_false]; omega) | (simp at hm))
  have nk_F_X12_next : k ∉ [0] := fun hm => h (by first | (revert hm; simp only [List.mem_cons, List.not_mem_nil, or_false]; omega) | (simp at hm))
  have nk_F_X12_takes : k ∉ [0] := fun hm => h (by first | (revert hm; simp only [List.mem_cons, List.not_mem_nil, or_false]; omega) | (simp at hm))
  unfold F_X12_readAsks
  repeat' split
  all_goals first | rfl | simp only [zu_row _ _ _ (ne 0 (by decide)), zu_row _ _ _ (ne 3 (by decide)), fr_F_X12_takesName (h := nk_F_X12_takesName), fr_F_X12_next (h := nk_F_X12_next), fr_F_X12_takes (h := nk_F_X12_takes)]

set_option maxRecDepth 20000 in
theorem does_X12_readAsks (σ : zG)  (hI : PI σ) (hH : PH σ) : zDo SM 3 m_X12_readAsks [zP 0] σ (zEq (some (.inl (V_X12_readAsks σ ))) (F_X12_readAsks σ )) := by
  refine zDo.intro mk_X12_readAsks (Nat.le_of_ble_eq_true rfl) ?_
  obtain ⟨hp, hf, hs⟩ := id hH
  refine zRx.aload_n 0 rfl rfl dX12_readAsks_0 ?_
  refine zRx.cVv (M := m_X12_next) (av := []) cv_12_251 mk_X12_next (by decide) (b := 0) rfl rfl (Nat.le_of_ble_eq_true rfl) dX12_readAsks_1 (does_next2 σ hI) ?_
  refine zRx.aload_n 0 rfl rfl dX12_readAsks_4 ?_
  refine zRx.bipush ⟨by decide, by decide⟩ rfl dX12_readAsks_5 ?_
  refine zRx.aload_n 0 rfl rfl dX12_readAsks_7 ?_
  refine zRx.getR (a := 0) (b := 3) fl_12_37 rfl rfl dX12_readAsks_8 ?_
  refine zRx.iconst ⟨by decide, by decide⟩ dX12_readAsks_11 ?_
  refine zRx.ialdv (v := σ 3 0) (congrFun (fr_F_X12_next σ (k := 3) (by decide)) _) rfl (by decide) (by decide) dX12_readAsks_12 ?_
  refine zRx.cVi (w := .inl (V_X12_takesName (F_X12_next σ) 20 (σ 3 0))) (M := m_X12_takesName) (av := [.inl 20, .inl (σ 3 0)]) cv_12_301 mk_X12_takesName (by decide) (b := 0) rfl rfl (Nat.le_of_ble_eq_true rfl) dX12_readAsks_13 (does_X12_takesName (F_X12_next σ) 20 (σ 3 0) (PI_F_X12_next hI) (by omega)) ?_
  refine zRx.if_ne (tgt := 21) dX12_readAsks_16 (by decide) (fun c16 => ?_) (fun c16 => ?_)
  · have hg := takesName_got (F_X12_next σ) 20 (σ 3 0) (by omega) c16
    refine zRx.aload_n 0 rfl rfl dX12_readAsks_21 ?_
    refine zRx.getIv (a := 0) (ji := 18) (v := (F_X12_takesName (F_X12_next σ) 20 (σ 3 0)) 0 18) rfl fl_12_258 rfl rfl rfl dX12_readAsks_22 ?_
    refine zRx.istore_n (ls' := [(0, zP 0), (1, .inl ((F_X12_takesName (F_X12_next σ) 20 (σ 3 0)) 0 18))]) rfl rfl (by decide) dX12_readAsks_25 ?_
    refine zRx.aload_n 0 rfl rfl dX12_readAsks_26 ?_
    refine zRx.cVi (w := .inl (R_X12_isName (F_X12_takesName (F_X12_next σ) 20 (σ 3 0)))) (M := m_X12_isName) (av := []) cv_12_261 mk_X12_isName (by decide) (b := 0) rfl rfl (Nat.le_of_ble_eq_true rfl) dX12_readAsks_27 (does_X12_isName (F_X12_takesName (F_X12_next σ) 20 (σ 3 0))) ?_
    refine zRx.if_ne (tgt := 39) dX12_readAsks_30 (by decide) (fun c30 => ?_) (fun c30 => ?_)
    · refine zRx.aload_n 0 rfl rfl dX12_readAsks_39 ?_
      refine zRx.bipush ⟨by decide, by decide⟩ rfl dX12_readAsks_40 ?_
      refine zRx.aload_n 0 rfl rfl dX12_readAsks_42 ?_
      refine zRx.getR (a := 0) (b := 3) fl_12_37 rfl rfl dX12_readAsks_43 ?_
      refine zRx.iconst ⟨by decide, by decide⟩ dX12_readAsks_46 ?_
      refine zRx.ialdv (v := σ 3 1) ((congrFun (fr_F_X12_takesName (F_X12_next σ) 20 (σ 3 0) (k := 3) (by decide)) _).trans (congrFun (fr_F_X12_next σ (k := 3) (by decide)) _)) rfl (by decide) (by decide) dX12_readAsks_47 ?_
      refine zRx.cVi (w := .inl (R_X12_find (F_X12_takesName (F_X12_next σ) 20 (σ 3 0)) 28 (σ 3 1))) (M := m_X12_find) (av := [.inl 28, .inl (σ 3 1)]) cv_12_265 mk_X12_find (by decide) (b := 0) rfl rfl (Nat.le_of_ble_eq_true rfl) dX12_readAsks_48 (does_X12_find (F_X12_takesName (F_X12_next σ) 20 (σ 3 0)) 28 (σ 3 1) (by omega)) ?_
      refine zRx.istore_n (ls' := [(0, zP 0), (1, .inl ((F_X12_takesName (F_X12_next σ) 20 (σ 3 0)) 0 18)), (2, .inl (R_X12_find (F_X12_takesName (F_X12_next σ) 20 (σ 3 0)) 28 (σ 3 1)))]) rfl rfl (by decide) dX12_readAsks_51 ?_
      have hz := find_r (F_X12_takesName (F_X12_next σ) 20 (σ 3 0)) 28 (σ 3 1) (by omega)
      refine zRx.iload_n 2 rfl rfl dX12_readAsks_52 ?_
      refine zRx.if_lt (tgt := 73) dX12_readAsks_53 (by decide) (fun c53 => ?_) (fun c53 => ?_)
      · refine zRx.aload_n 0 rfl rfl dX12_readAsks_73 ?_
        refine zRx.iconst ⟨by decide, by decide⟩ dX12_readAsks_74 ?_
        refine zRx.cVi (w := .inl 0) (M := m_X12_bad) (av := [.inl 3]) cv_12_248 mk_X12_bad (by decide) (b := 0) rfl rfl (Nat.le_of_ble_eq_true rfl) dX12_readAsks_75 (bad_eq2 (F_X12_takesName (F_X12_next σ) 20 (σ 3 0)) 3 ((F_X12_takesName (F_X12_next σ) 20 (σ 3 0)) 0 12) rfl) ?_
        exact zR.zret rfl ⟨by decide, by decide⟩ dX12_readAsks_78 ⟨by unfold V_X12_readAsks; rw [if_neg c16, if_neg c30, if_pos c53], by unfold F_X12_readAsks; rw [if_neg c16, if_neg c30, if_pos c53]⟩
      · refine zRx.aload_n 0 rfl rfl dX12_readAsks_56 ?_
        refine zRx.getR (a := 0) (b := 3) fl_12_37 rfl rfl dX12_readAsks_57 ?_
        refine zRx.bipush ⟨by decide, by decide⟩ rfl dX12_readAsks_60 ?_
        refine zRx.bipush ⟨by decide, by decide⟩ rfl dX12_readAsks_62 ?_
        refine zRx.iload_n 1 rfl rfl dX12_readAsks_64 ?_
        refine zRx.imul ⟨by omega, by omega⟩ dX12_readAsks_65 ?_
        refine zRx.iadd ⟨by omega, by omega⟩ dX12_readAsks_66 ?_
        refine zRx.iload_n 2 rfl rfl dX12_readAsks_67 ?_
        refine zRx.iadd ⟨by omega, by omega⟩ dX12_readAsks_68 ?_
        refine zRx.ialdv (v := σ 3 ((76 + (12 * ((F_X12_takesName (F_X12_next σ) 20 (σ 3 0)) 0 18))) + (R_X12_find (F_X12_takesName (F_X12_next σ) 20 (σ 3 0)) 28 (σ 3 1)))) ((congrFun (fr_F_X12_takesName (F_X12_next σ) 20 (σ 3 0) (k := 3) (by decide)) _).trans (congrFun (fr_F_X12_next σ (k := 3) (by decide)) _)) rfl (by omega) (by omega) dX12_readAsks_69 ?_
        refine zRx.if_le (tgt := 79) dX12_readAsks_70 (by decide) (fun c70 => ?_) (fun c70 => ?_)
        · refine zRx.aload_n 0 rfl rfl dX12_readAsks_79 ?_
          refine zRx.cVv (M := m_X12_next) (av := []) cv_12_251 mk_X12_next (by decide) (b := 0) rfl rfl (Nat.le_of_ble_eq_true rfl) dX12_readAsks_80 (does_next2 (F_X12_takesName (F_X12_next σ) 20 (σ 3 0)) (PI_F_X12_takesName (PI_F_X12_next hI))) ?_
          refine zRx.aload_n 0 rfl rfl dX12_readAsks_83 ?_
          refine zRx.iconst ⟨by decide, by decide⟩ dX12_readAsks_84 ?_
          refine zRx.bipush ⟨by decide, by decide⟩ rfl dX12_readAsks_85 ?_
          refine zRx.cVi (w := .inl (V_X12_takes (F_X12_next (F_X12_takesName (F_X12_next σ) 20 (σ 3 0))) 0 99)) (M := m_X12_takes) (av := [.inl 0, .inl 99]) cv_12_276 mk_X12_takes (by decide) (b := 0) rfl rfl (Nat.le_of_ble_eq_true rfl) dX12_readAsks_87 (does_X12_takes (F_X12_next (F_X12_takesName (F_X12_next σ) 20 (σ 3 0))) 0 99 (PI_F_X12_next (PI_F_X12_takesName (PI_F_X12_next hI)))) ?_
          refine zRx.if_ne (tgt := 95) dX12_readAsks_90 (by decide) (fun c90 => ?_) (fun c90 => ?_)
          · refine zRx.aload_n 0 rfl rfl dX12_readAsks_95 ?_
            refine zRx.getR (a := 0) (b := 3) fl_12_37 rfl rfl dX12_readAsks_96 ?_
            refine zRx.bipush ⟨by decide, by decide⟩ rfl dX12_readAsks_99 ?_
            refine zRx.bipush ⟨by decide, by decide⟩ rfl dX12_readAsks_101 ?_
            refine zRx.iload_n 1 rfl rfl dX12_readAsks_103 ?_
            refine zRx.imul ⟨by omega, by omega⟩ dX12_readAsks_104 ?_
            refine zRx.iadd ⟨by omega, by omega⟩ dX12_readAsks_105 ?_
            refine zRx.iload_n 2 rfl rfl dX12_readAsks_106 ?_
            refine zRx.iadd ⟨by omega, by omega⟩ dX12_readAsks_107 ?_
            refine zRx.aload_n 0 rfl rfl dX12_readAsks_108 ?_
            refine zRx.getIv (a := 0) (ji := 18) (v := (F_X12_takes (F_X12_next (F_X12_takesName (F_X12_next σ) 20 (σ 3 0))) 0 99) 0 18) rfl fl_12_258 rfl rfl rfl dX12_readAsks_109 ?_
            refine zRx.iconst ⟨by decide, by decide⟩ dX12_readAsks_112 ?_
            refine zRx.iaddW dX12_readAsks_113 ?_
            refine zRx.iast rfl (by omega) (by omega) dX12_readAsks_114 ?_
            refine zRx.iconst ⟨by decide, by decide⟩ dX12_readAsks_115 ?_
            exact zR.zret rfl ⟨by decide, by decide⟩ dX12_readAsks_116 ⟨by unfold V_X12_readAsks; rw [if_neg c16, if_neg c30, if_neg (Int.not_lt.mpr c53), if_pos c70, if_neg c90], by unfold F_X12_readAsks; rw [if_neg c16, if_neg c30, if_neg (Int.not_lt.mpr c53), if_pos c70, if_neg c90]⟩
          · refine zRx.iconst ⟨by decide, by decide⟩ dX12_readAsks_93 ?_
            exact zR.zret rfl ⟨by decide, by decide⟩ dX12_readAsks_94 ⟨by unfold V_X12_readAsks; rw [if_neg c16, if_neg c30, if_neg (Int.not_lt.mpr c53), if_pos c70, if_pos c90], by unfold F_X12_readAsks; rw [if_neg c16, if_neg c30, if_neg (Int.not_lt.mpr c53), if_pos c70, if_pos c90]⟩
        · refine zRx.aload_n 0 rfl rfl dX12_readAsks_73 ?_
          refine zRx.iconst ⟨by decide, by decide⟩ dX12_readAsks_74 ?_
          refine zRx.cVi (w := .inl 0) (M := m_X12_bad) (av := [.inl 3]) cv_12_248 mk_X12_bad (by decide) (b := 0) rfl rfl (Nat.le_of_ble_eq_true rfl) dX12_readAsks_75 (bad_eq2 (F_X12_takesName (F_X12_next σ) 20 (σ 3 0)) 3 ((F_X12_takesName (F_X12_next σ) 20 (σ 3 0)) 0 12) rfl) ?_
          exact zR.zret rfl ⟨by decide, by decide⟩ dX12_readAsks_78 ⟨by unfold V_X12_readAsks; rw [if_neg c16, if_neg c30, if_neg (Int.not_lt.mpr c53), if_neg (Int.not_le.mpr c70)], by unfold F_X12_readAsks; rw [if_neg c16, if_neg c30, if_neg (Int.not_lt.mpr c53), if_neg (Int.not_le.mpr c70)]⟩
    · refine zRx.aload_n 0 rfl rfl dX12_readAsks_33 ?_
      refine zRx.iconst ⟨by decide, by decide⟩ dX12_readAsks_34 ?_
      refine zRx.cVi (w := .inl 0) (M := m_X12_bad) (av := [.inl 1]) cv_12_248 mk_X12_bad (by decide) (b := 0) rfl rfl (Nat.le_of_ble_eq_true rfl) dX12_readAsks_35 (bad_eq2 (F_X12_takesName (F_X12_next σ) 20 (σ 3 0)) 1 ((F_X12_takesName (F_X12_next σ) 20 (σ 3 0)) 0 12) rfl) ?_
      exact zR.zret rfl ⟨by decide, by decide⟩ dX12_readAsks_38 ⟨by unfold V_X12_readAsks; rw [if_neg c16, if_pos c30], by unfold F_X12_readAsks; rw [if_neg c16, if_pos c30]⟩
  · refine zRx.iconst ⟨by decide, by decide⟩ dX12_readAsks_19 ?_
    exact zR.zret rfl ⟨by decide, by decide⟩ dX12_readAsks_20 ⟨by unfold V_X12_readAsks; rw [if_pos c16], by unfold F_X12_readAsks; rw [if_pos c16]⟩

theorem PI_F_X12_readAsks {σ : zG}  (hI : PI σ) (hH : PH σ) : PI ((F_X12_readAsks σ )) := by
  unfold F_X12_readAsks
  repeat' split
  all_goals first | exact (PI_F_X12_takesName (PI_F_X12_next hI)) | exact (PI_zu (by decide) (PI_zu (by decide) (PI_F_X12_takesName (PI_F_X12_next hI)))) | exact (PI_F_X12_takes (PI_F_X12_next (PI_F_X12_takesName (PI_F_X12_next hI)))) | exact (PI_zu (fun h => absurd h.1 (by decide)) (PI_F_X12_takes (PI_F_X12_next (PI_F_X12_takesName (PI_F_X12_next hI)))))

theorem PH_F_X12_readAsks {σ : zG} (hH : PH σ) : PH (F_X12_readAsks σ) := by
  have hH0 := id hH
  unfold PH at hH0
  by_cases c1 : (V_X12_takesName (F_X12_next σ) 20 (σ 3 0)) = 0
  · unfold F_X12_readAsks
    rw [if_pos c1]
    exact (PH_F_X12_takesName (PH_F_X12_next hH))
  · by_cases c2 : (R_X12_isName (F_X12_takesName (F_X12_next σ) 20 (σ 3 0))) = 0
    · unfold F_X12_readAsks
      rw [if_neg c1, if_pos c2]
      have hg := takesName_got (F_X12_next σ) 20 (σ 3 0) (by omega) c1
      exact (PH_zu (Or.inl (by decide)) (PH_zu (Or.inl (by decide)) (PH_F_X12_takesName (PH_F_X12_next hH))))
    · by_cases c3 : (R_X12_find (F_X12_takesName (F_X12_next σ) 20 (σ 3 0)) 28 (σ 3 1)) < 0
      · unfold F_X12_readAsks
        rw [if_neg c1, if_neg c2, if_pos c3]
        have hg := takesName_got (F_X12_next σ) 20 (σ 3 0) (by omega) c1
        exact (PH_zu (Or.inl (by decide)) (PH_zu (Or.inl (by decide)) (PH_F_X12_takesName (PH_F_X12_next hH))))
      · by_cases c4 : (σ 3 ((76 + (12 * ((F_X12_takesName (F_X12_next σ) 20 (σ 3 0)) 0 18))) + (R_X12_find (F_X12_takesName (F_X12_next σ) 20 (σ 3 0)) 28 (σ 3 1)))) ≤ 0
        · by_cases c5 : (V_X12_takes (F_X12_next (F_X12_takesName (F_X12_next σ) 20 (σ 3 0))) 0 99) = 0
          · unfold F_X12_readAsks
            rw [if_neg c1, if_neg c2, if_neg c3, if_pos c4, if_pos c5]
            have hg := takesName_got (F_X12_next σ) 20 (σ 3 0) (by omega) c1
            exact (PH_F_X12_takes (PH_F_X12_next (PH_F_X12_takesName (PH_F_X12_next hH))))
          · unfold F_X12_readAsks
            rw [if_neg c1, if_neg c2, if_neg c3, if_pos c4, if_neg c5]
            have hg := takesName_got (F_X12_next σ) 20 (σ 3 0) (by omega) c1
            exact (PH_zu (Or.inr (by omega)) (PH_F_X12_takes (PH_F_X12_next (PH_F_X12_takesName (PH_F_X12_next hH)))))
        · unfold F_X12_readAsks
          rw [if_neg c1, if_neg c2, if_neg c3, if_neg c4]
          have hg := takesName_got (F_X12_next σ) 20 (σ 3 0) (by omega) c1
          exact (PH_zu (Or.inl (by decide)) (PH_zu (Or.inl (by decide)) (PH_F_X12_takesName (PH_F_X12_next hH))))

theorem PM_F_X12_readAsks {σ : zG}   {p0 : Int} (hM : PM p0 σ) : PM p0 (F_X12_readAsks σ ) := by
  unfold F_X12_readAsks
  repeat' split
  all_goals first | exact (PM_F_X12_takesName (PM_F_X12_next hM)) | exact (PM_zu (by decide) (PM_zu (by decide) (PM_F_X12_takesName (PM_F_X12_next hM)))) | exact (PM_F_X12_takes (PM_F_X12_next (PM_F_X12_takesName (PM_F_X12_next hM)))) | exact (PM_zu (fun h => absurd h.1 (by decide)) (PM_F_X12_takes (PM_F_X12_next (PM_F_X12_takesName (PM_F_X12_next hM)))))

theorem AD_F_X12_readAsks {σ : zG}   {p0 : Int} (hv : ¬ V_X12_readAsks σ  = 0) (hM : PM p0 σ) : AD p0 (F_X12_readAsks σ ) := by
  by_cases c1 : (V_X12_takesName (F_X12_next σ) 20 (σ 3 0)) = 0
  · unfold V_X12_readAsks at hv
    rw [if_pos c1] at hv
    exact absurd rfl hv
  · by_cases c2 : (R_X12_isName (F_X12_takesName (F_X12_next σ) 20 (σ 3 0))) = 0
    · unfold V_X12_readAsks at hv
      rw [if_neg c1, if_pos c2] at hv
      exact absurd rfl hv
    · by_cases c3 : (R_X12_find (F_X12_takesName (F_X12_next σ) 20 (σ 3 0)) 28 (σ 3 1)) < 0
      · unfold V_X12_readAsks at hv
        rw [if_neg c1, if_neg c2, if_pos c3] at hv
        exact absurd rfl hv
      · by_cases c4 : (σ 3 ((76 + (12 * ((F_X12_takesName (F_X12_next σ) 20 (σ 3 0)) 0 18))) + (R_X12_find (F_X12_takesName (F_X12_next σ) 20 (σ 3 0)) 28 (σ 3 1)))) ≤ 0
        · by_cases c5 : (V_X12_takes (F_X12_next (F_X12_takesName (F_X12_next σ) 20 (σ 3 0))) 0 99) = 0
          · unfold V_X12_readAsks at hv
            rw [if_neg c1, if_neg c2, if_neg c3, if_pos c4, if_pos c5] at hv
            exact absurd rfl hv
          · unfold V_X12_readAsks at hv
            rw [if_neg c1, if_neg c2, if_neg c3, if_pos c4, if_neg c5] at hv
            unfold F_X12_readAsks
            rw [if_neg c1, if_neg c2, if_neg c3, if_pos c4, if_neg c5]
            exact (AD_zu (fun h => absurd h.1 (by decide)) (AD_F_X12_takes c5 (PM_F_X12_next (PM_F_X12_takesName (PM_F_X12_next hM)))))
        · unfold V_X12_readAsks at hv
          rw [if_neg c1, if_neg c2, if_neg c3, if_neg c4] at hv
          exact absurd rfl hv

