/-! the reference: sentence -/
theorem SV_write {σ : zG} {a b c : Int} (h : SV 2 σ) : SV 1 (F_X12_write σ a b c) := by
  unfold SV at *
  rw [write_c, kp_write _ _ _ _ _ (by decide), kp_write _ _ _ _ _ (by decide), fr_F_X12_write σ a b c (k := 37) (by decide)]
  refine ⟨by omega, h.2.1, by omega, h.2.2.2.1, h.2.2.2.2⟩
theorem SV_kp {k : Int} {σ τ : zG} (e : ∀ i : Int, i = 66 ∨ i = 67 ∨ i = 68 → τ 0 i = σ 0 i) (e3 : τ 37 = σ 37) (h : SV k σ) : SV k τ := SV_of (e 66 (Or.inl rfl)) (e 67 (Or.inr (Or.inl rfl))) (e 68 (Or.inr (Or.inr rfl))) e3 h
theorem KI_s {i : Int} (h : i = 66 ∨ i = 67 ∨ i = 68) : KI i := by
  unfold KI
  omega
theorem SV_next {k : Int} {σ : zG} (h : SV k σ) : SV k (F_X12_next σ) := SV_kp (fun i hi => kp_next σ i (KI_s hi)) (fr_F_X12_next σ (by decide)) h
theorem SV_takesName {k fm nn : Int} {σ : zG} (h : SV k σ) : SV k (F_X12_takesName σ fm nn) := SV_kp (fun i hi => kp_takesName σ fm nn i (KI_s hi)) (fr_F_X12_takesName σ fm nn (by decide)) h
def SG (p0 : Int) (k : Int) (v : Int) (σ : zG) : Prop := PI σ ∧ PM p0 σ ∧ (v ≠ 0 → SV k σ ∧ AD p0 σ)
theorem SG_bad {p0 k : Int} {σ : zG} {x y : Int} (hI : PI σ) (hM : PM p0 σ) : SG p0 k 0 (zu (zu σ 0 15 x) 0 16 y) := ⟨PI_zu (by decide) (PI_zu (by decide) hI), PM_zu (by decide) (PM_zu (by decide) hM), fun h => absurd rfl h⟩
theorem SG_wr {p0 a b c : Int} {σ : zG} (hI : PI σ) (hM : PM p0 σ) (hS : SV 2 σ) (hA : AD p0 σ) : SG p0 1 1 (R_X12_writeDown (F_X12_write σ a b c) 3) := ⟨PI_R_X12_writeDown (PI_F_X12_write hI), PM_R_X12_writeDown (PM_F_X12_write hM), fun _ => ⟨SV_wd (SV_write hS), AD_R_X12_writeDown (AD_F_X12_write hA)⟩⟩
theorem asks_K {p0 : Int} {σ : zG} {a : Int} (hI : PI σ) (hM : PM p0 σ) (hS : SV 2 σ) (hA : AD p0 σ) : SG p0 1 (V_X12_asks σ a) (F_X12_asks σ a) := by
  have n1 := PI_F_X12_next hI
  have n2 := PM_F_X12_next hM
  have m1 := PI_F_X12_takesName (fm := 8) (nn := σ 2 1) hI
  have m2 := PM_F_X12_takesName (fm := 8) (nn := σ 2 1) hM
  unfold V_X12_asks F_X12_asks
  by_cases c1 : a = 0
  · by_cases c2 : (V_X12_takesName σ 8 (σ 2 1)) = 0
    · simp only [if_pos c1, if_pos c2]
      exact ⟨m1, m2, fun h => absurd rfl h⟩
    · simp only [if_pos c1, if_neg c2]
      exact SG_wr m1 m2 (SV_takesName hS) (AD_F_X12_takesName c2 hM)
  · by_cases c2 : a ≤ 1
    · simp only [if_neg c1, if_pos c2]
      exact SG_wr hI hM hS hA
    · by_cases c3 : σ 0 11 = 3 ∧ σ 0 14 = 60
      · by_cases c4 : ((F_X12_next σ) 0 11) = 2
        · simp only [if_neg c1, if_neg c2, if_pos c3, if_pos c4]
          exact SG_wr (PI_F_X12_next n1) (PM_F_X12_next n2) (SV_next (SV_next hS)) (AD_F_X12_next n2)
        · simp only [if_neg c1, if_neg c2, if_pos c3, if_neg c4]
          exact SG_bad n1 n2
      · by_cases c4 : σ 0 11 = 3 ∧ σ 0 14 = 61
        · by_cases c5 : ((F_X12_next σ) 0 11) = 2
          · simp only [if_neg c1, if_neg c2, if_neg c3, if_pos c4, if_pos c5]
            exact SG_wr (PI_F_X12_next n1) (PM_F_X12_next n2) (SV_next (SV_next hS)) (AD_F_X12_next n2)
          · simp only [if_neg c1, if_neg c2, if_neg c3, if_pos c4, if_neg c5]
            exact SG_bad n1 n2
        · by_cases c5 : σ 0 11 = 3 ∧ σ 0 14 = 62
          · by_cases c6 : ((F_X12_next σ) 0 11) = 2
            · simp only [if_neg c1, if_neg c2, if_neg c3, if_neg c4, if_pos c5, if_pos c6]
              exact SG_wr (PI_F_X12_next n1) (PM_F_X12_next n2) (SV_next (SV_next hS)) (AD_F_X12_next n2)
            · simp only [if_neg c1, if_neg c2, if_neg c3, if_neg c4, if_pos c5, if_neg c6]
              exact SG_bad n1 n2
          · simp only [if_neg c1, if_neg c2, if_neg c3, if_neg c4, if_neg c5]
            exact SG_bad hI hM

theorem PV_push {t : Int → Int} {m x : Int} (h : PV t m) (hx : x = 7 ∨ x = 8 ∨ x = 9 ∨ x = 10) (h9 : x = 9 → m = 0 ∨ t (m - 1) = 10) (h8 : x = 8 → m = 0 ∨ t (m - 1) = 10 ∨ t (m - 1) = 9) : PV (fun j => if j = m then x else t j) (m + 1) := by
  intro j j0 j1
  by_cases e : j = m
  · subst e
    simp only [if_pos, if_neg (show ¬ j - 1 = j by omega)]
    exact ⟨hx, h9, h8⟩
  · have h1 := h j j0 (by omega)
    simp only [if_neg e, if_neg (show ¬ j - 1 = m by omega)]
    exact h1
theorem SV_push {k : Int} {σ : zG} {x : Int} (h : SV (k + 1) σ) (hx : x = 7 ∨ x = 8 ∨ x = 9 ∨ x = 10) (h9 : x = 9 → σ 0 67 = 0 ∨ σ 37 (σ 0 67 - 1) = 10) (h8 : x = 8 → σ 0 67 = 0 ∨ σ 37 (σ 0 67 - 1) = 10 ∨ σ 37 (σ 0 67 - 1) = 9) (ho : x = 7 ∨ x = 10 → opn (σ 37) (σ 0 67).toNat ≤ 7) : SV k (zu (zu σ 37 (σ 0 67) x) 0 67 (σ 0 67 + 1)) := by
  have e37 : zu (zu σ 37 (σ 0 67) x) 0 67 (σ 0 67 + 1) 37 = fun j => if j = σ 0 67 then x else σ 37 j := by
    rw [zu_row _ _ _ (by decide)]
    funext j
    exact zu_if _ _ _ _ _
  have h0 := h.1
  unfold SV
  rw [e37, zu_at, zu_off _ _ _ (by decide), zu_off _ _ _ (by decide), zu_ne _ _ _ _ (by decide), zu_ne _ _ _ _ (by decide)]
  have e1 : (σ 0 67 + 1).toNat = (σ 0 67).toNat + 1 := by omega
  have e2 : (((σ 0 67).toNat : Nat) : Int) = σ 0 67 := by omega
  refine ⟨by omega, h.2.1, by have := h.2.2.1; omega, PV_push h.2.2.2.1 hx h9 h8, ?_⟩
  rw [e1, opn, opn_put (σ 37) _ _ (fun j j0 j1 => if_neg (by omega)), e2, if_pos rfl]
  have := h.2.2.2.2
  split
  · next hq => have := ho hq; omega
  · omega
theorem SV_ones {k : Int} {σ : zG} (h : SV k σ) (h1 : σ 0 68 ≠ 20) : SV (k + 2) (zu σ 0 68 (σ 0 68 + 1)) := by
  unfold SV at *
  rw [zu_at, zu_off _ _ _ (by decide), zu_off _ _ _ (by decide), zu_row _ _ _ (by decide)]
  refine ⟨h.1, by omega, by omega, h.2.2.2.1, h.2.2.2.2⟩
theorem SV_w {k k' : Int} {σ : zG} (h : SV k σ) (hk : k' ≤ k) : SV k' σ := ⟨h.1, h.2.1, by have := h.2.2.1; omega, h.2.2.2⟩

theorem one_push {σ : zG} {x : Int} (hS : SV 0 σ) (c42 : ¬ σ 0 68 = 20) (c51 : ¬ R_X12_opened σ = 8) (hx : x = 7 ∨ x = 10) : SV 0 (zu (zu (F_X12_next (zu σ 0 68 (σ 0 68 + 1))) 37 (σ 0 67) x) 0 67 (σ 0 67 + 1)) := by
  have hm := SV_m hS
  have e7 : F_X12_next (zu σ 0 68 (σ 0 68 + 1)) 0 67 = σ 0 67 := (kp_next _ _ (by unfold KI; decide)).trans (zu_off _ _ _ (by decide))
  have e3 : F_X12_next (zu σ 0 68 (σ 0 68 + 1)) 37 = σ 37 := (fr_F_X12_next _ (by decide)).trans (zu_row _ _ _ (by decide))
  have h1 : SV 1 (F_X12_next (zu σ 0 68 (σ 0 68 + 1))) := SV_w (SV_next (SV_ones hS c42)) (by decide)
  rw [opened_eq σ hm.1.2 (by omega)] at c51
  have h2 := hS.2.2.2.2
  have h3 := SV_push (k := 0) (x := x) h1 (by omega) (fun h => by omega) (fun h => by omega) (fun _ => by rw [e7, e3]; omega)
  rw [e7] at h3
  exact h3

def L_X12_one_0  : Nat → zG → Int × zG
  | 0, σ => (0, σ)
  | n + 1, σ => if σ 0 11 = 1 ∧ σ 0 17 = 7237492 then (if (σ 0 68) = 20 then (0, zu (zu σ 0 15 4) 0 16 (σ 0 12)) else (if (R_X12_opened σ) = 8 then (0, zu (zu σ 0 15 4) 0 16 (σ 0 12)) else (if 0 ≤ (V_X12_atom σ) then (V_X12_asks (F_X12_next (zu σ 0 68 ((σ 0 68) + 1))) (V_X12_atom σ), F_X12_asks (F_X12_next (zu σ 0 68 ((σ 0 68) + 1))) (V_X12_atom σ)) else (L_X12_one_0  n  (zu (zu (F_X12_next (zu σ 0 68 ((σ 0 68) + 1))) 37 (σ 0 67) 7) 0 67 ((σ 0 67) + 1)))))) else (if 0 ≤ (V_X12_atom σ) then (if (σ 0 68) = 20 then (0, zu (zu σ 0 15 4) 0 16 (σ 0 12)) else (if (R_X12_opened σ) = 8 then (0, zu (zu σ 0 15 4) 0 16 (σ 0 12)) else (V_X12_asks (F_X12_next (zu σ 0 68 ((σ 0 68) + 1))) (V_X12_atom σ), F_X12_asks (F_X12_next (zu σ 0 68 ((σ 0 68) + 1))) (V_X12_atom σ)))) else (if σ 0 11 = 3 ∧ σ 0 14 = 40 then (if (σ 0 68) = 20 then (0, zu (zu σ 0 15 4) 0 16 (σ 0 12)) else (if (R_X12_opened σ) = 8 then (0, zu (zu σ 0 15 4) 0 16 (σ 0 12)) else (L_X12_one_0  n  (zu (zu (F_X12_next (zu σ 0 68 ((σ 0 68) + 1))) 37 (σ 0 67) 10) 0 67 ((σ 0 67) + 1))))) else (0, zu (zu σ 0 15 1) 0 16 (σ 0 12))))
theorem fr_L_X12_one_0   (n : Nat) (σ : zG) {k : Nat} (h : k ∉ [0, 36, 37]) : (L_X12_one_0  n  σ).2 k = σ k := by
  induction n generalizing  σ with
  | zero => rfl
  | succ n ih =>
    have ne : ∀ c ∈ [0, 36, 37], k ≠ c := fun c hc e => h (e ▸ hc)
    have nk_F_X12_asks : k ∉ [0, 36] := fun hm => h (by first | (revert hm; simp only [List.mem_cons, List.not_mem_nil, or_false]; omega) | (simp at hm))
    have nk_F_X12_next : k ∉ [0] := fun hm => h (by first | (revert hm; simp only [List.mem_cons, List.not_mem_nil, or_false]; omega) | (simp at hm))
    rw [L_X12_one_0]
    repeat' split
    all_goals first | rfl | simp only [zu_row _ _ _ (ne 0 (by decide)), zu_row _ _ _ (ne 36 (by decide)), zu_row _ _ _ (ne 37 (by decide)), fr_F_X12_asks (h := nk_F_X12_asks), fr_F_X12_next (h := nk_F_X12_next), ih]

set_option maxRecDepth 20000 in
theorem loop_X12_one_0   : ∀ (n : Nat) (σ : zG), PI σ → SV 0 σ → 0 ≤ σ 2 1 ∧ σ 2 1 ≤ 12 → (20 - σ 0 68).toNat < n → zR SM 4 m_X12_one 0 [(0, zP 0)] [] σ (zEq (some (.inl (L_X12_one_0  n  σ).1)) (L_X12_one_0  n  σ).2) := by
  intro n
  induction n with
  | zero => intro  σ hI hS hF hmz; exact absurd hmz (Nat.not_lt_zero _)
  | succ n ih =>
    intro  σ hI hS hF hmz
    refine zRx.aload_n 0 rfl rfl dX12_one_0 ?_
    refine zRx.ldc2 ⟨by decide, by decide⟩ kl_12_193 dX12_one_1 ?_
    refine zRx.cVi (w := .inl (b2 (σ 0 11 = 1 ∧ σ 0 17 = 7237492))) (M := m_X12_isWord) (av := [zJ 7237492]) cv_12_279 mk_X12_isWord (by decide) (b := 0) rfl rfl (Nat.le_of_ble_eq_true rfl) dX12_one_4 (isWord2 σ 7237492 (σ 0 11) (σ 0 17) rfl rfl) ?_
    refine zRx.istore_n (ls' := [(0, zP 0), (1, .inl (b2 (σ 0 11 = 1 ∧ σ 0 17 = 7237492)))]) rfl rfl (by decide) dX12_one_7 ?_
    refine zRx.aload_n 0 rfl rfl dX12_one_8 ?_
    refine zRx.cVi (w := .inl (V_X12_atom σ)) (M := m_X12_atom) (av := []) cv_12_487 mk_X12_atom (by decide) (b := 0) rfl rfl (Nat.le_of_ble_eq_true rfl) dX12_one_9 (does_X12_atom σ) ?_
    refine zRx.istore_n (ls' := [(0, zP 0), (1, .inl (b2 (σ 0 11 = 1 ∧ σ 0 17 = 7237492))), (2, .inl (V_X12_atom σ))]) rfl rfl (by decide) dX12_one_12 ?_
    refine zRx.iload_n 1 rfl rfl dX12_one_13 ?_
    refine zRx.if_neB (tgt := 36) dX12_one_14 (by decide) (fun c14 => ?_) (fun c14 => ?_)
    · have hm := SV_m hS
      have h20 := hS.2.1
      refine zRx.aload_n 0 rfl rfl dX12_one_36 ?_
      refine zRx.getIv (a := 0) (ji := 68) (v := σ 0 68) rfl fl_12_490 rfl rfl rfl dX12_one_37 ?_
      refine zRx.bipush ⟨by decide, by decide⟩ rfl dX12_one_40 ?_
      refine zRx.icmp_eq (tgt := 54) dX12_one_42 (by decide) (fun c42 => ?_) (fun c42 => ?_)
      · refine zRx.aload_n 0 rfl rfl dX12_one_54 ?_
        refine zRx.iconst ⟨by decide, by decide⟩ dX12_one_55 ?_
        refine zRx.cVi (w := .inl 0) (M := m_X12_bad) (av := [.inl 4]) cv_12_248 mk_X12_bad (by decide) (b := 0) rfl rfl (Nat.le_of_ble_eq_true rfl) dX12_one_56 (bad_eq2 σ 4 (σ 0 12) rfl) ?_
        exact zR.zret rfl ⟨by decide, by decide⟩ dX12_one_59 (by have he : L_X12_one_0  (n + 1)  σ = (0, zu (zu σ 0 15 4) 0 16 (σ 0 12)) := (by rw [L_X12_one_0, if_pos c14, if_pos c42]); rw [he]; exact ⟨rfl, rfl⟩)
      · refine zRx.aload_n 0 rfl rfl dX12_one_45 ?_
        refine zRx.cVi (w := .inl (R_X12_opened σ)) (M := m_X12_opened) (av := []) cv_12_493 mk_X12_opened (by decide) (b := 0) rfl rfl (Nat.le_of_ble_eq_true rfl) dX12_one_46 (does_X12_opened σ (by have := SV_m hS; omega)) ?_
        refine zRx.bipush ⟨by decide, by decide⟩ rfl dX12_one_49 ?_
        refine zRx.icmp_ne (tgt := 60) dX12_one_51 (by decide) (fun c51 => ?_) (fun c51 => ?_)
        · refine zRx.aload_n 0 rfl rfl dX12_one_60 ?_
          refine zRx.dup rfl dX12_one_61 ?_
          refine zRx.getIv (a := 0) (ji := 68) (v := σ 0 68) rfl fl_12_490 rfl rfl rfl dX12_one_62 ?_
          refine zRx.iconst ⟨by decide, by decide⟩ dX12_one_65 ?_
          refine zRx.iadd ⟨by omega, by omega⟩ dX12_one_66 ?_
          refine zRx.putI (a := 0) (ji := 68) pl_12_490 rfl rfl rfl dX12_one_67 ?_
          refine zRx.aload_n 0 rfl rfl dX12_one_70 ?_
          refine zRx.cVv (M := m_X12_next) (av := []) cv_12_251 mk_X12_next (by decide) (b := 0) rfl rfl (Nat.le_of_ble_eq_true rfl) dX12_one_71 (does_next2 (zu σ 0 68 ((σ 0 68) + 1)) (PI_zu (by decide) hI)) ?_
          refine zRx.iload_n 2 rfl rfl dX12_one_74 ?_
          refine zRx.if_ge (tgt := 111) dX12_one_75 (by decide) (fun c75 => ?_) (fun c75 => ?_)
          · refine zRx.aload_n 0 rfl rfl dX12_one_111 ?_
            refine zRx.iload_n 2 rfl rfl dX12_one_112 ?_
            refine zRx.cVi (w := .inl (V_X12_asks (F_X12_next (zu σ 0 68 ((σ 0 68) + 1))) (V_X12_atom σ))) (M := m_X12_asks) (av := [.inl (V_X12_atom σ)]) cv_12_496 mk_X12_asks (by decide) (b := 0) rfl rfl (Nat.le_of_ble_eq_true rfl) dX12_one_113 (does_X12_asks (F_X12_next (zu σ 0 68 ((σ 0 68) + 1))) (V_X12_atom σ) (PI_F_X12_next (PI_zu (by decide) hI)) (SV_next (SV_ones hS c42)) (by have e9 : (F_X12_next (zu σ 0 68 ((σ 0 68) + 1))) 2 1 = σ 2 1 := ((congrFun (fr_F_X12_next (zu σ 0 68 ((σ 0 68) + 1)) (k := 2) (by decide)) _).trans (zu_ne _ _ _ _ (by decide))); omega)) ?_
            exact zR.zret rfl (v01_X12_asks _ _) dX12_one_116 (by have he : L_X12_one_0  (n + 1)  σ = (V_X12_asks (F_X12_next (zu σ 0 68 ((σ 0 68) + 1))) (V_X12_atom σ), F_X12_asks (F_X12_next (zu σ 0 68 ((σ 0 68) + 1))) (V_X12_atom σ)) := (by rw [L_X12_one_0, if_pos c14, if_neg c42, if_neg c51, if_pos c75]); rw [he]; exact ⟨rfl, rfl⟩)
          · refine zRx.aload_n 0 rfl rfl dX12_one_78 ?_
            refine zRx.getR (a := 0) (b := 37) fl_12_141 rfl rfl dX12_one_79 ?_
            refine zRx.aload_n 0 rfl rfl dX12_one_82 ?_
            refine zRx.getIv (a := 0) (ji := 67) (v := σ 0 67) ((kp_next _ 67 (by unfold KI; decide)).trans (zu_off _ _ _ (by decide))) fl_12_469 rfl rfl rfl dX12_one_83 ?_
            refine zRx.iload_n 1 rfl rfl dX12_one_86 ?_
            refine zRx.if_eqB (tgt := 95) dX12_one_87 (by decide) (fun c87 => absurd c14 c87) (fun c87 => ?_)
            refine zRx.bipush ⟨by decide, by decide⟩ rfl dX12_one_90 ?_
            refine zRx.goto (tgt := 97) dX12_one_92 (by decide) ?_
            refine zRx.iast rfl (by omega) (by omega) dX12_one_97 ?_
            refine zRx.aload_n 0 rfl rfl dX12_one_98 ?_
            refine zRx.dup rfl dX12_one_99 ?_
            refine zRx.getIv (a := 0) (ji := 67) (v := σ 0 67) ((zu_ne _ _ _ _ (by decide)).trans ((kp_next _ 67 (by unfold KI; decide)).trans (zu_off _ _ _ (by decide)))) fl_12_469 rfl rfl rfl dX12_one_100 ?_
            refine zRx.iconst ⟨by decide, by decide⟩ dX12_one_103 ?_
            refine zRx.iadd ⟨by omega, by omega⟩ dX12_one_104 ?_
            refine zRx.putI (a := 0) (ji := 67) pl_12_469 rfl rfl rfl dX12_one_105 ?_
            refine zRx.goto (tgt := 0) dX12_one_108 (by decide) ?_
            refine zRx.pick [0] (ls' := [(0, zP 0)]) rfl ?_
            have he : L_X12_one_0  (n + 1)  σ = L_X12_one_0  n  (zu (zu (F_X12_next (zu σ 0 68 ((σ 0 68) + 1))) 37 (σ 0 67) 7) 0 67 ((σ 0 67) + 1)) := by rw [L_X12_one_0, if_pos c14, if_neg c42, if_neg c51, if_neg (Int.not_le.mpr c75)]
            rw [he]
            exact ih  (zu (zu (F_X12_next (zu σ 0 68 ((σ 0 68) + 1))) 37 (σ 0 67) 7) 0 67 ((σ 0 67) + 1)) (PI_zu (by decide) (PI_zu (fun h => absurd h.1 (by decide)) (PI_F_X12_next (PI_zu (by decide) hI)))) (one_push hS c42 c51 (Or.inl rfl)) (by have e9 : (zu (zu (F_X12_next (zu σ 0 68 ((σ 0 68) + 1))) 37 (σ 0 67) 7) 0 67 ((σ 0 67) + 1)) 2 1 = σ 2 1 := ((zu_ne _ _ _ _ (by decide)).trans ((zu_ne _ _ _ _ (by decide)).trans ((congrFun (fr_F_X12_next (zu σ 0 68 ((σ 0 68) + 1)) (k := 2) (by decide)) _).trans (zu_ne _ _ _ _ (by decide))))); omega) (by rw [zu_off _ _ _ (by decide), zu_ne _ _ _ _ (by decide), kp_next _ _ (by unfold KI; decide), zu_at]; have := hS.2.1; omega)
        · refine zRx.aload_n 0 rfl rfl dX12_one_54 ?_
          refine zRx.iconst ⟨by decide, by decide⟩ dX12_one_55 ?_
          refine zRx.cVi (w := .inl 0) (M := m_X12_bad) (av := [.inl 4]) cv_12_248 mk_X12_bad (by decide) (b := 0) rfl rfl (Nat.le_of_ble_eq_true rfl) dX12_one_56 (bad_eq2 σ 4 (σ 0 12) rfl) ?_
          exact zR.zret rfl ⟨by decide, by decide⟩ dX12_one_59 (by have he : L_X12_one_0  (n + 1)  σ = (0, zu (zu σ 0 15 4) 0 16 (σ 0 12)) := (by rw [L_X12_one_0, if_pos c14, if_neg c42, if_pos c51]); rw [he]; exact ⟨rfl, rfl⟩)
    · refine zRx.iload_n 2 rfl rfl dX12_one_17 ?_
      refine zRx.if_ge (tgt := 36) dX12_one_18 (by decide) (fun c18 => ?_) (fun c18 => ?_)
      · have hm := SV_m hS
        have h20 := hS.2.1
        refine zRx.aload_n 0 rfl rfl dX12_one_36 ?_
        refine zRx.getIv (a := 0) (ji := 68) (v := σ 0 68) rfl fl_12_490 rfl rfl rfl dX12_one_37 ?_
        refine zRx.bipush ⟨by decide, by decide⟩ rfl dX12_one_40 ?_
        refine zRx.icmp_eq (tgt := 54) dX12_one_42 (by decide) (fun c42 => ?_) (fun c42 => ?_)
        · refine zRx.aload_n 0 rfl rfl dX12_one_54 ?_
          refine zRx.iconst ⟨by decide, by decide⟩ dX12_one_55 ?_
          refine zRx.cVi (w := .inl 0) (M := m_X12_bad) (av := [.inl 4]) cv_12_248 mk_X12_bad (by decide) (b := 0) rfl rfl (Nat.le_of_ble_eq_true rfl) dX12_one_56 (bad_eq2 σ 4 (σ 0 12) rfl) ?_
          exact zR.zret rfl ⟨by decide, by decide⟩ dX12_one_59 (by have he : L_X12_one_0  (n + 1)  σ = (0, zu (zu σ 0 15 4) 0 16 (σ 0 12)) := (by rw [L_X12_one_0, if_neg c14, if_pos c18, if_pos c42]); rw [he]; exact ⟨rfl, rfl⟩)
        · refine zRx.aload_n 0 rfl rfl dX12_one_45 ?_
          refine zRx.cVi (w := .inl (R_X12_opened σ)) (M := m_X12_opened) (av := []) cv_12_493 mk_X12_opened (by decide) (b := 0) rfl rfl (Nat.le_of_ble_eq_true rfl) dX12_one_46 (does_X12_opened σ (by have := SV_m hS; omega)) ?_
          refine zRx.bipush ⟨by decide, by decide⟩ rfl dX12_one_49 ?_
          refine zRx.icmp_ne (tgt := 60) dX12_one_51 (by decide) (fun c51 => ?_) (fun c51 => ?_)
          · refine zRx.aload_n 0 rfl rfl dX12_one_60 ?_
            refine zRx.dup rfl dX12_one_61 ?_
            refine zRx.getIv (a := 0) (ji := 68) (v := σ 0 68) rfl fl_12_490 rfl rfl rfl dX12_one_62 ?_
            refine zRx.iconst ⟨by decide, by decide⟩ dX12_one_65 ?_
            refine zRx.iadd ⟨by omega, by omega⟩ dX12_one_66 ?_
            refine zRx.putI (a := 0) (ji := 68) pl_12_490 rfl rfl rfl dX12_one_67 ?_
            refine zRx.aload_n 0 rfl rfl dX12_one_70 ?_
            refine zRx.cVv (M := m_X12_next) (av := []) cv_12_251 mk_X12_next (by decide) (b := 0) rfl rfl (Nat.le_of_ble_eq_true rfl) dX12_one_71 (does_next2 (zu σ 0 68 ((σ 0 68) + 1)) (PI_zu (by decide) hI)) ?_
            refine zRx.iload_n 2 rfl rfl dX12_one_74 ?_
            refine zRx.if_ge (tgt := 111) dX12_one_75 (by decide) (fun c75 => ?_) (fun c75 => absurd c18 (Int.not_le.mpr c75))
            refine zRx.aload_n 0 rfl rfl dX12_one_111 ?_
            refine zRx.iload_n 2 rfl rfl dX12_one_112 ?_
            refine zRx.cVi (w := .inl (V_X12_asks (F_X12_next (zu σ 0 68 ((σ 0 68) + 1))) (V_X12_atom σ))) (M := m_X12_asks) (av := [.inl (V_X12_atom σ)]) cv_12_496 mk_X12_asks (by decide) (b := 0) rfl rfl (Nat.le_of_ble_eq_true rfl) dX12_one_113 (does_X12_asks (F_X12_next (zu σ 0 68 ((σ 0 68) + 1))) (V_X12_atom σ) (PI_F_X12_next (PI_zu (by decide) hI)) (SV_next (SV_ones hS c42)) (by have e9 : (F_X12_next (zu σ 0 68 ((σ 0 68) + 1))) 2 1 = σ 2 1 := ((congrFun (fr_F_X12_next (zu σ 0 68 ((σ 0 68) + 1)) (k := 2) (by decide)) _).trans (zu_ne _ _ _ _ (by decide))); omega)) ?_
            exact zR.zret rfl (v01_X12_asks _ _) dX12_one_116 (by have he : L_X12_one_0  (n + 1)  σ = (V_X12_asks (F_X12_next (zu σ 0 68 ((σ 0 68) + 1))) (V_X12_atom σ), F_X12_asks (F_X12_next (zu σ 0 68 ((σ 0 68) + 1))) (V_X12_atom σ)) := (by rw [L_X12_one_0, if_neg c14, if_pos c18, if_neg c42, if_neg c51]); rw [he]; exact ⟨rfl, rfl⟩)
          · refine zRx.aload_n 0 rfl rfl dX12_one_54 ?_
            refine zRx.iconst ⟨by decide, by decide⟩ dX12_one_55 ?_
            refine zRx.cVi (w := .inl 0) (M := m_X12_bad) (av := [.inl 4]) cv_12_248 mk_X12_bad (by decide) (b := 0) rfl rfl (Nat.le_of_ble_eq_true rfl) dX12_one_56 (bad_eq2 σ 4 (σ 0 12) rfl) ?_
            exact zR.zret rfl ⟨by decide, by decide⟩ dX12_one_59 (by have he : L_X12_one_0  (n + 1)  σ = (0, zu (zu σ 0 15 4) 0 16 (σ 0 12)) := (by rw [L_X12_one_0, if_neg c14, if_pos c18, if_neg c42, if_pos c51]); rw [he]; exact ⟨rfl, rfl⟩)
      · refine zRx.aload_n 0 rfl rfl dX12_one_21 ?_
        refine zRx.bipush ⟨by decide, by decide⟩ rfl dX12_one_22 ?_
        refine zRx.cVi (w := .inl (b2 (σ 0 11 = 3 ∧ σ 0 14 = 40))) (M := m_X12_isSign) (av := [.inl 40]) cv_12_245 mk_X12_isSign (by decide) (b := 0) rfl rfl (Nat.le_of_ble_eq_true rfl) dX12_one_24 (isSign2 σ 40 (σ 0 11) (σ 0 14) rfl rfl) ?_
        refine zRx.if_neB (tgt := 36) dX12_one_27 (by decide) (fun c27 => ?_) (fun c27 => ?_)
        · have hm := SV_m hS
          have h20 := hS.2.1
          refine zRx.aload_n 0 rfl rfl dX12_one_36 ?_
          refine zRx.getIv (a := 0) (ji := 68) (v := σ 0 68) rfl fl_12_490 rfl rfl rfl dX12_one_37 ?_
          refine zRx.bipush ⟨by decide, by decide⟩ rfl dX12_one_40 ?_
          refine zRx.icmp_eq (tgt := 54) dX12_one_42 (by decide) (fun c42 => ?_) (fun c42 => ?_)
          · refine zRx.aload_n 0 rfl rfl dX12_one_54 ?_
            refine zRx.iconst ⟨by decide, by decide⟩ dX12_one_55 ?_
            refine zRx.cVi (w := .inl 0) (M := m_X12_bad) (av := [.inl 4]) cv_12_248 mk_X12_bad (by decide) (b := 0) rfl rfl (Nat.le_of_ble_eq_true rfl) dX12_one_56 (bad_eq2 σ 4 (σ 0 12) rfl) ?_
            exact zR.zret rfl ⟨by decide, by decide⟩ dX12_one_59 (by have he : L_X12_one_0  (n + 1)  σ = (0, zu (zu σ 0 15 4) 0 16 (σ 0 12)) := (by rw [L_X12_one_0, if_neg c14, if_neg (Int.not_le.mpr c18), if_pos c27, if_pos c42]); rw [he]; exact ⟨rfl, rfl⟩)
          · refine zRx.aload_n 0 rfl rfl dX12_one_45 ?_
            refine zRx.cVi (w := .inl (R_X12_opened σ)) (M := m_X12_opened) (av := []) cv_12_493 mk_X12_opened (by decide) (b := 0) rfl rfl (Nat.le_of_ble_eq_true rfl) dX12_one_46 (does_X12_opened σ (by have := SV_m hS; omega)) ?_
            refine zRx.bipush ⟨by decide, by decide⟩ rfl dX12_one_49 ?_
            refine zRx.icmp_ne (tgt := 60) dX12_one_51 (by decide) (fun c51 => ?_) (fun c51 => ?_)
            · refine zRx.aload_n 0 rfl rfl dX12_one_60 ?_
              refine zRx.dup rfl dX12_one_61 ?_
              refine zRx.getIv (a := 0) (ji := 68) (v := σ 0 68) rfl fl_12_490 rfl rfl rfl dX12_one_62 ?_
              refine zRx.iconst ⟨by decide, by decide⟩ dX12_one_65 ?_
              refine zRx.iadd ⟨by omega, by omega⟩ dX12_one_66 ?_
              refine zRx.putI (a := 0) (ji := 68) pl_12_490 rfl rfl rfl dX12_one_67 ?_
              refine zRx.aload_n 0 rfl rfl dX12_one_70 ?_
              refine zRx.cVv (M := m_X12_next) (av := []) cv_12_251 mk_X12_next (by decide) (b := 0) rfl rfl (Nat.le_of_ble_eq_true rfl) dX12_one_71 (does_next2 (zu σ 0 68 ((σ 0 68) + 1)) (PI_zu (by decide) hI)) ?_
              refine zRx.iload_n 2 rfl rfl dX12_one_74 ?_
              refine zRx.if_ge (tgt := 111) dX12_one_75 (by decide) (fun c75 => absurd c75 (Int.not_le.mpr c18)) (fun c75 => ?_)
              refine zRx.aload_n 0 rfl rfl dX12_one_78 ?_
              refine zRx.getR (a := 0) (b := 37) fl_12_141 rfl rfl dX12_one_79 ?_
              refine zRx.aload_n 0 rfl rfl dX12_one_82 ?_
              refine zRx.getIv (a := 0) (ji := 67) (v := σ 0 67) ((kp_next _ 67 (by unfold KI; decide)).trans (zu_off _ _ _ (by decide))) fl_12_469 rfl rfl rfl dX12_one_83 ?_
              refine zRx.iload_n 1 rfl rfl dX12_one_86 ?_
              refine zRx.if_eqB (tgt := 95) dX12_one_87 (by decide) (fun c87 => ?_) (fun c87 => absurd c87 c14)
              refine zRx.bipush ⟨by decide, by decide⟩ rfl dX12_one_95 ?_
              refine zRx.iast rfl (by omega) (by omega) dX12_one_97 ?_
              refine zRx.aload_n 0 rfl rfl dX12_one_98 ?_
              refine zRx.dup rfl dX12_one_99 ?_
              refine zRx.getIv (a := 0) (ji := 67) (v := σ 0 67) ((zu_ne _ _ _ _ (by decide)).trans ((kp_next _ 67 (by unfold KI; decide)).trans (zu_off _ _ _ (by decide)))) fl_12_469 rfl rfl rfl dX12_one_100 ?_
              refine zRx.iconst ⟨by decide, by decide⟩ dX12_one_103 ?_
              refine zRx.iadd ⟨by omega, by omega⟩ dX12_one_104 ?_
              refine zRx.putI (a := 0) (ji := 67) pl_12_469 rfl rfl rfl dX12_one_105 ?_
              refine zRx.goto (tgt := 0) dX12_one_108 (by decide) ?_
              refine zRx.pick [0] (ls' := [(0, zP 0)]) rfl ?_
              have he : L_X12_one_0  (n + 1)  σ = L_X12_one_0  n  (zu (zu (F_X12_next (zu σ 0 68 ((σ 0 68) + 1))) 37 (σ 0 67) 10) 0 67 ((σ 0 67) + 1)) := by rw [L_X12_one_0, if_neg c14, if_neg (Int.not_le.mpr c18), if_pos c27, if_neg c42, if_neg c51]
              rw [he]
              exact ih  (zu (zu (F_X12_next (zu σ 0 68 ((σ 0 68) + 1))) 37 (σ 0 67) 10) 0 67 ((σ 0 67) + 1)) (PI_zu (by decide) (PI_zu (fun h => absurd h.1 (by decide)) (PI_F_X12_next (PI_zu (by decide) hI)))) (one_push hS c42 c51 (Or.inr rfl)) (by have e9 : (zu (zu (F_X12_next (zu σ 0 68 ((σ 0 68) + 1))) 37 (σ 0 67) 10) 0 67 ((σ 0 67) + 1)) 2 1 = σ 2 1 := ((zu_ne _ _ _ _ (by decide)).trans ((zu_ne _ _ _ _ (by decide)).trans ((congrFun (fr_F_X12_next (zu σ 0 68 ((σ 0 68) + 1)) (k := 2) (by decide)) _).trans (zu_ne _ _ _ _ (by decide))))); omega) (by rw [zu_off _ _ _ (by decide), zu_ne _ _ _ _ (by decide), kp_next _ _ (by unfold KI; decide), zu_at]; have := hS.2.1; omega)
            · refine zRx.aload_n 0 rfl rfl dX12_one_54 ?_
              refine zRx.iconst ⟨by decide, by decide⟩ dX12_one_55 ?_
              refine zRx.cVi (w := .inl 0) (M := m_X12_bad) (av := [.inl 4]) cv_12_248 mk_X12_bad (by decide) (b := 0) rfl rfl (Nat.le_of_ble_eq_true rfl) dX12_one_56 (bad_eq2 σ 4 (σ 0 12) rfl) ?_
              exact zR.zret rfl ⟨by decide, by decide⟩ dX12_one_59 (by have he : L_X12_one_0  (n + 1)  σ = (0, zu (zu σ 0 15 4) 0 16 (σ 0 12)) := (by rw [L_X12_one_0, if_neg c14, if_neg (Int.not_le.mpr c18), if_pos c27, if_neg c42, if_pos c51]); rw [he]; exact ⟨rfl, rfl⟩)
        · refine zRx.aload_n 0 rfl rfl dX12_one_30 ?_
          refine zRx.iconst ⟨by decide, by decide⟩ dX12_one_31 ?_
          refine zRx.cVi (w := .inl 0) (M := m_X12_bad) (av := [.inl 1]) cv_12_248 mk_X12_bad (by decide) (b := 0) rfl rfl (Nat.le_of_ble_eq_true rfl) dX12_one_32 (bad_eq2 σ 1 (σ 0 12) rfl) ?_
          exact zR.zret rfl ⟨by decide, by decide⟩ dX12_one_35 (by have he : L_X12_one_0  (n + 1)  σ = (0, zu (zu σ 0 15 1) 0 16 (σ 0 12)) := (by rw [L_X12_one_0, if_neg c14, if_neg (Int.not_le.mpr c18), if_neg c27]); rw [he]; exact ⟨rfl, rfl⟩)
def R_X12_one (σ : zG)  : Int × zG := L_X12_one_0  30  σ
theorem fr_R_X12_one (σ : zG)  {k : Nat} (h : k ∉ [0, 36, 37]) : (R_X12_one σ ).2 k = σ k := by
  have ne : ∀ c ∈ [0, 36, 37], k ≠ c := fun c hc e => h (e ▸ hc)
  have nl_L_X12_one_0 : k ∉ [0, 36, 37] := fun hm => h (by first | (revert hm; simp only [List.mem_cons, List.not_mem_nil, or_false]; omega) | (simp at hm))
  unfold R_X12_one
  repeat' split
  all_goals first | rfl | simp only [zu_row _ _ _ (ne 0 (by decide)), zu_row _ _ _ (ne 36 (by decide)), zu_row _ _ _ (ne 37 (by decide)), fr_L_X12_one_0 (h := nl_L_X12_one_0)]

set_option maxRecDepth 20000 in
theorem does_X12_one (σ : zG)  (hI : PI σ) (hS : SV 0 σ) (hF : 0 ≤ σ 2 1 ∧ σ 2 1 ≤ 12)  : zDo SM 4 m_X12_one [zP 0] σ (zEq (some (.inl (R_X12_one σ ).1)) (R_X12_one σ ).2) := by
  refine zDo.intro mk_X12_one (Nat.le_of_ble_eq_true rfl) ?_
  have he : R_X12_one σ  = L_X12_one_0  30  σ := by rw [R_X12_one]
  rw [he]
  exact loop_X12_one_0    30  σ hI hS hF (by have := hS.2.1; omega)

theorem oneL_K {p0 : Int} : ∀ (n : Nat) (σ : zG), PI σ → PM p0 σ → SV 0 σ → SG p0 1 (L_X12_one_0 n σ).1 (L_X12_one_0 n σ).2
  | 0, σ, hI, hM, hS => ⟨hI, hM, fun h => absurd rfl h⟩
  | n + 1, σ, hI, hM, hS => by
    have z1 : PI (zu σ 0 68 (σ 0 68 + 1)) := PI_zu (by decide) hI
    have z2 : PM p0 (zu σ 0 68 (σ 0 68 + 1)) := PM_zu (by decide) hM
    have key : ∀ x : Int, x = 7 ∨ x = 10 → ¬ σ 0 68 = 20 → ¬ R_X12_opened σ = 8 → SG p0 1 (L_X12_one_0 n (zu (zu (F_X12_next (zu σ 0 68 (σ 0 68 + 1))) 37 (σ 0 67) x) 0 67 (σ 0 67 + 1))).1 (L_X12_one_0 n (zu (zu (F_X12_next (zu σ 0 68 (σ 0 68 + 1))) 37 (σ 0 67) x) 0 67 (σ 0 67 + 1))).2 := fun x hx h1 h2 => oneL_K n _ (PI_zu (by decide) (PI_zu (fun h => absurd h.1 (by decide)) (PI_F_X12_next z1))) (PM_zu (by decide) (PM_zu (fun h => absurd h.1 (by decide)) (PM_F_X12_next z2))) (one_push hS h1 h2 hx)
    rw [L_X12_one_0]
    repeat' split
    all_goals first
      | exact SG_bad hI hM
      | exact key 7 (Or.inl rfl) (by assumption) (by assumption)
      | exact key 10 (Or.inr rfl) (by assumption) (by assumption)
      | exact asks_K (PI_F_X12_next z1) (PM_F_X12_next z2) (SV_next (SV_ones hS (by assumption))) (AD_F_X12_next z2)
def V_X12_one (σ : zG) : Int := (R_X12_one σ).1
def F_X12_one (σ : zG) : zG := (R_X12_one σ).2
theorem does_one2 (σ : zG) (hI : PI σ) (hS : SV 0 σ) (hF : 0 ≤ σ 2 1 ∧ σ 2 1 ≤ 12) : zDo SM 4 m_X12_one [zP 0] σ (zEq (some (.inl (V_X12_one σ))) (F_X12_one σ)) := does_X12_one σ hI hS hF
theorem fr_F_X12_one (σ : zG) {k : Nat} (h : k ∉ [0, 36, 37]) : F_X12_one σ k = σ k := fr_R_X12_one σ h
theorem one_K {p0 : Int} {σ : zG} (hI : PI σ) (hM : PM p0 σ) (hS : SV 0 σ) : SG p0 1 (V_X12_one σ) (F_X12_one σ) := oneL_K 30 σ hI hM hS

