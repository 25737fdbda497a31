/-! cords read, near, measured -/
theorem takeKnots_ok (σ : zG) (hb : ∀ j : Int, 0 ≤ j → j < 4 → 0 ≤ σ 2 j) (h : ¬ V_X11_takeKnots σ = 0) : ∀ j : Int, 0 ≤ j → j < 4 → 0 ≤ F_X11_takeKnots σ 98 j ∧ F_X11_takeKnots σ 98 j ≤ 4 := by
  have b0 := hb 0 (by decide) (by decide)
  have b1 := hb 1 (by decide) (by decide)
  have b2' := hb 2 (by decide) (by decide)
  have b3 := hb 3 (by decide) (by decide)
  unfold V_X11_takeKnots at h
  intro j h0 h4
  unfold F_X11_takeKnots
  rcases (show j = 0 ∨ j = 1 ∨ j = 2 ∨ j = 3 by omega) with rfl | rfl | rfl | rfl <;> simp [zu] <;> simp at h <;> omega

def V_X11_read (σ : zG)  : Int := if (V_X11_takeKnots σ) = 0 then (-2) else (V_X11_lengthOf (F_X11_takeKnots σ))
def F_X11_read (σ : zG)  : zG := F_X11_takeKnots σ
theorem fr_F_X11_read (σ : zG)  {k : Nat} (h : k ∉ [1, 98]) : (F_X11_read σ ) k = σ k := by
  have ne : ∀ c ∈ [1, 98], k ≠ c := fun c hc e => h (e ▸ hc)
  have nk_F_X11_takeKnots : k ∉ [1, 98] := fun hm => h (by first | (revert hm; simp only [List.mem_cons, List.not_mem_nil, or_false]; omega) | (simp at hm))
  unfold F_X11_read
  repeat' split
  all_goals first | rfl | simp only [zu_row _ _ _ (ne 1 (by decide)), zu_row _ _ _ (ne 98 (by decide)), fr_F_X11_takeKnots (h := nk_F_X11_takeKnots)]

set_option maxRecDepth 20000 in
theorem does_X11_read (σ : zG)  (hb : ∀ j : Int, 0 ≤ j → j < 4 → 0 ≤ σ 2 j) : zDo SC 2 m_X11_read [zP 0] σ (zEq (some (.inl (V_X11_read σ ))) (F_X11_read σ )) := by
  refine zDo.intro mk_X11_read (Nat.le_of_ble_eq_true rfl) ?_
  refine zRx.aload_n 0 rfl rfl dX11_read_0 ?_
  refine zRx.cVi (w := .inl (V_X11_takeKnots σ)) (M := m_X11_takeKnots) (av := []) cv_11_339 mk_X11_takeKnots (by decide) (b := 0) rfl rfl (Nat.le_of_ble_eq_true rfl) dX11_read_1 (does_X11_takeKnots σ) ?_
  refine zRx.if_eq (tgt := 17) dX11_read_4 (by decide) (fun c4 => ?_) (fun c4 => ?_)
  · refine zRx.bipush ⟨by decide, by decide⟩ rfl dX11_read_17 ?_
    exact zR.iret rfl dX11_read_19 ⟨by unfold V_X11_read; rw [if_pos c4], rfl⟩
  · refine zRx.aload_n 0 rfl rfl dX11_read_7 ?_
    refine zRx.getR (a := 0) (b := 98) fl_11_95 rfl rfl dX11_read_8 ?_
    refine zRx.cSi (w := .inl (V_X11_lengthOf (F_X11_takeKnots σ))) (M := m_X11_lengthOf) (av := [zP 98]) cs_11_343 mk_X11_lengthOf (by decide) rfl (Nat.le_of_ble_eq_true rfl) dX11_read_11 (does_X11_lengthOf (F_X11_takeKnots σ) (takeKnots_ok σ hb c4)) ?_
    refine zRx.goto (tgt := 19) dX11_read_14 (by decide) ?_
    exact zR.iret rfl dX11_read_19 ⟨by unfold V_X11_read; rw [if_neg c4], rfl⟩

def L_X11_near_14 (kq : Int) : Nat → Int → Int → zG → Int × zG
  | 0, _, _, σ => (0, σ)
  | n + 1, sm, q, σ => if 125 ≤ q then (if kq = (-1) then (sm, σ) else ((-1), σ)) else (if (R_X11_isNear σ q) = 0 then (L_X11_near_14 kq n sm (q + 1) σ) else (if sm = kq then (q, σ) else (L_X11_near_14 kq n (sm + 1) (q + 1) σ)))
theorem fr_L_X11_near_14 (kq : Int)  (n : Nat) (sm q : Int) (σ : zG) {k : Nat} (h : k ∉ []) : (L_X11_near_14 kq n sm q σ).2 k = σ k := by
  induction n generalizing sm q σ with
  | zero => rfl
  | succ n ih =>
    have ne : ∀ c ∈ [], k ≠ c := fun c hc e => h (e ▸ hc)
    rw [L_X11_near_14]
    repeat' split
    all_goals first | rfl | simp only [ih]

set_option maxRecDepth 20000 in
theorem loop_X11_near_14 (kq : Int)  : ∀ (n : Nat) (sm q : Int) (σ : zG), 0 ≤ q ∧ 0 ≤ sm ∧ sm ≤ q → (∀ j : Int, 0 ≤ j → j < 4 → 0 ≤ σ 98 j ∧ σ 98 j ≤ 4) → (125 - q).toNat < n → zR SC 2 m_X11_near 14 [(0, zP 0), (1, .inl kq), (2, .inl sm), (3, .inl q)] [] σ (zEq (some (.inl (L_X11_near_14 kq n sm q σ).1)) (L_X11_near_14 kq n sm q σ).2) := by
  intro n
  induction n with
  | zero => intro sm q σ h0 hK hmz; exact absurd hmz (Nat.not_lt_zero _)
  | succ n ih =>
    intro sm q σ h0 hK hmz
    refine zRx.iload_n 3 rfl rfl dX11_near_14 ?_
    refine zRx.bipush ⟨by decide, by decide⟩ rfl dX11_near_15 ?_
    refine zRx.icmp_ge (tgt := 47) dX11_near_17 (by decide) (fun c17 => ?_) (fun c17 => ?_)
    · refine zRx.iload_n 1 rfl rfl dX11_near_47 ?_
      refine zRx.iconst ⟨by decide, by decide⟩ dX11_near_48 ?_
      refine zRx.icmp_ne (tgt := 56) dX11_near_49 (by decide) (fun c49 => ?_) (fun c49 => ?_)
      · refine zRx.iconst ⟨by decide, by decide⟩ dX11_near_56 ?_
        exact zR.iret rfl dX11_near_57 (by have he : L_X11_near_14 kq (n + 1) sm q σ = ((-1), σ) := (by rw [L_X11_near_14, if_pos c17, if_neg c49]); rw [he]; exact ⟨rfl, rfl⟩)
      · refine zRx.iload_n 2 rfl rfl dX11_near_52 ?_
        refine zRx.goto (tgt := 57) dX11_near_53 (by decide) ?_
        exact zR.iret rfl dX11_near_57 (by have he : L_X11_near_14 kq (n + 1) sm q σ = (sm, σ) := (by rw [L_X11_near_14, if_pos c17, if_pos c49]); rw [he]; exact ⟨rfl, rfl⟩)
    · refine zRx.iload_n 3 rfl rfl dX11_near_20 ?_
      refine zRx.aload_n 0 rfl rfl dX11_near_21 ?_
      refine zRx.getR (a := 0) (b := 98) fl_11_95 rfl rfl dX11_near_22 ?_
      refine zRx.cSi (w := .inl (R_X11_isNear σ q)) (M := m_X11_isNear) (av := [.inl q, zP 98]) cs_11_346 mk_X11_isNear (by decide) rfl (Nat.le_of_ble_eq_true rfl) dX11_near_25 (does_X11_isNear σ q (by omega) hK) ?_
      refine zRx.if_eq (tgt := 41) dX11_near_28 (by decide) (fun c28 => ?_) (fun c28 => ?_)
      · refine zRx.iinc (n := 1) (ls' := [(0, zP 0), (1, .inl kq), (2, .inl sm), (3, .inl (q + 1))]) 3 rfl ⟨by omega, by omega⟩ rfl (by decide) dX11_near_41 ?_
        refine zRx.goto (tgt := 14) dX11_near_44 (by decide) ?_
        have he : L_X11_near_14 kq (n + 1) sm q σ = L_X11_near_14 kq n sm (q + 1) σ := by rw [L_X11_near_14, if_neg (Int.not_le.mpr c17), if_pos c28]
        rw [he]
        exact ih sm (q + 1) σ (by omega) hK (by omega)
      · refine zRx.iload_n 2 rfl rfl dX11_near_31 ?_
        refine zRx.iload_n 1 rfl rfl dX11_near_32 ?_
        refine zRx.icmp_ne (tgt := 38) dX11_near_33 (by decide) (fun c33 => ?_) (fun c33 => ?_)
        · refine zRx.iinc (n := 1) (ls' := [(0, zP 0), (1, .inl kq), (2, .inl (sm + 1)), (3, .inl q)]) 2 rfl ⟨by omega, by omega⟩ rfl (by decide) dX11_near_38 ?_
          refine zRx.iinc (n := 1) (ls' := [(0, zP 0), (1, .inl kq), (2, .inl (sm + 1)), (3, .inl (q + 1))]) 3 rfl ⟨by omega, by omega⟩ rfl (by decide) dX11_near_41 ?_
          refine zRx.goto (tgt := 14) dX11_near_44 (by decide) ?_
          have he : L_X11_near_14 kq (n + 1) sm q σ = L_X11_near_14 kq n (sm + 1) (q + 1) σ := by rw [L_X11_near_14, if_neg (Int.not_le.mpr c17), if_neg c28, if_neg c33]
          rw [he]
          exact ih (sm + 1) (q + 1) σ (by omega) hK (by omega)
        · refine zRx.iload_n 3 rfl rfl dX11_near_36 ?_
          exact zR.iret rfl dX11_near_37 (by have he : L_X11_near_14 kq (n + 1) sm q σ = (q, σ) := (by rw [L_X11_near_14, if_neg (Int.not_le.mpr c17), if_neg c28, if_pos c33]); rw [he]; exact ⟨rfl, rfl⟩)
def R_X11_near (σ : zG) (kq : Int) : Int × zG := if (V_X11_takeKnots σ) = 0 then ((-2), F_X11_takeKnots σ) else (L_X11_near_14 kq 130 0 0 (F_X11_takeKnots σ))
theorem fr_R_X11_near (σ : zG) (kq : Int) {k : Nat} (h : k ∉ [1, 98]) : (R_X11_near σ kq).2 k = σ k := by
  have ne : ∀ c ∈ [1, 98], k ≠ c := fun c hc e => h (e ▸ hc)
  have nk_F_X11_takeKnots : k ∉ [1, 98] := fun hm => h (by first | (revert hm; simp only [List.mem_cons, List.not_mem_nil, or_false]; omega) | (simp at hm))
  have nl_L_X11_near_14 : k ∉ [] := fun hm => h (by first | (revert hm; simp only [List.mem_cons, List.not_mem_nil, or_false]; omega) | (simp at hm))
  unfold R_X11_near
  repeat' split
  all_goals first | rfl | simp only [zu_row _ _ _ (ne 1 (by decide)), zu_row _ _ _ (ne 98 (by decide)), fr_F_X11_takeKnots (h := nk_F_X11_takeKnots), fr_L_X11_near_14 (h := nl_L_X11_near_14)]

set_option maxRecDepth 20000 in
theorem does_X11_near (σ : zG) (kq : Int) (hb : ∀ j : Int, 0 ≤ j → j < 4 → 0 ≤ σ 2 j)  : zDo SC 2 m_X11_near [zP 0, .inl kq] σ (zEq (some (.inl (R_X11_near σ kq).1)) (R_X11_near σ kq).2) := by
  refine zDo.intro mk_X11_near (Nat.le_of_ble_eq_true rfl) ?_
  refine zRx.aload_n 0 rfl rfl dX11_near_0 ?_
  refine zRx.cVi (w := .inl (V_X11_takeKnots σ)) (M := m_X11_takeKnots) (av := []) cv_11_339 mk_X11_takeKnots (by decide) (b := 0) rfl rfl (Nat.le_of_ble_eq_true rfl) dX11_near_1 (does_X11_takeKnots σ) ?_
  refine zRx.if_ne (tgt := 10) dX11_near_4 (by decide) (fun c4 => ?_) (fun c4 => ?_)
  · refine zRx.iconst ⟨by decide, by decide⟩ dX11_near_10 ?_
    refine zRx.istore_n (ls' := [(0, zP 0), (1, .inl kq), (2, .inl 0)]) rfl rfl (by decide) dX11_near_11 ?_
    refine zRx.iconst ⟨by decide, by decide⟩ dX11_near_12 ?_
    refine zRx.istore_n (ls' := [(0, zP 0), (1, .inl kq), (2, .inl 0), (3, .inl 0)]) rfl rfl (by decide) dX11_near_13 ?_
    have he : R_X11_near σ kq = L_X11_near_14 kq 130 0 0 (F_X11_takeKnots σ) := by rw [R_X11_near, if_neg c4]
    rw [he]
    exact loop_X11_near_14 kq   130 0 0 (F_X11_takeKnots σ) (by omega) (takeKnots_ok σ hb c4) (by omega)
  · refine zRx.bipush ⟨by decide, by decide⟩ rfl dX11_near_7 ?_
    exact zR.iret rfl dX11_near_9 (by have he : R_X11_near σ kq = ((-2), F_X11_takeKnots σ) := (by rw [R_X11_near, if_pos c4]); rw [he]; exact ⟨rfl, rfl⟩)

theorem taken_eq (σ : zG) (x : Int) : F_X12_taken σ x = zu (zu (zu (zu σ 0 3 (σ 0 2)) 0 2 0) 0 4 0) 0 5 x := rfl

theorem does_taken2 (σ : zG) (x l : Int) (e : σ 0 2 = l) : zDo SM 0 m_X12_taken [zP 0, .inl x] σ (zEq none (zu (zu (zu (zu σ 0 3 l) 0 2 0) 0 4 0) 0 5 x)) := by
  subst e
  exact does_X12_taken σ x

theorem does_octet2 (σ : zG) (x l : Int) (e : σ 1 x = l) (hx : 0 ≤ x ∧ x < 940) : zDo SM 0 m_X12_octet [zP 0, .inl x] σ (zEq (some (.inl (band l 255))) σ) := by
  subst e
  exact does_X12_octet σ x hx

def V_X12_takesCord (σ : zG)  : Int := if (σ 0 2) = 4 then (if (band (σ 1 0) 255) ≤ 4 then (if (band (σ 1 1) 255) ≤ 4 then (if (band (σ 1 2) 255) ≤ 4 then (if (band (σ 1 3) 255) ≤ 4 then 1 else 0) else 0) else 0) else 0) else 0
def F_X12_takesCord (σ : zG)  : zG := if (σ 0 2) = 4 then (if (band (σ 1 0) 255) ≤ 4 then (if (band (σ 1 1) 255) ≤ 4 then (if (band (σ 1 2) 255) ≤ 4 then (zu (zu (zu (zu (zu (zu (zu (zu σ 0 3 (σ 0 2)) 0 2 0) 0 4 0) 0 5 940) 35 0 (band (σ 1 0) 255)) 35 1 (band (σ 1 1) 255)) 35 2 (band (σ 1 2) 255)) 35 3 (band (σ 1 3) 255)) else (zu (zu (zu (zu (zu (zu (zu σ 0 3 (σ 0 2)) 0 2 0) 0 4 0) 0 5 940) 35 0 (band (σ 1 0) 255)) 35 1 (band (σ 1 1) 255)) 35 2 (band (σ 1 2) 255))) else (zu (zu (zu (zu (zu (zu σ 0 3 (σ 0 2)) 0 2 0) 0 4 0) 0 5 940) 35 0 (band (σ 1 0) 255)) 35 1 (band (σ 1 1) 255))) else (zu (zu (zu (zu (zu σ 0 3 (σ 0 2)) 0 2 0) 0 4 0) 0 5 940) 35 0 (band (σ 1 0) 255))) else (zu (zu (zu (zu σ 0 3 (σ 0 2)) 0 2 0) 0 4 0) 0 5 940)
theorem fr_F_X12_takesCord (σ : zG)  {k : Nat} (h : k ∉ [0, 35]) : (F_X12_takesCord σ ) k = σ k := by
  have ne : ∀ c ∈ [0, 35], k ≠ c := fun c hc e => h (e ▸ hc)
  unfold F_X12_takesCord
  repeat' split
  all_goals first | rfl | simp only [zu_row _ _ _ (ne 0 (by decide)), zu_row _ _ _ (ne 35 (by decide))]

set_option maxRecDepth 20000 in
theorem does_X12_takesCord (σ : zG)   : zDo SM 1 m_X12_takesCord [zP 0] σ (zEq (some (.inl (V_X12_takesCord σ ))) (F_X12_takesCord σ )) := by
  refine zDo.intro mk_X12_takesCord (Nat.le_of_ble_eq_true rfl) ?_
  refine zRx.aload_n 0 rfl rfl dX12_takesCord_0 ?_
  refine zRx.sipush ⟨by decide, by decide⟩ rfl dX12_takesCord_1 ?_
  refine zRx.cVv (M := m_X12_taken) (av := [.inl 940]) cv_12_304 mk_X12_taken (by decide) (b := 0) rfl rfl (Nat.le_of_ble_eq_true rfl) dX12_takesCord_4 (does_taken2 σ 940 (σ 0 2) rfl) ?_
  refine zRx.aload_n 0 rfl rfl dX12_takesCord_7 ?_
  refine zRx.getIv (a := 0) (ji := 3) (v := σ 0 2) ((zu_off _ _ _ (by decide)).trans ((zu_off _ _ _ (by decide)).trans ((zu_off _ _ _ (by decide)).trans (zu_at _ _ _ _)))) fl_12_18 rfl rfl rfl dX12_takesCord_8 ?_
  refine zRx.iconst ⟨by decide, by decide⟩ dX12_takesCord_11 ?_
  refine zRx.icmp_eq (tgt := 17) dX12_takesCord_12 (by decide) (fun c12 => ?_) (fun c12 => ?_)
  · refine zRx.iconst ⟨by decide, by decide⟩ dX12_takesCord_17 ?_
    refine zRx.istore_n (ls' := [(0, zP 0), (1, .inl 0)]) rfl rfl (by decide) dX12_takesCord_18 ?_
    refine zRx.iload_n 1 rfl rfl dX12_takesCord_19 ?_
    refine zRx.iconst ⟨by decide, by decide⟩ dX12_takesCord_20 ?_
    refine zRx.icmp_ge (tgt := 53) dX12_takesCord_21 (by decide) (fun c21 => absurd c21 (by decide)) (fun _ => ?_)
    refine zRx.aload_n 0 rfl rfl dX12_takesCord_24 ?_
    refine zRx.getR (a := 0) (b := 35) fl_12_135 rfl rfl dX12_takesCord_25 ?_
    refine zRx.iload_n 1 rfl rfl dX12_takesCord_28 ?_
    refine zRx.aload_n 0 rfl rfl dX12_takesCord_29 ?_
    refine zRx.iload_n 1 rfl rfl dX12_takesCord_30 ?_
    refine zRx.cVi (w := .inl (band (σ 1 0) 255)) (M := m_X12_octet) (av := [.inl 0]) cv_12_448 mk_X12_octet (by decide) (b := 0) rfl rfl (Nat.le_of_ble_eq_true rfl) dX12_takesCord_31 (does_octet2 (zu (zu (zu (zu σ 0 3 (σ 0 2)) 0 2 0) 0 4 0) 0 5 940) 0 (σ 1 0) ((zu_ne _ _ _ _ (by decide)).trans ((zu_ne _ _ _ _ (by decide)).trans ((zu_ne _ _ _ _ (by decide)).trans (zu_ne _ _ _ _ (by decide))))) (by decide)) ?_
    refine zRx.iast rfl (by decide) (by decide) dX12_takesCord_34 ?_
    refine zRx.aload_n 0 rfl rfl dX12_takesCord_35 ?_
    refine zRx.getR (a := 0) (b := 35) fl_12_135 rfl rfl dX12_takesCord_36 ?_
    refine zRx.iload_n 1 rfl rfl dX12_takesCord_39 ?_
    refine zRx.ialdv (v := band (σ 1 0) 255) (zu_at _ _ _ _) rfl (by decide) (by decide) dX12_takesCord_40 ?_
    refine zRx.iconst ⟨by decide, by decide⟩ dX12_takesCord_41 ?_
    refine zRx.icmp_le (tgt := 47) dX12_takesCord_42 (by decide) (fun c42 => ?_) (fun c42 => ?_)
    · refine zRx.iinc (n := 1) (ls' := [(0, zP 0), (1, .inl 1)]) 1 rfl ⟨by decide, by decide⟩ rfl (by decide) dX12_takesCord_47 ?_
      refine zRx.goto (tgt := 19) dX12_takesCord_50 (by decide) ?_
      refine zRx.iload_n 1 rfl rfl dX12_takesCord_19 ?_
      refine zRx.iconst ⟨by decide, by decide⟩ dX12_takesCord_20 ?_
      refine zRx.icmp_ge (tgt := 53) dX12_takesCord_21 (by decide) (fun c21 => absurd c21 (by decide)) (fun _ => ?_)
      refine zRx.aload_n 0 rfl rfl dX12_takesCord_24 ?_
      refine zRx.getR (a := 0) (b := 35) fl_12_135 rfl rfl dX12_takesCord_25 ?_
      refine zRx.iload_n 1 rfl rfl dX12_takesCord_28 ?_
      refine zRx.aload_n 0 rfl rfl dX12_takesCord_29 ?_
      refine zRx.iload_n 1 rfl rfl dX12_takesCord_30 ?_
      refine zRx.cVi (w := .inl (band (σ 1 1) 255)) (M := m_X12_octet) (av := [.inl 1]) cv_12_448 mk_X12_octet (by decide) (b := 0) rfl rfl (Nat.le_of_ble_eq_true rfl) dX12_takesCord_31 (does_octet2 (zu (zu (zu (zu (zu σ 0 3 (σ 0 2)) 0 2 0) 0 4 0) 0 5 940) 35 0 (band (σ 1 0) 255)) 1 (σ 1 1) ((zu_ne _ _ _ _ (by decide)).trans ((zu_ne _ _ _ _ (by decide)).trans ((zu_ne _ _ _ _ (by decide)).trans ((zu_ne _ _ _ _ (by decide)).trans (zu_ne _ _ _ _ (by decide)))))) (by decide)) ?_
      refine zRx.iast rfl (by decide) (by decide) dX12_takesCord_34 ?_
      refine zRx.aload_n 0 rfl rfl dX12_takesCord_35 ?_
      refine zRx.getR (a := 0) (b := 35) fl_12_135 rfl rfl dX12_takesCord_36 ?_
      refine zRx.iload_n 1 rfl rfl dX12_takesCord_39 ?_
      refine zRx.ialdv (v := band (σ 1 1) 255) (zu_at _ _ _ _) rfl (by decide) (by decide) dX12_takesCord_40 ?_
      refine zRx.iconst ⟨by decide, by decide⟩ dX12_takesCord_41 ?_
      refine zRx.icmp_le (tgt := 47) dX12_takesCord_42 (by decide) (fun c42_2 => ?_) (fun c42_2 => ?_)
      · refine zRx.iinc (n := 1) (ls' := [(0, zP 0), (1, .inl 2)]) 1 rfl ⟨by decide, by decide⟩ rfl (by decide) dX12_takesCord_47 ?_
        refine zRx.goto (tgt := 19) dX12_takesCord_50 (by decide) ?_
        refine zRx.iload_n 1 rfl rfl dX12_takesCord_19 ?_
        refine zRx.iconst ⟨by decide, by decide⟩ dX12_takesCord_20 ?_
        refine zRx.icmp_ge (tgt := 53) dX12_takesCord_21 (by decide) (fun c21 => absurd c21 (by decide)) (fun _ => ?_)
        refine zRx.aload_n 0 rfl rfl dX12_takesCord_24 ?_
        refine zRx.getR (a := 0) (b := 35) fl_12_135 rfl rfl dX12_takesCord_25 ?_
        refine zRx.iload_n 1 rfl rfl dX12_takesCord_28 ?_
        refine zRx.aload_n 0 rfl rfl dX12_takesCord_29 ?_
        refine zRx.iload_n 1 rfl rfl dX12_takesCord_30 ?_
        refine zRx.cVi (w := .inl (band (σ 1 2) 255)) (M := m_X12_octet) (av := [.inl 2]) cv_12_448 mk_X12_octet (by decide) (b := 0) rfl rfl (Nat.le_of_ble_eq_true rfl) dX12_takesCord_31 (does_octet2 (zu (zu (zu (zu (zu (zu σ 0 3 (σ 0 2)) 0 2 0) 0 4 0) 0 5 940) 35 0 (band (σ 1 0) 255)) 35 1 (band (σ 1 1) 255)) 2 (σ 1 2) ((zu_ne _ _ _ _ (by decide)).trans ((zu_ne _ _ _ _ (by decide)).trans ((zu_ne _ _ _ _ (by decide)).trans ((zu_ne _ _ _ _ (by decide)).trans ((zu_ne _ _ _ _ (by decide)).trans (zu_ne _ _ _ _ (by decide))))))) (by decide)) ?_
        refine zRx.iast rfl (by decide) (by decide) dX12_takesCord_34 ?_
        refine zRx.aload_n 0 rfl rfl dX12_takesCord_35 ?_
        refine zRx.getR (a := 0) (b := 35) fl_12_135 rfl rfl dX12_takesCord_36 ?_
        refine zRx.iload_n 1 rfl rfl dX12_takesCord_39 ?_
        refine zRx.ialdv (v := band (σ 1 2) 255) (zu_at _ _ _ _) rfl (by decide) (by decide) dX12_takesCord_40 ?_
        refine zRx.iconst ⟨by decide, by decide⟩ dX12_takesCord_41 ?_
        refine zRx.icmp_le (tgt := 47) dX12_takesCord_42 (by decide) (fun c42_3 => ?_) (fun c42_3 => ?_)
        · refine zRx.iinc (n := 1) (ls' := [(0, zP 0), (1, .inl 3)]) 1 rfl ⟨by decide, by decide⟩ rfl (by decide) dX12_takesCord_47 ?_
          refine zRx.goto (tgt := 19) dX12_takesCord_50 (by decide) ?_
          refine zRx.iload_n 1 rfl rfl dX12_takesCord_19 ?_
          refine zRx.iconst ⟨by decide, by decide⟩ dX12_takesCord_20 ?_
          refine zRx.icmp_ge (tgt := 53) dX12_takesCord_21 (by decide) (fun c21 => absurd c21 (by decide)) (fun _ => ?_)
          refine zRx.aload_n 0 rfl rfl dX12_takesCord_24 ?_
          refine zRx.getR (a := 0) (b := 35) fl_12_135 rfl rfl dX12_takesCord_25 ?_
          refine zRx.iload_n 1 rfl rfl dX12_takesCord_28 ?_
          refine zRx.aload_n 0 rfl rfl dX12_takesCord_29 ?_
          refine zRx.iload_n 1 rfl rfl dX12_takesCord_30 ?_
          refine zRx.cVi (w := .inl (band (σ 1 3) 255)) (M := m_X12_octet) (av := [.inl 3]) cv_12_448 mk_X12_octet (by decide) (b := 0) rfl rfl (Nat.le_of_ble_eq_true rfl) dX12_takesCord_31 (does_octet2 (zu (zu (zu (zu (zu (zu (zu σ 0 3 (σ 0 2)) 0 2 0) 0 4 0) 0 5 940) 35 0 (band (σ 1 0) 255)) 35 1 (band (σ 1 1) 255)) 35 2 (band (σ 1 2) 255)) 3 (σ 1 3) ((zu_ne _ _ _ _ (by decide)).trans ((zu_ne _ _ _ _ (by decide)).trans ((zu_ne _ _ _ _ (by decide)).trans ((zu_ne _ _ _ _ (by decide)).trans ((zu_ne _ _ _ _ (by decide)).trans ((zu_ne _ _ _ _ (by decide)).trans (zu_ne _ _ _ _ (by decide)))))))) (by decide)) ?_
          refine zRx.iast rfl (by decide) (by decide) dX12_takesCord_34 ?_
          refine zRx.aload_n 0 rfl rfl dX12_takesCord_35 ?_
          refine zRx.getR (a := 0) (b := 35) fl_12_135 rfl rfl dX12_takesCord_36 ?_
          refine zRx.iload_n 1 rfl rfl dX12_takesCord_39 ?_
          refine zRx.ialdv (v := band (σ 1 3) 255) (zu_at _ _ _ _) rfl (by decide) (by decide) dX12_takesCord_40 ?_
          refine zRx.iconst ⟨by decide, by decide⟩ dX12_takesCord_41 ?_
          refine zRx.icmp_le (tgt := 47) dX12_takesCord_42 (by decide) (fun c42_4 => ?_) (fun c42_4 => ?_)
          · refine zRx.iinc (n := 1) (ls' := [(0, zP 0), (1, .inl 4)]) 1 rfl ⟨by decide, by decide⟩ rfl (by decide) dX12_takesCord_47 ?_
            refine zRx.goto (tgt := 19) dX12_takesCord_50 (by decide) ?_
            refine zRx.iload_n 1 rfl rfl dX12_takesCord_19 ?_
            refine zRx.iconst ⟨by decide, by decide⟩ dX12_takesCord_20 ?_
            refine zRx.icmp_ge (tgt := 53) dX12_takesCord_21 (by decide) (fun _ => ?_) (fun c21 => absurd c21 (by decide))
            refine zRx.iconst ⟨by decide, by decide⟩ dX12_takesCord_53 ?_
            exact zR.zret rfl ⟨by decide, by decide⟩ dX12_takesCord_54 ⟨by unfold V_X12_takesCord; rw [if_pos c12, if_pos c42, if_pos c42_2, if_pos c42_3, if_pos c42_4], by unfold F_X12_takesCord; rw [if_pos c12, if_pos c42, if_pos c42_2, if_pos c42_3]⟩
          · refine zRx.iconst ⟨by decide, by decide⟩ dX12_takesCord_45 ?_
            exact zR.zret rfl ⟨by decide, by decide⟩ dX12_takesCord_46 ⟨by unfold V_X12_takesCord; rw [if_pos c12, if_pos c42, if_pos c42_2, if_pos c42_3, if_neg (Int.not_le.mpr c42_4)], by unfold F_X12_takesCord; rw [if_pos c12, if_pos c42, if_pos c42_2, if_pos c42_3]⟩
        · refine zRx.iconst ⟨by decide, by decide⟩ dX12_takesCord_45 ?_
          exact zR.zret rfl ⟨by decide, by decide⟩ dX12_takesCord_46 ⟨by unfold V_X12_takesCord; rw [if_pos c12, if_pos c42, if_pos c42_2, if_neg (Int.not_le.mpr c42_3)], by unfold F_X12_takesCord; rw [if_pos c12, if_pos c42, if_pos c42_2, if_neg (Int.not_le.mpr c42_3)]⟩
      · refine zRx.iconst ⟨by decide, by decide⟩ dX12_takesCord_45 ?_
        exact zR.zret rfl ⟨by decide, by decide⟩ dX12_takesCord_46 ⟨by unfold V_X12_takesCord; rw [if_pos c12, if_pos c42, if_neg (Int.not_le.mpr c42_2)], by unfold F_X12_takesCord; rw [if_pos c12, if_pos c42, if_neg (Int.not_le.mpr c42_2)]⟩
    · refine zRx.iconst ⟨by decide, by decide⟩ dX12_takesCord_45 ?_
      exact zR.zret rfl ⟨by decide, by decide⟩ dX12_takesCord_46 ⟨by unfold V_X12_takesCord; rw [if_pos c12, if_neg (Int.not_le.mpr c42)], by unfold F_X12_takesCord; rw [if_pos c12, if_neg (Int.not_le.mpr c42)]⟩
  · refine zRx.iconst ⟨by decide, by decide⟩ dX12_takesCord_15 ?_
    exact zR.zret rfl ⟨by decide, by decide⟩ dX12_takesCord_16 ⟨by unfold V_X12_takesCord; rw [if_neg c12], by unfold F_X12_takesCord; rw [if_neg c12]⟩

def V_X12_readSeen (σ : zG)  : Int := if ((((σ 35 0) + (2 * (σ 35 1))) + (3 * (σ 35 2))) % 5) = (σ 35 3) then (((25 * (σ 35 0)) + (5 * (σ 35 1))) + (σ 35 2)) else (-1)
set_option maxRecDepth 20000 in
theorem does_X12_readSeen (σ : zG)  (h : ∀ i : Int, 0 ≤ i → i < 4 → 0 ≤ σ 35 i ∧ σ 35 i ≤ 4) : zDo SM 0 m_X12_readSeen [zP 0] σ (zEq (some (.inl (V_X12_readSeen σ ))) σ) := by
  refine zDo.intro mk_X12_readSeen (Nat.le_of_ble_eq_true rfl) ?_
  have k0 := h 0 (by decide) (by decide)
  have k1 := h 1 (by decide) (by decide)
  have k2 := h 2 (by decide) (by decide)
  refine zRx.aload_n 0 rfl rfl dX12_readSeen_0 ?_
  refine zRx.getR (a := 0) (b := 35) fl_12_135 rfl rfl dX12_readSeen_1 ?_
  refine zRx.iconst ⟨by decide, by decide⟩ dX12_readSeen_4 ?_
  refine zRx.ialdv (v := σ 35 0) rfl rfl (by decide) (by decide) dX12_readSeen_5 ?_
  refine zRx.iconst ⟨by decide, by decide⟩ dX12_readSeen_6 ?_
  refine zRx.aload_n 0 rfl rfl dX12_readSeen_7 ?_
  refine zRx.getR (a := 0) (b := 35) fl_12_135 rfl rfl dX12_readSeen_8 ?_
  refine zRx.iconst ⟨by decide, by decide⟩ dX12_readSeen_11 ?_
  refine zRx.ialdv (v := σ 35 1) rfl rfl (by decide) (by decide) dX12_readSeen_12 ?_
  refine zRx.imul ⟨by omega, by omega⟩ dX12_readSeen_13 ?_
  refine zRx.iadd ⟨by omega, by omega⟩ dX12_readSeen_14 ?_
  refine zRx.iconst ⟨by decide, by decide⟩ dX12_readSeen_15 ?_
  refine zRx.aload_n 0 rfl rfl dX12_readSeen_16 ?_
  refine zRx.getR (a := 0) (b := 35) fl_12_135 rfl rfl dX12_readSeen_17 ?_
  refine zRx.iconst ⟨by decide, by decide⟩ dX12_readSeen_20 ?_
  refine zRx.ialdv (v := σ 35 2) rfl rfl (by decide) (by decide) dX12_readSeen_21 ?_
  refine zRx.imul ⟨by omega, by omega⟩ dX12_readSeen_22 ?_
  refine zRx.iadd ⟨by omega, by omega⟩ dX12_readSeen_23 ?_
  refine zRx.iconst ⟨by decide, by decide⟩ dX12_readSeen_24 ?_
  refine zRx.irem (by omega) (by omega) dX12_readSeen_25 ?_
  refine zRx.aload_n 0 rfl rfl dX12_readSeen_26 ?_
  refine zRx.getR (a := 0) (b := 35) fl_12_135 rfl rfl dX12_readSeen_27 ?_
  refine zRx.iconst ⟨by decide, by decide⟩ dX12_readSeen_30 ?_
  refine zRx.ialdv (v := σ 35 3) rfl rfl (by decide) (by decide) dX12_readSeen_31 ?_
  refine zRx.icmp_ne (tgt := 63) dX12_readSeen_32 (by decide) (fun c32 => ?_) (fun c32 => ?_)
  · refine zRx.iconst ⟨by decide, by decide⟩ dX12_readSeen_63 ?_
    exact zR.iret rfl dX12_readSeen_64 ⟨by unfold V_X12_readSeen; rw [if_neg c32], rfl⟩
  · refine zRx.bipush ⟨by decide, by decide⟩ rfl dX12_readSeen_35 ?_
    refine zRx.aload_n 0 rfl rfl dX12_readSeen_37 ?_
    refine zRx.getR (a := 0) (b := 35) fl_12_135 rfl rfl dX12_readSeen_38 ?_
    refine zRx.iconst ⟨by decide, by decide⟩ dX12_readSeen_41 ?_
    refine zRx.ialdv (v := σ 35 0) rfl rfl (by decide) (by decide) dX12_readSeen_42 ?_
    refine zRx.imul ⟨by omega, by omega⟩ dX12_readSeen_43 ?_
    refine zRx.iconst ⟨by decide, by decide⟩ dX12_readSeen_44 ?_
    refine zRx.aload_n 0 rfl rfl dX12_readSeen_45 ?_
    refine zRx.getR (a := 0) (b := 35) fl_12_135 rfl rfl dX12_readSeen_46 ?_
    refine zRx.iconst ⟨by decide, by decide⟩ dX12_readSeen_49 ?_
    refine zRx.ialdv (v := σ 35 1) rfl rfl (by decide) (by decide) dX12_readSeen_50 ?_
    refine zRx.imul ⟨by omega, by omega⟩ dX12_readSeen_51 ?_
    refine zRx.iadd ⟨by omega, by omega⟩ dX12_readSeen_52 ?_
    refine zRx.aload_n 0 rfl rfl dX12_readSeen_53 ?_
    refine zRx.getR (a := 0) (b := 35) fl_12_135 rfl rfl dX12_readSeen_54 ?_
    refine zRx.iconst ⟨by decide, by decide⟩ dX12_readSeen_57 ?_
    refine zRx.ialdv (v := σ 35 2) rfl rfl (by decide) (by decide) dX12_readSeen_58 ?_
    refine zRx.iadd ⟨by omega, by omega⟩ dX12_readSeen_59 ?_
    refine zRx.goto (tgt := 64) dX12_readSeen_60 (by decide) ?_
    exact zR.iret rfl dX12_readSeen_64 ⟨by unfold V_X12_readSeen; rw [if_pos c32], rfl⟩

