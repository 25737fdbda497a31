/-! the reference reads a cord, and near ones -/
theorem band255 (x : Int) : 0 ≤ band x 255 ∧ band x 255 ≤ 255 := by
  unfold band
  have h : ∀ y : Int32, 0 ≤ (y &&& 255).toInt ∧ (y &&& 255).toInt ≤ 255 := by
    intro y
    have h1 : (y &&& 255).toBitVec.toNat ≤ 255 := by
      rw [Int32.toBitVec_and, BitVec.toNat_and]
      exact Nat.and_le_right
    rw [toInt_small (by omega)]
    omega
  exact h (iv x)
theorem mtakes_ok (σ : zG) (h : ¬ V_X12_takesCord σ = 0) : ∀ j : Int, 0 ≤ j → j < 4 → 0 ≤ F_X12_takesCord σ 35 j ∧ F_X12_takesCord σ 35 j ≤ 4 := by
  have b0 := band255 (σ 1 0)
  have b1 := band255 (σ 1 1)
  have b2' := band255 (σ 1 2)
  have b3 := band255 (σ 1 3)
  intro j h0 h4
  unfold V_X12_takesCord at h
  by_cases e0 : σ 0 2 = 4
  · rw [if_pos e0] at h
    by_cases e1 : band (σ 1 0) 255 ≤ 4
    · rw [if_pos e1] at h
      by_cases e2 : band (σ 1 1) 255 ≤ 4
      · rw [if_pos e2] at h
        by_cases e3 : band (σ 1 2) 255 ≤ 4
        · rw [if_pos e3] at h
          by_cases e4 : band (σ 1 3) 255 ≤ 4
          · unfold F_X12_takesCord
            rw [if_pos e0, if_pos e1, if_pos e2, if_pos e3]
            rcases (show j = 0 ∨ j = 1 ∨ j = 2 ∨ j = 3 by omega) with rfl | rfl | rfl | rfl <;> simp [zu] <;> omega
          · exact absurd (if_neg e4) h
        · exact absurd (if_neg e3) h
      · exact absurd (if_neg e2) h
    · exact absurd (if_neg e1) h
  · exact absurd (if_neg e0) h

def V_X12_read (σ : zG)  : Int := if (V_X12_takesCord (zu σ 0 0 0)) = 0 then (-2) else (V_X12_readSeen (F_X12_takesCord (zu σ 0 0 0)))
def F_X12_read (σ : zG)  : zG := F_X12_takesCord (zu σ 0 0 0)
theorem fr_F_X12_read (σ : zG)  {k : Nat} (h : k ∉ [0, 35]) : (F_X12_read σ ) k = σ k := by
  have ne : ∀ c ∈ [0, 35], k ≠ c := fun c hc e => h (e ▸ hc)
  have nk_F_X12_takesCord : k ∉ [0, 35] := fun hm => h (by first | (revert hm; simp only [List.mem_cons, List.not_mem_nil, or_false]; omega) | (simp at hm))
  unfold F_X12_read
  repeat' split
  all_goals first | rfl | simp only [zu_row _ _ _ (ne 0 (by decide)), zu_row _ _ _ (ne 35 (by decide)), fr_F_X12_takesCord (h := nk_F_X12_takesCord)]

set_option maxRecDepth 20000 in
theorem does_X12_read (σ : zG)   : zDo SM 2 m_X12_read [zP 0] σ (zEq (some (.inl (V_X12_read σ ))) (F_X12_read σ )) := by
  refine zDo.intro mk_X12_read (Nat.le_of_ble_eq_true rfl) ?_
  refine zRx.aload_n 0 rfl rfl dX12_read_0 ?_
  refine zRx.iconst ⟨by decide, by decide⟩ dX12_read_1 ?_
  refine zRx.putI (a := 0) (ji := 0) pl_12_1 rfl rfl rfl dX12_read_2 ?_
  refine zRx.aload_n 0 rfl rfl dX12_read_5 ?_
  refine zRx.cVi (w := .inl (V_X12_takesCord (zu σ 0 0 0))) (M := m_X12_takesCord) (av := []) cv_12_457 mk_X12_takesCord (by decide) (b := 0) rfl rfl (Nat.le_of_ble_eq_true rfl) dX12_read_6 (does_X12_takesCord (zu σ 0 0 0)) ?_
  refine zRx.if_eq (tgt := 19) dX12_read_9 (by decide) (fun c9 => ?_) (fun c9 => ?_)
  · refine zRx.bipush ⟨by decide, by decide⟩ rfl dX12_read_19 ?_
    exact zR.iret rfl dX12_read_21 ⟨by unfold V_X12_read; rw [if_pos c9], rfl⟩
  · refine zRx.aload_n 0 rfl rfl dX12_read_12 ?_
    refine zRx.cVi (w := .inl (V_X12_readSeen (F_X12_takesCord (zu σ 0 0 0)))) (M := m_X12_readSeen) (av := []) cv_12_460 mk_X12_readSeen (by decide) (b := 0) rfl rfl (Nat.le_of_ble_eq_true rfl) dX12_read_13 (does_X12_readSeen (F_X12_takesCord (zu σ 0 0 0)) (mtakes_ok (zu σ 0 0 0) c9)) ?_
    refine zRx.goto (tgt := 21) dX12_read_16 (by decide) ?_
    exact zR.iret rfl dX12_read_21 ⟨by unfold V_X12_read; rw [if_neg c9], rfl⟩

def S_X12_near_43 (kq : Int) : Nat → Int → Int → zG → Int × Int × zG
  | 0, ap, i, σ => (ap, i, σ)
  | n + 1, ap, i, σ => if 4 ≤ i then (ap, i, σ) else (if (σ 34 i) ≤ (σ 35 i) then (S_X12_near_43 kq n (ap + ((σ 35 i) - (σ 34 i))) (i + 1) σ) else (S_X12_near_43 kq n (ap + ((σ 34 i) - (σ 35 i))) (i + 1) σ))
theorem fr_S_X12_near_43 (kq : Int)  (n : Nat) (ap i : Int) (σ : zG) {k : Nat} (h : k ∉ []) : (S_X12_near_43 kq n ap i σ).2.2 k = σ k := by
  induction n generalizing ap i σ with
  | zero => rfl
  | succ n ih =>
    have ne : ∀ c ∈ [], k ≠ c := fun c hc e => h (e ▸ hc)
    rw [S_X12_near_43]
    repeat' split
    all_goals first | rfl | simp only [ih]

set_option maxRecDepth 20000 in
theorem seg_X12_near_43 (kq : Int)  (sm q : Int) : ∀ (n : Nat) (ap i : Int) (σ : zG) (X : zX), 0 ≤ i ∧ i ≤ 4 → 0 ≤ ap ∧ ap ≤ 4 * i → (∀ j : Int, 0 ≤ j → j < 4 → 0 ≤ σ 34 j ∧ σ 34 j ≤ 4) → (∀ j : Int, 0 ≤ j → j < 4 → 0 ≤ σ 35 j ∧ σ 35 j ≤ 4) → (4 - i).toNat < n → zRx none 2 m_X12_near SM 110 [(0, zP 0), (1, .inl kq), (2, .inl sm), (3, .inl q), (4, .inl ((S_X12_near_43 kq n ap i σ).1)), (5, .inl ((S_X12_near_43 kq n ap i σ).2.1))] [] ((S_X12_near_43 kq n ap i σ).2.2) X → zRx none 2 m_X12_near SM 43 [(0, zP 0), (1, .inl kq), (2, .inl sm), (3, .inl q), (4, .inl ap), (5, .inl i)] [] σ X := by
  intro n
  induction n with
  | zero => intro ap i σ X h0 h1 hL hK hmz; exact absurd hmz (Nat.not_lt_zero _)
  | succ n ih =>
    intro ap i σ X h0 h1 hL hK hmz K
    refine zRx.iload 5 rfl dX12_near_43 ?_
    refine zRx.iconst ⟨by decide, by decide⟩ dX12_near_45 ?_
    refine zRx.icmp_ge (tgt := 110) dX12_near_46 (by decide) (fun c46 => ?_) (fun c46 => ?_)
    · have he : S_X12_near_43 kq (n + 1) ap i σ = (ap, i, σ) := by rw [S_X12_near_43, if_pos c46]
      rw [he] at K
      exact K
    · have kA := hL i (by omega) (by omega)
      have kB := hK i (by omega) (by omega)
      refine zRx.iload 4 rfl dX12_near_49 ?_
      refine zRx.aload_n 0 rfl rfl dX12_near_51 ?_
      refine zRx.getR (a := 0) (b := 34) fl_12_132 rfl rfl dX12_near_52 ?_
      refine zRx.iload 5 rfl dX12_near_55 ?_
      refine zRx.ialdv (v := σ 34 i) rfl rfl (by omega) (by omega) dX12_near_57 ?_
      refine zRx.aload_n 0 rfl rfl dX12_near_58 ?_
      refine zRx.getR (a := 0) (b := 35) fl_12_135 rfl rfl dX12_near_59 ?_
      refine zRx.iload 5 rfl dX12_near_62 ?_
      refine zRx.ialdv (v := σ 35 i) rfl rfl (by omega) (by omega) dX12_near_64 ?_
      refine zRx.icmp_le (tgt := 86) dX12_near_65 (by decide) (fun c65 => ?_) (fun c65 => ?_)
      · refine zRx.aload_n 0 rfl rfl dX12_near_86 ?_
        refine zRx.getR (a := 0) (b := 35) fl_12_135 rfl rfl dX12_near_87 ?_
        refine zRx.iload 5 rfl dX12_near_90 ?_
        refine zRx.ialdv (v := σ 35 i) rfl rfl (by omega) (by omega) dX12_near_92 ?_
        refine zRx.aload_n 0 rfl rfl dX12_near_93 ?_
        refine zRx.getR (a := 0) (b := 34) fl_12_132 rfl rfl dX12_near_94 ?_
        refine zRx.iload 5 rfl dX12_near_97 ?_
        refine zRx.ialdv (v := σ 34 i) rfl rfl (by omega) (by omega) dX12_near_99 ?_
        refine zRx.isub ⟨by omega, by omega⟩ dX12_near_100 ?_
        refine zRx.iadd ⟨by omega, by omega⟩ dX12_near_101 ?_
        refine zRx.istore (ls' := [(0, zP 0), (1, .inl kq), (2, .inl sm), (3, .inl q), (4, .inl (ap + ((σ 35 i) - (σ 34 i)))), (5, .inl i)]) rfl (by decide) dX12_near_102 ?_
        refine zRx.iinc (n := 1) (ls' := [(0, zP 0), (1, .inl kq), (2, .inl sm), (3, .inl q), (4, .inl (ap + ((σ 35 i) - (σ 34 i)))), (5, .inl (i + 1))]) 5 rfl ⟨by omega, by omega⟩ rfl (by decide) dX12_near_104 ?_
        refine zRx.goto (tgt := 43) dX12_near_107 (by decide) ?_
        have he : S_X12_near_43 kq (n + 1) ap i σ = S_X12_near_43 kq n (ap + ((σ 35 i) - (σ 34 i))) (i + 1) σ := by rw [S_X12_near_43, if_neg (Int.not_le.mpr c46), if_pos c65]
        rw [he] at K
        exact ih (ap + ((σ 35 i) - (σ 34 i))) (i + 1) σ _ (by omega) (by omega) hL hK (by omega) K
      · refine zRx.aload_n 0 rfl rfl dX12_near_68 ?_
        refine zRx.getR (a := 0) (b := 34) fl_12_132 rfl rfl dX12_near_69 ?_
        refine zRx.iload 5 rfl dX12_near_72 ?_
        refine zRx.ialdv (v := σ 34 i) rfl rfl (by omega) (by omega) dX12_near_74 ?_
        refine zRx.aload_n 0 rfl rfl dX12_near_75 ?_
        refine zRx.getR (a := 0) (b := 35) fl_12_135 rfl rfl dX12_near_76 ?_
        refine zRx.iload 5 rfl dX12_near_79 ?_
        refine zRx.ialdv (v := σ 35 i) rfl rfl (by omega) (by omega) dX12_near_81 ?_
        refine zRx.isub ⟨by omega, by omega⟩ dX12_near_82 ?_
        refine zRx.goto (tgt := 101) dX12_near_83 (by decide) ?_
        refine zRx.iadd ⟨by omega, by omega⟩ dX12_near_101 ?_
        refine zRx.istore (ls' := [(0, zP 0), (1, .inl kq), (2, .inl sm), (3, .inl q), (4, .inl (ap + ((σ 34 i) - (σ 35 i)))), (5, .inl i)]) rfl (by decide) dX12_near_102 ?_
        refine zRx.iinc (n := 1) (ls' := [(0, zP 0), (1, .inl kq), (2, .inl sm), (3, .inl q), (4, .inl (ap + ((σ 34 i) - (σ 35 i)))), (5, .inl (i + 1))]) 5 rfl ⟨by omega, by omega⟩ rfl (by decide) dX12_near_104 ?_
        refine zRx.goto (tgt := 43) dX12_near_107 (by decide) ?_
        have he : S_X12_near_43 kq (n + 1) ap i σ = S_X12_near_43 kq n (ap + ((σ 34 i) - (σ 35 i))) (i + 1) σ := by rw [S_X12_near_43, if_neg (Int.not_le.mpr c46), if_neg (Int.not_le.mpr c65)]
        rw [he] at K
        exact ih (ap + ((σ 34 i) - (σ 35 i))) (i + 1) σ _ (by omega) (by omega) hL hK (by omega) K
def L_X12_near_26 (kq : Int) : Nat → Int → Int → zG → Int × zG
  | 0, _, _, σ => (0, σ)
  | n + 1, sm, q, σ => if 125 ≤ q then (if kq = (-1) then (sm, σ) else ((-1), σ)) else (if ((S_X12_near_43 kq 10 0 0 (F_X12_lay σ q)).1) = 1 then (if sm = kq then (q, (S_X12_near_43 kq 10 0 0 (F_X12_lay σ q)).2.2) else (L_X12_near_26 kq n (sm + 1) (q + 1) ((S_X12_near_43 kq 10 0 0 (F_X12_lay σ q)).2.2))) else (L_X12_near_26 kq n sm (q + 1) ((S_X12_near_43 kq 10 0 0 (F_X12_lay σ q)).2.2)))
theorem fr_L_X12_near_26 (kq : Int)  (n : Nat) (sm q : Int) (σ : zG) {k : Nat} (h : k ∉ [34]) : (L_X12_near_26 kq n sm q σ).2 k = σ k := by
  induction n generalizing sm q σ with
  | zero => rfl
  | succ n ih =>
    have ne : ∀ c ∈ [34], k ≠ c := fun c hc e => h (e ▸ hc)
    have nk_S_X12_near_43 : k ∉ [] := fun hm => h (by first | (revert hm; simp only [List.mem_cons, List.not_mem_nil, or_false]; omega) | (simp at hm))
    have nk_F_X12_lay : k ∉ [34] := fun hm => h (by first | (revert hm; simp only [List.mem_cons, List.not_mem_nil, or_false]; omega) | (simp at hm))
    rw [L_X12_near_26]
    repeat' split
    all_goals first | rfl | simp only [zu_row _ _ _ (ne 34 (by decide)), fr_S_X12_near_43 (h := nk_S_X12_near_43), fr_F_X12_lay (h := nk_F_X12_lay), ih]

set_option maxRecDepth 20000 in
theorem loop_X12_near_26 (kq : Int)  : ∀ (n : Nat) (sm q : Int) (σ : zG), 0 ≤ q ∧ 0 ≤ sm ∧ sm ≤ q → (∀ j : Int, 0 ≤ j → j < 4 → 0 ≤ σ 35 j ∧ σ 35 j ≤ 4) → (125 - q).toNat < n → zR SM 2 m_X12_near 26 [(0, zP 0), (1, .inl kq), (2, .inl sm), (3, .inl q)] [] σ (zEq (some (.inl (L_X12_near_26 kq n sm q σ).1)) (L_X12_near_26 kq n sm q σ).2) := by
  intro n
  induction n with
  | zero => intro sm q σ h0 hK hmz; exact absurd hmz (Nat.not_lt_zero _)
  | succ n ih =>
    intro sm q σ h0 hK hmz
    refine zRx.iload_n 3 rfl rfl dX12_near_26 ?_
    refine zRx.bipush ⟨by decide, by decide⟩ rfl dX12_near_27 ?_
    refine zRx.icmp_ge (tgt := 135) dX12_near_29 (by decide) (fun c29 => ?_) (fun c29 => ?_)
    · refine zRx.iload_n 1 rfl rfl dX12_near_135 ?_
      refine zRx.iconst ⟨by decide, by decide⟩ dX12_near_136 ?_
      refine zRx.icmp_ne (tgt := 144) dX12_near_137 (by decide) (fun c137 => ?_) (fun c137 => ?_)
      · refine zRx.iconst ⟨by decide, by decide⟩ dX12_near_144 ?_
        exact zR.iret rfl dX12_near_145 (by have he : L_X12_near_26 kq (n + 1) sm q σ = ((-1), σ) := (by rw [L_X12_near_26, if_pos c29, if_neg c137]); rw [he]; exact ⟨rfl, rfl⟩)
      · refine zRx.iload_n 2 rfl rfl dX12_near_140 ?_
        refine zRx.goto (tgt := 145) dX12_near_141 (by decide) ?_
        exact zR.iret rfl dX12_near_145 (by have he : L_X12_near_26 kq (n + 1) sm q σ = (sm, σ) := (by rw [L_X12_near_26, if_pos c29, if_pos c137]); rw [he]; exact ⟨rfl, rfl⟩)
    · refine zRx.aload_n 0 rfl rfl dX12_near_32 ?_
      refine zRx.iload_n 3 rfl rfl dX12_near_33 ?_
      refine zRx.cVv (M := m_X12_lay) (av := [.inl q]) cv_12_454 mk_X12_lay (by decide) (b := 0) rfl rfl (Nat.le_of_ble_eq_true rfl) dX12_near_34 (does_X12_lay σ q (by omega)) ?_
      refine zRx.iconst ⟨by decide, by decide⟩ dX12_near_37 ?_
      refine zRx.istore (ls' := [(0, zP 0), (1, .inl kq), (2, .inl sm), (3, .inl q), (4, .inl 0)]) rfl (by decide) dX12_near_38 ?_
      refine zRx.iconst ⟨by decide, by decide⟩ dX12_near_40 ?_
      refine zRx.istore (ls' := [(0, zP 0), (1, .inl kq), (2, .inl sm), (3, .inl q), (4, .inl 0), (5, .inl 0)]) rfl (by decide) dX12_near_41 ?_
      refine seg_X12_near_43 kq  sm q 10 0 0 (F_X12_lay σ q) _ (by omega) (by omega) (lay_r σ q (by omega)) (fun j j0 j4 => by rw [show (F_X12_lay σ q) 35 j = σ 35 j from (congrFun (fr_F_X12_lay σ q (k := 35) (by decide)) _)]; exact hK j j0 j4) (by omega) ?_
      refine zRx.iload 4 rfl dX12_near_110 ?_
      refine zRx.iconst ⟨by decide, by decide⟩ dX12_near_112 ?_
      refine zRx.icmp_eq (tgt := 119) dX12_near_113 (by decide) (fun c113 => ?_) (fun c113 => ?_)
      · refine zRx.iload_n 2 rfl rfl dX12_near_119 ?_
        refine zRx.iload_n 1 rfl rfl dX12_near_120 ?_
        refine zRx.icmp_ne (tgt := 126) dX12_near_121 (by decide) (fun c121 => ?_) (fun c121 => ?_)
        · refine zRx.iinc (n := 1) (ls' := [(0, zP 0), (1, .inl kq), (2, .inl (sm + 1)), (3, .inl q), (4, .inl ((S_X12_near_43 kq 10 0 0 (F_X12_lay σ q)).1)), (5, .inl ((S_X12_near_43 kq 10 0 0 (F_X12_lay σ q)).2.1))]) 2 rfl ⟨by omega, by omega⟩ rfl (by decide) dX12_near_126 ?_
          refine zRx.iinc (n := 1) (ls' := [(0, zP 0), (1, .inl kq), (2, .inl (sm + 1)), (3, .inl (q + 1)), (4, .inl ((S_X12_near_43 kq 10 0 0 (F_X12_lay σ q)).1)), (5, .inl ((S_X12_near_43 kq 10 0 0 (F_X12_lay σ q)).2.1))]) 3 rfl ⟨by omega, by omega⟩ rfl (by decide) dX12_near_129 ?_
          refine zRx.goto (tgt := 26) dX12_near_132 (by decide) ?_
          refine zRx.pick [0, 1, 2, 3] (ls' := [(0, zP 0), (1, .inl kq), (2, .inl (sm + 1)), (3, .inl (q + 1))]) rfl ?_
          have he : L_X12_near_26 kq (n + 1) sm q σ = L_X12_near_26 kq n (sm + 1) (q + 1) ((S_X12_near_43 kq 10 0 0 (F_X12_lay σ q)).2.2) := by rw [L_X12_near_26, if_neg (Int.not_le.mpr c29), if_pos c113, if_neg c121]
          rw [he]
          exact ih (sm + 1) (q + 1) ((S_X12_near_43 kq 10 0 0 (F_X12_lay σ q)).2.2) (by omega) (fun j j0 j4 => by rw [show ((S_X12_near_43 kq 10 0 0 (F_X12_lay σ q)).2.2) 35 j = σ 35 j from ((congrFun (fr_S_X12_near_43 kq  10 0 0 (F_X12_lay σ q) (k := 35) (by decide)) _).trans (congrFun (fr_F_X12_lay σ q (k := 35) (by decide)) _))]; exact hK j j0 j4) (by omega)
        · refine zRx.iload_n 3 rfl rfl dX12_near_124 ?_
          exact zR.iret rfl dX12_near_125 (by have he : L_X12_near_26 kq (n + 1) sm q σ = (q, (S_X12_near_43 kq 10 0 0 (F_X12_lay σ q)).2.2) := (by rw [L_X12_near_26, if_neg (Int.not_le.mpr c29), if_pos c113, if_pos c121]); rw [he]; exact ⟨rfl, rfl⟩)
      · refine zRx.goto (tgt := 129) dX12_near_116 (by decide) ?_
        refine zRx.iinc (n := 1) (ls' := [(0, zP 0), (1, .inl kq), (2, .inl sm), (3, .inl (q + 1)), (4, .inl ((S_X12_near_43 kq 10 0 0 (F_X12_lay σ q)).1)), (5, .inl ((S_X12_near_43 kq 10 0 0 (F_X12_lay σ q)).2.1))]) 3 rfl ⟨by omega, by omega⟩ rfl (by decide) dX12_near_129 ?_
        refine zRx.goto (tgt := 26) dX12_near_132 (by decide) ?_
        refine zRx.pick [0, 1, 2, 3] (ls' := [(0, zP 0), (1, .inl kq), (2, .inl sm), (3, .inl (q + 1))]) rfl ?_
        have he : L_X12_near_26 kq (n + 1) sm q σ = L_X12_near_26 kq n sm (q + 1) ((S_X12_near_43 kq 10 0 0 (F_X12_lay σ q)).2.2) := by rw [L_X12_near_26, if_neg (Int.not_le.mpr c29), if_neg c113]
        rw [he]
        exact ih sm (q + 1) ((S_X12_near_43 kq 10 0 0 (F_X12_lay σ q)).2.2) (by omega) (fun j j0 j4 => by rw [show ((S_X12_near_43 kq 10 0 0 (F_X12_lay σ q)).2.2) 35 j = σ 35 j from ((congrFun (fr_S_X12_near_43 kq  10 0 0 (F_X12_lay σ q) (k := 35) (by decide)) _).trans (congrFun (fr_F_X12_lay σ q (k := 35) (by decide)) _))]; exact hK j j0 j4) (by omega)
def R_X12_near (σ : zG) (kq : Int) : Int × zG := if (V_X12_takesCord (zu σ 0 0 0)) = 0 then ((-2), F_X12_takesCord (zu σ 0 0 0)) else (if (-1) ≤ kq then (L_X12_near_26 kq 130 0 0 (F_X12_takesCord (zu σ 0 0 0))) else ((-1), F_X12_takesCord (zu σ 0 0 0)))
theorem fr_R_X12_near (σ : zG) (kq : Int) {k : Nat} (h : k ∉ [0, 34, 35]) : (R_X12_near σ kq).2 k = σ k := by
  have ne : ∀ c ∈ [0, 34, 35], k ≠ c := fun c hc e => h (e ▸ hc)
  have nk_F_X12_takesCord : k ∉ [0, 35] := fun hm => h (by first | (revert hm; simp only [List.mem_cons, List.not_mem_nil, or_false]; omega) | (simp at hm))
  have nl_S_X12_near_43 : k ∉ [] := fun hm => h (by first | (revert hm; simp only [List.mem_cons, List.not_mem_nil, or_false]; omega) | (simp at hm))
  have nl_L_X12_near_26 : k ∉ [34] := fun hm => h (by first | (revert hm; simp only [List.mem_cons, List.not_mem_nil, or_false]; omega) | (simp at hm))
  unfold R_X12_near
  repeat' split
  all_goals first | rfl | simp only [zu_row _ _ _ (ne 0 (by decide)), zu_row _ _ _ (ne 34 (by decide)), zu_row _ _ _ (ne 35 (by decide)), fr_F_X12_takesCord (h := nk_F_X12_takesCord), fr_S_X12_near_43 (h := nl_S_X12_near_43), fr_L_X12_near_26 (h := nl_L_X12_near_26)]

set_option maxRecDepth 20000 in
theorem does_X12_near (σ : zG) (kq : Int)   : zDo SM 2 m_X12_near [zP 0, .inl kq] σ (zEq (some (.inl (R_X12_near σ kq).1)) (R_X12_near σ kq).2) := by
  refine zDo.intro mk_X12_near (Nat.le_of_ble_eq_true rfl) ?_
  refine zRx.aload_n 0 rfl rfl dX12_near_0 ?_
  refine zRx.iconst ⟨by decide, by decide⟩ dX12_near_1 ?_
  refine zRx.putI (a := 0) (ji := 0) pl_12_1 rfl rfl rfl dX12_near_2 ?_
  refine zRx.aload_n 0 rfl rfl dX12_near_5 ?_
  refine zRx.cVi (w := .inl (V_X12_takesCord (zu σ 0 0 0))) (M := m_X12_takesCord) (av := []) cv_12_457 mk_X12_takesCord (by decide) (b := 0) rfl rfl (Nat.le_of_ble_eq_true rfl) dX12_near_6 (does_X12_takesCord (zu σ 0 0 0)) ?_
  refine zRx.if_ne (tgt := 15) dX12_near_9 (by decide) (fun c9 => ?_) (fun c9 => ?_)
  · refine zRx.iload_n 1 rfl rfl dX12_near_15 ?_
    refine zRx.iconst ⟨by decide, by decide⟩ dX12_near_16 ?_
    refine zRx.icmp_ge (tgt := 22) dX12_near_17 (by decide) (fun c17 => ?_) (fun c17 => ?_)
    · refine zRx.iconst ⟨by decide, by decide⟩ dX12_near_22 ?_
      refine zRx.istore_n (ls' := [(0, zP 0), (1, .inl kq), (2, .inl 0)]) rfl rfl (by decide) dX12_near_23 ?_
      refine zRx.iconst ⟨by decide, by decide⟩ dX12_near_24 ?_
      refine zRx.istore_n (ls' := [(0, zP 0), (1, .inl kq), (2, .inl 0), (3, .inl 0)]) rfl rfl (by decide) dX12_near_25 ?_
      have he : R_X12_near σ kq = L_X12_near_26 kq 130 0 0 (F_X12_takesCord (zu σ 0 0 0)) := by rw [R_X12_near, if_neg c9, if_pos c17]
      rw [he]
      exact loop_X12_near_26 kq   130 0 0 (F_X12_takesCord (zu σ 0 0 0)) (by omega) (mtakes_ok (zu σ 0 0 0) c9) (by omega)
    · refine zRx.iconst ⟨by decide, by decide⟩ dX12_near_20 ?_
      exact zR.iret rfl dX12_near_21 (by have he : R_X12_near σ kq = ((-1), F_X12_takesCord (zu σ 0 0 0)) := (by rw [R_X12_near, if_neg c9, if_neg (Int.not_le.mpr c17)]); rw [he]; exact ⟨rfl, rfl⟩)
  · refine zRx.bipush ⟨by decide, by decide⟩ rfl dX12_near_12 ?_
    exact zR.iret rfl dX12_near_14 (by have he : R_X12_near σ kq = ((-2), F_X12_takesCord (zu σ 0 0 0)) := (by rw [R_X12_near, if_pos c9]); rw [he]; exact ⟨rfl, rfl⟩)

