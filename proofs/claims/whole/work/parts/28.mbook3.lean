/-! the reference: autumn, led, ripple -/
def S_X12_autumn_56 (i : Int) : Nat → Int → Int → zG → Int × Int × zG
  | 0, sm, q, σ => (sm, q, σ)
  | n + 1, sm, q, σ => if 8 ≤ q then (sm, q, σ) else (if i = 4 then (S_X12_autumn_56 i n (w32 (sm + (σ 13 q))) (q + 1) σ) else (sm, q, σ))
theorem fr_S_X12_autumn_56 (i : Int)  (n : Nat) (sm q : Int) (σ : zG) {k : Nat} (h : k ∉ []) : (S_X12_autumn_56 i n sm q σ).2.2 k = σ k := by
  induction n generalizing sm q σ with
  | zero => rfl
  | succ n ih =>
    have ne : ∀ c ∈ [], k ≠ c := fun c hc e => h (e ▸ hc)
    rw [S_X12_autumn_56]
    repeat' split
    all_goals first | rfl | simp only [ih]

set_option maxRecDepth 20000 in
theorem seg_X12_autumn_56 (i : Int)  : ∀ (n : Nat) (sm q : Int) (σ : zG) (X : zX), 0 ≤ q → σ 0 43 ≤ 420 → (8 - q).toNat < n → zRx none 6 m_X12_autumn SM 82 [(0, zP 0), (1, .inl i), (2, .inl ((S_X12_autumn_56 i n sm q σ).1)), (3, .inl ((S_X12_autumn_56 i n sm q σ).2.1))] [] ((S_X12_autumn_56 i n sm q σ).2.2) X → zRx none 6 m_X12_autumn SM 56 [(0, zP 0), (1, .inl i), (2, .inl sm), (3, .inl q)] [] σ X := by
  intro n
  induction n with
  | zero => intro sm q σ X h0 hm hmz; exact absurd hmz (Nat.not_lt_zero _)
  | succ n ih =>
    intro sm q σ X h0 hm hmz K
    refine zRx.iload_n 3 rfl rfl dX12_autumn_56 ?_
    refine zRx.bipush ⟨by decide, by decide⟩ rfl dX12_autumn_57 ?_
    refine zRx.icmp_ge (tgt := 82) dX12_autumn_59 (by decide) (fun c59 => ?_) (fun c59 => ?_)
    · have he : S_X12_autumn_56 i (n + 1) sm q σ = (sm, q, σ) := by rw [S_X12_autumn_56, if_pos c59]
      rw [he] at K
      exact K
    · refine zRx.iload_n 1 rfl rfl dX12_autumn_62 ?_
      refine zRx.iconst ⟨by decide, by decide⟩ dX12_autumn_63 ?_
      refine zRx.icmp_ne (tgt := 82) dX12_autumn_64 (by decide) (fun c64 => ?_) (fun c64 => ?_)
      · have he : S_X12_autumn_56 i (n + 1) sm q σ = (sm, q, σ) := by rw [S_X12_autumn_56, if_neg (Int.not_le.mpr c59), if_neg c64]
        rw [he] at K
        exact K
      · refine zRx.iload_n 2 rfl rfl dX12_autumn_67 ?_
        refine zRx.aload_n 0 rfl rfl dX12_autumn_68 ?_
        refine zRx.getR (a := 0) (b := 13) fl_12_68 rfl rfl dX12_autumn_69 ?_
        refine zRx.iload_n 3 rfl rfl dX12_autumn_72 ?_
        refine zRx.ialdv (v := σ 13 q) rfl rfl (by omega) (by omega) dX12_autumn_73 ?_
        refine zRx.iaddW dX12_autumn_74 ?_
        refine zRx.istore_n (ls' := [(0, zP 0), (1, .inl i), (2, .inl (w32 (sm + (σ 13 q)))), (3, .inl q)]) rfl rfl (by decide) dX12_autumn_75 ?_
        refine zRx.iinc (n := 1) (ls' := [(0, zP 0), (1, .inl i), (2, .inl (w32 (sm + (σ 13 q)))), (3, .inl (q + 1))]) 3 rfl ⟨by omega, by omega⟩ rfl (by decide) dX12_autumn_76 ?_
        refine zRx.goto (tgt := 56) dX12_autumn_79 (by decide) ?_
        have he : S_X12_autumn_56 i (n + 1) sm q σ = S_X12_autumn_56 i n (w32 (sm + (σ 13 q))) (q + 1) σ := by rw [S_X12_autumn_56, if_neg (Int.not_le.mpr c59), if_pos c64]
        rw [he] at K
        exact ih (w32 (sm + (σ 13 q))) (q + 1) σ _ (by omega) hm (by omega) K
def L_X12_autumn_84 (i : Int) : Nat → Int → Int → zG → Int × zG
  | 0, _, _, σ => (0, σ)
  | n + 1, sm, q, σ => if (σ 0 43) ≤ q then (sm, σ) else (if i = 4 then (sm, σ) else (if i = 1 then (if (σ 20 q) ≤ 0 then (L_X12_autumn_84 i n (w32 (sm + 0)) (q + 1) σ) else (L_X12_autumn_84 i n (w32 (sm + 1)) (q + 1) σ)) else (if i = 2 then (if (V_X12_isLate σ q) = 0 then (L_X12_autumn_84 i n (w32 (sm + 0)) (q + 1) σ) else (L_X12_autumn_84 i n (w32 (sm + 1)) (q + 1) σ)) else (L_X12_autumn_84 i n (w32 (sm + (σ 23 q))) (q + 1) σ))))
theorem fr_L_X12_autumn_84 (i : Int)  (n : Nat) (sm q : Int) (σ : zG) {k : Nat} (h : k ∉ []) : (L_X12_autumn_84 i n sm q σ).2 k = σ k := by
  induction n generalizing sm q σ with
  | zero => rfl
  | succ n ih =>
    have ne : ∀ c ∈ [], k ≠ c := fun c hc e => h (e ▸ hc)
    rw [L_X12_autumn_84]
    repeat' split
    all_goals first | rfl | simp only [ih]

set_option maxRecDepth 20000 in
theorem loop_X12_autumn_84 (i : Int)  : ∀ (n : Nat) (sm q : Int) (σ : zG), 0 ≤ q → σ 0 43 ≤ 420 → (σ 0 43 - q).toNat < n → zR SM 6 m_X12_autumn 84 [(0, zP 0), (1, .inl i), (2, .inl sm), (3, .inl q)] [] σ (zEq (some (.inl (L_X12_autumn_84 i n sm q σ).1)) (L_X12_autumn_84 i n sm q σ).2) := by
  intro n
  induction n with
  | zero => intro sm q σ h0 hm hmz; exact absurd hmz (Nat.not_lt_zero _)
  | succ n ih =>
    intro sm q σ h0 hm hmz
    refine zRx.iload_n 3 rfl rfl dX12_autumn_84 ?_
    refine zRx.aload_n 0 rfl rfl dX12_autumn_85 ?_
    refine zRx.getIv (a := 0) (ji := 43) (v := σ 0 43) rfl fl_12_357 rfl rfl rfl dX12_autumn_86 ?_
    refine zRx.icmp_ge (tgt := 155) dX12_autumn_89 (by decide) (fun c89 => ?_) (fun c89 => ?_)
    · refine zRx.iload_n 2 rfl rfl dX12_autumn_155 ?_
      exact zR.iret rfl dX12_autumn_156 (by have he : L_X12_autumn_84 i (n + 1) sm q σ = (sm, σ) := (by rw [L_X12_autumn_84, if_pos c89]); rw [he]; exact ⟨rfl, rfl⟩)
    · refine zRx.iload_n 1 rfl rfl dX12_autumn_92 ?_
      refine zRx.iconst ⟨by decide, by decide⟩ dX12_autumn_93 ?_
      refine zRx.icmp_eq (tgt := 155) dX12_autumn_94 (by decide) (fun c94 => ?_) (fun c94 => ?_)
      · refine zRx.iload_n 2 rfl rfl dX12_autumn_155 ?_
        exact zR.iret rfl dX12_autumn_156 (by have he : L_X12_autumn_84 i (n + 1) sm q σ = (sm, σ) := (by rw [L_X12_autumn_84, if_neg (Int.not_le.mpr c89), if_pos c94]); rw [he]; exact ⟨rfl, rfl⟩)
      · refine zRx.iload_n 2 rfl rfl dX12_autumn_97 ?_
        refine zRx.iload_n 1 rfl rfl dX12_autumn_98 ?_
        refine zRx.iconst ⟨by decide, by decide⟩ dX12_autumn_99 ?_
        refine zRx.icmp_ne (tgt := 120) dX12_autumn_100 (by decide) (fun c100 => ?_) (fun c100 => ?_)
        · refine zRx.iload_n 1 rfl rfl dX12_autumn_120 ?_
          refine zRx.iconst ⟨by decide, by decide⟩ dX12_autumn_121 ?_
          refine zRx.icmp_ne (tgt := 141) dX12_autumn_122 (by decide) (fun c122 => ?_) (fun c122 => ?_)
          · refine zRx.aload_n 0 rfl rfl dX12_autumn_141 ?_
            refine zRx.getR (a := 0) (b := 23) fl_12_98 rfl rfl dX12_autumn_142 ?_
            refine zRx.iload_n 3 rfl rfl dX12_autumn_145 ?_
            refine zRx.ialdv (v := σ 23 q) rfl rfl (by omega) (by omega) dX12_autumn_146 ?_
            refine zRx.iaddW dX12_autumn_147 ?_
            refine zRx.istore_n (ls' := [(0, zP 0), (1, .inl i), (2, .inl (w32 (sm + (σ 23 q)))), (3, .inl q)]) rfl rfl (by decide) dX12_autumn_148 ?_
            refine zRx.iinc (n := 1) (ls' := [(0, zP 0), (1, .inl i), (2, .inl (w32 (sm + (σ 23 q)))), (3, .inl (q + 1))]) 3 rfl ⟨by omega, by omega⟩ rfl (by decide) dX12_autumn_149 ?_
            refine zRx.goto (tgt := 84) dX12_autumn_152 (by decide) ?_
            have he : L_X12_autumn_84 i (n + 1) sm q σ = L_X12_autumn_84 i n (w32 (sm + (σ 23 q))) (q + 1) σ := by rw [L_X12_autumn_84, if_neg (Int.not_le.mpr c89), if_neg c94, if_neg c100, if_neg c122]
            rw [he]
            exact ih (w32 (sm + (σ 23 q))) (q + 1) σ (by omega) hm (by omega)
          · refine zRx.aload_n 0 rfl rfl dX12_autumn_125 ?_
            refine zRx.iload_n 3 rfl rfl dX12_autumn_126 ?_
            refine zRx.cVi (w := .inl (V_X12_isLate σ q)) (M := m_X12_isLate) (av := [.inl q]) cv_12_403 mk_X12_isLate (by decide) (b := 0) rfl rfl (Nat.le_of_ble_eq_true rfl) dX12_autumn_127 (does_X12_isLate σ q (by omega)) ?_
            refine zRx.if_eq (tgt := 137) dX12_autumn_130 (by decide) (fun c130 => ?_) (fun c130 => ?_)
            · refine zRx.iconst ⟨by decide, by decide⟩ dX12_autumn_137 ?_
              refine zRx.goto (tgt := 147) dX12_autumn_138 (by decide) ?_
              refine zRx.iaddW dX12_autumn_147 ?_
              refine zRx.istore_n (ls' := [(0, zP 0), (1, .inl i), (2, .inl (w32 (sm + 0))), (3, .inl q)]) rfl rfl (by decide) dX12_autumn_148 ?_
              refine zRx.iinc (n := 1) (ls' := [(0, zP 0), (1, .inl i), (2, .inl (w32 (sm + 0))), (3, .inl (q + 1))]) 3 rfl ⟨by omega, by omega⟩ rfl (by decide) dX12_autumn_149 ?_
              refine zRx.goto (tgt := 84) dX12_autumn_152 (by decide) ?_
              have he : L_X12_autumn_84 i (n + 1) sm q σ = L_X12_autumn_84 i n (w32 (sm + 0)) (q + 1) σ := by rw [L_X12_autumn_84, if_neg (Int.not_le.mpr c89), if_neg c94, if_neg c100, if_pos c122, if_pos c130]
              rw [he]
              exact ih (w32 (sm + 0)) (q + 1) σ (by omega) hm (by omega)
            · refine zRx.iconst ⟨by decide, by decide⟩ dX12_autumn_133 ?_
              refine zRx.goto (tgt := 147) dX12_autumn_134 (by decide) ?_
              refine zRx.iaddW dX12_autumn_147 ?_
              refine zRx.istore_n (ls' := [(0, zP 0), (1, .inl i), (2, .inl (w32 (sm + 1))), (3, .inl q)]) rfl rfl (by decide) dX12_autumn_148 ?_
              refine zRx.iinc (n := 1) (ls' := [(0, zP 0), (1, .inl i), (2, .inl (w32 (sm + 1))), (3, .inl (q + 1))]) 3 rfl ⟨by omega, by omega⟩ rfl (by decide) dX12_autumn_149 ?_
              refine zRx.goto (tgt := 84) dX12_autumn_152 (by decide) ?_
              have he : L_X12_autumn_84 i (n + 1) sm q σ = L_X12_autumn_84 i n (w32 (sm + 1)) (q + 1) σ := by rw [L_X12_autumn_84, if_neg (Int.not_le.mpr c89), if_neg c94, if_neg c100, if_pos c122, if_neg c130]
              rw [he]
              exact ih (w32 (sm + 1)) (q + 1) σ (by omega) hm (by omega)
        · refine zRx.aload_n 0 rfl rfl dX12_autumn_103 ?_
          refine zRx.getR (a := 0) (b := 20) fl_12_89 rfl rfl dX12_autumn_104 ?_
          refine zRx.iload_n 3 rfl rfl dX12_autumn_107 ?_
          refine zRx.ialdv (v := σ 20 q) rfl rfl (by omega) (by omega) dX12_autumn_108 ?_
          refine zRx.if_le (tgt := 116) dX12_autumn_109 (by decide) (fun c109 => ?_) (fun c109 => ?_)
          · refine zRx.iconst ⟨by decide, by decide⟩ dX12_autumn_116 ?_
            refine zRx.goto (tgt := 147) dX12_autumn_117 (by decide) ?_
            refine zRx.iaddW dX12_autumn_147 ?_
            refine zRx.istore_n (ls' := [(0, zP 0), (1, .inl i), (2, .inl (w32 (sm + 0))), (3, .inl q)]) rfl rfl (by decide) dX12_autumn_148 ?_
            refine zRx.iinc (n := 1) (ls' := [(0, zP 0), (1, .inl i), (2, .inl (w32 (sm + 0))), (3, .inl (q + 1))]) 3 rfl ⟨by omega, by omega⟩ rfl (by decide) dX12_autumn_149 ?_
            refine zRx.goto (tgt := 84) dX12_autumn_152 (by decide) ?_
            have he : L_X12_autumn_84 i (n + 1) sm q σ = L_X12_autumn_84 i n (w32 (sm + 0)) (q + 1) σ := by rw [L_X12_autumn_84, if_neg (Int.not_le.mpr c89), if_neg c94, if_pos c100, if_pos c109]
            rw [he]
            exact ih (w32 (sm + 0)) (q + 1) σ (by omega) hm (by omega)
          · refine zRx.iconst ⟨by decide, by decide⟩ dX12_autumn_112 ?_
            refine zRx.goto (tgt := 147) dX12_autumn_113 (by decide) ?_
            refine zRx.iaddW dX12_autumn_147 ?_
            refine zRx.istore_n (ls' := [(0, zP 0), (1, .inl i), (2, .inl (w32 (sm + 1))), (3, .inl q)]) rfl rfl (by decide) dX12_autumn_148 ?_
            refine zRx.iinc (n := 1) (ls' := [(0, zP 0), (1, .inl i), (2, .inl (w32 (sm + 1))), (3, .inl (q + 1))]) 3 rfl ⟨by omega, by omega⟩ rfl (by decide) dX12_autumn_149 ?_
            refine zRx.goto (tgt := 84) dX12_autumn_152 (by decide) ?_
            have he : L_X12_autumn_84 i (n + 1) sm q σ = L_X12_autumn_84 i n (w32 (sm + 1)) (q + 1) σ := by rw [L_X12_autumn_84, if_neg (Int.not_le.mpr c89), if_neg c94, if_pos c100, if_neg (Int.not_le.mpr c109)]
            rw [he]
            exact ih (w32 (sm + 1)) (q + 1) σ (by omega) hm (by omega)
def R_X12_autumn (σ : zG) (i : Int) : Int × zG := if 0 ≤ i ∧ i ≤ 6 then (if i = 0 then (R_X12_owedAll (R_X12_run (zu σ 0 0 0) (-1)), R_X12_run (zu σ 0 0 0) (-1)) else (if i = 5 then ((R_X12_run (zu σ 0 0 0) (-1)) 0 46, R_X12_run (zu σ 0 0 0) (-1)) else (if i = 6 then ((R_X12_run (zu σ 0 0 0) (-1)) 0 44, R_X12_run (zu σ 0 0 0) (-1)) else (L_X12_autumn_84 i 500 ((S_X12_autumn_56 i 10 0 0 (R_X12_run (zu σ 0 0 0) (-1))).1) 0 ((S_X12_autumn_56 i 10 0 0 (R_X12_run (zu σ 0 0 0) (-1))).2.2))))) else ((-1), zu σ 0 0 0)
theorem fr_R_X12_autumn (σ : zG) (i : Int) {k : Nat} (h : k ∉ [0, 11, 12, 13, 14, 15, 16, 17, 18, 19, 20, 21, 22, 23, 24, 25]) : (R_X12_autumn σ i).2 k = σ k := by
  have ne : ∀ c ∈ [0, 11, 12, 13, 14, 15, 16, 17, 18, 19, 20, 21, 22, 23, 24, 25], k ≠ c := fun c hc e => h (e ▸ hc)
  have nk_R_X12_run : k ∉ [0, 11, 12, 13, 14, 15, 16, 17, 18, 19, 20, 21, 22, 23, 24, 25] := fun hm => h (by first | (revert hm; simp only [List.mem_cons, List.not_mem_nil, or_false]; omega) | (simp at hm))
  have nk_S_X12_autumn_56 : k ∉ [] := fun hm => h (by first | (revert hm; simp only [List.mem_cons, List.not_mem_nil, or_false]; omega) | (simp at hm))
  have nl_S_X12_autumn_56 : k ∉ [] := fun hm => h (by first | (revert hm; simp only [List.mem_cons, List.not_mem_nil, or_false]; omega) | (simp at hm))
  have nl_L_X12_autumn_84 : k ∉ [] := fun hm => h (by first | (revert hm; simp only [List.mem_cons, List.not_mem_nil, or_false]; omega) | (simp at hm))
  unfold R_X12_autumn
  repeat' split
  all_goals first | rfl | simp only [zu_row _ _ _ (ne 0 (by decide)), zu_row _ _ _ (ne 11 (by decide)), zu_row _ _ _ (ne 12 (by decide)), zu_row _ _ _ (ne 13 (by decide)), zu_row _ _ _ (ne 14 (by decide)), zu_row _ _ _ (ne 15 (by decide)), zu_row _ _ _ (ne 16 (by decide)), zu_row _ _ _ (ne 17 (by decide)), zu_row _ _ _ (ne 18 (by decide)), zu_row _ _ _ (ne 19 (by decide)), zu_row _ _ _ (ne 20 (by decide)), zu_row _ _ _ (ne 21 (by decide)), zu_row _ _ _ (ne 22 (by decide)), zu_row _ _ _ (ne 23 (by decide)), zu_row _ _ _ (ne 24 (by decide)), zu_row _ _ _ (ne 25 (by decide)), fr_R_X12_run (h := nk_R_X12_run), fr_S_X12_autumn_56 (h := nk_S_X12_autumn_56), fr_S_X12_autumn_56 (h := nl_S_X12_autumn_56), fr_L_X12_autumn_84 (h := nl_L_X12_autumn_84)]

set_option maxRecDepth 20000 in
theorem does_X12_autumn (σ : zG) (i : Int) (hN : MN (σ 2))  : zDo SM 6 m_X12_autumn [zP 0, .inl i] σ (zEq (some (.inl (R_X12_autumn σ i).1)) (R_X12_autumn σ i).2) := by
  refine zDo.intro mk_X12_autumn (Nat.le_of_ble_eq_true rfl) ?_
  obtain ⟨hW, hp, hF, hL⟩ := id hN
  refine zRx.aload_n 0 rfl rfl dX12_autumn_0 ?_
  refine zRx.iconst ⟨by decide, by decide⟩ dX12_autumn_1 ?_
  refine zRx.putI (a := 0) (ji := 0) pl_12_1 rfl rfl rfl dX12_autumn_2 ?_
  refine zRx.iload_n 1 rfl rfl dX12_autumn_5 ?_
  refine zRx.iconst ⟨by decide, by decide⟩ dX12_autumn_6 ?_
  refine zRx.bipush ⟨by decide, by decide⟩ rfl dX12_autumn_7 ?_
  refine zRx.cSi (w := .inl (b2 (0 ≤ i ∧ i ≤ 6))) (M := m_X12_isIn) (av := [.inl i, .inl 0, .inl 6]) cs_12_254 mk_X12_isIn (by decide) rfl (Nat.le_of_ble_eq_true rfl) dX12_autumn_9 (does_X12_isIn i 0 6 SM (zu σ 0 0 0)) ?_
  refine zRx.if_neB (tgt := 17) dX12_autumn_12 (by decide) (fun c12 => ?_) (fun c12 => ?_)
  · refine zRx.aload_n 0 rfl rfl dX12_autumn_17 ?_
    refine zRx.iconst ⟨by decide, by decide⟩ dX12_autumn_18 ?_
    refine zRx.cVv (M := m_X12_run) (av := [.inl (-1)]) cv_12_400 mk_X12_run (by decide) (b := 0) rfl rfl (Nat.le_of_ble_eq_true rfl) dX12_autumn_19 (does_X12_run (zu σ 0 0 0) (-1) (MW_z hN _ _)) ?_
    refine zRx.iload_n 1 rfl rfl dX12_autumn_22 ?_
    refine zRx.if_ne (tgt := 31) dX12_autumn_23 (by decide) (fun c23 => ?_) (fun c23 => ?_)
    · refine zRx.iload_n 1 rfl rfl dX12_autumn_31 ?_
      refine zRx.iconst ⟨by decide, by decide⟩ dX12_autumn_32 ?_
      refine zRx.icmp_ne (tgt := 41) dX12_autumn_33 (by decide) (fun c33 => ?_) (fun c33 => ?_)
      · refine zRx.iload_n 1 rfl rfl dX12_autumn_41 ?_
        refine zRx.bipush ⟨by decide, by decide⟩ rfl dX12_autumn_42 ?_
        refine zRx.icmp_ne (tgt := 52) dX12_autumn_44 (by decide) (fun c44 => ?_) (fun c44 => ?_)
        · refine zRx.iconst ⟨by decide, by decide⟩ dX12_autumn_52 ?_
          refine zRx.istore_n (ls' := [(0, zP 0), (1, .inl i), (2, .inl 0)]) rfl rfl (by decide) dX12_autumn_53 ?_
          refine zRx.iconst ⟨by decide, by decide⟩ dX12_autumn_54 ?_
          refine zRx.istore_n (ls' := [(0, zP 0), (1, .inl i), (2, .inl 0), (3, .inl 0)]) rfl rfl (by decide) dX12_autumn_55 ?_
          refine seg_X12_autumn_56 i   10 0 0 (R_X12_run (zu σ 0 0 0) (-1)) _ (by omega) (run_m hN _ _ _) (by omega) ?_
          refine zRx.iconst ⟨by decide, by decide⟩ dX12_autumn_82 ?_
          refine zRx.istore_n (ls' := [(0, zP 0), (1, .inl i), (2, .inl ((S_X12_autumn_56 i 10 0 0 (R_X12_run (zu σ 0 0 0) (-1))).1)), (3, .inl 0)]) rfl rfl (by decide) dX12_autumn_83 ?_
          have he : R_X12_autumn σ i = L_X12_autumn_84 i 500 ((S_X12_autumn_56 i 10 0 0 (R_X12_run (zu σ 0 0 0) (-1))).1) 0 ((S_X12_autumn_56 i 10 0 0 (R_X12_run (zu σ 0 0 0) (-1))).2.2) := by rw [R_X12_autumn, if_pos c12, if_neg c23, if_neg c33, if_neg c44]
          rw [he]
          exact loop_X12_autumn_84 i   500 ((S_X12_autumn_56 i 10 0 0 (R_X12_run (zu σ 0 0 0) (-1))).1) 0 ((S_X12_autumn_56 i 10 0 0 (R_X12_run (zu σ 0 0 0) (-1))).2.2) (by omega) (by rw [fr_S_X12_autumn_56 (h := by decide)]; exact run_m hN _ _ _) (by rw [fr_S_X12_autumn_56 (h := by decide)]; have := run_m hN 0 0 (-1); omega)
        · refine zRx.aload_n 0 rfl rfl dX12_autumn_47 ?_
          refine zRx.getIv (a := 0) (ji := 44) (v := (R_X12_run (zu σ 0 0 0) (-1)) 0 44) rfl fl_12_360 rfl rfl rfl dX12_autumn_48 ?_
          exact zR.iret rfl dX12_autumn_51 (by have he : R_X12_autumn σ i = ((R_X12_run (zu σ 0 0 0) (-1)) 0 44, R_X12_run (zu σ 0 0 0) (-1)) := (by rw [R_X12_autumn, if_pos c12, if_neg c23, if_neg c33, if_pos c44]); rw [he]; exact ⟨rfl, rfl⟩)
      · refine zRx.aload_n 0 rfl rfl dX12_autumn_36 ?_
        refine zRx.getIv (a := 0) (ji := 46) (v := (R_X12_run (zu σ 0 0 0) (-1)) 0 46) rfl fl_12_366 rfl rfl rfl dX12_autumn_37 ?_
        exact zR.iret rfl dX12_autumn_40 (by have he : R_X12_autumn σ i = ((R_X12_run (zu σ 0 0 0) (-1)) 0 46, R_X12_run (zu σ 0 0 0) (-1)) := (by rw [R_X12_autumn, if_pos c12, if_neg c23, if_pos c33]); rw [he]; exact ⟨rfl, rfl⟩)
    · refine zRx.aload_n 0 rfl rfl dX12_autumn_26 ?_
      refine zRx.cVi (w := .inl (R_X12_owedAll (R_X12_run (zu σ 0 0 0) (-1)))) (M := m_X12_owedAll) (av := []) cv_12_409 mk_X12_owedAll (by decide) (b := 0) rfl rfl (Nat.le_of_ble_eq_true rfl) dX12_autumn_27 (does_X12_owedAll (R_X12_run (zu σ 0 0 0) (-1)) (run_m hN _ _ _)) ?_
      exact zR.iret rfl dX12_autumn_30 (by have he : R_X12_autumn σ i = (R_X12_owedAll (R_X12_run (zu σ 0 0 0) (-1)), R_X12_run (zu σ 0 0 0) (-1)) := (by rw [R_X12_autumn, if_pos c12, if_pos c23]); rw [he]; exact ⟨rfl, rfl⟩)
  · refine zRx.iconst ⟨by decide, by decide⟩ dX12_autumn_15 ?_
    exact zR.iret rfl dX12_autumn_16 (by have he : R_X12_autumn σ i = ((-1), zu σ 0 0 0) := (by rw [R_X12_autumn, if_neg c12]); rw [he]; exact ⟨rfl, rfl⟩)

/-- what a run leaves: each debt's payer line lies in the book -/
def MP (σ : zG) : Prop := ∀ d : Int, 0 ≤ d → d < 420 → σ 22 d < 60

def L_X12_led_30 (f i : Int) : Nat → Int → Int → zG → Int × zG
  | 0, _, _, σ => (0, σ)
  | n + 1, sm, q, σ => if (σ 0 43) ≤ q then (if i = (-1) then (sm, σ) else ((-1), σ)) else (if (σ 22 q) < 0 then (L_X12_led_30 f i n sm (q + 1) σ) else (if (σ 2 ((173 + (5 * (σ 22 q))) + 3)) = f then (if sm = i then (q, σ) else (L_X12_led_30 f i n (sm + 1) (q + 1) σ)) else (L_X12_led_30 f i n sm (q + 1) σ)))
theorem fr_L_X12_led_30 (f i : Int)  (n : Nat) (sm q : Int) (σ : zG) {k : Nat} (h : k ∉ []) : (L_X12_led_30 f i n sm q σ).2 k = σ k := by
  induction n generalizing sm q σ with
  | zero => rfl
  | succ n ih =>
    have ne : ∀ c ∈ [], k ≠ c := fun c hc e => h (e ▸ hc)
    rw [L_X12_led_30]
    repeat' split
    all_goals first | rfl | simp only [ih]

set_option maxRecDepth 20000 in
theorem loop_X12_led_30 (f i : Int)  : ∀ (n : Nat) (sm q : Int) (σ : zG), 0 ≤ q ∧ 0 ≤ sm ∧ sm ≤ q → σ 0 43 ≤ 420 → MP σ → (σ 0 43 - q).toNat < n → zR SM 6 m_X12_led 30 [(0, zP 0), (1, .inl f), (2, .inl i), (3, .inl sm), (4, .inl q)] [] σ (zEq (some (.inl (L_X12_led_30 f i n sm q σ).1)) (L_X12_led_30 f i n sm q σ).2) := by
  intro n
  induction n with
  | zero => intro sm q σ h0 hm hP hmz; exact absurd hmz (Nat.not_lt_zero _)
  | succ n ih =>
    intro sm q σ h0 hm hP hmz
    refine zRx.iload 4 rfl dX12_led_30 ?_
    refine zRx.aload_n 0 rfl rfl dX12_led_32 ?_
    refine zRx.getIv (a := 0) (ji := 43) (v := σ 0 43) rfl fl_12_357 rfl rfl rfl dX12_led_33 ?_
    refine zRx.icmp_ge (tgt := 93) dX12_led_36 (by decide) (fun c36 => ?_) (fun c36 => ?_)
    · refine zRx.iload_n 2 rfl rfl dX12_led_93 ?_
      refine zRx.iconst ⟨by decide, by decide⟩ dX12_led_94 ?_
      refine zRx.icmp_ne (tgt := 102) dX12_led_95 (by decide) (fun c95 => ?_) (fun c95 => ?_)
      · refine zRx.iconst ⟨by decide, by decide⟩ dX12_led_102 ?_
        exact zR.iret rfl dX12_led_103 (by have he : L_X12_led_30 f i (n + 1) sm q σ = ((-1), σ) := (by rw [L_X12_led_30, if_pos c36, if_neg c95]); rw [he]; exact ⟨rfl, rfl⟩)
      · refine zRx.iload_n 3 rfl rfl dX12_led_98 ?_
        refine zRx.goto (tgt := 103) dX12_led_99 (by decide) ?_
        exact zR.iret rfl dX12_led_103 (by have he : L_X12_led_30 f i (n + 1) sm q σ = (sm, σ) := (by rw [L_X12_led_30, if_pos c36, if_pos c95]); rw [he]; exact ⟨rfl, rfl⟩)
    · have hz := hP q (by omega) (by omega)
      refine zRx.aload_n 0 rfl rfl dX12_led_39 ?_
      refine zRx.getR (a := 0) (b := 22) fl_12_95 rfl rfl dX12_led_40 ?_
      refine zRx.iload 4 rfl dX12_led_43 ?_
      refine zRx.ialdv (v := σ 22 q) rfl rfl (by omega) (by omega) dX12_led_45 ?_
      refine zRx.if_lt (tgt := 87) dX12_led_46 (by decide) (fun c46 => ?_) (fun c46 => ?_)
      · refine zRx.iinc (n := 1) (ls' := [(0, zP 0), (1, .inl f), (2, .inl i), (3, .inl sm), (4, .inl (q + 1))]) 4 rfl ⟨by omega, by omega⟩ rfl (by decide) dX12_led_87 ?_
        refine zRx.goto (tgt := 30) dX12_led_90 (by decide) ?_
        have he : L_X12_led_30 f i (n + 1) sm q σ = L_X12_led_30 f i n sm (q + 1) σ := by rw [L_X12_led_30, if_neg (Int.not_le.mpr c36), if_pos c46]
        rw [he]
        exact ih sm (q + 1) σ (by omega) hm hP (by omega)
      · refine zRx.aload_n 0 rfl rfl dX12_led_49 ?_
        refine zRx.getR (a := 0) (b := 2) fl_12_33 rfl rfl dX12_led_50 ?_
        refine zRx.sipush ⟨by decide, by decide⟩ rfl dX12_led_53 ?_
        refine zRx.iconst ⟨by decide, by decide⟩ dX12_led_56 ?_
        refine zRx.aload_n 0 rfl rfl dX12_led_57 ?_
        refine zRx.getR (a := 0) (b := 22) fl_12_95 rfl rfl dX12_led_58 ?_
        refine zRx.iload 4 rfl dX12_led_61 ?_
        refine zRx.ialdv (v := σ 22 q) rfl rfl (by omega) (by omega) dX12_led_63 ?_
        refine zRx.imul ⟨by omega, by omega⟩ dX12_led_64 ?_
        refine zRx.iadd ⟨by omega, by omega⟩ dX12_led_65 ?_
        refine zRx.iconst ⟨by decide, by decide⟩ dX12_led_66 ?_
        refine zRx.iadd ⟨by omega, by omega⟩ dX12_led_67 ?_
        refine zRx.ialdv (v := σ 2 ((173 + (5 * (σ 22 q))) + 3)) rfl rfl (by omega) (by omega) dX12_led_68 ?_
        refine zRx.iload_n 1 rfl rfl dX12_led_69 ?_
        refine zRx.icmp_eq (tgt := 76) dX12_led_70 (by decide) (fun c70 => ?_) (fun c70 => ?_)
        · refine zRx.iload_n 3 rfl rfl dX12_led_76 ?_
          refine zRx.iload_n 2 rfl rfl dX12_led_77 ?_
          refine zRx.icmp_ne (tgt := 84) dX12_led_78 (by decide) (fun c78 => ?_) (fun c78 => ?_)
          · refine zRx.iinc (n := 1) (ls' := [(0, zP 0), (1, .inl f), (2, .inl i), (3, .inl (sm + 1)), (4, .inl q)]) 3 rfl ⟨by omega, by omega⟩ rfl (by decide) dX12_led_84 ?_
            refine zRx.iinc (n := 1) (ls' := [(0, zP 0), (1, .inl f), (2, .inl i), (3, .inl (sm + 1)), (4, .inl (q + 1))]) 4 rfl ⟨by omega, by omega⟩ rfl (by decide) dX12_led_87 ?_
            refine zRx.goto (tgt := 30) dX12_led_90 (by decide) ?_
            have he : L_X12_led_30 f i (n + 1) sm q σ = L_X12_led_30 f i n (sm + 1) (q + 1) σ := by rw [L_X12_led_30, if_neg (Int.not_le.mpr c36), if_neg (Int.not_lt.mpr c46), if_pos c70, if_neg c78]
            rw [he]
            exact ih (sm + 1) (q + 1) σ (by omega) hm hP (by omega)
          · refine zRx.iload 4 rfl dX12_led_81 ?_
            exact zR.iret rfl dX12_led_83 (by have he : L_X12_led_30 f i (n + 1) sm q σ = (q, σ) := (by rw [L_X12_led_30, if_neg (Int.not_le.mpr c36), if_neg (Int.not_lt.mpr c46), if_pos c70, if_pos c78]); rw [he]; exact ⟨rfl, rfl⟩)
        · refine zRx.goto (tgt := 87) dX12_led_73 (by decide) ?_
          refine zRx.iinc (n := 1) (ls' := [(0, zP 0), (1, .inl f), (2, .inl i), (3, .inl sm), (4, .inl (q + 1))]) 4 rfl ⟨by omega, by omega⟩ rfl (by decide) dX12_led_87 ?_
          refine zRx.goto (tgt := 30) dX12_led_90 (by decide) ?_
          have he : L_X12_led_30 f i (n + 1) sm q σ = L_X12_led_30 f i n sm (q + 1) σ := by rw [L_X12_led_30, if_neg (Int.not_le.mpr c36), if_neg (Int.not_lt.mpr c46), if_neg c70]
          rw [he]
          exact ih sm (q + 1) σ (by omega) hm hP (by omega)
def R_X12_led (σ : zG) (f i : Int) : Int × zG := if 0 ≤ f ∧ f ≤ (σ 2 1) - 1 then (if (-1) ≤ i then (L_X12_led_30 f i 500 0 0 (R_X12_run (zu σ 0 0 0) (-1))) else ((-1), zu σ 0 0 0)) else ((-1), zu σ 0 0 0)
theorem fr_R_X12_led (σ : zG) (f i : Int) {k : Nat} (h : k ∉ [0, 11, 12, 13, 14, 15, 16, 17, 18, 19, 20, 21, 22, 23, 24, 25]) : (R_X12_led σ f i).2 k = σ k := by
  have ne : ∀ c ∈ [0, 11, 12, 13, 14, 15, 16, 17, 18, 19, 20, 21, 22, 23, 24, 25], k ≠ c := fun c hc e => h (e ▸ hc)
  have nk_R_X12_run : k ∉ [0, 11, 12, 13, 14, 15, 16, 17, 18, 19, 20, 21, 22, 23, 24, 25] := fun hm => h (by first | (revert hm; simp only [List.mem_cons, List.not_mem_nil, or_false]; omega) | (simp at hm))
  have nl_L_X12_led_30 : k ∉ [] := fun hm => h (by first | (revert hm; simp only [List.mem_cons, List.not_mem_nil, or_false]; omega) | (simp at hm))
  unfold R_X12_led
  repeat' split
  all_goals first | rfl | simp only [zu_row _ _ _ (ne 0 (by decide)), zu_row _ _ _ (ne 11 (by decide)), zu_row _ _ _ (ne 12 (by decide)), zu_row _ _ _ (ne 13 (by decide)), zu_row _ _ _ (ne 14 (by decide)), zu_row _ _ _ (ne 15 (by decide)), zu_row _ _ _ (ne 16 (by decide)), zu_row _ _ _ (ne 17 (by decide)), zu_row _ _ _ (ne 18 (by decide)), zu_row _ _ _ (ne 19 (by decide)), zu_row _ _ _ (ne 20 (by decide)), zu_row _ _ _ (ne 21 (by decide)), zu_row _ _ _ (ne 22 (by decide)), zu_row _ _ _ (ne 23 (by decide)), zu_row _ _ _ (ne 24 (by decide)), zu_row _ _ _ (ne 25 (by decide)), fr_R_X12_run (h := nk_R_X12_run), fr_L_X12_led_30 (h := nl_L_X12_led_30)]

set_option maxRecDepth 20000 in
theorem does_X12_led (σ : zG) (f i : Int) (hN : MN (σ 2)) (hP : MP (R_X12_run (zu σ 0 0 0) (-1)))  : zDo SM 6 m_X12_led [zP 0, .inl f, .inl i] σ (zEq (some (.inl (R_X12_led σ f i).1)) (R_X12_led σ f i).2) := by
  refine zDo.intro mk_X12_led (Nat.le_of_ble_eq_true rfl) ?_
  obtain ⟨hW, hp, hF, hL⟩ := id hN
  refine zRx.aload_n 0 rfl rfl dX12_led_0 ?_
  refine zRx.iconst ⟨by decide, by decide⟩ dX12_led_1 ?_
  refine zRx.putI (a := 0) (ji := 0) pl_12_1 rfl rfl rfl dX12_led_2 ?_
  refine zRx.aload_n 0 rfl rfl dX12_led_5 ?_
  refine zRx.iload_n 1 rfl rfl dX12_led_6 ?_
  refine zRx.cVi (w := .inl (b2 (0 ≤ f ∧ f ≤ (σ 2 1) - 1))) (M := m_X12_isFact) (av := [.inl f]) cv_12_316 mk_X12_isFact (by decide) (b := 0) rfl rfl (Nat.le_of_ble_eq_true rfl) dX12_led_7 (does_isFact2 (zu σ 0 0 0) f (σ 2 1) (zu_ne _ _ _ _ (by decide)) hN.2.2.1) ?_
  refine zRx.if_eqB (tgt := 18) dX12_led_10 (by decide) (fun c10 => ?_) (fun c10 => ?_)
  · refine zRx.iconst ⟨by decide, by decide⟩ dX12_led_18 ?_
    exact zR.iret rfl dX12_led_19 (by have he : R_X12_led σ f i = ((-1), zu σ 0 0 0) := (by rw [R_X12_led, if_neg c10]); rw [he]; exact ⟨rfl, rfl⟩)
  · refine zRx.iload_n 2 rfl rfl dX12_led_13 ?_
    refine zRx.iconst ⟨by decide, by decide⟩ dX12_led_14 ?_
    refine zRx.icmp_ge (tgt := 20) dX12_led_15 (by decide) (fun c15 => ?_) (fun c15 => ?_)
    · refine zRx.aload_n 0 rfl rfl dX12_led_20 ?_
      refine zRx.iconst ⟨by decide, by decide⟩ dX12_led_21 ?_
      refine zRx.cVv (M := m_X12_run) (av := [.inl (-1)]) cv_12_400 mk_X12_run (by decide) (b := 0) rfl rfl (Nat.le_of_ble_eq_true rfl) dX12_led_22 (does_X12_run (zu σ 0 0 0) (-1) (MW_z hN _ _)) ?_
      refine zRx.iconst ⟨by decide, by decide⟩ dX12_led_25 ?_
      refine zRx.istore_n (ls' := [(0, zP 0), (1, .inl f), (2, .inl i), (3, .inl 0)]) rfl rfl (by decide) dX12_led_26 ?_
      refine zRx.iconst ⟨by decide, by decide⟩ dX12_led_27 ?_
      refine zRx.istore (ls' := [(0, zP 0), (1, .inl f), (2, .inl i), (3, .inl 0), (4, .inl 0)]) rfl (by decide) dX12_led_28 ?_
      have he : R_X12_led σ f i = L_X12_led_30 f i 500 0 0 (R_X12_run (zu σ 0 0 0) (-1)) := by rw [R_X12_led, if_pos c10, if_pos c15]
      rw [he]
      exact loop_X12_led_30 f i   500 0 0 (R_X12_run (zu σ 0 0 0) (-1)) (by omega) (run_m hN _ _ _) hP (by have := run_m hN 0 0 (-1); omega)
    · refine zRx.iconst ⟨by decide, by decide⟩ dX12_led_18 ?_
      exact zR.iret rfl dX12_led_19 (by have he : R_X12_led σ f i = ((-1), zu σ 0 0 0) := (by rw [R_X12_led, if_pos c10, if_neg (Int.not_le.mpr c15)]); rw [he]; exact ⟨rfl, rfl⟩)

