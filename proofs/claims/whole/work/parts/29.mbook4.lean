/-! the reference: ripple -/
theorem run_MK {σ : zG} (hN : MN (σ 2)) (j v b : Int) : MK (R_X12_run (zu σ 0 j v) b) := (run_K _ b (MW_z hN j v)).1

def L_X12_ripple_113 (who to f i : Int) (nw : Int) : Nat → Int → Int → zG → Int × zG
  | 0, _, _, σ => (0, σ)
  | n + 1, sm, q, σ => if (σ 0 43) ≤ q then (if i = 1 then (sm, σ) else (R_X12_owedAll (R_X12_learns σ to f (-1)), R_X12_learns σ to f (-1))) else (if (σ 17 q) = to then (if (σ 20 q) ≤ 0 then (L_X12_ripple_113 who to f i nw n (w32 (sm + 0)) (q + 1) σ) else (if hb nw (σ 18 q) then (L_X12_ripple_113 who to f i nw n (w32 (sm + 1)) (q + 1) σ) else (L_X12_ripple_113 who to f i nw n (w32 (sm + 0)) (q + 1) σ))) else (L_X12_ripple_113 who to f i nw n (w32 (sm + 0)) (q + 1) σ))
theorem fr_L_X12_ripple_113 (who to f i : Int) (nw : Int)  (n : Nat) (sm q : Int) (σ : zG) {k : Nat} (h : k ∉ [11, 12, 20, 23]) : (L_X12_ripple_113 who to f i nw n sm q σ).2 k = σ k := by
  induction n generalizing sm q σ with
  | zero => rfl
  | succ n ih =>
    have ne : ∀ c ∈ [11, 12, 20, 23], k ≠ c := fun c hc e => h (e ▸ hc)
    have nk_R_X12_learns : k ∉ [11, 12, 20, 23] := fun hm => h (by first | (revert hm; simp only [List.mem_cons, List.not_mem_nil, or_false]; omega) | (simp at hm))
    rw [L_X12_ripple_113]
    repeat' split
    all_goals first | rfl | simp only [zu_row _ _ _ (ne 11 (by decide)), zu_row _ _ _ (ne 12 (by decide)), zu_row _ _ _ (ne 20 (by decide)), zu_row _ _ _ (ne 23 (by decide)), fr_R_X12_learns (h := nk_R_X12_learns), ih]

set_option maxRecDepth 20000 in
theorem loop_X12_ripple_113 (who to f i : Int) (ht : 0 ≤ to ∧ to < 8) (hf : 0 ≤ f ∧ f < 12) (kn nw : Int) : ∀ (n : Nat) (sm q : Int) (σ : zG), 0 ≤ q → σ 0 43 ≤ 420 → MS (σ 2) → MK σ → (σ 0 43 - q).toNat < n → zR SM 6 m_X12_ripple 113 [(0, zP 0), (1, .inl who), (2, .inl to), (3, .inl f), (4, .inl i), (5, .inl kn), (6, .inl nw), (7, .inl sm), (8, .inl q)] [] σ (zEq (some (.inl (L_X12_ripple_113 who to f i nw n sm q σ).1)) (L_X12_ripple_113 who to f i nw n sm q σ).2) := by
  intro n
  induction n with
  | zero => intro sm q σ h0 hm hs hK hmz; exact absurd hmz (Nat.not_lt_zero _)
  | succ n ih =>
    intro sm q σ h0 hm hs hK hmz
    refine zRx.iload 8 rfl dX12_ripple_113 ?_
    refine zRx.aload_n 0 rfl rfl dX12_ripple_115 ?_
    refine zRx.getIv (a := 0) (ji := 43) (v := σ 0 43) rfl fl_12_357 rfl rfl rfl dX12_ripple_116 ?_
    refine zRx.icmp_ge (tgt := 174) dX12_ripple_119 (by decide) (fun c119 => ?_) (fun c119 => ?_)
    · refine zRx.iload 4 rfl dX12_ripple_174 ?_
      refine zRx.iconst ⟨by decide, by decide⟩ dX12_ripple_176 ?_
      refine zRx.icmp_ne (tgt := 183) dX12_ripple_177 (by decide) (fun c177 => ?_) (fun c177 => ?_)
      · refine zRx.aload_n 0 rfl rfl dX12_ripple_183 ?_
        refine zRx.iload_n 2 rfl rfl dX12_ripple_184 ?_
        refine zRx.iload_n 3 rfl rfl dX12_ripple_185 ?_
        refine zRx.iconst ⟨by decide, by decide⟩ dX12_ripple_186 ?_
        refine zRx.cVv (M := m_X12_learns) (av := [.inl to, .inl f, .inl (-1)]) cv_12_375 mk_X12_learns (by decide) (b := 0) rfl rfl (Nat.le_of_ble_eq_true rfl) dX12_ripple_187 (does_X12_learns σ to f (-1) (by omega) (by omega) hs (hK to (by omega) (by omega)) hm) ?_
        refine zRx.aload_n 0 rfl rfl dX12_ripple_190 ?_
        refine zRx.cVi (w := .inl (R_X12_owedAll (R_X12_learns σ to f (-1)))) (M := m_X12_owedAll) (av := []) cv_12_409 mk_X12_owedAll (by decide) (b := 0) rfl rfl (Nat.le_of_ble_eq_true rfl) dX12_ripple_191 (does_X12_owedAll (R_X12_learns σ to f (-1)) (by have e9 : (R_X12_learns σ to f (-1)) 0 43 = σ 0 43 := (congrFun (fr_R_X12_learns σ to f (-1) (k := 0) (by decide)) _); omega)) ?_
        exact zR.iret rfl dX12_ripple_194 (by have he : L_X12_ripple_113 who to f i nw (n + 1) sm q σ = (R_X12_owedAll (R_X12_learns σ to f (-1)), R_X12_learns σ to f (-1)) := (by rw [L_X12_ripple_113, if_pos c119, if_neg c177]); rw [he]; exact ⟨rfl, rfl⟩)
      · refine zRx.iload 7 rfl dX12_ripple_180 ?_
        exact zR.iret rfl dX12_ripple_182 (by have he : L_X12_ripple_113 who to f i nw (n + 1) sm q σ = (sm, σ) := (by rw [L_X12_ripple_113, if_pos c119, if_pos c177]); rw [he]; exact ⟨rfl, rfl⟩)
    · refine zRx.iload 7 rfl dX12_ripple_122 ?_
      refine zRx.aload_n 0 rfl rfl dX12_ripple_124 ?_
      refine zRx.getR (a := 0) (b := 17) fl_12_80 rfl rfl dX12_ripple_125 ?_
      refine zRx.iload 8 rfl dX12_ripple_128 ?_
      refine zRx.ialdv (v := σ 17 q) rfl rfl (by omega) (by omega) dX12_ripple_130 ?_
      refine zRx.iload_n 2 rfl rfl dX12_ripple_131 ?_
      refine zRx.icmp_ne (tgt := 164) dX12_ripple_132 (by decide) (fun c132 => ?_) (fun c132 => ?_)
      · refine zRx.iconst ⟨by decide, by decide⟩ dX12_ripple_164 ?_
        refine zRx.iaddW dX12_ripple_165 ?_
        refine zRx.istore (ls' := [(0, zP 0), (1, .inl who), (2, .inl to), (3, .inl f), (4, .inl i), (5, .inl kn), (6, .inl nw), (7, .inl (w32 (sm + 0))), (8, .inl q)]) rfl (by decide) dX12_ripple_166 ?_
        refine zRx.iinc (n := 1) (ls' := [(0, zP 0), (1, .inl who), (2, .inl to), (3, .inl f), (4, .inl i), (5, .inl kn), (6, .inl nw), (7, .inl (w32 (sm + 0))), (8, .inl (q + 1))]) 8 rfl ⟨by omega, by omega⟩ rfl (by decide) dX12_ripple_168 ?_
        refine zRx.goto (tgt := 113) dX12_ripple_171 (by decide) ?_
        have he : L_X12_ripple_113 who to f i nw (n + 1) sm q σ = L_X12_ripple_113 who to f i nw n (w32 (sm + 0)) (q + 1) σ := by rw [L_X12_ripple_113, if_neg (Int.not_le.mpr c119), if_neg c132]
        rw [he]
        exact ih (w32 (sm + 0)) (q + 1) σ (by omega) hm hs hK (by omega)
      · refine zRx.aload_n 0 rfl rfl dX12_ripple_135 ?_
        refine zRx.getR (a := 0) (b := 20) fl_12_89 rfl rfl dX12_ripple_136 ?_
        refine zRx.iload 8 rfl dX12_ripple_139 ?_
        refine zRx.ialdv (v := σ 20 q) rfl rfl (by omega) (by omega) dX12_ripple_141 ?_
        refine zRx.if_le (tgt := 164) dX12_ripple_142 (by decide) (fun c142 => ?_) (fun c142 => ?_)
        · refine zRx.iconst ⟨by decide, by decide⟩ dX12_ripple_164 ?_
          refine zRx.iaddW dX12_ripple_165 ?_
          refine zRx.istore (ls' := [(0, zP 0), (1, .inl who), (2, .inl to), (3, .inl f), (4, .inl i), (5, .inl kn), (6, .inl nw), (7, .inl (w32 (sm + 0))), (8, .inl q)]) rfl (by decide) dX12_ripple_166 ?_
          refine zRx.iinc (n := 1) (ls' := [(0, zP 0), (1, .inl who), (2, .inl to), (3, .inl f), (4, .inl i), (5, .inl kn), (6, .inl nw), (7, .inl (w32 (sm + 0))), (8, .inl (q + 1))]) 8 rfl ⟨by omega, by omega⟩ rfl (by decide) dX12_ripple_168 ?_
          refine zRx.goto (tgt := 113) dX12_ripple_171 (by decide) ?_
          have he : L_X12_ripple_113 who to f i nw (n + 1) sm q σ = L_X12_ripple_113 who to f i nw n (w32 (sm + 0)) (q + 1) σ := by rw [L_X12_ripple_113, if_neg (Int.not_le.mpr c119), if_pos c132, if_pos c142]
          rw [he]
          exact ih (w32 (sm + 0)) (q + 1) σ (by omega) hm hs hK (by omega)
        · refine zRx.iload 6 rfl dX12_ripple_145 ?_
          refine zRx.aload_n 0 rfl rfl dX12_ripple_147 ?_
          refine zRx.getR (a := 0) (b := 18) fl_12_83 rfl rfl dX12_ripple_148 ?_
          refine zRx.iload 8 rfl dX12_ripple_151 ?_
          refine zRx.ialdv (v := σ 18 q) rfl rfl (by omega) (by omega) dX12_ripple_153 ?_
          refine zRx.cSi (w := .inl (b2 (hb nw (σ 18 q)))) (M := m_X12_has) (av := [.inl nw, .inl (σ 18 q)]) cs_12_272 mk_X12_has (by decide) rfl (Nat.le_of_ble_eq_true rfl) dX12_ripple_154 (does_X12_has nw (σ 18 q) SM σ) ?_
          refine zRx.if_eqB (tgt := 164) dX12_ripple_157 (by decide) (fun c157 => ?_) (fun c157 => ?_)
          · refine zRx.iconst ⟨by decide, by decide⟩ dX12_ripple_164 ?_
            refine zRx.iaddW dX12_ripple_165 ?_
            refine zRx.istore (ls' := [(0, zP 0), (1, .inl who), (2, .inl to), (3, .inl f), (4, .inl i), (5, .inl kn), (6, .inl nw), (7, .inl (w32 (sm + 0))), (8, .inl q)]) rfl (by decide) dX12_ripple_166 ?_
            refine zRx.iinc (n := 1) (ls' := [(0, zP 0), (1, .inl who), (2, .inl to), (3, .inl f), (4, .inl i), (5, .inl kn), (6, .inl nw), (7, .inl (w32 (sm + 0))), (8, .inl (q + 1))]) 8 rfl ⟨by omega, by omega⟩ rfl (by decide) dX12_ripple_168 ?_
            refine zRx.goto (tgt := 113) dX12_ripple_171 (by decide) ?_
            have he : L_X12_ripple_113 who to f i nw (n + 1) sm q σ = L_X12_ripple_113 who to f i nw n (w32 (sm + 0)) (q + 1) σ := by rw [L_X12_ripple_113, if_neg (Int.not_le.mpr c119), if_pos c132, if_neg (Int.not_le.mpr c142), if_neg c157]
            rw [he]
            exact ih (w32 (sm + 0)) (q + 1) σ (by omega) hm hs hK (by omega)
          · refine zRx.iconst ⟨by decide, by decide⟩ dX12_ripple_160 ?_
            refine zRx.goto (tgt := 165) dX12_ripple_161 (by decide) ?_
            refine zRx.iaddW dX12_ripple_165 ?_
            refine zRx.istore (ls' := [(0, zP 0), (1, .inl who), (2, .inl to), (3, .inl f), (4, .inl i), (5, .inl kn), (6, .inl nw), (7, .inl (w32 (sm + 1))), (8, .inl q)]) rfl (by decide) dX12_ripple_166 ?_
            refine zRx.iinc (n := 1) (ls' := [(0, zP 0), (1, .inl who), (2, .inl to), (3, .inl f), (4, .inl i), (5, .inl kn), (6, .inl nw), (7, .inl (w32 (sm + 1))), (8, .inl (q + 1))]) 8 rfl ⟨by omega, by omega⟩ rfl (by decide) dX12_ripple_168 ?_
            refine zRx.goto (tgt := 113) dX12_ripple_171 (by decide) ?_
            have he : L_X12_ripple_113 who to f i nw (n + 1) sm q σ = L_X12_ripple_113 who to f i nw n (w32 (sm + 1)) (q + 1) σ := by rw [L_X12_ripple_113, if_neg (Int.not_le.mpr c119), if_pos c132, if_neg (Int.not_le.mpr c142), if_pos c157]
            rw [he]
            exact ih (w32 (sm + 1)) (q + 1) σ (by omega) hm hs hK (by omega)
def R_X12_ripple (σ : zG) (who to f i : Int) : Int × zG := if 0 ≤ who ∧ who ≤ (σ 2 0) - 1 then (if 0 ≤ to ∧ to ≤ (σ 2 0) - 1 then (if 0 ≤ f ∧ f ≤ (σ 2 1) - 1 then (if 0 ≤ i ∧ i ≤ 2 then (if hb ((R_X12_run (zu σ 0 0 0) (-1)) 11 who) f then (if hb ((R_X12_run (zu σ 0 0 0) (-1)) 11 to) f then ((-1), R_X12_run (zu σ 0 0 0) (-1)) else (if i = 0 then (band (R_X12_follows (R_X12_run (zu σ 0 0 0) (-1)) (bor ((R_X12_run (zu σ 0 0 0) (-1)) 11 to) (bshl 1 f))) (bxor ((R_X12_run (zu σ 0 0 0) (-1)) 11 to) (-1)), R_X12_run (zu σ 0 0 0) (-1)) else (L_X12_ripple_113 who to f i (band (R_X12_follows (R_X12_run (zu σ 0 0 0) (-1)) (bor ((R_X12_run (zu σ 0 0 0) (-1)) 11 to) (bshl 1 f))) (bxor ((R_X12_run (zu σ 0 0 0) (-1)) 11 to) (-1))) 500 0 0 (R_X12_run (zu σ 0 0 0) (-1))))) else ((-1), R_X12_run (zu σ 0 0 0) (-1))) else ((-1), zu σ 0 0 0)) else ((-1), zu σ 0 0 0)) else ((-1), zu σ 0 0 0)) else ((-1), zu σ 0 0 0)
theorem fr_R_X12_ripple (σ : zG) (who to f i : Int) {k : Nat} (h : k ∉ [0, 11, 12, 13, 14, 15, 16, 17, 18, 19, 20, 21, 22, 23, 24, 25]) : (R_X12_ripple σ who to f i).2 k = σ k := by
  have ne : ∀ c ∈ [0, 11, 12, 13, 14, 15, 16, 17, 18, 19, 20, 21, 22, 23, 24, 25], k ≠ c := fun c hc e => h (e ▸ hc)
  have nk_R_X12_run : k ∉ [0, 11, 12, 13, 14, 15, 16, 17, 18, 19, 20, 21, 22, 23, 24, 25] := fun hm => h (by first | (revert hm; simp only [List.mem_cons, List.not_mem_nil, or_false]; omega) | (simp at hm))
  have nl_L_X12_ripple_113 : k ∉ [11, 12, 20, 23] := fun hm => h (by first | (revert hm; simp only [List.mem_cons, List.not_mem_nil, or_false]; omega) | (simp at hm))
  unfold R_X12_ripple
  repeat' split
  all_goals first | rfl | simp only [zu_row _ _ _ (ne 0 (by decide)), zu_row _ _ _ (ne 11 (by decide)), zu_row _ _ _ (ne 12 (by decide)), zu_row _ _ _ (ne 13 (by decide)), zu_row _ _ _ (ne 14 (by decide)), zu_row _ _ _ (ne 15 (by decide)), zu_row _ _ _ (ne 16 (by decide)), zu_row _ _ _ (ne 17 (by decide)), zu_row _ _ _ (ne 18 (by decide)), zu_row _ _ _ (ne 19 (by decide)), zu_row _ _ _ (ne 20 (by decide)), zu_row _ _ _ (ne 21 (by decide)), zu_row _ _ _ (ne 22 (by decide)), zu_row _ _ _ (ne 23 (by decide)), zu_row _ _ _ (ne 24 (by decide)), zu_row _ _ _ (ne 25 (by decide)), fr_R_X12_run (h := nk_R_X12_run), fr_L_X12_ripple_113 (h := nl_L_X12_ripple_113)]

set_option maxRecDepth 20000 in
theorem does_X12_ripple (σ : zG) (who to f i : Int) (hN : MN (σ 2))  : zDo SM 6 m_X12_ripple [zP 0, .inl who, .inl to, .inl f, .inl i] σ (zEq (some (.inl (R_X12_ripple σ who to f i).1)) (R_X12_ripple σ who to f i).2) := by
  refine zDo.intro mk_X12_ripple (Nat.le_of_ble_eq_true rfl) ?_
  obtain ⟨hW, hp, hF, hL⟩ := id hN
  refine zRx.aload_n 0 rfl rfl dX12_ripple_0 ?_
  refine zRx.iconst ⟨by decide, by decide⟩ dX12_ripple_1 ?_
  refine zRx.putI (a := 0) (ji := 0) pl_12_1 rfl rfl rfl dX12_ripple_2 ?_
  refine zRx.aload_n 0 rfl rfl dX12_ripple_5 ?_
  refine zRx.iload_n 1 rfl rfl dX12_ripple_6 ?_
  refine zRx.cVi (w := .inl (b2 (0 ≤ who ∧ who ≤ (σ 2 0) - 1))) (M := m_X12_isWho) (av := [.inl who]) cv_12_397 mk_X12_isWho (by decide) (b := 0) rfl rfl (Nat.le_of_ble_eq_true rfl) dX12_ripple_7 (does_isWho2 (zu σ 0 0 0) who (σ 2 0) (zu_ne _ _ _ _ (by decide)) hN.2.1) ?_
  refine zRx.if_eqB (tgt := 39) dX12_ripple_10 (by decide) (fun c10 => ?_) (fun c10 => ?_)
  · refine zRx.iconst ⟨by decide, by decide⟩ dX12_ripple_39 ?_
    exact zR.iret rfl dX12_ripple_40 (by have he : R_X12_ripple σ who to f i = ((-1), zu σ 0 0 0) := (by rw [R_X12_ripple, if_neg c10]); rw [he]; exact ⟨rfl, rfl⟩)
  · refine zRx.aload_n 0 rfl rfl dX12_ripple_13 ?_
    refine zRx.iload_n 2 rfl rfl dX12_ripple_14 ?_
    refine zRx.cVi (w := .inl (b2 (0 ≤ to ∧ to ≤ (σ 2 0) - 1))) (M := m_X12_isWho) (av := [.inl to]) cv_12_397 mk_X12_isWho (by decide) (b := 0) rfl rfl (Nat.le_of_ble_eq_true rfl) dX12_ripple_15 (does_isWho2 (zu σ 0 0 0) to (σ 2 0) (zu_ne _ _ _ _ (by decide)) hN.2.1) ?_
    refine zRx.if_eqB (tgt := 39) dX12_ripple_18 (by decide) (fun c18 => ?_) (fun c18 => ?_)
    · refine zRx.iconst ⟨by decide, by decide⟩ dX12_ripple_39 ?_
      exact zR.iret rfl dX12_ripple_40 (by have he : R_X12_ripple σ who to f i = ((-1), zu σ 0 0 0) := (by rw [R_X12_ripple, if_pos c10, if_neg c18]); rw [he]; exact ⟨rfl, rfl⟩)
    · refine zRx.aload_n 0 rfl rfl dX12_ripple_21 ?_
      refine zRx.iload_n 3 rfl rfl dX12_ripple_22 ?_
      refine zRx.cVi (w := .inl (b2 (0 ≤ f ∧ f ≤ (σ 2 1) - 1))) (M := m_X12_isFact) (av := [.inl f]) cv_12_316 mk_X12_isFact (by decide) (b := 0) rfl rfl (Nat.le_of_ble_eq_true rfl) dX12_ripple_23 (does_isFact2 (zu σ 0 0 0) f (σ 2 1) (zu_ne _ _ _ _ (by decide)) hN.2.2.1) ?_
      refine zRx.if_eqB (tgt := 39) dX12_ripple_26 (by decide) (fun c26 => ?_) (fun c26 => ?_)
      · refine zRx.iconst ⟨by decide, by decide⟩ dX12_ripple_39 ?_
        exact zR.iret rfl dX12_ripple_40 (by have he : R_X12_ripple σ who to f i = ((-1), zu σ 0 0 0) := (by rw [R_X12_ripple, if_pos c10, if_pos c18, if_neg c26]); rw [he]; exact ⟨rfl, rfl⟩)
      · refine zRx.iload 4 rfl dX12_ripple_29 ?_
        refine zRx.iconst ⟨by decide, by decide⟩ dX12_ripple_31 ?_
        refine zRx.iconst ⟨by decide, by decide⟩ dX12_ripple_32 ?_
        refine zRx.cSi (w := .inl (b2 (0 ≤ i ∧ i ≤ 2))) (M := m_X12_isIn) (av := [.inl i, .inl 0, .inl 2]) cs_12_254 mk_X12_isIn (by decide) rfl (Nat.le_of_ble_eq_true rfl) dX12_ripple_33 (does_X12_isIn i 0 2 SM (zu σ 0 0 0)) ?_
        refine zRx.if_neB (tgt := 41) dX12_ripple_36 (by decide) (fun c36 => ?_) (fun c36 => ?_)
        · refine zRx.aload_n 0 rfl rfl dX12_ripple_41 ?_
          refine zRx.iconst ⟨by decide, by decide⟩ dX12_ripple_42 ?_
          refine zRx.cVv (M := m_X12_run) (av := [.inl (-1)]) cv_12_400 mk_X12_run (by decide) (b := 0) rfl rfl (Nat.le_of_ble_eq_true rfl) dX12_ripple_43 (does_X12_run (zu σ 0 0 0) (-1) (MW_z hN _ _)) ?_
          refine zRx.aload_n 0 rfl rfl dX12_ripple_46 ?_
          refine zRx.getR (a := 0) (b := 11) fl_12_62 rfl rfl dX12_ripple_47 ?_
          refine zRx.iload_n 1 rfl rfl dX12_ripple_50 ?_
          refine zRx.ialdv (v := (R_X12_run (zu σ 0 0 0) (-1)) 11 who) rfl rfl (by omega) (by omega) dX12_ripple_51 ?_
          refine zRx.iload_n 3 rfl rfl dX12_ripple_52 ?_
          refine zRx.cSi (w := .inl (b2 (hb ((R_X12_run (zu σ 0 0 0) (-1)) 11 who) f))) (M := m_X12_has) (av := [.inl ((R_X12_run (zu σ 0 0 0) (-1)) 11 who), .inl f]) cs_12_272 mk_X12_has (by decide) rfl (Nat.le_of_ble_eq_true rfl) dX12_ripple_53 (does_X12_has ((R_X12_run (zu σ 0 0 0) (-1)) 11 who) f SM (R_X12_run (zu σ 0 0 0) (-1))) ?_
          refine zRx.if_eqB (tgt := 72) dX12_ripple_56 (by decide) (fun c56 => ?_) (fun c56 => ?_)
          · refine zRx.iconst ⟨by decide, by decide⟩ dX12_ripple_72 ?_
            exact zR.iret rfl dX12_ripple_73 (by have he : R_X12_ripple σ who to f i = ((-1), R_X12_run (zu σ 0 0 0) (-1)) := (by rw [R_X12_ripple, if_pos c10, if_pos c18, if_pos c26, if_pos c36, if_neg c56]); rw [he]; exact ⟨rfl, rfl⟩)
          · refine zRx.aload_n 0 rfl rfl dX12_ripple_59 ?_
            refine zRx.getR (a := 0) (b := 11) fl_12_62 rfl rfl dX12_ripple_60 ?_
            refine zRx.iload_n 2 rfl rfl dX12_ripple_63 ?_
            refine zRx.ialdv (v := (R_X12_run (zu σ 0 0 0) (-1)) 11 to) rfl rfl (by omega) (by omega) dX12_ripple_64 ?_
            refine zRx.iload_n 3 rfl rfl dX12_ripple_65 ?_
            refine zRx.cSi (w := .inl (b2 (hb ((R_X12_run (zu σ 0 0 0) (-1)) 11 to) f))) (M := m_X12_has) (av := [.inl ((R_X12_run (zu σ 0 0 0) (-1)) 11 to), .inl f]) cs_12_272 mk_X12_has (by decide) rfl (Nat.le_of_ble_eq_true rfl) dX12_ripple_66 (does_X12_has ((R_X12_run (zu σ 0 0 0) (-1)) 11 to) f SM (R_X12_run (zu σ 0 0 0) (-1))) ?_
            refine zRx.if_eqB (tgt := 74) dX12_ripple_69 (by decide) (fun c69 => ?_) (fun c69 => ?_)
            · refine zRx.aload_n 0 rfl rfl dX12_ripple_74 ?_
              refine zRx.getR (a := 0) (b := 11) fl_12_62 rfl rfl dX12_ripple_75 ?_
              refine zRx.iload_n 2 rfl rfl dX12_ripple_78 ?_
              refine zRx.ialdv (v := (R_X12_run (zu σ 0 0 0) (-1)) 11 to) rfl rfl (by omega) (by omega) dX12_ripple_79 ?_
              refine zRx.istore (ls' := [(0, zP 0), (1, .inl who), (2, .inl to), (3, .inl f), (4, .inl i), (5, .inl ((R_X12_run (zu σ 0 0 0) (-1)) 11 to))]) rfl (by decide) dX12_ripple_80 ?_
              refine zRx.aload_n 0 rfl rfl dX12_ripple_82 ?_
              refine zRx.iload 5 rfl dX12_ripple_83 ?_
              refine zRx.iconst ⟨by decide, by decide⟩ dX12_ripple_85 ?_
              refine zRx.iload_n 3 rfl rfl dX12_ripple_86 ?_
              refine zRx.ishl dX12_ripple_87 ?_
              refine zRx.ior dX12_ripple_88 ?_
              refine zRx.cVi (w := .inl (R_X12_follows (R_X12_run (zu σ 0 0 0) (-1)) (bor ((R_X12_run (zu σ 0 0 0) (-1)) 11 to) (bshl 1 f)))) (M := m_X12_follows) (av := [.inl (bor ((R_X12_run (zu σ 0 0 0) (-1)) 11 to) (bshl 1 f))]) cv_12_354 mk_X12_follows (by decide) (b := 0) rfl rfl (Nat.le_of_ble_eq_true rfl) dX12_ripple_89 (does_X12_follows (R_X12_run (zu σ 0 0 0) (-1)) (bor ((R_X12_run (zu σ 0 0 0) (-1)) 11 to) (bshl 1 f)) (MS_run hN _ _ _) (by have h1 := run_MK hN 0 0 (-1) to (by omega) (by omega); have := bor_pow h1 (show 0 ≤ f ∧ f < 12 by omega); omega)) ?_
              refine zRx.iload 5 rfl dX12_ripple_92 ?_
              refine zRx.iconst ⟨by decide, by decide⟩ dX12_ripple_94 ?_
              refine zRx.ixor dX12_ripple_95 ?_
              refine zRx.iand dX12_ripple_96 ?_
              refine zRx.istore (ls' := [(0, zP 0), (1, .inl who), (2, .inl to), (3, .inl f), (4, .inl i), (5, .inl ((R_X12_run (zu σ 0 0 0) (-1)) 11 to)), (6, .inl (band (R_X12_follows (R_X12_run (zu σ 0 0 0) (-1)) (bor ((R_X12_run (zu σ 0 0 0) (-1)) 11 to) (bshl 1 f))) (bxor ((R_X12_run (zu σ 0 0 0) (-1)) 11 to) (-1))))]) rfl (by decide) dX12_ripple_97 ?_
              refine zRx.iload 4 rfl dX12_ripple_99 ?_
              refine zRx.if_ne (tgt := 107) dX12_ripple_101 (by decide) (fun c101 => ?_) (fun c101 => ?_)
              · refine zRx.iconst ⟨by decide, by decide⟩ dX12_ripple_107 ?_
                refine zRx.istore (ls' := [(0, zP 0), (1, .inl who), (2, .inl to), (3, .inl f), (4, .inl i), (5, .inl ((R_X12_run (zu σ 0 0 0) (-1)) 11 to)), (6, .inl (band (R_X12_follows (R_X12_run (zu σ 0 0 0) (-1)) (bor ((R_X12_run (zu σ 0 0 0) (-1)) 11 to) (bshl 1 f))) (bxor ((R_X12_run (zu σ 0 0 0) (-1)) 11 to) (-1)))), (7, .inl 0)]) rfl (by decide) dX12_ripple_108 ?_
                refine zRx.iconst ⟨by decide, by decide⟩ dX12_ripple_110 ?_
                refine zRx.istore (ls' := [(0, zP 0), (1, .inl who), (2, .inl to), (3, .inl f), (4, .inl i), (5, .inl ((R_X12_run (zu σ 0 0 0) (-1)) 11 to)), (6, .inl (band (R_X12_follows (R_X12_run (zu σ 0 0 0) (-1)) (bor ((R_X12_run (zu σ 0 0 0) (-1)) 11 to) (bshl 1 f))) (bxor ((R_X12_run (zu σ 0 0 0) (-1)) 11 to) (-1)))), (7, .inl 0), (8, .inl 0)]) rfl (by decide) dX12_ripple_111 ?_
                have he : R_X12_ripple σ who to f i = L_X12_ripple_113 who to f i (band (R_X12_follows (R_X12_run (zu σ 0 0 0) (-1)) (bor ((R_X12_run (zu σ 0 0 0) (-1)) 11 to) (bshl 1 f))) (bxor ((R_X12_run (zu σ 0 0 0) (-1)) 11 to) (-1))) 500 0 0 (R_X12_run (zu σ 0 0 0) (-1)) := by rw [R_X12_ripple, if_pos c10, if_pos c18, if_pos c26, if_pos c36, if_pos c56, if_neg c69, if_neg c101]
                rw [he]
                exact loop_X12_ripple_113 who to f i (by omega) (by omega) ((R_X12_run (zu σ 0 0 0) (-1)) 11 to) (band (R_X12_follows (R_X12_run (zu σ 0 0 0) (-1)) (bor ((R_X12_run (zu σ 0 0 0) (-1)) 11 to) (bshl 1 f))) (bxor ((R_X12_run (zu σ 0 0 0) (-1)) 11 to) (-1))) 500 0 0 (R_X12_run (zu σ 0 0 0) (-1)) (by omega) (run_m hN _ _ _) (MS_run hN _ _ _) (run_MK hN _ _ _) (by have := run_m hN 0 0 (-1); omega)
              · refine zRx.iload 6 rfl dX12_ripple_104 ?_
                exact zR.iret rfl dX12_ripple_106 (by have he : R_X12_ripple σ who to f i = (band (R_X12_follows (R_X12_run (zu σ 0 0 0) (-1)) (bor ((R_X12_run (zu σ 0 0 0) (-1)) 11 to) (bshl 1 f))) (bxor ((R_X12_run (zu σ 0 0 0) (-1)) 11 to) (-1)), R_X12_run (zu σ 0 0 0) (-1)) := (by rw [R_X12_ripple, if_pos c10, if_pos c18, if_pos c26, if_pos c36, if_pos c56, if_neg c69, if_pos c101]); rw [he]; exact ⟨rfl, rfl⟩)
            · refine zRx.iconst ⟨by decide, by decide⟩ dX12_ripple_72 ?_
              exact zR.iret rfl dX12_ripple_73 (by have he : R_X12_ripple σ who to f i = ((-1), R_X12_run (zu σ 0 0 0) (-1)) := (by rw [R_X12_ripple, if_pos c10, if_pos c18, if_pos c26, if_pos c36, if_pos c56, if_pos c69]); rw [he]; exact ⟨rfl, rfl⟩)
        · refine zRx.iconst ⟨by decide, by decide⟩ dX12_ripple_39 ?_
          exact zR.iret rfl dX12_ripple_40 (by have he : R_X12_ripple σ who to f i = ((-1), zu σ 0 0 0) := (by rw [R_X12_ripple, if_pos c10, if_pos c18, if_pos c26, if_neg c36]); rw [he]; exact ⟨rfl, rfl⟩)

