/-! the reference: since, valley -/
def L_X12_readSince_35  (to : Int) : Nat → Int → zG → Int × zG
  | 0, _, σ => (0, σ)
  | n + 1, q, σ => if 3 ≤ q then (1, zu σ 3 2 ((σ 3 2) + 1)) else (if (R_X12_isName σ) = 0 then (0, zu (zu σ 0 15 1) 0 16 (σ 0 12)) else (if (R_X12_find σ 28 (σ 3 1)) < 0 then (0, zu (zu σ 0 15 3) 0 16 (σ 0 12)) else (if q ≤ 0 then (if q ≤ 1 then (L_X12_readSince_35  to n (q + 1) (F_X12_next (zu σ 3 (to + q) (R_X12_find σ 28 (σ 3 1))))) else (if (R_X12_find σ 28 (σ 3 1)) = (σ 3 (to + 1)) then (0, zu (zu σ 0 15 3) 0 16 (σ 0 12)) else (L_X12_readSince_35  to n (q + 1) (F_X12_next (zu σ 3 (to + q) (R_X12_find σ 28 (σ 3 1))))))) else (if (R_X12_find σ 28 (σ 3 1)) = (σ 3 to) then (0, zu (zu σ 0 15 3) 0 16 (σ 0 12)) else (if q ≤ 1 then (L_X12_readSince_35  to n (q + 1) (F_X12_next (zu σ 3 (to + q) (R_X12_find σ 28 (σ 3 1))))) else (if (R_X12_find σ 28 (σ 3 1)) = (σ 3 (to + 1)) then (0, zu (zu σ 0 15 3) 0 16 (σ 0 12)) else (L_X12_readSince_35  to n (q + 1) (F_X12_next (zu σ 3 (to + q) (R_X12_find σ 28 (σ 3 1)))))))))))
theorem fr_L_X12_readSince_35  (to : Int)  (n : Nat) (q : Int) (σ : zG) {k : Nat} (h : k ∉ [0, 3]) : (L_X12_readSince_35  to n q σ).2 k = σ k := by
  induction n generalizing q σ with
  | zero => rfl
  | succ n ih =>
    have ne : ∀ c ∈ [0, 3], k ≠ c := fun c hc e => h (e ▸ hc)
    have nk_F_X12_next : k ∉ [0] := fun hm => h (by first | (revert hm; simp only [List.mem_cons, List.not_mem_nil, or_false]; omega) | (simp at hm))
    rw [L_X12_readSince_35]
    repeat' split
    all_goals first | rfl | simp only [zu_row _ _ _ (ne 0 (by decide)), zu_row _ _ _ (ne 3 (by decide)), fr_F_X12_next (h := nk_F_X12_next), ih]

set_option maxRecDepth 20000 in
theorem loop_X12_readSince_35   (to : Int) : ∀ (n : Nat) (q : Int) (σ : zG), (0 ≤ q ∧ q ≤ 3) ∧ (52 ≤ to ∧ to ≤ 73) → PI σ → PH σ → σ 3 2 ≤ 7 → (3 - q).toNat < n → zR SM 2 m_X12_readSince 35 [(0, zP 0), (1, .inl to), (2, .inl q)] [] σ (zEq (some (.inl (L_X12_readSince_35  to n q σ).1)) (L_X12_readSince_35  to n q σ).2) := by
  intro n
  induction n with
  | zero => intro q σ h0 hI hH h7 hmz; exact absurd hmz (Nat.not_lt_zero _)
  | succ n ih =>
    intro q σ h0 hI hH h7 hmz
    obtain ⟨hp, hf, hs⟩ := id hH
    refine zRx.iload_n 2 rfl rfl dX12_readSince_35 ?_
    refine zRx.iconst ⟨by decide, by decide⟩ dX12_readSince_36 ?_
    refine zRx.icmp_ge (tgt := 126) dX12_readSince_37 (by decide) (fun c37 => ?_) (fun c37 => ?_)
    · refine zRx.aload_n 0 rfl rfl dX12_readSince_126 ?_
      refine zRx.getR (a := 0) (b := 3) fl_12_37 rfl rfl dX12_readSince_127 ?_
      refine zRx.iconst ⟨by decide, by decide⟩ dX12_readSince_130 ?_
      refine zRx.dup2 rfl rfl dX12_readSince_131 ?_
      refine zRx.ialdv (v := σ 3 2) rfl rfl (by decide) (by decide) dX12_readSince_132 ?_
      refine zRx.iconst ⟨by decide, by decide⟩ dX12_readSince_133 ?_
      refine zRx.iadd ⟨by omega, by omega⟩ dX12_readSince_134 ?_
      refine zRx.iast rfl (by decide) (by decide) dX12_readSince_135 ?_
      refine zRx.iconst ⟨by decide, by decide⟩ dX12_readSince_136 ?_
      exact zR.zret rfl ⟨by decide, by decide⟩ dX12_readSince_137 (by have he : L_X12_readSince_35  to (n + 1) q σ = (1, zu σ 3 2 ((σ 3 2) + 1)) := (by rw [L_X12_readSince_35, if_pos c37]); rw [he]; exact ⟨rfl, rfl⟩)
    · refine zRx.aload_n 0 rfl rfl dX12_readSince_40 ?_
      refine zRx.cVi (w := .inl (R_X12_isName σ)) (M := m_X12_isName) (av := []) cv_12_261 mk_X12_isName (by decide) (b := 0) rfl rfl (Nat.le_of_ble_eq_true rfl) dX12_readSince_41 (does_X12_isName σ) ?_
      refine zRx.if_ne (tgt := 53) dX12_readSince_44 (by decide) (fun c44 => ?_) (fun c44 => ?_)
      · refine zRx.aload_n 0 rfl rfl dX12_readSince_53 ?_
        refine zRx.bipush ⟨by decide, by decide⟩ rfl dX12_readSince_54 ?_
        refine zRx.aload_n 0 rfl rfl dX12_readSince_56 ?_
        refine zRx.getR (a := 0) (b := 3) fl_12_37 rfl rfl dX12_readSince_57 ?_
        refine zRx.iconst ⟨by decide, by decide⟩ dX12_readSince_60 ?_
        refine zRx.ialdv (v := σ 3 1) rfl rfl (by decide) (by decide) dX12_readSince_61 ?_
        refine zRx.cVi (w := .inl (R_X12_find σ 28 (σ 3 1))) (M := m_X12_find) (av := [.inl 28, .inl (σ 3 1)]) cv_12_265 mk_X12_find (by decide) (b := 0) rfl rfl (Nat.le_of_ble_eq_true rfl) dX12_readSince_62 (does_X12_find σ 28 (σ 3 1) (by omega)) ?_
        refine zRx.istore_n (ls' := [(0, zP 0), (1, .inl to), (2, .inl q), (3, .inl (R_X12_find σ 28 (σ 3 1)))]) rfl rfl (by decide) dX12_readSince_65 ?_
        refine zRx.iload_n 3 rfl rfl dX12_readSince_66 ?_
        refine zRx.if_lt (tgt := 101) dX12_readSince_67 (by decide) (fun c67 => ?_) (fun c67 => ?_)
        · refine zRx.aload_n 0 rfl rfl dX12_readSince_101 ?_
          refine zRx.iconst ⟨by decide, by decide⟩ dX12_readSince_102 ?_
          refine zRx.cVi (w := .inl 0) (M := m_X12_bad) (av := [.inl 3]) cv_12_248 mk_X12_bad (by decide) (b := 0) rfl rfl (Nat.le_of_ble_eq_true rfl) dX12_readSince_103 (bad_eq2 σ 3 (σ 0 12) rfl) ?_
          exact zR.zret rfl ⟨by decide, by decide⟩ dX12_readSince_106 (by have he : L_X12_readSince_35  to (n + 1) q σ = (0, zu (zu σ 0 15 3) 0 16 (σ 0 12)) := (by rw [L_X12_readSince_35, if_neg (Int.not_le.mpr c37), if_neg c44, if_pos c67]); rw [he]; exact ⟨rfl, rfl⟩)
        · refine zRx.iload_n 2 rfl rfl dX12_readSince_70 ?_
          refine zRx.if_le (tgt := 84) dX12_readSince_71 (by decide) (fun c71 => ?_) (fun c71 => ?_)
          · refine zRx.iload_n 2 rfl rfl dX12_readSince_84 ?_
            refine zRx.iconst ⟨by decide, by decide⟩ dX12_readSince_85 ?_
            refine zRx.icmp_le (tgt := 107) dX12_readSince_86 (by decide) (fun c86 => ?_) (fun c86 => ?_)
            · refine zRx.aload_n 0 rfl rfl dX12_readSince_107 ?_
              refine zRx.getR (a := 0) (b := 3) fl_12_37 rfl rfl dX12_readSince_108 ?_
              refine zRx.iload_n 1 rfl rfl dX12_readSince_111 ?_
              refine zRx.iload_n 2 rfl rfl dX12_readSince_112 ?_
              refine zRx.iadd ⟨by omega, by omega⟩ dX12_readSince_113 ?_
              refine zRx.iload_n 3 rfl rfl dX12_readSince_114 ?_
              refine zRx.iast rfl (by omega) (by omega) dX12_readSince_115 ?_
              refine zRx.aload_n 0 rfl rfl dX12_readSince_116 ?_
              refine zRx.cVv (M := m_X12_next) (av := []) cv_12_251 mk_X12_next (by decide) (b := 0) rfl rfl (Nat.le_of_ble_eq_true rfl) dX12_readSince_117 (does_next2 (zu σ 3 (to + q) (R_X12_find σ 28 (σ 3 1))) (PI_zu (fun h => absurd h.1 (by decide)) hI)) ?_
              refine zRx.iinc (n := 1) (ls' := [(0, zP 0), (1, .inl to), (2, .inl (q + 1)), (3, .inl (R_X12_find σ 28 (σ 3 1)))]) 2 rfl ⟨by omega, by omega⟩ rfl (by decide) dX12_readSince_120 ?_
              refine zRx.goto (tgt := 35) dX12_readSince_123 (by decide) ?_
              refine zRx.pick [0, 1, 2] (ls' := [(0, zP 0), (1, .inl to), (2, .inl (q + 1))]) rfl ?_
              have he : L_X12_readSince_35  to (n + 1) q σ = L_X12_readSince_35  to n (q + 1) (F_X12_next (zu σ 3 (to + q) (R_X12_find σ 28 (σ 3 1)))) := by rw [L_X12_readSince_35, if_neg (Int.not_le.mpr c37), if_neg c44, if_neg (Int.not_lt.mpr c67), if_pos c71, if_pos c86]
              rw [he]
              exact ih (q + 1) (F_X12_next (zu σ 3 (to + q) (R_X12_find σ 28 (σ 3 1)))) (by omega) (PI_F_X12_next (PI_zu (fun h => absurd h.1 (by decide)) hI)) (PH_F_X12_next (PH_zu (Or.inr (by omega)) hH)) (by have e9 : (F_X12_next (zu σ 3 (to + q) (R_X12_find σ 28 (σ 3 1)))) 3 2 = σ 3 2 := ((congrFun (fr_F_X12_next (zu σ 3 (to + q) (R_X12_find σ 28 (σ 3 1))) (k := 3) (by decide)) _).trans (zu_off _ _ _ (by omega))); omega) (by omega)
            · refine zRx.iload_n 3 rfl rfl dX12_readSince_89 ?_
              refine zRx.aload_n 0 rfl rfl dX12_readSince_90 ?_
              refine zRx.getR (a := 0) (b := 3) fl_12_37 rfl rfl dX12_readSince_91 ?_
              refine zRx.iload_n 1 rfl rfl dX12_readSince_94 ?_
              refine zRx.iconst ⟨by decide, by decide⟩ dX12_readSince_95 ?_
              refine zRx.iadd ⟨by omega, by omega⟩ dX12_readSince_96 ?_
              refine zRx.ialdv (v := σ 3 (to + 1)) rfl rfl (by omega) (by omega) dX12_readSince_97 ?_
              refine zRx.icmp_ne (tgt := 107) dX12_readSince_98 (by decide) (fun c98 => ?_) (fun c98 => ?_)
              · refine zRx.aload_n 0 rfl rfl dX12_readSince_107 ?_
                refine zRx.getR (a := 0) (b := 3) fl_12_37 rfl rfl dX12_readSince_108 ?_
                refine zRx.iload_n 1 rfl rfl dX12_readSince_111 ?_
                refine zRx.iload_n 2 rfl rfl dX12_readSince_112 ?_
                refine zRx.iadd ⟨by omega, by omega⟩ dX12_readSince_113 ?_
                refine zRx.iload_n 3 rfl rfl dX12_readSince_114 ?_
                refine zRx.iast rfl (by omega) (by omega) dX12_readSince_115 ?_
                refine zRx.aload_n 0 rfl rfl dX12_readSince_116 ?_
                refine zRx.cVv (M := m_X12_next) (av := []) cv_12_251 mk_X12_next (by decide) (b := 0) rfl rfl (Nat.le_of_ble_eq_true rfl) dX12_readSince_117 (does_next2 (zu σ 3 (to + q) (R_X12_find σ 28 (σ 3 1))) (PI_zu (fun h => absurd h.1 (by decide)) hI)) ?_
                refine zRx.iinc (n := 1) (ls' := [(0, zP 0), (1, .inl to), (2, .inl (q + 1)), (3, .inl (R_X12_find σ 28 (σ 3 1)))]) 2 rfl ⟨by omega, by omega⟩ rfl (by decide) dX12_readSince_120 ?_
                refine zRx.goto (tgt := 35) dX12_readSince_123 (by decide) ?_
                refine zRx.pick [0, 1, 2] (ls' := [(0, zP 0), (1, .inl to), (2, .inl (q + 1))]) rfl ?_
                have he : L_X12_readSince_35  to (n + 1) q σ = L_X12_readSince_35  to n (q + 1) (F_X12_next (zu σ 3 (to + q) (R_X12_find σ 28 (σ 3 1)))) := by rw [L_X12_readSince_35, if_neg (Int.not_le.mpr c37), if_neg c44, if_neg (Int.not_lt.mpr c67), if_pos c71, if_neg (Int.not_le.mpr c86), if_neg c98]
                rw [he]
                exact ih (q + 1) (F_X12_next (zu σ 3 (to + q) (R_X12_find σ 28 (σ 3 1)))) (by omega) (PI_F_X12_next (PI_zu (fun h => absurd h.1 (by decide)) hI)) (PH_F_X12_next (PH_zu (Or.inr (by omega)) hH)) (by have e9 : (F_X12_next (zu σ 3 (to + q) (R_X12_find σ 28 (σ 3 1)))) 3 2 = σ 3 2 := ((congrFun (fr_F_X12_next (zu σ 3 (to + q) (R_X12_find σ 28 (σ 3 1))) (k := 3) (by decide)) _).trans (zu_off _ _ _ (by omega))); omega) (by omega)
              · refine zRx.aload_n 0 rfl rfl dX12_readSince_101 ?_
                refine zRx.iconst ⟨by decide, by decide⟩ dX12_readSince_102 ?_
                refine zRx.cVi (w := .inl 0) (M := m_X12_bad) (av := [.inl 3]) cv_12_248 mk_X12_bad (by decide) (b := 0) rfl rfl (Nat.le_of_ble_eq_true rfl) dX12_readSince_103 (bad_eq2 σ 3 (σ 0 12) rfl) ?_
                exact zR.zret rfl ⟨by decide, by decide⟩ dX12_readSince_106 (by have he : L_X12_readSince_35  to (n + 1) q σ = (0, zu (zu σ 0 15 3) 0 16 (σ 0 12)) := (by rw [L_X12_readSince_35, if_neg (Int.not_le.mpr c37), if_neg c44, if_neg (Int.not_lt.mpr c67), if_pos c71, if_neg (Int.not_le.mpr c86), if_pos c98]); rw [he]; exact ⟨rfl, rfl⟩)
          · refine zRx.iload_n 3 rfl rfl dX12_readSince_74 ?_
            refine zRx.aload_n 0 rfl rfl dX12_readSince_75 ?_
            refine zRx.getR (a := 0) (b := 3) fl_12_37 rfl rfl dX12_readSince_76 ?_
            refine zRx.iload_n 1 rfl rfl dX12_readSince_79 ?_
            refine zRx.ialdv (v := σ 3 to) rfl rfl (by omega) (by omega) dX12_readSince_80 ?_
            refine zRx.icmp_eq (tgt := 101) dX12_readSince_81 (by decide) (fun c81 => ?_) (fun c81 => ?_)
            · refine zRx.aload_n 0 rfl rfl dX12_readSince_101 ?_
              refine zRx.iconst ⟨by decide, by decide⟩ dX12_readSince_102 ?_
              refine zRx.cVi (w := .inl 0) (M := m_X12_bad) (av := [.inl 3]) cv_12_248 mk_X12_bad (by decide) (b := 0) rfl rfl (Nat.le_of_ble_eq_true rfl) dX12_readSince_103 (bad_eq2 σ 3 (σ 0 12) rfl) ?_
              exact zR.zret rfl ⟨by decide, by decide⟩ dX12_readSince_106 (by have he : L_X12_readSince_35  to (n + 1) q σ = (0, zu (zu σ 0 15 3) 0 16 (σ 0 12)) := (by rw [L_X12_readSince_35, if_neg (Int.not_le.mpr c37), if_neg c44, if_neg (Int.not_lt.mpr c67), if_neg (Int.not_le.mpr c71), if_pos c81]); rw [he]; exact ⟨rfl, rfl⟩)
            · refine zRx.iload_n 2 rfl rfl dX12_readSince_84 ?_
              refine zRx.iconst ⟨by decide, by decide⟩ dX12_readSince_85 ?_
              refine zRx.icmp_le (tgt := 107) dX12_readSince_86 (by decide) (fun c86 => ?_) (fun c86 => ?_)
              · refine zRx.aload_n 0 rfl rfl dX12_readSince_107 ?_
                refine zRx.getR (a := 0) (b := 3) fl_12_37 rfl rfl dX12_readSince_108 ?_
                refine zRx.iload_n 1 rfl rfl dX12_readSince_111 ?_
                refine zRx.iload_n 2 rfl rfl dX12_readSince_112 ?_
                refine zRx.iadd ⟨by omega, by omega⟩ dX12_readSince_113 ?_
                refine zRx.iload_n 3 rfl rfl dX12_readSince_114 ?_
                refine zRx.iast rfl (by omega) (by omega) dX12_readSince_115 ?_
                refine zRx.aload_n 0 rfl rfl dX12_readSince_116 ?_
                refine zRx.cVv (M := m_X12_next) (av := []) cv_12_251 mk_X12_next (by decide) (b := 0) rfl rfl (Nat.le_of_ble_eq_true rfl) dX12_readSince_117 (does_next2 (zu σ 3 (to + q) (R_X12_find σ 28 (σ 3 1))) (PI_zu (fun h => absurd h.1 (by decide)) hI)) ?_
                refine zRx.iinc (n := 1) (ls' := [(0, zP 0), (1, .inl to), (2, .inl (q + 1)), (3, .inl (R_X12_find σ 28 (σ 3 1)))]) 2 rfl ⟨by omega, by omega⟩ rfl (by decide) dX12_readSince_120 ?_
                refine zRx.goto (tgt := 35) dX12_readSince_123 (by decide) ?_
                refine zRx.pick [0, 1, 2] (ls' := [(0, zP 0), (1, .inl to), (2, .inl (q + 1))]) rfl ?_
                have he : L_X12_readSince_35  to (n + 1) q σ = L_X12_readSince_35  to n (q + 1) (F_X12_next (zu σ 3 (to + q) (R_X12_find σ 28 (σ 3 1)))) := by rw [L_X12_readSince_35, if_neg (Int.not_le.mpr c37), if_neg c44, if_neg (Int.not_lt.mpr c67), if_neg (Int.not_le.mpr c71), if_neg c81, if_pos c86]
                rw [he]
                exact ih (q + 1) (F_X12_next (zu σ 3 (to + q) (R_X12_find σ 28 (σ 3 1)))) (by omega) (PI_F_X12_next (PI_zu (fun h => absurd h.1 (by decide)) hI)) (PH_F_X12_next (PH_zu (Or.inr (by omega)) hH)) (by have e9 : (F_X12_next (zu σ 3 (to + q) (R_X12_find σ 28 (σ 3 1)))) 3 2 = σ 3 2 := ((congrFun (fr_F_X12_next (zu σ 3 (to + q) (R_X12_find σ 28 (σ 3 1))) (k := 3) (by decide)) _).trans (zu_off _ _ _ (by omega))); omega) (by omega)
              · refine zRx.iload_n 3 rfl rfl dX12_readSince_89 ?_
                refine zRx.aload_n 0 rfl rfl dX12_readSince_90 ?_
                refine zRx.getR (a := 0) (b := 3) fl_12_37 rfl rfl dX12_readSince_91 ?_
                refine zRx.iload_n 1 rfl rfl dX12_readSince_94 ?_
                refine zRx.iconst ⟨by decide, by decide⟩ dX12_readSince_95 ?_
                refine zRx.iadd ⟨by omega, by omega⟩ dX12_readSince_96 ?_
                refine zRx.ialdv (v := σ 3 (to + 1)) rfl rfl (by omega) (by omega) dX12_readSince_97 ?_
                refine zRx.icmp_ne (tgt := 107) dX12_readSince_98 (by decide) (fun c98 => ?_) (fun c98 => ?_)
                · refine zRx.aload_n 0 rfl rfl dX12_readSince_107 ?_
                  refine zRx.getR (a := 0) (b := 3) fl_12_37 rfl rfl dX12_readSince_108 ?_
                  refine zRx.iload_n 1 rfl rfl dX12_readSince_111 ?_
                  refine zRx.iload_n 2 rfl rfl dX12_readSince_112 ?_
                  refine zRx.iadd ⟨by omega, by omega⟩ dX12_readSince_113 ?_
                  refine zRx.iload_n 3 rfl rfl dX12_readSince_114 ?_
                  refine zRx.iast rfl (by omega) (by omega) dX12_readSince_115 ?_
                  refine zRx.aload_n 0 rfl rfl dX12_readSince_116 ?_
                  refine zRx.cVv (M := m_X12_next) (av := []) cv_12_251 mk_X12_next (by decide) (b := 0) rfl rfl (Nat.le_of_ble_eq_true rfl) dX12_readSince_117 (does_next2 (zu σ 3 (to + q) (R_X12_find σ 28 (σ 3 1))) (PI_zu (fun h => absurd h.1 (by decide)) hI)) ?_
                  refine zRx.iinc (n := 1) (ls' := [(0, zP 0), (1, .inl to), (2, .inl (q + 1)), (3, .inl (R_X12_find σ 28 (σ 3 1)))]) 2 rfl ⟨by omega, by omega⟩ rfl (by decide) dX12_readSince_120 ?_
                  refine zRx.goto (tgt := 35) dX12_readSince_123 (by decide) ?_
                  refine zRx.pick [0, 1, 2] (ls' := [(0, zP 0), (1, .inl to), (2, .inl (q + 1))]) rfl ?_
                  have he : L_X12_readSince_35  to (n + 1) q σ = L_X12_readSince_35  to n (q + 1) (F_X12_next (zu σ 3 (to + q) (R_X12_find σ 28 (σ 3 1)))) := by rw [L_X12_readSince_35, if_neg (Int.not_le.mpr c37), if_neg c44, if_neg (Int.not_lt.mpr c67), if_neg (Int.not_le.mpr c71), if_neg c81, if_neg (Int.not_le.mpr c86), if_neg c98]
                  rw [he]
                  exact ih (q + 1) (F_X12_next (zu σ 3 (to + q) (R_X12_find σ 28 (σ 3 1)))) (by omega) (PI_F_X12_next (PI_zu (fun h => absurd h.1 (by decide)) hI)) (PH_F_X12_next (PH_zu (Or.inr (by omega)) hH)) (by have e9 : (F_X12_next (zu σ 3 (to + q) (R_X12_find σ 28 (σ 3 1)))) 3 2 = σ 3 2 := ((congrFun (fr_F_X12_next (zu σ 3 (to + q) (R_X12_find σ 28 (σ 3 1))) (k := 3) (by decide)) _).trans (zu_off _ _ _ (by omega))); omega) (by omega)
                · refine zRx.aload_n 0 rfl rfl dX12_readSince_101 ?_
                  refine zRx.iconst ⟨by decide, by decide⟩ dX12_readSince_102 ?_
                  refine zRx.cVi (w := .inl 0) (M := m_X12_bad) (av := [.inl 3]) cv_12_248 mk_X12_bad (by decide) (b := 0) rfl rfl (Nat.le_of_ble_eq_true rfl) dX12_readSince_103 (bad_eq2 σ 3 (σ 0 12) rfl) ?_
                  exact zR.zret rfl ⟨by decide, by decide⟩ dX12_readSince_106 (by have he : L_X12_readSince_35  to (n + 1) q σ = (0, zu (zu σ 0 15 3) 0 16 (σ 0 12)) := (by rw [L_X12_readSince_35, if_neg (Int.not_le.mpr c37), if_neg c44, if_neg (Int.not_lt.mpr c67), if_neg (Int.not_le.mpr c71), if_neg c81, if_neg (Int.not_le.mpr c86), if_pos c98]); rw [he]; exact ⟨rfl, rfl⟩)
      · refine zRx.aload_n 0 rfl rfl dX12_readSince_47 ?_
        refine zRx.iconst ⟨by decide, by decide⟩ dX12_readSince_48 ?_
        refine zRx.cVi (w := .inl 0) (M := m_X12_bad) (av := [.inl 1]) cv_12_248 mk_X12_bad (by decide) (b := 0) rfl rfl (Nat.le_of_ble_eq_true rfl) dX12_readSince_49 (bad_eq2 σ 1 (σ 0 12) rfl) ?_
        exact zR.zret rfl ⟨by decide, by decide⟩ dX12_readSince_52 (by have he : L_X12_readSince_35  to (n + 1) q σ = (0, zu (zu σ 0 15 1) 0 16 (σ 0 12)) := (by rw [L_X12_readSince_35, if_neg (Int.not_le.mpr c37), if_pos c44]); rw [he]; exact ⟨rfl, rfl⟩)
def R_X12_readSince (σ : zG)  : Int × zG := if (σ 3 2) = 8 then (0, zu (zu σ 0 15 4) 0 16 (σ 0 12)) else (L_X12_readSince_35  (52 + (3 * (σ 3 2))) 10 0 (F_X12_next σ))
theorem fr_R_X12_readSince (σ : zG)  {k : Nat} (h : k ∉ [0, 3]) : (R_X12_readSince σ ).2 k = σ k := by
  have ne : ∀ c ∈ [0, 3], k ≠ c := fun c hc e => h (e ▸ hc)
  have nk_F_X12_next : k ∉ [0] := fun hm => h (by first | (revert hm; simp only [List.mem_cons, List.not_mem_nil, or_false]; omega) | (simp at hm))
  have nl_L_X12_readSince_35 : k ∉ [0, 3] := fun hm => h (by first | (revert hm; simp only [List.mem_cons, List.not_mem_nil, or_false]; omega) | (simp at hm))
  unfold R_X12_readSince
  repeat' split
  all_goals first | rfl | simp only [zu_row _ _ _ (ne 0 (by decide)), zu_row _ _ _ (ne 3 (by decide)), fr_F_X12_next (h := nk_F_X12_next), fr_L_X12_readSince_35 (h := nl_L_X12_readSince_35)]

set_option maxRecDepth 20000 in
theorem does_X12_readSince (σ : zG)  (hI : PI σ) (hH : PH σ)  : zDo SM 2 m_X12_readSince [zP 0] σ (zEq (some (.inl (R_X12_readSince σ ).1)) (R_X12_readSince σ ).2) := by
  refine zDo.intro mk_X12_readSince (Nat.le_of_ble_eq_true rfl) ?_
  obtain ⟨hp, hf, hs⟩ := id hH
  refine zRx.bipush ⟨by decide, by decide⟩ rfl dX12_readSince_0 ?_
  refine zRx.iconst ⟨by decide, by decide⟩ dX12_readSince_2 ?_
  refine zRx.aload_n 0 rfl rfl dX12_readSince_3 ?_
  refine zRx.getR (a := 0) (b := 3) fl_12_37 rfl rfl dX12_readSince_4 ?_
  refine zRx.iconst ⟨by decide, by decide⟩ dX12_readSince_7 ?_
  refine zRx.ialdv (v := σ 3 2) rfl rfl (by decide) (by decide) dX12_readSince_8 ?_
  refine zRx.imul ⟨by omega, by omega⟩ dX12_readSince_9 ?_
  refine zRx.iadd ⟨by omega, by omega⟩ dX12_readSince_10 ?_
  refine zRx.istore_n (ls' := [(0, zP 0), (1, .inl (52 + (3 * (σ 3 2))))]) rfl rfl (by decide) dX12_readSince_11 ?_
  refine zRx.aload_n 0 rfl rfl dX12_readSince_12 ?_
  refine zRx.getR (a := 0) (b := 3) fl_12_37 rfl rfl dX12_readSince_13 ?_
  refine zRx.iconst ⟨by decide, by decide⟩ dX12_readSince_16 ?_
  refine zRx.ialdv (v := σ 3 2) rfl rfl (by decide) (by decide) dX12_readSince_17 ?_
  refine zRx.bipush ⟨by decide, by decide⟩ rfl dX12_readSince_18 ?_
  refine zRx.icmp_ne (tgt := 29) dX12_readSince_20 (by decide) (fun c20 => ?_) (fun c20 => ?_)
  · refine zRx.aload_n 0 rfl rfl dX12_readSince_29 ?_
    refine zRx.cVv (M := m_X12_next) (av := []) cv_12_251 mk_X12_next (by decide) (b := 0) rfl rfl (Nat.le_of_ble_eq_true rfl) dX12_readSince_30 (does_next2 σ hI) ?_
    refine zRx.iconst ⟨by decide, by decide⟩ dX12_readSince_33 ?_
    refine zRx.istore_n (ls' := [(0, zP 0), (1, .inl (52 + (3 * (σ 3 2)))), (2, .inl 0)]) rfl rfl (by decide) dX12_readSince_34 ?_
    have he : R_X12_readSince σ  = L_X12_readSince_35  (52 + (3 * (σ 3 2))) 10 0 (F_X12_next σ) := by rw [R_X12_readSince, if_neg c20]
    rw [he]
    exact loop_X12_readSince_35   (52 + (3 * (σ 3 2))) 10 0 (F_X12_next σ) (by omega) (PI_F_X12_next hI) (PH_F_X12_next hH) (by have e9 : (F_X12_next σ) 3 2 = σ 3 2 := (congrFun (fr_F_X12_next σ (k := 3) (by decide)) _); omega) (by omega)
  · refine zRx.aload_n 0 rfl rfl dX12_readSince_23 ?_
    refine zRx.iconst ⟨by decide, by decide⟩ dX12_readSince_24 ?_
    refine zRx.cVi (w := .inl 0) (M := m_X12_bad) (av := [.inl 4]) cv_12_248 mk_X12_bad (by decide) (b := 0) rfl rfl (Nat.le_of_ble_eq_true rfl) dX12_readSince_25 (bad_eq2 σ 4 (σ 0 12) rfl) ?_
    exact zR.zret rfl ⟨by decide, by decide⟩ dX12_readSince_28 (by have he : R_X12_readSince σ  = (0, zu (zu σ 0 15 4) 0 16 (σ 0 12)) := (by rw [R_X12_readSince, if_pos c20]); rw [he]; exact ⟨rfl, rfl⟩)

theorem sinceL_K {p0 : Int} (to : Int) : ∀ (n : Nat) (q : Int) (σ : zG), 0 ≤ q → 52 ≤ to → σ 3 2 ≤ 7 → PI σ → PH σ → PM p0 σ → PI (L_X12_readSince_35 to n q σ).2 ∧ PH (L_X12_readSince_35 to n q σ).2 ∧ PM p0 (L_X12_readSince_35 to n q σ).2 ∧ ((L_X12_readSince_35 to n q σ).1 ≠ 0 → AD p0 σ → AD p0 (L_X12_readSince_35 to n q σ).2)
  | 0, q, σ, h0, ht, h7, hI, hH, hM => ⟨hI, hH, hM, fun _ h => h⟩
  | n + 1, q, σ, h0, ht, h7, hI, hH, hM => by
    have hH0 := id hH
    unfold PH at hH0
    have key : ∀ f : Int, PI (L_X12_readSince_35 to n (q + 1) (F_X12_next (zu σ 3 (to + q) f))).2 ∧ PH (L_X12_readSince_35 to n (q + 1) (F_X12_next (zu σ 3 (to + q) f))).2 ∧ PM p0 (L_X12_readSince_35 to n (q + 1) (F_X12_next (zu σ 3 (to + q) f))).2 ∧ ((L_X12_readSince_35 to n (q + 1) (F_X12_next (zu σ 3 (to + q) f))).1 ≠ 0 → AD p0 σ → AD p0 (L_X12_readSince_35 to n (q + 1) (F_X12_next (zu σ 3 (to + q) f))).2) := by
      intro f
      have a1 : PI (zu σ 3 (to + q) f) := PI_zu (fun h => absurd h.1 (by decide)) hI
      have a2 : PH (zu σ 3 (to + q) f) := PH_zu (Or.inr (by omega)) hH
      have a3 : PM p0 (zu σ 3 (to + q) f) := PM_zu (fun h => absurd h.1 (by decide)) hM
      have h9 := sinceL_K to n (q + 1) (F_X12_next (zu σ 3 (to + q) f)) (by omega) ht (by rw [fr_F_X12_next _ (by decide), zu_off _ _ _ (by omega)]; exact h7) (PI_F_X12_next a1) (PH_F_X12_next a2) (PM_F_X12_next a3)
      exact ⟨h9.1, h9.2.1, h9.2.2.1, fun hv _ => h9.2.2.2 hv (AD_F_X12_next a3)⟩
    rw [L_X12_readSince_35]
    repeat' split
    all_goals first | exact key _ | exact ⟨PI_zu (by decide) (PI_zu (by decide) hI), PH_zu (Or.inl (by decide)) (PH_zu (Or.inl (by decide)) hH), PM_zu (by decide) (PM_zu (by decide) hM), fun hv _ => absurd rfl hv⟩ | exact ⟨PI_zu (fun h => absurd h.1 (by decide)) hI, PH_zu2 (by omega) hH, PM_zu (fun h => absurd h.1 (by decide)) hM, fun _ ha => AD_zu (fun h => absurd h.1 (by decide)) ha⟩
theorem since_K {p0 : Int} {σ : zG} (hI : PI σ) (hH : PH σ) (hM : PM p0 σ) : PI (R_X12_readSince σ).2 ∧ PH (R_X12_readSince σ).2 ∧ PM p0 (R_X12_readSince σ).2 ∧ ((R_X12_readSince σ).1 ≠ 0 → AD p0 (R_X12_readSince σ).2) := by
  have hH0 := id hH
  unfold PH at hH0
  unfold R_X12_readSince
  split
  · exact ⟨PI_zu (by decide) (PI_zu (by decide) hI), PH_zu (Or.inl (by decide)) (PH_zu (Or.inl (by decide)) hH), PM_zu (by decide) (PM_zu (by decide) hM), fun hv => absurd rfl hv⟩
  · have h9 := sinceL_K (p0 := p0) (52 + (3 * (σ 3 2))) 10 0 (F_X12_next σ) (by decide) (by omega) (by rw [fr_F_X12_next _ (by decide)]; omega) (PI_F_X12_next hI) (PH_F_X12_next hH) (PM_F_X12_next hM)
    exact ⟨h9.1, h9.2.1, h9.2.2.1, fun hv => h9.2.2.2 hv (AD_F_X12_next hM)⟩
/-- since as a pair of functions -/
def V_X12_readSince (σ : zG) : Int := (R_X12_readSince σ).1
def F_X12_readSince (σ : zG) : zG := (R_X12_readSince σ).2
theorem does_since2 (σ : zG) (hI : PI σ) (hH : PH σ) : zDo SM 2 m_X12_readSince [zP 0] σ (zEq (some (.inl (V_X12_readSince σ))) (F_X12_readSince σ)) := does_X12_readSince σ hI hH
theorem fr_F_X12_readSince (σ : zG) {k : Nat} (h : k ∉ [0, 3]) : F_X12_readSince σ k = σ k := fr_R_X12_readSince σ h
theorem PI_F_X12_readSince {σ : zG} (hI : PI σ) (hH : PH σ) : PI (F_X12_readSince σ) := (since_K hI hH (Int.le_refl (σ 0 4))).1
theorem PH_F_X12_readSince {σ : zG} (hI : PI σ) (hH : PH σ) : PH (F_X12_readSince σ) := (since_K hI hH (Int.le_refl (σ 0 4))).2.1
theorem PM_F_X12_readSince {σ : zG} {p0 : Int} (hI : PI σ) (hH : PH σ) (hM : PM p0 σ) : PM p0 (F_X12_readSince σ) := (since_K hI hH hM).2.2.1
theorem AD_F_X12_readSince {σ : zG} {p0 : Int} (hI : PI σ) (hH : PH σ) (hv : ¬ V_X12_readSince σ = 0) (hM : PM p0 σ) : AD p0 (F_X12_readSince σ) := (since_K hI hH hM).2.2.2 hv

theorem v01_X12_takes (σ : zG) (lo hi : Int) : 0 ≤ V_X12_takes σ lo hi ∧ V_X12_takes σ lo hi ≤ 1 := by
  unfold V_X12_takes
  repeat' split
  all_goals decide
theorem v01_X12_sign (σ : zG) (c : Int) : 0 ≤ V_X12_sign σ c ∧ V_X12_sign σ c ≤ 1 := by
  unfold V_X12_sign
  repeat' split
  all_goals decide
theorem v01_X12_once (σ : zG) (wh lo hi : Int) : 0 ≤ V_X12_once σ wh lo hi ∧ V_X12_once σ wh lo hi ≤ 1 := by
  unfold V_X12_once
  repeat' split
  all_goals decide
theorem v01_X12_readFact (σ : zG)  : 0 ≤ V_X12_readFact σ  ∧ V_X12_readFact σ  ≤ 1 := by
  unfold V_X12_readFact
  repeat' split
  all_goals decide
theorem v01_X12_readKnows (σ : zG)  : 0 ≤ V_X12_readKnows σ  ∧ V_X12_readKnows σ  ≤ 1 := by
  unfold V_X12_readKnows
  repeat' split
  all_goals decide
theorem v01_X12_readAsks (σ : zG)  : 0 ≤ V_X12_readAsks σ  ∧ V_X12_readAsks σ  ≤ 1 := by
  unfold V_X12_readAsks
  repeat' split
  all_goals decide
theorem z01 : (0 : Int) ≤ 0 ∧ (0 : Int) ≤ 1 := by decide
theorem o01 : (0 : Int) ≤ 1 ∧ (1 : Int) ≤ 1 := by decide
theorem v01_sinceL (to : Int) : ∀ (n : Nat) (q : Int) (σ : zG), 0 ≤ (L_X12_readSince_35 to n q σ).1 ∧ (L_X12_readSince_35 to n q σ).1 ≤ 1
  | 0, q, σ => z01
  | n + 1, q, σ => by
    rw [L_X12_readSince_35]
    repeat' split
    all_goals first | exact v01_sinceL to n _ _ | exact z01 | exact o01
theorem v01_X12_readSince (σ : zG) : 0 ≤ V_X12_readSince σ ∧ V_X12_readSince σ ≤ 1 := by
  unfold V_X12_readSince R_X12_readSince
  split
  · exact z01
  · exact v01_sinceL _ _ _ _
def V_X12_valleyLine (σ : zG)  : Int := if σ 0 11 = 1 ∧ σ 0 17 = 7825519 then (if (σ 3 0) = 8 then 0 else (if (V_X12_fresh (F_X12_next σ) (20 + (σ 3 0))) = 0 then 0 else 1)) else (if σ 0 11 = 1 ∧ σ 0 17 = 1717658484 then (V_X12_readFact σ) else (if σ 0 11 = 1 ∧ σ 0 17 = 461414299507 then (V_X12_readKnows σ) else (if σ 0 11 = 1 ∧ σ 0 17 = 495690081125 then (V_X12_readSince σ) else (if σ 0 11 = 1 ∧ σ 0 17 = 1634954099 then (V_X12_readAsks σ) else (if σ 0 11 = 1 ∧ σ 0 17 = 1836019566 then (V_X12_once σ 3 1 99) else (if σ 0 11 = 1 ∧ σ 0 17 = 7302244 then (V_X12_once σ 4 0 10) else (if σ 0 11 = 1 ∧ σ 0 17 = 126879297332596 then (V_X12_once σ 5 10 30) else (if σ 0 11 = 1 ∧ σ 0 17 = 126896627347060 then (V_X12_once σ 6 0 20) else (if σ 0 11 = 1 ∧ σ 0 17 = 439956631140 then (V_X12_once σ 7 10 40) else 0)))))))))
def F_X12_valleyLine (σ : zG)  : zG := if σ 0 11 = 1 ∧ σ 0 17 = 7825519 then (if (σ 3 0) = 8 then (zu (zu σ 0 15 4) 0 16 (σ 0 12)) else (if (V_X12_fresh (F_X12_next σ) (20 + (σ 3 0))) = 0 then (F_X12_fresh (F_X12_next σ) (20 + (σ 3 0))) else (zu (F_X12_fresh (F_X12_next σ) (20 + (σ 3 0))) 3 0 ((σ 3 0) + 1)))) else (if σ 0 11 = 1 ∧ σ 0 17 = 1717658484 then (F_X12_readFact σ) else (if σ 0 11 = 1 ∧ σ 0 17 = 461414299507 then (F_X12_readKnows σ) else (if σ 0 11 = 1 ∧ σ 0 17 = 495690081125 then (F_X12_readSince σ) else (if σ 0 11 = 1 ∧ σ 0 17 = 1634954099 then (F_X12_readAsks σ) else (if σ 0 11 = 1 ∧ σ 0 17 = 1836019566 then (F_X12_once σ 3 1 99) else (if σ 0 11 = 1 ∧ σ 0 17 = 7302244 then (F_X12_once σ 4 0 10) else (if σ 0 11 = 1 ∧ σ 0 17 = 126879297332596 then (F_X12_once σ 5 10 30) else (if σ 0 11 = 1 ∧ σ 0 17 = 126896627347060 then (F_X12_once σ 6 0 20) else (if σ 0 11 = 1 ∧ σ 0 17 = 439956631140 then (F_X12_once σ 7 10 40) else (zu (zu σ 0 15 1) 0 16 (σ 0 12)))))))))))
theorem fr_F_X12_valleyLine (σ : zG)  {k : Nat} (h : k ∉ [0, 3, 5]) : (F_X12_valleyLine σ ) k = σ k := by
  have ne : ∀ c ∈ [0, 3, 5], k ≠ c := fun c hc e => h (e ▸ hc)
  have nk_F_X12_fresh : k ∉ [0, 5] := fun hm => h (by first | (revert hm; simp only [List.mem_cons, List.not_mem_nil, or_false]; omega) | (simp at hm))
  have nk_F_X12_next : k ∉ [0] := fun hm => h (by first | (revert hm; simp only [List.mem_cons, List.not_mem_nil, or_false]; omega) | (simp at hm))
  have nk_F_X12_readFact : k ∉ [0, 3, 5] := fun hm => h (by first | (revert hm; simp only [List.mem_cons, List.not_mem_nil, or_false]; omega) | (simp at hm))
  have nk_F_X12_readKnows : k ∉ [0, 3] := fun hm => h (by first | (revert hm; simp only [List.mem_cons, List.not_mem_nil, or_false]; omega) | (simp at hm))
  have nk_F_X12_readSince : k ∉ [0, 3] := fun hm => h (by first | (revert hm; simp only [List.mem_cons, List.not_mem_nil, or_false]; omega) | (simp at hm))
  have nk_F_X12_readAsks : k ∉ [0, 3] := fun hm => h (by first | (revert hm; simp only [List.mem_cons, List.not_mem_nil, or_false]; omega) | (simp at hm))
  have nk_F_X12_once : k ∉ [0, 3] := fun hm => h (by first | (revert hm; simp only [List.mem_cons, List.not_mem_nil, or_false]; omega) | (simp at hm))
  unfold F_X12_valleyLine
  repeat' split
  all_goals first | rfl | simp only [zu_row _ _ _ (ne 0 (by decide)), zu_row _ _ _ (ne 3 (by decide)), zu_row _ _ _ (ne 5 (by decide)), fr_F_X12_fresh (h := nk_F_X12_fresh), fr_F_X12_next (h := nk_F_X12_next), fr_F_X12_readFact (h := nk_F_X12_readFact), fr_F_X12_readKnows (h := nk_F_X12_readKnows), fr_F_X12_readSince (h := nk_F_X12_readSince), fr_F_X12_readAsks (h := nk_F_X12_readAsks), fr_F_X12_once (h := nk_F_X12_once)]

set_option maxRecDepth 20000 in
theorem does_X12_valleyLine (σ : zG)  (hI : PI σ) (hH : PH σ) : zDo SM 4 m_X12_valleyLine [zP 0] σ (zEq (some (.inl (V_X12_valleyLine σ ))) (F_X12_valleyLine σ )) := by
  refine zDo.intro mk_X12_valleyLine (Nat.le_of_ble_eq_true rfl) ?_
  obtain ⟨hp, hf, hs⟩ := id hH
  refine zRx.aload_n 0 rfl rfl dX12_valleyLine_0 ?_
  refine zRx.ldc2 ⟨by decide, by decide⟩ kl_12_157 dX12_valleyLine_1 ?_
  refine zRx.cVi (w := .inl (b2 (σ 0 11 = 1 ∧ σ 0 17 = 7825519))) (M := m_X12_isWord) (av := [zJ 7825519]) cv_12_279 mk_X12_isWord (by decide) (b := 0) rfl rfl (Nat.le_of_ble_eq_true rfl) dX12_valleyLine_4 (isWord2 σ 7825519 (σ 0 11) (σ 0 17) rfl rfl) ?_
  refine zRx.if_eqB (tgt := 61) dX12_valleyLine_7 (by decide) (fun c7 => ?_) (fun c7 => ?_)
  · refine zRx.aload_n 0 rfl rfl dX12_valleyLine_61 ?_
    refine zRx.ldc2 ⟨by decide, by decide⟩ kl_12_159 dX12_valleyLine_62 ?_
    refine zRx.cVi (w := .inl (b2 (σ 0 11 = 1 ∧ σ 0 17 = 1717658484))) (M := m_X12_isWord) (av := [zJ 1717658484]) cv_12_279 mk_X12_isWord (by decide) (b := 0) rfl rfl (Nat.le_of_ble_eq_true rfl) dX12_valleyLine_65 (isWord2 σ 1717658484 (σ 0 11) (σ 0 17) rfl rfl) ?_
    refine zRx.if_eqB (tgt := 76) dX12_valleyLine_68 (by decide) (fun c68 => ?_) (fun c68 => ?_)
    · refine zRx.aload_n 0 rfl rfl dX12_valleyLine_76 ?_
      refine zRx.ldc2 ⟨by decide, by decide⟩ kl_12_161 dX12_valleyLine_77 ?_
      refine zRx.cVi (w := .inl (b2 (σ 0 11 = 1 ∧ σ 0 17 = 461414299507))) (M := m_X12_isWord) (av := [zJ 461414299507]) cv_12_279 mk_X12_isWord (by decide) (b := 0) rfl rfl (Nat.le_of_ble_eq_true rfl) dX12_valleyLine_80 (isWord2 σ 461414299507 (σ 0 11) (σ 0 17) rfl rfl) ?_
      refine zRx.if_eqB (tgt := 91) dX12_valleyLine_83 (by decide) (fun c83 => ?_) (fun c83 => ?_)
      · refine zRx.aload_n 0 rfl rfl dX12_valleyLine_91 ?_
        refine zRx.ldc2 ⟨by decide, by decide⟩ kl_12_163 dX12_valleyLine_92 ?_
        refine zRx.cVi (w := .inl (b2 (σ 0 11 = 1 ∧ σ 0 17 = 495690081125))) (M := m_X12_isWord) (av := [zJ 495690081125]) cv_12_279 mk_X12_isWord (by decide) (b := 0) rfl rfl (Nat.le_of_ble_eq_true rfl) dX12_valleyLine_95 (isWord2 σ 495690081125 (σ 0 11) (σ 0 17) rfl rfl) ?_
        refine zRx.if_eqB (tgt := 106) dX12_valleyLine_98 (by decide) (fun c98 => ?_) (fun c98 => ?_)
        · refine zRx.aload_n 0 rfl rfl dX12_valleyLine_106 ?_
          refine zRx.ldc2 ⟨by decide, by decide⟩ kl_12_165 dX12_valleyLine_107 ?_
          refine zRx.cVi (w := .inl (b2 (σ 0 11 = 1 ∧ σ 0 17 = 1634954099))) (M := m_X12_isWord) (av := [zJ 1634954099]) cv_12_279 mk_X12_isWord (by decide) (b := 0) rfl rfl (Nat.le_of_ble_eq_true rfl) dX12_valleyLine_110 (isWord2 σ 1634954099 (σ 0 11) (σ 0 17) rfl rfl) ?_
          refine zRx.if_eqB (tgt := 121) dX12_valleyLine_113 (by decide) (fun c113 => ?_) (fun c113 => ?_)
          · refine zRx.aload_n 0 rfl rfl dX12_valleyLine_121 ?_
            refine zRx.ldc2 ⟨by decide, by decide⟩ kl_12_167 dX12_valleyLine_122 ?_
            refine zRx.cVi (w := .inl (b2 (σ 0 11 = 1 ∧ σ 0 17 = 1836019566))) (M := m_X12_isWord) (av := [zJ 1836019566]) cv_12_279 mk_X12_isWord (by decide) (b := 0) rfl rfl (Nat.le_of_ble_eq_true rfl) dX12_valleyLine_125 (isWord2 σ 1836019566 (σ 0 11) (σ 0 17) rfl rfl) ?_
            refine zRx.if_eqB (tgt := 140) dX12_valleyLine_128 (by decide) (fun c128 => ?_) (fun c128 => ?_)
            · refine zRx.aload_n 0 rfl rfl dX12_valleyLine_140 ?_
              refine zRx.ldc2 ⟨by decide, by decide⟩ kl_12_169 dX12_valleyLine_141 ?_
              refine zRx.cVi (w := .inl (b2 (σ 0 11 = 1 ∧ σ 0 17 = 7302244))) (M := m_X12_isWord) (av := [zJ 7302244]) cv_12_279 mk_X12_isWord (by decide) (b := 0) rfl rfl (Nat.le_of_ble_eq_true rfl) dX12_valleyLine_144 (isWord2 σ 7302244 (σ 0 11) (σ 0 17) rfl rfl) ?_
              refine zRx.if_eqB (tgt := 159) dX12_valleyLine_147 (by decide) (fun c147 => ?_) (fun c147 => ?_)
              · refine zRx.aload_n 0 rfl rfl dX12_valleyLine_159 ?_
                refine zRx.ldc2 ⟨by decide, by decide⟩ kl_12_171 dX12_valleyLine_160 ?_
                refine zRx.cVi (w := .inl (b2 (σ 0 11 = 1 ∧ σ 0 17 = 126879297332596))) (M := m_X12_isWord) (av := [zJ 126879297332596]) cv_12_279 mk_X12_isWord (by decide) (b := 0) rfl rfl (Nat.le_of_ble_eq_true rfl) dX12_valleyLine_163 (isWord2 σ 126879297332596 (σ 0 11) (σ 0 17) rfl rfl) ?_
                refine zRx.if_eqB (tgt := 179) dX12_valleyLine_166 (by decide) (fun c166 => ?_) (fun c166 => ?_)
                · refine zRx.aload_n 0 rfl rfl dX12_valleyLine_179 ?_
                  refine zRx.ldc2 ⟨by decide, by decide⟩ kl_12_173 dX12_valleyLine_180 ?_
                  refine zRx.cVi (w := .inl (b2 (σ 0 11 = 1 ∧ σ 0 17 = 126896627347060))) (M := m_X12_isWord) (av := [zJ 126896627347060]) cv_12_279 mk_X12_isWord (by decide) (b := 0) rfl rfl (Nat.le_of_ble_eq_true rfl) dX12_valleyLine_183 (isWord2 σ 126896627347060 (σ 0 11) (σ 0 17) rfl rfl) ?_
                  refine zRx.if_eqB (tgt := 199) dX12_valleyLine_186 (by decide) (fun c186 => ?_) (fun c186 => ?_)
                  · refine zRx.aload_n 0 rfl rfl dX12_valleyLine_199 ?_
                    refine zRx.ldc2 ⟨by decide, by decide⟩ kl_12_175 dX12_valleyLine_200 ?_
                    refine zRx.cVi (w := .inl (b2 (σ 0 11 = 1 ∧ σ 0 17 = 439956631140))) (M := m_X12_isWord) (av := [zJ 439956631140]) cv_12_279 mk_X12_isWord (by decide) (b := 0) rfl rfl (Nat.le_of_ble_eq_true rfl) dX12_valleyLine_203 (isWord2 σ 439956631140 (σ 0 11) (σ 0 17) rfl rfl) ?_
                    refine zRx.if_eqB (tgt := 222) dX12_valleyLine_206 (by decide) (fun c206 => ?_) (fun c206 => ?_)
                    · refine zRx.aload_n 0 rfl rfl dX12_valleyLine_222 ?_
                      refine zRx.iconst ⟨by decide, by decide⟩ dX12_valleyLine_223 ?_
                      refine zRx.cVi (w := .inl 0) (M := m_X12_bad) (av := [.inl 1]) cv_12_248 mk_X12_bad (by decide) (b := 0) rfl rfl (Nat.le_of_ble_eq_true rfl) dX12_valleyLine_224 (bad_eq2 σ 1 (σ 0 12) rfl) ?_
                      exact zR.zret rfl ⟨by decide, by decide⟩ dX12_valleyLine_227 ⟨by unfold V_X12_valleyLine; rw [if_neg c7, if_neg c68, if_neg c83, if_neg c98, if_neg c113, if_neg c128, if_neg c147, if_neg c166, if_neg c186, if_neg c206], by unfold F_X12_valleyLine; rw [if_neg c7, if_neg c68, if_neg c83, if_neg c98, if_neg c113, if_neg c128, if_neg c147, if_neg c166, if_neg c186, if_neg c206]⟩
                    · refine zRx.aload_n 0 rfl rfl dX12_valleyLine_209 ?_
                      refine zRx.bipush ⟨by decide, by decide⟩ rfl dX12_valleyLine_210 ?_
                      refine zRx.bipush ⟨by decide, by decide⟩ rfl dX12_valleyLine_212 ?_
                      refine zRx.bipush ⟨by decide, by decide⟩ rfl dX12_valleyLine_214 ?_
                      refine zRx.cVi (w := .inl (V_X12_once σ 7 10 40)) (M := m_X12_once) (av := [.inl 7, .inl 10, .inl 40]) cv_12_298 mk_X12_once (by decide) (b := 0) rfl rfl (Nat.le_of_ble_eq_true rfl) dX12_valleyLine_216 (does_X12_once σ 7 10 40 hI (by decide)) ?_
                      refine zRx.goto (tgt := 227) dX12_valleyLine_219 (by decide) ?_
                      exact zR.zret rfl (v01_X12_once _ _ _ _) dX12_valleyLine_227 ⟨by unfold V_X12_valleyLine; rw [if_neg c7, if_neg c68, if_neg c83, if_neg c98, if_neg c113, if_neg c128, if_neg c147, if_neg c166, if_neg c186, if_pos c206], by unfold F_X12_valleyLine; rw [if_neg c7, if_neg c68, if_neg c83, if_neg c98, if_neg c113, if_neg c128, if_neg c147, if_neg c166, if_neg c186, if_pos c206]⟩
                  · refine zRx.aload_n 0 rfl rfl dX12_valleyLine_189 ?_
                    refine zRx.bipush ⟨by decide, by decide⟩ rfl dX12_valleyLine_190 ?_
                    refine zRx.iconst ⟨by decide, by decide⟩ dX12_valleyLine_192 ?_
                    refine zRx.bipush ⟨by decide, by decide⟩ rfl dX12_valleyLine_193 ?_
                    refine zRx.cVi (w := .inl (V_X12_once σ 6 0 20)) (M := m_X12_once) (av := [.inl 6, .inl 0, .inl 20]) cv_12_298 mk_X12_once (by decide) (b := 0) rfl rfl (Nat.le_of_ble_eq_true rfl) dX12_valleyLine_195 (does_X12_once σ 6 0 20 hI (by decide)) ?_
                    exact zR.zret rfl (v01_X12_once _ _ _ _) dX12_valleyLine_198 ⟨by unfold V_X12_valleyLine; rw [if_neg c7, if_neg c68, if_neg c83, if_neg c98, if_neg c113, if_neg c128, if_neg c147, if_neg c166, if_pos c186], by unfold F_X12_valleyLine; rw [if_neg c7, if_neg c68, if_neg c83, if_neg c98, if_neg c113, if_neg c128, if_neg c147, if_neg c166, if_pos c186]⟩
                · refine zRx.aload_n 0 rfl rfl dX12_valleyLine_169 ?_
                  refine zRx.iconst ⟨by decide, by decide⟩ dX12_valleyLine_170 ?_
                  refine zRx.bipush ⟨by decide, by decide⟩ rfl dX12_valleyLine_171 ?_
                  refine zRx.bipush ⟨by decide, by decide⟩ rfl dX12_valleyLine_173 ?_
                  refine zRx.cVi (w := .inl (V_X12_once σ 5 10 30)) (M := m_X12_once) (av := [.inl 5, .inl 10, .inl 30]) cv_12_298 mk_X12_once (by decide) (b := 0) rfl rfl (Nat.le_of_ble_eq_true rfl) dX12_valleyLine_175 (does_X12_once σ 5 10 30 hI (by decide)) ?_
                  exact zR.zret rfl (v01_X12_once _ _ _ _) dX12_valleyLine_178 ⟨by unfold V_X12_valleyLine; rw [if_neg c7, if_neg c68, if_neg c83, if_neg c98, if_neg c113, if_neg c128, if_neg c147, if_pos c166], by unfold F_X12_valleyLine; rw [if_neg c7, if_neg c68, if_neg c83, if_neg c98, if_neg c113, if_neg c128, if_neg c147, if_pos c166]⟩
              · refine zRx.aload_n 0 rfl rfl dX12_valleyLine_150 ?_
                refine zRx.iconst ⟨by decide, by decide⟩ dX12_valleyLine_151 ?_
                refine zRx.iconst ⟨by decide, by decide⟩ dX12_valleyLine_152 ?_
                refine zRx.bipush ⟨by decide, by decide⟩ rfl dX12_valleyLine_153 ?_
                refine zRx.cVi (w := .inl (V_X12_once σ 4 0 10)) (M := m_X12_once) (av := [.inl 4, .inl 0, .inl 10]) cv_12_298 mk_X12_once (by decide) (b := 0) rfl rfl (Nat.le_of_ble_eq_true rfl) dX12_valleyLine_155 (does_X12_once σ 4 0 10 hI (by decide)) ?_
                exact zR.zret rfl (v01_X12_once _ _ _ _) dX12_valleyLine_158 ⟨by unfold V_X12_valleyLine; rw [if_neg c7, if_neg c68, if_neg c83, if_neg c98, if_neg c113, if_neg c128, if_pos c147], by unfold F_X12_valleyLine; rw [if_neg c7, if_neg c68, if_neg c83, if_neg c98, if_neg c113, if_neg c128, if_pos c147]⟩
            · refine zRx.aload_n 0 rfl rfl dX12_valleyLine_131 ?_
              refine zRx.iconst ⟨by decide, by decide⟩ dX12_valleyLine_132 ?_
              refine zRx.iconst ⟨by decide, by decide⟩ dX12_valleyLine_133 ?_
              refine zRx.bipush ⟨by decide, by decide⟩ rfl dX12_valleyLine_134 ?_
              refine zRx.cVi (w := .inl (V_X12_once σ 3 1 99)) (M := m_X12_once) (av := [.inl 3, .inl 1, .inl 99]) cv_12_298 mk_X12_once (by decide) (b := 0) rfl rfl (Nat.le_of_ble_eq_true rfl) dX12_valleyLine_136 (does_X12_once σ 3 1 99 hI (by decide)) ?_
              exact zR.zret rfl (v01_X12_once _ _ _ _) dX12_valleyLine_139 ⟨by unfold V_X12_valleyLine; rw [if_neg c7, if_neg c68, if_neg c83, if_neg c98, if_neg c113, if_pos c128], by unfold F_X12_valleyLine; rw [if_neg c7, if_neg c68, if_neg c83, if_neg c98, if_neg c113, if_pos c128]⟩
          · refine zRx.aload_n 0 rfl rfl dX12_valleyLine_116 ?_
            refine zRx.cVi (w := .inl (V_X12_readAsks σ)) (M := m_X12_readAsks) (av := []) cv_12_295 mk_X12_readAsks (by decide) (b := 0) rfl rfl (Nat.le_of_ble_eq_true rfl) dX12_valleyLine_117 (does_X12_readAsks σ  hI hH) ?_
            exact zR.zret rfl (v01_X12_readAsks _) dX12_valleyLine_120 ⟨by unfold V_X12_valleyLine; rw [if_neg c7, if_neg c68, if_neg c83, if_neg c98, if_pos c113], by unfold F_X12_valleyLine; rw [if_neg c7, if_neg c68, if_neg c83, if_neg c98, if_pos c113]⟩
        · refine zRx.aload_n 0 rfl rfl dX12_valleyLine_101 ?_
          refine zRx.cVi (w := .inl (V_X12_readSince σ)) (M := m_X12_readSince) (av := []) cv_12_292 mk_X12_readSince (by decide) (b := 0) rfl rfl (Nat.le_of_ble_eq_true rfl) dX12_valleyLine_102 (does_since2 σ hI hH) ?_
          exact zR.zret rfl (v01_X12_readSince _) dX12_valleyLine_105 ⟨by unfold V_X12_valleyLine; rw [if_neg c7, if_neg c68, if_neg c83, if_pos c98], by unfold F_X12_valleyLine; rw [if_neg c7, if_neg c68, if_neg c83, if_pos c98]⟩
      · refine zRx.aload_n 0 rfl rfl dX12_valleyLine_86 ?_
        refine zRx.cVi (w := .inl (V_X12_readKnows σ)) (M := m_X12_readKnows) (av := []) cv_12_289 mk_X12_readKnows (by decide) (b := 0) rfl rfl (Nat.le_of_ble_eq_true rfl) dX12_valleyLine_87 (does_X12_readKnows σ  hI hH) ?_
        exact zR.zret rfl (v01_X12_readKnows _) dX12_valleyLine_90 ⟨by unfold V_X12_valleyLine; rw [if_neg c7, if_neg c68, if_pos c83], by unfold F_X12_valleyLine; rw [if_neg c7, if_neg c68, if_pos c83]⟩
    · refine zRx.aload_n 0 rfl rfl dX12_valleyLine_71 ?_
      refine zRx.cVi (w := .inl (V_X12_readFact σ)) (M := m_X12_readFact) (av := []) cv_12_286 mk_X12_readFact (by decide) (b := 0) rfl rfl (Nat.le_of_ble_eq_true rfl) dX12_valleyLine_72 (does_X12_readFact σ  hI hH) ?_
      exact zR.zret rfl (v01_X12_readFact _) dX12_valleyLine_75 ⟨by unfold V_X12_valleyLine; rw [if_neg c7, if_pos c68], by unfold F_X12_valleyLine; rw [if_neg c7, if_pos c68]⟩
  · refine zRx.aload_n 0 rfl rfl dX12_valleyLine_10 ?_
    refine zRx.getR (a := 0) (b := 3) fl_12_37 rfl rfl dX12_valleyLine_11 ?_
    refine zRx.iconst ⟨by decide, by decide⟩ dX12_valleyLine_14 ?_
    refine zRx.ialdv (v := σ 3 0) rfl rfl (by decide) (by decide) dX12_valleyLine_15 ?_
    refine zRx.bipush ⟨by decide, by decide⟩ rfl dX12_valleyLine_16 ?_
    refine zRx.icmp_ne (tgt := 27) dX12_valleyLine_18 (by decide) (fun c18 => ?_) (fun c18 => ?_)
    · refine zRx.aload_n 0 rfl rfl dX12_valleyLine_27 ?_
      refine zRx.cVv (M := m_X12_next) (av := []) cv_12_251 mk_X12_next (by decide) (b := 0) rfl rfl (Nat.le_of_ble_eq_true rfl) dX12_valleyLine_28 (does_next2 σ hI) ?_
      refine zRx.aload_n 0 rfl rfl dX12_valleyLine_31 ?_
      refine zRx.bipush ⟨by decide, by decide⟩ rfl dX12_valleyLine_32 ?_
      refine zRx.aload_n 0 rfl rfl dX12_valleyLine_34 ?_
      refine zRx.getR (a := 0) (b := 3) fl_12_37 rfl rfl dX12_valleyLine_35 ?_
      refine zRx.iconst ⟨by decide, by decide⟩ dX12_valleyLine_38 ?_
      refine zRx.ialdv (v := σ 3 0) (congrFun (fr_F_X12_next σ (k := 3) (by decide)) _) rfl (by decide) (by decide) dX12_valleyLine_39 ?_
      refine zRx.iadd ⟨by omega, by omega⟩ dX12_valleyLine_40 ?_
      refine zRx.cVi (w := .inl (V_X12_fresh (F_X12_next σ) (20 + (σ 3 0)))) (M := m_X12_fresh) (av := [.inl (20 + (σ 3 0))]) cv_12_283 mk_X12_fresh (by decide) (b := 0) rfl rfl (Nat.le_of_ble_eq_true rfl) dX12_valleyLine_41 (does_X12_fresh (F_X12_next σ) (20 + (σ 3 0)) (PI_F_X12_next hI) (PH_F_X12_next hH) (by omega)) ?_
      refine zRx.if_ne (tgt := 49) dX12_valleyLine_44 (by decide) (fun c44 => ?_) (fun c44 => ?_)
      · refine zRx.aload_n 0 rfl rfl dX12_valleyLine_49 ?_
        refine zRx.getR (a := 0) (b := 3) fl_12_37 rfl rfl dX12_valleyLine_50 ?_
        refine zRx.iconst ⟨by decide, by decide⟩ dX12_valleyLine_53 ?_
        refine zRx.dup2 rfl rfl dX12_valleyLine_54 ?_
        refine zRx.ialdv (v := σ 3 0) ((congrFun (fr_F_X12_fresh (F_X12_next σ) (20 + (σ 3 0)) (k := 3) (by decide)) _).trans (congrFun (fr_F_X12_next σ (k := 3) (by decide)) _)) rfl (by decide) (by decide) dX12_valleyLine_55 ?_
        refine zRx.iconst ⟨by decide, by decide⟩ dX12_valleyLine_56 ?_
        refine zRx.iadd ⟨by omega, by omega⟩ dX12_valleyLine_57 ?_
        refine zRx.iast rfl (by decide) (by decide) dX12_valleyLine_58 ?_
        refine zRx.iconst ⟨by decide, by decide⟩ dX12_valleyLine_59 ?_
        exact zR.zret rfl ⟨by decide, by decide⟩ dX12_valleyLine_60 ⟨by unfold V_X12_valleyLine; rw [if_pos c7, if_neg c18, if_neg c44], by unfold F_X12_valleyLine; rw [if_pos c7, if_neg c18, if_neg c44]⟩
      · refine zRx.iconst ⟨by decide, by decide⟩ dX12_valleyLine_47 ?_
        exact zR.zret rfl ⟨by decide, by decide⟩ dX12_valleyLine_48 ⟨by unfold V_X12_valleyLine; rw [if_pos c7, if_neg c18, if_pos c44], by unfold F_X12_valleyLine; rw [if_pos c7, if_neg c18, if_pos c44]⟩
    · refine zRx.aload_n 0 rfl rfl dX12_valleyLine_21 ?_
      refine zRx.iconst ⟨by decide, by decide⟩ dX12_valleyLine_22 ?_
      refine zRx.cVi (w := .inl 0) (M := m_X12_bad) (av := [.inl 4]) cv_12_248 mk_X12_bad (by decide) (b := 0) rfl rfl (Nat.le_of_ble_eq_true rfl) dX12_valleyLine_23 (bad_eq2 σ 4 (σ 0 12) rfl) ?_
      exact zR.zret rfl ⟨by decide, by decide⟩ dX12_valleyLine_26 ⟨by unfold V_X12_valleyLine; rw [if_pos c7, if_pos c18], by unfold F_X12_valleyLine; rw [if_pos c7, if_pos c18]⟩

theorem PI_F_X12_valleyLine {σ : zG}  (hI : PI σ) (hH : PH σ) : PI ((F_X12_valleyLine σ )) := by
  unfold F_X12_valleyLine
  repeat' split
  all_goals first | exact (PI_F_X12_readSince hI hH) | exact (PI_F_X12_readFact hI hH) | exact (PI_F_X12_readKnows hI hH) | exact (PI_F_X12_readAsks hI hH) | exact (PI_zu (by decide) (PI_zu (by decide) hI)) | exact (PI_F_X12_fresh (PI_F_X12_next hI)) | exact (PI_zu (fun h => absurd h.1 (by decide)) (PI_F_X12_fresh (PI_F_X12_next hI))) | exact (PI_F_X12_readFact hI) | exact (PI_F_X12_readKnows hI) | exact (PI_F_X12_readSince hI) | exact (PI_F_X12_readAsks hI) | exact (PI_F_X12_once hI)

theorem PH_F_X12_valleyLine {σ : zG} (hI : PI σ) (hH : PH σ) : PH (F_X12_valleyLine σ) := by
  have hH0 := id hH
  unfold PH at hH0
  unfold F_X12_valleyLine
  repeat' split
  all_goals first | exact (PH_F_X12_readSince hI hH) | exact (PH_F_X12_once hH (by decide)) | exact (PH_zu (Or.inl (by decide)) (PH_zu (Or.inl (by decide)) hH)) | exact (PH_F_X12_fresh (PH_F_X12_next hH)) | exact (PH_zu0 (by omega) (PH_F_X12_fresh (PH_F_X12_next hH))) | exact (PH_F_X12_readFact hH) | exact (PH_F_X12_readKnows hH) | exact (PH_F_X12_readSince hH) | exact (PH_F_X12_readAsks hH)

theorem PM_F_X12_valleyLine {σ : zG}  (hI : PI σ) (hH : PH σ) {p0 : Int} (hM : PM p0 σ) : PM p0 (F_X12_valleyLine σ ) := by
  unfold F_X12_valleyLine
  repeat' split
  all_goals first | exact (PM_F_X12_readSince hI hH hM) | exact (PM_zu (by decide) (PM_zu (by decide) hM)) | exact (PM_F_X12_fresh (PM_F_X12_next hM)) | exact (PM_zu (fun h => absurd h.1 (by decide)) (PM_F_X12_fresh (PM_F_X12_next hM))) | exact (PM_F_X12_readFact hM) | exact (PM_F_X12_readKnows hM) | exact (PM_F_X12_readSince hM) | exact (PM_F_X12_readAsks hM) | exact (PM_F_X12_once hM)

theorem AD_F_X12_valleyLine {σ : zG} (hI : PI σ) (hH : PH σ) {p0 : Int} (hv : ¬ V_X12_valleyLine σ = 0) (hM : PM p0 σ) : AD p0 (F_X12_valleyLine σ) := by
  by_cases c1 : σ 0 11 = 1 ∧ σ 0 17 = 7825519
  · by_cases c2 : (σ 3 0) = 8
    · unfold V_X12_valleyLine at hv
      rw [if_pos c1, if_pos c2] at hv
      exact absurd rfl hv
    · by_cases c3 : (V_X12_fresh (F_X12_next σ) (20 + (σ 3 0))) = 0
      · unfold V_X12_valleyLine at hv
        rw [if_pos c1, if_neg c2, if_pos c3] at hv
        exact absurd rfl hv
      · unfold V_X12_valleyLine at hv
        rw [if_pos c1, if_neg c2, if_neg c3] at hv
        unfold F_X12_valleyLine
        rw [if_pos c1, if_neg c2, if_neg c3]
        exact (AD_zu (fun h => absurd h.1 (by decide)) (AD_F_X12_fresh c3 (PM_F_X12_next hM)))
  · by_cases c2 : σ 0 11 = 1 ∧ σ 0 17 = 1717658484
    · unfold V_X12_valleyLine at hv
      rw [if_neg c1, if_pos c2] at hv
      unfold F_X12_valleyLine
      rw [if_neg c1, if_pos c2]
      exact (AD_F_X12_readFact hv hM)
    · by_cases c3 : σ 0 11 = 1 ∧ σ 0 17 = 461414299507
      · unfold V_X12_valleyLine at hv
        rw [if_neg c1, if_neg c2, if_pos c3] at hv
        unfold F_X12_valleyLine
        rw [if_neg c1, if_neg c2, if_pos c3]
        exact (AD_F_X12_readKnows hv hM)
      · by_cases c4 : σ 0 11 = 1 ∧ σ 0 17 = 495690081125
        · unfold V_X12_valleyLine at hv
          rw [if_neg c1, if_neg c2, if_neg c3, if_pos c4] at hv
          unfold F_X12_valleyLine
          rw [if_neg c1, if_neg c2, if_neg c3, if_pos c4]
          exact (AD_F_X12_readSince hI hH hv hM)
        · by_cases c5 : σ 0 11 = 1 ∧ σ 0 17 = 1634954099
          · unfold V_X12_valleyLine at hv
            rw [if_neg c1, if_neg c2, if_neg c3, if_neg c4, if_pos c5] at hv
            unfold F_X12_valleyLine
            rw [if_neg c1, if_neg c2, if_neg c3, if_neg c4, if_pos c5]
            exact (AD_F_X12_readAsks hv hM)
          · by_cases c6 : σ 0 11 = 1 ∧ σ 0 17 = 1836019566
            · unfold V_X12_valleyLine at hv
              rw [if_neg c1, if_neg c2, if_neg c3, if_neg c4, if_neg c5, if_pos c6] at hv
              unfold F_X12_valleyLine
              rw [if_neg c1, if_neg c2, if_neg c3, if_neg c4, if_neg c5, if_pos c6]
              exact (AD_F_X12_once hv hM)
            · by_cases c7 : σ 0 11 = 1 ∧ σ 0 17 = 7302244
              · unfold V_X12_valleyLine at hv
                rw [if_neg c1, if_neg c2, if_neg c3, if_neg c4, if_neg c5, if_neg c6, if_pos c7] at hv
                unfold F_X12_valleyLine
                rw [if_neg c1, if_neg c2, if_neg c3, if_neg c4, if_neg c5, if_neg c6, if_pos c7]
                exact (AD_F_X12_once hv hM)
              · by_cases c8 : σ 0 11 = 1 ∧ σ 0 17 = 126879297332596
                · unfold V_X12_valleyLine at hv
                  rw [if_neg c1, if_neg c2, if_neg c3, if_neg c4, if_neg c5, if_neg c6, if_neg c7, if_pos c8] at hv
                  unfold F_X12_valleyLine
                  rw [if_neg c1, if_neg c2, if_neg c3, if_neg c4, if_neg c5, if_neg c6, if_neg c7, if_pos c8]
                  exact (AD_F_X12_once hv hM)
                · by_cases c9 : σ 0 11 = 1 ∧ σ 0 17 = 126896627347060
                  · unfold V_X12_valleyLine at hv
                    rw [if_neg c1, if_neg c2, if_neg c3, if_neg c4, if_neg c5, if_neg c6, if_neg c7, if_neg c8, if_pos c9] at hv
                    unfold F_X12_valleyLine
                    rw [if_neg c1, if_neg c2, if_neg c3, if_neg c4, if_neg c5, if_neg c6, if_neg c7, if_neg c8, if_pos c9]
                    exact (AD_F_X12_once hv hM)
                  · by_cases c10 : σ 0 11 = 1 ∧ σ 0 17 = 439956631140
                    · unfold V_X12_valleyLine at hv
                      rw [if_neg c1, if_neg c2, if_neg c3, if_neg c4, if_neg c5, if_neg c6, if_neg c7, if_neg c8, if_neg c9, if_pos c10] at hv
                      unfold F_X12_valleyLine
                      rw [if_neg c1, if_neg c2, if_neg c3, if_neg c4, if_neg c5, if_neg c6, if_neg c7, if_neg c8, if_neg c9, if_pos c10]
                      exact (AD_F_X12_once hv hM)
                    · unfold V_X12_valleyLine at hv
                      rw [if_neg c1, if_neg c2, if_neg c3, if_neg c4, if_neg c5, if_neg c6, if_neg c7, if_neg c8, if_neg c9, if_neg c10] at hv
                      exact absurd rfl hv

