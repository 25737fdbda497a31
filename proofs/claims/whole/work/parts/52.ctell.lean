/-! the class: tellings -/
theorem hasWho2 (σ : zG) (x l : Int) (e : σ 5 0 = l) : zDo SC 0 m_X9_hasWho [zP 5, .inl x] σ (zEq (some (.inl (b2 (0 ≤ x ∧ x < l)))) σ) := by
  subst e
  exact does_X9_hasWho σ x
theorem hasFact2 (σ : zG) (x l : Int) (e : σ 5 1 = l) : zDo SC 0 m_X9_hasFact [zP 5, .inl x] σ (zEq (some (.inl (b2 (0 ≤ x ∧ x < l)))) σ) := by
  subst e
  exact does_X9_hasFact σ x
theorem hasLine2 (σ : zG) (x l : Int) (e : σ 27 0 = l) : zDo SC 0 m_X0_hasLine [zP 27, .inl x] σ (zEq (some (.inl (b2 (0 ≤ x ∧ x < l)))) σ) := by
  subst e
  exact does_X0_hasLine σ x

def L_X8_take_40  : Nat → Int → zG → Int × zG
  | 0, _, σ => (0, σ)
  | n + 1, q, σ => if (σ 91 0) ≤ q then (1, σ) else (if 0 ≤ (σ 2 (3 * q)) ∧ (σ 2 (3 * q)) < (σ 5 0) then (if 0 ≤ (σ 2 ((3 * q) + 1)) ∧ (σ 2 ((3 * q) + 1)) < (σ 5 0) then (if 0 ≤ (σ 2 ((3 * q) + 2)) ∧ (σ 2 ((3 * q) + 2)) < (σ 5 1) then (if (σ 2 (3 * q)) = (σ 2 ((3 * q) + 1)) then (0, zu (zu (zu σ 92 q (σ 2 (3 * q))) 93 q (σ 2 ((3 * q) + 1))) 94 q (σ 2 ((3 * q) + 2))) else (L_X8_take_40  n (q + 1) (zu (zu (zu σ 92 q (σ 2 (3 * q))) 93 q (σ 2 ((3 * q) + 1))) 94 q (σ 2 ((3 * q) + 2))))) else (0, zu (zu (zu σ 92 q (σ 2 (3 * q))) 93 q (σ 2 ((3 * q) + 1))) 94 q (σ 2 ((3 * q) + 2)))) else (0, zu (zu (zu σ 92 q (σ 2 (3 * q))) 93 q (σ 2 ((3 * q) + 1))) 94 q (σ 2 ((3 * q) + 2)))) else (0, zu (zu (zu σ 92 q (σ 2 (3 * q))) 93 q (σ 2 ((3 * q) + 1))) 94 q (σ 2 ((3 * q) + 2))))
theorem fr_L_X8_take_40   (n : Nat) (q : Int) (σ : zG) {k : Nat} (h : k ∉ [92, 93, 94]) : (L_X8_take_40  n q σ).2 k = σ k := by
  induction n generalizing q σ with
  | zero => rfl
  | succ n ih =>
    have ne : ∀ c ∈ [92, 93, 94], k ≠ c := fun c hc e => h (e ▸ hc)
    rw [L_X8_take_40]
    repeat' split
    all_goals first | rfl | simp only [zu_row _ _ _ (ne 92 (by decide)), zu_row _ _ _ (ne 93 (by decide)), zu_row _ _ _ (ne 94 (by decide)), ih]

set_option maxRecDepth 20000 in
theorem loop_X8_take_40   : ∀ (n : Nat) (q : Int) (σ : zG), 0 ≤ q → 0 ≤ σ 91 0 ∧ σ 91 0 ≤ 5 → (σ 91 0 - q).toNat < n → zR SC 1 m_X8_take 40 [(0, zP 91), (1, zP 1), (2, zP 5), (3, .inl q)] [] σ (zEq (some (.inl (L_X8_take_40  n q σ).1)) (L_X8_take_40  n q σ).2) := by
  intro n
  induction n with
  | zero => intro q σ h0 hM hmz; exact absurd hmz (Nat.not_lt_zero _)
  | succ n ih =>
    intro q σ h0 hM hmz
    refine zRx.iload_n 3 rfl rfl dX8_take_40 ?_
    refine zRx.aload_n 0 rfl rfl dX8_take_41 ?_
    refine zRx.getIv (a := 91) (ji := 0) (v := σ 91 0) rfl fl_8_33 rfl rfl rfl dX8_take_42 ?_
    refine zRx.icmp_ge (tgt := 168) dX8_take_45 (by decide) (fun c45 => ?_) (fun c45 => ?_)
    · refine zRx.iconst ⟨by decide, by decide⟩ dX8_take_168 ?_
      exact zR.zret rfl ⟨by decide, by decide⟩ dX8_take_169 (by have he : L_X8_take_40  (n + 1) q σ = (1, σ) := (by rw [L_X8_take_40, if_pos c45]); rw [he]; exact ⟨rfl, rfl⟩)
    · refine zRx.aload_n 0 rfl rfl dX8_take_48 ?_
      refine zRx.getR (a := 91) (b := 92) fl_8_9 rfl rfl dX8_take_49 ?_
      refine zRx.iload_n 3 rfl rfl dX8_take_52 ?_
      refine zRx.aload_n 1 rfl rfl dX8_take_53 ?_
      refine zRx.getR (a := 1) (b := 2) fl_8_36 rfl rfl dX8_take_54 ?_
      refine zRx.iconst ⟨by decide, by decide⟩ dX8_take_57 ?_
      refine zRx.iload_n 3 rfl rfl dX8_take_58 ?_
      refine zRx.imul ⟨by omega, by omega⟩ dX8_take_59 ?_
      refine zRx.ialdv (v := σ 2 (3 * q)) rfl rfl (by omega) (by omega) dX8_take_60 ?_
      refine zRx.iast rfl (by omega) (by omega) dX8_take_61 ?_
      refine zRx.aload_n 0 rfl rfl dX8_take_62 ?_
      refine zRx.getR (a := 91) (b := 93) fl_8_15 rfl rfl dX8_take_63 ?_
      refine zRx.iload_n 3 rfl rfl dX8_take_66 ?_
      refine zRx.aload_n 1 rfl rfl dX8_take_67 ?_
      refine zRx.getR (a := 1) (b := 2) fl_8_36 rfl rfl dX8_take_68 ?_
      refine zRx.iconst ⟨by decide, by decide⟩ dX8_take_71 ?_
      refine zRx.iload_n 3 rfl rfl dX8_take_72 ?_
      refine zRx.imul ⟨by omega, by omega⟩ dX8_take_73 ?_
      refine zRx.iconst ⟨by decide, by decide⟩ dX8_take_74 ?_
      refine zRx.iadd ⟨by omega, by omega⟩ dX8_take_75 ?_
      refine zRx.ialdv (v := σ 2 ((3 * q) + 1)) (zu_ne _ _ _ _ (by decide)) rfl (by omega) (by omega) dX8_take_76 ?_
      refine zRx.iast rfl (by omega) (by omega) dX8_take_77 ?_
      refine zRx.aload_n 0 rfl rfl dX8_take_78 ?_
      refine zRx.getR (a := 91) (b := 94) fl_8_18 rfl rfl dX8_take_79 ?_
      refine zRx.iload_n 3 rfl rfl dX8_take_82 ?_
      refine zRx.aload_n 1 rfl rfl dX8_take_83 ?_
      refine zRx.getR (a := 1) (b := 2) fl_8_36 rfl rfl dX8_take_84 ?_
      refine zRx.iconst ⟨by decide, by decide⟩ dX8_take_87 ?_
      refine zRx.iload_n 3 rfl rfl dX8_take_88 ?_
      refine zRx.imul ⟨by omega, by omega⟩ dX8_take_89 ?_
      refine zRx.iconst ⟨by decide, by decide⟩ dX8_take_90 ?_
      refine zRx.iadd ⟨by omega, by omega⟩ dX8_take_91 ?_
      refine zRx.ialdv (v := σ 2 ((3 * q) + 2)) ((zu_ne _ _ _ _ (by decide)).trans (zu_ne _ _ _ _ (by decide))) rfl (by omega) (by omega) dX8_take_92 ?_
      refine zRx.iast rfl (by omega) (by omega) dX8_take_93 ?_
      refine zRx.aload_n 2 rfl rfl dX8_take_94 ?_
      refine zRx.aload_n 0 rfl rfl dX8_take_95 ?_
      refine zRx.getR (a := 91) (b := 92) fl_8_9 rfl rfl dX8_take_96 ?_
      refine zRx.iload_n 3 rfl rfl dX8_take_99 ?_
      refine zRx.ialdv (v := σ 2 (3 * q)) ((zu_ne _ _ _ _ (by decide)).trans ((zu_ne _ _ _ _ (by decide)).trans (zu_at _ _ _ _))) rfl (by omega) (by omega) dX8_take_100 ?_
      refine zRx.cVi (w := .inl (b2 (0 ≤ (σ 2 (3 * q)) ∧ (σ 2 (3 * q)) < (σ 5 0)))) (M := m_X9_hasWho) (av := [.inl (σ 2 (3 * q))]) cv_8_39 mk_X9_hasWho (by decide) (b := 5) rfl rfl (Nat.le_of_ble_eq_true rfl) dX8_take_101 (hasWho2 (zu (zu (zu σ 92 q (σ 2 (3 * q))) 93 q (σ 2 ((3 * q) + 1))) 94 q (σ 2 ((3 * q) + 2))) (σ 2 (3 * q)) (σ 5 0) ((zu_ne _ _ _ _ (by decide)).trans ((zu_ne _ _ _ _ (by decide)).trans (zu_ne _ _ _ _ (by decide))))) ?_
      refine zRx.if_eqB (tgt := 137) dX8_take_104 (by decide) (fun c104 => ?_) (fun c104 => ?_)
      · refine zRx.iconst ⟨by decide, by decide⟩ dX8_take_137 ?_
        refine zRx.istore (ls' := [(0, zP 91), (1, zP 1), (2, zP 5), (3, .inl q), (4, .inl 0)]) rfl (by decide) dX8_take_138 ?_
        refine zRx.iload 4 rfl dX8_take_140 ?_
        refine zRx.if_eq (tgt := 160) dX8_take_142 (by decide) (fun _ => ?_) (fun c142 => absurd c142 (by decide))
        refine zRx.iconst ⟨by decide, by decide⟩ dX8_take_160 ?_
        exact zR.zret rfl ⟨by decide, by decide⟩ dX8_take_161 (by have he : L_X8_take_40  (n + 1) q σ = (0, zu (zu (zu σ 92 q (σ 2 (3 * q))) 93 q (σ 2 ((3 * q) + 1))) 94 q (σ 2 ((3 * q) + 2))) := (by rw [L_X8_take_40, if_neg (Int.not_le.mpr c45), if_neg c104]); rw [he]; exact ⟨rfl, rfl⟩)
      · refine zRx.aload_n 2 rfl rfl dX8_take_107 ?_
        refine zRx.aload_n 0 rfl rfl dX8_take_108 ?_
        refine zRx.getR (a := 91) (b := 93) fl_8_15 rfl rfl dX8_take_109 ?_
        refine zRx.iload_n 3 rfl rfl dX8_take_112 ?_
        refine zRx.ialdv (v := σ 2 ((3 * q) + 1)) ((zu_ne _ _ _ _ (by decide)).trans (zu_at _ _ _ _)) rfl (by omega) (by omega) dX8_take_113 ?_
        refine zRx.cVi (w := .inl (b2 (0 ≤ (σ 2 ((3 * q) + 1)) ∧ (σ 2 ((3 * q) + 1)) < (σ 5 0)))) (M := m_X9_hasWho) (av := [.inl (σ 2 ((3 * q) + 1))]) cv_8_39 mk_X9_hasWho (by decide) (b := 5) rfl rfl (Nat.le_of_ble_eq_true rfl) dX8_take_114 (hasWho2 (zu (zu (zu σ 92 q (σ 2 (3 * q))) 93 q (σ 2 ((3 * q) + 1))) 94 q (σ 2 ((3 * q) + 2))) (σ 2 ((3 * q) + 1)) (σ 5 0) ((zu_ne _ _ _ _ (by decide)).trans ((zu_ne _ _ _ _ (by decide)).trans (zu_ne _ _ _ _ (by decide))))) ?_
        refine zRx.if_eqB (tgt := 137) dX8_take_117 (by decide) (fun c117 => ?_) (fun c117 => ?_)
        · refine zRx.iconst ⟨by decide, by decide⟩ dX8_take_137 ?_
          refine zRx.istore (ls' := [(0, zP 91), (1, zP 1), (2, zP 5), (3, .inl q), (4, .inl 0)]) rfl (by decide) dX8_take_138 ?_
          refine zRx.iload 4 rfl dX8_take_140 ?_
          refine zRx.if_eq (tgt := 160) dX8_take_142 (by decide) (fun _ => ?_) (fun c142 => absurd c142 (by decide))
          refine zRx.iconst ⟨by decide, by decide⟩ dX8_take_160 ?_
          exact zR.zret rfl ⟨by decide, by decide⟩ dX8_take_161 (by have he : L_X8_take_40  (n + 1) q σ = (0, zu (zu (zu σ 92 q (σ 2 (3 * q))) 93 q (σ 2 ((3 * q) + 1))) 94 q (σ 2 ((3 * q) + 2))) := (by rw [L_X8_take_40, if_neg (Int.not_le.mpr c45), if_pos c104, if_neg c117]); rw [he]; exact ⟨rfl, rfl⟩)
        · refine zRx.aload_n 2 rfl rfl dX8_take_120 ?_
          refine zRx.aload_n 0 rfl rfl dX8_take_121 ?_
          refine zRx.getR (a := 91) (b := 94) fl_8_18 rfl rfl dX8_take_122 ?_
          refine zRx.iload_n 3 rfl rfl dX8_take_125 ?_
          refine zRx.ialdv (v := σ 2 ((3 * q) + 2)) (zu_at _ _ _ _) rfl (by omega) (by omega) dX8_take_126 ?_
          refine zRx.cVi (w := .inl (b2 (0 ≤ (σ 2 ((3 * q) + 2)) ∧ (σ 2 ((3 * q) + 2)) < (σ 5 1)))) (M := m_X9_hasFact) (av := [.inl (σ 2 ((3 * q) + 2))]) cv_8_45 mk_X9_hasFact (by decide) (b := 5) rfl rfl (Nat.le_of_ble_eq_true rfl) dX8_take_127 (hasFact2 (zu (zu (zu σ 92 q (σ 2 (3 * q))) 93 q (σ 2 ((3 * q) + 1))) 94 q (σ 2 ((3 * q) + 2))) (σ 2 ((3 * q) + 2)) (σ 5 1) ((zu_ne _ _ _ _ (by decide)).trans ((zu_ne _ _ _ _ (by decide)).trans (zu_ne _ _ _ _ (by decide))))) ?_
          refine zRx.if_eqB (tgt := 137) dX8_take_130 (by decide) (fun c130 => ?_) (fun c130 => ?_)
          · refine zRx.iconst ⟨by decide, by decide⟩ dX8_take_137 ?_
            refine zRx.istore (ls' := [(0, zP 91), (1, zP 1), (2, zP 5), (3, .inl q), (4, .inl 0)]) rfl (by decide) dX8_take_138 ?_
            refine zRx.iload 4 rfl dX8_take_140 ?_
            refine zRx.if_eq (tgt := 160) dX8_take_142 (by decide) (fun _ => ?_) (fun c142 => absurd c142 (by decide))
            refine zRx.iconst ⟨by decide, by decide⟩ dX8_take_160 ?_
            exact zR.zret rfl ⟨by decide, by decide⟩ dX8_take_161 (by have he : L_X8_take_40  (n + 1) q σ = (0, zu (zu (zu σ 92 q (σ 2 (3 * q))) 93 q (σ 2 ((3 * q) + 1))) 94 q (σ 2 ((3 * q) + 2))) := (by rw [L_X8_take_40, if_neg (Int.not_le.mpr c45), if_pos c104, if_pos c117, if_neg c130]); rw [he]; exact ⟨rfl, rfl⟩)
          · refine zRx.iconst ⟨by decide, by decide⟩ dX8_take_133 ?_
            refine zRx.goto (tgt := 138) dX8_take_134 (by decide) ?_
            refine zRx.istore (ls' := [(0, zP 91), (1, zP 1), (2, zP 5), (3, .inl q), (4, .inl 1)]) rfl (by decide) dX8_take_138 ?_
            refine zRx.iload 4 rfl dX8_take_140 ?_
            refine zRx.if_eq (tgt := 160) dX8_take_142 (by decide) (fun c142 => absurd c142 (by decide)) (fun _ => ?_)
            refine zRx.aload_n 0 rfl rfl dX8_take_145 ?_
            refine zRx.getR (a := 91) (b := 92) fl_8_9 rfl rfl dX8_take_146 ?_
            refine zRx.iload_n 3 rfl rfl dX8_take_149 ?_
            refine zRx.ialdv (v := σ 2 (3 * q)) ((zu_ne _ _ _ _ (by decide)).trans ((zu_ne _ _ _ _ (by decide)).trans (zu_at _ _ _ _))) rfl (by omega) (by omega) dX8_take_150 ?_
            refine zRx.aload_n 0 rfl rfl dX8_take_151 ?_
            refine zRx.getR (a := 91) (b := 93) fl_8_15 rfl rfl dX8_take_152 ?_
            refine zRx.iload_n 3 rfl rfl dX8_take_155 ?_
            refine zRx.ialdv (v := σ 2 ((3 * q) + 1)) ((zu_ne _ _ _ _ (by decide)).trans (zu_at _ _ _ _)) rfl (by omega) (by omega) dX8_take_156 ?_
            refine zRx.icmp_ne (tgt := 162) dX8_take_157 (by decide) (fun c157 => ?_) (fun c157 => ?_)
            · refine zRx.iinc (n := 1) (ls' := [(0, zP 91), (1, zP 1), (2, zP 5), (3, .inl (q + 1)), (4, .inl 1)]) 3 rfl ⟨by omega, by omega⟩ rfl (by decide) dX8_take_162 ?_
              refine zRx.goto (tgt := 40) dX8_take_165 (by decide) ?_
              refine zRx.pick [0, 1, 2, 3] (ls' := [(0, zP 91), (1, zP 1), (2, zP 5), (3, .inl (q + 1))]) rfl ?_
              have he : L_X8_take_40  (n + 1) q σ = L_X8_take_40  n (q + 1) (zu (zu (zu σ 92 q (σ 2 (3 * q))) 93 q (σ 2 ((3 * q) + 1))) 94 q (σ 2 ((3 * q) + 2))) := by rw [L_X8_take_40, if_neg (Int.not_le.mpr c45), if_pos c104, if_pos c117, if_pos c130, if_neg c157]
              rw [he]
              exact ih (q + 1) (zu (zu (zu σ 92 q (σ 2 (3 * q))) 93 q (σ 2 ((3 * q) + 1))) 94 q (σ 2 ((3 * q) + 2))) (by omega) (by have e9 : (zu (zu (zu σ 92 q (σ 2 (3 * q))) 93 q (σ 2 ((3 * q) + 1))) 94 q (σ 2 ((3 * q) + 2))) 91 0 = σ 91 0 := ((zu_ne _ _ _ _ (by decide)).trans ((zu_ne _ _ _ _ (by decide)).trans (zu_ne _ _ _ _ (by decide)))); omega) (by have e9 : (zu (zu (zu σ 92 q (σ 2 (3 * q))) 93 q (σ 2 ((3 * q) + 1))) 94 q (σ 2 ((3 * q) + 2))) 91 0 = σ 91 0 := ((zu_ne _ _ _ _ (by decide)).trans ((zu_ne _ _ _ _ (by decide)).trans (zu_ne _ _ _ _ (by decide)))); omega)
            · refine zRx.iconst ⟨by decide, by decide⟩ dX8_take_160 ?_
              exact zR.zret rfl ⟨by decide, by decide⟩ dX8_take_161 (by have he : L_X8_take_40  (n + 1) q σ = (0, zu (zu (zu σ 92 q (σ 2 (3 * q))) 93 q (σ 2 ((3 * q) + 1))) 94 q (σ 2 ((3 * q) + 2))) := (by rw [L_X8_take_40, if_neg (Int.not_le.mpr c45), if_pos c104, if_pos c117, if_pos c130, if_pos c157]); rw [he]; exact ⟨rfl, rfl⟩)
def R_X8_take (σ : zG)  : Int × zG := if (σ 1 1) < 3 then (0, σ) else (if 15 < (σ 1 1) then (0, σ) else (if ((σ 1 1) % 3) = 0 then (L_X8_take_40  10 0 (zu σ 91 0 ((σ 1 1) / 3))) else (0, σ)))
theorem fr_R_X8_take (σ : zG)  {k : Nat} (h : k ∉ [91, 92, 93, 94]) : (R_X8_take σ ).2 k = σ k := by
  have ne : ∀ c ∈ [91, 92, 93, 94], k ≠ c := fun c hc e => h (e ▸ hc)
  have nl_L_X8_take_40 : k ∉ [92, 93, 94] := fun hm => h (by first | (revert hm; simp only [List.mem_cons, List.not_mem_nil, or_false]; omega) | (simp at hm))
  unfold R_X8_take
  repeat' split
  all_goals first | rfl | simp only [zu_row _ _ _ (ne 91 (by decide)), zu_row _ _ _ (ne 92 (by decide)), zu_row _ _ _ (ne 93 (by decide)), zu_row _ _ _ (ne 94 (by decide)), fr_L_X8_take_40 (h := nl_L_X8_take_40)]

set_option maxRecDepth 20000 in
theorem does_X8_take (σ : zG)    : zDo SC 1 m_X8_take [zP 91, zP 1, zP 5] σ (zEq (some (.inl (R_X8_take σ ).1)) (R_X8_take σ ).2) := by
  refine zDo.intro mk_X8_take (Nat.le_of_ble_eq_true rfl) ?_
  refine zRx.aload_n 1 rfl rfl dX8_take_0 ?_
  refine zRx.getIv (a := 1) (ji := 1) (v := σ 1 1) rfl fl_8_27 rfl rfl rfl dX8_take_1 ?_
  refine zRx.iconst ⟨by decide, by decide⟩ dX8_take_4 ?_
  refine zRx.icmp_lt (tgt := 26) dX8_take_5 (by decide) (fun c5 => ?_) (fun c5 => ?_)
  · refine zRx.iconst ⟨by decide, by decide⟩ dX8_take_26 ?_
    exact zR.zret rfl ⟨by decide, by decide⟩ dX8_take_27 (by have he : R_X8_take σ  = (0, σ) := (by rw [R_X8_take, if_pos c5]); rw [he]; exact ⟨rfl, rfl⟩)
  · refine zRx.aload_n 1 rfl rfl dX8_take_8 ?_
    refine zRx.getIv (a := 1) (ji := 1) (v := σ 1 1) rfl fl_8_27 rfl rfl rfl dX8_take_9 ?_
    refine zRx.bipush ⟨by decide, by decide⟩ rfl dX8_take_12 ?_
    refine zRx.icmp_gt (tgt := 26) dX8_take_14 (by decide) (fun c14 => ?_) (fun c14 => ?_)
    · refine zRx.iconst ⟨by decide, by decide⟩ dX8_take_26 ?_
      exact zR.zret rfl ⟨by decide, by decide⟩ dX8_take_27 (by have he : R_X8_take σ  = (0, σ) := (by rw [R_X8_take, if_neg (Int.not_lt.mpr c5), if_pos c14]); rw [he]; exact ⟨rfl, rfl⟩)
    · refine zRx.aload_n 1 rfl rfl dX8_take_17 ?_
      refine zRx.getIv (a := 1) (ji := 1) (v := σ 1 1) rfl fl_8_27 rfl rfl rfl dX8_take_18 ?_
      refine zRx.iconst ⟨by decide, by decide⟩ dX8_take_21 ?_
      refine zRx.irem (by omega) (by decide) dX8_take_22 ?_
      refine zRx.if_eq (tgt := 28) dX8_take_23 (by decide) (fun c23 => ?_) (fun c23 => ?_)
      · refine zRx.aload_n 0 rfl rfl dX8_take_28 ?_
        refine zRx.aload_n 1 rfl rfl dX8_take_29 ?_
        refine zRx.getIv (a := 1) (ji := 1) (v := σ 1 1) rfl fl_8_27 rfl rfl rfl dX8_take_30 ?_
        refine zRx.iconst ⟨by decide, by decide⟩ dX8_take_33 ?_
        refine zRx.idiv (by omega) (by decide) dX8_take_34 ?_
        refine zRx.putI (a := 91) (ji := 0) pl_8_33 rfl rfl rfl dX8_take_35 ?_
        refine zRx.iconst ⟨by decide, by decide⟩ dX8_take_38 ?_
        refine zRx.istore_n (ls' := [(0, zP 91), (1, zP 1), (2, zP 5), (3, .inl 0)]) rfl rfl (by decide) dX8_take_39 ?_
        have he : R_X8_take σ  = L_X8_take_40  10 0 (zu σ 91 0 ((σ 1 1) / 3)) := by rw [R_X8_take, if_neg (Int.not_lt.mpr c5), if_neg (Int.not_lt.mpr c14), if_pos c23]
        rw [he]
        exact loop_X8_take_40    10 0 (zu σ 91 0 ((σ 1 1) / 3)) (by omega) (by rw [zu_at]; omega) (by rw [zu_at]; omega)
      · refine zRx.iconst ⟨by decide, by decide⟩ dX8_take_26 ?_
        exact zR.zret rfl ⟨by decide, by decide⟩ dX8_take_27 (by have he : R_X8_take σ  = (0, σ) := (by rw [R_X8_take, if_neg (Int.not_lt.mpr c5), if_neg (Int.not_lt.mpr c14), if_neg c23]); rw [he]; exact ⟨rfl, rfl⟩)

/-- the tellings are of people and facts; the turns are tellings -/
def TEL (σ : zG) : Prop := ∀ i : Int, 0 ≤ i → i < σ 91 0 → (0 ≤ σ 93 i ∧ σ 93 i < 8) ∧ (0 ≤ σ 94 i ∧ σ 94 i < 12) ∧ (0 ≤ σ 11 (σ 94 i) ∧ σ 11 (σ 94 i) < 8)
def TUR (σ : zG) : Prop := ∀ j : Int, 0 ≤ j → j < σ 91 0 → 0 ≤ σ 95 j ∧ σ 95 j < σ 91 0
theorem TEL_row {σ τ : zG} (e1 : τ 91 0 = σ 91 0) (e2 : τ 93 = σ 93) (e3 : τ 94 = σ 94) (e4 : τ 11 = σ 11) (h : TEL σ) : TEL τ := by
  unfold TEL at *
  rw [e1, e2, e3, e4]
  exact h
theorem TUR_row {σ τ : zG} (e1 : τ 91 0 = σ 91 0) (e2 : τ 95 = σ 95) (h : TUR σ) : TUR τ := by
  unfold TUR at *
  rw [e1, e2]
  exact h
theorem tellMore_m (σ : zG) (who an f : Int) : F_X4_tellMore σ who an f 67 8 = σ 67 8 := by
  unfold F_X4_tellMore
  split
  · unfold F_X4_tellt
    rw [learn_mt, zu_ne _ _ _ _ (by decide), fr_R_X4_payt (h := by decide)]
  · rfl
theorem fr_F_X4_copyDebts (σ : zG) {k : Nat} (h : k ∉ [67, 73, 74, 75]) : F_X4_copyDebts σ k = σ k := by
  have ne : ∀ c ∈ [67, 73, 74, 75], k ≠ c := fun c hc e => h (e ▸ hc)
  unfold F_X4_copyDebts
  rw [zcp_row _ _ _ _ (ne 75 (by decide)), zcp_row _ _ _ _ (ne 74 (by decide)), zcp_row _ _ _ _ (ne 73 (by decide)), zu_row _ _ _ (ne 67 (by decide))]
theorem fr_F_X4_goBackTo (σ : zG) {k : Nat} (h : k ∉ [67, 68, 77]) : F_X4_goBackTo σ k = σ k := by
  have ne : ∀ c ∈ [67, 68, 77], k ≠ c := fun c hc e => h (e ▸ hc)
  unfold F_X4_goBackTo
  rw [zcp_row _ _ _ _ (ne 77 (by decide)), zcp_row _ _ _ _ (ne 68 (by decide)), zu_row _ _ _ (ne 67 (by decide))]
theorem copyDebts_m (σ : zG) : F_X4_copyDebts σ 67 8 = σ 53 8 := by
  unfold F_X4_copyDebts
  rw [zcp_row _ _ _ _ (by decide), zcp_row _ _ _ _ (by decide), zcp_row _ _ _ _ (by decide), zu_at]
theorem goBackTo_m (σ : zG) : F_X4_goBackTo σ 67 8 = σ 67 8 := by
  unfold F_X4_goBackTo
  rw [zcp_row _ _ _ _ (by decide), zcp_row _ _ _ _ (by decide), zu_off _ _ _ (by decide)]

def L_X8_tryTurns_4  : Nat → Int → Int → zG → Int × zG
  | 0, _, _, σ => (0, σ)
  | n + 1, wr, q, σ => if (σ 91 0) ≤ q then (wr, σ) else (if (V_X4_tellMore σ (σ 92 (σ 95 q)) (σ 93 (σ 95 q)) (σ 94 (σ 95 q))) = 0 then (L_X8_tryTurns_4  n (wr + 0) (q + 1) (F_X4_tellMore σ (σ 92 (σ 95 q)) (σ 93 (σ 95 q)) (σ 94 (σ 95 q)))) else (L_X8_tryTurns_4  n (wr + 1) (q + 1) (F_X4_tellMore σ (σ 92 (σ 95 q)) (σ 93 (σ 95 q)) (σ 94 (σ 95 q)))))
theorem fr_L_X8_tryTurns_4   (n : Nat) (wr q : Int) (σ : zG) {k : Nat} (h : k ∉ [67, 68, 69, 71, 77, 79, 80]) : (L_X8_tryTurns_4  n wr q σ).2 k = σ k := by
  induction n generalizing wr q σ with
  | zero => rfl
  | succ n ih =>
    have ne : ∀ c ∈ [67, 68, 69, 71, 77, 79, 80], k ≠ c := fun c hc e => h (e ▸ hc)
    have nk_F_X4_tellMore : k ∉ [67, 68, 69, 71, 77, 79, 80] := fun hm => h (by first | (revert hm; simp only [List.mem_cons, List.not_mem_nil, or_false]; omega) | (simp at hm))
    rw [L_X8_tryTurns_4]
    repeat' split
    all_goals first | rfl | simp only [zu_row _ _ _ (ne 67 (by decide)), zu_row _ _ _ (ne 68 (by decide)), zu_row _ _ _ (ne 69 (by decide)), zu_row _ _ _ (ne 71 (by decide)), zu_row _ _ _ (ne 77 (by decide)), zu_row _ _ _ (ne 79 (by decide)), zu_row _ _ _ (ne 80 (by decide)), fr_F_X4_tellMore (h := nk_F_X4_tellMore), ih]

set_option maxRecDepth 20000 in
theorem loop_X8_tryTurns_4   : ∀ (n : Nat) (wr q : Int) (σ : zG), 0 ≤ q ∧ 0 ≤ wr ∧ wr ≤ q → σ 91 0 ≤ 5 → σ 5 0 ≤ 8 → σ 5 2 ≤ 8 → σ 5 1 ≤ 12 → σ 67 8 ≤ 128 → TEL σ → TUR σ → (σ 91 0 - q).toNat < n → zR SC 5 m_X8_tryTurns 4 [(0, zP 91), (1, zP 67), (2, .inl wr), (3, .inl q)] [] σ (zEq (some (.inl (L_X8_tryTurns_4  n wr q σ).1)) (L_X8_tryTurns_4  n wr q σ).2) := by
  intro n
  induction n with
  | zero => intro wr q σ h0 hM hp hs hF hm hT hU hmz; exact absurd hmz (Nat.not_lt_zero _)
  | succ n ih =>
    intro wr q σ h0 hM hp hs hF hm hT hU hmz
    refine zRx.iload_n 3 rfl rfl dX8_tryTurns_4 ?_
    refine zRx.aload_n 0 rfl rfl dX8_tryTurns_5 ?_
    refine zRx.getIv (a := 91) (ji := 0) (v := σ 91 0) rfl fl_8_33 rfl rfl rfl dX8_tryTurns_6 ?_
    refine zRx.icmp_ge (tgt := 62) dX8_tryTurns_9 (by decide) (fun c9 => ?_) (fun c9 => ?_)
    · refine zRx.iload_n 2 rfl rfl dX8_tryTurns_62 ?_
      exact zR.iret rfl dX8_tryTurns_63 (by have he : L_X8_tryTurns_4  (n + 1) wr q σ = (wr, σ) := (by rw [L_X8_tryTurns_4, if_pos c9]); rw [he]; exact ⟨rfl, rfl⟩)
    · refine zRx.aload_n 0 rfl rfl dX8_tryTurns_12 ?_
      refine zRx.getR (a := 91) (b := 95) fl_8_21 rfl rfl dX8_tryTurns_13 ?_
      refine zRx.iload_n 3 rfl rfl dX8_tryTurns_16 ?_
      refine zRx.ialdv (v := σ 95 q) rfl rfl (by omega) (by omega) dX8_tryTurns_17 ?_
      have hu := hU q (by omega) (by omega)
      have ht := hT (σ 95 q) (by omega) (by omega)
      refine zRx.istore (ls' := [(0, zP 91), (1, zP 67), (2, .inl wr), (3, .inl q), (4, .inl (σ 95 q))]) rfl (by decide) dX8_tryTurns_18 ?_
      refine zRx.iload_n 2 rfl rfl dX8_tryTurns_20 ?_
      refine zRx.aload_n 1 rfl rfl dX8_tryTurns_21 ?_
      refine zRx.aload_n 0 rfl rfl dX8_tryTurns_22 ?_
      refine zRx.getR (a := 91) (b := 92) fl_8_9 rfl rfl dX8_tryTurns_23 ?_
      refine zRx.iload 4 rfl dX8_tryTurns_26 ?_
      refine zRx.ialdv (v := σ 92 (σ 95 q)) rfl rfl (by omega) (by omega) dX8_tryTurns_28 ?_
      refine zRx.aload_n 0 rfl rfl dX8_tryTurns_29 ?_
      refine zRx.getR (a := 91) (b := 93) fl_8_15 rfl rfl dX8_tryTurns_30 ?_
      refine zRx.iload 4 rfl dX8_tryTurns_33 ?_
      refine zRx.ialdv (v := σ 93 (σ 95 q)) rfl rfl (by omega) (by omega) dX8_tryTurns_35 ?_
      refine zRx.aload_n 0 rfl rfl dX8_tryTurns_36 ?_
      refine zRx.getR (a := 91) (b := 94) fl_8_18 rfl rfl dX8_tryTurns_37 ?_
      refine zRx.iload 4 rfl dX8_tryTurns_40 ?_
      refine zRx.ialdv (v := σ 94 (σ 95 q)) rfl rfl (by omega) (by omega) dX8_tryTurns_42 ?_
      refine zRx.cVi (w := .inl (V_X4_tellMore σ (σ 92 (σ 95 q)) (σ 93 (σ 95 q)) (σ 94 (σ 95 q)))) (M := m_X4_tellMore) (av := [.inl (σ 92 (σ 95 q)), .inl (σ 93 (σ 95 q)), .inl (σ 94 (σ 95 q))]) cv_8_79 mk_X4_tellMore (by decide) (b := 67) rfl rfl (Nat.le_of_ble_eq_true rfl) dX8_tryTurns_43 (does_X4_tellMore σ (σ 92 (σ 95 q)) (σ 93 (σ 95 q)) (σ 94 (σ 95 q)) ht.2.1 ht.1 ht.2.2 hp hs hF hm) ?_
      refine zRx.if_eq (tgt := 53) dX8_tryTurns_46 (by decide) (fun c46 => ?_) (fun c46 => ?_)
      · refine zRx.iconst ⟨by decide, by decide⟩ dX8_tryTurns_53 ?_
        refine zRx.iadd ⟨by omega, by omega⟩ dX8_tryTurns_54 ?_
        refine zRx.istore_n (ls' := [(0, zP 91), (1, zP 67), (2, .inl (wr + 0)), (3, .inl q), (4, .inl (σ 95 q))]) rfl rfl (by decide) dX8_tryTurns_55 ?_
        refine zRx.iinc (n := 1) (ls' := [(0, zP 91), (1, zP 67), (2, .inl (wr + 0)), (3, .inl (q + 1)), (4, .inl (σ 95 q))]) 3 rfl ⟨by omega, by omega⟩ rfl (by decide) dX8_tryTurns_56 ?_
        refine zRx.goto (tgt := 4) dX8_tryTurns_59 (by decide) ?_
        refine zRx.pick [0, 1, 2, 3] (ls' := [(0, zP 91), (1, zP 67), (2, .inl (wr + 0)), (3, .inl (q + 1))]) rfl ?_
        have he : L_X8_tryTurns_4  (n + 1) wr q σ = L_X8_tryTurns_4  n (wr + 0) (q + 1) (F_X4_tellMore σ (σ 92 (σ 95 q)) (σ 93 (σ 95 q)) (σ 94 (σ 95 q))) := by rw [L_X8_tryTurns_4, if_neg (Int.not_le.mpr c9), if_pos c46]
        rw [he]
        exact ih (wr + 0) (q + 1) (F_X4_tellMore σ (σ 92 (σ 95 q)) (σ 93 (σ 95 q)) (σ 94 (σ 95 q))) (by omega) (by have e9 : (F_X4_tellMore σ (σ 92 (σ 95 q)) (σ 93 (σ 95 q)) (σ 94 (σ 95 q))) 91 0 = σ 91 0 := (congrFun (fr_F_X4_tellMore σ (σ 92 (σ 95 q)) (σ 93 (σ 95 q)) (σ 94 (σ 95 q)) (k := 91) (by decide)) _); omega) (by have e9 : (F_X4_tellMore σ (σ 92 (σ 95 q)) (σ 93 (σ 95 q)) (σ 94 (σ 95 q))) 5 0 = σ 5 0 := (congrFun (fr_F_X4_tellMore σ (σ 92 (σ 95 q)) (σ 93 (σ 95 q)) (σ 94 (σ 95 q)) (k := 5) (by decide)) _); omega) (by have e9 : (F_X4_tellMore σ (σ 92 (σ 95 q)) (σ 93 (σ 95 q)) (σ 94 (σ 95 q))) 5 2 = σ 5 2 := (congrFun (fr_F_X4_tellMore σ (σ 92 (σ 95 q)) (σ 93 (σ 95 q)) (σ 94 (σ 95 q)) (k := 5) (by decide)) _); omega) (by have e9 : (F_X4_tellMore σ (σ 92 (σ 95 q)) (σ 93 (σ 95 q)) (σ 94 (σ 95 q))) 5 1 = σ 5 1 := (congrFun (fr_F_X4_tellMore σ (σ 92 (σ 95 q)) (σ 93 (σ 95 q)) (σ 94 (σ 95 q)) (k := 5) (by decide)) _); omega) (by have e9 : (F_X4_tellMore σ (σ 92 (σ 95 q)) (σ 93 (σ 95 q)) (σ 94 (σ 95 q))) 67 8 = σ 67 8 := (tellMore_m _ _ _ _); omega) (TEL_row (congrFun (fr_F_X4_tellMore σ (σ 92 (σ 95 q)) (σ 93 (σ 95 q)) (σ 94 (σ 95 q)) (k := 91) (by decide)) _) (fr_F_X4_tellMore σ (σ 92 (σ 95 q)) (σ 93 (σ 95 q)) (σ 94 (σ 95 q)) (k := 93) (by decide)) (fr_F_X4_tellMore σ (σ 92 (σ 95 q)) (σ 93 (σ 95 q)) (σ 94 (σ 95 q)) (k := 94) (by decide)) (fr_F_X4_tellMore σ (σ 92 (σ 95 q)) (σ 93 (σ 95 q)) (σ 94 (σ 95 q)) (k := 11) (by decide)) hT) (TUR_row (congrFun (fr_F_X4_tellMore σ (σ 92 (σ 95 q)) (σ 93 (σ 95 q)) (σ 94 (σ 95 q)) (k := 91) (by decide)) _) (fr_F_X4_tellMore σ (σ 92 (σ 95 q)) (σ 93 (σ 95 q)) (σ 94 (σ 95 q)) (k := 95) (by decide)) hU) (by have e9 : (F_X4_tellMore σ (σ 92 (σ 95 q)) (σ 93 (σ 95 q)) (σ 94 (σ 95 q))) 91 0 = σ 91 0 := (congrFun (fr_F_X4_tellMore σ (σ 92 (σ 95 q)) (σ 93 (σ 95 q)) (σ 94 (σ 95 q)) (k := 91) (by decide)) _); omega)
      · refine zRx.iconst ⟨by decide, by decide⟩ dX8_tryTurns_49 ?_
        refine zRx.goto (tgt := 54) dX8_tryTurns_50 (by decide) ?_
        refine zRx.iadd ⟨by omega, by omega⟩ dX8_tryTurns_54 ?_
        refine zRx.istore_n (ls' := [(0, zP 91), (1, zP 67), (2, .inl (wr + 1)), (3, .inl q), (4, .inl (σ 95 q))]) rfl rfl (by decide) dX8_tryTurns_55 ?_
        refine zRx.iinc (n := 1) (ls' := [(0, zP 91), (1, zP 67), (2, .inl (wr + 1)), (3, .inl (q + 1)), (4, .inl (σ 95 q))]) 3 rfl ⟨by omega, by omega⟩ rfl (by decide) dX8_tryTurns_56 ?_
        refine zRx.goto (tgt := 4) dX8_tryTurns_59 (by decide) ?_
        refine zRx.pick [0, 1, 2, 3] (ls' := [(0, zP 91), (1, zP 67), (2, .inl (wr + 1)), (3, .inl (q + 1))]) rfl ?_
        have he : L_X8_tryTurns_4  (n + 1) wr q σ = L_X8_tryTurns_4  n (wr + 1) (q + 1) (F_X4_tellMore σ (σ 92 (σ 95 q)) (σ 93 (σ 95 q)) (σ 94 (σ 95 q))) := by rw [L_X8_tryTurns_4, if_neg (Int.not_le.mpr c9), if_neg c46]
        rw [he]
        exact ih (wr + 1) (q + 1) (F_X4_tellMore σ (σ 92 (σ 95 q)) (σ 93 (σ 95 q)) (σ 94 (σ 95 q))) (by omega) (by have e9 : (F_X4_tellMore σ (σ 92 (σ 95 q)) (σ 93 (σ 95 q)) (σ 94 (σ 95 q))) 91 0 = σ 91 0 := (congrFun (fr_F_X4_tellMore σ (σ 92 (σ 95 q)) (σ 93 (σ 95 q)) (σ 94 (σ 95 q)) (k := 91) (by decide)) _); omega) (by have e9 : (F_X4_tellMore σ (σ 92 (σ 95 q)) (σ 93 (σ 95 q)) (σ 94 (σ 95 q))) 5 0 = σ 5 0 := (congrFun (fr_F_X4_tellMore σ (σ 92 (σ 95 q)) (σ 93 (σ 95 q)) (σ 94 (σ 95 q)) (k := 5) (by decide)) _); omega) (by have e9 : (F_X4_tellMore σ (σ 92 (σ 95 q)) (σ 93 (σ 95 q)) (σ 94 (σ 95 q))) 5 2 = σ 5 2 := (congrFun (fr_F_X4_tellMore σ (σ 92 (σ 95 q)) (σ 93 (σ 95 q)) (σ 94 (σ 95 q)) (k := 5) (by decide)) _); omega) (by have e9 : (F_X4_tellMore σ (σ 92 (σ 95 q)) (σ 93 (σ 95 q)) (σ 94 (σ 95 q))) 5 1 = σ 5 1 := (congrFun (fr_F_X4_tellMore σ (σ 92 (σ 95 q)) (σ 93 (σ 95 q)) (σ 94 (σ 95 q)) (k := 5) (by decide)) _); omega) (by have e9 : (F_X4_tellMore σ (σ 92 (σ 95 q)) (σ 93 (σ 95 q)) (σ 94 (σ 95 q))) 67 8 = σ 67 8 := (tellMore_m _ _ _ _); omega) (TEL_row (congrFun (fr_F_X4_tellMore σ (σ 92 (σ 95 q)) (σ 93 (σ 95 q)) (σ 94 (σ 95 q)) (k := 91) (by decide)) _) (fr_F_X4_tellMore σ (σ 92 (σ 95 q)) (σ 93 (σ 95 q)) (σ 94 (σ 95 q)) (k := 93) (by decide)) (fr_F_X4_tellMore σ (σ 92 (σ 95 q)) (σ 93 (σ 95 q)) (σ 94 (σ 95 q)) (k := 94) (by decide)) (fr_F_X4_tellMore σ (σ 92 (σ 95 q)) (σ 93 (σ 95 q)) (σ 94 (σ 95 q)) (k := 11) (by decide)) hT) (TUR_row (congrFun (fr_F_X4_tellMore σ (σ 92 (σ 95 q)) (σ 93 (σ 95 q)) (σ 94 (σ 95 q)) (k := 91) (by decide)) _) (fr_F_X4_tellMore σ (σ 92 (σ 95 q)) (σ 93 (σ 95 q)) (σ 94 (σ 95 q)) (k := 95) (by decide)) hU) (by have e9 : (F_X4_tellMore σ (σ 92 (σ 95 q)) (σ 93 (σ 95 q)) (σ 94 (σ 95 q))) 91 0 = σ 91 0 := (congrFun (fr_F_X4_tellMore σ (σ 92 (σ 95 q)) (σ 93 (σ 95 q)) (σ 94 (σ 95 q)) (k := 91) (by decide)) _); omega)
def R_X8_tryTurns (σ : zG)  : Int × zG := L_X8_tryTurns_4  10 0 0 σ
theorem fr_R_X8_tryTurns (σ : zG)  {k : Nat} (h : k ∉ [67, 68, 69, 71, 77, 79, 80]) : (R_X8_tryTurns σ ).2 k = σ k := by
  have ne : ∀ c ∈ [67, 68, 69, 71, 77, 79, 80], k ≠ c := fun c hc e => h (e ▸ hc)
  have nl_L_X8_tryTurns_4 : k ∉ [67, 68, 69, 71, 77, 79, 80] := fun hm => h (by first | (revert hm; simp only [List.mem_cons, List.not_mem_nil, or_false]; omega) | (simp at hm))
  unfold R_X8_tryTurns
  repeat' split
  all_goals first | rfl | simp only [zu_row _ _ _ (ne 67 (by decide)), zu_row _ _ _ (ne 68 (by decide)), zu_row _ _ _ (ne 69 (by decide)), zu_row _ _ _ (ne 71 (by decide)), zu_row _ _ _ (ne 77 (by decide)), zu_row _ _ _ (ne 79 (by decide)), zu_row _ _ _ (ne 80 (by decide)), fr_L_X8_tryTurns_4 (h := nl_L_X8_tryTurns_4)]

set_option maxRecDepth 20000 in
theorem does_X8_tryTurns (σ : zG)  (hM : σ 91 0 ≤ 5) (hp : σ 5 0 ≤ 8) (hs : σ 5 2 ≤ 8) (hF : σ 5 1 ≤ 12) (hm : σ 67 8 ≤ 128) (hT : TEL σ) (hU : TUR σ)  : zDo SC 5 m_X8_tryTurns [zP 91, zP 67] σ (zEq (some (.inl (R_X8_tryTurns σ ).1)) (R_X8_tryTurns σ ).2) := by
  refine zDo.intro mk_X8_tryTurns (Nat.le_of_ble_eq_true rfl) ?_
  refine zRx.iconst ⟨by decide, by decide⟩ dX8_tryTurns_0 ?_
  refine zRx.istore_n (ls' := [(0, zP 91), (1, zP 67), (2, .inl 0)]) rfl rfl (by decide) dX8_tryTurns_1 ?_
  refine zRx.iconst ⟨by decide, by decide⟩ dX8_tryTurns_2 ?_
  refine zRx.istore_n (ls' := [(0, zP 91), (1, zP 67), (2, .inl 0), (3, .inl 0)]) rfl rfl (by decide) dX8_tryTurns_3 ?_
  have he : R_X8_tryTurns σ  = L_X8_tryTurns_4  10 0 0 σ := by rw [R_X8_tryTurns]
  rw [he]
  exact loop_X8_tryTurns_4    10 0 0 σ (by omega) hM hp hs hF hm hT hU (by omega)

theorem tryL_m : ∀ (n : Nat) (wr q : Int) (σ : zG), (L_X8_tryTurns_4 n wr q σ).2 67 8 = σ 67 8
  | 0, wr, q, σ => rfl
  | n + 1, wr, q, σ => by
    rw [L_X8_tryTurns_4]
    repeat' split
    all_goals first | rfl | rw [tryL_m n, tellMore_m]

def S_X8_nextTurns_7  : Nat → Int → zG → Int × zG
  | 0, lw, σ => (lw, σ)
  | n + 1, lw, σ => if lw < 0 then (lw, σ) else (if (σ 95 lw) ≤ (σ 95 (lw + 1)) then (lw, σ) else (S_X8_nextTurns_7  n (lw + (-1)) σ))
theorem fr_S_X8_nextTurns_7   (n : Nat) (lw : Int) (σ : zG) {k : Nat} (h : k ∉ []) : (S_X8_nextTurns_7  n lw σ).2 k = σ k := by
  induction n generalizing lw σ with
  | zero => rfl
  | succ n ih =>
    have ne : ∀ c ∈ [], k ≠ c := fun c hc e => h (e ▸ hc)
    rw [S_X8_nextTurns_7]
    repeat' split
    all_goals first | rfl | simp only [ih]

set_option maxRecDepth 20000 in
theorem seg_X8_nextTurns_7   : ∀ (n : Nat) (lw : Int) (σ : zG) (X : zX), -1 ≤ lw ∧ lw ≤ σ 91 0 - 2 ∧ σ 91 0 ≤ 5 → (lw + 1).toNat < n → ((-1 ≤ ((S_X8_nextTurns_7  n lw σ).1) ∧ ((S_X8_nextTurns_7  n lw σ).1) ≤ ((S_X8_nextTurns_7  n lw σ).2) 91 0 - 2 ∧ ((S_X8_nextTurns_7  n lw σ).2) 91 0 ≤ 5) → zRx none 1 m_X8_nextTurns SC 34 [(0, zP 91), (1, .inl ((S_X8_nextTurns_7  n lw σ).1))] [] ((S_X8_nextTurns_7  n lw σ).2) X) → zRx none 1 m_X8_nextTurns SC 7 [(0, zP 91), (1, .inl lw)] [] σ X := by
  intro n
  induction n with
  | zero => intro lw σ X h0 hmz; exact absurd hmz (Nat.not_lt_zero _)
  | succ n ih =>
    intro lw σ X h0 hmz K
    refine zRx.iload_n 1 rfl rfl dX8_nextTurns_7 ?_
    refine zRx.if_lt (tgt := 34) dX8_nextTurns_8 (by decide) (fun c8 => ?_) (fun c8 => ?_)
    · have he : S_X8_nextTurns_7  (n + 1) lw σ = (lw, σ) := by rw [S_X8_nextTurns_7, if_pos c8]
      rw [he] at K
      exact K h0
    · refine zRx.aload_n 0 rfl rfl dX8_nextTurns_11 ?_
      refine zRx.getR (a := 91) (b := 95) fl_8_21 rfl rfl dX8_nextTurns_12 ?_
      refine zRx.iload_n 1 rfl rfl dX8_nextTurns_15 ?_
      refine zRx.ialdv (v := σ 95 lw) rfl rfl (by omega) (by omega) dX8_nextTurns_16 ?_
      refine zRx.aload_n 0 rfl rfl dX8_nextTurns_17 ?_
      refine zRx.getR (a := 91) (b := 95) fl_8_21 rfl rfl dX8_nextTurns_18 ?_
      refine zRx.iload_n 1 rfl rfl dX8_nextTurns_21 ?_
      refine zRx.iconst ⟨by decide, by decide⟩ dX8_nextTurns_22 ?_
      refine zRx.iadd ⟨by omega, by omega⟩ dX8_nextTurns_23 ?_
      refine zRx.ialdv (v := σ 95 (lw + 1)) rfl rfl (by omega) (by omega) dX8_nextTurns_24 ?_
      refine zRx.icmp_le (tgt := 34) dX8_nextTurns_25 (by decide) (fun c25 => ?_) (fun c25 => ?_)
      · have he : S_X8_nextTurns_7  (n + 1) lw σ = (lw, σ) := by rw [S_X8_nextTurns_7, if_neg (Int.not_lt.mpr c8), if_pos c25]
        rw [he] at K
        exact K h0
      · refine zRx.iinc (n := -1) (ls' := [(0, zP 91), (1, .inl (lw + (-1)))]) 1 rfl ⟨by omega, by omega⟩ rfl (by decide) dX8_nextTurns_28 ?_
        refine zRx.goto (tgt := 7) dX8_nextTurns_31 (by decide) ?_
        have he : S_X8_nextTurns_7  (n + 1) lw σ = S_X8_nextTurns_7  n (lw + (-1)) σ := by rw [S_X8_nextTurns_7, if_neg (Int.not_lt.mpr c8), if_neg (Int.not_le.mpr c25)]
        rw [he] at K
        exact ih (lw + (-1)) σ _ (by omega) (by omega) K
def S_X8_nextTurns_47  (lw : Int) : Nat → Int → zG → Int × zG
  | 0, hg, σ => (hg, σ)
  | n + 1, hg, σ => if hg ≤ lw then (hg, σ) else (if (σ 95 lw) ≤ (σ 95 hg) then (hg, σ) else (S_X8_nextTurns_47  lw n (hg + (-1)) σ))
theorem fr_S_X8_nextTurns_47  (lw : Int)  (n : Nat) (hg : Int) (σ : zG) {k : Nat} (h : k ∉ []) : (S_X8_nextTurns_47  lw n hg σ).2 k = σ k := by
  induction n generalizing hg σ with
  | zero => rfl
  | succ n ih =>
    have ne : ∀ c ∈ [], k ≠ c := fun c hc e => h (e ▸ hc)
    rw [S_X8_nextTurns_47]
    repeat' split
    all_goals first | rfl | simp only [ih]

set_option maxRecDepth 20000 in
theorem seg_X8_nextTurns_47   (lw : Int) : ∀ (n : Nat) (hg : Int) (σ : zG) (X : zX), 0 ≤ lw ∧ lw ≤ hg ∧ hg < σ 91 0 ∧ σ 91 0 ≤ 5 → (hg - lw).toNat < n → ((0 ≤ lw ∧ lw ≤ ((S_X8_nextTurns_47  lw n hg σ).1) ∧ ((S_X8_nextTurns_47  lw n hg σ).1) < ((S_X8_nextTurns_47  lw n hg σ).2) 91 0 ∧ ((S_X8_nextTurns_47  lw n hg σ).2) 91 0 ≤ 5) → zRx none 1 m_X8_nextTurns SC 73 [(0, zP 91), (1, .inl lw), (2, .inl ((S_X8_nextTurns_47  lw n hg σ).1))] [] ((S_X8_nextTurns_47  lw n hg σ).2) X) → zRx none 1 m_X8_nextTurns SC 47 [(0, zP 91), (1, .inl lw), (2, .inl hg)] [] σ X := by
  intro n
  induction n with
  | zero => intro hg σ X h0 hmz; exact absurd hmz (Nat.not_lt_zero _)
  | succ n ih =>
    intro hg σ X h0 hmz K
    refine zRx.iload_n 2 rfl rfl dX8_nextTurns_47 ?_
    refine zRx.iload_n 1 rfl rfl dX8_nextTurns_48 ?_
    refine zRx.icmp_le (tgt := 73) dX8_nextTurns_49 (by decide) (fun c49 => ?_) (fun c49 => ?_)
    · have he : S_X8_nextTurns_47  lw (n + 1) hg σ = (hg, σ) := by rw [S_X8_nextTurns_47, if_pos c49]
      rw [he] at K
      exact K h0
    · refine zRx.aload_n 0 rfl rfl dX8_nextTurns_52 ?_
      refine zRx.getR (a := 91) (b := 95) fl_8_21 rfl rfl dX8_nextTurns_53 ?_
      refine zRx.iload_n 2 rfl rfl dX8_nextTurns_56 ?_
      refine zRx.ialdv (v := σ 95 hg) rfl rfl (by omega) (by omega) dX8_nextTurns_57 ?_
      refine zRx.aload_n 0 rfl rfl dX8_nextTurns_58 ?_
      refine zRx.getR (a := 91) (b := 95) fl_8_21 rfl rfl dX8_nextTurns_59 ?_
      refine zRx.iload_n 1 rfl rfl dX8_nextTurns_62 ?_
      refine zRx.ialdv (v := σ 95 lw) rfl rfl (by omega) (by omega) dX8_nextTurns_63 ?_
      refine zRx.icmp_ge (tgt := 73) dX8_nextTurns_64 (by decide) (fun c64 => ?_) (fun c64 => ?_)
      · have he : S_X8_nextTurns_47  lw (n + 1) hg σ = (hg, σ) := by rw [S_X8_nextTurns_47, if_neg (Int.not_le.mpr c49), if_pos c64]
        rw [he] at K
        exact K h0
      · refine zRx.iinc (n := -1) (ls' := [(0, zP 91), (1, .inl lw), (2, .inl (hg + (-1)))]) 2 rfl ⟨by omega, by omega⟩ rfl (by decide) dX8_nextTurns_67 ?_
        refine zRx.goto (tgt := 47) dX8_nextTurns_70 (by decide) ?_
        have he : S_X8_nextTurns_47  lw (n + 1) hg σ = S_X8_nextTurns_47  lw n (hg + (-1)) σ := by rw [S_X8_nextTurns_47, if_neg (Int.not_le.mpr c49), if_neg (Int.not_le.mpr c64)]
        rw [he] at K
        exact ih (hg + (-1)) σ _ (by omega) (by omega) K
def L_X8_nextTurns_91  : Nat → Int → Int → zG → Int × zG
  | 0, _, _, σ => (0, σ)
  | n + 1, a, b, σ => if b ≤ a then (1, σ) else (L_X8_nextTurns_91  n (a + 1) (b + (-1)) (F_X8_swap σ a b))
theorem fr_L_X8_nextTurns_91   (n : Nat) (a b : Int) (σ : zG) {k : Nat} (h : k ∉ [95]) : (L_X8_nextTurns_91  n a b σ).2 k = σ k := by
  induction n generalizing a b σ with
  | zero => rfl
  | succ n ih =>
    have ne : ∀ c ∈ [95], k ≠ c := fun c hc e => h (e ▸ hc)
    have nk_F_X8_swap : k ∉ [95] := fun hm => h (by first | (revert hm; simp only [List.mem_cons, List.not_mem_nil, or_false]; omega) | (simp at hm))
    rw [L_X8_nextTurns_91]
    repeat' split
    all_goals first | rfl | simp only [zu_row _ _ _ (ne 95 (by decide)), fr_F_X8_swap (h := nk_F_X8_swap), ih]

set_option maxRecDepth 20000 in
theorem loop_X8_nextTurns_91   (lw hg : Int) : ∀ (n : Nat) (a b : Int) (σ : zG), 0 ≤ a ∧ b < 5 → (b - a).toNat < n → zR SC 1 m_X8_nextTurns 91 [(0, zP 91), (1, .inl lw), (2, .inl hg), (3, .inl a), (4, .inl b)] [] σ (zEq (some (.inl (L_X8_nextTurns_91  n a b σ).1)) (L_X8_nextTurns_91  n a b σ).2) := by
  intro n
  induction n with
  | zero => intro a b σ h0 hmz; exact absurd hmz (Nat.not_lt_zero _)
  | succ n ih =>
    intro a b σ h0 hmz
    refine zRx.iload_n 3 rfl rfl dX8_nextTurns_91 ?_
    refine zRx.iload 4 rfl dX8_nextTurns_92 ?_
    refine zRx.icmp_ge (tgt := 113) dX8_nextTurns_94 (by decide) (fun c94 => ?_) (fun c94 => ?_)
    · refine zRx.iconst ⟨by decide, by decide⟩ dX8_nextTurns_113 ?_
      exact zR.zret rfl ⟨by decide, by decide⟩ dX8_nextTurns_114 (by have he : L_X8_nextTurns_91  (n + 1) a b σ = (1, σ) := (by rw [L_X8_nextTurns_91, if_pos c94]); rw [he]; exact ⟨rfl, rfl⟩)
    · refine zRx.aload_n 0 rfl rfl dX8_nextTurns_97 ?_
      refine zRx.iload_n 3 rfl rfl dX8_nextTurns_98 ?_
      refine zRx.iload 4 rfl dX8_nextTurns_99 ?_
      refine zRx.cVv (M := m_X8_swap) (av := [.inl a, .inl b]) cv_8_83 mk_X8_swap (by decide) (b := 91) rfl rfl (Nat.le_of_ble_eq_true rfl) dX8_nextTurns_101 (does_X8_swap σ a b (by omega) (by omega)) ?_
      refine zRx.iinc (n := 1) (ls' := [(0, zP 91), (1, .inl lw), (2, .inl hg), (3, .inl (a + 1)), (4, .inl b)]) 3 rfl ⟨by omega, by omega⟩ rfl (by decide) dX8_nextTurns_104 ?_
      refine zRx.iinc (n := -1) (ls' := [(0, zP 91), (1, .inl lw), (2, .inl hg), (3, .inl (a + 1)), (4, .inl (b + (-1)))]) 4 rfl ⟨by omega, by omega⟩ rfl (by decide) dX8_nextTurns_107 ?_
      refine zRx.goto (tgt := 91) dX8_nextTurns_110 (by decide) ?_
      have he : L_X8_nextTurns_91  (n + 1) a b σ = L_X8_nextTurns_91  n (a + 1) (b + (-1)) (F_X8_swap σ a b) := by rw [L_X8_nextTurns_91, if_neg (Int.not_le.mpr c94)]
      rw [he]
      exact ih (a + 1) (b + (-1)) (F_X8_swap σ a b) (by omega) (by omega)
def R_X8_nextTurns (σ : zG)  : Int × zG := if 0 ≤ ((S_X8_nextTurns_7  10 ((σ 91 0) - 2) σ).1) then (L_X8_nextTurns_91  10 (((S_X8_nextTurns_7  10 ((σ 91 0) - 2) σ).1) + 1) ((σ 91 0) - 1) (F_X8_swap ((S_X8_nextTurns_47  ((S_X8_nextTurns_7  10 ((σ 91 0) - 2) σ).1) 10 ((σ 91 0) - 1) ((S_X8_nextTurns_7  10 ((σ 91 0) - 2) σ).2)).2) ((S_X8_nextTurns_7  10 ((σ 91 0) - 2) σ).1) ((S_X8_nextTurns_47  ((S_X8_nextTurns_7  10 ((σ 91 0) - 2) σ).1) 10 ((σ 91 0) - 1) ((S_X8_nextTurns_7  10 ((σ 91 0) - 2) σ).2)).1))) else (0, (S_X8_nextTurns_7  10 ((σ 91 0) - 2) σ).2)
theorem fr_R_X8_nextTurns (σ : zG)  {k : Nat} (h : k ∉ [95]) : (R_X8_nextTurns σ ).2 k = σ k := by
  have ne : ∀ c ∈ [95], k ≠ c := fun c hc e => h (e ▸ hc)
  have nk_F_X8_swap : k ∉ [95] := fun hm => h (by first | (revert hm; simp only [List.mem_cons, List.not_mem_nil, or_false]; omega) | (simp at hm))
  have nk_S_X8_nextTurns_47 : k ∉ [] := fun hm => h (by first | (revert hm; simp only [List.mem_cons, List.not_mem_nil, or_false]; omega) | (simp at hm))
  have nk_S_X8_nextTurns_7 : k ∉ [] := fun hm => h (by first | (revert hm; simp only [List.mem_cons, List.not_mem_nil, or_false]; omega) | (simp at hm))
  have nl_S_X8_nextTurns_7 : k ∉ [] := fun hm => h (by first | (revert hm; simp only [List.mem_cons, List.not_mem_nil, or_false]; omega) | (simp at hm))
  have nl_S_X8_nextTurns_47 : k ∉ [] := fun hm => h (by first | (revert hm; simp only [List.mem_cons, List.not_mem_nil, or_false]; omega) | (simp at hm))
  have nl_L_X8_nextTurns_91 : k ∉ [95] := fun hm => h (by first | (revert hm; simp only [List.mem_cons, List.not_mem_nil, or_false]; omega) | (simp at hm))
  unfold R_X8_nextTurns
  repeat' split
  all_goals first | rfl | simp only [zu_row _ _ _ (ne 95 (by decide)), fr_F_X8_swap (h := nk_F_X8_swap), fr_S_X8_nextTurns_47 (h := nk_S_X8_nextTurns_47), fr_S_X8_nextTurns_7 (h := nk_S_X8_nextTurns_7), fr_S_X8_nextTurns_7 (h := nl_S_X8_nextTurns_7), fr_S_X8_nextTurns_47 (h := nl_S_X8_nextTurns_47), fr_L_X8_nextTurns_91 (h := nl_L_X8_nextTurns_91)]

set_option maxRecDepth 20000 in
theorem does_X8_nextTurns (σ : zG)  (hM : 1 ≤ σ 91 0 ∧ σ 91 0 ≤ 5)  : zDo SC 1 m_X8_nextTurns [zP 91] σ (zEq (some (.inl (R_X8_nextTurns σ ).1)) (R_X8_nextTurns σ ).2) := by
  refine zDo.intro mk_X8_nextTurns (Nat.le_of_ble_eq_true rfl) ?_
  refine zRx.aload_n 0 rfl rfl dX8_nextTurns_0 ?_
  refine zRx.getIv (a := 91) (ji := 0) (v := σ 91 0) rfl fl_8_33 rfl rfl rfl dX8_nextTurns_1 ?_
  refine zRx.iconst ⟨by decide, by decide⟩ dX8_nextTurns_4 ?_
  refine zRx.isub ⟨by omega, by omega⟩ dX8_nextTurns_5 ?_
  refine zRx.istore_n (ls' := [(0, zP 91), (1, .inl ((σ 91 0) - 2))]) rfl rfl (by decide) dX8_nextTurns_6 ?_
  refine seg_X8_nextTurns_7    10 ((σ 91 0) - 2) σ _ (by omega) (by omega) ?_
  intro x7_h0
  refine zRx.iload_n 1 rfl rfl dX8_nextTurns_34 ?_
  refine zRx.if_ge (tgt := 40) dX8_nextTurns_35 (by decide) (fun c35 => ?_) (fun c35 => ?_)
  · have e40 : ((S_X8_nextTurns_7  10 ((σ 91 0) - 2) σ).2) 91 0 = σ 91 0 := (congrFun (fr_S_X8_nextTurns_7   10 ((σ 91 0) - 2) σ (k := 91) (by decide)) _)
    refine zRx.aload_n 0 rfl rfl dX8_nextTurns_40 ?_
    refine zRx.getIv (a := 91) (ji := 0) (v := σ 91 0) (congrFun (fr_S_X8_nextTurns_7   10 ((σ 91 0) - 2) σ (k := 91) (by decide)) _) fl_8_33 rfl rfl rfl dX8_nextTurns_41 ?_
    refine zRx.iconst ⟨by decide, by decide⟩ dX8_nextTurns_44 ?_
    refine zRx.isub ⟨by omega, by omega⟩ dX8_nextTurns_45 ?_
    refine zRx.istore_n (ls' := [(0, zP 91), (1, .inl ((S_X8_nextTurns_7  10 ((σ 91 0) - 2) σ).1)), (2, .inl ((σ 91 0) - 1))]) rfl rfl (by decide) dX8_nextTurns_46 ?_
    refine seg_X8_nextTurns_47   ((S_X8_nextTurns_7  10 ((σ 91 0) - 2) σ).1) 10 ((σ 91 0) - 1) ((S_X8_nextTurns_7  10 ((σ 91 0) - 2) σ).2) _ (by omega) (by omega) ?_
    intro x47_h0
    have e73 : ((S_X8_nextTurns_47  ((S_X8_nextTurns_7  10 ((σ 91 0) - 2) σ).1) 10 ((σ 91 0) - 1) ((S_X8_nextTurns_7  10 ((σ 91 0) - 2) σ).2)).2) 91 0 = σ 91 0 := ((congrFun (fr_S_X8_nextTurns_47  ((S_X8_nextTurns_7  10 ((σ 91 0) - 2) σ).1) 10 ((σ 91 0) - 1) ((S_X8_nextTurns_7  10 ((σ 91 0) - 2) σ).2) (k := 91) (by decide)) _).trans (congrFun (fr_S_X8_nextTurns_7   10 ((σ 91 0) - 2) σ (k := 91) (by decide)) _))
    refine zRx.aload_n 0 rfl rfl dX8_nextTurns_73 ?_
    refine zRx.iload_n 1 rfl rfl dX8_nextTurns_74 ?_
    refine zRx.iload_n 2 rfl rfl dX8_nextTurns_75 ?_
    refine zRx.cVv (M := m_X8_swap) (av := [.inl ((S_X8_nextTurns_7  10 ((σ 91 0) - 2) σ).1), .inl ((S_X8_nextTurns_47  ((S_X8_nextTurns_7  10 ((σ 91 0) - 2) σ).1) 10 ((σ 91 0) - 1) ((S_X8_nextTurns_7  10 ((σ 91 0) - 2) σ).2)).1)]) cv_8_83 mk_X8_swap (by decide) (b := 91) rfl rfl (Nat.le_of_ble_eq_true rfl) dX8_nextTurns_76 (does_X8_swap ((S_X8_nextTurns_47  ((S_X8_nextTurns_7  10 ((σ 91 0) - 2) σ).1) 10 ((σ 91 0) - 1) ((S_X8_nextTurns_7  10 ((σ 91 0) - 2) σ).2)).2) ((S_X8_nextTurns_7  10 ((σ 91 0) - 2) σ).1) ((S_X8_nextTurns_47  ((S_X8_nextTurns_7  10 ((σ 91 0) - 2) σ).1) 10 ((σ 91 0) - 1) ((S_X8_nextTurns_7  10 ((σ 91 0) - 2) σ).2)).1) (by omega) (by omega)) ?_
    refine zRx.iload_n 1 rfl rfl dX8_nextTurns_79 ?_
    refine zRx.iconst ⟨by decide, by decide⟩ dX8_nextTurns_80 ?_
    refine zRx.iadd ⟨by omega, by omega⟩ dX8_nextTurns_81 ?_
    refine zRx.istore_n (ls' := [(0, zP 91), (1, .inl ((S_X8_nextTurns_7  10 ((σ 91 0) - 2) σ).1)), (2, .inl ((S_X8_nextTurns_47  ((S_X8_nextTurns_7  10 ((σ 91 0) - 2) σ).1) 10 ((σ 91 0) - 1) ((S_X8_nextTurns_7  10 ((σ 91 0) - 2) σ).2)).1)), (3, .inl (((S_X8_nextTurns_7  10 ((σ 91 0) - 2) σ).1) + 1))]) rfl rfl (by decide) dX8_nextTurns_82 ?_
    refine zRx.aload_n 0 rfl rfl dX8_nextTurns_83 ?_
    refine zRx.getIv (a := 91) (ji := 0) (v := σ 91 0) ((congrFun (fr_F_X8_swap ((S_X8_nextTurns_47  ((S_X8_nextTurns_7  10 ((σ 91 0) - 2) σ).1) 10 ((σ 91 0) - 1) ((S_X8_nextTurns_7  10 ((σ 91 0) - 2) σ).2)).2) ((S_X8_nextTurns_7  10 ((σ 91 0) - 2) σ).1) ((S_X8_nextTurns_47  ((S_X8_nextTurns_7  10 ((σ 91 0) - 2) σ).1) 10 ((σ 91 0) - 1) ((S_X8_nextTurns_7  10 ((σ 91 0) - 2) σ).2)).1) (k := 91) (by decide)) _).trans ((congrFun (fr_S_X8_nextTurns_47  ((S_X8_nextTurns_7  10 ((σ 91 0) - 2) σ).1) 10 ((σ 91 0) - 1) ((S_X8_nextTurns_7  10 ((σ 91 0) - 2) σ).2) (k := 91) (by decide)) _).trans (congrFun (fr_S_X8_nextTurns_7   10 ((σ 91 0) - 2) σ (k := 91) (by decide)) _))) fl_8_33 rfl rfl rfl dX8_nextTurns_84 ?_
    refine zRx.iconst ⟨by decide, by decide⟩ dX8_nextTurns_87 ?_
    refine zRx.isub ⟨by omega, by omega⟩ dX8_nextTurns_88 ?_
    refine zRx.istore (ls' := [(0, zP 91), (1, .inl ((S_X8_nextTurns_7  10 ((σ 91 0) - 2) σ).1)), (2, .inl ((S_X8_nextTurns_47  ((S_X8_nextTurns_7  10 ((σ 91 0) - 2) σ).1) 10 ((σ 91 0) - 1) ((S_X8_nextTurns_7  10 ((σ 91 0) - 2) σ).2)).1)), (3, .inl (((S_X8_nextTurns_7  10 ((σ 91 0) - 2) σ).1) + 1)), (4, .inl ((σ 91 0) - 1))]) rfl (by decide) dX8_nextTurns_89 ?_
    have he : R_X8_nextTurns σ  = L_X8_nextTurns_91  10 (((S_X8_nextTurns_7  10 ((σ 91 0) - 2) σ).1) + 1) ((σ 91 0) - 1) (F_X8_swap ((S_X8_nextTurns_47  ((S_X8_nextTurns_7  10 ((σ 91 0) - 2) σ).1) 10 ((σ 91 0) - 1) ((S_X8_nextTurns_7  10 ((σ 91 0) - 2) σ).2)).2) ((S_X8_nextTurns_7  10 ((σ 91 0) - 2) σ).1) ((S_X8_nextTurns_47  ((S_X8_nextTurns_7  10 ((σ 91 0) - 2) σ).1) 10 ((σ 91 0) - 1) ((S_X8_nextTurns_7  10 ((σ 91 0) - 2) σ).2)).1)) := by rw [R_X8_nextTurns, if_pos c35]
    rw [he]
    exact loop_X8_nextTurns_91   ((S_X8_nextTurns_7  10 ((σ 91 0) - 2) σ).1) ((S_X8_nextTurns_47  ((S_X8_nextTurns_7  10 ((σ 91 0) - 2) σ).1) 10 ((σ 91 0) - 1) ((S_X8_nextTurns_7  10 ((σ 91 0) - 2) σ).2)).1) 10 (((S_X8_nextTurns_7  10 ((σ 91 0) - 2) σ).1) + 1) ((σ 91 0) - 1) (F_X8_swap ((S_X8_nextTurns_47  ((S_X8_nextTurns_7  10 ((σ 91 0) - 2) σ).1) 10 ((σ 91 0) - 1) ((S_X8_nextTurns_7  10 ((σ 91 0) - 2) σ).2)).2) ((S_X8_nextTurns_7  10 ((σ 91 0) - 2) σ).1) ((S_X8_nextTurns_47  ((S_X8_nextTurns_7  10 ((σ 91 0) - 2) σ).1) 10 ((σ 91 0) - 1) ((S_X8_nextTurns_7  10 ((σ 91 0) - 2) σ).2)).1)) (by omega) (by omega)
  · refine zRx.iconst ⟨by decide, by decide⟩ dX8_nextTurns_38 ?_
    exact zR.zret rfl ⟨by decide, by decide⟩ dX8_nextTurns_39 (by have he : R_X8_nextTurns σ  = (0, (S_X8_nextTurns_7  10 ((σ 91 0) - 2) σ).2) := (by rw [R_X8_nextTurns, if_neg (Int.not_le.mpr c35)]); rw [he]; exact ⟨rfl, rfl⟩)

