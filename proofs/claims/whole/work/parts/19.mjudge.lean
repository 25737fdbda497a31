/-! the reference: the book judged -/
def pcn (x : Int) : Int := L_X12_many_4 (fun _ _ => 0) 0 70000 0 x
theorem many_free (σ : zG) (x : Int) : ∀ (n : Nat) (c v : Int), L_X12_many_4 σ x n c v = L_X12_many_4 (fun _ _ => 0) 0 n c v
  | 0, c, v => rfl
  | n + 1, c, v => by
    rw [L_X12_many_4, L_X12_many_4]
    split
    · rfl
    · exact many_free σ x n _ _
theorem many_pcn (σ : zG) (x : Int) : R_X12_many σ x = pcn x := many_free σ x _ _ _
theorem many_ge (σ : zG) (x : Int) : ∀ (n : Nat) (c v : Int), 0 ≤ c → 0 ≤ L_X12_many_4 σ x n c v
  | 0, c, v, h => Int.le_refl _
  | n + 1, c, v, h => by
    rw [L_X12_many_4]
    split
    · exact h
    · exact many_ge σ x n _ _ (by omega)
theorem pcn_0 (x : Int) : 0 ≤ pcn x := many_ge _ _ _ _ _ (by decide)
def ML (s : Int → Int) (i : Int) : Prop := s (173 + (5 * i)) ≠ 0 → (0 ≤ s ((173 + (5 * i)) + 1) ∧ s ((173 + (5 * i)) + 1) < 8) ∧ (0 ≤ s ((173 + (5 * i)) + 2) ∧ s ((173 + (5 * i)) + 2) < 8) ∧ (0 ≤ s ((173 + (5 * i)) + 3) ∧ s ((173 + (5 * i)) + 3) < 12) ∧ (s (173 + (5 * i)) = 1 → (0 ≤ s ((173 + (5 * i)) + 4) ∧ s ((173 + (5 * i)) + 4) < 256) ∧ pcn (s ((173 + (5 * i)) + 4)) ≤ 6) ∧ (0 ≤ s ((8 + (3 * s ((173 + (5 * i)) + 3))) + 2) ∧ s ((8 + (3 * s ((173 + (5 * i)) + 3))) + 2) < 8) ∧ s ((173 + (5 * i)) + 1) ≠ s ((173 + (5 * i)) + 2)
def MK (σ : zG) : Prop := ∀ a : Int, 0 ≤ a → a < 8 → 0 ≤ σ 11 a ∧ σ 11 a < 4096
theorem mowes_many (σ : zG) (who to f kn li : Int) : F_X12_owes σ who to f kn li 0 43 = if kn = 0 then σ 0 43 else σ 0 43 + 1 := by
  unfold F_X12_owes
  split
  · rfl
  · simp [zu]
theorem mowes_m (σ : zG) (who to f kn li : Int) : σ 0 43 ≤ F_X12_owes σ who to f kn li 0 43 ∧ F_X12_owes σ who to f kn li 0 43 ≤ σ 0 43 + 1 := by
  rw [mowes_many]
  split <;> omega

def L_X12_does_146 (i : Int) (to f nn ea : Int) : Nat → Int → zG → Int × zG
  | 0, _, σ => (0, σ)
  | n + 1, q, σ => if nn ≤ (q + 1) then (0, σ) else (L_X12_does_146 i to f nn ea n (q + 1) (F_X12_owes σ (band (bshr (σ 9 i) (3 * q)) 7) to f ea i))
theorem fr_L_X12_does_146 (i : Int) (to f nn ea : Int)  (n : Nat) (q : Int) (σ : zG) {k : Nat} (h : k ∉ [0, 16, 17, 18, 19, 20, 21, 22, 23, 24, 25]) : (L_X12_does_146 i to f nn ea n q σ).2 k = σ k := by
  induction n generalizing q σ with
  | zero => rfl
  | succ n ih =>
    have ne : ∀ c ∈ [0, 16, 17, 18, 19, 20, 21, 22, 23, 24, 25], k ≠ c := fun c hc e => h (e ▸ hc)
    have nk_F_X12_owes : k ∉ [0, 16, 17, 18, 19, 20, 21, 22, 23, 24, 25] := fun hm => h (by revert hm; simp only [List.mem_cons, List.not_mem_nil, or_false]; omega)
    rw [L_X12_does_146]
    repeat' split
    all_goals first | rfl | simp only [zu_row _ _ _ (ne 0 (by decide)), zu_row _ _ _ (ne 16 (by decide)), zu_row _ _ _ (ne 17 (by decide)), zu_row _ _ _ (ne 18 (by decide)), zu_row _ _ _ (ne 19 (by decide)), zu_row _ _ _ (ne 20 (by decide)), zu_row _ _ _ (ne 21 (by decide)), zu_row _ _ _ (ne 22 (by decide)), zu_row _ _ _ (ne 23 (by decide)), zu_row _ _ _ (ne 24 (by decide)), zu_row _ _ _ (ne 25 (by decide)), fr_F_X12_owes (h := nk_F_X12_owes), ih]

set_option maxRecDepth 20000 in
theorem loop_X12_does_146 (i : Int) (hi : 0 ≤ i ∧ i < 60) (x2 x3 x4 to f x7 x8 x9 nn ea : Int) : ∀ (n : Nat) (q : Int) (σ : zG), 0 ≤ q ∧ q ≤ 10 → 0 ≤ σ 0 43 ∧ σ 0 43 + 6 - q ≤ 420 → nn ≤ 7 → (8 - q).toNat < n → zR SM 4 m_X12_does 146 [(0, zP 0), (1, .inl i), (2, .inl x2), (3, .inl x3), (4, .inl x4), (5, .inl to), (6, .inl f), (7, .inl x7), (8, .inl x8), (9, .inl x9), (10, .inl nn), (11, .inl ea), (12, .inl q)] [] σ (zEq (some (.inl (L_X12_does_146 i to f nn ea n q σ).1)) (L_X12_does_146 i to f nn ea n q σ).2) := by
  intro n
  induction n with
  | zero => intro q σ h0 hm hn hmz; exact absurd hmz (Nat.not_lt_zero _)
  | succ n ih =>
    intro q σ h0 hm hn hmz
    refine zRx.iload 12 rfl dX12_does_146 ?_
    refine zRx.iconst ⟨by decide, by decide⟩ dX12_does_148 ?_
    refine zRx.iadd ⟨by omega, by omega⟩ dX12_does_149 ?_
    refine zRx.iload 10 rfl dX12_does_150 ?_
    refine zRx.icmp_ge (tgt := 186) dX12_does_152 (by decide) (fun c152 => ?_) (fun c152 => ?_)
    · refine zRx.goto (tgt := 285) dX12_does_186 (by decide) ?_
      refine zRx.iconst ⟨by decide, by decide⟩ dX12_does_285 ?_
      exact zR.iret rfl dX12_does_286 (by have he : L_X12_does_146 i to f nn ea (n + 1) q σ = (0, σ) := (by rw [L_X12_does_146, if_pos c152]); rw [he]; exact ⟨rfl, rfl⟩)
    · refine zRx.aload_n 0 rfl rfl dX12_does_155 ?_
      refine zRx.aload_n 0 rfl rfl dX12_does_156 ?_
      refine zRx.getR (a := 0) (b := 9) fl_12_56 rfl rfl dX12_does_157 ?_
      refine zRx.iload_n 1 rfl rfl dX12_does_160 ?_
      refine zRx.ialdv (v := σ 9 i) rfl rfl (by omega) (by omega) dX12_does_161 ?_
      refine zRx.iconst ⟨by decide, by decide⟩ dX12_does_162 ?_
      refine zRx.iload 12 rfl dX12_does_163 ?_
      refine zRx.imul ⟨by omega, by omega⟩ dX12_does_165 ?_
      refine zRx.ishr dX12_does_166 ?_
      refine zRx.bipush ⟨by decide, by decide⟩ rfl dX12_does_167 ?_
      refine zRx.iand dX12_does_169 ?_
      refine zRx.iload 5 rfl dX12_does_170 ?_
      refine zRx.iload 6 rfl dX12_does_172 ?_
      refine zRx.iload 11 rfl dX12_does_174 ?_
      refine zRx.iload_n 1 rfl rfl dX12_does_176 ?_
      refine zRx.cVv (M := m_X12_owes) (av := [.inl (band (bshr (σ 9 i) (3 * q)) 7), .inl to, .inl f, .inl ea, .inl i]) cv_12_383 mk_X12_owes (by decide) (b := 0) rfl rfl (Nat.le_of_ble_eq_true rfl) dX12_does_177 (does_X12_owes σ (band (bshr (σ 9 i) (3 * q)) 7) to f ea i (by omega)) ?_
      refine zRx.iinc (n := 1) (ls' := [(0, zP 0), (1, .inl i), (2, .inl x2), (3, .inl x3), (4, .inl x4), (5, .inl to), (6, .inl f), (7, .inl x7), (8, .inl x8), (9, .inl x9), (10, .inl nn), (11, .inl ea), (12, .inl (q + 1))]) 12 rfl ⟨by omega, by omega⟩ rfl (by decide) dX12_does_180 ?_
      refine zRx.goto (tgt := 146) dX12_does_183 (by decide) ?_
      have he : L_X12_does_146 i to f nn ea (n + 1) q σ = L_X12_does_146 i to f nn ea n (q + 1) (F_X12_owes σ (band (bshr (σ 9 i) (3 * q)) 7) to f ea i) := by rw [L_X12_does_146, if_neg (Int.not_le.mpr c152)]
      rw [he]
      exact ih (q + 1) (F_X12_owes σ (band (bshr (σ 9 i) (3 * q)) 7) to f ea i) (by omega) (by have := mowes_m σ (band (bshr (σ 9 i) (3 * q)) 7) to f ea i; omega) hn (by omega)
def R_X12_does (σ : zG) (i : Int) : Int × zG := if (σ 2 (173 + (5 * i))) = 0 then (0, zu σ 0 44 (σ 2 ((173 + (5 * i)) + 1))) else (if (R_X12_whyOf σ (σ 2 (173 + (5 * i))) (σ 2 ((173 + (5 * i)) + 1)) (σ 2 ((173 + (5 * i)) + 2)) (σ 2 ((173 + (5 * i)) + 3)) (σ 2 ((173 + (5 * i)) + 4))) ≤ 0 then (if (σ 2 (173 + (5 * i))) = 1 then (L_X12_does_146 i (σ 2 ((173 + (5 * i)) + 2)) (σ 2 ((173 + (5 * i)) + 3)) (1 + (R_X12_many σ (σ 2 ((173 + (5 * i)) + 4)))) (Int.tdiv (w32 ((w32 ((σ 2 (8 + (3 * (σ 2 ((173 + (5 * i)) + 3))))) + (1 + (R_X12_many σ (σ 2 ((173 + (5 * i)) + 4)))))) - 1)) (1 + (R_X12_many σ (σ 2 ((173 + (5 * i)) + 4))))) 10 0 (F_X12_owes σ (σ 2 ((173 + (5 * i)) + 1)) (σ 2 ((173 + (5 * i)) + 2)) (σ 2 ((173 + (5 * i)) + 3)) (Int.tdiv (w32 ((w32 ((σ 2 (8 + (3 * (σ 2 ((173 + (5 * i)) + 3))))) + (1 + (R_X12_many σ (σ 2 ((173 + (5 * i)) + 4)))))) - 1)) (1 + (R_X12_many σ (σ 2 ((173 + (5 * i)) + 4))))) i)) else (if (σ 2 (173 + (5 * i))) = 2 then (0, F_X12_owes σ (σ 2 ((173 + (5 * i)) + 1)) (σ 2 ((173 + (5 * i)) + 2)) (σ 2 ((173 + (5 * i)) + 3)) (upM (σ 2 (8 + (3 * (σ 2 ((173 + (5 * i)) + 3))))) (σ 2 6)) i) else (if (σ 2 (173 + (5 * i))) = 3 then (0, R_X12_tells σ (σ 2 ((173 + (5 * i)) + 1)) (σ 2 ((173 + (5 * i)) + 2)) (σ 2 ((173 + (5 * i)) + 3)) i) else (0, R_X12_learns (zu (zu (zu σ 14 (σ 2 ((173 + (5 * i)) + 1)) (w32 ((σ 14 (σ 2 ((173 + (5 * i)) + 1))) + (σ 2 ((173 + (5 * i)) + 4))))) 14 (σ 2 ((173 + (5 * i)) + 2)) (w32 ((σ 14 (σ 2 ((173 + (5 * i)) + 2))) - (σ 2 ((173 + (5 * i)) + 4))))) 0 45 (bor (σ 0 45) (bshl 1 (σ 2 ((173 + (5 * i)) + 3))))) (σ 2 ((173 + (5 * i)) + 2)) (σ 2 ((173 + (5 * i)) + 3)) i)))) else (R_X12_whyOf σ (σ 2 (173 + (5 * i))) (σ 2 ((173 + (5 * i)) + 1)) (σ 2 ((173 + (5 * i)) + 2)) (σ 2 ((173 + (5 * i)) + 3)) (σ 2 ((173 + (5 * i)) + 4)), σ))
theorem fr_R_X12_does (σ : zG) (i : Int) {k : Nat} (h : k ∉ [0, 11, 12, 13, 14, 16, 17, 18, 19, 20, 21, 22, 23, 24, 25]) : (R_X12_does σ i).2 k = σ k := by
  have ne : ∀ c ∈ [0, 11, 12, 13, 14, 16, 17, 18, 19, 20, 21, 22, 23, 24, 25], k ≠ c := fun c hc e => h (e ▸ hc)
  have nk_F_X12_owes : k ∉ [0, 16, 17, 18, 19, 20, 21, 22, 23, 24, 25] := fun hm => h (by revert hm; simp only [List.mem_cons, List.not_mem_nil, or_false]; omega)
  have nk_R_X12_tells : k ∉ [0, 11, 12, 13, 20, 22, 23, 25] := fun hm => h (by revert hm; simp only [List.mem_cons, List.not_mem_nil, or_false]; omega)
  have nk_R_X12_learns : k ∉ [11, 12, 20, 23] := fun hm => h (by revert hm; simp only [List.mem_cons, List.not_mem_nil, or_false]; omega)
  have nl_L_X12_does_146 : k ∉ [0, 16, 17, 18, 19, 20, 21, 22, 23, 24, 25] := fun hm => h (by revert hm; simp only [List.mem_cons, List.not_mem_nil, or_false]; omega)
  unfold R_X12_does
  repeat' split
  all_goals first | rfl | simp only [zu_row _ _ _ (ne 0 (by decide)), zu_row _ _ _ (ne 11 (by decide)), zu_row _ _ _ (ne 12 (by decide)), zu_row _ _ _ (ne 13 (by decide)), zu_row _ _ _ (ne 14 (by decide)), zu_row _ _ _ (ne 16 (by decide)), zu_row _ _ _ (ne 17 (by decide)), zu_row _ _ _ (ne 18 (by decide)), zu_row _ _ _ (ne 19 (by decide)), zu_row _ _ _ (ne 20 (by decide)), zu_row _ _ _ (ne 21 (by decide)), zu_row _ _ _ (ne 22 (by decide)), zu_row _ _ _ (ne 23 (by decide)), zu_row _ _ _ (ne 24 (by decide)), zu_row _ _ _ (ne 25 (by decide)), fr_F_X12_owes (h := nk_F_X12_owes), fr_R_X12_tells (h := nk_R_X12_tells), fr_R_X12_learns (h := nk_R_X12_learns), fr_L_X12_does_146 (h := nl_L_X12_does_146)]

set_option maxRecDepth 20000 in
theorem does_X12_does (σ : zG) (i : Int) (hi : 0 ≤ i ∧ i < 60) (hk : ML (σ 2) i) (hs : MS (σ 2)) (hKn : MK σ) (hp : σ 2 0 ≤ 8) (hm : 0 ≤ σ 0 43 ∧ σ 0 43 ≤ 413)  : zDo SM 4 m_X12_does [zP 0, .inl i] σ (zEq (some (.inl (R_X12_does σ i).1)) (R_X12_does σ i).2) := by
  refine zDo.intro mk_X12_does (Nat.le_of_ble_eq_true rfl) ?_
  refine zRx.sipush ⟨by decide, by decide⟩ rfl dX12_does_0 ?_
  refine zRx.iconst ⟨by decide, by decide⟩ dX12_does_3 ?_
  refine zRx.iload_n 1 rfl rfl dX12_does_4 ?_
  refine zRx.imul ⟨by omega, by omega⟩ dX12_does_5 ?_
  refine zRx.iadd ⟨by omega, by omega⟩ dX12_does_6 ?_
  refine zRx.istore_n (ls' := [(0, zP 0), (1, .inl i), (2, .inl (173 + (5 * i)))]) rfl rfl (by decide) dX12_does_7 ?_
  refine zRx.aload_n 0 rfl rfl dX12_does_8 ?_
  refine zRx.getR (a := 0) (b := 2) fl_12_33 rfl rfl dX12_does_9 ?_
  refine zRx.iload_n 2 rfl rfl dX12_does_12 ?_
  refine zRx.ialdv (v := σ 2 (173 + (5 * i))) rfl rfl (by omega) (by omega) dX12_does_13 ?_
  refine zRx.istore_n (ls' := [(0, zP 0), (1, .inl i), (2, .inl (173 + (5 * i))), (3, .inl (σ 2 (173 + (5 * i))))]) rfl rfl (by decide) dX12_does_14 ?_
  refine zRx.aload_n 0 rfl rfl dX12_does_15 ?_
  refine zRx.getR (a := 0) (b := 2) fl_12_33 rfl rfl dX12_does_16 ?_
  refine zRx.iload_n 2 rfl rfl dX12_does_19 ?_
  refine zRx.iconst ⟨by decide, by decide⟩ dX12_does_20 ?_
  refine zRx.iadd ⟨by omega, by omega⟩ dX12_does_21 ?_
  refine zRx.ialdv (v := σ 2 ((173 + (5 * i)) + 1)) rfl rfl (by omega) (by omega) dX12_does_22 ?_
  refine zRx.istore (ls' := [(0, zP 0), (1, .inl i), (2, .inl (173 + (5 * i))), (3, .inl (σ 2 (173 + (5 * i)))), (4, .inl (σ 2 ((173 + (5 * i)) + 1)))]) rfl (by decide) dX12_does_23 ?_
  refine zRx.aload_n 0 rfl rfl dX12_does_25 ?_
  refine zRx.getR (a := 0) (b := 2) fl_12_33 rfl rfl dX12_does_26 ?_
  refine zRx.iload_n 2 rfl rfl dX12_does_29 ?_
  refine zRx.iconst ⟨by decide, by decide⟩ dX12_does_30 ?_
  refine zRx.iadd ⟨by omega, by omega⟩ dX12_does_31 ?_
  refine zRx.ialdv (v := σ 2 ((173 + (5 * i)) + 2)) rfl rfl (by omega) (by omega) dX12_does_32 ?_
  refine zRx.istore (ls' := [(0, zP 0), (1, .inl i), (2, .inl (173 + (5 * i))), (3, .inl (σ 2 (173 + (5 * i)))), (4, .inl (σ 2 ((173 + (5 * i)) + 1))), (5, .inl (σ 2 ((173 + (5 * i)) + 2)))]) rfl (by decide) dX12_does_33 ?_
  refine zRx.aload_n 0 rfl rfl dX12_does_35 ?_
  refine zRx.getR (a := 0) (b := 2) fl_12_33 rfl rfl dX12_does_36 ?_
  refine zRx.iload_n 2 rfl rfl dX12_does_39 ?_
  refine zRx.iconst ⟨by decide, by decide⟩ dX12_does_40 ?_
  refine zRx.iadd ⟨by omega, by omega⟩ dX12_does_41 ?_
  refine zRx.ialdv (v := σ 2 ((173 + (5 * i)) + 3)) rfl rfl (by omega) (by omega) dX12_does_42 ?_
  refine zRx.istore (ls' := [(0, zP 0), (1, .inl i), (2, .inl (173 + (5 * i))), (3, .inl (σ 2 (173 + (5 * i)))), (4, .inl (σ 2 ((173 + (5 * i)) + 1))), (5, .inl (σ 2 ((173 + (5 * i)) + 2))), (6, .inl (σ 2 ((173 + (5 * i)) + 3)))]) rfl (by decide) dX12_does_43 ?_
  refine zRx.aload_n 0 rfl rfl dX12_does_45 ?_
  refine zRx.getR (a := 0) (b := 2) fl_12_33 rfl rfl dX12_does_46 ?_
  refine zRx.iload_n 2 rfl rfl dX12_does_49 ?_
  refine zRx.iconst ⟨by decide, by decide⟩ dX12_does_50 ?_
  refine zRx.iadd ⟨by omega, by omega⟩ dX12_does_51 ?_
  refine zRx.ialdv (v := σ 2 ((173 + (5 * i)) + 4)) rfl rfl (by omega) (by omega) dX12_does_52 ?_
  refine zRx.istore (ls' := [(0, zP 0), (1, .inl i), (2, .inl (173 + (5 * i))), (3, .inl (σ 2 (173 + (5 * i)))), (4, .inl (σ 2 ((173 + (5 * i)) + 1))), (5, .inl (σ 2 ((173 + (5 * i)) + 2))), (6, .inl (σ 2 ((173 + (5 * i)) + 3))), (7, .inl (σ 2 ((173 + (5 * i)) + 4)))]) rfl (by decide) dX12_does_53 ?_
  refine zRx.iload_n 3 rfl rfl dX12_does_55 ?_
  refine zRx.if_ne (tgt := 67) dX12_does_56 (by decide) (fun c56 => ?_) (fun c56 => ?_)
  · have hK := hk c56
    refine zRx.aload_n 0 rfl rfl dX12_does_67 ?_
    refine zRx.iload_n 3 rfl rfl dX12_does_68 ?_
    refine zRx.iload 4 rfl dX12_does_69 ?_
    refine zRx.iload 5 rfl dX12_does_71 ?_
    refine zRx.iload 6 rfl dX12_does_73 ?_
    refine zRx.iload 7 rfl dX12_does_75 ?_
    refine zRx.cVi (w := .inl (R_X12_whyOf σ (σ 2 (173 + (5 * i))) (σ 2 ((173 + (5 * i)) + 1)) (σ 2 ((173 + (5 * i)) + 2)) (σ 2 ((173 + (5 * i)) + 3)) (σ 2 ((173 + (5 * i)) + 4)))) (M := m_X12_whyOf) (av := [.inl (σ 2 (173 + (5 * i))), .inl (σ 2 ((173 + (5 * i)) + 1)), .inl (σ 2 ((173 + (5 * i)) + 2)), .inl (σ 2 ((173 + (5 * i)) + 3)), .inl (σ 2 ((173 + (5 * i)) + 4))]) cv_12_379 mk_X12_whyOf (by decide) (b := 0) rfl rfl (Nat.le_of_ble_eq_true rfl) dX12_does_77 (does_X12_whyOf σ (σ 2 (173 + (5 * i))) (σ 2 ((173 + (5 * i)) + 1)) (σ 2 ((173 + (5 * i)) + 2)) (σ 2 ((173 + (5 * i)) + 3)) (σ 2 ((173 + (5 * i)) + 4)) (by omega) (by omega)) ?_
    refine zRx.istore (ls' := [(0, zP 0), (1, .inl i), (2, .inl (173 + (5 * i))), (3, .inl (σ 2 (173 + (5 * i)))), (4, .inl (σ 2 ((173 + (5 * i)) + 1))), (5, .inl (σ 2 ((173 + (5 * i)) + 2))), (6, .inl (σ 2 ((173 + (5 * i)) + 3))), (7, .inl (σ 2 ((173 + (5 * i)) + 4))), (8, .inl (R_X12_whyOf σ (σ 2 (173 + (5 * i))) (σ 2 ((173 + (5 * i)) + 1)) (σ 2 ((173 + (5 * i)) + 2)) (σ 2 ((173 + (5 * i)) + 3)) (σ 2 ((173 + (5 * i)) + 4))))]) rfl (by decide) dX12_does_80 ?_
    refine zRx.iload 8 rfl dX12_does_82 ?_
    refine zRx.if_le (tgt := 90) dX12_does_84 (by decide) (fun c84 => ?_) (fun c84 => ?_)
    · refine zRx.aload_n 0 rfl rfl dX12_does_90 ?_
      refine zRx.getR (a := 0) (b := 2) fl_12_33 rfl rfl dX12_does_91 ?_
      refine zRx.bipush ⟨by decide, by decide⟩ rfl dX12_does_94 ?_
      refine zRx.iconst ⟨by decide, by decide⟩ dX12_does_96 ?_
      refine zRx.iload 6 rfl dX12_does_97 ?_
      refine zRx.imul ⟨by omega, by omega⟩ dX12_does_99 ?_
      refine zRx.iadd ⟨by omega, by omega⟩ dX12_does_100 ?_
      refine zRx.ialdv (v := σ 2 (8 + (3 * (σ 2 ((173 + (5 * i)) + 3))))) rfl rfl (by omega) (by omega) dX12_does_101 ?_
      refine zRx.istore (ls' := [(0, zP 0), (1, .inl i), (2, .inl (173 + (5 * i))), (3, .inl (σ 2 (173 + (5 * i)))), (4, .inl (σ 2 ((173 + (5 * i)) + 1))), (5, .inl (σ 2 ((173 + (5 * i)) + 2))), (6, .inl (σ 2 ((173 + (5 * i)) + 3))), (7, .inl (σ 2 ((173 + (5 * i)) + 4))), (8, .inl (R_X12_whyOf σ (σ 2 (173 + (5 * i))) (σ 2 ((173 + (5 * i)) + 1)) (σ 2 ((173 + (5 * i)) + 2)) (σ 2 ((173 + (5 * i)) + 3)) (σ 2 ((173 + (5 * i)) + 4)))), (9, .inl (σ 2 (8 + (3 * (σ 2 ((173 + (5 * i)) + 3))))))]) rfl (by decide) dX12_does_102 ?_
      refine zRx.iload_n 3 rfl rfl dX12_does_104 ?_
      refine zRx.iconst ⟨by decide, by decide⟩ dX12_does_105 ?_
      refine zRx.icmp_ne (tgt := 189) dX12_does_106 (by decide) (fun c106 => ?_) (fun c106 => ?_)
      · refine zRx.iload_n 3 rfl rfl dX12_does_189 ?_
        refine zRx.iconst ⟨by decide, by decide⟩ dX12_does_190 ?_
        refine zRx.icmp_ne (tgt := 220) dX12_does_191 (by decide) (fun c191 => ?_) (fun c191 => ?_)
        · refine zRx.iload_n 3 rfl rfl dX12_does_220 ?_
          refine zRx.iconst ⟨by decide, by decide⟩ dX12_does_221 ?_
          refine zRx.icmp_ne (tgt := 239) dX12_does_222 (by decide) (fun c222 => ?_) (fun c222 => ?_)
          · refine zRx.aload_n 0 rfl rfl dX12_does_239 ?_
            refine zRx.getR (a := 0) (b := 14) fl_12_71 rfl rfl dX12_does_240 ?_
            refine zRx.iload 4 rfl dX12_does_243 ?_
            refine zRx.dup2 rfl rfl dX12_does_245 ?_
            refine zRx.ialdv (v := σ 14 (σ 2 ((173 + (5 * i)) + 1))) rfl rfl (by omega) (by omega) dX12_does_246 ?_
            refine zRx.iload 7 rfl dX12_does_247 ?_
            refine zRx.iaddW dX12_does_249 ?_
            refine zRx.iast rfl (by omega) (by omega) dX12_does_250 ?_
            refine zRx.aload_n 0 rfl rfl dX12_does_251 ?_
            refine zRx.getR (a := 0) (b := 14) fl_12_71 rfl rfl dX12_does_252 ?_
            refine zRx.iload 5 rfl dX12_does_255 ?_
            refine zRx.dup2 rfl rfl dX12_does_257 ?_
            refine zRx.ialdv (v := σ 14 (σ 2 ((173 + (5 * i)) + 2))) (zu_off _ _ _ (by omega)) rfl (by omega) (by omega) dX12_does_258 ?_
            refine zRx.iload 7 rfl dX12_does_259 ?_
            refine zRx.isubW dX12_does_261 ?_
            refine zRx.iast rfl (by omega) (by omega) dX12_does_262 ?_
            refine zRx.aload_n 0 rfl rfl dX12_does_263 ?_
            refine zRx.dup rfl dX12_does_264 ?_
            refine zRx.getIv (a := 0) (ji := 45) (v := σ 0 45) ((zu_ne _ _ _ _ (by decide)).trans (zu_ne _ _ _ _ (by decide))) fl_12_363 rfl rfl rfl dX12_does_265 ?_
            refine zRx.iconst ⟨by decide, by decide⟩ dX12_does_268 ?_
            refine zRx.iload 6 rfl dX12_does_269 ?_
            refine zRx.ishl dX12_does_271 ?_
            refine zRx.ior dX12_does_272 ?_
            refine zRx.putI (a := 0) (ji := 45) pl_12_363 rfl rfl rfl dX12_does_273 ?_
            refine zRx.aload_n 0 rfl rfl dX12_does_276 ?_
            refine zRx.iload 5 rfl dX12_does_277 ?_
            refine zRx.iload 6 rfl dX12_does_279 ?_
            refine zRx.iload_n 1 rfl rfl dX12_does_281 ?_
            refine zRx.cVv (M := m_X12_learns) (av := [.inl (σ 2 ((173 + (5 * i)) + 2)), .inl (σ 2 ((173 + (5 * i)) + 3)), .inl i]) cv_12_375 mk_X12_learns (by decide) (b := 0) rfl rfl (Nat.le_of_ble_eq_true rfl) dX12_does_282 (does_X12_learns (zu (zu (zu σ 14 (σ 2 ((173 + (5 * i)) + 1)) (w32 ((σ 14 (σ 2 ((173 + (5 * i)) + 1))) + (σ 2 ((173 + (5 * i)) + 4))))) 14 (σ 2 ((173 + (5 * i)) + 2)) (w32 ((σ 14 (σ 2 ((173 + (5 * i)) + 2))) - (σ 2 ((173 + (5 * i)) + 4))))) 0 45 (bor (σ 0 45) (bshl 1 (σ 2 ((173 + (5 * i)) + 3))))) (σ 2 ((173 + (5 * i)) + 2)) (σ 2 ((173 + (5 * i)) + 3)) i (by omega) (by omega) (by rw [show (zu (zu (zu σ 14 (σ 2 ((173 + (5 * i)) + 1)) (w32 ((σ 14 (σ 2 ((173 + (5 * i)) + 1))) + (σ 2 ((173 + (5 * i)) + 4))))) 14 (σ 2 ((173 + (5 * i)) + 2)) (w32 ((σ 14 (σ 2 ((173 + (5 * i)) + 2))) - (σ 2 ((173 + (5 * i)) + 4))))) 0 45 (bor (σ 0 45) (bshl 1 (σ 2 ((173 + (5 * i)) + 3))))) 2 = σ 2 from ((zu_row _ _ _ (by decide)).trans ((zu_row _ _ _ (by decide)).trans (zu_row _ _ _ (by decide))))]; exact hs) (by have e9 : (zu (zu (zu σ 14 (σ 2 ((173 + (5 * i)) + 1)) (w32 ((σ 14 (σ 2 ((173 + (5 * i)) + 1))) + (σ 2 ((173 + (5 * i)) + 4))))) 14 (σ 2 ((173 + (5 * i)) + 2)) (w32 ((σ 14 (σ 2 ((173 + (5 * i)) + 2))) - (σ 2 ((173 + (5 * i)) + 4))))) 0 45 (bor (σ 0 45) (bshl 1 (σ 2 ((173 + (5 * i)) + 3))))) 11 (σ 2 ((173 + (5 * i)) + 2)) = σ 11 (σ 2 ((173 + (5 * i)) + 2)) := ((zu_ne _ _ _ _ (by decide)).trans ((zu_ne _ _ _ _ (by decide)).trans (zu_ne _ _ _ _ (by decide)))); have := hKn (σ 2 ((173 + (5 * i)) + 2)) (by omega) (by omega); omega) (by have e9 : (zu (zu (zu σ 14 (σ 2 ((173 + (5 * i)) + 1)) (w32 ((σ 14 (σ 2 ((173 + (5 * i)) + 1))) + (σ 2 ((173 + (5 * i)) + 4))))) 14 (σ 2 ((173 + (5 * i)) + 2)) (w32 ((σ 14 (σ 2 ((173 + (5 * i)) + 2))) - (σ 2 ((173 + (5 * i)) + 4))))) 0 45 (bor (σ 0 45) (bshl 1 (σ 2 ((173 + (5 * i)) + 3))))) 0 43 = σ 0 43 := ((zu_off _ _ _ (by decide)).trans ((zu_ne _ _ _ _ (by decide)).trans (zu_ne _ _ _ _ (by decide)))); omega)) ?_
            refine zRx.iconst ⟨by decide, by decide⟩ dX12_does_285 ?_
            exact zR.iret rfl dX12_does_286 (by have he : R_X12_does σ i = (0, R_X12_learns (zu (zu (zu σ 14 (σ 2 ((173 + (5 * i)) + 1)) (w32 ((σ 14 (σ 2 ((173 + (5 * i)) + 1))) + (σ 2 ((173 + (5 * i)) + 4))))) 14 (σ 2 ((173 + (5 * i)) + 2)) (w32 ((σ 14 (σ 2 ((173 + (5 * i)) + 2))) - (σ 2 ((173 + (5 * i)) + 4))))) 0 45 (bor (σ 0 45) (bshl 1 (σ 2 ((173 + (5 * i)) + 3))))) (σ 2 ((173 + (5 * i)) + 2)) (σ 2 ((173 + (5 * i)) + 3)) i) := (by rw [R_X12_does, if_neg c56, if_pos c84, if_neg c106, if_neg c191, if_neg c222]); rw [he]; exact ⟨rfl, rfl⟩)
          · refine zRx.aload_n 0 rfl rfl dX12_does_225 ?_
            refine zRx.iload 4 rfl dX12_does_226 ?_
            refine zRx.iload 5 rfl dX12_does_228 ?_
            refine zRx.iload 6 rfl dX12_does_230 ?_
            refine zRx.iload_n 1 rfl rfl dX12_does_232 ?_
            refine zRx.cVv (M := m_X12_tells) (av := [.inl (σ 2 ((173 + (5 * i)) + 1)), .inl (σ 2 ((173 + (5 * i)) + 2)), .inl (σ 2 ((173 + (5 * i)) + 3)), .inl i]) cv_12_387 mk_X12_tells (by decide) (b := 0) rfl rfl (Nat.le_of_ble_eq_true rfl) dX12_does_233 (does_X12_tells σ (σ 2 ((173 + (5 * i)) + 1)) (σ 2 ((173 + (5 * i)) + 2)) (σ 2 ((173 + (5 * i)) + 3)) i (by omega) (by omega) hs (hKn (σ 2 ((173 + (5 * i)) + 2)) (by omega) (by omega)) (by omega) hp (by omega)) ?_
            refine zRx.goto (tgt := 285) dX12_does_236 (by decide) ?_
            refine zRx.iconst ⟨by decide, by decide⟩ dX12_does_285 ?_
            exact zR.iret rfl dX12_does_286 (by have he : R_X12_does σ i = (0, R_X12_tells σ (σ 2 ((173 + (5 * i)) + 1)) (σ 2 ((173 + (5 * i)) + 2)) (σ 2 ((173 + (5 * i)) + 3)) i) := (by rw [R_X12_does, if_neg c56, if_pos c84, if_neg c106, if_neg c191, if_pos c222]); rw [he]; exact ⟨rfl, rfl⟩)
        · refine zRx.aload_n 0 rfl rfl dX12_does_194 ?_
          refine zRx.iload 4 rfl dX12_does_195 ?_
          refine zRx.iload 5 rfl dX12_does_197 ?_
          refine zRx.iload 6 rfl dX12_does_199 ?_
          refine zRx.iload 9 rfl dX12_does_201 ?_
          refine zRx.aload_n 0 rfl rfl dX12_does_203 ?_
          refine zRx.getR (a := 0) (b := 2) fl_12_33 rfl rfl dX12_does_204 ?_
          refine zRx.bipush ⟨by decide, by decide⟩ rfl dX12_does_207 ?_
          refine zRx.ialdv (v := σ 2 6) rfl rfl (by decide) (by decide) dX12_does_209 ?_
          refine zRx.cSi (w := .inl (upM (σ 2 (8 + (3 * (σ 2 ((173 + (5 * i)) + 3))))) (σ 2 6))) (M := m_X12_up) (av := [.inl (σ 2 (8 + (3 * (σ 2 ((173 + (5 * i)) + 3))))), .inl (σ 2 6)]) cs_12_369 mk_X12_up (by decide) rfl (Nat.le_of_ble_eq_true rfl) dX12_does_210 (does_up σ (σ 2 (8 + (3 * (σ 2 ((173 + (5 * i)) + 3))))) (σ 2 6) SM) ?_
          refine zRx.iload_n 1 rfl rfl dX12_does_213 ?_
          refine zRx.cVv (M := m_X12_owes) (av := [.inl (σ 2 ((173 + (5 * i)) + 1)), .inl (σ 2 ((173 + (5 * i)) + 2)), .inl (σ 2 ((173 + (5 * i)) + 3)), .inl (upM (σ 2 (8 + (3 * (σ 2 ((173 + (5 * i)) + 3))))) (σ 2 6)), .inl i]) cv_12_383 mk_X12_owes (by decide) (b := 0) rfl rfl (Nat.le_of_ble_eq_true rfl) dX12_does_214 (does_X12_owes σ (σ 2 ((173 + (5 * i)) + 1)) (σ 2 ((173 + (5 * i)) + 2)) (σ 2 ((173 + (5 * i)) + 3)) (upM (σ 2 (8 + (3 * (σ 2 ((173 + (5 * i)) + 3))))) (σ 2 6)) i (by omega)) ?_
          refine zRx.goto (tgt := 285) dX12_does_217 (by decide) ?_
          refine zRx.iconst ⟨by decide, by decide⟩ dX12_does_285 ?_
          exact zR.iret rfl dX12_does_286 (by have he : R_X12_does σ i = (0, F_X12_owes σ (σ 2 ((173 + (5 * i)) + 1)) (σ 2 ((173 + (5 * i)) + 2)) (σ 2 ((173 + (5 * i)) + 3)) (upM (σ 2 (8 + (3 * (σ 2 ((173 + (5 * i)) + 3))))) (σ 2 6)) i) := (by rw [R_X12_does, if_neg c56, if_pos c84, if_neg c106, if_pos c191]); rw [he]; exact ⟨rfl, rfl⟩)
      · have hM := many_pcn σ (σ 2 ((173 + (5 * i)) + 4))
        have hM0 := pcn_0 (σ 2 ((173 + (5 * i)) + 4))
        have hM1 := (hK.2.2.2.1 c106)
        refine zRx.iconst ⟨by decide, by decide⟩ dX12_does_109 ?_
        refine zRx.iload 7 rfl dX12_does_110 ?_
        refine zRx.cSi (w := .inl (R_X12_many σ (σ 2 ((173 + (5 * i)) + 4)))) (M := m_X12_many) (av := [.inl (σ 2 ((173 + (5 * i)) + 4))]) cs_12_333 mk_X12_many (by decide) rfl (Nat.le_of_ble_eq_true rfl) dX12_does_112 (does_X12_many σ (σ 2 ((173 + (5 * i)) + 4)) SM (by omega)) ?_
        refine zRx.iadd ⟨by omega, by omega⟩ dX12_does_115 ?_
        refine zRx.istore (ls' := [(0, zP 0), (1, .inl i), (2, .inl (173 + (5 * i))), (3, .inl (σ 2 (173 + (5 * i)))), (4, .inl (σ 2 ((173 + (5 * i)) + 1))), (5, .inl (σ 2 ((173 + (5 * i)) + 2))), (6, .inl (σ 2 ((173 + (5 * i)) + 3))), (7, .inl (σ 2 ((173 + (5 * i)) + 4))), (8, .inl (R_X12_whyOf σ (σ 2 (173 + (5 * i))) (σ 2 ((173 + (5 * i)) + 1)) (σ 2 ((173 + (5 * i)) + 2)) (σ 2 ((173 + (5 * i)) + 3)) (σ 2 ((173 + (5 * i)) + 4)))), (9, .inl (σ 2 (8 + (3 * (σ 2 ((173 + (5 * i)) + 3)))))), (10, .inl (1 + (R_X12_many σ (σ 2 ((173 + (5 * i)) + 4)))))]) rfl (by decide) dX12_does_116 ?_
        refine zRx.iload 9 rfl dX12_does_118 ?_
        refine zRx.iload 10 rfl dX12_does_120 ?_
        refine zRx.iaddW dX12_does_122 ?_
        refine zRx.iconst ⟨by decide, by decide⟩ dX12_does_123 ?_
        refine zRx.isubW dX12_does_124 ?_
        refine zRx.iload 10 rfl dX12_does_125 ?_
        refine zRx.idivT (by omega) dX12_does_127 ?_
        refine zRx.istore (ls' := [(0, zP 0), (1, .inl i), (2, .inl (173 + (5 * i))), (3, .inl (σ 2 (173 + (5 * i)))), (4, .inl (σ 2 ((173 + (5 * i)) + 1))), (5, .inl (σ 2 ((173 + (5 * i)) + 2))), (6, .inl (σ 2 ((173 + (5 * i)) + 3))), (7, .inl (σ 2 ((173 + (5 * i)) + 4))), (8, .inl (R_X12_whyOf σ (σ 2 (173 + (5 * i))) (σ 2 ((173 + (5 * i)) + 1)) (σ 2 ((173 + (5 * i)) + 2)) (σ 2 ((173 + (5 * i)) + 3)) (σ 2 ((173 + (5 * i)) + 4)))), (9, .inl (σ 2 (8 + (3 * (σ 2 ((173 + (5 * i)) + 3)))))), (10, .inl (1 + (R_X12_many σ (σ 2 ((173 + (5 * i)) + 4))))), (11, .inl (Int.tdiv (w32 ((w32 ((σ 2 (8 + (3 * (σ 2 ((173 + (5 * i)) + 3))))) + (1 + (R_X12_many σ (σ 2 ((173 + (5 * i)) + 4)))))) - 1)) (1 + (R_X12_many σ (σ 2 ((173 + (5 * i)) + 4))))))]) rfl (by decide) dX12_does_128 ?_
        refine zRx.aload_n 0 rfl rfl dX12_does_130 ?_
        refine zRx.iload 4 rfl dX12_does_131 ?_
        refine zRx.iload 5 rfl dX12_does_133 ?_
        refine zRx.iload 6 rfl dX12_does_135 ?_
        refine zRx.iload 11 rfl dX12_does_137 ?_
        refine zRx.iload_n 1 rfl rfl dX12_does_139 ?_
        refine zRx.cVv (M := m_X12_owes) (av := [.inl (σ 2 ((173 + (5 * i)) + 1)), .inl (σ 2 ((173 + (5 * i)) + 2)), .inl (σ 2 ((173 + (5 * i)) + 3)), .inl (Int.tdiv (w32 ((w32 ((σ 2 (8 + (3 * (σ 2 ((173 + (5 * i)) + 3))))) + (1 + (R_X12_many σ (σ 2 ((173 + (5 * i)) + 4)))))) - 1)) (1 + (R_X12_many σ (σ 2 ((173 + (5 * i)) + 4))))), .inl i]) cv_12_383 mk_X12_owes (by decide) (b := 0) rfl rfl (Nat.le_of_ble_eq_true rfl) dX12_does_140 (does_X12_owes σ (σ 2 ((173 + (5 * i)) + 1)) (σ 2 ((173 + (5 * i)) + 2)) (σ 2 ((173 + (5 * i)) + 3)) (Int.tdiv (w32 ((w32 ((σ 2 (8 + (3 * (σ 2 ((173 + (5 * i)) + 3))))) + (1 + (R_X12_many σ (σ 2 ((173 + (5 * i)) + 4)))))) - 1)) (1 + (R_X12_many σ (σ 2 ((173 + (5 * i)) + 4))))) i (by omega)) ?_
        refine zRx.iconst ⟨by decide, by decide⟩ dX12_does_143 ?_
        refine zRx.istore (ls' := [(0, zP 0), (1, .inl i), (2, .inl (173 + (5 * i))), (3, .inl (σ 2 (173 + (5 * i)))), (4, .inl (σ 2 ((173 + (5 * i)) + 1))), (5, .inl (σ 2 ((173 + (5 * i)) + 2))), (6, .inl (σ 2 ((173 + (5 * i)) + 3))), (7, .inl (σ 2 ((173 + (5 * i)) + 4))), (8, .inl (R_X12_whyOf σ (σ 2 (173 + (5 * i))) (σ 2 ((173 + (5 * i)) + 1)) (σ 2 ((173 + (5 * i)) + 2)) (σ 2 ((173 + (5 * i)) + 3)) (σ 2 ((173 + (5 * i)) + 4)))), (9, .inl (σ 2 (8 + (3 * (σ 2 ((173 + (5 * i)) + 3)))))), (10, .inl (1 + (R_X12_many σ (σ 2 ((173 + (5 * i)) + 4))))), (11, .inl (Int.tdiv (w32 ((w32 ((σ 2 (8 + (3 * (σ 2 ((173 + (5 * i)) + 3))))) + (1 + (R_X12_many σ (σ 2 ((173 + (5 * i)) + 4)))))) - 1)) (1 + (R_X12_many σ (σ 2 ((173 + (5 * i)) + 4)))))), (12, .inl 0)]) rfl (by decide) dX12_does_144 ?_
        have he : R_X12_does σ i = L_X12_does_146 i (σ 2 ((173 + (5 * i)) + 2)) (σ 2 ((173 + (5 * i)) + 3)) (1 + (R_X12_many σ (σ 2 ((173 + (5 * i)) + 4)))) (Int.tdiv (w32 ((w32 ((σ 2 (8 + (3 * (σ 2 ((173 + (5 * i)) + 3))))) + (1 + (R_X12_many σ (σ 2 ((173 + (5 * i)) + 4)))))) - 1)) (1 + (R_X12_many σ (σ 2 ((173 + (5 * i)) + 4))))) 10 0 (F_X12_owes σ (σ 2 ((173 + (5 * i)) + 1)) (σ 2 ((173 + (5 * i)) + 2)) (σ 2 ((173 + (5 * i)) + 3)) (Int.tdiv (w32 ((w32 ((σ 2 (8 + (3 * (σ 2 ((173 + (5 * i)) + 3))))) + (1 + (R_X12_many σ (σ 2 ((173 + (5 * i)) + 4)))))) - 1)) (1 + (R_X12_many σ (σ 2 ((173 + (5 * i)) + 4))))) i) := by rw [R_X12_does, if_neg c56, if_pos c84, if_pos c106]
        rw [he]
        exact loop_X12_does_146 i hi (173 + (5 * i)) (σ 2 (173 + (5 * i))) (σ 2 ((173 + (5 * i)) + 1)) (σ 2 ((173 + (5 * i)) + 2)) (σ 2 ((173 + (5 * i)) + 3)) (σ 2 ((173 + (5 * i)) + 4)) (R_X12_whyOf σ (σ 2 (173 + (5 * i))) (σ 2 ((173 + (5 * i)) + 1)) (σ 2 ((173 + (5 * i)) + 2)) (σ 2 ((173 + (5 * i)) + 3)) (σ 2 ((173 + (5 * i)) + 4))) (σ 2 (8 + (3 * (σ 2 ((173 + (5 * i)) + 3))))) (1 + (R_X12_many σ (σ 2 ((173 + (5 * i)) + 4)))) (Int.tdiv (w32 ((w32 ((σ 2 (8 + (3 * (σ 2 ((173 + (5 * i)) + 3))))) + (1 + (R_X12_many σ (σ 2 ((173 + (5 * i)) + 4)))))) - 1)) (1 + (R_X12_many σ (σ 2 ((173 + (5 * i)) + 4))))) 10 0 (F_X12_owes σ (σ 2 ((173 + (5 * i)) + 1)) (σ 2 ((173 + (5 * i)) + 2)) (σ 2 ((173 + (5 * i)) + 3)) (Int.tdiv (w32 ((w32 ((σ 2 (8 + (3 * (σ 2 ((173 + (5 * i)) + 3))))) + (1 + (R_X12_many σ (σ 2 ((173 + (5 * i)) + 4)))))) - 1)) (1 + (R_X12_many σ (σ 2 ((173 + (5 * i)) + 4))))) i) (by omega) (by have := mowes_m σ (σ 2 ((173 + (5 * i)) + 1)) (σ 2 ((173 + (5 * i)) + 2)) (σ 2 ((173 + (5 * i)) + 3)) (Int.tdiv (w32 ((w32 ((σ 2 (8 + (3 * (σ 2 ((173 + (5 * i)) + 3))))) + (1 + (R_X12_many σ (σ 2 ((173 + (5 * i)) + 4)))))) - 1)) (1 + (R_X12_many σ (σ 2 ((173 + (5 * i)) + 4))))) i; omega) (by omega) (by decide)
    · refine zRx.iload 8 rfl dX12_does_87 ?_
      exact zR.iret rfl dX12_does_89 (by have he : R_X12_does σ i = (R_X12_whyOf σ (σ 2 (173 + (5 * i))) (σ 2 ((173 + (5 * i)) + 1)) (σ 2 ((173 + (5 * i)) + 2)) (σ 2 ((173 + (5 * i)) + 3)) (σ 2 ((173 + (5 * i)) + 4)), σ) := (by rw [R_X12_does, if_neg c56, if_neg (Int.not_le.mpr c84)]); rw [he]; exact ⟨rfl, rfl⟩)
  · refine zRx.aload_n 0 rfl rfl dX12_does_59 ?_
    refine zRx.iload 4 rfl dX12_does_60 ?_
    refine zRx.putI (a := 0) (ji := 44) pl_12_360 rfl rfl rfl dX12_does_62 ?_
    refine zRx.iconst ⟨by decide, by decide⟩ dX12_does_65 ?_
    exact zR.iret rfl dX12_does_66 (by have he : R_X12_does σ i = (0, zu σ 0 44 (σ 2 ((173 + (5 * i)) + 1))) := (by rw [R_X12_does, if_pos c56]); rw [he]; exact ⟨rfl, rfl⟩)

theorem doesL_m (i to f nn ea : Int) : ∀ (n : Nat) (q : Int) (σ : zG), σ 0 43 ≤ (L_X12_does_146 i to f nn ea n q σ).2 0 43 ∧ (L_X12_does_146 i to f nn ea n q σ).2 0 43 ≤ σ 0 43 + max 0 (nn - 1 - q)
  | 0, q, σ => ⟨Int.le_refl _, by show σ 0 43 ≤ _; omega⟩
  | n + 1, q, σ => by
    rw [L_X12_does_146]
    split
    · exact ⟨Int.le_refl _, by show σ 0 43 ≤ _; omega⟩
    · next h =>
      have h1 := doesL_m i to f nn ea n (q + 1) (F_X12_owes σ (band (bshr (σ 9 i) (3 * q)) 7) to f ea i)
      have h2 := mowes_m σ (band (bshr (σ 9 i) (3 * q)) 7) to f ea i
      omega
theorem learns_m (σ : zG) (who f li : Int) : R_X12_learns σ who f li 0 = σ 0 := fr_R_X12_learns σ who f li (by decide)
theorem tells_m (σ : zG) (who to f li : Int) : R_X12_tells σ who to f li 0 43 = σ 0 43 := by
  unfold R_X12_tells
  rw [learns_m, zu_off _ _ _ (by decide), zu_ne _ _ _ _ (by decide), fr_S_X12_tells_11 (h := by decide)]

