/-! the reference: said -/
/-- the height of the pile of a sentence's steps -/
def hg (s : Int → Int) : Nat → Int
  | 0 => 0
  | k + 1 => if s (474 + 3 * (k : Int)) = 7 then hg s k else if s (474 + 3 * (k : Int)) = 8 ∨ s (474 + 3 * (k : Int)) = 9 then hg s k - 1 else hg s k + 1
def CW (s : Int → Int) : Prop := (0 ≤ s 473 ∧ s 473 ≤ 60) ∧ ∀ k : Nat, (k : Int) < s 473 → (s (474 + 3 * (k : Int)) = 7 → 1 ≤ hg s k) ∧ (s (474 + 3 * (k : Int)) = 8 ∨ s (474 + 3 * (k : Int)) = 9 → 2 ≤ hg s k)
theorem hg_r {s : Int → Int} (h : CW s) : ∀ k : Nat, (k : Int) ≤ s 473 → 0 ≤ hg s k ∧ hg s k ≤ k
  | 0, _ => ⟨Int.le_refl _, Int.le_refl _⟩
  | k + 1, hk => by
    have h1 := hg_r h k (by omega)
    have h2 := h.2 k (by omega)
    rw [hg]
    split
    · omega
    · split
      · next c => have := h2.2 c; omega
      · omega

def L_X12_so_23 (σ : zG) (who wh a b : Int) : Nat → Int → Int
  | 0, _ => 0
  | n + 1, q => if (σ 0 43) ≤ q then 0 else (if (σ 16 q) = who then (if (V_X12_isLate σ q) = 0 then (L_X12_so_23 σ who wh a b n (q + 1)) else 1) else (L_X12_so_23 σ who wh a b n (q + 1)))
set_option maxRecDepth 20000 in
theorem loop_X12_so_23 (σ : zG) (who wh a b : Int) (hm : σ 0 43 ≤ 420) : ∀ (n : Nat) (q : Int) , 0 ≤ q → (σ 0 43 - q).toNat < n → zR SM 2 m_X12_so 23 [(0, zP 0), (1, .inl who), (2, .inl wh), (3, .inl a), (4, .inl b), (5, .inl q)] [] σ (zEq (some (.inl (L_X12_so_23 σ who wh a b n q))) σ) := by
  intro n
  induction n with
  | zero => intro q  h0 hmz; exact absurd hmz (Nat.not_lt_zero _)
  | succ n ih =>
    intro q  h0 hmz
    refine zRx.iload 5 rfl dX12_so_23 ?_
    refine zRx.aload_n 0 rfl rfl dX12_so_25 ?_
    refine zRx.getIv (a := 0) (ji := 43) (v := σ 0 43) rfl fl_12_357 rfl rfl rfl dX12_so_26 ?_
    refine zRx.icmp_ge (tgt := 60) dX12_so_29 (by decide) (fun c29 => ?_) (fun c29 => ?_)
    · refine zRx.iconst ⟨by decide, by decide⟩ dX12_so_60 ?_
      exact zR.zret rfl ⟨by decide, by decide⟩ dX12_so_61 (by have he : L_X12_so_23 σ who wh a b (n + 1) q = 0 := (by rw [L_X12_so_23, if_pos c29]); rw [he]; exact ⟨rfl, rfl⟩)
    · refine zRx.aload_n 0 rfl rfl dX12_so_32 ?_
      refine zRx.getR (a := 0) (b := 16) fl_12_77 rfl rfl dX12_so_33 ?_
      refine zRx.iload 5 rfl dX12_so_36 ?_
      refine zRx.ialdv (v := σ 16 q) rfl rfl (by omega) (by omega) dX12_so_38 ?_
      refine zRx.iload_n 1 rfl rfl dX12_so_39 ?_
      refine zRx.icmp_ne (tgt := 54) dX12_so_40 (by decide) (fun c40 => ?_) (fun c40 => ?_)
      · refine zRx.iinc (n := 1) (ls' := [(0, zP 0), (1, .inl who), (2, .inl wh), (3, .inl a), (4, .inl b), (5, .inl (q + 1))]) 5 rfl ⟨by omega, by omega⟩ rfl (by decide) dX12_so_54 ?_
        refine zRx.goto (tgt := 23) dX12_so_57 (by decide) ?_
        have he : L_X12_so_23 σ who wh a b (n + 1) q = L_X12_so_23 σ who wh a b n (q + 1) := by rw [L_X12_so_23, if_neg (Int.not_le.mpr c29), if_neg c40]
        rw [he]
        exact ih (q + 1)  (by omega) (by omega)
      · refine zRx.aload_n 0 rfl rfl dX12_so_43 ?_
        refine zRx.iload 5 rfl dX12_so_44 ?_
        refine zRx.cVi (w := .inl (V_X12_isLate σ q)) (M := m_X12_isLate) (av := [.inl q]) cv_12_403 mk_X12_isLate (by decide) (b := 0) rfl rfl (Nat.le_of_ble_eq_true rfl) dX12_so_46 (does_X12_isLate σ q (by omega)) ?_
        refine zRx.if_eq (tgt := 54) dX12_so_49 (by decide) (fun c49 => ?_) (fun c49 => ?_)
        · refine zRx.iinc (n := 1) (ls' := [(0, zP 0), (1, .inl who), (2, .inl wh), (3, .inl a), (4, .inl b), (5, .inl (q + 1))]) 5 rfl ⟨by omega, by omega⟩ rfl (by decide) dX12_so_54 ?_
          refine zRx.goto (tgt := 23) dX12_so_57 (by decide) ?_
          have he : L_X12_so_23 σ who wh a b (n + 1) q = L_X12_so_23 σ who wh a b n (q + 1) := by rw [L_X12_so_23, if_neg (Int.not_le.mpr c29), if_pos c40, if_pos c49]
          rw [he]
          exact ih (q + 1)  (by omega) (by omega)
        · refine zRx.iconst ⟨by decide, by decide⟩ dX12_so_52 ?_
          exact zR.zret rfl ⟨by decide, by decide⟩ dX12_so_53 (by have he : L_X12_so_23 σ who wh a b (n + 1) q = 1 := (by rw [L_X12_so_23, if_neg (Int.not_le.mpr c29), if_pos c40, if_neg c49]); rw [he]; exact ⟨rfl, rfl⟩)
def R_X12_so (σ : zG) (who wh a b : Int) : Int := if wh = 0 then (b2 (hb (σ 11 who) a)) else (if wh = 1 then (L_X12_so_23 σ who wh a b 500 0) else (if a = 60 then (if b ≤ (R_X12_cameOf σ who (w32 (wh - 2))) then 0 else 1) else (if a = 61 then (if (R_X12_cameOf σ who (w32 (wh - 2))) = b then 1 else 0) else (if (R_X12_cameOf σ who (w32 (wh - 2))) ≤ b then 0 else 1))))
set_option maxRecDepth 20000 in
theorem does_X12_so (σ : zG) (who wh a b : Int) (hm : σ 0 43 ≤ 420) (hw : 0 ≤ who ∧ who < 8)  : zDo SM 2 m_X12_so [zP 0, .inl who, .inl wh, .inl a, .inl b] σ (zEq (some (.inl (R_X12_so σ who wh a b))) σ) := by
  refine zDo.intro mk_X12_so (Nat.le_of_ble_eq_true rfl) ?_
  refine zRx.iload_n 2 rfl rfl dX12_so_0 ?_
  refine zRx.if_ne (tgt := 15) dX12_so_1 (by decide) (fun c1 => ?_) (fun c1 => ?_)
  · refine zRx.iload_n 2 rfl rfl dX12_so_15 ?_
    refine zRx.iconst ⟨by decide, by decide⟩ dX12_so_16 ?_
    refine zRx.icmp_ne (tgt := 62) dX12_so_17 (by decide) (fun c17 => ?_) (fun c17 => ?_)
    · refine zRx.aload_n 0 rfl rfl dX12_so_62 ?_
      refine zRx.iload_n 1 rfl rfl dX12_so_63 ?_
      refine zRx.iload_n 2 rfl rfl dX12_so_64 ?_
      refine zRx.iconst ⟨by decide, by decide⟩ dX12_so_65 ?_
      refine zRx.isubW dX12_so_66 ?_
      refine zRx.cVi (w := .inl (R_X12_cameOf σ who (w32 (wh - 2)))) (M := m_X12_cameOf) (av := [.inl who, .inl (w32 (wh - 2))]) cv_12_406 mk_X12_cameOf (by decide) (b := 0) rfl rfl (Nat.le_of_ble_eq_true rfl) dX12_so_67 (does_X12_cameOf σ who (w32 (wh - 2)) hm hw) ?_
      refine zRx.istore (ls' := [(0, zP 0), (1, .inl who), (2, .inl wh), (3, .inl a), (4, .inl b), (5, .inl (R_X12_cameOf σ who (w32 (wh - 2))))]) rfl (by decide) dX12_so_70 ?_
      refine zRx.iload_n 3 rfl rfl dX12_so_72 ?_
      refine zRx.bipush ⟨by decide, by decide⟩ rfl dX12_so_73 ?_
      refine zRx.icmp_ne (tgt := 93) dX12_so_75 (by decide) (fun c75 => ?_) (fun c75 => ?_)
      · refine zRx.iload_n 3 rfl rfl dX12_so_93 ?_
        refine zRx.bipush ⟨by decide, by decide⟩ rfl dX12_so_94 ?_
        refine zRx.icmp_ne (tgt := 114) dX12_so_96 (by decide) (fun c96 => ?_) (fun c96 => ?_)
        · refine zRx.iload 5 rfl dX12_so_114 ?_
          refine zRx.iload 4 rfl dX12_so_116 ?_
          refine zRx.icmp_le (tgt := 125) dX12_so_118 (by decide) (fun c118 => ?_) (fun c118 => ?_)
          · refine zRx.iconst ⟨by decide, by decide⟩ dX12_so_125 ?_
            exact zR.zret rfl ⟨by decide, by decide⟩ dX12_so_126 (by have he : R_X12_so σ who wh a b = 0 := (by rw [R_X12_so, if_neg c1, if_neg c17, if_neg c75, if_neg c96, if_pos c118]); rw [he]; exact ⟨rfl, rfl⟩)
          · refine zRx.iconst ⟨by decide, by decide⟩ dX12_so_121 ?_
            refine zRx.goto (tgt := 126) dX12_so_122 (by decide) ?_
            exact zR.zret rfl ⟨by decide, by decide⟩ dX12_so_126 (by have he : R_X12_so σ who wh a b = 1 := (by rw [R_X12_so, if_neg c1, if_neg c17, if_neg c75, if_neg c96, if_neg (Int.not_le.mpr c118)]); rw [he]; exact ⟨rfl, rfl⟩)
        · refine zRx.iload 5 rfl dX12_so_99 ?_
          refine zRx.iload 4 rfl dX12_so_101 ?_
          refine zRx.icmp_ne (tgt := 110) dX12_so_103 (by decide) (fun c103 => ?_) (fun c103 => ?_)
          · refine zRx.iconst ⟨by decide, by decide⟩ dX12_so_110 ?_
            refine zRx.goto (tgt := 126) dX12_so_111 (by decide) ?_
            exact zR.zret rfl ⟨by decide, by decide⟩ dX12_so_126 (by have he : R_X12_so σ who wh a b = 0 := (by rw [R_X12_so, if_neg c1, if_neg c17, if_neg c75, if_pos c96, if_neg c103]); rw [he]; exact ⟨rfl, rfl⟩)
          · refine zRx.iconst ⟨by decide, by decide⟩ dX12_so_106 ?_
            refine zRx.goto (tgt := 126) dX12_so_107 (by decide) ?_
            exact zR.zret rfl ⟨by decide, by decide⟩ dX12_so_126 (by have he : R_X12_so σ who wh a b = 1 := (by rw [R_X12_so, if_neg c1, if_neg c17, if_neg c75, if_pos c96, if_pos c103]); rw [he]; exact ⟨rfl, rfl⟩)
      · refine zRx.iload 5 rfl dX12_so_78 ?_
        refine zRx.iload 4 rfl dX12_so_80 ?_
        refine zRx.icmp_ge (tgt := 89) dX12_so_82 (by decide) (fun c82 => ?_) (fun c82 => ?_)
        · refine zRx.iconst ⟨by decide, by decide⟩ dX12_so_89 ?_
          refine zRx.goto (tgt := 126) dX12_so_90 (by decide) ?_
          exact zR.zret rfl ⟨by decide, by decide⟩ dX12_so_126 (by have he : R_X12_so σ who wh a b = 0 := (by rw [R_X12_so, if_neg c1, if_neg c17, if_pos c75, if_pos c82]); rw [he]; exact ⟨rfl, rfl⟩)
        · refine zRx.iconst ⟨by decide, by decide⟩ dX12_so_85 ?_
          refine zRx.goto (tgt := 126) dX12_so_86 (by decide) ?_
          exact zR.zret rfl ⟨by decide, by decide⟩ dX12_so_126 (by have he : R_X12_so σ who wh a b = 1 := (by rw [R_X12_so, if_neg c1, if_neg c17, if_pos c75, if_neg (Int.not_le.mpr c82)]); rw [he]; exact ⟨rfl, rfl⟩)
    · refine zRx.iconst ⟨by decide, by decide⟩ dX12_so_20 ?_
      refine zRx.istore (ls' := [(0, zP 0), (1, .inl who), (2, .inl wh), (3, .inl a), (4, .inl b), (5, .inl 0)]) rfl (by decide) dX12_so_21 ?_
      have he : R_X12_so σ who wh a b = L_X12_so_23 σ who wh a b 500 0 := by rw [R_X12_so, if_neg c1, if_pos c17]
      rw [he]
      exact loop_X12_so_23 σ who wh a b hm  500 0  (by omega) (by omega)
  · refine zRx.aload_n 0 rfl rfl dX12_so_4 ?_
    refine zRx.getR (a := 0) (b := 11) fl_12_62 rfl rfl dX12_so_5 ?_
    refine zRx.iload_n 1 rfl rfl dX12_so_8 ?_
    refine zRx.ialdv (v := σ 11 who) rfl rfl (by omega) (by omega) dX12_so_9 ?_
    refine zRx.iload_n 3 rfl rfl dX12_so_10 ?_
    refine zRx.cSi (w := .inl (b2 (hb (σ 11 who) a))) (M := m_X12_has) (av := [.inl (σ 11 who), .inl a]) cs_12_272 mk_X12_has (by decide) rfl (Nat.le_of_ble_eq_true rfl) dX12_so_11 (does_X12_has (σ 11 who) a SM σ) ?_
    exact zR.zret rfl (b2_01 _) dX12_so_14 (by have he : R_X12_so σ who wh a b = b2 (hb (σ 11 who) a) := (by rw [R_X12_so, if_pos c1]); rw [he]; exact ⟨rfl, rfl⟩)

theorem soL_01 (σ : zG) (who wh a b : Int) : ∀ (n : Nat) (q : Int), 0 ≤ L_X12_so_23 σ who wh a b n q ∧ L_X12_so_23 σ who wh a b n q ≤ 1
  | 0, q => (by decide : (0 : Int) ≤ 0 ∧ (0 : Int) ≤ 1)
  | n + 1, q => by
    rw [L_X12_so_23]
    repeat' split
    all_goals first | exact soL_01 σ who wh a b n _ | decide
theorem so_01 (σ : zG) (who wh a b : Int) : 0 ≤ R_X12_so σ who wh a b ∧ R_X12_so σ who wh a b ≤ 1 := by
  unfold R_X12_so
  repeat' split
  all_goals first | exact b2_01 _ | exact soL_01 σ who wh a b _ _ | decide

theorem hg7 {s : Int → Int} {q h : Int} (h0 : 0 ≤ q) (e : h = hg s q.toNat) (c : s (474 + (3 * q)) = 7) : h = hg s (q + 1).toNat := by
  have e1 : (q + 1).toNat = q.toNat + 1 := by omega
  have e2 : ((q.toNat : Nat) : Int) = q := by omega
  rw [e1, hg, e2, if_pos c, e]
theorem hg8 {s : Int → Int} {q h : Int} (h0 : 0 ≤ q) (e : h = hg s q.toNat) (c : ¬ s (474 + (3 * q)) = 7) (c2 : s (474 + (3 * q)) = 8 ∨ s (474 + (3 * q)) = 9) : h + (-1) = hg s (q + 1).toNat := by
  have e1 : (q + 1).toNat = q.toNat + 1 := by omega
  have e2 : ((q.toNat : Nat) : Int) = q := by omega
  rw [e1, hg, e2, if_neg c, if_pos c2, e]
  omega
theorem hg1 {s : Int → Int} {q h : Int} (h0 : 0 ≤ q) (e : h = hg s q.toNat) (c : ¬ s (474 + (3 * q)) = 7) (c8 : ¬ s (474 + (3 * q)) = 8) (c9 : ¬ s (474 + (3 * q)) = 9) : h + 1 = hg s (q + 1).toNat := by
  have e1 : (q + 1).toNat = q.toNat + 1 := by omega
  have e2 : ((q.toNat : Nat) : Int) = q := by omega
  rw [e1, hg, e2, if_neg c, if_neg (fun q => q.elim c8 c9), e]

def L_X12_isSaid_4 (who : Int) : Nat → Int → Int → zG → Int × zG
  | 0, _, _, σ => (0, σ)
  | n + 1, ht, q, σ => if (σ 2 473) ≤ q then (σ 38 0, σ) else (if (σ 2 (474 + (3 * q))) = 7 then (if (σ 38 (ht - 1)) = 0 then (L_X12_isSaid_4 who n ht (q + 1) (zu σ 38 (ht - 1) 1)) else (L_X12_isSaid_4 who n ht (q + 1) (zu σ 38 (ht - 1) 0))) else (if (σ 2 (474 + (3 * q))) = 8 then (if (σ 38 ((ht + (-1)) - 1)) = 0 then (L_X12_isSaid_4 who n (ht + (-1)) (q + 1) (zu σ 38 ((ht + (-1)) - 1) 0)) else (if (σ 38 (ht + (-1))) = 0 then (L_X12_isSaid_4 who n (ht + (-1)) (q + 1) (zu σ 38 ((ht + (-1)) - 1) 0)) else (L_X12_isSaid_4 who n (ht + (-1)) (q + 1) (zu σ 38 ((ht + (-1)) - 1) 1)))) else (if (σ 2 (474 + (3 * q))) = 9 then (if (σ 38 ((ht + (-1)) - 1)) = 0 then (if (σ 38 (ht + (-1))) = 0 then (L_X12_isSaid_4 who n (ht + (-1)) (q + 1) (zu σ 38 ((ht + (-1)) - 1) 0)) else (L_X12_isSaid_4 who n (ht + (-1)) (q + 1) (zu σ 38 ((ht + (-1)) - 1) 1))) else (L_X12_isSaid_4 who n (ht + (-1)) (q + 1) (zu σ 38 ((ht + (-1)) - 1) 1))) else (L_X12_isSaid_4 who n (ht + 1) (q + 1) (zu σ 38 ht (R_X12_so σ who (σ 2 (474 + (3 * q))) (σ 2 ((474 + (3 * q)) + 1)) (σ 2 ((474 + (3 * q)) + 2))))))))
theorem fr_L_X12_isSaid_4 (who : Int)  (n : Nat) (ht q : Int) (σ : zG) {k : Nat} (h : k ∉ [38]) : (L_X12_isSaid_4 who n ht q σ).2 k = σ k := by
  induction n generalizing ht q σ with
  | zero => rfl
  | succ n ih =>
    have ne : ∀ c ∈ [38], k ≠ c := fun c hc e => h (e ▸ hc)
    rw [L_X12_isSaid_4]
    repeat' split
    all_goals first | rfl | simp only [zu_row _ _ _ (ne 38 (by decide)), ih]

set_option maxRecDepth 20000 in
theorem loop_X12_isSaid_4 (who : Int) (hw : 0 ≤ who ∧ who < 8) : ∀ (n : Nat) (ht q : Int) (σ : zG), 0 ≤ q → σ 0 43 ≤ 420 → CW (σ 2) → q ≤ σ 2 473 → ht = hg (σ 2) q.toNat → (σ 2 473 - q).toNat < n → zR SM 3 m_X12_isSaid 4 [(0, zP 0), (1, .inl who), (2, .inl ht), (3, .inl q)] [] σ (zEq (some (.inl (L_X12_isSaid_4 who n ht q σ).1)) (L_X12_isSaid_4 who n ht q σ).2) := by
  intro n
  induction n with
  | zero => intro ht q σ h0 hm hC hq hh hmz; exact absurd hmz (Nat.not_lt_zero _)
  | succ n ih =>
    intro ht q σ h0 hm hC hq hh hmz
    have hcw := hC.1
    refine zRx.iload_n 3 rfl rfl dX12_isSaid_4 ?_
    refine zRx.aload_n 0 rfl rfl dX12_isSaid_5 ?_
    refine zRx.getR (a := 0) (b := 2) fl_12_33 rfl rfl dX12_isSaid_6 ?_
    refine zRx.sipush ⟨by decide, by decide⟩ rfl dX12_isSaid_9 ?_
    refine zRx.ialdv (v := σ 2 473) rfl rfl (by decide) (by decide) dX12_isSaid_12 ?_
    refine zRx.icmp_ge (tgt := 202) dX12_isSaid_13 (by decide) (fun c13 => ?_) (fun c13 => ?_)
    · refine zRx.rg (fun hg0 => ?_)
      refine zRx.aload_n 0 rfl rfl dX12_isSaid_202 ?_
      refine zRx.getR (a := 0) (b := 38) fl_12_144 rfl rfl dX12_isSaid_203 ?_
      refine zRx.iconst ⟨by decide, by decide⟩ dX12_isSaid_206 ?_
      refine zRx.zaldv (v := σ 38 0) rfl rfl (by decide) (by decide) dX12_isSaid_207 ?_
      exact zR.zret rfl (rG_a (t := 3) hg0 rfl 0) dX12_isSaid_208 (by have he : L_X12_isSaid_4 who (n + 1) ht q σ = (σ 38 0, σ) := (by rw [L_X12_isSaid_4, if_pos c13]); rw [he]; exact ⟨rfl, rfl⟩)
    · have hz := hg_r hC q.toNat (by omega)
      have hz2 := hC.2 q.toNat (by omega)
      have eq1 : ((q.toNat : Nat) : Int) = q := by omega
      rw [eq1] at hz2
      refine zRx.aload_n 0 rfl rfl dX12_isSaid_16 ?_
      refine zRx.getR (a := 0) (b := 2) fl_12_33 rfl rfl dX12_isSaid_17 ?_
      refine zRx.sipush ⟨by decide, by decide⟩ rfl dX12_isSaid_20 ?_
      refine zRx.iconst ⟨by decide, by decide⟩ dX12_isSaid_23 ?_
      refine zRx.iload_n 3 rfl rfl dX12_isSaid_24 ?_
      refine zRx.imul ⟨by omega, by omega⟩ dX12_isSaid_25 ?_
      refine zRx.iadd ⟨by omega, by omega⟩ dX12_isSaid_26 ?_
      refine zRx.ialdv (v := σ 2 (474 + (3 * q))) rfl rfl (by omega) (by omega) dX12_isSaid_27 ?_
      refine zRx.istore (ls' := [(0, zP 0), (1, .inl who), (2, .inl ht), (3, .inl q), (4, .inl (σ 2 (474 + (3 * q))))]) rfl (by decide) dX12_isSaid_28 ?_
      refine zRx.iload 4 rfl dX12_isSaid_30 ?_
      refine zRx.bipush ⟨by decide, by decide⟩ rfl dX12_isSaid_32 ?_
      refine zRx.icmp_ne (tgt := 64) dX12_isSaid_34 (by decide) (fun c34 => ?_) (fun c34 => ?_)
      · refine zRx.iload 4 rfl dX12_isSaid_64 ?_
        refine zRx.bipush ⟨by decide, by decide⟩ rfl dX12_isSaid_66 ?_
        refine zRx.icmp_eq (tgt := 78) dX12_isSaid_68 (by decide) (fun c68 => ?_) (fun c68 => ?_)
        · refine zRx.iinc (n := -1) (ls' := [(0, zP 0), (1, .inl who), (2, .inl (ht + (-1))), (3, .inl q), (4, .inl (σ 2 (474 + (3 * q))))]) 2 rfl ⟨by omega, by omega⟩ rfl (by decide) dX12_isSaid_78 ?_
          refine zRx.aload_n 0 rfl rfl dX12_isSaid_81 ?_
          refine zRx.getR (a := 0) (b := 38) fl_12_144 rfl rfl dX12_isSaid_82 ?_
          refine zRx.iload_n 2 rfl rfl dX12_isSaid_85 ?_
          refine zRx.iconst ⟨by decide, by decide⟩ dX12_isSaid_86 ?_
          refine zRx.isub ⟨by omega, by omega⟩ dX12_isSaid_87 ?_
          refine zRx.iload 4 rfl dX12_isSaid_88 ?_
          refine zRx.bipush ⟨by decide, by decide⟩ rfl dX12_isSaid_90 ?_
          refine zRx.icmp_ne (tgt := 123) dX12_isSaid_92 (by decide) (fun c92 => absurd c68 c92) (fun c92 => ?_)
          refine zRx.aload_n 0 rfl rfl dX12_isSaid_95 ?_
          refine zRx.getR (a := 0) (b := 38) fl_12_144 rfl rfl dX12_isSaid_96 ?_
          refine zRx.iload_n 2 rfl rfl dX12_isSaid_99 ?_
          refine zRx.iconst ⟨by decide, by decide⟩ dX12_isSaid_100 ?_
          refine zRx.isub ⟨by omega, by omega⟩ dX12_isSaid_101 ?_
          refine zRx.zaldv (v := σ 38 ((ht + (-1)) - 1)) rfl rfl (by omega) (by omega) dX12_isSaid_102 ?_
          refine zRx.if_eq (tgt := 119) dX12_isSaid_103 (by decide) (fun c103 => ?_) (fun c103 => ?_)
          · refine zRx.iconst ⟨by decide, by decide⟩ dX12_isSaid_119 ?_
            refine zRx.goto (tgt := 148) dX12_isSaid_120 (by decide) ?_
            refine zRx.zast rfl (by omega) (by omega) ⟨by decide, by decide⟩ dX12_isSaid_148 ?_
            refine zRx.goto (tgt := 196) dX12_isSaid_149 (by decide) ?_
            refine zRx.iinc (n := 1) (ls' := [(0, zP 0), (1, .inl who), (2, .inl (ht + (-1))), (3, .inl (q + 1)), (4, .inl (σ 2 (474 + (3 * q))))]) 3 rfl ⟨by omega, by omega⟩ rfl (by decide) dX12_isSaid_196 ?_
            refine zRx.goto (tgt := 4) dX12_isSaid_199 (by decide) ?_
            refine zRx.pick [0, 1, 2, 3] (ls' := [(0, zP 0), (1, .inl who), (2, .inl (ht + (-1))), (3, .inl (q + 1))]) rfl ?_
            have he : L_X12_isSaid_4 who (n + 1) ht q σ = L_X12_isSaid_4 who n (ht + (-1)) (q + 1) (zu σ 38 ((ht + (-1)) - 1) 0) := by rw [L_X12_isSaid_4, if_neg (Int.not_le.mpr c13), if_neg c34, if_pos c68, if_pos c103]
            rw [he]
            exact ih (ht + (-1)) (q + 1) (zu σ 38 ((ht + (-1)) - 1) 0) (by omega) (by rw [zu_ne _ _ _ _ (by decide)]; exact hm) (by rw [zu_row _ _ _ (by decide)]; exact hC) (by rw [zu_ne _ _ _ _ (by decide)]; omega) (by rw [zu_row _ _ _ (by decide)]; exact (hg8 h0 hh c34 (Or.inl c68))) (by rw [zu_ne _ _ _ _ (by decide)]; omega)
          · refine zRx.aload_n 0 rfl rfl dX12_isSaid_106 ?_
            refine zRx.getR (a := 0) (b := 38) fl_12_144 rfl rfl dX12_isSaid_107 ?_
            refine zRx.iload_n 2 rfl rfl dX12_isSaid_110 ?_
            refine zRx.zaldv (v := σ 38 (ht + (-1))) rfl rfl (by omega) (by omega) dX12_isSaid_111 ?_
            refine zRx.if_eq (tgt := 119) dX12_isSaid_112 (by decide) (fun c112 => ?_) (fun c112 => ?_)
            · refine zRx.iconst ⟨by decide, by decide⟩ dX12_isSaid_119 ?_
              refine zRx.goto (tgt := 148) dX12_isSaid_120 (by decide) ?_
              refine zRx.zast rfl (by omega) (by omega) ⟨by decide, by decide⟩ dX12_isSaid_148 ?_
              refine zRx.goto (tgt := 196) dX12_isSaid_149 (by decide) ?_
              refine zRx.iinc (n := 1) (ls' := [(0, zP 0), (1, .inl who), (2, .inl (ht + (-1))), (3, .inl (q + 1)), (4, .inl (σ 2 (474 + (3 * q))))]) 3 rfl ⟨by omega, by omega⟩ rfl (by decide) dX12_isSaid_196 ?_
              refine zRx.goto (tgt := 4) dX12_isSaid_199 (by decide) ?_
              refine zRx.pick [0, 1, 2, 3] (ls' := [(0, zP 0), (1, .inl who), (2, .inl (ht + (-1))), (3, .inl (q + 1))]) rfl ?_
              have he : L_X12_isSaid_4 who (n + 1) ht q σ = L_X12_isSaid_4 who n (ht + (-1)) (q + 1) (zu σ 38 ((ht + (-1)) - 1) 0) := by rw [L_X12_isSaid_4, if_neg (Int.not_le.mpr c13), if_neg c34, if_pos c68, if_neg c103, if_pos c112]
              rw [he]
              exact ih (ht + (-1)) (q + 1) (zu σ 38 ((ht + (-1)) - 1) 0) (by omega) (by rw [zu_ne _ _ _ _ (by decide)]; exact hm) (by rw [zu_row _ _ _ (by decide)]; exact hC) (by rw [zu_ne _ _ _ _ (by decide)]; omega) (by rw [zu_row _ _ _ (by decide)]; exact (hg8 h0 hh c34 (Or.inl c68))) (by rw [zu_ne _ _ _ _ (by decide)]; omega)
            · refine zRx.iconst ⟨by decide, by decide⟩ dX12_isSaid_115 ?_
              refine zRx.goto (tgt := 148) dX12_isSaid_116 (by decide) ?_
              refine zRx.zast rfl (by omega) (by omega) ⟨by decide, by decide⟩ dX12_isSaid_148 ?_
              refine zRx.goto (tgt := 196) dX12_isSaid_149 (by decide) ?_
              refine zRx.iinc (n := 1) (ls' := [(0, zP 0), (1, .inl who), (2, .inl (ht + (-1))), (3, .inl (q + 1)), (4, .inl (σ 2 (474 + (3 * q))))]) 3 rfl ⟨by omega, by omega⟩ rfl (by decide) dX12_isSaid_196 ?_
              refine zRx.goto (tgt := 4) dX12_isSaid_199 (by decide) ?_
              refine zRx.pick [0, 1, 2, 3] (ls' := [(0, zP 0), (1, .inl who), (2, .inl (ht + (-1))), (3, .inl (q + 1))]) rfl ?_
              have he : L_X12_isSaid_4 who (n + 1) ht q σ = L_X12_isSaid_4 who n (ht + (-1)) (q + 1) (zu σ 38 ((ht + (-1)) - 1) 1) := by rw [L_X12_isSaid_4, if_neg (Int.not_le.mpr c13), if_neg c34, if_pos c68, if_neg c103, if_neg c112]
              rw [he]
              exact ih (ht + (-1)) (q + 1) (zu σ 38 ((ht + (-1)) - 1) 1) (by omega) (by rw [zu_ne _ _ _ _ (by decide)]; exact hm) (by rw [zu_row _ _ _ (by decide)]; exact hC) (by rw [zu_ne _ _ _ _ (by decide)]; omega) (by rw [zu_row _ _ _ (by decide)]; exact (hg8 h0 hh c34 (Or.inl c68))) (by rw [zu_ne _ _ _ _ (by decide)]; omega)
        · refine zRx.iload 4 rfl dX12_isSaid_71 ?_
          refine zRx.bipush ⟨by decide, by decide⟩ rfl dX12_isSaid_73 ?_
          refine zRx.icmp_ne (tgt := 152) dX12_isSaid_75 (by decide) (fun c75 => ?_) (fun c75 => ?_)
          · refine zRx.aload_n 0 rfl rfl dX12_isSaid_152 ?_
            refine zRx.getR (a := 0) (b := 38) fl_12_144 rfl rfl dX12_isSaid_153 ?_
            refine zRx.iload_n 2 rfl rfl dX12_isSaid_156 ?_
            refine zRx.aload_n 0 rfl rfl dX12_isSaid_157 ?_
            refine zRx.iload_n 1 rfl rfl dX12_isSaid_158 ?_
            refine zRx.iload 4 rfl dX12_isSaid_159 ?_
            refine zRx.aload_n 0 rfl rfl dX12_isSaid_161 ?_
            refine zRx.getR (a := 0) (b := 2) fl_12_33 rfl rfl dX12_isSaid_162 ?_
            refine zRx.sipush ⟨by decide, by decide⟩ rfl dX12_isSaid_165 ?_
            refine zRx.iconst ⟨by decide, by decide⟩ dX12_isSaid_168 ?_
            refine zRx.iload_n 3 rfl rfl dX12_isSaid_169 ?_
            refine zRx.imul ⟨by omega, by omega⟩ dX12_isSaid_170 ?_
            refine zRx.iadd ⟨by omega, by omega⟩ dX12_isSaid_171 ?_
            refine zRx.iconst ⟨by decide, by decide⟩ dX12_isSaid_172 ?_
            refine zRx.iadd ⟨by omega, by omega⟩ dX12_isSaid_173 ?_
            refine zRx.ialdv (v := σ 2 ((474 + (3 * q)) + 1)) rfl rfl (by omega) (by omega) dX12_isSaid_174 ?_
            refine zRx.aload_n 0 rfl rfl dX12_isSaid_175 ?_
            refine zRx.getR (a := 0) (b := 2) fl_12_33 rfl rfl dX12_isSaid_176 ?_
            refine zRx.sipush ⟨by decide, by decide⟩ rfl dX12_isSaid_179 ?_
            refine zRx.iconst ⟨by decide, by decide⟩ dX12_isSaid_182 ?_
            refine zRx.iload_n 3 rfl rfl dX12_isSaid_183 ?_
            refine zRx.imul ⟨by omega, by omega⟩ dX12_isSaid_184 ?_
            refine zRx.iadd ⟨by omega, by omega⟩ dX12_isSaid_185 ?_
            refine zRx.iconst ⟨by decide, by decide⟩ dX12_isSaid_186 ?_
            refine zRx.iadd ⟨by omega, by omega⟩ dX12_isSaid_187 ?_
            refine zRx.ialdv (v := σ 2 ((474 + (3 * q)) + 2)) rfl rfl (by omega) (by omega) dX12_isSaid_188 ?_
            refine zRx.cVi (w := .inl (R_X12_so σ who (σ 2 (474 + (3 * q))) (σ 2 ((474 + (3 * q)) + 1)) (σ 2 ((474 + (3 * q)) + 2)))) (M := m_X12_so) (av := [.inl who, .inl (σ 2 (474 + (3 * q))), .inl (σ 2 ((474 + (3 * q)) + 1)), .inl (σ 2 ((474 + (3 * q)) + 2))]) cv_12_502 mk_X12_so (by decide) (b := 0) rfl rfl (Nat.le_of_ble_eq_true rfl) dX12_isSaid_189 (does_X12_so σ who (σ 2 (474 + (3 * q))) (σ 2 ((474 + (3 * q)) + 1)) (σ 2 ((474 + (3 * q)) + 2)) hm hw) ?_
            refine zRx.zast rfl (by omega) (by omega) (so_01 _ _ _ _ _) dX12_isSaid_192 ?_
            refine zRx.iinc (n := 1) (ls' := [(0, zP 0), (1, .inl who), (2, .inl (ht + 1)), (3, .inl q), (4, .inl (σ 2 (474 + (3 * q))))]) 2 rfl ⟨by omega, by omega⟩ rfl (by decide) dX12_isSaid_193 ?_
            refine zRx.iinc (n := 1) (ls' := [(0, zP 0), (1, .inl who), (2, .inl (ht + 1)), (3, .inl (q + 1)), (4, .inl (σ 2 (474 + (3 * q))))]) 3 rfl ⟨by omega, by omega⟩ rfl (by decide) dX12_isSaid_196 ?_
            refine zRx.goto (tgt := 4) dX12_isSaid_199 (by decide) ?_
            refine zRx.pick [0, 1, 2, 3] (ls' := [(0, zP 0), (1, .inl who), (2, .inl (ht + 1)), (3, .inl (q + 1))]) rfl ?_
            have he : L_X12_isSaid_4 who (n + 1) ht q σ = L_X12_isSaid_4 who n (ht + 1) (q + 1) (zu σ 38 ht (R_X12_so σ who (σ 2 (474 + (3 * q))) (σ 2 ((474 + (3 * q)) + 1)) (σ 2 ((474 + (3 * q)) + 2)))) := by rw [L_X12_isSaid_4, if_neg (Int.not_le.mpr c13), if_neg c34, if_neg c68, if_neg c75]
            rw [he]
            exact ih (ht + 1) (q + 1) (zu σ 38 ht (R_X12_so σ who (σ 2 (474 + (3 * q))) (σ 2 ((474 + (3 * q)) + 1)) (σ 2 ((474 + (3 * q)) + 2)))) (by omega) (by rw [zu_ne _ _ _ _ (by decide)]; exact hm) (by rw [zu_row _ _ _ (by decide)]; exact hC) (by rw [zu_ne _ _ _ _ (by decide)]; omega) (by rw [zu_row _ _ _ (by decide)]; exact (hg1 h0 hh c34 c68 c75)) (by rw [zu_ne _ _ _ _ (by decide)]; omega)
          · refine zRx.iinc (n := -1) (ls' := [(0, zP 0), (1, .inl who), (2, .inl (ht + (-1))), (3, .inl q), (4, .inl (σ 2 (474 + (3 * q))))]) 2 rfl ⟨by omega, by omega⟩ rfl (by decide) dX12_isSaid_78 ?_
            refine zRx.aload_n 0 rfl rfl dX12_isSaid_81 ?_
            refine zRx.getR (a := 0) (b := 38) fl_12_144 rfl rfl dX12_isSaid_82 ?_
            refine zRx.iload_n 2 rfl rfl dX12_isSaid_85 ?_
            refine zRx.iconst ⟨by decide, by decide⟩ dX12_isSaid_86 ?_
            refine zRx.isub ⟨by omega, by omega⟩ dX12_isSaid_87 ?_
            refine zRx.iload 4 rfl dX12_isSaid_88 ?_
            refine zRx.bipush ⟨by decide, by decide⟩ rfl dX12_isSaid_90 ?_
            refine zRx.icmp_ne (tgt := 123) dX12_isSaid_92 (by decide) (fun c92 => ?_) (fun c92 => absurd c92 c68)
            refine zRx.aload_n 0 rfl rfl dX12_isSaid_123 ?_
            refine zRx.getR (a := 0) (b := 38) fl_12_144 rfl rfl dX12_isSaid_124 ?_
            refine zRx.iload_n 2 rfl rfl dX12_isSaid_127 ?_
            refine zRx.iconst ⟨by decide, by decide⟩ dX12_isSaid_128 ?_
            refine zRx.isub ⟨by omega, by omega⟩ dX12_isSaid_129 ?_
            refine zRx.zaldv (v := σ 38 ((ht + (-1)) - 1)) rfl rfl (by omega) (by omega) dX12_isSaid_130 ?_
            refine zRx.if_ne (tgt := 143) dX12_isSaid_131 (by decide) (fun c131 => ?_) (fun c131 => ?_)
            · refine zRx.iconst ⟨by decide, by decide⟩ dX12_isSaid_143 ?_
              refine zRx.goto (tgt := 148) dX12_isSaid_144 (by decide) ?_
              refine zRx.zast rfl (by omega) (by omega) ⟨by decide, by decide⟩ dX12_isSaid_148 ?_
              refine zRx.goto (tgt := 196) dX12_isSaid_149 (by decide) ?_
              refine zRx.iinc (n := 1) (ls' := [(0, zP 0), (1, .inl who), (2, .inl (ht + (-1))), (3, .inl (q + 1)), (4, .inl (σ 2 (474 + (3 * q))))]) 3 rfl ⟨by omega, by omega⟩ rfl (by decide) dX12_isSaid_196 ?_
              refine zRx.goto (tgt := 4) dX12_isSaid_199 (by decide) ?_
              refine zRx.pick [0, 1, 2, 3] (ls' := [(0, zP 0), (1, .inl who), (2, .inl (ht + (-1))), (3, .inl (q + 1))]) rfl ?_
              have he : L_X12_isSaid_4 who (n + 1) ht q σ = L_X12_isSaid_4 who n (ht + (-1)) (q + 1) (zu σ 38 ((ht + (-1)) - 1) 1) := by rw [L_X12_isSaid_4, if_neg (Int.not_le.mpr c13), if_neg c34, if_neg c68, if_pos c75, if_neg c131]
              rw [he]
              exact ih (ht + (-1)) (q + 1) (zu σ 38 ((ht + (-1)) - 1) 1) (by omega) (by rw [zu_ne _ _ _ _ (by decide)]; exact hm) (by rw [zu_row _ _ _ (by decide)]; exact hC) (by rw [zu_ne _ _ _ _ (by decide)]; omega) (by rw [zu_row _ _ _ (by decide)]; exact (hg8 h0 hh c34 (Or.inr c75))) (by rw [zu_ne _ _ _ _ (by decide)]; omega)
            · refine zRx.aload_n 0 rfl rfl dX12_isSaid_134 ?_
              refine zRx.getR (a := 0) (b := 38) fl_12_144 rfl rfl dX12_isSaid_135 ?_
              refine zRx.iload_n 2 rfl rfl dX12_isSaid_138 ?_
              refine zRx.zaldv (v := σ 38 (ht + (-1))) rfl rfl (by omega) (by omega) dX12_isSaid_139 ?_
              refine zRx.if_eq (tgt := 147) dX12_isSaid_140 (by decide) (fun c140 => ?_) (fun c140 => ?_)
              · refine zRx.iconst ⟨by decide, by decide⟩ dX12_isSaid_147 ?_
                refine zRx.zast rfl (by omega) (by omega) ⟨by decide, by decide⟩ dX12_isSaid_148 ?_
                refine zRx.goto (tgt := 196) dX12_isSaid_149 (by decide) ?_
                refine zRx.iinc (n := 1) (ls' := [(0, zP 0), (1, .inl who), (2, .inl (ht + (-1))), (3, .inl (q + 1)), (4, .inl (σ 2 (474 + (3 * q))))]) 3 rfl ⟨by omega, by omega⟩ rfl (by decide) dX12_isSaid_196 ?_
                refine zRx.goto (tgt := 4) dX12_isSaid_199 (by decide) ?_
                refine zRx.pick [0, 1, 2, 3] (ls' := [(0, zP 0), (1, .inl who), (2, .inl (ht + (-1))), (3, .inl (q + 1))]) rfl ?_
                have he : L_X12_isSaid_4 who (n + 1) ht q σ = L_X12_isSaid_4 who n (ht + (-1)) (q + 1) (zu σ 38 ((ht + (-1)) - 1) 0) := by rw [L_X12_isSaid_4, if_neg (Int.not_le.mpr c13), if_neg c34, if_neg c68, if_pos c75, if_pos c131, if_pos c140]
                rw [he]
                exact ih (ht + (-1)) (q + 1) (zu σ 38 ((ht + (-1)) - 1) 0) (by omega) (by rw [zu_ne _ _ _ _ (by decide)]; exact hm) (by rw [zu_row _ _ _ (by decide)]; exact hC) (by rw [zu_ne _ _ _ _ (by decide)]; omega) (by rw [zu_row _ _ _ (by decide)]; exact (hg8 h0 hh c34 (Or.inr c75))) (by rw [zu_ne _ _ _ _ (by decide)]; omega)
              · refine zRx.iconst ⟨by decide, by decide⟩ dX12_isSaid_143 ?_
                refine zRx.goto (tgt := 148) dX12_isSaid_144 (by decide) ?_
                refine zRx.zast rfl (by omega) (by omega) ⟨by decide, by decide⟩ dX12_isSaid_148 ?_
                refine zRx.goto (tgt := 196) dX12_isSaid_149 (by decide) ?_
                refine zRx.iinc (n := 1) (ls' := [(0, zP 0), (1, .inl who), (2, .inl (ht + (-1))), (3, .inl (q + 1)), (4, .inl (σ 2 (474 + (3 * q))))]) 3 rfl ⟨by omega, by omega⟩ rfl (by decide) dX12_isSaid_196 ?_
                refine zRx.goto (tgt := 4) dX12_isSaid_199 (by decide) ?_
                refine zRx.pick [0, 1, 2, 3] (ls' := [(0, zP 0), (1, .inl who), (2, .inl (ht + (-1))), (3, .inl (q + 1))]) rfl ?_
                have he : L_X12_isSaid_4 who (n + 1) ht q σ = L_X12_isSaid_4 who n (ht + (-1)) (q + 1) (zu σ 38 ((ht + (-1)) - 1) 1) := by rw [L_X12_isSaid_4, if_neg (Int.not_le.mpr c13), if_neg c34, if_neg c68, if_pos c75, if_pos c131, if_neg c140]
                rw [he]
                exact ih (ht + (-1)) (q + 1) (zu σ 38 ((ht + (-1)) - 1) 1) (by omega) (by rw [zu_ne _ _ _ _ (by decide)]; exact hm) (by rw [zu_row _ _ _ (by decide)]; exact hC) (by rw [zu_ne _ _ _ _ (by decide)]; omega) (by rw [zu_row _ _ _ (by decide)]; exact (hg8 h0 hh c34 (Or.inr c75))) (by rw [zu_ne _ _ _ _ (by decide)]; omega)
      · refine zRx.aload_n 0 rfl rfl dX12_isSaid_37 ?_
        refine zRx.getR (a := 0) (b := 38) fl_12_144 rfl rfl dX12_isSaid_38 ?_
        refine zRx.iload_n 2 rfl rfl dX12_isSaid_41 ?_
        refine zRx.iconst ⟨by decide, by decide⟩ dX12_isSaid_42 ?_
        refine zRx.isub ⟨by omega, by omega⟩ dX12_isSaid_43 ?_
        refine zRx.aload_n 0 rfl rfl dX12_isSaid_44 ?_
        refine zRx.getR (a := 0) (b := 38) fl_12_144 rfl rfl dX12_isSaid_45 ?_
        refine zRx.iload_n 2 rfl rfl dX12_isSaid_48 ?_
        refine zRx.iconst ⟨by decide, by decide⟩ dX12_isSaid_49 ?_
        refine zRx.isub ⟨by omega, by omega⟩ dX12_isSaid_50 ?_
        refine zRx.zaldv (v := σ 38 (ht - 1)) rfl rfl (by omega) (by omega) dX12_isSaid_51 ?_
        refine zRx.if_ne (tgt := 59) dX12_isSaid_52 (by decide) (fun c52 => ?_) (fun c52 => ?_)
        · refine zRx.iconst ⟨by decide, by decide⟩ dX12_isSaid_59 ?_
          refine zRx.zast rfl (by omega) (by omega) ⟨by decide, by decide⟩ dX12_isSaid_60 ?_
          refine zRx.goto (tgt := 196) dX12_isSaid_61 (by decide) ?_
          refine zRx.iinc (n := 1) (ls' := [(0, zP 0), (1, .inl who), (2, .inl ht), (3, .inl (q + 1)), (4, .inl (σ 2 (474 + (3 * q))))]) 3 rfl ⟨by omega, by omega⟩ rfl (by decide) dX12_isSaid_196 ?_
          refine zRx.goto (tgt := 4) dX12_isSaid_199 (by decide) ?_
          refine zRx.pick [0, 1, 2, 3] (ls' := [(0, zP 0), (1, .inl who), (2, .inl ht), (3, .inl (q + 1))]) rfl ?_
          have he : L_X12_isSaid_4 who (n + 1) ht q σ = L_X12_isSaid_4 who n ht (q + 1) (zu σ 38 (ht - 1) 0) := by rw [L_X12_isSaid_4, if_neg (Int.not_le.mpr c13), if_pos c34, if_neg c52]
          rw [he]
          exact ih ht (q + 1) (zu σ 38 (ht - 1) 0) (by omega) (by rw [zu_ne _ _ _ _ (by decide)]; exact hm) (by rw [zu_row _ _ _ (by decide)]; exact hC) (by rw [zu_ne _ _ _ _ (by decide)]; omega) (by rw [zu_row _ _ _ (by decide)]; exact (hg7 h0 hh c34)) (by rw [zu_ne _ _ _ _ (by decide)]; omega)
        · refine zRx.iconst ⟨by decide, by decide⟩ dX12_isSaid_55 ?_
          refine zRx.goto (tgt := 60) dX12_isSaid_56 (by decide) ?_
          refine zRx.zast rfl (by omega) (by omega) ⟨by decide, by decide⟩ dX12_isSaid_60 ?_
          refine zRx.goto (tgt := 196) dX12_isSaid_61 (by decide) ?_
          refine zRx.iinc (n := 1) (ls' := [(0, zP 0), (1, .inl who), (2, .inl ht), (3, .inl (q + 1)), (4, .inl (σ 2 (474 + (3 * q))))]) 3 rfl ⟨by omega, by omega⟩ rfl (by decide) dX12_isSaid_196 ?_
          refine zRx.goto (tgt := 4) dX12_isSaid_199 (by decide) ?_
          refine zRx.pick [0, 1, 2, 3] (ls' := [(0, zP 0), (1, .inl who), (2, .inl ht), (3, .inl (q + 1))]) rfl ?_
          have he : L_X12_isSaid_4 who (n + 1) ht q σ = L_X12_isSaid_4 who n ht (q + 1) (zu σ 38 (ht - 1) 1) := by rw [L_X12_isSaid_4, if_neg (Int.not_le.mpr c13), if_pos c34, if_pos c52]
          rw [he]
          exact ih ht (q + 1) (zu σ 38 (ht - 1) 1) (by omega) (by rw [zu_ne _ _ _ _ (by decide)]; exact hm) (by rw [zu_row _ _ _ (by decide)]; exact hC) (by rw [zu_ne _ _ _ _ (by decide)]; omega) (by rw [zu_row _ _ _ (by decide)]; exact (hg7 h0 hh c34)) (by rw [zu_ne _ _ _ _ (by decide)]; omega)
def R_X12_isSaid (σ : zG) (who : Int) : Int × zG := L_X12_isSaid_4 who 100 0 0 σ
theorem fr_R_X12_isSaid (σ : zG) (who : Int) {k : Nat} (h : k ∉ [38]) : (R_X12_isSaid σ who).2 k = σ k := by
  have ne : ∀ c ∈ [38], k ≠ c := fun c hc e => h (e ▸ hc)
  have nl_L_X12_isSaid_4 : k ∉ [38] := fun hm => h (by first | (revert hm; simp only [List.mem_cons, List.not_mem_nil, or_false]; omega) | (simp at hm))
  unfold R_X12_isSaid
  repeat' split
  all_goals first | rfl | simp only [zu_row _ _ _ (ne 38 (by decide)), fr_L_X12_isSaid_4 (h := nl_L_X12_isSaid_4)]

set_option maxRecDepth 20000 in
theorem does_X12_isSaid (σ : zG) (who : Int) (hw : 0 ≤ who ∧ who < 8) (hm : σ 0 43 ≤ 420) (hC : CW (σ 2))  : zDo SM 3 m_X12_isSaid [zP 0, .inl who] σ (zEq (some (.inl (R_X12_isSaid σ who).1)) (R_X12_isSaid σ who).2) := by
  refine zDo.intro mk_X12_isSaid (Nat.le_of_ble_eq_true rfl) ?_
  refine zRx.iconst ⟨by decide, by decide⟩ dX12_isSaid_0 ?_
  refine zRx.istore_n (ls' := [(0, zP 0), (1, .inl who), (2, .inl 0)]) rfl rfl (by decide) dX12_isSaid_1 ?_
  refine zRx.iconst ⟨by decide, by decide⟩ dX12_isSaid_2 ?_
  refine zRx.istore_n (ls' := [(0, zP 0), (1, .inl who), (2, .inl 0), (3, .inl 0)]) rfl rfl (by decide) dX12_isSaid_3 ?_
  have he : R_X12_isSaid σ who = L_X12_isSaid_4 who 100 0 0 σ := by rw [R_X12_isSaid]
  rw [he]
  exact loop_X12_isSaid_4 who hw  100 0 0 σ (by decide) hm hC hC.1.1 rfl (by have := hC.1; omega)

theorem row2_run {σ : zG} {j v b : Int} : R_X12_run (zu σ 0 j v) b 2 = σ 2 := by rw [fr_R_X12_run (h := by decide), zu_row _ _ _ (by decide)]

def L_X12_said_27  : Nat → Int → Int → zG → Int × zG
  | 0, _, _, σ => (0, σ)
  | n + 1, st, q, σ => if (σ 2 0) ≤ q then (st, σ) else (if ((R_X12_isSaid σ q).1) = 0 then (L_X12_said_27  n (bor st 0) (q + 1) ((R_X12_isSaid σ q).2)) else (L_X12_said_27  n (bor st (bshl 1 q)) (q + 1) ((R_X12_isSaid σ q).2)))
theorem fr_L_X12_said_27   (n : Nat) (st q : Int) (σ : zG) {k : Nat} (h : k ∉ [38]) : (L_X12_said_27  n st q σ).2 k = σ k := by
  induction n generalizing st q σ with
  | zero => rfl
  | succ n ih =>
    have ne : ∀ c ∈ [38], k ≠ c := fun c hc e => h (e ▸ hc)
    have nk_R_X12_isSaid : k ∉ [38] := fun hm => h (by first | (revert hm; simp only [List.mem_cons, List.not_mem_nil, or_false]; omega) | (simp at hm))
    rw [L_X12_said_27]
    repeat' split
    all_goals first | rfl | simp only [zu_row _ _ _ (ne 38 (by decide)), fr_R_X12_isSaid (h := nk_R_X12_isSaid), ih]

set_option maxRecDepth 20000 in
theorem loop_X12_said_27   : ∀ (n : Nat) (st q : Int) (σ : zG), 0 ≤ q → σ 0 43 ≤ 420 → CW (σ 2) → 0 ≤ σ 2 0 ∧ σ 2 0 ≤ 8 → (σ 2 0 - q).toNat < n → zR SM 6 m_X12_said 27 [(0, zP 0), (1, .inl st), (2, .inl q)] [] σ (zEq (some (.inl (L_X12_said_27  n st q σ).1)) (L_X12_said_27  n st q σ).2) := by
  intro n
  induction n with
  | zero => intro st q σ h0 hm hC hp hmz; exact absurd hmz (Nat.not_lt_zero _)
  | succ n ih =>
    intro st q σ h0 hm hC hp hmz
    refine zRx.iload_n 2 rfl rfl dX12_said_27 ?_
    refine zRx.aload_n 0 rfl rfl dX12_said_28 ?_
    refine zRx.getR (a := 0) (b := 2) fl_12_33 rfl rfl dX12_said_29 ?_
    refine zRx.iconst ⟨by decide, by decide⟩ dX12_said_32 ?_
    refine zRx.ialdv (v := σ 2 0) rfl rfl (by decide) (by decide) dX12_said_33 ?_
    refine zRx.icmp_ge (tgt := 61) dX12_said_34 (by decide) (fun c34 => ?_) (fun c34 => ?_)
    · refine zRx.iload_n 1 rfl rfl dX12_said_61 ?_
      exact zR.iret rfl dX12_said_62 (by have he : L_X12_said_27  (n + 1) st q σ = (st, σ) := (by rw [L_X12_said_27, if_pos c34]); rw [he]; exact ⟨rfl, rfl⟩)
    · refine zRx.iload_n 1 rfl rfl dX12_said_37 ?_
      refine zRx.aload_n 0 rfl rfl dX12_said_38 ?_
      refine zRx.iload_n 2 rfl rfl dX12_said_39 ?_
      refine zRx.cVi (w := .inl ((R_X12_isSaid σ q).1)) (M := m_X12_isSaid) (av := [.inl q]) cv_12_506 mk_X12_isSaid (by decide) (b := 0) rfl rfl (Nat.le_of_ble_eq_true rfl) dX12_said_40 (does_X12_isSaid σ q (by omega) hm hC) ?_
      refine zRx.if_eq (tgt := 52) dX12_said_43 (by decide) (fun c43 => ?_) (fun c43 => ?_)
      · refine zRx.iconst ⟨by decide, by decide⟩ dX12_said_52 ?_
        refine zRx.ior dX12_said_53 ?_
        refine zRx.istore_n (ls' := [(0, zP 0), (1, .inl (bor st 0)), (2, .inl q)]) rfl rfl (by decide) dX12_said_54 ?_
        refine zRx.iinc (n := 1) (ls' := [(0, zP 0), (1, .inl (bor st 0)), (2, .inl (q + 1))]) 2 rfl ⟨by omega, by omega⟩ rfl (by decide) dX12_said_55 ?_
        refine zRx.goto (tgt := 27) dX12_said_58 (by decide) ?_
        have he : L_X12_said_27  (n + 1) st q σ = L_X12_said_27  n (bor st 0) (q + 1) ((R_X12_isSaid σ q).2) := by rw [L_X12_said_27, if_neg (Int.not_le.mpr c34), if_pos c43]
        rw [he]
        exact ih (bor st 0) (q + 1) ((R_X12_isSaid σ q).2) (by omega) (by rw [fr_R_X12_isSaid (h := by decide)]; exact hm) (by rw [fr_R_X12_isSaid (h := by decide)]; exact hC) (by rw [fr_R_X12_isSaid (h := by decide)]; exact hp) (by rw [fr_R_X12_isSaid (h := by decide)]; omega)
      · refine zRx.iconst ⟨by decide, by decide⟩ dX12_said_46 ?_
        refine zRx.iload_n 2 rfl rfl dX12_said_47 ?_
        refine zRx.ishl dX12_said_48 ?_
        refine zRx.goto (tgt := 53) dX12_said_49 (by decide) ?_
        refine zRx.ior dX12_said_53 ?_
        refine zRx.istore_n (ls' := [(0, zP 0), (1, .inl (bor st (bshl 1 q))), (2, .inl q)]) rfl rfl (by decide) dX12_said_54 ?_
        refine zRx.iinc (n := 1) (ls' := [(0, zP 0), (1, .inl (bor st (bshl 1 q))), (2, .inl (q + 1))]) 2 rfl ⟨by omega, by omega⟩ rfl (by decide) dX12_said_55 ?_
        refine zRx.goto (tgt := 27) dX12_said_58 (by decide) ?_
        have he : L_X12_said_27  (n + 1) st q σ = L_X12_said_27  n (bor st (bshl 1 q)) (q + 1) ((R_X12_isSaid σ q).2) := by rw [L_X12_said_27, if_neg (Int.not_le.mpr c34), if_neg c43]
        rw [he]
        exact ih (bor st (bshl 1 q)) (q + 1) ((R_X12_isSaid σ q).2) (by omega) (by rw [fr_R_X12_isSaid (h := by decide)]; exact hm) (by rw [fr_R_X12_isSaid (h := by decide)]; exact hC) (by rw [fr_R_X12_isSaid (h := by decide)]; exact hp) (by rw [fr_R_X12_isSaid (h := by decide)]; omega)
def R_X12_said (σ : zG)  : Int × zG := if (σ 2 473) = 0 then ((-1), zu σ 0 0 0) else (L_X12_said_27  20 0 0 (R_X12_run (zu σ 0 0 0) (-1)))
theorem fr_R_X12_said (σ : zG)  {k : Nat} (h : k ∉ [0, 11, 12, 13, 14, 15, 16, 17, 18, 19, 20, 21, 22, 23, 24, 25, 38]) : (R_X12_said σ ).2 k = σ k := by
  have ne : ∀ c ∈ [0, 11, 12, 13, 14, 15, 16, 17, 18, 19, 20, 21, 22, 23, 24, 25, 38], k ≠ c := fun c hc e => h (e ▸ hc)
  have nk_R_X12_run : k ∉ [0, 11, 12, 13, 14, 15, 16, 17, 18, 19, 20, 21, 22, 23, 24, 25] := fun hm => h (by first | (revert hm; simp only [List.mem_cons, List.not_mem_nil, or_false]; omega) | (simp at hm))
  have nl_L_X12_said_27 : k ∉ [38] := fun hm => h (by first | (revert hm; simp only [List.mem_cons, List.not_mem_nil, or_false]; omega) | (simp at hm))
  unfold R_X12_said
  repeat' split
  all_goals first | rfl | simp only [zu_row _ _ _ (ne 0 (by decide)), zu_row _ _ _ (ne 11 (by decide)), zu_row _ _ _ (ne 12 (by decide)), zu_row _ _ _ (ne 13 (by decide)), zu_row _ _ _ (ne 14 (by decide)), zu_row _ _ _ (ne 15 (by decide)), zu_row _ _ _ (ne 16 (by decide)), zu_row _ _ _ (ne 17 (by decide)), zu_row _ _ _ (ne 18 (by decide)), zu_row _ _ _ (ne 19 (by decide)), zu_row _ _ _ (ne 20 (by decide)), zu_row _ _ _ (ne 21 (by decide)), zu_row _ _ _ (ne 22 (by decide)), zu_row _ _ _ (ne 23 (by decide)), zu_row _ _ _ (ne 24 (by decide)), zu_row _ _ _ (ne 25 (by decide)), zu_row _ _ _ (ne 38 (by decide)), fr_R_X12_run (h := nk_R_X12_run), fr_L_X12_said_27 (h := nl_L_X12_said_27)]

set_option maxRecDepth 20000 in
theorem does_X12_said (σ : zG)  (hN : MN (σ 2)) (hC : CW (σ 2))  : zDo SM 6 m_X12_said [zP 0] σ (zEq (some (.inl (R_X12_said σ ).1)) (R_X12_said σ ).2) := by
  refine zDo.intro mk_X12_said (Nat.le_of_ble_eq_true rfl) ?_
  have hcw := hC.1
  refine zRx.aload_n 0 rfl rfl dX12_said_0 ?_
  refine zRx.iconst ⟨by decide, by decide⟩ dX12_said_1 ?_
  refine zRx.putI (a := 0) (ji := 0) pl_12_1 rfl rfl rfl dX12_said_2 ?_
  refine zRx.aload_n 0 rfl rfl dX12_said_5 ?_
  refine zRx.getR (a := 0) (b := 2) fl_12_33 rfl rfl dX12_said_6 ?_
  refine zRx.sipush ⟨by decide, by decide⟩ rfl dX12_said_9 ?_
  refine zRx.ialdv (v := σ 2 473) (zu_ne _ _ _ _ (by decide)) rfl (by decide) (by decide) dX12_said_12 ?_
  refine zRx.if_ne (tgt := 18) dX12_said_13 (by decide) (fun c13 => ?_) (fun c13 => ?_)
  · refine zRx.aload_n 0 rfl rfl dX12_said_18 ?_
    refine zRx.iconst ⟨by decide, by decide⟩ dX12_said_19 ?_
    refine zRx.cVv (M := m_X12_run) (av := [.inl (-1)]) cv_12_400 mk_X12_run (by decide) (b := 0) rfl rfl (Nat.le_of_ble_eq_true rfl) dX12_said_20 (does_X12_run (zu σ 0 0 0) (-1) (MW_z hN _ _)) ?_
    refine zRx.iconst ⟨by decide, by decide⟩ dX12_said_23 ?_
    refine zRx.istore_n (ls' := [(0, zP 0), (1, .inl 0)]) rfl rfl (by decide) dX12_said_24 ?_
    refine zRx.iconst ⟨by decide, by decide⟩ dX12_said_25 ?_
    refine zRx.istore_n (ls' := [(0, zP 0), (1, .inl 0), (2, .inl 0)]) rfl rfl (by decide) dX12_said_26 ?_
    have he : R_X12_said σ  = L_X12_said_27  20 0 0 (R_X12_run (zu σ 0 0 0) (-1)) := by rw [R_X12_said, if_neg c13]
    rw [he]
    exact loop_X12_said_27    20 0 0 (R_X12_run (zu σ 0 0 0) (-1)) (by decide) (run_m hN _ _ _) (by rw [row2_run]; exact hC) (by rw [row2_run]; exact hN.2.1) (by rw [row2_run]; have := hN.2.1; omega)
  · refine zRx.iconst ⟨by decide, by decide⟩ dX12_said_16 ?_
    exact zR.iret rfl dX12_said_17 (by have he : R_X12_said σ  = ((-1), zu σ 0 0 0) := (by rw [R_X12_said, if_pos c13]); rw [he]; exact ⟨rfl, rfl⟩)

