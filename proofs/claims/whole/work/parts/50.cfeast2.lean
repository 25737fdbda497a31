/-! the class: feasts settled; wants -/
def S_X2_keep_29 (be : Int) : Nat → Int → zG → Int × zG
  | 0, q, σ => (q, σ)
  | n + 1, q, σ => if (σ 81 1) ≤ q then (q, σ) else (if (band (jl2i (jshr be (4 * (7 - q)))) 15) = 15 then (S_X2_keep_29 be n (q + 1) (zu σ 82 q (-1))) else (S_X2_keep_29 be n (q + 1) (zu σ 82 q (band (jl2i (jshr be (4 * (7 - q)))) 15))))
theorem fr_S_X2_keep_29 (be : Int)  (n : Nat) (q : Int) (σ : zG) {k : Nat} (h : k ∉ [82]) : (S_X2_keep_29 be n q σ).2 k = σ k := by
  induction n generalizing q σ with
  | zero => rfl
  | succ n ih =>
    have ne : ∀ c ∈ [82], k ≠ c := fun c hc e => h (e ▸ hc)
    rw [S_X2_keep_29]
    repeat' split
    all_goals first | rfl | simp only [zu_row _ _ _ (ne 82 (by decide)), ih]

set_option maxRecDepth 20000 in
theorem seg_X2_keep_29 (be : Int)  : ∀ (n : Nat) (q : Int) (σ : zG) (X : zX), 0 ≤ q → σ 81 1 ≤ 8 → (σ 81 1 - q).toNat < n → (zRx none 1 m_X2_keep SC 74 [(0, zP 81), (1, zJ be), (3, .inl ((S_X2_keep_29 be n q σ).1))] [] ((S_X2_keep_29 be n q σ).2) X) → zRx none 1 m_X2_keep SC 29 [(0, zP 81), (1, zJ be), (3, .inl q)] [] σ X := by
  intro n
  induction n with
  | zero => intro q σ X h0 hM hmz; exact absurd hmz (Nat.not_lt_zero _)
  | succ n ih =>
    intro q σ X h0 hM hmz K
    refine zRx.iload_n 2 rfl rfl dX2_keep_29 ?_
    refine zRx.aload_n 0 rfl rfl dX2_keep_30 ?_
    refine zRx.getIv (a := 81) (ji := 1) (v := σ 81 1) rfl fl_2_30 rfl rfl rfl dX2_keep_31 ?_
    refine zRx.icmp_ge (tgt := 74) dX2_keep_34 (by decide) (fun c34 => ?_) (fun c34 => ?_)
    · have he : S_X2_keep_29 be (n + 1) q σ = (q, σ) := by rw [S_X2_keep_29, if_pos c34]
      rw [he] at K
      exact K
    · refine zRx.lload_n 1 rfl rfl dX2_keep_37 ?_
      refine zRx.iload_n 2 rfl rfl dX2_keep_38 ?_
      refine zRx.cSi (w := .inl (4 * (7 - q))) (M := m_X2_digitShift) (av := [.inl q]) cs_2_100 mk_X2_digitShift (by decide) rfl (Nat.le_of_ble_eq_true rfl) dX2_keep_39 (does_X2_digitShift σ q SC (by omega)) ?_
      refine zRx.lshr dX2_keep_42 ?_
      refine zRx.l2i dX2_keep_43 ?_
      refine zRx.bipush ⟨by decide, by decide⟩ rfl dX2_keep_44 ?_
      refine zRx.iand dX2_keep_46 ?_
      refine zRx.istore (ls' := [(0, zP 81), (1, zJ be), (3, .inl q), (4, .inl (band (jl2i (jshr be (4 * (7 - q)))) 15))]) rfl (by decide) dX2_keep_47 ?_
      refine zRx.aload_n 0 rfl rfl dX2_keep_49 ?_
      refine zRx.getR (a := 81) (b := 82) fl_2_9 rfl rfl dX2_keep_50 ?_
      refine zRx.iload_n 2 rfl rfl dX2_keep_53 ?_
      refine zRx.iload 3 rfl dX2_keep_54 ?_
      refine zRx.bipush ⟨by decide, by decide⟩ rfl dX2_keep_56 ?_
      refine zRx.icmp_ne (tgt := 65) dX2_keep_58 (by decide) (fun c58 => ?_) (fun c58 => ?_)
      · refine zRx.iload 3 rfl dX2_keep_65 ?_
        refine zRx.iast rfl (by omega) (by omega) dX2_keep_67 ?_
        refine zRx.iinc (n := 1) (ls' := [(0, zP 81), (1, zJ be), (3, .inl (q + 1)), (4, .inl (band (jl2i (jshr be (4 * (7 - q)))) 15))]) 2 rfl ⟨by omega, by omega⟩ rfl (by decide) dX2_keep_68 ?_
        refine zRx.goto (tgt := 29) dX2_keep_71 (by decide) ?_
        refine zRx.pick [0, 1, 2] (ls' := [(0, zP 81), (1, zJ be), (3, .inl (q + 1))]) rfl ?_
        have he : S_X2_keep_29 be (n + 1) q σ = S_X2_keep_29 be n (q + 1) (zu σ 82 q (band (jl2i (jshr be (4 * (7 - q)))) 15)) := by rw [S_X2_keep_29, if_neg (Int.not_le.mpr c34), if_neg c58]
        rw [he] at K
        exact ih (q + 1) (zu σ 82 q (band (jl2i (jshr be (4 * (7 - q)))) 15)) _ (by omega) (by have e9 : (zu σ 82 q (band (jl2i (jshr be (4 * (7 - q)))) 15)) 81 1 = σ 81 1 := (zu_ne _ _ _ _ (by decide)); omega) (by have e9 : (zu σ 82 q (band (jl2i (jshr be (4 * (7 - q)))) 15)) 81 1 = σ 81 1 := (zu_ne _ _ _ _ (by decide)); omega) K
      · refine zRx.iconst ⟨by decide, by decide⟩ dX2_keep_61 ?_
        refine zRx.goto (tgt := 67) dX2_keep_62 (by decide) ?_
        refine zRx.iast rfl (by omega) (by omega) dX2_keep_67 ?_
        refine zRx.iinc (n := 1) (ls' := [(0, zP 81), (1, zJ be), (3, .inl (q + 1)), (4, .inl (band (jl2i (jshr be (4 * (7 - q)))) 15))]) 2 rfl ⟨by omega, by omega⟩ rfl (by decide) dX2_keep_68 ?_
        refine zRx.goto (tgt := 29) dX2_keep_71 (by decide) ?_
        refine zRx.pick [0, 1, 2] (ls' := [(0, zP 81), (1, zJ be), (3, .inl (q + 1))]) rfl ?_
        have he : S_X2_keep_29 be (n + 1) q σ = S_X2_keep_29 be n (q + 1) (zu σ 82 q (-1)) := by rw [S_X2_keep_29, if_neg (Int.not_le.mpr c34), if_pos c58]
        rw [he] at K
        exact ih (q + 1) (zu σ 82 q (-1)) _ (by omega) (by have e9 : (zu σ 82 q (-1)) 81 1 = σ 81 1 := (zu_ne _ _ _ _ (by decide)); omega) (by have e9 : (zu σ 82 q (-1)) 81 1 = σ 81 1 := (zu_ne _ _ _ _ (by decide)); omega) K
def R_X2_keep (σ : zG) (be : Int) : zG := (S_X2_keep_29 be 10 0 (zu (zu σ 81 2 (w32 ((σ 81 1) - (jl2i (jshr be 42))))) 81 3 (band (jl2i (jshr be 32)) 1023))).2
theorem fr_R_X2_keep (σ : zG) (be : Int) {k : Nat} (h : k ∉ [81, 82]) : (R_X2_keep σ be) k = σ k := by
  have ne : ∀ c ∈ [81, 82], k ≠ c := fun c hc e => h (e ▸ hc)
  have nk_S_X2_keep_29 : k ∉ [82] := fun hm => h (by first | (revert hm; simp only [List.mem_cons, List.not_mem_nil, or_false]; omega) | (simp at hm))
  have nl_S_X2_keep_29 : k ∉ [82] := fun hm => h (by first | (revert hm; simp only [List.mem_cons, List.not_mem_nil, or_false]; omega) | (simp at hm))
  unfold R_X2_keep
  repeat' split
  all_goals first | rfl | simp only [zu_row _ _ _ (ne 81 (by decide)), zu_row _ _ _ (ne 82 (by decide)), fr_S_X2_keep_29 (h := nk_S_X2_keep_29), fr_S_X2_keep_29 (h := nl_S_X2_keep_29)]

set_option maxRecDepth 20000 in
theorem does_X2_keep (σ : zG) (be : Int) (hM : σ 81 1 ≤ 8)  : zDo SC 1 m_X2_keep [zP 81, zJ be] σ (zEq none (R_X2_keep σ be)) := by
  refine zDo.intro mk_X2_keep (Nat.le_of_ble_eq_true rfl) ?_
  refine zRx.aload_n 0 rfl rfl dX2_keep_0 ?_
  refine zRx.aload_n 0 rfl rfl dX2_keep_1 ?_
  refine zRx.getIv (a := 81) (ji := 1) (v := σ 81 1) rfl fl_2_30 rfl rfl rfl dX2_keep_2 ?_
  refine zRx.lload_n 1 rfl rfl dX2_keep_5 ?_
  refine zRx.bipush ⟨by decide, by decide⟩ rfl dX2_keep_6 ?_
  refine zRx.lshr dX2_keep_8 ?_
  refine zRx.l2i dX2_keep_9 ?_
  refine zRx.isubW dX2_keep_10 ?_
  refine zRx.putI (a := 81) (ji := 2) pl_2_108 rfl rfl rfl dX2_keep_11 ?_
  refine zRx.aload_n 0 rfl rfl dX2_keep_14 ?_
  refine zRx.lload_n 1 rfl rfl dX2_keep_15 ?_
  refine zRx.bipush ⟨by decide, by decide⟩ rfl dX2_keep_16 ?_
  refine zRx.lshr dX2_keep_18 ?_
  refine zRx.l2i dX2_keep_19 ?_
  refine zRx.sipush ⟨by decide, by decide⟩ rfl dX2_keep_20 ?_
  refine zRx.iand dX2_keep_23 ?_
  refine zRx.putI (a := 81) (ji := 3) pl_2_111 rfl rfl rfl dX2_keep_24 ?_
  refine zRx.iconst ⟨by decide, by decide⟩ dX2_keep_27 ?_
  refine zRx.istore_n (ls' := [(0, zP 81), (1, zJ be), (3, .inl 0)]) rfl rfl (by decide) dX2_keep_28 ?_
  refine seg_X2_keep_29 be   10 0 (zu (zu σ 81 2 (w32 ((σ 81 1) - (jl2i (jshr be 42))))) 81 3 (band (jl2i (jshr be 32)) 1023)) _ (by omega) (by have e9 : (zu (zu σ 81 2 (w32 ((σ 81 1) - (jl2i (jshr be 42))))) 81 3 (band (jl2i (jshr be 32)) 1023)) 81 1 = σ 81 1 := ((zu_off _ _ _ (by decide)).trans (zu_off _ _ _ (by decide))); omega) (by have e9 : (zu (zu σ 81 2 (w32 ((σ 81 1) - (jl2i (jshr be 42))))) 81 3 (band (jl2i (jshr be 32)) 1023)) 81 1 = σ 81 1 := ((zu_off _ _ _ (by decide)).trans (zu_off _ _ _ (by decide))); omega) ?_
  exact zR.ret rfl dX2_keep_74 ⟨rfl, (by rw [R_X2_keep] : R_X2_keep σ be = (S_X2_keep_29 be 10 0 (zu (zu σ 81 2 (w32 ((σ 81 1) - (jl2i (jshr be 42))))) 81 3 (band (jl2i (jshr be 32)) 1023))).2).symm⟩

def WH (σ : zG) : Prop := ∀ f : Int, 0 ≤ f → f < σ 5 1 → 0 ≤ σ 10 f ∧ σ 10 f ≤ 99
theorem WH_row {σ τ : zG} (e : τ 5 = σ 5) (e2 : τ 10 = σ 10) (h : WH σ) : WH τ := by
  unfold WH at *
  rw [e, e2]
  exact h
theorem unpL_r (σ : zG) (st : Int) : ∀ (n : Nat) (sm q : Int), σ 81 1 ≤ 8 → 0 ≤ q → q ≤ 8 → 0 ≤ sm → sm ≤ q * 8796093022208 → 0 ≤ L_X2_unpaidBut_5 σ st n sm q ∧ L_X2_unpaidBut_5 σ st n sm q ≤ 70368744177664
  | 0, sm, q, _, _, _, _, _ => ⟨Int.le_refl _, (by decide : (0 : Int) ≤ 70368744177664)⟩
  | n + 1, sm, q, hM, h0, h8, h1, h2 => by
    rw [L_X2_unpaidBut_5]
    split
    · omega
    · have hx := dig_of (f := 15) (q := q) (by decide) (by omega)
      split
      · exact unpL_r σ st n _ _ hM (by omega) (by omega) (by omega) (by omega)
      · exact unpL_r σ st n _ _ hM (by omega) (by omega) (by omega) (by omega)
theorem unp_r (σ : zG) (st : Int) (hM : σ 81 1 ≤ 8) : 0 ≤ R_X2_unpaidBut σ st ∧ R_X2_unpaidBut σ st ≤ 70368744177664 := unpL_r σ st 10 0 0 hM (by decide) (by decide) (by decide) (by decide)

theorem zf_LB {σ : zG} (h : LB (σ 84)) : LB (zu (zfl σ 84 256 1152921504606846976) 84 0 0 84) := by
  intro j
  rw [zu_if]
  split
  · decide
  · unfold zfl
    simp only [if_pos]
    split
    · decide
    · exact h j

theorem set_256 {k : Int} (h : 0 ≤ k ∧ k ≤ 8) : 1 ≤ bshl 1 k ∧ bshl 1 k ≤ 256 := by
  rcases (show k = 0 ∨ k = 1 ∨ k = 2 ∨ k = 3 ∨ k = 4 ∨ k = 5 ∨ k = 6 ∨ k = 7 ∨ k = 8 by omega) with rfl | rfl | rfl | rfl | rfl | rfl | rfl | rfl | rfl <;> decide

def S_X2_settle_39  (se : Int) : Nat → Int → zG → Int × zG
  | 0, q, σ => (q, σ)
  | n + 1, q, σ => if (σ 5 1) ≤ q then (q, σ) else (S_X2_settle_39  se n (q + 1) (R_X2_tryFact σ q (σ 10 q) se))
theorem fr_S_X2_settle_39  (se : Int)  (n : Nat) (q : Int) (σ : zG) {k : Nat} (h : k ∉ [84]) : (S_X2_settle_39  se n q σ).2 k = σ k := by
  induction n generalizing q σ with
  | zero => rfl
  | succ n ih =>
    have ne : ∀ c ∈ [84], k ≠ c := fun c hc e => h (e ▸ hc)
    have nk_R_X2_tryFact : k ∉ [84] := fun hm => h (by first | (revert hm; simp only [List.mem_cons, List.not_mem_nil, or_false]; omega) | (simp at hm))
    rw [S_X2_settle_39]
    repeat' split
    all_goals first | rfl | simp only [zu_row _ _ _ (ne 84 (by decide)), fr_R_X2_tryFact (h := nk_R_X2_tryFact), ih]

set_option maxRecDepth 20000 in
theorem seg_X2_settle_39   (se : Int) : ∀ (n : Nat) (q : Int) (σ : zG) (X : zX), 0 ≤ q → 1 ≤ se ∧ se ≤ 256 → σ 81 1 ≤ 8 → LB (σ 84) → WH σ → σ 5 1 ≤ 12 → (σ 5 1 - q).toNat < n → ((0 ≤ ((S_X2_settle_39  se n q σ).1)) → (1 ≤ se ∧ se ≤ 256) → (((S_X2_settle_39  se n q σ).2) 81 1 ≤ 8) → (LB (((S_X2_settle_39  se n q σ).2) 84)) → (WH ((S_X2_settle_39  se n q σ).2)) → (((S_X2_settle_39  se n q σ).2) 5 1 ≤ 12) → zRx none 4 m_X2_settle SC 71 [(0, zP 81), (1, zP 53), (2, .inl se), (3, .inl ((S_X2_settle_39  se n q σ).1))] [] ((S_X2_settle_39  se n q σ).2) X) → zRx none 4 m_X2_settle SC 39 [(0, zP 81), (1, zP 53), (2, .inl se), (3, .inl q)] [] σ X := by
  intro n
  induction n with
  | zero => intro q σ X h0 hse hM hB hH hF hmz; exact absurd hmz (Nat.not_lt_zero _)
  | succ n ih =>
    intro q σ X h0 hse hM hB hH hF hmz K
    refine zRx.iload_n 3 rfl rfl dX2_settle_39 ?_
    refine zRx.aload_n 1 rfl rfl dX2_settle_40 ?_
    refine zRx.getR (a := 53) (b := 5) fl_2_42 rfl rfl dX2_settle_41 ?_
    refine zRx.getIv (a := 5) (ji := 1) (v := σ 5 1) rfl fl_2_48 rfl rfl rfl dX2_settle_44 ?_
    refine zRx.icmp_ge (tgt := 71) dX2_settle_47 (by decide) (fun c47 => ?_) (fun c47 => ?_)
    · have he : S_X2_settle_39  se (n + 1) q σ = (q, σ) := by rw [S_X2_settle_39, if_pos c47]
      rw [he] at K
      exact K h0 hse hM hB hH hF
    · refine zRx.aload_n 0 rfl rfl dX2_settle_50 ?_
      refine zRx.iload_n 3 rfl rfl dX2_settle_51 ?_
      refine zRx.aload_n 1 rfl rfl dX2_settle_52 ?_
      refine zRx.getR (a := 53) (b := 5) fl_2_42 rfl rfl dX2_settle_53 ?_
      refine zRx.getR (a := 5) (b := 10) fl_2_53 rfl rfl dX2_settle_56 ?_
      refine zRx.iload_n 3 rfl rfl dX2_settle_59 ?_
      refine zRx.ialdv (v := σ 10 q) rfl rfl (by omega) (by omega) dX2_settle_60 ?_
      refine zRx.iload_n 2 rfl rfl dX2_settle_61 ?_
      refine zRx.cV (M := m_X2_tryFact) (av := [.inl q, .inl (σ 10 q), .inl se]) cv_2_56 mk_X2_tryFact (by decide) (b := 81) rfl rfl (Nat.le_of_ble_eq_true rfl) dX2_settle_62 (does_X2_tryFact σ q (σ 10 q) se (by omega) (hH q (by omega) (by omega)) (by omega) hM hB) ?_
      intro v' σ' hq
      obtain ⟨⟨rfl, rfl⟩, hM1, hB1⟩ := hq
      refine id ?_
      refine zRx.iinc (n := 1) (ls' := [(0, zP 81), (1, zP 53), (2, .inl se), (3, .inl (q + 1))]) 3 rfl ⟨by omega, by omega⟩ rfl (by decide) dX2_settle_65 ?_
      refine zRx.goto (tgt := 39) dX2_settle_68 (by decide) ?_
      have he : S_X2_settle_39  se (n + 1) q σ = S_X2_settle_39  se n (q + 1) (R_X2_tryFact σ q (σ 10 q) se) := by rw [S_X2_settle_39, if_neg (Int.not_le.mpr c47)]
      rw [he] at K
      exact ih (q + 1) (R_X2_tryFact σ q (σ 10 q) se) _ (by omega) (by omega) hM1 hB1 (WH_row (fr_R_X2_tryFact σ q (σ 10 q) se (k := 5) (by decide)) (fr_R_X2_tryFact σ q (σ 10 q) se (k := 10) (by decide)) hH) (by have e9 : (R_X2_tryFact σ q (σ 10 q) se) 5 1 = σ 5 1 := (congrFun (fr_R_X2_tryFact σ q (σ 10 q) se (k := 5) (by decide)) _); omega) (by have e9 : (R_X2_tryFact σ q (σ 10 q) se) 5 1 = σ 5 1 := (congrFun (fr_R_X2_tryFact σ q (σ 10 q) se (k := 5) (by decide)) _); omega) K
def S_X2_settle_78  (se : Int) : Nat → Int → Int → zG → Int × Int × zG
  | 0, be, q, σ => (be, q, σ)
  | n + 1, be, q, σ => if se ≤ q then (be, q, σ) else (S_X2_settle_78  se n (min be ((σ 84 q) + (R_X2_unpaidBut σ q))) (q + 1) σ)
theorem fr_S_X2_settle_78  (se : Int)  (n : Nat) (be q : Int) (σ : zG) {k : Nat} (h : k ∉ []) : (S_X2_settle_78  se n be q σ).2.2 k = σ k := by
  induction n generalizing be q σ with
  | zero => rfl
  | succ n ih =>
    have ne : ∀ c ∈ [], k ≠ c := fun c hc e => h (e ▸ hc)
    rw [S_X2_settle_78]
    repeat' split
    all_goals first | rfl | simp only [ih]

set_option maxRecDepth 20000 in
theorem seg_X2_settle_78   (se : Int) : ∀ (n : Nat) (be q : Int) (σ : zG) (X : zX), 0 ≤ q ∧ 0 ≤ be ∧ be ≤ 1152921504606846976 → 1 ≤ se ∧ se ≤ 256 → 0 ≤ σ 81 1 ∧ σ 81 1 ≤ 8 → LB (σ 84) → (se - q).toNat < n → ((0 ≤ ((S_X2_settle_78  se n be q σ).2.1) ∧ 0 ≤ ((S_X2_settle_78  se n be q σ).1) ∧ ((S_X2_settle_78  se n be q σ).1) ≤ 1152921504606846976) → (1 ≤ se ∧ se ≤ 256) → (0 ≤ ((S_X2_settle_78  se n be q σ).2.2) 81 1 ∧ ((S_X2_settle_78  se n be q σ).2.2) 81 1 ≤ 8) → (LB (((S_X2_settle_78  se n be q σ).2.2) 84)) → zRx none 4 m_X2_settle SC 109 [(0, zP 81), (1, zP 53), (2, .inl se), (3, zJ ((S_X2_settle_78  se n be q σ).1)), (5, .inl ((S_X2_settle_78  se n be q σ).2.1))] [] ((S_X2_settle_78  se n be q σ).2.2) X) → zRx none 4 m_X2_settle SC 78 [(0, zP 81), (1, zP 53), (2, .inl se), (3, zJ be), (5, .inl q)] [] σ X := by
  intro n
  induction n with
  | zero => intro be q σ X h0 hse hM hB hmz; exact absurd hmz (Nat.not_lt_zero _)
  | succ n ih =>
    intro be q σ X h0 hse hM hB hmz K
    refine zRx.iload 4 rfl dX2_settle_78 ?_
    refine zRx.iload_n 2 rfl rfl dX2_settle_80 ?_
    refine zRx.icmp_ge (tgt := 109) dX2_settle_81 (by decide) (fun c81 => ?_) (fun c81 => ?_)
    · have he : S_X2_settle_78  se (n + 1) be q σ = (be, q, σ) := by rw [S_X2_settle_78, if_pos c81]
      rw [he] at K
      exact K h0 hse hM hB
    · have hu1 := unp_r σ q hM.2
      have hu2 := hB q
      refine zRx.lload_n 3 rfl rfl dX2_settle_84 ?_
      refine zRx.aload_n 0 rfl rfl dX2_settle_85 ?_
      refine zRx.getR (a := 81) (b := 84) fl_2_18 rfl rfl dX2_settle_86 ?_
      refine zRx.iload 4 rfl dX2_settle_89 ?_
      refine zRx.laldv (v := σ 84 q) rfl rfl (by omega) (by omega) dX2_settle_91 ?_
      refine zRx.aload_n 0 rfl rfl dX2_settle_92 ?_
      refine zRx.iload 4 rfl dX2_settle_93 ?_
      refine zRx.cVi (w := zJ (R_X2_unpaidBut σ q)) (M := m_X2_unpaidBut) (av := [.inl q]) cv_2_60 mk_X2_unpaidBut (by decide) (b := 81) rfl rfl (Nat.le_of_ble_eq_true rfl) dX2_settle_95 (does_X2_unpaidBut σ q hM) ?_
      refine zRx.ladd ⟨by omega, by omega⟩ dX2_settle_98 ?_
      refine zRx.mminl mm_2_64 (by decide) (Nat.le_of_ble_eq_true rfl) dX2_settle_99 ?_
      refine zRx.lstore_n (ls' := [(0, zP 81), (1, zP 53), (2, .inl se), (3, zJ (min be ((σ 84 q) + (R_X2_unpaidBut σ q)))), (5, .inl q)]) rfl rfl (by decide) dX2_settle_102 ?_
      refine zRx.iinc (n := 1) (ls' := [(0, zP 81), (1, zP 53), (2, .inl se), (3, zJ (min be ((σ 84 q) + (R_X2_unpaidBut σ q)))), (5, .inl (q + 1))]) 4 rfl ⟨by omega, by omega⟩ rfl (by decide) dX2_settle_103 ?_
      refine zRx.goto (tgt := 78) dX2_settle_106 (by decide) ?_
      have he : S_X2_settle_78  se (n + 1) be q σ = S_X2_settle_78  se n (min be ((σ 84 q) + (R_X2_unpaidBut σ q))) (q + 1) σ := by rw [S_X2_settle_78, if_neg (Int.not_le.mpr c81)]
      rw [he] at K
      exact ih (min be ((σ 84 q) + (R_X2_unpaidBut σ q))) (q + 1) σ _ (by omega) hse hM hB (by omega) K
def R_X2_settle (σ : zG)  : zG := if (σ 81 0) = 0 then (zu (R_X2_keep ((S_X2_settle_78  (bshl 1 ((R_X2_takeDebts σ) 81 1)) 300 1152921504606846976 0 ((S_X2_settle_39  (bshl 1 ((R_X2_takeDebts σ) 81 1)) 20 0 (zu (zfl (R_X2_takeDebts σ) 84 256 1152921504606846976) 84 0 0)).2)).2.2) ((S_X2_settle_78  (bshl 1 ((R_X2_takeDebts σ) 81 1)) 300 1152921504606846976 0 ((S_X2_settle_39  (bshl 1 ((R_X2_takeDebts σ) 81 1)) 20 0 (zu (zfl (R_X2_takeDebts σ) 84 256 1152921504606846976) 84 0 0)).2)).1)) 81 0 1) else σ
theorem fr_R_X2_settle (σ : zG)  {k : Nat} (h : k ∉ [81, 82, 83, 84]) : (R_X2_settle σ ) k = σ k := by
  have ne : ∀ c ∈ [81, 82, 83, 84], k ≠ c := fun c hc e => h (e ▸ hc)
  have nk_R_X2_keep : k ∉ [81, 82] := fun hm => h (by first | (revert hm; simp only [List.mem_cons, List.not_mem_nil, or_false]; omega) | (simp at hm))
  have nk_S_X2_settle_78 : k ∉ [] := fun hm => h (by first | (revert hm; simp only [List.mem_cons, List.not_mem_nil, or_false]; omega) | (simp at hm))
  have nk_S_X2_settle_39 : k ∉ [84] := fun hm => h (by first | (revert hm; simp only [List.mem_cons, List.not_mem_nil, or_false]; omega) | (simp at hm))
  have nk_zfl_84 : k ∉ [84] := fun hm => h (by first | (revert hm; simp only [List.mem_cons, List.not_mem_nil, or_false]; omega) | (simp at hm))
  have nk_R_X2_takeDebts : k ∉ [81, 83] := fun hm => h (by first | (revert hm; simp only [List.mem_cons, List.not_mem_nil, or_false]; omega) | (simp at hm))
  have nl_S_X2_settle_39 : k ∉ [84] := fun hm => h (by first | (revert hm; simp only [List.mem_cons, List.not_mem_nil, or_false]; omega) | (simp at hm))
  have nl_S_X2_settle_78 : k ∉ [] := fun hm => h (by first | (revert hm; simp only [List.mem_cons, List.not_mem_nil, or_false]; omega) | (simp at hm))
  unfold R_X2_settle
  repeat' split
  all_goals first | rfl | simp only [zu_row _ _ _ (ne 81 (by decide)), zu_row _ _ _ (ne 82 (by decide)), zu_row _ _ _ (ne 83 (by decide)), zu_row _ _ _ (ne 84 (by decide)), fr_R_X2_keep (h := nk_R_X2_keep), fr_S_X2_settle_78 (h := nk_S_X2_settle_78), fr_S_X2_settle_39 (h := nk_S_X2_settle_39), fr_zfl (h := nk_zfl_84), fr_R_X2_takeDebts (h := nk_R_X2_takeDebts), fr_S_X2_settle_39 (h := nl_S_X2_settle_39), fr_S_X2_settle_78 (h := nl_S_X2_settle_78)]

set_option maxRecDepth 20000 in
theorem does_X2_settle (σ : zG)  (hm : σ 53 8 ≤ 128) (hp : σ 5 0 ≤ 8) (hF : σ 5 1 ≤ 12) (hO : WO σ) (hH : WH σ) (hB : LB (σ 84))  : zDo SC 4 m_X2_settle [zP 81, zP 53] σ (zEq none (R_X2_settle σ )) := by
  refine zDo.intro mk_X2_settle (Nat.le_of_ble_eq_true rfl) ?_
  refine zRx.aload_n 0 rfl rfl dX2_settle_0 ?_
  refine zRx.getZv (a := 81) (ji := 0) (v := σ 81 0) rfl fl_2_22 rfl rfl rfl dX2_settle_1 ?_
  refine zRx.if_eq (tgt := 8) dX2_settle_4 (by decide) (fun c4 => ?_) (fun c4 => ?_)
  · refine zRx.aload_n 0 rfl rfl dX2_settle_8 ?_
    refine zRx.aload_n 1 rfl rfl dX2_settle_9 ?_
    refine zRx.cV (M := m_X2_takeDebts) (av := [zP 53]) cv_2_26 mk_X2_takeDebts (by decide) (b := 81) rfl rfl (Nat.le_of_ble_eq_true rfl) dX2_settle_10 (does_X2_takeDebts σ hm hp hF hO) ?_
    intro v' σ' hq
    obtain ⟨⟨rfl, rfl⟩, hMd⟩ := hq
    refine id ?_
    have hse9 : 1 ≤ bshl 1 (R_X2_takeDebts σ 81 1) ∧ bshl 1 (R_X2_takeDebts σ 81 1) ≤ 256 := set_256 hMd
    refine zRx.iconst ⟨by decide, by decide⟩ dX2_settle_13 ?_
    refine zRx.aload_n 0 rfl rfl dX2_settle_14 ?_
    refine zRx.getIv (a := 81) (ji := 1) (v := (R_X2_takeDebts σ) 81 1) rfl fl_2_30 rfl rfl rfl dX2_settle_15 ?_
    refine zRx.ishl dX2_settle_18 ?_
    refine zRx.istore_n (ls' := [(0, zP 81), (1, zP 53), (2, .inl (bshl 1 ((R_X2_takeDebts σ) 81 1)))]) rfl rfl (by decide) dX2_settle_19 ?_
    refine zRx.aload_n 0 rfl rfl dX2_settle_20 ?_
    refine zRx.getR (a := 81) (b := 84) fl_2_18 rfl rfl dX2_settle_21 ?_
    refine zRx.ldc2 ⟨by decide, by decide⟩ kl_2_34 dX2_settle_24 ?_
    refine zRx.cSv (M := m_J7_fill_d0a16) (av := [zP 84, zJ 1152921504606846976]) cs_2_36 mk_J7_fill_d0a16 (by decide) rfl (Nat.le_of_ble_eq_true rfl) dX2_settle_27 (does_fillJ SC 84 256 1152921504606846976 (R_X2_takeDebts σ) rfl (by decide)) ?_
    refine zRx.aload_n 0 rfl rfl dX2_settle_30 ?_
    refine zRx.getR (a := 81) (b := 84) fl_2_18 rfl rfl dX2_settle_31 ?_
    refine zRx.iconst ⟨by decide, by decide⟩ dX2_settle_34 ?_
    refine zRx.lconst (z := 0) rfl ⟨by decide, by decide⟩ dX2_settle_35 ?_
    refine zRx.last rfl (by decide) (by decide) dX2_settle_36 ?_
    refine zRx.iconst ⟨by decide, by decide⟩ dX2_settle_37 ?_
    refine zRx.istore_n (ls' := [(0, zP 81), (1, zP 53), (2, .inl (bshl 1 ((R_X2_takeDebts σ) 81 1))), (3, .inl 0)]) rfl rfl (by decide) dX2_settle_38 ?_
    refine seg_X2_settle_39   (bshl 1 ((R_X2_takeDebts σ) 81 1)) 20 0 (zu (zfl (R_X2_takeDebts σ) 84 256 1152921504606846976) 84 0 0) _ (by omega) hse9 (by have e9 : (zu (zfl (R_X2_takeDebts σ) 84 256 1152921504606846976) 84 0 0) 81 1 = (R_X2_takeDebts σ) 81 1 := ((zu_ne _ _ _ _ (by decide)).trans (congrFun (fr_zfl (R_X2_takeDebts σ) 84 256 1152921504606846976 (k := 81) (by decide)) _)); omega) (zf_LB (by rw [fr_R_X2_takeDebts (h := by decide)]; exact hB)) (WH_row (σ := σ) ((zu_row _ _ _ (by decide)).trans ((fr_zfl (R_X2_takeDebts σ) 84 256 1152921504606846976 (k := 5) (by decide)).trans (fr_R_X2_takeDebts σ (k := 5) (by decide)))) ((zu_row _ _ _ (by decide)).trans ((fr_zfl (R_X2_takeDebts σ) 84 256 1152921504606846976 (k := 10) (by decide)).trans (fr_R_X2_takeDebts σ (k := 10) (by decide)))) hH) (by have e9 : (zu (zfl (R_X2_takeDebts σ) 84 256 1152921504606846976) 84 0 0) 5 1 = σ 5 1 := ((zu_ne _ _ _ _ (by decide)).trans ((congrFun (fr_zfl (R_X2_takeDebts σ) 84 256 1152921504606846976 (k := 5) (by decide)) _).trans (congrFun (fr_R_X2_takeDebts σ (k := 5) (by decide)) _))); omega) (by have e9 : (zu (zfl (R_X2_takeDebts σ) 84 256 1152921504606846976) 84 0 0) 5 1 = σ 5 1 := ((zu_ne _ _ _ _ (by decide)).trans ((congrFun (fr_zfl (R_X2_takeDebts σ) 84 256 1152921504606846976 (k := 5) (by decide)) _).trans (congrFun (fr_R_X2_takeDebts σ (k := 5) (by decide)) _))); omega) ?_
    intro x39_h0 x39_hse x39_hM x39_hB x39_hH x39_hF
    refine zRx.ldc2 ⟨by decide, by decide⟩ kl_2_34 dX2_settle_71 ?_
    refine zRx.lstore_n (ls' := [(0, zP 81), (1, zP 53), (2, .inl (bshl 1 ((R_X2_takeDebts σ) 81 1))), (3, zJ 1152921504606846976)]) rfl rfl (by decide) dX2_settle_74 ?_
    refine zRx.iconst ⟨by decide, by decide⟩ dX2_settle_75 ?_
    refine zRx.istore (ls' := [(0, zP 81), (1, zP 53), (2, .inl (bshl 1 ((R_X2_takeDebts σ) 81 1))), (3, zJ 1152921504606846976), (5, .inl 0)]) rfl (by decide) dX2_settle_76 ?_
    refine seg_X2_settle_78   (bshl 1 ((R_X2_takeDebts σ) 81 1)) 300 1152921504606846976 0 ((S_X2_settle_39  (bshl 1 ((R_X2_takeDebts σ) 81 1)) 20 0 (zu (zfl (R_X2_takeDebts σ) 84 256 1152921504606846976) 84 0 0)).2) _ (by decide) hse9 (by rw [show ((S_X2_settle_39  (bshl 1 ((R_X2_takeDebts σ) 81 1)) 20 0 (zu (zfl (R_X2_takeDebts σ) 84 256 1152921504606846976) 84 0 0)).2) 81 = (R_X2_takeDebts σ) 81 from ((fr_S_X2_settle_39  (bshl 1 ((R_X2_takeDebts σ) 81 1)) 20 0 (zu (zfl (R_X2_takeDebts σ) 84 256 1152921504606846976) 84 0 0) (k := 81) (by decide)).trans ((zu_row _ _ _ (by decide)).trans (fr_zfl (R_X2_takeDebts σ) 84 256 1152921504606846976 (k := 81) (by decide))))]; exact hMd) x39_hB (by omega) ?_
    intro x78_h0 x78_hse x78_hM x78_hB
    refine zRx.aload_n 0 rfl rfl dX2_settle_109 ?_
    refine zRx.lload_n 3 rfl rfl dX2_settle_110 ?_
    refine zRx.cVv (M := m_X2_keep) (av := [zJ ((S_X2_settle_78  (bshl 1 ((R_X2_takeDebts σ) 81 1)) 300 1152921504606846976 0 ((S_X2_settle_39  (bshl 1 ((R_X2_takeDebts σ) 81 1)) 20 0 (zu (zfl (R_X2_takeDebts σ) 84 256 1152921504606846976) 84 0 0)).2)).1)]) cv_2_70 mk_X2_keep (by decide) (b := 81) rfl rfl (Nat.le_of_ble_eq_true rfl) dX2_settle_111 (does_X2_keep ((S_X2_settle_78  (bshl 1 ((R_X2_takeDebts σ) 81 1)) 300 1152921504606846976 0 ((S_X2_settle_39  (bshl 1 ((R_X2_takeDebts σ) 81 1)) 20 0 (zu (zfl (R_X2_takeDebts σ) 84 256 1152921504606846976) 84 0 0)).2)).2.2) ((S_X2_settle_78  (bshl 1 ((R_X2_takeDebts σ) 81 1)) 300 1152921504606846976 0 ((S_X2_settle_39  (bshl 1 ((R_X2_takeDebts σ) 81 1)) 20 0 (zu (zfl (R_X2_takeDebts σ) 84 256 1152921504606846976) 84 0 0)).2)).1) (by have e9 : ((S_X2_settle_78  (bshl 1 ((R_X2_takeDebts σ) 81 1)) 300 1152921504606846976 0 ((S_X2_settle_39  (bshl 1 ((R_X2_takeDebts σ) 81 1)) 20 0 (zu (zfl (R_X2_takeDebts σ) 84 256 1152921504606846976) 84 0 0)).2)).2.2) 81 1 = (R_X2_takeDebts σ) 81 1 := ((congrFun (fr_S_X2_settle_78  (bshl 1 ((R_X2_takeDebts σ) 81 1)) 300 1152921504606846976 0 ((S_X2_settle_39  (bshl 1 ((R_X2_takeDebts σ) 81 1)) 20 0 (zu (zfl (R_X2_takeDebts σ) 84 256 1152921504606846976) 84 0 0)).2) (k := 81) (by decide)) _).trans ((congrFun (fr_S_X2_settle_39  (bshl 1 ((R_X2_takeDebts σ) 81 1)) 20 0 (zu (zfl (R_X2_takeDebts σ) 84 256 1152921504606846976) 84 0 0) (k := 81) (by decide)) _).trans ((zu_ne _ _ _ _ (by decide)).trans (congrFun (fr_zfl (R_X2_takeDebts σ) 84 256 1152921504606846976 (k := 81) (by decide)) _)))); omega)) ?_
    refine zRx.aload_n 0 rfl rfl dX2_settle_114 ?_
    refine zRx.iconst ⟨by decide, by decide⟩ dX2_settle_115 ?_
    refine zRx.putZ (a := 81) (ji := 0) pl_2_22 rfl rfl rfl ⟨by decide, by decide⟩ dX2_settle_116 ?_
    exact zR.ret rfl dX2_settle_119 ⟨rfl, (by rw [R_X2_settle, if_pos c4] : R_X2_settle σ  = zu (R_X2_keep ((S_X2_settle_78  (bshl 1 ((R_X2_takeDebts σ) 81 1)) 300 1152921504606846976 0 ((S_X2_settle_39  (bshl 1 ((R_X2_takeDebts σ) 81 1)) 20 0 (zu (zfl (R_X2_takeDebts σ) 84 256 1152921504606846976) 84 0 0)).2)).2.2) ((S_X2_settle_78  (bshl 1 ((R_X2_takeDebts σ) 81 1)) 300 1152921504606846976 0 ((S_X2_settle_39  (bshl 1 ((R_X2_takeDebts σ) 81 1)) 20 0 (zu (zfl (R_X2_takeDebts σ) 84 256 1152921504606846976) 84 0 0)).2)).1)) 81 0 1).symm⟩
  · exact zR.ret rfl dX2_settle_7 ⟨rfl, (by rw [R_X2_settle, if_neg c4] : R_X2_settle σ  = σ).symm⟩

