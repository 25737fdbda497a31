/-! the reference: the whole run -/
theorem band_lo {x : Int} (y : Int) (hx : 0 ≤ x ∧ x < 4096) : 0 ≤ band x y ∧ band x y ≤ x := by
  obtain ⟨n, rfl⟩ := toN hx.1
  unfold band
  have h1 : (iv (n : Int) &&& iv y).toBitVec.toNat ≤ n := by
    rw [Int32.toBitVec_and, iv_nat (by omega), BitVec.toNat_and, BitVec.toNat_ofNat]
    exact Nat.le_trans Nat.and_le_left (Nat.mod_le _ _)
  rw [toInt_small (by omega)]
  omega
theorem bor_lo {x y : Int} (hx : 0 ≤ x ∧ x < 4096) (hy : 0 ≤ y ∧ y < 4096) : 0 ≤ bor x y ∧ bor x y < 4096 := by
  obtain ⟨n, rfl⟩ := toN hx.1
  obtain ⟨m, rfl⟩ := toN hy.1
  rw [bor_nat (by omega) (by omega)]
  have : n ||| m < 2 ^ 12 := Nat.or_lt_two_pow (by omega) (by omega)
  omega
theorem learns_K (σ : zG) (who f li : Int) (hs : MS (σ 2)) (hw : 0 ≤ who ∧ who < 8) (hf : 0 ≤ f ∧ f < 12) (hK : MK σ) : MK (R_X12_learns σ who f li) := by
  intro a h0 h8
  have e : R_X12_learns σ who f li 11 a = zu σ 11 who (bor (σ 11 who) (band (R_X12_follows σ (bor (σ 11 who) (bshl 1 f))) (bxor (σ 11 who) (-1)))) 11 a := by
    unfold R_X12_learns
    rw [fr_L_X12_learns_78 (h := by decide), fr_S_X12_learns_39 (h := by decide)]
  rw [e, zu_if]
  split
  · have h1 := hK who hw.1 hw.2
    have h2 := bor_pow h1 hf
    have h3 := fol_r σ _ hs (show 0 ≤ bor (σ 11 who) (bshl 1 f) ∧ bor (σ 11 who) (bshl 1 f) < 4096 by omega)
    have h4 := band_lo (bxor (σ 11 who) (-1)) (show 0 ≤ R_X12_follows σ (bor (σ 11 who) (bshl 1 f)) ∧ _ < 4096 by omega)
    exact bor_lo h1 (by omega)
  · exact hK a h0 h8
theorem MK_row {σ τ : zG} (h : τ 11 = σ 11) (hK : MK σ) : MK τ := fun a h0 h8 => by rw [h]; exact hK a h0 h8
theorem tells_K (σ : zG) (who to f li : Int) (hs : MS (σ 2)) (hw : 0 ≤ to ∧ to < 8) (hf : 0 ≤ f ∧ f < 12) (hK : MK σ) : MK (R_X12_tells σ who to f li) := by
  unfold R_X12_tells
  refine learns_K _ _ _ _ ?_ hw hf (MK_row ?_ hK)
  · rw [zu_row _ _ _ (by decide), zu_row _ _ _ (by decide), fr_S_X12_tells_11 (h := by decide)]
    exact hs
  · rw [zu_row _ _ _ (by decide), zu_row _ _ _ (by decide), fr_S_X12_tells_11 (h := by decide)]
theorem does_K (σ : zG) (i : Int) (hk : ML (σ 2) i) (hs : MS (σ 2)) (hK : MK σ) : MK (R_X12_does σ i).2 := by
  unfold R_X12_does
  split
  · refine MK_row ?_ hK
    show zu σ 0 44 (σ 2 ((173 + (5 * i)) + 1)) 11 = σ 11
    exact zu_row σ _ _ (by decide)
  · next h0 =>
    have h1 := hk h0
    split
    · split
      · refine MK_row ?_ hK
        rw [fr_L_X12_does_146 (h := by decide), fr_F_X12_owes (h := by decide)]
      · split
        · exact MK_row (fr_F_X12_owes _ _ _ _ _ _ (by decide)) hK
        · split
          · exact tells_K _ _ _ _ _ hs (by omega) (by omega) hK
          · refine learns_K _ _ _ _ ?_ (by omega) (by omega) (MK_row ?_ hK)
            · rw [zu_row _ _ _ (by decide), zu_row _ _ _ (by decide), zu_row _ _ _ (by decide)]
              exact hs
            · rw [zu_row _ _ _ (by decide), zu_row _ _ _ (by decide), zu_row _ _ _ (by decide)]
    · exact hK
theorem does_m (σ : zG) (i : Int) (hk : ML (σ 2) i) : σ 0 43 ≤ (R_X12_does σ i).2 0 43 ∧ (R_X12_does σ i).2 0 43 ≤ σ 0 43 + 7 := by
  unfold R_X12_does
  split
  · show σ 0 43 ≤ zu σ 0 44 (σ 2 ((173 + (5 * i)) + 1)) 0 43 ∧ zu σ 0 44 (σ 2 ((173 + (5 * i)) + 1)) 0 43 ≤ σ 0 43 + 7
    rw [zu_off _ _ _ (by decide)]
    omega
  · next h0 =>
    have h1 := hk h0
    split
    · split
      · next h2 =>
        have h3 := h1.2.2.2.1 h2
        have h4 := many_pcn σ (σ 2 ((173 + (5 * i)) + 4))
        have h5 := pcn_0 (σ 2 ((173 + (5 * i)) + 4))
        generalize (Int.tdiv (w32 ((w32 ((σ 2 (8 + (3 * (σ 2 ((173 + (5 * i)) + 3))))) + (1 + (R_X12_many σ (σ 2 ((173 + (5 * i)) + 4)))))) - 1)) (1 + (R_X12_many σ (σ 2 ((173 + (5 * i)) + 4))))) = ea
        have h6 := mowes_m σ (σ 2 ((173 + (5 * i)) + 1)) (σ 2 ((173 + (5 * i)) + 2)) (σ 2 ((173 + (5 * i)) + 3)) ea i
        have h7 := doesL_m i (σ 2 ((173 + (5 * i)) + 2)) (σ 2 ((173 + (5 * i)) + 3)) (1 + (R_X12_many σ (σ 2 ((173 + (5 * i)) + 4)))) ea 10 0 (F_X12_owes σ (σ 2 ((173 + (5 * i)) + 1)) (σ 2 ((173 + (5 * i)) + 2)) (σ 2 ((173 + (5 * i)) + 3)) ea i)
        omega
      · split
        · have h6 := mowes_m σ (σ 2 ((173 + (5 * i)) + 1)) (σ 2 ((173 + (5 * i)) + 2)) (σ 2 ((173 + (5 * i)) + 3)) (upM (σ 2 (8 + (3 * (σ 2 ((173 + (5 * i)) + 3))))) (σ 2 6)) i
          show σ 0 43 ≤ F_X12_owes _ _ _ _ _ _ 0 43 ∧ F_X12_owes _ _ _ _ _ _ 0 43 ≤ _
          omega
        · split
          · show σ 0 43 ≤ R_X12_tells _ _ _ _ _ 0 43 ∧ R_X12_tells _ _ _ _ _ 0 43 ≤ _
            rw [tells_m]
            omega
          · show σ 0 43 ≤ R_X12_learns _ _ _ _ 0 43 ∧ R_X12_learns _ _ _ _ 0 43 ≤ _
            rw [learns_m, zu_off _ _ _ (by decide), zu_ne _ _ _ _ (by decide), zu_ne _ _ _ _ (by decide)]
            omega
    · show σ 0 43 ≤ σ 0 43 ∧ σ 0 43 ≤ _
      omega
/-- the reference's rows as they must be -/
def MW (s : Int → Int) : Prop := MS s ∧ MT s ∧ s 0 ≤ 8 ∧ s 172 ≤ 60 ∧ ∀ i : Int, 0 ≤ i → i < s 172 → ML s i
theorem begin_K (σ : zG) (hs : MS (σ 2)) (hT : MT (σ 2)) : ∀ (n : Nat) (q : Int) (τ : zG), τ 2 = σ 2 → 0 ≤ q → (∀ a : Int, 0 ≤ a → a < q → 0 ≤ τ 11 a ∧ τ 11 a < 4096) → (8 - q).toNat < n → MK (S_X12_begin_2 n q τ).2
  | 0, q, τ, e, h0, h, hm => absurd hm (Nat.not_lt_zero _)
  | n + 1, q, τ, e, h0, h, hm => by
    rw [S_X12_begin_2]
    split
    · intro a ha h8
      exact h a ha (by omega)
    · refine begin_K σ hs hT n (q + 1) _ ?_ (by omega) (fun a ha haq => ?_) (by omega)
      · rw [zu_row _ _ _ (by decide), zu_row _ _ _ (by decide), zu_row _ _ _ (by decide)]
        exact e
      · rw [zu_ne _ _ _ _ (by decide), zu_ne _ _ _ _ (by decide), zu_if]
        have h1 := hT q h0 (by omega)
        rw [← e] at h1
        have h2 := fol_r τ (τ 2 (44 + q)) (by rw [e]; exact hs) h1
        split
        · omega
        · exact h a ha (by omega)

theorem begin_MK (σ : zG) (hW : MW (σ 2)) : MK (R_X12_begin σ) := by
  unfold R_X12_begin
  refine MK_row ?_ (begin_K σ hW.1 hW.2.1 10 0 σ rfl (by decide) (fun a h1 h2 => by omega) (by decide))
  rw [zu_row _ _ _ (by decide), zu_row _ _ _ (by decide), zu_row _ _ _ (by decide), zu_row _ _ _ (by decide), fr_S_X12_begin_49 (h := by decide)]
theorem begin_m (σ : zG) : R_X12_begin σ 0 43 = 0 := by
  unfold R_X12_begin
  rw [zu_off _ _ _ (by decide), zu_off _ _ _ (by decide), zu_off _ _ _ (by decide), zu_at]

def L_X12_run_6 (but : Int) : Nat → Int → zG → zG
  | 0, _, σ => σ
  | n + 1, q, σ => if (σ 2 172) ≤ q then σ else (if q = but then (L_X12_run_6 but n (q + 1) σ) else (if ((R_X12_does σ q).1) ≤ 0 then (L_X12_run_6 but n (q + 1) (zu (zu ((R_X12_does σ q).2) 15 q ((R_X12_does σ q).1)) 0 46 (w32 ((((R_X12_does σ q).2) 0 46) + 0)))) else (L_X12_run_6 but n (q + 1) (zu (zu ((R_X12_does σ q).2) 15 q ((R_X12_does σ q).1)) 0 46 (w32 ((((R_X12_does σ q).2) 0 46) + 1))))))
theorem fr_L_X12_run_6 (but : Int)  (n : Nat) (q : Int) (σ : zG) {k : Nat} (h : k ∉ [0, 11, 12, 13, 14, 15, 16, 17, 18, 19, 20, 21, 22, 23, 24, 25]) : (L_X12_run_6 but n q σ) k = σ k := by
  induction n generalizing q σ with
  | zero => rfl
  | succ n ih =>
    have ne : ∀ c ∈ [0, 11, 12, 13, 14, 15, 16, 17, 18, 19, 20, 21, 22, 23, 24, 25], k ≠ c := fun c hc e => h (e ▸ hc)
    have nk_R_X12_does : k ∉ [0, 11, 12, 13, 14, 16, 17, 18, 19, 20, 21, 22, 23, 24, 25] := fun hm => h (by revert hm; simp only [List.mem_cons, List.not_mem_nil, or_false]; omega)
    rw [L_X12_run_6]
    repeat' split
    all_goals first | rfl | simp only [zu_row _ _ _ (ne 0 (by decide)), zu_row _ _ _ (ne 11 (by decide)), zu_row _ _ _ (ne 12 (by decide)), zu_row _ _ _ (ne 13 (by decide)), zu_row _ _ _ (ne 14 (by decide)), zu_row _ _ _ (ne 15 (by decide)), zu_row _ _ _ (ne 16 (by decide)), zu_row _ _ _ (ne 17 (by decide)), zu_row _ _ _ (ne 18 (by decide)), zu_row _ _ _ (ne 19 (by decide)), zu_row _ _ _ (ne 20 (by decide)), zu_row _ _ _ (ne 21 (by decide)), zu_row _ _ _ (ne 22 (by decide)), zu_row _ _ _ (ne 23 (by decide)), zu_row _ _ _ (ne 24 (by decide)), zu_row _ _ _ (ne 25 (by decide)), fr_R_X12_does (h := nk_R_X12_does), ih]

set_option maxRecDepth 20000 in
theorem loop_X12_run_6 (but : Int)  : ∀ (n : Nat) (q : Int) (σ : zG), 0 ≤ q → MW (σ 2) → MK σ → 0 ≤ σ 0 43 ∧ σ 0 43 ≤ 7 * q → (σ 2 172 - q).toNat < n → zR SM 5 m_X12_run 6 [(0, zP 0), (1, .inl but), (2, .inl q)] [] σ (zEq none (L_X12_run_6 but n q σ)) := by
  intro n
  induction n with
  | zero => intro q σ h0 hW hKn hm hmz; exact absurd hmz (Nat.not_lt_zero _)
  | succ n ih =>
    intro q σ h0 hW hKn hm hmz
    refine zRx.iload_n 2 rfl rfl dX12_run_6 ?_
    refine zRx.aload_n 0 rfl rfl dX12_run_7 ?_
    refine zRx.getR (a := 0) (b := 2) fl_12_33 rfl rfl dX12_run_8 ?_
    refine zRx.sipush ⟨by decide, by decide⟩ rfl dX12_run_11 ?_
    refine zRx.ialdv (v := σ 2 172) rfl rfl (by decide) (by decide) dX12_run_14 ?_
    refine zRx.icmp_ge (tgt := 66) dX12_run_15 (by decide) (fun c15 => ?_) (fun c15 => ?_)
    · exact zR.ret rfl dX12_run_66 ⟨rfl, (by rw [L_X12_run_6, if_pos c15] : L_X12_run_6 but (n + 1) q σ = σ).symm⟩
    · obtain ⟨hS, hT, hp, hL, hB⟩ := id hW
      refine zRx.iload_n 2 rfl rfl dX12_run_18 ?_
      refine zRx.iload_n 1 rfl rfl dX12_run_19 ?_
      refine zRx.icmp_ne (tgt := 26) dX12_run_20 (by decide) (fun c20 => ?_) (fun c20 => ?_)
      · refine zRx.aload_n 0 rfl rfl dX12_run_26 ?_
        refine zRx.getR (a := 0) (b := 15) fl_12_74 rfl rfl dX12_run_27 ?_
        refine zRx.iload_n 2 rfl rfl dX12_run_30 ?_
        refine zRx.aload_n 0 rfl rfl dX12_run_31 ?_
        refine zRx.iload_n 2 rfl rfl dX12_run_32 ?_
        refine zRx.cVi (w := .inl ((R_X12_does σ q).1)) (M := m_X12_does) (av := [.inl q]) cv_12_394 mk_X12_does (by decide) (b := 0) rfl rfl (Nat.le_of_ble_eq_true rfl) dX12_run_33 (does_X12_does σ q (by omega) (hB _ (by omega) (by omega)) hS hKn hp (by omega)) ?_
        refine zRx.iast rfl (by omega) (by omega) dX12_run_36 ?_
        refine zRx.aload_n 0 rfl rfl dX12_run_37 ?_
        refine zRx.dup rfl dX12_run_38 ?_
        refine zRx.getIv (a := 0) (ji := 46) (v := ((R_X12_does σ q).2) 0 46) (zu_ne _ _ _ _ (by decide)) fl_12_366 rfl rfl rfl dX12_run_39 ?_
        refine zRx.aload_n 0 rfl rfl dX12_run_42 ?_
        refine zRx.getR (a := 0) (b := 15) fl_12_74 rfl rfl dX12_run_43 ?_
        refine zRx.iload_n 2 rfl rfl dX12_run_46 ?_
        refine zRx.ialdv (v := (R_X12_does σ q).1) (zu_at _ _ _ _) rfl (by omega) (by omega) dX12_run_47 ?_
        refine zRx.if_le (tgt := 55) dX12_run_48 (by decide) (fun c48 => ?_) (fun c48 => ?_)
        · refine zRx.iconst ⟨by decide, by decide⟩ dX12_run_55 ?_
          refine zRx.iaddW dX12_run_56 ?_
          refine zRx.putI (a := 0) (ji := 46) pl_12_366 rfl rfl rfl dX12_run_57 ?_
          refine zRx.iinc (n := 1) (ls' := [(0, zP 0), (1, .inl but), (2, .inl (q + 1))]) 2 rfl ⟨by omega, by omega⟩ rfl (by decide) dX12_run_60 ?_
          refine zRx.goto (tgt := 6) dX12_run_63 (by decide) ?_
          have he : L_X12_run_6 but (n + 1) q σ = L_X12_run_6 but n (q + 1) (zu (zu ((R_X12_does σ q).2) 15 q ((R_X12_does σ q).1)) 0 46 (w32 ((((R_X12_does σ q).2) 0 46) + 0))) := by rw [L_X12_run_6, if_neg (Int.not_le.mpr c15), if_neg c20, if_pos c48]
          rw [he]
          exact ih (q + 1) (zu (zu ((R_X12_does σ q).2) 15 q ((R_X12_does σ q).1)) 0 46 (w32 ((((R_X12_does σ q).2) 0 46) + 0))) (by omega) (by rw [show (zu (zu ((R_X12_does σ q).2) 15 q ((R_X12_does σ q).1)) 0 46 (w32 ((((R_X12_does σ q).2) 0 46) + 0))) 2 = σ 2 from ((zu_row _ _ _ (by decide)).trans ((zu_row _ _ _ (by decide)).trans (fr_R_X12_does σ q (k := 2) (by decide))))]; exact hW) (MK_row (by rw [zu_row _ _ _ (by decide), zu_row _ _ _ (by decide)]) (does_K σ q (hB _ (by omega) (by omega)) hS hKn)) (by have e9 : (zu (zu ((R_X12_does σ q).2) 15 q ((R_X12_does σ q).1)) 0 46 (w32 ((((R_X12_does σ q).2) 0 46) + 0))) 0 43 = (R_X12_does σ q).2 0 43 := (zu_off _ _ _ (by decide)).trans (zu_ne _ _ _ _ (by decide)); have := does_m σ q (hB _ (by omega) (by omega)); omega) (by rw [show (zu (zu ((R_X12_does σ q).2) 15 q ((R_X12_does σ q).1)) 0 46 (w32 ((((R_X12_does σ q).2) 0 46) + 0))) 2 = σ 2 from ((zu_row _ _ _ (by decide)).trans ((zu_row _ _ _ (by decide)).trans (fr_R_X12_does σ q (k := 2) (by decide))))]; omega)
        · refine zRx.iconst ⟨by decide, by decide⟩ dX12_run_51 ?_
          refine zRx.goto (tgt := 56) dX12_run_52 (by decide) ?_
          refine zRx.iaddW dX12_run_56 ?_
          refine zRx.putI (a := 0) (ji := 46) pl_12_366 rfl rfl rfl dX12_run_57 ?_
          refine zRx.iinc (n := 1) (ls' := [(0, zP 0), (1, .inl but), (2, .inl (q + 1))]) 2 rfl ⟨by omega, by omega⟩ rfl (by decide) dX12_run_60 ?_
          refine zRx.goto (tgt := 6) dX12_run_63 (by decide) ?_
          have he : L_X12_run_6 but (n + 1) q σ = L_X12_run_6 but n (q + 1) (zu (zu ((R_X12_does σ q).2) 15 q ((R_X12_does σ q).1)) 0 46 (w32 ((((R_X12_does σ q).2) 0 46) + 1))) := by rw [L_X12_run_6, if_neg (Int.not_le.mpr c15), if_neg c20, if_neg (Int.not_le.mpr c48)]
          rw [he]
          exact ih (q + 1) (zu (zu ((R_X12_does σ q).2) 15 q ((R_X12_does σ q).1)) 0 46 (w32 ((((R_X12_does σ q).2) 0 46) + 1))) (by omega) (by rw [show (zu (zu ((R_X12_does σ q).2) 15 q ((R_X12_does σ q).1)) 0 46 (w32 ((((R_X12_does σ q).2) 0 46) + 1))) 2 = σ 2 from ((zu_row _ _ _ (by decide)).trans ((zu_row _ _ _ (by decide)).trans (fr_R_X12_does σ q (k := 2) (by decide))))]; exact hW) (MK_row (by rw [zu_row _ _ _ (by decide), zu_row _ _ _ (by decide)]) (does_K σ q (hB _ (by omega) (by omega)) hS hKn)) (by have e9 : (zu (zu ((R_X12_does σ q).2) 15 q ((R_X12_does σ q).1)) 0 46 (w32 ((((R_X12_does σ q).2) 0 46) + 1))) 0 43 = (R_X12_does σ q).2 0 43 := (zu_off _ _ _ (by decide)).trans (zu_ne _ _ _ _ (by decide)); have := does_m σ q (hB _ (by omega) (by omega)); omega) (by rw [show (zu (zu ((R_X12_does σ q).2) 15 q ((R_X12_does σ q).1)) 0 46 (w32 ((((R_X12_does σ q).2) 0 46) + 1))) 2 = σ 2 from ((zu_row _ _ _ (by decide)).trans ((zu_row _ _ _ (by decide)).trans (fr_R_X12_does σ q (k := 2) (by decide))))]; omega)
      · refine zRx.goto (tgt := 60) dX12_run_23 (by decide) ?_
        refine zRx.iinc (n := 1) (ls' := [(0, zP 0), (1, .inl but), (2, .inl (q + 1))]) 2 rfl ⟨by omega, by omega⟩ rfl (by decide) dX12_run_60 ?_
        refine zRx.goto (tgt := 6) dX12_run_63 (by decide) ?_
        have he : L_X12_run_6 but (n + 1) q σ = L_X12_run_6 but n (q + 1) σ := by rw [L_X12_run_6, if_neg (Int.not_le.mpr c15), if_pos c20]
        rw [he]
        exact ih (q + 1) σ (by omega) hW hKn (by omega) (by omega)
def R_X12_run (σ : zG) (but : Int) : zG := L_X12_run_6 but 70 0 (R_X12_begin σ)
theorem fr_R_X12_run (σ : zG) (but : Int) {k : Nat} (h : k ∉ [0, 11, 12, 13, 14, 15, 16, 17, 18, 19, 20, 21, 22, 23, 24, 25]) : (R_X12_run σ but) k = σ k := by
  have ne : ∀ c ∈ [0, 11, 12, 13, 14, 15, 16, 17, 18, 19, 20, 21, 22, 23, 24, 25], k ≠ c := fun c hc e => h (e ▸ hc)
  have nk_R_X12_begin : k ∉ [0, 11, 12, 13, 14] := fun hm => h (by revert hm; simp only [List.mem_cons, List.not_mem_nil, or_false]; omega)
  have nl_L_X12_run_6 : k ∉ [0, 11, 12, 13, 14, 15, 16, 17, 18, 19, 20, 21, 22, 23, 24, 25] := fun hm => h (by revert hm; simp only [List.mem_cons, List.not_mem_nil, or_false]; omega)
  unfold R_X12_run
  repeat' split
  all_goals first | rfl | simp only [zu_row _ _ _ (ne 0 (by decide)), zu_row _ _ _ (ne 11 (by decide)), zu_row _ _ _ (ne 12 (by decide)), zu_row _ _ _ (ne 13 (by decide)), zu_row _ _ _ (ne 14 (by decide)), zu_row _ _ _ (ne 15 (by decide)), zu_row _ _ _ (ne 16 (by decide)), zu_row _ _ _ (ne 17 (by decide)), zu_row _ _ _ (ne 18 (by decide)), zu_row _ _ _ (ne 19 (by decide)), zu_row _ _ _ (ne 20 (by decide)), zu_row _ _ _ (ne 21 (by decide)), zu_row _ _ _ (ne 22 (by decide)), zu_row _ _ _ (ne 23 (by decide)), zu_row _ _ _ (ne 24 (by decide)), zu_row _ _ _ (ne 25 (by decide)), fr_R_X12_begin (h := nk_R_X12_begin), fr_L_X12_run_6 (h := nl_L_X12_run_6)]

set_option maxRecDepth 20000 in
theorem does_X12_run (σ : zG) (but : Int) (hW : MW (σ 2))  : zDo SM 5 m_X12_run [zP 0, .inl but] σ (zEq none (R_X12_run σ but)) := by
  refine zDo.intro mk_X12_run (Nat.le_of_ble_eq_true rfl) ?_
  refine zRx.aload_n 0 rfl rfl dX12_run_0 ?_
  refine zRx.cVv (M := m_X12_begin) (av := []) cv_12_391 mk_X12_begin (by decide) (b := 0) rfl rfl (Nat.le_of_ble_eq_true rfl) dX12_run_1 (does_X12_begin σ  hW.1 hW.2.1) ?_
  refine zRx.iconst ⟨by decide, by decide⟩ dX12_run_4 ?_
  refine zRx.istore_n (ls' := [(0, zP 0), (1, .inl but), (2, .inl 0)]) rfl rfl (by decide) dX12_run_5 ?_
  have he : R_X12_run σ but = L_X12_run_6 but 70 0 (R_X12_begin σ) := by rw [R_X12_run]
  rw [he]
  exact loop_X12_run_6 but   70 0 (R_X12_begin σ) (by omega) (by rw [fr_R_X12_begin σ (k := 2) (by decide)]; exact hW) (begin_MK σ hW) (by rw [begin_m]; decide) (by rw [fr_R_X12_begin σ (k := 2) (by decide)]; have := hW.2.2.2.1; omega)

