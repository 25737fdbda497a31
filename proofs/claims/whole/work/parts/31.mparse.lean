/-! the reference: its parser, small methods -/
/-- the reading place is in its range -/
def PI (σ : zG) : Prop := 0 ≤ σ 0 4 ∧ σ 0 4 ≤ 940 ∧ σ 0 3 ≤ 940
def PH (σ : zG) : Prop := (0 ≤ σ 3 0 ∧ σ 3 0 ≤ 8) ∧ (0 ≤ σ 3 1 ∧ σ 3 1 ≤ 12) ∧ (0 ≤ σ 3 2 ∧ σ 3 2 ≤ 8)
theorem PI_zu {σ : zG} {a : Nat} {i z : Int} (h : ¬ (a = 0 ∧ (i = 3 ∨ i = 4))) (hI : PI σ) : PI (zu σ a i z) := by
  unfold PI at *
  have e3 : zu σ a i z 0 3 = σ 0 3 := by
    by_cases ha : a = 0
    · subst ha
      exact zu_off _ _ _ (by omega)
    · exact zu_ne _ _ _ _ (by omega)
  have e4 : zu σ a i z 0 4 = σ 0 4 := by
    by_cases ha : a = 0
    · subst ha
      exact zu_off _ _ _ (by omega)
    · exact zu_ne _ _ _ _ (by omega)
  rw [e3, e4]
  exact hI
theorem PH_row {σ τ : zG} (e : τ 3 = σ 3) (h : PH σ) : PH τ := by
  unfold PH at *
  rw [e]
  exact h
theorem PH_zu {σ : zG} {a : Nat} {i z : Int} (h : a ≠ 3 ∨ (i ≠ 0 ∧ i ≠ 1 ∧ i ≠ 2)) (hI : PH σ) : PH (zu σ a i z) := by
  by_cases ha : a = 3
  · subst ha
    unfold PH at *
    rw [zu_off _ _ _ (by omega), zu_off _ _ _ (by omega), zu_off _ _ _ (by omega)]
    exact hI
  · exact PH_row (zu_row _ _ _ (by omega)) hI
theorem mtR_adv {u : Int → Int} {sz small : Int} {n : Nat} {a w m s p : Int} (hl : lod (pkc u sz p)) : p < (mtR u sz small (n + 1) a w m s p).2.2.2.2 := by
  rw [mtR, if_pos hl]
  have h := (mtR_mono u sz small n (mtA small a (pkc u sz p)) (mtW s w (pkc u sz p)) (mtN s m (pkc u sz p)) (s + 1) (p + 1)).1
  omega
/-- what a reading of a token leaves as it was, and how far it goes -/
theorem next_all (σ : zG) : (∀ k : Nat, k ≠ 0 → F_X12_next σ k = σ k) ∧ (∀ i : Int, i ≠ 4 → i ≠ 11 → i ≠ 12 → i ≠ 13 → i ≠ 14 → i ≠ 17 → F_X12_next σ 0 i = σ 0 i) ∧ (σ 0 4 ≤ F_X12_next σ 0 4 ∧ F_X12_next σ 0 4 ≤ max (σ 0 4) (σ 0 3)) ∧ (F_X12_next σ 0 11 = 0 ∨ F_X12_next σ 0 11 = 4 ∨ σ 0 4 < F_X12_next σ 0 4) ∧ (0 ≤ F_X12_next σ 0 11 ∧ F_X12_next σ 0 11 ≤ 4) := by
  have hS := skm_r (mu σ) (σ 0 3) 1000 (σ 0 4)
  have hT := mtR_mono (mu σ) (σ 0 3) (b2 (97 ≤ (pkc (mu σ) (σ 0 3) (skm (mu σ) (σ 0 3) 1000 (σ 0 4))) ∧ (pkc (mu σ) (σ 0 3) (skm (mu σ) (σ 0 3) 1000 (σ 0 4))) ≤ 122)) 1000 1 0 0 0 (skm (mu σ) (σ 0 3) 1000 (σ 0 4))
  have hC := fun h => pkc_lt (u := mu σ) (sz := σ 0 3) (p := skm (mu σ) (σ 0 3) 1000 (σ 0 4)) h
  have hG : lod (pkc (mu σ) (σ 0 3) (skm (mu σ) (σ 0 3) 1000 (σ 0 4))) → (skm (mu σ) (σ 0 3) 1000 (σ 0 4)) < (mtR (mu σ) (σ 0 3) (b2 (97 ≤ (pkc (mu σ) (σ 0 3) (skm (mu σ) (σ 0 3) 1000 (σ 0 4))) ∧ (pkc (mu σ) (σ 0 3) (skm (mu σ) (σ 0 3) 1000 (σ 0 4))) ≤ 122)) 1000 1 0 0 0 (skm (mu σ) (σ 0 3) 1000 (σ 0 4))).2.2.2.2 := fun hl => mtR_adv (n := 999) hl
  unfold lod at hG
  obtain ⟨τ, hF⟩ : ∃ τ, τ = F_X12_next σ := ⟨_, rfl⟩
  rw [← hF]
  unfold F_X12_next at hF
  generalize (mtR (mu σ) (σ 0 3) (b2 (97 ≤ (pkc (mu σ) (σ 0 3) (skm (mu σ) (σ 0 3) 1000 (σ 0 4))) ∧ (pkc (mu σ) (σ 0 3) (skm (mu σ) (σ 0 3) 1000 (σ 0 4))) ≤ 122)) 1000 1 0 0 0 (skm (mu σ) (σ 0 3) 1000 (σ 0 4))) = T at *
  generalize (pkc (mu σ) (σ 0 3) (skm (mu σ) (σ 0 3) 1000 (σ 0 4))) = C at *
  generalize (skm (mu σ) (σ 0 3) 1000 (σ 0 4)) = Q at *
  repeat' split at hF
  all_goals subst hF
  all_goals refine ⟨fun k hk => by funext i; simp [zu, hk], fun i h4 h11 h12 h13 h14 h17 => by simp [zu, h4, h11, h12, h13, h14, h17], ?_, ?_, ?_⟩
  all_goals simp [zu]
  all_goals omega
theorem fr_F_X12_next (σ : zG) {k : Nat} (h : k ∉ [0]) : F_X12_next σ k = σ k := (next_all σ).1 k (by simpa using h)
theorem PI_F_X12_next {σ : zG} (h : PI σ) : PI (F_X12_next σ) := by
  have h1 := next_all σ
  unfold PI at *
  rw [h1.2.1 3 (by decide) (by decide) (by decide) (by decide) (by decide) (by decide)]
  omega
theorem PH_F_X12_next {σ : zG} (h : PH σ) : PH (F_X12_next σ) := PH_row (fr_F_X12_next σ (by decide)) h
theorem zcmp_0 (a b : Int) : zcmp a b = 0 ↔ a = b := by
  unfold zcmp
  split
  · omega
  · split <;> omega

theorem does_next2 (σ : zG) (h : PI σ) : zDo SM 1 m_X12_next [zP 0] σ (zEq none (F_X12_next σ)) := does_X12_next σ h.1 h.2.2 h.2.1
theorem bad_eq2 (σ : zG) (kind v : Int) (e : σ 0 12 = v) : zDo SM 0 m_X12_bad [zP 0, .inl kind] σ (zEq (some (.inl 0)) (zu (zu σ 0 15 kind) 0 16 v)) := by
  subst e
  exact does_X12_bad σ kind
theorem isSign2 (σ : zG) (c v w : Int) (e : σ 0 11 = v) (e2 : σ 0 14 = w) : zDo SM 0 m_X12_isSign [zP 0, .inl c] σ (zEq (some (.inl (b2 (v = 3 ∧ w = c)))) σ) := by
  subst e
  subst e2
  exact does_X12_isSign σ c
theorem isWord2 (σ : zG) (c v w : Int) (e : σ 0 11 = v) (e2 : σ 0 17 = w) : zDo SM 0 m_X12_isWord [zP 0, zJ c] σ (zEq (some (.inl (b2 (v = 1 ∧ w = c)))) σ) := by
  subst e
  subst e2
  exact does_X12_isWord σ c
theorem bad_eq (σ : zG) (kind : Int) : zDo SM 0 m_X12_bad [zP 0, .inl kind] σ (zEq (some (.inl 0)) (zu (zu σ 0 15 kind) 0 16 (σ 0 12))) := does_X12_bad σ kind

def V_X12_sign (σ : zG) (c : Int) : Int := if σ 0 11 = 3 ∧ σ 0 14 = c then 1 else 0
def F_X12_sign (σ : zG) (c : Int) : zG := if σ 0 11 = 3 ∧ σ 0 14 = c then (F_X12_next σ) else (zu (zu σ 0 15 1) 0 16 (σ 0 12))
theorem fr_F_X12_sign (σ : zG) (c : Int) {k : Nat} (h : k ∉ [0]) : (F_X12_sign σ c) k = σ k := by
  have ne : ∀ c ∈ [0], k ≠ c := fun c hc e => h (e ▸ hc)
  have nk_F_X12_next : k ∉ [0] := fun hm => h (by first | (revert hm; simp only [List.mem_cons, List.not_mem_nil, or_false]; omega) | (simp at hm))
  unfold F_X12_sign
  repeat' split
  all_goals first | rfl | simp only [zu_row _ _ _ (ne 0 (by decide)), fr_F_X12_next (h := nk_F_X12_next)]

set_option maxRecDepth 20000 in
theorem does_X12_sign (σ : zG) (c : Int) (hI : PI σ) : zDo SM 2 m_X12_sign [zP 0, .inl c] σ (zEq (some (.inl (V_X12_sign σ c))) (F_X12_sign σ c)) := by
  refine zDo.intro mk_X12_sign (Nat.le_of_ble_eq_true rfl) ?_
  refine zRx.aload_n 0 rfl rfl dX12_sign_0 ?_
  refine zRx.iload_n 1 rfl rfl dX12_sign_1 ?_
  refine zRx.cVi (w := .inl (b2 (σ 0 11 = 3 ∧ σ 0 14 = c))) (M := m_X12_isSign) (av := [.inl c]) cv_12_245 mk_X12_isSign (by decide) (b := 0) rfl rfl (Nat.le_of_ble_eq_true rfl) dX12_sign_2 (isSign2 σ c (σ 0 11) (σ 0 14) rfl rfl) ?_
  refine zRx.if_neB (tgt := 14) dX12_sign_5 (by decide) (fun c5 => ?_) (fun c5 => ?_)
  · refine zRx.aload_n 0 rfl rfl dX12_sign_14 ?_
    refine zRx.cVv (M := m_X12_next) (av := []) cv_12_251 mk_X12_next (by decide) (b := 0) rfl rfl (Nat.le_of_ble_eq_true rfl) dX12_sign_15 (does_next2 σ hI) ?_
    refine zRx.iconst ⟨by decide, by decide⟩ dX12_sign_18 ?_
    exact zR.zret rfl ⟨by decide, by decide⟩ dX12_sign_19 ⟨by unfold V_X12_sign; rw [if_pos c5], by unfold F_X12_sign; rw [if_pos c5]⟩
  · refine zRx.aload_n 0 rfl rfl dX12_sign_8 ?_
    refine zRx.iconst ⟨by decide, by decide⟩ dX12_sign_9 ?_
    refine zRx.cVi (w := .inl 0) (M := m_X12_bad) (av := [.inl 1]) cv_12_248 mk_X12_bad (by decide) (b := 0) rfl rfl (Nat.le_of_ble_eq_true rfl) dX12_sign_10 (bad_eq2 σ 1 (σ 0 12) rfl) ?_
    exact zR.zret rfl ⟨by decide, by decide⟩ dX12_sign_13 ⟨by unfold V_X12_sign; rw [if_neg c5], by unfold F_X12_sign; rw [if_neg c5]⟩

theorem PI_F_X12_sign {σ : zG} {c : Int} (hI : PI σ) : PI ((F_X12_sign σ c)) := by
  unfold F_X12_sign
  repeat' split
  all_goals first | exact (PI_F_X12_next hI) | exact (PI_zu (by decide) (PI_zu (by decide) hI))

theorem PH_F_X12_sign {σ : zG} {c : Int} (h : PH σ) : PH (F_X12_sign σ c) := PH_row (fr_F_X12_sign σ c (by decide)) h

def L_X12_isName_16 (σ : zG)  : Nat → Int → Int → Int
  | 0, _, _ => 0
  | n + 1, is, q => if 26 ≤ q then is else (if is = 0 then (L_X12_isName_16 σ  n 0 (q + 1)) else (if (zcmp (σ 0 17) (σ 6 q)) = 0 then (L_X12_isName_16 σ  n 0 (q + 1)) else (L_X12_isName_16 σ  n 1 (q + 1))))
set_option maxRecDepth 20000 in
theorem loop_X12_isName_16 (σ : zG)   : ∀ (n : Nat) (is q : Int) , 0 ≤ q → 0 ≤ is ∧ is ≤ 1 → (26 - q).toNat < n → zR SM 0 m_X12_isName 16 [(0, zP 0), (1, .inl is), (2, .inl q)] [] σ (zEq (some (.inl (L_X12_isName_16 σ  n is q))) σ) := by
  intro n
  induction n with
  | zero => intro is q  h0 h1 hmz; exact absurd hmz (Nat.not_lt_zero _)
  | succ n ih =>
    intro is q  h0 h1 hmz
    refine zRx.iload_n 2 rfl rfl dX12_isName_16 ?_
    refine zRx.bipush ⟨by decide, by decide⟩ rfl dX12_isName_17 ?_
    refine zRx.icmp_ge (tgt := 52) dX12_isName_19 (by decide) (fun c19 => ?_) (fun c19 => ?_)
    · refine zRx.iload_n 1 rfl rfl dX12_isName_52 ?_
      exact zR.zret rfl (by omega) dX12_isName_53 (by have he : L_X12_isName_16 σ  (n + 1) is q = is := (by rw [L_X12_isName_16, if_pos c19]); rw [he]; exact ⟨rfl, rfl⟩)
    · refine zRx.iload_n 1 rfl rfl dX12_isName_22 ?_
      refine zRx.if_eq (tgt := 44) dX12_isName_23 (by decide) (fun c23 => ?_) (fun c23 => ?_)
      · refine zRx.iconst ⟨by decide, by decide⟩ dX12_isName_44 ?_
        refine zRx.istore_n (ls' := [(0, zP 0), (1, .inl 0), (2, .inl q)]) rfl rfl (by decide) dX12_isName_45 ?_
        refine zRx.iinc (n := 1) (ls' := [(0, zP 0), (1, .inl 0), (2, .inl (q + 1))]) 2 rfl ⟨by omega, by omega⟩ rfl (by decide) dX12_isName_46 ?_
        refine zRx.goto (tgt := 16) dX12_isName_49 (by decide) ?_
        have he : L_X12_isName_16 σ  (n + 1) is q = L_X12_isName_16 σ  n 0 (q + 1) := by rw [L_X12_isName_16, if_neg (Int.not_le.mpr c19), if_pos c23]
        rw [he]
        exact ih 0 (q + 1)  (by omega) (by omega) (by omega)
      · refine zRx.aload_n 0 rfl rfl dX12_isName_26 ?_
        refine zRx.getJv (a := 0) (ji := 17) (v := σ 0 17) rfl fl_12_235 rfl rfl rfl dX12_isName_27 ?_
        refine zRx.aload_n 0 rfl rfl dX12_isName_30 ?_
        refine zRx.getR (a := 0) (b := 6) fl_12_47 rfl rfl dX12_isName_31 ?_
        refine zRx.iload_n 2 rfl rfl dX12_isName_34 ?_
        refine zRx.laldv (v := σ 6 q) rfl rfl (by omega) (by omega) dX12_isName_35 ?_
        refine zRx.lcmp dX12_isName_36 ?_
        refine zRx.if_eq (tgt := 44) dX12_isName_37 (by decide) (fun c37 => ?_) (fun c37 => ?_)
        · refine zRx.iconst ⟨by decide, by decide⟩ dX12_isName_44 ?_
          refine zRx.istore_n (ls' := [(0, zP 0), (1, .inl 0), (2, .inl q)]) rfl rfl (by decide) dX12_isName_45 ?_
          refine zRx.iinc (n := 1) (ls' := [(0, zP 0), (1, .inl 0), (2, .inl (q + 1))]) 2 rfl ⟨by omega, by omega⟩ rfl (by decide) dX12_isName_46 ?_
          refine zRx.goto (tgt := 16) dX12_isName_49 (by decide) ?_
          have he : L_X12_isName_16 σ  (n + 1) is q = L_X12_isName_16 σ  n 0 (q + 1) := by rw [L_X12_isName_16, if_neg (Int.not_le.mpr c19), if_neg c23, if_pos c37]
          rw [he]
          exact ih 0 (q + 1)  (by omega) (by omega) (by omega)
        · refine zRx.iconst ⟨by decide, by decide⟩ dX12_isName_40 ?_
          refine zRx.goto (tgt := 45) dX12_isName_41 (by decide) ?_
          refine zRx.istore_n (ls' := [(0, zP 0), (1, .inl 1), (2, .inl q)]) rfl rfl (by decide) dX12_isName_45 ?_
          refine zRx.iinc (n := 1) (ls' := [(0, zP 0), (1, .inl 1), (2, .inl (q + 1))]) 2 rfl ⟨by omega, by omega⟩ rfl (by decide) dX12_isName_46 ?_
          refine zRx.goto (tgt := 16) dX12_isName_49 (by decide) ?_
          have he : L_X12_isName_16 σ  (n + 1) is q = L_X12_isName_16 σ  n 1 (q + 1) := by rw [L_X12_isName_16, if_neg (Int.not_le.mpr c19), if_neg c23, if_neg c37]
          rw [he]
          exact ih 1 (q + 1)  (by omega) (by omega) (by omega)
def R_X12_isName (σ : zG)  : Int := if (σ 0 11) = 1 then (L_X12_isName_16 σ  30 1 0) else (L_X12_isName_16 σ  30 0 0)
set_option maxRecDepth 20000 in
theorem does_X12_isName (σ : zG)    : zDo SM 0 m_X12_isName [zP 0] σ (zEq (some (.inl (R_X12_isName σ ))) σ) := by
  refine zDo.intro mk_X12_isName (Nat.le_of_ble_eq_true rfl) ?_
  refine zRx.aload_n 0 rfl rfl dX12_isName_0 ?_
  refine zRx.getIv (a := 0) (ji := 11) (v := σ 0 11) rfl fl_12_222 rfl rfl rfl dX12_isName_1 ?_
  refine zRx.iconst ⟨by decide, by decide⟩ dX12_isName_4 ?_
  refine zRx.icmp_ne (tgt := 12) dX12_isName_5 (by decide) (fun c5 => ?_) (fun c5 => ?_)
  · refine zRx.iconst ⟨by decide, by decide⟩ dX12_isName_12 ?_
    refine zRx.istore_n (ls' := [(0, zP 0), (1, .inl 0)]) rfl rfl (by decide) dX12_isName_13 ?_
    refine zRx.iconst ⟨by decide, by decide⟩ dX12_isName_14 ?_
    refine zRx.istore_n (ls' := [(0, zP 0), (1, .inl 0), (2, .inl 0)]) rfl rfl (by decide) dX12_isName_15 ?_
    have he : R_X12_isName σ  = L_X12_isName_16 σ  30 0 0 := by rw [R_X12_isName, if_neg c5]
    rw [he]
    exact loop_X12_isName_16 σ    30 0 0  (by omega) (by omega) (by omega)
  · refine zRx.iconst ⟨by decide, by decide⟩ dX12_isName_8 ?_
    refine zRx.goto (tgt := 13) dX12_isName_9 (by decide) ?_
    refine zRx.istore_n (ls' := [(0, zP 0), (1, .inl 1)]) rfl rfl (by decide) dX12_isName_13 ?_
    refine zRx.iconst ⟨by decide, by decide⟩ dX12_isName_14 ?_
    refine zRx.istore_n (ls' := [(0, zP 0), (1, .inl 1), (2, .inl 0)]) rfl rfl (by decide) dX12_isName_15 ?_
    have he : R_X12_isName σ  = L_X12_isName_16 σ  30 1 0 := by rw [R_X12_isName, if_pos c5]
    rw [he]
    exact loop_X12_isName_16 σ    30 1 0  (by omega) (by omega) (by omega)

def L_X12_find_2 (σ : zG) (fm nn : Int) : Nat → Int → Int
  | 0, _ => 0
  | n + 1, q => if nn ≤ q then (-1) else (if (zcmp (σ 5 (fm + q)) (σ 0 17)) = 0 then q else (L_X12_find_2 σ fm nn n (q + 1)))
set_option maxRecDepth 20000 in
theorem loop_X12_find_2 (σ : zG) (fm nn : Int) (hf : 0 ≤ fm ∧ 0 ≤ nn ∧ nn ≤ 20 ∧ fm + nn ≤ 40) : ∀ (n : Nat) (q : Int) , 0 ≤ q → (nn - q).toNat < n → zR SM 0 m_X12_find 2 [(0, zP 0), (1, .inl fm), (2, .inl nn), (3, .inl q)] [] σ (zEq (some (.inl (L_X12_find_2 σ fm nn n q))) σ) := by
  intro n
  induction n with
  | zero => intro q  h0 hmz; exact absurd hmz (Nat.not_lt_zero _)
  | succ n ih =>
    intro q  h0 hmz
    refine zRx.iload_n 3 rfl rfl dX12_find_2 ?_
    refine zRx.iload_n 2 rfl rfl dX12_find_3 ?_
    refine zRx.icmp_ge (tgt := 31) dX12_find_4 (by decide) (fun c4 => ?_) (fun c4 => ?_)
    · refine zRx.iconst ⟨by decide, by decide⟩ dX12_find_31 ?_
      exact zR.iret rfl dX12_find_32 (by have he : L_X12_find_2 σ fm nn (n + 1) q = (-1) := (by rw [L_X12_find_2, if_pos c4]); rw [he]; exact ⟨rfl, rfl⟩)
    · refine zRx.aload_n 0 rfl rfl dX12_find_7 ?_
      refine zRx.getR (a := 0) (b := 5) fl_12_43 rfl rfl dX12_find_8 ?_
      refine zRx.iload_n 1 rfl rfl dX12_find_11 ?_
      refine zRx.iload_n 3 rfl rfl dX12_find_12 ?_
      refine zRx.iadd ⟨by omega, by omega⟩ dX12_find_13 ?_
      refine zRx.laldv (v := σ 5 (fm + q)) rfl rfl (by omega) (by omega) dX12_find_14 ?_
      refine zRx.aload_n 0 rfl rfl dX12_find_15 ?_
      refine zRx.getJv (a := 0) (ji := 17) (v := σ 0 17) rfl fl_12_235 rfl rfl rfl dX12_find_16 ?_
      refine zRx.lcmp dX12_find_19 ?_
      refine zRx.if_ne (tgt := 25) dX12_find_20 (by decide) (fun c20 => ?_) (fun c20 => ?_)
      · refine zRx.iinc (n := 1) (ls' := [(0, zP 0), (1, .inl fm), (2, .inl nn), (3, .inl (q + 1))]) 3 rfl ⟨by omega, by omega⟩ rfl (by decide) dX12_find_25 ?_
        refine zRx.goto (tgt := 2) dX12_find_28 (by decide) ?_
        have he : L_X12_find_2 σ fm nn (n + 1) q = L_X12_find_2 σ fm nn n (q + 1) := by rw [L_X12_find_2, if_neg (Int.not_le.mpr c4), if_neg c20]
        rw [he]
        exact ih (q + 1)  (by omega) (by omega)
      · refine zRx.iload_n 3 rfl rfl dX12_find_23 ?_
        exact zR.iret rfl dX12_find_24 (by have he : L_X12_find_2 σ fm nn (n + 1) q = q := (by rw [L_X12_find_2, if_neg (Int.not_le.mpr c4), if_pos c20]); rw [he]; exact ⟨rfl, rfl⟩)
def R_X12_find (σ : zG) (fm nn : Int) : Int := L_X12_find_2 σ fm nn 30 0
set_option maxRecDepth 20000 in
theorem does_X12_find (σ : zG) (fm nn : Int) (hf : 0 ≤ fm ∧ 0 ≤ nn ∧ nn ≤ 20 ∧ fm + nn ≤ 40)  : zDo SM 0 m_X12_find [zP 0, .inl fm, .inl nn] σ (zEq (some (.inl (R_X12_find σ fm nn))) σ) := by
  refine zDo.intro mk_X12_find (Nat.le_of_ble_eq_true rfl) ?_
  refine zRx.iconst ⟨by decide, by decide⟩ dX12_find_0 ?_
  refine zRx.istore_n (ls' := [(0, zP 0), (1, .inl fm), (2, .inl nn), (3, .inl 0)]) rfl rfl (by decide) dX12_find_1 ?_
  have he : R_X12_find σ fm nn = L_X12_find_2 σ fm nn 30 0 := by rw [R_X12_find]
  rw [he]
  exact loop_X12_find_2 σ fm nn hf  30 0  (by omega) (by omega)

theorem findL_r (σ : zG) (fm nn : Int) : ∀ (n : Nat) (q : Int), 0 ≤ q → (nn - q).toNat < n → -1 ≤ L_X12_find_2 σ fm nn n q ∧ (L_X12_find_2 σ fm nn n q < nn ∨ L_X12_find_2 σ fm nn n q = -1)
  | 0, q, _, h => absurd h (Nat.not_lt_zero _)
  | n + 1, q, h0, h => by
    rw [L_X12_find_2]
    split
    · omega
    · split
      · omega
      · exact findL_r σ fm nn n (q + 1) (by omega) (by omega)
theorem find_r (σ : zG) (fm nn : Int) (h : nn ≤ 20) : -1 ≤ R_X12_find σ fm nn ∧ (R_X12_find σ fm nn < nn ∨ R_X12_find σ fm nn = -1) := findL_r σ fm nn 30 0 (by decide) (by omega)

def V_X12_takes (σ : zG) (lo hi : Int) : Int := if (σ 0 11) = 2 then (if lo ≤ (σ 0 14) ∧ (σ 0 14) ≤ hi then 1 else 0) else 0
def F_X12_takes (σ : zG) (lo hi : Int) : zG := if (σ 0 11) = 2 then (if lo ≤ (σ 0 14) ∧ (σ 0 14) ≤ hi then (F_X12_next (zu σ 0 18 (σ 0 14))) else (zu (zu σ 0 15 2) 0 16 (σ 0 12))) else (zu (zu σ 0 15 1) 0 16 (σ 0 12))
theorem fr_F_X12_takes (σ : zG) (lo hi : Int) {k : Nat} (h : k ∉ [0]) : (F_X12_takes σ lo hi) k = σ k := by
  have ne : ∀ c ∈ [0], k ≠ c := fun c hc e => h (e ▸ hc)
  have nk_F_X12_next : k ∉ [0] := fun hm => h (by first | (revert hm; simp only [List.mem_cons, List.not_mem_nil, or_false]; omega) | (simp at hm))
  unfold F_X12_takes
  repeat' split
  all_goals first | rfl | simp only [zu_row _ _ _ (ne 0 (by decide)), fr_F_X12_next (h := nk_F_X12_next)]

set_option maxRecDepth 20000 in
theorem does_X12_takes (σ : zG) (lo hi : Int) (hI : PI σ) : zDo SM 2 m_X12_takes [zP 0, .inl lo, .inl hi] σ (zEq (some (.inl (V_X12_takes σ lo hi))) (F_X12_takes σ lo hi)) := by
  refine zDo.intro mk_X12_takes (Nat.le_of_ble_eq_true rfl) ?_
  refine zRx.aload_n 0 rfl rfl dX12_takes_0 ?_
  refine zRx.getIv (a := 0) (ji := 11) (v := σ 0 11) rfl fl_12_222 rfl rfl rfl dX12_takes_1 ?_
  refine zRx.iconst ⟨by decide, by decide⟩ dX12_takes_4 ?_
  refine zRx.icmp_eq (tgt := 14) dX12_takes_5 (by decide) (fun c5 => ?_) (fun c5 => ?_)
  · refine zRx.aload_n 0 rfl rfl dX12_takes_14 ?_
    refine zRx.getIv (a := 0) (ji := 14) (v := σ 0 14) rfl fl_12_232 rfl rfl rfl dX12_takes_15 ?_
    refine zRx.iload_n 1 rfl rfl dX12_takes_18 ?_
    refine zRx.iload_n 2 rfl rfl dX12_takes_19 ?_
    refine zRx.cSi (w := .inl (b2 (lo ≤ (σ 0 14) ∧ (σ 0 14) ≤ hi))) (M := m_X12_isIn) (av := [.inl (σ 0 14), .inl lo, .inl hi]) cs_12_254 mk_X12_isIn (by decide) rfl (Nat.le_of_ble_eq_true rfl) dX12_takes_20 (does_X12_isIn (σ 0 14) lo hi SM σ) ?_
    refine zRx.if_neB (tgt := 32) dX12_takes_23 (by decide) (fun c23 => ?_) (fun c23 => ?_)
    · refine zRx.aload_n 0 rfl rfl dX12_takes_32 ?_
      refine zRx.aload_n 0 rfl rfl dX12_takes_33 ?_
      refine zRx.getIv (a := 0) (ji := 14) (v := σ 0 14) rfl fl_12_232 rfl rfl rfl dX12_takes_34 ?_
      refine zRx.putI (a := 0) (ji := 18) pl_12_258 rfl rfl rfl dX12_takes_37 ?_
      refine zRx.aload_n 0 rfl rfl dX12_takes_40 ?_
      refine zRx.cVv (M := m_X12_next) (av := []) cv_12_251 mk_X12_next (by decide) (b := 0) rfl rfl (Nat.le_of_ble_eq_true rfl) dX12_takes_41 (does_next2 (zu σ 0 18 (σ 0 14)) (PI_zu (by decide) hI)) ?_
      refine zRx.iconst ⟨by decide, by decide⟩ dX12_takes_44 ?_
      exact zR.zret rfl ⟨by decide, by decide⟩ dX12_takes_45 ⟨by unfold V_X12_takes; rw [if_pos c5, if_pos c23], by unfold F_X12_takes; rw [if_pos c5, if_pos c23]⟩
    · refine zRx.aload_n 0 rfl rfl dX12_takes_26 ?_
      refine zRx.iconst ⟨by decide, by decide⟩ dX12_takes_27 ?_
      refine zRx.cVi (w := .inl 0) (M := m_X12_bad) (av := [.inl 2]) cv_12_248 mk_X12_bad (by decide) (b := 0) rfl rfl (Nat.le_of_ble_eq_true rfl) dX12_takes_28 (bad_eq2 σ 2 (σ 0 12) rfl) ?_
      exact zR.zret rfl ⟨by decide, by decide⟩ dX12_takes_31 ⟨by unfold V_X12_takes; rw [if_pos c5, if_neg c23], by unfold F_X12_takes; rw [if_pos c5, if_neg c23]⟩
  · refine zRx.aload_n 0 rfl rfl dX12_takes_8 ?_
    refine zRx.iconst ⟨by decide, by decide⟩ dX12_takes_9 ?_
    refine zRx.cVi (w := .inl 0) (M := m_X12_bad) (av := [.inl 1]) cv_12_248 mk_X12_bad (by decide) (b := 0) rfl rfl (Nat.le_of_ble_eq_true rfl) dX12_takes_10 (bad_eq2 σ 1 (σ 0 12) rfl) ?_
    exact zR.zret rfl ⟨by decide, by decide⟩ dX12_takes_13 ⟨by unfold V_X12_takes; rw [if_neg c5], by unfold F_X12_takes; rw [if_neg c5]⟩

theorem PI_F_X12_takes {σ : zG} {lo hi : Int} (hI : PI σ) : PI ((F_X12_takes σ lo hi)) := by
  unfold F_X12_takes
  repeat' split
  all_goals first | exact (PI_F_X12_next (PI_zu (by decide) hI)) | exact (PI_zu (by decide) (PI_zu (by decide) hI))

theorem PH_F_X12_takes {σ : zG} {lo hi : Int} (h : PH σ) : PH (F_X12_takes σ lo hi) := PH_row (fr_F_X12_takes σ lo hi (by decide)) h

def V_X12_takesName (σ : zG) (fm nn : Int) : Int := if (R_X12_isName σ) = 0 then 0 else (if 0 ≤ (R_X12_find σ fm nn) then 1 else 0)
def F_X12_takesName (σ : zG) (fm nn : Int) : zG := if (R_X12_isName σ) = 0 then (zu (zu σ 0 15 1) 0 16 (σ 0 12)) else (if 0 ≤ (R_X12_find σ fm nn) then (F_X12_next (zu σ 0 18 (R_X12_find σ fm nn))) else (zu (zu (zu σ 0 18 (R_X12_find σ fm nn)) 0 15 3) 0 16 (σ 0 12)))
theorem fr_F_X12_takesName (σ : zG) (fm nn : Int) {k : Nat} (h : k ∉ [0]) : (F_X12_takesName σ fm nn) k = σ k := by
  have ne : ∀ c ∈ [0], k ≠ c := fun c hc e => h (e ▸ hc)
  have nk_F_X12_next : k ∉ [0] := fun hm => h (by first | (revert hm; simp only [List.mem_cons, List.not_mem_nil, or_false]; omega) | (simp at hm))
  unfold F_X12_takesName
  repeat' split
  all_goals first | rfl | simp only [zu_row _ _ _ (ne 0 (by decide)), fr_F_X12_next (h := nk_F_X12_next)]

set_option maxRecDepth 20000 in
theorem does_X12_takesName (σ : zG) (fm nn : Int) (hI : PI σ) (hf : 0 ≤ fm ∧ 0 ≤ nn ∧ nn ≤ 20 ∧ fm + nn ≤ 40) : zDo SM 2 m_X12_takesName [zP 0, .inl fm, .inl nn] σ (zEq (some (.inl (V_X12_takesName σ fm nn))) (F_X12_takesName σ fm nn)) := by
  refine zDo.intro mk_X12_takesName (Nat.le_of_ble_eq_true rfl) ?_
  refine zRx.aload_n 0 rfl rfl dX12_takesName_0 ?_
  refine zRx.cVi (w := .inl (R_X12_isName σ)) (M := m_X12_isName) (av := []) cv_12_261 mk_X12_isName (by decide) (b := 0) rfl rfl (Nat.le_of_ble_eq_true rfl) dX12_takesName_1 (does_X12_isName σ) ?_
  refine zRx.if_ne (tgt := 13) dX12_takesName_4 (by decide) (fun c4 => ?_) (fun c4 => ?_)
  · refine zRx.aload_n 0 rfl rfl dX12_takesName_13 ?_
    refine zRx.aload_n 0 rfl rfl dX12_takesName_14 ?_
    refine zRx.iload_n 1 rfl rfl dX12_takesName_15 ?_
    refine zRx.iload_n 2 rfl rfl dX12_takesName_16 ?_
    refine zRx.cVi (w := .inl (R_X12_find σ fm nn)) (M := m_X12_find) (av := [.inl fm, .inl nn]) cv_12_265 mk_X12_find (by decide) (b := 0) rfl rfl (Nat.le_of_ble_eq_true rfl) dX12_takesName_17 (does_X12_find σ fm nn (by omega)) ?_
    refine zRx.putI (a := 0) (ji := 18) pl_12_258 rfl rfl rfl dX12_takesName_20 ?_
    refine zRx.aload_n 0 rfl rfl dX12_takesName_23 ?_
    refine zRx.getIv (a := 0) (ji := 18) (v := R_X12_find σ fm nn) (zu_at _ _ _ _) fl_12_258 rfl rfl rfl dX12_takesName_24 ?_
    refine zRx.if_ge (tgt := 36) dX12_takesName_27 (by decide) (fun c27 => ?_) (fun c27 => ?_)
    · refine zRx.aload_n 0 rfl rfl dX12_takesName_36 ?_
      refine zRx.cVv (M := m_X12_next) (av := []) cv_12_251 mk_X12_next (by decide) (b := 0) rfl rfl (Nat.le_of_ble_eq_true rfl) dX12_takesName_37 (does_next2 (zu σ 0 18 (R_X12_find σ fm nn)) (PI_zu (by decide) hI)) ?_
      refine zRx.iconst ⟨by decide, by decide⟩ dX12_takesName_40 ?_
      exact zR.zret rfl ⟨by decide, by decide⟩ dX12_takesName_41 ⟨by unfold V_X12_takesName; rw [if_neg c4, if_pos c27], by unfold F_X12_takesName; rw [if_neg c4, if_pos c27]⟩
    · refine zRx.aload_n 0 rfl rfl dX12_takesName_30 ?_
      refine zRx.iconst ⟨by decide, by decide⟩ dX12_takesName_31 ?_
      refine zRx.cVi (w := .inl 0) (M := m_X12_bad) (av := [.inl 3]) cv_12_248 mk_X12_bad (by decide) (b := 0) rfl rfl (Nat.le_of_ble_eq_true rfl) dX12_takesName_32 (bad_eq2 (zu σ 0 18 (R_X12_find σ fm nn)) 3 (σ 0 12) (zu_off _ _ _ (by decide))) ?_
      exact zR.zret rfl ⟨by decide, by decide⟩ dX12_takesName_35 ⟨by unfold V_X12_takesName; rw [if_neg c4, if_neg (Int.not_le.mpr c27)], by unfold F_X12_takesName; rw [if_neg c4, if_neg (Int.not_le.mpr c27)]⟩
  · refine zRx.aload_n 0 rfl rfl dX12_takesName_7 ?_
    refine zRx.iconst ⟨by decide, by decide⟩ dX12_takesName_8 ?_
    refine zRx.cVi (w := .inl 0) (M := m_X12_bad) (av := [.inl 1]) cv_12_248 mk_X12_bad (by decide) (b := 0) rfl rfl (Nat.le_of_ble_eq_true rfl) dX12_takesName_9 (bad_eq2 σ 1 (σ 0 12) rfl) ?_
    exact zR.zret rfl ⟨by decide, by decide⟩ dX12_takesName_12 ⟨by unfold V_X12_takesName; rw [if_pos c4], by unfold F_X12_takesName; rw [if_pos c4]⟩

theorem PI_F_X12_takesName {σ : zG} {fm nn : Int} (hI : PI σ) : PI ((F_X12_takesName σ fm nn)) := by
  unfold F_X12_takesName
  repeat' split
  all_goals first | exact (PI_zu (by decide) (PI_zu (by decide) hI)) | exact (PI_F_X12_next (PI_zu (by decide) hI)) | exact (PI_zu (by decide) (PI_zu (by decide) (PI_zu (by decide) hI)))

theorem PH_F_X12_takesName {σ : zG} {fm nn : Int} (h : PH σ) : PH (F_X12_takesName σ fm nn) := PH_row (fr_F_X12_takesName σ fm nn (by decide)) h

theorem takesName_got (σ : zG) (fm nn : Int) (hn : nn ≤ 20) (h : V_X12_takesName σ fm nn ≠ 0) : F_X12_takesName σ fm nn 0 18 = R_X12_find σ fm nn ∧ 0 ≤ F_X12_takesName σ fm nn 0 18 ∧ F_X12_takesName σ fm nn 0 18 < nn := by
  have hr := find_r σ fm nn hn
  unfold V_X12_takesName at h
  unfold F_X12_takesName
  split at h
  · exact absurd rfl h
  · next c1 =>
    split at h
    · next c2 =>
      rw [if_neg c1, if_pos c2, (next_all _).2.1 18 (by decide) (by decide) (by decide) (by decide) (by decide) (by decide), zu_at]
      omega
    · exact absurd rfl h

def V_X12_fresh (σ : zG) (to : Int) : Int := if (R_X12_isName σ) = 0 then 0 else (if 0 ≤ (R_X12_find σ 20 (σ 3 0)) then 0 else (if (R_X12_find σ 28 (σ 3 1)) < 0 then 1 else 0))
def F_X12_fresh (σ : zG) (to : Int) : zG := if (R_X12_isName σ) = 0 then (zu (zu σ 0 15 1) 0 16 (σ 0 12)) else (if 0 ≤ (R_X12_find σ 20 (σ 3 0)) then (zu (zu σ 0 15 3) 0 16 (σ 0 12)) else (if (R_X12_find σ 28 (σ 3 1)) < 0 then (F_X12_next (zu σ 5 to (σ 0 17))) else (zu (zu σ 0 15 3) 0 16 (σ 0 12))))
theorem fr_F_X12_fresh (σ : zG) (to : Int) {k : Nat} (h : k ∉ [0, 5]) : (F_X12_fresh σ to) k = σ k := by
  have ne : ∀ c ∈ [0, 5], k ≠ c := fun c hc e => h (e ▸ hc)
  have nk_F_X12_next : k ∉ [0] := fun hm => h (by first | (revert hm; simp only [List.mem_cons, List.not_mem_nil, or_false]; omega) | (simp at hm))
  unfold F_X12_fresh
  repeat' split
  all_goals first | rfl | simp only [zu_row _ _ _ (ne 0 (by decide)), zu_row _ _ _ (ne 5 (by decide)), fr_F_X12_next (h := nk_F_X12_next)]

set_option maxRecDepth 20000 in
theorem does_X12_fresh (σ : zG) (to : Int) (hI : PI σ) (hH : PH σ) (ht : 0 ≤ to ∧ to < 40) : zDo SM 2 m_X12_fresh [zP 0, .inl to] σ (zEq (some (.inl (V_X12_fresh σ to))) (F_X12_fresh σ to)) := by
  refine zDo.intro mk_X12_fresh (Nat.le_of_ble_eq_true rfl) ?_
  obtain ⟨hp, hf, hs⟩ := id hH
  refine zRx.aload_n 0 rfl rfl dX12_fresh_0 ?_
  refine zRx.cVi (w := .inl (R_X12_isName σ)) (M := m_X12_isName) (av := []) cv_12_261 mk_X12_isName (by decide) (b := 0) rfl rfl (Nat.le_of_ble_eq_true rfl) dX12_fresh_1 (does_X12_isName σ) ?_
  refine zRx.if_ne (tgt := 13) dX12_fresh_4 (by decide) (fun c4 => ?_) (fun c4 => ?_)
  · refine zRx.aload_n 0 rfl rfl dX12_fresh_13 ?_
    refine zRx.bipush ⟨by decide, by decide⟩ rfl dX12_fresh_14 ?_
    refine zRx.aload_n 0 rfl rfl dX12_fresh_16 ?_
    refine zRx.getR (a := 0) (b := 3) fl_12_37 rfl rfl dX12_fresh_17 ?_
    refine zRx.iconst ⟨by decide, by decide⟩ dX12_fresh_20 ?_
    refine zRx.ialdv (v := σ 3 0) rfl rfl (by decide) (by decide) dX12_fresh_21 ?_
    refine zRx.cVi (w := .inl (R_X12_find σ 20 (σ 3 0))) (M := m_X12_find) (av := [.inl 20, .inl (σ 3 0)]) cv_12_265 mk_X12_find (by decide) (b := 0) rfl rfl (Nat.le_of_ble_eq_true rfl) dX12_fresh_22 (does_X12_find σ 20 (σ 3 0) (by omega)) ?_
    refine zRx.if_ge (tgt := 43) dX12_fresh_25 (by decide) (fun c25 => ?_) (fun c25 => ?_)
    · refine zRx.aload_n 0 rfl rfl dX12_fresh_43 ?_
      refine zRx.iconst ⟨by decide, by decide⟩ dX12_fresh_44 ?_
      refine zRx.cVi (w := .inl 0) (M := m_X12_bad) (av := [.inl 3]) cv_12_248 mk_X12_bad (by decide) (b := 0) rfl rfl (Nat.le_of_ble_eq_true rfl) dX12_fresh_45 (bad_eq2 σ 3 (σ 0 12) rfl) ?_
      exact zR.zret rfl ⟨by decide, by decide⟩ dX12_fresh_48 ⟨by unfold V_X12_fresh; rw [if_neg c4, if_pos c25], by unfold F_X12_fresh; rw [if_neg c4, if_pos c25]⟩
    · refine zRx.aload_n 0 rfl rfl dX12_fresh_28 ?_
      refine zRx.bipush ⟨by decide, by decide⟩ rfl dX12_fresh_29 ?_
      refine zRx.aload_n 0 rfl rfl dX12_fresh_31 ?_
      refine zRx.getR (a := 0) (b := 3) fl_12_37 rfl rfl dX12_fresh_32 ?_
      refine zRx.iconst ⟨by decide, by decide⟩ dX12_fresh_35 ?_
      refine zRx.ialdv (v := σ 3 1) rfl rfl (by decide) (by decide) dX12_fresh_36 ?_
      refine zRx.cVi (w := .inl (R_X12_find σ 28 (σ 3 1))) (M := m_X12_find) (av := [.inl 28, .inl (σ 3 1)]) cv_12_265 mk_X12_find (by decide) (b := 0) rfl rfl (Nat.le_of_ble_eq_true rfl) dX12_fresh_37 (does_X12_find σ 28 (σ 3 1) (by omega)) ?_
      refine zRx.if_lt (tgt := 49) dX12_fresh_40 (by decide) (fun c40 => ?_) (fun c40 => ?_)
      · refine zRx.aload_n 0 rfl rfl dX12_fresh_49 ?_
        refine zRx.getR (a := 0) (b := 5) fl_12_43 rfl rfl dX12_fresh_50 ?_
        refine zRx.iload_n 1 rfl rfl dX12_fresh_53 ?_
        refine zRx.aload_n 0 rfl rfl dX12_fresh_54 ?_
        refine zRx.getJv (a := 0) (ji := 17) (v := σ 0 17) rfl fl_12_235 rfl rfl rfl dX12_fresh_55 ?_
        refine zRx.last rfl (by omega) (by omega) dX12_fresh_58 ?_
        refine zRx.aload_n 0 rfl rfl dX12_fresh_59 ?_
        refine zRx.cVv (M := m_X12_next) (av := []) cv_12_251 mk_X12_next (by decide) (b := 0) rfl rfl (Nat.le_of_ble_eq_true rfl) dX12_fresh_60 (does_next2 (zu σ 5 to (σ 0 17)) (PI_zu (fun h => absurd h.1 (by decide)) hI)) ?_
        refine zRx.iconst ⟨by decide, by decide⟩ dX12_fresh_63 ?_
        exact zR.zret rfl ⟨by decide, by decide⟩ dX12_fresh_64 ⟨by unfold V_X12_fresh; rw [if_neg c4, if_neg (Int.not_le.mpr c25), if_pos c40], by unfold F_X12_fresh; rw [if_neg c4, if_neg (Int.not_le.mpr c25), if_pos c40]⟩
      · refine zRx.aload_n 0 rfl rfl dX12_fresh_43 ?_
        refine zRx.iconst ⟨by decide, by decide⟩ dX12_fresh_44 ?_
        refine zRx.cVi (w := .inl 0) (M := m_X12_bad) (av := [.inl 3]) cv_12_248 mk_X12_bad (by decide) (b := 0) rfl rfl (Nat.le_of_ble_eq_true rfl) dX12_fresh_45 (bad_eq2 σ 3 (σ 0 12) rfl) ?_
        exact zR.zret rfl ⟨by decide, by decide⟩ dX12_fresh_48 ⟨by unfold V_X12_fresh; rw [if_neg c4, if_neg (Int.not_le.mpr c25), if_neg (Int.not_lt.mpr c40)], by unfold F_X12_fresh; rw [if_neg c4, if_neg (Int.not_le.mpr c25), if_neg (Int.not_lt.mpr c40)]⟩
  · refine zRx.aload_n 0 rfl rfl dX12_fresh_7 ?_
    refine zRx.iconst ⟨by decide, by decide⟩ dX12_fresh_8 ?_
    refine zRx.cVi (w := .inl 0) (M := m_X12_bad) (av := [.inl 1]) cv_12_248 mk_X12_bad (by decide) (b := 0) rfl rfl (Nat.le_of_ble_eq_true rfl) dX12_fresh_9 (bad_eq2 σ 1 (σ 0 12) rfl) ?_
    exact zR.zret rfl ⟨by decide, by decide⟩ dX12_fresh_12 ⟨by unfold V_X12_fresh; rw [if_pos c4], by unfold F_X12_fresh; rw [if_pos c4]⟩

theorem PI_F_X12_fresh {σ : zG} {to : Int} (hI : PI σ) : PI ((F_X12_fresh σ to)) := by
  unfold F_X12_fresh
  repeat' split
  all_goals first | exact (PI_zu (by decide) (PI_zu (by decide) hI)) | exact (PI_F_X12_next (PI_zu (fun h => absurd h.1 (by decide)) hI))

theorem PH_F_X12_fresh {σ : zG} {to : Int} (h : PH σ) : PH (F_X12_fresh σ to) := PH_row (fr_F_X12_fresh σ to (by decide)) h

def V_X12_once (σ : zG) (wh lo hi : Int) : Int := if hb (σ 0 20) wh then 0 else (if (V_X12_takes (F_X12_next (zu σ 0 20 (bor (σ 0 20) (bshl 1 wh)))) lo hi) = 0 then 0 else 1)
def F_X12_once (σ : zG) (wh lo hi : Int) : zG := if hb (σ 0 20) wh then (zu (zu σ 0 15 3) 0 16 (σ 0 12)) else (if (V_X12_takes (F_X12_next (zu σ 0 20 (bor (σ 0 20) (bshl 1 wh)))) lo hi) = 0 then (F_X12_takes (F_X12_next (zu σ 0 20 (bor (σ 0 20) (bshl 1 wh)))) lo hi) else (zu (F_X12_takes (F_X12_next (zu σ 0 20 (bor (σ 0 20) (bshl 1 wh)))) lo hi) 3 wh ((F_X12_takes (F_X12_next (zu σ 0 20 (bor (σ 0 20) (bshl 1 wh)))) lo hi) 0 18)))
theorem fr_F_X12_once (σ : zG) (wh lo hi : Int) {k : Nat} (h : k ∉ [0, 3]) : (F_X12_once σ wh lo hi) k = σ k := by
  have ne : ∀ c ∈ [0, 3], k ≠ c := fun c hc e => h (e ▸ hc)
  have nk_F_X12_takes : k ∉ [0] := fun hm => h (by first | (revert hm; simp only [List.mem_cons, List.not_mem_nil, or_false]; omega) | (simp at hm))
  have nk_F_X12_next : k ∉ [0] := fun hm => h (by first | (revert hm; simp only [List.mem_cons, List.not_mem_nil, or_false]; omega) | (simp at hm))
  unfold F_X12_once
  repeat' split
  all_goals first | rfl | simp only [zu_row _ _ _ (ne 0 (by decide)), zu_row _ _ _ (ne 3 (by decide)), fr_F_X12_takes (h := nk_F_X12_takes), fr_F_X12_next (h := nk_F_X12_next)]

set_option maxRecDepth 20000 in
theorem does_X12_once (σ : zG) (wh lo hi : Int) (hI : PI σ) (hw : 0 ≤ wh ∧ wh < 172) : zDo SM 3 m_X12_once [zP 0, .inl wh, .inl lo, .inl hi] σ (zEq (some (.inl (V_X12_once σ wh lo hi))) (F_X12_once σ wh lo hi)) := by
  refine zDo.intro mk_X12_once (Nat.le_of_ble_eq_true rfl) ?_
  refine zRx.aload_n 0 rfl rfl dX12_once_0 ?_
  refine zRx.getIv (a := 0) (ji := 20) (v := σ 0 20) rfl fl_12_269 rfl rfl rfl dX12_once_1 ?_
  refine zRx.iload_n 1 rfl rfl dX12_once_4 ?_
  refine zRx.cSi (w := .inl (b2 (hb (σ 0 20) wh))) (M := m_X12_has) (av := [.inl (σ 0 20), .inl wh]) cs_12_272 mk_X12_has (by decide) rfl (Nat.le_of_ble_eq_true rfl) dX12_once_5 (does_X12_has (σ 0 20) wh SM σ) ?_
  refine zRx.if_eqB (tgt := 17) dX12_once_8 (by decide) (fun c8 => ?_) (fun c8 => ?_)
  · refine zRx.aload_n 0 rfl rfl dX12_once_17 ?_
    refine zRx.dup rfl dX12_once_18 ?_
    refine zRx.getIv (a := 0) (ji := 20) (v := σ 0 20) rfl fl_12_269 rfl rfl rfl dX12_once_19 ?_
    refine zRx.iconst ⟨by decide, by decide⟩ dX12_once_22 ?_
    refine zRx.iload_n 1 rfl rfl dX12_once_23 ?_
    refine zRx.ishl dX12_once_24 ?_
    refine zRx.ior dX12_once_25 ?_
    refine zRx.putI (a := 0) (ji := 20) pl_12_269 rfl rfl rfl dX12_once_26 ?_
    refine zRx.aload_n 0 rfl rfl dX12_once_29 ?_
    refine zRx.cVv (M := m_X12_next) (av := []) cv_12_251 mk_X12_next (by decide) (b := 0) rfl rfl (Nat.le_of_ble_eq_true rfl) dX12_once_30 (does_next2 (zu σ 0 20 (bor (σ 0 20) (bshl 1 wh))) (PI_zu (by decide) hI)) ?_
    refine zRx.aload_n 0 rfl rfl dX12_once_33 ?_
    refine zRx.iload_n 2 rfl rfl dX12_once_34 ?_
    refine zRx.iload_n 3 rfl rfl dX12_once_35 ?_
    refine zRx.cVi (w := .inl (V_X12_takes (F_X12_next (zu σ 0 20 (bor (σ 0 20) (bshl 1 wh)))) lo hi)) (M := m_X12_takes) (av := [.inl lo, .inl hi]) cv_12_276 mk_X12_takes (by decide) (b := 0) rfl rfl (Nat.le_of_ble_eq_true rfl) dX12_once_36 (does_X12_takes (F_X12_next (zu σ 0 20 (bor (σ 0 20) (bshl 1 wh)))) lo hi (PI_F_X12_next (PI_zu (by decide) hI))) ?_
    refine zRx.if_ne (tgt := 44) dX12_once_39 (by decide) (fun c39 => ?_) (fun c39 => ?_)
    · refine zRx.aload_n 0 rfl rfl dX12_once_44 ?_
      refine zRx.getR (a := 0) (b := 3) fl_12_37 rfl rfl dX12_once_45 ?_
      refine zRx.iload_n 1 rfl rfl dX12_once_48 ?_
      refine zRx.aload_n 0 rfl rfl dX12_once_49 ?_
      refine zRx.getIv (a := 0) (ji := 18) (v := (F_X12_takes (F_X12_next (zu σ 0 20 (bor (σ 0 20) (bshl 1 wh)))) lo hi) 0 18) rfl fl_12_258 rfl rfl rfl dX12_once_50 ?_
      refine zRx.iast rfl (by omega) (by omega) dX12_once_53 ?_
      refine zRx.iconst ⟨by decide, by decide⟩ dX12_once_54 ?_
      exact zR.zret rfl ⟨by decide, by decide⟩ dX12_once_55 ⟨by unfold V_X12_once; rw [if_neg c8, if_neg c39], by unfold F_X12_once; rw [if_neg c8, if_neg c39]⟩
    · refine zRx.iconst ⟨by decide, by decide⟩ dX12_once_42 ?_
      exact zR.zret rfl ⟨by decide, by decide⟩ dX12_once_43 ⟨by unfold V_X12_once; rw [if_neg c8, if_pos c39], by unfold F_X12_once; rw [if_neg c8, if_pos c39]⟩
  · refine zRx.aload_n 0 rfl rfl dX12_once_11 ?_
    refine zRx.iconst ⟨by decide, by decide⟩ dX12_once_12 ?_
    refine zRx.cVi (w := .inl 0) (M := m_X12_bad) (av := [.inl 3]) cv_12_248 mk_X12_bad (by decide) (b := 0) rfl rfl (Nat.le_of_ble_eq_true rfl) dX12_once_13 (bad_eq2 σ 3 (σ 0 12) rfl) ?_
    exact zR.zret rfl ⟨by decide, by decide⟩ dX12_once_16 ⟨by unfold V_X12_once; rw [if_pos c8], by unfold F_X12_once; rw [if_pos c8]⟩

theorem PI_F_X12_once {σ : zG} {wh lo hi : Int} (hI : PI σ) : PI ((F_X12_once σ wh lo hi)) := by
  unfold F_X12_once
  repeat' split
  all_goals first | exact (PI_zu (by decide) (PI_zu (by decide) hI)) | exact (PI_F_X12_takes (PI_F_X12_next (PI_zu (by decide) hI))) | exact (PI_zu (fun h => absurd h.1 (by decide)) (PI_F_X12_takes (PI_F_X12_next (PI_zu (by decide) hI))))

theorem PH_F_X12_once {σ : zG} {wh lo hi : Int} (hH : PH σ) (hw : 3 ≤ wh) : PH ((F_X12_once σ wh lo hi)) := by
  unfold F_X12_once
  repeat' split
  all_goals first | exact (PH_zu (Or.inl (by decide)) (PH_zu (Or.inl (by decide)) hH)) | exact (PH_F_X12_takes (PH_F_X12_next (PH_zu (Or.inl (by decide)) hH))) | exact (PH_zu (Or.inr (by omega)) (PH_F_X12_takes (PH_F_X12_next (PH_zu (Or.inl (by decide)) hH))))

def S_X12_plainValley_2  : Nat → Int → zG → Int × zG
  | 0, q, σ => (q, σ)
  | n + 1, q, σ => if 172 ≤ q then (q, σ) else (S_X12_plainValley_2  n (q + 1) (zu σ 3 q 0))
theorem fr_S_X12_plainValley_2   (n : Nat) (q : Int) (σ : zG) {k : Nat} (h : k ∉ [3]) : (S_X12_plainValley_2  n q σ).2 k = σ k := by
  induction n generalizing q σ with
  | zero => rfl
  | succ n ih =>
    have ne : ∀ c ∈ [3], k ≠ c := fun c hc e => h (e ▸ hc)
    rw [S_X12_plainValley_2]
    repeat' split
    all_goals first | rfl | simp only [zu_row _ _ _ (ne 3 (by decide)), ih]

set_option maxRecDepth 20000 in
theorem seg_X12_plainValley_2   : ∀ (n : Nat) (q : Int) (σ : zG) (X : zX), 0 ≤ q → (172 - q).toNat < n → zRx none 0 m_X12_plainValley SM 22 [(0, zP 0), (1, .inl ((S_X12_plainValley_2  n q σ).1))] [] ((S_X12_plainValley_2  n q σ).2) X → zRx none 0 m_X12_plainValley SM 2 [(0, zP 0), (1, .inl q)] [] σ X := by
  intro n
  induction n with
  | zero => intro q σ X h0 hmz; exact absurd hmz (Nat.not_lt_zero _)
  | succ n ih =>
    intro q σ X h0 hmz K
    refine zRx.iload_n 1 rfl rfl dX12_plainValley_2 ?_
    refine zRx.sipush ⟨by decide, by decide⟩ rfl dX12_plainValley_3 ?_
    refine zRx.icmp_ge (tgt := 22) dX12_plainValley_6 (by decide) (fun c6 => ?_) (fun c6 => ?_)
    · have he : S_X12_plainValley_2  (n + 1) q σ = (q, σ) := by rw [S_X12_plainValley_2, if_pos c6]
      rw [he] at K
      exact K
    · refine zRx.aload_n 0 rfl rfl dX12_plainValley_9 ?_
      refine zRx.getR (a := 0) (b := 3) fl_12_37 rfl rfl dX12_plainValley_10 ?_
      refine zRx.iload_n 1 rfl rfl dX12_plainValley_13 ?_
      refine zRx.iconst ⟨by decide, by decide⟩ dX12_plainValley_14 ?_
      refine zRx.iast rfl (by omega) (by omega) dX12_plainValley_15 ?_
      refine zRx.iinc (n := 1) (ls' := [(0, zP 0), (1, .inl (q + 1))]) 1 rfl ⟨by omega, by omega⟩ rfl (by decide) dX12_plainValley_16 ?_
      refine zRx.goto (tgt := 2) dX12_plainValley_19 (by decide) ?_
      have he : S_X12_plainValley_2  (n + 1) q σ = S_X12_plainValley_2  n (q + 1) (zu σ 3 q 0) := by rw [S_X12_plainValley_2, if_neg (Int.not_le.mpr c6)]
      rw [he] at K
      exact ih (q + 1) (zu σ 3 q 0) _ (by omega) (by omega) K
def R_X12_plainValley (σ : zG)  : zG := zu (zu (zu (zu (zu ((S_X12_plainValley_2  180 0 σ).2) 3 3 28) 3 4 5) 3 5 15) 3 6 5) 3 7 20
theorem fr_R_X12_plainValley (σ : zG)  {k : Nat} (h : k ∉ [3]) : (R_X12_plainValley σ ) k = σ k := by
  have ne : ∀ c ∈ [3], k ≠ c := fun c hc e => h (e ▸ hc)
  have nk_S_X12_plainValley_2 : k ∉ [3] := fun hm => h (by first | (revert hm; simp only [List.mem_cons, List.not_mem_nil, or_false]; omega) | (simp at hm))
  have nl_S_X12_plainValley_2 : k ∉ [3] := fun hm => h (by first | (revert hm; simp only [List.mem_cons, List.not_mem_nil, or_false]; omega) | (simp at hm))
  unfold R_X12_plainValley
  repeat' split
  all_goals first | rfl | simp only [zu_row _ _ _ (ne 3 (by decide)), fr_S_X12_plainValley_2 (h := nk_S_X12_plainValley_2), fr_S_X12_plainValley_2 (h := nl_S_X12_plainValley_2)]

set_option maxRecDepth 20000 in
theorem does_X12_plainValley (σ : zG)    : zDo SM 0 m_X12_plainValley [zP 0] σ (zEq none (R_X12_plainValley σ )) := by
  refine zDo.intro mk_X12_plainValley (Nat.le_of_ble_eq_true rfl) ?_
  refine zRx.iconst ⟨by decide, by decide⟩ dX12_plainValley_0 ?_
  refine zRx.istore_n (ls' := [(0, zP 0), (1, .inl 0)]) rfl rfl (by decide) dX12_plainValley_1 ?_
  refine seg_X12_plainValley_2    180 0 σ _ (by omega) (by omega) ?_
  refine zRx.aload_n 0 rfl rfl dX12_plainValley_22 ?_
  refine zRx.getR (a := 0) (b := 3) fl_12_37 rfl rfl dX12_plainValley_23 ?_
  refine zRx.iconst ⟨by decide, by decide⟩ dX12_plainValley_26 ?_
  refine zRx.bipush ⟨by decide, by decide⟩ rfl dX12_plainValley_27 ?_
  refine zRx.iast rfl (by decide) (by decide) dX12_plainValley_29 ?_
  refine zRx.aload_n 0 rfl rfl dX12_plainValley_30 ?_
  refine zRx.getR (a := 0) (b := 3) fl_12_37 rfl rfl dX12_plainValley_31 ?_
  refine zRx.iconst ⟨by decide, by decide⟩ dX12_plainValley_34 ?_
  refine zRx.iconst ⟨by decide, by decide⟩ dX12_plainValley_35 ?_
  refine zRx.iast rfl (by decide) (by decide) dX12_plainValley_36 ?_
  refine zRx.aload_n 0 rfl rfl dX12_plainValley_37 ?_
  refine zRx.getR (a := 0) (b := 3) fl_12_37 rfl rfl dX12_plainValley_38 ?_
  refine zRx.iconst ⟨by decide, by decide⟩ dX12_plainValley_41 ?_
  refine zRx.bipush ⟨by decide, by decide⟩ rfl dX12_plainValley_42 ?_
  refine zRx.iast rfl (by decide) (by decide) dX12_plainValley_44 ?_
  refine zRx.aload_n 0 rfl rfl dX12_plainValley_45 ?_
  refine zRx.getR (a := 0) (b := 3) fl_12_37 rfl rfl dX12_plainValley_46 ?_
  refine zRx.bipush ⟨by decide, by decide⟩ rfl dX12_plainValley_49 ?_
  refine zRx.iconst ⟨by decide, by decide⟩ dX12_plainValley_51 ?_
  refine zRx.iast rfl (by decide) (by decide) dX12_plainValley_52 ?_
  refine zRx.aload_n 0 rfl rfl dX12_plainValley_53 ?_
  refine zRx.getR (a := 0) (b := 3) fl_12_37 rfl rfl dX12_plainValley_54 ?_
  refine zRx.bipush ⟨by decide, by decide⟩ rfl dX12_plainValley_57 ?_
  refine zRx.bipush ⟨by decide, by decide⟩ rfl dX12_plainValley_59 ?_
  refine zRx.iast rfl (by decide) (by decide) dX12_plainValley_61 ?_
  exact zR.ret rfl dX12_plainValley_62 ⟨rfl, (by rw [R_X12_plainValley] : R_X12_plainValley σ  = zu (zu (zu (zu (zu ((S_X12_plainValley_2  180 0 σ).2) 3 3 28) 3 4 5) 3 5 15) 3 6 5) 3 7 20).symm⟩

