/-! the reference reads tokens -/
def mu (σ : zG) : Int → Int := fun j => band (σ 1 j) 255
def pkc (u : Int → Int) (sz p : Int) : Int := if p < sz then u p else -1
theorem mu_r (σ : zG) (j : Int) : r32 (mu σ j) := r32_of _
theorem pkc_r (σ : zG) (sz p : Int) : r32 (pkc (mu σ) sz p) := by
  unfold pkc
  split
  · exact mu_r σ p
  · exact ⟨by decide, by decide⟩

set_option maxRecDepth 20000 in
theorem does_X12_peek (σ : zG) (h0 : 0 ≤ σ 0 4) (h1 : σ 0 3 ≤ 940) : zDo SM 0 m_X12_peek [zP 0] σ (zEq (some (.inl (pkc (mu σ) (σ 0 3) (σ 0 4)))) σ) := by
  refine zDo.intro mk_X12_peek (Nat.le_of_ble_eq_true rfl) ?_
  refine zRx.aload_n 0 rfl rfl dX12_peek_0 ?_
  refine zRx.getIv (a := 0) (ji := 4) (v := σ 0 4) rfl fl_12_21 rfl rfl rfl dX12_peek_1 ?_
  refine zRx.aload_n 0 rfl rfl dX12_peek_4 ?_
  refine zRx.getIv (a := 0) (ji := 3) (v := σ 0 3) rfl fl_12_18 rfl rfl rfl dX12_peek_5 ?_
  refine zRx.icmp_ge (tgt := 27) dX12_peek_8 (by decide) (fun c8 => ?_) (fun c8 => ?_)
  · refine zRx.iconst ⟨by decide, by decide⟩ dX12_peek_27 ?_
    exact zR.iret rfl dX12_peek_28 ⟨by unfold pkc; rw [if_neg (Int.not_lt.mpr c8)], rfl⟩
  · refine zRx.aload_n 0 rfl rfl dX12_peek_11 ?_
    refine zRx.getR (a := 0) (b := 1) fl_12_14 rfl rfl dX12_peek_12 ?_
    refine zRx.aload_n 0 rfl rfl dX12_peek_15 ?_
    refine zRx.getIv (a := 0) (ji := 4) (v := σ 0 4) rfl fl_12_21 rfl rfl rfl dX12_peek_16 ?_
    refine zRx.baldv (v := σ 1 (σ 0 4)) rfl rfl (by omega) (by omega) dX12_peek_19 ?_
    refine zRx.sipush ⟨by decide, by decide⟩ rfl dX12_peek_20 ?_
    refine zRx.iand dX12_peek_23 ?_
    refine zRx.goto (tgt := 28) dX12_peek_24 (by decide) ?_
    exact zR.iret rfl dX12_peek_28 ⟨by unfold pkc mu; rw [if_pos c8], rfl⟩

theorem does_peek2 (σ : zG) (u : Int → Int) (sz p : Int) (e1 : mu σ = u) (e2 : σ 0 3 = sz) (e3 : σ 0 4 = p) (h0 : 0 ≤ p) (h1 : sz ≤ 940) : zDo SM 0 m_X12_peek [zP 0] σ (zEq (some (.inl (pkc u sz p))) σ) := by
  subst e1; subst e2; subst e3
  exact does_X12_peek σ h0 h1

def V_X12_bad (kind : Int) : Int := 0
def F_X12_bad (σ : zG) (kind : Int) : zG := zu (zu σ 0 15 kind) 0 16 (σ 0 12)
set_option maxRecDepth 20000 in
theorem does_X12_bad (σ : zG) (kind : Int)  : zDo SM 0 m_X12_bad [zP 0, .inl kind] σ (zEq (some (.inl (V_X12_bad kind))) (F_X12_bad σ kind)) := by
  refine zDo.intro mk_X12_bad (Nat.le_of_ble_eq_true rfl) ?_
  refine zRx.aload_n 0 rfl rfl dX12_bad_0 ?_
  refine zRx.iload_n 1 rfl rfl dX12_bad_1 ?_
  refine zRx.putI (a := 0) (ji := 15) pl_12_239 rfl rfl rfl dX12_bad_2 ?_
  refine zRx.aload_n 0 rfl rfl dX12_bad_5 ?_
  refine zRx.aload_n 0 rfl rfl dX12_bad_6 ?_
  refine zRx.getIv (a := 0) (ji := 12) (v := σ 0 12) (zu_off _ _ _ (by decide)) fl_12_216 rfl rfl rfl dX12_bad_7 ?_
  refine zRx.putI (a := 0) (ji := 16) pl_12_242 rfl rfl rfl dX12_bad_10 ?_
  refine zRx.iconst ⟨by decide, by decide⟩ dX12_bad_13 ?_
  exact zR.zret rfl ⟨by decide, by decide⟩ dX12_bad_14 ⟨rfl, rfl⟩

set_option maxRecDepth 20000 in
theorem does_X12_isWord (σ : zG) (x : Int)  : zDo SM 0 m_X12_isWord [zP 0, zJ x] σ (zEq (some (.inl (b2 (σ 0 11 = 1 ∧ σ 0 17 = x)))) σ) := by
  refine zDo.intro mk_X12_isWord (Nat.le_of_ble_eq_true rfl) ?_
  refine zRx.aload_n 0 rfl rfl dX12_isWord_0 ?_
  refine zRx.getIv (a := 0) (ji := 11) (v := σ 0 11) rfl fl_12_222 rfl rfl rfl dX12_isWord_1 ?_
  refine zRx.iconst ⟨by decide, by decide⟩ dX12_isWord_4 ?_
  refine zRx.icmp_ne (tgt := 21) dX12_isWord_5 (by decide) (fun c5 => ?_) (fun c5 => ?_)
  · refine zRx.iconst ⟨by decide, by decide⟩ dX12_isWord_21 ?_
    exact zR.zret rfl ⟨by decide, by decide⟩ dX12_isWord_22 ⟨by rw [b2_f (by first | omega | (unfold zcmp at c14; split at c14 <;> first | omega | (split at c14 <;> omega)))], rfl⟩
  · refine zRx.aload_n 0 rfl rfl dX12_isWord_8 ?_
    refine zRx.getJv (a := 0) (ji := 17) (v := σ 0 17) rfl fl_12_235 rfl rfl rfl dX12_isWord_9 ?_
    refine zRx.lload_n 1 rfl rfl dX12_isWord_12 ?_
    refine zRx.lcmp dX12_isWord_13 ?_
    refine zRx.if_ne (tgt := 21) dX12_isWord_14 (by decide) (fun c14 => ?_) (fun c14 => ?_)
    · refine zRx.iconst ⟨by decide, by decide⟩ dX12_isWord_21 ?_
      exact zR.zret rfl ⟨by decide, by decide⟩ dX12_isWord_22 ⟨by rw [b2_f (by first | omega | (unfold zcmp at c14; split at c14 <;> first | omega | (split at c14 <;> omega)))], rfl⟩
    · refine zRx.iconst ⟨by decide, by decide⟩ dX12_isWord_17 ?_
      refine zRx.goto (tgt := 22) dX12_isWord_18 (by decide) ?_
      exact zR.zret rfl ⟨by decide, by decide⟩ dX12_isWord_22 ⟨by rw [b2_t (by first | omega | (unfold zcmp at c14; split at c14 <;> first | omega | (split at c14 <;> omega)))], rfl⟩

set_option maxRecDepth 20000 in
theorem does_X12_isSign (σ : zG) (c : Int)  : zDo SM 0 m_X12_isSign [zP 0, .inl c] σ (zEq (some (.inl (b2 (σ 0 11 = 3 ∧ σ 0 14 = c)))) σ) := by
  refine zDo.intro mk_X12_isSign (Nat.le_of_ble_eq_true rfl) ?_
  refine zRx.aload_n 0 rfl rfl dX12_isSign_0 ?_
  refine zRx.getIv (a := 0) (ji := 11) (v := σ 0 11) rfl fl_12_222 rfl rfl rfl dX12_isSign_1 ?_
  refine zRx.iconst ⟨by decide, by decide⟩ dX12_isSign_4 ?_
  refine zRx.icmp_ne (tgt := 20) dX12_isSign_5 (by decide) (fun c5 => ?_) (fun c5 => ?_)
  · refine zRx.iconst ⟨by decide, by decide⟩ dX12_isSign_20 ?_
    exact zR.zret rfl ⟨by decide, by decide⟩ dX12_isSign_21 ⟨by rw [b2_f (by omega)], rfl⟩
  · refine zRx.aload_n 0 rfl rfl dX12_isSign_8 ?_
    refine zRx.getIv (a := 0) (ji := 14) (v := σ 0 14) rfl fl_12_232 rfl rfl rfl dX12_isSign_9 ?_
    refine zRx.iload_n 1 rfl rfl dX12_isSign_12 ?_
    refine zRx.icmp_ne (tgt := 20) dX12_isSign_13 (by decide) (fun c13 => ?_) (fun c13 => ?_)
    · refine zRx.iconst ⟨by decide, by decide⟩ dX12_isSign_20 ?_
      exact zR.zret rfl ⟨by decide, by decide⟩ dX12_isSign_21 ⟨by rw [b2_f (by omega)], rfl⟩
    · refine zRx.iconst ⟨by decide, by decide⟩ dX12_isSign_16 ?_
      refine zRx.goto (tgt := 21) dX12_isSign_17 (by decide) ?_
      exact zR.zret rfl ⟨by decide, by decide⟩ dX12_isSign_21 ⟨by rw [b2_t (by omega)], rfl⟩

def skm (u : Int → Int) (sz : Int) : Nat → Int → Int
  | 0, p => p
  | n + 1, p => if pkc u sz p = 32 then skm u sz n (p + 1) else if pkc u sz p = 10 then skm u sz n (p + 1) else p
theorem pkc_lt {u : Int → Int} {sz p : Int} (h : 0 ≤ pkc u sz p) : p < sz := by
  unfold pkc at h
  split at h
  · assumption
  · omega
theorem skm_r (u : Int → Int) (sz : Int) : ∀ (n : Nat) (p : Int), p ≤ skm u sz n p ∧ skm u sz n p ≤ max p sz
  | 0, p => ⟨Int.le_refl _, Int.le_max_left _ _⟩
  | n + 1, p => by
    rw [skm]
    have h9 := skm_r u sz n (p + 1)
    split
    · have := pkc_lt (u := u) (sz := sz) (p := p) (by omega)
      omega
    · split
      · have := pkc_lt (u := u) (sz := sz) (p := p) (by omega)
        omega
      · exact ⟨Int.le_refl _, Int.le_max_left _ _⟩

def S_X12_next_0  : Nat → zG → zG
  | 0, σ => (σ)
  | n + 1, σ => if (pkc (mu σ) (σ 0 3) (σ 0 4)) = 32 then (S_X12_next_0  n  (zu σ 0 4 ((σ 0 4) + 1))) else (if (pkc (mu σ) (σ 0 3) (σ 0 4)) = 10 then (S_X12_next_0  n  (zu σ 0 4 ((σ 0 4) + 1))) else σ)
set_option maxRecDepth 20000 in
theorem seg_X12_next_0   : ∀ (n : Nat) (σ : zG) (X : zX), 0 ≤ σ 0 4 → σ 0 3 ≤ 940 → (σ 0 3 - σ 0 4).toNat < n → zRx none 1 m_X12_next SM 31 [(0, zP 0)] [] (S_X12_next_0  n  σ) X → zRx none 1 m_X12_next SM 0 [(0, zP 0)] [] σ X := by
  intro n
  induction n with
  | zero => intro  σ X h0 h1 hmz; exact absurd hmz (Nat.not_lt_zero _)
  | succ n ih =>
    intro  σ X h0 h1 hmz K
    refine zRx.aload_n 0 rfl rfl dX12_next_0 ?_
    refine zRx.cVi (w := .inl (pkc (mu σ) (σ 0 3) (σ 0 4))) (M := m_X12_peek) (av := []) cv_12_212 mk_X12_peek (by decide) (b := 0) rfl rfl (Nat.le_of_ble_eq_true rfl) dX12_next_1 (does_peek2 σ (mu σ) (σ 0 3) (σ 0 4) rfl rfl rfl (by omega) (by omega)) ?_
    refine zRx.bipush ⟨by decide, by decide⟩ rfl dX12_next_4 ?_
    refine zRx.icmp_eq (tgt := 18) dX12_next_6 (by decide) (fun c6 => ?_) (fun c6 => ?_)
    · have hr0 := pkc_lt (u := mu σ) (sz := σ 0 3) (p := σ 0 4) (by omega)
      refine zRx.aload_n 0 rfl rfl dX12_next_18 ?_
      refine zRx.dup rfl dX12_next_19 ?_
      refine zRx.getIv (a := 0) (ji := 4) (v := σ 0 4) rfl fl_12_21 rfl rfl rfl dX12_next_20 ?_
      refine zRx.iconst ⟨by decide, by decide⟩ dX12_next_23 ?_
      refine zRx.iadd ⟨by omega, by omega⟩ dX12_next_24 ?_
      refine zRx.putI (a := 0) (ji := 4) pl_12_21 rfl rfl rfl dX12_next_25 ?_
      refine zRx.goto (tgt := 0) dX12_next_28 (by decide) ?_
      have he : S_X12_next_0  (n + 1)  σ = S_X12_next_0  n  (zu σ 0 4 ((σ 0 4) + 1)) := by rw [S_X12_next_0, if_pos c6]
      rw [he] at K
      exact ih  (zu σ 0 4 ((σ 0 4) + 1)) _ (by first | omega | (simp [zu]; omega) | (simp [zu])) (by first | omega | (simp [zu]; omega) | (simp [zu])) (by simp [zu]; have := pkc_lt (u := mu σ) (sz := σ 0 3) (p := σ 0 4) (by omega); omega) K
    · refine zRx.aload_n 0 rfl rfl dX12_next_9 ?_
      refine zRx.cVi (w := .inl (pkc (mu σ) (σ 0 3) (σ 0 4))) (M := m_X12_peek) (av := []) cv_12_212 mk_X12_peek (by decide) (b := 0) rfl rfl (Nat.le_of_ble_eq_true rfl) dX12_next_10 (does_peek2 σ (mu σ) (σ 0 3) (σ 0 4) rfl rfl rfl (by omega) (by omega)) ?_
      refine zRx.bipush ⟨by decide, by decide⟩ rfl dX12_next_13 ?_
      refine zRx.icmp_ne (tgt := 31) dX12_next_15 (by decide) (fun c15 => ?_) (fun c15 => ?_)
      · have he : S_X12_next_0  (n + 1)  σ = σ := by rw [S_X12_next_0, if_neg c6, if_neg c15]
        rw [he] at K
        exact K
      · have hr0 := pkc_lt (u := mu σ) (sz := σ 0 3) (p := σ 0 4) (by omega)
        refine zRx.aload_n 0 rfl rfl dX12_next_18 ?_
        refine zRx.dup rfl dX12_next_19 ?_
        refine zRx.getIv (a := 0) (ji := 4) (v := σ 0 4) rfl fl_12_21 rfl rfl rfl dX12_next_20 ?_
        refine zRx.iconst ⟨by decide, by decide⟩ dX12_next_23 ?_
        refine zRx.iadd ⟨by omega, by omega⟩ dX12_next_24 ?_
        refine zRx.putI (a := 0) (ji := 4) pl_12_21 rfl rfl rfl dX12_next_25 ?_
        refine zRx.goto (tgt := 0) dX12_next_28 (by decide) ?_
        have he : S_X12_next_0  (n + 1)  σ = S_X12_next_0  n  (zu σ 0 4 ((σ 0 4) + 1)) := by rw [S_X12_next_0, if_neg c6, if_pos c15]
        rw [he] at K
        exact ih  (zu σ 0 4 ((σ 0 4) + 1)) _ (by first | omega | (simp [zu]; omega) | (simp [zu])) (by first | omega | (simp [zu]; omega) | (simp [zu])) (by simp [zu]; have := pkc_lt (u := mu σ) (sz := σ 0 3) (p := σ 0 4) (by omega); omega) K

theorem S_next0_eq : ∀ (n : Nat) (σ : zG), S_X12_next_0 n σ = zu σ 0 4 (skm (mu σ) (σ 0 3) n (σ 0 4))
  | 0, σ => by simp only [S_X12_next_0, skm, zu_self]
  | n + 1, σ => by
    have hrec : S_X12_next_0 n (zu σ 0 4 (σ 0 4 + 1)) = zu σ 0 4 (skm (mu σ) (σ 0 3) n (σ 0 4 + 1)) := by
      rw [S_next0_eq n, zu_off σ 0 (σ 0 4 + 1) (show (3 : Int) ≠ 4 by decide), zu_at, zu_zu]
      have e : mu (zu σ 0 4 (σ 0 4 + 1)) = mu σ := by funext j; simp [mu, zu]
      rw [e]
    rw [S_X12_next_0, skm]
    by_cases h2 : pkc (mu σ) (σ 0 3) (σ 0 4) = 32
    · simp only [if_pos h2, hrec]
    · by_cases h3 : pkc (mu σ) (σ 0 3) (σ 0 4) = 10
      · simp only [if_neg h2, if_pos h3, hrec]
      · simp only [if_neg h2, if_neg h3, zu_self]

def S_X12_next_181 (small : Int) : Nat → Int → zG → Int × zG
  | 0, a, σ => (a, σ)
  | n + 1, a, σ => if 97 ≤ (pkc (mu σ) (σ 0 3) (σ 0 4)) ∧ (pkc (mu σ) (σ 0 3) (σ 0 4)) ≤ 122 then (if a = 0 then (if 6 ≤ (σ 0 13) then (if 3 ≤ (σ 0 13) then (S_X12_next_181 small n 0 (zu (zu σ 0 13 ((σ 0 13) + 1)) 0 4 ((σ 0 4) + 1))) else (S_X12_next_181 small n 0 (zu (zu (zu σ 0 14 (((10 * (σ 0 14)) + (pkc (mu σ) (σ 0 3) (σ 0 4))) - 48)) 0 13 ((σ 0 13) + 1)) 0 4 ((σ 0 4) + 1)))) else (if 3 ≤ (σ 0 13) then (S_X12_next_181 small n 0 (zu (zu (zu σ 0 17 (jor (jshl (σ 0 17) 8) (pkc (mu σ) (σ 0 3) (σ 0 4)))) 0 13 ((σ 0 13) + 1)) 0 4 ((σ 0 4) + 1))) else (S_X12_next_181 small n 0 (zu (zu (zu (zu σ 0 17 (jor (jshl (σ 0 17) 8) (pkc (mu σ) (σ 0 3) (σ 0 4)))) 0 14 (((10 * (σ 0 14)) + (pkc (mu σ) (σ 0 3) (σ 0 4))) - 48)) 0 13 ((σ 0 13) + 1)) 0 4 ((σ 0 4) + 1))))) else (if (b2 (97 ≤ (pkc (mu σ) (σ 0 3) (σ 0 4)) ∧ (pkc (mu σ) (σ 0 3) (σ 0 4)) ≤ 122)) = small then (if 6 ≤ (σ 0 13) then (if 3 ≤ (σ 0 13) then (S_X12_next_181 small n 1 (zu (zu σ 0 13 ((σ 0 13) + 1)) 0 4 ((σ 0 4) + 1))) else (S_X12_next_181 small n 1 (zu (zu (zu σ 0 14 (((10 * (σ 0 14)) + (pkc (mu σ) (σ 0 3) (σ 0 4))) - 48)) 0 13 ((σ 0 13) + 1)) 0 4 ((σ 0 4) + 1)))) else (if 3 ≤ (σ 0 13) then (S_X12_next_181 small n 1 (zu (zu (zu σ 0 17 (jor (jshl (σ 0 17) 8) (pkc (mu σ) (σ 0 3) (σ 0 4)))) 0 13 ((σ 0 13) + 1)) 0 4 ((σ 0 4) + 1))) else (S_X12_next_181 small n 1 (zu (zu (zu (zu σ 0 17 (jor (jshl (σ 0 17) 8) (pkc (mu σ) (σ 0 3) (σ 0 4)))) 0 14 (((10 * (σ 0 14)) + (pkc (mu σ) (σ 0 3) (σ 0 4))) - 48)) 0 13 ((σ 0 13) + 1)) 0 4 ((σ 0 4) + 1))))) else (if 6 ≤ (σ 0 13) then (if 3 ≤ (σ 0 13) then (S_X12_next_181 small n 0 (zu (zu σ 0 13 ((σ 0 13) + 1)) 0 4 ((σ 0 4) + 1))) else (S_X12_next_181 small n 0 (zu (zu (zu σ 0 14 (((10 * (σ 0 14)) + (pkc (mu σ) (σ 0 3) (σ 0 4))) - 48)) 0 13 ((σ 0 13) + 1)) 0 4 ((σ 0 4) + 1)))) else (if 3 ≤ (σ 0 13) then (S_X12_next_181 small n 0 (zu (zu (zu σ 0 17 (jor (jshl (σ 0 17) 8) (pkc (mu σ) (σ 0 3) (σ 0 4)))) 0 13 ((σ 0 13) + 1)) 0 4 ((σ 0 4) + 1))) else (S_X12_next_181 small n 0 (zu (zu (zu (zu σ 0 17 (jor (jshl (σ 0 17) 8) (pkc (mu σ) (σ 0 3) (σ 0 4)))) 0 14 (((10 * (σ 0 14)) + (pkc (mu σ) (σ 0 3) (σ 0 4))) - 48)) 0 13 ((σ 0 13) + 1)) 0 4 ((σ 0 4) + 1))))))) else (if 48 ≤ (pkc (mu σ) (σ 0 3) (σ 0 4)) ∧ (pkc (mu σ) (σ 0 3) (σ 0 4)) ≤ 57 then (if a = 0 then (if 6 ≤ (σ 0 13) then (if 3 ≤ (σ 0 13) then (S_X12_next_181 small n 0 (zu (zu σ 0 13 ((σ 0 13) + 1)) 0 4 ((σ 0 4) + 1))) else (S_X12_next_181 small n 0 (zu (zu (zu σ 0 14 (((10 * (σ 0 14)) + (pkc (mu σ) (σ 0 3) (σ 0 4))) - 48)) 0 13 ((σ 0 13) + 1)) 0 4 ((σ 0 4) + 1)))) else (if 3 ≤ (σ 0 13) then (S_X12_next_181 small n 0 (zu (zu (zu σ 0 17 (jor (jshl (σ 0 17) 8) (pkc (mu σ) (σ 0 3) (σ 0 4)))) 0 13 ((σ 0 13) + 1)) 0 4 ((σ 0 4) + 1))) else (S_X12_next_181 small n 0 (zu (zu (zu (zu σ 0 17 (jor (jshl (σ 0 17) 8) (pkc (mu σ) (σ 0 3) (σ 0 4)))) 0 14 (((10 * (σ 0 14)) + (pkc (mu σ) (σ 0 3) (σ 0 4))) - 48)) 0 13 ((σ 0 13) + 1)) 0 4 ((σ 0 4) + 1))))) else (if (b2 (97 ≤ (pkc (mu σ) (σ 0 3) (σ 0 4)) ∧ (pkc (mu σ) (σ 0 3) (σ 0 4)) ≤ 122)) = small then (if 6 ≤ (σ 0 13) then (if 3 ≤ (σ 0 13) then (S_X12_next_181 small n 1 (zu (zu σ 0 13 ((σ 0 13) + 1)) 0 4 ((σ 0 4) + 1))) else (S_X12_next_181 small n 1 (zu (zu (zu σ 0 14 (((10 * (σ 0 14)) + (pkc (mu σ) (σ 0 3) (σ 0 4))) - 48)) 0 13 ((σ 0 13) + 1)) 0 4 ((σ 0 4) + 1)))) else (if 3 ≤ (σ 0 13) then (S_X12_next_181 small n 1 (zu (zu (zu σ 0 17 (jor (jshl (σ 0 17) 8) (pkc (mu σ) (σ 0 3) (σ 0 4)))) 0 13 ((σ 0 13) + 1)) 0 4 ((σ 0 4) + 1))) else (S_X12_next_181 small n 1 (zu (zu (zu (zu σ 0 17 (jor (jshl (σ 0 17) 8) (pkc (mu σ) (σ 0 3) (σ 0 4)))) 0 14 (((10 * (σ 0 14)) + (pkc (mu σ) (σ 0 3) (σ 0 4))) - 48)) 0 13 ((σ 0 13) + 1)) 0 4 ((σ 0 4) + 1))))) else (if 6 ≤ (σ 0 13) then (if 3 ≤ (σ 0 13) then (S_X12_next_181 small n 0 (zu (zu σ 0 13 ((σ 0 13) + 1)) 0 4 ((σ 0 4) + 1))) else (S_X12_next_181 small n 0 (zu (zu (zu σ 0 14 (((10 * (σ 0 14)) + (pkc (mu σ) (σ 0 3) (σ 0 4))) - 48)) 0 13 ((σ 0 13) + 1)) 0 4 ((σ 0 4) + 1)))) else (if 3 ≤ (σ 0 13) then (S_X12_next_181 small n 0 (zu (zu (zu σ 0 17 (jor (jshl (σ 0 17) 8) (pkc (mu σ) (σ 0 3) (σ 0 4)))) 0 13 ((σ 0 13) + 1)) 0 4 ((σ 0 4) + 1))) else (S_X12_next_181 small n 0 (zu (zu (zu (zu σ 0 17 (jor (jshl (σ 0 17) 8) (pkc (mu σ) (σ 0 3) (σ 0 4)))) 0 14 (((10 * (σ 0 14)) + (pkc (mu σ) (σ 0 3) (σ 0 4))) - 48)) 0 13 ((σ 0 13) + 1)) 0 4 ((σ 0 4) + 1))))))) else (a, σ))
set_option maxRecDepth 20000 in
theorem seg_X12_next_181 (small : Int)  : ∀ (n : Nat) (a : Int) (σ : zG) (X : zX), 0 ≤ σ 0 4 → σ 0 3 ≤ 940 → 0 ≤ σ 0 13 ∧ σ 0 13 ≤ σ 0 4 → (σ 0 13 ≤ 3 → -600000 ≤ σ 0 14 ∧ σ 0 14 ≤ 600000 ∧ (σ 0 13 = 0 → σ 0 14 = 0) ∧ (σ 0 13 ≤ 1 → -100 ≤ σ 0 14 ∧ σ 0 14 ≤ 300) ∧ (σ 0 13 ≤ 2 → -4000 ≤ σ 0 14 ∧ σ 0 14 ≤ 4000)) → (σ 0 3 - σ 0 4).toNat < n → zRx none 1 m_X12_next SM 298 [(0, zP 0), (2, .inl small), (3, .inl ((S_X12_next_181 small n a σ).1))] [] ((S_X12_next_181 small n a σ).2) X → zRx none 1 m_X12_next SM 181 [(0, zP 0), (2, .inl small), (3, .inl a)] [] σ X := by
  intro n
  induction n with
  | zero => intro a σ X h0 h1 h2 h3 hmz; exact absurd hmz (Nat.not_lt_zero _)
  | succ n ih =>
    intro a σ X h0 h1 h2 h3 hmz K
    refine zRx.aload_n 0 rfl rfl dX12_next_181 ?_
    refine zRx.cVi (w := .inl (pkc (mu σ) (σ 0 3) (σ 0 4))) (M := m_X12_peek) (av := []) cv_12_212 mk_X12_peek (by decide) (b := 0) rfl rfl (Nat.le_of_ble_eq_true rfl) dX12_next_182 (does_peek2 σ (mu σ) (σ 0 3) (σ 0 4) rfl rfl rfl (by omega) (by omega)) ?_
    refine zRx.cSi (w := .inl (b2 (97 ≤ (pkc (mu σ) (σ 0 3) (σ 0 4)) ∧ (pkc (mu σ) (σ 0 3) (σ 0 4)) ≤ 122))) (M := m_X12_isSmall) (av := [.inl (pkc (mu σ) (σ 0 3) (σ 0 4))]) cs_12_225 mk_X12_isSmall (by decide) rfl (Nat.le_of_ble_eq_true rfl) dX12_next_185 (does_X12_isSmall (pkc (mu σ) (σ 0 3) (σ 0 4)) SM σ) ?_
    refine zRx.if_neB (tgt := 201) dX12_next_188 (by decide) (fun c188 => ?_) (fun c188 => ?_)
    · have hr0 := pkc_lt (u := mu σ) (sz := σ 0 3) (p := σ 0 4) (by omega)
      have hr1 := pkc_r σ (σ 0 3) (σ 0 4)
      unfold r32 at hr1
      refine zRx.iload_n 2 rfl rfl dX12_next_201 ?_
      refine zRx.if_eq (tgt := 220) dX12_next_202 (by decide) (fun c202 => ?_) (fun c202 => ?_)
      · refine zRx.iconst ⟨by decide, by decide⟩ dX12_next_220 ?_
        refine zRx.istore_n (ls' := [(0, zP 0), (2, .inl small), (3, .inl 0)]) rfl rfl (by decide) dX12_next_221 ?_
        refine zRx.aload_n 0 rfl rfl dX12_next_222 ?_
        refine zRx.getIv (a := 0) (ji := 13) (v := σ 0 13) rfl fl_12_219 rfl rfl rfl dX12_next_223 ?_
        refine zRx.bipush ⟨by decide, by decide⟩ rfl dX12_next_226 ?_
        refine zRx.icmp_ge (tgt := 248) dX12_next_228 (by decide) (fun c228 => ?_) (fun c228 => ?_)
        · refine zRx.aload_n 0 rfl rfl dX12_next_248 ?_
          refine zRx.getIv (a := 0) (ji := 13) (v := σ 0 13) rfl fl_12_219 rfl rfl rfl dX12_next_249 ?_
          refine zRx.iconst ⟨by decide, by decide⟩ dX12_next_252 ?_
          refine zRx.icmp_ge (tgt := 275) dX12_next_253 (by decide) (fun c253 => ?_) (fun c253 => ?_)
          · refine zRx.aload_n 0 rfl rfl dX12_next_275 ?_
            refine zRx.dup rfl dX12_next_276 ?_
            refine zRx.getIv (a := 0) (ji := 13) (v := σ 0 13) rfl fl_12_219 rfl rfl rfl dX12_next_277 ?_
            refine zRx.iconst ⟨by decide, by decide⟩ dX12_next_280 ?_
            refine zRx.iadd ⟨by omega, by omega⟩ dX12_next_281 ?_
            refine zRx.putI (a := 0) (ji := 13) pl_12_219 rfl rfl rfl dX12_next_282 ?_
            refine zRx.aload_n 0 rfl rfl dX12_next_285 ?_
            refine zRx.dup rfl dX12_next_286 ?_
            refine zRx.getIv (a := 0) (ji := 4) (v := σ 0 4) (zu_off _ _ _ (by decide)) fl_12_21 rfl rfl rfl dX12_next_287 ?_
            refine zRx.iconst ⟨by decide, by decide⟩ dX12_next_290 ?_
            refine zRx.iadd ⟨by omega, by omega⟩ dX12_next_291 ?_
            refine zRx.putI (a := 0) (ji := 4) pl_12_21 rfl rfl rfl dX12_next_292 ?_
            refine zRx.goto (tgt := 181) dX12_next_295 (by decide) ?_
            have he : S_X12_next_181 small (n + 1) a σ = S_X12_next_181 small n 0 (zu (zu σ 0 13 ((σ 0 13) + 1)) 0 4 ((σ 0 4) + 1)) := by rw [S_X12_next_181, if_pos c188, if_pos c202, if_pos c228, if_pos c253]
            rw [he] at K
            exact ih 0 (zu (zu σ 0 13 ((σ 0 13) + 1)) 0 4 ((σ 0 4) + 1)) _ (by first | omega | (simp [zu]; omega) | (simp [zu])) (by first | omega | (simp [zu]; omega) | (simp [zu])) (by first | omega | (simp [zu]; omega) | (simp [zu])) (by simp [zu]; omega) (by simp [zu]; omega) K
          · refine zRx.aload_n 0 rfl rfl dX12_next_256 ?_
            refine zRx.bipush ⟨by decide, by decide⟩ rfl dX12_next_257 ?_
            refine zRx.aload_n 0 rfl rfl dX12_next_259 ?_
            refine zRx.getIv (a := 0) (ji := 14) (v := σ 0 14) rfl fl_12_232 rfl rfl rfl dX12_next_260 ?_
            refine zRx.imul ⟨by omega, by omega⟩ dX12_next_263 ?_
            refine zRx.aload_n 0 rfl rfl dX12_next_264 ?_
            refine zRx.cVi (w := .inl (pkc (mu σ) (σ 0 3) (σ 0 4))) (M := m_X12_peek) (av := []) cv_12_212 mk_X12_peek (by decide) (b := 0) rfl rfl (Nat.le_of_ble_eq_true rfl) dX12_next_265 (does_peek2 σ (mu σ) (σ 0 3) (σ 0 4) rfl rfl rfl (by omega) (by omega)) ?_
            refine zRx.iadd ⟨by omega, by omega⟩ dX12_next_268 ?_
            refine zRx.bipush ⟨by decide, by decide⟩ rfl dX12_next_269 ?_
            refine zRx.isub ⟨by omega, by omega⟩ dX12_next_271 ?_
            refine zRx.putI (a := 0) (ji := 14) pl_12_232 rfl rfl rfl dX12_next_272 ?_
            refine zRx.aload_n 0 rfl rfl dX12_next_275 ?_
            refine zRx.dup rfl dX12_next_276 ?_
            refine zRx.getIv (a := 0) (ji := 13) (v := σ 0 13) (zu_off _ _ _ (by decide)) fl_12_219 rfl rfl rfl dX12_next_277 ?_
            refine zRx.iconst ⟨by decide, by decide⟩ dX12_next_280 ?_
            refine zRx.iadd ⟨by omega, by omega⟩ dX12_next_281 ?_
            refine zRx.putI (a := 0) (ji := 13) pl_12_219 rfl rfl rfl dX12_next_282 ?_
            refine zRx.aload_n 0 rfl rfl dX12_next_285 ?_
            refine zRx.dup rfl dX12_next_286 ?_
            refine zRx.getIv (a := 0) (ji := 4) (v := σ 0 4) ((zu_off _ _ _ (by decide)).trans (zu_off _ _ _ (by decide))) fl_12_21 rfl rfl rfl dX12_next_287 ?_
            refine zRx.iconst ⟨by decide, by decide⟩ dX12_next_290 ?_
            refine zRx.iadd ⟨by omega, by omega⟩ dX12_next_291 ?_
            refine zRx.putI (a := 0) (ji := 4) pl_12_21 rfl rfl rfl dX12_next_292 ?_
            refine zRx.goto (tgt := 181) dX12_next_295 (by decide) ?_
            have he : S_X12_next_181 small (n + 1) a σ = S_X12_next_181 small n 0 (zu (zu (zu σ 0 14 (((10 * (σ 0 14)) + (pkc (mu σ) (σ 0 3) (σ 0 4))) - 48)) 0 13 ((σ 0 13) + 1)) 0 4 ((σ 0 4) + 1)) := by rw [S_X12_next_181, if_pos c188, if_pos c202, if_pos c228, if_neg (Int.not_le.mpr c253)]
            rw [he] at K
            exact ih 0 (zu (zu (zu σ 0 14 (((10 * (σ 0 14)) + (pkc (mu σ) (σ 0 3) (σ 0 4))) - 48)) 0 13 ((σ 0 13) + 1)) 0 4 ((σ 0 4) + 1)) _ (by first | omega | (simp [zu]; omega) | (simp [zu])) (by first | omega | (simp [zu]; omega) | (simp [zu])) (by first | omega | (simp [zu]; omega) | (simp [zu])) (by simp [zu]; omega) (by simp [zu]; omega) K
        · refine zRx.aload_n 0 rfl rfl dX12_next_231 ?_
          refine zRx.aload_n 0 rfl rfl dX12_next_232 ?_
          refine zRx.getJv (a := 0) (ji := 17) (v := σ 0 17) rfl fl_12_235 rfl rfl rfl dX12_next_233 ?_
          refine zRx.bipush ⟨by decide, by decide⟩ rfl dX12_next_236 ?_
          refine zRx.lshl dX12_next_238 ?_
          refine zRx.aload_n 0 rfl rfl dX12_next_239 ?_
          refine zRx.cVi (w := .inl (pkc (mu σ) (σ 0 3) (σ 0 4))) (M := m_X12_peek) (av := []) cv_12_212 mk_X12_peek (by decide) (b := 0) rfl rfl (Nat.le_of_ble_eq_true rfl) dX12_next_240 (does_peek2 σ (mu σ) (σ 0 3) (σ 0 4) rfl rfl rfl (by omega) (by omega)) ?_
          refine zRx.i2l dX12_next_243 ?_
          refine zRx.lor dX12_next_244 ?_
          refine zRx.putJ (a := 0) (ji := 17) pl_12_235 rfl rfl rfl dX12_next_245 ?_
          refine zRx.aload_n 0 rfl rfl dX12_next_248 ?_
          refine zRx.getIv (a := 0) (ji := 13) (v := σ 0 13) (zu_off _ _ _ (by decide)) fl_12_219 rfl rfl rfl dX12_next_249 ?_
          refine zRx.iconst ⟨by decide, by decide⟩ dX12_next_252 ?_
          refine zRx.icmp_ge (tgt := 275) dX12_next_253 (by decide) (fun c253 => ?_) (fun c253 => ?_)
          · refine zRx.aload_n 0 rfl rfl dX12_next_275 ?_
            refine zRx.dup rfl dX12_next_276 ?_
            refine zRx.getIv (a := 0) (ji := 13) (v := σ 0 13) (zu_off _ _ _ (by decide)) fl_12_219 rfl rfl rfl dX12_next_277 ?_
            refine zRx.iconst ⟨by decide, by decide⟩ dX12_next_280 ?_
            refine zRx.iadd ⟨by omega, by omega⟩ dX12_next_281 ?_
            refine zRx.putI (a := 0) (ji := 13) pl_12_219 rfl rfl rfl dX12_next_282 ?_
            refine zRx.aload_n 0 rfl rfl dX12_next_285 ?_
            refine zRx.dup rfl dX12_next_286 ?_
            refine zRx.getIv (a := 0) (ji := 4) (v := σ 0 4) ((zu_off _ _ _ (by decide)).trans (zu_off _ _ _ (by decide))) fl_12_21 rfl rfl rfl dX12_next_287 ?_
            refine zRx.iconst ⟨by decide, by decide⟩ dX12_next_290 ?_
            refine zRx.iadd ⟨by omega, by omega⟩ dX12_next_291 ?_
            refine zRx.putI (a := 0) (ji := 4) pl_12_21 rfl rfl rfl dX12_next_292 ?_
            refine zRx.goto (tgt := 181) dX12_next_295 (by decide) ?_
            have he : S_X12_next_181 small (n + 1) a σ = S_X12_next_181 small n 0 (zu (zu (zu σ 0 17 (jor (jshl (σ 0 17) 8) (pkc (mu σ) (σ 0 3) (σ 0 4)))) 0 13 ((σ 0 13) + 1)) 0 4 ((σ 0 4) + 1)) := by rw [S_X12_next_181, if_pos c188, if_pos c202, if_neg (Int.not_le.mpr c228), if_pos c253]
            rw [he] at K
            exact ih 0 (zu (zu (zu σ 0 17 (jor (jshl (σ 0 17) 8) (pkc (mu σ) (σ 0 3) (σ 0 4)))) 0 13 ((σ 0 13) + 1)) 0 4 ((σ 0 4) + 1)) _ (by first | omega | (simp [zu]; omega) | (simp [zu])) (by first | omega | (simp [zu]; omega) | (simp [zu])) (by first | omega | (simp [zu]; omega) | (simp [zu])) (by simp [zu]; omega) (by simp [zu]; omega) K
          · refine zRx.aload_n 0 rfl rfl dX12_next_256 ?_
            refine zRx.bipush ⟨by decide, by decide⟩ rfl dX12_next_257 ?_
            refine zRx.aload_n 0 rfl rfl dX12_next_259 ?_
            refine zRx.getIv (a := 0) (ji := 14) (v := σ 0 14) (zu_off _ _ _ (by decide)) fl_12_232 rfl rfl rfl dX12_next_260 ?_
            refine zRx.imul ⟨by omega, by omega⟩ dX12_next_263 ?_
            refine zRx.aload_n 0 rfl rfl dX12_next_264 ?_
            refine zRx.cVi (w := .inl (pkc (mu σ) (σ 0 3) (σ 0 4))) (M := m_X12_peek) (av := []) cv_12_212 mk_X12_peek (by decide) (b := 0) rfl rfl (Nat.le_of_ble_eq_true rfl) dX12_next_265 (does_peek2 (zu σ 0 17 (jor (jshl (σ 0 17) 8) (pkc (mu σ) (σ 0 3) (σ 0 4)))) (mu σ) (σ 0 3) (σ 0 4) (by funext i; simp [mu, zu]) (zu_off _ _ _ (by decide)) (zu_off _ _ _ (by decide)) (by omega) (by omega)) ?_
            refine zRx.iadd ⟨by omega, by omega⟩ dX12_next_268 ?_
            refine zRx.bipush ⟨by decide, by decide⟩ rfl dX12_next_269 ?_
            refine zRx.isub ⟨by omega, by omega⟩ dX12_next_271 ?_
            refine zRx.putI (a := 0) (ji := 14) pl_12_232 rfl rfl rfl dX12_next_272 ?_
            refine zRx.aload_n 0 rfl rfl dX12_next_275 ?_
            refine zRx.dup rfl dX12_next_276 ?_
            refine zRx.getIv (a := 0) (ji := 13) (v := σ 0 13) ((zu_off _ _ _ (by decide)).trans (zu_off _ _ _ (by decide))) fl_12_219 rfl rfl rfl dX12_next_277 ?_
            refine zRx.iconst ⟨by decide, by decide⟩ dX12_next_280 ?_
            refine zRx.iadd ⟨by omega, by omega⟩ dX12_next_281 ?_
            refine zRx.putI (a := 0) (ji := 13) pl_12_219 rfl rfl rfl dX12_next_282 ?_
            refine zRx.aload_n 0 rfl rfl dX12_next_285 ?_
            refine zRx.dup rfl dX12_next_286 ?_
            refine zRx.getIv (a := 0) (ji := 4) (v := σ 0 4) ((zu_off _ _ _ (by decide)).trans ((zu_off _ _ _ (by decide)).trans (zu_off _ _ _ (by decide)))) fl_12_21 rfl rfl rfl dX12_next_287 ?_
            refine zRx.iconst ⟨by decide, by decide⟩ dX12_next_290 ?_
            refine zRx.iadd ⟨by omega, by omega⟩ dX12_next_291 ?_
            refine zRx.putI (a := 0) (ji := 4) pl_12_21 rfl rfl rfl dX12_next_292 ?_
            refine zRx.goto (tgt := 181) dX12_next_295 (by decide) ?_
            have he : S_X12_next_181 small (n + 1) a σ = S_X12_next_181 small n 0 (zu (zu (zu (zu σ 0 17 (jor (jshl (σ 0 17) 8) (pkc (mu σ) (σ 0 3) (σ 0 4)))) 0 14 (((10 * (σ 0 14)) + (pkc (mu σ) (σ 0 3) (σ 0 4))) - 48)) 0 13 ((σ 0 13) + 1)) 0 4 ((σ 0 4) + 1)) := by rw [S_X12_next_181, if_pos c188, if_pos c202, if_neg (Int.not_le.mpr c228), if_neg (Int.not_le.mpr c253)]
            rw [he] at K
            exact ih 0 (zu (zu (zu (zu σ 0 17 (jor (jshl (σ 0 17) 8) (pkc (mu σ) (σ 0 3) (σ 0 4)))) 0 14 (((10 * (σ 0 14)) + (pkc (mu σ) (σ 0 3) (σ 0 4))) - 48)) 0 13 ((σ 0 13) + 1)) 0 4 ((σ 0 4) + 1)) _ (by first | omega | (simp [zu]; omega) | (simp [zu])) (by first | omega | (simp [zu]; omega) | (simp [zu])) (by first | omega | (simp [zu]; omega) | (simp [zu])) (by simp [zu]; omega) (by simp [zu]; omega) K
      · refine zRx.aload_n 0 rfl rfl dX12_next_205 ?_
        refine zRx.cVi (w := .inl (pkc (mu σ) (σ 0 3) (σ 0 4))) (M := m_X12_peek) (av := []) cv_12_212 mk_X12_peek (by decide) (b := 0) rfl rfl (Nat.le_of_ble_eq_true rfl) dX12_next_206 (does_peek2 σ (mu σ) (σ 0 3) (σ 0 4) rfl rfl rfl (by omega) (by omega)) ?_
        refine zRx.cSi (w := .inl (b2 (97 ≤ (pkc (mu σ) (σ 0 3) (σ 0 4)) ∧ (pkc (mu σ) (σ 0 3) (σ 0 4)) ≤ 122))) (M := m_X12_isSmall) (av := [.inl (pkc (mu σ) (σ 0 3) (σ 0 4))]) cs_12_225 mk_X12_isSmall (by decide) rfl (Nat.le_of_ble_eq_true rfl) dX12_next_209 (does_X12_isSmall (pkc (mu σ) (σ 0 3) (σ 0 4)) SM σ) ?_
        refine zRx.iload_n 1 rfl rfl dX12_next_212 ?_
        refine zRx.icmp_ne (tgt := 220) dX12_next_213 (by decide) (fun c213 => ?_) (fun c213 => ?_)
        · refine zRx.iconst ⟨by decide, by decide⟩ dX12_next_220 ?_
          refine zRx.istore_n (ls' := [(0, zP 0), (2, .inl small), (3, .inl 0)]) rfl rfl (by decide) dX12_next_221 ?_
          refine zRx.aload_n 0 rfl rfl dX12_next_222 ?_
          refine zRx.getIv (a := 0) (ji := 13) (v := σ 0 13) rfl fl_12_219 rfl rfl rfl dX12_next_223 ?_
          refine zRx.bipush ⟨by decide, by decide⟩ rfl dX12_next_226 ?_
          refine zRx.icmp_ge (tgt := 248) dX12_next_228 (by decide) (fun c228 => ?_) (fun c228 => ?_)
          · refine zRx.aload_n 0 rfl rfl dX12_next_248 ?_
            refine zRx.getIv (a := 0) (ji := 13) (v := σ 0 13) rfl fl_12_219 rfl rfl rfl dX12_next_249 ?_
            refine zRx.iconst ⟨by decide, by decide⟩ dX12_next_252 ?_
            refine zRx.icmp_ge (tgt := 275) dX12_next_253 (by decide) (fun c253 => ?_) (fun c253 => ?_)
            · refine zRx.aload_n 0 rfl rfl dX12_next_275 ?_
              refine zRx.dup rfl dX12_next_276 ?_
              refine zRx.getIv (a := 0) (ji := 13) (v := σ 0 13) rfl fl_12_219 rfl rfl rfl dX12_next_277 ?_
              refine zRx.iconst ⟨by decide, by decide⟩ dX12_next_280 ?_
              refine zRx.iadd ⟨by omega, by omega⟩ dX12_next_281 ?_
              refine zRx.putI (a := 0) (ji := 13) pl_12_219 rfl rfl rfl dX12_next_282 ?_
              refine zRx.aload_n 0 rfl rfl dX12_next_285 ?_
              refine zRx.dup rfl dX12_next_286 ?_
              refine zRx.getIv (a := 0) (ji := 4) (v := σ 0 4) (zu_off _ _ _ (by decide)) fl_12_21 rfl rfl rfl dX12_next_287 ?_
              refine zRx.iconst ⟨by decide, by decide⟩ dX12_next_290 ?_
              refine zRx.iadd ⟨by omega, by omega⟩ dX12_next_291 ?_
              refine zRx.putI (a := 0) (ji := 4) pl_12_21 rfl rfl rfl dX12_next_292 ?_
              refine zRx.goto (tgt := 181) dX12_next_295 (by decide) ?_
              have he : S_X12_next_181 small (n + 1) a σ = S_X12_next_181 small n 0 (zu (zu σ 0 13 ((σ 0 13) + 1)) 0 4 ((σ 0 4) + 1)) := by rw [S_X12_next_181, if_pos c188, if_neg c202, if_neg c213, if_pos c228, if_pos c253]
              rw [he] at K
              exact ih 0 (zu (zu σ 0 13 ((σ 0 13) + 1)) 0 4 ((σ 0 4) + 1)) _ (by first | omega | (simp [zu]; omega) | (simp [zu])) (by first | omega | (simp [zu]; omega) | (simp [zu])) (by first | omega | (simp [zu]; omega) | (simp [zu])) (by simp [zu]; omega) (by simp [zu]; omega) K
            · refine zRx.aload_n 0 rfl rfl dX12_next_256 ?_
              refine zRx.bipush ⟨by decide, by decide⟩ rfl dX12_next_257 ?_
              refine zRx.aload_n 0 rfl rfl dX12_next_259 ?_
              refine zRx.getIv (a := 0) (ji := 14) (v := σ 0 14) rfl fl_12_232 rfl rfl rfl dX12_next_260 ?_
              refine zRx.imul ⟨by omega, by omega⟩ dX12_next_263 ?_
              refine zRx.aload_n 0 rfl rfl dX12_next_264 ?_
              refine zRx.cVi (w := .inl (pkc (mu σ) (σ 0 3) (σ 0 4))) (M := m_X12_peek) (av := []) cv_12_212 mk_X12_peek (by decide) (b := 0) rfl rfl (Nat.le_of_ble_eq_true rfl) dX12_next_265 (does_peek2 σ (mu σ) (σ 0 3) (σ 0 4) rfl rfl rfl (by omega) (by omega)) ?_
              refine zRx.iadd ⟨by omega, by omega⟩ dX12_next_268 ?_
              refine zRx.bipush ⟨by decide, by decide⟩ rfl dX12_next_269 ?_
              refine zRx.isub ⟨by omega, by omega⟩ dX12_next_271 ?_
              refine zRx.putI (a := 0) (ji := 14) pl_12_232 rfl rfl rfl dX12_next_272 ?_
              refine zRx.aload_n 0 rfl rfl dX12_next_275 ?_
              refine zRx.dup rfl dX12_next_276 ?_
              refine zRx.getIv (a := 0) (ji := 13) (v := σ 0 13) (zu_off _ _ _ (by decide)) fl_12_219 rfl rfl rfl dX12_next_277 ?_
              refine zRx.iconst ⟨by decide, by decide⟩ dX12_next_280 ?_
              refine zRx.iadd ⟨by omega, by omega⟩ dX12_next_281 ?_
              refine zRx.putI (a := 0) (ji := 13) pl_12_219 rfl rfl rfl dX12_next_282 ?_
              refine zRx.aload_n 0 rfl rfl dX12_next_285 ?_
              refine zRx.dup rfl dX12_next_286 ?_
              refine zRx.getIv (a := 0) (ji := 4) (v := σ 0 4) ((zu_off _ _ _ (by decide)).trans (zu_off _ _ _ (by decide))) fl_12_21 rfl rfl rfl dX12_next_287 ?_
              refine zRx.iconst ⟨by decide, by decide⟩ dX12_next_290 ?_
              refine zRx.iadd ⟨by omega, by omega⟩ dX12_next_291 ?_
              refine zRx.putI (a := 0) (ji := 4) pl_12_21 rfl rfl rfl dX12_next_292 ?_
              refine zRx.goto (tgt := 181) dX12_next_295 (by decide) ?_
              have he : S_X12_next_181 small (n + 1) a σ = S_X12_next_181 small n 0 (zu (zu (zu σ 0 14 (((10 * (σ 0 14)) + (pkc (mu σ) (σ 0 3) (σ 0 4))) - 48)) 0 13 ((σ 0 13) + 1)) 0 4 ((σ 0 4) + 1)) := by rw [S_X12_next_181, if_pos c188, if_neg c202, if_neg c213, if_pos c228, if_neg (Int.not_le.mpr c253)]
              rw [he] at K
              exact ih 0 (zu (zu (zu σ 0 14 (((10 * (σ 0 14)) + (pkc (mu σ) (σ 0 3) (σ 0 4))) - 48)) 0 13 ((σ 0 13) + 1)) 0 4 ((σ 0 4) + 1)) _ (by first | omega | (simp [zu]; omega) | (simp [zu])) (by first | omega | (simp [zu]; omega) | (simp [zu])) (by first | omega | (simp [zu]; omega) | (simp [zu])) (by simp [zu]; omega) (by simp [zu]; omega) K
          · refine zRx.aload_n 0 rfl rfl dX12_next_231 ?_
            refine zRx.aload_n 0 rfl rfl dX12_next_232 ?_
            refine zRx.getJv (a := 0) (ji := 17) (v := σ 0 17) rfl fl_12_235 rfl rfl rfl dX12_next_233 ?_
            refine zRx.bipush ⟨by decide, by decide⟩ rfl dX12_next_236 ?_
            refine zRx.lshl dX12_next_238 ?_
            refine zRx.aload_n 0 rfl rfl dX12_next_239 ?_
            refine zRx.cVi (w := .inl (pkc (mu σ) (σ 0 3) (σ 0 4))) (M := m_X12_peek) (av := []) cv_12_212 mk_X12_peek (by decide) (b := 0) rfl rfl (Nat.le_of_ble_eq_true rfl) dX12_next_240 (does_peek2 σ (mu σ) (σ 0 3) (σ 0 4) rfl rfl rfl (by omega) (by omega)) ?_
            refine zRx.i2l dX12_next_243 ?_
            refine zRx.lor dX12_next_244 ?_
            refine zRx.putJ (a := 0) (ji := 17) pl_12_235 rfl rfl rfl dX12_next_245 ?_
            refine zRx.aload_n 0 rfl rfl dX12_next_248 ?_
            refine zRx.getIv (a := 0) (ji := 13) (v := σ 0 13) (zu_off _ _ _ (by decide)) fl_12_219 rfl rfl rfl dX12_next_249 ?_
            refine zRx.iconst ⟨by decide, by decide⟩ dX12_next_252 ?_
            refine zRx.icmp_ge (tgt := 275) dX12_next_253 (by decide) (fun c253 => ?_) (fun c253 => ?_)
            · refine zRx.aload_n 0 rfl rfl dX12_next_275 ?_
              refine zRx.dup rfl dX12_next_276 ?_
              refine zRx.getIv (a := 0) (ji := 13) (v := σ 0 13) (zu_off _ _ _ (by decide)) fl_12_219 rfl rfl rfl dX12_next_277 ?_
              refine zRx.iconst ⟨by decide, by decide⟩ dX12_next_280 ?_
              refine zRx.iadd ⟨by omega, by omega⟩ dX12_next_281 ?_
              refine zRx.putI (a := 0) (ji := 13) pl_12_219 rfl rfl rfl dX12_next_282 ?_
              refine zRx.aload_n 0 rfl rfl dX12_next_285 ?_
              refine zRx.dup rfl dX12_next_286 ?_
              refine zRx.getIv (a := 0) (ji := 4) (v := σ 0 4) ((zu_off _ _ _ (by decide)).trans (zu_off _ _ _ (by decide))) fl_12_21 rfl rfl rfl dX12_next_287 ?_
              refine zRx.iconst ⟨by decide, by decide⟩ dX12_next_290 ?_
              refine zRx.iadd ⟨by omega, by omega⟩ dX12_next_291 ?_
              refine zRx.putI (a := 0) (ji := 4) pl_12_21 rfl rfl rfl dX12_next_292 ?_
              refine zRx.goto (tgt := 181) dX12_next_295 (by decide) ?_
              have he : S_X12_next_181 small (n + 1) a σ = S_X12_next_181 small n 0 (zu (zu (zu σ 0 17 (jor (jshl (σ 0 17) 8) (pkc (mu σ) (σ 0 3) (σ 0 4)))) 0 13 ((σ 0 13) + 1)) 0 4 ((σ 0 4) + 1)) := by rw [S_X12_next_181, if_pos c188, if_neg c202, if_neg c213, if_neg (Int.not_le.mpr c228), if_pos c253]
              rw [he] at K
              exact ih 0 (zu (zu (zu σ 0 17 (jor (jshl (σ 0 17) 8) (pkc (mu σ) (σ 0 3) (σ 0 4)))) 0 13 ((σ 0 13) + 1)) 0 4 ((σ 0 4) + 1)) _ (by first | omega | (simp [zu]; omega) | (simp [zu])) (by first | omega | (simp [zu]; omega) | (simp [zu])) (by first | omega | (simp [zu]; omega) | (simp [zu])) (by simp [zu]; omega) (by simp [zu]; omega) K
            · refine zRx.aload_n 0 rfl rfl dX12_next_256 ?_
              refine zRx.bipush ⟨by decide, by decide⟩ rfl dX12_next_257 ?_
              refine zRx.aload_n 0 rfl rfl dX12_next_259 ?_
              refine zRx.getIv (a := 0) (ji := 14) (v := σ 0 14) (zu_off _ _ _ (by decide)) fl_12_232 rfl rfl rfl dX12_next_260 ?_
              refine zRx.imul ⟨by omega, by omega⟩ dX12_next_263 ?_
              refine zRx.aload_n 0 rfl rfl dX12_next_264 ?_
              refine zRx.cVi (w := .inl (pkc (mu σ) (σ 0 3) (σ 0 4))) (M := m_X12_peek) (av := []) cv_12_212 mk_X12_peek (by decide) (b := 0) rfl rfl (Nat.le_of_ble_eq_true rfl) dX12_next_265 (does_peek2 (zu σ 0 17 (jor (jshl (σ 0 17) 8) (pkc (mu σ) (σ 0 3) (σ 0 4)))) (mu σ) (σ 0 3) (σ 0 4) (by funext i; simp [mu, zu]) (zu_off _ _ _ (by decide)) (zu_off _ _ _ (by decide)) (by omega) (by omega)) ?_
              refine zRx.iadd ⟨by omega, by omega⟩ dX12_next_268 ?_
              refine zRx.bipush ⟨by decide, by decide⟩ rfl dX12_next_269 ?_
              refine zRx.isub ⟨by omega, by omega⟩ dX12_next_271 ?_
              refine zRx.putI (a := 0) (ji := 14) pl_12_232 rfl rfl rfl dX12_next_272 ?_
              refine zRx.aload_n 0 rfl rfl dX12_next_275 ?_
              refine zRx.dup rfl dX12_next_276 ?_
              refine zRx.getIv (a := 0) (ji := 13) (v := σ 0 13) ((zu_off _ _ _ (by decide)).trans (zu_off _ _ _ (by decide))) fl_12_219 rfl rfl rfl dX12_next_277 ?_
              refine zRx.iconst ⟨by decide, by decide⟩ dX12_next_280 ?_
              refine zRx.iadd ⟨by omega, by omega⟩ dX12_next_281 ?_
              refine zRx.putI (a := 0) (ji := 13) pl_12_219 rfl rfl rfl dX12_next_282 ?_
              refine zRx.aload_n 0 rfl rfl dX12_next_285 ?_
              refine zRx.dup rfl dX12_next_286 ?_
              refine zRx.getIv (a := 0) (ji := 4) (v := σ 0 4) ((zu_off _ _ _ (by decide)).trans ((zu_off _ _ _ (by decide)).trans (zu_off _ _ _ (by decide)))) fl_12_21 rfl rfl rfl dX12_next_287 ?_
              refine zRx.iconst ⟨by decide, by decide⟩ dX12_next_290 ?_
              refine zRx.iadd ⟨by omega, by omega⟩ dX12_next_291 ?_
              refine zRx.putI (a := 0) (ji := 4) pl_12_21 rfl rfl rfl dX12_next_292 ?_
              refine zRx.goto (tgt := 181) dX12_next_295 (by decide) ?_
              have he : S_X12_next_181 small (n + 1) a σ = S_X12_next_181 small n 0 (zu (zu (zu (zu σ 0 17 (jor (jshl (σ 0 17) 8) (pkc (mu σ) (σ 0 3) (σ 0 4)))) 0 14 (((10 * (σ 0 14)) + (pkc (mu σ) (σ 0 3) (σ 0 4))) - 48)) 0 13 ((σ 0 13) + 1)) 0 4 ((σ 0 4) + 1)) := by rw [S_X12_next_181, if_pos c188, if_neg c202, if_neg c213, if_neg (Int.not_le.mpr c228), if_neg (Int.not_le.mpr c253)]
              rw [he] at K
              exact ih 0 (zu (zu (zu (zu σ 0 17 (jor (jshl (σ 0 17) 8) (pkc (mu σ) (σ 0 3) (σ 0 4)))) 0 14 (((10 * (σ 0 14)) + (pkc (mu σ) (σ 0 3) (σ 0 4))) - 48)) 0 13 ((σ 0 13) + 1)) 0 4 ((σ 0 4) + 1)) _ (by first | omega | (simp [zu]; omega) | (simp [zu])) (by first | omega | (simp [zu]; omega) | (simp [zu])) (by first | omega | (simp [zu]; omega) | (simp [zu])) (by simp [zu]; omega) (by simp [zu]; omega) K
        · refine zRx.iconst ⟨by decide, by decide⟩ dX12_next_216 ?_
          refine zRx.goto (tgt := 221) dX12_next_217 (by decide) ?_
          refine zRx.istore_n (ls' := [(0, zP 0), (2, .inl small), (3, .inl 1)]) rfl rfl (by decide) dX12_next_221 ?_
          refine zRx.aload_n 0 rfl rfl dX12_next_222 ?_
          refine zRx.getIv (a := 0) (ji := 13) (v := σ 0 13) rfl fl_12_219 rfl rfl rfl dX12_next_223 ?_
          refine zRx.bipush ⟨by decide, by decide⟩ rfl dX12_next_226 ?_
          refine zRx.icmp_ge (tgt := 248) dX12_next_228 (by decide) (fun c228 => ?_) (fun c228 => ?_)
          · refine zRx.aload_n 0 rfl rfl dX12_next_248 ?_
            refine zRx.getIv (a := 0) (ji := 13) (v := σ 0 13) rfl fl_12_219 rfl rfl rfl dX12_next_249 ?_
            refine zRx.iconst ⟨by decide, by decide⟩ dX12_next_252 ?_
            refine zRx.icmp_ge (tgt := 275) dX12_next_253 (by decide) (fun c253 => ?_) (fun c253 => ?_)
            · refine zRx.aload_n 0 rfl rfl dX12_next_275 ?_
              refine zRx.dup rfl dX12_next_276 ?_
              refine zRx.getIv (a := 0) (ji := 13) (v := σ 0 13) rfl fl_12_219 rfl rfl rfl dX12_next_277 ?_
              refine zRx.iconst ⟨by decide, by decide⟩ dX12_next_280 ?_
              refine zRx.iadd ⟨by omega, by omega⟩ dX12_next_281 ?_
              refine zRx.putI (a := 0) (ji := 13) pl_12_219 rfl rfl rfl dX12_next_282 ?_
              refine zRx.aload_n 0 rfl rfl dX12_next_285 ?_
              refine zRx.dup rfl dX12_next_286 ?_
              refine zRx.getIv (a := 0) (ji := 4) (v := σ 0 4) (zu_off _ _ _ (by decide)) fl_12_21 rfl rfl rfl dX12_next_287 ?_
              refine zRx.iconst ⟨by decide, by decide⟩ dX12_next_290 ?_
              refine zRx.iadd ⟨by omega, by omega⟩ dX12_next_291 ?_
              refine zRx.putI (a := 0) (ji := 4) pl_12_21 rfl rfl rfl dX12_next_292 ?_
              refine zRx.goto (tgt := 181) dX12_next_295 (by decide) ?_
              have he : S_X12_next_181 small (n + 1) a σ = S_X12_next_181 small n 1 (zu (zu σ 0 13 ((σ 0 13) + 1)) 0 4 ((σ 0 4) + 1)) := by rw [S_X12_next_181, if_pos c188, if_neg c202, if_pos c213, if_pos c228, if_pos c253]
              rw [he] at K
              exact ih 1 (zu (zu σ 0 13 ((σ 0 13) + 1)) 0 4 ((σ 0 4) + 1)) _ (by first | omega | (simp [zu]; omega) | (simp [zu])) (by first | omega | (simp [zu]; omega) | (simp [zu])) (by first | omega | (simp [zu]; omega) | (simp [zu])) (by simp [zu]; omega) (by simp [zu]; omega) K
            · refine zRx.aload_n 0 rfl rfl dX12_next_256 ?_
              refine zRx.bipush ⟨by decide, by decide⟩ rfl dX12_next_257 ?_
              refine zRx.aload_n 0 rfl rfl dX12_next_259 ?_
              refine zRx.getIv (a := 0) (ji := 14) (v := σ 0 14) rfl fl_12_232 rfl rfl rfl dX12_next_260 ?_
              refine zRx.imul ⟨by omega, by omega⟩ dX12_next_263 ?_
              refine zRx.aload_n 0 rfl rfl dX12_next_264 ?_
              refine zRx.cVi (w := .inl (pkc (mu σ) (σ 0 3) (σ 0 4))) (M := m_X12_peek) (av := []) cv_12_212 mk_X12_peek (by decide) (b := 0) rfl rfl (Nat.le_of_ble_eq_true rfl) dX12_next_265 (does_peek2 σ (mu σ) (σ 0 3) (σ 0 4) rfl rfl rfl (by omega) (by omega)) ?_
              refine zRx.iadd ⟨by omega, by omega⟩ dX12_next_268 ?_
              refine zRx.bipush ⟨by decide, by decide⟩ rfl dX12_next_269 ?_
              refine zRx.isub ⟨by omega, by omega⟩ dX12_next_271 ?_
              refine zRx.putI (a := 0) (ji := 14) pl_12_232 rfl rfl rfl dX12_next_272 ?_
              refine zRx.aload_n 0 rfl rfl dX12_next_275 ?_
              refine zRx.dup rfl dX12_next_276 ?_
              refine zRx.getIv (a := 0) (ji := 13) (v := σ 0 13) (zu_off _ _ _ (by decide)) fl_12_219 rfl rfl rfl dX12_next_277 ?_
              refine zRx.iconst ⟨by decide, by decide⟩ dX12_next_280 ?_
              refine zRx.iadd ⟨by omega, by omega⟩ dX12_next_281 ?_
              refine zRx.putI (a := 0) (ji := 13) pl_12_219 rfl rfl rfl dX12_next_282 ?_
              refine zRx.aload_n 0 rfl rfl dX12_next_285 ?_
              refine zRx.dup rfl dX12_next_286 ?_
              refine zRx.getIv (a := 0) (ji := 4) (v := σ 0 4) ((zu_off _ _ _ (by decide)).trans (zu_off _ _ _ (by decide))) fl_12_21 rfl rfl rfl dX12_next_287 ?_
              refine zRx.iconst ⟨by decide, by decide⟩ dX12_next_290 ?_
              refine zRx.iadd ⟨by omega, by omega⟩ dX12_next_291 ?_
              refine zRx.putI (a := 0) (ji := 4) pl_12_21 rfl rfl rfl dX12_next_292 ?_
              refine zRx.goto (tgt := 181) dX12_next_295 (by decide) ?_
              have he : S_X12_next_181 small (n + 1) a σ = S_X12_next_181 small n 1 (zu (zu (zu σ 0 14 (((10 * (σ 0 14)) + (pkc (mu σ) (σ 0 3) (σ 0 4))) - 48)) 0 13 ((σ 0 13) + 1)) 0 4 ((σ 0 4) + 1)) := by rw [S_X12_next_181, if_pos c188, if_neg c202, if_pos c213, if_pos c228, if_neg (Int.not_le.mpr c253)]
              rw [he] at K
              exact ih 1 (zu (zu (zu σ 0 14 (((10 * (σ 0 14)) + (pkc (mu σ) (σ 0 3) (σ 0 4))) - 48)) 0 13 ((σ 0 13) + 1)) 0 4 ((σ 0 4) + 1)) _ (by first | omega | (simp [zu]; omega) | (simp [zu])) (by first | omega | (simp [zu]; omega) | (simp [zu])) (by first | omega | (simp [zu]; omega) | (simp [zu])) (by simp [zu]; omega) (by simp [zu]; omega) K
          · refine zRx.aload_n 0 rfl rfl dX12_next_231 ?_
            refine zRx.aload_n 0 rfl rfl dX12_next_232 ?_
            refine zRx.getJv (a := 0) (ji := 17) (v := σ 0 17) rfl fl_12_235 rfl rfl rfl dX12_next_233 ?_
            refine zRx.bipush ⟨by decide, by decide⟩ rfl dX12_next_236 ?_
            refine zRx.lshl dX12_next_238 ?_
            refine zRx.aload_n 0 rfl rfl dX12_next_239 ?_
            refine zRx.cVi (w := .inl (pkc (mu σ) (σ 0 3) (σ 0 4))) (M := m_X12_peek) (av := []) cv_12_212 mk_X12_peek (by decide) (b := 0) rfl rfl (Nat.le_of_ble_eq_true rfl) dX12_next_240 (does_peek2 σ (mu σ) (σ 0 3) (σ 0 4) rfl rfl rfl (by omega) (by omega)) ?_
            refine zRx.i2l dX12_next_243 ?_
            refine zRx.lor dX12_next_244 ?_
            refine zRx.putJ (a := 0) (ji := 17) pl_12_235 rfl rfl rfl dX12_next_245 ?_
            refine zRx.aload_n 0 rfl rfl dX12_next_248 ?_
            refine zRx.getIv (a := 0) (ji := 13) (v := σ 0 13) (zu_off _ _ _ (by decide)) fl_12_219 rfl rfl rfl dX12_next_249 ?_
            refine zRx.iconst ⟨by decide, by decide⟩ dX12_next_252 ?_
            refine zRx.icmp_ge (tgt := 275) dX12_next_253 (by decide) (fun c253 => ?_) (fun c253 => ?_)
            · refine zRx.aload_n 0 rfl rfl dX12_next_275 ?_
              refine zRx.dup rfl dX12_next_276 ?_
              refine zRx.getIv (a := 0) (ji := 13) (v := σ 0 13) (zu_off _ _ _ (by decide)) fl_12_219 rfl rfl rfl dX12_next_277 ?_
              refine zRx.iconst ⟨by decide, by decide⟩ dX12_next_280 ?_
              refine zRx.iadd ⟨by omega, by omega⟩ dX12_next_281 ?_
              refine zRx.putI (a := 0) (ji := 13) pl_12_219 rfl rfl rfl dX12_next_282 ?_
              refine zRx.aload_n 0 rfl rfl dX12_next_285 ?_
              refine zRx.dup rfl dX12_next_286 ?_
              refine zRx.getIv (a := 0) (ji := 4) (v := σ 0 4) ((zu_off _ _ _ (by decide)).trans (zu_off _ _ _ (by decide))) fl_12_21 rfl rfl rfl dX12_next_287 ?_
              refine zRx.iconst ⟨by decide, by decide⟩ dX12_next_290 ?_
              refine zRx.iadd ⟨by omega, by omega⟩ dX12_next_291 ?_
              refine zRx.putI (a := 0) (ji := 4) pl_12_21 rfl rfl rfl dX12_next_292 ?_
              refine zRx.goto (tgt := 181) dX12_next_295 (by decide) ?_
              have he : S_X12_next_181 small (n + 1) a σ = S_X12_next_181 small n 1 (zu (zu (zu σ 0 17 (jor (jshl (σ 0 17) 8) (pkc (mu σ) (σ 0 3) (σ 0 4)))) 0 13 ((σ 0 13) + 1)) 0 4 ((σ 0 4) + 1)) := by rw [S_X12_next_181, if_pos c188, if_neg c202, if_pos c213, if_neg (Int.not_le.mpr c228), if_pos c253]
              rw [he] at K
              exact ih 1 (zu (zu (zu σ 0 17 (jor (jshl (σ 0 17) 8) (pkc (mu σ) (σ 0 3) (σ 0 4)))) 0 13 ((σ 0 13) + 1)) 0 4 ((σ 0 4) + 1)) _ (by first | omega | (simp [zu]; omega) | (simp [zu])) (by first | omega | (simp [zu]; omega) | (simp [zu])) (by first | omega | (simp [zu]; omega) | (simp [zu])) (by simp [zu]; omega) (by simp [zu]; omega) K
            · refine zRx.aload_n 0 rfl rfl dX12_next_256 ?_
              refine zRx.bipush ⟨by decide, by decide⟩ rfl dX12_next_257 ?_
              refine zRx.aload_n 0 rfl rfl dX12_next_259 ?_
              refine zRx.getIv (a := 0) (ji := 14) (v := σ 0 14) (zu_off _ _ _ (by decide)) fl_12_232 rfl rfl rfl dX12_next_260 ?_
              refine zRx.imul ⟨by omega, by omega⟩ dX12_next_263 ?_
              refine zRx.aload_n 0 rfl rfl dX12_next_264 ?_
              refine zRx.cVi (w := .inl (pkc (mu σ) (σ 0 3) (σ 0 4))) (M := m_X12_peek) (av := []) cv_12_212 mk_X12_peek (by decide) (b := 0) rfl rfl (Nat.le_of_ble_eq_true rfl) dX12_next_265 (does_peek2 (zu σ 0 17 (jor (jshl (σ 0 17) 8) (pkc (mu σ) (σ 0 3) (σ 0 4)))) (mu σ) (σ 0 3) (σ 0 4) (by funext i; simp [mu, zu]) (zu_off _ _ _ (by decide)) (zu_off _ _ _ (by decide)) (by omega) (by omega)) ?_
              refine zRx.iadd ⟨by omega, by omega⟩ dX12_next_268 ?_
              refine zRx.bipush ⟨by decide, by decide⟩ rfl dX12_next_269 ?_
              refine zRx.isub ⟨by omega, by omega⟩ dX12_next_271 ?_
              refine zRx.putI (a := 0) (ji := 14) pl_12_232 rfl rfl rfl dX12_next_272 ?_
              refine zRx.aload_n 0 rfl rfl dX12_next_275 ?_
              refine zRx.dup rfl dX12_next_276 ?_
              refine zRx.getIv (a := 0) (ji := 13) (v := σ 0 13) ((zu_off _ _ _ (by decide)).trans (zu_off _ _ _ (by decide))) fl_12_219 rfl rfl rfl dX12_next_277 ?_
              refine zRx.iconst ⟨by decide, by decide⟩ dX12_next_280 ?_
              refine zRx.iadd ⟨by omega, by omega⟩ dX12_next_281 ?_
              refine zRx.putI (a := 0) (ji := 13) pl_12_219 rfl rfl rfl dX12_next_282 ?_
              refine zRx.aload_n 0 rfl rfl dX12_next_285 ?_
              refine zRx.dup rfl dX12_next_286 ?_
              refine zRx.getIv (a := 0) (ji := 4) (v := σ 0 4) ((zu_off _ _ _ (by decide)).trans ((zu_off _ _ _ (by decide)).trans (zu_off _ _ _ (by decide)))) fl_12_21 rfl rfl rfl dX12_next_287 ?_
              refine zRx.iconst ⟨by decide, by decide⟩ dX12_next_290 ?_
              refine zRx.iadd ⟨by omega, by omega⟩ dX12_next_291 ?_
              refine zRx.putI (a := 0) (ji := 4) pl_12_21 rfl rfl rfl dX12_next_292 ?_
              refine zRx.goto (tgt := 181) dX12_next_295 (by decide) ?_
              have he : S_X12_next_181 small (n + 1) a σ = S_X12_next_181 small n 1 (zu (zu (zu (zu σ 0 17 (jor (jshl (σ 0 17) 8) (pkc (mu σ) (σ 0 3) (σ 0 4)))) 0 14 (((10 * (σ 0 14)) + (pkc (mu σ) (σ 0 3) (σ 0 4))) - 48)) 0 13 ((σ 0 13) + 1)) 0 4 ((σ 0 4) + 1)) := by rw [S_X12_next_181, if_pos c188, if_neg c202, if_pos c213, if_neg (Int.not_le.mpr c228), if_neg (Int.not_le.mpr c253)]
              rw [he] at K
              exact ih 1 (zu (zu (zu (zu σ 0 17 (jor (jshl (σ 0 17) 8) (pkc (mu σ) (σ 0 3) (σ 0 4)))) 0 14 (((10 * (σ 0 14)) + (pkc (mu σ) (σ 0 3) (σ 0 4))) - 48)) 0 13 ((σ 0 13) + 1)) 0 4 ((σ 0 4) + 1)) _ (by first | omega | (simp [zu]; omega) | (simp [zu])) (by first | omega | (simp [zu]; omega) | (simp [zu])) (by first | omega | (simp [zu]; omega) | (simp [zu])) (by simp [zu]; omega) (by simp [zu]; omega) K
    · refine zRx.aload_n 0 rfl rfl dX12_next_191 ?_
      refine zRx.cVi (w := .inl (pkc (mu σ) (σ 0 3) (σ 0 4))) (M := m_X12_peek) (av := []) cv_12_212 mk_X12_peek (by decide) (b := 0) rfl rfl (Nat.le_of_ble_eq_true rfl) dX12_next_192 (does_peek2 σ (mu σ) (σ 0 3) (σ 0 4) rfl rfl rfl (by omega) (by omega)) ?_
      refine zRx.cSi (w := .inl (b2 (48 ≤ (pkc (mu σ) (σ 0 3) (σ 0 4)) ∧ (pkc (mu σ) (σ 0 3) (σ 0 4)) ≤ 57))) (M := m_X12_isDigit) (av := [.inl (pkc (mu σ) (σ 0 3) (σ 0 4))]) cs_12_229 mk_X12_isDigit (by decide) rfl (Nat.le_of_ble_eq_true rfl) dX12_next_195 (does_X12_isDigit (pkc (mu σ) (σ 0 3) (σ 0 4)) SM σ) ?_
      refine zRx.if_eqB (tgt := 298) dX12_next_198 (by decide) (fun c198 => ?_) (fun c198 => ?_)
      · have he : S_X12_next_181 small (n + 1) a σ = (a, σ) := by rw [S_X12_next_181, if_neg c188, if_neg c198]
        rw [he] at K
        exact K
      · have hr0 := pkc_lt (u := mu σ) (sz := σ 0 3) (p := σ 0 4) (by omega)
        have hr1 := pkc_r σ (σ 0 3) (σ 0 4)
        unfold r32 at hr1
        refine zRx.iload_n 2 rfl rfl dX12_next_201 ?_
        refine zRx.if_eq (tgt := 220) dX12_next_202 (by decide) (fun c202 => ?_) (fun c202 => ?_)
        · refine zRx.iconst ⟨by decide, by decide⟩ dX12_next_220 ?_
          refine zRx.istore_n (ls' := [(0, zP 0), (2, .inl small), (3, .inl 0)]) rfl rfl (by decide) dX12_next_221 ?_
          refine zRx.aload_n 0 rfl rfl dX12_next_222 ?_
          refine zRx.getIv (a := 0) (ji := 13) (v := σ 0 13) rfl fl_12_219 rfl rfl rfl dX12_next_223 ?_
          refine zRx.bipush ⟨by decide, by decide⟩ rfl dX12_next_226 ?_
          refine zRx.icmp_ge (tgt := 248) dX12_next_228 (by decide) (fun c228 => ?_) (fun c228 => ?_)
          · refine zRx.aload_n 0 rfl rfl dX12_next_248 ?_
            refine zRx.getIv (a := 0) (ji := 13) (v := σ 0 13) rfl fl_12_219 rfl rfl rfl dX12_next_249 ?_
            refine zRx.iconst ⟨by decide, by decide⟩ dX12_next_252 ?_
            refine zRx.icmp_ge (tgt := 275) dX12_next_253 (by decide) (fun c253 => ?_) (fun c253 => ?_)
            · refine zRx.aload_n 0 rfl rfl dX12_next_275 ?_
              refine zRx.dup rfl dX12_next_276 ?_
              refine zRx.getIv (a := 0) (ji := 13) (v := σ 0 13) rfl fl_12_219 rfl rfl rfl dX12_next_277 ?_
              refine zRx.iconst ⟨by decide, by decide⟩ dX12_next_280 ?_
              refine zRx.iadd ⟨by omega, by omega⟩ dX12_next_281 ?_
              refine zRx.putI (a := 0) (ji := 13) pl_12_219 rfl rfl rfl dX12_next_282 ?_
              refine zRx.aload_n 0 rfl rfl dX12_next_285 ?_
              refine zRx.dup rfl dX12_next_286 ?_
              refine zRx.getIv (a := 0) (ji := 4) (v := σ 0 4) (zu_off _ _ _ (by decide)) fl_12_21 rfl rfl rfl dX12_next_287 ?_
              refine zRx.iconst ⟨by decide, by decide⟩ dX12_next_290 ?_
              refine zRx.iadd ⟨by omega, by omega⟩ dX12_next_291 ?_
              refine zRx.putI (a := 0) (ji := 4) pl_12_21 rfl rfl rfl dX12_next_292 ?_
              refine zRx.goto (tgt := 181) dX12_next_295 (by decide) ?_
              have he : S_X12_next_181 small (n + 1) a σ = S_X12_next_181 small n 0 (zu (zu σ 0 13 ((σ 0 13) + 1)) 0 4 ((σ 0 4) + 1)) := by rw [S_X12_next_181, if_neg c188, if_pos c198, if_pos c202, if_pos c228, if_pos c253]
              rw [he] at K
              exact ih 0 (zu (zu σ 0 13 ((σ 0 13) + 1)) 0 4 ((σ 0 4) + 1)) _ (by first | omega | (simp [zu]; omega) | (simp [zu])) (by first | omega | (simp [zu]; omega) | (simp [zu])) (by first | omega | (simp [zu]; omega) | (simp [zu])) (by simp [zu]; omega) (by simp [zu]; omega) K
            · refine zRx.aload_n 0 rfl rfl dX12_next_256 ?_
              refine zRx.bipush ⟨by decide, by decide⟩ rfl dX12_next_257 ?_
              refine zRx.aload_n 0 rfl rfl dX12_next_259 ?_
              refine zRx.getIv (a := 0) (ji := 14) (v := σ 0 14) rfl fl_12_232 rfl rfl rfl dX12_next_260 ?_
              refine zRx.imul ⟨by omega, by omega⟩ dX12_next_263 ?_
              refine zRx.aload_n 0 rfl rfl dX12_next_264 ?_
              refine zRx.cVi (w := .inl (pkc (mu σ) (σ 0 3) (σ 0 4))) (M := m_X12_peek) (av := []) cv_12_212 mk_X12_peek (by decide) (b := 0) rfl rfl (Nat.le_of_ble_eq_true rfl) dX12_next_265 (does_peek2 σ (mu σ) (σ 0 3) (σ 0 4) rfl rfl rfl (by omega) (by omega)) ?_
              refine zRx.iadd ⟨by omega, by omega⟩ dX12_next_268 ?_
              refine zRx.bipush ⟨by decide, by decide⟩ rfl dX12_next_269 ?_
              refine zRx.isub ⟨by omega, by omega⟩ dX12_next_271 ?_
              refine zRx.putI (a := 0) (ji := 14) pl_12_232 rfl rfl rfl dX12_next_272 ?_
              refine zRx.aload_n 0 rfl rfl dX12_next_275 ?_
              refine zRx.dup rfl dX12_next_276 ?_
              refine zRx.getIv (a := 0) (ji := 13) (v := σ 0 13) (zu_off _ _ _ (by decide)) fl_12_219 rfl rfl rfl dX12_next_277 ?_
              refine zRx.iconst ⟨by decide, by decide⟩ dX12_next_280 ?_
              refine zRx.iadd ⟨by omega, by omega⟩ dX12_next_281 ?_
              refine zRx.putI (a := 0) (ji := 13) pl_12_219 rfl rfl rfl dX12_next_282 ?_
              refine zRx.aload_n 0 rfl rfl dX12_next_285 ?_
              refine zRx.dup rfl dX12_next_286 ?_
              refine zRx.getIv (a := 0) (ji := 4) (v := σ 0 4) ((zu_off _ _ _ (by decide)).trans (zu_off _ _ _ (by decide))) fl_12_21 rfl rfl rfl dX12_next_287 ?_
              refine zRx.iconst ⟨by decide, by decide⟩ dX12_next_290 ?_
              refine zRx.iadd ⟨by omega, by omega⟩ dX12_next_291 ?_
              refine zRx.putI (a := 0) (ji := 4) pl_12_21 rfl rfl rfl dX12_next_292 ?_
              refine zRx.goto (tgt := 181) dX12_next_295 (by decide) ?_
              have he : S_X12_next_181 small (n + 1) a σ = S_X12_next_181 small n 0 (zu (zu (zu σ 0 14 (((10 * (σ 0 14)) + (pkc (mu σ) (σ 0 3) (σ 0 4))) - 48)) 0 13 ((σ 0 13) + 1)) 0 4 ((σ 0 4) + 1)) := by rw [S_X12_next_181, if_neg c188, if_pos c198, if_pos c202, if_pos c228, if_neg (Int.not_le.mpr c253)]
              rw [he] at K
              exact ih 0 (zu (zu (zu σ 0 14 (((10 * (σ 0 14)) + (pkc (mu σ) (σ 0 3) (σ 0 4))) - 48)) 0 13 ((σ 0 13) + 1)) 0 4 ((σ 0 4) + 1)) _ (by first | omega | (simp [zu]; omega) | (simp [zu])) (by first | omega | (simp [zu]; omega) | (simp [zu])) (by first | omega | (simp [zu]; omega) | (simp [zu])) (by simp [zu]; omega) (by simp [zu]; omega) K
          · refine zRx.aload_n 0 rfl rfl dX12_next_231 ?_
            refine zRx.aload_n 0 rfl rfl dX12_next_232 ?_
            refine zRx.getJv (a := 0) (ji := 17) (v := σ 0 17) rfl fl_12_235 rfl rfl rfl dX12_next_233 ?_
            refine zRx.bipush ⟨by decide, by decide⟩ rfl dX12_next_236 ?_
            refine zRx.lshl dX12_next_238 ?_
            refine zRx.aload_n 0 rfl rfl dX12_next_239 ?_
            refine zRx.cVi (w := .inl (pkc (mu σ) (σ 0 3) (σ 0 4))) (M := m_X12_peek) (av := []) cv_12_212 mk_X12_peek (by decide) (b := 0) rfl rfl (Nat.le_of_ble_eq_true rfl) dX12_next_240 (does_peek2 σ (mu σ) (σ 0 3) (σ 0 4) rfl rfl rfl (by omega) (by omega)) ?_
            refine zRx.i2l dX12_next_243 ?_
            refine zRx.lor dX12_next_244 ?_
            refine zRx.putJ (a := 0) (ji := 17) pl_12_235 rfl rfl rfl dX12_next_245 ?_
            refine zRx.aload_n 0 rfl rfl dX12_next_248 ?_
            refine zRx.getIv (a := 0) (ji := 13) (v := σ 0 13) (zu_off _ _ _ (by decide)) fl_12_219 rfl rfl rfl dX12_next_249 ?_
            refine zRx.iconst ⟨by decide, by decide⟩ dX12_next_252 ?_
            refine zRx.icmp_ge (tgt := 275) dX12_next_253 (by decide) (fun c253 => ?_) (fun c253 => ?_)
            · refine zRx.aload_n 0 rfl rfl dX12_next_275 ?_
              refine zRx.dup rfl dX12_next_276 ?_
              refine zRx.getIv (a := 0) (ji := 13) (v := σ 0 13) (zu_off _ _ _ (by decide)) fl_12_219 rfl rfl rfl dX12_next_277 ?_
              refine zRx.iconst ⟨by decide, by decide⟩ dX12_next_280 ?_
              refine zRx.iadd ⟨by omega, by omega⟩ dX12_next_281 ?_
              refine zRx.putI (a := 0) (ji := 13) pl_12_219 rfl rfl rfl dX12_next_282 ?_
              refine zRx.aload_n 0 rfl rfl dX12_next_285 ?_
              refine zRx.dup rfl dX12_next_286 ?_
              refine zRx.getIv (a := 0) (ji := 4) (v := σ 0 4) ((zu_off _ _ _ (by decide)).trans (zu_off _ _ _ (by decide))) fl_12_21 rfl rfl rfl dX12_next_287 ?_
              refine zRx.iconst ⟨by decide, by decide⟩ dX12_next_290 ?_
              refine zRx.iadd ⟨by omega, by omega⟩ dX12_next_291 ?_
              refine zRx.putI (a := 0) (ji := 4) pl_12_21 rfl rfl rfl dX12_next_292 ?_
              refine zRx.goto (tgt := 181) dX12_next_295 (by decide) ?_
              have he : S_X12_next_181 small (n + 1) a σ = S_X12_next_181 small n 0 (zu (zu (zu σ 0 17 (jor (jshl (σ 0 17) 8) (pkc (mu σ) (σ 0 3) (σ 0 4)))) 0 13 ((σ 0 13) + 1)) 0 4 ((σ 0 4) + 1)) := by rw [S_X12_next_181, if_neg c188, if_pos c198, if_pos c202, if_neg (Int.not_le.mpr c228), if_pos c253]
              rw [he] at K
              exact ih 0 (zu (zu (zu σ 0 17 (jor (jshl (σ 0 17) 8) (pkc (mu σ) (σ 0 3) (σ 0 4)))) 0 13 ((σ 0 13) + 1)) 0 4 ((σ 0 4) + 1)) _ (by first | omega | (simp [zu]; omega) | (simp [zu])) (by first | omega | (simp [zu]; omega) | (simp [zu])) (by first | omega | (simp [zu]; omega) | (simp [zu])) (by simp [zu]; omega) (by simp [zu]; omega) K
            · refine zRx.aload_n 0 rfl rfl dX12_next_256 ?_
              refine zRx.bipush ⟨by decide, by decide⟩ rfl dX12_next_257 ?_
              refine zRx.aload_n 0 rfl rfl dX12_next_259 ?_
              refine zRx.getIv (a := 0) (ji := 14) (v := σ 0 14) (zu_off _ _ _ (by decide)) fl_12_232 rfl rfl rfl dX12_next_260 ?_
              refine zRx.imul ⟨by omega, by omega⟩ dX12_next_263 ?_
              refine zRx.aload_n 0 rfl rfl dX12_next_264 ?_
              refine zRx.cVi (w := .inl (pkc (mu σ) (σ 0 3) (σ 0 4))) (M := m_X12_peek) (av := []) cv_12_212 mk_X12_peek (by decide) (b := 0) rfl rfl (Nat.le_of_ble_eq_true rfl) dX12_next_265 (does_peek2 (zu σ 0 17 (jor (jshl (σ 0 17) 8) (pkc (mu σ) (σ 0 3) (σ 0 4)))) (mu σ) (σ 0 3) (σ 0 4) (by funext i; simp [mu, zu]) (zu_off _ _ _ (by decide)) (zu_off _ _ _ (by decide)) (by omega) (by omega)) ?_
              refine zRx.iadd ⟨by omega, by omega⟩ dX12_next_268 ?_
              refine zRx.bipush ⟨by decide, by decide⟩ rfl dX12_next_269 ?_
              refine zRx.isub ⟨by omega, by omega⟩ dX12_next_271 ?_
              refine zRx.putI (a := 0) (ji := 14) pl_12_232 rfl rfl rfl dX12_next_272 ?_
              refine zRx.aload_n 0 rfl rfl dX12_next_275 ?_
              refine zRx.dup rfl dX12_next_276 ?_
              refine zRx.getIv (a := 0) (ji := 13) (v := σ 0 13) ((zu_off _ _ _ (by decide)).trans (zu_off _ _ _ (by decide))) fl_12_219 rfl rfl rfl dX12_next_277 ?_
              refine zRx.iconst ⟨by decide, by decide⟩ dX12_next_280 ?_
              refine zRx.iadd ⟨by omega, by omega⟩ dX12_next_281 ?_
              refine zRx.putI (a := 0) (ji := 13) pl_12_219 rfl rfl rfl dX12_next_282 ?_
              refine zRx.aload_n 0 rfl rfl dX12_next_285 ?_
              refine zRx.dup rfl dX12_next_286 ?_
              refine zRx.getIv (a := 0) (ji := 4) (v := σ 0 4) ((zu_off _ _ _ (by decide)).trans ((zu_off _ _ _ (by decide)).trans (zu_off _ _ _ (by decide)))) fl_12_21 rfl rfl rfl dX12_next_287 ?_
              refine zRx.iconst ⟨by decide, by decide⟩ dX12_next_290 ?_
              refine zRx.iadd ⟨by omega, by omega⟩ dX12_next_291 ?_
              refine zRx.putI (a := 0) (ji := 4) pl_12_21 rfl rfl rfl dX12_next_292 ?_
              refine zRx.goto (tgt := 181) dX12_next_295 (by decide) ?_
              have he : S_X12_next_181 small (n + 1) a σ = S_X12_next_181 small n 0 (zu (zu (zu (zu σ 0 17 (jor (jshl (σ 0 17) 8) (pkc (mu σ) (σ 0 3) (σ 0 4)))) 0 14 (((10 * (σ 0 14)) + (pkc (mu σ) (σ 0 3) (σ 0 4))) - 48)) 0 13 ((σ 0 13) + 1)) 0 4 ((σ 0 4) + 1)) := by rw [S_X12_next_181, if_neg c188, if_pos c198, if_pos c202, if_neg (Int.not_le.mpr c228), if_neg (Int.not_le.mpr c253)]
              rw [he] at K
              exact ih 0 (zu (zu (zu (zu σ 0 17 (jor (jshl (σ 0 17) 8) (pkc (mu σ) (σ 0 3) (σ 0 4)))) 0 14 (((10 * (σ 0 14)) + (pkc (mu σ) (σ 0 3) (σ 0 4))) - 48)) 0 13 ((σ 0 13) + 1)) 0 4 ((σ 0 4) + 1)) _ (by first | omega | (simp [zu]; omega) | (simp [zu])) (by first | omega | (simp [zu]; omega) | (simp [zu])) (by first | omega | (simp [zu]; omega) | (simp [zu])) (by simp [zu]; omega) (by simp [zu]; omega) K
        · refine zRx.aload_n 0 rfl rfl dX12_next_205 ?_
          refine zRx.cVi (w := .inl (pkc (mu σ) (σ 0 3) (σ 0 4))) (M := m_X12_peek) (av := []) cv_12_212 mk_X12_peek (by decide) (b := 0) rfl rfl (Nat.le_of_ble_eq_true rfl) dX12_next_206 (does_peek2 σ (mu σ) (σ 0 3) (σ 0 4) rfl rfl rfl (by omega) (by omega)) ?_
          refine zRx.cSi (w := .inl (b2 (97 ≤ (pkc (mu σ) (σ 0 3) (σ 0 4)) ∧ (pkc (mu σ) (σ 0 3) (σ 0 4)) ≤ 122))) (M := m_X12_isSmall) (av := [.inl (pkc (mu σ) (σ 0 3) (σ 0 4))]) cs_12_225 mk_X12_isSmall (by decide) rfl (Nat.le_of_ble_eq_true rfl) dX12_next_209 (does_X12_isSmall (pkc (mu σ) (σ 0 3) (σ 0 4)) SM σ) ?_
          refine zRx.iload_n 1 rfl rfl dX12_next_212 ?_
          refine zRx.icmp_ne (tgt := 220) dX12_next_213 (by decide) (fun c213 => ?_) (fun c213 => ?_)
          · refine zRx.iconst ⟨by decide, by decide⟩ dX12_next_220 ?_
            refine zRx.istore_n (ls' := [(0, zP 0), (2, .inl small), (3, .inl 0)]) rfl rfl (by decide) dX12_next_221 ?_
            refine zRx.aload_n 0 rfl rfl dX12_next_222 ?_
            refine zRx.getIv (a := 0) (ji := 13) (v := σ 0 13) rfl fl_12_219 rfl rfl rfl dX12_next_223 ?_
            refine zRx.bipush ⟨by decide, by decide⟩ rfl dX12_next_226 ?_
            refine zRx.icmp_ge (tgt := 248) dX12_next_228 (by decide) (fun c228 => ?_) (fun c228 => ?_)
            · refine zRx.aload_n 0 rfl rfl dX12_next_248 ?_
              refine zRx.getIv (a := 0) (ji := 13) (v := σ 0 13) rfl fl_12_219 rfl rfl rfl dX12_next_249 ?_
              refine zRx.iconst ⟨by decide, by decide⟩ dX12_next_252 ?_
              refine zRx.icmp_ge (tgt := 275) dX12_next_253 (by decide) (fun c253 => ?_) (fun c253 => ?_)
              · refine zRx.aload_n 0 rfl rfl dX12_next_275 ?_
                refine zRx.dup rfl dX12_next_276 ?_
                refine zRx.getIv (a := 0) (ji := 13) (v := σ 0 13) rfl fl_12_219 rfl rfl rfl dX12_next_277 ?_
                refine zRx.iconst ⟨by decide, by decide⟩ dX12_next_280 ?_
                refine zRx.iadd ⟨by omega, by omega⟩ dX12_next_281 ?_
                refine zRx.putI (a := 0) (ji := 13) pl_12_219 rfl rfl rfl dX12_next_282 ?_
                refine zRx.aload_n 0 rfl rfl dX12_next_285 ?_
                refine zRx.dup rfl dX12_next_286 ?_
                refine zRx.getIv (a := 0) (ji := 4) (v := σ 0 4) (zu_off _ _ _ (by decide)) fl_12_21 rfl rfl rfl dX12_next_287 ?_
                refine zRx.iconst ⟨by decide, by decide⟩ dX12_next_290 ?_
                refine zRx.iadd ⟨by omega, by omega⟩ dX12_next_291 ?_
                refine zRx.putI (a := 0) (ji := 4) pl_12_21 rfl rfl rfl dX12_next_292 ?_
                refine zRx.goto (tgt := 181) dX12_next_295 (by decide) ?_
                have he : S_X12_next_181 small (n + 1) a σ = S_X12_next_181 small n 0 (zu (zu σ 0 13 ((σ 0 13) + 1)) 0 4 ((σ 0 4) + 1)) := by rw [S_X12_next_181, if_neg c188, if_pos c198, if_neg c202, if_neg c213, if_pos c228, if_pos c253]
                rw [he] at K
                exact ih 0 (zu (zu σ 0 13 ((σ 0 13) + 1)) 0 4 ((σ 0 4) + 1)) _ (by first | omega | (simp [zu]; omega) | (simp [zu])) (by first | omega | (simp [zu]; omega) | (simp [zu])) (by first | omega | (simp [zu]; omega) | (simp [zu])) (by simp [zu]; omega) (by simp [zu]; omega) K
              · refine zRx.aload_n 0 rfl rfl dX12_next_256 ?_
                refine zRx.bipush ⟨by decide, by decide⟩ rfl dX12_next_257 ?_
                refine zRx.aload_n 0 rfl rfl dX12_next_259 ?_
                refine zRx.getIv (a := 0) (ji := 14) (v := σ 0 14) rfl fl_12_232 rfl rfl rfl dX12_next_260 ?_
                refine zRx.imul ⟨by omega, by omega⟩ dX12_next_263 ?_
                refine zRx.aload_n 0 rfl rfl dX12_next_264 ?_
                refine zRx.cVi (w := .inl (pkc (mu σ) (σ 0 3) (σ 0 4))) (M := m_X12_peek) (av := []) cv_12_212 mk_X12_peek (by decide) (b := 0) rfl rfl (Nat.le_of_ble_eq_true rfl) dX12_next_265 (does_peek2 σ (mu σ) (σ 0 3) (σ 0 4) rfl rfl rfl (by omega) (by omega)) ?_
                refine zRx.iadd ⟨by omega, by omega⟩ dX12_next_268 ?_
                refine zRx.bipush ⟨by decide, by decide⟩ rfl dX12_next_269 ?_
                refine zRx.isub ⟨by omega, by omega⟩ dX12_next_271 ?_
                refine zRx.putI (a := 0) (ji := 14) pl_12_232 rfl rfl rfl dX12_next_272 ?_
                refine zRx.aload_n 0 rfl rfl dX12_next_275 ?_
                refine zRx.dup rfl dX12_next_276 ?_
                refine zRx.getIv (a := 0) (ji := 13) (v := σ 0 13) (zu_off _ _ _ (by decide)) fl_12_219 rfl rfl rfl dX12_next_277 ?_
                refine zRx.iconst ⟨by decide, by decide⟩ dX12_next_280 ?_
                refine zRx.iadd ⟨by omega, by omega⟩ dX12_next_281 ?_
                refine zRx.putI (a := 0) (ji := 13) pl_12_219 rfl rfl rfl dX12_next_282 ?_
                refine zRx.aload_n 0 rfl rfl dX12_next_285 ?_
                refine zRx.dup rfl dX12_next_286 ?_
                refine zRx.getIv (a := 0) (ji := 4) (v := σ 0 4) ((zu_off _ _ _ (by decide)).trans (zu_off _ _ _ (by decide))) fl_12_21 rfl rfl rfl dX12_next_287 ?_
                refine zRx.iconst ⟨by decide, by decide⟩ dX12_next_290 ?_
                refine zRx.iadd ⟨by omega, by omega⟩ dX12_next_291 ?_
                refine zRx.putI (a := 0) (ji := 4) pl_12_21 rfl rfl rfl dX12_next_292 ?_
                refine zRx.goto (tgt := 181) dX12_next_295 (by decide) ?_
                have he : S_X12_next_181 small (n + 1) a σ = S_X12_next_181 small n 0 (zu (zu (zu σ 0 14 (((10 * (σ 0 14)) + (pkc (mu σ) (σ 0 3) (σ 0 4))) - 48)) 0 13 ((σ 0 13) + 1)) 0 4 ((σ 0 4) + 1)) := by rw [S_X12_next_181, if_neg c188, if_pos c198, if_neg c202, if_neg c213, if_pos c228, if_neg (Int.not_le.mpr c253)]
                rw [he] at K
                exact ih 0 (zu (zu (zu σ 0 14 (((10 * (σ 0 14)) + (pkc (mu σ) (σ 0 3) (σ 0 4))) - 48)) 0 13 ((σ 0 13) + 1)) 0 4 ((σ 0 4) + 1)) _ (by first | omega | (simp [zu]; omega) | (simp [zu])) (by first | omega | (simp [zu]; omega) | (simp [zu])) (by first | omega | (simp [zu]; omega) | (simp [zu])) (by simp [zu]; omega) (by simp [zu]; omega) K
            · refine zRx.aload_n 0 rfl rfl dX12_next_231 ?_
              refine zRx.aload_n 0 rfl rfl dX12_next_232 ?_
              refine zRx.getJv (a := 0) (ji := 17) (v := σ 0 17) rfl fl_12_235 rfl rfl rfl dX12_next_233 ?_
              refine zRx.bipush ⟨by decide, by decide⟩ rfl dX12_next_236 ?_
              refine zRx.lshl dX12_next_238 ?_
              refine zRx.aload_n 0 rfl rfl dX12_next_239 ?_
              refine zRx.cVi (w := .inl (pkc (mu σ) (σ 0 3) (σ 0 4))) (M := m_X12_peek) (av := []) cv_12_212 mk_X12_peek (by decide) (b := 0) rfl rfl (Nat.le_of_ble_eq_true rfl) dX12_next_240 (does_peek2 σ (mu σ) (σ 0 3) (σ 0 4) rfl rfl rfl (by omega) (by omega)) ?_
              refine zRx.i2l dX12_next_243 ?_
              refine zRx.lor dX12_next_244 ?_
              refine zRx.putJ (a := 0) (ji := 17) pl_12_235 rfl rfl rfl dX12_next_245 ?_
              refine zRx.aload_n 0 rfl rfl dX12_next_248 ?_
              refine zRx.getIv (a := 0) (ji := 13) (v := σ 0 13) (zu_off _ _ _ (by decide)) fl_12_219 rfl rfl rfl dX12_next_249 ?_
              refine zRx.iconst ⟨by decide, by decide⟩ dX12_next_252 ?_
              refine zRx.icmp_ge (tgt := 275) dX12_next_253 (by decide) (fun c253 => ?_) (fun c253 => ?_)
              · refine zRx.aload_n 0 rfl rfl dX12_next_275 ?_
                refine zRx.dup rfl dX12_next_276 ?_
                refine zRx.getIv (a := 0) (ji := 13) (v := σ 0 13) (zu_off _ _ _ (by decide)) fl_12_219 rfl rfl rfl dX12_next_277 ?_
                refine zRx.iconst ⟨by decide, by decide⟩ dX12_next_280 ?_
                refine zRx.iadd ⟨by omega, by omega⟩ dX12_next_281 ?_
                refine zRx.putI (a := 0) (ji := 13) pl_12_219 rfl rfl rfl dX12_next_282 ?_
                refine zRx.aload_n 0 rfl rfl dX12_next_285 ?_
                refine zRx.dup rfl dX12_next_286 ?_
                refine zRx.getIv (a := 0) (ji := 4) (v := σ 0 4) ((zu_off _ _ _ (by decide)).trans (zu_off _ _ _ (by decide))) fl_12_21 rfl rfl rfl dX12_next_287 ?_
                refine zRx.iconst ⟨by decide, by decide⟩ dX12_next_290 ?_
                refine zRx.iadd ⟨by omega, by omega⟩ dX12_next_291 ?_
                refine zRx.putI (a := 0) (ji := 4) pl_12_21 rfl rfl rfl dX12_next_292 ?_
                refine zRx.goto (tgt := 181) dX12_next_295 (by decide) ?_
                have he : S_X12_next_181 small (n + 1) a σ = S_X12_next_181 small n 0 (zu (zu (zu σ 0 17 (jor (jshl (σ 0 17) 8) (pkc (mu σ) (σ 0 3) (σ 0 4)))) 0 13 ((σ 0 13) + 1)) 0 4 ((σ 0 4) + 1)) := by rw [S_X12_next_181, if_neg c188, if_pos c198, if_neg c202, if_neg c213, if_neg (Int.not_le.mpr c228), if_pos c253]
                rw [he] at K
                exact ih 0 (zu (zu (zu σ 0 17 (jor (jshl (σ 0 17) 8) (pkc (mu σ) (σ 0 3) (σ 0 4)))) 0 13 ((σ 0 13) + 1)) 0 4 ((σ 0 4) + 1)) _ (by first | omega | (simp [zu]; omega) | (simp [zu])) (by first | omega | (simp [zu]; omega) | (simp [zu])) (by first | omega | (simp [zu]; omega) | (simp [zu])) (by simp [zu]; omega) (by simp [zu]; omega) K
              · refine zRx.aload_n 0 rfl rfl dX12_next_256 ?_
                refine zRx.bipush ⟨by decide, by decide⟩ rfl dX12_next_257 ?_
                refine zRx.aload_n 0 rfl rfl dX12_next_259 ?_
                refine zRx.getIv (a := 0) (ji := 14) (v := σ 0 14) (zu_off _ _ _ (by decide)) fl_12_232 rfl rfl rfl dX12_next_260 ?_
                refine zRx.imul ⟨by omega, by omega⟩ dX12_next_263 ?_
                refine zRx.aload_n 0 rfl rfl dX12_next_264 ?_
                refine zRx.cVi (w := .inl (pkc (mu σ) (σ 0 3) (σ 0 4))) (M := m_X12_peek) (av := []) cv_12_212 mk_X12_peek (by decide) (b := 0) rfl rfl (Nat.le_of_ble_eq_true rfl) dX12_next_265 (does_peek2 (zu σ 0 17 (jor (jshl (σ 0 17) 8) (pkc (mu σ) (σ 0 3) (σ 0 4)))) (mu σ) (σ 0 3) (σ 0 4) (by funext i; simp [mu, zu]) (zu_off _ _ _ (by decide)) (zu_off _ _ _ (by decide)) (by omega) (by omega)) ?_
                refine zRx.iadd ⟨by omega, by omega⟩ dX12_next_268 ?_
                refine zRx.bipush ⟨by decide, by decide⟩ rfl dX12_next_269 ?_
                refine zRx.isub ⟨by omega, by omega⟩ dX12_next_271 ?_
                refine zRx.putI (a := 0) (ji := 14) pl_12_232 rfl rfl rfl dX12_next_272 ?_
                refine zRx.aload_n 0 rfl rfl dX12_next_275 ?_
                refine zRx.dup rfl dX12_next_276 ?_
                refine zRx.getIv (a := 0) (ji := 13) (v := σ 0 13) ((zu_off _ _ _ (by decide)).trans (zu_off _ _ _ (by decide))) fl_12_219 rfl rfl rfl dX12_next_277 ?_
                refine zRx.iconst ⟨by decide, by decide⟩ dX12_next_280 ?_
                refine zRx.iadd ⟨by omega, by omega⟩ dX12_next_281 ?_
                refine zRx.putI (a := 0) (ji := 13) pl_12_219 rfl rfl rfl dX12_next_282 ?_
                refine zRx.aload_n 0 rfl rfl dX12_next_285 ?_
                refine zRx.dup rfl dX12_next_286 ?_
                refine zRx.getIv (a := 0) (ji := 4) (v := σ 0 4) ((zu_off _ _ _ (by decide)).trans ((zu_off _ _ _ (by decide)).trans (zu_off _ _ _ (by decide)))) fl_12_21 rfl rfl rfl dX12_next_287 ?_
                refine zRx.iconst ⟨by decide, by decide⟩ dX12_next_290 ?_
                refine zRx.iadd ⟨by omega, by omega⟩ dX12_next_291 ?_
                refine zRx.putI (a := 0) (ji := 4) pl_12_21 rfl rfl rfl dX12_next_292 ?_
                refine zRx.goto (tgt := 181) dX12_next_295 (by decide) ?_
                have he : S_X12_next_181 small (n + 1) a σ = S_X12_next_181 small n 0 (zu (zu (zu (zu σ 0 17 (jor (jshl (σ 0 17) 8) (pkc (mu σ) (σ 0 3) (σ 0 4)))) 0 14 (((10 * (σ 0 14)) + (pkc (mu σ) (σ 0 3) (σ 0 4))) - 48)) 0 13 ((σ 0 13) + 1)) 0 4 ((σ 0 4) + 1)) := by rw [S_X12_next_181, if_neg c188, if_pos c198, if_neg c202, if_neg c213, if_neg (Int.not_le.mpr c228), if_neg (Int.not_le.mpr c253)]
                rw [he] at K
                exact ih 0 (zu (zu (zu (zu σ 0 17 (jor (jshl (σ 0 17) 8) (pkc (mu σ) (σ 0 3) (σ 0 4)))) 0 14 (((10 * (σ 0 14)) + (pkc (mu σ) (σ 0 3) (σ 0 4))) - 48)) 0 13 ((σ 0 13) + 1)) 0 4 ((σ 0 4) + 1)) _ (by first | omega | (simp [zu]; omega) | (simp [zu])) (by first | omega | (simp [zu]; omega) | (simp [zu])) (by first | omega | (simp [zu]; omega) | (simp [zu])) (by simp [zu]; omega) (by simp [zu]; omega) K
          · refine zRx.iconst ⟨by decide, by decide⟩ dX12_next_216 ?_
            refine zRx.goto (tgt := 221) dX12_next_217 (by decide) ?_
            refine zRx.istore_n (ls' := [(0, zP 0), (2, .inl small), (3, .inl 1)]) rfl rfl (by decide) dX12_next_221 ?_
            refine zRx.aload_n 0 rfl rfl dX12_next_222 ?_
            refine zRx.getIv (a := 0) (ji := 13) (v := σ 0 13) rfl fl_12_219 rfl rfl rfl dX12_next_223 ?_
            refine zRx.bipush ⟨by decide, by decide⟩ rfl dX12_next_226 ?_
            refine zRx.icmp_ge (tgt := 248) dX12_next_228 (by decide) (fun c228 => ?_) (fun c228 => ?_)
            · refine zRx.aload_n 0 rfl rfl dX12_next_248 ?_
              refine zRx.getIv (a := 0) (ji := 13) (v := σ 0 13) rfl fl_12_219 rfl rfl rfl dX12_next_249 ?_
              refine zRx.iconst ⟨by decide, by decide⟩ dX12_next_252 ?_
              refine zRx.icmp_ge (tgt := 275) dX12_next_253 (by decide) (fun c253 => ?_) (fun c253 => ?_)
              · refine zRx.aload_n 0 rfl rfl dX12_next_275 ?_
                refine zRx.dup rfl dX12_next_276 ?_
                refine zRx.getIv (a := 0) (ji := 13) (v := σ 0 13) rfl fl_12_219 rfl rfl rfl dX12_next_277 ?_
                refine zRx.iconst ⟨by decide, by decide⟩ dX12_next_280 ?_
                refine zRx.iadd ⟨by omega, by omega⟩ dX12_next_281 ?_
                refine zRx.putI (a := 0) (ji := 13) pl_12_219 rfl rfl rfl dX12_next_282 ?_
                refine zRx.aload_n 0 rfl rfl dX12_next_285 ?_
                refine zRx.dup rfl dX12_next_286 ?_
                refine zRx.getIv (a := 0) (ji := 4) (v := σ 0 4) (zu_off _ _ _ (by decide)) fl_12_21 rfl rfl rfl dX12_next_287 ?_
                refine zRx.iconst ⟨by decide, by decide⟩ dX12_next_290 ?_
                refine zRx.iadd ⟨by omega, by omega⟩ dX12_next_291 ?_
                refine zRx.putI (a := 0) (ji := 4) pl_12_21 rfl rfl rfl dX12_next_292 ?_
                refine zRx.goto (tgt := 181) dX12_next_295 (by decide) ?_
                have he : S_X12_next_181 small (n + 1) a σ = S_X12_next_181 small n 1 (zu (zu σ 0 13 ((σ 0 13) + 1)) 0 4 ((σ 0 4) + 1)) := by rw [S_X12_next_181, if_neg c188, if_pos c198, if_neg c202, if_pos c213, if_pos c228, if_pos c253]
                rw [he] at K
                exact ih 1 (zu (zu σ 0 13 ((σ 0 13) + 1)) 0 4 ((σ 0 4) + 1)) _ (by first | omega | (simp [zu]; omega) | (simp [zu])) (by first | omega | (simp [zu]; omega) | (simp [zu])) (by first | omega | (simp [zu]; omega) | (simp [zu])) (by simp [zu]; omega) (by simp [zu]; omega) K
              · refine zRx.aload_n 0 rfl rfl dX12_next_256 ?_
                refine zRx.bipush ⟨by decide, by decide⟩ rfl dX12_next_257 ?_
                refine zRx.aload_n 0 rfl rfl dX12_next_259 ?_
                refine zRx.getIv (a := 0) (ji := 14) (v := σ 0 14) rfl fl_12_232 rfl rfl rfl dX12_next_260 ?_
                refine zRx.imul ⟨by omega, by omega⟩ dX12_next_263 ?_
                refine zRx.aload_n 0 rfl rfl dX12_next_264 ?_
                refine zRx.cVi (w := .inl (pkc (mu σ) (σ 0 3) (σ 0 4))) (M := m_X12_peek) (av := []) cv_12_212 mk_X12_peek (by decide) (b := 0) rfl rfl (Nat.le_of_ble_eq_true rfl) dX12_next_265 (does_peek2 σ (mu σ) (σ 0 3) (σ 0 4) rfl rfl rfl (by omega) (by omega)) ?_
                refine zRx.iadd ⟨by omega, by omega⟩ dX12_next_268 ?_
                refine zRx.bipush ⟨by decide, by decide⟩ rfl dX12_next_269 ?_
                refine zRx.isub ⟨by omega, by omega⟩ dX12_next_271 ?_
                refine zRx.putI (a := 0) (ji := 14) pl_12_232 rfl rfl rfl dX12_next_272 ?_
                refine zRx.aload_n 0 rfl rfl dX12_next_275 ?_
                refine zRx.dup rfl dX12_next_276 ?_
                refine zRx.getIv (a := 0) (ji := 13) (v := σ 0 13) (zu_off _ _ _ (by decide)) fl_12_219 rfl rfl rfl dX12_next_277 ?_
                refine zRx.iconst ⟨by decide, by decide⟩ dX12_next_280 ?_
                refine zRx.iadd ⟨by omega, by omega⟩ dX12_next_281 ?_
                refine zRx.putI (a := 0) (ji := 13) pl_12_219 rfl rfl rfl dX12_next_282 ?_
                refine zRx.aload_n 0 rfl rfl dX12_next_285 ?_
                refine zRx.dup rfl dX12_next_286 ?_
                refine zRx.getIv (a := 0) (ji := 4) (v := σ 0 4) ((zu_off _ _ _ (by decide)).trans (zu_off _ _ _ (by decide))) fl_12_21 rfl rfl rfl dX12_next_287 ?_
                refine zRx.iconst ⟨by decide, by decide⟩ dX12_next_290 ?_
                refine zRx.iadd ⟨by omega, by omega⟩ dX12_next_291 ?_
                refine zRx.putI (a := 0) (ji := 4) pl_12_21 rfl rfl rfl dX12_next_292 ?_
                refine zRx.goto (tgt := 181) dX12_next_295 (by decide) ?_
                have he : S_X12_next_181 small (n + 1) a σ = S_X12_next_181 small n 1 (zu (zu (zu σ 0 14 (((10 * (σ 0 14)) + (pkc (mu σ) (σ 0 3) (σ 0 4))) - 48)) 0 13 ((σ 0 13) + 1)) 0 4 ((σ 0 4) + 1)) := by rw [S_X12_next_181, if_neg c188, if_pos c198, if_neg c202, if_pos c213, if_pos c228, if_neg (Int.not_le.mpr c253)]
                rw [he] at K
                exact ih 1 (zu (zu (zu σ 0 14 (((10 * (σ 0 14)) + (pkc (mu σ) (σ 0 3) (σ 0 4))) - 48)) 0 13 ((σ 0 13) + 1)) 0 4 ((σ 0 4) + 1)) _ (by first | omega | (simp [zu]; omega) | (simp [zu])) (by first | omega | (simp [zu]; omega) | (simp [zu])) (by first | omega | (simp [zu]; omega) | (simp [zu])) (by simp [zu]; omega) (by simp [zu]; omega) K
            · refine zRx.aload_n 0 rfl rfl dX12_next_231 ?_
              refine zRx.aload_n 0 rfl rfl dX12_next_232 ?_
              refine zRx.getJv (a := 0) (ji := 17) (v := σ 0 17) rfl fl_12_235 rfl rfl rfl dX12_next_233 ?_
              refine zRx.bipush ⟨by decide, by decide⟩ rfl dX12_next_236 ?_
              refine zRx.lshl dX12_next_238 ?_
              refine zRx.aload_n 0 rfl rfl dX12_next_239 ?_
              refine zRx.cVi (w := .inl (pkc (mu σ) (σ 0 3) (σ 0 4))) (M := m_X12_peek) (av := []) cv_12_212 mk_X12_peek (by decide) (b := 0) rfl rfl (Nat.le_of_ble_eq_true rfl) dX12_next_240 (does_peek2 σ (mu σ) (σ 0 3) (σ 0 4) rfl rfl rfl (by omega) (by omega)) ?_
              refine zRx.i2l dX12_next_243 ?_
              refine zRx.lor dX12_next_244 ?_
              refine zRx.putJ (a := 0) (ji := 17) pl_12_235 rfl rfl rfl dX12_next_245 ?_
              refine zRx.aload_n 0 rfl rfl dX12_next_248 ?_
              refine zRx.getIv (a := 0) (ji := 13) (v := σ 0 13) (zu_off _ _ _ (by decide)) fl_12_219 rfl rfl rfl dX12_next_249 ?_
              refine zRx.iconst ⟨by decide, by decide⟩ dX12_next_252 ?_
              refine zRx.icmp_ge (tgt := 275) dX12_next_253 (by decide) (fun c253 => ?_) (fun c253 => ?_)
              · refine zRx.aload_n 0 rfl rfl dX12_next_275 ?_
                refine zRx.dup rfl dX12_next_276 ?_
                refine zRx.getIv (a := 0) (ji := 13) (v := σ 0 13) (zu_off _ _ _ (by decide)) fl_12_219 rfl rfl rfl dX12_next_277 ?_
                refine zRx.iconst ⟨by decide, by decide⟩ dX12_next_280 ?_
                refine zRx.iadd ⟨by omega, by omega⟩ dX12_next_281 ?_
                refine zRx.putI (a := 0) (ji := 13) pl_12_219 rfl rfl rfl dX12_next_282 ?_
                refine zRx.aload_n 0 rfl rfl dX12_next_285 ?_
                refine zRx.dup rfl dX12_next_286 ?_
                refine zRx.getIv (a := 0) (ji := 4) (v := σ 0 4) ((zu_off _ _ _ (by decide)).trans (zu_off _ _ _ (by decide))) fl_12_21 rfl rfl rfl dX12_next_287 ?_
                refine zRx.iconst ⟨by decide, by decide⟩ dX12_next_290 ?_
                refine zRx.iadd ⟨by omega, by omega⟩ dX12_next_291 ?_
                refine zRx.putI (a := 0) (ji := 4) pl_12_21 rfl rfl rfl dX12_next_292 ?_
                refine zRx.goto (tgt := 181) dX12_next_295 (by decide) ?_
                have he : S_X12_next_181 small (n + 1) a σ = S_X12_next_181 small n 1 (zu (zu (zu σ 0 17 (jor (jshl (σ 0 17) 8) (pkc (mu σ) (σ 0 3) (σ 0 4)))) 0 13 ((σ 0 13) + 1)) 0 4 ((σ 0 4) + 1)) := by rw [S_X12_next_181, if_neg c188, if_pos c198, if_neg c202, if_pos c213, if_neg (Int.not_le.mpr c228), if_pos c253]
                rw [he] at K
                exact ih 1 (zu (zu (zu σ 0 17 (jor (jshl (σ 0 17) 8) (pkc (mu σ) (σ 0 3) (σ 0 4)))) 0 13 ((σ 0 13) + 1)) 0 4 ((σ 0 4) + 1)) _ (by first | omega | (simp [zu]; omega) | (simp [zu])) (by first | omega | (simp [zu]; omega) | (simp [zu])) (by first | omega | (simp [zu]; omega) | (simp [zu])) (by simp [zu]; omega) (by simp [zu]; omega) K
              · refine zRx.aload_n 0 rfl rfl dX12_next_256 ?_
                refine zRx.bipush ⟨by decide, by decide⟩ rfl dX12_next_257 ?_
                refine zRx.aload_n 0 rfl rfl dX12_next_259 ?_
                refine zRx.getIv (a := 0) (ji := 14) (v := σ 0 14) (zu_off _ _ _ (by decide)) fl_12_232 rfl rfl rfl dX12_next_260 ?_
                refine zRx.imul ⟨by omega, by omega⟩ dX12_next_263 ?_
                refine zRx.aload_n 0 rfl rfl dX12_next_264 ?_
                refine zRx.cVi (w := .inl (pkc (mu σ) (σ 0 3) (σ 0 4))) (M := m_X12_peek) (av := []) cv_12_212 mk_X12_peek (by decide) (b := 0) rfl rfl (Nat.le_of_ble_eq_true rfl) dX12_next_265 (does_peek2 (zu σ 0 17 (jor (jshl (σ 0 17) 8) (pkc (mu σ) (σ 0 3) (σ 0 4)))) (mu σ) (σ 0 3) (σ 0 4) (by funext i; simp [mu, zu]) (zu_off _ _ _ (by decide)) (zu_off _ _ _ (by decide)) (by omega) (by omega)) ?_
                refine zRx.iadd ⟨by omega, by omega⟩ dX12_next_268 ?_
                refine zRx.bipush ⟨by decide, by decide⟩ rfl dX12_next_269 ?_
                refine zRx.isub ⟨by omega, by omega⟩ dX12_next_271 ?_
                refine zRx.putI (a := 0) (ji := 14) pl_12_232 rfl rfl rfl dX12_next_272 ?_
                refine zRx.aload_n 0 rfl rfl dX12_next_275 ?_
                refine zRx.dup rfl dX12_next_276 ?_
                refine zRx.getIv (a := 0) (ji := 13) (v := σ 0 13) ((zu_off _ _ _ (by decide)).trans (zu_off _ _ _ (by decide))) fl_12_219 rfl rfl rfl dX12_next_277 ?_
                refine zRx.iconst ⟨by decide, by decide⟩ dX12_next_280 ?_
                refine zRx.iadd ⟨by omega, by omega⟩ dX12_next_281 ?_
                refine zRx.putI (a := 0) (ji := 13) pl_12_219 rfl rfl rfl dX12_next_282 ?_
                refine zRx.aload_n 0 rfl rfl dX12_next_285 ?_
                refine zRx.dup rfl dX12_next_286 ?_
                refine zRx.getIv (a := 0) (ji := 4) (v := σ 0 4) ((zu_off _ _ _ (by decide)).trans ((zu_off _ _ _ (by decide)).trans (zu_off _ _ _ (by decide)))) fl_12_21 rfl rfl rfl dX12_next_287 ?_
                refine zRx.iconst ⟨by decide, by decide⟩ dX12_next_290 ?_
                refine zRx.iadd ⟨by omega, by omega⟩ dX12_next_291 ?_
                refine zRx.putI (a := 0) (ji := 4) pl_12_21 rfl rfl rfl dX12_next_292 ?_
                refine zRx.goto (tgt := 181) dX12_next_295 (by decide) ?_
                have he : S_X12_next_181 small (n + 1) a σ = S_X12_next_181 small n 1 (zu (zu (zu (zu σ 0 17 (jor (jshl (σ 0 17) 8) (pkc (mu σ) (σ 0 3) (σ 0 4)))) 0 14 (((10 * (σ 0 14)) + (pkc (mu σ) (σ 0 3) (σ 0 4))) - 48)) 0 13 ((σ 0 13) + 1)) 0 4 ((σ 0 4) + 1)) := by rw [S_X12_next_181, if_neg c188, if_pos c198, if_neg c202, if_pos c213, if_neg (Int.not_le.mpr c228), if_neg (Int.not_le.mpr c253)]
                rw [he] at K
                exact ih 1 (zu (zu (zu (zu σ 0 17 (jor (jshl (σ 0 17) 8) (pkc (mu σ) (σ 0 3) (σ 0 4)))) 0 14 (((10 * (σ 0 14)) + (pkc (mu σ) (σ 0 3) (σ 0 4))) - 48)) 0 13 ((σ 0 13) + 1)) 0 4 ((σ 0 4) + 1)) _ (by first | omega | (simp [zu]; omega) | (simp [zu])) (by first | omega | (simp [zu]; omega) | (simp [zu])) (by first | omega | (simp [zu]; omega) | (simp [zu])) (by simp [zu]; omega) (by simp [zu]; omega) K

