/-! pure: what ties the two sides when both are new -/
def mI (σ : zG) : zG := cpM 172 (R_X12_plainValley (mRows σ)) 0
theorem cpM_row {k : Nat} (hk : k ≠ 2) : ∀ (m : Nat) (σ : zG) (i : Int), cpM m σ i k = σ k
  | 0, _, _ => rfl
  | m + 1, σ, i => by rw [cpM, cpM_row hk m, zu_row _ _ _ hk]
theorem cpM_2 (j : Int) : ∀ (m : Nat) (σ : zG) (i : Int), cpM m σ i 2 j = if i ≤ j ∧ j < i + m then σ 3 j else σ 2 j
  | 0, σ, i => by rw [cpM, if_neg (by omega)]
  | m + 1, σ, i => by
    rw [cpM, cpM_2 j m, zu_row _ _ _ (by decide : (3 : Nat) ≠ 2), zu_if]
    by_cases h : j = i
    · subst h
      rw [if_neg (by omega), if_pos rfl, if_pos (by omega)]
    · by_cases h2 : i ≤ j ∧ j < i + (m + 1 : Nat)
      · rw [if_pos h2, if_pos (by omega)]
      · rw [if_neg h2, if_neg (by omega), if_neg h]
theorem plainS_3 : ∀ (n : Nat) (q : Int) (σ : zG), σ 3 = rZ → (S_X12_plainValley_2 n q σ).2 3 = rZ
  | 0, _, _, h => h
  | n + 1, q, σ, h => by
    rw [S_X12_plainValley_2]
    split
    · exact h
    · refine plainS_3 n (q + 1) _ ?_
      funext j
      rw [zu_if, h]
      split <;> rfl
theorem mR_row (σ : zG) {k : Nat} (hk : k = 1 ∨ k = 2 ∨ k = 3 ∨ k = 5 ∨ k = 9 ∨ k = 10 ∨ k = 32 ∨ k = 39 ∨ k = 40 ∨ k = 41) : mRows σ k = rZ := by
  rcases hk with rfl | rfl | rfl | rfl | rfl | rfl | rfl | rfl | rfl | rfl
  all_goals (funext j; simp [mRows, zu, zr0, rZ])
theorem mR_0 {σ : zG} (h : σ 0 = rZ) : mRows σ 0 = rZ := by
  funext j
  rw [← h]
  simp [mRows, zu, zr0]
def mWl : List Int := [7825519, 1717658484, 461414299507, 495690081125, 1634954099, 1836019566, 7302244, 126879297332596, 126896627347060, 439956631140, 6578553, 1818846579, 2003399784, 448444786035, 499917810803, 495622843507, 28530, 6385252, 7237492, 6840691, 1818326117, 1870095731, 431197680755, 1885432164, 1752527476, 427070942835]
theorem cases26 {i : Int} (h0 : 0 ≤ i) (h1 : i < 26) : i = 0 ∨ i = 1 ∨ i = 2 ∨ i = 3 ∨ i = 4 ∨ i = 5 ∨ i = 6 ∨ i = 7 ∨ i = 8 ∨ i = 9 ∨ i = 10 ∨ i = 11 ∨ i = 12 ∨ i = 13 ∨ i = 14 ∨ i = 15 ∨ i = 16 ∨ i = 17 ∨ i = 18 ∨ i = 19 ∨ i = 20 ∨ i = 21 ∨ i = 22 ∨ i = 23 ∨ i = 24 ∨ i = 25 := by omega
theorem mR_6 (σ : zG) {j : Int} (h0 : 0 ≤ j) (h1 : j < 26) : mRows σ 6 j = mWl.getD j.toNat 0 := by
  rcases cases26 h0 h1 with rfl | rfl | rfl | rfl | rfl | rfl | rfl | rfl | rfl | rfl | rfl | rfl | rfl | rfl | rfl | rfl | rfl | rfl | rfl | rfl | rfl | rfl | rfl | rfl | rfl | rfl
  all_goals simp [mRows, zu, mWl]
def kpm (n : Nat) : Nat := if n = 12 then 13 else if n = 13 then 14 else if n = 14 then 15 else if n = 15 then 12 else n
def kpi (n : Nat) : Nat := if n = 13 then 12 else if n = 14 then 13 else if n = 15 then 14 else if n = 12 then 15 else n
theorem kw_both : ∀ n : Nat, n < 26 → cvt 6 (kwl.getD n 0) = mWl.getD (kpm n) 0 ∧ dvt 6 (mWl.getD (kpm n) 0) = kwl.getD n 0 ∧ (0 ≤ kwl.getD n 0 ∧ kwl.getD n 0 < 32 ^ 6) ∧ 0 ≤ mWl.getD (kpm n) 0 ∧ mWl.getD (kpm n) 0 < 256 ^ 6 := by decide +kernel
theorem kpm_ok : ∀ n : Nat, n < 26 → kpm n < 26 ∧ kpi n < 26 ∧ kpm (kpi n) = n := by decide +kernel
theorem mI_row (σ : zG) {k : Nat} (h2 : k ≠ 2) (h3 : k ≠ 3) : mI σ k = mRows σ k := by
  unfold mI
  rw [cpM_row h2, fr_R_X12_plainValley _ (by simpa using h3)]
theorem mI_2 (σ : zG) (j : Int) : mI σ 2 j = if j = 3 then 28 else if j = 4 then 5 else if j = 5 then 15 else if j = 6 then 5 else if j = 7 then 20 else 0 := by
  have e2 : R_X12_plainValley (mRows σ) 2 j = 0 := by
    rw [fr_R_X12_plainValley _ (by decide : (2 : Nat) ∉ [3]), mR_row σ (by decide)]
    rfl
  have e3 : R_X12_plainValley (mRows σ) 3 j = if j = 3 then 28 else if j = 4 then 5 else if j = 5 then 15 else if j = 6 then 5 else if j = 7 then 20 else 0 := by
    unfold R_X12_plainValley
    rw [zu_if, zu_if, zu_if, zu_if, zu_if, plainS_3 _ _ _ (mR_row σ (by decide))]
    by_cases c3 : j = 3
    · subst c3; rfl
    · by_cases c4 : j = 4
      · subst c4; rfl
      · by_cases c5 : j = 5
        · subst c5; rfl
        · by_cases c6 : j = 6
          · subst c6; rfl
          · by_cases c7 : j = 7
            · subst c7; rfl
            · simp only [if_neg c3, if_neg c4, if_neg c5, if_neg c6, if_neg c7]; rfl
  unfold mI
  rw [cpM_2, e2, e3]
  by_cases c : 0 ≤ j ∧ j < 0 + (172 : Nat)
  · rw [if_pos c]
  · rw [if_neg c, if_neg (by omega), if_neg (by omega), if_neg (by omega), if_neg (by omega), if_neg (by omega)]
theorem mI_2z (σ : zG) {j : Int} (h : j < 3 ∨ 8 ≤ j) : mI σ 2 j = 0 := by
  rw [mI_2, if_neg (by omega), if_neg (by omega), if_neg (by omega), if_neg (by omega), if_neg (by omega)]
theorem clear_I : ∀ (n : Nat) (q : Int), 0 ≤ q → (S_X4_clear_2 n q cI).2 = cI
  | 0, _, _ => rfl
  | n + 1, q, h => by
    have e : zu cI 54 q 0 = cI := zu_same (z := 0) rfl
    rw [S_X4_clear_2]
    split
    · rfl
    · rw [if_pos (show cI 5 0 ≤ q from h), e]
      exact clear_I n (q + 1) (by omega)
theorem zfl_id {s : zG} {a : Nat} {n v : Int} (h : ∀ i : Int, 0 ≤ i → i < n → s a i = v) : zfl s a n v = s := by
  funext k i
  unfold zfl
  by_cases e : k = a
  · rw [if_pos e]
    by_cases c : 0 ≤ i ∧ i < n
    · rw [if_pos c, e, h i c.1 c.2]
    · rw [if_neg c]
  · rw [if_neg e]
theorem judge_I : R_X4_judge cI (-1) = cI := by
  have e : R_X4_clear cI = cI := by
    unfold R_X4_clear
    rw [clear_I 10 0 (by decide), zfl_id (s := cI) (a := 55) (n := 8) (v := 0) (fun _ _ _ => rfl), zfl_id (s := cI) (a := 56) (n := 8) (v := 0) (fun _ _ _ => rfl), zfl_id (s := cI) (a := 57) (n := 96) (v := -1) (fun i a b => if_pos ⟨a, b⟩), zu_same (s := cI) (a := 53) (i := 7) (z := 0) rfl, zu_same (s := cI) (a := 53) (i := 8) (z := 0) rfl]
  unfold R_X4_judge
  rw [e, L_X4_judge_6, if_pos (show cI 27 0 ≤ 0 from Int.le_refl _)]
theorem REL_new {σ : zG} (h : σ 0 = rZ) : REL cI (mI σ) := by
  have m0 : mI σ 0 = rZ := by rw [mI_row σ (by decide) (by decide), mR_0 h]
  have m1 : mI σ 1 = rZ := by rw [mI_row σ (by decide) (by decide), mR_row σ (by decide)]
  have m41 : mI σ 41 = rZ := by rw [mI_row σ (by decide) (by decide), mR_row σ (by decide)]
  have m6 : ∀ j : Int, 0 ≤ j → j < 26 → mI σ 6 j = mWl.getD j.toNat 0 := fun j a b => by rw [mI_row σ (by decide) (by decide), mR_6 σ a b]
  have z : ∀ j : Int, j < 3 ∨ 8 ≤ j → mI σ 2 j = 0 := fun j hj => mI_2z σ hj
  have k4 : ∀ i : Int, 0 ≤ i → cI 4 i = kwl.getD i.toNat 0 := fun i h0 => if_pos h0
  have hw : ∀ n : Nat, n < 26 → wr (cI 4 (n : Int)) (mI σ 6 (kpm n : Int)) := fun n hn => by
    have hp := (kpm_ok n hn).1
    rw [k4 n (by omega), m6 (kpm n) (by omega) (by omega), Int.toNat_natCast, Int.toNat_natCast]
    exact kw_both n hn
  have s3 : mI σ 2 3 = 28 := by rw [mI_2]; rfl
  have s4 : mI σ 2 4 = 5 := by rw [mI_2]; rfl
  have s5 : mI σ 2 5 = 15 := by rw [mI_2]; rfl
  have s6 : mI σ 2 6 = 5 := by rw [mI_2]; rfl
  have s7 : mI σ 2 7 = 20 := by rw [mI_2]; rfl
  have z0 := z 0 (by decide)
  have z1 := z 1 (by decide)
  have z2 := z 2 (by decide)
  have z172 := z 172 (by decide)
  have z473 := z 473 (by decide)
  have hz2 : mI σ 0 2 = 0 := by rw [m0]; rfl
  have hz60 : mI σ 0 60 = 0 := by rw [m0]; rfl
  refine ⟨⟨⟨hz2.symm, by omega, by omega⟩, fun j a b => ?_⟩, by rw [m0]; rfl, ⟨⟨fun i a b => ?_, fun j a b => ?_⟩, fun i a b => k4 i a⟩, ⟨?_, ?_, ?_, ?_, ?_⟩, ⟨cI, fun _ _ _ _ => rfl, fun c _ _ => by rw [judge_I]⟩, fun q => absurd rfl q, fun j => ⟨Int.le_refl _, (by decide : (0 : Int) ≤ 1152921504606846976)⟩, ⟨⟨hz60.symm, by omega, by omega⟩, fun j a b => by omega⟩, ?_⟩
  · have e : mu (mI σ) j = 0 := by
      unfold mu
      rw [m1]
      exact (by decide : band 0 255 = 0)
    rw [e]
    exact ⟨rfl, Int.le_refl _, (by decide : (0 : Int) ≤ 255)⟩
  · obtain ⟨n, rfl⟩ : ∃ n : Nat, i = (n : Int) := ⟨i.toNat, by omega⟩
    have hp := (kpm_ok n (by omega)).1
    exact ⟨(kpm n : Int), by omega, by omega, hw n (by omega)⟩
  · obtain ⟨n, rfl⟩ : ∃ n : Nat, j = (n : Int) := ⟨j.toNat, by omega⟩
    obtain ⟨-, p1, p2⟩ := kpm_ok n (by omega)
    have h9 := hw (kpi n) p1
    rw [p2] at h9
    exact ⟨(kpi n : Int), by omega, by omega, h9⟩
  · refine ⟨⟨z0.symm, by omega, by omega⟩, ⟨z1.symm, by omega, by omega⟩, ⟨⟨by omega, by omega⟩, z2.symm, fun i a b => by omega⟩, ?_, fun f a b => by omega, fun a h0 h8 => ?_⟩
    · rw [s3, s4, s5, s6, s7]
      exact ⟨rfl, rfl, rfl, rfl, rfl, by decide, by decide, by decide, by decide, by decide⟩
    · have e := z (44 + a) (by omega)
      rw [e]
      refine ⟨fun q => by omega, by decide, fun i _ _ => ?_, fun _ => rfl⟩
      exact hb_0 ⟨by omega, by omega⟩
  · refine ⟨fun i a b => by omega, fun i a b => by omega, fun j a b => ?_⟩
    rw [z (76 + j) (by omega)]
    refine ⟨?_, by decide, by decide⟩
    show rN j = _
    unfold rN
    rw [if_pos ⟨a, b⟩]
    rfl
  · refine ⟨⟨z172.symm, by omega, by omega⟩, fun i a b => by omega, ?_⟩
    rw [z172]
    exact (by decide : (0 : Int) ≤ 128)
  · exact ⟨fun i a b => by have : (0 : Int) ≤ i := a; have : i < 0 := b; omega, rfl, fun i j a b c => by have : j < 0 := c; omega, fun i a b => by have : i < 0 := b; omega⟩
  · exact ⟨[], ⟨rfl, trivial⟩, ⟨z473, trivial⟩, trivial, by decide, ⟨Int.le_refl _, by decide⟩, ⟨fun _ => rfl, fun _ => rfl⟩, fun q => absurd rfl q⟩
  · refine ⟨⟨?_, fun q => absurd rfl q⟩, ?_, fun q => absurd rfl q⟩
    · rw [m41]; exact ⟨fun _ => rfl, fun _ => rfl⟩
    · rw [m41]; exact ⟨fun _ => rfl, fun _ => rfl⟩
