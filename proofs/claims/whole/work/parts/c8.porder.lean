/-! pure: the orders of tellings as counters -/
/-- digit j of a counter of nn digits -/
def pd (nn c j : Nat) : Nat := c / nn ^ (nn - 1 - j) % nn
/-- every digit comes -/
def pall (nn c : Nat) : Bool := (List.range nn).all fun i => (List.range nn).any fun j => Nat.beq (pd nn c j) i
def pgap (nn a : Nat) : Nat → Bool
  | 0 => true
  | k + 1 => !(pall nn (a + k)) && pgap nn a k
/-- a state with this order -/
def pst (nn c : Nat) : zG := fun a i => if a = 95 then (pd nn c i.toNat : Int) else if a = 91 then (nn : Int) else 0
def psame (nn c : Nat) (τ : zG) : Bool := (List.range nn).all fun j => decide (τ 95 (j : Int) = (pd nn c j : Int))
def pch (nn : Nat) : Nat → List Nat → Bool
  | c, [] => pall nn c && decide ((R_X8_nextTurns (pst nn c)).1 = 0) && decide (c < nn ^ nn) && pgap nn (c + 1) (nn ^ nn - (c + 1))
  | c, d :: l => pall nn c && decide ((R_X8_nextTurns (pst nn c)).1 = 1) && psame nn d (R_X8_nextTurns (pst nn c)).2 && decide (c < d) && pgap nn (c + 1) (d - (c + 1)) && pch nn d l
def pl_1 : List Nat := []
theorem pch_1 : pch 1 0 pl_1 = true := by decide +kernel
theorem pg0_1 : pgap 1 0 0 = true := by decide +kernel
theorem psm_1 : psame 1 0 (fun _ i => i) = true := by decide +kernel
def pl_2 : List Nat := [2]
theorem pch_2 : pch 2 1 pl_2 = true := by decide +kernel
theorem pg0_2 : pgap 2 0 1 = true := by decide +kernel
theorem psm_2 : psame 2 1 (fun _ i => i) = true := by decide +kernel
def pl_3 : List Nat := [7, 11, 15, 19, 21]
theorem pch_3 : pch 3 5 pl_3 = true := by decide +kernel
theorem pg0_3 : pgap 3 0 5 = true := by decide +kernel
theorem psm_3 : psame 3 5 (fun _ i => i) = true := by decide +kernel
def pl_4 : List Nat := [30, 39, 45, 54, 57, 75, 78, 99, 108, 114, 120, 135, 141, 147, 156, 177, 180, 198, 201, 210, 216, 225, 228]
theorem pch_4 : pch 4 27 pl_4 = true := by decide +kernel
theorem pg0_4 : pgap 4 0 27 = true := by decide +kernel
theorem psm_4 : psame 4 27 (fun _ i => i) = true := by decide +kernel
def pl_5 : List Nat := [198, 214, 222, 238, 242, 294, 298, 334, 346, 358, 366, 414, 422, 434, 446, 482, 486, 538, 542, 558, 566, 582, 586, 694, 698, 714, 722, 738, 742, 894, 898, 954, 970, 978, 990, 1014, 1022, 1054, 1070, 1102, 1110, 1138, 1142, 1178, 1190, 1202, 1210, 1294, 1298, 1334, 1346, 1358, 1366, 1394, 1398, 1454, 1470, 1478, 1490, 1634, 1646, 1654, 1670, 1726, 1730, 1758, 1766, 1778, 1790, 1826, 1830, 1914, 1922, 1934, 1946, 1982, 1986, 2014, 2022, 2054, 2070, 2102, 2110, 2134, 2146, 2154, 2170, 2226, 2230, 2382, 2386, 2402, 2410, 2426, 2430, 2538, 2542, 2558, 2566, 2582, 2586, 2638, 2642, 2678, 2690, 2702, 2710, 2758, 2766, 2778, 2790, 2826, 2830, 2882, 2886, 2902, 2910, 2926, 2930]
theorem pch_5 : pch 5 194 pl_5 = true := by decide +kernel
theorem pg0_5 : pgap 5 0 194 = true := by decide +kernel
theorem psm_5 : psame 5 194 (fun _ i => i) = true := by decide +kernel
theorem pgap_all {nn a : Nat} : ∀ {k : Nat}, pgap nn a k = true → ∀ c, a ≤ c → c < a + k → pall nn c = false
  | 0, _, c, h0, h1 => absurd h1 (by omega)
  | k + 1, h, c, h0, h1 => by
    rw [pgap, Bool.and_eq_true, Bool.not_eq_true'] at h
    by_cases e : c = a + k
    · rw [e]; exact h.1
    · exact pgap_all h.2 c h0 (by omega)
theorem psame_all {nn c : Nat} {τ : zG} (h : psame nn c τ = true) (j : Nat) (hj : j < nn) : τ 95 (j : Int) = (pd nn c j : Int) := by
  unfold psame at h
  have := List.all_eq_true.mp h j (List.mem_range.mpr hj)
  exact of_decide_eq_true this
theorem pall_iff {nn c : Nat} : pall nn c = true ↔ ∀ i, i < nn → ∃ j, j < nn ∧ pd nn c j = i := by
  unfold pall
  rw [List.all_eq_true]
  constructor
  · intro h i hi
    have := h i (List.mem_range.mpr hi)
    rw [List.any_eq_true] at this
    obtain ⟨j, j0, j1⟩ := this
    exact ⟨j, List.mem_range.mp j0, Nat.eq_of_beq_eq_true j1⟩
  · intro h i hi
    obtain ⟨j, j0, j1⟩ := h i (List.mem_range.mp hi)
    rw [List.any_eq_true]
    exact ⟨j, List.mem_range.mpr j0, by rw [j1]; exact Nat.beq_refl i⟩
/-- the order that comes first, and those behind it -/
theorem p_start {nn : Nat} (h1 : 1 ≤ nn) (h5 : nn ≤ 5) : ∃ (c : Nat) (l : List Nat), pch nn c l = true ∧ pgap nn 0 c = true ∧ (∀ j, j < nn → pd nn c j = j) ∧ l.length < 120 := by
  rcases (show nn = 1 ∨ nn = 2 ∨ nn = 3 ∨ nn = 4 ∨ nn = 5 by omega) with rfl | rfl | rfl | rfl | rfl
  · exact ⟨0, pl_1, pch_1, pg0_1, fun j hj => by have := psame_all psm_1 j hj; omega, by decide⟩
  · exact ⟨1, pl_2, pch_2, pg0_2, fun j hj => by have := psame_all psm_2 j hj; omega, by decide⟩
  · exact ⟨5, pl_3, pch_3, pg0_3, fun j hj => by have := psame_all psm_3 j hj; omega, by decide⟩
  · exact ⟨27, pl_4, pch_4, pg0_4, fun j hj => by have := psame_all psm_4 j hj; omega, by decide⟩
  · exact ⟨194, pl_5, pch_5, pg0_5, fun j hj => by have := psame_all psm_5 j hj; omega, by decide⟩
/-- what the next order hangs on -/
theorem nt7 {nn : Int} {σ τ : zG} (h : ∀ j : Int, 0 ≤ j → j < nn → σ 95 j = τ 95 j) : ∀ (n : Nat) (lw : Int), lw + 1 < nn → (S_X8_nextTurns_7 n lw σ).1 = (S_X8_nextTurns_7 n lw τ).1 ∧ (S_X8_nextTurns_7 n lw σ).1 ≤ lw
  | 0, lw, _ => ⟨rfl, Int.le_refl _⟩
  | n + 1, lw, hl => by
    rw [S_X8_nextTurns_7, S_X8_nextTurns_7]
    by_cases c : lw < 0
    · rw [if_pos c, if_pos c]; exact ⟨rfl, Int.le_refl _⟩
    · rw [if_neg c, if_neg c, h lw (by omega) (by omega), h (lw + 1) (by omega) (by omega)]
      split
      · exact ⟨rfl, Int.le_refl _⟩
      · have := nt7 h n (lw + (-1)) (by omega)
        exact ⟨this.1, by omega⟩
theorem nt47 {nn lw : Int} {σ τ : zG} (h : ∀ j : Int, 0 ≤ j → j < nn → σ 95 j = τ 95 j) (l0 : 0 ≤ lw) (l1 : lw < nn) : ∀ (n : Nat) (hg : Int), lw ≤ hg → hg < nn → (S_X8_nextTurns_47 lw n hg σ).1 = (S_X8_nextTurns_47 lw n hg τ).1 ∧ (S_X8_nextTurns_47 lw n hg σ).1 ≤ hg ∧ lw ≤ (S_X8_nextTurns_47 lw n hg σ).1
  | 0, hg, h0, _ => ⟨rfl, Int.le_refl _, h0⟩
  | n + 1, hg, h0, h1 => by
    rw [S_X8_nextTurns_47, S_X8_nextTurns_47]
    by_cases c : hg ≤ lw
    · rw [if_pos c, if_pos c]; exact ⟨rfl, Int.le_refl _, h0⟩
    · rw [if_neg c, if_neg c, h lw l0 l1, h hg (by omega) h1]
      split
      · exact ⟨rfl, Int.le_refl _, h0⟩
      · have := nt47 h l0 l1 n (hg + (-1)) (by omega) (by omega)
        exact ⟨this.1, by omega, this.2.2⟩
theorem swap_cg {nn : Int} {σ τ : zG} (h : ∀ j : Int, 0 ≤ j → j < nn → σ 95 j = τ 95 j) {a b : Int} (a0 : 0 ≤ a) (a1 : a < nn) (b0 : 0 ≤ b) (b1 : b < nn) : ∀ j : Int, 0 ≤ j → j < nn → F_X8_swap σ a b 95 j = F_X8_swap τ a b 95 j := by
  intro j j0 j1
  unfold F_X8_swap
  rw [zu_if, zu_if, zu_if, zu_if, h a a0 a1, h b b0 b1, h j j0 j1]
theorem nt91 {nn : Int} : ∀ (n : Nat) (a b : Int) (σ τ : zG), (∀ j : Int, 0 ≤ j → j < nn → σ 95 j = τ 95 j) → 0 ≤ a → b < nn → (L_X8_nextTurns_91 n a b σ).1 = (L_X8_nextTurns_91 n a b τ).1 ∧ ∀ j : Int, 0 ≤ j → j < nn → (L_X8_nextTurns_91 n a b σ).2 95 j = (L_X8_nextTurns_91 n a b τ).2 95 j
  | 0, a, b, σ, τ, h, _, _ => ⟨rfl, h⟩
  | n + 1, a, b, σ, τ, h, h0, h1 => by
    rw [L_X8_nextTurns_91, L_X8_nextTurns_91]
    by_cases c : b ≤ a
    · rw [if_pos c, if_pos c]; exact ⟨rfl, h⟩
    · rw [if_neg c, if_neg c]
      exact nt91 n (a + 1) (b + (-1)) _ _ (swap_cg h h0 (by omega) (by omega) h1) (by omega) (by omega)
theorem nt_cg {nn : Int} {σ τ : zG} (h1 : 1 ≤ nn) (e1 : σ 91 0 = nn) (e2 : τ 91 0 = nn) (h : ∀ j : Int, 0 ≤ j → j < nn → σ 95 j = τ 95 j) : (R_X8_nextTurns σ).1 = (R_X8_nextTurns τ).1 ∧ ∀ j : Int, 0 ≤ j → j < nn → (R_X8_nextTurns σ).2 95 j = (R_X8_nextTurns τ).2 95 j := by
  have s7 : ∀ (n : Nat) (lw : Int) (ρ : zG), (S_X8_nextTurns_7 n lw ρ).2 = ρ := fun n lw ρ => funext fun k => fr_S_X8_nextTurns_7 n lw ρ (by simp)
  have s47 : ∀ (n : Nat) (lw hg : Int) (ρ : zG), (S_X8_nextTurns_47 lw n hg ρ).2 = ρ := fun n lw hg ρ => funext fun k => fr_S_X8_nextTurns_47 lw n hg ρ (by simp)
  unfold R_X8_nextTurns
  rw [s7, s7, s47, s47, e1, e2]
  have a := nt7 h 10 (nn - 2) (by omega)
  rw [← a.1]
  generalize (S_X8_nextTurns_7 10 (nn - 2) σ).1 = lw at *
  by_cases c : 0 ≤ lw
  · rw [if_pos c, if_pos c]
    have b := nt47 h c (by omega) 10 (nn - 1) (by omega) (by omega)
    rw [← b.1]
    generalize (S_X8_nextTurns_47 lw 10 (nn - 1) σ).1 = hg at *
    exact nt91 10 _ _ _ _ (swap_cg h c (by omega) (by omega) (by omega)) (by omega) (by omega)
  · rw [if_neg c, if_neg c]
    exact ⟨rfl, h⟩
/-- the next order of a state whose order is a counter's -/
theorem nt_pd {nn c : Nat} {σ : zG} (h1 : 1 ≤ nn) (e1 : σ 91 0 = (nn : Int)) (h : ∀ j : Nat, j < nn → σ 95 (j : Int) = (pd nn c j : Int)) : (R_X8_nextTurns σ).1 = (R_X8_nextTurns (pst nn c)).1 ∧ ∀ j : Nat, j < nn → (R_X8_nextTurns σ).2 95 (j : Int) = (R_X8_nextTurns (pst nn c)).2 95 (j : Int) := by
  have := nt_cg (nn := (nn : Int)) (σ := σ) (τ := pst nn c) (by omega) e1 (by simp [pst]) (fun j j0 j1 => by
    obtain ⟨i, rfl⟩ := toN2 j0
    rw [h i (by omega)]
    simp [pst])
  exact ⟨this.1, fun j hj => this.2 j (by omega) (by omega)⟩
