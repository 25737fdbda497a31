/-! pure: feasts as choices: of each debt a fact, or 15 -/
def FS (w : Int → Int → Int) (g : Int → Int) : Nat → Int → Int
  | 0, _ => 0
  | m + 1, k => w k (g k) + FS w g m (k + 1)
theorem FS_cg {w : Int → Int → Int} {g g' : Int → Int} : ∀ (m : Nat) (k : Int), (∀ j : Int, k ≤ j → j < k + (m : Int) → g j = g' j) → FS w g m k = FS w g' m k
  | 0, k, _ => rfl
  | m + 1, k, h => by
    simp only [FS]
    rw [h k (Int.le_refl _) (by omega), FS_cg m (k + 1) (fun j j0 j1 => h j (by omega) (by omega))]
theorem FS_upd {w : Int → Int → Int} {g : Int → Int} {i x : Int} : ∀ (m : Nat) (k : Int), k ≤ i → i < k + (m : Int) → FS w (fun j => if j = i then x else g j) m k = FS w g m k - w i (g i) + w i x
  | 0, k, h0, h1 => absurd h1 (by omega)
  | m + 1, k, h0, h1 => by
    simp only [FS]
    by_cases e : k = i
    · subst e
      rw [if_pos rfl, FS_cg (g' := g) m (k + 1) (fun j j0 j1 => if_neg (by omega))]
      omega
    · rw [if_neg e, FS_upd m (k + 1) (by omega) (by omega)]
      omega
/-- how much a digit weighs that stands ahead of debt k -/
def q16 (k : Int) : Int := ((16 ^ (8 - k).toNat : Nat) : Int)
theorem q16_s {k : Int} (h0 : 0 ≤ k) (h1 : k < 8) : q16 k = 16 * q16 (k + 1) := by
  unfold q16
  rw [show (8 - k).toNat = (8 - (k + 1)).toNat + 1 by omega, Nat.pow_succ]
  omega
theorem q16_1 (k : Int) : 1 ≤ q16 k := by
  unfold q16
  have := Nat.pow_pos (a := 16) (n := (8 - k).toNat) (by decide)
  omega
theorem q16_t {k : Int} (h0 : 0 ≤ k) : q16 k ≤ 4294967296 := by
  unfold q16
  have := Nat.pow_le_pow_right (n := 16) (by decide) (show (8 - k).toNat ≤ 8 by omega)
  have e : (16 : Nat) ^ 8 = 4294967296 := by decide
  omega
def wu (_ d : Int) : Int := if d = 15 then 1 else 0
def wh (h : Int → Int) (_ d : Int) : Int := if d = 15 then 0 else h d
def wd (k d : Int) : Int := d * q16 (k + 1)
theorem wu_p (k : Int) {d : Int} (e : d = 15) : wu k d = 1 := if_pos e
theorem wu_n (k : Int) {d : Int} (e : ¬ d = 15) : wu k d = 0 := if_neg e
theorem wh_p {h : Int → Int} (k : Int) {d : Int} (e : d = 15) : wh h k d = 0 := if_pos e
theorem wh_n {h : Int → Int} (k : Int) {d : Int} (e : ¬ d = 15) : wh h k d = h d := if_neg e
theorem wd_e (k d : Int) : wd k d = d * q16 (k + 1) := rfl
/-- one number for a choice, from debt k on: unpaid ahead of hurt ahead of the digits -/
def ck (h : Int → Int) (g : Int → Int) (m : Nat) (k : Int) : Int := FS wu g m k * 4398046511104 + FS (wh h) g m k * 4294967296 + FS wd g m k
/-- the model's number for it -/
def cv (h : Int → Int) (g : Int → Int) (m : Nat) (k : Int) : Int := 100000 * ((m : Int) - FS wu g m k) - FS (wh h) g m k
/-- a digit is a fact or 15 -/
def DG (F d : Int) : Prop := d = 15 ∨ (0 ≤ d ∧ d < F)
theorem FS_bd {F : Int} {h g : Int → Int} (hF : F ≤ 12) (hh : ∀ f : Int, 0 ≤ f → f < F → 0 ≤ h f ∧ h f ≤ 99) : ∀ (m : Nat) (k : Int), 0 ≤ k → k + (m : Int) ≤ 8 → (∀ j : Int, k ≤ j → j < k + (m : Int) → DG F (g j)) → (0 ≤ FS wu g m k ∧ FS wu g m k ≤ (m : Int)) ∧ (0 ≤ FS (wh h) g m k ∧ FS (wh h) g m k ≤ 99 * (m : Int)) ∧ 0 ≤ FS wd g m k ∧ FS wd g m k < q16 k
  | 0, k, _, _, _ => by
    have := q16_1 k
    simp only [FS]
    omega
  | m + 1, k, k0, k8, hg => by
    obtain ⟨a, b, c, d⟩ := FS_bd hF hh m (k + 1) (by omega) (by omega) (fun j j0 j1 => hg j (by omega) (by omega))
    have gk := hg k (Int.le_refl _) (by omega)
    have s := q16_s k0 (by omega)
    have p := q16_1 (k + 1)
    simp only [FS]
    have m0 : 0 ≤ g k := by rcases gk with e | e <;> omega
    have m1 : g k ≤ 15 := by rcases gk with e | e <;> omega
    have x0 : 0 ≤ g k * q16 (k + 1) := Int.mul_nonneg m0 (by omega)
    have x1 : g k * q16 (k + 1) ≤ 15 * q16 (k + 1) := Int.mul_le_mul_of_nonneg_right m1 (by omega)
    by_cases e : g k = 15
    · rw [wu_p _ e, wh_p _ e, wd_e]
      refine ⟨by omega, by omega, by omega, by omega⟩
    · rw [wu_n _ e, wh_n _ e, wd_e]
      have hk := hh (g k) m0 (by rcases gk with e2 | e2 <;> omega)
      refine ⟨by omega, by omega, by omega, by omega⟩
/-- choices from debt k on, without the facts of a set -/
def VF (n F : Int) (may : Int → Int → Prop) (k st : Int) (g : Int → Int) : Prop := (∀ j : Int, k ≤ j → j < n → g j = 15 ∨ ((0 ≤ g j ∧ g j < F) ∧ may j (g j) ∧ ¬ hb st (g j))) ∧ ∀ i j : Int, k ≤ i → i < n → k ≤ j → j < n → g i = g j → g i ≠ 15 → i = j
theorem VF_DG {n F k st : Int} {may : Int → Int → Prop} {g : Int → Int} (h : VF n F may k st g) (j : Int) (j0 : k ≤ j) (j1 : j < n) : DG F (g j) := by
  rcases h.1 j j0 j1 with e | e
  · exact Or.inl e
  · exact Or.inr e.1
theorem VF_step {n F k st : Int} {may : Int → Int → Prop} {g : Int → Int} (hF : F ≤ 12) (hst : 0 ≤ st ∧ st < 4096) (h : VF n F may k st g) (hk : k < n) : (g k = 15 ∧ VF n F may (k + 1) st g) ∨ ((0 ≤ g k ∧ g k < F) ∧ may k (g k) ∧ ¬ hb st (g k) ∧ VF n F may (k + 1) (bor st (bshl 1 (g k))) g) := by
  rcases h.1 k (Int.le_refl _) hk with e | ⟨e1, e2, e3⟩
  · exact Or.inl ⟨e, fun j j0 j1 => h.1 j (by omega) j1, fun i j i0 i1 j0 j1 => h.2 i j (by omega) i1 (by omega) j1⟩
  · refine Or.inr ⟨e1, e2, e3, fun j j0 j1 => ?_, fun i j i0 i1 j0 j1 => h.2 i j (by omega) i1 (by omega) j1⟩
    rcases h.1 j (by omega) j1 with a | ⟨a1, a2, a3⟩
    · exact Or.inl a
    · refine Or.inr ⟨a1, a2, fun b => ?_⟩
      rw [hb_bor hst (bit_r ⟨e1.1, by omega⟩) ⟨a1.1, by omega⟩, hb_bit ⟨e1.1, by omega⟩ ⟨a1.1, by omega⟩] at b
      rcases b with b | b
      · exact a3 b
      · have := h.2 j k (by omega) j1 (Int.le_refl _) hk b (by omega)
        omega
theorem VF_none {n F k st : Int} {may : Int → Int → Prop} {g : Int → Int} (e : g k = 15) (h : VF n F may (k + 1) st g) : VF n F may k st g := by
  refine ⟨fun j j0 j1 => ?_, fun i j i0 i1 j0 j1 e1 e2 => ?_⟩
  · by_cases x : j = k
    · rw [x]; exact Or.inl e
    · exact h.1 j (by omega) j1
  · by_cases x : i = k
    · rw [x] at e2; exact absurd e e2
    · by_cases y : j = k
      · rw [y, e] at e1; exact absurd e1 e2
      · exact h.2 i j (by omega) i1 (by omega) j1 e1 e2
theorem VF_some {n F k st : Int} {may : Int → Int → Prop} {g : Int → Int} (hF : F ≤ 12) (hst : 0 ≤ st ∧ st < 4096) (e1 : 0 ≤ g k ∧ g k < F) (e2 : may k (g k)) (e3 : ¬ hb st (g k)) (h : VF n F may (k + 1) (bor st (bshl 1 (g k))) g) : VF n F may k st g := by
  have av : ∀ j : Int, k + 1 ≤ j → j < n → g j = 15 ∨ ((0 ≤ g j ∧ g j < F) ∧ may j (g j) ∧ ¬ hb st (g j) ∧ g j ≠ g k) := by
    intro j j0 j1
    rcases h.1 j j0 j1 with a | ⟨a1, a2, a3⟩
    · exact Or.inl a
    · rw [hb_bor hst (bit_r ⟨e1.1, by omega⟩) ⟨a1.1, by omega⟩, hb_bit ⟨e1.1, by omega⟩ ⟨a1.1, by omega⟩] at a3
      exact Or.inr ⟨a1, a2, fun x => a3 (Or.inl x), fun x => a3 (Or.inr x)⟩
  refine ⟨fun j j0 j1 => ?_, fun i j i0 i1 j0 j1 x1 x2 => ?_⟩
  · by_cases x : j = k
    · rw [x]; exact Or.inr ⟨e1, e2, e3⟩
    · rcases av j (by omega) j1 with a | ⟨a1, a2, a3, _⟩
      · exact Or.inl a
      · exact Or.inr ⟨a1, a2, a3⟩
  · by_cases x : i = k
    · by_cases y : j = k
      · omega
      · rcases av j (by omega) j1 with a | ⟨_, _, _, a4⟩
        · rw [a] at x1; exact absurd x1 x2
        · rw [x] at x1; exact absurd x1.symm a4
    · by_cases y : j = k
      · rcases av i (by omega) i1 with a | ⟨_, _, _, a4⟩
        · exact absurd a x2
        · rw [y] at x1; exact absurd x1 a4
      · exact h.2 i j (by omega) i1 (by omega) j1 x1 x2
/-- the model's table: nothing is greater, and what stands there is reached -/
def RU (n F : Int) (may : Int → Int → Prop) (h : Int → Int) (rest : Int → Int → Int) : Prop := (∀ st : Int, 0 ≤ st → st < 4096 → rest n st = 0) ∧ ∀ k st : Int, 0 ≤ k → k < n → 0 ≤ st → st < 4096 → (rest (k + 1) st ≤ rest k st ∧ ∀ f : Int, 0 ≤ f → f < F → ¬ hb st f → may k f → 100000 - h f + rest (k + 1) (bor st (bshl 1 f)) ≤ rest k st) ∧ (rest k st = rest (k + 1) st ∨ ∃ f : Int, (0 ≤ f ∧ f < F) ∧ ¬ hb st f ∧ may k f ∧ rest k st = 100000 - h f + rest (k + 1) (bor st (bshl 1 f)))
/-- the choice that takes the first fact that keeps the greatest -/
def GRD (F : Int) (may : Int → Int → Prop) (h : Int → Int) (rest : Int → Int → Int) (gm : Int → Int) : Nat → Int → Int → Prop
  | 0, _, _ => True
  | m + 1, k, st => (gm k = 15 ∧ (∀ f : Int, 0 ≤ f → f < F → ¬ hb st f → may k f → 100000 - h f + rest (k + 1) (bor st (bshl 1 f)) ≠ rest k st) ∧ GRD F may h rest gm m (k + 1) st) ∨ ((0 ≤ gm k ∧ gm k < F) ∧ ¬ hb st (gm k) ∧ may k (gm k) ∧ 100000 - h (gm k) + rest (k + 1) (bor st (bshl 1 (gm k))) = rest k st ∧ (∀ f : Int, 0 ≤ f → f < gm k → ¬ hb st f → may k f → 100000 - h f + rest (k + 1) (bor st (bshl 1 f)) ≠ rest k st) ∧ GRD F may h rest gm m (k + 1) (bor st (bshl 1 (gm k))))
theorem cv_le {n F : Int} {may : Int → Int → Prop} {h : Int → Int} {rest : Int → Int → Int} (hF : F ≤ 12) (hR : RU n F may h rest) {g : Int → Int} : ∀ (m : Nat) (k st : Int), 0 ≤ k → k + (m : Int) = n → 0 ≤ st ∧ st < 4096 → VF n F may k st g → cv h g m k ≤ rest k st
  | 0, k, st, k0, e, hst, _ => by
    have : k = n := by omega
    rw [this, hR.1 st hst.1 hst.2]
    simp only [cv, FS]
    decide
  | m + 1, k, st, k0, e, hst, hv => by
    have r := hR.2 k st k0 (by omega) hst.1 hst.2
    unfold cv
    simp only [FS]
    rcases VF_step hF hst hv (by omega) with ⟨e1, e2⟩ | ⟨e1, e2, e3, e4⟩
    · have i := cv_le hF hR m (k + 1) st (by omega) (by omega) hst e2
      unfold cv at i
      simp only [wu, wh]
      rw [if_pos e1, if_pos e1]
      have := r.1.1
      omega
    · have i := cv_le hF hR m (k + 1) _ (by omega) (by omega) (bor_r hst (bit_r ⟨e1.1, by omega⟩)) e4
      unfold cv at i
      simp only [wu, wh]
      rw [if_neg (show ¬ g k = 15 by omega), if_neg (show ¬ g k = 15 by omega)]
      have := r.1.2 (g k) e1.1 e1.2 e3 e2
      omega
theorem dig_lt {a b p x y : Int} (h : a < b) (hp : 1 ≤ p) (hx : x < p) (hy : 0 ≤ y) : a * p + x < b * p + y := by
  have : (a + 1) * p ≤ b * p := Int.mul_le_mul_of_nonneg_right (by omega) (by omega)
  rw [Int.add_mul] at this
  omega
theorem greedy_opt {n F : Int} {may : Int → Int → Prop} {h : Int → Int} {rest : Int → Int → Int} {gm : Int → Int} (hF : F ≤ 12) (hn : n ≤ 8) (hh : ∀ f : Int, 0 ≤ f → f < F → 0 ≤ h f ∧ h f ≤ 99) (hR : RU n F may h rest) : ∀ (m : Nat) (k st : Int), 0 ≤ k → k + (m : Int) = n → 0 ≤ st ∧ st < 4096 → GRD F may h rest gm m k st → VF n F may k st gm ∧ cv h gm m k = rest k st ∧ ∀ g : Int → Int, VF n F may k st g → ck h gm m k ≤ ck h g m k
  | 0, k, st, k0, e, hst, _ => by
    have : k = n := by omega
    refine ⟨⟨fun j j0 j1 => absurd j1 (by omega), fun i j i0 i1 => absurd i1 (by omega)⟩, ?_, fun g _ => Int.le_refl _⟩
    rw [this, hR.1 st hst.1 hst.2]
    simp only [cv, FS]
    decide
  | m + 1, k, st, k0, e, hst, hg => by
    have r := hR.2 k st k0 (by omega) hst.1 hst.2
    have q1 := q16_1 (k + 1)
    have qt := q16_t (k := k + 1) (by omega)
    have qs := q16_s k0 (by omega)
    have qt0 := q16_t k0
    -- two choices as sums
    have bds : ∀ g : Int → Int, VF n F may k st g → (0 ≤ FS wu g m (k + 1) ∧ FS wu g m (k + 1) ≤ (m : Int)) ∧ (0 ≤ FS (wh h) g m (k + 1) ∧ FS (wh h) g m (k + 1) ≤ 99 * (m : Int)) ∧ 0 ≤ FS wd g m (k + 1) ∧ FS wd g m (k + 1) < q16 (k + 1) := fun g hv => FS_bd hF hh m (k + 1) (by omega) (by omega) (fun j j0 j1 => VF_DG hv j (by omega) (by omega))
    have bd2 : ∀ g : Int → Int, VF n F may k st g → (0 ≤ FS wu g (m + 1) k ∧ FS wu g (m + 1) k ≤ ((m + 1 : Nat) : Int)) ∧ (0 ≤ FS (wh h) g (m + 1) k ∧ FS (wh h) g (m + 1) k ≤ 99 * ((m + 1 : Nat) : Int)) ∧ 0 ≤ FS wd g (m + 1) k ∧ FS wd g (m + 1) k < q16 k := fun g hv => FS_bd hF hh (m + 1) k k0 (by omega) (fun j j0 j1 => VF_DG hv j j0 (by omega))
    have less : ∀ g g' : Int → Int, VF n F may k st g → VF n F may k st g' → cv h g' (m + 1) k < cv h g (m + 1) k → ck h g (m + 1) k ≤ ck h g' (m + 1) k := by
      intro g g' a b c
      have b1 := bd2 g a
      have b2 := bd2 g' b
      unfold cv at c
      unfold ck
      generalize FS wu g (m + 1) k = U at *
      generalize FS wu g' (m + 1) k = U' at *
      generalize FS (wh h) g (m + 1) k = H at *
      generalize FS (wh h) g' (m + 1) k = H' at *
      generalize FS wd g (m + 1) k = D at *
      generalize FS wd g' (m + 1) k = D' at *
      clear bds bd2 r hg hR hh
      omega
    have tie : ∀ g g' : Int → Int, VF n F may k st g → VF n F may k st g' → cv h g' (m + 1) k = cv h g (m + 1) k → g k < g' k → ck h g (m + 1) k ≤ ck h g' (m + 1) k := by
      intro g g' a b c d
      have b1 := bd2 g a
      have b2 := bd2 g' b
      have c1 := bds g a
      have c2 := bds g' b
      have dl : FS wd g (m + 1) k < FS wd g' (m + 1) k := by
        simp only [FS, wd]
        exact dig_lt d q1 c1.2.2.2 c2.2.2.1
      unfold cv at c
      unfold ck
      generalize FS wu g (m + 1) k = U at *
      generalize FS wu g' (m + 1) k = U' at *
      generalize FS (wh h) g (m + 1) k = H at *
      generalize FS (wh h) g' (m + 1) k = H' at *
      generalize FS wd g (m + 1) k = D at *
      generalize FS wd g' (m + 1) k = D' at *
      clear bds bd2 r hg hR hh less c1 c2
      omega
    have same : ∀ g g' : Int → Int, g k = g' k → ck h g m (k + 1) ≤ ck h g' m (k + 1) → ck h g (m + 1) k ≤ ck h g' (m + 1) k := by
      intro g g' a b
      unfold ck at *
      simp only [FS]
      rw [a]
      omega
    rw [GRD] at hg
    rcases hg with ⟨e1, e2, e3⟩ | ⟨e1, e2, e3, e4, e5, e6⟩
    · obtain ⟨i1, i2, i3⟩ := greedy_opt hF hn hh hR m (k + 1) st (by omega) (by omega) hst e3
      have er : rest k st = rest (k + 1) st := by
        rcases r.2 with x | ⟨f, x1, x2, x3, x4⟩
        · exact x
        · exact absurd x4.symm (e2 f x1.1 x1.2 x2 x3)
      have v := VF_none (st := st) (may := may) (F := F) (n := n) e1 i1
      have vv : cv h gm (m + 1) k = rest k st := by
        rw [er, ← i2]
        unfold cv
        simp only [FS, wu, wh]
        rw [if_pos e1, if_pos e1]
        omega
      refine ⟨v, vv, fun g hv => ?_⟩
      rcases VF_step hF hst hv (by omega) with ⟨a1, a2⟩ | ⟨a1, a2, a3, a4⟩
      · exact same gm g (by rw [e1, a1]) (i3 g a2)
      · refine less gm g v hv ?_
        rw [vv]
        have c1 := cv_le hF hR m (k + 1) _ (by omega) (by omega) (bor_r hst (bit_r ⟨a1.1, by omega⟩)) a4
        have c2 := e2 (g k) a1.1 a1.2 a3 a2
        have c3 := r.1.2 (g k) a1.1 a1.2 a3 a2
        unfold cv at *
        simp only [FS, wu, wh]
        rw [if_neg (show ¬ g k = 15 by omega), if_neg (show ¬ g k = 15 by omega)]
        omega
    · have hst2 := bor_r hst (bit_r (c := gm k) ⟨e1.1, by omega⟩)
      obtain ⟨i1, i2, i3⟩ := greedy_opt hF hn hh hR m (k + 1) _ (by omega) (by omega) hst2 e6
      have v := VF_some hF hst e1 e3 e2 i1
      have vv : cv h gm (m + 1) k = rest k st := by
        rw [← e4, ← i2]
        unfold cv
        simp only [FS, wu, wh]
        rw [if_neg (show ¬ gm k = 15 by omega), if_neg (show ¬ gm k = 15 by omega)]
        omega
      refine ⟨v, vv, fun g hv => ?_⟩
      have le := cv_le hF hR (m + 1) k st k0 e hst hv
      by_cases lt : cv h g (m + 1) k < rest k st
      · exact less gm g v hv (by rw [vv]; exact lt)
      · have eq : cv h g (m + 1) k = cv h gm (m + 1) k := by rw [vv]; omega
        rcases VF_step hF hst hv (by omega) with ⟨a1, a2⟩ | ⟨a1, a2, a3, a4⟩
        · exact tie gm g v hv eq (by omega)
        · have c1 := cv_le hF hR m (k + 1) _ (by omega) (by omega) (bor_r hst (bit_r ⟨a1.1, by omega⟩)) a4
          have c3 := r.1.2 (g k) a1.1 a1.2 a3 a2
          have c4 : 100000 - h (g k) + rest (k + 1) (bor st (bshl 1 (g k))) = rest k st := by
            have eq2 := eq
            rw [vv] at eq2
            unfold cv at c1 eq2
            simp only [FS, wu, wh] at eq2
            rw [if_neg (show ¬ g k = 15 by omega), if_neg (show ¬ g k = 15 by omega)] at eq2
            omega
          have ge : ¬ g k < gm k := fun x => e5 (g k) a1.1 x a3 a2 c4
          by_cases ek : gm k = g k
          · rw [← ek] at a4
            exact same gm g ek (i3 g a4)
          · exact tie gm g v hv eq (by omega)
/-- choices of one number are one choice -/
theorem ck_inj {F : Int} {h : Int → Int} (hF : F ≤ 12) (hh : ∀ f : Int, 0 ≤ f → f < F → 0 ≤ h f ∧ h f ≤ 99) {g g' : Int → Int} : ∀ (m : Nat) (k : Int), 0 ≤ k → k + (m : Int) ≤ 8 → (∀ j : Int, k ≤ j → j < k + (m : Int) → DG F (g j)) → (∀ j : Int, k ≤ j → j < k + (m : Int) → DG F (g' j)) → FS wd g m k = FS wd g' m k → ∀ j : Int, k ≤ j → j < k + (m : Int) → g j = g' j
  | 0, k, _, _, _, _, _, j, j0, j1 => absurd j1 (by omega)
  | m + 1, k, k0, k8, hg, hg', e, j, j0, j1 => by
    have a := (FS_bd hF hh m (k + 1) (by omega) (by omega) (fun j j0 j1 => hg j (by omega) (by omega))).2.2
    have b := (FS_bd hF hh m (k + 1) (by omega) (by omega) (fun j j0 j1 => hg' j (by omega) (by omega))).2.2
    have q1 := q16_1 (k + 1)
    simp only [FS, wd] at e
    have ek : g k = g' k := by
      rcases Int.lt_trichotomy (g k) (g' k) with x | x | x
      · have := dig_lt x q1 a.2 b.1
        omega
      · exact x
      · have := dig_lt x q1 b.2 a.1
        omega
    by_cases x : j = k
    · rw [x]; exact ek
    · refine ck_inj hF hh m (k + 1) (by omega) (by omega) (fun j j0 j1 => hg j (by omega) (by omega)) (fun j j0 j1 => hg' j (by omega) (by omega)) ?_ j (by omega) (by omega)
      rw [ek] at e
      omega
