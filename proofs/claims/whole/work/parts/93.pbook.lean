/-! pure: a book as a picture -/
/-- a line as it may stand in a book of P people and F facts -/
def LV (P F wh on an f ex tu : Int) : Prop := (0 ≤ wh ∧ wh ≤ 4) ∧ (wh ≠ 0 → (0 ≤ on ∧ on < P) ∧ (0 ≤ an ∧ an < P) ∧ on ≠ an ∧ (0 ≤ f ∧ f < F)) ∧ (wh = 1 → (0 ≤ ex ∧ ex < 256) ∧ (∀ j : Int, P ≤ j → j < 8 → ¬ hb ex j) ∧ pcn ex ≤ 6 ∧ ∀ k : Int, 0 ≤ k → k < pcn ex → 0 ≤ band (bshr tu (3 * k)) 7 ∧ band (bshr tu (3 * k)) 7 < P) ∧ (wh = 4 → 0 ≤ ex ∧ ex ≤ 99)
/-- a line on both sides -/
def BL (k w o f m t L O : Int → Int) (P F i : Int) : Prop := (k i = L (5 * i) ∧ w i = L (5 * i + 1) ∧ o i = L (5 * i + 2) ∧ f i = L (5 * i + 3) ∧ m i = L (5 * i + 4) ∧ t i = O i) ∧ LV P F (L (5 * i)) (L (5 * i + 1)) (L (5 * i + 2)) (L (5 * i + 3)) (L (5 * i + 4)) (O i)
/-- the days -/
def BY (k w d : Int → Int) (n ld : Int) : Prop := (∀ i : Int, 0 ≤ i → i < n → (k i = 0 → d i = w i) ∧ (k i ≠ 0 → d i = if i = 0 then 0 else d (i - 1))) ∧ ld = (if n = 0 then 0 else d (n - 1)) ∧ (∀ i j : Int, 0 ≤ i → i ≤ j → j < n → d i ≤ d j) ∧ ∀ i : Int, 0 ≤ i → i < n → 0 ≤ d i ∧ d i ≤ 999
def BB (k w o f m t d : Int → Int) (n ld : Int) (L O : Int → Int) (P F : Int) : Prop := (0 ≤ n ∧ n ≤ 60) ∧ (∀ i : Int, 0 ≤ i → i < n → BL k w o f m t L O P F i) ∧ BY k w d n ld
def dk (wh ex : Int) : Int := if wh = 1 then 1 + pcn ex else if wh = 2 then 1 else 0
/-- how many debts there can be -/
def ds (L : Int → Int) : Nat → Int
  | 0 => 0
  | n + 1 => ds L n + dk (L (5 * (n : Int))) (L (5 * (n : Int) + 4))
theorem ds_c {L L' : Int → Int} : ∀ n : Nat, (∀ j : Int, 0 ≤ j → j < 5 * n → L' j = L j) → ds L' n = ds L n
  | 0, _ => rfl
  | n + 1, h => by
    rw [ds, ds, ds_c n (fun j a b => h j a (by omega)), h _ (by omega) (by omega), h _ (by omega) (by omega)]
theorem ds_dsum {T L : Int → Int} : ∀ n : Nat, (∀ j : Int, 0 ≤ j → j < 5 * n → T (173 + j) = L j) → dsum T n = ds L n
  | 0, _ => rfl
  | n + 1, h => by
    have e : dl T n = dk (T (173 + 5 * (n : Int))) (T ((173 + 5 * (n : Int)) + 4)) := rfl
    rw [dsum, ds, ds_dsum n (fun j a b => h j a (by omega)), e, show (173 + 5 * (n : Int)) + 4 = 173 + (5 * (n : Int) + 4) by omega, h _ (by omega) (by omega), h _ (by omega) (by omega)]
theorem BY_ld {k w d : Int → Int} {n ld : Int} (h : BY k w d n ld) (hn : 0 ≤ n) : 0 ≤ ld ∧ ld ≤ 999 := by
  obtain ⟨_, h2, _, h4⟩ := h
  by_cases c : n = 0
  · rw [h2, if_pos c]; decide
  · rw [h2, if_neg c]; exact h4 (n - 1) (by omega) (by omega)
theorem bb_add {k w o f m t d k' w' o' f' m' t' d' : Int → Int} {n ld ld' : Int} {L O L' O' : Int → Int} {P F : Int} (h : BB k w o f m t d n ld L O P F) (hn : n < 60)
    (e : ∀ i : Int, 0 ≤ i → i < n → k' i = k i ∧ w' i = w i ∧ o' i = o i ∧ f' i = f i ∧ m' i = m i ∧ t' i = t i ∧ d' i = d i)
    (eL : ∀ j : Int, 0 ≤ j → j < 5 * n → L' j = L j) (eO : ∀ i : Int, 0 ≤ i → i < n → O' i = O i)
    (a : k' n = L' (5 * n) ∧ w' n = L' (5 * n + 1) ∧ o' n = L' (5 * n + 2) ∧ f' n = L' (5 * n + 3) ∧ m' n = L' (5 * n + 4) ∧ t' n = O' n)
    (v : LV P F (L' (5 * n)) (L' (5 * n + 1)) (L' (5 * n + 2)) (L' (5 * n + 3)) (L' (5 * n + 4)) (O' n)) (ed : d' n = ld')
    (y0 : k' n = 0 → ld' = w' n ∧ (n = 0 ∨ ld ≤ ld') ∧ 0 ≤ ld' ∧ ld' ≤ 999) (y1 : k' n ≠ 0 → ld' = ld) : BB k' w' o' f' m' t' d' (n + 1) ld' L' O' P F := by
  obtain ⟨h0, hl, hd⟩ := h
  have hr := BY_ld hd h0.1
  obtain ⟨d1, d2, d3, d4⟩ := hd
  have rng : 0 ≤ ld' ∧ ld' ≤ 999 ∧ (n = 0 ∨ ld ≤ ld') := by
    by_cases c : k' n = 0
    · have := y0 c; exact ⟨this.2.2.1, this.2.2.2, this.2.1⟩
    · have := y1 c; exact ⟨by omega, by omega, by omega⟩
  refine ⟨⟨by omega, by omega⟩, fun i i0 i1 => ?_, fun i i0 i1 => ?_, ?_, fun i j i0 ij j1 => ?_, fun i i0 i1 => ?_⟩
  · by_cases c : i = n
    · rw [c]; exact ⟨a, v⟩
    · have ei := e i i0 (by omega)
      have hb := hl i i0 (by omega)
      unfold BL at *
      rw [ei.1, ei.2.1, ei.2.2.1, ei.2.2.2.1, ei.2.2.2.2.1, ei.2.2.2.2.2.1, eL (5 * i) (by omega) (by omega), eL (5 * i + 1) (by omega) (by omega), eL (5 * i + 2) (by omega) (by omega), eL (5 * i + 3) (by omega) (by omega), eL (5 * i + 4) (by omega) (by omega), eO i i0 (by omega)]
      exact hb
  · by_cases c : i = n
    · rw [c, ed]
      refine ⟨fun x => (y0 x).1, fun x => ?_⟩
      rw [y1 x, d2]
      by_cases c0 : n = 0
      · rw [if_pos c0, if_pos c0]
      · rw [if_neg c0, if_neg c0]; exact ((e (n - 1) (by omega) (by omega)).2.2.2.2.2.2).symm
    · have ei := e i i0 (by omega)
      have hb := d1 i i0 (by omega)
      rw [ei.1, ei.2.1, ei.2.2.2.2.2.2]
      refine ⟨hb.1, fun x => ?_⟩
      rw [hb.2 x]
      by_cases c0 : i = 0
      · rw [if_pos c0, if_pos c0]
      · rw [if_neg c0, if_neg c0]; exact ((e (i - 1) (by omega) (by omega)).2.2.2.2.2.2).symm
  · rw [if_neg (by omega), show n + 1 - 1 = n by omega, ed]
  · by_cases c : j = n
    · rw [c, ed]
      by_cases ci : i = n
      · rw [ci, ed]; exact Int.le_refl _
      · rw [(e i i0 (by omega)).2.2.2.2.2.2]
        have := d3 i (n - 1) i0 (by omega) (by omega)
        rw [if_neg (by omega)] at d2
        omega
    · rw [(e i i0 (by omega)).2.2.2.2.2.2, (e j (by omega) (by omega)).2.2.2.2.2.2]
      exact d3 i j i0 ij (by omega)
  · by_cases c : i = n
    · rw [c, ed]; exact ⟨rng.1, rng.2.1⟩
    · rw [(e i i0 (by omega)).2.2.2.2.2.2]; exact d4 i i0 (by omega)
/-- the picture of a book becomes the book that stands -/
theorem bb_fin {k w o f m t d : Int → Int} {n ld : Int} {L O : Int → Int} {P F : Int} (h : BB k w o f m t d n ld L O P F) (hs : ds L n.toNat ≤ 128) {σ μ : zG}
    (a : σ 27 0 = n ∧ σ 27 1 = ld) (e : ∀ i : Int, 0 ≤ i → i < n → σ 28 i = k i ∧ σ 29 i = w i ∧ σ 30 i = o i ∧ σ 31 i = f i ∧ σ 32 i = m i ∧ σ 33 i = t i ∧ σ 34 i = d i)
    (b : μ 2 172 = n ∧ μ 2 0 = P ∧ μ 2 1 = F) (eL : ∀ j : Int, 0 ≤ j → j < 5 * n → μ 2 (173 + j) = L j) (eO : ∀ i : Int, 0 ≤ i → i < n → μ 9 i = O i) : BK σ μ ∧ DD σ := by
  obtain ⟨h0, hl, hd⟩ := h
  obtain ⟨d1, d2, d3, d4⟩ := hd
  refine ⟨⟨by omega, fun i i0 i1 => ?_, ?_⟩, fun i i0 i1 => ?_, ?_, fun i j i0 ij j1 => ?_, fun i i0 i1 => ?_⟩
  · rw [b.1] at i1
    have ei := e i i0 i1
    have hb := hl i i0 i1
    unfold LN
    unfold BL LV at hb
    rw [ei.1, ei.2.1, ei.2.2.1, ei.2.2.2.1, ei.2.2.2.2.1, ei.2.2.2.2.2.1, b.2.1, b.2.2, show (173 + 5 * i) + 1 = 173 + (5 * i + 1) by omega, show (173 + 5 * i) + 2 = 173 + (5 * i + 2) by omega, show (173 + 5 * i) + 3 = 173 + (5 * i + 3) by omega, show (173 + 5 * i) + 4 = 173 + (5 * i + 4) by omega, eL (5 * i) (by omega) (by omega), eL (5 * i + 1) (by omega) (by omega), eL (5 * i + 2) (by omega) (by omega), eL (5 * i + 3) (by omega) (by omega), eL (5 * i + 4) (by omega) (by omega), eO i i0 i1]
    exact hb
  · rw [b.1, ds_dsum n.toNat (fun j j0 j1 => eL j j0 (by omega))]; exact hs
  · rw [a.1] at i1
    have ei := e i i0 i1
    have hb := d1 i i0 i1
    unfold DYl
    rw [ei.1, ei.2.1, ei.2.2.2.2.2.2]
    refine ⟨hb.1, fun x => ?_⟩
    rw [hb.2 x]
    by_cases c0 : i = 0
    · rw [if_pos c0, if_pos c0]
    · rw [if_neg c0, if_neg c0]; exact ((e (i - 1) (by omega) (by omega)).2.2.2.2.2.2).symm
  · rw [a.1, a.2, d2]
    by_cases c0 : n = 0
    · rw [if_pos c0, if_pos c0]
    · rw [if_neg c0, if_neg c0]; exact ((e (n - 1) (by omega) (by omega)).2.2.2.2.2.2).symm
  · rw [a.1] at j1
    rw [(e i i0 (by omega)).2.2.2.2.2.2, (e j (by omega) j1).2.2.2.2.2.2]
    exact d3 i j i0 ij j1
  · rw [a.1] at i1
    rw [(e i i0 i1).2.2.2.2.2.2]
    exact d4 i i0 i1
/-- a line put on the model's side -/
theorem put_rows (μ : zG) {n : Int} (wh who ot f mo : Int) : (∀ j : Int, 0 ≤ j → j < 5 * n → F_X12_put μ (5 * n) wh who ot f mo 4 j = μ 4 j) ∧ (F_X12_put μ (5 * n) wh who ot f mo 4 (5 * n) = wh ∧ F_X12_put μ (5 * n) wh who ot f mo 4 (5 * n + 1) = who ∧ F_X12_put μ (5 * n) wh who ot f mo 4 (5 * n + 2) = ot ∧ F_X12_put μ (5 * n) wh who ot f mo 4 (5 * n + 3) = f ∧ F_X12_put μ (5 * n) wh who ot f mo 4 (5 * n + 4) = mo) ∧ (∀ i : Int, i ≠ n → F_X12_put μ (5 * n) wh who ot f mo 8 i = μ 8 i) ∧ F_X12_put μ (5 * n) wh who ot f mo 8 n = 0 := by
  have e : 5 * n / 5 = n := by omega
  unfold F_X12_put
  rw [e]
  have r : ∀ (τ : zG) (x z j : Int), zu τ 8 x z 4 j = τ 4 j := fun τ x z j => zu_ne _ _ _ _ (by decide)
  have s : ∀ (τ : zG) (x z j : Int), zu τ 4 x z 8 j = τ 8 j := fun τ x z j => zu_ne _ _ _ _ (by decide)
  refine ⟨fun j j0 j1 => ?_, ⟨?_, ?_, ?_, ?_, ?_⟩, fun i hi => ?_, ?_⟩
  · rw [r, zu_off _ _ _ (by omega), zu_off _ _ _ (by omega), zu_off _ _ _ (by omega), zu_off _ _ _ (by omega), zu_off _ _ _ (by omega)]
  · rw [r, zu_off _ _ _ (by omega), zu_off _ _ _ (by omega), zu_off _ _ _ (by omega), zu_off _ _ _ (by omega), zu_at]
  · rw [r, zu_off _ _ _ (by omega), zu_off _ _ _ (by omega), zu_off _ _ _ (by omega), zu_at]
  · rw [r, zu_off _ _ _ (by omega), zu_off _ _ _ (by omega), zu_at]
  · rw [r, zu_off _ _ _ (by omega), zu_at]
  · rw [r, zu_at]
  · rw [zu_off _ _ _ hi, s, s, s, s, s]
  · rw [zu_at]
theorem add27_rows {σ : zG} (hn : σ 27 0 < 60) (wh on an f ex tu : Int) : (F_X0_add_27 σ wh on an f ex tu 27 0 = σ 27 0 + 1 ∧ F_X0_add_27 σ wh on an f ex tu 27 1 = σ 27 1) ∧ (∀ i : Int, i ≠ σ 27 0 → F_X0_add_27 σ wh on an f ex tu 28 i = σ 28 i ∧ F_X0_add_27 σ wh on an f ex tu 29 i = σ 29 i ∧ F_X0_add_27 σ wh on an f ex tu 30 i = σ 30 i ∧ F_X0_add_27 σ wh on an f ex tu 31 i = σ 31 i ∧ F_X0_add_27 σ wh on an f ex tu 32 i = σ 32 i ∧ F_X0_add_27 σ wh on an f ex tu 33 i = σ 33 i ∧ F_X0_add_27 σ wh on an f ex tu 34 i = σ 34 i) ∧ (F_X0_add_27 σ wh on an f ex tu 28 (σ 27 0) = wh ∧ F_X0_add_27 σ wh on an f ex tu 29 (σ 27 0) = on ∧ F_X0_add_27 σ wh on an f ex tu 30 (σ 27 0) = an ∧ F_X0_add_27 σ wh on an f ex tu 31 (σ 27 0) = f ∧ F_X0_add_27 σ wh on an f ex tu 32 (σ 27 0) = ex ∧ F_X0_add_27 σ wh on an f ex tu 33 (σ 27 0) = tu ∧ F_X0_add_27 σ wh on an f ex tu 34 (σ 27 0) = σ 27 1) := by
  unfold F_X0_add_27
  rw [if_pos hn]
  refine ⟨⟨?_, ?_⟩, fun i hi => ⟨?_, ?_, ?_, ?_, ?_, ?_, ?_⟩, ?_, ?_, ?_, ?_, ?_, ?_, ?_⟩
  all_goals simp [zu]
  all_goals (intro x; exact absurd x hi)
theorem bb_add27 {σ : zG} {ld : Int} {L O L' O' : Int → Int} {P F wh on an f ex tu : Int} (h : BB (σ 28) (σ 29) (σ 30) (σ 31) (σ 32) (σ 33) (σ 34) (σ 27 0) ld L O P F) (hn : σ 27 0 < 60)
    (eL : ∀ j : Int, 0 ≤ j → j < 5 * σ 27 0 → L' j = L j) (eO : ∀ i : Int, 0 ≤ i → i < σ 27 0 → O' i = O i)
    (a : L' (5 * σ 27 0) = wh ∧ L' (5 * σ 27 0 + 1) = on ∧ L' (5 * σ 27 0 + 2) = an ∧ L' (5 * σ 27 0 + 3) = f ∧ L' (5 * σ 27 0 + 4) = ex) (aO : O' (σ 27 0) = tu) (v : LV P F wh on an f ex tu)
    (y0 : wh = 0 → σ 27 1 = on ∧ (σ 27 0 = 0 ∨ ld ≤ σ 27 1) ∧ 0 ≤ σ 27 1 ∧ σ 27 1 ≤ 999) (y1 : wh ≠ 0 → σ 27 1 = ld) :
    BB (F_X0_add_27 σ wh on an f ex tu 28) (F_X0_add_27 σ wh on an f ex tu 29) (F_X0_add_27 σ wh on an f ex tu 30) (F_X0_add_27 σ wh on an f ex tu 31) (F_X0_add_27 σ wh on an f ex tu 32) (F_X0_add_27 σ wh on an f ex tu 33) (F_X0_add_27 σ wh on an f ex tu 34) (F_X0_add_27 σ wh on an f ex tu 27 0) (F_X0_add_27 σ wh on an f ex tu 27 1) L' O' P F ∧ ds L' (F_X0_add_27 σ wh on an f ex tu 27 0).toNat = ds L (σ 27 0).toNat + dk wh ex := by
  obtain ⟨⟨r0, r1⟩, ro, rk, rw', rO, rf, rm, rt, rd⟩ := add27_rows hn wh on an f ex tu
  have h0 := h.1
  rw [r0, r1]
  refine ⟨bb_add h hn (fun i i0 i1 => ro i (by omega)) eL eO ?_ ?_ rd ?_ ?_, ?_⟩
  · rw [rk, rw', rO, rf, rm, rt, a.1, a.2.1, a.2.2.1, a.2.2.2.1, a.2.2.2.2, aO]; exact ⟨rfl, rfl, rfl, rfl, rfl, rfl⟩
  · rw [a.1, a.2.1, a.2.2.1, a.2.2.2.1, a.2.2.2.2, aO]; exact v
  · rw [rk, rw']; exact y0
  · rw [rk]; exact y1
  · have e : (((σ 27 0).toNat : Nat) : Int) = σ 27 0 := by omega
    rw [show (σ 27 0 + 1).toNat = (σ 27 0).toNat + 1 by omega, ds, e, a.1, a.2.2.2.2, ds_c _ (fun j j0 j1 => eL j j0 (by omega))]
theorem add35_rows {σ : zG} (hn : σ 35 0 < 60) (wh on an f ex tu : Int) : (F_X0_add_35 σ wh on an f ex tu 35 0 = σ 35 0 + 1 ∧ F_X0_add_35 σ wh on an f ex tu 35 1 = σ 35 1) ∧ (∀ i : Int, i ≠ σ 35 0 → F_X0_add_35 σ wh on an f ex tu 36 i = σ 36 i ∧ F_X0_add_35 σ wh on an f ex tu 37 i = σ 37 i ∧ F_X0_add_35 σ wh on an f ex tu 38 i = σ 38 i ∧ F_X0_add_35 σ wh on an f ex tu 39 i = σ 39 i ∧ F_X0_add_35 σ wh on an f ex tu 40 i = σ 40 i ∧ F_X0_add_35 σ wh on an f ex tu 41 i = σ 41 i ∧ F_X0_add_35 σ wh on an f ex tu 42 i = σ 42 i) ∧ (F_X0_add_35 σ wh on an f ex tu 36 (σ 35 0) = wh ∧ F_X0_add_35 σ wh on an f ex tu 37 (σ 35 0) = on ∧ F_X0_add_35 σ wh on an f ex tu 38 (σ 35 0) = an ∧ F_X0_add_35 σ wh on an f ex tu 39 (σ 35 0) = f ∧ F_X0_add_35 σ wh on an f ex tu 40 (σ 35 0) = ex ∧ F_X0_add_35 σ wh on an f ex tu 41 (σ 35 0) = tu ∧ F_X0_add_35 σ wh on an f ex tu 42 (σ 35 0) = σ 35 1) := by
  unfold F_X0_add_35
  rw [if_pos hn]
  refine ⟨⟨?_, ?_⟩, fun i hi => ⟨?_, ?_, ?_, ?_, ?_, ?_, ?_⟩, ?_, ?_, ?_, ?_, ?_, ?_, ?_⟩
  all_goals simp [zu]
  all_goals (intro x; exact absurd x hi)
theorem bb_add35 {σ : zG} {ld : Int} {L O L' O' : Int → Int} {P F wh on an f ex tu : Int} (h : BB (σ 36) (σ 37) (σ 38) (σ 39) (σ 40) (σ 41) (σ 42) (σ 35 0) ld L O P F) (hn : σ 35 0 < 60)
    (eL : ∀ j : Int, 0 ≤ j → j < 5 * σ 35 0 → L' j = L j) (eO : ∀ i : Int, 0 ≤ i → i < σ 35 0 → O' i = O i)
    (a : L' (5 * σ 35 0) = wh ∧ L' (5 * σ 35 0 + 1) = on ∧ L' (5 * σ 35 0 + 2) = an ∧ L' (5 * σ 35 0 + 3) = f ∧ L' (5 * σ 35 0 + 4) = ex) (aO : O' (σ 35 0) = tu) (v : LV P F wh on an f ex tu)
    (y0 : wh = 0 → σ 35 1 = on ∧ (σ 35 0 = 0 ∨ ld ≤ σ 35 1) ∧ 0 ≤ σ 35 1 ∧ σ 35 1 ≤ 999) (y1 : wh ≠ 0 → σ 35 1 = ld) :
    BB (F_X0_add_35 σ wh on an f ex tu 36) (F_X0_add_35 σ wh on an f ex tu 37) (F_X0_add_35 σ wh on an f ex tu 38) (F_X0_add_35 σ wh on an f ex tu 39) (F_X0_add_35 σ wh on an f ex tu 40) (F_X0_add_35 σ wh on an f ex tu 41) (F_X0_add_35 σ wh on an f ex tu 42) (F_X0_add_35 σ wh on an f ex tu 35 0) (F_X0_add_35 σ wh on an f ex tu 35 1) L' O' P F ∧ ds L' (F_X0_add_35 σ wh on an f ex tu 35 0).toNat = ds L (σ 35 0).toNat + dk wh ex := by
  obtain ⟨⟨r0, r1⟩, ro, rk, rw', rO, rf, rm, rt, rd⟩ := add35_rows hn wh on an f ex tu
  have h0 := h.1
  rw [r0, r1]
  refine ⟨bb_add h hn (fun i i0 i1 => ro i (by omega)) eL eO ?_ ?_ rd ?_ ?_, ?_⟩
  · rw [rk, rw', rO, rf, rm, rt, a.1, a.2.1, a.2.2.1, a.2.2.2.1, a.2.2.2.2, aO]; exact ⟨rfl, rfl, rfl, rfl, rfl, rfl⟩
  · rw [a.1, a.2.1, a.2.2.1, a.2.2.2.1, a.2.2.2.2, aO]; exact v
  · rw [rk, rw']; exact y0
  · rw [rk]; exact y1
  · have e : (((σ 35 0).toNat : Nat) : Int) = σ 35 0 := by omega
    rw [show (σ 35 0 + 1).toNat = (σ 35 0).toNat + 1 by omega, ds, e, a.1, a.2.2.2.2, ds_c _ (fun j j0 j1 => eL j j0 (by omega))]
