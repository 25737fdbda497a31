/-! pure: the class's feast: the least number for each set of debts -/
theorem dig_q {f k : Int} (hf : 0 ≤ f ∧ f ≤ 15) (hk : 0 ≤ k ∧ k < 8) : jshl f (4 * (7 - k)) = f * q16 (k + 1) := by
  rw [(dig_of hf hk).1]
  congr 1
  rcases (show k = 0 ∨ k = 1 ∨ k = 2 ∨ k = 3 ∨ k = 4 ∨ k = 5 ∨ k = 6 ∨ k = 7 by omega) with rfl | rfl | rfl | rfl | rfl | rfl | rfl | rfl <;> decide +kernel
theorem x8_t : ∀ a b : Fin 16, ∀ k : Fin 8, (16 * a.val + b.val).testBit k.val = true → (16 * a.val + b.val) ^^^ (2 ^ k.val) < 16 * a.val + b.val := by decide +kernel
theorem x8 {s k : Int} (hs : 0 ≤ s ∧ s < 256) (hk : 0 ≤ k ∧ k < 8) (h : hb s k) : (0 ≤ bxor s (bshl 1 k) ∧ bxor s (bshl 1 k) < s) ∧ ∀ j : Int, 0 ≤ j → j < 12 → (hb (bxor s (bshl 1 k)) j ↔ hb s j ∧ j ≠ k) := by
  obtain ⟨n, rfl⟩ := toN2 hs.1
  obtain ⟨c, rfl⟩ := toN2 hk.1
  have e := bit_nat (c := c) (by omega)
  rw [hb_nat (by omega) (by omega)] at h
  rw [e.1, bxor_nat (by omega) (by omega)]
  have lt : n ^^^ 2 ^ c < n := by
    have := x8_t ⟨n / 16, by omega⟩ ⟨n % 16, by omega⟩ ⟨c, by omega⟩
    simp only [] at this
    rw [show 16 * (n / 16) + n % 16 = n by omega] at this
    exact this h
  refine ⟨by omega, fun j j0 j1 => ?_⟩
  obtain ⟨i, rfl⟩ := toN2 j0
  rw [hb_nat (by omega) (by omega), hb_nat (by omega) (by omega), Nat.testBit_xor, Nat.testBit_two_pow]
  by_cases x : c = i
  · subst x
    simp [h]
  · have : ¬ (i : Int) = (c : Int) := by omega
    simp [x, this]
/-- what a pair adds -/
def pr (hu f k : Int) : Int := jshl hu 32 + jshl f (4 * (7 - k))
theorem t13 {f hu se st n : Int} (hst : 0 ≤ st ∧ st < 256) (hn : n ≤ 8) : ∀ (m : Nat) (q : Int) (σ : zG), 0 ≤ q → (n - q).toNat < m → σ 81 1 = n → (∀ s : Int, s ≠ st → (S_X2_tryFact_13 f hu se st m q σ).2 84 s = σ 84 s) ∧ (S_X2_tryFact_13 f hu se st m q σ).2 84 st ≤ σ 84 st ∧ (∀ k : Int, q ≤ k → k < n → hb st k → hb (σ 83 k) f → (S_X2_tryFact_13 f hu se st m q σ).2 84 st ≤ σ 84 (bxor st (bshl 1 k)) + pr hu f k) ∧ ((S_X2_tryFact_13 f hu se st m q σ).2 84 st = σ 84 st ∨ ∃ k : Int, (q ≤ k ∧ k < n) ∧ hb st k ∧ hb (σ 83 k) f ∧ (S_X2_tryFact_13 f hu se st m q σ).2 84 st = σ 84 (bxor st (bshl 1 k)) + pr hu f k)
  | 0, q, σ, _, h, _ => absurd h (Nat.not_lt_zero _)
  | m + 1, q, σ, q0, h, e => by
    rw [S_X2_tryFact_13, e]
    by_cases c : n ≤ q
    · rw [if_pos c]
      exact ⟨fun _ _ => rfl, Int.le_refl _, fun k k0 k1 => absurd k1 (by omega), Or.inl rfl⟩
    · rw [if_neg c]
      by_cases c1 : hb st q
      · rw [if_pos c1]
        by_cases c2 : hb (σ 83 q) f
        · rw [if_pos c2]
          have epr : jshl hu 32 + jshl f (4 * (7 - q)) = pr hu f q := rfl
          rw [epr]
          have ih := t13 (f := f) (hu := hu) (se := se) hst hn m (q + 1) (zu σ 84 st (min (σ 84 st) (σ 84 (bxor st (bshl 1 q)) + pr hu f q))) (by omega) (by omega) (by rw [zu_ne _ _ _ _ (by decide)]; exact e)
          have nx : ∀ k : Int, 0 ≤ k → k < n → hb st k → zu σ 84 st (min (σ 84 st) (σ 84 (bxor st (bshl 1 q)) + pr hu f q)) 84 (bxor st (bshl 1 k)) = σ 84 (bxor st (bshl 1 k)) := fun k k0 k1 hk => zu_off _ _ _ (by have := (x8 hst ⟨k0, by omega⟩ hk).1; omega)
          have r83 : zu σ 84 st (min (σ 84 st) (σ 84 (bxor st (bshl 1 q)) + pr hu f q)) 83 = σ 83 := zu_row _ _ _ (by decide)
          rw [zu_at, r83] at ih
          refine ⟨fun s hs => by rw [ih.1 s hs, zu_off _ _ _ hs], by have := ih.2.1; omega, fun k k0 k1 hk hp => ?_, ?_⟩
          · by_cases x : k = q
            · subst x
              have := ih.2.1
              omega
            · have := ih.2.2.1 k (by omega) k1 hk hp
              rw [nx k (by omega) k1 hk] at this
              exact this
          · rcases ih.2.2.2 with x | ⟨k, k0, hk, hp, x⟩
            · by_cases y : σ 84 st ≤ σ 84 (bxor st (bshl 1 q)) + pr hu f q
              · exact Or.inl (by rw [x]; omega)
              · exact Or.inr ⟨q, ⟨Int.le_refl _, by omega⟩, c1, c2, by rw [x]; omega⟩
            · rw [nx k (by omega) k0.2 hk] at x
              exact Or.inr ⟨k, ⟨by omega, k0.2⟩, hk, hp, x⟩
        · rw [if_neg c2]
          have ih := t13 (f := f) (hu := hu) (se := se) hst hn m (q + 1) σ (by omega) (by omega) e
          refine ⟨ih.1, ih.2.1, fun k k0 k1 hk hp => ?_, ?_⟩
          · have : k ≠ q := fun x => c2 (by rw [← x]; exact hp)
            exact ih.2.2.1 k (by omega) k1 hk hp
          · rcases ih.2.2.2 with x | ⟨k, k0, x⟩
            · exact Or.inl x
            · exact Or.inr ⟨k, ⟨by omega, k0.2⟩, x⟩
      · rw [if_neg c1]
        have ih := t13 (f := f) (hu := hu) (se := se) hst hn m (q + 1) σ (by omega) (by omega) e
        refine ⟨ih.1, ih.2.1, fun k k0 k1 hk hp => ?_, ?_⟩
        · have : k ≠ q := fun x => c1 (by rw [← x]; exact hk)
          exact ih.2.2.1 k (by omega) k1 hk hp
        · rcases ih.2.2.2 with x | ⟨k, k0, x⟩
          · exact Or.inl x
          · exact Or.inr ⟨k, ⟨by omega, k0.2⟩, x⟩
/-- one more fact, all sets -/
def TF (n f hu : Int) (P L L' : Int → Int) (s : Int) : Prop := L' s ≤ L s ∧ (∀ k : Int, 0 ≤ k → k < n → hb s k → hb (P k) f → L' s ≤ L (bxor s (bshl 1 k)) + pr hu f k) ∧ (L' s = L s ∨ ∃ k : Int, (0 ≤ k ∧ k < n) ∧ hb s k ∧ hb (P k) f ∧ L' s = L (bxor s (bshl 1 k)) + pr hu f k)
theorem t5 {f hu se n : Int} (hn : n ≤ 8) : ∀ (m : Nat) (st : Int) (σ : zG), 0 ≤ st → st < 256 → st.toNat < m → σ 81 1 = n → (∀ s : Int, st < s → (S_X2_tryFact_5 f hu se m st σ).2 84 s = σ 84 s) ∧ ∀ s : Int, 0 ≤ s → s ≤ st → TF n f hu (σ 83) (σ 84) ((S_X2_tryFact_5 f hu se m st σ).2 84) s
  | 0, st, σ, _, _, h, _ => absurd h (Nat.not_lt_zero _)
  | m + 1, st, σ, s0, s1, h, e => by
    rw [S_X2_tryFact_5]
    by_cases c : st ≤ 0
    · rw [if_pos c]
      refine ⟨fun _ _ => rfl, fun s a b => ⟨Int.le_refl _, fun k k0 k1 hk => ?_, Or.inl rfl⟩⟩
      have : s = 0 := by omega
      rw [this] at hk
      exact absurd hk (hb_0 ⟨k0, by omega⟩)
    · rw [if_neg c]
      have o1 : 0 ≤ st + (-1) := by omega
      have o2 : st + (-1) < 256 := by omega
      have o3 : (st + (-1)).toNat < m := by omega
      have a := t13 (f := f) (hu := hu) (se := se) (st := st) ⟨s0, s1⟩ hn 10 0 σ (by decide) (by omega) e
      have fr : ∀ k : Nat, k ≠ 84 → (S_X2_tryFact_13 f hu se st 10 0 σ).2 k = σ k := fun k hk => fr_S_X2_tryFact_13 _ _ _ _ _ _ _ (by simp; exact hk)
      generalize (S_X2_tryFact_13 f hu se st 10 0 σ).2 = σ1 at *
      have ih := t5 (f := f) (hu := hu) (se := se) hn m (st + (-1)) σ1 o1 o2 o3 (by rw [fr 81 (by decide)]; exact e)
      refine ⟨fun s hs => by rw [ih.1 s (by omega), a.1 s (by omega)], fun s b0 b1 => ?_⟩
      by_cases x : s = st
      · subst x
        unfold TF
        rw [ih.1 s (by omega)]
        exact a.2
      · have t := ih.2 s b0 (by omega)
        unfold TF at *
        rw [fr 83 (by decide), a.1 s (by omega)] at t
        have nx : ∀ k : Int, 0 ≤ k → k < n → hb s k → σ1 84 (bxor s (bshl 1 k)) = σ 84 (bxor s (bshl 1 k)) := fun k k0 k1 hk => a.1 _ (by have := (x8 ⟨b0, by omega⟩ ⟨k0, by omega⟩ hk).1; omega)
        refine ⟨t.1, fun k k0 k1 hk hp => by rw [← nx k k0 k1 hk]; exact t.2.1 k k0 k1 hk hp, ?_⟩
        rcases t.2.2 with y | ⟨k, k0, hk, hp, y⟩
        · exact Or.inl y
        · exact Or.inr ⟨k, k0, hk, hp, by rw [← nx k k0.1 k0.2 hk]; exact y⟩
/-- what the paid debts of a choice add, and what the unpaid ones add -/
def wc (h : Int → Int) (k d : Int) : Int := if d = 15 then 0 else h d * 4294967296 + d * q16 (k + 1)
def wx (k d : Int) : Int := if d = 15 then 4398046511104 + 15 * q16 (k + 1) else 0
theorem wc_p {h : Int → Int} (k : Int) {d : Int} (e : d = 15) : wc h k d = 0 := if_pos e
theorem wc_n {h : Int → Int} (k : Int) {d : Int} (e : ¬ d = 15) : wc h k d = h d * 4294967296 + d * q16 (k + 1) := if_neg e
theorem wx_p (k : Int) {d : Int} (e : d = 15) : wx k d = 4398046511104 + 15 * q16 (k + 1) := if_pos e
theorem wx_n (k : Int) {d : Int} (e : ¬ d = 15) : wx k d = 0 := if_neg e
theorem ck_cx (h g : Int → Int) : ∀ (m : Nat) (k : Int), ck h g m k = FS (wc h) g m k + FS wx g m k
  | 0, k => rfl
  | m + 1, k => by
    have ih := ck_cx h g m (k + 1)
    unfold ck at *
    simp only [FS]
    by_cases e : g k = 15
    · rw [wu_p _ e, wh_p _ e, wd_e, wc_p _ e, wx_p _ e, e]
      omega
    · rw [wu_n _ e, wh_n _ e, wd_e, wc_n _ e, wx_n _ e]
      omega
/-- the set of the debts that a choice pays -/
def IS (n S : Int) (g : Int → Int) : Prop := (0 ≤ S ∧ S < bshl 1 n) ∧ ∀ j : Int, 0 ≤ j → j < n → (hb S j ↔ g j ≠ 15)
def INV (n f : Int) (may : Int → Int → Prop) (h L : Int → Int) : Prop := (∀ (g : Int → Int) (S : Int), VF n f may 0 0 g → IS n S g → L S ≤ FS (wc h) g n.toNat 0) ∧ (∀ S : Int, 0 ≤ S → S < bshl 1 n → L S = 1152921504606846976 ∨ ∃ g : Int → Int, VF n f may 0 0 g ∧ IS n S g ∧ FS (wc h) g n.toNat 0 = L S) ∧ ∀ S : Int, 0 ≤ S → S < bshl 1 n → L S ≤ 1152921504606846976
theorem shl_8 {n : Int} (h : 0 ≤ n ∧ n ≤ 8) : 1 ≤ bshl 1 n ∧ bshl 1 n ≤ 256 := by
  rcases (show n = 0 ∨ n = 1 ∨ n = 2 ∨ n = 3 ∨ n = 4 ∨ n = 5 ∨ n = 6 ∨ n = 7 ∨ n = 8 by omega) with rfl | rfl | rfl | rfl | rfl | rfl | rfl | rfl | rfl <;> decide +kernel
theorem VF_up {n f : Int} {may : Int → Int → Prop} {g : Int → Int} (h : VF n f may 0 0 g) : VF n (f + 1) may 0 0 g := by
  refine ⟨fun j j0 j1 => ?_, h.2⟩
  rcases h.1 j j0 j1 with a | ⟨a, b⟩
  · exact Or.inl a
  · exact Or.inr ⟨⟨a.1, by omega⟩, b⟩
theorem IS_off {n S k : Int} {g : Int → Int} (hn : 0 ≤ n ∧ n ≤ 8) (h : IS n S g) (hk : 0 ≤ k ∧ k < n) (x : g k ≠ 15) : hb S k ∧ IS n (bxor S (bshl 1 k)) (fun j => if j = k then 15 else g j) := by
  have s8 := shl_8 hn
  have b := (h.2 k hk.1 hk.2).mpr x
  have y := x8 ⟨h.1.1, by have := h.1.2; omega⟩ ⟨hk.1, by omega⟩ b
  refine ⟨b, ⟨y.1.1, by have := h.1.2; omega⟩, fun j j0 j1 => ?_⟩
  rw [y.2 j j0 (by omega), h.2 j j0 j1]
  by_cases e : j = k
  · simp [e]
  · simp [e]
theorem IS_on {n S k f : Int} {g : Int → Int} (hn : 0 ≤ n ∧ n ≤ 8) (hS : 0 ≤ S ∧ S < bshl 1 n) (hk : 0 ≤ k ∧ k < n) (b : hb S k) (hf : f ≠ 15) (h : IS n (bxor S (bshl 1 k)) g) : g k = 15 ∧ IS n S (fun j => if j = k then f else g j) := by
  have s8 := shl_8 hn
  have y := x8 ⟨hS.1, by omega⟩ ⟨hk.1, by omega⟩ b
  refine ⟨?_, hS, fun j j0 j1 => ?_⟩
  · have a := h.2 k hk.1 hk.2
    rw [y.2 k hk.1 (by omega)] at a
    exact Classical.byContradiction fun z => (a.mpr z).2 rfl
  · have a := h.2 j j0 j1
    rw [y.2 j j0 (by omega)] at a
    by_cases e : j = k
    · subst e
      simp [b, hf]
    · simp only [if_neg e]
      rw [← a]
      exact ⟨fun z => ⟨z, e⟩, fun z => z.1⟩
theorem pr_q {hu f k : Int} (h1 : 0 ≤ hu ∧ hu ≤ 99) (hf : 0 ≤ f ∧ f ≤ 15) (hk : 0 ≤ k ∧ k < 8) : pr hu f k = hu * 4294967296 + f * q16 (k + 1) ∧ 0 ≤ pr hu f k := by
  have e : pr hu f k = hu * 4294967296 + f * q16 (k + 1) := by
    unfold pr
    rw [hur_of h1, dig_q hf hk]
  refine ⟨e, ?_⟩
  rw [e]
  have q1 := q16_1 (k + 1)
  have : 0 ≤ f * q16 (k + 1) := Int.mul_nonneg hf.1 (by omega)
  omega
theorem INV_step {n f : Int} {P h L L' : Int → Int} (hn : 0 ≤ n ∧ n ≤ 8) (hf : 0 ≤ f ∧ f < 12) (hh : 0 ≤ h f ∧ h f ≤ 99) (hI : INV n f (fun k x => hb (P k) x) h L) (hT : ∀ s : Int, 0 ≤ s → s < bshl 1 n → TF n f (h f) P L L' s) : INV n (f + 1) (fun k x => hb (P k) x) h L' := by
  have s8 := shl_8 hn
  have nc : ((n.toNat : Nat) : Int) = n := by omega
  refine ⟨fun g S hv hS => ?_, fun S S0 S1 => ?_, fun S S0 S1 => ?_⟩
  · have t := hT S hS.1.1 hS.1.2
    by_cases ex : ∃ k : Int, 0 ≤ k ∧ k < n ∧ g k = f
    · obtain ⟨k, k0, k1, ek⟩ := ex
      have o := IS_off hn hS ⟨k0, k1⟩ (by omega)
      have pk := pr_q hh ⟨hf.1, by omega⟩ (k := k) ⟨k0, by omega⟩
      have mk : hb (P k) f := by
        rcases hv.1 k k0 k1 with a | ⟨_, a, _⟩
        · omega
        · rw [ek] at a; exact a
      have v2 : VF n f (fun k x => hb (P k) x) 0 0 (fun j => if j = k then 15 else g j) := by
        refine ⟨fun j j0 j1 => ?_, fun i j i0 i1 j0 j1 x1 x2 => ?_⟩
        · by_cases x : j = k
          · exact Or.inl (if_pos x)
          · simp only [if_neg x]
            rcases hv.1 j j0 j1 with a | ⟨a, b⟩
            · exact Or.inl a
            · refine Or.inr ⟨⟨a.1, ?_⟩, b⟩
              have : g j ≠ f := fun y => x (hv.2 j k j0 j1 k0 k1 (by rw [y, ek]) (by omega))
              omega
        · dsimp only at x1 x2
          by_cases x : i = k
          · rw [if_pos x] at x2; exact absurd rfl x2
          · by_cases y : j = k
            · rw [if_pos y] at x1; exact absurd x1 x2
            · rw [if_neg x, if_neg y] at x1
              rw [if_neg x] at x2
              exact hv.2 i j i0 i1 j0 j1 x1 x2
      have u := FS_upd (w := wc h) (g := g) (i := k) (x := 15) n.toNat 0 k0 (by omega)
      have l := hI.1 _ _ v2 o.2
      have l2 := t.2.1 k k0 k1 o.1 mk
      rw [u, wc_n _ (show ¬ g k = 15 by omega), wc_p _ rfl, ek] at l
      have e := pk.1
      omega
    · have v2 : VF n f (fun k x => hb (P k) x) 0 0 g := by
        refine ⟨fun j j0 j1 => ?_, hv.2⟩
        rcases hv.1 j j0 j1 with a | ⟨a, b⟩
        · exact Or.inl a
        · refine Or.inr ⟨⟨a.1, ?_⟩, b⟩
          have : g j ≠ f := fun y => ex ⟨j, j0, j1, y⟩
          omega
      have := hI.1 g S v2 hS
      have := t.1
      omega
  · have t := hT S S0 S1
    rcases t.2.2 with x | ⟨k, k0, hk, hp, x⟩
    · rcases hI.2.1 S S0 S1 with a | ⟨g, a, b, c⟩
      · exact Or.inl (by rw [x]; exact a)
      · exact Or.inr ⟨g, VF_up a, b, by rw [x]; exact c⟩
    · have y := x8 ⟨S0, by omega⟩ ⟨k0.1, by omega⟩ hk
      have pk := pr_q hh ⟨hf.1, by omega⟩ (k := k) ⟨k0.1, by omega⟩
      rcases hI.2.1 (bxor S (bshl 1 k)) y.1.1 (by omega) with a | ⟨g, a, b, c⟩
      · have l := hI.2.2 S S0 S1
        have := t.1
        exact Or.inl (by omega)
      · have o := IS_on hn ⟨S0, S1⟩ k0 hk (f := f) (by omega) b
        refine Or.inr ⟨fun j => if j = k then f else g j, ⟨fun j j0 j1 => ?_, fun i j i0 i1 j0 j1 x1 x2 => ?_⟩, o.2, ?_⟩
        · by_cases z : j = k
          · simp only [if_pos z]
            refine Or.inr ⟨⟨hf.1, by omega⟩, ?_, hb_0 ⟨hf.1, by omega⟩⟩
            rw [z]; exact hp
          · simp only [if_neg z]
            rcases a.1 j j0 j1 with w | ⟨w1, w2⟩
            · exact Or.inl w
            · exact Or.inr ⟨⟨w1.1, by omega⟩, w2⟩
        · dsimp only at x1 x2
          by_cases z : i = k
          · by_cases z2 : j = k
            · omega
            · rw [if_pos z, if_neg z2] at x1
              rcases a.1 j j0 j1 with w | ⟨w1, _⟩
              · omega
              · omega
          · by_cases z2 : j = k
            · rw [if_neg z, if_pos z2] at x1
              rw [if_neg z] at x2
              rcases a.1 i i0 i1 with w | ⟨w1, _⟩
              · omega
              · omega
            · rw [if_neg z, if_neg z2] at x1
              rw [if_neg z] at x2
              exact a.2 i j i0 i1 j0 j1 x1 x2
        · rw [FS_upd n.toNat 0 k0.1 (by omega), c, x, wc_p _ o.1, wc_n _ (show ¬ f = 15 by omega)]
          have e := pk.1
          omega
  · have := (hT S S0 S1).1
    have := hI.2.2 S S0 S1
    omega
theorem VF_0 {n : Int} {may : Int → Int → Prop} {g : Int → Int} (h : VF n 0 may 0 0 g) (j : Int) (j0 : 0 ≤ j) (j1 : j < n) : g j = 15 := by
  rcases h.1 j j0 j1 with a | ⟨a, _⟩
  · exact a
  · omega
theorem FS_0 {w : Int → Int → Int} {g : Int → Int} (hw : ∀ k : Int, w k 15 = 0) : ∀ (m : Nat) (k : Int), (∀ j : Int, k ≤ j → j < k + (m : Int) → g j = 15) → FS w g m k = 0
  | 0, k, _ => rfl
  | m + 1, k, h => by
    simp only [FS]
    rw [h k (Int.le_refl _) (by omega), hw, FS_0 hw m (k + 1) (fun j j0 j1 => h j (by omega) (by omega))]
    rfl
theorem INV_0 {n : Int} {may : Int → Int → Prop} {h L : Int → Int} (hn : 0 ≤ n ∧ n ≤ 8) (h0 : L 0 = 0) (hL : ∀ s : Int, 0 < s → s < 256 → L s = 1152921504606846976) : INV n 0 may h L := by
  have s8 := shl_8 hn
  have z : ∀ g : Int → Int, (∀ j : Int, 0 ≤ j → j < n → g j = 15) → FS (wc h) g n.toNat 0 = 0 := fun g hg => FS_0 (w := wc h) (g := g) (fun k => wc_p k rfl) n.toNat 0 (fun j j0 j1 => hg j j0 (by omega))
  refine ⟨fun g S hv hS => ?_, fun S S0 S1 => ?_, fun S S0 S1 => ?_⟩
  · have e : S = 0 := by
      refine hb_ext ⟨hS.1.1, by have := hS.1.2; omega⟩ ⟨by decide, by decide⟩ (fun i i0 i1 => ?_)
      refine ⟨fun x => ?_, fun x => absurd x (hb_0 ⟨i0, by omega⟩)⟩
      by_cases c : i < n
      · exact absurd (VF_0 hv i i0 c) ((hS.2 i i0 c).mp x)
      · exact absurd x (off_hi hS.1.1 ⟨hn.1, by omega⟩ hS.1.2 (by omega) i1)
    rw [e, h0, z g (VF_0 hv)]
    exact Int.le_refl _
  · by_cases c : S = 0
    · refine Or.inr ⟨fun _ => 15, ⟨fun j _ _ => Or.inl rfl, fun i j _ _ _ _ _ x => absurd rfl x⟩, ⟨⟨S0, S1⟩, fun j j0 j1 => ?_⟩, by rw [z _ (fun _ _ _ => rfl), c, h0]⟩
      rw [c]
      exact ⟨fun x => absurd x (hb_0 ⟨j0, by omega⟩), fun x => absurd rfl x⟩
    · exact Or.inl (hL S (by omega) (by omega))
  · by_cases c : S = 0
    · rw [c, h0]; decide
    · rw [hL S (by omega) (by omega)]; exact Int.le_refl _
