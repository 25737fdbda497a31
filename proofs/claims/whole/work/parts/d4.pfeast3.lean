/-! pure: the class's feast settled -/
theorem fs39 {n F : Int} {P h : Int → Int} (hn : 0 ≤ n ∧ n ≤ 8) (hF : F ≤ 12) (hh : ∀ f : Int, 0 ≤ f → f < F → 0 ≤ h f ∧ h f ≤ 99) : ∀ (m : Nat) (q : Int) (σ : zG), 0 ≤ q → q ≤ F → (F - q).toNat < m → σ 5 1 = F → σ 81 1 = n → σ 83 = P → σ 10 = h → INV n q (fun k x => hb (P k) x) h (σ 84) → INV n F (fun k x => hb (P k) x) h ((S_X2_settle_39 (bshl 1 n) m q σ).2 84)
  | 0, q, σ, _, _, hm, _, _, _, _, _ => absurd hm (Nat.not_lt_zero _)
  | m + 1, q, σ, q0, qF, hm, e5, e81, e83, e10, hI => by
    rw [S_X2_settle_39, e5]
    by_cases c : F ≤ q
    · rw [if_pos c]
      have : q = F := by omega
      rw [← this]
      exact hI
    · rw [if_neg c]
      have s8 := shl_8 hn
      have fr : ∀ k : Nat, k ≠ 84 → R_X2_tryFact σ q (σ 10 q) (bshl 1 n) k = σ k := fun k hk => fr_R_X2_tryFact _ _ _ _ (by simp; exact hk)
      have t := t5 (f := q) (hu := h q) (se := bshl 1 n) (n := n) hn.2 300 (bshl 1 n - 1) σ (by omega) (by omega) (by omega) e81
      have e : R_X2_tryFact σ q (σ 10 q) (bshl 1 n) = (S_X2_tryFact_5 q (h q) (bshl 1 n) 300 (bshl 1 n - 1) σ).2 := by
        unfold R_X2_tryFact
        rw [e10]
      refine fs39 hn hF hh m (q + 1) _ (by omega) (by omega) (by omega) (by rw [fr 5 (by decide)]; exact e5) (by rw [fr 81 (by decide)]; exact e81) (by rw [fr 83 (by decide)]; exact e83) (by rw [fr 10 (by decide)]; exact e10) (INV_step hn ⟨q0, by omega⟩ (hh q q0 (by omega)) hI (fun s s0 s1 => ?_))
      rw [e, ← e83]
      exact t.2 s s0 (by omega)
theorem ub5 {n st : Int} {g : Int → Int} {σ : zG} (hn : n ≤ 8) (e : σ 81 1 = n) (hs : ∀ j : Int, 0 ≤ j → j < n → (hb st j ↔ g j ≠ 15)) : ∀ (m : Nat) (sm q : Int), 0 ≤ q → q ≤ n → (n - q).toNat < m → L_X2_unpaidBut_5 σ st m sm q = sm + FS wx g (n - q).toNat q
  | 0, sm, q, _, _, h => absurd h (Nat.not_lt_zero _)
  | m + 1, sm, q, q0, q1, h => by
    rw [L_X2_unpaidBut_5, e]
    by_cases c : n ≤ q
    · rw [if_pos c, show (n - q).toNat = 0 by omega]
      simp only [FS]
      omega
    · rw [if_neg c, show (n - q).toNat = (n - (q + 1)).toNat + 1 by omega]
      simp only [FS]
      have b := hs q q0 (by omega)
      by_cases c1 : hb st q
      · rw [if_pos c1, ub5 hn e hs m sm (q + 1) (by omega) (by omega) (by omega)]
        rw [wx_n _ (b.mp c1)]
        omega
      · have g15 : g q = 15 := Classical.byContradiction fun x => c1 (b.mpr x)
        rw [if_neg c1, ub5 hn e hs m _ (q + 1) (by omega) (by omega) (by omega), dig_q ⟨by decide, by decide⟩ ⟨q0, by omega⟩, wx_p _ g15]
        omega
theorem s78 {σ : zG} {se : Int} : ∀ (m : Nat) (be q : Int), 0 ≤ q → (se - q).toNat < m → (S_X2_settle_78 se m be q σ).1 ≤ be ∧ (∀ s : Int, q ≤ s → s < se → (S_X2_settle_78 se m be q σ).1 ≤ σ 84 s + R_X2_unpaidBut σ s) ∧ ((S_X2_settle_78 se m be q σ).1 = be ∨ ∃ s : Int, (q ≤ s ∧ s < se) ∧ (S_X2_settle_78 se m be q σ).1 = σ 84 s + R_X2_unpaidBut σ s)
  | 0, be, q, _, h => absurd h (Nat.not_lt_zero _)
  | m + 1, be, q, q0, h => by
    rw [S_X2_settle_78]
    by_cases c : se ≤ q
    · rw [if_pos c]
      exact ⟨Int.le_refl _, fun s s0 s1 => absurd s1 (by omega), Or.inl rfl⟩
    · rw [if_neg c]
      have ih := s78 (σ := σ) (se := se) m (min be (σ 84 q + R_X2_unpaidBut σ q)) (q + 1) (by omega) (by omega)
      refine ⟨by have := ih.1; omega, fun s s0 s1 => ?_, ?_⟩
      · by_cases x : s = q
        · subst x
          have := ih.1
          omega
        · exact ih.2.1 s (by omega) s1
      · rcases ih.2.2 with x | ⟨s, s0, x⟩
        · by_cases y : be ≤ σ 84 q + R_X2_unpaidBut σ q
          · exact Or.inl (by rw [x]; omega)
          · exact Or.inr ⟨q, ⟨Int.le_refl _, by omega⟩, by rw [x]; omega⟩
        · exact Or.inr ⟨s, ⟨by omega, s0.2⟩, x⟩
/-- a set of debts by what lies in it -/
theorem set_of (Q : Int → Prop) : ∀ m : Nat, m ≤ 12 → ∃ S : Int, (0 ≤ S ∧ S < 4096) ∧ ∀ j : Int, 0 ≤ j → j < 12 → (hb S j ↔ j < (m : Int) ∧ Q j)
  | 0, _ => ⟨0, ⟨by decide, by decide⟩, fun j j0 j1 => ⟨fun x => absurd x (hb_0 ⟨j0, by omega⟩), fun x => absurd x.1 (by omega)⟩⟩
  | m + 1, h => by
    obtain ⟨S, hS, hb'⟩ := set_of Q m (by omega)
    by_cases c : Q (m : Int)
    · refine ⟨bor S (bshl 1 (m : Int)), bor_r hS (bit_r ⟨by omega, by omega⟩), fun j j0 j1 => ?_⟩
      rw [hb_bor hS (bit_r ⟨by omega, by omega⟩) ⟨j0, by omega⟩, hb_bit ⟨by omega, by omega⟩ ⟨j0, by omega⟩, hb' j j0 j1]
      constructor
      · rintro (x | x)
        · exact ⟨by omega, x.2⟩
        · rw [x]; exact ⟨by omega, c⟩
      · intro x
        by_cases y : j = (m : Int)
        · exact Or.inr y
        · exact Or.inl ⟨by omega, x.2⟩
    · refine ⟨S, hS, fun j j0 j1 => ?_⟩
      rw [hb' j j0 j1]
      constructor
      · exact fun x => ⟨by omega, x.2⟩
      · intro x
        refine ⟨?_, x.2⟩
        have : j ≠ (m : Int) := fun y => c (by rw [← y]; exact x.2)
        omega
theorem best_78 {n F : Int} {may : Int → Int → Prop} {h : Int → Int} {σ : zG} (hn : 0 ≤ n ∧ n ≤ 8) (hF : F ≤ 12) (hh : ∀ f : Int, 0 ≤ f → f < F → 0 ≤ h f ∧ h f ≤ 99) (e : σ 81 1 = n) (hI : INV n F may h (σ 84)) : ∃ g : Int → Int, VF n F may 0 0 g ∧ ck h g n.toNat 0 = (S_X2_settle_78 (bshl 1 n) 300 1152921504606846976 0 σ).1 ∧ ∀ g' : Int → Int, VF n F may 0 0 g' → (S_X2_settle_78 (bshl 1 n) 300 1152921504606846976 0 σ).1 ≤ ck h g' n.toNat 0 := by
  have s8 := shl_8 hn
  have b := s78 (σ := σ) (se := bshl 1 n) 300 1152921504606846976 0 (by decide) (by omega)
  have un : ∀ (g : Int → Int) (S : Int), IS n S g → R_X2_unpaidBut σ S = FS wx g n.toNat 0 := fun g S hS => by
    unfold R_X2_unpaidBut
    rw [ub5 hn.2 e hS.2 10 0 0 (by decide) hn.1 (by omega), show (n - 0).toNat = n.toNat by omega]
    omega
  have lo : ∀ g' : Int → Int, VF n F may 0 0 g' → (S_X2_settle_78 (bshl 1 n) 300 1152921504606846976 0 σ).1 ≤ ck h g' n.toNat 0 := by
    intro g hv
    obtain ⟨S, hS, hb'⟩ := set_of (fun j => g j ≠ 15) n.toNat (by omega)
    have iS : IS n S g := by
      refine ⟨⟨hS.1, lt_hi hS ⟨hn.1, by omega⟩ (fun f f0 f1 x => ?_)⟩, fun j j0 j1 => ?_⟩
      · have := (hb' f (by omega) f1).mp x
        omega
      · rw [hb' j j0 (by omega)]
        exact ⟨fun x => x.2, fun x => ⟨by omega, x⟩⟩
    have l := hI.1 g S hv iS
    have l2 := b.2.1 S iS.1.1 iS.1.2
    rw [un g S iS] at l2
    rw [ck_cx]
    omega
  -- the choice that pays nothing
  have l15 := lo (fun _ => 15) ⟨fun j _ _ => Or.inl rfl, fun i j _ _ _ _ _ x => absurd rfl x⟩
  have bd := FS_bd (g := fun _ => 15) hF hh n.toNat 0 (by decide) (by omega) (fun j _ _ => Or.inl rfl)
  have q0 := q16_t (k := 0) (by decide)
  have t15 : ck h (fun _ => 15) n.toNat 0 < 1152921504606846976 := by
    unfold ck
    omega
  rcases b.2.2 with x | ⟨S, S0, x⟩
  · omega
  · rcases hI.2.1 S S0.1 S0.2 with a | ⟨g, a1, a2, a3⟩
    · have u0 : 0 ≤ R_X2_unpaidBut σ S := by
        obtain ⟨T, _, hT⟩ := set_of (fun j => hb S j) 8 (by decide)
        have : ∀ j : Int, 0 ≤ j → j < n → (hb S j ↔ (fun j => if hb S j then (0 : Int) else 15) j ≠ 15) := fun j _ _ => by
          by_cases c : hb S j
          · simp [c]
          · simp [c]
        unfold R_X2_unpaidBut
        rw [ub5 hn.2 e this 10 0 0 (by decide) hn.1 (by omega)]
        have : ∀ (g : Int → Int) (m : Nat) (k : Int), 0 ≤ FS wx g m k := by
          intro g m
          induction m with
          | zero => intro k; exact Int.le_refl _
          | succ m ih =>
            intro k
            simp only [FS]
            have := ih (k + 1)
            have q := q16_1 (k + 1)
            by_cases y : g k = 15
            · rw [wx_p _ y]; omega
            · rw [wx_n _ y]; omega
        have := this (fun j => if hb S j then (0 : Int) else 15) (n - 0).toNat 0
        omega
      omega
    · refine ⟨g, a1, ?_, lo⟩
      rw [ck_cx, x, a3, un g S a2]
theorem band_15 (x : Int) : band x 15 = x % 16 := by
  unfold band
  have h1 : (iv x &&& iv 15).toBitVec.toNat = (iv x).toBitVec.toNat % 2 ^ 4 := by
    rw [Int32.toBitVec_and, BitVec.toNat_and, show (iv 15).toBitVec.toNat = 2 ^ 4 - 1 from by decide, Nat.and_two_pow_sub_one_eq_mod]
  have h2 := iv_un x
  rw [toInt_small (by rw [h1]; omega), h1]
  omega
theorem band_1023 (x : Int) : band x 1023 = x % 1024 := by
  unfold band
  have h1 : (iv x &&& iv 1023).toBitVec.toNat = (iv x).toBitVec.toNat % 2 ^ 10 := by
    rw [Int32.toBitVec_and, BitVec.toNat_and, show (iv 1023).toBitVec.toNat = 2 ^ 10 - 1 from by decide, Nat.and_two_pow_sub_one_eq_mod]
  have h2 := iv_un x
  rw [toInt_small (by rw [h1]; omega), h1]
  omega
theorem jl2i_b {a : Int} (h : r64 a) : jl2i a = a.bmod 4294967296 := by
  unfold jl2i
  rw [Int64.toInt_toInt32, jv_toInt h]
theorem jl2i_16 {a : Int} (h : r64 a) : jl2i a % 1024 = a % 1024 := by
  rw [jl2i_b h]
  simp only [Int.bmod]
  split <;> omega
theorem jl2i_s {a : Int} (h : 0 ≤ a ∧ a < 1000000) : jl2i a = a := by
  rw [jl2i_b ⟨by omega, by omega⟩]
  simp only [Int.bmod]
  split <;> omega
/-- the digits ahead of debt j put together -/
theorem dig_split {g : Int → Int} {n : Nat} (hn : n ≤ 8) (B : Int) : ∀ j : Nat, j ≤ n → ∃ A : Int, B * q16 0 + FS wd g n 0 = A * q16 (j : Int) + FS wd g (n - j) (j : Int)
  | 0, _ => ⟨B, by simp⟩
  | j + 1, h => by
    obtain ⟨A, e⟩ := dig_split hn B j (by omega)
    refine ⟨16 * A + g (j : Int), ?_⟩
    rw [e, show n - j = (n - (j + 1)) + 1 by omega]
    simp only [FS]
    rw [wd_e, q16_s (k := (j : Int)) (by omega) (by omega), show ((j + 1 : Nat) : Int) = (j : Int) + 1 by omega, Int.add_mul, ← Int.mul_assoc, Int.mul_comm A 16]
    omega
theorem dig_get {F : Int} {h g : Int → Int} {n : Nat} (hn : n ≤ 8) (hF : F ≤ 12) (hh : ∀ f : Int, 0 ≤ f → f < F → 0 ≤ h f ∧ h f ≤ 99) (hg : ∀ j : Int, 0 ≤ j → j < (n : Int) → DG F (g j)) (B : Int) (j : Nat) (hj : j < n) : (B * q16 0 + FS wd g n 0) / q16 ((j : Int) + 1) % 16 = g (j : Int) := by
  obtain ⟨A, e⟩ := dig_split (g := g) hn B j (by omega)
  have s := q16_s (k := (j : Int)) (by omega) (by omega)
  have q1 := q16_1 ((j : Int) + 1)
  rw [e, show n - j = (n - (j + 1)) + 1 by omega]
  simp only [FS]
  have b := (FS_bd (g := g) hF hh (n - (j + 1)) ((j : Int) + 1) (by omega) (by omega) (fun i i0 i1 => hg i (by omega) (by omega))).2.2
  generalize hR : FS wd g (n - (j + 1)) ((j : Int) + 1) = R at *
  rw [wd_e, s]
  generalize q16 ((j : Int) + 1) = q at *
  have e2 : A * (16 * q) + (g (j : Int) * q + R) = R + (16 * A + g (j : Int)) * q := by
    rw [Int.add_mul, ← Int.mul_assoc, Int.mul_comm A 16]
    omega
  rw [e2, Int.add_mul_ediv_right _ _ (by omega), Int.ediv_eq_zero_of_lt b.1 b.2]
  have d := hg (j : Int) (by omega) (by omega)
  unfold DG at d
  omega
theorem keep29 {n be : Int} : ∀ (m : Nat) (q : Int) (σ : zG), 0 ≤ q → (n - q).toNat < m → σ 81 1 = n → (∀ k : Int, q ≤ k → k < n → (S_X2_keep_29 be m q σ).2 82 k = if band (jl2i (jshr be (4 * (7 - k)))) 15 = 15 then -1 else band (jl2i (jshr be (4 * (7 - k)))) 15) ∧ ∀ k : Int, k < q → (S_X2_keep_29 be m q σ).2 82 k = σ 82 k
  | 0, q, σ, _, h, _ => absurd h (Nat.not_lt_zero _)
  | m + 1, q, σ, q0, h, e => by
    rw [S_X2_keep_29, e]
    by_cases c : n ≤ q
    · rw [if_pos c]
      exact ⟨fun k k0 k1 => absurd k1 (by omega), fun _ _ => rfl⟩
    · rw [if_neg c]
      have st : ∀ v : Int, v = (if band (jl2i (jshr be (4 * (7 - q)))) 15 = 15 then -1 else band (jl2i (jshr be (4 * (7 - q)))) 15) → (∀ k : Int, q ≤ k → k < n → (S_X2_keep_29 be m (q + 1) (zu σ 82 q v)).2 82 k = if band (jl2i (jshr be (4 * (7 - k)))) 15 = 15 then -1 else band (jl2i (jshr be (4 * (7 - k)))) 15) ∧ ∀ k : Int, k < q → (S_X2_keep_29 be m (q + 1) (zu σ 82 q v)).2 82 k = σ 82 k := by
        intro v hv
        have ih := keep29 (n := n) (be := be) m (q + 1) (zu σ 82 q v) (by omega) (by omega) (by rw [zu_ne _ _ _ _ (by decide)]; exact e)
        refine ⟨fun k k0 k1 => ?_, fun k k0 => by rw [ih.2 k (by omega), zu_off _ _ _ (by omega)]⟩
        by_cases x : k = q
        · subst x
          rw [ih.2 k (by omega), zu_at]
          exact hv
        · exact ih.1 k (by omega) k1
      by_cases c1 : band (jl2i (jshr be (4 * (7 - q)))) 15 = 15
      · rw [if_pos c1]
        exact st (-1) (by rw [if_pos c1])
      · rw [if_neg c1]
        exact st _ (by rw [if_neg c1])
/-- the feast that is kept, of a choice -/
theorem keep_of {n F : Int} {h g : Int → Int} {σ : zG} (hn : 0 ≤ n ∧ n ≤ 8) (hF : F ≤ 12) (hh : ∀ f : Int, 0 ≤ f → f < F → 0 ≤ h f ∧ h f ≤ 99) (hg : ∀ j : Int, 0 ≤ j → j < n → DG F (g j)) (e : σ 81 1 = n) : R_X2_keep σ (ck h g n.toNat 0) 81 1 = n ∧ R_X2_keep σ (ck h g n.toNat 0) 81 2 = n - FS wu g n.toNat 0 ∧ R_X2_keep σ (ck h g n.toNat 0) 81 3 = FS (wh h) g n.toNat 0 ∧ ∀ k : Int, 0 ≤ k → k < n → R_X2_keep σ (ck h g n.toNat 0) 82 k = if g k = 15 then -1 else g k := by
  have nc : ((n.toNat : Nat) : Int) = n := by omega
  have bd := FS_bd (g := g) hF hh n.toNat 0 (by decide) (by omega) (fun j j0 j1 => hg j j0 (by omega))
  have q0 : q16 0 = 4294967296 := by decide
  rw [q0] at bd
  have eb : ck h g n.toNat 0 = (FS wu g n.toNat 0 * 1024 + FS (wh h) g n.toNat 0) * q16 0 + FS wd g n.toNat 0 := by
    unfold ck
    rw [q0]
    omega
  have dg := fun (j : Nat) (hj : j < n.toNat) => dig_get (g := g) (n := n.toNat) (by omega) hF hh (fun j j0 j1 => hg j j0 (by omega)) (FS wu g n.toNat 0 * 1024 + FS (wh h) g n.toNat 0) j hj
  rw [← eb] at dg
  have rb : 0 ≤ ck h g n.toNat 0 ∧ ck h g n.toNat 0 < 1152921504606846976 := by
    unfold ck
    omega
  have e42 : jshr (ck h g n.toNat 0) 42 = FS wu g n.toNat 0 := by
    have := jshr_of (a := ck h g n.toNat 0) (i := 42) (by decide) ⟨by omega, by omega⟩
    rw [show ((42 : Nat) : Int) = 42 from rfl] at this
    rw [this, show (2 : Int) ^ 42 = 4398046511104 by decide]
    unfold ck
    omega
  have e32 : jshr (ck h g n.toNat 0) 32 = FS wu g n.toNat 0 * 1024 + FS (wh h) g n.toNat 0 := by
    have := jshr_of (a := ck h g n.toNat 0) (i := 32) (by decide) ⟨by omega, by omega⟩
    rw [show ((32 : Nat) : Int) = 32 from rfl] at this
    rw [this, show (2 : Int) ^ 32 = 4294967296 by decide]
    unfold ck
    omega
  have ed : ∀ k : Int, 0 ≤ k → k < n → band (jl2i (jshr (ck h g n.toNat 0) (4 * (7 - k)))) 15 = g k := by
    intro k k0 k1
    obtain ⟨j, rfl⟩ := toN2 k0
    have a := jshr_of (a := ck h g n.toNat 0) (i := (4 * (7 - (j : Int))).toNat) (by omega) ⟨by omega, by omega⟩
    rw [show (((4 * (7 - (j : Int))).toNat : Nat) : Int) = 4 * (7 - (j : Int)) by omega] at a
    have e2 : (2 : Int) ^ (4 * (7 - (j : Int))).toNat = q16 ((j : Int) + 1) := by
      rcases (show j = 0 ∨ j = 1 ∨ j = 2 ∨ j = 3 ∨ j = 4 ∨ j = 5 ∨ j = 6 ∨ j = 7 by omega) with rfl | rfl | rfl | rfl | rfl | rfl | rfl | rfl <;> decide +kernel
    rw [e2] at a
    have q1 := q16_1 ((j : Int) + 1)
    have y0 : 0 ≤ ck h g n.toNat 0 / q16 ((j : Int) + 1) := Int.ediv_nonneg rb.1 (by omega)
    have y1 : ck h g n.toNat 0 / q16 ((j : Int) + 1) ≤ ck h g n.toNat 0 := Int.ediv_le_self _ rb.1
    have m := jl2i_16 (a := ck h g n.toNat 0 / q16 ((j : Int) + 1)) ⟨by omega, by omega⟩
    have d := dg j (by omega)
    rw [band_15, a]
    generalize ck h g n.toNat 0 / q16 ((j : Int) + 1) = y at *
    omega
  have fr : ∀ (m : Nat) (q : Int) (σ : zG), (S_X2_keep_29 (ck h g n.toNat 0) m q σ).2 81 = σ 81 := fun m q σ => fr_S_X2_keep_29 _ _ _ _ (by decide)
  unfold R_X2_keep
  rw [fr, e42, e32, e]
  refine ⟨?_, ?_, ?_, fun k k0 k1 => ?_⟩
  · rw [zu_off _ _ _ (by decide), zu_off _ _ _ (by decide)]; exact e
  · rw [zu_off _ _ _ (by decide), zu_at, jl2i_s ⟨by omega, by omega⟩, w32_id ⟨by omega, by omega⟩]
  · rw [zu_at, jl2i_s ⟨by omega, by omega⟩, band_1023]
    omega
  · have kk := keep29 (n := n) (be := ck h g n.toNat 0) 10 0 (zu (zu σ 81 2 (w32 (n - jl2i (FS wu g n.toNat 0)))) 81 3 (band (jl2i (FS wu g n.toNat 0 * 1024 + FS (wh h) g n.toNat 0)) 1023)) (by decide) (by omega) (by rw [zu_off _ _ _ (by decide), zu_off _ _ _ (by decide)]; exact e)
    rw [kk.1 k k0 k1, ed k k0 k1]
/-- the class's feast: the least choice -/
def FE (n F : Int) (may : Int → Int → Prop) (h : Int → Int) (t81 t82 : Int → Int) : Prop := t81 1 = n ∧ ∃ g : Int → Int, VF n F may 0 0 g ∧ (∀ g' : Int → Int, VF n F may 0 0 g' → ck h g n.toNat 0 ≤ ck h g' n.toNat 0) ∧ t81 2 = n - FS wu g n.toNat 0 ∧ t81 3 = FS (wh h) g n.toNat 0 ∧ ∀ k : Int, 0 ≤ k → k < n → t82 k = if g k = 15 then -1 else g k
theorem settle_FE {σ : zG} {F : Int} (h0 : σ 81 0 = 0) (hn : 0 ≤ R_X2_takeDebts σ 81 1 ∧ R_X2_takeDebts σ 81 1 ≤ 8) (e5 : σ 5 1 = F) (hF : 0 ≤ F ∧ F ≤ 12) (hh : ∀ f : Int, 0 ≤ f → f < F → 0 ≤ σ 10 f ∧ σ 10 f ≤ 99) : FE (R_X2_takeDebts σ 81 1) F (fun k x => hb (R_X2_takeDebts σ 83 k) x) (σ 10) (R_X2_settle σ 81) (R_X2_settle σ 82) := by
  unfold R_X2_settle
  rw [if_pos h0]
  have frt : ∀ k : Nat, k ≠ 81 → k ≠ 83 → R_X2_takeDebts σ k = σ k := fun k a b => fr_R_X2_takeDebts _ (by simp; omega)
  have r0 : ∀ k : Nat, k ≠ 84 → (zu (zfl (R_X2_takeDebts σ) 84 256 1152921504606846976) 84 0 0) k = R_X2_takeDebts σ k := fun k hk => by rw [zu_row _ _ _ hk, fr_zfl (h := by simp; exact hk)]
  have fr39 : ∀ (se : Int) (m : Nat) (q : Int) (τ : zG) (k : Nat), k ≠ 84 → (S_X2_settle_39 se m q τ).2 k = τ k := fun se m q τ k hk => fr_S_X2_settle_39 _ _ _ _ (by simp; exact hk)
  have s78e : ∀ (se : Int) (m : Nat) (be q : Int) (τ : zG), (S_X2_settle_78 se m be q τ).2.2 = τ := fun se m be q τ => funext fun k => fr_S_X2_settle_78 _ _ _ _ _ (by simp)
  rw [s78e]
  generalize hσ1 : R_X2_takeDebts σ = σ1 at *
  generalize hnn : σ1 81 1 = n at *
  have I0 : INV n 0 (fun k x => hb (σ1 83 k) x) (σ 10) ((zu (zfl σ1 84 256 1152921504606846976) 84 0 0) 84) := by
    refine INV_0 hn (zu_at _ _ _ _) (fun s s0 s1 => ?_)
    rw [zu_off _ _ _ (by omega), zfl_at, if_pos ⟨by omega, s1⟩]
  have I1 := fs39 (F := F) hn hF.2 hh 20 0 _ (by decide) hF.1 (by omega) (by rw [r0 5 (by decide), frt 5 (by decide) (by decide)]; exact e5) (by rw [r0 81 (by decide)]; exact hnn) (r0 83 (by decide)) (by rw [r0 10 (by decide), frt 10 (by decide) (by decide)]) I0
  obtain ⟨g, g1, g2, g3⟩ := best_78 (σ := (S_X2_settle_39 (bshl 1 n) 20 0 (zu (zfl σ1 84 256 1152921504606846976) 84 0 0)).2) hn hF.2 hh (by rw [fr39 _ _ _ _ 81 (by decide), r0 81 (by decide)]; exact hnn) I1
  have kk := keep_of (h := σ 10) (g := g) (σ := (S_X2_settle_39 (bshl 1 n) 20 0 (zu (zfl σ1 84 256 1152921504606846976) 84 0 0)).2) hn hF.2 hh (fun j j0 j1 => VF_DG g1 j j0 j1) (by rw [fr39 _ _ _ _ 81 (by decide), r0 81 (by decide)]; exact hnn)
  rw [g2] at kk
  refine ⟨by rw [zu_off _ _ _ (by decide)]; exact kk.1, g, g1, fun g' h' => by rw [g2]; exact g3 g' h', by rw [zu_off _ _ _ (by decide)]; exact kk.2.1, by rw [zu_off _ _ _ (by decide)]; exact kk.2.2.1, fun k k0 k1 => by rw [zu_ne _ _ _ _ (by decide)]; exact kk.2.2.2 k k0 k1⟩
/-- what stands in the row of longs -/
theorem LB_13 {f hu se st : Int} (hf : 0 ≤ f ∧ f ≤ 15) (h1 : 0 ≤ hu ∧ hu ≤ 99) : ∀ (m : Nat) (q : Int) (σ : zG), 0 ≤ q → σ 81 1 ≤ 8 → LB (σ 84) → LB ((S_X2_tryFact_13 f hu se st m q σ).2 84)
  | 0, q, σ, _, _, h => h
  | m + 1, q, σ, q0, h8, h => by
    rw [S_X2_tryFact_13]
    split
    · exact h
    · next c =>
      split
      · split
        · refine LB_13 hf h1 m (q + 1) _ (by omega) (by rw [zu_ne _ _ _ _ (by decide)]; exact h8) (LB_put h ?_)
          have p := pr_q h1 hf (k := q) ⟨q0, by omega⟩
          have e : jshl hu 32 + jshl f (4 * (7 - q)) = pr hu f q := rfl
          rw [e]
          have a := h st
          have b := h (bxor st (bshl 1 q))
          omega
        · exact LB_13 hf h1 m (q + 1) σ (by omega) h8 h
      · exact LB_13 hf h1 m (q + 1) σ (by omega) h8 h
theorem LB_5 {f hu se : Int} (hf : 0 ≤ f ∧ f ≤ 15) (h1 : 0 ≤ hu ∧ hu ≤ 99) : ∀ (m : Nat) (st : Int) (σ : zG), σ 81 1 ≤ 8 → LB (σ 84) → LB ((S_X2_tryFact_5 f hu se m st σ).2 84)
  | 0, st, σ, _, h => h
  | m + 1, st, σ, h8, h => by
    rw [S_X2_tryFact_5]
    split
    · exact h
    · exact LB_5 hf h1 m _ _ (by rw [fr_S_X2_tryFact_13 (h := by decide)]; exact h8) (LB_13 hf h1 10 0 σ (by decide) h8 h)
theorem LB_39 {F se : Int} (hF : F ≤ 12) : ∀ (m : Nat) (q : Int) (σ : zG), 0 ≤ q → σ 5 1 = F → σ 81 1 ≤ 8 → (∀ f : Int, 0 ≤ f → f < F → 0 ≤ σ 10 f ∧ σ 10 f ≤ 99) → LB (σ 84) → LB ((S_X2_settle_39 se m q σ).2 84)
  | 0, q, σ, _, _, _, _, h => h
  | m + 1, q, σ, q0, e5, h8, hh, h => by
    rw [S_X2_settle_39]
    split
    · exact h
    · next c =>
      have fr : ∀ k : Nat, k ≠ 84 → R_X2_tryFact σ q (σ 10 q) se k = σ k := fun k hk => fr_R_X2_tryFact _ _ _ _ (by simp; exact hk)
      refine LB_39 hF m (q + 1) _ (by omega) (by rw [fr 5 (by decide)]; exact e5) (by rw [fr 81 (by decide)]; exact h8) (by rw [fr 10 (by decide)]; exact hh) ?_
      exact LB_5 ⟨q0, by omega⟩ (hh q q0 (by omega)) 300 _ σ h8 h
theorem LB_settle {σ : zG} {F : Int} (hn : 0 ≤ R_X2_takeDebts σ 81 1 ∧ R_X2_takeDebts σ 81 1 ≤ 8) (e5 : σ 5 1 = F) (hF : F ≤ 12) (hh : ∀ f : Int, 0 ≤ f → f < F → 0 ≤ σ 10 f ∧ σ 10 f ≤ 99) (hB : LB (σ 84)) : LB (R_X2_settle σ 84) := by
  unfold R_X2_settle
  split
  · have frt : ∀ k : Nat, k ≠ 81 → k ≠ 83 → R_X2_takeDebts σ k = σ k := fun k a b => fr_R_X2_takeDebts _ (by simp; omega)
    have r0 : ∀ k : Nat, k ≠ 84 → (zu (zfl (R_X2_takeDebts σ) 84 256 1152921504606846976) 84 0 0) k = R_X2_takeDebts σ k := fun k hk => by rw [zu_row _ _ _ hk, fr_zfl (h := by simp; exact hk)]
    rw [zu_row _ _ _ (by decide), fr_R_X2_keep (h := by decide), fr_S_X2_settle_78 (h := by simp)]
    refine LB_39 hF 20 0 _ (by decide) (by rw [r0 5 (by decide), frt 5 (by decide) (by decide)]; exact e5) (by rw [r0 81 (by decide)]; exact hn.2) (by rw [r0 10 (by decide), frt 10 (by decide) (by decide)]; exact hh) (LB_put ?_ ⟨by decide, by decide⟩)
    intro j
    rw [zfl_at]
    split
    · exact ⟨by decide, by decide⟩
    · rw [frt 84 (by decide) (by decide)]; exact hB j
  · exact hB
