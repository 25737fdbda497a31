/-! pure: the model's sorted truths -/
theorem ssum_ins {G : Int → Int} {t : Int → Int} {x j : Int} : ∀ n : Nat, 0 ≤ j → j ≤ n → ssum (fun k => G (if k < j then t k else if k = j then x else t (k - 1))) (n + 1) = ssum (fun k => G (t k)) n + G x
  | 0, h0, h1 => by
    have : j = 0 := by omega
    subst this
    show ssum _ 0 + G (if ((0 : Nat) : Int) < 0 then t ((0 : Nat) : Int) else if ((0 : Nat) : Int) = 0 then x else t (((0 : Nat) : Int) - 1)) = ssum _ 0 + G x
    rw [if_neg (by omega), if_pos (by omega)]
    rfl
  | n + 1, h0, h1 => by
    rw [ssum]
    by_cases c : j = ((n + 1 : Nat) : Int)
    · show ssum _ (n + 1) + G (if ((n + 1 : Nat) : Int) < j then t ((n + 1 : Nat) : Int) else if ((n + 1 : Nat) : Int) = j then x else t (((n + 1 : Nat) : Int) - 1)) = _
      rw [if_neg (by omega), if_pos c.symm]
      rw [ssum_cg (n + 1) (fun k k0 k1 => by show G (if k < j then t k else if k = j then x else t (k - 1)) = G (t k); rw [if_pos (by omega)])]
    · have ih := ssum_ins (G := G) (t := t) (x := x) n h0 (by omega)
      rw [ih]
      show ssum _ n + G x + G (if ((n + 1 : Nat) : Int) < j then t ((n + 1 : Nat) : Int) else if ((n + 1 : Nat) : Int) = j then x else t (((n + 1 : Nat) : Int) - 1)) = ssum (fun k => G (t k)) (n + 1) + G x
      rw [if_neg (by omega), if_neg (by omega), show ((n + 1 : Nat) : Int) - 1 = (n : Int) by omega]
      show _ = ssum (fun k => G (t k)) n + G (t n) + G x
      omega
/-- truths sorted in half way -/
def SH2 (t0 t : Int → Int) (x n j : Int) : Prop := (0 ≤ j ∧ j ≤ n) ∧ (∀ i : Int, 0 ≤ i → i < j → t i = t0 i) ∧ (∀ i : Int, j < i → i ≤ n → t i = t0 (i - 1)) ∧ ∀ i : Int, j ≤ i → i < n → t0 i < x
theorem sh2_loop {who x q v m : Int} {t0 : Int → Int} : ∀ (n : Nat) (j : Int) (σ : zG), SH2 t0 (σ 30) v m j → j.toNat < n → SH2 t0 ((S_X12_canPay_103 who x q v n j σ).2 30) v m (S_X12_canPay_103 who x q v n j σ).1 ∧ ((S_X12_canPay_103 who x q v n j σ).1 = 0 ∨ v ≤ t0 ((S_X12_canPay_103 who x q v n j σ).1 - 1))
  | 0, j, σ, _, h => absurd h (Nat.not_lt_zero _)
  | n + 1, j, σ, hs, hn => by
    obtain ⟨h0, h1, h2, h3⟩ := id hs
    rw [S_X12_canPay_103]
    by_cases c : j ≤ 0
    · rw [if_pos c]
      exact ⟨hs, Or.inl (by show j = 0; omega)⟩
    · rw [if_neg c, h1 (j - 1) (by omega) (by omega)]
      by_cases d : v ≤ t0 (j - 1)
      · rw [if_pos d]
        exact ⟨hs, Or.inr d⟩
      · rw [if_neg d]
        refine sh2_loop n (j + (-1)) _ ⟨by omega, fun i i0 i1 => ?_, fun i i0 i1 => ?_, fun i i0 i1 => ?_⟩ (by omega)
        · rw [zu_off _ _ _ (by omega)]; exact h1 i i0 (by omega)
        · rw [zu_if]
          by_cases z : i = j
          · rw [if_pos z, z]
          · rw [if_neg z]; exact h2 i (by omega) i1
        · by_cases z : i = j - 1
          · rw [z]; omega
          · exact h3 i (by omega) i1
/-- the truths of a set, sorted: those of the first q facts -/
def TR (A : Int) (v t : Int → Int) (n : Int) (q : Nat) : Prop := (0 ≤ n ∧ n ≤ q) ∧ (∀ i j : Int, 0 ≤ i → i < j → j < n → t j ≤ t i) ∧ n = ssum (fun f => if hb A f then 1 else 0) q ∧ ∀ d : Int, ssum (fun k => if d ≤ t k then 1 else 0) n.toNat = ssum (fun f => if hb A f then (if d ≤ v f then 1 else 0) else 0) q
theorem TR_put {A : Int} {v t t' : Int → Int} {n j : Int} {q : Nat} (h : TR A v t n q) (hA : hb A q) (hs : SH2 t t' (v q) n j) (hj : j = 0 ∨ v q ≤ t (j - 1)) : TR A v (fun i => if i = j then v q else t' i) (n + 1) (q + 1) := by
  obtain ⟨h0, hso, hn, hc⟩ := h
  obtain ⟨s0, s1, s2, s3⟩ := hs
  have g : ∀ i : Int, 0 ≤ i → i ≤ n → (if i = j then v q else t' i) = (if i < j then t i else if i = j then v q else t (i - 1)) := fun i i0 i1 => by
    rcases (show i < j ∨ i = j ∨ j < i by omega) with a | a | a
    · rw [if_neg (by omega), if_pos a]; exact s1 i i0 a
    · rw [if_pos a, if_neg (by omega), if_pos a]
    · rw [if_neg (by omega), if_neg (by omega), if_neg (by omega)]; exact s2 i a i1
  refine ⟨by omega, fun i k i0 ik k1 => ?_, ?_, fun d => ?_⟩
  · show (if k = j then v q else t' k) ≤ (if i = j then v q else t' i)
    rw [g i i0 (by omega), g k (by omega) (by omega)]
    rcases (show i < j ∨ i = j ∨ j < i by omega) with a | a | a
    · rw [if_pos a]
      have hv : ∀ y : Int, i = y ∨ i < y → y = j - 1 → v q ≤ t i := fun y hy ey => by
        have := hj.resolve_left (by omega)
        rcases hy with z | z
        · rw [z, ey]; exact this
        · rw [ey] at z
          exact Int.le_trans this (hso i (j - 1) i0 z (by omega))
      rcases (show k < j ∨ k = j ∨ j < k by omega) with b | b | b
      · rw [if_pos b]; exact hso i k i0 ik (by omega)
      · rw [if_neg (by omega), if_pos b]; exact hv (j - 1) (by omega) rfl
      · rw [if_neg (by omega), if_neg (by omega)]; exact hso i (k - 1) i0 (by omega) (by omega)
    · rw [if_neg (by omega), if_neg (by omega), if_neg (show ¬ i < j by omega), if_pos a]
      exact Int.le_of_lt (s3 (k - 1) (by omega) (by omega))
    · rw [if_neg (by omega), if_neg (by omega), if_neg (show ¬ i < j by omega), if_neg (show ¬ i = j by omega)]
      exact hso (i - 1) (k - 1) (by omega) (by omega) (by omega)
  · rw [ssum, ← hn]
    show n + 1 = n + (if hb A q then 1 else 0)
    rw [if_pos hA]
  · have e : (n + 1).toNat = n.toNat + 1 := by omega
    rw [e, ssum_cg (n.toNat + 1) (fun k k0 k1 => by
      show (if d ≤ (if k = j then v q else t' k) then (1 : Int) else 0) = (fun y => if d ≤ y then (1 : Int) else 0) (if k < j then t k else if k = j then v q else t (k - 1))
      rw [g k k0 (by omega)]), ssum_ins (G := fun y => if d ≤ y then (1 : Int) else 0) (t := t) (x := v q) n.toNat s0.1 (by omega)]
    show ssum (fun k => if d ≤ t k then 1 else 0) n.toNat + (if d ≤ v q then 1 else 0) = ssum _ q + (if hb A q then (if d ≤ v q then 1 else 0) else 0)
    rw [hc d, if_pos hA]
theorem TR_skip {A : Int} {v t : Int → Int} {n : Int} {q : Nat} (h : TR A v t n q) (hA : ¬ hb A q) : TR A v t n (q + 1) := by
  obtain ⟨h0, hso, hn, hc⟩ := h
  refine ⟨by omega, hso, ?_, fun d => ?_⟩
  · rw [ssum, ← hn]
    show n = n + (if hb A q then 1 else 0)
    rw [if_neg hA]; omega
  · rw [hc d]
    show _ = ssum _ q + (if hb A q then (if d ≤ v q then 1 else 0) else 0)
    rw [if_neg hA]; omega
theorem ssum_1 : ∀ n : Nat, ssum (fun _ => 1) n = n
  | 0 => rfl
  | n + 1 => by rw [ssum, ssum_1 n]; omega
theorem ssum_cut {g : Int → Int} : ∀ (k m : Nat), (∀ f : Int, (m : Int) ≤ f → f < ((m + k : Nat) : Int) → g f = 0) → ssum g (m + k) = ssum g m
  | 0, m, _ => rfl
  | k + 1, m, h => by
    show ssum g (m + k) + g ((m + k : Nat) : Int) = ssum g m
    rw [ssum_cut k m (fun f a b => h f a (by omega)), h _ (by omega) (by omega)]; omega
/-- a sorted row: its k-th is at least d just if more than k are -/
theorem srt_cnt {t : Int → Int} {n : Int} (hs : ∀ i j : Int, 0 ≤ i → i < j → j < n → t j ≤ t i) {k : Int} (k0 : 0 ≤ k) (k1 : k < n) (d : Int) : d ≤ t k ↔ k + 1 ≤ ssum (fun i => if d ≤ t i then 1 else 0) n.toNat := by
  constructor
  · intro h
    have a : ssum (fun i => if i < k + 1 then 1 else 0) n.toNat ≤ ssum (fun i => if d ≤ t i then 1 else 0) n.toNat := ssum_le _ (fun i i0 i1 => by
      show (if i < k + 1 then (1 : Int) else 0) ≤ (if d ≤ t i then 1 else 0)
      by_cases c : i < k + 1
      · have : d ≤ t i := by
          by_cases e : i = k
          · rw [e]; exact h
          · exact Int.le_trans h (hs i k i0 (by omega) k1)
        rw [if_pos c, if_pos this]; exact Int.le_refl _
      · rw [if_neg c]; split <;> decide)
    have b : ssum (fun i => if i < k + 1 then 1 else 0) n.toNat = k + 1 := by
      have e : n.toNat = (k + 1).toNat + (n.toNat - (k + 1).toNat) := by omega
      rw [e, ssum_cut _ _ (fun f f0 f1 => by show (if f < k + 1 then (1 : Int) else 0) = 0; exact if_neg (by omega)), ssum_cg _ (fun f f0 f1 => by show (if f < k + 1 then (1 : Int) else 0) = 1; exact if_pos (by omega)), ssum_1]
      omega
    omega
  · intro h
    by_cases c : d ≤ t k
    · exact c
    · have a : ssum (fun i => if d ≤ t i then 1 else 0) n.toNat ≤ ssum (fun i => if i < k then 1 else 0) n.toNat := ssum_le _ (fun i i0 i1 => by
        show (if d ≤ t i then (1 : Int) else 0) ≤ (if i < k then 1 else 0)
        by_cases z : i < k
        · rw [if_pos z]; split <;> decide
        · have : ¬ d ≤ t i := by
            by_cases e : i = k
            · rw [e]; exact c
            · have := hs k i k0 (by omega) (by omega); omega
          rw [if_neg this, if_neg z]; exact Int.le_refl _)
      have b : ssum (fun i => if i < k then 1 else 0) n.toNat = k := by
        have e : n.toNat = k.toNat + (n.toNat - k.toNat) := by omega
        rw [e, ssum_cut _ _ (fun f f0 f1 => by show (if f < k then (1 : Int) else 0) = 0; exact if_neg (by omega)), ssum_cg _ (fun f f0 f1 => by show (if f < k then (1 : Int) else 0) = 1; exact if_pos (by omega)), ssum_1]
        omega
      omega
/-- the truths sorted in by the model -/
theorem truth_loop {σ0 μ0 : zG} (h : NX σ0 μ0) {who x : Int} (hw : 0 ≤ who ∧ who < μ0 2 0) (hx : 0 ≤ x ∧ x < 4096) : ∀ (n : Nat) (q : Nat) (μ : zG), (∀ k : Nat, k ≠ 0 → k ≠ 29 → k ≠ 30 → μ k = μ0 k) → (∀ j : Int, j < 53 → μ 0 j = μ0 0 j) → (q : Int) ≤ μ0 2 1 → TR (bor (μ0 11 who) x) (vm μ0 who) (μ 30) (μ 0 54) q → (μ0 2 1 - q).toNat < n → TR (bor (μ0 11 who) x) (vm μ0 who) ((S_X12_canPay_22 who x n q μ).2 30) ((S_X12_canPay_22 who x n q μ).2 0 54) (μ0 2 1).toNat ∧ ∀ j : Int, j ≠ 54 → (S_X12_canPay_22 who x n q μ).2 0 j = μ 0 j
  | 0, q, μ, _, _, _, _, h => absurd h (Nat.not_lt_zero _)
  | n + 1, q, μ, hr, hz, hq, ht, hn => by
    have hp := h.1.1
    have hF := h.1.2.1
    rw [S_X12_canPay_22, hr 2 (by decide) (by decide) (by decide), hr 11 (by decide) (by decide) (by decide)]
    by_cases c : μ0 2 1 ≤ (q : Int)
    · rw [if_pos c]
      have e : (μ0 2 1).toNat = q := by omega
      rw [e]; exact ⟨ht, fun _ _ => rfl⟩
    · rw [if_neg c]
      have hx2 : NX σ0 μ := NX_r h (fun _ _ => rfl) hr hz
      have ow := (h.2.1.1 who hw.1 (by omega)).2.1
      have ob : hb (bor (μ0 11 who) x) q ↔ hb (μ0 11 who) q ∨ hb x q := hb_bor ow hx ⟨by omega, by omega⟩
      have we : vm μ who q = vm μ0 who q := vm_c h hx2 (hr 2 (by decide) (by decide) (by decide)) (hr 11 (by decide) (by decide) (by decide)) hw ⟨by omega, by omega⟩
      have q1 : ((q + 1 : Nat) : Int) = (q : Int) + 1 := by omega
      have put : ∀ V : Int, V = vm μ0 who q → hb (bor (μ0 11 who) x) q → TR (bor (μ0 11 who) x) (vm μ0 who) ((S_X12_canPay_22 who x n ((q : Int) + 1) (zu (zu ((S_X12_canPay_103 who x q V 20 (μ 0 54) μ).2) 30 ((S_X12_canPay_103 who x q V 20 (μ 0 54) μ).1) V) 0 54 ((μ 0 54) + 1))).2 30) ((S_X12_canPay_22 who x n ((q : Int) + 1) (zu (zu ((S_X12_canPay_103 who x q V 20 (μ 0 54) μ).2) 30 ((S_X12_canPay_103 who x q V 20 (μ 0 54) μ).1) V) 0 54 ((μ 0 54) + 1))).2 0 54) (μ0 2 1).toNat ∧ ∀ j : Int, j ≠ 54 → (S_X12_canPay_22 who x n ((q : Int) + 1) (zu (zu ((S_X12_canPay_103 who x q V 20 (μ 0 54) μ).2) 30 ((S_X12_canPay_103 who x q V 20 (μ 0 54) μ).1) V) 0 54 ((μ 0 54) + 1))).2 0 j = μ 0 j := by
        intro V eV hA
        have n0 := ht.1
        have sl := sh2_loop (who := who) (x := x) (q := q) (v := V) (m := μ 0 54) (t0 := μ 30) 20 (μ 0 54) μ ⟨⟨n0.1, Int.le_refl _⟩, fun i _ _ => rfl, fun i a b => by omega, fun i a b => by omega⟩ (by omega)
        have fr : ∀ k : Nat, k ≠ 30 → (S_X12_canPay_103 who x q V 20 (μ 0 54) μ).2 k = μ k := fun k hk => fr_S_X12_canPay_103 _ _ _ _ _ _ _ (by simpa using hk)
        generalize S_X12_canPay_103 who x q V 20 (μ 0 54) μ = r at *
        have rr : ∀ k : Nat, k ≠ 0 → k ≠ 30 → zu (zu r.2 30 r.1 V) 0 54 (μ 0 54 + 1) k = μ k := fun k k0 k3 => by rw [zu_row _ _ _ k0, zu_row _ _ _ k3]; exact fr k k3
        have r0 : ∀ j : Int, j ≠ 54 → zu (zu r.2 30 r.1 V) 0 54 (μ 0 54 + 1) 0 j = μ 0 j := fun j hj => by rw [zu_off _ _ _ hj, zu_ne _ _ _ _ (by decide), fr 0 (by decide)]
        have r30 : zu (zu r.2 30 r.1 V) 0 54 (μ 0 54 + 1) 30 = fun i => if i = r.1 then vm μ0 who q else r.2 30 i := by
          rw [zu_row _ _ _ (by decide)]
          funext i
          rw [zu_if, eV]
        rw [eV] at sl
        have tp := TR_put ht hA sl.1 sl.2
        have ih := truth_loop h hw hx n (q + 1) (zu (zu r.2 30 r.1 V) 0 54 (μ 0 54 + 1)) (fun k k0 k9 k3 => by rw [rr k k0 k3]; exact hr k k0 k9 k3) (fun j hj => by rw [r0 j (by omega)]; exact hz j hj) (by omega) (by rw [r30, zu_at]; exact tp) (by omega)
        rw [q1] at ih
        exact ⟨ih.1, fun j hj => by rw [ih.2 j hj, r0 j hj]⟩
      by_cases o : hb (μ0 11 who) q
      · rw [if_pos o]
        refine put _ ?_ (ob.mpr (Or.inl o))
        rw [← we]
        unfold vm
        rw [hr 11 (by decide) (by decide) (by decide), if_pos o]
      · rw [if_neg o]
        by_cases s : hb x q
        · rw [if_pos s]
          refine put _ ?_ (ob.mpr (Or.inr s))
          unfold vm
          rw [if_neg o]
        · rw [if_neg s]
          have ih := truth_loop h hw hx n (q + 1) μ hr hz (by omega) (TR_skip ht (fun y => (ob.mp y).elim o s)) (by omega)
          rw [q1] at ih
          exact ih
theorem check_loop {who x : Int} : ∀ (n : Nat) (q : Int) (μ : zG), (μ 0 53 - q).toNat < n → ((L_X12_canPay_184 who x n q μ).1 = 1 ∨ (L_X12_canPay_184 who x n q μ).1 = 0) ∧ ((L_X12_canPay_184 who x n q μ).1 = 1 ↔ ∀ k : Int, q ≤ k → k < μ 0 53 → μ 29 k ≤ μ 30 k) ∧ (L_X12_canPay_184 who x n q μ).2 = μ
  | 0, q, μ, h => absurd h (Nat.not_lt_zero _)
  | n + 1, q, μ, h => by
    rw [L_X12_canPay_184]
    by_cases c : μ 0 53 ≤ q
    · rw [if_pos c]
      exact ⟨Or.inl rfl, ⟨fun _ k a b => by omega, fun _ => rfl⟩, rfl⟩
    · rw [if_neg c]
      by_cases d : μ 29 q ≤ μ 30 q
      · rw [if_pos d]
        have ih := check_loop (who := who) (x := x) n (q + 1) μ (by omega)
        refine ⟨ih.1, ?_, ih.2.2⟩
        rw [ih.2.1]
        constructor
        · intro y k a b
          by_cases e : k = q
          · rw [e]; exact d
          · exact y k (by omega) b
        · exact fun y k a b => y k (by omega) b
      · rw [if_neg d]
        exact ⟨Or.inr rfl, ⟨fun y => absurd y (show ¬ (0 : Int) = 1 by decide), fun y => absurd (y q (Int.le_refl _) (by omega)) d⟩, rfl⟩
/-- whether a set pays, as the model finds it -/
theorem pays {σ0 μ0 μ : zG} (h : NX σ0 μ0) {who x : Int} (hw : 0 ≤ who ∧ who < μ0 2 0) (hx : 0 ≤ x ∧ x < 4096) (hxF : ∀ f : Int, μ0 2 1 ≤ f → f < 12 → ¬ hb x f) (hr : ∀ k : Nat, k ≠ 0 → k ≠ 29 → k ≠ 30 → μ k = μ0 k) (hz : ∀ j : Int, j < 53 → μ 0 j = μ0 0 j) (hd : 0 ≤ μ 0 53) : ((R_X12_canPay μ who x).1 = 0 ∨ (R_X12_canPay μ who x).1 = 1) ∧ ((R_X12_canPay μ who x).1 = 1 ↔ μ 0 53 ≤ μ0 2 1 ∧ okd (vm μ0 who) (μ 29) (μ 0 53) (bor (μ0 11 who) x)) ∧ (∀ k : Nat, k ≠ 0 → k ≠ 30 → (R_X12_canPay μ who x).2 k = μ k) ∧ ∀ j : Int, j ≠ 54 → (R_X12_canPay μ who x).2 0 j = μ 0 j := by
  have hp := h.1.1
  have hF := h.1.2.1
  have fr : ∀ k : Nat, k ≠ 0 → k ≠ 30 → (R_X12_canPay μ who x).2 k = μ k := fun k a b => fr_R_X12_canPay _ _ _ (by simp; omega)
  have ow := h.2.1.1 who hw.1 (by omega)
  have offA : ∀ f : Int, μ0 2 1 ≤ f → f < 12 → ¬ hb (bor (μ0 11 who) x) f := fun f a b => by
    rw [hb_bor ow.2.1 hx ⟨by omega, by omega⟩]
    rintro (y | y)
    · exact ow.2.2 f a b y
    · exact hxF f a b y
  have cut : ∀ g : Int → Int, ws g (bor (μ0 11 who) x) = ssum (fun f => if hb (bor (μ0 11 who) x) f then g f else 0) (μ0 2 1).toNat := fun g => by
    have e : 12 = (μ0 2 1).toNat + (12 - (μ0 2 1).toNat) := by omega
    unfold ws
    rw [e, ssum_cut _ _ (fun f f0 f1 => if_neg (offA f (by omega) (by omega)))]
  have z54 : zu μ 0 54 0 0 54 = 0 := zu_at _ _ _ _
  have t0 : TR (bor (μ0 11 who) x) (vm μ0 who) (zu μ 0 54 0 30) (zu μ 0 54 0 0 54) 0 := by
    rw [z54]
    exact ⟨⟨by decide, by decide⟩, fun i j a b c => by omega, rfl, fun d => rfl⟩
  have tl := truth_loop h hw hx 20 0 (zu μ 0 54 0) (fun k a b c => by rw [zu_row _ _ _ a]; exact hr k a b c) (fun j hj => by rw [zu_off _ _ _ (by omega)]; exact hz j hj) (by omega) t0 (by omega)
  have fs : ∀ k : Nat, k ≠ 0 → k ≠ 30 → (S_X12_canPay_22 who x 20 0 (zu μ 0 54 0)).2 k = μ k := fun k a b => by rw [fr_S_X12_canPay_22 (h := by simp; omega), zu_row _ _ _ a]
  unfold R_X12_canPay
  rw [hr 2 (by decide) (by decide) (by decide)]
  have tl' : TR (bor (μ0 11 who) x) (vm μ0 who) ((S_X12_canPay_22 who x 20 0 (zu μ 0 54 0)).2 30) ((S_X12_canPay_22 who x 20 0 (zu μ 0 54 0)).2 0 54) (μ0 2 1).toNat := tl.1
  have tz : ∀ j : Int, j ≠ 54 → (S_X12_canPay_22 who x 20 0 (zu μ 0 54 0)).2 0 j = μ 0 j := fun j hj => by
    have := tl.2 j hj
    rw [zu_off _ _ _ hj] at this
    exact this
  generalize (S_X12_canPay_22 who x 20 0 (zu μ 0 54 0)).2 = ν at *
  have okd_iff : okd (vm μ0 who) (μ 29) (μ 0 53) (bor (μ0 11 who) x) ↔ μ 0 53 ≤ ν 0 54 ∧ ∀ k : Int, 0 ≤ k → k < μ 0 53 → μ 29 k ≤ ν 30 k := by
    obtain ⟨n0, so, nn, cn⟩ := tl'
    have c1 : ∀ d : Int, ws (fun f => if d ≤ vm μ0 who f then 1 else 0) (bor (μ0 11 who) x) = ssum (fun k => if d ≤ ν 30 k then 1 else 0) (ν 0 54).toNat := fun d => by rw [cut, cn d]
    have le : ∀ d : Int, ssum (fun k => if d ≤ ν 30 k then 1 else 0) (ν 0 54).toNat ≤ ν 0 54 := fun d => by
      have := ssum_le (g := fun k => if d ≤ ν 30 k then 1 else 0) (g' := fun _ => 1) (ν 0 54).toNat (fun f _ _ => by show (if d ≤ ν 30 f then (1 : Int) else 0) ≤ 1; split <;> decide)
      rw [ssum_1] at this
      omega
    constructor
    · intro ok
      have m : μ 0 53 ≤ ν 0 54 := by
        by_cases z : μ 0 53 = 0
        · omega
        · have a := ok (μ 0 53 - 1) (by omega) (by omega)
          rw [c1] at a
          have := le (μ 29 (μ 0 53 - 1))
          omega
      refine ⟨m, fun k k0 k1 => ?_⟩
      have a := ok k k0 k1
      rw [c1] at a
      exact (srt_cnt so k0 (by omega) _).mpr a
    · rintro ⟨m, y⟩ k k0 k1
      rw [c1]
      exact (srt_cnt so k0 (by omega) _).mp (y k k0 k1)
  by_cases c : μ 0 53 ≤ μ0 2 1
  · rw [if_pos c]
    by_cases m : μ 0 53 ≤ ν 0 54
    · rw [if_pos m]
      have ck := check_loop (who := who) (x := x) 20 0 ν (by rw [tz 53 (by decide)]; omega)
      rw [tz 53 (by decide), fs 29 (by decide) (by decide)] at ck
      refine ⟨ck.1.symm, ?_, fun k a b => by rw [ck.2.2]; exact fs k a b, fun j hj => by rw [ck.2.2]; exact tz j hj⟩
      rw [ck.2.1, okd_iff]
      exact ⟨fun y => ⟨c, m, y⟩, fun y => y.2.2⟩
    · rw [if_neg m]
      exact ⟨Or.inl rfl, ⟨fun y => absurd y (show ¬ (0 : Int) = 1 by decide), fun y => absurd (okd_iff.mp y.2).1 m⟩, fun k a b => fs k a b, fun j hj => tz j hj⟩
  · rw [if_neg c]
    exact ⟨Or.inl rfl, ⟨fun y => absurd y (show ¬ (0 : Int) = 1 by decide), fun y => absurd y.1 c⟩, fun _ _ _ => rfl, fun _ _ => rfl⟩
