/-! pure: the class's table of the least sets -/
theorem dues_0 {who : Int} : ∀ (n : Nat) (q : Int) (μ : zG) (j : Int), j ≠ 53 → L_X12_duesOf_7 who n q μ 0 j = μ 0 j
  | 0, q, μ, j, _ => rfl
  | n + 1, q, μ, j, hj => by
    rw [L_X12_duesOf_7]
    split
    · rfl
    · split
      · split
        · exact dues_0 n (q + 1) μ j hj
        · rw [dues_0 n (q + 1) _ j hj, zu_off _ _ _ hj, zu_ne _ _ _ _ (by decide), fr_S_X12_duesOf_42 (h := by decide)]
      · exact dues_0 n (q + 1) μ j hj
theorem fact_eq {σ μ : zG} (h : NX σ μ) {who f b : Int} (hw : 0 ≤ who ∧ who < μ 2 0) (hf : 0 ≤ f ∧ f < μ 2 1) : R_X10_takeFact σ who f b = zu ((S_X10_takeFact_92 who f b 20 f (zu (zu σ 86 f (vm μ who f)) 87 f (pm μ who b f))).2) 88 ((S_X10_takeFact_92 who f b 20 f (zu (zu σ 86 f (vm μ who f)) 87 f (pm μ who b f))).1) f := by
  have hp := h.1.1
  have hF := h.1.2.1
  have e54 := (h.2.1.1 who hw.1 (by omega)).1
  have br := bit_r (c := f) ⟨hf.1, by omega⟩
  have f9 := h.1.2.2.2.2.1 f hf.1 hf.2
  have s15 := h.1.2.2.2.1
  have eo : V_X4_oldValue σ f = Int.tdiv (w32 ((μ 2 (8 + (3 * f))) * (μ 2 4))) 10 := by
    unfold V_X4_oldValue
    rw [f9.1, s15.2.1]
  unfold R_X10_takeFact vm pm
  rw [e54]
  by_cases c : hb (μ 11 who) f
  · rw [if_pos c, if_pos c, if_pos c, worth_eq h.1 h.2.1 hw hf]
  · rw [if_neg c, if_neg c, if_neg c, eo]
    by_cases b0 : b = 0
    · have z : bshl 0 16 = 0 := by decide
      rw [if_pos b0, if_pos b0, z, w32_id (z := 0 + 4096) ⟨by decide, by decide⟩, w32_id (z := 0 + 4096 + bshl 1 f) ⟨by omega, by omega⟩, Int.zero_add]
    · rw [if_neg b0, if_neg b0]
      rcases price_eq h (who := who) (f := f) ⟨hf.1, by omega⟩ with a | a
      · rw [if_pos a.1, if_pos a.2]
      · rw [if_neg (show ¬ R_X4_priceFor σ who f = -1 by omega), if_neg (show ¬ R_X12_price μ who f = 1000000000 by omega), a.1]
        obtain ⟨x, hx⟩ := toN2 a.2.1
        have e := bshl_nat (a := x) (i := 16) (by decide) (by omega)
        rw [← hx, show ((16 : Nat) : Int) = 16 from rfl] at e
        have e' : bshl (R_X12_price μ who f) 16 = R_X12_price μ who f * 65536 := by rw [e, hx]; omega
        rw [e', w32_id (z := R_X12_price μ who f * 65536 + 4096) ⟨by omega, by omega⟩, w32_id (z := R_X12_price μ who f * 65536 + 4096 + bshl 1 f) ⟨by omega, by omega⟩]
/-- the order half shifted -/
def SH (e v t : Int → Int) (f j : Int) : Prop := (0 ≤ j ∧ j ≤ f) ∧ (∀ i : Int, 0 ≤ i → i < j → t i = e i) ∧ (∀ i : Int, j < i → i ≤ f → t i = e (i - 1)) ∧ ∀ i : Int, j ≤ i → i < f → v (e i) < v f
theorem sh_loop {who f b : Int} {e v : Int → Int} : ∀ (n : Nat) (j : Int) (σ : zG), σ 86 = v → SH e v (σ 88) f j → j.toNat < n → SH e v ((S_X10_takeFact_92 who f b n j σ).2 88) f (S_X10_takeFact_92 who f b n j σ).1 ∧ ((S_X10_takeFact_92 who f b n j σ).1 = 0 ∨ v f ≤ v (e ((S_X10_takeFact_92 who f b n j σ).1 - 1)))
  | 0, j, σ, _, _, h => absurd h (Nat.not_lt_zero _)
  | n + 1, j, σ, hv, hs, hn => by
    obtain ⟨h0, h1, h2, h3⟩ := id hs
    rw [S_X10_takeFact_92]
    by_cases c : j ≤ 0
    · rw [if_pos c]
      exact ⟨hs, Or.inl (by show j = 0; omega)⟩
    · rw [if_neg c, h1 (j - 1) (by omega) (by omega), hv]
      by_cases d : v f ≤ v (e (j - 1))
      · rw [if_pos d]
        exact ⟨hs, Or.inr d⟩
      · rw [if_neg d]
        refine sh_loop n (j + (-1)) _ (by rw [zu_row _ _ _ (by decide)]; exact hv) ⟨by omega, fun i i0 i1 => ?_, fun i i0 i1 => ?_, fun i i0 i1 => ?_⟩ (by omega)
        · rw [zu_off _ _ _ (by omega)]; exact h1 i i0 (by omega)
        · rw [zu_if]
          by_cases z : i = j
          · rw [if_pos z, z]
          · rw [if_neg z]; exact h2 i (by omega) i1
        · by_cases z : i = j - 1
          · rw [z]; omega
          · exact h3 i (by omega) i1
theorem DOR_ins {e t v : Int → Int} {f j : Int} (h : DOR v e f) (hs : SH e v t f j) (hj : j = 0 ∨ v f ≤ v (e (j - 1))) : DOR v (fun i => if i = j then f else t i) (f + 1) := by
  obtain ⟨r, s, c⟩ := h
  obtain ⟨h0, h1, h2, h3⟩ := hs
  have g : ∀ i : Int, 0 ≤ i → i ≤ f → (i < j → (if i = j then f else t i) = e i) ∧ (i = j → (if i = j then f else t i) = f) ∧ (j < i → (if i = j then f else t i) = e (i - 1)) := fun i i0 i1 => ⟨fun a => by rw [if_neg (by omega)]; exact h1 i i0 a, fun a => if_pos a, fun a => by rw [if_neg (by omega)]; exact h2 i a i1⟩
  refine ⟨fun i i0 i1 => ?_, fun i k i0 ik k1 => ?_, fun x x0 x1 => ?_⟩
  · show 0 ≤ (if i = j then f else t i) ∧ (if i = j then f else t i) < f + 1
    have gi := g i i0 (by omega)
    rcases (show i < j ∨ i = j ∨ j < i by omega) with a | a | a
    · rw [gi.1 a]; have := r i i0 (by omega); omega
    · rw [gi.2.1 a]; omega
    · rw [gi.2.2 a]; have := r (i - 1) (by omega) (by omega); omega
  · show (if i = j then f else t i) ≠ (if k = j then f else t k) ∧ v (if k = j then f else t k) ≤ v (if i = j then f else t i)
    have gi := g i i0 (by omega)
    have gk := g k (by omega) (by omega)
    rcases (show i < j ∨ i = j ∨ j < i by omega) with a | a | a
    · rw [gi.1 a]
      rcases (show k < j ∨ k = j ∨ j < k by omega) with b | b | b
      · rw [gk.1 b]; exact s i k i0 ik (by omega)
      · rw [gk.2.1 b]
        have ri := r i i0 (by omega)
        refine ⟨by omega, ?_⟩
        have hv := hj.resolve_left (by omega)
        by_cases z : i = j - 1
        · rw [z]; exact hv
        · exact Int.le_trans hv (s i (j - 1) i0 (by omega) (by omega)).2
      · rw [gk.2.2 b]; exact s i (k - 1) i0 (by omega) (by omega)
    · rw [gi.2.1 a, gk.2.2 (by omega)]
      have rk := r (k - 1) (by omega) (by omega)
      exact ⟨by omega, Int.le_of_lt (h3 (k - 1) (by omega) (by omega))⟩
    · rw [gi.2.2 a, gk.2.2 (by omega)]; exact s (i - 1) (k - 1) (by omega) (by omega) (by omega)
  · by_cases z : x = f
    · exact ⟨j, by omega, by omega, by show (if j = j then f else t j) = x; rw [if_pos rfl, z]⟩
    · obtain ⟨q, q0, q1, q2⟩ := c x x0 (by omega)
      by_cases a : q < j
      · exact ⟨q, q0, by omega, by show (if q = j then f else t q) = x; rw [(g q q0 (by omega)).1 a]; exact q2⟩
      · refine ⟨q + 1, by omega, by omega, ?_⟩
        show (if q + 1 = j then f else t (q + 1)) = x
        rw [(g (q + 1) (by omega) (by omega)).2.2 (by omega), show q + 1 - 1 = q by omega]; exact q2
theorem DOR_v {v v' e : Int → Int} {F : Int} (h : DOR v e F) (hv : ∀ g : Int, 0 ≤ g → g < F → v' g = v g) : DOR v' e F := by
  obtain ⟨r, s, c⟩ := h
  refine ⟨r, fun i j i0 ij j1 => ?_, c⟩
  have ri := r i i0 (by omega)
  have rj := r j (by omega) j1
  rw [hv _ ri.1 ri.2, hv _ rj.1 rj.2]
  exact s i j i0 ij j1
/-- the facts sorted in, so far -/
def SF (μ : zG) (who b q : Int) (σ : zG) : Prop := DOR (σ 86) (σ 88) q ∧ ∀ g : Int, 0 ≤ g → g < q → σ 86 g = vm μ who g ∧ σ 87 g = pm μ who b g
theorem SF_s {σ μ : zG} (h : NX σ μ) {who f b : Int} (hw : 0 ≤ who ∧ who < μ 2 0) (hf : 0 ≤ f ∧ f < μ 2 1) (hs : SF μ who b f σ) : SF μ who b (f + 1) (R_X10_takeFact σ who f b) := by
  have hF := h.1.2.1
  rw [fact_eq h hw hf]
  have e86 : zu (zu σ 86 f (vm μ who f)) 87 f (pm μ who b f) 86 = zu σ 86 f (vm μ who f) 86 := zu_row _ _ _ (by decide)
  have e88 : zu (zu σ 86 f (vm μ who f)) 87 f (pm μ who b f) 88 = σ 88 := by rw [zu_row _ _ _ (by decide), zu_row _ _ _ (by decide)]
  have e87 : ∀ g : Int, zu (zu σ 86 f (vm μ who f)) 87 f (pm μ who b f) 87 g = if g = f then pm μ who b f else σ 87 g := fun g => by rw [zu_if, zu_ne _ _ _ _ (by decide)]
  have sl := sh_loop (who := who) (f := f) (b := b) (e := σ 88) (v := zu σ 86 f (vm μ who f) 86) 20 f (zu (zu σ 86 f (vm μ who f)) 87 f (pm μ who b f)) e86 ⟨⟨hf.1, Int.le_refl _⟩, fun i i0 i1 => by rw [e88], fun i i0 i1 => by omega, fun i i0 i1 => by omega⟩ (by omega)
  have fr : ∀ k : Nat, k ≠ 88 → (S_X10_takeFact_92 who f b 20 f (zu (zu σ 86 f (vm μ who f)) 87 f (pm μ who b f))).2 k = zu (zu σ 86 f (vm μ who f)) 87 f (pm μ who b f) k := fun k hk => fr_S_X10_takeFact_92 _ _ _ _ _ _ (by simpa using hk)
  generalize S_X10_takeFact_92 who f b 20 f (zu (zu σ 86 f (vm μ who f)) 87 f (pm μ who b f)) = r at *
  have d0 : DOR (zu σ 86 f (vm μ who f) 86) (σ 88) f := DOR_v hs.1 (fun g g0 g1 => zu_off _ _ _ (by omega))
  have di := DOR_ins d0 sl.1 sl.2
  have r86 : zu r.2 88 r.1 f 86 = zu σ 86 f (vm μ who f) 86 := by rw [zu_row _ _ _ (by decide), fr 86 (by decide), e86]
  refine ⟨?_, fun g g0 g1 => ⟨?_, ?_⟩⟩
  · rw [r86]
    have : zu r.2 88 r.1 f 88 = fun i => if i = r.1 then f else r.2 88 i := by funext i; exact zu_if _ _ _ _ _
    rw [this]; exact di
  · rw [r86, zu_if]
    by_cases z : g = f
    · rw [if_pos z, z]
    · rw [if_neg z]; exact (hs.2 g g0 (by omega)).1
  · rw [zu_ne _ _ _ _ (by decide), fr 87 (by decide), e87]
    by_cases z : g = f
    · rw [if_pos z, z]
    · rw [if_neg z]; exact (hs.2 g g0 (by omega)).2
theorem SF_loop {σ0 μ : zG} (h : NX σ0 μ) {who b du : Int} (hw : 0 ≤ who ∧ who < μ 2 0) : ∀ (n : Nat) (q : Int) (σ : zG), (∀ k : Nat, k < 86 → σ k = σ0 k) → 0 ≤ q → q ≤ μ 2 1 → SF μ who b q σ → (μ 2 1 - q).toNat < n → SF μ who b (μ 2 1) (S_X10_leastFor_29 who b du (μ 2 1) n q σ).2
  | 0, q, σ, _, _, _, _, h => absurd h (Nat.not_lt_zero _)
  | n + 1, q, σ, hr, q0, q1, hs, hn => by
    rw [S_X10_leastFor_29]
    by_cases c : μ 2 1 ≤ q
    · rw [if_pos c]
      have e : q = μ 2 1 := by omega
      rw [← e]; exact hs
    · rw [if_neg c]
      have hx : NX σ μ := NX_r h hr (fun _ _ _ _ => rfl) (fun _ _ => rfl)
      refine SF_loop h hw n (q + 1) _ (fun k hk => ?_) (by omega) (by omega) (SF_s hx hw ⟨q0, by omega⟩ hs) (by omega)
      rw [fr_R_X10_takeFact (h := by simp; omega)]; exact hr k hk
/-- one fact's pass over the table -/
theorem pass_loop {who b du f : Int} {v w due t : Int → Int} (hv : 0 ≤ w f ∧ w f ≤ 7000000 ∨ w f = 1073741824) (ht : ∀ k : Int, 0 ≤ k → k ≤ du → t k ≠ 1073741824 → 0 ≤ t k ∧ t k ≤ 84000000) : ∀ (n : Nat) (kk : Int) (σ : zG), σ 86 f = v f → σ 87 f = w f → (∀ j : Int, 0 ≤ j → j < du → σ 89 j = due j) → kk < du → (kk + 1).toNat < n → (∀ j : Int, j ≤ kk + 1 → σ 90 j = t j) → (∀ j : Int, (S_X10_leastFor_92 who b du f n kk σ).2 90 j = if 1 ≤ j ∧ j ≤ kk + 1 then (if w f ≠ 1073741824 ∧ due (j - 1) ≤ v f ∧ t (j - 1) ≠ 1073741824 then min (t j) (t (j - 1) + w f) else t j) else σ 90 j)
  | 0, kk, σ, _, _, _, _, h, _ => absurd h (Nat.not_lt_zero _)
  | n + 1, kk, σ, e86, e87, e89, hk, hn, he => by
    intro j
    rw [S_X10_leastFor_92]
    by_cases c : kk < 0
    · rw [if_pos c, if_neg (by omega)]
    · rw [if_neg c, e87]
      by_cases cw : w f = 1073741824
      · rw [if_pos cw]
        show σ 90 j = _
        by_cases z : 1 ≤ j ∧ j ≤ kk + 1
        · rw [if_pos z, if_neg (fun x => x.1 cw)]; exact he j z.2
        · rw [if_neg z]
      · rw [if_neg cw, e86, e89 kk (by omega) hk, he kk (by omega), he (kk + 1) (Int.le_refl _)]
        have keep : (w f ≠ 1073741824 ∧ due kk ≤ v f ∧ t kk ≠ 1073741824 → False) → (S_X10_leastFor_92 who b du f n (kk + (-1)) σ).2 90 j = if 1 ≤ j ∧ j ≤ kk + 1 then (if w f ≠ 1073741824 ∧ due (j - 1) ≤ v f ∧ t (j - 1) ≠ 1073741824 then min (t j) (t (j - 1) + w f) else t j) else σ 90 j := fun nc => by
          have ih := pass_loop (who := who) (b := b) (du := du) (v := v) (w := w) (due := due) (t := t) hv ht n (kk + (-1)) σ e86 e87 e89 (by omega) (by omega) (fun j hj => he j (by omega)) j
          rw [ih]
          by_cases z : 1 ≤ j ∧ j ≤ kk + (-1) + 1
          · rw [if_pos z, if_pos (show 1 ≤ j ∧ j ≤ kk + 1 by omega)]
          · rw [if_neg z]
            by_cases y : j = kk + 1
            · rw [if_pos (show 1 ≤ j ∧ j ≤ kk + 1 by omega), if_neg (by rw [show j - 1 = kk by omega]; exact nc)]; exact he j (by omega)
            · rw [if_neg (show ¬ (1 ≤ j ∧ j ≤ kk + 1) by omega)]
        by_cases cd : v f < due kk
        · rw [if_pos cd]
          exact keep (fun x => by omega)
        · rw [if_neg cd]
          by_cases ct : t kk = 1073741824
          · rw [if_pos ct]
            exact keep (fun x => x.2.2 ct)
          · rw [if_neg ct]
            have tb := ht kk (by omega) (by omega) ct
            have wb := hv.resolve_right cw
            rw [w32_id (z := t kk + w f) ⟨by omega, by omega⟩]
            have ih := pass_loop (who := who) (b := b) (du := du) (v := v) (w := w) (due := due) (t := t) hv ht n (kk + (-1)) (zu σ 90 (kk + 1) (min (t (kk + 1)) (t kk + w f))) (by rw [zu_ne _ _ _ _ (by decide)]; exact e86) (by rw [zu_ne _ _ _ _ (by decide)]; exact e87) (fun j j0 j1 => by rw [zu_ne _ _ _ _ (by decide)]; exact e89 j j0 j1) (by omega) (by omega) (fun j hj => by rw [zu_off _ _ _ (by omega)]; exact he j (by omega)) j
            rw [ih]
            by_cases z : 1 ≤ j ∧ j ≤ kk + (-1) + 1
            · rw [if_pos z, if_pos (show 1 ≤ j ∧ j ≤ kk + 1 by omega)]
            · rw [if_neg z]
              by_cases y : j = kk + 1
              · rw [if_pos (show 1 ≤ j ∧ j ≤ kk + 1 by omega), y, zu_at, show kk + 1 - 1 = kk by omega, if_pos ⟨cw, by omega, ct⟩]
              · rw [if_neg (show ¬ (1 ≤ j ∧ j ≤ kk + 1) by omega), zu_off _ _ _ y]
/-- a set that pays -/
def okA (μ : zG) (who b du : Int) (due : Int → Int) (A : Int) : Prop := (0 ≤ A ∧ A < 4096) ∧ (∀ f : Int, 0 ≤ f → f < 12 → hb A f → f < μ 2 1) ∧ rch (pm μ who b) A ∧ okd (vm μ who) due du A
theorem dp_loop {σ0 μ : zG} (h : NX σ0 μ) {who b du : Int} {due e : Int → Int} (hO : DOR (vm μ who) e (μ 2 1)) (hdu : 0 ≤ du ∧ du ≤ 12) : ∀ (n : Nat) (q : Int) (σ : zG), σ 88 = e → (∀ g : Int, 0 ≤ g → g < μ 2 1 → σ 86 g = vm μ who g ∧ σ 87 g = pm μ who b g) → (∀ j : Int, 0 ≤ j → j < du → σ 89 j = due j) → 0 ≤ q → q ≤ μ 2 1 → IVa (vm μ who) (pm μ who b) due e (σ 90) du q → (∀ A : Int, okA μ who b du due A → IVb (pm μ who b) e (σ 90) du q A) → (μ 2 1 - q).toNat < n → IVa (vm μ who) (pm μ who b) due e ((S_X10_leastFor_70 who b du (μ 2 1) n q σ).2 90) du (μ 2 1) ∧ ∀ A : Int, okA μ who b du due A → IVb (pm μ who b) e ((S_X10_leastFor_70 who b du (μ 2 1) n q σ).2 90) du (μ 2 1) A
  | 0, q, σ, _, _, _, _, _, _, _, h => absurd h (Nat.not_lt_zero _)
  | n + 1, q, σ, e88, e86, e89, q0, q1, ha, hb', hn => by
    have hF := h.1.2.1
    rw [S_X10_leastFor_70]
    by_cases c : μ 2 1 ≤ q
    · rw [if_pos c]
      have e : q = μ 2 1 := by omega
      rw [← e]; exact ⟨ha, hb'⟩
    · rw [if_neg c, e88]
      have er := hO.1 q q0 (by omega)
      have wr := fun f (f0 : 0 ≤ f) (f1 : f < 12) => pm_r h (who := who) (b := b) (f := f) ⟨f0, f1⟩
      have tb : ∀ k : Int, 0 ≤ k → k ≤ du → σ 90 k ≠ 1073741824 → 0 ≤ σ 90 k ∧ σ 90 k ≤ 84000000 := fun k k0 k1 kn => by
        rcases ha k k0 k1 with x | ⟨T, x1, x2, x3, x4, x5, x6⟩
        · exact absurd x kn
        · rw [← x4]
          have b1 := ws_nn (g := pm μ who b) (A := T) (fun f f0 f1 y => by have := wr f f0 f1; have := x5 f f0 f1 y; omega)
          have b2 := ws_bd (g := pm μ who b) (A := T) (c := 7000000) (fun f f0 f1 y => by have := wr f f0 f1; have := x5 f f0 f1 y; omega) (by decide)
          omega
      have ps := pass_loop (who := who) (b := b) (du := du) (f := e q) (v := vm μ who) (w := pm μ who b) (due := due) (t := σ 90) (by have := wr (e q) er.1 (by omega); omega) tb 20 (du - 1) σ (e86 _ er.1 er.2).1 (e86 _ er.1 er.2).2 e89 (by omega) (by omega) (fun j hj => rfl)
      have fr : ∀ k : Nat, k ≠ 90 → (S_X10_leastFor_92 who b du (e q) 20 (du - 1) σ).2 k = σ k := fun k hk => fr_S_X10_leastFor_92 _ _ _ _ _ _ _ (by simpa using hk)
      generalize (S_X10_leastFor_92 who b du (e q) 20 (du - 1) σ).2 = τ at *
      have st : STP (vm μ who) (pm μ who b) due (σ 90) (τ 90) du (e q) := by
        refine ⟨by rw [ps 0, if_neg (by omega)], fun k k0 k1 => ?_⟩
        rw [ps (k + 1), if_pos (by omega), show k + 1 - 1 = k by omega]
      refine dp_loop h hO hdu n (q + 1) τ (by rw [fr 88 (by decide)]; exact e88) (by rw [fr 86 (by decide), fr 87 (by decide)]; exact e86) (by rw [fr 89 (by decide)]; exact e89) (by omega) (by omega) (IVa_s (by omega) hO ha ⟨q0, by omega⟩ st) (fun A hA => ?_) (by omega)
      obtain ⟨a1, a2, a3, a4⟩ := id hA
      exact IVb_s (by omega) hO a1 a2 a3 (fun f f0 f1 y => by have := wr f f0 f1; have := a3 f f0 f1 y; omega) a4 (hb' A hA) ⟨q0, by omega⟩ st
/-- the class's answer: the least of all sets that pay -/
theorem least_cls {σ μ : zG} (h : NX σ μ) {who b : Int} (hw : 0 ≤ who ∧ who < μ 2 0) (hd : ¬ (R_X10_takeDues σ who).1 = -1) (hdu : 0 ≤ (R_X10_takeDues σ who).1 ∧ (R_X10_takeDues σ who).1 ≤ 12) :
    ((R_X10_leastFor σ who b).1 = 1073741824 ∨ ∃ T : Int, okA μ who b (R_X10_takeDues σ who).1 ((R_X10_takeDues σ who).2 89) T ∧ (R_X10_leastFor σ who b).1 = ws (pm μ who b) T) ∧ ∀ A : Int, okA μ who b (R_X10_takeDues σ who).1 ((R_X10_takeDues σ who).2 89) A → (R_X10_leastFor σ who b).1 ≠ 1073741824 ∧ (R_X10_leastFor σ who b).1 ≤ ws (pm μ who b) A := by
  have hF := h.1.2.1
  unfold R_X10_leastFor
  rw [if_neg hd, hF.1]
  have fd : ∀ k : Nat, k ≠ 89 → (R_X10_takeDues σ who).2 k = σ k := fun k hk => fr_R_X10_takeDues _ _ (by simpa using hk)
  generalize R_X10_takeDues σ who = r at *
  have h1 : NX r.2 μ := NX_r h (fun k hk => fd k (by omega)) (fun _ _ _ _ => rfl) (fun _ _ => rfl)
  have sf := SF_loop (b := b) (du := r.1) h1 hw 20 0 r.2 (fun _ _ => rfl) (by decide) hF.2.1 ⟨⟨fun i i0 i1 => by omega, fun i j i0 ij j1 => by omega, fun f f0 f1 => by omega⟩, fun g g0 g1 => by omega⟩ (by omega)
  have fs : ∀ k : Nat, k ≠ 86 → k ≠ 87 → k ≠ 88 → (S_X10_leastFor_29 who b r.1 (μ 2 1) 20 0 r.2).2 k = r.2 k := fun k a b c => fr_S_X10_leastFor_29 _ _ _ _ _ _ _ (by simp; omega)
  generalize (S_X10_leastFor_29 who b r.1 (μ 2 1) 20 0 r.2).2 = s at *
  have hO : DOR (vm μ who) (s 88) (μ 2 1) := DOR_v sf.1 (fun g g0 g1 => (sf.2 g g0 g1).1.symm)
  have tz : ∀ k : Nat, k ≠ 90 → zu (zfl s 90 13 1073741824) 90 0 0 k = s k := fun k hk => by rw [zu_row _ _ _ hk, fr_zfl (h := by simpa using hk)]
  have t0 : zu (zfl s 90 13 1073741824) 90 0 0 90 0 = 0 := zu_at _ _ _ _
  have tn : ∀ k : Int, 1 ≤ k → k ≤ r.1 → zu (zfl s 90 13 1073741824) 90 0 0 90 k = 1073741824 := fun k k0 k1 => by rw [zu_off _ _ _ (by omega), zfl_at, if_pos ⟨by omega, by omega⟩]
  generalize zu (zfl s 90 13 1073741824) 90 0 0 = u at *
  have dl := dp_loop (b := b) (due := r.2 89) h1 hO hdu 20 0 u (tz 88 (by decide)) (by rw [tz 86 (by decide), tz 87 (by decide)]; exact sf.2) (fun j _ _ => by rw [tz 89 (by decide), fs 89 (by decide) (by decide) (by decide)]) (by decide) hF.2.1 (IVa_0 t0 tn) (fun A _ => IVb_0 t0) (by omega)
  show ((S_X10_leastFor_70 who b r.1 (μ 2 1) 20 0 u).2 90 r.1 = 1073741824 ∨ _) ∧ _
  refine ⟨?_, fun A hA => ?_⟩
  · rcases dl.1 r.1 hdu.1 (Int.le_refl _) with x | ⟨T, x1, x2, x3, x4, x5, x6⟩
    · exact Or.inl x
    · exact Or.inr ⟨T, ⟨x1, fun f f0 f1 y => by
        obtain ⟨q, q0, q1, q2⟩ := x2 f f0 f1 y
        have := hO.1 q q0 q1
        omega, x5, x6⟩, x4.symm⟩
  · exact dp_best (by omega) hO hA.1 hA.2.1 hA.2.2.2 hdu.1 (dl.2 A hA)
