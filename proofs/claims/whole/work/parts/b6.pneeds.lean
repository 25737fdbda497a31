/-! pure: needs and buys on both sides -/
theorem pm_own {μ : zG} {who b f : Int} (h : hb (μ 11 who) f) : pm μ who b f = 0 := if_pos h
theorem okd_mono {v due : Int → Int} {m A B : Int} (h : okd v due m A) (hs : ∀ f : Int, 0 ≤ f → f < 12 → hb A f → hb B f) : okd v due m B := fun j j0 j1 => by
  have a := h j j0 j1
  have b : ws (fun f => if due j ≤ v f then 1 else 0) A ≤ ws (fun f => if due j ≤ v f then 1 else 0) B := ws_le (fun f f0 f1 => by
    by_cases c : hb A f
    · rw [if_pos c, if_pos (hs f f0 f1 c)]; exact Int.le_refl _
    · rw [if_neg c]
      split
      · split <;> decide
      · decide)
  omega
theorem okd_c {v due due' : Int → Int} {m A : Int} (h : okd v due m A) (e : ∀ j : Int, 0 ≤ j → j < m → due' j = due j) : okd v due' m A := fun j j0 j1 => by
  rw [e j j0 j1]; exact h j j0 j1
/-- a set that pays, without what one knows -/
theorem pay_of {σ μ : zG} (h : NX σ μ) {who b du T : Int} {due : Int → Int} (hw : 0 ≤ who ∧ who < μ 2 0) (hT : okA μ who b du due T) : ∃ S : Int, (0 ≤ S ∧ S < bshl 1 (μ 2 1)) ∧ PAY μ who b du due S ∧ ws (pm μ who b) S = ws (pm μ who b) T := by
  have hp := h.1.1
  have hF := h.1.2.1
  have ow := (h.2.1.1 who hw.1 (by omega)).2.1
  obtain ⟨t1, t2, t3, t4⟩ := hT
  have sb : ∀ f : Int, 0 ≤ f → f < 12 → (hb (band T (bxor (μ 11 who) (-1))) f ↔ hb T f ∧ ¬ hb (μ 11 who) f) := fun f f0 f1 => not_r ow T f t1 ⟨f0, f1⟩
  have sr : 0 ≤ band T (bxor (μ 11 who) (-1)) ∧ band T (bxor (μ 11 who) (-1)) < 4096 := band_r t1
  generalize band T (bxor (μ 11 who) (-1)) = S at *
  have nF : du ≤ μ 2 1 := by
    by_cases z : du ≤ 0
    · omega
    · have a := t4 (du - 1) (by omega) (by omega)
      have c : ws (fun f => if due (du - 1) ≤ vm μ who f then 1 else 0) T ≤ ssum (fun f => if f < μ 2 1 then 1 else 0) 12 := ssum_le 12 (fun f f0 f1 => by
        show (if hb T f then (if due (du - 1) ≤ vm μ who f then (1 : Int) else 0) else 0) ≤ (if f < μ 2 1 then 1 else 0)
        by_cases y : hb T f
        · rw [if_pos y, if_pos (t2 f f0 (by omega) y)]; split <;> decide
        · rw [if_neg y]; split <;> decide)
      have e : 12 = (μ 2 1).toNat + (12 - (μ 2 1).toNat) := by omega
      rw [e, ssum_cut _ _ (fun f f0 f1 => by show (if f < μ 2 1 then (1 : Int) else 0) = 0; exact if_neg (by omega)), ssum_cg _ (fun f f0 f1 => by show (if f < μ 2 1 then (1 : Int) else 0) = 1; exact if_pos (by omega)), ssum_1] at c
      omega
  refine ⟨S, ⟨sr.1, lt_hi sr ⟨hF.2.1, hF.2.2⟩ (fun f f0 f1 y => by have := t2 f (by omega) f1 ((sb f (by omega) f1).mp y).1; omega)⟩, ⟨?_, ?_, nF, ?_⟩, ?_⟩
  · exact (band_0 sr ow).mpr (fun f f0 f1 y => ((sb f f0 f1).mp y).2)
  · exact fun f f0 f1 y => t3 f f0 f1 ((sb f f0 f1).mp y).1
  · refine okd_mono t4 (fun f f0 f1 y => ?_)
    rw [hb_bor ow sr ⟨f0, by omega⟩, sb f f0 f1]
    by_cases o : hb (μ 11 who) f
    · exact Or.inl o
    · exact Or.inr ⟨y, o⟩
  · exact ssum_cg 12 (fun f f0 f1 => by
      show (if hb S f then pm μ who b f else 0) = (if hb T f then pm μ who b f else 0)
      by_cases y : hb T f
      · rw [if_pos y]
        by_cases o : hb (μ 11 who) f
        · rw [if_neg (fun x => ((sb f f0 (by omega)).mp x).2 o), pm_own o]
        · rw [if_pos ((sb f f0 (by omega)).mpr ⟨y, o⟩)]
      · rw [if_neg y, if_neg (fun x => y ((sb f f0 (by omega)).mp x).1)])
/-- a set that pays, with what one knows -/
theorem pay_to {σ μ : zG} (h : NX σ μ) {who b du S : Int} {due : Int → Int} (hw : 0 ≤ who ∧ who < μ 2 0) (hS : 0 ≤ S ∧ S < bshl 1 (μ 2 1)) (hp' : PAY μ who b du due S) : okA μ who b du due (bor (μ 11 who) S) ∧ ws (pm μ who b) (bor (μ 11 who) S) = ws (pm μ who b) S := by
  have hp := h.1.1
  have hF := h.1.2.1
  have sF := shl_F (F := μ 2 1) ⟨hF.2.1, hF.2.2⟩
  have ow := h.2.1.1 who hw.1 (by omega)
  have sr : 0 ≤ S ∧ S < 4096 := ⟨hS.1, by omega⟩
  obtain ⟨p1, p2, p3, p4⟩ := hp'
  have dj := (band_0 sr ow.2.1).mp p1
  have bb : ∀ f : Int, 0 ≤ f → f < 12 → (hb (bor (μ 11 who) S) f ↔ hb (μ 11 who) f ∨ hb S f) := fun f f0 f1 => hb_bor ow.2.1 sr ⟨f0, by omega⟩
  refine ⟨⟨bor_r ow.2.1 sr, fun f f0 f1 y => ?_, fun f f0 f1 y => ?_, p4⟩, ?_⟩
  · by_cases c : f < μ 2 1
    · exact c
    · rcases (bb f f0 f1).mp y with z | z
      · exact absurd z (ow.2.2 f (by omega) f1)
      · exact absurd z (off_hi hS.1 ⟨hF.2.1, hF.2.2⟩ hS.2 (by omega) f1)
  · rcases (bb f f0 f1).mp y with z | z
    · rw [pm_own z]; decide
    · exact p2 f f0 f1 z
  · exact ssum_cg 12 (fun f f0 f1 => by
      show (if hb (bor (μ 11 who) S) f then pm μ who b f else 0) = (if hb S f then pm μ who b f else 0)
      by_cases o : hb (μ 11 who) f
      · rw [if_pos ((bb f f0 (by omega)).mpr (Or.inl o)), pm_own o]
        split <;> rfl
      · by_cases y : hb S f
        · rw [if_pos y, if_pos ((bb f f0 (by omega)).mpr (Or.inr y))]
        · rw [if_neg y, if_neg (fun x => ((bb f f0 (by omega)).mp x).elim o y)])
/-- what one must be told or buy, on both sides -/
theorem wants_eq {σ ν : zG} (h : NX σ ν) {who b : Int} (hw : 0 ≤ who ∧ who < ν 2 0) {r : Int × zG} (hr : r = L_X12_needed_24 who b 5000 0 (zu (zu (R_X12_duesOf ν who) 0 55 (-1)) 0 56 1000000000)) :
    ((R_X10_leastFor σ who b).1 = 1073741824 ∧ r.1 = 0) ∨ (r.1 = 1 ∧ (0 ≤ r.2 0 55 ∧ r.2 0 55 < 4096) ∧ (R_X10_leastFor σ who b).1 = r.2 0 56 * 65536 + pcn (r.2 0 55) * 4096 + r.2 0 55 ∧ (0 ≤ r.2 0 56 ∧ r.2 0 56 ≤ 1188) ∧ 0 ≤ pcn (r.2 0 55) ∧ pcn (r.2 0 55) ≤ 12) := by
  have hp := h.1.1
  have hF := h.1.2.1
  have h43 := h.2.1.2.2.1
  have sF := shl_F (F := ν 2 1) ⟨hF.2.1, hF.2.2⟩
  have hL0 : LC σ (zu ν 0 53 0) := LC_row h.2.1 rfl rfl rfl rfl rfl rfl rfl (zu_off _ _ _ (by decide)) (zu_off _ _ _ (by decide)) (zu_row _ _ _ (by decide)) (zu_row _ _ _ (by decide)) (zu_row _ _ _ (by decide)) (zu_row _ _ _ (by decide)) (zu_row _ _ _ (by decide)) (zu_row _ _ _ (by decide))
  have z43 : zu ν 0 53 0 0 43 = ν 0 43 := zu_off _ _ _ (by decide)
  have ds := dues_sim (who := who) 200 500 0 0 σ (zu ν 0 53 0) hL0 (by decide) (by decide) (by decide) (zu_at _ _ _ _) (fun j a c => by omega) (by rw [z43]; omega) (by rw [z43]; omega)
  have d1 : ((R_X10_takeDues σ who).1 = -1 ∧ 12 < R_X12_duesOf ν who 0 53) ∨ ((0 ≤ (R_X10_takeDues σ who).1 ∧ (R_X10_takeDues σ who).1 ≤ 12) ∧ R_X12_duesOf ν who 0 53 = (R_X10_takeDues σ who).1 ∧ ∀ j : Int, 0 ≤ j → j < (R_X10_takeDues σ who).1 → (R_X10_takeDues σ who).2 89 j = R_X12_duesOf ν who 29 j) := ds.1
  have dr : ∀ k : Nat, k ≠ 0 → k ≠ 29 → R_X12_duesOf ν who k = ν k := fun k a c => fr_R_X12_duesOf _ _ (by simp; omega)
  have d0 : ∀ j : Int, j ≠ 53 → R_X12_duesOf ν who 0 j = ν 0 j := fun j hj => by
    unfold R_X12_duesOf
    rw [dues_0 _ _ _ _ hj, zu_off _ _ _ hj]
  have dge : 0 ≤ R_X12_duesOf ν who 0 53 := by rcases d1 with x | x <;> omega
  have nl := needed_loop h (who := who) (b := b) (du := R_X12_duesOf ν who 0 53) (due := R_X12_duesOf ν who 29) hw dge 5000 0 (zu (zu (R_X12_duesOf ν who) 0 55 (-1)) 0 56 1000000000) (fun k a1 a2 a3 => by rw [zu_row _ _ _ a1, zu_row _ _ _ a1]; exact dr k a1 a2) (fun j hj => by rw [zu_off _ _ _ (by omega), zu_off _ _ _ (by omega)]; exact d0 j (by omega)) (by rw [zu_row _ _ _ (by decide), zu_row _ _ _ (by decide)]) (by rw [zu_off _ _ _ (by decide), zu_off _ _ _ (by decide)]) (by decide) (by omega) (Or.inl ⟨by rw [zu_off _ _ _ (by decide), zu_at], zu_at _ _ _ _, fun s s0 s1 => by omega⟩) (by omega)
  rw [← hr] at nl
  have low : ∀ A : Int, okA ν who b (R_X10_takeDues σ who).1 ((R_X10_takeDues σ who).2 89) A → (R_X10_takeDues σ who).1 = R_X12_duesOf ν who 0 53 → (∀ j : Int, 0 ≤ j → j < (R_X10_takeDues σ who).1 → (R_X10_takeDues σ who).2 89 j = R_X12_duesOf ν who 29 j) → okA ν who b (R_X12_duesOf ν who 0 53) (R_X12_duesOf ν who 29) A := fun A hA e1 e2 => ⟨hA.1, hA.2.1, hA.2.2.1, by rw [← e1]; exact okd_c hA.2.2.2 (fun j a c => (e2 j a c).symm)⟩
  rcases d1 with ⟨x1, x2⟩ | ⟨x1, x2, x3⟩
  · have el : (R_X10_leastFor σ who b).1 = 1073741824 := by
      unfold R_X10_leastFor
      rw [if_pos x1]
    refine Or.inl ⟨el, ?_⟩
    rcases nl.1 with ⟨b1, b2, b3⟩ | ⟨b1, b2, b3, b4⟩
    · rw [nl.2, if_pos (by omega)]
    · have := b2.2.2.1; omega
  · have lc := least_cls h (b := b) hw (by omega) x1
    rcases nl.1 with ⟨b1, b2, b3⟩ | ⟨b1, b2, b3, b4⟩
    · rcases lc.1 with y | ⟨T, y1, y2⟩
      · exact Or.inl ⟨y, by rw [nl.2, if_pos (by omega)]⟩
      · obtain ⟨S, z1, z2, z3⟩ := pay_of h hw (low T y1 x2.symm x3)
        exact absurd z2 (b3 S z1.1 z1.2)
    · have pt := pay_to h hw b1 b2
      have okb : okA ν who b (R_X10_takeDues σ who).1 ((R_X10_takeDues σ who).2 89) (bor (ν 11 who) (r.2 0 55)) := ⟨pt.1.1, pt.1.2.1, pt.1.2.2.1, by rw [← x2]; exact okd_c pt.1.2.2.2 (fun j a c => x3 j a (by omega))⟩
      have up := lc.2 _ okb
      rw [pt.2] at up
      have ke := key_eq h hw (A := r.2 0 55) ⟨b1.1, by omega⟩ b2.1 b2.2.1
      rcases lc.1 with y | ⟨T, y1, y2⟩
      · exact absurd y up.1
      · obtain ⟨S, z1, z2, z3⟩ := pay_of h hw (low T y1 x2.symm x3)
        have lo := b4 S z1.1 z1.2 z2
        refine Or.inr ⟨by rw [nl.2, if_neg (by omega)], ⟨b1.1, by omega⟩, ?_, ?_, ke.2.2⟩
        · rw [b3, ← ke.1]; omega
        · rw [b3]; exact ke.2.1
theorem unpack {c m s : Int} (hc : 0 ≤ c ∧ c ≤ 1188) (hm : 0 ≤ m ∧ m ≤ 12) (hs : 0 ≤ s ∧ s < 4096) : V_X10_coinsFor (c * 65536 + m * 4096 + s) = c ∧ V_X10_factsIn (c * 65536 + m * 4096 + s) = m ∧ V_X10_bitsOf (c * 65536 + m * 4096 + s) = s := by
  obtain ⟨x, hx⟩ := toN2 (show 0 ≤ c * 65536 + m * 4096 + s by omega)
  have hl : x < 2147483648 := by omega
  have a := bshr_nat (a := x) (i := 16) (by decide) hl
  have b := bshr_nat (a := x) (i := 12) (by decide) hl
  have l2 : x / 2 ^ 12 < 2147483648 := Nat.lt_of_le_of_lt (Nat.div_le_self _ _) hl
  have d := band_nat (a := x / 2 ^ 12) (b := 15) l2 (by decide)
  have e := band_nat (a := x) (b := 4095) hl (by decide)
  have m15 : x / 2 ^ 12 &&& 15 = x / 2 ^ 12 % 2 ^ 4 := Nat.and_two_pow_sub_one_eq_mod _ 4
  have m4095 : x &&& 4095 = x % 2 ^ 12 := Nat.and_two_pow_sub_one_eq_mod _ 12
  rw [m15] at d
  rw [m4095] at e
  unfold V_X10_coinsFor V_X10_factsIn V_X10_bitsOf
  rw [hx]
  have a' : bshr (x : Int) 16 = ((x / 2 ^ 16 : Nat) : Int) := a
  have b' : bshr (x : Int) 12 = ((x / 2 ^ 12 : Nat) : Int) := b
  have d' : band ((x / 2 ^ 12 : Nat) : Int) 15 = ((x / 2 ^ 12 % 2 ^ 4 : Nat) : Int) := d
  have e' : band (x : Int) 4095 = ((x % 2 ^ 12 : Nat) : Int) := e
  rw [a', b', d', e']
  omega
theorem NX_run {σ μ : zG} (e2 : R_X12_run (zu μ 0 0 0) (-1) 2 = μ 2) (hQ : QR σ (R_X12_run (zu μ 0 0 0) (-1))) (hN : NW σ μ) : NX σ (R_X12_run (zu μ 0 0 0) (-1)) := ⟨hQ.1, hQ.2.2.1.1, by rw [e2]; exact hN.2.2⟩
theorem q_needs {σ μ : zG} {who i : Int} (e2 : R_X12_run (zu μ 0 0 0) (-1) 2 = μ 2) (hQ : QR σ (R_X12_run (zu μ 0 0 0) (-1))) (hN : NW σ μ) : V_X11_needs σ who i = V_X12_needs μ who i := by
  have hx := NX_run e2 hQ hN
  have hp : σ 5 0 = μ 2 0 := by rw [← e2]; exact hQ.1.1.1
  unfold V_X11_needs V_X12_needs
  rw [hp]
  by_cases c : 0 ≤ who ∧ who < μ 2 0
  · rw [if_pos c, if_pos (show 0 ≤ who ∧ who ≤ μ 2 0 - 1 by omega)]
    by_cases d : 0 ≤ i ∧ i ≤ 1
    · rw [if_neg (show ¬ i < 0 by omega), if_pos d.2, if_pos d]
      rcases wants_eq hx (b := 0) (who := who) (by rw [e2]; exact c) (r := R_X12_needed (zu μ 0 0 0) who 0) rfl with ⟨a, b⟩ | ⟨a, b, l, k, m⟩
      · rw [if_pos a, if_pos b]
      · have u := unpack k m b
        rw [← l] at u
        rw [if_neg (show ¬ (R_X10_leastFor σ who 0).1 = 1073741824 by omega), if_neg (show ¬ (R_X12_needed (zu μ 0 0 0) who 0).1 = 0 by omega), u.2.1, u.2.2, many_pcn]
    · rw [if_neg d]
      by_cases z : i < 0
      · rw [if_pos z]
      · rw [if_neg z, if_neg (by omega)]
  · rw [if_neg c, if_neg (show ¬ (0 ≤ who ∧ who ≤ μ 2 0 - 1) by omega)]
theorem q_buys {σ μ : zG} {who i : Int} (e2 : R_X12_run (zu μ 0 0 0) (-1) 2 = μ 2) (hQ : QR σ (R_X12_run (zu μ 0 0 0) (-1))) (hN : NW σ μ) : V_X11_buys σ who i = V_X12_buys μ who i := by
  have hx := NX_run e2 hQ hN
  have hp : σ 5 0 = μ 2 0 := by rw [← e2]; exact hQ.1.1.1
  unfold V_X11_buys V_X12_buys
  rw [hp]
  by_cases c : 0 ≤ who ∧ who < μ 2 0
  · rw [if_pos c, if_pos (show 0 ≤ who ∧ who ≤ μ 2 0 - 1 by omega)]
    by_cases d : 0 ≤ i ∧ i ≤ 1
    · rw [if_neg (show ¬ i < 0 by omega), if_pos d.2, if_pos d]
      rcases wants_eq hx (b := 1) (who := who) (by rw [e2]; exact c) (r := R_X12_needed (zu μ 0 0 0) who 1) rfl with ⟨a, b⟩ | ⟨a, b, l, k, m⟩
      · rw [if_pos a, if_pos b]
      · have u := unpack k m b
        rw [← l] at u
        rw [if_neg (show ¬ (R_X10_leastFor σ who 1).1 = 1073741824 by omega), if_neg (show ¬ (R_X12_needed (zu μ 0 0 0) who 1).1 = 0 by omega), u.1, u.2.2]
    · rw [if_neg d]
      by_cases z : i < 0
      · rw [if_pos z]
      · rw [if_neg z, if_neg (by omega)]
  · rw [if_neg c, if_neg (show ¬ (0 ≤ who ∧ who ≤ μ 2 0 - 1) by omega)]
