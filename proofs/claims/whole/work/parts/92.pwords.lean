/-! pure: how far a step goes, how many there are with a liar, and their order -/
/-- behind a word: no letter follows -/
def WE (σ : zG) : Prop := σ 1 1 ≤ σ 3 3 ∨ ¬ aln (σ 2 (σ 3 3))
/-- the class's tape and its reader -/
def TC (σ : zG) : Prop := 0 ≤ σ 3 3 ∧ σ 3 2 ≤ σ 1 1 ∧ σ 1 1 ≤ 940
theorem TC_of {σ μ : zG} (h : TP σ μ) : TC σ := by
  have a := h.1
  have b := h.2.2.1
  have c := h.2.2.2.1
  refine ⟨c.1, ?_, ?_⟩
  · rw [b, a.1]; exact Int.min_le_left _ _
  · rw [a.1]; exact a.2.2
theorem Tk_mono {b : Int → Int} {len stop p : Int} : p ≤ (Tk b len stop p).2.2.2 := by
  have hs := (skb_r b stop 1000 p).1
  by_cases a : stop ≤ skb b stop 1000 p
  · rw [Tk_a a]; exact hs
  · by_cases c : 0 < (tkR b len 1000 0 0 0 0 (skb b stop 1000 p)).1 + (tkR b len 1000 0 0 0 0 (skb b stop 1000 p)).2.1
    · rw [Tk_b (Int.not_le.mp a) c]
      exact Int.le_trans hs (tkR_mono b len 1000 0 0 0 0 (skb b stop 1000 p)).1
    · rw [Tk_c (Int.not_le.mp a) c]
      show p ≤ skb b stop 1000 p + 1
      omega
theorem step_mono (σ : zG) : σ 3 3 ≤ F_X5_step σ 3 3 := by
  rw [(step_vals σ).1]; exact Tk_mono
theorem Tk_sign {b : Int → Int} {len stop p : Int} (h : (Tk b len stop p).1 = 4) : p + 1 ≤ (Tk b len stop p).2.2.2 ∧ (Tk b len stop p).2.2.2 ≤ stop := by
  have hs := (skb_r b stop 1000 p).1
  by_cases a : stop ≤ skb b stop 1000 p
  · rw [Tk_a a] at h
    have : (if stop < len then (1 : Int) else 0) = 4 := h
    split at this <;> omega
  · have a' := Int.not_le.mp a
    by_cases c : 0 < (tkR b len 1000 0 0 0 0 (skb b stop 1000 p)).1 + (tkR b len 1000 0 0 0 0 (skb b stop 1000 p)).2.1
    · rw [Tk_b a' c] at h
      have h' : tkK (tkR b len 1000 0 0 0 0 (skb b stop 1000 p)) = 4 := h
      unfold tkK at h'
      split at h'
      · omega
      · split at h' <;> omega
    · rw [Tk_c a' c]
      show p + 1 ≤ skb b stop 1000 p + 1 ∧ skb b stop 1000 p + 1 ≤ stop
      omega
theorem step_sign {σ : zG} (h : F_X5_step σ 3 4 = 4) : σ 3 3 + 1 ≤ F_X5_step σ 3 3 ∧ F_X5_step σ 3 3 ≤ σ 3 2 := by
  obtain ⟨v1, v2, _⟩ := step_vals σ
  rw [v2] at h
  rw [v1]
  exact Tk_sign h
theorem TC_step {σ : zG} (h : TC σ) : TC (F_X5_step σ) := by
  unfold TC at *
  rw [(step_vals σ).2.2.2.2.2, st_r σ (show (1 : Nat) ≠ 3 by decide)]
  exact ⟨Int.le_trans h.1 (step_mono σ), h.2⟩
theorem step_word {σ : zG} (hc : TC σ) (h : F_X5_step σ 3 4 = 2) : WE (F_X5_step σ) ∧ ∃ g l : Int, (0 ≤ g ∧ 1 ≤ l) ∧ F_X5_step σ 3 3 = σ 3 3 + g + l ∧ (WE σ → 1 ≤ g) ∧ F_X5_step σ 3 6 < 32 ^ l.toNat := by
  obtain ⟨v1, v2, v3, v4, v5, v6⟩ := step_vals σ
  rw [v2] at h
  obtain ⟨w1, w2, ⟨l, wl, w3, w4, w5⟩, w6, w7⟩ := Tk_word hc.1 hc.2.1 hc.2.2 h
  unfold WE
  rw [st_r σ (show (1 : Nat) ≠ 3 by decide), st_r σ (show (2 : Nat) ≠ 3 by decide), v1, v4]
  have hl := hc.2.1
  generalize Tk (σ 2) (σ 1 1) (σ 3 2) (σ 3 3) = T at *
  clear v1 v2 v3 v4 v5 v6
  refine ⟨w6, T.2.1 - σ 3 3, l, ⟨by omega, wl.1⟩, by omega, fun hw => ?_, w5⟩
  rcases hw with x | x
  · omega
  · by_cases e : T.2.1 = σ 3 3
    · rw [e] at w7; exact absurd w7 x
    · omega
theorem word_4 {v l : Int} (h : v < 32 ^ l.toNat) (hl : 1 ≤ l) (hv : 32768 ≤ v) : 4 ≤ l := by
  by_cases c : 4 ≤ l
  · exact c
  · rcases (show l = 1 ∨ l = 2 ∨ l = 3 by omega) with rfl | rfl | rfl
    · have e : (32 : Int) ^ (1 : Int).toNat = 32 := by decide
      rw [e] at h; omega
    · have e : (32 : Int) ^ (2 : Int).toNat = 1024 := by decide
      rw [e] at h; omega
    · have e : (32 : Int) ^ (3 : Int).toNat = 32768 := by decide
      rw [e] at h; omega
theorem word_5 {v l : Int} (h : v < 32 ^ l.toNat) (hl : 1 ≤ l) (hv : 1048576 ≤ v) : 5 ≤ l := by
  have := word_4 h hl (by omega)
  by_cases c : 5 ≤ l
  · exact c
  · rcases (show l = 4 by omega) with rfl
    have e : (32 : Int) ^ (4 : Int).toNat = 1048576 := by decide
    rw [e] at h; omega
/-- bits of a set of at most eight -/
def cn8 (x : Nat) : Nat := (x.testBit 0).toNat + (x.testBit 1).toNat + (x.testBit 2).toNat + (x.testBit 3).toNat + (x.testBit 4).toNat + (x.testBit 5).toNat + (x.testBit 6).toNat + (x.testBit 7).toNat
theorem cn8_pcn : ∀ x : Fin 256, pcn (x.val : Int) = (cn8 x.val : Int) := by decide +kernel
theorem cn8_bit : ∀ x : Fin 256, ∀ a : Fin 8, x.val.testBit a.val = false → cn8 (x.val ||| 2 ^ a.val) = cn8 x.val + 1 := by decide +kernel
theorem pcn_bit {x a : Int} (hx : 0 ≤ x ∧ x < 256) (ha : 0 ≤ a ∧ a < 8) (h : ¬ hb x a) : pcn (bor x (bshl 1 a)) = pcn x + 1 := by
  have hr := bor_bit hx.1 hx.2 ha.1 ha.2
  obtain ⟨n, rfl⟩ := toN2 hx.1
  obtain ⟨c, rfl⟩ := toN2 ha.1
  have hn : n < 256 := by omega
  have hc : c < 8 := by omega
  have e := (bit_nat (c := c) (by omega)).1
  rw [e, bor_nat (by omega) (by have := (bit_nat (c := c) (by omega)).2; omega)] at hr ⊢
  have ht : n.testBit c = false := by
    rw [hb_nat (by omega) (by omega)] at h
    simpa using h
  have h2 := cn8_bit ⟨n, hn⟩ ⟨c, hc⟩ ht
  have h3 := cn8_pcn ⟨n, hn⟩
  have h4 := cn8_pcn ⟨n ||| 2 ^ c, by omega⟩
  simp only at h2 h3 h4
  rw [h3, h4, h2]
  omega
/-- those with a liar, in the order in which they were told -/
def wo (t : Int → Int) : Nat → Int
  | 0 => 0
  | n + 1 => bor (wo t n) (bshl (t n) (3 * (n : Int)))
theorem wo_c {t u : Int → Int} : ∀ n : Nat, (∀ k : Int, 0 ≤ k → k < n → t k = u k) → wo t n = wo u n
  | 0, _ => rfl
  | n + 1, h => by
    rw [wo, wo, wo_c n (fun k a b => h k a (by omega)), h n (by omega) (by omega)]
theorem or8 {x a : Nat} {n : Nat} (hn : n ≤ 7) (hx : x < 2 ^ (3 * n)) (ha : a < 8) : bor (x : Int) (bshl (a : Int) (3 * (n : Int))) = ((a * 2 ^ (3 * n) + x : Nat) : Int) ∧ a * 2 ^ (3 * n) + x < 2 ^ (3 * (n + 1)) := by
  have p : 2 ^ (3 * n) ≤ 2 ^ 21 := Nat.pow_le_pow_right (by decide) (by omega)
  have q : 2 ^ (3 * (n + 1)) = 8 * 2 ^ (3 * n) := by
    rw [show 3 * (n + 1) = 3 * n + 3 by omega, Nat.pow_add]; omega
  have m : a * 2 ^ (3 * n) ≤ 7 * 2 ^ (3 * n) := Nat.mul_le_mul_right _ (by omega)
  have e := bshl_nat (a := a) (i := 3 * n) (by omega) (by omega)
  rw [show ((3 * n : Nat) : Int) = 3 * (n : Int) by omega] at e
  have h2 := Nat.shiftLeft_add_eq_or_of_lt hx a
  rw [Nat.shiftLeft_eq] at h2
  rw [e, bor_nat (by omega) (by omega), Nat.or_comm, ← h2, q]
  exact ⟨rfl, by omega⟩
theorem wo_nat {t : Int → Int} : ∀ n : Nat, n ≤ 8 → (∀ k : Int, 0 ≤ k → k < n → 0 ≤ t k ∧ t k < 8) → ∃ x : Nat, wo t n = (x : Int) ∧ x < 2 ^ (3 * n) ∧ ∀ k : Nat, k < n → ((x / 2 ^ (3 * k) % 8 : Nat) : Int) = t k
  | 0, _, _ => ⟨0, rfl, by decide, fun k h => absurd h (Nat.not_lt_zero _)⟩
  | n + 1, hn, h => by
    obtain ⟨x, e, lt, ih⟩ := wo_nat n (by omega) (fun k a b => h k a (by omega))
    have hb1 := h n (by omega) (by omega)
    obtain ⟨a, ea⟩ := toN2 hb1.1
    have o := or8 (x := x) (a := a) (n := n) (by omega) lt (by omega)
    refine ⟨a * 2 ^ (3 * n) + x, ?_, o.2, fun k hk => ?_⟩
    · rw [wo, e, ea]; exact o.1
    · by_cases c : k = n
      · subst c
        rw [Nat.add_comm, Nat.add_mul_div_right _ _ (Nat.two_pow_pos _), Nat.div_eq_of_lt lt, ea]
        omega
      · have s : 2 ^ (3 * n) = 2 ^ (3 * (n - k - 1)) * 8 * 2 ^ (3 * k) := by
          rw [show 3 * n = 3 * (n - k - 1) + 3 + 3 * k by omega, Nat.pow_add, Nat.pow_add]
        rw [← ih k (by omega), Nat.add_comm, s, ← Nat.mul_assoc, Nat.add_mul_div_right _ _ (Nat.two_pow_pos _), ← Nat.mul_assoc, Nat.add_mul_mod_self_right]
theorem wo_at {t : Int → Int} {n : Nat} (hn : n ≤ 8) (h : ∀ k : Int, 0 ≤ k → k < n → 0 ≤ t k ∧ t k < 8) {k : Int} (k0 : 0 ≤ k) (k1 : k < n) : band (bshr (wo t n) (3 * k)) 7 = t k := by
  obtain ⟨x, e, lt, ih⟩ := wo_nat n hn h
  obtain ⟨c, rfl⟩ := toN2 k0
  have p : 2 ^ (3 * n) ≤ 2 ^ 24 := Nat.pow_le_pow_right (by decide) (by omega)
  have hx : x < 2147483648 := by omega
  have e2 := bshr_nat (a := x) (i := 3 * c) (by omega) hx
  rw [show ((3 * c : Nat) : Int) = 3 * (c : Int) by omega] at e2
  have l2 : x / 2 ^ (3 * c) < 2147483648 := Nat.lt_of_le_of_lt (Nat.div_le_self _ _) hx
  have e3 := band_nat (b := 7) l2 (by decide)
  rw [e, e2, show (7 : Int) = ((7 : Nat) : Int) from rfl, e3, ← ih c (by omega), show (7 : Nat) = 2 ^ 3 - 1 from rfl, Nat.and_two_pow_sub_one_eq_mod]
theorem wo_S (to nn : Int) (σ : zG) : ∀ (n : Nat) (q : Nat), (nn - q).toNat < n → (q : Int) ≤ nn → (S_X12_withOrder_5 to nn n (wo (σ 7) q) q σ).1 = wo (σ 7) nn.toNat
  | 0, q, h, _ => absurd h (Nat.not_lt_zero _)
  | n + 1, q, h, hq => by
    rw [S_X12_withOrder_5]
    by_cases c : nn ≤ q
    · rw [if_pos c, show nn.toNat = q by omega]
    · rw [if_neg c]
      exact wo_S to nn σ n (q + 1) (by omega) (by omega)
theorem withOrder_eq (σ : zG) {to nn : Int} (h0 : 0 ≤ nn) (h1 : nn ≤ 8) : R_X12_withOrder σ to nn = zu σ 8 (to / 5) (wo (σ 7) nn.toNat) := by
  have e : ∀ (n : Nat) (v q : Int), (S_X12_withOrder_5 to nn n v q σ).2.2 = σ := by
    intro n v q
    funext k
    exact fr_S_X12_withOrder_5 to nn n v q σ (by simp)
  unfold R_X12_withOrder
  rw [e, show (S_X12_withOrder_5 to nn 10 0 0 σ).1 = wo (σ 7) nn.toNat from wo_S to nn σ 10 0 (by omega) h0]
