/-! pure: words of five and of eight bits a letter, and a run of signs -/
theorem jv_nat {a : Nat} (h : a < 9223372036854775808) : (jv (a : Int)).toBitVec = BitVec.ofNat 64 a := by
  apply BitVec.eq_of_toInt_eq
  rw [Int64.toInt_toBitVec, jv_toInt ⟨by omega, by omega⟩, BitVec.toInt_eq_toNat_of_lt]
  · simp only [BitVec.toNat_ofNat]
    omega
  · simp only [BitVec.toNat_ofNat]
    omega
theorem jtoInt_small {x : Int64} (h : x.toBitVec.toNat < 9223372036854775808) : x.toInt = (x.toBitVec.toNat : Int) := by
  rw [← Int64.toInt_toBitVec, BitVec.toInt_eq_toNat_of_lt]
  omega
theorem jor_nat {a b : Nat} (ha : a < 9223372036854775808) (hb : b < 9223372036854775808) : jor (a : Int) (b : Int) = ((a ||| b : Nat) : Int) := by
  unfold jor
  have h1 : (jv (a : Int) ||| jv (b : Int)).toBitVec.toNat = a ||| b := by
    rw [Int64.toBitVec_or, jv_nat ha, jv_nat hb, BitVec.toNat_or, BitVec.toNat_ofNat, BitVec.toNat_ofNat, Nat.mod_eq_of_lt (by omega), Nat.mod_eq_of_lt (by omega)]
  have h2 : a ||| b < 2 ^ 63 := Nat.or_lt_two_pow ha hb
  rw [jtoInt_small (by rw [h1]; exact h2), h1]
theorem pk5 {c x : Int} (hc : 0 ≤ c ∧ c < 33554432) (hx : 0 ≤ x ∧ x < 32) : bor (bshl c 5) x = c * 32 + x := by
  obtain ⟨c', rfl⟩ := Int.eq_ofNat_of_zero_le hc.1
  obtain ⟨x', rfl⟩ := Int.eq_ofNat_of_zero_le hx.1
  have h := bshl_nat (a := c') (i := 5) (by decide) (by omega)
  rw [show ((5 : Nat) : Int) = 5 from rfl] at h
  rw [h, bor_nat (by omega) (by omega)]
  have h2 := Nat.shiftLeft_add_eq_or_of_lt (b := x') (i := 5) (by omega) c'
  rw [Nat.shiftLeft_eq] at h2
  rw [← h2]
  omega
theorem pk8 {w x : Int} (hw : 0 ≤ w ∧ w < 1099511627776) (hx : 0 ≤ x ∧ x < 256) : jor (jshl w 8) x = w * 256 + x := by
  obtain ⟨c', rfl⟩ := Int.eq_ofNat_of_zero_le hw.1
  obtain ⟨x', rfl⟩ := Int.eq_ofNat_of_zero_le hx.1
  have h := jshl_of (a := (c' : Int)) (i := 8) (by decide) ⟨by omega, by omega⟩ (by omega) (by omega)
  rw [show ((8 : Nat) : Int) = 8 from rfl] at h
  have e : (c' : Int) * 2 ^ 8 = ((c' * 2 ^ 8 : Nat) : Int) := by omega
  rw [h, e, jor_nat (by omega) (by omega)]
  have h2 := Nat.shiftLeft_add_eq_or_of_lt (b := x') (i := 8) (by omega) c'
  rw [Nat.shiftLeft_eq] at h2
  rw [← h2]
  omega
def cvt : Nat → Int → Int
  | 0, _ => 0
  | n + 1, c => if c = 0 then 0 else cvt n (c / 32) * 256 + (c % 32 + 96)
def dvt : Nat → Int → Int
  | 0, _ => 0
  | n + 1, w => if w = 0 then 0 else dvt n (w / 256) * 32 + (w % 256 - 96)
/-- one word on both sides, of at most n letters -/
def wrn (n : Nat) (c w : Int) : Prop := cvt n c = w ∧ dvt n w = c ∧ (0 ≤ c ∧ c < 32 ^ n) ∧ 0 ≤ w ∧ w < 256 ^ n
def wr (c w : Int) : Prop := wrn 6 c w
theorem wrn_0 : wrn 0 0 0 := ⟨rfl, rfl, ⟨by decide, by decide⟩, by decide, by decide⟩
theorem wrn_s {n : Nat} {c w x : Int} (h : wrn n c w) (hx : 1 ≤ x ∧ x ≤ 26) : wrn (n + 1) (c * 32 + x) (w * 256 + (x + 96)) := by
  obtain ⟨h1, h2, h3, h4⟩ := h
  unfold wrn
  rw [cvt, dvt, if_neg (by omega), if_neg (by omega), show (c * 32 + x) / 32 = c by omega, show (c * 32 + x) % 32 = x by omega, show (w * 256 + (x + 96)) / 256 = w by omega, show (w * 256 + (x + 96)) % 256 = x + 96 by omega, h1, h2, Int.pow_succ, Int.pow_succ]
  generalize (32 : Int) ^ n = a at *
  generalize (256 : Int) ^ n = b at *
  omega
theorem cvt_m : ∀ (n : Nat) (c : Int), 0 ≤ c → c < 32 ^ n → cvt (n + 1) c = cvt n c
  | 0, c, h0, h1 => by
    have : c = 0 := by
      have : (32 : Int) ^ 0 = 1 := rfl
      omega
    subst this; rfl
  | n + 1, c, h0, h1 => by
    by_cases e : c = 0
    · rw [cvt, if_pos e, cvt, if_pos e]
    · have a : cvt (n + 1 + 1) c = cvt (n + 1) (c / 32) * 256 + (c % 32 + 96) := by rw [cvt, if_neg e]
      have b : cvt (n + 1) c = cvt n (c / 32) * 256 + (c % 32 + 96) := by rw [cvt, if_neg e]
      have l : c / 32 < 32 ^ n := by
        rw [Int.pow_succ] at h1
        generalize (32 : Int) ^ n = p at *
        omega
      rw [a, b, cvt_m n (c / 32) (by omega) l]
theorem dvt_m : ∀ (n : Nat) (c : Int), 0 ≤ c → c < 256 ^ n → dvt (n + 1) c = dvt n c
  | 0, c, h0, h1 => by
    have : c = 0 := by
      have : (256 : Int) ^ 0 = 1 := rfl
      omega
    subst this; rfl
  | n + 1, c, h0, h1 => by
    by_cases e : c = 0
    · rw [dvt, if_pos e, dvt, if_pos e]
    · have a : dvt (n + 1 + 1) c = dvt (n + 1) (c / 256) * 32 + (c % 256 - 96) := by rw [dvt, if_neg e]
      have b : dvt (n + 1) c = dvt n (c / 256) * 32 + (c % 256 - 96) := by rw [dvt, if_neg e]
      have l : c / 256 < 256 ^ n := by
        rw [Int.pow_succ] at h1
        generalize (256 : Int) ^ n = p at *
        omega
      rw [a, b, dvt_m n (c / 256) (by omega) l]
theorem wrn_m {n : Nat} {c w : Int} (h : wrn n c w) : wrn (n + 1) c w := by
  obtain ⟨h1, h2, h3, h4⟩ := h
  refine ⟨by rw [cvt_m n c h3.1 h3.2]; exact h1, by rw [dvt_m n w h4.1 h4.2]; exact h2, ⟨h3.1, ?_⟩, h4.1, ?_⟩
  · rw [Int.pow_succ]
    generalize (32 : Int) ^ n = a at *
    omega
  · rw [Int.pow_succ]
    generalize (256 : Int) ^ n = a at *
    omega
theorem wrn_le {c w : Int} : ∀ (k n : Nat), wrn n c w → wrn (n + k) c w
  | 0, n, h => h
  | k + 1, n, h => wrn_m (wrn_le k n h)
theorem wr_of {n : Nat} {c w : Int} (h : wrn n c w) (hn : n ≤ 6) : wr c w := by
  have := wrn_le (6 - n) n h
  rw [show n + (6 - n) = 6 by omega] at this
  exact this
theorem wr_inj {c w c' w' : Int} (h : wr c w) (h' : wr c' w') : c = c' ↔ w = w' := by
  constructor
  · intro e; rw [← h.1, ← h'.1, e]
  · intro e; rw [← h.2.1, ← h'.2.1, e]
/-- a run half read on both sides -/
def LI (small l g c m a w mm s : Int) : Prop := s = l + g ∧ (0 ≤ l ∧ 0 ≤ g) ∧ (a = 0 ∨ a = 1) ∧ (small = 1 → (a = 1 ↔ g = 0)) ∧ (small = 0 → (a = 1 ↔ l = 0)) ∧ (g = 0 → l ≤ 6 → wrn l.toNat c w) ∧ (l = 0 → g ≤ 3 → mm = m ∧ 0 ≤ m ∧ (g = 0 → m = 0) ∧ (g ≤ 1 → m ≤ 9) ∧ (g ≤ 2 → m ≤ 99) ∧ m ≤ 999)
theorem LI_l {small l g c m a w mm s x : Int} (hs : small = 0 ∨ small = 1) (h : LI small l g c m a w mm s) (hx : 97 ≤ x ∧ x ≤ 122) : LI small (l + 1) g (bor (bshl c 5) (x - 96)) m (mtA small a x) (mtW s w x) (mtN s mm x) (s + 1) := by
  obtain ⟨h1, h2, h3, h4, h5, h6, h7⟩ := h
  have eb : b2 (97 ≤ x ∧ x ≤ 122) = 1 := b2_t hx
  have ea : mtA small a x = if a = 0 then 0 else if (1 : Int) = small then 1 else 0 := by unfold mtA; rw [eb]
  refine ⟨by omega, by omega, ?_, ?_, ?_, fun g0 l6 => ?_, fun l0 => absurd l0 (by omega)⟩
  · rw [ea]; repeat' split
    all_goals omega
  · intro e
    rw [ea]
    have := h4 e
    rcases h3 with r | r
    · rw [if_pos r]; omega
    · rw [if_neg (by omega), if_pos e.symm]; omega
  · intro e
    rw [ea]
    rcases h3 with r | r
    · rw [if_pos r]; omega
    · rw [if_neg (by omega), if_neg (by omega)]; omega
  · have hw := h6 g0 (by omega)
    have h5' : l ≤ 5 := by omega
    have bc : 0 ≤ c ∧ c < 33554432 := by
      have := wrn_le (5 - l.toNat) _ hw
      rw [show l.toNat + (5 - l.toNat) = 5 by omega] at this
      exact this.2.2.1
    have bw : 0 ≤ w ∧ w < 1099511627776 := by
      have := wrn_le (5 - l.toNat) _ hw
      rw [show l.toNat + (5 - l.toNat) = 5 by omega] at this
      exact this.2.2.2
    have ew : mtW s w x = w * 256 + x := by unfold mtW; rw [if_neg (by omega), pk8 bw (by omega)]
    rw [ew, pk5 bc (by omega), show (l + 1).toNat = l.toNat + 1 by omega]
    have := wrn_s (x := x - 96) hw (by omega)
    rw [show x - 96 + 96 = x by omega] at this
    exact this
theorem LI_d {small l g c m a w mm s x : Int} (hs : small = 0 ∨ small = 1) (h : LI small l g c m a w mm s) (hx : 48 ≤ x ∧ x ≤ 57) : LI small l (g + 1) c (w32 ((w32 ((w32 (m * 10)) + x)) - 48)) (mtA small a x) (mtW s w x) (mtN s mm x) (s + 1) := by
  obtain ⟨h1, h2, h3, h4, h5, h6, h7⟩ := h
  have eb : b2 (97 ≤ x ∧ x ≤ 122) = 0 := b2_f (by omega)
  have ea : mtA small a x = if a = 0 then 0 else if (0 : Int) = small then 1 else 0 := by unfold mtA; rw [eb]
  refine ⟨by omega, by omega, ?_, ?_, ?_, fun g0 => absurd g0 (by omega), fun l0 g3 => ?_⟩
  · rw [ea]; repeat' split
    all_goals omega
  · intro e
    rw [ea]
    rcases h3 with r | r
    · rw [if_pos r]; omega
    · rw [if_neg (by omega), if_neg (by omega)]; omega
  · intro e
    rw [ea]
    have := h5 e
    rcases h3 with r | r
    · rw [if_pos r]; omega
    · rw [if_neg (by omega), if_pos e.symm]; omega
  · obtain ⟨e1, e2, e3, e4, e5, e6⟩ := h7 l0 (by omega)
    have en : mtN s mm x = (10 * mm + x) - 48 := by unfold mtN; rw [if_neg (by omega)]
    rw [en, w32_id (z := m * 10) ⟨by omega, by omega⟩, w32_id (z := m * 10 + x) ⟨by omega, by omega⟩, w32_id ⟨by omega, by omega⟩]
    omega
theorem lex_run {b u : Int → Int} {len small : Int} (hb : ∀ j : Int, 0 ≤ j → j < len → b j = u j) (hs : small = 0 ∨ small = 1) : ∀ (n : Nat) (l g c m a w mm s p : Int), 0 ≤ p → LI small l g c m a w mm s → (tkR b len n l g c m p).2.2.2.2 = (mtR u len small n a w mm s p).2.2.2.2 ∧ LI small (tkR b len n l g c m p).1 (tkR b len n l g c m p).2.1 (tkR b len n l g c m p).2.2.1 (tkR b len n l g c m p).2.2.2.1 (mtR u len small n a w mm s p).1 (mtR u len small n a w mm s p).2.1 (mtR u len small n a w mm s p).2.2.1 (mtR u len small n a w mm s p).2.2.2.1
  | 0, l, g, c, m, a, w, mm, s, p, h0, h => ⟨rfl, h⟩
  | n + 1, l, g, c, m, a, w, mm, s, p, h0, h => by
    rw [tkR, mtR]
    by_cases k : len ≤ p
    · have e : pkc u len p = -1 := if_neg (by omega)
      rw [if_pos k, e, if_neg (by unfold lod; omega)]
      exact ⟨rfl, h⟩
    · have e : pkc u len p = b p := by unfold pkc; rw [if_pos (by omega), hb p h0 (by omega)]
      rw [if_neg k, e]
      by_cases k1 : 97 ≤ b p ∧ b p ≤ 122
      · rw [if_pos k1, if_pos (Or.inl k1)]
        exact lex_run hb hs n _ _ _ _ _ _ _ _ (p + 1) (by omega) (LI_l hs h k1)
      · rw [if_neg k1]
        by_cases k2 : 48 ≤ b p ∧ b p ≤ 57
        · rw [if_pos k2, if_pos (Or.inr k2)]
          exact lex_run hb hs n _ _ _ _ _ _ _ _ (p + 1) (by omega) (LI_d hs h k2)
        · rw [if_neg k2, if_neg (by unfold lod; omega)]
          exact ⟨rfl, h⟩
/-- the blanks before a token -/
theorem lex_sk {b u : Int → Int} {len stop : Int} (hst : stop ≤ len) (hb : ∀ j : Int, 0 ≤ j → j < len → b j = u j) : ∀ (n n' : Nat) (p : Int), 0 ≤ p → (len - p).toNat < n → (len - p).toNat < n' → (skb b stop n p = skm u len n' p ∧ skb b stop n p < stop) ∨ (stop ≤ skb b stop n p ∧ stop ≤ skm u len n' p ∧ (p ≤ stop → skb b stop n p = stop))
  | 0, _, p, _, h, _ => absurd h (Nat.not_lt_zero _)
  | _ + 1, 0, p, _, _, h => absurd h (Nat.not_lt_zero _)
  | n + 1, n' + 1, p, h0, h, h' => by
    by_cases k : stop ≤ p
    · have := (skm_r u len (n' + 1) p).1
      refine Or.inr ?_
      rw [skb, if_pos k]
      exact ⟨k, by omega, fun h => by omega⟩
    · have e : pkc u len p = b p := by unfold pkc; rw [if_pos (by omega), hb p h0 (by omega)]
      have ih := lex_sk hst hb n n' (p + 1) (by omega) (by omega) (by omega)
      have ih' : (skb b stop n (p + 1) = skm u len n' (p + 1) ∧ skb b stop n (p + 1) < stop) ∨ (stop ≤ skb b stop n (p + 1) ∧ stop ≤ skm u len n' (p + 1) ∧ (p ≤ stop → skb b stop n (p + 1) = stop)) := by
        rcases ih with h | h
        · exact Or.inl h
        · exact Or.inr ⟨h.1, h.2.1, fun _ => h.2.2 (by omega)⟩
      rw [skb, skm, if_neg k, e]
      by_cases k1 : b p = 32
      · rw [if_pos k1, if_pos k1]; exact ih'
      · rw [if_neg k1, if_neg k1]
        by_cases k2 : b p = 10
        · rw [if_pos k2, if_pos k2]; exact ih'
        · rw [if_neg k2, if_neg k2]; exact Or.inl ⟨rfl, by omega⟩
