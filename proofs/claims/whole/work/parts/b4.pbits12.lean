/-! pure: sets of at most twelve facts as numbers -/
def cn12 (x : Nat) : Nat := (x.testBit 0).toNat + (x.testBit 1).toNat + (x.testBit 2).toNat + (x.testBit 3).toNat + (x.testBit 4).toNat + (x.testBit 5).toNat + (x.testBit 6).toNat + (x.testBit 7).toNat + (x.testBit 8).toNat + (x.testBit 9).toNat + (x.testBit 10).toNat + (x.testBit 11).toNat
def nb12 (x : Nat) : Nat := (x.testBit 0).toNat + 2 * (x.testBit 1).toNat + 4 * (x.testBit 2).toNat + 8 * (x.testBit 3).toNat + 16 * (x.testBit 4).toNat + 32 * (x.testBit 5).toNat + 64 * (x.testBit 6).toNat + 128 * (x.testBit 7).toNat + 256 * (x.testBit 8).toNat + 512 * (x.testBit 9).toNat + 1024 * (x.testBit 10).toNat + 2048 * (x.testBit 11).toNat
theorem nb12_t : ∀ a b : Fin 64, nb12 (64 * a.val + b.val) = 64 * a.val + b.val := by decide +kernel
theorem cn12_t : ∀ a b : Fin 64, pcn ((64 * a.val + b.val : Nat) : Int) = (cn12 (64 * a.val + b.val) : Int) := by decide +kernel
theorem nb12_eq (x : Fin 4096) : nb12 x.val = x.val := by
  have h := nb12_t ⟨x.val / 64, by omega⟩ ⟨x.val % 64, by omega⟩
  simp only at h
  rw [show 64 * (x.val / 64) + x.val % 64 = x.val by omega] at h
  exact h
theorem cn12_pcn (x : Fin 4096) : pcn (x.val : Int) = (cn12 x.val : Int) := by
  have h := cn12_t ⟨x.val / 64, by omega⟩ ⟨x.val % 64, by omega⟩
  simp only at h
  rw [show 64 * (x.val / 64) + x.val % 64 = x.val by omega] at h
  exact h
theorem bit_if {n : Nat} (hn : n < 4096) {f : Int} (f0 : 0 ≤ f) (f1 : f < 12) (z : Int) : (if hb (n : Int) f then z else 0) = z * ((n.testBit f.toNat).toNat : Int) := by
  obtain ⟨i, rfl⟩ := toN2 f0
  have e := hb_nat (b := n) (i := i) (by omega) (by omega)
  rw [Int.toNat_natCast]
  by_cases c : n.testBit i = true
  · rw [if_pos (e.mpr c), c]; simp
  · rw [if_neg (fun x => c (e.mp x))]
    have : n.testBit i = false := by simpa using c
    rw [this]; simp
theorem ws_many {x : Int} (hx : 0 ≤ x ∧ x < 4096) : ws (fun _ => 1) x = pcn x := by
  obtain ⟨n, rfl⟩ := toN2 hx.1
  have hn : n < 4096 := by omega
  have e : ws (fun _ => 1) (n : Int) = ssum (fun f => 1 * ((n.testBit f.toNat).toNat : Int)) 12 := ssum_cg 12 (fun f f0 f1 => bit_if hn f0 (by omega) 1)
  have p := cn12_pcn ⟨n, hn⟩
  simp only at p
  rw [e, p]
  simp only [ssum, cn12]
  simp
theorem ws_bits {x : Int} (hx : 0 ≤ x ∧ x < 4096) : ws (fun f => bshl 1 f) x = x := by
  obtain ⟨n, rfl⟩ := toN2 hx.1
  have hn : n < 4096 := by omega
  have e : ws (fun f => bshl 1 f) (n : Int) = ssum (fun f => bshl 1 f * ((n.testBit f.toNat).toNat : Int)) 12 := ssum_cg 12 (fun f f0 f1 => bit_if hn f0 (by omega) _)
  have p := nb12_eq ⟨n, hn⟩
  simp only at p
  rw [e]
  have b : ∀ c : Nat, c < 12 → bshl 1 (c : Int) = ((2 ^ c : Nat) : Int) := fun c hc => (bit_nat hc).1
  simp only [ssum]
  rw [b 0 (by decide), b 1 (by decide), b 2 (by decide), b 3 (by decide), b 4 (by decide), b 5 (by decide), b 6 (by decide), b 7 (by decide), b 8 (by decide), b 9 (by decide), b 10 (by decide), b 11 (by decide)]
  unfold nb12 at p
  simp [-Nat.testBit_zero]
  omega
theorem ws_lin {a d : Int → Int} {A : Int} : ws (fun f => a f * 65536 + 4096 + d f) A = ws a A * 65536 + ws (fun _ => 1) A * 4096 + ws d A := by
  have : ∀ n : Nat, ssum (fun f => if hb A f then a f * 65536 + 4096 + d f else 0) n = ssum (fun f => if hb A f then a f else 0) n * 65536 + ssum (fun f => if hb A f then 1 else 0) n * 4096 + ssum (fun f => if hb A f then d f else 0) n := by
    intro n
    induction n with
    | zero => rfl
    | succ n ih =>
      rw [ssum, ssum, ssum, ssum, ih]
      by_cases c : hb A n
      · simp only [if_pos c]; omega
      · simp only [if_neg c]; omega
  exact this 12
theorem off_hi {x F f : Int} (hx : 0 ≤ x) (hF : 0 ≤ F ∧ F ≤ 12) (h : x < bshl 1 F) (f0 : F ≤ f) (f1 : f < 12) : ¬ hb x f := by
  obtain ⟨n, rfl⟩ := toN2 hx
  obtain ⟨m, rfl⟩ := toN2 hF.1
  obtain ⟨i, rfl⟩ := toN2 (show 0 ≤ f by omega)
  have e := bshl_nat (a := 1) (i := m) (by omega) (by
    have : 2 ^ m ≤ 2 ^ 12 := Nat.pow_le_pow_right (by decide) (by omega)
    omega)
  have e' : bshl 1 (m : Int) = ((1 * 2 ^ m : Nat) : Int) := e
  rw [e'] at h
  have l : 2 ^ m ≤ 2 ^ i := Nat.pow_le_pow_right (by decide) (by omega)
  have l2 : 2 ^ m ≤ 2 ^ 12 := Nat.pow_le_pow_right (by decide) (by omega)
  rw [hb_nat (by omega) (by omega)]
  have : n < 2 ^ i := by omega
  simp [Nat.testBit_lt_two_pow this]
theorem shl_F {F : Int} (hF : 0 ≤ F ∧ F ≤ 12) : 1 ≤ bshl 1 F ∧ bshl 1 F ≤ 4096 := by
  obtain ⟨m, rfl⟩ := toN2 hF.1
  have l2 : 2 ^ m ≤ 2 ^ 12 := Nat.pow_le_pow_right (by decide) (by omega)
  have p := Nat.two_pow_pos m
  have e := bshl_nat (a := 1) (i := m) (by omega) (by omega)
  have e' : bshl 1 (m : Int) = ((1 * 2 ^ m : Nat) : Int) := e
  rw [e']; omega
theorem lt_hi {x F : Int} (hx : 0 ≤ x ∧ x < 4096) (hF : 0 ≤ F ∧ F ≤ 12) (h : ∀ f : Int, F ≤ f → f < 12 → ¬ hb x f) : x < bshl 1 F := by
  obtain ⟨n, rfl⟩ := toN2 hx.1
  obtain ⟨m, rfl⟩ := toN2 hF.1
  have l2 : 2 ^ m ≤ 2 ^ 12 := Nat.pow_le_pow_right (by decide) (by omega)
  have e := bshl_nat (a := 1) (i := m) (by omega) (by omega)
  have e' : bshl 1 (m : Int) = ((1 * 2 ^ m : Nat) : Int) := e
  rw [e']
  have : n < 2 ^ m := Nat.lt_pow_two_of_testBit n (fun i hi => by
    by_cases c : i < 12
    · have := h i (by omega) (by omega)
      rw [hb_nat (by omega) (by omega)] at this
      simpa using this
    · have l : 2 ^ 12 ≤ 2 ^ i := Nat.pow_le_pow_right (by decide) (by omega)
      exact Nat.testBit_lt_two_pow (by omega))
  omega
theorem band_0 {x y : Int} (hx : 0 ≤ x ∧ x < 4096) (hy : 0 ≤ y ∧ y < 4096) : band x y = 0 ↔ ∀ f : Int, 0 ≤ f → f < 12 → hb x f → ¬ hb y f := by
  constructor
  · intro e f f0 f1 a b
    have := (hb_band hx hy ⟨f0, by omega⟩).mpr ⟨a, b⟩
    rw [e] at this
    exact hb_0 ⟨f0, by omega⟩ this
  · intro h
    refine hb_ext (band_r hx) ⟨by decide, by decide⟩ (fun f f0 f1 => ?_)
    rw [hb_band hx hy ⟨f0, by omega⟩]
    exact ⟨fun x => absurd x.2 (h f f0 f1 x.1), fun x => absurd x (hb_0 ⟨f0, by omega⟩)⟩
