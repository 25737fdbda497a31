/-! pure: how long a word is -/
theorem run_max (b : Int → Int) (len : Int) : ∀ (n : Nat) (l g c m p : Int), (len - p).toNat < n → len ≤ (tkR b len n l g c m p).2.2.2.2 ∨ ¬ ((97 ≤ b (tkR b len n l g c m p).2.2.2.2 ∧ b (tkR b len n l g c m p).2.2.2.2 ≤ 122) ∨ (48 ≤ b (tkR b len n l g c m p).2.2.2.2 ∧ b (tkR b len n l g c m p).2.2.2.2 ≤ 57))
  | 0, l, g, c, m, p, h => absurd h (Nat.not_lt_zero _)
  | n + 1, l, g, c, m, p, h => by
    rw [tkR]
    by_cases k : len ≤ p
    · rw [if_pos k]; exact Or.inl k
    · rw [if_neg k]
      by_cases k1 : 97 ≤ b p ∧ b p ≤ 122
      · rw [if_pos k1]; exact run_max b len n _ _ _ _ _ (by omega)
      · rw [if_neg k1]
        by_cases k2 : 48 ≤ b p ∧ b p ≤ 57
        · rw [if_pos k2]; exact run_max b len n _ _ _ _ _ (by omega)
        · rw [if_neg k2]
          exact Or.inr (fun x => x.elim k1 k2)
theorem run_len {b : Int → Int} {len p : Int} (h0 : 0 ≤ p) (hg : (tkR b len 1000 0 0 0 0 p).2.1 = 0) (hl : (tkR b len 1000 0 0 0 0 p).1 ≤ 6) : (tkR b len 1000 0 0 0 0 p).2.2.2.2 = p + (tkR b len 1000 0 0 0 0 p).1 ∧ 0 ≤ (tkR b len 1000 0 0 0 0 p).2.2.1 ∧ (tkR b len 1000 0 0 0 0 p).2.2.1 < 32 ^ (tkR b len 1000 0 0 0 0 p).1.toNat := by
  have run := lex_run (b := b) (u := b) (len := len) (small := 1) (fun _ _ _ => rfl) (Or.inr rfl) 1000 0 0 0 0 1 0 0 0 p h0 ⟨rfl, by decide, Or.inr rfl, fun _ => ⟨fun _ => rfl, fun _ => rfl⟩, fun _ => ⟨fun _ => rfl, fun _ => rfl⟩, fun _ _ => wrn_0, fun _ _ => ⟨rfl, by decide, fun _ => rfl, fun _ => by decide, fun _ => by decide, by decide⟩⟩
  have mono := tkR_mono b len 1000 0 0 0 0 p
  have m4 := mono.2.2.2.1
  have w := run.2.2.2.2.2.2.1 hg hl
  exact ⟨by omega, w.2.2.1⟩
