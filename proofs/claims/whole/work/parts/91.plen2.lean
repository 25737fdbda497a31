/-! pure: where words stand on the tape -/
def aln (c : Int) : Prop := (97 ≤ c ∧ c ≤ 122) ∨ (48 ≤ c ∧ c ≤ 57)
theorem Tk_word {b : Int → Int} {len stop p : Int} (h0 : 0 ≤ p) (hst : stop ≤ len) (hlen : len ≤ 940) (hk : (Tk b len stop p).1 = 2) : p ≤ (Tk b len stop p).2.1 ∧ (Tk b len stop p).2.1 < stop ∧ (∃ l : Int, (1 ≤ l ∧ l ≤ 6) ∧ (Tk b len stop p).2.2.2 = (Tk b len stop p).2.1 + l ∧ 0 ≤ (Tk b len stop p).2.2.1 ∧ (Tk b len stop p).2.2.1 < 32 ^ l.toNat) ∧ (len ≤ (Tk b len stop p).2.2.2 ∨ ¬ aln (b (Tk b len stop p).2.2.2)) ∧ aln (b (Tk b len stop p).2.1) := by
  have hs := skb_r b stop 1000 p
  by_cases a : stop ≤ skb b stop 1000 p
  · rw [Tk_a a] at hk
    have : (if stop < len then (1 : Int) else 0) = 2 := hk
    split at this <;> omega
  · have a' : skb b stop 1000 p < stop := Int.not_le.mp a
    have S0 : 0 ≤ skb b stop 1000 p := Int.le_trans h0 hs.1
    have S1 : skb b stop 1000 p < len := Int.lt_of_lt_of_le a' hst
    by_cases c : 0 < (tkR b len 1000 0 0 0 0 (skb b stop 1000 p)).1 + (tkR b len 1000 0 0 0 0 (skb b stop 1000 p)).2.1
    · rw [Tk_b a' c] at hk ⊢
      have hk' : tkK (tkR b len 1000 0 0 0 0 (skb b stop 1000 p)) = 2 := hk
      have w : (tkR b len 1000 0 0 0 0 (skb b stop 1000 p)).2.1 = 0 ∧ (tkR b len 1000 0 0 0 0 (skb b stop 1000 p)).1 ≤ 6 := by
        unfold tkK at hk'
        by_cases w : (tkR b len 1000 0 0 0 0 (skb b stop 1000 p)).2.1 = 0 ∧ (tkR b len 1000 0 0 0 0 (skb b stop 1000 p)).1 ≤ 6
        · exact w
        · rw [if_neg w] at hk'
          split at hk' <;> omega
      have ev : tkV (tkR b len 1000 0 0 0 0 (skb b stop 1000 p)) 0 = (tkR b len 1000 0 0 0 0 (skb b stop 1000 p)).2.2.1 := if_pos w
      obtain ⟨r1, r2, r3⟩ := run_len S0 w.1 w.2
      have rm := run_max b len 1000 0 0 0 0 (skb b stop 1000 p) (by omega)
      have al : aln (b (skb b stop 1000 p)) := by
        by_cases k : aln (b (skb b stop 1000 p))
        · exact k
        · rw [run_non S1 k] at c
          exact absurd c (by simp)
      refine ⟨hs.1, a', ⟨(tkR b len 1000 0 0 0 0 (skb b stop 1000 p)).1, ⟨by omega, w.2⟩, r1, ?_, ?_⟩, rm, al⟩
      · show 0 ≤ tkV _ 0
        rw [ev]; exact r2
      · show tkV _ 0 < _
        rw [ev]; exact r3
    · rw [Tk_c a' c] at hk
      have : (if sgn (b (skb b stop 1000 p)) then (4 : Int) else 1) = 2 := hk
      split at this <;> omega
