/-! pure: a token on both sides -/
theorem next_val (σ : zG) {Q C : Int} {T : Int × Int × Int × Int × Int} (hQ : skm (mu σ) (σ 0 3) 1000 (σ 0 4) = Q) (hC : pkc (mu σ) (σ 0 3) Q = C) (hT : mtR (mu σ) (σ 0 3) (b2 (97 ≤ C ∧ C ≤ 122)) 1000 1 0 0 0 Q = T) :
    (¬ σ 0 3 ≤ σ 0 5 → ¬ Q < σ 0 5 → F_X12_next σ 0 11 = 4 ∧ F_X12_next σ 0 12 = σ 0 5 ∧ F_X12_next σ 0 4 = Q) ∧
    (σ 0 3 ≤ σ 0 5 ∨ Q < σ 0 5 → (C < 0 → F_X12_next σ 0 11 = 0 ∧ F_X12_next σ 0 12 = Q ∧ F_X12_next σ 0 4 = Q) ∧
      (0 ≤ C → ((97 ≤ C ∧ C ≤ 122) ∨ (48 ≤ C ∧ C ≤ 57)) → F_X12_next σ 0 12 = Q ∧ F_X12_next σ 0 4 = T.2.2.2.2 ∧ F_X12_next σ 0 17 = T.2.1 ∧ F_X12_next σ 0 14 = T.2.2.1 ∧ (97 ≤ C → T.1 ≠ 0 → T.2.2.2.1 ≤ 6 → F_X12_next σ 0 11 = 1) ∧ (97 ≤ C → (T.1 = 0 ∨ 6 < T.2.2.2.1) → F_X12_next σ 0 11 = 4) ∧ (C < 97 → T.1 ≠ 0 → T.2.2.2.1 ≤ 3 → F_X12_next σ 0 11 = 2) ∧ (C < 97 → (T.1 = 0 ∨ 3 < T.2.2.2.1) → F_X12_next σ 0 11 = 4)) ∧
      (0 ≤ C → ¬ ((97 ≤ C ∧ C ≤ 122) ∨ (48 ≤ C ∧ C ≤ 57)) → F_X12_next σ 0 12 = Q ∧ F_X12_next σ 0 4 = Q + 1 ∧ F_X12_next σ 0 14 = C ∧ ((C = 59 ∨ C = 40 ∨ C = 41 ∨ (60 ≤ C ∧ C ≤ 62)) → F_X12_next σ 0 11 = 3) ∧ (¬ (C = 59 ∨ C = 40 ∨ C = 41 ∨ (60 ≤ C ∧ C ≤ 62)) → F_X12_next σ 0 11 = 4))) := by
  obtain ⟨τ, hF⟩ : ∃ τ, τ = F_X12_next σ := ⟨_, rfl⟩
  rw [← hF]
  unfold F_X12_next at hF
  rw [hQ, hC, hT] at hF
  clear hQ hC hT
  repeat' split at hF
  all_goals subst hF
  all_goals simp [zu]
  all_goals omega
/-- the tape and how far it is read -/
def TP (σ μ : zG) : Prop := (σ 1 1 = μ 0 3 ∧ 0 ≤ μ 0 3 ∧ μ 0 3 ≤ 940) ∧ (∀ j : Int, 0 ≤ j → j < 940 → σ 2 j = mu μ j ∧ 0 ≤ σ 2 j ∧ σ 2 j ≤ 255) ∧ σ 3 2 = min (μ 0 3) (μ 0 5) ∧ (0 ≤ σ 3 3 ∧ 0 ≤ μ 0 4 ∧ μ 0 4 ≤ μ 0 3) ∧ (σ 3 3 = μ 0 4 ∨ (σ 3 2 ≤ σ 3 3 ∧ σ 3 2 ≤ μ 0 4)) ∧ 0 ≤ μ 0 5
/-- the token that is read -/
def TK (σ μ : zG) : Prop := σ 3 5 = μ 0 12 ∧ ((σ 3 4 = 0 ∧ μ 0 11 = 0) ∨ (σ 3 4 = 1 ∧ μ 0 11 = 4) ∨ (σ 3 4 = 2 ∧ μ 0 11 = 1 ∧ wr (σ 3 6) (μ 0 17)) ∨ (σ 3 4 = 3 ∧ μ 0 11 = 2 ∧ σ 3 6 = μ 0 14 ∧ 0 ≤ μ 0 14 ∧ μ 0 14 ≤ 999) ∨ (σ 3 4 = 4 ∧ μ 0 11 = 3 ∧ σ 3 6 = μ 0 14))
theorem step_vals (σ : zG) : F_X5_step σ 3 3 = (Tk (σ 2) (σ 1 1) (σ 3 2) (σ 3 3)).2.2.2 ∧ F_X5_step σ 3 4 = (Tk (σ 2) (σ 1 1) (σ 3 2) (σ 3 3)).1 ∧ F_X5_step σ 3 5 = (Tk (σ 2) (σ 1 1) (σ 3 2) (σ 3 3)).2.1 ∧ F_X5_step σ 3 6 = (Tk (σ 2) (σ 1 1) (σ 3 2) (σ 3 3)).2.2.1 ∧ F_X5_step σ 3 7 = σ 3 7 ∧ F_X5_step σ 3 2 = σ 3 2 := by
  unfold F_X5_step zRd
  simp
theorem lex_step {σ μ : zG} (h : TP σ μ) : TP (F_X5_step σ) (F_X12_next μ) ∧ TK (F_X5_step σ) (F_X12_next μ) := by
  obtain ⟨⟨e1, l0, l1⟩, hb, e2, ⟨p0, p1, p2⟩, hp, p5⟩ := h
  obtain ⟨s3, s4, s5, s6, s7, s2⟩ := step_vals σ
  have nk := next_all μ
  have n3 : F_X12_next μ 0 3 = μ 0 3 := nk.2.1 3 (by decide) (by decide) (by decide) (by decide) (by decide) (by decide)
  have n5 : F_X12_next μ 0 5 = μ 0 5 := nk.2.1 5 (by decide) (by decide) (by decide) (by decide) (by decide) (by decide)
  have nmu : mu (F_X12_next μ) = mu μ := by unfold mu; rw [nk.1 1 (by decide)]
  have c1 : F_X5_step σ 1 = σ 1 := fr_F_X5_step σ (by decide)
  have c2 : F_X5_step σ 2 = σ 2 := fr_F_X5_step σ (by decide)
  have hb' : ∀ j : Int, 0 ≤ j → j < μ 0 3 → σ 2 j = mu μ j := fun j j0 j1 => (hb j j0 (by omega)).1
  have hst : σ 3 2 ≤ μ 0 3 := by rw [e2]; exact Int.min_le_left _ _
  -- what is to be shown, in numbers
  have fin : ∀ (nx kd pl vl : Int), F_X5_step σ 3 3 = nx → F_X5_step σ 3 4 = kd → F_X5_step σ 3 5 = pl → F_X5_step σ 3 6 = vl → 0 ≤ nx → (nx = F_X12_next μ 0 4 ∨ (σ 3 2 ≤ nx ∧ σ 3 2 ≤ F_X12_next μ 0 4)) → pl = F_X12_next μ 0 12 → ((kd = 0 ∧ F_X12_next μ 0 11 = 0) ∨ (kd = 1 ∧ F_X12_next μ 0 11 = 4) ∨ (kd = 2 ∧ F_X12_next μ 0 11 = 1 ∧ wr vl (F_X12_next μ 0 17)) ∨ (kd = 3 ∧ F_X12_next μ 0 11 = 2 ∧ vl = F_X12_next μ 0 14 ∧ 0 ≤ F_X12_next μ 0 14 ∧ F_X12_next μ 0 14 ≤ 999) ∨ (kd = 4 ∧ F_X12_next μ 0 11 = 3 ∧ vl = F_X12_next μ 0 14)) → TP (F_X5_step σ) (F_X12_next μ) ∧ TK (F_X5_step σ) (F_X12_next μ) := by
    intro nx kd pl vl h3 h4 h5 h6 hn hpp hpl hk
    have q4 := nk.2.2.1
    refine ⟨⟨⟨by rw [c1, n3]; exact e1, by rw [n3]; exact l0, by rw [n3]; exact l1⟩, by rw [c2, nmu]; exact hb, by rw [s2, n3, n5]; exact e2, ⟨by omega, by omega, by omega⟩, by rw [h3, s2]; exact hpp, by omega⟩, ?_⟩
    unfold TK
    rw [h4, h5, h6]
    exact ⟨hpl, hk⟩
  rw [e1] at s3 s4 s5 s6
  have hsr := skb_r (σ 2) (σ 3 2) 1000 (σ 3 3)
  have hQr := skm_r (mu μ) (μ 0 3) 1000 (μ 0 4)
  have hs : (skb (σ 2) (σ 3 2) 1000 (σ 3 3) = skm (mu μ) (μ 0 3) 1000 (μ 0 4) ∧ skb (σ 2) (σ 3 2) 1000 (σ 3 3) < σ 3 2) ∨ (σ 3 2 ≤ skb (σ 2) (σ 3 2) 1000 (σ 3 3) ∧ σ 3 2 ≤ skm (mu μ) (μ 0 3) 1000 (μ 0 4)) := by
    rcases hp with e | ⟨a, b⟩
    · rw [e]
      rcases lex_sk hst hb' 1000 1000 (μ 0 4) p1 (by omega) (by omega) with q | q
      · exact Or.inl q
      · exact Or.inr ⟨q.1, q.2.1⟩
    · exact Or.inr ⟨by omega, by omega⟩
  have NV := next_val μ rfl rfl rfl
  rcases hs with ⟨hq, hlt⟩ | ⟨ha, hb2⟩
  · rw [← hq] at NV
    generalize hS : skb (σ 2) (σ 3 2) 1000 (σ 3 3) = S at *
    have hx := hb S (by omega) (by omega)
    have hc : pkc (mu μ) (μ 0 3) S = σ 2 S := by unfold pkc; rw [if_pos (by omega), hb' S (by omega) (by omega)]
    have NV2 := NV.2 (by omega)
    clear NV
    rw [hc] at NV2
    have hsm : b2 (97 ≤ σ 2 S ∧ σ 2 S ≤ 122) = 0 ∨ b2 (97 ≤ σ 2 S ∧ σ 2 S ≤ 122) = 1 := by
      by_cases c : 97 ≤ σ 2 S ∧ σ 2 S ≤ 122
      · exact Or.inr (b2_t c)
      · exact Or.inl (b2_f c)
    by_cases kl : (97 ≤ σ 2 S ∧ σ 2 S ≤ 122) ∨ (48 ≤ σ 2 S ∧ σ 2 S ≤ 57)
    · obtain ⟨a12, a4, a17, a14, k1, k2, k3, k4⟩ := NV2.2.1 hx.2.1 kl
      have run := lex_run (len := μ 0 3) hb' hsm 1000 0 0 0 0 1 0 0 0 S (by omega) ⟨rfl, by decide, Or.inr rfl, fun _ => ⟨fun _ => rfl, fun _ => rfl⟩, fun _ => ⟨fun _ => rfl, fun _ => rfl⟩, fun _ _ => wrn_0, fun _ _ => ⟨rfl, by decide, fun _ => rfl, fun _ => by decide, fun _ => by decide, by decide⟩⟩
      have mono := tkR_mono (σ 2) (μ 0 3) 1000 0 0 0 0 S
      have adv : (97 ≤ σ 2 S → 1 ≤ (tkR (σ 2) (μ 0 3) 1000 0 0 0 0 S).1) ∧ (σ 2 S < 97 → 1 ≤ (tkR (σ 2) (μ 0 3) 1000 0 0 0 0 S).2.1) := by
        rw [show (1000 : Nat) = 999 + 1 from rfl, tkR, if_neg (by omega)]
        by_cases c : 97 ≤ σ 2 S ∧ σ 2 S ≤ 122
        · rw [if_pos c]
          have := (tkR_mono (σ 2) (μ 0 3) 999 (0 + 1) 0 (bor (bshl 0 5) (σ 2 S - 96)) 0 (S + 1)).2.1
          exact ⟨fun _ => by omega, fun h => absurd h (by omega)⟩
        · rw [if_neg c, if_pos (by omega)]
          have := (tkR_mono (σ 2) (μ 0 3) 999 0 (0 + 1) 0 (w32 ((w32 ((w32 (0 * 10)) + σ 2 S)) - 48)) (S + 1)).2.2.1
          exact ⟨fun h => absurd h (by omega), fun _ => by omega⟩
      have hT := @Tk_b (σ 2) (μ 0 3) (σ 3 2) (σ 3 3) (by rw [hS]; exact hlt)
      rw [hS] at hT
      have hT2 := hT (by omega)
      rw [hT2] at s3 s4 s5 s6
      clear hT hT2
      generalize tkR (σ 2) (μ 0 3) 1000 0 0 0 0 S = r at *
      generalize mtR (mu μ) (μ 0 3) (b2 (97 ≤ σ 2 S ∧ σ 2 S ≤ 122)) 1000 1 0 0 0 S = T at *
      obtain ⟨rp, i1, i2, i3, i4, i5, i6, i7⟩ := run
      refine fin _ _ _ _ s3 s4 s5 s6 (by show 0 ≤ r.2.2.2.2; omega) (Or.inl (by rw [a4]; exact rp)) a12.symm ?_
      show (tkK r = 0 ∧ _) ∨ (tkK r = 1 ∧ _) ∨ (tkK r = 2 ∧ _ ∧ wr (tkV r 0) _) ∨ (tkK r = 3 ∧ _ ∧ tkV r 0 = _ ∧ _) ∨ (tkK r = 4 ∧ _ ∧ tkV r 0 = _)
      by_cases c : 97 ≤ σ 2 S ∧ σ 2 S ≤ 122
      · have i4' := i4 (b2_t c)
        have ad := adv.1 c.1
        by_cases w : r.2.1 = 0 ∧ r.1 ≤ 6
        · have eK : tkK r = 2 := if_pos w
          have eV : tkV r 0 = r.2.2.1 := if_pos w
          have kk := k1 c.1 (by omega) (by omega)
          refine Or.inr (Or.inr (Or.inl ⟨eK, kk, ?_⟩))
          rw [eV, a17]
          exact wr_of (i6 w.1 w.2) (by omega)
        · have eK : tkK r = 1 := by unfold tkK; rw [if_neg w, if_neg (by omega)]
          exact Or.inr (Or.inl ⟨eK, k2 c.1 (by omega)⟩)
      · have i5' := i5 (b2_f c)
        have ad := adv.2 (by omega)
        by_cases w : r.1 = 0 ∧ r.2.1 ≤ 3
        · have eK : tkK r = 3 := by unfold tkK; rw [if_neg (by omega), if_pos w]
          have eV : tkV r 0 = r.2.2.2.1 := by unfold tkV; rw [if_neg (by omega), if_pos w]
          have kk := k3 (by omega) (by omega) (by omega)
          have i7' := i7 w.1 w.2
          refine Or.inr (Or.inr (Or.inr (Or.inl ⟨eK, kk, ?_⟩)))
          rw [eV, a14]
          exact ⟨i7'.1.symm, by omega, by omega⟩
        · have eK : tkK r = 1 := by unfold tkK; rw [if_neg (by omega), if_neg w]
          exact Or.inr (Or.inl ⟨eK, k4 (by omega) (by omega)⟩)
    · obtain ⟨a12, a4, a14, k1, k2⟩ := NV2.2.2 hx.2.1 kl
      have et : tkR (σ 2) (μ 0 3) 1000 0 0 0 0 S = (0, 0, 0, 0, S) := by
        rw [show (1000 : Nat) = 999 + 1 from rfl, tkR, if_neg (by omega), if_neg (by omega), if_neg (by omega)]
      have hT := @Tk_c (σ 2) (μ 0 3) (σ 3 2) (σ 3 3) (by rw [hS]; exact hlt)
      rw [hS, et] at hT
      have hT2 := hT (by decide)
      rw [hT2] at s3 s4 s5 s6
      refine fin _ _ _ _ s3 s4 s5 s6 (by show 0 ≤ S + 1; omega) (Or.inl (by rw [a4])) a12.symm ?_
      by_cases c : sgn (σ 2 S)
      · exact Or.inr (Or.inr (Or.inr (Or.inr ⟨if_pos c, k1 c, by rw [a14]⟩)))
      · exact Or.inr (Or.inl ⟨if_neg c, k2 c⟩)
  · have hT := @Tk_a (σ 2) (μ 0 3) (σ 3 2) (σ 3 3) ha
    rw [hT] at s3 s4 s5 s6
    by_cases k : σ 3 2 < μ 0 3
    · obtain ⟨a1, a2, a3⟩ := NV.1 (by omega) (by omega)
      exact fin _ _ _ _ s3 s4 s5 s6 (by show 0 ≤ skb (σ 2) (σ 3 2) 1000 (σ 3 3); omega) (Or.inr ⟨ha, by rw [a3]; exact hb2⟩) (by rw [a2]; show σ 3 2 = μ 0 5; omega) (Or.inr (Or.inl ⟨if_pos k, a1⟩))
    · have hC : pkc (mu μ) (μ 0 3) (skm (mu μ) (μ 0 3) 1000 (μ 0 4)) < 0 := by
        unfold pkc
        rw [if_neg (by omega)]
        decide
      obtain ⟨a1, a2, a3⟩ := (NV.2 (Or.inl (by omega))).1 hC
      exact fin _ _ _ _ s3 s4 s5 s6 (by show 0 ≤ skb (σ 2) (σ 3 2) 1000 (σ 3 3); omega) (Or.inr ⟨ha, by rw [a3]; exact hb2⟩) (by rw [a2]; show σ 3 2 = skm (mu μ) (μ 0 3) 1000 (μ 0 4); omega) (Or.inl ⟨if_neg k, a1⟩)
