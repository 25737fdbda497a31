/-! pure: a token on both sides -/
theorem next_val (σ : zG) {Q C : Int} {T : Int × Int × Int × Int × Int} (hQ : skm (mu σ) (σ 0 3) 1000 (σ 0 4) = Q) (hC : pkc (mu σ) (σ 0 3) Q = C) (hT : mtR (mu σ) (σ 0 3) (b2 (97 ≤ C ∧ C ≤ 122)) 1000 1 0 0 0 Q = T) :
    (¬ σ 0 3 ≤ σ 0 5 → ¬ Q < σ 0 5 → F_X12_next σ 0 11 = 4 ∧ F_X12_next σ 0 12 = σ 0 5 ∧ F_X12_next σ 0 4 = Q) ∧
    (σ 0 3 ≤ σ 0 5 ∨ Q < σ 0 5 → (C < 0 → F_X12_next σ 0 11 = 0 ∧ F_X12_next σ 0 12 = Q ∧ F_X12_next σ 0 4 = Q) ∧
      (0 ≤ C → ((97 ≤ C ∧ C ≤ 122) ∨ (48 ≤ C ∧ C ≤ 57)) → F_X12_next σ 0 12 = Q ∧ F_X12_next σ 0 4 = T.2.2.2.2 ∧ F_X12_next σ 0 17 = T.2.1 ∧ F_X12_next σ 0 14 = T.2.2.1 ∧ (97 ≤ C → T.1 ≠ 0 → T.2.2.2.1 ≤ 6 → F_X12_next σ 0 11 = 1) ∧ (97 ≤ C → (T.1 = 0 ∨ 6 < T.2.2.2.1) → F_X12_next σ 0 11 = 4) ∧ (C < 97 → T.1 ≠ 0 → T.2.2.2.1 ≤ 3 → F_X12_next σ 0 11 = 2) ∧ (C < 97 → (T.1 = 0 ∨ 3 < T.2.2.2.1) → F_X12_next σ 0 11 = 4)) ∧
      (0 ≤ C → ¬ ((97 ≤ C ∧ C ≤ 122) ∨ (48 ≤ C ∧ C ≤ 57)) → F_X12_next σ 0 12 = Q ∧ F_X12_next σ 0 4 = Q + 1 ∧ F_X12_next σ 0 14 = C ∧ ((C = 59 ∨ C = 40 ∨ C = 41 ∨ (60 ≤ C ∧ C ≤ 62)) → F_X12_next σ 0 11 = 3) ∧ (¬ (C = 59 ∨ C = 40 ∨ C = 41 ∨ (60 ≤ C ∧ C ≤ 62)) → F_X12_next σ 0 11 = 4))) := by
  obtain ⟨τ, hF⟩ : ∃ τ, τ = F_X12_next σ := ⟨_, rfl⟩
  rw [← hF]
  unfold F_X12_next at hF
  rw [hQ, hC, hT] at hF
  clear hQ hC hT
  repeat' split at hF
  all_goals subst hF
  all_goals simp [zu]
  all_goals omega
/-- the tape and how far it is read -/
def TP (σ μ : zG) : Prop := (σ 1 1 = μ 0 3 ∧ 0 ≤ μ 0 3 ∧ μ 0 3 ≤ 940) ∧ (∀ j : Int, 0 ≤ j → j < 940 → σ 2 j = mu μ j ∧ 0 ≤ σ 2 j ∧ σ 2 j ≤ 255) ∧ σ 3 2 = min (μ 0 3) (μ 0 5) ∧ (0 ≤ σ 3 3 ∧ 0 ≤ μ 0 4 ∧ μ 0 4 ≤ μ 0 3) ∧ (σ 3 3 = μ 0 4 ∨ (σ 3 2 ≤ σ 3 3 ∧ σ 3 2 ≤ μ 0 4)) ∧ 0 ≤ μ 0 5
/-- the token that is read -/
def TK (σ μ : zG) : Prop := σ 3 5 = μ 0 12 ∧ ((σ 3 4 = 0 ∧ μ 0 11 = 0) ∨ (σ 3 4 = 1 ∧ μ 0 11 = 4) ∨ (σ 3 4 = 2 ∧ μ 0 11 = 1 ∧ wr (σ 3 6) (μ 0 17)) ∨ (σ 3 4 = 3 ∧ μ 0 11 = 2 ∧ σ 3 6 = μ 0 14 ∧ 0 ≤ μ 0 14 ∧ μ 0 14 ≤ 999) ∨ (σ 3 4 = 4 ∧ μ 0 11 = 3 ∧ σ 3 6 = μ 0 14))
theorem step_vals (σ : zG) : F_X5_step σ 3 3 = (Tk (σ 2) (σ 1 1) (σ 3 2) (σ 3 3)).2.2.2 ∧ F_X5_step σ 3 4 = (Tk (σ 2) (σ 1 1) (σ 3 2) (σ 3 3)).1 ∧ F_X5_step σ 3 5 = (Tk (σ 2) (σ 1 1) (σ 3 2) (σ 3 3)).2.1 ∧ F_X5_step σ 3 6 = (Tk (σ 2) (σ 1 1) (σ 3 2) (σ 3 3)).2.2.1 ∧ F_X5_step σ 3 7 = σ 3 7 ∧ F_X5_step σ 3 2 = σ 3 2 := by
  unfold F_X5_step zRd
  simp
theorem lex_kind {x a w mm s K : Int} {r : Int × Int × Int × Int × Int} (kl : (97 ≤ x ∧ x ≤ 122) ∨ (48 ≤ x ∧ x ≤ 57)) (hL : LI (b2 (97 ≤ x ∧ x ≤ 122)) r.1 r.2.1 r.2.2.1 r.2.2.2.1 a w mm s) (ad1 : 97 ≤ x → 1 ≤ r.1) (ad2 : x < 97 → 1 ≤ r.2.1) (k1 : 97 ≤ x → a ≠ 0 → s ≤ 6 → K = 1) (k2 : 97 ≤ x → (a = 0 ∨ 6 < s) → K = 4) (k3 : x < 97 → a ≠ 0 → s ≤ 3 → K = 2) (k4 : x < 97 → (a = 0 ∨ 3 < s) → K = 4) :
    (tkK r = 0 ∧ K = 0) ∨ (tkK r = 1 ∧ K = 4) ∨ (tkK r = 2 ∧ K = 1 ∧ wr (tkV r 0) w) ∨ (tkK r = 3 ∧ K = 2 ∧ tkV r 0 = mm ∧ 0 ≤ mm ∧ mm ≤ 999) ∨ (tkK r = 4 ∧ K = 3 ∧ tkV r 0 = mm) := by
  obtain ⟨i1, i2, i3, i4, i5, i6, i7⟩ := hL
  by_cases c : 97 ≤ x ∧ x ≤ 122
  · have i4' := i4 (b2_t c)
    have ad := ad1 c.1
    have k1' := k1 c.1
    have k2' := k2 c.1
    clear i4 i5 i7 ad1 ad2 k1 k2 k3 k4 kl
    by_cases w : r.2.1 = 0 ∧ r.1 ≤ 6
    · have eK : tkK r = 2 := if_pos w
      have eV : tkV r 0 = r.2.2.1 := if_pos w
      have a1 := i4'.mpr w.1
      have kk := k1' (by rw [a1]; decide) (by rw [i1, w.1]; omega)
      refine Or.inr (Or.inr (Or.inl ⟨eK, kk, ?_⟩))
      rw [eV]
      exact wr_of (i6 w.1 w.2) (by omega)
    · have eK : tkK r = 1 := by unfold tkK; rw [if_neg w, if_neg (by omega)]
      refine Or.inr (Or.inl ⟨eK, k2' ?_⟩)
      by_cases g0 : r.2.1 = 0
      · exact Or.inr (by omega)
      · rcases i3 with z | z
        · exact Or.inl z
        · exact absurd (i4'.mp z) g0
  · have i5' := i5 (b2_f c)
    have xl : x < 97 := by omega
    have ad := ad2 xl
    have k3' := k3 xl
    have k4' := k4 xl
    clear i4 i5 i6 ad1 ad2 k1 k2 k3 k4 kl
    by_cases w : r.1 = 0 ∧ r.2.1 ≤ 3
    · have eK : tkK r = 3 := by unfold tkK; rw [if_neg (by omega), if_pos w]
      have eV : tkV r 0 = r.2.2.2.1 := by unfold tkV; rw [if_neg (by omega), if_pos w]
      have a1 := i5'.mpr w.1
      have kk := k3' (by rw [a1]; decide) (by rw [i1, w.1]; omega)
      obtain ⟨m1, m2, m3, m4, m5, m6⟩ := i7 w.1 w.2
      refine Or.inr (Or.inr (Or.inr (Or.inl ⟨eK, kk, ?_⟩)))
      rw [eV]
      exact ⟨m1.symm, by omega, by omega⟩
    · have eK : tkK r = 1 := by unfold tkK; rw [if_neg (by omega), if_neg w]
      refine Or.inr (Or.inl ⟨eK, k4' ?_⟩)
      by_cases g0 : r.1 = 0
      · exact Or.inr (by omega)
      · rcases i3 with z | z
        · exact Or.inl z
        · exact absurd (i5'.mp z) g0
theorem run_adv {b : Int → Int} {len S : Int} (hl : S < len) (kl : (97 ≤ b S ∧ b S ≤ 122) ∨ (48 ≤ b S ∧ b S ≤ 57)) : (97 ≤ b S → 1 ≤ (tkR b len 1000 0 0 0 0 S).1) ∧ (b S < 97 → 1 ≤ (tkR b len 1000 0 0 0 0 S).2.1) ∧ S ≤ (tkR b len 1000 0 0 0 0 S).2.2.2.2 ∧ 0 < (tkR b len 1000 0 0 0 0 S).1 + (tkR b len 1000 0 0 0 0 S).2.1 := by
  have e : tkR b len 1000 0 0 0 0 S = tkR b len (999 + 1) 0 0 0 0 S := rfl
  have mono := (tkR_mono b len 1000 0 0 0 0 S).1
  rw [e] at *
  rw [tkR, if_neg (by omega)] at *
  by_cases c : 97 ≤ b S ∧ b S ≤ 122
  · rw [if_pos c] at *
    have h := tkR_mono b len 999 (0 + 1) 0 (bor (bshl 0 5) (b S - 96)) 0 (S + 1)
    have h1 := h.2.1
    have h2 := h.2.2.1
    clear h
    exact ⟨fun _ => by omega, fun h => absurd h (by omega), mono, by omega⟩
  · rw [if_neg c, if_pos (by omega)] at *
    have h := tkR_mono b len 999 0 (0 + 1) 0 (w32 ((w32 ((w32 (0 * 10)) + b S)) - 48)) (S + 1)
    have h1 := h.2.1
    have h2 := h.2.2.1
    clear h
    exact ⟨fun h => absurd h (by omega), fun _ => by omega, mono, by omega⟩
theorem run_non {b : Int → Int} {len S : Int} (hl : S < len) (kl : ¬ ((97 ≤ b S ∧ b S ≤ 122) ∨ (48 ≤ b S ∧ b S ≤ 57))) : tkR b len 1000 0 0 0 0 S = (0, 0, 0, 0, S) := by
  have e : tkR b len 1000 0 0 0 0 S = tkR b len (999 + 1) 0 0 0 0 S := rfl
  rw [e, tkR, if_neg (by omega), if_neg (by omega), if_neg (by omega)]
theorem lex_step {σ μ : zG} (h : TP σ μ) : TP (F_X5_step σ) (F_X12_next μ) ∧ TK (F_X5_step σ) (F_X12_next μ) := by
  obtain ⟨⟨e1, l0, l1⟩, hb, e2, ⟨p0, p1, p2⟩, hp, p5⟩ := h
  obtain ⟨s3, s4, s5, s6, s7, s2⟩ := step_vals σ
  have nk := next_all μ
  have n3 : F_X12_next μ 0 3 = μ 0 3 := nk.2.1 3 (by decide) (by decide) (by decide) (by decide) (by decide) (by decide)
  have n5 : F_X12_next μ 0 5 = μ 0 5 := nk.2.1 5 (by decide) (by decide) (by decide) (by decide) (by decide) (by decide)
  have nmu : mu (F_X12_next μ) = mu μ := by unfold mu; rw [nk.1 1 (by decide)]
  have c1 : F_X5_step σ 1 = σ 1 := fr_F_X5_step σ (by decide)
  have c2 : F_X5_step σ 2 = σ 2 := fr_F_X5_step σ (by decide)
  have hb' : ∀ j : Int, 0 ≤ j → j < μ 0 3 → σ 2 j = mu μ j := fun j j0 j1 => (hb j j0 (by omega)).1
  have hst : σ 3 2 ≤ μ 0 3 := by rw [e2]; exact Int.min_le_left _ _
  -- what is to be shown, in numbers
  have fin : ∀ (nx kd pl vl : Int), F_X5_step σ 3 3 = nx → F_X5_step σ 3 4 = kd → F_X5_step σ 3 5 = pl → F_X5_step σ 3 6 = vl → 0 ≤ nx → (nx = F_X12_next μ 0 4 ∨ (σ 3 2 ≤ nx ∧ σ 3 2 ≤ F_X12_next μ 0 4)) → pl = F_X12_next μ 0 12 → ((kd = 0 ∧ F_X12_next μ 0 11 = 0) ∨ (kd = 1 ∧ F_X12_next μ 0 11 = 4) ∨ (kd = 2 ∧ F_X12_next μ 0 11 = 1 ∧ wr vl (F_X12_next μ 0 17)) ∨ (kd = 3 ∧ F_X12_next μ 0 11 = 2 ∧ vl = F_X12_next μ 0 14 ∧ 0 ≤ F_X12_next μ 0 14 ∧ F_X12_next μ 0 14 ≤ 999) ∨ (kd = 4 ∧ F_X12_next μ 0 11 = 3 ∧ vl = F_X12_next μ 0 14)) → TP (F_X5_step σ) (F_X12_next μ) ∧ TK (F_X5_step σ) (F_X12_next μ) := by
    intro nx kd pl vl h3 h4 h5 h6 hn hpp hpl hk
    have q4 := nk.2.2.1
    refine ⟨⟨⟨by rw [c1, n3]; exact e1, by rw [n3]; exact l0, by rw [n3]; exact l1⟩, by rw [c2, nmu]; exact hb, by rw [s2, n3, n5]; exact e2, ⟨by omega, by omega, by omega⟩, by rw [h3, s2]; exact hpp, by omega⟩, ?_⟩
    unfold TK
    rw [h4, h5, h6]
    exact ⟨hpl, hk⟩
  rw [e1] at s3 s4 s5 s6
  have hsr := skb_r (σ 2) (σ 3 2) 1000 (σ 3 3)
  have hQr := skm_r (mu μ) (μ 0 3) 1000 (μ 0 4)
  have hs : (skb (σ 2) (σ 3 2) 1000 (σ 3 3) = skm (mu μ) (μ 0 3) 1000 (μ 0 4) ∧ skb (σ 2) (σ 3 2) 1000 (σ 3 3) < σ 3 2) ∨ (σ 3 2 ≤ skb (σ 2) (σ 3 2) 1000 (σ 3 3) ∧ σ 3 2 ≤ skm (mu μ) (μ 0 3) 1000 (μ 0 4)) := by
    rcases hp with e | ⟨a, b⟩
    · rw [e]
      have f : (μ 0 3 - μ 0 4).toNat < 1000 := by clear s3 s4 s5 s6 hsr hQr e2; omega
      rcases lex_sk hst hb' 1000 1000 (μ 0 4) p1 f f with q | q
      · exact Or.inl q
      · exact Or.inr ⟨q.1, q.2.1⟩
    · exact Or.inr ⟨Int.le_trans a hsr.1, Int.le_trans b hQr.1⟩
  rcases hs with ⟨hq, hlt⟩ | ⟨ha, hb2⟩
  · have NV := next_val μ rfl rfl rfl
    rw [← hq] at NV
    have NV1 := NV.2
    clear hQr hp NV
    revert NV1
    generalize hS : skb (σ 2) (σ 3 2) 1000 (σ 3 3) = S at *
    have S0 : 0 ≤ S := Int.le_trans p0 hsr.1
    have S1 : S < μ 0 3 := Int.lt_of_lt_of_le hlt hst
    have S9 : S < 940 := Int.lt_of_lt_of_le S1 l1
    have S5 : S < μ 0 5 := by
      have := Int.min_le_right (μ 0 3) (μ 0 5)
      rw [← e2] at this
      exact Int.lt_of_lt_of_le hlt this
    have hx := hb S S0 S9
    have hc : pkc (mu μ) (μ 0 3) S = σ 2 S := by unfold pkc; rw [if_pos S1, hb' S S0 S1]
    intro NV1
    have NV2 := NV1 (Or.inr S5)
    clear NV1
    rw [hc] at NV2
    have hsm : b2 (97 ≤ σ 2 S ∧ σ 2 S ≤ 122) = 0 ∨ b2 (97 ≤ σ 2 S ∧ σ 2 S ≤ 122) = 1 := by
      by_cases c : 97 ≤ σ 2 S ∧ σ 2 S ≤ 122
      · exact Or.inr (b2_t c)
      · exact Or.inl (b2_f c)
    by_cases kl : (97 ≤ σ 2 S ∧ σ 2 S ≤ 122) ∨ (48 ≤ σ 2 S ∧ σ 2 S ≤ 57)
    · obtain ⟨a12, a4, a17, a14, k1, k2, k3, k4⟩ := NV2.2.1 hx.2.1 kl
      clear NV2
      have run := lex_run (len := μ 0 3) hb' hsm 1000 0 0 0 0 1 0 0 0 S S0 ⟨rfl, by decide, Or.inr rfl, fun _ => ⟨fun _ => rfl, fun _ => rfl⟩, fun _ => ⟨fun _ => rfl, fun _ => rfl⟩, fun _ _ => wrn_0, fun _ _ => ⟨rfl, by decide, fun _ => rfl, fun _ => by decide, fun _ => by decide, by decide⟩⟩
      obtain ⟨ad1, ad2, ad3, ad4⟩ := run_adv S1 kl
      have hT := @Tk_b (σ 2) (μ 0 3) (σ 3 2) (σ 3 3) (by rw [hS]; exact hlt)
      rw [hS] at hT
      rw [hT ad4] at s3 s4 s5 s6
      clear hT
      have fk := lex_kind kl run.2 ad1 ad2 k1 k2 k3 k4
      rw [← a17, ← a14] at fk
      exact fin _ _ _ _ s3 s4 s5 s6 (Int.le_trans S0 ad3) (Or.inl (by rw [a4]; exact run.1)) a12.symm fk
    · obtain ⟨a12, a4, a14, k1, k2⟩ := NV2.2.2 hx.2.1 kl
      clear NV2
      have et := run_non S1 kl
      have hT := @Tk_c (σ 2) (μ 0 3) (σ 3 2) (σ 3 3) (by rw [hS]; exact hlt)
      rw [hS, et] at hT
      have hT2 := hT (by simp)
      rw [hT2] at s3 s4 s5 s6
      have S1' : 0 ≤ S + 1 := Int.le_trans S0 (Int.le_of_lt (Int.lt_succ S))
      refine fin _ _ _ _ s3 s4 s5 s6 S1' (Or.inl (by rw [a4])) a12.symm ?_
      by_cases c : sgn (σ 2 S)
      · exact Or.inr (Or.inr (Or.inr (Or.inr ⟨if_pos c, k1 c, by rw [a14]⟩)))
      · exact Or.inr (Or.inl ⟨if_neg c, k2 c⟩)
  · have S0 : 0 ≤ skb (σ 2) (σ 3 2) 1000 (σ 3 3) := Int.le_trans p0 hsr.1
    by_cases k : σ 3 2 < μ 0 3
    · have e5 : σ 3 2 = μ 0 5 := by clear s3 s4 s5 s6 hp; omega
      have g1 : ¬ μ 0 3 ≤ μ 0 5 := by rw [← e5]; exact Int.not_le.mpr k
      have g2 : ¬ skm (mu μ) (μ 0 3) 1000 (μ 0 4) < μ 0 5 := by rw [← e5]; exact Int.not_lt.mpr hb2
      rw [@Tk_a (σ 2) (μ 0 3) (σ 3 2) (σ 3 3) ha] at s3 s4 s5 s6
      obtain ⟨a1, a2, a3⟩ := (next_val μ rfl rfl rfl).1 g1 g2
      exact fin _ _ _ _ s3 s4 s5 s6 S0 (Or.inr ⟨ha, by rw [a3]; exact hb2⟩) (by rw [a2]; exact e5) (Or.inr (Or.inl ⟨if_pos k, a1⟩))
    · have e3 : σ 3 2 = μ 0 3 := Int.le_antisymm hst (Int.not_lt.mp k)
      have g1 : μ 0 3 ≤ μ 0 5 := by
        have := Int.min_le_right (μ 0 3) (μ 0 5)
        rw [← e2, e3] at this
        exact this
      have eQ : skm (mu μ) (μ 0 3) 1000 (μ 0 4) = μ 0 3 := by
        have m : max (μ 0 4) (μ 0 3) = μ 0 3 := Int.max_eq_right p2
        have h2 := hQr.2
        rw [m] at h2
        exact Int.le_antisymm h2 (Int.le_trans (Int.le_of_eq e3.symm) hb2)
      have hC : pkc (mu μ) (μ 0 3) (skm (mu μ) (μ 0 3) 1000 (μ 0 4)) < 0 := by
        unfold pkc
        rw [eQ, if_neg (Int.lt_irrefl _)]
        decide
      rw [@Tk_a (σ 2) (μ 0 3) (σ 3 2) (σ 3 3) ha] at s3 s4 s5 s6
      obtain ⟨a1, a2, a3⟩ := ((next_val μ rfl rfl rfl).2 (Or.inl g1)).1 hC
      exact fin _ _ _ _ s3 s4 s5 s6 S0 (Or.inr ⟨ha, by rw [a3]; exact hb2⟩) (by rw [a2, eQ]; exact e3) (Or.inl ⟨if_neg k, a1⟩)
