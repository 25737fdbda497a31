/-! the reference reads tokens, closed forms -/
def zu4 (σ : zG) (w m s p : Int) : zG := zu (zu (zu (zu σ 0 17 w) 0 14 m) 0 13 s) 0 4 p
theorem zu4_row (σ : zG) (w m s p : Int) {k : Nat} (h : k ≠ 0) : zu4 σ w m s p k = σ k := by
  unfold zu4
  rw [zu_row _ _ _ h, zu_row _ _ _ h, zu_row _ _ _ h, zu_row _ _ _ h]
theorem zu4_i (σ : zG) (w m s p i : Int) : zu4 σ w m s p 0 i = if i = 4 then p else if i = 13 then s else if i = 14 then m else if i = 17 then w else σ 0 i := by
  unfold zu4
  rw [zu_if, zu_if, zu_if, zu_if]
theorem zu4_ext {σ τ : zG} {w m s p : Int} (h : ∀ k, k ≠ 0 → τ k = σ k) (h2 : ∀ i : Int, i ≠ 4 → i ≠ 13 → i ≠ 14 → i ≠ 17 → τ 0 i = σ 0 i) (h3 : τ 0 17 = w) (h4 : τ 0 14 = m) (h5 : τ 0 13 = s) (h6 : τ 0 4 = p) : τ = zu4 σ w m s p := by
  funext k i
  by_cases hk : k = 0
  · subst hk
    rw [zu4_i]
    by_cases e3 : i = 4
    · rw [if_pos e3, e3, h6]
    · rw [if_neg e3]
      by_cases e4 : i = 13
      · rw [if_pos e4, e4, h5]
      · rw [if_neg e4]
        by_cases e5 : i = 14
        · rw [if_pos e5, e5, h4]
        · rw [if_neg e5]
          by_cases e6 : i = 17
          · rw [if_pos e6, e6, h3]
          · rw [if_neg e6, h2 i e3 e4 e5 e6]
  · rw [zu4_row _ _ _ _ _ hk, h k hk]
theorem zu4_a (σ : zG) (w s p : Int) : zu (zu (zu σ 0 17 w) 0 13 s) 0 4 p = zu4 σ w (σ 0 14) s p := zu4_ext (fun k hk => by funext i; simp [zu, hk]) (fun i e1 e2 e3 e4 => by simp [zu, e1, e2, e3, e4]) (by simp [zu]) (by simp [zu]) (by simp [zu]) (by simp [zu])
theorem zu4_b (σ : zG) (m s p : Int) : zu (zu (zu σ 0 14 m) 0 13 s) 0 4 p = zu4 σ (σ 0 17) m s p := zu4_ext (fun k hk => by funext i; simp [zu, hk]) (fun i e1 e2 e3 e4 => by simp [zu, e1, e2, e3, e4]) (by simp [zu]) (by simp [zu]) (by simp [zu]) (by simp [zu])
theorem zu4_c (σ : zG) (s p : Int) : zu (zu σ 0 13 s) 0 4 p = zu4 σ (σ 0 17) (σ 0 14) s p := zu4_ext (fun k hk => by funext i; simp [zu, hk]) (fun i e1 e2 e3 e4 => by simp [zu, e1, e2, e3, e4]) (by simp [zu]) (by simp [zu]) (by simp [zu]) (by simp [zu])
theorem zu4_d (σ : zG) (w m s p : Int) : zu (zu (zu (zu σ 0 17 w) 0 14 m) 0 13 s) 0 4 p = zu4 σ w m s p := rfl
theorem zu4_4 (σ : zG) (w m s p w' m' s' p' : Int) : zu4 (zu4 σ w m s p) w' m' s' p' = zu4 σ w' m' s' p' := zu4_ext (fun k hk => by rw [zu4_row _ _ _ _ _ hk, zu4_row _ _ _ _ _ hk]) (fun i e1 e2 e3 e4 => by rw [zu4_i, zu4_i]; simp [e1, e2, e3, e4]) (by rw [zu4_i]; simp) (by rw [zu4_i]; simp) (by rw [zu4_i]; simp) (by rw [zu4_i]; simp)
theorem zu4_self (σ : zG) : zu4 σ (σ 0 17) (σ 0 14) (σ 0 13) (σ 0 4) = σ := (zu4_ext (fun _ _ => rfl) (fun _ _ _ _ _ => rfl) rfl rfl rfl rfl).symm
theorem mu_zu4 (σ : zG) (w m s p : Int) : mu (zu4 σ w m s p) = mu σ := by unfold mu; rw [zu4_row _ _ _ _ _ (by decide)]
def mtA (small a c : Int) : Int := if a = 0 then 0 else if b2 (97 ≤ c ∧ c ≤ 122) = small then 1 else 0
def mtW (s w c : Int) : Int := if 6 ≤ s then w else jor (jshl w 8) c
def mtN (s m c : Int) : Int := if 3 ≤ s then m else ((10 * m) + c) - 48
abbrev lod (c : Int) : Prop := (97 ≤ c ∧ c ≤ 122) ∨ (48 ≤ c ∧ c ≤ 57)
def mtR (u : Int → Int) (sz small : Int) : Nat → Int → Int → Int → Int → Int → Int × Int × Int × Int × Int
  | 0, a, w, m, s, p => (a, w, m, s, p)
  | n + 1, a, w, m, s, p => if lod (pkc u sz p) then mtR u sz small n (mtA small a (pkc u sz p)) (mtW s w (pkc u sz p)) (mtN s m (pkc u sz p)) (s + 1) (p + 1) else (a, w, m, s, p)
theorem S_next181_eq (small : Int) : ∀ (n : Nat) (a : Int) (σ : zG), S_X12_next_181 small n a σ = ((mtR (mu σ) (σ 0 3) small n a (σ 0 17) (σ 0 14) (σ 0 13) (σ 0 4)).1, zu4 σ (mtR (mu σ) (σ 0 3) small n a (σ 0 17) (σ 0 14) (σ 0 13) (σ 0 4)).2.1 (mtR (mu σ) (σ 0 3) small n a (σ 0 17) (σ 0 14) (σ 0 13) (σ 0 4)).2.2.1 (mtR (mu σ) (σ 0 3) small n a (σ 0 17) (σ 0 14) (σ 0 13) (σ 0 4)).2.2.2.1 (mtR (mu σ) (σ 0 3) small n a (σ 0 17) (σ 0 14) (σ 0 13) (σ 0 4)).2.2.2.2)
  | 0, a, σ => by simp only [S_X12_next_181, mtR, zu4_self]
  | n + 1, a, σ => by
    have hrec : ∀ a w m s p, S_X12_next_181 small n a (zu4 σ w m s p) = ((mtR (mu σ) (σ 0 3) small n a w m s p).1, zu4 σ (mtR (mu σ) (σ 0 3) small n a w m s p).2.1 (mtR (mu σ) (σ 0 3) small n a w m s p).2.2.1 (mtR (mu σ) (σ 0 3) small n a w m s p).2.2.2.1 (mtR (mu σ) (σ 0 3) small n a w m s p).2.2.2.2) := by
      intro a w m s p
      have e1 : zu4 σ w m s p 0 17 = w := by rw [zu4_i]; simp
      have e2 : zu4 σ w m s p 0 14 = m := by rw [zu4_i]; simp
      have e3 : zu4 σ w m s p 0 13 = s := by rw [zu4_i]; simp
      have e4 : zu4 σ w m s p 0 4 = p := by rw [zu4_i]; simp
      have e5 : zu4 σ w m s p 0 3 = σ 0 3 := by rw [zu4_i]; simp
      rw [S_next181_eq small n a, mu_zu4, e1, e2, e3, e4, e5, zu4_4]
    rw [S_X12_next_181, mtR]
    simp only [zu4_d]
    simp only [zu4_a, zu4_b]
    simp only [zu4_c]
    simp only [hrec]
    generalize pkc (mu σ) (σ 0 3) (σ 0 4) = c
    by_cases k1 : 97 ≤ c ∧ c ≤ 122
    · rw [if_pos k1, if_pos (show lod c from Or.inl k1)]
      by_cases k3 : a = 0
      · rw [if_pos k3, show mtA small a c = 0 from if_pos k3]
        by_cases k5 : 6 ≤ σ 0 13
        · rw [if_pos k5, show mtW (σ 0 13) (σ 0 17) c = _ from if_pos k5]
          by_cases k6 : 3 ≤ σ 0 13
          · rw [if_pos k6, show mtN (σ 0 13) (σ 0 14) c = _ from if_pos k6]
          · rw [if_neg k6, show mtN (σ 0 13) (σ 0 14) c = _ from if_neg k6]
        · rw [if_neg k5, show mtW (σ 0 13) (σ 0 17) c = _ from if_neg k5]
          by_cases k6 : 3 ≤ σ 0 13
          · rw [if_pos k6, show mtN (σ 0 13) (σ 0 14) c = _ from if_pos k6]
          · rw [if_neg k6, show mtN (σ 0 13) (σ 0 14) c = _ from if_neg k6]
      · rw [if_neg k3]
        by_cases k4 : b2 (97 ≤ c ∧ c ≤ 122) = small
        · rw [if_pos k4, show mtA small a c = 1 from (if_neg k3).trans (if_pos k4)]
          by_cases k5 : 6 ≤ σ 0 13
          · rw [if_pos k5, show mtW (σ 0 13) (σ 0 17) c = _ from if_pos k5]
            by_cases k6 : 3 ≤ σ 0 13
            · rw [if_pos k6, show mtN (σ 0 13) (σ 0 14) c = _ from if_pos k6]
            · rw [if_neg k6, show mtN (σ 0 13) (σ 0 14) c = _ from if_neg k6]
          · rw [if_neg k5, show mtW (σ 0 13) (σ 0 17) c = _ from if_neg k5]
            by_cases k6 : 3 ≤ σ 0 13
            · rw [if_pos k6, show mtN (σ 0 13) (σ 0 14) c = _ from if_pos k6]
            · rw [if_neg k6, show mtN (σ 0 13) (σ 0 14) c = _ from if_neg k6]
        · rw [if_neg k4, show mtA small a c = 0 from (if_neg k3).trans (if_neg k4)]
          by_cases k5 : 6 ≤ σ 0 13
          · rw [if_pos k5, show mtW (σ 0 13) (σ 0 17) c = _ from if_pos k5]
            by_cases k6 : 3 ≤ σ 0 13
            · rw [if_pos k6, show mtN (σ 0 13) (σ 0 14) c = _ from if_pos k6]
            · rw [if_neg k6, show mtN (σ 0 13) (σ 0 14) c = _ from if_neg k6]
          · rw [if_neg k5, show mtW (σ 0 13) (σ 0 17) c = _ from if_neg k5]
            by_cases k6 : 3 ≤ σ 0 13
            · rw [if_pos k6, show mtN (σ 0 13) (σ 0 14) c = _ from if_pos k6]
            · rw [if_neg k6, show mtN (σ 0 13) (σ 0 14) c = _ from if_neg k6]
    · rw [if_neg k1]
      by_cases k2 : 48 ≤ c ∧ c ≤ 57
      · rw [if_pos k2, if_pos (show lod c from Or.inr k2)]
        by_cases k3 : a = 0
        · rw [if_pos k3, show mtA small a c = 0 from if_pos k3]
          by_cases k5 : 6 ≤ σ 0 13
          · rw [if_pos k5, show mtW (σ 0 13) (σ 0 17) c = _ from if_pos k5]
            by_cases k6 : 3 ≤ σ 0 13
            · rw [if_pos k6, show mtN (σ 0 13) (σ 0 14) c = _ from if_pos k6]
            · rw [if_neg k6, show mtN (σ 0 13) (σ 0 14) c = _ from if_neg k6]
          · rw [if_neg k5, show mtW (σ 0 13) (σ 0 17) c = _ from if_neg k5]
            by_cases k6 : 3 ≤ σ 0 13
            · rw [if_pos k6, show mtN (σ 0 13) (σ 0 14) c = _ from if_pos k6]
            · rw [if_neg k6, show mtN (σ 0 13) (σ 0 14) c = _ from if_neg k6]
        · rw [if_neg k3]
          by_cases k4 : b2 (97 ≤ c ∧ c ≤ 122) = small
          · rw [if_pos k4, show mtA small a c = 1 from (if_neg k3).trans (if_pos k4)]
            by_cases k5 : 6 ≤ σ 0 13
            · rw [if_pos k5, show mtW (σ 0 13) (σ 0 17) c = _ from if_pos k5]
              by_cases k6 : 3 ≤ σ 0 13
              · rw [if_pos k6, show mtN (σ 0 13) (σ 0 14) c = _ from if_pos k6]
              · rw [if_neg k6, show mtN (σ 0 13) (σ 0 14) c = _ from if_neg k6]
            · rw [if_neg k5, show mtW (σ 0 13) (σ 0 17) c = _ from if_neg k5]
              by_cases k6 : 3 ≤ σ 0 13
              · rw [if_pos k6, show mtN (σ 0 13) (σ 0 14) c = _ from if_pos k6]
              · rw [if_neg k6, show mtN (σ 0 13) (σ 0 14) c = _ from if_neg k6]
          · rw [if_neg k4, show mtA small a c = 0 from (if_neg k3).trans (if_neg k4)]
            by_cases k5 : 6 ≤ σ 0 13
            · rw [if_pos k5, show mtW (σ 0 13) (σ 0 17) c = _ from if_pos k5]
              by_cases k6 : 3 ≤ σ 0 13
              · rw [if_pos k6, show mtN (σ 0 13) (σ 0 14) c = _ from if_pos k6]
              · rw [if_neg k6, show mtN (σ 0 13) (σ 0 14) c = _ from if_neg k6]
            · rw [if_neg k5, show mtW (σ 0 13) (σ 0 17) c = _ from if_neg k5]
              by_cases k6 : 3 ≤ σ 0 13
              · rw [if_pos k6, show mtN (σ 0 13) (σ 0 14) c = _ from if_pos k6]
              · rw [if_neg k6, show mtN (σ 0 13) (σ 0 14) c = _ from if_neg k6]
      · rw [if_neg k2, if_neg (show ¬ lod c from fun q => q.elim k1 k2), zu4_self]
theorem mtR_mono (u : Int → Int) (sz small : Int) : ∀ (n : Nat) (a w m s p : Int), p ≤ (mtR u sz small n a w m s p).2.2.2.2 ∧ s ≤ (mtR u sz small n a w m s p).2.2.2.1 ∧ (mtR u sz small n a w m s p).2.2.2.1 + p = s + (mtR u sz small n a w m s p).2.2.2.2 ∧ (mtR u sz small n a w m s p).2.2.2.2 ≤ max p sz
  | 0, a, w, m, s, p => ⟨Int.le_refl _, Int.le_refl _, rfl, Int.le_max_left _ _⟩
  | n + 1, a, w, m, s, p => by
    rw [mtR]
    split
    · next h =>
      have h1 := mtR_mono u sz small n (mtA small a (pkc u sz p)) (mtW s w (pkc u sz p)) (mtN s m (pkc u sz p)) (s + 1) (p + 1)
      have h2 := pkc_lt (u := u) (sz := sz) (p := p) (by unfold lod at h; omega)
      omega
    · exact ⟨Int.le_refl _, Int.le_refl _, rfl, Int.le_max_left _ _⟩

def F_X12_next (σ : zG)  : zG := if (σ 0 3) ≤ (σ 0 5) then (if 0 ≤ (pkc (mu σ) (σ 0 3) (skm (mu σ) (σ 0 3) 1000 (σ 0 4))) then (if 97 ≤ (pkc (mu σ) (σ 0 3) (skm (mu σ) (σ 0 3) 1000 (σ 0 4))) ∧ (pkc (mu σ) (σ 0 3) (skm (mu σ) (σ 0 3) 1000 (σ 0 4))) ≤ 122 then (if ((mtR (mu σ) (σ 0 3) (b2 (97 ≤ (pkc (mu σ) (σ 0 3) (skm (mu σ) (σ 0 3) 1000 (σ 0 4))) ∧ (pkc (mu σ) (σ 0 3) (skm (mu σ) (σ 0 3) 1000 (σ 0 4))) ≤ 122)) 1000 1 0 0 0 (skm (mu σ) (σ 0 3) 1000 (σ 0 4))).1) = 0 then (zu (zu (zu (zu (zu (zu (zu (zu (zu (zu σ 0 4 (skm (mu σ) (σ 0 3) 1000 (σ 0 4))) 0 12 (skm (mu σ) (σ 0 3) 1000 (σ 0 4))) 0 13 0) 0 17 0) 0 14 0) 0 17 ((mtR (mu σ) (σ 0 3) (b2 (97 ≤ (pkc (mu σ) (σ 0 3) (skm (mu σ) (σ 0 3) 1000 (σ 0 4))) ∧ (pkc (mu σ) (σ 0 3) (skm (mu σ) (σ 0 3) 1000 (σ 0 4))) ≤ 122)) 1000 1 0 0 0 (skm (mu σ) (σ 0 3) 1000 (σ 0 4))).2.1)) 0 14 ((mtR (mu σ) (σ 0 3) (b2 (97 ≤ (pkc (mu σ) (σ 0 3) (skm (mu σ) (σ 0 3) 1000 (σ 0 4))) ∧ (pkc (mu σ) (σ 0 3) (skm (mu σ) (σ 0 3) 1000 (σ 0 4))) ≤ 122)) 1000 1 0 0 0 (skm (mu σ) (σ 0 3) 1000 (σ 0 4))).2.2.1)) 0 13 ((mtR (mu σ) (σ 0 3) (b2 (97 ≤ (pkc (mu σ) (σ 0 3) (skm (mu σ) (σ 0 3) 1000 (σ 0 4))) ∧ (pkc (mu σ) (σ 0 3) (skm (mu σ) (σ 0 3) 1000 (σ 0 4))) ≤ 122)) 1000 1 0 0 0 (skm (mu σ) (σ 0 3) 1000 (σ 0 4))).2.2.2.1)) 0 4 ((mtR (mu σ) (σ 0 3) (b2 (97 ≤ (pkc (mu σ) (σ 0 3) (skm (mu σ) (σ 0 3) 1000 (σ 0 4))) ∧ (pkc (mu σ) (σ 0 3) (skm (mu σ) (σ 0 3) 1000 (σ 0 4))) ≤ 122)) 1000 1 0 0 0 (skm (mu σ) (σ 0 3) 1000 (σ 0 4))).2.2.2.2)) 0 11 4) else (if ((mtR (mu σ) (σ 0 3) (b2 (97 ≤ (pkc (mu σ) (σ 0 3) (skm (mu σ) (σ 0 3) 1000 (σ 0 4))) ∧ (pkc (mu σ) (σ 0 3) (skm (mu σ) (σ 0 3) 1000 (σ 0 4))) ≤ 122)) 1000 1 0 0 0 (skm (mu σ) (σ 0 3) 1000 (σ 0 4))).2.2.2.1) ≤ 6 then (zu (zu (zu (zu (zu (zu (zu (zu (zu (zu σ 0 4 (skm (mu σ) (σ 0 3) 1000 (σ 0 4))) 0 12 (skm (mu σ) (σ 0 3) 1000 (σ 0 4))) 0 13 0) 0 17 0) 0 14 0) 0 17 ((mtR (mu σ) (σ 0 3) (b2 (97 ≤ (pkc (mu σ) (σ 0 3) (skm (mu σ) (σ 0 3) 1000 (σ 0 4))) ∧ (pkc (mu σ) (σ 0 3) (skm (mu σ) (σ 0 3) 1000 (σ 0 4))) ≤ 122)) 1000 1 0 0 0 (skm (mu σ) (σ 0 3) 1000 (σ 0 4))).2.1)) 0 14 ((mtR (mu σ) (σ 0 3) (b2 (97 ≤ (pkc (mu σ) (σ 0 3) (skm (mu σ) (σ 0 3) 1000 (σ 0 4))) ∧ (pkc (mu σ) (σ 0 3) (skm (mu σ) (σ 0 3) 1000 (σ 0 4))) ≤ 122)) 1000 1 0 0 0 (skm (mu σ) (σ 0 3) 1000 (σ 0 4))).2.2.1)) 0 13 ((mtR (mu σ) (σ 0 3) (b2 (97 ≤ (pkc (mu σ) (σ 0 3) (skm (mu σ) (σ 0 3) 1000 (σ 0 4))) ∧ (pkc (mu σ) (σ 0 3) (skm (mu σ) (σ 0 3) 1000 (σ 0 4))) ≤ 122)) 1000 1 0 0 0 (skm (mu σ) (σ 0 3) 1000 (σ 0 4))).2.2.2.1)) 0 4 ((mtR (mu σ) (σ 0 3) (b2 (97 ≤ (pkc (mu σ) (σ 0 3) (skm (mu σ) (σ 0 3) 1000 (σ 0 4))) ∧ (pkc (mu σ) (σ 0 3) (skm (mu σ) (σ 0 3) 1000 (σ 0 4))) ≤ 122)) 1000 1 0 0 0 (skm (mu σ) (σ 0 3) 1000 (σ 0 4))).2.2.2.2)) 0 11 1) else (zu (zu (zu (zu (zu (zu (zu (zu (zu (zu σ 0 4 (skm (mu σ) (σ 0 3) 1000 (σ 0 4))) 0 12 (skm (mu σ) (σ 0 3) 1000 (σ 0 4))) 0 13 0) 0 17 0) 0 14 0) 0 17 ((mtR (mu σ) (σ 0 3) (b2 (97 ≤ (pkc (mu σ) (σ 0 3) (skm (mu σ) (σ 0 3) 1000 (σ 0 4))) ∧ (pkc (mu σ) (σ 0 3) (skm (mu σ) (σ 0 3) 1000 (σ 0 4))) ≤ 122)) 1000 1 0 0 0 (skm (mu σ) (σ 0 3) 1000 (σ 0 4))).2.1)) 0 14 ((mtR (mu σ) (σ 0 3) (b2 (97 ≤ (pkc (mu σ) (σ 0 3) (skm (mu σ) (σ 0 3) 1000 (σ 0 4))) ∧ (pkc (mu σ) (σ 0 3) (skm (mu σ) (σ 0 3) 1000 (σ 0 4))) ≤ 122)) 1000 1 0 0 0 (skm (mu σ) (σ 0 3) 1000 (σ 0 4))).2.2.1)) 0 13 ((mtR (mu σ) (σ 0 3) (b2 (97 ≤ (pkc (mu σ) (σ 0 3) (skm (mu σ) (σ 0 3) 1000 (σ 0 4))) ∧ (pkc (mu σ) (σ 0 3) (skm (mu σ) (σ 0 3) 1000 (σ 0 4))) ≤ 122)) 1000 1 0 0 0 (skm (mu σ) (σ 0 3) 1000 (σ 0 4))).2.2.2.1)) 0 4 ((mtR (mu σ) (σ 0 3) (b2 (97 ≤ (pkc (mu σ) (σ 0 3) (skm (mu σ) (σ 0 3) 1000 (σ 0 4))) ∧ (pkc (mu σ) (σ 0 3) (skm (mu σ) (σ 0 3) 1000 (σ 0 4))) ≤ 122)) 1000 1 0 0 0 (skm (mu σ) (σ 0 3) 1000 (σ 0 4))).2.2.2.2)) 0 11 4))) else (if 48 ≤ (pkc (mu σ) (σ 0 3) (skm (mu σ) (σ 0 3) 1000 (σ 0 4))) ∧ (pkc (mu σ) (σ 0 3) (skm (mu σ) (σ 0 3) 1000 (σ 0 4))) ≤ 57 then (if ((mtR (mu σ) (σ 0 3) (b2 (97 ≤ (pkc (mu σ) (σ 0 3) (skm (mu σ) (σ 0 3) 1000 (σ 0 4))) ∧ (pkc (mu σ) (σ 0 3) (skm (mu σ) (σ 0 3) 1000 (σ 0 4))) ≤ 122)) 1000 1 0 0 0 (skm (mu σ) (σ 0 3) 1000 (σ 0 4))).1) = 0 then (zu (zu (zu (zu (zu (zu (zu (zu (zu (zu σ 0 4 (skm (mu σ) (σ 0 3) 1000 (σ 0 4))) 0 12 (skm (mu σ) (σ 0 3) 1000 (σ 0 4))) 0 13 0) 0 17 0) 0 14 0) 0 17 ((mtR (mu σ) (σ 0 3) (b2 (97 ≤ (pkc (mu σ) (σ 0 3) (skm (mu σ) (σ 0 3) 1000 (σ 0 4))) ∧ (pkc (mu σ) (σ 0 3) (skm (mu σ) (σ 0 3) 1000 (σ 0 4))) ≤ 122)) 1000 1 0 0 0 (skm (mu σ) (σ 0 3) 1000 (σ 0 4))).2.1)) 0 14 ((mtR (mu σ) (σ 0 3) (b2 (97 ≤ (pkc (mu σ) (σ 0 3) (skm (mu σ) (σ 0 3) 1000 (σ 0 4))) ∧ (pkc (mu σ) (σ 0 3) (skm (mu σ) (σ 0 3) 1000 (σ 0 4))) ≤ 122)) 1000 1 0 0 0 (skm (mu σ) (σ 0 3) 1000 (σ 0 4))).2.2.1)) 0 13 ((mtR (mu σ) (σ 0 3) (b2 (97 ≤ (pkc (mu σ) (σ 0 3) (skm (mu σ) (σ 0 3) 1000 (σ 0 4))) ∧ (pkc (mu σ) (σ 0 3) (skm (mu σ) (σ 0 3) 1000 (σ 0 4))) ≤ 122)) 1000 1 0 0 0 (skm (mu σ) (σ 0 3) 1000 (σ 0 4))).2.2.2.1)) 0 4 ((mtR (mu σ) (σ 0 3) (b2 (97 ≤ (pkc (mu σ) (σ 0 3) (skm (mu σ) (σ 0 3) 1000 (σ 0 4))) ∧ (pkc (mu σ) (σ 0 3) (skm (mu σ) (σ 0 3) 1000 (σ 0 4))) ≤ 122)) 1000 1 0 0 0 (skm (mu σ) (σ 0 3) 1000 (σ 0 4))).2.2.2.2)) 0 11 4) else (if ((mtR (mu σ) (σ 0 3) (b2 (97 ≤ (pkc (mu σ) (σ 0 3) (skm (mu σ) (σ 0 3) 1000 (σ 0 4))) ∧ (pkc (mu σ) (σ 0 3) (skm (mu σ) (σ 0 3) 1000 (σ 0 4))) ≤ 122)) 1000 1 0 0 0 (skm (mu σ) (σ 0 3) 1000 (σ 0 4))).2.2.2.1) ≤ 3 then (zu (zu (zu (zu (zu (zu (zu (zu (zu (zu σ 0 4 (skm (mu σ) (σ 0 3) 1000 (σ 0 4))) 0 12 (skm (mu σ) (σ 0 3) 1000 (σ 0 4))) 0 13 0) 0 17 0) 0 14 0) 0 17 ((mtR (mu σ) (σ 0 3) (b2 (97 ≤ (pkc (mu σ) (σ 0 3) (skm (mu σ) (σ 0 3) 1000 (σ 0 4))) ∧ (pkc (mu σ) (σ 0 3) (skm (mu σ) (σ 0 3) 1000 (σ 0 4))) ≤ 122)) 1000 1 0 0 0 (skm (mu σ) (σ 0 3) 1000 (σ 0 4))).2.1)) 0 14 ((mtR (mu σ) (σ 0 3) (b2 (97 ≤ (pkc (mu σ) (σ 0 3) (skm (mu σ) (σ 0 3) 1000 (σ 0 4))) ∧ (pkc (mu σ) (σ 0 3) (skm (mu σ) (σ 0 3) 1000 (σ 0 4))) ≤ 122)) 1000 1 0 0 0 (skm (mu σ) (σ 0 3) 1000 (σ 0 4))).2.2.1)) 0 13 ((mtR (mu σ) (σ 0 3) (b2 (97 ≤ (pkc (mu σ) (σ 0 3) (skm (mu σ) (σ 0 3) 1000 (σ 0 4))) ∧ (pkc (mu σ) (σ 0 3) (skm (mu σ) (σ 0 3) 1000 (σ 0 4))) ≤ 122)) 1000 1 0 0 0 (skm (mu σ) (σ 0 3) 1000 (σ 0 4))).2.2.2.1)) 0 4 ((mtR (mu σ) (σ 0 3) (b2 (97 ≤ (pkc (mu σ) (σ 0 3) (skm (mu σ) (σ 0 3) 1000 (σ 0 4))) ∧ (pkc (mu σ) (σ 0 3) (skm (mu σ) (σ 0 3) 1000 (σ 0 4))) ≤ 122)) 1000 1 0 0 0 (skm (mu σ) (σ 0 3) 1000 (σ 0 4))).2.2.2.2)) 0 11 2) else (zu (zu (zu (zu (zu (zu (zu (zu (zu (zu σ 0 4 (skm (mu σ) (σ 0 3) 1000 (σ 0 4))) 0 12 (skm (mu σ) (σ 0 3) 1000 (σ 0 4))) 0 13 0) 0 17 0) 0 14 0) 0 17 ((mtR (mu σ) (σ 0 3) (b2 (97 ≤ (pkc (mu σ) (σ 0 3) (skm (mu σ) (σ 0 3) 1000 (σ 0 4))) ∧ (pkc (mu σ) (σ 0 3) (skm (mu σ) (σ 0 3) 1000 (σ 0 4))) ≤ 122)) 1000 1 0 0 0 (skm (mu σ) (σ 0 3) 1000 (σ 0 4))).2.1)) 0 14 ((mtR (mu σ) (σ 0 3) (b2 (97 ≤ (pkc (mu σ) (σ 0 3) (skm (mu σ) (σ 0 3) 1000 (σ 0 4))) ∧ (pkc (mu σ) (σ 0 3) (skm (mu σ) (σ 0 3) 1000 (σ 0 4))) ≤ 122)) 1000 1 0 0 0 (skm (mu σ) (σ 0 3) 1000 (σ 0 4))).2.2.1)) 0 13 ((mtR (mu σ) (σ 0 3) (b2 (97 ≤ (pkc (mu σ) (σ 0 3) (skm (mu σ) (σ 0 3) 1000 (σ 0 4))) ∧ (pkc (mu σ) (σ 0 3) (skm (mu σ) (σ 0 3) 1000 (σ 0 4))) ≤ 122)) 1000 1 0 0 0 (skm (mu σ) (σ 0 3) 1000 (σ 0 4))).2.2.2.1)) 0 4 ((mtR (mu σ) (σ 0 3) (b2 (97 ≤ (pkc (mu σ) (σ 0 3) (skm (mu σ) (σ 0 3) 1000 (σ 0 4))) ∧ (pkc (mu σ) (σ 0 3) (skm (mu σ) (σ 0 3) 1000 (σ 0 4))) ≤ 122)) 1000 1 0 0 0 (skm (mu σ) (σ 0 3) 1000 (σ 0 4))).2.2.2.2)) 0 11 4))) else (if (pkc (mu σ) (σ 0 3) (skm (mu σ) (σ 0 3) 1000 (σ 0 4))) = 59 then (zu (zu (zu (zu (zu (zu σ 0 4 (skm (mu σ) (σ 0 3) 1000 (σ 0 4))) 0 12 (skm (mu σ) (σ 0 3) 1000 (σ 0 4))) 0 13 0) 0 11 3) 0 14 (pkc (mu σ) (σ 0 3) (skm (mu σ) (σ 0 3) 1000 (σ 0 4)))) 0 4 ((skm (mu σ) (σ 0 3) 1000 (σ 0 4)) + 1)) else (if (pkc (mu σ) (σ 0 3) (skm (mu σ) (σ 0 3) 1000 (σ 0 4))) = 40 then (zu (zu (zu (zu (zu (zu σ 0 4 (skm (mu σ) (σ 0 3) 1000 (σ 0 4))) 0 12 (skm (mu σ) (σ 0 3) 1000 (σ 0 4))) 0 13 0) 0 11 3) 0 14 (pkc (mu σ) (σ 0 3) (skm (mu σ) (σ 0 3) 1000 (σ 0 4)))) 0 4 ((skm (mu σ) (σ 0 3) 1000 (σ 0 4)) + 1)) else (if (pkc (mu σ) (σ 0 3) (skm (mu σ) (σ 0 3) 1000 (σ 0 4))) = 41 then (zu (zu (zu (zu (zu (zu σ 0 4 (skm (mu σ) (σ 0 3) 1000 (σ 0 4))) 0 12 (skm (mu σ) (σ 0 3) 1000 (σ 0 4))) 0 13 0) 0 11 3) 0 14 (pkc (mu σ) (σ 0 3) (skm (mu σ) (σ 0 3) 1000 (σ 0 4)))) 0 4 ((skm (mu σ) (σ 0 3) 1000 (σ 0 4)) + 1)) else (if (pkc (mu σ) (σ 0 3) (skm (mu σ) (σ 0 3) 1000 (σ 0 4))) < 60 then (zu (zu (zu (zu (zu (zu σ 0 4 (skm (mu σ) (σ 0 3) 1000 (σ 0 4))) 0 12 (skm (mu σ) (σ 0 3) 1000 (σ 0 4))) 0 13 0) 0 11 4) 0 14 (pkc (mu σ) (σ 0 3) (skm (mu σ) (σ 0 3) 1000 (σ 0 4)))) 0 4 ((skm (mu σ) (σ 0 3) 1000 (σ 0 4)) + 1)) else (if 62 < (pkc (mu σ) (σ 0 3) (skm (mu σ) (σ 0 3) 1000 (σ 0 4))) then (zu (zu (zu (zu (zu (zu σ 0 4 (skm (mu σ) (σ 0 3) 1000 (σ 0 4))) 0 12 (skm (mu σ) (σ 0 3) 1000 (σ 0 4))) 0 13 0) 0 11 4) 0 14 (pkc (mu σ) (σ 0 3) (skm (mu σ) (σ 0 3) 1000 (σ 0 4)))) 0 4 ((skm (mu σ) (σ 0 3) 1000 (σ 0 4)) + 1)) else (zu (zu (zu (zu (zu (zu σ 0 4 (skm (mu σ) (σ 0 3) 1000 (σ 0 4))) 0 12 (skm (mu σ) (σ 0 3) 1000 (σ 0 4))) 0 13 0) 0 11 3) 0 14 (pkc (mu σ) (σ 0 3) (skm (mu σ) (σ 0 3) 1000 (σ 0 4)))) 0 4 ((skm (mu σ) (σ 0 3) 1000 (σ 0 4)) + 1))))))))) else (zu (zu (zu (zu σ 0 4 (skm (mu σ) (σ 0 3) 1000 (σ 0 4))) 0 12 (skm (mu σ) (σ 0 3) 1000 (σ 0 4))) 0 13 0) 0 11 0)) else (if (skm (mu σ) (σ 0 3) 1000 (σ 0 4)) < (σ 0 5) then (if 0 ≤ (pkc (mu σ) (σ 0 3) (skm (mu σ) (σ 0 3) 1000 (σ 0 4))) then (if 97 ≤ (pkc (mu σ) (σ 0 3) (skm (mu σ) (σ 0 3) 1000 (σ 0 4))) ∧ (pkc (mu σ) (σ 0 3) (skm (mu σ) (σ 0 3) 1000 (σ 0 4))) ≤ 122 then (if ((mtR (mu σ) (σ 0 3) (b2 (97 ≤ (pkc (mu σ) (σ 0 3) (skm (mu σ) (σ 0 3) 1000 (σ 0 4))) ∧ (pkc (mu σ) (σ 0 3) (skm (mu σ) (σ 0 3) 1000 (σ 0 4))) ≤ 122)) 1000 1 0 0 0 (skm (mu σ) (σ 0 3) 1000 (σ 0 4))).1) = 0 then (zu (zu (zu (zu (zu (zu (zu (zu (zu (zu σ 0 4 (skm (mu σ) (σ 0 3) 1000 (σ 0 4))) 0 12 (skm (mu σ) (σ 0 3) 1000 (σ 0 4))) 0 13 0) 0 17 0) 0 14 0) 0 17 ((mtR (mu σ) (σ 0 3) (b2 (97 ≤ (pkc (mu σ) (σ 0 3) (skm (mu σ) (σ 0 3) 1000 (σ 0 4))) ∧ (pkc (mu σ) (σ 0 3) (skm (mu σ) (σ 0 3) 1000 (σ 0 4))) ≤ 122)) 1000 1 0 0 0 (skm (mu σ) (σ 0 3) 1000 (σ 0 4))).2.1)) 0 14 ((mtR (mu σ) (σ 0 3) (b2 (97 ≤ (pkc (mu σ) (σ 0 3) (skm (mu σ) (σ 0 3) 1000 (σ 0 4))) ∧ (pkc (mu σ) (σ 0 3) (skm (mu σ) (σ 0 3) 1000 (σ 0 4))) ≤ 122)) 1000 1 0 0 0 (skm (mu σ) (σ 0 3) 1000 (σ 0 4))).2.2.1)) 0 13 ((mtR (mu σ) (σ 0 3) (b2 (97 ≤ (pkc (mu σ) (σ 0 3) (skm (mu σ) (σ 0 3) 1000 (σ 0 4))) ∧ (pkc (mu σ) (σ 0 3) (skm (mu σ) (σ 0 3) 1000 (σ 0 4))) ≤ 122)) 1000 1 0 0 0 (skm (mu σ) (σ 0 3) 1000 (σ 0 4))).2.2.2.1)) 0 4 ((mtR (mu σ) (σ 0 3) (b2 (97 ≤ (pkc (mu σ) (σ 0 3) (skm (mu σ) (σ 0 3) 1000 (σ 0 4))) ∧ (pkc (mu σ) (σ 0 3) (skm (mu σ) (σ 0 3) 1000 (σ 0 4))) ≤ 122)) 1000 1 0 0 0 (skm (mu σ) (σ 0 3) 1000 (σ 0 4))).2.2.2.2)) 0 11 4) else (if ((mtR (mu σ) (σ 0 3) (b2 (97 ≤ (pkc (mu σ) (σ 0 3) (skm (mu σ) (σ 0 3) 1000 (σ 0 4))) ∧ (pkc (mu σ) (σ 0 3) (skm (mu σ) (σ 0 3) 1000 (σ 0 4))) ≤ 122)) 1000 1 0 0 0 (skm (mu σ) (σ 0 3) 1000 (σ 0 4))).2.2.2.1) ≤ 6 then (zu (zu (zu (zu (zu (zu (zu (zu (zu (zu σ 0 4 (skm (mu σ) (σ 0 3) 1000 (σ 0 4))) 0 12 (skm (mu σ) (σ 0 3) 1000 (σ 0 4))) 0 13 0) 0 17 0) 0 14 0) 0 17 ((mtR (mu σ) (σ 0 3) (b2 (97 ≤ (pkc (mu σ) (σ 0 3) (skm (mu σ) (σ 0 3) 1000 (σ 0 4))) ∧ (pkc (mu σ) (σ 0 3) (skm (mu σ) (σ 0 3) 1000 (σ 0 4))) ≤ 122)) 1000 1 0 0 0 (skm (mu σ) (σ 0 3) 1000 (σ 0 4))).2.1)) 0 14 ((mtR (mu σ) (σ 0 3) (b2 (97 ≤ (pkc (mu σ) (σ 0 3) (skm (mu σ) (σ 0 3) 1000 (σ 0 4))) ∧ (pkc (mu σ) (σ 0 3) (skm (mu σ) (σ 0 3) 1000 (σ 0 4))) ≤ 122)) 1000 1 0 0 0 (skm (mu σ) (σ 0 3) 1000 (σ 0 4))).2.2.1)) 0 13 ((mtR (mu σ) (σ 0 3) (b2 (97 ≤ (pkc (mu σ) (σ 0 3) (skm (mu σ) (σ 0 3) 1000 (σ 0 4))) ∧ (pkc (mu σ) (σ 0 3) (skm (mu σ) (σ 0 3) 1000 (σ 0 4))) ≤ 122)) 1000 1 0 0 0 (skm (mu σ) (σ 0 3) 1000 (σ 0 4))).2.2.2.1)) 0 4 ((mtR (mu σ) (σ 0 3) (b2 (97 ≤ (pkc (mu σ) (σ 0 3) (skm (mu σ) (σ 0 3) 1000 (σ 0 4))) ∧ (pkc (mu σ) (σ 0 3) (skm (mu σ) (σ 0 3) 1000 (σ 0 4))) ≤ 122)) 1000 1 0 0 0 (skm (mu σ) (σ 0 3) 1000 (σ 0 4))).2.2.2.2)) 0 11 1) else (zu (zu (zu (zu (zu (zu (zu (zu (zu (zu σ 0 4 (skm (mu σ) (σ 0 3) 1000 (σ 0 4))) 0 12 (skm (mu σ) (σ 0 3) 1000 (σ 0 4))) 0 13 0) 0 17 0) 0 14 0) 0 17 ((mtR (mu σ) (σ 0 3) (b2 (97 ≤ (pkc (mu σ) (σ 0 3) (skm (mu σ) (σ 0 3) 1000 (σ 0 4))) ∧ (pkc (mu σ) (σ 0 3) (skm (mu σ) (σ 0 3) 1000 (σ 0 4))) ≤ 122)) 1000 1 0 0 0 (skm (mu σ) (σ 0 3) 1000 (σ 0 4))).2.1)) 0 14 ((mtR (mu σ) (σ 0 3) (b2 (97 ≤ (pkc (mu σ) (σ 0 3) (skm (mu σ) (σ 0 3) 1000 (σ 0 4))) ∧ (pkc (mu σ) (σ 0 3) (skm (mu σ) (σ 0 3) 1000 (σ 0 4))) ≤ 122)) 1000 1 0 0 0 (skm (mu σ) (σ 0 3) 1000 (σ 0 4))).2.2.1)) 0 13 ((mtR (mu σ) (σ 0 3) (b2 (97 ≤ (pkc (mu σ) (σ 0 3) (skm (mu σ) (σ 0 3) 1000 (σ 0 4))) ∧ (pkc (mu σ) (σ 0 3) (skm (mu σ) (σ 0 3) 1000 (σ 0 4))) ≤ 122)) 1000 1 0 0 0 (skm (mu σ) (σ 0 3) 1000 (σ 0 4))).2.2.2.1)) 0 4 ((mtR (mu σ) (σ 0 3) (b2 (97 ≤ (pkc (mu σ) (σ 0 3) (skm (mu σ) (σ 0 3) 1000 (σ 0 4))) ∧ (pkc (mu σ) (σ 0 3) (skm (mu σ) (σ 0 3) 1000 (σ 0 4))) ≤ 122)) 1000 1 0 0 0 (skm (mu σ) (σ 0 3) 1000 (σ 0 4))).2.2.2.2)) 0 11 4))) else (if 48 ≤ (pkc (mu σ) (σ 0 3) (skm (mu σ) (σ 0 3) 1000 (σ 0 4))) ∧ (pkc (mu σ) (σ 0 3) (skm (mu σ) (σ 0 3) 1000 (σ 0 4))) ≤ 57 then (if ((mtR (mu σ) (σ 0 3) (b2 (97 ≤ (pkc (mu σ) (σ 0 3) (skm (mu σ) (σ 0 3) 1000 (σ 0 4))) ∧ (pkc (mu σ) (σ 0 3) (skm (mu σ) (σ 0 3) 1000 (σ 0 4))) ≤ 122)) 1000 1 0 0 0 (skm (mu σ) (σ 0 3) 1000 (σ 0 4))).1) = 0 then (zu (zu (zu (zu (zu (zu (zu (zu (zu (zu σ 0 4 (skm (mu σ) (σ 0 3) 1000 (σ 0 4))) 0 12 (skm (mu σ) (σ 0 3) 1000 (σ 0 4))) 0 13 0) 0 17 0) 0 14 0) 0 17 ((mtR (mu σ) (σ 0 3) (b2 (97 ≤ (pkc (mu σ) (σ 0 3) (skm (mu σ) (σ 0 3) 1000 (σ 0 4))) ∧ (pkc (mu σ) (σ 0 3) (skm (mu σ) (σ 0 3) 1000 (σ 0 4))) ≤ 122)) 1000 1 0 0 0 (skm (mu σ) (σ 0 3) 1000 (σ 0 4))).2.1)) 0 14 ((mtR (mu σ) (σ 0 3) (b2 (97 ≤ (pkc (mu σ) (σ 0 3) (skm (mu σ) (σ 0 3) 1000 (σ 0 4))) ∧ (pkc (mu σ) (σ 0 3) (skm (mu σ) (σ 0 3) 1000 (σ 0 4))) ≤ 122)) 1000 1 0 0 0 (skm (mu σ) (σ 0 3) 1000 (σ 0 4))).2.2.1)) 0 13 ((mtR (mu σ) (σ 0 3) (b2 (97 ≤ (pkc (mu σ) (σ 0 3) (skm (mu σ) (σ 0 3) 1000 (σ 0 4))) ∧ (pkc (mu σ) (σ 0 3) (skm (mu σ) (σ 0 3) 1000 (σ 0 4))) ≤ 122)) 1000 1 0 0 0 (skm (mu σ) (σ 0 3) 1000 (σ 0 4))).2.2.2.1)) 0 4 ((mtR (mu σ) (σ 0 3) (b2 (97 ≤ (pkc (mu σ) (σ 0 3) (skm (mu σ) (σ 0 3) 1000 (σ 0 4))) ∧ (pkc (mu σ) (σ 0 3) (skm (mu σ) (σ 0 3) 1000 (σ 0 4))) ≤ 122)) 1000 1 0 0 0 (skm (mu σ) (σ 0 3) 1000 (σ 0 4))).2.2.2.2)) 0 11 4) else (if ((mtR (mu σ) (σ 0 3) (b2 (97 ≤ (pkc (mu σ) (σ 0 3) (skm (mu σ) (σ 0 3) 1000 (σ 0 4))) ∧ (pkc (mu σ) (σ 0 3) (skm (mu σ) (σ 0 3) 1000 (σ 0 4))) ≤ 122)) 1000 1 0 0 0 (skm (mu σ) (σ 0 3) 1000 (σ 0 4))).2.2.2.1) ≤ 3 then (zu (zu (zu (zu (zu (zu (zu (zu (zu (zu σ 0 4 (skm (mu σ) (σ 0 3) 1000 (σ 0 4))) 0 12 (skm (mu σ) (σ 0 3) 1000 (σ 0 4))) 0 13 0) 0 17 0) 0 14 0) 0 17 ((mtR (mu σ) (σ 0 3) (b2 (97 ≤ (pkc (mu σ) (σ 0 3) (skm (mu σ) (σ 0 3) 1000 (σ 0 4))) ∧ (pkc (mu σ) (σ 0 3) (skm (mu σ) (σ 0 3) 1000 (σ 0 4))) ≤ 122)) 1000 1 0 0 0 (skm (mu σ) (σ 0 3) 1000 (σ 0 4))).2.1)) 0 14 ((mtR (mu σ) (σ 0 3) (b2 (97 ≤ (pkc (mu σ) (σ 0 3) (skm (mu σ) (σ 0 3) 1000 (σ 0 4))) ∧ (pkc (mu σ) (σ 0 3) (skm (mu σ) (σ 0 3) 1000 (σ 0 4))) ≤ 122)) 1000 1 0 0 0 (skm (mu σ) (σ 0 3) 1000 (σ 0 4))).2.2.1)) 0 13 ((mtR (mu σ) (σ 0 3) (b2 (97 ≤ (pkc (mu σ) (σ 0 3) (skm (mu σ) (σ 0 3) 1000 (σ 0 4))) ∧ (pkc (mu σ) (σ 0 3) (skm (mu σ) (σ 0 3) 1000 (σ 0 4))) ≤ 122)) 1000 1 0 0 0 (skm (mu σ) (σ 0 3) 1000 (σ 0 4))).2.2.2.1)) 0 4 ((mtR (mu σ) (σ 0 3) (b2 (97 ≤ (pkc (mu σ) (σ 0 3) (skm (mu σ) (σ 0 3) 1000 (σ 0 4))) ∧ (pkc (mu σ) (σ 0 3) (skm (mu σ) (σ 0 3) 1000 (σ 0 4))) ≤ 122)) 1000 1 0 0 0 (skm (mu σ) (σ 0 3) 1000 (σ 0 4))).2.2.2.2)) 0 11 2) else (zu (zu (zu (zu (zu (zu (zu (zu (zu (zu σ 0 4 (skm (mu σ) (σ 0 3) 1000 (σ 0 4))) 0 12 (skm (mu σ) (σ 0 3) 1000 (σ 0 4))) 0 13 0) 0 17 0) 0 14 0) 0 17 ((mtR (mu σ) (σ 0 3) (b2 (97 ≤ (pkc (mu σ) (σ 0 3) (skm (mu σ) (σ 0 3) 1000 (σ 0 4))) ∧ (pkc (mu σ) (σ 0 3) (skm (mu σ) (σ 0 3) 1000 (σ 0 4))) ≤ 122)) 1000 1 0 0 0 (skm (mu σ) (σ 0 3) 1000 (σ 0 4))).2.1)) 0 14 ((mtR (mu σ) (σ 0 3) (b2 (97 ≤ (pkc (mu σ) (σ 0 3) (skm (mu σ) (σ 0 3) 1000 (σ 0 4))) ∧ (pkc (mu σ) (σ 0 3) (skm (mu σ) (σ 0 3) 1000 (σ 0 4))) ≤ 122)) 1000 1 0 0 0 (skm (mu σ) (σ 0 3) 1000 (σ 0 4))).2.2.1)) 0 13 ((mtR (mu σ) (σ 0 3) (b2 (97 ≤ (pkc (mu σ) (σ 0 3) (skm (mu σ) (σ 0 3) 1000 (σ 0 4))) ∧ (pkc (mu σ) (σ 0 3) (skm (mu σ) (σ 0 3) 1000 (σ 0 4))) ≤ 122)) 1000 1 0 0 0 (skm (mu σ) (σ 0 3) 1000 (σ 0 4))).2.2.2.1)) 0 4 ((mtR (mu σ) (σ 0 3) (b2 (97 ≤ (pkc (mu σ) (σ 0 3) (skm (mu σ) (σ 0 3) 1000 (σ 0 4))) ∧ (pkc (mu σ) (σ 0 3) (skm (mu σ) (σ 0 3) 1000 (σ 0 4))) ≤ 122)) 1000 1 0 0 0 (skm (mu σ) (σ 0 3) 1000 (σ 0 4))).2.2.2.2)) 0 11 4))) else (if (pkc (mu σ) (σ 0 3) (skm (mu σ) (σ 0 3) 1000 (σ 0 4))) = 59 then (zu (zu (zu (zu (zu (zu σ 0 4 (skm (mu σ) (σ 0 3) 1000 (σ 0 4))) 0 12 (skm (mu σ) (σ 0 3) 1000 (σ 0 4))) 0 13 0) 0 11 3) 0 14 (pkc (mu σ) (σ 0 3) (skm (mu σ) (σ 0 3) 1000 (σ 0 4)))) 0 4 ((skm (mu σ) (σ 0 3) 1000 (σ 0 4)) + 1)) else (if (pkc (mu σ) (σ 0 3) (skm (mu σ) (σ 0 3) 1000 (σ 0 4))) = 40 then (zu (zu (zu (zu (zu (zu σ 0 4 (skm (mu σ) (σ 0 3) 1000 (σ 0 4))) 0 12 (skm (mu σ) (σ 0 3) 1000 (σ 0 4))) 0 13 0) 0 11 3) 0 14 (pkc (mu σ) (σ 0 3) (skm (mu σ) (σ 0 3) 1000 (σ 0 4)))) 0 4 ((skm (mu σ) (σ 0 3) 1000 (σ 0 4)) + 1)) else (if (pkc (mu σ) (σ 0 3) (skm (mu σ) (σ 0 3) 1000 (σ 0 4))) = 41 then (zu (zu (zu (zu (zu (zu σ 0 4 (skm (mu σ) (σ 0 3) 1000 (σ 0 4))) 0 12 (skm (mu σ) (σ 0 3) 1000 (σ 0 4))) 0 13 0) 0 11 3) 0 14 (pkc (mu σ) (σ 0 3) (skm (mu σ) (σ 0 3) 1000 (σ 0 4)))) 0 4 ((skm (mu σ) (σ 0 3) 1000 (σ 0 4)) + 1)) else (if (pkc (mu σ) (σ 0 3) (skm (mu σ) (σ 0 3) 1000 (σ 0 4))) < 60 then (zu (zu (zu (zu (zu (zu σ 0 4 (skm (mu σ) (σ 0 3) 1000 (σ 0 4))) 0 12 (skm (mu σ) (σ 0 3) 1000 (σ 0 4))) 0 13 0) 0 11 4) 0 14 (pkc (mu σ) (σ 0 3) (skm (mu σ) (σ 0 3) 1000 (σ 0 4)))) 0 4 ((skm (mu σ) (σ 0 3) 1000 (σ 0 4)) + 1)) else (if 62 < (pkc (mu σ) (σ 0 3) (skm (mu σ) (σ 0 3) 1000 (σ 0 4))) then (zu (zu (zu (zu (zu (zu σ 0 4 (skm (mu σ) (σ 0 3) 1000 (σ 0 4))) 0 12 (skm (mu σ) (σ 0 3) 1000 (σ 0 4))) 0 13 0) 0 11 4) 0 14 (pkc (mu σ) (σ 0 3) (skm (mu σ) (σ 0 3) 1000 (σ 0 4)))) 0 4 ((skm (mu σ) (σ 0 3) 1000 (σ 0 4)) + 1)) else (zu (zu (zu (zu (zu (zu σ 0 4 (skm (mu σ) (σ 0 3) 1000 (σ 0 4))) 0 12 (skm (mu σ) (σ 0 3) 1000 (σ 0 4))) 0 13 0) 0 11 3) 0 14 (pkc (mu σ) (σ 0 3) (skm (mu σ) (σ 0 3) 1000 (σ 0 4)))) 0 4 ((skm (mu σ) (σ 0 3) 1000 (σ 0 4)) + 1))))))))) else (zu (zu (zu (zu σ 0 4 (skm (mu σ) (σ 0 3) 1000 (σ 0 4))) 0 12 (skm (mu σ) (σ 0 3) 1000 (σ 0 4))) 0 13 0) 0 11 0)) else (zu (zu (zu (zu (zu σ 0 4 (skm (mu σ) (σ 0 3) 1000 (σ 0 4))) 0 12 (skm (mu σ) (σ 0 3) 1000 (σ 0 4))) 0 13 0) 0 12 (σ 0 5)) 0 11 4))
set_option maxRecDepth 20000 in
theorem does_X12_next (σ : zG)  (h0 : 0 ≤ σ 0 4) (h1 : σ 0 3 ≤ 940) (h2 : σ 0 4 ≤ 940) : zDo SM 1 m_X12_next [zP 0] σ (zEq (none) (F_X12_next σ )) := by
  refine zDo.intro mk_X12_next (Nat.le_of_ble_eq_true rfl) ?_
  refine seg_X12_next_0 1000 σ _ h0 h1 (by omega) ?_
  have hS := skm_r (mu σ) (σ 0 3) 1000 (σ 0 4)
  rw [S_next0_eq 1000 σ]
  refine zRx.aload_n 0 rfl rfl dX12_next_31 ?_
  refine zRx.aload_n 0 rfl rfl dX12_next_32 ?_
  refine zRx.getIv (a := 0) (ji := 4) (v := skm (mu σ) (σ 0 3) 1000 (σ 0 4)) (zu_at _ _ _ _) fl_12_21 rfl rfl rfl dX12_next_33 ?_
  refine zRx.putI (a := 0) (ji := 12) pl_12_216 rfl rfl rfl dX12_next_36 ?_
  refine zRx.aload_n 0 rfl rfl dX12_next_39 ?_
  refine zRx.iconst ⟨by decide, by decide⟩ dX12_next_40 ?_
  refine zRx.putI (a := 0) (ji := 13) pl_12_219 rfl rfl rfl dX12_next_41 ?_
  refine zRx.aload_n 0 rfl rfl dX12_next_44 ?_
  refine zRx.getIv (a := 0) (ji := 3) (v := σ 0 3) ((zu_off _ _ _ (by decide)).trans ((zu_off _ _ _ (by decide)).trans (zu_off _ _ _ (by decide)))) fl_12_18 rfl rfl rfl dX12_next_45 ?_
  refine zRx.aload_n 0 rfl rfl dX12_next_48 ?_
  refine zRx.getIv (a := 0) (ji := 5) (v := σ 0 5) ((zu_off _ _ _ (by decide)).trans ((zu_off _ _ _ (by decide)).trans (zu_off _ _ _ (by decide)))) fl_12_24 rfl rfl rfl dX12_next_49 ?_
  refine zRx.icmp_le (tgt := 80) dX12_next_52 (by decide) (fun c52 => ?_) (fun c52 => ?_)
  · refine zRx.aload_n 0 rfl rfl dX12_next_80 ?_
    refine zRx.cVi (w := .inl (pkc (mu σ) (σ 0 3) (skm (mu σ) (σ 0 3) 1000 (σ 0 4)))) (M := m_X12_peek) (av := []) cv_12_212 mk_X12_peek (by decide) (b := 0) rfl rfl (Nat.le_of_ble_eq_true rfl) dX12_next_81 (does_peek2 (zu (zu (zu σ 0 4 (skm (mu σ) (σ 0 3) 1000 (σ 0 4))) 0 12 (skm (mu σ) (σ 0 3) 1000 (σ 0 4))) 0 13 0) (mu σ) (σ 0 3) (skm (mu σ) (σ 0 3) 1000 (σ 0 4)) (by funext i; simp [mu, zu]) ((zu_off _ _ _ (by decide)).trans ((zu_off _ _ _ (by decide)).trans (zu_off _ _ _ (by decide)))) ((zu_off _ _ _ (by decide)).trans ((zu_off _ _ _ (by decide)).trans (zu_at _ _ _ _))) (by omega) (by omega)) ?_
    refine zRx.istore_n (ls' := [(0, zP 0), (1, .inl (pkc (mu σ) (σ 0 3) (skm (mu σ) (σ 0 3) 1000 (σ 0 4))))]) rfl rfl (by decide) dX12_next_84 ?_
    refine zRx.iload_n 1 rfl rfl dX12_next_85 ?_
    refine zRx.if_ge (tgt := 95) dX12_next_86 (by decide) (fun c86 => ?_) (fun c86 => ?_)
    · refine zRx.iload_n 1 rfl rfl dX12_next_95 ?_
      refine zRx.cSi (w := .inl (b2 (97 ≤ (pkc (mu σ) (σ 0 3) (skm (mu σ) (σ 0 3) 1000 (σ 0 4))) ∧ (pkc (mu σ) (σ 0 3) (skm (mu σ) (σ 0 3) 1000 (σ 0 4))) ≤ 122))) (M := m_X12_isSmall) (av := [.inl (pkc (mu σ) (σ 0 3) (skm (mu σ) (σ 0 3) 1000 (σ 0 4)))]) cs_12_225 mk_X12_isSmall (by decide) rfl (Nat.le_of_ble_eq_true rfl) dX12_next_96 (does_X12_isSmall (pkc (mu σ) (σ 0 3) (skm (mu σ) (σ 0 3) 1000 (σ 0 4))) SM (zu (zu (zu σ 0 4 (skm (mu σ) (σ 0 3) 1000 (σ 0 4))) 0 12 (skm (mu σ) (σ 0 3) 1000 (σ 0 4))) 0 13 0)) ?_
      refine zRx.if_neB (tgt := 164) dX12_next_99 (by decide) (fun c99 => ?_) (fun c99 => ?_)
      · refine zRx.iload_n 1 rfl rfl dX12_next_164 ?_
        refine zRx.cSi (w := .inl (b2 (97 ≤ (pkc (mu σ) (σ 0 3) (skm (mu σ) (σ 0 3) 1000 (σ 0 4))) ∧ (pkc (mu σ) (σ 0 3) (skm (mu σ) (σ 0 3) 1000 (σ 0 4))) ≤ 122))) (M := m_X12_isSmall) (av := [.inl (pkc (mu σ) (σ 0 3) (skm (mu σ) (σ 0 3) 1000 (σ 0 4)))]) cs_12_225 mk_X12_isSmall (by decide) rfl (Nat.le_of_ble_eq_true rfl) dX12_next_165 (does_X12_isSmall (pkc (mu σ) (σ 0 3) (skm (mu σ) (σ 0 3) 1000 (σ 0 4))) SM (zu (zu (zu σ 0 4 (skm (mu σ) (σ 0 3) 1000 (σ 0 4))) 0 12 (skm (mu σ) (σ 0 3) 1000 (σ 0 4))) 0 13 0)) ?_
        refine zRx.istore_n (ls' := [(0, zP 0), (1, .inl (pkc (mu σ) (σ 0 3) (skm (mu σ) (σ 0 3) 1000 (σ 0 4)))), (2, .inl (b2 (97 ≤ (pkc (mu σ) (σ 0 3) (skm (mu σ) (σ 0 3) 1000 (σ 0 4))) ∧ (pkc (mu σ) (σ 0 3) (skm (mu σ) (σ 0 3) 1000 (σ 0 4))) ≤ 122)))]) rfl rfl (by decide) dX12_next_168 ?_
        refine zRx.iconst ⟨by decide, by decide⟩ dX12_next_169 ?_
        refine zRx.istore_n (ls' := [(0, zP 0), (1, .inl (pkc (mu σ) (σ 0 3) (skm (mu σ) (σ 0 3) 1000 (σ 0 4)))), (2, .inl (b2 (97 ≤ (pkc (mu σ) (σ 0 3) (skm (mu σ) (σ 0 3) 1000 (σ 0 4))) ∧ (pkc (mu σ) (σ 0 3) (skm (mu σ) (σ 0 3) 1000 (σ 0 4))) ≤ 122))), (3, .inl 1)]) rfl rfl (by decide) dX12_next_170 ?_
        refine zRx.aload_n 0 rfl rfl dX12_next_171 ?_
        refine zRx.lconst (z := 0) rfl ⟨by decide, by decide⟩ dX12_next_172 ?_
        refine zRx.putJ (a := 0) (ji := 17) pl_12_235 rfl rfl rfl dX12_next_173 ?_
        refine zRx.aload_n 0 rfl rfl dX12_next_176 ?_
        refine zRx.iconst ⟨by decide, by decide⟩ dX12_next_177 ?_
        refine zRx.putI (a := 0) (ji := 14) pl_12_232 rfl rfl rfl dX12_next_178 ?_
        refine zRx.pick [0, 2, 3] (ls' := [(0, zP 0), (2, .inl (b2 (97 ≤ (pkc (mu σ) (σ 0 3) (skm (mu σ) (σ 0 3) 1000 (σ 0 4))) ∧ (pkc (mu σ) (σ 0 3) (skm (mu σ) (σ 0 3) 1000 (σ 0 4))) ≤ 122))), (3, .inl 1)]) rfl ?_
        refine seg_X12_next_181 (b2 (97 ≤ (pkc (mu σ) (σ 0 3) (skm (mu σ) (σ 0 3) 1000 (σ 0 4))) ∧ (pkc (mu σ) (σ 0 3) (skm (mu σ) (σ 0 3) 1000 (σ 0 4))) ≤ 122)) 1000 1 (zu (zu (zu (zu (zu σ 0 4 (skm (mu σ) (σ 0 3) 1000 (σ 0 4))) 0 12 (skm (mu σ) (σ 0 3) 1000 (σ 0 4))) 0 13 0) 0 17 0) 0 14 0) _ (by first | omega | (simp [zu]; omega) | (simp [zu])) (by first | omega | (simp [zu]; omega) | (simp [zu])) (by first | omega | (simp [zu]; omega) | (simp [zu])) (by first | omega | (simp [zu]; omega) | (simp [zu])) (by first | omega | (simp [zu]; omega) | (simp [zu])) ?_
        have hT := mtR_mono (mu σ) (σ 0 3) (b2 (97 ≤ (pkc (mu σ) (σ 0 3) (skm (mu σ) (σ 0 3) 1000 (σ 0 4))) ∧ (pkc (mu σ) (σ 0 3) (skm (mu σ) (σ 0 3) 1000 (σ 0 4))) ≤ 122)) 1000 1 0 0 0 (skm (mu σ) (σ 0 3) 1000 (σ 0 4))
        have eM : mu (zu (zu (zu (zu (zu σ 0 4 (skm (mu σ) (σ 0 3) 1000 (σ 0 4))) 0 12 (skm (mu σ) (σ 0 3) 1000 (σ 0 4))) 0 13 0) 0 17 0) 0 14 0) = mu σ := by funext i; simp [mu, zu]
        rw [S_next181_eq (b2 (97 ≤ (pkc (mu σ) (σ 0 3) (skm (mu σ) (σ 0 3) 1000 (σ 0 4))) ∧ (pkc (mu σ) (σ 0 3) (skm (mu σ) (σ 0 3) 1000 (σ 0 4))) ≤ 122)) 1000 1 (zu (zu (zu (zu (zu σ 0 4 (skm (mu σ) (σ 0 3) 1000 (σ 0 4))) 0 12 (skm (mu σ) (σ 0 3) 1000 (σ 0 4))) 0 13 0) 0 17 0) 0 14 0), eM, show (zu (zu (zu (zu (zu σ 0 4 (skm (mu σ) (σ 0 3) 1000 (σ 0 4))) 0 12 (skm (mu σ) (σ 0 3) 1000 (σ 0 4))) 0 13 0) 0 17 0) 0 14 0) 0 3 = σ 0 3 from ((zu_off _ _ _ (by decide)).trans ((zu_off _ _ _ (by decide)).trans ((zu_off _ _ _ (by decide)).trans ((zu_off _ _ _ (by decide)).trans (zu_off _ _ _ (by decide)))))), show (zu (zu (zu (zu (zu σ 0 4 (skm (mu σ) (σ 0 3) 1000 (σ 0 4))) 0 12 (skm (mu σ) (σ 0 3) 1000 (σ 0 4))) 0 13 0) 0 17 0) 0 14 0) 0 17 = 0 from ((zu_off _ _ _ (by decide)).trans (zu_at _ _ _ _)), show (zu (zu (zu (zu (zu σ 0 4 (skm (mu σ) (σ 0 3) 1000 (σ 0 4))) 0 12 (skm (mu σ) (σ 0 3) 1000 (σ 0 4))) 0 13 0) 0 17 0) 0 14 0) 0 14 = 0 from (zu_at _ _ _ _), show (zu (zu (zu (zu (zu σ 0 4 (skm (mu σ) (σ 0 3) 1000 (σ 0 4))) 0 12 (skm (mu σ) (σ 0 3) 1000 (σ 0 4))) 0 13 0) 0 17 0) 0 14 0) 0 13 = 0 from ((zu_off _ _ _ (by decide)).trans ((zu_off _ _ _ (by decide)).trans (zu_at _ _ _ _))), show (zu (zu (zu (zu (zu σ 0 4 (skm (mu σ) (σ 0 3) 1000 (σ 0 4))) 0 12 (skm (mu σ) (σ 0 3) 1000 (σ 0 4))) 0 13 0) 0 17 0) 0 14 0) 0 4 = skm (mu σ) (σ 0 3) 1000 (σ 0 4) from ((zu_off _ _ _ (by decide)).trans ((zu_off _ _ _ (by decide)).trans ((zu_off _ _ _ (by decide)).trans ((zu_off _ _ _ (by decide)).trans (zu_at _ _ _ _)))))]
        dsimp only
        rw [show zu4 (zu (zu (zu (zu (zu σ 0 4 (skm (mu σ) (σ 0 3) 1000 (σ 0 4))) 0 12 (skm (mu σ) (σ 0 3) 1000 (σ 0 4))) 0 13 0) 0 17 0) 0 14 0) (mtR (mu σ) (σ 0 3) (b2 (97 ≤ (pkc (mu σ) (σ 0 3) (skm (mu σ) (σ 0 3) 1000 (σ 0 4))) ∧ (pkc (mu σ) (σ 0 3) (skm (mu σ) (σ 0 3) 1000 (σ 0 4))) ≤ 122)) 1000 1 0 0 0 (skm (mu σ) (σ 0 3) 1000 (σ 0 4))).2.1 (mtR (mu σ) (σ 0 3) (b2 (97 ≤ (pkc (mu σ) (σ 0 3) (skm (mu σ) (σ 0 3) 1000 (σ 0 4))) ∧ (pkc (mu σ) (σ 0 3) (skm (mu σ) (σ 0 3) 1000 (σ 0 4))) ≤ 122)) 1000 1 0 0 0 (skm (mu σ) (σ 0 3) 1000 (σ 0 4))).2.2.1 (mtR (mu σ) (σ 0 3) (b2 (97 ≤ (pkc (mu σ) (σ 0 3) (skm (mu σ) (σ 0 3) 1000 (σ 0 4))) ∧ (pkc (mu σ) (σ 0 3) (skm (mu σ) (σ 0 3) 1000 (σ 0 4))) ≤ 122)) 1000 1 0 0 0 (skm (mu σ) (σ 0 3) 1000 (σ 0 4))).2.2.2.1 (mtR (mu σ) (σ 0 3) (b2 (97 ≤ (pkc (mu σ) (σ 0 3) (skm (mu σ) (σ 0 3) 1000 (σ 0 4))) ∧ (pkc (mu σ) (σ 0 3) (skm (mu σ) (σ 0 3) 1000 (σ 0 4))) ≤ 122)) 1000 1 0 0 0 (skm (mu σ) (σ 0 3) 1000 (σ 0 4))).2.2.2.2 = zu (zu (zu (zu (zu (zu (zu (zu (zu σ 0 4 (skm (mu σ) (σ 0 3) 1000 (σ 0 4))) 0 12 (skm (mu σ) (σ 0 3) 1000 (σ 0 4))) 0 13 0) 0 17 0) 0 14 0) 0 17 (mtR (mu σ) (σ 0 3) (b2 (97 ≤ (pkc (mu σ) (σ 0 3) (skm (mu σ) (σ 0 3) 1000 (σ 0 4))) ∧ (pkc (mu σ) (σ 0 3) (skm (mu σ) (σ 0 3) 1000 (σ 0 4))) ≤ 122)) 1000 1 0 0 0 (skm (mu σ) (σ 0 3) 1000 (σ 0 4))).2.1) 0 14 (mtR (mu σ) (σ 0 3) (b2 (97 ≤ (pkc (mu σ) (σ 0 3) (skm (mu σ) (σ 0 3) 1000 (σ 0 4))) ∧ (pkc (mu σ) (σ 0 3) (skm (mu σ) (σ 0 3) 1000 (σ 0 4))) ≤ 122)) 1000 1 0 0 0 (skm (mu σ) (σ 0 3) 1000 (σ 0 4))).2.2.1) 0 13 (mtR (mu σ) (σ 0 3) (b2 (97 ≤ (pkc (mu σ) (σ 0 3) (skm (mu σ) (σ 0 3) 1000 (σ 0 4))) ∧ (pkc (mu σ) (σ 0 3) (skm (mu σ) (σ 0 3) 1000 (σ 0 4))) ≤ 122)) 1000 1 0 0 0 (skm (mu σ) (σ 0 3) 1000 (σ 0 4))).2.2.2.1) 0 4 (mtR (mu σ) (σ 0 3) (b2 (97 ≤ (pkc (mu σ) (σ 0 3) (skm (mu σ) (σ 0 3) 1000 (σ 0 4))) ∧ (pkc (mu σ) (σ 0 3) (skm (mu σ) (σ 0 3) 1000 (σ 0 4))) ≤ 122)) 1000 1 0 0 0 (skm (mu σ) (σ 0 3) 1000 (σ 0 4))).2.2.2.2 from rfl]
        refine zRx.aload_n 0 rfl rfl dX12_next_298 ?_
        refine zRx.iload_n 2 rfl rfl dX12_next_299 ?_
        refine zRx.if_eq (tgt := 320) dX12_next_300 (by decide) (fun c300 => ?_) (fun c300 => ?_)
        · refine zRx.iconst ⟨by decide, by decide⟩ dX12_next_320 ?_
          refine zRx.goto (tgt := 333) dX12_next_321 (by decide) ?_
          refine zRx.putI (a := 0) (ji := 11) pl_12_222 rfl rfl rfl dX12_next_333 ?_
          exact zR.ret rfl dX12_next_336 ⟨rfl, by unfold F_X12_next; rw [if_pos c52, if_pos c86, if_pos c99, if_pos c300]⟩
        · refine zRx.aload_n 0 rfl rfl dX12_next_303 ?_
          refine zRx.getIv (a := 0) (ji := 13) (v := (mtR (mu σ) (σ 0 3) (b2 (97 ≤ (pkc (mu σ) (σ 0 3) (skm (mu σ) (σ 0 3) 1000 (σ 0 4))) ∧ (pkc (mu σ) (σ 0 3) (skm (mu σ) (σ 0 3) 1000 (σ 0 4))) ≤ 122)) 1000 1 0 0 0 (skm (mu σ) (σ 0 3) 1000 (σ 0 4))).2.2.2.1) ((zu_off _ _ _ (by decide)).trans (zu_at _ _ _ _)) fl_12_219 rfl rfl rfl dX12_next_304 ?_
          refine zRx.iload_n 1 rfl rfl dX12_next_307 ?_
          refine zRx.if_eqB (tgt := 316) dX12_next_308 (by decide) (fun c308 => absurd c99 c308) (fun c308 => ?_)
          refine zRx.bipush ⟨by decide, by decide⟩ rfl dX12_next_311 ?_
          refine zRx.goto (tgt := 317) dX12_next_313 (by decide) ?_
          refine zRx.icmp_le (tgt := 324) dX12_next_317 (by decide) (fun c317 => ?_) (fun c317 => ?_)
          · refine zRx.iload_n 1 rfl rfl dX12_next_324 ?_
            refine zRx.if_eqB (tgt := 332) dX12_next_325 (by decide) (fun c325 => absurd c99 c325) (fun c325 => ?_)
            refine zRx.iconst ⟨by decide, by decide⟩ dX12_next_328 ?_
            refine zRx.goto (tgt := 333) dX12_next_329 (by decide) ?_
            refine zRx.putI (a := 0) (ji := 11) pl_12_222 rfl rfl rfl dX12_next_333 ?_
            exact zR.ret rfl dX12_next_336 ⟨rfl, by unfold F_X12_next; rw [if_pos c52, if_pos c86, if_pos c99, if_neg c300, if_pos c317]⟩
          · refine zRx.iconst ⟨by decide, by decide⟩ dX12_next_320 ?_
            refine zRx.goto (tgt := 333) dX12_next_321 (by decide) ?_
            refine zRx.putI (a := 0) (ji := 11) pl_12_222 rfl rfl rfl dX12_next_333 ?_
            exact zR.ret rfl dX12_next_336 ⟨rfl, by unfold F_X12_next; rw [if_pos c52, if_pos c86, if_pos c99, if_neg c300, if_neg (Int.not_le.mpr c317)]⟩
      · refine zRx.iload_n 1 rfl rfl dX12_next_102 ?_
        refine zRx.cSi (w := .inl (b2 (48 ≤ (pkc (mu σ) (σ 0 3) (skm (mu σ) (σ 0 3) 1000 (σ 0 4))) ∧ (pkc (mu σ) (σ 0 3) (skm (mu σ) (σ 0 3) 1000 (σ 0 4))) ≤ 57))) (M := m_X12_isDigit) (av := [.inl (pkc (mu σ) (σ 0 3) (skm (mu σ) (σ 0 3) 1000 (σ 0 4)))]) cs_12_229 mk_X12_isDigit (by decide) rfl (Nat.le_of_ble_eq_true rfl) dX12_next_103 (does_X12_isDigit (pkc (mu σ) (σ 0 3) (skm (mu σ) (σ 0 3) 1000 (σ 0 4))) SM (zu (zu (zu σ 0 4 (skm (mu σ) (σ 0 3) 1000 (σ 0 4))) 0 12 (skm (mu σ) (σ 0 3) 1000 (σ 0 4))) 0 13 0)) ?_
        refine zRx.if_neB (tgt := 164) dX12_next_106 (by decide) (fun c106 => ?_) (fun c106 => ?_)
        · refine zRx.iload_n 1 rfl rfl dX12_next_164 ?_
          refine zRx.cSi (w := .inl (b2 (97 ≤ (pkc (mu σ) (σ 0 3) (skm (mu σ) (σ 0 3) 1000 (σ 0 4))) ∧ (pkc (mu σ) (σ 0 3) (skm (mu σ) (σ 0 3) 1000 (σ 0 4))) ≤ 122))) (M := m_X12_isSmall) (av := [.inl (pkc (mu σ) (σ 0 3) (skm (mu σ) (σ 0 3) 1000 (σ 0 4)))]) cs_12_225 mk_X12_isSmall (by decide) rfl (Nat.le_of_ble_eq_true rfl) dX12_next_165 (does_X12_isSmall (pkc (mu σ) (σ 0 3) (skm (mu σ) (σ 0 3) 1000 (σ 0 4))) SM (zu (zu (zu σ 0 4 (skm (mu σ) (σ 0 3) 1000 (σ 0 4))) 0 12 (skm (mu σ) (σ 0 3) 1000 (σ 0 4))) 0 13 0)) ?_
          refine zRx.istore_n (ls' := [(0, zP 0), (1, .inl (pkc (mu σ) (σ 0 3) (skm (mu σ) (σ 0 3) 1000 (σ 0 4)))), (2, .inl (b2 (97 ≤ (pkc (mu σ) (σ 0 3) (skm (mu σ) (σ 0 3) 1000 (σ 0 4))) ∧ (pkc (mu σ) (σ 0 3) (skm (mu σ) (σ 0 3) 1000 (σ 0 4))) ≤ 122)))]) rfl rfl (by decide) dX12_next_168 ?_
          refine zRx.iconst ⟨by decide, by decide⟩ dX12_next_169 ?_
          refine zRx.istore_n (ls' := [(0, zP 0), (1, .inl (pkc (mu σ) (σ 0 3) (skm (mu σ) (σ 0 3) 1000 (σ 0 4)))), (2, .inl (b2 (97 ≤ (pkc (mu σ) (σ 0 3) (skm (mu σ) (σ 0 3) 1000 (σ 0 4))) ∧ (pkc (mu σ) (σ 0 3) (skm (mu σ) (σ 0 3) 1000 (σ 0 4))) ≤ 122))), (3, .inl 1)]) rfl rfl (by decide) dX12_next_170 ?_
          refine zRx.aload_n 0 rfl rfl dX12_next_171 ?_
          refine zRx.lconst (z := 0) rfl ⟨by decide, by decide⟩ dX12_next_172 ?_
          refine zRx.putJ (a := 0) (ji := 17) pl_12_235 rfl rfl rfl dX12_next_173 ?_
          refine zRx.aload_n 0 rfl rfl dX12_next_176 ?_
          refine zRx.iconst ⟨by decide, by decide⟩ dX12_next_177 ?_
          refine zRx.putI (a := 0) (ji := 14) pl_12_232 rfl rfl rfl dX12_next_178 ?_
          refine zRx.pick [0, 2, 3] (ls' := [(0, zP 0), (2, .inl (b2 (97 ≤ (pkc (mu σ) (σ 0 3) (skm (mu σ) (σ 0 3) 1000 (σ 0 4))) ∧ (pkc (mu σ) (σ 0 3) (skm (mu σ) (σ 0 3) 1000 (σ 0 4))) ≤ 122))), (3, .inl 1)]) rfl ?_
          refine seg_X12_next_181 (b2 (97 ≤ (pkc (mu σ) (σ 0 3) (skm (mu σ) (σ 0 3) 1000 (σ 0 4))) ∧ (pkc (mu σ) (σ 0 3) (skm (mu σ) (σ 0 3) 1000 (σ 0 4))) ≤ 122)) 1000 1 (zu (zu (zu (zu (zu σ 0 4 (skm (mu σ) (σ 0 3) 1000 (σ 0 4))) 0 12 (skm (mu σ) (σ 0 3) 1000 (σ 0 4))) 0 13 0) 0 17 0) 0 14 0) _ (by first | omega | (simp [zu]; omega) | (simp [zu])) (by first | omega | (simp [zu]; omega) | (simp [zu])) (by first | omega | (simp [zu]; omega) | (simp [zu])) (by first | omega | (simp [zu]; omega) | (simp [zu])) (by first | omega | (simp [zu]; omega) | (simp [zu])) ?_
          have hT := mtR_mono (mu σ) (σ 0 3) (b2 (97 ≤ (pkc (mu σ) (σ 0 3) (skm (mu σ) (σ 0 3) 1000 (σ 0 4))) ∧ (pkc (mu σ) (σ 0 3) (skm (mu σ) (σ 0 3) 1000 (σ 0 4))) ≤ 122)) 1000 1 0 0 0 (skm (mu σ) (σ 0 3) 1000 (σ 0 4))
          have eM : mu (zu (zu (zu (zu (zu σ 0 4 (skm (mu σ) (σ 0 3) 1000 (σ 0 4))) 0 12 (skm (mu σ) (σ 0 3) 1000 (σ 0 4))) 0 13 0) 0 17 0) 0 14 0) = mu σ := by funext i; simp [mu, zu]
          rw [S_next181_eq (b2 (97 ≤ (pkc (mu σ) (σ 0 3) (skm (mu σ) (σ 0 3) 1000 (σ 0 4))) ∧ (pkc (mu σ) (σ 0 3) (skm (mu σ) (σ 0 3) 1000 (σ 0 4))) ≤ 122)) 1000 1 (zu (zu (zu (zu (zu σ 0 4 (skm (mu σ) (σ 0 3) 1000 (σ 0 4))) 0 12 (skm (mu σ) (σ 0 3) 1000 (σ 0 4))) 0 13 0) 0 17 0) 0 14 0), eM, show (zu (zu (zu (zu (zu σ 0 4 (skm (mu σ) (σ 0 3) 1000 (σ 0 4))) 0 12 (skm (mu σ) (σ 0 3) 1000 (σ 0 4))) 0 13 0) 0 17 0) 0 14 0) 0 3 = σ 0 3 from ((zu_off _ _ _ (by decide)).trans ((zu_off _ _ _ (by decide)).trans ((zu_off _ _ _ (by decide)).trans ((zu_off _ _ _ (by decide)).trans (zu_off _ _ _ (by decide)))))), show (zu (zu (zu (zu (zu σ 0 4 (skm (mu σ) (σ 0 3) 1000 (σ 0 4))) 0 12 (skm (mu σ) (σ 0 3) 1000 (σ 0 4))) 0 13 0) 0 17 0) 0 14 0) 0 17 = 0 from ((zu_off _ _ _ (by decide)).trans (zu_at _ _ _ _)), show (zu (zu (zu (zu (zu σ 0 4 (skm (mu σ) (σ 0 3) 1000 (σ 0 4))) 0 12 (skm (mu σ) (σ 0 3) 1000 (σ 0 4))) 0 13 0) 0 17 0) 0 14 0) 0 14 = 0 from (zu_at _ _ _ _), show (zu (zu (zu (zu (zu σ 0 4 (skm (mu σ) (σ 0 3) 1000 (σ 0 4))) 0 12 (skm (mu σ) (σ 0 3) 1000 (σ 0 4))) 0 13 0) 0 17 0) 0 14 0) 0 13 = 0 from ((zu_off _ _ _ (by decide)).trans ((zu_off _ _ _ (by decide)).trans (zu_at _ _ _ _))), show (zu (zu (zu (zu (zu σ 0 4 (skm (mu σ) (σ 0 3) 1000 (σ 0 4))) 0 12 (skm (mu σ) (σ 0 3) 1000 (σ 0 4))) 0 13 0) 0 17 0) 0 14 0) 0 4 = skm (mu σ) (σ 0 3) 1000 (σ 0 4) from ((zu_off _ _ _ (by decide)).trans ((zu_off _ _ _ (by decide)).trans ((zu_off _ _ _ (by decide)).trans ((zu_off _ _ _ (by decide)).trans (zu_at _ _ _ _)))))]
          dsimp only
          rw [show zu4 (zu (zu (zu (zu (zu σ 0 4 (skm (mu σ) (σ 0 3) 1000 (σ 0 4))) 0 12 (skm (mu σ) (σ 0 3) 1000 (σ 0 4))) 0 13 0) 0 17 0) 0 14 0) (mtR (mu σ) (σ 0 3) (b2 (97 ≤ (pkc (mu σ) (σ 0 3) (skm (mu σ) (σ 0 3) 1000 (σ 0 4))) ∧ (pkc (mu σ) (σ 0 3) (skm (mu σ) (σ 0 3) 1000 (σ 0 4))) ≤ 122)) 1000 1 0 0 0 (skm (mu σ) (σ 0 3) 1000 (σ 0 4))).2.1 (mtR (mu σ) (σ 0 3) (b2 (97 ≤ (pkc (mu σ) (σ 0 3) (skm (mu σ) (σ 0 3) 1000 (σ 0 4))) ∧ (pkc (mu σ) (σ 0 3) (skm (mu σ) (σ 0 3) 1000 (σ 0 4))) ≤ 122)) 1000 1 0 0 0 (skm (mu σ) (σ 0 3) 1000 (σ 0 4))).2.2.1 (mtR (mu σ) (σ 0 3) (b2 (97 ≤ (pkc (mu σ) (σ 0 3) (skm (mu σ) (σ 0 3) 1000 (σ 0 4))) ∧ (pkc (mu σ) (σ 0 3) (skm (mu σ) (σ 0 3) 1000 (σ 0 4))) ≤ 122)) 1000 1 0 0 0 (skm (mu σ) (σ 0 3) 1000 (σ 0 4))).2.2.2.1 (mtR (mu σ) (σ 0 3) (b2 (97 ≤ (pkc (mu σ) (σ 0 3) (skm (mu σ) (σ 0 3) 1000 (σ 0 4))) ∧ (pkc (mu σ) (σ 0 3) (skm (mu σ) (σ 0 3) 1000 (σ 0 4))) ≤ 122)) 1000 1 0 0 0 (skm (mu σ) (σ 0 3) 1000 (σ 0 4))).2.2.2.2 = zu (zu (zu (zu (zu (zu (zu (zu (zu σ 0 4 (skm (mu σ) (σ 0 3) 1000 (σ 0 4))) 0 12 (skm (mu σ) (σ 0 3) 1000 (σ 0 4))) 0 13 0) 0 17 0) 0 14 0) 0 17 (mtR (mu σ) (σ 0 3) (b2 (97 ≤ (pkc (mu σ) (σ 0 3) (skm (mu σ) (σ 0 3) 1000 (σ 0 4))) ∧ (pkc (mu σ) (σ 0 3) (skm (mu σ) (σ 0 3) 1000 (σ 0 4))) ≤ 122)) 1000 1 0 0 0 (skm (mu σ) (σ 0 3) 1000 (σ 0 4))).2.1) 0 14 (mtR (mu σ) (σ 0 3) (b2 (97 ≤ (pkc (mu σ) (σ 0 3) (skm (mu σ) (σ 0 3) 1000 (σ 0 4))) ∧ (pkc (mu σ) (σ 0 3) (skm (mu σ) (σ 0 3) 1000 (σ 0 4))) ≤ 122)) 1000 1 0 0 0 (skm (mu σ) (σ 0 3) 1000 (σ 0 4))).2.2.1) 0 13 (mtR (mu σ) (σ 0 3) (b2 (97 ≤ (pkc (mu σ) (σ 0 3) (skm (mu σ) (σ 0 3) 1000 (σ 0 4))) ∧ (pkc (mu σ) (σ 0 3) (skm (mu σ) (σ 0 3) 1000 (σ 0 4))) ≤ 122)) 1000 1 0 0 0 (skm (mu σ) (σ 0 3) 1000 (σ 0 4))).2.2.2.1) 0 4 (mtR (mu σ) (σ 0 3) (b2 (97 ≤ (pkc (mu σ) (σ 0 3) (skm (mu σ) (σ 0 3) 1000 (σ 0 4))) ∧ (pkc (mu σ) (σ 0 3) (skm (mu σ) (σ 0 3) 1000 (σ 0 4))) ≤ 122)) 1000 1 0 0 0 (skm (mu σ) (σ 0 3) 1000 (σ 0 4))).2.2.2.2 from rfl]
          refine zRx.aload_n 0 rfl rfl dX12_next_298 ?_
          refine zRx.iload_n 2 rfl rfl dX12_next_299 ?_
          refine zRx.if_eq (tgt := 320) dX12_next_300 (by decide) (fun c300 => ?_) (fun c300 => ?_)
          · refine zRx.iconst ⟨by decide, by decide⟩ dX12_next_320 ?_
            refine zRx.goto (tgt := 333) dX12_next_321 (by decide) ?_
            refine zRx.putI (a := 0) (ji := 11) pl_12_222 rfl rfl rfl dX12_next_333 ?_
            exact zR.ret rfl dX12_next_336 ⟨rfl, by unfold F_X12_next; rw [if_pos c52, if_pos c86, if_neg c99, if_pos c106, if_pos c300]⟩
          · refine zRx.aload_n 0 rfl rfl dX12_next_303 ?_
            refine zRx.getIv (a := 0) (ji := 13) (v := (mtR (mu σ) (σ 0 3) (b2 (97 ≤ (pkc (mu σ) (σ 0 3) (skm (mu σ) (σ 0 3) 1000 (σ 0 4))) ∧ (pkc (mu σ) (σ 0 3) (skm (mu σ) (σ 0 3) 1000 (σ 0 4))) ≤ 122)) 1000 1 0 0 0 (skm (mu σ) (σ 0 3) 1000 (σ 0 4))).2.2.2.1) ((zu_off _ _ _ (by decide)).trans (zu_at _ _ _ _)) fl_12_219 rfl rfl rfl dX12_next_304 ?_
            refine zRx.iload_n 1 rfl rfl dX12_next_307 ?_
            refine zRx.if_eqB (tgt := 316) dX12_next_308 (by decide) (fun c308 => ?_) (fun c308 => absurd c308 c99)
            refine zRx.iconst ⟨by decide, by decide⟩ dX12_next_316 ?_
            refine zRx.icmp_le (tgt := 324) dX12_next_317 (by decide) (fun c317 => ?_) (fun c317 => ?_)
            · refine zRx.iload_n 1 rfl rfl dX12_next_324 ?_
              refine zRx.if_eqB (tgt := 332) dX12_next_325 (by decide) (fun c325 => ?_) (fun c325 => absurd c325 c99)
              refine zRx.iconst ⟨by decide, by decide⟩ dX12_next_332 ?_
              refine zRx.putI (a := 0) (ji := 11) pl_12_222 rfl rfl rfl dX12_next_333 ?_
              exact zR.ret rfl dX12_next_336 ⟨rfl, by unfold F_X12_next; rw [if_pos c52, if_pos c86, if_neg c99, if_pos c106, if_neg c300, if_pos c317]⟩
            · refine zRx.iconst ⟨by decide, by decide⟩ dX12_next_320 ?_
              refine zRx.goto (tgt := 333) dX12_next_321 (by decide) ?_
              refine zRx.putI (a := 0) (ji := 11) pl_12_222 rfl rfl rfl dX12_next_333 ?_
              exact zR.ret rfl dX12_next_336 ⟨rfl, by unfold F_X12_next; rw [if_pos c52, if_pos c86, if_neg c99, if_pos c106, if_neg c300, if_neg (Int.not_le.mpr c317)]⟩
        · refine zRx.aload_n 0 rfl rfl dX12_next_109 ?_
          refine zRx.iload_n 1 rfl rfl dX12_next_110 ?_
          refine zRx.bipush ⟨by decide, by decide⟩ rfl dX12_next_111 ?_
          refine zRx.icmp_eq (tgt := 140) dX12_next_113 (by decide) (fun c113 => ?_) (fun c113 => ?_)
          · refine zRx.iconst ⟨by decide, by decide⟩ dX12_next_140 ?_
            refine zRx.goto (tgt := 145) dX12_next_141 (by decide) ?_
            refine zRx.putI (a := 0) (ji := 11) pl_12_222 rfl rfl rfl dX12_next_145 ?_
            refine zRx.aload_n 0 rfl rfl dX12_next_148 ?_
            refine zRx.iload_n 1 rfl rfl dX12_next_149 ?_
            refine zRx.putI (a := 0) (ji := 14) pl_12_232 rfl rfl rfl dX12_next_150 ?_
            refine zRx.aload_n 0 rfl rfl dX12_next_153 ?_
            refine zRx.dup rfl dX12_next_154 ?_
            refine zRx.getIv (a := 0) (ji := 4) (v := skm (mu σ) (σ 0 3) 1000 (σ 0 4)) ((zu_off _ _ _ (by decide)).trans ((zu_off _ _ _ (by decide)).trans ((zu_off _ _ _ (by decide)).trans ((zu_off _ _ _ (by decide)).trans (zu_at _ _ _ _))))) fl_12_21 rfl rfl rfl dX12_next_155 ?_
            refine zRx.iconst ⟨by decide, by decide⟩ dX12_next_158 ?_
            refine zRx.iadd ⟨by omega, by omega⟩ dX12_next_159 ?_
            refine zRx.putI (a := 0) (ji := 4) pl_12_21 rfl rfl rfl dX12_next_160 ?_
            exact zR.ret rfl dX12_next_163 ⟨rfl, by unfold F_X12_next; rw [if_pos c52, if_pos c86, if_neg c99, if_neg c106, if_pos c113]⟩
          · refine zRx.iload_n 1 rfl rfl dX12_next_116 ?_
            refine zRx.bipush ⟨by decide, by decide⟩ rfl dX12_next_117 ?_
            refine zRx.icmp_eq (tgt := 140) dX12_next_119 (by decide) (fun c119 => ?_) (fun c119 => ?_)
            · refine zRx.iconst ⟨by decide, by decide⟩ dX12_next_140 ?_
              refine zRx.goto (tgt := 145) dX12_next_141 (by decide) ?_
              refine zRx.putI (a := 0) (ji := 11) pl_12_222 rfl rfl rfl dX12_next_145 ?_
              refine zRx.aload_n 0 rfl rfl dX12_next_148 ?_
              refine zRx.iload_n 1 rfl rfl dX12_next_149 ?_
              refine zRx.putI (a := 0) (ji := 14) pl_12_232 rfl rfl rfl dX12_next_150 ?_
              refine zRx.aload_n 0 rfl rfl dX12_next_153 ?_
              refine zRx.dup rfl dX12_next_154 ?_
              refine zRx.getIv (a := 0) (ji := 4) (v := skm (mu σ) (σ 0 3) 1000 (σ 0 4)) ((zu_off _ _ _ (by decide)).trans ((zu_off _ _ _ (by decide)).trans ((zu_off _ _ _ (by decide)).trans ((zu_off _ _ _ (by decide)).trans (zu_at _ _ _ _))))) fl_12_21 rfl rfl rfl dX12_next_155 ?_
              refine zRx.iconst ⟨by decide, by decide⟩ dX12_next_158 ?_
              refine zRx.iadd ⟨by omega, by omega⟩ dX12_next_159 ?_
              refine zRx.putI (a := 0) (ji := 4) pl_12_21 rfl rfl rfl dX12_next_160 ?_
              exact zR.ret rfl dX12_next_163 ⟨rfl, by unfold F_X12_next; rw [if_pos c52, if_pos c86, if_neg c99, if_neg c106, if_neg c113, if_pos c119]⟩
            · refine zRx.iload_n 1 rfl rfl dX12_next_122 ?_
              refine zRx.bipush ⟨by decide, by decide⟩ rfl dX12_next_123 ?_
              refine zRx.icmp_eq (tgt := 140) dX12_next_125 (by decide) (fun c125 => ?_) (fun c125 => ?_)
              · refine zRx.iconst ⟨by decide, by decide⟩ dX12_next_140 ?_
                refine zRx.goto (tgt := 145) dX12_next_141 (by decide) ?_
                refine zRx.putI (a := 0) (ji := 11) pl_12_222 rfl rfl rfl dX12_next_145 ?_
                refine zRx.aload_n 0 rfl rfl dX12_next_148 ?_
                refine zRx.iload_n 1 rfl rfl dX12_next_149 ?_
                refine zRx.putI (a := 0) (ji := 14) pl_12_232 rfl rfl rfl dX12_next_150 ?_
                refine zRx.aload_n 0 rfl rfl dX12_next_153 ?_
                refine zRx.dup rfl dX12_next_154 ?_
                refine zRx.getIv (a := 0) (ji := 4) (v := skm (mu σ) (σ 0 3) 1000 (σ 0 4)) ((zu_off _ _ _ (by decide)).trans ((zu_off _ _ _ (by decide)).trans ((zu_off _ _ _ (by decide)).trans ((zu_off _ _ _ (by decide)).trans (zu_at _ _ _ _))))) fl_12_21 rfl rfl rfl dX12_next_155 ?_
                refine zRx.iconst ⟨by decide, by decide⟩ dX12_next_158 ?_
                refine zRx.iadd ⟨by omega, by omega⟩ dX12_next_159 ?_
                refine zRx.putI (a := 0) (ji := 4) pl_12_21 rfl rfl rfl dX12_next_160 ?_
                exact zR.ret rfl dX12_next_163 ⟨rfl, by unfold F_X12_next; rw [if_pos c52, if_pos c86, if_neg c99, if_neg c106, if_neg c113, if_neg c119, if_pos c125]⟩
              · refine zRx.iload_n 1 rfl rfl dX12_next_128 ?_
                refine zRx.bipush ⟨by decide, by decide⟩ rfl dX12_next_129 ?_
                refine zRx.icmp_lt (tgt := 144) dX12_next_131 (by decide) (fun c131 => ?_) (fun c131 => ?_)
                · refine zRx.iconst ⟨by decide, by decide⟩ dX12_next_144 ?_
                  refine zRx.putI (a := 0) (ji := 11) pl_12_222 rfl rfl rfl dX12_next_145 ?_
                  refine zRx.aload_n 0 rfl rfl dX12_next_148 ?_
                  refine zRx.iload_n 1 rfl rfl dX12_next_149 ?_
                  refine zRx.putI (a := 0) (ji := 14) pl_12_232 rfl rfl rfl dX12_next_150 ?_
                  refine zRx.aload_n 0 rfl rfl dX12_next_153 ?_
                  refine zRx.dup rfl dX12_next_154 ?_
                  refine zRx.getIv (a := 0) (ji := 4) (v := skm (mu σ) (σ 0 3) 1000 (σ 0 4)) ((zu_off _ _ _ (by decide)).trans ((zu_off _ _ _ (by decide)).trans ((zu_off _ _ _ (by decide)).trans ((zu_off _ _ _ (by decide)).trans (zu_at _ _ _ _))))) fl_12_21 rfl rfl rfl dX12_next_155 ?_
                  refine zRx.iconst ⟨by decide, by decide⟩ dX12_next_158 ?_
                  refine zRx.iadd ⟨by omega, by omega⟩ dX12_next_159 ?_
                  refine zRx.putI (a := 0) (ji := 4) pl_12_21 rfl rfl rfl dX12_next_160 ?_
                  exact zR.ret rfl dX12_next_163 ⟨rfl, by unfold F_X12_next; rw [if_pos c52, if_pos c86, if_neg c99, if_neg c106, if_neg c113, if_neg c119, if_neg c125, if_pos c131]⟩
                · refine zRx.iload_n 1 rfl rfl dX12_next_134 ?_
                  refine zRx.bipush ⟨by decide, by decide⟩ rfl dX12_next_135 ?_
                  refine zRx.icmp_gt (tgt := 144) dX12_next_137 (by decide) (fun c137 => ?_) (fun c137 => ?_)
                  · refine zRx.iconst ⟨by decide, by decide⟩ dX12_next_144 ?_
                    refine zRx.putI (a := 0) (ji := 11) pl_12_222 rfl rfl rfl dX12_next_145 ?_
                    refine zRx.aload_n 0 rfl rfl dX12_next_148 ?_
                    refine zRx.iload_n 1 rfl rfl dX12_next_149 ?_
                    refine zRx.putI (a := 0) (ji := 14) pl_12_232 rfl rfl rfl dX12_next_150 ?_
                    refine zRx.aload_n 0 rfl rfl dX12_next_153 ?_
                    refine zRx.dup rfl dX12_next_154 ?_
                    refine zRx.getIv (a := 0) (ji := 4) (v := skm (mu σ) (σ 0 3) 1000 (σ 0 4)) ((zu_off _ _ _ (by decide)).trans ((zu_off _ _ _ (by decide)).trans ((zu_off _ _ _ (by decide)).trans ((zu_off _ _ _ (by decide)).trans (zu_at _ _ _ _))))) fl_12_21 rfl rfl rfl dX12_next_155 ?_
                    refine zRx.iconst ⟨by decide, by decide⟩ dX12_next_158 ?_
                    refine zRx.iadd ⟨by omega, by omega⟩ dX12_next_159 ?_
                    refine zRx.putI (a := 0) (ji := 4) pl_12_21 rfl rfl rfl dX12_next_160 ?_
                    exact zR.ret rfl dX12_next_163 ⟨rfl, by unfold F_X12_next; rw [if_pos c52, if_pos c86, if_neg c99, if_neg c106, if_neg c113, if_neg c119, if_neg c125, if_neg (Int.not_lt.mpr c131), if_pos c137]⟩
                  · refine zRx.iconst ⟨by decide, by decide⟩ dX12_next_140 ?_
                    refine zRx.goto (tgt := 145) dX12_next_141 (by decide) ?_
                    refine zRx.putI (a := 0) (ji := 11) pl_12_222 rfl rfl rfl dX12_next_145 ?_
                    refine zRx.aload_n 0 rfl rfl dX12_next_148 ?_
                    refine zRx.iload_n 1 rfl rfl dX12_next_149 ?_
                    refine zRx.putI (a := 0) (ji := 14) pl_12_232 rfl rfl rfl dX12_next_150 ?_
                    refine zRx.aload_n 0 rfl rfl dX12_next_153 ?_
                    refine zRx.dup rfl dX12_next_154 ?_
                    refine zRx.getIv (a := 0) (ji := 4) (v := skm (mu σ) (σ 0 3) 1000 (σ 0 4)) ((zu_off _ _ _ (by decide)).trans ((zu_off _ _ _ (by decide)).trans ((zu_off _ _ _ (by decide)).trans ((zu_off _ _ _ (by decide)).trans (zu_at _ _ _ _))))) fl_12_21 rfl rfl rfl dX12_next_155 ?_
                    refine zRx.iconst ⟨by decide, by decide⟩ dX12_next_158 ?_
                    refine zRx.iadd ⟨by omega, by omega⟩ dX12_next_159 ?_
                    refine zRx.putI (a := 0) (ji := 4) pl_12_21 rfl rfl rfl dX12_next_160 ?_
                    exact zR.ret rfl dX12_next_163 ⟨rfl, by unfold F_X12_next; rw [if_pos c52, if_pos c86, if_neg c99, if_neg c106, if_neg c113, if_neg c119, if_neg c125, if_neg (Int.not_lt.mpr c131), if_neg (Int.not_lt.mpr c137)]⟩
    · refine zRx.aload_n 0 rfl rfl dX12_next_89 ?_
      refine zRx.iconst ⟨by decide, by decide⟩ dX12_next_90 ?_
      refine zRx.putI (a := 0) (ji := 11) pl_12_222 rfl rfl rfl dX12_next_91 ?_
      exact zR.ret rfl dX12_next_94 ⟨rfl, by unfold F_X12_next; rw [if_pos c52, if_neg (Int.not_le.mpr c86)]⟩
  · refine zRx.aload_n 0 rfl rfl dX12_next_55 ?_
    refine zRx.getIv (a := 0) (ji := 4) (v := skm (mu σ) (σ 0 3) 1000 (σ 0 4)) ((zu_off _ _ _ (by decide)).trans ((zu_off _ _ _ (by decide)).trans (zu_at _ _ _ _))) fl_12_21 rfl rfl rfl dX12_next_56 ?_
    refine zRx.aload_n 0 rfl rfl dX12_next_59 ?_
    refine zRx.getIv (a := 0) (ji := 5) (v := σ 0 5) ((zu_off _ _ _ (by decide)).trans ((zu_off _ _ _ (by decide)).trans (zu_off _ _ _ (by decide)))) fl_12_24 rfl rfl rfl dX12_next_60 ?_
    refine zRx.icmp_lt (tgt := 80) dX12_next_63 (by decide) (fun c63 => ?_) (fun c63 => ?_)
    · refine zRx.aload_n 0 rfl rfl dX12_next_80 ?_
      refine zRx.cVi (w := .inl (pkc (mu σ) (σ 0 3) (skm (mu σ) (σ 0 3) 1000 (σ 0 4)))) (M := m_X12_peek) (av := []) cv_12_212 mk_X12_peek (by decide) (b := 0) rfl rfl (Nat.le_of_ble_eq_true rfl) dX12_next_81 (does_peek2 (zu (zu (zu σ 0 4 (skm (mu σ) (σ 0 3) 1000 (σ 0 4))) 0 12 (skm (mu σ) (σ 0 3) 1000 (σ 0 4))) 0 13 0) (mu σ) (σ 0 3) (skm (mu σ) (σ 0 3) 1000 (σ 0 4)) (by funext i; simp [mu, zu]) ((zu_off _ _ _ (by decide)).trans ((zu_off _ _ _ (by decide)).trans (zu_off _ _ _ (by decide)))) ((zu_off _ _ _ (by decide)).trans ((zu_off _ _ _ (by decide)).trans (zu_at _ _ _ _))) (by omega) (by omega)) ?_
      refine zRx.istore_n (ls' := [(0, zP 0), (1, .inl (pkc (mu σ) (σ 0 3) (skm (mu σ) (σ 0 3) 1000 (σ 0 4))))]) rfl rfl (by decide) dX12_next_84 ?_
      refine zRx.iload_n 1 rfl rfl dX12_next_85 ?_
      refine zRx.if_ge (tgt := 95) dX12_next_86 (by decide) (fun c86 => ?_) (fun c86 => ?_)
      · refine zRx.iload_n 1 rfl rfl dX12_next_95 ?_
        refine zRx.cSi (w := .inl (b2 (97 ≤ (pkc (mu σ) (σ 0 3) (skm (mu σ) (σ 0 3) 1000 (σ 0 4))) ∧ (pkc (mu σ) (σ 0 3) (skm (mu σ) (σ 0 3) 1000 (σ 0 4))) ≤ 122))) (M := m_X12_isSmall) (av := [.inl (pkc (mu σ) (σ 0 3) (skm (mu σ) (σ 0 3) 1000 (σ 0 4)))]) cs_12_225 mk_X12_isSmall (by decide) rfl (Nat.le_of_ble_eq_true rfl) dX12_next_96 (does_X12_isSmall (pkc (mu σ) (σ 0 3) (skm (mu σ) (σ 0 3) 1000 (σ 0 4))) SM (zu (zu (zu σ 0 4 (skm (mu σ) (σ 0 3) 1000 (σ 0 4))) 0 12 (skm (mu σ) (σ 0 3) 1000 (σ 0 4))) 0 13 0)) ?_
        refine zRx.if_neB (tgt := 164) dX12_next_99 (by decide) (fun c99 => ?_) (fun c99 => ?_)
        · refine zRx.iload_n 1 rfl rfl dX12_next_164 ?_
          refine zRx.cSi (w := .inl (b2 (97 ≤ (pkc (mu σ) (σ 0 3) (skm (mu σ) (σ 0 3) 1000 (σ 0 4))) ∧ (pkc (mu σ) (σ 0 3) (skm (mu σ) (σ 0 3) 1000 (σ 0 4))) ≤ 122))) (M := m_X12_isSmall) (av := [.inl (pkc (mu σ) (σ 0 3) (skm (mu σ) (σ 0 3) 1000 (σ 0 4)))]) cs_12_225 mk_X12_isSmall (by decide) rfl (Nat.le_of_ble_eq_true rfl) dX12_next_165 (does_X12_isSmall (pkc (mu σ) (σ 0 3) (skm (mu σ) (σ 0 3) 1000 (σ 0 4))) SM (zu (zu (zu σ 0 4 (skm (mu σ) (σ 0 3) 1000 (σ 0 4))) 0 12 (skm (mu σ) (σ 0 3) 1000 (σ 0 4))) 0 13 0)) ?_
          refine zRx.istore_n (ls' := [(0, zP 0), (1, .inl (pkc (mu σ) (σ 0 3) (skm (mu σ) (σ 0 3) 1000 (σ 0 4)))), (2, .inl (b2 (97 ≤ (pkc (mu σ) (σ 0 3) (skm (mu σ) (σ 0 3) 1000 (σ 0 4))) ∧ (pkc (mu σ) (σ 0 3) (skm (mu σ) (σ 0 3) 1000 (σ 0 4))) ≤ 122)))]) rfl rfl (by decide) dX12_next_168 ?_
          refine zRx.iconst ⟨by decide, by decide⟩ dX12_next_169 ?_
          refine zRx.istore_n (ls' := [(0, zP 0), (1, .inl (pkc (mu σ) (σ 0 3) (skm (mu σ) (σ 0 3) 1000 (σ 0 4)))), (2, .inl (b2 (97 ≤ (pkc (mu σ) (σ 0 3) (skm (mu σ) (σ 0 3) 1000 (σ 0 4))) ∧ (pkc (mu σ) (σ 0 3) (skm (mu σ) (σ 0 3) 1000 (σ 0 4))) ≤ 122))), (3, .inl 1)]) rfl rfl (by decide) dX12_next_170 ?_
          refine zRx.aload_n 0 rfl rfl dX12_next_171 ?_
          refine zRx.lconst (z := 0) rfl ⟨by decide, by decide⟩ dX12_next_172 ?_
          refine zRx.putJ (a := 0) (ji := 17) pl_12_235 rfl rfl rfl dX12_next_173 ?_
          refine zRx.aload_n 0 rfl rfl dX12_next_176 ?_
          refine zRx.iconst ⟨by decide, by decide⟩ dX12_next_177 ?_
          refine zRx.putI (a := 0) (ji := 14) pl_12_232 rfl rfl rfl dX12_next_178 ?_
          refine zRx.pick [0, 2, 3] (ls' := [(0, zP 0), (2, .inl (b2 (97 ≤ (pkc (mu σ) (σ 0 3) (skm (mu σ) (σ 0 3) 1000 (σ 0 4))) ∧ (pkc (mu σ) (σ 0 3) (skm (mu σ) (σ 0 3) 1000 (σ 0 4))) ≤ 122))), (3, .inl 1)]) rfl ?_
          refine seg_X12_next_181 (b2 (97 ≤ (pkc (mu σ) (σ 0 3) (skm (mu σ) (σ 0 3) 1000 (σ 0 4))) ∧ (pkc (mu σ) (σ 0 3) (skm (mu σ) (σ 0 3) 1000 (σ 0 4))) ≤ 122)) 1000 1 (zu (zu (zu (zu (zu σ 0 4 (skm (mu σ) (σ 0 3) 1000 (σ 0 4))) 0 12 (skm (mu σ) (σ 0 3) 1000 (σ 0 4))) 0 13 0) 0 17 0) 0 14 0) _ (by first | omega | (simp [zu]; omega) | (simp [zu])) (by first | omega | (simp [zu]; omega) | (simp [zu])) (by first | omega | (simp [zu]; omega) | (simp [zu])) (by first | omega | (simp [zu]; omega) | (simp [zu])) (by first | omega | (simp [zu]; omega) | (simp [zu])) ?_
          have hT := mtR_mono (mu σ) (σ 0 3) (b2 (97 ≤ (pkc (mu σ) (σ 0 3) (skm (mu σ) (σ 0 3) 1000 (σ 0 4))) ∧ (pkc (mu σ) (σ 0 3) (skm (mu σ) (σ 0 3) 1000 (σ 0 4))) ≤ 122)) 1000 1 0 0 0 (skm (mu σ) (σ 0 3) 1000 (σ 0 4))
          have eM : mu (zu (zu (zu (zu (zu σ 0 4 (skm (mu σ) (σ 0 3) 1000 (σ 0 4))) 0 12 (skm (mu σ) (σ 0 3) 1000 (σ 0 4))) 0 13 0) 0 17 0) 0 14 0) = mu σ := by funext i; simp [mu, zu]
          rw [S_next181_eq (b2 (97 ≤ (pkc (mu σ) (σ 0 3) (skm (mu σ) (σ 0 3) 1000 (σ 0 4))) ∧ (pkc (mu σ) (σ 0 3) (skm (mu σ) (σ 0 3) 1000 (σ 0 4))) ≤ 122)) 1000 1 (zu (zu (zu (zu (zu σ 0 4 (skm (mu σ) (σ 0 3) 1000 (σ 0 4))) 0 12 (skm (mu σ) (σ 0 3) 1000 (σ 0 4))) 0 13 0) 0 17 0) 0 14 0), eM, show (zu (zu (zu (zu (zu σ 0 4 (skm (mu σ) (σ 0 3) 1000 (σ 0 4))) 0 12 (skm (mu σ) (σ 0 3) 1000 (σ 0 4))) 0 13 0) 0 17 0) 0 14 0) 0 3 = σ 0 3 from ((zu_off _ _ _ (by decide)).trans ((zu_off _ _ _ (by decide)).trans ((zu_off _ _ _ (by decide)).trans ((zu_off _ _ _ (by decide)).trans (zu_off _ _ _ (by decide)))))), show (zu (zu (zu (zu (zu σ 0 4 (skm (mu σ) (σ 0 3) 1000 (σ 0 4))) 0 12 (skm (mu σ) (σ 0 3) 1000 (σ 0 4))) 0 13 0) 0 17 0) 0 14 0) 0 17 = 0 from ((zu_off _ _ _ (by decide)).trans (zu_at _ _ _ _)), show (zu (zu (zu (zu (zu σ 0 4 (skm (mu σ) (σ 0 3) 1000 (σ 0 4))) 0 12 (skm (mu σ) (σ 0 3) 1000 (σ 0 4))) 0 13 0) 0 17 0) 0 14 0) 0 14 = 0 from (zu_at _ _ _ _), show (zu (zu (zu (zu (zu σ 0 4 (skm (mu σ) (σ 0 3) 1000 (σ 0 4))) 0 12 (skm (mu σ) (σ 0 3) 1000 (σ 0 4))) 0 13 0) 0 17 0) 0 14 0) 0 13 = 0 from ((zu_off _ _ _ (by decide)).trans ((zu_off _ _ _ (by decide)).trans (zu_at _ _ _ _))), show (zu (zu (zu (zu (zu σ 0 4 (skm (mu σ) (σ 0 3) 1000 (σ 0 4))) 0 12 (skm (mu σ) (σ 0 3) 1000 (σ 0 4))) 0 13 0) 0 17 0) 0 14 0) 0 4 = skm (mu σ) (σ 0 3) 1000 (σ 0 4) from ((zu_off _ _ _ (by decide)).trans ((zu_off _ _ _ (by decide)).trans ((zu_off _ _ _ (by decide)).trans ((zu_off _ _ _ (by decide)).trans (zu_at _ _ _ _)))))]
          dsimp only
          rw [show zu4 (zu (zu (zu (zu (zu σ 0 4 (skm (mu σ) (σ 0 3) 1000 (σ 0 4))) 0 12 (skm (mu σ) (σ 0 3) 1000 (σ 0 4))) 0 13 0) 0 17 0) 0 14 0) (mtR (mu σ) (σ 0 3) (b2 (97 ≤ (pkc (mu σ) (σ 0 3) (skm (mu σ) (σ 0 3) 1000 (σ 0 4))) ∧ (pkc (mu σ) (σ 0 3) (skm (mu σ) (σ 0 3) 1000 (σ 0 4))) ≤ 122)) 1000 1 0 0 0 (skm (mu σ) (σ 0 3) 1000 (σ 0 4))).2.1 (mtR (mu σ) (σ 0 3) (b2 (97 ≤ (pkc (mu σ) (σ 0 3) (skm (mu σ) (σ 0 3) 1000 (σ 0 4))) ∧ (pkc (mu σ) (σ 0 3) (skm (mu σ) (σ 0 3) 1000 (σ 0 4))) ≤ 122)) 1000 1 0 0 0 (skm (mu σ) (σ 0 3) 1000 (σ 0 4))).2.2.1 (mtR (mu σ) (σ 0 3) (b2 (97 ≤ (pkc (mu σ) (σ 0 3) (skm (mu σ) (σ 0 3) 1000 (σ 0 4))) ∧ (pkc (mu σ) (σ 0 3) (skm (mu σ) (σ 0 3) 1000 (σ 0 4))) ≤ 122)) 1000 1 0 0 0 (skm (mu σ) (σ 0 3) 1000 (σ 0 4))).2.2.2.1 (mtR (mu σ) (σ 0 3) (b2 (97 ≤ (pkc (mu σ) (σ 0 3) (skm (mu σ) (σ 0 3) 1000 (σ 0 4))) ∧ (pkc (mu σ) (σ 0 3) (skm (mu σ) (σ 0 3) 1000 (σ 0 4))) ≤ 122)) 1000 1 0 0 0 (skm (mu σ) (σ 0 3) 1000 (σ 0 4))).2.2.2.2 = zu (zu (zu (zu (zu (zu (zu (zu (zu σ 0 4 (skm (mu σ) (σ 0 3) 1000 (σ 0 4))) 0 12 (skm (mu σ) (σ 0 3) 1000 (σ 0 4))) 0 13 0) 0 17 0) 0 14 0) 0 17 (mtR (mu σ) (σ 0 3) (b2 (97 ≤ (pkc (mu σ) (σ 0 3) (skm (mu σ) (σ 0 3) 1000 (σ 0 4))) ∧ (pkc (mu σ) (σ 0 3) (skm (mu σ) (σ 0 3) 1000 (σ 0 4))) ≤ 122)) 1000 1 0 0 0 (skm (mu σ) (σ 0 3) 1000 (σ 0 4))).2.1) 0 14 (mtR (mu σ) (σ 0 3) (b2 (97 ≤ (pkc (mu σ) (σ 0 3) (skm (mu σ) (σ 0 3) 1000 (σ 0 4))) ∧ (pkc (mu σ) (σ 0 3) (skm (mu σ) (σ 0 3) 1000 (σ 0 4))) ≤ 122)) 1000 1 0 0 0 (skm (mu σ) (σ 0 3) 1000 (σ 0 4))).2.2.1) 0 13 (mtR (mu σ) (σ 0 3) (b2 (97 ≤ (pkc (mu σ) (σ 0 3) (skm (mu σ) (σ 0 3) 1000 (σ 0 4))) ∧ (pkc (mu σ) (σ 0 3) (skm (mu σ) (σ 0 3) 1000 (σ 0 4))) ≤ 122)) 1000 1 0 0 0 (skm (mu σ) (σ 0 3) 1000 (σ 0 4))).2.2.2.1) 0 4 (mtR (mu σ) (σ 0 3) (b2 (97 ≤ (pkc (mu σ) (σ 0 3) (skm (mu σ) (σ 0 3) 1000 (σ 0 4))) ∧ (pkc (mu σ) (σ 0 3) (skm (mu σ) (σ 0 3) 1000 (σ 0 4))) ≤ 122)) 1000 1 0 0 0 (skm (mu σ) (σ 0 3) 1000 (σ 0 4))).2.2.2.2 from rfl]
          refine zRx.aload_n 0 rfl rfl dX12_next_298 ?_
          refine zRx.iload_n 2 rfl rfl dX12_next_299 ?_
          refine zRx.if_eq (tgt := 320) dX12_next_300 (by decide) (fun c300 => ?_) (fun c300 => ?_)
          · refine zRx.iconst ⟨by decide, by decide⟩ dX12_next_320 ?_
            refine zRx.goto (tgt := 333) dX12_next_321 (by decide) ?_
            refine zRx.putI (a := 0) (ji := 11) pl_12_222 rfl rfl rfl dX12_next_333 ?_
            exact zR.ret rfl dX12_next_336 ⟨rfl, by unfold F_X12_next; rw [if_neg (Int.not_le.mpr c52), if_pos c63, if_pos c86, if_pos c99, if_pos c300]⟩
          · refine zRx.aload_n 0 rfl rfl dX12_next_303 ?_
            refine zRx.getIv (a := 0) (ji := 13) (v := (mtR (mu σ) (σ 0 3) (b2 (97 ≤ (pkc (mu σ) (σ 0 3) (skm (mu σ) (σ 0 3) 1000 (σ 0 4))) ∧ (pkc (mu σ) (σ 0 3) (skm (mu σ) (σ 0 3) 1000 (σ 0 4))) ≤ 122)) 1000 1 0 0 0 (skm (mu σ) (σ 0 3) 1000 (σ 0 4))).2.2.2.1) ((zu_off _ _ _ (by decide)).trans (zu_at _ _ _ _)) fl_12_219 rfl rfl rfl dX12_next_304 ?_
            refine zRx.iload_n 1 rfl rfl dX12_next_307 ?_
            refine zRx.if_eqB (tgt := 316) dX12_next_308 (by decide) (fun c308 => absurd c99 c308) (fun c308 => ?_)
            refine zRx.bipush ⟨by decide, by decide⟩ rfl dX12_next_311 ?_
            refine zRx.goto (tgt := 317) dX12_next_313 (by decide) ?_
            refine zRx.icmp_le (tgt := 324) dX12_next_317 (by decide) (fun c317 => ?_) (fun c317 => ?_)
            · refine zRx.iload_n 1 rfl rfl dX12_next_324 ?_
              refine zRx.if_eqB (tgt := 332) dX12_next_325 (by decide) (fun c325 => absurd c99 c325) (fun c325 => ?_)
              refine zRx.iconst ⟨by decide, by decide⟩ dX12_next_328 ?_
              refine zRx.goto (tgt := 333) dX12_next_329 (by decide) ?_
              refine zRx.putI (a := 0) (ji := 11) pl_12_222 rfl rfl rfl dX12_next_333 ?_
              exact zR.ret rfl dX12_next_336 ⟨rfl, by unfold F_X12_next; rw [if_neg (Int.not_le.mpr c52), if_pos c63, if_pos c86, if_pos c99, if_neg c300, if_pos c317]⟩
            · refine zRx.iconst ⟨by decide, by decide⟩ dX12_next_320 ?_
              refine zRx.goto (tgt := 333) dX12_next_321 (by decide) ?_
              refine zRx.putI (a := 0) (ji := 11) pl_12_222 rfl rfl rfl dX12_next_333 ?_
              exact zR.ret rfl dX12_next_336 ⟨rfl, by unfold F_X12_next; rw [if_neg (Int.not_le.mpr c52), if_pos c63, if_pos c86, if_pos c99, if_neg c300, if_neg (Int.not_le.mpr c317)]⟩
        · refine zRx.iload_n 1 rfl rfl dX12_next_102 ?_
          refine zRx.cSi (w := .inl (b2 (48 ≤ (pkc (mu σ) (σ 0 3) (skm (mu σ) (σ 0 3) 1000 (σ 0 4))) ∧ (pkc (mu σ) (σ 0 3) (skm (mu σ) (σ 0 3) 1000 (σ 0 4))) ≤ 57))) (M := m_X12_isDigit) (av := [.inl (pkc (mu σ) (σ 0 3) (skm (mu σ) (σ 0 3) 1000 (σ 0 4)))]) cs_12_229 mk_X12_isDigit (by decide) rfl (Nat.le_of_ble_eq_true rfl) dX12_next_103 (does_X12_isDigit (pkc (mu σ) (σ 0 3) (skm (mu σ) (σ 0 3) 1000 (σ 0 4))) SM (zu (zu (zu σ 0 4 (skm (mu σ) (σ 0 3) 1000 (σ 0 4))) 0 12 (skm (mu σ) (σ 0 3) 1000 (σ 0 4))) 0 13 0)) ?_
          refine zRx.if_neB (tgt := 164) dX12_next_106 (by decide) (fun c106 => ?_) (fun c106 => ?_)
          · refine zRx.iload_n 1 rfl rfl dX12_next_164 ?_
            refine zRx.cSi (w := .inl (b2 (97 ≤ (pkc (mu σ) (σ 0 3) (skm (mu σ) (σ 0 3) 1000 (σ 0 4))) ∧ (pkc (mu σ) (σ 0 3) (skm (mu σ) (σ 0 3) 1000 (σ 0 4))) ≤ 122))) (M := m_X12_isSmall) (av := [.inl (pkc (mu σ) (σ 0 3) (skm (mu σ) (σ 0 3) 1000 (σ 0 4)))]) cs_12_225 mk_X12_isSmall (by decide) rfl (Nat.le_of_ble_eq_true rfl) dX12_next_165 (does_X12_isSmall (pkc (mu σ) (σ 0 3) (skm (mu σ) (σ 0 3) 1000 (σ 0 4))) SM (zu (zu (zu σ 0 4 (skm (mu σ) (σ 0 3) 1000 (σ 0 4))) 0 12 (skm (mu σ) (σ 0 3) 1000 (σ 0 4))) 0 13 0)) ?_
            refine zRx.istore_n (ls' := [(0, zP 0), (1, .inl (pkc (mu σ) (σ 0 3) (skm (mu σ) (σ 0 3) 1000 (σ 0 4)))), (2, .inl (b2 (97 ≤ (pkc (mu σ) (σ 0 3) (skm (mu σ) (σ 0 3) 1000 (σ 0 4))) ∧ (pkc (mu σ) (σ 0 3) (skm (mu σ) (σ 0 3) 1000 (σ 0 4))) ≤ 122)))]) rfl rfl (by decide) dX12_next_168 ?_
            refine zRx.iconst ⟨by decide, by decide⟩ dX12_next_169 ?_
            refine zRx.istore_n (ls' := [(0, zP 0), (1, .inl (pkc (mu σ) (σ 0 3) (skm (mu σ) (σ 0 3) 1000 (σ 0 4)))), (2, .inl (b2 (97 ≤ (pkc (mu σ) (σ 0 3) (skm (mu σ) (σ 0 3) 1000 (σ 0 4))) ∧ (pkc (mu σ) (σ 0 3) (skm (mu σ) (σ 0 3) 1000 (σ 0 4))) ≤ 122))), (3, .inl 1)]) rfl rfl (by decide) dX12_next_170 ?_
            refine zRx.aload_n 0 rfl rfl dX12_next_171 ?_
            refine zRx.lconst (z := 0) rfl ⟨by decide, by decide⟩ dX12_next_172 ?_
            refine zRx.putJ (a := 0) (ji := 17) pl_12_235 rfl rfl rfl dX12_next_173 ?_
            refine zRx.aload_n 0 rfl rfl dX12_next_176 ?_
            refine zRx.iconst ⟨by decide, by decide⟩ dX12_next_177 ?_
            refine zRx.putI (a := 0) (ji := 14) pl_12_232 rfl rfl rfl dX12_next_178 ?_
            refine zRx.pick [0, 2, 3] (ls' := [(0, zP 0), (2, .inl (b2 (97 ≤ (pkc (mu σ) (σ 0 3) (skm (mu σ) (σ 0 3) 1000 (σ 0 4))) ∧ (pkc (mu σ) (σ 0 3) (skm (mu σ) (σ 0 3) 1000 (σ 0 4))) ≤ 122))), (3, .inl 1)]) rfl ?_
            refine seg_X12_next_181 (b2 (97 ≤ (pkc (mu σ) (σ 0 3) (skm (mu σ) (σ 0 3) 1000 (σ 0 4))) ∧ (pkc (mu σ) (σ 0 3) (skm (mu σ) (σ 0 3) 1000 (σ 0 4))) ≤ 122)) 1000 1 (zu (zu (zu (zu (zu σ 0 4 (skm (mu σ) (σ 0 3) 1000 (σ 0 4))) 0 12 (skm (mu σ) (σ 0 3) 1000 (σ 0 4))) 0 13 0) 0 17 0) 0 14 0) _ (by first | omega | (simp [zu]; omega) | (simp [zu])) (by first | omega | (simp [zu]; omega) | (simp [zu])) (by first | omega | (simp [zu]; omega) | (simp [zu])) (by first | omega | (simp [zu]; omega) | (simp [zu])) (by first | omega | (simp [zu]; omega) | (simp [zu])) ?_
            have hT := mtR_mono (mu σ) (σ 0 3) (b2 (97 ≤ (pkc (mu σ) (σ 0 3) (skm (mu σ) (σ 0 3) 1000 (σ 0 4))) ∧ (pkc (mu σ) (σ 0 3) (skm (mu σ) (σ 0 3) 1000 (σ 0 4))) ≤ 122)) 1000 1 0 0 0 (skm (mu σ) (σ 0 3) 1000 (σ 0 4))
            have eM : mu (zu (zu (zu (zu (zu σ 0 4 (skm (mu σ) (σ 0 3) 1000 (σ 0 4))) 0 12 (skm (mu σ) (σ 0 3) 1000 (σ 0 4))) 0 13 0) 0 17 0) 0 14 0) = mu σ := by funext i; simp [mu, zu]
            rw [S_next181_eq (b2 (97 ≤ (pkc (mu σ) (σ 0 3) (skm (mu σ) (σ 0 3) 1000 (σ 0 4))) ∧ (pkc (mu σ) (σ 0 3) (skm (mu σ) (σ 0 3) 1000 (σ 0 4))) ≤ 122)) 1000 1 (zu (zu (zu (zu (zu σ 0 4 (skm (mu σ) (σ 0 3) 1000 (σ 0 4))) 0 12 (skm (mu σ) (σ 0 3) 1000 (σ 0 4))) 0 13 0) 0 17 0) 0 14 0), eM, show (zu (zu (zu (zu (zu σ 0 4 (skm (mu σ) (σ 0 3) 1000 (σ 0 4))) 0 12 (skm (mu σ) (σ 0 3) 1000 (σ 0 4))) 0 13 0) 0 17 0) 0 14 0) 0 3 = σ 0 3 from ((zu_off _ _ _ (by decide)).trans ((zu_off _ _ _ (by decide)).trans ((zu_off _ _ _ (by decide)).trans ((zu_off _ _ _ (by decide)).trans (zu_off _ _ _ (by decide)))))), show (zu (zu (zu (zu (zu σ 0 4 (skm (mu σ) (σ 0 3) 1000 (σ 0 4))) 0 12 (skm (mu σ) (σ 0 3) 1000 (σ 0 4))) 0 13 0) 0 17 0) 0 14 0) 0 17 = 0 from ((zu_off _ _ _ (by decide)).trans (zu_at _ _ _ _)), show (zu (zu (zu (zu (zu σ 0 4 (skm (mu σ) (σ 0 3) 1000 (σ 0 4))) 0 12 (skm (mu σ) (σ 0 3) 1000 (σ 0 4))) 0 13 0) 0 17 0) 0 14 0) 0 14 = 0 from (zu_at _ _ _ _), show (zu (zu (zu (zu (zu σ 0 4 (skm (mu σ) (σ 0 3) 1000 (σ 0 4))) 0 12 (skm (mu σ) (σ 0 3) 1000 (σ 0 4))) 0 13 0) 0 17 0) 0 14 0) 0 13 = 0 from ((zu_off _ _ _ (by decide)).trans ((zu_off _ _ _ (by decide)).trans (zu_at _ _ _ _))), show (zu (zu (zu (zu (zu σ 0 4 (skm (mu σ) (σ 0 3) 1000 (σ 0 4))) 0 12 (skm (mu σ) (σ 0 3) 1000 (σ 0 4))) 0 13 0) 0 17 0) 0 14 0) 0 4 = skm (mu σ) (σ 0 3) 1000 (σ 0 4) from ((zu_off _ _ _ (by decide)).trans ((zu_off _ _ _ (by decide)).trans ((zu_off _ _ _ (by decide)).trans ((zu_off _ _ _ (by decide)).trans (zu_at _ _ _ _)))))]
            dsimp only
            rw [show zu4 (zu (zu (zu (zu (zu σ 0 4 (skm (mu σ) (σ 0 3) 1000 (σ 0 4))) 0 12 (skm (mu σ) (σ 0 3) 1000 (σ 0 4))) 0 13 0) 0 17 0) 0 14 0) (mtR (mu σ) (σ 0 3) (b2 (97 ≤ (pkc (mu σ) (σ 0 3) (skm (mu σ) (σ 0 3) 1000 (σ 0 4))) ∧ (pkc (mu σ) (σ 0 3) (skm (mu σ) (σ 0 3) 1000 (σ 0 4))) ≤ 122)) 1000 1 0 0 0 (skm (mu σ) (σ 0 3) 1000 (σ 0 4))).2.1 (mtR (mu σ) (σ 0 3) (b2 (97 ≤ (pkc (mu σ) (σ 0 3) (skm (mu σ) (σ 0 3) 1000 (σ 0 4))) ∧ (pkc (mu σ) (σ 0 3) (skm (mu σ) (σ 0 3) 1000 (σ 0 4))) ≤ 122)) 1000 1 0 0 0 (skm (mu σ) (σ 0 3) 1000 (σ 0 4))).2.2.1 (mtR (mu σ) (σ 0 3) (b2 (97 ≤ (pkc (mu σ) (σ 0 3) (skm (mu σ) (σ 0 3) 1000 (σ 0 4))) ∧ (pkc (mu σ) (σ 0 3) (skm (mu σ) (σ 0 3) 1000 (σ 0 4))) ≤ 122)) 1000 1 0 0 0 (skm (mu σ) (σ 0 3) 1000 (σ 0 4))).2.2.2.1 (mtR (mu σ) (σ 0 3) (b2 (97 ≤ (pkc (mu σ) (σ 0 3) (skm (mu σ) (σ 0 3) 1000 (σ 0 4))) ∧ (pkc (mu σ) (σ 0 3) (skm (mu σ) (σ 0 3) 1000 (σ 0 4))) ≤ 122)) 1000 1 0 0 0 (skm (mu σ) (σ 0 3) 1000 (σ 0 4))).2.2.2.2 = zu (zu (zu (zu (zu (zu (zu (zu (zu σ 0 4 (skm (mu σ) (σ 0 3) 1000 (σ 0 4))) 0 12 (skm (mu σ) (σ 0 3) 1000 (σ 0 4))) 0 13 0) 0 17 0) 0 14 0) 0 17 (mtR (mu σ) (σ 0 3) (b2 (97 ≤ (pkc (mu σ) (σ 0 3) (skm (mu σ) (σ 0 3) 1000 (σ 0 4))) ∧ (pkc (mu σ) (σ 0 3) (skm (mu σ) (σ 0 3) 1000 (σ 0 4))) ≤ 122)) 1000 1 0 0 0 (skm (mu σ) (σ 0 3) 1000 (σ 0 4))).2.1) 0 14 (mtR (mu σ) (σ 0 3) (b2 (97 ≤ (pkc (mu σ) (σ 0 3) (skm (mu σ) (σ 0 3) 1000 (σ 0 4))) ∧ (pkc (mu σ) (σ 0 3) (skm (mu σ) (σ 0 3) 1000 (σ 0 4))) ≤ 122)) 1000 1 0 0 0 (skm (mu σ) (σ 0 3) 1000 (σ 0 4))).2.2.1) 0 13 (mtR (mu σ) (σ 0 3) (b2 (97 ≤ (pkc (mu σ) (σ 0 3) (skm (mu σ) (σ 0 3) 1000 (σ 0 4))) ∧ (pkc (mu σ) (σ 0 3) (skm (mu σ) (σ 0 3) 1000 (σ 0 4))) ≤ 122)) 1000 1 0 0 0 (skm (mu σ) (σ 0 3) 1000 (σ 0 4))).2.2.2.1) 0 4 (mtR (mu σ) (σ 0 3) (b2 (97 ≤ (pkc (mu σ) (σ 0 3) (skm (mu σ) (σ 0 3) 1000 (σ 0 4))) ∧ (pkc (mu σ) (σ 0 3) (skm (mu σ) (σ 0 3) 1000 (σ 0 4))) ≤ 122)) 1000 1 0 0 0 (skm (mu σ) (σ 0 3) 1000 (σ 0 4))).2.2.2.2 from rfl]
            refine zRx.aload_n 0 rfl rfl dX12_next_298 ?_
            refine zRx.iload_n 2 rfl rfl dX12_next_299 ?_
            refine zRx.if_eq (tgt := 320) dX12_next_300 (by decide) (fun c300 => ?_) (fun c300 => ?_)
            · refine zRx.iconst ⟨by decide, by decide⟩ dX12_next_320 ?_
              refine zRx.goto (tgt := 333) dX12_next_321 (by decide) ?_
              refine zRx.putI (a := 0) (ji := 11) pl_12_222 rfl rfl rfl dX12_next_333 ?_
              exact zR.ret rfl dX12_next_336 ⟨rfl, by unfold F_X12_next; rw [if_neg (Int.not_le.mpr c52), if_pos c63, if_pos c86, if_neg c99, if_pos c106, if_pos c300]⟩
            · refine zRx.aload_n 0 rfl rfl dX12_next_303 ?_
              refine zRx.getIv (a := 0) (ji := 13) (v := (mtR (mu σ) (σ 0 3) (b2 (97 ≤ (pkc (mu σ) (σ 0 3) (skm (mu σ) (σ 0 3) 1000 (σ 0 4))) ∧ (pkc (mu σ) (σ 0 3) (skm (mu σ) (σ 0 3) 1000 (σ 0 4))) ≤ 122)) 1000 1 0 0 0 (skm (mu σ) (σ 0 3) 1000 (σ 0 4))).2.2.2.1) ((zu_off _ _ _ (by decide)).trans (zu_at _ _ _ _)) fl_12_219 rfl rfl rfl dX12_next_304 ?_
              refine zRx.iload_n 1 rfl rfl dX12_next_307 ?_
              refine zRx.if_eqB (tgt := 316) dX12_next_308 (by decide) (fun c308 => ?_) (fun c308 => absurd c308 c99)
              refine zRx.iconst ⟨by decide, by decide⟩ dX12_next_316 ?_
              refine zRx.icmp_le (tgt := 324) dX12_next_317 (by decide) (fun c317 => ?_) (fun c317 => ?_)
              · refine zRx.iload_n 1 rfl rfl dX12_next_324 ?_
                refine zRx.if_eqB (tgt := 332) dX12_next_325 (by decide) (fun c325 => ?_) (fun c325 => absurd c325 c99)
                refine zRx.iconst ⟨by decide, by decide⟩ dX12_next_332 ?_
                refine zRx.putI (a := 0) (ji := 11) pl_12_222 rfl rfl rfl dX12_next_333 ?_
                exact zR.ret rfl dX12_next_336 ⟨rfl, by unfold F_X12_next; rw [if_neg (Int.not_le.mpr c52), if_pos c63, if_pos c86, if_neg c99, if_pos c106, if_neg c300, if_pos c317]⟩
              · refine zRx.iconst ⟨by decide, by decide⟩ dX12_next_320 ?_
                refine zRx.goto (tgt := 333) dX12_next_321 (by decide) ?_
                refine zRx.putI (a := 0) (ji := 11) pl_12_222 rfl rfl rfl dX12_next_333 ?_
                exact zR.ret rfl dX12_next_336 ⟨rfl, by unfold F_X12_next; rw [if_neg (Int.not_le.mpr c52), if_pos c63, if_pos c86, if_neg c99, if_pos c106, if_neg c300, if_neg (Int.not_le.mpr c317)]⟩
          · refine zRx.aload_n 0 rfl rfl dX12_next_109 ?_
            refine zRx.iload_n 1 rfl rfl dX12_next_110 ?_
            refine zRx.bipush ⟨by decide, by decide⟩ rfl dX12_next_111 ?_
            refine zRx.icmp_eq (tgt := 140) dX12_next_113 (by decide) (fun c113 => ?_) (fun c113 => ?_)
            · refine zRx.iconst ⟨by decide, by decide⟩ dX12_next_140 ?_
              refine zRx.goto (tgt := 145) dX12_next_141 (by decide) ?_
              refine zRx.putI (a := 0) (ji := 11) pl_12_222 rfl rfl rfl dX12_next_145 ?_
              refine zRx.aload_n 0 rfl rfl dX12_next_148 ?_
              refine zRx.iload_n 1 rfl rfl dX12_next_149 ?_
              refine zRx.putI (a := 0) (ji := 14) pl_12_232 rfl rfl rfl dX12_next_150 ?_
              refine zRx.aload_n 0 rfl rfl dX12_next_153 ?_
              refine zRx.dup rfl dX12_next_154 ?_
              refine zRx.getIv (a := 0) (ji := 4) (v := skm (mu σ) (σ 0 3) 1000 (σ 0 4)) ((zu_off _ _ _ (by decide)).trans ((zu_off _ _ _ (by decide)).trans ((zu_off _ _ _ (by decide)).trans ((zu_off _ _ _ (by decide)).trans (zu_at _ _ _ _))))) fl_12_21 rfl rfl rfl dX12_next_155 ?_
              refine zRx.iconst ⟨by decide, by decide⟩ dX12_next_158 ?_
              refine zRx.iadd ⟨by omega, by omega⟩ dX12_next_159 ?_
              refine zRx.putI (a := 0) (ji := 4) pl_12_21 rfl rfl rfl dX12_next_160 ?_
              exact zR.ret rfl dX12_next_163 ⟨rfl, by unfold F_X12_next; rw [if_neg (Int.not_le.mpr c52), if_pos c63, if_pos c86, if_neg c99, if_neg c106, if_pos c113]⟩
            · refine zRx.iload_n 1 rfl rfl dX12_next_116 ?_
              refine zRx.bipush ⟨by decide, by decide⟩ rfl dX12_next_117 ?_
              refine zRx.icmp_eq (tgt := 140) dX12_next_119 (by decide) (fun c119 => ?_) (fun c119 => ?_)
              · refine zRx.iconst ⟨by decide, by decide⟩ dX12_next_140 ?_
                refine zRx.goto (tgt := 145) dX12_next_141 (by decide) ?_
                refine zRx.putI (a := 0) (ji := 11) pl_12_222 rfl rfl rfl dX12_next_145 ?_
                refine zRx.aload_n 0 rfl rfl dX12_next_148 ?_
                refine zRx.iload_n 1 rfl rfl dX12_next_149 ?_
                refine zRx.putI (a := 0) (ji := 14) pl_12_232 rfl rfl rfl dX12_next_150 ?_
                refine zRx.aload_n 0 rfl rfl dX12_next_153 ?_
                refine zRx.dup rfl dX12_next_154 ?_
                refine zRx.getIv (a := 0) (ji := 4) (v := skm (mu σ) (σ 0 3) 1000 (σ 0 4)) ((zu_off _ _ _ (by decide)).trans ((zu_off _ _ _ (by decide)).trans ((zu_off _ _ _ (by decide)).trans ((zu_off _ _ _ (by decide)).trans (zu_at _ _ _ _))))) fl_12_21 rfl rfl rfl dX12_next_155 ?_
                refine zRx.iconst ⟨by decide, by decide⟩ dX12_next_158 ?_
                refine zRx.iadd ⟨by omega, by omega⟩ dX12_next_159 ?_
                refine zRx.putI (a := 0) (ji := 4) pl_12_21 rfl rfl rfl dX12_next_160 ?_
                exact zR.ret rfl dX12_next_163 ⟨rfl, by unfold F_X12_next; rw [if_neg (Int.not_le.mpr c52), if_pos c63, if_pos c86, if_neg c99, if_neg c106, if_neg c113, if_pos c119]⟩
              · refine zRx.iload_n 1 rfl rfl dX12_next_122 ?_
                refine zRx.bipush ⟨by decide, by decide⟩ rfl dX12_next_123 ?_
                refine zRx.icmp_eq (tgt := 140) dX12_next_125 (by decide) (fun c125 => ?_) (fun c125 => ?_)
                · refine zRx.iconst ⟨by decide, by decide⟩ dX12_next_140 ?_
                  refine zRx.goto (tgt := 145) dX12_next_141 (by decide) ?_
                  refine zRx.putI (a := 0) (ji := 11) pl_12_222 rfl rfl rfl dX12_next_145 ?_
                  refine zRx.aload_n 0 rfl rfl dX12_next_148 ?_
                  refine zRx.iload_n 1 rfl rfl dX12_next_149 ?_
                  refine zRx.putI (a := 0) (ji := 14) pl_12_232 rfl rfl rfl dX12_next_150 ?_
                  refine zRx.aload_n 0 rfl rfl dX12_next_153 ?_
                  refine zRx.dup rfl dX12_next_154 ?_
                  refine zRx.getIv (a := 0) (ji := 4) (v := skm (mu σ) (σ 0 3) 1000 (σ 0 4)) ((zu_off _ _ _ (by decide)).trans ((zu_off _ _ _ (by decide)).trans ((zu_off _ _ _ (by decide)).trans ((zu_off _ _ _ (by decide)).trans (zu_at _ _ _ _))))) fl_12_21 rfl rfl rfl dX12_next_155 ?_
                  refine zRx.iconst ⟨by decide, by decide⟩ dX12_next_158 ?_
                  refine zRx.iadd ⟨by omega, by omega⟩ dX12_next_159 ?_
                  refine zRx.putI (a := 0) (ji := 4) pl_12_21 rfl rfl rfl dX12_next_160 ?_
                  exact zR.ret rfl dX12_next_163 ⟨rfl, by unfold F_X12_next; rw [if_neg (Int.not_le.mpr c52), if_pos c63, if_pos c86, if_neg c99, if_neg c106, if_neg c113, if_neg c119, if_pos c125]⟩
                · refine zRx.iload_n 1 rfl rfl dX12_next_128 ?_
                  refine zRx.bipush ⟨by decide, by decide⟩ rfl dX12_next_129 ?_
                  refine zRx.icmp_lt (tgt := 144) dX12_next_131 (by decide) (fun c131 => ?_) (fun c131 => ?_)
                  · refine zRx.iconst ⟨by decide, by decide⟩ dX12_next_144 ?_
                    refine zRx.putI (a := 0) (ji := 11) pl_12_222 rfl rfl rfl dX12_next_145 ?_
                    refine zRx.aload_n 0 rfl rfl dX12_next_148 ?_
                    refine zRx.iload_n 1 rfl rfl dX12_next_149 ?_
                    refine zRx.putI (a := 0) (ji := 14) pl_12_232 rfl rfl rfl dX12_next_150 ?_
                    refine zRx.aload_n 0 rfl rfl dX12_next_153 ?_
                    refine zRx.dup rfl dX12_next_154 ?_
                    refine zRx.getIv (a := 0) (ji := 4) (v := skm (mu σ) (σ 0 3) 1000 (σ 0 4)) ((zu_off _ _ _ (by decide)).trans ((zu_off _ _ _ (by decide)).trans ((zu_off _ _ _ (by decide)).trans ((zu_off _ _ _ (by decide)).trans (zu_at _ _ _ _))))) fl_12_21 rfl rfl rfl dX12_next_155 ?_
                    refine zRx.iconst ⟨by decide, by decide⟩ dX12_next_158 ?_
                    refine zRx.iadd ⟨by omega, by omega⟩ dX12_next_159 ?_
                    refine zRx.putI (a := 0) (ji := 4) pl_12_21 rfl rfl rfl dX12_next_160 ?_
                    exact zR.ret rfl dX12_next_163 ⟨rfl, by unfold F_X12_next; rw [if_neg (Int.not_le.mpr c52), if_pos c63, if_pos c86, if_neg c99, if_neg c106, if_neg c113, if_neg c119, if_neg c125, if_pos c131]⟩
                  · refine zRx.iload_n 1 rfl rfl dX12_next_134 ?_
                    refine zRx.bipush ⟨by decide, by decide⟩ rfl dX12_next_135 ?_
                    refine zRx.icmp_gt (tgt := 144) dX12_next_137 (by decide) (fun c137 => ?_) (fun c137 => ?_)
                    · refine zRx.iconst ⟨by decide, by decide⟩ dX12_next_144 ?_
                      refine zRx.putI (a := 0) (ji := 11) pl_12_222 rfl rfl rfl dX12_next_145 ?_
                      refine zRx.aload_n 0 rfl rfl dX12_next_148 ?_
                      refine zRx.iload_n 1 rfl rfl dX12_next_149 ?_
                      refine zRx.putI (a := 0) (ji := 14) pl_12_232 rfl rfl rfl dX12_next_150 ?_
                      refine zRx.aload_n 0 rfl rfl dX12_next_153 ?_
                      refine zRx.dup rfl dX12_next_154 ?_
                      refine zRx.getIv (a := 0) (ji := 4) (v := skm (mu σ) (σ 0 3) 1000 (σ 0 4)) ((zu_off _ _ _ (by decide)).trans ((zu_off _ _ _ (by decide)).trans ((zu_off _ _ _ (by decide)).trans ((zu_off _ _ _ (by decide)).trans (zu_at _ _ _ _))))) fl_12_21 rfl rfl rfl dX12_next_155 ?_
                      refine zRx.iconst ⟨by decide, by decide⟩ dX12_next_158 ?_
                      refine zRx.iadd ⟨by omega, by omega⟩ dX12_next_159 ?_
                      refine zRx.putI (a := 0) (ji := 4) pl_12_21 rfl rfl rfl dX12_next_160 ?_
                      exact zR.ret rfl dX12_next_163 ⟨rfl, by unfold F_X12_next; rw [if_neg (Int.not_le.mpr c52), if_pos c63, if_pos c86, if_neg c99, if_neg c106, if_neg c113, if_neg c119, if_neg c125, if_neg (Int.not_lt.mpr c131), if_pos c137]⟩
                    · refine zRx.iconst ⟨by decide, by decide⟩ dX12_next_140 ?_
                      refine zRx.goto (tgt := 145) dX12_next_141 (by decide) ?_
                      refine zRx.putI (a := 0) (ji := 11) pl_12_222 rfl rfl rfl dX12_next_145 ?_
                      refine zRx.aload_n 0 rfl rfl dX12_next_148 ?_
                      refine zRx.iload_n 1 rfl rfl dX12_next_149 ?_
                      refine zRx.putI (a := 0) (ji := 14) pl_12_232 rfl rfl rfl dX12_next_150 ?_
                      refine zRx.aload_n 0 rfl rfl dX12_next_153 ?_
                      refine zRx.dup rfl dX12_next_154 ?_
                      refine zRx.getIv (a := 0) (ji := 4) (v := skm (mu σ) (σ 0 3) 1000 (σ 0 4)) ((zu_off _ _ _ (by decide)).trans ((zu_off _ _ _ (by decide)).trans ((zu_off _ _ _ (by decide)).trans ((zu_off _ _ _ (by decide)).trans (zu_at _ _ _ _))))) fl_12_21 rfl rfl rfl dX12_next_155 ?_
                      refine zRx.iconst ⟨by decide, by decide⟩ dX12_next_158 ?_
                      refine zRx.iadd ⟨by omega, by omega⟩ dX12_next_159 ?_
                      refine zRx.putI (a := 0) (ji := 4) pl_12_21 rfl rfl rfl dX12_next_160 ?_
                      exact zR.ret rfl dX12_next_163 ⟨rfl, by unfold F_X12_next; rw [if_neg (Int.not_le.mpr c52), if_pos c63, if_pos c86, if_neg c99, if_neg c106, if_neg c113, if_neg c119, if_neg c125, if_neg (Int.not_lt.mpr c131), if_neg (Int.not_lt.mpr c137)]⟩
      · refine zRx.aload_n 0 rfl rfl dX12_next_89 ?_
        refine zRx.iconst ⟨by decide, by decide⟩ dX12_next_90 ?_
        refine zRx.putI (a := 0) (ji := 11) pl_12_222 rfl rfl rfl dX12_next_91 ?_
        exact zR.ret rfl dX12_next_94 ⟨rfl, by unfold F_X12_next; rw [if_neg (Int.not_le.mpr c52), if_pos c63, if_neg (Int.not_le.mpr c86)]⟩
    · refine zRx.aload_n 0 rfl rfl dX12_next_66 ?_
      refine zRx.aload_n 0 rfl rfl dX12_next_67 ?_
      refine zRx.getIv (a := 0) (ji := 5) (v := σ 0 5) ((zu_off _ _ _ (by decide)).trans ((zu_off _ _ _ (by decide)).trans (zu_off _ _ _ (by decide)))) fl_12_24 rfl rfl rfl dX12_next_68 ?_
      refine zRx.putI (a := 0) (ji := 12) pl_12_216 rfl rfl rfl dX12_next_71 ?_
      refine zRx.aload_n 0 rfl rfl dX12_next_74 ?_
      refine zRx.iconst ⟨by decide, by decide⟩ dX12_next_75 ?_
      refine zRx.putI (a := 0) (ji := 11) pl_12_222 rfl rfl rfl dX12_next_76 ?_
      exact zR.ret rfl dX12_next_79 ⟨rfl, by unfold F_X12_next; rw [if_neg (Int.not_le.mpr c52), if_neg (Int.not_lt.mpr c63)]⟩

