/-! the reference: order -/
/-- whom the facts are about -/
def MB (s : Int → Int) : Prop := ∀ f : Int, 0 ≤ f → f < s 1 → 0 ≤ s ((8 + (3 * f)) + 2) ∧ s ((8 + (3 * f)) + 2) < 8
/-- the tellings: two people and a fact each -/
def TRI (s t : Int → Int) (q : Int) : Prop := ∀ k : Int, 0 ≤ k → k < q → 0 ≤ t k ∧ (k % 3 < 2 → t k < s 0) ∧ (¬ k % 3 < 2 → t k < s 1)
theorem TRI_put {s t : Int → Int} {q v : Int} (h : TRI s t q) (hv : 0 ≤ v ∧ (q % 3 < 2 → v < s 0) ∧ (¬ q % 3 < 2 → v < s 1)) : TRI s (fun i => if i = q then v else t i) (q + 1) := by
  intro k k0 k1
  by_cases e : k = q
  · subst e
    simp only [if_pos]
    exact hv
  · simp only [if_neg e]
    exact h k k0 (by omega)
theorem TRI_zu {σ : zG} {q v : Int} (h : TRI (σ 2) (σ 33) q) (hv : 0 ≤ v ∧ (q % 3 < 2 → v < σ 2 0) ∧ (¬ q % 3 < 2 → v < σ 2 1)) : TRI (zu σ 33 q v 2) (zu σ 33 q v 33) (q + 1) := by
  have e : zu σ 33 q v 33 = fun i => if i = q then v else σ 33 i := by funext i; exact zu_if _ _ _ _ _
  rw [e, zu_row _ _ _ (by decide)]
  exact TRI_put h hv
def TU (t : Int → Int) (nn lo : Int) : Prop := ∀ j : Int, lo < j → j < nn → 0 ≤ t j ∧ t j < nn
theorem TU_zu {σ : zG} {nn kk v : Int} (h : TU (σ 31) nn kk) (hv : 0 ≤ v ∧ v < nn) : TU (zu σ 31 kk v 31) nn (kk + (-1)) := by
  intro j j0 j1
  rw [zu_if]
  split
  · exact hv
  · exact h j (by omega) j1
theorem al_step {al nn q : Int} (hq : 0 ≤ q ∧ q < nn) (hn : nn ≤ 5) (ha : 1 ≤ al ∧ al ≤ 5 ^ q.toNat) : 1 ≤ al * nn ∧ al * nn ≤ 5 ^ (q + 1).toNat := by
  rcases (show q = 0 ∨ q = 1 ∨ q = 2 ∨ q = 3 ∨ q = 4 by omega) with rfl | rfl | rfl | rfl | rfl <;> rcases (show nn = 1 ∨ nn = 2 ∨ nn = 3 ∨ nn = 4 ∨ nn = 5 by omega) with rfl | rfl | rfl | rfl | rfl <;> simp at ha hq ⊢ <;> omega
theorem al_top {al q : Int} (hq : 0 ≤ q ∧ q ≤ 5) (ha : al ≤ 5 ^ q.toNat) : al ≤ 3125 := by
  rcases (show q = 0 ∨ q = 1 ∨ q = 2 ∨ q = 3 ∨ q = 4 ∨ q = 5 by omega) with rfl | rfl | rfl | rfl | rfl | rfl <;> simp at ha <;> omega

theorem MW_of {σ τ : zG} (e : τ 2 = σ 2) (h : MW (σ 2)) : MW (τ 2) := by rw [e]; exact h
theorem MB_of {σ τ : zG} (e : τ 2 = σ 2) (h : MB (σ 2)) : MB (τ 2) := by rw [e]; exact h
theorem TRI_of {σ τ : zG} {q : Int} (e : τ 2 = σ 2) (e2 : τ 33 = σ 33) (h : TRI (σ 2) (σ 33) q) : TRI (τ 2) (τ 33) q := by rw [e, e2]; exact h
theorem TU_of {σ τ : zG} {a b : Int} (e : τ 31 = σ 31) (h : TU (σ 31) a b) : TU (τ 31) a b := by rw [e]; exact h

def S_X12_order_144  (nn : Int) : Nat → Int → Int → zG → Int × Int × zG
  | 0, al, q, σ => (al, q, σ)
  | n + 1, al, q, σ => if nn ≤ q then (al, q, σ) else (S_X12_order_144  nn n (al * nn) (q + 1) σ)
theorem fr_S_X12_order_144  (nn : Int)  (n : Nat) (al q : Int) (σ : zG) {k : Nat} (h : k ∉ []) : (S_X12_order_144  nn n al q σ).2.2 k = σ k := by
  induction n generalizing al q σ with
  | zero => rfl
  | succ n ih =>
    have ne : ∀ c ∈ [], k ≠ c := fun c hc e => h (e ▸ hc)
    rw [S_X12_order_144]
    repeat' split
    all_goals first | rfl | simp only [ih]

set_option maxRecDepth 20000 in
theorem seg_X12_order_144   (nn : Int) : ∀ (n : Nat) (al q : Int) (σ : zG) (X : zX), 0 ≤ q ∧ q ≤ nn → 1 ≤ nn ∧ nn ≤ 5 → 1 ≤ al ∧ al ≤ 5 ^ q.toNat → (nn - q).toNat < n → ((0 ≤ ((S_X12_order_144  nn n al q σ).2.1) ∧ ((S_X12_order_144  nn n al q σ).2.1) ≤ nn) → (1 ≤ nn ∧ nn ≤ 5) → (1 ≤ ((S_X12_order_144  nn n al q σ).1) ∧ ((S_X12_order_144  nn n al q σ).1) ≤ 5 ^ ((S_X12_order_144  nn n al q σ).2.1).toNat) → zRx none 6 m_X12_order SM 159 [(0, zP 0), (1, .inl nn), (2, .inl ((S_X12_order_144  nn n al q σ).1)), (3, .inl ((S_X12_order_144  nn n al q σ).2.1))] [] ((S_X12_order_144  nn n al q σ).2.2) X) → zRx none 6 m_X12_order SM 144 [(0, zP 0), (1, .inl nn), (2, .inl al), (3, .inl q)] [] σ X := by
  intro n
  induction n with
  | zero => intro al q σ X h0 hn ha hmz; exact absurd hmz (Nat.not_lt_zero _)
  | succ n ih =>
    intro al q σ X h0 hn ha hmz K
    refine zRx.iload_n 3 rfl rfl dX12_order_144 ?_
    refine zRx.iload_n 1 rfl rfl dX12_order_145 ?_
    refine zRx.icmp_ge (tgt := 159) dX12_order_146 (by decide) (fun c146 => ?_) (fun c146 => ?_)
    · have he : S_X12_order_144  nn (n + 1) al q σ = (al, q, σ) := by rw [S_X12_order_144, if_pos c146]
      rw [he] at K
      exact K h0 hn ha
    · have hal := al_step (by omega) hn.2 ha
      have hal2 := al_top (q := q + 1) (by omega) hal.2
      refine zRx.iload_n 2 rfl rfl dX12_order_149 ?_
      refine zRx.iload_n 1 rfl rfl dX12_order_150 ?_
      refine zRx.imul ⟨by omega, by omega⟩ dX12_order_151 ?_
      refine zRx.istore_n (ls' := [(0, zP 0), (1, .inl nn), (2, .inl (al * nn)), (3, .inl q)]) rfl rfl (by decide) dX12_order_152 ?_
      refine zRx.iinc (n := 1) (ls' := [(0, zP 0), (1, .inl nn), (2, .inl (al * nn)), (3, .inl (q + 1))]) 3 rfl ⟨by omega, by omega⟩ rfl (by decide) dX12_order_153 ?_
      refine zRx.goto (tgt := 144) dX12_order_156 (by decide) ?_
      have he : S_X12_order_144  nn (n + 1) al q σ = S_X12_order_144  nn n (al * nn) (q + 1) σ := by rw [S_X12_order_144, if_neg (Int.not_le.mpr c146)]
      rw [he] at K
      exact ih (al * nn) (q + 1) σ _ (by omega) hn (al_step (by omega) hn.2 ha) (by omega) K
def S_X12_order_189  (nn : Int) : Nat → Int → Int → Int → zG → Int × Int × Int × zG
  | 0, lf, st, kk, σ => (lf, st, kk, σ)
  | n + 1, lf, st, kk, σ => if kk < 0 then (lf, st, kk, σ) else (S_X12_order_189  nn n (lf / nn) (bor st (bshl 1 (lf % nn))) (kk + (-1)) (zu σ 31 kk (lf % nn)))
theorem fr_S_X12_order_189  (nn : Int)  (n : Nat) (lf st kk : Int) (σ : zG) {k : Nat} (h : k ∉ [31]) : (S_X12_order_189  nn n lf st kk σ).2.2.2 k = σ k := by
  induction n generalizing lf st kk σ with
  | zero => rfl
  | succ n ih =>
    have ne : ∀ c ∈ [31], k ≠ c := fun c hc e => h (e ▸ hc)
    rw [S_X12_order_189]
    repeat' split
    all_goals first | rfl | simp only [zu_row _ _ _ (ne 31 (by decide)), ih]

set_option maxRecDepth 20000 in
theorem seg_X12_order_189   (al be bw cc nn : Int) : ∀ (n : Nat) (lf st kk : Int) (σ : zG) (X : zX), -1 ≤ kk ∧ kk < nn ∧ 0 ≤ lf → 1 ≤ nn ∧ nn ≤ 5 → TU (σ 31) nn kk → MW (σ 2) → MB (σ 2) → 0 ≤ σ 2 1 ∧ σ 2 1 ≤ 12 → 0 ≤ σ 2 0 ∧ σ 2 0 ≤ 8 → (kk + 1).toNat < n → ((-1 ≤ ((S_X12_order_189  nn n lf st kk σ).2.2.1) ∧ ((S_X12_order_189  nn n lf st kk σ).2.2.1) < nn ∧ 0 ≤ ((S_X12_order_189  nn n lf st kk σ).1)) → (1 ≤ nn ∧ nn ≤ 5) → (TU (((S_X12_order_189  nn n lf st kk σ).2.2.2) 31) nn ((S_X12_order_189  nn n lf st kk σ).2.2.1)) → (MW (((S_X12_order_189  nn n lf st kk σ).2.2.2) 2)) → (MB (((S_X12_order_189  nn n lf st kk σ).2.2.2) 2)) → (0 ≤ ((S_X12_order_189  nn n lf st kk σ).2.2.2) 2 1 ∧ ((S_X12_order_189  nn n lf st kk σ).2.2.2) 2 1 ≤ 12) → (0 ≤ ((S_X12_order_189  nn n lf st kk σ).2.2.2) 2 0 ∧ ((S_X12_order_189  nn n lf st kk σ).2.2.2) 2 0 ≤ 8) → (TU (((S_X12_order_189  nn n lf st kk σ).2.2.2) 31) nn (-1)) → zRx none 6 m_X12_order SM 231 [(0, zP 0), (1, .inl nn), (2, .inl al), (3, .inl be), (4, .inl bw), (5, .inl cc), (6, .inl ((S_X12_order_189  nn n lf st kk σ).1)), (7, .inl ((S_X12_order_189  nn n lf st kk σ).2.1)), (8, .inl ((S_X12_order_189  nn n lf st kk σ).2.2.1))] [] ((S_X12_order_189  nn n lf st kk σ).2.2.2) X) → zRx none 6 m_X12_order SM 189 [(0, zP 0), (1, .inl nn), (2, .inl al), (3, .inl be), (4, .inl bw), (5, .inl cc), (6, .inl lf), (7, .inl st), (8, .inl kk)] [] σ X := by
  intro n
  induction n with
  | zero => intro lf st kk σ X h0 hn hT hW hB hF hp hmz; exact absurd hmz (Nat.not_lt_zero _)
  | succ n ih =>
    intro lf st kk σ X h0 hn hT hW hB hF hp hmz K
    refine zRx.iload 8 rfl dX12_order_189 ?_
    refine zRx.if_lt (tgt := 231) dX12_order_191 (by decide) (fun c191 => ?_) (fun c191 => ?_)
    · have he : S_X12_order_189  nn (n + 1) lf st kk σ = (lf, st, kk, σ) := by rw [S_X12_order_189, if_pos c191]
      rw [he] at K
      exact K h0 hn hT hW hB hF hp (fun j j0 j1 => hT j (by omega) j1)
    · refine zRx.aload_n 0 rfl rfl dX12_order_194 ?_
      refine zRx.getR (a := 0) (b := 31) fl_12_123 rfl rfl dX12_order_195 ?_
      refine zRx.iload 8 rfl dX12_order_198 ?_
      refine zRx.iload 6 rfl dX12_order_200 ?_
      refine zRx.iload_n 1 rfl rfl dX12_order_202 ?_
      refine zRx.irem (by omega) (by omega) dX12_order_203 ?_
      refine zRx.iast rfl (by omega) (by omega) dX12_order_204 ?_
      refine zRx.iload 7 rfl dX12_order_205 ?_
      refine zRx.iconst ⟨by decide, by decide⟩ dX12_order_207 ?_
      refine zRx.aload_n 0 rfl rfl dX12_order_208 ?_
      refine zRx.getR (a := 0) (b := 31) fl_12_123 rfl rfl dX12_order_209 ?_
      refine zRx.iload 8 rfl dX12_order_212 ?_
      refine zRx.ialdv (v := lf % nn) (zu_at _ _ _ _) rfl (by omega) (by omega) dX12_order_214 ?_
      refine zRx.ishl dX12_order_215 ?_
      refine zRx.ior dX12_order_216 ?_
      refine zRx.istore (ls' := [(0, zP 0), (1, .inl nn), (2, .inl al), (3, .inl be), (4, .inl bw), (5, .inl cc), (6, .inl lf), (7, .inl (bor st (bshl 1 (lf % nn)))), (8, .inl kk)]) rfl (by decide) dX12_order_217 ?_
      refine zRx.iload 6 rfl dX12_order_219 ?_
      refine zRx.iload_n 1 rfl rfl dX12_order_221 ?_
      refine zRx.idiv (by omega) (by omega) dX12_order_222 ?_
      refine zRx.istore (ls' := [(0, zP 0), (1, .inl nn), (2, .inl al), (3, .inl be), (4, .inl bw), (5, .inl cc), (6, .inl (lf / nn)), (7, .inl (bor st (bshl 1 (lf % nn)))), (8, .inl kk)]) rfl (by decide) dX12_order_223 ?_
      refine zRx.iinc (n := -1) (ls' := [(0, zP 0), (1, .inl nn), (2, .inl al), (3, .inl be), (4, .inl bw), (5, .inl cc), (6, .inl (lf / nn)), (7, .inl (bor st (bshl 1 (lf % nn)))), (8, .inl (kk + (-1)))]) 8 rfl ⟨by omega, by omega⟩ rfl (by decide) dX12_order_225 ?_
      refine zRx.goto (tgt := 189) dX12_order_228 (by decide) ?_
      have he : S_X12_order_189  nn (n + 1) lf st kk σ = S_X12_order_189  nn n (lf / nn) (bor st (bshl 1 (lf % nn))) (kk + (-1)) (zu σ 31 kk (lf % nn)) := by rw [S_X12_order_189, if_neg (Int.not_lt.mpr c191)]
      rw [he] at K
      exact ih (lf / nn) (bor st (bshl 1 (lf % nn))) (kk + (-1)) (zu σ 31 kk (lf % nn)) _ (by have h9 : 0 ≤ lf / nn := Int.ediv_nonneg h0.2.2 (by omega); omega) hn (TU_zu hT ⟨Int.emod_nonneg _ (by omega), Int.emod_lt_of_pos _ (by omega)⟩) (MW_of (zu_row _ _ _ (by decide)) hW) (MB_of (zu_row _ _ _ (by decide)) hB) (by have e9 : (zu σ 31 kk (lf % nn)) 2 1 = σ 2 1 := (zu_ne _ _ _ _ (by decide)); omega) (by have e9 : (zu σ 31 kk (lf % nn)) 2 0 = σ 2 0 := (zu_ne _ _ _ _ (by decide)); omega) (by omega) K
def S_X12_order_255  (nn : Int) : Nat → Int → Int → zG → Int × Int × zG
  | 0, wr, q, σ => (wr, q, σ)
  | n + 1, wr, q, σ => if nn ≤ q then (wr, q, σ) else (if (R_X12_whyOf σ 3 (σ 33 (3 * (σ 31 q))) (σ 33 ((3 * (σ 31 q)) + 1)) (σ 33 ((3 * (σ 31 q)) + 2)) 0) ≤ 0 then (S_X12_order_255  nn n wr (q + 1) (R_X12_tells σ (σ 33 (3 * (σ 31 q))) (σ 33 ((3 * (σ 31 q)) + 1)) (σ 33 ((3 * (σ 31 q)) + 2)) 60)) else (S_X12_order_255  nn n (wr + 1) (q + 1) σ))
theorem fr_S_X12_order_255  (nn : Int)  (n : Nat) (wr q : Int) (σ : zG) {k : Nat} (h : k ∉ [0, 11, 12, 13, 20, 22, 23, 25]) : (S_X12_order_255  nn n wr q σ).2.2 k = σ k := by
  induction n generalizing wr q σ with
  | zero => rfl
  | succ n ih =>
    have ne : ∀ c ∈ [0, 11, 12, 13, 20, 22, 23, 25], k ≠ c := fun c hc e => h (e ▸ hc)
    have nk_R_X12_tells : k ∉ [0, 11, 12, 13, 20, 22, 23, 25] := fun hm => h (by first | (revert hm; simp only [List.mem_cons, List.not_mem_nil, or_false]; omega) | (simp at hm))
    rw [S_X12_order_255]
    repeat' split
    all_goals first | rfl | simp only [zu_row _ _ _ (ne 0 (by decide)), zu_row _ _ _ (ne 11 (by decide)), zu_row _ _ _ (ne 12 (by decide)), zu_row _ _ _ (ne 13 (by decide)), zu_row _ _ _ (ne 20 (by decide)), zu_row _ _ _ (ne 22 (by decide)), zu_row _ _ _ (ne 23 (by decide)), zu_row _ _ _ (ne 25 (by decide)), fr_R_X12_tells (h := nk_R_X12_tells), ih]

set_option maxRecDepth 20000 in
theorem seg_X12_order_255   (al be bw cc nn : Int) : ∀ (n : Nat) (wr q : Int) (σ : zG) (X : zX), 0 ≤ q ∧ 0 ≤ wr ∧ wr ≤ q ∧ q ≤ nn → 1 ≤ nn ∧ nn ≤ 5 → TU (σ 31) nn (-1) → TRI (σ 2) (σ 33) (3 * nn) → MW (σ 2) → MB (σ 2) → 0 ≤ σ 2 1 ∧ σ 2 1 ≤ 12 → 0 ≤ σ 2 0 ∧ σ 2 0 ≤ 8 → σ 0 43 ≤ 420 → MK σ → (nn - q).toNat < n → ((0 ≤ ((S_X12_order_255  nn n wr q σ).2.1) ∧ 0 ≤ ((S_X12_order_255  nn n wr q σ).1) ∧ ((S_X12_order_255  nn n wr q σ).1) ≤ ((S_X12_order_255  nn n wr q σ).2.1) ∧ ((S_X12_order_255  nn n wr q σ).2.1) ≤ nn) → (1 ≤ nn ∧ nn ≤ 5) → (TU (((S_X12_order_255  nn n wr q σ).2.2) 31) nn (-1)) → (TRI (((S_X12_order_255  nn n wr q σ).2.2) 2) (((S_X12_order_255  nn n wr q σ).2.2) 33) (3 * nn)) → (MW (((S_X12_order_255  nn n wr q σ).2.2) 2)) → (MB (((S_X12_order_255  nn n wr q σ).2.2) 2)) → (0 ≤ ((S_X12_order_255  nn n wr q σ).2.2) 2 1 ∧ ((S_X12_order_255  nn n wr q σ).2.2) 2 1 ≤ 12) → (0 ≤ ((S_X12_order_255  nn n wr q σ).2.2) 2 0 ∧ ((S_X12_order_255  nn n wr q σ).2.2) 2 0 ≤ 8) → (((S_X12_order_255  nn n wr q σ).2.2) 0 43 ≤ 420) → (MK ((S_X12_order_255  nn n wr q σ).2.2)) → zRx none 6 m_X12_order SM 349 [(0, zP 0), (1, .inl nn), (2, .inl al), (3, .inl be), (4, .inl bw), (5, .inl cc), (8, .inl ((S_X12_order_255  nn n wr q σ).1)), (9, .inl ((S_X12_order_255  nn n wr q σ).2.1))] [] ((S_X12_order_255  nn n wr q σ).2.2) X) → zRx none 6 m_X12_order SM 255 [(0, zP 0), (1, .inl nn), (2, .inl al), (3, .inl be), (4, .inl bw), (5, .inl cc), (8, .inl wr), (9, .inl q)] [] σ X := by
  intro n
  induction n with
  | zero => intro wr q σ X h0 hn hU hR hW hB hF hp hm hK hmz; exact absurd hmz (Nat.not_lt_zero _)
  | succ n ih =>
    intro wr q σ X h0 hn hU hR hW hB hF hp hm hK hmz K
    refine zRx.iload 7 rfl dX12_order_255 ?_
    refine zRx.iload_n 1 rfl rfl dX12_order_257 ?_
    refine zRx.icmp_ge (tgt := 349) dX12_order_258 (by decide) (fun c258 => ?_) (fun c258 => ?_)
    · have he : S_X12_order_255  nn (n + 1) wr q σ = (wr, q, σ) := by rw [S_X12_order_255, if_pos c258]
      rw [he] at K
      exact K h0 hn hU hR hW hB hF hp hm hK
    · have hu := hU q (by omega) (by omega)
      refine zRx.iconst ⟨by decide, by decide⟩ dX12_order_261 ?_
      refine zRx.aload_n 0 rfl rfl dX12_order_262 ?_
      refine zRx.getR (a := 0) (b := 31) fl_12_123 rfl rfl dX12_order_263 ?_
      refine zRx.iload 7 rfl dX12_order_266 ?_
      refine zRx.ialdv (v := σ 31 q) rfl rfl (by omega) (by omega) dX12_order_268 ?_
      refine zRx.imul ⟨by omega, by omega⟩ dX12_order_269 ?_
      refine zRx.istore (ls' := [(0, zP 0), (1, .inl nn), (2, .inl al), (3, .inl be), (4, .inl bw), (5, .inl cc), (8, .inl wr), (9, .inl q), (10, .inl (3 * (σ 31 q)))]) rfl (by decide) dX12_order_270 ?_
      have r0 := hR (3 * (σ 31 q)) (by omega) (by omega)
      have r1 := hR ((3 * (σ 31 q)) + 1) (by omega) (by omega)
      have r2 := hR ((3 * (σ 31 q)) + 2) (by omega) (by omega)
      have q0 := r0.2.1 (by omega)
      have q1 := r1.2.1 (by omega)
      have q2 := r2.2.2 (by omega)
      refine zRx.aload_n 0 rfl rfl dX12_order_272 ?_
      refine zRx.iconst ⟨by decide, by decide⟩ dX12_order_273 ?_
      refine zRx.aload_n 0 rfl rfl dX12_order_274 ?_
      refine zRx.getR (a := 0) (b := 33) fl_12_129 rfl rfl dX12_order_275 ?_
      refine zRx.iload 8 rfl dX12_order_278 ?_
      refine zRx.ialdv (v := σ 33 (3 * (σ 31 q))) rfl rfl (by omega) (by omega) dX12_order_280 ?_
      refine zRx.aload_n 0 rfl rfl dX12_order_281 ?_
      refine zRx.getR (a := 0) (b := 33) fl_12_129 rfl rfl dX12_order_282 ?_
      refine zRx.iload 8 rfl dX12_order_285 ?_
      refine zRx.iconst ⟨by decide, by decide⟩ dX12_order_287 ?_
      refine zRx.iadd ⟨by omega, by omega⟩ dX12_order_288 ?_
      refine zRx.ialdv (v := σ 33 ((3 * (σ 31 q)) + 1)) rfl rfl (by omega) (by omega) dX12_order_289 ?_
      refine zRx.aload_n 0 rfl rfl dX12_order_290 ?_
      refine zRx.getR (a := 0) (b := 33) fl_12_129 rfl rfl dX12_order_291 ?_
      refine zRx.iload 8 rfl dX12_order_294 ?_
      refine zRx.iconst ⟨by decide, by decide⟩ dX12_order_296 ?_
      refine zRx.iadd ⟨by omega, by omega⟩ dX12_order_297 ?_
      refine zRx.ialdv (v := σ 33 ((3 * (σ 31 q)) + 2)) rfl rfl (by omega) (by omega) dX12_order_298 ?_
      refine zRx.iconst ⟨by decide, by decide⟩ dX12_order_299 ?_
      refine zRx.cVi (w := .inl (R_X12_whyOf σ 3 (σ 33 (3 * (σ 31 q))) (σ 33 ((3 * (σ 31 q)) + 1)) (σ 33 ((3 * (σ 31 q)) + 2)) 0)) (M := m_X12_whyOf) (av := [.inl 3, .inl (σ 33 (3 * (σ 31 q))), .inl (σ 33 ((3 * (σ 31 q)) + 1)), .inl (σ 33 ((3 * (σ 31 q)) + 2)), .inl 0]) cv_12_379 mk_X12_whyOf (by decide) (b := 0) rfl rfl (Nat.le_of_ble_eq_true rfl) dX12_order_300 (does_X12_whyOf σ 3 (σ 33 (3 * (σ 31 q))) (σ 33 ((3 * (σ 31 q)) + 1)) (σ 33 ((3 * (σ 31 q)) + 2)) 0 (by omega) (by omega)) ?_
      refine zRx.if_le (tgt := 312) dX12_order_303 (by decide) (fun c303 => ?_) (fun c303 => ?_)
      · refine zRx.aload_n 0 rfl rfl dX12_order_312 ?_
        refine zRx.aload_n 0 rfl rfl dX12_order_313 ?_
        refine zRx.getR (a := 0) (b := 33) fl_12_129 rfl rfl dX12_order_314 ?_
        refine zRx.iload 8 rfl dX12_order_317 ?_
        refine zRx.ialdv (v := σ 33 (3 * (σ 31 q))) rfl rfl (by omega) (by omega) dX12_order_319 ?_
        refine zRx.aload_n 0 rfl rfl dX12_order_320 ?_
        refine zRx.getR (a := 0) (b := 33) fl_12_129 rfl rfl dX12_order_321 ?_
        refine zRx.iload 8 rfl dX12_order_324 ?_
        refine zRx.iconst ⟨by decide, by decide⟩ dX12_order_326 ?_
        refine zRx.iadd ⟨by omega, by omega⟩ dX12_order_327 ?_
        refine zRx.ialdv (v := σ 33 ((3 * (σ 31 q)) + 1)) rfl rfl (by omega) (by omega) dX12_order_328 ?_
        refine zRx.aload_n 0 rfl rfl dX12_order_329 ?_
        refine zRx.getR (a := 0) (b := 33) fl_12_129 rfl rfl dX12_order_330 ?_
        refine zRx.iload 8 rfl dX12_order_333 ?_
        refine zRx.iconst ⟨by decide, by decide⟩ dX12_order_335 ?_
        refine zRx.iadd ⟨by omega, by omega⟩ dX12_order_336 ?_
        refine zRx.ialdv (v := σ 33 ((3 * (σ 31 q)) + 2)) rfl rfl (by omega) (by omega) dX12_order_337 ?_
        refine zRx.bipush ⟨by decide, by decide⟩ rfl dX12_order_338 ?_
        refine zRx.cVv (M := m_X12_tells) (av := [.inl (σ 33 (3 * (σ 31 q))), .inl (σ 33 ((3 * (σ 31 q)) + 1)), .inl (σ 33 ((3 * (σ 31 q)) + 2)), .inl 60]) cv_12_387 mk_X12_tells (by decide) (b := 0) rfl rfl (Nat.le_of_ble_eq_true rfl) dX12_order_340 (does_X12_tells σ (σ 33 (3 * (σ 31 q))) (σ 33 ((3 * (σ 31 q)) + 1)) (σ 33 ((3 * (σ 31 q)) + 2)) 60 (by omega) (by omega) hW.1 (hK _ (by omega) (by omega)) hm hW.2.2.1 (hB _ (by omega) (by omega))) ?_
        refine zRx.iinc (n := 1) (ls' := [(0, zP 0), (1, .inl nn), (2, .inl al), (3, .inl be), (4, .inl bw), (5, .inl cc), (8, .inl wr), (9, .inl (q + 1)), (10, .inl (3 * (σ 31 q)))]) 7 rfl ⟨by omega, by omega⟩ rfl (by decide) dX12_order_343 ?_
        refine zRx.goto (tgt := 255) dX12_order_346 (by decide) ?_
        refine zRx.pick [0, 1, 2, 3, 4, 5, 6, 7] (ls' := [(0, zP 0), (1, .inl nn), (2, .inl al), (3, .inl be), (4, .inl bw), (5, .inl cc), (8, .inl wr), (9, .inl (q + 1))]) rfl ?_
        have he : S_X12_order_255  nn (n + 1) wr q σ = S_X12_order_255  nn n wr (q + 1) (R_X12_tells σ (σ 33 (3 * (σ 31 q))) (σ 33 ((3 * (σ 31 q)) + 1)) (σ 33 ((3 * (σ 31 q)) + 2)) 60) := by rw [S_X12_order_255, if_neg (Int.not_le.mpr c258), if_pos c303]
        rw [he] at K
        exact ih wr (q + 1) (R_X12_tells σ (σ 33 (3 * (σ 31 q))) (σ 33 ((3 * (σ 31 q)) + 1)) (σ 33 ((3 * (σ 31 q)) + 2)) 60) _ (by omega) hn (TU_of (fr_R_X12_tells σ (σ 33 (3 * (σ 31 q))) (σ 33 ((3 * (σ 31 q)) + 1)) (σ 33 ((3 * (σ 31 q)) + 2)) 60 (k := 31) (by decide)) hU) (TRI_of (fr_R_X12_tells σ (σ 33 (3 * (σ 31 q))) (σ 33 ((3 * (σ 31 q)) + 1)) (σ 33 ((3 * (σ 31 q)) + 2)) 60 (k := 2) (by decide)) (fr_R_X12_tells σ (σ 33 (3 * (σ 31 q))) (σ 33 ((3 * (σ 31 q)) + 1)) (σ 33 ((3 * (σ 31 q)) + 2)) 60 (k := 33) (by decide)) hR) (MW_of (fr_R_X12_tells σ (σ 33 (3 * (σ 31 q))) (σ 33 ((3 * (σ 31 q)) + 1)) (σ 33 ((3 * (σ 31 q)) + 2)) 60 (k := 2) (by decide)) hW) (MB_of (fr_R_X12_tells σ (σ 33 (3 * (σ 31 q))) (σ 33 ((3 * (σ 31 q)) + 1)) (σ 33 ((3 * (σ 31 q)) + 2)) 60 (k := 2) (by decide)) hB) (by have e9 : (R_X12_tells σ (σ 33 (3 * (σ 31 q))) (σ 33 ((3 * (σ 31 q)) + 1)) (σ 33 ((3 * (σ 31 q)) + 2)) 60) 2 1 = σ 2 1 := (congrFun (fr_R_X12_tells σ (σ 33 (3 * (σ 31 q))) (σ 33 ((3 * (σ 31 q)) + 1)) (σ 33 ((3 * (σ 31 q)) + 2)) 60 (k := 2) (by decide)) _); omega) (by have e9 : (R_X12_tells σ (σ 33 (3 * (σ 31 q))) (σ 33 ((3 * (σ 31 q)) + 1)) (σ 33 ((3 * (σ 31 q)) + 2)) 60) 2 0 = σ 2 0 := (congrFun (fr_R_X12_tells σ (σ 33 (3 * (σ 31 q))) (σ 33 ((3 * (σ 31 q)) + 1)) (σ 33 ((3 * (σ 31 q)) + 2)) 60 (k := 2) (by decide)) _); omega) (by rw [tells_m]; exact hm) (tells_K _ _ _ _ _ hW.1 (by omega) (by omega) hK) (by omega) K
      · refine zRx.iinc (n := 1) (ls' := [(0, zP 0), (1, .inl nn), (2, .inl al), (3, .inl be), (4, .inl bw), (5, .inl cc), (8, .inl (wr + 1)), (9, .inl q), (10, .inl (3 * (σ 31 q)))]) 6 rfl ⟨by omega, by omega⟩ rfl (by decide) dX12_order_306 ?_
        refine zRx.goto (tgt := 343) dX12_order_309 (by decide) ?_
        refine zRx.iinc (n := 1) (ls' := [(0, zP 0), (1, .inl nn), (2, .inl al), (3, .inl be), (4, .inl bw), (5, .inl cc), (8, .inl (wr + 1)), (9, .inl (q + 1)), (10, .inl (3 * (σ 31 q)))]) 7 rfl ⟨by omega, by omega⟩ rfl (by decide) dX12_order_343 ?_
        refine zRx.goto (tgt := 255) dX12_order_346 (by decide) ?_
        refine zRx.pick [0, 1, 2, 3, 4, 5, 6, 7] (ls' := [(0, zP 0), (1, .inl nn), (2, .inl al), (3, .inl be), (4, .inl bw), (5, .inl cc), (8, .inl (wr + 1)), (9, .inl (q + 1))]) rfl ?_
        have he : S_X12_order_255  nn (n + 1) wr q σ = S_X12_order_255  nn n (wr + 1) (q + 1) σ := by rw [S_X12_order_255, if_neg (Int.not_le.mpr c258), if_neg (Int.not_le.mpr c303)]
        rw [he] at K
        exact ih (wr + 1) (q + 1) σ _ (by omega) hn hU hR hW hB (by omega) (by omega) hm hK (by omega) K
def S_X12_order_387  (nn : Int) : Nat → Int → zG → Int × zG
  | 0, q, σ => (q, σ)
  | n + 1, q, σ => if nn ≤ q then (q, σ) else (S_X12_order_387  nn n (q + 1) (zu σ 32 q (σ 31 q)))
theorem fr_S_X12_order_387  (nn : Int)  (n : Nat) (q : Int) (σ : zG) {k : Nat} (h : k ∉ [32]) : (S_X12_order_387  nn n q σ).2 k = σ k := by
  induction n generalizing q σ with
  | zero => rfl
  | succ n ih =>
    have ne : ∀ c ∈ [32], k ≠ c := fun c hc e => h (e ▸ hc)
    rw [S_X12_order_387]
    repeat' split
    all_goals first | rfl | simp only [zu_row _ _ _ (ne 32 (by decide)), ih]

set_option maxRecDepth 20000 in
theorem seg_X12_order_387   (al be bw cc nn : Int) : ∀ (n : Nat) (q : Int) (σ : zG) (X : zX), 0 ≤ q → 1 ≤ nn ∧ nn ≤ 5 → (nn - q).toNat < n → ((0 ≤ ((S_X12_order_387  nn n q σ).1)) → (1 ≤ nn ∧ nn ≤ 5) → zRx none 6 m_X12_order SM 413 [(0, zP 0), (1, .inl nn), (2, .inl al), (3, .inl be), (4, .inl bw), (5, .inl cc), (10, .inl ((S_X12_order_387  nn n q σ).1))] [] ((S_X12_order_387  nn n q σ).2) X) → zRx none 6 m_X12_order SM 387 [(0, zP 0), (1, .inl nn), (2, .inl al), (3, .inl be), (4, .inl bw), (5, .inl cc), (10, .inl q)] [] σ X := by
  intro n
  induction n with
  | zero => intro q σ X h0 hn hmz; exact absurd hmz (Nat.not_lt_zero _)
  | succ n ih =>
    intro q σ X h0 hn hmz K
    refine zRx.iload 6 rfl dX12_order_387 ?_
    refine zRx.iload_n 1 rfl rfl dX12_order_389 ?_
    refine zRx.icmp_ge (tgt := 413) dX12_order_390 (by decide) (fun c390 => ?_) (fun c390 => ?_)
    · have he : S_X12_order_387  nn (n + 1) q σ = (q, σ) := by rw [S_X12_order_387, if_pos c390]
      rw [he] at K
      exact K h0 hn
    · refine zRx.aload_n 0 rfl rfl dX12_order_393 ?_
      refine zRx.getR (a := 0) (b := 32) fl_12_126 rfl rfl dX12_order_394 ?_
      refine zRx.iload 6 rfl dX12_order_397 ?_
      refine zRx.aload_n 0 rfl rfl dX12_order_399 ?_
      refine zRx.getR (a := 0) (b := 31) fl_12_123 rfl rfl dX12_order_400 ?_
      refine zRx.iload 6 rfl dX12_order_403 ?_
      refine zRx.ialdv (v := σ 31 q) rfl rfl (by omega) (by omega) dX12_order_405 ?_
      refine zRx.iast rfl (by omega) (by omega) dX12_order_406 ?_
      refine zRx.iinc (n := 1) (ls' := [(0, zP 0), (1, .inl nn), (2, .inl al), (3, .inl be), (4, .inl bw), (5, .inl cc), (10, .inl (q + 1))]) 6 rfl ⟨by omega, by omega⟩ rfl (by decide) dX12_order_407 ?_
      refine zRx.goto (tgt := 387) dX12_order_410 (by decide) ?_
      have he : S_X12_order_387  nn (n + 1) q σ = S_X12_order_387  nn n (q + 1) (zu σ 32 q (σ 31 q)) := by rw [S_X12_order_387, if_neg (Int.not_le.mpr c390)]
      rw [he] at K
      exact ih (q + 1) (zu σ 32 q (σ 31 q)) _ (by omega) hn (by omega) K
def L_X12_order_171  (nn al : Int) : Nat → Int → Int → Int → zG → Int × zG
  | 0, _, _, _, σ => (0, σ)
  | n + 1, be, bw, cc, σ => if al ≤ cc then (be, zu σ 0 60 nn) else (if ((S_X12_order_189  nn 10 cc 0 (nn - 1) σ).2.1) = ((bshl 1 nn) - 1) then (if be < (R_X12_owedAll ((S_X12_order_255  nn 10 0 0 (R_X12_run ((S_X12_order_189  nn 10 cc 0 (nn - 1) σ).2.2.2) (-1))).2.2)) then (L_X12_order_171  nn al n be bw (cc + 1) ((S_X12_order_255  nn 10 0 0 (R_X12_run ((S_X12_order_189  nn 10 cc 0 (nn - 1) σ).2.2.2) (-1))).2.2)) else (if (R_X12_owedAll ((S_X12_order_255  nn 10 0 0 (R_X12_run ((S_X12_order_189  nn 10 cc 0 (nn - 1) σ).2.2.2) (-1))).2.2)) = be then (if ((S_X12_order_255  nn 10 0 0 (R_X12_run ((S_X12_order_189  nn 10 cc 0 (nn - 1) σ).2.2.2) (-1))).1) < bw then (L_X12_order_171  nn al n (R_X12_owedAll ((S_X12_order_255  nn 10 0 0 (R_X12_run ((S_X12_order_189  nn 10 cc 0 (nn - 1) σ).2.2.2) (-1))).2.2)) ((S_X12_order_255  nn 10 0 0 (R_X12_run ((S_X12_order_189  nn 10 cc 0 (nn - 1) σ).2.2.2) (-1))).1) (cc + 1) ((S_X12_order_387  nn 10 0 ((S_X12_order_255  nn 10 0 0 (R_X12_run ((S_X12_order_189  nn 10 cc 0 (nn - 1) σ).2.2.2) (-1))).2.2)).2)) else (L_X12_order_171  nn al n be bw (cc + 1) ((S_X12_order_255  nn 10 0 0 (R_X12_run ((S_X12_order_189  nn 10 cc 0 (nn - 1) σ).2.2.2) (-1))).2.2))) else (L_X12_order_171  nn al n (R_X12_owedAll ((S_X12_order_255  nn 10 0 0 (R_X12_run ((S_X12_order_189  nn 10 cc 0 (nn - 1) σ).2.2.2) (-1))).2.2)) ((S_X12_order_255  nn 10 0 0 (R_X12_run ((S_X12_order_189  nn 10 cc 0 (nn - 1) σ).2.2.2) (-1))).1) (cc + 1) ((S_X12_order_387  nn 10 0 ((S_X12_order_255  nn 10 0 0 (R_X12_run ((S_X12_order_189  nn 10 cc 0 (nn - 1) σ).2.2.2) (-1))).2.2)).2)))) else (L_X12_order_171  nn al n be bw (cc + 1) ((S_X12_order_189  nn 10 cc 0 (nn - 1) σ).2.2.2)))
theorem fr_L_X12_order_171  (nn al : Int)  (n : Nat) (be bw cc : Int) (σ : zG) {k : Nat} (h : k ∉ [0, 11, 12, 13, 14, 15, 16, 17, 18, 19, 20, 21, 22, 23, 24, 25, 31, 32]) : (L_X12_order_171  nn al n be bw cc σ).2 k = σ k := by
  induction n generalizing be bw cc σ with
  | zero => rfl
  | succ n ih =>
    have ne : ∀ c ∈ [0, 11, 12, 13, 14, 15, 16, 17, 18, 19, 20, 21, 22, 23, 24, 25, 31, 32], k ≠ c := fun c hc e => h (e ▸ hc)
    have nk_S_X12_order_255 : k ∉ [0, 11, 12, 13, 20, 22, 23, 25] := fun hm => h (by first | (revert hm; simp only [List.mem_cons, List.not_mem_nil, or_false]; omega) | (simp at hm))
    have nk_R_X12_run : k ∉ [0, 11, 12, 13, 14, 15, 16, 17, 18, 19, 20, 21, 22, 23, 24, 25] := fun hm => h (by first | (revert hm; simp only [List.mem_cons, List.not_mem_nil, or_false]; omega) | (simp at hm))
    have nk_S_X12_order_189 : k ∉ [31] := fun hm => h (by first | (revert hm; simp only [List.mem_cons, List.not_mem_nil, or_false]; omega) | (simp at hm))
    have nk_S_X12_order_387 : k ∉ [32] := fun hm => h (by first | (revert hm; simp only [List.mem_cons, List.not_mem_nil, or_false]; omega) | (simp at hm))
    rw [L_X12_order_171]
    repeat' split
    all_goals first | rfl | simp only [zu_row _ _ _ (ne 0 (by decide)), zu_row _ _ _ (ne 11 (by decide)), zu_row _ _ _ (ne 12 (by decide)), zu_row _ _ _ (ne 13 (by decide)), zu_row _ _ _ (ne 14 (by decide)), zu_row _ _ _ (ne 15 (by decide)), zu_row _ _ _ (ne 16 (by decide)), zu_row _ _ _ (ne 17 (by decide)), zu_row _ _ _ (ne 18 (by decide)), zu_row _ _ _ (ne 19 (by decide)), zu_row _ _ _ (ne 20 (by decide)), zu_row _ _ _ (ne 21 (by decide)), zu_row _ _ _ (ne 22 (by decide)), zu_row _ _ _ (ne 23 (by decide)), zu_row _ _ _ (ne 24 (by decide)), zu_row _ _ _ (ne 25 (by decide)), zu_row _ _ _ (ne 31 (by decide)), zu_row _ _ _ (ne 32 (by decide)), fr_S_X12_order_255 (h := nk_S_X12_order_255), fr_R_X12_run (h := nk_R_X12_run), fr_S_X12_order_189 (h := nk_S_X12_order_189), fr_S_X12_order_387 (h := nk_S_X12_order_387), ih]

set_option maxRecDepth 20000 in
theorem loop_X12_order_171   (nn al : Int) : ∀ (n : Nat) (be bw cc : Int) (σ : zG), 0 ≤ cc ∧ cc ≤ al ∧ al ≤ 3125 → 1 ≤ nn ∧ nn ≤ 5 → TRI (σ 2) (σ 33) (3 * nn) → MW (σ 2) → MB (σ 2) → 0 ≤ σ 2 1 ∧ σ 2 1 ≤ 12 → 0 ≤ σ 2 0 ∧ σ 2 0 ≤ 8 → (al - cc).toNat < n → zR SM 6 m_X12_order 171 [(0, zP 0), (1, .inl nn), (2, .inl al), (3, .inl be), (4, .inl bw), (5, .inl cc)] [] σ (zEq (some (.inl (L_X12_order_171  nn al n be bw cc σ).1)) (L_X12_order_171  nn al n be bw cc σ).2) := by
  intro n
  induction n with
  | zero => intro be bw cc σ h0 hn hR hW hB hF hp hmz; exact absurd hmz (Nat.not_lt_zero _)
  | succ n ih =>
    intro be bw cc σ h0 hn hR hW hB hF hp hmz
    refine zRx.iload 5 rfl dX12_order_171 ?_
    refine zRx.iload_n 2 rfl rfl dX12_order_173 ?_
    refine zRx.icmp_ge (tgt := 419) dX12_order_174 (by decide) (fun c174 => ?_) (fun c174 => ?_)
    · refine zRx.aload_n 0 rfl rfl dX12_order_419 ?_
      refine zRx.iload_n 1 rfl rfl dX12_order_420 ?_
      refine zRx.putI (a := 0) (ji := 60) pl_12_451 rfl rfl rfl dX12_order_421 ?_
      refine zRx.iload_n 3 rfl rfl dX12_order_424 ?_
      exact zR.iret rfl dX12_order_425 (by have he : L_X12_order_171  nn al (n + 1) be bw cc σ = (be, zu σ 0 60 nn) := (by rw [L_X12_order_171, if_pos c174]); rw [he]; exact ⟨rfl, rfl⟩)
    · refine zRx.iload 5 rfl dX12_order_177 ?_
      refine zRx.istore (ls' := [(0, zP 0), (1, .inl nn), (2, .inl al), (3, .inl be), (4, .inl bw), (5, .inl cc), (6, .inl cc)]) rfl (by decide) dX12_order_179 ?_
      refine zRx.iconst ⟨by decide, by decide⟩ dX12_order_181 ?_
      refine zRx.istore (ls' := [(0, zP 0), (1, .inl nn), (2, .inl al), (3, .inl be), (4, .inl bw), (5, .inl cc), (6, .inl cc), (7, .inl 0)]) rfl (by decide) dX12_order_182 ?_
      refine zRx.iload_n 1 rfl rfl dX12_order_184 ?_
      refine zRx.iconst ⟨by decide, by decide⟩ dX12_order_185 ?_
      refine zRx.isub ⟨by omega, by omega⟩ dX12_order_186 ?_
      refine zRx.istore (ls' := [(0, zP 0), (1, .inl nn), (2, .inl al), (3, .inl be), (4, .inl bw), (5, .inl cc), (6, .inl cc), (7, .inl 0), (8, .inl (nn - 1))]) rfl (by decide) dX12_order_187 ?_
      refine seg_X12_order_189   al be bw cc nn 10 cc 0 (nn - 1) σ _ (by omega) hn (fun j j0 j1 => absurd j0 (by omega)) hW hB hF hp (by omega) ?_
      intro x189_h0 x189_hn x189_hT x189_hW x189_hB x189_hF x189_hp x189_hU
      have hsb := bshl_1 (k := nn) (by omega) (by omega)
      refine zRx.iload 7 rfl dX12_order_231 ?_
      refine zRx.iconst ⟨by decide, by decide⟩ dX12_order_233 ?_
      refine zRx.iload_n 1 rfl rfl dX12_order_234 ?_
      refine zRx.ishl dX12_order_235 ?_
      refine zRx.iconst ⟨by decide, by decide⟩ dX12_order_236 ?_
      refine zRx.isub ⟨by omega, by omega⟩ dX12_order_237 ?_
      refine zRx.icmp_eq (tgt := 244) dX12_order_238 (by decide) (fun c238 => ?_) (fun c238 => ?_)
      · refine zRx.aload_n 0 rfl rfl dX12_order_244 ?_
        refine zRx.iconst ⟨by decide, by decide⟩ dX12_order_245 ?_
        refine zRx.cVv (M := m_X12_run) (av := [.inl (-1)]) cv_12_400 mk_X12_run (by decide) (b := 0) rfl rfl (Nat.le_of_ble_eq_true rfl) dX12_order_246 (does_X12_run ((S_X12_order_189  nn 10 cc 0 (nn - 1) σ).2.2.2) (-1) x189_hW) ?_
        refine zRx.iconst ⟨by decide, by decide⟩ dX12_order_249 ?_
        refine zRx.istore (ls' := [(0, zP 0), (1, .inl nn), (2, .inl al), (3, .inl be), (4, .inl bw), (5, .inl cc), (6, .inl ((S_X12_order_189  nn 10 cc 0 (nn - 1) σ).1)), (7, .inl ((S_X12_order_189  nn 10 cc 0 (nn - 1) σ).2.1)), (8, .inl 0)]) rfl (by decide) dX12_order_250 ?_
        refine zRx.iconst ⟨by decide, by decide⟩ dX12_order_252 ?_
        refine zRx.istore (ls' := [(0, zP 0), (1, .inl nn), (2, .inl al), (3, .inl be), (4, .inl bw), (5, .inl cc), (6, .inl ((S_X12_order_189  nn 10 cc 0 (nn - 1) σ).1)), (7, .inl ((S_X12_order_189  nn 10 cc 0 (nn - 1) σ).2.1)), (8, .inl 0), (9, .inl 0)]) rfl (by decide) dX12_order_253 ?_
        refine zRx.pick [0, 1, 2, 3, 4, 5, 8, 9] (ls' := [(0, zP 0), (1, .inl nn), (2, .inl al), (3, .inl be), (4, .inl bw), (5, .inl cc), (8, .inl 0), (9, .inl 0)]) rfl ?_
        refine seg_X12_order_255   al be bw cc nn 10 0 0 (R_X12_run ((S_X12_order_189  nn 10 cc 0 (nn - 1) σ).2.2.2) (-1)) _ (by omega) hn (TU_of (fr_R_X12_run ((S_X12_order_189  nn 10 cc 0 (nn - 1) σ).2.2.2) (-1) (k := 31) (by decide)) x189_hU) (TRI_of (σ := σ) ((fr_R_X12_run ((S_X12_order_189  nn 10 cc 0 (nn - 1) σ).2.2.2) (-1) (k := 2) (by decide)).trans (fr_S_X12_order_189  nn 10 cc 0 (nn - 1) σ (k := 2) (by decide))) ((fr_R_X12_run ((S_X12_order_189  nn 10 cc 0 (nn - 1) σ).2.2.2) (-1) (k := 33) (by decide)).trans (fr_S_X12_order_189  nn 10 cc 0 (nn - 1) σ (k := 33) (by decide))) hR) (MW_of (σ := σ) ((fr_R_X12_run ((S_X12_order_189  nn 10 cc 0 (nn - 1) σ).2.2.2) (-1) (k := 2) (by decide)).trans (fr_S_X12_order_189  nn 10 cc 0 (nn - 1) σ (k := 2) (by decide))) hW) (MB_of (σ := σ) ((fr_R_X12_run ((S_X12_order_189  nn 10 cc 0 (nn - 1) σ).2.2.2) (-1) (k := 2) (by decide)).trans (fr_S_X12_order_189  nn 10 cc 0 (nn - 1) σ (k := 2) (by decide))) hB) (by have e9 : (R_X12_run ((S_X12_order_189  nn 10 cc 0 (nn - 1) σ).2.2.2) (-1)) 2 1 = σ 2 1 := ((congrFun (fr_R_X12_run ((S_X12_order_189  nn 10 cc 0 (nn - 1) σ).2.2.2) (-1) (k := 2) (by decide)) _).trans (congrFun (fr_S_X12_order_189  nn 10 cc 0 (nn - 1) σ (k := 2) (by decide)) _)); omega) (by have e9 : (R_X12_run ((S_X12_order_189  nn 10 cc 0 (nn - 1) σ).2.2.2) (-1)) 2 0 = σ 2 0 := ((congrFun (fr_R_X12_run ((S_X12_order_189  nn 10 cc 0 (nn - 1) σ).2.2.2) (-1) (k := 2) (by decide)) _).trans (congrFun (fr_S_X12_order_189  nn 10 cc 0 (nn - 1) σ (k := 2) (by decide)) _)); omega) (run_m2 x189_hW) ((run_K _ _ x189_hW).1) (by omega) ?_
        intro x255_h0 x255_hn x255_hU x255_hR x255_hW x255_hB x255_hF x255_hp x255_hm x255_hK
        refine zRx.aload_n 0 rfl rfl dX12_order_349 ?_
        refine zRx.cVi (w := .inl (R_X12_owedAll ((S_X12_order_255  nn 10 0 0 (R_X12_run ((S_X12_order_189  nn 10 cc 0 (nn - 1) σ).2.2.2) (-1))).2.2))) (M := m_X12_owedAll) (av := []) cv_12_409 mk_X12_owedAll (by decide) (b := 0) rfl rfl (Nat.le_of_ble_eq_true rfl) dX12_order_350 (does_X12_owedAll ((S_X12_order_255  nn 10 0 0 (R_X12_run ((S_X12_order_189  nn 10 cc 0 (nn - 1) σ).2.2.2) (-1))).2.2) x255_hm) ?_
        refine zRx.istore (ls' := [(0, zP 0), (1, .inl nn), (2, .inl al), (3, .inl be), (4, .inl bw), (5, .inl cc), (8, .inl ((S_X12_order_255  nn 10 0 0 (R_X12_run ((S_X12_order_189  nn 10 cc 0 (nn - 1) σ).2.2.2) (-1))).1)), (9, .inl (R_X12_owedAll ((S_X12_order_255  nn 10 0 0 (R_X12_run ((S_X12_order_189  nn 10 cc 0 (nn - 1) σ).2.2.2) (-1))).2.2)))]) rfl (by decide) dX12_order_353 ?_
        refine zRx.iload 7 rfl dX12_order_355 ?_
        refine zRx.iload_n 3 rfl rfl dX12_order_357 ?_
        refine zRx.icmp_gt (tgt := 413) dX12_order_358 (by decide) (fun c358 => ?_) (fun c358 => ?_)
        · refine zRx.iinc (n := 1) (ls' := [(0, zP 0), (1, .inl nn), (2, .inl al), (3, .inl be), (4, .inl bw), (5, .inl (cc + 1)), (8, .inl ((S_X12_order_255  nn 10 0 0 (R_X12_run ((S_X12_order_189  nn 10 cc 0 (nn - 1) σ).2.2.2) (-1))).1)), (9, .inl (R_X12_owedAll ((S_X12_order_255  nn 10 0 0 (R_X12_run ((S_X12_order_189  nn 10 cc 0 (nn - 1) σ).2.2.2) (-1))).2.2)))]) 5 rfl ⟨by omega, by omega⟩ rfl (by decide) dX12_order_413 ?_
          refine zRx.goto (tgt := 171) dX12_order_416 (by decide) ?_
          refine zRx.pick [0, 1, 2, 3, 4, 5] (ls' := [(0, zP 0), (1, .inl nn), (2, .inl al), (3, .inl be), (4, .inl bw), (5, .inl (cc + 1))]) rfl ?_
          have he : L_X12_order_171  nn al (n + 1) be bw cc σ = L_X12_order_171  nn al n be bw (cc + 1) ((S_X12_order_255  nn 10 0 0 (R_X12_run ((S_X12_order_189  nn 10 cc 0 (nn - 1) σ).2.2.2) (-1))).2.2) := by rw [L_X12_order_171, if_neg (Int.not_le.mpr c174), if_pos c238, if_pos c358]
          rw [he]
          exact ih be bw (cc + 1) ((S_X12_order_255  nn 10 0 0 (R_X12_run ((S_X12_order_189  nn 10 cc 0 (nn - 1) σ).2.2.2) (-1))).2.2) (by omega) hn (TRI_of (σ := σ) ((fr_S_X12_order_255  nn 10 0 0 (R_X12_run ((S_X12_order_189  nn 10 cc 0 (nn - 1) σ).2.2.2) (-1)) (k := 2) (by decide)).trans ((fr_R_X12_run ((S_X12_order_189  nn 10 cc 0 (nn - 1) σ).2.2.2) (-1) (k := 2) (by decide)).trans (fr_S_X12_order_189  nn 10 cc 0 (nn - 1) σ (k := 2) (by decide)))) ((fr_S_X12_order_255  nn 10 0 0 (R_X12_run ((S_X12_order_189  nn 10 cc 0 (nn - 1) σ).2.2.2) (-1)) (k := 33) (by decide)).trans ((fr_R_X12_run ((S_X12_order_189  nn 10 cc 0 (nn - 1) σ).2.2.2) (-1) (k := 33) (by decide)).trans (fr_S_X12_order_189  nn 10 cc 0 (nn - 1) σ (k := 33) (by decide)))) hR) (MW_of (σ := σ) ((fr_S_X12_order_255  nn 10 0 0 (R_X12_run ((S_X12_order_189  nn 10 cc 0 (nn - 1) σ).2.2.2) (-1)) (k := 2) (by decide)).trans ((fr_R_X12_run ((S_X12_order_189  nn 10 cc 0 (nn - 1) σ).2.2.2) (-1) (k := 2) (by decide)).trans (fr_S_X12_order_189  nn 10 cc 0 (nn - 1) σ (k := 2) (by decide)))) hW) (MB_of (σ := σ) ((fr_S_X12_order_255  nn 10 0 0 (R_X12_run ((S_X12_order_189  nn 10 cc 0 (nn - 1) σ).2.2.2) (-1)) (k := 2) (by decide)).trans ((fr_R_X12_run ((S_X12_order_189  nn 10 cc 0 (nn - 1) σ).2.2.2) (-1) (k := 2) (by decide)).trans (fr_S_X12_order_189  nn 10 cc 0 (nn - 1) σ (k := 2) (by decide)))) hB) (by have e9 : ((S_X12_order_255  nn 10 0 0 (R_X12_run ((S_X12_order_189  nn 10 cc 0 (nn - 1) σ).2.2.2) (-1))).2.2) 2 1 = σ 2 1 := ((congrFun (fr_S_X12_order_255  nn 10 0 0 (R_X12_run ((S_X12_order_189  nn 10 cc 0 (nn - 1) σ).2.2.2) (-1)) (k := 2) (by decide)) _).trans ((congrFun (fr_R_X12_run ((S_X12_order_189  nn 10 cc 0 (nn - 1) σ).2.2.2) (-1) (k := 2) (by decide)) _).trans (congrFun (fr_S_X12_order_189  nn 10 cc 0 (nn - 1) σ (k := 2) (by decide)) _))); omega) (by have e9 : ((S_X12_order_255  nn 10 0 0 (R_X12_run ((S_X12_order_189  nn 10 cc 0 (nn - 1) σ).2.2.2) (-1))).2.2) 2 0 = σ 2 0 := ((congrFun (fr_S_X12_order_255  nn 10 0 0 (R_X12_run ((S_X12_order_189  nn 10 cc 0 (nn - 1) σ).2.2.2) (-1)) (k := 2) (by decide)) _).trans ((congrFun (fr_R_X12_run ((S_X12_order_189  nn 10 cc 0 (nn - 1) σ).2.2.2) (-1) (k := 2) (by decide)) _).trans (congrFun (fr_S_X12_order_189  nn 10 cc 0 (nn - 1) σ (k := 2) (by decide)) _))); omega) (by omega)
        · refine zRx.iload 7 rfl dX12_order_361 ?_
          refine zRx.iload_n 3 rfl rfl dX12_order_363 ?_
          refine zRx.icmp_ne (tgt := 377) dX12_order_364 (by decide) (fun c364 => ?_) (fun c364 => ?_)
          · refine zRx.iload 7 rfl dX12_order_377 ?_
            refine zRx.istore_n (ls' := [(0, zP 0), (1, .inl nn), (2, .inl al), (3, .inl (R_X12_owedAll ((S_X12_order_255  nn 10 0 0 (R_X12_run ((S_X12_order_189  nn 10 cc 0 (nn - 1) σ).2.2.2) (-1))).2.2))), (4, .inl bw), (5, .inl cc), (8, .inl ((S_X12_order_255  nn 10 0 0 (R_X12_run ((S_X12_order_189  nn 10 cc 0 (nn - 1) σ).2.2.2) (-1))).1)), (9, .inl (R_X12_owedAll ((S_X12_order_255  nn 10 0 0 (R_X12_run ((S_X12_order_189  nn 10 cc 0 (nn - 1) σ).2.2.2) (-1))).2.2)))]) rfl rfl (by decide) dX12_order_379 ?_
            refine zRx.iload 6 rfl dX12_order_380 ?_
            refine zRx.istore (ls' := [(0, zP 0), (1, .inl nn), (2, .inl al), (3, .inl (R_X12_owedAll ((S_X12_order_255  nn 10 0 0 (R_X12_run ((S_X12_order_189  nn 10 cc 0 (nn - 1) σ).2.2.2) (-1))).2.2))), (4, .inl ((S_X12_order_255  nn 10 0 0 (R_X12_run ((S_X12_order_189  nn 10 cc 0 (nn - 1) σ).2.2.2) (-1))).1)), (5, .inl cc), (8, .inl ((S_X12_order_255  nn 10 0 0 (R_X12_run ((S_X12_order_189  nn 10 cc 0 (nn - 1) σ).2.2.2) (-1))).1)), (9, .inl (R_X12_owedAll ((S_X12_order_255  nn 10 0 0 (R_X12_run ((S_X12_order_189  nn 10 cc 0 (nn - 1) σ).2.2.2) (-1))).2.2)))]) rfl (by decide) dX12_order_382 ?_
            refine zRx.iconst ⟨by decide, by decide⟩ dX12_order_384 ?_
            refine zRx.istore (ls' := [(0, zP 0), (1, .inl nn), (2, .inl al), (3, .inl (R_X12_owedAll ((S_X12_order_255  nn 10 0 0 (R_X12_run ((S_X12_order_189  nn 10 cc 0 (nn - 1) σ).2.2.2) (-1))).2.2))), (4, .inl ((S_X12_order_255  nn 10 0 0 (R_X12_run ((S_X12_order_189  nn 10 cc 0 (nn - 1) σ).2.2.2) (-1))).1)), (5, .inl cc), (8, .inl ((S_X12_order_255  nn 10 0 0 (R_X12_run ((S_X12_order_189  nn 10 cc 0 (nn - 1) σ).2.2.2) (-1))).1)), (9, .inl (R_X12_owedAll ((S_X12_order_255  nn 10 0 0 (R_X12_run ((S_X12_order_189  nn 10 cc 0 (nn - 1) σ).2.2.2) (-1))).2.2))), (10, .inl 0)]) rfl (by decide) dX12_order_385 ?_
            refine zRx.pick [0, 1, 2, 3, 4, 5, 8] (ls' := [(0, zP 0), (1, .inl nn), (2, .inl al), (3, .inl (R_X12_owedAll ((S_X12_order_255  nn 10 0 0 (R_X12_run ((S_X12_order_189  nn 10 cc 0 (nn - 1) σ).2.2.2) (-1))).2.2))), (4, .inl ((S_X12_order_255  nn 10 0 0 (R_X12_run ((S_X12_order_189  nn 10 cc 0 (nn - 1) σ).2.2.2) (-1))).1)), (5, .inl cc), (10, .inl 0)]) rfl ?_
            refine seg_X12_order_387   al (R_X12_owedAll ((S_X12_order_255  nn 10 0 0 (R_X12_run ((S_X12_order_189  nn 10 cc 0 (nn - 1) σ).2.2.2) (-1))).2.2)) ((S_X12_order_255  nn 10 0 0 (R_X12_run ((S_X12_order_189  nn 10 cc 0 (nn - 1) σ).2.2.2) (-1))).1) cc nn 10 0 ((S_X12_order_255  nn 10 0 0 (R_X12_run ((S_X12_order_189  nn 10 cc 0 (nn - 1) σ).2.2.2) (-1))).2.2) _ (by omega) hn (by omega) ?_
            intro x387_h0 x387_hn
            refine zRx.iinc (n := 1) (ls' := [(0, zP 0), (1, .inl nn), (2, .inl al), (3, .inl (R_X12_owedAll ((S_X12_order_255  nn 10 0 0 (R_X12_run ((S_X12_order_189  nn 10 cc 0 (nn - 1) σ).2.2.2) (-1))).2.2))), (4, .inl ((S_X12_order_255  nn 10 0 0 (R_X12_run ((S_X12_order_189  nn 10 cc 0 (nn - 1) σ).2.2.2) (-1))).1)), (5, .inl (cc + 1)), (10, .inl ((S_X12_order_387  nn 10 0 ((S_X12_order_255  nn 10 0 0 (R_X12_run ((S_X12_order_189  nn 10 cc 0 (nn - 1) σ).2.2.2) (-1))).2.2)).1))]) 5 rfl ⟨by omega, by omega⟩ rfl (by decide) dX12_order_413 ?_
            refine zRx.goto (tgt := 171) dX12_order_416 (by decide) ?_
            refine zRx.pick [0, 1, 2, 3, 4, 5] (ls' := [(0, zP 0), (1, .inl nn), (2, .inl al), (3, .inl (R_X12_owedAll ((S_X12_order_255  nn 10 0 0 (R_X12_run ((S_X12_order_189  nn 10 cc 0 (nn - 1) σ).2.2.2) (-1))).2.2))), (4, .inl ((S_X12_order_255  nn 10 0 0 (R_X12_run ((S_X12_order_189  nn 10 cc 0 (nn - 1) σ).2.2.2) (-1))).1)), (5, .inl (cc + 1))]) rfl ?_
            have he : L_X12_order_171  nn al (n + 1) be bw cc σ = L_X12_order_171  nn al n (R_X12_owedAll ((S_X12_order_255  nn 10 0 0 (R_X12_run ((S_X12_order_189  nn 10 cc 0 (nn - 1) σ).2.2.2) (-1))).2.2)) ((S_X12_order_255  nn 10 0 0 (R_X12_run ((S_X12_order_189  nn 10 cc 0 (nn - 1) σ).2.2.2) (-1))).1) (cc + 1) ((S_X12_order_387  nn 10 0 ((S_X12_order_255  nn 10 0 0 (R_X12_run ((S_X12_order_189  nn 10 cc 0 (nn - 1) σ).2.2.2) (-1))).2.2)).2) := by rw [L_X12_order_171, if_neg (Int.not_le.mpr c174), if_pos c238, if_neg (Int.not_lt.mpr c358), if_neg c364]
            rw [he]
            exact ih (R_X12_owedAll ((S_X12_order_255  nn 10 0 0 (R_X12_run ((S_X12_order_189  nn 10 cc 0 (nn - 1) σ).2.2.2) (-1))).2.2)) ((S_X12_order_255  nn 10 0 0 (R_X12_run ((S_X12_order_189  nn 10 cc 0 (nn - 1) σ).2.2.2) (-1))).1) (cc + 1) ((S_X12_order_387  nn 10 0 ((S_X12_order_255  nn 10 0 0 (R_X12_run ((S_X12_order_189  nn 10 cc 0 (nn - 1) σ).2.2.2) (-1))).2.2)).2) (by omega) hn (TRI_of (σ := σ) ((fr_S_X12_order_387  nn 10 0 ((S_X12_order_255  nn 10 0 0 (R_X12_run ((S_X12_order_189  nn 10 cc 0 (nn - 1) σ).2.2.2) (-1))).2.2) (k := 2) (by decide)).trans ((fr_S_X12_order_255  nn 10 0 0 (R_X12_run ((S_X12_order_189  nn 10 cc 0 (nn - 1) σ).2.2.2) (-1)) (k := 2) (by decide)).trans ((fr_R_X12_run ((S_X12_order_189  nn 10 cc 0 (nn - 1) σ).2.2.2) (-1) (k := 2) (by decide)).trans (fr_S_X12_order_189  nn 10 cc 0 (nn - 1) σ (k := 2) (by decide))))) ((fr_S_X12_order_387  nn 10 0 ((S_X12_order_255  nn 10 0 0 (R_X12_run ((S_X12_order_189  nn 10 cc 0 (nn - 1) σ).2.2.2) (-1))).2.2) (k := 33) (by decide)).trans ((fr_S_X12_order_255  nn 10 0 0 (R_X12_run ((S_X12_order_189  nn 10 cc 0 (nn - 1) σ).2.2.2) (-1)) (k := 33) (by decide)).trans ((fr_R_X12_run ((S_X12_order_189  nn 10 cc 0 (nn - 1) σ).2.2.2) (-1) (k := 33) (by decide)).trans (fr_S_X12_order_189  nn 10 cc 0 (nn - 1) σ (k := 33) (by decide))))) hR) (MW_of (σ := σ) ((fr_S_X12_order_387  nn 10 0 ((S_X12_order_255  nn 10 0 0 (R_X12_run ((S_X12_order_189  nn 10 cc 0 (nn - 1) σ).2.2.2) (-1))).2.2) (k := 2) (by decide)).trans ((fr_S_X12_order_255  nn 10 0 0 (R_X12_run ((S_X12_order_189  nn 10 cc 0 (nn - 1) σ).2.2.2) (-1)) (k := 2) (by decide)).trans ((fr_R_X12_run ((S_X12_order_189  nn 10 cc 0 (nn - 1) σ).2.2.2) (-1) (k := 2) (by decide)).trans (fr_S_X12_order_189  nn 10 cc 0 (nn - 1) σ (k := 2) (by decide))))) hW) (MB_of (σ := σ) ((fr_S_X12_order_387  nn 10 0 ((S_X12_order_255  nn 10 0 0 (R_X12_run ((S_X12_order_189  nn 10 cc 0 (nn - 1) σ).2.2.2) (-1))).2.2) (k := 2) (by decide)).trans ((fr_S_X12_order_255  nn 10 0 0 (R_X12_run ((S_X12_order_189  nn 10 cc 0 (nn - 1) σ).2.2.2) (-1)) (k := 2) (by decide)).trans ((fr_R_X12_run ((S_X12_order_189  nn 10 cc 0 (nn - 1) σ).2.2.2) (-1) (k := 2) (by decide)).trans (fr_S_X12_order_189  nn 10 cc 0 (nn - 1) σ (k := 2) (by decide))))) hB) (by have e9 : ((S_X12_order_387  nn 10 0 ((S_X12_order_255  nn 10 0 0 (R_X12_run ((S_X12_order_189  nn 10 cc 0 (nn - 1) σ).2.2.2) (-1))).2.2)).2) 2 1 = σ 2 1 := ((congrFun (fr_S_X12_order_387  nn 10 0 ((S_X12_order_255  nn 10 0 0 (R_X12_run ((S_X12_order_189  nn 10 cc 0 (nn - 1) σ).2.2.2) (-1))).2.2) (k := 2) (by decide)) _).trans ((congrFun (fr_S_X12_order_255  nn 10 0 0 (R_X12_run ((S_X12_order_189  nn 10 cc 0 (nn - 1) σ).2.2.2) (-1)) (k := 2) (by decide)) _).trans ((congrFun (fr_R_X12_run ((S_X12_order_189  nn 10 cc 0 (nn - 1) σ).2.2.2) (-1) (k := 2) (by decide)) _).trans (congrFun (fr_S_X12_order_189  nn 10 cc 0 (nn - 1) σ (k := 2) (by decide)) _)))); omega) (by have e9 : ((S_X12_order_387  nn 10 0 ((S_X12_order_255  nn 10 0 0 (R_X12_run ((S_X12_order_189  nn 10 cc 0 (nn - 1) σ).2.2.2) (-1))).2.2)).2) 2 0 = σ 2 0 := ((congrFun (fr_S_X12_order_387  nn 10 0 ((S_X12_order_255  nn 10 0 0 (R_X12_run ((S_X12_order_189  nn 10 cc 0 (nn - 1) σ).2.2.2) (-1))).2.2) (k := 2) (by decide)) _).trans ((congrFun (fr_S_X12_order_255  nn 10 0 0 (R_X12_run ((S_X12_order_189  nn 10 cc 0 (nn - 1) σ).2.2.2) (-1)) (k := 2) (by decide)) _).trans ((congrFun (fr_R_X12_run ((S_X12_order_189  nn 10 cc 0 (nn - 1) σ).2.2.2) (-1) (k := 2) (by decide)) _).trans (congrFun (fr_S_X12_order_189  nn 10 cc 0 (nn - 1) σ (k := 2) (by decide)) _)))); omega) (by omega)
          · refine zRx.iload 6 rfl dX12_order_367 ?_
            refine zRx.iload 4 rfl dX12_order_369 ?_
            refine zRx.icmp_lt (tgt := 377) dX12_order_371 (by decide) (fun c371 => ?_) (fun c371 => ?_)
            · refine zRx.iload 7 rfl dX12_order_377 ?_
              refine zRx.istore_n (ls' := [(0, zP 0), (1, .inl nn), (2, .inl al), (3, .inl (R_X12_owedAll ((S_X12_order_255  nn 10 0 0 (R_X12_run ((S_X12_order_189  nn 10 cc 0 (nn - 1) σ).2.2.2) (-1))).2.2))), (4, .inl bw), (5, .inl cc), (8, .inl ((S_X12_order_255  nn 10 0 0 (R_X12_run ((S_X12_order_189  nn 10 cc 0 (nn - 1) σ).2.2.2) (-1))).1)), (9, .inl (R_X12_owedAll ((S_X12_order_255  nn 10 0 0 (R_X12_run ((S_X12_order_189  nn 10 cc 0 (nn - 1) σ).2.2.2) (-1))).2.2)))]) rfl rfl (by decide) dX12_order_379 ?_
              refine zRx.iload 6 rfl dX12_order_380 ?_
              refine zRx.istore (ls' := [(0, zP 0), (1, .inl nn), (2, .inl al), (3, .inl (R_X12_owedAll ((S_X12_order_255  nn 10 0 0 (R_X12_run ((S_X12_order_189  nn 10 cc 0 (nn - 1) σ).2.2.2) (-1))).2.2))), (4, .inl ((S_X12_order_255  nn 10 0 0 (R_X12_run ((S_X12_order_189  nn 10 cc 0 (nn - 1) σ).2.2.2) (-1))).1)), (5, .inl cc), (8, .inl ((S_X12_order_255  nn 10 0 0 (R_X12_run ((S_X12_order_189  nn 10 cc 0 (nn - 1) σ).2.2.2) (-1))).1)), (9, .inl (R_X12_owedAll ((S_X12_order_255  nn 10 0 0 (R_X12_run ((S_X12_order_189  nn 10 cc 0 (nn - 1) σ).2.2.2) (-1))).2.2)))]) rfl (by decide) dX12_order_382 ?_
              refine zRx.iconst ⟨by decide, by decide⟩ dX12_order_384 ?_
              refine zRx.istore (ls' := [(0, zP 0), (1, .inl nn), (2, .inl al), (3, .inl (R_X12_owedAll ((S_X12_order_255  nn 10 0 0 (R_X12_run ((S_X12_order_189  nn 10 cc 0 (nn - 1) σ).2.2.2) (-1))).2.2))), (4, .inl ((S_X12_order_255  nn 10 0 0 (R_X12_run ((S_X12_order_189  nn 10 cc 0 (nn - 1) σ).2.2.2) (-1))).1)), (5, .inl cc), (8, .inl ((S_X12_order_255  nn 10 0 0 (R_X12_run ((S_X12_order_189  nn 10 cc 0 (nn - 1) σ).2.2.2) (-1))).1)), (9, .inl (R_X12_owedAll ((S_X12_order_255  nn 10 0 0 (R_X12_run ((S_X12_order_189  nn 10 cc 0 (nn - 1) σ).2.2.2) (-1))).2.2))), (10, .inl 0)]) rfl (by decide) dX12_order_385 ?_
              refine zRx.pick [0, 1, 2, 3, 4, 5, 8] (ls' := [(0, zP 0), (1, .inl nn), (2, .inl al), (3, .inl (R_X12_owedAll ((S_X12_order_255  nn 10 0 0 (R_X12_run ((S_X12_order_189  nn 10 cc 0 (nn - 1) σ).2.2.2) (-1))).2.2))), (4, .inl ((S_X12_order_255  nn 10 0 0 (R_X12_run ((S_X12_order_189  nn 10 cc 0 (nn - 1) σ).2.2.2) (-1))).1)), (5, .inl cc), (10, .inl 0)]) rfl ?_
              refine seg_X12_order_387   al (R_X12_owedAll ((S_X12_order_255  nn 10 0 0 (R_X12_run ((S_X12_order_189  nn 10 cc 0 (nn - 1) σ).2.2.2) (-1))).2.2)) ((S_X12_order_255  nn 10 0 0 (R_X12_run ((S_X12_order_189  nn 10 cc 0 (nn - 1) σ).2.2.2) (-1))).1) cc nn 10 0 ((S_X12_order_255  nn 10 0 0 (R_X12_run ((S_X12_order_189  nn 10 cc 0 (nn - 1) σ).2.2.2) (-1))).2.2) _ (by omega) hn (by omega) ?_
              intro x387_h0 x387_hn
              refine zRx.iinc (n := 1) (ls' := [(0, zP 0), (1, .inl nn), (2, .inl al), (3, .inl (R_X12_owedAll ((S_X12_order_255  nn 10 0 0 (R_X12_run ((S_X12_order_189  nn 10 cc 0 (nn - 1) σ).2.2.2) (-1))).2.2))), (4, .inl ((S_X12_order_255  nn 10 0 0 (R_X12_run ((S_X12_order_189  nn 10 cc 0 (nn - 1) σ).2.2.2) (-1))).1)), (5, .inl (cc + 1)), (10, .inl ((S_X12_order_387  nn 10 0 ((S_X12_order_255  nn 10 0 0 (R_X12_run ((S_X12_order_189  nn 10 cc 0 (nn - 1) σ).2.2.2) (-1))).2.2)).1))]) 5 rfl ⟨by omega, by omega⟩ rfl (by decide) dX12_order_413 ?_
              refine zRx.goto (tgt := 171) dX12_order_416 (by decide) ?_
              refine zRx.pick [0, 1, 2, 3, 4, 5] (ls' := [(0, zP 0), (1, .inl nn), (2, .inl al), (3, .inl (R_X12_owedAll ((S_X12_order_255  nn 10 0 0 (R_X12_run ((S_X12_order_189  nn 10 cc 0 (nn - 1) σ).2.2.2) (-1))).2.2))), (4, .inl ((S_X12_order_255  nn 10 0 0 (R_X12_run ((S_X12_order_189  nn 10 cc 0 (nn - 1) σ).2.2.2) (-1))).1)), (5, .inl (cc + 1))]) rfl ?_
              have he : L_X12_order_171  nn al (n + 1) be bw cc σ = L_X12_order_171  nn al n (R_X12_owedAll ((S_X12_order_255  nn 10 0 0 (R_X12_run ((S_X12_order_189  nn 10 cc 0 (nn - 1) σ).2.2.2) (-1))).2.2)) ((S_X12_order_255  nn 10 0 0 (R_X12_run ((S_X12_order_189  nn 10 cc 0 (nn - 1) σ).2.2.2) (-1))).1) (cc + 1) ((S_X12_order_387  nn 10 0 ((S_X12_order_255  nn 10 0 0 (R_X12_run ((S_X12_order_189  nn 10 cc 0 (nn - 1) σ).2.2.2) (-1))).2.2)).2) := by rw [L_X12_order_171, if_neg (Int.not_le.mpr c174), if_pos c238, if_neg (Int.not_lt.mpr c358), if_pos c364, if_pos c371]
              rw [he]
              exact ih (R_X12_owedAll ((S_X12_order_255  nn 10 0 0 (R_X12_run ((S_X12_order_189  nn 10 cc 0 (nn - 1) σ).2.2.2) (-1))).2.2)) ((S_X12_order_255  nn 10 0 0 (R_X12_run ((S_X12_order_189  nn 10 cc 0 (nn - 1) σ).2.2.2) (-1))).1) (cc + 1) ((S_X12_order_387  nn 10 0 ((S_X12_order_255  nn 10 0 0 (R_X12_run ((S_X12_order_189  nn 10 cc 0 (nn - 1) σ).2.2.2) (-1))).2.2)).2) (by omega) hn (TRI_of (σ := σ) ((fr_S_X12_order_387  nn 10 0 ((S_X12_order_255  nn 10 0 0 (R_X12_run ((S_X12_order_189  nn 10 cc 0 (nn - 1) σ).2.2.2) (-1))).2.2) (k := 2) (by decide)).trans ((fr_S_X12_order_255  nn 10 0 0 (R_X12_run ((S_X12_order_189  nn 10 cc 0 (nn - 1) σ).2.2.2) (-1)) (k := 2) (by decide)).trans ((fr_R_X12_run ((S_X12_order_189  nn 10 cc 0 (nn - 1) σ).2.2.2) (-1) (k := 2) (by decide)).trans (fr_S_X12_order_189  nn 10 cc 0 (nn - 1) σ (k := 2) (by decide))))) ((fr_S_X12_order_387  nn 10 0 ((S_X12_order_255  nn 10 0 0 (R_X12_run ((S_X12_order_189  nn 10 cc 0 (nn - 1) σ).2.2.2) (-1))).2.2) (k := 33) (by decide)).trans ((fr_S_X12_order_255  nn 10 0 0 (R_X12_run ((S_X12_order_189  nn 10 cc 0 (nn - 1) σ).2.2.2) (-1)) (k := 33) (by decide)).trans ((fr_R_X12_run ((S_X12_order_189  nn 10 cc 0 (nn - 1) σ).2.2.2) (-1) (k := 33) (by decide)).trans (fr_S_X12_order_189  nn 10 cc 0 (nn - 1) σ (k := 33) (by decide))))) hR) (MW_of (σ := σ) ((fr_S_X12_order_387  nn 10 0 ((S_X12_order_255  nn 10 0 0 (R_X12_run ((S_X12_order_189  nn 10 cc 0 (nn - 1) σ).2.2.2) (-1))).2.2) (k := 2) (by decide)).trans ((fr_S_X12_order_255  nn 10 0 0 (R_X12_run ((S_X12_order_189  nn 10 cc 0 (nn - 1) σ).2.2.2) (-1)) (k := 2) (by decide)).trans ((fr_R_X12_run ((S_X12_order_189  nn 10 cc 0 (nn - 1) σ).2.2.2) (-1) (k := 2) (by decide)).trans (fr_S_X12_order_189  nn 10 cc 0 (nn - 1) σ (k := 2) (by decide))))) hW) (MB_of (σ := σ) ((fr_S_X12_order_387  nn 10 0 ((S_X12_order_255  nn 10 0 0 (R_X12_run ((S_X12_order_189  nn 10 cc 0 (nn - 1) σ).2.2.2) (-1))).2.2) (k := 2) (by decide)).trans ((fr_S_X12_order_255  nn 10 0 0 (R_X12_run ((S_X12_order_189  nn 10 cc 0 (nn - 1) σ).2.2.2) (-1)) (k := 2) (by decide)).trans ((fr_R_X12_run ((S_X12_order_189  nn 10 cc 0 (nn - 1) σ).2.2.2) (-1) (k := 2) (by decide)).trans (fr_S_X12_order_189  nn 10 cc 0 (nn - 1) σ (k := 2) (by decide))))) hB) (by have e9 : ((S_X12_order_387  nn 10 0 ((S_X12_order_255  nn 10 0 0 (R_X12_run ((S_X12_order_189  nn 10 cc 0 (nn - 1) σ).2.2.2) (-1))).2.2)).2) 2 1 = σ 2 1 := ((congrFun (fr_S_X12_order_387  nn 10 0 ((S_X12_order_255  nn 10 0 0 (R_X12_run ((S_X12_order_189  nn 10 cc 0 (nn - 1) σ).2.2.2) (-1))).2.2) (k := 2) (by decide)) _).trans ((congrFun (fr_S_X12_order_255  nn 10 0 0 (R_X12_run ((S_X12_order_189  nn 10 cc 0 (nn - 1) σ).2.2.2) (-1)) (k := 2) (by decide)) _).trans ((congrFun (fr_R_X12_run ((S_X12_order_189  nn 10 cc 0 (nn - 1) σ).2.2.2) (-1) (k := 2) (by decide)) _).trans (congrFun (fr_S_X12_order_189  nn 10 cc 0 (nn - 1) σ (k := 2) (by decide)) _)))); omega) (by have e9 : ((S_X12_order_387  nn 10 0 ((S_X12_order_255  nn 10 0 0 (R_X12_run ((S_X12_order_189  nn 10 cc 0 (nn - 1) σ).2.2.2) (-1))).2.2)).2) 2 0 = σ 2 0 := ((congrFun (fr_S_X12_order_387  nn 10 0 ((S_X12_order_255  nn 10 0 0 (R_X12_run ((S_X12_order_189  nn 10 cc 0 (nn - 1) σ).2.2.2) (-1))).2.2) (k := 2) (by decide)) _).trans ((congrFun (fr_S_X12_order_255  nn 10 0 0 (R_X12_run ((S_X12_order_189  nn 10 cc 0 (nn - 1) σ).2.2.2) (-1)) (k := 2) (by decide)) _).trans ((congrFun (fr_R_X12_run ((S_X12_order_189  nn 10 cc 0 (nn - 1) σ).2.2.2) (-1) (k := 2) (by decide)) _).trans (congrFun (fr_S_X12_order_189  nn 10 cc 0 (nn - 1) σ (k := 2) (by decide)) _)))); omega) (by omega)
            · refine zRx.goto (tgt := 413) dX12_order_374 (by decide) ?_
              refine zRx.iinc (n := 1) (ls' := [(0, zP 0), (1, .inl nn), (2, .inl al), (3, .inl be), (4, .inl bw), (5, .inl (cc + 1)), (8, .inl ((S_X12_order_255  nn 10 0 0 (R_X12_run ((S_X12_order_189  nn 10 cc 0 (nn - 1) σ).2.2.2) (-1))).1)), (9, .inl (R_X12_owedAll ((S_X12_order_255  nn 10 0 0 (R_X12_run ((S_X12_order_189  nn 10 cc 0 (nn - 1) σ).2.2.2) (-1))).2.2)))]) 5 rfl ⟨by omega, by omega⟩ rfl (by decide) dX12_order_413 ?_
              refine zRx.goto (tgt := 171) dX12_order_416 (by decide) ?_
              refine zRx.pick [0, 1, 2, 3, 4, 5] (ls' := [(0, zP 0), (1, .inl nn), (2, .inl al), (3, .inl be), (4, .inl bw), (5, .inl (cc + 1))]) rfl ?_
              have he : L_X12_order_171  nn al (n + 1) be bw cc σ = L_X12_order_171  nn al n be bw (cc + 1) ((S_X12_order_255  nn 10 0 0 (R_X12_run ((S_X12_order_189  nn 10 cc 0 (nn - 1) σ).2.2.2) (-1))).2.2) := by rw [L_X12_order_171, if_neg (Int.not_le.mpr c174), if_pos c238, if_neg (Int.not_lt.mpr c358), if_pos c364, if_neg (Int.not_lt.mpr c371)]
              rw [he]
              exact ih be bw (cc + 1) ((S_X12_order_255  nn 10 0 0 (R_X12_run ((S_X12_order_189  nn 10 cc 0 (nn - 1) σ).2.2.2) (-1))).2.2) (by omega) hn (TRI_of (σ := σ) ((fr_S_X12_order_255  nn 10 0 0 (R_X12_run ((S_X12_order_189  nn 10 cc 0 (nn - 1) σ).2.2.2) (-1)) (k := 2) (by decide)).trans ((fr_R_X12_run ((S_X12_order_189  nn 10 cc 0 (nn - 1) σ).2.2.2) (-1) (k := 2) (by decide)).trans (fr_S_X12_order_189  nn 10 cc 0 (nn - 1) σ (k := 2) (by decide)))) ((fr_S_X12_order_255  nn 10 0 0 (R_X12_run ((S_X12_order_189  nn 10 cc 0 (nn - 1) σ).2.2.2) (-1)) (k := 33) (by decide)).trans ((fr_R_X12_run ((S_X12_order_189  nn 10 cc 0 (nn - 1) σ).2.2.2) (-1) (k := 33) (by decide)).trans (fr_S_X12_order_189  nn 10 cc 0 (nn - 1) σ (k := 33) (by decide)))) hR) (MW_of (σ := σ) ((fr_S_X12_order_255  nn 10 0 0 (R_X12_run ((S_X12_order_189  nn 10 cc 0 (nn - 1) σ).2.2.2) (-1)) (k := 2) (by decide)).trans ((fr_R_X12_run ((S_X12_order_189  nn 10 cc 0 (nn - 1) σ).2.2.2) (-1) (k := 2) (by decide)).trans (fr_S_X12_order_189  nn 10 cc 0 (nn - 1) σ (k := 2) (by decide)))) hW) (MB_of (σ := σ) ((fr_S_X12_order_255  nn 10 0 0 (R_X12_run ((S_X12_order_189  nn 10 cc 0 (nn - 1) σ).2.2.2) (-1)) (k := 2) (by decide)).trans ((fr_R_X12_run ((S_X12_order_189  nn 10 cc 0 (nn - 1) σ).2.2.2) (-1) (k := 2) (by decide)).trans (fr_S_X12_order_189  nn 10 cc 0 (nn - 1) σ (k := 2) (by decide)))) hB) (by have e9 : ((S_X12_order_255  nn 10 0 0 (R_X12_run ((S_X12_order_189  nn 10 cc 0 (nn - 1) σ).2.2.2) (-1))).2.2) 2 1 = σ 2 1 := ((congrFun (fr_S_X12_order_255  nn 10 0 0 (R_X12_run ((S_X12_order_189  nn 10 cc 0 (nn - 1) σ).2.2.2) (-1)) (k := 2) (by decide)) _).trans ((congrFun (fr_R_X12_run ((S_X12_order_189  nn 10 cc 0 (nn - 1) σ).2.2.2) (-1) (k := 2) (by decide)) _).trans (congrFun (fr_S_X12_order_189  nn 10 cc 0 (nn - 1) σ (k := 2) (by decide)) _))); omega) (by have e9 : ((S_X12_order_255  nn 10 0 0 (R_X12_run ((S_X12_order_189  nn 10 cc 0 (nn - 1) σ).2.2.2) (-1))).2.2) 2 0 = σ 2 0 := ((congrFun (fr_S_X12_order_255  nn 10 0 0 (R_X12_run ((S_X12_order_189  nn 10 cc 0 (nn - 1) σ).2.2.2) (-1)) (k := 2) (by decide)) _).trans ((congrFun (fr_R_X12_run ((S_X12_order_189  nn 10 cc 0 (nn - 1) σ).2.2.2) (-1) (k := 2) (by decide)) _).trans (congrFun (fr_S_X12_order_189  nn 10 cc 0 (nn - 1) σ (k := 2) (by decide)) _))); omega) (by omega)
      · refine zRx.goto (tgt := 413) dX12_order_241 (by decide) ?_
        refine zRx.iinc (n := 1) (ls' := [(0, zP 0), (1, .inl nn), (2, .inl al), (3, .inl be), (4, .inl bw), (5, .inl (cc + 1)), (6, .inl ((S_X12_order_189  nn 10 cc 0 (nn - 1) σ).1)), (7, .inl ((S_X12_order_189  nn 10 cc 0 (nn - 1) σ).2.1)), (8, .inl ((S_X12_order_189  nn 10 cc 0 (nn - 1) σ).2.2.1))]) 5 rfl ⟨by omega, by omega⟩ rfl (by decide) dX12_order_413 ?_
        refine zRx.goto (tgt := 171) dX12_order_416 (by decide) ?_
        refine zRx.pick [0, 1, 2, 3, 4, 5] (ls' := [(0, zP 0), (1, .inl nn), (2, .inl al), (3, .inl be), (4, .inl bw), (5, .inl (cc + 1))]) rfl ?_
        have he : L_X12_order_171  nn al (n + 1) be bw cc σ = L_X12_order_171  nn al n be bw (cc + 1) ((S_X12_order_189  nn 10 cc 0 (nn - 1) σ).2.2.2) := by rw [L_X12_order_171, if_neg (Int.not_le.mpr c174), if_neg c238]
        rw [he]
        exact ih be bw (cc + 1) ((S_X12_order_189  nn 10 cc 0 (nn - 1) σ).2.2.2) (by omega) hn (TRI_of (σ := σ) (fr_S_X12_order_189  nn 10 cc 0 (nn - 1) σ (k := 2) (by decide)) (fr_S_X12_order_189  nn 10 cc 0 (nn - 1) σ (k := 33) (by decide)) hR) (MW_of (σ := σ) (fr_S_X12_order_189  nn 10 cc 0 (nn - 1) σ (k := 2) (by decide)) hW) (MB_of (σ := σ) (fr_S_X12_order_189  nn 10 cc 0 (nn - 1) σ (k := 2) (by decide)) hB) (by have e9 : ((S_X12_order_189  nn 10 cc 0 (nn - 1) σ).2.2.2) 2 1 = σ 2 1 := (congrFun (fr_S_X12_order_189  nn 10 cc 0 (nn - 1) σ (k := 2) (by decide)) _); omega) (by have e9 : ((S_X12_order_189  nn 10 cc 0 (nn - 1) σ).2.2.2) 2 0 = σ 2 0 := (congrFun (fr_S_X12_order_189  nn 10 cc 0 (nn - 1) σ (k := 2) (by decide)) _); omega) (by omega)
def L_X12_order_106  (nn : Int) : Nat → Int → zG → Int × zG
  | 0, _, σ => (0, σ)
  | n + 1, q, σ => if nn ≤ q then (L_X12_order_171  nn ((S_X12_order_144  nn 10 1 0 σ).1) 4000 1000000000 1000000000 0 ((S_X12_order_144  nn 10 1 0 σ).2.2)) else (if (σ 33 (3 * q)) = (σ 33 ((3 * q) + 1)) then ((-1), σ) else (L_X12_order_106  nn n (q + 1) σ))
theorem fr_L_X12_order_106  (nn : Int)  (n : Nat) (q : Int) (σ : zG) {k : Nat} (h : k ∉ [0, 11, 12, 13, 14, 15, 16, 17, 18, 19, 20, 21, 22, 23, 24, 25, 31, 32]) : (L_X12_order_106  nn n q σ).2 k = σ k := by
  induction n generalizing q σ with
  | zero => rfl
  | succ n ih =>
    have ne : ∀ c ∈ [0, 11, 12, 13, 14, 15, 16, 17, 18, 19, 20, 21, 22, 23, 24, 25, 31, 32], k ≠ c := fun c hc e => h (e ▸ hc)
    have nk_S_X12_order_144 : k ∉ [] := fun hm => h (by first | (revert hm; simp only [List.mem_cons, List.not_mem_nil, or_false]; omega) | (simp at hm))
    have nl_L_X12_order_171 : k ∉ [0, 11, 12, 13, 14, 15, 16, 17, 18, 19, 20, 21, 22, 23, 24, 25, 31, 32] := fun hm => h (by first | (revert hm; simp only [List.mem_cons, List.not_mem_nil, or_false]; omega) | (simp at hm))
    rw [L_X12_order_106]
    repeat' split
    all_goals first | rfl | simp only [zu_row _ _ _ (ne 0 (by decide)), zu_row _ _ _ (ne 11 (by decide)), zu_row _ _ _ (ne 12 (by decide)), zu_row _ _ _ (ne 13 (by decide)), zu_row _ _ _ (ne 14 (by decide)), zu_row _ _ _ (ne 15 (by decide)), zu_row _ _ _ (ne 16 (by decide)), zu_row _ _ _ (ne 17 (by decide)), zu_row _ _ _ (ne 18 (by decide)), zu_row _ _ _ (ne 19 (by decide)), zu_row _ _ _ (ne 20 (by decide)), zu_row _ _ _ (ne 21 (by decide)), zu_row _ _ _ (ne 22 (by decide)), zu_row _ _ _ (ne 23 (by decide)), zu_row _ _ _ (ne 24 (by decide)), zu_row _ _ _ (ne 25 (by decide)), zu_row _ _ _ (ne 31 (by decide)), zu_row _ _ _ (ne 32 (by decide)), fr_S_X12_order_144 (h := nk_S_X12_order_144), fr_L_X12_order_171 (h := nl_L_X12_order_171), ih]

set_option maxRecDepth 20000 in
theorem loop_X12_order_106   (nn : Int) : ∀ (n : Nat) (q : Int) (σ : zG), 0 ≤ q → 1 ≤ nn ∧ nn ≤ 5 → TRI (σ 2) (σ 33) (3 * nn) → MW (σ 2) → MB (σ 2) → 0 ≤ σ 2 1 ∧ σ 2 1 ≤ 12 → 0 ≤ σ 2 0 ∧ σ 2 0 ≤ 8 → (nn - q).toNat < n → zR SM 6 m_X12_order 106 [(0, zP 0), (1, .inl nn), (2, .inl q)] [] σ (zEq (some (.inl (L_X12_order_106  nn n q σ).1)) (L_X12_order_106  nn n q σ).2) := by
  intro n
  induction n with
  | zero => intro q σ h0 hn hR hW hB hF hp hmz; exact absurd hmz (Nat.not_lt_zero _)
  | succ n ih =>
    intro q σ h0 hn hR hW hB hF hp hmz
    refine zRx.iload_n 2 rfl rfl dX12_order_106 ?_
    refine zRx.iload_n 1 rfl rfl dX12_order_107 ?_
    refine zRx.icmp_ge (tgt := 140) dX12_order_108 (by decide) (fun c108 => ?_) (fun c108 => ?_)
    · refine zRx.iconst ⟨by decide, by decide⟩ dX12_order_140 ?_
      refine zRx.istore_n (ls' := [(0, zP 0), (1, .inl nn), (2, .inl 1)]) rfl rfl (by decide) dX12_order_141 ?_
      refine zRx.iconst ⟨by decide, by decide⟩ dX12_order_142 ?_
      refine zRx.istore_n (ls' := [(0, zP 0), (1, .inl nn), (2, .inl 1), (3, .inl 0)]) rfl rfl (by decide) dX12_order_143 ?_
      refine seg_X12_order_144   nn 10 1 0 σ _ (by omega) hn (by decide) (by omega) ?_
      intro x144_h0 x144_hn x144_ha
      refine zRx.ldcw ⟨by decide, by decide⟩ kc_12_428 dX12_order_159 ?_
      refine zRx.istore_n (ls' := [(0, zP 0), (1, .inl nn), (2, .inl ((S_X12_order_144  nn 10 1 0 σ).1)), (3, .inl 1000000000)]) rfl rfl (by decide) dX12_order_162 ?_
      refine zRx.ldcw ⟨by decide, by decide⟩ kc_12_428 dX12_order_163 ?_
      refine zRx.istore (ls' := [(0, zP 0), (1, .inl nn), (2, .inl ((S_X12_order_144  nn 10 1 0 σ).1)), (3, .inl 1000000000), (4, .inl 1000000000)]) rfl (by decide) dX12_order_166 ?_
      refine zRx.iconst ⟨by decide, by decide⟩ dX12_order_168 ?_
      refine zRx.istore (ls' := [(0, zP 0), (1, .inl nn), (2, .inl ((S_X12_order_144  nn 10 1 0 σ).1)), (3, .inl 1000000000), (4, .inl 1000000000), (5, .inl 0)]) rfl (by decide) dX12_order_169 ?_
      have he : L_X12_order_106  nn (n + 1) q σ = L_X12_order_171  nn ((S_X12_order_144  nn 10 1 0 σ).1) 4000 1000000000 1000000000 0 ((S_X12_order_144  nn 10 1 0 σ).2.2) := by rw [L_X12_order_106, if_pos c108]
      rw [he]
      exact loop_X12_order_171   nn ((S_X12_order_144  nn 10 1 0 σ).1) 4000 1000000000 1000000000 0 ((S_X12_order_144  nn 10 1 0 σ).2.2) (by have h9 := al_top (q := (S_X12_order_144  nn 10 1 0 σ).2.1) (by omega) x144_ha.2; omega) hn (TRI_of (σ := σ) (fr_S_X12_order_144  nn 10 1 0 σ (k := 2) (by decide)) (fr_S_X12_order_144  nn 10 1 0 σ (k := 33) (by decide)) hR) (MW_of (σ := σ) (fr_S_X12_order_144  nn 10 1 0 σ (k := 2) (by decide)) hW) (MB_of (σ := σ) (fr_S_X12_order_144  nn 10 1 0 σ (k := 2) (by decide)) hB) (by have e9 : ((S_X12_order_144  nn 10 1 0 σ).2.2) 2 1 = σ 2 1 := (congrFun (fr_S_X12_order_144  nn 10 1 0 σ (k := 2) (by decide)) _); omega) (by have e9 : ((S_X12_order_144  nn 10 1 0 σ).2.2) 2 0 = σ 2 0 := (congrFun (fr_S_X12_order_144  nn 10 1 0 σ (k := 2) (by decide)) _); omega) (by have h9 := al_top (q := (S_X12_order_144  nn 10 1 0 σ).2.1) (by omega) x144_ha.2; omega)
    · refine zRx.aload_n 0 rfl rfl dX12_order_111 ?_
      refine zRx.getR (a := 0) (b := 33) fl_12_129 rfl rfl dX12_order_112 ?_
      refine zRx.iconst ⟨by decide, by decide⟩ dX12_order_115 ?_
      refine zRx.iload_n 2 rfl rfl dX12_order_116 ?_
      refine zRx.imul ⟨by omega, by omega⟩ dX12_order_117 ?_
      refine zRx.ialdv (v := σ 33 (3 * q)) rfl rfl (by omega) (by omega) dX12_order_118 ?_
      refine zRx.aload_n 0 rfl rfl dX12_order_119 ?_
      refine zRx.getR (a := 0) (b := 33) fl_12_129 rfl rfl dX12_order_120 ?_
      refine zRx.iconst ⟨by decide, by decide⟩ dX12_order_123 ?_
      refine zRx.iload_n 2 rfl rfl dX12_order_124 ?_
      refine zRx.imul ⟨by omega, by omega⟩ dX12_order_125 ?_
      refine zRx.iconst ⟨by decide, by decide⟩ dX12_order_126 ?_
      refine zRx.iadd ⟨by omega, by omega⟩ dX12_order_127 ?_
      refine zRx.ialdv (v := σ 33 ((3 * q) + 1)) rfl rfl (by omega) (by omega) dX12_order_128 ?_
      refine zRx.icmp_ne (tgt := 134) dX12_order_129 (by decide) (fun c129 => ?_) (fun c129 => ?_)
      · refine zRx.iinc (n := 1) (ls' := [(0, zP 0), (1, .inl nn), (2, .inl (q + 1))]) 2 rfl ⟨by omega, by omega⟩ rfl (by decide) dX12_order_134 ?_
        refine zRx.goto (tgt := 106) dX12_order_137 (by decide) ?_
        have he : L_X12_order_106  nn (n + 1) q σ = L_X12_order_106  nn n (q + 1) σ := by rw [L_X12_order_106, if_neg (Int.not_le.mpr c108), if_neg c129]
        rw [he]
        exact ih (q + 1) σ (by omega) hn hR hW hB hF hp (by omega)
      · refine zRx.iconst ⟨by decide, by decide⟩ dX12_order_132 ?_
        exact zR.iret rfl dX12_order_133 (by have he : L_X12_order_106  nn (n + 1) q σ = ((-1), σ) := (by rw [L_X12_order_106, if_neg (Int.not_le.mpr c108), if_pos c129]); rw [he]; exact ⟨rfl, rfl⟩)
def L_X12_order_41  (nn : Int) : Nat → Int → zG → Int × zG
  | 0, _, σ => (0, σ)
  | n + 1, q, σ => if (σ 0 3) ≤ q then (L_X12_order_106  nn 10 0 σ) else (if 2 ≤ (q % 3) then (if 0 ≤ (band (σ 1 q) 255) ∧ (band (σ 1 q) 255) ≤ (σ 2 1) - 1 then (L_X12_order_41  nn n (q + 1) (zu σ 33 q (band (σ 1 q) 255))) else ((-1), zu σ 33 q (band (σ 1 q) 255))) else (if 0 ≤ (band (σ 1 q) 255) ∧ (band (σ 1 q) 255) ≤ (σ 2 0) - 1 then (L_X12_order_41  nn n (q + 1) (zu σ 33 q (band (σ 1 q) 255))) else ((-1), zu σ 33 q (band (σ 1 q) 255))))
theorem fr_L_X12_order_41  (nn : Int)  (n : Nat) (q : Int) (σ : zG) {k : Nat} (h : k ∉ [0, 11, 12, 13, 14, 15, 16, 17, 18, 19, 20, 21, 22, 23, 24, 25, 31, 32, 33]) : (L_X12_order_41  nn n q σ).2 k = σ k := by
  induction n generalizing q σ with
  | zero => rfl
  | succ n ih =>
    have ne : ∀ c ∈ [0, 11, 12, 13, 14, 15, 16, 17, 18, 19, 20, 21, 22, 23, 24, 25, 31, 32, 33], k ≠ c := fun c hc e => h (e ▸ hc)
    have nl_L_X12_order_106 : k ∉ [0, 11, 12, 13, 14, 15, 16, 17, 18, 19, 20, 21, 22, 23, 24, 25, 31, 32] := fun hm => h (by first | (revert hm; simp only [List.mem_cons, List.not_mem_nil, or_false]; omega) | (simp at hm))
    rw [L_X12_order_41]
    repeat' split
    all_goals first | rfl | simp only [zu_row _ _ _ (ne 0 (by decide)), zu_row _ _ _ (ne 11 (by decide)), zu_row _ _ _ (ne 12 (by decide)), zu_row _ _ _ (ne 13 (by decide)), zu_row _ _ _ (ne 14 (by decide)), zu_row _ _ _ (ne 15 (by decide)), zu_row _ _ _ (ne 16 (by decide)), zu_row _ _ _ (ne 17 (by decide)), zu_row _ _ _ (ne 18 (by decide)), zu_row _ _ _ (ne 19 (by decide)), zu_row _ _ _ (ne 20 (by decide)), zu_row _ _ _ (ne 21 (by decide)), zu_row _ _ _ (ne 22 (by decide)), zu_row _ _ _ (ne 23 (by decide)), zu_row _ _ _ (ne 24 (by decide)), zu_row _ _ _ (ne 25 (by decide)), zu_row _ _ _ (ne 31 (by decide)), zu_row _ _ _ (ne 32 (by decide)), zu_row _ _ _ (ne 33 (by decide)), fr_L_X12_order_106 (h := nl_L_X12_order_106), ih]

set_option maxRecDepth 20000 in
theorem loop_X12_order_41   (nn : Int) : ∀ (n : Nat) (q : Int) (σ : zG), 0 ≤ q ∧ q ≤ 3 * nn → 1 ≤ nn ∧ nn ≤ 5 → σ 0 3 = 3 * nn → TRI (σ 2) (σ 33) q → MW (σ 2) → MB (σ 2) → 0 ≤ σ 2 1 ∧ σ 2 1 ≤ 12 → 0 ≤ σ 2 0 ∧ σ 2 0 ≤ 8 → (σ 0 3 - q).toNat < n → zR SM 6 m_X12_order 41 [(0, zP 0), (1, .inl nn), (2, .inl q)] [] σ (zEq (some (.inl (L_X12_order_41  nn n q σ).1)) (L_X12_order_41  nn n q σ).2) := by
  intro n
  induction n with
  | zero => intro q σ h0 hn hs hR hW hB hF hp hmz; exact absurd hmz (Nat.not_lt_zero _)
  | succ n ih =>
    intro q σ h0 hn hs hR hW hB hF hp hmz
    refine zRx.iload_n 2 rfl rfl dX12_order_41 ?_
    refine zRx.aload_n 0 rfl rfl dX12_order_42 ?_
    refine zRx.getIv (a := 0) (ji := 3) (v := σ 0 3) rfl fl_12_18 rfl rfl rfl dX12_order_43 ?_
    refine zRx.icmp_ge (tgt := 104) dX12_order_46 (by decide) (fun c46 => ?_) (fun c46 => ?_)
    · refine zRx.iconst ⟨by decide, by decide⟩ dX12_order_104 ?_
      refine zRx.istore_n (ls' := [(0, zP 0), (1, .inl nn), (2, .inl 0)]) rfl rfl (by decide) dX12_order_105 ?_
      have he : L_X12_order_41  nn (n + 1) q σ = L_X12_order_106  nn 10 0 σ := by rw [L_X12_order_41, if_pos c46]
      rw [he]
      exact loop_X12_order_106   nn 10 0 σ (by omega) hn (fun k k0 k1 => hR k k0 (by omega)) hW hB hF hp (by omega)
    · refine zRx.aload_n 0 rfl rfl dX12_order_49 ?_
      refine zRx.getR (a := 0) (b := 33) fl_12_129 rfl rfl dX12_order_50 ?_
      refine zRx.iload_n 2 rfl rfl dX12_order_53 ?_
      refine zRx.aload_n 0 rfl rfl dX12_order_54 ?_
      refine zRx.iload_n 2 rfl rfl dX12_order_55 ?_
      refine zRx.cVi (w := .inl (band (σ 1 q) 255)) (M := m_X12_octet) (av := [.inl q]) cv_12_448 mk_X12_octet (by decide) (b := 0) rfl rfl (Nat.le_of_ble_eq_true rfl) dX12_order_56 (does_octet2 σ q (σ 1 q) rfl (by omega)) ?_
      refine zRx.iast rfl (by omega) (by omega) dX12_order_59 ?_
      refine zRx.iload_n 2 rfl rfl dX12_order_60 ?_
      refine zRx.iconst ⟨by decide, by decide⟩ dX12_order_61 ?_
      refine zRx.irem (by omega) (by decide) dX12_order_62 ?_
      refine zRx.iconst ⟨by decide, by decide⟩ dX12_order_63 ?_
      refine zRx.icmp_ge (tgt := 83) dX12_order_64 (by decide) (fun c64 => ?_) (fun c64 => ?_)
      · refine zRx.aload_n 0 rfl rfl dX12_order_83 ?_
        refine zRx.aload_n 0 rfl rfl dX12_order_84 ?_
        refine zRx.getR (a := 0) (b := 33) fl_12_129 rfl rfl dX12_order_85 ?_
        refine zRx.iload_n 2 rfl rfl dX12_order_88 ?_
        refine zRx.ialdv (v := band (σ 1 q) 255) (zu_at _ _ _ _) rfl (by omega) (by omega) dX12_order_89 ?_
        refine zRx.cVi (w := .inl (b2 (0 ≤ (band (σ 1 q) 255) ∧ (band (σ 1 q) 255) ≤ (σ 2 1) - 1))) (M := m_X12_isFact) (av := [.inl (band (σ 1 q) 255)]) cv_12_316 mk_X12_isFact (by decide) (b := 0) rfl rfl (Nat.le_of_ble_eq_true rfl) dX12_order_90 (does_isFact2 (zu σ 33 q (band (σ 1 q) 255)) (band (σ 1 q) 255) (σ 2 1) (zu_ne _ _ _ _ (by decide)) hF) ?_
        refine zRx.if_neB (tgt := 98) dX12_order_93 (by decide) (fun c93 => ?_) (fun c93 => ?_)
        · refine zRx.iinc (n := 1) (ls' := [(0, zP 0), (1, .inl nn), (2, .inl (q + 1))]) 2 rfl ⟨by omega, by omega⟩ rfl (by decide) dX12_order_98 ?_
          refine zRx.goto (tgt := 41) dX12_order_101 (by decide) ?_
          have he : L_X12_order_41  nn (n + 1) q σ = L_X12_order_41  nn n (q + 1) (zu σ 33 q (band (σ 1 q) 255)) := by rw [L_X12_order_41, if_neg (Int.not_le.mpr c46), if_pos c64, if_pos c93]
          rw [he]
          exact ih (q + 1) (zu σ 33 q (band (σ 1 q) 255)) (by omega) hn (by rw [zu_ne _ _ _ _ (by decide)]; exact hs) (TRI_zu hR (by omega)) (by rw [zu_row _ _ _ (by decide)]; exact hW) (by rw [zu_row _ _ _ (by decide)]; exact hB) (by have e9 : (zu σ 33 q (band (σ 1 q) 255)) 2 1 = σ 2 1 := (zu_ne _ _ _ _ (by decide)); omega) (by have e9 : (zu σ 33 q (band (σ 1 q) 255)) 2 0 = σ 2 0 := (zu_ne _ _ _ _ (by decide)); omega) (by rw [zu_ne _ _ _ _ (by decide)]; omega)
        · refine zRx.iconst ⟨by decide, by decide⟩ dX12_order_96 ?_
          exact zR.iret rfl dX12_order_97 (by have he : L_X12_order_41  nn (n + 1) q σ = ((-1), zu σ 33 q (band (σ 1 q) 255)) := (by rw [L_X12_order_41, if_neg (Int.not_le.mpr c46), if_pos c64, if_neg c93]); rw [he]; exact ⟨rfl, rfl⟩)
      · refine zRx.aload_n 0 rfl rfl dX12_order_67 ?_
        refine zRx.aload_n 0 rfl rfl dX12_order_68 ?_
        refine zRx.getR (a := 0) (b := 33) fl_12_129 rfl rfl dX12_order_69 ?_
        refine zRx.iload_n 2 rfl rfl dX12_order_72 ?_
        refine zRx.ialdv (v := band (σ 1 q) 255) (zu_at _ _ _ _) rfl (by omega) (by omega) dX12_order_73 ?_
        refine zRx.cVi (w := .inl (b2 (0 ≤ (band (σ 1 q) 255) ∧ (band (σ 1 q) 255) ≤ (σ 2 0) - 1))) (M := m_X12_isWho) (av := [.inl (band (σ 1 q) 255)]) cv_12_397 mk_X12_isWho (by decide) (b := 0) rfl rfl (Nat.le_of_ble_eq_true rfl) dX12_order_74 (does_isWho2 (zu σ 33 q (band (σ 1 q) 255)) (band (σ 1 q) 255) (σ 2 0) (zu_ne _ _ _ _ (by decide)) hp) ?_
        refine zRx.if_neB (tgt := 98) dX12_order_77 (by decide) (fun c77 => ?_) (fun c77 => ?_)
        · refine zRx.iinc (n := 1) (ls' := [(0, zP 0), (1, .inl nn), (2, .inl (q + 1))]) 2 rfl ⟨by omega, by omega⟩ rfl (by decide) dX12_order_98 ?_
          refine zRx.goto (tgt := 41) dX12_order_101 (by decide) ?_
          have he : L_X12_order_41  nn (n + 1) q σ = L_X12_order_41  nn n (q + 1) (zu σ 33 q (band (σ 1 q) 255)) := by rw [L_X12_order_41, if_neg (Int.not_le.mpr c46), if_neg (Int.not_le.mpr c64), if_pos c77]
          rw [he]
          exact ih (q + 1) (zu σ 33 q (band (σ 1 q) 255)) (by omega) hn (by rw [zu_ne _ _ _ _ (by decide)]; exact hs) (TRI_zu hR (by omega)) (by rw [zu_row _ _ _ (by decide)]; exact hW) (by rw [zu_row _ _ _ (by decide)]; exact hB) (by have e9 : (zu σ 33 q (band (σ 1 q) 255)) 2 1 = σ 2 1 := (zu_ne _ _ _ _ (by decide)); omega) (by have e9 : (zu σ 33 q (band (σ 1 q) 255)) 2 0 = σ 2 0 := (zu_ne _ _ _ _ (by decide)); omega) (by rw [zu_ne _ _ _ _ (by decide)]; omega)
        · refine zRx.goto (tgt := 96) dX12_order_80 (by decide) ?_
          refine zRx.iconst ⟨by decide, by decide⟩ dX12_order_96 ?_
          exact zR.iret rfl dX12_order_97 (by have he : L_X12_order_41  nn (n + 1) q σ = ((-1), zu σ 33 q (band (σ 1 q) 255)) := (by rw [L_X12_order_41, if_neg (Int.not_le.mpr c46), if_neg (Int.not_le.mpr c64), if_neg c77]); rw [he]; exact ⟨rfl, rfl⟩)
def R_X12_order (σ : zG)  : Int × zG := if ((σ 0 2) % 3) = 0 then (if 1 ≤ ((σ 0 2) / 3) ∧ ((σ 0 2) / 3) ≤ 5 then (L_X12_order_41  ((σ 0 2) / 3) 20 0 (zu (zu (zu (zu (zu σ 0 0 0) 0 3 (σ 0 2)) 0 2 0) 0 4 0) 0 5 940)) else ((-1), zu (zu (zu (zu (zu σ 0 0 0) 0 3 (σ 0 2)) 0 2 0) 0 4 0) 0 5 940)) else ((-1), zu (zu (zu (zu (zu σ 0 0 0) 0 3 (σ 0 2)) 0 2 0) 0 4 0) 0 5 940)
theorem fr_R_X12_order (σ : zG)  {k : Nat} (h : k ∉ [0, 11, 12, 13, 14, 15, 16, 17, 18, 19, 20, 21, 22, 23, 24, 25, 31, 32, 33]) : (R_X12_order σ ).2 k = σ k := by
  have ne : ∀ c ∈ [0, 11, 12, 13, 14, 15, 16, 17, 18, 19, 20, 21, 22, 23, 24, 25, 31, 32, 33], k ≠ c := fun c hc e => h (e ▸ hc)
  have nl_S_X12_order_144 : k ∉ [] := fun hm => h (by first | (revert hm; simp only [List.mem_cons, List.not_mem_nil, or_false]; omega) | (simp at hm))
  have nl_S_X12_order_189 : k ∉ [31] := fun hm => h (by first | (revert hm; simp only [List.mem_cons, List.not_mem_nil, or_false]; omega) | (simp at hm))
  have nl_S_X12_order_255 : k ∉ [0, 11, 12, 13, 20, 22, 23, 25] := fun hm => h (by first | (revert hm; simp only [List.mem_cons, List.not_mem_nil, or_false]; omega) | (simp at hm))
  have nl_S_X12_order_387 : k ∉ [32] := fun hm => h (by first | (revert hm; simp only [List.mem_cons, List.not_mem_nil, or_false]; omega) | (simp at hm))
  have nl_L_X12_order_171 : k ∉ [0, 11, 12, 13, 14, 15, 16, 17, 18, 19, 20, 21, 22, 23, 24, 25, 31, 32] := fun hm => h (by first | (revert hm; simp only [List.mem_cons, List.not_mem_nil, or_false]; omega) | (simp at hm))
  have nl_L_X12_order_106 : k ∉ [0, 11, 12, 13, 14, 15, 16, 17, 18, 19, 20, 21, 22, 23, 24, 25, 31, 32] := fun hm => h (by first | (revert hm; simp only [List.mem_cons, List.not_mem_nil, or_false]; omega) | (simp at hm))
  have nl_L_X12_order_41 : k ∉ [0, 11, 12, 13, 14, 15, 16, 17, 18, 19, 20, 21, 22, 23, 24, 25, 31, 32, 33] := fun hm => h (by first | (revert hm; simp only [List.mem_cons, List.not_mem_nil, or_false]; omega) | (simp at hm))
  unfold R_X12_order
  repeat' split
  all_goals first | rfl | simp only [zu_row _ _ _ (ne 0 (by decide)), zu_row _ _ _ (ne 11 (by decide)), zu_row _ _ _ (ne 12 (by decide)), zu_row _ _ _ (ne 13 (by decide)), zu_row _ _ _ (ne 14 (by decide)), zu_row _ _ _ (ne 15 (by decide)), zu_row _ _ _ (ne 16 (by decide)), zu_row _ _ _ (ne 17 (by decide)), zu_row _ _ _ (ne 18 (by decide)), zu_row _ _ _ (ne 19 (by decide)), zu_row _ _ _ (ne 20 (by decide)), zu_row _ _ _ (ne 21 (by decide)), zu_row _ _ _ (ne 22 (by decide)), zu_row _ _ _ (ne 23 (by decide)), zu_row _ _ _ (ne 24 (by decide)), zu_row _ _ _ (ne 25 (by decide)), zu_row _ _ _ (ne 31 (by decide)), zu_row _ _ _ (ne 32 (by decide)), zu_row _ _ _ (ne 33 (by decide)), fr_S_X12_order_144 (h := nl_S_X12_order_144), fr_S_X12_order_189 (h := nl_S_X12_order_189), fr_S_X12_order_255 (h := nl_S_X12_order_255), fr_S_X12_order_387 (h := nl_S_X12_order_387), fr_L_X12_order_171 (h := nl_L_X12_order_171), fr_L_X12_order_106 (h := nl_L_X12_order_106), fr_L_X12_order_41 (h := nl_L_X12_order_41)]

set_option maxRecDepth 20000 in
theorem does_X12_order (σ : zG)  (hN : MN (σ 2)) (hB : MB (σ 2)) (hl : 0 ≤ σ 0 2 ∧ σ 0 2 ≤ 940)  : zDo SM 6 m_X12_order [zP 0] σ (zEq (some (.inl (R_X12_order σ ).1)) (R_X12_order σ ).2) := by
  refine zDo.intro mk_X12_order (Nat.le_of_ble_eq_true rfl) ?_
  refine zRx.aload_n 0 rfl rfl dX12_order_0 ?_
  refine zRx.iconst ⟨by decide, by decide⟩ dX12_order_1 ?_
  refine zRx.putI (a := 0) (ji := 0) pl_12_1 rfl rfl rfl dX12_order_2 ?_
  refine zRx.aload_n 0 rfl rfl dX12_order_5 ?_
  refine zRx.sipush ⟨by decide, by decide⟩ rfl dX12_order_6 ?_
  refine zRx.cVv (M := m_X12_taken) (av := [.inl 940]) cv_12_304 mk_X12_taken (by decide) (b := 0) rfl rfl (Nat.le_of_ble_eq_true rfl) dX12_order_9 (does_taken2 (zu σ 0 0 0) 940 (σ 0 2) (zu_off _ _ _ (by decide))) ?_
  refine zRx.aload_n 0 rfl rfl dX12_order_12 ?_
  refine zRx.getIv (a := 0) (ji := 3) (v := σ 0 2) ((zu_off _ _ _ (by decide)).trans ((zu_off _ _ _ (by decide)).trans ((zu_off _ _ _ (by decide)).trans (zu_at _ _ _ _)))) fl_12_18 rfl rfl rfl dX12_order_13 ?_
  refine zRx.iconst ⟨by decide, by decide⟩ dX12_order_16 ?_
  refine zRx.idiv (by omega) (by decide) dX12_order_17 ?_
  refine zRx.istore_n (ls' := [(0, zP 0), (1, .inl ((σ 0 2) / 3))]) rfl rfl (by decide) dX12_order_18 ?_
  refine zRx.aload_n 0 rfl rfl dX12_order_19 ?_
  refine zRx.getIv (a := 0) (ji := 3) (v := σ 0 2) ((zu_off _ _ _ (by decide)).trans ((zu_off _ _ _ (by decide)).trans ((zu_off _ _ _ (by decide)).trans (zu_at _ _ _ _)))) fl_12_18 rfl rfl rfl dX12_order_20 ?_
  refine zRx.iconst ⟨by decide, by decide⟩ dX12_order_23 ?_
  refine zRx.irem (by omega) (by decide) dX12_order_24 ?_
  refine zRx.if_ne (tgt := 37) dX12_order_25 (by decide) (fun c25 => ?_) (fun c25 => ?_)
  · refine zRx.iconst ⟨by decide, by decide⟩ dX12_order_37 ?_
    exact zR.iret rfl dX12_order_38 (by have he : R_X12_order σ  = ((-1), zu (zu (zu (zu (zu σ 0 0 0) 0 3 (σ 0 2)) 0 2 0) 0 4 0) 0 5 940) := (by rw [R_X12_order, if_neg c25]); rw [he]; exact ⟨rfl, rfl⟩)
  · refine zRx.iload_n 1 rfl rfl dX12_order_28 ?_
    refine zRx.iconst ⟨by decide, by decide⟩ dX12_order_29 ?_
    refine zRx.iconst ⟨by decide, by decide⟩ dX12_order_30 ?_
    refine zRx.cSi (w := .inl (b2 (1 ≤ ((σ 0 2) / 3) ∧ ((σ 0 2) / 3) ≤ 5))) (M := m_X12_isIn) (av := [.inl ((σ 0 2) / 3), .inl 1, .inl 5]) cs_12_254 mk_X12_isIn (by decide) rfl (Nat.le_of_ble_eq_true rfl) dX12_order_31 (does_X12_isIn ((σ 0 2) / 3) 1 5 SM (zu (zu (zu (zu (zu σ 0 0 0) 0 3 (σ 0 2)) 0 2 0) 0 4 0) 0 5 940)) ?_
    refine zRx.if_neB (tgt := 39) dX12_order_34 (by decide) (fun c34 => ?_) (fun c34 => ?_)
    · refine zRx.iconst ⟨by decide, by decide⟩ dX12_order_39 ?_
      refine zRx.istore_n (ls' := [(0, zP 0), (1, .inl ((σ 0 2) / 3)), (2, .inl 0)]) rfl rfl (by decide) dX12_order_40 ?_
      have he : R_X12_order σ  = L_X12_order_41  ((σ 0 2) / 3) 20 0 (zu (zu (zu (zu (zu σ 0 0 0) 0 3 (σ 0 2)) 0 2 0) 0 4 0) 0 5 940) := by rw [R_X12_order, if_pos c25, if_pos c34]
      rw [he]
      exact loop_X12_order_41   ((σ 0 2) / 3) 20 0 (zu (zu (zu (zu (zu σ 0 0 0) 0 3 (σ 0 2)) 0 2 0) 0 4 0) 0 5 940) (by omega) (by omega) (by rw [show (zu (zu (zu (zu (zu σ 0 0 0) 0 3 (σ 0 2)) 0 2 0) 0 4 0) 0 5 940) 0 3 = σ 0 2 from ((zu_off _ _ _ (by decide)).trans ((zu_off _ _ _ (by decide)).trans ((zu_off _ _ _ (by decide)).trans (zu_at _ _ _ _))))]; omega) (fun k k0 k1 => absurd k0 (by omega)) (MW_of (σ := σ) ((zu_row _ _ _ (by decide)).trans ((zu_row _ _ _ (by decide)).trans ((zu_row _ _ _ (by decide)).trans ((zu_row _ _ _ (by decide)).trans (zu_row _ _ _ (by decide)))))) hN.1) (MB_of (σ := σ) ((zu_row _ _ _ (by decide)).trans ((zu_row _ _ _ (by decide)).trans ((zu_row _ _ _ (by decide)).trans ((zu_row _ _ _ (by decide)).trans (zu_row _ _ _ (by decide)))))) hB) (by rw [show (zu (zu (zu (zu (zu σ 0 0 0) 0 3 (σ 0 2)) 0 2 0) 0 4 0) 0 5 940) 2 = σ 2 from ((zu_row _ _ _ (by decide)).trans ((zu_row _ _ _ (by decide)).trans ((zu_row _ _ _ (by decide)).trans ((zu_row _ _ _ (by decide)).trans (zu_row _ _ _ (by decide))))))]; exact hN.2.2.1) (by rw [show (zu (zu (zu (zu (zu σ 0 0 0) 0 3 (σ 0 2)) 0 2 0) 0 4 0) 0 5 940) 2 = σ 2 from ((zu_row _ _ _ (by decide)).trans ((zu_row _ _ _ (by decide)).trans ((zu_row _ _ _ (by decide)).trans ((zu_row _ _ _ (by decide)).trans (zu_row _ _ _ (by decide))))))]; exact hN.2.1) (by rw [show (zu (zu (zu (zu (zu σ 0 0 0) 0 3 (σ 0 2)) 0 2 0) 0 4 0) 0 5 940) 0 3 = σ 0 2 from ((zu_off _ _ _ (by decide)).trans ((zu_off _ _ _ (by decide)).trans ((zu_off _ _ _ (by decide)).trans (zu_at _ _ _ _))))]; omega)
    · refine zRx.iconst ⟨by decide, by decide⟩ dX12_order_37 ?_
      exact zR.iret rfl dX12_order_38 (by have he : R_X12_order σ  = ((-1), zu (zu (zu (zu (zu σ 0 0 0) 0 3 (σ 0 2)) 0 2 0) 0 4 0) 0 5 940) := (by rw [R_X12_order, if_pos c25, if_neg c34]); rw [he]; exact ⟨rfl, rfl⟩)

