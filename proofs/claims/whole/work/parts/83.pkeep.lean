/-! pure: what a line of a valley leaves of the model's fields -/
def kj (j : Int) : Prop := j ≠ 4 ∧ j ≠ 11 ∧ j ≠ 12 ∧ j ≠ 13 ∧ j ≠ 14 ∧ j ≠ 15 ∧ j ≠ 16 ∧ j ≠ 17 ∧ j ≠ 18 ∧ j ≠ 20
theorem kz_next (μ : zG) {j : Int} (h : kj j) : F_X12_next μ 0 j = μ 0 j := (next_all μ).2.1 j h.1 h.2.1 h.2.2.1 h.2.2.2.1 h.2.2.2.2.1 h.2.2.2.2.2.2.2.1
theorem kz_3 (μ : zG) (i z j : Int) : zu μ 3 i z 0 j = μ 0 j := zu_ne _ _ _ _ (by decide)
theorem kz_5 (μ : zG) (i z j : Int) : zu μ 5 i z 0 j = μ 0 j := zu_ne _ _ _ _ (by decide)
theorem kz_bad (μ : zG) (x y : Int) {j : Int} (h : kj j) : zu (zu μ 0 15 x) 0 16 y 0 j = μ 0 j := by rw [zu_off _ _ _ h.2.2.2.2.2.2.1, zu_off _ _ _ h.2.2.2.2.2.1]
theorem kz_18 (μ : zG) (x : Int) {j : Int} (h : kj j) : zu μ 0 18 x 0 j = μ 0 j := zu_off _ _ _ h.2.2.2.2.2.2.2.2.1
theorem kz_20 (μ : zG) (x : Int) {j : Int} (h : kj j) : zu μ 0 20 x 0 j = μ 0 j := zu_off _ _ _ h.2.2.2.2.2.2.2.2.2
theorem kz_sign (μ : zG) (c : Int) {j : Int} (h : kj j) : F_X12_sign μ c 0 j = μ 0 j := by
  unfold F_X12_sign
  split
  · exact kz_next μ h
  · exact kz_bad μ _ _ h
theorem kz_takes (μ : zG) (lo hi : Int) {j : Int} (h : kj j) : F_X12_takes μ lo hi 0 j = μ 0 j := by
  unfold F_X12_takes
  repeat' split
  all_goals simp only [kz_next _ h, kz_bad _ _ _ h, kz_18 _ _ h]
theorem kz_takesName (μ : zG) (fm nn : Int) {j : Int} (h : kj j) : F_X12_takesName μ fm nn 0 j = μ 0 j := by
  unfold F_X12_takesName
  repeat' split
  all_goals simp only [kz_next _ h, kz_bad _ _ _ h, kz_18 _ _ h]
theorem kz_fresh (μ : zG) (to : Int) {j : Int} (h : kj j) : F_X12_fresh μ to 0 j = μ 0 j := by
  unfold F_X12_fresh
  repeat' split
  all_goals simp only [kz_next _ h, kz_bad _ _ _ h, kz_5]
theorem kz_once (μ : zG) (w lo hi : Int) {j : Int} (h : kj j) : F_X12_once μ w lo hi 0 j = μ 0 j := by
  unfold F_X12_once
  repeat' split
  all_goals simp only [kz_next _ h, kz_bad _ _ _ h, kz_3, kz_20 _ _ h, kz_takes _ _ _ h]
theorem kz_fact (μ : zG) {j : Int} (h : kj j) : F_X12_readFact μ 0 j = μ 0 j := by
  unfold F_X12_readFact
  repeat' split
  all_goals simp only [kz_next _ h, kz_bad _ _ _ h, kz_3, kz_takes _ _ _ h, kz_takesName _ _ _ h, kz_fresh _ _ h]
theorem kz_knows (μ : zG) {j : Int} (h : kj j) : F_X12_readKnows μ 0 j = μ 0 j := by
  unfold F_X12_readKnows
  repeat' split
  all_goals simp only [kz_next _ h, kz_bad _ _ _ h, kz_3, kz_takesName _ _ _ h]
theorem kz_asks (μ : zG) {j : Int} (h : kj j) : F_X12_readAsks μ 0 j = μ 0 j := by
  unfold F_X12_readAsks
  repeat' split
  all_goals simp only [kz_next _ h, kz_bad _ _ _ h, kz_3, kz_takes _ _ _ h, kz_takesName _ _ _ h]
theorem kz_sinceL {to j : Int} (h : kj j) : ∀ (n : Nat) (q : Int) (μ : zG), (L_X12_readSince_35 to n q μ).2 0 j = μ 0 j
  | 0, q, μ => rfl
  | n + 1, q, μ => by
    rw [L_X12_readSince_35]
    repeat' split
    all_goals first
      | (dsimp only; exact kz_3 _ _ _ _)
      | (dsimp only; exact kz_bad _ _ _ h)
      | (rw [kz_sinceL h n (q + 1) _, kz_next _ h, kz_3])
theorem kz_since (μ : zG) {j : Int} (h : kj j) : F_X12_readSince μ 0 j = μ 0 j := by
  unfold F_X12_readSince R_X12_readSince
  split
  · exact kz_bad _ _ _ h
  · rw [kz_sinceL h, kz_next _ h]
theorem kz_line (μ : zG) {j : Int} (h : kj j) : F_X12_valleyLine μ 0 j = μ 0 j := by
  unfold F_X12_valleyLine
  repeat' split
  all_goals first
    | exact kz_bad _ _ _ h
    | exact kz_fact μ h
    | exact kz_knows μ h
    | exact kz_since μ h
    | exact kz_asks μ h
    | exact kz_once μ _ _ _ h
    | simp only [kz_next _ h, kz_3, kz_fresh _ _ h]
theorem nx_tok (σ : zG) : F_X12_next σ 0 11 = 0 ∨ F_X12_next σ 0 11 = 4 ∨ (σ 0 4 ≤ F_X12_next σ 0 12 ∧ F_X12_next σ 0 12 < F_X12_next σ 0 4 ∧ F_X12_next σ 0 12 < σ 0 5) := by
  have hS := skm_r (mu σ) (σ 0 3) 1000 (σ 0 4)
  have hC := fun h => pkc_lt (u := mu σ) (sz := σ 0 3) (p := skm (mu σ) (σ 0 3) 1000 (σ 0 4)) h
  have hG : lod (pkc (mu σ) (σ 0 3) (skm (mu σ) (σ 0 3) 1000 (σ 0 4))) → (skm (mu σ) (σ 0 3) 1000 (σ 0 4)) < (mtR (mu σ) (σ 0 3) (b2 (97 ≤ (pkc (mu σ) (σ 0 3) (skm (mu σ) (σ 0 3) 1000 (σ 0 4))) ∧ (pkc (mu σ) (σ 0 3) (skm (mu σ) (σ 0 3) 1000 (σ 0 4))) ≤ 122)) 1000 1 0 0 0 (skm (mu σ) (σ 0 3) 1000 (σ 0 4))).2.2.2.2 := fun hl => mtR_adv (n := 999) hl
  unfold lod at hG
  obtain ⟨τ, hF⟩ : ∃ τ, τ = F_X12_next σ := ⟨_, rfl⟩
  rw [← hF]
  unfold F_X12_next at hF
  generalize (mtR (mu σ) (σ 0 3) (b2 (97 ≤ (pkc (mu σ) (σ 0 3) (skm (mu σ) (σ 0 3) 1000 (σ 0 4))) ∧ (pkc (mu σ) (σ 0 3) (skm (mu σ) (σ 0 3) 1000 (σ 0 4))) ≤ 122)) 1000 1 0 0 0 (skm (mu σ) (σ 0 3) 1000 (σ 0 4))) = T at *
  generalize (pkc (mu σ) (σ 0 3) (skm (mu σ) (σ 0 3) 1000 (σ 0 4))) = C at *
  generalize (skm (mu σ) (σ 0 3) 1000 (σ 0 4)) = Q at *
  repeat' split at hF
  all_goals subst hF
  all_goals simp [zu]
  all_goals omega
