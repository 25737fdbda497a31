/-! pure: a book that is drawn, on both sides -/
theorem draw_eq {σ μ : zG} (h : σ 97 0 = μ 0 27) {n : Int} (hn : 0 < n) : V_X1_draw σ n = V_X12_draw μ n ∧ F_X1_draw σ n 97 0 = F_X12_draw μ n 0 27 := by
  unfold V_X1_draw V_X12_draw F_X1_draw F_X12_draw
  rw [if_neg (by omega), zu_at, zu_at, h]
  exact ⟨rfl, rfl⟩
theorem xd_r (σ : zG) (n : Int) {k : Nat} (h : k ≠ 97) : F_X1_draw σ n k = σ k := zu_row _ _ _ h
theorem md_r (μ : zG) (n : Int) {k : Nat} (h : k ≠ 0) : F_X12_draw μ n k = μ k := zu_row _ _ _ h
theorem md_0 (μ : zG) (n : Int) {j : Int} (h : j ≠ 27) : F_X12_draw μ n 0 j = μ 0 j := zu_off _ _ _ h
/-- how a drawn book came out on both sides -/
def DO (x P F : Int) (μ0 τ : zG) (s : Int × zG) : Prop := ∃ ν : zG, s = (x, R_X12_keepBook ν) ∧ BB (τ 28) (τ 29) (τ 30) (τ 31) (τ 32) (τ 33) (τ 34) (τ 27 0) (τ 27 1) (ν 4) (ν 8) P F ∧ (τ 27 0 = x ∧ ν 0 21 = x) ∧ ds (ν 4) x.toNat ≤ x ∧ (∀ k : Nat, k ≠ 0 → k ≠ 4 → k ≠ 8 → ν k = μ0 k) ∧ ∀ j : Int, j ≠ 21 → j ≠ 22 → j ≠ 27 → ν 0 j = μ0 0 j
/-- a book half drawn -/
def DQ (q P F : Int) (μ0 σ μ : zG) : Prop := (σ 5 0 = P ∧ μ 2 0 = P ∧ σ 5 1 = F ∧ μ 2 1 = F) ∧ σ 97 0 = μ 0 27 ∧ BB (σ 28) (σ 29) (σ 30) (σ 31) (σ 32) (σ 33) (σ 34) (σ 27 0) (σ 27 1) (μ 4) (μ 8) P F ∧ (σ 27 0 = q ∧ μ 0 21 = q ∧ σ 27 1 = μ 0 22) ∧ (ds (μ 4) q.toNat ≤ q ∧ σ 27 1 ≤ q) ∧ (∀ k : Nat, k ≠ 0 → k ≠ 4 → k ≠ 8 → μ k = μ0 k) ∧ ∀ j : Int, j ≠ 21 → j ≠ 22 → j ≠ 27 → μ 0 j = μ0 0 j
theorem DQ_add {q P F on an f wh ex dy : Int} {μ0 σ μ σd σx μd μx : zG} (h : DQ q P F μ0 σ μ) (hq : q < 60) (a : ∀ k : Nat, k ≠ 97 → σd k = σ k) (b : ∀ k : Nat, k ≠ 0 → μd k = μ k) (b0 : ∀ j : Int, j ≠ 27 → μd 0 j = μ 0 j) (s : σd 97 0 = μd 0 27) (ex1 : σx = zu σd 27 1 dy) (mx1 : μx = zu μd 0 22 dy) (v : LV P F wh on an f ex 0) (y0 : wh = 0 → dy = on ∧ σ 27 1 ≤ dy ∧ 0 ≤ dy ∧ dy ≤ 999) (y1 : wh ≠ 0 → dy = σ 27 1) (dd : dk wh ex ≤ 1) (yq : dy ≤ q + 1) : DQ (q + 1) P F μ0 (F_X0_add_27 σx wh on an f ex 0) (zu (F_X12_put μx (5 * q) wh on an f ex) 0 21 (q + 1)) := by
  obtain ⟨⟨p1, p2, p3, p4⟩, hs, hB, ⟨h1, h2, h3⟩, ⟨h4, h5⟩, h6, h7⟩ := h
  have hx : ∀ k : Nat, k ≠ 27 → σx k = σd k := fun k hk => by rw [ex1, zu_row _ _ _ hk]
  have x0 : σx 27 0 = q := by rw [ex1, zu_off _ _ _ (by decide), a 27 (by decide)]; exact h1
  have x1 : σx 27 1 = dy := by rw [ex1, zu_at]
  have xr : ∀ k : Nat, k ≠ 97 → k ≠ 27 → σx k = σ k := fun k h9 h2 => by rw [hx k h2, a k h9]
  have m4 : μx 4 = μ 4 := by rw [mx1, zu_row _ _ _ (by decide), b 4 (by decide)]
  have m8 : μx 8 = μ 8 := by rw [mx1, zu_row _ _ _ (by decide), b 8 (by decide)]
  have mr : ∀ k : Nat, k ≠ 0 → μx k = μ k := fun k hk => by rw [mx1, zu_row _ _ _ hk, b k hk]
  have m22 : μx 0 22 = dy := by rw [mx1, zu_at]
  have m27 : μx 0 27 = μd 0 27 := by rw [mx1, zu_off _ _ _ (by decide)]
  have mz : ∀ j : Int, j ≠ 22 → j ≠ 27 → μx 0 j = μ 0 j := fun j j2 j7 => by rw [mx1, zu_off _ _ _ j2, b0 j j7]
  have hBx : BB (σx 28) (σx 29) (σx 30) (σx 31) (σx 32) (σx 33) (σx 34) (σx 27 0) (σ 27 1) (μ 4) (μ 8) P F := by
    rw [xr 28 (by decide) (by decide), xr 29 (by decide) (by decide), xr 30 (by decide) (by decide), xr 31 (by decide) (by decide), xr 32 (by decide) (by decide), xr 33 (by decide) (by decide), xr 34 (by decide) (by decide), x0, ← h1]
    exact hB
  have q0 : 0 ≤ q := by have := hB.1.1; omega
  obtain ⟨q1, q2, q3, q4⟩ := put_rows μx (n := q) wh on an f ex
  have pr : ∀ k : Nat, k ≠ 4 → k ≠ 8 → F_X12_put μx (5 * q) wh on an f ex k = μx k := fun k k4 k8 => fr_F_X12_put _ _ _ _ _ _ _ (by simp; omega)
  generalize F_X12_put μx (5 * q) wh on an f ex = ν at *
  have add := bb_add27 (σ := σx) (L' := ν 4) (O' := ν 8) (wh := wh) (on := on) (an := an) (f := f) (ex := ex) (tu := 0) hBx (by rw [x0]; exact hq) (fun j j0 j1 => by rw [x0] at j1; rw [q1 j j0 j1, m4]) (fun i i0 i1 => by rw [x0] at i1; rw [q3 i (by omega), m8]) (by rw [x0]; exact q2) (by rw [x0]; exact q4) v (by rw [x0, x1]; exact fun z => ⟨(y0 z).1, Or.inr (y0 z).2.1, (y0 z).2.2⟩) (by rw [x1]; exact y1)
  have ar := (add27_rows (σ := σx) (by rw [x0]; exact hq) wh on an f ex 0).1
  have fr : ∀ k : Nat, k < 27 ∨ 34 < k → F_X0_add_27 σx wh on an f ex 0 k = σx k := fun k hk => fr_F_X0_add_27 _ _ _ _ _ _ _ (by simp; omega)
  have n4 : zu ν 0 21 (q + 1) 4 = ν 4 := zu_row _ _ _ (by decide)
  have n8 : zu ν 0 21 (q + 1) 8 = ν 8 := zu_row _ _ _ (by decide)
  have nz : ∀ j : Int, j ≠ 21 → zu ν 0 21 (q + 1) 0 j = μx 0 j := fun j hj => by rw [zu_off _ _ _ hj, pr 0 (by decide) (by decide)]
  have nr : ∀ k : Nat, k ≠ 0 → k ≠ 4 → k ≠ 8 → zu ν 0 21 (q + 1) k = μ k := fun k k0 k4 k8 => by rw [zu_row _ _ _ k0, pr k k4 k8, mr k k0]
  refine ⟨⟨?_, ?_, ?_, ?_⟩, ?_, ?_, ⟨?_, zu_at _ _ _ _, ?_⟩, ⟨?_, ?_⟩, fun k k0 k4 k8 => ?_, fun j j1 j2 j7 => ?_⟩
  · rw [fr 5 (by decide), xr 5 (by decide) (by decide)]; exact p1
  · rw [nr 2 (by decide) (by decide) (by decide)]; exact p2
  · rw [fr 5 (by decide), xr 5 (by decide) (by decide)]; exact p3
  · rw [nr 2 (by decide) (by decide) (by decide)]; exact p4
  · rw [fr 97 (by decide), hx 97 (by decide), nz 27 (by decide), m27]; exact s
  · rw [n4, n8]; exact add.1
  · rw [ar.1, x0]
  · rw [ar.2, x1, nz 22 (by decide), m22]
  · have d1 := add.2
    rw [ar.1, x0] at d1
    rw [n4, d1]; omega
  · rw [ar.2, x1]; exact yq
  · rw [nr k k0 k4 k8]; exact h6 k k0 k4 k8
  · rw [nz j j1, mz j j2 j7]; exact h7 j j1 j2 j7
theorem zu_id (σ : zG) (a : Nat) (i : Int) : zu σ a i (σ a i) = σ := by
  funext k j
  by_cases c : k = a
  · subst c
    rw [zu_if]
    by_cases e : j = i
    · rw [if_pos e, e]
    · rw [if_neg e]
  · rw [zu_ne _ _ _ _ c]
set_option maxRecDepth 20000 in
theorem draw_loop {x sd P F : Int} {μ0 : zG} (hP8 : 2 ≤ P ∧ P ≤ 8) (hF : 1 ≤ F ∧ F ≤ 12) (hx : 1 ≤ x ∧ x ≤ 60) : ∀ (n n' : Nat) (q : Int) (σ μ : zG), DQ q P F μ0 σ μ → q ≤ x → (x - q).toNat < n → (x - q).toNat < n' → DO x P F μ0 (L_X0_draw_7 x n q σ) (L_X12_drawn_51 x sd n' μ)
  | 0, _, q, σ, μ, _, _, h, _ => absurd h (Nat.not_lt_zero _)
  | _ + 1, 0, q, σ, μ, _, _, _, h => absurd h (Nat.not_lt_zero _)
  | n + 1, n' + 1, q, σ, μ, hQ, hqx, hm, hm' => by
    obtain ⟨⟨p1, p2, p3, p4⟩, hs, hB, ⟨h1, h2, h3⟩, ⟨h4, h5⟩, h6, h7⟩ := id hQ
    have q0 : 0 ≤ q := by have := hB.1.1; omega
    have ldr := BY_ld hB.2.2 hB.1.1
    rw [L_X0_draw_7, L_X12_drawn_51, h2]
    by_cases c : x ≤ q
    · have e : q = x := by omega
      rw [if_pos c, if_pos c]
      exact ⟨μ, rfl, hB, ⟨by omega, by omega⟩, by rw [← e]; exact h4, h6, h7⟩
    · rw [if_neg c, if_neg c]
      have d1 := draw_eq hs (n := 8) (by decide)
      have d2 := draw_eq d1.2 (n := P) (by omega)
      have d3 := draw_eq d2.2 (n := P) (by omega)
      have d4 := draw_eq d3.2 (n := F) (by omega)
      have d5 := draw_eq d4.2 (n := 20) (by decide)
      have r1 := draw_r μ 8 (by decide)
      have r2 := draw_r (F_X12_draw μ 8) P (by omega)
      have r3 := draw_r (F_X12_draw (F_X12_draw μ 8) P) P (by omega)
      have r4 := draw_r (F_X12_draw (F_X12_draw (F_X12_draw μ 8) P) P) F (by omega)
      have r5 := draw_r (F_X12_draw (F_X12_draw (F_X12_draw (F_X12_draw μ 8) P) P) F) 20 (by decide)
      have s4 := d4.2
      have s5 := d5.2
      have a4 : ∀ k : Nat, k ≠ 97 → (F_X1_draw (F_X1_draw (F_X1_draw (F_X1_draw σ 8) P) P) F) k = σ k := fun k hk => by rw [xd_r _ _ hk, xd_r _ _ hk, xd_r _ _ hk, xd_r _ _ hk]
      have a5 : ∀ k : Nat, k ≠ 97 → (F_X1_draw (F_X1_draw (F_X1_draw (F_X1_draw (F_X1_draw σ 8) P) P) F) 20) k = σ k := fun k hk => by rw [xd_r _ _ hk]; exact a4 k hk
      have b4 : ∀ k : Nat, k ≠ 0 → (F_X12_draw (F_X12_draw (F_X12_draw (F_X12_draw μ 8) P) P) F) k = μ k := fun k hk => by rw [md_r _ _ hk, md_r _ _ hk, md_r _ _ hk, md_r _ _ hk]
      have b5 : ∀ k : Nat, k ≠ 0 → (F_X12_draw (F_X12_draw (F_X12_draw (F_X12_draw (F_X12_draw μ 8) P) P) F) 20) k = μ k := fun k hk => by rw [md_r _ _ hk]; exact b4 k hk
      have z4 : ∀ j : Int, j ≠ 27 → (F_X12_draw (F_X12_draw (F_X12_draw (F_X12_draw μ 8) P) P) F) 0 j = μ 0 j := fun j hj => by rw [md_0 _ _ hj, md_0 _ _ hj, md_0 _ _ hj, md_0 _ _ hj]
      have z5 : ∀ j : Int, j ≠ 27 → (F_X12_draw (F_X12_draw (F_X12_draw (F_X12_draw (F_X12_draw μ 8) P) P) F) 20) 0 j = μ 0 j := fun j hj => by rw [md_0 _ _ hj]; exact z4 j hj
      rw [p1, p2, p3, p4, d1.1, d2.1, d3.1, d4.1, d5.1]
      clear d1 d2 d3 d4 d5
      generalize V_X12_draw (F_X12_draw (F_X12_draw (F_X12_draw (F_X12_draw μ 8) P) P) F) 20 = ex at *
      generalize V_X12_draw (F_X12_draw (F_X12_draw (F_X12_draw μ 8) P) P) F = f at *
      generalize V_X12_draw (F_X12_draw (F_X12_draw μ 8) P) P = ot at *
      generalize V_X12_draw (F_X12_draw μ 8) P = one at *
      generalize V_X12_draw μ 8 = wt at *
      generalize (F_X1_draw (F_X1_draw (F_X1_draw (F_X1_draw (F_X1_draw σ 8) P) P) F) 20) = σ5 at *
      generalize (F_X1_draw (F_X1_draw (F_X1_draw (F_X1_draw σ 8) P) P) F) = σ4 at *
      generalize (F_X12_draw (F_X12_draw (F_X12_draw (F_X12_draw (F_X12_draw μ 8) P) P) F) 20) = μ5 at *
      generalize (F_X12_draw (F_X12_draw (F_X12_draw (F_X12_draw μ 8) P) P) F) = μ4 at *
      have go : ∀ (σd μd : zG) (wh an ex : Int), (∀ k : Nat, k ≠ 97 → σd k = σ k) → (∀ k : Nat, k ≠ 0 → μd k = μ k) → (∀ j : Int, j ≠ 27 → μd 0 j = μ 0 j) → σd 97 0 = μd 0 27 → 1 ≤ wh → wh ≤ 4 → 0 ≤ an → an < P → one ≠ an → 0 ≤ ex → ex ≤ 99 → (wh = 1 → ex = 0) → DO x P F μ0 (L_X0_draw_7 x n (q + 1) (F_X0_add_27 σd wh one an f ex 0)) (L_X12_drawn_51 x sd n' (zu (F_X12_put μd (5 * q) wh one an f ex) 0 21 (q + 1))) := by
        intro σd μd wh an ex a b b0 s w1 w4 an0 an1 hne e0 e9 e1
        refine draw_loop hP8 hF hx n n' (q + 1) _ _ ?_ (by omega) (by omega) (by omega)
        refine DQ_add (dy := σ 27 1) hQ (by omega) a b b0 s ?_ ?_ ⟨by omega, fun _ => ⟨r2, ⟨an0, an1⟩, hne, r4⟩, fun x => ?_, fun _ => ⟨e0, e9⟩⟩ (fun x => by omega) (fun _ => rfl) ?_ (by omega)
        · rw [← a 27 (by decide), zu_id]
        · rw [h3, ← b0 22 (by decide), zu_id]
        · rw [e1 x, pcn_at_0]
          exact ⟨⟨by decide, by decide⟩, fun j j0 j1 => hb_0 ⟨by omega, by omega⟩, by decide, fun k k0 k1 => by omega⟩
        · unfold dk
          split
          · rename_i x
            rw [e1 x, pcn_at_0]; decide
          · split <;> omega
      have day : DO x P F μ0 (L_X0_draw_7 x n (q + 1) (F_X0_addDay_27 σ4 (w32 (σ 27 1 + 1)))) (L_X12_drawn_51 x sd n' (zu (F_X12_put (zu μ4 0 22 (w32 (μ 0 22 + 1))) (5 * q) 0 (w32 (μ 0 22 + 1)) (-1) (-1) 0) 0 21 (q + 1))) := by
        rw [← h3, w32_id (z := σ 27 1 + 1) ⟨by omega, by omega⟩]
        unfold F_X0_addDay_27
        refine draw_loop hP8 hF hx n n' (q + 1) _ _ ?_ (by omega) (by omega) (by omega)
        exact DQ_add (dy := σ 27 1 + 1) hQ (by omega) a4 b4 z4 s4 rfl rfl ⟨by decide, fun x => absurd rfl x, fun x => absurd x (by decide), fun x => absurd x (by decide)⟩ (fun _ => ⟨rfl, by omega, by omega, by omega⟩) (fun x => absurd rfl x) (by decide) (by omega)
      have tree : ∀ an : Int, 0 ≤ an → an < P → one ≠ an → DO x P F μ0 (if wt = 0 then (L_X0_draw_7 x n (q + 1) (F_X0_addDay_27 σ4 (w32 (σ 27 1 + 1)))) else (if wt = 1 then (L_X0_draw_7 x n (q + 1) (F_X0_add_27 σ4 1 one an f 0 0)) else (if wt = 2 then (L_X0_draw_7 x n (q + 1) (F_X0_add_27 σ4 1 one an f 0 0)) else (if wt = 3 then (L_X0_draw_7 x n (q + 1) (F_X0_add_27 σ4 2 one an f 0 0)) else (if wt = 4 then (L_X0_draw_7 x n (q + 1) (F_X0_add_27 σ5 4 one an f ex 0)) else (L_X0_draw_7 x n (q + 1) (F_X0_add_27 σ4 3 one an f 0 0))))))) (if wt = 0 then (L_X12_drawn_51 x sd n' (zu (F_X12_put (zu μ4 0 22 (w32 (μ 0 22 + 1))) (5 * q) 0 (w32 (μ 0 22 + 1)) (-1) (-1) 0) 0 21 (q + 1))) else (if 3 ≤ wt then (if wt = 3 then (L_X12_drawn_51 x sd n' (zu (F_X12_put μ4 (5 * q) 2 one an f 0) 0 21 (q + 1))) else (if wt = 4 then (L_X12_drawn_51 x sd n' (zu (F_X12_put μ5 (5 * q) 4 one an f ex) 0 21 (q + 1))) else (L_X12_drawn_51 x sd n' (zu (F_X12_put μ4 (5 * q) 3 one an f 0) 0 21 (q + 1))))) else (L_X12_drawn_51 x sd n' (zu (F_X12_put μ4 (5 * q) 1 one an f 0) 0 21 (q + 1))))) := by
        intro an an0 an1 hne
        by_cases c0 : wt = 0
        · rw [if_pos c0, if_pos c0]; exact day
        · rw [if_neg c0, if_neg c0]
          by_cases c3 : 3 ≤ wt
          · rw [if_pos c3, if_neg (show ¬ wt = 1 by omega), if_neg (show ¬ wt = 2 by omega)]
            by_cases e3 : wt = 3
            · rw [if_pos e3, if_pos e3]
              exact go σ4 μ4 2 an 0 a4 b4 z4 s4 (by decide) (by decide) an0 an1 hne (by decide) (by decide) (fun _ => rfl)
            · rw [if_neg e3, if_neg e3]
              by_cases e4 : wt = 4
              · rw [if_pos e4, if_pos e4]
                exact go σ5 μ5 4 an ex a5 b5 z5 s5 (by decide) (by decide) an0 an1 hne r5.1 (by omega) (fun x => absurd x (by decide))
              · rw [if_neg e4, if_neg e4]
                exact go σ4 μ4 3 an 0 a4 b4 z4 s4 (by decide) (by decide) an0 an1 hne (by decide) (by decide) (fun _ => rfl)
          · rw [if_neg c3]
            have g1 := go σ4 μ4 1 an 0 a4 b4 z4 s4 (by decide) (by decide) an0 an1 hne (by decide) (by decide) (fun _ => rfl)
            by_cases e1 : wt = 1
            · rw [if_pos e1]; exact g1
            · rw [if_neg e1, if_pos (show wt = 2 by omega)]; exact g1
      by_cases co : ot = one
      · rw [if_pos co, if_pos co]
        by_cases cp : P ≤ one + 1
        · rw [if_pos cp, show (one + 1) % P = 0 by rw [show one + 1 = P by omega, Int.emod_self]]
          exact tree 0 (by decide) (by omega) (by omega)
        · rw [if_neg cp, show (one + 1) % P = one + 1 from Int.emod_eq_of_lt (by omega) (by omega)]
          exact tree (one + 1) (by omega) (by omega) (by omega)
      · rw [if_neg co, if_neg co]
        exact tree ot r3.1 r3.2 (fun x => co x.symm)
/-- a book drawn and taken over on both sides -/
theorem drawn_ok {σ μ : zG} (hV : VS σ μ) {x sd : Int} (hx : 1 ≤ x ∧ x ≤ 60) (hp2 : 2 ≤ μ 2 0) (hf1 : 1 ≤ μ 2 1) : R_X0_draw (zu σ 97 0 sd) x 27 0 = x ∧ (R_X12_drawn μ x sd).1 = x ∧ BK (R_X0_draw (zu σ 97 0 sd) x) (R_X12_drawn μ x sd).2 ∧ DD (R_X0_draw (zu σ 97 0 sd) x) ∧ (∀ j : Int, j < 172 ∨ 473 ≤ j → (R_X12_drawn μ x sd).2 2 j = μ 2 j) ∧ (∀ k : Nat, k ≠ 0 → k ≠ 2 → k ≠ 4 → k ≠ 8 → k ≠ 9 → (R_X12_drawn μ x sd).2 k = μ k) ∧ ∀ j : Int, j ≠ 0 → j ≠ 21 → j ≠ 22 → j ≠ 27 → (R_X12_drawn μ x sd).2 0 j = μ 0 j := by
  have hp := hV.1
  have hf := hV.2.1
  have eM : R_X12_drawn μ x sd = L_X12_drawn_51 x sd 70 (zu (zu (zu (zu μ 0 0 0) 0 27 sd) 0 22 0) 0 21 0) := by
    unfold R_X12_drawn
    rw [if_pos hx, if_neg (by omega), if_neg (by omega)]
  have o : ∀ k : Nat, k ≠ 97 → k ≠ 27 → F_X0_clear_27 (zu σ 97 0 sd) k = σ k := fun k h9 h2 => by unfold F_X0_clear_27; rw [zu_row _ _ _ h2, zu_row _ _ _ h2, zu_row _ _ _ h9]
  have o97 : F_X0_clear_27 (zu σ 97 0 sd) 97 0 = sd := by unfold F_X0_clear_27; rw [zu_ne _ _ _ _ (by decide), zu_ne _ _ _ _ (by decide), zu_at]
  have o0 : F_X0_clear_27 (zu σ 97 0 sd) 27 0 = 0 := by unfold F_X0_clear_27; rw [zu_off _ _ _ (by decide), zu_at]
  have o1 : F_X0_clear_27 (zu σ 97 0 sd) 27 1 = 0 := by unfold F_X0_clear_27; rw [zu_at]
  have t : ∀ k : Nat, k ≠ 0 → zu (zu (zu (zu μ 0 0 0) 0 27 sd) 0 22 0) 0 21 0 k = μ k := fun k hk => by rw [zu_row _ _ _ hk, zu_row _ _ _ hk, zu_row _ _ _ hk, zu_row _ _ _ hk]
  have t27 : zu (zu (zu (zu μ 0 0 0) 0 27 sd) 0 22 0) 0 21 0 0 27 = sd := by rw [zu_off _ _ _ (by decide), zu_off _ _ _ (by decide), zu_at]
  have t21 : zu (zu (zu (zu μ 0 0 0) 0 27 sd) 0 22 0) 0 21 0 0 21 = 0 := zu_at _ _ _ _
  have t22 : zu (zu (zu (zu μ 0 0 0) 0 27 sd) 0 22 0) 0 21 0 0 22 = 0 := by rw [zu_off _ _ _ (by decide), zu_at]
  have tz : ∀ j : Int, j ≠ 0 → j ≠ 21 → j ≠ 22 → j ≠ 27 → zu (zu (zu (zu μ 0 0 0) 0 27 sd) 0 22 0) 0 21 0 0 j = μ 0 j := fun j j0 j1 j2 j7 => by rw [zu_off _ _ _ j1, zu_off _ _ _ j2, zu_off _ _ _ j7, zu_off _ _ _ j0]
  unfold R_X0_draw
  rw [eM]
  generalize zu (zu (zu (zu μ 0 0 0) 0 27 sd) 0 22 0) 0 21 0 = μ1 at *
  generalize F_X0_clear_27 (zu σ 97 0 sd) = σ1 at *
  have hQ : DQ 0 (μ 2 0) (μ 2 1) μ1 σ1 μ1 := by
    refine ⟨⟨?_, ?_, ?_, ?_⟩, ?_, ?_, ⟨o0, t21, ?_⟩, ⟨?_, ?_⟩, fun _ _ _ _ => rfl, fun _ _ _ _ => rfl⟩
    · rw [o 5 (by decide) (by decide)]; exact hp.1
    · rw [t 2 (by decide)]
    · rw [o 5 (by decide) (by decide)]; exact hf.1
    · rw [t 2 (by decide)]
    · rw [o97, t27]
    · rw [o0, o1]
      exact ⟨⟨by decide, by decide⟩, fun i i0 i1 => by omega, fun i i0 i1 => by omega, rfl, fun i j i0 ij j1 => by omega, fun i i0 i1 => by omega⟩
    · rw [o1, t22]
    · exact Int.le_refl 0
    · rw [o1]; decide
  obtain ⟨ν, e, hB, ⟨x1, x2⟩, hd, hr, hz⟩ := draw_loop (sd := sd) ⟨hp2, hp.2.2⟩ ⟨hf1, hf.2.2⟩ hx 70 70 0 σ1 μ1 hQ (by omega) (by omega) (by omega)
  rw [e]
  obtain ⟨k1, k2, k3, k4, k5⟩ := keep_rows (μ := ν) (by omega)
  have hb := hB
  rw [x1] at hb
  have fin := bb_fin (σ := L_X0_draw_7 x 70 0 σ1) (μ := R_X12_keepBook ν) hb (by omega) ⟨x1, rfl⟩ (fun i _ _ => ⟨rfl, rfl, rfl, rfl, rfl, rfl, rfl⟩) (by rw [k1, k3 0 (by omega), k3 1 (by omega), hr 2 (by decide) (by decide) (by decide), t 2 (by decide)]; exact ⟨x2, rfl, rfl⟩) (by rw [x2] at k2; exact k2) (by rw [x2] at k4; exact k4)
  refine ⟨x1, rfl, fin.1, fin.2, fun j hj => ?_, fun k k0 k2' k4' k8 k9 => ?_, fun j j0 j1 j2 j7 => ?_⟩
  · show R_X12_keepBook ν 2 j = μ 2 j
    rw [k3 j (by omega), hr 2 (by decide) (by decide) (by decide), t 2 (by decide)]
  · show R_X12_keepBook ν k = μ k
    rw [k5 k k2' k9, hr k k0 k4' k8, t k k0]
  · show R_X12_keepBook ν 0 j = μ 0 j
    rw [k5 0 (by decide) (by decide), hz j j1 j2 j7, tz j j0 j1 j2 j7]
