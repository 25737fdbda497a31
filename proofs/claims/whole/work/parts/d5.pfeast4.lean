/-! pure: the model's feast: its table and its choice -/
theorem my113 {kk : Int} {ν : zG} {F : Int} {may : Int → Prop} (hF : F ≤ 12) (e : ν 2 1 = F) (hm : ∀ f : Int, 0 ≤ f → f < F → (may f ↔ ¬ R_X12_mayPay ν (ν 28 kk) f = 0)) : ∀ (m : Nat) (my f : Int), 0 ≤ f → (F - f).toNat < m → 0 ≤ my ∧ my < 4096 → (0 ≤ (S_X12_feasts_113 kk m my f ν).1 ∧ (S_X12_feasts_113 kk m my f ν).1 < 4096) ∧ ∀ j : Int, 0 ≤ j → j < 12 → (hb (S_X12_feasts_113 kk m my f ν).1 j ↔ hb my j ∨ (f ≤ j ∧ j < F ∧ may j))
  | 0, my, f, _, h, _ => absurd h (Nat.not_lt_zero _)
  | m + 1, my, f, f0, h, r => by
    rw [S_X12_feasts_113, e]
    by_cases c : F ≤ f
    · rw [if_pos c]
      exact ⟨r, fun j j0 j1 => ⟨Or.inl, fun x => x.elim id (fun y => absurd y.2.1 (by omega))⟩⟩
    · rw [if_neg c]
      have b0 : bor my 0 = my := hb_ext (bor_r r ⟨by decide, by decide⟩) r (fun i i0 i1 => by
        rw [hb_bor r ⟨by decide, by decide⟩ ⟨i0, by omega⟩]
        exact ⟨fun x => x.elim id (fun y => absurd y (hb_0 ⟨i0, by omega⟩)), Or.inl⟩)
      by_cases c1 : R_X12_mayPay ν (ν 28 kk) f = 0
      · rw [if_pos c1, b0]
        have ih := my113 (kk := kk) (may := may) hF e hm m my (f + 1) (by omega) (by omega) r
        refine ⟨ih.1, fun j j0 j1 => ?_⟩
        rw [ih.2 j j0 j1]
        refine ⟨fun x => x.elim Or.inl (fun y => Or.inr ⟨by omega, y.2⟩), fun x => x.elim Or.inl (fun y => Or.inr ⟨?_, y.2⟩)⟩
        have : j ≠ f := fun z => ((hm f f0 (by omega)).mp (by rw [← z]; exact y.2.2)) c1
        omega
      · rw [if_neg c1]
        have br := bit_r (c := f) ⟨f0, by omega⟩
        have ih := my113 (kk := kk) (may := may) hF e hm m (bor my (bshl 1 f)) (f + 1) (by omega) (by omega) (bor_r r br)
        refine ⟨ih.1, fun j j0 j1 => ?_⟩
        rw [ih.2 j j0 j1, hb_bor r br ⟨j0, by omega⟩, hb_bit ⟨f0, by omega⟩ ⟨j0, by omega⟩]
        constructor
        · rintro ((x | x) | x)
          · exact Or.inl x
          · exact Or.inr ⟨by omega, by omega, by rw [x]; exact (hm f f0 (by omega)).mpr c1⟩
          · exact Or.inr ⟨by omega, x.2⟩
        · rintro (x | x)
          · exact Or.inl (Or.inl x)
          · by_cases y : j = f
            · exact Or.inl (Or.inr y)
            · exact Or.inr ⟨by omega, x.2⟩
/-- the greatest with one more debt -/
theorem be181 {kk my st F : Int} {ν : zG} {h : Int → Int} (hF : F ≤ 12) (e : ν 2 1 = F) (eh : ∀ f : Int, 0 ≤ f → f < F → ν 2 ((8 + (3 * f)) + 1) = h f ∧ 0 ≤ h f ∧ h f ≤ 99) (hr : ∀ s : Int, 0 ≤ s → s < 4096 → 0 ≤ ν 26 ((4096 * (kk + 1)) + s) ∧ ν 26 ((4096 * (kk + 1)) + s) ≤ 1000000) (hst : 0 ≤ st ∧ st < 4096) : ∀ (m : Nat) (be f : Int), 0 ≤ f → (F - f).toNat < m → be ≤ (S_X12_feasts_181 kk my st m be f ν).1 ∧ (∀ j : Int, f ≤ j → j < F → ¬ hb st j → hb my j → 100000 - h j + ν 26 ((4096 * (kk + 1)) + bor st (bshl 1 j)) ≤ (S_X12_feasts_181 kk my st m be f ν).1) ∧ ((S_X12_feasts_181 kk my st m be f ν).1 = be ∨ ∃ j : Int, (f ≤ j ∧ j < F) ∧ ¬ hb st j ∧ hb my j ∧ (S_X12_feasts_181 kk my st m be f ν).1 = 100000 - h j + ν 26 ((4096 * (kk + 1)) + bor st (bshl 1 j)))
  | 0, be, f, _, hm => absurd hm (Nat.not_lt_zero _)
  | m + 1, be, f, f0, hm => by
    rw [S_X12_feasts_181, e]
    by_cases c : F ≤ f
    · rw [if_pos c]
      exact ⟨Int.le_refl _, fun j j0 j1 => absurd j1 (by omega), Or.inl rfl⟩
    · rw [if_neg c]
      have ih := fun be => be181 (kk := kk) (my := my) (st := st) hF e eh hr hst m be (f + 1) (by omega) (by omega)
      have skip : ∀ be : Int, (¬ hb st f → hb my f → 100000 - h f + ν 26 ((4096 * (kk + 1)) + bor st (bshl 1 f)) ≤ be) → be ≤ (S_X12_feasts_181 kk my st m be (f + 1) ν).1 ∧ (∀ j : Int, f ≤ j → j < F → ¬ hb st j → hb my j → 100000 - h j + ν 26 ((4096 * (kk + 1)) + bor st (bshl 1 j)) ≤ (S_X12_feasts_181 kk my st m be (f + 1) ν).1) ∧ ((S_X12_feasts_181 kk my st m be (f + 1) ν).1 = be ∨ ∃ j : Int, (f ≤ j ∧ j < F) ∧ ¬ hb st j ∧ hb my j ∧ (S_X12_feasts_181 kk my st m be (f + 1) ν).1 = 100000 - h j + ν 26 ((4096 * (kk + 1)) + bor st (bshl 1 j))) := by
        intro be hbe
        have i := ih be
        refine ⟨i.1, fun j j0 j1 a b => ?_, ?_⟩
        · by_cases x : j = f
          · subst x
            have := hbe a b
            have := i.1
            omega
          · exact i.2.1 j (by omega) j1 a b
        · rcases i.2.2 with x | ⟨j, j0, x⟩
          · exact Or.inl x
          · exact Or.inr ⟨j, ⟨by omega, j0.2⟩, x⟩
      by_cases c1 : hb st f
      · rw [if_pos c1]
        exact skip be (fun x => absurd c1 x)
      · rw [if_neg c1]
        by_cases c2 : hb my f
        · rw [if_pos c2]
          have eh' := eh f f0 (by omega)
          have br := bor_r hst (bit_r (c := f) ⟨f0, by omega⟩)
          have hr' := hr _ br.1 br.2
          rw [eh'.1, w32_id (z := 100000 - h f) ⟨by omega, by omega⟩, w32_id (z := 100000 - h f + ν 26 ((4096 * (kk + 1)) + bor st (bshl 1 f))) ⟨by omega, by omega⟩]
          by_cases c3 : 100000 - h f + ν 26 ((4096 * (kk + 1)) + bor st (bshl 1 f)) ≤ be
          · rw [if_pos c3]
            exact skip be (fun _ _ => c3)
          · rw [if_neg c3]
            have s := skip (100000 - h f + ν 26 ((4096 * (kk + 1)) + bor st (bshl 1 f))) (fun _ _ => Int.le_refl _)
            refine ⟨by have := s.1; omega, s.2.1, ?_⟩
            rcases s.2.2 with x | x
            · exact Or.inr ⟨f, ⟨Int.le_refl _, by omega⟩, c1, c2, x⟩
            · exact Or.inr x
        · rw [if_neg c2]
          exact skip be (fun _ x => absurd x c2)
/-- a row of the table is right: kk against kk + 1 -/
def RK (F : Int) (may : Int → Prop) (h t : Int → Int) (kk st : Int) : Prop := (t ((4096 * (kk + 1)) + st) ≤ t ((4096 * kk) + st) ∧ ∀ f : Int, 0 ≤ f → f < F → ¬ hb st f → may f → 100000 - h f + t ((4096 * (kk + 1)) + bor st (bshl 1 f)) ≤ t ((4096 * kk) + st)) ∧ (t ((4096 * kk) + st) = t ((4096 * (kk + 1)) + st) ∨ ∃ f : Int, (0 ≤ f ∧ f < F) ∧ ¬ hb st f ∧ may f ∧ t ((4096 * kk) + st) = 100000 - h f + t ((4096 * (kk + 1)) + bor st (bshl 1 f)))
theorem row155 {kk my F : Int} {h : Int → Int} {may : Int → Prop} (hF : F ≤ 12) (hmy : ∀ j : Int, 0 ≤ j → j < F → (hb my j ↔ may j)) (eh0 : ∀ f : Int, 0 ≤ f → f < F → 0 ≤ h f ∧ h f ≤ 99) : ∀ (m : Nat) (st : Int) (ν : zG), 0 ≤ st → (4096 - st).toNat < m → ν 2 1 = F → (∀ f : Int, 0 ≤ f → f < F → ν 2 ((8 + (3 * f)) + 1) = h f) → (∀ s : Int, 0 ≤ s → s < 4096 → 0 ≤ ν 26 ((4096 * (kk + 1)) + s) ∧ ν 26 ((4096 * (kk + 1)) + s) ≤ 1000000) → (∀ i : Int, (4096 * (kk + 1)) ≤ i ∨ i < (4096 * kk) + st → (S_X12_feasts_155 kk my m st ν).2 26 i = ν 26 i) ∧ ∀ s : Int, st ≤ s → s < 4096 → RK F may h ((S_X12_feasts_155 kk my m st ν).2 26) kk s
  | 0, st, ν, _, hm, _, _, _ => absurd hm (Nat.not_lt_zero _)
  | m + 1, st, ν, s0, hm, e, eh, hr => by
    rw [S_X12_feasts_155]
    by_cases c : 4096 ≤ st
    · rw [if_pos c]
      exact ⟨fun _ _ => rfl, fun s a b => absurd b (by omega)⟩
    · rw [if_neg c]
      have s181 : (S_X12_feasts_181 kk my st 20 (ν 26 ((4096 * (kk + 1)) + st)) 0 ν).2.2 = ν := funext fun k => fr_S_X12_feasts_181 _ _ _ _ _ _ _ (by simp)
      rw [s181]
      have o1 : (4096 - (st + 1)).toNat < m := by omega
      have b := be181 (kk := kk) (my := my) (st := st) (h := h) hF e (fun f f0 f1 => ⟨eh f f0 f1, eh0 f f0 f1⟩) hr ⟨s0, by omega⟩ 20 (ν 26 ((4096 * (kk + 1)) + st)) 0 (by decide) (by omega)
      generalize (S_X12_feasts_181 kk my st 20 (ν 26 ((4096 * (kk + 1)) + st)) 0 ν).1 = v at *
      have ih := row155 (kk := kk) (my := my) (h := h) (may := may) hF hmy eh0 m (st + 1) (zu ν 26 ((4096 * kk) + st) v) (by omega) o1 (by rw [zu_ne _ _ _ _ (by decide)]; exact e) (fun f f0 f1 => by rw [zu_ne _ _ _ _ (by decide)]; exact eh f f0 f1) (fun s a b => by rw [zu_off _ _ _ (by omega)]; exact hr s a b)
      refine ⟨fun i hi => by rw [ih.1 i (by omega), zu_off _ _ _ (by omega)], fun s a1 a2 => ?_⟩
      by_cases x : s = st
      · subst x
        have up : ∀ y : Int, 0 ≤ y → (S_X12_feasts_155 kk my m (s + 1) (zu ν 26 ((4096 * kk) + s) v)).2 26 ((4096 * (kk + 1)) + y) = ν 26 ((4096 * (kk + 1)) + y) := fun y y0 => by rw [ih.1 _ (by omega), zu_off _ _ _ (by omega)]
        have me : (S_X12_feasts_155 kk my m (s + 1) (zu ν 26 ((4096 * kk) + s) v)).2 26 ((4096 * kk) + s) = v := by rw [ih.1 _ (by omega), zu_at]
        have bo : ∀ f : Int, 0 ≤ f → f < F → 0 ≤ bor s (bshl 1 f) := fun f f0 f1 => (bor_r ⟨s0, by omega⟩ (bit_r (c := f) ⟨f0, by omega⟩)).1
        unfold RK
        rw [me, up s s0]
        refine ⟨⟨b.1, fun f f0 f1 a b' => ?_⟩, ?_⟩
        · rw [up _ (bo f f0 f1)]
          exact b.2.1 f f0 f1 a ((hmy f f0 f1).mpr b')
        · rcases b.2.2 with y | ⟨f, f0, a, b', y⟩
          · exact Or.inl y
          · refine Or.inr ⟨f, f0, a, (hmy f f0.1 f0.2).mp b', ?_⟩
            rw [up _ (bo f f0.1 f0.2)]
            exact y
      · exact ih.2 s (by omega) a2
/-- the table from debt k on -/
def TB (n F : Int) (may : Int → Int → Prop) (h t : Int → Int) (lo : Int) : Prop := (∀ st : Int, 0 ≤ st → st < 4096 → t ((4096 * n) + st) = 0) ∧ ∀ k : Int, lo ≤ k → k < n → ∀ st : Int, 0 ≤ st → st < 4096 → RK F (may k) h t k st
theorem TB_bd {n F : Int} {may : Int → Int → Prop} {h t : Int → Int} {lo : Int} (hF : F ≤ 12) (hh : ∀ f : Int, 0 ≤ f → f < F → 0 ≤ h f ∧ h f ≤ 99) (hT : TB n F may h t lo) : ∀ (m : Nat) (k : Int), lo ≤ k → k + (m : Int) = n → ∀ st : Int, 0 ≤ st → st < 4096 → 0 ≤ t ((4096 * k) + st) ∧ t ((4096 * k) + st) ≤ 100000 * (m : Int)
  | 0, k, _, e, st, s0, s1 => by
    have : k = n := by omega
    rw [this, hT.1 st s0 s1]
    exact ⟨by decide, by decide⟩
  | m + 1, k, hk, e, st, s0, s1 => by
    have r := hT.2 k hk (by omega) st s0 s1
    have ih := TB_bd hF hh hT m (k + 1) (by omega) (by omega)
    have i0 := ih st s0 s1
    unfold RK at r
    rcases r.2 with x | ⟨f, f0, _, _, x⟩
    · rw [x]; omega
    · have b := bor_r (a := st) ⟨s0, s1⟩ (bit_r (c := f) ⟨f0.1, by omega⟩)
      have i1 := ih _ b.1 b.2
      have := hh f f0.1 f0.2
      rw [x]; omega
theorem tab105 {n F : Int} {h : Int → Int} {may : Int → Int → Prop} (hn : n ≤ 8) (hF : F ≤ 12) (hh : ∀ f : Int, 0 ≤ f → f < F → 0 ≤ h f ∧ h f ≤ 99) : ∀ (m : Nat) (kk : Int) (ν : zG), -1 ≤ kk → kk < n → (kk + 1).toNat < m → ν 2 1 = F → (∀ f : Int, 0 ≤ f → f < F → ν 2 ((8 + (3 * f)) + 1) = h f) → (∀ ρ : zG, (∀ r : Nat, r ≠ 26 → ρ r = ν r) → ∀ k : Int, 0 ≤ k → k < n → ∀ f : Int, 0 ≤ f → f < F → (may k f ↔ ¬ R_X12_mayPay ρ (ρ 28 k) f = 0)) → TB n F may h (ν 26) (kk + 1) → TB n F may h ((S_X12_feasts_105 m kk ν).2 26) 0
  | 0, kk, ν, _, _, hm, _, _, _, _ => absurd hm (Nat.not_lt_zero _)
  | m + 1, kk, ν, k0, k1, hm, e, eh, hmay, hT => by
    rw [S_X12_feasts_105]
    by_cases c : kk < 0
    · rw [if_pos c]
      have : kk + 1 = 0 := by omega
      rw [this] at hT
      exact hT
    · rw [if_neg c]
      have s113 : (S_X12_feasts_113 kk 20 0 0 ν).2.2 = ν := funext fun k => fr_S_X12_feasts_113 _ _ _ _ _ (by simp)
      rw [s113]
      have my := my113 (kk := kk) (ν := ν) (may := may kk) hF e (fun f f0 f1 => hmay ν (fun _ _ => rfl) kk (by omega) k1 f f0 f1) 20 0 0 (by decide) (by omega) ⟨by decide, by decide⟩
      have hmy : ∀ j : Int, 0 ≤ j → j < F → (hb (S_X12_feasts_113 kk 20 0 0 ν).1 j ↔ may kk j) := fun j j0 j1 => by
        rw [my.2 j j0 (by omega)]
        exact ⟨fun x => x.elim (fun y => absurd y (hb_0 ⟨j0, by omega⟩)) (fun y => y.2.2), fun x => Or.inr ⟨j0, j1, x⟩⟩
      generalize (S_X12_feasts_113 kk 20 0 0 ν).1 = mm at *
      have bd : ∀ s : Int, 0 ≤ s → s < 4096 → 0 ≤ ν 26 ((4096 * (kk + 1)) + s) ∧ ν 26 ((4096 * (kk + 1)) + s) ≤ 1000000 := fun s a b => by
        have := TB_bd hF hh hT (n - (kk + 1)).toNat (kk + 1) (Int.le_refl _) (by omega) s a b
        omega
      have r := row155 (kk := kk) (my := mm) (h := h) (may := may kk) hF hmy hh 5000 0 ν (by decide) (by omega) e eh bd
      have fr : ∀ k : Nat, k ≠ 26 → (S_X12_feasts_155 kk mm 5000 0 ν).2 k = ν k := fun k hk => fr_S_X12_feasts_155 _ _ _ _ _ (by simp; exact hk)
      refine tab105 hn hF hh m (kk + (-1)) _ (by omega) (by omega) (by omega) (by rw [fr 2 (by decide)]; exact e) (fun f f0 f1 => by rw [fr 2 (by decide)]; exact eh f f0 f1) (fun ρ hρ => hmay ρ (fun q hq => by rw [hρ q hq, fr q hq])) ⟨fun st a b => by rw [r.1 _ (by omega)]; exact hT.1 st a b, fun k a b st s0 s1 => ?_⟩
      by_cases x : k = kk
      · rw [x]; exact r.2 st s0 s1
      · have t := hT.2 k (by omega) b st s0 s1
        unfold RK at *
        rw [r.1 ((4096 * (k + 1)) + st) (by omega), r.1 ((4096 * k) + st) (by omega)]
        refine ⟨⟨t.1.1, fun f f0 f1 a b' => ?_⟩, ?_⟩
        · have bb := bor_r (a := st) ⟨s0, s1⟩ (bit_r (c := f) ⟨f0, by omega⟩)
          rw [r.1 ((4096 * (k + 1)) + bor st (bshl 1 f)) (by omega)]
          exact t.1.2 f f0 f1 a b'
        · rcases t.2 with y | ⟨f, f0, a, b', y⟩
          · exact Or.inl y
          · have bb := bor_r (a := st) ⟨s0, s1⟩ (bit_r (c := f) ⟨f0.1, by omega⟩)
            refine Or.inr ⟨f, f0, a, b', ?_⟩
            rw [r.1 ((4096 * (k + 1)) + bor st (bshl 1 f)) (by omega)]
            exact y
theorem TB_RU {n F : Int} {may : Int → Int → Prop} {h t : Int → Int} (hT : TB n F may h t 0) : RU n F may h (fun k st => t ((4096 * k) + st)) := ⟨hT.1, fun k st k0 k1 s0 s1 => hT.2 k k0 k1 st s0 s1⟩
theorem s69 {n : Int} : ∀ (m : Nat) (q : Int) (ν : zG), 0 ≤ q → (4096 - q).toNat < m → ν 0 50 = n → (∀ s : Int, q ≤ s → s < 4096 → (S_X12_feasts_69 m q ν).2 26 ((4096 * n) + s) = 0) ∧ ∀ i : Int, i < (4096 * n) + q → (S_X12_feasts_69 m q ν).2 26 i = ν 26 i
  | 0, q, ν, _, h, _ => absurd h (Nat.not_lt_zero _)
  | m + 1, q, ν, q0, h, e => by
    rw [S_X12_feasts_69, e]
    by_cases c : 4096 ≤ q
    · rw [if_pos c]
      exact ⟨fun s a b => absurd b (by omega), fun _ _ => rfl⟩
    · rw [if_neg c]
      have ih := s69 (n := n) m (q + 1) (zu ν 26 ((4096 * n) + q) 0) (by omega) (by omega) (by rw [zu_ne _ _ _ _ (by decide)]; exact e)
      refine ⟨fun s a b => ?_, fun i hi => by rw [ih.2 i (by omega), zu_off _ _ _ (by omega)]⟩
      by_cases x : s = q
      · subst x
        rw [ih.2 _ (by omega), zu_at]
      · exact ih.1 s (by omega) b
/-- the first fact that keeps the greatest -/
theorem pick329 {st kk F : Int} {h t : Int → Int} {may : Int → Prop} (hF : F ≤ 12) (hst : 0 ≤ st ∧ st < 4096) (hh : ∀ f : Int, 0 ≤ f → f < F → 0 ≤ h f ∧ h f ≤ 99) (hr : ∀ s : Int, 0 ≤ s → s < 4096 → 0 ≤ t ((4096 * (kk + 1)) + s) ∧ t ((4096 * (kk + 1)) + s) ≤ 1000000) : ∀ (m : Nat) (f : Int) (ν : zG), -1 ≤ f → f < F → (f + 1).toNat < m → ν 26 = t → (∀ f : Int, 0 ≤ f → f < F → ν 2 ((8 + (3 * f)) + 1) = h f) → (∀ ρ : zG, (∀ r : Nat, r ≠ 27 → ρ r = ν r) → ∀ f : Int, 0 ≤ f → f < F → (may f ↔ ¬ R_X12_mayPay ρ (ρ 28 kk) f = 0)) → (∀ j : Int, j ≠ kk → (S_X12_feasts_329 st kk m f ν).2 27 j = ν 27 j) ∧ (((S_X12_feasts_329 st kk m f ν).2 27 kk = ν 27 kk ∧ ∀ j : Int, 0 ≤ j → j ≤ f → ¬ hb st j → may j → 100000 - h j + t ((4096 * (kk + 1)) + bor st (bshl 1 j)) ≠ t ((4096 * kk) + st)) ∨ ((0 ≤ (S_X12_feasts_329 st kk m f ν).2 27 kk ∧ (S_X12_feasts_329 st kk m f ν).2 27 kk ≤ f) ∧ ¬ hb st ((S_X12_feasts_329 st kk m f ν).2 27 kk) ∧ may ((S_X12_feasts_329 st kk m f ν).2 27 kk) ∧ 100000 - h ((S_X12_feasts_329 st kk m f ν).2 27 kk) + t ((4096 * (kk + 1)) + bor st (bshl 1 ((S_X12_feasts_329 st kk m f ν).2 27 kk))) = t ((4096 * kk) + st) ∧ ∀ j : Int, 0 ≤ j → j < (S_X12_feasts_329 st kk m f ν).2 27 kk → ¬ hb st j → may j → 100000 - h j + t ((4096 * (kk + 1)) + bor st (bshl 1 j)) ≠ t ((4096 * kk) + st)))
  | 0, f, ν, _, _, hm, _, _, _ => absurd hm (Nat.not_lt_zero _)
  | m + 1, f, ν, f0, f1, hm, et, eh, hmay => by
    rw [S_X12_feasts_329]
    by_cases c : f < 0
    · rw [if_pos c]
      exact ⟨fun _ _ => rfl, Or.inl ⟨rfl, fun j j0 j1 => absurd j1 (by omega)⟩⟩
    · rw [if_neg c]
      -- f is none that keeps it
      have skip : (¬ hb st f → may f → 100000 - h f + t ((4096 * (kk + 1)) + bor st (bshl 1 f)) ≠ t ((4096 * kk) + st)) → (∀ j : Int, j ≠ kk → (S_X12_feasts_329 st kk m (f + (-1)) ν).2 27 j = ν 27 j) ∧ (((S_X12_feasts_329 st kk m (f + (-1)) ν).2 27 kk = ν 27 kk ∧ ∀ j : Int, 0 ≤ j → j ≤ f → ¬ hb st j → may j → 100000 - h j + t ((4096 * (kk + 1)) + bor st (bshl 1 j)) ≠ t ((4096 * kk) + st)) ∨ ((0 ≤ (S_X12_feasts_329 st kk m (f + (-1)) ν).2 27 kk ∧ (S_X12_feasts_329 st kk m (f + (-1)) ν).2 27 kk ≤ f) ∧ ¬ hb st ((S_X12_feasts_329 st kk m (f + (-1)) ν).2 27 kk) ∧ may ((S_X12_feasts_329 st kk m (f + (-1)) ν).2 27 kk) ∧ 100000 - h ((S_X12_feasts_329 st kk m (f + (-1)) ν).2 27 kk) + t ((4096 * (kk + 1)) + bor st (bshl 1 ((S_X12_feasts_329 st kk m (f + (-1)) ν).2 27 kk))) = t ((4096 * kk) + st) ∧ ∀ j : Int, 0 ≤ j → j < (S_X12_feasts_329 st kk m (f + (-1)) ν).2 27 kk → ¬ hb st j → may j → 100000 - h j + t ((4096 * (kk + 1)) + bor st (bshl 1 j)) ≠ t ((4096 * kk) + st))) := by
        intro no
        have ih := pick329 (st := st) (kk := kk) (may := may) hF hst hh hr m (f + (-1)) ν (by omega) (by omega) (by omega) et eh hmay
        refine ⟨ih.1, ?_⟩
        rcases ih.2 with ⟨x1, x2⟩ | ⟨x1, x2⟩
        · refine Or.inl ⟨x1, fun j j0 j1 a b => ?_⟩
          by_cases y : j = f
          · rw [y] at a b ⊢
            exact no a b
          · exact x2 j j0 (by omega) a b
        · exact Or.inr ⟨⟨x1.1, by omega⟩, x2⟩
      by_cases c1 : hb st f
      · rw [if_pos c1]
        exact skip (fun x => absurd c1 x)
      · rw [if_neg c1]
        have my := hmay ν (fun _ _ => rfl) f (by omega) f1
        by_cases c2 : R_X12_mayPay ν (ν 28 kk) f = 0
        · rw [if_pos c2]
          exact skip (fun _ x => absurd c2 (my.mp x))
        · rw [if_neg c2]
          have hf := hh f (by omega) f1
          have bb := bor_r hst (bit_r (c := f) ⟨by omega, by omega⟩)
          have hr' := hr _ bb.1 bb.2
          rw [eh f (by omega) f1, et, w32_id (z := 100000 - h f) ⟨by omega, by omega⟩, w32_id (z := 100000 - h f + t ((4096 * (kk + 1)) + bor st (bshl 1 f))) ⟨by omega, by omega⟩]
          by_cases c3 : 100000 - h f + t ((4096 * (kk + 1)) + bor st (bshl 1 f)) = t ((4096 * kk) + st)
          · rw [if_pos c3]
            have ih := pick329 (st := st) (kk := kk) (may := may) hF hst hh hr m (f + (-1)) (zu ν 27 kk f) (by omega) (by omega) (by omega) (by rw [zu_row _ _ _ (by decide)]; exact et) (fun f f0 f1 => by rw [zu_ne _ _ _ _ (by decide)]; exact eh f f0 f1) (fun ρ hρ => hmay ρ (fun r hr' => by rw [hρ r hr', zu_row _ _ _ hr']))
            refine ⟨fun j hj => by rw [ih.1 j hj, zu_off _ _ _ hj], Or.inr ?_⟩
            rcases ih.2 with ⟨x1, x2⟩ | ⟨x1, x2⟩
            · rw [x1, zu_at]
              exact ⟨⟨by omega, Int.le_refl _⟩, c1, my.mpr c2, c3, fun j j0 j1 a b => x2 j j0 (by omega) a b⟩
            · exact ⟨⟨x1.1, by omega⟩, x2⟩
          · rw [if_neg c3]
            exact skip (fun _ _ => c3)
def gof (t : Int → Int) : Int → Int := fun k => if t k < 0 then 15 else t k
theorem greedy305 {n F : Int} {h t : Int → Int} {may : Int → Int → Prop} (hn : n ≤ 8) (hF : 0 ≤ F ∧ F ≤ 12) (hh : ∀ f : Int, 0 ≤ f → f < F → 0 ≤ h f ∧ h f ≤ 99) (hT : TB n F may h t 0) : ∀ (m : Nat) (st kk : Int) (ν : zG), 0 ≤ kk → (n - kk).toNat < m → 0 ≤ st ∧ st < 4096 → ν 0 50 = n → ν 26 = t → ν 2 1 = F → (∀ f : Int, 0 ≤ f → f < F → ν 2 ((8 + (3 * f)) + 1) = h f) → (∀ ρ : zG, (∀ r : Nat, r ≠ 27 → ρ r = ν r) → ∀ k : Int, 0 ≤ k → k < n → ∀ f : Int, 0 ≤ f → f < F → (may k f ↔ ¬ R_X12_mayPay ρ (ρ 28 k) f = 0)) → (∀ j : Int, j < kk → (S_X12_feasts_305 m st kk ν).2.2 27 j = ν 27 j) ∧ (∀ j : Int, kk ≤ j → j < n → -1 ≤ (S_X12_feasts_305 m st kk ν).2.2 27 j ∧ (S_X12_feasts_305 m st kk ν).2.2 27 j < F) ∧ GRD F may h (fun k st => t ((4096 * k) + st)) (gof ((S_X12_feasts_305 m st kk ν).2.2 27)) (n - kk).toNat kk st
  | 0, st, kk, ν, _, hm, _, _, _, _, _, _ => absurd hm (Nat.not_lt_zero _)
  | m + 1, st, kk, ν, k0, hm, hst, e50, et, eF, eh, hmay => by
    rw [S_X12_feasts_305, e50]
    by_cases c : n ≤ kk
    · rw [if_pos c, show (n - kk).toNat = 0 by omega]
      exact ⟨fun _ _ => rfl, fun j a b => absurd b (by omega), trivial⟩
    · rw [if_neg c, eF, show (n - kk).toNat = (n - (kk + 1)).toNat + 1 by omega]
      have bd : ∀ s : Int, 0 ≤ s → s < 4096 → 0 ≤ t ((4096 * (kk + 1)) + s) ∧ t ((4096 * (kk + 1)) + s) ≤ 1000000 := fun s a b => by
        have := TB_bd hF.2 hh hT (n - (kk + 1)).toNat (kk + 1) (by omega) (by omega) s a b
        omega
      have p := pick329 (st := st) (kk := kk) (may := may kk) hF.2 hst hh bd 20 (F - 1) (zu ν 27 kk (-1)) (by omega) (by omega) (by omega) (by rw [zu_row _ _ _ (by decide)]; exact et) (fun f f0 f1 => by rw [zu_ne _ _ _ _ (by decide)]; exact eh f f0 f1) (fun ρ hρ => hmay ρ (fun r hr => by rw [hρ r hr, zu_row _ _ _ hr]) kk k0 (by omega))
      have fr : ∀ k : Nat, k ≠ 27 → (S_X12_feasts_329 st kk 20 (F - 1) (zu ν 27 kk (-1))).2 k = ν k := fun k hk => by rw [fr_S_X12_feasts_329 (h := by simp; exact hk), zu_row _ _ _ hk]
      generalize (S_X12_feasts_329 st kk 20 (F - 1) (zu ν 27 kk (-1))).2 = ν1 at *
      rw [zu_at] at p
      have go : ∀ st2 : Int, 0 ≤ st2 ∧ st2 < 4096 → (∀ j : Int, j < kk + 1 → (S_X12_feasts_305 m st2 (kk + 1) ν1).2.2 27 j = ν1 27 j) ∧ (∀ j : Int, kk + 1 ≤ j → j < n → -1 ≤ (S_X12_feasts_305 m st2 (kk + 1) ν1).2.2 27 j ∧ (S_X12_feasts_305 m st2 (kk + 1) ν1).2.2 27 j < F) ∧ GRD F may h (fun k st => t ((4096 * k) + st)) (gof ((S_X12_feasts_305 m st2 (kk + 1) ν1).2.2 27)) (n - (kk + 1)).toNat (kk + 1) st2 := fun st2 h2 => greedy305 hn hF hh hT m st2 (kk + 1) ν1 (by omega) (by omega) h2 (by rw [fr 0 (by decide)]; exact e50) (by rw [fr 26 (by decide)]; exact et) (by rw [fr 2 (by decide)]; exact eF) (fun f f0 f1 => by rw [fr 2 (by decide)]; exact eh f f0 f1) (fun ρ hρ => hmay ρ (fun r hr => by rw [hρ r hr, fr r hr]))
      have low : ∀ j : Int, j < kk → ν1 27 j = ν 27 j := fun j hj => by rw [p.1 j (by omega), zu_off _ _ _ (by omega)]
      rcases p.2 with ⟨x1, x2⟩ | ⟨x1, x2, x3, x4, x5⟩
      · rw [if_neg (by omega)]
        have b0 : bor st 0 = st := hb_ext (bor_r hst ⟨by decide, by decide⟩) hst (fun i i0 i1 => by
          rw [hb_bor hst ⟨by decide, by decide⟩ ⟨i0, by omega⟩]
          exact ⟨fun x => x.elim id (fun y => absurd y (hb_0 ⟨i0, by omega⟩)), Or.inl⟩)
        rw [b0]
        have g := go st hst
        refine ⟨fun j hj => by rw [g.1 j (by omega), low j hj], fun j a b => ?_, ?_⟩
        · by_cases y : j = kk
          · rw [y, g.1 kk (by omega), x1]; exact ⟨Int.le_refl _, by omega⟩
          · exact g.2.1 j (by omega) b
        · rw [GRD]
          have gk : gof ((S_X12_feasts_305 m st (kk + 1) ν1).2.2 27) kk = 15 := by
            unfold gof
            rw [g.1 kk (by omega), x1, if_pos (by decide)]
          exact Or.inl ⟨gk, fun f f0 f1 a b => x2 f f0 (by omega) a b, g.2.2⟩
      · rw [if_pos x1.1]
        have g := go (bor st (bshl 1 (ν1 27 kk))) (bor_r hst (bit_r ⟨x1.1, by omega⟩))
        refine ⟨fun j hj => by rw [g.1 j (by omega), low j hj], fun j a b => ?_, ?_⟩
        · by_cases y : j = kk
          · rw [y, g.1 kk (by omega)]; omega
          · exact g.2.1 j (by omega) b
        · rw [GRD]
          have gk : gof ((S_X12_feasts_305 m (bor st (bshl 1 (ν1 27 kk))) (kk + 1) ν1).2.2 27) kk = ν1 27 kk := by
            unfold gof
            rw [g.1 kk (by omega), if_neg (by omega)]
          rw [gk]
          exact Or.inr ⟨⟨x1.1, by omega⟩, x2, x3, x4, x5, g.2.2⟩
