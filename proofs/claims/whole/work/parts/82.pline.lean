/-! pure: a whole line of a valley -/
def kwl : List Int := [23823, 197748, 12009203, 20232293, 52595, 441838, 15748, 642894004, 647370196, 6804932, 4153, 402611, 8687795, 21148051, 20099475, 763528, 498, 1476, 14836, 8243, 394885, 515251, 4360851, 525604, 284244, 3646931]
/-- the class's table of words -/
def KC (σ : zG) : Prop := ∀ i : Int, 0 ≤ i → i < 26 → σ 4 i = kwl.getD i.toNat 0
theorem kwl_inj : ∀ a b : Fin 26, kwl.getD a.val 0 = kwl.getD b.val 0 → a = b := by decide
theorem plc_at {f : Int → Int} {code many len : Int} (hl : many ≤ len) : ∀ (n : Nat) (i : Int), 0 ≤ i → (many - i).toNat < n → plc f code many len n i = -1 ∨ (0 ≤ plc f code many len n i ∧ plc f code many len n i < many ∧ f (plc f code many len n i) = code)
  | 0, i, _, h => absurd h (Nat.not_lt_zero _)
  | n + 1, i, h0, h => by
    rw [plc]
    by_cases c : many ≤ i
    · rw [if_pos c]; exact Or.inl rfl
    · rw [if_neg c, if_neg (by omega)]
      by_cases e : f i = code
      · rw [if_pos e]; exact Or.inr ⟨h0, by omega, e⟩
      · rw [if_neg e]; exact plc_at hl n (i + 1) (by omega) (by omega)
theorem kw_r {σ : zG} : -1 ≤ V_X5_keyword σ ∧ V_X5_keyword σ < 26 := by
  unfold V_X5_keyword R_X11_placeOf_4
  by_cases h4 : σ 3 4 = 2
  · rw [if_pos h4]
    rcases plc_at (f := σ 4) (code := σ 3 6) (many := 26) (len := 26) (by decide) 30 0 (by decide) (by decide) with x | x
    · rw [x]; decide
    · omega
  · rw [if_neg h4]; decide
theorem kw_iff {σ : zG} (hC : KC σ) {k : Int} (hk : 0 ≤ k ∧ k < 26) (h4 : σ 3 4 = 2) : V_X5_keyword σ = k ↔ σ 3 6 = kwl.getD k.toNat 0 := by
  unfold V_X5_keyword R_X11_placeOf_4
  rw [if_pos h4]
  have a := plc_at (f := σ 4) (code := σ 3 6) (many := 26) (len := 26) (by decide) 30 0 (by decide) (by decide)
  have b := plc_neg (f := σ 4) (code := σ 3 6) (many := 26) (len := 26) (by decide) 30 0 (by decide) (by decide)
  generalize plc (σ 4) (σ 3 6) 26 26 30 0 = p at *
  constructor
  · intro e
    rcases a with x | x
    · omega
    · rw [← x.2.2, e, hC k hk.1 hk.2]
  · intro e
    have ek : σ 4 k = σ 3 6 := by rw [hC k hk.1 hk.2, e]
    rcases a with x | x
    · exact absurd ek (b.mp x k hk.1 hk.2)
    · have e2 : kwl.getD p.toNat 0 = kwl.getD k.toNat 0 := by rw [← hC p x.1 x.2.1, ← hC k hk.1 hk.2, x.2.2, ek]
      have e3 := kwl_inj ⟨p.toNat, by omega⟩ ⟨k.toNat, by omega⟩ e2
      have e4 : p.toNat = k.toNat := congrArg Fin.val e3
      omega
/-- how a line and its end came out on both sides -/
def LO (V : Int) (τ : zG) (Vm : Int) (ν : zG) : Prop := (V = 0 ∧ Vm = 0 ∧ τ 3 7 = ν 0 15 ∧ τ 3 5 = ν 0 16) ∨ (V = 0 ∧ Vm = 1 ∧ V_X12_sign ν 59 = 0 ∧ τ 3 7 = F_X12_sign ν 59 0 15 ∧ τ 3 5 = F_X12_sign ν 59 0 16) ∨ (V = 1 ∧ Vm = 1 ∧ V_X12_sign ν 59 = 1 ∧ LK τ (F_X12_sign ν 59) ∧ NV τ (F_X12_sign ν 59))
theorem LO_of {Vc Vm : Int} {σ μ : zG} (h : SL Vc Vm σ μ) : LO (if Vc = 0 then 0 else (if (V_X5_stepSign σ 59) = 0 then 0 else 1)) (if Vc = 0 then σ else (F_X5_stepSign σ 59)) Vm μ := by
  rcases h with ⟨a, b, c, d⟩ | ⟨a, b, c, d⟩
  · rw [if_pos b, if_pos b]
    exact Or.inl ⟨rfl, a, c, d⟩
  · rw [if_neg (show ¬ Vc = 0 by omega), if_neg (show ¬ Vc = 0 by omega)]
    rcases sign_sim (c := 59) c with ⟨e, f, g, i⟩ | ⟨e, f, g, i, j⟩
    · rw [if_pos f]
      exact Or.inr (Or.inl ⟨rfl, a, e, g, i⟩)
    · rw [if_neg (show ¬ V_X5_stepSign σ 59 = 0 by omega)]
      refine Or.inr (Or.inr ⟨rfl, a, e, g, ?_⟩)
      rw [i, j]
      exact NV_st (NV_nx d)
set_option maxRecDepth 20000 in
theorem line_sim {σ μ : zG} (hK : KW σ μ) (hC : KC σ) (hP : TP σ μ) (hT : TK σ μ) (hN : NV σ μ) : LO (V_X9_takeLine σ) (F_X9_takeLine σ) (V_X12_valleyLine μ) (F_X12_valleyLine μ) := by
  have kr := kw_r (σ := σ)
  unfold V_X9_takeLine F_X9_takeLine V_X12_valleyLine F_X12_valleyLine
  have bad : LO 0 (zu σ 3 7 1) 0 (zu (zu μ 0 15 1) 0 16 (μ 0 12)) := Or.inl ⟨rfl, rfl, by rw [zu_at, zu_off _ _ _ (by decide), zu_at], by rw [zu_off _ _ _ (by decide), zu_at]; exact hT.1⟩
  by_cases w : μ 0 11 = 1
  · have e4 : σ 3 4 = 2 ∧ wr (σ 3 6) (μ 0 17) := by
      rcases hT.2 with x | x | x | x | x
      · omega
      · omega
      · exact ⟨x.1, x.2.2⟩
      · omega
      · omega
    have kk : ∀ (k c : Int), 0 ≤ k → k < 26 → wr (kwl.getD k.toNat 0) c → (V_X5_keyword σ = k ↔ (μ 0 11 = 1 ∧ μ 0 17 = c)) := fun k c k0 k1 hc => by
      rw [kw_iff hC ⟨k0, k1⟩ e4.1, wr_inj e4.2 hc]
      exact ⟨fun x => ⟨w, x⟩, fun x => x.2⟩
    have k0 := kk 0 7825519 (by decide) (by decide) ⟨by decide, by decide, ⟨by decide, by decide⟩, by decide, by decide⟩
    have k1 := kk 1 1717658484 (by decide) (by decide) ⟨by decide, by decide, ⟨by decide, by decide⟩, by decide, by decide⟩
    have k2 := kk 2 461414299507 (by decide) (by decide) ⟨by decide, by decide, ⟨by decide, by decide⟩, by decide, by decide⟩
    have k3 := kk 3 495690081125 (by decide) (by decide) ⟨by decide, by decide, ⟨by decide, by decide⟩, by decide, by decide⟩
    have k4 := kk 4 1634954099 (by decide) (by decide) ⟨by decide, by decide, ⟨by decide, by decide⟩, by decide, by decide⟩
    have k5 := kk 5 1836019566 (by decide) (by decide) ⟨by decide, by decide, ⟨by decide, by decide⟩, by decide, by decide⟩
    have k6 := kk 6 7302244 (by decide) (by decide) ⟨by decide, by decide, ⟨by decide, by decide⟩, by decide, by decide⟩
    have k7 := kk 7 126879297332596 (by decide) (by decide) ⟨by decide, by decide, ⟨by decide, by decide⟩, by decide, by decide⟩
    have k8 := kk 8 126896627347060 (by decide) (by decide) ⟨by decide, by decide, ⟨by decide, by decide⟩, by decide, by decide⟩
    have k9 := kk 9 439956631140 (by decide) (by decide) ⟨by decide, by decide, ⟨by decide, by decide⟩, by decide, by decide⟩
    clear kk
    generalize hkw : V_X5_keyword σ = kw at *
    by_cases c0 : kw = 0
    · have p0 := k0.mp c0
      rw [if_pos p0, if_pos p0]
      rw [if_pos c0, if_pos c0]
      exact LO_of (who_sim hK hP hT hN)
    have n0 : ¬ (μ 0 11 = 1 ∧ μ 0 17 = 7825519) := fun x => c0 (k0.mpr x)
    by_cases c1 : kw = 1
    · have p1 := k1.mp c1
      rw [if_neg n0, if_neg n0, if_pos p1, if_pos p1]
      rw [if_neg c0, if_neg c0, if_pos c1, if_pos c1]
      exact LO_of (fact_sim hK hP hT hN)
    have n1 : ¬ (μ 0 11 = 1 ∧ μ 0 17 = 1717658484) := fun x => c1 (k1.mpr x)
    by_cases c2 : kw = 2
    · have p2 := k2.mp c2
      rw [if_neg n0, if_neg n0, if_neg n1, if_neg n1, if_pos p2, if_pos p2]
      rw [if_neg c0, if_neg c0, if_neg c1, if_neg c1, if_pos c2, if_pos c2]
      exact LO_of (knows_sim hK hP hN)
    have n2 : ¬ (μ 0 11 = 1 ∧ μ 0 17 = 461414299507) := fun x => c2 (k2.mpr x)
    by_cases c3 : kw = 3
    · have p3 := k3.mp c3
      rw [if_neg n0, if_neg n0, if_neg n1, if_neg n1, if_neg n2, if_neg n2, if_pos p3, if_pos p3]
      rw [if_neg c0, if_neg c0, if_neg c1, if_neg c1, if_neg c2, if_neg c2, if_pos c3, if_pos c3]
      exact LO_of (since_sim hK hP hT hN)
    have n3 : ¬ (μ 0 11 = 1 ∧ μ 0 17 = 495690081125) := fun x => c3 (k3.mpr x)
    by_cases c4 : kw = 4
    · have p4 := k4.mp c4
      rw [if_neg n0, if_neg n0, if_neg n1, if_neg n1, if_neg n2, if_neg n2, if_neg n3, if_neg n3, if_pos p4, if_pos p4]
      rw [if_neg c0, if_neg c0, if_neg c1, if_neg c1, if_neg c2, if_neg c2, if_neg c3, if_neg c3, if_pos c4, if_pos c4]
      exact LO_of (asks_sim hK hP hN)
    have n4 : ¬ (μ 0 11 = 1 ∧ μ 0 17 = 1634954099) := fun x => c4 (k4.mpr x)
    by_cases c5 : kw = 5
    · have p5 := k5.mp c5
      rw [if_neg n0, if_neg n0, if_neg n1, if_neg n1, if_neg n2, if_neg n2, if_neg n3, if_neg n3, if_neg n4, if_neg n4, if_pos p5, if_pos p5]
      rw [if_neg c0, if_neg c0, if_neg c1, if_neg c1, if_neg c2, if_neg c2, if_neg c3, if_neg c3, if_neg c4, if_neg c4, if_neg (show ¬ kw < 5 by omega), if_neg (show ¬ kw < 5 by omega), if_pos (show kw ≤ 9 by omega), if_pos (show kw ≤ 9 by omega), show kw - 5 = 0 by omega]
      exact LO_of (set_sim (w := 0) (lo := 1) (hi := 99) hP hT hN (by decide) rfl rfl (by decide) (by decide))
    have n5 : ¬ (μ 0 11 = 1 ∧ μ 0 17 = 1836019566) := fun x => c5 (k5.mpr x)
    by_cases c6 : kw = 6
    · have p6 := k6.mp c6
      rw [if_neg n0, if_neg n0, if_neg n1, if_neg n1, if_neg n2, if_neg n2, if_neg n3, if_neg n3, if_neg n4, if_neg n4, if_neg n5, if_neg n5, if_pos p6, if_pos p6]
      rw [if_neg c0, if_neg c0, if_neg c1, if_neg c1, if_neg c2, if_neg c2, if_neg c3, if_neg c3, if_neg c4, if_neg c4, if_neg (show ¬ kw < 5 by omega), if_neg (show ¬ kw < 5 by omega), if_pos (show kw ≤ 9 by omega), if_pos (show kw ≤ 9 by omega), show kw - 5 = 1 by omega]
      exact LO_of (set_sim (w := 1) (lo := 0) (hi := 10) hP hT hN (by decide) rfl rfl (by decide) (by decide))
    have n6 : ¬ (μ 0 11 = 1 ∧ μ 0 17 = 7302244) := fun x => c6 (k6.mpr x)
    by_cases c7 : kw = 7
    · have p7 := k7.mp c7
      rw [if_neg n0, if_neg n0, if_neg n1, if_neg n1, if_neg n2, if_neg n2, if_neg n3, if_neg n3, if_neg n4, if_neg n4, if_neg n5, if_neg n5, if_neg n6, if_neg n6, if_pos p7, if_pos p7]
      rw [if_neg c0, if_neg c0, if_neg c1, if_neg c1, if_neg c2, if_neg c2, if_neg c3, if_neg c3, if_neg c4, if_neg c4, if_neg (show ¬ kw < 5 by omega), if_neg (show ¬ kw < 5 by omega), if_pos (show kw ≤ 9 by omega), if_pos (show kw ≤ 9 by omega), show kw - 5 = 2 by omega]
      exact LO_of (set_sim (w := 2) (lo := 10) (hi := 30) hP hT hN (by decide) rfl rfl (by decide) (by decide))
    have n7 : ¬ (μ 0 11 = 1 ∧ μ 0 17 = 126879297332596) := fun x => c7 (k7.mpr x)
    by_cases c8 : kw = 8
    · have p8 := k8.mp c8
      rw [if_neg n0, if_neg n0, if_neg n1, if_neg n1, if_neg n2, if_neg n2, if_neg n3, if_neg n3, if_neg n4, if_neg n4, if_neg n5, if_neg n5, if_neg n6, if_neg n6, if_neg n7, if_neg n7, if_pos p8, if_pos p8]
      rw [if_neg c0, if_neg c0, if_neg c1, if_neg c1, if_neg c2, if_neg c2, if_neg c3, if_neg c3, if_neg c4, if_neg c4, if_neg (show ¬ kw < 5 by omega), if_neg (show ¬ kw < 5 by omega), if_pos (show kw ≤ 9 by omega), if_pos (show kw ≤ 9 by omega), show kw - 5 = 3 by omega]
      exact LO_of (set_sim (w := 3) (lo := 0) (hi := 20) hP hT hN (by decide) rfl rfl (by decide) (by decide))
    have n8 : ¬ (μ 0 11 = 1 ∧ μ 0 17 = 126896627347060) := fun x => c8 (k8.mpr x)
    by_cases c9 : kw = 9
    · have p9 := k9.mp c9
      rw [if_neg n0, if_neg n0, if_neg n1, if_neg n1, if_neg n2, if_neg n2, if_neg n3, if_neg n3, if_neg n4, if_neg n4, if_neg n5, if_neg n5, if_neg n6, if_neg n6, if_neg n7, if_neg n7, if_neg n8, if_neg n8, if_pos p9, if_pos p9]
      rw [if_neg c0, if_neg c0, if_neg c1, if_neg c1, if_neg c2, if_neg c2, if_neg c3, if_neg c3, if_neg c4, if_neg c4, if_neg (show ¬ kw < 5 by omega), if_neg (show ¬ kw < 5 by omega), if_pos (show kw ≤ 9 by omega), if_pos (show kw ≤ 9 by omega), show kw - 5 = 4 by omega]
      exact LO_of (set_sim (w := 4) (lo := 10) (hi := 40) hP hT hN (by decide) rfl rfl (by decide) (by decide))
    have n9 : ¬ (μ 0 11 = 1 ∧ μ 0 17 = 439956631140) := fun x => c9 (k9.mpr x)
    rw [if_neg n0, if_neg n0, if_neg n1, if_neg n1, if_neg n2, if_neg n2, if_neg n3, if_neg n3, if_neg n4, if_neg n4, if_neg n5, if_neg n5, if_neg n6, if_neg n6, if_neg n7, if_neg n7, if_neg n8, if_neg n8, if_neg n9, if_neg n9, if_neg c0, if_neg c0, if_neg c1, if_neg c1, if_neg c2, if_neg c2, if_neg c3, if_neg c3, if_neg c4, if_neg c4]
    by_cases l : kw < 5
    · rw [if_pos l, if_pos l]; exact bad
    · rw [if_neg l, if_neg l, if_neg (show ¬ kw ≤ 9 by omega), if_neg (show ¬ kw ≤ 9 by omega)]; exact bad
  · have e4 : ¬ σ 3 4 = 2 := by
      rcases hT.2 with x | x | x | x | x <;> omega
    have ek : V_X5_keyword σ = -1 := if_neg e4
    have nn : ∀ c : Int, ¬ (μ 0 11 = 1 ∧ μ 0 17 = c) := fun c x => w x.1
    rw [ek]
    rw [if_neg (nn 7825519), if_neg (nn 7825519), if_neg (nn 1717658484), if_neg (nn 1717658484), if_neg (nn 461414299507), if_neg (nn 461414299507), if_neg (nn 495690081125), if_neg (nn 495690081125), if_neg (nn 1634954099), if_neg (nn 1634954099), if_neg (nn 1836019566), if_neg (nn 1836019566), if_neg (nn 7302244), if_neg (nn 7302244), if_neg (nn 126879297332596), if_neg (nn 126879297332596), if_neg (nn 126896627347060), if_neg (nn 126896627347060), if_neg (nn 439956631140), if_neg (nn 439956631140)]
    exact bad
