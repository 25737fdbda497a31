/-! the law: its beginning -/
section ZST
variable {NN : zC → State → Method → Prop} {al : zAl} {d : Nat} {Y : zMI} {sh : List zSh} {pc : Nat} {ls : List (Nat × zV)} {st : List zV} {σ σ' : zG} {X : zX}
theorem wl_rows {k : zC} (h : ∀ a, a < sh.length → σ a = σ' a) : wl k sh σ = wl k sh σ' := by
  apply List.ext_getElem?
  intro b
  simp only [wl, List.getElem?_mapIdx]
  cases hb : sh[b]? with
  | none => rfl
  | some x =>
    have hl := (List.getElem?_eq_some_iff.mp hb).1
    simp only [Option.map_some, h b hl]
theorem rG_rows (h : ∀ a, a < sh.length → σ a = σ' a) (hg : rG sh σ) : rG sh σ' := by
  intro a s hs
  have hl := (List.getElem?_eq_some_iff.mp hs).1
  rw [← h a hl]
  exact hg a s hs
/-- of the state only the world's rows matter -/
theorem zRi.steq (h : ∀ a, a < sh.length → σ a = σ' a) (hk : zRi NN al d Y sh pc ls st σ' X) : zRi NN al d Y sh pc ls st σ X := by
  intro p l e R s m args below meth c k cf sf Z h1 h2 h3 h4 h5 H locs la hW hL hS
  exact hk p l e R s m args below meth c k cf sf Z h1 h2 h3 h4 h5 H locs la ⟨by rw [← wl_rows h]; exact hW.1, hW.2.1, rG_rows h hW.2.2.1, hW.2.2.2⟩ hL hS
end ZST
def lwTot : Nat := 52839
theorem LSH_szs : szs LSH = lwTot := by decide +kernel
theorem law_entry {L : Nat} {xs : Nat → Int32} : zRi (lwN L xs) (some (0, 0, 193, lwTot)) 70 YL [] 0 [(0, zT 5)] [] cI (fun sh' pc' ls' st' σ' => sh' = LSH ∧ pc' = 23 ∧ ls' = lls 0 ∧ st' = [] ∧ σ' = cmb cI (mI (fun i => cI (150 + i))) rZ) := by
  refine zRi.new (ci := 11) (N := 17) (fks := [.inr none, .inr none, .inr none, .inr none, .inr none, .inr none, .inr none, .inr none, .inr none, .inr none, .inr none, .inr none, .inr none, .inr none, .inr none, .inr none, .inl 0]) ck_11 (gt_t1 26 (by decide +kernel) rfl) (gt_t1 27 (by decide +kernel) rfl) (gt_t1 1 (by decide +kernel) rfl) (hf_gen (eqF (by decide +kernel)) (by decide +kernel)) rfl (rS_0 _) (by decide +kernel) (by decide +kernel) (by decide +kernel) (by decide +kernel) dL_law_0 ?_
  refine zRi.cg (sh' := ([] : List zSh) ++ [.inr (.inl (11, [.inr none, .inr none, .inr none, .inr none, .inr none, .inr none, .inr none, .inr none, .inr none, .inr none, .inr none, .inr none, .inr none, .inr none, .inr none, .inr none, .inl 0]))]) (st' := [zP 0]) (σ' := cI) rfl (eqV (by decide +kernel)) (zr0_idn (n := 0) (by decide +kernel) rfl) ?_
  refine zRi.lift (fun X h => zRx.dup rfl dL_law_3 h) ?_
  refine zRi.callI (b := 0) (d' := 7) (st := [zP 0]) (M := m_X11_init) (av := []) (sh := [.inr (.inl (11, [.inr none, .inr none, .inr none, .inr none, .inr none, .inr none, .inr none, .inr none, .inr none, .inr none, .inr none, .inr none, .inr none, .inr none, .inr none, .inr none, .inl 0]))]) (Or.inl (gt_t1 28 (by decide +kernel) rfl)) (gt_t1 29 (by decide +kernel) rfl) rfl rfl mk_X11_init (by decide) (eqV (by decide +kernel)) (by decide +kernel) dL_law_4 (by decide +kernel) (by decide +kernel) (by decide +kernel) (by decide +kernel) nk_X11 ?_
  rintro _ _ ⟨rfl, rfl⟩ - -
  refine zRi.lift (fun X h => zRx.astore_n (i := 1) (ls' := [(0, zT 5), (1, zP 0)]) rfl rfl (by decide) dL_law_7 h) ?_
  refine zRi.new (ci := 12) (N := 72) (fks := [.inl 0, .inr none, .inl 0, .inl 0, .inl 0, .inl 0, .inr none, .inr none, .inr none, .inr none, .inr none, .inl 0, .inl 0, .inl 0, .inl 0, .inl 0, .inl 0, .inl 1, .inl 0, .inl 0, .inl 0, .inl 0, .inl 0, .inr none, .inr none, .inr none, .inr none, .inl 0, .inr none, .inr none, .inr none, .inr none, .inr none, .inr none, .inr none, .inr none, .inr none, .inr none, .inr none, .inr none, .inr none, .inr none, .inr none, .inl 0, .inl 0, .inl 0, .inl 0, .inr none, .inr none, .inr none, .inl 0, .inr none, .inr none, .inl 0, .inl 0, .inl 0, .inl 0, .inr none, .inr none, .inr none, .inl 0, .inr none, .inr none, .inr none, .inr none, .inr none, .inl 0, .inl 0, .inl 0, .inr none, .inr none, .inr none]) ck_12 (gt_t6 117 (by decide +kernel) rfl) (gt_t6 111 (by decide +kernel) rfl) (gt_t1 19 (by decide +kernel) rfl) (hf_gen (eqF (by decide +kernel)) (by decide +kernel)) rfl (rS_0 _) (by decide +kernel) (by decide +kernel) (by decide +kernel) (by decide +kernel) dL_law_8 ?_
  refine zRi.cg (sh' := SC ++ [.inr (.inl (12, [.inl 0, .inr none, .inl 0, .inl 0, .inl 0, .inl 0, .inr none, .inr none, .inr none, .inr none, .inr none, .inl 0, .inl 0, .inl 0, .inl 0, .inl 0, .inl 0, .inl 1, .inl 0, .inl 0, .inl 0, .inl 0, .inl 0, .inr none, .inr none, .inr none, .inr none, .inl 0, .inr none, .inr none, .inr none, .inr none, .inr none, .inr none, .inr none, .inr none, .inr none, .inr none, .inr none, .inr none, .inr none, .inr none, .inr none, .inl 0, .inl 0, .inl 0, .inl 0, .inr none, .inr none, .inr none, .inl 0, .inr none, .inr none, .inl 0, .inl 0, .inl 0, .inl 0, .inr none, .inr none, .inr none, .inl 0, .inr none, .inr none, .inr none, .inr none, .inr none, .inl 0, .inl 0, .inl 0, .inr none, .inr none, .inr none]))]) (st' := [zP 150]) (σ' := cI) rfl (eqV (by decide +kernel)) (zr0_idn (n := 150) (by decide +kernel) rfl) ?_
  refine zRi.lift (fun X h => zRx.dup rfl dL_law_11 h) ?_
  refine zRi.callIE (n := 150) (b := 0) (d' := 5) (pre := SC) (sub := [.inr (.inl (12, [.inl 0, .inr none, .inl 0, .inl 0, .inl 0, .inl 0, .inr none, .inr none, .inr none, .inr none, .inr none, .inl 0, .inl 0, .inl 0, .inl 0, .inl 0, .inl 0, .inl 1, .inl 0, .inl 0, .inl 0, .inl 0, .inl 0, .inr none, .inr none, .inr none, .inr none, .inl 0, .inr none, .inr none, .inr none, .inr none, .inr none, .inr none, .inr none, .inr none, .inr none, .inr none, .inr none, .inr none, .inr none, .inr none, .inr none, .inl 0, .inl 0, .inl 0, .inl 0, .inr none, .inr none, .inr none, .inl 0, .inr none, .inr none, .inl 0, .inl 0, .inl 0, .inl 0, .inr none, .inr none, .inr none, .inl 0, .inr none, .inr none, .inr none, .inr none, .inr none, .inl 0, .inl 0, .inl 0, .inr none, .inr none, .inr none]))]) (st := [zP 150]) (σc := fun i => cI (150 + i)) (M := m_X12_init) (av := []) (Or.inl (gt_t6 118 (by decide +kernel) rfl)) (gt_t6 119 (by decide +kernel) rfl) rfl rfl mk_X12_init (by decide) (by decide +kernel) (eqV (by decide +kernel)) (by decide +kernel) dL_law_12 (fun _ _ => rfl) (by decide +kernel) (by decide +kernel) (by decide +kernel) (by decide +kernel) (new_X12 (fun i => cI (150 + i))) ?_
  rintro _ _ ⟨rfl, rfl⟩ - -
  refine zRi.lift (fun X h => zRx.astore_n (i := 2) (ls' := [(0, zT 5), (1, zP 0), (2, zP 150)]) rfl rfl (by decide) dL_law_15 h) ?_
  refine zRi.lift (fun X h => zRx.iconst ⟨by decide, by decide⟩ dL_law_16 h) ?_
  refine zRi.newJ (n := 1) rfl (by decide) (by decide +kernel) (by decide +kernel) (by decide +kernel) (by decide +kernel) dL_law_17 ?_
  refine zRi.cg (sh' := LSH) (st' := [zP 192]) (σ' := zr0 (zj 150 cI (mI (fun i => cI (150 + i)))) 192) (eqW (by decide +kernel)) (eqV (by decide +kernel)) (by rw [show (SC ++ SM.map (shS 150)).length = 192 by decide +kernel]; rfl) ?_
  refine zRi.lift (fun X h => zRx.astore_n (i := 3) (ls' := [(0, zT 5), (1, zP 0), (2, zP 150), (3, zP 192)]) rfl rfl (by decide) dL_law_19 h) ?_
  refine zRi.lift (fun X h => zRx.iconst ⟨by decide, by decide⟩ dL_law_20 h) ?_
  refine zRi.lift (fun X h => zRx.istore (ls' := lls 0) rfl (by decide) dL_law_21 h) ?_
  refine zRi.steq (σ' := cmb cI (mI (fun i => cI (150 + i))) rZ) (fun a ha => ?_) (zRi.stop ⟨rfl, rfl, rfl, rfl, rfl⟩)
  rw [LSH_len] at ha
  unfold cmb
  by_cases c1 : a < 150
  · rw [if_pos c1, zr0_row _ (by omega), zj_lo _ _ _ c1]
  · by_cases c2 : a < 192
    · rw [if_neg c1, if_pos c2, zr0_row _ (by omega)]
      obtain ⟨i, rfl⟩ : ∃ i, a = 150 + i := ⟨a - 150, by omega⟩
      rw [zj_hi, show 150 + i - 150 = i by omega]
    · have e : a = 192 := by omega
      subst e
      rw [if_neg c1, if_neg c2, if_pos rfl, zr0_rowa]
      rfl
