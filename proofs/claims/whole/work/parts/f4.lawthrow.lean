/-! the law: the four cases that may throw -/
/-- the law's judgement: as zRi, with counters of cells and slots -/
def zRt (L : Nat) (xs : Nat → Int32) (g g' : Nat × Nat) (pc : Nat) (ls : List (Nat × zV)) (st : List zV) (σ : zG) (X : zX) : Prop :=
  ∀ (p : Program) (l : Launch) (e : Env) (R : Room) (s : State) (m : MethodId) (args : Array Value) (below : List Frame) (meth : Method) (c : Code) (k : zC) (Z : State → Prop),
    l.stackTraces = false → zTh k s → k.2.1 4 ≤ k.1 → lwN L xs k s meth → zE k s s.heap → (∀ cf sf : Nat → Nat, zFx none 70 YL p R s m args c k cf sf) → (g'.1 ≤ R.cells ∧ g'.2 ≤ R.slots) →
    (∀ (sh' : List zSh) (pc' : Nat) (ls' : List (Nat × zV)) (st' : List zV) (σ' : zG) (H : Heap) (locs : List Loc) (la : Array Slot), X sh' pc' ls' st' σ' → zW k s R (fun _ => g'.1) (fun _ => g'.2) sh' σ' H locs → zL k YL.2.2.1 ls' la → rL st' → W p l e R s m args below meth c H locs g'.1 g'.2 Z (F0 m pc' la (st'.map (tv k)))) →
    ∀ (H : Heap) (locs : List Loc) (la : Array Slot), zW k s R (fun _ => g.1) (fun _ => g.2) LSH σ H locs → zL k YL.2.2.1 ls la → rL st → W p l e R s m args below meth c H locs g.1 g.2 Z (F0 m pc la (st.map (tv k)))
section LT
variable {L : Nat} {xs : Nat → Int32} {g g' : Nat × Nat} {pc : Nat} {ls : List (Nat × zV)} {st : List zV} {σ : zG} {X X1 : zX}
theorem zRt.ofI (h1 : g.1 ≤ g'.1) (h2 : g.2 ≤ g'.2) (h : zRi (lwN L xs) none 70 YL LSH pc ls st σ X) : zRt L xs g g' pc ls st σ X := by
  intro p l e R s m args below meth c k Z hst hT hk hN hE hF hR hX H locs la hW hL hS
  refine h p l e R s m args below meth c k (fun _ => g.1) (fun _ => g.2) Z hk hN hE (hF _ _) ?_ H locs la hW hL hS
  intro sh' pc' ls' st' σ' H1 locs1 la1 hx hW1 hL1 hS1
  exact W.widen h1 h2 (hX sh' pc' ls' st' σ' H1 locs1 la1 hx ⟨hW1.1, hW1.2.1, hW1.2.2.1, hR, hW1.2.2.2.2⟩ hL1 hS1)
theorem zRt.seg (r : zRi (lwN L xs) none 70 YL LSH pc ls st σ X1) (h : ∀ sh' pc' ls' st' σ', X1 sh' pc' ls' st' σ' → sh' = LSH ∧ zRt L xs g g' pc' ls' st' σ' X) : zRt L xs g g' pc ls st σ X := by
  intro p l e R s m args below meth c k Z hst hT hk hN hE hF hR hX H locs la hW hL hS
  refine r p l e R s m args below meth c k (fun _ => g.1) (fun _ => g.2) Z hk hN hE (hF _ _) ?_ H locs la hW hL hS
  intro sh' pc' ls' st' σ' H1 locs1 la1 hx hW1 hL1 hS1
  obtain ⟨rfl, h9⟩ := h _ _ _ _ _ hx
  exact h9 p l e R s m args below meth c k Z hst hT hk hN hE hF hR hX H1 locs1 la1 hW1 hL1 hS1
/-- a call of one of the four -/
theorem zRt.callW {y : MethodName} {cc : ByteArray} {idx : Nat} {a b : Int} {ans : Option Int} (hg : GoodIn gt (va_wsS RL idx y (wW y cc))) (hy : y.cls ≠ "java/lang/invoke/MethodHandle" ∧ y.cls ≠ "java/lang/invoke/VarHandle" ∧ (parseMethodDescriptor y.desc).map (fun d => d.parameters.length) = some 4) (hd : decode cL_law pc = .ok (.invokestatic idx, 3)) (hD : zDoW y cc a b σ ans)
    (h : zRi (lwN L xs) none 70 YL LSH (pc + 3) ls [.inl (wV ans)] (wS σ ans) X) : zRt L xs g (g.1 + 1, g.2 + 6) pc ls [zP 192, .inl b, .inl a, zP 0] σ X := by
  intro p l e R s m args below meth c k Z hst hT hk hN hE hF hR hX H locs la hW hL hS
  have hts := (hF (fun _ => 0) (fun _ => 0)).1.2.2.2.2
  have hzF := hF (fun _ => 0) (fun _ => 0)
  have hrun := vx_runSW (H := H) (locs := locs) (cells := g.1) (slots := g.2) (As := (wA a b).map (tv k)) (rest := []) (g := F0 m pc la (([zP 192, .inl b, .inl a, zP 0] : List zV).map (tv k))) (p := p) (e := e) (below := below) (meth := meth) hzF.1 (hD l k hst hk) (vx_cwSW (R := R) (own := RL) (index := idx) (ws' := gt) 4 hts hg rfl rfl rfl hy (zRoom (d := 70) (d' := 8) (maxL := 5) hzF.2.2.1 hzF.2.2.2.1 (by decide) (by decide))) ⟨zblindX, fun U hU hw => ⟨rfl, zpreW (av := wA a b) hzF.2.1 hzF.2.2.2.2.1 hW ⟨hS.2.2.2.1, hS.2.2.1, hS.2.1, hS.1, trivial⟩ U hU hw, zTh.warm hw (by rw [hU]; exact hW.2.1.2.1) hT⟩⟩ rfl rfl hL.1.1 rfl (show 2 * 0 + 0 ≤ 8 by decide) hd hR
  intro T0 hT0 X0
  obtain ⟨v, st₀, t, T', L9, h0, X', hLo, e1, e2, ⟨hv, hP, hG, hFr⟩, stp⟩ := hrun T0 hT0 X0
  cases hv
  have hW1 : zW k s R (fun _ => g.1 + 1) (fun _ => g.2 + 6) LSH (wS σ ans) T'.heap (locs ++ L9) := by
    refine ⟨by rw [e1]; exact hP, ⟨?_, fun a h1 h2 => ?_, fun a ha => ?_⟩, hG, hR, hW.2.2.2.2⟩
    · rw [e1]; exact Nat.le_trans hW.2.1.1 (by rw [← h0]; exact hFr.1)
    · rw [e1, hFr.2 a (by rw [h0]; exact Nat.lt_of_lt_of_le h1 hW.2.1.1) h2, h0]; exact hW.2.1.2.1 a h1 h2
    · rcases List.mem_append.mp ha with h | h
      · exact hW.2.1.2.2 a h
      · exact hLo a h
  have rw1 : r32 (wV ans) := by
    cases ans with
    | none => exact (⟨by decide, by decide⟩ : r32 1)
    | some _ => exact (⟨by decide, by decide⟩ : r32 0)
  obtain ⟨t2, a1, b1⟩ := h p l e R s m args below meth c k (fun _ => g.1 + 1) (fun _ => g.2 + 6) Z hk hN hE (hF _ _) hX T'.heap (locs ++ L9) la hW1 hL ⟨rw1, trivial⟩ T' rfl X'
  exact ⟨t2, stp t2 a1, b1⟩
end LT
theorem thr_eq {μ : zG} {f : Int} (h : μ 0 0 = f) : zDo SM 0 m_X12_thrown [zP 0] μ (zEq (some (.inl f)) μ) := by
  subst h
  exact does_X12_thrown μ
theorem cmb_out (σ μ : zG) (o : Int → Int) (v : Int) : zu (cmb σ μ o) 192 0 v = cmb σ μ (fun j => if j = 0 then v else o j) := by
  funext a j
  by_cases c : a = 192
  · subst c
    rw [zu_if]
    rfl
  · rw [zu_ne _ _ _ _ c]
    unfold cmb
    by_cases c1 : a < 150
    · rw [if_pos c1, if_pos c1]
    · rw [if_neg c1, if_neg c1]
      by_cases c2 : a < 192
      · rw [if_pos c2, if_pos c2]
      · rw [if_neg c2, if_neg c2, if_neg c, if_neg c]
theorem wg_fact : GoodIn gt (va_wsS RL 47 yL_fact (wW yL_fact cL_fact)) := by
  have h1 : ∀ w ∈ [Cond.methodLink RL 47 yL_fact, Cond.static yL_fact, Cond.initialized yL_fact.cls, Cond.codeWith yL_fact cL_fact 5 (some .int) [(0, 10, 13, 13)]], w ∈ lw_tbl ∧ goodWord w = true := by decide +kernel
  intro w hw
  have hw2 : w ∈ [Cond.methodLink RL 47 yL_fact, Cond.static yL_fact, Cond.initialized yL_fact.cls, Cond.codeWith yL_fact cL_fact 5 (some .int) [(0, 10, 13, 13)]] ++ gt := hw
  rcases List.mem_append.mp hw2 with h | h
  · have h3 := List.mem_filter.mpr (h1 w h)
    exact ⟨h3, gt_good _ h3⟩
  · exact ⟨h, gt_good _ h⟩
theorem wd_fact : wD cL_fact 7 := ⟨⟨dL_fact_0, dL_fact_1, dL_fact_2, dL_fact_3, dL_fact_4, dL_fact_5⟩, ⟨dL_fact_8, dL_fact_9, dL_fact_10⟩, ⟨dL_fact_13, dL_fact_15, dL_fact_16⟩, dL_fact_17, dL_fact_18⟩
theorem law_fact {σ μ : zG} {o : Int → Int} {L : Nat} {xs : Nat → Int32} (h : REL σ μ) {i : Int} (i0 : 0 ≤ i) (i1 : i + 6 ≤ (L : Int)) (hL : L ≤ 3072) (g : Nat × Nat) : zRt L xs g (g.1 + 1, g.2 + 6) 324 (lls i) [] (cmb σ μ o) (lX i) := by
  obtain ⟨ans, v, μ', d', h2, hD, b, r, ti⟩ := k_fact h (sx xs (i + 1)) (sx xs (i + 2))
  refine zRt.seg (X1 := fun sh' pc' ls' st' σ' => sh' = LSH ∧ pc' = 338 ∧ ls' = lls i ∧ st' = [zP 192, .inl (sx xs (i + 2)), .inl (sx xs (i + 1)), zP 0] ∧ σ' = cmb σ μ o) ?_ ?_
  · refine zRi.lift (fun X h => zRx.aload_n 1 rfl rfl dL_law_324 h) ?_
    refine zRi.lift (fun X h => zRx.aloadT 0 rfl rfl dL_law_325 h) ?_
    refine zRi.lift (fun X h => zRx.iload 4 rfl dL_law_326 h) ?_
    refine zRi.lift (fun X h => zRx.iconst ⟨by decide, by decide⟩ dL_law_328 h) ?_
    refine zRi.lift (fun X h => zRx.iadd ⟨by omega, by omega⟩ dL_law_329 h) ?_
    refine zRi.scr (by omega) (by omega) (by omega) dL_law_330 ?_
    refine zRi.lift (fun X h => zRx.aloadT 0 rfl rfl dL_law_331 h) ?_
    refine zRi.lift (fun X h => zRx.iload 4 rfl dL_law_332 h) ?_
    refine zRi.lift (fun X h => zRx.iconst ⟨by decide, by decide⟩ dL_law_334 h) ?_
    refine zRi.lift (fun X h => zRx.iadd ⟨by omega, by omega⟩ dL_law_335 h) ?_
    refine zRi.scr (by omega) (by omega) (by omega) dL_law_336 ?_
    refine zRi.lift (fun X h => zRx.aload_n 3 rfl rfl dL_law_337 h) ?_
    exact zRi.stop ⟨rfl, rfl, rfl, rfl, rfl⟩
  rintro _ _ _ _ _ ⟨rfl, rfl, rfl, rfl, rfl⟩
  refine ⟨rfl, zRt.callW (y := yL_fact) (cc := cL_fact) (a := (sx xs (i + 1))) (b := (sx xs (i + 2))) (ans := ans) wg_fact ⟨by decide, by decide, by decide +kernel⟩ dL_law_338 (zDoW.intro rfl rfl mk_X11_fact cv_L_7 wd_fact hD) ?_⟩
  rcases ti with ⟨rfl, t1⟩ | ⟨rfl, t0⟩
  · show zRi (lwN L xs) none 70 YL LSH 341 (lls i) [.inl 1] (cmb σ μ o) (lX i)
    refine zRi.lift (fun X h => zRx.istore (ls' := [(0, zT 5), (1, zP 0), (2, zP 150), (3, zP 192), (4, .inl i), (5, .inl 1)]) rfl (by decide) dL_law_341 h) ?_
    refine zRi.lift (fun X h => zRx.aload_n 2 rfl rfl dL_law_343 h) ?_
    refine zRi.lift (fun X h => zRx.aloadT 0 rfl rfl dL_law_344 h) ?_
    refine zRi.lift (fun X h => zRx.iload 4 rfl dL_law_345 h) ?_
    refine zRi.lift (fun X h => zRx.iconst ⟨by decide, by decide⟩ dL_law_347 h) ?_
    refine zRi.lift (fun X h => zRx.iadd ⟨by omega, by omega⟩ dL_law_348 h) ?_
    refine zRi.scr (by omega) (by omega) (by omega) dL_law_349 ?_
    refine zRi.lift (fun X h => zRx.aloadT 0 rfl rfl dL_law_350 h) ?_
    refine zRi.lift (fun X h => zRx.iload 4 rfl dL_law_351 h) ?_
    refine zRi.lift (fun X h => zRx.iconst ⟨by decide, by decide⟩ dL_law_353 h) ?_
    refine zRi.lift (fun X h => zRx.iadd ⟨by omega, by omega⟩ dL_law_354 h) ?_
    refine zRi.scr (by omega) (by omega) (by omega) dL_law_355 ?_
    refine zRi.callE (n := 150) (sub := SM) (σc := μ) (τ := μ') (σ' := cmb σ μ' o) (w := .inl v) (M := m_X12_fact) (av := [.inl (sx xs (i + 1)), .inl (sx xs (i + 2))]) cv_L_52 mk_X12_fact (by omega) lsh_150.choose_spec rfl ⟨⟨_, rfl⟩, ⟨_, rfl⟩, trivial⟩ (Nat.le_of_ble_eq_true rfl) dL_law_356 subM (cmb_m σ μ o) ⟨v, rfl⟩ b (cmb_m σ μ' o) (cmb_mo σ μ μ' o) ?_
    refine zRi.lift (fun X h => zRx.istore (ls' := [(0, zT 5), (1, zP 0), (2, zP 150), (3, zP 192), (4, .inl i), (5, .inl 1), (6, .inl v)]) rfl (by decide) dL_law_359 h) ?_
    refine zRi.lift (fun X h => zRx.aload_n 2 rfl rfl dL_law_361 h) ?_
    refine zRi.callE (n := 150) (sub := SM) (σc := μ') (τ := μ') (σ' := cmb σ μ' o) (w := .inl 1) (d' := 0) (M := m_X12_thrown) (av := []) cv_L_53 mk_X12_thrown (by decide) lsh_150.choose_spec rfl trivial (Nat.le_of_ble_eq_true rfl) dL_law_362 subM (cmb_m σ μ' o) ⟨1, rfl⟩ (thr_eq t1) (cmb_m σ μ' o) (cmb_mo σ μ' μ' o) ?_
    refine zRi.lift (fun X h => zRx.iload 5 rfl dL_law_365 h) ?_
    refine zRi.lift (fun X h => zRx.icmp_eq (tgt := 372) dL_law_367 (by decide) (fun _ => h) (fun x => absurd rfl x)) ?_
    refine zRi.lift (fun X h => zRx.iload 5 rfl dL_law_372 h) ?_
    refine zRi.lift (fun X h => zRx.if_ne (tgt := 389) dL_law_374 (by decide) (fun _ => h) (fun x => absurd x (by decide))) ?_
    refine zRi.lift (fun X h => zRx.goto (tgt := 1392) dL_law_389 (by decide) h) ?_
    refine zRi.lift (fun X h => zRx.less (ls' := lls i) (fun q hq => by simp only [List.mem_cons, List.not_mem_nil, or_false] at hq ⊢; rcases hq with h | h | h | h | h <;> simp [h]) h) ?_
    exact zRi.stop ⟨rfl, rfl, rfl, rfl, σ, μ', o, rfl, r⟩
  · show zRi (lwN L xs) none 70 YL LSH 341 (lls i) [.inl 0] (zu (cmb σ μ o) 192 0 v) (lX i)
    rw [cmb_out]
    refine zRi.lift (fun X h => zRx.istore (ls' := [(0, zT 5), (1, zP 0), (2, zP 150), (3, zP 192), (4, .inl i), (5, .inl 0)]) rfl (by decide) dL_law_341 h) ?_
    refine zRi.lift (fun X h => zRx.aload_n 2 rfl rfl dL_law_343 h) ?_
    refine zRi.lift (fun X h => zRx.aloadT 0 rfl rfl dL_law_344 h) ?_
    refine zRi.lift (fun X h => zRx.iload 4 rfl dL_law_345 h) ?_
    refine zRi.lift (fun X h => zRx.iconst ⟨by decide, by decide⟩ dL_law_347 h) ?_
    refine zRi.lift (fun X h => zRx.iadd ⟨by omega, by omega⟩ dL_law_348 h) ?_
    refine zRi.scr (by omega) (by omega) (by omega) dL_law_349 ?_
    refine zRi.lift (fun X h => zRx.aloadT 0 rfl rfl dL_law_350 h) ?_
    refine zRi.lift (fun X h => zRx.iload 4 rfl dL_law_351 h) ?_
    refine zRi.lift (fun X h => zRx.iconst ⟨by decide, by decide⟩ dL_law_353 h) ?_
    refine zRi.lift (fun X h => zRx.iadd ⟨by omega, by omega⟩ dL_law_354 h) ?_
    refine zRi.scr (by omega) (by omega) (by omega) dL_law_355 ?_
    refine zRi.callE (n := 150) (sub := SM) (σc := μ) (τ := μ') (σ' := cmb σ μ' (fun j => if j = 0 then v else o j)) (w := .inl v) (M := m_X12_fact) (av := [.inl (sx xs (i + 1)), .inl (sx xs (i + 2))]) cv_L_52 mk_X12_fact (by omega) lsh_150.choose_spec rfl ⟨⟨_, rfl⟩, ⟨_, rfl⟩, trivial⟩ (Nat.le_of_ble_eq_true rfl) dL_law_356 subM (cmb_m σ μ (fun j => if j = 0 then v else o j)) ⟨v, rfl⟩ b (cmb_m σ μ' (fun j => if j = 0 then v else o j)) (cmb_mo σ μ μ' (fun j => if j = 0 then v else o j)) ?_
    refine zRi.lift (fun X h => zRx.istore (ls' := [(0, zT 5), (1, zP 0), (2, zP 150), (3, zP 192), (4, .inl i), (5, .inl 0), (6, .inl v)]) rfl (by decide) dL_law_359 h) ?_
    refine zRi.lift (fun X h => zRx.aload_n 2 rfl rfl dL_law_361 h) ?_
    refine zRi.callE (n := 150) (sub := SM) (σc := μ') (τ := μ') (σ' := cmb σ μ' (fun j => if j = 0 then v else o j)) (w := .inl 0) (d' := 0) (M := m_X12_thrown) (av := []) cv_L_53 mk_X12_thrown (by decide) lsh_150.choose_spec rfl trivial (Nat.le_of_ble_eq_true rfl) dL_law_362 subM (cmb_m σ μ' (fun j => if j = 0 then v else o j)) ⟨0, rfl⟩ (thr_eq t0) (cmb_m σ μ' (fun j => if j = 0 then v else o j)) (cmb_mo σ μ' μ' (fun j => if j = 0 then v else o j)) ?_
    refine zRi.lift (fun X h => zRx.iload 5 rfl dL_law_365 h) ?_
    refine zRi.lift (fun X h => zRx.icmp_eq (tgt := 372) dL_law_367 (by decide) (fun _ => h) (fun x => absurd rfl x)) ?_
    refine zRi.lift (fun X h => zRx.iload 5 rfl dL_law_372 h) ?_
    refine zRi.lift (fun X h => zRx.if_ne (tgt := 389) dL_law_374 (by decide) (fun x => absurd rfl x) (fun _ => h)) ?_
    refine zRi.lift (fun X h => zRx.aload_n 3 rfl rfl dL_law_377 h) ?_
    refine zRi.lift (fun X h => zRx.iconst ⟨by decide, by decide⟩ dL_law_378 h) ?_
    refine zRi.lift (fun X h => zRx.laldv (v := v) rfl lsh_192 (by decide) (by decide) dL_law_379 h) ?_
    refine zRi.lift (fun X h => zRx.iload 6 rfl dL_law_380 h) ?_
    refine zRi.lift (fun X h => zRx.i2l dL_law_382 h) ?_
    refine zRi.lift (fun X h => zRx.lcmp dL_law_383 h) ?_
    refine zRi.lift (fun X h => zRx.topI (b := 0) (zcmp_0 v v |>.mpr rfl) h) ?_
    refine zRi.lift (fun X h => zRx.if_eq (tgt := 389) dL_law_384 (by decide) (fun _ => h) (fun x => absurd rfl x)) ?_
    refine zRi.lift (fun X h => zRx.goto (tgt := 1392) dL_law_389 (by decide) h) ?_
    refine zRi.lift (fun X h => zRx.less (ls' := lls i) (fun q hq => by simp only [List.mem_cons, List.not_mem_nil, or_false] at hq ⊢; rcases hq with h | h | h | h | h <;> simp [h]) h) ?_
    exact zRi.stop ⟨rfl, rfl, rfl, rfl, σ, μ', (fun j => if j = 0 then v else o j), rfl, r⟩
theorem wg_line : GoodIn gt (va_wsS RL 68 yL_line (wW yL_line cL_line)) := by
  have h1 : ∀ w ∈ [Cond.methodLink RL 68 yL_line, Cond.static yL_line, Cond.initialized yL_line.cls, Cond.codeWith yL_line cL_line 5 (some .int) [(0, 10, 13, 13)]], w ∈ lw_tbl ∧ goodWord w = true := by decide +kernel
  intro w hw
  have hw2 : w ∈ [Cond.methodLink RL 68 yL_line, Cond.static yL_line, Cond.initialized yL_line.cls, Cond.codeWith yL_line cL_line 5 (some .int) [(0, 10, 13, 13)]] ++ gt := hw
  rcases List.mem_append.mp hw2 with h | h
  · have h3 := List.mem_filter.mpr (h1 w h)
    exact ⟨h3, gt_good _ h3⟩
  · exact ⟨h, gt_good _ h⟩
theorem wd_line : wD cL_line 15 := ⟨⟨dL_line_0, dL_line_1, dL_line_2, dL_line_3, dL_line_4, dL_line_5⟩, ⟨dL_line_8, dL_line_9, dL_line_10⟩, ⟨dL_line_13, dL_line_15, dL_line_16⟩, dL_line_17, dL_line_18⟩
theorem law_line {σ μ : zG} {o : Int → Int} {L : Nat} {xs : Nat → Int32} (h : REL σ μ) {i : Int} (i0 : 0 ≤ i) (i1 : i + 6 ≤ (L : Int)) (hL : L ≤ 3072) (g : Nat × Nat) : zRt L xs g (g.1 + 1, g.2 + 6) 479 (lls i) [] (cmb σ μ o) (lX i) := by
  obtain ⟨ans, v, μ', d', h2, hD, b, r, ti⟩ := k_line h (sx xs (i + 1)) (sx xs (i + 2))
  refine zRt.seg (X1 := fun sh' pc' ls' st' σ' => sh' = LSH ∧ pc' = 493 ∧ ls' = lls i ∧ st' = [zP 192, .inl (sx xs (i + 2)), .inl (sx xs (i + 1)), zP 0] ∧ σ' = cmb σ μ o) ?_ ?_
  · refine zRi.lift (fun X h => zRx.aload_n 1 rfl rfl dL_law_479 h) ?_
    refine zRi.lift (fun X h => zRx.aloadT 0 rfl rfl dL_law_480 h) ?_
    refine zRi.lift (fun X h => zRx.iload 4 rfl dL_law_481 h) ?_
    refine zRi.lift (fun X h => zRx.iconst ⟨by decide, by decide⟩ dL_law_483 h) ?_
    refine zRi.lift (fun X h => zRx.iadd ⟨by omega, by omega⟩ dL_law_484 h) ?_
    refine zRi.scr (by omega) (by omega) (by omega) dL_law_485 ?_
    refine zRi.lift (fun X h => zRx.aloadT 0 rfl rfl dL_law_486 h) ?_
    refine zRi.lift (fun X h => zRx.iload 4 rfl dL_law_487 h) ?_
    refine zRi.lift (fun X h => zRx.iconst ⟨by decide, by decide⟩ dL_law_489 h) ?_
    refine zRi.lift (fun X h => zRx.iadd ⟨by omega, by omega⟩ dL_law_490 h) ?_
    refine zRi.scr (by omega) (by omega) (by omega) dL_law_491 ?_
    refine zRi.lift (fun X h => zRx.aload_n 3 rfl rfl dL_law_492 h) ?_
    exact zRi.stop ⟨rfl, rfl, rfl, rfl, rfl⟩
  rintro _ _ _ _ _ ⟨rfl, rfl, rfl, rfl, rfl⟩
  refine ⟨rfl, zRt.callW (y := yL_line) (cc := cL_line) (a := (sx xs (i + 1))) (b := (sx xs (i + 2))) (ans := ans) wg_line ⟨by decide, by decide, by decide +kernel⟩ dL_law_493 (zDoW.intro rfl rfl mk_X11_line cv_L_15 wd_line hD) ?_⟩
  rcases ti with ⟨rfl, t1⟩ | ⟨rfl, t0⟩
  · show zRi (lwN L xs) none 70 YL LSH 496 (lls i) [.inl 1] (cmb σ μ o) (lX i)
    refine zRi.lift (fun X h => zRx.istore (ls' := [(0, zT 5), (1, zP 0), (2, zP 150), (3, zP 192), (4, .inl i), (5, .inl 1)]) rfl (by decide) dL_law_496 h) ?_
    refine zRi.lift (fun X h => zRx.aload_n 2 rfl rfl dL_law_498 h) ?_
    refine zRi.lift (fun X h => zRx.aloadT 0 rfl rfl dL_law_499 h) ?_
    refine zRi.lift (fun X h => zRx.iload 4 rfl dL_law_500 h) ?_
    refine zRi.lift (fun X h => zRx.iconst ⟨by decide, by decide⟩ dL_law_502 h) ?_
    refine zRi.lift (fun X h => zRx.iadd ⟨by omega, by omega⟩ dL_law_503 h) ?_
    refine zRi.scr (by omega) (by omega) (by omega) dL_law_504 ?_
    refine zRi.lift (fun X h => zRx.aloadT 0 rfl rfl dL_law_505 h) ?_
    refine zRi.lift (fun X h => zRx.iload 4 rfl dL_law_506 h) ?_
    refine zRi.lift (fun X h => zRx.iconst ⟨by decide, by decide⟩ dL_law_508 h) ?_
    refine zRi.lift (fun X h => zRx.iadd ⟨by omega, by omega⟩ dL_law_509 h) ?_
    refine zRi.scr (by omega) (by omega) (by omega) dL_law_510 ?_
    refine zRi.callE (n := 150) (sub := SM) (σc := μ) (τ := μ') (σ' := cmb σ μ' o) (w := .inl v) (M := m_X12_line) (av := [.inl (sx xs (i + 1)), .inl (sx xs (i + 2))]) cv_L_70 mk_X12_line (by omega) lsh_150.choose_spec rfl ⟨⟨_, rfl⟩, ⟨_, rfl⟩, trivial⟩ (Nat.le_of_ble_eq_true rfl) dL_law_511 subM (cmb_m σ μ o) ⟨v, rfl⟩ b (cmb_m σ μ' o) (cmb_mo σ μ μ' o) ?_
    refine zRi.lift (fun X h => zRx.istore (ls' := [(0, zT 5), (1, zP 0), (2, zP 150), (3, zP 192), (4, .inl i), (5, .inl 1), (6, .inl v)]) rfl (by decide) dL_law_514 h) ?_
    refine zRi.lift (fun X h => zRx.aload_n 2 rfl rfl dL_law_516 h) ?_
    refine zRi.callE (n := 150) (sub := SM) (σc := μ') (τ := μ') (σ' := cmb σ μ' o) (w := .inl 1) (d' := 0) (M := m_X12_thrown) (av := []) cv_L_53 mk_X12_thrown (by decide) lsh_150.choose_spec rfl trivial (Nat.le_of_ble_eq_true rfl) dL_law_517 subM (cmb_m σ μ' o) ⟨1, rfl⟩ (thr_eq t1) (cmb_m σ μ' o) (cmb_mo σ μ' μ' o) ?_
    refine zRi.lift (fun X h => zRx.iload 5 rfl dL_law_520 h) ?_
    refine zRi.lift (fun X h => zRx.icmp_eq (tgt := 527) dL_law_522 (by decide) (fun _ => h) (fun x => absurd rfl x)) ?_
    refine zRi.lift (fun X h => zRx.iload 5 rfl dL_law_527 h) ?_
    refine zRi.lift (fun X h => zRx.if_ne (tgt := 544) dL_law_529 (by decide) (fun _ => h) (fun x => absurd x (by decide))) ?_
    refine zRi.lift (fun X h => zRx.goto (tgt := 1392) dL_law_544 (by decide) h) ?_
    refine zRi.lift (fun X h => zRx.less (ls' := lls i) (fun q hq => by simp only [List.mem_cons, List.not_mem_nil, or_false] at hq ⊢; rcases hq with h | h | h | h | h <;> simp [h]) h) ?_
    exact zRi.stop ⟨rfl, rfl, rfl, rfl, σ, μ', o, rfl, r⟩
  · show zRi (lwN L xs) none 70 YL LSH 496 (lls i) [.inl 0] (zu (cmb σ μ o) 192 0 v) (lX i)
    rw [cmb_out]
    refine zRi.lift (fun X h => zRx.istore (ls' := [(0, zT 5), (1, zP 0), (2, zP 150), (3, zP 192), (4, .inl i), (5, .inl 0)]) rfl (by decide) dL_law_496 h) ?_
    refine zRi.lift (fun X h => zRx.aload_n 2 rfl rfl dL_law_498 h) ?_
    refine zRi.lift (fun X h => zRx.aloadT 0 rfl rfl dL_law_499 h) ?_
    refine zRi.lift (fun X h => zRx.iload 4 rfl dL_law_500 h) ?_
    refine zRi.lift (fun X h => zRx.iconst ⟨by decide, by decide⟩ dL_law_502 h) ?_
    refine zRi.lift (fun X h => zRx.iadd ⟨by omega, by omega⟩ dL_law_503 h) ?_
    refine zRi.scr (by omega) (by omega) (by omega) dL_law_504 ?_
    refine zRi.lift (fun X h => zRx.aloadT 0 rfl rfl dL_law_505 h) ?_
    refine zRi.lift (fun X h => zRx.iload 4 rfl dL_law_506 h) ?_
    refine zRi.lift (fun X h => zRx.iconst ⟨by decide, by decide⟩ dL_law_508 h) ?_
    refine zRi.lift (fun X h => zRx.iadd ⟨by omega, by omega⟩ dL_law_509 h) ?_
    refine zRi.scr (by omega) (by omega) (by omega) dL_law_510 ?_
    refine zRi.callE (n := 150) (sub := SM) (σc := μ) (τ := μ') (σ' := cmb σ μ' (fun j => if j = 0 then v else o j)) (w := .inl v) (M := m_X12_line) (av := [.inl (sx xs (i + 1)), .inl (sx xs (i + 2))]) cv_L_70 mk_X12_line (by omega) lsh_150.choose_spec rfl ⟨⟨_, rfl⟩, ⟨_, rfl⟩, trivial⟩ (Nat.le_of_ble_eq_true rfl) dL_law_511 subM (cmb_m σ μ (fun j => if j = 0 then v else o j)) ⟨v, rfl⟩ b (cmb_m σ μ' (fun j => if j = 0 then v else o j)) (cmb_mo σ μ μ' (fun j => if j = 0 then v else o j)) ?_
    refine zRi.lift (fun X h => zRx.istore (ls' := [(0, zT 5), (1, zP 0), (2, zP 150), (3, zP 192), (4, .inl i), (5, .inl 0), (6, .inl v)]) rfl (by decide) dL_law_514 h) ?_
    refine zRi.lift (fun X h => zRx.aload_n 2 rfl rfl dL_law_516 h) ?_
    refine zRi.callE (n := 150) (sub := SM) (σc := μ') (τ := μ') (σ' := cmb σ μ' (fun j => if j = 0 then v else o j)) (w := .inl 0) (d' := 0) (M := m_X12_thrown) (av := []) cv_L_53 mk_X12_thrown (by decide) lsh_150.choose_spec rfl trivial (Nat.le_of_ble_eq_true rfl) dL_law_517 subM (cmb_m σ μ' (fun j => if j = 0 then v else o j)) ⟨0, rfl⟩ (thr_eq t0) (cmb_m σ μ' (fun j => if j = 0 then v else o j)) (cmb_mo σ μ' μ' (fun j => if j = 0 then v else o j)) ?_
    refine zRi.lift (fun X h => zRx.iload 5 rfl dL_law_520 h) ?_
    refine zRi.lift (fun X h => zRx.icmp_eq (tgt := 527) dL_law_522 (by decide) (fun _ => h) (fun x => absurd rfl x)) ?_
    refine zRi.lift (fun X h => zRx.iload 5 rfl dL_law_527 h) ?_
    refine zRi.lift (fun X h => zRx.if_ne (tgt := 544) dL_law_529 (by decide) (fun x => absurd rfl x) (fun _ => h)) ?_
    refine zRi.lift (fun X h => zRx.aload_n 3 rfl rfl dL_law_532 h) ?_
    refine zRi.lift (fun X h => zRx.iconst ⟨by decide, by decide⟩ dL_law_533 h) ?_
    refine zRi.lift (fun X h => zRx.laldv (v := v) rfl lsh_192 (by decide) (by decide) dL_law_534 h) ?_
    refine zRi.lift (fun X h => zRx.iload 6 rfl dL_law_535 h) ?_
    refine zRi.lift (fun X h => zRx.i2l dL_law_537 h) ?_
    refine zRi.lift (fun X h => zRx.lcmp dL_law_538 h) ?_
    refine zRi.lift (fun X h => zRx.topI (b := 0) (zcmp_0 v v |>.mpr rfl) h) ?_
    refine zRi.lift (fun X h => zRx.if_eq (tgt := 544) dL_law_539 (by decide) (fun _ => h) (fun x => absurd rfl x)) ?_
    refine zRi.lift (fun X h => zRx.goto (tgt := 1392) dL_law_544 (by decide) h) ?_
    refine zRi.lift (fun X h => zRx.less (ls' := lls i) (fun q hq => by simp only [List.mem_cons, List.not_mem_nil, or_false] at hq ⊢; rcases hq with h | h | h | h | h <;> simp [h]) h) ?_
    exact zRi.stop ⟨rfl, rfl, rfl, rfl, σ, μ', (fun j => if j = 0 then v else o j), rfl, r⟩
theorem wg_debt : GoodIn gt (va_wsS RL 80 yL_debt (wW yL_debt cL_debt)) := by
  have h1 : ∀ w ∈ [Cond.methodLink RL 80 yL_debt, Cond.static yL_debt, Cond.initialized yL_debt.cls, Cond.codeWith yL_debt cL_debt 5 (some .int) [(0, 10, 13, 13)]], w ∈ lw_tbl ∧ goodWord w = true := by decide +kernel
  intro w hw
  have hw2 : w ∈ [Cond.methodLink RL 80 yL_debt, Cond.static yL_debt, Cond.initialized yL_debt.cls, Cond.codeWith yL_debt cL_debt 5 (some .int) [(0, 10, 13, 13)]] ++ gt := hw
  rcases List.mem_append.mp hw2 with h | h
  · have h3 := List.mem_filter.mpr (h1 w h)
    exact ⟨h3, gt_good _ h3⟩
  · exact ⟨h, gt_good _ h⟩
theorem wd_debt : wD cL_debt 18 := ⟨⟨dL_debt_0, dL_debt_1, dL_debt_2, dL_debt_3, dL_debt_4, dL_debt_5⟩, ⟨dL_debt_8, dL_debt_9, dL_debt_10⟩, ⟨dL_debt_13, dL_debt_15, dL_debt_16⟩, dL_debt_17, dL_debt_18⟩
theorem law_debt {σ μ : zG} {o : Int → Int} {L : Nat} {xs : Nat → Int32} (h : REL σ μ) {i : Int} (i0 : 0 ≤ i) (i1 : i + 6 ≤ (L : Int)) (hL : L ≤ 3072) (g : Nat × Nat) : zRt L xs g (g.1 + 1, g.2 + 6) 585 (lls i) [] (cmb σ μ o) (lX i) := by
  obtain ⟨ans, v, μ', d', h2, hD, b, r, ti⟩ := k_debt h (sx xs (i + 1)) (sx xs (i + 2))
  refine zRt.seg (X1 := fun sh' pc' ls' st' σ' => sh' = LSH ∧ pc' = 599 ∧ ls' = lls i ∧ st' = [zP 192, .inl (sx xs (i + 2)), .inl (sx xs (i + 1)), zP 0] ∧ σ' = cmb σ μ o) ?_ ?_
  · refine zRi.lift (fun X h => zRx.aload_n 1 rfl rfl dL_law_585 h) ?_
    refine zRi.lift (fun X h => zRx.aloadT 0 rfl rfl dL_law_586 h) ?_
    refine zRi.lift (fun X h => zRx.iload 4 rfl dL_law_587 h) ?_
    refine zRi.lift (fun X h => zRx.iconst ⟨by decide, by decide⟩ dL_law_589 h) ?_
    refine zRi.lift (fun X h => zRx.iadd ⟨by omega, by omega⟩ dL_law_590 h) ?_
    refine zRi.scr (by omega) (by omega) (by omega) dL_law_591 ?_
    refine zRi.lift (fun X h => zRx.aloadT 0 rfl rfl dL_law_592 h) ?_
    refine zRi.lift (fun X h => zRx.iload 4 rfl dL_law_593 h) ?_
    refine zRi.lift (fun X h => zRx.iconst ⟨by decide, by decide⟩ dL_law_595 h) ?_
    refine zRi.lift (fun X h => zRx.iadd ⟨by omega, by omega⟩ dL_law_596 h) ?_
    refine zRi.scr (by omega) (by omega) (by omega) dL_law_597 ?_
    refine zRi.lift (fun X h => zRx.aload_n 3 rfl rfl dL_law_598 h) ?_
    exact zRi.stop ⟨rfl, rfl, rfl, rfl, rfl⟩
  rintro _ _ _ _ _ ⟨rfl, rfl, rfl, rfl, rfl⟩
  refine ⟨rfl, zRt.callW (y := yL_debt) (cc := cL_debt) (a := (sx xs (i + 1))) (b := (sx xs (i + 2))) (ans := ans) wg_debt ⟨by decide, by decide, by decide +kernel⟩ dL_law_599 (zDoW.intro rfl rfl mk_X11_debt cv_L_18 wd_debt hD) ?_⟩
  rcases ti with ⟨rfl, t1⟩ | ⟨rfl, t0⟩
  · show zRi (lwN L xs) none 70 YL LSH 602 (lls i) [.inl 1] (cmb σ μ o) (lX i)
    refine zRi.lift (fun X h => zRx.istore (ls' := [(0, zT 5), (1, zP 0), (2, zP 150), (3, zP 192), (4, .inl i), (5, .inl 1)]) rfl (by decide) dL_law_602 h) ?_
    refine zRi.lift (fun X h => zRx.aload_n 2 rfl rfl dL_law_604 h) ?_
    refine zRi.lift (fun X h => zRx.aloadT 0 rfl rfl dL_law_605 h) ?_
    refine zRi.lift (fun X h => zRx.iload 4 rfl dL_law_606 h) ?_
    refine zRi.lift (fun X h => zRx.iconst ⟨by decide, by decide⟩ dL_law_608 h) ?_
    refine zRi.lift (fun X h => zRx.iadd ⟨by omega, by omega⟩ dL_law_609 h) ?_
    refine zRi.scr (by omega) (by omega) (by omega) dL_law_610 ?_
    refine zRi.lift (fun X h => zRx.aloadT 0 rfl rfl dL_law_611 h) ?_
    refine zRi.lift (fun X h => zRx.iload 4 rfl dL_law_612 h) ?_
    refine zRi.lift (fun X h => zRx.iconst ⟨by decide, by decide⟩ dL_law_614 h) ?_
    refine zRi.lift (fun X h => zRx.iadd ⟨by omega, by omega⟩ dL_law_615 h) ?_
    refine zRi.scr (by omega) (by omega) (by omega) dL_law_616 ?_
    refine zRi.callE (n := 150) (sub := SM) (σc := μ) (τ := μ') (σ' := cmb σ μ' o) (w := .inl v) (M := m_X12_debt) (av := [.inl (sx xs (i + 1)), .inl (sx xs (i + 2))]) cv_L_82 mk_X12_debt (by omega) lsh_150.choose_spec rfl ⟨⟨_, rfl⟩, ⟨_, rfl⟩, trivial⟩ (Nat.le_of_ble_eq_true rfl) dL_law_617 subM (cmb_m σ μ o) ⟨v, rfl⟩ b (cmb_m σ μ' o) (cmb_mo σ μ μ' o) ?_
    refine zRi.lift (fun X h => zRx.istore (ls' := [(0, zT 5), (1, zP 0), (2, zP 150), (3, zP 192), (4, .inl i), (5, .inl 1), (6, .inl v)]) rfl (by decide) dL_law_620 h) ?_
    refine zRi.lift (fun X h => zRx.aload_n 2 rfl rfl dL_law_622 h) ?_
    refine zRi.callE (n := 150) (sub := SM) (σc := μ') (τ := μ') (σ' := cmb σ μ' o) (w := .inl 1) (d' := 0) (M := m_X12_thrown) (av := []) cv_L_53 mk_X12_thrown (by decide) lsh_150.choose_spec rfl trivial (Nat.le_of_ble_eq_true rfl) dL_law_623 subM (cmb_m σ μ' o) ⟨1, rfl⟩ (thr_eq t1) (cmb_m σ μ' o) (cmb_mo σ μ' μ' o) ?_
    refine zRi.lift (fun X h => zRx.iload 5 rfl dL_law_626 h) ?_
    refine zRi.lift (fun X h => zRx.icmp_eq (tgt := 633) dL_law_628 (by decide) (fun _ => h) (fun x => absurd rfl x)) ?_
    refine zRi.lift (fun X h => zRx.iload 5 rfl dL_law_633 h) ?_
    refine zRi.lift (fun X h => zRx.if_ne (tgt := 650) dL_law_635 (by decide) (fun _ => h) (fun x => absurd x (by decide))) ?_
    refine zRi.lift (fun X h => zRx.goto (tgt := 1392) dL_law_650 (by decide) h) ?_
    refine zRi.lift (fun X h => zRx.less (ls' := lls i) (fun q hq => by simp only [List.mem_cons, List.not_mem_nil, or_false] at hq ⊢; rcases hq with h | h | h | h | h <;> simp [h]) h) ?_
    exact zRi.stop ⟨rfl, rfl, rfl, rfl, σ, μ', o, rfl, r⟩
  · show zRi (lwN L xs) none 70 YL LSH 602 (lls i) [.inl 0] (zu (cmb σ μ o) 192 0 v) (lX i)
    rw [cmb_out]
    refine zRi.lift (fun X h => zRx.istore (ls' := [(0, zT 5), (1, zP 0), (2, zP 150), (3, zP 192), (4, .inl i), (5, .inl 0)]) rfl (by decide) dL_law_602 h) ?_
    refine zRi.lift (fun X h => zRx.aload_n 2 rfl rfl dL_law_604 h) ?_
    refine zRi.lift (fun X h => zRx.aloadT 0 rfl rfl dL_law_605 h) ?_
    refine zRi.lift (fun X h => zRx.iload 4 rfl dL_law_606 h) ?_
    refine zRi.lift (fun X h => zRx.iconst ⟨by decide, by decide⟩ dL_law_608 h) ?_
    refine zRi.lift (fun X h => zRx.iadd ⟨by omega, by omega⟩ dL_law_609 h) ?_
    refine zRi.scr (by omega) (by omega) (by omega) dL_law_610 ?_
    refine zRi.lift (fun X h => zRx.aloadT 0 rfl rfl dL_law_611 h) ?_
    refine zRi.lift (fun X h => zRx.iload 4 rfl dL_law_612 h) ?_
    refine zRi.lift (fun X h => zRx.iconst ⟨by decide, by decide⟩ dL_law_614 h) ?_
    refine zRi.lift (fun X h => zRx.iadd ⟨by omega, by omega⟩ dL_law_615 h) ?_
    refine zRi.scr (by omega) (by omega) (by omega) dL_law_616 ?_
    refine zRi.callE (n := 150) (sub := SM) (σc := μ) (τ := μ') (σ' := cmb σ μ' (fun j => if j = 0 then v else o j)) (w := .inl v) (M := m_X12_debt) (av := [.inl (sx xs (i + 1)), .inl (sx xs (i + 2))]) cv_L_82 mk_X12_debt (by omega) lsh_150.choose_spec rfl ⟨⟨_, rfl⟩, ⟨_, rfl⟩, trivial⟩ (Nat.le_of_ble_eq_true rfl) dL_law_617 subM (cmb_m σ μ (fun j => if j = 0 then v else o j)) ⟨v, rfl⟩ b (cmb_m σ μ' (fun j => if j = 0 then v else o j)) (cmb_mo σ μ μ' (fun j => if j = 0 then v else o j)) ?_
    refine zRi.lift (fun X h => zRx.istore (ls' := [(0, zT 5), (1, zP 0), (2, zP 150), (3, zP 192), (4, .inl i), (5, .inl 0), (6, .inl v)]) rfl (by decide) dL_law_620 h) ?_
    refine zRi.lift (fun X h => zRx.aload_n 2 rfl rfl dL_law_622 h) ?_
    refine zRi.callE (n := 150) (sub := SM) (σc := μ') (τ := μ') (σ' := cmb σ μ' (fun j => if j = 0 then v else o j)) (w := .inl 0) (d' := 0) (M := m_X12_thrown) (av := []) cv_L_53 mk_X12_thrown (by decide) lsh_150.choose_spec rfl trivial (Nat.le_of_ble_eq_true rfl) dL_law_623 subM (cmb_m σ μ' (fun j => if j = 0 then v else o j)) ⟨0, rfl⟩ (thr_eq t0) (cmb_m σ μ' (fun j => if j = 0 then v else o j)) (cmb_mo σ μ' μ' (fun j => if j = 0 then v else o j)) ?_
    refine zRi.lift (fun X h => zRx.iload 5 rfl dL_law_626 h) ?_
    refine zRi.lift (fun X h => zRx.icmp_eq (tgt := 633) dL_law_628 (by decide) (fun _ => h) (fun x => absurd rfl x)) ?_
    refine zRi.lift (fun X h => zRx.iload 5 rfl dL_law_633 h) ?_
    refine zRi.lift (fun X h => zRx.if_ne (tgt := 650) dL_law_635 (by decide) (fun x => absurd rfl x) (fun _ => h)) ?_
    refine zRi.lift (fun X h => zRx.aload_n 3 rfl rfl dL_law_638 h) ?_
    refine zRi.lift (fun X h => zRx.iconst ⟨by decide, by decide⟩ dL_law_639 h) ?_
    refine zRi.lift (fun X h => zRx.laldv (v := v) rfl lsh_192 (by decide) (by decide) dL_law_640 h) ?_
    refine zRi.lift (fun X h => zRx.iload 6 rfl dL_law_641 h) ?_
    refine zRi.lift (fun X h => zRx.i2l dL_law_643 h) ?_
    refine zRi.lift (fun X h => zRx.lcmp dL_law_644 h) ?_
    refine zRi.lift (fun X h => zRx.topI (b := 0) (zcmp_0 v v |>.mpr rfl) h) ?_
    refine zRi.lift (fun X h => zRx.if_eq (tgt := 650) dL_law_645 (by decide) (fun _ => h) (fun x => absurd rfl x)) ?_
    refine zRi.lift (fun X h => zRx.goto (tgt := 1392) dL_law_650 (by decide) h) ?_
    refine zRi.lift (fun X h => zRx.less (ls' := lls i) (fun q hq => by simp only [List.mem_cons, List.not_mem_nil, or_false] at hq ⊢; rcases hq with h | h | h | h | h <;> simp [h]) h) ?_
    exact zRi.stop ⟨rfl, rfl, rfl, rfl, σ, μ', (fun j => if j = 0 then v else o j), rfl, r⟩
theorem wg_came : GoodIn gt (va_wsS RL 87 yL_came (wW yL_came cL_came)) := by
  have h1 : ∀ w ∈ [Cond.methodLink RL 87 yL_came, Cond.static yL_came, Cond.initialized yL_came.cls, Cond.codeWith yL_came cL_came 5 (some .int) [(0, 10, 13, 13)]], w ∈ lw_tbl ∧ goodWord w = true := by decide +kernel
  intro w hw
  have hw2 : w ∈ [Cond.methodLink RL 87 yL_came, Cond.static yL_came, Cond.initialized yL_came.cls, Cond.codeWith yL_came cL_came 5 (some .int) [(0, 10, 13, 13)]] ++ gt := hw
  rcases List.mem_append.mp hw2 with h | h
  · have h3 := List.mem_filter.mpr (h1 w h)
    exact ⟨h3, gt_good _ h3⟩
  · exact ⟨h, gt_good _ h⟩
theorem wd_came : wD cL_came 21 := ⟨⟨dL_came_0, dL_came_1, dL_came_2, dL_came_3, dL_came_4, dL_came_5⟩, ⟨dL_came_8, dL_came_9, dL_came_10⟩, ⟨dL_came_13, dL_came_15, dL_came_16⟩, dL_came_17, dL_came_18⟩
theorem law_came {σ μ : zG} {o : Int → Int} {L : Nat} {xs : Nat → Int32} (h : REL σ μ) {i : Int} (i0 : 0 ≤ i) (i1 : i + 6 ≤ (L : Int)) (hL : L ≤ 3072) (g : Nat × Nat) : zRt L xs g (g.1 + 1, g.2 + 6) 690 (lls i) [] (cmb σ μ o) (lX i) := by
  obtain ⟨ans, v, μ', d', h2, hD, b, r, ti⟩ := k_came h (sx xs (i + 1)) (sx xs (i + 2))
  refine zRt.seg (X1 := fun sh' pc' ls' st' σ' => sh' = LSH ∧ pc' = 704 ∧ ls' = lls i ∧ st' = [zP 192, .inl (sx xs (i + 2)), .inl (sx xs (i + 1)), zP 0] ∧ σ' = cmb σ μ o) ?_ ?_
  · refine zRi.lift (fun X h => zRx.aload_n 1 rfl rfl dL_law_690 h) ?_
    refine zRi.lift (fun X h => zRx.aloadT 0 rfl rfl dL_law_691 h) ?_
    refine zRi.lift (fun X h => zRx.iload 4 rfl dL_law_692 h) ?_
    refine zRi.lift (fun X h => zRx.iconst ⟨by decide, by decide⟩ dL_law_694 h) ?_
    refine zRi.lift (fun X h => zRx.iadd ⟨by omega, by omega⟩ dL_law_695 h) ?_
    refine zRi.scr (by omega) (by omega) (by omega) dL_law_696 ?_
    refine zRi.lift (fun X h => zRx.aloadT 0 rfl rfl dL_law_697 h) ?_
    refine zRi.lift (fun X h => zRx.iload 4 rfl dL_law_698 h) ?_
    refine zRi.lift (fun X h => zRx.iconst ⟨by decide, by decide⟩ dL_law_700 h) ?_
    refine zRi.lift (fun X h => zRx.iadd ⟨by omega, by omega⟩ dL_law_701 h) ?_
    refine zRi.scr (by omega) (by omega) (by omega) dL_law_702 ?_
    refine zRi.lift (fun X h => zRx.aload_n 3 rfl rfl dL_law_703 h) ?_
    exact zRi.stop ⟨rfl, rfl, rfl, rfl, rfl⟩
  rintro _ _ _ _ _ ⟨rfl, rfl, rfl, rfl, rfl⟩
  refine ⟨rfl, zRt.callW (y := yL_came) (cc := cL_came) (a := (sx xs (i + 1))) (b := (sx xs (i + 2))) (ans := ans) wg_came ⟨by decide, by decide, by decide +kernel⟩ dL_law_704 (zDoW.intro rfl rfl mk_X11_came cv_L_21 wd_came hD) ?_⟩
  rcases ti with ⟨rfl, t1⟩ | ⟨rfl, t0⟩
  · show zRi (lwN L xs) none 70 YL LSH 707 (lls i) [.inl 1] (cmb σ μ o) (lX i)
    refine zRi.lift (fun X h => zRx.istore (ls' := [(0, zT 5), (1, zP 0), (2, zP 150), (3, zP 192), (4, .inl i), (5, .inl 1)]) rfl (by decide) dL_law_707 h) ?_
    refine zRi.lift (fun X h => zRx.aload_n 2 rfl rfl dL_law_709 h) ?_
    refine zRi.lift (fun X h => zRx.aloadT 0 rfl rfl dL_law_710 h) ?_
    refine zRi.lift (fun X h => zRx.iload 4 rfl dL_law_711 h) ?_
    refine zRi.lift (fun X h => zRx.iconst ⟨by decide, by decide⟩ dL_law_713 h) ?_
    refine zRi.lift (fun X h => zRx.iadd ⟨by omega, by omega⟩ dL_law_714 h) ?_
    refine zRi.scr (by omega) (by omega) (by omega) dL_law_715 ?_
    refine zRi.lift (fun X h => zRx.aloadT 0 rfl rfl dL_law_716 h) ?_
    refine zRi.lift (fun X h => zRx.iload 4 rfl dL_law_717 h) ?_
    refine zRi.lift (fun X h => zRx.iconst ⟨by decide, by decide⟩ dL_law_719 h) ?_
    refine zRi.lift (fun X h => zRx.iadd ⟨by omega, by omega⟩ dL_law_720 h) ?_
    refine zRi.scr (by omega) (by omega) (by omega) dL_law_721 ?_
    refine zRi.callE (n := 150) (sub := SM) (σc := μ) (τ := μ') (σ' := cmb σ μ' o) (w := .inl v) (M := m_X12_came) (av := [.inl (sx xs (i + 1)), .inl (sx xs (i + 2))]) cv_L_89 mk_X12_came (by omega) lsh_150.choose_spec rfl ⟨⟨_, rfl⟩, ⟨_, rfl⟩, trivial⟩ (Nat.le_of_ble_eq_true rfl) dL_law_722 subM (cmb_m σ μ o) ⟨v, rfl⟩ b (cmb_m σ μ' o) (cmb_mo σ μ μ' o) ?_
    refine zRi.lift (fun X h => zRx.istore (ls' := [(0, zT 5), (1, zP 0), (2, zP 150), (3, zP 192), (4, .inl i), (5, .inl 1), (6, .inl v)]) rfl (by decide) dL_law_725 h) ?_
    refine zRi.lift (fun X h => zRx.aload_n 2 rfl rfl dL_law_727 h) ?_
    refine zRi.callE (n := 150) (sub := SM) (σc := μ') (τ := μ') (σ' := cmb σ μ' o) (w := .inl 1) (d' := 0) (M := m_X12_thrown) (av := []) cv_L_53 mk_X12_thrown (by decide) lsh_150.choose_spec rfl trivial (Nat.le_of_ble_eq_true rfl) dL_law_728 subM (cmb_m σ μ' o) ⟨1, rfl⟩ (thr_eq t1) (cmb_m σ μ' o) (cmb_mo σ μ' μ' o) ?_
    refine zRi.lift (fun X h => zRx.iload 5 rfl dL_law_731 h) ?_
    refine zRi.lift (fun X h => zRx.icmp_eq (tgt := 738) dL_law_733 (by decide) (fun _ => h) (fun x => absurd rfl x)) ?_
    refine zRi.lift (fun X h => zRx.iload 5 rfl dL_law_738 h) ?_
    refine zRi.lift (fun X h => zRx.if_ne (tgt := 755) dL_law_740 (by decide) (fun _ => h) (fun x => absurd x (by decide))) ?_
    refine zRi.lift (fun X h => zRx.goto (tgt := 1392) dL_law_755 (by decide) h) ?_
    refine zRi.lift (fun X h => zRx.less (ls' := lls i) (fun q hq => by simp only [List.mem_cons, List.not_mem_nil, or_false] at hq ⊢; rcases hq with h | h | h | h | h <;> simp [h]) h) ?_
    exact zRi.stop ⟨rfl, rfl, rfl, rfl, σ, μ', o, rfl, r⟩
  · show zRi (lwN L xs) none 70 YL LSH 707 (lls i) [.inl 0] (zu (cmb σ μ o) 192 0 v) (lX i)
    rw [cmb_out]
    refine zRi.lift (fun X h => zRx.istore (ls' := [(0, zT 5), (1, zP 0), (2, zP 150), (3, zP 192), (4, .inl i), (5, .inl 0)]) rfl (by decide) dL_law_707 h) ?_
    refine zRi.lift (fun X h => zRx.aload_n 2 rfl rfl dL_law_709 h) ?_
    refine zRi.lift (fun X h => zRx.aloadT 0 rfl rfl dL_law_710 h) ?_
    refine zRi.lift (fun X h => zRx.iload 4 rfl dL_law_711 h) ?_
    refine zRi.lift (fun X h => zRx.iconst ⟨by decide, by decide⟩ dL_law_713 h) ?_
    refine zRi.lift (fun X h => zRx.iadd ⟨by omega, by omega⟩ dL_law_714 h) ?_
    refine zRi.scr (by omega) (by omega) (by omega) dL_law_715 ?_
    refine zRi.lift (fun X h => zRx.aloadT 0 rfl rfl dL_law_716 h) ?_
    refine zRi.lift (fun X h => zRx.iload 4 rfl dL_law_717 h) ?_
    refine zRi.lift (fun X h => zRx.iconst ⟨by decide, by decide⟩ dL_law_719 h) ?_
    refine zRi.lift (fun X h => zRx.iadd ⟨by omega, by omega⟩ dL_law_720 h) ?_
    refine zRi.scr (by omega) (by omega) (by omega) dL_law_721 ?_
    refine zRi.callE (n := 150) (sub := SM) (σc := μ) (τ := μ') (σ' := cmb σ μ' (fun j => if j = 0 then v else o j)) (w := .inl v) (M := m_X12_came) (av := [.inl (sx xs (i + 1)), .inl (sx xs (i + 2))]) cv_L_89 mk_X12_came (by omega) lsh_150.choose_spec rfl ⟨⟨_, rfl⟩, ⟨_, rfl⟩, trivial⟩ (Nat.le_of_ble_eq_true rfl) dL_law_722 subM (cmb_m σ μ (fun j => if j = 0 then v else o j)) ⟨v, rfl⟩ b (cmb_m σ μ' (fun j => if j = 0 then v else o j)) (cmb_mo σ μ μ' (fun j => if j = 0 then v else o j)) ?_
    refine zRi.lift (fun X h => zRx.istore (ls' := [(0, zT 5), (1, zP 0), (2, zP 150), (3, zP 192), (4, .inl i), (5, .inl 0), (6, .inl v)]) rfl (by decide) dL_law_725 h) ?_
    refine zRi.lift (fun X h => zRx.aload_n 2 rfl rfl dL_law_727 h) ?_
    refine zRi.callE (n := 150) (sub := SM) (σc := μ') (τ := μ') (σ' := cmb σ μ' (fun j => if j = 0 then v else o j)) (w := .inl 0) (d' := 0) (M := m_X12_thrown) (av := []) cv_L_53 mk_X12_thrown (by decide) lsh_150.choose_spec rfl trivial (Nat.le_of_ble_eq_true rfl) dL_law_728 subM (cmb_m σ μ' (fun j => if j = 0 then v else o j)) ⟨0, rfl⟩ (thr_eq t0) (cmb_m σ μ' (fun j => if j = 0 then v else o j)) (cmb_mo σ μ' μ' (fun j => if j = 0 then v else o j)) ?_
    refine zRi.lift (fun X h => zRx.iload 5 rfl dL_law_731 h) ?_
    refine zRi.lift (fun X h => zRx.icmp_eq (tgt := 738) dL_law_733 (by decide) (fun _ => h) (fun x => absurd rfl x)) ?_
    refine zRi.lift (fun X h => zRx.iload 5 rfl dL_law_738 h) ?_
    refine zRi.lift (fun X h => zRx.if_ne (tgt := 755) dL_law_740 (by decide) (fun x => absurd rfl x) (fun _ => h)) ?_
    refine zRi.lift (fun X h => zRx.aload_n 3 rfl rfl dL_law_743 h) ?_
    refine zRi.lift (fun X h => zRx.iconst ⟨by decide, by decide⟩ dL_law_744 h) ?_
    refine zRi.lift (fun X h => zRx.laldv (v := v) rfl lsh_192 (by decide) (by decide) dL_law_745 h) ?_
    refine zRi.lift (fun X h => zRx.iload 6 rfl dL_law_746 h) ?_
    refine zRi.lift (fun X h => zRx.i2l dL_law_748 h) ?_
    refine zRi.lift (fun X h => zRx.lcmp dL_law_749 h) ?_
    refine zRi.lift (fun X h => zRx.topI (b := 0) (zcmp_0 v v |>.mpr rfl) h) ?_
    refine zRi.lift (fun X h => zRx.if_eq (tgt := 755) dL_law_750 (by decide) (fun _ => h) (fun x => absurd rfl x)) ?_
    refine zRi.lift (fun X h => zRx.goto (tgt := 1392) dL_law_755 (by decide) h) ?_
    refine zRi.lift (fun X h => zRx.less (ls' := lls i) (fun q hq => by simp only [List.mem_cons, List.not_mem_nil, or_false] at hq ⊢; rcases hq with h | h | h | h | h <;> simp [h]) h) ?_
    exact zRi.stop ⟨rfl, rfl, rfl, rfl, σ, μ', (fun j => if j = 0 then v else o j), rfl, r⟩
