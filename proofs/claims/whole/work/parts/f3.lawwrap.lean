/-! the law's four static methods that catch -/
theorem met_ofWH {l : Launch} {y : MethodName} {ws ws' : List Cond} {rm : Room} {Pc : Array Value → State → Prop} {Qc : Array Value → State → Outcome → State → Prop} {mc ms : Nat} {free : Addr → Prop} {cc : ByteArray} {maxL : Nat} {ret : Option FieldType} {hh : List (Nat × Nat × Nat × Nat)}
    (hy : plainName y.cls = true) (hw : ws = Cond.codeWith y cc maxL ret hh :: ws')
    (body : ∀ p e s m args below meth c s₁, BodyLoose p l y (headSpec ws rm) cc maxL ret e s m args below meth c s₁ → c.maxLocals = maxL → c.exceptionTable.toList = tableOf hh → Pc args s →
      W p l e (headSpec ws rm).room s m args below meth c s.heap [] 0 0 (MQ below Qc args s mc ms free) (entryFrame m args maxL)) : Met l y ws rm Pc Qc mc ms free := by
  refine MetFree.of_bodyS (code := cc) (maxLocals := maxL) (ret := ret) hy ?_ ?_
  · intro args s m h hn
    obtain ⟨m9, meth, c, hn9, h1, h2, h3, h4, -, h5, h6, -⟩ := Cond.codeWith_spec (atoms_spec (ws := ws) h _ (by rw [hw]; exact List.mem_cons_self))
    cases hn.symm.trans hn9
    exact ⟨meth, c, h1, h2, h3, h4, h5, h6⟩
  · intro p e s m args below meth c s₁ B hml hP _
    have hh0 : s₁.heap = s.heap := by rw [B.state]; rfl
    have ht := vx_table (x := y) B (atoms_spec (ws := ws) B.pre _ (by rw [hw]; exact List.mem_cons_self))
    obtain ⟨t, a1, o, b1, b2, b3⟩ := body p e s m args below meth c s₁ B hml ht hP s₁ hh0 (Stand.of_body B)
    exact ⟨t, o, a1, b1, b2, ⟨b3.1, b3.2⟩⟩
def wA (a b : Int) : List zV := [zP 0, .inl a, .inl b, zP 192]
/-- what such a method answers, and the row that it leaves -/
def wV : Option Int → Int
  | none => 1
  | some _ => 0
def wS (g : zG) : Option Int → zG
  | none => g
  | some z => zu g 192 0 z
def wQ (k : zC) (g : zG) (ans : Option Int) : Array Value → State → Outcome → State → Prop := fun _ st oc t => oc = .returned (some (.int (iv (wV ans)))) ∧ va_P k.2.2.1 vwCl (wl k LSH (wS g ans)) t.heap ∧ rG LSH (wS g ans) ∧ va_F (zA k) st t
def wW (y : MethodName) (cc : ByteArray) : List Cond := Cond.codeWith y cc 5 (some .int) [(0, 10, 13, 13)] :: gt
def zDoW (y : MethodName) (cc : ByteArray) (a b : Int) (g : zG) (ans : Option Int) : Prop :=
  ∀ (l : Launch) (k : zC), l.stackTraces = false → k.2.1 4 ≤ k.1 → Met l y (wW y cc) (zroom 8 1 6) (va_Pc ((wA a b).map (tv k)) (fun U => zPre k LSH g (wA a b) U ∧ zTh k U)) (wQ k g ans) 1 6 (zA k)
/-- the nineteen bytes of each of the four -/
def wD (cc : ByteArray) (idx : Nat) : Prop := (decode cc 0 = .ok (.aload_n 3, 1) ∧ decode cc 1 = .ok (.iconst 0, 1) ∧ decode cc 2 = .ok (.aload_n 0, 1) ∧ decode cc 3 = .ok (.iload_n 1, 1) ∧ decode cc 4 = .ok (.iload_n 2, 1) ∧ decode cc 5 = .ok (.invokevirtual idx, 3)) ∧
  (decode cc 8 = .ok (.i2l, 1) ∧ decode cc 9 = .ok (.lastore, 1) ∧ decode cc 10 = .ok (.goto 7, 3)) ∧ (decode cc 13 = .ok (.astore 4, 2) ∧ decode cc 15 = .ok (.iconst 1, 1) ∧ decode cc 16 = .ok (.ireturn, 1)) ∧ decode cc 17 = .ok (.iconst 0, 1) ∧ decode cc 18 = .ok (.ireturn, 1)
theorem xL_l : Cond.classLink RL 13 "java/util/NoSuchElementException" ∈ lw_tbl := by decide +kernel
theorem zDoW.intro {y : MethodName} {cc : ByteArray} {idx : Nat} {M : zMI} {ans : Option Int} {σ μ : zG} {o : Int → Int} {a b : Int} (hy : plainName y.cls = true) (hcl : y.cls = RL) (hM : zMok M 2) (cl : zcV RL idx M.1 11) (hd : wD cc idx) (hD : zDoX SC 6 M [zP 0, .inl a, .inl b] σ ans) : zDoW y cc a b (cmb σ μ o) ans := by
  obtain ⟨⟨d0, d1, d2, d3, d4, d5⟩, ⟨d8, d9, d10⟩, ⟨d13, d15, d16⟩, d17, d18⟩ := hd
  intro l k hst hk
  refine met_ofWH (cc := cc) (maxL := 5) (ret := some .int) (hh := [(0, 10, 13, 13)]) hy rfl ?_
  intro p e s m args below meth c s₁ B hml htb hv
  obtain ⟨rfl, ⟨q1, q2, q3, q4, q5, q6⟩, hTh⟩ := hv
  have hx := B.exec
  have hb := B.bytes
  have hr := B.returns
  have hts := atoms_spec (ws := wW y cc) B.pre
  have hown : s.vm.findClass y.cls = some m.cls := findClass_of_methodNamed B.named
  have hlocks : meth.locks = false := B.notSynchronized
  have hlv := lv_entry ((wA a b).map (tv k)) (n := 5) (by rw [zargs_len]; exact Nat.le_of_ble_eq_true rfl)
  rw [lg_entry_eq]
  have hgt : ∀ w ∈ gt, w.before ((wA a b).map (tv k)).toArray s = true := fun w hw => hts w (List.mem_cons_of_mem _ hw)
  have hF : ∀ (c0 s0 : Nat), zFx none 8 (y, cc, 5, some .int) p (headSpec (wW y cc) (zroom 8 1 6)).room s m ((wA a b).map (tv k)).toArray c k (fun _ => c0) (fun _ => s0) := fun c0 s0 => ⟨⟨hx, hb, hml, hown, hgt⟩, q3, Nat.le_refl _, Nat.le_refl _, q1, fun q hq => by cases hq⟩
  have w0 : zRx none 8 (y, cc, 5, some .int) LSH 0 (zargs 0 (wA a b)) [] (cmb σ μ o) (fun sh' pc' ls' st' σ' => sh' = LSH ∧ pc' = 5 ∧ st' = [.inl b, .inl a, zP 0, .inl 0, zP 192] ∧ σ' = cmb σ μ o) := by
    refine zRx.aload_n 3 rfl rfl d0 ?_
    refine zRx.iconst ⟨by decide, by decide⟩ d1 ?_
    refine zRx.aload_n 0 rfl rfl d2 ?_
    refine zRx.iload_n 1 rfl rfl d3 ?_
    refine zRx.iload_n 2 rfl rfl d4 ?_
    exact zRx.stop ⟨rfl, rfl, rfl, rfl⟩
  refine w0 p l e _ s m _ below meth c k (fun _ => 0) (fun _ => 0) _ (hF 0 0) ?_ s.heap [] _ ⟨q2, va_S.rf, q4, ⟨Nat.zero_le _, Nat.zero_le _⟩, q6⟩ ⟨by rw [← zargs_map]; exact hlv, zargs_r 0 _ q5⟩ trivial
  rintro sh' pc' ls' st' σ' H locs la ⟨rfl, rfl, rfl, rfl⟩ hW hL hS
  obtain ⟨g1, g2, g3, T, N, g4⟩ := cl
  obtain ⟨m1, m2, m3, m4, m5, m6, m7⟩ := hM
  have hA := sub_A (sub := SC) k 0 LSH.length hk
  have hl0 : k.1 + 0 < H.size := (hW.1 0 _ (wl_at lsh_0.choose_spec)).lt
  have hargs : ([zP 0, .inl a, .inl b] : List zV).map (tv (kE k 0 (0 + SC.length) LSH.length)) = [Value.ref (k.1 + 0), .int (iv a), .int (iv b)] := rfl
  have hD2 := hD l (kE k 0 (0 + SC.length) LSH.length) hst
  rw [hargs] at hD2
  have g1' : Cond.methodLink y.cls idx M.1 ∈ gt := by rw [hcl]; exact g1
  have hcb := callB_of (R := (headSpec (wW y cc) (zroom 8 1 6)).room) (rm := zroom 6 1 6) (mc := 1) (ms := 6) (ws' := gt) 2 hgt (gt_goodIn m1) rfl rfl rfl (hgt _ m7) (hgt _ g1') ⟨m3, m4, m5⟩ (zRoom (d := 8) (d' := 6) (Nat.le_refl _) (Nat.le_refl _) (by decide) m6)
  have hpre : ∀ U : State, U.heap = H → s.WarmedH U.vm → zPre (kE k 0 (0 + SC.length) LSH.length) SC σ [zP 0, .inl a, .inl b] U ∧ zTh (kE k 0 (0 + SC.length) LSH.length) U := by
    intro U hU hw
    have base := zpreW (av := []) q3 q1 hW trivial U hU hw
    refine ⟨⟨?_, ?_, sub_K hA base.2.2.1, sub_G subC (cmb_c σ μ o) hW.2.2.1, ⟨trivial, hS.2.1, hS.1, trivial⟩, Or.inl ?_⟩, zTh.narrow hA (zTh.warm hw (by rw [hU]; exact hW.2.1.2.1) hTh)⟩
    · rw [hU]
      show k.1 + 0 ≤ H.size
      omega
    · rw [hU]; exact sub_P subC (cmb_c σ μ o) _ _ hW.1
    · show k.1 + 0 + SC.length ≤ k.1 + (0 + SC.length)
      omega
  have hrun := vx_runV (R := (headSpec (wW y cc) (zroom 8 1 6)).room) (C := M.1.cls) (b := k.1 + 0) (As := [.int (iv a), .int (iv b)]) (H := H) (locs := locs) (cells := 0) (slots := 0) (g := F0 m 5 la (([.inl b, .inl a, zP 0, .inl 0, zP 192] : List zV).map (tv k))) (rest := [.int (iv 0), .ref (k.1 + 192)]) (below := below) (meth := meth) (e := e) (hF 0 0).1 hD2 ⟨hcb, hgt _ g2, hgt _ g3⟩ ⟨zblindX, va_recv q3.1 hW.1 (ci := 11) (q0 := 0) g4 (wl_at lsh_0.choose_spec), fun U hU hw => ⟨rfl, hpre U hU hw⟩⟩ rfl rfl hL.1.1 rfl (show 2 * 0 + (1 + (1 + 0)) ≤ 8 by decide) d5 ⟨Nat.le_refl 1, Nat.le_refl 6⟩
  intro T0 hT0 X0
  have keep : ∀ (st₀ t T' : State) (L : List Loc), st₀.heap = H → T'.heap = t.heap → (∀ q ∈ L, zA (kE k 0 (0 + SC.length) LSH.length) q.base) → va_P k.2.2.1 vwCl (wl (kE k 0 (0 + SC.length) LSH.length) SC σ) t.heap → va_F (zA (kE k 0 (0 + SC.length) LSH.length)) st₀ t → zW k s (headSpec (wW y cc) (zroom 8 1 6)).room (fun _ => 1) (fun _ => 6) LSH (cmb σ μ o) T'.heap (locs ++ L) := by
    intro st₀ t T' L h0 e1 hLo hP hFr
    have hkeep : ∀ a, a < H.size → ¬ zA (kE k 0 (0 + SC.length) LSH.length) a → T'.heap[a]? = H[a]? := fun a h1 h2 => by rw [e1, hFr.2 a (by rw [h0]; exact h1) h2, h0]
    refine ⟨join_P (σ' := cmb σ μ o) subC (cmb_c σ μ o) (fun _ _ => rfl) hW.1 hkeep (by rw [e1]; exact hP), ⟨?_, fun a h1 h2 => ?_, fun a ha => ?_⟩, hW.2.2.1, ⟨Nat.le_refl _, Nat.le_refl _⟩, hW.2.2.2.2⟩
    · rw [e1]; exact Nat.le_trans hW.2.1.1 (by rw [← h0]; exact hFr.1)
    · rw [hkeep a (Nat.lt_of_lt_of_le h1 hW.2.1.1) (fun z => h2 (hA _ z))]; exact hW.2.1.2.1 a h1 h2
    · rcases List.mem_append.mp ha with h | h
      · exact hW.2.1.2.2 a h
      · exact hA _ (hLo a h)
  rcases hrun T0 hT0 X0 with ⟨v, st₀, t, T', L, h0, X', hLo, e1, e2, ⟨z, hz, rz, hv, hP, hFr⟩, stp⟩ | ⟨q, st₀, t, T', L, E, ce, h0, X', hLo, e1, e2, ⟨hn, hE9, hP, hFr⟩, hce, hcv, hcl9, stp⟩
  · cases hv
    subst hz
    have hW1 := keep st₀ t T' L h0 e1 hLo hP hFr
    have w1 : zRx none 8 (y, cc, 5, some .int) LSH 8 ls' [.inl z, .inl 0, zP 192] (cmb σ μ o) (fun sh' pc' ls' st' σ' => sh' = LSH ∧ pc' = 18 ∧ st' = [.inl 0] ∧ σ' = zu (cmb σ μ o) 192 0 z) := by
      refine zRx.i2l d8 ?_
      refine zRx.last lsh_192 (by decide) (by decide) d9 ?_
      refine zRx.goto (tgt := 17) d10 (by decide) ?_
      refine zRx.iconst ⟨by decide, by decide⟩ d17 ?_
      exact zRx.stop ⟨rfl, rfl, rfl, rfl⟩
    obtain ⟨t2, a1, b1⟩ := w1 p l e _ s m _ below meth c k (fun _ => 1) (fun _ => 6) (MQ below (wQ k (cmb σ μ o) (some z)) _ s 1 6 (zA k)) (hF 1 6) (by
      rintro sh' pc' ls2 st' σ' H2 locs2 la2 ⟨rfl, rfl, rfl, rfl⟩ hW2 hL2 hS2
      exact W.iret hx hb (by rw [hr]) (fun t ht hw => ⟨rfl, by rw [ht]; exact hW2.1, hW2.2.2.1, hW2.2.1.F ht⟩) hW2.2.1.2.2 d18 hlocks) T'.heap (locs ++ L) la hW1 hL ⟨rz, hS.2.2.2.1, hS.2.2.2.2.1, trivial⟩ T' rfl X'
    exact ⟨t2, stp t2 a1, b1⟩
  · subst hn
    subst hE9
    have hW1 := keep st₀ t T' L h0 e1 hLo hP hFr
    have w1 : zRx none 8 (y, cc, 5, some .int) LSH 15 [] [] (cmb σ μ o) (fun sh' pc' ls' st' σ' => sh' = LSH ∧ pc' = 16 ∧ st' = [.inl 1] ∧ σ' = cmb σ μ o) := by
      refine zRx.iconst ⟨by decide, by decide⟩ d15 ?_
      exact zRx.stop ⟨rfl, rfl, rfl, rfl⟩
    have hcatch := zk_catch (Q := MQ below (wQ k (cmb σ μ o) none) ((wA a b).map (tv k)).toArray s 1 6 (zA k)) (own := RL) (name := "java/util/NoSuchElementException") (E := "java/util/NoSuchElementException") (ce := ce) (q := q) (p := p) (l := l) (e := e) (below := below) (meth := meth) (R := (headSpec (wW y cc) (zroom 8 1 6)).room) (H := T'.heap) (locs := locs ++ L) (cells := 1) (slots := 6) (pc := 5) (ls := la) (rest := [.int (iv 0), .ref (k.1 + 192)]) (by rw [← hcl]; exact hown) ⟨0, 10, 13, 13⟩ [] htb (by decide) (by decide) (hgt _ (List.mem_filter.mpr ⟨xL_l, by decide⟩)) (xB_use List.mem_cons_self (hTh.2.2 _ List.mem_cons_self)) (by rw [e1]; exact hce) hcv hcl9 (lv_astore hx hb d13 hL.1 (show 4 < 5 by decide) rfl (fun la2 h2 => w1 p l e _ s m _ below meth c k (fun _ => 1) (fun _ => 6) (MQ below (wQ k (cmb σ μ o) none) _ s 1 6 (zA k)) (hF 1 6) (by
      rintro sh' pc' ls2 st' σ' H2 locs2 la3 ⟨rfl, rfl, rfl, rfl⟩ hW2 hL2 hS2
      exact W.iret hx hb (by rw [hr]) (fun t ht hw => ⟨rfl, by rw [ht]; exact hW2.1, hW2.2.2.1, hW2.2.1.F ht⟩) hW2.2.1.2.2 d16 hlocks) T'.heap (locs ++ L) la2 hW1 ⟨⟨h2.1, h2.2.1, fun q hq => by cases hq⟩, fun q hq => by cases hq⟩ trivial))
    obtain ⟨t2, a1, b1⟩ := hcatch T' rfl X'
    exact ⟨t2, stp.trans a1, b1⟩
