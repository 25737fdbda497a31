/-! the four calls that may throw: contracts of the class -/
def xE : String := "java/util/NoSuchElementException"
def xU : List String := ["java/lang/RuntimeException", "java/lang/Exception"]
def xAt : List Cond := vx_at0 RX11 148 "java/util/NoSuchElementException" ["java/lang/RuntimeException", "java/lang/Exception"]
theorem xAt_t : ∀ w ∈ xAt.filter goodWord, w ∈ lw_tbl := by decide +kernel
theorem xAt_g : ∀ w ∈ xAt.filter goodWord, w ∈ gt := fun w h => List.mem_filter.mpr ⟨xAt_t w h, (List.mem_filter.mp h).2⟩
/-- the words of a throw that are no good ones -/
def xB : List Cond := [.castable "java/util/NoSuchElementException" "java/util/NoSuchElementException", .declares ⟨"java/lang/RuntimeException", "<init>", "()V"⟩, .declares ⟨"java/lang/Exception", "<init>", "()V"⟩, .declares ⟨"java/lang/Throwable", "<init>", "()V"⟩]
theorem xAt_b : ∀ w ∈ xAt.filter (fun w => !goodWord w), w ∈ xB := by decide +kernel
theorem xB_cases {w : Cond} (h : w ∈ xB) : w = .castable "java/util/NoSuchElementException" "java/util/NoSuchElementException" ∨ ∃ x, w = .declares x := by
  rcases List.mem_cons.mp h with h | h
  · exact Or.inl h
  · rcases List.mem_cons.mp h with h | h
    · exact Or.inr ⟨_, h⟩
    · rcases List.mem_cons.mp h with h | h
      · exact Or.inr ⟨_, h⟩
      · exact Or.inr ⟨_, List.mem_singleton.mp h⟩
theorem xB_warm {s U : State} (hW : s.WarmedH U.vm) {w : Cond} (hw : w ∈ xB) (h : va_Nw w s) : va_Nw w U := by
  rcases xB_cases hw with rfl | ⟨x, rfl⟩
  · exact va_Nw.warmC hW h
  · exact va_Nw.warmD hW h
theorem xB_same {s U : State} (hW : s.vm = U.vm) {w : Cond} (hw : w ∈ xB) (h : va_Nw w s) : va_Nw w U := by
  rcases xB_cases hw with rfl | ⟨x, rfl⟩ <;> exact va_Nw.same rfl hW h
theorem xB_use {args : Array Value} {s : State} {w : Cond} (hw : w ∈ xB) (h : va_Nw w s) : w.before args s = true := by
  rcases xB_cases hw with rfl | ⟨x, rfl⟩ <;> exact va_Nw.use rfl h
theorem xAt_o : ∀ w ∈ Cond.classLink RX11 146 "java/util/NoSuchElementException" :: Cond.initialized "java/util/NoSuchElementException" :: xAt, vx_ot w = true := by decide +kernel
theorem xAt_l : Cond.classLink RX11 146 "java/util/NoSuchElementException" ∈ lw_tbl := by decide +kernel
theorem xAt_i : Cond.initialized "java/util/NoSuchElementException" ∈ lw_tbl := by decide +kernel
/-- the statics that a throw reads -/
def zTh (k : zC) (U : State) : Prop := vx_Zq Bundle.tN "UNASSIGNED_STACK" Bundle.steD (zA k) U U.heap ∧ vx_Zq Bundle.tN "SUPPRESSED_SENTINEL" Bundle.listD (zA k) U U.heap ∧ ∀ w ∈ xB, va_Nw w U
theorem zTh.warm {k : zC} {s U : State} (hW : s.WarmedH U.vm) (hh : ∀ q : Nat, q < s.heap.size → ¬ zA k q → U.heap[q]? = s.heap[q]?) (h : zTh k s) : zTh k U := ⟨vx_Zq.moved hW.alike (h.1.kept hh), vx_Zq.moved hW.alike (h.2.1.kept hh), fun w hw => xB_warm hW hw (h.2.2 w hw)⟩
theorem zTh.same {k : zC} {s U : State} (hv : s.vm = U.vm) (hh : U.heap = s.heap) (h : zTh k s) : zTh k U := by
  have ha : s.vm.Alike U.vm := by rw [hv]; exact Vm.Alike.refl _
  unfold zTh
  rw [hh]
  exact ⟨vx_Zq.moved ha h.1, vx_Zq.moved ha h.2.1, fun w hw => xB_same hv hw (h.2.2 w hw)⟩
theorem zTh.narrow {k k' : zC} {U : State} (hA : ∀ a, zA k' a → zA k a) (h : zTh k U) : zTh k' U := ⟨h.1.narrow hA, h.2.1.narrow hA, h.2.2⟩
theorem xAt_all {args : Array Value} {s : State} {k : zC} (hts : ∀ w ∈ gt, w.before args s = true) (hT : zTh k s) : ∀ w ∈ xAt, w.before args s = true :=
  vx_hat (L := xAt) (B := xB) (fun w hw => hts w (xAt_g w hw)) xAt_b (fun w hw => xB_use hw (hT.2.2 w hw))
def xQ (k : zC) (sh : List zSh) (σ : zG) (ans : Option Int) : Array Value → State → Outcome → State → Prop := fun _ st oc t => ∃ z : Int, ans = some z ∧ r32 z ∧ oc = .returned (some (.int (iv z))) ∧ va_P k.2.2.1 vwCl (wl k sh σ) t.heap ∧ va_F (zA k) st t
def xC (k : zC) (sh : List zSh) (σ : zG) (ans : Option Int) : String → State → State → Prop := fun E st t => ans = none ∧ E = "java/util/NoSuchElementException" ∧ va_P k.2.2.1 vwCl (wl k sh σ) t.heap ∧ va_F (zA k) st t
/-- a method that answers ans, or throws where that is none; it changes nothing -/
def zDoX (sh : List zSh) (d : Nat) (M : zMI) (av : List zV) (σ : zG) (ans : Option Int) : Prop :=
  ∀ (l : Launch) (k : zC), l.stackTraces = false → vx_Met l M.1 (zws M) (zroom d 1 6) (va_Pc (av.map (tv k)) (fun U => zPre k sh σ av U ∧ zTh k U)) (xQ k sh σ ans) (xC k sh σ ans) 1 6 (zA k)
theorem zblindX {k : zC} {sh : List zSh} {σ : zG} {av : List zV} {As : List Value} : FrameBlind (va_Pc As (fun U => zPre k sh σ av U ∧ zTh k U)) := by
  intro a U g mk q
  obtain ⟨q0, ⟨q1, q2, q3, q4, q5, q7⟩, q6⟩ := q
  exact ⟨q0, ⟨q1, q2, zK.same (s := U) rfl rfl q3, q4, q5, q7⟩, zTh.same (s := U) rfl rfl q6⟩
/-- where the walk of such a method ends -/
def zXX (M : zMI) (sh : List zSh) (σ : zG) (ans : Option Int) : zX := fun sh' pc' _ st' σ' => sh' = sh ∧ σ' = σ ∧ ((∃ z : Int, ans = some z ∧ decode M.2.1 pc' = .ok (.ireturn, 1) ∧ st' = [.inl z]) ∨ (ans = none ∧ st' = [] ∧ decode M.2.1 pc' = .ok (.new 146, 3) ∧ decode M.2.1 (pc' + 3) = .ok (.dup, 1) ∧ decode M.2.1 (pc' + 4) = .ok (.invokespecial 148, 3) ∧ decode M.2.1 (pc' + 7) = .ok (.athrow, 1)))
theorem zDoX.intro {sh : List zSh} {σ : zG} {d n : Nat} {M : zMI} {av : List zV} {ans : Option Int} (hM : zMok M n) (hcl : M.1.cls = RX11) (hret : M.2.2.2 = some .int) (hl : (av.map fun v => if zlong v then 2 else 1).sum ≤ M.2.2.1) (h6 : 6 ≤ d)
    (h : zRx none d M sh 0 (zargs 0 av) [] σ (zXX M sh σ ans)) : zDoX sh d M av σ ans := by
  intro l k hst
  refine vx_ofW (cc := M.2.1) (maxL := M.2.2.1) (ret := M.2.2.2) hM.2.1 rfl ?_
  intro p e s m args below meth c s₁ B hml hnt hv
  obtain ⟨rfl, ⟨q1, q2, q3, q4, q5, q6⟩, hTh⟩ := hv
  obtain ⟨hU, hN, hB9⟩ := id hTh
  have hx := B.exec
  have hb := B.bytes
  have hr := B.returns
  have hts := atoms_spec (ws := zws M) B.pre
  have hown : s.vm.findClass M.1.cls = some m.cls := findClass_of_methodNamed B.named
  have hlocks : meth.locks = false := B.notSynchronized
  have hlv := lv_entry (av.map (tv k)) (n := M.2.2.1) (by rw [zargs_len]; exact hl)
  rw [lg_entry_eq]
  have hgt : ∀ w ∈ gt, w.before (av.map (tv k)).toArray s = true := fun w hw => hts w (List.mem_cons_of_mem _ hw)
  have hF : zFx none d M p (headSpec (zws M) (zroom d 1 6)).room s m (av.map (tv k)).toArray c k (fun _ => 0) (fun _ => 0) := ⟨⟨hx, hb, hml, hown, hgt⟩, q3, Nat.le_refl _, Nat.le_refl _, q1, fun q hq => by cases hq⟩
  refine h p l e _ s m _ below meth c k (fun _ => 0) (fun _ => 0) _ hF ?_ s.heap [] _ ⟨q2, va_S.rf, q4, ⟨Nat.zero_le _, Nat.zero_le _⟩, q6⟩ ⟨by rw [← zargs_map]; exact hlv, zargs_r 0 av q5⟩ trivial
  rintro sh' pc' ls' st' σ' H locs la ⟨rfl, rfl, hX⟩ hW hL hS
  rcases hX with ⟨z, e1, e2, rfl⟩ | ⟨e1, rfl, d0, d3, d4, d7⟩
  · refine vx_ret (W.widen (k := 1) (n := 6) (Nat.zero_le _) (Nat.zero_le _) ?_)
    exact W.iret hx hb (by rw [hr, hret]) (fun t ht hw => ⟨z, e1, hS.1, rfl, by rw [ht]; exact hW.1, hW.2.1.F ht⟩) hW.2.1.2.2 e2 hlocks
  · refine vx_throw0 (own := RX11) (cls := "java/util/NoSuchElementException") (names := ["java/lang/RuntimeException", "java/lang/Exception"]) (ik := 146) (ic := 148) (A := zA k) hx hb hst (by rw [← hcl]; exact hown) (by decide) (by decide) (hgt _ (List.mem_filter.mpr ⟨xAt_l, by decide⟩)) (hgt _ (List.mem_filter.mpr ⟨xAt_i, by decide⟩)) (xAt_all hgt hTh) xAt_o hU hN hW.2.1 (by rw [hml]; exact hL.1.1) d0 d3 d4 d7 (fun x hx9 => absurd hx9 (fun z => hnt x z)) ?_ ?_ ?_ ?_ hlocks (fun t ht hz hk => ⟨e1, rfl, ?_, ?_, ?_⟩) hW.2.1.2.2 (Nat.le_refl _) (Nat.le_refl _)
    · show 2 + 3 < d
      omega
    · show 0 + (13 * (2 + 1) + 42) ≤ 64 * d
      omega
    · exact Nat.le_refl _
    · exact Nat.le_refl _
    · exact hW.1.kept (fun i y hy => hk y.1 (hW.1 i y hy).lt)
    · exact Nat.le_trans hW.2.1.1 hz
    · intro q h1 h2
      rw [hk q (Nat.lt_of_lt_of_le h1 hW.2.1.1)]
      exact hW.2.1.2.1 q h1 h2
