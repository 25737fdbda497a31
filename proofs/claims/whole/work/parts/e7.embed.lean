/-! a world within a world: calls whose contract speaks of a stretch of the cells alone -/
def shF (n : Nat) : zFK → zFK
  | .inl t => .inl t
  | .inr none => .inr none
  | .inr (some t) => .inr (some (t + n))
def shS (n : Nat) : zSh → zSh
  | .inl x => .inl x
  | .inr (.inl (ci, fks)) => .inr (.inl (ci, fks.map (shF n)))
  | .inr (.inr ts) => .inr (.inr (ts.map (fun t => t.map (· + n))))
/-- the same machine, seen from cell n on; the stretch from f to g is foreign -/
def kE (k : zC) (n f g : Nat) : zC := (k.1 + n, fun i => if i = 3 then k.1 + f else if i = 4 then k.1 + g else k.2.1 i, k.2.2)
theorem fval_sh (k : zC) (n f g : Nat) (F : Int → Int) (j : Nat) (x : zFK) : fval k F j (shF n x) = fval (kE k n f g) F j x := by
  rcases x with t | _ | t
  · rfl
  · rfl
  · show Value.ref (k.1 + (t + n)) = Value.ref (k.1 + n + t)
    rw [Nat.add_assoc, Nat.add_comm t n]
theorem zcell_sh (k : zC) (n f g : Nat) (F : Int → Int) (x : zSh) : zcell k F (shS n x) = zcell (kE k n f g) F x := by
  rcases x with ⟨t, m⟩ | ⟨ci, fks⟩ | ts
  · rfl
  · show (Sum.inr (ci, (fks.map (shF n)).mapIdx (fun j fk => fval k F j fk)) : va_E) = .inr (ci, fks.mapIdx (fun j fk => fval (kE k n f g) F j fk))
    congr 2
    apply List.ext_getElem?
    intro i
    rw [List.getElem?_mapIdx, List.getElem?_mapIdx, List.getElem?_map]
    cases fks[i]? with
    | none => rfl
    | some y => exact congrArg some (fval_sh k n f g F i y)
  · show (Sum.inl (k.2.2.2 4, (ts.map (fun t => t.map (· + n))).length, _) : va_E) = .inl (k.2.2.2 4, ts.length, _)
    rw [List.length_map]
    congr 6
    refine congrArg Sum.inr (funext fun j => ?_)
    rw [List.getD_eq_getElem?_getD, List.getD_eq_getElem?_getD, List.getElem?_map]
    cases ts[j]? with
    | none => rfl
    | some y =>
      cases y with
      | none => rfl
      | some z => show some (k.1 + (z + n)) = some (k.1 + n + z); rw [Nat.add_assoc, Nat.add_comm z n]
theorem rS_sh (n : Nat) (F : Int → Int) (x : zSh) : rS F (shS n x) ↔ rS F x := by
  rcases x with ⟨t, m⟩ | ⟨ci, fks⟩ | ts
  · exact Iff.rfl
  · constructor
    · intro h j t hj
      exact h j t (by rw [List.getElem?_map, hj]; rfl)
    · intro h j t hj
      rw [List.getElem?_map] at hj
      cases hy : fks[j]? with
      | none => rw [hy] at hj; cases hj
      | some y =>
        rw [hy] at hj
        rcases y with y | _ | y
        · cases hj; exact h j t hy
        · cases hj
        · cases hj
  · exact Iff.rfl
/-- sub lies in sh from cell n on -/
def SUB (sh sub : List zSh) (n : Nat) : Prop := ∀ (i : Nat) (x : zSh), sub[i]? = some x → sh[n + i]? = some (shS n x)
section ZE
variable {sh sub : List zSh} {n : Nat} {σ σc : zG} {k : zC} {H H1 : Heap}
theorem sub_P (hs : SUB sh sub n) (he : ∀ i, i < sub.length → σ (n + i) = σc i) (f g : Nat) (h : va_P k.2.2.1 vwCl (wl k sh σ) H) : va_P (kE k n f g).2.2.1 vwCl (wl (kE k n f g) sub σc) H := by
  intro i y hy
  obtain ⟨x, hx, rfl⟩ := wl_inv hy
  have hl := (List.getElem?_eq_some_iff.mp hx).1
  have h1 := h (n + i) _ (wl_at (hs i x hx))
  rw [zcell_sh k n f g, he i hl] at h1
  show va_at k.2.2.1 vwCl (k.1 + n + i, _) H
  rw [Nat.add_assoc]
  exact h1
theorem sub_G (hs : SUB sh sub n) (he : ∀ i, i < sub.length → σ (n + i) = σc i) (h : rG sh σ) : rG sub σc := by
  intro i x hx
  have hl := (List.getElem?_eq_some_iff.mp hx).1
  have h1 := h (n + i) _ (hs i x hx)
  rw [he i hl, rS_sh] at h1
  exact h1
theorem sub_A (k : zC) (n g : Nat) (hk : k.2.1 4 ≤ k.1) : ∀ a, zA (kE k n (n + sub.length) g) a → zA k a := by
  intro a ha
  have h1 : k.1 + n ≤ a := ha.1
  exact ⟨by omega, fun x => by omega⟩
theorem sub_K {f g : Nat} (hA : ∀ a, zA (kE k n f g) a → zA k a) {U : State} (h : zK k U) : zK (kE k n f g) U := by
  refine ⟨h.1, h.2.1, fun i hi => ?_⟩
  obtain ⟨x1, x2, x3, x4⟩ := h.2.2 i hi
  have e : (kE k n f g).2.1 i = k.2.1 i := by
    show (if i = 3 then _ else if i = 4 then _ else k.2.1 i) = _
    rw [if_neg (by omega), if_neg (by omega)]
  rw [e]
  exact ⟨x1, x2.narrow hA, x3, fun z => x4 (hA _ z)⟩
/-- what came back of the stretch, beside the rest -/
theorem join_P {σ' τ : zG} (hs : SUB sh sub n) (hi : ∀ i, i < sub.length → σ' (n + i) = τ i) (ho : ∀ a, a < n ∨ n + sub.length ≤ a → σ' a = σ a) (h : va_P k.2.2.1 vwCl (wl k sh σ) H) (hk : ∀ a, a < H.size → ¬ zA (kE k n (n + sub.length) sh.length) a → H1[a]? = H[a]?) (h1 : va_P k.2.2.1 vwCl (wl (kE k n (n + sub.length) sh.length) sub τ) H1) : va_P k.2.2.1 vwCl (wl k sh σ') H1 := by
  intro a y hy
  obtain ⟨x, hx, rfl⟩ := wl_inv hy
  have hl := (List.getElem?_eq_some_iff.mp hx).1
  by_cases c : n ≤ a ∧ a < n + sub.length
  · obtain ⟨i, rfl⟩ : ∃ i, a = n + i := ⟨a - n, by omega⟩
    obtain ⟨z, hz⟩ : ∃ z, sub[i]? = some z := ⟨_, List.getElem?_eq_getElem (by omega)⟩
    have e := hs i z hz
    cases hx.symm.trans e
    have h2 := h1 i _ (wl_at hz)
    rw [hi i (by omega), zcell_sh k n (n + sub.length) sh.length]
    show va_at k.2.2.1 vwCl (k.1 + (n + i), _) H1
    rw [← Nat.add_assoc]
    exact h2
  · rw [ho a (by omega)]
    refine (h a _ (wl_at hx)).kept (hk _ (h a _ (wl_at hx)).lt (fun z => ?_))
    have z1 : k.1 + n ≤ k.1 + a := z.1
    have z2 : ¬ (k.1 + (n + sub.length) ≤ k.1 + a ∧ k.1 + a < k.1 + sh.length) := z.2
    omega
theorem join_G {σ' τ : zG} (hs : SUB sh sub n) (hi : ∀ i, i < sub.length → σ' (n + i) = τ i) (ho : ∀ a, a < n ∨ n + sub.length ≤ a → σ' a = σ a) (h : rG sh σ) (h1 : rG sub τ) : rG sh σ' := by
  intro a x hx
  have hl := (List.getElem?_eq_some_iff.mp hx).1
  by_cases c : n ≤ a ∧ a < n + sub.length
  · obtain ⟨i, rfl⟩ : ∃ i, a = n + i := ⟨a - n, by omega⟩
    obtain ⟨z, hz⟩ : ∃ z, sub[i]? = some z := ⟨_, List.getElem?_eq_getElem (by omega)⟩
    cases hx.symm.trans (hs i z hz)
    rw [hi i (by omega), rS_sh]
    exact h1 i z hz
  · rw [ho a (by omega)]
    exact h a x hx
end ZE
/-- numbers alone -/
def allI : List zV → Prop
  | [] => True
  | v :: t => (∃ z : Int, v = .inl z) ∧ allI t
theorem allI_tv {k k' : zC} : ∀ {av : List zV}, allI av → av.map (tv k) = av.map (tv k')
  | [], _ => rfl
  | v :: t, h => by
    obtain ⟨⟨z, rfl⟩, h2⟩ := h
    rw [List.map_cons, List.map_cons, allI_tv h2]
    rfl
section ZF
variable {NN : zC → State → Method → Prop} {al : zAl} {d : Nat} {Y M : zMI} {sh sub : List zSh} {pc : Nat} {ls : List (Nat × zV)} {st st0 av : List zV} {σ σc τ σ' : zG} {X : zX} {w : zV}
/-- a call of a method of the object at cell n, whose contract speaks of the stretch from n on -/
theorem zRi.callE {n idx ci d' : Nat} {fks : List zFK} (cl : zcV Y.1.cls idx M.1 ci) (hM : zMok M av.length) (hd' : d' + 1 ≤ d) (hs : sh[n]? = some (.inr (.inl (ci, fks)))) (hst : st0 = av.reverse ++ zP n :: st) (hav : allI av) (hc : (st.map fun v => if zlong v then 2 else 1).sum ≤ 8) (hd : decode Y.2.1 pc = .ok (.invokevirtual idx, 3)) (hsub : SUB sh sub n) (he : ∀ i, i < sub.length → σ (n + i) = σc i) (hw : ∃ z, w = .inl z) (hD : zDo sub d' M (zP 0 :: av) σc (zEq (some w) τ)) (hi : ∀ i, i < sub.length → σ' (n + i) = τ i) (ho : ∀ a, a < n ∨ n + sub.length ≤ a → σ' a = σ a)
    (h : zRi NN al d Y sh (pc + 3) ls (w :: st) σ' X) : zRi NN al d Y sh pc ls st0 σ X := by
  intro p l e R s m args below meth c k cf sf Z hk hnm hE hF hX H locs la hW hL hS
  subst hst
  obtain ⟨z9, rfl⟩ := hw
  obtain ⟨r1, r2⟩ := rL_app hS
  obtain ⟨m1, m2, m3, m4, m5, m6, m7⟩ := hM
  obtain ⟨g1, g2, g3, T, N, g4⟩ := cl
  have hts := hF.1.2.2.2.2
  have hA := sub_A (sub := sub) k n sh.length hk
  have hcb := callB_of (R := R) (rm := zroom d' 0 0) (mc := 0) (ms := 0) (ws' := gt) av.length hts (gt_goodIn m1) rfl rfl rfl (hts _ m7) (hts _ g1) ⟨m3, m4, m5⟩ (zRoom hF.2.2.1 hF.2.2.2.1 hd' m6)
  have hav2 : av.map (tv (kE k n (n + sub.length) sh.length)) = av.map (tv k) := allI_tv hav
  have hD2 := hD l (kE k n (n + sub.length) sh.length)
  have hargs : (zP 0 :: av).map (tv (kE k n (n + sub.length) sh.length)) = Value.ref (k.1 + n) :: av.map (tv k) := by
    rw [List.map_cons, hav2]
    rfl
  rw [hargs] at hD2
  have hpre : ∀ U : State, U.heap = H → s.WarmedH U.vm → zPre (kE k n (n + sub.length) sh.length) sub σc (zP 0 :: av) U := by
    intro U hU hw
    have base := zpreW (av := []) hF.2.1 hF.2.2.2.2.1 hW trivial U hU hw
    have hl : n < H.size + 1 := by
      have := (hW.1 n _ (wl_at hs)).lt
      have : k.1 + n < H.size := this
      omega
    refine ⟨?_, ?_, sub_K hA base.2.2.1, sub_G hsub he hW.2.2.1, ⟨trivial, rL_rev r1⟩, Or.inl ?_⟩
    · have : k.1 + n < H.size := (hW.1 n _ (wl_at hs)).lt
      rw [hU]
      show k.1 + n ≤ H.size
      omega
    · rw [hU]; exact sub_P hsub he _ _ hW.1
    · show k.1 + n + sub.length ≤ k.1 + (n + sub.length)
      omega
  intro T0 hT0 X0
  have hbl : FrameBlind (va_Pc (Value.ref (k.1 + n) :: av.map (tv k)) (fun U => zPre (kE k n (n + sub.length) sh.length) sub σc (zP 0 :: av) U ∧ ((0 : Nat) ≠ 0 → U.heap.size = (kE k n (n + sub.length) sh.length).1 + sub.length))) := by
    rw [← hargs]; exact zblind (sh := sub) (σ := σc) (av := zP 0 :: av)
  have hr := va_runV (C := M.1.cls) (b := k.1 + n) (As := av.map (tv k)) (H := H) (locs := locs) (cells := cf sh.length) (slots := sf (szs sh)) (g := F0 m pc la ((av.reverse ++ zP n :: st).map (tv k))) (rest := st.map (tv k)) (below := below) (meth := meth) (e := e) hF.1 hD2 ⟨hcb, hts _ g2, hts _ g3⟩ ⟨hbl, va_recv hF.2.1.1 hW.1 (ci := ci) (q0 := n) g4 (wl_at hs), fun U hU hw => ⟨rfl, hpre U hU hw, fun h0 => absurd rfl h0⟩⟩ rfl (by simp) hL.1.1 (by simp [tv]) (lv_room (by rw [zcat_sum]; exact hc)) hd hW.2.2.2.1
  obtain ⟨v, st₀, t, T', L, h0, X', hLo, e1, e2, ⟨⟨w9, sh9, σ9, hv, ⟨hq0, hq1, hq2⟩, hP, hG, hR, hn, hz⟩, hFr⟩, stp⟩ := hr T0 hT0 X0
  rw [hq0, hq2] at hP hG
  subst hq1
  cases hv
  have hkeep : ∀ a, a < H.size → ¬ zA (kE k n (n + sub.length) sh.length) a → T'.heap[a]? = H[a]? := fun a h1 h2 => by rw [e1, hFr.2 a (by rw [h0]; exact h1) h2, h0]
  have hP1 := join_P (σ' := σ') hsub hi ho hW.1 hkeep (by rw [e1]; exact hP)
  have hS1 : va_S (zA k) s.heap T'.heap (locs ++ L) := by
    refine ⟨?_, fun a h1 h2 => ?_, fun a ha => ?_⟩
    · rw [e1]; exact Nat.le_trans hW.2.1.1 (by rw [← h0]; exact hFr.1)
    · rw [hkeep a (Nat.lt_of_lt_of_le h1 hW.2.1.1) (fun z => h2 (hA _ z))]; exact hW.2.1.2.1 a h1 h2
    · rcases List.mem_append.mp ha with h | h
      · exact hW.2.1.2.2 a h
      · exact hA _ (hLo a h)
  obtain ⟨t2, a1, b1⟩ := h p l e R s m args below meth c k cf sf Z hk hnm hE hF hX T'.heap (locs ++ L) la ⟨hP1, hS1, join_G hsub hi ho hW.2.2.1 hG, hW.2.2.2⟩ hL ⟨hR.1, r2.2⟩ T' rfl X'
  exact ⟨t2, stp t2 a1, b1⟩
end ZF
