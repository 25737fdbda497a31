/-! constructors whose contracts speak of the world's end alone -/
def kS (k : zC) (n : Nat) : zC := (k.1 + n, k.2.1, k.2.2)
theorem zcell_kS (k : zC) (n : Nat) (F : Int → Int) (x : zSh) : zcell k F (shS n x) = zcell (kS k n) F x := by
  rw [zcell_sh k n 0 0]
  rcases x with ⟨t, m⟩ | ⟨ci, fks⟩ | ts <;> rfl
def shV (n : Nat) : zV → zV
  | .inl z => .inl z
  | .inr (.inl z) => .inr (.inl z)
  | .inr (.inr (.inl t)) => .inr (.inr (.inl (n + t)))
  | .inr (.inr (.inr t)) => .inr (.inr (.inr t))
theorem tv_shV (k : zC) (n : Nat) (v : zV) : tv k (shV n v) = tv (kS k n) v := by
  rcases v with z | z | t | t
  · rfl
  · rfl
  · show Value.ref (k.1 + (n + t)) = Value.ref (k.1 + n + t)
    rw [Nat.add_assoc]
  · rfl
theorem tv_shVs (k : zC) (n : Nat) (av : List zV) : (av.map (shV n)).map (tv k) = av.map (tv (kS k n)) := by
  rw [List.map_map]
  exact List.map_congr_left (fun v _ => tv_shV k n v)
theorem rV_shV (n : Nat) (v : zV) : rV (shV n v) ↔ rV v := by rcases v with z | z | t | t <;> exact Iff.rfl
theorem rL_shV (n : Nat) : ∀ av : List zV, rL (av.map (shV n)) ↔ rL av
  | [] => Iff.rfl
  | v :: t => by
    show (rV (shV n v) ∧ rL (t.map (shV n))) ↔ (rV v ∧ rL t)
    rw [rV_shV, rL_shV n t]
theorem szs_sh (n : Nat) : ∀ sub : List zSh, szs (sub.map (shS n)) = szs sub
  | [] => rfl
  | .inl (t, m) :: r => by show m + szs (r.map (shS n)) = m + szs r; rw [szs_sh n r]
  | .inr (.inl (ci, fks)) :: r => by show (fks.map (shF n)).length + szs (r.map (shS n)) = fks.length + szs r; rw [szs_sh n r, List.length_map]
  | .inr (.inr ts) :: r => by show (ts.map (fun t => t.map (· + n))).length + szs (r.map (shS n)) = ts.length + szs r; rw [szs_sh n r, List.length_map]
section ZS
variable {k : zC} {n : Nat}
theorem kS_A (hk : k.2.1 4 ≤ k.1) : ∀ a, zA (kS k n) a → zA k a := by
  intro a ha
  have h1 : k.1 + n ≤ a := ha.1
  exact ⟨by omega, fun x => by omega⟩
theorem kS_K (hk : k.2.1 4 ≤ k.1) {U : State} (h : zK k U) : zK (kS k n) U := by
  refine ⟨h.1, h.2.1, fun i hi => ?_⟩
  obtain ⟨x1, x2, x3, x4⟩ := h.2.2 i hi
  exact ⟨x1, x2.narrow (kS_A hk), x3, fun z => x4 (kS_A hk _ z)⟩
theorem kS_E (hk : k.2.1 4 ≤ k.1) {U : State} {H : Heap} (h : zE k U H) : zE (kS k n) U H := ⟨h.1, h.2.1, h.2.2.1.narrow (kS_A hk), h.2.2.2.1.narrow (kS_A hk), h.2.2.2.2.narrow (kS_A hk)⟩
theorem sub_app (pre sub : List zSh) : SUB (pre ++ sub.map (shS pre.length)) sub pre.length := by
  intro i x hx
  rw [List.getElem?_append_right (by omega), show pre.length + i - pre.length = i by omega, List.getElem?_map, hx]
  rfl
theorem kS_P {pre sub : List zSh} {σ σc : zG} {H : Heap} (he : ∀ i, i < sub.length → σ (pre.length + i) = σc i) (h : va_P k.2.2.1 vwCl (wl k (pre ++ sub.map (shS pre.length)) σ) H) : va_P (kS k pre.length).2.2.1 vwCl (wl (kS k pre.length) sub σc) H := by
  intro i y hy
  obtain ⟨x, hx, rfl⟩ := wl_inv hy
  have hl := (List.getElem?_eq_some_iff.mp hx).1
  have h1 := h (pre.length + i) _ (wl_at (sub_app pre sub i x hx))
  rw [zcell_kS, he i hl] at h1
  show va_at k.2.2.1 vwCl (k.1 + pre.length + i, _) H
  rw [Nat.add_assoc]
  exact h1
/-- the state of the whole, out of what lay before and what came back -/
def zj (n : Nat) (σ τ : zG) : zG := fun a => if a < n then σ a else τ (a - n)
theorem zj_lo (n : Nat) (σ τ : zG) {a : Nat} (h : a < n) : zj n σ τ a = σ a := if_pos h
theorem zj_hi (n : Nat) (σ τ : zG) (i : Nat) : zj n σ τ (n + i) = τ i := by
  show (if n + i < n then _ else _) = _
  rw [if_neg (by omega), show n + i - n = i by omega]
theorem kS_join {pre sub sub' : List zSh} {σ τ : zG} {H H1 : Heap} (h : va_P k.2.2.1 vwCl (wl k (pre ++ sub.map (shS pre.length)) σ) H) (hk : ∀ a, a < H.size → ¬ zA (kS k pre.length) a → H1[a]? = H[a]?) (h1 : va_P k.2.2.1 vwCl (wl (kS k pre.length) sub' τ) H1) : va_P k.2.2.1 vwCl (wl k (pre ++ sub'.map (shS pre.length)) (zj pre.length σ τ)) H1 := by
  intro a y hy
  obtain ⟨x, hx, rfl⟩ := wl_inv hy
  by_cases c : a < pre.length
  · rw [List.getElem?_append_left c] at hx
    have hx0 : (pre ++ sub.map (shS pre.length))[a]? = some x := by rw [List.getElem?_append_left c]; exact hx
    rw [zj_lo _ _ _ c]
    have h2 := h a _ (wl_at hx0)
    refine h2.kept (hk _ h2.lt (fun z => ?_))
    have z1 : k.1 + pre.length ≤ k.1 + a := z.1
    omega
  · obtain ⟨i, rfl⟩ : ∃ i, a = pre.length + i := ⟨a - pre.length, by omega⟩
    rw [List.getElem?_append_right (by omega), show pre.length + i - pre.length = i by omega, List.getElem?_map] at hx
    cases hz : sub'[i]? with
    | none => rw [hz] at hx; cases hx
    | some z =>
      rw [hz] at hx
      cases hx
      have h2 := h1 i _ (wl_at hz)
      rw [zj_hi, zcell_kS]
      show va_at k.2.2.1 vwCl (k.1 + (pre.length + i), _) H1
      rw [← Nat.add_assoc]
      exact h2
theorem kS_G {pre sub sub' : List zSh} {σ τ : zG} (h : rG (pre ++ sub.map (shS pre.length)) σ) (h1 : rG sub' τ) : rG (pre ++ sub'.map (shS pre.length)) (zj pre.length σ τ) := by
  intro a x hx
  by_cases c : a < pre.length
  · rw [List.getElem?_append_left c] at hx
    rw [zj_lo _ _ _ c]
    exact h a x (by rw [List.getElem?_append_left c]; exact hx)
  · obtain ⟨i, rfl⟩ : ∃ i, a = pre.length + i := ⟨a - pre.length, by omega⟩
    rw [List.getElem?_append_right (by omega), show pre.length + i - pre.length = i by omega, List.getElem?_map] at hx
    cases hz : sub'[i]? with
    | none => rw [hz] at hx; cases hx
    | some z =>
      rw [hz] at hx
      cases hx
      rw [zj_hi, rS_sh]
      exact h1 i z hz
theorem kS_Gs {pre sub : List zSh} {σ σc : zG} (he : ∀ i, i < sub.length → σ (pre.length + i) = σc i) (h : rG (pre ++ sub.map (shS pre.length)) σ) : rG sub σc := sub_G (sub_app pre sub) he h
end ZS
section ZSC
variable {NN : zC → State → Method → Prop} {al : zAl} {d : Nat} {Y M : zMI} {pre sub : List zSh} {pc : Nat} {ls : List (Nat × zV)} {st st0 av : List zV} {σ σc : zG} {X : zX} {q : Nat × Nat × Nat × Nat}
/-- a constructor, by a contract on the world's end -/
theorem zRi.callIE {n b idx d' mc ms : Nat} {Q : List zSh → zG → Prop} (cl : Cond.methodLink Y.1.cls idx M.1 ∈ gt ∨ ∃ host, Cond.methodLinkNest Y.1.cls idx M.1 host ∈ nw) (hin : Cond.instanceMethod M.1 ∈ gt) (hnm : M.1.name = "<init>") (hret : M.2.2.2 = none) (hM : zMok M av.length) (hd' : d' + 1 ≤ d) (hn : pre.length = n) (hst : st0 = (av.map (shV n)).reverse ++ zP (n + b) :: st) (hc : (st.map fun v => if zlong v then 2 else 1).sum ≤ 8) (hd : decode Y.2.1 pc = .ok (.invokespecial idx, 3)) (he : ∀ i, i < sub.length → σ (n + i) = σc i) (h0 : q.1 ≤ n + sub.length) (h1 : n + sub.length + mc ≤ q.2.2.1) (z0 : q.2.1 ≤ szs pre + szs sub) (z1 : szs pre + szs sub + ms ≤ q.2.2.2) (hD : zDoA d' M mc ms (zP b :: av) sub σc Q)
    (h : ∀ sub' τ, Q sub' τ → sub'.length = sub.length + mc → szs sub' = szs sub + ms → zRi NN (some q) d Y (pre ++ sub'.map (shS n)) (pc + 3) ls st (zj n σ τ) X) : zRi NN (some q) d Y (pre ++ sub.map (shS n)) pc ls st0 σ X := by
  intro p l e R s m args below meth c k cf sf Z hk hnn hE hF hX H locs la hW hL hS
  subst hn
  subst hst
  obtain ⟨r1, r2⟩ := rL_app hS
  obtain ⟨m1, m2, m3, m4, m5, m6, m7⟩ := hM
  obtain ⟨a1, a2, a3, a4⟩ := hF.2.2.2.2.2 q rfl
  have hlen : (pre ++ sub.map (shS pre.length)).length = pre.length + sub.length := by simp
  have hszs : szs (pre ++ sub.map (shS pre.length)) = szs pre + szs sub := by rw [szs_app, szs_sh]
  have hts := hF.1.2.2.2.2
  have h0' : q.1 ≤ (pre ++ sub.map (shS pre.length)).length := by rw [hlen]; exact h0
  have hcc := cf_add a1 mc (pre ++ sub.map (shS pre.length)).length h0'
  have z0' : q.2.1 ≤ szs (pre ++ sub.map (shS pre.length)) := by rw [hszs]; exact z0
  have b1 : cf (pre ++ sub.map (shS pre.length)).length + mc ≤ R.cells := by rw [← hcc]; exact a3 _ (by rw [hlen]; exact h1)
  have b2 : sf (szs (pre ++ sub.map (shS pre.length))) + ms ≤ R.slots := by rw [← a2 _ ms z0']; exact a4 _ (by rw [hszs]; exact z1)
  have hR := zRoom hF.2.2.1 hF.2.2.2.1 hd' m6
  intro T0 hT0 X0
  have hsz := zsize hF hW h0' hT0 X0
  have hkS : (kS k pre.length).2.1 4 ≤ (kS k pre.length).1 := by
    show k.2.1 4 ≤ k.1 + pre.length
    omega
  have hD2 := hD l (kS k pre.length) hkS
  have hargs : (zP b :: av).map (tv (kS k pre.length)) = Value.ref (k.1 + (pre.length + b)) :: (av.map (shV pre.length)).map (tv k) := by
    rw [tv_shVs, List.map_cons, ← Nat.add_assoc]
    rfl
  rw [hargs] at hD2
  have hbl : FrameBlind (va_Pc (Value.ref (k.1 + (pre.length + b)) :: (av.map (shV pre.length)).map (tv k)) (fun U => zPre (kS k pre.length) sub σc (zP b :: av) U ∧ U.heap.size = (kS k pre.length).1 + sub.length ∧ zE (kS k pre.length) U U.heap)) := by
    rw [← hargs]
    exact zblindA
  have hpre : ∀ U : State, U.heap = H → s.WarmedH U.vm → zPre (kS k pre.length) sub σc (zP b :: av) U ∧ U.heap.size = (kS k pre.length).1 + sub.length ∧ zE (kS k pre.length) U U.heap := by
    intro U hU hw
    have base := zpreW (av := []) hF.2.1 hF.2.2.2.2.1 hW trivial U hU hw
    refine ⟨⟨?_, ?_, kS_K hk base.2.2.1, kS_Gs he hW.2.2.1, ⟨trivial, (rL_shV _ _).mp (rL_rev r1)⟩, Or.inr hkS⟩, ?_, kS_E hk (zE.warm hw (by rw [hU]; exact hW.2.1.2.1) hE)⟩
    · rw [hU, hsz, hlen]
      show k.1 + pre.length ≤ _
      omega
    · rw [hU]; exact kS_P he hW.1
    · rw [hU, hsz, hlen]
      show _ = k.1 + pre.length + sub.length
      omega
  have hp : PreS s H (va_Pc (Value.ref (k.1 + (pre.length + b)) :: (av.map (shV pre.length)).map (tv k)) (fun U => zPre (kS k pre.length) sub σc (zP b :: av) U ∧ U.heap.size = (kS k pre.length).1 + sub.length ∧ zE (kS k pre.length) U U.heap)) (Value.ref (k.1 + (pre.length + b)) :: (av.map (shV pre.length)).map (tv k)) := ⟨hbl, fun U hU hw => ⟨rfl, hpre U hU hw⟩⟩
  have hcode : Cond.code M.1 M.2.1 M.2.2.1 none ∈ gt := by rw [← hret]; exact m1
  have hws : zws M = Cond.code M.1 M.2.1 M.2.2.1 none :: gt := by unfold zws; rw [hret]
  have hlenA : ((av.map (shV pre.length)).map (tv k)).length = av.length := by simp
  have hrun : va_Run p l e R s m args below meth c H locs (cf (pre ++ sub.map (shS pre.length)).length) (sf (szs (pre ++ sub.map (shS pre.length)))) mc ms (F0 m pc la (((av.map (shV pre.length)).reverse ++ zP (pre.length + b) :: st).map (tv k))) (st.map (tv k)) (zPost (kS k pre.length) (fun v sh' σ' => v = none ∧ Q sh' σ') sub.length (szs sub) mc ms (Value.ref (k.1 + (pre.length + b)) :: (av.map (shV pre.length)).map (tv k)).toArray) (zA (kS k pre.length)) := by
    rcases cl with g1 | ⟨host, g1⟩
    · exact va_runI (As := (av.map (shV pre.length)).map (tv k)) (b := k.1 + (pre.length + b)) hF.1 hD2 ⟨callB_of (R := R) (rm := zroom d' mc ms) (mc := mc) (ms := ms) (ws' := gt) av.length hts (gt_goodIn m1) hws rfl rfl (hts _ m7) (hts _ g1) ⟨m3, m4, m5⟩ hR, hnm, hts _ hin⟩ hp rfl hlenA hL.1.1 (by rw [List.map_append, List.map_cons, List.map_reverse]; rfl) (lv_room (by rw [zcat_sum]; exact hc)) hd ⟨b1, b2⟩
    · exact va_runIN (As := (av.map (shV pre.length)).map (tv k)) (b := k.1 + (pre.length + b)) (host := host) hF.1 hD2 ⟨va_cnB (R := R) (rm := zroom d' mc ms) (mc := mc) (ms := ms) (ws' := gt) av.length hts (gt_goodIn m1) hws rfl rfl (hF.2.1.2.1 _ g1) (hts _ m7) ⟨m3, m4, m5⟩ hR, hnm, hts _ hin⟩ hp rfl hlenA hL.1.1 (by rw [List.map_append, List.map_cons, List.map_reverse]; rfl) (lv_room (by rw [zcat_sum]; exact hc)) hd ⟨b1, b2⟩
  obtain ⟨v, st₀, t, T', L, g0, X', hLo, e1, e2, ⟨⟨w9, sub', τ, hv, ⟨hq0, hq⟩, hP, hG, hRv, hn1, hz1⟩, hFr⟩, stp⟩ := hrun T0 hT0 X0
  subst hq0
  cases hv
  have hkeep : ∀ a, a < H.size → ¬ zA (kS k pre.length) a → T'.heap[a]? = H[a]? := fun a h1 h2 => by rw [e1, hFr.2 a (by rw [g0]; exact h1) h2, g0]
  have hlen' : (pre ++ sub'.map (shS pre.length)).length = (pre ++ sub.map (shS pre.length)).length + mc := by simp [hn1]; omega
  have hszs' : szs (pre ++ sub'.map (shS pre.length)) = szs (pre ++ sub.map (shS pre.length)) + ms := by rw [hszs, szs_app, szs_sh, hz1]; omega
  have hS1 : va_S (zA k) s.heap T'.heap (locs ++ L) := by
    refine ⟨?_, fun a h1 h2 => ?_, fun a ha => ?_⟩
    · rw [e1]; exact Nat.le_trans hW.2.1.1 (by rw [← g0]; exact hFr.1)
    · rw [hkeep a (Nat.lt_of_lt_of_le h1 hW.2.1.1) (fun z => h2 (kS_A hk _ z))]; exact hW.2.1.2.1 a h1 h2
    · rcases List.mem_append.mp ha with h | h
      · exact hW.2.1.2.2 a h
      · exact kS_A hk _ (hLo a h)
  have h9 := h sub' τ hq hn1 hz1 p l e R s m args below meth c k cf sf Z hk hnn hE hF hX T'.heap (locs ++ L) la ⟨kS_join hW.1 hkeep (by rw [e1]; exact hP), hS1, kS_G hW.2.2.1 hG, by rw [hlen', hszs', hcc, a2 _ _ z0']; exact ⟨b1, b2⟩, Or.inr hk⟩ hL r2.2
  rw [hlen', hszs', hcc, a2 _ _ z0'] at h9
  obtain ⟨t2, c1, c2⟩ := h9 T' rfl X'
  exact ⟨t2, stp t2 c1, c2⟩
end ZSC
