/-! rules for users: over the world SH -/
def b2 (p : Prop) [Decidable p] : Int := if p then 1 else 0
theorem b2_t {p : Prop} [Decidable p] (h : p) : b2 p = 1 := if_pos h
theorem b2_f {p : Prop} [Decidable p] (h : ¬ p) : b2 p = 0 := if_neg h
theorem b2_01 (p : Prop) [Decidable p] : 0 ≤ b2 p ∧ b2 p ≤ 1 := by unfold b2; split <;> decide
def zEq (v : Option zV) (τ : zG) : Option zV → zG → Prop := fun v' σ' => v' = v ∧ σ' = τ
def zDo (sh : List zSh) (d : Nat) (M : zMI) (av : List zV) (σ : zG) (Q : Option zV → zG → Prop) : Prop := zDoes d M 0 0 av sh σ (fun v sh' σ' => sh' = sh ∧ Q v σ')
abbrev zR (sh : List zSh) (d : Nat) (M : zMI) (pc : Nat) (ls : List (Nat × zV)) (st : List zV) (σ : zG) (Q : Option zV → zG → Prop) : Prop := zRx none d M sh pc ls st σ (zEx M (fun v sh' σ' => sh' = sh ∧ Q v σ'))
theorem zDo.intro {sh : List zSh} {d n : Nat} {M : zMI} {av : List zV} {σ : zG} {Q : Option zV → zG → Prop} (hM : zMok M n) (hl : (av.map fun v => if zlong v then 2 else 1).sum ≤ M.2.2.1) (h : zR sh d M 0 (zargs 0 av) [] σ Q) : zDo sh d M av σ Q := zDoes.intro hM hl (fun _ _ _ h => h.1) h
theorem zDo.mono {sh : List zSh} {d : Nat} {M : zMI} {av : List zV} {σ : zG} {Q Q2 : Option zV → zG → Prop} (h : zDo sh d M av σ Q) (h2 : ∀ v σ', Q v σ' → Q2 v σ') : zDo sh d M av σ Q2 := by
  intro l k p e ha hc hk s m args below hf hap hpre hK
  obtain ⟨n, o, h3, h4, h5, h6⟩ := h l k p e ha hc hk s m args below hf hap hpre hK
  refine ⟨n, o, h3, h4, h5, ?_⟩
  obtain ⟨⟨⟨v, sh', σ', a1, ⟨a2, a3⟩, a4⟩, a5⟩, a6⟩ := h6
  exact ⟨⟨⟨v, sh', σ', a1, ⟨a2, h2 _ _ a3⟩, a4⟩, a5⟩, a6⟩
/-- the numbers that a method begins with are in their ranges -/
theorem zDo.rg {sh : List zSh} {d : Nat} {M : zMI} {av : List zV} {σ : zG} {Q : Option zV → zG → Prop} (h : rG sh σ → rL av → zDo sh d M av σ Q) : zDo sh d M av σ Q := by
  intro l k p e ha hc hk s m args below hf hap hpre hK
  exact h hpre.2.1.2.2.2.1 hpre.2.1.2.2.2.2.1 l k p e ha hc hk s m args below hf hap hpre hK
theorem rG_a {sh : List zSh} {σ : zG} {k t n : Nat} (h : rG sh σ) (hs : sh[k]? = some (.inl (t, n))) (i : Int) : rK t (σ k i) := h k _ hs i
theorem rG_i {sh : List zSh} {σ : zG} {k n : Nat} (h : rG sh σ) (hs : sh[k]? = some (.inl (0, n))) (i : Int) : r32 (σ k i) := h k _ hs i
theorem rG_f {sh : List zSh} {σ : zG} {k ci j : Nat} {n : Nat} {fks : List zFK} (h : rG sh σ) (hs : sh[k]? = some (.inr (.inl (ci, fks)))) (hj : fks[j]? = some (.inl n)) : rK n (σ k j) := h k _ hs j n hj
section ZU
variable {sh : List zSh} {al : zAl} {d : Nat} {Y M : zMI} {pc : Nat} {ls : List (Nat × zV)} {st st0 av : List zV} {σ τ : zG} {X : zX} {Q : Option zV → zG → Prop} {w : zV}
theorem zR.ret (h : M.2.2.2 = none) (hd : decode M.2.1 pc = .ok (.return_, 1)) (hq : Q none σ) : zR sh d M pc ls [] σ Q := zRx.stop (Or.inl ⟨h, hd, rfl, rfl, hq⟩)
theorem zR.iret {z : Int} (h : M.2.2.2 = some .int) (hd : decode M.2.1 pc = .ok (.ireturn, 1)) (hq : Q (some (.inl z)) σ) : zR sh d M pc ls [.inl z] σ Q := zRx.stop (Or.inr (Or.inl ⟨z, h, hd, rfl, rfl, hq⟩))
theorem zR.zret {z : Int} (h : M.2.2.2 = some .boolean) (hz : 0 ≤ z ∧ z ≤ 1) (hd : decode M.2.1 pc = .ok (.ireturn, 1)) (hq : Q (some (.inl z)) σ) : zR sh d M pc ls [.inl z] σ Q := zRx.stop (Or.inr (Or.inr (Or.inl ⟨z, h, hz.1, hz.2, hd, rfl, rfl, hq⟩)))
theorem zR.lret {z : Int} (h : M.2.2.2 = some .long) (hd : decode M.2.1 pc = .ok (.lreturn, 1)) (hq : Q (some (zJ z)) σ) : zR sh d M pc ls [zJ z] σ Q := zRx.stop (Or.inr (Or.inr (Or.inr ⟨z, h, hd, rfl, rfl, hq⟩)))
theorem zRx.cV {b idx ci d' : Nat} {fks : List zFK} (cl : zcV Y.1.cls idx M.1 ci) (hM : zMok M av.length) (hd' : d' + 1 ≤ d) (hs : sh[b]? = some (.inr (.inl (ci, fks)))) (hst : st0 = av.reverse ++ zP b :: st) (hc : (st.map fun v => if zlong v then 2 else 1).sum ≤ 8) (hd : decode Y.2.1 pc = .ok (.invokevirtual idx, 3)) (hD : zDo sh d' M (zP b :: av) σ Q) (h : ∀ v σ', Q v σ' → zRx al d Y sh (pc + 3) ls (v.toList ++ st) σ' X) : zRx al d Y sh pc ls st0 σ X :=
  zRx.callV cl hM hd' hs hst hc hd hD (fun v sh' σ' q => by obtain ⟨rfl, q⟩ := q; exact h v σ' q)
theorem zRx.cVi {b idx ci d' : Nat} {fks : List zFK} (cl : zcV Y.1.cls idx M.1 ci) (hM : zMok M av.length) (hd' : d' + 1 ≤ d) (hs : sh[b]? = some (.inr (.inl (ci, fks)))) (hst : st0 = av.reverse ++ zP b :: st) (hc : (st.map fun v => if zlong v then 2 else 1).sum ≤ 8) (hd : decode Y.2.1 pc = .ok (.invokevirtual idx, 3)) (hD : zDo sh d' M (zP b :: av) σ (zEq (some w) τ)) (h : zRx al d Y sh (pc + 3) ls (w :: st) τ X) : zRx al d Y sh pc ls st0 σ X :=
  zRx.cV cl hM hd' hs hst hc hd hD (fun v σ' q => by obtain ⟨rfl, rfl⟩ := q; exact h)
theorem zRx.cVv {b idx ci d' : Nat} {fks : List zFK} (cl : zcV Y.1.cls idx M.1 ci) (hM : zMok M av.length) (hd' : d' + 1 ≤ d) (hs : sh[b]? = some (.inr (.inl (ci, fks)))) (hst : st0 = av.reverse ++ zP b :: st) (hc : (st.map fun v => if zlong v then 2 else 1).sum ≤ 8) (hd : decode Y.2.1 pc = .ok (.invokevirtual idx, 3)) (hD : zDo sh d' M (zP b :: av) σ (zEq none τ)) (h : zRx al d Y sh (pc + 3) ls st τ X) : zRx al d Y sh pc ls st0 σ X :=
  zRx.cV cl hM hd' hs hst hc hd hD (fun v σ' q => by obtain ⟨rfl, rfl⟩ := q; exact h)
theorem zRx.cS {idx d' : Nat} (cl : zcS Y.1.cls idx M.1) (hM : zMok M av.length) (hd' : d' + 1 ≤ d) (hst : st0 = av.reverse ++ st) (hc : (st.map fun v => if zlong v then 2 else 1).sum ≤ 8) (hd : decode Y.2.1 pc = .ok (.invokestatic idx, 3)) (hD : zDo sh d' M av σ Q) (h : ∀ v σ', Q v σ' → zRx al d Y sh (pc + 3) ls (v.toList ++ st) σ' X) : zRx al d Y sh pc ls st0 σ X :=
  zRx.callS cl hM hd' hst hc hd hD (fun v sh' σ' q => by obtain ⟨rfl, q⟩ := q; exact h v σ' q)
theorem zRx.cSi {idx d' : Nat} (cl : zcS Y.1.cls idx M.1) (hM : zMok M av.length) (hd' : d' + 1 ≤ d) (hst : st0 = av.reverse ++ st) (hc : (st.map fun v => if zlong v then 2 else 1).sum ≤ 8) (hd : decode Y.2.1 pc = .ok (.invokestatic idx, 3)) (hD : zDo sh d' M av σ (zEq (some w) τ)) (h : zRx al d Y sh (pc + 3) ls (w :: st) τ X) : zRx al d Y sh pc ls st0 σ X :=
  zRx.cS cl hM hd' hst hc hd hD (fun v σ' q => by obtain ⟨rfl, rfl⟩ := q; exact h)
theorem zRx.cSv {idx d' : Nat} (cl : zcS Y.1.cls idx M.1) (hM : zMok M av.length) (hd' : d' + 1 ≤ d) (hst : st0 = av.reverse ++ st) (hc : (st.map fun v => if zlong v then 2 else 1).sum ≤ 8) (hd : decode Y.2.1 pc = .ok (.invokestatic idx, 3)) (hD : zDo sh d' M av σ (zEq none τ)) (h : zRx al d Y sh (pc + 3) ls st τ X) : zRx al d Y sh pc ls st0 σ X :=
  zRx.cS cl hM hd' hst hc hd hD (fun v σ' q => by obtain ⟨rfl, rfl⟩ := q; exact h)
theorem zRx.pick (is : List Nat) {ls' : List (Nat × zV)} (hs : is.filterMap (fun i => ls[i]?) = ls') (h : zRx al d Y sh pc ls' st σ X) : zRx al d Y sh pc ls st σ X :=
  zRx.less (fun q hq => by subst hs; obtain ⟨i, -, hi⟩ := List.mem_filterMap.mp hq; exact List.mem_of_getElem? hi) h
theorem zRx.topI {a b : Int} (h : a = b) (hk : zRx al d Y sh pc ls (.inl b :: st) σ X) : zRx al d Y sh pc ls (.inl a :: st) σ X := h ▸ hk
theorem zRx.topJ {a b : Int} (h : a = b) (hk : zRx al d Y sh pc ls (zJ b :: st) σ X) : zRx al d Y sh pc ls (zJ a :: st) σ X := h ▸ hk
theorem zRx.sg {σ' : zG} (h : σ = σ') (hk : zRx al d Y sh pc ls st σ' X) : zRx al d Y sh pc ls st σ X := h ▸ hk
theorem zRx.ialdv {a n : Nat} {i v : Int} (hv : σ a i = v) (hs : sh[a]? = some (.inl (0, n))) (h0 : 0 ≤ i) (h1 : i < n) (hd : decode Y.2.1 pc = .ok (.iaload, 1)) (h : zRx al d Y sh (pc + 1) ls (.inl v :: st) σ X) : zRx al d Y sh pc ls (.inl i :: zP a :: st) σ X := by subst hv; exact zRx.iald hs h0 h1 hd h
theorem zRx.baldv {a n : Nat} {i v : Int} (hv : σ a i = v) (hs : sh[a]? = some (.inl (2, n))) (h0 : 0 ≤ i) (h1 : i < n) (hd : decode Y.2.1 pc = .ok (.baload, 1)) (h : zRx al d Y sh (pc + 1) ls (.inl v :: st) σ X) : zRx al d Y sh pc ls (.inl i :: zP a :: st) σ X := by subst hv; exact zRx.bald hs h0 h1 hd h
theorem zRx.zaldv {a n : Nat} {i v : Int} (hv : σ a i = v) (hs : sh[a]? = some (.inl (3, n))) (h0 : 0 ≤ i) (h1 : i < n) (hd : decode Y.2.1 pc = .ok (.baload, 1)) (h : zRx al d Y sh (pc + 1) ls (.inl v :: st) σ X) : zRx al d Y sh pc ls (.inl i :: zP a :: st) σ X := by subst hv; exact zRx.zald hs h0 h1 hd h
theorem zRx.laldv {a n : Nat} {i v : Int} (hv : σ a i = v) (hs : sh[a]? = some (.inl (1, n))) (h0 : 0 ≤ i) (h1 : i < n) (hd : decode Y.2.1 pc = .ok (.laload, 1)) (h : zRx al d Y sh (pc + 1) ls (zJ v :: st) σ X) : zRx al d Y sh pc ls (.inl i :: zP a :: st) σ X := by subst hv; exact zRx.lald hs h0 h1 hd h
theorem zRx.getIv {a idx ci j : Nat} {ji v : Int} {fks : List zFK} (hv : σ a ji = v) (fl : zFL Y.1.cls idx ci j) (hji : (j : Int) = ji) (hs : sh[a]? = some (.inr (.inl (ci, fks)))) (hj : fks[j]? = some (.inl 0)) (hd : decode Y.2.1 pc = .ok (.getfield idx, 3)) (h : zRx al d Y sh (pc + 3) ls (.inl v :: st) σ X) : zRx al d Y sh pc ls (zP a :: st) σ X := by subst hv; exact zRx.getI fl hji hs hj hd h
theorem zRx.getZv {a idx ci j : Nat} {ji v : Int} {fks : List zFK} (hv : σ a ji = v) (fl : zFL Y.1.cls idx ci j) (hji : (j : Int) = ji) (hs : sh[a]? = some (.inr (.inl (ci, fks)))) (hj : fks[j]? = some (.inl 3)) (hd : decode Y.2.1 pc = .ok (.getfield idx, 3)) (h : zRx al d Y sh (pc + 3) ls (.inl v :: st) σ X) : zRx al d Y sh pc ls (zP a :: st) σ X := by subst hv; exact zRx.getZ fl hji hs hj hd h
theorem zRx.getJv {a idx ci j : Nat} {ji v : Int} {fks : List zFK} (hv : σ a ji = v) (fl : zFL Y.1.cls idx ci j) (hji : (j : Int) = ji) (hs : sh[a]? = some (.inr (.inl (ci, fks)))) (hj : fks[j]? = some (.inl 1)) (hd : decode Y.2.1 pc = .ok (.getfield idx, 3)) (h : zRx al d Y sh (pc + 3) ls (zJ v :: st) σ X) : zRx al d Y sh pc ls (zP a :: st) σ X := by subst hv; exact zRx.getJ fl hji hs hj hd h
theorem zRx.if_eqB {p : Prop} [Decidable p] {off : Int} {tgt : Nat} (hd : decode Y.2.1 pc = .ok (.ifCond .eq off, 3)) (ht : (pc : Int) + off = (tgt : Int)) (kt : ¬ p → zRx al d Y sh tgt ls st σ X) (kf : p → zRx al d Y sh (pc + 3) ls st σ X) : zRx al d Y sh pc ls (.inl (b2 p) :: st) σ X :=
  zRx.if_eq hd ht (fun h => kt (fun hp => by rw [b2_t hp] at h; cases h)) (fun h => kf (Decidable.byContradiction fun hp => h (b2_f hp)))
theorem zRx.if_neB {p : Prop} [Decidable p] {off : Int} {tgt : Nat} (hd : decode Y.2.1 pc = .ok (.ifCond .ne off, 3)) (ht : (pc : Int) + off = (tgt : Int)) (kt : p → zRx al d Y sh tgt ls st σ X) (kf : ¬ p → zRx al d Y sh (pc + 3) ls st σ X) : zRx al d Y sh pc ls (.inl (b2 p) :: st) σ X :=
  zRx.if_ne hd ht (fun h => kt (Decidable.byContradiction fun hp => h (b2_f hp))) (fun h => kf (fun hp => by rw [b2_t hp] at h; cases h))
theorem iv_min (a b : Int) (ha : r32 a) (hb : r32 b) : (if iv b < iv a then iv b else iv a) = iv (min a b) := by
  have h1 := iv_lt hb ha
  by_cases h : b < a
  · rw [if_pos (h1.mpr h), Int.min_eq_right (by omega)]
  · rw [if_neg (fun q => h (h1.mp q)), Int.min_eq_left (by omega)]
theorem iv_max (a b : Int) (ha : r32 a) (hb : r32 b) : (if iv a < iv b then iv b else iv a) = iv (max a b) := by
  have h1 := iv_lt ha hb
  by_cases h : a < b
  · rw [if_pos (h1.mpr h), Int.max_eq_right (by omega)]
  · rw [if_neg (fun q => h (h1.mp q)), Int.max_eq_left (by omega)]
theorem jv_min (a b : Int) (ha : r64 a) (hb : r64 b) : (if jv b < jv a then jv b else jv a) = jv (min a b) := by
  have h1 := jv_lt hb ha
  by_cases h : b < a
  · rw [if_pos (h1.mpr h), Int.min_eq_right (by omega)]
  · rw [if_neg (fun q => h (h1.mp q)), Int.min_eq_left (by omega)]
theorem zRx.mmin {a b : Int} {idx : Nat} (hw : Cond.methodLink Y.1.cls idx Lib.Math.min.name ∈ gt) (h1 : 1 ≤ d) (hc : (st.map fun v => if zlong v then 2 else 1).sum ≤ 8) (hd : decode Y.2.1 pc = .ok (.invokestatic idx, 3)) (h : zRx al d Y sh (pc + 3) ls (.inl (min a b) :: st) σ X) : zRx al d Y sh pc ls (.inl b :: .inl a :: st) σ X := by
  intro p l e R s m args below meth c k cf sf Z hF hX H locs la hW hL hS
  have hh := h p l e R s m args below meth c k cf sf Z hF hX H locs la hW hL ⟨by have := hS.1.1; have := hS.1.2; have := hS.2.1.1; have := hS.2.1.2; exact ⟨by omega, by omega⟩, hS.2.2⟩
  rw [List.map_cons, show tv k (.inl (min a b)) = .int _ from congrArg Value.int (iv_min a b hS.2.1 hS.1).symm] at hh
  have hts := hF.1.2.2.2.2
  exact va_mmin hF.1.1 hF.1.2.1 (by rw [hF.1.2.2.1]; exact hL.1.1.symm) hF.1.2.2.2.1 (hts _ hw) (hts _ mm_min.1) (hts _ mm_min.2.1) (hts _ mm_min.2.2) (Nat.le_trans h1 hF.2.2.1) (by rw [zcat_sum]; have := hF.2.2.2.1; omega) hW.2.2.2.1.1 hW.2.2.2.1.2 hd hh
theorem zRx.mmax {a b : Int} {idx : Nat} (hw : Cond.methodLink Y.1.cls idx Lib.Math.max.name ∈ gt) (h1 : 1 ≤ d) (hc : (st.map fun v => if zlong v then 2 else 1).sum ≤ 8) (hd : decode Y.2.1 pc = .ok (.invokestatic idx, 3)) (h : zRx al d Y sh (pc + 3) ls (.inl (max a b) :: st) σ X) : zRx al d Y sh pc ls (.inl b :: .inl a :: st) σ X := by
  intro p l e R s m args below meth c k cf sf Z hF hX H locs la hW hL hS
  have hh := h p l e R s m args below meth c k cf sf Z hF hX H locs la hW hL ⟨by have := hS.1.1; have := hS.1.2; have := hS.2.1.1; have := hS.2.1.2; exact ⟨by omega, by omega⟩, hS.2.2⟩
  rw [List.map_cons, show tv k (.inl (max a b)) = .int _ from congrArg Value.int (iv_max a b hS.2.1 hS.1).symm] at hh
  have hts := hF.1.2.2.2.2
  exact va_mmax hF.1.1 hF.1.2.1 (by rw [hF.1.2.2.1]; exact hL.1.1.symm) hF.1.2.2.2.1 (hts _ hw) (hts _ mm_max.1) (hts _ mm_max.2.1) (hts _ mm_max.2.2) (Nat.le_trans h1 hF.2.2.1) (by rw [zcat_sum]; have := hF.2.2.2.1; omega) hW.2.2.2.1.1 hW.2.2.2.1.2 hd hh
theorem zRx.mminl {a b : Int} {idx : Nat} (hw : Cond.methodLink Y.1.cls idx Lib.MathLoose.min_long.x ∈ gt) (h1 : 1 ≤ d) (hc : (st.map fun v => if zlong v then 2 else 1).sum ≤ 8) (hd : decode Y.2.1 pc = .ok (.invokestatic idx, 3)) (h : zRx al d Y sh (pc + 3) ls (zJ (min a b) :: st) σ X) : zRx al d Y sh pc ls (zJ b :: zJ a :: st) σ X := by
  intro p l e R s m args below meth c k cf sf Z hF hX H locs la hW hL hS
  have hh := h p l e R s m args below meth c k cf sf Z hF hX H locs la hW hL ⟨by have := hS.1.1; have := hS.1.2; have := hS.2.1.1; have := hS.2.1.2; exact ⟨by omega, by omega⟩, hS.2.2⟩
  rw [List.map_cons, show tv k (zJ (min a b)) = .long _ from congrArg Value.long (jv_min a b hS.2.1 hS.1).symm] at hh
  have hts := hF.1.2.2.2.2
  exact va_mmin_long hF.1.1 hF.1.2.1 (by rw [hF.1.2.2.1]; exact hL.1.1.symm) hF.1.2.2.2.1 (hts _ hw) (hts _ mm_minl.1) (hts _ mm_minl.2.1) (hts _ mm_minl.2.2) (Nat.le_trans h1 hF.2.2.1) (by rw [zcat_sum]; have := hF.2.2.2.1; omega) hW.2.2.2.1.1 hW.2.2.2.1.2 hd hh
/-- a stretch of a row copied over another's -/
def zcp (σ : zG) (a0 a : Nat) (sp dp n : Int) : zG := fun a' i' => if a' = a then (if dp ≤ i' ∧ i' < dp + n then σ a0 (sp + (i' - dp)) else σ a' i') else σ a' i'
theorem zcp_row (σ : zG) {a0 a b : Nat} (sp dp n : Int) (h : b ≠ a) : zcp σ a0 a sp dp n b = σ b := by funext j; simp [zcp, h]
theorem zcp_ne (σ : zG) {a0 a b : Nat} (sp dp n j : Int) (h : b ≠ a) : zcp σ a0 a sp dp n b j = σ b j := by simp [zcp, h]
theorem zcp_if (σ : zG) (a0 a : Nat) (sp dp n j : Int) : zcp σ a0 a sp dp n a j = if dp ≤ j ∧ j < dp + n then σ a0 (sp + (j - dp)) else σ a j := by simp [zcp]
theorem zRx.acopy {a0 a n0 n1 idx : Nat} {sp dp n : Int} (hs0 : sh[a0]? = some (.inl (0, n0))) (hs1 : sh[a]? = some (.inl (0, n1))) (hw : Cond.methodLink Y.1.cls idx arraycopyName ∈ gt) (h1 : 1 ≤ d) (hc : (st.map fun v => if zlong v then 2 else 1).sum ≤ 8) (b1 : 0 ≤ sp) (b2 : 0 ≤ dp) (b3 : 0 ≤ n) (b4 : sp + n ≤ n0) (b5 : dp + n ≤ n1) (hd : decode Y.2.1 pc = .ok (.invokestatic idx, 3)) (h : zRx al d Y sh (pc + 3) ls st (zcp σ a0 a sp dp n) X) : zRx al d Y sh pc ls (.inl n :: .inl dp :: zP a :: .inl sp :: zP a0 :: st) σ X := by
  intro p l e R s m args below meth c k cf sf Z hF hX H locs la hW hL hS
  have hts := hF.1.2.2.2.2
  have rn : r32 n := hS.1
  have rd : r32 dp := hS.2.1
  have rs : r32 sp := hS.2.2.2.1
  have e1 : (iv sp).toNatClampNeg = sp.toNat := iv_clamp b1 rs.2
  have e2 : (iv dp).toNatClampNeg = dp.toNat := iv_clamp b2 rd.2
  have e3 : (iv n).toNatClampNeg = n.toNat := iv_clamp b3 rn.2
  have neg : ∀ z : Int, r32 z → 0 ≤ z → ¬ iv z < 0 := fun z hz h0 q => by
    have := (iv_lt hz r32_0).mp q
    omega
  refine va_copyi (q0 := a0) (q1 := a) (t0 := 0) (t1 := 0) hF.1.1 hF.1.2.1 (by rw [hF.1.2.2.1]; exact hL.1.1.symm) hF.1.2.2.2.1 (hts _ hw) (hts _ ac_ok.1) (hts _ ac_ok.2.1) (hts _ ac_ok.2.2) hF.2.1.1 hW.1 (wl_D hW.2.2.2.2) hW.2.1 (wl_at hs0) (wl_at hs1) rfl rfl rfl (neg _ rs b1) (neg _ rd b2) (neg _ rn b3) (by rw [e1, e3]; omega) (by rw [e2, e3]; omega) (fun i _ => rfl) (Nat.le_trans h1 hF.2.2.1) ?_ hd (fun H1 locs1 hP1 hD1 hS1 => ?_)
  · rw [zcat_sum]
    have h2 : nativeFrameWords "java/lang/System" "arraycopy" 5 + 11 ≤ 40 := by decide +kernel
    have := hF.2.2.2.1
    omega
  · rw [e1, e2, e3] at hP1
    have ho : ∀ b, b ≠ a → zcp σ a0 a sp dp n b = σ b := fun b hb => zcp_row σ sp dp n hb
    have hce : zcell k (zcp σ a0 a sp dp n a) (.inl (0, n1)) = .inl (k.2.2.2 0, n1, .inl (va_cpy (fun j : Nat => iv (σ a0 j)) (fun j : Nat => iv (σ a j)) sp.toNat dp.toNat n.toNat)) := by
      rw [zcell_i]
      congr 3
      congr 1
      funext j
      unfold va_cpy
      rw [zcp_if]
      by_cases hj : dp ≤ (j : Int) ∧ (j : Int) < dp + n
      · rw [if_pos hj, if_pos (by omega)]
        congr 2
        omega
      · rw [if_neg hj, if_neg (by omega)]
    rw [← hce, wl_set hs1 ho] at hP1
    refine h p l e R s m args below meth c k cf sf Z hF hX H1 locs1 la ⟨hP1, hS1, fun b y hy => ?_, hW.2.2.2⟩ hL hS.2.2.2.2.2
    by_cases hb : b = a
    · subst hb
      cases hs1.symm.trans hy
      intro j
      show rK 0 (zcp σ a0 b sp dp n b j)
      rw [zcp_if]
      split
      · exact hW.2.2.1 a0 _ hs0 _
      · exact hW.2.2.1 b _ hs1 _
    · rw [ho b hb]
      exact hW.2.2.1 b y hy
/-- the row of a static array copied over a row's beginning -/
def zcs (σ : zG) (i a : Nat) (n : Int) : zG := fun a' i' => if a' = a then (if 0 ≤ i' ∧ i' < n then zset i i'.toNat else σ a' i') else σ a' i'
theorem zcs_row (σ : zG) {i a b : Nat} (n : Int) (h : b ≠ a) : zcs σ i a n b = σ b := by funext j; simp [zcs, h]
theorem zcs_if (σ : zG) (i a : Nat) (n j : Int) : zcs σ i a n a j = if 0 ≤ j ∧ j < n then zset i j.toNat else σ a j := by simp [zcs]
theorem zset_r {i : Nat} (hi : i < 3) (j : Nat) (hj : j < 5) : r32 (zset i j) := by
  rcases (show j = 0 ∨ j = 1 ∨ j = 2 ∨ j = 3 ∨ j = 4 by omega) with rfl | rfl | rfl | rfl | rfl <;> rcases (show i = 0 ∨ i = 1 ∨ i = 2 by omega) with rfl | rfl | rfl <;> exact ⟨by decide, by decide⟩
theorem zRx.acopyS {i a n1 idx : Nat} {n : Int} (hi : i < 3) (hs1 : sh[a]? = some (.inl (0, n1))) (hw : Cond.methodLink Y.1.cls idx arraycopyName ∈ gt) (h1 : 1 ≤ d) (hc : (st.map fun v => if zlong v then 2 else 1).sum ≤ 8) (b3 : 0 ≤ n) (b4 : n ≤ 5) (b5 : n ≤ n1) (hd : decode Y.2.1 pc = .ok (.invokestatic idx, 3)) (h : zRx al d Y sh (pc + 3) ls st (zcs σ i a n) X) : zRx al d Y sh pc ls (.inl n :: .inl 0 :: zP a :: .inl 0 :: zT i :: st) σ X := by
  intro p l e R s m args below meth c k cf sf Z hF hX H locs la hW hL hS
  have hts := hF.1.2.2.2.2
  have rn : r32 n := hS.1
  have e3 : (iv n).toNatClampNeg = n.toNat := iv_clamp b3 rn.2
  have e0 : (iv 0).toNatClampNeg = 0 := rfl
  have neg : ¬ iv n < 0 := fun q => by
    have := (iv_lt rn r32_0).mp q
    omega
  obtain ⟨⟨n9, f9, y1, y2, y3⟩, x2, x3, x4⟩ := hF.2.1.2.2 i hi
  refine va_copyx (q1 := a) (t1 := 0) hF.1.1 hF.1.2.1 (by rw [hF.1.2.2.1]; exact hL.1.1.symm) hF.1.2.2.2.1 (hts _ hw) (hts _ ac_ok.1) (hts _ ac_ok.2.1) (hts _ ac_ok.2.2) hF.2.1.1 hW.1 (wl_D hW.2.2.2.2) hW.2.1 y1 x3 x4 (wl_at hs1) rfl (by decide) (by decide) neg (by rw [e0, e3]; omega) (by rw [e0, e3]; omega) (Nat.le_trans h1 hF.2.2.1) ?_ hd (fun H1 locs1 hP1 hD1 hS1 => ?_)
  · rw [zcat_sum]
    have h2 : nativeFrameWords "java/lang/System" "arraycopy" 5 + 11 ≤ 40 := by decide +kernel
    have := hF.2.2.2.1
    omega
  · rw [e0, e3] at hP1
    have ho : ∀ b, b ≠ a → zcs σ i a n b = σ b := fun b hb => zcs_row σ n hb
    have hce : zcell k (zcs σ i a n a) (.inl (0, n1)) = .inl (k.2.2.2 0, n1, .inl (va_cpy f9 (fun j : Nat => iv (σ a j)) 0 0 n.toNat)) := by
      rw [zcell_i]
      congr 3
      congr 1
      funext j
      unfold va_cpy
      rw [zcs_if]
      by_cases hj : 0 ≤ (j : Int) ∧ (j : Int) < n
      · rw [if_pos hj, if_pos (by omega), y3 _ (by omega)]
        congr 2
        omega
      · rw [if_neg hj, if_neg (by omega)]
    rw [← hce, wl_set hs1 ho] at hP1
    refine h p l e R s m args below meth c k cf sf Z hF hX H1 locs1 la ⟨hP1, hS1, fun b y hy => ?_, hW.2.2.2⟩ hL hS.2.2.2.2.2
    by_cases hb : b = a
    · subst hb
      cases hs1.symm.trans hy
      intro j
      show rK 0 (zcs σ i b n b j)
      rw [zcs_if]
      split
      · exact zset_r hi _ (by omega)
      · exact hW.2.2.1 b _ hs1 _
    · rw [ho b hb]
      exact hW.2.2.1 b y hy
end ZU
