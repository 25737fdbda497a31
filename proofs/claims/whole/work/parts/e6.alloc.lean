/-! making cells: the judgement for constructors and for the law's beginning -/
/-- the text that the reader's constructor reads -/
def kwT : String := "who fact knows since asks moon old secret silent found day lies hides tells sells with or and not has late owes debts paid hurt coins "
def kwB : List Int32 := [119, 104, 111, 32, 102, 97, 99, 116, 32, 107, 110, 111, 119, 115, 32, 115, 105, 110, 99, 101, 32, 97, 115, 107, 115, 32, 109, 111, 111, 110, 32, 111, 108, 100, 32, 115, 101, 99, 114, 101, 116, 32, 115, 105, 108, 101, 110, 116, 32, 102, 111, 117, 110, 100, 32, 100, 97, 121, 32, 108, 105, 101, 115, 32, 104, 105, 100, 101, 115, 32, 116, 101, 108, 108, 115, 32, 115, 101, 108, 108, 115, 32, 119, 105, 116, 104, 32, 111, 114, 32, 97, 110, 100, 32, 110, 111, 116, 32, 104, 97, 115, 32, 108, 97, 116, 101, 32, 111, 119, 101, 115, 32, 100, 101, 98, 116, 115, 32, 112, 97, 105, 100, 32, 104, 117, 114, 116, 32, 99, 111, 105, 110, 115, 32]
/-- what the constructors take as given beside the tables: the class of rows of images, the text of the reader -/
def zE (k : zC) (U : State) (H : Heap) : Prop := va_AO RX3 U ∧ vk_R RX5 19 kwT (k.2.1 6) U ∧ vk_S 1 [134] [kwB] (fun _ => k.2.1 6) (fun _ => k.2.1 7) (zA k) U H ∧ va_Z "java/lang/String" "COMPACT_STRINGS" "Z" (.int 1) (zA k) U H ∧ va_Zq "jdk/internal/util/Preconditions" "SIOOBE_FORMATTER" "Ljava/util/function/BiFunction;" (zA k) U H
theorem zE.warm {k : zC} {s U : State} {H : Heap} (hW : s.WarmedH U.vm) (hh : ∀ q : Nat, q < s.heap.size → ¬ zA k q → H[q]? = s.heap[q]?) (h : zE k s s.heap) : zE k U H := ⟨va_AO.moved hW.alike h.1, vk_R.warm hW h.2.1, vk_S.moved hW.alike (h.2.2.1.kept hh), va_Z.moved hW.alike (h.2.2.2.1.kept hh), va_Zq.moved hW.alike (h.2.2.2.2.kept hh)⟩
theorem zE.same {k : zC} {s U : State} (hv : s.vm = U.vm) (hh : U.heap = s.heap) (h : zE k s s.heap) : zE k U U.heap := by
  have ha : s.vm.Alike U.vm := by rw [hv]; exact Vm.Alike.refl _
  rw [hh]
  exact ⟨va_AO.moved ha h.1, vk_R.same hv.symm h.2.1, vk_S.moved ha h.2.2.1, va_Z.moved ha h.2.2.2.1, va_Zq.moved ha h.2.2.2.2⟩
def zRi (NN : zC → State → Method → Prop) (al : zAl) (d : Nat) (Y : zMI) (sh : List zSh) (pc : Nat) (ls : List (Nat × zV)) (st : List zV) (σ : zG) (X : zX) : Prop :=
  ∀ (p : Program) (l : Launch) (e : Env) (R : Room) (s : State) (m : MethodId) (args : Array Value) (below : List Frame) (meth : Method) (c : Code) (k : zC) (cf sf : Nat → Nat) (Z : State → Prop),
    k.2.1 4 ≤ k.1 → NN k s meth → zE k s s.heap → zFx al d Y p R s m args c k cf sf →
    (∀ (sh' : List zSh) (pc' : Nat) (ls' : List (Nat × zV)) (st' : List zV) (σ' : zG) (H : Heap) (locs : List Loc) (la : Array Slot), X sh' pc' ls' st' σ' → zW k s R cf sf sh' σ' H locs → zL k Y.2.2.1 ls' la → rL st' → W p l e R s m args below meth c H locs (cf sh'.length) (sf (szs sh')) Z (F0 m pc' la (st'.map (tv k)))) →
    ∀ (H : Heap) (locs : List Loc) (la : Array Slot), zW k s R cf sf sh σ H locs → zL k Y.2.2.1 ls la → rL st → W p l e R s m args below meth c H locs (cf sh.length) (sf (szs sh)) Z (F0 m pc la (st.map (tv k)))
section ZI
variable {NN : zC → State → Method → Prop} {al : zAl} {d : Nat} {Y : zMI} {sh sh1 : List zSh} {pc pc1 : Nat} {ls ls1 : List (Nat × zV)} {st st1 : List zV} {σ σ1 : zG} {X : zX} {q : Nat × Nat × Nat × Nat}
theorem zRi.stop (h : X sh pc ls st σ) : zRi NN al d Y sh pc ls st σ X := fun _ _ _ _ _ _ _ _ _ _ _ _ _ _ _ _ _ _ hX H locs la hW hL hS => hX _ _ _ _ _ H locs la h hW hL hS
theorem zRi.lift (r : ∀ X : zX, zRx al d Y sh1 pc1 ls1 st1 σ1 X → zRx al d Y sh pc ls st σ X) (h : zRi NN al d Y sh1 pc1 ls1 st1 σ1 X) : zRi NN al d Y sh pc ls st σ X := by
  intro p l e R s m args below meth c k cf sf Z hk hn hE hF hX H locs la hW hL hS
  refine r (fun sh' pc' ls' st' σ' => sh' = sh1 ∧ pc' = pc1 ∧ ls' = ls1 ∧ st' = st1 ∧ σ' = σ1) (zRx.stop ⟨rfl, rfl, rfl, rfl, rfl⟩) p l e R s m args below meth c k cf sf Z hF ?_ H locs la hW hL hS
  rintro sh' pc' ls' st' σ' H1 locs1 la1 ⟨rfl, rfl, rfl, rfl, rfl⟩ hW1 hL1 hS1
  exact h p l e R s m args below meth c k cf sf Z hk hn hE hF hX H1 locs1 la1 hW1 hL1 hS1
theorem zRi.seg {X1 : zX} (r : zRx al d Y sh pc ls st σ X1) (h : ∀ sh' pc' ls' st' σ', X1 sh' pc' ls' st' σ' → zRi NN al d Y sh' pc' ls' st' σ' X) : zRi NN al d Y sh pc ls st σ X := by
  intro p l e R s m args below meth c k cf sf Z hk hn hE hF hX H locs la hW hL hS
  refine r p l e R s m args below meth c k cf sf Z hF ?_ H locs la hW hL hS
  intro sh' pc' ls' st' σ' H1 locs1 la1 h1 hW1 hL1 hS1
  exact h _ _ _ _ _ h1 p l e R s m args below meth c k cf sf Z hk hn hE hF hX H1 locs1 la1 hW1 hL1 hS1
/-- a new row, all 0 -/
def zr0 (σ : zG) (n : Nat) : zG := fun a i => if a = n then 0 else σ a i
theorem zr0_row (σ : zG) {n a : Nat} (h : a ≠ n) : zr0 σ n a = σ a := by funext i; simp [zr0, h]
theorem zr0_at (σ : zG) (n : Nat) (i : Int) : zr0 σ n n i = 0 := by simp [zr0]
theorem zr0_rowa (σ : zG) (n : Nat) : zr0 σ n n = fun _ => 0 := by funext i; simp [zr0]
theorem wl_len (k : zC) (sh : List zSh) (σ : zG) : (wl k sh σ).length = sh.length := by simp [wl]
theorem wl_push (k : zC) (sh : List zSh) (σ : zG) (x : zSh) : wl k (sh ++ [x]) (zr0 σ sh.length) = wl k sh σ ++ [(k.1 + sh.length, zcell k (fun _ => 0) x)] := by
  apply List.ext_getElem?
  intro b
  by_cases hb : b < sh.length
  · rw [List.getElem?_append_left (by rw [wl_len]; exact hb)]
    obtain ⟨y, hy⟩ : ∃ y, sh[b]? = some y := ⟨_, List.getElem?_eq_getElem hb⟩
    rw [wl_at hy, wl_at (s := y) (by rw [List.getElem?_append_left hb]; exact hy), zr0_row σ (by omega)]
  · by_cases e : b = sh.length
    · subst e
      rw [wl_at (s := x) (by simp), zr0_rowa, List.getElem?_append_right (by rw [wl_len]; exact Nat.le_refl _), wl_len]
      simp
    · rw [List.getElem?_eq_none (by rw [wl_len, List.length_append]; show sh.length + 1 ≤ b; omega), List.getElem?_eq_none (by rw [List.length_append, wl_len]; show sh.length + 1 ≤ b; omega)]
theorem rG_push {sh : List zSh} {σ : zG} {x : zSh} (h : rG sh σ) (hx : rS (fun _ => 0) x) : rG (sh ++ [x]) (zr0 σ sh.length) := by
  intro a y hy
  by_cases ha : a < sh.length
  · rw [List.getElem?_append_left ha] at hy
    rw [zr0_row σ (by omega)]
    exact h a y hy
  · have hl := (List.getElem?_eq_some_iff.mp hy).1
    rw [List.length_append] at hl
    have e : a = sh.length := by
      have : a < sh.length + 1 := hl
      omega
    subst e
    rw [List.getElem?_append_right (Nat.le_refl _), Nat.sub_self] at hy
    cases hy
    rw [zr0_rowa]
    exact hx
theorem szs_app : ∀ (a b : List zSh), szs (a ++ b) = szs a + szs b
  | [], b => by simp [szs]
  | .inl (t, n) :: a, b => by show n + szs (a ++ b) = n + szs a + szs b; rw [szs_app a b]; omega
  | .inr (.inl (ci, fks)) :: a, b => by show fks.length + szs (a ++ b) = fks.length + szs a + szs b; rw [szs_app a b]; omega
  | .inr (.inr ts) :: a, b => by show ts.length + szs (a ++ b) = ts.length + szs a + szs b; rw [szs_app a b]; omega
theorem zsize {p : Program} {l : Launch} {e : Env} {R : Room} {s : State} {m : MethodId} {args : Array Value} {below : List Frame} {meth : Method} {c : Code} {k : zC} {cf sf : Nat → Nat} {T : State} {H : Heap} {locs : List Loc} {sl : Nat} (hF : zFx (some q) d Y p R s m args c k cf sf) (hW : zW k s R cf sf sh σ H locs) (h0 : q.1 ≤ sh.length) (hT : T.heap = H) (XS : Stand p l e R s m args below meth c T locs (cf sh.length) sl) : H.size = k.1 + sh.length := by
  have a := XS.heapSize
  rw [hT] at a
  have b := ((hF.2.2.2.2.2 q rfl).1 sh.length h0).2
  have lo : k.1 + sh.length ≤ H.size := by
    by_cases z : sh.length = 0
    · have h1 := hW.2.1.1
      have h2 := hF.2.2.2.2.1
      omega
    · obtain ⟨y, hy⟩ : ∃ y, sh[sh.length - 1]? = some y := ⟨_, List.getElem?_eq_getElem (by omega)⟩
      have : k.1 + (sh.length - 1) < H.size := (hW.1 _ _ (wl_at hy)).lt
      omega
  omega
/-- a cell pushed behind the others -/
theorem zW_push {p : Program} {R : Room} {s : State} {m : MethodId} {args : Array Value} {c : Code} {k : zC} {cf sf : Nat → Nat} {H H1 : Heap} {locs : List Loc} {x : zSh} {N : Nat} (hk : k.2.1 4 ≤ k.1) (hF : zFx (some q) d Y p R s m args c k cf sf) (hW : zW k s R cf sf sh σ H locs) (hsz : H.size = k.1 + sh.length) (hN : szs [x] = N) (h0 : q.1 ≤ sh.length) (h1 : sh.length + 1 ≤ q.2.2.1) (z0 : q.2.1 ≤ szs sh) (z1 : szs sh + N ≤ q.2.2.2) (z9 : H1.size = H.size + 1) (o1 : ∀ a, a < H.size → H1[a]? = H[a]?) (hr : rS (fun _ => 0) x) (hx : va_at k.2.2.1 vwCl (k.1 + sh.length, zcell k (fun _ => 0) x) H1) : zW k s R cf sf (sh ++ [x]) (zr0 σ sh.length) H1 locs ∧ cf (sh ++ [x]).length = cf sh.length + 1 ∧ sf (szs (sh ++ [x])) = sf (szs sh) + N := by
  obtain ⟨a1, a2, a3, a4⟩ := hF.2.2.2.2.2 q rfl
  have hl : (sh ++ [x]).length = sh.length + 1 := by simp
  have hs2 : szs (sh ++ [x]) = szs sh + N := by rw [szs_app, hN]
  have hcf := (a1 sh.length h0).1
  refine ⟨⟨?_, ⟨?_, fun a b c => ?_, hW.2.1.2.2⟩, rG_push hW.2.2.1 hr, ⟨?_, ?_⟩, Or.inr hk⟩, ?_, ?_⟩
  · rw [wl_push]
    refine (hW.1.kept (fun i y hy => o1 y.1 (hW.1 i y hy).lt)).app (fun i y hy => ?_)
    have hz : i < 1 := (List.getElem?_eq_some_iff.mp hy).1
    rw [show i = 0 by omega] at hy
    cases hy
    exact hx
  · have := hW.2.1.1
    omega
  · have := hW.2.1.1
    rw [o1 a (by omega)]
    exact hW.2.1.2.1 a b c
  · rw [hl]; exact a3 _ h1
  · rw [hs2]; exact a4 _ z1
  · rw [hl]; exact hcf
  · rw [hs2]; exact a2 _ _ z0
theorem zRi.new {idx ci N : Nat} {C : String} {T : u_T} {ty : Nat → FieldType} {fks : List zFK} (hck : zCK ci C T N ty) (hl : Cond.classLink Y.1.cls idx C ∈ gt) (hi : Cond.instantiable C N ∈ gt) (hn : Cond.initialized C ∈ gt) (hf : ∀ (k : zC) (j : Nat), j < N → defaultValue (ty j) = vp_V (fks.mapIdx (fun j fk => fval k (fun _ => 0) j fk)) j) (hN : fks.length = N) (hr : rS (fun _ => 0) (.inr (.inl (ci, fks)))) (h0 : q.1 ≤ sh.length) (h1 : sh.length + 1 ≤ q.2.2.1) (z0 : q.2.1 ≤ szs sh) (z1 : szs sh + N ≤ q.2.2.2) (hd : decode Y.2.1 pc = .ok (.new idx, 3)) (h : zRi NN (some q) d Y (sh ++ [.inr (.inl (ci, fks))]) (pc + 3) ls (zP sh.length :: st) (zr0 σ sh.length) X) : zRi NN (some q) d Y sh pc ls st σ X := by
  intro p l e R s m args below meth c k cf sf Z hk hnm hE hF hX H locs la hW hL hS
  obtain ⟨c1, c2, c3, c4⟩ := hck
  have hts := hF.1.2.2.2.2
  obtain ⟨a1, a2, a3, a4⟩ := hF.2.2.2.2.2 q rfl
  have hKn := hF.2.1.1.1 ci _ c1
  intro T0 hT0 X0
  have hsz := zsize hF hW h0 hT0 X0
  have b1 : cf sh.length + 1 ≤ R.cells := by rw [← (a1 sh.length h0).1]; exact a3 _ h1
  have b2 : sf (szs sh) + N ≤ R.slots := by rw [← a2 (szs sh) N z0]; exact a4 _ z1
  refine W.newcK (C := C) (n := N) hF.1.1 hF.1.2.1 hF.1.2.2.2.1 (hts _ hl) (hts _ hi) (hts _ hn) (g := F0 m pc la (st.map (tv k))) rfl hd b1 b2 hKn.2.1 hsz (fun H1 kC hkC e1 z9 o1 => ?_) T0 hT0 X0
  have w := zW_push (x := .inr (.inl (ci, fks))) (N := N) (H1 := H1) hk hF hW hsz (by show fks.length + 0 = N; omega) h0 h1 z0 z1 (by omega) (fun a ha => o1 a (by omega)) hr ⟨_, c1, (u_born ty hts c2 hKn hkC e1 c3).to (hf k)⟩
  have h9 := h p l e R s m args below meth c k cf sf Z hk hnm hE hF hX H1 locs la w.1 hL ⟨trivial, hS⟩
  rw [w.2.1, w.2.2] at h9
  exact h9
theorem zRi.newarr {t n : Nat} {z : Int} {at9 : ArrayType} {ft : FieldType} (ht : newarray.typeOf at9 = ft) (hty : ∀ k : zC, (tysOf k)[t]? = some (k.2.2.2 t, ft)) (hra : ∀ (U : State) (cA : ClassId), va_RA U cA ft → U.vm.findClass ("[" ++ ft.toString) = some cA) (hw : Cond.arrayClass ft ∈ gt) (hc : ∀ (k : zC) (cA : ClassId), k.2.2.2 t = cA → ∀ y, zcell k (fun _ => 0) (.inl (t, n)) = .inl y → vp_cell y.1 y.2 = arrV cA n (fun _ => defaultValue ft)) (hz : z = (n : Int)) (hb : n * componentBytes ft ≤ 536870912) (hr : rS (fun _ => 0) (.inl (t, n))) (hn : n < 2147483648) (h0 : q.1 ≤ sh.length) (h1 : sh.length + 1 ≤ q.2.2.1) (z0 : q.2.1 ≤ szs sh) (z1 : szs sh + n ≤ q.2.2.2) (hd : decode Y.2.1 pc = .ok (.newarray at9, 2)) (h : zRi NN (some q) d Y (sh ++ [.inl (t, n)]) (pc + 2) ls (zP sh.length :: st) (zr0 σ sh.length) X) : zRi NN (some q) d Y sh pc ls (.inl z :: st) σ X := by
  intro p l e R s m args below meth c k cf sf Z hk hnm hE hF hX H locs la hW hL hS
  subst hz
  subst ht
  have hts := hF.1.2.2.2.2
  obtain ⟨a1, a2, a3, a4⟩ := hF.2.2.2.2.2 q rfl
  have hKt := hF.2.1.1.2 t _ (hty k)
  intro T0 hT0 X0
  have hsz := zsize hF hW h0 hT0 X0
  have b1 : cf sh.length + 1 ≤ R.cells := by rw [← (a1 sh.length h0).1]; exact a3 _ h1
  have b2 : sf (szs sh) + n ≤ R.slots := by rw [← a2 (szs sh) n z0]; exact a4 _ z1
  have rz : r32 ((n : Nat) : Int) := ⟨by omega, by omega⟩
  refine va_newaK (N := n) hF.1.1 hF.1.2.1 (hts _ hw) (g := F0 m pc la ((.inl ((n : Nat) : Int) :: st).map (tv k))) (n := iv ((n : Nat) : Int)) (rest := st.map (tv k)) rfl hd rfl (fun x => by have := (iv_lt rz r32_0).mp x; omega) (by rw [iv_clamp (by omega) rz.2]; omega) hb b1 b2 hsz (fun H1 cA e1 z9 o1 hAr hNm => ?_) T0 hT0 X0
  have hcA : k.2.2.2 t = cA := Option.some.inj ((hra s _ hKt.2).symm.trans hNm)
  have w := zW_push (x := .inl (t, n)) (N := n) (H1 := H1) hk hF hW hsz (by show n + 0 = n; omega) h0 h1 z0 z1 (by omega) (fun a ha => o1 a (by omega)) hr (by
    have hcc := hc k cA hcA
    generalize hy : zcell k (fun _ => 0) (.inl (t, n)) = y at *
    rcases y with y | y
    · show H1[k.1 + sh.length]? = some (vp_cell y.1 y.2)
      rw [hcc y rfl]; exact e1
    · exact absurd hy (by
        intro hy
        have : (zcell k (fun _ => 0) (.inl (t, n))).isLeft = true := by
          unfold zcell
          dsimp only
          split <;> rfl
        rw [hy] at this
        exact Bool.noConfusion this))
  have h9 := h p l e R s m args below meth c k cf sf Z hk hnm hE hF hX H1 locs la w.1 hL ⟨trivial, hS.2⟩
  rw [w.2.1, w.2.2] at h9
  exact h9
theorem wl_setS {k : zC} {sh : List zSh} {σ : zG} {a : Nat} {x y : zSh} (h : sh[a]? = some y) : (wl k sh σ).set a (k.1 + a, zcell k (σ a) x) = wl k (sh.set a x) σ := by
  have hl : a < sh.length := (List.getElem?_eq_some_iff.mp h).1
  apply List.ext_getElem?
  intro b
  by_cases hb : b = a
  · subst hb
    rw [List.getElem?_set_self (by rw [wl_len]; exact hl), wl_at (s := x) (by rw [List.getElem?_set_self hl])]
  · rw [List.getElem?_set_ne (Ne.symm hb)]
    simp only [wl, List.getElem?_mapIdx, List.getElem?_set_ne (Ne.symm hb)]
theorem rG_setS {sh : List zSh} {σ : zG} {a : Nat} {x : zSh} (h : rG sh σ) (hx : rS (σ a) x) : rG (sh.set a x) σ := by
  intro b y hy
  by_cases hb : b = a
  · subst hb
    have hl := (List.getElem?_eq_some_iff.mp hy).1
    rw [List.getElem?_set_self (by simpa using hl)] at hy
    cases hy
    exact hx
  · rw [List.getElem?_set_ne (Ne.symm hb)] at hy
    exact h b y hy
theorem szs_set : ∀ (sh : List zSh) (a : Nat) (x y : zSh), sh[a]? = some y → szs [x] = szs [y] → szs (sh.set a x) = szs sh
  | [], a, x, y, h, _ => by simp at h
  | z :: t, 0, x, y, h, e => by
    cases h
    have h1 := szs_app [x] t
    have h2 := szs_app [z] t
    show szs (x :: t) = szs (z :: t)
    rw [show x :: t = [x] ++ t from rfl, show z :: t = [z] ++ t from rfl, h1, h2, e]
  | z :: t, a + 1, x, y, h, e => by
    have ih := szs_set t a x y h e
    show szs (z :: t.set a x) = szs (z :: t)
    rw [show z :: t.set a x = [z] ++ t.set a x from rfl, show z :: t = [z] ++ t from rfl, szs_app, szs_app, ih]
theorem zRi.putR {a b idx ci j N : Nat} {C : String} {T : u_T} {ty : Nat → FieldType} {fks : List zFK} (hnm : ∀ (k : zC) (s : State) (meth : Method), NN k s meth → meth.name = "<init>") (hck : zCK ci C T N ty) (hjN : j < N) (hC : (T j).1 = C) (ho : Y.1.cls = C) (hl : Cond.fieldLink Y.1.cls idx C (T j).2.1 (T j).2.2.1 ∈ gt) (hfin : (T j).2.2.2 = true) (hty : ∀ v : Nat, narrow (ty j) (.ref v) = .ref v ∧ fits (ty j) (.ref v) = true) (hs : sh[a]? = some (.inr (.inl (ci, fks)))) (hj : fks[j]? = some (.inr none)) (hd : decode Y.2.1 pc = .ok (.putfield idx, 3)) (h : zRi NN al d Y (sh.set a (.inr (.inl (ci, fks.set j (.inr (some b)))))) (pc + 3) ls st σ X) : zRi NN al d Y sh pc ls (zP b :: zP a :: st) σ X := by
  intro p l e R s m args below meth c k cf sf Z hk hn hE hF hX H locs la hW hL hS
  obtain ⟨c1, c2, c3, c4⟩ := hck
  have hjl : j < fks.length := (List.getElem?_eq_some_iff.mp hj).1
  refine va_putF (ci := ci) (q0 := a) (v := .ref (k.1 + b)) hF.1.1 hF.1.2.1 hF.1.2.2.2.2 c2 ty c3 c4 hF.1.2.2.2.1 hF.2.1.1 hW.1 (wl_D hW.2.2.2.2) hW.2.1 (wl_at hs) c1 j hjN (hF.1.2.2.2.2 _ hl) (fun _ h9 => hC ▸ h9) hfin (hnm _ _ _ hn) (by rw [hC, ho]) (c3 j hjN) (hty _).1 (hty _).2 (by simpa using hjl) hd (fun H1 locs1 hP1 hD1 hS1 => ?_)
  have ez : zcell k (σ a) (.inr (.inl (ci, fks.set j (.inr (some b))))) = .inr (ci, (fks.mapIdx (fun j fk => fval k (σ a) j fk)).set j (.ref (k.1 + b))) := by
    rw [zcell_o]
    congr 2
    apply List.ext_getElem?
    intro i
    by_cases hi : i = j
    · subst hi
      rw [List.getElem?_set_self (by simpa using hjl), fmap_at (x := .inr (some b)) (by rw [List.getElem?_set_self hjl])]
      rfl
    · rw [List.getElem?_set_ne (Ne.symm hi), List.getElem?_mapIdx, List.getElem?_mapIdx, List.getElem?_set_ne (Ne.symm hi)]
  rw [← ez, wl_setS hs] at hP1
  have hlen : (sh.set a (.inr (.inl (ci, fks.set j (.inr (some b)))))).length = sh.length := by simp
  have hsz : szs (sh.set a (.inr (.inl (ci, fks.set j (.inr (some b)))))) = szs sh := szs_set sh a _ _ hs (by show (fks.set j (.inr (some b))).length + 0 = fks.length + 0; simp)
  have h9 := h p l e R s m args below meth c k cf sf Z hk hn hE hF hX H1 locs1 la ⟨hP1, hS1, rG_setS hW.2.2.1 (fun i n hi => ?_), by rw [hlen, hsz]; exact hW.2.2.2.1, by rw [hlen]; exact hW.2.2.2.2⟩ hL hS.2.2
  · rw [hlen, hsz] at h9
    exact h9
  · by_cases hi2 : i = j
    · subst hi2
      rw [List.getElem?_set_self hjl] at hi
      cases hi
    · rw [List.getElem?_set_ne (Ne.symm hi2)] at hi
      exact hW.2.2.1 a _ hs i n hi
theorem zRi.objInit {a idx : Nat} (hl : Cond.methodLink Y.1.cls idx Lib.objectInit ∈ gt) (hi : Cond.instanceMethod Lib.objectInit ∈ gt) (hc : Cond.code Lib.objectInit ⟨#[0xb1]⟩ 1 none ∈ gt) (h1 : 1 ≤ d) (hst : (st.map fun v => if zlong v then 2 else 1).sum ≤ 8) (hd : decode Y.2.1 pc = .ok (.invokespecial idx, 3)) (h : zRi NN al d Y sh (pc + 3) ls st σ X) : zRi NN al d Y sh pc ls (zP a :: st) σ X := by
  intro p l e R s m args below meth c k cf sf Z hk hn hE hF hX H locs la hW hL hS
  have hts := hF.1.2.2.2.2
  have h64 := hF.2.2.2.1
  refine W.objInit hF.1.1 hF.1.2.1 hF.1.2.2.2.1 (hts _ hl) (hts _ hi) (hts _ hc) (g := F0 m pc la ((zP a :: st).map (tv k))) (a := k.1 + a) (rest := st.map (tv k)) rfl (by show la.size = _; rw [hF.1.2.2.1]; exact hL.1.1) rfl hd (Nat.le_trans h1 hF.2.2.1) ?_ (h p l e R s m args below meth c k cf sf Z hk hn hE hF hX H locs la hW hL hS.2)
  rw [zcat_sum]
  show 2 * 0 + _ + 12 ≤ _
  omega
/-- in a constructor -/
def iN : zC → State → Method → Prop := fun _ _ meth => meth.name = "<init>"
/-- a contract of a method that makes mc cells of ms slots -/
def zDoA (d : Nat) (M : zMI) (mc ms : Nat) (av : List zV) (sh : List zSh) (σ : zG) (Q : List zSh → zG → Prop) : Prop :=
  ∀ (l : Launch) (k : zC), k.2.1 4 ≤ k.1 → Met l M.1 (zws M) (zroom d mc ms) (va_Pc (av.map (tv k)) (fun U => zPre k sh σ av U ∧ U.heap.size = k.1 + sh.length ∧ zE k U U.heap)) (zPost k (fun v sh' σ' => v = none ∧ Q sh' σ') sh.length (szs sh) mc ms) mc ms (zA k)
theorem zblindA {k : zC} {av : List zV} : FrameBlind (va_Pc (av.map (tv k)) (fun U => zPre k sh σ av U ∧ U.heap.size = k.1 + sh.length ∧ zE k U U.heap)) := by
  intro a U g mk q
  obtain ⟨q0, ⟨q1, q2, q3, q4, q5, q7⟩, q6, q8⟩ := q
  exact ⟨q0, ⟨q1, q2, zK.same (s := U) rfl rfl q3, q4, q5, q7⟩, q6, zE.same (s := U) rfl rfl q8⟩
theorem cf_add {cf : Nat → Nat} {n0 : Nat} {P : Nat → Prop} (h : ∀ n, n0 ≤ n → cf (n + 1) = cf n + 1 ∧ P n) : ∀ (mc n : Nat), n0 ≤ n → cf (n + mc) = cf n + mc
  | 0, n, _ => rfl
  | mc + 1, n, hn => by
    have := (h (n + mc) (by omega)).1
    rw [show n + (mc + 1) = n + mc + 1 by omega, this, cf_add h mc n hn]
    omega
theorem zRi.callI {b idx d' mc ms : Nat} {M : zMI} {av st0 : List zV} {Q : List zSh → zG → Prop} (cl : Cond.methodLink Y.1.cls idx M.1 ∈ gt ∨ ∃ host, Cond.methodLinkNest Y.1.cls idx M.1 host ∈ nw) (hin : Cond.instanceMethod M.1 ∈ gt) (hnm : M.1.name = "<init>") (hret : M.2.2.2 = none) (hM : zMok M av.length) (hd' : d' + 1 ≤ d) (hst : st0 = av.reverse ++ zP b :: st) (hc : (st.map fun v => if zlong v then 2 else 1).sum ≤ 8) (hd : decode Y.2.1 pc = .ok (.invokespecial idx, 3)) (h0 : q.1 ≤ sh.length) (h1 : sh.length + mc ≤ q.2.2.1) (z0 : q.2.1 ≤ szs sh) (z1 : szs sh + ms ≤ q.2.2.2) (hD : zDoA d' M mc ms (zP b :: av) sh σ Q) (h : ∀ sh' σ', Q sh' σ' → sh'.length = sh.length + mc → szs sh' = szs sh + ms → zRi NN (some q) d Y sh' (pc + 3) ls st σ' X) : zRi NN (some q) d Y sh pc ls st0 σ X := by
  intro p l e R s m args below meth c k cf sf Z hk hn hE hF hX H locs la hW hL hS
  subst hst
  obtain ⟨r1, r2⟩ := rL_app hS
  obtain ⟨m1, m2, m3, m4, m5, m6, m7⟩ := hM
  obtain ⟨a1, a2, a3, a4⟩ := hF.2.2.2.2.2 q rfl
  have hts := hF.1.2.2.2.2
  have hcc := cf_add a1 mc sh.length h0
  have b1 : cf sh.length + mc ≤ R.cells := by rw [← hcc]; exact a3 _ h1
  have b2 : sf (szs sh) + ms ≤ R.slots := by rw [← a2 (szs sh) ms z0]; exact a4 _ z1
  have hR := zRoom hF.2.2.1 hF.2.2.2.1 hd' m6
  intro T0 hT0 X0
  have hsz := zsize hF hW h0 hT0 X0
  have hp : PreS s H (va_Pc ((zP b :: av).map (tv k)) (fun U => zPre k sh σ (zP b :: av) U ∧ U.heap.size = k.1 + sh.length ∧ zE k U U.heap)) (Value.ref (k.1 + b) :: av.map (tv k)) := ⟨zblindA (sh := sh) (σ := σ) (av := zP b :: av), fun U hU hw => ⟨rfl, zpreW (av := zP b :: av) hF.2.1 hF.2.2.2.2.1 hW ⟨trivial, rL_rev r1⟩ U hU hw, by rw [hU]; exact hsz, zE.warm hw (by rw [hU]; exact hW.2.1.2.1) hE⟩⟩
  have hcode : Cond.code M.1 M.2.1 M.2.2.1 none ∈ gt := by rw [← hret]; exact m1
  have hws : zws M = Cond.code M.1 M.2.1 M.2.2.1 none :: gt := by unfold zws; rw [hret]
  have hrun : va_Run p l e R s m args below meth c H locs (cf sh.length) (sf (szs sh)) mc ms (F0 m pc la ((av.reverse ++ zP b :: st).map (tv k))) (st.map (tv k)) (zPost k (fun v sh' σ' => v = none ∧ Q sh' σ') sh.length (szs sh) mc ms (Value.ref (k.1 + b) :: av.map (tv k)).toArray) (zA k) := by
    rcases cl with g1 | ⟨host, g1⟩
    · exact va_runI (As := av.map (tv k)) (b := k.1 + b) hF.1 (hD l k hk) ⟨callB_of (R := R) (rm := zroom d' mc ms) (mc := mc) (ms := ms) (ws' := gt) av.length hts (gt_goodIn m1) hws rfl rfl (hts _ m7) (hts _ g1) ⟨m3, m4, m5⟩ hR, hnm, hts _ hin⟩ hp rfl (by simp) hL.1.1 (by simp [tv]) (lv_room (by rw [zcat_sum]; exact hc)) hd ⟨b1, b2⟩
    · exact va_runIN (As := av.map (tv k)) (b := k.1 + b) (host := host) hF.1 (hD l k hk) ⟨va_cnB (R := R) (rm := zroom d' mc ms) (mc := mc) (ms := ms) (ws' := gt) av.length hts (gt_goodIn m1) hws rfl rfl (hF.2.1.2.1 _ g1) (hts _ m7) ⟨m3, m4, m5⟩ hR, hnm, hts _ hin⟩ hp rfl (by simp) hL.1.1 (by simp [tv]) (lv_room (by rw [zcat_sum]; exact hc)) hd ⟨b1, b2⟩
  refine zcall hT0 X0 (mc := mc) (ms := ms) (Q := fun v sh' σ' => v = none ∧ Q sh' σ') (n0 := sh.length) (z0 := szs sh) (rest := st.map (tv k)) hrun hW.2.1 (fun v sh' σ' H1 locs1 hq hP1 hG1 hR1 hn1 hz1 hS1 => ?_)
  obtain ⟨rfl, hq⟩ := hq
  have h9 := h sh' σ' hq hn1 hz1 p l e R s m args below meth c k cf sf Z hk hn hE hF hX H1 locs1 la ⟨hP1, hS1, hG1, by rw [hn1, hz1, hcc, a2 _ _ z0]; exact ⟨b1, b2⟩, Or.inr hk⟩ hL r2.2
  rw [hn1, hz1, hcc, a2 _ _ z0] at h9
  exact h9
theorem zDoA.intro {M : zMI} {n mc ms : Nat} {av : List zV} {Q : List zSh → zG → Prop} (hM : zMok M n) (hnm : M.1.name = "<init>") (hret : M.2.2.2 = none) (hl : (av.map fun v => if zlong v then 2 else 1).sum ≤ M.2.2.1)
    (h : zRi iN (some (sh.length, szs sh, sh.length + mc, szs sh + ms)) d M sh 0 (zargs 0 av) [] σ (fun sh' pc' _ st' σ' => decode M.2.1 pc' = .ok (.return_, 1) ∧ st' = [] ∧ Q sh' σ' ∧ sh'.length = sh.length + mc ∧ szs sh' = szs sh + ms)) : zDoA d M mc ms av sh σ Q := by
  intro l k hk
  refine Met.ofW (cc := M.2.1) (maxL := M.2.2.1) (ret := M.2.2.2) hM.2.1 rfl ?_
  intro p e s m args below meth c s₁ B hml hv
  obtain ⟨rfl, ⟨q1, q2, q3, q4, q5, q6⟩, q8, hE⟩ := hv
  have hx := B.exec
  have hb := B.bytes
  have hr := B.returns
  have hts := atoms_spec (ws := zws M) B.pre
  have hown : s.vm.findClass M.1.cls = some m.cls := findClass_of_methodNamed B.named
  have hname : meth.name = "<init>" := by rw [← hnm]; exact (name_of_methodNamed B.named B.method).1
  have hlv := lv_entry (av.map (tv k)) (n := M.2.2.1) (by rw [zargs_len]; exact hl)
  rw [lg_entry_eq]
  have hF : zFx (some (sh.length, szs sh, sh.length + mc, szs sh + ms)) d M p (headSpec (zws M) (zroom d mc ms)).room s m (av.map (tv k)).toArray c k (fun n => n - sh.length) (fun n => n - szs sh) := by
    refine ⟨⟨hx, hb, hml, hown, fun w hw => hts w (List.mem_cons_of_mem _ hw)⟩, q3, Nat.le_refl _, Nat.le_refl _, q1, fun q hq => ?_⟩
    cases hq
    refine ⟨fun n hn => ⟨?_, ?_⟩, fun n z hn => ?_, fun n hn => ?_, fun n hn => ?_⟩
    · dsimp only at hn ⊢; omega
    · dsimp only at hn ⊢; omega
    · dsimp only at hn ⊢; omega
    · show n - sh.length ≤ mc
      dsimp only at hn; omega
    · show n - szs sh ≤ ms
      dsimp only at hn; omega
  have hkey := h p l e _ s m _ below meth c k (fun n => n - sh.length) (fun n => n - szs sh) (MQ below (zPost k (fun v sh' σ' => v = none ∧ Q sh' σ') sh.length (szs sh) mc ms) (av.map (tv k)).toArray s mc ms (zA k)) hk hname hE hF ?_ s.heap [] _ ⟨q2, va_S.rf, q4, ⟨by show sh.length - sh.length ≤ mc; omega, by show szs sh - szs sh ≤ ms; omega⟩, q6⟩ ⟨by rw [← zargs_map]; exact hlv, zargs_r 0 av q5⟩ trivial
  · rw [Nat.sub_self, Nat.sub_self] at hkey
    exact hkey
  · intro sh' pc' ls' st' σ' H locs la hX hW hL hS
    obtain ⟨e2, rfl, hq, hn1, hz1⟩ := hX
    have e1 : sh'.length - sh.length = mc := by omega
    have e3 : szs sh' - szs sh = ms := by omega
    rw [e1, e3]
    exact W.vret hx hb (by rw [hr, hret]) (fun t ht hw => ⟨⟨none, sh', σ', rfl, ⟨rfl, hq⟩, by rw [ht]; exact hW.1, hW.2.2.1, trivial, hn1, hz1⟩, hW.2.1.F ht⟩) hW.2.1.2.2 e2
end ZI
