/-! rows of images: made, written -/
section ZQ
variable {NN : zC → State → Method → Prop} {al : zAl} {d : Nat} {Y : zMI} {sh : List zSh} {pc : Nat} {ls : List (Nat × zV)} {st : List zV} {σ : zG} {X : zX} {q : Nat × Nat × Nat × Nat}
theorem zRi.anew {idx n : Nat} {z : Int} (hl : Cond.classLink Y.1.cls idx RX3 ∈ gt) (hz : z = (n : Int)) (hb : n * 4 ≤ 536870912) (h0 : q.1 ≤ sh.length) (h1 : sh.length + 1 ≤ q.2.2.1) (z0 : q.2.1 ≤ szs sh) (z1 : szs sh + n ≤ q.2.2.2) (hd : decode Y.2.1 pc = .ok (.anewarray idx, 3)) (h : zRi NN (some q) d Y (sh ++ [.inr (.inr (List.replicate n none))]) (pc + 3) ls (zP sh.length :: st) (zr0 σ sh.length) X) : zRi NN (some q) d Y sh pc ls (.inl z :: st) σ X := by
  intro p l e R s m args below meth c k cf sf Z hk hnm hE hF hX H locs la hW hL hS
  subst hz
  have hts := hF.1.2.2.2.2
  obtain ⟨a1, a2, a3, a4⟩ := hF.2.2.2.2.2 q rfl
  have hKt : va_RA s (k.2.2.2 4) (.object RX3) := (hF.2.1.1.2 4 _ rfl).2
  intro T0 hT0 X0
  have hsz := zsize hF hW h0 hT0 X0
  have b1 : cf sh.length + 1 ≤ R.cells := by rw [← (a1 sh.length h0).1]; exact a3 _ h1
  have b2 : sf (szs sh) + n ≤ R.slots := by rw [← a2 (szs sh) n z0]; exact a4 _ z1
  have rz : r32 ((n : Nat) : Int) := ⟨by omega, by omega⟩
  have hcl : (iv ((n : Nat) : Int)).toNatClampNeg = n := by rw [iv_clamp (by omega) rz.2]; omega
  refine W.anew hF.1.1 hF.1.2.1 (own := Y.1.cls) (C := RX3) (index := idx) hF.1.2.2.2.1 (hts _ hl) (va_AO.use hE.1) (g := F0 m pc la ((.inl ((n : Nat) : Int) :: st).map (tv k))) rfl hd (n := iv ((n : Nat) : Int)) (rest := st.map (tv k)) rfl (fun x => by have := (iv_lt rz r32_0).mp x; omega) (by rw [hcl]; exact hb) b1 (by rw [hcl]; exact b2) (fun cA kA comp f1 f2 f3 f4 => ?_) T0 hT0 X0
  rw [hcl]
  have hcA : k.2.2.2 4 = cA := by
    obtain ⟨kA9, comp9, k1, k2, k3, k4⟩ := hKt
    exact Option.some.inj (k4.symm.trans f1)
  generalize hH1 : H.push ({ cls := cA, slots := Array.replicate n .null, vm := .none } : Cell) = H1
  have e9 : H1.size = H.size + 1 := by rw [← hH1, Array.size_push]
  have e1 : H1[H.size]? = some (arrV cA n (fun _ => .null)) := by rw [← hH1, Array.getElem?_push_size, ← arrV_new]
  have o1 : ∀ a, a < H.size → H1[a]? = H[a]? := fun a ha => by rw [← hH1, Array.getElem?_push_lt ha, Array.getElem?_eq_getElem ha]
  have w := zW_push (x := .inr (.inr (List.replicate n none))) (N := n) (H1 := H1) hk hF hW hsz (by show (List.replicate n none).length + 0 = n; simp) h0 h1 z0 z1 e9 o1 trivial (by
    show H1[k.1 + sh.length]? = some (vp_cell (k.2.2.2 4) ((List.replicate n (none : Option Nat)).length, _))
    rw [← hsz, e1, hcA, List.length_replicate, vp_cell_q]
    congr 2
    funext j
    rw [List.getD_eq_getElem?_getD, List.getElem?_replicate]
    split <;> rfl)
  have h9 := h p l e R s m args below meth c k cf sf Z hk hnm hE hF hX H1 locs la w.1 hL ⟨trivial, hS.2⟩
  rw [w.2.1, w.2.2] at h9
  rw [hsz]
  exact h9
theorem zRi.aast {a b j ci : Nat} {i : Int} {N : Nat} {T : u_T} {ts : List (Option Nat)} {fks : List zFK} (hc : vwCl[ci]? = some (RX3, T, N)) (hs : sh[a]? = some (.inr (.inr ts))) (hv : sh[b]? = some (.inr (.inl (ci, fks)))) (hi : i = (j : Int)) (hj : j < ts.length) (hb : j < 2147483648) (hd : decode Y.2.1 pc = .ok (.aastore, 1)) (h : zRi NN al d Y (sh.set a (.inr (.inr (ts.set j (some b))))) (pc + 1) ls st σ X) : zRi NN al d Y sh pc ls (zP b :: .inl i :: zP a :: st) σ X := by
  intro p l e R s m args below meth c k cf sf Z hk hn hE hF hX H locs la hW hL hS
  subst hi
  have hcl : (iv ((j : Nat) : Int)).toNatClampNeg = j := by rw [iv_clamp (by omega) (by omega)]; omega
  refine va_astq (a := k.1 + a) (v := k.1 + b) hF.1.1 hF.1.2.1 hF.2.1.1 hW.1 (wl_D hW.2.2.2.2) hW.2.1 a 4 b ci (wl_at hs) rfl (wl_at hv) hc (i := iv ((j : Nat) : Int)) (iv_in (by omega) (by omega) (by omega)) hd (fun H1 locs1 hP1 hD1 hS1 => ?_)
  rw [hcl] at hP1
  have ez : zcell k (σ a) (.inr (.inr (ts.set j (some b)))) = .inl (k.2.2.2 4, ts.length, .inr (.inr (.inr (.inr (va_up (fun j => (ts.getD j none).map (k.1 + ·)) j (some (k.1 + b))))))) := by
    show (Sum.inl (k.2.2.2 4, (ts.set j (some b)).length, _) : va_E) = _
    rw [List.length_set]
    congr 6
    refine congrArg Sum.inr (funext fun x => ?_)
    by_cases hx : x = j
    · subst hx
      rw [va_up_self, List.getD_eq_getElem?_getD, List.getElem?_set_self hj]
      rfl
    · rw [va_up_ne _ _ hx, List.getD_eq_getElem?_getD, List.getD_eq_getElem?_getD, List.getElem?_set_ne (Ne.symm hx)]
  rw [← ez, wl_setS hs] at hP1
  have hlen : (sh.set a (.inr (.inr (ts.set j (some b))))).length = sh.length := by simp
  have hsz : szs (sh.set a (.inr (.inr (ts.set j (some b))))) = szs sh := szs_set sh a _ _ hs (by show (ts.set j (some b)).length + 0 = ts.length + 0; simp)
  have h9 := h p l e R s m args below meth c k cf sf Z hk hn hE hF hX H1 locs1 la ⟨hP1, hS1, rG_setS hW.2.2.1 trivial, by rw [hlen, hsz]; exact hW.2.2.2.1, by rw [hlen]; exact hW.2.2.2.2⟩ hL hS.2.2.2
  rw [hlen, hsz] at h9
  exact h9
end ZQ
