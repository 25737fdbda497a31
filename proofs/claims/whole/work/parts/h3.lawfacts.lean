/-! the law: what its entry gives -/
abbrev FG : List Cond := flatC (Jvm.Cond.and given_1 narrow_1)
theorem in_class {args : Array Value} {s : State} (hts : ∀ w ∈ gt, w.before args s = true) {ci N n : Nat} {C : String} {T : u_T} {ty : Nat → FieldType} (h : zCK ci C T N ty) (hi : Cond.instantiable C n ∈ gt) : ∃ d : ClassId × (Nat → Nat), ∀ q, vwCl[ci]? = some q → u_Kn s q.1 q.2.1 q.2.2 d.1 d.2 := by
  obtain ⟨cC, iS, hk⟩ := u_known hts h.2.1 (hts _ hi)
  exact ⟨(cC, iS), fun q hq => by cases h.1.symm.trans hq; exact hk⟩
theorem in_classes {args : Array Value} {s : State} (hts : ∀ w ∈ gt, w.before args s = true) (k : Nat) : ∃ d : ClassId × (Nat → Nat), ∀ q, vwCl[k]? = some q → u_Kn s q.1 q.2.1 q.2.2 d.1 d.2 :=
  match k with
  | 0 => in_class hts ck_0 (n := 9) (gt_t1 227 (by decide +kernel) rfl)
  | 1 => in_class hts ck_1 (n := 1) (gt_t2 230 (by decide +kernel) rfl)
  | 2 => in_class hts ck_2 (n := 7) (gt_t2 144 (by decide +kernel) rfl)
  | 3 => in_class hts ck_3 (n := 4) (gt_t3 2 (by decide +kernel) rfl)
  | 4 => in_class hts ck_4 (n := 17) (gt_t2 63 (by decide +kernel) rfl)
  | 5 => in_class hts ck_5 (n := 8) (gt_t1 55 (by decide +kernel) rfl)
  | 6 => in_class hts ck_6 (n := 6) (gt_t2 37 (by decide +kernel) rfl)
  | 7 => in_class hts ck_7 (n := 2) (gt_t1 35 (by decide +kernel) rfl)
  | 8 => in_class hts ck_8 (n := 7) (gt_t2 200 (by decide +kernel) rfl)
  | 9 => in_class hts ck_9 (n := 14) (gt_t1 144 (by decide +kernel) rfl)
  | 10 => in_class hts ck_10 (n := 5) (gt_t2 178 (by decide +kernel) rfl)
  | 11 => in_class hts ck_11 (n := 17) (gt_t1 27 (by decide +kernel) rfl)
  | 12 => in_class hts ck_12 (n := 72) (gt_t6 111 (by decide +kernel) rfl)
  | k + 13 => by
    obtain ⟨d, -⟩ := in_class hts ck_0 (n := 9) (gt_t1 227 (by decide +kernel) rfl)
    exact ⟨d, fun q hq => by simp [vwCl] at hq⟩
theorem in_arr {args : Array Value} {s : State} {ft : FieldType} (h : (Cond.arrayClass ft).before args s = true) : ∃ c : ClassId, ArrOfT s c ft ∧ s.vm.findClass ("[" ++ ft.toString) = some c := by
  obtain ⟨c, k, comp, h1, h2, h3⟩ := Cond.arrayClass_spec h
  exact ⟨c, fun n z => ⟨fun k h => (by cases h), k, h2, comp, h3⟩, h1⟩
theorem in_img {s : State} (h : va_AO RX3 s) : ∃ c : ClassId, ArrOfT s c (.object RX3) ∧ va_RA s c (.object RX3) := by
  obtain ⟨comp, c, k, h1, h2, h3, h4, h5⟩ := Cond.arrayOver_spec h
  exact ⟨c, fun n z => ⟨fun k h => (by cases h), k, h3, comp, h4⟩, k, comp, h3, h4, h1, h5⟩
/-- in a heap that fits, a row of ints holds ints -/
theorem zs_int {s : State} (h : heapFits s = true) {b : Nat} {cell : Cell} (hc : s.heap[b]? = some cell) (ha : s.isArrayOf cell .int) : ∀ j : Nat, j < cell.slots.size → ∃ z : Int32, cell.slots[j]? = some (.int z) := by
  intro j hj
  obtain ⟨hl, he⟩ := Array.getElem?_eq_some_iff.mp hc
  have h1 : cellFits s cell = true := by
    have := Array.all_eq_true.mp h b hl
    rw [he] at this
    exact this
  have h2 := List.all_eq_true.mp h1 j (List.mem_range.mpr hj)
  have h3 : cell.slots[j]? = some cell.slots[j] := Array.getElem?_eq_getElem hj
  rw [h3] at h2 ⊢
  obtain ⟨h4, k, h5, comp, h6⟩ := ha
  have h7 : s.slotType? cell.cls cell.vm j = some .int := by
    unfold State.slotType?
    rw [h5]
    cases hv : cell.vm with
    | statics c => exact absurd hv (h4 c)
    | _ => simp only [Option.bind_eq_bind, Option.bind_some, h6]
  simp only [State.fitsSlot, h7] at h2
  cases hv : cell.slots[j] with
  | int z => exact ⟨z, rfl⟩
  | _ => rw [hv] at h2; simp [fits] at h2
theorem in_stat {args : Array Value} {s : State} (hfit : heapFits s = true) {tm : Term} {i : Nat} (harr : (Cond.arrayOf tm .int).before args s = true) (hlen : (Cond.eq (.length tm) (.int 5)).before args s = true) (hel : ∀ j : Nat, j < 5 → (Cond.eq (.elem tm (.int (Int32.ofNat j))) (.int (iv (zset i j)))).before args s = true) : ∃ t : Nat, tm.eval args s none [] s = some (.ref t) ∧ zSX t i s s.heap ∧ t < s.heap.size := by
  obtain ⟨t, ht, cell, h1, h2, h3, h4, h5, h6, h7⟩ := va_Tof (N := 5) (f := fun j => .int (iv (zset i j))) (A := fun q => s.heap.size ≤ q) (by decide) harr (va_eqt hlen) (fun j hj => va_eqt (hel j hj)) (fun a ha => Nat.not_le.mpr ha)
  have hz := zs_int hfit h1 h2
  refine ⟨t, ht, ⟨cell.slots.size, fun j => match cell.slots[j]? with | some (.int z) => z | _ => 0, ⟨cell, h1, h2, h3, rfl, fun j hj => ?_⟩, h4, fun j hj => ?_⟩, (Array.getElem?_eq_some_iff.mp h1).1⟩
  · obtain ⟨z, e⟩ := hz j hj
    simp only [e]
  · simp only [h6 j hj]
theorem mem_stat : ∀ i : Nat, i < 3 → (Cond.arrayOf (.static "TruthCord" (zsetn i) "[I") .int ∈ FG ∧ Cond.eq (.length (.static "TruthCord" (zsetn i) "[I")) (.int 5) ∈ FG ∧ ∀ j : Nat, j < 5 → Cond.eq (.elem (.static "TruthCord" (zsetn i) "[I") (.int (Int32.ofNat j))) (.int (iv (zset i j))) ∈ FG) := by decide +kernel
theorem mem_lay : ∀ i : Nat, i < 3 → Cond.laysStatic "TruthCord" (zsetn i) "[I" ∈ lw_tbl := by decide +kernel
theorem mem_ini : Cond.initialized "TruthCord" ∈ lw_tbl ∧ Cond.initialized "java/lang/String" ∈ lw_tbl ∧ Cond.initialized "jdk/internal/util/Preconditions" ∈ lw_tbl ∧ Cond.initialized "java/lang/Throwable" ∈ lw_tbl := by decide +kernel
theorem in_sets {args : Array Value} {s : State} (hfit : heapFits s = true) (hts : ∀ w ∈ lw_tbl, w.before args s = true) (hgv : (Jvm.Cond.and given_1 narrow_1).before args s = true) (i : Nat) (hi : i < 3) : ∃ t : Nat, zSX t i s s.heap ∧ va_Z RX11 (zsetn i) "[I" (.ref t) (fun q => s.heap.size ≤ q) s s.heap ∧ t < s.heap.size := by
  have hs := flat_of_before _ hgv
  obtain ⟨m1, m2, m3⟩ := mem_stat i hi
  obtain ⟨t, h1, h2, h3⟩ := in_stat (i := i) hfit (hs _ m1) (hs _ m2) (fun j hj => hs _ (m3 j hj))
  exact ⟨t, h2, va_Zof (hts _ (mem_lay i hi)) (hts _ mem_ini.1) h1 (fun a ha => Nat.not_le.mpr ha), h3⟩
abbrev tK : Term := .string "TruthCord$Reader" 19
abbrev tV : Term := .field (.string "TruthCord$Reader" 19) "java/lang/String" "value" "[B"
theorem mem_text : Cond.exactly tK "java/lang/String" ∈ FG ∧ Cond.eq (.field tK "java/lang/String" "coder" "B") (.int 0) ∈ FG ∧ Cond.arrayOf tV .byte ∈ FG ∧ Cond.eq (.length tV) (.int (Int32.ofNat 134)) ∈ FG := by decide +kernel
theorem fg_bytes : (FG.drop 52).take 134 = (List.range 134).map (fun j => Cond.eq (.elem tV (.int (Int32.ofNat j))) (.int (kwB.getD j 0))) := by decide +kernel
theorem mem_byte (j : Nat) (hj : j < 134) : Cond.eq (.elem tV (.int (Int32.ofNat j))) (.int (kwB.getD j 0)) ∈ FG := by
  have h : Cond.eq (.elem tV (.int (Int32.ofNat j))) (.int (kwB.getD j 0)) ∈ (FG.drop 52).take 134 := by
    rw [fg_bytes]
    exact List.mem_map.mpr ⟨j, List.mem_range.mpr hj, rfl⟩
  exact List.mem_of_mem_drop (List.mem_of_mem_take h)
theorem mem_ref : Cond.stringRef RX5 19 kwT ∈ lw_tbl := by decide +kernel
theorem in_text {args : Array Value} {s : State} (hts : ∀ w ∈ lw_tbl, w.before args s = true) (hgv : (Jvm.Cond.and given_1 narrow_1).before args s = true) : ∃ a6 a7 : Nat, vk_R RX5 19 kwT a6 s ∧ vk_S 1 [134] [kwB] (fun _ => a6) (fun _ => a7) (fun q => s.heap.size ≤ q) s s.heap := by
  have hs := flat_of_before _ hgv
  obtain ⟨m1, m2, m3, m4⟩ := mem_text
  have z : ∀ i : Nat, i < 1 → i = 0 := fun i hi => by omega
  obtain ⟨adK, adV, h1, h2⟩ := vk_Sof (args := args) (s := s) (N := 1) (tm := fun _ => tK) (len := [134]) (byt := [kwB]) (A := fun q => s.heap.size ≤ q) (fun i hi => by cases z i hi; decide) (fun i hi => hs _ m1) (fun i hi => hs _ m2) (fun i hi => hs _ m3) (fun i hi => by cases z i hi; exact hs _ m4) (fun i hi j hj => by cases z i hi; exact hs _ (mem_byte j hj)) (fun i j hi hj hn => by omega) (fun a ha => Nat.not_le.mpr ha)
  refine ⟨adK 0, adV 0, vk_R.of (hts _ mem_ref) (h2 0 (by decide)), fun i hi => ?_, fun i j hi hj _ => by omega⟩
  cases z i hi
  exact h1.1 0 (by decide)
theorem mem_misc : Cond.eq (.static "java/lang/String" "COMPACT_STRINGS" "Z") (.int 1) ∈ FG ∧ Cond.isRef (.static "jdk/internal/util/Preconditions" "SIOOBE_FORMATTER" "Ljava/util/function/BiFunction;") ∈ FG ∧ Cond.isRef (.static Bundle.tN "UNASSIGNED_STACK" Bundle.steD) ∈ FG ∧ Cond.isRef (.static Bundle.tN "SUPPRESSED_SENTINEL" Bundle.listD) ∈ FG := by decide +kernel
theorem mem_lays : Cond.laysStatic "java/lang/String" "COMPACT_STRINGS" "Z" ∈ lw_tbl ∧ Cond.laysStatic "jdk/internal/util/Preconditions" "SIOOBE_FORMATTER" "Ljava/util/function/BiFunction;" ∈ lw_tbl ∧ Cond.laysStatic Bundle.tN "UNASSIGNED_STACK" Bundle.steD ∈ lw_tbl ∧ Cond.laysStatic Bundle.tN "SUPPRESSED_SENTINEL" Bundle.listD ∈ lw_tbl ∧ Cond.initialized Bundle.tN ∈ lw_tbl := by decide +kernel
theorem mem_xB : ∀ w ∈ xB, w ∈ lw_tbl := by decide +kernel
theorem mem_over : Cond.arrayOver (.object RX3) ∈ lw_tbl := by decide +kernel
theorem nw_of {args : Array Value} {s : State} (hts : ∀ w ∈ lw_tbl, w.before args s = true) : ∀ w ∈ nw, va_Nw w s := by
  intro w hw
  have h1 := nw_forms w hw
  have h2 := hts w (List.mem_append_right _ (List.mem_filter.mp hw).1)
  cases w <;> first | exact va_Nw.of rfl h2 | cases h1
theorem xB_of {args : Array Value} {s : State} (hts : ∀ w ∈ lw_tbl, w.before args s = true) : ∀ w ∈ xB, va_Nw w s := by
  intro w hw
  have h2 := hts w (mem_xB w hw)
  rcases xB_cases hw with rfl | ⟨x, rfl⟩ <;> exact va_Nw.of rfl h2
/-- the machine's numbers for a script at b -/
def kOf (n t0 t1 t2 b a6 a7 : Nat) (D : va_G) (cI_ cJ_ cB_ cZ_ cX_ : ClassId) : zC := (n, fun i => if i = 0 then t0 else if i = 1 then t1 else if i = 2 then t2 else if i = 5 then b else if i = 6 then a6 else if i = 7 then a7 else 0, D, fun t => if t = 0 then cI_ else if t = 1 then cJ_ else if t = 2 then cB_ else if t = 3 then cZ_ else cX_)
theorem law_given {args : Array Value} {s : State} {b L : Nat} {xs : Nat → Int32} (hfit : heapFits s = true) (hts : ∀ w ∈ lw_tbl, w.before args s = true) (hgv : (Jvm.Cond.and given_1 narrow_1).before args s = true) (hX : va_X b L xs s s.heap) (hb : b < s.heap.size) : ∃ k : zC, k.1 = s.heap.size ∧ k.2.1 4 ≤ k.1 ∧ k.2.1 5 = b ∧ zK k s ∧ zE k s s.heap ∧ zTh k s ∧ ∀ meth : Method, lwN L xs k s meth := by
  have hg : ∀ w ∈ gt, w.before args s = true := fun w hw => hts w (gt_tbl w hw)
  have hs := flat_of_before _ hgv
  have hA0 : ∀ a : Nat, a < s.heap.size → ¬ (fun q : Nat => s.heap.size ≤ q) a := fun a ha => Nat.not_le.mpr ha
  have hAO : va_AO RX3 s := va_AO.of (hts _ mem_over)
  obtain ⟨f, hf⟩ := Classical.axiomOfChoice (in_classes hg)
  obtain ⟨cI_, i1, i2⟩ := in_arr (hg _ ar_I)
  obtain ⟨cJ_, j1, j2⟩ := in_arr (hg _ ar_J)
  obtain ⟨cB_, b1, b2⟩ := in_arr (hg _ ar_B)
  obtain ⟨cZ_, z1, z2⟩ := in_arr (hg _ ar_Z)
  obtain ⟨cX_, x1, x2⟩ := in_img hAO
  obtain ⟨t0, p0, q0, r0⟩ := in_sets hfit hts hgv 0 (by decide)
  obtain ⟨t1, p1, q1, r1⟩ := in_sets hfit hts hgv 1 (by decide)
  obtain ⟨t2, p2, q2, r2⟩ := in_sets hfit hts hgv 2 (by decide)
  obtain ⟨a6, a7, hR, hS⟩ := in_text hts hgv
  have hn : ∀ q : Nat, zA (kOf s.heap.size t0 t1 t2 b a6 a7 (fun c => (f c).1, fun c => (f c).2) cI_ cJ_ cB_ cZ_ cX_) q → s.heap.size ≤ q := fun q h => h.1
  have hn0 : ∀ a : Nat, a < s.heap.size → ¬ zA (kOf s.heap.size t0 t1 t2 b a6 a7 (fun c => (f c).1, fun c => (f c).2) cI_ cJ_ cB_ cZ_ cX_) a := fun a ha z => absurd (hn a z) (Nat.not_le.mpr ha)
  have m := mem_misc
  have y := mem_lays
  refine ⟨kOf s.heap.size t0 t1 t2 b a6 a7 (fun c => (f c).1, fun c => (f c).2) cI_ cJ_ cB_ cZ_ cX_, rfl, Nat.zero_le _, rfl, ⟨⟨fun c q hq => hf c q hq, fun c q hq => ?_⟩, nw_of hts, fun i hi => ?_⟩, ⟨hAO, hR, hS.narrow hn, (va_Zof (hts _ y.1) (hts _ mem_ini.2.1) (va_eqi (hs _ m.1)) hA0).narrow hn, (va_Zqof (hts _ y.2.1) (hts _ mem_ini.2.2.1) (hs _ m.2.1) hA0).narrow hn⟩, ⟨(vx_Zqof (hts _ y.2.2.1) (hts _ y.2.2.2.2) (hs _ m.2.2.1) hA0).narrow hn, (vx_Zqof (hts _ y.2.2.2.1) (hts _ y.2.2.2.2) (hs _ m.2.2.2) hA0).narrow hn, xB_of hts⟩, fun meth => ⟨hX, hb, hn0 b hb⟩⟩
  · match c, hq with
    | 0, hq => cases hq; exact ⟨i1, i2⟩
    | 1, hq => cases hq; exact ⟨j1, j2⟩
    | 2, hq => cases hq; exact ⟨b1, b2⟩
    | 3, hq => cases hq; exact ⟨z1, z2⟩
    | 4, hq => cases hq; exact ⟨x1, x2⟩
    | c + 5, hq => simp [tysOf] at hq
  · match i, hi with
    | 0, _ => exact ⟨p0, q0.narrow hn, r0, hn0 _ r0⟩
    | 1, _ => exact ⟨p1, q1.narrow hn, r1, hn0 _ r1⟩
    | 2, _ => exact ⟨p2, q2.narrow hn, r2, hn0 _ r2⟩
    | i + 3, hi => exact absurd hi (by omega)
