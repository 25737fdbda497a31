/-! members of String: the text that the reader's constructor reads -/
def yJ0_length_8abf5 : MethodName := ⟨"java/lang/String", "length", "()I"⟩
abbrev cJ0_length_8abf5 : ByteArray := prog_22_method_54_code
theorem dJ0_length_8abf5_0 : decode cJ0_length_8abf5 0 = .ok (.aload_n 0, 1) := by decide +kernel
theorem dJ0_length_8abf5_1 : decode cJ0_length_8abf5 1 = .ok (.getfield 9, 3) := by decide +kernel
theorem dJ0_length_8abf5_4 : decode cJ0_length_8abf5 4 = .ok (.arraylength, 1) := by decide +kernel
theorem dJ0_length_8abf5_5 : decode cJ0_length_8abf5 5 = .ok (.aload_n 0, 1) := by decide +kernel
theorem dJ0_length_8abf5_6 : decode cJ0_length_8abf5 6 = .ok (.invokevirtual 335, 3) := by decide +kernel
theorem dJ0_length_8abf5_9 : decode cJ0_length_8abf5 9 = .ok (.ishr, 1) := by decide +kernel
theorem dJ0_length_8abf5_10 : decode cJ0_length_8abf5 10 = .ok (.ireturn, 1) := by decide +kernel
def m_J0_length_8abf5 : zMI := (yJ0_length_8abf5, cJ0_length_8abf5, 1, (some .int))
set_option maxRecDepth 20000 in
theorem mk_J0_length_8abf5 : zMok m_J0_length_8abf5 0 := ⟨gt_t1 64 (by decide +kernel) rfl, rfl, by decide, by decide, by decide +kernel, by decide, gt_t1 4 (by decide +kernel) rfl⟩
def yJ0_charAt_5068e : MethodName := ⟨"java/lang/String", "charAt", "(I)C"⟩
abbrev cJ0_charAt_5068e : ByteArray := prog_22_method_56_code
theorem dJ0_charAt_5068e_0 : decode cJ0_charAt_5068e 0 = .ok (.aload_n 0, 1) := by decide +kernel
theorem dJ0_charAt_5068e_1 : decode cJ0_charAt_5068e 1 = .ok (.invokevirtual 492, 3) := by decide +kernel
theorem dJ0_charAt_5068e_4 : decode cJ0_charAt_5068e 4 = .ok (.ifCond .eq 12, 3) := by decide +kernel
theorem dJ0_charAt_5068e_7 : decode cJ0_charAt_5068e 7 = .ok (.aload_n 0, 1) := by decide +kernel
theorem dJ0_charAt_5068e_8 : decode cJ0_charAt_5068e 8 = .ok (.getfield 9, 3) := by decide +kernel
theorem dJ0_charAt_5068e_11 : decode cJ0_charAt_5068e 11 = .ok (.iload_n 1, 1) := by decide +kernel
theorem dJ0_charAt_5068e_12 : decode cJ0_charAt_5068e 12 = .ok (.invokestatic 495, 3) := by decide +kernel
theorem dJ0_charAt_5068e_15 : decode cJ0_charAt_5068e 15 = .ok (.ireturn, 1) := by decide +kernel
theorem dJ0_charAt_5068e_16 : decode cJ0_charAt_5068e 16 = .ok (.aload_n 0, 1) := by decide +kernel
theorem dJ0_charAt_5068e_17 : decode cJ0_charAt_5068e 17 = .ok (.getfield 9, 3) := by decide +kernel
theorem dJ0_charAt_5068e_20 : decode cJ0_charAt_5068e 20 = .ok (.iload_n 1, 1) := by decide +kernel
theorem dJ0_charAt_5068e_21 : decode cJ0_charAt_5068e 21 = .ok (.invokestatic 498, 3) := by decide +kernel
theorem dJ0_charAt_5068e_24 : decode cJ0_charAt_5068e 24 = .ok (.ireturn, 1) := by decide +kernel
def m_J0_charAt_5068e : zMI := (yJ0_charAt_5068e, cJ0_charAt_5068e, 2, (some .char))
set_option maxRecDepth 20000 in
theorem mk_J0_charAt_5068e : zMok m_J0_charAt_5068e 1 := ⟨gt_t1 74 (by decide +kernel) rfl, rfl, by decide, by decide, by decide +kernel, by decide, gt_t1 4 (by decide +kernel) rfl⟩
def yJ0_coder_7d493 : MethodName := ⟨"java/lang/String", "coder", "()B"⟩
abbrev cJ0_coder_7d493 : ByteArray := prog_22_method_152_code
theorem dJ0_coder_7d493_0 : decode cJ0_coder_7d493 0 = .ok (.getstatic 38, 3) := by decide +kernel
theorem dJ0_coder_7d493_3 : decode cJ0_coder_7d493 3 = .ok (.ifCond .eq 10, 3) := by decide +kernel
theorem dJ0_coder_7d493_6 : decode cJ0_coder_7d493 6 = .ok (.aload_n 0, 1) := by decide +kernel
theorem dJ0_coder_7d493_7 : decode cJ0_coder_7d493 7 = .ok (.getfield 15, 3) := by decide +kernel
theorem dJ0_coder_7d493_10 : decode cJ0_coder_7d493 10 = .ok (.goto 4, 3) := by decide +kernel
theorem dJ0_coder_7d493_13 : decode cJ0_coder_7d493 13 = .ok (.iconst 1, 1) := by decide +kernel
theorem dJ0_coder_7d493_14 : decode cJ0_coder_7d493 14 = .ok (.ireturn, 1) := by decide +kernel
def m_J0_coder_7d493 : zMI := (yJ0_coder_7d493, cJ0_coder_7d493, 1, (some .byte))
set_option maxRecDepth 20000 in
theorem mk_J0_coder_7d493 : zMok m_J0_coder_7d493 0 := ⟨gt_t1 68 (by decide +kernel) rfl, rfl, by decide, by decide, by decide +kernel, by decide, gt_t1 4 (by decide +kernel) rfl⟩
def yJ0_isLatin1_aae02 : MethodName := ⟨"java/lang/String", "isLatin1", "()Z"⟩
abbrev cJ0_isLatin1_aae02 : ByteArray := prog_22_method_154_code
theorem dJ0_isLatin1_aae02_0 : decode cJ0_isLatin1_aae02 0 = .ok (.getstatic 38, 3) := by decide +kernel
theorem dJ0_isLatin1_aae02_3 : decode cJ0_isLatin1_aae02 3 = .ok (.ifCond .eq 14, 3) := by decide +kernel
theorem dJ0_isLatin1_aae02_6 : decode cJ0_isLatin1_aae02 6 = .ok (.aload_n 0, 1) := by decide +kernel
theorem dJ0_isLatin1_aae02_7 : decode cJ0_isLatin1_aae02 7 = .ok (.getfield 15, 3) := by decide +kernel
theorem dJ0_isLatin1_aae02_10 : decode cJ0_isLatin1_aae02 10 = .ok (.ifCond .ne 7, 3) := by decide +kernel
theorem dJ0_isLatin1_aae02_13 : decode cJ0_isLatin1_aae02 13 = .ok (.iconst 1, 1) := by decide +kernel
theorem dJ0_isLatin1_aae02_14 : decode cJ0_isLatin1_aae02 14 = .ok (.goto 4, 3) := by decide +kernel
theorem dJ0_isLatin1_aae02_17 : decode cJ0_isLatin1_aae02 17 = .ok (.iconst 0, 1) := by decide +kernel
theorem dJ0_isLatin1_aae02_18 : decode cJ0_isLatin1_aae02 18 = .ok (.ireturn, 1) := by decide +kernel
def m_J0_isLatin1_aae02 : zMI := (yJ0_isLatin1_aae02, cJ0_isLatin1_aae02, 1, (some .boolean))
set_option maxRecDepth 20000 in
theorem mk_J0_isLatin1_aae02 : zMok m_J0_isLatin1_aae02 0 := ⟨gt_t1 78 (by decide +kernel) rfl, rfl, by decide, by decide, by decide +kernel, by decide, gt_t1 4 (by decide +kernel) rfl⟩
def yJ0_checkIndex_df160 : MethodName := ⟨"java/lang/String", "checkIndex", "(II)V"⟩
abbrev cJ0_checkIndex_df160 : ByteArray := prog_22_method_155_code
theorem dJ0_checkIndex_df160_0 : decode cJ0_checkIndex_df160 0 = .ok (.iload_n 0, 1) := by decide +kernel
theorem dJ0_checkIndex_df160_1 : decode cJ0_checkIndex_df160 1 = .ok (.iload_n 1, 1) := by decide +kernel
theorem dJ0_checkIndex_df160_2 : decode cJ0_checkIndex_df160 2 = .ok (.getstatic 1053, 3) := by decide +kernel
theorem dJ0_checkIndex_df160_5 : decode cJ0_checkIndex_df160 5 = .ok (.invokestatic 1059, 3) := by decide +kernel
theorem dJ0_checkIndex_df160_8 : decode cJ0_checkIndex_df160 8 = .ok (.pop, 1) := by decide +kernel
theorem dJ0_checkIndex_df160_9 : decode cJ0_checkIndex_df160 9 = .ok (.return_, 1) := by decide +kernel
def m_J0_checkIndex_df160 : zMI := (yJ0_checkIndex_df160, cJ0_checkIndex_df160, 2, none)
set_option maxRecDepth 20000 in
theorem mk_J0_checkIndex_df160 : zMok m_J0_checkIndex_df160 2 := ⟨gt_t1 84 (by decide +kernel) rfl, rfl, by decide, by decide, by decide +kernel, by decide, gt_t1 4 (by decide +kernel) rfl⟩
def yJ1_charAt_3b067 : MethodName := ⟨"java/lang/StringLatin1", "charAt", "([BI)C"⟩
abbrev cJ1_charAt_3b067 : ByteArray := prog_23_method_2_code
theorem dJ1_charAt_3b067_0 : decode cJ1_charAt_3b067 0 = .ok (.iload_n 1, 1) := by decide +kernel
theorem dJ1_charAt_3b067_1 : decode cJ1_charAt_3b067 1 = .ok (.aload_n 0, 1) := by decide +kernel
theorem dJ1_charAt_3b067_2 : decode cJ1_charAt_3b067 2 = .ok (.arraylength, 1) := by decide +kernel
theorem dJ1_charAt_3b067_3 : decode cJ1_charAt_3b067 3 = .ok (.invokestatic 9, 3) := by decide +kernel
theorem dJ1_charAt_3b067_6 : decode cJ1_charAt_3b067 6 = .ok (.aload_n 0, 1) := by decide +kernel
theorem dJ1_charAt_3b067_7 : decode cJ1_charAt_3b067 7 = .ok (.iload_n 1, 1) := by decide +kernel
theorem dJ1_charAt_3b067_8 : decode cJ1_charAt_3b067 8 = .ok (.baload, 1) := by decide +kernel
theorem dJ1_charAt_3b067_9 : decode cJ1_charAt_3b067 9 = .ok (.sipush 255, 3) := by decide +kernel
theorem dJ1_charAt_3b067_12 : decode cJ1_charAt_3b067 12 = .ok (.iand, 1) := by decide +kernel
theorem dJ1_charAt_3b067_13 : decode cJ1_charAt_3b067 13 = .ok (.i2c, 1) := by decide +kernel
theorem dJ1_charAt_3b067_14 : decode cJ1_charAt_3b067 14 = .ok (.ireturn, 1) := by decide +kernel
def m_J1_charAt_3b067 : zMI := (yJ1_charAt_3b067, cJ1_charAt_3b067, 2, (some .char))
set_option maxRecDepth 20000 in
theorem mk_J1_charAt_3b067 : zMok m_J1_charAt_3b067 2 := ⟨gt_t1 81 (by decide +kernel) rfl, rfl, by decide, by decide, by decide +kernel, by decide, gt_t1 5 (by decide +kernel) rfl⟩
def yJ3_checkIndex_8e157 : MethodName := ⟨"jdk/internal/util/Preconditions", "checkIndex", "(IILjava/util/function/BiFunction;)I"⟩
abbrev cJ3_checkIndex_8e157 : ByteArray := prog_31_method_11_code
theorem dJ3_checkIndex_8e157_0 : decode cJ3_checkIndex_8e157 0 = .ok (.iload_n 0, 1) := by decide +kernel
theorem dJ3_checkIndex_8e157_1 : decode cJ3_checkIndex_8e157 1 = .ok (.ifCond .lt 8, 3) := by decide +kernel
theorem dJ3_checkIndex_8e157_4 : decode cJ3_checkIndex_8e157 4 = .ok (.iload_n 0, 1) := by decide +kernel
theorem dJ3_checkIndex_8e157_5 : decode cJ3_checkIndex_8e157 5 = .ok (.iload_n 1, 1) := by decide +kernel
theorem dJ3_checkIndex_8e157_6 : decode cJ3_checkIndex_8e157 6 = .ok (.if_icmp .lt 10, 3) := by decide +kernel
theorem dJ3_checkIndex_8e157_9 : decode cJ3_checkIndex_8e157 9 = .ok (.aload_n 2, 1) := by decide +kernel
theorem dJ3_checkIndex_8e157_10 : decode cJ3_checkIndex_8e157 10 = .ok (.iload_n 0, 1) := by decide +kernel
theorem dJ3_checkIndex_8e157_11 : decode cJ3_checkIndex_8e157 11 = .ok (.iload_n 1, 1) := by decide +kernel
theorem dJ3_checkIndex_8e157_12 : decode cJ3_checkIndex_8e157 12 = .ok (.invokestatic 95, 3) := by decide +kernel
theorem dJ3_checkIndex_8e157_15 : decode cJ3_checkIndex_8e157 15 = .ok (.athrow, 1) := by decide +kernel
theorem dJ3_checkIndex_8e157_16 : decode cJ3_checkIndex_8e157 16 = .ok (.iload_n 0, 1) := by decide +kernel
theorem dJ3_checkIndex_8e157_17 : decode cJ3_checkIndex_8e157 17 = .ok (.ireturn, 1) := by decide +kernel
def m_J3_checkIndex_8e157 : zMI := (yJ3_checkIndex_8e157, cJ3_checkIndex_8e157, 3, (some .int))
set_option maxRecDepth 20000 in
theorem mk_J3_checkIndex_8e157 : zMok m_J3_checkIndex_8e157 3 := ⟨gt_t1 89 (by decide +kernel) rfl, rfl, by decide, by decide, by decide +kernel, by decide, gt_t1 6 (by decide +kernel) rfl⟩
theorem jl_value : Cond.fieldLink "java/lang/String" 9 "java/lang/String" "value" "[B" ∈ gt := gt_t9 64 (by decide +kernel) rfl
theorem jl_coder : Cond.fieldLink "java/lang/String" 15 "java/lang/String" "coder" "B" ∈ gt := gt_t9 65 (by decide +kernel) rfl
theorem jl_compact : Cond.fieldLink "java/lang/String" 38 "java/lang/String" "COMPACT_STRINGS" "Z" ∈ gt := gt_t1 69 (by decide +kernel) rfl
theorem jl_form : Cond.fieldLink "java/lang/String" 1053 "jdk/internal/util/Preconditions" "SIOOBE_FORMATTER" "Ljava/util/function/BiFunction;" ∈ gt := gt_t1 85 (by decide +kernel) rfl
theorem jv_J0_length : Cond.methodLink "TruthCord$Reader" 21 m_J0_length_8abf5.1 ∈ gt ∧ Cond.instanceMethod m_J0_length_8abf5.1 ∈ gt ∧ Cond.selects m_J0_length_8abf5.1.cls m_J0_length_8abf5.1 m_J0_length_8abf5.1 ∈ gt := ⟨gt_t1 61 (by decide +kernel) rfl, gt_t1 62 (by decide +kernel) rfl, gt_t1 63 (by decide +kernel) rfl⟩
theorem jv_J0_coder : Cond.methodLink "java/lang/String" 335 m_J0_coder_7d493.1 ∈ gt ∧ Cond.instanceMethod m_J0_coder_7d493.1 ∈ gt ∧ Cond.selects m_J0_coder_7d493.1.cls m_J0_coder_7d493.1 m_J0_coder_7d493.1 ∈ gt := ⟨gt_t1 65 (by decide +kernel) rfl, gt_t1 66 (by decide +kernel) rfl, gt_t1 67 (by decide +kernel) rfl⟩
theorem jv_J0_charAt : Cond.methodLink "TruthCord$Reader" 27 m_J0_charAt_5068e.1 ∈ gt ∧ Cond.instanceMethod m_J0_charAt_5068e.1 ∈ gt ∧ Cond.selects m_J0_charAt_5068e.1.cls m_J0_charAt_5068e.1 m_J0_charAt_5068e.1 ∈ gt := ⟨gt_t1 71 (by decide +kernel) rfl, gt_t1 72 (by decide +kernel) rfl, gt_t1 73 (by decide +kernel) rfl⟩
theorem jv_J0_isLatin1 : Cond.methodLink "java/lang/String" 492 m_J0_isLatin1_aae02.1 ∈ gt ∧ Cond.instanceMethod m_J0_isLatin1_aae02.1 ∈ gt ∧ Cond.selects m_J0_isLatin1_aae02.1.cls m_J0_isLatin1_aae02.1 m_J0_isLatin1_aae02.1 ∈ gt := ⟨gt_t1 75 (by decide +kernel) rfl, gt_t1 76 (by decide +kernel) rfl, gt_t1 77 (by decide +kernel) rfl⟩
theorem js_J1_charAt : Cond.methodLink "java/lang/String" 495 m_J1_charAt_3b067.1 ∈ gt ∧ Cond.static m_J1_charAt_3b067.1 ∈ gt := ⟨gt_t1 79 (by decide +kernel) rfl, gt_t1 80 (by decide +kernel) rfl⟩
theorem js_J0_checkIndex : Cond.methodLink "java/lang/StringLatin1" 9 m_J0_checkIndex_df160.1 ∈ gt ∧ Cond.static m_J0_checkIndex_df160.1 ∈ gt := ⟨gt_t1 82 (by decide +kernel) rfl, gt_t1 83 (by decide +kernel) rfl⟩
theorem js_J3_checkIndex : Cond.methodLink "java/lang/String" 1059 m_J3_checkIndex_8e157.1 ∈ gt ∧ Cond.static m_J3_checkIndex_8e157.1 ∈ gt := ⟨gt_t1 87 (by decide +kernel) rfl, gt_t1 88 (by decide +kernel) rfl⟩
def jF : Nat → Prop := fun _ => False
/-- the text by its addresses, and the two statics -/
def jE (a6 a7 : Nat) (U : State) (H : Heap) : Prop := vk_S 1 [134] [kwB] (fun _ => a6) (fun _ => a7) jF U H ∧ va_Z "java/lang/String" "COMPACT_STRINGS" "Z" (.int 1) jF U H ∧ va_Zq "jdk/internal/util/Preconditions" "SIOOBE_FORMATTER" "Ljava/util/function/BiFunction;" jF U H
theorem jE.warm {a6 a7 : Nat} {s U : State} {H : Heap} (hW : s.WarmedH U.vm) (hh : ∀ q : Nat, q < s.heap.size → ¬ jF q → H[q]? = s.heap[q]?) (h : jE a6 a7 s s.heap) : jE a6 a7 U H := ⟨vk_S.moved hW.alike (h.1.kept hh), va_Z.moved hW.alike (h.2.1.kept hh), va_Zq.moved hW.alike (h.2.2.kept hh)⟩
theorem jE.same {a6 a7 : Nat} {s U : State} (hv : s.vm = U.vm) (hh : U.heap = s.heap) (h : jE a6 a7 s s.heap) : jE a6 a7 U U.heap := by
  have ha : s.vm.Alike U.vm := by rw [hv]; exact Vm.Alike.refl _
  rw [hh]
  exact ⟨vk_S.moved ha h.1, va_Z.moved ha h.2.1, va_Zq.moved ha h.2.2⟩
theorem zE.j {k : zC} {U : State} {H : Heap} (h : zE k U H) : jE (k.2.1 6) (k.2.1 7) U H := ⟨h.2.2.1.narrow (fun _ z => z.elim), h.2.2.2.1.narrow (fun _ z => z.elim), h.2.2.2.2.narrow (fun _ z => z.elim)⟩
def jDo (a6 a7 d : Nat) (M : zMI) (As : List Value) (v : Option Value) : Prop := ∀ l : Launch, Met l M.1 (zws M) (zroom d 0 0) (va_Pc As (fun U => jE a6 a7 U U.heap)) (fun _ st oc t => oc = .returned v ∧ va_F jF st t) 0 0 jF
theorem jblind {a6 a7 : Nat} {As : List Value} : FrameBlind (va_Pc As (fun U => jE a6 a7 U U.heap)) := by
  intro a U g mk q
  exact ⟨q.1, jE.same (s := U) rfl rfl q.2⟩
def jR (a6 a7 d : Nat) (Y : zMI) (ls : List (Nat × Value)) (pcR : Nat) (stR : List Value) (pc : Nat) (st : List Value) : Prop :=
  ∀ (p : Program) (l : Launch) (e : Env) (R : Room) (s : State) (m : MethodId) (args : Array Value) (below : List Frame) (meth : Method) (c : Code) (la : Array Slot) (Z : State → Prop),
    CallFix p m c Y.2.1 Y.2.2.1 s args gt Y.1.cls → jE a6 a7 s s.heap → d ≤ R.frames → 64 * d ≤ R.locals → lv_has la Y.2.2.1 ls →
    (∀ (H : Heap) (locs : List Loc), va_S jF s.heap H locs → W p l e R s m args below meth c H locs 0 0 Z (F0 m pcR la stR)) →
    ∀ (H : Heap) (locs : List Loc), va_S jF s.heap H locs → W p l e R s m args below meth c H locs 0 0 Z (F0 m pc la st)
section JR
variable {a6 a7 d : Nat} {Y M : zMI} {ls : List (Nat × Value)} {pcR : Nat} {stR : List Value} {pc : Nat} {st st0 As : List Value} {v : Option Value}
theorem jR.stop : jR a6 a7 d Y ls pcR stR pcR stR := fun _ _ _ _ _ _ _ _ _ _ _ _ _ _ _ _ _ hX H locs hS => hX H locs hS
theorem jR.aload {n : Fin 4} {i x : Nat} (j : Nat) (hj : ls[j]? = some (i, .ref x)) (hi : (n : Nat) = i) (hd : decode Y.2.1 pc = .ok (.aload_n n, 1)) (h : jR a6 a7 d Y ls pcR stR (pc + 1) (.ref x :: st)) : jR a6 a7 d Y ls pcR stR pc st := by
  intro p l e R s m args below meth c la Z hF hE h1 h2 hL hX H locs hS
  exact lv_aload_n hF.1 hF.2.1 hd hi (lv_at hL j hj) (h p l e R s m args below meth c la Z hF hE h1 h2 hL hX H locs hS)
theorem jR.iload {n : Fin 4} {i : Nat} {x : Int32} (j : Nat) (hj : ls[j]? = some (i, .int x)) (hi : (n : Nat) = i) (hd : decode Y.2.1 pc = .ok (.iload_n n, 1)) (h : jR a6 a7 d Y ls pcR stR (pc + 1) (.int x :: st)) : jR a6 a7 d Y ls pcR stR pc st := by
  intro p l e R s m args below meth c la Z hF hE h1 h2 hL hX H locs hS
  exact lv_iload_n hF.1 hF.2.1 hd hi (lv_at hL j hj) (h p l e R s m args below meth c la Z hF hE h1 h2 hL hX H locs hS)
theorem jR.value (hY : Y.1.cls = "java/lang/String") (hd : decode Y.2.1 pc = .ok (.getfield 9, 3)) (h : jR a6 a7 d Y ls pcR stR (pc + 3) (.ref a7 :: st)) : jR a6 a7 d Y ls pcR stR pc (.ref a6 :: st) := by
  intro p l e R s m args below meth c la Z hF hE h1 h2 hL hX H locs hS
  exact vk_getf hF.1 hF.2.1 (hE.1.1 0 (by decide)).2.2.1 hS (hY ▸ hF.2.2.2.1) (hF.2.2.2.2 _ jl_value) (fun _ h9 => h9) hd (h p l e R s m args below meth c la Z hF hE h1 h2 hL hX H locs hS)
theorem jR.coder (hY : Y.1.cls = "java/lang/String") (hd : decode Y.2.1 pc = .ok (.getfield 15, 3)) (h : jR a6 a7 d Y ls pcR stR (pc + 3) (.int 0 :: st)) : jR a6 a7 d Y ls pcR stR pc (.ref a6 :: st) := by
  intro p l e R s m args below meth c la Z hF hE h1 h2 hL hX H locs hS
  exact vk_getf hF.1 hF.2.1 (hE.1.1 0 (by decide)).2.1 hS (hY ▸ hF.2.2.2.1) (hF.2.2.2.2 _ jl_coder) (fun _ h9 => h9) hd (h p l e R s m args below meth c la Z hF hE h1 h2 hL hX H locs hS)
theorem jR.compact (hY : Y.1.cls = "java/lang/String") (hd : decode Y.2.1 pc = .ok (.getstatic 38, 3)) (h : jR a6 a7 d Y ls pcR stR (pc + 3) (.int 1 :: st)) : jR a6 a7 d Y ls pcR stR pc st := by
  intro p l e R s m args below meth c la Z hF hE h1 h2 hL hX H locs hS
  exact va_gets hF.1 hF.2.1 hE.2.1 hS (hY ▸ hF.2.2.2.1) (hF.2.2.2.2 _ jl_compact) (fun _ h9 => h9) hd (h p l e R s m args below meth c la Z hF hE h1 h2 hL hX H locs hS)
theorem jR.form (hY : Y.1.cls = "java/lang/String") (hd : decode Y.2.1 pc = .ok (.getstatic 1053, 3)) (h : ∀ x : Value, x.category = 1 → jR a6 a7 d Y ls pcR stR (pc + 3) (x :: st)) : jR a6 a7 d Y ls pcR stR pc st := by
  intro p l e R s m args below meth c la Z hF hE h1 h2 hL hX H locs hS
  rcases hE.2.2 with h9 | ⟨t, h9⟩
  · exact va_gets hF.1 hF.2.1 h9 hS (hY ▸ hF.2.2.2.1) (hF.2.2.2.2 _ jl_form) (fun _ h9 => h9) hd (h .null rfl p l e R s m args below meth c la Z hF hE h1 h2 hL hX H locs hS)
  · exact va_gets hF.1 hF.2.1 h9 hS (hY ▸ hF.2.2.2.1) (hF.2.2.2.2 _ jl_form) (fun _ h9 => h9) hd (h (.ref t) rfl p l e R s m args below meth c la Z hF hE h1 h2 hL hX H locs hS)
theorem jR.alen (hd : decode Y.2.1 pc = .ok (.arraylength, 1)) (h : jR a6 a7 d Y ls pcR stR (pc + 1) (.int 134 :: st)) : jR a6 a7 d Y ls pcR stR pc (.ref a7 :: st) := by
  intro p l e R s m args below meth c la Z hF hE h1 h2 hL hX H locs hS
  exact va_tlen hF.1 hF.2.1 (hE.1.1 0 (by decide)).2.2.2 hS (v := 134) rfl hd (h p l e R s m args below meth c la Z hF hE h1 h2 hL hX H locs hS)
theorem jR.bald {i x : Int32} (hi : vp_in i 134) (hx : kwB.getD i.toNatClampNeg 0 = x) (hd : decode Y.2.1 pc = .ok (.baload, 1)) (h : jR a6 a7 d Y ls pcR stR (pc + 1) (.int x :: st)) : jR a6 a7 d Y ls pcR stR pc (.int i :: .ref a7 :: st) := by
  intro p l e R s m args below meth c la Z hF hE h1 h2 hL hX H locs hS
  exact va_tb hF.1 hF.2.1 (hE.1.1 0 (by decide)).2.2.2 hS (v := .int x) hi (by rw [← hx]; rfl) hd (h p l e R s m args below meth c la Z hF hE h1 h2 hL hX H locs hS)
theorem jR.ishr {x y : Int32} (hd : decode Y.2.1 pc = .ok (.ishr, 1)) (h : jR a6 a7 d Y ls pcR stR (pc + 1) (.int (x >>> (y &&& 31)) :: st)) : jR a6 a7 d Y ls pcR stR pc (.int y :: .int x :: st) := by
  intro p l e R s m args below meth c la Z hF hE h1 h2 hL hX H locs hS
  exact lv_ishr hF.1 hF.2.1 hd (h p l e R s m args below meth c la Z hF hE h1 h2 hL hX H locs hS)
theorem jR.iand {x y z : Int32} (hz : x &&& y = z) (hd : decode Y.2.1 pc = .ok (.iand, 1)) (h : jR a6 a7 d Y ls pcR stR (pc + 1) (.int z :: st)) : jR a6 a7 d Y ls pcR stR pc (.int y :: .int x :: st) := by
  intro p l e R s m args below meth c la Z hF hE h1 h2 hL hX H locs hS
  subst hz
  exact lv_iand hF.1 hF.2.1 hd (h p l e R s m args below meth c la Z hF hE h1 h2 hL hX H locs hS)
theorem jR.i2c {x y : Int32} (hy : (x.toUInt32 % 65536).toInt32 = y) (hd : decode Y.2.1 pc = .ok (.i2c, 1)) (h : jR a6 a7 d Y ls pcR stR (pc + 1) (.int y :: st)) : jR a6 a7 d Y ls pcR stR pc (.int x :: st) := by
  intro p l e R s m args below meth c la Z hF hE h1 h2 hL hX H locs hS
  exact lv_i2c hF.1 hF.2.1 hd hy (h p l e R s m args below meth c la Z hF hE h1 h2 hL hX H locs hS)
theorem jR.sipush {n : Int} {x : Int32} (hx : (Int16.ofInt n).toInt32 = x) (hd : decode Y.2.1 pc = .ok (.sipush n, 3)) (h : jR a6 a7 d Y ls pcR stR (pc + 3) (.int x :: st)) : jR a6 a7 d Y ls pcR stR pc st := by
  intro p l e R s m args below meth c la Z hF hE h1 h2 hL hX H locs hS
  exact lv_sipush hF.1 hF.2.1 hd hx (h p l e R s m args below meth c la Z hF hE h1 h2 hL hX H locs hS)
theorem jR.iconst {n : Int} {x : Int32} (hx : Int32.ofInt n = x) (hd : decode Y.2.1 pc = .ok (.iconst n, 1)) (h : jR a6 a7 d Y ls pcR stR (pc + 1) (.int x :: st)) : jR a6 a7 d Y ls pcR stR pc st := by
  intro p l e R s m args below meth c la Z hF hE h1 h2 hL hX H locs hS
  exact lv_iconst hF.1 hF.2.1 hd hx (h p l e R s m args below meth c la Z hF hE h1 h2 hL hX H locs hS)
theorem jR.pop {x : Value} (hx : x.category = 1) (hd : decode Y.2.1 pc = .ok (.pop, 1)) (h : jR a6 a7 d Y ls pcR stR (pc + 1) st) : jR a6 a7 d Y ls pcR stR pc (x :: st) := by
  intro p l e R s m args below meth c la Z hF hE h1 h2 hL hX H locs hS
  exact lv_pop hF.1 hF.2.1 hd hx (h p l e R s m args below meth c la Z hF hE h1 h2 hL hX H locs hS)
theorem jR.goto {off : Int} {tgt : Nat} (hd : decode Y.2.1 pc = .ok (.goto off, 3)) (ht : (pc : Int) + off = (tgt : Int)) (h : jR a6 a7 d Y ls pcR stR tgt st) : jR a6 a7 d Y ls pcR stR pc st := by
  intro p l e R s m args below meth c la Z hF hE h1 h2 hL hX H locs hS
  exact lv_goto hF.1 hF.2.1 hd ht (h p l e R s m args below meth c la Z hF hE h1 h2 hL hX H locs hS)
theorem jR.if_eqF {x : Int32} {off : Int} {tgt : Nat} (hx : ¬ x = 0) (hd : decode Y.2.1 pc = .ok (.ifCond .eq off, 3)) (ht : (pc : Int) + off = (tgt : Int)) (h : jR a6 a7 d Y ls pcR stR (pc + 3) st) : jR a6 a7 d Y ls pcR stR pc (.int x :: st) := by
  intro p l e R s m args below meth c la Z hF hE h1 h2 hL hX H locs hS
  exact lv_if_eq hF.1 hF.2.1 hd ht (fun z => absurd z hx) (fun _ => h p l e R s m args below meth c la Z hF hE h1 h2 hL hX H locs hS)
theorem jR.if_neF {x : Int32} {off : Int} {tgt : Nat} (hx : x = 0) (hd : decode Y.2.1 pc = .ok (.ifCond .ne off, 3)) (ht : (pc : Int) + off = (tgt : Int)) (h : jR a6 a7 d Y ls pcR stR (pc + 3) st) : jR a6 a7 d Y ls pcR stR pc (.int x :: st) := by
  intro p l e R s m args below meth c la Z hF hE h1 h2 hL hX H locs hS
  exact lv_if_ne hF.1 hF.2.1 hd ht (fun z => absurd hx z) (fun _ => h p l e R s m args below meth c la Z hF hE h1 h2 hL hX H locs hS)
theorem jR.if_ltF {x : Int32} {off : Int} {tgt : Nat} (hx : ¬ x < 0) (hd : decode Y.2.1 pc = .ok (.ifCond .lt off, 3)) (ht : (pc : Int) + off = (tgt : Int)) (h : jR a6 a7 d Y ls pcR stR (pc + 3) st) : jR a6 a7 d Y ls pcR stR pc (.int x :: st) := by
  intro p l e R s m args below meth c la Z hF hE h1 h2 hL hX H locs hS
  exact lv_if_lt hF.1 hF.2.1 hd ht (fun z => absurd z hx) (fun _ => h p l e R s m args below meth c la Z hF hE h1 h2 hL hX H locs hS)
theorem jR.icmp_ltT {x y : Int32} {off : Int} {tgt : Nat} (hx : x < y) (hd : decode Y.2.1 pc = .ok (.if_icmp .lt off, 3)) (ht : (pc : Int) + off = (tgt : Int)) (h : jR a6 a7 d Y ls pcR stR tgt st) : jR a6 a7 d Y ls pcR stR pc (.int y :: .int x :: st) := by
  intro p l e R s m args below meth c la Z hF hE h1 h2 hL hX H locs hS
  exact lv_icmp_lt hF.1 hF.2.1 hd ht (fun _ => h p l e R s m args below meth c la Z hF hE h1 h2 hL hX H locs hS) (fun z => absurd hx z)
theorem jback {p : Program} {l : Launch} {e : Env} {R : Room} {s : State} {m : MethodId} {args : Array Value} {below : List Frame} {meth : Method} {c : Code} {H : Heap} {locs : List Loc} {la : Array Slot} {Z : State → Prop} {T : State} (hT : T.heap = H) (X : Stand p l e R s m args below meth c T locs 0 0) (hr : va_Run p l e R s m args below meth c H locs 0 0 0 0 (F0 m pc la st0) st (fun st oc t => oc = .returned v ∧ va_F jF st t) jF) (hS : va_S jF s.heap H locs)
    (kk : ∀ (H1 : Heap) (locs1 : List Loc), va_S jF s.heap H1 locs1 → W p l e R s m args below meth c H1 locs1 0 0 Z (F0 m (pc + 3) la (v.toList ++ st))) : ∃ t, Steps p.tables e below (T.setTop (F0 m pc la st0)) t ∧ Z t := by
  obtain ⟨v9, st₀, t, T', L, h0, X', hLo, e1, e2, ⟨hq, hFr⟩, stp⟩ := hr T hT X
  cases hq
  have hS1 : va_S jF s.heap T'.heap (locs ++ L) := by
    refine ⟨?_, fun q h1 h2 => ?_, fun q hq => ?_⟩
    · rw [e1]; exact Nat.le_trans hS.1 (by rw [← h0]; exact hFr.1)
    · rw [e1, hFr.2 q (by rw [h0]; exact Nat.lt_of_lt_of_le h1 hS.1) h2, h0]; exact hS.2.1 q h1 h2
    · rcases List.mem_append.mp hq with h | h
      · exact hS.2.2 q h
      · exact hLo q h
  obtain ⟨t2, c1, c2⟩ := kk T'.heap (locs ++ L) hS1 T' rfl X'
  exact ⟨t2, stp t2 c1, c2⟩
theorem jR.callV {idx d' : Nat} (cl : Cond.methodLink Y.1.cls idx M.1 ∈ gt ∧ Cond.instanceMethod M.1 ∈ gt ∧ Cond.selects M.1.cls M.1 M.1 ∈ gt) (hcls : M.1.cls = "java/lang/String") (hM : zMok M As.length) (hd' : d' + 1 ≤ d) (hst : st0 = As.reverse ++ .ref a6 :: st) (hc : (st.map fun v => v.category).sum ≤ 8) (hd : decode Y.2.1 pc = .ok (.invokevirtual idx, 3)) (hD : jDo a6 a7 d' M (.ref a6 :: As) v) (h : jR a6 a7 d Y ls pcR stR (pc + 3) (v.toList ++ st)) : jR a6 a7 d Y ls pcR stR pc st0 := by
  intro p l e R s m args below meth c la Z hF hE h1 h2 hL hX H locs hS
  subst hst
  obtain ⟨m1, m2, m3, m4, m5, m6, m7⟩ := hM
  obtain ⟨g1, g2, g3⟩ := cl
  have hts := hF.2.2.2.2
  have hcb := callB_of (R := R) (rm := zroom d' 0 0) (mc := 0) (ms := 0) (ws' := gt) As.length hts (gt_goodIn m1) rfl rfl rfl (hts _ m7) (hts _ g1) ⟨m3, m4, m5⟩ (zRoom h1 h2 hd' m6)
  have hrecv := vk_recv (i := 0) hE.1 (by decide) hS
  rw [← hcls] at hrecv
  intro T0 hT0 X0
  exact jback hT0 X0 (va_runV (C := M.1.cls) (b := a6) (As := As) (H := H) (locs := locs) (cells := 0) (slots := 0) (g := F0 m pc la (As.reverse ++ .ref a6 :: st)) (rest := st) (below := below) (meth := meth) (e := e) hF (hD l) ⟨hcb, hts _ g2, hts _ g3⟩ ⟨jblind, hrecv, fun U hU hw => ⟨rfl, jE.warm hw (by rw [hU]; exact hS.2.1) hE⟩⟩ rfl rfl hL.1 rfl (lv_room hc) hd ⟨Nat.zero_le _, Nat.zero_le _⟩) hS (fun H1 locs1 hS1 => h p l e R s m args below meth c la Z hF hE h1 h2 hL hX H1 locs1 hS1)
theorem jR.callS {idx d' : Nat} (cl : Cond.methodLink Y.1.cls idx M.1 ∈ gt ∧ Cond.static M.1 ∈ gt) (hM : zMok M As.length) (hd' : d' + 1 ≤ d) (hst : st0 = As.reverse ++ st) (hc : (st.map fun v => v.category).sum ≤ 8) (hd : decode Y.2.1 pc = .ok (.invokestatic idx, 3)) (hD : jDo a6 a7 d' M As v) (h : jR a6 a7 d Y ls pcR stR (pc + 3) (v.toList ++ st)) : jR a6 a7 d Y ls pcR stR pc st0 := by
  intro p l e R s m args below meth c la Z hF hE h1 h2 hL hX H locs hS
  subst hst
  obtain ⟨m1, m2, m3, m4, m5, m6, m7⟩ := hM
  obtain ⟨g1, g2⟩ := cl
  have hts := hF.2.2.2.2
  have hcb := callB_of (R := R) (rm := zroom d' 0 0) (mc := 0) (ms := 0) (ws' := gt) As.length hts (gt_goodIn m1) rfl rfl rfl (hts _ m7) (hts _ g1) ⟨m3, m4, m5⟩ (zRoom h1 h2 hd' m6)
  intro T0 hT0 X0
  exact jback hT0 X0 (va_runS (As := As) (H := H) (locs := locs) (cells := 0) (slots := 0) (g := F0 m pc la (As.reverse ++ st)) (rest := st) (below := below) (meth := meth) (e := e) hF (hD l) ⟨hcb, hts _ g2⟩ ⟨jblind, fun U hU hw => ⟨rfl, jE.warm hw (by rw [hU]; exact hS.2.1) hE⟩⟩ rfl rfl hL.1 rfl (lv_room hc) hd ⟨Nat.zero_le _, Nat.zero_le _⟩) hS (fun H1 locs1 hS1 => h p l e R s m args below meth c la Z hF hE h1 h2 hL hX H1 locs1 hS1)
theorem jDo.intro {n : Nat} (hM : zMok M n) (hl : (lg_sl As).length ≤ M.2.2.1) (hret : (M.2.2.2 = none ∧ decode M.2.1 pcR = .ok (.return_, 1) ∧ stR = [] ∧ v = none) ∨ (∃ (ty : FieldType) (x : Int32), M.2.2.2 = some ty ∧ narrow ty (.int x) = .int x ∧ decode M.2.1 pcR = .ok (.ireturn, 1) ∧ stR = [.int x] ∧ v = some (.int x))) (h : jR a6 a7 d M (lv_args 0 As) pcR stR 0 []) : jDo a6 a7 d M As v := by
  intro l
  refine Met.ofW (cc := M.2.1) (maxL := M.2.2.1) (ret := M.2.2.2) hM.2.1 rfl ?_
  intro p e s m args below meth c s₁ B hml hv
  obtain ⟨rfl, hE⟩ := hv
  have hx := B.exec
  have hb := B.bytes
  have hr := B.returns
  have hts := atoms_spec (ws := zws M) B.pre
  have hown : s.vm.findClass M.1.cls = some m.cls := findClass_of_methodNamed B.named
  have hlocks := B.notSynchronized
  have hlv := lv_entry As (n := M.2.2.1) hl
  rw [lg_entry_eq]
  refine h p l e _ s m _ below meth c _ _ ⟨hx, hb, hml, hown, fun w hw => hts w (List.mem_cons_of_mem _ hw)⟩ hE (Nat.le_refl _) (Nat.le_refl _) hlv (fun H locs hS => ?_) s.heap [] va_S.rf
  rcases hret with ⟨r1, r2, rfl, rfl⟩ | ⟨ty, x, r1, r2, r3, rfl, rfl⟩
  · exact W.vret hx hb (by rw [hr, r1]) (fun t ht hw => ⟨rfl, hS.F ht⟩) hS.2.2 r2
  · exact W.zret (ty := ty) hx hb (by rw [hr, r1]) r2 (fun t ht hw => ⟨rfl, hS.F ht⟩) hS.2.2 r3
end JR
theorem j_coder (a6 a7 : Nat) : jDo a6 a7 1 m_J0_coder_7d493 [.ref a6] (some (.int 0)) := by
  refine jDo.intro (pcR := 14) (stR := [.int 0]) mk_J0_coder_7d493 (Nat.le_of_ble_eq_true rfl) (Or.inr ⟨.byte, 0, rfl, rfl, dJ0_coder_7d493_14, rfl, rfl⟩) ?_
  refine jR.compact rfl dJ0_coder_7d493_0 ?_
  refine jR.if_eqF (tgt := 13) (by decide) dJ0_coder_7d493_3 rfl ?_
  refine jR.aload 0 rfl rfl dJ0_coder_7d493_6 ?_
  refine jR.coder rfl dJ0_coder_7d493_7 ?_
  exact jR.goto dJ0_coder_7d493_10 rfl jR.stop
theorem j_latin (a6 a7 : Nat) : jDo a6 a7 1 m_J0_isLatin1_aae02 [.ref a6] (some (.int 1)) := by
  refine jDo.intro (pcR := 18) (stR := [.int 1]) mk_J0_isLatin1_aae02 (Nat.le_of_ble_eq_true rfl) (Or.inr ⟨.boolean, 1, rfl, rfl, dJ0_isLatin1_aae02_18, rfl, rfl⟩) ?_
  refine jR.compact rfl dJ0_isLatin1_aae02_0 ?_
  refine jR.if_eqF (tgt := 17) (by decide) dJ0_isLatin1_aae02_3 rfl ?_
  refine jR.aload 0 rfl rfl dJ0_isLatin1_aae02_6 ?_
  refine jR.coder rfl dJ0_isLatin1_aae02_7 ?_
  refine jR.if_neF (tgt := 17) rfl dJ0_isLatin1_aae02_10 rfl ?_
  refine jR.iconst (x := 1) rfl dJ0_isLatin1_aae02_13 ?_
  exact jR.goto dJ0_isLatin1_aae02_14 rfl jR.stop
theorem j_length (a6 a7 : Nat) : jDo a6 a7 2 m_J0_length_8abf5 [.ref a6] (some (.int 134)) := by
  refine jDo.intro (pcR := 10) (stR := [.int 134]) mk_J0_length_8abf5 (Nat.le_of_ble_eq_true rfl) (Or.inr ⟨.int, 134, rfl, rfl, dJ0_length_8abf5_10, rfl, rfl⟩) ?_
  refine jR.aload 0 rfl rfl dJ0_length_8abf5_0 ?_
  refine jR.value rfl dJ0_length_8abf5_1 ?_
  refine jR.alen dJ0_length_8abf5_4 ?_
  refine jR.aload 0 rfl rfl dJ0_length_8abf5_5 ?_
  refine jR.callV (As := []) (st := [.int 134]) jv_J0_coder rfl mk_J0_coder_7d493 (by decide) rfl (by decide) dJ0_length_8abf5_6 (j_coder a6 a7) ?_
  exact jR.ishr dJ0_length_8abf5_9 jR.stop
theorem j_check3 (a6 a7 : Nat) {i n : Int32} {x : Value} (hx : x.category = 1) (h0 : ¬ i < 0) (h1 : i < n) : jDo a6 a7 1 m_J3_checkIndex_8e157 [.int i, .int n, x] (some (.int i)) := by
  have hsz : (lg_sl [.int i, .int n, x]).length ≤ 3 := by cases x <;> first | exact Nat.le_of_ble_eq_true rfl | cases hx
  refine jDo.intro (pcR := 17) (stR := [.int i]) mk_J3_checkIndex_8e157 hsz (Or.inr ⟨.int, i, rfl, rfl, dJ3_checkIndex_8e157_17, rfl, rfl⟩) ?_
  refine jR.iload 0 rfl rfl dJ3_checkIndex_8e157_0 ?_
  refine jR.if_ltF (tgt := 9) h0 dJ3_checkIndex_8e157_1 rfl ?_
  refine jR.iload 0 rfl rfl dJ3_checkIndex_8e157_4 ?_
  refine jR.iload 1 rfl rfl dJ3_checkIndex_8e157_5 ?_
  refine jR.icmp_ltT (tgt := 16) h1 dJ3_checkIndex_8e157_6 rfl ?_
  exact jR.iload 0 rfl rfl dJ3_checkIndex_8e157_16 jR.stop
theorem j_check (a6 a7 : Nat) {i n : Int32} (h0 : ¬ i < 0) (h1 : i < n) : jDo a6 a7 2 m_J0_checkIndex_df160 [.int i, .int n] none := by
  refine jDo.intro (pcR := 9) (stR := []) mk_J0_checkIndex_df160 (Nat.le_of_ble_eq_true rfl) (Or.inl ⟨rfl, dJ0_checkIndex_df160_9, rfl, rfl⟩) ?_
  refine jR.iload 0 rfl rfl dJ0_checkIndex_df160_0 ?_
  refine jR.iload 1 rfl rfl dJ0_checkIndex_df160_1 ?_
  refine jR.form rfl dJ0_checkIndex_df160_2 (fun x hx => ?_)
  refine jR.callS (As := [.int i, .int n, x]) (st := []) js_J3_checkIndex mk_J3_checkIndex_8e157 (by decide) rfl (by decide) dJ0_checkIndex_df160_5 (j_check3 a6 a7 hx h0 h1) ?_
  exact jR.pop rfl dJ0_checkIndex_df160_8 jR.stop
theorem kwB_ok : ∀ j : Nat, j < 134 → (kwB.getD j 0 &&& 255 = kwB.getD j 0 ∧ ((kwB.getD j 0).toUInt32 % 65536).toInt32 = kwB.getD j 0 ∧ narrow .char (.int (kwB.getD j 0)) = .int (kwB.getD j 0)) := by decide +kernel
theorem j_at1 (a6 a7 : Nat) {i : Int32} (h0 : ¬ i < 0) (h1 : i < 134) (hi : vp_in i 134) (hj : i.toNatClampNeg < 134) : jDo a6 a7 3 m_J1_charAt_3b067 [.ref a7, .int i] (some (.int (kwB.getD i.toNatClampNeg 0))) := by
  obtain ⟨k1, k2, k3⟩ := kwB_ok _ hj
  refine jDo.intro (pcR := 14) (stR := [.int (kwB.getD i.toNatClampNeg 0)]) mk_J1_charAt_3b067 (Nat.le_of_ble_eq_true rfl) (Or.inr ⟨.char, _, rfl, k3, dJ1_charAt_3b067_14, rfl, rfl⟩) ?_
  refine jR.iload 1 rfl rfl dJ1_charAt_3b067_0 ?_
  refine jR.aload 0 rfl rfl dJ1_charAt_3b067_1 ?_
  refine jR.alen dJ1_charAt_3b067_2 ?_
  refine jR.callS (As := [.int i, .int 134]) (st := []) js_J0_checkIndex mk_J0_checkIndex_df160 (by decide) rfl (by decide) dJ1_charAt_3b067_3 (j_check a6 a7 h0 h1) ?_
  refine jR.aload 0 rfl rfl dJ1_charAt_3b067_6 ?_
  refine jR.iload 1 rfl rfl dJ1_charAt_3b067_7 ?_
  refine jR.bald hi rfl dJ1_charAt_3b067_8 ?_
  refine jR.sipush (x := 255) rfl dJ1_charAt_3b067_9 ?_
  refine jR.iand k1 dJ1_charAt_3b067_12 ?_
  exact jR.i2c k2 dJ1_charAt_3b067_13 jR.stop
theorem j_charAt (a6 a7 : Nat) {i : Int32} (h0 : ¬ i < 0) (h1 : i < 134) (hi : vp_in i 134) (hj : i.toNatClampNeg < 134) : jDo a6 a7 4 m_J0_charAt_5068e [.ref a6, .int i] (some (.int (kwB.getD i.toNatClampNeg 0))) := by
  obtain ⟨k1, k2, k3⟩ := kwB_ok _ hj
  refine jDo.intro (pcR := 15) (stR := [.int (kwB.getD i.toNatClampNeg 0)]) mk_J0_charAt_5068e (Nat.le_of_ble_eq_true rfl) (Or.inr ⟨.char, _, rfl, k3, dJ0_charAt_5068e_15, rfl, rfl⟩) ?_
  refine jR.aload 0 rfl rfl dJ0_charAt_5068e_0 ?_
  refine jR.callV (As := []) (st := []) jv_J0_isLatin1 rfl mk_J0_isLatin1_aae02 (by decide) rfl (by decide) dJ0_charAt_5068e_1 (j_latin a6 a7) ?_
  refine jR.if_eqF (tgt := 16) (by decide) dJ0_charAt_5068e_4 rfl ?_
  refine jR.aload 0 rfl rfl dJ0_charAt_5068e_7 ?_
  refine jR.value rfl dJ0_charAt_5068e_8 ?_
  refine jR.iload 1 rfl rfl dJ0_charAt_5068e_11 ?_
  exact jR.callS (As := [.ref a7, .int i]) (st := []) js_J1_charAt mk_J1_charAt_3b067 (by decide) rfl (by decide) dJ0_charAt_5068e_12 (j_at1 a6 a7 h0 h1 hi hj) jR.stop
/-! a call of such a member from a constructor -/
section JI
variable {NN : zC → State → Method → Prop} {al : zAl} {d : Nat} {Y M : zMI} {sh : List zSh} {pc : Nat} {ls : List (Nat × zV)} {st st0 av : List zV} {σ : zG} {X : zX}
theorem zRi.ldcK (hY : Y.1.cls = RX5) (hd : decode Y.2.1 pc = .ok (.ldc 19, 2)) (h : zRi NN al d Y sh (pc + 2) ls (zT 6 :: st) σ X) : zRi NN al d Y sh pc ls st σ X := by
  intro p l e R s m args below meth c k cf sf Z hk hn hE hF hX H locs la hW hL hS
  exact va_ldcS hF.1.1 hF.1.2.1 (hY ▸ hF.1.2.2.2.1) hE.2.1 hd (h p l e R s m args below meth c k cf sf Z hk hn hE hF hX H locs la hW hL ⟨trivial, hS⟩)
theorem zRi.callJ {idx d' : Nat} {z : Int} {w : Int32} (cl : Cond.methodLink Y.1.cls idx M.1 ∈ gt ∧ Cond.instanceMethod M.1 ∈ gt ∧ Cond.selects M.1.cls M.1 M.1 ∈ gt) (hcls : M.1.cls = "java/lang/String") (hM : zMok M av.length) (hd' : d' + 1 ≤ d) (hst : st0 = av.reverse ++ zT 6 :: st) (hc : (st.map fun v => if zlong v then 2 else 1).sum ≤ 8) (hd : decode Y.2.1 pc = .ok (.invokevirtual idx, 3)) (hD : ∀ k : zC, jDo (k.2.1 6) (k.2.1 7) d' M (.ref (k.2.1 6) :: av.map (tv k)) (some (.int w))) (hw : iv z = w) (hz : r32 z) (h : zRi NN al d Y sh (pc + 3) ls (.inl z :: st) σ X) : zRi NN al d Y sh pc ls st0 σ X := by
  intro p l e R s m args below meth c k cf sf Z hk hn hE hF hX H locs la hW hL hS
  subst hst
  subst hw
  obtain ⟨r1, r2⟩ := rL_app hS
  obtain ⟨m1, m2, m3, m4, m5, m6, m7⟩ := hM
  obtain ⟨g1, g2, g3⟩ := cl
  have hts := hF.1.2.2.2.2
  have hcb := callB_of (R := R) (rm := zroom d' 0 0) (mc := 0) (ms := 0) (ws' := gt) av.length hts (gt_goodIn m1) rfl rfl rfl (hts _ m7) (hts _ g1) ⟨m3, m4, m5⟩ (zRoom hF.2.2.1 hF.2.2.2.1 hd' m6)
  have hrecv := vk_recv (i := 0) hE.2.2.1 (by decide) hW.2.1
  rw [← hcls] at hrecv
  intro T0 hT0 X0
  obtain ⟨v9, st₀, t, T', L, h0, X', hLo, e1, e2, ⟨hq, hFr⟩, stp⟩ := va_runV (C := M.1.cls) (b := k.2.1 6) (As := av.map (tv k)) (H := H) (locs := locs) (cells := cf sh.length) (slots := sf (szs sh)) (g := F0 m pc la ((av.reverse ++ zT 6 :: st).map (tv k))) (rest := st.map (tv k)) (below := below) (meth := meth) (e := e) hF.1 (hD k l) ⟨hcb, hts _ g2, hts _ g3⟩ ⟨jblind, hrecv, fun U hU hw => ⟨rfl, (zE.warm hw (by rw [hU]; exact hW.2.1.2.1) hE).j⟩⟩ rfl (by simp) hL.1.1 (by simp [tv]) (lv_room (by rw [zcat_sum]; exact hc)) hd hW.2.2.2.1 T0 hT0 X0
  cases hq
  have hkeep : ∀ a, a < H.size → T'.heap[a]? = H[a]? := fun a h1 => by rw [e1, hFr.2 a (by rw [h0]; exact h1) (fun z => z), h0]
  have hS1 : va_S (zA k) s.heap T'.heap (locs ++ L) := by
    refine ⟨?_, fun a h1 h2 => ?_, fun a ha => ?_⟩
    · rw [e1]; exact Nat.le_trans hW.2.1.1 (by rw [← h0]; exact hFr.1)
    · rw [hkeep a (Nat.lt_of_lt_of_le h1 hW.2.1.1)]; exact hW.2.1.2.1 a h1 h2
    · rcases List.mem_append.mp ha with h | h
      · exact hW.2.1.2.2 a h
      · exact (hLo a h).elim
  obtain ⟨t2, c1, c2⟩ := h p l e R s m args below meth c k cf sf Z hk hn hE hF hX T'.heap (locs ++ L) la ⟨hW.1.kept (fun i y hy => hkeep y.1 (hW.1 i y hy).lt), hS1, hW.2.2⟩ hL ⟨hz, r2.2⟩ T' rfl X'
  exact ⟨t2, stp t2 c1, c2⟩
end JI
