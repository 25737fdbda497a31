/-! the ledger, the rest -/
/-- a row filled -/
def zfl (σ : zG) (a : Nat) (n v : Int) : zG := fun k i => if k = a then (if 0 ≤ i ∧ i < n then v else σ k i) else σ k i
theorem fr_zfl (σ : zG) (a : Nat) (n v : Int) {k : Nat} (h : k ∉ [a]) : zfl σ a n v k = σ k := by
  funext i
  unfold zfl
  rw [if_neg (by simpa using h)]
theorem zfl_at (σ : zG) (a : Nat) (n v i : Int) : zfl σ a n v a i = if 0 ≤ i ∧ i < n then v else σ a i := by simp [zfl]
theorem zfl_0 (σ : zG) (a : Nat) (v : Int) : zfl σ a 0 v = σ := by
  funext k i
  unfold zfl
  split
  · rw [if_neg (by omega)]
  · rfl
theorem zfl_step (σ : zG) (a : Nat) (n v : Int) (hn : 0 ≤ n) : zu (zfl σ a n v) a n v = zfl σ a (n + 1) v := by
  funext k i
  unfold zu zfl
  by_cases hk : k = a
  · simp only [hk, if_true]
    by_cases hi : i = n
    · subst hi
      rw [if_pos rfl, if_pos (by omega)]
    · rw [if_neg hi]
      by_cases h2 : 0 ≤ i ∧ i < n
      · rw [if_pos h2, if_pos (by omega)]
      · rw [if_neg h2, if_neg (by omega)]
  · simp only [hk, if_false]
set_option maxRecDepth 20000 in
theorem loop_fill (sh : List zSh) (a : Nat) (n0 : Nat) (v : Int) (σ : zG) (hs : sh[a]? = some (.inl (0, n0))) (hn : n0 < 2147483648) : ∀ (n : Nat) (i : Int), 0 ≤ i → i ≤ n0 → ((n0 : Int) - i).toNat < n → zR sh 0 m_J7_fill_53178 5 [(0, zP a), (1, .inl v), (2, .inl i), (3, .inl (n0 : Int))] [] (zfl σ a i v) (zEq none (zfl σ a n0 v)) := by
  intro n
  induction n with
  | zero => intro i h0 h1 hm; exact absurd hm (Nat.not_lt_zero _)
  | succ n ih =>
    intro i h0 h1 hm
    refine zRx.iload_n 2 rfl rfl dJ7_fill_53178_5 ?_
    refine zRx.iload_n 3 rfl rfl dJ7_fill_53178_6 ?_
    refine zRx.icmp_ge (tgt := 20) dJ7_fill_53178_7 (by decide) (fun c => ?_) (fun c => ?_)
    · exact zR.ret rfl dJ7_fill_53178_20 ⟨rfl, by rw [show i = (n0 : Int) by omega]⟩
    · refine zRx.aload_n 0 rfl rfl dJ7_fill_53178_10 ?_
      refine zRx.iload_n 2 rfl rfl dJ7_fill_53178_11 ?_
      refine zRx.iload_n 1 rfl rfl dJ7_fill_53178_12 ?_
      refine zRx.iast hs h0 c dJ7_fill_53178_13 ?_
      rw [zfl_step σ a i v h0]
      refine zRx.iinc (n := 1) (ls' := [(0, zP a), (1, .inl v), (2, .inl (i + 1)), (3, .inl (n0 : Int))]) 2 rfl ⟨by omega, by omega⟩ rfl (by decide) dJ7_fill_53178_14 ?_
      refine zRx.goto (tgt := 5) dJ7_fill_53178_17 (by decide) ?_
      exact ih (i + 1) (by omega) (by omega) (by omega)
set_option maxRecDepth 20000 in
theorem does_fill (sh : List zSh) (a : Nat) (n0 : Nat) (v : Int) (σ : zG) (hs : sh[a]? = some (.inl (0, n0))) (hn : n0 < 2147483648) : zDo sh 0 m_J7_fill_53178 [zP a, .inl v] σ (zEq none (zfl σ a n0 v)) := by
  refine zDo.intro mk_J7_fill_53178 (Nat.le_of_ble_eq_true rfl) ?_
  refine zRx.iconst ⟨by decide, by decide⟩ dJ7_fill_53178_0 ?_
  refine zRx.istore_n (ls' := [(0, zP a), (1, .inl v), (2, .inl 0)]) rfl rfl (by decide) dJ7_fill_53178_1 ?_
  refine zRx.aload_n 0 rfl rfl dJ7_fill_53178_2 ?_
  refine zRx.alen hs (by decide) hn dJ7_fill_53178_3 ?_
  refine zRx.istore_n (ls' := [(0, zP a), (1, .inl v), (2, .inl 0), (3, .inl (n0 : Int))]) rfl rfl (by decide) dJ7_fill_53178_4 ?_
  have h := loop_fill sh a n0 v σ hs hn (n0 + 1) 0 (by omega) (by omega) (by omega)
  rw [zfl_0] at h
  exact h
set_option maxRecDepth 20000 in
theorem loop_fillJ (sh : List zSh) (a : Nat) (n0 : Nat) (v : Int) (σ : zG) (hs : sh[a]? = some (.inl (1, n0))) (hn : n0 < 2147483648) : ∀ (n : Nat) (i : Int), 0 ≤ i → i ≤ n0 → ((n0 : Int) - i).toNat < n → zR sh 0 m_J7_fill_d0a16 6 [(0, zP a), (1, zJ v), (3, .inl i), (4, .inl (n0 : Int))] [] (zfl σ a i v) (zEq none (zfl σ a n0 v)) := by
  intro n
  induction n with
  | zero => intro i h0 h1 hm; exact absurd hm (Nat.not_lt_zero _)
  | succ n ih =>
    intro i h0 h1 hm
    refine zRx.iload_n 2 rfl rfl dJ7_fill_d0a16_6 ?_
    refine zRx.iload 3 rfl dJ7_fill_d0a16_7 ?_
    refine zRx.icmp_ge (tgt := 22) dJ7_fill_d0a16_9 (by decide) (fun c => ?_) (fun c => ?_)
    · exact zR.ret rfl dJ7_fill_d0a16_22 ⟨rfl, by rw [show i = (n0 : Int) by omega]⟩
    · refine zRx.aload_n 0 rfl rfl dJ7_fill_d0a16_12 ?_
      refine zRx.iload_n 2 rfl rfl dJ7_fill_d0a16_13 ?_
      refine zRx.lload_n 1 rfl rfl dJ7_fill_d0a16_14 ?_
      refine zRx.last hs h0 c dJ7_fill_d0a16_15 ?_
      rw [zfl_step σ a i v h0]
      refine zRx.iinc (n := 1) (ls' := [(0, zP a), (1, zJ v), (3, .inl (i + 1)), (4, .inl (n0 : Int))]) 2 rfl ⟨by omega, by omega⟩ rfl (by decide) dJ7_fill_d0a16_16 ?_
      refine zRx.goto (tgt := 6) dJ7_fill_d0a16_19 (by decide) ?_
      exact ih (i + 1) (by omega) (by omega) (by omega)
set_option maxRecDepth 20000 in
theorem does_fillJ (sh : List zSh) (a : Nat) (n0 : Nat) (v : Int) (σ : zG) (hs : sh[a]? = some (.inl (1, n0))) (hn : n0 < 2147483648) : zDo sh 0 m_J7_fill_d0a16 [zP a, zJ v] σ (zEq none (zfl σ a n0 v)) := by
  refine zDo.intro mk_J7_fill_d0a16 (Nat.le_of_ble_eq_true rfl) ?_
  refine zRx.iconst ⟨by decide, by decide⟩ dJ7_fill_d0a16_0 ?_
  refine zRx.istore_n (ls' := [(0, zP a), (1, zJ v), (3, .inl 0)]) rfl rfl (by decide) dJ7_fill_d0a16_1 ?_
  refine zRx.aload_n 0 rfl rfl dJ7_fill_d0a16_2 ?_
  refine zRx.alen hs (by decide) hn dJ7_fill_d0a16_3 ?_
  refine zRx.istore (ls' := [(0, zP a), (1, zJ v), (3, .inl 0), (4, .inl (n0 : Int))]) rfl (by decide) dJ7_fill_d0a16_4 ?_
  have h := loop_fillJ sh a n0 v σ hs hn (n0 + 1) 0 (by omega) (by omega) (by omega)
  rw [zfl_0] at h
  exact h

def bcnt (x : Int) : Int := band (w32 ((w32 ((band (w32 ((w32 ((band (w32 (x - (band (bushr x 1) 1431655765))) 858993459) + (band (bushr (w32 (x - (band (bushr x 1) 1431655765))) 2) 858993459))) + (bushr (w32 ((band (w32 (x - (band (bushr x 1) 1431655765))) 858993459) + (band (bushr (w32 (x - (band (bushr x 1) 1431655765))) 2) 858993459))) 4))) 252645135) + (bushr (band (w32 ((w32 ((band (w32 (x - (band (bushr x 1) 1431655765))) 858993459) + (band (bushr (w32 (x - (band (bushr x 1) 1431655765))) 2) 858993459))) + (bushr (w32 ((band (w32 (x - (band (bushr x 1) 1431655765))) 858993459) + (band (bushr (w32 (x - (band (bushr x 1) 1431655765))) 2) 858993459))) 4))) 252645135) 8))) + (bushr (w32 ((band (w32 ((w32 ((band (w32 (x - (band (bushr x 1) 1431655765))) 858993459) + (band (bushr (w32 (x - (band (bushr x 1) 1431655765))) 2) 858993459))) + (bushr (w32 ((band (w32 (x - (band (bushr x 1) 1431655765))) 858993459) + (band (bushr (w32 (x - (band (bushr x 1) 1431655765))) 2) 858993459))) 4))) 252645135) + (bushr (band (w32 ((w32 ((band (w32 (x - (band (bushr x 1) 1431655765))) 858993459) + (band (bushr (w32 (x - (band (bushr x 1) 1431655765))) 2) 858993459))) + (bushr (w32 ((band (w32 (x - (band (bushr x 1) 1431655765))) 858993459) + (band (bushr (w32 (x - (band (bushr x 1) 1431655765))) 2) 858993459))) 4))) 252645135) 8))) 16))) 63
set_option maxRecDepth 20000 in
theorem does_bitCount (σ : zG) (x : Int) (sh : List zSh) : zDo sh 0 m_J6_bitCount_0f7a4 [.inl x] σ (zEq (some (.inl (bcnt x))) σ) := by
  refine zDo.intro mk_J6_bitCount_0f7a4 (Nat.le_of_ble_eq_true rfl) ?_
  refine zRx.iload_n 0 rfl rfl dJ6_bitCount_0f7a4_0 ?_
  refine zRx.iload_n 0 rfl rfl dJ6_bitCount_0f7a4_1 ?_
  refine zRx.iconst ⟨by decide, by decide⟩ dJ6_bitCount_0f7a4_2 ?_
  refine zRx.iushr dJ6_bitCount_0f7a4_3 ?_
  refine zRx.ldcw ⟨by decide, by decide⟩ kc_J6_265 dJ6_bitCount_0f7a4_4 ?_
  refine zRx.iand dJ6_bitCount_0f7a4_7 ?_
  refine zRx.isubW dJ6_bitCount_0f7a4_8 ?_
  refine zRx.istore_n (ls' := [(0, .inl (w32 (x - (band (bushr x 1) 1431655765))))]) rfl rfl (by decide) dJ6_bitCount_0f7a4_9 ?_
  refine zRx.iload_n 0 rfl rfl dJ6_bitCount_0f7a4_10 ?_
  refine zRx.ldcw ⟨by decide, by decide⟩ kc_J6_266 dJ6_bitCount_0f7a4_11 ?_
  refine zRx.iand dJ6_bitCount_0f7a4_14 ?_
  refine zRx.iload_n 0 rfl rfl dJ6_bitCount_0f7a4_15 ?_
  refine zRx.iconst ⟨by decide, by decide⟩ dJ6_bitCount_0f7a4_16 ?_
  refine zRx.iushr dJ6_bitCount_0f7a4_17 ?_
  refine zRx.ldcw ⟨by decide, by decide⟩ kc_J6_266 dJ6_bitCount_0f7a4_18 ?_
  refine zRx.iand dJ6_bitCount_0f7a4_21 ?_
  refine zRx.iaddW dJ6_bitCount_0f7a4_22 ?_
  refine zRx.istore_n (ls' := [(0, .inl (w32 ((band (w32 (x - (band (bushr x 1) 1431655765))) 858993459) + (band (bushr (w32 (x - (band (bushr x 1) 1431655765))) 2) 858993459))))]) rfl rfl (by decide) dJ6_bitCount_0f7a4_23 ?_
  refine zRx.iload_n 0 rfl rfl dJ6_bitCount_0f7a4_24 ?_
  refine zRx.iload_n 0 rfl rfl dJ6_bitCount_0f7a4_25 ?_
  refine zRx.iconst ⟨by decide, by decide⟩ dJ6_bitCount_0f7a4_26 ?_
  refine zRx.iushr dJ6_bitCount_0f7a4_27 ?_
  refine zRx.iaddW dJ6_bitCount_0f7a4_28 ?_
  refine zRx.ldcw ⟨by decide, by decide⟩ kc_J6_267 dJ6_bitCount_0f7a4_29 ?_
  refine zRx.iand dJ6_bitCount_0f7a4_32 ?_
  refine zRx.istore_n (ls' := [(0, .inl (band (w32 ((w32 ((band (w32 (x - (band (bushr x 1) 1431655765))) 858993459) + (band (bushr (w32 (x - (band (bushr x 1) 1431655765))) 2) 858993459))) + (bushr (w32 ((band (w32 (x - (band (bushr x 1) 1431655765))) 858993459) + (band (bushr (w32 (x - (band (bushr x 1) 1431655765))) 2) 858993459))) 4))) 252645135))]) rfl rfl (by decide) dJ6_bitCount_0f7a4_33 ?_
  refine zRx.iload_n 0 rfl rfl dJ6_bitCount_0f7a4_34 ?_
  refine zRx.iload_n 0 rfl rfl dJ6_bitCount_0f7a4_35 ?_
  refine zRx.bipush ⟨by decide, by decide⟩ rfl dJ6_bitCount_0f7a4_36 ?_
  refine zRx.iushr dJ6_bitCount_0f7a4_38 ?_
  refine zRx.iaddW dJ6_bitCount_0f7a4_39 ?_
  refine zRx.istore_n (ls' := [(0, .inl (w32 ((band (w32 ((w32 ((band (w32 (x - (band (bushr x 1) 1431655765))) 858993459) + (band (bushr (w32 (x - (band (bushr x 1) 1431655765))) 2) 858993459))) + (bushr (w32 ((band (w32 (x - (band (bushr x 1) 1431655765))) 858993459) + (band (bushr (w32 (x - (band (bushr x 1) 1431655765))) 2) 858993459))) 4))) 252645135) + (bushr (band (w32 ((w32 ((band (w32 (x - (band (bushr x 1) 1431655765))) 858993459) + (band (bushr (w32 (x - (band (bushr x 1) 1431655765))) 2) 858993459))) + (bushr (w32 ((band (w32 (x - (band (bushr x 1) 1431655765))) 858993459) + (band (bushr (w32 (x - (band (bushr x 1) 1431655765))) 2) 858993459))) 4))) 252645135) 8))))]) rfl rfl (by decide) dJ6_bitCount_0f7a4_40 ?_
  refine zRx.iload_n 0 rfl rfl dJ6_bitCount_0f7a4_41 ?_
  refine zRx.iload_n 0 rfl rfl dJ6_bitCount_0f7a4_42 ?_
  refine zRx.bipush ⟨by decide, by decide⟩ rfl dJ6_bitCount_0f7a4_43 ?_
  refine zRx.iushr dJ6_bitCount_0f7a4_45 ?_
  refine zRx.iaddW dJ6_bitCount_0f7a4_46 ?_
  refine zRx.istore_n (ls' := [(0, .inl (w32 ((w32 ((band (w32 ((w32 ((band (w32 (x - (band (bushr x 1) 1431655765))) 858993459) + (band (bushr (w32 (x - (band (bushr x 1) 1431655765))) 2) 858993459))) + (bushr (w32 ((band (w32 (x - (band (bushr x 1) 1431655765))) 858993459) + (band (bushr (w32 (x - (band (bushr x 1) 1431655765))) 2) 858993459))) 4))) 252645135) + (bushr (band (w32 ((w32 ((band (w32 (x - (band (bushr x 1) 1431655765))) 858993459) + (band (bushr (w32 (x - (band (bushr x 1) 1431655765))) 2) 858993459))) + (bushr (w32 ((band (w32 (x - (band (bushr x 1) 1431655765))) 858993459) + (band (bushr (w32 (x - (band (bushr x 1) 1431655765))) 2) 858993459))) 4))) 252645135) 8))) + (bushr (w32 ((band (w32 ((w32 ((band (w32 (x - (band (bushr x 1) 1431655765))) 858993459) + (band (bushr (w32 (x - (band (bushr x 1) 1431655765))) 2) 858993459))) + (bushr (w32 ((band (w32 (x - (band (bushr x 1) 1431655765))) 858993459) + (band (bushr (w32 (x - (band (bushr x 1) 1431655765))) 2) 858993459))) 4))) 252645135) + (bushr (band (w32 ((w32 ((band (w32 (x - (band (bushr x 1) 1431655765))) 858993459) + (band (bushr (w32 (x - (band (bushr x 1) 1431655765))) 2) 858993459))) + (bushr (w32 ((band (w32 (x - (band (bushr x 1) 1431655765))) 858993459) + (band (bushr (w32 (x - (band (bushr x 1) 1431655765))) 2) 858993459))) 4))) 252645135) 8))) 16))))]) rfl rfl (by decide) dJ6_bitCount_0f7a4_47 ?_
  refine zRx.iload_n 0 rfl rfl dJ6_bitCount_0f7a4_48 ?_
  refine zRx.bipush ⟨by decide, by decide⟩ rfl dJ6_bitCount_0f7a4_49 ?_
  refine zRx.iand dJ6_bitCount_0f7a4_51 ?_
  exact zR.iret rfl dJ6_bitCount_0f7a4_52 ⟨rfl, rfl⟩

