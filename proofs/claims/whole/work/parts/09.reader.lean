/-! the reader of tokens -/
def plc (f : Int → Int) (code many len : Int) : Nat → Int → Int
  | 0, _ => 0
  | n + 1, i => if many ≤ i then -1 else (if len ≤ i then -1 else (if f i = code then i else plc f code many len n (i + 1)))
theorem plc_r {f : Int → Int} {code many len : Int} : ∀ (n : Nat) (i : Int), 0 ≤ i → -1 ≤ plc f code many len n i ∧ plc f code many len n i < max 1 len
  | 0, i, h => by simp only [plc]; omega
  | n + 1, i, h => by
    simp only [plc]
    split
    · omega
    · split
      · omega
      · split
        · omega
        · exact plc_r n (i + 1) (by omega)

set_option maxRecDepth 20000 in
theorem loop_X11_placeOf_2_4 (σ : zG) (code many : Int)  : ∀ (n : Nat) (i : Int) , 0 ≤ i → (26 - i).toNat < n → zR SC 0 m_X11_placeOf 2 [(0, .inl code), (1, zP 4), (2, .inl many), (3, .inl i)] [] σ (zEq (some (.inl (plc (σ 4) code many 26 n i))) σ) := by
  intro n
  induction n with
  | zero => intro i  h0 hmz; exact absurd hmz (Nat.not_lt_zero _)
  | succ n ih =>
    intro i  h0 hmz
    refine zRx.iload_n 3 rfl rfl dX11_placeOf_2 ?_
    refine zRx.iload_n 2 rfl rfl dX11_placeOf_3 ?_
    refine zRx.icmp_ge (tgt := 28) dX11_placeOf_4 (by decide) (fun c4 => ?_) (fun c4 => ?_)
    · refine zRx.iconst ⟨by decide, by decide⟩ dX11_placeOf_28 ?_
      exact zR.iret rfl dX11_placeOf_29 (by have he : plc (σ 4) code many 26 (n + 1) i = (-1) := (by rw [plc, if_pos c4]); rw [he]; exact ⟨rfl, rfl⟩)
    · refine zRx.iload_n 3 rfl rfl dX11_placeOf_7 ?_
      refine zRx.aload_n 1 rfl rfl dX11_placeOf_8 ?_
      refine zRx.alen (n := 26) rfl (by decide) (by decide) dX11_placeOf_9 ?_
      refine zRx.topI (b := 26) rfl ?_
      refine zRx.icmp_ge (tgt := 28) dX11_placeOf_10 (by decide) (fun c10 => ?_) (fun c10 => ?_)
      · refine zRx.iconst ⟨by decide, by decide⟩ dX11_placeOf_28 ?_
        exact zR.iret rfl dX11_placeOf_29 (by have he : plc (σ 4) code many 26 (n + 1) i = (-1) := (by rw [plc, if_neg (Int.not_le.mpr c4), if_pos c10]); rw [he]; exact ⟨rfl, rfl⟩)
      · refine zRx.aload_n 1 rfl rfl dX11_placeOf_13 ?_
        refine zRx.iload_n 3 rfl rfl dX11_placeOf_14 ?_
        refine zRx.ialdv (v := σ 4 i) rfl rfl (by omega) (by omega) dX11_placeOf_15 ?_
        refine zRx.iload_n 0 rfl rfl dX11_placeOf_16 ?_
        refine zRx.icmp_ne (tgt := 22) dX11_placeOf_17 (by decide) (fun c17 => ?_) (fun c17 => ?_)
        · refine zRx.iinc (n := 1) (ls' := [(0, .inl code), (1, zP 4), (2, .inl many), (3, .inl (i + 1))]) 3 rfl ⟨by omega, by omega⟩ rfl (by decide) dX11_placeOf_22 ?_
          refine zRx.goto (tgt := 2) dX11_placeOf_25 (by decide) ?_
          have he : plc (σ 4) code many 26 (n + 1) i = plc (σ 4) code many 26 n (i + 1) := by rw [plc, if_neg (Int.not_le.mpr c4), if_neg (Int.not_le.mpr c10), if_neg c17]
          rw [he]
          exact ih (i + 1)  (by omega) (by omega)
        · refine zRx.iload_n 3 rfl rfl dX11_placeOf_20 ?_
          exact zR.iret rfl dX11_placeOf_21 (by have he : plc (σ 4) code many 26 (n + 1) i = i := (by rw [plc, if_neg (Int.not_le.mpr c4), if_neg (Int.not_le.mpr c10), if_pos c17]); rw [he]; exact ⟨rfl, rfl⟩)
def R_X11_placeOf_4 (σ : zG) (code many : Int) : Int := plc (σ 4) code many 26 30 0
set_option maxRecDepth 20000 in
theorem does_X11_placeOf_4 (σ : zG) (code many : Int)   : zDo SC 0 m_X11_placeOf [.inl code, zP 4, .inl many] σ (zEq (some (.inl (R_X11_placeOf_4 σ code many))) σ) := by
  refine zDo.intro mk_X11_placeOf (Nat.le_of_ble_eq_true rfl) ?_
  refine zRx.iconst ⟨by decide, by decide⟩ dX11_placeOf_0 ?_
  refine zRx.istore_n (ls' := [(0, .inl code), (1, zP 4), (2, .inl many), (3, .inl 0)]) rfl rfl (by decide) dX11_placeOf_1 ?_
  have he : R_X11_placeOf_4 σ code many = plc (σ 4) code many 26 30 0 := by rw [R_X11_placeOf_4]
  rw [he]
  exact loop_X11_placeOf_2_4 σ code many   30 0  (by decide) (by decide)

set_option maxRecDepth 20000 in
theorem loop_X11_placeOf_2_6 (σ : zG) (code many : Int)  : ∀ (n : Nat) (i : Int) , 0 ≤ i → (8 - i).toNat < n → zR SC 0 m_X11_placeOf 2 [(0, .inl code), (1, zP 6), (2, .inl many), (3, .inl i)] [] σ (zEq (some (.inl (plc (σ 6) code many 8 n i))) σ) := by
  intro n
  induction n with
  | zero => intro i  h0 hmz; exact absurd hmz (Nat.not_lt_zero _)
  | succ n ih =>
    intro i  h0 hmz
    refine zRx.iload_n 3 rfl rfl dX11_placeOf_2 ?_
    refine zRx.iload_n 2 rfl rfl dX11_placeOf_3 ?_
    refine zRx.icmp_ge (tgt := 28) dX11_placeOf_4 (by decide) (fun c4 => ?_) (fun c4 => ?_)
    · refine zRx.iconst ⟨by decide, by decide⟩ dX11_placeOf_28 ?_
      exact zR.iret rfl dX11_placeOf_29 (by have he : plc (σ 6) code many 8 (n + 1) i = (-1) := (by rw [plc, if_pos c4]); rw [he]; exact ⟨rfl, rfl⟩)
    · refine zRx.iload_n 3 rfl rfl dX11_placeOf_7 ?_
      refine zRx.aload_n 1 rfl rfl dX11_placeOf_8 ?_
      refine zRx.alen (n := 8) rfl (by decide) (by decide) dX11_placeOf_9 ?_
      refine zRx.topI (b := 8) rfl ?_
      refine zRx.icmp_ge (tgt := 28) dX11_placeOf_10 (by decide) (fun c10 => ?_) (fun c10 => ?_)
      · refine zRx.iconst ⟨by decide, by decide⟩ dX11_placeOf_28 ?_
        exact zR.iret rfl dX11_placeOf_29 (by have he : plc (σ 6) code many 8 (n + 1) i = (-1) := (by rw [plc, if_neg (Int.not_le.mpr c4), if_pos c10]); rw [he]; exact ⟨rfl, rfl⟩)
      · refine zRx.aload_n 1 rfl rfl dX11_placeOf_13 ?_
        refine zRx.iload_n 3 rfl rfl dX11_placeOf_14 ?_
        refine zRx.ialdv (v := σ 6 i) rfl rfl (by omega) (by omega) dX11_placeOf_15 ?_
        refine zRx.iload_n 0 rfl rfl dX11_placeOf_16 ?_
        refine zRx.icmp_ne (tgt := 22) dX11_placeOf_17 (by decide) (fun c17 => ?_) (fun c17 => ?_)
        · refine zRx.iinc (n := 1) (ls' := [(0, .inl code), (1, zP 6), (2, .inl many), (3, .inl (i + 1))]) 3 rfl ⟨by omega, by omega⟩ rfl (by decide) dX11_placeOf_22 ?_
          refine zRx.goto (tgt := 2) dX11_placeOf_25 (by decide) ?_
          have he : plc (σ 6) code many 8 (n + 1) i = plc (σ 6) code many 8 n (i + 1) := by rw [plc, if_neg (Int.not_le.mpr c4), if_neg (Int.not_le.mpr c10), if_neg c17]
          rw [he]
          exact ih (i + 1)  (by omega) (by omega)
        · refine zRx.iload_n 3 rfl rfl dX11_placeOf_20 ?_
          exact zR.iret rfl dX11_placeOf_21 (by have he : plc (σ 6) code many 8 (n + 1) i = i := (by rw [plc, if_neg (Int.not_le.mpr c4), if_neg (Int.not_le.mpr c10), if_pos c17]); rw [he]; exact ⟨rfl, rfl⟩)
def R_X11_placeOf_6 (σ : zG) (code many : Int) : Int := plc (σ 6) code many 8 30 0
set_option maxRecDepth 20000 in
theorem does_X11_placeOf_6 (σ : zG) (code many : Int)   : zDo SC 0 m_X11_placeOf [.inl code, zP 6, .inl many] σ (zEq (some (.inl (R_X11_placeOf_6 σ code many))) σ) := by
  refine zDo.intro mk_X11_placeOf (Nat.le_of_ble_eq_true rfl) ?_
  refine zRx.iconst ⟨by decide, by decide⟩ dX11_placeOf_0 ?_
  refine zRx.istore_n (ls' := [(0, .inl code), (1, zP 6), (2, .inl many), (3, .inl 0)]) rfl rfl (by decide) dX11_placeOf_1 ?_
  have he : R_X11_placeOf_6 σ code many = plc (σ 6) code many 8 30 0 := by rw [R_X11_placeOf_6]
  rw [he]
  exact loop_X11_placeOf_2_6 σ code many   30 0  (by decide) (by decide)

set_option maxRecDepth 20000 in
theorem loop_X11_placeOf_2_8 (σ : zG) (code many : Int)  : ∀ (n : Nat) (i : Int) , 0 ≤ i → (12 - i).toNat < n → zR SC 0 m_X11_placeOf 2 [(0, .inl code), (1, zP 8), (2, .inl many), (3, .inl i)] [] σ (zEq (some (.inl (plc (σ 8) code many 12 n i))) σ) := by
  intro n
  induction n with
  | zero => intro i  h0 hmz; exact absurd hmz (Nat.not_lt_zero _)
  | succ n ih =>
    intro i  h0 hmz
    refine zRx.iload_n 3 rfl rfl dX11_placeOf_2 ?_
    refine zRx.iload_n 2 rfl rfl dX11_placeOf_3 ?_
    refine zRx.icmp_ge (tgt := 28) dX11_placeOf_4 (by decide) (fun c4 => ?_) (fun c4 => ?_)
    · refine zRx.iconst ⟨by decide, by decide⟩ dX11_placeOf_28 ?_
      exact zR.iret rfl dX11_placeOf_29 (by have he : plc (σ 8) code many 12 (n + 1) i = (-1) := (by rw [plc, if_pos c4]); rw [he]; exact ⟨rfl, rfl⟩)
    · refine zRx.iload_n 3 rfl rfl dX11_placeOf_7 ?_
      refine zRx.aload_n 1 rfl rfl dX11_placeOf_8 ?_
      refine zRx.alen (n := 12) rfl (by decide) (by decide) dX11_placeOf_9 ?_
      refine zRx.topI (b := 12) rfl ?_
      refine zRx.icmp_ge (tgt := 28) dX11_placeOf_10 (by decide) (fun c10 => ?_) (fun c10 => ?_)
      · refine zRx.iconst ⟨by decide, by decide⟩ dX11_placeOf_28 ?_
        exact zR.iret rfl dX11_placeOf_29 (by have he : plc (σ 8) code many 12 (n + 1) i = (-1) := (by rw [plc, if_neg (Int.not_le.mpr c4), if_pos c10]); rw [he]; exact ⟨rfl, rfl⟩)
      · refine zRx.aload_n 1 rfl rfl dX11_placeOf_13 ?_
        refine zRx.iload_n 3 rfl rfl dX11_placeOf_14 ?_
        refine zRx.ialdv (v := σ 8 i) rfl rfl (by omega) (by omega) dX11_placeOf_15 ?_
        refine zRx.iload_n 0 rfl rfl dX11_placeOf_16 ?_
        refine zRx.icmp_ne (tgt := 22) dX11_placeOf_17 (by decide) (fun c17 => ?_) (fun c17 => ?_)
        · refine zRx.iinc (n := 1) (ls' := [(0, .inl code), (1, zP 8), (2, .inl many), (3, .inl (i + 1))]) 3 rfl ⟨by omega, by omega⟩ rfl (by decide) dX11_placeOf_22 ?_
          refine zRx.goto (tgt := 2) dX11_placeOf_25 (by decide) ?_
          have he : plc (σ 8) code many 12 (n + 1) i = plc (σ 8) code many 12 n (i + 1) := by rw [plc, if_neg (Int.not_le.mpr c4), if_neg (Int.not_le.mpr c10), if_neg c17]
          rw [he]
          exact ih (i + 1)  (by omega) (by omega)
        · refine zRx.iload_n 3 rfl rfl dX11_placeOf_20 ?_
          exact zR.iret rfl dX11_placeOf_21 (by have he : plc (σ 8) code many 12 (n + 1) i = i := (by rw [plc, if_neg (Int.not_le.mpr c4), if_neg (Int.not_le.mpr c10), if_pos c17]); rw [he]; exact ⟨rfl, rfl⟩)
def R_X11_placeOf_8 (σ : zG) (code many : Int) : Int := plc (σ 8) code many 12 30 0
set_option maxRecDepth 20000 in
theorem does_X11_placeOf_8 (σ : zG) (code many : Int)   : zDo SC 0 m_X11_placeOf [.inl code, zP 8, .inl many] σ (zEq (some (.inl (R_X11_placeOf_8 σ code many))) σ) := by
  refine zDo.intro mk_X11_placeOf (Nat.le_of_ble_eq_true rfl) ?_
  refine zRx.iconst ⟨by decide, by decide⟩ dX11_placeOf_0 ?_
  refine zRx.istore_n (ls' := [(0, .inl code), (1, zP 8), (2, .inl many), (3, .inl 0)]) rfl rfl (by decide) dX11_placeOf_1 ?_
  have he : R_X11_placeOf_8 σ code many = plc (σ 8) code many 12 30 0 := by rw [R_X11_placeOf_8]
  rw [he]
  exact loop_X11_placeOf_2_8 σ code many   30 0  (by decide) (by decide)

set_option maxRecDepth 20000 in
theorem loop_X11_placeOf_2_17 (σ : zG) (code many : Int)  : ∀ (n : Nat) (i : Int) , 0 ≤ i → (8 - i).toNat < n → zR SC 0 m_X11_placeOf 2 [(0, .inl code), (1, zP 17), (2, .inl many), (3, .inl i)] [] σ (zEq (some (.inl (plc (σ 17) code many 8 n i))) σ) := by
  intro n
  induction n with
  | zero => intro i  h0 hmz; exact absurd hmz (Nat.not_lt_zero _)
  | succ n ih =>
    intro i  h0 hmz
    refine zRx.iload_n 3 rfl rfl dX11_placeOf_2 ?_
    refine zRx.iload_n 2 rfl rfl dX11_placeOf_3 ?_
    refine zRx.icmp_ge (tgt := 28) dX11_placeOf_4 (by decide) (fun c4 => ?_) (fun c4 => ?_)
    · refine zRx.iconst ⟨by decide, by decide⟩ dX11_placeOf_28 ?_
      exact zR.iret rfl dX11_placeOf_29 (by have he : plc (σ 17) code many 8 (n + 1) i = (-1) := (by rw [plc, if_pos c4]); rw [he]; exact ⟨rfl, rfl⟩)
    · refine zRx.iload_n 3 rfl rfl dX11_placeOf_7 ?_
      refine zRx.aload_n 1 rfl rfl dX11_placeOf_8 ?_
      refine zRx.alen (n := 8) rfl (by decide) (by decide) dX11_placeOf_9 ?_
      refine zRx.topI (b := 8) rfl ?_
      refine zRx.icmp_ge (tgt := 28) dX11_placeOf_10 (by decide) (fun c10 => ?_) (fun c10 => ?_)
      · refine zRx.iconst ⟨by decide, by decide⟩ dX11_placeOf_28 ?_
        exact zR.iret rfl dX11_placeOf_29 (by have he : plc (σ 17) code many 8 (n + 1) i = (-1) := (by rw [plc, if_neg (Int.not_le.mpr c4), if_pos c10]); rw [he]; exact ⟨rfl, rfl⟩)
      · refine zRx.aload_n 1 rfl rfl dX11_placeOf_13 ?_
        refine zRx.iload_n 3 rfl rfl dX11_placeOf_14 ?_
        refine zRx.ialdv (v := σ 17 i) rfl rfl (by omega) (by omega) dX11_placeOf_15 ?_
        refine zRx.iload_n 0 rfl rfl dX11_placeOf_16 ?_
        refine zRx.icmp_ne (tgt := 22) dX11_placeOf_17 (by decide) (fun c17 => ?_) (fun c17 => ?_)
        · refine zRx.iinc (n := 1) (ls' := [(0, .inl code), (1, zP 17), (2, .inl many), (3, .inl (i + 1))]) 3 rfl ⟨by omega, by omega⟩ rfl (by decide) dX11_placeOf_22 ?_
          refine zRx.goto (tgt := 2) dX11_placeOf_25 (by decide) ?_
          have he : plc (σ 17) code many 8 (n + 1) i = plc (σ 17) code many 8 n (i + 1) := by rw [plc, if_neg (Int.not_le.mpr c4), if_neg (Int.not_le.mpr c10), if_neg c17]
          rw [he]
          exact ih (i + 1)  (by omega) (by omega)
        · refine zRx.iload_n 3 rfl rfl dX11_placeOf_20 ?_
          exact zR.iret rfl dX11_placeOf_21 (by have he : plc (σ 17) code many 8 (n + 1) i = i := (by rw [plc, if_neg (Int.not_le.mpr c4), if_neg (Int.not_le.mpr c10), if_pos c17]); rw [he]; exact ⟨rfl, rfl⟩)
def R_X11_placeOf_17 (σ : zG) (code many : Int) : Int := plc (σ 17) code many 8 30 0
set_option maxRecDepth 20000 in
theorem does_X11_placeOf_17 (σ : zG) (code many : Int)   : zDo SC 0 m_X11_placeOf [.inl code, zP 17, .inl many] σ (zEq (some (.inl (R_X11_placeOf_17 σ code many))) σ) := by
  refine zDo.intro mk_X11_placeOf (Nat.le_of_ble_eq_true rfl) ?_
  refine zRx.iconst ⟨by decide, by decide⟩ dX11_placeOf_0 ?_
  refine zRx.istore_n (ls' := [(0, .inl code), (1, zP 17), (2, .inl many), (3, .inl 0)]) rfl rfl (by decide) dX11_placeOf_1 ?_
  have he : R_X11_placeOf_17 σ code many = plc (σ 17) code many 8 30 0 := by rw [R_X11_placeOf_17]
  rw [he]
  exact loop_X11_placeOf_2_17 σ code many   30 0  (by decide) (by decide)

set_option maxRecDepth 20000 in
theorem loop_X11_placeOf_2_19 (σ : zG) (code many : Int)  : ∀ (n : Nat) (i : Int) , 0 ≤ i → (12 - i).toNat < n → zR SC 0 m_X11_placeOf 2 [(0, .inl code), (1, zP 19), (2, .inl many), (3, .inl i)] [] σ (zEq (some (.inl (plc (σ 19) code many 12 n i))) σ) := by
  intro n
  induction n with
  | zero => intro i  h0 hmz; exact absurd hmz (Nat.not_lt_zero _)
  | succ n ih =>
    intro i  h0 hmz
    refine zRx.iload_n 3 rfl rfl dX11_placeOf_2 ?_
    refine zRx.iload_n 2 rfl rfl dX11_placeOf_3 ?_
    refine zRx.icmp_ge (tgt := 28) dX11_placeOf_4 (by decide) (fun c4 => ?_) (fun c4 => ?_)
    · refine zRx.iconst ⟨by decide, by decide⟩ dX11_placeOf_28 ?_
      exact zR.iret rfl dX11_placeOf_29 (by have he : plc (σ 19) code many 12 (n + 1) i = (-1) := (by rw [plc, if_pos c4]); rw [he]; exact ⟨rfl, rfl⟩)
    · refine zRx.iload_n 3 rfl rfl dX11_placeOf_7 ?_
      refine zRx.aload_n 1 rfl rfl dX11_placeOf_8 ?_
      refine zRx.alen (n := 12) rfl (by decide) (by decide) dX11_placeOf_9 ?_
      refine zRx.topI (b := 12) rfl ?_
      refine zRx.icmp_ge (tgt := 28) dX11_placeOf_10 (by decide) (fun c10 => ?_) (fun c10 => ?_)
      · refine zRx.iconst ⟨by decide, by decide⟩ dX11_placeOf_28 ?_
        exact zR.iret rfl dX11_placeOf_29 (by have he : plc (σ 19) code many 12 (n + 1) i = (-1) := (by rw [plc, if_neg (Int.not_le.mpr c4), if_pos c10]); rw [he]; exact ⟨rfl, rfl⟩)
      · refine zRx.aload_n 1 rfl rfl dX11_placeOf_13 ?_
        refine zRx.iload_n 3 rfl rfl dX11_placeOf_14 ?_
        refine zRx.ialdv (v := σ 19 i) rfl rfl (by omega) (by omega) dX11_placeOf_15 ?_
        refine zRx.iload_n 0 rfl rfl dX11_placeOf_16 ?_
        refine zRx.icmp_ne (tgt := 22) dX11_placeOf_17 (by decide) (fun c17 => ?_) (fun c17 => ?_)
        · refine zRx.iinc (n := 1) (ls' := [(0, .inl code), (1, zP 19), (2, .inl many), (3, .inl (i + 1))]) 3 rfl ⟨by omega, by omega⟩ rfl (by decide) dX11_placeOf_22 ?_
          refine zRx.goto (tgt := 2) dX11_placeOf_25 (by decide) ?_
          have he : plc (σ 19) code many 12 (n + 1) i = plc (σ 19) code many 12 n (i + 1) := by rw [plc, if_neg (Int.not_le.mpr c4), if_neg (Int.not_le.mpr c10), if_neg c17]
          rw [he]
          exact ih (i + 1)  (by omega) (by omega)
        · refine zRx.iload_n 3 rfl rfl dX11_placeOf_20 ?_
          exact zR.iret rfl dX11_placeOf_21 (by have he : plc (σ 19) code many 12 (n + 1) i = i := (by rw [plc, if_neg (Int.not_le.mpr c4), if_neg (Int.not_le.mpr c10), if_pos c17]); rw [he]; exact ⟨rfl, rfl⟩)
def R_X11_placeOf_19 (σ : zG) (code many : Int) : Int := plc (σ 19) code many 12 30 0
set_option maxRecDepth 20000 in
theorem does_X11_placeOf_19 (σ : zG) (code many : Int)   : zDo SC 0 m_X11_placeOf [.inl code, zP 19, .inl many] σ (zEq (some (.inl (R_X11_placeOf_19 σ code many))) σ) := by
  refine zDo.intro mk_X11_placeOf (Nat.le_of_ble_eq_true rfl) ?_
  refine zRx.iconst ⟨by decide, by decide⟩ dX11_placeOf_0 ?_
  refine zRx.istore_n (ls' := [(0, .inl code), (1, zP 19), (2, .inl many), (3, .inl 0)]) rfl rfl (by decide) dX11_placeOf_1 ?_
  have he : R_X11_placeOf_19 σ code many = plc (σ 19) code many 12 30 0 := by rw [R_X11_placeOf_19]
  rw [he]
  exact loop_X11_placeOf_2_19 σ code many   30 0  (by decide) (by decide)

def F_X5_open (σ : zG) (limit : Int) : zG := zu (zu (zu (zu (zu (zu σ 3 2 (min (σ 1 1) limit)) 3 3 0) 3 5 0) 3 4 0) 3 6 0) 3 7 0
set_option maxRecDepth 20000 in
theorem does_X5_open (σ : zG) (limit : Int)  : zDo SC 1 m_X5_open [zP 3, .inl limit] σ (zEq (none) (F_X5_open σ limit)) := by
  refine zDo.intro mk_X5_open (Nat.le_of_ble_eq_true rfl) ?_
  refine zRx.aload_n 0 rfl rfl dX5_open_0 ?_
  refine zRx.aload_n 0 rfl rfl dX5_open_1 ?_
  refine zRx.getR (a := 3) (b := 1) fl_5_15 rfl rfl dX5_open_2 ?_
  refine zRx.getIv (a := 1) (ji := 1) (v := σ 1 1) rfl fl_5_31 rfl rfl rfl dX5_open_5 ?_
  refine zRx.iload_n 1 rfl rfl dX5_open_8 ?_
  refine zRx.mmin mm_5_36 (by decide) (Nat.le_of_ble_eq_true rfl) dX5_open_9 ?_
  refine zRx.putI (a := 3) (ji := 2) pl_5_42 rfl rfl rfl dX5_open_12 ?_
  refine zRx.aload_n 0 rfl rfl dX5_open_15 ?_
  refine zRx.iconst ⟨by decide, by decide⟩ dX5_open_16 ?_
  refine zRx.putI (a := 3) (ji := 3) pl_5_45 rfl rfl rfl dX5_open_17 ?_
  refine zRx.aload_n 0 rfl rfl dX5_open_20 ?_
  refine zRx.iconst ⟨by decide, by decide⟩ dX5_open_21 ?_
  refine zRx.putI (a := 3) (ji := 5) pl_5_48 rfl rfl rfl dX5_open_22 ?_
  refine zRx.aload_n 0 rfl rfl dX5_open_25 ?_
  refine zRx.iconst ⟨by decide, by decide⟩ dX5_open_26 ?_
  refine zRx.putI (a := 3) (ji := 4) pl_5_51 rfl rfl rfl dX5_open_27 ?_
  refine zRx.aload_n 0 rfl rfl dX5_open_30 ?_
  refine zRx.iconst ⟨by decide, by decide⟩ dX5_open_31 ?_
  refine zRx.putI (a := 3) (ji := 6) pl_5_54 rfl rfl rfl dX5_open_32 ?_
  refine zRx.aload_n 0 rfl rfl dX5_open_35 ?_
  refine zRx.iconst ⟨by decide, by decide⟩ dX5_open_36 ?_
  refine zRx.putI (a := 3) (ji := 7) pl_5_57 rfl rfl rfl dX5_open_37 ?_
  exact zR.ret rfl dX5_open_40 ⟨rfl, rfl⟩

def V_X5_refuse (why : Int) : Int := 0
def F_X5_refuse (σ : zG) (why : Int) : zG := zu σ 3 7 why
set_option maxRecDepth 20000 in
theorem does_X5_refuse (σ : zG) (why : Int)  : zDo SC 0 m_X5_refuse [zP 3, .inl why] σ (zEq (some (.inl (V_X5_refuse why))) (F_X5_refuse σ why)) := by
  refine zDo.intro mk_X5_refuse (Nat.le_of_ble_eq_true rfl) ?_
  refine zRx.aload_n 0 rfl rfl dX5_refuse_0 ?_
  refine zRx.iload_n 1 rfl rfl dX5_refuse_1 ?_
  refine zRx.putI (a := 3) (ji := 7) pl_5_57 rfl rfl rfl dX5_refuse_2 ?_
  refine zRx.iconst ⟨by decide, by decide⟩ dX5_refuse_5 ?_
  exact zR.zret rfl ⟨by decide, by decide⟩ dX5_refuse_6 ⟨rfl, rfl⟩

set_option maxRecDepth 20000 in
theorem does_X5_isSign (σ : zG) (c : Int)  : zDo SC 0 m_X5_isSign [zP 3, .inl c] σ (zEq (some (.inl (b2 (σ 3 4 = 4 ∧ σ 3 6 = c)))) σ) := by
  refine zDo.intro mk_X5_isSign (Nat.le_of_ble_eq_true rfl) ?_
  refine zRx.aload_n 0 rfl rfl dX5_isSign_0 ?_
  refine zRx.getIv (a := 3) (ji := 4) (v := σ 3 4) rfl fl_5_51 rfl rfl rfl dX5_isSign_1 ?_
  refine zRx.iconst ⟨by decide, by decide⟩ dX5_isSign_4 ?_
  refine zRx.icmp_ne (tgt := 20) dX5_isSign_5 (by decide) (fun c5 => ?_) (fun c5 => ?_)
  · refine zRx.iconst ⟨by decide, by decide⟩ dX5_isSign_20 ?_
    exact zR.zret rfl ⟨by decide, by decide⟩ dX5_isSign_21 ⟨by rw [b2_f (by omega)], rfl⟩
  · refine zRx.aload_n 0 rfl rfl dX5_isSign_8 ?_
    refine zRx.getIv (a := 3) (ji := 6) (v := σ 3 6) rfl fl_5_54 rfl rfl rfl dX5_isSign_9 ?_
    refine zRx.iload_n 1 rfl rfl dX5_isSign_12 ?_
    refine zRx.icmp_ne (tgt := 20) dX5_isSign_13 (by decide) (fun c13 => ?_) (fun c13 => ?_)
    · refine zRx.iconst ⟨by decide, by decide⟩ dX5_isSign_20 ?_
      exact zR.zret rfl ⟨by decide, by decide⟩ dX5_isSign_21 ⟨by rw [b2_f (by omega)], rfl⟩
    · refine zRx.iconst ⟨by decide, by decide⟩ dX5_isSign_16 ?_
      refine zRx.goto (tgt := 21) dX5_isSign_17 (by decide) ?_
      exact zR.zret rfl ⟨by decide, by decide⟩ dX5_isSign_21 ⟨by rw [b2_t (by omega)], rfl⟩

def V_X5_keyword (σ : zG)  : Int := if (σ 3 4) = 2 then (R_X11_placeOf_4 σ (σ 3 6) 26) else (-1)
set_option maxRecDepth 20000 in
theorem does_X5_keyword (σ : zG)   : zDo SC 1 m_X5_keyword [zP 3] σ (zEq (some (.inl (V_X5_keyword σ ))) σ) := by
  refine zDo.intro mk_X5_keyword (Nat.le_of_ble_eq_true rfl) ?_
  refine zRx.aload_n 0 rfl rfl dX5_keyword_0 ?_
  refine zRx.getIv (a := 3) (ji := 4) (v := σ 3 4) rfl fl_5_51 rfl rfl rfl dX5_keyword_1 ?_
  refine zRx.iconst ⟨by decide, by decide⟩ dX5_keyword_4 ?_
  refine zRx.icmp_ne (tgt := 27) dX5_keyword_5 (by decide) (fun c5 => ?_) (fun c5 => ?_)
  · refine zRx.iconst ⟨by decide, by decide⟩ dX5_keyword_27 ?_
    exact zR.iret rfl dX5_keyword_28 ⟨by unfold V_X5_keyword; rw [if_neg c5], rfl⟩
  · refine zRx.aload_n 0 rfl rfl dX5_keyword_8 ?_
    refine zRx.getIv (a := 3) (ji := 6) (v := σ 3 6) rfl fl_5_54 rfl rfl rfl dX5_keyword_9 ?_
    refine zRx.aload_n 0 rfl rfl dX5_keyword_12 ?_
    refine zRx.getR (a := 3) (b := 4) fl_5_9 rfl rfl dX5_keyword_13 ?_
    refine zRx.aload_n 0 rfl rfl dX5_keyword_16 ?_
    refine zRx.getR (a := 3) (b := 4) fl_5_9 rfl rfl dX5_keyword_17 ?_
    refine zRx.alen (n := 26) rfl (by decide) (by decide) dX5_keyword_20 ?_
    refine zRx.topI (b := 26) rfl ?_
    refine zRx.cSi (w := .inl (R_X11_placeOf_4 σ (σ 3 6) 26)) (M := m_X11_placeOf) (av := [.inl (σ 3 6), zP 4, .inl 26]) cs_5_67 mk_X11_placeOf (by decide) rfl (Nat.le_of_ble_eq_true rfl) dX5_keyword_21 (does_X11_placeOf_4 σ (σ 3 6) 26) ?_
    refine zRx.goto (tgt := 28) dX5_keyword_24 (by decide) ?_
    exact zR.iret rfl dX5_keyword_28 ⟨by unfold V_X5_keyword; rw [if_pos c5], rfl⟩

set_option maxRecDepth 20000 in
theorem does_X5_isName (σ : zG)   : zDo SC 1 m_X5_isName [zP 3] σ (zEq (some (.inl (b2 (σ 3 4 = 2 ∧ R_X11_placeOf_4 σ (σ 3 6) 26 = -1)))) σ) := by
  refine zDo.intro mk_X5_isName (Nat.le_of_ble_eq_true rfl) ?_
  refine zRx.aload_n 0 rfl rfl dX5_isName_0 ?_
  refine zRx.getIv (a := 3) (ji := 4) (v := σ 3 4) rfl fl_5_51 rfl rfl rfl dX5_isName_1 ?_
  refine zRx.iconst ⟨by decide, by decide⟩ dX5_isName_4 ?_
  refine zRx.icmp_ne (tgt := 32) dX5_isName_5 (by decide) (fun c5 => ?_) (fun c5 => ?_)
  · refine zRx.iconst ⟨by decide, by decide⟩ dX5_isName_32 ?_
    exact zR.zret rfl ⟨by decide, by decide⟩ dX5_isName_33 ⟨by rw [b2_f (by omega)], rfl⟩
  · refine zRx.aload_n 0 rfl rfl dX5_isName_8 ?_
    refine zRx.getIv (a := 3) (ji := 6) (v := σ 3 6) rfl fl_5_54 rfl rfl rfl dX5_isName_9 ?_
    refine zRx.aload_n 0 rfl rfl dX5_isName_12 ?_
    refine zRx.getR (a := 3) (b := 4) fl_5_9 rfl rfl dX5_isName_13 ?_
    refine zRx.aload_n 0 rfl rfl dX5_isName_16 ?_
    refine zRx.getR (a := 3) (b := 4) fl_5_9 rfl rfl dX5_isName_17 ?_
    refine zRx.alen (n := 26) rfl (by decide) (by decide) dX5_isName_20 ?_
    refine zRx.topI (b := 26) rfl ?_
    refine zRx.cSi (w := .inl (R_X11_placeOf_4 σ (σ 3 6) 26)) (M := m_X11_placeOf) (av := [.inl (σ 3 6), zP 4, .inl 26]) cs_5_67 mk_X11_placeOf (by decide) rfl (Nat.le_of_ble_eq_true rfl) dX5_isName_21 (does_X11_placeOf_4 σ (σ 3 6) 26) ?_
    refine zRx.iconst ⟨by decide, by decide⟩ dX5_isName_24 ?_
    refine zRx.icmp_ne (tgt := 32) dX5_isName_25 (by decide) (fun c25 => ?_) (fun c25 => ?_)
    · refine zRx.iconst ⟨by decide, by decide⟩ dX5_isName_32 ?_
      exact zR.zret rfl ⟨by decide, by decide⟩ dX5_isName_33 ⟨by rw [b2_f (by omega)], rfl⟩
    · refine zRx.iconst ⟨by decide, by decide⟩ dX5_isName_28 ?_
      refine zRx.goto (tgt := 33) dX5_isName_29 (by decide) ?_
      exact zR.zret rfl ⟨by decide, by decide⟩ dX5_isName_33 ⟨by rw [b2_t (by omega)], rfl⟩

def S_X5_takeRun_9  : Nat → Int → Int → Int → Int → zG → Int × Int × Int × Int × zG
  | 0, l, g, c, m, σ => (l, g, c, m, σ)
  | n + 1, l, g, c, m, σ => if (σ 1 1) ≤ (σ 3 3) then (l, g, c, m, σ) else (if (σ 2 (σ 3 3)) < 97 then (if (σ 2 (σ 3 3)) < 48 then (l, g, c, m, σ) else (if 57 < (σ 2 (σ 3 3)) then (l, g, c, m, σ) else (S_X5_takeRun_9  n l (g + 1) c (w32 ((w32 ((w32 (m * 10)) + (σ 2 (σ 3 3)))) - 48)) (zu σ 3 3 ((σ 3 3) + 1))))) else (if 122 < (σ 2 (σ 3 3)) then (if (σ 2 (σ 3 3)) < 48 then (l, g, c, m, σ) else (if 57 < (σ 2 (σ 3 3)) then (l, g, c, m, σ) else (S_X5_takeRun_9  n l (g + 1) c (w32 ((w32 ((w32 (m * 10)) + (σ 2 (σ 3 3)))) - 48)) (zu σ 3 3 ((σ 3 3) + 1))))) else (S_X5_takeRun_9  n (l + 1) g (bor (bshl c 5) ((σ 2 (σ 3 3)) - 96)) m (zu σ 3 3 ((σ 3 3) + 1)))))
set_option maxRecDepth 20000 in
theorem seg_X5_takeRun_9   : ∀ (n : Nat) (l g c m : Int) (σ : zG) (X : zX), 0 ≤ σ 3 3 → σ 3 3 ≤ σ 1 1 → σ 1 1 ≤ 940 → 0 ≤ l ∧ 0 ≤ g ∧ l + g ≤ σ 3 3 → (σ 1 1 - σ 3 3).toNat < n → zRx none 0 m_X5_takeRun SC 110 [(0, zP 3), (1, .inl ((S_X5_takeRun_9  n l g c m σ).1)), (2, .inl ((S_X5_takeRun_9  n l g c m σ).2.1)), (3, .inl ((S_X5_takeRun_9  n l g c m σ).2.2.1)), (4, .inl ((S_X5_takeRun_9  n l g c m σ).2.2.2.1))] [] ((S_X5_takeRun_9  n l g c m σ).2.2.2.2) X → zRx none 0 m_X5_takeRun SC 9 [(0, zP 3), (1, .inl l), (2, .inl g), (3, .inl c), (4, .inl m)] [] σ X := by
  intro n
  induction n with
  | zero => intro l g c m σ X h0 h1 h2 h3 hmz; exact absurd hmz (Nat.not_lt_zero _)
  | succ n ih =>
    intro l g c m σ X h0 h1 h2 h3 hmz K
    refine zRx.aload_n 0 rfl rfl dX5_takeRun_9 ?_
    refine zRx.getIv (a := 3) (ji := 3) (v := σ 3 3) rfl fl_5_45 rfl rfl rfl dX5_takeRun_10 ?_
    refine zRx.aload_n 0 rfl rfl dX5_takeRun_13 ?_
    refine zRx.getR (a := 3) (b := 1) fl_5_15 rfl rfl dX5_takeRun_14 ?_
    refine zRx.getIv (a := 1) (ji := 1) (v := σ 1 1) rfl fl_5_31 rfl rfl rfl dX5_takeRun_17 ?_
    refine zRx.icmp_ge (tgt := 110) dX5_takeRun_20 (by decide) (fun c20 => ?_) (fun c20 => ?_)
    · have he : S_X5_takeRun_9  (n + 1) l g c m σ = (l, g, c, m, σ) := by rw [S_X5_takeRun_9, if_pos c20]
      rw [he] at K
      exact K
    · refine zRx.aload_n 0 rfl rfl dX5_takeRun_23 ?_
      refine zRx.getR (a := 3) (b := 1) fl_5_15 rfl rfl dX5_takeRun_24 ?_
      refine zRx.getR (a := 1) (b := 2) fl_5_60 rfl rfl dX5_takeRun_27 ?_
      refine zRx.aload_n 0 rfl rfl dX5_takeRun_30 ?_
      refine zRx.getIv (a := 3) (ji := 3) (v := σ 3 3) rfl fl_5_45 rfl rfl rfl dX5_takeRun_31 ?_
      refine zRx.ialdv (v := σ 2 (σ 3 3)) rfl rfl (by omega) (by omega) dX5_takeRun_34 ?_
      refine zRx.istore (ls' := [(0, zP 3), (1, .inl l), (2, .inl g), (3, .inl c), (4, .inl m), (5, .inl (σ 2 (σ 3 3)))]) rfl (by decide) dX5_takeRun_35 ?_
      refine zRx.iload 5 rfl dX5_takeRun_37 ?_
      refine zRx.bipush ⟨by decide, by decide⟩ rfl dX5_takeRun_39 ?_
      refine zRx.icmp_lt (tgt := 67) dX5_takeRun_41 (by decide) (fun c41 => ?_) (fun c41 => ?_)
      · refine zRx.iload 5 rfl dX5_takeRun_67 ?_
        refine zRx.bipush ⟨by decide, by decide⟩ rfl dX5_takeRun_69 ?_
        refine zRx.icmp_lt (tgt := 110) dX5_takeRun_71 (by decide) (fun c71 => ?_) (fun c71 => ?_)
        · refine zRx.pick [0, 1, 2, 3, 4] (ls' := [(0, zP 3), (1, .inl l), (2, .inl g), (3, .inl c), (4, .inl m)]) rfl ?_
          have he : S_X5_takeRun_9  (n + 1) l g c m σ = (l, g, c, m, σ) := by rw [S_X5_takeRun_9, if_neg (Int.not_le.mpr c20), if_pos c41, if_pos c71]
          rw [he] at K
          exact K
        · refine zRx.iload 5 rfl dX5_takeRun_74 ?_
          refine zRx.bipush ⟨by decide, by decide⟩ rfl dX5_takeRun_76 ?_
          refine zRx.icmp_gt (tgt := 110) dX5_takeRun_78 (by decide) (fun c78 => ?_) (fun c78 => ?_)
          · refine zRx.pick [0, 1, 2, 3, 4] (ls' := [(0, zP 3), (1, .inl l), (2, .inl g), (3, .inl c), (4, .inl m)]) rfl ?_
            have he : S_X5_takeRun_9  (n + 1) l g c m σ = (l, g, c, m, σ) := by rw [S_X5_takeRun_9, if_neg (Int.not_le.mpr c20), if_pos c41, if_neg (Int.not_lt.mpr c71), if_pos c78]
            rw [he] at K
            exact K
          · refine zRx.iinc (n := 1) (ls' := [(0, zP 3), (1, .inl l), (2, .inl (g + 1)), (3, .inl c), (4, .inl m), (5, .inl (σ 2 (σ 3 3)))]) 2 rfl ⟨by omega, by omega⟩ rfl (by decide) dX5_takeRun_81 ?_
            refine zRx.iload 4 rfl dX5_takeRun_84 ?_
            refine zRx.bipush ⟨by decide, by decide⟩ rfl dX5_takeRun_86 ?_
            refine zRx.imulW dX5_takeRun_88 ?_
            refine zRx.iload 5 rfl dX5_takeRun_89 ?_
            refine zRx.iaddW dX5_takeRun_91 ?_
            refine zRx.bipush ⟨by decide, by decide⟩ rfl dX5_takeRun_92 ?_
            refine zRx.isubW dX5_takeRun_94 ?_
            refine zRx.istore (ls' := [(0, zP 3), (1, .inl l), (2, .inl (g + 1)), (3, .inl c), (4, .inl (w32 ((w32 ((w32 (m * 10)) + (σ 2 (σ 3 3)))) - 48))), (5, .inl (σ 2 (σ 3 3)))]) rfl (by decide) dX5_takeRun_95 ?_
            refine zRx.aload_n 0 rfl rfl dX5_takeRun_97 ?_
            refine zRx.dup rfl dX5_takeRun_98 ?_
            refine zRx.getIv (a := 3) (ji := 3) (v := σ 3 3) rfl fl_5_45 rfl rfl rfl dX5_takeRun_99 ?_
            refine zRx.iconst ⟨by decide, by decide⟩ dX5_takeRun_102 ?_
            refine zRx.iadd ⟨by omega, by omega⟩ dX5_takeRun_103 ?_
            refine zRx.putI (a := 3) (ji := 3) pl_5_45 rfl rfl rfl dX5_takeRun_104 ?_
            refine zRx.goto (tgt := 9) dX5_takeRun_107 (by decide) ?_
            refine zRx.pick [0, 1, 2, 3, 4] (ls' := [(0, zP 3), (1, .inl l), (2, .inl (g + 1)), (3, .inl c), (4, .inl (w32 ((w32 ((w32 (m * 10)) + (σ 2 (σ 3 3)))) - 48)))]) rfl ?_
            have he : S_X5_takeRun_9  (n + 1) l g c m σ = S_X5_takeRun_9  n l (g + 1) c (w32 ((w32 ((w32 (m * 10)) + (σ 2 (σ 3 3)))) - 48)) (zu σ 3 3 ((σ 3 3) + 1)) := by rw [S_X5_takeRun_9, if_neg (Int.not_le.mpr c20), if_pos c41, if_neg (Int.not_lt.mpr c71), if_neg (Int.not_lt.mpr c78)]
            rw [he] at K
            exact ih l (g + 1) c (w32 ((w32 ((w32 (m * 10)) + (σ 2 (σ 3 3)))) - 48)) (zu σ 3 3 ((σ 3 3) + 1)) _ (by first | omega | (simp [zu]; omega) | (simp [zu])) (by first | omega | (simp [zu]; omega) | (simp [zu])) (by first | omega | (simp [zu]; omega) | (simp [zu])) (by first | omega | (simp [zu]; omega) | (simp [zu])) (by first | omega | (simp [zu]; omega) | (simp [zu])) K
      · refine zRx.iload 5 rfl dX5_takeRun_44 ?_
        refine zRx.bipush ⟨by decide, by decide⟩ rfl dX5_takeRun_46 ?_
        refine zRx.icmp_gt (tgt := 67) dX5_takeRun_48 (by decide) (fun c48 => ?_) (fun c48 => ?_)
        · refine zRx.iload 5 rfl dX5_takeRun_67 ?_
          refine zRx.bipush ⟨by decide, by decide⟩ rfl dX5_takeRun_69 ?_
          refine zRx.icmp_lt (tgt := 110) dX5_takeRun_71 (by decide) (fun c71 => ?_) (fun c71 => ?_)
          · refine zRx.pick [0, 1, 2, 3, 4] (ls' := [(0, zP 3), (1, .inl l), (2, .inl g), (3, .inl c), (4, .inl m)]) rfl ?_
            have he : S_X5_takeRun_9  (n + 1) l g c m σ = (l, g, c, m, σ) := by rw [S_X5_takeRun_9, if_neg (Int.not_le.mpr c20), if_neg (Int.not_lt.mpr c41), if_pos c48, if_pos c71]
            rw [he] at K
            exact K
          · refine zRx.iload 5 rfl dX5_takeRun_74 ?_
            refine zRx.bipush ⟨by decide, by decide⟩ rfl dX5_takeRun_76 ?_
            refine zRx.icmp_gt (tgt := 110) dX5_takeRun_78 (by decide) (fun c78 => ?_) (fun c78 => ?_)
            · refine zRx.pick [0, 1, 2, 3, 4] (ls' := [(0, zP 3), (1, .inl l), (2, .inl g), (3, .inl c), (4, .inl m)]) rfl ?_
              have he : S_X5_takeRun_9  (n + 1) l g c m σ = (l, g, c, m, σ) := by rw [S_X5_takeRun_9, if_neg (Int.not_le.mpr c20), if_neg (Int.not_lt.mpr c41), if_pos c48, if_neg (Int.not_lt.mpr c71), if_pos c78]
              rw [he] at K
              exact K
            · refine zRx.iinc (n := 1) (ls' := [(0, zP 3), (1, .inl l), (2, .inl (g + 1)), (3, .inl c), (4, .inl m), (5, .inl (σ 2 (σ 3 3)))]) 2 rfl ⟨by omega, by omega⟩ rfl (by decide) dX5_takeRun_81 ?_
              refine zRx.iload 4 rfl dX5_takeRun_84 ?_
              refine zRx.bipush ⟨by decide, by decide⟩ rfl dX5_takeRun_86 ?_
              refine zRx.imulW dX5_takeRun_88 ?_
              refine zRx.iload 5 rfl dX5_takeRun_89 ?_
              refine zRx.iaddW dX5_takeRun_91 ?_
              refine zRx.bipush ⟨by decide, by decide⟩ rfl dX5_takeRun_92 ?_
              refine zRx.isubW dX5_takeRun_94 ?_
              refine zRx.istore (ls' := [(0, zP 3), (1, .inl l), (2, .inl (g + 1)), (3, .inl c), (4, .inl (w32 ((w32 ((w32 (m * 10)) + (σ 2 (σ 3 3)))) - 48))), (5, .inl (σ 2 (σ 3 3)))]) rfl (by decide) dX5_takeRun_95 ?_
              refine zRx.aload_n 0 rfl rfl dX5_takeRun_97 ?_
              refine zRx.dup rfl dX5_takeRun_98 ?_
              refine zRx.getIv (a := 3) (ji := 3) (v := σ 3 3) rfl fl_5_45 rfl rfl rfl dX5_takeRun_99 ?_
              refine zRx.iconst ⟨by decide, by decide⟩ dX5_takeRun_102 ?_
              refine zRx.iadd ⟨by omega, by omega⟩ dX5_takeRun_103 ?_
              refine zRx.putI (a := 3) (ji := 3) pl_5_45 rfl rfl rfl dX5_takeRun_104 ?_
              refine zRx.goto (tgt := 9) dX5_takeRun_107 (by decide) ?_
              refine zRx.pick [0, 1, 2, 3, 4] (ls' := [(0, zP 3), (1, .inl l), (2, .inl (g + 1)), (3, .inl c), (4, .inl (w32 ((w32 ((w32 (m * 10)) + (σ 2 (σ 3 3)))) - 48)))]) rfl ?_
              have he : S_X5_takeRun_9  (n + 1) l g c m σ = S_X5_takeRun_9  n l (g + 1) c (w32 ((w32 ((w32 (m * 10)) + (σ 2 (σ 3 3)))) - 48)) (zu σ 3 3 ((σ 3 3) + 1)) := by rw [S_X5_takeRun_9, if_neg (Int.not_le.mpr c20), if_neg (Int.not_lt.mpr c41), if_pos c48, if_neg (Int.not_lt.mpr c71), if_neg (Int.not_lt.mpr c78)]
              rw [he] at K
              exact ih l (g + 1) c (w32 ((w32 ((w32 (m * 10)) + (σ 2 (σ 3 3)))) - 48)) (zu σ 3 3 ((σ 3 3) + 1)) _ (by first | omega | (simp [zu]; omega) | (simp [zu])) (by first | omega | (simp [zu]; omega) | (simp [zu])) (by first | omega | (simp [zu]; omega) | (simp [zu])) (by first | omega | (simp [zu]; omega) | (simp [zu])) (by first | omega | (simp [zu]; omega) | (simp [zu])) K
        · refine zRx.iinc (n := 1) (ls' := [(0, zP 3), (1, .inl (l + 1)), (2, .inl g), (3, .inl c), (4, .inl m), (5, .inl (σ 2 (σ 3 3)))]) 1 rfl ⟨by omega, by omega⟩ rfl (by decide) dX5_takeRun_51 ?_
          refine zRx.iload_n 3 rfl rfl dX5_takeRun_54 ?_
          refine zRx.iconst ⟨by decide, by decide⟩ dX5_takeRun_55 ?_
          refine zRx.ishl dX5_takeRun_56 ?_
          refine zRx.iload 5 rfl dX5_takeRun_57 ?_
          refine zRx.bipush ⟨by decide, by decide⟩ rfl dX5_takeRun_59 ?_
          refine zRx.isub ⟨by omega, by omega⟩ dX5_takeRun_61 ?_
          refine zRx.ior dX5_takeRun_62 ?_
          refine zRx.istore_n (ls' := [(0, zP 3), (1, .inl (l + 1)), (2, .inl g), (3, .inl (bor (bshl c 5) ((σ 2 (σ 3 3)) - 96))), (4, .inl m), (5, .inl (σ 2 (σ 3 3)))]) rfl rfl (by decide) dX5_takeRun_63 ?_
          refine zRx.goto (tgt := 97) dX5_takeRun_64 (by decide) ?_
          refine zRx.aload_n 0 rfl rfl dX5_takeRun_97 ?_
          refine zRx.dup rfl dX5_takeRun_98 ?_
          refine zRx.getIv (a := 3) (ji := 3) (v := σ 3 3) rfl fl_5_45 rfl rfl rfl dX5_takeRun_99 ?_
          refine zRx.iconst ⟨by decide, by decide⟩ dX5_takeRun_102 ?_
          refine zRx.iadd ⟨by omega, by omega⟩ dX5_takeRun_103 ?_
          refine zRx.putI (a := 3) (ji := 3) pl_5_45 rfl rfl rfl dX5_takeRun_104 ?_
          refine zRx.goto (tgt := 9) dX5_takeRun_107 (by decide) ?_
          refine zRx.pick [0, 1, 2, 3, 4] (ls' := [(0, zP 3), (1, .inl (l + 1)), (2, .inl g), (3, .inl (bor (bshl c 5) ((σ 2 (σ 3 3)) - 96))), (4, .inl m)]) rfl ?_
          have he : S_X5_takeRun_9  (n + 1) l g c m σ = S_X5_takeRun_9  n (l + 1) g (bor (bshl c 5) ((σ 2 (σ 3 3)) - 96)) m (zu σ 3 3 ((σ 3 3) + 1)) := by rw [S_X5_takeRun_9, if_neg (Int.not_le.mpr c20), if_neg (Int.not_lt.mpr c41), if_neg (Int.not_lt.mpr c48)]
          rw [he] at K
          exact ih (l + 1) g (bor (bshl c 5) ((σ 2 (σ 3 3)) - 96)) m (zu σ 3 3 ((σ 3 3) + 1)) _ (by first | omega | (simp [zu]; omega) | (simp [zu])) (by first | omega | (simp [zu]; omega) | (simp [zu])) (by first | omega | (simp [zu]; omega) | (simp [zu])) (by first | omega | (simp [zu]; omega) | (simp [zu])) (by first | omega | (simp [zu]; omega) | (simp [zu])) K

theorem zu_self (σ : zG) (a : Nat) (i : Int) : zu σ a i (σ a i) = σ := by
  funext b j
  simp only [zu]
  split
  · next h =>
    subst h
    split
    · next h => subst h; rfl
    · rfl
  · rfl
theorem zu_zu (σ : zG) (a : Nat) (i x y : Int) : zu (zu σ a i x) a i y = zu σ a i y := by
  funext b j
  simp only [zu]
  split
  · split
    · rfl
    · rfl
  · rfl
def tkR (b : Int → Int) (len : Int) : Nat → Int → Int → Int → Int → Int → Int × Int × Int × Int × Int
  | 0, l, g, c, m, p => (l, g, c, m, p)
  | n + 1, l, g, c, m, p => if len ≤ p then (l, g, c, m, p) else if 97 ≤ b p ∧ b p ≤ 122 then tkR b len n (l + 1) g (bor (bshl c 5) (b p - 96)) m (p + 1) else if 48 ≤ b p ∧ b p ≤ 57 then tkR b len n l (g + 1) c (w32 ((w32 ((w32 (m * 10)) + b p)) - 48)) (p + 1) else (l, g, c, m, p)
theorem S_takeRun_eq : ∀ (n : Nat) (l g c m : Int) (σ : zG), S_X5_takeRun_9 n l g c m σ = ((tkR (σ 2) (σ 1 1) n l g c m (σ 3 3)).1, (tkR (σ 2) (σ 1 1) n l g c m (σ 3 3)).2.1, (tkR (σ 2) (σ 1 1) n l g c m (σ 3 3)).2.2.1, (tkR (σ 2) (σ 1 1) n l g c m (σ 3 3)).2.2.2.1, zu σ 3 3 (tkR (σ 2) (σ 1 1) n l g c m (σ 3 3)).2.2.2.2)
  | 0, l, g, c, m, σ => by simp only [S_X5_takeRun_9, tkR, zu_self]
  | n + 1, l, g, c, m, σ => by
    have hrec : ∀ l g c m, S_X5_takeRun_9 n l g c m (zu σ 3 3 (σ 3 3 + 1)) = ((tkR (σ 2) (σ 1 1) n l g c m (σ 3 3 + 1)).1, (tkR (σ 2) (σ 1 1) n l g c m (σ 3 3 + 1)).2.1, (tkR (σ 2) (σ 1 1) n l g c m (σ 3 3 + 1)).2.2.1, (tkR (σ 2) (σ 1 1) n l g c m (σ 3 3 + 1)).2.2.2.1, zu σ 3 3 (tkR (σ 2) (σ 1 1) n l g c m (σ 3 3 + 1)).2.2.2.2) := by
      intro l g c m
      rw [S_takeRun_eq n l g c m, zu_row σ 3 (σ 3 3 + 1) (show (2 : Nat) ≠ 3 by decide), zu_ne σ 3 (σ 3 3 + 1) 1 (show (1 : Nat) ≠ 3 by decide), zu_at, zu_zu]
    rw [S_X5_takeRun_9, tkR]
    by_cases h1 : σ 1 1 ≤ σ 3 3
    · simp only [if_pos h1, zu_self]
    · by_cases h2 : 97 ≤ σ 2 (σ 3 3) ∧ σ 2 (σ 3 3) ≤ 122
      · simp only [if_neg h1, if_neg (show ¬ σ 2 (σ 3 3) < 97 by omega), if_neg (show ¬ 122 < σ 2 (σ 3 3) by omega), if_pos h2, hrec]
      · by_cases h3 : 48 ≤ σ 2 (σ 3 3) ∧ σ 2 (σ 3 3) ≤ 57
        · simp only [if_neg h1, if_pos (show σ 2 (σ 3 3) < 97 by omega), if_neg (show ¬ σ 2 (σ 3 3) < 48 by omega), if_neg (show ¬ 57 < σ 2 (σ 3 3) by omega), if_neg h2, if_pos h3, hrec]
        · by_cases h4 : σ 2 (σ 3 3) < 97
          · by_cases h5 : σ 2 (σ 3 3) < 48
            · simp only [if_neg h1, if_pos h4, if_pos h5, if_neg h2, if_neg h3, zu_self]
            · simp only [if_neg h1, if_pos h4, if_neg h5, if_pos (show 57 < σ 2 (σ 3 3) by omega), if_neg h2, if_neg h3, zu_self]
          · simp only [if_neg h1, if_neg h4, if_pos (show 122 < σ 2 (σ 3 3) by omega), if_neg (show ¬ σ 2 (σ 3 3) < 48 by omega), if_pos (show 57 < σ 2 (σ 3 3) by omega), if_neg h2, if_neg h3, zu_self]
theorem tkR_mono (b : Int → Int) (len : Int) : ∀ (n : Nat) (l g c m p : Int), p ≤ (tkR b len n l g c m p).2.2.2.2 ∧ l ≤ (tkR b len n l g c m p).1 ∧ g ≤ (tkR b len n l g c m p).2.1 ∧ (tkR b len n l g c m p).1 + (tkR b len n l g c m p).2.1 + p = l + g + (tkR b len n l g c m p).2.2.2.2 ∧ (tkR b len n l g c m p).2.2.2.2 ≤ max p len
  | 0, l, g, c, m, p => ⟨Int.le_refl _, Int.le_refl _, Int.le_refl _, rfl, Int.le_max_left _ _⟩
  | n + 1, l, g, c, m, p => by
    rw [tkR]
    split
    · exact ⟨Int.le_refl _, Int.le_refl _, Int.le_refl _, rfl, Int.le_max_left _ _⟩
    · split
      · have := tkR_mono b len n (l + 1) g (bor (bshl c 5) (b p - 96)) m (p + 1)
        omega
      · split
        · have := tkR_mono b len n l (g + 1) c (w32 ((w32 ((w32 (m * 10)) + b p)) - 48)) (p + 1)
          omega
        · exact ⟨Int.le_refl _, Int.le_refl _, Int.le_refl _, rfl, Int.le_max_left _ _⟩

abbrev tkr (σ : zG) : Int × Int × Int × Int × Int := tkR (σ 2) (σ 1 1) 1000 0 0 0 0 (σ 3 3)
def tkK (r : Int × Int × Int × Int × Int) : Int := if r.2.1 = 0 ∧ r.1 ≤ 6 then 2 else if r.1 = 0 ∧ r.2.1 ≤ 3 then 3 else 1
def tkV (r : Int × Int × Int × Int × Int) (v0 : Int) : Int := if r.2.1 = 0 ∧ r.1 ≤ 6 then r.2.2.1 else if r.1 = 0 ∧ r.2.1 ≤ 3 then r.2.2.2.1 else v0
def tkF (σ : zG) : zG := zu (zu (zu σ 3 3 (tkr σ).2.2.2.2) 3 4 (tkK (tkr σ))) 3 6 (tkV (tkr σ) (σ 3 6))
theorem tkF_w {σ : zG} (h : (tkr σ).2.1 = 0 ∧ (tkr σ).1 ≤ 6) : zu (zu (zu σ 3 3 (tkr σ).2.2.2.2) 3 4 2) 3 6 (tkr σ).2.2.1 = tkF σ := by
  unfold tkF tkK tkV
  rw [if_pos h, if_pos h]
theorem tkF_n {σ : zG} (h : ¬ ((tkr σ).2.1 = 0 ∧ (tkr σ).1 ≤ 6)) (h2 : (tkr σ).1 = 0 ∧ (tkr σ).2.1 ≤ 3) : zu (zu (zu σ 3 3 (tkr σ).2.2.2.2) 3 4 3) 3 6 (tkr σ).2.2.2.1 = tkF σ := by
  unfold tkF tkK tkV
  rw [if_neg h, if_neg h, if_pos h2, if_pos h2]
theorem tkF_x {σ : zG} (h : ¬ ((tkr σ).2.1 = 0 ∧ (tkr σ).1 ≤ 6)) (h2 : ¬ ((tkr σ).1 = 0 ∧ (tkr σ).2.1 ≤ 3)) : zu (zu σ 3 3 (tkr σ).2.2.2.2) 3 4 1 = tkF σ := by
  unfold tkF tkK tkV
  rw [if_neg h, if_neg h, if_neg h2, if_neg h2]
  have e : (zu (zu σ 3 3 (tkr σ).2.2.2.2) 3 4 1) 3 6 = σ 3 6 := by simp [zu]
  rw [← e, zu_self]

set_option maxRecDepth 20000 in
theorem does_X5_takeRun (σ : zG) (h0 : 0 ≤ σ 3 3) (h1 : σ 3 3 ≤ σ 1 1) (h2 : σ 1 1 ≤ 940) : zDo SC 0 m_X5_takeRun [zP 3] σ (zEq (some (.inl (b2 (0 < (tkr σ).1 + (tkr σ).2.1)))) (tkF σ)) := by
  refine zDo.intro mk_X5_takeRun (Nat.le_of_ble_eq_true rfl) ?_
  refine zRx.iconst ⟨by decide, by decide⟩ dX5_takeRun_0 ?_
  refine zRx.istore_n (ls' := [(0, zP 3), (1, .inl 0)]) rfl rfl (by decide) dX5_takeRun_1 ?_
  refine zRx.iconst ⟨by decide, by decide⟩ dX5_takeRun_2 ?_
  refine zRx.istore_n (ls' := [(0, zP 3), (1, .inl 0), (2, .inl 0)]) rfl rfl (by decide) dX5_takeRun_3 ?_
  refine zRx.iconst ⟨by decide, by decide⟩ dX5_takeRun_4 ?_
  refine zRx.istore_n (ls' := [(0, zP 3), (1, .inl 0), (2, .inl 0), (3, .inl 0)]) rfl rfl (by decide) dX5_takeRun_5 ?_
  refine zRx.iconst ⟨by decide, by decide⟩ dX5_takeRun_6 ?_
  refine zRx.istore (ls' := [(0, zP 3), (1, .inl 0), (2, .inl 0), (3, .inl 0), (4, .inl 0)]) rfl (by decide) dX5_takeRun_7 ?_
  refine seg_X5_takeRun_9 1000 0 0 0 0 σ _ h0 h1 h2 (by omega) (by omega) ?_
  have hS := tkR_mono (σ 2) (σ 1 1) 1000 0 0 0 0 (σ 3 3)
  rw [S_takeRun_eq 1000 0 0 0 0 σ]
  dsimp only
  refine zRx.iload_n 2 rfl rfl dX5_takeRun_110 ?_
  refine zRx.if_ne (tgt := 133) dX5_takeRun_111 (by decide) (fun c111 => ?_) (fun c111 => ?_)
  · refine zRx.iload_n 1 rfl rfl dX5_takeRun_133 ?_
    refine zRx.if_ne (tgt := 156) dX5_takeRun_134 (by decide) (fun c134 => ?_) (fun c134 => ?_)
    · refine zRx.aload_n 0 rfl rfl dX5_takeRun_156 ?_
      refine zRx.iconst ⟨by decide, by decide⟩ dX5_takeRun_157 ?_
      refine zRx.putI (a := 3) (ji := 4) pl_5_51 rfl rfl rfl dX5_takeRun_158 ?_
      refine zRx.iload_n 1 rfl rfl dX5_takeRun_161 ?_
      refine zRx.iload_n 2 rfl rfl dX5_takeRun_162 ?_
      refine zRx.iadd ⟨by omega, by omega⟩ dX5_takeRun_163 ?_
      refine zRx.if_le (tgt := 171) dX5_takeRun_164 (by decide) (fun c164 => ?_) (fun c164 => ?_)
      · refine zRx.iconst ⟨by decide, by decide⟩ dX5_takeRun_171 ?_
        exact zR.zret rfl ⟨by decide, by decide⟩ dX5_takeRun_172 ⟨by rw [b2_f (by simp only [tkr]; omega)], tkF_x (by simp only [tkr]; omega) (by simp only [tkr]; omega)⟩
      · refine zRx.iconst ⟨by decide, by decide⟩ dX5_takeRun_167 ?_
        refine zRx.goto (tgt := 172) dX5_takeRun_168 (by decide) ?_
        exact zR.zret rfl ⟨by decide, by decide⟩ dX5_takeRun_172 ⟨by rw [b2_t (by simp only [tkr]; omega)], tkF_x (by simp only [tkr]; omega) (by simp only [tkr]; omega)⟩
    · refine zRx.iload_n 2 rfl rfl dX5_takeRun_137 ?_
      refine zRx.iconst ⟨by decide, by decide⟩ dX5_takeRun_138 ?_
      refine zRx.icmp_gt (tgt := 156) dX5_takeRun_139 (by decide) (fun c139 => ?_) (fun c139 => ?_)
      · refine zRx.aload_n 0 rfl rfl dX5_takeRun_156 ?_
        refine zRx.iconst ⟨by decide, by decide⟩ dX5_takeRun_157 ?_
        refine zRx.putI (a := 3) (ji := 4) pl_5_51 rfl rfl rfl dX5_takeRun_158 ?_
        refine zRx.iload_n 1 rfl rfl dX5_takeRun_161 ?_
        refine zRx.iload_n 2 rfl rfl dX5_takeRun_162 ?_
        refine zRx.iadd ⟨by omega, by omega⟩ dX5_takeRun_163 ?_
        refine zRx.if_le (tgt := 171) dX5_takeRun_164 (by decide) (fun c164 => ?_) (fun c164 => ?_)
        · refine zRx.iconst ⟨by decide, by decide⟩ dX5_takeRun_171 ?_
          exact zR.zret rfl ⟨by decide, by decide⟩ dX5_takeRun_172 ⟨by rw [b2_f (by simp only [tkr]; omega)], tkF_x (by simp only [tkr]; omega) (by simp only [tkr]; omega)⟩
        · refine zRx.iconst ⟨by decide, by decide⟩ dX5_takeRun_167 ?_
          refine zRx.goto (tgt := 172) dX5_takeRun_168 (by decide) ?_
          exact zR.zret rfl ⟨by decide, by decide⟩ dX5_takeRun_172 ⟨by rw [b2_t (by simp only [tkr]; omega)], tkF_x (by simp only [tkr]; omega) (by simp only [tkr]; omega)⟩
      · refine zRx.aload_n 0 rfl rfl dX5_takeRun_142 ?_
        refine zRx.iconst ⟨by decide, by decide⟩ dX5_takeRun_143 ?_
        refine zRx.putI (a := 3) (ji := 4) pl_5_51 rfl rfl rfl dX5_takeRun_144 ?_
        refine zRx.aload_n 0 rfl rfl dX5_takeRun_147 ?_
        refine zRx.iload 4 rfl dX5_takeRun_148 ?_
        refine zRx.putI (a := 3) (ji := 6) pl_5_54 rfl rfl rfl dX5_takeRun_150 ?_
        refine zRx.goto (tgt := 161) dX5_takeRun_153 (by decide) ?_
        refine zRx.iload_n 1 rfl rfl dX5_takeRun_161 ?_
        refine zRx.iload_n 2 rfl rfl dX5_takeRun_162 ?_
        refine zRx.iadd ⟨by omega, by omega⟩ dX5_takeRun_163 ?_
        refine zRx.if_le (tgt := 171) dX5_takeRun_164 (by decide) (fun c164 => ?_) (fun c164 => ?_)
        · refine zRx.iconst ⟨by decide, by decide⟩ dX5_takeRun_171 ?_
          exact zR.zret rfl ⟨by decide, by decide⟩ dX5_takeRun_172 ⟨by rw [b2_f (by simp only [tkr]; omega)], tkF_n (by simp only [tkr]; omega) (by simp only [tkr]; omega)⟩
        · refine zRx.iconst ⟨by decide, by decide⟩ dX5_takeRun_167 ?_
          refine zRx.goto (tgt := 172) dX5_takeRun_168 (by decide) ?_
          exact zR.zret rfl ⟨by decide, by decide⟩ dX5_takeRun_172 ⟨by rw [b2_t (by simp only [tkr]; omega)], tkF_n (by simp only [tkr]; omega) (by simp only [tkr]; omega)⟩
  · refine zRx.iload_n 1 rfl rfl dX5_takeRun_114 ?_
    refine zRx.bipush ⟨by decide, by decide⟩ rfl dX5_takeRun_115 ?_
    refine zRx.icmp_gt (tgt := 133) dX5_takeRun_117 (by decide) (fun c117 => ?_) (fun c117 => ?_)
    · refine zRx.iload_n 1 rfl rfl dX5_takeRun_133 ?_
      refine zRx.if_ne (tgt := 156) dX5_takeRun_134 (by decide) (fun c134 => ?_) (fun c134 => ?_)
      · refine zRx.aload_n 0 rfl rfl dX5_takeRun_156 ?_
        refine zRx.iconst ⟨by decide, by decide⟩ dX5_takeRun_157 ?_
        refine zRx.putI (a := 3) (ji := 4) pl_5_51 rfl rfl rfl dX5_takeRun_158 ?_
        refine zRx.iload_n 1 rfl rfl dX5_takeRun_161 ?_
        refine zRx.iload_n 2 rfl rfl dX5_takeRun_162 ?_
        refine zRx.iadd ⟨by omega, by omega⟩ dX5_takeRun_163 ?_
        refine zRx.if_le (tgt := 171) dX5_takeRun_164 (by decide) (fun c164 => ?_) (fun c164 => ?_)
        · refine zRx.iconst ⟨by decide, by decide⟩ dX5_takeRun_171 ?_
          exact zR.zret rfl ⟨by decide, by decide⟩ dX5_takeRun_172 ⟨by rw [b2_f (by simp only [tkr]; omega)], tkF_x (by simp only [tkr]; omega) (by simp only [tkr]; omega)⟩
        · refine zRx.iconst ⟨by decide, by decide⟩ dX5_takeRun_167 ?_
          refine zRx.goto (tgt := 172) dX5_takeRun_168 (by decide) ?_
          exact zR.zret rfl ⟨by decide, by decide⟩ dX5_takeRun_172 ⟨by rw [b2_t (by simp only [tkr]; omega)], tkF_x (by simp only [tkr]; omega) (by simp only [tkr]; omega)⟩
      · refine zRx.iload_n 2 rfl rfl dX5_takeRun_137 ?_
        refine zRx.iconst ⟨by decide, by decide⟩ dX5_takeRun_138 ?_
        refine zRx.icmp_gt (tgt := 156) dX5_takeRun_139 (by decide) (fun c139 => ?_) (fun c139 => ?_)
        · refine zRx.aload_n 0 rfl rfl dX5_takeRun_156 ?_
          refine zRx.iconst ⟨by decide, by decide⟩ dX5_takeRun_157 ?_
          refine zRx.putI (a := 3) (ji := 4) pl_5_51 rfl rfl rfl dX5_takeRun_158 ?_
          refine zRx.iload_n 1 rfl rfl dX5_takeRun_161 ?_
          refine zRx.iload_n 2 rfl rfl dX5_takeRun_162 ?_
          refine zRx.iadd ⟨by omega, by omega⟩ dX5_takeRun_163 ?_
          refine zRx.if_le (tgt := 171) dX5_takeRun_164 (by decide) (fun c164 => ?_) (fun c164 => ?_)
          · refine zRx.iconst ⟨by decide, by decide⟩ dX5_takeRun_171 ?_
            exact zR.zret rfl ⟨by decide, by decide⟩ dX5_takeRun_172 ⟨by rw [b2_f (by simp only [tkr]; omega)], tkF_x (by simp only [tkr]; omega) (by simp only [tkr]; omega)⟩
          · refine zRx.iconst ⟨by decide, by decide⟩ dX5_takeRun_167 ?_
            refine zRx.goto (tgt := 172) dX5_takeRun_168 (by decide) ?_
            exact zR.zret rfl ⟨by decide, by decide⟩ dX5_takeRun_172 ⟨by rw [b2_t (by simp only [tkr]; omega)], tkF_x (by simp only [tkr]; omega) (by simp only [tkr]; omega)⟩
        · refine zRx.aload_n 0 rfl rfl dX5_takeRun_142 ?_
          refine zRx.iconst ⟨by decide, by decide⟩ dX5_takeRun_143 ?_
          refine zRx.putI (a := 3) (ji := 4) pl_5_51 rfl rfl rfl dX5_takeRun_144 ?_
          refine zRx.aload_n 0 rfl rfl dX5_takeRun_147 ?_
          refine zRx.iload 4 rfl dX5_takeRun_148 ?_
          refine zRx.putI (a := 3) (ji := 6) pl_5_54 rfl rfl rfl dX5_takeRun_150 ?_
          refine zRx.goto (tgt := 161) dX5_takeRun_153 (by decide) ?_
          refine zRx.iload_n 1 rfl rfl dX5_takeRun_161 ?_
          refine zRx.iload_n 2 rfl rfl dX5_takeRun_162 ?_
          refine zRx.iadd ⟨by omega, by omega⟩ dX5_takeRun_163 ?_
          refine zRx.if_le (tgt := 171) dX5_takeRun_164 (by decide) (fun c164 => ?_) (fun c164 => ?_)
          · refine zRx.iconst ⟨by decide, by decide⟩ dX5_takeRun_171 ?_
            exact zR.zret rfl ⟨by decide, by decide⟩ dX5_takeRun_172 ⟨by rw [b2_f (by simp only [tkr]; omega)], tkF_n (by simp only [tkr]; omega) (by simp only [tkr]; omega)⟩
          · refine zRx.iconst ⟨by decide, by decide⟩ dX5_takeRun_167 ?_
            refine zRx.goto (tgt := 172) dX5_takeRun_168 (by decide) ?_
            exact zR.zret rfl ⟨by decide, by decide⟩ dX5_takeRun_172 ⟨by rw [b2_t (by simp only [tkr]; omega)], tkF_n (by simp only [tkr]; omega) (by simp only [tkr]; omega)⟩
    · refine zRx.aload_n 0 rfl rfl dX5_takeRun_120 ?_
      refine zRx.iconst ⟨by decide, by decide⟩ dX5_takeRun_121 ?_
      refine zRx.putI (a := 3) (ji := 4) pl_5_51 rfl rfl rfl dX5_takeRun_122 ?_
      refine zRx.aload_n 0 rfl rfl dX5_takeRun_125 ?_
      refine zRx.iload_n 3 rfl rfl dX5_takeRun_126 ?_
      refine zRx.putI (a := 3) (ji := 6) pl_5_54 rfl rfl rfl dX5_takeRun_127 ?_
      refine zRx.goto (tgt := 161) dX5_takeRun_130 (by decide) ?_
      refine zRx.iload_n 1 rfl rfl dX5_takeRun_161 ?_
      refine zRx.iload_n 2 rfl rfl dX5_takeRun_162 ?_
      refine zRx.iadd ⟨by omega, by omega⟩ dX5_takeRun_163 ?_
      refine zRx.if_le (tgt := 171) dX5_takeRun_164 (by decide) (fun c164 => ?_) (fun c164 => ?_)
      · refine zRx.iconst ⟨by decide, by decide⟩ dX5_takeRun_171 ?_
        exact zR.zret rfl ⟨by decide, by decide⟩ dX5_takeRun_172 ⟨by rw [b2_f (by simp only [tkr]; omega)], tkF_w (by simp only [tkr]; omega)⟩
      · refine zRx.iconst ⟨by decide, by decide⟩ dX5_takeRun_167 ?_
        refine zRx.goto (tgt := 172) dX5_takeRun_168 (by decide) ?_
        exact zR.zret rfl ⟨by decide, by decide⟩ dX5_takeRun_172 ⟨by rw [b2_t (by simp only [tkr]; omega)], tkF_w (by simp only [tkr]; omega)⟩

def skb (b : Int → Int) (stop : Int) : Nat → Int → Int
  | 0, p => p
  | n + 1, p => if stop ≤ p then p else if b p = 32 then skb b stop n (p + 1) else if b p = 10 then skb b stop n (p + 1) else p
theorem skb_r (b : Int → Int) (stop : Int) : ∀ (n : Nat) (p : Int), p ≤ skb b stop n p ∧ skb b stop n p ≤ max p stop
  | 0, p => ⟨Int.le_refl _, Int.le_max_left _ _⟩
  | n + 1, p => by
    rw [skb]
    split
    · exact ⟨Int.le_refl _, Int.le_max_left _ _⟩
    · have := skb_r b stop n (p + 1)
      split
      · omega
      · split
        · omega
        · exact ⟨Int.le_refl _, Int.le_max_left _ _⟩

theorem does_takeRun2 (σ : zG) (b : Int → Int) (len q v0 : Int) (e1 : σ 2 = b) (e2 : σ 1 1 = len) (e3 : σ 3 3 = q) (e4 : σ 3 6 = v0) (h0 : 0 ≤ q) (h1 : q ≤ len) (h2 : len ≤ 940) : zDo SC 0 m_X5_takeRun [zP 3] σ (zEq (some (.inl (b2 (0 < (tkR b len 1000 0 0 0 0 q).1 + (tkR b len 1000 0 0 0 0 q).2.1)))) (zu (zu (zu σ 3 3 (tkR b len 1000 0 0 0 0 q).2.2.2.2) 3 4 (tkK (tkR b len 1000 0 0 0 0 q))) 3 6 (tkV (tkR b len 1000 0 0 0 0 q) v0))) := by
  subst e1; subst e2; subst e3; subst e4
  exact does_X5_takeRun σ h0 h1 h2

def S_X5_step_0  : Nat → zG → zG
  | 0, σ => (σ)
  | n + 1, σ => if (σ 3 2) ≤ (σ 3 3) then σ else (if (σ 2 (σ 3 3)) = 32 then (S_X5_step_0  n  (zu σ 3 3 ((σ 3 3) + 1))) else (if (σ 2 (σ 3 3)) = 10 then (S_X5_step_0  n  (zu σ 3 3 ((σ 3 3) + 1))) else σ))
set_option maxRecDepth 20000 in
theorem seg_X5_step_0   : ∀ (n : Nat) (σ : zG) (X : zX), 0 ≤ σ 3 3 → σ 3 2 ≤ 940 → (σ 3 2 - σ 3 3).toNat < n → zRx none 1 m_X5_step SC 58 [(0, zP 3)] [] (S_X5_step_0  n  σ) X → zRx none 1 m_X5_step SC 0 [(0, zP 3)] [] σ X := by
  intro n
  induction n with
  | zero => intro  σ X h0 h1 hmz; exact absurd hmz (Nat.not_lt_zero _)
  | succ n ih =>
    intro  σ X h0 h1 hmz K
    refine zRx.aload_n 0 rfl rfl dX5_step_0 ?_
    refine zRx.getIv (a := 3) (ji := 3) (v := σ 3 3) rfl fl_5_45 rfl rfl rfl dX5_step_1 ?_
    refine zRx.aload_n 0 rfl rfl dX5_step_4 ?_
    refine zRx.getIv (a := 3) (ji := 2) (v := σ 3 2) rfl fl_5_42 rfl rfl rfl dX5_step_5 ?_
    refine zRx.icmp_ge (tgt := 58) dX5_step_8 (by decide) (fun c8 => ?_) (fun c8 => ?_)
    · have he : S_X5_step_0  (n + 1)  σ = σ := by rw [S_X5_step_0, if_pos c8]
      rw [he] at K
      exact K
    · refine zRx.aload_n 0 rfl rfl dX5_step_11 ?_
      refine zRx.getR (a := 3) (b := 1) fl_5_15 rfl rfl dX5_step_12 ?_
      refine zRx.getR (a := 1) (b := 2) fl_5_60 rfl rfl dX5_step_15 ?_
      refine zRx.aload_n 0 rfl rfl dX5_step_18 ?_
      refine zRx.getIv (a := 3) (ji := 3) (v := σ 3 3) rfl fl_5_45 rfl rfl rfl dX5_step_19 ?_
      refine zRx.ialdv (v := σ 2 (σ 3 3)) rfl rfl (by omega) (by omega) dX5_step_22 ?_
      refine zRx.bipush ⟨by decide, by decide⟩ rfl dX5_step_23 ?_
      refine zRx.icmp_eq (tgt := 45) dX5_step_25 (by decide) (fun c25 => ?_) (fun c25 => ?_)
      · refine zRx.aload_n 0 rfl rfl dX5_step_45 ?_
        refine zRx.dup rfl dX5_step_46 ?_
        refine zRx.getIv (a := 3) (ji := 3) (v := σ 3 3) rfl fl_5_45 rfl rfl rfl dX5_step_47 ?_
        refine zRx.iconst ⟨by decide, by decide⟩ dX5_step_50 ?_
        refine zRx.iadd ⟨by omega, by omega⟩ dX5_step_51 ?_
        refine zRx.putI (a := 3) (ji := 3) pl_5_45 rfl rfl rfl dX5_step_52 ?_
        refine zRx.goto (tgt := 0) dX5_step_55 (by decide) ?_
        have he : S_X5_step_0  (n + 1)  σ = S_X5_step_0  n  (zu σ 3 3 ((σ 3 3) + 1)) := by rw [S_X5_step_0, if_neg (Int.not_le.mpr c8), if_pos c25]
        rw [he] at K
        exact ih  (zu σ 3 3 ((σ 3 3) + 1)) _ (by first | omega | (simp [zu]; omega) | (simp [zu])) (by first | omega | (simp [zu]; omega) | (simp [zu])) (by first | omega | (simp [zu]; omega) | (simp [zu])) K
      · refine zRx.aload_n 0 rfl rfl dX5_step_28 ?_
        refine zRx.getR (a := 3) (b := 1) fl_5_15 rfl rfl dX5_step_29 ?_
        refine zRx.getR (a := 1) (b := 2) fl_5_60 rfl rfl dX5_step_32 ?_
        refine zRx.aload_n 0 rfl rfl dX5_step_35 ?_
        refine zRx.getIv (a := 3) (ji := 3) (v := σ 3 3) rfl fl_5_45 rfl rfl rfl dX5_step_36 ?_
        refine zRx.ialdv (v := σ 2 (σ 3 3)) rfl rfl (by omega) (by omega) dX5_step_39 ?_
        refine zRx.bipush ⟨by decide, by decide⟩ rfl dX5_step_40 ?_
        refine zRx.icmp_ne (tgt := 58) dX5_step_42 (by decide) (fun c42 => ?_) (fun c42 => ?_)
        · have he : S_X5_step_0  (n + 1)  σ = σ := by rw [S_X5_step_0, if_neg (Int.not_le.mpr c8), if_neg c25, if_neg c42]
          rw [he] at K
          exact K
        · refine zRx.aload_n 0 rfl rfl dX5_step_45 ?_
          refine zRx.dup rfl dX5_step_46 ?_
          refine zRx.getIv (a := 3) (ji := 3) (v := σ 3 3) rfl fl_5_45 rfl rfl rfl dX5_step_47 ?_
          refine zRx.iconst ⟨by decide, by decide⟩ dX5_step_50 ?_
          refine zRx.iadd ⟨by omega, by omega⟩ dX5_step_51 ?_
          refine zRx.putI (a := 3) (ji := 3) pl_5_45 rfl rfl rfl dX5_step_52 ?_
          refine zRx.goto (tgt := 0) dX5_step_55 (by decide) ?_
          have he : S_X5_step_0  (n + 1)  σ = S_X5_step_0  n  (zu σ 3 3 ((σ 3 3) + 1)) := by rw [S_X5_step_0, if_neg (Int.not_le.mpr c8), if_neg c25, if_pos c42]
          rw [he] at K
          exact ih  (zu σ 3 3 ((σ 3 3) + 1)) _ (by first | omega | (simp [zu]; omega) | (simp [zu])) (by first | omega | (simp [zu]; omega) | (simp [zu])) (by first | omega | (simp [zu]; omega) | (simp [zu])) K

theorem S_step_eq : ∀ (n : Nat) (σ : zG), S_X5_step_0 n σ = zu σ 3 3 (skb (σ 2) (σ 3 2) n (σ 3 3))
  | 0, σ => by simp only [S_X5_step_0, skb, zu_self]
  | n + 1, σ => by
    have hrec : S_X5_step_0 n (zu σ 3 3 (σ 3 3 + 1)) = zu σ 3 3 (skb (σ 2) (σ 3 2) n (σ 3 3 + 1)) := by
      rw [S_step_eq n, zu_row σ 3 (σ 3 3 + 1) (show (2 : Nat) ≠ 3 by decide), zu_off σ 3 (σ 3 3 + 1) (show (2 : Int) ≠ 3 by decide), zu_at, zu_zu]
    rw [S_X5_step_0, skb]
    by_cases h1 : σ 3 2 ≤ σ 3 3
    · simp only [if_pos h1, zu_self]
    · by_cases h2 : σ 2 (σ 3 3) = 32
      · simp only [if_neg h1, if_pos h2, hrec]
      · by_cases h3 : σ 2 (σ 3 3) = 10
        · simp only [if_neg h1, if_neg h2, if_pos h3, hrec]
        · simp only [if_neg h1, if_neg h2, if_neg h3, zu_self]

abbrev sgn (c : Int) : Prop := c = 59 ∨ c = 40 ∨ c = 41 ∨ (60 ≤ c ∧ c ≤ 62)
/-- a token: its kind, place, value, and where the next begins -/
def Tk (b : Int → Int) (len stop p : Int) : Int × Int × Int × Int :=
  if stop ≤ skb b stop 1000 p then (if stop < len then 1 else 0, stop, 0, skb b stop 1000 p)
  else if 0 < (tkR b len 1000 0 0 0 0 (skb b stop 1000 p)).1 + (tkR b len 1000 0 0 0 0 (skb b stop 1000 p)).2.1 then (tkK (tkR b len 1000 0 0 0 0 (skb b stop 1000 p)), skb b stop 1000 p, tkV (tkR b len 1000 0 0 0 0 (skb b stop 1000 p)) 0, (tkR b len 1000 0 0 0 0 (skb b stop 1000 p)).2.2.2.2)
  else (if sgn (b (skb b stop 1000 p)) then 4 else 1, skb b stop 1000 p, b (skb b stop 1000 p), skb b stop 1000 p + 1)
/-- the reader's moving fields set anew -/
def zRd (σ : zG) (nx kd pl vl ft : Int) : zG := fun k i => if k = 3 then (if i = 3 then nx else if i = 4 then kd else if i = 5 then pl else if i = 6 then vl else if i = 7 then ft else σ k i) else σ k i
theorem zRd_of {σ τ : zG} {nx kd pl vl ft : Int} (h : ∀ k, k ≠ 3 → τ k = σ k) (h2 : ∀ i : Int, i ≠ 3 → i ≠ 4 → i ≠ 5 → i ≠ 6 → i ≠ 7 → τ 3 i = σ 3 i) (h3 : τ 3 3 = nx) (h4 : τ 3 4 = kd) (h5 : τ 3 5 = pl) (h6 : τ 3 6 = vl) (h7 : τ 3 7 = ft) : τ = zRd σ nx kd pl vl ft := by
  funext k i
  unfold zRd
  by_cases hk : k = 3
  · subst hk
    rw [if_pos rfl]
    by_cases e3 : i = 3
    · rw [if_pos e3, e3, h3]
    · rw [if_neg e3]
      by_cases e4 : i = 4
      · rw [if_pos e4, e4, h4]
      · rw [if_neg e4]
        by_cases e5 : i = 5
        · rw [if_pos e5, e5, h5]
        · rw [if_neg e5]
          by_cases e6 : i = 6
          · rw [if_pos e6, e6, h6]
          · rw [if_neg e6]
            by_cases e7 : i = 7
            · rw [if_pos e7, e7, h7]
            · rw [if_neg e7, h2 i e3 e4 e5 e6 e7]
  · rw [if_neg hk, h k hk]

theorem Tk_a {b : Int → Int} {len stop p : Int} (h : stop ≤ skb b stop 1000 p) : Tk b len stop p = (if stop < len then 1 else 0, stop, 0, skb b stop 1000 p) := by
  unfold Tk
  rw [if_pos h]
theorem Tk_b {b : Int → Int} {len stop p : Int} (h : skb b stop 1000 p < stop) (h2 : 0 < (tkR b len 1000 0 0 0 0 (skb b stop 1000 p)).1 + (tkR b len 1000 0 0 0 0 (skb b stop 1000 p)).2.1) : Tk b len stop p = (tkK (tkR b len 1000 0 0 0 0 (skb b stop 1000 p)), skb b stop 1000 p, tkV (tkR b len 1000 0 0 0 0 (skb b stop 1000 p)) 0, (tkR b len 1000 0 0 0 0 (skb b stop 1000 p)).2.2.2.2) := by
  unfold Tk
  rw [if_neg (Int.not_le.mpr h), if_pos h2]
theorem Tk_c {b : Int → Int} {len stop p : Int} (h : skb b stop 1000 p < stop) (h2 : ¬ 0 < (tkR b len 1000 0 0 0 0 (skb b stop 1000 p)).1 + (tkR b len 1000 0 0 0 0 (skb b stop 1000 p)).2.1) : Tk b len stop p = (if sgn (b (skb b stop 1000 p)) then 4 else 1, skb b stop 1000 p, b (skb b stop 1000 p), skb b stop 1000 p + 1) := by
  unfold Tk
  rw [if_neg (Int.not_le.mpr h), if_neg h2]

set_option maxRecDepth 20000 in
theorem does_X5_step (σ : zG) (h0 : 0 ≤ σ 3 3) (h1 : σ 3 2 ≤ 940) (h2 : σ 3 2 ≤ σ 1 1) (h3 : σ 1 1 ≤ 940) : zDo SC 1 m_X5_step [zP 3] σ (zEq none (zRd σ (Tk (σ 2) (σ 1 1) (σ 3 2) (σ 3 3)).2.2.2 (Tk (σ 2) (σ 1 1) (σ 3 2) (σ 3 3)).1 (Tk (σ 2) (σ 1 1) (σ 3 2) (σ 3 3)).2.1 (Tk (σ 2) (σ 1 1) (σ 3 2) (σ 3 3)).2.2.1 (σ 3 7))) := by
  refine zDo.intro mk_X5_step (Nat.le_of_ble_eq_true rfl) ?_
  refine seg_X5_step_0 1000 σ _ h0 h1 (by omega) ?_
  have hS := skb_r (σ 2) (σ 3 2) 1000 (σ 3 3)
  rw [S_step_eq 1000 σ]
  refine zRx.aload_n 0 rfl rfl dX5_step_58 ?_
  refine zRx.iconst ⟨by decide, by decide⟩ dX5_step_59 ?_
  refine zRx.putI (a := 3) (ji := 6) pl_5_54 rfl rfl rfl dX5_step_60 ?_
  refine zRx.aload_n 0 rfl rfl dX5_step_63 ?_
  refine zRx.getIv (a := 3) (ji := 3) (v := skb (σ 2) (σ 3 2) 1000 (σ 3 3)) ((zu_off _ _ _ (by decide)).trans (zu_at _ _ _ _)) fl_5_45 rfl rfl rfl dX5_step_64 ?_
  refine zRx.aload_n 0 rfl rfl dX5_step_67 ?_
  refine zRx.getIv (a := 3) (ji := 2) (v := σ 3 2) ((zu_off _ _ _ (by decide)).trans (zu_off _ _ _ (by decide))) fl_5_42 rfl rfl rfl dX5_step_68 ?_
  refine zRx.icmp_lt (tgt := 106) dX5_step_71 (by decide) (fun c71 => ?_) (fun c71 => ?_)
  · refine zRx.aload_n 0 rfl rfl dX5_step_106 ?_
    refine zRx.aload_n 0 rfl rfl dX5_step_107 ?_
    refine zRx.getIv (a := 3) (ji := 3) (v := skb (σ 2) (σ 3 2) 1000 (σ 3 3)) ((zu_off _ _ _ (by decide)).trans (zu_at _ _ _ _)) fl_5_45 rfl rfl rfl dX5_step_108 ?_
    refine zRx.putI (a := 3) (ji := 5) pl_5_48 rfl rfl rfl dX5_step_111 ?_
    refine zRx.aload_n 0 rfl rfl dX5_step_114 ?_
    have hT := tkR_mono (σ 2) (σ 1 1) 1000 0 0 0 0 (skb (σ 2) (σ 3 2) 1000 (σ 3 3))
    refine zRx.cVi (w := .inl (b2 (0 < (tkR (σ 2) (σ 1 1) 1000 0 0 0 0 (skb (σ 2) (σ 3 2) 1000 (σ 3 3))).1 + (tkR (σ 2) (σ 1 1) 1000 0 0 0 0 (skb (σ 2) (σ 3 2) 1000 (σ 3 3))).2.1))) (M := m_X5_takeRun) (av := []) cv_5_63 mk_X5_takeRun (by decide) (b := 3) rfl rfl (Nat.le_of_ble_eq_true rfl) dX5_step_115 (does_takeRun2 (zu (zu (zu σ 3 3 (skb (σ 2) (σ 3 2) 1000 (σ 3 3))) 3 6 0) 3 5 (skb (σ 2) (σ 3 2) 1000 (σ 3 3))) (σ 2) (σ 1 1) (skb (σ 2) (σ 3 2) 1000 (σ 3 3)) 0 (by funext i; simp [zu]) ((zu_ne _ _ _ _ (by decide)).trans ((zu_ne _ _ _ _ (by decide)).trans (zu_ne _ _ _ _ (by decide)))) ((zu_off _ _ _ (by decide)).trans ((zu_off _ _ _ (by decide)).trans (zu_at _ _ _ _))) ((zu_off _ _ _ (by decide)).trans (zu_at _ _ _ _)) (by omega) (by omega) (by omega)) ?_
    refine zRx.if_eqB (tgt := 122) dX5_step_118 (by decide) (fun c118 => ?_) (fun c118 => ?_)
    · have hN : (tkR (σ 2) (σ 1 1) 1000 0 0 0 0 (skb (σ 2) (σ 3 2) 1000 (σ 3 3))).2.2.2.2 = skb (σ 2) (σ 3 2) 1000 (σ 3 3) := by omega
      rw [hN]
      refine zRx.aload_n 0 rfl rfl dX5_step_122 ?_
      refine zRx.aload_n 0 rfl rfl dX5_step_123 ?_
      refine zRx.getR (a := 3) (b := 1) fl_5_15 rfl rfl dX5_step_124 ?_
      refine zRx.getR (a := 1) (b := 2) fl_5_60 rfl rfl dX5_step_127 ?_
      refine zRx.aload_n 0 rfl rfl dX5_step_130 ?_
      refine zRx.getIv (a := 3) (ji := 3) (v := skb (σ 2) (σ 3 2) 1000 (σ 3 3)) ((zu_off _ _ _ (by decide)).trans ((zu_off _ _ _ (by decide)).trans (zu_at _ _ _ _))) fl_5_45 rfl rfl rfl dX5_step_131 ?_
      refine zRx.ialdv (v := σ 2 (skb (σ 2) (σ 3 2) 1000 (σ 3 3))) ((zu_ne _ _ _ _ (by decide)).trans ((zu_ne _ _ _ _ (by decide)).trans ((zu_ne _ _ _ _ (by decide)).trans ((zu_ne _ _ _ _ (by decide)).trans ((zu_ne _ _ _ _ (by decide)).trans (zu_ne _ _ _ _ (by decide))))))) rfl (by first | omega | (simp [zu]; omega) | (simp [zu])) (by first | omega | (simp [zu]; omega) | (simp [zu])) dX5_step_134 ?_
      refine zRx.putI (a := 3) (ji := 6) pl_5_54 rfl rfl rfl dX5_step_135 ?_
      refine zRx.aload_n 0 rfl rfl dX5_step_138 ?_
      refine zRx.dup rfl dX5_step_139 ?_
      refine zRx.getIv (a := 3) (ji := 3) (v := skb (σ 2) (σ 3 2) 1000 (σ 3 3)) ((zu_off _ _ _ (by decide)).trans ((zu_off _ _ _ (by decide)).trans ((zu_off _ _ _ (by decide)).trans (zu_at _ _ _ _)))) fl_5_45 rfl rfl rfl dX5_step_140 ?_
      refine zRx.iconst ⟨by decide, by decide⟩ dX5_step_143 ?_
      refine zRx.iadd ⟨by omega, by omega⟩ dX5_step_144 ?_
      refine zRx.putI (a := 3) (ji := 3) pl_5_45 rfl rfl rfl dX5_step_145 ?_
      refine zRx.aload_n 0 rfl rfl dX5_step_148 ?_
      refine zRx.aload_n 0 rfl rfl dX5_step_149 ?_
      refine zRx.getIv (a := 3) (ji := 6) (v := σ 2 (skb (σ 2) (σ 3 2) 1000 (σ 3 3))) ((zu_off _ _ _ (by decide)).trans (zu_at _ _ _ _)) fl_5_54 rfl rfl rfl dX5_step_150 ?_
      refine zRx.bipush ⟨by decide, by decide⟩ rfl dX5_step_153 ?_
      refine zRx.icmp_eq (tgt := 194) dX5_step_155 (by decide) (fun c155 => ?_) (fun c155 => ?_)
      · refine zRx.iconst ⟨by decide, by decide⟩ dX5_step_194 ?_
        refine zRx.goto (tgt := 199) dX5_step_195 (by decide) ?_
        refine zRx.putI (a := 3) (ji := 4) pl_5_51 rfl rfl rfl dX5_step_199 ?_
        exact zR.ret rfl dX5_step_202 ⟨rfl, (zRd_of (fun k hk => by funext i; simp [zu, hk]) (fun i e3 e4 e5 e6 e7 => by simp [zu, e3, e4, e5, e6, e7]) (by rw [Tk_c c71 c118]; simp [zu]) (by rw [Tk_c c71 c118]; simp only [sgn]; simp [zu]; omega) (by rw [Tk_c c71 c118]; simp [zu]) (by rw [Tk_c c71 c118]; simp [zu]) (by simp [zu]))⟩
      · refine zRx.aload_n 0 rfl rfl dX5_step_158 ?_
        refine zRx.getIv (a := 3) (ji := 6) (v := σ 2 (skb (σ 2) (σ 3 2) 1000 (σ 3 3))) ((zu_off _ _ _ (by decide)).trans (zu_at _ _ _ _)) fl_5_54 rfl rfl rfl dX5_step_159 ?_
        refine zRx.bipush ⟨by decide, by decide⟩ rfl dX5_step_162 ?_
        refine zRx.icmp_eq (tgt := 194) dX5_step_164 (by decide) (fun c164 => ?_) (fun c164 => ?_)
        · refine zRx.iconst ⟨by decide, by decide⟩ dX5_step_194 ?_
          refine zRx.goto (tgt := 199) dX5_step_195 (by decide) ?_
          refine zRx.putI (a := 3) (ji := 4) pl_5_51 rfl rfl rfl dX5_step_199 ?_
          exact zR.ret rfl dX5_step_202 ⟨rfl, (zRd_of (fun k hk => by funext i; simp [zu, hk]) (fun i e3 e4 e5 e6 e7 => by simp [zu, e3, e4, e5, e6, e7]) (by rw [Tk_c c71 c118]; simp [zu]) (by rw [Tk_c c71 c118]; simp only [sgn]; simp [zu]; omega) (by rw [Tk_c c71 c118]; simp [zu]) (by rw [Tk_c c71 c118]; simp [zu]) (by simp [zu]))⟩
        · refine zRx.aload_n 0 rfl rfl dX5_step_167 ?_
          refine zRx.getIv (a := 3) (ji := 6) (v := σ 2 (skb (σ 2) (σ 3 2) 1000 (σ 3 3))) ((zu_off _ _ _ (by decide)).trans (zu_at _ _ _ _)) fl_5_54 rfl rfl rfl dX5_step_168 ?_
          refine zRx.bipush ⟨by decide, by decide⟩ rfl dX5_step_171 ?_
          refine zRx.icmp_eq (tgt := 194) dX5_step_173 (by decide) (fun c173 => ?_) (fun c173 => ?_)
          · refine zRx.iconst ⟨by decide, by decide⟩ dX5_step_194 ?_
            refine zRx.goto (tgt := 199) dX5_step_195 (by decide) ?_
            refine zRx.putI (a := 3) (ji := 4) pl_5_51 rfl rfl rfl dX5_step_199 ?_
            exact zR.ret rfl dX5_step_202 ⟨rfl, (zRd_of (fun k hk => by funext i; simp [zu, hk]) (fun i e3 e4 e5 e6 e7 => by simp [zu, e3, e4, e5, e6, e7]) (by rw [Tk_c c71 c118]; simp [zu]) (by rw [Tk_c c71 c118]; simp only [sgn]; simp [zu]; omega) (by rw [Tk_c c71 c118]; simp [zu]) (by rw [Tk_c c71 c118]; simp [zu]) (by simp [zu]))⟩
          · refine zRx.aload_n 0 rfl rfl dX5_step_176 ?_
            refine zRx.getIv (a := 3) (ji := 6) (v := σ 2 (skb (σ 2) (σ 3 2) 1000 (σ 3 3))) ((zu_off _ _ _ (by decide)).trans (zu_at _ _ _ _)) fl_5_54 rfl rfl rfl dX5_step_177 ?_
            refine zRx.bipush ⟨by decide, by decide⟩ rfl dX5_step_180 ?_
            refine zRx.icmp_lt (tgt := 198) dX5_step_182 (by decide) (fun c182 => ?_) (fun c182 => ?_)
            · refine zRx.iconst ⟨by decide, by decide⟩ dX5_step_198 ?_
              refine zRx.putI (a := 3) (ji := 4) pl_5_51 rfl rfl rfl dX5_step_199 ?_
              exact zR.ret rfl dX5_step_202 ⟨rfl, (zRd_of (fun k hk => by funext i; simp [zu, hk]) (fun i e3 e4 e5 e6 e7 => by simp [zu, e3, e4, e5, e6, e7]) (by rw [Tk_c c71 c118]; simp [zu]) (by rw [Tk_c c71 c118]; simp only [sgn]; simp [zu]; omega) (by rw [Tk_c c71 c118]; simp [zu]) (by rw [Tk_c c71 c118]; simp [zu]) (by simp [zu]))⟩
            · refine zRx.aload_n 0 rfl rfl dX5_step_185 ?_
              refine zRx.getIv (a := 3) (ji := 6) (v := σ 2 (skb (σ 2) (σ 3 2) 1000 (σ 3 3))) ((zu_off _ _ _ (by decide)).trans (zu_at _ _ _ _)) fl_5_54 rfl rfl rfl dX5_step_186 ?_
              refine zRx.bipush ⟨by decide, by decide⟩ rfl dX5_step_189 ?_
              refine zRx.icmp_gt (tgt := 198) dX5_step_191 (by decide) (fun c191 => ?_) (fun c191 => ?_)
              · refine zRx.iconst ⟨by decide, by decide⟩ dX5_step_198 ?_
                refine zRx.putI (a := 3) (ji := 4) pl_5_51 rfl rfl rfl dX5_step_199 ?_
                exact zR.ret rfl dX5_step_202 ⟨rfl, (zRd_of (fun k hk => by funext i; simp [zu, hk]) (fun i e3 e4 e5 e6 e7 => by simp [zu, e3, e4, e5, e6, e7]) (by rw [Tk_c c71 c118]; simp [zu]) (by rw [Tk_c c71 c118]; simp only [sgn]; simp [zu]; omega) (by rw [Tk_c c71 c118]; simp [zu]) (by rw [Tk_c c71 c118]; simp [zu]) (by simp [zu]))⟩
              · refine zRx.iconst ⟨by decide, by decide⟩ dX5_step_194 ?_
                refine zRx.goto (tgt := 199) dX5_step_195 (by decide) ?_
                refine zRx.putI (a := 3) (ji := 4) pl_5_51 rfl rfl rfl dX5_step_199 ?_
                exact zR.ret rfl dX5_step_202 ⟨rfl, (zRd_of (fun k hk => by funext i; simp [zu, hk]) (fun i e3 e4 e5 e6 e7 => by simp [zu, e3, e4, e5, e6, e7]) (by rw [Tk_c c71 c118]; simp [zu]) (by rw [Tk_c c71 c118]; simp only [sgn]; simp [zu]; omega) (by rw [Tk_c c71 c118]; simp [zu]) (by rw [Tk_c c71 c118]; simp [zu]) (by simp [zu]))⟩
    · exact zR.ret rfl dX5_step_121 ⟨rfl, (zRd_of (fun k hk => by funext i; simp [zu, hk]) (fun i e3 e4 e5 e6 e7 => by simp [zu, e3, e4, e5, e6, e7]) (by rw [Tk_b c71 c118]; simp [zu]) (by rw [Tk_b c71 c118]; simp [zu]) (by rw [Tk_b c71 c118]; simp [zu]) (by rw [Tk_b c71 c118]; simp [zu]) (by simp [zu]))⟩
  · refine zRx.aload_n 0 rfl rfl dX5_step_74 ?_
    refine zRx.aload_n 0 rfl rfl dX5_step_75 ?_
    refine zRx.getIv (a := 3) (ji := 2) (v := σ 3 2) ((zu_off _ _ _ (by decide)).trans (zu_off _ _ _ (by decide))) fl_5_42 rfl rfl rfl dX5_step_76 ?_
    refine zRx.putI (a := 3) (ji := 5) pl_5_48 rfl rfl rfl dX5_step_79 ?_
    refine zRx.aload_n 0 rfl rfl dX5_step_82 ?_
    refine zRx.aload_n 0 rfl rfl dX5_step_83 ?_
    refine zRx.getR (a := 3) (b := 1) fl_5_15 rfl rfl dX5_step_84 ?_
    refine zRx.getIv (a := 1) (ji := 1) (v := σ 1 1) ((zu_ne _ _ _ _ (by decide)).trans ((zu_ne _ _ _ _ (by decide)).trans (zu_ne _ _ _ _ (by decide)))) fl_5_31 rfl rfl rfl dX5_step_87 ?_
    refine zRx.aload_n 0 rfl rfl dX5_step_90 ?_
    refine zRx.getIv (a := 3) (ji := 2) (v := σ 3 2) ((zu_off _ _ _ (by decide)).trans ((zu_off _ _ _ (by decide)).trans (zu_off _ _ _ (by decide)))) fl_5_42 rfl rfl rfl dX5_step_91 ?_
    refine zRx.icmp_le (tgt := 101) dX5_step_94 (by decide) (fun c94 => ?_) (fun c94 => ?_)
    · refine zRx.iconst ⟨by decide, by decide⟩ dX5_step_101 ?_
      refine zRx.putI (a := 3) (ji := 4) pl_5_51 rfl rfl rfl dX5_step_102 ?_
      exact zR.ret rfl dX5_step_105 ⟨rfl, (zRd_of (fun k hk => by funext i; simp [zu, hk]) (fun i e3 e4 e5 e6 e7 => by simp [zu, e3, e4, e5, e6, e7]) (by rw [Tk_a c71]; simp [zu]) (by rw [Tk_a c71]; simp [zu]; omega) (by rw [Tk_a c71]; simp [zu]) (by rw [Tk_a c71]; simp [zu]) (by simp [zu]))⟩
    · refine zRx.iconst ⟨by decide, by decide⟩ dX5_step_97 ?_
      refine zRx.goto (tgt := 102) dX5_step_98 (by decide) ?_
      refine zRx.putI (a := 3) (ji := 4) pl_5_51 rfl rfl rfl dX5_step_102 ?_
      exact zR.ret rfl dX5_step_105 ⟨rfl, (zRd_of (fun k hk => by funext i; simp [zu, hk]) (fun i e3 e4 e5 e6 e7 => by simp [zu, e3, e4, e5, e6, e7]) (by rw [Tk_a c71]; simp [zu]) (by rw [Tk_a c71]; simp [zu]; omega) (by rw [Tk_a c71]; simp [zu]) (by rw [Tk_a c71]; simp [zu]) (by simp [zu]))⟩

