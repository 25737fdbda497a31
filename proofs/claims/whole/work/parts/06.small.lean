/-! small methods without a world -/
abbrev hb (b i : Int) : Prop := ¬ band (bshr b i) 1 = 0
theorem band1 (x : Int) : band x 1 = 0 ∨ band x 1 = 1 := by
  unfold band
  have h : ∀ y : Int32, (y &&& 1).toInt = 0 ∨ (y &&& 1).toInt = 1 := by
    intro y
    have h1 : (y &&& 1).toBitVec.toNat = y.toBitVec.toNat % 2 := by
      rw [Int32.toBitVec_and, BitVec.toNat_and]
      exact Nat.and_one_is_mod _
    have h2 : (y &&& 1).toInt = ((y &&& 1).toBitVec.toNat : Int) := by
      rw [← Int32.toInt_toBitVec, BitVec.toInt_eq_toNat_of_lt]
      omega
    rw [h2, h1]
    omega
  exact h (iv x)
theorem wbyte_r (a : Int) : -128 ≤ wbyte a ∧ wbyte a < 128 := ⟨Int8.le_toInt _, Int8.toInt_lt _⟩

set_option maxRecDepth 20000 in
theorem does_X11_hasBit (b i : Int) (sh : List zSh) (σ : zG) : zDo sh 0 m_X11_hasBit [.inl b, .inl i] σ (zEq (some (.inl (b2 (hb b i)))) σ) := by
  refine zDo.intro mk_X11_hasBit (Nat.le_of_ble_eq_true rfl) ?_
  refine zRx.iload_n 0 rfl rfl dX11_hasBit_0 ?_
  refine zRx.iload_n 1 rfl rfl dX11_hasBit_1 ?_
  refine zRx.ishr dX11_hasBit_2 ?_
  refine zRx.iconst ⟨by decide, by decide⟩ dX11_hasBit_3 ?_
  refine zRx.iand dX11_hasBit_4 ?_
  refine zRx.if_eq (tgt := 12) dX11_hasBit_5 (by decide) (fun c5 => ?_) (fun c5 => ?_)
  · refine zRx.iconst ⟨by decide, by decide⟩ dX11_hasBit_12 ?_
    exact zR.zret rfl ⟨by decide, by decide⟩ dX11_hasBit_13 ⟨by rw [b2_f (fun q => q c5)], rfl⟩
  · refine zRx.iconst ⟨by decide, by decide⟩ dX11_hasBit_8 ?_
    refine zRx.goto (tgt := 13) dX11_hasBit_9 (by decide) ?_
    exact zR.zret rfl ⟨by decide, by decide⟩ dX11_hasBit_13 ⟨by rw [b2_t c5], rfl⟩

set_option maxRecDepth 20000 in
theorem does_X12_has (b i : Int) (sh : List zSh) (σ : zG) : zDo sh 0 m_X12_has [.inl b, .inl i] σ (zEq (some (.inl (b2 (hb b i)))) σ) := by
  refine zDo.intro mk_X12_has (Nat.le_of_ble_eq_true rfl) ?_
  refine zRx.iload_n 0 rfl rfl dX12_has_0 ?_
  refine zRx.iload_n 1 rfl rfl dX12_has_1 ?_
  refine zRx.ishr dX12_has_2 ?_
  refine zRx.iconst ⟨by decide, by decide⟩ dX12_has_3 ?_
  refine zRx.iand dX12_has_4 ?_
  refine zRx.iconst ⟨by decide, by decide⟩ dX12_has_5 ?_
  refine zRx.icmp_ne (tgt := 13) dX12_has_6 (by decide) (fun c6 => ?_) (fun c6 => ?_)
  · refine zRx.iconst ⟨by decide, by decide⟩ dX12_has_13 ?_
    exact zR.zret rfl ⟨by decide, by decide⟩ dX12_has_14 ⟨by rw [b2_f (fun q => q ((band1 _).resolve_right c6))], rfl⟩
  · refine zRx.iconst ⟨by decide, by decide⟩ dX12_has_9 ?_
    refine zRx.goto (tgt := 14) dX12_has_10 (by decide) ?_
    exact zR.zret rfl ⟨by decide, by decide⟩ dX12_has_14 ⟨by rw [b2_t (show ¬ band (bshr b i) 1 = 0 by rw [c6]; decide)], rfl⟩

set_option maxRecDepth 20000 in
theorem does_X12_isIn (v lo hi : Int) (sh : List zSh) (σ : zG) : zDo sh 0 m_X12_isIn [.inl v, .inl lo, .inl hi] σ (zEq (some (.inl (b2 (lo ≤ v ∧ v ≤ hi)))) σ) := by
  refine zDo.intro mk_X12_isIn (Nat.le_of_ble_eq_true rfl) ?_
  refine zRx.iload_n 0 rfl rfl dX12_isIn_0 ?_
  refine zRx.iload_n 1 rfl rfl dX12_isIn_1 ?_
  refine zRx.icmp_lt (tgt := 14) dX12_isIn_2 (by decide) (fun c2 => ?_) (fun c2 => ?_)
  · refine zRx.iconst ⟨by decide, by decide⟩ dX12_isIn_14 ?_
    exact zR.zret rfl ⟨by decide, by decide⟩ dX12_isIn_15 ⟨by rw [b2_f (by omega)], rfl⟩
  · refine zRx.iload_n 0 rfl rfl dX12_isIn_5 ?_
    refine zRx.iload_n 2 rfl rfl dX12_isIn_6 ?_
    refine zRx.icmp_gt (tgt := 14) dX12_isIn_7 (by decide) (fun c7 => ?_) (fun c7 => ?_)
    · refine zRx.iconst ⟨by decide, by decide⟩ dX12_isIn_14 ?_
      exact zR.zret rfl ⟨by decide, by decide⟩ dX12_isIn_15 ⟨by rw [b2_f (by omega)], rfl⟩
    · refine zRx.iconst ⟨by decide, by decide⟩ dX12_isIn_10 ?_
      refine zRx.goto (tgt := 15) dX12_isIn_11 (by decide) ?_
      exact zR.zret rfl ⟨by decide, by decide⟩ dX12_isIn_15 ⟨by rw [b2_t (by omega)], rfl⟩

set_option maxRecDepth 20000 in
theorem does_X12_isSmall (v : Int) (sh : List zSh) (σ : zG) : zDo sh 0 m_X12_isSmall [.inl v] σ (zEq (some (.inl (b2 (97 ≤ v ∧ v ≤ 122)))) σ) := by
  refine zDo.intro mk_X12_isSmall (Nat.le_of_ble_eq_true rfl) ?_
  refine zRx.iload_n 0 rfl rfl dX12_isSmall_0 ?_
  refine zRx.bipush ⟨by decide, by decide⟩ rfl dX12_isSmall_1 ?_
  refine zRx.icmp_lt (tgt := 16) dX12_isSmall_3 (by decide) (fun c3 => ?_) (fun c3 => ?_)
  · refine zRx.iconst ⟨by decide, by decide⟩ dX12_isSmall_16 ?_
    exact zR.zret rfl ⟨by decide, by decide⟩ dX12_isSmall_17 ⟨by rw [b2_f (by omega)], rfl⟩
  · refine zRx.iload_n 0 rfl rfl dX12_isSmall_6 ?_
    refine zRx.bipush ⟨by decide, by decide⟩ rfl dX12_isSmall_7 ?_
    refine zRx.icmp_gt (tgt := 16) dX12_isSmall_9 (by decide) (fun c9 => ?_) (fun c9 => ?_)
    · refine zRx.iconst ⟨by decide, by decide⟩ dX12_isSmall_16 ?_
      exact zR.zret rfl ⟨by decide, by decide⟩ dX12_isSmall_17 ⟨by rw [b2_f (by omega)], rfl⟩
    · refine zRx.iconst ⟨by decide, by decide⟩ dX12_isSmall_12 ?_
      refine zRx.goto (tgt := 17) dX12_isSmall_13 (by decide) ?_
      exact zR.zret rfl ⟨by decide, by decide⟩ dX12_isSmall_17 ⟨by rw [b2_t (by omega)], rfl⟩

set_option maxRecDepth 20000 in
theorem does_X12_isDigit (v : Int) (sh : List zSh) (σ : zG) : zDo sh 0 m_X12_isDigit [.inl v] σ (zEq (some (.inl (b2 (48 ≤ v ∧ v ≤ 57)))) σ) := by
  refine zDo.intro mk_X12_isDigit (Nat.le_of_ble_eq_true rfl) ?_
  refine zRx.iload_n 0 rfl rfl dX12_isDigit_0 ?_
  refine zRx.bipush ⟨by decide, by decide⟩ rfl dX12_isDigit_1 ?_
  refine zRx.icmp_lt (tgt := 16) dX12_isDigit_3 (by decide) (fun c3 => ?_) (fun c3 => ?_)
  · refine zRx.iconst ⟨by decide, by decide⟩ dX12_isDigit_16 ?_
    exact zR.zret rfl ⟨by decide, by decide⟩ dX12_isDigit_17 ⟨by rw [b2_f (by omega)], rfl⟩
  · refine zRx.iload_n 0 rfl rfl dX12_isDigit_6 ?_
    refine zRx.bipush ⟨by decide, by decide⟩ rfl dX12_isDigit_7 ?_
    refine zRx.icmp_gt (tgt := 16) dX12_isDigit_9 (by decide) (fun c9 => ?_) (fun c9 => ?_)
    · refine zRx.iconst ⟨by decide, by decide⟩ dX12_isDigit_16 ?_
      exact zR.zret rfl ⟨by decide, by decide⟩ dX12_isDigit_17 ⟨by rw [b2_f (by omega)], rfl⟩
    · refine zRx.iconst ⟨by decide, by decide⟩ dX12_isDigit_12 ?_
      refine zRx.goto (tgt := 17) dX12_isDigit_13 (by decide) ?_
      exact zR.zret rfl ⟨by decide, by decide⟩ dX12_isDigit_17 ⟨by rw [b2_t (by omega)], rfl⟩

set_option maxRecDepth 20000 in
theorem does_X11_isLength (v : Int) (sh : List zSh) (σ : zG) : zDo sh 0 m_X11_isLength [.inl v] σ (zEq (some (.inl (b2 (0 ≤ v ∧ v < 125)))) σ) := by
  refine zDo.intro mk_X11_isLength (Nat.le_of_ble_eq_true rfl) ?_
  refine zRx.iload_n 0 rfl rfl dX11_isLength_0 ?_
  refine zRx.if_lt (tgt := 14) dX11_isLength_1 (by decide) (fun c1 => ?_) (fun c1 => ?_)
  · refine zRx.iconst ⟨by decide, by decide⟩ dX11_isLength_14 ?_
    exact zR.zret rfl ⟨by decide, by decide⟩ dX11_isLength_15 ⟨by rw [b2_f (by omega)], rfl⟩
  · refine zRx.iload_n 0 rfl rfl dX11_isLength_4 ?_
    refine zRx.bipush ⟨by decide, by decide⟩ rfl dX11_isLength_5 ?_
    refine zRx.icmp_ge (tgt := 14) dX11_isLength_7 (by decide) (fun c7 => ?_) (fun c7 => ?_)
    · refine zRx.iconst ⟨by decide, by decide⟩ dX11_isLength_14 ?_
      exact zR.zret rfl ⟨by decide, by decide⟩ dX11_isLength_15 ⟨by rw [b2_f (by omega)], rfl⟩
    · refine zRx.iconst ⟨by decide, by decide⟩ dX11_isLength_10 ?_
      refine zRx.goto (tgt := 15) dX11_isLength_11 (by decide) ?_
      exact zR.zret rfl ⟨by decide, by decide⟩ dX11_isLength_15 ⟨by rw [b2_t (by omega)], rfl⟩
