/-! the reference: prices, dues -/
/-- the asks, one more than the coins -/
def MA (s : Int → Int) : Prop := ∀ j : Int, 76 ≤ j → j < 172 → 0 ≤ s j ∧ s j ≤ 1000000

def L_X12_price_7 (σ : zG) (who f : Int) : Nat → Int → Int → Int
  | 0, _, _ => 0
  | n + 1, be, q => if (σ 2 0) ≤ q then be else (if q = who then (L_X12_price_7 σ who f n be (q + 1)) else (if (σ 2 ((76 + (12 * q)) + f)) ≤ 0 then (L_X12_price_7 σ who f n be (q + 1)) else (if hb (σ 11 q) f then (if be ≤ ((σ 2 ((76 + (12 * q)) + f)) - 1) then (L_X12_price_7 σ who f n be (q + 1)) else (L_X12_price_7 σ who f n ((σ 2 ((76 + (12 * q)) + f)) - 1) (q + 1))) else (L_X12_price_7 σ who f n be (q + 1)))))
set_option maxRecDepth 20000 in
theorem loop_X12_price_7 (σ : zG) (who f : Int) (hA : MA (σ 2)) (hp : 0 ≤ σ 2 0 ∧ σ 2 0 ≤ 8) (hf : 0 ≤ f ∧ f < 12) : ∀ (n : Nat) (be q : Int) , 0 ≤ q → (σ 2 0 - q).toNat < n → zR SM 1 m_X12_price 7 [(0, zP 0), (1, .inl who), (2, .inl f), (3, .inl be), (4, .inl q)] [] σ (zEq (some (.inl (L_X12_price_7 σ who f n be q))) σ) := by
  intro n
  induction n with
  | zero => intro be q  h0 hmz; exact absurd hmz (Nat.not_lt_zero _)
  | succ n ih =>
    intro be q  h0 hmz
    refine zRx.iload 4 rfl dX12_price_7 ?_
    refine zRx.aload_n 0 rfl rfl dX12_price_9 ?_
    refine zRx.getR (a := 0) (b := 2) fl_12_33 rfl rfl dX12_price_10 ?_
    refine zRx.iconst ⟨by decide, by decide⟩ dX12_price_13 ?_
    refine zRx.ialdv (v := σ 2 0) rfl rfl (by decide) (by decide) dX12_price_14 ?_
    refine zRx.icmp_ge (tgt := 79) dX12_price_15 (by decide) (fun c15 => ?_) (fun c15 => ?_)
    · refine zRx.iload_n 3 rfl rfl dX12_price_79 ?_
      exact zR.iret rfl dX12_price_80 (by have he : L_X12_price_7 σ who f (n + 1) be q = be := (by rw [L_X12_price_7, if_pos c15]); rw [he]; exact ⟨rfl, rfl⟩)
    · have hz := hA ((76 + (12 * q)) + f) (by omega) (by omega)
      refine zRx.aload_n 0 rfl rfl dX12_price_18 ?_
      refine zRx.getR (a := 0) (b := 2) fl_12_33 rfl rfl dX12_price_19 ?_
      refine zRx.bipush ⟨by decide, by decide⟩ rfl dX12_price_22 ?_
      refine zRx.bipush ⟨by decide, by decide⟩ rfl dX12_price_24 ?_
      refine zRx.iload 4 rfl dX12_price_26 ?_
      refine zRx.imul ⟨by omega, by omega⟩ dX12_price_28 ?_
      refine zRx.iadd ⟨by omega, by omega⟩ dX12_price_29 ?_
      refine zRx.iload_n 2 rfl rfl dX12_price_30 ?_
      refine zRx.iadd ⟨by omega, by omega⟩ dX12_price_31 ?_
      refine zRx.ialdv (v := σ 2 ((76 + (12 * q)) + f)) rfl rfl (by omega) (by omega) dX12_price_32 ?_
      refine zRx.istore (ls' := [(0, zP 0), (1, .inl who), (2, .inl f), (3, .inl be), (4, .inl q), (5, .inl (σ 2 ((76 + (12 * q)) + f)))]) rfl (by decide) dX12_price_33 ?_
      refine zRx.iload 4 rfl dX12_price_35 ?_
      refine zRx.iload_n 1 rfl rfl dX12_price_37 ?_
      refine zRx.icmp_eq (tgt := 73) dX12_price_38 (by decide) (fun c38 => ?_) (fun c38 => ?_)
      · refine zRx.iinc (n := 1) (ls' := [(0, zP 0), (1, .inl who), (2, .inl f), (3, .inl be), (4, .inl (q + 1)), (5, .inl (σ 2 ((76 + (12 * q)) + f)))]) 4 rfl ⟨by omega, by omega⟩ rfl (by decide) dX12_price_73 ?_
        refine zRx.goto (tgt := 7) dX12_price_76 (by decide) ?_
        refine zRx.pick [0, 1, 2, 3, 4] (ls' := [(0, zP 0), (1, .inl who), (2, .inl f), (3, .inl be), (4, .inl (q + 1))]) rfl ?_
        have he : L_X12_price_7 σ who f (n + 1) be q = L_X12_price_7 σ who f n be (q + 1) := by rw [L_X12_price_7, if_neg (Int.not_le.mpr c15), if_pos c38]
        rw [he]
        exact ih be (q + 1)  (by omega) (by omega)
      · refine zRx.iload 5 rfl dX12_price_41 ?_
        refine zRx.if_le (tgt := 73) dX12_price_43 (by decide) (fun c43 => ?_) (fun c43 => ?_)
        · refine zRx.iinc (n := 1) (ls' := [(0, zP 0), (1, .inl who), (2, .inl f), (3, .inl be), (4, .inl (q + 1)), (5, .inl (σ 2 ((76 + (12 * q)) + f)))]) 4 rfl ⟨by omega, by omega⟩ rfl (by decide) dX12_price_73 ?_
          refine zRx.goto (tgt := 7) dX12_price_76 (by decide) ?_
          refine zRx.pick [0, 1, 2, 3, 4] (ls' := [(0, zP 0), (1, .inl who), (2, .inl f), (3, .inl be), (4, .inl (q + 1))]) rfl ?_
          have he : L_X12_price_7 σ who f (n + 1) be q = L_X12_price_7 σ who f n be (q + 1) := by rw [L_X12_price_7, if_neg (Int.not_le.mpr c15), if_neg c38, if_pos c43]
          rw [he]
          exact ih be (q + 1)  (by omega) (by omega)
        · refine zRx.aload_n 0 rfl rfl dX12_price_46 ?_
          refine zRx.getR (a := 0) (b := 11) fl_12_62 rfl rfl dX12_price_47 ?_
          refine zRx.iload 4 rfl dX12_price_50 ?_
          refine zRx.ialdv (v := σ 11 q) rfl rfl (by omega) (by omega) dX12_price_52 ?_
          refine zRx.iload_n 2 rfl rfl dX12_price_53 ?_
          refine zRx.cSi (w := .inl (b2 (hb (σ 11 q) f))) (M := m_X12_has) (av := [.inl (σ 11 q), .inl f]) cs_12_272 mk_X12_has (by decide) rfl (Nat.le_of_ble_eq_true rfl) dX12_price_54 (does_X12_has (σ 11 q) f SM σ) ?_
          refine zRx.if_eqB (tgt := 73) dX12_price_57 (by decide) (fun c57 => ?_) (fun c57 => ?_)
          · refine zRx.iinc (n := 1) (ls' := [(0, zP 0), (1, .inl who), (2, .inl f), (3, .inl be), (4, .inl (q + 1)), (5, .inl (σ 2 ((76 + (12 * q)) + f)))]) 4 rfl ⟨by omega, by omega⟩ rfl (by decide) dX12_price_73 ?_
            refine zRx.goto (tgt := 7) dX12_price_76 (by decide) ?_
            refine zRx.pick [0, 1, 2, 3, 4] (ls' := [(0, zP 0), (1, .inl who), (2, .inl f), (3, .inl be), (4, .inl (q + 1))]) rfl ?_
            have he : L_X12_price_7 σ who f (n + 1) be q = L_X12_price_7 σ who f n be (q + 1) := by rw [L_X12_price_7, if_neg (Int.not_le.mpr c15), if_neg c38, if_neg (Int.not_le.mpr c43), if_neg c57]
            rw [he]
            exact ih be (q + 1)  (by omega) (by omega)
          · refine zRx.iload 5 rfl dX12_price_60 ?_
            refine zRx.iconst ⟨by decide, by decide⟩ dX12_price_62 ?_
            refine zRx.isub ⟨by omega, by omega⟩ dX12_price_63 ?_
            refine zRx.iload_n 3 rfl rfl dX12_price_64 ?_
            refine zRx.icmp_ge (tgt := 73) dX12_price_65 (by decide) (fun c65 => ?_) (fun c65 => ?_)
            · refine zRx.iinc (n := 1) (ls' := [(0, zP 0), (1, .inl who), (2, .inl f), (3, .inl be), (4, .inl (q + 1)), (5, .inl (σ 2 ((76 + (12 * q)) + f)))]) 4 rfl ⟨by omega, by omega⟩ rfl (by decide) dX12_price_73 ?_
              refine zRx.goto (tgt := 7) dX12_price_76 (by decide) ?_
              refine zRx.pick [0, 1, 2, 3, 4] (ls' := [(0, zP 0), (1, .inl who), (2, .inl f), (3, .inl be), (4, .inl (q + 1))]) rfl ?_
              have he : L_X12_price_7 σ who f (n + 1) be q = L_X12_price_7 σ who f n be (q + 1) := by rw [L_X12_price_7, if_neg (Int.not_le.mpr c15), if_neg c38, if_neg (Int.not_le.mpr c43), if_pos c57, if_pos c65]
              rw [he]
              exact ih be (q + 1)  (by omega) (by omega)
            · refine zRx.iload 5 rfl dX12_price_68 ?_
              refine zRx.iconst ⟨by decide, by decide⟩ dX12_price_70 ?_
              refine zRx.isub ⟨by omega, by omega⟩ dX12_price_71 ?_
              refine zRx.istore_n (ls' := [(0, zP 0), (1, .inl who), (2, .inl f), (3, .inl ((σ 2 ((76 + (12 * q)) + f)) - 1)), (4, .inl q), (5, .inl (σ 2 ((76 + (12 * q)) + f)))]) rfl rfl (by decide) dX12_price_72 ?_
              refine zRx.iinc (n := 1) (ls' := [(0, zP 0), (1, .inl who), (2, .inl f), (3, .inl ((σ 2 ((76 + (12 * q)) + f)) - 1)), (4, .inl (q + 1)), (5, .inl (σ 2 ((76 + (12 * q)) + f)))]) 4 rfl ⟨by omega, by omega⟩ rfl (by decide) dX12_price_73 ?_
              refine zRx.goto (tgt := 7) dX12_price_76 (by decide) ?_
              refine zRx.pick [0, 1, 2, 3, 4] (ls' := [(0, zP 0), (1, .inl who), (2, .inl f), (3, .inl ((σ 2 ((76 + (12 * q)) + f)) - 1)), (4, .inl (q + 1))]) rfl ?_
              have he : L_X12_price_7 σ who f (n + 1) be q = L_X12_price_7 σ who f n ((σ 2 ((76 + (12 * q)) + f)) - 1) (q + 1) := by rw [L_X12_price_7, if_neg (Int.not_le.mpr c15), if_neg c38, if_neg (Int.not_le.mpr c43), if_pos c57, if_neg (Int.not_le.mpr c65)]
              rw [he]
              exact ih ((σ 2 ((76 + (12 * q)) + f)) - 1) (q + 1)  (by omega) (by omega)
def R_X12_price (σ : zG) (who f : Int) : Int := L_X12_price_7 σ who f 10 1000000000 0
set_option maxRecDepth 20000 in
theorem does_X12_price (σ : zG) (who f : Int) (hA : MA (σ 2)) (hp : 0 ≤ σ 2 0 ∧ σ 2 0 ≤ 8) (hf : 0 ≤ f ∧ f < 12)  : zDo SM 1 m_X12_price [zP 0, .inl who, .inl f] σ (zEq (some (.inl (R_X12_price σ who f))) σ) := by
  refine zDo.intro mk_X12_price (Nat.le_of_ble_eq_true rfl) ?_
  refine zRx.ldcw ⟨by decide, by decide⟩ kc_12_428 dX12_price_0 ?_
  refine zRx.istore_n (ls' := [(0, zP 0), (1, .inl who), (2, .inl f), (3, .inl 1000000000)]) rfl rfl (by decide) dX12_price_3 ?_
  refine zRx.iconst ⟨by decide, by decide⟩ dX12_price_4 ?_
  refine zRx.istore (ls' := [(0, zP 0), (1, .inl who), (2, .inl f), (3, .inl 1000000000), (4, .inl 0)]) rfl (by decide) dX12_price_5 ?_
  have he : R_X12_price σ who f = L_X12_price_7 σ who f 10 1000000000 0 := by rw [R_X12_price]
  rw [he]
  exact loop_X12_price_7 σ who f hA hp hf  10 1000000000 0  (by omega) (by omega)

