/-! the reference: its ledger, small methods -/
theorem toN {a : Int} (h : 0 ≤ a) : ∃ n : Nat, a = n := ⟨a.toNat, by omega⟩
theorem bor_pow {v f : Int} (hv : 0 ≤ v ∧ v < 4096) (hf : 0 ≤ f ∧ f < 12) : v ≤ bor v (bshl 1 f) ∧ bor v (bshl 1 f) < 4096 := by
  obtain ⟨n, rfl⟩ := toN hv.1
  obtain ⟨m, rfl⟩ := toN hf.1
  have hp : (2 : Nat) ^ m ≤ 2 ^ 11 := Nat.pow_le_pow_right (by decide) (by omega)
  have e1 : bshl 1 (m : Int) = ((1 * 2 ^ m : Nat) : Int) := bshl_nat (a := 1) (by omega) (by omega)
  rw [e1, bor_nat (by omega) (by omega)]
  have h1 : n ≤ n ||| 1 * 2 ^ m := Nat.left_le_or
  have h2 : n ||| 1 * 2 ^ m < 2 ^ 12 := Nat.or_lt_two_pow (by omega) (by omega)
  omega
theorem band_dec {v : Int} (h0 : 0 < v) (h1 : v < 65536) : 0 ≤ band v (v - 1) ∧ band v (v - 1) < v := by
  obtain ⟨n, rfl⟩ := toN (Int.le_of_lt h0)
  rw [show ((n : Int) - 1) = ((n - 1 : Nat) : Int) by omega, band_nat (by omega) (by omega)]
  have h2 : n &&& (n - 1) ≤ n - 1 := Nat.and_le_right
  omega
/-- what follows from what, in the reference's row -/
def MS (s : Int → Int) : Prop := s 2 ≤ 8 ∧ ∀ k : Int, 0 ≤ k → k < s 2 → (0 ≤ s (52 + (3 * k)) ∧ s (52 + (3 * k)) < 12) ∧ (0 ≤ s ((52 + (3 * k)) + 1) ∧ s ((52 + (3 * k)) + 1) < 12) ∧ (0 ≤ s ((52 + (3 * k)) + 2) ∧ s ((52 + (3 * k)) + 2) < 12)

def upM (v t : Int) : Int := Int.tdiv (w32 ((w32 (v * t)) + 9)) 10
set_option maxRecDepth 20000 in
theorem does_up (σ : zG) (v t : Int) (sh : List zSh) : zDo sh 0 m_X12_up [.inl v, .inl t] σ (zEq (some (.inl (upM v t))) σ) := by
  refine zDo.intro mk_X12_up (Nat.le_of_ble_eq_true rfl) ?_
  refine zRx.iload_n 0 rfl rfl dX12_up_0 ?_
  refine zRx.iload_n 1 rfl rfl dX12_up_1 ?_
  refine zRx.imulW dX12_up_2 ?_
  refine zRx.bipush ⟨by decide, by decide⟩ rfl dX12_up_3 ?_
  refine zRx.iaddW dX12_up_5 ?_
  refine zRx.bipush ⟨by decide, by decide⟩ rfl dX12_up_6 ?_
  refine zRx.idivT (by decide) dX12_up_8 ?_
  exact zR.iret rfl dX12_up_9 ⟨rfl, rfl⟩

def L_X12_many_4 (σ : zG) (x : Int) : Nat → Int → Int → Int
  | 0, _, _ => 0
  | n + 1, c, v => if v = 0 then c else (L_X12_many_4 σ x n (c + 1) (band v (v - 1)))
set_option maxRecDepth 20000 in
theorem loop_X12_many_4 (σ : zG) (x : Int) (sh : List zSh) (hx : 0 ≤ x ∧ x < 65536) : ∀ (n : Nat) (c v : Int) , 0 ≤ v ∧ v < 65536 → 0 ≤ c ∧ c + v ≤ 65536 → v.toNat < n → zR sh 0 m_X12_many 4 [(0, .inl x), (1, .inl c), (2, .inl v)] [] σ (zEq (some (.inl (L_X12_many_4 σ x n c v))) σ) := by
  intro n
  induction n with
  | zero => intro c v  h0 h1 hmz; exact absurd hmz (Nat.not_lt_zero _)
  | succ n ih =>
    intro c v  h0 h1 hmz
    refine zRx.iload_n 2 rfl rfl dX12_many_4 ?_
    refine zRx.if_eq (tgt := 20) dX12_many_5 (by decide) (fun c5 => ?_) (fun c5 => ?_)
    · refine zRx.iload_n 1 rfl rfl dX12_many_20 ?_
      exact zR.iret rfl dX12_many_21 (by have he : L_X12_many_4 σ x (n + 1) c v = c := (by rw [L_X12_many_4, if_pos c5]); rw [he]; exact ⟨rfl, rfl⟩)
    · refine zRx.iinc (n := 1) (ls' := [(0, .inl x), (1, .inl (c + 1)), (2, .inl v)]) 1 rfl ⟨by omega, by omega⟩ rfl (by decide) dX12_many_8 ?_
      refine zRx.iload_n 2 rfl rfl dX12_many_11 ?_
      refine zRx.iload_n 2 rfl rfl dX12_many_12 ?_
      refine zRx.iconst ⟨by decide, by decide⟩ dX12_many_13 ?_
      refine zRx.isub ⟨by omega, by omega⟩ dX12_many_14 ?_
      refine zRx.iand dX12_many_15 ?_
      refine zRx.istore_n (ls' := [(0, .inl x), (1, .inl (c + 1)), (2, .inl (band v (v - 1)))]) rfl rfl (by decide) dX12_many_16 ?_
      refine zRx.goto (tgt := 4) dX12_many_17 (by decide) ?_
      have he : L_X12_many_4 σ x (n + 1) c v = L_X12_many_4 σ x n (c + 1) (band v (v - 1)) := by rw [L_X12_many_4, if_neg c5]
      rw [he]
      exact ih (c + 1) (band v (v - 1))  (by have := band_dec (v := v) (by omega) (by omega); omega) (by have := band_dec (v := v) (by omega) (by omega); omega) (by have := band_dec (v := v) (by omega) (by omega); omega)
def R_X12_many (σ : zG) (x : Int) : Int := L_X12_many_4 σ x 70000 0 x
set_option maxRecDepth 20000 in
theorem does_X12_many (σ : zG) (x : Int) (sh : List zSh) (hx : 0 ≤ x ∧ x < 65536)  : zDo sh 0 m_X12_many [.inl x] σ (zEq (some (.inl (R_X12_many σ x))) σ) := by
  refine zDo.intro mk_X12_many (Nat.le_of_ble_eq_true rfl) ?_
  refine zRx.iconst ⟨by decide, by decide⟩ dX12_many_0 ?_
  refine zRx.istore_n (ls' := [(0, .inl x), (1, .inl 0)]) rfl rfl (by decide) dX12_many_1 ?_
  refine zRx.iload_n 0 rfl rfl dX12_many_2 ?_
  refine zRx.istore_n (ls' := [(0, .inl x), (1, .inl 0), (2, .inl x)]) rfl rfl (by decide) dX12_many_3 ?_
  have he : R_X12_many σ x = L_X12_many_4 σ x 70000 0 x := by rw [R_X12_many]
  rw [he]
  exact loop_X12_many_4 σ x sh hx  70000 0 x  (by omega) (by omega) (by omega)

def S_X12_follows_14 (σ : zG) (kn : Int) : Nat → Int → Int → Int × Int
  | 0, v, q => (v, q)
  | n + 1, v, q => if (σ 2 2) ≤ q then (v, q) else (if hb v (σ 2 (52 + (3 * q))) then (if hb v (σ 2 ((52 + (3 * q)) + 1)) then (S_X12_follows_14 σ kn n (bor v (bshl 1 (σ 2 ((52 + (3 * q)) + 2)))) (q + 1)) else (S_X12_follows_14 σ kn n v (q + 1))) else (S_X12_follows_14 σ kn n v (q + 1)))
set_option maxRecDepth 20000 in
theorem seg_X12_follows_14 (σ : zG) (kn : Int) (hs : MS (σ 2)) (was : Int) : ∀ (n : Nat) (v q : Int) (X : zX), 0 ≤ q → (9 - q).toNat < n → zRx none 1 m_X12_follows SM 90 [(0, zP 0), (1, .inl kn), (2, .inl ((S_X12_follows_14 σ kn n v q).1)), (3, .inl was), (4, .inl ((S_X12_follows_14 σ kn n v q).2))] [] σ X → zRx none 1 m_X12_follows SM 14 [(0, zP 0), (1, .inl kn), (2, .inl v), (3, .inl was), (4, .inl q)] [] σ X := by
  intro n
  induction n with
  | zero => intro v q  X h0 hmz; exact absurd hmz (Nat.not_lt_zero _)
  | succ n ih =>
    intro v q  X h0 hmz K
    have hs2 := hs.1
    refine zRx.iload 4 rfl dX12_follows_14 ?_
    refine zRx.aload_n 0 rfl rfl dX12_follows_16 ?_
    refine zRx.getR (a := 0) (b := 2) fl_12_33 rfl rfl dX12_follows_17 ?_
    refine zRx.iconst ⟨by decide, by decide⟩ dX12_follows_20 ?_
    refine zRx.ialdv (v := σ 2 2) rfl rfl (by decide) (by decide) dX12_follows_21 ?_
    refine zRx.icmp_ge (tgt := 90) dX12_follows_22 (by decide) (fun c22 => ?_) (fun c22 => ?_)
    · have he : S_X12_follows_14 σ kn (n + 1) v q = (v, q) := by rw [S_X12_follows_14, if_pos c22]
      rw [he] at K
      exact K
    · refine zRx.iload_n 2 rfl rfl dX12_follows_25 ?_
      refine zRx.aload_n 0 rfl rfl dX12_follows_26 ?_
      refine zRx.getR (a := 0) (b := 2) fl_12_33 rfl rfl dX12_follows_27 ?_
      refine zRx.bipush ⟨by decide, by decide⟩ rfl dX12_follows_30 ?_
      refine zRx.iconst ⟨by decide, by decide⟩ dX12_follows_32 ?_
      refine zRx.iload 4 rfl dX12_follows_33 ?_
      refine zRx.imul ⟨by omega, by omega⟩ dX12_follows_35 ?_
      refine zRx.iadd ⟨by omega, by omega⟩ dX12_follows_36 ?_
      refine zRx.ialdv (v := σ 2 (52 + (3 * q))) rfl rfl (by omega) (by omega) dX12_follows_37 ?_
      refine zRx.cSi (w := .inl (b2 (hb v (σ 2 (52 + (3 * q)))))) (M := m_X12_has) (av := [.inl v, .inl (σ 2 (52 + (3 * q)))]) cs_12_272 mk_X12_has (by decide) rfl (Nat.le_of_ble_eq_true rfl) dX12_follows_38 (does_X12_has v (σ 2 (52 + (3 * q))) SM σ) ?_
      refine zRx.if_eqB (tgt := 84) dX12_follows_41 (by decide) (fun c41 => ?_) (fun c41 => ?_)
      · refine zRx.iinc (n := 1) (ls' := [(0, zP 0), (1, .inl kn), (2, .inl v), (3, .inl was), (4, .inl (q + 1))]) 4 rfl ⟨by omega, by omega⟩ rfl (by decide) dX12_follows_84 ?_
        refine zRx.goto (tgt := 14) dX12_follows_87 (by decide) ?_
        have he : S_X12_follows_14 σ kn (n + 1) v q = S_X12_follows_14 σ kn n v (q + 1) := by rw [S_X12_follows_14, if_neg (Int.not_le.mpr c22), if_neg c41]
        rw [he] at K
        exact ih v (q + 1)  _ (by omega) (by omega) K
      · refine zRx.iload_n 2 rfl rfl dX12_follows_44 ?_
        refine zRx.aload_n 0 rfl rfl dX12_follows_45 ?_
        refine zRx.getR (a := 0) (b := 2) fl_12_33 rfl rfl dX12_follows_46 ?_
        refine zRx.bipush ⟨by decide, by decide⟩ rfl dX12_follows_49 ?_
        refine zRx.iconst ⟨by decide, by decide⟩ dX12_follows_51 ?_
        refine zRx.iload 4 rfl dX12_follows_52 ?_
        refine zRx.imul ⟨by omega, by omega⟩ dX12_follows_54 ?_
        refine zRx.iadd ⟨by omega, by omega⟩ dX12_follows_55 ?_
        refine zRx.iconst ⟨by decide, by decide⟩ dX12_follows_56 ?_
        refine zRx.iadd ⟨by omega, by omega⟩ dX12_follows_57 ?_
        refine zRx.ialdv (v := σ 2 ((52 + (3 * q)) + 1)) rfl rfl (by omega) (by omega) dX12_follows_58 ?_
        refine zRx.cSi (w := .inl (b2 (hb v (σ 2 ((52 + (3 * q)) + 1))))) (M := m_X12_has) (av := [.inl v, .inl (σ 2 ((52 + (3 * q)) + 1))]) cs_12_272 mk_X12_has (by decide) rfl (Nat.le_of_ble_eq_true rfl) dX12_follows_59 (does_X12_has v (σ 2 ((52 + (3 * q)) + 1)) SM σ) ?_
        refine zRx.if_eqB (tgt := 84) dX12_follows_62 (by decide) (fun c62 => ?_) (fun c62 => ?_)
        · refine zRx.iinc (n := 1) (ls' := [(0, zP 0), (1, .inl kn), (2, .inl v), (3, .inl was), (4, .inl (q + 1))]) 4 rfl ⟨by omega, by omega⟩ rfl (by decide) dX12_follows_84 ?_
          refine zRx.goto (tgt := 14) dX12_follows_87 (by decide) ?_
          have he : S_X12_follows_14 σ kn (n + 1) v q = S_X12_follows_14 σ kn n v (q + 1) := by rw [S_X12_follows_14, if_neg (Int.not_le.mpr c22), if_pos c41, if_neg c62]
          rw [he] at K
          exact ih v (q + 1)  _ (by omega) (by omega) K
        · refine zRx.iload_n 2 rfl rfl dX12_follows_65 ?_
          refine zRx.iconst ⟨by decide, by decide⟩ dX12_follows_66 ?_
          refine zRx.aload_n 0 rfl rfl dX12_follows_67 ?_
          refine zRx.getR (a := 0) (b := 2) fl_12_33 rfl rfl dX12_follows_68 ?_
          refine zRx.bipush ⟨by decide, by decide⟩ rfl dX12_follows_71 ?_
          refine zRx.iconst ⟨by decide, by decide⟩ dX12_follows_73 ?_
          refine zRx.iload 4 rfl dX12_follows_74 ?_
          refine zRx.imul ⟨by omega, by omega⟩ dX12_follows_76 ?_
          refine zRx.iadd ⟨by omega, by omega⟩ dX12_follows_77 ?_
          refine zRx.iconst ⟨by decide, by decide⟩ dX12_follows_78 ?_
          refine zRx.iadd ⟨by omega, by omega⟩ dX12_follows_79 ?_
          refine zRx.ialdv (v := σ 2 ((52 + (3 * q)) + 2)) rfl rfl (by omega) (by omega) dX12_follows_80 ?_
          refine zRx.ishl dX12_follows_81 ?_
          refine zRx.ior dX12_follows_82 ?_
          refine zRx.istore_n (ls' := [(0, zP 0), (1, .inl kn), (2, .inl (bor v (bshl 1 (σ 2 ((52 + (3 * q)) + 2))))), (3, .inl was), (4, .inl q)]) rfl rfl (by decide) dX12_follows_83 ?_
          refine zRx.iinc (n := 1) (ls' := [(0, zP 0), (1, .inl kn), (2, .inl (bor v (bshl 1 (σ 2 ((52 + (3 * q)) + 2))))), (3, .inl was), (4, .inl (q + 1))]) 4 rfl ⟨by omega, by omega⟩ rfl (by decide) dX12_follows_84 ?_
          refine zRx.goto (tgt := 14) dX12_follows_87 (by decide) ?_
          have he : S_X12_follows_14 σ kn (n + 1) v q = S_X12_follows_14 σ kn n (bor v (bshl 1 (σ 2 ((52 + (3 * q)) + 2)))) (q + 1) := by rw [S_X12_follows_14, if_neg (Int.not_le.mpr c22), if_pos c41, if_pos c62]
          rw [he] at K
          exact ih (bor v (bshl 1 (σ 2 ((52 + (3 * q)) + 2)))) (q + 1)  _ (by omega) (by omega) K

theorem fol_in (σ : zG) (kn : Int) (hs : MS (σ 2)) : ∀ (n : Nat) (v q : Int), 0 ≤ q → (0 ≤ v ∧ v < 4096) → v ≤ (S_X12_follows_14 σ kn n v q).1 ∧ (S_X12_follows_14 σ kn n v q).1 < 4096
  | 0, v, q, h0, h => ⟨Int.le_refl _, h.2⟩
  | n + 1, v, q, h0, h => by
    rw [S_X12_follows_14]
    split
    · exact ⟨Int.le_refl _, h.2⟩
    · next hq =>
      have h1 := hs.2 q h0 (by omega)
      split
      · split
        · have h2 := bor_pow h h1.2.2
          have h3 := fol_in σ kn hs n (bor v (bshl 1 (σ 2 ((52 + (3 * q)) + 2)))) (q + 1) (by omega) (by omega)
          omega
        · exact fol_in σ kn hs n v (q + 1) (by omega) h
      · exact fol_in σ kn hs n v (q + 1) (by omega) h


def L_X12_follows_4 (σ : zG) (kn : Int) : Nat → Int → Int → Int
  | 0, _, _ => 0
  | n + 1, v, was => if v = was then v else (L_X12_follows_4 σ kn n ((S_X12_follows_14 σ kn 10 v 0).1) v)
set_option maxRecDepth 20000 in
theorem loop_X12_follows_4 (σ : zG) (kn : Int) (hs : MS (σ 2)) : ∀ (n : Nat) (v was : Int) , 0 ≤ v ∧ v < 4096 → (2 * (4096 - v) + (if v = was then 0 else 1)).toNat < n → zR SM 1 m_X12_follows 4 [(0, zP 0), (1, .inl kn), (2, .inl v), (3, .inl was)] [] σ (zEq (some (.inl (L_X12_follows_4 σ kn n v was))) σ) := by
  intro n
  induction n with
  | zero => intro v was  hv hmz; exact absurd hmz (Nat.not_lt_zero _)
  | succ n ih =>
    intro v was  hv hmz
    refine zRx.iload_n 2 rfl rfl dX12_follows_4 ?_
    refine zRx.iload_n 3 rfl rfl dX12_follows_5 ?_
    refine zRx.icmp_eq (tgt := 93) dX12_follows_6 (by decide) (fun c6 => ?_) (fun c6 => ?_)
    · refine zRx.iload_n 2 rfl rfl dX12_follows_93 ?_
      exact zR.iret rfl dX12_follows_94 (by have he : L_X12_follows_4 σ kn (n + 1) v was = v := (by rw [L_X12_follows_4, if_pos c6]); rw [he]; exact ⟨rfl, rfl⟩)
    · refine zRx.iload_n 2 rfl rfl dX12_follows_9 ?_
      refine zRx.istore_n (ls' := [(0, zP 0), (1, .inl kn), (2, .inl v), (3, .inl v)]) rfl rfl (by decide) dX12_follows_10 ?_
      refine zRx.iconst ⟨by decide, by decide⟩ dX12_follows_11 ?_
      refine zRx.istore (ls' := [(0, zP 0), (1, .inl kn), (2, .inl v), (3, .inl v), (4, .inl 0)]) rfl (by decide) dX12_follows_12 ?_
      refine seg_X12_follows_14 σ kn hs v 10 v 0  _ (by omega) (by omega) ?_
      refine zRx.goto (tgt := 4) dX12_follows_90 (by decide) ?_
      refine zRx.pick [0, 1, 2, 3] (ls' := [(0, zP 0), (1, .inl kn), (2, .inl ((S_X12_follows_14 σ kn 10 v 0).1)), (3, .inl v)]) rfl ?_
      have he : L_X12_follows_4 σ kn (n + 1) v was = L_X12_follows_4 σ kn n ((S_X12_follows_14 σ kn 10 v 0).1) v := by rw [L_X12_follows_4, if_neg c6]
      rw [he]
      exact ih ((S_X12_follows_14 σ kn 10 v 0).1) v  (by have := fol_in σ kn hs 10 v 0 (by decide) hv; omega) (by have := fol_in σ kn hs 10 v 0 (by decide) hv; rw [if_neg c6] at hmz; split <;> omega)
def R_X12_follows (σ : zG) (kn : Int) : Int := L_X12_follows_4 σ kn 10000 kn (-1)
set_option maxRecDepth 20000 in
theorem does_X12_follows (σ : zG) (kn : Int) (hs : MS (σ 2)) (hk : 0 ≤ kn ∧ kn < 4096)  : zDo SM 1 m_X12_follows [zP 0, .inl kn] σ (zEq (some (.inl (R_X12_follows σ kn))) σ) := by
  refine zDo.intro mk_X12_follows (Nat.le_of_ble_eq_true rfl) ?_
  refine zRx.iload_n 1 rfl rfl dX12_follows_0 ?_
  refine zRx.istore_n (ls' := [(0, zP 0), (1, .inl kn), (2, .inl kn)]) rfl rfl (by decide) dX12_follows_1 ?_
  refine zRx.iconst ⟨by decide, by decide⟩ dX12_follows_2 ?_
  refine zRx.istore_n (ls' := [(0, zP 0), (1, .inl kn), (2, .inl kn), (3, .inl (-1))]) rfl rfl (by decide) dX12_follows_3 ?_
  have he : R_X12_follows σ kn = L_X12_follows_4 σ kn 10000 kn (-1) := by rw [R_X12_follows]
  rw [he]
  exact loop_X12_follows_4 σ kn hs  10000 kn (-1)  hk (by split <;> omega)

theorem fol_out (σ : zG) (kn : Int) (hs : MS (σ 2)) : ∀ (n : Nat) (v was : Int), (0 ≤ v ∧ v < 4096) → (2 * (4096 - v) + (if v = was then 0 else 1)).toNat < n → v ≤ L_X12_follows_4 σ kn n v was ∧ L_X12_follows_4 σ kn n v was < 4096
  | 0, v, was, h, hm => absurd hm (Nat.not_lt_zero _)
  | n + 1, v, was, h, hm => by
    rw [L_X12_follows_4]
    split
    · exact ⟨Int.le_refl _, h.2⟩
    · next hq =>
      have h1 := fol_in σ kn hs 10 v 0 (by decide) h
      have h2 := fol_out σ kn hs n (S_X12_follows_14 σ kn 10 v 0).1 v (by omega) (by rw [if_neg hq] at hm; split <;> omega)
      omega
theorem fol_r (σ : zG) (kn : Int) (hs : MS (σ 2)) (h : 0 ≤ kn ∧ kn < 4096) : kn ≤ R_X12_follows σ kn ∧ R_X12_follows σ kn < 4096 := by
  unfold R_X12_follows
  exact fol_out σ kn hs _ _ _ h (by split <;> omega)

