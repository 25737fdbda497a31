/-! the ledger, method by method -/
section ZLX
variable {sh : List zSh} {al : zAl} {d : Nat} {Y : zMI} {pc : Nat} {ls : List (Nat × zV)} {st : List zV} {σ : zG} {X : zX}
theorem tdiv_r {a b : Int} (ha : r32 a) (hb : 0 < b) : r32 (Int.tdiv a b) := by
  unfold r32 at *
  rcases Int.le_total 0 a with h | h
  · rw [Int.tdiv_eq_ediv_of_nonneg h]
    have h1 := Int.ediv_le_self b h
    have h2 := Int.ediv_nonneg h (by omega : 0 ≤ b)
    omega
  · have h3 : Int.tdiv a b = -(Int.tdiv (-a) b) := by rw [Int.neg_tdiv, Int.neg_neg]
    rw [h3, Int.tdiv_eq_ediv_of_nonneg (by omega : 0 ≤ -a)]
    have h1 := Int.ediv_le_self b (by omega : 0 ≤ -a)
    have h2 := Int.ediv_nonneg (by omega : 0 ≤ -a) (by omega : 0 ≤ b)
    omega
theorem zRx.idivT {a b : Int} (hb : 0 < b) (hd : decode Y.2.1 pc = .ok (.idiv, 1)) (h : zRx al d Y sh (pc + 1) ls (.inl (Int.tdiv a b) :: st) σ X) : zRx al d Y sh pc ls (.inl b :: .inl a :: st) σ X := by
  intro p l e R s m args below meth c k cf sf Z hF hX H locs la hW hL hS
  have rb : r32 b := hS.1
  have ra : r32 a := hS.2.1
  have hh := h p l e R s m args below meth c k cf sf Z hF hX H locs la hW hL ⟨tdiv_r ra hb, hS.2.2⟩
  have e1 : iv (Int.tdiv a b) = iv a / iv b := by
    apply Int32.toInt_inj.mp
    rw [Int32.toInt_div, iv_toInt ra, iv_toInt rb, iv_toInt (tdiv_r ra hb)]
    have h2 := tdiv_r ra hb
    unfold r32 at h2
    simp only [Int.bmod]
    omega
  rw [List.map_cons, show tv k (.inl (Int.tdiv a b)) = .int _ from congrArg Value.int e1] at hh
  exact lv_idiv hF.1.1 hF.1.2.1 hd (fun h0 => by rw [← iv_0, iv_inj rb r32_0] at h0; omega) hh
end ZLX

def V_cutUpW (a b : Int) : Int := if b ≤ 0 then 0 else (Int.tdiv (w32 ((w32 (a + b)) - 1)) b)
set_option maxRecDepth 20000 in
theorem does_cutUpW (σ : zG) (a b : Int) (sh : List zSh) : zDo sh 0 m_X11_cutUp [.inl a, .inl b] σ (zEq (some (.inl (V_cutUpW a b))) σ) := by
  refine zDo.intro mk_X11_cutUp (Nat.le_of_ble_eq_true rfl) ?_
  refine zRx.iload_n 1 rfl rfl dX11_cutUp_0 ?_
  refine zRx.if_le (tgt := 14) dX11_cutUp_1 (by decide) (fun c1 => ?_) (fun c1 => ?_)
  · refine zRx.iconst ⟨by decide, by decide⟩ dX11_cutUp_14 ?_
    exact zR.iret rfl dX11_cutUp_15 ⟨by unfold V_cutUpW; rw [if_pos c1], rfl⟩
  · refine zRx.iload_n 0 rfl rfl dX11_cutUp_4 ?_
    refine zRx.iload_n 1 rfl rfl dX11_cutUp_5 ?_
    refine zRx.iaddW dX11_cutUp_6 ?_
    refine zRx.iconst ⟨by decide, by decide⟩ dX11_cutUp_7 ?_
    refine zRx.isubW dX11_cutUp_8 ?_
    refine zRx.iload_n 1 rfl rfl dX11_cutUp_9 ?_
    refine zRx.idivT (by omega) dX11_cutUp_10 ?_
    refine zRx.goto (tgt := 15) dX11_cutUp_11 (by decide) ?_
    exact zR.iret rfl dX11_cutUp_15 ⟨by unfold V_cutUpW; rw [if_neg (Int.not_le.mpr c1)], rfl⟩

set_option maxRecDepth 20000 in
theorem does_X9_hasWho (σ : zG) (who : Int)  : zDo SC 0 m_X9_hasWho [zP 5, .inl who] σ (zEq (some (.inl (b2 (0 ≤ who ∧ who < σ 5 0)))) σ) := by
  refine zDo.intro mk_X9_hasWho (Nat.le_of_ble_eq_true rfl) ?_
  refine zRx.iload_n 1 rfl rfl dX9_hasWho_0 ?_
  refine zRx.if_lt (tgt := 16) dX9_hasWho_1 (by decide) (fun c1 => ?_) (fun c1 => ?_)
  · refine zRx.iconst ⟨by decide, by decide⟩ dX9_hasWho_16 ?_
    exact zR.zret rfl ⟨by decide, by decide⟩ dX9_hasWho_17 ⟨by rw [b2_f (by omega)], rfl⟩
  · refine zRx.iload_n 1 rfl rfl dX9_hasWho_4 ?_
    refine zRx.aload_n 0 rfl rfl dX9_hasWho_5 ?_
    refine zRx.getIv (a := 5) (ji := 0) (v := σ 5 0) rfl fl_9_57 rfl rfl rfl dX9_hasWho_6 ?_
    refine zRx.icmp_ge (tgt := 16) dX9_hasWho_9 (by decide) (fun c9 => ?_) (fun c9 => ?_)
    · refine zRx.iconst ⟨by decide, by decide⟩ dX9_hasWho_16 ?_
      exact zR.zret rfl ⟨by decide, by decide⟩ dX9_hasWho_17 ⟨by rw [b2_f (by omega)], rfl⟩
    · refine zRx.iconst ⟨by decide, by decide⟩ dX9_hasWho_12 ?_
      refine zRx.goto (tgt := 17) dX9_hasWho_13 (by decide) ?_
      exact zR.zret rfl ⟨by decide, by decide⟩ dX9_hasWho_17 ⟨by rw [b2_t (by omega)], rfl⟩

set_option maxRecDepth 20000 in
theorem does_X9_hasFact (σ : zG) (f : Int)  : zDo SC 0 m_X9_hasFact [zP 5, .inl f] σ (zEq (some (.inl (b2 (0 ≤ f ∧ f < σ 5 1)))) σ) := by
  refine zDo.intro mk_X9_hasFact (Nat.le_of_ble_eq_true rfl) ?_
  refine zRx.iload_n 1 rfl rfl dX9_hasFact_0 ?_
  refine zRx.if_lt (tgt := 16) dX9_hasFact_1 (by decide) (fun c1 => ?_) (fun c1 => ?_)
  · refine zRx.iconst ⟨by decide, by decide⟩ dX9_hasFact_16 ?_
    exact zR.zret rfl ⟨by decide, by decide⟩ dX9_hasFact_17 ⟨by rw [b2_f (by omega)], rfl⟩
  · refine zRx.iload_n 1 rfl rfl dX9_hasFact_4 ?_
    refine zRx.aload_n 0 rfl rfl dX9_hasFact_5 ?_
    refine zRx.getIv (a := 5) (ji := 1) (v := σ 5 1) rfl fl_9_61 rfl rfl rfl dX9_hasFact_6 ?_
    refine zRx.icmp_ge (tgt := 16) dX9_hasFact_9 (by decide) (fun c9 => ?_) (fun c9 => ?_)
    · refine zRx.iconst ⟨by decide, by decide⟩ dX9_hasFact_16 ?_
      exact zR.zret rfl ⟨by decide, by decide⟩ dX9_hasFact_17 ⟨by rw [b2_f (by omega)], rfl⟩
    · refine zRx.iconst ⟨by decide, by decide⟩ dX9_hasFact_12 ?_
      refine zRx.goto (tgt := 17) dX9_hasFact_13 (by decide) ?_
      exact zR.zret rfl ⟨by decide, by decide⟩ dX9_hasFact_17 ⟨by rw [b2_t (by omega)], rfl⟩

set_option maxRecDepth 20000 in
theorem does_X0_hasLine (σ : zG) (i : Int)  : zDo SC 0 m_X0_hasLine [zP 27, .inl i] σ (zEq (some (.inl (b2 (0 ≤ i ∧ i < σ 27 0)))) σ) := by
  refine zDo.intro mk_X0_hasLine (Nat.le_of_ble_eq_true rfl) ?_
  refine zRx.iload_n 1 rfl rfl dX0_hasLine_0 ?_
  refine zRx.if_lt (tgt := 16) dX0_hasLine_1 (by decide) (fun c1 => ?_) (fun c1 => ?_)
  · refine zRx.iconst ⟨by decide, by decide⟩ dX0_hasLine_16 ?_
    exact zR.zret rfl ⟨by decide, by decide⟩ dX0_hasLine_17 ⟨by rw [b2_f (by omega)], rfl⟩
  · refine zRx.iload_n 1 rfl rfl dX0_hasLine_4 ?_
    refine zRx.aload_n 0 rfl rfl dX0_hasLine_5 ?_
    refine zRx.getIv (a := 27) (ji := 0) (v := σ 27 0) rfl fl_0_33 rfl rfl rfl dX0_hasLine_6 ?_
    refine zRx.icmp_ge (tgt := 16) dX0_hasLine_9 (by decide) (fun c9 => ?_) (fun c9 => ?_)
    · refine zRx.iconst ⟨by decide, by decide⟩ dX0_hasLine_16 ?_
      exact zR.zret rfl ⟨by decide, by decide⟩ dX0_hasLine_17 ⟨by rw [b2_f (by omega)], rfl⟩
    · refine zRx.iconst ⟨by decide, by decide⟩ dX0_hasLine_12 ?_
      refine zRx.goto (tgt := 17) dX0_hasLine_13 (by decide) ?_
      exact zR.zret rfl ⟨by decide, by decide⟩ dX0_hasLine_17 ⟨by rw [b2_t (by omega)], rfl⟩

def S_X9_follow_18 (σ : zG) (kn : Int) : Nat → Int → Int → Int × Int
  | 0, al, i => (al, i)
  | n + 1, al, i => if (σ 5 2) ≤ i then (al, i) else (if (band al (σ 12 i)) = (σ 12 i) then (S_X9_follow_18 σ kn n (bor al (σ 13 i)) (i + 1)) else (S_X9_follow_18 σ kn n al (i + 1)))
set_option maxRecDepth 20000 in
theorem seg_X9_follow_18 (σ : zG) (kn : Int) (hs : σ 5 2 ≤ 8) (ro be : Int) : ∀ (n : Nat) (al i : Int) (X : zX), 0 ≤ i → (9 - i).toNat < n → zRx none 0 m_X9_follow SC 62 [(0, zP 5), (1, .inl kn), (2, .inl ((S_X9_follow_18 σ kn n al i).1)), (3, .inl ro), (4, .inl be), (5, .inl ((S_X9_follow_18 σ kn n al i).2))] [] σ X → zRx none 0 m_X9_follow SC 18 [(0, zP 5), (1, .inl kn), (2, .inl al), (3, .inl ro), (4, .inl be), (5, .inl i)] [] σ X := by
  intro n
  induction n with
  | zero => intro al i  X h0 hmz; exact absurd hmz (Nat.not_lt_zero _)
  | succ n ih =>
    intro al i  X h0 hmz K
    refine zRx.iload 5 rfl dX9_follow_18 ?_
    refine zRx.aload_n 0 rfl rfl dX9_follow_20 ?_
    refine zRx.getIv (a := 5) (ji := 2) (v := σ 5 2) rfl fl_9_64 rfl rfl rfl dX9_follow_21 ?_
    refine zRx.icmp_ge (tgt := 62) dX9_follow_24 (by decide) (fun c24 => ?_) (fun c24 => ?_)
    · have he : S_X9_follow_18 σ kn (n + 1) al i = (al, i) := by rw [S_X9_follow_18, if_pos c24]
      rw [he] at K
      exact K
    · refine zRx.iload_n 2 rfl rfl dX9_follow_27 ?_
      refine zRx.aload_n 0 rfl rfl dX9_follow_28 ?_
      refine zRx.getR (a := 5) (b := 12) fl_9_30 rfl rfl dX9_follow_29 ?_
      refine zRx.iload 5 rfl dX9_follow_32 ?_
      refine zRx.ialdv (v := σ 12 i) rfl rfl (by omega) (by omega) dX9_follow_34 ?_
      refine zRx.iand dX9_follow_35 ?_
      refine zRx.aload_n 0 rfl rfl dX9_follow_36 ?_
      refine zRx.getR (a := 5) (b := 12) fl_9_30 rfl rfl dX9_follow_37 ?_
      refine zRx.iload 5 rfl dX9_follow_40 ?_
      refine zRx.ialdv (v := σ 12 i) rfl rfl (by omega) (by omega) dX9_follow_42 ?_
      refine zRx.icmp_ne (tgt := 56) dX9_follow_43 (by decide) (fun c43 => ?_) (fun c43 => ?_)
      · refine zRx.iinc (n := 1) (ls' := [(0, zP 5), (1, .inl kn), (2, .inl al), (3, .inl ro), (4, .inl be), (5, .inl (i + 1))]) 5 rfl ⟨by omega, by omega⟩ rfl (by decide) dX9_follow_56 ?_
        refine zRx.goto (tgt := 18) dX9_follow_59 (by decide) ?_
        have he : S_X9_follow_18 σ kn (n + 1) al i = S_X9_follow_18 σ kn n al (i + 1) := by rw [S_X9_follow_18, if_neg (Int.not_le.mpr c24), if_neg c43]
        rw [he] at K
        exact ih al (i + 1)  _ (by omega) (by omega) K
      · refine zRx.iload_n 2 rfl rfl dX9_follow_46 ?_
        refine zRx.aload_n 0 rfl rfl dX9_follow_47 ?_
        refine zRx.getR (a := 5) (b := 13) fl_9_33 rfl rfl dX9_follow_48 ?_
        refine zRx.iload 5 rfl dX9_follow_51 ?_
        refine zRx.ialdv (v := σ 13 i) rfl rfl (by omega) (by omega) dX9_follow_53 ?_
        refine zRx.ior dX9_follow_54 ?_
        refine zRx.istore_n (ls' := [(0, zP 5), (1, .inl kn), (2, .inl (bor al (σ 13 i))), (3, .inl ro), (4, .inl be), (5, .inl i)]) rfl rfl (by decide) dX9_follow_55 ?_
        refine zRx.iinc (n := 1) (ls' := [(0, zP 5), (1, .inl kn), (2, .inl (bor al (σ 13 i))), (3, .inl ro), (4, .inl be), (5, .inl (i + 1))]) 5 rfl ⟨by omega, by omega⟩ rfl (by decide) dX9_follow_56 ?_
        refine zRx.goto (tgt := 18) dX9_follow_59 (by decide) ?_
        have he : S_X9_follow_18 σ kn (n + 1) al i = S_X9_follow_18 σ kn n (bor al (σ 13 i)) (i + 1) := by rw [S_X9_follow_18, if_neg (Int.not_le.mpr c24), if_pos c43]
        rw [he] at K
        exact ih (bor al (σ 13 i)) (i + 1)  _ (by omega) (by omega) K
def L_X9_follow_4 (σ : zG) (kn : Int) : Nat → Int → Int → Int
  | 0, _, _ => 0
  | n + 1, al, ro => if (σ 5 2) ≤ ro then al else (if ((S_X9_follow_18 σ kn 10 al 0).1) = al then ((S_X9_follow_18 σ kn 10 al 0).1) else (L_X9_follow_4 σ kn n ((S_X9_follow_18 σ kn 10 al 0).1) (ro + 1)))
set_option maxRecDepth 20000 in
theorem loop_X9_follow_4 (σ : zG) (kn : Int) (hs : σ 5 2 ≤ 8) : ∀ (n : Nat) (al ro : Int) , 0 ≤ ro → (9 - ro).toNat < n → zR SC 0 m_X9_follow 4 [(0, zP 5), (1, .inl kn), (2, .inl al), (3, .inl ro)] [] σ (zEq (some (.inl (L_X9_follow_4 σ kn n al ro))) σ) := by
  intro n
  induction n with
  | zero => intro al ro  h0 hmz; exact absurd hmz (Nat.not_lt_zero _)
  | succ n ih =>
    intro al ro  h0 hmz
    refine zRx.iload_n 3 rfl rfl dX9_follow_4 ?_
    refine zRx.aload_n 0 rfl rfl dX9_follow_5 ?_
    refine zRx.getIv (a := 5) (ji := 2) (v := σ 5 2) rfl fl_9_64 rfl rfl rfl dX9_follow_6 ?_
    refine zRx.icmp_ge (tgt := 77) dX9_follow_9 (by decide) (fun c9 => ?_) (fun c9 => ?_)
    · refine zRx.iload_n 2 rfl rfl dX9_follow_77 ?_
      exact zR.iret rfl dX9_follow_78 (by have he : L_X9_follow_4 σ kn (n + 1) al ro = al := (by rw [L_X9_follow_4, if_pos c9]); rw [he]; exact ⟨rfl, rfl⟩)
    · refine zRx.iload_n 2 rfl rfl dX9_follow_12 ?_
      refine zRx.istore (ls' := [(0, zP 5), (1, .inl kn), (2, .inl al), (3, .inl ro), (4, .inl al)]) rfl (by decide) dX9_follow_13 ?_
      refine zRx.iconst ⟨by decide, by decide⟩ dX9_follow_15 ?_
      refine zRx.istore (ls' := [(0, zP 5), (1, .inl kn), (2, .inl al), (3, .inl ro), (4, .inl al), (5, .inl 0)]) rfl (by decide) dX9_follow_16 ?_
      refine seg_X9_follow_18 σ kn hs ro al 10 al 0  _ (by omega) (by omega) ?_
      refine zRx.iload_n 2 rfl rfl dX9_follow_62 ?_
      refine zRx.iload 4 rfl dX9_follow_63 ?_
      refine zRx.icmp_ne (tgt := 71) dX9_follow_65 (by decide) (fun c65 => ?_) (fun c65 => ?_)
      · refine zRx.iinc (n := 1) (ls' := [(0, zP 5), (1, .inl kn), (2, .inl ((S_X9_follow_18 σ kn 10 al 0).1)), (3, .inl (ro + 1)), (4, .inl al), (5, .inl ((S_X9_follow_18 σ kn 10 al 0).2))]) 3 rfl ⟨by omega, by omega⟩ rfl (by decide) dX9_follow_71 ?_
        refine zRx.goto (tgt := 4) dX9_follow_74 (by decide) ?_
        refine zRx.pick [0, 1, 2, 3] (ls' := [(0, zP 5), (1, .inl kn), (2, .inl ((S_X9_follow_18 σ kn 10 al 0).1)), (3, .inl (ro + 1))]) rfl ?_
        have he : L_X9_follow_4 σ kn (n + 1) al ro = L_X9_follow_4 σ kn n ((S_X9_follow_18 σ kn 10 al 0).1) (ro + 1) := by rw [L_X9_follow_4, if_neg (Int.not_le.mpr c9), if_neg c65]
        rw [he]
        exact ih ((S_X9_follow_18 σ kn 10 al 0).1) (ro + 1)  (by omega) (by omega)
      · refine zRx.goto (tgt := 77) dX9_follow_68 (by decide) ?_
        refine zRx.iload_n 2 rfl rfl dX9_follow_77 ?_
        exact zR.iret rfl dX9_follow_78 (by have he : L_X9_follow_4 σ kn (n + 1) al ro = (S_X9_follow_18 σ kn 10 al 0).1 := (by rw [L_X9_follow_4, if_neg (Int.not_le.mpr c9), if_pos c65]); rw [he]; exact ⟨rfl, rfl⟩)
def R_X9_follow (σ : zG) (kn : Int) : Int := L_X9_follow_4 σ kn 10 kn 0
set_option maxRecDepth 20000 in
theorem does_X9_follow (σ : zG) (kn : Int) (hs : σ 5 2 ≤ 8)  : zDo SC 0 m_X9_follow [zP 5, .inl kn] σ (zEq (some (.inl (R_X9_follow σ kn))) σ) := by
  refine zDo.intro mk_X9_follow (Nat.le_of_ble_eq_true rfl) ?_
  refine zRx.iload_n 1 rfl rfl dX9_follow_0 ?_
  refine zRx.istore_n (ls' := [(0, zP 5), (1, .inl kn), (2, .inl kn)]) rfl rfl (by decide) dX9_follow_1 ?_
  refine zRx.iconst ⟨by decide, by decide⟩ dX9_follow_2 ?_
  refine zRx.istore_n (ls' := [(0, zP 5), (1, .inl kn), (2, .inl kn), (3, .inl 0)]) rfl rfl (by decide) dX9_follow_3 ?_
  have he : R_X9_follow σ kn = L_X9_follow_4 σ kn 10 kn 0 := by rw [R_X9_follow]
  rw [he]
  exact loop_X9_follow_4 σ kn hs  10 kn 0  (by omega) (by omega)

set_option maxRecDepth 20000 in
theorem does_X4_isKnown (σ : zG) (who f : Int) (hw : 0 ≤ who ∧ who < 8) : zDo SC 1 m_X4_isKnown [zP 53, .inl who, .inl f] σ (zEq (some (.inl (b2 (hb (σ 54 who) f)))) σ) := by
  refine zDo.intro mk_X4_isKnown (Nat.le_of_ble_eq_true rfl) ?_
  refine zRx.aload_n 0 rfl rfl dX4_isKnown_0 ?_
  refine zRx.getR (a := 53) (b := 54) fl_4_9 rfl rfl dX4_isKnown_1 ?_
  refine zRx.iload_n 1 rfl rfl dX4_isKnown_4 ?_
  refine zRx.ialdv (v := σ 54 who) rfl rfl (by omega) (by omega) dX4_isKnown_5 ?_
  refine zRx.iload_n 2 rfl rfl dX4_isKnown_6 ?_
  refine zRx.cSi (w := .inl (b2 (hb (σ 54 who) f))) (M := m_X11_hasBit) (av := [.inl (σ 54 who), .inl f]) cs_4_135 mk_X11_hasBit (by decide) rfl (Nat.le_of_ble_eq_true rfl) dX4_isKnown_7 (does_X11_hasBit (σ 54 who) f SC σ) ?_
  exact zR.zret rfl (b2_01 _) dX4_isKnown_10 ⟨by rw [show b2 (hb (σ 54 who) f) = b2 (hb (σ 54 who) f) from by unfold b2; simp only []], rfl⟩

def V_X4_oldValue (σ : zG) (f : Int) : Int := Int.tdiv (w32 ((σ 9 f) * (σ 15 1))) 10
set_option maxRecDepth 20000 in
theorem does_X4_oldValue (σ : zG) (f : Int) (hf : 0 ≤ f ∧ f < 12) : zDo SC 0 m_X4_oldValue [zP 53, .inl f] σ (zEq (some (.inl (V_X4_oldValue σ f))) σ) := by
  refine zDo.intro mk_X4_oldValue (Nat.le_of_ble_eq_true rfl) ?_
  refine zRx.aload_n 0 rfl rfl dX4_oldValue_0 ?_
  refine zRx.getR (a := 53) (b := 5) fl_4_51 rfl rfl dX4_oldValue_1 ?_
  refine zRx.getR (a := 5) (b := 9) fl_4_114 rfl rfl dX4_oldValue_4 ?_
  refine zRx.iload_n 1 rfl rfl dX4_oldValue_7 ?_
  refine zRx.ialdv (v := σ 9 f) rfl rfl (by omega) (by omega) dX4_oldValue_8 ?_
  refine zRx.aload_n 0 rfl rfl dX4_oldValue_9 ?_
  refine zRx.getR (a := 53) (b := 5) fl_4_51 rfl rfl dX4_oldValue_10 ?_
  refine zRx.getR (a := 5) (b := 15) fl_4_117 rfl rfl dX4_oldValue_13 ?_
  refine zRx.iconst ⟨by decide, by decide⟩ dX4_oldValue_16 ?_
  refine zRx.ialdv (v := σ 15 1) rfl rfl (by decide) (by decide) dX4_oldValue_17 ?_
  refine zRx.imulW dX4_oldValue_18 ?_
  refine zRx.bipush ⟨by decide, by decide⟩ rfl dX4_oldValue_19 ?_
  refine zRx.idivT (by omega) dX4_oldValue_21 ?_
  exact zR.iret rfl dX4_oldValue_22 ⟨rfl, rfl⟩

def L_X4_knownToOthers_4 (σ : zG) (who : Int) : Nat → Int → Int → Int
  | 0, _, _ => 0
  | n + 1, al, i => if (σ 5 0) ≤ i then al else (if i = who then (L_X4_knownToOthers_4 σ who n (bor al 0) (i + 1)) else (L_X4_knownToOthers_4 σ who n (bor al (σ 54 i)) (i + 1)))
set_option maxRecDepth 20000 in
theorem loop_X4_knownToOthers_4 (σ : zG) (who : Int) (hp : σ 5 0 ≤ 8) : ∀ (n : Nat) (al i : Int) , 0 ≤ i → (9 - i).toNat < n → zR SC 0 m_X4_knownToOthers 4 [(0, zP 53), (1, .inl who), (2, .inl al), (3, .inl i)] [] σ (zEq (some (.inl (L_X4_knownToOthers_4 σ who n al i))) σ) := by
  intro n
  induction n with
  | zero => intro al i  h0 hmz; exact absurd hmz (Nat.not_lt_zero _)
  | succ n ih =>
    intro al i  h0 hmz
    refine zRx.iload_n 3 rfl rfl dX4_knownToOthers_4 ?_
    refine zRx.aload_n 0 rfl rfl dX4_knownToOthers_5 ?_
    refine zRx.getR (a := 53) (b := 5) fl_4_51 rfl rfl dX4_knownToOthers_6 ?_
    refine zRx.getIv (a := 5) (ji := 0) (v := σ 5 0) rfl fl_4_65 rfl rfl rfl dX4_knownToOthers_9 ?_
    refine zRx.icmp_ge (tgt := 39) dX4_knownToOthers_12 (by decide) (fun c12 => ?_) (fun c12 => ?_)
    · refine zRx.iload_n 2 rfl rfl dX4_knownToOthers_39 ?_
      exact zR.iret rfl dX4_knownToOthers_40 (by have he : L_X4_knownToOthers_4 σ who (n + 1) al i = al := (by rw [L_X4_knownToOthers_4, if_pos c12]); rw [he]; exact ⟨rfl, rfl⟩)
    · refine zRx.iload_n 2 rfl rfl dX4_knownToOthers_15 ?_
      refine zRx.iload_n 3 rfl rfl dX4_knownToOthers_16 ?_
      refine zRx.iload_n 1 rfl rfl dX4_knownToOthers_17 ?_
      refine zRx.icmp_eq (tgt := 30) dX4_knownToOthers_18 (by decide) (fun c18 => ?_) (fun c18 => ?_)
      · refine zRx.iconst ⟨by decide, by decide⟩ dX4_knownToOthers_30 ?_
        refine zRx.ior dX4_knownToOthers_31 ?_
        refine zRx.istore_n (ls' := [(0, zP 53), (1, .inl who), (2, .inl (bor al 0)), (3, .inl i)]) rfl rfl (by decide) dX4_knownToOthers_32 ?_
        refine zRx.iinc (n := 1) (ls' := [(0, zP 53), (1, .inl who), (2, .inl (bor al 0)), (3, .inl (i + 1))]) 3 rfl ⟨by omega, by omega⟩ rfl (by decide) dX4_knownToOthers_33 ?_
        refine zRx.goto (tgt := 4) dX4_knownToOthers_36 (by decide) ?_
        have he : L_X4_knownToOthers_4 σ who (n + 1) al i = L_X4_knownToOthers_4 σ who n (bor al 0) (i + 1) := by rw [L_X4_knownToOthers_4, if_neg (Int.not_le.mpr c12), if_pos c18]
        rw [he]
        exact ih (bor al 0) (i + 1)  (by omega) (by omega)
      · refine zRx.aload_n 0 rfl rfl dX4_knownToOthers_21 ?_
        refine zRx.getR (a := 53) (b := 54) fl_4_9 rfl rfl dX4_knownToOthers_22 ?_
        refine zRx.iload_n 3 rfl rfl dX4_knownToOthers_25 ?_
        refine zRx.ialdv (v := σ 54 i) rfl rfl (by omega) (by omega) dX4_knownToOthers_26 ?_
        refine zRx.goto (tgt := 31) dX4_knownToOthers_27 (by decide) ?_
        refine zRx.ior dX4_knownToOthers_31 ?_
        refine zRx.istore_n (ls' := [(0, zP 53), (1, .inl who), (2, .inl (bor al (σ 54 i))), (3, .inl i)]) rfl rfl (by decide) dX4_knownToOthers_32 ?_
        refine zRx.iinc (n := 1) (ls' := [(0, zP 53), (1, .inl who), (2, .inl (bor al (σ 54 i))), (3, .inl (i + 1))]) 3 rfl ⟨by omega, by omega⟩ rfl (by decide) dX4_knownToOthers_33 ?_
        refine zRx.goto (tgt := 4) dX4_knownToOthers_36 (by decide) ?_
        have he : L_X4_knownToOthers_4 σ who (n + 1) al i = L_X4_knownToOthers_4 σ who n (bor al (σ 54 i)) (i + 1) := by rw [L_X4_knownToOthers_4, if_neg (Int.not_le.mpr c12), if_neg c18]
        rw [he]
        exact ih (bor al (σ 54 i)) (i + 1)  (by omega) (by omega)
def R_X4_knownToOthers (σ : zG) (who : Int) : Int := L_X4_knownToOthers_4 σ who 10 0 0
set_option maxRecDepth 20000 in
theorem does_X4_knownToOthers (σ : zG) (who : Int) (hp : σ 5 0 ≤ 8)  : zDo SC 0 m_X4_knownToOthers [zP 53, .inl who] σ (zEq (some (.inl (R_X4_knownToOthers σ who))) σ) := by
  refine zDo.intro mk_X4_knownToOthers (Nat.le_of_ble_eq_true rfl) ?_
  refine zRx.iconst ⟨by decide, by decide⟩ dX4_knownToOthers_0 ?_
  refine zRx.istore_n (ls' := [(0, zP 53), (1, .inl who), (2, .inl 0)]) rfl rfl (by decide) dX4_knownToOthers_1 ?_
  refine zRx.iconst ⟨by decide, by decide⟩ dX4_knownToOthers_2 ?_
  refine zRx.istore_n (ls' := [(0, zP 53), (1, .inl who), (2, .inl 0), (3, .inl 0)]) rfl rfl (by decide) dX4_knownToOthers_3 ?_
  have he : R_X4_knownToOthers σ who = L_X4_knownToOthers_4 σ who 10 0 0 := by rw [R_X4_knownToOthers]
  rw [he]
  exact loop_X4_knownToOthers_4 σ who hp  10 0 0  (by omega) (by omega)

def L_X4_knownToAll_6 (σ : zG)  : Nat → Int → Int → Int
  | 0, _, _ => 0
  | n + 1, al, i => if (σ 5 0) ≤ i then al else (L_X4_knownToAll_6 σ  n (band al (σ 54 i)) (i + 1))
set_option maxRecDepth 20000 in
theorem loop_X4_knownToAll_6 (σ : zG)  (hp : σ 5 0 ≤ 8) : ∀ (n : Nat) (al i : Int) , 0 ≤ i → (9 - i).toNat < n → zR SC 0 m_X4_knownToAll 6 [(0, zP 53), (1, .inl al), (2, .inl i)] [] σ (zEq (some (.inl (L_X4_knownToAll_6 σ  n al i))) σ) := by
  intro n
  induction n with
  | zero => intro al i  h0 hmz; exact absurd hmz (Nat.not_lt_zero _)
  | succ n ih =>
    intro al i  h0 hmz
    refine zRx.iload_n 2 rfl rfl dX4_knownToAll_6 ?_
    refine zRx.aload_n 0 rfl rfl dX4_knownToAll_7 ?_
    refine zRx.getR (a := 53) (b := 5) fl_4_51 rfl rfl dX4_knownToAll_8 ?_
    refine zRx.getIv (a := 5) (ji := 0) (v := σ 5 0) rfl fl_4_65 rfl rfl rfl dX4_knownToAll_11 ?_
    refine zRx.icmp_ge (tgt := 32) dX4_knownToAll_14 (by decide) (fun c14 => ?_) (fun c14 => ?_)
    · refine zRx.iload_n 1 rfl rfl dX4_knownToAll_32 ?_
      exact zR.iret rfl dX4_knownToAll_33 (by have he : L_X4_knownToAll_6 σ  (n + 1) al i = al := (by rw [L_X4_knownToAll_6, if_pos c14]); rw [he]; exact ⟨rfl, rfl⟩)
    · refine zRx.iload_n 1 rfl rfl dX4_knownToAll_17 ?_
      refine zRx.aload_n 0 rfl rfl dX4_knownToAll_18 ?_
      refine zRx.getR (a := 53) (b := 54) fl_4_9 rfl rfl dX4_knownToAll_19 ?_
      refine zRx.iload_n 2 rfl rfl dX4_knownToAll_22 ?_
      refine zRx.ialdv (v := σ 54 i) rfl rfl (by omega) (by omega) dX4_knownToAll_23 ?_
      refine zRx.iand dX4_knownToAll_24 ?_
      refine zRx.istore_n (ls' := [(0, zP 53), (1, .inl (band al (σ 54 i))), (2, .inl i)]) rfl rfl (by decide) dX4_knownToAll_25 ?_
      refine zRx.iinc (n := 1) (ls' := [(0, zP 53), (1, .inl (band al (σ 54 i))), (2, .inl (i + 1))]) 2 rfl ⟨by omega, by omega⟩ rfl (by decide) dX4_knownToAll_26 ?_
      refine zRx.goto (tgt := 6) dX4_knownToAll_29 (by decide) ?_
      have he : L_X4_knownToAll_6 σ  (n + 1) al i = L_X4_knownToAll_6 σ  n (band al (σ 54 i)) (i + 1) := by rw [L_X4_knownToAll_6, if_neg (Int.not_le.mpr c14)]
      rw [he]
      exact ih (band al (σ 54 i)) (i + 1)  (by omega) (by omega)
def R_X4_knownToAll (σ : zG)  : Int := L_X4_knownToAll_6 σ  10 4095 0
set_option maxRecDepth 20000 in
theorem does_X4_knownToAll (σ : zG)  (hp : σ 5 0 ≤ 8)  : zDo SC 0 m_X4_knownToAll [zP 53] σ (zEq (some (.inl (R_X4_knownToAll σ ))) σ) := by
  refine zDo.intro mk_X4_knownToAll (Nat.le_of_ble_eq_true rfl) ?_
  refine zRx.sipush ⟨by decide, by decide⟩ rfl dX4_knownToAll_0 ?_
  refine zRx.istore_n (ls' := [(0, zP 53), (1, .inl 4095)]) rfl rfl (by decide) dX4_knownToAll_3 ?_
  refine zRx.iconst ⟨by decide, by decide⟩ dX4_knownToAll_4 ?_
  refine zRx.istore_n (ls' := [(0, zP 53), (1, .inl 4095), (2, .inl 0)]) rfl rfl (by decide) dX4_knownToAll_5 ?_
  have he : R_X4_knownToAll σ  = L_X4_knownToAll_6 σ  10 4095 0 := by rw [R_X4_knownToAll]
  rw [he]
  exact loop_X4_knownToAll_6 σ  hp  10 4095 0  (by omega) (by omega)

def V_X4_valueFor (σ : zG) (who f : Int) : Int := if hb (σ 53 7) f then (V_X4_oldValue σ f) else (if (σ 11 f) = who then (σ 9 f) else (if hb (R_X4_knownToOthers σ who) f then (σ 9 f) else (Int.tdiv (w32 ((σ 9 f) * (σ 15 2))) 10)))
set_option maxRecDepth 20000 in
theorem does_X4_valueFor (σ : zG) (who f : Int) (hf : 0 ≤ f ∧ f < 12) (hp : σ 5 0 ≤ 8) : zDo SC 1 m_X4_valueFor [zP 53, .inl who, .inl f] σ (zEq (some (.inl (V_X4_valueFor σ who f))) σ) := by
  refine zDo.intro mk_X4_valueFor (Nat.le_of_ble_eq_true rfl) ?_
  refine zRx.aload_n 0 rfl rfl dX4_valueFor_0 ?_
  refine zRx.getIv (a := 53) (ji := 7) (v := σ 53 7) rfl fl_4_78 rfl rfl rfl dX4_valueFor_1 ?_
  refine zRx.iload_n 2 rfl rfl dX4_valueFor_4 ?_
  refine zRx.cSi (w := .inl (b2 (hb (σ 53 7) f))) (M := m_X11_hasBit) (av := [.inl (σ 53 7), .inl f]) cs_4_135 mk_X11_hasBit (by decide) rfl (Nat.le_of_ble_eq_true rfl) dX4_valueFor_5 (does_X11_hasBit (σ 53 7) f SC σ) ?_
  refine zRx.if_eqB (tgt := 17) dX4_valueFor_8 (by decide) (fun c8 => ?_) (fun c8 => ?_)
  · refine zRx.aload_n 0 rfl rfl dX4_valueFor_17 ?_
    refine zRx.getR (a := 53) (b := 5) fl_4_51 rfl rfl dX4_valueFor_18 ?_
    refine zRx.getR (a := 5) (b := 11) fl_4_156 rfl rfl dX4_valueFor_21 ?_
    refine zRx.iload_n 2 rfl rfl dX4_valueFor_24 ?_
    refine zRx.ialdv (v := σ 11 f) rfl rfl (by omega) (by omega) dX4_valueFor_25 ?_
    refine zRx.iload_n 1 rfl rfl dX4_valueFor_26 ?_
    refine zRx.icmp_eq (tgt := 42) dX4_valueFor_27 (by decide) (fun c27 => ?_) (fun c27 => ?_)
    · refine zRx.aload_n 0 rfl rfl dX4_valueFor_42 ?_
      refine zRx.getR (a := 53) (b := 5) fl_4_51 rfl rfl dX4_valueFor_43 ?_
      refine zRx.getR (a := 5) (b := 9) fl_4_114 rfl rfl dX4_valueFor_46 ?_
      refine zRx.iload_n 2 rfl rfl dX4_valueFor_49 ?_
      refine zRx.ialdv (v := σ 9 f) rfl rfl (by omega) (by omega) dX4_valueFor_50 ?_
      exact zR.iret rfl dX4_valueFor_51 ⟨by unfold V_X4_valueFor; rw [if_neg c8, if_pos c27], rfl⟩
    · refine zRx.aload_n 0 rfl rfl dX4_valueFor_30 ?_
      refine zRx.iload_n 1 rfl rfl dX4_valueFor_31 ?_
      refine zRx.cVi (w := .inl (R_X4_knownToOthers σ who)) (M := m_X4_knownToOthers) (av := [.inl who]) cv_4_178 mk_X4_knownToOthers (by decide) (b := 53) rfl rfl (Nat.le_of_ble_eq_true rfl) dX4_valueFor_32 (does_X4_knownToOthers σ who (by omega)) ?_
      refine zRx.iload_n 2 rfl rfl dX4_valueFor_35 ?_
      refine zRx.cSi (w := .inl (b2 (hb (R_X4_knownToOthers σ who) f))) (M := m_X11_hasBit) (av := [.inl (R_X4_knownToOthers σ who), .inl f]) cs_4_135 mk_X11_hasBit (by decide) rfl (Nat.le_of_ble_eq_true rfl) dX4_valueFor_36 (does_X11_hasBit (R_X4_knownToOthers σ who) f SC σ) ?_
      refine zRx.if_eqB (tgt := 52) dX4_valueFor_39 (by decide) (fun c39 => ?_) (fun c39 => ?_)
      · refine zRx.aload_n 0 rfl rfl dX4_valueFor_52 ?_
        refine zRx.getR (a := 53) (b := 5) fl_4_51 rfl rfl dX4_valueFor_53 ?_
        refine zRx.getR (a := 5) (b := 9) fl_4_114 rfl rfl dX4_valueFor_56 ?_
        refine zRx.iload_n 2 rfl rfl dX4_valueFor_59 ?_
        refine zRx.ialdv (v := σ 9 f) rfl rfl (by omega) (by omega) dX4_valueFor_60 ?_
        refine zRx.aload_n 0 rfl rfl dX4_valueFor_61 ?_
        refine zRx.getR (a := 53) (b := 5) fl_4_51 rfl rfl dX4_valueFor_62 ?_
        refine zRx.getR (a := 5) (b := 15) fl_4_117 rfl rfl dX4_valueFor_65 ?_
        refine zRx.iconst ⟨by decide, by decide⟩ dX4_valueFor_68 ?_
        refine zRx.ialdv (v := σ 15 2) rfl rfl (by decide) (by decide) dX4_valueFor_69 ?_
        refine zRx.imulW dX4_valueFor_70 ?_
        refine zRx.bipush ⟨by decide, by decide⟩ rfl dX4_valueFor_71 ?_
        refine zRx.idivT (by omega) dX4_valueFor_73 ?_
        exact zR.iret rfl dX4_valueFor_74 ⟨by unfold V_X4_valueFor; rw [if_neg c8, if_neg c27, if_neg c39], rfl⟩
      · refine zRx.aload_n 0 rfl rfl dX4_valueFor_42 ?_
        refine zRx.getR (a := 53) (b := 5) fl_4_51 rfl rfl dX4_valueFor_43 ?_
        refine zRx.getR (a := 5) (b := 9) fl_4_114 rfl rfl dX4_valueFor_46 ?_
        refine zRx.iload_n 2 rfl rfl dX4_valueFor_49 ?_
        refine zRx.ialdv (v := σ 9 f) rfl rfl (by omega) (by omega) dX4_valueFor_50 ?_
        exact zR.iret rfl dX4_valueFor_51 ⟨by unfold V_X4_valueFor; rw [if_neg c8, if_neg c27, if_pos c39], rfl⟩
  · refine zRx.aload_n 0 rfl rfl dX4_valueFor_11 ?_
    refine zRx.iload_n 2 rfl rfl dX4_valueFor_12 ?_
    refine zRx.cVi (w := .inl (V_X4_oldValue σ f)) (M := m_X4_oldValue) (av := [.inl f]) cv_4_175 mk_X4_oldValue (by decide) (b := 53) rfl rfl (Nat.le_of_ble_eq_true rfl) dX4_valueFor_13 (does_X4_oldValue σ f (by omega)) ?_
    exact zR.iret rfl dX4_valueFor_16 ⟨by unfold V_X4_valueFor; rw [if_pos c8], rfl⟩

def V_X4_freshFor (σ : zG) (who f : Int) : Int := band (R_X9_follow σ (bor (σ 54 who) (bshl 1 f))) (bxor (σ 54 who) (-1))
set_option maxRecDepth 20000 in
theorem does_X4_freshFor (σ : zG) (who f : Int) (hw : 0 ≤ who ∧ who < 8) (hs : σ 5 2 ≤ 8) : zDo SC 1 m_X4_freshFor [zP 53, .inl who, .inl f] σ (zEq (some (.inl (V_X4_freshFor σ who f))) σ) := by
  refine zDo.intro mk_X4_freshFor (Nat.le_of_ble_eq_true rfl) ?_
  refine zRx.aload_n 0 rfl rfl dX4_freshFor_0 ?_
  refine zRx.getR (a := 53) (b := 5) fl_4_51 rfl rfl dX4_freshFor_1 ?_
  refine zRx.aload_n 0 rfl rfl dX4_freshFor_4 ?_
  refine zRx.getR (a := 53) (b := 54) fl_4_9 rfl rfl dX4_freshFor_5 ?_
  refine zRx.iload_n 1 rfl rfl dX4_freshFor_8 ?_
  refine zRx.ialdv (v := σ 54 who) rfl rfl (by omega) (by omega) dX4_freshFor_9 ?_
  refine zRx.iconst ⟨by decide, by decide⟩ dX4_freshFor_10 ?_
  refine zRx.iload_n 2 rfl rfl dX4_freshFor_11 ?_
  refine zRx.ishl dX4_freshFor_12 ?_
  refine zRx.ior dX4_freshFor_13 ?_
  refine zRx.cVi (w := .inl (R_X9_follow σ (bor (σ 54 who) (bshl 1 f)))) (M := m_X9_follow) (av := [.inl (bor (σ 54 who) (bshl 1 f))]) cv_4_74 mk_X9_follow (by decide) (b := 5) rfl rfl (Nat.le_of_ble_eq_true rfl) dX4_freshFor_14 (does_X9_follow σ (bor (σ 54 who) (bshl 1 f)) (by omega)) ?_
  refine zRx.aload_n 0 rfl rfl dX4_freshFor_17 ?_
  refine zRx.getR (a := 53) (b := 54) fl_4_9 rfl rfl dX4_freshFor_18 ?_
  refine zRx.iload_n 1 rfl rfl dX4_freshFor_21 ?_
  refine zRx.ialdv (v := σ 54 who) rfl rfl (by omega) (by omega) dX4_freshFor_22 ?_
  refine zRx.iconst ⟨by decide, by decide⟩ dX4_freshFor_23 ?_
  refine zRx.ixor dX4_freshFor_24 ?_
  refine zRx.iand dX4_freshFor_25 ?_
  exact zR.iret rfl dX4_freshFor_26 ⟨rfl, rfl⟩

def V_X4_grown (σ : zG) (x : Int) : Int := V_cutUpW (w32 (x * (σ 15 4))) 10
set_option maxRecDepth 20000 in
theorem does_X4_grown (σ : zG) (x : Int)  : zDo SC 1 m_X4_grown [zP 53, .inl x] σ (zEq (some (.inl (V_X4_grown σ x))) σ) := by
  refine zDo.intro mk_X4_grown (Nat.le_of_ble_eq_true rfl) ?_
  refine zRx.iload_n 1 rfl rfl dX4_grown_0 ?_
  refine zRx.aload_n 0 rfl rfl dX4_grown_1 ?_
  refine zRx.getR (a := 53) (b := 5) fl_4_51 rfl rfl dX4_grown_2 ?_
  refine zRx.getR (a := 5) (b := 15) fl_4_117 rfl rfl dX4_grown_5 ?_
  refine zRx.iconst ⟨by decide, by decide⟩ dX4_grown_8 ?_
  refine zRx.ialdv (v := σ 15 4) rfl rfl (by decide) (by decide) dX4_grown_9 ?_
  refine zRx.imulW dX4_grown_10 ?_
  refine zRx.bipush ⟨by decide, by decide⟩ rfl dX4_grown_11 ?_
  refine zRx.cSi (w := .inl (V_cutUpW (w32 (x * (σ 15 4))) 10)) (M := m_X11_cutUp) (av := [.inl (w32 (x * (σ 15 4))), .inl 10]) cs_4_120 mk_X11_cutUp (by decide) rfl (Nat.le_of_ble_eq_true rfl) dX4_grown_13 (does_cutUpW σ (w32 (x * (σ 15 4))) 10 SC) ?_
  exact zR.iret rfl dX4_grown_16 ⟨rfl, rfl⟩

def L_X4_whyWrong_3 (σ : zG) (ds an f : Int) : Nat → Int → Int
  | 0, _ => 0
  | n + 1, i => if (σ 5 0) ≤ i then (if hb (σ 54 an) f then 2 else 0) else (if hb ds i then (if hb (σ 54 i) f then (L_X4_whyWrong_3 σ ds an f n (i + 1)) else 1) else (L_X4_whyWrong_3 σ ds an f n (i + 1)))
set_option maxRecDepth 20000 in
theorem loop_X4_whyWrong_3 (σ : zG) (ds an f : Int) (hp : σ 5 0 ≤ 8) (ha : 0 ≤ an ∧ an < 8) : ∀ (n : Nat) (i : Int) , 0 ≤ i → (9 - i).toNat < n → zR SC 2 m_X4_whyWrong 3 [(0, zP 53), (1, .inl ds), (2, .inl an), (3, .inl f), (4, .inl i)] [] σ (zEq (some (.inl (L_X4_whyWrong_3 σ ds an f n i))) σ) := by
  intro n
  induction n with
  | zero => intro i  h0 hmz; exact absurd hmz (Nat.not_lt_zero _)
  | succ n ih =>
    intro i  h0 hmz
    refine zRx.iload 4 rfl dX4_whyWrong_3 ?_
    refine zRx.aload_n 0 rfl rfl dX4_whyWrong_5 ?_
    refine zRx.getR (a := 53) (b := 5) fl_4_51 rfl rfl dX4_whyWrong_6 ?_
    refine zRx.getIv (a := 5) (ji := 0) (v := σ 5 0) rfl fl_4_65 rfl rfl rfl dX4_whyWrong_9 ?_
    refine zRx.icmp_ge (tgt := 42) dX4_whyWrong_12 (by decide) (fun c12 => ?_) (fun c12 => ?_)
    · refine zRx.aload_n 0 rfl rfl dX4_whyWrong_42 ?_
      refine zRx.iload_n 2 rfl rfl dX4_whyWrong_43 ?_
      refine zRx.iload_n 3 rfl rfl dX4_whyWrong_44 ?_
      refine zRx.cVi (w := .inl (b2 (hb (σ 54 an) f))) (M := m_X4_isKnown) (av := [.inl an, .inl f]) cv_4_139 mk_X4_isKnown (by decide) (b := 53) rfl rfl (Nat.le_of_ble_eq_true rfl) dX4_whyWrong_45 (does_X4_isKnown σ an f (by omega)) ?_
      refine zRx.if_eqB (tgt := 55) dX4_whyWrong_48 (by decide) (fun c48 => ?_) (fun c48 => ?_)
      · refine zRx.iconst ⟨by decide, by decide⟩ dX4_whyWrong_55 ?_
        exact zR.iret rfl dX4_whyWrong_56 (by have he : L_X4_whyWrong_3 σ ds an f (n + 1) i = 0 := (by rw [L_X4_whyWrong_3, if_pos c12, if_neg c48]); rw [he]; exact ⟨rfl, rfl⟩)
      · refine zRx.iconst ⟨by decide, by decide⟩ dX4_whyWrong_51 ?_
        refine zRx.goto (tgt := 56) dX4_whyWrong_52 (by decide) ?_
        exact zR.iret rfl dX4_whyWrong_56 (by have he : L_X4_whyWrong_3 σ ds an f (n + 1) i = 2 := (by rw [L_X4_whyWrong_3, if_pos c12, if_pos c48]); rw [he]; exact ⟨rfl, rfl⟩)
    · refine zRx.iload_n 1 rfl rfl dX4_whyWrong_15 ?_
      refine zRx.iload 4 rfl dX4_whyWrong_16 ?_
      refine zRx.cSi (w := .inl (b2 (hb ds i))) (M := m_X11_hasBit) (av := [.inl ds, .inl i]) cs_4_135 mk_X11_hasBit (by decide) rfl (Nat.le_of_ble_eq_true rfl) dX4_whyWrong_18 (does_X11_hasBit ds i SC σ) ?_
      refine zRx.if_eqB (tgt := 36) dX4_whyWrong_21 (by decide) (fun c21 => ?_) (fun c21 => ?_)
      · refine zRx.iinc (n := 1) (ls' := [(0, zP 53), (1, .inl ds), (2, .inl an), (3, .inl f), (4, .inl (i + 1))]) 4 rfl ⟨by omega, by omega⟩ rfl (by decide) dX4_whyWrong_36 ?_
        refine zRx.goto (tgt := 3) dX4_whyWrong_39 (by decide) ?_
        have he : L_X4_whyWrong_3 σ ds an f (n + 1) i = L_X4_whyWrong_3 σ ds an f n (i + 1) := by rw [L_X4_whyWrong_3, if_neg (Int.not_le.mpr c12), if_neg c21]
        rw [he]
        exact ih (i + 1)  (by omega) (by omega)
      · refine zRx.aload_n 0 rfl rfl dX4_whyWrong_24 ?_
        refine zRx.iload 4 rfl dX4_whyWrong_25 ?_
        refine zRx.iload_n 3 rfl rfl dX4_whyWrong_27 ?_
        refine zRx.cVi (w := .inl (b2 (hb (σ 54 i) f))) (M := m_X4_isKnown) (av := [.inl i, .inl f]) cv_4_139 mk_X4_isKnown (by decide) (b := 53) rfl rfl (Nat.le_of_ble_eq_true rfl) dX4_whyWrong_28 (does_X4_isKnown σ i f (by omega)) ?_
        refine zRx.if_neB (tgt := 36) dX4_whyWrong_31 (by decide) (fun c31 => ?_) (fun c31 => ?_)
        · refine zRx.iinc (n := 1) (ls' := [(0, zP 53), (1, .inl ds), (2, .inl an), (3, .inl f), (4, .inl (i + 1))]) 4 rfl ⟨by omega, by omega⟩ rfl (by decide) dX4_whyWrong_36 ?_
          refine zRx.goto (tgt := 3) dX4_whyWrong_39 (by decide) ?_
          have he : L_X4_whyWrong_3 σ ds an f (n + 1) i = L_X4_whyWrong_3 σ ds an f n (i + 1) := by rw [L_X4_whyWrong_3, if_neg (Int.not_le.mpr c12), if_pos c21, if_pos c31]
          rw [he]
          exact ih (i + 1)  (by omega) (by omega)
        · refine zRx.iconst ⟨by decide, by decide⟩ dX4_whyWrong_34 ?_
          exact zR.iret rfl dX4_whyWrong_35 (by have he : L_X4_whyWrong_3 σ ds an f (n + 1) i = 1 := (by rw [L_X4_whyWrong_3, if_neg (Int.not_le.mpr c12), if_pos c21, if_neg c31]); rw [he]; exact ⟨rfl, rfl⟩)
def R_X4_whyWrong (σ : zG) (ds an f : Int) : Int := L_X4_whyWrong_3 σ ds an f 10 0
set_option maxRecDepth 20000 in
theorem does_X4_whyWrong (σ : zG) (ds an f : Int) (hp : σ 5 0 ≤ 8) (ha : 0 ≤ an ∧ an < 8)  : zDo SC 2 m_X4_whyWrong [zP 53, .inl ds, .inl an, .inl f] σ (zEq (some (.inl (R_X4_whyWrong σ ds an f))) σ) := by
  refine zDo.intro mk_X4_whyWrong (Nat.le_of_ble_eq_true rfl) ?_
  refine zRx.iconst ⟨by decide, by decide⟩ dX4_whyWrong_0 ?_
  refine zRx.istore (ls' := [(0, zP 53), (1, .inl ds), (2, .inl an), (3, .inl f), (4, .inl 0)]) rfl (by decide) dX4_whyWrong_1 ?_
  have he : R_X4_whyWrong σ ds an f = L_X4_whyWrong_3 σ ds an f 10 0 := by rw [R_X4_whyWrong]
  rw [he]
  exact loop_X4_whyWrong_3 σ ds an f hp ha  10 0  (by omega) (by omega)

def F_X4_owe (σ : zG) (who much i : Int) : zG := if much = 0 then σ else (if (σ 53 8) < 128 then (zu (zu (zu (zu (zu (zu (zu (zu (zu σ 59 (σ 53 8) who) 60 (σ 53 8) (σ 30 i)) 61 (σ 53 8) (σ 31 i)) 62 (σ 53 8) much) 63 (σ 53 8) much) 64 (σ 53 8) i) 65 (σ 53 8) (-1)) 66 (σ 53 8) 0) 53 8 ((σ 53 8) + 1)) else σ)
theorem fr_F_X4_owe (σ : zG) (who much i : Int) {k : Nat} (h : k ∉ [53, 59, 60, 61, 62, 63, 64, 65, 66]) : (F_X4_owe σ who much i) k = σ k := by
  have ne : ∀ c ∈ [53, 59, 60, 61, 62, 63, 64, 65, 66], k ≠ c := fun c hc e => h (e ▸ hc)
  unfold F_X4_owe
  repeat' split
  all_goals first | rfl | simp only [zu_row _ _ _ (ne 53 (by decide)), zu_row _ _ _ (ne 59 (by decide)), zu_row _ _ _ (ne 60 (by decide)), zu_row _ _ _ (ne 61 (by decide)), zu_row _ _ _ (ne 62 (by decide)), zu_row _ _ _ (ne 63 (by decide)), zu_row _ _ _ (ne 64 (by decide)), zu_row _ _ _ (ne 65 (by decide)), zu_row _ _ _ (ne 66 (by decide))]

set_option maxRecDepth 20000 in
theorem does_X4_owe (σ : zG) (who much i : Int) (hi : 0 ≤ i ∧ i < 60) (hm : 0 ≤ σ 53 8) : zDo SC 0 m_X4_owe [zP 53, .inl who, .inl much, .inl i] σ (zEq (none) (F_X4_owe σ who much i)) := by
  refine zDo.intro mk_X4_owe (Nat.le_of_ble_eq_true rfl) ?_
  refine zRx.iload_n 2 rfl rfl dX4_owe_0 ?_
  refine zRx.if_eq (tgt := 14) dX4_owe_1 (by decide) (fun c1 => ?_) (fun c1 => ?_)
  · exact zR.ret rfl dX4_owe_14 ⟨rfl, by unfold F_X4_owe; rw [if_pos c1]⟩
  · refine zRx.aload_n 0 rfl rfl dX4_owe_4 ?_
    refine zRx.getIv (a := 53) (ji := 8) (v := σ 53 8) rfl fl_4_81 rfl rfl rfl dX4_owe_5 ?_
    refine zRx.sipush ⟨by decide, by decide⟩ rfl dX4_owe_8 ?_
    refine zRx.icmp_lt (tgt := 15) dX4_owe_11 (by decide) (fun c11 => ?_) (fun c11 => ?_)
    · refine zRx.aload_n 0 rfl rfl dX4_owe_15 ?_
      refine zRx.getR (a := 53) (b := 59) fl_4_27 rfl rfl dX4_owe_16 ?_
      refine zRx.aload_n 0 rfl rfl dX4_owe_19 ?_
      refine zRx.getIv (a := 53) (ji := 8) (v := σ 53 8) rfl fl_4_81 rfl rfl rfl dX4_owe_20 ?_
      refine zRx.iload_n 1 rfl rfl dX4_owe_23 ?_
      refine zRx.iast rfl (by omega) (by omega) dX4_owe_24 ?_
      refine zRx.aload_n 0 rfl rfl dX4_owe_25 ?_
      refine zRx.getR (a := 53) (b := 60) fl_4_30 rfl rfl dX4_owe_26 ?_
      refine zRx.aload_n 0 rfl rfl dX4_owe_29 ?_
      refine zRx.getIv (a := 53) (ji := 8) (v := σ 53 8) (zu_ne _ _ _ _ (by decide)) fl_4_81 rfl rfl rfl dX4_owe_30 ?_
      refine zRx.aload_n 0 rfl rfl dX4_owe_33 ?_
      refine zRx.getR (a := 53) (b := 27) fl_4_55 rfl rfl dX4_owe_34 ?_
      refine zRx.getR (a := 27) (b := 30) fl_4_101 rfl rfl dX4_owe_37 ?_
      refine zRx.iload_n 3 rfl rfl dX4_owe_40 ?_
      refine zRx.ialdv (v := σ 30 i) (zu_ne _ _ _ _ (by decide)) rfl (by omega) (by omega) dX4_owe_41 ?_
      refine zRx.iast rfl (by omega) (by omega) dX4_owe_42 ?_
      refine zRx.aload_n 0 rfl rfl dX4_owe_43 ?_
      refine zRx.getR (a := 53) (b := 61) fl_4_33 rfl rfl dX4_owe_44 ?_
      refine zRx.aload_n 0 rfl rfl dX4_owe_47 ?_
      refine zRx.getIv (a := 53) (ji := 8) (v := σ 53 8) ((zu_ne _ _ _ _ (by decide)).trans (zu_ne _ _ _ _ (by decide))) fl_4_81 rfl rfl rfl dX4_owe_48 ?_
      refine zRx.aload_n 0 rfl rfl dX4_owe_51 ?_
      refine zRx.getR (a := 53) (b := 27) fl_4_55 rfl rfl dX4_owe_52 ?_
      refine zRx.getR (a := 27) (b := 31) fl_4_102 rfl rfl dX4_owe_55 ?_
      refine zRx.iload_n 3 rfl rfl dX4_owe_58 ?_
      refine zRx.ialdv (v := σ 31 i) ((zu_ne _ _ _ _ (by decide)).trans (zu_ne _ _ _ _ (by decide))) rfl (by omega) (by omega) dX4_owe_59 ?_
      refine zRx.iast rfl (by omega) (by omega) dX4_owe_60 ?_
      refine zRx.aload_n 0 rfl rfl dX4_owe_61 ?_
      refine zRx.getR (a := 53) (b := 62) fl_4_36 rfl rfl dX4_owe_62 ?_
      refine zRx.aload_n 0 rfl rfl dX4_owe_65 ?_
      refine zRx.getIv (a := 53) (ji := 8) (v := σ 53 8) ((zu_ne _ _ _ _ (by decide)).trans ((zu_ne _ _ _ _ (by decide)).trans (zu_ne _ _ _ _ (by decide)))) fl_4_81 rfl rfl rfl dX4_owe_66 ?_
      refine zRx.iload_n 2 rfl rfl dX4_owe_69 ?_
      refine zRx.iast rfl (by omega) (by omega) dX4_owe_70 ?_
      refine zRx.aload_n 0 rfl rfl dX4_owe_71 ?_
      refine zRx.getR (a := 53) (b := 63) fl_4_39 rfl rfl dX4_owe_72 ?_
      refine zRx.aload_n 0 rfl rfl dX4_owe_75 ?_
      refine zRx.getIv (a := 53) (ji := 8) (v := σ 53 8) ((zu_ne _ _ _ _ (by decide)).trans ((zu_ne _ _ _ _ (by decide)).trans ((zu_ne _ _ _ _ (by decide)).trans (zu_ne _ _ _ _ (by decide))))) fl_4_81 rfl rfl rfl dX4_owe_76 ?_
      refine zRx.iload_n 2 rfl rfl dX4_owe_79 ?_
      refine zRx.iast rfl (by omega) (by omega) dX4_owe_80 ?_
      refine zRx.aload_n 0 rfl rfl dX4_owe_81 ?_
      refine zRx.getR (a := 53) (b := 64) fl_4_42 rfl rfl dX4_owe_82 ?_
      refine zRx.aload_n 0 rfl rfl dX4_owe_85 ?_
      refine zRx.getIv (a := 53) (ji := 8) (v := σ 53 8) ((zu_ne _ _ _ _ (by decide)).trans ((zu_ne _ _ _ _ (by decide)).trans ((zu_ne _ _ _ _ (by decide)).trans ((zu_ne _ _ _ _ (by decide)).trans (zu_ne _ _ _ _ (by decide)))))) fl_4_81 rfl rfl rfl dX4_owe_86 ?_
      refine zRx.iload_n 3 rfl rfl dX4_owe_89 ?_
      refine zRx.iast rfl (by omega) (by omega) dX4_owe_90 ?_
      refine zRx.aload_n 0 rfl rfl dX4_owe_91 ?_
      refine zRx.getR (a := 53) (b := 65) fl_4_45 rfl rfl dX4_owe_92 ?_
      refine zRx.aload_n 0 rfl rfl dX4_owe_95 ?_
      refine zRx.getIv (a := 53) (ji := 8) (v := σ 53 8) ((zu_ne _ _ _ _ (by decide)).trans ((zu_ne _ _ _ _ (by decide)).trans ((zu_ne _ _ _ _ (by decide)).trans ((zu_ne _ _ _ _ (by decide)).trans ((zu_ne _ _ _ _ (by decide)).trans (zu_ne _ _ _ _ (by decide))))))) fl_4_81 rfl rfl rfl dX4_owe_96 ?_
      refine zRx.iconst ⟨by decide, by decide⟩ dX4_owe_99 ?_
      refine zRx.iast rfl (by omega) (by omega) dX4_owe_100 ?_
      refine zRx.aload_n 0 rfl rfl dX4_owe_101 ?_
      refine zRx.getR (a := 53) (b := 66) fl_4_48 rfl rfl dX4_owe_102 ?_
      refine zRx.aload_n 0 rfl rfl dX4_owe_105 ?_
      refine zRx.getIv (a := 53) (ji := 8) (v := σ 53 8) ((zu_ne _ _ _ _ (by decide)).trans ((zu_ne _ _ _ _ (by decide)).trans ((zu_ne _ _ _ _ (by decide)).trans ((zu_ne _ _ _ _ (by decide)).trans ((zu_ne _ _ _ _ (by decide)).trans ((zu_ne _ _ _ _ (by decide)).trans (zu_ne _ _ _ _ (by decide)))))))) fl_4_81 rfl rfl rfl dX4_owe_106 ?_
      refine zRx.iconst ⟨by decide, by decide⟩ dX4_owe_109 ?_
      refine zRx.iast rfl (by omega) (by omega) dX4_owe_110 ?_
      refine zRx.aload_n 0 rfl rfl dX4_owe_111 ?_
      refine zRx.dup rfl dX4_owe_112 ?_
      refine zRx.getIv (a := 53) (ji := 8) (v := σ 53 8) ((zu_ne _ _ _ _ (by decide)).trans ((zu_ne _ _ _ _ (by decide)).trans ((zu_ne _ _ _ _ (by decide)).trans ((zu_ne _ _ _ _ (by decide)).trans ((zu_ne _ _ _ _ (by decide)).trans ((zu_ne _ _ _ _ (by decide)).trans ((zu_ne _ _ _ _ (by decide)).trans (zu_ne _ _ _ _ (by decide))))))))) fl_4_81 rfl rfl rfl dX4_owe_113 ?_
      refine zRx.iconst ⟨by decide, by decide⟩ dX4_owe_116 ?_
      refine zRx.iadd ⟨by omega, by omega⟩ dX4_owe_117 ?_
      refine zRx.putI (a := 53) (ji := 8) pl_4_81 rfl rfl rfl dX4_owe_118 ?_
      exact zR.ret rfl dX4_owe_121 ⟨rfl, by unfold F_X4_owe; rw [if_neg c1, if_pos c11]⟩
    · exact zR.ret rfl dX4_owe_14 ⟨rfl, by unfold F_X4_owe; rw [if_neg c1, if_neg (Int.not_lt.mpr c11)]⟩

def L_X4_pay_3 (who value i : Int) : Nat → Int → zG → zG
  | 0, _, σ => σ
  | n + 1, d, σ => if (σ 53 8) ≤ d then σ else (if (σ 59 d) = who then (if (σ 63 d) ≤ 0 then (L_X4_pay_3 who value i n (d + 1) σ) else (if value < (σ 63 d) then (L_X4_pay_3 who value i n (d + 1) σ) else (zu (zu σ 63 d 0) 65 d i))) else (L_X4_pay_3 who value i n (d + 1) σ))
theorem fr_L_X4_pay_3 (who value i : Int)  (n : Nat) (d : Int) (σ : zG) {k : Nat} (h : k ∉ [63, 65]) : (L_X4_pay_3 who value i n d σ) k = σ k := by
  induction n generalizing d σ with
  | zero => rfl
  | succ n ih =>
    have ne : ∀ c ∈ [63, 65], k ≠ c := fun c hc e => h (e ▸ hc)
    rw [L_X4_pay_3]
    repeat' split
    all_goals first | rfl | simp only [zu_row _ _ _ (ne 63 (by decide)), zu_row _ _ _ (ne 65 (by decide)), ih]

set_option maxRecDepth 20000 in
theorem loop_X4_pay_3 (who value i : Int)  : ∀ (n : Nat) (d : Int) (σ : zG), 0 ≤ d → σ 53 8 ≤ 128 → (σ 53 8 - d).toNat < n → zR SC 0 m_X4_pay 3 [(0, zP 53), (1, .inl who), (2, .inl value), (3, .inl i), (4, .inl d)] [] σ (zEq none (L_X4_pay_3 who value i n d σ)) := by
  intro n
  induction n with
  | zero => intro d σ h0 hm hmz; exact absurd hmz (Nat.not_lt_zero _)
  | succ n ih =>
    intro d σ h0 hm hmz
    refine zRx.iload 4 rfl dX4_pay_3 ?_
    refine zRx.aload_n 0 rfl rfl dX4_pay_5 ?_
    refine zRx.getIv (a := 53) (ji := 8) (v := σ 53 8) rfl fl_4_81 rfl rfl rfl dX4_pay_6 ?_
    refine zRx.icmp_ge (tgt := 67) dX4_pay_9 (by decide) (fun c9 => ?_) (fun c9 => ?_)
    · exact zR.ret rfl dX4_pay_67 ⟨rfl, (by rw [L_X4_pay_3, if_pos c9] : L_X4_pay_3 who value i (n + 1) d σ = σ).symm⟩
    · refine zRx.aload_n 0 rfl rfl dX4_pay_12 ?_
      refine zRx.getR (a := 53) (b := 59) fl_4_27 rfl rfl dX4_pay_13 ?_
      refine zRx.iload 4 rfl dX4_pay_16 ?_
      refine zRx.ialdv (v := σ 59 d) rfl rfl (by omega) (by omega) dX4_pay_18 ?_
      refine zRx.iload_n 1 rfl rfl dX4_pay_19 ?_
      refine zRx.icmp_ne (tgt := 61) dX4_pay_20 (by decide) (fun c20 => ?_) (fun c20 => ?_)
      · refine zRx.iinc (n := 1) (ls' := [(0, zP 53), (1, .inl who), (2, .inl value), (3, .inl i), (4, .inl (d + 1))]) 4 rfl ⟨by omega, by omega⟩ rfl (by decide) dX4_pay_61 ?_
        refine zRx.goto (tgt := 3) dX4_pay_64 (by decide) ?_
        have he : L_X4_pay_3 who value i (n + 1) d σ = L_X4_pay_3 who value i n (d + 1) σ := by rw [L_X4_pay_3, if_neg (Int.not_le.mpr c9), if_neg c20]
        rw [he]
        exact ih (d + 1) σ (by omega) hm (by omega)
      · refine zRx.aload_n 0 rfl rfl dX4_pay_23 ?_
        refine zRx.getR (a := 53) (b := 63) fl_4_39 rfl rfl dX4_pay_24 ?_
        refine zRx.iload 4 rfl dX4_pay_27 ?_
        refine zRx.ialdv (v := σ 63 d) rfl rfl (by omega) (by omega) dX4_pay_29 ?_
        refine zRx.if_le (tgt := 61) dX4_pay_30 (by decide) (fun c30 => ?_) (fun c30 => ?_)
        · refine zRx.iinc (n := 1) (ls' := [(0, zP 53), (1, .inl who), (2, .inl value), (3, .inl i), (4, .inl (d + 1))]) 4 rfl ⟨by omega, by omega⟩ rfl (by decide) dX4_pay_61 ?_
          refine zRx.goto (tgt := 3) dX4_pay_64 (by decide) ?_
          have he : L_X4_pay_3 who value i (n + 1) d σ = L_X4_pay_3 who value i n (d + 1) σ := by rw [L_X4_pay_3, if_neg (Int.not_le.mpr c9), if_pos c20, if_pos c30]
          rw [he]
          exact ih (d + 1) σ (by omega) hm (by omega)
        · refine zRx.aload_n 0 rfl rfl dX4_pay_33 ?_
          refine zRx.getR (a := 53) (b := 63) fl_4_39 rfl rfl dX4_pay_34 ?_
          refine zRx.iload 4 rfl dX4_pay_37 ?_
          refine zRx.ialdv (v := σ 63 d) rfl rfl (by omega) (by omega) dX4_pay_39 ?_
          refine zRx.iload_n 2 rfl rfl dX4_pay_40 ?_
          refine zRx.icmp_gt (tgt := 61) dX4_pay_41 (by decide) (fun c41 => ?_) (fun c41 => ?_)
          · refine zRx.iinc (n := 1) (ls' := [(0, zP 53), (1, .inl who), (2, .inl value), (3, .inl i), (4, .inl (d + 1))]) 4 rfl ⟨by omega, by omega⟩ rfl (by decide) dX4_pay_61 ?_
            refine zRx.goto (tgt := 3) dX4_pay_64 (by decide) ?_
            have he : L_X4_pay_3 who value i (n + 1) d σ = L_X4_pay_3 who value i n (d + 1) σ := by rw [L_X4_pay_3, if_neg (Int.not_le.mpr c9), if_pos c20, if_neg (Int.not_le.mpr c30), if_pos c41]
            rw [he]
            exact ih (d + 1) σ (by omega) hm (by omega)
          · refine zRx.aload_n 0 rfl rfl dX4_pay_44 ?_
            refine zRx.getR (a := 53) (b := 63) fl_4_39 rfl rfl dX4_pay_45 ?_
            refine zRx.iload 4 rfl dX4_pay_48 ?_
            refine zRx.iconst ⟨by decide, by decide⟩ dX4_pay_50 ?_
            refine zRx.iast rfl (by omega) (by omega) dX4_pay_51 ?_
            refine zRx.aload_n 0 rfl rfl dX4_pay_52 ?_
            refine zRx.getR (a := 53) (b := 65) fl_4_45 rfl rfl dX4_pay_53 ?_
            refine zRx.iload 4 rfl dX4_pay_56 ?_
            refine zRx.iload_n 3 rfl rfl dX4_pay_58 ?_
            refine zRx.iast rfl (by omega) (by omega) dX4_pay_59 ?_
            exact zR.ret rfl dX4_pay_60 ⟨rfl, (by rw [L_X4_pay_3, if_neg (Int.not_le.mpr c9), if_pos c20, if_neg (Int.not_le.mpr c30), if_neg (Int.not_lt.mpr c41)] : L_X4_pay_3 who value i (n + 1) d σ = zu (zu σ 63 d 0) 65 d i).symm⟩
def R_X4_pay (σ : zG) (who value i : Int) : zG := L_X4_pay_3 who value i 200 0 σ
theorem fr_R_X4_pay (σ : zG) (who value i : Int) {k : Nat} (h : k ∉ [63, 65]) : (R_X4_pay σ who value i) k = σ k := by
  have ne : ∀ c ∈ [63, 65], k ≠ c := fun c hc e => h (e ▸ hc)
  have nl_L_X4_pay_3 : k ∉ [63, 65] := fun hm => h (by revert hm; simp only [List.mem_cons, List.not_mem_nil, or_false]; omega)
  unfold R_X4_pay
  repeat' split
  all_goals first | rfl | simp only [zu_row _ _ _ (ne 63 (by decide)), zu_row _ _ _ (ne 65 (by decide)), fr_L_X4_pay_3 (h := nl_L_X4_pay_3)]

set_option maxRecDepth 20000 in
theorem does_X4_pay (σ : zG) (who value i : Int) (hm : σ 53 8 ≤ 128)  : zDo SC 0 m_X4_pay [zP 53, .inl who, .inl value, .inl i] σ (zEq none (R_X4_pay σ who value i)) := by
  refine zDo.intro mk_X4_pay (Nat.le_of_ble_eq_true rfl) ?_
  refine zRx.iconst ⟨by decide, by decide⟩ dX4_pay_0 ?_
  refine zRx.istore (ls' := [(0, zP 53), (1, .inl who), (2, .inl value), (3, .inl i), (4, .inl 0)]) rfl (by decide) dX4_pay_1 ?_
  have he : R_X4_pay σ who value i = L_X4_pay_3 who value i 200 0 σ := by rw [R_X4_pay]
  rw [he]
  exact loop_X4_pay_3 who value i   200 0 σ (by decide) hm (by omega)

def L_X4_learn_78 (who f i : Int) (fr : Int) : Nat → Int → zG → zG
  | 0, _, σ => σ
  | n + 1, q, σ => if (σ 53 8) ≤ q then σ else (if (σ 60 q) = who then (if hb fr (σ 61 q) then (L_X4_learn_78 who f i fr n (q + 1) (zu (zu σ 66 q 1) 63 q (V_X4_grown (zu σ 66 q 1) (σ 63 q)))) else (L_X4_learn_78 who f i fr n (q + 1) σ)) else (L_X4_learn_78 who f i fr n (q + 1) σ))
theorem fr_L_X4_learn_78 (who f i : Int) (fr : Int)  (n : Nat) (q : Int) (σ : zG) {k : Nat} (h : k ∉ [63, 66]) : (L_X4_learn_78 who f i fr n q σ) k = σ k := by
  induction n generalizing q σ with
  | zero => rfl
  | succ n ih =>
    have ne : ∀ c ∈ [63, 66], k ≠ c := fun c hc e => h (e ▸ hc)
    rw [L_X4_learn_78]
    repeat' split
    all_goals first | rfl | simp only [zu_row _ _ _ (ne 63 (by decide)), zu_row _ _ _ (ne 66 (by decide)), ih]

set_option maxRecDepth 20000 in
theorem loop_X4_learn_78 (who f i : Int)  (fr : Int) : ∀ (n : Nat) (q : Int) (σ : zG), 0 ≤ q → σ 53 8 ≤ 128 → (σ 53 8 - q).toNat < n → zR SC 2 m_X4_learn 78 [(0, zP 53), (1, .inl who), (2, .inl f), (3, .inl i), (4, .inl fr), (5, .inl q)] [] σ (zEq none (L_X4_learn_78 who f i fr n q σ)) := by
  intro n
  induction n with
  | zero => intro q σ h0 hm hmz; exact absurd hmz (Nat.not_lt_zero _)
  | succ n ih =>
    intro q σ h0 hm hmz
    refine zRx.iload 5 rfl dX4_learn_78 ?_
    refine zRx.aload_n 0 rfl rfl dX4_learn_80 ?_
    refine zRx.getIv (a := 53) (ji := 8) (v := σ 53 8) rfl fl_4_81 rfl rfl rfl dX4_learn_81 ?_
    refine zRx.icmp_ge (tgt := 145) dX4_learn_84 (by decide) (fun c84 => ?_) (fun c84 => ?_)
    · exact zR.ret rfl dX4_learn_145 ⟨rfl, (by rw [L_X4_learn_78, if_pos c84] : L_X4_learn_78 who f i fr (n + 1) q σ = σ).symm⟩
    · refine zRx.aload_n 0 rfl rfl dX4_learn_87 ?_
      refine zRx.getR (a := 53) (b := 60) fl_4_30 rfl rfl dX4_learn_88 ?_
      refine zRx.iload 5 rfl dX4_learn_91 ?_
      refine zRx.ialdv (v := σ 60 q) rfl rfl (by omega) (by omega) dX4_learn_93 ?_
      refine zRx.iload_n 1 rfl rfl dX4_learn_94 ?_
      refine zRx.icmp_ne (tgt := 139) dX4_learn_95 (by decide) (fun c95 => ?_) (fun c95 => ?_)
      · refine zRx.iinc (n := 1) (ls' := [(0, zP 53), (1, .inl who), (2, .inl f), (3, .inl i), (4, .inl fr), (5, .inl (q + 1))]) 5 rfl ⟨by omega, by omega⟩ rfl (by decide) dX4_learn_139 ?_
        refine zRx.goto (tgt := 78) dX4_learn_142 (by decide) ?_
        have he : L_X4_learn_78 who f i fr (n + 1) q σ = L_X4_learn_78 who f i fr n (q + 1) σ := by rw [L_X4_learn_78, if_neg (Int.not_le.mpr c84), if_neg c95]
        rw [he]
        exact ih (q + 1) σ (by omega) (by omega) (by omega)
      · refine zRx.iload 4 rfl dX4_learn_98 ?_
        refine zRx.aload_n 0 rfl rfl dX4_learn_100 ?_
        refine zRx.getR (a := 53) (b := 61) fl_4_33 rfl rfl dX4_learn_101 ?_
        refine zRx.iload 5 rfl dX4_learn_104 ?_
        refine zRx.ialdv (v := σ 61 q) rfl rfl (by omega) (by omega) dX4_learn_106 ?_
        refine zRx.cSi (w := .inl (b2 (hb fr (σ 61 q)))) (M := m_X11_hasBit) (av := [.inl fr, .inl (σ 61 q)]) cs_4_135 mk_X11_hasBit (by decide) rfl (Nat.le_of_ble_eq_true rfl) dX4_learn_107 (does_X11_hasBit fr (σ 61 q) SC σ) ?_
        refine zRx.if_eqB (tgt := 139) dX4_learn_110 (by decide) (fun c110 => ?_) (fun c110 => ?_)
        · refine zRx.iinc (n := 1) (ls' := [(0, zP 53), (1, .inl who), (2, .inl f), (3, .inl i), (4, .inl fr), (5, .inl (q + 1))]) 5 rfl ⟨by omega, by omega⟩ rfl (by decide) dX4_learn_139 ?_
          refine zRx.goto (tgt := 78) dX4_learn_142 (by decide) ?_
          have he : L_X4_learn_78 who f i fr (n + 1) q σ = L_X4_learn_78 who f i fr n (q + 1) σ := by rw [L_X4_learn_78, if_neg (Int.not_le.mpr c84), if_pos c95, if_neg c110]
          rw [he]
          exact ih (q + 1) σ (by omega) (by omega) (by omega)
        · refine zRx.aload_n 0 rfl rfl dX4_learn_113 ?_
          refine zRx.getR (a := 53) (b := 66) fl_4_48 rfl rfl dX4_learn_114 ?_
          refine zRx.iload 5 rfl dX4_learn_117 ?_
          refine zRx.iconst ⟨by decide, by decide⟩ dX4_learn_119 ?_
          refine zRx.iast rfl (by omega) (by omega) dX4_learn_120 ?_
          refine zRx.aload_n 0 rfl rfl dX4_learn_121 ?_
          refine zRx.getR (a := 53) (b := 63) fl_4_39 rfl rfl dX4_learn_122 ?_
          refine zRx.iload 5 rfl dX4_learn_125 ?_
          refine zRx.aload_n 0 rfl rfl dX4_learn_127 ?_
          refine zRx.aload_n 0 rfl rfl dX4_learn_128 ?_
          refine zRx.getR (a := 53) (b := 63) fl_4_39 rfl rfl dX4_learn_129 ?_
          refine zRx.iload 5 rfl dX4_learn_132 ?_
          refine zRx.ialdv (v := σ 63 q) (zu_ne _ _ _ _ (by decide)) rfl (by omega) (by omega) dX4_learn_134 ?_
          refine zRx.cVi (w := .inl (V_X4_grown (zu σ 66 q 1) (σ 63 q))) (M := m_X4_grown) (av := [.inl (σ 63 q)]) cv_4_166 mk_X4_grown (by decide) (b := 53) rfl rfl (Nat.le_of_ble_eq_true rfl) dX4_learn_135 (does_X4_grown (zu σ 66 q 1) (σ 63 q)) ?_
          refine zRx.iast rfl (by omega) (by omega) dX4_learn_138 ?_
          refine zRx.iinc (n := 1) (ls' := [(0, zP 53), (1, .inl who), (2, .inl f), (3, .inl i), (4, .inl fr), (5, .inl (q + 1))]) 5 rfl ⟨by omega, by omega⟩ rfl (by decide) dX4_learn_139 ?_
          refine zRx.goto (tgt := 78) dX4_learn_142 (by decide) ?_
          have he : L_X4_learn_78 who f i fr (n + 1) q σ = L_X4_learn_78 who f i fr n (q + 1) (zu (zu σ 66 q 1) 63 q (V_X4_grown (zu σ 66 q 1) (σ 63 q))) := by rw [L_X4_learn_78, if_neg (Int.not_le.mpr c84), if_pos c95, if_pos c110]
          rw [he]
          exact ih (q + 1) (zu (zu σ 66 q 1) 63 q (V_X4_grown (zu σ 66 q 1) (σ 63 q))) (by omega) (by have e9 : (zu (zu σ 66 q 1) 63 q (V_X4_grown (zu σ 66 q 1) (σ 63 q))) 53 8 = σ 53 8 := ((zu_ne _ _ _ _ (by decide)).trans (zu_ne _ _ _ _ (by decide))); omega) (by have e9 : (zu (zu σ 66 q 1) 63 q (V_X4_grown (zu σ 66 q 1) (σ 63 q))) 53 8 = σ 53 8 := ((zu_ne _ _ _ _ (by decide)).trans (zu_ne _ _ _ _ (by decide))); omega)
def S_X4_learn_34 (who f i : Int) (fr : Int) : Nat → Int → zG → Int × zG
  | 0, q, σ => (q, σ)
  | n + 1, q, σ => if (σ 5 1) ≤ q then (q, σ) else (if hb fr q then (S_X4_learn_34 who f i fr n (q + 1) (zu σ 57 ((who * 12) + q) i)) else (S_X4_learn_34 who f i fr n (q + 1) σ))
theorem fr_S_X4_learn_34 (who f i : Int) (fr : Int)  (n : Nat) (q : Int) (σ : zG) {k : Nat} (h : k ∉ [57]) : (S_X4_learn_34 who f i fr n q σ).2 k = σ k := by
  induction n generalizing q σ with
  | zero => rfl
  | succ n ih =>
    have ne : ∀ c ∈ [57], k ≠ c := fun c hc e => h (e ▸ hc)
    rw [S_X4_learn_34]
    repeat' split
    all_goals first | rfl | simp only [zu_row _ _ _ (ne 57 (by decide)), ih]

set_option maxRecDepth 20000 in
theorem seg_X4_learn_34 (who f i : Int) (hw : 0 ≤ who ∧ who < 8) (fr : Int) : ∀ (n : Nat) (q : Int) (σ : zG) (X : zX), 0 ≤ q → σ 5 1 ≤ 12 → (13 - q).toNat < n → zRx none 2 m_X4_learn SC 75 [(0, zP 53), (1, .inl who), (2, .inl f), (3, .inl i), (4, .inl fr), (5, .inl ((S_X4_learn_34 who f i fr n q σ).1))] [] ((S_X4_learn_34 who f i fr n q σ).2) X → zRx none 2 m_X4_learn SC 34 [(0, zP 53), (1, .inl who), (2, .inl f), (3, .inl i), (4, .inl fr), (5, .inl q)] [] σ X := by
  intro n
  induction n with
  | zero => intro q σ X h0 hF hmz; exact absurd hmz (Nat.not_lt_zero _)
  | succ n ih =>
    intro q σ X h0 hF hmz K
    refine zRx.iload 5 rfl dX4_learn_34 ?_
    refine zRx.aload_n 0 rfl rfl dX4_learn_36 ?_
    refine zRx.getR (a := 53) (b := 5) fl_4_51 rfl rfl dX4_learn_37 ?_
    refine zRx.getIv (a := 5) (ji := 1) (v := σ 5 1) rfl fl_4_163 rfl rfl rfl dX4_learn_40 ?_
    refine zRx.icmp_ge (tgt := 75) dX4_learn_43 (by decide) (fun c43 => ?_) (fun c43 => ?_)
    · have he : S_X4_learn_34 who f i fr (n + 1) q σ = (q, σ) := by rw [S_X4_learn_34, if_pos c43]
      rw [he] at K
      exact K
    · refine zRx.iload 4 rfl dX4_learn_46 ?_
      refine zRx.iload 5 rfl dX4_learn_48 ?_
      refine zRx.cSi (w := .inl (b2 (hb fr q))) (M := m_X11_hasBit) (av := [.inl fr, .inl q]) cs_4_135 mk_X11_hasBit (by decide) rfl (Nat.le_of_ble_eq_true rfl) dX4_learn_50 (does_X11_hasBit fr q SC σ) ?_
      refine zRx.if_eqB (tgt := 69) dX4_learn_53 (by decide) (fun c53 => ?_) (fun c53 => ?_)
      · refine zRx.iinc (n := 1) (ls' := [(0, zP 53), (1, .inl who), (2, .inl f), (3, .inl i), (4, .inl fr), (5, .inl (q + 1))]) 5 rfl ⟨by omega, by omega⟩ rfl (by decide) dX4_learn_69 ?_
        refine zRx.goto (tgt := 34) dX4_learn_72 (by decide) ?_
        have he : S_X4_learn_34 who f i fr (n + 1) q σ = S_X4_learn_34 who f i fr n (q + 1) σ := by rw [S_X4_learn_34, if_neg (Int.not_le.mpr c43), if_neg c53]
        rw [he] at K
        exact ih (q + 1) σ _ (by omega) (by omega) (by omega) K
      · refine zRx.aload_n 0 rfl rfl dX4_learn_56 ?_
        refine zRx.getR (a := 53) (b := 57) fl_4_21 rfl rfl dX4_learn_57 ?_
        refine zRx.iload_n 1 rfl rfl dX4_learn_60 ?_
        refine zRx.bipush ⟨by decide, by decide⟩ rfl dX4_learn_61 ?_
        refine zRx.imul ⟨by omega, by omega⟩ dX4_learn_63 ?_
        refine zRx.iload 5 rfl dX4_learn_64 ?_
        refine zRx.iadd ⟨by omega, by omega⟩ dX4_learn_66 ?_
        refine zRx.iload_n 3 rfl rfl dX4_learn_67 ?_
        refine zRx.iast rfl (by omega) (by omega) dX4_learn_68 ?_
        refine zRx.iinc (n := 1) (ls' := [(0, zP 53), (1, .inl who), (2, .inl f), (3, .inl i), (4, .inl fr), (5, .inl (q + 1))]) 5 rfl ⟨by omega, by omega⟩ rfl (by decide) dX4_learn_69 ?_
        refine zRx.goto (tgt := 34) dX4_learn_72 (by decide) ?_
        have he : S_X4_learn_34 who f i fr (n + 1) q σ = S_X4_learn_34 who f i fr n (q + 1) (zu σ 57 ((who * 12) + q) i) := by rw [S_X4_learn_34, if_neg (Int.not_le.mpr c43), if_pos c53]
        rw [he] at K
        exact ih (q + 1) (zu σ 57 ((who * 12) + q) i) _ (by omega) (by have e9 : (zu σ 57 ((who * 12) + q) i) 5 1 = σ 5 1 := (zu_ne _ _ _ _ (by decide)); omega) (by omega) K
def R_X4_learn (σ : zG) (who f i : Int) : zG := L_X4_learn_78 who f i (V_X4_freshFor σ who f) 200 0 ((S_X4_learn_34 who f i (V_X4_freshFor σ who f) 20 0 (zu (zu σ 54 who (bor (σ 54 who) (V_X4_freshFor σ who f))) 53 7 (bor (σ 53 7) (bshl 1 f)))).2)
theorem fr_R_X4_learn (σ : zG) (who f i : Int) {k : Nat} (h : k ∉ [53, 54, 57, 63, 66]) : (R_X4_learn σ who f i) k = σ k := by
  have ne : ∀ c ∈ [53, 54, 57, 63, 66], k ≠ c := fun c hc e => h (e ▸ hc)
  have nk_S_X4_learn_34 : k ∉ [57] := fun hm => h (by revert hm; simp only [List.mem_cons, List.not_mem_nil, or_false]; omega)
  have nl_L_X4_learn_78 : k ∉ [63, 66] := fun hm => h (by revert hm; simp only [List.mem_cons, List.not_mem_nil, or_false]; omega)
  have nl_S_X4_learn_34 : k ∉ [57] := fun hm => h (by revert hm; simp only [List.mem_cons, List.not_mem_nil, or_false]; omega)
  unfold R_X4_learn
  repeat' split
  all_goals first | rfl | simp only [zu_row _ _ _ (ne 53 (by decide)), zu_row _ _ _ (ne 54 (by decide)), zu_row _ _ _ (ne 57 (by decide)), zu_row _ _ _ (ne 63 (by decide)), zu_row _ _ _ (ne 66 (by decide)), fr_S_X4_learn_34 (h := nk_S_X4_learn_34), fr_L_X4_learn_78 (h := nl_L_X4_learn_78), fr_S_X4_learn_34 (h := nl_S_X4_learn_34)]

set_option maxRecDepth 20000 in
theorem does_X4_learn (σ : zG) (who f i : Int) (hw : 0 ≤ who ∧ who < 8) (hs : σ 5 2 ≤ 8) (hF : σ 5 1 ≤ 12) (hm : σ 53 8 ≤ 128)  : zDo SC 2 m_X4_learn [zP 53, .inl who, .inl f, .inl i] σ (zEq none (R_X4_learn σ who f i)) := by
  refine zDo.intro mk_X4_learn (Nat.le_of_ble_eq_true rfl) ?_
  refine zRx.aload_n 0 rfl rfl dX4_learn_0 ?_
  refine zRx.iload_n 1 rfl rfl dX4_learn_1 ?_
  refine zRx.iload_n 2 rfl rfl dX4_learn_2 ?_
  refine zRx.cVi (w := .inl (V_X4_freshFor σ who f)) (M := m_X4_freshFor) (av := [.inl who, .inl f]) cv_4_160 mk_X4_freshFor (by decide) (b := 53) rfl rfl (Nat.le_of_ble_eq_true rfl) dX4_learn_3 (does_X4_freshFor σ who f (by omega) (by omega)) ?_
  refine zRx.istore (ls' := [(0, zP 53), (1, .inl who), (2, .inl f), (3, .inl i), (4, .inl (V_X4_freshFor σ who f))]) rfl (by decide) dX4_learn_6 ?_
  refine zRx.aload_n 0 rfl rfl dX4_learn_8 ?_
  refine zRx.getR (a := 53) (b := 54) fl_4_9 rfl rfl dX4_learn_9 ?_
  refine zRx.iload_n 1 rfl rfl dX4_learn_12 ?_
  refine zRx.dup2 rfl rfl dX4_learn_13 ?_
  refine zRx.ialdv (v := σ 54 who) rfl rfl (by omega) (by omega) dX4_learn_14 ?_
  refine zRx.iload 4 rfl dX4_learn_15 ?_
  refine zRx.ior dX4_learn_17 ?_
  refine zRx.iast rfl (by omega) (by omega) dX4_learn_18 ?_
  refine zRx.aload_n 0 rfl rfl dX4_learn_19 ?_
  refine zRx.dup rfl dX4_learn_20 ?_
  refine zRx.getIv (a := 53) (ji := 7) (v := σ 53 7) (zu_ne _ _ _ _ (by decide)) fl_4_78 rfl rfl rfl dX4_learn_21 ?_
  refine zRx.iconst ⟨by decide, by decide⟩ dX4_learn_24 ?_
  refine zRx.iload_n 2 rfl rfl dX4_learn_25 ?_
  refine zRx.ishl dX4_learn_26 ?_
  refine zRx.ior dX4_learn_27 ?_
  refine zRx.putI (a := 53) (ji := 7) pl_4_78 rfl rfl rfl dX4_learn_28 ?_
  refine zRx.iconst ⟨by decide, by decide⟩ dX4_learn_31 ?_
  refine zRx.istore (ls' := [(0, zP 53), (1, .inl who), (2, .inl f), (3, .inl i), (4, .inl (V_X4_freshFor σ who f)), (5, .inl 0)]) rfl (by decide) dX4_learn_32 ?_
  refine seg_X4_learn_34 who f i hw (V_X4_freshFor σ who f) 20 0 (zu (zu σ 54 who (bor (σ 54 who) (V_X4_freshFor σ who f))) 53 7 (bor (σ 53 7) (bshl 1 f))) _ (by omega) (by have e9 : (zu (zu σ 54 who (bor (σ 54 who) (V_X4_freshFor σ who f))) 53 7 (bor (σ 53 7) (bshl 1 f))) 5 1 = σ 5 1 := ((zu_ne _ _ _ _ (by decide)).trans (zu_ne _ _ _ _ (by decide))); omega) (by omega) ?_
  refine zRx.iconst ⟨by decide, by decide⟩ dX4_learn_75 ?_
  refine zRx.istore (ls' := [(0, zP 53), (1, .inl who), (2, .inl f), (3, .inl i), (4, .inl (V_X4_freshFor σ who f)), (5, .inl 0)]) rfl (by decide) dX4_learn_76 ?_
  have he : R_X4_learn σ who f i = L_X4_learn_78 who f i (V_X4_freshFor σ who f) 200 0 ((S_X4_learn_34 who f i (V_X4_freshFor σ who f) 20 0 (zu (zu σ 54 who (bor (σ 54 who) (V_X4_freshFor σ who f))) 53 7 (bor (σ 53 7) (bshl 1 f)))).2) := by rw [R_X4_learn]
  rw [he]
  exact loop_X4_learn_78 who f i  (V_X4_freshFor σ who f) 200 0 ((S_X4_learn_34 who f i (V_X4_freshFor σ who f) 20 0 (zu (zu σ 54 who (bor (σ 54 who) (V_X4_freshFor σ who f))) 53 7 (bor (σ 53 7) (bshl 1 f)))).2) (by omega) (by have e9 : ((S_X4_learn_34 who f i (V_X4_freshFor σ who f) 20 0 (zu (zu σ 54 who (bor (σ 54 who) (V_X4_freshFor σ who f))) 53 7 (bor (σ 53 7) (bshl 1 f)))).2) 53 8 = σ 53 8 := ((congrFun (fr_S_X4_learn_34 who f i (V_X4_freshFor σ who f) 20 0 (zu (zu σ 54 who (bor (σ 54 who) (V_X4_freshFor σ who f))) 53 7 (bor (σ 53 7) (bshl 1 f))) (k := 53) (by decide)) _).trans ((zu_off _ _ _ (by decide)).trans (zu_ne _ _ _ _ (by decide)))); omega) (by have e9 : ((S_X4_learn_34 who f i (V_X4_freshFor σ who f) 20 0 (zu (zu σ 54 who (bor (σ 54 who) (V_X4_freshFor σ who f))) 53 7 (bor (σ 53 7) (bshl 1 f)))).2) 53 8 = σ 53 8 := ((congrFun (fr_S_X4_learn_34 who f i (V_X4_freshFor σ who f) 20 0 (zu (zu σ 54 who (bor (σ 54 who) (V_X4_freshFor σ who f))) 53 7 (bor (σ 53 7) (bshl 1 f))) (k := 53) (by decide)) _).trans ((zu_off _ _ _ (by decide)).trans (zu_ne _ _ _ _ (by decide)))); omega)

set_option maxRecDepth 20000 in
theorem does_X4_isKnownt (σ : zG) (who f : Int) (hw : 0 ≤ who ∧ who < 8) : zDo SC 1 m_X4_isKnown [zP 67, .inl who, .inl f] σ (zEq (some (.inl (b2 (hb (σ 68 who) f)))) σ) := by
  refine zDo.intro mk_X4_isKnown (Nat.le_of_ble_eq_true rfl) ?_
  refine zRx.aload_n 0 rfl rfl dX4_isKnown_0 ?_
  refine zRx.getR (a := 67) (b := 68) fl_4_9 rfl rfl dX4_isKnown_1 ?_
  refine zRx.iload_n 1 rfl rfl dX4_isKnown_4 ?_
  refine zRx.ialdv (v := σ 68 who) rfl rfl (by omega) (by omega) dX4_isKnown_5 ?_
  refine zRx.iload_n 2 rfl rfl dX4_isKnown_6 ?_
  refine zRx.cSi (w := .inl (b2 (hb (σ 68 who) f))) (M := m_X11_hasBit) (av := [.inl (σ 68 who), .inl f]) cs_4_135 mk_X11_hasBit (by decide) rfl (Nat.le_of_ble_eq_true rfl) dX4_isKnown_7 (does_X11_hasBit (σ 68 who) f SC σ) ?_
  exact zR.zret rfl (b2_01 _) dX4_isKnown_10 ⟨by rw [show b2 (hb (σ 68 who) f) = b2 (hb (σ 68 who) f) from by unfold b2; simp only []], rfl⟩

def V_X4_oldValuet (σ : zG) (f : Int) : Int := Int.tdiv (w32 ((σ 9 f) * (σ 15 1))) 10
set_option maxRecDepth 20000 in
theorem does_X4_oldValuet (σ : zG) (f : Int) (hf : 0 ≤ f ∧ f < 12) : zDo SC 0 m_X4_oldValue [zP 67, .inl f] σ (zEq (some (.inl (V_X4_oldValuet σ f))) σ) := by
  refine zDo.intro mk_X4_oldValue (Nat.le_of_ble_eq_true rfl) ?_
  refine zRx.aload_n 0 rfl rfl dX4_oldValue_0 ?_
  refine zRx.getR (a := 67) (b := 5) fl_4_51 rfl rfl dX4_oldValue_1 ?_
  refine zRx.getR (a := 5) (b := 9) fl_4_114 rfl rfl dX4_oldValue_4 ?_
  refine zRx.iload_n 1 rfl rfl dX4_oldValue_7 ?_
  refine zRx.ialdv (v := σ 9 f) rfl rfl (by omega) (by omega) dX4_oldValue_8 ?_
  refine zRx.aload_n 0 rfl rfl dX4_oldValue_9 ?_
  refine zRx.getR (a := 67) (b := 5) fl_4_51 rfl rfl dX4_oldValue_10 ?_
  refine zRx.getR (a := 5) (b := 15) fl_4_117 rfl rfl dX4_oldValue_13 ?_
  refine zRx.iconst ⟨by decide, by decide⟩ dX4_oldValue_16 ?_
  refine zRx.ialdv (v := σ 15 1) rfl rfl (by decide) (by decide) dX4_oldValue_17 ?_
  refine zRx.imulW dX4_oldValue_18 ?_
  refine zRx.bipush ⟨by decide, by decide⟩ rfl dX4_oldValue_19 ?_
  refine zRx.idivT (by omega) dX4_oldValue_21 ?_
  exact zR.iret rfl dX4_oldValue_22 ⟨rfl, rfl⟩

def L_X4_knownToOthers_4t (σ : zG) (who : Int) : Nat → Int → Int → Int
  | 0, _, _ => 0
  | n + 1, al, i => if (σ 5 0) ≤ i then al else (if i = who then (L_X4_knownToOthers_4t σ who n (bor al 0) (i + 1)) else (L_X4_knownToOthers_4t σ who n (bor al (σ 68 i)) (i + 1)))
set_option maxRecDepth 20000 in
theorem loop_X4_knownToOthers_4t (σ : zG) (who : Int) (hp : σ 5 0 ≤ 8) : ∀ (n : Nat) (al i : Int) , 0 ≤ i → (9 - i).toNat < n → zR SC 0 m_X4_knownToOthers 4 [(0, zP 67), (1, .inl who), (2, .inl al), (3, .inl i)] [] σ (zEq (some (.inl (L_X4_knownToOthers_4t σ who n al i))) σ) := by
  intro n
  induction n with
  | zero => intro al i  h0 hmz; exact absurd hmz (Nat.not_lt_zero _)
  | succ n ih =>
    intro al i  h0 hmz
    refine zRx.iload_n 3 rfl rfl dX4_knownToOthers_4 ?_
    refine zRx.aload_n 0 rfl rfl dX4_knownToOthers_5 ?_
    refine zRx.getR (a := 67) (b := 5) fl_4_51 rfl rfl dX4_knownToOthers_6 ?_
    refine zRx.getIv (a := 5) (ji := 0) (v := σ 5 0) rfl fl_4_65 rfl rfl rfl dX4_knownToOthers_9 ?_
    refine zRx.icmp_ge (tgt := 39) dX4_knownToOthers_12 (by decide) (fun c12 => ?_) (fun c12 => ?_)
    · refine zRx.iload_n 2 rfl rfl dX4_knownToOthers_39 ?_
      exact zR.iret rfl dX4_knownToOthers_40 (by have he : L_X4_knownToOthers_4t σ who (n + 1) al i = al := (by rw [L_X4_knownToOthers_4t, if_pos c12]); rw [he]; exact ⟨rfl, rfl⟩)
    · refine zRx.iload_n 2 rfl rfl dX4_knownToOthers_15 ?_
      refine zRx.iload_n 3 rfl rfl dX4_knownToOthers_16 ?_
      refine zRx.iload_n 1 rfl rfl dX4_knownToOthers_17 ?_
      refine zRx.icmp_eq (tgt := 30) dX4_knownToOthers_18 (by decide) (fun c18 => ?_) (fun c18 => ?_)
      · refine zRx.iconst ⟨by decide, by decide⟩ dX4_knownToOthers_30 ?_
        refine zRx.ior dX4_knownToOthers_31 ?_
        refine zRx.istore_n (ls' := [(0, zP 67), (1, .inl who), (2, .inl (bor al 0)), (3, .inl i)]) rfl rfl (by decide) dX4_knownToOthers_32 ?_
        refine zRx.iinc (n := 1) (ls' := [(0, zP 67), (1, .inl who), (2, .inl (bor al 0)), (3, .inl (i + 1))]) 3 rfl ⟨by omega, by omega⟩ rfl (by decide) dX4_knownToOthers_33 ?_
        refine zRx.goto (tgt := 4) dX4_knownToOthers_36 (by decide) ?_
        have he : L_X4_knownToOthers_4t σ who (n + 1) al i = L_X4_knownToOthers_4t σ who n (bor al 0) (i + 1) := by rw [L_X4_knownToOthers_4t, if_neg (Int.not_le.mpr c12), if_pos c18]
        rw [he]
        exact ih (bor al 0) (i + 1)  (by omega) (by omega)
      · refine zRx.aload_n 0 rfl rfl dX4_knownToOthers_21 ?_
        refine zRx.getR (a := 67) (b := 68) fl_4_9 rfl rfl dX4_knownToOthers_22 ?_
        refine zRx.iload_n 3 rfl rfl dX4_knownToOthers_25 ?_
        refine zRx.ialdv (v := σ 68 i) rfl rfl (by omega) (by omega) dX4_knownToOthers_26 ?_
        refine zRx.goto (tgt := 31) dX4_knownToOthers_27 (by decide) ?_
        refine zRx.ior dX4_knownToOthers_31 ?_
        refine zRx.istore_n (ls' := [(0, zP 67), (1, .inl who), (2, .inl (bor al (σ 68 i))), (3, .inl i)]) rfl rfl (by decide) dX4_knownToOthers_32 ?_
        refine zRx.iinc (n := 1) (ls' := [(0, zP 67), (1, .inl who), (2, .inl (bor al (σ 68 i))), (3, .inl (i + 1))]) 3 rfl ⟨by omega, by omega⟩ rfl (by decide) dX4_knownToOthers_33 ?_
        refine zRx.goto (tgt := 4) dX4_knownToOthers_36 (by decide) ?_
        have he : L_X4_knownToOthers_4t σ who (n + 1) al i = L_X4_knownToOthers_4t σ who n (bor al (σ 68 i)) (i + 1) := by rw [L_X4_knownToOthers_4t, if_neg (Int.not_le.mpr c12), if_neg c18]
        rw [he]
        exact ih (bor al (σ 68 i)) (i + 1)  (by omega) (by omega)
def R_X4_knownToOtherst (σ : zG) (who : Int) : Int := L_X4_knownToOthers_4t σ who 10 0 0
set_option maxRecDepth 20000 in
theorem does_X4_knownToOtherst (σ : zG) (who : Int) (hp : σ 5 0 ≤ 8)  : zDo SC 0 m_X4_knownToOthers [zP 67, .inl who] σ (zEq (some (.inl (R_X4_knownToOtherst σ who))) σ) := by
  refine zDo.intro mk_X4_knownToOthers (Nat.le_of_ble_eq_true rfl) ?_
  refine zRx.iconst ⟨by decide, by decide⟩ dX4_knownToOthers_0 ?_
  refine zRx.istore_n (ls' := [(0, zP 67), (1, .inl who), (2, .inl 0)]) rfl rfl (by decide) dX4_knownToOthers_1 ?_
  refine zRx.iconst ⟨by decide, by decide⟩ dX4_knownToOthers_2 ?_
  refine zRx.istore_n (ls' := [(0, zP 67), (1, .inl who), (2, .inl 0), (3, .inl 0)]) rfl rfl (by decide) dX4_knownToOthers_3 ?_
  have he : R_X4_knownToOtherst σ who = L_X4_knownToOthers_4t σ who 10 0 0 := by rw [R_X4_knownToOtherst]
  rw [he]
  exact loop_X4_knownToOthers_4t σ who hp  10 0 0  (by omega) (by omega)

def V_X4_valueFort (σ : zG) (who f : Int) : Int := if hb (σ 67 7) f then (V_X4_oldValuet σ f) else (if (σ 11 f) = who then (σ 9 f) else (if hb (R_X4_knownToOtherst σ who) f then (σ 9 f) else (Int.tdiv (w32 ((σ 9 f) * (σ 15 2))) 10)))
set_option maxRecDepth 20000 in
theorem does_X4_valueFort (σ : zG) (who f : Int) (hf : 0 ≤ f ∧ f < 12) (hp : σ 5 0 ≤ 8) : zDo SC 1 m_X4_valueFor [zP 67, .inl who, .inl f] σ (zEq (some (.inl (V_X4_valueFort σ who f))) σ) := by
  refine zDo.intro mk_X4_valueFor (Nat.le_of_ble_eq_true rfl) ?_
  refine zRx.aload_n 0 rfl rfl dX4_valueFor_0 ?_
  refine zRx.getIv (a := 67) (ji := 7) (v := σ 67 7) rfl fl_4_78 rfl rfl rfl dX4_valueFor_1 ?_
  refine zRx.iload_n 2 rfl rfl dX4_valueFor_4 ?_
  refine zRx.cSi (w := .inl (b2 (hb (σ 67 7) f))) (M := m_X11_hasBit) (av := [.inl (σ 67 7), .inl f]) cs_4_135 mk_X11_hasBit (by decide) rfl (Nat.le_of_ble_eq_true rfl) dX4_valueFor_5 (does_X11_hasBit (σ 67 7) f SC σ) ?_
  refine zRx.if_eqB (tgt := 17) dX4_valueFor_8 (by decide) (fun c8 => ?_) (fun c8 => ?_)
  · refine zRx.aload_n 0 rfl rfl dX4_valueFor_17 ?_
    refine zRx.getR (a := 67) (b := 5) fl_4_51 rfl rfl dX4_valueFor_18 ?_
    refine zRx.getR (a := 5) (b := 11) fl_4_156 rfl rfl dX4_valueFor_21 ?_
    refine zRx.iload_n 2 rfl rfl dX4_valueFor_24 ?_
    refine zRx.ialdv (v := σ 11 f) rfl rfl (by omega) (by omega) dX4_valueFor_25 ?_
    refine zRx.iload_n 1 rfl rfl dX4_valueFor_26 ?_
    refine zRx.icmp_eq (tgt := 42) dX4_valueFor_27 (by decide) (fun c27 => ?_) (fun c27 => ?_)
    · refine zRx.aload_n 0 rfl rfl dX4_valueFor_42 ?_
      refine zRx.getR (a := 67) (b := 5) fl_4_51 rfl rfl dX4_valueFor_43 ?_
      refine zRx.getR (a := 5) (b := 9) fl_4_114 rfl rfl dX4_valueFor_46 ?_
      refine zRx.iload_n 2 rfl rfl dX4_valueFor_49 ?_
      refine zRx.ialdv (v := σ 9 f) rfl rfl (by omega) (by omega) dX4_valueFor_50 ?_
      exact zR.iret rfl dX4_valueFor_51 ⟨by unfold V_X4_valueFort; rw [if_neg c8, if_pos c27], rfl⟩
    · refine zRx.aload_n 0 rfl rfl dX4_valueFor_30 ?_
      refine zRx.iload_n 1 rfl rfl dX4_valueFor_31 ?_
      refine zRx.cVi (w := .inl (R_X4_knownToOtherst σ who)) (M := m_X4_knownToOthers) (av := [.inl who]) cv_4_178 mk_X4_knownToOthers (by decide) (b := 67) rfl rfl (Nat.le_of_ble_eq_true rfl) dX4_valueFor_32 (does_X4_knownToOtherst σ who (by omega)) ?_
      refine zRx.iload_n 2 rfl rfl dX4_valueFor_35 ?_
      refine zRx.cSi (w := .inl (b2 (hb (R_X4_knownToOtherst σ who) f))) (M := m_X11_hasBit) (av := [.inl (R_X4_knownToOtherst σ who), .inl f]) cs_4_135 mk_X11_hasBit (by decide) rfl (Nat.le_of_ble_eq_true rfl) dX4_valueFor_36 (does_X11_hasBit (R_X4_knownToOtherst σ who) f SC σ) ?_
      refine zRx.if_eqB (tgt := 52) dX4_valueFor_39 (by decide) (fun c39 => ?_) (fun c39 => ?_)
      · refine zRx.aload_n 0 rfl rfl dX4_valueFor_52 ?_
        refine zRx.getR (a := 67) (b := 5) fl_4_51 rfl rfl dX4_valueFor_53 ?_
        refine zRx.getR (a := 5) (b := 9) fl_4_114 rfl rfl dX4_valueFor_56 ?_
        refine zRx.iload_n 2 rfl rfl dX4_valueFor_59 ?_
        refine zRx.ialdv (v := σ 9 f) rfl rfl (by omega) (by omega) dX4_valueFor_60 ?_
        refine zRx.aload_n 0 rfl rfl dX4_valueFor_61 ?_
        refine zRx.getR (a := 67) (b := 5) fl_4_51 rfl rfl dX4_valueFor_62 ?_
        refine zRx.getR (a := 5) (b := 15) fl_4_117 rfl rfl dX4_valueFor_65 ?_
        refine zRx.iconst ⟨by decide, by decide⟩ dX4_valueFor_68 ?_
        refine zRx.ialdv (v := σ 15 2) rfl rfl (by decide) (by decide) dX4_valueFor_69 ?_
        refine zRx.imulW dX4_valueFor_70 ?_
        refine zRx.bipush ⟨by decide, by decide⟩ rfl dX4_valueFor_71 ?_
        refine zRx.idivT (by omega) dX4_valueFor_73 ?_
        exact zR.iret rfl dX4_valueFor_74 ⟨by unfold V_X4_valueFort; rw [if_neg c8, if_neg c27, if_neg c39], rfl⟩
      · refine zRx.aload_n 0 rfl rfl dX4_valueFor_42 ?_
        refine zRx.getR (a := 67) (b := 5) fl_4_51 rfl rfl dX4_valueFor_43 ?_
        refine zRx.getR (a := 5) (b := 9) fl_4_114 rfl rfl dX4_valueFor_46 ?_
        refine zRx.iload_n 2 rfl rfl dX4_valueFor_49 ?_
        refine zRx.ialdv (v := σ 9 f) rfl rfl (by omega) (by omega) dX4_valueFor_50 ?_
        exact zR.iret rfl dX4_valueFor_51 ⟨by unfold V_X4_valueFort; rw [if_neg c8, if_neg c27, if_pos c39], rfl⟩
  · refine zRx.aload_n 0 rfl rfl dX4_valueFor_11 ?_
    refine zRx.iload_n 2 rfl rfl dX4_valueFor_12 ?_
    refine zRx.cVi (w := .inl (V_X4_oldValuet σ f)) (M := m_X4_oldValue) (av := [.inl f]) cv_4_175 mk_X4_oldValue (by decide) (b := 67) rfl rfl (Nat.le_of_ble_eq_true rfl) dX4_valueFor_13 (does_X4_oldValuet σ f (by omega)) ?_
    exact zR.iret rfl dX4_valueFor_16 ⟨by unfold V_X4_valueFort; rw [if_pos c8], rfl⟩

def V_X4_freshFort (σ : zG) (who f : Int) : Int := band (R_X9_follow σ (bor (σ 68 who) (bshl 1 f))) (bxor (σ 68 who) (-1))
set_option maxRecDepth 20000 in
theorem does_X4_freshFort (σ : zG) (who f : Int) (hw : 0 ≤ who ∧ who < 8) (hs : σ 5 2 ≤ 8) : zDo SC 1 m_X4_freshFor [zP 67, .inl who, .inl f] σ (zEq (some (.inl (V_X4_freshFort σ who f))) σ) := by
  refine zDo.intro mk_X4_freshFor (Nat.le_of_ble_eq_true rfl) ?_
  refine zRx.aload_n 0 rfl rfl dX4_freshFor_0 ?_
  refine zRx.getR (a := 67) (b := 5) fl_4_51 rfl rfl dX4_freshFor_1 ?_
  refine zRx.aload_n 0 rfl rfl dX4_freshFor_4 ?_
  refine zRx.getR (a := 67) (b := 68) fl_4_9 rfl rfl dX4_freshFor_5 ?_
  refine zRx.iload_n 1 rfl rfl dX4_freshFor_8 ?_
  refine zRx.ialdv (v := σ 68 who) rfl rfl (by omega) (by omega) dX4_freshFor_9 ?_
  refine zRx.iconst ⟨by decide, by decide⟩ dX4_freshFor_10 ?_
  refine zRx.iload_n 2 rfl rfl dX4_freshFor_11 ?_
  refine zRx.ishl dX4_freshFor_12 ?_
  refine zRx.ior dX4_freshFor_13 ?_
  refine zRx.cVi (w := .inl (R_X9_follow σ (bor (σ 68 who) (bshl 1 f)))) (M := m_X9_follow) (av := [.inl (bor (σ 68 who) (bshl 1 f))]) cv_4_74 mk_X9_follow (by decide) (b := 5) rfl rfl (Nat.le_of_ble_eq_true rfl) dX4_freshFor_14 (does_X9_follow σ (bor (σ 68 who) (bshl 1 f)) (by omega)) ?_
  refine zRx.aload_n 0 rfl rfl dX4_freshFor_17 ?_
  refine zRx.getR (a := 67) (b := 68) fl_4_9 rfl rfl dX4_freshFor_18 ?_
  refine zRx.iload_n 1 rfl rfl dX4_freshFor_21 ?_
  refine zRx.ialdv (v := σ 68 who) rfl rfl (by omega) (by omega) dX4_freshFor_22 ?_
  refine zRx.iconst ⟨by decide, by decide⟩ dX4_freshFor_23 ?_
  refine zRx.ixor dX4_freshFor_24 ?_
  refine zRx.iand dX4_freshFor_25 ?_
  exact zR.iret rfl dX4_freshFor_26 ⟨rfl, rfl⟩

def V_X4_grownt (σ : zG) (x : Int) : Int := V_cutUpW (w32 (x * (σ 15 4))) 10
set_option maxRecDepth 20000 in
theorem does_X4_grownt (σ : zG) (x : Int)  : zDo SC 1 m_X4_grown [zP 67, .inl x] σ (zEq (some (.inl (V_X4_grownt σ x))) σ) := by
  refine zDo.intro mk_X4_grown (Nat.le_of_ble_eq_true rfl) ?_
  refine zRx.iload_n 1 rfl rfl dX4_grown_0 ?_
  refine zRx.aload_n 0 rfl rfl dX4_grown_1 ?_
  refine zRx.getR (a := 67) (b := 5) fl_4_51 rfl rfl dX4_grown_2 ?_
  refine zRx.getR (a := 5) (b := 15) fl_4_117 rfl rfl dX4_grown_5 ?_
  refine zRx.iconst ⟨by decide, by decide⟩ dX4_grown_8 ?_
  refine zRx.ialdv (v := σ 15 4) rfl rfl (by decide) (by decide) dX4_grown_9 ?_
  refine zRx.imulW dX4_grown_10 ?_
  refine zRx.bipush ⟨by decide, by decide⟩ rfl dX4_grown_11 ?_
  refine zRx.cSi (w := .inl (V_cutUpW (w32 (x * (σ 15 4))) 10)) (M := m_X11_cutUp) (av := [.inl (w32 (x * (σ 15 4))), .inl 10]) cs_4_120 mk_X11_cutUp (by decide) rfl (Nat.le_of_ble_eq_true rfl) dX4_grown_13 (does_cutUpW σ (w32 (x * (σ 15 4))) 10 SC) ?_
  exact zR.iret rfl dX4_grown_16 ⟨rfl, rfl⟩

def L_X4_whyWrong_3t (σ : zG) (ds an f : Int) : Nat → Int → Int
  | 0, _ => 0
  | n + 1, i => if (σ 5 0) ≤ i then (if hb (σ 68 an) f then 2 else 0) else (if hb ds i then (if hb (σ 68 i) f then (L_X4_whyWrong_3t σ ds an f n (i + 1)) else 1) else (L_X4_whyWrong_3t σ ds an f n (i + 1)))
set_option maxRecDepth 20000 in
theorem loop_X4_whyWrong_3t (σ : zG) (ds an f : Int) (hp : σ 5 0 ≤ 8) (ha : 0 ≤ an ∧ an < 8) : ∀ (n : Nat) (i : Int) , 0 ≤ i → (9 - i).toNat < n → zR SC 2 m_X4_whyWrong 3 [(0, zP 67), (1, .inl ds), (2, .inl an), (3, .inl f), (4, .inl i)] [] σ (zEq (some (.inl (L_X4_whyWrong_3t σ ds an f n i))) σ) := by
  intro n
  induction n with
  | zero => intro i  h0 hmz; exact absurd hmz (Nat.not_lt_zero _)
  | succ n ih =>
    intro i  h0 hmz
    refine zRx.iload 4 rfl dX4_whyWrong_3 ?_
    refine zRx.aload_n 0 rfl rfl dX4_whyWrong_5 ?_
    refine zRx.getR (a := 67) (b := 5) fl_4_51 rfl rfl dX4_whyWrong_6 ?_
    refine zRx.getIv (a := 5) (ji := 0) (v := σ 5 0) rfl fl_4_65 rfl rfl rfl dX4_whyWrong_9 ?_
    refine zRx.icmp_ge (tgt := 42) dX4_whyWrong_12 (by decide) (fun c12 => ?_) (fun c12 => ?_)
    · refine zRx.aload_n 0 rfl rfl dX4_whyWrong_42 ?_
      refine zRx.iload_n 2 rfl rfl dX4_whyWrong_43 ?_
      refine zRx.iload_n 3 rfl rfl dX4_whyWrong_44 ?_
      refine zRx.cVi (w := .inl (b2 (hb (σ 68 an) f))) (M := m_X4_isKnown) (av := [.inl an, .inl f]) cv_4_139 mk_X4_isKnown (by decide) (b := 67) rfl rfl (Nat.le_of_ble_eq_true rfl) dX4_whyWrong_45 (does_X4_isKnownt σ an f (by omega)) ?_
      refine zRx.if_eqB (tgt := 55) dX4_whyWrong_48 (by decide) (fun c48 => ?_) (fun c48 => ?_)
      · refine zRx.iconst ⟨by decide, by decide⟩ dX4_whyWrong_55 ?_
        exact zR.iret rfl dX4_whyWrong_56 (by have he : L_X4_whyWrong_3t σ ds an f (n + 1) i = 0 := (by rw [L_X4_whyWrong_3t, if_pos c12, if_neg c48]); rw [he]; exact ⟨rfl, rfl⟩)
      · refine zRx.iconst ⟨by decide, by decide⟩ dX4_whyWrong_51 ?_
        refine zRx.goto (tgt := 56) dX4_whyWrong_52 (by decide) ?_
        exact zR.iret rfl dX4_whyWrong_56 (by have he : L_X4_whyWrong_3t σ ds an f (n + 1) i = 2 := (by rw [L_X4_whyWrong_3t, if_pos c12, if_pos c48]); rw [he]; exact ⟨rfl, rfl⟩)
    · refine zRx.iload_n 1 rfl rfl dX4_whyWrong_15 ?_
      refine zRx.iload 4 rfl dX4_whyWrong_16 ?_
      refine zRx.cSi (w := .inl (b2 (hb ds i))) (M := m_X11_hasBit) (av := [.inl ds, .inl i]) cs_4_135 mk_X11_hasBit (by decide) rfl (Nat.le_of_ble_eq_true rfl) dX4_whyWrong_18 (does_X11_hasBit ds i SC σ) ?_
      refine zRx.if_eqB (tgt := 36) dX4_whyWrong_21 (by decide) (fun c21 => ?_) (fun c21 => ?_)
      · refine zRx.iinc (n := 1) (ls' := [(0, zP 67), (1, .inl ds), (2, .inl an), (3, .inl f), (4, .inl (i + 1))]) 4 rfl ⟨by omega, by omega⟩ rfl (by decide) dX4_whyWrong_36 ?_
        refine zRx.goto (tgt := 3) dX4_whyWrong_39 (by decide) ?_
        have he : L_X4_whyWrong_3t σ ds an f (n + 1) i = L_X4_whyWrong_3t σ ds an f n (i + 1) := by rw [L_X4_whyWrong_3t, if_neg (Int.not_le.mpr c12), if_neg c21]
        rw [he]
        exact ih (i + 1)  (by omega) (by omega)
      · refine zRx.aload_n 0 rfl rfl dX4_whyWrong_24 ?_
        refine zRx.iload 4 rfl dX4_whyWrong_25 ?_
        refine zRx.iload_n 3 rfl rfl dX4_whyWrong_27 ?_
        refine zRx.cVi (w := .inl (b2 (hb (σ 68 i) f))) (M := m_X4_isKnown) (av := [.inl i, .inl f]) cv_4_139 mk_X4_isKnown (by decide) (b := 67) rfl rfl (Nat.le_of_ble_eq_true rfl) dX4_whyWrong_28 (does_X4_isKnownt σ i f (by omega)) ?_
        refine zRx.if_neB (tgt := 36) dX4_whyWrong_31 (by decide) (fun c31 => ?_) (fun c31 => ?_)
        · refine zRx.iinc (n := 1) (ls' := [(0, zP 67), (1, .inl ds), (2, .inl an), (3, .inl f), (4, .inl (i + 1))]) 4 rfl ⟨by omega, by omega⟩ rfl (by decide) dX4_whyWrong_36 ?_
          refine zRx.goto (tgt := 3) dX4_whyWrong_39 (by decide) ?_
          have he : L_X4_whyWrong_3t σ ds an f (n + 1) i = L_X4_whyWrong_3t σ ds an f n (i + 1) := by rw [L_X4_whyWrong_3t, if_neg (Int.not_le.mpr c12), if_pos c21, if_pos c31]
          rw [he]
          exact ih (i + 1)  (by omega) (by omega)
        · refine zRx.iconst ⟨by decide, by decide⟩ dX4_whyWrong_34 ?_
          exact zR.iret rfl dX4_whyWrong_35 (by have he : L_X4_whyWrong_3t σ ds an f (n + 1) i = 1 := (by rw [L_X4_whyWrong_3t, if_neg (Int.not_le.mpr c12), if_pos c21, if_neg c31]); rw [he]; exact ⟨rfl, rfl⟩)
def R_X4_whyWrongt (σ : zG) (ds an f : Int) : Int := L_X4_whyWrong_3t σ ds an f 10 0
set_option maxRecDepth 20000 in
theorem does_X4_whyWrongt (σ : zG) (ds an f : Int) (hp : σ 5 0 ≤ 8) (ha : 0 ≤ an ∧ an < 8)  : zDo SC 2 m_X4_whyWrong [zP 67, .inl ds, .inl an, .inl f] σ (zEq (some (.inl (R_X4_whyWrongt σ ds an f))) σ) := by
  refine zDo.intro mk_X4_whyWrong (Nat.le_of_ble_eq_true rfl) ?_
  refine zRx.iconst ⟨by decide, by decide⟩ dX4_whyWrong_0 ?_
  refine zRx.istore (ls' := [(0, zP 67), (1, .inl ds), (2, .inl an), (3, .inl f), (4, .inl 0)]) rfl (by decide) dX4_whyWrong_1 ?_
  have he : R_X4_whyWrongt σ ds an f = L_X4_whyWrong_3t σ ds an f 10 0 := by rw [R_X4_whyWrongt]
  rw [he]
  exact loop_X4_whyWrong_3t σ ds an f hp ha  10 0  (by omega) (by omega)

def F_X4_owet (σ : zG) (who much i : Int) : zG := if much = 0 then σ else (if (σ 67 8) < 128 then (zu (zu (zu (zu (zu (zu (zu (zu (zu σ 73 (σ 67 8) who) 74 (σ 67 8) (σ 30 i)) 75 (σ 67 8) (σ 31 i)) 76 (σ 67 8) much) 77 (σ 67 8) much) 78 (σ 67 8) i) 79 (σ 67 8) (-1)) 80 (σ 67 8) 0) 67 8 ((σ 67 8) + 1)) else σ)
theorem fr_F_X4_owet (σ : zG) (who much i : Int) {k : Nat} (h : k ∉ [67, 73, 74, 75, 76, 77, 78, 79, 80]) : (F_X4_owet σ who much i) k = σ k := by
  have ne : ∀ c ∈ [67, 73, 74, 75, 76, 77, 78, 79, 80], k ≠ c := fun c hc e => h (e ▸ hc)
  unfold F_X4_owet
  repeat' split
  all_goals first | rfl | simp only [zu_row _ _ _ (ne 67 (by decide)), zu_row _ _ _ (ne 73 (by decide)), zu_row _ _ _ (ne 74 (by decide)), zu_row _ _ _ (ne 75 (by decide)), zu_row _ _ _ (ne 76 (by decide)), zu_row _ _ _ (ne 77 (by decide)), zu_row _ _ _ (ne 78 (by decide)), zu_row _ _ _ (ne 79 (by decide)), zu_row _ _ _ (ne 80 (by decide))]

set_option maxRecDepth 20000 in
theorem does_X4_owet (σ : zG) (who much i : Int) (hi : 0 ≤ i ∧ i < 60) (hm : 0 ≤ σ 67 8) : zDo SC 0 m_X4_owe [zP 67, .inl who, .inl much, .inl i] σ (zEq (none) (F_X4_owet σ who much i)) := by
  refine zDo.intro mk_X4_owe (Nat.le_of_ble_eq_true rfl) ?_
  refine zRx.iload_n 2 rfl rfl dX4_owe_0 ?_
  refine zRx.if_eq (tgt := 14) dX4_owe_1 (by decide) (fun c1 => ?_) (fun c1 => ?_)
  · exact zR.ret rfl dX4_owe_14 ⟨rfl, by unfold F_X4_owet; rw [if_pos c1]⟩
  · refine zRx.aload_n 0 rfl rfl dX4_owe_4 ?_
    refine zRx.getIv (a := 67) (ji := 8) (v := σ 67 8) rfl fl_4_81 rfl rfl rfl dX4_owe_5 ?_
    refine zRx.sipush ⟨by decide, by decide⟩ rfl dX4_owe_8 ?_
    refine zRx.icmp_lt (tgt := 15) dX4_owe_11 (by decide) (fun c11 => ?_) (fun c11 => ?_)
    · refine zRx.aload_n 0 rfl rfl dX4_owe_15 ?_
      refine zRx.getR (a := 67) (b := 73) fl_4_27 rfl rfl dX4_owe_16 ?_
      refine zRx.aload_n 0 rfl rfl dX4_owe_19 ?_
      refine zRx.getIv (a := 67) (ji := 8) (v := σ 67 8) rfl fl_4_81 rfl rfl rfl dX4_owe_20 ?_
      refine zRx.iload_n 1 rfl rfl dX4_owe_23 ?_
      refine zRx.iast rfl (by omega) (by omega) dX4_owe_24 ?_
      refine zRx.aload_n 0 rfl rfl dX4_owe_25 ?_
      refine zRx.getR (a := 67) (b := 74) fl_4_30 rfl rfl dX4_owe_26 ?_
      refine zRx.aload_n 0 rfl rfl dX4_owe_29 ?_
      refine zRx.getIv (a := 67) (ji := 8) (v := σ 67 8) (zu_ne _ _ _ _ (by decide)) fl_4_81 rfl rfl rfl dX4_owe_30 ?_
      refine zRx.aload_n 0 rfl rfl dX4_owe_33 ?_
      refine zRx.getR (a := 67) (b := 27) fl_4_55 rfl rfl dX4_owe_34 ?_
      refine zRx.getR (a := 27) (b := 30) fl_4_101 rfl rfl dX4_owe_37 ?_
      refine zRx.iload_n 3 rfl rfl dX4_owe_40 ?_
      refine zRx.ialdv (v := σ 30 i) (zu_ne _ _ _ _ (by decide)) rfl (by omega) (by omega) dX4_owe_41 ?_
      refine zRx.iast rfl (by omega) (by omega) dX4_owe_42 ?_
      refine zRx.aload_n 0 rfl rfl dX4_owe_43 ?_
      refine zRx.getR (a := 67) (b := 75) fl_4_33 rfl rfl dX4_owe_44 ?_
      refine zRx.aload_n 0 rfl rfl dX4_owe_47 ?_
      refine zRx.getIv (a := 67) (ji := 8) (v := σ 67 8) ((zu_ne _ _ _ _ (by decide)).trans (zu_ne _ _ _ _ (by decide))) fl_4_81 rfl rfl rfl dX4_owe_48 ?_
      refine zRx.aload_n 0 rfl rfl dX4_owe_51 ?_
      refine zRx.getR (a := 67) (b := 27) fl_4_55 rfl rfl dX4_owe_52 ?_
      refine zRx.getR (a := 27) (b := 31) fl_4_102 rfl rfl dX4_owe_55 ?_
      refine zRx.iload_n 3 rfl rfl dX4_owe_58 ?_
      refine zRx.ialdv (v := σ 31 i) ((zu_ne _ _ _ _ (by decide)).trans (zu_ne _ _ _ _ (by decide))) rfl (by omega) (by omega) dX4_owe_59 ?_
      refine zRx.iast rfl (by omega) (by omega) dX4_owe_60 ?_
      refine zRx.aload_n 0 rfl rfl dX4_owe_61 ?_
      refine zRx.getR (a := 67) (b := 76) fl_4_36 rfl rfl dX4_owe_62 ?_
      refine zRx.aload_n 0 rfl rfl dX4_owe_65 ?_
      refine zRx.getIv (a := 67) (ji := 8) (v := σ 67 8) ((zu_ne _ _ _ _ (by decide)).trans ((zu_ne _ _ _ _ (by decide)).trans (zu_ne _ _ _ _ (by decide)))) fl_4_81 rfl rfl rfl dX4_owe_66 ?_
      refine zRx.iload_n 2 rfl rfl dX4_owe_69 ?_
      refine zRx.iast rfl (by omega) (by omega) dX4_owe_70 ?_
      refine zRx.aload_n 0 rfl rfl dX4_owe_71 ?_
      refine zRx.getR (a := 67) (b := 77) fl_4_39 rfl rfl dX4_owe_72 ?_
      refine zRx.aload_n 0 rfl rfl dX4_owe_75 ?_
      refine zRx.getIv (a := 67) (ji := 8) (v := σ 67 8) ((zu_ne _ _ _ _ (by decide)).trans ((zu_ne _ _ _ _ (by decide)).trans ((zu_ne _ _ _ _ (by decide)).trans (zu_ne _ _ _ _ (by decide))))) fl_4_81 rfl rfl rfl dX4_owe_76 ?_
      refine zRx.iload_n 2 rfl rfl dX4_owe_79 ?_
      refine zRx.iast rfl (by omega) (by omega) dX4_owe_80 ?_
      refine zRx.aload_n 0 rfl rfl dX4_owe_81 ?_
      refine zRx.getR (a := 67) (b := 78) fl_4_42 rfl rfl dX4_owe_82 ?_
      refine zRx.aload_n 0 rfl rfl dX4_owe_85 ?_
      refine zRx.getIv (a := 67) (ji := 8) (v := σ 67 8) ((zu_ne _ _ _ _ (by decide)).trans ((zu_ne _ _ _ _ (by decide)).trans ((zu_ne _ _ _ _ (by decide)).trans ((zu_ne _ _ _ _ (by decide)).trans (zu_ne _ _ _ _ (by decide)))))) fl_4_81 rfl rfl rfl dX4_owe_86 ?_
      refine zRx.iload_n 3 rfl rfl dX4_owe_89 ?_
      refine zRx.iast rfl (by omega) (by omega) dX4_owe_90 ?_
      refine zRx.aload_n 0 rfl rfl dX4_owe_91 ?_
      refine zRx.getR (a := 67) (b := 79) fl_4_45 rfl rfl dX4_owe_92 ?_
      refine zRx.aload_n 0 rfl rfl dX4_owe_95 ?_
      refine zRx.getIv (a := 67) (ji := 8) (v := σ 67 8) ((zu_ne _ _ _ _ (by decide)).trans ((zu_ne _ _ _ _ (by decide)).trans ((zu_ne _ _ _ _ (by decide)).trans ((zu_ne _ _ _ _ (by decide)).trans ((zu_ne _ _ _ _ (by decide)).trans (zu_ne _ _ _ _ (by decide))))))) fl_4_81 rfl rfl rfl dX4_owe_96 ?_
      refine zRx.iconst ⟨by decide, by decide⟩ dX4_owe_99 ?_
      refine zRx.iast rfl (by omega) (by omega) dX4_owe_100 ?_
      refine zRx.aload_n 0 rfl rfl dX4_owe_101 ?_
      refine zRx.getR (a := 67) (b := 80) fl_4_48 rfl rfl dX4_owe_102 ?_
      refine zRx.aload_n 0 rfl rfl dX4_owe_105 ?_
      refine zRx.getIv (a := 67) (ji := 8) (v := σ 67 8) ((zu_ne _ _ _ _ (by decide)).trans ((zu_ne _ _ _ _ (by decide)).trans ((zu_ne _ _ _ _ (by decide)).trans ((zu_ne _ _ _ _ (by decide)).trans ((zu_ne _ _ _ _ (by decide)).trans ((zu_ne _ _ _ _ (by decide)).trans (zu_ne _ _ _ _ (by decide)))))))) fl_4_81 rfl rfl rfl dX4_owe_106 ?_
      refine zRx.iconst ⟨by decide, by decide⟩ dX4_owe_109 ?_
      refine zRx.iast rfl (by omega) (by omega) dX4_owe_110 ?_
      refine zRx.aload_n 0 rfl rfl dX4_owe_111 ?_
      refine zRx.dup rfl dX4_owe_112 ?_
      refine zRx.getIv (a := 67) (ji := 8) (v := σ 67 8) ((zu_ne _ _ _ _ (by decide)).trans ((zu_ne _ _ _ _ (by decide)).trans ((zu_ne _ _ _ _ (by decide)).trans ((zu_ne _ _ _ _ (by decide)).trans ((zu_ne _ _ _ _ (by decide)).trans ((zu_ne _ _ _ _ (by decide)).trans ((zu_ne _ _ _ _ (by decide)).trans (zu_ne _ _ _ _ (by decide))))))))) fl_4_81 rfl rfl rfl dX4_owe_113 ?_
      refine zRx.iconst ⟨by decide, by decide⟩ dX4_owe_116 ?_
      refine zRx.iadd ⟨by omega, by omega⟩ dX4_owe_117 ?_
      refine zRx.putI (a := 67) (ji := 8) pl_4_81 rfl rfl rfl dX4_owe_118 ?_
      exact zR.ret rfl dX4_owe_121 ⟨rfl, by unfold F_X4_owet; rw [if_neg c1, if_pos c11]⟩
    · exact zR.ret rfl dX4_owe_14 ⟨rfl, by unfold F_X4_owet; rw [if_neg c1, if_neg (Int.not_lt.mpr c11)]⟩

def L_X4_pay_3t (who value i : Int) : Nat → Int → zG → zG
  | 0, _, σ => σ
  | n + 1, d, σ => if (σ 67 8) ≤ d then σ else (if (σ 73 d) = who then (if (σ 77 d) ≤ 0 then (L_X4_pay_3t who value i n (d + 1) σ) else (if value < (σ 77 d) then (L_X4_pay_3t who value i n (d + 1) σ) else (zu (zu σ 77 d 0) 79 d i))) else (L_X4_pay_3t who value i n (d + 1) σ))
theorem fr_L_X4_pay_3t (who value i : Int)  (n : Nat) (d : Int) (σ : zG) {k : Nat} (h : k ∉ [77, 79]) : (L_X4_pay_3t who value i n d σ) k = σ k := by
  induction n generalizing d σ with
  | zero => rfl
  | succ n ih =>
    have ne : ∀ c ∈ [77, 79], k ≠ c := fun c hc e => h (e ▸ hc)
    rw [L_X4_pay_3t]
    repeat' split
    all_goals first | rfl | simp only [zu_row _ _ _ (ne 77 (by decide)), zu_row _ _ _ (ne 79 (by decide)), ih]

set_option maxRecDepth 20000 in
theorem loop_X4_pay_3t (who value i : Int)  : ∀ (n : Nat) (d : Int) (σ : zG), 0 ≤ d → σ 67 8 ≤ 128 → (σ 67 8 - d).toNat < n → zR SC 0 m_X4_pay 3 [(0, zP 67), (1, .inl who), (2, .inl value), (3, .inl i), (4, .inl d)] [] σ (zEq none (L_X4_pay_3t who value i n d σ)) := by
  intro n
  induction n with
  | zero => intro d σ h0 hm hmz; exact absurd hmz (Nat.not_lt_zero _)
  | succ n ih =>
    intro d σ h0 hm hmz
    refine zRx.iload 4 rfl dX4_pay_3 ?_
    refine zRx.aload_n 0 rfl rfl dX4_pay_5 ?_
    refine zRx.getIv (a := 67) (ji := 8) (v := σ 67 8) rfl fl_4_81 rfl rfl rfl dX4_pay_6 ?_
    refine zRx.icmp_ge (tgt := 67) dX4_pay_9 (by decide) (fun c9 => ?_) (fun c9 => ?_)
    · exact zR.ret rfl dX4_pay_67 ⟨rfl, (by rw [L_X4_pay_3t, if_pos c9] : L_X4_pay_3t who value i (n + 1) d σ = σ).symm⟩
    · refine zRx.aload_n 0 rfl rfl dX4_pay_12 ?_
      refine zRx.getR (a := 67) (b := 73) fl_4_27 rfl rfl dX4_pay_13 ?_
      refine zRx.iload 4 rfl dX4_pay_16 ?_
      refine zRx.ialdv (v := σ 73 d) rfl rfl (by omega) (by omega) dX4_pay_18 ?_
      refine zRx.iload_n 1 rfl rfl dX4_pay_19 ?_
      refine zRx.icmp_ne (tgt := 61) dX4_pay_20 (by decide) (fun c20 => ?_) (fun c20 => ?_)
      · refine zRx.iinc (n := 1) (ls' := [(0, zP 67), (1, .inl who), (2, .inl value), (3, .inl i), (4, .inl (d + 1))]) 4 rfl ⟨by omega, by omega⟩ rfl (by decide) dX4_pay_61 ?_
        refine zRx.goto (tgt := 3) dX4_pay_64 (by decide) ?_
        have he : L_X4_pay_3t who value i (n + 1) d σ = L_X4_pay_3t who value i n (d + 1) σ := by rw [L_X4_pay_3t, if_neg (Int.not_le.mpr c9), if_neg c20]
        rw [he]
        exact ih (d + 1) σ (by omega) hm (by omega)
      · refine zRx.aload_n 0 rfl rfl dX4_pay_23 ?_
        refine zRx.getR (a := 67) (b := 77) fl_4_39 rfl rfl dX4_pay_24 ?_
        refine zRx.iload 4 rfl dX4_pay_27 ?_
        refine zRx.ialdv (v := σ 77 d) rfl rfl (by omega) (by omega) dX4_pay_29 ?_
        refine zRx.if_le (tgt := 61) dX4_pay_30 (by decide) (fun c30 => ?_) (fun c30 => ?_)
        · refine zRx.iinc (n := 1) (ls' := [(0, zP 67), (1, .inl who), (2, .inl value), (3, .inl i), (4, .inl (d + 1))]) 4 rfl ⟨by omega, by omega⟩ rfl (by decide) dX4_pay_61 ?_
          refine zRx.goto (tgt := 3) dX4_pay_64 (by decide) ?_
          have he : L_X4_pay_3t who value i (n + 1) d σ = L_X4_pay_3t who value i n (d + 1) σ := by rw [L_X4_pay_3t, if_neg (Int.not_le.mpr c9), if_pos c20, if_pos c30]
          rw [he]
          exact ih (d + 1) σ (by omega) hm (by omega)
        · refine zRx.aload_n 0 rfl rfl dX4_pay_33 ?_
          refine zRx.getR (a := 67) (b := 77) fl_4_39 rfl rfl dX4_pay_34 ?_
          refine zRx.iload 4 rfl dX4_pay_37 ?_
          refine zRx.ialdv (v := σ 77 d) rfl rfl (by omega) (by omega) dX4_pay_39 ?_
          refine zRx.iload_n 2 rfl rfl dX4_pay_40 ?_
          refine zRx.icmp_gt (tgt := 61) dX4_pay_41 (by decide) (fun c41 => ?_) (fun c41 => ?_)
          · refine zRx.iinc (n := 1) (ls' := [(0, zP 67), (1, .inl who), (2, .inl value), (3, .inl i), (4, .inl (d + 1))]) 4 rfl ⟨by omega, by omega⟩ rfl (by decide) dX4_pay_61 ?_
            refine zRx.goto (tgt := 3) dX4_pay_64 (by decide) ?_
            have he : L_X4_pay_3t who value i (n + 1) d σ = L_X4_pay_3t who value i n (d + 1) σ := by rw [L_X4_pay_3t, if_neg (Int.not_le.mpr c9), if_pos c20, if_neg (Int.not_le.mpr c30), if_pos c41]
            rw [he]
            exact ih (d + 1) σ (by omega) hm (by omega)
          · refine zRx.aload_n 0 rfl rfl dX4_pay_44 ?_
            refine zRx.getR (a := 67) (b := 77) fl_4_39 rfl rfl dX4_pay_45 ?_
            refine zRx.iload 4 rfl dX4_pay_48 ?_
            refine zRx.iconst ⟨by decide, by decide⟩ dX4_pay_50 ?_
            refine zRx.iast rfl (by omega) (by omega) dX4_pay_51 ?_
            refine zRx.aload_n 0 rfl rfl dX4_pay_52 ?_
            refine zRx.getR (a := 67) (b := 79) fl_4_45 rfl rfl dX4_pay_53 ?_
            refine zRx.iload 4 rfl dX4_pay_56 ?_
            refine zRx.iload_n 3 rfl rfl dX4_pay_58 ?_
            refine zRx.iast rfl (by omega) (by omega) dX4_pay_59 ?_
            exact zR.ret rfl dX4_pay_60 ⟨rfl, (by rw [L_X4_pay_3t, if_neg (Int.not_le.mpr c9), if_pos c20, if_neg (Int.not_le.mpr c30), if_neg (Int.not_lt.mpr c41)] : L_X4_pay_3t who value i (n + 1) d σ = zu (zu σ 77 d 0) 79 d i).symm⟩
def R_X4_payt (σ : zG) (who value i : Int) : zG := L_X4_pay_3t who value i 200 0 σ
theorem fr_R_X4_payt (σ : zG) (who value i : Int) {k : Nat} (h : k ∉ [77, 79]) : (R_X4_payt σ who value i) k = σ k := by
  have ne : ∀ c ∈ [77, 79], k ≠ c := fun c hc e => h (e ▸ hc)
  have nl_L_X4_pay_3t : k ∉ [77, 79] := fun hm => h (by revert hm; simp only [List.mem_cons, List.not_mem_nil, or_false]; omega)
  unfold R_X4_payt
  repeat' split
  all_goals first | rfl | simp only [zu_row _ _ _ (ne 77 (by decide)), zu_row _ _ _ (ne 79 (by decide)), fr_L_X4_pay_3t (h := nl_L_X4_pay_3t)]

set_option maxRecDepth 20000 in
theorem does_X4_payt (σ : zG) (who value i : Int) (hm : σ 67 8 ≤ 128)  : zDo SC 0 m_X4_pay [zP 67, .inl who, .inl value, .inl i] σ (zEq none (R_X4_payt σ who value i)) := by
  refine zDo.intro mk_X4_pay (Nat.le_of_ble_eq_true rfl) ?_
  refine zRx.iconst ⟨by decide, by decide⟩ dX4_pay_0 ?_
  refine zRx.istore (ls' := [(0, zP 67), (1, .inl who), (2, .inl value), (3, .inl i), (4, .inl 0)]) rfl (by decide) dX4_pay_1 ?_
  have he : R_X4_payt σ who value i = L_X4_pay_3t who value i 200 0 σ := by rw [R_X4_payt]
  rw [he]
  exact loop_X4_pay_3t who value i   200 0 σ (by decide) hm (by omega)

def L_X4_learn_78t (who f i : Int) (fr : Int) : Nat → Int → zG → zG
  | 0, _, σ => σ
  | n + 1, q, σ => if (σ 67 8) ≤ q then σ else (if (σ 74 q) = who then (if hb fr (σ 75 q) then (L_X4_learn_78t who f i fr n (q + 1) (zu (zu σ 80 q 1) 77 q (V_X4_grownt (zu σ 80 q 1) (σ 77 q)))) else (L_X4_learn_78t who f i fr n (q + 1) σ)) else (L_X4_learn_78t who f i fr n (q + 1) σ))
theorem fr_L_X4_learn_78t (who f i : Int) (fr : Int)  (n : Nat) (q : Int) (σ : zG) {k : Nat} (h : k ∉ [77, 80]) : (L_X4_learn_78t who f i fr n q σ) k = σ k := by
  induction n generalizing q σ with
  | zero => rfl
  | succ n ih =>
    have ne : ∀ c ∈ [77, 80], k ≠ c := fun c hc e => h (e ▸ hc)
    rw [L_X4_learn_78t]
    repeat' split
    all_goals first | rfl | simp only [zu_row _ _ _ (ne 77 (by decide)), zu_row _ _ _ (ne 80 (by decide)), ih]

set_option maxRecDepth 20000 in
theorem loop_X4_learn_78t (who f i : Int)  (fr : Int) : ∀ (n : Nat) (q : Int) (σ : zG), 0 ≤ q → σ 67 8 ≤ 128 → (σ 67 8 - q).toNat < n → zR SC 2 m_X4_learn 78 [(0, zP 67), (1, .inl who), (2, .inl f), (3, .inl i), (4, .inl fr), (5, .inl q)] [] σ (zEq none (L_X4_learn_78t who f i fr n q σ)) := by
  intro n
  induction n with
  | zero => intro q σ h0 hm hmz; exact absurd hmz (Nat.not_lt_zero _)
  | succ n ih =>
    intro q σ h0 hm hmz
    refine zRx.iload 5 rfl dX4_learn_78 ?_
    refine zRx.aload_n 0 rfl rfl dX4_learn_80 ?_
    refine zRx.getIv (a := 67) (ji := 8) (v := σ 67 8) rfl fl_4_81 rfl rfl rfl dX4_learn_81 ?_
    refine zRx.icmp_ge (tgt := 145) dX4_learn_84 (by decide) (fun c84 => ?_) (fun c84 => ?_)
    · exact zR.ret rfl dX4_learn_145 ⟨rfl, (by rw [L_X4_learn_78t, if_pos c84] : L_X4_learn_78t who f i fr (n + 1) q σ = σ).symm⟩
    · refine zRx.aload_n 0 rfl rfl dX4_learn_87 ?_
      refine zRx.getR (a := 67) (b := 74) fl_4_30 rfl rfl dX4_learn_88 ?_
      refine zRx.iload 5 rfl dX4_learn_91 ?_
      refine zRx.ialdv (v := σ 74 q) rfl rfl (by omega) (by omega) dX4_learn_93 ?_
      refine zRx.iload_n 1 rfl rfl dX4_learn_94 ?_
      refine zRx.icmp_ne (tgt := 139) dX4_learn_95 (by decide) (fun c95 => ?_) (fun c95 => ?_)
      · refine zRx.iinc (n := 1) (ls' := [(0, zP 67), (1, .inl who), (2, .inl f), (3, .inl i), (4, .inl fr), (5, .inl (q + 1))]) 5 rfl ⟨by omega, by omega⟩ rfl (by decide) dX4_learn_139 ?_
        refine zRx.goto (tgt := 78) dX4_learn_142 (by decide) ?_
        have he : L_X4_learn_78t who f i fr (n + 1) q σ = L_X4_learn_78t who f i fr n (q + 1) σ := by rw [L_X4_learn_78t, if_neg (Int.not_le.mpr c84), if_neg c95]
        rw [he]
        exact ih (q + 1) σ (by omega) (by omega) (by omega)
      · refine zRx.iload 4 rfl dX4_learn_98 ?_
        refine zRx.aload_n 0 rfl rfl dX4_learn_100 ?_
        refine zRx.getR (a := 67) (b := 75) fl_4_33 rfl rfl dX4_learn_101 ?_
        refine zRx.iload 5 rfl dX4_learn_104 ?_
        refine zRx.ialdv (v := σ 75 q) rfl rfl (by omega) (by omega) dX4_learn_106 ?_
        refine zRx.cSi (w := .inl (b2 (hb fr (σ 75 q)))) (M := m_X11_hasBit) (av := [.inl fr, .inl (σ 75 q)]) cs_4_135 mk_X11_hasBit (by decide) rfl (Nat.le_of_ble_eq_true rfl) dX4_learn_107 (does_X11_hasBit fr (σ 75 q) SC σ) ?_
        refine zRx.if_eqB (tgt := 139) dX4_learn_110 (by decide) (fun c110 => ?_) (fun c110 => ?_)
        · refine zRx.iinc (n := 1) (ls' := [(0, zP 67), (1, .inl who), (2, .inl f), (3, .inl i), (4, .inl fr), (5, .inl (q + 1))]) 5 rfl ⟨by omega, by omega⟩ rfl (by decide) dX4_learn_139 ?_
          refine zRx.goto (tgt := 78) dX4_learn_142 (by decide) ?_
          have he : L_X4_learn_78t who f i fr (n + 1) q σ = L_X4_learn_78t who f i fr n (q + 1) σ := by rw [L_X4_learn_78t, if_neg (Int.not_le.mpr c84), if_pos c95, if_neg c110]
          rw [he]
          exact ih (q + 1) σ (by omega) (by omega) (by omega)
        · refine zRx.aload_n 0 rfl rfl dX4_learn_113 ?_
          refine zRx.getR (a := 67) (b := 80) fl_4_48 rfl rfl dX4_learn_114 ?_
          refine zRx.iload 5 rfl dX4_learn_117 ?_
          refine zRx.iconst ⟨by decide, by decide⟩ dX4_learn_119 ?_
          refine zRx.iast rfl (by omega) (by omega) dX4_learn_120 ?_
          refine zRx.aload_n 0 rfl rfl dX4_learn_121 ?_
          refine zRx.getR (a := 67) (b := 77) fl_4_39 rfl rfl dX4_learn_122 ?_
          refine zRx.iload 5 rfl dX4_learn_125 ?_
          refine zRx.aload_n 0 rfl rfl dX4_learn_127 ?_
          refine zRx.aload_n 0 rfl rfl dX4_learn_128 ?_
          refine zRx.getR (a := 67) (b := 77) fl_4_39 rfl rfl dX4_learn_129 ?_
          refine zRx.iload 5 rfl dX4_learn_132 ?_
          refine zRx.ialdv (v := σ 77 q) (zu_ne _ _ _ _ (by decide)) rfl (by omega) (by omega) dX4_learn_134 ?_
          refine zRx.cVi (w := .inl (V_X4_grownt (zu σ 80 q 1) (σ 77 q))) (M := m_X4_grown) (av := [.inl (σ 77 q)]) cv_4_166 mk_X4_grown (by decide) (b := 67) rfl rfl (Nat.le_of_ble_eq_true rfl) dX4_learn_135 (does_X4_grownt (zu σ 80 q 1) (σ 77 q)) ?_
          refine zRx.iast rfl (by omega) (by omega) dX4_learn_138 ?_
          refine zRx.iinc (n := 1) (ls' := [(0, zP 67), (1, .inl who), (2, .inl f), (3, .inl i), (4, .inl fr), (5, .inl (q + 1))]) 5 rfl ⟨by omega, by omega⟩ rfl (by decide) dX4_learn_139 ?_
          refine zRx.goto (tgt := 78) dX4_learn_142 (by decide) ?_
          have he : L_X4_learn_78t who f i fr (n + 1) q σ = L_X4_learn_78t who f i fr n (q + 1) (zu (zu σ 80 q 1) 77 q (V_X4_grownt (zu σ 80 q 1) (σ 77 q))) := by rw [L_X4_learn_78t, if_neg (Int.not_le.mpr c84), if_pos c95, if_pos c110]
          rw [he]
          exact ih (q + 1) (zu (zu σ 80 q 1) 77 q (V_X4_grownt (zu σ 80 q 1) (σ 77 q))) (by omega) (by have e9 : (zu (zu σ 80 q 1) 77 q (V_X4_grownt (zu σ 80 q 1) (σ 77 q))) 67 8 = σ 67 8 := ((zu_ne _ _ _ _ (by decide)).trans (zu_ne _ _ _ _ (by decide))); omega) (by have e9 : (zu (zu σ 80 q 1) 77 q (V_X4_grownt (zu σ 80 q 1) (σ 77 q))) 67 8 = σ 67 8 := ((zu_ne _ _ _ _ (by decide)).trans (zu_ne _ _ _ _ (by decide))); omega)
def S_X4_learn_34t (who f i : Int) (fr : Int) : Nat → Int → zG → Int × zG
  | 0, q, σ => (q, σ)
  | n + 1, q, σ => if (σ 5 1) ≤ q then (q, σ) else (if hb fr q then (S_X4_learn_34t who f i fr n (q + 1) (zu σ 71 ((who * 12) + q) i)) else (S_X4_learn_34t who f i fr n (q + 1) σ))
theorem fr_S_X4_learn_34t (who f i : Int) (fr : Int)  (n : Nat) (q : Int) (σ : zG) {k : Nat} (h : k ∉ [71]) : (S_X4_learn_34t who f i fr n q σ).2 k = σ k := by
  induction n generalizing q σ with
  | zero => rfl
  | succ n ih =>
    have ne : ∀ c ∈ [71], k ≠ c := fun c hc e => h (e ▸ hc)
    rw [S_X4_learn_34t]
    repeat' split
    all_goals first | rfl | simp only [zu_row _ _ _ (ne 71 (by decide)), ih]

set_option maxRecDepth 20000 in
theorem seg_X4_learn_34t (who f i : Int) (hw : 0 ≤ who ∧ who < 8) (fr : Int) : ∀ (n : Nat) (q : Int) (σ : zG) (X : zX), 0 ≤ q → σ 5 1 ≤ 12 → (13 - q).toNat < n → zRx none 2 m_X4_learn SC 75 [(0, zP 67), (1, .inl who), (2, .inl f), (3, .inl i), (4, .inl fr), (5, .inl ((S_X4_learn_34t who f i fr n q σ).1))] [] ((S_X4_learn_34t who f i fr n q σ).2) X → zRx none 2 m_X4_learn SC 34 [(0, zP 67), (1, .inl who), (2, .inl f), (3, .inl i), (4, .inl fr), (5, .inl q)] [] σ X := by
  intro n
  induction n with
  | zero => intro q σ X h0 hF hmz; exact absurd hmz (Nat.not_lt_zero _)
  | succ n ih =>
    intro q σ X h0 hF hmz K
    refine zRx.iload 5 rfl dX4_learn_34 ?_
    refine zRx.aload_n 0 rfl rfl dX4_learn_36 ?_
    refine zRx.getR (a := 67) (b := 5) fl_4_51 rfl rfl dX4_learn_37 ?_
    refine zRx.getIv (a := 5) (ji := 1) (v := σ 5 1) rfl fl_4_163 rfl rfl rfl dX4_learn_40 ?_
    refine zRx.icmp_ge (tgt := 75) dX4_learn_43 (by decide) (fun c43 => ?_) (fun c43 => ?_)
    · have he : S_X4_learn_34t who f i fr (n + 1) q σ = (q, σ) := by rw [S_X4_learn_34t, if_pos c43]
      rw [he] at K
      exact K
    · refine zRx.iload 4 rfl dX4_learn_46 ?_
      refine zRx.iload 5 rfl dX4_learn_48 ?_
      refine zRx.cSi (w := .inl (b2 (hb fr q))) (M := m_X11_hasBit) (av := [.inl fr, .inl q]) cs_4_135 mk_X11_hasBit (by decide) rfl (Nat.le_of_ble_eq_true rfl) dX4_learn_50 (does_X11_hasBit fr q SC σ) ?_
      refine zRx.if_eqB (tgt := 69) dX4_learn_53 (by decide) (fun c53 => ?_) (fun c53 => ?_)
      · refine zRx.iinc (n := 1) (ls' := [(0, zP 67), (1, .inl who), (2, .inl f), (3, .inl i), (4, .inl fr), (5, .inl (q + 1))]) 5 rfl ⟨by omega, by omega⟩ rfl (by decide) dX4_learn_69 ?_
        refine zRx.goto (tgt := 34) dX4_learn_72 (by decide) ?_
        have he : S_X4_learn_34t who f i fr (n + 1) q σ = S_X4_learn_34t who f i fr n (q + 1) σ := by rw [S_X4_learn_34t, if_neg (Int.not_le.mpr c43), if_neg c53]
        rw [he] at K
        exact ih (q + 1) σ _ (by omega) (by omega) (by omega) K
      · refine zRx.aload_n 0 rfl rfl dX4_learn_56 ?_
        refine zRx.getR (a := 67) (b := 71) fl_4_21 rfl rfl dX4_learn_57 ?_
        refine zRx.iload_n 1 rfl rfl dX4_learn_60 ?_
        refine zRx.bipush ⟨by decide, by decide⟩ rfl dX4_learn_61 ?_
        refine zRx.imul ⟨by omega, by omega⟩ dX4_learn_63 ?_
        refine zRx.iload 5 rfl dX4_learn_64 ?_
        refine zRx.iadd ⟨by omega, by omega⟩ dX4_learn_66 ?_
        refine zRx.iload_n 3 rfl rfl dX4_learn_67 ?_
        refine zRx.iast rfl (by omega) (by omega) dX4_learn_68 ?_
        refine zRx.iinc (n := 1) (ls' := [(0, zP 67), (1, .inl who), (2, .inl f), (3, .inl i), (4, .inl fr), (5, .inl (q + 1))]) 5 rfl ⟨by omega, by omega⟩ rfl (by decide) dX4_learn_69 ?_
        refine zRx.goto (tgt := 34) dX4_learn_72 (by decide) ?_
        have he : S_X4_learn_34t who f i fr (n + 1) q σ = S_X4_learn_34t who f i fr n (q + 1) (zu σ 71 ((who * 12) + q) i) := by rw [S_X4_learn_34t, if_neg (Int.not_le.mpr c43), if_pos c53]
        rw [he] at K
        exact ih (q + 1) (zu σ 71 ((who * 12) + q) i) _ (by omega) (by have e9 : (zu σ 71 ((who * 12) + q) i) 5 1 = σ 5 1 := (zu_ne _ _ _ _ (by decide)); omega) (by omega) K
def R_X4_learnt (σ : zG) (who f i : Int) : zG := L_X4_learn_78t who f i (V_X4_freshFort σ who f) 200 0 ((S_X4_learn_34t who f i (V_X4_freshFort σ who f) 20 0 (zu (zu σ 68 who (bor (σ 68 who) (V_X4_freshFort σ who f))) 67 7 (bor (σ 67 7) (bshl 1 f)))).2)
theorem fr_R_X4_learnt (σ : zG) (who f i : Int) {k : Nat} (h : k ∉ [67, 68, 71, 77, 80]) : (R_X4_learnt σ who f i) k = σ k := by
  have ne : ∀ c ∈ [67, 68, 71, 77, 80], k ≠ c := fun c hc e => h (e ▸ hc)
  have nk_S_X4_learn_34t : k ∉ [71] := fun hm => h (by revert hm; simp only [List.mem_cons, List.not_mem_nil, or_false]; omega)
  have nl_L_X4_learn_78t : k ∉ [77, 80] := fun hm => h (by revert hm; simp only [List.mem_cons, List.not_mem_nil, or_false]; omega)
  have nl_S_X4_learn_34t : k ∉ [71] := fun hm => h (by revert hm; simp only [List.mem_cons, List.not_mem_nil, or_false]; omega)
  unfold R_X4_learnt
  repeat' split
  all_goals first | rfl | simp only [zu_row _ _ _ (ne 67 (by decide)), zu_row _ _ _ (ne 68 (by decide)), zu_row _ _ _ (ne 71 (by decide)), zu_row _ _ _ (ne 77 (by decide)), zu_row _ _ _ (ne 80 (by decide)), fr_S_X4_learn_34t (h := nk_S_X4_learn_34t), fr_L_X4_learn_78t (h := nl_L_X4_learn_78t), fr_S_X4_learn_34t (h := nl_S_X4_learn_34t)]

set_option maxRecDepth 20000 in
theorem does_X4_learnt (σ : zG) (who f i : Int) (hw : 0 ≤ who ∧ who < 8) (hs : σ 5 2 ≤ 8) (hF : σ 5 1 ≤ 12) (hm : σ 67 8 ≤ 128)  : zDo SC 2 m_X4_learn [zP 67, .inl who, .inl f, .inl i] σ (zEq none (R_X4_learnt σ who f i)) := by
  refine zDo.intro mk_X4_learn (Nat.le_of_ble_eq_true rfl) ?_
  refine zRx.aload_n 0 rfl rfl dX4_learn_0 ?_
  refine zRx.iload_n 1 rfl rfl dX4_learn_1 ?_
  refine zRx.iload_n 2 rfl rfl dX4_learn_2 ?_
  refine zRx.cVi (w := .inl (V_X4_freshFort σ who f)) (M := m_X4_freshFor) (av := [.inl who, .inl f]) cv_4_160 mk_X4_freshFor (by decide) (b := 67) rfl rfl (Nat.le_of_ble_eq_true rfl) dX4_learn_3 (does_X4_freshFort σ who f (by omega) (by omega)) ?_
  refine zRx.istore (ls' := [(0, zP 67), (1, .inl who), (2, .inl f), (3, .inl i), (4, .inl (V_X4_freshFort σ who f))]) rfl (by decide) dX4_learn_6 ?_
  refine zRx.aload_n 0 rfl rfl dX4_learn_8 ?_
  refine zRx.getR (a := 67) (b := 68) fl_4_9 rfl rfl dX4_learn_9 ?_
  refine zRx.iload_n 1 rfl rfl dX4_learn_12 ?_
  refine zRx.dup2 rfl rfl dX4_learn_13 ?_
  refine zRx.ialdv (v := σ 68 who) rfl rfl (by omega) (by omega) dX4_learn_14 ?_
  refine zRx.iload 4 rfl dX4_learn_15 ?_
  refine zRx.ior dX4_learn_17 ?_
  refine zRx.iast rfl (by omega) (by omega) dX4_learn_18 ?_
  refine zRx.aload_n 0 rfl rfl dX4_learn_19 ?_
  refine zRx.dup rfl dX4_learn_20 ?_
  refine zRx.getIv (a := 67) (ji := 7) (v := σ 67 7) (zu_ne _ _ _ _ (by decide)) fl_4_78 rfl rfl rfl dX4_learn_21 ?_
  refine zRx.iconst ⟨by decide, by decide⟩ dX4_learn_24 ?_
  refine zRx.iload_n 2 rfl rfl dX4_learn_25 ?_
  refine zRx.ishl dX4_learn_26 ?_
  refine zRx.ior dX4_learn_27 ?_
  refine zRx.putI (a := 67) (ji := 7) pl_4_78 rfl rfl rfl dX4_learn_28 ?_
  refine zRx.iconst ⟨by decide, by decide⟩ dX4_learn_31 ?_
  refine zRx.istore (ls' := [(0, zP 67), (1, .inl who), (2, .inl f), (3, .inl i), (4, .inl (V_X4_freshFort σ who f)), (5, .inl 0)]) rfl (by decide) dX4_learn_32 ?_
  refine seg_X4_learn_34t who f i hw (V_X4_freshFort σ who f) 20 0 (zu (zu σ 68 who (bor (σ 68 who) (V_X4_freshFort σ who f))) 67 7 (bor (σ 67 7) (bshl 1 f))) _ (by omega) (by have e9 : (zu (zu σ 68 who (bor (σ 68 who) (V_X4_freshFort σ who f))) 67 7 (bor (σ 67 7) (bshl 1 f))) 5 1 = σ 5 1 := ((zu_ne _ _ _ _ (by decide)).trans (zu_ne _ _ _ _ (by decide))); omega) (by omega) ?_
  refine zRx.iconst ⟨by decide, by decide⟩ dX4_learn_75 ?_
  refine zRx.istore (ls' := [(0, zP 67), (1, .inl who), (2, .inl f), (3, .inl i), (4, .inl (V_X4_freshFort σ who f)), (5, .inl 0)]) rfl (by decide) dX4_learn_76 ?_
  have he : R_X4_learnt σ who f i = L_X4_learn_78t who f i (V_X4_freshFort σ who f) 200 0 ((S_X4_learn_34t who f i (V_X4_freshFort σ who f) 20 0 (zu (zu σ 68 who (bor (σ 68 who) (V_X4_freshFort σ who f))) 67 7 (bor (σ 67 7) (bshl 1 f)))).2) := by rw [R_X4_learnt]
  rw [he]
  exact loop_X4_learn_78t who f i  (V_X4_freshFort σ who f) 200 0 ((S_X4_learn_34t who f i (V_X4_freshFort σ who f) 20 0 (zu (zu σ 68 who (bor (σ 68 who) (V_X4_freshFort σ who f))) 67 7 (bor (σ 67 7) (bshl 1 f)))).2) (by omega) (by have e9 : ((S_X4_learn_34t who f i (V_X4_freshFort σ who f) 20 0 (zu (zu σ 68 who (bor (σ 68 who) (V_X4_freshFort σ who f))) 67 7 (bor (σ 67 7) (bshl 1 f)))).2) 67 8 = σ 67 8 := ((congrFun (fr_S_X4_learn_34t who f i (V_X4_freshFort σ who f) 20 0 (zu (zu σ 68 who (bor (σ 68 who) (V_X4_freshFort σ who f))) 67 7 (bor (σ 67 7) (bshl 1 f))) (k := 67) (by decide)) _).trans ((zu_off _ _ _ (by decide)).trans (zu_ne _ _ _ _ (by decide)))); omega) (by have e9 : ((S_X4_learn_34t who f i (V_X4_freshFort σ who f) 20 0 (zu (zu σ 68 who (bor (σ 68 who) (V_X4_freshFort σ who f))) 67 7 (bor (σ 67 7) (bshl 1 f)))).2) 67 8 = σ 67 8 := ((congrFun (fr_S_X4_learn_34t who f i (V_X4_freshFort σ who f) 20 0 (zu (zu σ 68 who (bor (σ 68 who) (V_X4_freshFort σ who f))) 67 7 (bor (σ 67 7) (bshl 1 f))) (k := 67) (by decide)) _).trans ((zu_off _ _ _ (by decide)).trans (zu_ne _ _ _ _ (by decide)))); omega)

