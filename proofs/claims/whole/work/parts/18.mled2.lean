/-! the reference: its ledger -/
def F_X12_owes (σ : zG) (who to f kn li : Int) : zG := if kn = 0 then σ else (zu (zu (zu (zu (zu (zu (zu (zu (zu (zu (zu σ 16 (σ 0 43) who) 17 (σ 0 43) to) 18 (σ 0 43) f) 19 (σ 0 43) kn) 20 (σ 0 43) kn) 21 (σ 0 43) li) 22 (σ 0 43) (-1)) 23 (σ 0 43) 0) 24 (σ 0 43) (σ 0 44)) 25 (σ 0 43) (-1)) 0 43 ((σ 0 43) + 1))
theorem fr_F_X12_owes (σ : zG) (who to f kn li : Int) {k : Nat} (h : k ∉ [0, 16, 17, 18, 19, 20, 21, 22, 23, 24, 25]) : (F_X12_owes σ who to f kn li) k = σ k := by
  have ne : ∀ c ∈ [0, 16, 17, 18, 19, 20, 21, 22, 23, 24, 25], k ≠ c := fun c hc e => h (e ▸ hc)
  unfold F_X12_owes
  repeat' split
  all_goals first | rfl | simp only [zu_row _ _ _ (ne 0 (by decide)), zu_row _ _ _ (ne 16 (by decide)), zu_row _ _ _ (ne 17 (by decide)), zu_row _ _ _ (ne 18 (by decide)), zu_row _ _ _ (ne 19 (by decide)), zu_row _ _ _ (ne 20 (by decide)), zu_row _ _ _ (ne 21 (by decide)), zu_row _ _ _ (ne 22 (by decide)), zu_row _ _ _ (ne 23 (by decide)), zu_row _ _ _ (ne 24 (by decide)), zu_row _ _ _ (ne 25 (by decide))]

set_option maxRecDepth 20000 in
theorem does_X12_owes (σ : zG) (who to f kn li : Int) (hm : 0 ≤ σ 0 43 ∧ σ 0 43 < 420) : zDo SM 0 m_X12_owes [zP 0, .inl who, .inl to, .inl f, .inl kn, .inl li] σ (zEq (none) (F_X12_owes σ who to f kn li)) := by
  refine zDo.intro mk_X12_owes (Nat.le_of_ble_eq_true rfl) ?_
  refine zRx.iload 4 rfl dX12_owes_0 ?_
  refine zRx.if_ne (tgt := 6) dX12_owes_2 (by decide) (fun c2 => ?_) (fun c2 => ?_)
  · refine zRx.aload_n 0 rfl rfl dX12_owes_6 ?_
    refine zRx.getR (a := 0) (b := 16) fl_12_77 rfl rfl dX12_owes_7 ?_
    refine zRx.aload_n 0 rfl rfl dX12_owes_10 ?_
    refine zRx.getIv (a := 0) (ji := 43) (v := σ 0 43) rfl fl_12_357 rfl rfl rfl dX12_owes_11 ?_
    refine zRx.iload_n 1 rfl rfl dX12_owes_14 ?_
    refine zRx.iast rfl (by omega) (by omega) dX12_owes_15 ?_
    refine zRx.aload_n 0 rfl rfl dX12_owes_16 ?_
    refine zRx.getR (a := 0) (b := 17) fl_12_80 rfl rfl dX12_owes_17 ?_
    refine zRx.aload_n 0 rfl rfl dX12_owes_20 ?_
    refine zRx.getIv (a := 0) (ji := 43) (v := σ 0 43) (zu_ne _ _ _ _ (by decide)) fl_12_357 rfl rfl rfl dX12_owes_21 ?_
    refine zRx.iload_n 2 rfl rfl dX12_owes_24 ?_
    refine zRx.iast rfl (by omega) (by omega) dX12_owes_25 ?_
    refine zRx.aload_n 0 rfl rfl dX12_owes_26 ?_
    refine zRx.getR (a := 0) (b := 18) fl_12_83 rfl rfl dX12_owes_27 ?_
    refine zRx.aload_n 0 rfl rfl dX12_owes_30 ?_
    refine zRx.getIv (a := 0) (ji := 43) (v := σ 0 43) ((zu_ne _ _ _ _ (by decide)).trans (zu_ne _ _ _ _ (by decide))) fl_12_357 rfl rfl rfl dX12_owes_31 ?_
    refine zRx.iload_n 3 rfl rfl dX12_owes_34 ?_
    refine zRx.iast rfl (by omega) (by omega) dX12_owes_35 ?_
    refine zRx.aload_n 0 rfl rfl dX12_owes_36 ?_
    refine zRx.getR (a := 0) (b := 19) fl_12_86 rfl rfl dX12_owes_37 ?_
    refine zRx.aload_n 0 rfl rfl dX12_owes_40 ?_
    refine zRx.getIv (a := 0) (ji := 43) (v := σ 0 43) ((zu_ne _ _ _ _ (by decide)).trans ((zu_ne _ _ _ _ (by decide)).trans (zu_ne _ _ _ _ (by decide)))) fl_12_357 rfl rfl rfl dX12_owes_41 ?_
    refine zRx.iload 4 rfl dX12_owes_44 ?_
    refine zRx.iast rfl (by omega) (by omega) dX12_owes_46 ?_
    refine zRx.aload_n 0 rfl rfl dX12_owes_47 ?_
    refine zRx.getR (a := 0) (b := 20) fl_12_89 rfl rfl dX12_owes_48 ?_
    refine zRx.aload_n 0 rfl rfl dX12_owes_51 ?_
    refine zRx.getIv (a := 0) (ji := 43) (v := σ 0 43) ((zu_ne _ _ _ _ (by decide)).trans ((zu_ne _ _ _ _ (by decide)).trans ((zu_ne _ _ _ _ (by decide)).trans (zu_ne _ _ _ _ (by decide))))) fl_12_357 rfl rfl rfl dX12_owes_52 ?_
    refine zRx.iload 4 rfl dX12_owes_55 ?_
    refine zRx.iast rfl (by omega) (by omega) dX12_owes_57 ?_
    refine zRx.aload_n 0 rfl rfl dX12_owes_58 ?_
    refine zRx.getR (a := 0) (b := 21) fl_12_92 rfl rfl dX12_owes_59 ?_
    refine zRx.aload_n 0 rfl rfl dX12_owes_62 ?_
    refine zRx.getIv (a := 0) (ji := 43) (v := σ 0 43) ((zu_ne _ _ _ _ (by decide)).trans ((zu_ne _ _ _ _ (by decide)).trans ((zu_ne _ _ _ _ (by decide)).trans ((zu_ne _ _ _ _ (by decide)).trans (zu_ne _ _ _ _ (by decide)))))) fl_12_357 rfl rfl rfl dX12_owes_63 ?_
    refine zRx.iload 5 rfl dX12_owes_66 ?_
    refine zRx.iast rfl (by omega) (by omega) dX12_owes_68 ?_
    refine zRx.aload_n 0 rfl rfl dX12_owes_69 ?_
    refine zRx.getR (a := 0) (b := 22) fl_12_95 rfl rfl dX12_owes_70 ?_
    refine zRx.aload_n 0 rfl rfl dX12_owes_73 ?_
    refine zRx.getIv (a := 0) (ji := 43) (v := σ 0 43) ((zu_ne _ _ _ _ (by decide)).trans ((zu_ne _ _ _ _ (by decide)).trans ((zu_ne _ _ _ _ (by decide)).trans ((zu_ne _ _ _ _ (by decide)).trans ((zu_ne _ _ _ _ (by decide)).trans (zu_ne _ _ _ _ (by decide))))))) fl_12_357 rfl rfl rfl dX12_owes_74 ?_
    refine zRx.iconst ⟨by decide, by decide⟩ dX12_owes_77 ?_
    refine zRx.iast rfl (by omega) (by omega) dX12_owes_78 ?_
    refine zRx.aload_n 0 rfl rfl dX12_owes_79 ?_
    refine zRx.getR (a := 0) (b := 23) fl_12_98 rfl rfl dX12_owes_80 ?_
    refine zRx.aload_n 0 rfl rfl dX12_owes_83 ?_
    refine zRx.getIv (a := 0) (ji := 43) (v := σ 0 43) ((zu_ne _ _ _ _ (by decide)).trans ((zu_ne _ _ _ _ (by decide)).trans ((zu_ne _ _ _ _ (by decide)).trans ((zu_ne _ _ _ _ (by decide)).trans ((zu_ne _ _ _ _ (by decide)).trans ((zu_ne _ _ _ _ (by decide)).trans (zu_ne _ _ _ _ (by decide)))))))) fl_12_357 rfl rfl rfl dX12_owes_84 ?_
    refine zRx.iconst ⟨by decide, by decide⟩ dX12_owes_87 ?_
    refine zRx.iast rfl (by omega) (by omega) dX12_owes_88 ?_
    refine zRx.aload_n 0 rfl rfl dX12_owes_89 ?_
    refine zRx.getR (a := 0) (b := 24) fl_12_101 rfl rfl dX12_owes_90 ?_
    refine zRx.aload_n 0 rfl rfl dX12_owes_93 ?_
    refine zRx.getIv (a := 0) (ji := 43) (v := σ 0 43) ((zu_ne _ _ _ _ (by decide)).trans ((zu_ne _ _ _ _ (by decide)).trans ((zu_ne _ _ _ _ (by decide)).trans ((zu_ne _ _ _ _ (by decide)).trans ((zu_ne _ _ _ _ (by decide)).trans ((zu_ne _ _ _ _ (by decide)).trans ((zu_ne _ _ _ _ (by decide)).trans (zu_ne _ _ _ _ (by decide))))))))) fl_12_357 rfl rfl rfl dX12_owes_94 ?_
    refine zRx.aload_n 0 rfl rfl dX12_owes_97 ?_
    refine zRx.getIv (a := 0) (ji := 44) (v := σ 0 44) ((zu_ne _ _ _ _ (by decide)).trans ((zu_ne _ _ _ _ (by decide)).trans ((zu_ne _ _ _ _ (by decide)).trans ((zu_ne _ _ _ _ (by decide)).trans ((zu_ne _ _ _ _ (by decide)).trans ((zu_ne _ _ _ _ (by decide)).trans ((zu_ne _ _ _ _ (by decide)).trans (zu_ne _ _ _ _ (by decide))))))))) fl_12_360 rfl rfl rfl dX12_owes_98 ?_
    refine zRx.iast rfl (by omega) (by omega) dX12_owes_101 ?_
    refine zRx.aload_n 0 rfl rfl dX12_owes_102 ?_
    refine zRx.getR (a := 0) (b := 25) fl_12_104 rfl rfl dX12_owes_103 ?_
    refine zRx.aload_n 0 rfl rfl dX12_owes_106 ?_
    refine zRx.getIv (a := 0) (ji := 43) (v := σ 0 43) ((zu_ne _ _ _ _ (by decide)).trans ((zu_ne _ _ _ _ (by decide)).trans ((zu_ne _ _ _ _ (by decide)).trans ((zu_ne _ _ _ _ (by decide)).trans ((zu_ne _ _ _ _ (by decide)).trans ((zu_ne _ _ _ _ (by decide)).trans ((zu_ne _ _ _ _ (by decide)).trans ((zu_ne _ _ _ _ (by decide)).trans (zu_ne _ _ _ _ (by decide)))))))))) fl_12_357 rfl rfl rfl dX12_owes_107 ?_
    refine zRx.iconst ⟨by decide, by decide⟩ dX12_owes_110 ?_
    refine zRx.iast rfl (by omega) (by omega) dX12_owes_111 ?_
    refine zRx.aload_n 0 rfl rfl dX12_owes_112 ?_
    refine zRx.dup rfl dX12_owes_113 ?_
    refine zRx.getIv (a := 0) (ji := 43) (v := σ 0 43) ((zu_ne _ _ _ _ (by decide)).trans ((zu_ne _ _ _ _ (by decide)).trans ((zu_ne _ _ _ _ (by decide)).trans ((zu_ne _ _ _ _ (by decide)).trans ((zu_ne _ _ _ _ (by decide)).trans ((zu_ne _ _ _ _ (by decide)).trans ((zu_ne _ _ _ _ (by decide)).trans ((zu_ne _ _ _ _ (by decide)).trans ((zu_ne _ _ _ _ (by decide)).trans (zu_ne _ _ _ _ (by decide))))))))))) fl_12_357 rfl rfl rfl dX12_owes_114 ?_
    refine zRx.iconst ⟨by decide, by decide⟩ dX12_owes_117 ?_
    refine zRx.iadd ⟨by omega, by omega⟩ dX12_owes_118 ?_
    refine zRx.putI (a := 0) (ji := 43) pl_12_357 rfl rfl rfl dX12_owes_119 ?_
    exact zR.ret rfl dX12_owes_122 ⟨rfl, by unfold F_X12_owes; rw [if_neg c2]⟩
  · exact zR.ret rfl dX12_owes_5 ⟨rfl, by unfold F_X12_owes; rw [if_pos c2]⟩

def L_X12_worthOf_62 (σ : zG) (who f : Int) (kn : Int) : Nat → Int → Int → Int
  | 0, _, _ => 0
  | n + 1, al, q => if (σ 2 0) ≤ q then (if al = 0 then kn else (Int.tdiv (w32 (kn * (σ 2 5))) 10)) else (if al = 0 then (L_X12_worthOf_62 σ who f kn n 0 (q + 1)) else (if q = who then (L_X12_worthOf_62 σ who f kn n 1 (q + 1)) else (if hb (σ 11 q) f then (L_X12_worthOf_62 σ who f kn n 0 (q + 1)) else (L_X12_worthOf_62 σ who f kn n 1 (q + 1)))))
set_option maxRecDepth 20000 in
theorem loop_X12_worthOf_62 (σ : zG) (who f : Int) (hf : 0 ≤ f ∧ f < 12) (hp : σ 2 0 ≤ 8) (kn : Int) : ∀ (n : Nat) (al q : Int) , 0 ≤ q → (8 - q).toNat < n → zR SM 1 m_X12_worthOf 62 [(0, zP 0), (1, .inl who), (2, .inl f), (3, .inl kn), (4, .inl al), (5, .inl q)] [] σ (zEq (some (.inl (L_X12_worthOf_62 σ who f kn n al q))) σ) := by
  intro n
  induction n with
  | zero => intro al q  h0 hmz; exact absurd hmz (Nat.not_lt_zero _)
  | succ n ih =>
    intro al q  h0 hmz
    refine zRx.iload 5 rfl dX12_worthOf_62 ?_
    refine zRx.aload_n 0 rfl rfl dX12_worthOf_64 ?_
    refine zRx.getR (a := 0) (b := 2) fl_12_33 rfl rfl dX12_worthOf_65 ?_
    refine zRx.iconst ⟨by decide, by decide⟩ dX12_worthOf_68 ?_
    refine zRx.ialdv (v := σ 2 0) rfl rfl (by decide) (by decide) dX12_worthOf_69 ?_
    refine zRx.icmp_ge (tgt := 111) dX12_worthOf_70 (by decide) (fun c70 => ?_) (fun c70 => ?_)
    · refine zRx.iload 4 rfl dX12_worthOf_111 ?_
      refine zRx.if_eq (tgt := 130) dX12_worthOf_113 (by decide) (fun c113 => ?_) (fun c113 => ?_)
      · refine zRx.iload_n 3 rfl rfl dX12_worthOf_130 ?_
        exact zR.iret rfl dX12_worthOf_131 (by have he : L_X12_worthOf_62 σ who f kn (n + 1) al q = kn := (by rw [L_X12_worthOf_62, if_pos c70, if_pos c113]); rw [he]; exact ⟨rfl, rfl⟩)
      · refine zRx.iload_n 3 rfl rfl dX12_worthOf_116 ?_
        refine zRx.aload_n 0 rfl rfl dX12_worthOf_117 ?_
        refine zRx.getR (a := 0) (b := 2) fl_12_33 rfl rfl dX12_worthOf_118 ?_
        refine zRx.iconst ⟨by decide, by decide⟩ dX12_worthOf_121 ?_
        refine zRx.ialdv (v := σ 2 5) rfl rfl (by decide) (by decide) dX12_worthOf_122 ?_
        refine zRx.imulW dX12_worthOf_123 ?_
        refine zRx.bipush ⟨by decide, by decide⟩ rfl dX12_worthOf_124 ?_
        refine zRx.idivT (by decide) dX12_worthOf_126 ?_
        refine zRx.goto (tgt := 131) dX12_worthOf_127 (by decide) ?_
        exact zR.iret rfl dX12_worthOf_131 (by have he : L_X12_worthOf_62 σ who f kn (n + 1) al q = Int.tdiv (w32 (kn * (σ 2 5))) 10 := (by rw [L_X12_worthOf_62, if_pos c70, if_neg c113]); rw [he]; exact ⟨rfl, rfl⟩)
    · refine zRx.iload 4 rfl dX12_worthOf_73 ?_
      refine zRx.if_eq (tgt := 102) dX12_worthOf_75 (by decide) (fun c75 => ?_) (fun c75 => ?_)
      · refine zRx.iconst ⟨by decide, by decide⟩ dX12_worthOf_102 ?_
        refine zRx.istore (ls' := [(0, zP 0), (1, .inl who), (2, .inl f), (3, .inl kn), (4, .inl 0), (5, .inl q)]) rfl (by decide) dX12_worthOf_103 ?_
        refine zRx.iinc (n := 1) (ls' := [(0, zP 0), (1, .inl who), (2, .inl f), (3, .inl kn), (4, .inl 0), (5, .inl (q + 1))]) 5 rfl ⟨by omega, by omega⟩ rfl (by decide) dX12_worthOf_105 ?_
        refine zRx.goto (tgt := 62) dX12_worthOf_108 (by decide) ?_
        have he : L_X12_worthOf_62 σ who f kn (n + 1) al q = L_X12_worthOf_62 σ who f kn n 0 (q + 1) := by rw [L_X12_worthOf_62, if_neg (Int.not_le.mpr c70), if_pos c75]
        rw [he]
        exact ih 0 (q + 1)  (by omega) (by omega)
      · refine zRx.iload 5 rfl dX12_worthOf_78 ?_
        refine zRx.iload_n 1 rfl rfl dX12_worthOf_80 ?_
        refine zRx.icmp_eq (tgt := 98) dX12_worthOf_81 (by decide) (fun c81 => ?_) (fun c81 => ?_)
        · refine zRx.iconst ⟨by decide, by decide⟩ dX12_worthOf_98 ?_
          refine zRx.goto (tgt := 103) dX12_worthOf_99 (by decide) ?_
          refine zRx.istore (ls' := [(0, zP 0), (1, .inl who), (2, .inl f), (3, .inl kn), (4, .inl 1), (5, .inl q)]) rfl (by decide) dX12_worthOf_103 ?_
          refine zRx.iinc (n := 1) (ls' := [(0, zP 0), (1, .inl who), (2, .inl f), (3, .inl kn), (4, .inl 1), (5, .inl (q + 1))]) 5 rfl ⟨by omega, by omega⟩ rfl (by decide) dX12_worthOf_105 ?_
          refine zRx.goto (tgt := 62) dX12_worthOf_108 (by decide) ?_
          have he : L_X12_worthOf_62 σ who f kn (n + 1) al q = L_X12_worthOf_62 σ who f kn n 1 (q + 1) := by rw [L_X12_worthOf_62, if_neg (Int.not_le.mpr c70), if_neg c75, if_pos c81]
          rw [he]
          exact ih 1 (q + 1)  (by omega) (by omega)
        · refine zRx.aload_n 0 rfl rfl dX12_worthOf_84 ?_
          refine zRx.getR (a := 0) (b := 11) fl_12_62 rfl rfl dX12_worthOf_85 ?_
          refine zRx.iload 5 rfl dX12_worthOf_88 ?_
          refine zRx.ialdv (v := σ 11 q) rfl rfl (by omega) (by omega) dX12_worthOf_90 ?_
          refine zRx.iload_n 2 rfl rfl dX12_worthOf_91 ?_
          refine zRx.cSi (w := .inl (b2 (hb (σ 11 q) f))) (M := m_X12_has) (av := [.inl (σ 11 q), .inl f]) cs_12_272 mk_X12_has (by decide) rfl (Nat.le_of_ble_eq_true rfl) dX12_worthOf_92 (does_X12_has (σ 11 q) f SM σ) ?_
          refine zRx.if_neB (tgt := 102) dX12_worthOf_95 (by decide) (fun c95 => ?_) (fun c95 => ?_)
          · refine zRx.iconst ⟨by decide, by decide⟩ dX12_worthOf_102 ?_
            refine zRx.istore (ls' := [(0, zP 0), (1, .inl who), (2, .inl f), (3, .inl kn), (4, .inl 0), (5, .inl q)]) rfl (by decide) dX12_worthOf_103 ?_
            refine zRx.iinc (n := 1) (ls' := [(0, zP 0), (1, .inl who), (2, .inl f), (3, .inl kn), (4, .inl 0), (5, .inl (q + 1))]) 5 rfl ⟨by omega, by omega⟩ rfl (by decide) dX12_worthOf_105 ?_
            refine zRx.goto (tgt := 62) dX12_worthOf_108 (by decide) ?_
            have he : L_X12_worthOf_62 σ who f kn (n + 1) al q = L_X12_worthOf_62 σ who f kn n 0 (q + 1) := by rw [L_X12_worthOf_62, if_neg (Int.not_le.mpr c70), if_neg c75, if_neg c81, if_pos c95]
            rw [he]
            exact ih 0 (q + 1)  (by omega) (by omega)
          · refine zRx.iconst ⟨by decide, by decide⟩ dX12_worthOf_98 ?_
            refine zRx.goto (tgt := 103) dX12_worthOf_99 (by decide) ?_
            refine zRx.istore (ls' := [(0, zP 0), (1, .inl who), (2, .inl f), (3, .inl kn), (4, .inl 1), (5, .inl q)]) rfl (by decide) dX12_worthOf_103 ?_
            refine zRx.iinc (n := 1) (ls' := [(0, zP 0), (1, .inl who), (2, .inl f), (3, .inl kn), (4, .inl 1), (5, .inl (q + 1))]) 5 rfl ⟨by omega, by omega⟩ rfl (by decide) dX12_worthOf_105 ?_
            refine zRx.goto (tgt := 62) dX12_worthOf_108 (by decide) ?_
            have he : L_X12_worthOf_62 σ who f kn (n + 1) al q = L_X12_worthOf_62 σ who f kn n 1 (q + 1) := by rw [L_X12_worthOf_62, if_neg (Int.not_le.mpr c70), if_neg c75, if_neg c81, if_neg c95]
            rw [he]
            exact ih 1 (q + 1)  (by omega) (by omega)
def R_X12_worthOf (σ : zG) (who f : Int) : Int := if hb (σ 0 45) f then (Int.tdiv (w32 ((σ 2 (8 + (3 * f))) * (σ 2 4))) 10) else (if (σ 2 ((8 + (3 * f)) + 2)) = who then (L_X12_worthOf_62 σ who f (σ 2 (8 + (3 * f))) 10 0 0) else (L_X12_worthOf_62 σ who f (σ 2 (8 + (3 * f))) 10 1 0))
set_option maxRecDepth 20000 in
theorem does_X12_worthOf (σ : zG) (who f : Int) (hf : 0 ≤ f ∧ f < 12) (hp : σ 2 0 ≤ 8)  : zDo SM 1 m_X12_worthOf [zP 0, .inl who, .inl f] σ (zEq (some (.inl (R_X12_worthOf σ who f))) σ) := by
  refine zDo.intro mk_X12_worthOf (Nat.le_of_ble_eq_true rfl) ?_
  refine zRx.aload_n 0 rfl rfl dX12_worthOf_0 ?_
  refine zRx.getR (a := 0) (b := 2) fl_12_33 rfl rfl dX12_worthOf_1 ?_
  refine zRx.bipush ⟨by decide, by decide⟩ rfl dX12_worthOf_4 ?_
  refine zRx.iconst ⟨by decide, by decide⟩ dX12_worthOf_6 ?_
  refine zRx.iload_n 2 rfl rfl dX12_worthOf_7 ?_
  refine zRx.imul ⟨by omega, by omega⟩ dX12_worthOf_8 ?_
  refine zRx.iadd ⟨by omega, by omega⟩ dX12_worthOf_9 ?_
  refine zRx.ialdv (v := σ 2 (8 + (3 * f))) rfl rfl (by omega) (by omega) dX12_worthOf_10 ?_
  refine zRx.istore_n (ls' := [(0, zP 0), (1, .inl who), (2, .inl f), (3, .inl (σ 2 (8 + (3 * f))))]) rfl rfl (by decide) dX12_worthOf_11 ?_
  refine zRx.aload_n 0 rfl rfl dX12_worthOf_12 ?_
  refine zRx.getIv (a := 0) (ji := 45) (v := σ 0 45) rfl fl_12_363 rfl rfl rfl dX12_worthOf_13 ?_
  refine zRx.iload_n 2 rfl rfl dX12_worthOf_16 ?_
  refine zRx.cSi (w := .inl (b2 (hb (σ 0 45) f))) (M := m_X12_has) (av := [.inl (σ 0 45), .inl f]) cs_12_272 mk_X12_has (by decide) rfl (Nat.le_of_ble_eq_true rfl) dX12_worthOf_17 (does_X12_has (σ 0 45) f SM σ) ?_
  refine zRx.if_eqB (tgt := 35) dX12_worthOf_20 (by decide) (fun c20 => ?_) (fun c20 => ?_)
  · refine zRx.aload_n 0 rfl rfl dX12_worthOf_35 ?_
    refine zRx.getR (a := 0) (b := 2) fl_12_33 rfl rfl dX12_worthOf_36 ?_
    refine zRx.bipush ⟨by decide, by decide⟩ rfl dX12_worthOf_39 ?_
    refine zRx.iconst ⟨by decide, by decide⟩ dX12_worthOf_41 ?_
    refine zRx.iload_n 2 rfl rfl dX12_worthOf_42 ?_
    refine zRx.imul ⟨by omega, by omega⟩ dX12_worthOf_43 ?_
    refine zRx.iadd ⟨by omega, by omega⟩ dX12_worthOf_44 ?_
    refine zRx.iconst ⟨by decide, by decide⟩ dX12_worthOf_45 ?_
    refine zRx.iadd ⟨by omega, by omega⟩ dX12_worthOf_46 ?_
    refine zRx.ialdv (v := σ 2 ((8 + (3 * f)) + 2)) rfl rfl (by omega) (by omega) dX12_worthOf_47 ?_
    refine zRx.iload_n 1 rfl rfl dX12_worthOf_48 ?_
    refine zRx.icmp_eq (tgt := 56) dX12_worthOf_49 (by decide) (fun c49 => ?_) (fun c49 => ?_)
    · refine zRx.iconst ⟨by decide, by decide⟩ dX12_worthOf_56 ?_
      refine zRx.istore (ls' := [(0, zP 0), (1, .inl who), (2, .inl f), (3, .inl (σ 2 (8 + (3 * f)))), (4, .inl 0)]) rfl (by decide) dX12_worthOf_57 ?_
      refine zRx.iconst ⟨by decide, by decide⟩ dX12_worthOf_59 ?_
      refine zRx.istore (ls' := [(0, zP 0), (1, .inl who), (2, .inl f), (3, .inl (σ 2 (8 + (3 * f)))), (4, .inl 0), (5, .inl 0)]) rfl (by decide) dX12_worthOf_60 ?_
      have he : R_X12_worthOf σ who f = L_X12_worthOf_62 σ who f (σ 2 (8 + (3 * f))) 10 0 0 := by rw [R_X12_worthOf, if_neg c20, if_pos c49]
      rw [he]
      exact loop_X12_worthOf_62 σ who f hf hp (σ 2 (8 + (3 * f))) 10 0 0  (by omega) (by omega)
    · refine zRx.iconst ⟨by decide, by decide⟩ dX12_worthOf_52 ?_
      refine zRx.goto (tgt := 57) dX12_worthOf_53 (by decide) ?_
      refine zRx.istore (ls' := [(0, zP 0), (1, .inl who), (2, .inl f), (3, .inl (σ 2 (8 + (3 * f)))), (4, .inl 1)]) rfl (by decide) dX12_worthOf_57 ?_
      refine zRx.iconst ⟨by decide, by decide⟩ dX12_worthOf_59 ?_
      refine zRx.istore (ls' := [(0, zP 0), (1, .inl who), (2, .inl f), (3, .inl (σ 2 (8 + (3 * f)))), (4, .inl 1), (5, .inl 0)]) rfl (by decide) dX12_worthOf_60 ?_
      have he : R_X12_worthOf σ who f = L_X12_worthOf_62 σ who f (σ 2 (8 + (3 * f))) 10 1 0 := by rw [R_X12_worthOf, if_neg c20, if_neg c49]
      rw [he]
      exact loop_X12_worthOf_62 σ who f hf hp (σ 2 (8 + (3 * f))) 10 1 0  (by omega) (by omega)
  · refine zRx.iload_n 3 rfl rfl dX12_worthOf_23 ?_
    refine zRx.aload_n 0 rfl rfl dX12_worthOf_24 ?_
    refine zRx.getR (a := 0) (b := 2) fl_12_33 rfl rfl dX12_worthOf_25 ?_
    refine zRx.iconst ⟨by decide, by decide⟩ dX12_worthOf_28 ?_
    refine zRx.ialdv (v := σ 2 4) rfl rfl (by decide) (by decide) dX12_worthOf_29 ?_
    refine zRx.imulW dX12_worthOf_30 ?_
    refine zRx.bipush ⟨by decide, by decide⟩ rfl dX12_worthOf_31 ?_
    refine zRx.idivT (by decide) dX12_worthOf_33 ?_
    exact zR.iret rfl dX12_worthOf_34 (by have he : R_X12_worthOf σ who f = Int.tdiv (w32 ((σ 2 (8 + (3 * f))) * (σ 2 4))) 10 := (by rw [R_X12_worthOf, if_pos c20]); rw [he]; exact ⟨rfl, rfl⟩)

def L_X12_whyOf_16 (σ : zG) (wh who to f mo : Int) : Nat → Int → Int → Int
  | 0, _, _ => 0
  | n + 1, al, q => if 8 ≤ q then (if al = 0 then 1 else (if hb (σ 11 to) f then 2 else 0)) else (if wh = 1 then (if al = 0 then (L_X12_whyOf_16 σ wh who to f mo n 0 (q + 1)) else (if hb mo q then (if hb (σ 11 q) f then (L_X12_whyOf_16 σ wh who to f mo n 1 (q + 1)) else (L_X12_whyOf_16 σ wh who to f mo n 0 (q + 1))) else (L_X12_whyOf_16 σ wh who to f mo n 1 (q + 1)))) else (if al = 0 then 1 else (if hb (σ 11 to) f then 2 else 0)))
set_option maxRecDepth 20000 in
theorem loop_X12_whyOf_16 (σ : zG) (wh who to f mo : Int) (hw : 0 ≤ who ∧ who < 8) (ht : 0 ≤ to ∧ to < 8) : ∀ (n : Nat) (al q : Int) , 0 ≤ q → (8 - q).toNat < n → zR SM 1 m_X12_whyOf 16 [(0, zP 0), (1, .inl wh), (2, .inl who), (3, .inl to), (4, .inl f), (5, .inl mo), (6, .inl al), (7, .inl q)] [] σ (zEq (some (.inl (L_X12_whyOf_16 σ wh who to f mo n al q))) σ) := by
  intro n
  induction n with
  | zero => intro al q  h0 hmz; exact absurd hmz (Nat.not_lt_zero _)
  | succ n ih =>
    intro al q  h0 hmz
    refine zRx.iload 7 rfl dX12_whyOf_16 ?_
    refine zRx.bipush ⟨by decide, by decide⟩ rfl dX12_whyOf_18 ?_
    refine zRx.icmp_ge (tgt := 71) dX12_whyOf_20 (by decide) (fun c20 => ?_) (fun c20 => ?_)
    · refine zRx.iload 6 rfl dX12_whyOf_71 ?_
      refine zRx.if_ne (tgt := 80) dX12_whyOf_73 (by decide) (fun c73 => ?_) (fun c73 => ?_)
      · refine zRx.aload_n 0 rfl rfl dX12_whyOf_80 ?_
        refine zRx.getR (a := 0) (b := 11) fl_12_62 rfl rfl dX12_whyOf_81 ?_
        refine zRx.iload_n 3 rfl rfl dX12_whyOf_84 ?_
        refine zRx.ialdv (v := σ 11 to) rfl rfl (by omega) (by omega) dX12_whyOf_85 ?_
        refine zRx.iload 4 rfl dX12_whyOf_86 ?_
        refine zRx.cSi (w := .inl (b2 (hb (σ 11 to) f))) (M := m_X12_has) (av := [.inl (σ 11 to), .inl f]) cs_12_272 mk_X12_has (by decide) rfl (Nat.le_of_ble_eq_true rfl) dX12_whyOf_88 (does_X12_has (σ 11 to) f SM σ) ?_
        refine zRx.if_eqB (tgt := 98) dX12_whyOf_91 (by decide) (fun c91 => ?_) (fun c91 => ?_)
        · refine zRx.iconst ⟨by decide, by decide⟩ dX12_whyOf_98 ?_
          exact zR.iret rfl dX12_whyOf_99 (by have he : L_X12_whyOf_16 σ wh who to f mo (n + 1) al q = 0 := (by rw [L_X12_whyOf_16, if_pos c20, if_neg c73, if_neg c91]); rw [he]; exact ⟨rfl, rfl⟩)
        · refine zRx.iconst ⟨by decide, by decide⟩ dX12_whyOf_94 ?_
          refine zRx.goto (tgt := 99) dX12_whyOf_95 (by decide) ?_
          exact zR.iret rfl dX12_whyOf_99 (by have he : L_X12_whyOf_16 σ wh who to f mo (n + 1) al q = 2 := (by rw [L_X12_whyOf_16, if_pos c20, if_neg c73, if_pos c91]); rw [he]; exact ⟨rfl, rfl⟩)
      · refine zRx.iconst ⟨by decide, by decide⟩ dX12_whyOf_76 ?_
        refine zRx.goto (tgt := 99) dX12_whyOf_77 (by decide) ?_
        exact zR.iret rfl dX12_whyOf_99 (by have he : L_X12_whyOf_16 σ wh who to f mo (n + 1) al q = 1 := (by rw [L_X12_whyOf_16, if_pos c20, if_pos c73]); rw [he]; exact ⟨rfl, rfl⟩)
    · refine zRx.iload_n 1 rfl rfl dX12_whyOf_23 ?_
      refine zRx.iconst ⟨by decide, by decide⟩ dX12_whyOf_24 ?_
      refine zRx.icmp_ne (tgt := 71) dX12_whyOf_25 (by decide) (fun c25 => ?_) (fun c25 => ?_)
      · refine zRx.iload 6 rfl dX12_whyOf_71 ?_
        refine zRx.if_ne (tgt := 80) dX12_whyOf_73 (by decide) (fun c73 => ?_) (fun c73 => ?_)
        · refine zRx.aload_n 0 rfl rfl dX12_whyOf_80 ?_
          refine zRx.getR (a := 0) (b := 11) fl_12_62 rfl rfl dX12_whyOf_81 ?_
          refine zRx.iload_n 3 rfl rfl dX12_whyOf_84 ?_
          refine zRx.ialdv (v := σ 11 to) rfl rfl (by omega) (by omega) dX12_whyOf_85 ?_
          refine zRx.iload 4 rfl dX12_whyOf_86 ?_
          refine zRx.cSi (w := .inl (b2 (hb (σ 11 to) f))) (M := m_X12_has) (av := [.inl (σ 11 to), .inl f]) cs_12_272 mk_X12_has (by decide) rfl (Nat.le_of_ble_eq_true rfl) dX12_whyOf_88 (does_X12_has (σ 11 to) f SM σ) ?_
          refine zRx.if_eqB (tgt := 98) dX12_whyOf_91 (by decide) (fun c91 => ?_) (fun c91 => ?_)
          · refine zRx.iconst ⟨by decide, by decide⟩ dX12_whyOf_98 ?_
            exact zR.iret rfl dX12_whyOf_99 (by have he : L_X12_whyOf_16 σ wh who to f mo (n + 1) al q = 0 := (by rw [L_X12_whyOf_16, if_neg (Int.not_le.mpr c20), if_neg c25, if_neg c73, if_neg c91]); rw [he]; exact ⟨rfl, rfl⟩)
          · refine zRx.iconst ⟨by decide, by decide⟩ dX12_whyOf_94 ?_
            refine zRx.goto (tgt := 99) dX12_whyOf_95 (by decide) ?_
            exact zR.iret rfl dX12_whyOf_99 (by have he : L_X12_whyOf_16 σ wh who to f mo (n + 1) al q = 2 := (by rw [L_X12_whyOf_16, if_neg (Int.not_le.mpr c20), if_neg c25, if_neg c73, if_pos c91]); rw [he]; exact ⟨rfl, rfl⟩)
        · refine zRx.iconst ⟨by decide, by decide⟩ dX12_whyOf_76 ?_
          refine zRx.goto (tgt := 99) dX12_whyOf_77 (by decide) ?_
          exact zR.iret rfl dX12_whyOf_99 (by have he : L_X12_whyOf_16 σ wh who to f mo (n + 1) al q = 1 := (by rw [L_X12_whyOf_16, if_neg (Int.not_le.mpr c20), if_neg c25, if_pos c73]); rw [he]; exact ⟨rfl, rfl⟩)
      · refine zRx.iload 6 rfl dX12_whyOf_28 ?_
        refine zRx.if_eq (tgt := 62) dX12_whyOf_30 (by decide) (fun c30 => ?_) (fun c30 => ?_)
        · refine zRx.iconst ⟨by decide, by decide⟩ dX12_whyOf_62 ?_
          refine zRx.istore (ls' := [(0, zP 0), (1, .inl wh), (2, .inl who), (3, .inl to), (4, .inl f), (5, .inl mo), (6, .inl 0), (7, .inl q)]) rfl (by decide) dX12_whyOf_63 ?_
          refine zRx.iinc (n := 1) (ls' := [(0, zP 0), (1, .inl wh), (2, .inl who), (3, .inl to), (4, .inl f), (5, .inl mo), (6, .inl 0), (7, .inl (q + 1))]) 7 rfl ⟨by omega, by omega⟩ rfl (by decide) dX12_whyOf_65 ?_
          refine zRx.goto (tgt := 16) dX12_whyOf_68 (by decide) ?_
          have he : L_X12_whyOf_16 σ wh who to f mo (n + 1) al q = L_X12_whyOf_16 σ wh who to f mo n 0 (q + 1) := by rw [L_X12_whyOf_16, if_neg (Int.not_le.mpr c20), if_pos c25, if_pos c30]
          rw [he]
          exact ih 0 (q + 1)  (by omega) (by omega)
        · refine zRx.iload 5 rfl dX12_whyOf_33 ?_
          refine zRx.iload 7 rfl dX12_whyOf_35 ?_
          refine zRx.cSi (w := .inl (b2 (hb mo q))) (M := m_X12_has) (av := [.inl mo, .inl q]) cs_12_272 mk_X12_has (by decide) rfl (Nat.le_of_ble_eq_true rfl) dX12_whyOf_37 (does_X12_has mo q SM σ) ?_
          refine zRx.if_eqB (tgt := 58) dX12_whyOf_40 (by decide) (fun c40 => ?_) (fun c40 => ?_)
          · refine zRx.iconst ⟨by decide, by decide⟩ dX12_whyOf_58 ?_
            refine zRx.goto (tgt := 63) dX12_whyOf_59 (by decide) ?_
            refine zRx.istore (ls' := [(0, zP 0), (1, .inl wh), (2, .inl who), (3, .inl to), (4, .inl f), (5, .inl mo), (6, .inl 1), (7, .inl q)]) rfl (by decide) dX12_whyOf_63 ?_
            refine zRx.iinc (n := 1) (ls' := [(0, zP 0), (1, .inl wh), (2, .inl who), (3, .inl to), (4, .inl f), (5, .inl mo), (6, .inl 1), (7, .inl (q + 1))]) 7 rfl ⟨by omega, by omega⟩ rfl (by decide) dX12_whyOf_65 ?_
            refine zRx.goto (tgt := 16) dX12_whyOf_68 (by decide) ?_
            have he : L_X12_whyOf_16 σ wh who to f mo (n + 1) al q = L_X12_whyOf_16 σ wh who to f mo n 1 (q + 1) := by rw [L_X12_whyOf_16, if_neg (Int.not_le.mpr c20), if_pos c25, if_neg c30, if_neg c40]
            rw [he]
            exact ih 1 (q + 1)  (by omega) (by omega)
          · refine zRx.aload_n 0 rfl rfl dX12_whyOf_43 ?_
            refine zRx.getR (a := 0) (b := 11) fl_12_62 rfl rfl dX12_whyOf_44 ?_
            refine zRx.iload 7 rfl dX12_whyOf_47 ?_
            refine zRx.ialdv (v := σ 11 q) rfl rfl (by omega) (by omega) dX12_whyOf_49 ?_
            refine zRx.iload 4 rfl dX12_whyOf_50 ?_
            refine zRx.cSi (w := .inl (b2 (hb (σ 11 q) f))) (M := m_X12_has) (av := [.inl (σ 11 q), .inl f]) cs_12_272 mk_X12_has (by decide) rfl (Nat.le_of_ble_eq_true rfl) dX12_whyOf_52 (does_X12_has (σ 11 q) f SM σ) ?_
            refine zRx.if_eqB (tgt := 62) dX12_whyOf_55 (by decide) (fun c55 => ?_) (fun c55 => ?_)
            · refine zRx.iconst ⟨by decide, by decide⟩ dX12_whyOf_62 ?_
              refine zRx.istore (ls' := [(0, zP 0), (1, .inl wh), (2, .inl who), (3, .inl to), (4, .inl f), (5, .inl mo), (6, .inl 0), (7, .inl q)]) rfl (by decide) dX12_whyOf_63 ?_
              refine zRx.iinc (n := 1) (ls' := [(0, zP 0), (1, .inl wh), (2, .inl who), (3, .inl to), (4, .inl f), (5, .inl mo), (6, .inl 0), (7, .inl (q + 1))]) 7 rfl ⟨by omega, by omega⟩ rfl (by decide) dX12_whyOf_65 ?_
              refine zRx.goto (tgt := 16) dX12_whyOf_68 (by decide) ?_
              have he : L_X12_whyOf_16 σ wh who to f mo (n + 1) al q = L_X12_whyOf_16 σ wh who to f mo n 0 (q + 1) := by rw [L_X12_whyOf_16, if_neg (Int.not_le.mpr c20), if_pos c25, if_neg c30, if_pos c40, if_neg c55]
              rw [he]
              exact ih 0 (q + 1)  (by omega) (by omega)
            · refine zRx.iconst ⟨by decide, by decide⟩ dX12_whyOf_58 ?_
              refine zRx.goto (tgt := 63) dX12_whyOf_59 (by decide) ?_
              refine zRx.istore (ls' := [(0, zP 0), (1, .inl wh), (2, .inl who), (3, .inl to), (4, .inl f), (5, .inl mo), (6, .inl 1), (7, .inl q)]) rfl (by decide) dX12_whyOf_63 ?_
              refine zRx.iinc (n := 1) (ls' := [(0, zP 0), (1, .inl wh), (2, .inl who), (3, .inl to), (4, .inl f), (5, .inl mo), (6, .inl 1), (7, .inl (q + 1))]) 7 rfl ⟨by omega, by omega⟩ rfl (by decide) dX12_whyOf_65 ?_
              refine zRx.goto (tgt := 16) dX12_whyOf_68 (by decide) ?_
              have he : L_X12_whyOf_16 σ wh who to f mo (n + 1) al q = L_X12_whyOf_16 σ wh who to f mo n 1 (q + 1) := by rw [L_X12_whyOf_16, if_neg (Int.not_le.mpr c20), if_pos c25, if_neg c30, if_pos c40, if_pos c55]
              rw [he]
              exact ih 1 (q + 1)  (by omega) (by omega)
def R_X12_whyOf (σ : zG) (wh who to f mo : Int) : Int := L_X12_whyOf_16 σ wh who to f mo 10 (b2 (hb (σ 11 who) f)) 0
set_option maxRecDepth 20000 in
theorem does_X12_whyOf (σ : zG) (wh who to f mo : Int) (hw : 0 ≤ who ∧ who < 8) (ht : 0 ≤ to ∧ to < 8)  : zDo SM 1 m_X12_whyOf [zP 0, .inl wh, .inl who, .inl to, .inl f, .inl mo] σ (zEq (some (.inl (R_X12_whyOf σ wh who to f mo))) σ) := by
  refine zDo.intro mk_X12_whyOf (Nat.le_of_ble_eq_true rfl) ?_
  refine zRx.aload_n 0 rfl rfl dX12_whyOf_0 ?_
  refine zRx.getR (a := 0) (b := 11) fl_12_62 rfl rfl dX12_whyOf_1 ?_
  refine zRx.iload_n 2 rfl rfl dX12_whyOf_4 ?_
  refine zRx.ialdv (v := σ 11 who) rfl rfl (by omega) (by omega) dX12_whyOf_5 ?_
  refine zRx.iload 4 rfl dX12_whyOf_6 ?_
  refine zRx.cSi (w := .inl (b2 (hb (σ 11 who) f))) (M := m_X12_has) (av := [.inl (σ 11 who), .inl f]) cs_12_272 mk_X12_has (by decide) rfl (Nat.le_of_ble_eq_true rfl) dX12_whyOf_8 (does_X12_has (σ 11 who) f SM σ) ?_
  refine zRx.istore (ls' := [(0, zP 0), (1, .inl wh), (2, .inl who), (3, .inl to), (4, .inl f), (5, .inl mo), (6, .inl (b2 (hb (σ 11 who) f)))]) rfl (by decide) dX12_whyOf_11 ?_
  refine zRx.iconst ⟨by decide, by decide⟩ dX12_whyOf_13 ?_
  refine zRx.istore (ls' := [(0, zP 0), (1, .inl wh), (2, .inl who), (3, .inl to), (4, .inl f), (5, .inl mo), (6, .inl (b2 (hb (σ 11 who) f))), (7, .inl 0)]) rfl (by decide) dX12_whyOf_14 ?_
  have he : R_X12_whyOf σ wh who to f mo = L_X12_whyOf_16 σ wh who to f mo 10 (b2 (hb (σ 11 who) f)) 0 := by rw [R_X12_whyOf]
  rw [he]
  exact loop_X12_whyOf_16 σ wh who to f mo hw ht  10 (b2 (hb (σ 11 who) f)) 0  (by omega) (by omega)

def L_X12_learns_78 (who f li : Int) (fr : Int) : Nat → Int → zG → zG
  | 0, _, σ => σ
  | n + 1, q, σ => if (σ 0 43) ≤ q then σ else (if (σ 17 q) = who then (if hb fr (σ 18 q) then (L_X12_learns_78 who f li fr n (q + 1) (zu (zu σ 23 q 1) 20 q (upM (σ 20 q) (σ 2 7)))) else (L_X12_learns_78 who f li fr n (q + 1) σ)) else (L_X12_learns_78 who f li fr n (q + 1) σ))
theorem fr_L_X12_learns_78 (who f li : Int) (fr : Int)  (n : Nat) (q : Int) (σ : zG) {k : Nat} (h : k ∉ [20, 23]) : (L_X12_learns_78 who f li fr n q σ) k = σ k := by
  induction n generalizing q σ with
  | zero => rfl
  | succ n ih =>
    have ne : ∀ c ∈ [20, 23], k ≠ c := fun c hc e => h (e ▸ hc)
    rw [L_X12_learns_78]
    repeat' split
    all_goals first | rfl | simp only [zu_row _ _ _ (ne 20 (by decide)), zu_row _ _ _ (ne 23 (by decide)), ih]

set_option maxRecDepth 20000 in
theorem loop_X12_learns_78 (who f li : Int)  (fr : Int) : ∀ (n : Nat) (q : Int) (σ : zG), 0 ≤ q → σ 0 43 ≤ 420 → (σ 0 43 - q).toNat < n → zR SM 2 m_X12_learns 78 [(0, zP 0), (1, .inl who), (2, .inl f), (3, .inl li), (4, .inl fr), (5, .inl q)] [] σ (zEq none (L_X12_learns_78 who f li fr n q σ)) := by
  intro n
  induction n with
  | zero => intro q σ h0 hm hmz; exact absurd hmz (Nat.not_lt_zero _)
  | succ n ih =>
    intro q σ h0 hm hmz
    refine zRx.iload 5 rfl dX12_learns_78 ?_
    refine zRx.aload_n 0 rfl rfl dX12_learns_80 ?_
    refine zRx.getIv (a := 0) (ji := 43) (v := σ 0 43) rfl fl_12_357 rfl rfl rfl dX12_learns_81 ?_
    refine zRx.icmp_ge (tgt := 154) dX12_learns_84 (by decide) (fun c84 => ?_) (fun c84 => ?_)
    · exact zR.ret rfl dX12_learns_154 ⟨rfl, (by rw [L_X12_learns_78, if_pos c84] : L_X12_learns_78 who f li fr (n + 1) q σ = σ).symm⟩
    · refine zRx.aload_n 0 rfl rfl dX12_learns_87 ?_
      refine zRx.getR (a := 0) (b := 17) fl_12_80 rfl rfl dX12_learns_88 ?_
      refine zRx.iload 5 rfl dX12_learns_91 ?_
      refine zRx.ialdv (v := σ 17 q) rfl rfl (by omega) (by omega) dX12_learns_93 ?_
      refine zRx.iload_n 1 rfl rfl dX12_learns_94 ?_
      refine zRx.icmp_ne (tgt := 148) dX12_learns_95 (by decide) (fun c95 => ?_) (fun c95 => ?_)
      · refine zRx.iinc (n := 1) (ls' := [(0, zP 0), (1, .inl who), (2, .inl f), (3, .inl li), (4, .inl fr), (5, .inl (q + 1))]) 5 rfl ⟨by omega, by omega⟩ rfl (by decide) dX12_learns_148 ?_
        refine zRx.goto (tgt := 78) dX12_learns_151 (by decide) ?_
        have he : L_X12_learns_78 who f li fr (n + 1) q σ = L_X12_learns_78 who f li fr n (q + 1) σ := by rw [L_X12_learns_78, if_neg (Int.not_le.mpr c84), if_neg c95]
        rw [he]
        exact ih (q + 1) σ (by omega) (by omega) (by omega)
      · refine zRx.iload 4 rfl dX12_learns_98 ?_
        refine zRx.aload_n 0 rfl rfl dX12_learns_100 ?_
        refine zRx.getR (a := 0) (b := 18) fl_12_83 rfl rfl dX12_learns_101 ?_
        refine zRx.iload 5 rfl dX12_learns_104 ?_
        refine zRx.ialdv (v := σ 18 q) rfl rfl (by omega) (by omega) dX12_learns_106 ?_
        refine zRx.cSi (w := .inl (b2 (hb fr (σ 18 q)))) (M := m_X12_has) (av := [.inl fr, .inl (σ 18 q)]) cs_12_272 mk_X12_has (by decide) rfl (Nat.le_of_ble_eq_true rfl) dX12_learns_107 (does_X12_has fr (σ 18 q) SM σ) ?_
        refine zRx.if_neB (tgt := 116) dX12_learns_110 (by decide) (fun c110 => ?_) (fun c110 => ?_)
        · refine zRx.aload_n 0 rfl rfl dX12_learns_116 ?_
          refine zRx.getR (a := 0) (b := 23) fl_12_98 rfl rfl dX12_learns_117 ?_
          refine zRx.iload 5 rfl dX12_learns_120 ?_
          refine zRx.iconst ⟨by decide, by decide⟩ dX12_learns_122 ?_
          refine zRx.iast rfl (by omega) (by omega) dX12_learns_123 ?_
          refine zRx.aload_n 0 rfl rfl dX12_learns_124 ?_
          refine zRx.getR (a := 0) (b := 20) fl_12_89 rfl rfl dX12_learns_125 ?_
          refine zRx.iload 5 rfl dX12_learns_128 ?_
          refine zRx.aload_n 0 rfl rfl dX12_learns_130 ?_
          refine zRx.getR (a := 0) (b := 20) fl_12_89 rfl rfl dX12_learns_131 ?_
          refine zRx.iload 5 rfl dX12_learns_134 ?_
          refine zRx.ialdv (v := σ 20 q) (zu_ne _ _ _ _ (by decide)) rfl (by omega) (by omega) dX12_learns_136 ?_
          refine zRx.aload_n 0 rfl rfl dX12_learns_137 ?_
          refine zRx.getR (a := 0) (b := 2) fl_12_33 rfl rfl dX12_learns_138 ?_
          refine zRx.bipush ⟨by decide, by decide⟩ rfl dX12_learns_141 ?_
          refine zRx.ialdv (v := σ 2 7) (zu_ne _ _ _ _ (by decide)) rfl (by decide) (by decide) dX12_learns_143 ?_
          refine zRx.cSi (w := .inl (upM (σ 20 q) (σ 2 7))) (M := m_X12_up) (av := [.inl (σ 20 q), .inl (σ 2 7)]) cs_12_369 mk_X12_up (by decide) rfl (Nat.le_of_ble_eq_true rfl) dX12_learns_144 (does_up (zu σ 23 q 1) (σ 20 q) (σ 2 7) SM) ?_
          refine zRx.iast rfl (by omega) (by omega) dX12_learns_147 ?_
          refine zRx.iinc (n := 1) (ls' := [(0, zP 0), (1, .inl who), (2, .inl f), (3, .inl li), (4, .inl fr), (5, .inl (q + 1))]) 5 rfl ⟨by omega, by omega⟩ rfl (by decide) dX12_learns_148 ?_
          refine zRx.goto (tgt := 78) dX12_learns_151 (by decide) ?_
          have he : L_X12_learns_78 who f li fr (n + 1) q σ = L_X12_learns_78 who f li fr n (q + 1) (zu (zu σ 23 q 1) 20 q (upM (σ 20 q) (σ 2 7))) := by rw [L_X12_learns_78, if_neg (Int.not_le.mpr c84), if_pos c95, if_pos c110]
          rw [he]
          exact ih (q + 1) (zu (zu σ 23 q 1) 20 q (upM (σ 20 q) (σ 2 7))) (by omega) (by have e9 : (zu (zu σ 23 q 1) 20 q (upM (σ 20 q) (σ 2 7))) 0 43 = σ 0 43 := ((zu_ne _ _ _ _ (by decide)).trans (zu_ne _ _ _ _ (by decide))); omega) (by have e9 : (zu (zu σ 23 q 1) 20 q (upM (σ 20 q) (σ 2 7))) 0 43 = σ 0 43 := ((zu_ne _ _ _ _ (by decide)).trans (zu_ne _ _ _ _ (by decide))); omega)
        · refine zRx.goto (tgt := 148) dX12_learns_113 (by decide) ?_
          refine zRx.iinc (n := 1) (ls' := [(0, zP 0), (1, .inl who), (2, .inl f), (3, .inl li), (4, .inl fr), (5, .inl (q + 1))]) 5 rfl ⟨by omega, by omega⟩ rfl (by decide) dX12_learns_148 ?_
          refine zRx.goto (tgt := 78) dX12_learns_151 (by decide) ?_
          have he : L_X12_learns_78 who f li fr (n + 1) q σ = L_X12_learns_78 who f li fr n (q + 1) σ := by rw [L_X12_learns_78, if_neg (Int.not_le.mpr c84), if_pos c95, if_neg c110]
          rw [he]
          exact ih (q + 1) σ (by omega) (by omega) (by omega)
def S_X12_learns_39 (who f li : Int) (fr : Int) : Nat → Int → zG → Int × zG
  | 0, q, σ => (q, σ)
  | n + 1, q, σ => if 12 ≤ q then (q, σ) else (if hb fr q then (S_X12_learns_39 who f li fr n (q + 1) (zu σ 12 ((12 * who) + q) li)) else (S_X12_learns_39 who f li fr n (q + 1) σ))
theorem fr_S_X12_learns_39 (who f li : Int) (fr : Int)  (n : Nat) (q : Int) (σ : zG) {k : Nat} (h : k ∉ [12]) : (S_X12_learns_39 who f li fr n q σ).2 k = σ k := by
  induction n generalizing q σ with
  | zero => rfl
  | succ n ih =>
    have ne : ∀ c ∈ [12], k ≠ c := fun c hc e => h (e ▸ hc)
    rw [S_X12_learns_39]
    repeat' split
    all_goals first | rfl | simp only [zu_row _ _ _ (ne 12 (by decide)), ih]

set_option maxRecDepth 20000 in
theorem seg_X12_learns_39 (who f li : Int) (hw : 0 ≤ who ∧ who < 8) (fr : Int) : ∀ (n : Nat) (q : Int) (σ : zG) (X : zX), 0 ≤ q → (12 - q).toNat < n → zRx none 2 m_X12_learns SM 75 [(0, zP 0), (1, .inl who), (2, .inl f), (3, .inl li), (4, .inl fr), (5, .inl ((S_X12_learns_39 who f li fr n q σ).1))] [] ((S_X12_learns_39 who f li fr n q σ).2) X → zRx none 2 m_X12_learns SM 39 [(0, zP 0), (1, .inl who), (2, .inl f), (3, .inl li), (4, .inl fr), (5, .inl q)] [] σ X := by
  intro n
  induction n with
  | zero => intro q σ X h0 hmz; exact absurd hmz (Nat.not_lt_zero _)
  | succ n ih =>
    intro q σ X h0 hmz K
    refine zRx.iload 5 rfl dX12_learns_39 ?_
    refine zRx.bipush ⟨by decide, by decide⟩ rfl dX12_learns_41 ?_
    refine zRx.icmp_ge (tgt := 75) dX12_learns_43 (by decide) (fun c43 => ?_) (fun c43 => ?_)
    · have he : S_X12_learns_39 who f li fr (n + 1) q σ = (q, σ) := by rw [S_X12_learns_39, if_pos c43]
      rw [he] at K
      exact K
    · refine zRx.iload 4 rfl dX12_learns_46 ?_
      refine zRx.iload 5 rfl dX12_learns_48 ?_
      refine zRx.cSi (w := .inl (b2 (hb fr q))) (M := m_X12_has) (av := [.inl fr, .inl q]) cs_12_272 mk_X12_has (by decide) rfl (Nat.le_of_ble_eq_true rfl) dX12_learns_50 (does_X12_has fr q SM σ) ?_
      refine zRx.if_eqB (tgt := 69) dX12_learns_53 (by decide) (fun c53 => ?_) (fun c53 => ?_)
      · refine zRx.iinc (n := 1) (ls' := [(0, zP 0), (1, .inl who), (2, .inl f), (3, .inl li), (4, .inl fr), (5, .inl (q + 1))]) 5 rfl ⟨by omega, by omega⟩ rfl (by decide) dX12_learns_69 ?_
        refine zRx.goto (tgt := 39) dX12_learns_72 (by decide) ?_
        have he : S_X12_learns_39 who f li fr (n + 1) q σ = S_X12_learns_39 who f li fr n (q + 1) σ := by rw [S_X12_learns_39, if_neg (Int.not_le.mpr c43), if_neg c53]
        rw [he] at K
        exact ih (q + 1) σ _ (by omega) (by omega) K
      · refine zRx.aload_n 0 rfl rfl dX12_learns_56 ?_
        refine zRx.getR (a := 0) (b := 12) fl_12_65 rfl rfl dX12_learns_57 ?_
        refine zRx.bipush ⟨by decide, by decide⟩ rfl dX12_learns_60 ?_
        refine zRx.iload_n 1 rfl rfl dX12_learns_62 ?_
        refine zRx.imul ⟨by omega, by omega⟩ dX12_learns_63 ?_
        refine zRx.iload 5 rfl dX12_learns_64 ?_
        refine zRx.iadd ⟨by omega, by omega⟩ dX12_learns_66 ?_
        refine zRx.iload_n 3 rfl rfl dX12_learns_67 ?_
        refine zRx.iast rfl (by omega) (by omega) dX12_learns_68 ?_
        refine zRx.iinc (n := 1) (ls' := [(0, zP 0), (1, .inl who), (2, .inl f), (3, .inl li), (4, .inl fr), (5, .inl (q + 1))]) 5 rfl ⟨by omega, by omega⟩ rfl (by decide) dX12_learns_69 ?_
        refine zRx.goto (tgt := 39) dX12_learns_72 (by decide) ?_
        have he : S_X12_learns_39 who f li fr (n + 1) q σ = S_X12_learns_39 who f li fr n (q + 1) (zu σ 12 ((12 * who) + q) li) := by rw [S_X12_learns_39, if_neg (Int.not_le.mpr c43), if_pos c53]
        rw [he] at K
        exact ih (q + 1) (zu σ 12 ((12 * who) + q) li) _ (by omega) (by omega) K
def R_X12_learns (σ : zG) (who f li : Int) : zG := L_X12_learns_78 who f li (band (R_X12_follows σ (bor (σ 11 who) (bshl 1 f))) (bxor (σ 11 who) (-1))) 500 0 ((S_X12_learns_39 who f li (band (R_X12_follows σ (bor (σ 11 who) (bshl 1 f))) (bxor (σ 11 who) (-1))) 20 0 (zu σ 11 who (bor (σ 11 who) (band (R_X12_follows σ (bor (σ 11 who) (bshl 1 f))) (bxor (σ 11 who) (-1)))))).2)
theorem fr_R_X12_learns (σ : zG) (who f li : Int) {k : Nat} (h : k ∉ [11, 12, 20, 23]) : (R_X12_learns σ who f li) k = σ k := by
  have ne : ∀ c ∈ [11, 12, 20, 23], k ≠ c := fun c hc e => h (e ▸ hc)
  have nk_S_X12_learns_39 : k ∉ [12] := fun hm => h (by revert hm; simp only [List.mem_cons, List.not_mem_nil, or_false]; omega)
  have nl_L_X12_learns_78 : k ∉ [20, 23] := fun hm => h (by revert hm; simp only [List.mem_cons, List.not_mem_nil, or_false]; omega)
  have nl_S_X12_learns_39 : k ∉ [12] := fun hm => h (by revert hm; simp only [List.mem_cons, List.not_mem_nil, or_false]; omega)
  unfold R_X12_learns
  repeat' split
  all_goals first | rfl | simp only [zu_row _ _ _ (ne 11 (by decide)), zu_row _ _ _ (ne 12 (by decide)), zu_row _ _ _ (ne 20 (by decide)), zu_row _ _ _ (ne 23 (by decide)), fr_S_X12_learns_39 (h := nk_S_X12_learns_39), fr_L_X12_learns_78 (h := nl_L_X12_learns_78), fr_S_X12_learns_39 (h := nl_S_X12_learns_39)]

set_option maxRecDepth 20000 in
theorem does_X12_learns (σ : zG) (who f li : Int) (hw : 0 ≤ who ∧ who < 8) (hf : 0 ≤ f ∧ f < 12) (hs : MS (σ 2)) (hk : 0 ≤ σ 11 who ∧ σ 11 who < 4096) (hm : σ 0 43 ≤ 420)  : zDo SM 2 m_X12_learns [zP 0, .inl who, .inl f, .inl li] σ (zEq none (R_X12_learns σ who f li)) := by
  refine zDo.intro mk_X12_learns (Nat.le_of_ble_eq_true rfl) ?_
  refine zRx.aload_n 0 rfl rfl dX12_learns_0 ?_
  refine zRx.aload_n 0 rfl rfl dX12_learns_1 ?_
  refine zRx.getR (a := 0) (b := 11) fl_12_62 rfl rfl dX12_learns_2 ?_
  refine zRx.iload_n 1 rfl rfl dX12_learns_5 ?_
  refine zRx.ialdv (v := σ 11 who) rfl rfl (by omega) (by omega) dX12_learns_6 ?_
  refine zRx.iconst ⟨by decide, by decide⟩ dX12_learns_7 ?_
  refine zRx.iload_n 2 rfl rfl dX12_learns_8 ?_
  refine zRx.ishl dX12_learns_9 ?_
  refine zRx.ior dX12_learns_10 ?_
  refine zRx.cVi (w := .inl (R_X12_follows σ (bor (σ 11 who) (bshl 1 f)))) (M := m_X12_follows) (av := [.inl (bor (σ 11 who) (bshl 1 f))]) cv_12_354 mk_X12_follows (by decide) (b := 0) rfl rfl (Nat.le_of_ble_eq_true rfl) dX12_learns_11 (does_X12_follows σ (bor (σ 11 who) (bshl 1 f)) hs (by have := bor_pow hk hf; omega)) ?_
  refine zRx.aload_n 0 rfl rfl dX12_learns_14 ?_
  refine zRx.getR (a := 0) (b := 11) fl_12_62 rfl rfl dX12_learns_15 ?_
  refine zRx.iload_n 1 rfl rfl dX12_learns_18 ?_
  refine zRx.ialdv (v := σ 11 who) rfl rfl (by omega) (by omega) dX12_learns_19 ?_
  refine zRx.iconst ⟨by decide, by decide⟩ dX12_learns_20 ?_
  refine zRx.ixor dX12_learns_21 ?_
  refine zRx.iand dX12_learns_22 ?_
  refine zRx.istore (ls' := [(0, zP 0), (1, .inl who), (2, .inl f), (3, .inl li), (4, .inl (band (R_X12_follows σ (bor (σ 11 who) (bshl 1 f))) (bxor (σ 11 who) (-1))))]) rfl (by decide) dX12_learns_23 ?_
  refine zRx.aload_n 0 rfl rfl dX12_learns_25 ?_
  refine zRx.getR (a := 0) (b := 11) fl_12_62 rfl rfl dX12_learns_26 ?_
  refine zRx.iload_n 1 rfl rfl dX12_learns_29 ?_
  refine zRx.dup2 rfl rfl dX12_learns_30 ?_
  refine zRx.ialdv (v := σ 11 who) rfl rfl (by omega) (by omega) dX12_learns_31 ?_
  refine zRx.iload 4 rfl dX12_learns_32 ?_
  refine zRx.ior dX12_learns_34 ?_
  refine zRx.iast rfl (by omega) (by omega) dX12_learns_35 ?_
  refine zRx.iconst ⟨by decide, by decide⟩ dX12_learns_36 ?_
  refine zRx.istore (ls' := [(0, zP 0), (1, .inl who), (2, .inl f), (3, .inl li), (4, .inl (band (R_X12_follows σ (bor (σ 11 who) (bshl 1 f))) (bxor (σ 11 who) (-1)))), (5, .inl 0)]) rfl (by decide) dX12_learns_37 ?_
  refine seg_X12_learns_39 who f li hw (band (R_X12_follows σ (bor (σ 11 who) (bshl 1 f))) (bxor (σ 11 who) (-1))) 20 0 (zu σ 11 who (bor (σ 11 who) (band (R_X12_follows σ (bor (σ 11 who) (bshl 1 f))) (bxor (σ 11 who) (-1))))) _ (by omega) (by omega) ?_
  refine zRx.iconst ⟨by decide, by decide⟩ dX12_learns_75 ?_
  refine zRx.istore (ls' := [(0, zP 0), (1, .inl who), (2, .inl f), (3, .inl li), (4, .inl (band (R_X12_follows σ (bor (σ 11 who) (bshl 1 f))) (bxor (σ 11 who) (-1)))), (5, .inl 0)]) rfl (by decide) dX12_learns_76 ?_
  have he : R_X12_learns σ who f li = L_X12_learns_78 who f li (band (R_X12_follows σ (bor (σ 11 who) (bshl 1 f))) (bxor (σ 11 who) (-1))) 500 0 ((S_X12_learns_39 who f li (band (R_X12_follows σ (bor (σ 11 who) (bshl 1 f))) (bxor (σ 11 who) (-1))) 20 0 (zu σ 11 who (bor (σ 11 who) (band (R_X12_follows σ (bor (σ 11 who) (bshl 1 f))) (bxor (σ 11 who) (-1)))))).2) := by rw [R_X12_learns]
  rw [he]
  exact loop_X12_learns_78 who f li  (band (R_X12_follows σ (bor (σ 11 who) (bshl 1 f))) (bxor (σ 11 who) (-1))) 500 0 ((S_X12_learns_39 who f li (band (R_X12_follows σ (bor (σ 11 who) (bshl 1 f))) (bxor (σ 11 who) (-1))) 20 0 (zu σ 11 who (bor (σ 11 who) (band (R_X12_follows σ (bor (σ 11 who) (bshl 1 f))) (bxor (σ 11 who) (-1)))))).2) (by omega) (by have e9 : ((S_X12_learns_39 who f li (band (R_X12_follows σ (bor (σ 11 who) (bshl 1 f))) (bxor (σ 11 who) (-1))) 20 0 (zu σ 11 who (bor (σ 11 who) (band (R_X12_follows σ (bor (σ 11 who) (bshl 1 f))) (bxor (σ 11 who) (-1)))))).2) 0 43 = σ 0 43 := ((congrFun (fr_S_X12_learns_39 who f li (band (R_X12_follows σ (bor (σ 11 who) (bshl 1 f))) (bxor (σ 11 who) (-1))) 20 0 (zu σ 11 who (bor (σ 11 who) (band (R_X12_follows σ (bor (σ 11 who) (bshl 1 f))) (bxor (σ 11 who) (-1))))) (k := 0) (by decide)) _).trans (zu_ne _ _ _ _ (by decide))); omega) (by have e9 : ((S_X12_learns_39 who f li (band (R_X12_follows σ (bor (σ 11 who) (bshl 1 f))) (bxor (σ 11 who) (-1))) 20 0 (zu σ 11 who (bor (σ 11 who) (band (R_X12_follows σ (bor (σ 11 who) (bshl 1 f))) (bxor (σ 11 who) (-1)))))).2) 0 43 = σ 0 43 := ((congrFun (fr_S_X12_learns_39 who f li (band (R_X12_follows σ (bor (σ 11 who) (bshl 1 f))) (bxor (σ 11 who) (-1))) 20 0 (zu σ 11 who (bor (σ 11 who) (band (R_X12_follows σ (bor (σ 11 who) (bshl 1 f))) (bxor (σ 11 who) (-1))))) (k := 0) (by decide)) _).trans (zu_ne _ _ _ _ (by decide))); omega)

def S_X12_tells_11 (who to f li : Int) (wo : Int) : Nat → Int → zG → Int × zG
  | 0, q, σ => (q, σ)
  | n + 1, q, σ => if (σ 0 43) ≤ q then (q, σ) else (if (σ 16 q) = who then (if (σ 20 q) = 0 then (S_X12_tells_11 who to f li wo n (q + 1) σ) else (if (σ 20 q) ≤ wo then (q, zu (zu (zu σ 20 q 0) 22 q li) 25 q (σ 0 44)) else (S_X12_tells_11 who to f li wo n (q + 1) σ))) else (S_X12_tells_11 who to f li wo n (q + 1) σ))
theorem fr_S_X12_tells_11 (who to f li : Int) (wo : Int)  (n : Nat) (q : Int) (σ : zG) {k : Nat} (h : k ∉ [20, 22, 25]) : (S_X12_tells_11 who to f li wo n q σ).2 k = σ k := by
  induction n generalizing q σ with
  | zero => rfl
  | succ n ih =>
    have ne : ∀ c ∈ [20, 22, 25], k ≠ c := fun c hc e => h (e ▸ hc)
    rw [S_X12_tells_11]
    repeat' split
    all_goals first | rfl | simp only [zu_row _ _ _ (ne 20 (by decide)), zu_row _ _ _ (ne 22 (by decide)), zu_row _ _ _ (ne 25 (by decide)), ih]

set_option maxRecDepth 20000 in
theorem seg_X12_tells_11 (who to f li : Int)  (wo : Int) : ∀ (n : Nat) (q : Int) (σ : zG) (X : zX), 0 ≤ q → σ 0 43 ≤ 420 → (σ 0 43 - q).toNat < n → zRx none 3 m_X12_tells SM 93 [(0, zP 0), (1, .inl who), (2, .inl to), (3, .inl f), (4, .inl li), (5, .inl wo), (6, .inl ((S_X12_tells_11 who to f li wo n q σ).1))] [] ((S_X12_tells_11 who to f li wo n q σ).2) X → zRx none 3 m_X12_tells SM 11 [(0, zP 0), (1, .inl who), (2, .inl to), (3, .inl f), (4, .inl li), (5, .inl wo), (6, .inl q)] [] σ X := by
  intro n
  induction n with
  | zero => intro q σ X h0 hm hmz; exact absurd hmz (Nat.not_lt_zero _)
  | succ n ih =>
    intro q σ X h0 hm hmz K
    refine zRx.iload 6 rfl dX12_tells_11 ?_
    refine zRx.aload_n 0 rfl rfl dX12_tells_13 ?_
    refine zRx.getIv (a := 0) (ji := 43) (v := σ 0 43) rfl fl_12_357 rfl rfl rfl dX12_tells_14 ?_
    refine zRx.icmp_ge (tgt := 93) dX12_tells_17 (by decide) (fun c17 => ?_) (fun c17 => ?_)
    · have he : S_X12_tells_11 who to f li wo (n + 1) q σ = (q, σ) := by rw [S_X12_tells_11, if_pos c17]
      rw [he] at K
      exact K
    · refine zRx.aload_n 0 rfl rfl dX12_tells_20 ?_
      refine zRx.getR (a := 0) (b := 16) fl_12_77 rfl rfl dX12_tells_21 ?_
      refine zRx.iload 6 rfl dX12_tells_24 ?_
      refine zRx.ialdv (v := σ 16 q) rfl rfl (by omega) (by omega) dX12_tells_26 ?_
      refine zRx.iload_n 1 rfl rfl dX12_tells_27 ?_
      refine zRx.icmp_ne (tgt := 87) dX12_tells_28 (by decide) (fun c28 => ?_) (fun c28 => ?_)
      · refine zRx.iinc (n := 1) (ls' := [(0, zP 0), (1, .inl who), (2, .inl to), (3, .inl f), (4, .inl li), (5, .inl wo), (6, .inl (q + 1))]) 6 rfl ⟨by omega, by omega⟩ rfl (by decide) dX12_tells_87 ?_
        refine zRx.goto (tgt := 11) dX12_tells_90 (by decide) ?_
        have he : S_X12_tells_11 who to f li wo (n + 1) q σ = S_X12_tells_11 who to f li wo n (q + 1) σ := by rw [S_X12_tells_11, if_neg (Int.not_le.mpr c17), if_neg c28]
        rw [he] at K
        exact ih (q + 1) σ _ (by omega) hm (by omega) K
      · refine zRx.aload_n 0 rfl rfl dX12_tells_31 ?_
        refine zRx.getR (a := 0) (b := 20) fl_12_89 rfl rfl dX12_tells_32 ?_
        refine zRx.iload 6 rfl dX12_tells_35 ?_
        refine zRx.ialdv (v := σ 20 q) rfl rfl (by omega) (by omega) dX12_tells_37 ?_
        refine zRx.if_eq (tgt := 87) dX12_tells_38 (by decide) (fun c38 => ?_) (fun c38 => ?_)
        · refine zRx.iinc (n := 1) (ls' := [(0, zP 0), (1, .inl who), (2, .inl to), (3, .inl f), (4, .inl li), (5, .inl wo), (6, .inl (q + 1))]) 6 rfl ⟨by omega, by omega⟩ rfl (by decide) dX12_tells_87 ?_
          refine zRx.goto (tgt := 11) dX12_tells_90 (by decide) ?_
          have he : S_X12_tells_11 who to f li wo (n + 1) q σ = S_X12_tells_11 who to f li wo n (q + 1) σ := by rw [S_X12_tells_11, if_neg (Int.not_le.mpr c17), if_pos c28, if_pos c38]
          rw [he] at K
          exact ih (q + 1) σ _ (by omega) hm (by omega) K
        · refine zRx.aload_n 0 rfl rfl dX12_tells_41 ?_
          refine zRx.getR (a := 0) (b := 20) fl_12_89 rfl rfl dX12_tells_42 ?_
          refine zRx.iload 6 rfl dX12_tells_45 ?_
          refine zRx.ialdv (v := σ 20 q) rfl rfl (by omega) (by omega) dX12_tells_47 ?_
          refine zRx.iload 5 rfl dX12_tells_48 ?_
          refine zRx.icmp_le (tgt := 56) dX12_tells_50 (by decide) (fun c50 => ?_) (fun c50 => ?_)
          · refine zRx.aload_n 0 rfl rfl dX12_tells_56 ?_
            refine zRx.getR (a := 0) (b := 20) fl_12_89 rfl rfl dX12_tells_57 ?_
            refine zRx.iload 6 rfl dX12_tells_60 ?_
            refine zRx.iconst ⟨by decide, by decide⟩ dX12_tells_62 ?_
            refine zRx.iast rfl (by omega) (by omega) dX12_tells_63 ?_
            refine zRx.aload_n 0 rfl rfl dX12_tells_64 ?_
            refine zRx.getR (a := 0) (b := 22) fl_12_95 rfl rfl dX12_tells_65 ?_
            refine zRx.iload 6 rfl dX12_tells_68 ?_
            refine zRx.iload 4 rfl dX12_tells_70 ?_
            refine zRx.iast rfl (by omega) (by omega) dX12_tells_72 ?_
            refine zRx.aload_n 0 rfl rfl dX12_tells_73 ?_
            refine zRx.getR (a := 0) (b := 25) fl_12_104 rfl rfl dX12_tells_74 ?_
            refine zRx.iload 6 rfl dX12_tells_77 ?_
            refine zRx.aload_n 0 rfl rfl dX12_tells_79 ?_
            refine zRx.getIv (a := 0) (ji := 44) (v := σ 0 44) ((zu_ne _ _ _ _ (by decide)).trans (zu_ne _ _ _ _ (by decide))) fl_12_360 rfl rfl rfl dX12_tells_80 ?_
            refine zRx.iast rfl (by omega) (by omega) dX12_tells_83 ?_
            refine zRx.goto (tgt := 93) dX12_tells_84 (by decide) ?_
            have he : S_X12_tells_11 who to f li wo (n + 1) q σ = (q, zu (zu (zu σ 20 q 0) 22 q li) 25 q (σ 0 44)) := by rw [S_X12_tells_11, if_neg (Int.not_le.mpr c17), if_pos c28, if_neg c38, if_pos c50]
            rw [he] at K
            exact K
          · refine zRx.goto (tgt := 87) dX12_tells_53 (by decide) ?_
            refine zRx.iinc (n := 1) (ls' := [(0, zP 0), (1, .inl who), (2, .inl to), (3, .inl f), (4, .inl li), (5, .inl wo), (6, .inl (q + 1))]) 6 rfl ⟨by omega, by omega⟩ rfl (by decide) dX12_tells_87 ?_
            refine zRx.goto (tgt := 11) dX12_tells_90 (by decide) ?_
            have he : S_X12_tells_11 who to f li wo (n + 1) q σ = S_X12_tells_11 who to f li wo n (q + 1) σ := by rw [S_X12_tells_11, if_neg (Int.not_le.mpr c17), if_pos c28, if_neg c38, if_neg (Int.not_le.mpr c50)]
            rw [he] at K
            exact ih (q + 1) σ _ (by omega) hm (by omega) K
def R_X12_tells (σ : zG) (who to f li : Int) : zG := R_X12_learns (zu (zu ((S_X12_tells_11 who to f li (R_X12_worthOf σ who f) 500 0 σ).2) 13 (σ 2 ((8 + (3 * f)) + 2)) (w32 ((σ 13 (σ 2 ((8 + (3 * f)) + 2))) + (σ 2 ((8 + (3 * f)) + 1))))) 0 45 (bor (σ 0 45) (bshl 1 f))) to f li
theorem fr_R_X12_tells (σ : zG) (who to f li : Int) {k : Nat} (h : k ∉ [0, 11, 12, 13, 20, 22, 23, 25]) : (R_X12_tells σ who to f li) k = σ k := by
  have ne : ∀ c ∈ [0, 11, 12, 13, 20, 22, 23, 25], k ≠ c := fun c hc e => h (e ▸ hc)
  have nk_R_X12_learns : k ∉ [11, 12, 20, 23] := fun hm => h (by revert hm; simp only [List.mem_cons, List.not_mem_nil, or_false]; omega)
  have nk_S_X12_tells_11 : k ∉ [20, 22, 25] := fun hm => h (by revert hm; simp only [List.mem_cons, List.not_mem_nil, or_false]; omega)
  have nl_S_X12_tells_11 : k ∉ [20, 22, 25] := fun hm => h (by revert hm; simp only [List.mem_cons, List.not_mem_nil, or_false]; omega)
  unfold R_X12_tells
  repeat' split
  all_goals first | rfl | simp only [zu_row _ _ _ (ne 0 (by decide)), zu_row _ _ _ (ne 11 (by decide)), zu_row _ _ _ (ne 12 (by decide)), zu_row _ _ _ (ne 13 (by decide)), zu_row _ _ _ (ne 20 (by decide)), zu_row _ _ _ (ne 22 (by decide)), zu_row _ _ _ (ne 23 (by decide)), zu_row _ _ _ (ne 25 (by decide)), fr_R_X12_learns (h := nk_R_X12_learns), fr_S_X12_tells_11 (h := nk_S_X12_tells_11), fr_S_X12_tells_11 (h := nl_S_X12_tells_11)]

set_option maxRecDepth 20000 in
theorem does_X12_tells (σ : zG) (who to f li : Int) (hw : 0 ≤ to ∧ to < 8) (hf : 0 ≤ f ∧ f < 12) (hs : MS (σ 2)) (hk : 0 ≤ σ 11 to ∧ σ 11 to < 4096) (hm : σ 0 43 ≤ 420) (hp : σ 2 0 ≤ 8) (ha : 0 ≤ σ 2 ((8 + (3 * f)) + 2) ∧ σ 2 ((8 + (3 * f)) + 2) < 8)  : zDo SM 3 m_X12_tells [zP 0, .inl who, .inl to, .inl f, .inl li] σ (zEq none (R_X12_tells σ who to f li)) := by
  refine zDo.intro mk_X12_tells (Nat.le_of_ble_eq_true rfl) ?_
  refine zRx.aload_n 0 rfl rfl dX12_tells_0 ?_
  refine zRx.iload_n 1 rfl rfl dX12_tells_1 ?_
  refine zRx.iload_n 3 rfl rfl dX12_tells_2 ?_
  refine zRx.cVi (w := .inl (R_X12_worthOf σ who f)) (M := m_X12_worthOf) (av := [.inl who, .inl f]) cv_12_372 mk_X12_worthOf (by decide) (b := 0) rfl rfl (Nat.le_of_ble_eq_true rfl) dX12_tells_3 (does_X12_worthOf σ who f (by omega) (by omega)) ?_
  refine zRx.istore (ls' := [(0, zP 0), (1, .inl who), (2, .inl to), (3, .inl f), (4, .inl li), (5, .inl (R_X12_worthOf σ who f))]) rfl (by decide) dX12_tells_6 ?_
  refine zRx.iconst ⟨by decide, by decide⟩ dX12_tells_8 ?_
  refine zRx.istore (ls' := [(0, zP 0), (1, .inl who), (2, .inl to), (3, .inl f), (4, .inl li), (5, .inl (R_X12_worthOf σ who f)), (6, .inl 0)]) rfl (by decide) dX12_tells_9 ?_
  refine seg_X12_tells_11 who to f li  (R_X12_worthOf σ who f) 500 0 σ _ (by omega) hm (by omega) ?_
  refine zRx.aload_n 0 rfl rfl dX12_tells_93 ?_
  refine zRx.getR (a := 0) (b := 13) fl_12_68 rfl rfl dX12_tells_94 ?_
  refine zRx.aload_n 0 rfl rfl dX12_tells_97 ?_
  refine zRx.getR (a := 0) (b := 2) fl_12_33 rfl rfl dX12_tells_98 ?_
  refine zRx.bipush ⟨by decide, by decide⟩ rfl dX12_tells_101 ?_
  refine zRx.iconst ⟨by decide, by decide⟩ dX12_tells_103 ?_
  refine zRx.iload_n 3 rfl rfl dX12_tells_104 ?_
  refine zRx.imul ⟨by omega, by omega⟩ dX12_tells_105 ?_
  refine zRx.iadd ⟨by omega, by omega⟩ dX12_tells_106 ?_
  refine zRx.iconst ⟨by decide, by decide⟩ dX12_tells_107 ?_
  refine zRx.iadd ⟨by omega, by omega⟩ dX12_tells_108 ?_
  refine zRx.ialdv (v := σ 2 ((8 + (3 * f)) + 2)) (congrFun (fr_S_X12_tells_11 who to f li (R_X12_worthOf σ who f) 500 0 σ (k := 2) (by decide)) _) rfl (by omega) (by omega) dX12_tells_109 ?_
  refine zRx.dup2 rfl rfl dX12_tells_110 ?_
  refine zRx.ialdv (v := σ 13 (σ 2 ((8 + (3 * f)) + 2))) (congrFun (fr_S_X12_tells_11 who to f li (R_X12_worthOf σ who f) 500 0 σ (k := 13) (by decide)) _) rfl (by omega) (by omega) dX12_tells_111 ?_
  refine zRx.aload_n 0 rfl rfl dX12_tells_112 ?_
  refine zRx.getR (a := 0) (b := 2) fl_12_33 rfl rfl dX12_tells_113 ?_
  refine zRx.bipush ⟨by decide, by decide⟩ rfl dX12_tells_116 ?_
  refine zRx.iconst ⟨by decide, by decide⟩ dX12_tells_118 ?_
  refine zRx.iload_n 3 rfl rfl dX12_tells_119 ?_
  refine zRx.imul ⟨by omega, by omega⟩ dX12_tells_120 ?_
  refine zRx.iadd ⟨by omega, by omega⟩ dX12_tells_121 ?_
  refine zRx.iconst ⟨by decide, by decide⟩ dX12_tells_122 ?_
  refine zRx.iadd ⟨by omega, by omega⟩ dX12_tells_123 ?_
  refine zRx.ialdv (v := σ 2 ((8 + (3 * f)) + 1)) (congrFun (fr_S_X12_tells_11 who to f li (R_X12_worthOf σ who f) 500 0 σ (k := 2) (by decide)) _) rfl (by omega) (by omega) dX12_tells_124 ?_
  refine zRx.iaddW dX12_tells_125 ?_
  refine zRx.iast rfl (by omega) (by omega) dX12_tells_126 ?_
  refine zRx.aload_n 0 rfl rfl dX12_tells_127 ?_
  refine zRx.dup rfl dX12_tells_128 ?_
  refine zRx.getIv (a := 0) (ji := 45) (v := σ 0 45) ((zu_ne _ _ _ _ (by decide)).trans (congrFun (fr_S_X12_tells_11 who to f li (R_X12_worthOf σ who f) 500 0 σ (k := 0) (by decide)) _)) fl_12_363 rfl rfl rfl dX12_tells_129 ?_
  refine zRx.iconst ⟨by decide, by decide⟩ dX12_tells_132 ?_
  refine zRx.iload_n 3 rfl rfl dX12_tells_133 ?_
  refine zRx.ishl dX12_tells_134 ?_
  refine zRx.ior dX12_tells_135 ?_
  refine zRx.putI (a := 0) (ji := 45) pl_12_363 rfl rfl rfl dX12_tells_136 ?_
  refine zRx.aload_n 0 rfl rfl dX12_tells_139 ?_
  refine zRx.iload_n 2 rfl rfl dX12_tells_140 ?_
  refine zRx.iload_n 3 rfl rfl dX12_tells_141 ?_
  refine zRx.iload 4 rfl dX12_tells_142 ?_
  refine zRx.cVv (M := m_X12_learns) (av := [.inl to, .inl f, .inl li]) cv_12_375 mk_X12_learns (by decide) (b := 0) rfl rfl (Nat.le_of_ble_eq_true rfl) dX12_tells_144 (does_X12_learns (zu (zu ((S_X12_tells_11 who to f li (R_X12_worthOf σ who f) 500 0 σ).2) 13 (σ 2 ((8 + (3 * f)) + 2)) (w32 ((σ 13 (σ 2 ((8 + (3 * f)) + 2))) + (σ 2 ((8 + (3 * f)) + 1))))) 0 45 (bor (σ 0 45) (bshl 1 f))) to f li hw hf (by rw [show (zu (zu ((S_X12_tells_11 who to f li (R_X12_worthOf σ who f) 500 0 σ).2) 13 (σ 2 ((8 + (3 * f)) + 2)) (w32 ((σ 13 (σ 2 ((8 + (3 * f)) + 2))) + (σ 2 ((8 + (3 * f)) + 1))))) 0 45 (bor (σ 0 45) (bshl 1 f))) 2 = σ 2 from ((zu_row _ _ _ (by decide)).trans ((zu_row _ _ _ (by decide)).trans (fr_S_X12_tells_11 who to f li (R_X12_worthOf σ who f) 500 0 σ (k := 2) (by decide))))]; exact hs) (by have e9 : (zu (zu ((S_X12_tells_11 who to f li (R_X12_worthOf σ who f) 500 0 σ).2) 13 (σ 2 ((8 + (3 * f)) + 2)) (w32 ((σ 13 (σ 2 ((8 + (3 * f)) + 2))) + (σ 2 ((8 + (3 * f)) + 1))))) 0 45 (bor (σ 0 45) (bshl 1 f))) 11 to = σ 11 to := ((zu_ne _ _ _ _ (by decide)).trans ((zu_ne _ _ _ _ (by decide)).trans (congrFun (fr_S_X12_tells_11 who to f li (R_X12_worthOf σ who f) 500 0 σ (k := 11) (by decide)) _))); omega) (by have e9 : (zu (zu ((S_X12_tells_11 who to f li (R_X12_worthOf σ who f) 500 0 σ).2) 13 (σ 2 ((8 + (3 * f)) + 2)) (w32 ((σ 13 (σ 2 ((8 + (3 * f)) + 2))) + (σ 2 ((8 + (3 * f)) + 1))))) 0 45 (bor (σ 0 45) (bshl 1 f))) 0 43 = σ 0 43 := ((zu_off _ _ _ (by decide)).trans ((zu_ne _ _ _ _ (by decide)).trans (congrFun (fr_S_X12_tells_11 who to f li (R_X12_worthOf σ who f) 500 0 σ (k := 0) (by decide)) _))); omega)) ?_
  exact zR.ret rfl dX12_tells_147 ⟨rfl, (by rw [R_X12_tells] : R_X12_tells σ who to f li = R_X12_learns (zu (zu ((S_X12_tells_11 who to f li (R_X12_worthOf σ who f) 500 0 σ).2) 13 (σ 2 ((8 + (3 * f)) + 2)) (w32 ((σ 13 (σ 2 ((8 + (3 * f)) + 2))) + (σ 2 ((8 + (3 * f)) + 1))))) 0 45 (bor (σ 0 45) (bshl 1 f))) to f li).symm⟩

def MT (s : Int → Int) : Prop := ∀ a : Int, 0 ≤ a → a < 8 → 0 ≤ s (44 + a) ∧ s (44 + a) < 4096
def S_X12_begin_2  : Nat → Int → zG → Int × zG
  | 0, q, σ => (q, σ)
  | n + 1, q, σ => if 8 ≤ q then (q, σ) else (S_X12_begin_2  n (q + 1) (zu (zu (zu σ 11 q (R_X12_follows σ (σ 2 (44 + q)))) 13 q 0) 14 q 0))
theorem fr_S_X12_begin_2   (n : Nat) (q : Int) (σ : zG) {k : Nat} (h : k ∉ [11, 13, 14]) : (S_X12_begin_2  n q σ).2 k = σ k := by
  induction n generalizing q σ with
  | zero => rfl
  | succ n ih =>
    have ne : ∀ c ∈ [11, 13, 14], k ≠ c := fun c hc e => h (e ▸ hc)
    rw [S_X12_begin_2]
    repeat' split
    all_goals first | rfl | simp only [zu_row _ _ _ (ne 11 (by decide)), zu_row _ _ _ (ne 13 (by decide)), zu_row _ _ _ (ne 14 (by decide)), ih]

set_option maxRecDepth 20000 in
theorem seg_X12_begin_2   : ∀ (n : Nat) (q : Int) (σ : zG) (X : zX), 0 ≤ q → MS (σ 2) → MT (σ 2) → (8 - q).toNat < n → zRx none 2 m_X12_begin SM 47 [(0, zP 0), (1, .inl ((S_X12_begin_2  n q σ).1))] [] ((S_X12_begin_2  n q σ).2) X → zRx none 2 m_X12_begin SM 2 [(0, zP 0), (1, .inl q)] [] σ X := by
  intro n
  induction n with
  | zero => intro q σ X h0 hs hT hmz; exact absurd hmz (Nat.not_lt_zero _)
  | succ n ih =>
    intro q σ X h0 hs hT hmz K
    refine zRx.iload_n 1 rfl rfl dX12_begin_2 ?_
    refine zRx.bipush ⟨by decide, by decide⟩ rfl dX12_begin_3 ?_
    refine zRx.icmp_ge (tgt := 47) dX12_begin_5 (by decide) (fun c5 => ?_) (fun c5 => ?_)
    · have he : S_X12_begin_2  (n + 1) q σ = (q, σ) := by rw [S_X12_begin_2, if_pos c5]
      rw [he] at K
      exact K
    · refine zRx.aload_n 0 rfl rfl dX12_begin_8 ?_
      refine zRx.getR (a := 0) (b := 11) fl_12_62 rfl rfl dX12_begin_9 ?_
      refine zRx.iload_n 1 rfl rfl dX12_begin_12 ?_
      refine zRx.aload_n 0 rfl rfl dX12_begin_13 ?_
      refine zRx.aload_n 0 rfl rfl dX12_begin_14 ?_
      refine zRx.getR (a := 0) (b := 2) fl_12_33 rfl rfl dX12_begin_15 ?_
      refine zRx.bipush ⟨by decide, by decide⟩ rfl dX12_begin_18 ?_
      refine zRx.iload_n 1 rfl rfl dX12_begin_20 ?_
      refine zRx.iadd ⟨by omega, by omega⟩ dX12_begin_21 ?_
      refine zRx.ialdv (v := σ 2 (44 + q)) rfl rfl (by omega) (by omega) dX12_begin_22 ?_
      refine zRx.cVi (w := .inl (R_X12_follows σ (σ 2 (44 + q)))) (M := m_X12_follows) (av := [.inl (σ 2 (44 + q))]) cv_12_354 mk_X12_follows (by decide) (b := 0) rfl rfl (Nat.le_of_ble_eq_true rfl) dX12_begin_23 (does_X12_follows σ (σ 2 (44 + q)) hs (hT q h0 (by omega))) ?_
      refine zRx.iast rfl (by omega) (by omega) dX12_begin_26 ?_
      refine zRx.aload_n 0 rfl rfl dX12_begin_27 ?_
      refine zRx.getR (a := 0) (b := 13) fl_12_68 rfl rfl dX12_begin_28 ?_
      refine zRx.iload_n 1 rfl rfl dX12_begin_31 ?_
      refine zRx.iconst ⟨by decide, by decide⟩ dX12_begin_32 ?_
      refine zRx.iast rfl (by omega) (by omega) dX12_begin_33 ?_
      refine zRx.aload_n 0 rfl rfl dX12_begin_34 ?_
      refine zRx.getR (a := 0) (b := 14) fl_12_71 rfl rfl dX12_begin_35 ?_
      refine zRx.iload_n 1 rfl rfl dX12_begin_38 ?_
      refine zRx.iconst ⟨by decide, by decide⟩ dX12_begin_39 ?_
      refine zRx.iast rfl (by omega) (by omega) dX12_begin_40 ?_
      refine zRx.iinc (n := 1) (ls' := [(0, zP 0), (1, .inl (q + 1))]) 1 rfl ⟨by omega, by omega⟩ rfl (by decide) dX12_begin_41 ?_
      refine zRx.goto (tgt := 2) dX12_begin_44 (by decide) ?_
      have he : S_X12_begin_2  (n + 1) q σ = S_X12_begin_2  n (q + 1) (zu (zu (zu σ 11 q (R_X12_follows σ (σ 2 (44 + q)))) 13 q 0) 14 q 0) := by rw [S_X12_begin_2, if_neg (Int.not_le.mpr c5)]
      rw [he] at K
      exact ih (q + 1) (zu (zu (zu σ 11 q (R_X12_follows σ (σ 2 (44 + q)))) 13 q 0) 14 q 0) _ (by omega) (by rw [show (zu (zu (zu σ 11 q (R_X12_follows σ (σ 2 (44 + q)))) 13 q 0) 14 q 0) 2 = σ 2 from ((zu_row _ _ _ (by decide)).trans ((zu_row _ _ _ (by decide)).trans (zu_row _ _ _ (by decide))))]; exact hs) (by rw [show (zu (zu (zu σ 11 q (R_X12_follows σ (σ 2 (44 + q)))) 13 q 0) 14 q 0) 2 = σ 2 from ((zu_row _ _ _ (by decide)).trans ((zu_row _ _ _ (by decide)).trans (zu_row _ _ _ (by decide))))]; exact hT) (by omega) K
def S_X12_begin_49  : Nat → Int → zG → Int × zG
  | 0, q, σ => (q, σ)
  | n + 1, q, σ => if 96 ≤ q then (q, σ) else (S_X12_begin_49  n (q + 1) (zu σ 12 q (-1)))
theorem fr_S_X12_begin_49   (n : Nat) (q : Int) (σ : zG) {k : Nat} (h : k ∉ [12]) : (S_X12_begin_49  n q σ).2 k = σ k := by
  induction n generalizing q σ with
  | zero => rfl
  | succ n ih =>
    have ne : ∀ c ∈ [12], k ≠ c := fun c hc e => h (e ▸ hc)
    rw [S_X12_begin_49]
    repeat' split
    all_goals first | rfl | simp only [zu_row _ _ _ (ne 12 (by decide)), ih]

set_option maxRecDepth 20000 in
theorem seg_X12_begin_49   : ∀ (n : Nat) (q : Int) (σ : zG) (X : zX), 0 ≤ q → (96 - q).toNat < n → zRx none 2 m_X12_begin SM 68 [(0, zP 0), (1, .inl ((S_X12_begin_49  n q σ).1))] [] ((S_X12_begin_49  n q σ).2) X → zRx none 2 m_X12_begin SM 49 [(0, zP 0), (1, .inl q)] [] σ X := by
  intro n
  induction n with
  | zero => intro q σ X h0 hmz; exact absurd hmz (Nat.not_lt_zero _)
  | succ n ih =>
    intro q σ X h0 hmz K
    refine zRx.iload_n 1 rfl rfl dX12_begin_49 ?_
    refine zRx.bipush ⟨by decide, by decide⟩ rfl dX12_begin_50 ?_
    refine zRx.icmp_ge (tgt := 68) dX12_begin_52 (by decide) (fun c52 => ?_) (fun c52 => ?_)
    · have he : S_X12_begin_49  (n + 1) q σ = (q, σ) := by rw [S_X12_begin_49, if_pos c52]
      rw [he] at K
      exact K
    · refine zRx.aload_n 0 rfl rfl dX12_begin_55 ?_
      refine zRx.getR (a := 0) (b := 12) fl_12_65 rfl rfl dX12_begin_56 ?_
      refine zRx.iload_n 1 rfl rfl dX12_begin_59 ?_
      refine zRx.iconst ⟨by decide, by decide⟩ dX12_begin_60 ?_
      refine zRx.iast rfl (by omega) (by omega) dX12_begin_61 ?_
      refine zRx.iinc (n := 1) (ls' := [(0, zP 0), (1, .inl (q + 1))]) 1 rfl ⟨by omega, by omega⟩ rfl (by decide) dX12_begin_62 ?_
      refine zRx.goto (tgt := 49) dX12_begin_65 (by decide) ?_
      have he : S_X12_begin_49  (n + 1) q σ = S_X12_begin_49  n (q + 1) (zu σ 12 q (-1)) := by rw [S_X12_begin_49, if_neg (Int.not_le.mpr c52)]
      rw [he] at K
      exact ih (q + 1) (zu σ 12 q (-1)) _ (by omega) (by omega) K
def R_X12_begin (σ : zG)  : zG := zu (zu (zu (zu ((S_X12_begin_49  100 0 ((S_X12_begin_2  10 0 σ).2)).2) 0 43 0) 0 44 0) 0 45 0) 0 46 0
theorem fr_R_X12_begin (σ : zG)  {k : Nat} (h : k ∉ [0, 11, 12, 13, 14]) : (R_X12_begin σ ) k = σ k := by
  have ne : ∀ c ∈ [0, 11, 12, 13, 14], k ≠ c := fun c hc e => h (e ▸ hc)
  have nk_S_X12_begin_49 : k ∉ [12] := fun hm => h (by revert hm; simp only [List.mem_cons, List.not_mem_nil, or_false]; omega)
  have nk_S_X12_begin_2 : k ∉ [11, 13, 14] := fun hm => h (by revert hm; simp only [List.mem_cons, List.not_mem_nil, or_false]; omega)
  have nl_S_X12_begin_2 : k ∉ [11, 13, 14] := fun hm => h (by revert hm; simp only [List.mem_cons, List.not_mem_nil, or_false]; omega)
  have nl_S_X12_begin_49 : k ∉ [12] := fun hm => h (by revert hm; simp only [List.mem_cons, List.not_mem_nil, or_false]; omega)
  unfold R_X12_begin
  repeat' split
  all_goals first | rfl | simp only [zu_row _ _ _ (ne 0 (by decide)), zu_row _ _ _ (ne 11 (by decide)), zu_row _ _ _ (ne 12 (by decide)), zu_row _ _ _ (ne 13 (by decide)), zu_row _ _ _ (ne 14 (by decide)), fr_S_X12_begin_49 (h := nk_S_X12_begin_49), fr_S_X12_begin_2 (h := nk_S_X12_begin_2), fr_S_X12_begin_2 (h := nl_S_X12_begin_2), fr_S_X12_begin_49 (h := nl_S_X12_begin_49)]

set_option maxRecDepth 20000 in
theorem does_X12_begin (σ : zG)  (hs : MS (σ 2)) (hT : MT (σ 2))  : zDo SM 2 m_X12_begin [zP 0] σ (zEq none (R_X12_begin σ )) := by
  refine zDo.intro mk_X12_begin (Nat.le_of_ble_eq_true rfl) ?_
  refine zRx.iconst ⟨by decide, by decide⟩ dX12_begin_0 ?_
  refine zRx.istore_n (ls' := [(0, zP 0), (1, .inl 0)]) rfl rfl (by decide) dX12_begin_1 ?_
  refine seg_X12_begin_2    10 0 σ _ (by omega) hs hT (by omega) ?_
  refine zRx.iconst ⟨by decide, by decide⟩ dX12_begin_47 ?_
  refine zRx.istore_n (ls' := [(0, zP 0), (1, .inl 0)]) rfl rfl (by decide) dX12_begin_48 ?_
  refine seg_X12_begin_49    100 0 ((S_X12_begin_2  10 0 σ).2) _ (by omega) (by omega) ?_
  refine zRx.aload_n 0 rfl rfl dX12_begin_68 ?_
  refine zRx.iconst ⟨by decide, by decide⟩ dX12_begin_69 ?_
  refine zRx.putI (a := 0) (ji := 43) pl_12_357 rfl rfl rfl dX12_begin_70 ?_
  refine zRx.aload_n 0 rfl rfl dX12_begin_73 ?_
  refine zRx.iconst ⟨by decide, by decide⟩ dX12_begin_74 ?_
  refine zRx.putI (a := 0) (ji := 44) pl_12_360 rfl rfl rfl dX12_begin_75 ?_
  refine zRx.aload_n 0 rfl rfl dX12_begin_78 ?_
  refine zRx.iconst ⟨by decide, by decide⟩ dX12_begin_79 ?_
  refine zRx.putI (a := 0) (ji := 45) pl_12_363 rfl rfl rfl dX12_begin_80 ?_
  refine zRx.aload_n 0 rfl rfl dX12_begin_83 ?_
  refine zRx.iconst ⟨by decide, by decide⟩ dX12_begin_84 ?_
  refine zRx.putI (a := 0) (ji := 46) pl_12_366 rfl rfl rfl dX12_begin_85 ?_
  exact zR.ret rfl dX12_begin_88 ⟨rfl, (by rw [R_X12_begin] : R_X12_begin σ  = zu (zu (zu (zu ((S_X12_begin_49  100 0 ((S_X12_begin_2  10 0 σ).2)).2) 0 43 0) 0 44 0) 0 45 0) 0 46 0).symm⟩

def L_X12_owedAll_4 (σ : zG)  : Nat → Int → Int → Int
  | 0, _, _ => 0
  | n + 1, sm, q => if (σ 0 43) ≤ q then sm else (L_X12_owedAll_4 σ  n (w32 (sm + (σ 20 q))) (q + 1))
set_option maxRecDepth 20000 in
theorem loop_X12_owedAll_4 (σ : zG)  (hm : σ 0 43 ≤ 420) : ∀ (n : Nat) (sm q : Int) , 0 ≤ q → (σ 0 43 - q).toNat < n → zR SM 0 m_X12_owedAll 4 [(0, zP 0), (1, .inl sm), (2, .inl q)] [] σ (zEq (some (.inl (L_X12_owedAll_4 σ  n sm q))) σ) := by
  intro n
  induction n with
  | zero => intro sm q  h0 hmz; exact absurd hmz (Nat.not_lt_zero _)
  | succ n ih =>
    intro sm q  h0 hmz
    refine zRx.iload_n 2 rfl rfl dX12_owedAll_4 ?_
    refine zRx.aload_n 0 rfl rfl dX12_owedAll_5 ?_
    refine zRx.getIv (a := 0) (ji := 43) (v := σ 0 43) rfl fl_12_357 rfl rfl rfl dX12_owedAll_6 ?_
    refine zRx.icmp_ge (tgt := 27) dX12_owedAll_9 (by decide) (fun c9 => ?_) (fun c9 => ?_)
    · refine zRx.iload_n 1 rfl rfl dX12_owedAll_27 ?_
      exact zR.iret rfl dX12_owedAll_28 (by have he : L_X12_owedAll_4 σ  (n + 1) sm q = sm := (by rw [L_X12_owedAll_4, if_pos c9]); rw [he]; exact ⟨rfl, rfl⟩)
    · refine zRx.iload_n 1 rfl rfl dX12_owedAll_12 ?_
      refine zRx.aload_n 0 rfl rfl dX12_owedAll_13 ?_
      refine zRx.getR (a := 0) (b := 20) fl_12_89 rfl rfl dX12_owedAll_14 ?_
      refine zRx.iload_n 2 rfl rfl dX12_owedAll_17 ?_
      refine zRx.ialdv (v := σ 20 q) rfl rfl (by omega) (by omega) dX12_owedAll_18 ?_
      refine zRx.iaddW dX12_owedAll_19 ?_
      refine zRx.istore_n (ls' := [(0, zP 0), (1, .inl (w32 (sm + (σ 20 q)))), (2, .inl q)]) rfl rfl (by decide) dX12_owedAll_20 ?_
      refine zRx.iinc (n := 1) (ls' := [(0, zP 0), (1, .inl (w32 (sm + (σ 20 q)))), (2, .inl (q + 1))]) 2 rfl ⟨by omega, by omega⟩ rfl (by decide) dX12_owedAll_21 ?_
      refine zRx.goto (tgt := 4) dX12_owedAll_24 (by decide) ?_
      have he : L_X12_owedAll_4 σ  (n + 1) sm q = L_X12_owedAll_4 σ  n (w32 (sm + (σ 20 q))) (q + 1) := by rw [L_X12_owedAll_4, if_neg (Int.not_le.mpr c9)]
      rw [he]
      exact ih (w32 (sm + (σ 20 q))) (q + 1)  (by omega) (by omega)
def R_X12_owedAll (σ : zG)  : Int := L_X12_owedAll_4 σ  500 0 0
set_option maxRecDepth 20000 in
theorem does_X12_owedAll (σ : zG)  (hm : σ 0 43 ≤ 420)  : zDo SM 0 m_X12_owedAll [zP 0] σ (zEq (some (.inl (R_X12_owedAll σ ))) σ) := by
  refine zDo.intro mk_X12_owedAll (Nat.le_of_ble_eq_true rfl) ?_
  refine zRx.iconst ⟨by decide, by decide⟩ dX12_owedAll_0 ?_
  refine zRx.istore_n (ls' := [(0, zP 0), (1, .inl 0)]) rfl rfl (by decide) dX12_owedAll_1 ?_
  refine zRx.iconst ⟨by decide, by decide⟩ dX12_owedAll_2 ?_
  refine zRx.istore_n (ls' := [(0, zP 0), (1, .inl 0), (2, .inl 0)]) rfl rfl (by decide) dX12_owedAll_3 ?_
  have he : R_X12_owedAll σ  = L_X12_owedAll_4 σ  500 0 0 := by rw [R_X12_owedAll]
  rw [he]
  exact loop_X12_owedAll_4 σ  hm  500 0 0  (by omega) (by omega)

def V_X12_isLate (σ : zG) (d : Int) : Int := if (σ 20 d) = 0 then (if (w32 ((σ 25 d) - (σ 24 d))) ≤ (σ 2 3) then 0 else 1) else (if (w32 ((σ 0 44) - (σ 24 d))) ≤ (σ 2 3) then 0 else 1)
set_option maxRecDepth 20000 in
theorem does_X12_isLate (σ : zG) (d : Int) (hd : 0 ≤ d ∧ d < 420) : zDo SM 0 m_X12_isLate [zP 0, .inl d] σ (zEq (some (.inl (V_X12_isLate σ d))) σ) := by
  refine zDo.intro mk_X12_isLate (Nat.le_of_ble_eq_true rfl) ?_
  refine zRx.aload_n 0 rfl rfl dX12_isLate_0 ?_
  refine zRx.getR (a := 0) (b := 20) fl_12_89 rfl rfl dX12_isLate_1 ?_
  refine zRx.iload_n 1 rfl rfl dX12_isLate_4 ?_
  refine zRx.ialdv (v := σ 20 d) rfl rfl (by omega) (by omega) dX12_isLate_5 ?_
  refine zRx.if_ne (tgt := 18) dX12_isLate_6 (by decide) (fun c6 => ?_) (fun c6 => ?_)
  · refine zRx.aload_n 0 rfl rfl dX12_isLate_18 ?_
    refine zRx.getIv (a := 0) (ji := 44) (v := σ 0 44) rfl fl_12_360 rfl rfl rfl dX12_isLate_19 ?_
    refine zRx.aload_n 0 rfl rfl dX12_isLate_22 ?_
    refine zRx.getR (a := 0) (b := 24) fl_12_101 rfl rfl dX12_isLate_23 ?_
    refine zRx.iload_n 1 rfl rfl dX12_isLate_26 ?_
    refine zRx.ialdv (v := σ 24 d) rfl rfl (by omega) (by omega) dX12_isLate_27 ?_
    refine zRx.isubW dX12_isLate_28 ?_
    refine zRx.aload_n 0 rfl rfl dX12_isLate_29 ?_
    refine zRx.getR (a := 0) (b := 2) fl_12_33 rfl rfl dX12_isLate_30 ?_
    refine zRx.iconst ⟨by decide, by decide⟩ dX12_isLate_33 ?_
    refine zRx.ialdv (v := σ 2 3) rfl rfl (by decide) (by decide) dX12_isLate_34 ?_
    refine zRx.icmp_le (tgt := 42) dX12_isLate_35 (by decide) (fun c35 => ?_) (fun c35 => ?_)
    · refine zRx.iconst ⟨by decide, by decide⟩ dX12_isLate_42 ?_
      exact zR.zret rfl ⟨by decide, by decide⟩ dX12_isLate_43 ⟨by unfold V_X12_isLate; rw [if_neg c6, if_pos c35], rfl⟩
    · refine zRx.iconst ⟨by decide, by decide⟩ dX12_isLate_38 ?_
      refine zRx.goto (tgt := 43) dX12_isLate_39 (by decide) ?_
      exact zR.zret rfl ⟨by decide, by decide⟩ dX12_isLate_43 ⟨by unfold V_X12_isLate; rw [if_neg c6, if_neg (Int.not_le.mpr c35)], rfl⟩
  · refine zRx.aload_n 0 rfl rfl dX12_isLate_9 ?_
    refine zRx.getR (a := 0) (b := 25) fl_12_104 rfl rfl dX12_isLate_10 ?_
    refine zRx.iload_n 1 rfl rfl dX12_isLate_13 ?_
    refine zRx.ialdv (v := σ 25 d) rfl rfl (by omega) (by omega) dX12_isLate_14 ?_
    refine zRx.goto (tgt := 22) dX12_isLate_15 (by decide) ?_
    refine zRx.aload_n 0 rfl rfl dX12_isLate_22 ?_
    refine zRx.getR (a := 0) (b := 24) fl_12_101 rfl rfl dX12_isLate_23 ?_
    refine zRx.iload_n 1 rfl rfl dX12_isLate_26 ?_
    refine zRx.ialdv (v := σ 24 d) rfl rfl (by omega) (by omega) dX12_isLate_27 ?_
    refine zRx.isubW dX12_isLate_28 ?_
    refine zRx.aload_n 0 rfl rfl dX12_isLate_29 ?_
    refine zRx.getR (a := 0) (b := 2) fl_12_33 rfl rfl dX12_isLate_30 ?_
    refine zRx.iconst ⟨by decide, by decide⟩ dX12_isLate_33 ?_
    refine zRx.ialdv (v := σ 2 3) rfl rfl (by decide) (by decide) dX12_isLate_34 ?_
    refine zRx.icmp_le (tgt := 42) dX12_isLate_35 (by decide) (fun c35 => ?_) (fun c35 => ?_)
    · refine zRx.iconst ⟨by decide, by decide⟩ dX12_isLate_42 ?_
      exact zR.zret rfl ⟨by decide, by decide⟩ dX12_isLate_43 ⟨by unfold V_X12_isLate; rw [if_pos c6, if_pos c35], rfl⟩
    · refine zRx.iconst ⟨by decide, by decide⟩ dX12_isLate_38 ?_
      refine zRx.goto (tgt := 43) dX12_isLate_39 (by decide) ?_
      exact zR.zret rfl ⟨by decide, by decide⟩ dX12_isLate_43 ⟨by unfold V_X12_isLate; rw [if_pos c6, if_neg (Int.not_le.mpr c35)], rfl⟩

