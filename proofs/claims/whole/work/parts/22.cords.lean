/-! tape and cords, on both sides -/
theorem put_len (σ : zG) (v : Int) : F_X7_put σ v 1 1 = σ 1 1 + 4 := by
  unfold F_X7_put
  rw [zu_at]
  omega
theorem fr_F_X7_put (σ : zG) (v : Int) {k : Nat} (h : k ∉ [1, 2]) : F_X7_put σ v k = σ k := by
  have h1 : k ≠ 1 := fun e => h (by simp [e])
  have h2 : k ≠ 2 := fun e => h (by simp [e])
  unfold F_X7_put
  simp only [zu_row _ _ _ h1, zu_row _ _ _ h2]
theorem four_len (σ : zG) (v : Int) : F_X12_four σ v 0 2 = σ 0 2 + 4 := by
  unfold F_X12_four
  rw [zu_at]
  omega
theorem fr_F_X12_four (σ : zG) (v : Int) {k : Nat} (h : k ∉ [0, 1]) : F_X12_four σ v k = σ k := by
  have h1 : k ≠ 0 := fun e => h (by simp [e])
  have h2 : k ≠ 1 := fun e => h (by simp [e])
  unfold F_X12_four
  simp only [zu_row _ _ _ h1, zu_row _ _ _ h2]
theorem fr_F_X12_draw (σ : zG) (n : Int) {k : Nat} (h : k ∉ [0]) : F_X12_draw σ n k = σ k := by
  unfold F_X12_draw
  exact zu_row _ _ _ (by simpa using h)

def V_X11_feed (σ : zG) (a b c d e : Int) : Int := if ((σ 1 1) + 20) ≤ 940 then ((((((σ 1 1) + 4) + 4) + 4) + 4) + 4) else (-1)
def F_X11_feed (σ : zG) (a b c d e : Int) : zG := if ((σ 1 1) + 20) ≤ 940 then (F_X7_put (F_X7_put (F_X7_put (F_X7_put (F_X7_put σ a) b) c) d) e) else σ
theorem fr_F_X11_feed (σ : zG) (a b c d e : Int) {k : Nat} (h : k ∉ [1, 2]) : (F_X11_feed σ a b c d e) k = σ k := by
  have ne : ∀ c ∈ [1, 2], k ≠ c := fun c hc e => h (e ▸ hc)
  have nk_F_X7_put : k ∉ [1, 2] := fun hm => h (by revert hm; simp only [List.mem_cons, List.not_mem_nil, or_false]; omega)
  unfold F_X11_feed
  repeat' split
  all_goals first | rfl | simp only [zu_row _ _ _ (ne 1 (by decide)), zu_row _ _ _ (ne 2 (by decide)), fr_F_X7_put (h := nk_F_X7_put)]

set_option maxRecDepth 20000 in
theorem does_X11_feed (σ : zG) (a b c d e : Int) (h0 : 0 ≤ σ 1 1 ∧ σ 1 1 ≤ 940) : zDo SC 1 m_X11_feed [zP 0, .inl a, .inl b, .inl c, .inl d, .inl e] σ (zEq (some (.inl (V_X11_feed σ a b c d e))) (F_X11_feed σ a b c d e)) := by
  refine zDo.intro mk_X11_feed (Nat.le_of_ble_eq_true rfl) ?_
  refine zRx.aload_n 0 rfl rfl dX11_feed_0 ?_
  refine zRx.getR (a := 0) (b := 1) fl_11_12 rfl rfl dX11_feed_1 ?_
  refine zRx.getIv (a := 1) (ji := 1) (v := σ 1 1) rfl fl_11_110 rfl rfl rfl dX11_feed_4 ?_
  refine zRx.bipush ⟨by decide, by decide⟩ rfl dX11_feed_7 ?_
  refine zRx.iadd ⟨by omega, by omega⟩ dX11_feed_9 ?_
  refine zRx.sipush ⟨by decide, by decide⟩ rfl dX11_feed_10 ?_
  refine zRx.icmp_le (tgt := 18) dX11_feed_13 (by decide) (fun c13 => ?_) (fun c13 => ?_)
  · refine zRx.aload_n 0 rfl rfl dX11_feed_18 ?_
    refine zRx.getR (a := 0) (b := 1) fl_11_12 rfl rfl dX11_feed_19 ?_
    refine zRx.iload_n 1 rfl rfl dX11_feed_22 ?_
    refine zRx.cVv (M := m_X7_put) (av := [.inl a]) cv_11_113 mk_X7_put (by decide) (b := 1) rfl rfl (Nat.le_of_ble_eq_true rfl) dX11_feed_23 (does_X7_put σ a (by omega) (by omega)) ?_
    refine zRx.aload_n 0 rfl rfl dX11_feed_26 ?_
    refine zRx.getR (a := 0) (b := 1) fl_11_12 rfl rfl dX11_feed_27 ?_
    refine zRx.iload_n 2 rfl rfl dX11_feed_30 ?_
    refine zRx.cVv (M := m_X7_put) (av := [.inl b]) cv_11_113 mk_X7_put (by decide) (b := 1) rfl rfl (Nat.le_of_ble_eq_true rfl) dX11_feed_31 (does_X7_put (F_X7_put σ a) b (by have e9 : (F_X7_put σ a) 1 1 = (σ 1 1) + 4 := (put_len σ a); omega) (by have e9 : (F_X7_put σ a) 1 1 = (σ 1 1) + 4 := (put_len σ a); omega)) ?_
    refine zRx.aload_n 0 rfl rfl dX11_feed_34 ?_
    refine zRx.getR (a := 0) (b := 1) fl_11_12 rfl rfl dX11_feed_35 ?_
    refine zRx.iload_n 3 rfl rfl dX11_feed_38 ?_
    refine zRx.cVv (M := m_X7_put) (av := [.inl c]) cv_11_113 mk_X7_put (by decide) (b := 1) rfl rfl (Nat.le_of_ble_eq_true rfl) dX11_feed_39 (does_X7_put (F_X7_put (F_X7_put σ a) b) c (by have e9 : (F_X7_put (F_X7_put σ a) b) 1 1 = ((σ 1 1) + 4) + 4 := ((put_len (F_X7_put σ a) b).trans (congrArg (· + 4) (put_len σ a))); omega) (by have e9 : (F_X7_put (F_X7_put σ a) b) 1 1 = ((σ 1 1) + 4) + 4 := ((put_len (F_X7_put σ a) b).trans (congrArg (· + 4) (put_len σ a))); omega)) ?_
    refine zRx.aload_n 0 rfl rfl dX11_feed_42 ?_
    refine zRx.getR (a := 0) (b := 1) fl_11_12 rfl rfl dX11_feed_43 ?_
    refine zRx.iload 4 rfl dX11_feed_46 ?_
    refine zRx.cVv (M := m_X7_put) (av := [.inl d]) cv_11_113 mk_X7_put (by decide) (b := 1) rfl rfl (Nat.le_of_ble_eq_true rfl) dX11_feed_48 (does_X7_put (F_X7_put (F_X7_put (F_X7_put σ a) b) c) d (by have e9 : (F_X7_put (F_X7_put (F_X7_put σ a) b) c) 1 1 = (((σ 1 1) + 4) + 4) + 4 := ((put_len (F_X7_put (F_X7_put σ a) b) c).trans (congrArg (· + 4) ((put_len (F_X7_put σ a) b).trans (congrArg (· + 4) (put_len σ a))))); omega) (by have e9 : (F_X7_put (F_X7_put (F_X7_put σ a) b) c) 1 1 = (((σ 1 1) + 4) + 4) + 4 := ((put_len (F_X7_put (F_X7_put σ a) b) c).trans (congrArg (· + 4) ((put_len (F_X7_put σ a) b).trans (congrArg (· + 4) (put_len σ a))))); omega)) ?_
    refine zRx.aload_n 0 rfl rfl dX11_feed_51 ?_
    refine zRx.getR (a := 0) (b := 1) fl_11_12 rfl rfl dX11_feed_52 ?_
    refine zRx.iload 5 rfl dX11_feed_55 ?_
    refine zRx.cVv (M := m_X7_put) (av := [.inl e]) cv_11_113 mk_X7_put (by decide) (b := 1) rfl rfl (Nat.le_of_ble_eq_true rfl) dX11_feed_57 (does_X7_put (F_X7_put (F_X7_put (F_X7_put (F_X7_put σ a) b) c) d) e (by have e9 : (F_X7_put (F_X7_put (F_X7_put (F_X7_put σ a) b) c) d) 1 1 = ((((σ 1 1) + 4) + 4) + 4) + 4 := ((put_len (F_X7_put (F_X7_put (F_X7_put σ a) b) c) d).trans (congrArg (· + 4) ((put_len (F_X7_put (F_X7_put σ a) b) c).trans (congrArg (· + 4) ((put_len (F_X7_put σ a) b).trans (congrArg (· + 4) (put_len σ a))))))); omega) (by have e9 : (F_X7_put (F_X7_put (F_X7_put (F_X7_put σ a) b) c) d) 1 1 = ((((σ 1 1) + 4) + 4) + 4) + 4 := ((put_len (F_X7_put (F_X7_put (F_X7_put σ a) b) c) d).trans (congrArg (· + 4) ((put_len (F_X7_put (F_X7_put σ a) b) c).trans (congrArg (· + 4) ((put_len (F_X7_put σ a) b).trans (congrArg (· + 4) (put_len σ a))))))); omega)) ?_
    refine zRx.aload_n 0 rfl rfl dX11_feed_60 ?_
    refine zRx.getR (a := 0) (b := 1) fl_11_12 rfl rfl dX11_feed_61 ?_
    refine zRx.getIv (a := 1) (ji := 1) (v := (((((σ 1 1) + 4) + 4) + 4) + 4) + 4) ((put_len (F_X7_put (F_X7_put (F_X7_put (F_X7_put σ a) b) c) d) e).trans (congrArg (· + 4) ((put_len (F_X7_put (F_X7_put (F_X7_put σ a) b) c) d).trans (congrArg (· + 4) ((put_len (F_X7_put (F_X7_put σ a) b) c).trans (congrArg (· + 4) ((put_len (F_X7_put σ a) b).trans (congrArg (· + 4) (put_len σ a))))))))) fl_11_110 rfl rfl rfl dX11_feed_64 ?_
    exact zR.iret rfl dX11_feed_67 ⟨by unfold V_X11_feed; rw [if_pos c13], by unfold F_X11_feed; rw [if_pos c13]⟩
  · refine zRx.iconst ⟨by decide, by decide⟩ dX11_feed_16 ?_
    exact zR.iret rfl dX11_feed_17 ⟨by unfold V_X11_feed; rw [if_neg (Int.not_le.mpr c13)], by unfold F_X11_feed; rw [if_neg (Int.not_le.mpr c13)]⟩

def V_X12_feed (σ : zG) (a b c d e : Int) : Int := if ((σ 0 2) + 20) ≤ 940 then ((((((σ 0 2) + 4) + 4) + 4) + 4) + 4) else (-1)
def F_X12_feed (σ : zG) (a b c d e : Int) : zG := if ((σ 0 2) + 20) ≤ 940 then (F_X12_four (F_X12_four (F_X12_four (F_X12_four (F_X12_four (zu σ 0 0 0) a) b) c) d) e) else (zu σ 0 0 0)
theorem fr_F_X12_feed (σ : zG) (a b c d e : Int) {k : Nat} (h : k ∉ [0, 1]) : (F_X12_feed σ a b c d e) k = σ k := by
  have ne : ∀ c ∈ [0, 1], k ≠ c := fun c hc e => h (e ▸ hc)
  have nk_F_X12_four : k ∉ [0, 1] := fun hm => h (by revert hm; simp only [List.mem_cons, List.not_mem_nil, or_false]; omega)
  unfold F_X12_feed
  repeat' split
  all_goals first | rfl | simp only [zu_row _ _ _ (ne 0 (by decide)), zu_row _ _ _ (ne 1 (by decide)), fr_F_X12_four (h := nk_F_X12_four)]

set_option maxRecDepth 20000 in
theorem does_X12_feed (σ : zG) (a b c d e : Int) (h0 : 0 ≤ σ 0 2 ∧ σ 0 2 ≤ 940) : zDo SM 1 m_X12_feed [zP 0, .inl a, .inl b, .inl c, .inl d, .inl e] σ (zEq (some (.inl (V_X12_feed σ a b c d e))) (F_X12_feed σ a b c d e)) := by
  refine zDo.intro mk_X12_feed (Nat.le_of_ble_eq_true rfl) ?_
  refine zRx.aload_n 0 rfl rfl dX12_feed_0 ?_
  refine zRx.iconst ⟨by decide, by decide⟩ dX12_feed_1 ?_
  refine zRx.putI (a := 0) (ji := 0) pl_12_1 rfl rfl rfl dX12_feed_2 ?_
  refine zRx.aload_n 0 rfl rfl dX12_feed_5 ?_
  refine zRx.getIv (a := 0) (ji := 2) (v := σ 0 2) (zu_off _ _ _ (by decide)) fl_12_7 rfl rfl rfl dX12_feed_6 ?_
  refine zRx.bipush ⟨by decide, by decide⟩ rfl dX12_feed_9 ?_
  refine zRx.iadd ⟨by omega, by omega⟩ dX12_feed_11 ?_
  refine zRx.sipush ⟨by decide, by decide⟩ rfl dX12_feed_12 ?_
  refine zRx.icmp_le (tgt := 20) dX12_feed_15 (by decide) (fun c15 => ?_) (fun c15 => ?_)
  · refine zRx.aload_n 0 rfl rfl dX12_feed_20 ?_
    refine zRx.iload_n 1 rfl rfl dX12_feed_21 ?_
    refine zRx.cVv (M := m_X12_four) (av := [.inl a]) cv_12_10 mk_X12_four (by decide) (b := 0) rfl rfl (Nat.le_of_ble_eq_true rfl) dX12_feed_22 (does_X12_four (zu σ 0 0 0) a (by have e9 : (zu σ 0 0 0) 0 2 = σ 0 2 := (zu_off _ _ _ (by decide)); omega) (by have e9 : (zu σ 0 0 0) 0 2 = σ 0 2 := (zu_off _ _ _ (by decide)); omega)) ?_
    refine zRx.aload_n 0 rfl rfl dX12_feed_25 ?_
    refine zRx.iload_n 2 rfl rfl dX12_feed_26 ?_
    refine zRx.cVv (M := m_X12_four) (av := [.inl b]) cv_12_10 mk_X12_four (by decide) (b := 0) rfl rfl (Nat.le_of_ble_eq_true rfl) dX12_feed_27 (does_X12_four (F_X12_four (zu σ 0 0 0) a) b (by have e9 : (F_X12_four (zu σ 0 0 0) a) 0 2 = (σ 0 2) + 4 := ((four_len (zu σ 0 0 0) a).trans (congrArg (· + 4) (zu_off _ _ _ (by decide)))); omega) (by have e9 : (F_X12_four (zu σ 0 0 0) a) 0 2 = (σ 0 2) + 4 := ((four_len (zu σ 0 0 0) a).trans (congrArg (· + 4) (zu_off _ _ _ (by decide)))); omega)) ?_
    refine zRx.aload_n 0 rfl rfl dX12_feed_30 ?_
    refine zRx.iload_n 3 rfl rfl dX12_feed_31 ?_
    refine zRx.cVv (M := m_X12_four) (av := [.inl c]) cv_12_10 mk_X12_four (by decide) (b := 0) rfl rfl (Nat.le_of_ble_eq_true rfl) dX12_feed_32 (does_X12_four (F_X12_four (F_X12_four (zu σ 0 0 0) a) b) c (by have e9 : (F_X12_four (F_X12_four (zu σ 0 0 0) a) b) 0 2 = ((σ 0 2) + 4) + 4 := ((four_len (F_X12_four (zu σ 0 0 0) a) b).trans (congrArg (· + 4) ((four_len (zu σ 0 0 0) a).trans (congrArg (· + 4) (zu_off _ _ _ (by decide)))))); omega) (by have e9 : (F_X12_four (F_X12_four (zu σ 0 0 0) a) b) 0 2 = ((σ 0 2) + 4) + 4 := ((four_len (F_X12_four (zu σ 0 0 0) a) b).trans (congrArg (· + 4) ((four_len (zu σ 0 0 0) a).trans (congrArg (· + 4) (zu_off _ _ _ (by decide)))))); omega)) ?_
    refine zRx.aload_n 0 rfl rfl dX12_feed_35 ?_
    refine zRx.iload 4 rfl dX12_feed_36 ?_
    refine zRx.cVv (M := m_X12_four) (av := [.inl d]) cv_12_10 mk_X12_four (by decide) (b := 0) rfl rfl (Nat.le_of_ble_eq_true rfl) dX12_feed_38 (does_X12_four (F_X12_four (F_X12_four (F_X12_four (zu σ 0 0 0) a) b) c) d (by have e9 : (F_X12_four (F_X12_four (F_X12_four (zu σ 0 0 0) a) b) c) 0 2 = (((σ 0 2) + 4) + 4) + 4 := ((four_len (F_X12_four (F_X12_four (zu σ 0 0 0) a) b) c).trans (congrArg (· + 4) ((four_len (F_X12_four (zu σ 0 0 0) a) b).trans (congrArg (· + 4) ((four_len (zu σ 0 0 0) a).trans (congrArg (· + 4) (zu_off _ _ _ (by decide)))))))); omega) (by have e9 : (F_X12_four (F_X12_four (F_X12_four (zu σ 0 0 0) a) b) c) 0 2 = (((σ 0 2) + 4) + 4) + 4 := ((four_len (F_X12_four (F_X12_four (zu σ 0 0 0) a) b) c).trans (congrArg (· + 4) ((four_len (F_X12_four (zu σ 0 0 0) a) b).trans (congrArg (· + 4) ((four_len (zu σ 0 0 0) a).trans (congrArg (· + 4) (zu_off _ _ _ (by decide)))))))); omega)) ?_
    refine zRx.aload_n 0 rfl rfl dX12_feed_41 ?_
    refine zRx.iload 5 rfl dX12_feed_42 ?_
    refine zRx.cVv (M := m_X12_four) (av := [.inl e]) cv_12_10 mk_X12_four (by decide) (b := 0) rfl rfl (Nat.le_of_ble_eq_true rfl) dX12_feed_44 (does_X12_four (F_X12_four (F_X12_four (F_X12_four (F_X12_four (zu σ 0 0 0) a) b) c) d) e (by have e9 : (F_X12_four (F_X12_four (F_X12_four (F_X12_four (zu σ 0 0 0) a) b) c) d) 0 2 = ((((σ 0 2) + 4) + 4) + 4) + 4 := ((four_len (F_X12_four (F_X12_four (F_X12_four (zu σ 0 0 0) a) b) c) d).trans (congrArg (· + 4) ((four_len (F_X12_four (F_X12_four (zu σ 0 0 0) a) b) c).trans (congrArg (· + 4) ((four_len (F_X12_four (zu σ 0 0 0) a) b).trans (congrArg (· + 4) ((four_len (zu σ 0 0 0) a).trans (congrArg (· + 4) (zu_off _ _ _ (by decide)))))))))); omega) (by have e9 : (F_X12_four (F_X12_four (F_X12_four (F_X12_four (zu σ 0 0 0) a) b) c) d) 0 2 = ((((σ 0 2) + 4) + 4) + 4) + 4 := ((four_len (F_X12_four (F_X12_four (F_X12_four (zu σ 0 0 0) a) b) c) d).trans (congrArg (· + 4) ((four_len (F_X12_four (F_X12_four (zu σ 0 0 0) a) b) c).trans (congrArg (· + 4) ((four_len (F_X12_four (zu σ 0 0 0) a) b).trans (congrArg (· + 4) ((four_len (zu σ 0 0 0) a).trans (congrArg (· + 4) (zu_off _ _ _ (by decide)))))))))); omega)) ?_
    refine zRx.aload_n 0 rfl rfl dX12_feed_47 ?_
    refine zRx.getIv (a := 0) (ji := 2) (v := (((((σ 0 2) + 4) + 4) + 4) + 4) + 4) ((four_len (F_X12_four (F_X12_four (F_X12_four (F_X12_four (zu σ 0 0 0) a) b) c) d) e).trans (congrArg (· + 4) ((four_len (F_X12_four (F_X12_four (F_X12_four (zu σ 0 0 0) a) b) c) d).trans (congrArg (· + 4) ((four_len (F_X12_four (F_X12_four (zu σ 0 0 0) a) b) c).trans (congrArg (· + 4) ((four_len (F_X12_four (zu σ 0 0 0) a) b).trans (congrArg (· + 4) ((four_len (zu σ 0 0 0) a).trans (congrArg (· + 4) (zu_off _ _ _ (by decide)))))))))))) fl_12_7 rfl rfl rfl dX12_feed_48 ?_
    exact zR.iret rfl dX12_feed_51 ⟨by unfold V_X12_feed; rw [if_pos c15], by unfold F_X12_feed; rw [if_pos c15]⟩
  · refine zRx.iconst ⟨by decide, by decide⟩ dX12_feed_18 ?_
    exact zR.iret rfl dX12_feed_19 ⟨by unfold V_X12_feed; rw [if_neg (Int.not_le.mpr c15)], by unfold F_X12_feed; rw [if_neg (Int.not_le.mpr c15)]⟩

def V_X11_end (σ : zG) (x : Int) : Int := if x < 0 then 0 else (if x ≤ (σ 1 1) then 1 else 0)
def F_X11_end (σ : zG) (x : Int) : zG := if x < 0 then σ else (if x ≤ (σ 1 1) then (zu σ 1 1 x) else σ)
theorem fr_F_X11_end (σ : zG) (x : Int) {k : Nat} (h : k ∉ [1]) : (F_X11_end σ x) k = σ k := by
  have ne : ∀ c ∈ [1], k ≠ c := fun c hc e => h (e ▸ hc)
  unfold F_X11_end
  repeat' split
  all_goals first | rfl | simp only [zu_row _ _ _ (ne 1 (by decide))]

set_option maxRecDepth 20000 in
theorem does_X11_end (σ : zG) (x : Int)  : zDo SC 0 m_X11_end [zP 0, .inl x] σ (zEq (some (.inl (V_X11_end σ x))) (F_X11_end σ x)) := by
  refine zDo.intro mk_X11_end (Nat.le_of_ble_eq_true rfl) ?_
  refine zRx.iload_n 1 rfl rfl dX11_end_0 ?_
  refine zRx.if_lt (tgt := 15) dX11_end_1 (by decide) (fun c1 => ?_) (fun c1 => ?_)
  · refine zRx.iconst ⟨by decide, by decide⟩ dX11_end_15 ?_
    exact zR.zret rfl ⟨by decide, by decide⟩ dX11_end_16 ⟨by unfold V_X11_end; rw [if_pos c1], by unfold F_X11_end; rw [if_pos c1]⟩
  · refine zRx.iload_n 1 rfl rfl dX11_end_4 ?_
    refine zRx.aload_n 0 rfl rfl dX11_end_5 ?_
    refine zRx.getR (a := 0) (b := 1) fl_11_12 rfl rfl dX11_end_6 ?_
    refine zRx.getIv (a := 1) (ji := 1) (v := σ 1 1) rfl fl_11_110 rfl rfl rfl dX11_end_9 ?_
    refine zRx.icmp_le (tgt := 17) dX11_end_12 (by decide) (fun c12 => ?_) (fun c12 => ?_)
    · refine zRx.aload_n 0 rfl rfl dX11_end_17 ?_
      refine zRx.getR (a := 0) (b := 1) fl_11_12 rfl rfl dX11_end_18 ?_
      refine zRx.iload_n 1 rfl rfl dX11_end_21 ?_
      refine zRx.putI (a := 1) (ji := 1) pl_11_110 rfl rfl rfl dX11_end_22 ?_
      refine zRx.iconst ⟨by decide, by decide⟩ dX11_end_25 ?_
      exact zR.zret rfl ⟨by decide, by decide⟩ dX11_end_26 ⟨by unfold V_X11_end; rw [if_neg (Int.not_lt.mpr c1), if_pos c12], by unfold F_X11_end; rw [if_neg (Int.not_lt.mpr c1), if_pos c12]⟩
    · refine zRx.iconst ⟨by decide, by decide⟩ dX11_end_15 ?_
      exact zR.zret rfl ⟨by decide, by decide⟩ dX11_end_16 ⟨by unfold V_X11_end; rw [if_neg (Int.not_lt.mpr c1), if_neg (Int.not_le.mpr c12)], by unfold F_X11_end; rw [if_neg (Int.not_lt.mpr c1), if_neg (Int.not_le.mpr c12)]⟩

def V_X12_end (σ : zG) (x : Int) : Int := if x < 0 then 0 else (if x ≤ (σ 0 2) then 1 else 0)
def F_X12_end (σ : zG) (x : Int) : zG := if x < 0 then (zu σ 0 0 0) else (if x ≤ (σ 0 2) then (zu (zu σ 0 0 0) 0 2 x) else (zu σ 0 0 0))
theorem fr_F_X12_end (σ : zG) (x : Int) {k : Nat} (h : k ∉ [0]) : (F_X12_end σ x) k = σ k := by
  have ne : ∀ c ∈ [0], k ≠ c := fun c hc e => h (e ▸ hc)
  unfold F_X12_end
  repeat' split
  all_goals first | rfl | simp only [zu_row _ _ _ (ne 0 (by decide))]

set_option maxRecDepth 20000 in
theorem does_X12_end (σ : zG) (x : Int)  : zDo SM 0 m_X12_end [zP 0, .inl x] σ (zEq (some (.inl (V_X12_end σ x))) (F_X12_end σ x)) := by
  refine zDo.intro mk_X12_end (Nat.le_of_ble_eq_true rfl) ?_
  refine zRx.aload_n 0 rfl rfl dX12_end_0 ?_
  refine zRx.iconst ⟨by decide, by decide⟩ dX12_end_1 ?_
  refine zRx.putI (a := 0) (ji := 0) pl_12_1 rfl rfl rfl dX12_end_2 ?_
  refine zRx.iload_n 1 rfl rfl dX12_end_5 ?_
  refine zRx.if_lt (tgt := 17) dX12_end_6 (by decide) (fun c6 => ?_) (fun c6 => ?_)
  · refine zRx.iconst ⟨by decide, by decide⟩ dX12_end_17 ?_
    exact zR.zret rfl ⟨by decide, by decide⟩ dX12_end_18 ⟨by unfold V_X12_end; rw [if_pos c6], by unfold F_X12_end; rw [if_pos c6]⟩
  · refine zRx.iload_n 1 rfl rfl dX12_end_9 ?_
    refine zRx.aload_n 0 rfl rfl dX12_end_10 ?_
    refine zRx.getIv (a := 0) (ji := 2) (v := σ 0 2) (zu_off _ _ _ (by decide)) fl_12_7 rfl rfl rfl dX12_end_11 ?_
    refine zRx.icmp_le (tgt := 19) dX12_end_14 (by decide) (fun c14 => ?_) (fun c14 => ?_)
    · refine zRx.aload_n 0 rfl rfl dX12_end_19 ?_
      refine zRx.iload_n 1 rfl rfl dX12_end_20 ?_
      refine zRx.putI (a := 0) (ji := 2) pl_12_7 rfl rfl rfl dX12_end_21 ?_
      refine zRx.iconst ⟨by decide, by decide⟩ dX12_end_24 ?_
      exact zR.zret rfl ⟨by decide, by decide⟩ dX12_end_25 ⟨by unfold V_X12_end; rw [if_neg (Int.not_lt.mpr c6), if_pos c14], by unfold F_X12_end; rw [if_neg (Int.not_lt.mpr c6), if_pos c14]⟩
    · refine zRx.iconst ⟨by decide, by decide⟩ dX12_end_17 ?_
      exact zR.zret rfl ⟨by decide, by decide⟩ dX12_end_18 ⟨by unfold V_X12_end; rw [if_neg (Int.not_lt.mpr c6), if_neg (Int.not_le.mpr c14)], by unfold F_X12_end; rw [if_neg (Int.not_lt.mpr c6), if_neg (Int.not_le.mpr c14)]⟩

def V_X11_count (σ : zG) (x : Int) : Int := if x = 0 then (σ 5 0) else (if x = 1 then (σ 5 1) else (if x = 2 then (σ 5 2) else (if x = 3 then (σ 27 0) else (if x = 4 then (if x < 4 then (-1) else (if 9 ≤ x then (-1) else (σ 15 (x - 4)))) else (if x = 5 then (if x < 4 then (-1) else (if 9 ≤ x then (-1) else (σ 15 (x - 4)))) else (if x = 6 then (if x < 4 then (-1) else (if 9 ≤ x then (-1) else (σ 15 (x - 4)))) else (if x = 7 then (if x < 4 then (-1) else (if 9 ≤ x then (-1) else (σ 15 (x - 4)))) else (if x = 8 then (if x < 4 then (-1) else (if 9 ≤ x then (-1) else (σ 15 (x - 4)))) else (if x = 9 then (σ 1 1) else (if x < 4 then (-1) else (if 9 ≤ x then (-1) else (σ 15 (x - 4)))))))))))))
set_option maxRecDepth 20000 in
theorem does_X11_count (σ : zG) (x : Int)  : zDo SC 0 m_X11_count [zP 0, .inl x] σ (zEq (some (.inl (V_X11_count σ x))) σ) := by
  refine zDo.intro mk_X11_count (Nat.le_of_ble_eq_true rfl) ?_
  refine zRx.iload_n 1 rfl rfl dX11_count_0 ?_
  by_cases c1_0 : x = 0
  · refine zRx.topI (b := 0) c1_0 ?_
    refine zRx.tableIn (tgt := 56) dX11_count_1 (by decide) (by decide) rfl (by decide) ?_
    refine zRx.aload_n 0 rfl rfl dX11_count_56 ?_
    refine zRx.getR (a := 0) (b := 5) fl_11_28 rfl rfl dX11_count_57 ?_
    refine zRx.getIv (a := 5) (ji := 0) (v := σ 5 0) rfl fl_11_180 rfl rfl rfl dX11_count_60 ?_
    exact zR.iret rfl dX11_count_63 ⟨by unfold V_X11_count; rw [if_pos c1_0], rfl⟩
  by_cases c1_1 : x = 1
  · refine zRx.topI (b := 1) c1_1 ?_
    refine zRx.tableIn (tgt := 64) dX11_count_1 (by decide) (by decide) rfl (by decide) ?_
    refine zRx.aload_n 0 rfl rfl dX11_count_64 ?_
    refine zRx.getR (a := 0) (b := 5) fl_11_28 rfl rfl dX11_count_65 ?_
    refine zRx.getIv (a := 5) (ji := 1) (v := σ 5 1) rfl fl_11_183 rfl rfl rfl dX11_count_68 ?_
    exact zR.iret rfl dX11_count_71 ⟨by unfold V_X11_count; rw [if_neg c1_0, if_pos c1_1], rfl⟩
  by_cases c1_2 : x = 2
  · refine zRx.topI (b := 2) c1_2 ?_
    refine zRx.tableIn (tgt := 72) dX11_count_1 (by decide) (by decide) rfl (by decide) ?_
    refine zRx.aload_n 0 rfl rfl dX11_count_72 ?_
    refine zRx.getR (a := 0) (b := 5) fl_11_28 rfl rfl dX11_count_73 ?_
    refine zRx.getIv (a := 5) (ji := 2) (v := σ 5 2) rfl fl_11_376 rfl rfl rfl dX11_count_76 ?_
    exact zR.iret rfl dX11_count_79 ⟨by unfold V_X11_count; rw [if_neg c1_0, if_neg c1_1, if_pos c1_2], rfl⟩
  by_cases c1_3 : x = 3
  · refine zRx.topI (b := 3) c1_3 ?_
    refine zRx.tableIn (tgt := 80) dX11_count_1 (by decide) (by decide) rfl (by decide) ?_
    refine zRx.aload_n 0 rfl rfl dX11_count_80 ?_
    refine zRx.getR (a := 0) (b := 27) fl_11_38 rfl rfl dX11_count_81 ?_
    refine zRx.getIv (a := 27) (ji := 0) (v := σ 27 0) rfl fl_11_177 rfl rfl rfl dX11_count_84 ?_
    exact zR.iret rfl dX11_count_87 ⟨by unfold V_X11_count; rw [if_neg c1_0, if_neg c1_1, if_neg c1_2, if_pos c1_3], rfl⟩
  by_cases c1_4 : x = 4
  · refine zRx.topI (b := 4) c1_4 ?_
    refine zRx.tableIn (tgt := 96) dX11_count_1 (by decide) (by decide) rfl (by decide) ?_
    refine zRx.iload_n 1 rfl rfl dX11_count_96 ?_
    refine zRx.iconst ⟨by decide, by decide⟩ dX11_count_97 ?_
    refine zRx.icmp_lt (tgt := 121) dX11_count_98 (by decide) (fun c98 => ?_) (fun c98 => ?_)
    · refine zRx.iconst ⟨by decide, by decide⟩ dX11_count_121 ?_
      exact zR.iret rfl dX11_count_122 ⟨by unfold V_X11_count; rw [if_neg c1_0, if_neg c1_1, if_neg c1_2, if_neg c1_3, if_pos c1_4, if_pos c98], rfl⟩
    · refine zRx.iload_n 1 rfl rfl dX11_count_101 ?_
      refine zRx.bipush ⟨by decide, by decide⟩ rfl dX11_count_102 ?_
      refine zRx.icmp_ge (tgt := 121) dX11_count_104 (by decide) (fun c104 => ?_) (fun c104 => ?_)
      · refine zRx.iconst ⟨by decide, by decide⟩ dX11_count_121 ?_
        exact zR.iret rfl dX11_count_122 ⟨by unfold V_X11_count; rw [if_neg c1_0, if_neg c1_1, if_neg c1_2, if_neg c1_3, if_pos c1_4, if_neg (Int.not_lt.mpr c98), if_pos c104], rfl⟩
      · refine zRx.aload_n 0 rfl rfl dX11_count_107 ?_
        refine zRx.getR (a := 0) (b := 5) fl_11_28 rfl rfl dX11_count_108 ?_
        refine zRx.getR (a := 5) (b := 15) fl_11_297 rfl rfl dX11_count_111 ?_
        refine zRx.iload_n 1 rfl rfl dX11_count_114 ?_
        refine zRx.iconst ⟨by decide, by decide⟩ dX11_count_115 ?_
        refine zRx.isub ⟨by omega, by omega⟩ dX11_count_116 ?_
        refine zRx.ialdv (v := σ 15 (x - 4)) rfl rfl (by omega) (by omega) dX11_count_117 ?_
        refine zRx.goto (tgt := 122) dX11_count_118 (by decide) ?_
        exact zR.iret rfl dX11_count_122 ⟨by unfold V_X11_count; rw [if_neg c1_0, if_neg c1_1, if_neg c1_2, if_neg c1_3, if_pos c1_4, if_neg (Int.not_lt.mpr c98), if_neg (Int.not_le.mpr c104)], rfl⟩
  by_cases c1_5 : x = 5
  · refine zRx.topI (b := 5) c1_5 ?_
    refine zRx.tableIn (tgt := 96) dX11_count_1 (by decide) (by decide) rfl (by decide) ?_
    refine zRx.iload_n 1 rfl rfl dX11_count_96 ?_
    refine zRx.iconst ⟨by decide, by decide⟩ dX11_count_97 ?_
    refine zRx.icmp_lt (tgt := 121) dX11_count_98 (by decide) (fun c98 => ?_) (fun c98 => ?_)
    · refine zRx.iconst ⟨by decide, by decide⟩ dX11_count_121 ?_
      exact zR.iret rfl dX11_count_122 ⟨by unfold V_X11_count; rw [if_neg c1_0, if_neg c1_1, if_neg c1_2, if_neg c1_3, if_neg c1_4, if_pos c1_5, if_pos c98], rfl⟩
    · refine zRx.iload_n 1 rfl rfl dX11_count_101 ?_
      refine zRx.bipush ⟨by decide, by decide⟩ rfl dX11_count_102 ?_
      refine zRx.icmp_ge (tgt := 121) dX11_count_104 (by decide) (fun c104 => ?_) (fun c104 => ?_)
      · refine zRx.iconst ⟨by decide, by decide⟩ dX11_count_121 ?_
        exact zR.iret rfl dX11_count_122 ⟨by unfold V_X11_count; rw [if_neg c1_0, if_neg c1_1, if_neg c1_2, if_neg c1_3, if_neg c1_4, if_pos c1_5, if_neg (Int.not_lt.mpr c98), if_pos c104], rfl⟩
      · refine zRx.aload_n 0 rfl rfl dX11_count_107 ?_
        refine zRx.getR (a := 0) (b := 5) fl_11_28 rfl rfl dX11_count_108 ?_
        refine zRx.getR (a := 5) (b := 15) fl_11_297 rfl rfl dX11_count_111 ?_
        refine zRx.iload_n 1 rfl rfl dX11_count_114 ?_
        refine zRx.iconst ⟨by decide, by decide⟩ dX11_count_115 ?_
        refine zRx.isub ⟨by omega, by omega⟩ dX11_count_116 ?_
        refine zRx.ialdv (v := σ 15 (x - 4)) rfl rfl (by omega) (by omega) dX11_count_117 ?_
        refine zRx.goto (tgt := 122) dX11_count_118 (by decide) ?_
        exact zR.iret rfl dX11_count_122 ⟨by unfold V_X11_count; rw [if_neg c1_0, if_neg c1_1, if_neg c1_2, if_neg c1_3, if_neg c1_4, if_pos c1_5, if_neg (Int.not_lt.mpr c98), if_neg (Int.not_le.mpr c104)], rfl⟩
  by_cases c1_6 : x = 6
  · refine zRx.topI (b := 6) c1_6 ?_
    refine zRx.tableIn (tgt := 96) dX11_count_1 (by decide) (by decide) rfl (by decide) ?_
    refine zRx.iload_n 1 rfl rfl dX11_count_96 ?_
    refine zRx.iconst ⟨by decide, by decide⟩ dX11_count_97 ?_
    refine zRx.icmp_lt (tgt := 121) dX11_count_98 (by decide) (fun c98 => ?_) (fun c98 => ?_)
    · refine zRx.iconst ⟨by decide, by decide⟩ dX11_count_121 ?_
      exact zR.iret rfl dX11_count_122 ⟨by unfold V_X11_count; rw [if_neg c1_0, if_neg c1_1, if_neg c1_2, if_neg c1_3, if_neg c1_4, if_neg c1_5, if_pos c1_6, if_pos c98], rfl⟩
    · refine zRx.iload_n 1 rfl rfl dX11_count_101 ?_
      refine zRx.bipush ⟨by decide, by decide⟩ rfl dX11_count_102 ?_
      refine zRx.icmp_ge (tgt := 121) dX11_count_104 (by decide) (fun c104 => ?_) (fun c104 => ?_)
      · refine zRx.iconst ⟨by decide, by decide⟩ dX11_count_121 ?_
        exact zR.iret rfl dX11_count_122 ⟨by unfold V_X11_count; rw [if_neg c1_0, if_neg c1_1, if_neg c1_2, if_neg c1_3, if_neg c1_4, if_neg c1_5, if_pos c1_6, if_neg (Int.not_lt.mpr c98), if_pos c104], rfl⟩
      · refine zRx.aload_n 0 rfl rfl dX11_count_107 ?_
        refine zRx.getR (a := 0) (b := 5) fl_11_28 rfl rfl dX11_count_108 ?_
        refine zRx.getR (a := 5) (b := 15) fl_11_297 rfl rfl dX11_count_111 ?_
        refine zRx.iload_n 1 rfl rfl dX11_count_114 ?_
        refine zRx.iconst ⟨by decide, by decide⟩ dX11_count_115 ?_
        refine zRx.isub ⟨by omega, by omega⟩ dX11_count_116 ?_
        refine zRx.ialdv (v := σ 15 (x - 4)) rfl rfl (by omega) (by omega) dX11_count_117 ?_
        refine zRx.goto (tgt := 122) dX11_count_118 (by decide) ?_
        exact zR.iret rfl dX11_count_122 ⟨by unfold V_X11_count; rw [if_neg c1_0, if_neg c1_1, if_neg c1_2, if_neg c1_3, if_neg c1_4, if_neg c1_5, if_pos c1_6, if_neg (Int.not_lt.mpr c98), if_neg (Int.not_le.mpr c104)], rfl⟩
  by_cases c1_7 : x = 7
  · refine zRx.topI (b := 7) c1_7 ?_
    refine zRx.tableIn (tgt := 96) dX11_count_1 (by decide) (by decide) rfl (by decide) ?_
    refine zRx.iload_n 1 rfl rfl dX11_count_96 ?_
    refine zRx.iconst ⟨by decide, by decide⟩ dX11_count_97 ?_
    refine zRx.icmp_lt (tgt := 121) dX11_count_98 (by decide) (fun c98 => ?_) (fun c98 => ?_)
    · refine zRx.iconst ⟨by decide, by decide⟩ dX11_count_121 ?_
      exact zR.iret rfl dX11_count_122 ⟨by unfold V_X11_count; rw [if_neg c1_0, if_neg c1_1, if_neg c1_2, if_neg c1_3, if_neg c1_4, if_neg c1_5, if_neg c1_6, if_pos c1_7, if_pos c98], rfl⟩
    · refine zRx.iload_n 1 rfl rfl dX11_count_101 ?_
      refine zRx.bipush ⟨by decide, by decide⟩ rfl dX11_count_102 ?_
      refine zRx.icmp_ge (tgt := 121) dX11_count_104 (by decide) (fun c104 => ?_) (fun c104 => ?_)
      · refine zRx.iconst ⟨by decide, by decide⟩ dX11_count_121 ?_
        exact zR.iret rfl dX11_count_122 ⟨by unfold V_X11_count; rw [if_neg c1_0, if_neg c1_1, if_neg c1_2, if_neg c1_3, if_neg c1_4, if_neg c1_5, if_neg c1_6, if_pos c1_7, if_neg (Int.not_lt.mpr c98), if_pos c104], rfl⟩
      · refine zRx.aload_n 0 rfl rfl dX11_count_107 ?_
        refine zRx.getR (a := 0) (b := 5) fl_11_28 rfl rfl dX11_count_108 ?_
        refine zRx.getR (a := 5) (b := 15) fl_11_297 rfl rfl dX11_count_111 ?_
        refine zRx.iload_n 1 rfl rfl dX11_count_114 ?_
        refine zRx.iconst ⟨by decide, by decide⟩ dX11_count_115 ?_
        refine zRx.isub ⟨by omega, by omega⟩ dX11_count_116 ?_
        refine zRx.ialdv (v := σ 15 (x - 4)) rfl rfl (by omega) (by omega) dX11_count_117 ?_
        refine zRx.goto (tgt := 122) dX11_count_118 (by decide) ?_
        exact zR.iret rfl dX11_count_122 ⟨by unfold V_X11_count; rw [if_neg c1_0, if_neg c1_1, if_neg c1_2, if_neg c1_3, if_neg c1_4, if_neg c1_5, if_neg c1_6, if_pos c1_7, if_neg (Int.not_lt.mpr c98), if_neg (Int.not_le.mpr c104)], rfl⟩
  by_cases c1_8 : x = 8
  · refine zRx.topI (b := 8) c1_8 ?_
    refine zRx.tableIn (tgt := 96) dX11_count_1 (by decide) (by decide) rfl (by decide) ?_
    refine zRx.iload_n 1 rfl rfl dX11_count_96 ?_
    refine zRx.iconst ⟨by decide, by decide⟩ dX11_count_97 ?_
    refine zRx.icmp_lt (tgt := 121) dX11_count_98 (by decide) (fun c98 => ?_) (fun c98 => ?_)
    · refine zRx.iconst ⟨by decide, by decide⟩ dX11_count_121 ?_
      exact zR.iret rfl dX11_count_122 ⟨by unfold V_X11_count; rw [if_neg c1_0, if_neg c1_1, if_neg c1_2, if_neg c1_3, if_neg c1_4, if_neg c1_5, if_neg c1_6, if_neg c1_7, if_pos c1_8, if_pos c98], rfl⟩
    · refine zRx.iload_n 1 rfl rfl dX11_count_101 ?_
      refine zRx.bipush ⟨by decide, by decide⟩ rfl dX11_count_102 ?_
      refine zRx.icmp_ge (tgt := 121) dX11_count_104 (by decide) (fun c104 => ?_) (fun c104 => ?_)
      · refine zRx.iconst ⟨by decide, by decide⟩ dX11_count_121 ?_
        exact zR.iret rfl dX11_count_122 ⟨by unfold V_X11_count; rw [if_neg c1_0, if_neg c1_1, if_neg c1_2, if_neg c1_3, if_neg c1_4, if_neg c1_5, if_neg c1_6, if_neg c1_7, if_pos c1_8, if_neg (Int.not_lt.mpr c98), if_pos c104], rfl⟩
      · refine zRx.aload_n 0 rfl rfl dX11_count_107 ?_
        refine zRx.getR (a := 0) (b := 5) fl_11_28 rfl rfl dX11_count_108 ?_
        refine zRx.getR (a := 5) (b := 15) fl_11_297 rfl rfl dX11_count_111 ?_
        refine zRx.iload_n 1 rfl rfl dX11_count_114 ?_
        refine zRx.iconst ⟨by decide, by decide⟩ dX11_count_115 ?_
        refine zRx.isub ⟨by omega, by omega⟩ dX11_count_116 ?_
        refine zRx.ialdv (v := σ 15 (x - 4)) rfl rfl (by omega) (by omega) dX11_count_117 ?_
        refine zRx.goto (tgt := 122) dX11_count_118 (by decide) ?_
        exact zR.iret rfl dX11_count_122 ⟨by unfold V_X11_count; rw [if_neg c1_0, if_neg c1_1, if_neg c1_2, if_neg c1_3, if_neg c1_4, if_neg c1_5, if_neg c1_6, if_neg c1_7, if_pos c1_8, if_neg (Int.not_lt.mpr c98), if_neg (Int.not_le.mpr c104)], rfl⟩
  by_cases c1_9 : x = 9
  · refine zRx.topI (b := 9) c1_9 ?_
    refine zRx.tableIn (tgt := 88) dX11_count_1 (by decide) (by decide) rfl (by decide) ?_
    refine zRx.aload_n 0 rfl rfl dX11_count_88 ?_
    refine zRx.getR (a := 0) (b := 1) fl_11_12 rfl rfl dX11_count_89 ?_
    refine zRx.getIv (a := 1) (ji := 1) (v := σ 1 1) rfl fl_11_110 rfl rfl rfl dX11_count_92 ?_
    exact zR.iret rfl dX11_count_95 ⟨by unfold V_X11_count; rw [if_neg c1_0, if_neg c1_1, if_neg c1_2, if_neg c1_3, if_neg c1_4, if_neg c1_5, if_neg c1_6, if_neg c1_7, if_neg c1_8, if_pos c1_9], rfl⟩
  refine zRx.tableOut (tgt := 96) dX11_count_1 (by omega) (by decide) ?_
  refine zRx.iload_n 1 rfl rfl dX11_count_96 ?_
  refine zRx.iconst ⟨by decide, by decide⟩ dX11_count_97 ?_
  refine zRx.icmp_lt (tgt := 121) dX11_count_98 (by decide) (fun c98 => ?_) (fun c98 => ?_)
  · refine zRx.iconst ⟨by decide, by decide⟩ dX11_count_121 ?_
    exact zR.iret rfl dX11_count_122 ⟨by unfold V_X11_count; rw [if_neg c1_0, if_neg c1_1, if_neg c1_2, if_neg c1_3, if_neg c1_4, if_neg c1_5, if_neg c1_6, if_neg c1_7, if_neg c1_8, if_neg c1_9, if_pos c98], rfl⟩
  · refine zRx.iload_n 1 rfl rfl dX11_count_101 ?_
    refine zRx.bipush ⟨by decide, by decide⟩ rfl dX11_count_102 ?_
    refine zRx.icmp_ge (tgt := 121) dX11_count_104 (by decide) (fun c104 => ?_) (fun c104 => ?_)
    · refine zRx.iconst ⟨by decide, by decide⟩ dX11_count_121 ?_
      exact zR.iret rfl dX11_count_122 ⟨by unfold V_X11_count; rw [if_neg c1_0, if_neg c1_1, if_neg c1_2, if_neg c1_3, if_neg c1_4, if_neg c1_5, if_neg c1_6, if_neg c1_7, if_neg c1_8, if_neg c1_9, if_neg (Int.not_lt.mpr c98), if_pos c104], rfl⟩
    · refine zRx.aload_n 0 rfl rfl dX11_count_107 ?_
      refine zRx.getR (a := 0) (b := 5) fl_11_28 rfl rfl dX11_count_108 ?_
      refine zRx.getR (a := 5) (b := 15) fl_11_297 rfl rfl dX11_count_111 ?_
      refine zRx.iload_n 1 rfl rfl dX11_count_114 ?_
      refine zRx.iconst ⟨by decide, by decide⟩ dX11_count_115 ?_
      refine zRx.isub ⟨by omega, by omega⟩ dX11_count_116 ?_
      refine zRx.ialdv (v := σ 15 (x - 4)) rfl rfl (by omega) (by omega) dX11_count_117 ?_
      refine zRx.goto (tgt := 122) dX11_count_118 (by decide) ?_
      exact zR.iret rfl dX11_count_122 ⟨by unfold V_X11_count; rw [if_neg c1_0, if_neg c1_1, if_neg c1_2, if_neg c1_3, if_neg c1_4, if_neg c1_5, if_neg c1_6, if_neg c1_7, if_neg c1_8, if_neg c1_9, if_neg (Int.not_lt.mpr c98), if_neg (Int.not_le.mpr c104)], rfl⟩

def V_X12_count (σ : zG) (x : Int) : Int := if 0 ≤ x ∧ x ≤ 2 then (σ 2 x) else (if x = 3 then (σ 2 172) else (if 4 ≤ x ∧ x ≤ 8 then (σ 2 ((3 + x) - 4)) else (if x = 9 then (σ 0 2) else (-1))))
def F_X12_count (σ : zG) (x : Int) : zG := zu σ 0 0 0
theorem fr_F_X12_count (σ : zG) (x : Int) {k : Nat} (h : k ∉ [0]) : (F_X12_count σ x) k = σ k := by
  have ne : ∀ c ∈ [0], k ≠ c := fun c hc e => h (e ▸ hc)
  unfold F_X12_count
  repeat' split
  all_goals first | rfl | simp only [zu_row _ _ _ (ne 0 (by decide))]

set_option maxRecDepth 20000 in
theorem does_X12_count (σ : zG) (x : Int)  : zDo SM 1 m_X12_count [zP 0, .inl x] σ (zEq (some (.inl (V_X12_count σ x))) (F_X12_count σ x)) := by
  refine zDo.intro mk_X12_count (Nat.le_of_ble_eq_true rfl) ?_
  refine zRx.aload_n 0 rfl rfl dX12_count_0 ?_
  refine zRx.iconst ⟨by decide, by decide⟩ dX12_count_1 ?_
  refine zRx.putI (a := 0) (ji := 0) pl_12_1 rfl rfl rfl dX12_count_2 ?_
  refine zRx.iload_n 1 rfl rfl dX12_count_5 ?_
  refine zRx.iconst ⟨by decide, by decide⟩ dX12_count_6 ?_
  refine zRx.iconst ⟨by decide, by decide⟩ dX12_count_7 ?_
  refine zRx.cSi (w := .inl (b2 (0 ≤ x ∧ x ≤ 2))) (M := m_X12_isIn) (av := [.inl x, .inl 0, .inl 2]) cs_12_254 mk_X12_isIn (by decide) rfl (Nat.le_of_ble_eq_true rfl) dX12_count_8 (does_X12_isIn x 0 2 SM (zu σ 0 0 0)) ?_
  refine zRx.if_eqB (tgt := 21) dX12_count_11 (by decide) (fun c11 => ?_) (fun c11 => ?_)
  · refine zRx.iload_n 1 rfl rfl dX12_count_21 ?_
    refine zRx.iconst ⟨by decide, by decide⟩ dX12_count_22 ?_
    refine zRx.icmp_ne (tgt := 35) dX12_count_23 (by decide) (fun c23 => ?_) (fun c23 => ?_)
    · refine zRx.iload_n 1 rfl rfl dX12_count_35 ?_
      refine zRx.iconst ⟨by decide, by decide⟩ dX12_count_36 ?_
      refine zRx.bipush ⟨by decide, by decide⟩ rfl dX12_count_37 ?_
      refine zRx.cSi (w := .inl (b2 (4 ≤ x ∧ x ≤ 8))) (M := m_X12_isIn) (av := [.inl x, .inl 4, .inl 8]) cs_12_254 mk_X12_isIn (by decide) rfl (Nat.le_of_ble_eq_true rfl) dX12_count_39 (does_X12_isIn x 4 8 SM (zu σ 0 0 0)) ?_
      refine zRx.if_eqB (tgt := 56) dX12_count_42 (by decide) (fun c42 => ?_) (fun c42 => ?_)
      · refine zRx.iload_n 1 rfl rfl dX12_count_56 ?_
        refine zRx.bipush ⟨by decide, by decide⟩ rfl dX12_count_57 ?_
        refine zRx.icmp_ne (tgt := 69) dX12_count_59 (by decide) (fun c59 => ?_) (fun c59 => ?_)
        · refine zRx.iconst ⟨by decide, by decide⟩ dX12_count_69 ?_
          exact zR.iret rfl dX12_count_70 ⟨by unfold V_X12_count; rw [if_neg c11, if_neg c23, if_neg c42, if_neg c59], rfl⟩
        · refine zRx.aload_n 0 rfl rfl dX12_count_62 ?_
          refine zRx.getIv (a := 0) (ji := 2) (v := σ 0 2) (zu_off _ _ _ (by decide)) fl_12_7 rfl rfl rfl dX12_count_63 ?_
          refine zRx.goto (tgt := 70) dX12_count_66 (by decide) ?_
          exact zR.iret rfl dX12_count_70 ⟨by unfold V_X12_count; rw [if_neg c11, if_neg c23, if_neg c42, if_pos c59], rfl⟩
      · refine zRx.aload_n 0 rfl rfl dX12_count_45 ?_
        refine zRx.getR (a := 0) (b := 2) fl_12_33 rfl rfl dX12_count_46 ?_
        refine zRx.iconst ⟨by decide, by decide⟩ dX12_count_49 ?_
        refine zRx.iload_n 1 rfl rfl dX12_count_50 ?_
        refine zRx.iadd ⟨by omega, by omega⟩ dX12_count_51 ?_
        refine zRx.iconst ⟨by decide, by decide⟩ dX12_count_52 ?_
        refine zRx.isub ⟨by omega, by omega⟩ dX12_count_53 ?_
        refine zRx.ialdv (v := σ 2 ((3 + x) - 4)) (zu_ne _ _ _ _ (by decide)) rfl (by omega) (by omega) dX12_count_54 ?_
        exact zR.iret rfl dX12_count_55 ⟨by unfold V_X12_count; rw [if_neg c11, if_neg c23, if_pos c42], rfl⟩
    · refine zRx.aload_n 0 rfl rfl dX12_count_26 ?_
      refine zRx.getR (a := 0) (b := 2) fl_12_33 rfl rfl dX12_count_27 ?_
      refine zRx.sipush ⟨by decide, by decide⟩ rfl dX12_count_30 ?_
      refine zRx.ialdv (v := σ 2 172) (zu_ne _ _ _ _ (by decide)) rfl (by decide) (by decide) dX12_count_33 ?_
      exact zR.iret rfl dX12_count_34 ⟨by unfold V_X12_count; rw [if_neg c11, if_pos c23], rfl⟩
  · refine zRx.aload_n 0 rfl rfl dX12_count_14 ?_
    refine zRx.getR (a := 0) (b := 2) fl_12_33 rfl rfl dX12_count_15 ?_
    refine zRx.iload_n 1 rfl rfl dX12_count_18 ?_
    refine zRx.ialdv (v := σ 2 x) (zu_ne _ _ _ _ (by decide)) rfl (by omega) (by omega) dX12_count_19 ?_
    exact zR.iret rfl dX12_count_20 ⟨by unfold V_X12_count; rw [if_pos c11], rfl⟩

def V_X11_fault (σ : zG)  : Int := σ 0 16
set_option maxRecDepth 20000 in
theorem does_X11_fault (σ : zG)   : zDo SC 0 m_X11_fault [zP 0] σ (zEq (some (.inl (V_X11_fault σ ))) σ) := by
  refine zDo.intro mk_X11_fault (Nat.le_of_ble_eq_true rfl) ?_
  refine zRx.aload_n 0 rfl rfl dX11_fault_0 ?_
  refine zRx.getIv (a := 0) (ji := 16) (v := σ 0 16) rfl fl_11_106 rfl rfl rfl dX11_fault_1 ?_
  exact zR.iret rfl dX11_fault_4 ⟨rfl, rfl⟩

def V_X12_fault (σ : zG)  : Int := σ 0 15
def F_X12_fault (σ : zG)  : zG := zu σ 0 0 0
theorem fr_F_X12_fault (σ : zG)  {k : Nat} (h : k ∉ [0]) : (F_X12_fault σ ) k = σ k := by
  have ne : ∀ c ∈ [0], k ≠ c := fun c hc e => h (e ▸ hc)
  unfold F_X12_fault
  repeat' split
  all_goals first | rfl | simp only [zu_row _ _ _ (ne 0 (by decide))]

set_option maxRecDepth 20000 in
theorem does_X12_fault (σ : zG)   : zDo SM 0 m_X12_fault [zP 0] σ (zEq (some (.inl (V_X12_fault σ ))) (F_X12_fault σ )) := by
  refine zDo.intro mk_X12_fault (Nat.le_of_ble_eq_true rfl) ?_
  refine zRx.aload_n 0 rfl rfl dX12_fault_0 ?_
  refine zRx.iconst ⟨by decide, by decide⟩ dX12_fault_1 ?_
  refine zRx.putI (a := 0) (ji := 0) pl_12_1 rfl rfl rfl dX12_fault_2 ?_
  refine zRx.aload_n 0 rfl rfl dX12_fault_5 ?_
  refine zRx.getIv (a := 0) (ji := 15) (v := σ 0 15) (zu_off _ _ _ (by decide)) fl_12_239 rfl rfl rfl dX12_fault_6 ?_
  exact zR.iret rfl dX12_fault_9 ⟨rfl, rfl⟩

def F_X12_taken (σ : zG) (x : Int) : zG := zu (zu (zu (zu σ 0 3 (σ 0 2)) 0 2 0) 0 4 0) 0 5 x
theorem fr_F_X12_taken (σ : zG) (x : Int) {k : Nat} (h : k ∉ [0]) : (F_X12_taken σ x) k = σ k := by
  have ne : ∀ c ∈ [0], k ≠ c := fun c hc e => h (e ▸ hc)
  unfold F_X12_taken
  repeat' split
  all_goals first | rfl | simp only [zu_row _ _ _ (ne 0 (by decide))]

set_option maxRecDepth 20000 in
theorem does_X12_taken (σ : zG) (x : Int)  : zDo SM 0 m_X12_taken [zP 0, .inl x] σ (zEq (none) (F_X12_taken σ x)) := by
  refine zDo.intro mk_X12_taken (Nat.le_of_ble_eq_true rfl) ?_
  refine zRx.aload_n 0 rfl rfl dX12_taken_0 ?_
  refine zRx.aload_n 0 rfl rfl dX12_taken_1 ?_
  refine zRx.getIv (a := 0) (ji := 2) (v := σ 0 2) rfl fl_12_7 rfl rfl rfl dX12_taken_2 ?_
  refine zRx.putI (a := 0) (ji := 3) pl_12_18 rfl rfl rfl dX12_taken_5 ?_
  refine zRx.aload_n 0 rfl rfl dX12_taken_8 ?_
  refine zRx.iconst ⟨by decide, by decide⟩ dX12_taken_9 ?_
  refine zRx.putI (a := 0) (ji := 2) pl_12_7 rfl rfl rfl dX12_taken_10 ?_
  refine zRx.aload_n 0 rfl rfl dX12_taken_13 ?_
  refine zRx.iconst ⟨by decide, by decide⟩ dX12_taken_14 ?_
  refine zRx.putI (a := 0) (ji := 4) pl_12_21 rfl rfl rfl dX12_taken_15 ?_
  refine zRx.aload_n 0 rfl rfl dX12_taken_18 ?_
  refine zRx.iload_n 1 rfl rfl dX12_taken_19 ?_
  refine zRx.putI (a := 0) (ji := 5) pl_12_24 rfl rfl rfl dX12_taken_20 ?_
  exact zR.ret rfl dX12_taken_23 ⟨rfl, rfl⟩

def V_X12_octet (σ : zG) (x : Int) : Int := band (σ 1 x) 255
set_option maxRecDepth 20000 in
theorem does_X12_octet (σ : zG) (x : Int) (hx : 0 ≤ x ∧ x < 940) : zDo SM 0 m_X12_octet [zP 0, .inl x] σ (zEq (some (.inl (V_X12_octet σ x))) σ) := by
  refine zDo.intro mk_X12_octet (Nat.le_of_ble_eq_true rfl) ?_
  refine zRx.aload_n 0 rfl rfl dX12_octet_0 ?_
  refine zRx.getR (a := 0) (b := 1) fl_12_14 rfl rfl dX12_octet_1 ?_
  refine zRx.iload_n 1 rfl rfl dX12_octet_4 ?_
  refine zRx.baldv (v := σ 1 x) rfl rfl (by omega) (by omega) dX12_octet_5 ?_
  refine zRx.sipush ⟨by decide, by decide⟩ rfl dX12_octet_6 ?_
  refine zRx.iand dX12_octet_9 ?_
  exact zR.iret rfl dX12_octet_10 ⟨rfl, rfl⟩

def V_X12_thrown (σ : zG)  : Int := σ 0 0
set_option maxRecDepth 20000 in
theorem does_X12_thrown (σ : zG)   : zDo SM 0 m_X12_thrown [zP 0] σ (zEq (some (.inl (V_X12_thrown σ ))) σ) := by
  refine zDo.intro mk_X12_thrown (Nat.le_of_ble_eq_true rfl) ?_
  refine zRx.aload_n 0 rfl rfl dX12_thrown_0 ?_
  refine zRx.getIv (a := 0) (ji := 0) (v := σ 0 0) rfl fl_12_1 rfl rfl rfl dX12_thrown_1 ?_
  exact zR.iret rfl dX12_thrown_4 ⟨rfl, rfl⟩

def F_X12_lay (σ : zG) (x : Int) : zG := zu (zu (zu (zu σ 34 0 (x / 25)) 34 1 ((x / 5) % 5)) 34 2 (x % 5)) 34 3 ((((x / 25) + (2 * ((x / 5) % 5))) + (3 * (x % 5))) % 5)
theorem fr_F_X12_lay (σ : zG) (x : Int) {k : Nat} (h : k ∉ [34]) : (F_X12_lay σ x) k = σ k := by
  have ne : ∀ c ∈ [34], k ≠ c := fun c hc e => h (e ▸ hc)
  unfold F_X12_lay
  repeat' split
  all_goals first | rfl | simp only [zu_row _ _ _ (ne 34 (by decide))]

set_option maxRecDepth 20000 in
theorem does_X12_lay (σ : zG) (x : Int) (hx : 0 ≤ x ∧ x < 125) : zDo SM 0 m_X12_lay [zP 0, .inl x] σ (zEq (none) (F_X12_lay σ x)) := by
  refine zDo.intro mk_X12_lay (Nat.le_of_ble_eq_true rfl) ?_
  refine zRx.aload_n 0 rfl rfl dX12_lay_0 ?_
  refine zRx.getR (a := 0) (b := 34) fl_12_132 rfl rfl dX12_lay_1 ?_
  refine zRx.iconst ⟨by decide, by decide⟩ dX12_lay_4 ?_
  refine zRx.iload_n 1 rfl rfl dX12_lay_5 ?_
  refine zRx.bipush ⟨by decide, by decide⟩ rfl dX12_lay_6 ?_
  refine zRx.idiv (by omega) (by omega) dX12_lay_8 ?_
  refine zRx.iast rfl (by decide) (by decide) dX12_lay_9 ?_
  refine zRx.aload_n 0 rfl rfl dX12_lay_10 ?_
  refine zRx.getR (a := 0) (b := 34) fl_12_132 rfl rfl dX12_lay_11 ?_
  refine zRx.iconst ⟨by decide, by decide⟩ dX12_lay_14 ?_
  refine zRx.iload_n 1 rfl rfl dX12_lay_15 ?_
  refine zRx.iconst ⟨by decide, by decide⟩ dX12_lay_16 ?_
  refine zRx.idiv (by omega) (by omega) dX12_lay_17 ?_
  refine zRx.iconst ⟨by decide, by decide⟩ dX12_lay_18 ?_
  refine zRx.irem (by omega) (by omega) dX12_lay_19 ?_
  refine zRx.iast rfl (by decide) (by decide) dX12_lay_20 ?_
  refine zRx.aload_n 0 rfl rfl dX12_lay_21 ?_
  refine zRx.getR (a := 0) (b := 34) fl_12_132 rfl rfl dX12_lay_22 ?_
  refine zRx.iconst ⟨by decide, by decide⟩ dX12_lay_25 ?_
  refine zRx.iload_n 1 rfl rfl dX12_lay_26 ?_
  refine zRx.iconst ⟨by decide, by decide⟩ dX12_lay_27 ?_
  refine zRx.irem (by omega) (by omega) dX12_lay_28 ?_
  refine zRx.iast rfl (by decide) (by decide) dX12_lay_29 ?_
  refine zRx.aload_n 0 rfl rfl dX12_lay_30 ?_
  refine zRx.getR (a := 0) (b := 34) fl_12_132 rfl rfl dX12_lay_31 ?_
  refine zRx.iconst ⟨by decide, by decide⟩ dX12_lay_34 ?_
  refine zRx.aload_n 0 rfl rfl dX12_lay_35 ?_
  refine zRx.getR (a := 0) (b := 34) fl_12_132 rfl rfl dX12_lay_36 ?_
  refine zRx.iconst ⟨by decide, by decide⟩ dX12_lay_39 ?_
  refine zRx.ialdv (v := x / 25) ((zu_off _ _ _ (by decide)).trans ((zu_off _ _ _ (by decide)).trans (zu_at _ _ _ _))) rfl (by decide) (by decide) dX12_lay_40 ?_
  refine zRx.iconst ⟨by decide, by decide⟩ dX12_lay_41 ?_
  refine zRx.aload_n 0 rfl rfl dX12_lay_42 ?_
  refine zRx.getR (a := 0) (b := 34) fl_12_132 rfl rfl dX12_lay_43 ?_
  refine zRx.iconst ⟨by decide, by decide⟩ dX12_lay_46 ?_
  refine zRx.ialdv (v := (x / 5) % 5) ((zu_off _ _ _ (by decide)).trans (zu_at _ _ _ _)) rfl (by decide) (by decide) dX12_lay_47 ?_
  refine zRx.imul ⟨by omega, by omega⟩ dX12_lay_48 ?_
  refine zRx.iadd ⟨by omega, by omega⟩ dX12_lay_49 ?_
  refine zRx.iconst ⟨by decide, by decide⟩ dX12_lay_50 ?_
  refine zRx.aload_n 0 rfl rfl dX12_lay_51 ?_
  refine zRx.getR (a := 0) (b := 34) fl_12_132 rfl rfl dX12_lay_52 ?_
  refine zRx.iconst ⟨by decide, by decide⟩ dX12_lay_55 ?_
  refine zRx.ialdv (v := x % 5) (zu_at _ _ _ _) rfl (by decide) (by decide) dX12_lay_56 ?_
  refine zRx.imul ⟨by omega, by omega⟩ dX12_lay_57 ?_
  refine zRx.iadd ⟨by omega, by omega⟩ dX12_lay_58 ?_
  refine zRx.iconst ⟨by decide, by decide⟩ dX12_lay_59 ?_
  refine zRx.irem (by omega) (by omega) dX12_lay_60 ?_
  refine zRx.iast rfl (by decide) (by decide) dX12_lay_61 ?_
  exact zR.ret rfl dX12_lay_62 ⟨rfl, rfl⟩

def V_X11_cord (x i : Int) : Int := if 0 ≤ x ∧ x < 125 then (if i < 0 then (-1) else (if 4 ≤ i then (-1) else (V_X11_knotsAt x i))) else (-1)
set_option maxRecDepth 20000 in
theorem does_X11_cord (σ : zG) (x i : Int)  : zDo SC 1 m_X11_cord [zP 0, .inl x, .inl i] σ (zEq (some (.inl (V_X11_cord x i))) σ) := by
  refine zDo.intro mk_X11_cord (Nat.le_of_ble_eq_true rfl) ?_
  refine zRx.iload_n 1 rfl rfl dX11_cord_0 ?_
  refine zRx.cSi (w := .inl (b2 (0 ≤ x ∧ x < 125))) (M := m_X11_isLength) (av := [.inl x]) cs_11_333 mk_X11_isLength (by decide) rfl (Nat.le_of_ble_eq_true rfl) dX11_cord_1 (does_X11_isLength x SC σ) ?_
  refine zRx.if_eqB (tgt := 24) dX11_cord_4 (by decide) (fun c4 => ?_) (fun c4 => ?_)
  · refine zRx.iconst ⟨by decide, by decide⟩ dX11_cord_24 ?_
    exact zR.iret rfl dX11_cord_25 ⟨by unfold V_X11_cord; rw [if_neg c4], rfl⟩
  · refine zRx.iload_n 2 rfl rfl dX11_cord_7 ?_
    refine zRx.if_lt (tgt := 24) dX11_cord_8 (by decide) (fun c8 => ?_) (fun c8 => ?_)
    · refine zRx.iconst ⟨by decide, by decide⟩ dX11_cord_24 ?_
      exact zR.iret rfl dX11_cord_25 ⟨by unfold V_X11_cord; rw [if_pos c4, if_pos c8], rfl⟩
    · refine zRx.iload_n 2 rfl rfl dX11_cord_11 ?_
      refine zRx.iconst ⟨by decide, by decide⟩ dX11_cord_12 ?_
      refine zRx.icmp_ge (tgt := 24) dX11_cord_13 (by decide) (fun c13 => ?_) (fun c13 => ?_)
      · refine zRx.iconst ⟨by decide, by decide⟩ dX11_cord_24 ?_
        exact zR.iret rfl dX11_cord_25 ⟨by unfold V_X11_cord; rw [if_pos c4, if_neg (Int.not_lt.mpr c8), if_pos c13], rfl⟩
      · refine zRx.iload_n 1 rfl rfl dX11_cord_16 ?_
        refine zRx.iload_n 2 rfl rfl dX11_cord_17 ?_
        refine zRx.cSi (w := .inl (V_X11_knotsAt x i)) (M := m_X11_knotsAt) (av := [.inl x, .inl i]) cs_11_336 mk_X11_knotsAt (by decide) rfl (Nat.le_of_ble_eq_true rfl) dX11_cord_18 (does_X11_knotsAt σ x i SC (by omega)) ?_
        refine zRx.goto (tgt := 25) dX11_cord_21 (by decide) ?_
        exact zR.iret rfl dX11_cord_25 ⟨by unfold V_X11_cord; rw [if_pos c4, if_neg (Int.not_lt.mpr c8), if_neg (Int.not_le.mpr c13)], rfl⟩

def V_X12_cord (σ : zG) (x i : Int) : Int := if 0 ≤ x ∧ x ≤ 124 then (if 0 ≤ i ∧ i ≤ 3 then ((F_X12_lay (zu σ 0 0 0) x) 34 i) else (-1)) else (-1)
def F_X12_cord (σ : zG) (x i : Int) : zG := if 0 ≤ x ∧ x ≤ 124 then (if 0 ≤ i ∧ i ≤ 3 then (F_X12_lay (zu σ 0 0 0) x) else (zu σ 0 0 0)) else (zu σ 0 0 0)
theorem fr_F_X12_cord (σ : zG) (x i : Int) {k : Nat} (h : k ∉ [0, 34]) : (F_X12_cord σ x i) k = σ k := by
  have ne : ∀ c ∈ [0, 34], k ≠ c := fun c hc e => h (e ▸ hc)
  have nk_F_X12_lay : k ∉ [34] := fun hm => h (by revert hm; simp only [List.mem_cons, List.not_mem_nil, or_false]; omega)
  unfold F_X12_cord
  repeat' split
  all_goals first | rfl | simp only [zu_row _ _ _ (ne 0 (by decide)), zu_row _ _ _ (ne 34 (by decide)), fr_F_X12_lay (h := nk_F_X12_lay)]

set_option maxRecDepth 20000 in
theorem does_X12_cord (σ : zG) (x i : Int)  : zDo SM 1 m_X12_cord [zP 0, .inl x, .inl i] σ (zEq (some (.inl (V_X12_cord σ x i))) (F_X12_cord σ x i)) := by
  refine zDo.intro mk_X12_cord (Nat.le_of_ble_eq_true rfl) ?_
  refine zRx.aload_n 0 rfl rfl dX12_cord_0 ?_
  refine zRx.iconst ⟨by decide, by decide⟩ dX12_cord_1 ?_
  refine zRx.putI (a := 0) (ji := 0) pl_12_1 rfl rfl rfl dX12_cord_2 ?_
  refine zRx.iload_n 1 rfl rfl dX12_cord_5 ?_
  refine zRx.iconst ⟨by decide, by decide⟩ dX12_cord_6 ?_
  refine zRx.bipush ⟨by decide, by decide⟩ rfl dX12_cord_7 ?_
  refine zRx.cSi (w := .inl (b2 (0 ≤ x ∧ x ≤ 124))) (M := m_X12_isIn) (av := [.inl x, .inl 0, .inl 124]) cs_12_254 mk_X12_isIn (by decide) rfl (Nat.le_of_ble_eq_true rfl) dX12_cord_9 (does_X12_isIn x 0 124 SM (zu σ 0 0 0)) ?_
  refine zRx.if_eqB (tgt := 24) dX12_cord_12 (by decide) (fun c12 => ?_) (fun c12 => ?_)
  · refine zRx.iconst ⟨by decide, by decide⟩ dX12_cord_24 ?_
    exact zR.iret rfl dX12_cord_25 ⟨by unfold V_X12_cord; rw [if_neg c12], by unfold F_X12_cord; rw [if_neg c12]⟩
  · refine zRx.iload_n 2 rfl rfl dX12_cord_15 ?_
    refine zRx.iconst ⟨by decide, by decide⟩ dX12_cord_16 ?_
    refine zRx.iconst ⟨by decide, by decide⟩ dX12_cord_17 ?_
    refine zRx.cSi (w := .inl (b2 (0 ≤ i ∧ i ≤ 3))) (M := m_X12_isIn) (av := [.inl i, .inl 0, .inl 3]) cs_12_254 mk_X12_isIn (by decide) rfl (Nat.le_of_ble_eq_true rfl) dX12_cord_18 (does_X12_isIn i 0 3 SM (zu σ 0 0 0)) ?_
    refine zRx.if_neB (tgt := 26) dX12_cord_21 (by decide) (fun c21 => ?_) (fun c21 => ?_)
    · refine zRx.aload_n 0 rfl rfl dX12_cord_26 ?_
      refine zRx.iload_n 1 rfl rfl dX12_cord_27 ?_
      refine zRx.cVv (M := m_X12_lay) (av := [.inl x]) cv_12_454 mk_X12_lay (by decide) (b := 0) rfl rfl (Nat.le_of_ble_eq_true rfl) dX12_cord_28 (does_X12_lay (zu σ 0 0 0) x (by omega)) ?_
      refine zRx.aload_n 0 rfl rfl dX12_cord_31 ?_
      refine zRx.getR (a := 0) (b := 34) fl_12_132 rfl rfl dX12_cord_32 ?_
      refine zRx.iload_n 2 rfl rfl dX12_cord_35 ?_
      refine zRx.ialdv (v := (F_X12_lay (zu σ 0 0 0) x) 34 i) rfl rfl (by omega) (by omega) dX12_cord_36 ?_
      exact zR.iret rfl dX12_cord_37 ⟨by unfold V_X12_cord; rw [if_pos c12, if_pos c21], by unfold F_X12_cord; rw [if_pos c12, if_pos c21]⟩
    · refine zRx.iconst ⟨by decide, by decide⟩ dX12_cord_24 ?_
      exact zR.iret rfl dX12_cord_25 ⟨by unfold V_X12_cord; rw [if_pos c12, if_neg c21], by unfold F_X12_cord; rw [if_pos c12, if_neg c21]⟩

theorem lay_r (σ : zG) (x : Int) (hx : 0 ≤ x ∧ x < 125) : ∀ j : Int, 0 ≤ j → j < 4 → 0 ≤ F_X12_lay σ x 34 j ∧ F_X12_lay σ x 34 j ≤ 4 := by
  intro j h0 h4
  unfold F_X12_lay
  rcases (show j = 0 ∨ j = 1 ∨ j = 2 ∨ j = 3 by omega) with rfl | rfl | rfl | rfl <;> simp [zu] <;> omega

def L_X12_measure_7 (x : Int) : Nat → Int → zG → zG
  | 0, _, σ => σ
  | n + 1, i, σ => if 4 ≤ i then σ else (if (V_X12_draw σ 10) = 0 then (if 4 ≤ (σ 34 i) then (if (V_X12_draw σ 10) = 1 then (if (σ 34 i) ≤ 0 then (L_X12_measure_7 x n (i + 1) (zu (F_X12_draw σ 10) 35 i ((σ 34 i) + 0))) else (L_X12_measure_7 x n (i + 1) (zu (F_X12_draw σ 10) 35 i ((σ 34 i) + (-1))))) else (L_X12_measure_7 x n (i + 1) (zu (F_X12_draw σ 10) 35 i ((σ 34 i) + 0)))) else (L_X12_measure_7 x n (i + 1) (zu (F_X12_draw σ 10) 35 i ((σ 34 i) + 1)))) else (if (V_X12_draw σ 10) = 1 then (if (σ 34 i) ≤ 0 then (L_X12_measure_7 x n (i + 1) (zu (F_X12_draw σ 10) 35 i ((σ 34 i) + 0))) else (L_X12_measure_7 x n (i + 1) (zu (F_X12_draw σ 10) 35 i ((σ 34 i) + (-1))))) else (L_X12_measure_7 x n (i + 1) (zu (F_X12_draw σ 10) 35 i ((σ 34 i) + 0)))))
theorem fr_L_X12_measure_7 (x : Int)  (n : Nat) (i : Int) (σ : zG) {k : Nat} (h : k ∉ [0, 35]) : (L_X12_measure_7 x n i σ) k = σ k := by
  induction n generalizing i σ with
  | zero => rfl
  | succ n ih =>
    have ne : ∀ c ∈ [0, 35], k ≠ c := fun c hc e => h (e ▸ hc)
    have nk_F_X12_draw : k ∉ [0] := fun hm => h (by revert hm; simp only [List.mem_cons, List.not_mem_nil, or_false]; omega)
    rw [L_X12_measure_7]
    repeat' split
    all_goals first | rfl | simp only [zu_row _ _ _ (ne 0 (by decide)), zu_row _ _ _ (ne 35 (by decide)), fr_F_X12_draw (h := nk_F_X12_draw), ih]

set_option maxRecDepth 20000 in
theorem loop_X12_measure_7 (x : Int)  : ∀ (n : Nat) (i : Int) (σ : zG), 0 ≤ i ∧ i ≤ 4 → (∀ j : Int, 0 ≤ j → j < 4 → 0 ≤ σ 34 j ∧ σ 34 j ≤ 4) → (4 - i).toNat < n → zR SM 1 m_X12_measure 7 [(0, zP 0), (1, .inl x), (2, .inl i)] [] σ (zEq none (L_X12_measure_7 x n i σ)) := by
  intro n
  induction n with
  | zero => intro i σ h0 hK hmz; exact absurd hmz (Nat.not_lt_zero _)
  | succ n ih =>
    intro i σ h0 hK hmz
    refine zRx.iload_n 2 rfl rfl dX12_measure_7 ?_
    refine zRx.iconst ⟨by decide, by decide⟩ dX12_measure_8 ?_
    refine zRx.icmp_ge (tgt := 75) dX12_measure_9 (by decide) (fun c9 => ?_) (fun c9 => ?_)
    · exact zR.ret rfl dX12_measure_75 ⟨rfl, (by rw [L_X12_measure_7, if_pos c9] : L_X12_measure_7 x (n + 1) i σ = σ).symm⟩
    · refine zRx.aload_n 0 rfl rfl dX12_measure_12 ?_
      refine zRx.bipush ⟨by decide, by decide⟩ rfl dX12_measure_13 ?_
      refine zRx.cVi (w := .inl (V_X12_draw σ 10)) (M := m_X12_draw) (av := [.inl 10]) cv_12_351 mk_X12_draw (by decide) (b := 0) rfl rfl (Nat.le_of_ble_eq_true rfl) dX12_measure_15 (does_X12_draw σ 10 (by decide)) ?_
      refine zRx.istore_n (ls' := [(0, zP 0), (1, .inl x), (2, .inl i), (3, .inl (V_X12_draw σ 10))]) rfl rfl (by decide) dX12_measure_18 ?_
      have kA := hK i (by omega) (by omega)
      refine zRx.aload_n 0 rfl rfl dX12_measure_19 ?_
      refine zRx.getR (a := 0) (b := 35) fl_12_135 rfl rfl dX12_measure_20 ?_
      refine zRx.iload_n 2 rfl rfl dX12_measure_23 ?_
      refine zRx.aload_n 0 rfl rfl dX12_measure_24 ?_
      refine zRx.getR (a := 0) (b := 34) fl_12_132 rfl rfl dX12_measure_25 ?_
      refine zRx.iload_n 2 rfl rfl dX12_measure_28 ?_
      refine zRx.ialdv (v := σ 34 i) (congrFun (fr_F_X12_draw σ 10 (k := 34) (by decide)) _) rfl (by omega) (by omega) dX12_measure_29 ?_
      refine zRx.iload_n 3 rfl rfl dX12_measure_30 ?_
      refine zRx.if_ne (tgt := 48) dX12_measure_31 (by decide) (fun c31 => ?_) (fun c31 => ?_)
      · refine zRx.iload_n 3 rfl rfl dX12_measure_48 ?_
        refine zRx.iconst ⟨by decide, by decide⟩ dX12_measure_49 ?_
        refine zRx.icmp_ne (tgt := 66) dX12_measure_50 (by decide) (fun c50 => ?_) (fun c50 => ?_)
        · refine zRx.iconst ⟨by decide, by decide⟩ dX12_measure_66 ?_
          refine zRx.iadd ⟨by omega, by omega⟩ dX12_measure_67 ?_
          refine zRx.iast rfl (by omega) (by omega) dX12_measure_68 ?_
          refine zRx.iinc (n := 1) (ls' := [(0, zP 0), (1, .inl x), (2, .inl (i + 1)), (3, .inl (V_X12_draw σ 10))]) 2 rfl ⟨by omega, by omega⟩ rfl (by decide) dX12_measure_69 ?_
          refine zRx.goto (tgt := 7) dX12_measure_72 (by decide) ?_
          refine zRx.pick [0, 1, 2] (ls' := [(0, zP 0), (1, .inl x), (2, .inl (i + 1))]) rfl ?_
          have he : L_X12_measure_7 x (n + 1) i σ = L_X12_measure_7 x n (i + 1) (zu (F_X12_draw σ 10) 35 i ((σ 34 i) + 0)) := by rw [L_X12_measure_7, if_neg (Int.not_le.mpr c9), if_neg c31, if_neg c50]
          rw [he]
          exact ih (i + 1) (zu (F_X12_draw σ 10) 35 i ((σ 34 i) + 0)) (by omega) (fun j j0 j4 => by rw [show (zu (F_X12_draw σ 10) 35 i ((σ 34 i) + 0)) 34 j = σ 34 j from ((zu_ne _ _ _ _ (by decide)).trans (congrFun (fr_F_X12_draw σ 10 (k := 34) (by decide)) _))]; exact hK j j0 j4) (by omega)
        · refine zRx.aload_n 0 rfl rfl dX12_measure_53 ?_
          refine zRx.getR (a := 0) (b := 34) fl_12_132 rfl rfl dX12_measure_54 ?_
          refine zRx.iload_n 2 rfl rfl dX12_measure_57 ?_
          refine zRx.ialdv (v := σ 34 i) (congrFun (fr_F_X12_draw σ 10 (k := 34) (by decide)) _) rfl (by omega) (by omega) dX12_measure_58 ?_
          refine zRx.if_le (tgt := 66) dX12_measure_59 (by decide) (fun c59 => ?_) (fun c59 => ?_)
          · refine zRx.iconst ⟨by decide, by decide⟩ dX12_measure_66 ?_
            refine zRx.iadd ⟨by omega, by omega⟩ dX12_measure_67 ?_
            refine zRx.iast rfl (by omega) (by omega) dX12_measure_68 ?_
            refine zRx.iinc (n := 1) (ls' := [(0, zP 0), (1, .inl x), (2, .inl (i + 1)), (3, .inl (V_X12_draw σ 10))]) 2 rfl ⟨by omega, by omega⟩ rfl (by decide) dX12_measure_69 ?_
            refine zRx.goto (tgt := 7) dX12_measure_72 (by decide) ?_
            refine zRx.pick [0, 1, 2] (ls' := [(0, zP 0), (1, .inl x), (2, .inl (i + 1))]) rfl ?_
            have he : L_X12_measure_7 x (n + 1) i σ = L_X12_measure_7 x n (i + 1) (zu (F_X12_draw σ 10) 35 i ((σ 34 i) + 0)) := by rw [L_X12_measure_7, if_neg (Int.not_le.mpr c9), if_neg c31, if_pos c50, if_pos c59]
            rw [he]
            exact ih (i + 1) (zu (F_X12_draw σ 10) 35 i ((σ 34 i) + 0)) (by omega) (fun j j0 j4 => by rw [show (zu (F_X12_draw σ 10) 35 i ((σ 34 i) + 0)) 34 j = σ 34 j from ((zu_ne _ _ _ _ (by decide)).trans (congrFun (fr_F_X12_draw σ 10 (k := 34) (by decide)) _))]; exact hK j j0 j4) (by omega)
          · refine zRx.iconst ⟨by decide, by decide⟩ dX12_measure_62 ?_
            refine zRx.goto (tgt := 67) dX12_measure_63 (by decide) ?_
            refine zRx.iadd ⟨by omega, by omega⟩ dX12_measure_67 ?_
            refine zRx.iast rfl (by omega) (by omega) dX12_measure_68 ?_
            refine zRx.iinc (n := 1) (ls' := [(0, zP 0), (1, .inl x), (2, .inl (i + 1)), (3, .inl (V_X12_draw σ 10))]) 2 rfl ⟨by omega, by omega⟩ rfl (by decide) dX12_measure_69 ?_
            refine zRx.goto (tgt := 7) dX12_measure_72 (by decide) ?_
            refine zRx.pick [0, 1, 2] (ls' := [(0, zP 0), (1, .inl x), (2, .inl (i + 1))]) rfl ?_
            have he : L_X12_measure_7 x (n + 1) i σ = L_X12_measure_7 x n (i + 1) (zu (F_X12_draw σ 10) 35 i ((σ 34 i) + (-1))) := by rw [L_X12_measure_7, if_neg (Int.not_le.mpr c9), if_neg c31, if_pos c50, if_neg (Int.not_le.mpr c59)]
            rw [he]
            exact ih (i + 1) (zu (F_X12_draw σ 10) 35 i ((σ 34 i) + (-1))) (by omega) (fun j j0 j4 => by rw [show (zu (F_X12_draw σ 10) 35 i ((σ 34 i) + (-1))) 34 j = σ 34 j from ((zu_ne _ _ _ _ (by decide)).trans (congrFun (fr_F_X12_draw σ 10 (k := 34) (by decide)) _))]; exact hK j j0 j4) (by omega)
      · refine zRx.aload_n 0 rfl rfl dX12_measure_34 ?_
        refine zRx.getR (a := 0) (b := 34) fl_12_132 rfl rfl dX12_measure_35 ?_
        refine zRx.iload_n 2 rfl rfl dX12_measure_38 ?_
        refine zRx.ialdv (v := σ 34 i) (congrFun (fr_F_X12_draw σ 10 (k := 34) (by decide)) _) rfl (by omega) (by omega) dX12_measure_39 ?_
        refine zRx.iconst ⟨by decide, by decide⟩ dX12_measure_40 ?_
        refine zRx.icmp_ge (tgt := 48) dX12_measure_41 (by decide) (fun c41 => ?_) (fun c41 => ?_)
        · refine zRx.iload_n 3 rfl rfl dX12_measure_48 ?_
          refine zRx.iconst ⟨by decide, by decide⟩ dX12_measure_49 ?_
          refine zRx.icmp_ne (tgt := 66) dX12_measure_50 (by decide) (fun c50 => ?_) (fun c50 => ?_)
          · refine zRx.iconst ⟨by decide, by decide⟩ dX12_measure_66 ?_
            refine zRx.iadd ⟨by omega, by omega⟩ dX12_measure_67 ?_
            refine zRx.iast rfl (by omega) (by omega) dX12_measure_68 ?_
            refine zRx.iinc (n := 1) (ls' := [(0, zP 0), (1, .inl x), (2, .inl (i + 1)), (3, .inl (V_X12_draw σ 10))]) 2 rfl ⟨by omega, by omega⟩ rfl (by decide) dX12_measure_69 ?_
            refine zRx.goto (tgt := 7) dX12_measure_72 (by decide) ?_
            refine zRx.pick [0, 1, 2] (ls' := [(0, zP 0), (1, .inl x), (2, .inl (i + 1))]) rfl ?_
            have he : L_X12_measure_7 x (n + 1) i σ = L_X12_measure_7 x n (i + 1) (zu (F_X12_draw σ 10) 35 i ((σ 34 i) + 0)) := by rw [L_X12_measure_7, if_neg (Int.not_le.mpr c9), if_pos c31, if_pos c41, if_neg c50]
            rw [he]
            exact ih (i + 1) (zu (F_X12_draw σ 10) 35 i ((σ 34 i) + 0)) (by omega) (fun j j0 j4 => by rw [show (zu (F_X12_draw σ 10) 35 i ((σ 34 i) + 0)) 34 j = σ 34 j from ((zu_ne _ _ _ _ (by decide)).trans (congrFun (fr_F_X12_draw σ 10 (k := 34) (by decide)) _))]; exact hK j j0 j4) (by omega)
          · refine zRx.aload_n 0 rfl rfl dX12_measure_53 ?_
            refine zRx.getR (a := 0) (b := 34) fl_12_132 rfl rfl dX12_measure_54 ?_
            refine zRx.iload_n 2 rfl rfl dX12_measure_57 ?_
            refine zRx.ialdv (v := σ 34 i) (congrFun (fr_F_X12_draw σ 10 (k := 34) (by decide)) _) rfl (by omega) (by omega) dX12_measure_58 ?_
            refine zRx.if_le (tgt := 66) dX12_measure_59 (by decide) (fun c59 => ?_) (fun c59 => ?_)
            · refine zRx.iconst ⟨by decide, by decide⟩ dX12_measure_66 ?_
              refine zRx.iadd ⟨by omega, by omega⟩ dX12_measure_67 ?_
              refine zRx.iast rfl (by omega) (by omega) dX12_measure_68 ?_
              refine zRx.iinc (n := 1) (ls' := [(0, zP 0), (1, .inl x), (2, .inl (i + 1)), (3, .inl (V_X12_draw σ 10))]) 2 rfl ⟨by omega, by omega⟩ rfl (by decide) dX12_measure_69 ?_
              refine zRx.goto (tgt := 7) dX12_measure_72 (by decide) ?_
              refine zRx.pick [0, 1, 2] (ls' := [(0, zP 0), (1, .inl x), (2, .inl (i + 1))]) rfl ?_
              have he : L_X12_measure_7 x (n + 1) i σ = L_X12_measure_7 x n (i + 1) (zu (F_X12_draw σ 10) 35 i ((σ 34 i) + 0)) := by rw [L_X12_measure_7, if_neg (Int.not_le.mpr c9), if_pos c31, if_pos c41, if_pos c50, if_pos c59]
              rw [he]
              exact ih (i + 1) (zu (F_X12_draw σ 10) 35 i ((σ 34 i) + 0)) (by omega) (fun j j0 j4 => by rw [show (zu (F_X12_draw σ 10) 35 i ((σ 34 i) + 0)) 34 j = σ 34 j from ((zu_ne _ _ _ _ (by decide)).trans (congrFun (fr_F_X12_draw σ 10 (k := 34) (by decide)) _))]; exact hK j j0 j4) (by omega)
            · refine zRx.iconst ⟨by decide, by decide⟩ dX12_measure_62 ?_
              refine zRx.goto (tgt := 67) dX12_measure_63 (by decide) ?_
              refine zRx.iadd ⟨by omega, by omega⟩ dX12_measure_67 ?_
              refine zRx.iast rfl (by omega) (by omega) dX12_measure_68 ?_
              refine zRx.iinc (n := 1) (ls' := [(0, zP 0), (1, .inl x), (2, .inl (i + 1)), (3, .inl (V_X12_draw σ 10))]) 2 rfl ⟨by omega, by omega⟩ rfl (by decide) dX12_measure_69 ?_
              refine zRx.goto (tgt := 7) dX12_measure_72 (by decide) ?_
              refine zRx.pick [0, 1, 2] (ls' := [(0, zP 0), (1, .inl x), (2, .inl (i + 1))]) rfl ?_
              have he : L_X12_measure_7 x (n + 1) i σ = L_X12_measure_7 x n (i + 1) (zu (F_X12_draw σ 10) 35 i ((σ 34 i) + (-1))) := by rw [L_X12_measure_7, if_neg (Int.not_le.mpr c9), if_pos c31, if_pos c41, if_pos c50, if_neg (Int.not_le.mpr c59)]
              rw [he]
              exact ih (i + 1) (zu (F_X12_draw σ 10) 35 i ((σ 34 i) + (-1))) (by omega) (fun j j0 j4 => by rw [show (zu (F_X12_draw σ 10) 35 i ((σ 34 i) + (-1))) 34 j = σ 34 j from ((zu_ne _ _ _ _ (by decide)).trans (congrFun (fr_F_X12_draw σ 10 (k := 34) (by decide)) _))]; exact hK j j0 j4) (by omega)
        · refine zRx.iconst ⟨by decide, by decide⟩ dX12_measure_44 ?_
          refine zRx.goto (tgt := 67) dX12_measure_45 (by decide) ?_
          refine zRx.iadd ⟨by omega, by omega⟩ dX12_measure_67 ?_
          refine zRx.iast rfl (by omega) (by omega) dX12_measure_68 ?_
          refine zRx.iinc (n := 1) (ls' := [(0, zP 0), (1, .inl x), (2, .inl (i + 1)), (3, .inl (V_X12_draw σ 10))]) 2 rfl ⟨by omega, by omega⟩ rfl (by decide) dX12_measure_69 ?_
          refine zRx.goto (tgt := 7) dX12_measure_72 (by decide) ?_
          refine zRx.pick [0, 1, 2] (ls' := [(0, zP 0), (1, .inl x), (2, .inl (i + 1))]) rfl ?_
          have he : L_X12_measure_7 x (n + 1) i σ = L_X12_measure_7 x n (i + 1) (zu (F_X12_draw σ 10) 35 i ((σ 34 i) + 1)) := by rw [L_X12_measure_7, if_neg (Int.not_le.mpr c9), if_pos c31, if_neg (Int.not_le.mpr c41)]
          rw [he]
          exact ih (i + 1) (zu (F_X12_draw σ 10) 35 i ((σ 34 i) + 1)) (by omega) (fun j j0 j4 => by rw [show (zu (F_X12_draw σ 10) 35 i ((σ 34 i) + 1)) 34 j = σ 34 j from ((zu_ne _ _ _ _ (by decide)).trans (congrFun (fr_F_X12_draw σ 10 (k := 34) (by decide)) _))]; exact hK j j0 j4) (by omega)
def R_X12_measure (σ : zG) (x : Int) : zG := L_X12_measure_7 x 10 0 (F_X12_lay σ x)
theorem fr_R_X12_measure (σ : zG) (x : Int) {k : Nat} (h : k ∉ [0, 34, 35]) : (R_X12_measure σ x) k = σ k := by
  have ne : ∀ c ∈ [0, 34, 35], k ≠ c := fun c hc e => h (e ▸ hc)
  have nk_F_X12_lay : k ∉ [34] := fun hm => h (by revert hm; simp only [List.mem_cons, List.not_mem_nil, or_false]; omega)
  have nl_L_X12_measure_7 : k ∉ [0, 35] := fun hm => h (by revert hm; simp only [List.mem_cons, List.not_mem_nil, or_false]; omega)
  unfold R_X12_measure
  repeat' split
  all_goals first | rfl | simp only [zu_row _ _ _ (ne 0 (by decide)), zu_row _ _ _ (ne 34 (by decide)), zu_row _ _ _ (ne 35 (by decide)), fr_F_X12_lay (h := nk_F_X12_lay), fr_L_X12_measure_7 (h := nl_L_X12_measure_7)]

set_option maxRecDepth 20000 in
theorem does_X12_measure (σ : zG) (x : Int) (hn : 0 ≤ x ∧ x < 125)  : zDo SM 1 m_X12_measure [zP 0, .inl x] σ (zEq none (R_X12_measure σ x)) := by
  refine zDo.intro mk_X12_measure (Nat.le_of_ble_eq_true rfl) ?_
  refine zRx.aload_n 0 rfl rfl dX12_measure_0 ?_
  refine zRx.iload_n 1 rfl rfl dX12_measure_1 ?_
  refine zRx.cVv (M := m_X12_lay) (av := [.inl x]) cv_12_454 mk_X12_lay (by decide) (b := 0) rfl rfl (Nat.le_of_ble_eq_true rfl) dX12_measure_2 (does_X12_lay σ x (by omega)) ?_
  refine zRx.iconst ⟨by decide, by decide⟩ dX12_measure_5 ?_
  refine zRx.istore_n (ls' := [(0, zP 0), (1, .inl x), (2, .inl 0)]) rfl rfl (by decide) dX12_measure_6 ?_
  have he : R_X12_measure σ x = L_X12_measure_7 x 10 0 (F_X12_lay σ x) := by rw [R_X12_measure]
  rw [he]
  exact loop_X12_measure_7 x   10 0 (F_X12_lay σ x) (by omega) (lay_r σ x hn) (by omega)

