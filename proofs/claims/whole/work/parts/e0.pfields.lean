/-! pure: fields of the model's own row that a method keeps -/
theorem g_F_X12_next {j : Int} (h : j = 2 ∨ j = 60) (σ : zG) : (F_X12_next σ) 0 j = σ 0 j := kp_next σ j (by unfold KI; omega)
set_option maxRecDepth 20000 in
theorem g_F_X12_owes {j : Int} (h : j = 2 ∨ j = 15 ∨ j = 60) (σ : zG) (who to f kn li : Int) : (F_X12_owes σ who to f kn li) 0 j = σ 0 j := by
  have n43 : ¬ j = 43 := by omega
  unfold F_X12_owes
  repeat' split
  all_goals first | rfl | (simp [zu, zcp, zfl, n43, if_false, if_true]; done)
set_option maxRecDepth 20000 in
theorem g_R_X12_tells {j : Int} (h : j = 2 ∨ j = 15 ∨ j = 60) (σ : zG) (who to f li : Int) : (R_X12_tells σ who to f li) 0 j = σ 0 j := by
  have n45 : ¬ j = 45 := by omega
  unfold R_X12_tells
  repeat' split
  all_goals first | rfl | (simp [zu, zcp, zfl, fr_R_X12_learns (k := 0) (h := by simp), fr_S_X12_tells_11 (k := 0) (h := by simp), n45, if_false, if_true]; done)
set_option maxRecDepth 20000 in
theorem g_R_X12_begin {j : Int} (h : j = 2 ∨ j = 15 ∨ j = 60) (σ : zG) : (R_X12_begin σ ) 0 j = σ 0 j := by
  have n43 : ¬ j = 43 := by omega
  have n44 : ¬ j = 44 := by omega
  have n45 : ¬ j = 45 := by omega
  have n46 : ¬ j = 46 := by omega
  unfold R_X12_begin
  repeat' split
  all_goals first | rfl | (simp [zu, zcp, zfl, fr_S_X12_begin_2 (k := 0) (h := by simp), fr_S_X12_begin_49 (k := 0) (h := by simp), n43, n44, n45, n46, if_false, if_true]; done)
set_option maxRecDepth 20000 in
theorem g_L_X12_does_146 {j : Int} (h : j = 2 ∨ j = 15 ∨ j = 60) (i : Int) (to f nn ea : Int)  (n : Nat) (q : Int) (σ : zG) : (L_X12_does_146 i to f nn ea n q σ).2 0 j = σ 0 j := by
  induction n generalizing q σ with
  | zero => rfl
  | succ n ih =>
    rw [L_X12_does_146]
    repeat' split
    all_goals first | rfl | (simp [zu, zcp, zfl, g_F_X12_owes (j := j) (by omega), ih, if_false, if_true]; done)
set_option maxRecDepth 20000 in
theorem g_R_X12_does {j : Int} (h : j = 2 ∨ j = 15 ∨ j = 60) (σ : zG) (i : Int) : (R_X12_does σ i).2 0 j = σ 0 j := by
  have n44 : ¬ j = 44 := by omega
  have n45 : ¬ j = 45 := by omega
  unfold R_X12_does
  repeat' split
  all_goals first | rfl | (simp [zu, zcp, zfl, g_F_X12_owes (j := j) (by omega), g_L_X12_does_146 (j := j) (by omega), fr_R_X12_learns (k := 0) (h := by simp), g_R_X12_tells (j := j) (by omega), n44, n45, if_false, if_true]; done)
set_option maxRecDepth 20000 in
theorem g_L_X12_run_6 {j : Int} (h : j = 2 ∨ j = 15 ∨ j = 60) (but : Int)  (n : Nat) (q : Int) (σ : zG) : (L_X12_run_6 but n q σ) 0 j = σ 0 j := by
  have n46 : ¬ j = 46 := by omega
  induction n generalizing q σ with
  | zero => rfl
  | succ n ih =>
    rw [L_X12_run_6]
    repeat' split
    all_goals first | rfl | (simp [zu, zcp, zfl, g_R_X12_does (j := j) (by omega), n46, ih, if_false, if_true]; done)
set_option maxRecDepth 20000 in
theorem g_R_X12_run {j : Int} (h : j = 2 ∨ j = 15 ∨ j = 60) (σ : zG) (but : Int) : (R_X12_run σ but) 0 j = σ 0 j := by
  unfold R_X12_run
  repeat' split
  all_goals first | rfl | (simp [zu, zcp, zfl, g_L_X12_run_6 (j := j) (by omega), g_R_X12_begin (j := j) (by omega), if_false, if_true]; done)
set_option maxRecDepth 20000 in
theorem g_F_X12_four {j : Int} (h : j = 15 ∨ j = 60) (σ : zG) (v : Int) : F_X12_four σ v 0 j = σ 0 j := by
  have n2 : ¬ j = 2 := by omega
  unfold F_X12_four
  repeat' split
  all_goals first | rfl | (simp [zu, zcp, zfl, n2, if_false, if_true]; done)
set_option maxRecDepth 20000 in
theorem g_F_X12_draw {j : Int} (h : j = 2 ∨ j = 15 ∨ j = 60) (σ : zG) (n : Int) : F_X12_draw σ n 0 j = σ 0 j := by
  have n27 : ¬ j = 27 := by omega
  unfold F_X12_draw
  repeat' split
  all_goals first | rfl | (simp [zu, zcp, zfl, n27, if_false, if_true]; done)
set_option maxRecDepth 20000 in
theorem g_F_X12_feed {j : Int} (h : j = 15 ∨ j = 60) (σ : zG) (a b c d e : Int) : (F_X12_feed σ a b c d e) 0 j = σ 0 j := by
  have n0 : ¬ j = 0 := by omega
  unfold F_X12_feed
  repeat' split
  all_goals first | rfl | (simp [zu, zcp, zfl, g_F_X12_four (j := j) (by omega), n0, if_false, if_true]; done)
set_option maxRecDepth 20000 in
theorem g_F_X12_end {j : Int} (h : j = 15 ∨ j = 60) (σ : zG) (x : Int) : (F_X12_end σ x) 0 j = σ 0 j := by
  have n0 : ¬ j = 0 := by omega
  have n2 : ¬ j = 2 := by omega
  unfold F_X12_end
  repeat' split
  all_goals first | rfl | (simp [zu, zcp, zfl, n0, n2, if_false, if_true]; done)
set_option maxRecDepth 20000 in
theorem g_F_X12_count {j : Int} (h : j = 2 ∨ j = 15 ∨ j = 60) (σ : zG) (x : Int) : (F_X12_count σ x) 0 j = σ 0 j := by
  have n0 : ¬ j = 0 := by omega
  unfold F_X12_count
  repeat' split
  all_goals first | rfl | (simp [zu, zcp, zfl, n0, if_false, if_true]; done)
set_option maxRecDepth 20000 in
theorem g_F_X12_fault {j : Int} (h : j = 2 ∨ j = 15 ∨ j = 60) (σ : zG) : (F_X12_fault σ ) 0 j = σ 0 j := by
  have n0 : ¬ j = 0 := by omega
  unfold F_X12_fault
  repeat' split
  all_goals first | rfl | (simp [zu, zcp, zfl, n0, if_false, if_true]; done)
set_option maxRecDepth 20000 in
theorem g_F_X12_taken {j : Int} (h : j = 15 ∨ j = 60) (σ : zG) (x : Int) : (F_X12_taken σ x) 0 j = σ 0 j := by
  have n2 : ¬ j = 2 := by omega
  have n3 : ¬ j = 3 := by omega
  have n4 : ¬ j = 4 := by omega
  have n5 : ¬ j = 5 := by omega
  unfold F_X12_taken
  repeat' split
  all_goals first | rfl | (simp [zu, zcp, zfl, n2, n3, n4, n5, if_false, if_true]; done)
set_option maxRecDepth 20000 in
theorem g_F_X12_cord {j : Int} (h : j = 2 ∨ j = 15 ∨ j = 60) (σ : zG) (x i : Int) : (F_X12_cord σ x i) 0 j = σ 0 j := by
  have n0 : ¬ j = 0 := by omega
  unfold F_X12_cord
  repeat' split
  all_goals first | rfl | (simp [zu, zcp, zfl, fr_F_X12_lay (k := 0) (h := by simp), n0, if_false, if_true]; done)
set_option maxRecDepth 20000 in
theorem g_L_X12_measure_7 {j : Int} (h : j = 2 ∨ j = 15 ∨ j = 60) (x : Int)  (n : Nat) (i : Int) (σ : zG) : (L_X12_measure_7 x n i σ) 0 j = σ 0 j := by
  induction n generalizing i σ with
  | zero => rfl
  | succ n ih =>
    rw [L_X12_measure_7]
    repeat' split
    all_goals first | rfl | (simp [zu, zcp, zfl, g_F_X12_draw (j := j) (by omega), ih, if_false, if_true]; done)
set_option maxRecDepth 20000 in
theorem g_R_X12_measure {j : Int} (h : j = 2 ∨ j = 15 ∨ j = 60) (σ : zG) (x : Int) : (R_X12_measure σ x) 0 j = σ 0 j := by
  unfold R_X12_measure
  repeat' split
  all_goals first | rfl | (simp [zu, zcp, zfl, fr_F_X12_lay (k := 0) (h := by simp), g_L_X12_measure_7 (j := j) (by omega), if_false, if_true]; done)
set_option maxRecDepth 20000 in
theorem g_F_X12_takesCord {j : Int} (h : j = 15 ∨ j = 60) (σ : zG) : (F_X12_takesCord σ ) 0 j = σ 0 j := by
  have n2 : ¬ j = 2 := by omega
  have n3 : ¬ j = 3 := by omega
  have n4 : ¬ j = 4 := by omega
  have n5 : ¬ j = 5 := by omega
  unfold F_X12_takesCord
  repeat' split
  all_goals first | rfl | (simp [zu, zcp, zfl, n2, n3, n4, n5, if_false, if_true]; done)
set_option maxRecDepth 20000 in
theorem g_F_X12_measured {j : Int} (h : j = 2 ∨ j = 15 ∨ j = 60) (σ : zG) (x sd : Int) : (F_X12_measured σ x sd) 0 j = σ 0 j := by
  have n0 : ¬ j = 0 := by omega
  have n27 : ¬ j = 27 := by omega
  unfold F_X12_measured
  repeat' split
  all_goals first | rfl | (simp [zu, zcp, zfl, g_R_X12_measure (j := j) (by omega), n0, n27, if_false, if_true]; done)
set_option maxRecDepth 20000 in
theorem g_L_X12_slips_39 {j : Int} (h : j = 2 ∨ j = 15 ∨ j = 60) (x mn sd : Int)  (n : Nat) (sm q : Int) (σ : zG) : (L_X12_slips_39 x mn sd n sm q σ).2 0 j = σ 0 j := by
  induction n generalizing sm q σ with
  | zero => rfl
  | succ n ih =>
    rw [L_X12_slips_39]
    repeat' split
    all_goals first | rfl | (simp [zu, zcp, zfl, g_R_X12_measure (j := j) (by omega), ih, if_false, if_true]; done)
set_option maxRecDepth 20000 in
theorem g_R_X12_slips {j : Int} (h : j = 2 ∨ j = 15 ∨ j = 60) (σ : zG) (x mn sd : Int) : (R_X12_slips σ x mn sd).2 0 j = σ 0 j := by
  have n0 : ¬ j = 0 := by omega
  have n27 : ¬ j = 27 := by omega
  unfold R_X12_slips
  repeat' split
  all_goals first | rfl | (simp [zu, zcp, zfl, g_L_X12_slips_39 (j := j) (by omega), n0, n27, if_false, if_true]; done)
set_option maxRecDepth 20000 in
theorem g_F_X12_read {j : Int} (h : j = 15 ∨ j = 60) (σ : zG) : (F_X12_read σ ) 0 j = σ 0 j := by
  have n0 : ¬ j = 0 := by omega
  unfold F_X12_read
  repeat' split
  all_goals first | rfl | (simp [zu, zcp, zfl, g_F_X12_takesCord (j := j) (by omega), n0, if_false, if_true]; done)
set_option maxRecDepth 20000 in
theorem g_R_X12_near {j : Int} (h : j = 15 ∨ j = 60) (σ : zG) (kq : Int) : (R_X12_near σ kq).2 0 j = σ 0 j := by
  have n0 : ¬ j = 0 := by omega
  unfold R_X12_near
  repeat' split
  all_goals first | rfl | (simp [zu, zcp, zfl, g_F_X12_takesCord (j := j) (by omega), fr_L_X12_near_26 (k := 0) (h := by simp), fr_S_X12_near_43 (k := 0) (h := by simp), n0, if_false, if_true]; done)
set_option maxRecDepth 20000 in
theorem g_F_X12_throwsIf {j : Int} (h : j = 2 ∨ j = 15 ∨ j = 60) (σ : zG) (b : Int) : (F_X12_throwsIf σ b) 0 j = σ 0 j := by
  have n0 : ¬ j = 0 := by omega
  unfold F_X12_throwsIf
  repeat' split
  all_goals first | rfl | (simp [zu, zcp, zfl, n0, if_false, if_true]; done)
set_option maxRecDepth 20000 in
theorem g_F_X12_debts {j : Int} (h : j = 2 ∨ j = 15 ∨ j = 60) (σ : zG) : (F_X12_debts σ ) 0 j = σ 0 j := by
  have n0 : ¬ j = 0 := by omega
  unfold F_X12_debts
  repeat' split
  all_goals first | rfl | (simp [zu, zcp, zfl, g_R_X12_run (j := j) (by omega), n0, if_false, if_true]; done)
set_option maxRecDepth 20000 in
theorem g_F_X12_wrong {j : Int} (h : j = 2 ∨ j = 15 ∨ j = 60) (σ : zG) (i : Int) : (F_X12_wrong σ i) 0 j = σ 0 j := by
  have n0 : ¬ j = 0 := by omega
  unfold F_X12_wrong
  repeat' split
  all_goals first | rfl | (simp [zu, zcp, zfl, g_R_X12_run (j := j) (by omega), n0, if_false, if_true]; done)
set_option maxRecDepth 20000 in
theorem g_F_X12_source {j : Int} (h : j = 2 ∨ j = 15 ∨ j = 60) (σ : zG) (who f : Int) : (F_X12_source σ who f) 0 j = σ 0 j := by
  have n0 : ¬ j = 0 := by omega
  unfold F_X12_source
  repeat' split
  all_goals first | rfl | (simp [zu, zcp, zfl, g_R_X12_run (j := j) (by omega), n0, if_false, if_true]; done)
set_option maxRecDepth 20000 in
theorem g_F_X12_orderAt {j : Int} (h : j = 2 ∨ j = 15 ∨ j = 60) (σ : zG) (i : Int) : (F_X12_orderAt σ i) 0 j = σ 0 j := by
  have n0 : ¬ j = 0 := by omega
  unfold F_X12_orderAt
  repeat' split
  all_goals first | rfl | (simp [zu, zcp, zfl, n0, if_false, if_true]; done)
set_option maxRecDepth 20000 in
theorem g_F_X12_fact {j : Int} (h : j = 2 ∨ j = 15 ∨ j = 60) (σ : zG) (f i : Int) : (F_X12_fact σ f i) 0 j = σ 0 j := by
  have n0 : ¬ j = 0 := by omega
  unfold F_X12_fact
  repeat' split
  all_goals first | rfl | (simp [zu, zcp, zfl, n0, if_false, if_true]; done)
set_option maxRecDepth 20000 in
theorem g_F_X12_line {j : Int} (h : j = 2 ∨ j = 15 ∨ j = 60) (σ : zG) (x i : Int) : (F_X12_line σ x i) 0 j = σ 0 j := by
  have n0 : ¬ j = 0 := by omega
  unfold F_X12_line
  repeat' split
  all_goals first | rfl | (simp [zu, zcp, zfl, n0, if_false, if_true]; done)
set_option maxRecDepth 20000 in
theorem g_F_X12_knows {j : Int} (h : j = 2 ∨ j = 15 ∨ j = 60) (σ : zG) (who i : Int) : (F_X12_knows σ who i) 0 j = σ 0 j := by
  have n0 : ¬ j = 0 := by omega
  unfold F_X12_knows
  repeat' split
  all_goals first | rfl | (simp [zu, zcp, zfl, g_R_X12_run (j := j) (by omega), n0, if_false, if_true]; done)
set_option maxRecDepth 20000 in
theorem g_F_X12_worth {j : Int} (h : j = 2 ∨ j = 15 ∨ j = 60) (σ : zG) (who f : Int) : (F_X12_worth σ who f) 0 j = σ 0 j := by
  have n0 : ¬ j = 0 := by omega
  unfold F_X12_worth
  repeat' split
  all_goals first | rfl | (simp [zu, zcp, zfl, g_R_X12_run (j := j) (by omega), n0, if_false, if_true]; done)
set_option maxRecDepth 20000 in
theorem g_F_X12_came {j : Int} (h : j = 2 ∨ j = 15 ∨ j = 60) (σ : zG) (who i : Int) : (F_X12_came σ who i) 0 j = σ 0 j := by
  have n0 : ¬ j = 0 := by omega
  unfold F_X12_came
  repeat' split
  all_goals first | rfl | (simp [zu, zcp, zfl, g_R_X12_run (j := j) (by omega), n0, if_false, if_true]; done)
set_option maxRecDepth 20000 in
theorem g_F_X12_unsaid {j : Int} (h : j = 2 ∨ j = 15 ∨ j = 60) (σ : zG) (x : Int) : (F_X12_unsaid σ x) 0 j = σ 0 j := by
  have n0 : ¬ j = 0 := by omega
  unfold F_X12_unsaid
  repeat' split
  all_goals first | rfl | (simp [zu, zcp, zfl, g_R_X12_run (j := j) (by omega), n0, if_false, if_true]; done)
set_option maxRecDepth 20000 in
theorem g_F_X12_debt {j : Int} (h : j = 2 ∨ j = 15 ∨ j = 60) (σ : zG) (d i : Int) : (F_X12_debt σ d i) 0 j = σ 0 j := by
  have n0 : ¬ j = 0 := by omega
  unfold F_X12_debt
  repeat' split
  all_goals first | rfl | (simp [zu, zcp, zfl, g_R_X12_run (j := j) (by omega), n0, if_false, if_true]; done)
set_option maxRecDepth 20000 in
theorem g_R_X12_autumn {j : Int} (h : j = 2 ∨ j = 15 ∨ j = 60) (σ : zG) (i : Int) : (R_X12_autumn σ i).2 0 j = σ 0 j := by
  have n0 : ¬ j = 0 := by omega
  unfold R_X12_autumn
  repeat' split
  all_goals first | rfl | (simp [zu, zcp, zfl, fr_L_X12_autumn_84 (k := 0) (h := by simp), g_R_X12_run (j := j) (by omega), fr_S_X12_autumn_56 (k := 0) (h := by simp), n0, if_false, if_true]; done)
set_option maxRecDepth 20000 in
theorem g_R_X12_led {j : Int} (h : j = 2 ∨ j = 15 ∨ j = 60) (σ : zG) (f i : Int) : (R_X12_led σ f i).2 0 j = σ 0 j := by
  have n0 : ¬ j = 0 := by omega
  unfold R_X12_led
  repeat' split
  all_goals first | rfl | (simp [zu, zcp, zfl, fr_L_X12_led_30 (k := 0) (h := by simp), g_R_X12_run (j := j) (by omega), n0, if_false, if_true]; done)
set_option maxRecDepth 20000 in
theorem g_R_X12_ripple {j : Int} (h : j = 2 ∨ j = 15 ∨ j = 60) (σ : zG) (who to f i : Int) : (R_X12_ripple σ who to f i).2 0 j = σ 0 j := by
  have n0 : ¬ j = 0 := by omega
  unfold R_X12_ripple
  repeat' split
  all_goals first | rfl | (simp [zu, zcp, zfl, fr_L_X12_ripple_113 (k := 0) (h := by simp), g_R_X12_run (j := j) (by omega), n0, if_false, if_true]; done)
set_option maxRecDepth 20000 in
theorem g_F_X12_sign {j : Int} (h : j = 2 ∨ j = 60) (σ : zG) (c : Int) : (F_X12_sign σ c) 0 j = σ 0 j := by
  have n11 : ¬ j = 11 := by omega
  have n14 : ¬ j = 14 := by omega
  have n15 : ¬ j = 15 := by omega
  have n16 : ¬ j = 16 := by omega
  unfold F_X12_sign
  repeat' split
  all_goals first | rfl | (simp [zu, zcp, zfl, g_F_X12_next (j := j) (by omega), n11, n14, n15, n16, if_false, if_true]; done)
set_option maxRecDepth 20000 in
theorem g_F_X12_takes {j : Int} (h : j = 2 ∨ j = 60) (σ : zG) (lo hi : Int) : (F_X12_takes σ lo hi) 0 j = σ 0 j := by
  have n15 : ¬ j = 15 := by omega
  have n16 : ¬ j = 16 := by omega
  have n18 : ¬ j = 18 := by omega
  unfold F_X12_takes
  repeat' split
  all_goals first | rfl | (simp [zu, zcp, zfl, g_F_X12_next (j := j) (by omega), n15, n16, n18, if_false, if_true]; done)
set_option maxRecDepth 20000 in
theorem g_F_X12_takesName {j : Int} (h : j = 2 ∨ j = 60) (σ : zG) (fm nn : Int) : (F_X12_takesName σ fm nn) 0 j = σ 0 j := by
  have n15 : ¬ j = 15 := by omega
  have n16 : ¬ j = 16 := by omega
  have n18 : ¬ j = 18 := by omega
  unfold F_X12_takesName
  repeat' split
  all_goals first | rfl | (simp [zu, zcp, zfl, g_F_X12_next (j := j) (by omega), n15, n16, n18, if_false, if_true]; done)
set_option maxRecDepth 20000 in
theorem g_F_X12_fresh {j : Int} (h : j = 2 ∨ j = 60) (σ : zG) (to : Int) : (F_X12_fresh σ to) 0 j = σ 0 j := by
  have n15 : ¬ j = 15 := by omega
  have n16 : ¬ j = 16 := by omega
  unfold F_X12_fresh
  repeat' split
  all_goals first | rfl | (simp [zu, zcp, zfl, g_F_X12_next (j := j) (by omega), n15, n16, if_false, if_true]; done)
set_option maxRecDepth 20000 in
theorem g_F_X12_once {j : Int} (h : j = 2 ∨ j = 60) (σ : zG) (wh lo hi : Int) : (F_X12_once σ wh lo hi) 0 j = σ 0 j := by
  have n15 : ¬ j = 15 := by omega
  have n16 : ¬ j = 16 := by omega
  have n20 : ¬ j = 20 := by omega
  unfold F_X12_once
  repeat' split
  all_goals first | rfl | (simp [zu, zcp, zfl, g_F_X12_next (j := j) (by omega), g_F_X12_takes (j := j) (by omega), n15, n16, n20, if_false, if_true]; done)
set_option maxRecDepth 20000 in
theorem g_F_X12_readFact {j : Int} (h : j = 2 ∨ j = 60) (σ : zG) : (F_X12_readFact σ ) 0 j = σ 0 j := by
  have n15 : ¬ j = 15 := by omega
  have n16 : ¬ j = 16 := by omega
  unfold F_X12_readFact
  repeat' split
  all_goals first | rfl | (simp [zu, zcp, zfl, g_F_X12_fresh (j := j) (by omega), g_F_X12_next (j := j) (by omega), g_F_X12_takes (j := j) (by omega), g_F_X12_takesName (j := j) (by omega), n15, n16, if_false, if_true]; done)
set_option maxRecDepth 20000 in
theorem g_F_X12_readKnows {j : Int} (h : j = 2 ∨ j = 60) (σ : zG) : (F_X12_readKnows σ ) 0 j = σ 0 j := by
  have n15 : ¬ j = 15 := by omega
  have n16 : ¬ j = 16 := by omega
  unfold F_X12_readKnows
  repeat' split
  all_goals first | rfl | (simp [zu, zcp, zfl, g_F_X12_next (j := j) (by omega), g_F_X12_takesName (j := j) (by omega), n15, n16, if_false, if_true]; done)
set_option maxRecDepth 20000 in
theorem g_F_X12_readAsks {j : Int} (h : j = 2 ∨ j = 60) (σ : zG) : (F_X12_readAsks σ ) 0 j = σ 0 j := by
  have n15 : ¬ j = 15 := by omega
  have n16 : ¬ j = 16 := by omega
  unfold F_X12_readAsks
  repeat' split
  all_goals first | rfl | (simp [zu, zcp, zfl, g_F_X12_next (j := j) (by omega), g_F_X12_takes (j := j) (by omega), g_F_X12_takesName (j := j) (by omega), n15, n16, if_false, if_true]; done)
set_option maxRecDepth 20000 in
theorem g_L_X12_readSince_35 {j : Int} (h : j = 2 ∨ j = 60)  (to : Int)  (n : Nat) (q : Int) (σ : zG) : (L_X12_readSince_35  to n q σ).2 0 j = σ 0 j := by
  have n15 : ¬ j = 15 := by omega
  have n16 : ¬ j = 16 := by omega
  induction n generalizing q σ with
  | zero => rfl
  | succ n ih =>
    rw [L_X12_readSince_35]
    repeat' split
    all_goals first | rfl | (simp [zu, zcp, zfl, g_F_X12_next (j := j) (by omega), n15, n16, ih, if_false, if_true]; done)
set_option maxRecDepth 20000 in
theorem g_R_X12_readSince {j : Int} (h : j = 2 ∨ j = 60) (σ : zG) : (R_X12_readSince σ ).2 0 j = σ 0 j := by
  have n15 : ¬ j = 15 := by omega
  have n16 : ¬ j = 16 := by omega
  unfold R_X12_readSince
  repeat' split
  all_goals first | rfl | (simp [zu, zcp, zfl, g_F_X12_next (j := j) (by omega), g_L_X12_readSince_35 (j := j) (by omega), n15, n16, if_false, if_true]; done)
theorem g_F_X12_readSince {j : Int} (h : j = 2 ∨ j = 60) (σ : zG) : F_X12_readSince σ 0 j = σ 0 j := g_R_X12_readSince h σ
set_option maxRecDepth 20000 in
theorem g_F_X12_valleyLine {j : Int} (h : j = 2 ∨ j = 60) (σ : zG) : (F_X12_valleyLine σ ) 0 j = σ 0 j := by
  have n11 : ¬ j = 11 := by omega
  have n15 : ¬ j = 15 := by omega
  have n16 : ¬ j = 16 := by omega
  have n17 : ¬ j = 17 := by omega
  unfold F_X12_valleyLine
  repeat' split
  all_goals first | rfl | (simp [zu, zcp, zfl, g_F_X12_fresh (j := j) (by omega), g_F_X12_next (j := j) (by omega), g_F_X12_once (j := j) (by omega), g_F_X12_readAsks (j := j) (by omega), g_F_X12_readFact (j := j) (by omega), g_F_X12_readKnows (j := j) (by omega), g_F_X12_readSince (j := j) (by omega), n11, n15, n16, n17, if_false, if_true]; done)
set_option maxRecDepth 20000 in
theorem g_L_X12_valley_35 {j : Int} (h : j = 2 ∨ j = 60)   (n : Nat) (σ : zG) : (L_X12_valley_35  n  σ).2 0 j = σ 0 j := by
  have n19 : ¬ j = 19 := by omega
  induction n generalizing  σ with
  | zero => rfl
  | succ n ih =>
    rw [L_X12_valley_35]
    repeat' split
    all_goals first | rfl | (simp [zu, zcp, zfl, g_F_X12_sign (j := j) (by omega), g_F_X12_valleyLine (j := j) (by omega), fr_S_X12_valley_118 (k := 0) (h := by simp), fr_S_X12_valley_80 (k := 0) (h := by simp), n19, ih, if_false, if_true]; done)
set_option maxRecDepth 20000 in
theorem g_R_X12_valley {j : Int} (h : j = 60) (σ : zG) : (R_X12_valley σ ).2 0 j = σ 0 j := by
  have n0 : ¬ j = 0 := by omega
  have n15 : ¬ j = 15 := by omega
  have n19 : ¬ j = 19 := by omega
  have n20 : ¬ j = 20 := by omega
  unfold R_X12_valley
  repeat' split
  all_goals first | rfl | (simp [zu, zcp, zfl, g_F_X12_next (j := j) (by omega), g_L_X12_valley_35 (j := j) (by omega), fr_R_X12_plainValley (k := 0) (h := by simp), fr_S_X12_valley_118 (k := 0) (h := by simp), fr_S_X12_valley_80 (k := 0) (h := by simp), g_F_X12_taken (j := j) (by omega), n0, n15, n19, n20, if_false, if_true]; done)
set_option maxRecDepth 20000 in
theorem g_L_X12_bookLine_287 {j : Int} (h : j = 2 ∨ j = 60)  (to who wh ot f : Int)  (n : Nat) (mo : Int) (σ : zG) : (L_X12_bookLine_287  to who wh ot f n mo σ).2 0 j = σ 0 j := by
  have n11 : ¬ j = 11 := by omega
  have n15 : ¬ j = 15 := by omega
  have n16 : ¬ j = 16 := by omega
  have n17 : ¬ j = 17 := by omega
  induction n generalizing mo σ with
  | zero => rfl
  | succ n ih =>
    rw [L_X12_bookLine_287]
    repeat' split
    all_goals first | rfl | (simp [zu, zcp, zfl, g_F_X12_next (j := j) (by omega), fr_F_X12_put (k := 0) (h := by simp), g_F_X12_takes (j := j) (by omega), fr_R_X12_withOrder (k := 0) (h := by simp), n11, n15, n16, n17, ih, if_false, if_true]; done)
set_option maxRecDepth 20000 in
theorem g_L_X12_bookLine_200 {j : Int} (h : j = 2 ∨ j = 60)  (to who wh : Int)  (n : Nat) (σ : zG) : (L_X12_bookLine_200  to who wh n  σ).2 0 j = σ 0 j := by
  have n15 : ¬ j = 15 := by omega
  have n16 : ¬ j = 16 := by omega
  induction n generalizing  σ with
  | zero => rfl
  | succ n ih =>
    rw [L_X12_bookLine_200]
    repeat' split
    all_goals first | rfl | (simp [zu, zcp, zfl, g_F_X12_next (j := j) (by omega), g_F_X12_takesName (j := j) (by omega), g_L_X12_bookLine_287 (j := j) (by omega), n15, n16, ih, if_false, if_true]; done)
set_option maxRecDepth 20000 in
theorem g_R_X12_bookLine {j : Int} (h : j = 2 ∨ j = 60) (σ : zG) : (R_X12_bookLine σ ).2 0 j = σ 0 j := by
  have n11 : ¬ j = 11 := by omega
  have n15 : ¬ j = 15 := by omega
  have n16 : ¬ j = 16 := by omega
  have n17 : ¬ j = 17 := by omega
  have n22 : ¬ j = 22 := by omega
  unfold R_X12_bookLine
  repeat' split
  all_goals first | rfl | (simp [zu, zcp, zfl, g_F_X12_next (j := j) (by omega), fr_F_X12_put (k := 0) (h := by simp), g_F_X12_takes (j := j) (by omega), g_L_X12_bookLine_200 (j := j) (by omega), g_L_X12_bookLine_287 (j := j) (by omega), n11, n15, n16, n17, n22, if_false, if_true]; done)
theorem g_F_X12_bookLine {j : Int} (h : j = 2 ∨ j = 60) (σ : zG) : F_X12_bookLine σ 0 j = σ 0 j := g_R_X12_bookLine h σ
set_option maxRecDepth 20000 in
theorem g_L_X12_book_31 {j : Int} (h : j = 2 ∨ j = 60)   (n : Nat) (σ : zG) : (L_X12_book_31  n  σ).2 0 j = σ 0 j := by
  have n21 : ¬ j = 21 := by omega
  induction n generalizing  σ with
  | zero => rfl
  | succ n ih =>
    rw [L_X12_book_31]
    repeat' split
    all_goals first | rfl | (simp [zu, zcp, zfl, g_F_X12_bookLine (j := j) (by omega), g_F_X12_sign (j := j) (by omega), fr_R_X12_keepBook (k := 0) (h := by simp), n21, ih, if_false, if_true]; done)
set_option maxRecDepth 20000 in
theorem g_R_X12_book {j : Int} (h : j = 60) (σ : zG) : (R_X12_book σ ).2 0 j = σ 0 j := by
  have n0 : ¬ j = 0 := by omega
  have n15 : ¬ j = 15 := by omega
  have n21 : ¬ j = 21 := by omega
  have n22 : ¬ j = 22 := by omega
  unfold R_X12_book
  repeat' split
  all_goals first | rfl | (simp [zu, zcp, zfl, g_F_X12_next (j := j) (by omega), g_L_X12_book_31 (j := j) (by omega), g_F_X12_taken (j := j) (by omega), n0, n15, n21, n22, if_false, if_true]; done)
set_option maxRecDepth 20000 in
theorem g_L_X12_drawn_51 {j : Int} (h : j = 2 ∨ j = 15 ∨ j = 60) (x sd : Int)  (n : Nat) (σ : zG) : (L_X12_drawn_51 x sd n  σ).2 0 j = σ 0 j := by
  have n21 : ¬ j = 21 := by omega
  have n22 : ¬ j = 22 := by omega
  induction n generalizing  σ with
  | zero => rfl
  | succ n ih =>
    rw [L_X12_drawn_51]
    repeat' split
    all_goals first | rfl | (simp [zu, zcp, zfl, g_F_X12_draw (j := j) (by omega), fr_F_X12_put (k := 0) (h := by simp), fr_R_X12_keepBook (k := 0) (h := by simp), n21, n22, ih, if_false, if_true]; done)
set_option maxRecDepth 20000 in
theorem g_R_X12_drawn {j : Int} (h : j = 2 ∨ j = 15 ∨ j = 60) (σ : zG) (x sd : Int) : (R_X12_drawn σ x sd).2 0 j = σ 0 j := by
  have n0 : ¬ j = 0 := by omega
  have n21 : ¬ j = 21 := by omega
  have n22 : ¬ j = 22 := by omega
  have n27 : ¬ j = 27 := by omega
  unfold R_X12_drawn
  repeat' split
  all_goals first | rfl | (simp [zu, zcp, zfl, g_L_X12_drawn_51 (j := j) (by omega), n0, n21, n22, n27, if_false, if_true]; done)
set_option maxRecDepth 20000 in
theorem g_L_X12_duesOf_7 {j : Int} (h : j = 2 ∨ j = 15 ∨ j = 60) (who : Int)  (n : Nat) (q : Int) (σ : zG) : (L_X12_duesOf_7 who n q σ) 0 j = σ 0 j := by
  have n53 : ¬ j = 53 := by omega
  induction n generalizing q σ with
  | zero => rfl
  | succ n ih =>
    rw [L_X12_duesOf_7]
    repeat' split
    all_goals first | rfl | (simp [zu, zcp, zfl, fr_S_X12_duesOf_42 (k := 0) (h := by simp), n53, ih, if_false, if_true]; done)
set_option maxRecDepth 20000 in
theorem g_R_X12_duesOf {j : Int} (h : j = 2 ∨ j = 15 ∨ j = 60) (σ : zG) (who : Int) : (R_X12_duesOf σ who) 0 j = σ 0 j := by
  have n53 : ¬ j = 53 := by omega
  unfold R_X12_duesOf
  repeat' split
  all_goals first | rfl | (simp [zu, zcp, zfl, g_L_X12_duesOf_7 (j := j) (by omega), fr_S_X12_duesOf_42 (k := 0) (h := by simp), n53, if_false, if_true]; done)
set_option maxRecDepth 20000 in
theorem g_S_X12_canPay_22 {j : Int} (h : j = 2 ∨ j = 15 ∨ j = 60) (who x : Int)  (n : Nat) (q : Int) (σ : zG) : (S_X12_canPay_22 who x n q σ).2 0 j = σ 0 j := by
  have n54 : ¬ j = 54 := by omega
  induction n generalizing q σ with
  | zero => rfl
  | succ n ih =>
    rw [S_X12_canPay_22]
    repeat' split
    all_goals first | rfl | (simp [zu, zcp, zfl, fr_S_X12_canPay_103 (k := 0) (h := by simp), n54, ih, if_false, if_true]; done)
set_option maxRecDepth 20000 in
theorem g_R_X12_canPay {j : Int} (h : j = 2 ∨ j = 15 ∨ j = 60) (σ : zG) (who x : Int) : (R_X12_canPay σ who x).2 0 j = σ 0 j := by
  have n54 : ¬ j = 54 := by omega
  unfold R_X12_canPay
  repeat' split
  all_goals first | rfl | (simp [zu, zcp, zfl, fr_L_X12_canPay_184 (k := 0) (h := by simp), fr_S_X12_canPay_103 (k := 0) (h := by simp), g_S_X12_canPay_22 (j := j) (by omega), n54, if_false, if_true]; done)
set_option maxRecDepth 20000 in
theorem g_L_X12_needed_24 {j : Int} (h : j = 2 ∨ j = 15 ∨ j = 60) (who b : Int)  (n : Nat) (st : Int) (σ : zG) : (L_X12_needed_24 who b n st σ).2 0 j = σ 0 j := by
  have n0 : ¬ j = 0 := by omega
  have n55 : ¬ j = 55 := by omega
  have n56 : ¬ j = 56 := by omega
  induction n generalizing st σ with
  | zero => rfl
  | succ n ih =>
    rw [L_X12_needed_24]
    repeat' split
    all_goals first | rfl | (simp [zu, zcp, zfl, g_R_X12_canPay (j := j) (by omega), fr_S_X12_needed_56 (k := 0) (h := by simp), n0, n55, n56, ih, if_false, if_true]; done)
set_option maxRecDepth 20000 in
theorem g_R_X12_needed {j : Int} (h : j = 2 ∨ j = 15 ∨ j = 60) (σ : zG) (who b : Int) : (R_X12_needed σ who b).2 0 j = σ 0 j := by
  have n55 : ¬ j = 55 := by omega
  have n56 : ¬ j = 56 := by omega
  unfold R_X12_needed
  repeat' split
  all_goals first | rfl | (simp [zu, zcp, zfl, g_L_X12_needed_24 (j := j) (by omega), g_R_X12_duesOf (j := j) (by omega), g_R_X12_run (j := j) (by omega), fr_S_X12_needed_56 (k := 0) (h := by simp), n55, n56, if_false, if_true]; done)
set_option maxRecDepth 20000 in
theorem g_F_X12_needs {j : Int} (h : j = 2 ∨ j = 15 ∨ j = 60) (σ : zG) (who i : Int) : (F_X12_needs σ who i) 0 j = σ 0 j := by
  have n0 : ¬ j = 0 := by omega
  unfold F_X12_needs
  repeat' split
  all_goals first | rfl | (simp [zu, zcp, zfl, g_R_X12_needed (j := j) (by omega), n0, if_false, if_true]; done)
set_option maxRecDepth 20000 in
theorem g_F_X12_buys {j : Int} (h : j = 2 ∨ j = 15 ∨ j = 60) (σ : zG) (who i : Int) : (F_X12_buys σ who i) 0 j = σ 0 j := by
  have n0 : ¬ j = 0 := by omega
  unfold F_X12_buys
  repeat' split
  all_goals first | rfl | (simp [zu, zcp, zfl, g_R_X12_needed (j := j) (by omega), n0, if_false, if_true]; done)
set_option maxRecDepth 20000 in
theorem g_R_X12_terms {j : Int} (h : j = 2 ∨ j = 15 ∨ j = 60) (σ : zG) (who : Int) : (R_X12_terms σ who).2 0 j = σ 0 j := by
  have n0 : ¬ j = 0 := by omega
  unfold R_X12_terms
  repeat' split
  all_goals first | rfl | (simp [zu, zcp, zfl, fr_L_X12_terms_28 (k := 0) (h := by simp), g_R_X12_run (j := j) (by omega), n0, if_false, if_true]; done)
set_option maxRecDepth 20000 in
theorem g_S_X12_feasts_12 {j : Int} (h : j = 2 ∨ j = 15 ∨ j = 60)   (n : Nat) (q : Int) (σ : zG) : (S_X12_feasts_12  n q σ).2 0 j = σ 0 j := by
  have n50 : ¬ j = 50 := by omega
  induction n generalizing q σ with
  | zero => rfl
  | succ n ih =>
    rw [S_X12_feasts_12]
    repeat' split
    all_goals first | rfl | (simp [zu, zcp, zfl, n50, ih, if_false, if_true]; done)
set_option maxRecDepth 20000 in
theorem g_R_X12_feasts {j : Int} (h : j = 2 ∨ j = 15 ∨ j = 60) (σ : zG) : (R_X12_feasts σ ) 0 j = σ 0 j := by
  have n0 : ¬ j = 0 := by omega
  have n50 : ¬ j = 50 := by omega
  unfold R_X12_feasts
  repeat' split
  all_goals first | rfl | (simp [zu, zcp, zfl, g_R_X12_run (j := j) (by omega), fr_S_X12_feasts_105 (k := 0) (h := by simp), fr_S_X12_feasts_113 (k := 0) (h := by simp), g_S_X12_feasts_12 (j := j) (by omega), fr_S_X12_feasts_155 (k := 0) (h := by simp), fr_S_X12_feasts_181 (k := 0) (h := by simp), fr_S_X12_feasts_305 (k := 0) (h := by simp), fr_S_X12_feasts_329 (k := 0) (h := by simp), fr_S_X12_feasts_69 (k := 0) (h := by simp), n0, n50, if_false, if_true]; done)
set_option maxRecDepth 20000 in
theorem g_F_X12_feastAt {j : Int} (h : j = 2 ∨ j = 15 ∨ j = 60) (σ : zG) (x : Int) : (F_X12_feastAt σ x) 0 j = σ 0 j := by
  have n0 : ¬ j = 0 := by omega
  unfold F_X12_feastAt
  repeat' split
  all_goals first | rfl | (simp [zu, zcp, zfl, g_R_X12_feasts (j := j) (by omega), n0, if_false, if_true]; done)
set_option maxRecDepth 20000 in
theorem g_R_X12_feast {j : Int} (h : j = 2 ∨ j = 15 ∨ j = 60) (σ : zG) (i : Int) : (R_X12_feast σ i).2 0 j = σ 0 j := by
  have n0 : ¬ j = 0 := by omega
  unfold R_X12_feast
  repeat' split
  all_goals first | rfl | (simp [zu, zcp, zfl, fr_L_X12_feast_27 (k := 0) (h := by simp), g_R_X12_feasts (j := j) (by omega), n0, if_false, if_true]; done)
set_option maxRecDepth 20000 in
theorem g_S_X12_order_255 {j : Int} (h : j = 2 ∨ j = 15 ∨ j = 60)  (nn : Int)  (n : Nat) (wr q : Int) (σ : zG) : (S_X12_order_255  nn n wr q σ).2.2 0 j = σ 0 j := by
  induction n generalizing wr q σ with
  | zero => rfl
  | succ n ih =>
    rw [S_X12_order_255]
    repeat' split
    all_goals first | rfl | (simp [zu, zcp, zfl, g_R_X12_tells (j := j) (by omega), ih, if_false, if_true]; done)
set_option maxRecDepth 20000 in
theorem g_L_X12_order_171 {j : Int} (h : j = 2 ∨ j = 15)  (nn al : Int)  (n : Nat) (be bw cc : Int) (σ : zG) : (L_X12_order_171  nn al n be bw cc σ).2 0 j = σ 0 j := by
  have n0 : ¬ j = 0 := by omega
  have n60 : ¬ j = 60 := by omega
  induction n generalizing be bw cc σ with
  | zero => rfl
  | succ n ih =>
    rw [L_X12_order_171]
    repeat' split
    all_goals first | rfl | (simp [zu, zcp, zfl, g_R_X12_run (j := j) (by omega), fr_S_X12_order_189 (k := 0) (h := by simp), g_S_X12_order_255 (j := j) (by omega), fr_S_X12_order_387 (k := 0) (h := by simp), n0, n60, ih, if_false, if_true]; done)
set_option maxRecDepth 20000 in
theorem g_L_X12_order_106 {j : Int} (h : j = 2 ∨ j = 15)  (nn : Int)  (n : Nat) (q : Int) (σ : zG) : (L_X12_order_106  nn n q σ).2 0 j = σ 0 j := by
  induction n generalizing q σ with
  | zero => rfl
  | succ n ih =>
    rw [L_X12_order_106]
    repeat' split
    all_goals first | rfl | (simp [zu, zcp, zfl, g_L_X12_order_171 (j := j) (by omega), fr_S_X12_order_144 (k := 0) (h := by simp), ih, if_false, if_true]; done)
set_option maxRecDepth 20000 in
theorem g_L_X12_order_41 {j : Int} (h : j = 2 ∨ j = 15)  (nn : Int)  (n : Nat) (q : Int) (σ : zG) : (L_X12_order_41  nn n q σ).2 0 j = σ 0 j := by
  induction n generalizing q σ with
  | zero => rfl
  | succ n ih =>
    rw [L_X12_order_41]
    repeat' split
    all_goals first | rfl | (simp [zu, zcp, zfl, g_L_X12_order_106 (j := j) (by omega), ih, if_false, if_true]; done)
set_option maxRecDepth 20000 in
theorem g_R_X12_order {j : Int} (h : j = 15) (σ : zG) : (R_X12_order σ ).2 0 j = σ 0 j := by
  have n0 : ¬ j = 0 := by omega
  have n2 : ¬ j = 2 := by omega
  have n3 : ¬ j = 3 := by omega
  have n4 : ¬ j = 4 := by omega
  have n5 : ¬ j = 5 := by omega
  unfold R_X12_order
  repeat' split
  all_goals first | rfl | (simp [zu, zcp, zfl, g_L_X12_order_106 (j := j) (by omega), g_L_X12_order_171 (j := j) (by omega), g_L_X12_order_41 (j := j) (by omega), fr_S_X12_order_144 (k := 0) (h := by simp), fr_S_X12_order_189 (k := 0) (h := by simp), g_S_X12_order_255 (j := j) (by omega), fr_S_X12_order_387 (k := 0) (h := by simp), n0, n2, n3, n4, n5, if_false, if_true]; done)
set_option maxRecDepth 20000 in
theorem g_R_X12_image {j : Int} (h : j = 2 ∨ j = 15 ∨ j = 60) (σ : zG) (x : Int) : (R_X12_image σ x).2 0 j = σ 0 j := by
  have n0 : ¬ j = 0 := by omega
  unfold R_X12_image
  repeat' split
  all_goals first | rfl | (simp [zu, zcp, zfl, fr_S_X12_image_18 (k := 0) (h := by simp), fr_S_X12_image_51 (k := 0) (h := by simp), fr_S_X12_image_82 (k := 0) (h := by simp), n0, if_false, if_true]; done)
set_option maxRecDepth 20000 in
theorem g_R_X12_restore {j : Int} (h : j = 2 ∨ j = 15 ∨ j = 60) (σ : zG) (x : Int) : (R_X12_restore σ x).2 0 j = σ 0 j := by
  have n0 : ¬ j = 0 := by omega
  unfold R_X12_restore
  repeat' split
  all_goals first | rfl | (simp [zu, zcp, zfl, fr_S_X12_restore_27 (k := 0) (h := by simp), fr_S_X12_restore_60 (k := 0) (h := by simp), fr_S_X12_restore_91 (k := 0) (h := by simp), n0, if_false, if_true]; done)
set_option maxRecDepth 20000 in
theorem g_F_X12_write {j : Int} (h : j = 2 ∨ j = 60) (σ : zG) (a b c : Int) : (F_X12_write σ a b c) 0 j = σ 0 j := by
  have n66 : ¬ j = 66 := by omega
  unfold F_X12_write
  repeat' split
  all_goals first | rfl | (simp [zu, zcp, zfl, n66, if_false, if_true]; done)
set_option maxRecDepth 20000 in
theorem g_S_X12_writeDown_0 {j : Int} (h : j = 2 ∨ j = 60) (le : Int)  (n : Nat) (σ : zG) : (S_X12_writeDown_0 le n  σ) 0 j = σ 0 j := by
  have n67 : ¬ j = 67 := by omega
  induction n generalizing  σ with
  | zero => rfl
  | succ n ih =>
    rw [S_X12_writeDown_0]
    repeat' split
    all_goals first | rfl | (simp [zu, zcp, zfl, g_F_X12_write (j := j) (by omega), n67, ih, if_false, if_true]; done)
set_option maxRecDepth 20000 in
theorem g_R_X12_writeDown {j : Int} (h : j = 2 ∨ j = 60) (σ : zG) (le : Int) : (R_X12_writeDown σ le) 0 j = σ 0 j := by
  unfold R_X12_writeDown
  repeat' split
  all_goals first | rfl | (simp [zu, zcp, zfl, g_S_X12_writeDown_0 (j := j) (by omega), if_false, if_true]; done)
set_option maxRecDepth 20000 in
theorem g_F_X12_asks {j : Int} (h : j = 2 ∨ j = 60) (σ : zG) (a : Int) : (F_X12_asks σ a) 0 j = σ 0 j := by
  have n11 : ¬ j = 11 := by omega
  have n14 : ¬ j = 14 := by omega
  have n15 : ¬ j = 15 := by omega
  have n16 : ¬ j = 16 := by omega
  unfold F_X12_asks
  repeat' split
  all_goals first | rfl | (simp [zu, zcp, zfl, g_F_X12_next (j := j) (by omega), g_F_X12_takesName (j := j) (by omega), g_F_X12_write (j := j) (by omega), g_R_X12_writeDown (j := j) (by omega), n11, n14, n15, n16, if_false, if_true]; done)
set_option maxRecDepth 20000 in
theorem g_L_X12_one_0 {j : Int} (h : j = 2 ∨ j = 60)   (n : Nat) (σ : zG) : (L_X12_one_0  n  σ).2 0 j = σ 0 j := by
  have n11 : ¬ j = 11 := by omega
  have n14 : ¬ j = 14 := by omega
  have n15 : ¬ j = 15 := by omega
  have n16 : ¬ j = 16 := by omega
  have n17 : ¬ j = 17 := by omega
  have n67 : ¬ j = 67 := by omega
  have n68 : ¬ j = 68 := by omega
  induction n generalizing  σ with
  | zero => rfl
  | succ n ih =>
    rw [L_X12_one_0]
    repeat' split
    all_goals first | rfl | (simp [zu, zcp, zfl, g_F_X12_asks (j := j) (by omega), g_F_X12_next (j := j) (by omega), n11, n14, n15, n16, n17, n67, n68, ih, if_false, if_true]; done)
set_option maxRecDepth 20000 in
theorem g_R_X12_one {j : Int} (h : j = 2 ∨ j = 60) (σ : zG) : (R_X12_one σ ).2 0 j = σ 0 j := by
  unfold R_X12_one
  repeat' split
  all_goals first | rfl | (simp [zu, zcp, zfl, g_L_X12_one_0 (j := j) (by omega), if_false, if_true]; done)
theorem g_F_X12_one {j : Int} (h : j = 2 ∨ j = 60) (σ : zG) : F_X12_one σ 0 j = σ 0 j := g_R_X12_one h σ
set_option maxRecDepth 20000 in
theorem g_S_X12_cond_9 {j : Int} (h : j = 2 ∨ j = 60)   (n : Nat) (σ : zG) : (S_X12_cond_9  n  σ) 0 j = σ 0 j := by
  have n11 : ¬ j = 11 := by omega
  have n14 : ¬ j = 14 := by omega
  have n67 : ¬ j = 67 := by omega
  induction n generalizing  σ with
  | zero => rfl
  | succ n ih =>
    rw [S_X12_cond_9]
    repeat' split
    all_goals first | rfl | (simp [zu, zcp, zfl, g_F_X12_next (j := j) (by omega), g_R_X12_writeDown (j := j) (by omega), n11, n14, n67, ih, if_false, if_true]; done)
set_option maxRecDepth 20000 in
theorem g_L_X12_cond_0 {j : Int} (h : j = 2 ∨ j = 60)   (n : Nat) (σ : zG) : (L_X12_cond_0  n  σ).2 0 j = σ 0 j := by
  have n11 : ¬ j = 11 := by omega
  have n15 : ¬ j = 15 := by omega
  have n16 : ¬ j = 16 := by omega
  have n17 : ¬ j = 17 := by omega
  have n67 : ¬ j = 67 := by omega
  induction n generalizing  σ with
  | zero => rfl
  | succ n ih =>
    rw [L_X12_cond_0]
    repeat' split
    all_goals first | rfl | (simp [zu, zcp, zfl, g_F_X12_next (j := j) (by omega), g_F_X12_one (j := j) (by omega), g_R_X12_writeDown (j := j) (by omega), g_S_X12_cond_9 (j := j) (by omega), n11, n15, n16, n17, n67, ih, if_false, if_true]; done)
set_option maxRecDepth 20000 in
theorem g_R_X12_cond {j : Int} (h : j = 2 ∨ j = 60) (σ : zG) : (R_X12_cond σ ).2 0 j = σ 0 j := by
  unfold R_X12_cond
  repeat' split
  all_goals first | rfl | (simp [zu, zcp, zfl, g_L_X12_cond_0 (j := j) (by omega), g_S_X12_cond_9 (j := j) (by omega), if_false, if_true]; done)
theorem g_F_X12_cond {j : Int} (h : j = 2 ∨ j = 60) (σ : zG) : F_X12_cond σ 0 j = σ 0 j := g_R_X12_cond h σ
set_option maxRecDepth 20000 in
theorem g_R_X12_sentence {j : Int} (h : j = 60) (σ : zG) : (R_X12_sentence σ ).2 0 j = σ 0 j := by
  have n0 : ¬ j = 0 := by omega
  have n15 : ¬ j = 15 := by omega
  have n66 : ¬ j = 66 := by omega
  have n67 : ¬ j = 67 := by omega
  have n68 : ¬ j = 68 := by omega
  unfold R_X12_sentence
  repeat' split
  all_goals first | rfl | (simp [zu, zcp, zfl, g_F_X12_cond (j := j) (by omega), g_F_X12_next (j := j) (by omega), fr_S_X12_sentence_64 (k := 0) (h := by simp), g_F_X12_taken (j := j) (by omega), n0, n15, n66, n67, n68, if_false, if_true]; done)
set_option maxRecDepth 20000 in
theorem g_R_X12_said {j : Int} (h : j = 2 ∨ j = 15 ∨ j = 60) (σ : zG) : (R_X12_said σ ).2 0 j = σ 0 j := by
  have n0 : ¬ j = 0 := by omega
  unfold R_X12_said
  repeat' split
  all_goals first | rfl | (simp [zu, zcp, zfl, fr_L_X12_said_27 (k := 0) (h := by simp), g_R_X12_run (j := j) (by omega), n0, if_false, if_true]; done)
