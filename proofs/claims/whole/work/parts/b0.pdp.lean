/-! pure: the least set that pays, as a picture -/
theorem ssum_le {g g' : Int → Int} : ∀ n : Nat, (∀ f : Int, 0 ≤ f → f < n → g f ≤ g' f) → ssum g n ≤ ssum g' n
  | 0, _ => Int.le_refl _
  | n + 1, h => by
    have a := ssum_le n (fun f f0 f1 => h f f0 (by omega))
    have b := h n (by omega) (by omega)
    rw [ssum, ssum]; omega
theorem ssum_cg {g g' : Int → Int} : ∀ n : Nat, (∀ f : Int, 0 ≤ f → f < n → g f = g' f) → ssum g n = ssum g' n
  | 0, _ => rfl
  | n + 1, h => by
    rw [ssum, ssum, ssum_cg n (fun f f0 f1 => h f f0 (by omega)), h n (by omega) (by omega)]
theorem ssum_up {g g' : Int → Int} {f0 : Int} (h0 : 0 ≤ f0) (h : ∀ f : Int, f ≠ f0 → g' f = g f) : ∀ n : Nat, ssum g' n = ssum g n + (if f0 < n then g' f0 - g f0 else 0)
  | 0 => by rw [if_neg (by omega)]; rfl
  | n + 1 => by
    rw [ssum, ssum, ssum_up h0 h n]
    by_cases c : f0 = (n : Int)
    · rw [if_neg (by omega), if_pos (by omega), c]; omega
    · rw [h n (fun e => c e.symm)]
      by_cases d : f0 < (n : Int)
      · rw [if_pos d, if_pos (by omega)]; omega
      · rw [if_neg d, if_neg (by omega)]; omega
/-- a sum over a set of facts -/
def ws (g : Int → Int) (A : Int) : Int := ssum (fun f => if hb A f then g f else 0) 12
theorem ws_0 (g : Int → Int) : ws g 0 = 0 := by
  have : ws g 0 = ssum (fun _ => 0) 12 := ssum_cg 12 (fun f f0 f1 => if_neg (hb_0 ⟨f0, by omega⟩))
  rw [this]; rfl
theorem ws_le {g g' : Int → Int} {A A' : Int} (h : ∀ f : Int, 0 ≤ f → f < 12 → (if hb A f then g f else 0) ≤ (if hb A' f then g' f else 0)) : ws g A ≤ ws g' A' := ssum_le 12 (fun f f0 f1 => h f f0 (by omega))
theorem ws_cg {g g' : Int → Int} {A : Int} (h : ∀ f : Int, 0 ≤ f → f < 12 → hb A f → g f = g' f) : ws g A = ws g' A := ssum_cg 12 (fun f f0 f1 => by
  by_cases c : hb A f
  · show (if hb A f then g f else 0) = (if hb A f then g' f else 0)
    rw [if_pos c, if_pos c, h f f0 (by omega) c]
  · show (if hb A f then g f else 0) = (if hb A f then g' f else 0)
    rw [if_neg c, if_neg c])
theorem ws_bit {g : Int → Int} {A f : Int} (hA : 0 ≤ A ∧ A < 4096) (hf : 0 ≤ f ∧ f < 12) (h : ¬ hb A f) : ws g (bor A (bshl 1 f)) = ws g A + g f := by
  have k : ∀ i : Int, 0 ≤ i → i < 12 → (hb (bor A (bshl 1 f)) i ↔ hb A i ∨ i = f) := fun i i0 i1 => by
    rw [hb_bor hA (bit_r hf) ⟨i0, by omega⟩, hb_bit hf ⟨i0, by omega⟩]
  have e1 : ws g (bor A (bshl 1 f)) = ssum (fun i => if i = f then g f else if hb A i then g i else 0) 12 := ssum_cg 12 (fun i i0 i1 => by
    show (if hb (bor A (bshl 1 f)) i then g i else 0) = (if i = f then g f else if hb A i then g i else 0)
    by_cases c : i = f
    · rw [if_pos ((k i i0 (by omega)).mpr (Or.inr c)), if_pos c, c]
    · rw [if_neg c]
      by_cases d : hb A i
      · rw [if_pos ((k i i0 (by omega)).mpr (Or.inl d)), if_pos d]
      · rw [if_neg (fun x => ((k i i0 (by omega)).mp x).elim d c), if_neg d])
  have e2 := ssum_up (g := fun i => if hb A i then g i else 0) (g' := fun i => if i = f then g f else if hb A i then g i else 0) hf.1 (fun i hi => if_neg hi) 12
  rw [e1, e2, if_pos (show f < ((12 : Nat) : Int) by omega)]
  show ws g A + ((if f = f then g f else if hb A f then g f else 0) - (if hb A f then g f else 0)) = _
  rw [if_pos rfl, if_neg h]; omega
theorem ws_nn {g : Int → Int} {A : Int} (h : ∀ f : Int, 0 ≤ f → f < 12 → hb A f → 0 ≤ g f) : 0 ≤ ws g A := by
  have := ws_le (g := fun _ => 0) (g' := g) (A := A) (A' := A) (fun f f0 f1 => by
    by_cases c : hb A f
    · rw [if_pos c, if_pos c]; exact h f f0 f1 c
    · rw [if_neg c, if_neg c]; exact Int.le_refl _)
  have z : ws (fun _ => 0) A = 0 := by
    have : ws (fun _ => 0) A = ssum (fun _ => 0) 12 := ssum_cg 12 (fun f f0 f1 => by
      show (if hb A f then (0 : Int) else 0) = 0
      split <;> rfl)
    rw [this]; rfl
  omega
theorem ws_bd {g : Int → Int} {A c : Int} (h : ∀ f : Int, 0 ≤ f → f < 12 → hb A f → g f ≤ c) (hc : 0 ≤ c) : ws g A ≤ 12 * c := by
  have : ws g A ≤ ssum (fun _ => c) 12 := ssum_le 12 (fun f f0 f1 => by
    show (if hb A f then g f else 0) ≤ c
    by_cases d : hb A f
    · rw [if_pos d]; exact h f f0 (by omega) d
    · rw [if_neg d]; exact hc)
  have e : ssum (fun _ => c) 12 = 0 + c + c + c + c + c + c + c + c + c + c + c + c := rfl
  omega
/-- the facts that were looked at -/
def inB (e : Int → Int) (i f : Int) : Prop := ∃ q : Int, 0 ≤ q ∧ q < i ∧ e q = f
def rch (w : Int → Int) (T : Int) : Prop := ∀ f : Int, 0 ≤ f → f < 12 → hb T f → w f ≠ 1073741824
/-- a set pays the first m dues -/
def okd (v due : Int → Int) (m T : Int) : Prop := ∀ j : Int, 0 ≤ j → j < m → j + 1 ≤ ws (fun f => if due j ≤ v f then 1 else 0) T
/-- an order of the facts, the one that pays most first -/
def DOR (v e : Int → Int) (F : Int) : Prop := (∀ i : Int, 0 ≤ i → i < F → 0 ≤ e i ∧ e i < F) ∧ (∀ i j : Int, 0 ≤ i → i < j → j < F → e i ≠ e j ∧ v (e j) ≤ v (e i)) ∧ ∀ f : Int, 0 ≤ f → f < F → inB e F f
def IVa (v w due e t : Int → Int) (du i : Int) : Prop := ∀ k : Int, 0 ≤ k → k ≤ du → t k = 1073741824 ∨ ∃ T : Int, (0 ≤ T ∧ T < 4096) ∧ (∀ f : Int, 0 ≤ f → f < 12 → hb T f → inB e i f) ∧ ws (fun _ => 1) T = k ∧ ws w T = t k ∧ rch w T ∧ okd v due k T
def IVb (w e t : Int → Int) (du i A : Int) : Prop := ∃ Ai : Int, (0 ≤ Ai ∧ Ai < 4096) ∧ (∀ f : Int, 0 ≤ f → f < 12 → (hb Ai f ↔ hb A f ∧ inB e i f)) ∧ ∀ k : Int, 0 ≤ k → k ≤ du → k ≤ ws (fun _ => 1) Ai → t k ≠ 1073741824 ∧ t k ≤ ws w Ai
/-- what one fact more does to the table -/
def STP (v w due t t' : Int → Int) (du f : Int) : Prop := t' 0 = t 0 ∧ ∀ k : Int, 0 ≤ k → k < du → t' (k + 1) = if w f ≠ 1073741824 ∧ due k ≤ v f ∧ t k ≠ 1073741824 then min (t (k + 1)) (t k + w f) else t (k + 1)
theorem inB_s {e : Int → Int} {i f : Int} (h : inB e i f) : inB e (i + 1) f := by
  obtain ⟨q, a, b, c⟩ := h
  exact ⟨q, a, by omega, c⟩
theorem IVa_s {v w due e t t' : Int → Int} {du i F : Int} (hF : F ≤ 12) (hO : DOR v e F) (h : IVa v w due e t du i) (hi : 0 ≤ i ∧ i < F) (hs : STP v w due t t' du (e i)) : IVa v w due e t' du (i + 1) := by
  intro k k0 k1
  have old : ∀ k : Int, 0 ≤ k → k ≤ du → t k = 1073741824 ∨ ∃ T : Int, (0 ≤ T ∧ T < 4096) ∧ (∀ f : Int, 0 ≤ f → f < 12 → hb T f → inB e (i + 1) f) ∧ ws (fun _ => 1) T = k ∧ ws w T = t k ∧ rch w T ∧ okd v due k T := fun k a b => by
    rcases h k a b with x | ⟨T, x1, x2, x3⟩
    · exact Or.inl x
    · exact Or.inr ⟨T, x1, fun f f0 f1 y => inB_s (x2 f f0 f1 y), x3⟩
  by_cases z : k = 0
  · rw [z, hs.1]; exact old 0 (by decide) (by omega)
  · have e1 := hs.2 (k - 1) (by omega) (by omega)
    rw [show k - 1 + 1 = k by omega] at e1
    rw [e1]
    by_cases c : w (e i) ≠ 1073741824 ∧ due (k - 1) ≤ v (e i) ∧ t (k - 1) ≠ 1073741824
    · rw [if_pos c]
      by_cases m : t k ≤ t (k - 1) + w (e i)
      · rw [show min (t k) (t (k - 1) + w (e i)) = t k by omega]; exact old k k0 k1
      · rw [show min (t k) (t (k - 1) + w (e i)) = t (k - 1) + w (e i) by omega]
        rcases h (k - 1) (by omega) (by omega) with x | ⟨T, x1, x2, x3, x4, x5, x6⟩
        · exact absurd x c.2.2
        · have fr := hO.1 i hi.1 hi.2
          have nf : ¬ hb T (e i) := fun y => by
            obtain ⟨q, q0, q1, q2⟩ := x2 (e i) fr.1 (by omega) y
            exact (hO.2.1 q i q0 q1 hi.2).1 q2
          have bt : ∀ j : Int, 0 ≤ j → j < 12 → (hb (bor T (bshl 1 (e i))) j ↔ hb T j ∨ j = e i) := fun j j0 j1 => by
            rw [hb_bor x1 (bit_r ⟨fr.1, by omega⟩) ⟨j0, by omega⟩, hb_bit ⟨fr.1, by omega⟩ ⟨j0, by omega⟩]
          refine Or.inr ⟨bor T (bshl 1 (e i)), bor_r x1 (bit_r ⟨fr.1, by omega⟩), fun f f0 f1 y => ?_, ?_, ?_, fun f f0 f1 y => ?_, fun j j0 j1 => ?_⟩
          · rcases (bt f f0 f1).mp y with y | y
            · exact inB_s (x2 f f0 f1 y)
            · exact ⟨i, hi.1, by omega, y.symm⟩
          · rw [ws_bit x1 ⟨fr.1, by omega⟩ nf, x3]; omega
          · rw [ws_bit x1 ⟨fr.1, by omega⟩ nf, x4]
          · rcases (bt f f0 f1).mp y with y | y
            · exact x5 f f0 f1 y
            · rw [y]; exact c.1
          · rw [ws_bit x1 ⟨fr.1, by omega⟩ nf]
            by_cases jk : j = k - 1
            · subst jk
              have all : ws (fun f => if due (k - 1) ≤ v f then 1 else 0) T = ws (fun _ => 1) T := ws_cg (fun f f0 f1 y => by
                obtain ⟨q, q0, q1, q2⟩ := x2 f f0 f1 y
                have := (hO.2.1 q i q0 q1 hi.2).2
                rw [q2] at this
                exact if_pos (by omega))
              rw [all, x3, if_pos c.2.1]; omega
            · have a := x6 j j0 (by omega)
              have b : (0 : Int) ≤ (if due j ≤ v (e i) then 1 else 0) := by split <;> decide
              omega
    · rw [if_neg c]; exact old k k0 k1
theorem IVb_s {v w due e t t' : Int → Int} {du i F A : Int} (hF : F ≤ 12) (hO : DOR v e F) (hA : 0 ≤ A ∧ A < 4096) (hAF : ∀ f : Int, 0 ≤ f → f < 12 → hb A f → f < F) (hr : rch w A) (hw : ∀ f : Int, 0 ≤ f → f < 12 → hb A f → 0 ≤ w f ∧ w f ≤ 7000000) (hk : okd v due du A) (h : IVb w e t du i A) (hi : 0 ≤ i ∧ i < F) (hs : STP v w due t t' du (e i)) : IVb w e t' du (i + 1) A := by
  obtain ⟨Ai, a1, a2, a3⟩ := h
  have fr := hO.1 i hi.1 hi.2
  have tle : ∀ k : Int, 0 ≤ k → k ≤ du → t k ≠ 1073741824 → t k ≤ ws w Ai → ws w Ai ≤ 84000000 → 0 ≤ w (e i) ∨ True → t' k ≠ 1073741824 ∧ t' k ≤ ws w Ai := fun k k0 k1 n1 n2 n3 _ => by
    by_cases z : k = 0
    · rw [z, hs.1]; rw [z] at n1 n2; exact ⟨n1, n2⟩
    · have e1 := hs.2 (k - 1) (by omega) (by omega)
      rw [show k - 1 + 1 = k by omega] at e1
      rw [e1]
      split
      · omega
      · exact ⟨n1, n2⟩
  have sub : ∀ f : Int, 0 ≤ f → f < 12 → hb Ai f → hb A f := fun f f0 f1 y => ((a2 f f0 f1).mp y).1
  have bd : ws w Ai ≤ 84000000 := by
    have := ws_bd (g := w) (A := Ai) (c := 7000000) (fun f f0 f1 y => (hw f f0 f1 (sub f f0 f1 y)).2) (by decide)
    omega
  by_cases m : hb A (e i)
  · have nf : ¬ hb Ai (e i) := fun y => by
      obtain ⟨q, q0, q1, q2⟩ := ((a2 (e i) fr.1 (by omega)).mp y).2
      exact (hO.2.1 q i q0 q1 hi.2).1 q2
    have bt : ∀ j : Int, 0 ≤ j → j < 12 → (hb (bor Ai (bshl 1 (e i))) j ↔ hb Ai j ∨ j = e i) := fun j j0 j1 => by
      rw [hb_bor a1 (bit_r ⟨fr.1, by omega⟩) ⟨j0, by omega⟩, hb_bit ⟨fr.1, by omega⟩ ⟨j0, by omega⟩]
    have we := hw (e i) fr.1 (by omega) m
    have wr := hr (e i) fr.1 (by omega) m
    refine ⟨bor Ai (bshl 1 (e i)), bor_r a1 (bit_r ⟨fr.1, by omega⟩), fun f f0 f1 => ?_, fun k k0 k1 k2 => ?_⟩
    · rw [bt f f0 f1, a2 f f0 f1]
      constructor
      · rintro (⟨x, y⟩ | x)
        · exact ⟨x, inB_s y⟩
        · exact ⟨by rw [x]; exact m, ⟨i, hi.1, by omega, x.symm⟩⟩
      · rintro ⟨x, q, q0, q1, q2⟩
        by_cases c : q = i
        · exact Or.inr (by rw [← q2, c])
        · exact Or.inl ⟨x, q, q0, by omega, q2⟩
    · rw [ws_bit a1 ⟨fr.1, by omega⟩ nf] at k2 ⊢
      by_cases c : k ≤ ws (fun _ => 1) Ai
      · have a := a3 k k0 k1 c
        have b := tle k k0 k1 a.1 a.2 bd (Or.inr trivial)
        exact ⟨b.1, by omega⟩
      · have ek : k - 1 = ws (fun _ => 1) Ai := by omega
        have nn : 0 ≤ ws (fun _ => (1 : Int)) Ai := ws_nn (fun _ _ _ _ => by decide)
        have a := a3 (k - 1) (by omega) (by omega) (by omega)
        have dv : due (k - 1) ≤ v (e i) := by
          by_cases dv : due (k - 1) ≤ v (e i)
          · exact dv
          · have ok := hk (k - 1) (by omega) (by omega)
            have le : ws (fun f => if due (k - 1) ≤ v f then 1 else 0) A ≤ ws (fun _ => 1) Ai := ws_le (fun f f0 f1 => by
              by_cases y : hb A f
              · rw [if_pos y]
                by_cases d : due (k - 1) ≤ v f
                · rw [if_pos d]
                  have : hb Ai f := (a2 f f0 f1).mpr ⟨y, by
                    obtain ⟨q, q0, q1, q2⟩ := hO.2.2 f f0 (hAF f f0 f1 y)
                    by_cases cq : q < i
                    · exact ⟨q, q0, cq, q2⟩
                    · exfalso
                      by_cases ce : q = i
                      · rw [← q2, ce] at d; exact dv d
                      · have := (hO.2.1 i q hi.1 (by omega) q1).2
                        rw [q2] at this
                        omega⟩
                  rw [if_pos this]; exact Int.le_refl _
                · rw [if_neg d]
                  split <;> decide
              · rw [if_neg y]
                split <;> decide)
            omega
        have e1 := hs.2 (k - 1) (by omega) (by omega)
        rw [show k - 1 + 1 = k by omega, if_pos ⟨wr, dv, a.1⟩] at e1
        rw [e1]
        omega
  · refine ⟨Ai, a1, fun f f0 f1 => ?_, fun k k0 k1 k2 => ?_⟩
    · rw [a2 f f0 f1]
      constructor
      · exact fun x => ⟨x.1, inB_s x.2⟩
      · rintro ⟨x, q, q0, q1, q2⟩
        by_cases c : q = i
        · exact absurd (by rw [← c, q2]; exact x) m
        · exact ⟨x, q, q0, by omega, q2⟩
    · have a := a3 k k0 k1 k2
      exact tle k k0 k1 a.1 a.2 bd (Or.inr trivial)
theorem IVa_0 {v w due e t : Int → Int} {du : Int} (h0 : t 0 = 0) (hn : ∀ k : Int, 1 ≤ k → k ≤ du → t k = 1073741824) : IVa v w due e t du 0 := by
  intro k k0 k1
  by_cases c : k = 0
  · refine Or.inr ⟨0, ⟨by decide, by decide⟩, fun f f0 f1 y => absurd y (hb_0 ⟨f0, by omega⟩), ?_, ?_, fun f f0 f1 y => absurd y (hb_0 ⟨f0, by omega⟩), fun j j0 j1 => by omega⟩
    · rw [ws_0, c]
    · rw [ws_0, c, h0]
  · exact Or.inl (hn k (by omega) k1)
theorem IVb_0 {w e t : Int → Int} {du A : Int} (h0 : t 0 = 0) : IVb w e t du 0 A := by
  refine ⟨0, ⟨by decide, by decide⟩, fun f f0 f1 => ⟨fun y => absurd y (hb_0 ⟨f0, by omega⟩), fun ⟨_, q, q0, q1, _⟩ => by omega⟩, fun k k0 k1 k2 => ?_⟩
  rw [ws_0] at k2 ⊢
  have : k = 0 := by omega
  rw [this, h0]; decide
/-- the table's last word against a set that pays -/
theorem dp_best {w e t : Int → Int} {v due : Int → Int} {du F A : Int} (hF : F ≤ 12) (hO : DOR v e F) (hA : 0 ≤ A ∧ A < 4096) (hAF : ∀ f : Int, 0 ≤ f → f < 12 → hb A f → f < F) (hk : okd v due du A) (h0 : 0 ≤ du) (h : IVb w e t du F A) : t du ≠ 1073741824 ∧ t du ≤ ws w A := by
  obtain ⟨Ai, a1, a2, a3⟩ := h
  have eA : Ai = A := hb_ext a1 hA (fun f f0 f1 => by
    rw [a2 f f0 f1]
    exact ⟨fun x => x.1, fun x => ⟨x, hO.2.2 f f0 (hAF f f0 f1 x)⟩⟩)
  subst eA
  refine a3 du h0 (Int.le_refl _) ?_
  by_cases c : du = 0
  · have : 0 ≤ ws (fun _ => (1 : Int)) Ai := ws_nn (fun _ _ _ _ => by decide)
    omega
  · have a := hk (du - 1) (by omega) (by omega)
    have b : ws (fun f => if due (du - 1) ≤ v f then 1 else 0) Ai ≤ ws (fun _ => 1) Ai := ws_le (fun f f0 f1 => by
      by_cases y : hb Ai f
      · rw [if_pos y, if_pos y]; split <;> decide
      · rw [if_neg y, if_neg y]; exact Int.le_refl _)
    omega
