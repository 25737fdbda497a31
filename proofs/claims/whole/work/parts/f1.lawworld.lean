/-! the law: its world, and its cases -/
theorem shF_0 (x : zFK) : shF 0 x = x := by rcases x with t | _ | t <;> rfl
theorem shS_0 (x : zSh) : shS 0 x = x := by
  rcases x with ⟨t, m⟩ | ⟨ci, fks⟩ | ts
  · rfl
  · show (Sum.inr (Sum.inl (ci, fks.map (shF 0))) : zSh) = _
    rw [show shF 0 = id from funext shF_0, List.map_id]
  · show (Sum.inr (Sum.inr (ts.map (fun t => t.map (· + 0)))) : zSh) = _
    rw [show (fun t : Option Nat => t.map (· + 0)) = id from funext (fun t => by cases t <;> rfl), List.map_id]
def LSM : List zSh := SM.map (shS 150) ++ [.inl (1, 1)]
def LSH : List zSh := SC ++ LSM
theorem SC_len : SC.length = 150 := by decide +kernel
theorem SM_len : SM.length = 42 := by decide +kernel
theorem LSH_len : LSH.length = 193 := by decide +kernel
def cmb (σ μ : zG) (o : Int → Int) : zG := fun a => if a < 150 then σ a else if a < 192 then μ (a - 150) else if a = 192 then o else fun _ => 0
theorem subC : SUB LSH SC 0 := by
  intro i x hx
  have hl := (List.getElem?_eq_some_iff.mp hx).1
  rw [Nat.zero_add, shS_0]
  unfold LSH
  rw [List.getElem?_append_left hl]
  exact hx
theorem subM : SUB LSH SM 150 := by
  intro i x hx
  have hl := (List.getElem?_eq_some_iff.mp hx).1
  unfold LSH LSM
  rw [List.getElem?_append_right (by rw [SC_len]; omega), SC_len, show 150 + i - 150 = i by omega, List.getElem?_append_left (by rw [List.length_map]; exact hl), List.getElem?_map, hx]
  rfl
theorem cmb_c (σ μ : zG) (o : Int → Int) : ∀ i, i < SC.length → cmb σ μ o (0 + i) = σ i := by
  intro i hi
  rw [SC_len] at hi
  rw [Nat.zero_add]
  exact if_pos hi
theorem cmb_m (σ μ : zG) (o : Int → Int) : ∀ i, i < SM.length → cmb σ μ o (150 + i) = μ i := by
  intro i hi
  rw [SM_len] at hi
  show (if 150 + i < 150 then _ else if 150 + i < 192 then _ else _) = _
  rw [if_neg (by omega), if_pos (by omega), show 150 + i - 150 = i by omega]
theorem cmb_co (σ σ' μ : zG) (o : Int → Int) : ∀ a, a < 0 ∨ 0 + SC.length ≤ a → cmb σ' μ o a = cmb σ μ o a := by
  intro a ha
  rw [SC_len] at ha
  have c : ¬ a < 150 := by omega
  unfold cmb
  rw [if_neg c, if_neg c]
theorem cmb_mo (σ μ μ' : zG) (o : Int → Int) : ∀ a, a < 150 ∨ 150 + SM.length ≤ a → cmb σ μ' o a = cmb σ μ o a := by
  intro a ha
  rw [SM_len] at ha
  unfold cmb
  by_cases c : a < 150
  · rw [if_pos c, if_pos c]
  · have c2 : ¬ a < 192 := by omega
    rw [if_neg c, if_neg c, if_neg c2, if_neg c2]
theorem lsh_0 : ∃ fks, LSH[0]? = some (.inr (.inl (11, fks))) := ⟨_, rfl⟩
theorem lsh_150 : ∃ fks, LSH[150]? = some (.inr (.inl (12, fks))) := ⟨_, rfl⟩
theorem lsh_192 : LSH[192]? = some (.inl (1, 1)) := rfl
abbrev YL : zMI := (yL_law, cL_law, 7, some .boolean)
/-- the script, as the machine has it -/
def lwN (L : Nat) (xs : Nat → Int32) : zC → State → Method → Prop := fun k s _ => va_X (k.2.1 5) L xs s s.heap ∧ k.2.1 5 < s.heap.size ∧ ¬ zA k (k.2.1 5)
def sx (xs : Nat → Int32) (j : Int) : Int := (xs j.toNat).toInt
theorem sx_r (xs : Nat → Int32) (j : Int) : r32 (sx xs j) := r32_of _
abbrev lls (i : Int) : List (Nat × zV) := [(0, zT 5), (1, zP 0), (2, zP 150), (3, zP 192), (4, .inl i)]
section LW
variable {al : zAl} {d : Nat} {Y : zMI} {sh : List zSh} {pc : Nat} {ls : List (Nat × zV)} {st : List zV} {σ : zG} {X : zX} {L : Nat} {xs : Nat → Int32}
theorem zRx.aloadT {n : Fin 4} {i : Nat} {z : Nat} (j : Nat) (hj : ls[j]? = some (i, zT z)) (hi : (n : Nat) = i) (hd : decode Y.2.1 pc = .ok (.aload_n n, 1)) (h : zRx al d Y sh (pc + 1) ls (zT z :: st) σ X) : zRx al d Y sh pc ls st σ X := by
  intro p l e R s m args below meth c k cf sf Z hF hX H locs la hW hL hS
  exact lv_aload_n hF.1.1 hF.1.2.1 hd hi (zl_at hL j hj) (h p l e R s m args below meth c k cf sf Z hF hX H locs la hW hL ⟨zl_r hL j hj, hS⟩)
theorem zRi.scr {j : Int} (h0 : 0 ≤ j) (h1 : j < (L : Int)) (hb : j < 2147483648) (hd : decode Y.2.1 pc = .ok (.iaload, 1)) (h : zRi (lwN L xs) al d Y sh (pc + 1) ls (.inl (sx xs j) :: st) σ X) : zRi (lwN L xs) al d Y sh pc ls (.inl j :: zT 5 :: st) σ X := by
  intro p l e R s m args below meth c k cf sf Z hk hn hE hF hX H locs la hW hL hS
  have h9 := h p l e R s m args below meth c k cf sf Z hk hn hE hF hX H locs la hW hL ⟨sx_r xs j, hS.2.2⟩
  rw [List.map_cons, show tv k (.inl (sx xs j)) = Value.int (xs (iv j).toNatClampNeg) by
    show Value.int (iv (xs j.toNat).toInt) = _
    rw [iv_of, iv_clamp h0 hb]] at h9
  exact va_sld hF.1.1 hF.1.2.1 hn.1 hn.2.1 hn.2.2 hW.2.1 (iv_in h0 h1 hb) hd h9
theorem zRi.scl (hL31 : L < 2147483648) (hd : decode Y.2.1 pc = .ok (.arraylength, 1)) (h : zRi (lwN L xs) al d Y sh (pc + 1) ls (.inl (L : Int) :: st) σ X) : zRi (lwN L xs) al d Y sh pc ls (zT 5 :: st) σ X := by
  intro p l e R s m args below meth c k cf sf Z hk hn hE hF hX H locs la hW hL hS
  have h9 := h p l e R s m args below meth c k cf sf Z hk hn hE hF hX H locs la hW hL ⟨⟨by omega, by omega⟩, hS.2⟩
  exact va_slen hF.1.1 hF.1.2.1 hn.1 hn.2.1 hn.2.2 hW.2.1 hd h9
end LW
/-- where a case ends -/
def lX (i : Int) : zX := fun sh' pc' ls' st' σ' => sh' = LSH ∧ pc' = 1392 ∧ ls' = lls i ∧ st' = [] ∧ ∃ (σ μ : zG) (o : Int → Int), σ' = cmb σ μ o ∧ REL σ μ
