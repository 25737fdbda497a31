/-! constructors: the small ones -/
theorem oi_ok : Cond.instanceMethod Lib.objectInit ∈ gt ∧ Cond.code Lib.objectInit ⟨#[0xb1]⟩ 1 none ∈ gt := ⟨gt_t1 32 (by decide +kernel) rfl, gt_t1 33 (by decide +kernel) rfl⟩
theorem ar_I : Cond.arrayClass .int ∈ gt := gt_t1 53 (by decide +kernel) rfl
section ZN
variable {NN : zC → State → Method → Prop} {d : Nat} {Y : zMI} {sh : List zSh} {pc : Nat} {ls : List (Nat × zV)} {st : List zV} {σ : zG} {X : zX} {q : Nat × Nat × Nat × Nat}
theorem zRi.newI {n : Nat} {z : Int} (hz : z = (n : Int)) (hb : n * 4 ≤ 536870912) (h0 : q.1 ≤ sh.length) (h1 : sh.length + 1 ≤ q.2.2.1) (z0 : q.2.1 ≤ szs sh) (z1 : szs sh + n ≤ q.2.2.2) (hd : decode Y.2.1 pc = .ok (.newarray .int, 2)) (h : zRi NN (some q) d Y (sh ++ [.inl (0, n)]) (pc + 2) ls (zP sh.length :: st) (zr0 σ sh.length) X) : zRi NN (some q) d Y sh pc ls (.inl z :: st) σ X := by
  refine zRi.newarr (t := 0) (at9 := .int) (ft := .int) rfl (fun _ => rfl) (fun U cA h => h) ar_I (fun k cA hk y hy => ?_) hz hb (fun j => (⟨by decide, by decide⟩ : r32 0)) (by omega) h0 h1 z0 z1 hd h
  subst hk
  cases hy
  rfl
end ZN
theorem oi_7 : Cond.methodLink RX7 3 Lib.objectInit ∈ gt := gt_t1 39 (by decide +kernel) rfl
theorem new_X7 (σ : zG) : zDoA 2 m_X7_init 1 940 [zP 0] [.inr (.inl (7, [.inr none, .inl 0]))] σ (fun sh' σ' => sh' = [.inr (.inl (7, [.inr (some 1), .inl 0])), .inl (0, 940)] ∧ σ' = zr0 σ 1) := by
  refine zDoA.intro mk_X7_init rfl rfl (Nat.le_of_ble_eq_true rfl) ?_
  refine zRi.lift (fun X h => zRx.aload_n 0 rfl rfl dX7_init_0 h) ?_
  refine zRi.objInit oi_7 oi_ok.1 oi_ok.2 (by decide) (Nat.le_of_ble_eq_true rfl) dX7_init_1 ?_
  refine zRi.lift (fun X h => zRx.aload_n 0 rfl rfl dX7_init_4 h) ?_
  refine zRi.lift (fun X h => zRx.sipush ⟨by decide, by decide⟩ rfl dX7_init_5 h) ?_
  refine zRi.newI (n := 940) rfl (by decide) (Nat.le_of_ble_eq_true rfl) (Nat.le_of_ble_eq_true rfl) (Nat.le_of_ble_eq_true rfl) (Nat.le_of_ble_eq_true rfl) dX7_init_8 ?_
  refine zRi.putR (a := 0) (b := 1) (j := 0) (fun _ _ _ h => h) ck_7 (by decide) rfl rfl (gt_t1 40 (by decide +kernel) rfl) rfl (fun _ => ⟨rfl, rfl⟩) rfl rfl dX7_init_10 ?_
  exact zRi.stop ⟨dX7_init_13, rfl, ⟨rfl, rfl⟩, rfl, rfl⟩
