/-! whole numbers for the machine's ints and longs -/
def iv (z : Int) : Int32 := Int32.ofInt z
def jv (z : Int) : Int64 := Int64.ofInt z
def r32 (z : Int) : Prop := -2147483648 ≤ z ∧ z < 2147483648
def r64 (z : Int) : Prop := -9223372036854775808 ≤ z ∧ z < 9223372036854775808
theorem iv_toInt {z : Int} (h : r32 z) : (iv z).toInt = z := by
  unfold iv r32 at *
  rw [Int32.toInt_ofInt]
  simp only [Int.bmod, Int32.size]
  omega
theorem jv_toInt {z : Int} (h : r64 z) : (jv z).toInt = z := by
  unfold jv r64 at *
  rw [Int64.toInt_ofInt]
  simp only [Int.bmod, Int64.size]
  omega
theorem iv_of (x : Int32) : iv x.toInt = x := by unfold iv; exact Int32.ofInt_toInt x
theorem jv_of (x : Int64) : jv x.toInt = x := by unfold jv; exact Int64.ofInt_toInt x
theorem r32_of (x : Int32) : r32 x.toInt := ⟨Int32.le_toInt x, Int32.toInt_lt x⟩
theorem r64_of (x : Int64) : r64 x.toInt := ⟨Int64.le_toInt x, Int64.toInt_lt x⟩
theorem iv_inj {a b : Int} (ha : r32 a) (hb : r32 b) : iv a = iv b ↔ a = b := ⟨fun h => by rw [← iv_toInt ha, ← iv_toInt hb, h], fun h => by rw [h]⟩
theorem jv_inj {a b : Int} (ha : r64 a) (hb : r64 b) : jv a = jv b ↔ a = b := ⟨fun h => by rw [← jv_toInt ha, ← jv_toInt hb, h], fun h => by rw [h]⟩
theorem iv_lt {a b : Int} (ha : r32 a) (hb : r32 b) : iv a < iv b ↔ a < b := by rw [Int32.lt_iff_toInt_lt, iv_toInt ha, iv_toInt hb]
theorem iv_le {a b : Int} (ha : r32 a) (hb : r32 b) : iv a ≤ iv b ↔ a ≤ b := by rw [Int32.le_iff_toInt_le, iv_toInt ha, iv_toInt hb]
theorem jv_lt {a b : Int} (ha : r64 a) (hb : r64 b) : jv a < jv b ↔ a < b := by rw [Int64.lt_iff_toInt_lt, jv_toInt ha, jv_toInt hb]
theorem jv_le {a b : Int} (ha : r64 a) (hb : r64 b) : jv a ≤ jv b ↔ a ≤ b := by rw [Int64.le_iff_toInt_le, jv_toInt ha, jv_toInt hb]
theorem iv_add (a b : Int) : iv a + iv b = iv (a + b) := by unfold iv; rw [Int32.ofInt_add]
theorem iv_sub (a b : Int) : iv a - iv b = iv (a - b) := by unfold iv; rw [Int32.ofInt_sub]
theorem iv_mul (a b : Int) : iv a * iv b = iv (a * b) := by unfold iv; rw [Int32.ofInt_mul]
theorem iv_neg (a : Int) : - iv a = iv (-a) := by unfold iv; rw [Int32.ofInt_neg]
theorem jv_add (a b : Int) : jv a + jv b = jv (a + b) := by unfold jv; rw [Int64.ofInt_add]
theorem jv_sub (a b : Int) : jv a - jv b = jv (a - b) := by unfold jv; rw [Int64.ofInt_sub]
theorem iv_0 : iv 0 = 0 := rfl
theorem r32_0 : r32 0 := ⟨by decide, by decide⟩
theorem iv_clamp {z : Int} (h0 : 0 ≤ z) (h1 : z < 2147483648) : (iv z).toNatClampNeg = z.toNat := by
  have h := iv_toInt (z := z) ⟨by omega, h1⟩
  rw [← Int32.toNat_toInt, h]
theorem iv_in {z : Int} {n : Nat} (h0 : 0 ≤ z) (h1 : z < n) (h2 : z < 2147483648) : vp_in (iv z) n := by
  rw [vp_in_iff, iv_toInt ⟨by omega, h2⟩]
  exact ⟨h0, h1⟩
/-- the whole number of an int's pattern, after wrapping -/
def w32 (z : Int) : Int := (iv z).toInt
theorem w32_r (z : Int) : r32 (w32 z) := r32_of _
theorem w32_iv (z : Int) : iv (w32 z) = iv z := iv_of _
theorem w32_id {z : Int} (h : r32 z) : w32 z = z := iv_toInt h
def band (a b : Int) : Int := (iv a &&& iv b).toInt
def bor (a b : Int) : Int := (iv a ||| iv b).toInt
def bxor (a b : Int) : Int := (iv a ^^^ iv b).toInt
def bshl (a b : Int) : Int := (iv a <<< (iv b &&& 31)).toInt
def bshr (a b : Int) : Int := (iv a >>> (iv b &&& 31)).toInt
def bushr (a b : Int) : Int := ((iv a).toUInt32 >>> ((iv b).toUInt32 &&& Int32.toUInt32 31)).toInt32.toInt
def wbyte (a : Int) : Int := (iv a).toInt8.toInt
def jand (a b : Int) : Int := (jv a &&& jv b).toInt
def jor (a b : Int) : Int := (jv a ||| jv b).toInt
def jshl (a b : Int) : Int := (jv a <<< ((iv b).toInt64 &&& 63)).toInt
def jshr (a b : Int) : Int := (jv a >>> ((iv b).toInt64 &&& 63)).toInt
def jl2i (a : Int) : Int := (jv a).toInt32.toInt
/-! the state: a cell's number, a place in it -/
abbrev zG : Type := Nat → Int → Int
abbrev zV : Type := Int ⊕ (Int ⊕ (Nat ⊕ Nat))
abbrev zFK : Type := Nat ⊕ Option Nat
abbrev zSh : Type := (Nat × Nat) ⊕ ((Nat × List zFK) ⊕ List (Option Nat))
abbrev zC : Type := Nat × (Nat → Nat) × va_G × (Nat → ClassId)
abbrev zI (z : Int) : zV := .inl z
abbrev zJ (z : Int) : zV := .inr (.inl z)
abbrev zP (k : Nat) : zV := .inr (.inr (.inl k))
abbrev zT (k : Nat) : zV := .inr (.inr (.inr k))
def tv (k : zC) : zV → Value
  | .inl z => .int (iv z)
  | .inr (.inl z) => .long (jv z)
  | .inr (.inr (.inl a)) => .ref (k.1 + a)
  | .inr (.inr (.inr a)) => .ref (k.2.1 a)
def rV : zV → Prop
  | .inl z => r32 z
  | .inr (.inl z) => r64 z
  | .inr (.inr _) => True
def rL : List zV → Prop
  | [] => True
  | v :: t => rV v ∧ rL t
def rK (n : Nat) (z : Int) : Prop := match n with
  | 0 => r32 z
  | 1 => r64 z
  | 2 => -128 ≤ z ∧ z < 128
  | _ => 0 ≤ z ∧ z ≤ 1
def zlong : zV → Bool
  | .inr (.inl _) => true
  | _ => false
theorem tv_cat (k : zC) (v : zV) : ((tv k v).category == 2) = zlong v := by
  rcases v with z | z | a | a <;> rfl
def fval (k : zC) (f : Int → Int) (j : Nat) : zFK → Value
  | .inl n => if n = 1 then .long (jv (f j)) else .int (iv (f j))
  | .inr none => .null
  | .inr (some t) => .ref (k.1 + t)
def zcell (k : zC) (f : Int → Int) : zSh → va_E
  | .inl (t, n) => if t = 1 then .inl (k.2.2.2 1, n, .inr (.inl (fun j => jv (f j)))) else .inl (k.2.2.2 t, n, .inl (fun j => iv (f j)))
  | .inr (.inl (ci, fks)) => .inr (ci, fks.mapIdx (fun j fk => fval k f j fk))
  | .inr (.inr ts) => .inl (k.2.2.2 4, ts.length, .inr (.inr (.inr (.inr (fun j => (ts.getD j none).map (k.1 + ·))))))
def wl (k : zC) (sh : List zSh) (σ : zG) : va_W := sh.mapIdx (fun a s => (k.1 + a, zcell k (σ a) s))
theorem wl_at {k : zC} {sh : List zSh} {σ : zG} {a : Nat} {s : zSh} (h : sh[a]? = some s) : (wl k sh σ)[a]? = some (k.1 + a, zcell k (σ a) s) := by
  simp [wl, List.getElem?_mapIdx, h]
theorem wl_inv {k : zC} {sh : List zSh} {σ : zG} {a : Nat} {q : Nat × va_E} (h : (wl k sh σ)[a]? = some q) : ∃ s, sh[a]? = some s ∧ q = (k.1 + a, zcell k (σ a) s) := by
  simp only [wl, List.getElem?_mapIdx, Option.map_eq_some_iff] at h
  obtain ⟨s, h1, h2⟩ := h
  exact ⟨s, h1, h2.symm⟩
def zA (k : zC) : Nat → Prop := fun q => k.1 ≤ q ∧ ¬ (k.2.1 3 ≤ q ∧ q < k.2.1 4)
/-- a foreign stretch of the heap lies behind the world's cells, or is none -/
def zFo (k : zC) (n : Nat) : Prop := k.1 + n ≤ k.2.1 3 ∨ k.2.1 4 ≤ k.1
theorem wl_D {k : zC} {sh : List zSh} {σ : zG} (hfo : zFo k sh.length) : va_D (zA k) (wl k sh σ) := by
  refine ⟨fun i j p q hi hj hpq => ?_, fun i q hi => ?_⟩
  · obtain ⟨s1, -, rfl⟩ := wl_inv hi
    obtain ⟨s2, -, rfl⟩ := wl_inv hj
    have : k.1 + i = k.1 + j := hpq
    omega
  · obtain ⟨s1, h1, rfl⟩ := wl_inv hi
    have hl := (List.getElem?_eq_some_iff.mp h1).1
    show k.1 ≤ k.1 + i ∧ ¬ (k.2.1 3 ≤ k.1 + i ∧ k.1 + i < k.2.1 4)
    unfold zFo at hfo
    omega
def zu (σ : zG) (a : Nat) (i z : Int) : zG := fun a' i' => if a' = a then (if i' = i then z else σ a' i') else σ a' i'
theorem zu_at (σ : zG) (a : Nat) (i z : Int) : zu σ a i z a i = z := by simp [zu]
theorem zu_ne (σ : zG) {a b : Nat} (i z j : Int) (h : b ≠ a) : zu σ a i z b j = σ b j := by simp [zu, h]
theorem zu_row (σ : zG) {a b : Nat} (i z : Int) (h : b ≠ a) : zu σ a i z b = σ b := by funext j; exact zu_ne σ i z j h
theorem zu_off (σ : zG) (a : Nat) {i j : Int} (z : Int) (h : j ≠ i) : zu σ a i z a j = σ a j := by simp [zu, h]
theorem zu_if (σ : zG) (a : Nat) (i j z : Int) : zu σ a i z a j = if j = i then z else σ a j := by simp [zu]
theorem wl_set {k : zC} {sh : List zSh} {σ σ' : zG} {a : Nat} {s : zSh} (h : sh[a]? = some s) (ho : ∀ b, b ≠ a → σ' b = σ b) : (wl k sh σ).set a (k.1 + a, zcell k (σ' a) s) = wl k sh σ' := by
  have hl : a < (wl k sh σ).length := (List.getElem?_eq_some_iff.mp (wl_at (k := k) (σ := σ) h)).1
  apply List.ext_getElem?
  intro b
  by_cases hb : b = a
  · subst hb
    rw [List.getElem?_set_self hl, wl_at h]
  · rw [List.getElem?_set_ne (Ne.symm hb)]
    simp only [wl, List.getElem?_mapIdx, ho b hb]
theorem zcell_i (k : zC) (f : Int → Int) (n : Nat) : zcell k f (.inl (0, n)) = .inl (k.2.2.2 0, n, .inl (fun j => iv (f j))) := rfl
theorem zcell_l (k : zC) (f : Int → Int) (n : Nat) : zcell k f (.inl (1, n)) = .inl (k.2.2.2 1, n, .inr (.inl (fun j => jv (f j)))) := rfl
theorem zcell_b (k : zC) (f : Int → Int) (n : Nat) : zcell k f (.inl (2, n)) = .inl (k.2.2.2 2, n, .inl (fun j => iv (f j))) := rfl
theorem zcell_z (k : zC) (f : Int → Int) (n : Nat) : zcell k f (.inl (3, n)) = .inl (k.2.2.2 3, n, .inl (fun j => iv (f j))) := rfl
theorem zcell_o (k : zC) (f : Int → Int) (ci : Nat) (fks : List zFK) : zcell k f (.inr (.inl (ci, fks))) = .inr (ci, fks.mapIdx (fun j fk => fval k f j fk)) := rfl
/-- the size of a shape, in slots -/
def szs : List zSh → Nat
  | [] => 0
  | .inl (_, n) :: t => n + szs t
  | .inr (.inl (_, fks)) :: t => fks.length + szs t
  | .inr (.inr ts) :: t => ts.length + szs t
def rS (f : Int → Int) : zSh → Prop
  | .inl (t, _) => ∀ j, rK t (f j)
  | .inr (.inl (_, fks)) => ∀ (j n : Nat), fks[j]? = some (.inl n) → rK n (f j)
  | .inr (.inr _) => True
def rG (sh : List zSh) (σ : zG) : Prop := ∀ (a : Nat) (s : zSh), sh[a]? = some s → rS (σ a) s
def tysOf (k : zC) : List (ClassId × FieldType) := [(k.2.2.2 0, .int), (k.2.2.2 1, .long), (k.2.2.2 2, .byte), (k.2.2.2 3, .boolean), (k.2.2.2 4, .object RX3)]
/-- the static rows -/
def zset (i : Nat) (j : Nat) : Int := match i with
  | 0 => [28, 5, 15, 5, 20].getD j 0
  | 1 => [1, 0, 10, 0, 10].getD j 0
  | _ => [99, 10, 30, 20, 40].getD j 0
def zsetn (i : Nat) : String := match i with
  | 0 => "SET_UNTOLD"
  | 1 => "SET_LEAST"
  | _ => "SET_MOST"
/-- a static row: at least its five places -/
def zSX (b i : Nat) (U : State) (H : Heap) : Prop := ∃ (n : Nat) (f : Nat → Int32), va_X b n f U H ∧ 5 ≤ n ∧ ∀ j : Nat, j < 5 → f j = iv (zset i j)
theorem zSX.kept {b i : Nat} {U : State} {H H1 : Heap} (h : zSX b i U H) (hq : H1[b]? = H[b]?) : zSX b i U H1 := by
  obtain ⟨n, f, h1, h2⟩ := h
  exact ⟨n, f, h1.kept hq, h2⟩
theorem zSX.moved {b i : Nat} {u U : State} {H : Heap} (hvm : u.vm.Alike U.vm) (h : zSX b i u H) : zSX b i U H := by
  obtain ⟨n, f, h1, h2⟩ := h
  exact ⟨n, f, va_X.moved hvm h1, h2⟩
/-- what a method may take as given of the state's tables -/
def zK (k : zC) (U : State) : Prop := va_K k.2.2.1 vwCl (tysOf k) U ∧ (∀ w ∈ nw, va_Nw w U) ∧ ∀ i : Nat, i < 3 → zSX (k.2.1 i) i U U.heap ∧ va_Z RX11 (zsetn i) "[I" (.ref (k.2.1 i)) (zA k) U U.heap ∧ k.2.1 i < U.heap.size ∧ ¬ zA k (k.2.1 i)
/-- a method: its name, bytes, number of locals, what it returns -/
abbrev zMI : Type := MethodName × ByteArray × Nat × Option FieldType
abbrev zAl : Type := Option (Nat × Nat × Nat × Nat)
def zFx (al : zAl) (d : Nat) (Y : zMI) (p : Program) (R : Room) (s : State) (m : MethodId) (args : Array Value) (c : Code) (k : zC) (cf sf : Nat → Nat) : Prop :=
  CallFix p m c Y.2.1 Y.2.2.1 s args gt Y.1.cls ∧ zK k s ∧ d ≤ R.frames ∧ 64 * d ≤ R.locals ∧ k.1 ≤ s.heap.size ∧
  ∀ q ∈ al, (∀ n, q.1 ≤ n → cf (n + 1) = cf n + 1 ∧ s.heap.size + cf n = k.1 + n) ∧ (∀ n z, q.2.1 ≤ n → sf (n + z) = sf n + z) ∧ (∀ n, n ≤ q.2.2.1 → cf n ≤ R.cells) ∧ ∀ n, n ≤ q.2.2.2 → sf n ≤ R.slots
def zW (k : zC) (s : State) (R : Room) (cf sf : Nat → Nat) (sh : List zSh) (σ : zG) (H : Heap) (locs : List Loc) : Prop :=
  va_P k.2.2.1 vwCl (wl k sh σ) H ∧ va_S (zA k) s.heap H locs ∧ rG sh σ ∧ (cf sh.length ≤ R.cells ∧ sf (szs sh) ≤ R.slots) ∧ zFo k sh.length
def zL (k : zC) (nL : Nat) (ls : List (Nat × zV)) (la : Array Slot) : Prop := lv_has la nL (ls.map (fun q => (q.1, tv k q.2))) ∧ ∀ q ∈ ls, rV q.2
abbrev zX : Type := List zSh → Nat → List (Nat × zV) → List zV → zG → Prop
/-- from this frame and state the machine comes to a frame and state of X -/
def zRx (al : zAl) (d : Nat) (Y : zMI) (sh : List zSh) (pc : Nat) (ls : List (Nat × zV)) (st : List zV) (σ : zG) (X : zX) : Prop :=
  ∀ (p : Program) (l : Launch) (e : Env) (R : Room) (s : State) (m : MethodId) (args : Array Value) (below : List Frame) (meth : Method) (c : Code) (k : zC) (cf sf : Nat → Nat) (Z : State → Prop),
    zFx al d Y p R s m args c k cf sf →
    (∀ (sh' : List zSh) (pc' : Nat) (ls' : List (Nat × zV)) (st' : List zV) (σ' : zG) (H : Heap) (locs : List Loc) (la : Array Slot), X sh' pc' ls' st' σ' → zW k s R cf sf sh' σ' H locs → zL k Y.2.2.1 ls' la → rL st' → W p l e R s m args below meth c H locs (cf sh'.length) (sf (szs sh')) Z (F0 m pc' la (st'.map (tv k)))) →
    ∀ (H : Heap) (locs : List Loc) (la : Array Slot), zW k s R cf sf sh σ H locs → zL k Y.2.2.1 ls la → rL st → W p l e R s m args below meth c H locs (cf sh.length) (sf (szs sh)) Z (F0 m pc la (st.map (tv k)))
section ZR
variable {al : zAl} {d : Nat} {Y : zMI} {sh : List zSh} {pc : Nat} {ls : List (Nat × zV)} {st : List zV} {σ : zG} {X : zX}
theorem zRx.stop (h : X sh pc ls st σ) : zRx al d Y sh pc ls st σ X := fun _ _ _ _ _ _ _ _ _ _ _ _ _ _ _ hX H locs la hW hL hS => hX _ _ _ _ _ H locs la h hW hL hS
theorem zRx.trans {X1 : zX} (h : zRx al d Y sh pc ls st σ X1) (h2 : ∀ sh' pc' ls' st' σ', X1 sh' pc' ls' st' σ' → zRx al d Y sh' pc' ls' st' σ' X) : zRx al d Y sh pc ls st σ X :=
  fun p l e R s m args below meth c k cf sf Z hF hX H locs la hW hL hS => h p l e R s m args below meth c k cf sf Z hF (fun sh' pc' ls' st' σ' H locs la h1 hW hL hS => h2 sh' pc' ls' st' σ' h1 p l e R s m args below meth c k cf sf Z hF hX H locs la hW hL hS) H locs la hW hL hS
theorem zRx.mono {X1 : zX} (h : zRx al d Y sh pc ls st σ X1) (h2 : ∀ sh' pc' ls' st' σ', X1 sh' pc' ls' st' σ' → X sh' pc' ls' st' σ') : zRx al d Y sh pc ls st σ X := h.trans fun _ _ _ _ _ h1 => zRx.stop (h2 _ _ _ _ _ h1)
/-- the state's numbers are in their ranges -/
theorem zRx.rg (h : rG sh σ → zRx al d Y sh pc ls st σ X) : zRx al d Y sh pc ls st σ X :=
  fun p l e R s m args below meth c k cf sf Z hF hX H locs la hW hL hS => h hW.2.2.1 p l e R s m args below meth c k cf sf Z hF hX H locs la hW hL hS
theorem zRx.rl (h : (∀ q ∈ ls, rV q.2) → zRx al d Y sh pc ls st σ X) : zRx al d Y sh pc ls st σ X :=
  fun p l e R s m args below meth c k cf sf Z hF hX H locs la hW hL hS => h hL.2 p l e R s m args below meth c k cf sf Z hF hX H locs la hW hL hS
theorem zRx.rs (h : rL st → zRx al d Y sh pc ls st σ X) : zRx al d Y sh pc ls st σ X :=
  fun p l e R s m args below meth c k cf sf Z hF hX H locs la hW hL hS => h hS p l e R s m args below meth c k cf sf Z hF hX H locs la hW hL hS
/-- fewer locals -/
theorem zRx.less {ls' : List (Nat × zV)} (hs : ∀ q ∈ ls', q ∈ ls) (h : zRx al d Y sh pc ls' st σ X) : zRx al d Y sh pc ls st σ X :=
  fun p l e R s m args below meth c k cf sf Z hF hX H locs la hW hL hS => h p l e R s m args below meth c k cf sf Z hF hX H locs la hW ⟨⟨hL.1.1, hL.1.2.1, fun q hq => by
    obtain ⟨q0, h1, rfl⟩ := List.mem_map.mp hq
    exact hL.1.2.2 _ (List.mem_map.mpr ⟨q0, hs q0 h1, rfl⟩)⟩, fun q hq => hL.2 q (hs q hq)⟩ hS
theorem zl_at {k : zC} {n : Nat} {la : Array Slot} (h : zL k n ls la) (j : Nat) {i : Nat} {v : zV} (hj : ls[j]? = some (i, v)) : la[i]? = some (.val (tv k v)) := lv_at h.1 j (by rw [List.getElem?_map, hj]; rfl)
theorem zl_r {k : zC} {n : Nat} {la : Array Slot} (h : zL k n ls la) (j : Nat) {i : Nat} {v : zV} (hj : ls[j]? = some (i, v)) : rV v := h.2 _ (List.mem_of_getElem? hj)
theorem zRx.iload_n {n : Fin 4} {i : Nat} {z : Int} (j : Nat) (hj : ls[j]? = some (i, .inl z)) (hi : (n : Nat) = i) (hd : decode Y.2.1 pc = .ok (.iload_n n, 1)) (h : zRx al d Y sh (pc + 1) ls (.inl z :: st) σ X) : zRx al d Y sh pc ls st σ X := by
  intro p l e R s m args below meth c k cf sf Z hF hX H locs la hW hL hS
  exact lv_iload_n hF.1.1 hF.1.2.1 hd hi (zl_at hL j hj) (h p l e R s m args below meth c k cf sf Z hF hX H locs la hW hL ⟨zl_r hL j hj, hS⟩)
theorem zRx.iload {i : Nat} {z : Int} (j : Nat) (hj : ls[j]? = some (i, .inl z)) (hd : decode Y.2.1 pc = .ok (.iload i, 2)) (h : zRx al d Y sh (pc + 2) ls (.inl z :: st) σ X) : zRx al d Y sh pc ls st σ X := by
  intro p l e R s m args below meth c k cf sf Z hF hX H locs la hW hL hS
  exact lv_iload hF.1.1 hF.1.2.1 hd (zl_at hL j hj) (h p l e R s m args below meth c k cf sf Z hF hX H locs la hW hL ⟨zl_r hL j hj, hS⟩)
theorem zRx.lload_n {n : Fin 4} {i : Nat} {z : Int} (j : Nat) (hj : ls[j]? = some (i, .inr (.inl z))) (hi : (n : Nat) = i) (hd : decode Y.2.1 pc = .ok (.lload_n n, 1)) (h : zRx al d Y sh (pc + 1) ls (.inr (.inl z) :: st) σ X) : zRx al d Y sh pc ls st σ X := by
  intro p l e R s m args below meth c k cf sf Z hF hX H locs la hW hL hS
  exact lv_lload_n hF.1.1 hF.1.2.1 hd hi (zl_at hL j hj) (h p l e R s m args below meth c k cf sf Z hF hX H locs la hW hL ⟨zl_r hL j hj, hS⟩)
theorem zRx.lload {i : Nat} {z : Int} (j : Nat) (hj : ls[j]? = some (i, .inr (.inl z))) (hd : decode Y.2.1 pc = .ok (.lload i, 2)) (h : zRx al d Y sh (pc + 2) ls (.inr (.inl z) :: st) σ X) : zRx al d Y sh pc ls st σ X := by
  intro p l e R s m args below meth c k cf sf Z hF hX H locs la hW hL hS
  exact lv_lload hF.1.1 hF.1.2.1 hd (zl_at hL j hj) (h p l e R s m args below meth c k cf sf Z hF hX H locs la hW hL ⟨zl_r hL j hj, hS⟩)
theorem zRx.aload_n {n : Fin 4} {i : Nat} {z : Nat} (j : Nat) (hj : ls[j]? = some (i, zP z)) (hi : (n : Nat) = i) (hd : decode Y.2.1 pc = .ok (.aload_n n, 1)) (h : zRx al d Y sh (pc + 1) ls (zP z :: st) σ X) : zRx al d Y sh pc ls st σ X := by
  intro p l e R s m args below meth c k cf sf Z hF hX H locs la hW hL hS
  exact lv_aload_n hF.1.1 hF.1.2.1 hd hi (zl_at hL j hj) (h p l e R s m args below meth c k cf sf Z hF hX H locs la hW hL ⟨zl_r hL j hj, hS⟩)
theorem zRx.aload {i : Nat} {z : Nat} (j : Nat) (hj : ls[j]? = some (i, zP z)) (hd : decode Y.2.1 pc = .ok (.aload i, 2)) (h : zRx al d Y sh (pc + 2) ls (zP z :: st) σ X) : zRx al d Y sh pc ls st σ X := by
  intro p l e R s m args below meth c k cf sf Z hF hX H locs la hW hL hS
  exact lv_aload hF.1.1 hF.1.2.1 hd (zl_at hL j hj) (h p l e R s m args below meth c k cf sf Z hF hX H locs la hW hL ⟨zl_r hL j hj, hS⟩)
theorem zRx.iconst {n : Int} (hr : r32 n) (hd : decode Y.2.1 pc = .ok (.iconst n, 1)) (h : zRx al d Y sh (pc + 1) ls (.inl n :: st) σ X) : zRx al d Y sh pc ls st σ X := by
  intro p l e R s m args below meth c k cf sf Z hF hX H locs la hW hL hS
  exact lv_iconst (v := iv n) hF.1.1 hF.1.2.1 hd rfl (h p l e R s m args below meth c k cf sf Z hF hX H locs la hW hL ⟨hr, hS⟩)
theorem zRx.bipush {n : Int} (hr : r32 n) (hv : (Int8.ofInt n).toInt32 = iv n) (hd : decode Y.2.1 pc = .ok (.bipush n, 2)) (h : zRx al d Y sh (pc + 2) ls (.inl n :: st) σ X) : zRx al d Y sh pc ls st σ X := by
  intro p l e R s m args below meth c k cf sf Z hF hX H locs la hW hL hS
  exact lv_bipush (v := iv n) hF.1.1 hF.1.2.1 hd hv (h p l e R s m args below meth c k cf sf Z hF hX H locs la hW hL ⟨hr, hS⟩)
theorem zRx.sipush {n : Int} (hr : r32 n) (hv : (Int16.ofInt n).toInt32 = iv n) (hd : decode Y.2.1 pc = .ok (.sipush n, 3)) (h : zRx al d Y sh (pc + 3) ls (.inl n :: st) σ X) : zRx al d Y sh pc ls st σ X := by
  intro p l e R s m args below meth c k cf sf Z hF hX H locs la hW hL hS
  exact lv_sipush (v := iv n) hF.1.1 hF.1.2.1 hd hv (h p l e R s m args below meth c k cf sf Z hF hX H locs la hW hL ⟨hr, hS⟩)
theorem zRx.lconst {n : Fin 2} {z : Int} (hz : Int64.ofNat n = jv z) (hr : r64 z) (hd : decode Y.2.1 pc = .ok (.lconst n, 1)) (h : zRx al d Y sh (pc + 1) ls (.inr (.inl z) :: st) σ X) : zRx al d Y sh pc ls st σ X := by
  intro p l e R s m args below meth c k cf sf Z hF hX H locs la hW hL hS
  exact lv_lconst (v := jv z) hF.1.1 hF.1.2.1 hd hz (h p l e R s m args below meth c k cf sf Z hF hX H locs la hW hL ⟨hr, hS⟩)
theorem zRx.ldc {i : Nat} {n : Int} (hr : r32 n) (hw : Cond.constant Y.1.cls i (iv n) ∈ gt) (hd : decode Y.2.1 pc = .ok (.ldc i, 2)) (h : zRx al d Y sh (pc + 2) ls (.inl n :: st) σ X) : zRx al d Y sh pc ls st σ X := by
  intro p l e R s m args below meth c k cf sf Z hF hX H locs la hW hL hS
  exact lv_ldc (v := iv n) hF.1.1 hF.1.2.1 hF.1.2.2.2.1 (hF.1.2.2.2.2 _ hw) hd (h p l e R s m args below meth c k cf sf Z hF hX H locs la hW hL ⟨hr, hS⟩)
theorem zRx.ldc2 {i : Nat} {n : Int} (hr : r64 n) (hw : Cond.constantLong Y.1.cls i (jv n) ∈ gt) (hd : decode Y.2.1 pc = .ok (.ldc2_w i, 3)) (h : zRx al d Y sh (pc + 3) ls (.inr (.inl n) :: st) σ X) : zRx al d Y sh pc ls st σ X := by
  intro p l e R s m args below meth c k cf sf Z hF hX H locs la hW hL hS
  exact lv_ldc2 (v := jv n) hF.1.1 hF.1.2.1 hF.1.2.2.2.1 (hF.1.2.2.2.2 _ hw) hd (h p l e R s m args below meth c k cf sf Z hF hX H locs la hW hL ⟨hr, hS⟩)
def zdel (i : Nat) (ls : List (Nat × zV)) : List (Nat × zV) := ls.filter (fun q => !(q.1 == i) && !(q.1 + 1 == i && zlong q.2))
def zdel2 (i : Nat) (ls : List (Nat × zV)) : List (Nat × zV) := ls.filter (fun q => !(q.1 == i) && (!(q.1 == i + 1) && !(q.1 + 1 == i && zlong q.2)))
def zins (i : Nat) (v : zV) : List (Nat × zV) → List (Nat × zV)
  | [] => [(i, v)]
  | q :: t => if q.1 < i then q :: zins i v t else (i, v) :: q :: t
theorem zins_mem {i : Nat} {v : zV} : ∀ (l : List (Nat × zV)) (q : Nat × zV), q ∈ zins i v l → q = (i, v) ∨ q ∈ l
  | [], q, h => by simpa [zins] using h
  | a :: t, q, h => by
    unfold zins at h
    split at h
    · rcases List.mem_cons.mp h with h | h
      · exact Or.inr (List.mem_cons.mpr (Or.inl h))
      · rcases zins_mem t q h with h | h
        · exact Or.inl h
        · exact Or.inr (List.mem_cons.mpr (Or.inr h))
    · rcases List.mem_cons.mp h with h | h
      · exact Or.inl h
      · exact Or.inr h
theorem zdel_map (k : zC) (i : Nat) (ls : List (Nat × zV)) : (ls.map (fun q => (q.1, tv k q.2))).filter (fun q => !(q.1 == i) && !(q.1 + 1 == i && q.2.category == 2)) = (zdel i ls).map (fun q => (q.1, tv k q.2)) := by
  unfold zdel
  rw [List.filter_map]
  congr 1
  apply List.filter_congr
  intro q _
  simp only [Function.comp, tv_cat]
theorem zdel2_map (k : zC) (i : Nat) (ls : List (Nat × zV)) : (ls.map (fun q => (q.1, tv k q.2))).filter (fun q => !(q.1 == i) && (!(q.1 == i + 1) && !(q.1 + 1 == i && q.2.category == 2))) = (zdel2 i ls).map (fun q => (q.1, tv k q.2)) := by
  unfold zdel2
  rw [List.filter_map]
  congr 1
  apply List.filter_congr
  intro q _
  simp only [Function.comp, tv_cat]
theorem zl_st {k : zC} {n i : Nat} {la : Array Slot} {v : zV} {w ls' : List (Nat × zV)} (h : lv_has la n ((i, tv k v) :: w.map (fun q => (q.1, tv k q.2)))) (hw : ∀ q ∈ w, rV q.2) (hv : rV v) (he : zins i v w = ls') : zL k n ls' la := by
  subst he
  refine ⟨⟨h.1, h.2.1, fun q hq => ?_⟩, fun q hq => ?_⟩
  · obtain ⟨q0, h1, rfl⟩ := List.mem_map.mp hq
    rcases zins_mem w q0 h1 with h2 | h2
    · subst h2; exact h.2.2 _ List.mem_cons_self
    · exact h.2.2 _ (List.mem_cons_of_mem _ (List.mem_map.mpr ⟨q0, h2, rfl⟩))
  · rcases zins_mem w q hq with h2 | h2
    · subst h2; exact hv
    · exact hw q h2
theorem zdel_r {i : Nat} (h : ∀ q ∈ ls, rV q.2) : ∀ q ∈ zdel i ls, rV q.2 := fun q hq => h q (List.mem_filter.mp hq).1
theorem zdel2_r {i : Nat} (h : ∀ q ∈ ls, rV q.2) : ∀ q ∈ zdel2 i ls, rV q.2 := fun q hq => h q (List.mem_filter.mp hq).1
theorem zRx.istore_n {n : Fin 4} {i : Nat} {z : Int} {ls' : List (Nat × zV)} (he : zins i (.inl z) (zdel i ls) = ls') (hi : (n : Nat) = i) (hn : i < Y.2.2.1) (hd : decode Y.2.1 pc = .ok (.istore_n n, 1)) (h : zRx al d Y sh (pc + 1) ls' st σ X) : zRx al d Y sh pc ls (.inl z :: st) σ X := by
  intro p l e R s m args below meth c k cf sf Z hF hX H locs la hW hL hS
  exact lv_istore_n hF.1.1 hF.1.2.1 hd hi hL.1 hn rfl (fun la' h' => h p l e R s m args below meth c k cf sf Z hF hX H locs la' hW (zl_st (by rw [zdel_map] at h'; exact h') (zdel_r hL.2) hS.1 he) hS.2)
theorem zRx.istore {i : Nat} {z : Int} {ls' : List (Nat × zV)} (he : zins i (.inl z) (zdel i ls) = ls') (hn : i < Y.2.2.1) (hd : decode Y.2.1 pc = .ok (.istore i, 2)) (h : zRx al d Y sh (pc + 2) ls' st σ X) : zRx al d Y sh pc ls (.inl z :: st) σ X := by
  intro p l e R s m args below meth c k cf sf Z hF hX H locs la hW hL hS
  exact lv_istore hF.1.1 hF.1.2.1 hd hL.1 hn rfl (fun la' h' => h p l e R s m args below meth c k cf sf Z hF hX H locs la' hW (zl_st (by rw [zdel_map] at h'; exact h') (zdel_r hL.2) hS.1 he) hS.2)
theorem zRx.astore_n {n : Fin 4} {i : Nat} {z : Nat} {ls' : List (Nat × zV)} (he : zins i (zP z) (zdel i ls) = ls') (hi : (n : Nat) = i) (hn : i < Y.2.2.1) (hd : decode Y.2.1 pc = .ok (.astore_n n, 1)) (h : zRx al d Y sh (pc + 1) ls' st σ X) : zRx al d Y sh pc ls (zP z :: st) σ X := by
  intro p l e R s m args below meth c k cf sf Z hF hX H locs la hW hL hS
  exact lv_astore_n hF.1.1 hF.1.2.1 hd hi hL.1 hn rfl (fun la' h' => h p l e R s m args below meth c k cf sf Z hF hX H locs la' hW (zl_st (by rw [zdel_map] at h'; exact h') (zdel_r hL.2) hS.1 he) hS.2)
theorem zRx.astore {i : Nat} {z : Nat} {ls' : List (Nat × zV)} (he : zins i (zP z) (zdel i ls) = ls') (hn : i < Y.2.2.1) (hd : decode Y.2.1 pc = .ok (.astore i, 2)) (h : zRx al d Y sh (pc + 2) ls' st σ X) : zRx al d Y sh pc ls (zP z :: st) σ X := by
  intro p l e R s m args below meth c k cf sf Z hF hX H locs la hW hL hS
  exact lv_astore hF.1.1 hF.1.2.1 hd hL.1 hn rfl (fun la' h' => h p l e R s m args below meth c k cf sf Z hF hX H locs la' hW (zl_st (by rw [zdel_map] at h'; exact h') (zdel_r hL.2) hS.1 he) hS.2)
theorem zRx.lstore_n {n : Fin 4} {i : Nat} {z : Int} {ls' : List (Nat × zV)} (he : zins i (zJ z) (zdel2 i ls) = ls') (hi : (n : Nat) = i) (hn : i + 1 < Y.2.2.1) (hd : decode Y.2.1 pc = .ok (.lstore_n n, 1)) (h : zRx al d Y sh (pc + 1) ls' st σ X) : zRx al d Y sh pc ls (zJ z :: st) σ X := by
  intro p l e R s m args below meth c k cf sf Z hF hX H locs la hW hL hS
  exact lv_lstore_n hF.1.1 hF.1.2.1 hd hi hL.1 hn rfl (fun la' h' => h p l e R s m args below meth c k cf sf Z hF hX H locs la' hW (zl_st (by rw [zdel2_map] at h'; exact h') (zdel2_r hL.2) hS.1 he) hS.2)
theorem zRx.lstore {i : Nat} {z : Int} {ls' : List (Nat × zV)} (he : zins i (zJ z) (zdel2 i ls) = ls') (hn : i + 1 < Y.2.2.1) (hd : decode Y.2.1 pc = .ok (.lstore i, 2)) (h : zRx al d Y sh (pc + 2) ls' st σ X) : zRx al d Y sh pc ls (zJ z :: st) σ X := by
  intro p l e R s m args below meth c k cf sf Z hF hX H locs la hW hL hS
  exact lv_lstore hF.1.1 hF.1.2.1 hd hL.1 hn rfl (fun la' h' => h p l e R s m args below meth c k cf sf Z hF hX H locs la' hW (zl_st (by rw [zdel2_map] at h'; exact h') (zdel2_r hL.2) hS.1 he) hS.2)
theorem zRx.iinc {i : Nat} {z n : Int} {ls' : List (Nat × zV)} (j : Nat) (hj : ls[j]? = some (i, .inl z)) (hr : r32 (z + n)) (he : zins i (.inl (z + n)) (zdel i ls) = ls') (hn : i < Y.2.2.1) (hd : decode Y.2.1 pc = .ok (.iinc i n, 3)) (h : zRx al d Y sh (pc + 3) ls' st σ X) : zRx al d Y sh pc ls st σ X := by
  intro p l e R s m args below meth c k cf sf Z hF hX H locs la hW hL hS
  exact lv_iinc (v := iv (z + n)) hF.1.1 hF.1.2.1 hd hL.1 (k := j) (by rw [List.getElem?_map, hj]; rfl) (iv_add z n) hn rfl (fun la' h' => h p l e R s m args below meth c k cf sf Z hF hX H locs la' hW (zl_st (v := .inl (z + n)) (by rw [zdel_map] at h'; exact h') (zdel_r hL.2) hr he) hS)
theorem zRx.iadd {a b : Int} (hr : r32 (a + b)) (hd : decode Y.2.1 pc = .ok (.iadd, 1)) (h : zRx al d Y sh (pc + 1) ls (.inl (a + b) :: st) σ X) : zRx al d Y sh pc ls (.inl b :: .inl a :: st) σ X := by
  intro p l e R s m args below meth c k cf sf Z hF hX H locs la hW hL hS
  have h1 := h p l e R s m args below meth c k cf sf Z hF hX H locs la hW hL ⟨hr, hS.2.2⟩
  rw [List.map_cons, show tv k (.inl (a + b)) = .int (iv a + iv b) from congrArg Value.int (iv_add a b).symm] at h1
  exact lv_iadd hF.1.1 hF.1.2.1 hd h1
theorem zRx.iaddW {a b : Int} (hd : decode Y.2.1 pc = .ok (.iadd, 1)) (h : zRx al d Y sh (pc + 1) ls (.inl (w32 (a + b)) :: st) σ X) : zRx al d Y sh pc ls (.inl b :: .inl a :: st) σ X := by
  intro p l e R s m args below meth c k cf sf Z hF hX H locs la hW hL hS
  have h1 := h p l e R s m args below meth c k cf sf Z hF hX H locs la hW hL ⟨w32_r _, hS.2.2⟩
  rw [List.map_cons, show tv k (.inl (w32 (a + b))) = .int (iv a + iv b) from congrArg Value.int ((w32_iv _).trans (iv_add a b).symm)] at h1
  exact lv_iadd hF.1.1 hF.1.2.1 hd h1
theorem zRx.isub {a b : Int} (hr : r32 (a - b)) (hd : decode Y.2.1 pc = .ok (.isub, 1)) (h : zRx al d Y sh (pc + 1) ls (.inl (a - b) :: st) σ X) : zRx al d Y sh pc ls (.inl b :: .inl a :: st) σ X := by
  intro p l e R s m args below meth c k cf sf Z hF hX H locs la hW hL hS
  have h1 := h p l e R s m args below meth c k cf sf Z hF hX H locs la hW hL ⟨hr, hS.2.2⟩
  rw [List.map_cons, show tv k (.inl (a - b)) = .int (iv a - iv b) from congrArg Value.int (iv_sub a b).symm] at h1
  exact lv_isub hF.1.1 hF.1.2.1 hd h1
theorem zRx.isubW {a b : Int} (hd : decode Y.2.1 pc = .ok (.isub, 1)) (h : zRx al d Y sh (pc + 1) ls (.inl (w32 (a - b)) :: st) σ X) : zRx al d Y sh pc ls (.inl b :: .inl a :: st) σ X := by
  intro p l e R s m args below meth c k cf sf Z hF hX H locs la hW hL hS
  have h1 := h p l e R s m args below meth c k cf sf Z hF hX H locs la hW hL ⟨w32_r _, hS.2.2⟩
  rw [List.map_cons, show tv k (.inl (w32 (a - b))) = .int (iv a - iv b) from congrArg Value.int ((w32_iv _).trans (iv_sub a b).symm)] at h1
  exact lv_isub hF.1.1 hF.1.2.1 hd h1
theorem zRx.imul {a b : Int} (hr : r32 (a * b)) (hd : decode Y.2.1 pc = .ok (.imul, 1)) (h : zRx al d Y sh (pc + 1) ls (.inl (a * b) :: st) σ X) : zRx al d Y sh pc ls (.inl b :: .inl a :: st) σ X := by
  intro p l e R s m args below meth c k cf sf Z hF hX H locs la hW hL hS
  have h1 := h p l e R s m args below meth c k cf sf Z hF hX H locs la hW hL ⟨hr, hS.2.2⟩
  rw [List.map_cons, show tv k (.inl (a * b)) = .int (iv a * iv b) from congrArg Value.int (iv_mul a b).symm] at h1
  exact lv_imul hF.1.1 hF.1.2.1 hd h1
theorem zRx.imulW {a b : Int} (hd : decode Y.2.1 pc = .ok (.imul, 1)) (h : zRx al d Y sh (pc + 1) ls (.inl (w32 (a * b)) :: st) σ X) : zRx al d Y sh pc ls (.inl b :: .inl a :: st) σ X := by
  intro p l e R s m args below meth c k cf sf Z hF hX H locs la hW hL hS
  have h1 := h p l e R s m args below meth c k cf sf Z hF hX H locs la hW hL ⟨w32_r _, hS.2.2⟩
  rw [List.map_cons, show tv k (.inl (w32 (a * b))) = .int (iv a * iv b) from congrArg Value.int ((w32_iv _).trans (iv_mul a b).symm)] at h1
  exact lv_imul hF.1.1 hF.1.2.1 hd h1
theorem zRx.iand {a b : Int} (hd : decode Y.2.1 pc = .ok (.iand, 1)) (h : zRx al d Y sh (pc + 1) ls (.inl (band a b) :: st) σ X) : zRx al d Y sh pc ls (.inl b :: .inl a :: st) σ X := by
  intro p l e R s m args below meth c k cf sf Z hF hX H locs la hW hL hS
  have h1 := h p l e R s m args below meth c k cf sf Z hF hX H locs la hW hL ⟨r32_of _, hS.2.2⟩
  rw [List.map_cons, show tv k (.inl (band a b)) = .int _ from congrArg Value.int (iv_of _)] at h1
  exact lv_iand hF.1.1 hF.1.2.1 hd h1
theorem zRx.ior {a b : Int} (hd : decode Y.2.1 pc = .ok (.ior, 1)) (h : zRx al d Y sh (pc + 1) ls (.inl (bor a b) :: st) σ X) : zRx al d Y sh pc ls (.inl b :: .inl a :: st) σ X := by
  intro p l e R s m args below meth c k cf sf Z hF hX H locs la hW hL hS
  have h1 := h p l e R s m args below meth c k cf sf Z hF hX H locs la hW hL ⟨r32_of _, hS.2.2⟩
  rw [List.map_cons, show tv k (.inl (bor a b)) = .int _ from congrArg Value.int (iv_of _)] at h1
  exact lv_ior hF.1.1 hF.1.2.1 hd h1
theorem zRx.ixor {a b : Int} (hd : decode Y.2.1 pc = .ok (.ixor, 1)) (h : zRx al d Y sh (pc + 1) ls (.inl (bxor a b) :: st) σ X) : zRx al d Y sh pc ls (.inl b :: .inl a :: st) σ X := by
  intro p l e R s m args below meth c k cf sf Z hF hX H locs la hW hL hS
  have h1 := h p l e R s m args below meth c k cf sf Z hF hX H locs la hW hL ⟨r32_of _, hS.2.2⟩
  rw [List.map_cons, show tv k (.inl (bxor a b)) = .int _ from congrArg Value.int (iv_of _)] at h1
  exact lv_ixor hF.1.1 hF.1.2.1 hd h1
theorem zRx.ishl {a b : Int} (hd : decode Y.2.1 pc = .ok (.ishl, 1)) (h : zRx al d Y sh (pc + 1) ls (.inl (bshl a b) :: st) σ X) : zRx al d Y sh pc ls (.inl b :: .inl a :: st) σ X := by
  intro p l e R s m args below meth c k cf sf Z hF hX H locs la hW hL hS
  have h1 := h p l e R s m args below meth c k cf sf Z hF hX H locs la hW hL ⟨r32_of _, hS.2.2⟩
  rw [List.map_cons, show tv k (.inl (bshl a b)) = .int _ from congrArg Value.int (iv_of _)] at h1
  exact lv_ishl hF.1.1 hF.1.2.1 hd h1
theorem zRx.ishr {a b : Int} (hd : decode Y.2.1 pc = .ok (.ishr, 1)) (h : zRx al d Y sh (pc + 1) ls (.inl (bshr a b) :: st) σ X) : zRx al d Y sh pc ls (.inl b :: .inl a :: st) σ X := by
  intro p l e R s m args below meth c k cf sf Z hF hX H locs la hW hL hS
  have h1 := h p l e R s m args below meth c k cf sf Z hF hX H locs la hW hL ⟨r32_of _, hS.2.2⟩
  rw [List.map_cons, show tv k (.inl (bshr a b)) = .int _ from congrArg Value.int (iv_of _)] at h1
  exact lv_ishr hF.1.1 hF.1.2.1 hd h1
theorem zRx.iushr {a b : Int} (hd : decode Y.2.1 pc = .ok (.iushr, 1)) (h : zRx al d Y sh (pc + 1) ls (.inl (bushr a b) :: st) σ X) : zRx al d Y sh pc ls (.inl b :: .inl a :: st) σ X := by
  intro p l e R s m args below meth c k cf sf Z hF hX H locs la hW hL hS
  have h1 := h p l e R s m args below meth c k cf sf Z hF hX H locs la hW hL ⟨r32_of _, hS.2.2⟩
  rw [List.map_cons, show tv k (.inl (bushr a b)) = .int _ from congrArg Value.int (iv_of _)] at h1
  exact lv_iushr hF.1.1 hF.1.2.1 hd rfl h1
theorem zRx.i2b {a : Int} (hd : decode Y.2.1 pc = .ok (.i2b, 1)) (h : zRx al d Y sh (pc + 1) ls (.inl (wbyte a) :: st) σ X) : zRx al d Y sh pc ls (.inl a :: st) σ X := by
  intro p l e R s m args below meth c k cf sf Z hF hX H locs la hW hL hS
  have e1 : iv (wbyte a) = (iv a).toInt8.toInt32 := by
    unfold wbyte
    rw [← Int8.toInt_toInt32, iv_of]
  have h1 := h p l e R s m args below meth c k cf sf Z hF hX H locs la hW hL ⟨by unfold wbyte; have h1 := Int8.le_toInt (iv a).toInt8; have h2 := Int8.toInt_lt (iv a).toInt8; exact ⟨by omega, by omega⟩, hS.2⟩
  rw [List.map_cons, show tv k (.inl (wbyte a)) = .int _ from congrArg Value.int e1] at h1
  exact lv_i2b hF.1.1 hF.1.2.1 hd rfl h1
theorem zRx.i2l {a : Int} (hd : decode Y.2.1 pc = .ok (.i2l, 1)) (h : zRx al d Y sh (pc + 1) ls (zJ a :: st) σ X) : zRx al d Y sh pc ls (.inl a :: st) σ X := by
  intro p l e R s m args below meth c k cf sf Z hF hX H locs la hW hL hS
  have ha : r32 a := hS.1
  have e1 : (iv a).toInt64 = jv a := by
    apply Int64.toInt_inj.mp
    rw [Int32.toInt_toInt64, iv_toInt ha, jv_toInt ⟨by have := ha.1; omega, by have := ha.2; omega⟩]
  exact lv_i2l hF.1.1 hF.1.2.1 hd e1 (h p l e R s m args below meth c k cf sf Z hF hX H locs la hW hL ⟨⟨by have := ha.1; omega, by have := ha.2; omega⟩, hS.2⟩)
theorem zRx.l2i {a : Int} (hd : decode Y.2.1 pc = .ok (.l2i, 1)) (h : zRx al d Y sh (pc + 1) ls (.inl (jl2i a) :: st) σ X) : zRx al d Y sh pc ls (zJ a :: st) σ X := by
  intro p l e R s m args below meth c k cf sf Z hF hX H locs la hW hL hS
  have h1 := h p l e R s m args below meth c k cf sf Z hF hX H locs la hW hL ⟨r32_of _, hS.2⟩
  rw [List.map_cons, show tv k (.inl (jl2i a)) = .int _ from congrArg Value.int (iv_of _)] at h1
  exact lv_l2i hF.1.1 hF.1.2.1 hd rfl h1
theorem zRx.ladd {a b : Int} (hr : r64 (a + b)) (hd : decode Y.2.1 pc = .ok (.ladd, 1)) (h : zRx al d Y sh (pc + 1) ls (zJ (a + b) :: st) σ X) : zRx al d Y sh pc ls (zJ b :: zJ a :: st) σ X := by
  intro p l e R s m args below meth c k cf sf Z hF hX H locs la hW hL hS
  have h1 := h p l e R s m args below meth c k cf sf Z hF hX H locs la hW hL ⟨hr, hS.2.2⟩
  rw [List.map_cons, show tv k (zJ (a + b)) = .long (jv a + jv b) from congrArg Value.long (jv_add a b).symm] at h1
  exact lv_ladd hF.1.1 hF.1.2.1 hd h1
theorem zRx.lor {a b : Int} (hd : decode Y.2.1 pc = .ok (.lor, 1)) (h : zRx al d Y sh (pc + 1) ls (zJ (jor a b) :: st) σ X) : zRx al d Y sh pc ls (zJ b :: zJ a :: st) σ X := by
  intro p l e R s m args below meth c k cf sf Z hF hX H locs la hW hL hS
  have h1 := h p l e R s m args below meth c k cf sf Z hF hX H locs la hW hL ⟨r64_of _, hS.2.2⟩
  rw [List.map_cons, show tv k (zJ (jor a b)) = .long _ from congrArg Value.long (jv_of _)] at h1
  exact lv_lor hF.1.1 hF.1.2.1 hd h1
theorem zRx.land {a b : Int} (hd : decode Y.2.1 pc = .ok (.land, 1)) (h : zRx al d Y sh (pc + 1) ls (zJ (jand a b) :: st) σ X) : zRx al d Y sh pc ls (zJ b :: zJ a :: st) σ X := by
  intro p l e R s m args below meth c k cf sf Z hF hX H locs la hW hL hS
  have h1 := h p l e R s m args below meth c k cf sf Z hF hX H locs la hW hL ⟨r64_of _, hS.2.2⟩
  rw [List.map_cons, show tv k (zJ (jand a b)) = .long _ from congrArg Value.long (jv_of _)] at h1
  exact lv_land hF.1.1 hF.1.2.1 hd h1
theorem zRx.lshl {a b : Int} (hd : decode Y.2.1 pc = .ok (.lshl, 1)) (h : zRx al d Y sh (pc + 1) ls (zJ (jshl a b) :: st) σ X) : zRx al d Y sh pc ls (.inl b :: zJ a :: st) σ X := by
  intro p l e R s m args below meth c k cf sf Z hF hX H locs la hW hL hS
  have h1 := h p l e R s m args below meth c k cf sf Z hF hX H locs la hW hL ⟨r64_of _, hS.2.2⟩
  rw [List.map_cons, show tv k (zJ (jshl a b)) = .long _ from congrArg Value.long (jv_of _)] at h1
  exact lv_lshl hF.1.1 hF.1.2.1 hd rfl h1
theorem zRx.lshr {a b : Int} (hd : decode Y.2.1 pc = .ok (.lshr, 1)) (h : zRx al d Y sh (pc + 1) ls (zJ (jshr a b) :: st) σ X) : zRx al d Y sh pc ls (.inl b :: zJ a :: st) σ X := by
  intro p l e R s m args below meth c k cf sf Z hF hX H locs la hW hL hS
  have h1 := h p l e R s m args below meth c k cf sf Z hF hX H locs la hW hL ⟨r64_of _, hS.2.2⟩
  rw [List.map_cons, show tv k (zJ (jshr a b)) = .long _ from congrArg Value.long (jv_of _)] at h1
  exact lv_lshr hF.1.1 hF.1.2.1 hd rfl h1
/-- a long comparison, then a branch on its sign -/
def zcmp (a b : Int) : Int := if a > b then 1 else if a = b then 0 else -1
theorem zRx.lcmp {a b : Int} (hd : decode Y.2.1 pc = .ok (.lcmp, 1)) (h : zRx al d Y sh (pc + 1) ls (.inl (zcmp a b) :: st) σ X) : zRx al d Y sh pc ls (zJ b :: zJ a :: st) σ X := by
  intro p l e R s m args below meth c k cf sf Z hF hX H locs la hW hL hS
  have hb : r64 b := hS.1
  have ha : r64 a := hS.2.1
  have e1 : iv (zcmp a b) = lg_cmp (jv a) (jv b) := by
    unfold zcmp lg_cmp
    have h1 : (jv a > jv b) ↔ a > b := jv_lt hb ha
    have h2 : (jv a = jv b) ↔ a = b := jv_inj ha hb
    simp only [h1, h2]
    split
    · rfl
    · split <;> rfl
  have hc : r32 (zcmp a b) := by
    unfold zcmp
    split
    · exact ⟨by decide, by decide⟩
    · split <;> exact ⟨by decide, by decide⟩
  have h1 := h p l e R s m args below meth c k cf sf Z hF hX H locs la hW hL ⟨hc, hS.2.2⟩
  rw [List.map_cons, show tv k (.inl (zcmp a b)) = .int _ from congrArg Value.int e1] at h1
  exact W.lcmp hF.1.1 hF.1.2.1 hd h1
theorem iv_div {a b : Int} (ha : 0 ≤ a ∧ a < 2147483648) (hb : 0 < b ∧ b < 2147483648) : iv a / iv b = iv (a / b) := by
  apply Int32.toInt_inj.mp
  have hq : 0 ≤ a / b ∧ a / b ≤ a := ⟨Int.ediv_nonneg ha.1 (by omega), Int.ediv_le_self b ha.1⟩
  rw [Int32.toInt_div, iv_toInt ⟨by omega, ha.2⟩, iv_toInt ⟨by omega, hb.2⟩, iv_toInt ⟨by omega, by omega⟩, Int.tdiv_eq_ediv_of_nonneg ha.1]
  simp only [Int.bmod]
  omega
theorem zRx.idiv {a b : Int} (ha : 0 ≤ a) (hb : 0 < b) (hd : decode Y.2.1 pc = .ok (.idiv, 1)) (h : zRx al d Y sh (pc + 1) ls (.inl (a / b) :: st) σ X) : zRx al d Y sh pc ls (.inl b :: .inl a :: st) σ X := by
  intro p l e R s m args below meth c k cf sf Z hF hX H locs la hW hL hS
  have rb : r32 b := hS.1
  have ra : r32 a := hS.2.1
  have hq : 0 ≤ a / b ∧ a / b ≤ a := ⟨Int.ediv_nonneg ha (by omega), Int.ediv_le_self b ha⟩
  have h1 := h p l e R s m args below meth c k cf sf Z hF hX H locs la hW hL ⟨⟨by omega, by have := ra.2; omega⟩, hS.2.2⟩
  rw [List.map_cons, show tv k (.inl (a / b)) = .int (iv a / iv b) from congrArg Value.int (iv_div ⟨ha, ra.2⟩ ⟨hb, rb.2⟩).symm] at h1
  exact lv_idiv hF.1.1 hF.1.2.1 hd (fun h0 => by rw [← iv_0, iv_inj rb r32_0] at h0; omega) h1
theorem zRx.irem {a b : Int} (ha : 0 ≤ a) (hb : 0 < b) (hd : decode Y.2.1 pc = .ok (.irem, 1)) (h : zRx al d Y sh (pc + 1) ls (.inl (a % b) :: st) σ X) : zRx al d Y sh pc ls (.inl b :: .inl a :: st) σ X := by
  intro p l e R s m args below meth c k cf sf Z hF hX H locs la hW hL hS
  have rb : r32 b := hS.1
  have ra : r32 a := hS.2.1
  have hq : 0 ≤ a % b ∧ a % b < b := ⟨Int.emod_nonneg a (by omega), Int.emod_lt_of_pos a hb⟩
  have h1 := h p l e R s m args below meth c k cf sf Z hF hX H locs la hW hL ⟨⟨by omega, by have := rb.2; omega⟩, hS.2.2⟩
  have e1 : iv (a % b) = iv a - iv a / iv b * iv b := by
    rw [iv_div ⟨ha, ra.2⟩ ⟨hb, rb.2⟩, iv_mul, iv_sub]
    congr 1
    have := Int.emod_add_mul_ediv a b
    rw [Int.mul_comm (a / b) b]
    omega
  rw [List.map_cons, show tv k (.inl (a % b)) = .int _ from congrArg Value.int e1] at h1
  exact lv_irem hF.1.1 hF.1.2.1 hd (fun h0 => by rw [← iv_0, iv_inj rb r32_0] at h0; omega) h1
theorem tv_c1 {k : zC} {v : zV} (h : zlong v = false) : (tv k v).category = 1 := by
  rcases v with z | z | a | a
  · rfl
  · cases h
  · rfl
  · rfl
theorem zRx.dup {v : zV} (hv : zlong v = false) (hd : decode Y.2.1 pc = .ok (.dup, 1)) (h : zRx al d Y sh (pc + 1) ls (v :: v :: st) σ X) : zRx al d Y sh pc ls (v :: st) σ X := by
  intro p l e R s m args below meth c k cf sf Z hF hX H locs la hW hL hS
  exact lv_dup hF.1.1 hF.1.2.1 hd (tv_c1 hv) (h p l e R s m args below meth c k cf sf Z hF hX H locs la hW hL ⟨hS.1, hS⟩)
theorem zRx.pop {v : zV} (hv : zlong v = false) (hd : decode Y.2.1 pc = .ok (.pop, 1)) (h : zRx al d Y sh (pc + 1) ls st σ X) : zRx al d Y sh pc ls (v :: st) σ X := by
  intro p l e R s m args below meth c k cf sf Z hF hX H locs la hW hL hS
  exact lv_pop hF.1.1 hF.1.2.1 hd (tv_c1 hv) (h p l e R s m args below meth c k cf sf Z hF hX H locs la hW hL hS.2)
theorem zRx.dup_x1 {v w : zV} (hv : zlong v = false) (hw : zlong w = false) (hd : decode Y.2.1 pc = .ok (.dup_x1, 1)) (h : zRx al d Y sh (pc + 1) ls (v :: w :: v :: st) σ X) : zRx al d Y sh pc ls (v :: w :: st) σ X := by
  intro p l e R s m args below meth c k cf sf Z hF hX H locs la hW hL hS
  exact lv_dup_x1 hF.1.1 hF.1.2.1 hd (tv_c1 hv) (tv_c1 hw) (h p l e R s m args below meth c k cf sf Z hF hX H locs la hW hL ⟨hS.1, hS.2.1, hS.1, hS.2.2⟩)
theorem zRx.dup2 {v w : zV} (hv : zlong v = false) (hw : zlong w = false) (hd : decode Y.2.1 pc = .ok (.dup2, 1)) (h : zRx al d Y sh (pc + 1) ls (v :: w :: v :: w :: st) σ X) : zRx al d Y sh pc ls (v :: w :: st) σ X := by
  intro p l e R s m args below meth c k cf sf Z hF hX H locs la hW hL hS
  exact lv_dup2_11 hF.1.1 hF.1.2.1 hd (tv_c1 hv) (tv_c1 hw) (h p l e R s m args below meth c k cf sf Z hF hX H locs la hW hL ⟨hS.1, hS.2.1, hS⟩)
theorem zRx.icmp_eq {a b off : Int} {tgt : Nat} (hd : decode Y.2.1 pc = .ok (.if_icmp .eq off, 3)) (ht : (pc : Int) + off = (tgt : Int)) (kt : a = b → zRx al d Y sh tgt ls st σ X) (kf : ¬ a = b → zRx al d Y sh (pc + 3) ls st σ X) : zRx al d Y sh pc ls (.inl b :: .inl a :: st) σ X := by
  intro p l e R s m args below meth c k cf sf Z hF hX H locs la hW hL hS
  have e1 := iv_inj (a := a) (b := b) hS.2.1 hS.1
  exact lv_icmp_eq hF.1.1 hF.1.2.1 hd ht (fun q => kt (e1.mp q) p l e R s m args below meth c k cf sf Z hF hX H locs la hW hL hS.2.2) (fun q => kf (fun z => q (e1.mpr z)) p l e R s m args below meth c k cf sf Z hF hX H locs la hW hL hS.2.2)
theorem zRx.if_eq {a off : Int} {tgt : Nat} (hd : decode Y.2.1 pc = .ok (.ifCond .eq off, 3)) (ht : (pc : Int) + off = (tgt : Int)) (kt : a = 0 → zRx al d Y sh tgt ls st σ X) (kf : ¬ a = 0 → zRx al d Y sh (pc + 3) ls st σ X) : zRx al d Y sh pc ls (.inl a :: st) σ X := by
  intro p l e R s m args below meth c k cf sf Z hF hX H locs la hW hL hS
  have e1 := iv_inj (a := a) (b := 0) hS.1 r32_0
  exact lv_if_eq hF.1.1 hF.1.2.1 hd ht (fun q => kt (e1.mp q) p l e R s m args below meth c k cf sf Z hF hX H locs la hW hL hS.2) (fun q => kf (fun z => q (e1.mpr z)) p l e R s m args below meth c k cf sf Z hF hX H locs la hW hL hS.2)
theorem zRx.icmp_ne {a b off : Int} {tgt : Nat} (hd : decode Y.2.1 pc = .ok (.if_icmp .ne off, 3)) (ht : (pc : Int) + off = (tgt : Int)) (kt : ¬ a = b → zRx al d Y sh tgt ls st σ X) (kf : a = b → zRx al d Y sh (pc + 3) ls st σ X) : zRx al d Y sh pc ls (.inl b :: .inl a :: st) σ X := by
  intro p l e R s m args below meth c k cf sf Z hF hX H locs la hW hL hS
  have e1 := iv_inj (a := a) (b := b) hS.2.1 hS.1
  exact lv_icmp_ne hF.1.1 hF.1.2.1 hd ht (fun q => kt (fun z => q (e1.mpr z)) p l e R s m args below meth c k cf sf Z hF hX H locs la hW hL hS.2.2) (fun q => kf (e1.mp q) p l e R s m args below meth c k cf sf Z hF hX H locs la hW hL hS.2.2)
theorem zRx.if_ne {a off : Int} {tgt : Nat} (hd : decode Y.2.1 pc = .ok (.ifCond .ne off, 3)) (ht : (pc : Int) + off = (tgt : Int)) (kt : ¬ a = 0 → zRx al d Y sh tgt ls st σ X) (kf : a = 0 → zRx al d Y sh (pc + 3) ls st σ X) : zRx al d Y sh pc ls (.inl a :: st) σ X := by
  intro p l e R s m args below meth c k cf sf Z hF hX H locs la hW hL hS
  have e1 := iv_inj (a := a) (b := 0) hS.1 r32_0
  exact lv_if_ne hF.1.1 hF.1.2.1 hd ht (fun q => kt (fun z => q (e1.mpr z)) p l e R s m args below meth c k cf sf Z hF hX H locs la hW hL hS.2) (fun q => kf (e1.mp q) p l e R s m args below meth c k cf sf Z hF hX H locs la hW hL hS.2)
theorem zRx.icmp_lt {a b off : Int} {tgt : Nat} (hd : decode Y.2.1 pc = .ok (.if_icmp .lt off, 3)) (ht : (pc : Int) + off = (tgt : Int)) (kt : a < b → zRx al d Y sh tgt ls st σ X) (kf : b ≤ a → zRx al d Y sh (pc + 3) ls st σ X) : zRx al d Y sh pc ls (.inl b :: .inl a :: st) σ X := by
  intro p l e R s m args below meth c k cf sf Z hF hX H locs la hW hL hS
  have e1 := iv_lt (a := a) (b := b) hS.2.1 hS.1
  exact lv_icmp_lt hF.1.1 hF.1.2.1 hd ht (fun q => kt (e1.mp q) p l e R s m args below meth c k cf sf Z hF hX H locs la hW hL hS.2.2) (fun q => kf (Int.not_lt.mp (fun z => q (e1.mpr z))) p l e R s m args below meth c k cf sf Z hF hX H locs la hW hL hS.2.2)
theorem zRx.if_lt {a off : Int} {tgt : Nat} (hd : decode Y.2.1 pc = .ok (.ifCond .lt off, 3)) (ht : (pc : Int) + off = (tgt : Int)) (kt : a < 0 → zRx al d Y sh tgt ls st σ X) (kf : 0 ≤ a → zRx al d Y sh (pc + 3) ls st σ X) : zRx al d Y sh pc ls (.inl a :: st) σ X := by
  intro p l e R s m args below meth c k cf sf Z hF hX H locs la hW hL hS
  have e1 := iv_lt (a := a) (b := 0) hS.1 r32_0
  exact lv_if_lt hF.1.1 hF.1.2.1 hd ht (fun q => kt (e1.mp q) p l e R s m args below meth c k cf sf Z hF hX H locs la hW hL hS.2) (fun q => kf (Int.not_lt.mp (fun z => q (e1.mpr z))) p l e R s m args below meth c k cf sf Z hF hX H locs la hW hL hS.2)
theorem zRx.icmp_ge {a b off : Int} {tgt : Nat} (hd : decode Y.2.1 pc = .ok (.if_icmp .ge off, 3)) (ht : (pc : Int) + off = (tgt : Int)) (kt : b ≤ a → zRx al d Y sh tgt ls st σ X) (kf : a < b → zRx al d Y sh (pc + 3) ls st σ X) : zRx al d Y sh pc ls (.inl b :: .inl a :: st) σ X := by
  intro p l e R s m args below meth c k cf sf Z hF hX H locs la hW hL hS
  have e1 := iv_le (a := b) (b := a) hS.1 hS.2.1
  exact lv_icmp_ge hF.1.1 hF.1.2.1 hd ht (fun q => kt (e1.mp q) p l e R s m args below meth c k cf sf Z hF hX H locs la hW hL hS.2.2) (fun q => kf (Int.not_le.mp (fun z => q (e1.mpr z))) p l e R s m args below meth c k cf sf Z hF hX H locs la hW hL hS.2.2)
theorem zRx.if_ge {a off : Int} {tgt : Nat} (hd : decode Y.2.1 pc = .ok (.ifCond .ge off, 3)) (ht : (pc : Int) + off = (tgt : Int)) (kt : 0 ≤ a → zRx al d Y sh tgt ls st σ X) (kf : a < 0 → zRx al d Y sh (pc + 3) ls st σ X) : zRx al d Y sh pc ls (.inl a :: st) σ X := by
  intro p l e R s m args below meth c k cf sf Z hF hX H locs la hW hL hS
  have e1 := iv_le (a := 0) (b := a) r32_0 hS.1
  exact lv_if_ge hF.1.1 hF.1.2.1 hd ht (fun q => kt (e1.mp q) p l e R s m args below meth c k cf sf Z hF hX H locs la hW hL hS.2) (fun q => kf (Int.not_le.mp (fun z => q (e1.mpr z))) p l e R s m args below meth c k cf sf Z hF hX H locs la hW hL hS.2)
theorem zRx.icmp_gt {a b off : Int} {tgt : Nat} (hd : decode Y.2.1 pc = .ok (.if_icmp .gt off, 3)) (ht : (pc : Int) + off = (tgt : Int)) (kt : b < a → zRx al d Y sh tgt ls st σ X) (kf : a ≤ b → zRx al d Y sh (pc + 3) ls st σ X) : zRx al d Y sh pc ls (.inl b :: .inl a :: st) σ X := by
  intro p l e R s m args below meth c k cf sf Z hF hX H locs la hW hL hS
  have e1 := iv_lt (a := b) (b := a) hS.1 hS.2.1
  exact lv_icmp_gt hF.1.1 hF.1.2.1 hd ht (fun q => kt (e1.mp q) p l e R s m args below meth c k cf sf Z hF hX H locs la hW hL hS.2.2) (fun q => kf (Int.not_lt.mp (fun z => q (e1.mpr z))) p l e R s m args below meth c k cf sf Z hF hX H locs la hW hL hS.2.2)
theorem zRx.if_gt {a off : Int} {tgt : Nat} (hd : decode Y.2.1 pc = .ok (.ifCond .gt off, 3)) (ht : (pc : Int) + off = (tgt : Int)) (kt : 0 < a → zRx al d Y sh tgt ls st σ X) (kf : a ≤ 0 → zRx al d Y sh (pc + 3) ls st σ X) : zRx al d Y sh pc ls (.inl a :: st) σ X := by
  intro p l e R s m args below meth c k cf sf Z hF hX H locs la hW hL hS
  have e1 := iv_lt (a := 0) (b := a) r32_0 hS.1
  exact lv_if_gt hF.1.1 hF.1.2.1 hd ht (fun q => kt (e1.mp q) p l e R s m args below meth c k cf sf Z hF hX H locs la hW hL hS.2) (fun q => kf (Int.not_lt.mp (fun z => q (e1.mpr z))) p l e R s m args below meth c k cf sf Z hF hX H locs la hW hL hS.2)
theorem zRx.icmp_le {a b off : Int} {tgt : Nat} (hd : decode Y.2.1 pc = .ok (.if_icmp .le off, 3)) (ht : (pc : Int) + off = (tgt : Int)) (kt : a ≤ b → zRx al d Y sh tgt ls st σ X) (kf : b < a → zRx al d Y sh (pc + 3) ls st σ X) : zRx al d Y sh pc ls (.inl b :: .inl a :: st) σ X := by
  intro p l e R s m args below meth c k cf sf Z hF hX H locs la hW hL hS
  have e1 := iv_le (a := a) (b := b) hS.2.1 hS.1
  exact lv_icmp_le hF.1.1 hF.1.2.1 hd ht (fun q => kt (e1.mp q) p l e R s m args below meth c k cf sf Z hF hX H locs la hW hL hS.2.2) (fun q => kf (Int.not_le.mp (fun z => q (e1.mpr z))) p l e R s m args below meth c k cf sf Z hF hX H locs la hW hL hS.2.2)
theorem zRx.if_le {a off : Int} {tgt : Nat} (hd : decode Y.2.1 pc = .ok (.ifCond .le off, 3)) (ht : (pc : Int) + off = (tgt : Int)) (kt : a ≤ 0 → zRx al d Y sh tgt ls st σ X) (kf : 0 < a → zRx al d Y sh (pc + 3) ls st σ X) : zRx al d Y sh pc ls (.inl a :: st) σ X := by
  intro p l e R s m args below meth c k cf sf Z hF hX H locs la hW hL hS
  have e1 := iv_le (a := a) (b := 0) hS.1 r32_0
  exact lv_if_le hF.1.1 hF.1.2.1 hd ht (fun q => kt (e1.mp q) p l e R s m args below meth c k cf sf Z hF hX H locs la hW hL hS.2) (fun q => kf (Int.not_le.mp (fun z => q (e1.mpr z))) p l e R s m args below meth c k cf sf Z hF hX H locs la hW hL hS.2)
theorem zRx.goto {off : Int} {tgt : Nat} (hd : decode Y.2.1 pc = .ok (.goto off, 3)) (ht : (pc : Int) + off = (tgt : Int)) (h : zRx al d Y sh tgt ls st σ X) : zRx al d Y sh pc ls st σ X := by
  intro p l e R s m args below meth c k cf sf Z hF hX H locs la hW hL hS
  exact lv_goto hF.1.1 hF.1.2.1 hd ht (h p l e R s m args below meth c k cf sf Z hF hX H locs la hW hL hS)
theorem zRx.tableIn {a dflt lo hi off : Int} {offs : Array Int} {len tgt : Nat} (hd : decode Y.2.1 pc = .ok (.tableswitch dflt lo hi offs, len)) (h1 : lo ≤ a) (h2 : a ≤ hi) (ho : offs[(a - lo).toNat]? = some off) (ht : (pc : Int) + off = (tgt : Int)) (h : zRx al d Y sh tgt ls st σ X) : zRx al d Y sh pc ls (.inl a :: st) σ X := by
  intro p l e R s m args below meth c k cf sf Z hF hX H locs la hW hL hS
  have e1 := iv_toInt (z := a) hS.1
  exact lv_tableIn (x := iv a) hF.1.1 hF.1.2.1 hd (by rw [e1]; omega) (by rw [e1]; omega) (by rw [e1]; exact ho) ht (h p l e R s m args below meth c k cf sf Z hF hX H locs la hW hL hS.2)
theorem zRx.tableOut {a dflt lo hi : Int} {offs : Array Int} {len tgt : Nat} (hd : decode Y.2.1 pc = .ok (.tableswitch dflt lo hi offs, len)) (h1 : a < lo ∨ hi < a) (ht : (pc : Int) + dflt = (tgt : Int)) (h : zRx al d Y sh tgt ls st σ X) : zRx al d Y sh pc ls (.inl a :: st) σ X := by
  intro p l e R s m args below meth c k cf sf Z hF hX H locs la hW hL hS
  have e1 := iv_toInt (z := a) hS.1
  exact lv_tableOut (x := iv a) hF.1.1 hF.1.2.1 hd (by rw [e1]; exact h1) ht (h p l e R s m args below meth c k cf sf Z hF hX H locs la hW hL hS.2)
theorem zRx.lookup {a dflt off : Int} {ps : Array (Int × Int)} {len tgt : Nat} (hd : decode Y.2.1 pc = .ok (.lookupswitch dflt ps, len)) (hp : (ps.toList.zip (ps.toList.drop 1)).all (fun (a, next) => a.1 < next.1) = true) (ho : Op.lookupswitch.offset ps.toList dflt a = off) (ht : (pc : Int) + off = (tgt : Int)) (h : zRx al d Y sh tgt ls st σ X) : zRx al d Y sh pc ls (.inl a :: st) σ X := by
  intro p l e R s m args below meth c k cf sf Z hF hX H locs la hW hL hS
  have e1 := iv_toInt (z := a) hS.1
  exact lv_lookup (x := iv a) hF.1.1 hF.1.2.1 hd hp (by rw [e1]; exact ho) ht (h p l e R s m args below meth c k cf sf Z hF hX H locs la hW hL hS.2)
theorem zW.at {k : zC} {s : State} {R : Room} {cf sf : Nat → Nat} {H : Heap} {locs : List Loc} {a : Nat} {x : zSh} (_ : zW k s R cf sf sh σ H locs) (h : sh[a]? = some x) : (wl k sh σ)[a]? = some (k.1 + a, zcell k (σ a) x) := wl_at h
theorem zW.upd {k : zC} {s : State} {R : Room} {cf sf : Nat → Nat} {H H1 : Heap} {locs locs1 : List Loc} {a : Nat} {i z : Int} {x : zSh} {E : va_E} (hW : zW k s R cf sf sh σ H locs) (h : sh[a]? = some x) (he : zcell k (zu σ a i z a) x = E) (hr : rS (zu σ a i z a) x)
    (hP : va_P k.2.2.1 vwCl ((wl k sh σ).set a (k.1 + a, E)) H1) (hS : va_S (zA k) s.heap H1 locs1) : zW k s R cf sf sh (zu σ a i z) H1 locs1 := by
  subst he
  rw [wl_set h (fun b hb => zu_row σ i z hb)] at hP
  refine ⟨hP, hS, fun b y hy => ?_, hW.2.2.2⟩
  by_cases hb : b = a
  · subst hb
    cases h.symm.trans hy
    exact hr
  · rw [zu_row σ i z hb]
    exact hW.2.2.1 b y hy
theorem zval_upd {f : Int → Int} {i z : Int} (h0 : 0 ≤ i) : (fun j : Nat => iv (if (j : Int) = i then z else f j)) = upd (fun j : Nat => iv (f j)) i.toNat (iv z) := by
  funext j
  unfold upd
  by_cases h : j = i.toNat
  · subst h
    rw [if_pos rfl, if_pos (Int.toNat_of_nonneg h0)]
  · rw [if_neg h, if_neg (fun q => h (by omega))]
theorem zval_updL {f : Int → Int} {i z : Int} (h0 : 0 ≤ i) : (fun j : Nat => jv (if (j : Int) = i then z else f j)) = vp_updL (fun j : Nat => jv (f j)) i.toNat (jv z) := by
  funext j
  unfold vp_updL
  by_cases h : j = i.toNat
  · subst h
    rw [if_pos rfl, if_pos (Int.toNat_of_nonneg h0)]
  · rw [if_neg h, if_neg (fun q => h (by omega))]
theorem zu_rowa (σ : zG) (a : Nat) (i z : Int) : zu σ a i z a = fun j => if j = i then z else σ a j := by
  funext j
  exact zu_if σ a i j z
theorem zRx.iald {a n : Nat} {i : Int} (hs : sh[a]? = some (.inl (0, n))) (h0 : 0 ≤ i) (h1 : i < n) (hd : decode Y.2.1 pc = .ok (.iaload, 1)) (h : zRx al d Y sh (pc + 1) ls (.inl (σ a i) :: st) σ X) : zRx al d Y sh pc ls (.inl i :: zP a :: st) σ X := by
  intro p l e R s m args below meth c k cf sf Z hF hX H locs la hW hL hS
  have ri : r32 i := hS.1
  have hr : rK 0 (σ a i) := hW.2.2.1 a _ hs i
  have hh := h p l e R s m args below meth c k cf sf Z hF hX H locs la hW hL ⟨hr, hS.2.2⟩
  have e2 : (iv i).toNatClampNeg = i.toNat := iv_clamp h0 ri.2
  refine va_iald (q0 := a) (t0 := 0) hF.1.1 hF.1.2.1 hF.2.1.1 hW.1 (wl_at hs) rfl (iv_in h0 h1 ri.2) hd ?_
  rw [e2]
  rw [List.map_cons] at hh
  have e3 : ((i.toNat : Nat) : Int) = i := Int.toNat_of_nonneg h0
  show W _ _ _ _ _ _ _ _ _ _ _ _ _ _ _ (F0 _ _ _ (.int (iv (σ a ((i.toNat : Nat) : Int))) :: _))
  rw [e3]
  exact hh
theorem zRx.bald {a n : Nat} {i : Int} (hs : sh[a]? = some (.inl (2, n))) (h0 : 0 ≤ i) (h1 : i < n) (hd : decode Y.2.1 pc = .ok (.baload, 1)) (h : zRx al d Y sh (pc + 1) ls (.inl (σ a i) :: st) σ X) : zRx al d Y sh pc ls (.inl i :: zP a :: st) σ X := by
  intro p l e R s m args below meth c k cf sf Z hF hX H locs la hW hL hS
  have ri : r32 i := hS.1
  have hr : rK 2 (σ a i) := hW.2.2.1 a _ hs i
  have hh := h p l e R s m args below meth c k cf sf Z hF hX H locs la hW hL ⟨⟨by have := hr.1; omega, by have := hr.2; omega⟩, hS.2.2⟩
  have e2 : (iv i).toNatClampNeg = i.toNat := iv_clamp h0 ri.2
  refine va_bald (q0 := a) (t0 := 2) hF.1.1 hF.1.2.1 hF.2.1.1 hW.1 (wl_at hs) rfl (iv_in h0 h1 ri.2) hd ?_
  rw [e2]
  rw [List.map_cons] at hh
  have e3 : ((i.toNat : Nat) : Int) = i := Int.toNat_of_nonneg h0
  show W _ _ _ _ _ _ _ _ _ _ _ _ _ _ _ (F0 _ _ _ (.int (iv (σ a ((i.toNat : Nat) : Int))) :: _))
  rw [e3]
  exact hh
theorem zRx.zald {a n : Nat} {i : Int} (hs : sh[a]? = some (.inl (3, n))) (h0 : 0 ≤ i) (h1 : i < n) (hd : decode Y.2.1 pc = .ok (.baload, 1)) (h : zRx al d Y sh (pc + 1) ls (.inl (σ a i) :: st) σ X) : zRx al d Y sh pc ls (.inl i :: zP a :: st) σ X := by
  intro p l e R s m args below meth c k cf sf Z hF hX H locs la hW hL hS
  have ri : r32 i := hS.1
  have hr : rK 3 (σ a i) := hW.2.2.1 a _ hs i
  have hh := h p l e R s m args below meth c k cf sf Z hF hX H locs la hW hL ⟨⟨by have := hr.1; omega, by have := hr.2; omega⟩, hS.2.2⟩
  have e2 : (iv i).toNatClampNeg = i.toNat := iv_clamp h0 ri.2
  refine va_zald (q0 := a) (t0 := 3) hF.1.1 hF.1.2.1 hF.2.1.1 hW.1 (wl_at hs) rfl (iv_in h0 h1 ri.2) hd ?_
  rw [e2]
  rw [List.map_cons] at hh
  have e3 : ((i.toNat : Nat) : Int) = i := Int.toNat_of_nonneg h0
  show W _ _ _ _ _ _ _ _ _ _ _ _ _ _ _ (F0 _ _ _ (.int (iv (σ a ((i.toNat : Nat) : Int))) :: _))
  rw [e3]
  exact hh
theorem zRx.lald {a n : Nat} {i : Int} (hs : sh[a]? = some (.inl (1, n))) (h0 : 0 ≤ i) (h1 : i < n) (hd : decode Y.2.1 pc = .ok (.laload, 1)) (h : zRx al d Y sh (pc + 1) ls (zJ (σ a i) :: st) σ X) : zRx al d Y sh pc ls (.inl i :: zP a :: st) σ X := by
  intro p l e R s m args below meth c k cf sf Z hF hX H locs la hW hL hS
  have ri : r32 i := hS.1
  have hr : rK 1 (σ a i) := hW.2.2.1 a _ hs i
  have hh := h p l e R s m args below meth c k cf sf Z hF hX H locs la hW hL ⟨hr, hS.2.2⟩
  have e2 : (iv i).toNatClampNeg = i.toNat := iv_clamp h0 ri.2
  refine va_lald (q0 := a) (t0 := 1) hF.1.1 hF.1.2.1 hF.2.1.1 hW.1 (wl_at hs) rfl (iv_in h0 h1 ri.2) hd ?_
  rw [e2]
  rw [List.map_cons] at hh
  have e3 : ((i.toNat : Nat) : Int) = i := Int.toNat_of_nonneg h0
  show W _ _ _ _ _ _ _ _ _ _ _ _ _ _ _ (F0 _ _ _ (.long (jv (σ a ((i.toNat : Nat) : Int))) :: _))
  rw [e3]
  exact hh
theorem z_nar_byte {z : Int} (hv : -128 ≤ z ∧ z < 128) : vp_nar .byte (iv z) = iv z := by
  rw [vp_nar_byte]
  apply Int32.toInt_inj.mp
  rw [Int8.toInt_toInt32, Int32.toInt_toInt8, iv_toInt ⟨by omega, by omega⟩]
  simp only [Int.bmod]
  omega
theorem z_nar_boolean {z : Int} (hv : 0 ≤ z ∧ z ≤ 1) : vp_nar .boolean (iv z) = iv z := by
  rcases (show z = 0 ∨ z = 1 by omega) with rfl | rfl <;> decide
theorem zRx.iast {a n : Nat} {i z : Int} (hs : sh[a]? = some (.inl (0, n))) (h0 : 0 ≤ i) (h1 : i < n) (hd : decode Y.2.1 pc = .ok (.iastore, 1)) (h : zRx al d Y sh (pc + 1) ls st (zu σ a i z) X) : zRx al d Y sh pc ls (.inl z :: .inl i :: zP a :: st) σ X := by
  intro p l e R s m args below meth c k cf sf Z hF hX H locs la hW hL hS
  have hz : r32 z := hS.1
  have ri : r32 i := hS.2.1
  have e2 : (iv i).toNatClampNeg = i.toNat := iv_clamp h0 ri.2
  refine va_iast (q0 := a) (t0 := 0) (x := iv z) hF.1.1 hF.1.2.1 hF.2.1.1 hW.1 (wl_D hW.2.2.2.2) hW.2.1 (wl_at hs) rfl (iv_in h0 h1 ri.2) hd (fun H1 locs1 hP1 hD1 hS1 => ?_)
  rw [e2] at hP1
  refine h p l e R s m args below meth c k cf sf Z hF hX H1 locs1 la (hW.upd hs ?_ ?_ hP1 hS1) hL hS.2.2.2
  · rw [zcell_i, zu_rowa, zval_upd h0]
  · intro j
    show rK 0 (zu σ a i z a j)
    rw [zu_if]
    split
    · exact hz
    · exact hW.2.2.1 a _ hs j
theorem zRx.bast {a n : Nat} {i z : Int} (hs : sh[a]? = some (.inl (2, n))) (h0 : 0 ≤ i) (h1 : i < n) (hv : -128 ≤ z ∧ z < 128) (hd : decode Y.2.1 pc = .ok (.bastore, 1)) (h : zRx al d Y sh (pc + 1) ls st (zu σ a i z) X) : zRx al d Y sh pc ls (.inl z :: .inl i :: zP a :: st) σ X := by
  intro p l e R s m args below meth c k cf sf Z hF hX H locs la hW hL hS
  have hz : r32 z := hS.1
  have ri : r32 i := hS.2.1
  have e2 : (iv i).toNatClampNeg = i.toNat := iv_clamp h0 ri.2
  refine va_bast (q0 := a) (t0 := 2) (x := iv z) hF.1.1 hF.1.2.1 hF.2.1.1 hW.1 (wl_D hW.2.2.2.2) hW.2.1 (wl_at hs) rfl (iv_in h0 h1 ri.2) hd (fun H1 locs1 hP1 hD1 hS1 => ?_)
  rw [e2] at hP1
  rw [show vp_nar .byte (iv z) = iv z from z_nar_byte hv] at hP1
  refine h p l e R s m args below meth c k cf sf Z hF hX H1 locs1 la (hW.upd hs ?_ ?_ hP1 hS1) hL hS.2.2.2
  · rw [zcell_b, zu_rowa, zval_upd h0]
  · intro j
    show rK 2 (zu σ a i z a j)
    rw [zu_if]
    split
    · exact hv
    · exact hW.2.2.1 a _ hs j
theorem zRx.zast {a n : Nat} {i z : Int} (hs : sh[a]? = some (.inl (3, n))) (h0 : 0 ≤ i) (h1 : i < n) (hv : 0 ≤ z ∧ z ≤ 1) (hd : decode Y.2.1 pc = .ok (.bastore, 1)) (h : zRx al d Y sh (pc + 1) ls st (zu σ a i z) X) : zRx al d Y sh pc ls (.inl z :: .inl i :: zP a :: st) σ X := by
  intro p l e R s m args below meth c k cf sf Z hF hX H locs la hW hL hS
  have hz : r32 z := hS.1
  have ri : r32 i := hS.2.1
  have e2 : (iv i).toNatClampNeg = i.toNat := iv_clamp h0 ri.2
  refine va_zast (q0 := a) (t0 := 3) (x := iv z) hF.1.1 hF.1.2.1 hF.2.1.1 hW.1 (wl_D hW.2.2.2.2) hW.2.1 (wl_at hs) rfl (iv_in h0 h1 ri.2) hd (fun H1 locs1 hP1 hD1 hS1 => ?_)
  rw [e2] at hP1
  rw [show vp_nar .boolean (iv z) = iv z from z_nar_boolean hv] at hP1
  refine h p l e R s m args below meth c k cf sf Z hF hX H1 locs1 la (hW.upd hs ?_ ?_ hP1 hS1) hL hS.2.2.2
  · rw [zcell_z, zu_rowa, zval_upd h0]
  · intro j
    show rK 3 (zu σ a i z a j)
    rw [zu_if]
    split
    · exact hv
    · exact hW.2.2.1 a _ hs j
theorem zRx.last {a n : Nat} {i z : Int} (hs : sh[a]? = some (.inl (1, n))) (h0 : 0 ≤ i) (h1 : i < n) (hd : decode Y.2.1 pc = .ok (.lastore, 1)) (h : zRx al d Y sh (pc + 1) ls st (zu σ a i z) X) : zRx al d Y sh pc ls (zJ z :: .inl i :: zP a :: st) σ X := by
  intro p l e R s m args below meth c k cf sf Z hF hX H locs la hW hL hS
  have hz : r64 z := hS.1
  have ri : r32 i := hS.2.1
  have e2 : (iv i).toNatClampNeg = i.toNat := iv_clamp h0 ri.2
  refine va_last (q0 := a) (t0 := 1) (x := jv z) hF.1.1 hF.1.2.1 hF.2.1.1 hW.1 (wl_D hW.2.2.2.2) hW.2.1 (wl_at hs) rfl (iv_in h0 h1 ri.2) hd (fun H1 locs1 hP1 hD1 hS1 => ?_)
  rw [e2] at hP1
  refine h p l e R s m args below meth c k cf sf Z hF hX H1 locs1 la (hW.upd hs ?_ ?_ hP1 hS1) hL hS.2.2.2
  · rw [zcell_l, zu_rowa, zval_updL h0]
  · intro j
    show rK 1 (zu σ a i z a j)
    rw [zu_if]
    split
    · exact hz
    · exact hW.2.2.1 a _ hs j
theorem zty (k : zC) (t : Nat) (ht : t < 4) : ∃ ty, (tysOf k)[t]? = some (k.2.2.2 t, ty) := by
  rcases (show t = 0 ∨ t = 1 ∨ t = 2 ∨ t = 3 by omega) with rfl | rfl | rfl | rfl <;> exact ⟨_, rfl⟩
theorem zRx.alen {a t n : Nat} (hs : sh[a]? = some (.inl (t, n))) (ht : t < 4) (hn : n < 2147483648) (hd : decode Y.2.1 pc = .ok (.arraylength, 1)) (h : zRx al d Y sh (pc + 1) ls (.inl (n : Int) :: st) σ X) : zRx al d Y sh pc ls (zP a :: st) σ X := by
  intro p l e R s m args below meth c k cf sf Z hF hX H locs la hW hL hS
  obtain ⟨ty, hty⟩ := zty k t ht
  have hh := h p l e R s m args below meth c k cf sf Z hF hX H locs la hW hL ⟨⟨by omega, by omega⟩, hS.2⟩
  have e0 : zcell k (σ a) (.inl (t, n)) = .inl (k.2.2.2 t, n, if t = 1 then .inr (.inl (fun j => jv (σ a j))) else .inl (fun j => iv (σ a j))) := by
    unfold zcell
    by_cases h1 : t = 1
    · subst h1; rfl
    · simp only [if_neg h1]
  refine va_alen (q0 := a) (t0 := t) (v := iv n) hF.1.1 hF.1.2.1 hF.2.1.1 hW.1 (by rw [wl_at hs, e0]) hty ?_ hd hh
  show Int32.ofNat n = Int32.ofInt (n : Int)
  exact (Int32.ofInt_eq_ofNat (n := n)).symm
theorem zRx.alenR {a : Nat} {ts : List (Option Nat)} (hs : sh[a]? = some (.inr (.inr ts))) (hn : ts.length < 2147483648) (hd : decode Y.2.1 pc = .ok (.arraylength, 1)) (h : zRx al d Y sh (pc + 1) ls (.inl (ts.length : Int) :: st) σ X) : zRx al d Y sh pc ls (zP a :: st) σ X := by
  intro p l e R s m args below meth c k cf sf Z hF hX H locs la hW hL hS
  have hh := h p l e R s m args below meth c k cf sf Z hF hX H locs la hW hL ⟨⟨by omega, by omega⟩, hS.2⟩
  refine va_alen (q0 := a) (t0 := 4) (v := iv ts.length) hF.1.1 hF.1.2.1 hF.2.1.1 hW.1 (wl_at hs) rfl ?_ hd hh
  show Int32.ofNat ts.length = Int32.ofInt (ts.length : Int)
  exact (Int32.ofInt_eq_ofNat (n := ts.length)).symm
theorem zRx.aald {a b : Nat} {i : Int} {ts : List (Option Nat)} (hs : sh[a]? = some (.inr (.inr ts))) (h0 : 0 ≤ i) (h1 : i < ts.length) (hb : ts[i.toNat]? = some (some b)) (hd : decode Y.2.1 pc = .ok (.aaload, 1)) (h : zRx al d Y sh (pc + 1) ls (zP b :: st) σ X) : zRx al d Y sh pc ls (.inl i :: zP a :: st) σ X := by
  intro p l e R s m args below meth c k cf sf Z hF hX H locs la hW hL hS
  have ri : r32 i := hS.1
  have e2 : (iv i).toNatClampNeg = i.toNat := iv_clamp h0 ri.2
  refine va_aldq (q0 := a) (t0 := 4) hF.1.1 hF.1.2.1 hF.2.1.1 hW.1 (wl_at hs) rfl (iv_in h0 h1 ri.2) hd ?_
  rw [e2]
  have e3 : va_rf ((ts.getD i.toNat none).map (k.1 + ·)) = .ref (k.1 + b) := by
    rw [List.getD_eq_getElem?_getD, hb]; rfl
  rw [e3]
  exact h p l e R s m args below meth c k cf sf Z hF hX H locs la hW hL ⟨trivial, hS.2.2⟩
theorem zRx.sld {a : Nat} {i : Int} (ha : a < 3) (h0 : 0 ≤ i) (h1 : i < 5) (hd : decode Y.2.1 pc = .ok (.iaload, 1)) (h : zRx al d Y sh (pc + 1) ls (.inl (zset a i.toNat) :: st) σ X) : zRx al d Y sh pc ls (.inl i :: zT a :: st) σ X := by
  intro p l e R s m args below meth c k cf sf Z hF hX H locs la hW hL hS
  have ri : r32 i := hS.1
  have e2 : (iv i).toNatClampNeg = i.toNat := iv_clamp h0 ri.2
  obtain ⟨x1, x2, x3, x4⟩ := hF.2.1.2.2 a ha
  have hr : r32 (zset a i.toNat) := by
    rcases (show i = 0 ∨ i = 1 ∨ i = 2 ∨ i = 3 ∨ i = 4 by omega) with rfl | rfl | rfl | rfl | rfl <;> rcases (show a = 0 ∨ a = 1 ∨ a = 2 by omega) with rfl | rfl | rfl <;> exact ⟨by decide, by decide⟩
  obtain ⟨n9, f9, y1, y2, y3⟩ := x1
  refine va_sld hF.1.1 hF.1.2.1 y1 x3 x4 hW.2.1 (iv_in h0 (by omega) ri.2) hd ?_
  rw [e2, y3 _ (by omega)]
  exact h p l e R s m args below meth c k cf sf Z hF hX H locs la hW hL ⟨hr, hS.2.2⟩
theorem zRx.gets {a idx : Nat} {host : String} (ha : a < 3) (hw : Cond.fieldLinkNest Y.1.cls idx RX11 (zsetn a) "[I" host ∈ nw) (hd : decode Y.2.1 pc = .ok (.getstatic idx, 3)) (h : zRx al d Y sh (pc + 3) ls (zT a :: st) σ X) : zRx al d Y sh pc ls st σ X := by
  intro p l e R s m args below meth c k cf sf Z hF hX H locs la hW hL hS
  obtain ⟨x1, x2, x3, x4⟩ := hF.2.1.2.2 a ha
  exact va_getsN hF.1.1 hF.1.2.1 x2 hW.2.1 hF.1.2.2.2.1 (va_Nw.use rfl (hF.2.1.2.1 _ hw)) (fun _ h9 => h9) hd (h p l e R s m args below meth c k cf sf Z hF hX H locs la hW hL ⟨trivial, hS⟩)
/-- what is known of a kind of object, by its number -/
def zCK (ci : Nat) (C : String) (T : u_T) (N : Nat) (ty : Nat → FieldType) : Prop := vwCl[ci]? = some (C, T, N) ∧ (∀ w ∈ u_ws C T N, w ∈ gt) ∧ (∀ j, j < N → parseFieldDescriptor (T j).2.2.1 = some (ty j)) ∧ (∀ a, a < N → ∀ b, b < N → a ≠ b → (T a).2.1 ≠ (T b).2.1)
/-- a field's link -/
def zFL (own : String) (idx ci j : Nat) : Prop := ∃ (C : String) (T : u_T) (N : Nat) (ty : Nat → FieldType), zCK ci C T N ty ∧ j < N ∧ (T j).1 = C ∧ (Cond.fieldLink own idx C (T j).2.1 (T j).2.2.1 ∈ gt ∨ ∃ host, Cond.fieldLinkNest own idx C (T j).2.1 (T j).2.2.1 host ∈ nw)
theorem fmap_at {k : zC} {f : Int → Int} {fks : List zFK} {j : Nat} {x : zFK} (h : fks[j]? = some x) : (fks.mapIdx (fun j fk => fval k f j fk))[j]? = some (fval k f j x) := by simp [List.getElem?_mapIdx, h]
theorem zRx.getV {a idx ci j : Nat} {fks : List zFK} {x : zFK} {v : zV} (fl : zFL Y.1.cls idx ci j) (hs : sh[a]? = some (.inr (.inl (ci, fks)))) (hj : fks[j]? = some x) (hv : ∀ k : zC, fval k (σ a) j x = tv k v) (hr : rS (σ a) (.inr (.inl (ci, fks))) → rV v) (hd : decode Y.2.1 pc = .ok (.getfield idx, 3)) (h : zRx al d Y sh (pc + 3) ls (v :: st) σ X) : zRx al d Y sh pc ls (zP a :: st) σ X := by
  intro p l e R s m args below meth c k cf sf Z hF hX H locs la hW hL hS
  obtain ⟨C, T, N, ty, ⟨c1, c2, c3, c4⟩, hjN, hC, hl⟩ := fl
  have hh := h p l e R s m args below meth c k cf sf Z hF hX H locs la hW hL ⟨hr (hW.2.2.1 a _ hs), hS.2⟩
  rw [List.map_cons, ← hv k] at hh
  rcases hl with hl | ⟨host, hl⟩
  · exact va_get (ci := ci) (q0 := a) hF.1.1 hF.1.2.1 hF.1.2.2.2.2 c2 hF.1.2.2.2.1 hF.2.1.1 hW.1 (wl_at hs) c1 j hjN (hF.1.2.2.2.2 _ hl) (fun _ h9 => hC ▸ h9) (fmap_at hj) hd hh
  · exact va_getN (ci := ci) (q0 := a) (host := host) hF.1.1 hF.1.2.1 hF.1.2.2.2.2 c2 hF.1.2.2.2.1 hF.2.1.1 hW.1 (wl_at hs) c1 j hjN (va_Nw.use rfl (hF.2.1.2.1 _ hl)) (fun _ h9 => hC ▸ h9) (fmap_at hj) hd hh
theorem zRx.getI {a idx ci j : Nat} {ji : Int} {fks : List zFK} (fl : zFL Y.1.cls idx ci j) (hji : (j : Int) = ji) (hs : sh[a]? = some (.inr (.inl (ci, fks)))) (hj : fks[j]? = some (.inl 0)) (hd : decode Y.2.1 pc = .ok (.getfield idx, 3)) (h : zRx al d Y sh (pc + 3) ls (.inl (σ a ji) :: st) σ X) : zRx al d Y sh pc ls (zP a :: st) σ X :=
  zRx.getV (v := .inl (σ a ji)) fl hs hj (fun _ => by subst hji; rfl) (fun q => hji ▸ q j 0 hj) hd h
theorem zRx.getZ {a idx ci j : Nat} {ji : Int} {fks : List zFK} (fl : zFL Y.1.cls idx ci j) (hji : (j : Int) = ji) (hs : sh[a]? = some (.inr (.inl (ci, fks)))) (hj : fks[j]? = some (.inl 3)) (hd : decode Y.2.1 pc = .ok (.getfield idx, 3)) (h : zRx al d Y sh (pc + 3) ls (.inl (σ a ji) :: st) σ X) : zRx al d Y sh pc ls (zP a :: st) σ X :=
  zRx.getV (v := .inl (σ a ji)) fl hs hj (fun _ => by subst hji; rfl) (fun q => by have h1 : 0 ≤ σ a j ∧ σ a j ≤ 1 := q j 3 hj; rw [hji] at h1; exact ⟨by omega, by omega⟩) hd h
theorem zRx.getJ {a idx ci j : Nat} {ji : Int} {fks : List zFK} (fl : zFL Y.1.cls idx ci j) (hji : (j : Int) = ji) (hs : sh[a]? = some (.inr (.inl (ci, fks)))) (hj : fks[j]? = some (.inl 1)) (hd : decode Y.2.1 pc = .ok (.getfield idx, 3)) (h : zRx al d Y sh (pc + 3) ls (zJ (σ a ji) :: st) σ X) : zRx al d Y sh pc ls (zP a :: st) σ X :=
  zRx.getV (v := zJ (σ a ji)) fl hs hj (fun _ => by subst hji; rfl) (fun q => hji ▸ q j 1 hj) hd h
theorem zRx.getR {a idx ci j b : Nat} {fks : List zFK} (fl : zFL Y.1.cls idx ci j) (hs : sh[a]? = some (.inr (.inl (ci, fks)))) (hj : fks[j]? = some (.inr (some b))) (hd : decode Y.2.1 pc = .ok (.getfield idx, 3)) (h : zRx al d Y sh (pc + 3) ls (zP b :: st) σ X) : zRx al d Y sh pc ls (zP a :: st) σ X :=
  zRx.getV (v := zP b) fl hs hj (fun _ => rfl) (fun _ => trivial) hd h
theorem fmap_set {k : zC} {f : Int → Int} {fks : List zFK} {j n : Nat} {z : Int} (h : fks[j]? = some (.inl n)) : (fks.mapIdx (fun j fk => fval k f j fk)).set j (fval k (fun i => if i = (j : Int) then z else f i) j (.inl n)) = fks.mapIdx (fun i fk => fval k (fun i => if i = (j : Int) then z else f i) i fk) := by
  have hl : j < fks.length := (List.getElem?_eq_some_iff.mp h).1
  apply List.ext_getElem?
  intro i
  by_cases hi : i = j
  · subst hi
    rw [List.getElem?_set_self (by simpa using hl), fmap_at h]
  · rw [List.getElem?_set_ne (Ne.symm hi)]
    simp only [List.getElem?_mapIdx]
    congr 1
    funext x
    have hne : ¬ ((i : Int) = (j : Int)) := by omega
    rcases x with x | x
    · simp only [fval, if_neg hne]
    · rcases x with _ | x <;> rfl
theorem zRx.putV {a idx ci j n : Nat} {fks : List zFK} {v : zV} {z : Int} (fl : zFL Y.1.cls idx ci j) (hs : sh[a]? = some (.inr (.inl (ci, fks)))) (hj : fks[j]? = some (.inl n)) (hf : ∀ (C : String) (T : u_T) (N : Nat), vwCl[ci]? = some (C, T, N) → (T j).2.2.2 = false ∧ ∀ ty, parseFieldDescriptor (T j).2.2.1 = some ty → ∀ k : zC, narrow ty (tv k v) = tv k v ∧ fits ty (tv k v) = true) (hv : ∀ (k : zC) (f : Int → Int), f j = z → fval k f j (.inl n) = tv k v) (hr : rV v → rK n z) (hd : decode Y.2.1 pc = .ok (.putfield idx, 3)) (h : zRx al d Y sh (pc + 3) ls st (zu σ a j z) X) : zRx al d Y sh pc ls (v :: zP a :: st) σ X := by
  intro p l e R s m args below meth c k cf sf Z hF hX H locs la hW hL hS
  obtain ⟨C, T, N, ty, ⟨c1, c2, c3, c4⟩, hjN, hC, hl⟩ := fl
  obtain ⟨f1, f2⟩ := hf C T N c1
  obtain ⟨f3, f4⟩ := f2 _ (c3 j hjN) k
  have hlen : j < (fks.mapIdx (fun j fk => fval k (σ a) j fk)).length := by simpa using (List.getElem?_eq_some_iff.mp hj).1
  have key : ∀ (H1 : Heap) (locs1 : List Loc), va_P k.2.2.1 vwCl ((wl k sh σ).set a (k.1 + a, .inr (ci, (fks.mapIdx (fun j fk => fval k (σ a) j fk)).set j (tv k v)))) H1 → va_D (zA k) ((wl k sh σ).set a (k.1 + a, .inr (ci, (fks.mapIdx (fun j fk => fval k (σ a) j fk)).set j (tv k v)))) → va_S (zA k) s.heap H1 locs1 → W p l e R s m args below meth c H1 locs1 (cf sh.length) (sf (szs sh)) Z (F0 m (pc + 3) la (st.map (tv k))) := by
    intro H1 locs1 hP1 hD1 hS1
    refine h p l e R s m args below meth c k cf sf Z hF hX H1 locs1 la (hW.upd hs ?_ ?_ hP1 hS1) hL hS.2.2
    · rw [zcell_o, zu_rowa, ← fmap_set hj, hv k (fun i => if i = (j : Int) then z else σ a i) (if_pos rfl)]
    · intro i n' hi
      rw [zu_if]
      split
      · next he =>
        have he : i = j := by omega
        subst he
        cases hj.symm.trans hi
        exact hr hS.1
      · exact hW.2.2.1 a _ hs i n' hi
  rcases hl with hl | ⟨host, hl⟩
  · exact va_put (ci := ci) (q0 := a) hF.1.1 hF.1.2.1 hF.1.2.2.2.2 c2 ty c3 c4 hF.1.2.2.2.1 hF.2.1.1 hW.1 (wl_D hW.2.2.2.2) hW.2.1 (wl_at hs) c1 j hjN (hF.1.2.2.2.2 _ hl) (fun _ h9 => hC ▸ h9) f1 (c3 j hjN) f3 f4 hlen hd key
  · exact va_putN (ci := ci) (q0 := a) (host := host) hF.1.1 hF.1.2.1 hF.1.2.2.2.2 c2 ty c3 c4 hF.1.2.2.2.1 hF.2.1.1 hW.1 (wl_D hW.2.2.2.2) hW.2.1 (wl_at hs) c1 j hjN (va_Nw.use rfl (hF.2.1.2.1 _ hl)) (fun _ h9 => hC ▸ h9) f1 (c3 j hjN) f3 f4 hlen hd key
def kT (n : Nat) : FieldType := match n with
  | 0 => .int
  | 1 => .long
  | _ => .boolean
/-- a link of a field that may be written -/
def zPL (own : String) (idx ci j n : Nat) : Prop := zFL own idx ci j ∧ ∀ (C : String) (T : u_T) (N : Nat), vwCl[ci]? = some (C, T, N) → (T j).2.2.2 = false ∧ parseFieldDescriptor (T j).2.2.1 = some (kT n)
theorem zRx.putI {a idx ci j : Nat} {z ji : Int} {fks : List zFK} (pl : zPL Y.1.cls idx ci j 0) (hji : (j : Int) = ji) (hs : sh[a]? = some (.inr (.inl (ci, fks)))) (hj : fks[j]? = some (.inl 0)) (hd : decode Y.2.1 pc = .ok (.putfield idx, 3)) (h : zRx al d Y sh (pc + 3) ls st (zu σ a ji z) X) : zRx al d Y sh pc ls (.inl z :: zP a :: st) σ X := by
  subst hji
  refine zRx.putV (v := .inl z) (z := z) pl.1 hs hj (fun C T N hc => ⟨(pl.2 C T N hc).1, fun ty ht k => ?_⟩) (fun k f hf => by subst hf; rfl) (fun q => q) hd h
  cases (pl.2 C T N hc).2.symm.trans ht
  exact ⟨rfl, rfl⟩
theorem zRx.putJ {a idx ci j : Nat} {z ji : Int} {fks : List zFK} (pl : zPL Y.1.cls idx ci j 1) (hji : (j : Int) = ji) (hs : sh[a]? = some (.inr (.inl (ci, fks)))) (hj : fks[j]? = some (.inl 1)) (hd : decode Y.2.1 pc = .ok (.putfield idx, 3)) (h : zRx al d Y sh (pc + 3) ls st (zu σ a ji z) X) : zRx al d Y sh pc ls (zJ z :: zP a :: st) σ X := by
  subst hji
  refine zRx.putV (v := zJ z) (z := z) pl.1 hs hj (fun C T N hc => ⟨(pl.2 C T N hc).1, fun ty ht k => ?_⟩) (fun k f hf => by subst hf; rfl) (fun q => q) hd h
  cases (pl.2 C T N hc).2.symm.trans ht
  exact ⟨rfl, rfl⟩
theorem zRx.putZ {a idx ci j : Nat} {z ji : Int} {fks : List zFK} (pl : zPL Y.1.cls idx ci j 3) (hji : (j : Int) = ji) (hs : sh[a]? = some (.inr (.inl (ci, fks)))) (hj : fks[j]? = some (.inl 3)) (hz : 0 ≤ z ∧ z ≤ 1) (hd : decode Y.2.1 pc = .ok (.putfield idx, 3)) (h : zRx al d Y sh (pc + 3) ls st (zu σ a ji z) X) : zRx al d Y sh pc ls (.inl z :: zP a :: st) σ X := by
  subst hji
  refine zRx.putV (v := .inl z) (z := z) pl.1 hs hj (fun C T N hc => ⟨(pl.2 C T N hc).1, fun ty ht k => ?_⟩) (fun k f hf => by subst hf; rfl) (fun _ => hz) hd h
  cases (pl.2 C T N hc).2.symm.trans ht
  exact by rcases (show z = 0 ∨ z = 1 by omega) with rfl | rfl <;> exact ⟨rfl, rfl⟩
/-- what a method begins with -/
def zPre (k : zC) (sh : List zSh) (σ : zG) (av : List zV) (U : State) : Prop := k.1 ≤ U.heap.size ∧ va_P k.2.2.1 vwCl (wl k sh σ) U.heap ∧ zK k U ∧ rG sh σ ∧ rL av ∧ zFo k sh.length
def zPost (k : zC) (Q : Option zV → List zSh → zG → Prop) (n0 z0 mc ms : Nat) : Array Value → State → Outcome → State → Prop := fun _ st oc t =>
  (∃ (v : Option zV) (sh' : List zSh) (σ' : zG), oc = .returned (v.map (tv k)) ∧ Q v sh' σ' ∧ va_P k.2.2.1 vwCl (wl k sh' σ') t.heap ∧ rG sh' σ' ∧ rL v.toList ∧ sh'.length = n0 + mc ∧ szs sh' = z0 + ms) ∧ va_F (zA k) st t
def zroom (d mc ms : Nat) : Room := { frames := d, cells := mc, slots := ms, locals := 64 * d }
def zws (M : zMI) : List Cond := Cond.code M.1 M.2.1 M.2.2.1 M.2.2.2 :: gt
/-- a method's contract, for every caller; it makes mc cells of ms slots -/
def zDoes (d : Nat) (M : zMI) (mc ms : Nat) (av : List zV) (sh : List zSh) (σ : zG) (Q : Option zV → List zSh → zG → Prop) : Prop :=
  ∀ (l : Launch) (k : zC), Met l M.1 (zws M) (zroom d mc ms) (va_Pc (av.map (tv k)) (fun U => zPre k sh σ av U ∧ (mc ≠ 0 → U.heap.size = k.1 + sh.length))) (zPost k Q sh.length (szs sh) mc ms) mc ms (zA k)
/-- a method by its tables: its bytes, its number of arguments -/
def zMok (M : zMI) (n : Nat) : Prop := Cond.code M.1 M.2.1 M.2.2.1 M.2.2.2 ∈ gt ∧ plainName M.1.cls = true ∧ M.1.cls ≠ "java/lang/invoke/MethodHandle" ∧ M.1.cls ≠ "java/lang/invoke/VarHandle" ∧ (parseMethodDescriptor M.1.desc).map (fun d => d.parameters.length) = some n ∧ M.2.2.1 ≤ 45 ∧ Cond.initialized M.1.cls ∈ gt
theorem gt_goodIn {M : zMI} (h : Cond.code M.1 M.2.1 M.2.2.1 M.2.2.2 ∈ gt) : GoodIn gt (zws M) := by
  intro w hw
  rcases List.mem_cons.mp hw with rfl | hw
  · exact ⟨h, gt_good _ h⟩
  · exact ⟨hw, gt_good _ hw⟩
theorem zcat_sum {k : zC} (st : List zV) : ((st.map (tv k)).map fun v => v.category).sum = (st.map fun v => if zlong v then 2 else 1).sum := by
  induction st with
  | nil => rfl
  | cons v t ih =>
    simp only [List.map_cons, List.sum_cons, ih]
    congr 1
    rcases v with z | z | a | a <;> rfl
theorem nw_forms : ∀ w ∈ nw, zisN w = true := fun w h => (List.mem_filter.mp h).2
theorem nw_warm {s U : State} (hW : s.WarmedH U.vm) {w : Cond} (hw : w ∈ nw) (h : va_Nw w s) : va_Nw w U := by
  have h1 := nw_forms w hw
  cases w <;> first | exact va_Nw.warmF hW h | exact va_Nw.warmM hW h | cases h1
theorem nw_same {s U : State} (hW : s.vm = U.vm) {w : Cond} (hw : w ∈ nw) (h : va_Nw w s) : va_Nw w U := by
  have h1 := nw_forms w hw
  cases w <;> first | exact va_Nw.same rfl hW h | cases h1
/-- what is known of the tables goes on, over heaps that differ in what is ours -/
theorem zK.warm {k : zC} {s U : State} (hW : s.WarmedH U.vm) (hz : s.heap.size ≤ U.heap.size) (hh : ∀ q : Nat, q < s.heap.size → ¬ zA k q → U.heap[q]? = s.heap[q]?) (h : zK k s) : zK k U := by
  refine ⟨va_K.moved hW.alike h.1, fun w hw => nw_warm hW hw (h.2.1 w hw), fun i hi => ?_⟩
  obtain ⟨x1, x2, x3, x4⟩ := h.2.2 i hi
  exact ⟨zSX.moved hW.alike (x1.kept (hh _ x3 x4)), va_Z.moved hW.alike (x2.kept hh), Nat.lt_of_lt_of_le x3 hz, x4⟩
theorem zK.same {k : zC} {s U : State} (hv : s.vm = U.vm) (hh : U.heap = s.heap) (h : zK k s) : zK k U := by
  refine ⟨va_K.moved (by rw [hv]; exact Vm.Alike.refl _) h.1, fun w hw => nw_same hv hw (h.2.1 w hw), fun i hi => ?_⟩
  obtain ⟨x1, x2, x3, x4⟩ := h.2.2 i hi
  rw [hh]
  exact ⟨zSX.moved (by rw [hv]; exact Vm.Alike.refl _) x1, va_Z.moved (by rw [hv]; exact Vm.Alike.refl _) x2, x3, x4⟩
theorem zblind {k : zC} {av : List zV} {mc : Nat} : FrameBlind (va_Pc (av.map (tv k)) (fun U => zPre k sh σ av U ∧ (mc ≠ 0 → U.heap.size = k.1 + sh.length))) := by
  intro a U g mk q
  obtain ⟨q0, ⟨q1, q2, q3, q4, q5, q7⟩, q6⟩ := q
  exact ⟨q0, ⟨q1, q2, zK.same (s := U) rfl rfl q3, q4, q5, q7⟩, q6⟩
section ZC
variable {p : Program} {l : Launch} {e : Env} {R : Room} {s : State} {m : MethodId} {args : Array Value} {below : List Frame} {meth : Method} {c : Code} {H : Heap} {locs : List Loc} {Z : State → Prop} {k : zC}
theorem zcall {cells slots mc ms n0 z0 pc : Nat} {la : Array Slot} {st0 rest : List Value} {a : Array Value} {Q : Option zV → List zSh → zG → Prop} {T : State} (hT : T.heap = H) (X : Stand p l e R s m args below meth c T locs cells slots)
    (hr : va_Run p l e R s m args below meth c H locs cells slots mc ms (F0 m pc la st0) rest (zPost k Q n0 z0 mc ms a) (zA k)) (hS : va_S (zA k) s.heap H locs)
    (kk : ∀ (v : Option zV) (sh' : List zSh) (σ' : zG) (H1 : Heap) (locs1 : List Loc), Q v sh' σ' → va_P k.2.2.1 vwCl (wl k sh' σ') H1 → rG sh' σ' → rL v.toList → sh'.length = n0 + mc → szs sh' = z0 + ms → va_S (zA k) s.heap H1 locs1 → W p l e R s m args below meth c H1 locs1 (cells + mc) (slots + ms) Z (F0 m (pc + 3) la ((v.map (tv k)).toList ++ rest))) : ∃ t, Steps p.tables e below (T.setTop (F0 m pc la st0)) t ∧ Z t := by
  obtain ⟨v, st₀, t, T', L, h0, X', hL, e1, e2, ⟨⟨w, sh', σ', hv, hq, hP, hG, hR, hn, hz⟩, hF⟩, st⟩ := hr T hT X
  cases hv
  have hS1 : va_S (zA k) s.heap T'.heap (locs ++ L) := by
    refine ⟨?_, fun q h1 h2 => ?_, fun q hq => ?_⟩
    · rw [e1]; exact Nat.le_trans hS.1 (by rw [← h0]; exact hF.1)
    · rw [e1, hF.2 q (by rw [h0]; exact Nat.lt_of_lt_of_le h1 hS.1) h2, h0]; exact hS.2.1 q h1 h2
    · rcases List.mem_append.mp hq with h | h
      · exact hS.2.2 q h
      · exact hL q h
  obtain ⟨t2, a1, b1⟩ := kk w sh' σ' T'.heap (locs ++ L) hq (by rw [e1]; exact hP) hG hR hn hz hS1 T' rfl X'
  exact ⟨t2, st t2 a1, b1⟩
end ZC
def zcV (own : String) (idx : Nat) (y : MethodName) (ci : Nat) : Prop := Cond.methodLink own idx y ∈ gt ∧ Cond.instanceMethod y ∈ gt ∧ Cond.selects y.cls y y ∈ gt ∧ ∃ T N, vwCl[ci]? = some (y.cls, T, N)
def zcS (own : String) (idx : Nat) (y : MethodName) : Prop := (Cond.methodLink own idx y ∈ gt ∨ ∃ host, Cond.methodLinkNest own idx y host ∈ nw) ∧ Cond.static y ∈ gt
theorem zRoom {R : Room} {d d' : Nat} {maxL : Nat} (h1 : d ≤ R.frames) (h2 : 64 * d ≤ R.locals) (h3 : d' + 1 ≤ d) (h4 : maxL ≤ 45) : (zroom d' 0 0).frames + 1 ≤ R.frames ∧ 8 + (maxL + 11) + (zroom d' 0 0).locals ≤ R.locals := by
  unfold zroom
  dsimp only
  omega
theorem zpreW {k : zC} {s : State} {R : Room} {cf sf : Nat → Nat} {H : Heap} {locs : List Loc} {av : List zV} (hK : zK k s) (hk : k.1 ≤ s.heap.size) (hW : zW k s R cf sf sh σ H locs) (hr : rL av) (U : State) (hU : U.heap = H) (hw : s.WarmedH U.vm) : zPre k sh σ av U := by
  refine ⟨?_, ?_, zK.warm hw ?_ ?_ hK, hW.2.2.1, hr, hW.2.2.2.2⟩
  · rw [hU]; exact Nat.le_trans hk hW.2.1.1
  · rw [hU]; exact hW.1
  · rw [hU]; exact hW.2.1.1
  · rw [hU]; exact hW.2.1.2.1
theorem rL_app {a b : List zV} (h : rL (a ++ b)) : rL a ∧ rL b := by
  induction a with
  | nil => exact ⟨trivial, h⟩
  | cons v t ih => exact ⟨⟨h.1, (ih h.2).1⟩, (ih h.2).2⟩
theorem rL_app2 {a b : List zV} (ha : rL a) (hb : rL b) : rL (a ++ b) := by
  induction a with
  | nil => exact hb
  | cons v t ih => exact ⟨ha.1, ih ha.2⟩
theorem rL_mem {a : List zV} : rL a ↔ ∀ v ∈ a, rV v := by
  induction a with
  | nil => simp [rL]
  | cons v t ih => simp [rL, ih]
theorem rL_rev {a : List zV} (h : rL a.reverse) : rL a := rL_mem.mpr fun v hv => rL_mem.mp h v (List.mem_reverse.mpr hv)
theorem omap_tv {k : zC} {v : Option zV} {st : List zV} : (v.map (tv k)).toList ++ st.map (tv k) = (v.toList ++ st).map (tv k) := by cases v <;> rfl
theorem zRx.callV {b idx ci d' : Nat} {fks : List zFK} {M : zMI} {av st0 : List zV} {Q : Option zV → List zSh → zG → Prop} (cl : zcV Y.1.cls idx M.1 ci) (hM : zMok M av.length) (hd' : d' + 1 ≤ d) (hs : sh[b]? = some (.inr (.inl (ci, fks)))) (hst : st0 = av.reverse ++ zP b :: st) (hc : (st.map fun v => if zlong v then 2 else 1).sum ≤ 8) (hd : decode Y.2.1 pc = .ok (.invokevirtual idx, 3)) (hD : zDoes d' M 0 0 (zP b :: av) sh σ Q) (h : ∀ v sh' σ', Q v sh' σ' → zRx al d Y sh' (pc + 3) ls (v.toList ++ st) σ' X) : zRx al d Y sh pc ls st0 σ X := by
  intro p l e R s m args below meth c k cf sf Z hF hX H locs la hW hL hS
  subst hst
  obtain ⟨r1, r2⟩ := rL_app hS
  obtain ⟨m1, m2, m3, m4, m5, m6, m7⟩ := hM
  obtain ⟨g1, g2, g3, T, N, g4⟩ := cl
  have hts := hF.1.2.2.2.2
  have hcb := callB_of (R := R) (rm := zroom d' 0 0) (mc := 0) (ms := 0) (ws' := gt) av.length hts (gt_goodIn m1) rfl rfl rfl (hts _ m7) (hts _ g1) ⟨m3, m4, m5⟩ (zRoom hF.2.2.1 hF.2.2.2.1 hd' m6)
  intro T0 hT0 X0
  refine zcall hT0 X0 (mc := 0) (ms := 0) (Q := Q) (n0 := sh.length) (z0 := szs sh) (rest := st.map (tv k)) (a := (Value.ref (k.1 + b) :: av.map (tv k)).toArray) (va_runV (C := M.1.cls) (b := k.1 + b) (As := av.map (tv k)) hF.1 (hD l k) ⟨hcb, hts _ g2, hts _ g3⟩ ⟨zblind (sh := sh) (σ := σ) (av := zP b :: av), va_recv hF.2.1.1 hW.1 (ci := ci) (q0 := b) g4 (wl_at hs), fun U hU hw => ⟨rfl, zpreW (av := zP b :: av) hF.2.1 hF.2.2.2.2.1 hW ⟨trivial, rL_rev r1⟩ U hU hw, fun h0 => absurd rfl h0⟩⟩ rfl (by simp) hL.1.1 (by simp [tv]) (lv_room (by rw [zcat_sum]; exact hc)) hd hW.2.2.2.1) hW.2.1 (fun v sh' σ' H1 locs1 hq hP1 hG1 hR1 hn1 hz1 hS1 => ?_)
  rw [omap_tv]
  have hn1 : sh'.length = sh.length := hn1
  have hz1 : szs sh' = szs sh := hz1
  have h9 := h v sh' σ' hq p l e R s m args below meth c k cf sf Z hF hX H1 locs1 la ⟨hP1, hS1, hG1, by rw [hn1, hz1]; exact hW.2.2.2⟩ hL (rL_app2 hR1 r2.2)
  rw [hn1, hz1] at h9
  exact h9
theorem zRx.callS {idx d' : Nat} {M : zMI} {av st0 : List zV} {Q : Option zV → List zSh → zG → Prop} (cl : zcS Y.1.cls idx M.1) (hM : zMok M av.length) (hd' : d' + 1 ≤ d) (hst : st0 = av.reverse ++ st) (hc : (st.map fun v => if zlong v then 2 else 1).sum ≤ 8) (hd : decode Y.2.1 pc = .ok (.invokestatic idx, 3)) (hD : zDoes d' M 0 0 av sh σ Q) (h : ∀ v sh' σ', Q v sh' σ' → zRx al d Y sh' (pc + 3) ls (v.toList ++ st) σ' X) : zRx al d Y sh pc ls st0 σ X := by
  intro p l e R s m args below meth c k cf sf Z hF hX H locs la hW hL hS
  subst hst
  obtain ⟨r1, r2⟩ := rL_app hS
  obtain ⟨m1, m2, m3, m4, m5, m6, m7⟩ := hM
  obtain ⟨g1, g2⟩ := cl
  have hts := hF.1.2.2.2.2
  have hR := zRoom hF.2.2.1 hF.2.2.2.1 hd' m6
  have hp : PreS s H (va_Pc (av.map (tv k)) (fun U => zPre k sh σ av U ∧ ((0 : Nat) ≠ 0 → U.heap.size = k.1 + sh.length))) (av.map (tv k)) := ⟨zblind (sh := sh) (σ := σ) (av := av), fun U hU hw => ⟨rfl, zpreW hF.2.1 hF.2.2.2.2.1 hW (rL_rev r1) U hU hw, fun h0 => absurd rfl h0⟩⟩
  have hrun : va_Run p l e R s m args below meth c H locs (cf sh.length) (sf (szs sh)) 0 0 (F0 m pc la ((av.reverse ++ st).map (tv k))) (st.map (tv k)) (zPost k Q sh.length (szs sh) 0 0 (av.map (tv k)).toArray) (zA k) := by
    rcases g1 with g1 | ⟨host, g1⟩
    · exact va_runS (As := av.map (tv k)) hF.1 (hD l k) ⟨callB_of (R := R) (rm := zroom d' 0 0) (mc := 0) (ms := 0) (ws' := gt) av.length hts (gt_goodIn m1) rfl rfl rfl (hts _ m7) (hts _ g1) ⟨m3, m4, m5⟩ hR, hts _ g2⟩ hp rfl (by simp) hL.1.1 (by simp) (lv_room (by rw [zcat_sum]; exact hc)) hd hW.2.2.2.1
    · exact va_runSN (As := av.map (tv k)) (host := host) hF.1 (hD l k) ⟨va_cnB (R := R) (rm := zroom d' 0 0) (mc := 0) (ms := 0) (ws' := gt) av.length hts (gt_goodIn m1) rfl rfl rfl (hF.2.1.2.1 _ g1) (hts _ m7) ⟨m3, m4, m5⟩ hR, hts _ g2, trivial⟩ hp rfl (by simp) hL.1.1 (by simp) (lv_room (by rw [zcat_sum]; exact hc)) hd hW.2.2.2.1
  intro T0 hT0 X0
  refine zcall hT0 X0 (mc := 0) (ms := 0) (Q := Q) (n0 := sh.length) (z0 := szs sh) (rest := st.map (tv k)) hrun hW.2.1 (fun v sh' σ' H1 locs1 hq hP1 hG1 hR1 hn1 hz1 hS1 => ?_)
  rw [omap_tv]
  have hn1 : sh'.length = sh.length := hn1
  have hz1 : szs sh' = szs sh := hz1
  have h9 := h v sh' σ' hq p l e R s m args below meth c k cf sf Z hF hX H1 locs1 la ⟨hP1, hS1, hG1, by rw [hn1, hz1]; exact hW.2.2.2⟩ hL (rL_app2 hR1 r2)
  rw [hn1, hz1] at h9
  exact h9
/-- a method's end -/
def zEx (M : zMI) (Q : Option zV → List zSh → zG → Prop) : zX := fun sh' pc' _ st' σ' =>
  (M.2.2.2 = none ∧ decode M.2.1 pc' = .ok (.return_, 1) ∧ st' = [] ∧ Q none sh' σ') ∨
  (∃ z : Int, M.2.2.2 = some .int ∧ decode M.2.1 pc' = .ok (.ireturn, 1) ∧ st' = [.inl z] ∧ Q (some (.inl z)) sh' σ') ∨
  (∃ z : Int, M.2.2.2 = some .boolean ∧ 0 ≤ z ∧ z ≤ 1 ∧ decode M.2.1 pc' = .ok (.ireturn, 1) ∧ st' = [.inl z] ∧ Q (some (.inl z)) sh' σ') ∨
  (∃ z : Int, M.2.2.2 = some .long ∧ decode M.2.1 pc' = .ok (.lreturn, 1) ∧ st' = [zJ z] ∧ Q (some (zJ z)) sh' σ')
def zargs : Nat → List zV → List (Nat × zV)
  | _, [] => []
  | i, v :: vs => (i, v) :: zargs (if zlong v then i + 2 else i + 1) vs
theorem zargs_map (k : zC) : ∀ (i : Nat) (av : List zV), lv_args i (av.map (tv k)) = (zargs i av).map (fun q => (q.1, tv k q.2))
  | _, [] => rfl
  | i, v :: vs => by
    have h1 : (if (tv k v).category = 2 then i + 2 else i + 1) = (if zlong v then i + 2 else i + 1) := by
      rcases v with z | z | a | a <;> rfl
    simp only [List.map_cons, lv_args, zargs, h1, zargs_map k _ vs]
theorem zargs_r : ∀ (i : Nat) (av : List zV), rL av → ∀ q ∈ zargs i av, rV q.2
  | _, [], _, q, h => by cases h
  | i, v :: vs, hr, q, h => by
    rcases List.mem_cons.mp h with rfl | h
    · exact hr.1
    · exact zargs_r _ vs hr.2 q h
theorem zargs_len (k : zC) (av : List zV) : (lg_sl (av.map (tv k))).length = (av.map fun v => if zlong v then 2 else 1).sum := by
  induction av with
  | nil => rfl
  | cons v t ih =>
    have h1 : (lg_sl (tv k v :: t.map (tv k))).length = (if zlong v then 2 else 1) + (lg_sl (t.map (tv k))).length := by
      rcases v with z | z | a | a <;> simp [lg_sl, tv, zlong, Value.category] <;> omega
    rw [List.map_cons, h1, ih]
    rfl
theorem zDoes.intro {M : zMI} {n : Nat} {av : List zV} {Q : Option zV → List zSh → zG → Prop} (hM : zMok M n) (hl : (av.map fun v => if zlong v then 2 else 1).sum ≤ M.2.2.1) (hQ : ∀ v sh' σ', Q v sh' σ' → sh' = sh)
    (h : zRx none d M sh 0 (zargs 0 av) [] σ (zEx M Q)) : zDoes d M 0 0 av sh σ Q := by
  intro l k
  refine Met.ofW (cc := M.2.1) (maxL := M.2.2.1) (ret := M.2.2.2) hM.2.1 rfl ?_
  intro p e s m args below meth c s₁ B hml hv
  obtain ⟨rfl, ⟨q1, q2, q3, q4, q5, q6⟩, -⟩ := hv
  have hx := B.exec
  have hb := B.bytes
  have hr := B.returns
  have hts := atoms_spec (ws := zws M) B.pre
  have hown : s.vm.findClass M.1.cls = some m.cls := findClass_of_methodNamed B.named
  have hlocks := B.notSynchronized
  have hlv := lv_entry (av.map (tv k)) (n := M.2.2.1) (by rw [zargs_len]; exact hl)
  rw [lg_entry_eq]
  have hF : zFx none d M p (headSpec (zws M) (zroom d 0 0)).room s m (av.map (tv k)).toArray c k (fun _ => 0) (fun _ => 0) := ⟨⟨hx, hb, hml, hown, fun w hw => hts w (List.mem_cons_of_mem _ hw)⟩, q3, Nat.le_refl _, Nat.le_refl _, q1, fun q hq => by cases hq⟩
  refine h p l e _ s m _ below meth c k (fun _ => 0) (fun _ => 0) _ hF ?_ s.heap [] _ ⟨q2, va_S.rf, q4, ⟨Nat.zero_le _, Nat.zero_le _⟩, q6⟩ ⟨by rw [← zargs_map]; exact hlv, zargs_r 0 av q5⟩ trivial
  intro sh' pc' ls' st' σ' H locs la hX hW hL hS
  have key : ∀ (v : Option zV), Q v sh' σ' → rL v.toList → ∀ t : State, t.heap = H → s.WarmedH t.vm → zPost k Q sh.length (szs sh) 0 0 (av.map (tv k)).toArray s (.returned (v.map (tv k))) t := by
    intro v hq hrv t ht hw
    have hsh := hQ v sh' σ' hq
    exact ⟨⟨v, sh', σ', rfl, hq, by rw [ht]; exact hW.1, hW.2.2.1, hrv, by rw [hsh]; rfl, by rw [hsh]; rfl⟩, hW.2.1.F ht⟩
  rcases hX with ⟨e1, e2, e3, hq⟩ | ⟨z, e1, e2, e3, hq⟩ | ⟨z, e1, z1, z2, e2, e3, hq⟩ | ⟨z, e1, e2, e3, hq⟩
  · subst e3
    exact W.vret hx hb (by rw [hr, e1]) (key none hq trivial) hW.2.1.2.2 e2
  · subst e3
    exact W.iret hx hb (by rw [hr, e1]) (key (some (.inl z)) hq ⟨hS.1, trivial⟩) hW.2.1.2.2 e2
  · subst e3
    exact W.zret (ty := .boolean) hx hb (by rw [hr, e1]) (by rcases (show z = 0 ∨ z = 1 by omega) with rfl | rfl <;> rfl) (key (some (.inl z)) hq ⟨hS.1, trivial⟩) hW.2.1.2.2 e2
  · subst e3
    exact W.lret hx hb (by rw [hr, e1]) (key (some (zJ z)) hq ⟨hS.1, trivial⟩) hW.2.1.2.2 e2
end ZR
