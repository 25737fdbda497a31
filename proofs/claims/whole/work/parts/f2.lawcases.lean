/-! the law's cases: one call on both sides -/
theorem law_feed {σ μ : zG} {o : Int → Int} {L : Nat} {xs : Nat → Int32} (h : REL σ μ) {i : Int} (i0 : 0 ≤ i) (i1 : i + 6 ≤ (L : Int)) (hL : L ≤ 3072) : zRi (lwN L xs) none 70 YL LSH 200 (lls i) [] (cmb σ μ o) (lX i) := by
  obtain ⟨v, σ', μ', d, d', h1, h2, a, b, r⟩ := k_feed h (sx_r xs (i + 1)) (sx_r xs (i + 2)) (sx_r xs (i + 3)) (sx_r xs (i + 4)) (sx_r xs (i + 5))
  refine zRi.lift (fun X h => zRx.aload_n 1 rfl rfl dL_law_200 h) ?_
  refine zRi.lift (fun X h => zRx.aloadT 0 rfl rfl dL_law_201 h) ?_
  refine zRi.lift (fun X h => zRx.iload 4 rfl dL_law_202 h) ?_
  refine zRi.lift (fun X h => zRx.iconst ⟨by decide, by decide⟩ dL_law_204 h) ?_
  refine zRi.lift (fun X h => zRx.iadd ⟨by omega, by omega⟩ dL_law_205 h) ?_
  refine zRi.scr (by omega) (by omega) (by omega) dL_law_206 ?_
  refine zRi.lift (fun X h => zRx.aloadT 0 rfl rfl dL_law_207 h) ?_
  refine zRi.lift (fun X h => zRx.iload 4 rfl dL_law_208 h) ?_
  refine zRi.lift (fun X h => zRx.iconst ⟨by decide, by decide⟩ dL_law_210 h) ?_
  refine zRi.lift (fun X h => zRx.iadd ⟨by omega, by omega⟩ dL_law_211 h) ?_
  refine zRi.scr (by omega) (by omega) (by omega) dL_law_212 ?_
  refine zRi.lift (fun X h => zRx.aloadT 0 rfl rfl dL_law_213 h) ?_
  refine zRi.lift (fun X h => zRx.iload 4 rfl dL_law_214 h) ?_
  refine zRi.lift (fun X h => zRx.iconst ⟨by decide, by decide⟩ dL_law_216 h) ?_
  refine zRi.lift (fun X h => zRx.iadd ⟨by omega, by omega⟩ dL_law_217 h) ?_
  refine zRi.scr (by omega) (by omega) (by omega) dL_law_218 ?_
  refine zRi.lift (fun X h => zRx.aloadT 0 rfl rfl dL_law_219 h) ?_
  refine zRi.lift (fun X h => zRx.iload 4 rfl dL_law_220 h) ?_
  refine zRi.lift (fun X h => zRx.iconst ⟨by decide, by decide⟩ dL_law_222 h) ?_
  refine zRi.lift (fun X h => zRx.iadd ⟨by omega, by omega⟩ dL_law_223 h) ?_
  refine zRi.scr (by omega) (by omega) (by omega) dL_law_224 ?_
  refine zRi.lift (fun X h => zRx.aloadT 0 rfl rfl dL_law_225 h) ?_
  refine zRi.lift (fun X h => zRx.iload 4 rfl dL_law_226 h) ?_
  refine zRi.lift (fun X h => zRx.iconst ⟨by decide, by decide⟩ dL_law_228 h) ?_
  refine zRi.lift (fun X h => zRx.iadd ⟨by omega, by omega⟩ dL_law_229 h) ?_
  refine zRi.scr (by omega) (by omega) (by omega) dL_law_230 ?_
  refine zRi.callE (n := 0) (sub := SC) (σc := σ) (τ := σ') (σ' := cmb σ' μ o) (w := .inl v) (M := m_X11_feed) (av := [.inl (sx xs (i + 1)), .inl (sx xs (i + 2)), .inl (sx xs (i + 3)), .inl (sx xs (i + 4)), .inl (sx xs (i + 5))]) cv_L_28 mk_X11_feed (by omega) lsh_0.choose_spec rfl (⟨⟨_, rfl⟩, ⟨⟨_, rfl⟩, ⟨⟨_, rfl⟩, ⟨⟨_, rfl⟩, ⟨⟨_, rfl⟩, trivial⟩⟩⟩⟩⟩) (Nat.le_of_ble_eq_true rfl) dL_law_231 subC (cmb_c σ μ o) ⟨v, rfl⟩ a (cmb_c σ' μ o) (cmb_co σ σ' μ o) ?_
  refine zRi.lift (fun X h => zRx.aload_n 2 rfl rfl dL_law_234 h) ?_
  refine zRi.lift (fun X h => zRx.aloadT 0 rfl rfl dL_law_235 h) ?_
  refine zRi.lift (fun X h => zRx.iload 4 rfl dL_law_236 h) ?_
  refine zRi.lift (fun X h => zRx.iconst ⟨by decide, by decide⟩ dL_law_238 h) ?_
  refine zRi.lift (fun X h => zRx.iadd ⟨by omega, by omega⟩ dL_law_239 h) ?_
  refine zRi.scr (by omega) (by omega) (by omega) dL_law_240 ?_
  refine zRi.lift (fun X h => zRx.aloadT 0 rfl rfl dL_law_241 h) ?_
  refine zRi.lift (fun X h => zRx.iload 4 rfl dL_law_242 h) ?_
  refine zRi.lift (fun X h => zRx.iconst ⟨by decide, by decide⟩ dL_law_244 h) ?_
  refine zRi.lift (fun X h => zRx.iadd ⟨by omega, by omega⟩ dL_law_245 h) ?_
  refine zRi.scr (by omega) (by omega) (by omega) dL_law_246 ?_
  refine zRi.lift (fun X h => zRx.aloadT 0 rfl rfl dL_law_247 h) ?_
  refine zRi.lift (fun X h => zRx.iload 4 rfl dL_law_248 h) ?_
  refine zRi.lift (fun X h => zRx.iconst ⟨by decide, by decide⟩ dL_law_250 h) ?_
  refine zRi.lift (fun X h => zRx.iadd ⟨by omega, by omega⟩ dL_law_251 h) ?_
  refine zRi.scr (by omega) (by omega) (by omega) dL_law_252 ?_
  refine zRi.lift (fun X h => zRx.aloadT 0 rfl rfl dL_law_253 h) ?_
  refine zRi.lift (fun X h => zRx.iload 4 rfl dL_law_254 h) ?_
  refine zRi.lift (fun X h => zRx.iconst ⟨by decide, by decide⟩ dL_law_256 h) ?_
  refine zRi.lift (fun X h => zRx.iadd ⟨by omega, by omega⟩ dL_law_257 h) ?_
  refine zRi.scr (by omega) (by omega) (by omega) dL_law_258 ?_
  refine zRi.lift (fun X h => zRx.aloadT 0 rfl rfl dL_law_259 h) ?_
  refine zRi.lift (fun X h => zRx.iload 4 rfl dL_law_260 h) ?_
  refine zRi.lift (fun X h => zRx.iconst ⟨by decide, by decide⟩ dL_law_262 h) ?_
  refine zRi.lift (fun X h => zRx.iadd ⟨by omega, by omega⟩ dL_law_263 h) ?_
  refine zRi.scr (by omega) (by omega) (by omega) dL_law_264 ?_
  refine zRi.callE (n := 150) (sub := SM) (σc := μ) (τ := μ') (σ' := cmb σ' μ' o) (w := .inl v) (M := m_X12_feed) (av := [.inl (sx xs (i + 1)), .inl (sx xs (i + 2)), .inl (sx xs (i + 3)), .inl (sx xs (i + 4)), .inl (sx xs (i + 5))]) cv_L_32 mk_X12_feed (by omega) lsh_150.choose_spec rfl (⟨⟨_, rfl⟩, ⟨⟨_, rfl⟩, ⟨⟨_, rfl⟩, ⟨⟨_, rfl⟩, ⟨⟨_, rfl⟩, trivial⟩⟩⟩⟩⟩) (Nat.le_of_ble_eq_true rfl) dL_law_265 subM (cmb_m σ' μ o) ⟨v, rfl⟩ b (cmb_m σ' μ' o) (cmb_mo σ' μ μ' o) ?_
  refine zRi.lift (fun X h => zRx.icmp_eq (tgt := 1392) dL_law_268 (by decide) (fun _ => h) (fun x => absurd rfl x)) ?_
  exact zRi.stop ⟨rfl, rfl, rfl, rfl, σ', μ', o, rfl, r⟩
theorem law_end {σ μ : zG} {o : Int → Int} {L : Nat} {xs : Nat → Int32} (h : REL σ μ) {i : Int} (i0 : 0 ≤ i) (i1 : i + 6 ≤ (L : Int)) (hL : L ≤ 3072) : zRi (lwN L xs) none 70 YL LSH 273 (lls i) [] (cmb σ μ o) (lX i) := by
  obtain ⟨v, σ', μ', d, d', h1, h2, a, b, r⟩ := k_end h (sx xs (i + 1))
  refine zRi.lift (fun X h => zRx.aload_n 1 rfl rfl dL_law_273 h) ?_
  refine zRi.lift (fun X h => zRx.aloadT 0 rfl rfl dL_law_274 h) ?_
  refine zRi.lift (fun X h => zRx.iload 4 rfl dL_law_275 h) ?_
  refine zRi.lift (fun X h => zRx.iconst ⟨by decide, by decide⟩ dL_law_277 h) ?_
  refine zRi.lift (fun X h => zRx.iadd ⟨by omega, by omega⟩ dL_law_278 h) ?_
  refine zRi.scr (by omega) (by omega) (by omega) dL_law_279 ?_
  refine zRi.callE (n := 0) (sub := SC) (σc := σ) (τ := σ') (σ' := cmb σ' μ o) (w := .inl v) (M := m_X11_end) (av := [.inl (sx xs (i + 1))]) cv_L_33 mk_X11_end (by omega) lsh_0.choose_spec rfl (⟨⟨_, rfl⟩, trivial⟩) (Nat.le_of_ble_eq_true rfl) dL_law_280 subC (cmb_c σ μ o) ⟨v, rfl⟩ a (cmb_c σ' μ o) (cmb_co σ σ' μ o) ?_
  refine zRi.lift (fun X h => zRx.aload_n 2 rfl rfl dL_law_283 h) ?_
  refine zRi.lift (fun X h => zRx.aloadT 0 rfl rfl dL_law_284 h) ?_
  refine zRi.lift (fun X h => zRx.iload 4 rfl dL_law_285 h) ?_
  refine zRi.lift (fun X h => zRx.iconst ⟨by decide, by decide⟩ dL_law_287 h) ?_
  refine zRi.lift (fun X h => zRx.iadd ⟨by omega, by omega⟩ dL_law_288 h) ?_
  refine zRi.scr (by omega) (by omega) (by omega) dL_law_289 ?_
  refine zRi.callE (n := 150) (sub := SM) (σc := μ) (τ := μ') (σ' := cmb σ' μ' o) (w := .inl v) (M := m_X12_end) (av := [.inl (sx xs (i + 1))]) cv_L_37 mk_X12_end (by omega) lsh_150.choose_spec rfl (⟨⟨_, rfl⟩, trivial⟩) (Nat.le_of_ble_eq_true rfl) dL_law_290 subM (cmb_m σ' μ o) ⟨v, rfl⟩ b (cmb_m σ' μ' o) (cmb_mo σ' μ μ' o) ?_
  refine zRi.lift (fun X h => zRx.icmp_eq (tgt := 1392) dL_law_293 (by decide) (fun _ => h) (fun x => absurd rfl x)) ?_
  exact zRi.stop ⟨rfl, rfl, rfl, rfl, σ', μ', o, rfl, r⟩
theorem law_valley {σ μ : zG} {o : Int → Int} {L : Nat} {xs : Nat → Int32} (h : REL σ μ) {i : Int} (i0 : 0 ≤ i) (i1 : i + 6 ≤ (L : Int)) (hL : L ≤ 3072) : zRi (lwN L xs) none 70 YL LSH 298 (lls i) [] (cmb σ μ o) (lX i) := by
  obtain ⟨v, σ', μ', d, d', h1, h2, a, b, r⟩ := k_valley h
  refine zRi.lift (fun X h => zRx.aload_n 1 rfl rfl dL_law_298 h) ?_
  refine zRi.callE (n := 0) (sub := SC) (σc := σ) (τ := σ') (σ' := cmb σ' μ o) (w := .inl v) (M := m_X11_valley) (av := []) cv_L_38 mk_X11_valley (by omega) lsh_0.choose_spec rfl (trivial) (Nat.le_of_ble_eq_true rfl) dL_law_299 subC (cmb_c σ μ o) ⟨v, rfl⟩ a (cmb_c σ' μ o) (cmb_co σ σ' μ o) ?_
  refine zRi.lift (fun X h => zRx.aload_n 2 rfl rfl dL_law_302 h) ?_
  refine zRi.callE (n := 150) (sub := SM) (σc := μ) (τ := μ') (σ' := cmb σ' μ' o) (w := .inl v) (M := m_X12_valley) (av := []) cv_L_42 mk_X12_valley (by omega) lsh_150.choose_spec rfl (trivial) (Nat.le_of_ble_eq_true rfl) dL_law_303 subM (cmb_m σ' μ o) ⟨v, rfl⟩ b (cmb_m σ' μ' o) (cmb_mo σ' μ μ' o) ?_
  refine zRi.lift (fun X h => zRx.icmp_eq (tgt := 1392) dL_law_306 (by decide) (fun _ => h) (fun x => absurd rfl x)) ?_
  exact zRi.stop ⟨rfl, rfl, rfl, rfl, σ', μ', o, rfl, r⟩
theorem law_fault {σ μ : zG} {o : Int → Int} {L : Nat} {xs : Nat → Int32} (h : REL σ μ) {i : Int} (i0 : 0 ≤ i) (i1 : i + 6 ≤ (L : Int)) (hL : L ≤ 3072) : zRi (lwN L xs) none 70 YL LSH 311 (lls i) [] (cmb σ μ o) (lX i) := by
  obtain ⟨v, σ', μ', d, d', h1, h2, a, b, r⟩ := k_fault h
  refine zRi.lift (fun X h => zRx.aload_n 1 rfl rfl dL_law_311 h) ?_
  refine zRi.callE (n := 0) (sub := SC) (σc := σ) (τ := σ') (σ' := cmb σ' μ o) (w := .inl v) (M := m_X11_fault) (av := []) cv_L_43 mk_X11_fault (by omega) lsh_0.choose_spec rfl (trivial) (Nat.le_of_ble_eq_true rfl) dL_law_312 subC (cmb_c σ μ o) ⟨v, rfl⟩ a (cmb_c σ' μ o) (cmb_co σ σ' μ o) ?_
  refine zRi.lift (fun X h => zRx.aload_n 2 rfl rfl dL_law_315 h) ?_
  refine zRi.callE (n := 150) (sub := SM) (σc := μ) (τ := μ') (σ' := cmb σ' μ' o) (w := .inl v) (M := m_X12_fault) (av := []) cv_L_46 mk_X12_fault (by omega) lsh_150.choose_spec rfl (trivial) (Nat.le_of_ble_eq_true rfl) dL_law_316 subM (cmb_m σ' μ o) ⟨v, rfl⟩ b (cmb_m σ' μ' o) (cmb_mo σ' μ μ' o) ?_
  refine zRi.lift (fun X h => zRx.icmp_eq (tgt := 1392) dL_law_319 (by decide) (fun _ => h) (fun x => absurd rfl x)) ?_
  exact zRi.stop ⟨rfl, rfl, rfl, rfl, σ', μ', o, rfl, r⟩
theorem law_knows {σ μ : zG} {o : Int → Int} {L : Nat} {xs : Nat → Int32} (h : REL σ μ) {i : Int} (i0 : 0 ≤ i) (i1 : i + 6 ≤ (L : Int)) (hL : L ≤ 3072) : zRi (lwN L xs) none 70 YL LSH 392 (lls i) [] (cmb σ μ o) (lX i) := by
  obtain ⟨v, σ', μ', d, d', h1, h2, a, b, r⟩ := k_knows h (sx xs (i + 1)) (sx xs (i + 2))
  refine zRi.lift (fun X h => zRx.aload_n 1 rfl rfl dL_law_392 h) ?_
  refine zRi.lift (fun X h => zRx.aloadT 0 rfl rfl dL_law_393 h) ?_
  refine zRi.lift (fun X h => zRx.iload 4 rfl dL_law_394 h) ?_
  refine zRi.lift (fun X h => zRx.iconst ⟨by decide, by decide⟩ dL_law_396 h) ?_
  refine zRi.lift (fun X h => zRx.iadd ⟨by omega, by omega⟩ dL_law_397 h) ?_
  refine zRi.scr (by omega) (by omega) (by omega) dL_law_398 ?_
  refine zRi.lift (fun X h => zRx.aloadT 0 rfl rfl dL_law_399 h) ?_
  refine zRi.lift (fun X h => zRx.iload 4 rfl dL_law_400 h) ?_
  refine zRi.lift (fun X h => zRx.iconst ⟨by decide, by decide⟩ dL_law_402 h) ?_
  refine zRi.lift (fun X h => zRx.iadd ⟨by omega, by omega⟩ dL_law_403 h) ?_
  refine zRi.scr (by omega) (by omega) (by omega) dL_law_404 ?_
  refine zRi.callE (n := 0) (sub := SC) (σc := σ) (τ := σ') (σ' := cmb σ' μ o) (w := .inl v) (M := m_X11_knows) (av := [.inl (sx xs (i + 1)), .inl (sx xs (i + 2))]) cv_L_56 mk_X11_knows (by omega) lsh_0.choose_spec rfl (⟨⟨_, rfl⟩, ⟨⟨_, rfl⟩, trivial⟩⟩) (Nat.le_of_ble_eq_true rfl) dL_law_405 subC (cmb_c σ μ o) ⟨v, rfl⟩ a (cmb_c σ' μ o) (cmb_co σ σ' μ o) ?_
  refine zRi.lift (fun X h => zRx.aload_n 2 rfl rfl dL_law_408 h) ?_
  refine zRi.lift (fun X h => zRx.aloadT 0 rfl rfl dL_law_409 h) ?_
  refine zRi.lift (fun X h => zRx.iload 4 rfl dL_law_410 h) ?_
  refine zRi.lift (fun X h => zRx.iconst ⟨by decide, by decide⟩ dL_law_412 h) ?_
  refine zRi.lift (fun X h => zRx.iadd ⟨by omega, by omega⟩ dL_law_413 h) ?_
  refine zRi.scr (by omega) (by omega) (by omega) dL_law_414 ?_
  refine zRi.lift (fun X h => zRx.aloadT 0 rfl rfl dL_law_415 h) ?_
  refine zRi.lift (fun X h => zRx.iload 4 rfl dL_law_416 h) ?_
  refine zRi.lift (fun X h => zRx.iconst ⟨by decide, by decide⟩ dL_law_418 h) ?_
  refine zRi.lift (fun X h => zRx.iadd ⟨by omega, by omega⟩ dL_law_419 h) ?_
  refine zRi.scr (by omega) (by omega) (by omega) dL_law_420 ?_
  refine zRi.callE (n := 150) (sub := SM) (σc := μ) (τ := μ') (σ' := cmb σ' μ' o) (w := .inl v) (M := m_X12_knows) (av := [.inl (sx xs (i + 1)), .inl (sx xs (i + 2))]) cv_L_59 mk_X12_knows (by omega) lsh_150.choose_spec rfl (⟨⟨_, rfl⟩, ⟨⟨_, rfl⟩, trivial⟩⟩) (Nat.le_of_ble_eq_true rfl) dL_law_421 subM (cmb_m σ' μ o) ⟨v, rfl⟩ b (cmb_m σ' μ' o) (cmb_mo σ' μ μ' o) ?_
  refine zRi.lift (fun X h => zRx.icmp_eq (tgt := 1392) dL_law_424 (by decide) (fun _ => h) (fun x => absurd rfl x)) ?_
  exact zRi.stop ⟨rfl, rfl, rfl, rfl, σ', μ', o, rfl, r⟩
theorem law_book {σ μ : zG} {o : Int → Int} {L : Nat} {xs : Nat → Int32} (h : REL σ μ) {i : Int} (i0 : 0 ≤ i) (i1 : i + 6 ≤ (L : Int)) (hL : L ≤ 3072) : zRi (lwN L xs) none 70 YL LSH 429 (lls i) [] (cmb σ μ o) (lX i) := by
  obtain ⟨v, σ', μ', d, d', h1, h2, a, b, r⟩ := k_book h
  refine zRi.lift (fun X h => zRx.aload_n 1 rfl rfl dL_law_429 h) ?_
  refine zRi.callE (n := 0) (sub := SC) (σc := σ) (τ := σ') (σ' := cmb σ' μ o) (w := .inl v) (M := m_X11_book) (av := []) cv_L_60 mk_X11_book (by omega) lsh_0.choose_spec rfl (trivial) (Nat.le_of_ble_eq_true rfl) dL_law_430 subC (cmb_c σ μ o) ⟨v, rfl⟩ a (cmb_c σ' μ o) (cmb_co σ σ' μ o) ?_
  refine zRi.lift (fun X h => zRx.aload_n 2 rfl rfl dL_law_433 h) ?_
  refine zRi.callE (n := 150) (sub := SM) (σc := μ) (τ := μ') (σ' := cmb σ' μ' o) (w := .inl v) (M := m_X12_book) (av := []) cv_L_63 mk_X12_book (by omega) lsh_150.choose_spec rfl (trivial) (Nat.le_of_ble_eq_true rfl) dL_law_434 subM (cmb_m σ' μ o) ⟨v, rfl⟩ b (cmb_m σ' μ' o) (cmb_mo σ' μ μ' o) ?_
  refine zRi.lift (fun X h => zRx.icmp_eq (tgt := 1392) dL_law_437 (by decide) (fun _ => h) (fun x => absurd rfl x)) ?_
  exact zRi.stop ⟨rfl, rfl, rfl, rfl, σ', μ', o, rfl, r⟩
theorem law_drawn {σ μ : zG} {o : Int → Int} {L : Nat} {xs : Nat → Int32} (h : REL σ μ) {i : Int} (i0 : 0 ≤ i) (i1 : i + 6 ≤ (L : Int)) (hL : L ≤ 3072) : zRi (lwN L xs) none 70 YL LSH 442 (lls i) [] (cmb σ μ o) (lX i) := by
  obtain ⟨v, σ', μ', d, d', h1, h2, a, b, r⟩ := k_drawn h (sx xs (i + 1)) (sx xs (i + 2))
  refine zRi.lift (fun X h => zRx.aload_n 1 rfl rfl dL_law_442 h) ?_
  refine zRi.lift (fun X h => zRx.aloadT 0 rfl rfl dL_law_443 h) ?_
  refine zRi.lift (fun X h => zRx.iload 4 rfl dL_law_444 h) ?_
  refine zRi.lift (fun X h => zRx.iconst ⟨by decide, by decide⟩ dL_law_446 h) ?_
  refine zRi.lift (fun X h => zRx.iadd ⟨by omega, by omega⟩ dL_law_447 h) ?_
  refine zRi.scr (by omega) (by omega) (by omega) dL_law_448 ?_
  refine zRi.lift (fun X h => zRx.aloadT 0 rfl rfl dL_law_449 h) ?_
  refine zRi.lift (fun X h => zRx.iload 4 rfl dL_law_450 h) ?_
  refine zRi.lift (fun X h => zRx.iconst ⟨by decide, by decide⟩ dL_law_452 h) ?_
  refine zRi.lift (fun X h => zRx.iadd ⟨by omega, by omega⟩ dL_law_453 h) ?_
  refine zRi.scr (by omega) (by omega) (by omega) dL_law_454 ?_
  refine zRi.callE (n := 0) (sub := SC) (σc := σ) (τ := σ') (σ' := cmb σ' μ o) (w := .inl v) (M := m_X11_drawn) (av := [.inl (sx xs (i + 1)), .inl (sx xs (i + 2))]) cv_L_64 mk_X11_drawn (by omega) lsh_0.choose_spec rfl (⟨⟨_, rfl⟩, ⟨⟨_, rfl⟩, trivial⟩⟩) (Nat.le_of_ble_eq_true rfl) dL_law_455 subC (cmb_c σ μ o) ⟨v, rfl⟩ a (cmb_c σ' μ o) (cmb_co σ σ' μ o) ?_
  refine zRi.lift (fun X h => zRx.aload_n 2 rfl rfl dL_law_458 h) ?_
  refine zRi.lift (fun X h => zRx.aloadT 0 rfl rfl dL_law_459 h) ?_
  refine zRi.lift (fun X h => zRx.iload 4 rfl dL_law_460 h) ?_
  refine zRi.lift (fun X h => zRx.iconst ⟨by decide, by decide⟩ dL_law_462 h) ?_
  refine zRi.lift (fun X h => zRx.iadd ⟨by omega, by omega⟩ dL_law_463 h) ?_
  refine zRi.scr (by omega) (by omega) (by omega) dL_law_464 ?_
  refine zRi.lift (fun X h => zRx.aloadT 0 rfl rfl dL_law_465 h) ?_
  refine zRi.lift (fun X h => zRx.iload 4 rfl dL_law_466 h) ?_
  refine zRi.lift (fun X h => zRx.iconst ⟨by decide, by decide⟩ dL_law_468 h) ?_
  refine zRi.lift (fun X h => zRx.iadd ⟨by omega, by omega⟩ dL_law_469 h) ?_
  refine zRi.scr (by omega) (by omega) (by omega) dL_law_470 ?_
  refine zRi.callE (n := 150) (sub := SM) (σc := μ) (τ := μ') (σ' := cmb σ' μ' o) (w := .inl v) (M := m_X12_drawn) (av := [.inl (sx xs (i + 1)), .inl (sx xs (i + 2))]) cv_L_67 mk_X12_drawn (by omega) lsh_150.choose_spec rfl (⟨⟨_, rfl⟩, ⟨⟨_, rfl⟩, trivial⟩⟩) (Nat.le_of_ble_eq_true rfl) dL_law_471 subM (cmb_m σ' μ o) ⟨v, rfl⟩ b (cmb_m σ' μ' o) (cmb_mo σ' μ μ' o) ?_
  refine zRi.lift (fun X h => zRx.icmp_eq (tgt := 1392) dL_law_474 (by decide) (fun _ => h) (fun x => absurd rfl x)) ?_
  exact zRi.stop ⟨rfl, rfl, rfl, rfl, σ', μ', o, rfl, r⟩
theorem law_wrong {σ μ : zG} {o : Int → Int} {L : Nat} {xs : Nat → Int32} (h : REL σ μ) {i : Int} (i0 : 0 ≤ i) (i1 : i + 6 ≤ (L : Int)) (hL : L ≤ 3072) : zRi (lwN L xs) none 70 YL LSH 547 (lls i) [] (cmb σ μ o) (lX i) := by
  obtain ⟨v, σ', μ', d, d', h1, h2, a, b, r⟩ := k_wrong h (sx xs (i + 1))
  refine zRi.lift (fun X h => zRx.aload_n 1 rfl rfl dL_law_547 h) ?_
  refine zRi.lift (fun X h => zRx.aloadT 0 rfl rfl dL_law_548 h) ?_
  refine zRi.lift (fun X h => zRx.iload 4 rfl dL_law_549 h) ?_
  refine zRi.lift (fun X h => zRx.iconst ⟨by decide, by decide⟩ dL_law_551 h) ?_
  refine zRi.lift (fun X h => zRx.iadd ⟨by omega, by omega⟩ dL_law_552 h) ?_
  refine zRi.scr (by omega) (by omega) (by omega) dL_law_553 ?_
  refine zRi.callE (n := 0) (sub := SC) (σc := σ) (τ := σ') (σ' := cmb σ' μ o) (w := .inl v) (M := m_X11_wrong) (av := [.inl (sx xs (i + 1))]) cv_L_71 mk_X11_wrong (by omega) lsh_0.choose_spec rfl (⟨⟨_, rfl⟩, trivial⟩) (Nat.le_of_ble_eq_true rfl) dL_law_554 subC (cmb_c σ μ o) ⟨v, rfl⟩ a (cmb_c σ' μ o) (cmb_co σ σ' μ o) ?_
  refine zRi.lift (fun X h => zRx.aload_n 2 rfl rfl dL_law_557 h) ?_
  refine zRi.lift (fun X h => zRx.aloadT 0 rfl rfl dL_law_558 h) ?_
  refine zRi.lift (fun X h => zRx.iload 4 rfl dL_law_559 h) ?_
  refine zRi.lift (fun X h => zRx.iconst ⟨by decide, by decide⟩ dL_law_561 h) ?_
  refine zRi.lift (fun X h => zRx.iadd ⟨by omega, by omega⟩ dL_law_562 h) ?_
  refine zRi.scr (by omega) (by omega) (by omega) dL_law_563 ?_
  refine zRi.callE (n := 150) (sub := SM) (σc := μ) (τ := μ') (σ' := cmb σ' μ' o) (w := .inl v) (M := m_X12_wrong) (av := [.inl (sx xs (i + 1))]) cv_L_75 mk_X12_wrong (by omega) lsh_150.choose_spec rfl (⟨⟨_, rfl⟩, trivial⟩) (Nat.le_of_ble_eq_true rfl) dL_law_564 subM (cmb_m σ' μ o) ⟨v, rfl⟩ b (cmb_m σ' μ' o) (cmb_mo σ' μ μ' o) ?_
  refine zRi.lift (fun X h => zRx.icmp_eq (tgt := 1392) dL_law_567 (by decide) (fun _ => h) (fun x => absurd rfl x)) ?_
  exact zRi.stop ⟨rfl, rfl, rfl, rfl, σ', μ', o, rfl, r⟩
theorem law_debts {σ μ : zG} {o : Int → Int} {L : Nat} {xs : Nat → Int32} (h : REL σ μ) {i : Int} (i0 : 0 ≤ i) (i1 : i + 6 ≤ (L : Int)) (hL : L ≤ 3072) : zRi (lwN L xs) none 70 YL LSH 572 (lls i) [] (cmb σ μ o) (lX i) := by
  obtain ⟨v, σ', μ', d, d', h1, h2, a, b, r⟩ := k_debts h
  refine zRi.lift (fun X h => zRx.aload_n 1 rfl rfl dL_law_572 h) ?_
  refine zRi.callE (n := 0) (sub := SC) (σc := σ) (τ := σ') (σ' := cmb σ' μ o) (w := .inl v) (M := m_X11_debts) (av := []) cv_L_76 mk_X11_debts (by omega) lsh_0.choose_spec rfl (trivial) (Nat.le_of_ble_eq_true rfl) dL_law_573 subC (cmb_c σ μ o) ⟨v, rfl⟩ a (cmb_c σ' μ o) (cmb_co σ σ' μ o) ?_
  refine zRi.lift (fun X h => zRx.aload_n 2 rfl rfl dL_law_576 h) ?_
  refine zRi.callE (n := 150) (sub := SM) (σc := μ) (τ := μ') (σ' := cmb σ' μ' o) (w := .inl v) (M := m_X12_debts) (av := []) cv_L_79 mk_X12_debts (by omega) lsh_150.choose_spec rfl (trivial) (Nat.le_of_ble_eq_true rfl) dL_law_577 subM (cmb_m σ' μ o) ⟨v, rfl⟩ b (cmb_m σ' μ' o) (cmb_mo σ' μ μ' o) ?_
  refine zRi.lift (fun X h => zRx.icmp_eq (tgt := 1392) dL_law_580 (by decide) (fun _ => h) (fun x => absurd rfl x)) ?_
  exact zRi.stop ⟨rfl, rfl, rfl, rfl, σ', μ', o, rfl, r⟩
theorem law_worth {σ μ : zG} {o : Int → Int} {L : Nat} {xs : Nat → Int32} (h : REL σ μ) {i : Int} (i0 : 0 ≤ i) (i1 : i + 6 ≤ (L : Int)) (hL : L ≤ 3072) : zRi (lwN L xs) none 70 YL LSH 653 (lls i) [] (cmb σ μ o) (lX i) := by
  obtain ⟨v, σ', μ', d, d', h1, h2, a, b, r⟩ := k_worth h (sx xs (i + 1)) (sx xs (i + 2))
  refine zRi.lift (fun X h => zRx.aload_n 1 rfl rfl dL_law_653 h) ?_
  refine zRi.lift (fun X h => zRx.aloadT 0 rfl rfl dL_law_654 h) ?_
  refine zRi.lift (fun X h => zRx.iload 4 rfl dL_law_655 h) ?_
  refine zRi.lift (fun X h => zRx.iconst ⟨by decide, by decide⟩ dL_law_657 h) ?_
  refine zRi.lift (fun X h => zRx.iadd ⟨by omega, by omega⟩ dL_law_658 h) ?_
  refine zRi.scr (by omega) (by omega) (by omega) dL_law_659 ?_
  refine zRi.lift (fun X h => zRx.aloadT 0 rfl rfl dL_law_660 h) ?_
  refine zRi.lift (fun X h => zRx.iload 4 rfl dL_law_661 h) ?_
  refine zRi.lift (fun X h => zRx.iconst ⟨by decide, by decide⟩ dL_law_663 h) ?_
  refine zRi.lift (fun X h => zRx.iadd ⟨by omega, by omega⟩ dL_law_664 h) ?_
  refine zRi.scr (by omega) (by omega) (by omega) dL_law_665 ?_
  refine zRi.callE (n := 0) (sub := SC) (σc := σ) (τ := σ') (σ' := cmb σ' μ o) (w := .inl v) (M := m_X11_worth) (av := [.inl (sx xs (i + 1)), .inl (sx xs (i + 2))]) cv_L_83 mk_X11_worth (by omega) lsh_0.choose_spec rfl (⟨⟨_, rfl⟩, ⟨⟨_, rfl⟩, trivial⟩⟩) (Nat.le_of_ble_eq_true rfl) dL_law_666 subC (cmb_c σ μ o) ⟨v, rfl⟩ a (cmb_c σ' μ o) (cmb_co σ σ' μ o) ?_
  refine zRi.lift (fun X h => zRx.aload_n 2 rfl rfl dL_law_669 h) ?_
  refine zRi.lift (fun X h => zRx.aloadT 0 rfl rfl dL_law_670 h) ?_
  refine zRi.lift (fun X h => zRx.iload 4 rfl dL_law_671 h) ?_
  refine zRi.lift (fun X h => zRx.iconst ⟨by decide, by decide⟩ dL_law_673 h) ?_
  refine zRi.lift (fun X h => zRx.iadd ⟨by omega, by omega⟩ dL_law_674 h) ?_
  refine zRi.scr (by omega) (by omega) (by omega) dL_law_675 ?_
  refine zRi.lift (fun X h => zRx.aloadT 0 rfl rfl dL_law_676 h) ?_
  refine zRi.lift (fun X h => zRx.iload 4 rfl dL_law_677 h) ?_
  refine zRi.lift (fun X h => zRx.iconst ⟨by decide, by decide⟩ dL_law_679 h) ?_
  refine zRi.lift (fun X h => zRx.iadd ⟨by omega, by omega⟩ dL_law_680 h) ?_
  refine zRi.scr (by omega) (by omega) (by omega) dL_law_681 ?_
  refine zRi.callE (n := 150) (sub := SM) (σc := μ) (τ := μ') (σ' := cmb σ' μ' o) (w := .inl v) (M := m_X12_worth) (av := [.inl (sx xs (i + 1)), .inl (sx xs (i + 2))]) cv_L_86 mk_X12_worth (by omega) lsh_150.choose_spec rfl (⟨⟨_, rfl⟩, ⟨⟨_, rfl⟩, trivial⟩⟩) (Nat.le_of_ble_eq_true rfl) dL_law_682 subM (cmb_m σ' μ o) ⟨v, rfl⟩ b (cmb_m σ' μ' o) (cmb_mo σ' μ μ' o) ?_
  refine zRi.lift (fun X h => zRx.icmp_eq (tgt := 1392) dL_law_685 (by decide) (fun _ => h) (fun x => absurd rfl x)) ?_
  exact zRi.stop ⟨rfl, rfl, rfl, rfl, σ', μ', o, rfl, r⟩
theorem law_autumn {σ μ : zG} {o : Int → Int} {L : Nat} {xs : Nat → Int32} (h : REL σ μ) {i : Int} (i0 : 0 ≤ i) (i1 : i + 6 ≤ (L : Int)) (hL : L ≤ 3072) : zRi (lwN L xs) none 70 YL LSH 758 (lls i) [] (cmb σ μ o) (lX i) := by
  obtain ⟨v, σ', μ', d, d', h1, h2, a, b, r⟩ := k_autumn h (sx xs (i + 1))
  refine zRi.lift (fun X h => zRx.aload_n 1 rfl rfl dL_law_758 h) ?_
  refine zRi.lift (fun X h => zRx.aloadT 0 rfl rfl dL_law_759 h) ?_
  refine zRi.lift (fun X h => zRx.iload 4 rfl dL_law_760 h) ?_
  refine zRi.lift (fun X h => zRx.iconst ⟨by decide, by decide⟩ dL_law_762 h) ?_
  refine zRi.lift (fun X h => zRx.iadd ⟨by omega, by omega⟩ dL_law_763 h) ?_
  refine zRi.scr (by omega) (by omega) (by omega) dL_law_764 ?_
  refine zRi.callE (n := 0) (sub := SC) (σc := σ) (τ := σ') (σ' := cmb σ' μ o) (w := .inl v) (M := m_X11_autumn) (av := [.inl (sx xs (i + 1))]) cv_L_90 mk_X11_autumn (by omega) lsh_0.choose_spec rfl (⟨⟨_, rfl⟩, trivial⟩) (Nat.le_of_ble_eq_true rfl) dL_law_765 subC (cmb_c σ μ o) ⟨v, rfl⟩ a (cmb_c σ' μ o) (cmb_co σ σ' μ o) ?_
  refine zRi.lift (fun X h => zRx.aload_n 2 rfl rfl dL_law_768 h) ?_
  refine zRi.lift (fun X h => zRx.aloadT 0 rfl rfl dL_law_769 h) ?_
  refine zRi.lift (fun X h => zRx.iload 4 rfl dL_law_770 h) ?_
  refine zRi.lift (fun X h => zRx.iconst ⟨by decide, by decide⟩ dL_law_772 h) ?_
  refine zRi.lift (fun X h => zRx.iadd ⟨by omega, by omega⟩ dL_law_773 h) ?_
  refine zRi.scr (by omega) (by omega) (by omega) dL_law_774 ?_
  refine zRi.callE (n := 150) (sub := SM) (σc := μ) (τ := μ') (σ' := cmb σ' μ' o) (w := .inl v) (M := m_X12_autumn) (av := [.inl (sx xs (i + 1))]) cv_L_93 mk_X12_autumn (by omega) lsh_150.choose_spec rfl (⟨⟨_, rfl⟩, trivial⟩) (Nat.le_of_ble_eq_true rfl) dL_law_775 subM (cmb_m σ' μ o) ⟨v, rfl⟩ b (cmb_m σ' μ' o) (cmb_mo σ' μ μ' o) ?_
  refine zRi.lift (fun X h => zRx.icmp_eq (tgt := 1392) dL_law_778 (by decide) (fun _ => h) (fun x => absurd rfl x)) ?_
  exact zRi.stop ⟨rfl, rfl, rfl, rfl, σ', μ', o, rfl, r⟩
theorem law_feast {σ μ : zG} {o : Int → Int} {L : Nat} {xs : Nat → Int32} (h : REL σ μ) {i : Int} (i0 : 0 ≤ i) (i1 : i + 6 ≤ (L : Int)) (hL : L ≤ 3072) : zRi (lwN L xs) none 70 YL LSH 783 (lls i) [] (cmb σ μ o) (lX i) := by
  obtain ⟨v, σ', μ', d, d', h1, h2, a, b, r⟩ := k_feast h (sx xs (i + 1))
  refine zRi.lift (fun X h => zRx.aload_n 1 rfl rfl dL_law_783 h) ?_
  refine zRi.lift (fun X h => zRx.aloadT 0 rfl rfl dL_law_784 h) ?_
  refine zRi.lift (fun X h => zRx.iload 4 rfl dL_law_785 h) ?_
  refine zRi.lift (fun X h => zRx.iconst ⟨by decide, by decide⟩ dL_law_787 h) ?_
  refine zRi.lift (fun X h => zRx.iadd ⟨by omega, by omega⟩ dL_law_788 h) ?_
  refine zRi.scr (by omega) (by omega) (by omega) dL_law_789 ?_
  refine zRi.callE (n := 0) (sub := SC) (σc := σ) (τ := σ') (σ' := cmb σ' μ o) (w := .inl v) (M := m_X11_feast) (av := [.inl (sx xs (i + 1))]) cv_L_94 mk_X11_feast (by omega) lsh_0.choose_spec rfl (⟨⟨_, rfl⟩, trivial⟩) (Nat.le_of_ble_eq_true rfl) dL_law_790 subC (cmb_c σ μ o) ⟨v, rfl⟩ a (cmb_c σ' μ o) (cmb_co σ σ' μ o) ?_
  refine zRi.lift (fun X h => zRx.aload_n 2 rfl rfl dL_law_793 h) ?_
  refine zRi.lift (fun X h => zRx.aloadT 0 rfl rfl dL_law_794 h) ?_
  refine zRi.lift (fun X h => zRx.iload 4 rfl dL_law_795 h) ?_
  refine zRi.lift (fun X h => zRx.iconst ⟨by decide, by decide⟩ dL_law_797 h) ?_
  refine zRi.lift (fun X h => zRx.iadd ⟨by omega, by omega⟩ dL_law_798 h) ?_
  refine zRi.scr (by omega) (by omega) (by omega) dL_law_799 ?_
  refine zRi.callE (n := 150) (sub := SM) (σc := μ) (τ := μ') (σ' := cmb σ' μ' o) (w := .inl v) (M := m_X12_feast) (av := [.inl (sx xs (i + 1))]) cv_L_97 mk_X12_feast (by omega) lsh_150.choose_spec rfl (⟨⟨_, rfl⟩, trivial⟩) (Nat.le_of_ble_eq_true rfl) dL_law_800 subM (cmb_m σ' μ o) ⟨v, rfl⟩ b (cmb_m σ' μ' o) (cmb_mo σ' μ μ' o) ?_
  refine zRi.lift (fun X h => zRx.icmp_eq (tgt := 1392) dL_law_803 (by decide) (fun _ => h) (fun x => absurd rfl x)) ?_
  exact zRi.stop ⟨rfl, rfl, rfl, rfl, σ', μ', o, rfl, r⟩
theorem law_feastAt {σ μ : zG} {o : Int → Int} {L : Nat} {xs : Nat → Int32} (h : REL σ μ) {i : Int} (i0 : 0 ≤ i) (i1 : i + 6 ≤ (L : Int)) (hL : L ≤ 3072) : zRi (lwN L xs) none 70 YL LSH 808 (lls i) [] (cmb σ μ o) (lX i) := by
  obtain ⟨v, σ', μ', d, d', h1, h2, a, b, r⟩ := k_feastAt h (sx xs (i + 1))
  refine zRi.lift (fun X h => zRx.aload_n 1 rfl rfl dL_law_808 h) ?_
  refine zRi.lift (fun X h => zRx.aloadT 0 rfl rfl dL_law_809 h) ?_
  refine zRi.lift (fun X h => zRx.iload 4 rfl dL_law_810 h) ?_
  refine zRi.lift (fun X h => zRx.iconst ⟨by decide, by decide⟩ dL_law_812 h) ?_
  refine zRi.lift (fun X h => zRx.iadd ⟨by omega, by omega⟩ dL_law_813 h) ?_
  refine zRi.scr (by omega) (by omega) (by omega) dL_law_814 ?_
  refine zRi.callE (n := 0) (sub := SC) (σc := σ) (τ := σ') (σ' := cmb σ' μ o) (w := .inl v) (M := m_X11_feastAt) (av := [.inl (sx xs (i + 1))]) cv_L_98 mk_X11_feastAt (by omega) lsh_0.choose_spec rfl (⟨⟨_, rfl⟩, trivial⟩) (Nat.le_of_ble_eq_true rfl) dL_law_815 subC (cmb_c σ μ o) ⟨v, rfl⟩ a (cmb_c σ' μ o) (cmb_co σ σ' μ o) ?_
  refine zRi.lift (fun X h => zRx.aload_n 2 rfl rfl dL_law_818 h) ?_
  refine zRi.lift (fun X h => zRx.aloadT 0 rfl rfl dL_law_819 h) ?_
  refine zRi.lift (fun X h => zRx.iload 4 rfl dL_law_820 h) ?_
  refine zRi.lift (fun X h => zRx.iconst ⟨by decide, by decide⟩ dL_law_822 h) ?_
  refine zRi.lift (fun X h => zRx.iadd ⟨by omega, by omega⟩ dL_law_823 h) ?_
  refine zRi.scr (by omega) (by omega) (by omega) dL_law_824 ?_
  refine zRi.callE (n := 150) (sub := SM) (σc := μ) (τ := μ') (σ' := cmb σ' μ' o) (w := .inl v) (M := m_X12_feastAt) (av := [.inl (sx xs (i + 1))]) cv_L_101 mk_X12_feastAt (by omega) lsh_150.choose_spec rfl (⟨⟨_, rfl⟩, trivial⟩) (Nat.le_of_ble_eq_true rfl) dL_law_825 subM (cmb_m σ' μ o) ⟨v, rfl⟩ b (cmb_m σ' μ' o) (cmb_mo σ' μ μ' o) ?_
  refine zRi.lift (fun X h => zRx.icmp_eq (tgt := 1392) dL_law_828 (by decide) (fun _ => h) (fun x => absurd rfl x)) ?_
  exact zRi.stop ⟨rfl, rfl, rfl, rfl, σ', μ', o, rfl, r⟩
theorem law_needs {σ μ : zG} {o : Int → Int} {L : Nat} {xs : Nat → Int32} (h : REL σ μ) {i : Int} (i0 : 0 ≤ i) (i1 : i + 6 ≤ (L : Int)) (hL : L ≤ 3072) : zRi (lwN L xs) none 70 YL LSH 833 (lls i) [] (cmb σ μ o) (lX i) := by
  obtain ⟨v, σ', μ', d, d', h1, h2, a, b, r⟩ := k_needs h (sx xs (i + 1)) (sx xs (i + 2))
  refine zRi.lift (fun X h => zRx.aload_n 1 rfl rfl dL_law_833 h) ?_
  refine zRi.lift (fun X h => zRx.aloadT 0 rfl rfl dL_law_834 h) ?_
  refine zRi.lift (fun X h => zRx.iload 4 rfl dL_law_835 h) ?_
  refine zRi.lift (fun X h => zRx.iconst ⟨by decide, by decide⟩ dL_law_837 h) ?_
  refine zRi.lift (fun X h => zRx.iadd ⟨by omega, by omega⟩ dL_law_838 h) ?_
  refine zRi.scr (by omega) (by omega) (by omega) dL_law_839 ?_
  refine zRi.lift (fun X h => zRx.aloadT 0 rfl rfl dL_law_840 h) ?_
  refine zRi.lift (fun X h => zRx.iload 4 rfl dL_law_841 h) ?_
  refine zRi.lift (fun X h => zRx.iconst ⟨by decide, by decide⟩ dL_law_843 h) ?_
  refine zRi.lift (fun X h => zRx.iadd ⟨by omega, by omega⟩ dL_law_844 h) ?_
  refine zRi.scr (by omega) (by omega) (by omega) dL_law_845 ?_
  refine zRi.callE (n := 0) (sub := SC) (σc := σ) (τ := σ') (σ' := cmb σ' μ o) (w := .inl v) (M := m_X11_needs) (av := [.inl (sx xs (i + 1)), .inl (sx xs (i + 2))]) cv_L_102 mk_X11_needs (by omega) lsh_0.choose_spec rfl (⟨⟨_, rfl⟩, ⟨⟨_, rfl⟩, trivial⟩⟩) (Nat.le_of_ble_eq_true rfl) dL_law_846 subC (cmb_c σ μ o) ⟨v, rfl⟩ a (cmb_c σ' μ o) (cmb_co σ σ' μ o) ?_
  refine zRi.lift (fun X h => zRx.aload_n 2 rfl rfl dL_law_849 h) ?_
  refine zRi.lift (fun X h => zRx.aloadT 0 rfl rfl dL_law_850 h) ?_
  refine zRi.lift (fun X h => zRx.iload 4 rfl dL_law_851 h) ?_
  refine zRi.lift (fun X h => zRx.iconst ⟨by decide, by decide⟩ dL_law_853 h) ?_
  refine zRi.lift (fun X h => zRx.iadd ⟨by omega, by omega⟩ dL_law_854 h) ?_
  refine zRi.scr (by omega) (by omega) (by omega) dL_law_855 ?_
  refine zRi.lift (fun X h => zRx.aloadT 0 rfl rfl dL_law_856 h) ?_
  refine zRi.lift (fun X h => zRx.iload 4 rfl dL_law_857 h) ?_
  refine zRi.lift (fun X h => zRx.iconst ⟨by decide, by decide⟩ dL_law_859 h) ?_
  refine zRi.lift (fun X h => zRx.iadd ⟨by omega, by omega⟩ dL_law_860 h) ?_
  refine zRi.scr (by omega) (by omega) (by omega) dL_law_861 ?_
  refine zRi.callE (n := 150) (sub := SM) (σc := μ) (τ := μ') (σ' := cmb σ' μ' o) (w := .inl v) (M := m_X12_needs) (av := [.inl (sx xs (i + 1)), .inl (sx xs (i + 2))]) cv_L_105 mk_X12_needs (by omega) lsh_150.choose_spec rfl (⟨⟨_, rfl⟩, ⟨⟨_, rfl⟩, trivial⟩⟩) (Nat.le_of_ble_eq_true rfl) dL_law_862 subM (cmb_m σ' μ o) ⟨v, rfl⟩ b (cmb_m σ' μ' o) (cmb_mo σ' μ μ' o) ?_
  refine zRi.lift (fun X h => zRx.icmp_eq (tgt := 1392) dL_law_865 (by decide) (fun _ => h) (fun x => absurd rfl x)) ?_
  exact zRi.stop ⟨rfl, rfl, rfl, rfl, σ', μ', o, rfl, r⟩
theorem law_buys {σ μ : zG} {o : Int → Int} {L : Nat} {xs : Nat → Int32} (h : REL σ μ) {i : Int} (i0 : 0 ≤ i) (i1 : i + 6 ≤ (L : Int)) (hL : L ≤ 3072) : zRi (lwN L xs) none 70 YL LSH 870 (lls i) [] (cmb σ μ o) (lX i) := by
  obtain ⟨v, σ', μ', d, d', h1, h2, a, b, r⟩ := k_buys h (sx xs (i + 1)) (sx xs (i + 2))
  refine zRi.lift (fun X h => zRx.aload_n 1 rfl rfl dL_law_870 h) ?_
  refine zRi.lift (fun X h => zRx.aloadT 0 rfl rfl dL_law_871 h) ?_
  refine zRi.lift (fun X h => zRx.iload 4 rfl dL_law_872 h) ?_
  refine zRi.lift (fun X h => zRx.iconst ⟨by decide, by decide⟩ dL_law_874 h) ?_
  refine zRi.lift (fun X h => zRx.iadd ⟨by omega, by omega⟩ dL_law_875 h) ?_
  refine zRi.scr (by omega) (by omega) (by omega) dL_law_876 ?_
  refine zRi.lift (fun X h => zRx.aloadT 0 rfl rfl dL_law_877 h) ?_
  refine zRi.lift (fun X h => zRx.iload 4 rfl dL_law_878 h) ?_
  refine zRi.lift (fun X h => zRx.iconst ⟨by decide, by decide⟩ dL_law_880 h) ?_
  refine zRi.lift (fun X h => zRx.iadd ⟨by omega, by omega⟩ dL_law_881 h) ?_
  refine zRi.scr (by omega) (by omega) (by omega) dL_law_882 ?_
  refine zRi.callE (n := 0) (sub := SC) (σc := σ) (τ := σ') (σ' := cmb σ' μ o) (w := .inl v) (M := m_X11_buys) (av := [.inl (sx xs (i + 1)), .inl (sx xs (i + 2))]) cv_L_106 mk_X11_buys (by omega) lsh_0.choose_spec rfl (⟨⟨_, rfl⟩, ⟨⟨_, rfl⟩, trivial⟩⟩) (Nat.le_of_ble_eq_true rfl) dL_law_883 subC (cmb_c σ μ o) ⟨v, rfl⟩ a (cmb_c σ' μ o) (cmb_co σ σ' μ o) ?_
  refine zRi.lift (fun X h => zRx.aload_n 2 rfl rfl dL_law_886 h) ?_
  refine zRi.lift (fun X h => zRx.aloadT 0 rfl rfl dL_law_887 h) ?_
  refine zRi.lift (fun X h => zRx.iload 4 rfl dL_law_888 h) ?_
  refine zRi.lift (fun X h => zRx.iconst ⟨by decide, by decide⟩ dL_law_890 h) ?_
  refine zRi.lift (fun X h => zRx.iadd ⟨by omega, by omega⟩ dL_law_891 h) ?_
  refine zRi.scr (by omega) (by omega) (by omega) dL_law_892 ?_
  refine zRi.lift (fun X h => zRx.aloadT 0 rfl rfl dL_law_893 h) ?_
  refine zRi.lift (fun X h => zRx.iload 4 rfl dL_law_894 h) ?_
  refine zRi.lift (fun X h => zRx.iconst ⟨by decide, by decide⟩ dL_law_896 h) ?_
  refine zRi.lift (fun X h => zRx.iadd ⟨by omega, by omega⟩ dL_law_897 h) ?_
  refine zRi.scr (by omega) (by omega) (by omega) dL_law_898 ?_
  refine zRi.callE (n := 150) (sub := SM) (σc := μ) (τ := μ') (σ' := cmb σ' μ' o) (w := .inl v) (M := m_X12_buys) (av := [.inl (sx xs (i + 1)), .inl (sx xs (i + 2))]) cv_L_109 mk_X12_buys (by omega) lsh_150.choose_spec rfl (⟨⟨_, rfl⟩, ⟨⟨_, rfl⟩, trivial⟩⟩) (Nat.le_of_ble_eq_true rfl) dL_law_899 subM (cmb_m σ' μ o) ⟨v, rfl⟩ b (cmb_m σ' μ' o) (cmb_mo σ' μ μ' o) ?_
  refine zRi.lift (fun X h => zRx.icmp_eq (tgt := 1392) dL_law_902 (by decide) (fun _ => h) (fun x => absurd rfl x)) ?_
  exact zRi.stop ⟨rfl, rfl, rfl, rfl, σ', μ', o, rfl, r⟩
theorem law_terms {σ μ : zG} {o : Int → Int} {L : Nat} {xs : Nat → Int32} (h : REL σ μ) {i : Int} (i0 : 0 ≤ i) (i1 : i + 6 ≤ (L : Int)) (hL : L ≤ 3072) : zRi (lwN L xs) none 70 YL LSH 907 (lls i) [] (cmb σ μ o) (lX i) := by
  obtain ⟨v, σ', μ', d, d', h1, h2, a, b, r⟩ := k_terms h (sx xs (i + 1))
  refine zRi.lift (fun X h => zRx.aload_n 1 rfl rfl dL_law_907 h) ?_
  refine zRi.lift (fun X h => zRx.aloadT 0 rfl rfl dL_law_908 h) ?_
  refine zRi.lift (fun X h => zRx.iload 4 rfl dL_law_909 h) ?_
  refine zRi.lift (fun X h => zRx.iconst ⟨by decide, by decide⟩ dL_law_911 h) ?_
  refine zRi.lift (fun X h => zRx.iadd ⟨by omega, by omega⟩ dL_law_912 h) ?_
  refine zRi.scr (by omega) (by omega) (by omega) dL_law_913 ?_
  refine zRi.callE (n := 0) (sub := SC) (σc := σ) (τ := σ') (σ' := cmb σ' μ o) (w := .inl v) (M := m_X11_terms) (av := [.inl (sx xs (i + 1))]) cv_L_110 mk_X11_terms (by omega) lsh_0.choose_spec rfl (⟨⟨_, rfl⟩, trivial⟩) (Nat.le_of_ble_eq_true rfl) dL_law_914 subC (cmb_c σ μ o) ⟨v, rfl⟩ a (cmb_c σ' μ o) (cmb_co σ σ' μ o) ?_
  refine zRi.lift (fun X h => zRx.aload_n 2 rfl rfl dL_law_917 h) ?_
  refine zRi.lift (fun X h => zRx.aloadT 0 rfl rfl dL_law_918 h) ?_
  refine zRi.lift (fun X h => zRx.iload 4 rfl dL_law_919 h) ?_
  refine zRi.lift (fun X h => zRx.iconst ⟨by decide, by decide⟩ dL_law_921 h) ?_
  refine zRi.lift (fun X h => zRx.iadd ⟨by omega, by omega⟩ dL_law_922 h) ?_
  refine zRi.scr (by omega) (by omega) (by omega) dL_law_923 ?_
  refine zRi.callE (n := 150) (sub := SM) (σc := μ) (τ := μ') (σ' := cmb σ' μ' o) (w := .inl v) (M := m_X12_terms) (av := [.inl (sx xs (i + 1))]) cv_L_113 mk_X12_terms (by omega) lsh_150.choose_spec rfl (⟨⟨_, rfl⟩, trivial⟩) (Nat.le_of_ble_eq_true rfl) dL_law_924 subM (cmb_m σ' μ o) ⟨v, rfl⟩ b (cmb_m σ' μ' o) (cmb_mo σ' μ μ' o) ?_
  refine zRi.lift (fun X h => zRx.icmp_eq (tgt := 1392) dL_law_927 (by decide) (fun _ => h) (fun x => absurd rfl x)) ?_
  exact zRi.stop ⟨rfl, rfl, rfl, rfl, σ', μ', o, rfl, r⟩
theorem law_source {σ μ : zG} {o : Int → Int} {L : Nat} {xs : Nat → Int32} (h : REL σ μ) {i : Int} (i0 : 0 ≤ i) (i1 : i + 6 ≤ (L : Int)) (hL : L ≤ 3072) : zRi (lwN L xs) none 70 YL LSH 932 (lls i) [] (cmb σ μ o) (lX i) := by
  obtain ⟨v, σ', μ', d, d', h1, h2, a, b, r⟩ := k_source h (sx xs (i + 1)) (sx xs (i + 2))
  refine zRi.lift (fun X h => zRx.aload_n 1 rfl rfl dL_law_932 h) ?_
  refine zRi.lift (fun X h => zRx.aloadT 0 rfl rfl dL_law_933 h) ?_
  refine zRi.lift (fun X h => zRx.iload 4 rfl dL_law_934 h) ?_
  refine zRi.lift (fun X h => zRx.iconst ⟨by decide, by decide⟩ dL_law_936 h) ?_
  refine zRi.lift (fun X h => zRx.iadd ⟨by omega, by omega⟩ dL_law_937 h) ?_
  refine zRi.scr (by omega) (by omega) (by omega) dL_law_938 ?_
  refine zRi.lift (fun X h => zRx.aloadT 0 rfl rfl dL_law_939 h) ?_
  refine zRi.lift (fun X h => zRx.iload 4 rfl dL_law_940 h) ?_
  refine zRi.lift (fun X h => zRx.iconst ⟨by decide, by decide⟩ dL_law_942 h) ?_
  refine zRi.lift (fun X h => zRx.iadd ⟨by omega, by omega⟩ dL_law_943 h) ?_
  refine zRi.scr (by omega) (by omega) (by omega) dL_law_944 ?_
  refine zRi.callE (n := 0) (sub := SC) (σc := σ) (τ := σ') (σ' := cmb σ' μ o) (w := .inl v) (M := m_X11_source) (av := [.inl (sx xs (i + 1)), .inl (sx xs (i + 2))]) cv_L_114 mk_X11_source (by omega) lsh_0.choose_spec rfl (⟨⟨_, rfl⟩, ⟨⟨_, rfl⟩, trivial⟩⟩) (Nat.le_of_ble_eq_true rfl) dL_law_945 subC (cmb_c σ μ o) ⟨v, rfl⟩ a (cmb_c σ' μ o) (cmb_co σ σ' μ o) ?_
  refine zRi.lift (fun X h => zRx.aload_n 2 rfl rfl dL_law_948 h) ?_
  refine zRi.lift (fun X h => zRx.aloadT 0 rfl rfl dL_law_949 h) ?_
  refine zRi.lift (fun X h => zRx.iload 4 rfl dL_law_950 h) ?_
  refine zRi.lift (fun X h => zRx.iconst ⟨by decide, by decide⟩ dL_law_952 h) ?_
  refine zRi.lift (fun X h => zRx.iadd ⟨by omega, by omega⟩ dL_law_953 h) ?_
  refine zRi.scr (by omega) (by omega) (by omega) dL_law_954 ?_
  refine zRi.lift (fun X h => zRx.aloadT 0 rfl rfl dL_law_955 h) ?_
  refine zRi.lift (fun X h => zRx.iload 4 rfl dL_law_956 h) ?_
  refine zRi.lift (fun X h => zRx.iconst ⟨by decide, by decide⟩ dL_law_958 h) ?_
  refine zRi.lift (fun X h => zRx.iadd ⟨by omega, by omega⟩ dL_law_959 h) ?_
  refine zRi.scr (by omega) (by omega) (by omega) dL_law_960 ?_
  refine zRi.callE (n := 150) (sub := SM) (σc := μ) (τ := μ') (σ' := cmb σ' μ' o) (w := .inl v) (M := m_X12_source) (av := [.inl (sx xs (i + 1)), .inl (sx xs (i + 2))]) cv_L_117 mk_X12_source (by omega) lsh_150.choose_spec rfl (⟨⟨_, rfl⟩, ⟨⟨_, rfl⟩, trivial⟩⟩) (Nat.le_of_ble_eq_true rfl) dL_law_961 subM (cmb_m σ' μ o) ⟨v, rfl⟩ b (cmb_m σ' μ' o) (cmb_mo σ' μ μ' o) ?_
  refine zRi.lift (fun X h => zRx.icmp_eq (tgt := 1392) dL_law_964 (by decide) (fun _ => h) (fun x => absurd rfl x)) ?_
  exact zRi.stop ⟨rfl, rfl, rfl, rfl, σ', μ', o, rfl, r⟩
theorem law_led {σ μ : zG} {o : Int → Int} {L : Nat} {xs : Nat → Int32} (h : REL σ μ) {i : Int} (i0 : 0 ≤ i) (i1 : i + 6 ≤ (L : Int)) (hL : L ≤ 3072) : zRi (lwN L xs) none 70 YL LSH 969 (lls i) [] (cmb σ μ o) (lX i) := by
  obtain ⟨v, σ', μ', d, d', h1, h2, a, b, r⟩ := k_led h (sx xs (i + 1)) (sx xs (i + 2))
  refine zRi.lift (fun X h => zRx.aload_n 1 rfl rfl dL_law_969 h) ?_
  refine zRi.lift (fun X h => zRx.aloadT 0 rfl rfl dL_law_970 h) ?_
  refine zRi.lift (fun X h => zRx.iload 4 rfl dL_law_971 h) ?_
  refine zRi.lift (fun X h => zRx.iconst ⟨by decide, by decide⟩ dL_law_973 h) ?_
  refine zRi.lift (fun X h => zRx.iadd ⟨by omega, by omega⟩ dL_law_974 h) ?_
  refine zRi.scr (by omega) (by omega) (by omega) dL_law_975 ?_
  refine zRi.lift (fun X h => zRx.aloadT 0 rfl rfl dL_law_976 h) ?_
  refine zRi.lift (fun X h => zRx.iload 4 rfl dL_law_977 h) ?_
  refine zRi.lift (fun X h => zRx.iconst ⟨by decide, by decide⟩ dL_law_979 h) ?_
  refine zRi.lift (fun X h => zRx.iadd ⟨by omega, by omega⟩ dL_law_980 h) ?_
  refine zRi.scr (by omega) (by omega) (by omega) dL_law_981 ?_
  refine zRi.callE (n := 0) (sub := SC) (σc := σ) (τ := σ') (σ' := cmb σ' μ o) (w := .inl v) (M := m_X11_led) (av := [.inl (sx xs (i + 1)), .inl (sx xs (i + 2))]) cv_L_118 mk_X11_led (by omega) lsh_0.choose_spec rfl (⟨⟨_, rfl⟩, ⟨⟨_, rfl⟩, trivial⟩⟩) (Nat.le_of_ble_eq_true rfl) dL_law_982 subC (cmb_c σ μ o) ⟨v, rfl⟩ a (cmb_c σ' μ o) (cmb_co σ σ' μ o) ?_
  refine zRi.lift (fun X h => zRx.aload_n 2 rfl rfl dL_law_985 h) ?_
  refine zRi.lift (fun X h => zRx.aloadT 0 rfl rfl dL_law_986 h) ?_
  refine zRi.lift (fun X h => zRx.iload 4 rfl dL_law_987 h) ?_
  refine zRi.lift (fun X h => zRx.iconst ⟨by decide, by decide⟩ dL_law_989 h) ?_
  refine zRi.lift (fun X h => zRx.iadd ⟨by omega, by omega⟩ dL_law_990 h) ?_
  refine zRi.scr (by omega) (by omega) (by omega) dL_law_991 ?_
  refine zRi.lift (fun X h => zRx.aloadT 0 rfl rfl dL_law_992 h) ?_
  refine zRi.lift (fun X h => zRx.iload 4 rfl dL_law_993 h) ?_
  refine zRi.lift (fun X h => zRx.iconst ⟨by decide, by decide⟩ dL_law_995 h) ?_
  refine zRi.lift (fun X h => zRx.iadd ⟨by omega, by omega⟩ dL_law_996 h) ?_
  refine zRi.scr (by omega) (by omega) (by omega) dL_law_997 ?_
  refine zRi.callE (n := 150) (sub := SM) (σc := μ) (τ := μ') (σ' := cmb σ' μ' o) (w := .inl v) (M := m_X12_led) (av := [.inl (sx xs (i + 1)), .inl (sx xs (i + 2))]) cv_L_121 mk_X12_led (by omega) lsh_150.choose_spec rfl (⟨⟨_, rfl⟩, ⟨⟨_, rfl⟩, trivial⟩⟩) (Nat.le_of_ble_eq_true rfl) dL_law_998 subM (cmb_m σ' μ o) ⟨v, rfl⟩ b (cmb_m σ' μ' o) (cmb_mo σ' μ μ' o) ?_
  refine zRi.lift (fun X h => zRx.icmp_eq (tgt := 1392) dL_law_1001 (by decide) (fun _ => h) (fun x => absurd rfl x)) ?_
  exact zRi.stop ⟨rfl, rfl, rfl, rfl, σ', μ', o, rfl, r⟩
theorem law_order {σ μ : zG} {o : Int → Int} {L : Nat} {xs : Nat → Int32} (h : REL σ μ) {i : Int} (i0 : 0 ≤ i) (i1 : i + 6 ≤ (L : Int)) (hL : L ≤ 3072) : zRi (lwN L xs) none 70 YL LSH 1006 (lls i) [] (cmb σ μ o) (lX i) := by
  obtain ⟨v, σ', μ', d, d', h1, h2, a, b, r⟩ := k_order h
  refine zRi.lift (fun X h => zRx.aload_n 1 rfl rfl dL_law_1006 h) ?_
  refine zRi.callE (n := 0) (sub := SC) (σc := σ) (τ := σ') (σ' := cmb σ' μ o) (w := .inl v) (M := m_X11_order) (av := []) cv_L_122 mk_X11_order (by omega) lsh_0.choose_spec rfl (trivial) (Nat.le_of_ble_eq_true rfl) dL_law_1007 subC (cmb_c σ μ o) ⟨v, rfl⟩ a (cmb_c σ' μ o) (cmb_co σ σ' μ o) ?_
  refine zRi.lift (fun X h => zRx.aload_n 2 rfl rfl dL_law_1010 h) ?_
  refine zRi.callE (n := 150) (sub := SM) (σc := μ) (τ := μ') (σ' := cmb σ' μ' o) (w := .inl v) (M := m_X12_order) (av := []) cv_L_125 mk_X12_order (by omega) lsh_150.choose_spec rfl (trivial) (Nat.le_of_ble_eq_true rfl) dL_law_1011 subM (cmb_m σ' μ o) ⟨v, rfl⟩ b (cmb_m σ' μ' o) (cmb_mo σ' μ μ' o) ?_
  refine zRi.lift (fun X h => zRx.icmp_eq (tgt := 1392) dL_law_1014 (by decide) (fun _ => h) (fun x => absurd rfl x)) ?_
  exact zRi.stop ⟨rfl, rfl, rfl, rfl, σ', μ', o, rfl, r⟩
theorem law_orderAt {σ μ : zG} {o : Int → Int} {L : Nat} {xs : Nat → Int32} (h : REL σ μ) {i : Int} (i0 : 0 ≤ i) (i1 : i + 6 ≤ (L : Int)) (hL : L ≤ 3072) : zRi (lwN L xs) none 70 YL LSH 1019 (lls i) [] (cmb σ μ o) (lX i) := by
  obtain ⟨v, σ', μ', d, d', h1, h2, a, b, r⟩ := k_orderAt h (sx xs (i + 1))
  refine zRi.lift (fun X h => zRx.aload_n 1 rfl rfl dL_law_1019 h) ?_
  refine zRi.lift (fun X h => zRx.aloadT 0 rfl rfl dL_law_1020 h) ?_
  refine zRi.lift (fun X h => zRx.iload 4 rfl dL_law_1021 h) ?_
  refine zRi.lift (fun X h => zRx.iconst ⟨by decide, by decide⟩ dL_law_1023 h) ?_
  refine zRi.lift (fun X h => zRx.iadd ⟨by omega, by omega⟩ dL_law_1024 h) ?_
  refine zRi.scr (by omega) (by omega) (by omega) dL_law_1025 ?_
  refine zRi.callE (n := 0) (sub := SC) (σc := σ) (τ := σ') (σ' := cmb σ' μ o) (w := .inl v) (M := m_X11_orderAt) (av := [.inl (sx xs (i + 1))]) cv_L_126 mk_X11_orderAt (by omega) lsh_0.choose_spec rfl (⟨⟨_, rfl⟩, trivial⟩) (Nat.le_of_ble_eq_true rfl) dL_law_1026 subC (cmb_c σ μ o) ⟨v, rfl⟩ a (cmb_c σ' μ o) (cmb_co σ σ' μ o) ?_
  refine zRi.lift (fun X h => zRx.aload_n 2 rfl rfl dL_law_1029 h) ?_
  refine zRi.lift (fun X h => zRx.aloadT 0 rfl rfl dL_law_1030 h) ?_
  refine zRi.lift (fun X h => zRx.iload 4 rfl dL_law_1031 h) ?_
  refine zRi.lift (fun X h => zRx.iconst ⟨by decide, by decide⟩ dL_law_1033 h) ?_
  refine zRi.lift (fun X h => zRx.iadd ⟨by omega, by omega⟩ dL_law_1034 h) ?_
  refine zRi.scr (by omega) (by omega) (by omega) dL_law_1035 ?_
  refine zRi.callE (n := 150) (sub := SM) (σc := μ) (τ := μ') (σ' := cmb σ' μ' o) (w := .inl v) (M := m_X12_orderAt) (av := [.inl (sx xs (i + 1))]) cv_L_129 mk_X12_orderAt (by omega) lsh_150.choose_spec rfl (⟨⟨_, rfl⟩, trivial⟩) (Nat.le_of_ble_eq_true rfl) dL_law_1036 subM (cmb_m σ' μ o) ⟨v, rfl⟩ b (cmb_m σ' μ' o) (cmb_mo σ' μ μ' o) ?_
  refine zRi.lift (fun X h => zRx.icmp_eq (tgt := 1392) dL_law_1039 (by decide) (fun _ => h) (fun x => absurd rfl x)) ?_
  exact zRi.stop ⟨rfl, rfl, rfl, rfl, σ', μ', o, rfl, r⟩
theorem law_ripple {σ μ : zG} {o : Int → Int} {L : Nat} {xs : Nat → Int32} (h : REL σ μ) {i : Int} (i0 : 0 ≤ i) (i1 : i + 6 ≤ (L : Int)) (hL : L ≤ 3072) : zRi (lwN L xs) none 70 YL LSH 1044 (lls i) [] (cmb σ μ o) (lX i) := by
  obtain ⟨v, σ', μ', d, d', h1, h2, a, b, r⟩ := k_ripple h (sx xs (i + 1)) (sx xs (i + 2)) (sx xs (i + 3)) (sx xs (i + 4))
  refine zRi.lift (fun X h => zRx.aload_n 1 rfl rfl dL_law_1044 h) ?_
  refine zRi.lift (fun X h => zRx.aloadT 0 rfl rfl dL_law_1045 h) ?_
  refine zRi.lift (fun X h => zRx.iload 4 rfl dL_law_1046 h) ?_
  refine zRi.lift (fun X h => zRx.iconst ⟨by decide, by decide⟩ dL_law_1048 h) ?_
  refine zRi.lift (fun X h => zRx.iadd ⟨by omega, by omega⟩ dL_law_1049 h) ?_
  refine zRi.scr (by omega) (by omega) (by omega) dL_law_1050 ?_
  refine zRi.lift (fun X h => zRx.aloadT 0 rfl rfl dL_law_1051 h) ?_
  refine zRi.lift (fun X h => zRx.iload 4 rfl dL_law_1052 h) ?_
  refine zRi.lift (fun X h => zRx.iconst ⟨by decide, by decide⟩ dL_law_1054 h) ?_
  refine zRi.lift (fun X h => zRx.iadd ⟨by omega, by omega⟩ dL_law_1055 h) ?_
  refine zRi.scr (by omega) (by omega) (by omega) dL_law_1056 ?_
  refine zRi.lift (fun X h => zRx.aloadT 0 rfl rfl dL_law_1057 h) ?_
  refine zRi.lift (fun X h => zRx.iload 4 rfl dL_law_1058 h) ?_
  refine zRi.lift (fun X h => zRx.iconst ⟨by decide, by decide⟩ dL_law_1060 h) ?_
  refine zRi.lift (fun X h => zRx.iadd ⟨by omega, by omega⟩ dL_law_1061 h) ?_
  refine zRi.scr (by omega) (by omega) (by omega) dL_law_1062 ?_
  refine zRi.lift (fun X h => zRx.aloadT 0 rfl rfl dL_law_1063 h) ?_
  refine zRi.lift (fun X h => zRx.iload 4 rfl dL_law_1064 h) ?_
  refine zRi.lift (fun X h => zRx.iconst ⟨by decide, by decide⟩ dL_law_1066 h) ?_
  refine zRi.lift (fun X h => zRx.iadd ⟨by omega, by omega⟩ dL_law_1067 h) ?_
  refine zRi.scr (by omega) (by omega) (by omega) dL_law_1068 ?_
  refine zRi.callE (n := 0) (sub := SC) (σc := σ) (τ := σ') (σ' := cmb σ' μ o) (w := .inl v) (M := m_X11_ripple) (av := [.inl (sx xs (i + 1)), .inl (sx xs (i + 2)), .inl (sx xs (i + 3)), .inl (sx xs (i + 4))]) cv_L_130 mk_X11_ripple (by omega) lsh_0.choose_spec rfl (⟨⟨_, rfl⟩, ⟨⟨_, rfl⟩, ⟨⟨_, rfl⟩, ⟨⟨_, rfl⟩, trivial⟩⟩⟩⟩) (Nat.le_of_ble_eq_true rfl) dL_law_1069 subC (cmb_c σ μ o) ⟨v, rfl⟩ a (cmb_c σ' μ o) (cmb_co σ σ' μ o) ?_
  refine zRi.lift (fun X h => zRx.aload_n 2 rfl rfl dL_law_1072 h) ?_
  refine zRi.lift (fun X h => zRx.aloadT 0 rfl rfl dL_law_1073 h) ?_
  refine zRi.lift (fun X h => zRx.iload 4 rfl dL_law_1074 h) ?_
  refine zRi.lift (fun X h => zRx.iconst ⟨by decide, by decide⟩ dL_law_1076 h) ?_
  refine zRi.lift (fun X h => zRx.iadd ⟨by omega, by omega⟩ dL_law_1077 h) ?_
  refine zRi.scr (by omega) (by omega) (by omega) dL_law_1078 ?_
  refine zRi.lift (fun X h => zRx.aloadT 0 rfl rfl dL_law_1079 h) ?_
  refine zRi.lift (fun X h => zRx.iload 4 rfl dL_law_1080 h) ?_
  refine zRi.lift (fun X h => zRx.iconst ⟨by decide, by decide⟩ dL_law_1082 h) ?_
  refine zRi.lift (fun X h => zRx.iadd ⟨by omega, by omega⟩ dL_law_1083 h) ?_
  refine zRi.scr (by omega) (by omega) (by omega) dL_law_1084 ?_
  refine zRi.lift (fun X h => zRx.aloadT 0 rfl rfl dL_law_1085 h) ?_
  refine zRi.lift (fun X h => zRx.iload 4 rfl dL_law_1086 h) ?_
  refine zRi.lift (fun X h => zRx.iconst ⟨by decide, by decide⟩ dL_law_1088 h) ?_
  refine zRi.lift (fun X h => zRx.iadd ⟨by omega, by omega⟩ dL_law_1089 h) ?_
  refine zRi.scr (by omega) (by omega) (by omega) dL_law_1090 ?_
  refine zRi.lift (fun X h => zRx.aloadT 0 rfl rfl dL_law_1091 h) ?_
  refine zRi.lift (fun X h => zRx.iload 4 rfl dL_law_1092 h) ?_
  refine zRi.lift (fun X h => zRx.iconst ⟨by decide, by decide⟩ dL_law_1094 h) ?_
  refine zRi.lift (fun X h => zRx.iadd ⟨by omega, by omega⟩ dL_law_1095 h) ?_
  refine zRi.scr (by omega) (by omega) (by omega) dL_law_1096 ?_
  refine zRi.callE (n := 150) (sub := SM) (σc := μ) (τ := μ') (σ' := cmb σ' μ' o) (w := .inl v) (M := m_X12_ripple) (av := [.inl (sx xs (i + 1)), .inl (sx xs (i + 2)), .inl (sx xs (i + 3)), .inl (sx xs (i + 4))]) cv_L_134 mk_X12_ripple (by omega) lsh_150.choose_spec rfl (⟨⟨_, rfl⟩, ⟨⟨_, rfl⟩, ⟨⟨_, rfl⟩, ⟨⟨_, rfl⟩, trivial⟩⟩⟩⟩) (Nat.le_of_ble_eq_true rfl) dL_law_1097 subM (cmb_m σ' μ o) ⟨v, rfl⟩ b (cmb_m σ' μ' o) (cmb_mo σ' μ μ' o) ?_
  refine zRi.lift (fun X h => zRx.icmp_eq (tgt := 1392) dL_law_1100 (by decide) (fun _ => h) (fun x => absurd rfl x)) ?_
  exact zRi.stop ⟨rfl, rfl, rfl, rfl, σ', μ', o, rfl, r⟩
theorem law_unsaid {σ μ : zG} {o : Int → Int} {L : Nat} {xs : Nat → Int32} (h : REL σ μ) {i : Int} (i0 : 0 ≤ i) (i1 : i + 6 ≤ (L : Int)) (hL : L ≤ 3072) : zRi (lwN L xs) none 70 YL LSH 1105 (lls i) [] (cmb σ μ o) (lX i) := by
  obtain ⟨v, σ', μ', d, d', h1, h2, a, b, r⟩ := k_unsaid h (sx xs (i + 1))
  refine zRi.lift (fun X h => zRx.aload_n 1 rfl rfl dL_law_1105 h) ?_
  refine zRi.lift (fun X h => zRx.aloadT 0 rfl rfl dL_law_1106 h) ?_
  refine zRi.lift (fun X h => zRx.iload 4 rfl dL_law_1107 h) ?_
  refine zRi.lift (fun X h => zRx.iconst ⟨by decide, by decide⟩ dL_law_1109 h) ?_
  refine zRi.lift (fun X h => zRx.iadd ⟨by omega, by omega⟩ dL_law_1110 h) ?_
  refine zRi.scr (by omega) (by omega) (by omega) dL_law_1111 ?_
  refine zRi.callE (n := 0) (sub := SC) (σc := σ) (τ := σ') (σ' := cmb σ' μ o) (w := .inl v) (M := m_X11_unsaid) (av := [.inl (sx xs (i + 1))]) cv_L_135 mk_X11_unsaid (by omega) lsh_0.choose_spec rfl (⟨⟨_, rfl⟩, trivial⟩) (Nat.le_of_ble_eq_true rfl) dL_law_1112 subC (cmb_c σ μ o) ⟨v, rfl⟩ a (cmb_c σ' μ o) (cmb_co σ σ' μ o) ?_
  refine zRi.lift (fun X h => zRx.aload_n 2 rfl rfl dL_law_1115 h) ?_
  refine zRi.lift (fun X h => zRx.aloadT 0 rfl rfl dL_law_1116 h) ?_
  refine zRi.lift (fun X h => zRx.iload 4 rfl dL_law_1117 h) ?_
  refine zRi.lift (fun X h => zRx.iconst ⟨by decide, by decide⟩ dL_law_1119 h) ?_
  refine zRi.lift (fun X h => zRx.iadd ⟨by omega, by omega⟩ dL_law_1120 h) ?_
  refine zRi.scr (by omega) (by omega) (by omega) dL_law_1121 ?_
  refine zRi.callE (n := 150) (sub := SM) (σc := μ) (τ := μ') (σ' := cmb σ' μ' o) (w := .inl v) (M := m_X12_unsaid) (av := [.inl (sx xs (i + 1))]) cv_L_138 mk_X12_unsaid (by omega) lsh_150.choose_spec rfl (⟨⟨_, rfl⟩, trivial⟩) (Nat.le_of_ble_eq_true rfl) dL_law_1122 subM (cmb_m σ' μ o) ⟨v, rfl⟩ b (cmb_m σ' μ' o) (cmb_mo σ' μ μ' o) ?_
  refine zRi.lift (fun X h => zRx.icmp_eq (tgt := 1392) dL_law_1125 (by decide) (fun _ => h) (fun x => absurd rfl x)) ?_
  exact zRi.stop ⟨rfl, rfl, rfl, rfl, σ', μ', o, rfl, r⟩
theorem law_cord {σ μ : zG} {o : Int → Int} {L : Nat} {xs : Nat → Int32} (h : REL σ μ) {i : Int} (i0 : 0 ≤ i) (i1 : i + 6 ≤ (L : Int)) (hL : L ≤ 3072) : zRi (lwN L xs) none 70 YL LSH 1130 (lls i) [] (cmb σ μ o) (lX i) := by
  obtain ⟨v, σ', μ', d, d', h1, h2, a, b, r⟩ := k_cord h (sx xs (i + 1)) (sx xs (i + 2))
  refine zRi.lift (fun X h => zRx.aload_n 1 rfl rfl dL_law_1130 h) ?_
  refine zRi.lift (fun X h => zRx.aloadT 0 rfl rfl dL_law_1131 h) ?_
  refine zRi.lift (fun X h => zRx.iload 4 rfl dL_law_1132 h) ?_
  refine zRi.lift (fun X h => zRx.iconst ⟨by decide, by decide⟩ dL_law_1134 h) ?_
  refine zRi.lift (fun X h => zRx.iadd ⟨by omega, by omega⟩ dL_law_1135 h) ?_
  refine zRi.scr (by omega) (by omega) (by omega) dL_law_1136 ?_
  refine zRi.lift (fun X h => zRx.aloadT 0 rfl rfl dL_law_1137 h) ?_
  refine zRi.lift (fun X h => zRx.iload 4 rfl dL_law_1138 h) ?_
  refine zRi.lift (fun X h => zRx.iconst ⟨by decide, by decide⟩ dL_law_1140 h) ?_
  refine zRi.lift (fun X h => zRx.iadd ⟨by omega, by omega⟩ dL_law_1141 h) ?_
  refine zRi.scr (by omega) (by omega) (by omega) dL_law_1142 ?_
  refine zRi.callE (n := 0) (sub := SC) (σc := σ) (τ := σ') (σ' := cmb σ' μ o) (w := .inl v) (M := m_X11_cord) (av := [.inl (sx xs (i + 1)), .inl (sx xs (i + 2))]) cv_L_139 mk_X11_cord (by omega) lsh_0.choose_spec rfl (⟨⟨_, rfl⟩, ⟨⟨_, rfl⟩, trivial⟩⟩) (Nat.le_of_ble_eq_true rfl) dL_law_1143 subC (cmb_c σ μ o) ⟨v, rfl⟩ a (cmb_c σ' μ o) (cmb_co σ σ' μ o) ?_
  refine zRi.lift (fun X h => zRx.aload_n 2 rfl rfl dL_law_1146 h) ?_
  refine zRi.lift (fun X h => zRx.aloadT 0 rfl rfl dL_law_1147 h) ?_
  refine zRi.lift (fun X h => zRx.iload 4 rfl dL_law_1148 h) ?_
  refine zRi.lift (fun X h => zRx.iconst ⟨by decide, by decide⟩ dL_law_1150 h) ?_
  refine zRi.lift (fun X h => zRx.iadd ⟨by omega, by omega⟩ dL_law_1151 h) ?_
  refine zRi.scr (by omega) (by omega) (by omega) dL_law_1152 ?_
  refine zRi.lift (fun X h => zRx.aloadT 0 rfl rfl dL_law_1153 h) ?_
  refine zRi.lift (fun X h => zRx.iload 4 rfl dL_law_1154 h) ?_
  refine zRi.lift (fun X h => zRx.iconst ⟨by decide, by decide⟩ dL_law_1156 h) ?_
  refine zRi.lift (fun X h => zRx.iadd ⟨by omega, by omega⟩ dL_law_1157 h) ?_
  refine zRi.scr (by omega) (by omega) (by omega) dL_law_1158 ?_
  refine zRi.callE (n := 150) (sub := SM) (σc := μ) (τ := μ') (σ' := cmb σ' μ' o) (w := .inl v) (M := m_X12_cord) (av := [.inl (sx xs (i + 1)), .inl (sx xs (i + 2))]) cv_L_142 mk_X12_cord (by omega) lsh_150.choose_spec rfl (⟨⟨_, rfl⟩, ⟨⟨_, rfl⟩, trivial⟩⟩) (Nat.le_of_ble_eq_true rfl) dL_law_1159 subM (cmb_m σ' μ o) ⟨v, rfl⟩ b (cmb_m σ' μ' o) (cmb_mo σ' μ μ' o) ?_
  refine zRi.lift (fun X h => zRx.icmp_eq (tgt := 1392) dL_law_1162 (by decide) (fun _ => h) (fun x => absurd rfl x)) ?_
  exact zRi.stop ⟨rfl, rfl, rfl, rfl, σ', μ', o, rfl, r⟩
theorem law_read {σ μ : zG} {o : Int → Int} {L : Nat} {xs : Nat → Int32} (h : REL σ μ) {i : Int} (i0 : 0 ≤ i) (i1 : i + 6 ≤ (L : Int)) (hL : L ≤ 3072) : zRi (lwN L xs) none 70 YL LSH 1167 (lls i) [] (cmb σ μ o) (lX i) := by
  obtain ⟨v, σ', μ', d, d', h1, h2, a, b, r⟩ := k_read h
  refine zRi.lift (fun X h => zRx.aload_n 1 rfl rfl dL_law_1167 h) ?_
  refine zRi.callE (n := 0) (sub := SC) (σc := σ) (τ := σ') (σ' := cmb σ' μ o) (w := .inl v) (M := m_X11_read) (av := []) cv_L_143 mk_X11_read (by omega) lsh_0.choose_spec rfl (trivial) (Nat.le_of_ble_eq_true rfl) dL_law_1168 subC (cmb_c σ μ o) ⟨v, rfl⟩ a (cmb_c σ' μ o) (cmb_co σ σ' μ o) ?_
  refine zRi.lift (fun X h => zRx.aload_n 2 rfl rfl dL_law_1171 h) ?_
  refine zRi.callE (n := 150) (sub := SM) (σc := μ) (τ := μ') (σ' := cmb σ' μ' o) (w := .inl v) (M := m_X12_read) (av := []) cv_L_146 mk_X12_read (by omega) lsh_150.choose_spec rfl (trivial) (Nat.le_of_ble_eq_true rfl) dL_law_1172 subM (cmb_m σ' μ o) ⟨v, rfl⟩ b (cmb_m σ' μ' o) (cmb_mo σ' μ μ' o) ?_
  refine zRi.lift (fun X h => zRx.icmp_eq (tgt := 1392) dL_law_1175 (by decide) (fun _ => h) (fun x => absurd rfl x)) ?_
  exact zRi.stop ⟨rfl, rfl, rfl, rfl, σ', μ', o, rfl, r⟩
theorem law_near {σ μ : zG} {o : Int → Int} {L : Nat} {xs : Nat → Int32} (h : REL σ μ) {i : Int} (i0 : 0 ≤ i) (i1 : i + 6 ≤ (L : Int)) (hL : L ≤ 3072) : zRi (lwN L xs) none 70 YL LSH 1180 (lls i) [] (cmb σ μ o) (lX i) := by
  obtain ⟨v, σ', μ', d, d', h1, h2, a, b, r⟩ := k_near h (sx xs (i + 1))
  refine zRi.lift (fun X h => zRx.aload_n 1 rfl rfl dL_law_1180 h) ?_
  refine zRi.lift (fun X h => zRx.aloadT 0 rfl rfl dL_law_1181 h) ?_
  refine zRi.lift (fun X h => zRx.iload 4 rfl dL_law_1182 h) ?_
  refine zRi.lift (fun X h => zRx.iconst ⟨by decide, by decide⟩ dL_law_1184 h) ?_
  refine zRi.lift (fun X h => zRx.iadd ⟨by omega, by omega⟩ dL_law_1185 h) ?_
  refine zRi.scr (by omega) (by omega) (by omega) dL_law_1186 ?_
  refine zRi.callE (n := 0) (sub := SC) (σc := σ) (τ := σ') (σ' := cmb σ' μ o) (w := .inl v) (M := m_X11_near) (av := [.inl (sx xs (i + 1))]) cv_L_147 mk_X11_near (by omega) lsh_0.choose_spec rfl (⟨⟨_, rfl⟩, trivial⟩) (Nat.le_of_ble_eq_true rfl) dL_law_1187 subC (cmb_c σ μ o) ⟨v, rfl⟩ a (cmb_c σ' μ o) (cmb_co σ σ' μ o) ?_
  refine zRi.lift (fun X h => zRx.aload_n 2 rfl rfl dL_law_1190 h) ?_
  refine zRi.lift (fun X h => zRx.aloadT 0 rfl rfl dL_law_1191 h) ?_
  refine zRi.lift (fun X h => zRx.iload 4 rfl dL_law_1192 h) ?_
  refine zRi.lift (fun X h => zRx.iconst ⟨by decide, by decide⟩ dL_law_1194 h) ?_
  refine zRi.lift (fun X h => zRx.iadd ⟨by omega, by omega⟩ dL_law_1195 h) ?_
  refine zRi.scr (by omega) (by omega) (by omega) dL_law_1196 ?_
  refine zRi.callE (n := 150) (sub := SM) (σc := μ) (τ := μ') (σ' := cmb σ' μ' o) (w := .inl v) (M := m_X12_near) (av := [.inl (sx xs (i + 1))]) cv_L_150 mk_X12_near (by omega) lsh_150.choose_spec rfl (⟨⟨_, rfl⟩, trivial⟩) (Nat.le_of_ble_eq_true rfl) dL_law_1197 subM (cmb_m σ' μ o) ⟨v, rfl⟩ b (cmb_m σ' μ' o) (cmb_mo σ' μ μ' o) ?_
  refine zRi.lift (fun X h => zRx.icmp_eq (tgt := 1392) dL_law_1200 (by decide) (fun _ => h) (fun x => absurd rfl x)) ?_
  exact zRi.stop ⟨rfl, rfl, rfl, rfl, σ', μ', o, rfl, r⟩
theorem law_measured {σ μ : zG} {o : Int → Int} {L : Nat} {xs : Nat → Int32} (h : REL σ μ) {i : Int} (i0 : 0 ≤ i) (i1 : i + 6 ≤ (L : Int)) (hL : L ≤ 3072) : zRi (lwN L xs) none 70 YL LSH 1205 (lls i) [] (cmb σ μ o) (lX i) := by
  obtain ⟨v, σ', μ', d, d', h1, h2, a, b, r⟩ := k_measured h (sx xs (i + 1)) (sx xs (i + 2))
  refine zRi.lift (fun X h => zRx.aload_n 1 rfl rfl dL_law_1205 h) ?_
  refine zRi.lift (fun X h => zRx.aloadT 0 rfl rfl dL_law_1206 h) ?_
  refine zRi.lift (fun X h => zRx.iload 4 rfl dL_law_1207 h) ?_
  refine zRi.lift (fun X h => zRx.iconst ⟨by decide, by decide⟩ dL_law_1209 h) ?_
  refine zRi.lift (fun X h => zRx.iadd ⟨by omega, by omega⟩ dL_law_1210 h) ?_
  refine zRi.scr (by omega) (by omega) (by omega) dL_law_1211 ?_
  refine zRi.lift (fun X h => zRx.aloadT 0 rfl rfl dL_law_1212 h) ?_
  refine zRi.lift (fun X h => zRx.iload 4 rfl dL_law_1213 h) ?_
  refine zRi.lift (fun X h => zRx.iconst ⟨by decide, by decide⟩ dL_law_1215 h) ?_
  refine zRi.lift (fun X h => zRx.iadd ⟨by omega, by omega⟩ dL_law_1216 h) ?_
  refine zRi.scr (by omega) (by omega) (by omega) dL_law_1217 ?_
  refine zRi.callE (n := 0) (sub := SC) (σc := σ) (τ := σ') (σ' := cmb σ' μ o) (w := .inl v) (M := m_X11_measured) (av := [.inl (sx xs (i + 1)), .inl (sx xs (i + 2))]) cv_L_151 mk_X11_measured (by omega) lsh_0.choose_spec rfl (⟨⟨_, rfl⟩, ⟨⟨_, rfl⟩, trivial⟩⟩) (Nat.le_of_ble_eq_true rfl) dL_law_1218 subC (cmb_c σ μ o) ⟨v, rfl⟩ a (cmb_c σ' μ o) (cmb_co σ σ' μ o) ?_
  refine zRi.lift (fun X h => zRx.aload_n 2 rfl rfl dL_law_1221 h) ?_
  refine zRi.lift (fun X h => zRx.aloadT 0 rfl rfl dL_law_1222 h) ?_
  refine zRi.lift (fun X h => zRx.iload 4 rfl dL_law_1223 h) ?_
  refine zRi.lift (fun X h => zRx.iconst ⟨by decide, by decide⟩ dL_law_1225 h) ?_
  refine zRi.lift (fun X h => zRx.iadd ⟨by omega, by omega⟩ dL_law_1226 h) ?_
  refine zRi.scr (by omega) (by omega) (by omega) dL_law_1227 ?_
  refine zRi.lift (fun X h => zRx.aloadT 0 rfl rfl dL_law_1228 h) ?_
  refine zRi.lift (fun X h => zRx.iload 4 rfl dL_law_1229 h) ?_
  refine zRi.lift (fun X h => zRx.iconst ⟨by decide, by decide⟩ dL_law_1231 h) ?_
  refine zRi.lift (fun X h => zRx.iadd ⟨by omega, by omega⟩ dL_law_1232 h) ?_
  refine zRi.scr (by omega) (by omega) (by omega) dL_law_1233 ?_
  refine zRi.callE (n := 150) (sub := SM) (σc := μ) (τ := μ') (σ' := cmb σ' μ' o) (w := .inl v) (M := m_X12_measured) (av := [.inl (sx xs (i + 1)), .inl (sx xs (i + 2))]) cv_L_154 mk_X12_measured (by omega) lsh_150.choose_spec rfl (⟨⟨_, rfl⟩, ⟨⟨_, rfl⟩, trivial⟩⟩) (Nat.le_of_ble_eq_true rfl) dL_law_1234 subM (cmb_m σ' μ o) ⟨v, rfl⟩ b (cmb_m σ' μ' o) (cmb_mo σ' μ μ' o) ?_
  refine zRi.lift (fun X h => zRx.icmp_eq (tgt := 1392) dL_law_1237 (by decide) (fun _ => h) (fun x => absurd rfl x)) ?_
  exact zRi.stop ⟨rfl, rfl, rfl, rfl, σ', μ', o, rfl, r⟩
theorem law_slips {σ μ : zG} {o : Int → Int} {L : Nat} {xs : Nat → Int32} (h : REL σ μ) {i : Int} (i0 : 0 ≤ i) (i1 : i + 6 ≤ (L : Int)) (hL : L ≤ 3072) : zRi (lwN L xs) none 70 YL LSH 1242 (lls i) [] (cmb σ μ o) (lX i) := by
  obtain ⟨v, σ', μ', d, d', h1, h2, a, b, r⟩ := k_slips h (sx xs (i + 1)) (sx xs (i + 2)) (sx xs (i + 3))
  refine zRi.lift (fun X h => zRx.aload_n 1 rfl rfl dL_law_1242 h) ?_
  refine zRi.lift (fun X h => zRx.aloadT 0 rfl rfl dL_law_1243 h) ?_
  refine zRi.lift (fun X h => zRx.iload 4 rfl dL_law_1244 h) ?_
  refine zRi.lift (fun X h => zRx.iconst ⟨by decide, by decide⟩ dL_law_1246 h) ?_
  refine zRi.lift (fun X h => zRx.iadd ⟨by omega, by omega⟩ dL_law_1247 h) ?_
  refine zRi.scr (by omega) (by omega) (by omega) dL_law_1248 ?_
  refine zRi.lift (fun X h => zRx.aloadT 0 rfl rfl dL_law_1249 h) ?_
  refine zRi.lift (fun X h => zRx.iload 4 rfl dL_law_1250 h) ?_
  refine zRi.lift (fun X h => zRx.iconst ⟨by decide, by decide⟩ dL_law_1252 h) ?_
  refine zRi.lift (fun X h => zRx.iadd ⟨by omega, by omega⟩ dL_law_1253 h) ?_
  refine zRi.scr (by omega) (by omega) (by omega) dL_law_1254 ?_
  refine zRi.lift (fun X h => zRx.aloadT 0 rfl rfl dL_law_1255 h) ?_
  refine zRi.lift (fun X h => zRx.iload 4 rfl dL_law_1256 h) ?_
  refine zRi.lift (fun X h => zRx.iconst ⟨by decide, by decide⟩ dL_law_1258 h) ?_
  refine zRi.lift (fun X h => zRx.iadd ⟨by omega, by omega⟩ dL_law_1259 h) ?_
  refine zRi.scr (by omega) (by omega) (by omega) dL_law_1260 ?_
  refine zRi.callE (n := 0) (sub := SC) (σc := σ) (τ := σ') (σ' := cmb σ' μ o) (w := .inl v) (M := m_X11_slips) (av := [.inl (sx xs (i + 1)), .inl (sx xs (i + 2)), .inl (sx xs (i + 3))]) cv_L_155 mk_X11_slips (by omega) lsh_0.choose_spec rfl (⟨⟨_, rfl⟩, ⟨⟨_, rfl⟩, ⟨⟨_, rfl⟩, trivial⟩⟩⟩) (Nat.le_of_ble_eq_true rfl) dL_law_1261 subC (cmb_c σ μ o) ⟨v, rfl⟩ a (cmb_c σ' μ o) (cmb_co σ σ' μ o) ?_
  refine zRi.lift (fun X h => zRx.aload_n 2 rfl rfl dL_law_1264 h) ?_
  refine zRi.lift (fun X h => zRx.aloadT 0 rfl rfl dL_law_1265 h) ?_
  refine zRi.lift (fun X h => zRx.iload 4 rfl dL_law_1266 h) ?_
  refine zRi.lift (fun X h => zRx.iconst ⟨by decide, by decide⟩ dL_law_1268 h) ?_
  refine zRi.lift (fun X h => zRx.iadd ⟨by omega, by omega⟩ dL_law_1269 h) ?_
  refine zRi.scr (by omega) (by omega) (by omega) dL_law_1270 ?_
  refine zRi.lift (fun X h => zRx.aloadT 0 rfl rfl dL_law_1271 h) ?_
  refine zRi.lift (fun X h => zRx.iload 4 rfl dL_law_1272 h) ?_
  refine zRi.lift (fun X h => zRx.iconst ⟨by decide, by decide⟩ dL_law_1274 h) ?_
  refine zRi.lift (fun X h => zRx.iadd ⟨by omega, by omega⟩ dL_law_1275 h) ?_
  refine zRi.scr (by omega) (by omega) (by omega) dL_law_1276 ?_
  refine zRi.lift (fun X h => zRx.aloadT 0 rfl rfl dL_law_1277 h) ?_
  refine zRi.lift (fun X h => zRx.iload 4 rfl dL_law_1278 h) ?_
  refine zRi.lift (fun X h => zRx.iconst ⟨by decide, by decide⟩ dL_law_1280 h) ?_
  refine zRi.lift (fun X h => zRx.iadd ⟨by omega, by omega⟩ dL_law_1281 h) ?_
  refine zRi.scr (by omega) (by omega) (by omega) dL_law_1282 ?_
  refine zRi.callE (n := 150) (sub := SM) (σc := μ) (τ := μ') (σ' := cmb σ' μ' o) (w := .inl v) (M := m_X12_slips) (av := [.inl (sx xs (i + 1)), .inl (sx xs (i + 2)), .inl (sx xs (i + 3))]) cv_L_159 mk_X12_slips (by omega) lsh_150.choose_spec rfl (⟨⟨_, rfl⟩, ⟨⟨_, rfl⟩, ⟨⟨_, rfl⟩, trivial⟩⟩⟩) (Nat.le_of_ble_eq_true rfl) dL_law_1283 subM (cmb_m σ' μ o) ⟨v, rfl⟩ b (cmb_m σ' μ' o) (cmb_mo σ' μ μ' o) ?_
  refine zRi.lift (fun X h => zRx.icmp_eq (tgt := 1392) dL_law_1286 (by decide) (fun _ => h) (fun x => absurd rfl x)) ?_
  exact zRi.stop ⟨rfl, rfl, rfl, rfl, σ', μ', o, rfl, r⟩
theorem law_sentence {σ μ : zG} {o : Int → Int} {L : Nat} {xs : Nat → Int32} (h : REL σ μ) {i : Int} (i0 : 0 ≤ i) (i1 : i + 6 ≤ (L : Int)) (hL : L ≤ 3072) : zRi (lwN L xs) none 70 YL LSH 1291 (lls i) [] (cmb σ μ o) (lX i) := by
  obtain ⟨v, σ', μ', d, d', h1, h2, a, b, r⟩ := k_sentence h
  refine zRi.lift (fun X h => zRx.aload_n 1 rfl rfl dL_law_1291 h) ?_
  refine zRi.callE (n := 0) (sub := SC) (σc := σ) (τ := σ') (σ' := cmb σ' μ o) (w := .inl v) (M := m_X11_sentence) (av := []) cv_L_160 mk_X11_sentence (by omega) lsh_0.choose_spec rfl (trivial) (Nat.le_of_ble_eq_true rfl) dL_law_1292 subC (cmb_c σ μ o) ⟨v, rfl⟩ a (cmb_c σ' μ o) (cmb_co σ σ' μ o) ?_
  refine zRi.lift (fun X h => zRx.aload_n 2 rfl rfl dL_law_1295 h) ?_
  refine zRi.callE (n := 150) (sub := SM) (σc := μ) (τ := μ') (σ' := cmb σ' μ' o) (w := .inl v) (M := m_X12_sentence) (av := []) cv_L_163 mk_X12_sentence (by omega) lsh_150.choose_spec rfl (trivial) (Nat.le_of_ble_eq_true rfl) dL_law_1296 subM (cmb_m σ' μ o) ⟨v, rfl⟩ b (cmb_m σ' μ' o) (cmb_mo σ' μ μ' o) ?_
  refine zRi.lift (fun X h => zRx.icmp_eq (tgt := 1392) dL_law_1299 (by decide) (fun _ => h) (fun x => absurd rfl x)) ?_
  exact zRi.stop ⟨rfl, rfl, rfl, rfl, σ', μ', o, rfl, r⟩
theorem law_said {σ μ : zG} {o : Int → Int} {L : Nat} {xs : Nat → Int32} (h : REL σ μ) {i : Int} (i0 : 0 ≤ i) (i1 : i + 6 ≤ (L : Int)) (hL : L ≤ 3072) : zRi (lwN L xs) none 70 YL LSH 1304 (lls i) [] (cmb σ μ o) (lX i) := by
  obtain ⟨v, σ', μ', d, d', h1, h2, a, b, r⟩ := k_said h
  refine zRi.lift (fun X h => zRx.aload_n 1 rfl rfl dL_law_1304 h) ?_
  refine zRi.callE (n := 0) (sub := SC) (σc := σ) (τ := σ') (σ' := cmb σ' μ o) (w := .inl v) (M := m_X11_said) (av := []) cv_L_164 mk_X11_said (by omega) lsh_0.choose_spec rfl (trivial) (Nat.le_of_ble_eq_true rfl) dL_law_1305 subC (cmb_c σ μ o) ⟨v, rfl⟩ a (cmb_c σ' μ o) (cmb_co σ σ' μ o) ?_
  refine zRi.lift (fun X h => zRx.aload_n 2 rfl rfl dL_law_1308 h) ?_
  refine zRi.callE (n := 150) (sub := SM) (σc := μ) (τ := μ') (σ' := cmb σ' μ' o) (w := .inl v) (M := m_X12_said) (av := []) cv_L_167 mk_X12_said (by omega) lsh_150.choose_spec rfl (trivial) (Nat.le_of_ble_eq_true rfl) dL_law_1309 subM (cmb_m σ' μ o) ⟨v, rfl⟩ b (cmb_m σ' μ' o) (cmb_mo σ' μ μ' o) ?_
  refine zRi.lift (fun X h => zRx.icmp_eq (tgt := 1392) dL_law_1312 (by decide) (fun _ => h) (fun x => absurd rfl x)) ?_
  exact zRi.stop ⟨rfl, rfl, rfl, rfl, σ', μ', o, rfl, r⟩
theorem law_image {σ μ : zG} {o : Int → Int} {L : Nat} {xs : Nat → Int32} (h : REL σ μ) {i : Int} (i0 : 0 ≤ i) (i1 : i + 6 ≤ (L : Int)) (hL : L ≤ 3072) : zRi (lwN L xs) none 70 YL LSH 1317 (lls i) [] (cmb σ μ o) (lX i) := by
  obtain ⟨v, σ', μ', d, d', h1, h2, a, b, r⟩ := k_image h (sx xs (i + 1))
  refine zRi.lift (fun X h => zRx.aload_n 1 rfl rfl dL_law_1317 h) ?_
  refine zRi.lift (fun X h => zRx.aloadT 0 rfl rfl dL_law_1318 h) ?_
  refine zRi.lift (fun X h => zRx.iload 4 rfl dL_law_1319 h) ?_
  refine zRi.lift (fun X h => zRx.iconst ⟨by decide, by decide⟩ dL_law_1321 h) ?_
  refine zRi.lift (fun X h => zRx.iadd ⟨by omega, by omega⟩ dL_law_1322 h) ?_
  refine zRi.scr (by omega) (by omega) (by omega) dL_law_1323 ?_
  refine zRi.callE (n := 0) (sub := SC) (σc := σ) (τ := σ') (σ' := cmb σ' μ o) (w := .inl v) (M := m_X11_image) (av := [.inl (sx xs (i + 1))]) cv_L_168 mk_X11_image (by omega) lsh_0.choose_spec rfl (⟨⟨_, rfl⟩, trivial⟩) (Nat.le_of_ble_eq_true rfl) dL_law_1324 subC (cmb_c σ μ o) ⟨v, rfl⟩ a (cmb_c σ' μ o) (cmb_co σ σ' μ o) ?_
  refine zRi.lift (fun X h => zRx.aload_n 2 rfl rfl dL_law_1327 h) ?_
  refine zRi.lift (fun X h => zRx.aloadT 0 rfl rfl dL_law_1328 h) ?_
  refine zRi.lift (fun X h => zRx.iload 4 rfl dL_law_1329 h) ?_
  refine zRi.lift (fun X h => zRx.iconst ⟨by decide, by decide⟩ dL_law_1331 h) ?_
  refine zRi.lift (fun X h => zRx.iadd ⟨by omega, by omega⟩ dL_law_1332 h) ?_
  refine zRi.scr (by omega) (by omega) (by omega) dL_law_1333 ?_
  refine zRi.callE (n := 150) (sub := SM) (σc := μ) (τ := μ') (σ' := cmb σ' μ' o) (w := .inl v) (M := m_X12_image) (av := [.inl (sx xs (i + 1))]) cv_L_171 mk_X12_image (by omega) lsh_150.choose_spec rfl (⟨⟨_, rfl⟩, trivial⟩) (Nat.le_of_ble_eq_true rfl) dL_law_1334 subM (cmb_m σ' μ o) ⟨v, rfl⟩ b (cmb_m σ' μ' o) (cmb_mo σ' μ μ' o) ?_
  refine zRi.lift (fun X h => zRx.icmp_eq (tgt := 1392) dL_law_1337 (by decide) (fun _ => h) (fun x => absurd rfl x)) ?_
  exact zRi.stop ⟨rfl, rfl, rfl, rfl, σ', μ', o, rfl, r⟩
theorem law_restore {σ μ : zG} {o : Int → Int} {L : Nat} {xs : Nat → Int32} (h : REL σ μ) {i : Int} (i0 : 0 ≤ i) (i1 : i + 6 ≤ (L : Int)) (hL : L ≤ 3072) : zRi (lwN L xs) none 70 YL LSH 1342 (lls i) [] (cmb σ μ o) (lX i) := by
  obtain ⟨v, σ', μ', d, d', h1, h2, a, b, r⟩ := k_restore h (sx xs (i + 1))
  refine zRi.lift (fun X h => zRx.aload_n 1 rfl rfl dL_law_1342 h) ?_
  refine zRi.lift (fun X h => zRx.aloadT 0 rfl rfl dL_law_1343 h) ?_
  refine zRi.lift (fun X h => zRx.iload 4 rfl dL_law_1344 h) ?_
  refine zRi.lift (fun X h => zRx.iconst ⟨by decide, by decide⟩ dL_law_1346 h) ?_
  refine zRi.lift (fun X h => zRx.iadd ⟨by omega, by omega⟩ dL_law_1347 h) ?_
  refine zRi.scr (by omega) (by omega) (by omega) dL_law_1348 ?_
  refine zRi.callE (n := 0) (sub := SC) (σc := σ) (τ := σ') (σ' := cmb σ' μ o) (w := .inl v) (M := m_X11_restore) (av := [.inl (sx xs (i + 1))]) cv_L_172 mk_X11_restore (by omega) lsh_0.choose_spec rfl (⟨⟨_, rfl⟩, trivial⟩) (Nat.le_of_ble_eq_true rfl) dL_law_1349 subC (cmb_c σ μ o) ⟨v, rfl⟩ a (cmb_c σ' μ o) (cmb_co σ σ' μ o) ?_
  refine zRi.lift (fun X h => zRx.aload_n 2 rfl rfl dL_law_1352 h) ?_
  refine zRi.lift (fun X h => zRx.aloadT 0 rfl rfl dL_law_1353 h) ?_
  refine zRi.lift (fun X h => zRx.iload 4 rfl dL_law_1354 h) ?_
  refine zRi.lift (fun X h => zRx.iconst ⟨by decide, by decide⟩ dL_law_1356 h) ?_
  refine zRi.lift (fun X h => zRx.iadd ⟨by omega, by omega⟩ dL_law_1357 h) ?_
  refine zRi.scr (by omega) (by omega) (by omega) dL_law_1358 ?_
  refine zRi.callE (n := 150) (sub := SM) (σc := μ) (τ := μ') (σ' := cmb σ' μ' o) (w := .inl v) (M := m_X12_restore) (av := [.inl (sx xs (i + 1))]) cv_L_175 mk_X12_restore (by omega) lsh_150.choose_spec rfl (⟨⟨_, rfl⟩, trivial⟩) (Nat.le_of_ble_eq_true rfl) dL_law_1359 subM (cmb_m σ' μ o) ⟨v, rfl⟩ b (cmb_m σ' μ' o) (cmb_mo σ' μ μ' o) ?_
  refine zRi.lift (fun X h => zRx.icmp_eq (tgt := 1392) dL_law_1362 (by decide) (fun _ => h) (fun x => absurd rfl x)) ?_
  exact zRi.stop ⟨rfl, rfl, rfl, rfl, σ', μ', o, rfl, r⟩
theorem law_count {σ μ : zG} {o : Int → Int} {L : Nat} {xs : Nat → Int32} (h : REL σ μ) {i : Int} (i0 : 0 ≤ i) (i1 : i + 6 ≤ (L : Int)) (hL : L ≤ 3072) : zRi (lwN L xs) none 70 YL LSH 1367 (lls i) [] (cmb σ μ o) (lX i) := by
  obtain ⟨v, σ', μ', d, d', h1, h2, a, b, r⟩ := k_count h (sx xs (i + 1))
  refine zRi.lift (fun X h => zRx.aload_n 1 rfl rfl dL_law_1367 h) ?_
  refine zRi.lift (fun X h => zRx.aloadT 0 rfl rfl dL_law_1368 h) ?_
  refine zRi.lift (fun X h => zRx.iload 4 rfl dL_law_1369 h) ?_
  refine zRi.lift (fun X h => zRx.iconst ⟨by decide, by decide⟩ dL_law_1371 h) ?_
  refine zRi.lift (fun X h => zRx.iadd ⟨by omega, by omega⟩ dL_law_1372 h) ?_
  refine zRi.scr (by omega) (by omega) (by omega) dL_law_1373 ?_
  refine zRi.callE (n := 0) (sub := SC) (σc := σ) (τ := σ') (σ' := cmb σ' μ o) (w := .inl v) (M := m_X11_count) (av := [.inl (sx xs (i + 1))]) cv_L_176 mk_X11_count (by omega) lsh_0.choose_spec rfl (⟨⟨_, rfl⟩, trivial⟩) (Nat.le_of_ble_eq_true rfl) dL_law_1374 subC (cmb_c σ μ o) ⟨v, rfl⟩ a (cmb_c σ' μ o) (cmb_co σ σ' μ o) ?_
  refine zRi.lift (fun X h => zRx.aload_n 2 rfl rfl dL_law_1377 h) ?_
  refine zRi.lift (fun X h => zRx.aloadT 0 rfl rfl dL_law_1378 h) ?_
  refine zRi.lift (fun X h => zRx.iload 4 rfl dL_law_1379 h) ?_
  refine zRi.lift (fun X h => zRx.iconst ⟨by decide, by decide⟩ dL_law_1381 h) ?_
  refine zRi.lift (fun X h => zRx.iadd ⟨by omega, by omega⟩ dL_law_1382 h) ?_
  refine zRi.scr (by omega) (by omega) (by omega) dL_law_1383 ?_
  refine zRi.callE (n := 150) (sub := SM) (σc := μ) (τ := μ') (σ' := cmb σ' μ' o) (w := .inl v) (M := m_X12_count) (av := [.inl (sx xs (i + 1))]) cv_L_179 mk_X12_count (by omega) lsh_150.choose_spec rfl (⟨⟨_, rfl⟩, trivial⟩) (Nat.le_of_ble_eq_true rfl) dL_law_1384 subM (cmb_m σ' μ o) ⟨v, rfl⟩ b (cmb_m σ' μ' o) (cmb_mo σ' μ μ' o) ?_
  refine zRi.lift (fun X h => zRx.icmp_eq (tgt := 1392) dL_law_1387 (by decide) (fun _ => h) (fun x => absurd rfl x)) ?_
  exact zRi.stop ⟨rfl, rfl, rfl, rfl, σ', μ', o, rfl, r⟩
