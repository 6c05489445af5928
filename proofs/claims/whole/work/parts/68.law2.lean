/-! the law's cases -/
def I2 (Y : LY) (w : Wd) (σ : Mem) : Heap → List Loc → Prop := fun H locs => Hp w σ H ∧ va_S (fr9 Y.2.2.2.1) Y.2.2.2.1.heap H locs
def LW (Y : LY) (w : Wd) : Prop := va_K w.2.1 vwCl (wT w) Y.2.2.2.1 ∧ Sk w Y.2.2.2.1 Y.2.2.2.1.heap ∧ Wi w ∧ ∀ q, wA w q → fr9 Y.2.2.2.1 q
def LL (Y : LY) (w : Wd) (a : Nat) : List (Nat × Value) := [(0, .ref Y.2.2.2.2.2.2.2.2), (1, .ref (w.1 12)), (2, .ref (w.1 0)), (3, .int (nI a))]
section LJC
variable {Y : LY} {Lx : Nat} {xs : Nat → Int32} {w : Wd} {σ : Mem} {pc pc' tgt k N : Nat} {L L' : List (Nat × Value)} {st : List Value}
theorem lj_cv {q : Mq} {d' idx np i ci : Nat} {As rest : List Value} {v : Option Value} {P : Mem → Prop} {fs : List (Nat ⊕ Nat)} (h : LF Y Lx xs) (hw : LW Y w) (hM : MC Y.2.1 w q d' (.ref (w.1 i) :: As) σ v P) (hq : LmV q np) (hlk : Cond.methodLink RL idx q.1 ∈ lw_tbl) (hd : d' < 12) (hmax : q.2.2.1 < 18)
    (hs : Sc i (.inl (ci, fs))) (hcl : (vwCl[ci]?).map (fun z => z.1) = some q.1.cls) (hn : As.length = np) (hst : st = As.reverse ++ .ref (w.1 i) :: rest) (hrest : Nat.ble (rest.map fun v => v.category).sum 8 = true) (dd : Dx cL_law pc (.invokevirtual idx) 3 pc') (hk9 : k ≤ 600000) (hN9 : N ≤ 7302250)
    (kk : ∀ σ', P σ' → LJ Y (I2 Y w σ') pc' L (v.toList ++ rest) k N) : LJ Y (I2 Y w σ) pc L st k N := by
  subst hst
  obtain ⟨p, l, e, s, m, below, meth, c, b⟩ := Y
  obtain ⟨hx, hb, hr, hml, ho, hts, hX, hbl, hlk9, hgv⟩ := h
  obtain ⟨hK, hSk, hW, hA⟩ := hw
  obtain ⟨hdd, rfl⟩ := dd
  obtain ⟨hc1, hc2, hc3, hc4, hc5, hc6, hc7⟩ := hq
  intro H locs ls hI hl
  obtain ⟨hH, hS⟩ := hI
  obtain ⟨C, hC⟩ : ∃ C, vwCl[ci]? = some C := by
    cases hz : vwCl[ci]? with
    | none => rw [hz] at hcl; cases hcl
    | some C => exact ⟨C, rfl⟩
  have hC1 : C.1 = q.1.cls := by rw [hC] at hcl; exact Option.some.inj hcl
  have hcell := va_recv hK hH (ci := ci) (q0 := i) (fs := fs.map (svv w σ)) hC (by rw [wsOf_get hs.1, hs.2]; rfl)
  rw [hC1] at hcell
  have hr9 : va_Run p l e room_1 s m #[Value.ref b] below meth c H locs k N 0 0 (F0 m pc ls (As.reverse ++ .ref (w.1 i) :: rest)) rest (QcOf w v P (.ref (w.1 i) :: As).toArray) (wA w) :=
    va_runV (Ts := lw_tbl.filter goodWord) (C := q.1.cls) (n := np) ⟨hx, hb, hml, ho, fun c hc => hts c (List.mem_filter.mp hc).1⟩ hM
      ⟨⟨rfl, rfl, hd, by show 8 + (q.2.2.1 + 11) + 36 * d' ≤ 434; omega, wsq_ok (fun c hc _ => hts c hc) hc1, List.mem_cons_self, hts _ hc1, hts _ hc4, ⟨hc5, hc6⟩, sq_len hc7, hts _ hlk⟩, hts _ hc2, hts _ hc3⟩
      ⟨mc_blind, hcell, fun U hU hWU => ⟨rfl, by rw [hU]; exact hH, va_K.moved hWU.alike hK, by rw [hU]; exact hSk.warm hWU fun a h1 h2 => hS.2.1 a h1 (fun z => Nat.lt_irrefl _ (Nat.lt_of_lt_of_le h1 z))⟩⟩ rfl hn hl.1 rfl (lv_room (Nat.le_of_ble_eq_true hrest)) hdd ⟨hk9, hN9⟩
  intro T hT X
  obtain ⟨v', st₀, t, T', L9, h0, X', hL, e1, e2, ⟨⟨hv, σ', hPσ, hH1⟩, hz, hk⟩, stp⟩ := hr9 T hT X
  cases hv
  rw [h0] at hz hk
  obtain ⟨t2, a1, b1⟩ := kk σ' hPσ T'.heap (locs ++ L9) ls ⟨by rw [e1]; exact hH1, Nat.le_trans hS.1 (by rw [e1]; exact hz), fun q h1 h2 => by rw [e1, hk q (Nat.lt_of_lt_of_le h1 hS.1) (fun z => h2 (hA q z))]; exact hS.2.1 q h1 h2, fun q hq => by
      rcases List.mem_append.mp hq with h | h
      · exact hS.2.2 q h
      · exact hA _ (hL q h)⟩ hl T' rfl X'
  exact ⟨t2, stp t2 a1, b1⟩
theorem i2_S : ∀ H locs, I2 Y w σ H locs → va_S (fr9 Y.2.2.2.1) Y.2.2.2.1.heap H locs := fun _ _ q => q.2
/-- a truth value out of an int -/
theorem lj_bool {x : Int32} {p1 p2 t1 t2 : Nat} (h : LF Y Lx xs) (d1 : Dz cL_law pc .eq t1 p1) (d2 : Dx cL_law p1 (.iconst (Int.ofNat 1)) 1 p2) (d3 : Dg cL_law p2 t2) (d4 : Dx cL_law t1 (.iconst (Int.ofNat 0)) 1 t2) (kk : LJ Y (I2 Y w σ) t2 L (.int (b2i (decide (x ≠ 0))) :: st) k N) : LJ Y (I2 Y w σ) pc L (.int x :: st) k N := by
  refine lj_if_eq h d1 (fun c => lj_iconst h d4 (by decide) ?_) (fun c => lj_iconst h d2 (by decide) (lj_goto h d3 ?_))
  · rw [decide_eq_false (fun z => z c)] at kk
    exact kk
  · rw [decide_eq_true c] at kk
    exact kk
theorem and63 (x : Int32) : ∃ v, v < 64 ∧ x &&& nI 63 = nI v := by
  refine ⟨(x.toBitVec &&& (nI 63).toBitVec).toNat, ?_, ?_⟩
  · rw [BitVec.toNat_and]
    exact Nat.lt_of_le_of_lt Nat.and_le_right (by decide)
  · apply Int32.toBitVec_inj.mp
    rw [Int32.toBitVec_and]
    show _ = BitVec.ofNat 32 _
    rw [BitVec.ofNat_toNat, BitVec.setWidth_eq]
theorem lc_status (h : LF Y Lx xs) (hw : LW Y w) (hLx : Lx ≤ 3072) (a : Nat) (ha : a + 5 < Lx) {Nn : Nat} (hR : LX Nn σ) (hN : Nn < 2 ^ 29) (hk9 : k ≤ 600000) (hN9 : N ≤ 7302250) (next : ∀ σ', LX (Nn + 1600) σ' → LJ Y (I2 Y w σ') 1588 (LL Y w a) [] k N) : LJ Y (I2 Y w σ) 224 (LL Y w a) [] k N := by
  obtain ⟨r, P1, hM1, hR1⟩ := st_status hw.2.2.1  σ hR hN
  refine lj_aload_n h dL_law_224 1 rfl ?_
  refine lj_cv (rest := []) h hw hM1 lX11_status mL_13 (by decide) (by decide) sc_12 rfl rfl rfl rfl dL_law_225 hk9 hN9 (fun σ1 h1 => ?_)
  obtain ⟨P2, hM2, hR2⟩ := hR1 σ1 h1
  refine lj_aload_n h dL_law_228 2 rfl ?_
  refine lj_cv (rest := [.int r]) h hw hM2 lX12_status mL_17 (by decide) (by decide) sc_0 rfl rfl rfl rfl dL_law_229 hk9 hN9 (fun σ2 h2 => ?_)
  refine lj_icmp_eq h dL_law_232 ?_
  exact next σ2 (hR2 σ2 h2)
theorem lc_feed (h : LF Y Lx xs) (hw : LW Y w) (hLx : Lx ≤ 3072) (a : Nat) (ha : a + 5 < Lx) {Nn : Nat} (hR : LX Nn σ) (hN : Nn < 2 ^ 29) (hk9 : k ≤ 600000) (hN9 : N ≤ 7302250) (next : ∀ σ', LX (Nn + 1600) σ' → LJ Y (I2 Y w σ') 1588 (LL Y w a) [] k N) : LJ Y (I2 Y w σ) 237 (LL Y w a) [] k N := by
  obtain ⟨r, P1, hM1, hR1⟩ := st_feed hw.2.2.1 (xs (a + 1)) (xs (a + 2)) (xs (a + 3)) (xs (a + 4)) (xs (a + 5)) σ hR hN
  refine lj_aload_n h dL_law_237 1 rfl ?_
  refine lj_aload_n h dL_law_238 0 rfl ?_
  refine lj_iload_n h dL_law_239 3 rfl ?_
  refine lj_iconst h dL_law_240 (by decide) ?_
  refine lj_iadd h dL_law_241 ?_
  refine lj_sld h i2_S dL_law_242 (by omega) hLx ?_
  refine lj_aload_n h dL_law_243 0 rfl ?_
  refine lj_iload_n h dL_law_244 3 rfl ?_
  refine lj_iconst h dL_law_245 (by decide) ?_
  refine lj_iadd h dL_law_246 ?_
  refine lj_sld h i2_S dL_law_247 (by omega) hLx ?_
  refine lj_aload_n h dL_law_248 0 rfl ?_
  refine lj_iload_n h dL_law_249 3 rfl ?_
  refine lj_iconst h dL_law_250 (by decide) ?_
  refine lj_iadd h dL_law_251 ?_
  refine lj_sld h i2_S dL_law_252 (by omega) hLx ?_
  refine lj_aload_n h dL_law_253 0 rfl ?_
  refine lj_iload_n h dL_law_254 3 rfl ?_
  refine lj_iconst h dL_law_255 (by decide) ?_
  refine lj_iadd h dL_law_256 ?_
  refine lj_sld h i2_S dL_law_257 (by omega) hLx ?_
  refine lj_aload_n h dL_law_258 0 rfl ?_
  refine lj_iload_n h dL_law_259 3 rfl ?_
  refine lj_iconst h dL_law_260 (by decide) ?_
  refine lj_iadd h dL_law_261 ?_
  refine lj_sld h i2_S dL_law_262 (by omega) hLx ?_
  refine lj_cv (rest := []) h hw hM1 lX11_feed mL_18 (by decide) (by decide) sc_12 rfl rfl rfl rfl dL_law_263 hk9 hN9 (fun σ1 h1 => ?_)
  obtain ⟨P2, hM2, hR2⟩ := hR1 σ1 h1
  refine lj_aload_n h dL_law_266 2 rfl ?_
  refine lj_aload_n h dL_law_267 0 rfl ?_
  refine lj_iload_n h dL_law_268 3 rfl ?_
  refine lj_iconst h dL_law_269 (by decide) ?_
  refine lj_iadd h dL_law_270 ?_
  refine lj_sld h i2_S dL_law_271 (by omega) hLx ?_
  refine lj_aload_n h dL_law_272 0 rfl ?_
  refine lj_iload_n h dL_law_273 3 rfl ?_
  refine lj_iconst h dL_law_274 (by decide) ?_
  refine lj_iadd h dL_law_275 ?_
  refine lj_sld h i2_S dL_law_276 (by omega) hLx ?_
  refine lj_aload_n h dL_law_277 0 rfl ?_
  refine lj_iload_n h dL_law_278 3 rfl ?_
  refine lj_iconst h dL_law_279 (by decide) ?_
  refine lj_iadd h dL_law_280 ?_
  refine lj_sld h i2_S dL_law_281 (by omega) hLx ?_
  refine lj_aload_n h dL_law_282 0 rfl ?_
  refine lj_iload_n h dL_law_283 3 rfl ?_
  refine lj_iconst h dL_law_284 (by decide) ?_
  refine lj_iadd h dL_law_285 ?_
  refine lj_sld h i2_S dL_law_286 (by omega) hLx ?_
  refine lj_aload_n h dL_law_287 0 rfl ?_
  refine lj_iload_n h dL_law_288 3 rfl ?_
  refine lj_iconst h dL_law_289 (by decide) ?_
  refine lj_iadd h dL_law_290 ?_
  refine lj_sld h i2_S dL_law_291 (by omega) hLx ?_
  refine lj_cv (rest := [.int r]) h hw hM2 lX12_feed mL_22 (by decide) (by decide) sc_0 rfl rfl rfl rfl dL_law_292 hk9 hN9 (fun σ2 h2 => ?_)
  refine lj_icmp_eq h dL_law_295 ?_
  exact next σ2 (hR2 σ2 h2)
theorem lc_load (h : LF Y Lx xs) (hw : LW Y w) (hLx : Lx ≤ 3072) (a : Nat) (ha : a + 5 < Lx) {Nn : Nat} (hR : LX Nn σ) (hN : Nn < 2 ^ 29) (hk9 : k ≤ 600000) (hN9 : N ≤ 7302250) (next : ∀ σ', LX (Nn + 1600) σ' → LJ Y (I2 Y w σ') 1588 (LL Y w a) [] k N) : LJ Y (I2 Y w σ) 300 (LL Y w a) [] k N := by
  obtain ⟨r, P1, hM1, hR1⟩ := st_load hw.2.2.1 (xs (a + 1)) σ hR hN
  refine lj_aload_n h dL_law_300 1 rfl ?_
  refine lj_aload_n h dL_law_301 0 rfl ?_
  refine lj_iload_n h dL_law_302 3 rfl ?_
  refine lj_iconst h dL_law_303 (by decide) ?_
  refine lj_iadd h dL_law_304 ?_
  refine lj_sld h i2_S dL_law_305 (by omega) hLx ?_
  refine lj_cv (rest := []) h hw hM1 lX11_load mL_23 (by decide) (by decide) sc_12 rfl rfl rfl rfl dL_law_306 hk9 hN9 (fun σ1 h1 => ?_)
  obtain ⟨P2, hM2, hR2⟩ := hR1 σ1 h1
  refine lj_aload_n h dL_law_309 2 rfl ?_
  refine lj_aload_n h dL_law_310 0 rfl ?_
  refine lj_iload_n h dL_law_311 3 rfl ?_
  refine lj_iconst h dL_law_312 (by decide) ?_
  refine lj_iadd h dL_law_313 ?_
  refine lj_sld h i2_S dL_law_314 (by omega) hLx ?_
  refine lj_cv (rest := [.int r]) h hw hM2 lX12_load mL_27 (by decide) (by decide) sc_0 rfl rfl rfl rfl dL_law_315 hk9 hN9 (fun σ2 h2 => ?_)
  refine lj_icmp_eq h dL_law_318 ?_
  exact next σ2 (hR2 σ2 h2)
theorem lc_fault (h : LF Y Lx xs) (hw : LW Y w) (hLx : Lx ≤ 3072) (a : Nat) (ha : a + 5 < Lx) {Nn : Nat} (hR : LX Nn σ) (hN : Nn < 2 ^ 29) (hk9 : k ≤ 600000) (hN9 : N ≤ 7302250) (next : ∀ σ', LX (Nn + 1600) σ' → LJ Y (I2 Y w σ') 1588 (LL Y w a) [] k N) : LJ Y (I2 Y w σ) 323 (LL Y w a) [] k N := by
  obtain ⟨r, P1, hM1, hR1⟩ := st_fault hw.2.2.1 (xs (a + 1)) σ hR hN
  refine lj_aload_n h dL_law_323 1 rfl ?_
  refine lj_aload_n h dL_law_324 0 rfl ?_
  refine lj_iload_n h dL_law_325 3 rfl ?_
  refine lj_iconst h dL_law_326 (by decide) ?_
  refine lj_iadd h dL_law_327 ?_
  refine lj_sld h i2_S dL_law_328 (by omega) hLx ?_
  refine lj_cv (rest := []) h hw hM1 lX11_fault mL_28 (by decide) (by decide) sc_12 rfl rfl rfl rfl dL_law_329 hk9 hN9 (fun σ1 h1 => ?_)
  obtain ⟨P2, hM2, hR2⟩ := hR1 σ1 h1
  refine lj_aload_n h dL_law_332 2 rfl ?_
  refine lj_aload_n h dL_law_333 0 rfl ?_
  refine lj_iload_n h dL_law_334 3 rfl ?_
  refine lj_iconst h dL_law_335 (by decide) ?_
  refine lj_iadd h dL_law_336 ?_
  refine lj_sld h i2_S dL_law_337 (by omega) hLx ?_
  refine lj_cv (rest := [.int r]) h hw hM2 lX12_fault mL_31 (by decide) (by decide) sc_0 rfl rfl rfl rfl dL_law_338 hk9 hN9 (fun σ2 h2 => ?_)
  refine lj_icmp_eq h dL_law_341 ?_
  exact next σ2 (hR2 σ2 h2)
theorem lc_many (h : LF Y Lx xs) (hw : LW Y w) (hLx : Lx ≤ 3072) (a : Nat) (ha : a + 5 < Lx) {Nn : Nat} (hR : LX Nn σ) (hN : Nn < 2 ^ 29) (hk9 : k ≤ 600000) (hN9 : N ≤ 7302250) (next : ∀ σ', LX (Nn + 1600) σ' → LJ Y (I2 Y w σ') 1588 (LL Y w a) [] k N) : LJ Y (I2 Y w σ) 346 (LL Y w a) [] k N := by
  obtain ⟨r, P1, hM1, hR1⟩ := st_many hw.2.2.1 (xs (a + 1)) σ hR hN
  refine lj_aload_n h dL_law_346 1 rfl ?_
  refine lj_aload_n h dL_law_347 0 rfl ?_
  refine lj_iload_n h dL_law_348 3 rfl ?_
  refine lj_iconst h dL_law_349 (by decide) ?_
  refine lj_iadd h dL_law_350 ?_
  refine lj_sld h i2_S dL_law_351 (by omega) hLx ?_
  refine lj_cv (rest := []) h hw hM1 lX11_many mL_32 (by decide) (by decide) sc_12 rfl rfl rfl rfl dL_law_352 hk9 hN9 (fun σ1 h1 => ?_)
  obtain ⟨P2, hM2, hR2⟩ := hR1 σ1 h1
  refine lj_aload_n h dL_law_355 2 rfl ?_
  refine lj_aload_n h dL_law_356 0 rfl ?_
  refine lj_iload_n h dL_law_357 3 rfl ?_
  refine lj_iconst h dL_law_358 (by decide) ?_
  refine lj_iadd h dL_law_359 ?_
  refine lj_sld h i2_S dL_law_360 (by omega) hLx ?_
  refine lj_cv (rest := [.int r]) h hw hM2 lX12_many mL_35 (by decide) (by decide) sc_0 rfl rfl rfl rfl dL_law_361 hk9 hN9 (fun σ2 h2 => ?_)
  refine lj_icmp_eq h dL_law_364 ?_
  exact next σ2 (hR2 σ2 h2)
theorem lc_node (h : LF Y Lx xs) (hw : LW Y w) (hLx : Lx ≤ 3072) (a : Nat) (ha : a + 5 < Lx) {Nn : Nat} (hR : LX Nn σ) (hN : Nn < 2 ^ 29) (hk9 : k ≤ 600000) (hN9 : N ≤ 7302250) (next : ∀ σ', LX (Nn + 1600) σ' → LJ Y (I2 Y w σ') 1588 (LL Y w a) [] k N) : LJ Y (I2 Y w σ) 369 (LL Y w a) [] k N := by
  obtain ⟨r, P1, hM1, hR1⟩ := st_node hw.2.2.1 (xs (a + 1)) (xs (a + 2)) σ hR hN
  refine lj_aload_n h dL_law_369 1 rfl ?_
  refine lj_aload_n h dL_law_370 0 rfl ?_
  refine lj_iload_n h dL_law_371 3 rfl ?_
  refine lj_iconst h dL_law_372 (by decide) ?_
  refine lj_iadd h dL_law_373 ?_
  refine lj_sld h i2_S dL_law_374 (by omega) hLx ?_
  refine lj_aload_n h dL_law_375 0 rfl ?_
  refine lj_iload_n h dL_law_376 3 rfl ?_
  refine lj_iconst h dL_law_377 (by decide) ?_
  refine lj_iadd h dL_law_378 ?_
  refine lj_sld h i2_S dL_law_379 (by omega) hLx ?_
  refine lj_cv (rest := []) h hw hM1 lX11_node mL_36 (by decide) (by decide) sc_12 rfl rfl rfl rfl dL_law_380 hk9 hN9 (fun σ1 h1 => ?_)
  obtain ⟨P2, hM2, hR2⟩ := hR1 σ1 h1
  refine lj_aload_n h dL_law_383 2 rfl ?_
  refine lj_aload_n h dL_law_384 0 rfl ?_
  refine lj_iload_n h dL_law_385 3 rfl ?_
  refine lj_iconst h dL_law_386 (by decide) ?_
  refine lj_iadd h dL_law_387 ?_
  refine lj_sld h i2_S dL_law_388 (by omega) hLx ?_
  refine lj_aload_n h dL_law_389 0 rfl ?_
  refine lj_iload_n h dL_law_390 3 rfl ?_
  refine lj_iconst h dL_law_391 (by decide) ?_
  refine lj_iadd h dL_law_392 ?_
  refine lj_sld h i2_S dL_law_393 (by omega) hLx ?_
  refine lj_cv (rest := [.int r]) h hw hM2 lX12_node mL_40 (by decide) (by decide) sc_0 rfl rfl rfl rfl dL_law_394 hk9 hN9 (fun σ2 h2 => ?_)
  refine lj_icmp_eq h dL_law_397 ?_
  exact next σ2 (hR2 σ2 h2)
theorem lc_link (h : LF Y Lx xs) (hw : LW Y w) (hLx : Lx ≤ 3072) (a : Nat) (ha : a + 5 < Lx) {Nn : Nat} (hR : LX Nn σ) (hN : Nn < 2 ^ 29) (hk9 : k ≤ 600000) (hN9 : N ≤ 7302250) (next : ∀ σ', LX (Nn + 1600) σ' → LJ Y (I2 Y w σ') 1588 (LL Y w a) [] k N) : LJ Y (I2 Y w σ) 402 (LL Y w a) [] k N := by
  obtain ⟨r, P1, hM1, hR1⟩ := st_link hw.2.2.1 (xs (a + 1)) (xs (a + 2)) (xs (a + 3)) σ hR hN
  refine lj_aload_n h dL_law_402 1 rfl ?_
  refine lj_aload_n h dL_law_403 0 rfl ?_
  refine lj_iload_n h dL_law_404 3 rfl ?_
  refine lj_iconst h dL_law_405 (by decide) ?_
  refine lj_iadd h dL_law_406 ?_
  refine lj_sld h i2_S dL_law_407 (by omega) hLx ?_
  refine lj_aload_n h dL_law_408 0 rfl ?_
  refine lj_iload_n h dL_law_409 3 rfl ?_
  refine lj_iconst h dL_law_410 (by decide) ?_
  refine lj_iadd h dL_law_411 ?_
  refine lj_sld h i2_S dL_law_412 (by omega) hLx ?_
  refine lj_aload_n h dL_law_413 0 rfl ?_
  refine lj_iload_n h dL_law_414 3 rfl ?_
  refine lj_iconst h dL_law_415 (by decide) ?_
  refine lj_iadd h dL_law_416 ?_
  refine lj_sld h i2_S dL_law_417 (by omega) hLx ?_
  refine lj_cv (rest := []) h hw hM1 lX11_link mL_41 (by decide) (by decide) sc_12 rfl rfl rfl rfl dL_law_418 hk9 hN9 (fun σ1 h1 => ?_)
  obtain ⟨P2, hM2, hR2⟩ := hR1 σ1 h1
  refine lj_aload_n h dL_law_421 2 rfl ?_
  refine lj_aload_n h dL_law_422 0 rfl ?_
  refine lj_iload_n h dL_law_423 3 rfl ?_
  refine lj_iconst h dL_law_424 (by decide) ?_
  refine lj_iadd h dL_law_425 ?_
  refine lj_sld h i2_S dL_law_426 (by omega) hLx ?_
  refine lj_aload_n h dL_law_427 0 rfl ?_
  refine lj_iload_n h dL_law_428 3 rfl ?_
  refine lj_iconst h dL_law_429 (by decide) ?_
  refine lj_iadd h dL_law_430 ?_
  refine lj_sld h i2_S dL_law_431 (by omega) hLx ?_
  refine lj_aload_n h dL_law_432 0 rfl ?_
  refine lj_iload_n h dL_law_433 3 rfl ?_
  refine lj_iconst h dL_law_434 (by decide) ?_
  refine lj_iadd h dL_law_435 ?_
  refine lj_sld h i2_S dL_law_436 (by omega) hLx ?_
  refine lj_cv (rest := [.int r]) h hw hM2 lX12_link mL_45 (by decide) (by decide) sc_0 rfl rfl rfl rfl dL_law_437 hk9 hN9 (fun σ2 h2 => ?_)
  refine lj_icmp_eq h dL_law_440 ?_
  exact next σ2 (hR2 σ2 h2)
theorem lc_topology (h : LF Y Lx xs) (hw : LW Y w) (hLx : Lx ≤ 3072) (a : Nat) (ha : a + 5 < Lx) {Nn : Nat} (hR : LX Nn σ) (hN : Nn < 2 ^ 29) (hk9 : k ≤ 600000) (hN9 : N ≤ 7302250) (next : ∀ σ', LX (Nn + 1600) σ' → LJ Y (I2 Y w σ') 1588 (LL Y w a) [] k N) : LJ Y (I2 Y w σ) 445 (LL Y w a) [] k N := by
  obtain ⟨r, P1, hM1, hR1⟩ := st_topology hw.2.2.1 (xs (a + 1)) (xs (a + 2)) (xs (a + 3)) σ hR hN
  refine lj_aload_n h dL_law_445 1 rfl ?_
  refine lj_aload_n h dL_law_446 0 rfl ?_
  refine lj_iload_n h dL_law_447 3 rfl ?_
  refine lj_iconst h dL_law_448 (by decide) ?_
  refine lj_iadd h dL_law_449 ?_
  refine lj_sld h i2_S dL_law_450 (by omega) hLx ?_
  refine lj_aload_n h dL_law_451 0 rfl ?_
  refine lj_iload_n h dL_law_452 3 rfl ?_
  refine lj_iconst h dL_law_453 (by decide) ?_
  refine lj_iadd h dL_law_454 ?_
  refine lj_sld h i2_S dL_law_455 (by omega) hLx ?_
  refine lj_aload_n h dL_law_456 0 rfl ?_
  refine lj_iload_n h dL_law_457 3 rfl ?_
  refine lj_iconst h dL_law_458 (by decide) ?_
  refine lj_iadd h dL_law_459 ?_
  refine lj_sld h i2_S dL_law_460 (by omega) hLx ?_
  refine lj_cv (rest := []) h hw hM1 lX11_topology mL_46 (by decide) (by decide) sc_12 rfl rfl rfl rfl dL_law_461 hk9 hN9 (fun σ1 h1 => ?_)
  obtain ⟨P2, hM2, hR2⟩ := hR1 σ1 h1
  refine lj_aload_n h dL_law_464 2 rfl ?_
  refine lj_aload_n h dL_law_465 0 rfl ?_
  refine lj_iload_n h dL_law_466 3 rfl ?_
  refine lj_iconst h dL_law_467 (by decide) ?_
  refine lj_iadd h dL_law_468 ?_
  refine lj_sld h i2_S dL_law_469 (by omega) hLx ?_
  refine lj_aload_n h dL_law_470 0 rfl ?_
  refine lj_iload_n h dL_law_471 3 rfl ?_
  refine lj_iconst h dL_law_472 (by decide) ?_
  refine lj_iadd h dL_law_473 ?_
  refine lj_sld h i2_S dL_law_474 (by omega) hLx ?_
  refine lj_aload_n h dL_law_475 0 rfl ?_
  refine lj_iload_n h dL_law_476 3 rfl ?_
  refine lj_iconst h dL_law_477 (by decide) ?_
  refine lj_iadd h dL_law_478 ?_
  refine lj_sld h i2_S dL_law_479 (by omega) hLx ?_
  refine lj_cv (rest := [.int r]) h hw hM2 lX12_topology mL_49 (by decide) (by decide) sc_0 rfl rfl rfl rfl dL_law_480 hk9 hN9 (fun σ2 h2 => ?_)
  refine lj_icmp_eq h dL_law_483 ?_
  exact next σ2 (hR2 σ2 h2)
theorem lc_would (h : LF Y Lx xs) (hw : LW Y w) (hLx : Lx ≤ 3072) (a : Nat) (ha : a + 5 < Lx) {Nn : Nat} (hR : LX Nn σ) (hN : Nn < 2 ^ 29) (hk9 : k ≤ 600000) (hN9 : N ≤ 7302250) (next : ∀ σ', LX (Nn + 1600) σ' → LJ Y (I2 Y w σ') 1588 (LL Y w a) [] k N) : LJ Y (I2 Y w σ) 488 (LL Y w a) [] k N := by
  obtain ⟨r, P1, hM1, hR1⟩ := st_would hw.2.2.1 (xs (a + 1)) σ hR hN
  refine lj_aload_n h dL_law_488 1 rfl ?_
  refine lj_aload_n h dL_law_489 0 rfl ?_
  refine lj_iload_n h dL_law_490 3 rfl ?_
  refine lj_iconst h dL_law_491 (by decide) ?_
  refine lj_iadd h dL_law_492 ?_
  refine lj_sld h i2_S dL_law_493 (by omega) hLx ?_
  refine lj_cv (rest := []) h hw hM1 lX11_would mL_50 (by decide) (by decide) sc_12 rfl rfl rfl rfl dL_law_494 hk9 hN9 (fun σ1 h1 => ?_)
  obtain ⟨P2, hM2, hR2⟩ := hR1 σ1 h1
  refine lj_aload_n h dL_law_497 2 rfl ?_
  refine lj_aload_n h dL_law_498 0 rfl ?_
  refine lj_iload_n h dL_law_499 3 rfl ?_
  refine lj_iconst h dL_law_500 (by decide) ?_
  refine lj_iadd h dL_law_501 ?_
  refine lj_sld h i2_S dL_law_502 (by omega) hLx ?_
  refine lj_cv (rest := [.int r]) h hw hM2 lX12_would mL_53 (by decide) (by decide) sc_0 rfl rfl rfl rfl dL_law_503 hk9 hN9 (fun σ2 h2 => ?_)
  refine lj_icmp_eq h dL_law_506 ?_
  exact next σ2 (hR2 σ2 h2)
theorem lc_pick (h : LF Y Lx xs) (hw : LW Y w) (hLx : Lx ≤ 3072) (a : Nat) (ha : a + 5 < Lx) {Nn : Nat} (hR : LX Nn σ) (hN : Nn < 2 ^ 29) (hk9 : k ≤ 600000) (hN9 : N ≤ 7302250) (next : ∀ σ', LX (Nn + 1600) σ' → LJ Y (I2 Y w σ') 1588 (LL Y w a) [] k N) : LJ Y (I2 Y w σ) 511 (LL Y w a) [] k N := by
  obtain ⟨r, P1, hM1, hR1⟩ := st_pick hw.2.2.1 (xs (a + 1)) (xs (a + 2)) σ hR hN
  refine lj_aload_n h dL_law_511 1 rfl ?_
  refine lj_aload_n h dL_law_512 0 rfl ?_
  refine lj_iload_n h dL_law_513 3 rfl ?_
  refine lj_iconst h dL_law_514 (by decide) ?_
  refine lj_iadd h dL_law_515 ?_
  refine lj_sld h i2_S dL_law_516 (by omega) hLx ?_
  refine lj_aload_n h dL_law_517 0 rfl ?_
  refine lj_iload_n h dL_law_518 3 rfl ?_
  refine lj_iconst h dL_law_519 (by decide) ?_
  refine lj_iadd h dL_law_520 ?_
  refine lj_sld h i2_S dL_law_521 (by omega) hLx ?_
  refine lj_cv (rest := []) h hw hM1 lX11_pick mL_54 (by decide) (by decide) sc_12 rfl rfl rfl rfl dL_law_522 hk9 hN9 (fun σ1 h1 => ?_)
  obtain ⟨P2, hM2, hR2⟩ := hR1 σ1 h1
  refine lj_aload_n h dL_law_525 2 rfl ?_
  refine lj_aload_n h dL_law_526 0 rfl ?_
  refine lj_iload_n h dL_law_527 3 rfl ?_
  refine lj_iconst h dL_law_528 (by decide) ?_
  refine lj_iadd h dL_law_529 ?_
  refine lj_sld h i2_S dL_law_530 (by omega) hLx ?_
  refine lj_aload_n h dL_law_531 0 rfl ?_
  refine lj_iload_n h dL_law_532 3 rfl ?_
  refine lj_iconst h dL_law_533 (by decide) ?_
  refine lj_iadd h dL_law_534 ?_
  refine lj_sld h i2_S dL_law_535 (by omega) hLx ?_
  refine lj_cv (rest := [.int r]) h hw hM2 lX12_pick mL_57 (by decide) (by decide) sc_0 rfl rfl rfl rfl dL_law_536 hk9 hN9 (fun σ2 h2 => ?_)
  refine lj_icmp_eq h dL_law_539 ?_
  exact next σ2 (hR2 σ2 h2)
theorem lc_bestWill (h : LF Y Lx xs) (hw : LW Y w) (hLx : Lx ≤ 3072) (a : Nat) (ha : a + 5 < Lx) {Nn : Nat} (hR : LX Nn σ) (hN : Nn < 2 ^ 29) (hk9 : k ≤ 600000) (hN9 : N ≤ 7302250) (next : ∀ σ', LX (Nn + 1600) σ' → LJ Y (I2 Y w σ') 1588 (LL Y w a) [] k N) : LJ Y (I2 Y w σ) 544 (LL Y w a) [] k N := by
  obtain ⟨r, P1, hM1, hR1⟩ := st_bestWill hw.2.2.1 (xs (a + 1)) σ hR hN
  refine lj_aload_n h dL_law_544 1 rfl ?_
  refine lj_aload_n h dL_law_545 0 rfl ?_
  refine lj_iload_n h dL_law_546 3 rfl ?_
  refine lj_iconst h dL_law_547 (by decide) ?_
  refine lj_iadd h dL_law_548 ?_
  refine lj_sld h i2_S dL_law_549 (by omega) hLx ?_
  refine lj_cv (rest := []) h hw hM1 lX11_bestWill mL_58 (by decide) (by decide) sc_12 rfl rfl rfl rfl dL_law_550 hk9 hN9 (fun σ1 h1 => ?_)
  obtain ⟨P2, hM2, hR2⟩ := hR1 σ1 h1
  refine lj_aload_n h dL_law_553 2 rfl ?_
  refine lj_aload_n h dL_law_554 0 rfl ?_
  refine lj_iload_n h dL_law_555 3 rfl ?_
  refine lj_iconst h dL_law_556 (by decide) ?_
  refine lj_iadd h dL_law_557 ?_
  refine lj_sld h i2_S dL_law_558 (by omega) hLx ?_
  refine lj_cv (rest := [.int r]) h hw hM2 lX12_bestWill mL_61 (by decide) (by decide) sc_0 rfl rfl rfl rfl dL_law_559 hk9 hN9 (fun σ2 h2 => ?_)
  refine lj_icmp_eq h dL_law_562 ?_
  exact next σ2 (hR2 σ2 h2)
theorem lc_least (h : LF Y Lx xs) (hw : LW Y w) (hLx : Lx ≤ 3072) (a : Nat) (ha : a + 5 < Lx) {Nn : Nat} (hR : LX Nn σ) (hN : Nn < 2 ^ 29) (hk9 : k ≤ 600000) (hN9 : N ≤ 7302250) (next : ∀ σ', LX (Nn + 1600) σ' → LJ Y (I2 Y w σ') 1588 (LL Y w a) [] k N) : LJ Y (I2 Y w σ) 567 (LL Y w a) [] k N := by
  obtain ⟨r, P1, hM1, hR1⟩ := st_least hw.2.2.1 (xs (a + 1)) σ hR hN
  refine lj_aload_n h dL_law_567 1 rfl ?_
  refine lj_aload_n h dL_law_568 0 rfl ?_
  refine lj_iload_n h dL_law_569 3 rfl ?_
  refine lj_iconst h dL_law_570 (by decide) ?_
  refine lj_iadd h dL_law_571 ?_
  refine lj_sld h i2_S dL_law_572 (by omega) hLx ?_
  refine lj_cv (rest := []) h hw hM1 lX11_least mL_62 (by decide) (by decide) sc_12 rfl rfl rfl rfl dL_law_573 hk9 hN9 (fun σ1 h1 => ?_)
  obtain ⟨P2, hM2, hR2⟩ := hR1 σ1 h1
  refine lj_aload_n h dL_law_576 2 rfl ?_
  refine lj_aload_n h dL_law_577 0 rfl ?_
  refine lj_iload_n h dL_law_578 3 rfl ?_
  refine lj_iconst h dL_law_579 (by decide) ?_
  refine lj_iadd h dL_law_580 ?_
  refine lj_sld h i2_S dL_law_581 (by omega) hLx ?_
  refine lj_cv (rest := [.int r]) h hw hM2 lX12_least mL_65 (by decide) (by decide) sc_0 rfl rfl rfl rfl dL_law_582 hk9 hN9 (fun σ2 h2 => ?_)
  refine lj_icmp_eq h dL_law_585 ?_
  exact next σ2 (hR2 σ2 h2)
theorem lc_covers (h : LF Y Lx xs) (hw : LW Y w) (hLx : Lx ≤ 3072) (a : Nat) (ha : a + 5 < Lx) {Nn : Nat} (hR : LX Nn σ) (hN : Nn < 2 ^ 29) (hk9 : k ≤ 600000) (hN9 : N ≤ 7302250) (next : ∀ σ', LX (Nn + 1600) σ' → LJ Y (I2 Y w σ') 1588 (LL Y w a) [] k N) : LJ Y (I2 Y w σ) 590 (LL Y w a) [] k N := by
  obtain ⟨r, P1, hM1, hR1⟩ := st_covers hw.2.2.1 (xs (a + 1)) (xs (a + 2)) σ hR hN
  refine lj_aload_n h dL_law_590 1 rfl ?_
  refine lj_aload_n h dL_law_591 0 rfl ?_
  refine lj_iload_n h dL_law_592 3 rfl ?_
  refine lj_iconst h dL_law_593 (by decide) ?_
  refine lj_iadd h dL_law_594 ?_
  refine lj_sld h i2_S dL_law_595 (by omega) hLx ?_
  refine lj_aload_n h dL_law_596 0 rfl ?_
  refine lj_iload_n h dL_law_597 3 rfl ?_
  refine lj_iconst h dL_law_598 (by decide) ?_
  refine lj_iadd h dL_law_599 ?_
  refine lj_sld h i2_S dL_law_600 (by omega) hLx ?_
  refine lj_cv (rest := []) h hw hM1 lX11_covers mL_66 (by decide) (by decide) sc_12 rfl rfl rfl rfl dL_law_601 hk9 hN9 (fun σ1 h1 => ?_)
  obtain ⟨P2, hM2, hR2⟩ := hR1 σ1 h1
  refine lj_aload_n h dL_law_604 2 rfl ?_
  refine lj_aload_n h dL_law_605 0 rfl ?_
  refine lj_iload_n h dL_law_606 3 rfl ?_
  refine lj_iconst h dL_law_607 (by decide) ?_
  refine lj_iadd h dL_law_608 ?_
  refine lj_sld h i2_S dL_law_609 (by omega) hLx ?_
  refine lj_aload_n h dL_law_610 0 rfl ?_
  refine lj_iload_n h dL_law_611 3 rfl ?_
  refine lj_iconst h dL_law_612 (by decide) ?_
  refine lj_iadd h dL_law_613 ?_
  refine lj_sld h i2_S dL_law_614 (by omega) hLx ?_
  refine lj_cv (rest := [.int r]) h hw hM2 lX12_covers mL_69 (by decide) (by decide) sc_0 rfl rfl rfl rfl dL_law_615 hk9 hN9 (fun σ2 h2 => ?_)
  refine lj_icmp_eq h dL_law_618 ?_
  exact next σ2 (hR2 σ2 h2)
theorem lc_needed (h : LF Y Lx xs) (hw : LW Y w) (hLx : Lx ≤ 3072) (a : Nat) (ha : a + 5 < Lx) {Nn : Nat} (hR : LX Nn σ) (hN : Nn < 2 ^ 29) (hk9 : k ≤ 600000) (hN9 : N ≤ 7302250) (next : ∀ σ', LX (Nn + 1600) σ' → LJ Y (I2 Y w σ') 1588 (LL Y w a) [] k N) : LJ Y (I2 Y w σ) 623 (LL Y w a) [] k N := by
  obtain ⟨r, P1, hM1, hR1⟩ := st_needed hw.2.2.1 (xs (a + 1)) σ hR hN
  refine lj_aload_n h dL_law_623 1 rfl ?_
  refine lj_aload_n h dL_law_624 0 rfl ?_
  refine lj_iload_n h dL_law_625 3 rfl ?_
  refine lj_iconst h dL_law_626 (by decide) ?_
  refine lj_iadd h dL_law_627 ?_
  refine lj_sld h i2_S dL_law_628 (by omega) hLx ?_
  refine lj_cv (rest := []) h hw hM1 lX11_needed mL_70 (by decide) (by decide) sc_12 rfl rfl rfl rfl dL_law_629 hk9 hN9 (fun σ1 h1 => ?_)
  obtain ⟨P2, hM2, hR2⟩ := hR1 σ1 h1
  refine lj_aload_n h dL_law_632 2 rfl ?_
  refine lj_aload_n h dL_law_633 0 rfl ?_
  refine lj_iload_n h dL_law_634 3 rfl ?_
  refine lj_iconst h dL_law_635 (by decide) ?_
  refine lj_iadd h dL_law_636 ?_
  refine lj_sld h i2_S dL_law_637 (by omega) hLx ?_
  refine lj_cv (rest := [.int r]) h hw hM2 lX12_needed mL_73 (by decide) (by decide) sc_0 rfl rfl rfl rfl dL_law_638 hk9 hN9 (fun σ2 h2 => ?_)
  refine lj_icmp_eq h dL_law_641 ?_
  exact next σ2 (hR2 σ2 h2)
theorem lc_waste (h : LF Y Lx xs) (hw : LW Y w) (hLx : Lx ≤ 3072) (a : Nat) (ha : a + 5 < Lx) {Nn : Nat} (hR : LX Nn σ) (hN : Nn < 2 ^ 29) (hk9 : k ≤ 600000) (hN9 : N ≤ 7302250) (next : ∀ σ', LX (Nn + 1600) σ' → LJ Y (I2 Y w σ') 1588 (LL Y w a) [] k N) : LJ Y (I2 Y w σ) 646 (LL Y w a) [] k N := by
  obtain ⟨r, P1, hM1, hR1⟩ := st_waste hw.2.2.1  σ hR hN
  refine lj_aload_n h dL_law_646 1 rfl ?_
  refine lj_cv (rest := []) h hw hM1 lX11_waste mL_74 (by decide) (by decide) sc_12 rfl rfl rfl rfl dL_law_647 hk9 hN9 (fun σ1 h1 => ?_)
  obtain ⟨P2, hM2, hR2⟩ := hR1 σ1 h1
  refine lj_aload_n h dL_law_650 2 rfl ?_
  refine lj_cv (rest := [.int r]) h hw hM2 lX12_waste mL_77 (by decide) (by decide) sc_0 rfl rfl rfl rfl dL_law_651 hk9 hN9 (fun σ2 h2 => ?_)
  refine lj_icmp_eq h dL_law_654 ?_
  exact next σ2 (hR2 σ2 h2)
theorem lc_route (h : LF Y Lx xs) (hw : LW Y w) (hLx : Lx ≤ 3072) (a : Nat) (ha : a + 5 < Lx) {Nn : Nat} (hR : LX Nn σ) (hN : Nn < 2 ^ 29) (hk9 : k ≤ 600000) (hN9 : N ≤ 7302250) (next : ∀ σ', LX (Nn + 1600) σ' → LJ Y (I2 Y w σ') 1588 (LL Y w a) [] k N) : LJ Y (I2 Y w σ) 659 (LL Y w a) [] k N := by
  obtain ⟨r, P1, hM1, hR1⟩ := st_route hw.2.2.1 (xs (a + 1)) (xs (a + 2)) (xs (a + 3)) σ hR hN
  refine lj_aload_n h dL_law_659 1 rfl ?_
  refine lj_aload_n h dL_law_660 0 rfl ?_
  refine lj_iload_n h dL_law_661 3 rfl ?_
  refine lj_iconst h dL_law_662 (by decide) ?_
  refine lj_iadd h dL_law_663 ?_
  refine lj_sld h i2_S dL_law_664 (by omega) hLx ?_
  refine lj_aload_n h dL_law_665 0 rfl ?_
  refine lj_iload_n h dL_law_666 3 rfl ?_
  refine lj_iconst h dL_law_667 (by decide) ?_
  refine lj_iadd h dL_law_668 ?_
  refine lj_sld h i2_S dL_law_669 (by omega) hLx ?_
  refine lj_aload_n h dL_law_670 0 rfl ?_
  refine lj_iload_n h dL_law_671 3 rfl ?_
  refine lj_iconst h dL_law_672 (by decide) ?_
  refine lj_iadd h dL_law_673 ?_
  refine lj_sld h i2_S dL_law_674 (by omega) hLx ?_
  refine lj_cv (rest := []) h hw hM1 lX11_route mL_78 (by decide) (by decide) sc_12 rfl rfl rfl rfl dL_law_675 hk9 hN9 (fun σ1 h1 => ?_)
  obtain ⟨P2, hM2, hR2⟩ := hR1 σ1 h1
  refine lj_aload_n h dL_law_678 2 rfl ?_
  refine lj_aload_n h dL_law_679 0 rfl ?_
  refine lj_iload_n h dL_law_680 3 rfl ?_
  refine lj_iconst h dL_law_681 (by decide) ?_
  refine lj_iadd h dL_law_682 ?_
  refine lj_sld h i2_S dL_law_683 (by omega) hLx ?_
  refine lj_aload_n h dL_law_684 0 rfl ?_
  refine lj_iload_n h dL_law_685 3 rfl ?_
  refine lj_iconst h dL_law_686 (by decide) ?_
  refine lj_iadd h dL_law_687 ?_
  refine lj_sld h i2_S dL_law_688 (by omega) hLx ?_
  refine lj_aload_n h dL_law_689 0 rfl ?_
  refine lj_iload_n h dL_law_690 3 rfl ?_
  refine lj_iconst h dL_law_691 (by decide) ?_
  refine lj_iadd h dL_law_692 ?_
  refine lj_sld h i2_S dL_law_693 (by omega) hLx ?_
  refine lj_cv (rest := [.int r]) h hw hM2 lX12_route mL_81 (by decide) (by decide) sc_0 rfl rfl rfl rfl dL_law_694 hk9 hN9 (fun σ2 h2 => ?_)
  refine lj_icmp_eq h dL_law_697 ?_
  exact next σ2 (hR2 σ2 h2)
theorem lc_table (h : LF Y Lx xs) (hw : LW Y w) (hLx : Lx ≤ 3072) (a : Nat) (ha : a + 5 < Lx) {Nn : Nat} (hR : LX Nn σ) (hN : Nn < 2 ^ 29) (hk9 : k ≤ 600000) (hN9 : N ≤ 7302250) (next : ∀ σ', LX (Nn + 1600) σ' → LJ Y (I2 Y w σ') 1588 (LL Y w a) [] k N) : LJ Y (I2 Y w σ) 702 (LL Y w a) [] k N := by
  obtain ⟨r, P1, hM1, hR1⟩ := st_table hw.2.2.1 (xs (a + 1)) σ hR hN
  refine lj_aload_n h dL_law_702 1 rfl ?_
  refine lj_aload_n h dL_law_703 0 rfl ?_
  refine lj_iload_n h dL_law_704 3 rfl ?_
  refine lj_iconst h dL_law_705 (by decide) ?_
  refine lj_iadd h dL_law_706 ?_
  refine lj_sld h i2_S dL_law_707 (by omega) hLx ?_
  refine lj_cv (rest := []) h hw hM1 lX11_table mL_82 (by decide) (by decide) sc_12 rfl rfl rfl rfl dL_law_708 hk9 hN9 (fun σ1 h1 => ?_)
  obtain ⟨P2, hM2, hR2⟩ := hR1 σ1 h1
  refine lj_aload_n h dL_law_711 2 rfl ?_
  refine lj_aload_n h dL_law_712 0 rfl ?_
  refine lj_iload_n h dL_law_713 3 rfl ?_
  refine lj_iconst h dL_law_714 (by decide) ?_
  refine lj_iadd h dL_law_715 ?_
  refine lj_sld h i2_S dL_law_716 (by omega) hLx ?_
  refine lj_cv (rest := [.int r]) h hw hM2 lX12_table mL_85 (by decide) (by decide) sc_0 rfl rfl rfl rfl dL_law_717 hk9 hN9 (fun σ2 h2 => ?_)
  refine lj_icmp_eq h dL_law_720 ?_
  exact next σ2 (hR2 σ2 h2)
theorem lc_goes (h : LF Y Lx xs) (hw : LW Y w) (hLx : Lx ≤ 3072) (a : Nat) (ha : a + 5 < Lx) {Nn : Nat} (hR : LX Nn σ) (hN : Nn < 2 ^ 29) (hk9 : k ≤ 600000) (hN9 : N ≤ 7302250) (next : ∀ σ', LX (Nn + 1600) σ' → LJ Y (I2 Y w σ') 1588 (LL Y w a) [] k N) : LJ Y (I2 Y w σ) 725 (LL Y w a) [] k N := by
  obtain ⟨r, P1, hM1, hR1⟩ := st_goes hw.2.2.1 (xs (a + 1)) (xs (a + 2)) (xs (a + 3)) σ hR hN
  refine lj_aload_n h dL_law_725 1 rfl ?_
  refine lj_aload_n h dL_law_726 0 rfl ?_
  refine lj_iload_n h dL_law_727 3 rfl ?_
  refine lj_iconst h dL_law_728 (by decide) ?_
  refine lj_iadd h dL_law_729 ?_
  refine lj_sld h i2_S dL_law_730 (by omega) hLx ?_
  refine lj_aload_n h dL_law_731 0 rfl ?_
  refine lj_iload_n h dL_law_732 3 rfl ?_
  refine lj_iconst h dL_law_733 (by decide) ?_
  refine lj_iadd h dL_law_734 ?_
  refine lj_sld h i2_S dL_law_735 (by omega) hLx ?_
  refine lj_aload_n h dL_law_736 0 rfl ?_
  refine lj_iload_n h dL_law_737 3 rfl ?_
  refine lj_iconst h dL_law_738 (by decide) ?_
  refine lj_iadd h dL_law_739 ?_
  refine lj_sld h i2_S dL_law_740 (by omega) hLx ?_
  refine lj_cv (rest := []) h hw hM1 lX11_goes mL_86 (by decide) (by decide) sc_12 rfl rfl rfl rfl dL_law_741 hk9 hN9 (fun σ1 h1 => ?_)
  obtain ⟨P2, hM2, hR2⟩ := hR1 σ1 h1
  refine lj_aload_n h dL_law_744 2 rfl ?_
  refine lj_aload_n h dL_law_745 0 rfl ?_
  refine lj_iload_n h dL_law_746 3 rfl ?_
  refine lj_iconst h dL_law_747 (by decide) ?_
  refine lj_iadd h dL_law_748 ?_
  refine lj_sld h i2_S dL_law_749 (by omega) hLx ?_
  refine lj_aload_n h dL_law_750 0 rfl ?_
  refine lj_iload_n h dL_law_751 3 rfl ?_
  refine lj_iconst h dL_law_752 (by decide) ?_
  refine lj_iadd h dL_law_753 ?_
  refine lj_sld h i2_S dL_law_754 (by omega) hLx ?_
  refine lj_aload_n h dL_law_755 0 rfl ?_
  refine lj_iload_n h dL_law_756 3 rfl ?_
  refine lj_iconst h dL_law_757 (by decide) ?_
  refine lj_iadd h dL_law_758 ?_
  refine lj_sld h i2_S dL_law_759 (by omega) hLx ?_
  refine lj_cv (rest := [.int r]) h hw hM2 lX12_goes mL_89 (by decide) (by decide) sc_0 rfl rfl rfl rfl dL_law_760 hk9 hN9 (fun σ2 h2 => ?_)
  refine lj_icmp_eq h dL_law_763 ?_
  exact next σ2 (hR2 σ2 h2)
theorem lc_far (h : LF Y Lx xs) (hw : LW Y w) (hLx : Lx ≤ 3072) (a : Nat) (ha : a + 5 < Lx) {Nn : Nat} (hR : LX Nn σ) (hN : Nn < 2 ^ 29) (hk9 : k ≤ 600000) (hN9 : N ≤ 7302250) (next : ∀ σ', LX (Nn + 1600) σ' → LJ Y (I2 Y w σ') 1588 (LL Y w a) [] k N) : LJ Y (I2 Y w σ) 768 (LL Y w a) [] k N := by
  obtain ⟨r, P1, hM1, hR1⟩ := st_far hw.2.2.1 (xs (a + 1)) (xs (a + 2)) σ hR hN
  refine lj_aload_n h dL_law_768 1 rfl ?_
  refine lj_aload_n h dL_law_769 0 rfl ?_
  refine lj_iload_n h dL_law_770 3 rfl ?_
  refine lj_iconst h dL_law_771 (by decide) ?_
  refine lj_iadd h dL_law_772 ?_
  refine lj_sld h i2_S dL_law_773 (by omega) hLx ?_
  refine lj_aload_n h dL_law_774 0 rfl ?_
  refine lj_iload_n h dL_law_775 3 rfl ?_
  refine lj_iconst h dL_law_776 (by decide) ?_
  refine lj_iadd h dL_law_777 ?_
  refine lj_sld h i2_S dL_law_778 (by omega) hLx ?_
  refine lj_cv (rest := []) h hw hM1 lX11_far mL_90 (by decide) (by decide) sc_12 rfl rfl rfl rfl dL_law_779 hk9 hN9 (fun σ1 h1 => ?_)
  obtain ⟨P2, hM2, hR2⟩ := hR1 σ1 h1
  refine lj_aload_n h dL_law_782 2 rfl ?_
  refine lj_aload_n h dL_law_783 0 rfl ?_
  refine lj_iload_n h dL_law_784 3 rfl ?_
  refine lj_iconst h dL_law_785 (by decide) ?_
  refine lj_iadd h dL_law_786 ?_
  refine lj_sld h i2_S dL_law_787 (by omega) hLx ?_
  refine lj_aload_n h dL_law_788 0 rfl ?_
  refine lj_iload_n h dL_law_789 3 rfl ?_
  refine lj_iconst h dL_law_790 (by decide) ?_
  refine lj_iadd h dL_law_791 ?_
  refine lj_sld h i2_S dL_law_792 (by omega) hLx ?_
  refine lj_cv (rest := [.int r]) h hw hM2 lX12_far mL_93 (by decide) (by decide) sc_0 rfl rfl rfl rfl dL_law_793 hk9 hN9 (fun σ2 h2 => ?_)
  refine lj_icmp_eq h dL_law_796 ?_
  exact next σ2 (hR2 σ2 h2)
theorem lc_wrong (h : LF Y Lx xs) (hw : LW Y w) (hLx : Lx ≤ 3072) (a : Nat) (ha : a + 5 < Lx) {Nn : Nat} (hR : LX Nn σ) (hN : Nn < 2 ^ 29) (hk9 : k ≤ 600000) (hN9 : N ≤ 7302250) (next : ∀ σ', LX (Nn + 1600) σ' → LJ Y (I2 Y w σ') 1588 (LL Y w a) [] k N) : LJ Y (I2 Y w σ) 801 (LL Y w a) [] k N := by
  obtain ⟨r, P1, hM1, hR1⟩ := st_wrong hw.2.2.1 (xs (a + 1)) (xs (a + 2)) σ hR hN
  refine lj_aload_n h dL_law_801 1 rfl ?_
  refine lj_aload_n h dL_law_802 0 rfl ?_
  refine lj_iload_n h dL_law_803 3 rfl ?_
  refine lj_iconst h dL_law_804 (by decide) ?_
  refine lj_iadd h dL_law_805 ?_
  refine lj_sld h i2_S dL_law_806 (by omega) hLx ?_
  refine lj_aload_n h dL_law_807 0 rfl ?_
  refine lj_iload_n h dL_law_808 3 rfl ?_
  refine lj_iconst h dL_law_809 (by decide) ?_
  refine lj_iadd h dL_law_810 ?_
  refine lj_sld h i2_S dL_law_811 (by omega) hLx ?_
  refine lj_cv (rest := []) h hw hM1 lX11_wrong mL_94 (by decide) (by decide) sc_12 rfl rfl rfl rfl dL_law_812 hk9 hN9 (fun σ1 h1 => ?_)
  obtain ⟨P2, hM2, hR2⟩ := hR1 σ1 h1
  refine lj_aload_n h dL_law_815 2 rfl ?_
  refine lj_aload_n h dL_law_816 0 rfl ?_
  refine lj_iload_n h dL_law_817 3 rfl ?_
  refine lj_iconst h dL_law_818 (by decide) ?_
  refine lj_iadd h dL_law_819 ?_
  refine lj_sld h i2_S dL_law_820 (by omega) hLx ?_
  refine lj_aload_n h dL_law_821 0 rfl ?_
  refine lj_iload_n h dL_law_822 3 rfl ?_
  refine lj_iconst h dL_law_823 (by decide) ?_
  refine lj_iadd h dL_law_824 ?_
  refine lj_sld h i2_S dL_law_825 (by omega) hLx ?_
  refine lj_cv (rest := [.int r]) h hw hM2 lX12_wrong mL_97 (by decide) (by decide) sc_0 rfl rfl rfl rfl dL_law_826 hk9 hN9 (fun σ2 h2 => ?_)
  refine lj_icmp_eq h dL_law_829 ?_
  exact next σ2 (hR2 σ2 h2)
theorem lc_told (h : LF Y Lx xs) (hw : LW Y w) (hLx : Lx ≤ 3072) (a : Nat) (ha : a + 5 < Lx) {Nn : Nat} (hR : LX Nn σ) (hN : Nn < 2 ^ 29) (hk9 : k ≤ 600000) (hN9 : N ≤ 7302250) (next : ∀ σ', LX (Nn + 1600) σ' → LJ Y (I2 Y w σ') 1588 (LL Y w a) [] k N) : LJ Y (I2 Y w σ) 834 (LL Y w a) [] k N := by
  obtain ⟨r, P1, hM1, hR1⟩ := st_told hw.2.2.1  σ hR hN
  refine lj_aload_n h dL_law_834 1 rfl ?_
  refine lj_cv (rest := []) h hw hM1 lX11_told mL_98 (by decide) (by decide) sc_12 rfl rfl rfl rfl dL_law_835 hk9 hN9 (fun σ1 h1 => ?_)
  obtain ⟨P2, hM2, hR2⟩ := hR1 σ1 h1
  refine lj_aload_n h dL_law_838 2 rfl ?_
  refine lj_cv (rest := [.int r]) h hw hM2 lX12_told mL_101 (by decide) (by decide) sc_0 rfl rfl rfl rfl dL_law_839 hk9 hN9 (fun σ2 h2 => ?_)
  refine lj_icmp_eq h dL_law_842 ?_
  exact next σ2 (hR2 σ2 h2)
theorem lc_settles (h : LF Y Lx xs) (hw : LW Y w) (hLx : Lx ≤ 3072) (a : Nat) (ha : a + 5 < Lx) {Nn : Nat} (hR : LX Nn σ) (hN : Nn < 2 ^ 29) (hk9 : k ≤ 600000) (hN9 : N ≤ 7302250) (next : ∀ σ', LX (Nn + 1600) σ' → LJ Y (I2 Y w σ') 1588 (LL Y w a) [] k N) : LJ Y (I2 Y w σ) 847 (LL Y w a) [] k N := by
  obtain ⟨r, P1, hM1, hR1⟩ := st_settles hw.2.2.1  σ hR hN
  refine lj_aload_n h dL_law_847 1 rfl ?_
  refine lj_cv (rest := []) h hw hM1 lX11_settles mL_102 (by decide) (by decide) sc_12 rfl rfl rfl rfl dL_law_848 hk9 hN9 (fun σ1 h1 => ?_)
  obtain ⟨P2, hM2, hR2⟩ := hR1 σ1 h1
  refine lj_aload_n h dL_law_851 2 rfl ?_
  refine lj_cv (rest := [.int r]) h hw hM2 lX12_settles mL_105 (by decide) (by decide) sc_0 rfl rfl rfl rfl dL_law_852 hk9 hN9 (fun σ2 h2 => ?_)
  refine lj_icmp_eq h dL_law_855 ?_
  exact next σ2 (hR2 σ2 h2)
theorem lc_path (h : LF Y Lx xs) (hw : LW Y w) (hLx : Lx ≤ 3072) (a : Nat) (ha : a + 5 < Lx) {Nn : Nat} (hR : LX Nn σ) (hN : Nn < 2 ^ 29) (hk9 : k ≤ 600000) (hN9 : N ≤ 7302250) (next : ∀ σ', LX (Nn + 1600) σ' → LJ Y (I2 Y w σ') 1588 (LL Y w a) [] k N) : LJ Y (I2 Y w σ) 860 (LL Y w a) [] k N := by
  obtain ⟨r, P1, hM1, hR1⟩ := st_path hw.2.2.1 (xs (a + 1)) (xs (a + 2)) (xs (a + 3)) σ hR hN
  refine lj_aload_n h dL_law_860 1 rfl ?_
  refine lj_aload_n h dL_law_861 0 rfl ?_
  refine lj_iload_n h dL_law_862 3 rfl ?_
  refine lj_iconst h dL_law_863 (by decide) ?_
  refine lj_iadd h dL_law_864 ?_
  refine lj_sld h i2_S dL_law_865 (by omega) hLx ?_
  refine lj_aload_n h dL_law_866 0 rfl ?_
  refine lj_iload_n h dL_law_867 3 rfl ?_
  refine lj_iconst h dL_law_868 (by decide) ?_
  refine lj_iadd h dL_law_869 ?_
  refine lj_sld h i2_S dL_law_870 (by omega) hLx ?_
  refine lj_aload_n h dL_law_871 0 rfl ?_
  refine lj_iload_n h dL_law_872 3 rfl ?_
  refine lj_iconst h dL_law_873 (by decide) ?_
  refine lj_iadd h dL_law_874 ?_
  refine lj_sld h i2_S dL_law_875 (by omega) hLx ?_
  refine lj_cv (rest := []) h hw hM1 lX11_path mL_106 (by decide) (by decide) sc_12 rfl rfl rfl rfl dL_law_876 hk9 hN9 (fun σ1 h1 => ?_)
  obtain ⟨P2, hM2, hR2⟩ := hR1 σ1 h1
  refine lj_aload_n h dL_law_879 2 rfl ?_
  refine lj_aload_n h dL_law_880 0 rfl ?_
  refine lj_iload_n h dL_law_881 3 rfl ?_
  refine lj_iconst h dL_law_882 (by decide) ?_
  refine lj_iadd h dL_law_883 ?_
  refine lj_sld h i2_S dL_law_884 (by omega) hLx ?_
  refine lj_aload_n h dL_law_885 0 rfl ?_
  refine lj_iload_n h dL_law_886 3 rfl ?_
  refine lj_iconst h dL_law_887 (by decide) ?_
  refine lj_iadd h dL_law_888 ?_
  refine lj_sld h i2_S dL_law_889 (by omega) hLx ?_
  refine lj_aload_n h dL_law_890 0 rfl ?_
  refine lj_iload_n h dL_law_891 3 rfl ?_
  refine lj_iconst h dL_law_892 (by decide) ?_
  refine lj_iadd h dL_law_893 ?_
  refine lj_sld h i2_S dL_law_894 (by omega) hLx ?_
  refine lj_cv (rest := [.int r]) h hw hM2 lX12_path mL_109 (by decide) (by decide) sc_0 rfl rfl rfl rfl dL_law_895 hk9 hN9 (fun σ2 h2 => ?_)
  refine lj_icmp_eq h dL_law_898 ?_
  exact next σ2 (hR2 σ2 h2)
theorem lc_busy (h : LF Y Lx xs) (hw : LW Y w) (hLx : Lx ≤ 3072) (a : Nat) (ha : a + 5 < Lx) {Nn : Nat} (hR : LX Nn σ) (hN : Nn < 2 ^ 29) (hk9 : k ≤ 600000) (hN9 : N ≤ 7302250) (next : ∀ σ', LX (Nn + 1600) σ' → LJ Y (I2 Y w σ') 1588 (LL Y w a) [] k N) : LJ Y (I2 Y w σ) 903 (LL Y w a) [] k N := by
  obtain ⟨r, P1, hM1, hR1⟩ := st_busy hw.2.2.1 (xs (a + 1)) σ hR hN
  refine lj_aload_n h dL_law_903 1 rfl ?_
  refine lj_aload_n h dL_law_904 0 rfl ?_
  refine lj_iload_n h dL_law_905 3 rfl ?_
  refine lj_iconst h dL_law_906 (by decide) ?_
  refine lj_iadd h dL_law_907 ?_
  refine lj_sld h i2_S dL_law_908 (by omega) hLx ?_
  refine lj_cv (rest := []) h hw hM1 lX11_busy mL_110 (by decide) (by decide) sc_12 rfl rfl rfl rfl dL_law_909 hk9 hN9 (fun σ1 h1 => ?_)
  obtain ⟨P2, hM2, hR2⟩ := hR1 σ1 h1
  refine lj_aload_n h dL_law_912 2 rfl ?_
  refine lj_aload_n h dL_law_913 0 rfl ?_
  refine lj_iload_n h dL_law_914 3 rfl ?_
  refine lj_iconst h dL_law_915 (by decide) ?_
  refine lj_iadd h dL_law_916 ?_
  refine lj_sld h i2_S dL_law_917 (by omega) hLx ?_
  refine lj_cv (rest := [.int r]) h hw hM2 lX12_busy mL_113 (by decide) (by decide) sc_0 rfl rfl rfl rfl dL_law_918 hk9 hN9 (fun σ2 h2 => ?_)
  refine lj_icmp_eq h dL_law_921 ?_
  exact next σ2 (hR2 σ2 h2)
theorem lc_sure (h : LF Y Lx xs) (hw : LW Y w) (hLx : Lx ≤ 3072) (a : Nat) (ha : a + 5 < Lx) {Nn : Nat} (hR : LX Nn σ) (hN : Nn < 2 ^ 29) (hk9 : k ≤ 600000) (hN9 : N ≤ 7302250) (next : ∀ σ', LX (Nn + 1600) σ' → LJ Y (I2 Y w σ') 1588 (LL Y w a) [] k N) : LJ Y (I2 Y w σ) 926 (LL Y w a) [] k N := by
  obtain ⟨r, P1, hM1, hR1⟩ := st_sure hw.2.2.1 (xs (a + 1)) (xs (a + 2)) σ hR hN
  refine lj_aload_n h dL_law_926 1 rfl ?_
  refine lj_aload_n h dL_law_927 0 rfl ?_
  refine lj_iload_n h dL_law_928 3 rfl ?_
  refine lj_iconst h dL_law_929 (by decide) ?_
  refine lj_iadd h dL_law_930 ?_
  refine lj_sld h i2_S dL_law_931 (by omega) hLx ?_
  refine lj_aload_n h dL_law_932 0 rfl ?_
  refine lj_iload_n h dL_law_933 3 rfl ?_
  refine lj_iconst h dL_law_934 (by decide) ?_
  refine lj_iadd h dL_law_935 ?_
  refine lj_sld h i2_S dL_law_936 (by omega) hLx ?_
  refine lj_cv (rest := []) h hw hM1 lX11_sure mL_114 (by decide) (by decide) sc_12 rfl rfl rfl rfl dL_law_937 hk9 hN9 (fun σ1 h1 => ?_)
  obtain ⟨P2, hM2, hR2⟩ := hR1 σ1 h1
  refine lj_aload_n h dL_law_940 2 rfl ?_
  refine lj_aload_n h dL_law_941 0 rfl ?_
  refine lj_iload_n h dL_law_942 3 rfl ?_
  refine lj_iconst h dL_law_943 (by decide) ?_
  refine lj_iadd h dL_law_944 ?_
  refine lj_sld h i2_S dL_law_945 (by omega) hLx ?_
  refine lj_aload_n h dL_law_946 0 rfl ?_
  refine lj_iload_n h dL_law_947 3 rfl ?_
  refine lj_iconst h dL_law_948 (by decide) ?_
  refine lj_iadd h dL_law_949 ?_
  refine lj_sld h i2_S dL_law_950 (by omega) hLx ?_
  refine lj_cv (rest := [.int r]) h hw hM2 lX12_sure mL_117 (by decide) (by decide) sc_0 rfl rfl rfl rfl dL_law_951 hk9 hN9 (fun σ2 h2 => ?_)
  refine lj_icmp_eq h dL_law_954 ?_
  exact next σ2 (hR2 σ2 h2)
theorem lc_astray (h : LF Y Lx xs) (hw : LW Y w) (hLx : Lx ≤ 3072) (a : Nat) (ha : a + 5 < Lx) {Nn : Nat} (hR : LX Nn σ) (hN : Nn < 2 ^ 29) (hk9 : k ≤ 600000) (hN9 : N ≤ 7302250) (next : ∀ σ', LX (Nn + 1600) σ' → LJ Y (I2 Y w σ') 1588 (LL Y w a) [] k N) : LJ Y (I2 Y w σ) 959 (LL Y w a) [] k N := by
  obtain ⟨r, P1, hM1, hR1⟩ := st_astray hw.2.2.1 (xs (a + 1)) σ hR hN
  refine lj_aload_n h dL_law_959 1 rfl ?_
  refine lj_aload_n h dL_law_960 0 rfl ?_
  refine lj_iload_n h dL_law_961 3 rfl ?_
  refine lj_iconst h dL_law_962 (by decide) ?_
  refine lj_iadd h dL_law_963 ?_
  refine lj_sld h i2_S dL_law_964 (by omega) hLx ?_
  refine lj_cv (rest := []) h hw hM1 lX11_astray mL_118 (by decide) (by decide) sc_12 rfl rfl rfl rfl dL_law_965 hk9 hN9 (fun σ1 h1 => ?_)
  obtain ⟨P2, hM2, hR2⟩ := hR1 σ1 h1
  refine lj_aload_n h dL_law_968 2 rfl ?_
  refine lj_aload_n h dL_law_969 0 rfl ?_
  refine lj_iload_n h dL_law_970 3 rfl ?_
  refine lj_iconst h dL_law_971 (by decide) ?_
  refine lj_iadd h dL_law_972 ?_
  refine lj_sld h i2_S dL_law_973 (by omega) hLx ?_
  refine lj_cv (rest := [.int r]) h hw hM2 lX12_astray mL_121 (by decide) (by decide) sc_0 rfl rfl rfl rfl dL_law_974 hk9 hN9 (fun σ2 h2 => ?_)
  refine lj_icmp_eq h dL_law_977 ?_
  exact next σ2 (hR2 σ2 h2)
theorem lc_proves (h : LF Y Lx xs) (hw : LW Y w) (hLx : Lx ≤ 3072) (a : Nat) (ha : a + 5 < Lx) {Nn : Nat} (hR : LX Nn σ) (hN : Nn < 2 ^ 29) (hk9 : k ≤ 600000) (hN9 : N ≤ 7302250) (next : ∀ σ', LX (Nn + 1600) σ' → LJ Y (I2 Y w σ') 1588 (LL Y w a) [] k N) : LJ Y (I2 Y w σ) 982 (LL Y w a) [] k N := by
  obtain ⟨r, P1, hM1, hR1⟩ := st_proves hw.2.2.1 (xs (a + 1)) (xs (a + 2)) (xs (a + 3)) (xs (a + 4)) (xs (a + 5)) σ hR hN
  refine lj_aload_n h dL_law_982 1 rfl ?_
  refine lj_aload_n h dL_law_983 0 rfl ?_
  refine lj_iload_n h dL_law_984 3 rfl ?_
  refine lj_iconst h dL_law_985 (by decide) ?_
  refine lj_iadd h dL_law_986 ?_
  refine lj_sld h i2_S dL_law_987 (by omega) hLx ?_
  refine lj_aload_n h dL_law_988 0 rfl ?_
  refine lj_iload_n h dL_law_989 3 rfl ?_
  refine lj_iconst h dL_law_990 (by decide) ?_
  refine lj_iadd h dL_law_991 ?_
  refine lj_sld h i2_S dL_law_992 (by omega) hLx ?_
  refine lj_aload_n h dL_law_993 0 rfl ?_
  refine lj_iload_n h dL_law_994 3 rfl ?_
  refine lj_iconst h dL_law_995 (by decide) ?_
  refine lj_iadd h dL_law_996 ?_
  refine lj_sld h i2_S dL_law_997 (by omega) hLx ?_
  refine lj_aload_n h dL_law_998 0 rfl ?_
  refine lj_iload_n h dL_law_999 3 rfl ?_
  refine lj_iconst h dL_law_1000 (by decide) ?_
  refine lj_iadd h dL_law_1001 ?_
  refine lj_sld h i2_S dL_law_1002 (by omega) hLx ?_
  refine lj_aload_n h dL_law_1003 0 rfl ?_
  refine lj_iload_n h dL_law_1004 3 rfl ?_
  refine lj_iconst h dL_law_1005 (by decide) ?_
  refine lj_iadd h dL_law_1006 ?_
  refine lj_sld h i2_S dL_law_1007 (by omega) hLx ?_
  refine lj_cv (rest := []) h hw hM1 lX11_proves mL_122 (by decide) (by decide) sc_12 rfl rfl rfl rfl dL_law_1008 hk9 hN9 (fun σ1 h1 => ?_)
  obtain ⟨P2, hM2, hR2⟩ := hR1 σ1 h1
  refine lj_aload_n h dL_law_1011 2 rfl ?_
  refine lj_aload_n h dL_law_1012 0 rfl ?_
  refine lj_iload_n h dL_law_1013 3 rfl ?_
  refine lj_iconst h dL_law_1014 (by decide) ?_
  refine lj_iadd h dL_law_1015 ?_
  refine lj_sld h i2_S dL_law_1016 (by omega) hLx ?_
  refine lj_aload_n h dL_law_1017 0 rfl ?_
  refine lj_iload_n h dL_law_1018 3 rfl ?_
  refine lj_iconst h dL_law_1019 (by decide) ?_
  refine lj_iadd h dL_law_1020 ?_
  refine lj_sld h i2_S dL_law_1021 (by omega) hLx ?_
  refine lj_aload_n h dL_law_1022 0 rfl ?_
  refine lj_iload_n h dL_law_1023 3 rfl ?_
  refine lj_iconst h dL_law_1024 (by decide) ?_
  refine lj_iadd h dL_law_1025 ?_
  refine lj_sld h i2_S dL_law_1026 (by omega) hLx ?_
  refine lj_aload_n h dL_law_1027 0 rfl ?_
  refine lj_iload_n h dL_law_1028 3 rfl ?_
  refine lj_iconst h dL_law_1029 (by decide) ?_
  refine lj_iadd h dL_law_1030 ?_
  refine lj_sld h i2_S dL_law_1031 (by omega) hLx ?_
  refine lj_aload_n h dL_law_1032 0 rfl ?_
  refine lj_iload_n h dL_law_1033 3 rfl ?_
  refine lj_iconst h dL_law_1034 (by decide) ?_
  refine lj_iadd h dL_law_1035 ?_
  refine lj_sld h i2_S dL_law_1036 (by omega) hLx ?_
  refine lj_cv (rest := [.int r]) h hw hM2 lX12_proves mL_125 (by decide) (by decide) sc_0 rfl rfl rfl rfl dL_law_1037 hk9 hN9 (fun σ2 h2 => ?_)
  refine lj_icmp_eq h dL_law_1040 ?_
  exact next σ2 (hR2 σ2 h2)
theorem lc_spine (h : LF Y Lx xs) (hw : LW Y w) (hLx : Lx ≤ 3072) (a : Nat) (ha : a + 5 < Lx) {Nn : Nat} (hR : LX Nn σ) (hN : Nn < 2 ^ 29) (hk9 : k ≤ 600000) (hN9 : N ≤ 7302250) (next : ∀ σ', LX (Nn + 1600) σ' → LJ Y (I2 Y w σ') 1588 (LL Y w a) [] k N) : LJ Y (I2 Y w σ) 1045 (LL Y w a) [] k N := by
  obtain ⟨r, P1, hM1, hR1⟩ := st_spine hw.2.2.1 (xs (a + 1)) σ hR hN
  refine lj_aload_n h dL_law_1045 1 rfl ?_
  refine lj_aload_n h dL_law_1046 0 rfl ?_
  refine lj_iload_n h dL_law_1047 3 rfl ?_
  refine lj_iconst h dL_law_1048 (by decide) ?_
  refine lj_iadd h dL_law_1049 ?_
  refine lj_sld h i2_S dL_law_1050 (by omega) hLx ?_
  refine lj_cv (rest := []) h hw hM1 lX11_spine mL_126 (by decide) (by decide) sc_12 rfl rfl rfl rfl dL_law_1051 hk9 hN9 (fun σ1 h1 => ?_)
  obtain ⟨P2, hM2, hR2⟩ := hR1 σ1 h1
  refine lj_aload_n h dL_law_1054 2 rfl ?_
  refine lj_aload_n h dL_law_1055 0 rfl ?_
  refine lj_iload_n h dL_law_1056 3 rfl ?_
  refine lj_iconst h dL_law_1057 (by decide) ?_
  refine lj_iadd h dL_law_1058 ?_
  refine lj_sld h i2_S dL_law_1059 (by omega) hLx ?_
  refine lj_cv (rest := [.int r]) h hw hM2 lX12_spine mL_129 (by decide) (by decide) sc_0 rfl rfl rfl rfl dL_law_1060 hk9 hN9 (fun σ2 h2 => ?_)
  refine lj_icmp_eq h dL_law_1063 ?_
  exact next σ2 (hR2 σ2 h2)
theorem lc_cuts (h : LF Y Lx xs) (hw : LW Y w) (hLx : Lx ≤ 3072) (a : Nat) (ha : a + 5 < Lx) {Nn : Nat} (hR : LX Nn σ) (hN : Nn < 2 ^ 29) (hk9 : k ≤ 600000) (hN9 : N ≤ 7302250) (next : ∀ σ', LX (Nn + 1600) σ' → LJ Y (I2 Y w σ') 1588 (LL Y w a) [] k N) : LJ Y (I2 Y w σ) 1068 (LL Y w a) [] k N := by
  obtain ⟨r, P1, hM1, hR1⟩ := st_cuts hw.2.2.1  σ hR hN
  refine lj_aload_n h dL_law_1068 1 rfl ?_
  refine lj_cv (rest := []) h hw hM1 lX11_cuts mL_130 (by decide) (by decide) sc_12 rfl rfl rfl rfl dL_law_1069 hk9 hN9 (fun σ1 h1 => ?_)
  obtain ⟨P2, hM2, hR2⟩ := hR1 σ1 h1
  refine lj_aload_n h dL_law_1072 2 rfl ?_
  refine lj_cv (rest := [.int r]) h hw hM2 lX12_cuts mL_133 (by decide) (by decide) sc_0 rfl rfl rfl rfl dL_law_1073 hk9 hN9 (fun σ2 h2 => ?_)
  refine lj_icmp_eq h dL_law_1076 ?_
  exact next σ2 (hR2 σ2 h2)
theorem lc_mends (h : LF Y Lx xs) (hw : LW Y w) (hLx : Lx ≤ 3072) (a : Nat) (ha : a + 5 < Lx) {Nn : Nat} (hR : LX Nn σ) (hN : Nn < 2 ^ 29) (hk9 : k ≤ 600000) (hN9 : N ≤ 7302250) (next : ∀ σ', LX (Nn + 1600) σ' → LJ Y (I2 Y w σ') 1588 (LL Y w a) [] k N) : LJ Y (I2 Y w σ) 1081 (LL Y w a) [] k N := by
  obtain ⟨r, P1, hM1, hR1⟩ := st_mends hw.2.2.1 (xs (a + 1)) σ hR hN
  refine lj_aload_n h dL_law_1081 1 rfl ?_
  refine lj_aload_n h dL_law_1082 0 rfl ?_
  refine lj_iload_n h dL_law_1083 3 rfl ?_
  refine lj_iconst h dL_law_1084 (by decide) ?_
  refine lj_iadd h dL_law_1085 ?_
  refine lj_sld h i2_S dL_law_1086 (by omega) hLx ?_
  refine lj_cv (rest := []) h hw hM1 lX11_mends mL_134 (by decide) (by decide) sc_12 rfl rfl rfl rfl dL_law_1087 hk9 hN9 (fun σ1 h1 => ?_)
  obtain ⟨P2, hM2, hR2⟩ := hR1 σ1 h1
  refine lj_aload_n h dL_law_1090 2 rfl ?_
  refine lj_aload_n h dL_law_1091 0 rfl ?_
  refine lj_iload_n h dL_law_1092 3 rfl ?_
  refine lj_iconst h dL_law_1093 (by decide) ?_
  refine lj_iadd h dL_law_1094 ?_
  refine lj_sld h i2_S dL_law_1095 (by omega) hLx ?_
  refine lj_cv (rest := [.int r]) h hw hM2 lX12_mends mL_137 (by decide) (by decide) sc_0 rfl rfl rfl rfl dL_law_1096 hk9 hN9 (fun σ2 h2 => ?_)
  refine lj_icmp_eq h dL_law_1099 ?_
  exact next σ2 (hR2 σ2 h2)
theorem lc_flood (h : LF Y Lx xs) (hw : LW Y w) (hLx : Lx ≤ 3072) (a : Nat) (ha : a + 5 < Lx) {Nn : Nat} (hR : LX Nn σ) (hN : Nn < 2 ^ 29) (hk9 : k ≤ 600000) (hN9 : N ≤ 7302250) (next : ∀ σ', LX (Nn + 1600) σ' → LJ Y (I2 Y w σ') 1588 (LL Y w a) [] k N) : LJ Y (I2 Y w σ) 1104 (LL Y w a) [] k N := by
  obtain ⟨r, P1, hM1, hR1⟩ := st_flood hw.2.2.1 (xs (a + 1)) (xs (a + 2)) σ hR hN
  refine lj_aload_n h dL_law_1104 1 rfl ?_
  refine lj_aload_n h dL_law_1105 0 rfl ?_
  refine lj_iload_n h dL_law_1106 3 rfl ?_
  refine lj_iconst h dL_law_1107 (by decide) ?_
  refine lj_iadd h dL_law_1108 ?_
  refine lj_sld h i2_S dL_law_1109 (by omega) hLx ?_
  refine lj_aload_n h dL_law_1110 0 rfl ?_
  refine lj_iload_n h dL_law_1111 3 rfl ?_
  refine lj_iconst h dL_law_1112 (by decide) ?_
  refine lj_iadd h dL_law_1113 ?_
  refine lj_sld h i2_S dL_law_1114 (by omega) hLx ?_
  refine lj_cv (rest := []) h hw hM1 lX11_flood mL_138 (by decide) (by decide) sc_12 rfl rfl rfl rfl dL_law_1115 hk9 hN9 (fun σ1 h1 => ?_)
  obtain ⟨P2, hM2, hR2⟩ := hR1 σ1 h1
  refine lj_aload_n h dL_law_1118 2 rfl ?_
  refine lj_aload_n h dL_law_1119 0 rfl ?_
  refine lj_iload_n h dL_law_1120 3 rfl ?_
  refine lj_iconst h dL_law_1121 (by decide) ?_
  refine lj_iadd h dL_law_1122 ?_
  refine lj_sld h i2_S dL_law_1123 (by omega) hLx ?_
  refine lj_aload_n h dL_law_1124 0 rfl ?_
  refine lj_iload_n h dL_law_1125 3 rfl ?_
  refine lj_iconst h dL_law_1126 (by decide) ?_
  refine lj_iadd h dL_law_1127 ?_
  refine lj_sld h i2_S dL_law_1128 (by omega) hLx ?_
  refine lj_cv (rest := [.int r]) h hw hM2 lX12_flood mL_141 (by decide) (by decide) sc_0 rfl rfl rfl rfl dL_law_1129 hk9 hN9 (fun σ2 h2 => ?_)
  refine lj_icmp_eq h dL_law_1132 ?_
  exact next σ2 (hR2 σ2 h2)
theorem lc_notice (h : LF Y Lx xs) (hw : LW Y w) (hLx : Lx ≤ 3072) (a : Nat) (ha : a + 5 < Lx) {Nn : Nat} (hR : LX Nn σ) (hN : Nn < 2 ^ 29) (hk9 : k ≤ 600000) (hN9 : N ≤ 7302250) (next : ∀ σ', LX (Nn + 1600) σ' → LJ Y (I2 Y w σ') 1588 (LL Y w a) [] k N) : LJ Y (I2 Y w σ) 1137 (LL Y w a) [] k N := by
  obtain ⟨r, P1, hM1, hR1⟩ := st_notice hw.2.2.1 (xs (a + 1)) (xs (a + 2)) σ hR hN
  refine lj_aload_n h dL_law_1137 1 rfl ?_
  refine lj_aload_n h dL_law_1138 0 rfl ?_
  refine lj_iload_n h dL_law_1139 3 rfl ?_
  refine lj_iconst h dL_law_1140 (by decide) ?_
  refine lj_iadd h dL_law_1141 ?_
  refine lj_sld h i2_S dL_law_1142 (by omega) hLx ?_
  refine lj_aload_n h dL_law_1143 0 rfl ?_
  refine lj_iload_n h dL_law_1144 3 rfl ?_
  refine lj_iconst h dL_law_1145 (by decide) ?_
  refine lj_iadd h dL_law_1146 ?_
  refine lj_sld h i2_S dL_law_1147 (by omega) hLx ?_
  refine lj_cv (rest := []) h hw hM1 lX11_notice mL_142 (by decide) (by decide) sc_12 rfl rfl rfl rfl dL_law_1148 hk9 hN9 (fun σ1 h1 => ?_)
  obtain ⟨P2, hM2, hR2⟩ := hR1 σ1 h1
  refine lj_aload_n h dL_law_1151 2 rfl ?_
  refine lj_aload_n h dL_law_1152 0 rfl ?_
  refine lj_iload_n h dL_law_1153 3 rfl ?_
  refine lj_iconst h dL_law_1154 (by decide) ?_
  refine lj_iadd h dL_law_1155 ?_
  refine lj_sld h i2_S dL_law_1156 (by omega) hLx ?_
  refine lj_aload_n h dL_law_1157 0 rfl ?_
  refine lj_iload_n h dL_law_1158 3 rfl ?_
  refine lj_iconst h dL_law_1159 (by decide) ?_
  refine lj_iadd h dL_law_1160 ?_
  refine lj_sld h i2_S dL_law_1161 (by omega) hLx ?_
  refine lj_cv (rest := [.int r]) h hw hM2 lX12_notice mL_145 (by decide) (by decide) sc_0 rfl rfl rfl rfl dL_law_1162 hk9 hN9 (fun σ2 h2 => ?_)
  refine lj_icmp_eq h dL_law_1165 ?_
  exact next σ2 (hR2 σ2 h2)
theorem lc_older (h : LF Y Lx xs) (hw : LW Y w) (hLx : Lx ≤ 3072) (a : Nat) (ha : a + 5 < Lx) {Nn : Nat} (hR : LX Nn σ) (hN : Nn < 2 ^ 29) (hk9 : k ≤ 600000) (hN9 : N ≤ 7302250) (next : ∀ σ', LX (Nn + 1600) σ' → LJ Y (I2 Y w σ') 1588 (LL Y w a) [] k N) : LJ Y (I2 Y w σ) 1170 (LL Y w a) [] k N := by
  obtain ⟨r, P1, hM1, hR1⟩ := st_older hw.2.2.1 (xs (a + 1)) (xs (a + 2)) σ hR hN
  refine lj_aload_n h dL_law_1170 1 rfl ?_
  refine lj_aload_n h dL_law_1171 0 rfl ?_
  refine lj_iload_n h dL_law_1172 3 rfl ?_
  refine lj_iconst h dL_law_1173 (by decide) ?_
  refine lj_iadd h dL_law_1174 ?_
  refine lj_sld h i2_S dL_law_1175 (by omega) hLx ?_
  refine lj_aload_n h dL_law_1176 0 rfl ?_
  refine lj_iload_n h dL_law_1177 3 rfl ?_
  refine lj_iconst h dL_law_1178 (by decide) ?_
  refine lj_iadd h dL_law_1179 ?_
  refine lj_sld h i2_S dL_law_1180 (by omega) hLx ?_
  refine lj_cv (rest := []) h hw hM1 lX11_older mL_146 (by decide) (by decide) sc_12 rfl rfl rfl rfl dL_law_1181 hk9 hN9 (fun σ1 h1 => ?_)
  obtain ⟨P2, hM2, hR2⟩ := hR1 σ1 h1
  refine lj_aload_n h dL_law_1184 2 rfl ?_
  refine lj_aload_n h dL_law_1185 0 rfl ?_
  refine lj_iload_n h dL_law_1186 3 rfl ?_
  refine lj_iconst h dL_law_1187 (by decide) ?_
  refine lj_iadd h dL_law_1188 ?_
  refine lj_sld h i2_S dL_law_1189 (by omega) hLx ?_
  refine lj_aload_n h dL_law_1190 0 rfl ?_
  refine lj_iload_n h dL_law_1191 3 rfl ?_
  refine lj_iconst h dL_law_1192 (by decide) ?_
  refine lj_iadd h dL_law_1193 ?_
  refine lj_sld h i2_S dL_law_1194 (by omega) hLx ?_
  refine lj_cv (rest := [.int r]) h hw hM2 lX12_older mL_149 (by decide) (by decide) sc_0 rfl rfl rfl rfl dL_law_1195 hk9 hN9 (fun σ2 h2 => ?_)
  refine lj_icmp_eq h dL_law_1198 ?_
  exact next σ2 (hR2 σ2 h2)
theorem lc_echo (h : LF Y Lx xs) (hw : LW Y w) (hLx : Lx ≤ 3072) (a : Nat) (ha : a + 5 < Lx) {Nn : Nat} (hR : LX Nn σ) (hN : Nn < 2 ^ 29) (hk9 : k ≤ 600000) (hN9 : N ≤ 7302250) (next : ∀ σ', LX (Nn + 1600) σ' → LJ Y (I2 Y w σ') 1588 (LL Y w a) [] k N) : LJ Y (I2 Y w σ) 1203 (LL Y w a) [] k N := by
  obtain ⟨r, P1, hM1, hR1⟩ := st_echo hw.2.2.1 (xs (a + 1)) (xs (a + 2)) (xs (a + 3)) (xs (a + 4)) σ hR hN
  refine lj_aload_n h dL_law_1203 1 rfl ?_
  refine lj_aload_n h dL_law_1204 0 rfl ?_
  refine lj_iload_n h dL_law_1205 3 rfl ?_
  refine lj_iconst h dL_law_1206 (by decide) ?_
  refine lj_iadd h dL_law_1207 ?_
  refine lj_sld h i2_S dL_law_1208 (by omega) hLx ?_
  refine lj_aload_n h dL_law_1209 0 rfl ?_
  refine lj_iload_n h dL_law_1210 3 rfl ?_
  refine lj_iconst h dL_law_1211 (by decide) ?_
  refine lj_iadd h dL_law_1212 ?_
  refine lj_sld h i2_S dL_law_1213 (by omega) hLx ?_
  refine lj_aload_n h dL_law_1214 0 rfl ?_
  refine lj_iload_n h dL_law_1215 3 rfl ?_
  refine lj_iconst h dL_law_1216 (by decide) ?_
  refine lj_iadd h dL_law_1217 ?_
  refine lj_sld h i2_S dL_law_1218 (by omega) hLx ?_
  refine lj_aload_n h dL_law_1219 0 rfl ?_
  refine lj_iload_n h dL_law_1220 3 rfl ?_
  refine lj_iconst h dL_law_1221 (by decide) ?_
  refine lj_iadd h dL_law_1222 ?_
  refine lj_sld h i2_S dL_law_1223 (by omega) hLx ?_
  refine lj_cv (rest := []) h hw hM1 lX11_echo mL_150 (by decide) (by decide) sc_12 rfl rfl rfl rfl dL_law_1224 hk9 hN9 (fun σ1 h1 => ?_)
  obtain ⟨P2, hM2, hR2⟩ := hR1 σ1 h1
  refine lj_aload_n h dL_law_1227 2 rfl ?_
  refine lj_aload_n h dL_law_1228 0 rfl ?_
  refine lj_iload_n h dL_law_1229 3 rfl ?_
  refine lj_iconst h dL_law_1230 (by decide) ?_
  refine lj_iadd h dL_law_1231 ?_
  refine lj_sld h i2_S dL_law_1232 (by omega) hLx ?_
  refine lj_aload_n h dL_law_1233 0 rfl ?_
  refine lj_iload_n h dL_law_1234 3 rfl ?_
  refine lj_iconst h dL_law_1235 (by decide) ?_
  refine lj_iadd h dL_law_1236 ?_
  refine lj_sld h i2_S dL_law_1237 (by omega) hLx ?_
  refine lj_aload_n h dL_law_1238 0 rfl ?_
  refine lj_iload_n h dL_law_1239 3 rfl ?_
  refine lj_iconst h dL_law_1240 (by decide) ?_
  refine lj_iadd h dL_law_1241 ?_
  refine lj_sld h i2_S dL_law_1242 (by omega) hLx ?_
  refine lj_aload_n h dL_law_1243 0 rfl ?_
  refine lj_iload_n h dL_law_1244 3 rfl ?_
  refine lj_iconst h dL_law_1245 (by decide) ?_
  refine lj_iadd h dL_law_1246 ?_
  refine lj_sld h i2_S dL_law_1247 (by omega) hLx ?_
  refine lj_cv (rest := [.int r]) h hw hM2 lX12_echo mL_154 (by decide) (by decide) sc_0 rfl rfl rfl rfl dL_law_1248 hk9 hN9 (fun σ2 h2 => ?_)
  refine lj_icmp_eq h dL_law_1251 ?_
  exact next σ2 (hR2 σ2 h2)
theorem lc_add (h : LF Y Lx xs) (hw : LW Y w) (hLx : Lx ≤ 3072) (a : Nat) (ha : a + 5 < Lx) {Nn : Nat} (hR : LX Nn σ) (hN : Nn < 2 ^ 29) (hk9 : k ≤ 600000) (hN9 : N ≤ 7302250) (next : ∀ σ', LX (Nn + 1600) σ' → LJ Y (I2 Y w σ') 1588 (LL Y w a) [] k N) : LJ Y (I2 Y w σ) 1256 (LL Y w a) [] k N := by
  obtain ⟨r, P1, hM1, hR1⟩ := st_add hw.2.2.1 (xs (a + 1)) σ hR hN
  refine lj_aload_n h dL_law_1256 1 rfl ?_
  refine lj_aload_n h dL_law_1257 0 rfl ?_
  refine lj_iload_n h dL_law_1258 3 rfl ?_
  refine lj_iconst h dL_law_1259 (by decide) ?_
  refine lj_iadd h dL_law_1260 ?_
  refine lj_sld h i2_S dL_law_1261 (by omega) hLx ?_
  refine lj_cv (rest := []) h hw hM1 lX11_add mL_155 (by decide) (by decide) sc_12 rfl rfl rfl rfl dL_law_1262 hk9 hN9 (fun σ1 h1 => ?_)
  obtain ⟨P2, hM2, hR2⟩ := hR1 σ1 h1
  refine lj_aload_n h dL_law_1265 2 rfl ?_
  refine lj_aload_n h dL_law_1266 0 rfl ?_
  refine lj_iload_n h dL_law_1267 3 rfl ?_
  refine lj_iconst h dL_law_1268 (by decide) ?_
  refine lj_iadd h dL_law_1269 ?_
  refine lj_sld h i2_S dL_law_1270 (by omega) hLx ?_
  refine lj_cv (rest := [.int r]) h hw hM2 lX12_add mL_158 (by decide) (by decide) sc_0 rfl rfl rfl rfl dL_law_1271 hk9 hN9 (fun σ2 h2 => ?_)
  refine lj_icmp_eq h dL_law_1274 ?_
  exact next σ2 (hR2 σ2 h2)
theorem lc_turn (h : LF Y Lx xs) (hw : LW Y w) (hLx : Lx ≤ 3072) (a : Nat) (ha : a + 5 < Lx) {Nn : Nat} (hR : LX Nn σ) (hN : Nn < 2 ^ 29) (hk9 : k ≤ 600000) (hN9 : N ≤ 7302250) (next : ∀ σ', LX (Nn + 1600) σ' → LJ Y (I2 Y w σ') 1588 (LL Y w a) [] k N) : LJ Y (I2 Y w σ) 1279 (LL Y w a) [] k N := by
  obtain ⟨r, P1, hM1, hR1⟩ := st_turn hw.2.2.1 (xs (a + 1)) (decide (xs (a + 2) ≠ 0)) σ hR hN
  refine lj_aload_n h dL_law_1279 1 rfl ?_
  refine lj_aload_n h dL_law_1280 0 rfl ?_
  refine lj_iload_n h dL_law_1281 3 rfl ?_
  refine lj_iconst h dL_law_1282 (by decide) ?_
  refine lj_iadd h dL_law_1283 ?_
  refine lj_sld h i2_S dL_law_1284 (by omega) hLx ?_
  refine lj_aload_n h dL_law_1285 0 rfl ?_
  refine lj_iload_n h dL_law_1286 3 rfl ?_
  refine lj_iconst h dL_law_1287 (by decide) ?_
  refine lj_iadd h dL_law_1288 ?_
  refine lj_sld h i2_S dL_law_1289 (by omega) hLx ?_
  refine lj_bool h dL_law_1290 dL_law_1293 dL_law_1294 dL_law_1297 ?_
  refine lj_cv (rest := []) h hw hM1 lX11_turn mL_159 (by decide) (by decide) sc_12 rfl rfl rfl rfl dL_law_1298 hk9 hN9 (fun σ1 h1 => ?_)
  obtain ⟨P2, hM2, hR2⟩ := hR1 σ1 h1
  refine lj_aload_n h dL_law_1301 2 rfl ?_
  refine lj_aload_n h dL_law_1302 0 rfl ?_
  refine lj_iload_n h dL_law_1303 3 rfl ?_
  refine lj_iconst h dL_law_1304 (by decide) ?_
  refine lj_iadd h dL_law_1305 ?_
  refine lj_sld h i2_S dL_law_1306 (by omega) hLx ?_
  refine lj_aload_n h dL_law_1307 0 rfl ?_
  refine lj_iload_n h dL_law_1308 3 rfl ?_
  refine lj_iconst h dL_law_1309 (by decide) ?_
  refine lj_iadd h dL_law_1310 ?_
  refine lj_sld h i2_S dL_law_1311 (by omega) hLx ?_
  refine lj_bool h dL_law_1312 dL_law_1315 dL_law_1316 dL_law_1319 ?_
  refine lj_cv (rest := [.int r]) h hw hM2 lX12_turn mL_163 (by decide) (by decide) sc_0 rfl rfl rfl rfl dL_law_1320 hk9 hN9 (fun σ2 h2 => ?_)
  refine lj_icmp_eq h dL_law_1323 ?_
  exact next σ2 (hR2 σ2 h2)
theorem lc_will (h : LF Y Lx xs) (hw : LW Y w) (hLx : Lx ≤ 3072) (a : Nat) (ha : a + 5 < Lx) {Nn : Nat} (hR : LX Nn σ) (hN : Nn < 2 ^ 29) (hk9 : k ≤ 600000) (hN9 : N ≤ 7302250) (next : ∀ σ', LX (Nn + 1600) σ' → LJ Y (I2 Y w σ') 1588 (LL Y w a) [] k N) : LJ Y (I2 Y w σ) 1328 (LL Y w a) [] k N := by
  obtain ⟨r, P1, hM1, hR1⟩ := st_will hw.2.2.1 (xs (a + 1)) (xs (a + 2)) σ hR hN
  refine lj_aload_n h dL_law_1328 1 rfl ?_
  refine lj_aload_n h dL_law_1329 0 rfl ?_
  refine lj_iload_n h dL_law_1330 3 rfl ?_
  refine lj_iconst h dL_law_1331 (by decide) ?_
  refine lj_iadd h dL_law_1332 ?_
  refine lj_sld h i2_S dL_law_1333 (by omega) hLx ?_
  refine lj_aload_n h dL_law_1334 0 rfl ?_
  refine lj_iload_n h dL_law_1335 3 rfl ?_
  refine lj_iconst h dL_law_1336 (by decide) ?_
  refine lj_iadd h dL_law_1337 ?_
  refine lj_sld h i2_S dL_law_1338 (by omega) hLx ?_
  refine lj_cv (rest := []) h hw hM1 lX11_will mL_164 (by decide) (by decide) sc_12 rfl rfl rfl rfl dL_law_1339 hk9 hN9 (fun σ1 h1 => ?_)
  obtain ⟨P2, hM2, hR2⟩ := hR1 σ1 h1
  refine lj_aload_n h dL_law_1342 2 rfl ?_
  refine lj_aload_n h dL_law_1343 0 rfl ?_
  refine lj_iload_n h dL_law_1344 3 rfl ?_
  refine lj_iconst h dL_law_1345 (by decide) ?_
  refine lj_iadd h dL_law_1346 ?_
  refine lj_sld h i2_S dL_law_1347 (by omega) hLx ?_
  refine lj_aload_n h dL_law_1348 0 rfl ?_
  refine lj_iload_n h dL_law_1349 3 rfl ?_
  refine lj_iconst h dL_law_1350 (by decide) ?_
  refine lj_iadd h dL_law_1351 ?_
  refine lj_sld h i2_S dL_law_1352 (by omega) hLx ?_
  refine lj_cv (rest := [.int r]) h hw hM2 lX12_will mL_167 (by decide) (by decide) sc_0 rfl rfl rfl rfl dL_law_1353 hk9 hN9 (fun σ2 h2 => ?_)
  refine lj_icmp_eq h dL_law_1356 ?_
  exact next σ2 (hR2 σ2 h2)
theorem lc_ear (h : LF Y Lx xs) (hw : LW Y w) (hLx : Lx ≤ 3072) (a : Nat) (ha : a + 5 < Lx) {Nn : Nat} (hR : LX Nn σ) (hN : Nn < 2 ^ 29) (hk9 : k ≤ 600000) (hN9 : N ≤ 7302250) (next : ∀ σ', LX (Nn + 1600) σ' → LJ Y (I2 Y w σ') 1588 (LL Y w a) [] k N) : LJ Y (I2 Y w σ) 1361 (LL Y w a) [] k N := by
  obtain ⟨r, P1, hM1, hR1⟩ := st_ear hw.2.2.1 (xs (a + 1)) (xs (a + 2)) (decide (xs (a + 3) ≠ 0)) σ hR hN
  refine lj_aload_n h dL_law_1361 1 rfl ?_
  refine lj_aload_n h dL_law_1362 0 rfl ?_
  refine lj_iload_n h dL_law_1363 3 rfl ?_
  refine lj_iconst h dL_law_1364 (by decide) ?_
  refine lj_iadd h dL_law_1365 ?_
  refine lj_sld h i2_S dL_law_1366 (by omega) hLx ?_
  refine lj_aload_n h dL_law_1367 0 rfl ?_
  refine lj_iload_n h dL_law_1368 3 rfl ?_
  refine lj_iconst h dL_law_1369 (by decide) ?_
  refine lj_iadd h dL_law_1370 ?_
  refine lj_sld h i2_S dL_law_1371 (by omega) hLx ?_
  refine lj_aload_n h dL_law_1372 0 rfl ?_
  refine lj_iload_n h dL_law_1373 3 rfl ?_
  refine lj_iconst h dL_law_1374 (by decide) ?_
  refine lj_iadd h dL_law_1375 ?_
  refine lj_sld h i2_S dL_law_1376 (by omega) hLx ?_
  refine lj_bool h dL_law_1377 dL_law_1380 dL_law_1381 dL_law_1384 ?_
  refine lj_cv (rest := []) h hw hM1 lX11_ear mL_168 (by decide) (by decide) sc_12 rfl rfl rfl rfl dL_law_1385 hk9 hN9 (fun σ1 h1 => ?_)
  obtain ⟨P2, hM2, hR2⟩ := hR1 σ1 h1
  refine lj_aload_n h dL_law_1388 2 rfl ?_
  refine lj_aload_n h dL_law_1389 0 rfl ?_
  refine lj_iload_n h dL_law_1390 3 rfl ?_
  refine lj_iconst h dL_law_1391 (by decide) ?_
  refine lj_iadd h dL_law_1392 ?_
  refine lj_sld h i2_S dL_law_1393 (by omega) hLx ?_
  refine lj_aload_n h dL_law_1394 0 rfl ?_
  refine lj_iload_n h dL_law_1395 3 rfl ?_
  refine lj_iconst h dL_law_1396 (by decide) ?_
  refine lj_iadd h dL_law_1397 ?_
  refine lj_sld h i2_S dL_law_1398 (by omega) hLx ?_
  refine lj_aload_n h dL_law_1399 0 rfl ?_
  refine lj_iload_n h dL_law_1400 3 rfl ?_
  refine lj_iconst h dL_law_1401 (by decide) ?_
  refine lj_iadd h dL_law_1402 ?_
  refine lj_sld h i2_S dL_law_1403 (by omega) hLx ?_
  refine lj_bool h dL_law_1404 dL_law_1407 dL_law_1408 dL_law_1411 ?_
  refine lj_cv (rest := [.int r]) h hw hM2 lX12_ear mL_172 (by decide) (by decide) sc_0 rfl rfl rfl rfl dL_law_1412 hk9 hN9 (fun σ2 h2 => ?_)
  refine lj_icmp_eq h dL_law_1415 ?_
  exact next σ2 (hR2 σ2 h2)
theorem lc_set (h : LF Y Lx xs) (hw : LW Y w) (hLx : Lx ≤ 3072) (a : Nat) (ha : a + 5 < Lx) {Nn : Nat} (hR : LX Nn σ) (hN : Nn < 2 ^ 29) (hk9 : k ≤ 600000) (hN9 : N ≤ 7302250) (next : ∀ σ', LX (Nn + 1600) σ' → LJ Y (I2 Y w σ') 1588 (LL Y w a) [] k N) : LJ Y (I2 Y w σ) 1420 (LL Y w a) [] k N := by
  obtain ⟨r, P1, hM1, hR1⟩ := st_set hw.2.2.1 (xs (a + 1)) (xs (a + 2)) σ hR hN
  refine lj_aload_n h dL_law_1420 1 rfl ?_
  refine lj_aload_n h dL_law_1421 0 rfl ?_
  refine lj_iload_n h dL_law_1422 3 rfl ?_
  refine lj_iconst h dL_law_1423 (by decide) ?_
  refine lj_iadd h dL_law_1424 ?_
  refine lj_sld h i2_S dL_law_1425 (by omega) hLx ?_
  refine lj_aload_n h dL_law_1426 0 rfl ?_
  refine lj_iload_n h dL_law_1427 3 rfl ?_
  refine lj_iconst h dL_law_1428 (by decide) ?_
  refine lj_iadd h dL_law_1429 ?_
  refine lj_sld h i2_S dL_law_1430 (by omega) hLx ?_
  refine lj_cv (rest := []) h hw hM1 lX11_set mL_173 (by decide) (by decide) sc_12 rfl rfl rfl rfl dL_law_1431 hk9 hN9 (fun σ1 h1 => ?_)
  obtain ⟨P2, hM2, hR2⟩ := hR1 σ1 h1
  refine lj_aload_n h dL_law_1434 2 rfl ?_
  refine lj_aload_n h dL_law_1435 0 rfl ?_
  refine lj_iload_n h dL_law_1436 3 rfl ?_
  refine lj_iconst h dL_law_1437 (by decide) ?_
  refine lj_iadd h dL_law_1438 ?_
  refine lj_sld h i2_S dL_law_1439 (by omega) hLx ?_
  refine lj_aload_n h dL_law_1440 0 rfl ?_
  refine lj_iload_n h dL_law_1441 3 rfl ?_
  refine lj_iconst h dL_law_1442 (by decide) ?_
  refine lj_iadd h dL_law_1443 ?_
  refine lj_sld h i2_S dL_law_1444 (by omega) hLx ?_
  refine lj_cv (rest := [.int r]) h hw hM2 lX12_set mL_176 (by decide) (by decide) sc_0 rfl rfl rfl rfl dL_law_1445 hk9 hN9 (fun σ2 h2 => ?_)
  refine lj_icmp_eq h dL_law_1448 ?_
  exact next σ2 (hR2 σ2 h2)
theorem lc_jam (h : LF Y Lx xs) (hw : LW Y w) (hLx : Lx ≤ 3072) (a : Nat) (ha : a + 5 < Lx) {Nn : Nat} (hR : LX Nn σ) (hN : Nn < 2 ^ 29) (hk9 : k ≤ 600000) (hN9 : N ≤ 7302250) (next : ∀ σ', LX (Nn + 1600) σ' → LJ Y (I2 Y w σ') 1588 (LL Y w a) [] k N) : LJ Y (I2 Y w σ) 1453 (LL Y w a) [] k N := by
  obtain ⟨r, P1, hM1, hR1⟩ := st_jam hw.2.2.1 (xs (a + 1)) (xs (a + 2)) (xs (a + 3)) σ hR hN
  refine lj_aload_n h dL_law_1453 1 rfl ?_
  refine lj_aload_n h dL_law_1454 0 rfl ?_
  refine lj_iload_n h dL_law_1455 3 rfl ?_
  refine lj_iconst h dL_law_1456 (by decide) ?_
  refine lj_iadd h dL_law_1457 ?_
  refine lj_sld h i2_S dL_law_1458 (by omega) hLx ?_
  refine lj_aload_n h dL_law_1459 0 rfl ?_
  refine lj_iload_n h dL_law_1460 3 rfl ?_
  refine lj_iconst h dL_law_1461 (by decide) ?_
  refine lj_iadd h dL_law_1462 ?_
  refine lj_sld h i2_S dL_law_1463 (by omega) hLx ?_
  refine lj_aload_n h dL_law_1464 0 rfl ?_
  refine lj_iload_n h dL_law_1465 3 rfl ?_
  refine lj_iconst h dL_law_1466 (by decide) ?_
  refine lj_iadd h dL_law_1467 ?_
  refine lj_sld h i2_S dL_law_1468 (by omega) hLx ?_
  refine lj_cv (rest := []) h hw hM1 lX11_jam mL_177 (by decide) (by decide) sc_12 rfl rfl rfl rfl dL_law_1469 hk9 hN9 (fun σ1 h1 => ?_)
  obtain ⟨P2, hM2, hR2⟩ := hR1 σ1 h1
  refine lj_aload_n h dL_law_1472 2 rfl ?_
  refine lj_aload_n h dL_law_1473 0 rfl ?_
  refine lj_iload_n h dL_law_1474 3 rfl ?_
  refine lj_iconst h dL_law_1475 (by decide) ?_
  refine lj_iadd h dL_law_1476 ?_
  refine lj_sld h i2_S dL_law_1477 (by omega) hLx ?_
  refine lj_aload_n h dL_law_1478 0 rfl ?_
  refine lj_iload_n h dL_law_1479 3 rfl ?_
  refine lj_iconst h dL_law_1480 (by decide) ?_
  refine lj_iadd h dL_law_1481 ?_
  refine lj_sld h i2_S dL_law_1482 (by omega) hLx ?_
  refine lj_aload_n h dL_law_1483 0 rfl ?_
  refine lj_iload_n h dL_law_1484 3 rfl ?_
  refine lj_iconst h dL_law_1485 (by decide) ?_
  refine lj_iadd h dL_law_1486 ?_
  refine lj_sld h i2_S dL_law_1487 (by omega) hLx ?_
  refine lj_cv (rest := [.int r]) h hw hM2 lX12_jam mL_180 (by decide) (by decide) sc_0 rfl rfl rfl rfl dL_law_1488 hk9 hN9 (fun σ2 h2 => ?_)
  refine lj_icmp_eq h dL_law_1491 ?_
  exact next σ2 (hR2 σ2 h2)
theorem lc_tick (h : LF Y Lx xs) (hw : LW Y w) (hLx : Lx ≤ 3072) (a : Nat) (ha : a + 5 < Lx) {Nn : Nat} (hR : LX Nn σ) (hN : Nn < 2 ^ 29) (hk9 : k ≤ 600000) (hN9 : N ≤ 7302250) (next : ∀ σ', LX (Nn + 1600) σ' → LJ Y (I2 Y w σ') 1588 (LL Y w a) [] k N) : LJ Y (I2 Y w σ) 1496 (LL Y w a) [] k N := by
  obtain ⟨r, P1, hM1, hR1⟩ := st_tick hw.2.2.1 (xs (a + 1)) σ hR hN
  refine lj_aload_n h dL_law_1496 1 rfl ?_
  refine lj_aload_n h dL_law_1497 0 rfl ?_
  refine lj_iload_n h dL_law_1498 3 rfl ?_
  refine lj_iconst h dL_law_1499 (by decide) ?_
  refine lj_iadd h dL_law_1500 ?_
  refine lj_sld h i2_S dL_law_1501 (by omega) hLx ?_
  refine lj_cv (rest := []) h hw hM1 lX11_tick mL_181 (by decide) (by decide) sc_12 rfl rfl rfl rfl dL_law_1502 hk9 hN9 (fun σ1 h1 => ?_)
  obtain ⟨P2, hM2, hR2⟩ := hR1 σ1 h1
  refine lj_aload_n h dL_law_1505 2 rfl ?_
  refine lj_aload_n h dL_law_1506 0 rfl ?_
  refine lj_iload_n h dL_law_1507 3 rfl ?_
  refine lj_iconst h dL_law_1508 (by decide) ?_
  refine lj_iadd h dL_law_1509 ?_
  refine lj_sld h i2_S dL_law_1510 (by omega) hLx ?_
  refine lj_cv (rest := [.int r]) h hw hM2 lX12_tick mL_184 (by decide) (by decide) sc_0 rfl rfl rfl rfl dL_law_1511 hk9 hN9 (fun σ2 h2 => ?_)
  refine lj_icmp_eq h dL_law_1514 ?_
  exact next σ2 (hR2 σ2 h2)
theorem lc_run (h : LF Y Lx xs) (hw : LW Y w) (hLx : Lx ≤ 3072) (a : Nat) (ha : a + 5 < Lx) {Nn : Nat} (hR : LX Nn σ) (hN : Nn < 2 ^ 29) (hk9 : k ≤ 600000) (hN9 : N ≤ 7302250) (next : ∀ σ', LX (Nn + 1600) σ' → LJ Y (I2 Y w σ') 1588 (LL Y w a) [] k N) : LJ Y (I2 Y w σ) 1519 (LL Y w a) [] k N := by
  obtain ⟨r, P1, hM1, hR1⟩ := st_run hw.2.2.1 (xs (a + 1)) (xs (a + 2)) (xs (a + 3)) σ hR hN
  refine lj_aload_n h dL_law_1519 1 rfl ?_
  refine lj_aload_n h dL_law_1520 0 rfl ?_
  refine lj_iload_n h dL_law_1521 3 rfl ?_
  refine lj_iconst h dL_law_1522 (by decide) ?_
  refine lj_iadd h dL_law_1523 ?_
  refine lj_sld h i2_S dL_law_1524 (by omega) hLx ?_
  refine lj_aload_n h dL_law_1525 0 rfl ?_
  refine lj_iload_n h dL_law_1526 3 rfl ?_
  refine lj_iconst h dL_law_1527 (by decide) ?_
  refine lj_iadd h dL_law_1528 ?_
  refine lj_sld h i2_S dL_law_1529 (by omega) hLx ?_
  refine lj_aload_n h dL_law_1530 0 rfl ?_
  refine lj_iload_n h dL_law_1531 3 rfl ?_
  refine lj_iconst h dL_law_1532 (by decide) ?_
  refine lj_iadd h dL_law_1533 ?_
  refine lj_sld h i2_S dL_law_1534 (by omega) hLx ?_
  refine lj_cv (rest := []) h hw hM1 lX11_run mL_185 (by decide) (by decide) sc_12 rfl rfl rfl rfl dL_law_1535 hk9 hN9 (fun σ1 h1 => ?_)
  obtain ⟨P2, hM2, hR2⟩ := hR1 σ1 h1
  refine lj_aload_n h dL_law_1538 2 rfl ?_
  refine lj_aload_n h dL_law_1539 0 rfl ?_
  refine lj_iload_n h dL_law_1540 3 rfl ?_
  refine lj_iconst h dL_law_1541 (by decide) ?_
  refine lj_iadd h dL_law_1542 ?_
  refine lj_sld h i2_S dL_law_1543 (by omega) hLx ?_
  refine lj_aload_n h dL_law_1544 0 rfl ?_
  refine lj_iload_n h dL_law_1545 3 rfl ?_
  refine lj_iconst h dL_law_1546 (by decide) ?_
  refine lj_iadd h dL_law_1547 ?_
  refine lj_sld h i2_S dL_law_1548 (by omega) hLx ?_
  refine lj_aload_n h dL_law_1549 0 rfl ?_
  refine lj_iload_n h dL_law_1550 3 rfl ?_
  refine lj_iconst h dL_law_1551 (by decide) ?_
  refine lj_iadd h dL_law_1552 ?_
  refine lj_sld h i2_S dL_law_1553 (by omega) hLx ?_
  refine lj_cv (rest := [.int r]) h hw hM2 lX12_run mL_188 (by decide) (by decide) sc_0 rfl rfl rfl rfl dL_law_1554 hk9 hN9 (fun σ2 h2 => ?_)
  refine lj_icmp_eq h dL_law_1557 ?_
  exact next σ2 (hR2 σ2 h2)
theorem lc_mark (h : LF Y Lx xs) (hw : LW Y w) (hLx : Lx ≤ 3072) (a : Nat) (ha : a + 5 < Lx) {Nn : Nat} (hR : LX Nn σ) (hN : Nn < 2 ^ 29) (hk9 : k ≤ 600000) (hN9 : N ≤ 7302250) (next : ∀ σ', LX (Nn + 1600) σ' → LJ Y (I2 Y w σ') 1588 (LL Y w a) [] k N) : LJ Y (I2 Y w σ) 1562 (LL Y w a) [] k N := by
  obtain ⟨r, P1, hM1, hR1⟩ := st_mark hw.2.2.1  σ hR hN
  refine lj_aload_n h dL_law_1562 1 rfl ?_
  refine lj_cv (rest := []) h hw hM1 lX11_mark mL_189 (by decide) (by decide) sc_12 rfl rfl rfl rfl dL_law_1563 hk9 hN9 (fun σ1 h1 => ?_)
  obtain ⟨P2, hM2, hR2⟩ := hR1 σ1 h1
  refine lj_aload_n h dL_law_1566 2 rfl ?_
  refine lj_cv (rest := [.int r]) h hw hM2 lX12_mark mL_192 (by decide) (by decide) sc_0 rfl rfl rfl rfl dL_law_1567 hk9 hN9 (fun σ2 h2 => ?_)
  refine lj_icmp_eq h dL_law_1570 ?_
  exact next σ2 (hR2 σ2 h2)
theorem lc_back (h : LF Y Lx xs) (hw : LW Y w) (hLx : Lx ≤ 3072) (a : Nat) (ha : a + 5 < Lx) {Nn : Nat} (hR : LX Nn σ) (hN : Nn < 2 ^ 29) (hk9 : k ≤ 600000) (hN9 : N ≤ 7302250) (next : ∀ σ', LX (Nn + 1600) σ' → LJ Y (I2 Y w σ') 1588 (LL Y w a) [] k N) : LJ Y (I2 Y w σ) 1575 (LL Y w a) [] k N := by
  obtain ⟨r, P1, hM1, hR1⟩ := st_back hw.2.2.1  σ hR hN
  refine lj_aload_n h dL_law_1575 1 rfl ?_
  refine lj_cv (rest := []) h hw hM1 lX11_back mL_193 (by decide) (by decide) sc_12 rfl rfl rfl rfl dL_law_1576 hk9 hN9 (fun σ1 h1 => ?_)
  obtain ⟨P2, hM2, hR2⟩ := hR1 σ1 h1
  refine lj_aload_n h dL_law_1579 2 rfl ?_
  refine lj_cv (rest := [.int r]) h hw hM2 lX12_back mL_196 (by decide) (by decide) sc_0 rfl rfl rfl rfl dL_law_1580 hk9 hN9 (fun σ2 h2 => ?_)
  refine lj_icmp_eq h dL_law_1583 ?_
  exact next σ2 (hR2 σ2 h2)
theorem lc_all (h : LF Y Lx xs) (hw : LW Y w) (hLx : Lx ≤ 3072) (a : Nat) (ha : a + 5 < Lx) {Nn : Nat} (hR : LX Nn σ) (hN : Nn < 2 ^ 29) (hk9 : k ≤ 600000) (hN9 : N ≤ 7302250) (next : ∀ σ' N', LX N' σ' → N' ≤ Nn + 1600 → LJ Y (I2 Y w σ') 1588 (LL Y w a) [] k N) (v : Nat) (hv : v < 64) : LJ Y (I2 Y w σ) 33 (LL Y w a) [.int (nI v)] k N := by
  by_cases c : v < 44
  · match v, c with
    | 0, _ => exact lj_tsw h dL_law_33 (nI 0) rfl (by decide) (by decide) rfl rfl (lc_status h hw hLx a ha hR hN hk9 hN9 fun σ2 q => next σ2 _ q (Nat.le_refl _))
    | 1, _ => exact lj_tsw h dL_law_33 (nI 1) rfl (by decide) (by decide) rfl rfl (lc_feed h hw hLx a ha hR hN hk9 hN9 fun σ2 q => next σ2 _ q (Nat.le_refl _))
    | 2, _ => exact lj_tsw h dL_law_33 (nI 2) rfl (by decide) (by decide) rfl rfl (lc_load h hw hLx a ha hR hN hk9 hN9 fun σ2 q => next σ2 _ q (Nat.le_refl _))
    | 3, _ => exact lj_tsw h dL_law_33 (nI 3) rfl (by decide) (by decide) rfl rfl (lc_fault h hw hLx a ha hR hN hk9 hN9 fun σ2 q => next σ2 _ q (Nat.le_refl _))
    | 4, _ => exact lj_tsw h dL_law_33 (nI 4) rfl (by decide) (by decide) rfl rfl (lc_many h hw hLx a ha hR hN hk9 hN9 fun σ2 q => next σ2 _ q (Nat.le_refl _))
    | 5, _ => exact lj_tsw h dL_law_33 (nI 5) rfl (by decide) (by decide) rfl rfl (lc_node h hw hLx a ha hR hN hk9 hN9 fun σ2 q => next σ2 _ q (Nat.le_refl _))
    | 6, _ => exact lj_tsw h dL_law_33 (nI 6) rfl (by decide) (by decide) rfl rfl (lc_link h hw hLx a ha hR hN hk9 hN9 fun σ2 q => next σ2 _ q (Nat.le_refl _))
    | 7, _ => exact lj_tsw h dL_law_33 (nI 7) rfl (by decide) (by decide) rfl rfl (lc_topology h hw hLx a ha hR hN hk9 hN9 fun σ2 q => next σ2 _ q (Nat.le_refl _))
    | 8, _ => exact lj_tsw h dL_law_33 (nI 8) rfl (by decide) (by decide) rfl rfl (lc_would h hw hLx a ha hR hN hk9 hN9 fun σ2 q => next σ2 _ q (Nat.le_refl _))
    | 9, _ => exact lj_tsw h dL_law_33 (nI 9) rfl (by decide) (by decide) rfl rfl (lc_pick h hw hLx a ha hR hN hk9 hN9 fun σ2 q => next σ2 _ q (Nat.le_refl _))
    | 10, _ => exact lj_tsw h dL_law_33 (nI 10) rfl (by decide) (by decide) rfl rfl (lc_bestWill h hw hLx a ha hR hN hk9 hN9 fun σ2 q => next σ2 _ q (Nat.le_refl _))
    | 11, _ => exact lj_tsw h dL_law_33 (nI 11) rfl (by decide) (by decide) rfl rfl (lc_least h hw hLx a ha hR hN hk9 hN9 fun σ2 q => next σ2 _ q (Nat.le_refl _))
    | 12, _ => exact lj_tsw h dL_law_33 (nI 12) rfl (by decide) (by decide) rfl rfl (lc_covers h hw hLx a ha hR hN hk9 hN9 fun σ2 q => next σ2 _ q (Nat.le_refl _))
    | 13, _ => exact lj_tsw h dL_law_33 (nI 13) rfl (by decide) (by decide) rfl rfl (lc_needed h hw hLx a ha hR hN hk9 hN9 fun σ2 q => next σ2 _ q (Nat.le_refl _))
    | 14, _ => exact lj_tsw h dL_law_33 (nI 14) rfl (by decide) (by decide) rfl rfl (lc_waste h hw hLx a ha hR hN hk9 hN9 fun σ2 q => next σ2 _ q (Nat.le_refl _))
    | 15, _ => exact lj_tsw h dL_law_33 (nI 15) rfl (by decide) (by decide) rfl rfl (lc_route h hw hLx a ha hR hN hk9 hN9 fun σ2 q => next σ2 _ q (Nat.le_refl _))
    | 16, _ => exact lj_tsw h dL_law_33 (nI 16) rfl (by decide) (by decide) rfl rfl (lc_table h hw hLx a ha hR hN hk9 hN9 fun σ2 q => next σ2 _ q (Nat.le_refl _))
    | 17, _ => exact lj_tsw h dL_law_33 (nI 17) rfl (by decide) (by decide) rfl rfl (lc_goes h hw hLx a ha hR hN hk9 hN9 fun σ2 q => next σ2 _ q (Nat.le_refl _))
    | 18, _ => exact lj_tsw h dL_law_33 (nI 18) rfl (by decide) (by decide) rfl rfl (lc_far h hw hLx a ha hR hN hk9 hN9 fun σ2 q => next σ2 _ q (Nat.le_refl _))
    | 19, _ => exact lj_tsw h dL_law_33 (nI 19) rfl (by decide) (by decide) rfl rfl (lc_wrong h hw hLx a ha hR hN hk9 hN9 fun σ2 q => next σ2 _ q (Nat.le_refl _))
    | 20, _ => exact lj_tsw h dL_law_33 (nI 20) rfl (by decide) (by decide) rfl rfl (lc_told h hw hLx a ha hR hN hk9 hN9 fun σ2 q => next σ2 _ q (Nat.le_refl _))
    | 21, _ => exact lj_tsw h dL_law_33 (nI 21) rfl (by decide) (by decide) rfl rfl (lc_settles h hw hLx a ha hR hN hk9 hN9 fun σ2 q => next σ2 _ q (Nat.le_refl _))
    | 22, _ => exact lj_tsw h dL_law_33 (nI 22) rfl (by decide) (by decide) rfl rfl (lc_path h hw hLx a ha hR hN hk9 hN9 fun σ2 q => next σ2 _ q (Nat.le_refl _))
    | 23, _ => exact lj_tsw h dL_law_33 (nI 23) rfl (by decide) (by decide) rfl rfl (lc_busy h hw hLx a ha hR hN hk9 hN9 fun σ2 q => next σ2 _ q (Nat.le_refl _))
    | 24, _ => exact lj_tsw h dL_law_33 (nI 24) rfl (by decide) (by decide) rfl rfl (lc_sure h hw hLx a ha hR hN hk9 hN9 fun σ2 q => next σ2 _ q (Nat.le_refl _))
    | 25, _ => exact lj_tsw h dL_law_33 (nI 25) rfl (by decide) (by decide) rfl rfl (lc_astray h hw hLx a ha hR hN hk9 hN9 fun σ2 q => next σ2 _ q (Nat.le_refl _))
    | 26, _ => exact lj_tsw h dL_law_33 (nI 26) rfl (by decide) (by decide) rfl rfl (lc_proves h hw hLx a ha hR hN hk9 hN9 fun σ2 q => next σ2 _ q (Nat.le_refl _))
    | 27, _ => exact lj_tsw h dL_law_33 (nI 27) rfl (by decide) (by decide) rfl rfl (lc_spine h hw hLx a ha hR hN hk9 hN9 fun σ2 q => next σ2 _ q (Nat.le_refl _))
    | 28, _ => exact lj_tsw h dL_law_33 (nI 28) rfl (by decide) (by decide) rfl rfl (lc_cuts h hw hLx a ha hR hN hk9 hN9 fun σ2 q => next σ2 _ q (Nat.le_refl _))
    | 29, _ => exact lj_tsw h dL_law_33 (nI 29) rfl (by decide) (by decide) rfl rfl (lc_mends h hw hLx a ha hR hN hk9 hN9 fun σ2 q => next σ2 _ q (Nat.le_refl _))
    | 30, _ => exact lj_tsw h dL_law_33 (nI 30) rfl (by decide) (by decide) rfl rfl (lc_flood h hw hLx a ha hR hN hk9 hN9 fun σ2 q => next σ2 _ q (Nat.le_refl _))
    | 31, _ => exact lj_tsw h dL_law_33 (nI 31) rfl (by decide) (by decide) rfl rfl (lc_notice h hw hLx a ha hR hN hk9 hN9 fun σ2 q => next σ2 _ q (Nat.le_refl _))
    | 32, _ => exact lj_tsw h dL_law_33 (nI 32) rfl (by decide) (by decide) rfl rfl (lc_older h hw hLx a ha hR hN hk9 hN9 fun σ2 q => next σ2 _ q (Nat.le_refl _))
    | 33, _ => exact lj_tsw h dL_law_33 (nI 33) rfl (by decide) (by decide) rfl rfl (lc_echo h hw hLx a ha hR hN hk9 hN9 fun σ2 q => next σ2 _ q (Nat.le_refl _))
    | 34, _ => exact lj_tsw h dL_law_33 (nI 34) rfl (by decide) (by decide) rfl rfl (lc_add h hw hLx a ha hR hN hk9 hN9 fun σ2 q => next σ2 _ q (Nat.le_refl _))
    | 35, _ => exact lj_tsw h dL_law_33 (nI 35) rfl (by decide) (by decide) rfl rfl (lc_turn h hw hLx a ha hR hN hk9 hN9 fun σ2 q => next σ2 _ q (Nat.le_refl _))
    | 36, _ => exact lj_tsw h dL_law_33 (nI 36) rfl (by decide) (by decide) rfl rfl (lc_will h hw hLx a ha hR hN hk9 hN9 fun σ2 q => next σ2 _ q (Nat.le_refl _))
    | 37, _ => exact lj_tsw h dL_law_33 (nI 37) rfl (by decide) (by decide) rfl rfl (lc_ear h hw hLx a ha hR hN hk9 hN9 fun σ2 q => next σ2 _ q (Nat.le_refl _))
    | 38, _ => exact lj_tsw h dL_law_33 (nI 38) rfl (by decide) (by decide) rfl rfl (lc_set h hw hLx a ha hR hN hk9 hN9 fun σ2 q => next σ2 _ q (Nat.le_refl _))
    | 39, _ => exact lj_tsw h dL_law_33 (nI 39) rfl (by decide) (by decide) rfl rfl (lc_jam h hw hLx a ha hR hN hk9 hN9 fun σ2 q => next σ2 _ q (Nat.le_refl _))
    | 40, _ => exact lj_tsw h dL_law_33 (nI 40) rfl (by decide) (by decide) rfl rfl (lc_tick h hw hLx a ha hR hN hk9 hN9 fun σ2 q => next σ2 _ q (Nat.le_refl _))
    | 41, _ => exact lj_tsw h dL_law_33 (nI 41) rfl (by decide) (by decide) rfl rfl (lc_run h hw hLx a ha hR hN hk9 hN9 fun σ2 q => next σ2 _ q (Nat.le_refl _))
    | 42, _ => exact lj_tsw h dL_law_33 (nI 42) rfl (by decide) (by decide) rfl rfl (lc_mark h hw hLx a ha hR hN hk9 hN9 fun σ2 q => next σ2 _ q (Nat.le_refl _))
    | 43, _ => exact lj_tsw h dL_law_33 (nI 43) rfl (by decide) (by decide) rfl rfl (lc_back h hw hLx a ha hR hN hk9 hN9 fun σ2 q => next σ2 _ q (Nat.le_refl _))
    | v + 44, c => exact absurd c (by omega)
  · refine lj_tswOut h dL_law_33 (Or.inr ?_) rfl (next σ Nn hR (by omega))
    rw [nI_toInt (by omega)]
    omega
theorem sub6 {Lx a : Nat} (hL : Lx ≤ 3072) (ha : a < 2 ^ 30) (h : ¬ (nI Lx - nI 6 < nI a)) : a + 6 ≤ Lx := by
  by_cases c : 6 ≤ Lx
  · have e : nI Lx - nI 6 = nI (Lx - 6) := by
      have q : nI Lx = nI (Lx - 6) + nI 6 := by rw [nI_add]; congr 1; omega
      rw [q, Int32.add_sub_cancel]
    rw [e, nI_ltq (by omega) (by omega)] at h
    omega
  · exfalso
    apply h
    have h1 : nI Lx - nI 6 < 0 := (nI_sub_lt (by omega) (by omega)).mpr (by omega)
    have h2 : (0 : Int32) ≤ nI a := (nI_leq (a := 0) (by omega) (by omega)).mpr (Nat.zero_le _)
    exact Int32.lt_of_lt_of_le h1 h2
theorem lw_loop (h : LF Y Lx xs) (hw : LW Y w) (hLx : Lx ≤ 3072) (hk9 : k ≤ 600000) (hN9 : N ≤ 7302250) : ∀ (f a Nn : Nat) (σ : Mem), a ≤ 3072 + 6 → 6200 - a < f → Nn ≤ 1600 * a → LX Nn σ → LJ Y (I2 Y w σ) 18 (LL Y w a) [] k N := by
  intro f
  induction f with
  | zero => intro a Nn σ _ h9; exact absurd h9 (Nat.not_lt_zero _)
  | succ f ih =>
    intro a Nn σ ha hf hNn hR
    refine lj_iload_n h dL_law_18 3 rfl ?_
    refine lj_aload_n h dL_law_19 0 rfl ?_
    refine lj_slen h i2_S dL_law_20 ?_
    refine lj_bipush h dL_law_21 (by decide) ?_
    refine lj_isub h dL_law_23 ?_
    refine lj_icmp_gt h dL_law_24 (fun c => ?_) (fun c => ?_)
    · refine lj_iconst h dL_law_1594 (by decide) ?_
      exact lj_ret h i2_S dL_law_1595 hk9 hN9
    · have h6 := sub6 hLx (by omega) c
      refine lj_aload_n h dL_law_27 0 rfl ?_
      refine lj_iload_n h dL_law_28 3 rfl ?_
      refine lj_sld h i2_S dL_law_29 (by omega) hLx ?_
      refine lj_bipush h dL_law_30 (by decide) ?_
      refine lj_iand h dL_law_32 ?_
      obtain ⟨v, hv, ev⟩ := and63 (xs a)
      rw [ev]
      refine lc_all h hw hLx a (by omega) hR (by omega) hk9 hN9 (fun σ2 N' h2 hN' => ?_) v hv
      refine lj_iinc (L' := LL Y w (a + 6)) h dL_law_1588 3 rfl rfl (by decide) (by decide) rfl ?_
      refine lj_goto h dL_law_1591 ?_
      exact ih (a + 6) N' σ2 (by omega) (by omega) (by omega) h2
end LJC
