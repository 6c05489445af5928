/-! the law's walk: a node each -/
theorem sb_ar {n : Nat} {x y : Int32} (h : sb n y) : sb n (x &&& y) := fun k hk => by rw [tb_and, h k hk]; cases tb x k <;> rfl
theorem ext9 {kf g : Nat → Int32} {q : Nat} {v : Int32} (hf : ∀ j, j < q → kf j = g j) (hv : v = g q) : ∀ j, j < q + 1 → upd kf q v j = g j := fun j hj => by
  by_cases e : j = q
  · subst e
    rw [upd_eq]
    exact hv
  · rw [upd_ne e]
    exact hf j (by omega)

set_option maxRecDepth 100000 in
set_option maxHeartbeats 8000000 in
theorem ls_5a {X : GX} {A : Nat → Prop} {w : Wd} (hW : Wi w) (h : Fy X A w cL_law 18 RL 9) {b Lx : Nat} {xs : Nat → Int32} (hX : SX X A b Lx xs) (hR : RoomX X) {c9 s9 : Nat} (hc : c9 ≤ 900) (hs : s9 ≤ 90000) {μ : Nat → Int32} {kw : Nat} (hkw : ¬ wA w kw) (hAw : A kw) (hI : MI μ) (hA9 : ∀ q : Nat, X.2.2.2.2.1.heap.size ≤ q → A q) (hk : KD μ) {a : Nat} (ha : a < nN μ) (next : ∀ {σ : Mem} {kk : Nat}, LM σ μ → ¬ wA w kk → kw ≠ kk → A kk → JX X A w ([(kw, .inl (w.2.2.1.1, nN μ, .inl fun j => μ (16 + j))), (kk, .inl (w.2.2.1.1, nN μ, .inl fun j => μ (144 + (8 * a + j))))]) 18 334 [(0, .ref b), (1, .ref (w.1 0)), (2, .int (nI (nN μ))), (3, .ref kw), (4, .int (wasS μ a)), (5, .int (nI (smC μ a))), (6, .int (nI a)), (7, .int (μ (64 + a))), (8, .ref kk), (9, .int (wil μ a))] [] σ (c9 + 1) (s9 + nN μ)) : ∀ {σ : Mem}, LM σ μ → JX X A w ([(kw, .inl (w.2.2.1.1, nN μ, .inl fun j => μ (16 + j)))]) 18 247 [(0, .ref b), (1, .ref (w.1 0)), (2, .int (nI (nN μ))), (3, .ref kw), (4, .int (wasS μ a)), (5, .int (nI (smC μ a))), (6, .int (nI a))] [] σ c9 s9 := by
  have hLx : Lx < 4000 := hX.2.2.2
  have hkn : c9 ≤ X.2.2.2.1.cells ∧ s9 ≤ X.2.2.2.1.slots := ⟨by rw [hR.1]; omega, by rw [hR.2]; omega⟩
  have h8 := mi_8 hI
  have hp2 := p2_8 h8
  have hkn9 : c9 + 1 ≤ X.2.2.2.1.cells ∧ s9 + nN μ ≤ X.2.2.2.1.slots := ⟨by rw [hR.1]; omega, by rw [hR.2]; omega⟩
  have LB : ∀ {kk : Nat} (hkk : ¬ wA w kk) (hne : kw ≠ kk) (hAk : A kk) (f q : Nat), q ≤ nN μ → nN μ - q < f → ∀ {σ : Mem} {kf : Nat → Int32} (hm : LM σ μ) (hf : ∀ j, j < q → kf j = μ (144 + (8 * a + j))), JX X A w ([(kw, .inl (w.2.2.1.1, nN μ, .inl fun j => μ (16 + j))), (kk, .inl (w.2.2.1.1, nN μ, .inl kf))]) 18 267 [(0, .ref b), (1, .ref (w.1 0)), (2, .int (nI (nN μ))), (3, .ref kw), (4, .int (wasS μ a)), (5, .int (nI (smC μ a))), (6, .int (nI a)), (7, .int (μ (64 + a))), (8, .ref kk), (9, .int (wlP μ a q)), (10, .int (nI q))] [] σ (c9 + 1) (s9 + nN μ) := by
    intro kk hkk hne hAk f
    induction f with
    | zero => intro q _ h9; exact absurd h9 (Nat.not_lt_zero _)
    | succ f ih =>
      intro q hq hf9 σ kf hm hf
      have hE : DX w [(kw, .inl (w.2.2.1.1, nN μ, .inl fun j => μ (16 + j))), (kk, .inl (w.2.2.1.1, nN μ, .inl kf))] := dx2 hkw hkk hne
      have J297 : q < nN μ → ∀ {σ : Mem} {v : Int32} (hm : LM σ μ) (hv : v = μ (144 + (8 * a + q))), JX X A w ([(kw, .inl (w.2.2.1.1, nN μ, .inl fun j => μ (16 + j))), (kk, .inl (w.2.2.1.1, nN μ, .inl kf))]) 18 297 [(0, .ref b), (1, .ref (w.1 0)), (2, .int (nI (nN μ))), (3, .ref kw), (4, .int (wasS μ a)), (5, .int (nI (smC μ a))), (6, .int (nI a)), (7, .int (μ (64 + a))), (8, .ref kk), (9, .int (wlP μ a q)), (10, .int (nI q))] [.int v, .int (nI q), .ref kk] σ (c9 + 1) (s9 + nN μ) := by
        intro hq9 σ v hm hv
        refine yx_iast (q0 := 1) h hE (ae2 hAw hAk) dL_law_297 rfl (by omega) (by omega) ?_
        refine yx_es (es' := [(kw, .inl (w.2.2.1.1, nN μ, .inl fun j => μ (16 + j))), (kk, .inl (w.2.2.1.1, nN μ, .inl (upd kf q v)))]) rfl ?_
        have hE : DX w [(kw, .inl (w.2.2.1.1, nN μ, .inl fun j => μ (16 + j))), (kk, .inl (w.2.2.1.1, nN μ, .inl (upd kf q v)))] := dx2 hkw hkk hne
        refine yx_iload h dL_law_298 9 rfl ?_
        refine yx_iload h dL_law_300 7 rfl ?_
        refine yx_iload h dL_law_302 10 rfl ?_
        refine yx_csp (rest := [.int (wlP μ a q)]) h hE hkn9 (c_hasL hW (μ (64 + a)) q (by omega)) lL_has mL_38 (by decide) (by decide) rfl rfl rfl dL_law_304 ?_
        refine yx_ifB_eq h dL_law_307 (fun c2 => ?_) (fun c2 => ?_)
        · refine yx_iconst h dL_law_324 (by decide) ?_
          refine yx_ior h dL_law_325 ?_
          refine yx_top (y := (wlP μ a (q + 1))) (by first | exact wlP_t c2 c3 | exact wlP_f1 c2 | exact wlP_f2 c3 | fail) ?_
          refine yx_istore (L' := [(0, .ref b), (1, .ref (w.1 0)), (2, .int (nI (nN μ))), (3, .ref kw), (4, .int (wasS μ a)), (5, .int (nI (smC μ a))), (6, .int (nI a)), (7, .int (μ (64 + a))), (8, .ref kk), (9, .int (wlP μ a (q + 1))), (10, .int (nI q))]) h dL_law_326 rfl (by decide) rfl ?_
          refine yx_iincN (L' := [(0, .ref b), (1, .ref (w.1 0)), (2, .int (nI (nN μ))), (3, .ref kw), (4, .int (wasS μ a)), (5, .int (nI (smC μ a))), (6, .int (nI a)), (7, .int (μ (64 + a))), (8, .ref kk), (9, .int (wlP μ a (q + 1))), (10, .int (nI (q + 1)))]) h dL_law_328 10 rfl rfl (by decide) (by decide) rfl ?_
          refine yx_goto h dL_law_331 ?_
          exact ih (q + 1) (by omega) (by omega) hm (ext9 hf hv)
        · refine yx_aload_n h dL_law_310 3 rfl ?_
          refine yx_iload h dL_law_311 10 rfl ?_
          refine yx_iald (q0 := 0) h dL_law_313 rfl (by omega) (by omega) ?_
          refine yx_top (y := (nI (nA μ (16 + q)))) (mi_16 hI (by omega)) ?_
          refine yx_ifN_le h dL_law_314 (by have := mb_16 hI (j := q) (by omega); omega) (fun c3 => ?_) (fun c3 => ?_)
          · refine yx_iconst h dL_law_324 (by decide) ?_
            refine yx_ior h dL_law_325 ?_
            refine yx_top (y := (wlP μ a (q + 1))) (by first | exact wlP_t c2 c3 | exact wlP_f1 c2 | exact wlP_f2 c3 | fail) ?_
            refine yx_istore (L' := [(0, .ref b), (1, .ref (w.1 0)), (2, .int (nI (nN μ))), (3, .ref kw), (4, .int (wasS μ a)), (5, .int (nI (smC μ a))), (6, .int (nI a)), (7, .int (μ (64 + a))), (8, .ref kk), (9, .int (wlP μ a (q + 1))), (10, .int (nI q))]) h dL_law_326 rfl (by decide) rfl ?_
            refine yx_iincN (L' := [(0, .ref b), (1, .ref (w.1 0)), (2, .int (nI (nN μ))), (3, .ref kw), (4, .int (wasS μ a)), (5, .int (nI (smC μ a))), (6, .int (nI a)), (7, .int (μ (64 + a))), (8, .ref kk), (9, .int (wlP μ a (q + 1))), (10, .int (nI (q + 1)))]) h dL_law_328 10 rfl rfl (by decide) (by decide) rfl ?_
            refine yx_goto h dL_law_331 ?_
            exact ih (q + 1) (by omega) (by omega) hm (ext9 hf hv)
          · refine yx_iconst h dL_law_317 (by decide) ?_
            refine yx_iload h dL_law_318 10 rfl ?_
            refine yx_ishl h dL_law_320 ?_
            refine yx_goto h dL_law_321 ?_
            refine yx_ior h dL_law_325 ?_
            refine yx_top (y := (wlP μ a (q + 1))) (by first | exact wlP_t c2 c3 | exact wlP_f1 c2 | exact wlP_f2 c3 | fail) ?_
            refine yx_istore (L' := [(0, .ref b), (1, .ref (w.1 0)), (2, .int (nI (nN μ))), (3, .ref kw), (4, .int (wasS μ a)), (5, .int (nI (smC μ a))), (6, .int (nI a)), (7, .int (μ (64 + a))), (8, .ref kk), (9, .int (wlP μ a (q + 1))), (10, .int (nI q))]) h dL_law_326 rfl (by decide) rfl ?_
            refine yx_iincN (L' := [(0, .ref b), (1, .ref (w.1 0)), (2, .int (nI (nN μ))), (3, .ref kw), (4, .int (wasS μ a)), (5, .int (nI (smC μ a))), (6, .int (nI a)), (7, .int (μ (64 + a))), (8, .ref kk), (9, .int (wlP μ a (q + 1))), (10, .int (nI (q + 1)))]) h dL_law_328 10 rfl rfl (by decide) (by decide) rfl ?_
            refine yx_goto h dL_law_331 ?_
            exact ih (q + 1) (by omega) (by omega) hm (ext9 hf hv)
      refine yx_iload h dL_law_267 10 rfl ?_
      refine yx_iload_n h dL_law_269 2 rfl ?_
      refine yx_icmpN_ge h dL_law_270 (by omega) (by omega) (fun c => ?_) (fun c => ?_)
      · have eq9 : q = nN μ := by omega
        subst eq9
        refine yx_arr (q0 := 1) (fun j => μ (144 + (8 * a + j))) rfl hf ?_
        exact yx_sub [0, 1, 2, 3, 4, 5, 6, 7, 8, 9] rfl (next hm hkk hne hAk)
      · refine yx_aload h dL_law_273 8 rfl ?_
        refine yx_iload h dL_law_275 10 rfl ?_
        refine yx_iload h dL_law_277 10 rfl ?_
        refine yx_iload h dL_law_279 6 rfl ?_
        refine yx_icmpN_ne h dL_law_281 (by omega) (by omega) (fun c1 => ?_) (fun c1 => ?_)
        · refine yx_aload_n h dL_law_288 1 rfl ?_
          refine yx_iload h dL_law_289 6 rfl ?_
          refine yx_iload h dL_law_291 10 rfl ?_
          refine yx_iconst h dL_law_293 (by decide) ?_
          refine yx_cv (rest := [.int (nI q), .ref kk]) h hE hkn9 (lm_link hW hm ha (j := q) (by omega) (fun z => c1 z.symm)) lX11_link mL_34 (by decide) (by decide) sc_0 rfl rfl rfl rfl dL_law_294 (fun σ1 hq1 => ?_)
          exact J297 (by omega) hq1.1 rfl
        · refine yx_iconst h dL_law_284 (by decide) ?_
          refine yx_goto h dL_law_285 ?_
          exact J297 (by omega) hm (by subst c1; exact (hk q (by omega)).symm)
  intro σ hm
  have hE : DX w [(kw, .inl (w.2.2.1.1, nN μ, .inl fun j => μ (16 + j)))] := dx1 hkw
  refine yx_aload_n h dL_law_247 1 rfl ?_
  refine yx_iload h dL_law_248 6 rfl ?_
  refine yx_iconst h dL_law_250 (by decide) ?_
  refine yx_cv (rest := []) h hE hkn (lm_node hW hm ha (wt := 4) (by omega)) lX11_node mL_31 (by decide) (by decide) sc_0 rfl rfl rfl rfl dL_law_251 (fun σ2 hq2 => ?_)
  refine yx_top (y := (μ (64 + a))) (rfl) ?_
  refine yx_istore (L' := [(0, .ref b), (1, .ref (w.1 0)), (2, .int (nI (nN μ))), (3, .ref kw), (4, .int (wasS μ a)), (5, .int (nI (smC μ a))), (6, .int (nI a)), (7, .int (μ (64 + a)))]) h dL_law_254 rfl (by decide) rfl ?_
  refine yx_iload_n h dL_law_256 2 rfl ?_
  refine yx_newa h hE (ae1 hAw) hA9 dL_law_257 wd_int (by omega) (by rw [hR.1]; omega) (by rw [hR.2]; omega) (fun kk hE9 hAk => ?_)
  have hkk : ¬ wA w kk := hE9.1 1 _ rfl
  have hne : kw ≠ kk := fun z => absurd (hE9.2 0 1 _ _ rfl rfl z) (by decide)
  refine yx_es (es' := [(kw, .inl (w.2.2.1.1, nN μ, .inl fun j => μ (16 + j))), (kk, .inl (w.2.2.1.1, nN μ, .inl fun _ => nI 0))]) rfl ?_
  refine yx_astore (L' := [(0, .ref b), (1, .ref (w.1 0)), (2, .int (nI (nN μ))), (3, .ref kw), (4, .int (wasS μ a)), (5, .int (nI (smC μ a))), (6, .int (nI a)), (7, .int (μ (64 + a))), (8, .ref kk)]) h dL_law_259 rfl (by decide) rfl ?_
  refine yx_iconst h dL_law_261 (by decide) ?_
  refine yx_istore (L' := [(0, .ref b), (1, .ref (w.1 0)), (2, .int (nI (nN μ))), (3, .ref kw), (4, .int (wasS μ a)), (5, .int (nI (smC μ a))), (6, .int (nI a)), (7, .int (μ (64 + a))), (8, .ref kk), (9, .int (nI 0))]) h dL_law_262 rfl (by decide) rfl ?_
  refine yx_iconst h dL_law_264 (by decide) ?_
  refine yx_istore (L' := [(0, .ref b), (1, .ref (w.1 0)), (2, .int (nI (nN μ))), (3, .ref kw), (4, .int (wasS μ a)), (5, .int (nI (smC μ a))), (6, .int (nI a)), (7, .int (μ (64 + a))), (8, .ref kk), (9, .int (nI 0)), (10, .int (nI 0))]) h dL_law_265 rfl (by decide) rfl ?_
  exact LB hkk hne hAk (nN μ + 1) 0 (by omega) (by omega) hq2.1 (fun j hj => absurd hj (Nat.not_lt_zero _))

set_option maxRecDepth 100000 in
set_option maxHeartbeats 8000000 in
theorem ls_5b {X : GX} {A : Nat → Prop} {w : Wd} (hW : Wi w) (h : Fy X A w cL_law 18 RL 9) {b Lx : Nat} {xs : Nat → Int32} (hX : SX X A b Lx xs) (hR : RoomX X) {c9 s9 : Nat} (hc : c9 ≤ 1000) (hs : s9 ≤ 100000) {μ : Nat → Int32} {kw : Nat} (hkw : ¬ wA w kw) (hAw : A kw) (hI : MI μ) {kk : Nat} (hkk : ¬ wA w kk) (hne : kw ≠ kk) (hAk : A kk) {a : Nat} (ha : a < nN μ) (next : ∀ {σ : Mem}, LM σ μ → JX X A w ([(kw, .inl (w.2.2.1.1, nN μ, .inl fun j => μ (16 + j))), (kk, .inl (w.2.2.1.1, nN μ, .inl fun j => μ (144 + (8 * a + j))))]) 18 438 [(0, .ref b), (1, .ref (w.1 0)), (2, .int (nI (nN μ))), (3, .ref kw), (4, .int (wasS μ a)), (5, .int (nI (smC μ a))), (6, .int (nI a)), (7, .int (μ (64 + a))), (8, .ref kk), (9, .int (wil μ a)), (10, .int (bhd μ a)), (11, .int (chos μ a)), (12, .int (lst μ a))] [] σ c9 s9) : ∀ {σ : Mem}, LM σ μ → JX X A w ([(kw, .inl (w.2.2.1.1, nN μ, .inl fun j => μ (16 + j))), (kk, .inl (w.2.2.1.1, nN μ, .inl fun j => μ (144 + (8 * a + j))))]) 18 334 [(0, .ref b), (1, .ref (w.1 0)), (2, .int (nI (nN μ))), (3, .ref kw), (4, .int (wasS μ a)), (5, .int (nI (smC μ a))), (6, .int (nI a)), (7, .int (μ (64 + a))), (8, .ref kk), (9, .int (wil μ a))] [] σ c9 s9 := by
  have hLx : Lx < 4000 := hX.2.2.2
  have hkn : c9 ≤ X.2.2.2.1.cells ∧ s9 ≤ X.2.2.2.1.slots := ⟨by rw [hR.1]; omega, by rw [hR.2]; omega⟩
  have h8 := mi_8 hI
  have hp2 := p2_8 h8
  have hE : DX w [(kw, .inl (w.2.2.1.1, nN μ, .inl fun j => μ (16 + j))), (kk, .inl (w.2.2.1.1, nN μ, .inl fun j => μ (144 + (8 * a + j))))] := dx2 hkw hkk hne
  have LK : ∀ {σ : Mem} (hm : LM σ μ) (f k : Nat), k ≤ 2 ^ nN μ → 2 ^ nN μ - k < f → JX X A w ([(kw, .inl (w.2.2.1.1, nN μ, .inl fun j => μ (16 + j))), (kk, .inl (w.2.2.1.1, nN μ, .inl fun j => μ (144 + (8 * a + j))))]) 18 376 [(0, .ref b), (1, .ref (w.1 0)), (2, .int (nI (nN μ))), (3, .ref kw), (4, .int (wasS μ a)), (5, .int (nI (smC μ a))), (6, .int (nI a)), (7, .int (μ (64 + a))), (8, .ref kk), (9, .int (wil μ a)), (10, .int (bhd μ a)), (11, .int (chos μ a)), (12, .int (oI (lsO μ a k))), (13, .int (nI k))] [] σ c9 s9 := by
    intro σ hm f
    induction f with
    | zero => intro k _ h9; exact absurd h9 (Nat.not_lt_zero _)
    | succ f ih =>
      intro k hk hf9
      have J432 : k < 2 ^ nN μ → ∀ x : Int32, x = oI (lsO μ a (k + 1)) → JX X A w ([(kw, .inl (w.2.2.1.1, nN μ, .inl fun j => μ (16 + j))), (kk, .inl (w.2.2.1.1, nN μ, .inl fun j => μ (144 + (8 * a + j))))]) 18 432 [(0, .ref b), (1, .ref (w.1 0)), (2, .int (nI (nN μ))), (3, .ref kw), (4, .int (wasS μ a)), (5, .int (nI (smC μ a))), (6, .int (nI a)), (7, .int (μ (64 + a))), (8, .ref kk), (9, .int (wil μ a)), (10, .int (bhd μ a)), (11, .int (chos μ a)), (12, .int x), (13, .int (nI k))] [] σ c9 s9 := by
        intro hk9 x hx
        subst hx
        refine yx_iincN (L' := [(0, .ref b), (1, .ref (w.1 0)), (2, .int (nI (nN μ))), (3, .ref kw), (4, .int (wasS μ a)), (5, .int (nI (smC μ a))), (6, .int (nI a)), (7, .int (μ (64 + a))), (8, .ref kk), (9, .int (wil μ a)), (10, .int (bhd μ a)), (11, .int (chos μ a)), (12, .int (oI (lsO μ a (k + 1)))), (13, .int (nI (k + 1)))]) h dL_law_432 13 rfl rfl (by decide) (by decide) rfl ?_
        refine yx_goto h dL_law_435 ?_
        exact ih (k + 1) (by omega) (by omega)
      refine yx_iload h dL_law_376 13 rfl ?_
      refine yx_iconst h dL_law_378 (by decide) ?_
      refine yx_iload_n h dL_law_379 2 rfl ?_
      refine yx_ishl h dL_law_380 ?_
      refine yx_top (y := (nI (2 ^ nN μ))) (bt1_pow h8) ?_
      refine yx_icmpN_ge h dL_law_381 (by omega) (by omega) (fun c => ?_) (fun c => ?_)
      · have ek : k = 2 ^ nN μ := by omega
        subst ek
        rw [lst_is hI]
        exact yx_sub [0, 1, 2, 3, 4, 5, 6, 7, 8, 9, 10, 11, 12] rfl (next hm)
      · refine yx_iload h dL_law_384 13 rfl ?_
        refine yx_iload h dL_law_386 9 rfl ?_
        refine yx_iconstv (v := -1) h dL_law_388 (by decide) ?_
        refine yx_ixor h dL_law_389 ?_
        refine yx_iand h dL_law_390 ?_
        refine yx_if_ne h dL_law_391 (fun c1 => ?_) (fun c1 => ?_)
        · exact J432 (by omega) (oI (lsO μ a k)) (by first | exact congrArg oI (lsO_n1 c1) | exact congrArg oI (lsO_n2 c2) | exact congrArg oI (lsO_y1 c1 c2 (oI_none c3 (fun x hx => by have := lsO_lt hx; omega))) | (obtain ⟨x, hx⟩ := oI_some c3; rw [hx] at c4; exact congrArg oI (lsO_y2 c1 c2 hx c4)) | (obtain ⟨x, hx⟩ := oI_some c3; rw [hx] at c4; exact congrArg oI (lsO_y3 c1 c2 hx (Nat.not_lt.mpr c4))) | fail)
        · refine yx_iload h dL_law_394 10 rfl ?_
          refine yx_aload h dL_law_396 8 rfl ?_
          refine yx_iload h dL_law_398 13 rfl ?_
          refine yx_csxp (rest := [.int (bhd μ a)]) h hE hkn (c_ofK hW hE (a := a) (q0 := 1) rfl h8 (nI k)) lL_of mL_42 (by decide) (by decide) rfl rfl rfl dL_law_400 ?_
          refine yx_iconstv (v := -1) h dL_law_403 (by decide) ?_
          refine yx_ixor h dL_law_404 ?_
          refine yx_iand h dL_law_405 ?_
          refine yx_if_ne h dL_law_406 (fun c2 => ?_) (fun c2 => ?_)
          · exact J432 (by omega) (oI (lsO μ a k)) (by first | exact congrArg oI (lsO_n1 c1) | exact congrArg oI (lsO_n2 c2) | exact congrArg oI (lsO_y1 c1 c2 (oI_none c3 (fun x hx => by have := lsO_lt hx; omega))) | (obtain ⟨x, hx⟩ := oI_some c3; rw [hx] at c4; exact congrArg oI (lsO_y2 c1 c2 hx c4)) | (obtain ⟨x, hx⟩ := oI_some c3; rw [hx] at c4; exact congrArg oI (lsO_y3 c1 c2 hx (Nat.not_lt.mpr c4))) | fail)
          · refine yx_iload h dL_law_409 12 rfl ?_
            refine yx_iconstv (v := -1) h dL_law_411 (by decide) ?_
            refine yx_icmp_eq h dL_law_412 (fun c3 => ?_) (fun c3 => ?_)
            · refine yx_iload h dL_law_428 13 rfl ?_
              refine yx_istore (L' := [(0, .ref b), (1, .ref (w.1 0)), (2, .int (nI (nN μ))), (3, .ref kw), (4, .int (wasS μ a)), (5, .int (nI (smC μ a))), (6, .int (nI a)), (7, .int (μ (64 + a))), (8, .ref kk), (9, .int (wil μ a)), (10, .int (bhd μ a)), (11, .int (chos μ a)), (12, .int (nI k)), (13, .int (nI k))]) h dL_law_430 rfl (by decide) rfl ?_
              exact J432 (by omega) (nI k) (by first | exact congrArg oI (lsO_n1 c1) | exact congrArg oI (lsO_n2 c2) | exact congrArg oI (lsO_y1 c1 c2 (oI_none c3 (fun x hx => by have := lsO_lt hx; omega))) | (obtain ⟨x, hx⟩ := oI_some c3; rw [hx] at c4; exact congrArg oI (lsO_y2 c1 c2 hx c4)) | (obtain ⟨x, hx⟩ := oI_some c3; rw [hx] at c4; exact congrArg oI (lsO_y3 c1 c2 hx (Nat.not_lt.mpr c4))) | fail)
            · refine yx_iload h dL_law_415 13 rfl ?_
              refine yx_csp (rest := []) h hE hkn (c_bits hW (nI k)) lL_bits mL_50 (by decide) (by decide) rfl rfl rfl dL_law_417 ?_
              refine yx_iload h dL_law_420 12 rfl ?_
              refine yx_csp (rest := [.int (nI (pc (nI k)))]) h hE hkn (c_bits hW (oI (lsO μ a k))) lL_bits mL_50 (by decide) (by decide) rfl rfl rfl dL_law_422 ?_
              refine yx_icmpN_ge h dL_law_425 (by have := pc_le (nI k); have := pc_le (oI (lsO μ a k)); omega) (by have := pc_le (nI k); have := pc_le (oI (lsO μ a k)); omega) (fun c4 => ?_) (fun c4 => ?_)
              · exact J432 (by omega) (oI (lsO μ a k)) (by first | exact congrArg oI (lsO_n1 c1) | exact congrArg oI (lsO_n2 c2) | exact congrArg oI (lsO_y1 c1 c2 (oI_none c3 (fun x hx => by have := lsO_lt hx; omega))) | (obtain ⟨x, hx⟩ := oI_some c3; rw [hx] at c4; exact congrArg oI (lsO_y2 c1 c2 hx c4)) | (obtain ⟨x, hx⟩ := oI_some c3; rw [hx] at c4; exact congrArg oI (lsO_y3 c1 c2 hx (Nat.not_lt.mpr c4))) | fail)
              · refine yx_iload h dL_law_428 13 rfl ?_
                refine yx_istore (L' := [(0, .ref b), (1, .ref (w.1 0)), (2, .int (nI (nN μ))), (3, .ref kw), (4, .int (wasS μ a)), (5, .int (nI (smC μ a))), (6, .int (nI a)), (7, .int (μ (64 + a))), (8, .ref kk), (9, .int (wil μ a)), (10, .int (bhd μ a)), (11, .int (chos μ a)), (12, .int (nI k)), (13, .int (nI k))]) h dL_law_430 rfl (by decide) rfl ?_
                exact J432 (by omega) (nI k) (by first | exact congrArg oI (lsO_n1 c1) | exact congrArg oI (lsO_n2 c2) | exact congrArg oI (lsO_y1 c1 c2 (oI_none c3 (fun x hx => by have := lsO_lt hx; omega))) | (obtain ⟨x, hx⟩ := oI_some c3; rw [hx] at c4; exact congrArg oI (lsO_y2 c1 c2 hx c4)) | (obtain ⟨x, hx⟩ := oI_some c3; rw [hx] at c4; exact congrArg oI (lsO_y3 c1 c2 hx (Nat.not_lt.mpr c4))) | fail)
  intro σ hm
  refine yx_aload h dL_law_334 8 rfl ?_
  refine yx_iload h dL_law_336 9 rfl ?_
  refine yx_csxp (rest := []) h hE hkn (c_ofK hW hE (a := a) (q0 := 1) rfl h8 (wil μ a)) lL_of mL_42 (by decide) (by decide) rfl rfl rfl dL_law_338 ?_
  refine yx_iload h dL_law_341 7 rfl ?_
  refine yx_iconstv (v := -1) h dL_law_343 (by decide) ?_
  refine yx_ixor h dL_law_344 ?_
  refine yx_iand h dL_law_345 ?_
  refine yx_iconst h dL_law_346 (by decide) ?_
  refine yx_iload h dL_law_347 6 rfl ?_
  refine yx_ishl h dL_law_349 ?_
  refine yx_iconstv (v := -1) h dL_law_350 (by decide) ?_
  refine yx_ixor h dL_law_351 ?_
  refine yx_iand h dL_law_352 ?_
  refine yx_top (y := (bhd μ a)) (rfl) ?_
  refine yx_istore (L' := [(0, .ref b), (1, .ref (w.1 0)), (2, .int (nI (nN μ))), (3, .ref kw), (4, .int (wasS μ a)), (5, .int (nI (smC μ a))), (6, .int (nI a)), (7, .int (μ (64 + a))), (8, .ref kk), (9, .int (wil μ a)), (10, .int (bhd μ a))]) h dL_law_353 rfl (by decide) rfl ?_
  refine yx_aload_n h dL_law_355 1 rfl ?_
  refine yx_iload h dL_law_356 6 rfl ?_
  refine yx_aload h dL_law_358 8 rfl ?_
  refine yx_aload_n h dL_law_360 3 rfl ?_
  refine yx_iload h dL_law_361 9 rfl ?_
  refine yx_iload h dL_law_363 10 rfl ?_
  refine yx_csx (rest := []) h hE hkn (c_chosenL (l := X.2.1) hW hE (a := a) (q0 := 1) (q1 := 0) rfl rfl hm ha) lL_chosen mL_46 (by decide) (by decide) rfl rfl rfl dL_law_365 (fun σc1 hc1 => ?_)
  refine yx_istore (L' := [(0, .ref b), (1, .ref (w.1 0)), (2, .int (nI (nN μ))), (3, .ref kw), (4, .int (wasS μ a)), (5, .int (nI (smC μ a))), (6, .int (nI a)), (7, .int (μ (64 + a))), (8, .ref kk), (9, .int (wil μ a)), (10, .int (bhd μ a)), (11, .int (chos μ a))]) h dL_law_368 rfl (by decide) rfl ?_
  refine yx_iconstv (v := -1) h dL_law_370 (by decide) ?_
  refine yx_istore (L' := [(0, .ref b), (1, .ref (w.1 0)), (2, .int (nI (nN μ))), (3, .ref kw), (4, .int (wasS μ a)), (5, .int (nI (smC μ a))), (6, .int (nI a)), (7, .int (μ (64 + a))), (8, .ref kk), (9, .int (wil μ a)), (10, .int (bhd μ a)), (11, .int (chos μ a)), (12, .int (-1))]) h dL_law_371 rfl (by decide) rfl ?_
  refine yx_iconst h dL_law_373 (by decide) ?_
  refine yx_istore (L' := [(0, .ref b), (1, .ref (w.1 0)), (2, .int (nI (nN μ))), (3, .ref kw), (4, .int (wasS μ a)), (5, .int (nI (smC μ a))), (6, .int (nI a)), (7, .int (μ (64 + a))), (8, .ref kk), (9, .int (wil μ a)), (10, .int (bhd μ a)), (11, .int (chos μ a)), (12, .int (-1)), (13, .int (nI 0))]) h dL_law_374 rfl (by decide) rfl ?_
  exact LK hc1 (2 ^ nN μ + 1) 0 (by omega) (by omega)

set_option maxRecDepth 100000 in
set_option maxHeartbeats 8000000 in
theorem ls_5c {X : GX} {A : Nat → Prop} {w : Wd} (hW : Wi w) (h : Fy X A w cL_law 18 RL 9) {b Lx : Nat} {xs : Nat → Int32} (hX : SX X A b Lx xs) (hR : RoomX X) {c9 s9 : Nat} (hc : c9 ≤ 1000) (hs : s9 ≤ 100000) {μ : Nat → Int32} {kw : Nat} (hkw : ¬ wA w kw) (hAw : A kw) (hI : MI μ) {kk : Nat} (hkk : ¬ wA w kk) (hne : kw ≠ kk) (hAk : A kk) (hr : RLN μ) {a : Nat} (ha : a < nN μ) (next : ∀ {σ : Mem}, LM σ μ → JX X A w ([(kw, .inl (w.2.2.1.1, nN μ, .inl fun j => μ (16 + j))), (kk, .inl (w.2.2.1.1, nN μ, .inl fun j => μ (144 + (8 * a + j))))]) 18 515 [(0, .ref b), (1, .ref (w.1 0)), (2, .int (nI (nN μ))), (3, .ref kw), (4, .int (wasS μ a)), (5, .int (nI (smC μ a))), (6, .int (nI a)), (7, .int (μ (64 + a))), (8, .ref kk), (9, .int (wil μ a)), (10, .int (bhd μ a)), (11, .int (chos μ a)), (12, .int (lst μ a)), (13, .int (b2i (tb (μ 1) a)))] [] σ c9 s9) : ∀ {σ : Mem}, LM σ μ → JX X A w ([(kw, .inl (w.2.2.1.1, nN μ, .inl fun j => μ (16 + j))), (kk, .inl (w.2.2.1.1, nN μ, .inl fun j => μ (144 + (8 * a + j))))]) 18 438 [(0, .ref b), (1, .ref (w.1 0)), (2, .int (nI (nN μ))), (3, .ref kw), (4, .int (wasS μ a)), (5, .int (nI (smC μ a))), (6, .int (nI a)), (7, .int (μ (64 + a))), (8, .ref kk), (9, .int (wil μ a)), (10, .int (bhd μ a)), (11, .int (chos μ a)), (12, .int (lst μ a))] [] σ c9 s9 := by
  have hLx : Lx < 4000 := hX.2.2.2
  have hkn : c9 ≤ X.2.2.2.1.cells ∧ s9 ≤ X.2.2.2.1.slots := ⟨by rw [hR.1]; omega, by rw [hR.2]; omega⟩
  have h8 := mi_8 hI
  have hp2 := p2_8 h8
  have hE : DX w [(kw, .inl (w.2.2.1.1, nN μ, .inl fun j => μ (16 + j))), (kk, .inl (w.2.2.1.1, nN μ, .inl fun j => μ (144 + (8 * a + j))))] := dx2 hkw hkk hne
  have J502 : ∀ {σ : Mem} (hm : LM σ μ), JX X A w ([(kw, .inl (w.2.2.1.1, nN μ, .inl fun j => μ (16 + j))), (kk, .inl (w.2.2.1.1, nN μ, .inl fun j => μ (144 + (8 * a + j))))]) 18 502 [(0, .ref b), (1, .ref (w.1 0)), (2, .int (nI (nN μ))), (3, .ref kw), (4, .int (wasS μ a)), (5, .int (nI (smC μ a))), (6, .int (nI a)), (7, .int (μ (64 + a))), (8, .ref kk), (9, .int (wil μ a)), (10, .int (bhd μ a)), (11, .int (chos μ a)), (12, .int (lst μ a)), (13, .int (b2i (tb (μ 1) a)))] [] σ c9 s9 := by
    intro σ hm
    refine yx_aload_n h dL_law_502 1 rfl ?_
    refine yx_iload h dL_law_503 6 rfl ?_
    refine yx_cv (rest := []) h hE hkn (lm_least hW hm ha) lX11_least mL_56 (by decide) (by decide) sc_0 rfl rfl rfl rfl dL_law_505 (fun σ3 hq3 => ?_)
    refine yx_iload h dL_law_508 12 rfl ?_
    refine yx_icmp_eq h dL_law_510 (fun _ => ?_) (fun q9 => False.elim (q9 rfl))
    exact next hq3.1
  have J454 : ∀ {σ : Mem} (hm : LM σ μ) (v : Int32), v = b2i (tb (μ 1) a) → JX X A w ([(kw, .inl (w.2.2.1.1, nN μ, .inl fun j => μ (16 + j))), (kk, .inl (w.2.2.1.1, nN μ, .inl fun j => μ (144 + (8 * a + j))))]) 18 454 [(0, .ref b), (1, .ref (w.1 0)), (2, .int (nI (nN μ))), (3, .ref kw), (4, .int (wasS μ a)), (5, .int (nI (smC μ a))), (6, .int (nI a)), (7, .int (μ (64 + a))), (8, .ref kk), (9, .int (wil μ a)), (10, .int (bhd μ a)), (11, .int (chos μ a)), (12, .int (lst μ a))] [.int v] σ c9 s9 := by
    intro σ hm v hv
    subst hv
    refine yx_istore (L' := [(0, .ref b), (1, .ref (w.1 0)), (2, .int (nI (nN μ))), (3, .ref kw), (4, .int (wasS μ a)), (5, .int (nI (smC μ a))), (6, .int (nI a)), (7, .int (μ (64 + a))), (8, .ref kk), (9, .int (wil μ a)), (10, .int (bhd μ a)), (11, .int (chos μ a)), (12, .int (lst μ a)), (13, .int (b2i (tb (μ 1) a)))]) h dL_law_454 rfl (by decide) rfl ?_
    refine yx_iload h dL_law_456 11 rfl ?_
    refine yx_if_lt h dL_law_458 (fun q9 => False.elim (sb8_ge (sb_chos hI) q9)) (fun _ => ?_)
    refine yx_aload_n h dL_law_461 1 rfl ?_
    refine yx_iload h dL_law_462 6 rfl ?_
    refine yx_iconst h dL_law_464 (by decide) ?_
    refine yx_cv (rest := []) h hE hkn (lm_node hW hm ha (wt := 5) (by omega)) lX11_node mL_31 (by decide) (by decide) sc_0 rfl rfl rfl rfl dL_law_465 (fun σ4 hq4 => ?_)
    refine yx_top (y := (bhd μ a)) (rfl) ?_
    refine yx_iload h dL_law_468 10 rfl ?_
    refine yx_icmp_ne h dL_law_470 (fun q9 => False.elim (q9 rfl)) (fun _ => ?_)
    refine yx_aload_n h dL_law_473 1 rfl ?_
    refine yx_iload h dL_law_474 6 rfl ?_
    refine yx_cv (rest := []) h hE hkn (lm_would hW hq4.1 ha) lX11_would mL_53 (by decide) (by decide) sc_0 rfl rfl rfl rfl dL_law_476 (fun σ5 hq5 => ?_)
    refine yx_iload h dL_law_479 11 rfl ?_
    refine yx_icmp_ne h dL_law_481 (fun q9 => False.elim (q9 rfl)) (fun _ => ?_)
    refine yx_iload h dL_law_484 13 rfl ?_
    refine yx_ifB_eq h dL_law_486 (fun c1 => ?_) (fun c1 => ?_)
    · exact J502 hq5.1
    · refine yx_aload_n h dL_law_489 1 rfl ?_
      refine yx_iload h dL_law_490 6 rfl ?_
      refine yx_bipush h dL_law_492 (by decide) ?_
      refine yx_cv (rest := []) h hE hkn (lm_node hW hq5.1 ha (wt := 6) (by omega)) lX11_node mL_31 (by decide) (by decide) sc_0 rfl rfl rfl rfl dL_law_494 (fun σ6 hq6 => ?_)
      refine yx_top (y := (μ (48 + a))) (rfl) ?_
      refine yx_iload h dL_law_497 11 rfl ?_
      refine yx_icmp_ne h dL_law_499 (fun q9 => False.elim (q9 (hr a ha c1))) (fun _ => ?_)
      exact J502 hq6.1
  intro σ hm
  refine yx_aload_n h dL_law_438 1 rfl ?_
  refine yx_iload h dL_law_439 6 rfl ?_
  refine yx_iconst h dL_law_441 (by decide) ?_
  refine yx_cv (rest := []) h hE hkn (lm_node hW hm ha (wt := 0) (by omega)) lX11_node mL_31 (by decide) (by decide) sc_0 rfl rfl rfl rfl dL_law_442 (fun σ7 hq7 => ?_)
  refine yx_top (y := (b2i (tb (μ 1) a))) (rfl) ?_
  refine yx_iconst h dL_law_445 (by decide) ?_
  refine yx_icmp_ne h dL_law_446 (fun c => ?_) (fun c => ?_)
  · have c3 := b2i_ne1 c
    refine yx_iconst h dL_law_453 (by decide) ?_
    exact J454 hq7.1 _ (by rw [c3]; rfl)
  · have c3 := b2i_eq1 c
    refine yx_iconst h dL_law_449 (by decide) ?_
    refine yx_goto h dL_law_450 ?_
    exact J454 hq7.1 _ (by rw [c3]; rfl)

set_option maxRecDepth 100000 in
set_option maxHeartbeats 8000000 in
theorem ls_5d {X : GX} {A : Nat → Prop} {w : Wd} (hW : Wi w) (h : Fy X A w cL_law 18 RL 9) {b Lx : Nat} {xs : Nat → Int32} (hX : SX X A b Lx xs) (hR : RoomX X) {c9 s9 : Nat} (hc : c9 ≤ 1000) (hs : s9 ≤ 100000) {μ : Nat → Int32} {kw : Nat} (hkw : ¬ wA w kw) (hAw : A kw) (hI : MI μ) {kk : Nat} (hkk : ¬ wA w kk) (hne : kw ≠ kk) (hAk : A kk) (hr : RLN μ) {a : Nat} (ha : a < nN μ) (next : ∀ {σ : Mem}, LM σ μ → JX X A w ([(kw, .inl (w.2.2.1.1, nN μ, .inl fun j => μ (16 + j))), (kk, .inl (w.2.2.1.1, nN μ, .inl fun j => μ (144 + (8 * a + j))))]) 18 559 [(0, .ref b), (1, .ref (w.1 0)), (2, .int (nI (nN μ))), (3, .ref kw), (4, .int (wasS μ (a + 1))), (5, .int (nI (smC μ (a + 1)))), (6, .int (nI a)), (7, .int (μ (64 + a))), (8, .ref kk), (9, .int (wil μ a)), (10, .int (bhd μ a)), (11, .int (chos μ a)), (12, .int (lst μ a)), (13, .int (b2i (tb (μ 1) a)))] [] σ c9 s9) : ∀ {σ : Mem}, LM σ μ → JX X A w ([(kw, .inl (w.2.2.1.1, nN μ, .inl fun j => μ (16 + j))), (kk, .inl (w.2.2.1.1, nN μ, .inl fun j => μ (144 + (8 * a + j))))]) 18 515 [(0, .ref b), (1, .ref (w.1 0)), (2, .int (nI (nN μ))), (3, .ref kw), (4, .int (wasS μ a)), (5, .int (nI (smC μ a))), (6, .int (nI a)), (7, .int (μ (64 + a))), (8, .ref kk), (9, .int (wil μ a)), (10, .int (bhd μ a)), (11, .int (chos μ a)), (12, .int (lst μ a)), (13, .int (b2i (tb (μ 1) a)))] [] σ c9 s9 := by
  have hLx : Lx < 4000 := hX.2.2.2
  have hkn : c9 ≤ X.2.2.2.1.cells ∧ s9 ≤ X.2.2.2.1.slots := ⟨by rw [hR.1]; omega, by rw [hR.2]; omega⟩
  have h8 := mi_8 hI
  have hp2 := p2_8 h8
  have hE : DX w [(kw, .inl (w.2.2.1.1, nN μ, .inl fun j => μ (16 + j))), (kk, .inl (w.2.2.1.1, nN μ, .inl fun j => μ (144 + (8 * a + j))))] := dx2 hkw hkk hne
  intro σ hm
  refine yx_iload h dL_law_515 4 rfl ?_
  refine yx_iload h dL_law_517 13 rfl ?_
  refine yx_ifB_eq h dL_law_519 (fun c1 => ?_) (fun c1 => ?_)
  · refine yx_iconst h dL_law_536 (by decide) ?_
    refine yx_iadd h dL_law_537 ?_
    refine yx_top (y := (wasS μ (a + 1))) (by first | exact was_t hr ha c1 | exact was_f c1 | fail) ?_
    refine yx_istore (L' := [(0, .ref b), (1, .ref (w.1 0)), (2, .int (nI (nN μ))), (3, .ref kw), (4, .int (wasS μ (a + 1))), (5, .int (nI (smC μ a))), (6, .int (nI a)), (7, .int (μ (64 + a))), (8, .ref kk), (9, .int (wil μ a)), (10, .int (bhd μ a)), (11, .int (chos μ a)), (12, .int (lst μ a)), (13, .int (b2i (tb (μ 1) a)))]) h dL_law_538 rfl (by decide) rfl ?_
    refine yx_iload h dL_law_540 5 rfl ?_
    refine yx_iload h dL_law_542 13 rfl ?_
    refine yx_ifB_eq h dL_law_544 (fun c2 => ?_) (fun c2 => ?_)
    · refine yx_iconst h dL_law_555 (by decide) ?_
      refine yx_iaddN h dL_law_556 ?_
      refine yx_top (y := (nI (smC μ (a + 1)))) (congrArg nI (by first | exact smC_t c2 | exact smC_f c2 | fail)) ?_
      refine yx_istore (L' := [(0, .ref b), (1, .ref (w.1 0)), (2, .int (nI (nN μ))), (3, .ref kw), (4, .int (wasS μ (a + 1))), (5, .int (nI (smC μ (a + 1)))), (6, .int (nI a)), (7, .int (μ (64 + a))), (8, .ref kk), (9, .int (wil μ a)), (10, .int (bhd μ a)), (11, .int (chos μ a)), (12, .int (lst μ a)), (13, .int (b2i (tb (μ 1) a)))]) h dL_law_557 rfl (by decide) rfl ?_
      exact next hm
    · refine yx_iload h dL_law_547 11 rfl ?_
      refine yx_csp (rest := [.int (nI (smC μ a))]) h hE hkn (c_bits hW (chos μ a)) lL_bits mL_50 (by decide) (by decide) rfl rfl rfl dL_law_549 ?_
      refine yx_goto h dL_law_552 ?_
      refine yx_iaddN h dL_law_556 ?_
      refine yx_top (y := (nI (smC μ (a + 1)))) (congrArg nI (by first | exact smC_t c2 | exact smC_f c2 | fail)) ?_
      refine yx_istore (L' := [(0, .ref b), (1, .ref (w.1 0)), (2, .int (nI (nN μ))), (3, .ref kw), (4, .int (wasS μ (a + 1))), (5, .int (nI (smC μ (a + 1)))), (6, .int (nI a)), (7, .int (μ (64 + a))), (8, .ref kk), (9, .int (wil μ a)), (10, .int (bhd μ a)), (11, .int (chos μ a)), (12, .int (lst μ a)), (13, .int (b2i (tb (μ 1) a)))]) h dL_law_557 rfl (by decide) rfl ?_
      exact next hm
  · refine yx_iload h dL_law_522 11 rfl ?_
    refine yx_csp (rest := [.int (wasS μ a)]) h hE hkn (c_bits hW (chos μ a)) lL_bits mL_50 (by decide) (by decide) rfl rfl rfl dL_law_524 ?_
    refine yx_iload h dL_law_527 12 rfl ?_
    refine yx_csp (rest := [.int (nI (pc (chos μ a))), .int (wasS μ a)]) h hE hkn (c_bits hW (lst μ a)) lL_bits mL_50 (by decide) (by decide) rfl rfl rfl dL_law_529 ?_
    refine yx_isub h dL_law_532 ?_
    refine yx_goto h dL_law_533 ?_
    refine yx_iadd h dL_law_537 ?_
    refine yx_top (y := (wasS μ (a + 1))) (by first | exact was_t hr ha c1 | exact was_f c1 | fail) ?_
    refine yx_istore (L' := [(0, .ref b), (1, .ref (w.1 0)), (2, .int (nI (nN μ))), (3, .ref kw), (4, .int (wasS μ (a + 1))), (5, .int (nI (smC μ a))), (6, .int (nI a)), (7, .int (μ (64 + a))), (8, .ref kk), (9, .int (wil μ a)), (10, .int (bhd μ a)), (11, .int (chos μ a)), (12, .int (lst μ a)), (13, .int (b2i (tb (μ 1) a)))]) h dL_law_538 rfl (by decide) rfl ?_
    refine yx_iload h dL_law_540 5 rfl ?_
    refine yx_iload h dL_law_542 13 rfl ?_
    refine yx_ifB_eq h dL_law_544 (fun c2 => ?_) (fun c2 => ?_)
    · refine yx_iconst h dL_law_555 (by decide) ?_
      refine yx_iaddN h dL_law_556 ?_
      refine yx_top (y := (nI (smC μ (a + 1)))) (congrArg nI (by first | exact smC_t c2 | exact smC_f c2 | fail)) ?_
      refine yx_istore (L' := [(0, .ref b), (1, .ref (w.1 0)), (2, .int (nI (nN μ))), (3, .ref kw), (4, .int (wasS μ (a + 1))), (5, .int (nI (smC μ (a + 1)))), (6, .int (nI a)), (7, .int (μ (64 + a))), (8, .ref kk), (9, .int (wil μ a)), (10, .int (bhd μ a)), (11, .int (chos μ a)), (12, .int (lst μ a)), (13, .int (b2i (tb (μ 1) a)))]) h dL_law_557 rfl (by decide) rfl ?_
      exact next hm
    · refine yx_iload h dL_law_547 11 rfl ?_
      refine yx_csp (rest := [.int (nI (smC μ a))]) h hE hkn (c_bits hW (chos μ a)) lL_bits mL_50 (by decide) (by decide) rfl rfl rfl dL_law_549 ?_
      refine yx_goto h dL_law_552 ?_
      refine yx_iaddN h dL_law_556 ?_
      refine yx_top (y := (nI (smC μ (a + 1)))) (congrArg nI (by first | exact smC_t c2 | exact smC_f c2 | fail)) ?_
      refine yx_istore (L' := [(0, .ref b), (1, .ref (w.1 0)), (2, .int (nI (nN μ))), (3, .ref kw), (4, .int (wasS μ (a + 1))), (5, .int (nI (smC μ (a + 1)))), (6, .int (nI a)), (7, .int (μ (64 + a))), (8, .ref kk), (9, .int (wil μ a)), (10, .int (bhd μ a)), (11, .int (chos μ a)), (12, .int (lst μ a)), (13, .int (b2i (tb (μ 1) a)))]) h dL_law_557 rfl (by decide) rfl ?_
      exact next hm

set_option maxRecDepth 100000 in
set_option maxHeartbeats 8000000 in
theorem ls_5e {X : GX} {A : Nat → Prop} {w : Wd} (hW : Wi w) (h : Fy X A w cL_law 18 RL 9) {b Lx : Nat} {xs : Nat → Int32} (hX : SX X A b Lx xs) (hR : RoomX X) {c9 s9 : Nat} (hc : c9 ≤ 1000) (hs : s9 ≤ 100000) {μ : Nat → Int32} {kw : Nat} (hkw : ¬ wA w kw) (hAw : A kw) (hI : MI μ) {kk : Nat} (hkk : ¬ wA w kk) (hne : kw ≠ kk) (hAk : A kk) {a : Nat} (ha : a < nN μ) (next : ∀ {σ : Mem}, LM σ μ → JX X A w ([(kw, .inl (w.2.2.1.1, nN μ, .inl fun j => μ (16 + j))), (kk, .inl (w.2.2.1.1, nN μ, .inl fun j => μ (144 + (8 * a + j))))]) 18 633 [(0, .ref b), (1, .ref (w.1 0)), (2, .int (nI (nN μ))), (3, .ref kw), (4, .int (wasS μ (a + 1))), (5, .int (nI (smC μ (a + 1)))), (6, .int (nI a)), (7, .int (μ (64 + a))), (8, .ref kk), (9, .int (wil μ a)), (10, .int (bhd μ a)), (11, .int (chos μ a)), (12, .int (lst μ a)), (13, .int (b2i (tb (μ 1) a)))] [] σ c9 s9) : ∀ {σ : Mem}, LM σ μ → JX X A w ([(kw, .inl (w.2.2.1.1, nN μ, .inl fun j => μ (16 + j))), (kk, .inl (w.2.2.1.1, nN μ, .inl fun j => μ (144 + (8 * a + j))))]) 18 559 [(0, .ref b), (1, .ref (w.1 0)), (2, .int (nI (nN μ))), (3, .ref kw), (4, .int (wasS μ (a + 1))), (5, .int (nI (smC μ (a + 1)))), (6, .int (nI a)), (7, .int (μ (64 + a))), (8, .ref kk), (9, .int (wil μ a)), (10, .int (bhd μ a)), (11, .int (chos μ a)), (12, .int (lst μ a)), (13, .int (b2i (tb (μ 1) a)))] [] σ c9 s9 := by
  have hLx : Lx < 4000 := hX.2.2.2
  have hkn : c9 ≤ X.2.2.2.1.cells ∧ s9 ≤ X.2.2.2.1.slots := ⟨by rw [hR.1]; omega, by rw [hR.2]; omega⟩
  have h8 := mi_8 hI
  have hp2 := p2_8 h8
  have hE : DX w [(kw, .inl (w.2.2.1.1, nN μ, .inl fun j => μ (16 + j))), (kk, .inl (w.2.2.1.1, nN μ, .inl fun j => μ (144 + (8 * a + j))))] := dx2 hkw hkk hne
  intro σ hm
  have J584 : ∀ v : Int32, sb (nN μ) v → JX X A w ([(kw, .inl (w.2.2.1.1, nN μ, .inl fun j => μ (16 + j))), (kk, .inl (w.2.2.1.1, nN μ, .inl fun j => μ (144 + (8 * a + j))))]) 18 584 [(0, .ref b), (1, .ref (w.1 0)), (2, .int (nI (nN μ))), (3, .ref kw), (4, .int (wasS μ (a + 1))), (5, .int (nI (smC μ (a + 1)))), (6, .int (nI a)), (7, .int (μ (64 + a))), (8, .ref kk), (9, .int (wil μ a)), (10, .int (bhd μ a)), (11, .int (chos μ a)), (12, .int (lst μ a)), (13, .int (b2i (tb (μ 1) a)))] [.int v] σ c9 s9 := by
    intro v hv
    refine yx_istore (L' := [(0, .ref b), (1, .ref (w.1 0)), (2, .int (nI (nN μ))), (3, .ref kw), (4, .int (wasS μ (a + 1))), (5, .int (nI (smC μ (a + 1)))), (6, .int (nI a)), (7, .int (μ (64 + a))), (8, .ref kk), (9, .int (wil μ a)), (10, .int (bhd μ a)), (11, .int (chos μ a)), (12, .int (lst μ a)), (13, .int (b2i (tb (μ 1) a))), (14, .int v)]) h dL_law_584 rfl (by decide) rfl ?_
    refine yx_aload_n h dL_law_586 1 rfl ?_
    refine yx_iload h dL_law_587 6 rfl ?_
    refine yx_iload h dL_law_589 14 rfl ?_
    refine yx_cv (rest := []) h hE hkn (lm_covers hW hm ha hv) lX11_covers mL_59 (by decide) (by decide) sc_0 rfl rfl rfl rfl dL_law_591 (fun σ8 hq8 => ?_)
    refine yx_iload h dL_law_594 10 rfl ?_
    refine yx_aload h dL_law_596 8 rfl ?_
    refine yx_iload h dL_law_598 14 rfl ?_
    refine yx_iload h dL_law_600 7 rfl ?_
    refine yx_iand h dL_law_602 ?_
    refine yx_csxp (rest := [.int (bhd μ a), .int (bhd μ a &&& kno μ a (v &&& μ (64 + a)))]) h hE hkn (c_ofK hW hE (a := a) (q0 := 1) rfl h8 (v &&& (μ (64 + a)))) lL_of mL_42 (by decide) (by decide) rfl rfl rfl dL_law_603 ?_
    refine yx_iand h dL_law_606 ?_
    refine yx_icmp_ne h dL_law_607 (fun q9 => False.elim (q9 rfl)) (fun _ => ?_)
    refine yx_aload_n h dL_law_610 1 rfl ?_
    refine yx_iload h dL_law_611 6 rfl ?_
    refine yx_iconst h dL_law_613 (by decide) ?_
    refine yx_iload_n h dL_law_614 2 rfl ?_
    refine yx_ishl h dL_law_615 ?_
    refine yx_cv (rest := []) h hE hkn (lm_coversM hW hq8.1 (i := a) rfl) lX11_covers mL_59 (by decide) (by decide) sc_0 rfl rfl rfl rfl dL_law_616 (fun σ9 hq9 => ?_)
    refine yx_iconstv (v := -1) h dL_law_619 (by decide) ?_
    refine yx_icmp_ne h dL_law_620 (fun q9 => False.elim (q9 rfl)) (fun _ => ?_)
    refine yx_aload_n h dL_law_623 1 rfl ?_
    refine yx_cv (rest := []) h hE hkn (lm_status hW hq9.2) lX11_status mL_62 (by decide) (by decide) sc_0 rfl rfl rfl rfl dL_law_624 (fun σ10 hq10 => ?_)
    rw [hq10]
    refine yx_iconst h dL_law_627 (by decide) ?_
    refine yx_icmpN_eq h dL_law_628 (by omega) (by omega) (fun _ => ?_) (fun q9 => False.elim (q9 rfl))
    exact yx_sub [0, 1, 2, 3, 4, 5, 6, 7, 8, 9, 10, 11, 12, 13] rfl (next hq9.1)
  refine yx_aload_n h dL_law_559 0 rfl ?_
  refine yx_slen h hX dL_law_560 ?_
  refine yx_bipush h dL_law_561 (by decide) ?_
  refine yx_icmpN_le h dL_law_563 (by omega) (by omega) (fun c1 => ?_) (fun c1 => ?_)
  · refine yx_iload h dL_law_582 7 rfl ?_
    exact J584 _ (by first | exact sb_ar (sb_mN h8) | exact ms_near hI (by omega) | fail)
  · refine yx_aload_n h dL_law_566 0 rfl ?_
    refine yx_bipush h dL_law_567 (by decide) ?_
    refine yx_sld h hX dL_law_569 (by omega) ?_
    refine yx_iload h dL_law_570 6 rfl ?_
    refine yx_ishr h dL_law_572 ?_
    refine yx_iconst h dL_law_573 (by decide) ?_
    refine yx_iload_n h dL_law_574 2 rfl ?_
    refine yx_ishl h dL_law_575 ?_
    refine yx_iconst h dL_law_576 (by decide) ?_
    refine yx_isub h dL_law_577 ?_
    refine yx_iand h dL_law_578 ?_
    refine yx_goto h dL_law_579 ?_
    exact J584 _ (by first | exact sb_ar (sb_mN h8) | exact ms_near hI (by omega) | fail)

set_option maxRecDepth 100000 in
set_option maxHeartbeats 8000000 in
theorem ls_5f {X : GX} {A : Nat → Prop} {w : Wd} (hW : Wi w) (h : Fy X A w cL_law 18 RL 9) {b Lx : Nat} {xs : Nat → Int32} (hX : SX X A b Lx xs) (hR : RoomX X) {c9 s9 : Nat} (hc : c9 ≤ 1000) (hs : s9 ≤ 100000) {μ : Nat → Int32} {kw : Nat} (hkw : ¬ wA w kw) (hAw : A kw) (hI : MI μ) {kk : Nat} (hkk : ¬ wA w kk) (hne : kw ≠ kk) (hAk : A kk) {a : Nat} (ha : a < nN μ) (next : ∀ {σ : Mem}, LM σ μ → JX X A w ([(kw, .inl (w.2.2.1.1, nN μ, .inl fun j => μ (16 + j)))]) 18 241 [(0, .ref b), (1, .ref (w.1 0)), (2, .int (nI (nN μ))), (3, .ref kw), (4, .int (wasS μ (a + 1))), (5, .int (nI (smC μ (a + 1)))), (6, .int (nI (a + 1)))] [] σ c9 s9) : ∀ {σ : Mem}, LM σ μ → JX X A w ([(kw, .inl (w.2.2.1.1, nN μ, .inl fun j => μ (16 + j))), (kk, .inl (w.2.2.1.1, nN μ, .inl fun j => μ (144 + (8 * a + j))))]) 18 633 [(0, .ref b), (1, .ref (w.1 0)), (2, .int (nI (nN μ))), (3, .ref kw), (4, .int (wasS μ (a + 1))), (5, .int (nI (smC μ (a + 1)))), (6, .int (nI a)), (7, .int (μ (64 + a))), (8, .ref kk), (9, .int (wil μ a)), (10, .int (bhd μ a)), (11, .int (chos μ a)), (12, .int (lst μ a)), (13, .int (b2i (tb (μ 1) a)))] [] σ c9 s9 := by
  have hLx : Lx < 4000 := hX.2.2.2
  have hkn : c9 ≤ X.2.2.2.1.cells ∧ s9 ≤ X.2.2.2.1.slots := ⟨by rw [hR.1]; omega, by rw [hR.2]; omega⟩
  have h8 := mi_8 hI
  have hp2 := p2_8 h8
  have hE : DX w [(kw, .inl (w.2.2.1.1, nN μ, .inl fun j => μ (16 + j))), (kk, .inl (w.2.2.1.1, nN μ, .inl fun j => μ (144 + (8 * a + j))))] := dx2 hkw hkk hne
  have LB : ∀ {σ : Mem} (hm : LM σ μ) (f q : Nat), q ≤ nN μ → nN μ - q < f → JX X A w ([(kw, .inl (w.2.2.1.1, nN μ, .inl fun j => μ (16 + j))), (kk, .inl (w.2.2.1.1, nN μ, .inl fun j => μ (144 + (8 * a + j))))]) 18 649 [(0, .ref b), (1, .ref (w.1 0)), (2, .int (nI (nN μ))), (3, .ref kw), (4, .int (wasS μ (a + 1))), (5, .int (nI (smC μ (a + 1)))), (6, .int (nI a)), (7, .int (μ (64 + a))), (8, .ref kk), (9, .int (wil μ a)), (10, .int (bhd μ a)), (11, .int (chos μ a)), (12, .int (lst μ a)), (13, .int (b2i (tb (μ 1) a))), (15, .int (alP μ a (μ (48 + a)) (bhd μ a) q)), (16, .int (μ (48 + a))), (17, .int (nI q))] [] σ c9 s9 := by
    intro σ hm f
    induction f with
    | zero => intro q _ h9; exact absurd h9 (Nat.not_lt_zero _)
    | succ f ih =>
      intro q hq hf9
      have J702 : q < nN μ → ∀ x : Int32, x = alP μ a (μ (48 + a)) (bhd μ a) (q + 1) → JX X A w ([(kw, .inl (w.2.2.1.1, nN μ, .inl fun j => μ (16 + j))), (kk, .inl (w.2.2.1.1, nN μ, .inl fun j => μ (144 + (8 * a + j))))]) 18 702 [(0, .ref b), (1, .ref (w.1 0)), (2, .int (nI (nN μ))), (3, .ref kw), (4, .int (wasS μ (a + 1))), (5, .int (nI (smC μ (a + 1)))), (6, .int (nI a)), (7, .int (μ (64 + a))), (8, .ref kk), (9, .int (wil μ a)), (10, .int (bhd μ a)), (11, .int (chos μ a)), (12, .int (lst μ a)), (13, .int (b2i (tb (μ 1) a))), (15, .int x), (16, .int (μ (48 + a))), (17, .int (nI q))] [] σ c9 s9 := by
        intro hq9 x hx
        subst hx
        refine yx_iincN (L' := [(0, .ref b), (1, .ref (w.1 0)), (2, .int (nI (nN μ))), (3, .ref kw), (4, .int (wasS μ (a + 1))), (5, .int (nI (smC μ (a + 1)))), (6, .int (nI a)), (7, .int (μ (64 + a))), (8, .ref kk), (9, .int (wil μ a)), (10, .int (bhd μ a)), (11, .int (chos μ a)), (12, .int (lst μ a)), (13, .int (b2i (tb (μ 1) a))), (15, .int (alP μ a (μ (48 + a)) (bhd μ a) (q + 1))), (16, .int (μ (48 + a))), (17, .int (nI (q + 1)))]) h dL_law_702 16 rfl rfl (by decide) (by decide) rfl ?_
        refine yx_goto h dL_law_705 ?_
        exact ih (q + 1) (by omega) (by omega)
      refine yx_iload h dL_law_649 16 rfl ?_
      refine yx_iload_n h dL_law_651 2 rfl ?_
      refine yx_icmpN_ge h dL_law_652 (by omega) (by omega) (fun c => ?_) (fun c => ?_)
      · have eq9 : q = nN μ := by omega
        subst eq9
        refine yx_aload_n h dL_law_708 1 rfl ?_
        refine yx_iload h dL_law_709 6 rfl ?_
        refine yx_cv (rest := []) h hE hkn (lm_needed hW hm ha) lX11_needed mL_66 (by decide) (by decide) sc_0 rfl rfl rfl rfl dL_law_711 (fun σ11 hq11 => ?_)
        refine yx_iload h dL_law_714 14 rfl ?_
        refine yx_icmp_eq h dL_law_716 (fun _ => ?_) (fun q9 => False.elim (q9 rfl))
        refine yx_iincN (L' := [(0, .ref b), (1, .ref (w.1 0)), (2, .int (nI (nN μ))), (3, .ref kw), (4, .int (wasS μ (a + 1))), (5, .int (nI (smC μ (a + 1)))), (6, .int (nI (a + 1))), (7, .int (μ (64 + a))), (8, .ref kk), (9, .int (wil μ a)), (10, .int (bhd μ a)), (11, .int (chos μ a)), (12, .int (lst μ a)), (13, .int (b2i (tb (μ 1) a))), (15, .int (alP μ a (μ (48 + a)) (bhd μ a) (nN μ))), (16, .int (μ (48 + a))), (17, .int (nI (nN μ)))]) h dL_law_721 6 rfl rfl (by decide) (by decide) rfl ?_
        refine yx_goto h dL_law_724 ?_
        exact yx_forget [0] rfl (yx_sub [0, 1, 2, 3, 4, 5, 6] rfl (next hq11.1))
      · refine yx_iload h dL_law_655 15 rfl ?_
        refine yx_iload h dL_law_657 16 rfl ?_
        refine yx_csp (rest := []) h hE hkn (c_hasL hW (μ (48 + a)) q (by omega)) lL_has mL_38 (by decide) (by decide) rfl rfl rfl dL_law_659 ?_
        refine yx_ifB_eq h dL_law_662 (fun c1 => ?_) (fun c1 => ?_)
        · exact J702 (by omega) (alP μ a (μ (48 + a)) (bhd μ a) q) (by first | exact alP_f1 c1 | exact alP_f2 c2 | exact alP_t c1 c2 | fail)
        · refine yx_iload h dL_law_665 10 rfl ?_
          refine yx_aload h dL_law_667 8 rfl ?_
          refine yx_iload h dL_law_669 16 rfl ?_
          refine yx_iald (q0 := 1) h dL_law_671 rfl (by omega) (by omega) ?_
          refine yx_iand h dL_law_672 ?_
          refine yx_aload h dL_law_673 8 rfl ?_
          refine yx_iload h dL_law_675 15 rfl ?_
          refine yx_iconst h dL_law_677 (by decide) ?_
          refine yx_iload h dL_law_678 16 rfl ?_
          refine yx_ishl h dL_law_680 ?_
          refine yx_iconstv (v := -1) h dL_law_681 (by decide) ?_
          refine yx_ixor h dL_law_682 ?_
          refine yx_iand h dL_law_683 ?_
          refine yx_csxp (rest := [.int ((bhd μ a) &&& (μ (144 + (8 * a + q))))]) h hE hkn (c_ofK hW hE (a := a) (q0 := 1) rfl h8 ((μ (48 + a)) &&& (nots (bt1 q)))) lL_of mL_42 (by decide) (by decide) rfl rfl rfl dL_law_684 ?_
          refine yx_iconstv (v := -1) h dL_law_687 (by decide) ?_
          refine yx_ixor h dL_law_688 ?_
          refine yx_iand h dL_law_689 ?_
          refine yx_if_eq h dL_law_690 (fun c2 => ?_) (fun c2 => ?_)
          · exact J702 (by omega) (alP μ a (μ (48 + a)) (bhd μ a) q) (by first | exact alP_f1 c1 | exact alP_f2 c2 | exact alP_t c1 c2 | fail)
          · refine yx_iload h dL_law_693 14 rfl ?_
            refine yx_iconst h dL_law_695 (by decide) ?_
            refine yx_iload h dL_law_696 16 rfl ?_
            refine yx_ishl h dL_law_698 ?_
            refine yx_ior h dL_law_699 ?_
            refine yx_istore (L' := [(0, .ref b), (1, .ref (w.1 0)), (2, .int (nI (nN μ))), (3, .ref kw), (4, .int (wasS μ (a + 1))), (5, .int (nI (smC μ (a + 1)))), (6, .int (nI a)), (7, .int (μ (64 + a))), (8, .ref kk), (9, .int (wil μ a)), (10, .int (bhd μ a)), (11, .int (chos μ a)), (12, .int (lst μ a)), (13, .int (b2i (tb (μ 1) a))), (15, .int ((alP μ a (μ (48 + a)) (bhd μ a) q) ||| (bt1 q))), (16, .int (μ (48 + a))), (17, .int (nI q))]) h dL_law_700 rfl (by decide) rfl ?_
            exact J702 (by omega) ((alP μ a (μ (48 + a)) (bhd μ a) q) ||| (bt1 q)) (by first | exact alP_f1 c1 | exact alP_f2 c2 | exact alP_t c1 c2 | fail)
  intro σ hm
  refine yx_iconst h dL_law_633 (by decide) ?_
  refine yx_istore (L' := [(0, .ref b), (1, .ref (w.1 0)), (2, .int (nI (nN μ))), (3, .ref kw), (4, .int (wasS μ (a + 1))), (5, .int (nI (smC μ (a + 1)))), (6, .int (nI a)), (7, .int (μ (64 + a))), (8, .ref kk), (9, .int (wil μ a)), (10, .int (bhd μ a)), (11, .int (chos μ a)), (12, .int (lst μ a)), (13, .int (b2i (tb (μ 1) a))), (15, .int (nI 0))]) h dL_law_634 rfl (by decide) rfl ?_
  refine yx_aload_n h dL_law_636 1 rfl ?_
  refine yx_iload h dL_law_637 6 rfl ?_
  refine yx_bipush h dL_law_639 (by decide) ?_
  refine yx_cv (rest := []) h hE hkn (lm_node hW hm ha (wt := 6) (by omega)) lX11_node mL_31 (by decide) (by decide) sc_0 rfl rfl rfl rfl dL_law_641 (fun σ12 hq12 => ?_)
  refine yx_top (y := (μ (48 + a))) (rfl) ?_
  refine yx_istore (L' := [(0, .ref b), (1, .ref (w.1 0)), (2, .int (nI (nN μ))), (3, .ref kw), (4, .int (wasS μ (a + 1))), (5, .int (nI (smC μ (a + 1)))), (6, .int (nI a)), (7, .int (μ (64 + a))), (8, .ref kk), (9, .int (wil μ a)), (10, .int (bhd μ a)), (11, .int (chos μ a)), (12, .int (lst μ a)), (13, .int (b2i (tb (μ 1) a))), (15, .int (nI 0)), (16, .int (μ (48 + a)))]) h dL_law_644 rfl (by decide) rfl ?_
  refine yx_iconst h dL_law_646 (by decide) ?_
  refine yx_istore (L' := [(0, .ref b), (1, .ref (w.1 0)), (2, .int (nI (nN μ))), (3, .ref kw), (4, .int (wasS μ (a + 1))), (5, .int (nI (smC μ (a + 1)))), (6, .int (nI a)), (7, .int (μ (64 + a))), (8, .ref kk), (9, .int (wil μ a)), (10, .int (bhd μ a)), (11, .int (chos μ a)), (12, .int (lst μ a)), (13, .int (b2i (tb (μ 1) a))), (15, .int (nI 0)), (16, .int (μ (48 + a))), (17, .int (nI 0))]) h dL_law_647 rfl (by decide) rfl ?_
  exact LB hq12.1 (nN μ + 1) 0 (by omega) (by omega)

set_option maxRecDepth 100000 in
set_option maxHeartbeats 8000000 in
theorem ls_5 {X : GX} {A : Nat → Prop} {w : Wd} (hW : Wi w) (h : Fy X A w cL_law 18 RL 9) {b Lx : Nat} {xs : Nat → Int32} (hX : SX X A b Lx xs) (hR : RoomX X) {c9 s9 : Nat} (hc : c9 ≤ 300) (hs : s9 ≤ 30000) {μ : Nat → Int32} {kw : Nat} (hkw : ¬ wA w kw) (hAw : A kw) (hI : MI μ) (hA9 : ∀ q : Nat, X.2.2.2.2.1.heap.size ≤ q → A q) (hk : KD μ) (hr : RLN μ) (next : ∀ {σ : Mem} {c s : Nat}, LM σ μ → c ≤ 308 → s ≤ 30064 → JX X A w ([(kw, .inl (w.2.2.1.1, nN μ, .inl fun j => μ (16 + j)))]) 18 727 [(0, .ref b), (1, .ref (w.1 0)), (2, .int (nI (nN μ))), (3, .ref kw), (4, .int (wasS μ (nN μ))), (5, .int (nI (smC μ (nN μ))))] [] σ c s) : ∀ {σ : Mem}, LM σ μ → JX X A w ([(kw, .inl (w.2.2.1.1, nN μ, .inl fun j => μ (16 + j)))]) 18 241 [(0, .ref b), (1, .ref (w.1 0)), (2, .int (nI (nN μ))), (3, .ref kw), (4, .int (nI 0)), (5, .int (nI 0)), (6, .int (nI 0))] [] σ c9 s9 := by
  have hLx : Lx < 4000 := hX.2.2.2
  have h8 := mi_8 hI
  have LP : ∀ (f a : Nat), a ≤ nN μ → nN μ - a < f → ∀ {σ : Mem} {c s : Nat} (hm : LM σ μ) (hc : c ≤ 300 + a) (hs : s ≤ 30000 + 8 * a), JX X A w ([(kw, .inl (w.2.2.1.1, nN μ, .inl fun j => μ (16 + j)))]) 18 241 [(0, .ref b), (1, .ref (w.1 0)), (2, .int (nI (nN μ))), (3, .ref kw), (4, .int (wasS μ a)), (5, .int (nI (smC μ a))), (6, .int (nI a))] [] σ c s := by
    intro f
    induction f with
    | zero => intro a _ h9; exact absurd h9 (Nat.not_lt_zero _)
    | succ f ih =>
      intro a ha hf9 σ c s hm hc hs
      refine yx_iload h dL_law_241 6 rfl ?_
      refine yx_iload_n h dL_law_243 2 rfl ?_
      refine yx_icmpN_ge h dL_law_244 (by omega) (by omega) (fun cc => ?_) (fun cc => ?_)
      · have ea : a = nN μ := by omega
        subst ea
        exact yx_sub [0, 1, 2, 3, 4, 5] rfl (next hm (by omega) (by omega))
      · exact ls_5a hW h hX hR (by omega) (by omega) hkw hAw hI hA9 hk cc (fun {σ1 kk} hm1 hkk hne hAk =>
          ls_5b hW h hX hR (by omega) (by omega) hkw hAw hI hkk hne hAk cc (fun {σ2} hm2 =>
          ls_5c hW h hX hR (by omega) (by omega) hkw hAw hI hkk hne hAk hr cc (fun {σ3} hm3 =>
          ls_5d hW h hX hR (by omega) (by omega) hkw hAw hI hkk hne hAk hr cc (fun {σ4} hm4 =>
          ls_5e hW h hX hR (by omega) (by omega) hkw hAw hI hkk hne hAk cc (fun {σ5} hm5 =>
          ls_5f hW h hX hR (by omega) (by omega) hkw hAw hI hkk hne hAk cc (fun {σ6} hm6 => ih (a + 1) (by omega) (by omega) hm6 (by omega) (by omega)) hm5) hm4) hm3) hm2) hm1) hm
  intro σ hm
  exact LP (nN μ + 1) 0 (by omega) (by omega) hm (by omega) (by omega)
