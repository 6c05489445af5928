/-! the law's choice, walked -/
theorem c_ofK {l : Launch} {w : Wd} (hW : Wi w) {σ : Mem} {es : va_W} (hE : DX w es) {μ : Nat → Int32} {a q0 ka : Nat} (he : es[q0]? = some (ka, .inl (w.2.2.1.1, nN μ, .inl fun j => μ (144 + (8 * a + j))))) (h8 : nN μ ≤ 8) (s : Int32) : MCX l w es qL_of 1 [.ref ka, .int s] σ (some (.int (kno μ a s))) (fun σ' => σ' = σ) := c_of hW hE q0 ka (nN μ) (fun j => μ (144 + (8 * a + j))) he h8 s

set_option maxRecDepth 100000 in
set_option maxHeartbeats 8000000 in
theorem c_chosenL {l : Launch} {w : Wd} (hW : Wi w) {σ : Mem} {es : va_W} (hE : DX w es) {μ : Nat → Int32} {a q0 q1 ka kw : Nat} (he : es[q0]? = some (ka, .inl (w.2.2.1.1, nN μ, .inl fun j => μ (144 + (8 * a + j))))) (hg : es[q1]? = some (kw, .inl (w.2.2.1.1, nN μ, .inl fun j => μ (16 + j)))) (hm : LM σ μ) (ha : a < nN μ) : MCX l w es qL_chosen 5 [.ref (w.1 0), .int (nI a), .ref ka, .ref kw, .int (wil μ a), .int (bhd μ a)] σ (some (.int (chos μ a))) (fun σ' => LM σ' μ) := by
  have hI := hm.mi
  have h8 := mi_8 hI
  refine MCX.of hW (by decide +kernel) (Nat.le_of_ble_eq_true rfl) (fun X h hQ => ?_)
  have h : Fy X (wA w) w cL_chosen 13 RL 5 := h
  have hQ : Qx X w (some .int) (some (.int (chos μ a))) (fun σ' => LM σ' μ) := hQ
  have LP4 : ∀ (f wl : Nat), 1 ≤ wl → wl ≤ 7 → 7 - wl < f → ∀ {σ : Mem} (hm : LM σ μ) (z : Int32), JX X (wA w) w es 13 275 [(0, .ref (w.1 0)), (1, .int (nI a)), (2, .ref ka), (3, .ref kw), (4, .int (wil μ a)), (5, .int (bhd μ a)), (6, .int (dW μ a (pkS μ a 8) wl)), (7, .int z), (8, .int (nI wl))] [] σ 0 0 := by
    intro f
    induction f with
    | zero => intro wl _ _ h9; exact absurd h9 (Nat.not_lt_zero _)
    | succ f ih =>
      intro wl hw1 hw7 hf σ hm z
      have LP5 : wl < 7 → ∀ (J : Nat) (x : Int32), J ≤ nN μ → dS μ a wl J x = dW μ a (pkS μ a 8) (wl + 1) → JX X (wA w) w es 13 288 [(0, .ref (w.1 0)), (1, .int (nI a)), (2, .ref ka), (3, .ref kw), (4, .int (wil μ a)), (5, .int (bhd μ a)), (6, .int x), (7, .int z), (8, .int (nI wl)), (9, .int (pI J))] [] σ 0 0 := by
        intro hw6 J
        induction J with
        | zero =>
          intro x hJ h5
          have h6 : x = dW μ a (pkS μ a 8) (wl + 1) := h5
          subst h6
          refine yx_iload h dL_chosen_288 9 rfl ?_
          refine yx_if_lt h dL_chosen_290 (fun _ => ?_) (fun q9 => False.elim (q9 (by decide)))
          refine yx_iincN (L' := [(0, .ref (w.1 0)), (1, .int (nI a)), (2, .ref ka), (3, .ref kw), (4, .int (wil μ a)), (5, .int (bhd μ a)), (6, .int (dW μ a (pkS μ a 8) (wl + 1))), (7, .int z), (8, .int (nI (wl + 1))), (9, .int (pI 0))]) h dL_chosen_350 8 rfl rfl (by decide) (by decide) rfl ?_
          refine yx_goto h dL_chosen_353 ?_
          exact yx_sub [0, 1, 2, 3, 4, 5, 6, 7, 8] rfl (ih (wl + 1) (by omega) (by omega) (by omega) hm z)
        | succ J ih5 =>
          intro x hJ h5
          show JX X (wA w) w es 13 288 [(0, .ref (w.1 0)), (1, .int (nI a)), (2, .ref ka), (3, .ref kw), (4, .int (wil μ a)), (5, .int (bhd μ a)), (6, .int x), (7, .int z), (8, .int (nI wl)), (9, .int (nI J))] [] σ 0 0
          refine yx_iload h dL_chosen_288 9 rfl ?_
          refine yx_ifN_lt h dL_chosen_290 (by omega) ?_
          refine yx_iload h dL_chosen_293 6 rfl ?_
          refine yx_iload h dL_chosen_295 9 rfl ?_
          refine yx_csp (rest := []) h hE ⟨Nat.zero_le _, Nat.zero_le _⟩ (c_hasL hW x J (by omega)) lL_has mL_38 (by decide) (by decide) rfl rfl rfl dL_chosen_297 ?_
          refine yx_ifB_eq h dL_chosen_300 (fun c1 => ?_) (fun c1 => ?_)
          · refine yx_iinc (L' := [(0, .ref (w.1 0)), (1, .int (nI a)), (2, .ref ka), (3, .ref kw), (4, .int (wil μ a)), (5, .int (bhd μ a)), (6, .int x), (7, .int z), (8, .int (nI wl)), (9, .int (pI J))]) h dL_chosen_344 9 rfl rfl (by decide) pI_dec rfl ?_
            refine yx_goto h dL_chosen_347 ?_
            exact ih5 x (by omega) (by first | exact (dS_n1 c1).symm.trans h5 | exact (dS_n2 c2).symm.trans h5 | exact (dS_n3 c3).symm.trans h5 | exact (dS_yes c1 c2 c3).symm.trans h5 | fail)
          · refine yx_aload_n h dL_chosen_303 3 rfl ?_
            refine yx_iload h dL_chosen_304 9 rfl ?_
            refine yx_iald (q0 := q1) h dL_chosen_306 hg (by omega) (by omega) ?_
            refine yx_top (y := (nI (nA μ (16 + J)))) (mi_16 hI (by omega)) ?_
            refine yx_iload h dL_chosen_307 8 rfl ?_
            refine yx_icmpN_ne h dL_chosen_309 (by have := mb_16 hI (j := J) (by omega); omega) (by have := mb_16 hI (j := J) (by omega); omega) (fun c2 => ?_) (fun c2 => ?_)
            · refine yx_iinc (L' := [(0, .ref (w.1 0)), (1, .int (nI a)), (2, .ref ka), (3, .ref kw), (4, .int (wil μ a)), (5, .int (bhd μ a)), (6, .int x), (7, .int z), (8, .int (nI wl)), (9, .int (pI J))]) h dL_chosen_344 9 rfl rfl (by decide) pI_dec rfl ?_
              refine yx_goto h dL_chosen_347 ?_
              exact ih5 x (by omega) (by first | exact (dS_n1 c1).symm.trans h5 | exact (dS_n2 c2).symm.trans h5 | exact (dS_n3 c3).symm.trans h5 | exact (dS_yes c1 c2 c3).symm.trans h5 | fail)
            · refine yx_iload h dL_chosen_312 5 rfl ?_
              refine yx_aload_n h dL_chosen_314 2 rfl ?_
              refine yx_iload h dL_chosen_315 6 rfl ?_
              refine yx_iconst h dL_chosen_317 (by decide) ?_
              refine yx_iload h dL_chosen_318 9 rfl ?_
              refine yx_ishl h dL_chosen_320 ?_
              refine yx_iconstv (v := -1) h dL_chosen_321 (by decide) ?_
              refine yx_ixor h dL_chosen_322 ?_
              refine yx_iand h dL_chosen_323 ?_
              refine yx_csxp (rest := [.int (bhd μ a)]) h hE ⟨Nat.zero_le _, Nat.zero_le _⟩ (c_ofK hW hE he h8 (x &&& (nots (bt1 J)))) lL_of mL_42 (by decide) (by decide) rfl rfl rfl dL_chosen_324 ?_
              refine yx_iconstv (v := -1) h dL_chosen_327 (by decide) ?_
              refine yx_ixor h dL_chosen_328 ?_
              refine yx_iand h dL_chosen_329 ?_
              refine yx_if_ne h dL_chosen_330 (fun c3 => ?_) (fun c3 => ?_)
              · refine yx_iinc (L' := [(0, .ref (w.1 0)), (1, .int (nI a)), (2, .ref ka), (3, .ref kw), (4, .int (wil μ a)), (5, .int (bhd μ a)), (6, .int x), (7, .int z), (8, .int (nI wl)), (9, .int (pI J))]) h dL_chosen_344 9 rfl rfl (by decide) pI_dec rfl ?_
                refine yx_goto h dL_chosen_347 ?_
                exact ih5 x (by omega) (by first | exact (dS_n1 c1).symm.trans h5 | exact (dS_n2 c2).symm.trans h5 | exact (dS_n3 c3).symm.trans h5 | exact (dS_yes c1 c2 c3).symm.trans h5 | fail)
              · refine yx_iload h dL_chosen_333 6 rfl ?_
                refine yx_iconst h dL_chosen_335 (by decide) ?_
                refine yx_iload h dL_chosen_336 9 rfl ?_
                refine yx_ishl h dL_chosen_338 ?_
                refine yx_iconstv (v := -1) h dL_chosen_339 (by decide) ?_
                refine yx_ixor h dL_chosen_340 ?_
                refine yx_iand h dL_chosen_341 ?_
                refine yx_istore (L' := [(0, .ref (w.1 0)), (1, .int (nI a)), (2, .ref ka), (3, .ref kw), (4, .int (wil μ a)), (5, .int (bhd μ a)), (6, .int (x &&& (nots (bt1 J)))), (7, .int z), (8, .int (nI wl)), (9, .int (nI J))]) h dL_chosen_342 rfl (by decide) rfl ?_
                refine yx_iinc (L' := [(0, .ref (w.1 0)), (1, .int (nI a)), (2, .ref ka), (3, .ref kw), (4, .int (wil μ a)), (5, .int (bhd μ a)), (6, .int (x &&& (nots (bt1 J)))), (7, .int z), (8, .int (nI wl)), (9, .int (pI J))]) h dL_chosen_344 9 rfl rfl (by decide) pI_dec rfl ?_
                refine yx_goto h dL_chosen_347 ?_
                exact ih5 (x &&& (nots (bt1 J))) (by omega) (by first | exact (dS_n1 c1).symm.trans h5 | exact (dS_n2 c2).symm.trans h5 | exact (dS_n3 c3).symm.trans h5 | exact (dS_yes c1 c2 c3).symm.trans h5 | fail)
      refine yx_iload h dL_chosen_275 8 rfl ?_
      refine yx_bipush h dL_chosen_277 (by decide) ?_
      refine yx_icmpN_ge h dL_chosen_279 (by omega) (by omega) (fun c => ?_) (fun c => ?_)
      · refine yx_iload h dL_chosen_356 6 rfl ?_
        have e7 : wl = 7 := by omega
        subst e7
        exact yx_iret h hQ dL_chosen_358 rfl hm
      · refine yx_aload_n h dL_chosen_282 2 rfl ?_
        refine yx_alen (q0 := q0) h dL_chosen_283 he ?_
        refine yx_iconst h dL_chosen_284 (by decide) ?_
        refine yx_isub h dL_chosen_285 ?_
        refine yx_top (y := (pI (nN μ))) (pI_of) ?_
        refine yx_istore (L' := [(0, .ref (w.1 0)), (1, .int (nI a)), (2, .ref ka), (3, .ref kw), (4, .int (wil μ a)), (5, .int (bhd μ a)), (6, .int (dW μ a (pkS μ a 8) wl)), (7, .int z), (8, .int (nI wl)), (9, .int (pI (nN μ)))]) h dL_chosen_286 rfl (by decide) rfl ?_
        exact LP5 (by omega) (nN μ) _ (Nat.le_refl _) rfl
  have LP2 : ∀ (f m : Nat), 8 - m < f → ∀ {σ : Mem} (hm : LM σ μ) (hp : PKI μ a m), JX X (wA w) w es 13 88 [(0, .ref (w.1 0)), (1, .int (nI a)), (2, .ref ka), (3, .ref kw), (4, .int (wil μ a)), (5, .int (bhd μ a)), (6, .int (pkS μ a m)), (7, .int (nI m))] [] σ 0 0 := by
    intro f
    induction f with
    | zero => intro m h9; exact absurd h9 (Nat.not_lt_zero _)
    | succ f ih =>
      intro m hf σ hm hp
      have LP3 : opn μ a (pkS μ a m) ≠ 0 → ∀ (J : Nat) (bo : Option Nat), J ≤ nN μ → BD μ a (wil μ a &&& nots (pkS μ a m)) (opn μ a (pkS μ a m)) J bo → JX X (wA w) w es 13 127 [(0, .ref (w.1 0)), (1, .int (nI a)), (2, .ref ka), (3, .ref kw), (4, .int (wil μ a)), (5, .int (bhd μ a)), (6, .int (pkS μ a m)), (7, .int (nI m)), (8, .int (opn μ a (pkS μ a m))), (9, .int (oI bo)), (10, .int (wI μ a (opn μ a (pkS μ a m)) bo)), (11, .int (pI J))] [] σ 0 0 := by
        intro c J
        induction J with
        | zero =>
          intro bo hJ hb
          refine yx_iload h dL_chosen_127 11 rfl ?_
          refine yx_if_lt h dL_chosen_129 (fun _ => ?_) (fun q9 => False.elim (q9 (by decide)))
          obtain ⟨x, hx⟩ := pkB_ne (s := pkS μ a m) c
          have hbo : bo = some x := (BD.fin hI hb).symm.trans hx
          subst hbo
          have hx8 : x < nN μ := (bst_some hx).1
          show JX X (wA w) w es 13 216 [(0, .ref (w.1 0)), (1, .int (nI a)), (2, .ref ka), (3, .ref kw), (4, .int (wil μ a)), (5, .int (bhd μ a)), (6, .int (pkS μ a m)), (7, .int (nI m)), (8, .int (opn μ a (pkS μ a m))), (9, .int (nI x)), (10, .int (wI μ a (opn μ a (pkS μ a m)) (some x))), (11, .int (pI 0))] [] σ 0 0
          refine yx_iload h dL_chosen_216 9 rfl ?_
          refine yx_ifN_lt h dL_chosen_218 (by omega) ?_
          refine yx_aload_n h dL_chosen_221 0 rfl ?_
          refine yx_iload_n h dL_chosen_222 1 rfl ?_
          refine yx_iload h dL_chosen_223 7 rfl ?_
          refine yx_cv (rest := []) h hE ⟨Nat.zero_le _, Nat.zero_le _⟩ (lm_pick hW hm ha (hp.gt hx (hp.lt hI ha c)) (by have := hp.lt hI ha c; omega)) lX11_pick mL_82 (by decide) (by decide) sc_0 rfl rfl rfl rfl dL_chosen_225 (fun σ1 hq1 => ?_)
          refine yx_top (y := (nI x)) (by rw [px_is hx]) ?_
          refine yx_iload h dL_chosen_228 9 rfl ?_
          refine yx_icmpN_eq h dL_chosen_230 (by omega) (by omega) (fun _ => ?_) (fun q9 => False.elim (q9 rfl))
          refine yx_iincN (L' := [(0, .ref (w.1 0)), (1, .int (nI a)), (2, .ref ka), (3, .ref kw), (4, .int (wil μ a)), (5, .int (bhd μ a)), (6, .int (pkS μ a m)), (7, .int (nI (m + 1))), (8, .int (opn μ a (pkS μ a m))), (9, .int (nI x)), (10, .int (wI μ a (opn μ a (pkS μ a m)) (some x))), (11, .int (pI 0))]) h dL_chosen_235 7 rfl rfl (by decide) (by decide) rfl ?_
          refine yx_iload h dL_chosen_238 6 rfl ?_
          refine yx_iconst h dL_chosen_240 (by decide) ?_
          refine yx_iload h dL_chosen_241 9 rfl ?_
          refine yx_ishl h dL_chosen_243 ?_
          refine yx_ior h dL_chosen_244 ?_
          refine yx_istore (L' := [(0, .ref (w.1 0)), (1, .int (nI a)), (2, .ref ka), (3, .ref kw), (4, .int (wil μ a)), (5, .int (bhd μ a)), (6, .int ((pkS μ a m) ||| (bt1 x))), (7, .int (nI (m + 1))), (8, .int (opn μ a (pkS μ a m))), (9, .int (nI x)), (10, .int (wI μ a (opn μ a (pkS μ a m)) (some x))), (11, .int (pI 0))]) h dL_chosen_245 rfl (by decide) rfl ?_
          refine yx_goto h dL_chosen_247 ?_
          exact yx_sub [0, 1, 2, 3, 4, 5, 6, 7] rfl (by rw [← pkS_s hx]; exact ih (m + 1) (by have := hp.lt hI ha c; omega) hq1.1 (hp.s hI ha hx))
        | succ J ih3 =>
          intro bo hJ hb
          show JX X (wA w) w es 13 127 [(0, .ref (w.1 0)), (1, .int (nI a)), (2, .ref ka), (3, .ref kw), (4, .int (wil μ a)), (5, .int (bhd μ a)), (6, .int (pkS μ a m)), (7, .int (nI m)), (8, .int (opn μ a (pkS μ a m))), (9, .int (oI bo)), (10, .int (wI μ a (opn μ a (pkS μ a m)) bo)), (11, .int (nI J))] [] σ 0 0
          refine yx_iload h dL_chosen_127 11 rfl ?_
          refine yx_ifN_lt h dL_chosen_129 (by omega) ?_
          refine yx_iload h dL_chosen_132 4 rfl ?_
          refine yx_iload h dL_chosen_134 6 rfl ?_
          refine yx_iconstv (v := -1) h dL_chosen_136 (by decide) ?_
          refine yx_ixor h dL_chosen_137 ?_
          refine yx_iand h dL_chosen_138 ?_
          refine yx_iload h dL_chosen_139 11 rfl ?_
          refine yx_csp (rest := []) h hE ⟨Nat.zero_le _, Nat.zero_le _⟩ (c_hasL hW ((wil μ a) &&& (nots (pkS μ a m))) J (by omega)) lL_has mL_38 (by decide) (by decide) rfl rfl rfl dL_chosen_141 ?_
          refine yx_ifB_eq h dL_chosen_144 (fun c1 => ?_) (fun c1 => ?_)
          · refine yx_iinc (L' := [(0, .ref (w.1 0)), (1, .int (nI a)), (2, .ref ka), (3, .ref kw), (4, .int (wil μ a)), (5, .int (bhd μ a)), (6, .int (pkS μ a m)), (7, .int (nI m)), (8, .int (opn μ a (pkS μ a m))), (9, .int (oI bo)), (10, .int (wI μ a (opn μ a (pkS μ a m)) bo)), (11, .int (pI J))]) h dL_chosen_210 11 rfl rfl (by decide) pI_dec rfl ?_
            refine yx_goto h dL_chosen_213 ?_
            exact yx_sub [0, 1, 2, 3, 4, 5, 6, 7, 8, 9, 10, 11] rfl (ih3 bo (by omega) (by first | exact hb.no (elB_no1 c1) | exact hb.no (elB_no2 c2) | exact hb.less hI (by omega) (Int32.not_le.mp c3) | exact hb.more hI (by omega) (elB_yes c1 c2) (Int32.not_lt.mpr c3) | fail))
          · refine yx_aload_n h dL_chosen_147 2 rfl ?_
            refine yx_iload h dL_chosen_148 11 rfl ?_
            refine yx_iald (q0 := q0) h dL_chosen_150 he (by omega) (by omega) ?_
            refine yx_iload h dL_chosen_151 8 rfl ?_
            refine yx_iand h dL_chosen_153 ?_
            refine yx_if_ne h dL_chosen_154 (fun c2 => ?_) (fun c2 => ?_)
            · refine yx_sipush h dL_chosen_160 (by decide) ?_
              refine yx_aload_n h dL_chosen_163 3 rfl ?_
              refine yx_iload h dL_chosen_164 11 rfl ?_
              refine yx_iald (q0 := q1) h dL_chosen_166 hg (by omega) (by omega) ?_
              refine yx_top (y := (nI (nA μ (16 + J)))) (mi_16 hI (by omega)) ?_
              refine yx_imulN h dL_chosen_167 ?_
              refine yx_bipush h dL_chosen_168 (by decide) ?_
              refine yx_aload_n h dL_chosen_170 2 rfl ?_
              refine yx_iload h dL_chosen_171 11 rfl ?_
              refine yx_iald (q0 := q0) h dL_chosen_173 he (by omega) (by omega) ?_
              refine yx_iload h dL_chosen_174 8 rfl ?_
              refine yx_iand h dL_chosen_176 ?_
              refine yx_csp (rest := [.int (nI 20), .int (nI (400 * (nA μ (16 + J))))]) h hE ⟨Nat.zero_le _, Nat.zero_le _⟩ (c_bits hW ((μ (144 + (8 * a + J))) &&& (opn μ a (pkS μ a m)))) lL_bits mL_50 (by decide) (by decide) rfl rfl rfl dL_chosen_177 ?_
              refine yx_imulN h dL_chosen_180 ?_
              refine yx_iaddN h dL_chosen_181 ?_
              refine yx_aload_n h dL_chosen_182 2 rfl ?_
              refine yx_iload h dL_chosen_183 11 rfl ?_
              refine yx_iald (q0 := q0) h dL_chosen_185 he (by omega) (by omega) ?_
              refine yx_csp (rest := [.int (nI (400 * (nA μ (16 + J)) + (20 * (pc ((μ (144 + (8 * a + J))) &&& (opn μ a (pkS μ a m)))))))]) h hE ⟨Nat.zero_le _, Nat.zero_le _⟩ (c_bits hW (μ (144 + (8 * a + J)))) lL_bits mL_50 (by decide) (by decide) rfl rfl rfl dL_chosen_186 ?_
              refine yx_iaddN h dL_chosen_189 ?_
              refine yx_top (y := (nI (itN μ a (opn μ a (pkS μ a m)) J))) (rfl) ?_
              refine yx_istore (L' := [(0, .ref (w.1 0)), (1, .int (nI a)), (2, .ref ka), (3, .ref kw), (4, .int (wil μ a)), (5, .int (bhd μ a)), (6, .int (pkS μ a m)), (7, .int (nI m)), (8, .int (opn μ a (pkS μ a m))), (9, .int (oI bo)), (10, .int (wI μ a (opn μ a (pkS μ a m)) bo)), (11, .int (nI J)), (12, .int (nI (itN μ a (opn μ a (pkS μ a m)) J)))]) h dL_chosen_190 rfl (by decide) rfl ?_
              refine yx_iload h dL_chosen_192 12 rfl ?_
              refine yx_iload h dL_chosen_194 10 rfl ?_
              refine yx_icmp_ge h dL_chosen_196 (fun c3 => ?_) (fun c3 => ?_)
              · refine yx_iload h dL_chosen_202 11 rfl ?_
                refine yx_istore (L' := [(0, .ref (w.1 0)), (1, .int (nI a)), (2, .ref ka), (3, .ref kw), (4, .int (wil μ a)), (5, .int (bhd μ a)), (6, .int (pkS μ a m)), (7, .int (nI m)), (8, .int (opn μ a (pkS μ a m))), (9, .int (nI J)), (10, .int (wI μ a (opn μ a (pkS μ a m)) bo)), (11, .int (nI J)), (12, .int (nI (itN μ a (opn μ a (pkS μ a m)) J)))]) h dL_chosen_204 rfl (by decide) rfl ?_
                refine yx_iload h dL_chosen_206 12 rfl ?_
                refine yx_istore (L' := [(0, .ref (w.1 0)), (1, .int (nI a)), (2, .ref ka), (3, .ref kw), (4, .int (wil μ a)), (5, .int (bhd μ a)), (6, .int (pkS μ a m)), (7, .int (nI m)), (8, .int (opn μ a (pkS μ a m))), (9, .int (nI J)), (10, .int (nI (itN μ a (opn μ a (pkS μ a m)) J))), (11, .int (nI J)), (12, .int (nI (itN μ a (opn μ a (pkS μ a m)) J)))]) h dL_chosen_208 rfl (by decide) rfl ?_
                refine yx_iinc (L' := [(0, .ref (w.1 0)), (1, .int (nI a)), (2, .ref ka), (3, .ref kw), (4, .int (wil μ a)), (5, .int (bhd μ a)), (6, .int (pkS μ a m)), (7, .int (nI m)), (8, .int (opn μ a (pkS μ a m))), (9, .int (nI J)), (10, .int (nI (itN μ a (opn μ a (pkS μ a m)) J))), (11, .int (pI J)), (12, .int (nI (itN μ a (opn μ a (pkS μ a m)) J)))]) h dL_chosen_210 11 rfl rfl (by decide) pI_dec rfl ?_
                refine yx_goto h dL_chosen_213 ?_
                exact yx_sub [0, 1, 2, 3, 4, 5, 6, 7, 8, 9, 10, 11] rfl (ih3 (some J) (by omega) (by first | exact hb.no (elB_no1 c1) | exact hb.no (elB_no2 c2) | exact hb.less hI (by omega) (Int32.not_le.mp c3) | exact hb.more hI (by omega) (elB_yes c1 c2) (Int32.not_lt.mpr c3) | fail))
              · refine yx_goto h dL_chosen_199 ?_
                refine yx_iinc (L' := [(0, .ref (w.1 0)), (1, .int (nI a)), (2, .ref ka), (3, .ref kw), (4, .int (wil μ a)), (5, .int (bhd μ a)), (6, .int (pkS μ a m)), (7, .int (nI m)), (8, .int (opn μ a (pkS μ a m))), (9, .int (oI bo)), (10, .int (wI μ a (opn μ a (pkS μ a m)) bo)), (11, .int (pI J)), (12, .int (nI (itN μ a (opn μ a (pkS μ a m)) J)))]) h dL_chosen_210 11 rfl rfl (by decide) pI_dec rfl ?_
                refine yx_goto h dL_chosen_213 ?_
                exact yx_sub [0, 1, 2, 3, 4, 5, 6, 7, 8, 9, 10, 11] rfl (ih3 bo (by omega) (by first | exact hb.no (elB_no1 c1) | exact hb.no (elB_no2 c2) | exact hb.less hI (by omega) (Int32.not_le.mp c3) | exact hb.more hI (by omega) (elB_yes c1 c2) (Int32.not_lt.mpr c3) | fail))
            · refine yx_goto h dL_chosen_157 ?_
              refine yx_iinc (L' := [(0, .ref (w.1 0)), (1, .int (nI a)), (2, .ref ka), (3, .ref kw), (4, .int (wil μ a)), (5, .int (bhd μ a)), (6, .int (pkS μ a m)), (7, .int (nI m)), (8, .int (opn μ a (pkS μ a m))), (9, .int (oI bo)), (10, .int (wI μ a (opn μ a (pkS μ a m)) bo)), (11, .int (pI J))]) h dL_chosen_210 11 rfl rfl (by decide) pI_dec rfl ?_
              refine yx_goto h dL_chosen_213 ?_
              exact yx_sub [0, 1, 2, 3, 4, 5, 6, 7, 8, 9, 10, 11] rfl (ih3 bo (by omega) (by first | exact hb.no (elB_no1 c1) | exact hb.no (elB_no2 c2) | exact hb.less hI (by omega) (Int32.not_le.mp c3) | exact hb.more hI (by omega) (elB_yes c1 c2) (Int32.not_lt.mpr c3) | fail))
      refine yx_iload h dL_chosen_88 5 rfl ?_
      refine yx_aload_n h dL_chosen_90 2 rfl ?_
      refine yx_iload h dL_chosen_91 6 rfl ?_
      refine yx_csxp (rest := [.int (bhd μ a)]) h hE ⟨Nat.zero_le _, Nat.zero_le _⟩ (c_ofK hW hE he h8 (pkS μ a m)) lL_of mL_42 (by decide) (by decide) rfl rfl rfl dL_chosen_93 ?_
      refine yx_iconstv (v := -1) h dL_chosen_96 (by decide) ?_
      refine yx_ixor h dL_chosen_97 ?_
      refine yx_iand h dL_chosen_98 ?_
      refine yx_top (y := (opn μ a (pkS μ a m))) (rfl) ?_
      refine yx_if_eq h dL_chosen_99 (fun c => ?_) (fun c => ?_)
      · refine yx_aload_n h dL_chosen_250 0 rfl ?_
        refine yx_iload_n h dL_chosen_251 1 rfl ?_
        refine yx_iload h dL_chosen_252 7 rfl ?_
        refine yx_cv (rest := []) h hE ⟨Nat.zero_le _, Nat.zero_le _⟩ (lm_pickE hW hm ha (hp.end (pkB_0 c)) (by have := hp.le; omega)) lX11_pick mL_82 (by decide) (by decide) sc_0 rfl rfl rfl rfl dL_chosen_254 (fun σ2 hq2 => ?_)
        refine yx_iconstv (v := -1) h dL_chosen_257 (by decide) ?_
        refine yx_icmp_ne h dL_chosen_258 (fun q9 => False.elim (q9 rfl)) (fun _ => ?_)
        refine yx_aload_n h dL_chosen_261 0 rfl ?_
        refine yx_cv (rest := []) h hE ⟨Nat.zero_le _, Nat.zero_le _⟩ (lm_status hW hq2.2) lX11_status mL_62 (by decide) (by decide) sc_0 rfl rfl rfl rfl dL_chosen_262 (fun σ3 hq3 => ?_)
        rw [hq3]
        refine yx_bipush h dL_chosen_265 (by decide) ?_
        refine yx_icmpN_eq h dL_chosen_267 (by omega) (by omega) (fun _ => ?_) (fun q9 => False.elim (q9 rfl))
        rw [← pkS_end rfl (pkB_0 c) hp.le, ← dW_1 hI]
        refine yx_iconst h dL_chosen_272 (by decide) ?_
        refine yx_istore (L' := [(0, .ref (w.1 0)), (1, .int (nI a)), (2, .ref ka), (3, .ref kw), (4, .int (wil μ a)), (5, .int (bhd μ a)), (6, .int (dW μ a (pkS μ a 8) 1)), (7, .int (nI m)), (8, .int (nI 1))]) h dL_chosen_273 rfl (by decide) rfl ?_
        exact LP4 7 1 (by omega) (by omega) (by omega) hq2.1 (nI m)
      · refine yx_iload h dL_chosen_102 5 rfl ?_
        refine yx_aload_n h dL_chosen_104 2 rfl ?_
        refine yx_iload h dL_chosen_105 6 rfl ?_
        refine yx_csxp (rest := [.int (bhd μ a)]) h hE ⟨Nat.zero_le _, Nat.zero_le _⟩ (c_ofK hW hE he h8 (pkS μ a m)) lL_of mL_42 (by decide) (by decide) rfl rfl rfl dL_chosen_107 ?_
        refine yx_iconstv (v := -1) h dL_chosen_110 (by decide) ?_
        refine yx_ixor h dL_chosen_111 ?_
        refine yx_iand h dL_chosen_112 ?_
        refine yx_top (y := (opn μ a (pkS μ a m))) (rfl) ?_
        refine yx_istore (L' := [(0, .ref (w.1 0)), (1, .int (nI a)), (2, .ref ka), (3, .ref kw), (4, .int (wil μ a)), (5, .int (bhd μ a)), (6, .int (pkS μ a m)), (7, .int (nI m)), (8, .int (opn μ a (pkS μ a m)))]) h dL_chosen_113 rfl (by decide) rfl ?_
        refine yx_iconstv (v := -1) h dL_chosen_115 (by decide) ?_
        refine yx_istore (L' := [(0, .ref (w.1 0)), (1, .int (nI a)), (2, .ref ka), (3, .ref kw), (4, .int (wil μ a)), (5, .int (bhd μ a)), (6, .int (pkS μ a m)), (7, .int (nI m)), (8, .int (opn μ a (pkS μ a m))), (9, .int (-1))]) h dL_chosen_116 rfl (by decide) rfl ?_
        refine yx_iconstv (v := -1) h dL_chosen_118 (by decide) ?_
        refine yx_istore (L' := [(0, .ref (w.1 0)), (1, .int (nI a)), (2, .ref ka), (3, .ref kw), (4, .int (wil μ a)), (5, .int (bhd μ a)), (6, .int (pkS μ a m)), (7, .int (nI m)), (8, .int (opn μ a (pkS μ a m))), (9, .int (-1)), (10, .int (-1))]) h dL_chosen_119 rfl (by decide) rfl ?_
        refine yx_aload_n h dL_chosen_121 2 rfl ?_
        refine yx_alen (q0 := q0) h dL_chosen_122 he ?_
        refine yx_iconst h dL_chosen_123 (by decide) ?_
        refine yx_isub h dL_chosen_124 ?_
        refine yx_top (y := (pI (nN μ))) (pI_of) ?_
        refine yx_istore (L' := [(0, .ref (w.1 0)), (1, .int (nI a)), (2, .ref ka), (3, .ref kw), (4, .int (wil μ a)), (5, .int (bhd μ a)), (6, .int (pkS μ a m)), (7, .int (nI m)), (8, .int (opn μ a (pkS μ a m))), (9, .int (-1)), (10, .int (-1)), (11, .int (pI (nN μ)))]) h dL_chosen_125 rfl (by decide) rfl ?_
        exact LP3 c (nN μ) none (Nat.le_refl _) BD.start
  have LP1 : ∀ (f k : Nat), k ≤ nN μ → nN μ - k < f → JX X (wA w) w es 13 6 [(0, .ref (w.1 0)), (1, .int (nI a)), (2, .ref ka), (3, .ref kw), (4, .int (wil μ a)), (5, .int (bhd μ a)), (6, .int (s1 μ a k)), (7, .int (nI k))] [] σ 0 0 := by
    intro f
    induction f with
    | zero => intro k _ h9; exact absurd h9 (Nat.not_lt_zero _)
    | succ f ih =>
      intro k hk hf
      have J79 : ∀ x : Int32, x = s1 μ a (k + 1) → k < nN μ → JX X (wA w) w es 13 79 [(0, .ref (w.1 0)), (1, .int (nI a)), (2, .ref ka), (3, .ref kw), (4, .int (wil μ a)), (5, .int (bhd μ a)), (6, .int x), (7, .int (nI k))] [] σ 0 0 := by
        intro x hx hk9
        subst hx
        refine yx_iincN (L' := [(0, .ref (w.1 0)), (1, .int (nI a)), (2, .ref ka), (3, .ref kw), (4, .int (wil μ a)), (5, .int (bhd μ a)), (6, .int (s1 μ a (k + 1))), (7, .int (nI (k + 1)))]) h dL_chosen_79 7 rfl rfl (by decide) (by decide) rfl ?_
        refine yx_goto h dL_chosen_82 ?_
        exact ih (k + 1) (by omega) (by omega)
      refine yx_iload h dL_chosen_6 7 rfl ?_
      refine yx_aload_n h dL_chosen_8 2 rfl ?_
      refine yx_alen (q0 := q0) h dL_chosen_9 he ?_
      refine yx_icmpN_ge h dL_chosen_10 (by omega) (by omega) (fun c => ?_) (fun c => ?_)
      · have ek : k = nN μ := by omega
        subst ek
        rw [s1_ful hI]
        refine yx_iconst h dL_chosen_85 (by decide) ?_
        refine yx_istore (L' := [(0, .ref (w.1 0)), (1, .int (nI a)), (2, .ref ka), (3, .ref kw), (4, .int (wil μ a)), (5, .int (bhd μ a)), (6, .int (pkS μ a 0)), (7, .int (nI 0))]) h dL_chosen_86 rfl (by decide) rfl ?_
        exact LP2 9 0 (by omega) hm PKI.start
      · refine yx_iload h dL_chosen_13 4 rfl ?_
        refine yx_iload h dL_chosen_15 7 rfl ?_
        refine yx_csp (rest := []) h hE ⟨Nat.zero_le _, Nat.zero_le _⟩ (c_hasL hW (wil μ a) k (by omega)) lL_has mL_38 (by decide) (by decide) rfl rfl rfl dL_chosen_17 ?_
        refine yx_ifB_ne h dL_chosen_20 (fun c1 => ?_) (fun c1 => ?_)
        · refine yx_aload_n h dL_chosen_26 3 rfl ?_
          refine yx_iload h dL_chosen_27 7 rfl ?_
          refine yx_iald (q0 := q1) h dL_chosen_29 hg (by omega) (by omega) ?_
          refine yx_top (y := (nI (nA μ (16 + k)))) (mi_16 hI (by omega)) ?_
          refine yx_bipush h dL_chosen_30 (by decide) ?_
          refine yx_icmpN_ne h dL_chosen_32 (by have := mb_16 hI (j := k) (by omega); omega) (by have := mb_16 hI (j := k) (by omega); omega) (fun c2 => ?_) (fun c2 => ?_)
          · refine yx_aload_n h dL_chosen_44 2 rfl ?_
            refine yx_iload h dL_chosen_45 7 rfl ?_
            refine yx_iald (q0 := q0) h dL_chosen_47 he (by omega) (by omega) ?_
            refine yx_iload h dL_chosen_48 5 rfl ?_
            refine yx_iand h dL_chosen_50 ?_
            refine yx_aload_n h dL_chosen_51 2 rfl ?_
            refine yx_iload h dL_chosen_52 4 rfl ?_
            refine yx_iconst h dL_chosen_54 (by decide) ?_
            refine yx_iload h dL_chosen_55 7 rfl ?_
            refine yx_ishl h dL_chosen_57 ?_
            refine yx_iconstv (v := -1) h dL_chosen_58 (by decide) ?_
            refine yx_ixor h dL_chosen_59 ?_
            refine yx_iand h dL_chosen_60 ?_
            refine yx_csxp (rest := [.int ((μ (144 + (8 * a + k))) &&& (bhd μ a))]) h hE ⟨Nat.zero_le _, Nat.zero_le _⟩ (c_ofK hW hE he h8 ((wil μ a) &&& (nots (bt1 k)))) lL_of mL_42 (by decide) (by decide) rfl rfl rfl dL_chosen_61 ?_
            refine yx_iconstv (v := -1) h dL_chosen_64 (by decide) ?_
            refine yx_ixor h dL_chosen_65 ?_
            refine yx_iand h dL_chosen_66 ?_
            refine yx_if_eq h dL_chosen_67 (fun c3 => ?_) (fun c3 => ?_)
            · exact J79 (s1 μ a k) (by first | exact s1_no c1 | exact s1_n c2 c3 | exact s1_7 c1 c2 | exact s1_a c1 c3 | (rw [or_same]; exact s1_7 c1 c2) | fail) (by omega)
            · refine yx_iload h dL_chosen_70 6 rfl ?_
              refine yx_iconst h dL_chosen_72 (by decide) ?_
              refine yx_iload h dL_chosen_73 7 rfl ?_
              refine yx_ishl h dL_chosen_75 ?_
              refine yx_ior h dL_chosen_76 ?_
              refine yx_istore (L' := [(0, .ref (w.1 0)), (1, .int (nI a)), (2, .ref ka), (3, .ref kw), (4, .int (wil μ a)), (5, .int (bhd μ a)), (6, .int ((s1 μ a k) ||| (bt1 k))), (7, .int (nI k))]) h dL_chosen_77 rfl (by decide) rfl ?_
              exact J79 ((s1 μ a k) ||| (bt1 k)) (by first | exact s1_no c1 | exact s1_n c2 c3 | exact s1_7 c1 c2 | exact s1_a c1 c3 | (rw [or_same]; exact s1_7 c1 c2) | fail) (by omega)
          · refine yx_iload h dL_chosen_35 6 rfl ?_
            refine yx_iconst h dL_chosen_37 (by decide) ?_
            refine yx_iload h dL_chosen_38 7 rfl ?_
            refine yx_ishl h dL_chosen_40 ?_
            refine yx_ior h dL_chosen_41 ?_
            refine yx_istore (L' := [(0, .ref (w.1 0)), (1, .int (nI a)), (2, .ref ka), (3, .ref kw), (4, .int (wil μ a)), (5, .int (bhd μ a)), (6, .int ((s1 μ a k) ||| (bt1 k))), (7, .int (nI k))]) h dL_chosen_42 rfl (by decide) rfl ?_
            refine yx_aload_n h dL_chosen_44 2 rfl ?_
            refine yx_iload h dL_chosen_45 7 rfl ?_
            refine yx_iald (q0 := q0) h dL_chosen_47 he (by omega) (by omega) ?_
            refine yx_iload h dL_chosen_48 5 rfl ?_
            refine yx_iand h dL_chosen_50 ?_
            refine yx_aload_n h dL_chosen_51 2 rfl ?_
            refine yx_iload h dL_chosen_52 4 rfl ?_
            refine yx_iconst h dL_chosen_54 (by decide) ?_
            refine yx_iload h dL_chosen_55 7 rfl ?_
            refine yx_ishl h dL_chosen_57 ?_
            refine yx_iconstv (v := -1) h dL_chosen_58 (by decide) ?_
            refine yx_ixor h dL_chosen_59 ?_
            refine yx_iand h dL_chosen_60 ?_
            refine yx_csxp (rest := [.int ((μ (144 + (8 * a + k))) &&& (bhd μ a))]) h hE ⟨Nat.zero_le _, Nat.zero_le _⟩ (c_ofK hW hE he h8 ((wil μ a) &&& (nots (bt1 k)))) lL_of mL_42 (by decide) (by decide) rfl rfl rfl dL_chosen_61 ?_
            refine yx_iconstv (v := -1) h dL_chosen_64 (by decide) ?_
            refine yx_ixor h dL_chosen_65 ?_
            refine yx_iand h dL_chosen_66 ?_
            refine yx_if_eq h dL_chosen_67 (fun c3 => ?_) (fun c3 => ?_)
            · exact J79 ((s1 μ a k) ||| (bt1 k)) (by first | exact s1_no c1 | exact s1_n c2 c3 | exact s1_7 c1 c2 | exact s1_a c1 c3 | (rw [or_same]; exact s1_7 c1 c2) | fail) (by omega)
            · refine yx_iload h dL_chosen_70 6 rfl ?_
              refine yx_iconst h dL_chosen_72 (by decide) ?_
              refine yx_iload h dL_chosen_73 7 rfl ?_
              refine yx_ishl h dL_chosen_75 ?_
              refine yx_ior h dL_chosen_76 ?_
              refine yx_istore (L' := [(0, .ref (w.1 0)), (1, .int (nI a)), (2, .ref ka), (3, .ref kw), (4, .int (wil μ a)), (5, .int (bhd μ a)), (6, .int (((s1 μ a k) ||| (bt1 k)) ||| (bt1 k))), (7, .int (nI k))]) h dL_chosen_77 rfl (by decide) rfl ?_
              exact J79 (((s1 μ a k) ||| (bt1 k)) ||| (bt1 k)) (by first | exact s1_no c1 | exact s1_n c2 c3 | exact s1_7 c1 c2 | exact s1_a c1 c3 | (rw [or_same]; exact s1_7 c1 c2) | fail) (by omega)
        · refine yx_goto h dL_chosen_23 ?_
          exact J79 (s1 μ a k) (by first | exact s1_no c1 | exact s1_n c2 c3 | exact s1_7 c1 c2 | exact s1_a c1 c3 | (rw [or_same]; exact s1_7 c1 c2) | fail) (by omega)
  show JX X (wA w) w es 13 0 [(0, .ref (w.1 0)), (1, .int (nI a)), (2, .ref ka), (3, .ref kw), (4, .int (wil μ a)), (5, .int (bhd μ a))] [] σ 0 0
  refine yx_iconst h dL_chosen_0 (by decide) ?_
  refine yx_istore (L' := [(0, .ref (w.1 0)), (1, .int (nI a)), (2, .ref ka), (3, .ref kw), (4, .int (wil μ a)), (5, .int (bhd μ a)), (6, .int (nI 0))]) h dL_chosen_1 rfl (by decide) rfl ?_
  refine yx_iconst h dL_chosen_3 (by decide) ?_
  refine yx_istore (L' := [(0, .ref (w.1 0)), (1, .int (nI a)), (2, .ref ka), (3, .ref kw), (4, .int (wil μ a)), (5, .int (bhd μ a)), (6, .int (nI 0)), (7, .int (nI 0))]) h dL_chosen_4 rfl (by decide) rfl ?_
  exact LP1 9 0 (by omega) (by omega)
