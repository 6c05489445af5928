set_option maxRecDepth 100000 in
set_option maxHeartbeats 4000000 in
theorem p_link {l : Launch} {w : Wd} (hW : Wi w) {σ : Mem} (i : Int32) (j : Int32) (wt : Int32)  (μ : Nat → Int32) (hv : vw (vb 0) σ = μ) (hI : MI μ) : MC l w qX11_link 2 [.ref (w.1 0), .int i, .int j, .int wt] σ (some (.int (an (fo (rg wt (nI 0) (nI 5)) (ps μ i j)) (v_link μ (toN i) (toN j) (toN wt))))) (fun σ' => (σ' 14000 = (nI (fo (rg wt (nI 0) (nI 5)) (ps μ i j)))) ∧ (∀ a, (a < 14900 ∧ a ≠ 14000) → σ' a = σ a)) := by
  refine MC.of hW (by decide +kernel) (Nat.le_of_ble_eq_true rfl) (fun X h hQ hnm => ?_)
  have h : Fx X w cX11_link 4 RX11 2 := h
  have hQ : Qx X w (some .int) (some (.int (an (fo (rg wt (nI 0) (nI 5)) (ps μ i j)) (v_link μ (toN i) (toN j) (toN wt))))) (fun σ' => (σ' 14000 = (nI (fo (rg wt (nI 0) (nI 5)) (ps μ i j)))) ∧ (∀ a, (a < 14900 ∧ a ≠ 14000) → σ' a = σ a)) := hQ
  have hN8 := mi_8 hI
  have hcFR_σ : ∀ a, (a < 14900 ∧ a ≠ 14000) → σ a = σ a := fun _ _ => rfl
  show G X w 4 0 [(0, .ref (w.1 0)), (1, .int i), (2, .int j), (3, .int wt)] [] σ
  refine g_aload_n h dX11_link_0 0 rfl ?_
  refine g_iload_n h dX11_link_1 3 rfl ?_
  refine g_iconst h dX11_link_2 (by decide) ?_
  refine g_iconst h dX11_link_3 (by decide) ?_
  refine g_cspi (rest := [.ref (w.1 0)]) h (c_rg hW wt (nI 0) (nI 5) ) lX11_rangeStatus mX11_102 (Nat.lt_of_lt_of_le (by decide) (Nat.le_refl _)) (by decide) rfl rfl rfl dX11_link_4 ?_
  refine g_aload_n h dX11_link_7 0 rfl ?_
  refine g_iload_n h dX11_link_8 1 rfl ?_
  refine g_iload_n h dX11_link_9 2 rfl ?_
  refine g_cvpi (rest := [.int (nI (rg wt (nI 0) (nI 5))), .ref (w.1 0)]) h (c_ps hW i j μ (by first | exact hv | assumption | fail)) lX11_pairStatus mX11_209 (Nat.lt_of_lt_of_le (by decide) (Nat.le_refl _)) (by decide) sc_0 rfl rfl rfl rfl dX11_link_10 ?_
  refine g_cspi (rest := [.ref (w.1 0)]) h (c_fo hW (rg wt (nI 0) (nI 5)) (ps μ i j) (by repeat (first | omega | exact rg_lt | exact ns_lt | exact ps_lt | exact gst_lt | exact ofS_lt | exact if_lt (by decide) (by decide) | apply fo_lt)) (by repeat (first | omega | exact rg_lt | exact ns_lt | exact ps_lt | exact gst_lt | exact ofS_lt | exact if_lt (by decide) (by decide) | apply fo_lt))) lX11_firstOf mX11_163 (Nat.lt_of_lt_of_le (by decide) (Nat.le_refl _)) (by decide) rfl rfl rfl dX11_link_13 ?_
  refine g_cvi (rest := []) h (c_fails hW (fo (rg wt (nI 0) (nI 5)) (ps μ i j)) (by repeat (first | omega | exact rg_lt | exact ns_lt | exact ps_lt | exact gst_lt | exact ofS_lt | exact if_lt (by decide) (by decide) | apply fo_lt))) lX11_fails mX11_106 (Nat.lt_of_lt_of_le (by decide) (Nat.le_refl _)) (by decide) sc_0 rfl rfl rfl rfl dX11_link_16 (fun σ_1 eσ_1 => ?_)
  obtain ⟨eσ_1_a, eσ_1_b⟩ := eσ_1
  have eσ_1_a : σ_1 14000 = (nI (fo (rg wt (nI 0) (nI 5)) (ps μ i j))) := eσ_1_a
  have eσ_1_b : ∀ a, (a ≠ 14000) → σ_1 a = σ a := eσ_1_b
  have ht14000_σ_1 : σ_1 14000 = (nI (fo (rg wt (nI 0) (nI 5)) (ps μ i j))) := eσ_1_a
  have hcFR_σ_1 : ∀ a, (a < 14900 ∧ a ≠ 14000) → σ_1 a = σ a := by intro a ha; exact Eq.trans (b := σ a) (eσ_1_b a (by first | omega | (simp only [vb] at *; omega))) (hcFR_σ a ha)
  have hvσ_1 : vw (vb 0) σ_1 = μ := by rw [vw_fr (σ := σ) (fun j _ _ => eσ_1_b _ (by first | omega | (simp only [vb] at *; omega)))]; first | exact hv | assumption
  refine g_ifB_eq h dX11_link_19 (fun c19 => ?_) (fun c19 => ?_)
  ·
    have hS0 := nb0 c19
    obtain ⟨hs1, hs2⟩ := fo_0 hS0
    obtain ⟨ew, hw9⟩ := rg_N (by decide) hs1
    have h0 := ps_0 hs2
    obtain ⟨ei, hi9⟩ := nB_N hI h0.1
    obtain ⟨ej, hj9⟩ := nB_N hI h0.2.1
    rw [ei, ej, ew]
    show G X w 4 24 [(0, .ref (w.1 0)), (1, .int (nI (toN i))), (2, .int (nI (toN j))), (3, .int (nI (toN wt)))] [] σ_1
    refine g_iload_n h dX11_link_24 3 rfl ?_
    rcases (show toN wt = 0 ∨ toN wt = 1 ∨ toN wt = 2 ∨ toN wt = 3 ∨ toN wt = 4 ∨ toN wt = 5 by omega) with hc25 | hc25 | hc25 | hc25 | hc25 | hc25
    ·
      refine g_tsw (off := 35) (tgt := 60) h dX11_link_25 (nI 0) (by rw [hc25]) (by decide) (by decide) (by decide +kernel) (by decide) ?_
      refine g_aload_n h dX11_link_60 0 rfl ?_
      refine g_getr h dX11_link_61 gX11_23 sc_0 rfl ?_
      refine g_getr h dX11_link_64 gX11_181 (sM_0 (m := 0) (by decide)) rfl ?_
      refine g_getr h dX11_link_67 gX11_212 (sM_4 (m := 0) (by decide)) rfl ?_
      refine g_iload_n h dX11_link_70 1 rfl ?_
      refine g_iload_n h dX11_link_71 2 rfl ?_
      refine g_cspi (rest := [.ref (w.1 (mc 0 5))]) h (c_at hW (toN i) (toN j) ) lX5_at mX11_215 (Nat.lt_of_lt_of_le (by decide) (Nat.le_refl _)) (by decide) rfl rfl rfl dX11_link_72 ?_
      refine g_iald h dX11_link_75 (sM_5 (m := 0) (by decide)) (by omega) ?_
      refine g_top (y := μ (80 + (8 * (toN i) + (toN j)))) (vw_pic (b := (vb 0)) (k := 80 + (8 * (toN i) + (toN j))) (by first | exact hvσ_1 | assumption) (by omega)) ?_
      exact g_iret h hQ dX11_link_76 (congrArg (fun z => some (Value.int z)) (show (an (fo (rg wt (nI 0) (nI 5)) (ps μ i j)) (v_link μ (toN i) (toN j) (toN wt))) = (μ (80 + (8 * (toN i) + (toN j)))) by first | exact an_yes (by exact hS0) (by first | rfl | (simp [v_link, c19, hc25]; done) | (simp [v_link, c19, hc25]; rfl)) | exact an_no (k := (fo (rg wt (nI 0) (nI 5)) (ps μ i j))) (by first | rfl | (simp [fo, rg, ns, nB, ps, gst, ofS, offB, c19, hc25]; done) | (simp [fo, rg, ns, nB, ps, gst, ofS, offB, c19, hc25]; omega)) (by first | decide | omega | assumption | exact nb1 (by assumption)) | fail)) (by exact ⟨(by first | exact tk_eq (k := (fo (rg wt (nI 0) (nI 5)) (ps μ i j))) (by first | rfl | (simp [fo, rg, ns, nB, ps, gst, ofS, offB, c19, hc25]; done) | (simp [fo, rg, ns, nB, ps, gst, ofS, offB, c19, hc25]; omega)) ht14000_σ_1 | exact tk_eq (k := (fo (rg wt (nI 0) (nI 5)) (ps μ i j))) (by exact hS0) ht14000_σ_1 | fail), (by exact hcFR_σ_1)⟩)
    ·
      refine g_tsw (off := 52) (tgt := 77) h dX11_link_25 (nI 1) (by rw [hc25]) (by decide) (by decide) (by decide +kernel) (by decide) ?_
      refine g_aload_n h dX11_link_77 0 rfl ?_
      refine g_getr h dX11_link_78 gX11_23 sc_0 rfl ?_
      refine g_getr h dX11_link_81 gX11_181 (sM_0 (m := 0) (by decide)) rfl ?_
      refine g_getr h dX11_link_84 gX11_185 (sM_4 (m := 0) (by decide)) rfl ?_
      refine g_iload_n h dX11_link_87 1 rfl ?_
      refine g_iald h dX11_link_88 (sM_7 (m := 0) (by decide)) (by omega) ?_
      refine g_top (y := μ (56 + (toN i))) (vw_pic (b := (vb 0)) (k := 56 + (toN i)) (by first | exact hvσ_1 | assumption) (by omega)) ?_
      refine g_iload_n h dX11_link_89 2 rfl ?_
      refine g_cspi (rest := []) h (c_has hW (μ (56 + (toN i))) (toN j) (by omega)) lX5_has mX11_218 (Nat.lt_of_lt_of_le (by decide) (Nat.le_refl _)) (by decide) rfl rfl rfl dX11_link_90 ?_
      refine g_cspi (rest := []) h (c_asN hW (tb (μ (56 + (toN i))) (toN j)) ) lX11_asNumber mX11_170 (Nat.lt_of_lt_of_le (by decide) (Nat.le_refl _)) (by decide) rfl rfl rfl dX11_link_93 ?_
      exact g_iret h hQ dX11_link_96 (congrArg (fun z => some (Value.int z)) (show (an (fo (rg wt (nI 0) (nI 5)) (ps μ i j)) (v_link μ (toN i) (toN j) (toN wt))) = (b2i (tb (μ (56 + (toN i))) (toN j))) by first | exact an_yes (by exact hS0) (by first | rfl | (simp [v_link, c19, hc25]; done) | (simp [v_link, c19, hc25]; rfl)) | exact an_no (k := (fo (rg wt (nI 0) (nI 5)) (ps μ i j))) (by first | rfl | (simp [fo, rg, ns, nB, ps, gst, ofS, offB, c19, hc25]; done) | (simp [fo, rg, ns, nB, ps, gst, ofS, offB, c19, hc25]; omega)) (by first | decide | omega | assumption | exact nb1 (by assumption)) | fail)) (by exact ⟨(by first | exact tk_eq (k := (fo (rg wt (nI 0) (nI 5)) (ps μ i j))) (by first | rfl | (simp [fo, rg, ns, nB, ps, gst, ofS, offB, c19, hc25]; done) | (simp [fo, rg, ns, nB, ps, gst, ofS, offB, c19, hc25]; omega)) ht14000_σ_1 | exact tk_eq (k := (fo (rg wt (nI 0) (nI 5)) (ps μ i j))) (by exact hS0) ht14000_σ_1 | fail), (by exact hcFR_σ_1)⟩)
    ·
      refine g_tsw (off := 72) (tgt := 97) h dX11_link_25 (nI 2) (by rw [hc25]) (by decide) (by decide) (by decide +kernel) (by decide) ?_
      refine g_aload_n h dX11_link_97 0 rfl ?_
      refine g_getr h dX11_link_98 gX11_23 sc_0 rfl ?_
      refine g_getr h dX11_link_101 gX11_181 (sM_0 (m := 0) (by decide)) rfl ?_
      refine g_getr h dX11_link_104 gX11_190 (sM_4 (m := 0) (by decide)) rfl ?_
      refine g_iload_n h dX11_link_107 1 rfl ?_
      refine g_iald h dX11_link_108 (sM_8 (m := 0) (by decide)) (by omega) ?_
      refine g_top (y := μ (64 + (toN i))) (vw_pic (b := (vb 0)) (k := 64 + (toN i)) (by first | exact hvσ_1 | assumption) (by omega)) ?_
      refine g_iload_n h dX11_link_109 2 rfl ?_
      refine g_cspi (rest := []) h (c_has hW (μ (64 + (toN i))) (toN j) (by omega)) lX5_has mX11_218 (Nat.lt_of_lt_of_le (by decide) (Nat.le_refl _)) (by decide) rfl rfl rfl dX11_link_110 ?_
      refine g_cspi (rest := []) h (c_asN hW (tb (μ (64 + (toN i))) (toN j)) ) lX11_asNumber mX11_170 (Nat.lt_of_lt_of_le (by decide) (Nat.le_refl _)) (by decide) rfl rfl rfl dX11_link_113 ?_
      exact g_iret h hQ dX11_link_116 (congrArg (fun z => some (Value.int z)) (show (an (fo (rg wt (nI 0) (nI 5)) (ps μ i j)) (v_link μ (toN i) (toN j) (toN wt))) = (b2i (tb (μ (64 + (toN i))) (toN j))) by first | exact an_yes (by exact hS0) (by first | rfl | (simp [v_link, c19, hc25]; done) | (simp [v_link, c19, hc25]; rfl)) | exact an_no (k := (fo (rg wt (nI 0) (nI 5)) (ps μ i j))) (by first | rfl | (simp [fo, rg, ns, nB, ps, gst, ofS, offB, c19, hc25]; done) | (simp [fo, rg, ns, nB, ps, gst, ofS, offB, c19, hc25]; omega)) (by first | decide | omega | assumption | exact nb1 (by assumption)) | fail)) (by exact ⟨(by first | exact tk_eq (k := (fo (rg wt (nI 0) (nI 5)) (ps μ i j))) (by first | rfl | (simp [fo, rg, ns, nB, ps, gst, ofS, offB, c19, hc25]; done) | (simp [fo, rg, ns, nB, ps, gst, ofS, offB, c19, hc25]; omega)) ht14000_σ_1 | exact tk_eq (k := (fo (rg wt (nI 0) (nI 5)) (ps μ i j))) (by exact hS0) ht14000_σ_1 | fail), (by exact hcFR_σ_1)⟩)
    ·
      refine g_tsw (off := 92) (tgt := 117) h dX11_link_25 (nI 3) (by rw [hc25]) (by decide) (by decide) (by decide +kernel) (by decide) ?_
      refine g_aload_n h dX11_link_117 0 rfl ?_
      refine g_getr h dX11_link_118 gX11_23 sc_0 rfl ?_
      refine g_getr h dX11_link_121 gX11_181 (sM_0 (m := 0) (by decide)) rfl ?_
      refine g_getr h dX11_link_124 gX11_222 (sM_4 (m := 0) (by decide)) rfl ?_
      refine g_iload_n h dX11_link_127 1 rfl ?_
      refine g_iload_n h dX11_link_128 2 rfl ?_
      refine g_cspi (rest := [.ref (w.1 (mc 0 6))]) h (c_at hW (toN i) (toN j) ) lX5_at mX11_215 (Nat.lt_of_lt_of_le (by decide) (Nat.le_refl _)) (by decide) rfl rfl rfl dX11_link_129 ?_
      refine g_iald h dX11_link_132 (sM_6 (m := 0) (by decide)) (by omega) ?_
      refine g_top (y := μ (144 + (8 * (toN i) + (toN j)))) (vw_pic (b := (vb 0)) (k := 144 + (8 * (toN i) + (toN j))) (by first | exact hvσ_1 | assumption) (by omega)) ?_
      exact g_iret h hQ dX11_link_133 (congrArg (fun z => some (Value.int z)) (show (an (fo (rg wt (nI 0) (nI 5)) (ps μ i j)) (v_link μ (toN i) (toN j) (toN wt))) = (μ (144 + (8 * (toN i) + (toN j)))) by first | exact an_yes (by exact hS0) (by first | rfl | (simp [v_link, c19, hc25]; done) | (simp [v_link, c19, hc25]; rfl)) | exact an_no (k := (fo (rg wt (nI 0) (nI 5)) (ps μ i j))) (by first | rfl | (simp [fo, rg, ns, nB, ps, gst, ofS, offB, c19, hc25]; done) | (simp [fo, rg, ns, nB, ps, gst, ofS, offB, c19, hc25]; omega)) (by first | decide | omega | assumption | exact nb1 (by assumption)) | fail)) (by exact ⟨(by first | exact tk_eq (k := (fo (rg wt (nI 0) (nI 5)) (ps μ i j))) (by first | rfl | (simp [fo, rg, ns, nB, ps, gst, ofS, offB, c19, hc25]; done) | (simp [fo, rg, ns, nB, ps, gst, ofS, offB, c19, hc25]; omega)) ht14000_σ_1 | exact tk_eq (k := (fo (rg wt (nI 0) (nI 5)) (ps μ i j))) (by exact hS0) ht14000_σ_1 | fail), (by exact hcFR_σ_1)⟩)
    ·
      refine g_tsw (off := 109) (tgt := 134) h dX11_link_25 (nI 4) (by rw [hc25]) (by decide) (by decide) (by decide +kernel) (by decide) ?_
      refine g_aload_n h dX11_link_134 0 rfl ?_
      refine g_getr h dX11_link_135 gX11_23 sc_0 rfl ?_
      refine g_getr h dX11_link_138 gX11_181 (sM_0 (m := 0) (by decide)) rfl ?_
      refine g_getr h dX11_link_141 gX11_200 (sM_4 (m := 0) (by decide)) rfl ?_
      refine g_iload_n h dX11_link_144 1 rfl ?_
      refine g_iald h dX11_link_145 (sM_9 (m := 0) (by decide)) (by omega) ?_
      refine g_top (y := μ (72 + (toN i))) (vw_pic (b := (vb 0)) (k := 72 + (toN i)) (by first | exact hvσ_1 | assumption) (by omega)) ?_
      refine g_iload_n h dX11_link_146 2 rfl ?_
      refine g_cspi (rest := []) h (c_has hW (μ (72 + (toN i))) (toN j) (by omega)) lX5_has mX11_218 (Nat.lt_of_lt_of_le (by decide) (Nat.le_refl _)) (by decide) rfl rfl rfl dX11_link_147 ?_
      refine g_cspi (rest := []) h (c_asN hW (tb (μ (72 + (toN i))) (toN j)) ) lX11_asNumber mX11_170 (Nat.lt_of_lt_of_le (by decide) (Nat.le_refl _)) (by decide) rfl rfl rfl dX11_link_150 ?_
      exact g_iret h hQ dX11_link_153 (congrArg (fun z => some (Value.int z)) (show (an (fo (rg wt (nI 0) (nI 5)) (ps μ i j)) (v_link μ (toN i) (toN j) (toN wt))) = (b2i (tb (μ (72 + (toN i))) (toN j))) by first | exact an_yes (by exact hS0) (by first | rfl | (simp [v_link, c19, hc25]; done) | (simp [v_link, c19, hc25]; rfl)) | exact an_no (k := (fo (rg wt (nI 0) (nI 5)) (ps μ i j))) (by first | rfl | (simp [fo, rg, ns, nB, ps, gst, ofS, offB, c19, hc25]; done) | (simp [fo, rg, ns, nB, ps, gst, ofS, offB, c19, hc25]; omega)) (by first | decide | omega | assumption | exact nb1 (by assumption)) | fail)) (by exact ⟨(by first | exact tk_eq (k := (fo (rg wt (nI 0) (nI 5)) (ps μ i j))) (by first | rfl | (simp [fo, rg, ns, nB, ps, gst, ofS, offB, c19, hc25]; done) | (simp [fo, rg, ns, nB, ps, gst, ofS, offB, c19, hc25]; omega)) ht14000_σ_1 | exact tk_eq (k := (fo (rg wt (nI 0) (nI 5)) (ps μ i j))) (by exact hS0) ht14000_σ_1 | fail), (by exact hcFR_σ_1)⟩)
    ·
      refine g_tswOut (tgt := 154) h dX11_link_25 (by rw [hc25]; decide) (by decide) ?_
      refine g_aload_n h dX11_link_154 0 rfl ?_
      refine g_getr h dX11_link_155 gX11_23 sc_0 rfl ?_
      refine g_getr h dX11_link_158 gX11_225 (sM_0 (m := 0) (by decide)) rfl ?_
      refine g_iload_n h dX11_link_161 1 rfl ?_
      refine g_iload_n h dX11_link_162 2 rfl ?_
      refine g_cspi (rest := [.ref (w.1 (mc 0 3))]) h (c_at hW (toN i) (toN j) ) lX5_at mX11_215 (Nat.lt_of_lt_of_le (by decide) (Nat.le_refl _)) (by decide) rfl rfl rfl dX11_link_163 ?_
      refine g_iald h dX11_link_166 (sM_3 (m := 0) (by decide)) (by omega) ?_
      refine g_top (y := μ (208 + tr (8 * (toN i) + (toN j)))) (vw_pic (b := (vb 0)) (k := 208 + tr (8 * (toN i) + (toN j))) (by first | exact hvσ_1 | assumption) (by rw [tr_at (by omega) (by omega)]; omega)) ?_
      refine g_top (y := (μ (208 + (8 * toN j + toN i)))) (by rw [tr_at (by omega) (by omega)]) ?_
      exact g_iret h hQ dX11_link_167 (congrArg (fun z => some (Value.int z)) (show (an (fo (rg wt (nI 0) (nI 5)) (ps μ i j)) (v_link μ (toN i) (toN j) (toN wt))) = (μ (208 + (8 * toN j + toN i))) by first | exact an_yes (by exact hS0) (by first | rfl | (simp [v_link, c19, hc25]; done) | (simp [v_link, c19, hc25]; rfl)) | exact an_no (k := (fo (rg wt (nI 0) (nI 5)) (ps μ i j))) (by first | rfl | (simp [fo, rg, ns, nB, ps, gst, ofS, offB, c19, hc25]; done) | (simp [fo, rg, ns, nB, ps, gst, ofS, offB, c19, hc25]; omega)) (by first | decide | omega | assumption | exact nb1 (by assumption)) | fail)) (by exact ⟨(by first | exact tk_eq (k := (fo (rg wt (nI 0) (nI 5)) (ps μ i j))) (by first | rfl | (simp [fo, rg, ns, nB, ps, gst, ofS, offB, c19, hc25]; done) | (simp [fo, rg, ns, nB, ps, gst, ofS, offB, c19, hc25]; omega)) ht14000_σ_1 | exact tk_eq (k := (fo (rg wt (nI 0) (nI 5)) (ps μ i j))) (by exact hS0) ht14000_σ_1 | fail), (by exact hcFR_σ_1)⟩)
  ·
    refine g_iconstv h dX11_link_22 (v := (-1)) (by decide) ?_
    exact g_iret h hQ dX11_link_23 (congrArg (fun z => some (Value.int z)) (show (an (fo (rg wt (nI 0) (nI 5)) (ps μ i j)) (v_link μ (toN i) (toN j) (toN wt))) = (-1) by first | exact an_yes (by exact hS0) (by first | rfl | (simp [v_link, c19]; done) | (simp [v_link, c19]; rfl)) | exact an_no (k := (fo (rg wt (nI 0) (nI 5)) (ps μ i j))) (by first | rfl | (simp [fo, rg, ns, nB, ps, gst, ofS, offB, c19]; done) | (simp [fo, rg, ns, nB, ps, gst, ofS, offB, c19]; omega)) (by first | decide | omega | assumption | exact nb1 (by assumption)) | fail)) (by exact ⟨(by first | exact tk_eq (k := (fo (rg wt (nI 0) (nI 5)) (ps μ i j))) (by first | rfl | (simp [fo, rg, ns, nB, ps, gst, ofS, offB, c19]; done) | (simp [fo, rg, ns, nB, ps, gst, ofS, offB, c19]; omega)) ht14000_σ_1 | exact tk_eq (k := (fo (rg wt (nI 0) (nI 5)) (ps μ i j))) (by exact hS0) ht14000_σ_1 | fail), (by exact hcFR_σ_1)⟩)

set_option maxRecDepth 100000 in
set_option maxHeartbeats 4000000 in
theorem p_would {l : Launch} {w : Wd} (hW : Wi w) {σ : Mem} (i : Int32)  (μ : Nat → Int32) (hv : vw (vb 0) σ = μ) (hI : MI μ) : MC l w qX11_would 4 [.ref (w.1 0), .int i] σ (some (.int (an (ns μ i) (chos μ (toN i))))) (fun σ' => (σ' 14000 = (nI (ns μ i))) ∧ (∀ a, (a < 14900 ∧ a ≠ 14000) → σ' a = σ a)) := by
  refine MC.of hW (by decide +kernel) (Nat.le_of_ble_eq_true rfl) (fun X h hQ hnm => ?_)
  have h : Fx X w cX11_would 2 RX11 4 := h
  have hQ : Qx X w (some .int) (some (.int (an (ns μ i) (chos μ (toN i))))) (fun σ' => (σ' 14000 = (nI (ns μ i))) ∧ (∀ a, (a < 14900 ∧ a ≠ 14000) → σ' a = σ a)) := hQ
  have hN8 := mi_8 hI
  have hcFR_σ : ∀ a, (a < 14900 ∧ a ≠ 14000) → σ a = σ a := fun _ _ => rfl
  show G X w 2 0 [(0, .ref (w.1 0)), (1, .int i)] [] σ
  refine g_aload_n h dX11_would_0 0 rfl ?_
  refine g_aload_n h dX11_would_1 0 rfl ?_
  refine g_iload_n h dX11_would_2 1 rfl ?_
  refine g_cvpi (rest := [.ref (w.1 0)]) h (c_ns hW i μ (by first | exact hv | assumption | fail)) lX11_nodeStatus mX11_159 (Nat.lt_of_lt_of_le (by decide) (Nat.le_refl _)) (by decide) sc_0 rfl rfl rfl rfl dX11_would_3 ?_
  refine g_cvi (rest := []) h (c_fails hW (ns μ i) (by repeat (first | omega | exact rg_lt | exact ns_lt | exact ps_lt | exact gst_lt | exact ofS_lt | exact if_lt (by decide) (by decide) | apply fo_lt))) lX11_fails mX11_106 (Nat.lt_of_lt_of_le (by decide) (Nat.le_refl _)) (by decide) sc_0 rfl rfl rfl rfl dX11_would_6 (fun σ_1 eσ_1 => ?_)
  obtain ⟨eσ_1_a, eσ_1_b⟩ := eσ_1
  have eσ_1_a : σ_1 14000 = (nI (ns μ i)) := eσ_1_a
  have eσ_1_b : ∀ a, (a ≠ 14000) → σ_1 a = σ a := eσ_1_b
  have ht14000_σ_1 : σ_1 14000 = (nI (ns μ i)) := eσ_1_a
  have hcFR_σ_1 : ∀ a, (a < 14900 ∧ a ≠ 14000) → σ_1 a = σ a := by intro a ha; exact Eq.trans (b := σ a) (eσ_1_b a (by first | omega | (simp only [vb] at *; omega))) (hcFR_σ a ha)
  have hvσ_1 : vw (vb 0) σ_1 = μ := by rw [vw_fr (σ := σ) (fun j _ _ => eσ_1_b _ (by first | omega | (simp only [vb] at *; omega)))]; first | exact hv | assumption
  refine g_ifB_eq h dX11_would_9 (fun c9 => ?_) (fun c9 => ?_)
  ·
    have hS0 := nb0 c9
    obtain ⟨ei, hi9⟩ := nB_N hI (ns_0 hS0)
    rw [ei]
    show G X w 2 16 [(0, .ref (w.1 0)), (1, .int (nI (toN i)))] [] σ_1
    refine g_aload_n h dX11_would_16 0 rfl ?_
    refine g_getr h dX11_would_17 gX11_44 sc_0 rfl ?_
    refine g_aload_n h dX11_would_20 0 rfl ?_
    refine g_getr h dX11_would_21 gX11_23 sc_0 rfl ?_
    refine g_iload_n h dX11_would_24 1 rfl ?_
    refine g_cvi (rest := []) h (c_chosen hW (toN i) 0 μ (by first | omega | decide | fail) (by first | exact hvσ_1 | assumption | fail) (by assumption) (by omega)) lX0_chosen mX11_237 (Nat.lt_of_lt_of_le (by decide) (Nat.le_refl _)) (by decide) sc_6 rfl rfl rfl rfl dX11_would_25 (fun σ_2 eσ_2 => ?_)
    obtain ⟨eσ_2_a, eσ_2_b⟩ := eσ_2
    have eσ_2_a : PK μ (toN i) σ_2 15013 15100 := eσ_2_a
    have eσ_2_b : ∀ a, (a ≠ 15013 ∧ (a < 15100 ∨ 15108 ≤ a)) → σ_2 a = σ_1 a := eσ_2_b
    have ht14000_σ_2 : σ_2 14000 = (nI (ns μ i)) := by rw [eσ_2_b _ (by first | omega | (simp only [vb] at *; omega))]; first | exact ht14000_σ_1 | assumption
    have hcFR_σ_2 : ∀ a, (a < 14900 ∧ a ≠ 14000) → σ_2 a = σ a := by intro a ha; exact Eq.trans (b := σ_1 a) (eσ_2_b a (by first | omega | (simp only [vb] at *; omega))) (hcFR_σ_1 a ha)
    have hvσ_2 : vw (vb 0) σ_2 = μ := by rw [vw_fr (σ := σ_1) (fun j _ _ => eσ_2_b _ (by first | omega | (simp only [vb] at *; omega)))]; first | exact hvσ_1 | assumption
    exact g_iret h hQ dX11_would_28 (congrArg (fun z => some (Value.int z)) (show (an (ns μ i) (chos μ (toN i))) = (chos μ (toN i)) by first | exact an_yes (by exact hS0) (by first | rfl | (simp [an, c9]; done) | (simp [an, c9]; rfl)) | exact an_no (k := (ns μ i)) (by first | rfl | (simp [fo, rg, ns, nB, ps, gst, ofS, offB, c9]; done) | (simp [fo, rg, ns, nB, ps, gst, ofS, offB, c9]; omega)) (by first | decide | omega | assumption | exact nb1 (by assumption)) | fail)) (by exact ⟨(by first | exact tk_eq (k := (ns μ i)) (by first | rfl | (simp [fo, rg, ns, nB, ps, gst, ofS, offB, c9]; done) | (simp [fo, rg, ns, nB, ps, gst, ofS, offB, c9]; omega)) ht14000_σ_2 | exact tk_eq (k := (ns μ i)) (by exact hS0) ht14000_σ_2 | fail), (by exact hcFR_σ_2)⟩)
  ·
    refine g_iconstv h dX11_would_12 (v := (-1)) (by decide) ?_
    refine g_goto h dX11_would_13 ?_
    exact g_iret h hQ dX11_would_28 (congrArg (fun z => some (Value.int z)) (show (an (ns μ i) (chos μ (toN i))) = (-1) by first | exact an_yes (by exact hS0) (by first | rfl | (simp [an, c9]; done) | (simp [an, c9]; rfl)) | exact an_no (k := (ns μ i)) (by first | rfl | (simp [fo, rg, ns, nB, ps, gst, ofS, offB, c9]; done) | (simp [fo, rg, ns, nB, ps, gst, ofS, offB, c9]; omega)) (by first | decide | omega | assumption | exact nb1 (by assumption)) | fail)) (by exact ⟨(by first | exact tk_eq (k := (ns μ i)) (by first | rfl | (simp [fo, rg, ns, nB, ps, gst, ofS, offB, c9]; done) | (simp [fo, rg, ns, nB, ps, gst, ofS, offB, c9]; omega)) ht14000_σ_1 | exact tk_eq (k := (ns μ i)) (by exact hS0) ht14000_σ_1 | fail), (by exact hcFR_σ_1)⟩)

set_option maxRecDepth 100000 in
set_option maxHeartbeats 4000000 in
theorem p_least {l : Launch} {w : Wd} (hW : Wi w) {σ : Mem} (i : Int32)  (μ : Nat → Int32) (hv : vw (vb 0) σ = μ) (hI : MI μ) : MC l w qX11_least 4 [.ref (w.1 0), .int i] σ (some (.int (an (ns μ i) (lst μ (toN i))))) (fun σ' => (σ' 14000 = (nI (ns μ i))) ∧ (∀ a, (a < 14900 ∧ a ≠ 14000) → σ' a = σ a)) := by
  refine MC.of hW (by decide +kernel) (Nat.le_of_ble_eq_true rfl) (fun X h hQ hnm => ?_)
  have h : Fx X w cX11_least 2 RX11 4 := h
  have hQ : Qx X w (some .int) (some (.int (an (ns μ i) (lst μ (toN i))))) (fun σ' => (σ' 14000 = (nI (ns μ i))) ∧ (∀ a, (a < 14900 ∧ a ≠ 14000) → σ' a = σ a)) := hQ
  have hN8 := mi_8 hI
  have hcFR_σ : ∀ a, (a < 14900 ∧ a ≠ 14000) → σ a = σ a := fun _ _ => rfl
  show G X w 2 0 [(0, .ref (w.1 0)), (1, .int i)] [] σ
  refine g_aload_n h dX11_least_0 0 rfl ?_
  refine g_aload_n h dX11_least_1 0 rfl ?_
  refine g_iload_n h dX11_least_2 1 rfl ?_
  refine g_cvpi (rest := [.ref (w.1 0)]) h (c_ns hW i μ (by first | exact hv | assumption | fail)) lX11_nodeStatus mX11_159 (Nat.lt_of_lt_of_le (by decide) (Nat.le_refl _)) (by decide) sc_0 rfl rfl rfl rfl dX11_least_3 ?_
  refine g_cvi (rest := []) h (c_fails hW (ns μ i) (by repeat (first | omega | exact rg_lt | exact ns_lt | exact ps_lt | exact gst_lt | exact ofS_lt | exact if_lt (by decide) (by decide) | apply fo_lt))) lX11_fails mX11_106 (Nat.lt_of_lt_of_le (by decide) (Nat.le_refl _)) (by decide) sc_0 rfl rfl rfl rfl dX11_least_6 (fun σ_1 eσ_1 => ?_)
  obtain ⟨eσ_1_a, eσ_1_b⟩ := eσ_1
  have eσ_1_a : σ_1 14000 = (nI (ns μ i)) := eσ_1_a
  have eσ_1_b : ∀ a, (a ≠ 14000) → σ_1 a = σ a := eσ_1_b
  have ht14000_σ_1 : σ_1 14000 = (nI (ns μ i)) := eσ_1_a
  have hcFR_σ_1 : ∀ a, (a < 14900 ∧ a ≠ 14000) → σ_1 a = σ a := by intro a ha; exact Eq.trans (b := σ a) (eσ_1_b a (by first | omega | (simp only [vb] at *; omega))) (hcFR_σ a ha)
  have hvσ_1 : vw (vb 0) σ_1 = μ := by rw [vw_fr (σ := σ) (fun j _ _ => eσ_1_b _ (by first | omega | (simp only [vb] at *; omega)))]; first | exact hv | assumption
  refine g_ifB_eq h dX11_least_9 (fun c9 => ?_) (fun c9 => ?_)
  ·
    have hS0 := nb0 c9
    obtain ⟨ei, hi9⟩ := nB_N hI (ns_0 hS0)
    rw [ei]
    show G X w 2 16 [(0, .ref (w.1 0)), (1, .int (nI (toN i)))] [] σ_1
    refine g_aload_n h dX11_least_16 0 rfl ?_
    refine g_getr h dX11_least_17 gX11_23 sc_0 rfl ?_
    refine g_iload_n h dX11_least_20 1 rfl ?_
    refine g_cspi (rest := []) h (c_fewest hW (toN i) 0 μ (by first | omega | decide | fail) (by first | exact hvσ_1 | assumption | fail) (by assumption) (by omega)) lX0_fewest mX11_250 (Nat.lt_of_lt_of_le (by decide) (Nat.le_refl _)) (by decide) rfl rfl rfl dX11_least_21 ?_
    exact g_iret h hQ dX11_least_24 (congrArg (fun z => some (Value.int z)) (show (an (ns μ i) (lst μ (toN i))) = (lst μ (toN i)) by first | exact an_yes (by exact hS0) (by first | rfl | (simp [an, c9]; done) | (simp [an, c9]; rfl)) | exact an_no (k := (ns μ i)) (by first | rfl | (simp [fo, rg, ns, nB, ps, gst, ofS, offB, c9]; done) | (simp [fo, rg, ns, nB, ps, gst, ofS, offB, c9]; omega)) (by first | decide | omega | assumption | exact nb1 (by assumption)) | fail)) (by exact ⟨(by first | exact tk_eq (k := (ns μ i)) (by first | rfl | (simp [fo, rg, ns, nB, ps, gst, ofS, offB, c9]; done) | (simp [fo, rg, ns, nB, ps, gst, ofS, offB, c9]; omega)) ht14000_σ_1 | exact tk_eq (k := (ns μ i)) (by exact hS0) ht14000_σ_1 | fail), (by exact hcFR_σ_1)⟩)
  ·
    refine g_iconstv h dX11_least_12 (v := (-1)) (by decide) ?_
    refine g_goto h dX11_least_13 ?_
    exact g_iret h hQ dX11_least_24 (congrArg (fun z => some (Value.int z)) (show (an (ns μ i) (lst μ (toN i))) = (-1) by first | exact an_yes (by exact hS0) (by first | rfl | (simp [an, c9]; done) | (simp [an, c9]; rfl)) | exact an_no (k := (ns μ i)) (by first | rfl | (simp [fo, rg, ns, nB, ps, gst, ofS, offB, c9]; done) | (simp [fo, rg, ns, nB, ps, gst, ofS, offB, c9]; omega)) (by first | decide | omega | assumption | exact nb1 (by assumption)) | fail)) (by exact ⟨(by first | exact tk_eq (k := (ns μ i)) (by first | rfl | (simp [fo, rg, ns, nB, ps, gst, ofS, offB, c9]; done) | (simp [fo, rg, ns, nB, ps, gst, ofS, offB, c9]; omega)) ht14000_σ_1 | exact tk_eq (k := (ns μ i)) (by exact hS0) ht14000_σ_1 | fail), (by exact hcFR_σ_1)⟩)

set_option maxRecDepth 100000 in
set_option maxHeartbeats 4000000 in
theorem p_needed {l : Launch} {w : Wd} (hW : Wi w) {σ : Mem} (i : Int32)  (μ : Nat → Int32) (hv : vw (vb 0) σ = μ) (hI : MI μ) : MC l w qX11_needed 3 [.ref (w.1 0), .int i] σ (some (.int (an (ns μ i) (alo μ (toN i) (μ (48 + toN i)) (bhd μ (toN i)))))) (fun σ' => (σ' 14000 = (nI (ns μ i))) ∧ (∀ a, (a < 14900 ∧ a ≠ 14000) → σ' a = σ a)) := by
  refine MC.of hW (by decide +kernel) (Nat.le_of_ble_eq_true rfl) (fun X h hQ hnm => ?_)
  have h : Fx X w cX11_needed 2 RX11 3 := h
  have hQ : Qx X w (some .int) (some (.int (an (ns μ i) (alo μ (toN i) (μ (48 + toN i)) (bhd μ (toN i)))))) (fun σ' => (σ' 14000 = (nI (ns μ i))) ∧ (∀ a, (a < 14900 ∧ a ≠ 14000) → σ' a = σ a)) := hQ
  have hN8 := mi_8 hI
  have hcFR_σ : ∀ a, (a < 14900 ∧ a ≠ 14000) → σ a = σ a := fun _ _ => rfl
  show G X w 2 0 [(0, .ref (w.1 0)), (1, .int i)] [] σ
  refine g_aload_n h dX11_needed_0 0 rfl ?_
  refine g_aload_n h dX11_needed_1 0 rfl ?_
  refine g_iload_n h dX11_needed_2 1 rfl ?_
  refine g_cvpi (rest := [.ref (w.1 0)]) h (c_ns hW i μ (by first | exact hv | assumption | fail)) lX11_nodeStatus mX11_159 (Nat.lt_of_lt_of_le (by decide) (Nat.le_refl _)) (by decide) sc_0 rfl rfl rfl rfl dX11_needed_3 ?_
  refine g_cvi (rest := []) h (c_fails hW (ns μ i) (by repeat (first | omega | exact rg_lt | exact ns_lt | exact ps_lt | exact gst_lt | exact ofS_lt | exact if_lt (by decide) (by decide) | apply fo_lt))) lX11_fails mX11_106 (Nat.lt_of_lt_of_le (by decide) (Nat.le_refl _)) (by decide) sc_0 rfl rfl rfl rfl dX11_needed_6 (fun σ_1 eσ_1 => ?_)
  obtain ⟨eσ_1_a, eσ_1_b⟩ := eσ_1
  have eσ_1_a : σ_1 14000 = (nI (ns μ i)) := eσ_1_a
  have eσ_1_b : ∀ a, (a ≠ 14000) → σ_1 a = σ a := eσ_1_b
  have ht14000_σ_1 : σ_1 14000 = (nI (ns μ i)) := eσ_1_a
  have hcFR_σ_1 : ∀ a, (a < 14900 ∧ a ≠ 14000) → σ_1 a = σ a := by intro a ha; exact Eq.trans (b := σ a) (eσ_1_b a (by first | omega | (simp only [vb] at *; omega))) (hcFR_σ a ha)
  have hvσ_1 : vw (vb 0) σ_1 = μ := by rw [vw_fr (σ := σ) (fun j _ _ => eσ_1_b _ (by first | omega | (simp only [vb] at *; omega)))]; first | exact hv | assumption
  refine g_ifB_eq h dX11_needed_9 (fun c9 => ?_) (fun c9 => ?_)
  ·
    have hS0 := nb0 c9
    obtain ⟨ei, hi9⟩ := nB_N hI (ns_0 hS0)
    rw [ei]
    show G X w 2 14 [(0, .ref (w.1 0)), (1, .int (nI (toN i)))] [] σ_1
    refine g_aload_n h dX11_needed_14 0 rfl ?_
    refine g_getr h dX11_needed_15 gX11_23 sc_0 rfl ?_
    refine g_iload_n h dX11_needed_18 1 rfl ?_
    refine g_aload_n h dX11_needed_19 0 rfl ?_
    refine g_getr h dX11_needed_20 gX11_23 sc_0 rfl ?_
    refine g_getr h dX11_needed_23 gX11_181 (sM_0 (m := 0) (by decide)) rfl ?_
    refine g_getr h dX11_needed_26 gX11_197 (sM_4 (m := 0) (by decide)) rfl ?_
    refine g_iload_n h dX11_needed_29 1 rfl ?_
    refine g_iald h dX11_needed_30 (sM_10 (m := 0) (by decide)) (by omega) ?_
    refine g_top (y := μ (48 + (toN i))) (vw_pic (b := (vb 0)) (k := 48 + (toN i)) (by first | exact hvσ_1 | assumption) (by omega)) ?_
    refine g_aload_n h dX11_needed_31 0 rfl ?_
    refine g_getr h dX11_needed_32 gX11_23 sc_0 rfl ?_
    refine g_iload_n h dX11_needed_35 1 rfl ?_
    refine g_cspi (rest := [.int (μ (48 + (toN i))), .int (nI (toN i)), .ref (w.1 (mc 0 0))]) h (c_behind hW (toN i) 0 μ (by first | omega | decide | fail) (by first | exact hvσ_1 | assumption | fail) (by assumption) (by omega)) lX0_behind mX11_193 (Nat.lt_of_lt_of_le (by decide) (Nat.le_refl _)) (by decide) rfl rfl rfl dX11_needed_36 ?_
    refine g_cspi (rest := []) h (c_onlyWays hW (toN i) (μ (48 + (toN i))) (bhd μ (toN i)) 0 μ (by first | omega | decide | fail) (by first | exact hvσ_1 | assumption | fail) (by assumption) (by omega)) lX0_onlyWays mX11_260 (Nat.lt_of_lt_of_le (by decide) (Nat.le_refl _)) (by decide) rfl rfl rfl dX11_needed_39 ?_
    exact g_iret h hQ dX11_needed_42 (congrArg (fun z => some (Value.int z)) (show (an (ns μ i) (alo μ (toN i) (μ (48 + toN i)) (bhd μ (toN i)))) = (alo μ (toN i) (μ (48 + (toN i))) (bhd μ (toN i))) by first | exact an_yes (by exact hS0) (by first | rfl | (simp [an, c9]; done) | (simp [an, c9]; rfl)) | exact an_no (k := (ns μ i)) (by first | rfl | (simp [fo, rg, ns, nB, ps, gst, ofS, offB, c9]; done) | (simp [fo, rg, ns, nB, ps, gst, ofS, offB, c9]; omega)) (by first | decide | omega | assumption | exact nb1 (by assumption)) | fail)) (by exact ⟨(by first | exact tk_eq (k := (ns μ i)) (by first | rfl | (simp [fo, rg, ns, nB, ps, gst, ofS, offB, c9]; done) | (simp [fo, rg, ns, nB, ps, gst, ofS, offB, c9]; omega)) ht14000_σ_1 | exact tk_eq (k := (ns μ i)) (by exact hS0) ht14000_σ_1 | fail), (by exact hcFR_σ_1)⟩)
  ·
    refine g_iconstv h dX11_needed_12 (v := (-1)) (by decide) ?_
    exact g_iret h hQ dX11_needed_13 (congrArg (fun z => some (Value.int z)) (show (an (ns μ i) (alo μ (toN i) (μ (48 + toN i)) (bhd μ (toN i)))) = (-1) by first | exact an_yes (by exact hS0) (by first | rfl | (simp [an, c9]; done) | (simp [an, c9]; rfl)) | exact an_no (k := (ns μ i)) (by first | rfl | (simp [fo, rg, ns, nB, ps, gst, ofS, offB, c9]; done) | (simp [fo, rg, ns, nB, ps, gst, ofS, offB, c9]; omega)) (by first | decide | omega | assumption | exact nb1 (by assumption)) | fail)) (by exact ⟨(by first | exact tk_eq (k := (ns μ i)) (by first | rfl | (simp [fo, rg, ns, nB, ps, gst, ofS, offB, c9]; done) | (simp [fo, rg, ns, nB, ps, gst, ofS, offB, c9]; omega)) ht14000_σ_1 | exact tk_eq (k := (ns μ i)) (by exact hS0) ht14000_σ_1 | fail), (by exact hcFR_σ_1)⟩)
theorem fr_N1 {x : Int32} {n : Nat} (hn : n < 2 ^ 31) (h : (decide (nI 1 ≤ x) && decide (x ≤ nI n)) = true) : x = nI (toN x) ∧ toN x ≤ n := by
  refine fr_N hn ?_
  simp only [Bool.and_eq_true, decide_eq_true_eq] at h ⊢
  refine ⟨Int32.le_trans ?_ h.1, h.2⟩
  decide
theorem rg_N1 {x : Int32} {n : Nat} (hn : n < 2 ^ 31) (h : rg x (nI 1) (nI n) = 0) : x = nI (toN x) ∧ toN x ≤ n := by
  unfold rg at h
  split at h
  · rename_i c; exact fr_N1 hn c
  · cases h
theorem sb8_nI : ∀ b, b < 256 → sb 8 (nI b) := fun b hb k hk => by
  by_cases c : k < 32
  · have key : ∀ b, b < 256 → ∀ k, k < 32 → 8 ≤ k → tb (nI b) k = false := by decide +kernel
    exact key b hb k c hk
  · exact tb_big (by omega)
theorem lst_ex {μ : Nat → Int32} {i : Nat} (hI : MI μ) : ∃ b, b < 256 ∧ lst μ i = nI b := by
  obtain ⟨wn, hwn, ew⟩ := s8_ex (sb_wil (i := i) hI)
  obtain ⟨b, hb, _⟩ := lsO_min hwn (srv_wil ew)
  refine ⟨b, lsO_lt hb, ?_⟩
  unfold lst
  rw [hb]
  rfl
theorem sb_lst {μ : Nat → Int32} {i : Nat} (hI : MI μ) : sb 8 (lst μ i) := by
  obtain ⟨b, hb, e⟩ := lst_ex (i := i) hI
  rw [e]
  exact sb8_nI b hb
def wasS (μ : Nat → Int32) : Nat → Int32
  | 0 => nI 0
  | n + 1 => if tb (μ 1) n = true then wasS μ n + (nI (pc (μ (48 + n))) - nI (pc (lst μ n))) else wasS μ n
theorem ne_of_bb {p q : Bool} (h : (p != q) = true) : ¬ p = q := by simpa using h
theorem bt1_pow {n : Nat} (h : n ≤ 8) : bt1 n = nI (2 ^ n) := by
  have key : ∀ n, n ≤ 8 → bt1 n = nI (2 ^ n) := by decide
  exact key n h
set_option maxRecDepth 100000 in
set_option maxHeartbeats 4000000 in
theorem p_waste {l : Launch} {w : Wd} (hW : Wi w) {σ : Mem} (μ : Nat → Int32) (hv : vw (vb 0) σ = μ) (hI : MI μ) : MC l w qX11_waste 4 [.ref (w.1 0)] σ (some (.int (an (0) (wasS μ (nN μ))))) (fun σ' => (σ' 14000 = (nI 0)) ∧ (∀ a, (a < 14900 ∧ a ≠ 14000) → σ' a = σ a)) := by
  refine MC.of hW (by decide +kernel) (Nat.le_of_ble_eq_true rfl) (fun X h hQ hnm => ?_)
  have h : Fx X w cX11_waste 3 RX11 4 := h
  have hQ : Qx X w (some .int) (some (.int (an (0) (wasS μ (nN μ))))) (fun σ' => (σ' 14000 = (nI 0)) ∧ (∀ a, (a < 14900 ∧ a ≠ 14000) → σ' a = σ a)) := hQ
  have hN8 := mi_8 hI
  have hcFR_σ : ∀ a, (a < 14900 ∧ a ≠ 14000) → σ a = σ a := fun _ _ => rfl
  show G X w 3 0 [(0, .ref (w.1 0))] [] σ
  refine g_aload_n h dX11_waste_0 0 rfl ?_
  refine g_iconst h dX11_waste_1 (by decide) ?_
  refine g_puti h dX11_waste_2 pX11_92 sc_0 rfl ?_
  refine g_nm (fun σ_1 eσ_1 => ?_)
  have eσ_1 : σ_1 = upd σ 14000 (nI 0) := eσ_1
  have ht14000_σ_1 : σ_1 14000 = (nI 0) := by rw [eσ_1]; exact upd_eq
  have hcFR_σ_1 : ∀ a, (a < 14900 ∧ a ≠ 14000) → σ_1 a = σ a := by intro a ha; exact Eq.trans (b := σ a) (by rw [eσ_1, upd_ne (by first | omega | (simp only [vb] at *; omega))]) (hcFR_σ a ha)
  have hvσ_1 : vw (vb 0) σ_1 = μ := by rw [eσ_1, vw_out (by first | omega | (simp only [vb] at *; omega))]; first | exact hv | assumption
  refine g_iconst h dX11_waste_5 (by decide) ?_
  refine g_istore_n (L' := [(0, .ref (w.1 0)), (1, .int (nI 0))]) h dX11_waste_6 rfl (by decide) rfl ?_
  refine g_iconst h dX11_waste_7 (by decide) ?_
  refine g_istore_n (L' := [(0, .ref (w.1 0)), (1, .int (nI 0)), (2, .int (nI 0))]) h dX11_waste_8 rfl (by decide) rfl ?_
  have lp9 : ∀ (k9 : Nat) (s : Int32) (i : Nat), (s = wasS μ i) → (i ≤ nN μ) → nN μ - i < k9 → G X w 3 9 [(0, .ref (w.1 0)), (1, .int s), (2, .int (nI i))] [] σ_1 := by
    intro k9
    induction k9 with
    | zero => intro s i hs hi hm9; exact absurd hm9 (Nat.not_lt_zero _)
    | succ k9 ih9 =>
      intro s i hs hi hm9
      refine g_iload_n h dX11_waste_9 2 rfl ?_
      refine g_aload_n h dX11_waste_10 0 rfl ?_
      refine g_getr h dX11_waste_11 gX11_23 sc_0 rfl ?_
      refine g_geti h dX11_waste_14 gX11_120 (sM_0 (m := 0) (by decide)) rfl ?_
      refine g_top (y := μ 0) (vw_pic (b := (vb 0)) (k := 0) (by first | exact hvσ_1 | assumption) (by omega)) ?_
      refine g_top (y := nI (nN μ)) (mi_0 (by assumption)) ?_
      refine g_icmpN_ge h dX11_waste_17 (by omega) (by omega) (fun c17 => ?_) (fun c17 => ?_)
      ·
        refine g_iload_n h dX11_waste_67 1 rfl ?_
        exact g_iret h hQ dX11_waste_68 (congrArg (fun z => some (Value.int z)) (show (an (0) (wasS μ (nN μ))) = s by first | exact an_yes (by first | rfl | (simp [fo, rg, ns, nB, ps, gst, ofS, offB, c17]; done) | (simp [fo, rg, ns, nB, ps, gst, ofS, offB, c17]; omega)) (by rw [hs, show i = nN μ from by omega]) | exact an_no (k := 0) (by first | rfl | (simp [fo, rg, ns, nB, ps, gst, ofS, offB, c17]; done) | (simp [fo, rg, ns, nB, ps, gst, ofS, offB, c17]; omega)) (by first | decide | omega | assumption | exact nb1 (by assumption)) | fail)) (by exact ⟨(by first | exact tk_eq (k := 0) (by first | rfl | (simp [fo, rg, ns, nB, ps, gst, ofS, offB, c17]; done) | (simp [fo, rg, ns, nB, ps, gst, ofS, offB, c17]; omega)) ht14000_σ_1 | exact tk_eq (k := 0) (by first | rfl | (simp [fo, rg, ns, nB, ps, gst, ofS, offB, c17]; done) | (simp [fo, rg, ns, nB, ps, gst, ofS, offB, c17]; omega)) ht14000_σ_1 | fail), (by exact hcFR_σ_1)⟩)
      ·
        refine g_aload_n h dX11_waste_20 0 rfl ?_
        refine g_getr h dX11_waste_21 gX11_23 sc_0 rfl ?_
        refine g_iload_n h dX11_waste_24 2 rfl ?_
        refine g_cvpi (rest := []) h (c_isOnJ hW i 0 μ (by first | omega | decide | fail) (by first | exact hvσ_1 | assumption | fail) (by assumption) (by omega)) lX5_isOn mX11_167 (Nat.lt_of_lt_of_le (by decide) (Nat.le_refl _)) (by decide) (sM_0 (m := 0) (by decide)) rfl rfl rfl rfl dX11_waste_25 ?_
        refine g_ifB_eq h dX11_waste_28 (fun c28 => ?_) (fun c28 => ?_)
        ·
          refine g_iincN (b := 1) (L' := [(0, .ref (w.1 0)), (1, .int s), (2, .int (nI (i + 1)))]) h dX11_waste_61 2 rfl rfl (by decide) (by decide) rfl ?_
          refine g_goto h dX11_waste_64 ?_
          exact ih9 s (i + 1) (by simp [wasS, ← hs, c17, c28]) (by omega) (by omega)
        ·
          refine g_iload_n h dX11_waste_31 1 rfl ?_
          refine g_aload_n h dX11_waste_32 0 rfl ?_
          refine g_getr h dX11_waste_33 gX11_23 sc_0 rfl ?_
          refine g_getr h dX11_waste_36 gX11_181 (sM_0 (m := 0) (by decide)) rfl ?_
          refine g_getr h dX11_waste_39 gX11_197 (sM_4 (m := 0) (by decide)) rfl ?_
          refine g_iload_n h dX11_waste_42 2 rfl ?_
          refine g_iald h dX11_waste_43 (sM_10 (m := 0) (by decide)) (by omega) ?_
          refine g_top (y := μ (48 + i)) (vw_pic (b := (vb 0)) (k := 48 + i) (by first | exact hvσ_1 | assumption) (by omega)) ?_
          refine g_cspi (rest := [.int s]) h (j_bc hW (μ (48 + i)) (by exact ms_rel hI (by omega))) lJ6_bitCount_0f7a4 mX11_264 (Nat.lt_of_lt_of_le (by decide) (Nat.le_refl _)) (by decide) rfl rfl rfl dX11_waste_44 ?_
          have p9_44 := pc_le (μ (48 + i))
          refine g_aload_n h dX11_waste_47 0 rfl ?_
          refine g_getr h dX11_waste_48 gX11_23 sc_0 rfl ?_
          refine g_iload_n h dX11_waste_51 2 rfl ?_
          refine g_cspi (rest := [.int (nI (pc (μ (48 + i)))), .int s]) h (c_fewest hW i 0 μ (by first | omega | decide | fail) (by first | exact hvσ_1 | assumption | fail) (by assumption) (by omega)) lX0_fewest mX11_250 (Nat.lt_of_lt_of_le (by decide) (Nat.le_refl _)) (by decide) rfl rfl rfl dX11_waste_52 ?_
          refine g_cspi (rest := [.int (nI (pc (μ (48 + i)))), .int s]) h (j_bc hW (lst μ i) (by exact sb_lst hI)) lJ6_bitCount_0f7a4 mX11_264 (Nat.lt_of_lt_of_le (by decide) (Nat.le_refl _)) (by decide) rfl rfl rfl dX11_waste_55 ?_
          have p9_55 := pc_le (lst μ i)
          refine g_isub h dX11_waste_58  ?_
          refine g_iadd h dX11_waste_59  ?_
          refine g_istore_n (L' := [(0, .ref (w.1 0)), (1, .int (s + ((nI (pc (μ (48 + i)))) - (nI (pc (lst μ i)))))), (2, .int (nI i))]) h dX11_waste_60 rfl (by decide) rfl ?_
          refine g_iincN (b := 1) (L' := [(0, .ref (w.1 0)), (1, .int (s + ((nI (pc (μ (48 + i)))) - (nI (pc (lst μ i)))))), (2, .int (nI (i + 1)))]) h dX11_waste_61 2 rfl rfl (by decide) (by decide) rfl ?_
          refine g_goto h dX11_waste_64 ?_
          exact ih9 (s + ((nI (pc (μ (48 + i)))) - (nI (pc (lst μ i))))) (i + 1) (by simp [wasS, ← hs, c17, c28]) (by omega) (by omega)
  exact lp9 (_) (nI 0) 0 (by rfl) (by omega) (Nat.lt_succ_self _)

set_option maxRecDepth 100000 in
set_option maxHeartbeats 4000000 in
theorem p_status {l : Launch} {w : Wd} (hW : Wi w) {σ : Mem} (z : Int32) (ht14000_σ : σ 14000 = z) : MC l w qX11_status 0 [.ref (w.1 0)] σ (some (.int z)) (fun σ' => σ' = σ) := by
  refine MC.of hW (by decide +kernel) (Nat.le_of_ble_eq_true rfl) (fun X h hQ hnm => ?_)
  have h : Fx X w cX11_status 1 RX11 0 := h
  have hQ : Qx X w (some .int) (some (.int z)) (fun σ' => σ' = σ) := hQ
  show G X w 1 0 [(0, .ref (w.1 0))] [] σ
  refine g_aload_n h dX11_status_0 0 rfl ?_
  refine g_geti h dX11_status_1 gX11_92 sc_0 rfl ?_
  refine g_top (y := z) (by first | exact ht14000_σ | assumption) ?_
  exact g_iret h hQ dX11_status_4 rfl rfl
