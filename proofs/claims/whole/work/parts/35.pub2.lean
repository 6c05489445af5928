/-! what calls answer: nodes, links, topologies -/
theorem an_no {s k : Nat} {v : Int32} (h : s = k) (hk : k ≠ 0) : an s v = -1 := by
  unfold an
  rw [if_neg (by omega)]
theorem an_yes {s : Nat} {v c : Int32} (h : s = 0) (hv : v = c) : an s v = c := by
  unfold an
  rw [if_pos h, hv]
theorem tk_eq {x : Int32} {s k : Nat} (h : s = k) (hx : x = nI k) : x = nI s := by rw [hx, h]
def v_node (μ : Nat → Int32) (i wt : Nat) : Int32 := if wt = 0 then b2i (tb (μ 1) i) else if wt = 1 then μ (16 + i) else if wt = 2 then μ (32 + i) else if wt = 3 then μ (56 + i) else if wt = 4 then μ (64 + i) else if wt = 5 then bhd μ i else if wt = 6 then μ (48 + i) else if wt = 7 then μ (72 + i) else if wt = 8 then μ (40 + i) else μ (24 + i)
def v_link (μ : Nat → Int32) (i j wt : Nat) : Int32 := if wt = 0 then μ (80 + (8 * i + j)) else if wt = 1 then b2i (tb (μ (56 + i)) j) else if wt = 2 then b2i (tb (μ (64 + i)) j) else if wt = 3 then μ (144 + (8 * i + j)) else if wt = 4 then b2i (tb (μ (72 + i)) j) else μ (208 + (8 * j + i))

set_option maxRecDepth 100000 in
set_option maxHeartbeats 4000000 in
theorem q_node {l : Launch} {w : Wd} (hW : Wi w) {σ : Mem} (i : Int32) (wt : Int32)  (μ : Nat → Int32) (hv : vw 0 σ = μ) (hI : MI μ) : MC l w qX12_node 3 [.ref (w.1 0), .int i, .int wt] σ (some (.int (an (fo (rg wt (nI 0) (nI 9)) (ns μ i)) (v_node μ (toN i) (toN wt))))) (fun σ' => (σ' 4000 = (nI (fo (rg wt (nI 0) (nI 9)) (ns μ i)))) ∧ (∀ a, ((a < 4900 ∨ 6000 ≤ a) ∧ a ≠ 4000) → σ' a = σ a)) := by
  refine MC.of hW (by decide +kernel) (Nat.le_of_ble_eq_true rfl) (fun X h hQ hnm => ?_)
  have h : Fx X w cX12_node 3 RX12 3 := h
  have hQ : Qx X w (some .int) (some (.int (an (fo (rg wt (nI 0) (nI 9)) (ns μ i)) (v_node μ (toN i) (toN wt))))) (fun σ' => (σ' 4000 = (nI (fo (rg wt (nI 0) (nI 9)) (ns μ i)))) ∧ (∀ a, ((a < 4900 ∨ 6000 ≤ a) ∧ a ≠ 4000) → σ' a = σ a)) := hQ
  have hN8 := mi_8 hI
  have hcFR_σ : ∀ a, ((a < 4900 ∨ 6000 ≤ a) ∧ a ≠ 4000) → σ a = σ a := fun _ _ => rfl
  show G X w 3 0 [(0, .ref (w.1 0)), (1, .int i), (2, .int wt)] [] σ
  refine g_iload_n h dX12_node_0 2 rfl ?_
  refine g_iconst h dX12_node_1 (by decide) ?_
  refine g_bipush h dX12_node_2 (by decide) ?_
  refine g_cspi (rest := []) h (r_isFrom hW wt (nI 0) (nI 9) ) lX12_isFrom mX12_134 (Nat.lt_of_lt_of_le (by decide) (Nat.le_refl _)) (by decide) rfl rfl rfl dX12_node_4 ?_
  refine g_ifB_ne h dX12_node_7 (fun c7 => ?_) (fun c7 => ?_)
  ·
    refine g_aload_n h dX12_node_16 0 rfl ?_
    refine g_iload_n h dX12_node_17 1 rfl ?_
    refine g_cvpi (rest := []) h (r_isNode hW i μ (by first | exact hv | assumption | fail)) lX12_isNode mX12_287 (Nat.lt_of_lt_of_le (by decide) (Nat.le_refl _)) (by decide) sc_0 rfl rfl rfl rfl dX12_node_18 ?_
    refine g_ifB_ne h dX12_node_21 (fun c21 => ?_) (fun c21 => ?_)
    ·
      obtain ⟨ew, hw9⟩ := fr_N (by decide) c7
      obtain ⟨ei, hi9⟩ := nB_N hI (show nB μ i = true from c21)
      rw [ei, ew]
      show G X w 3 30 [(0, .ref (w.1 0)), (1, .int (nI (toN i))), (2, .int (nI (toN wt)))] [] σ
      refine g_iload_n h dX12_node_30 2 rfl ?_
      rcases (show toN wt = 0 ∨ toN wt = 1 ∨ toN wt = 2 ∨ toN wt = 3 ∨ toN wt = 4 ∨ toN wt = 5 ∨ toN wt = 6 ∨ toN wt = 7 ∨ toN wt = 8 ∨ toN wt = 9 by omega) with hc31 | hc31 | hc31 | hc31 | hc31 | hc31 | hc31 | hc31 | hc31 | hc31
      ·
        refine g_tsw (off := 49) (tgt := 80) h dX12_node_31 (nI 0) (by rw [hc31]) (by decide) (by decide) (by decide +kernel) (by decide) ?_
        refine g_aload_n h dX12_node_80 0 rfl ?_
        refine g_aload_n h dX12_node_81 0 rfl ?_
        refine g_iload_n h dX12_node_82 1 rfl ?_
        refine g_cvpi (rest := [.ref (w.1 0)]) h (r_isOn hW (toN i) μ (by assumption) (by omega)) lX12_isOn mX12_114 (Nat.lt_of_lt_of_le (by decide) (Nat.le_refl _)) (by decide) sc_0 rfl rfl rfl rfl dX12_node_83 ?_
        refine g_ifB_eq h dX12_node_86 (fun c86 => ?_) (fun c86 => ?_)
        ·
          refine g_iconst h dX12_node_93 (by decide) ?_
          refine g_cvi (rest := []) h (r_gives hW (nI 0) ) lX12_gives mX12_281 (Nat.lt_of_lt_of_le (by decide) (Nat.le_refl _)) (by decide) sc_0 rfl rfl rfl rfl dX12_node_94 (fun σ_1 eσ_1 => ?_)
          have eσ_1_a : σ_1 = upd σ 4000 (nI 0) := eσ_1
          have ht4000_σ_1 : σ_1 4000 = (nI 0) := by rw [eσ_1_a]; exact upd_eq
          have hcFR_σ_1 : ∀ a, ((a < 4900 ∨ 6000 ≤ a) ∧ a ≠ 4000) → σ_1 a = σ a := by intro a ha; exact Eq.trans (b := σ a) (by rw [eσ_1_a, upd_ne (by first | omega | (simp only [vb] at *; omega))]) (hcFR_σ a ha)
          have hvσ_1 : vw 0 σ_1 = μ := by rw [eσ_1_a, vw_out (by omega)]; first | exact hv | assumption
          exact g_iret h hQ dX12_node_97 (congrArg (fun z => some (Value.int z)) (show (an (fo (rg wt (nI 0) (nI 9)) (ns μ i)) (v_node μ (toN i) (toN wt))) = (nI 0) by first | exact an_yes (by first | rfl | (simp [fo, rg, ns, nB, ps, gst, ofS, offB, c7, c21, hc31, c86]; done) | (simp [fo, rg, ns, nB, ps, gst, ofS, offB, c7, c21, hc31, c86]; omega)) (by first | rfl | (simp [v_node, c7, c21, hc31, c86]; done) | (simp [v_node, c7, c21, hc31, c86]; rfl)) | exact an_no (k := 0) (by first | rfl | (simp [fo, rg, ns, nB, ps, gst, ofS, offB, c7, c21, hc31, c86]; done) | (simp [fo, rg, ns, nB, ps, gst, ofS, offB, c7, c21, hc31, c86]; omega)) (by first | decide | omega | assumption | exact nb1 (by assumption)) | fail)) (by exact ⟨(by first | exact tk_eq (k := 0) (by first | rfl | (simp [fo, rg, ns, nB, ps, gst, ofS, offB, c7, c21, hc31, c86]; done) | (simp [fo, rg, ns, nB, ps, gst, ofS, offB, c7, c21, hc31, c86]; omega)) ht4000_σ_1 | exact tk_eq (k := 0) (by first | rfl | (simp [fo, rg, ns, nB, ps, gst, ofS, offB, c7, c21, hc31, c86]; done) | (simp [fo, rg, ns, nB, ps, gst, ofS, offB, c7, c21, hc31, c86]; omega)) ht4000_σ_1 | fail), (by exact hcFR_σ_1)⟩)
        ·
          refine g_iconst h dX12_node_89 (by decide) ?_
          refine g_goto h dX12_node_90 ?_
          refine g_cvi (rest := []) h (r_gives hW (nI 1) ) lX12_gives mX12_281 (Nat.lt_of_lt_of_le (by decide) (Nat.le_refl _)) (by decide) sc_0 rfl rfl rfl rfl dX12_node_94 (fun σ_2 eσ_2 => ?_)
          have eσ_2_a : σ_2 = upd σ 4000 (nI 0) := eσ_2
          have ht4000_σ_2 : σ_2 4000 = (nI 0) := by rw [eσ_2_a]; exact upd_eq
          have hcFR_σ_2 : ∀ a, ((a < 4900 ∨ 6000 ≤ a) ∧ a ≠ 4000) → σ_2 a = σ a := by intro a ha; exact Eq.trans (b := σ a) (by rw [eσ_2_a, upd_ne (by first | omega | (simp only [vb] at *; omega))]) (hcFR_σ a ha)
          have hvσ_2 : vw 0 σ_2 = μ := by rw [eσ_2_a, vw_out (by omega)]; first | exact hv | assumption
          exact g_iret h hQ dX12_node_97 (congrArg (fun z => some (Value.int z)) (show (an (fo (rg wt (nI 0) (nI 9)) (ns μ i)) (v_node μ (toN i) (toN wt))) = (nI 1) by first | exact an_yes (by first | rfl | (simp [fo, rg, ns, nB, ps, gst, ofS, offB, c7, c21, hc31, c86]; done) | (simp [fo, rg, ns, nB, ps, gst, ofS, offB, c7, c21, hc31, c86]; omega)) (by first | rfl | (simp [v_node, c7, c21, hc31, c86]; done) | (simp [v_node, c7, c21, hc31, c86]; rfl)) | exact an_no (k := 0) (by first | rfl | (simp [fo, rg, ns, nB, ps, gst, ofS, offB, c7, c21, hc31, c86]; done) | (simp [fo, rg, ns, nB, ps, gst, ofS, offB, c7, c21, hc31, c86]; omega)) (by first | decide | omega | assumption | exact nb1 (by assumption)) | fail)) (by exact ⟨(by first | exact tk_eq (k := 0) (by first | rfl | (simp [fo, rg, ns, nB, ps, gst, ofS, offB, c7, c21, hc31, c86]; done) | (simp [fo, rg, ns, nB, ps, gst, ofS, offB, c7, c21, hc31, c86]; omega)) ht4000_σ_2 | exact tk_eq (k := 0) (by first | rfl | (simp [fo, rg, ns, nB, ps, gst, ofS, offB, c7, c21, hc31, c86]; done) | (simp [fo, rg, ns, nB, ps, gst, ofS, offB, c7, c21, hc31, c86]; omega)) ht4000_σ_2 | fail), (by exact hcFR_σ_2)⟩)
      ·
        refine g_tsw (off := 67) (tgt := 98) h dX12_node_31 (nI 1) (by rw [hc31]) (by decide) (by decide) (by decide +kernel) (by decide) ?_
        refine g_aload_n h dX12_node_98 0 rfl ?_
        refine g_aload_n h dX12_node_99 0 rfl ?_
        refine g_bipush h dX12_node_100 (by decide) ?_
        refine g_iload_n h dX12_node_102 1 rfl ?_
        refine g_iaddN h dX12_node_103  ?_
        refine g_cvpi (rest := [.ref (w.1 0)]) h (r_of hW (16 + toN i) μ (by assumption) (by omega)) lX12_of mX12_61 (Nat.lt_of_lt_of_le (by decide) (Nat.le_refl _)) (by decide) sc_0 rfl rfl rfl rfl dX12_node_104 ?_
        refine g_cvi (rest := []) h (r_gives hW (μ (16 + toN i)) ) lX12_gives mX12_281 (Nat.lt_of_lt_of_le (by decide) (Nat.le_refl _)) (by decide) sc_0 rfl rfl rfl rfl dX12_node_107 (fun σ_3 eσ_3 => ?_)
        have eσ_3_a : σ_3 = upd σ 4000 (nI 0) := eσ_3
        have ht4000_σ_3 : σ_3 4000 = (nI 0) := by rw [eσ_3_a]; exact upd_eq
        have hcFR_σ_3 : ∀ a, ((a < 4900 ∨ 6000 ≤ a) ∧ a ≠ 4000) → σ_3 a = σ a := by intro a ha; exact Eq.trans (b := σ a) (by rw [eσ_3_a, upd_ne (by first | omega | (simp only [vb] at *; omega))]) (hcFR_σ a ha)
        have hvσ_3 : vw 0 σ_3 = μ := by rw [eσ_3_a, vw_out (by omega)]; first | exact hv | assumption
        exact g_iret h hQ dX12_node_110 (congrArg (fun z => some (Value.int z)) (show (an (fo (rg wt (nI 0) (nI 9)) (ns μ i)) (v_node μ (toN i) (toN wt))) = (μ (16 + toN i)) by first | exact an_yes (by first | rfl | (simp [fo, rg, ns, nB, ps, gst, ofS, offB, c7, c21, hc31]; done) | (simp [fo, rg, ns, nB, ps, gst, ofS, offB, c7, c21, hc31]; omega)) (by first | rfl | (simp [v_node, c7, c21, hc31]; done) | (simp [v_node, c7, c21, hc31]; rfl)) | exact an_no (k := 0) (by first | rfl | (simp [fo, rg, ns, nB, ps, gst, ofS, offB, c7, c21, hc31]; done) | (simp [fo, rg, ns, nB, ps, gst, ofS, offB, c7, c21, hc31]; omega)) (by first | decide | omega | assumption | exact nb1 (by assumption)) | fail)) (by exact ⟨(by first | exact tk_eq (k := 0) (by first | rfl | (simp [fo, rg, ns, nB, ps, gst, ofS, offB, c7, c21, hc31]; done) | (simp [fo, rg, ns, nB, ps, gst, ofS, offB, c7, c21, hc31]; omega)) ht4000_σ_3 | exact tk_eq (k := 0) (by first | rfl | (simp [fo, rg, ns, nB, ps, gst, ofS, offB, c7, c21, hc31]; done) | (simp [fo, rg, ns, nB, ps, gst, ofS, offB, c7, c21, hc31]; omega)) ht4000_σ_3 | fail), (by exact hcFR_σ_3)⟩)
      ·
        refine g_tsw (off := 80) (tgt := 111) h dX12_node_31 (nI 2) (by rw [hc31]) (by decide) (by decide) (by decide +kernel) (by decide) ?_
        refine g_aload_n h dX12_node_111 0 rfl ?_
        refine g_aload_n h dX12_node_112 0 rfl ?_
        refine g_bipush h dX12_node_113 (by decide) ?_
        refine g_iload_n h dX12_node_115 1 rfl ?_
        refine g_iaddN h dX12_node_116  ?_
        refine g_cvpi (rest := [.ref (w.1 0)]) h (r_of hW (32 + toN i) μ (by assumption) (by omega)) lX12_of mX12_61 (Nat.lt_of_lt_of_le (by decide) (Nat.le_refl _)) (by decide) sc_0 rfl rfl rfl rfl dX12_node_117 ?_
        refine g_cvi (rest := []) h (r_gives hW (μ (32 + toN i)) ) lX12_gives mX12_281 (Nat.lt_of_lt_of_le (by decide) (Nat.le_refl _)) (by decide) sc_0 rfl rfl rfl rfl dX12_node_120 (fun σ_4 eσ_4 => ?_)
        have eσ_4_a : σ_4 = upd σ 4000 (nI 0) := eσ_4
        have ht4000_σ_4 : σ_4 4000 = (nI 0) := by rw [eσ_4_a]; exact upd_eq
        have hcFR_σ_4 : ∀ a, ((a < 4900 ∨ 6000 ≤ a) ∧ a ≠ 4000) → σ_4 a = σ a := by intro a ha; exact Eq.trans (b := σ a) (by rw [eσ_4_a, upd_ne (by first | omega | (simp only [vb] at *; omega))]) (hcFR_σ a ha)
        have hvσ_4 : vw 0 σ_4 = μ := by rw [eσ_4_a, vw_out (by omega)]; first | exact hv | assumption
        exact g_iret h hQ dX12_node_123 (congrArg (fun z => some (Value.int z)) (show (an (fo (rg wt (nI 0) (nI 9)) (ns μ i)) (v_node μ (toN i) (toN wt))) = (μ (32 + toN i)) by first | exact an_yes (by first | rfl | (simp [fo, rg, ns, nB, ps, gst, ofS, offB, c7, c21, hc31]; done) | (simp [fo, rg, ns, nB, ps, gst, ofS, offB, c7, c21, hc31]; omega)) (by first | rfl | (simp [v_node, c7, c21, hc31]; done) | (simp [v_node, c7, c21, hc31]; rfl)) | exact an_no (k := 0) (by first | rfl | (simp [fo, rg, ns, nB, ps, gst, ofS, offB, c7, c21, hc31]; done) | (simp [fo, rg, ns, nB, ps, gst, ofS, offB, c7, c21, hc31]; omega)) (by first | decide | omega | assumption | exact nb1 (by assumption)) | fail)) (by exact ⟨(by first | exact tk_eq (k := 0) (by first | rfl | (simp [fo, rg, ns, nB, ps, gst, ofS, offB, c7, c21, hc31]; done) | (simp [fo, rg, ns, nB, ps, gst, ofS, offB, c7, c21, hc31]; omega)) ht4000_σ_4 | exact tk_eq (k := 0) (by first | rfl | (simp [fo, rg, ns, nB, ps, gst, ofS, offB, c7, c21, hc31]; done) | (simp [fo, rg, ns, nB, ps, gst, ofS, offB, c7, c21, hc31]; omega)) ht4000_σ_4 | fail), (by exact hcFR_σ_4)⟩)
      ·
        refine g_tsw (off := 93) (tgt := 124) h dX12_node_31 (nI 3) (by rw [hc31]) (by decide) (by decide) (by decide +kernel) (by decide) ?_
        refine g_aload_n h dX12_node_124 0 rfl ?_
        refine g_aload_n h dX12_node_125 0 rfl ?_
        refine g_bipush h dX12_node_126 (by decide) ?_
        refine g_iload_n h dX12_node_128 1 rfl ?_
        refine g_iaddN h dX12_node_129  ?_
        refine g_cvpi (rest := [.ref (w.1 0)]) h (r_of hW (56 + toN i) μ (by assumption) (by omega)) lX12_of mX12_61 (Nat.lt_of_lt_of_le (by decide) (Nat.le_refl _)) (by decide) sc_0 rfl rfl rfl rfl dX12_node_130 ?_
        refine g_cvi (rest := []) h (r_gives hW (μ (56 + toN i)) ) lX12_gives mX12_281 (Nat.lt_of_lt_of_le (by decide) (Nat.le_refl _)) (by decide) sc_0 rfl rfl rfl rfl dX12_node_133 (fun σ_5 eσ_5 => ?_)
        have eσ_5_a : σ_5 = upd σ 4000 (nI 0) := eσ_5
        have ht4000_σ_5 : σ_5 4000 = (nI 0) := by rw [eσ_5_a]; exact upd_eq
        have hcFR_σ_5 : ∀ a, ((a < 4900 ∨ 6000 ≤ a) ∧ a ≠ 4000) → σ_5 a = σ a := by intro a ha; exact Eq.trans (b := σ a) (by rw [eσ_5_a, upd_ne (by first | omega | (simp only [vb] at *; omega))]) (hcFR_σ a ha)
        have hvσ_5 : vw 0 σ_5 = μ := by rw [eσ_5_a, vw_out (by omega)]; first | exact hv | assumption
        exact g_iret h hQ dX12_node_136 (congrArg (fun z => some (Value.int z)) (show (an (fo (rg wt (nI 0) (nI 9)) (ns μ i)) (v_node μ (toN i) (toN wt))) = (μ (56 + toN i)) by first | exact an_yes (by first | rfl | (simp [fo, rg, ns, nB, ps, gst, ofS, offB, c7, c21, hc31]; done) | (simp [fo, rg, ns, nB, ps, gst, ofS, offB, c7, c21, hc31]; omega)) (by first | rfl | (simp [v_node, c7, c21, hc31]; done) | (simp [v_node, c7, c21, hc31]; rfl)) | exact an_no (k := 0) (by first | rfl | (simp [fo, rg, ns, nB, ps, gst, ofS, offB, c7, c21, hc31]; done) | (simp [fo, rg, ns, nB, ps, gst, ofS, offB, c7, c21, hc31]; omega)) (by first | decide | omega | assumption | exact nb1 (by assumption)) | fail)) (by exact ⟨(by first | exact tk_eq (k := 0) (by first | rfl | (simp [fo, rg, ns, nB, ps, gst, ofS, offB, c7, c21, hc31]; done) | (simp [fo, rg, ns, nB, ps, gst, ofS, offB, c7, c21, hc31]; omega)) ht4000_σ_5 | exact tk_eq (k := 0) (by first | rfl | (simp [fo, rg, ns, nB, ps, gst, ofS, offB, c7, c21, hc31]; done) | (simp [fo, rg, ns, nB, ps, gst, ofS, offB, c7, c21, hc31]; omega)) ht4000_σ_5 | fail), (by exact hcFR_σ_5)⟩)
      ·
        refine g_tsw (off := 106) (tgt := 137) h dX12_node_31 (nI 4) (by rw [hc31]) (by decide) (by decide) (by decide +kernel) (by decide) ?_
        refine g_aload_n h dX12_node_137 0 rfl ?_
        refine g_aload_n h dX12_node_138 0 rfl ?_
        refine g_bipush h dX12_node_139 (by decide) ?_
        refine g_iload_n h dX12_node_141 1 rfl ?_
        refine g_iaddN h dX12_node_142  ?_
        refine g_cvpi (rest := [.ref (w.1 0)]) h (r_of hW (64 + toN i) μ (by assumption) (by omega)) lX12_of mX12_61 (Nat.lt_of_lt_of_le (by decide) (Nat.le_refl _)) (by decide) sc_0 rfl rfl rfl rfl dX12_node_143 ?_
        refine g_cvi (rest := []) h (r_gives hW (μ (64 + toN i)) ) lX12_gives mX12_281 (Nat.lt_of_lt_of_le (by decide) (Nat.le_refl _)) (by decide) sc_0 rfl rfl rfl rfl dX12_node_146 (fun σ_6 eσ_6 => ?_)
        have eσ_6_a : σ_6 = upd σ 4000 (nI 0) := eσ_6
        have ht4000_σ_6 : σ_6 4000 = (nI 0) := by rw [eσ_6_a]; exact upd_eq
        have hcFR_σ_6 : ∀ a, ((a < 4900 ∨ 6000 ≤ a) ∧ a ≠ 4000) → σ_6 a = σ a := by intro a ha; exact Eq.trans (b := σ a) (by rw [eσ_6_a, upd_ne (by first | omega | (simp only [vb] at *; omega))]) (hcFR_σ a ha)
        have hvσ_6 : vw 0 σ_6 = μ := by rw [eσ_6_a, vw_out (by omega)]; first | exact hv | assumption
        exact g_iret h hQ dX12_node_149 (congrArg (fun z => some (Value.int z)) (show (an (fo (rg wt (nI 0) (nI 9)) (ns μ i)) (v_node μ (toN i) (toN wt))) = (μ (64 + toN i)) by first | exact an_yes (by first | rfl | (simp [fo, rg, ns, nB, ps, gst, ofS, offB, c7, c21, hc31]; done) | (simp [fo, rg, ns, nB, ps, gst, ofS, offB, c7, c21, hc31]; omega)) (by first | rfl | (simp [v_node, c7, c21, hc31]; done) | (simp [v_node, c7, c21, hc31]; rfl)) | exact an_no (k := 0) (by first | rfl | (simp [fo, rg, ns, nB, ps, gst, ofS, offB, c7, c21, hc31]; done) | (simp [fo, rg, ns, nB, ps, gst, ofS, offB, c7, c21, hc31]; omega)) (by first | decide | omega | assumption | exact nb1 (by assumption)) | fail)) (by exact ⟨(by first | exact tk_eq (k := 0) (by first | rfl | (simp [fo, rg, ns, nB, ps, gst, ofS, offB, c7, c21, hc31]; done) | (simp [fo, rg, ns, nB, ps, gst, ofS, offB, c7, c21, hc31]; omega)) ht4000_σ_6 | exact tk_eq (k := 0) (by first | rfl | (simp [fo, rg, ns, nB, ps, gst, ofS, offB, c7, c21, hc31]; done) | (simp [fo, rg, ns, nB, ps, gst, ofS, offB, c7, c21, hc31]; omega)) ht4000_σ_6 | fail), (by exact hcFR_σ_6)⟩)
      ·
        refine g_tsw (off := 119) (tgt := 150) h dX12_node_31 (nI 5) (by rw [hc31]) (by decide) (by decide) (by decide +kernel) (by decide) ?_
        refine g_aload_n h dX12_node_150 0 rfl ?_
        refine g_aload_n h dX12_node_151 0 rfl ?_
        refine g_iload_n h dX12_node_152 1 rfl ?_
        refine g_cvpi (rest := [.ref (w.1 0)]) h (r_behind hW (toN i) μ (by first | exact hv | assumption | fail) (by assumption) (by omega)) lX12_behind mX12_80 (Nat.lt_of_lt_of_le (by decide) (Nat.le_refl _)) (by decide) sc_0 rfl rfl rfl rfl dX12_node_153 ?_
        refine g_cvi (rest := []) h (r_gives hW (bhd μ (toN i)) ) lX12_gives mX12_281 (Nat.lt_of_lt_of_le (by decide) (Nat.le_refl _)) (by decide) sc_0 rfl rfl rfl rfl dX12_node_156 (fun σ_7 eσ_7 => ?_)
        have eσ_7_a : σ_7 = upd σ 4000 (nI 0) := eσ_7
        have ht4000_σ_7 : σ_7 4000 = (nI 0) := by rw [eσ_7_a]; exact upd_eq
        have hcFR_σ_7 : ∀ a, ((a < 4900 ∨ 6000 ≤ a) ∧ a ≠ 4000) → σ_7 a = σ a := by intro a ha; exact Eq.trans (b := σ a) (by rw [eσ_7_a, upd_ne (by first | omega | (simp only [vb] at *; omega))]) (hcFR_σ a ha)
        have hvσ_7 : vw 0 σ_7 = μ := by rw [eσ_7_a, vw_out (by omega)]; first | exact hv | assumption
        exact g_iret h hQ dX12_node_159 (congrArg (fun z => some (Value.int z)) (show (an (fo (rg wt (nI 0) (nI 9)) (ns μ i)) (v_node μ (toN i) (toN wt))) = (bhd μ (toN i)) by first | exact an_yes (by first | rfl | (simp [fo, rg, ns, nB, ps, gst, ofS, offB, c7, c21, hc31]; done) | (simp [fo, rg, ns, nB, ps, gst, ofS, offB, c7, c21, hc31]; omega)) (by first | rfl | (simp [v_node, c7, c21, hc31]; done) | (simp [v_node, c7, c21, hc31]; rfl)) | exact an_no (k := 0) (by first | rfl | (simp [fo, rg, ns, nB, ps, gst, ofS, offB, c7, c21, hc31]; done) | (simp [fo, rg, ns, nB, ps, gst, ofS, offB, c7, c21, hc31]; omega)) (by first | decide | omega | assumption | exact nb1 (by assumption)) | fail)) (by exact ⟨(by first | exact tk_eq (k := 0) (by first | rfl | (simp [fo, rg, ns, nB, ps, gst, ofS, offB, c7, c21, hc31]; done) | (simp [fo, rg, ns, nB, ps, gst, ofS, offB, c7, c21, hc31]; omega)) ht4000_σ_7 | exact tk_eq (k := 0) (by first | rfl | (simp [fo, rg, ns, nB, ps, gst, ofS, offB, c7, c21, hc31]; done) | (simp [fo, rg, ns, nB, ps, gst, ofS, offB, c7, c21, hc31]; omega)) ht4000_σ_7 | fail), (by exact hcFR_σ_7)⟩)
      ·
        refine g_tsw (off := 129) (tgt := 160) h dX12_node_31 (nI 6) (by rw [hc31]) (by decide) (by decide) (by decide +kernel) (by decide) ?_
        refine g_aload_n h dX12_node_160 0 rfl ?_
        refine g_aload_n h dX12_node_161 0 rfl ?_
        refine g_bipush h dX12_node_162 (by decide) ?_
        refine g_iload_n h dX12_node_164 1 rfl ?_
        refine g_iaddN h dX12_node_165  ?_
        refine g_cvpi (rest := [.ref (w.1 0)]) h (r_of hW (48 + toN i) μ (by assumption) (by omega)) lX12_of mX12_61 (Nat.lt_of_lt_of_le (by decide) (Nat.le_refl _)) (by decide) sc_0 rfl rfl rfl rfl dX12_node_166 ?_
        refine g_cvi (rest := []) h (r_gives hW (μ (48 + toN i)) ) lX12_gives mX12_281 (Nat.lt_of_lt_of_le (by decide) (Nat.le_refl _)) (by decide) sc_0 rfl rfl rfl rfl dX12_node_169 (fun σ_8 eσ_8 => ?_)
        have eσ_8_a : σ_8 = upd σ 4000 (nI 0) := eσ_8
        have ht4000_σ_8 : σ_8 4000 = (nI 0) := by rw [eσ_8_a]; exact upd_eq
        have hcFR_σ_8 : ∀ a, ((a < 4900 ∨ 6000 ≤ a) ∧ a ≠ 4000) → σ_8 a = σ a := by intro a ha; exact Eq.trans (b := σ a) (by rw [eσ_8_a, upd_ne (by first | omega | (simp only [vb] at *; omega))]) (hcFR_σ a ha)
        have hvσ_8 : vw 0 σ_8 = μ := by rw [eσ_8_a, vw_out (by omega)]; first | exact hv | assumption
        exact g_iret h hQ dX12_node_172 (congrArg (fun z => some (Value.int z)) (show (an (fo (rg wt (nI 0) (nI 9)) (ns μ i)) (v_node μ (toN i) (toN wt))) = (μ (48 + toN i)) by first | exact an_yes (by first | rfl | (simp [fo, rg, ns, nB, ps, gst, ofS, offB, c7, c21, hc31]; done) | (simp [fo, rg, ns, nB, ps, gst, ofS, offB, c7, c21, hc31]; omega)) (by first | rfl | (simp [v_node, c7, c21, hc31]; done) | (simp [v_node, c7, c21, hc31]; rfl)) | exact an_no (k := 0) (by first | rfl | (simp [fo, rg, ns, nB, ps, gst, ofS, offB, c7, c21, hc31]; done) | (simp [fo, rg, ns, nB, ps, gst, ofS, offB, c7, c21, hc31]; omega)) (by first | decide | omega | assumption | exact nb1 (by assumption)) | fail)) (by exact ⟨(by first | exact tk_eq (k := 0) (by first | rfl | (simp [fo, rg, ns, nB, ps, gst, ofS, offB, c7, c21, hc31]; done) | (simp [fo, rg, ns, nB, ps, gst, ofS, offB, c7, c21, hc31]; omega)) ht4000_σ_8 | exact tk_eq (k := 0) (by first | rfl | (simp [fo, rg, ns, nB, ps, gst, ofS, offB, c7, c21, hc31]; done) | (simp [fo, rg, ns, nB, ps, gst, ofS, offB, c7, c21, hc31]; omega)) ht4000_σ_8 | fail), (by exact hcFR_σ_8)⟩)
      ·
        refine g_tsw (off := 142) (tgt := 173) h dX12_node_31 (nI 7) (by rw [hc31]) (by decide) (by decide) (by decide +kernel) (by decide) ?_
        refine g_aload_n h dX12_node_173 0 rfl ?_
        refine g_aload_n h dX12_node_174 0 rfl ?_
        refine g_bipush h dX12_node_175 (by decide) ?_
        refine g_iload_n h dX12_node_177 1 rfl ?_
        refine g_iaddN h dX12_node_178  ?_
        refine g_cvpi (rest := [.ref (w.1 0)]) h (r_of hW (72 + toN i) μ (by assumption) (by omega)) lX12_of mX12_61 (Nat.lt_of_lt_of_le (by decide) (Nat.le_refl _)) (by decide) sc_0 rfl rfl rfl rfl dX12_node_179 ?_
        refine g_cvi (rest := []) h (r_gives hW (μ (72 + toN i)) ) lX12_gives mX12_281 (Nat.lt_of_lt_of_le (by decide) (Nat.le_refl _)) (by decide) sc_0 rfl rfl rfl rfl dX12_node_182 (fun σ_9 eσ_9 => ?_)
        have eσ_9_a : σ_9 = upd σ 4000 (nI 0) := eσ_9
        have ht4000_σ_9 : σ_9 4000 = (nI 0) := by rw [eσ_9_a]; exact upd_eq
        have hcFR_σ_9 : ∀ a, ((a < 4900 ∨ 6000 ≤ a) ∧ a ≠ 4000) → σ_9 a = σ a := by intro a ha; exact Eq.trans (b := σ a) (by rw [eσ_9_a, upd_ne (by first | omega | (simp only [vb] at *; omega))]) (hcFR_σ a ha)
        have hvσ_9 : vw 0 σ_9 = μ := by rw [eσ_9_a, vw_out (by omega)]; first | exact hv | assumption
        exact g_iret h hQ dX12_node_185 (congrArg (fun z => some (Value.int z)) (show (an (fo (rg wt (nI 0) (nI 9)) (ns μ i)) (v_node μ (toN i) (toN wt))) = (μ (72 + toN i)) by first | exact an_yes (by first | rfl | (simp [fo, rg, ns, nB, ps, gst, ofS, offB, c7, c21, hc31]; done) | (simp [fo, rg, ns, nB, ps, gst, ofS, offB, c7, c21, hc31]; omega)) (by first | rfl | (simp [v_node, c7, c21, hc31]; done) | (simp [v_node, c7, c21, hc31]; rfl)) | exact an_no (k := 0) (by first | rfl | (simp [fo, rg, ns, nB, ps, gst, ofS, offB, c7, c21, hc31]; done) | (simp [fo, rg, ns, nB, ps, gst, ofS, offB, c7, c21, hc31]; omega)) (by first | decide | omega | assumption | exact nb1 (by assumption)) | fail)) (by exact ⟨(by first | exact tk_eq (k := 0) (by first | rfl | (simp [fo, rg, ns, nB, ps, gst, ofS, offB, c7, c21, hc31]; done) | (simp [fo, rg, ns, nB, ps, gst, ofS, offB, c7, c21, hc31]; omega)) ht4000_σ_9 | exact tk_eq (k := 0) (by first | rfl | (simp [fo, rg, ns, nB, ps, gst, ofS, offB, c7, c21, hc31]; done) | (simp [fo, rg, ns, nB, ps, gst, ofS, offB, c7, c21, hc31]; omega)) ht4000_σ_9 | fail), (by exact hcFR_σ_9)⟩)
      ·
        refine g_tsw (off := 155) (tgt := 186) h dX12_node_31 (nI 8) (by rw [hc31]) (by decide) (by decide) (by decide +kernel) (by decide) ?_
        refine g_aload_n h dX12_node_186 0 rfl ?_
        refine g_aload_n h dX12_node_187 0 rfl ?_
        refine g_bipush h dX12_node_188 (by decide) ?_
        refine g_iload_n h dX12_node_190 1 rfl ?_
        refine g_iaddN h dX12_node_191  ?_
        refine g_cvpi (rest := [.ref (w.1 0)]) h (r_of hW (40 + toN i) μ (by assumption) (by omega)) lX12_of mX12_61 (Nat.lt_of_lt_of_le (by decide) (Nat.le_refl _)) (by decide) sc_0 rfl rfl rfl rfl dX12_node_192 ?_
        refine g_cvi (rest := []) h (r_gives hW (μ (40 + toN i)) ) lX12_gives mX12_281 (Nat.lt_of_lt_of_le (by decide) (Nat.le_refl _)) (by decide) sc_0 rfl rfl rfl rfl dX12_node_195 (fun σ_10 eσ_10 => ?_)
        have eσ_10_a : σ_10 = upd σ 4000 (nI 0) := eσ_10
        have ht4000_σ_10 : σ_10 4000 = (nI 0) := by rw [eσ_10_a]; exact upd_eq
        have hcFR_σ_10 : ∀ a, ((a < 4900 ∨ 6000 ≤ a) ∧ a ≠ 4000) → σ_10 a = σ a := by intro a ha; exact Eq.trans (b := σ a) (by rw [eσ_10_a, upd_ne (by first | omega | (simp only [vb] at *; omega))]) (hcFR_σ a ha)
        have hvσ_10 : vw 0 σ_10 = μ := by rw [eσ_10_a, vw_out (by omega)]; first | exact hv | assumption
        exact g_iret h hQ dX12_node_198 (congrArg (fun z => some (Value.int z)) (show (an (fo (rg wt (nI 0) (nI 9)) (ns μ i)) (v_node μ (toN i) (toN wt))) = (μ (40 + toN i)) by first | exact an_yes (by first | rfl | (simp [fo, rg, ns, nB, ps, gst, ofS, offB, c7, c21, hc31]; done) | (simp [fo, rg, ns, nB, ps, gst, ofS, offB, c7, c21, hc31]; omega)) (by first | rfl | (simp [v_node, c7, c21, hc31]; done) | (simp [v_node, c7, c21, hc31]; rfl)) | exact an_no (k := 0) (by first | rfl | (simp [fo, rg, ns, nB, ps, gst, ofS, offB, c7, c21, hc31]; done) | (simp [fo, rg, ns, nB, ps, gst, ofS, offB, c7, c21, hc31]; omega)) (by first | decide | omega | assumption | exact nb1 (by assumption)) | fail)) (by exact ⟨(by first | exact tk_eq (k := 0) (by first | rfl | (simp [fo, rg, ns, nB, ps, gst, ofS, offB, c7, c21, hc31]; done) | (simp [fo, rg, ns, nB, ps, gst, ofS, offB, c7, c21, hc31]; omega)) ht4000_σ_10 | exact tk_eq (k := 0) (by first | rfl | (simp [fo, rg, ns, nB, ps, gst, ofS, offB, c7, c21, hc31]; done) | (simp [fo, rg, ns, nB, ps, gst, ofS, offB, c7, c21, hc31]; omega)) ht4000_σ_10 | fail), (by exact hcFR_σ_10)⟩)
      ·
        refine g_tswOut (tgt := 199) h dX12_node_31 (by rw [hc31]; decide) (by decide) ?_
        refine g_aload_n h dX12_node_199 0 rfl ?_
        refine g_aload_n h dX12_node_200 0 rfl ?_
        refine g_bipush h dX12_node_201 (by decide) ?_
        refine g_iload_n h dX12_node_203 1 rfl ?_
        refine g_iaddN h dX12_node_204  ?_
        refine g_cvpi (rest := [.ref (w.1 0)]) h (r_of hW (24 + toN i) μ (by assumption) (by omega)) lX12_of mX12_61 (Nat.lt_of_lt_of_le (by decide) (Nat.le_refl _)) (by decide) sc_0 rfl rfl rfl rfl dX12_node_205 ?_
        refine g_cvi (rest := []) h (r_gives hW (μ (24 + toN i)) ) lX12_gives mX12_281 (Nat.lt_of_lt_of_le (by decide) (Nat.le_refl _)) (by decide) sc_0 rfl rfl rfl rfl dX12_node_208 (fun σ_11 eσ_11 => ?_)
        have eσ_11_a : σ_11 = upd σ 4000 (nI 0) := eσ_11
        have ht4000_σ_11 : σ_11 4000 = (nI 0) := by rw [eσ_11_a]; exact upd_eq
        have hcFR_σ_11 : ∀ a, ((a < 4900 ∨ 6000 ≤ a) ∧ a ≠ 4000) → σ_11 a = σ a := by intro a ha; exact Eq.trans (b := σ a) (by rw [eσ_11_a, upd_ne (by first | omega | (simp only [vb] at *; omega))]) (hcFR_σ a ha)
        have hvσ_11 : vw 0 σ_11 = μ := by rw [eσ_11_a, vw_out (by omega)]; first | exact hv | assumption
        exact g_iret h hQ dX12_node_211 (congrArg (fun z => some (Value.int z)) (show (an (fo (rg wt (nI 0) (nI 9)) (ns μ i)) (v_node μ (toN i) (toN wt))) = (μ (24 + toN i)) by first | exact an_yes (by first | rfl | (simp [fo, rg, ns, nB, ps, gst, ofS, offB, c7, c21, hc31]; done) | (simp [fo, rg, ns, nB, ps, gst, ofS, offB, c7, c21, hc31]; omega)) (by first | rfl | (simp [v_node, c7, c21, hc31]; done) | (simp [v_node, c7, c21, hc31]; rfl)) | exact an_no (k := 0) (by first | rfl | (simp [fo, rg, ns, nB, ps, gst, ofS, offB, c7, c21, hc31]; done) | (simp [fo, rg, ns, nB, ps, gst, ofS, offB, c7, c21, hc31]; omega)) (by first | decide | omega | assumption | exact nb1 (by assumption)) | fail)) (by exact ⟨(by first | exact tk_eq (k := 0) (by first | rfl | (simp [fo, rg, ns, nB, ps, gst, ofS, offB, c7, c21, hc31]; done) | (simp [fo, rg, ns, nB, ps, gst, ofS, offB, c7, c21, hc31]; omega)) ht4000_σ_11 | exact tk_eq (k := 0) (by first | rfl | (simp [fo, rg, ns, nB, ps, gst, ofS, offB, c7, c21, hc31]; done) | (simp [fo, rg, ns, nB, ps, gst, ofS, offB, c7, c21, hc31]; omega)) ht4000_σ_11 | fail), (by exact hcFR_σ_11)⟩)
    ·
      refine g_aload_n h dX12_node_24 0 rfl ?_
      refine g_iconst h dX12_node_25 (by decide) ?_
      refine g_cvi (rest := []) h (r_refuse hW (nI 2) ) lX12_refuse mX12_272 (Nat.lt_of_lt_of_le (by decide) (Nat.le_refl _)) (by decide) sc_0 rfl rfl rfl rfl dX12_node_26 (fun σ_12 eσ_12 => ?_)
      have eσ_12_a : σ_12 = upd σ 4000 (nI 2) := eσ_12
      have ht4000_σ_12 : σ_12 4000 = (nI 2) := by rw [eσ_12_a]; exact upd_eq
      have hcFR_σ_12 : ∀ a, ((a < 4900 ∨ 6000 ≤ a) ∧ a ≠ 4000) → σ_12 a = σ a := by intro a ha; exact Eq.trans (b := σ a) (by rw [eσ_12_a, upd_ne (by first | omega | (simp only [vb] at *; omega))]) (hcFR_σ a ha)
      have hvσ_12 : vw 0 σ_12 = μ := by rw [eσ_12_a, vw_out (by omega)]; first | exact hv | assumption
      exact g_iret h hQ dX12_node_29 (congrArg (fun z => some (Value.int z)) (show (an (fo (rg wt (nI 0) (nI 9)) (ns μ i)) (v_node μ (toN i) (toN wt))) = (-1) by first | exact an_yes (by first | rfl | (simp [fo, rg, ns, nB, ps, gst, ofS, offB, c7, c21]; done) | (simp [fo, rg, ns, nB, ps, gst, ofS, offB, c7, c21]; omega)) (by first | rfl | (simp [v_node, c7, c21]; done) | (simp [v_node, c7, c21]; rfl)) | exact an_no (k := 2) (by first | rfl | (simp [fo, rg, ns, nB, ps, gst, ofS, offB, c7, c21]; done) | (simp [fo, rg, ns, nB, ps, gst, ofS, offB, c7, c21]; omega)) (by first | decide | omega | assumption | exact nb1 (by assumption)) | fail)) (by exact ⟨(by first | exact tk_eq (k := 2) (by first | rfl | (simp [fo, rg, ns, nB, ps, gst, ofS, offB, c7, c21]; done) | (simp [fo, rg, ns, nB, ps, gst, ofS, offB, c7, c21]; omega)) ht4000_σ_12 | exact tk_eq (k := 2) (by first | rfl | (simp [fo, rg, ns, nB, ps, gst, ofS, offB, c7, c21]; done) | (simp [fo, rg, ns, nB, ps, gst, ofS, offB, c7, c21]; omega)) ht4000_σ_12 | fail), (by exact hcFR_σ_12)⟩)
  ·
    refine g_aload_n h dX12_node_10 0 rfl ?_
    refine g_iconst h dX12_node_11 (by decide) ?_
    refine g_cvi (rest := []) h (r_refuse hW (nI 1) ) lX12_refuse mX12_272 (Nat.lt_of_lt_of_le (by decide) (Nat.le_refl _)) (by decide) sc_0 rfl rfl rfl rfl dX12_node_12 (fun σ_13 eσ_13 => ?_)
    have eσ_13_a : σ_13 = upd σ 4000 (nI 1) := eσ_13
    have ht4000_σ_13 : σ_13 4000 = (nI 1) := by rw [eσ_13_a]; exact upd_eq
    have hcFR_σ_13 : ∀ a, ((a < 4900 ∨ 6000 ≤ a) ∧ a ≠ 4000) → σ_13 a = σ a := by intro a ha; exact Eq.trans (b := σ a) (by rw [eσ_13_a, upd_ne (by first | omega | (simp only [vb] at *; omega))]) (hcFR_σ a ha)
    have hvσ_13 : vw 0 σ_13 = μ := by rw [eσ_13_a, vw_out (by omega)]; first | exact hv | assumption
    exact g_iret h hQ dX12_node_15 (congrArg (fun z => some (Value.int z)) (show (an (fo (rg wt (nI 0) (nI 9)) (ns μ i)) (v_node μ (toN i) (toN wt))) = (-1) by first | exact an_yes (by first | rfl | (simp [fo, rg, ns, nB, ps, gst, ofS, offB, c7]; done) | (simp [fo, rg, ns, nB, ps, gst, ofS, offB, c7]; omega)) (by first | rfl | (simp [v_node, c7]; done) | (simp [v_node, c7]; rfl)) | exact an_no (k := 1) (by first | rfl | (simp [fo, rg, ns, nB, ps, gst, ofS, offB, c7]; done) | (simp [fo, rg, ns, nB, ps, gst, ofS, offB, c7]; omega)) (by first | decide | omega | assumption | exact nb1 (by assumption)) | fail)) (by exact ⟨(by first | exact tk_eq (k := 1) (by first | rfl | (simp [fo, rg, ns, nB, ps, gst, ofS, offB, c7]; done) | (simp [fo, rg, ns, nB, ps, gst, ofS, offB, c7]; omega)) ht4000_σ_13 | exact tk_eq (k := 1) (by first | rfl | (simp [fo, rg, ns, nB, ps, gst, ofS, offB, c7]; done) | (simp [fo, rg, ns, nB, ps, gst, ofS, offB, c7]; omega)) ht4000_σ_13 | fail), (by exact hcFR_σ_13)⟩)

set_option maxRecDepth 100000 in
set_option maxHeartbeats 4000000 in
theorem p_node {l : Launch} {w : Wd} (hW : Wi w) {σ : Mem} (i : Int32) (wt : Int32)  (μ : Nat → Int32) (hv : vw (vb 0) σ = μ) (hI : MI μ) : MC l w qX11_node 3 [.ref (w.1 12), .int i, .int wt] σ (some (.int (an (fo (rg wt (nI 0) (nI 9)) (ns μ i)) (v_node μ (toN i) (toN wt))))) (fun σ' => (σ' 14000 = (nI (fo (rg wt (nI 0) (nI 9)) (ns μ i)))) ∧ (∀ a, (a < 14900 ∧ a ≠ 14000) → σ' a = σ a)) := by
  refine MC.of hW (by decide +kernel) (Nat.le_of_ble_eq_true rfl) (fun X h hQ hnm => ?_)
  have h : Fx X w cX11_node 3 RX11 3 := h
  have hQ : Qx X w (some .int) (some (.int (an (fo (rg wt (nI 0) (nI 9)) (ns μ i)) (v_node μ (toN i) (toN wt))))) (fun σ' => (σ' 14000 = (nI (fo (rg wt (nI 0) (nI 9)) (ns μ i)))) ∧ (∀ a, (a < 14900 ∧ a ≠ 14000) → σ' a = σ a)) := hQ
  have hN8 := mi_8 hI
  have hcFR_σ : ∀ a, (a < 14900 ∧ a ≠ 14000) → σ a = σ a := fun _ _ => rfl
  show G X w 3 0 [(0, .ref (w.1 12)), (1, .int i), (2, .int wt)] [] σ
  refine g_aload_n h dX11_node_0 0 rfl ?_
  refine g_iload_n h dX11_node_1 2 rfl ?_
  refine g_iconst h dX11_node_2 (by decide) ?_
  refine g_bipush h dX11_node_3 (by decide) ?_
  refine g_cspi (rest := [.ref (w.1 12)]) h (c_rg hW wt (nI 0) (nI 9) ) lX11_rangeStatus mX11_102 (Nat.lt_of_lt_of_le (by decide) (Nat.le_refl _)) (by decide) rfl rfl rfl dX11_node_5 ?_
  refine g_aload_n h dX11_node_8 0 rfl ?_
  refine g_iload_n h dX11_node_9 1 rfl ?_
  refine g_cvpi (rest := [.int (nI (rg wt (nI 0) (nI 9))), .ref (w.1 12)]) h (c_ns hW i μ (by first | exact hv | assumption | fail)) lX11_nodeStatus mX11_159 (Nat.lt_of_lt_of_le (by decide) (Nat.le_refl _)) (by decide) sc_12 rfl rfl rfl rfl dX11_node_10 ?_
  refine g_cspi (rest := [.ref (w.1 12)]) h (c_fo hW (rg wt (nI 0) (nI 9)) (ns μ i) (by repeat (first | omega | exact rg_lt | exact ns_lt | exact ps_lt | exact gst_lt | exact ofS_lt | exact if_lt (by decide) (by decide) | apply fo_lt)) (by repeat (first | omega | exact rg_lt | exact ns_lt | exact ps_lt | exact gst_lt | exact ofS_lt | exact if_lt (by decide) (by decide) | apply fo_lt))) lX11_firstOf mX11_163 (Nat.lt_of_lt_of_le (by decide) (Nat.le_refl _)) (by decide) rfl rfl rfl dX11_node_13 ?_
  refine g_cvi (rest := []) h (c_fails hW (fo (rg wt (nI 0) (nI 9)) (ns μ i)) (by repeat (first | omega | exact rg_lt | exact ns_lt | exact ps_lt | exact gst_lt | exact ofS_lt | exact if_lt (by decide) (by decide) | apply fo_lt))) lX11_fails mX11_106 (Nat.lt_of_lt_of_le (by decide) (Nat.le_refl _)) (by decide) sc_12 rfl rfl rfl rfl dX11_node_16 (fun σ_1 eσ_1 => ?_)
  obtain ⟨eσ_1_a, eσ_1_b⟩ := eσ_1
  have eσ_1_a : σ_1 14000 = (nI (fo (rg wt (nI 0) (nI 9)) (ns μ i))) := eσ_1_a
  have eσ_1_b : ∀ a, (a ≠ 14000) → σ_1 a = σ a := eσ_1_b
  have ht14000_σ_1 : σ_1 14000 = (nI (fo (rg wt (nI 0) (nI 9)) (ns μ i))) := eσ_1_a
  have hcFR_σ_1 : ∀ a, (a < 14900 ∧ a ≠ 14000) → σ_1 a = σ a := by intro a ha; exact Eq.trans (b := σ a) (eσ_1_b a (by first | omega | (simp only [vb] at *; omega))) (hcFR_σ a ha)
  have hvσ_1 : vw (vb 0) σ_1 = μ := by rw [vw_fr (σ := σ) (fun j _ _ => eσ_1_b _ (by first | omega | (simp only [vb] at *; omega)))]; first | exact hv | assumption
  refine g_ifB_eq h dX11_node_19 (fun c19 => ?_) (fun c19 => ?_)
  ·
    have hS0 := nb0 c19
    obtain ⟨hs1, hs2⟩ := fo_0 hS0
    obtain ⟨ew, hw9⟩ := rg_N (by decide) hs1
    obtain ⟨ei, hi9⟩ := nB_N hI (ns_0 hs2)
    rw [ei, ew]
    show G X w 3 24 [(0, .ref (w.1 12)), (1, .int (nI (toN i))), (2, .int (nI (toN wt)))] [] σ_1
    refine g_iload_n h dX11_node_24 2 rfl ?_
    rcases (show toN wt = 0 ∨ toN wt = 1 ∨ toN wt = 2 ∨ toN wt = 3 ∨ toN wt = 4 ∨ toN wt = 5 ∨ toN wt = 6 ∨ toN wt = 7 ∨ toN wt = 8 ∨ toN wt = 9 by omega) with hc25 | hc25 | hc25 | hc25 | hc25 | hc25 | hc25 | hc25 | hc25 | hc25
    ·
      refine g_tsw (off := 51) (tgt := 76) h dX11_node_25 (nI 0) (by rw [hc25]) (by decide) (by decide) (by decide +kernel) (by decide) ?_
      refine g_aload_n h dX11_node_76 0 rfl ?_
      refine g_getr h dX11_node_77 gX11_23 sc_12 rfl ?_
      refine g_iload_n h dX11_node_80 1 rfl ?_
      refine g_cvpi (rest := []) h (c_isOnJ hW (toN i) 0 μ (by first | omega | decide | fail) (by first | exact hvσ_1 | assumption | fail) (by assumption) (by omega)) lX5_isOn mX11_167 (Nat.lt_of_lt_of_le (by decide) (Nat.le_refl _)) (by decide) (sM_0 (m := 0) (by decide)) rfl rfl rfl rfl dX11_node_81 ?_
      refine g_cspi (rest := []) h (c_asN hW (tb (μ 1) (toN i)) ) lX11_asNumber mX11_170 (Nat.lt_of_lt_of_le (by decide) (Nat.le_refl _)) (by decide) rfl rfl rfl dX11_node_84 ?_
      exact g_iret h hQ dX11_node_87 (congrArg (fun z => some (Value.int z)) (show (an (fo (rg wt (nI 0) (nI 9)) (ns μ i)) (v_node μ (toN i) (toN wt))) = (b2i (tb (μ 1) (toN i))) by first | exact an_yes (by exact hS0) (by first | rfl | (simp [v_node, c19, hc25]; done) | (simp [v_node, c19, hc25]; rfl)) | exact an_no (k := (fo (rg wt (nI 0) (nI 9)) (ns μ i))) (by first | rfl | (simp [fo, rg, ns, nB, ps, gst, ofS, offB, c19, hc25]; done) | (simp [fo, rg, ns, nB, ps, gst, ofS, offB, c19, hc25]; omega)) (by first | decide | omega | assumption | exact nb1 (by assumption)) | fail)) (by exact ⟨(by first | exact tk_eq (k := (fo (rg wt (nI 0) (nI 9)) (ns μ i))) (by first | rfl | (simp [fo, rg, ns, nB, ps, gst, ofS, offB, c19, hc25]; done) | (simp [fo, rg, ns, nB, ps, gst, ofS, offB, c19, hc25]; omega)) ht14000_σ_1 | exact tk_eq (k := (fo (rg wt (nI 0) (nI 9)) (ns μ i))) (by exact hS0) ht14000_σ_1 | fail), (by exact hcFR_σ_1)⟩)
    ·
      refine g_tsw (off := 63) (tgt := 88) h dX11_node_25 (nI 1) (by rw [hc25]) (by decide) (by decide) (by decide +kernel) (by decide) ?_
      refine g_aload_n h dX11_node_88 0 rfl ?_
      refine g_getr h dX11_node_89 gX11_23 sc_12 rfl ?_
      refine g_getr h dX11_node_92 gX11_174 (sM_0 (m := 0) (by decide)) rfl ?_
      refine g_iload_n h dX11_node_95 1 rfl ?_
      refine g_iald h dX11_node_96 (sM_1 (m := 0) (by decide)) (by omega) ?_
      refine g_top (y := μ (16 + (toN i))) (vw_pic (b := (vb 0)) (k := 16 + (toN i)) (by first | exact hvσ_1 | assumption) (by omega)) ?_
      exact g_iret h hQ dX11_node_97 (congrArg (fun z => some (Value.int z)) (show (an (fo (rg wt (nI 0) (nI 9)) (ns μ i)) (v_node μ (toN i) (toN wt))) = (μ (16 + (toN i))) by first | exact an_yes (by exact hS0) (by first | rfl | (simp [v_node, c19, hc25]; done) | (simp [v_node, c19, hc25]; rfl)) | exact an_no (k := (fo (rg wt (nI 0) (nI 9)) (ns μ i))) (by first | rfl | (simp [fo, rg, ns, nB, ps, gst, ofS, offB, c19, hc25]; done) | (simp [fo, rg, ns, nB, ps, gst, ofS, offB, c19, hc25]; omega)) (by first | decide | omega | assumption | exact nb1 (by assumption)) | fail)) (by exact ⟨(by first | exact tk_eq (k := (fo (rg wt (nI 0) (nI 9)) (ns μ i))) (by first | rfl | (simp [fo, rg, ns, nB, ps, gst, ofS, offB, c19, hc25]; done) | (simp [fo, rg, ns, nB, ps, gst, ofS, offB, c19, hc25]; omega)) ht14000_σ_1 | exact tk_eq (k := (fo (rg wt (nI 0) (nI 9)) (ns μ i))) (by exact hS0) ht14000_σ_1 | fail), (by exact hcFR_σ_1)⟩)
    ·
      refine g_tsw (off := 73) (tgt := 98) h dX11_node_25 (nI 2) (by rw [hc25]) (by decide) (by decide) (by decide +kernel) (by decide) ?_
      refine g_aload_n h dX11_node_98 0 rfl ?_
      refine g_getr h dX11_node_99 gX11_23 sc_12 rfl ?_
      refine g_getr h dX11_node_102 gX11_135 (sM_0 (m := 0) (by decide)) rfl ?_
      refine g_getr h dX11_node_105 gX11_178 (sM_11 (m := 0) (by decide)) rfl ?_
      refine g_iload_n h dX11_node_108 1 rfl ?_
      refine g_iald h dX11_node_109 (sM_15 (m := 0) (by decide)) (by omega) ?_
      refine g_top (y := μ (32 + (toN i))) (vw_pic (b := (vb 0)) (k := 32 + (toN i)) (by first | exact hvσ_1 | assumption) (by omega)) ?_
      exact g_iret h hQ dX11_node_110 (congrArg (fun z => some (Value.int z)) (show (an (fo (rg wt (nI 0) (nI 9)) (ns μ i)) (v_node μ (toN i) (toN wt))) = (μ (32 + (toN i))) by first | exact an_yes (by exact hS0) (by first | rfl | (simp [v_node, c19, hc25]; done) | (simp [v_node, c19, hc25]; rfl)) | exact an_no (k := (fo (rg wt (nI 0) (nI 9)) (ns μ i))) (by first | rfl | (simp [fo, rg, ns, nB, ps, gst, ofS, offB, c19, hc25]; done) | (simp [fo, rg, ns, nB, ps, gst, ofS, offB, c19, hc25]; omega)) (by first | decide | omega | assumption | exact nb1 (by assumption)) | fail)) (by exact ⟨(by first | exact tk_eq (k := (fo (rg wt (nI 0) (nI 9)) (ns μ i))) (by first | rfl | (simp [fo, rg, ns, nB, ps, gst, ofS, offB, c19, hc25]; done) | (simp [fo, rg, ns, nB, ps, gst, ofS, offB, c19, hc25]; omega)) ht14000_σ_1 | exact tk_eq (k := (fo (rg wt (nI 0) (nI 9)) (ns μ i))) (by exact hS0) ht14000_σ_1 | fail), (by exact hcFR_σ_1)⟩)
    ·
      refine g_tsw (off := 86) (tgt := 111) h dX11_node_25 (nI 3) (by rw [hc25]) (by decide) (by decide) (by decide +kernel) (by decide) ?_
      refine g_aload_n h dX11_node_111 0 rfl ?_
      refine g_getr h dX11_node_112 gX11_23 sc_12 rfl ?_
      refine g_getr h dX11_node_115 gX11_181 (sM_0 (m := 0) (by decide)) rfl ?_
      refine g_getr h dX11_node_118 gX11_185 (sM_4 (m := 0) (by decide)) rfl ?_
      refine g_iload_n h dX11_node_121 1 rfl ?_
      refine g_iald h dX11_node_122 (sM_7 (m := 0) (by decide)) (by omega) ?_
      refine g_top (y := μ (56 + (toN i))) (vw_pic (b := (vb 0)) (k := 56 + (toN i)) (by first | exact hvσ_1 | assumption) (by omega)) ?_
      exact g_iret h hQ dX11_node_123 (congrArg (fun z => some (Value.int z)) (show (an (fo (rg wt (nI 0) (nI 9)) (ns μ i)) (v_node μ (toN i) (toN wt))) = (μ (56 + (toN i))) by first | exact an_yes (by exact hS0) (by first | rfl | (simp [v_node, c19, hc25]; done) | (simp [v_node, c19, hc25]; rfl)) | exact an_no (k := (fo (rg wt (nI 0) (nI 9)) (ns μ i))) (by first | rfl | (simp [fo, rg, ns, nB, ps, gst, ofS, offB, c19, hc25]; done) | (simp [fo, rg, ns, nB, ps, gst, ofS, offB, c19, hc25]; omega)) (by first | decide | omega | assumption | exact nb1 (by assumption)) | fail)) (by exact ⟨(by first | exact tk_eq (k := (fo (rg wt (nI 0) (nI 9)) (ns μ i))) (by first | rfl | (simp [fo, rg, ns, nB, ps, gst, ofS, offB, c19, hc25]; done) | (simp [fo, rg, ns, nB, ps, gst, ofS, offB, c19, hc25]; omega)) ht14000_σ_1 | exact tk_eq (k := (fo (rg wt (nI 0) (nI 9)) (ns μ i))) (by exact hS0) ht14000_σ_1 | fail), (by exact hcFR_σ_1)⟩)
    ·
      refine g_tsw (off := 99) (tgt := 124) h dX11_node_25 (nI 4) (by rw [hc25]) (by decide) (by decide) (by decide +kernel) (by decide) ?_
      refine g_aload_n h dX11_node_124 0 rfl ?_
      refine g_getr h dX11_node_125 gX11_23 sc_12 rfl ?_
      refine g_getr h dX11_node_128 gX11_181 (sM_0 (m := 0) (by decide)) rfl ?_
      refine g_getr h dX11_node_131 gX11_190 (sM_4 (m := 0) (by decide)) rfl ?_
      refine g_iload_n h dX11_node_134 1 rfl ?_
      refine g_iald h dX11_node_135 (sM_8 (m := 0) (by decide)) (by omega) ?_
      refine g_top (y := μ (64 + (toN i))) (vw_pic (b := (vb 0)) (k := 64 + (toN i)) (by first | exact hvσ_1 | assumption) (by omega)) ?_
      exact g_iret h hQ dX11_node_136 (congrArg (fun z => some (Value.int z)) (show (an (fo (rg wt (nI 0) (nI 9)) (ns μ i)) (v_node μ (toN i) (toN wt))) = (μ (64 + (toN i))) by first | exact an_yes (by exact hS0) (by first | rfl | (simp [v_node, c19, hc25]; done) | (simp [v_node, c19, hc25]; rfl)) | exact an_no (k := (fo (rg wt (nI 0) (nI 9)) (ns μ i))) (by first | rfl | (simp [fo, rg, ns, nB, ps, gst, ofS, offB, c19, hc25]; done) | (simp [fo, rg, ns, nB, ps, gst, ofS, offB, c19, hc25]; omega)) (by first | decide | omega | assumption | exact nb1 (by assumption)) | fail)) (by exact ⟨(by first | exact tk_eq (k := (fo (rg wt (nI 0) (nI 9)) (ns μ i))) (by first | rfl | (simp [fo, rg, ns, nB, ps, gst, ofS, offB, c19, hc25]; done) | (simp [fo, rg, ns, nB, ps, gst, ofS, offB, c19, hc25]; omega)) ht14000_σ_1 | exact tk_eq (k := (fo (rg wt (nI 0) (nI 9)) (ns μ i))) (by exact hS0) ht14000_σ_1 | fail), (by exact hcFR_σ_1)⟩)
    ·
      refine g_tsw (off := 112) (tgt := 137) h dX11_node_25 (nI 5) (by rw [hc25]) (by decide) (by decide) (by decide +kernel) (by decide) ?_
      refine g_aload_n h dX11_node_137 0 rfl ?_
      refine g_getr h dX11_node_138 gX11_23 sc_12 rfl ?_
      refine g_iload_n h dX11_node_141 1 rfl ?_
      refine g_cspi (rest := []) h (c_behind hW (toN i) 0 μ (by first | omega | decide | fail) (by first | exact hvσ_1 | assumption | fail) (by assumption) (by omega)) lX0_behind mX11_193 (Nat.lt_of_lt_of_le (by decide) (Nat.le_refl _)) (by decide) rfl rfl rfl dX11_node_142 ?_
      exact g_iret h hQ dX11_node_145 (congrArg (fun z => some (Value.int z)) (show (an (fo (rg wt (nI 0) (nI 9)) (ns μ i)) (v_node μ (toN i) (toN wt))) = (bhd μ (toN i)) by first | exact an_yes (by exact hS0) (by first | rfl | (simp [v_node, c19, hc25]; done) | (simp [v_node, c19, hc25]; rfl)) | exact an_no (k := (fo (rg wt (nI 0) (nI 9)) (ns μ i))) (by first | rfl | (simp [fo, rg, ns, nB, ps, gst, ofS, offB, c19, hc25]; done) | (simp [fo, rg, ns, nB, ps, gst, ofS, offB, c19, hc25]; omega)) (by first | decide | omega | assumption | exact nb1 (by assumption)) | fail)) (by exact ⟨(by first | exact tk_eq (k := (fo (rg wt (nI 0) (nI 9)) (ns μ i))) (by first | rfl | (simp [fo, rg, ns, nB, ps, gst, ofS, offB, c19, hc25]; done) | (simp [fo, rg, ns, nB, ps, gst, ofS, offB, c19, hc25]; omega)) ht14000_σ_1 | exact tk_eq (k := (fo (rg wt (nI 0) (nI 9)) (ns μ i))) (by exact hS0) ht14000_σ_1 | fail), (by exact hcFR_σ_1)⟩)
    ·
      refine g_tsw (off := 121) (tgt := 146) h dX11_node_25 (nI 6) (by rw [hc25]) (by decide) (by decide) (by decide +kernel) (by decide) ?_
      refine g_aload_n h dX11_node_146 0 rfl ?_
      refine g_getr h dX11_node_147 gX11_23 sc_12 rfl ?_
      refine g_getr h dX11_node_150 gX11_181 (sM_0 (m := 0) (by decide)) rfl ?_
      refine g_getr h dX11_node_153 gX11_197 (sM_4 (m := 0) (by decide)) rfl ?_
      refine g_iload_n h dX11_node_156 1 rfl ?_
      refine g_iald h dX11_node_157 (sM_10 (m := 0) (by decide)) (by omega) ?_
      refine g_top (y := μ (48 + (toN i))) (vw_pic (b := (vb 0)) (k := 48 + (toN i)) (by first | exact hvσ_1 | assumption) (by omega)) ?_
      exact g_iret h hQ dX11_node_158 (congrArg (fun z => some (Value.int z)) (show (an (fo (rg wt (nI 0) (nI 9)) (ns μ i)) (v_node μ (toN i) (toN wt))) = (μ (48 + (toN i))) by first | exact an_yes (by exact hS0) (by first | rfl | (simp [v_node, c19, hc25]; done) | (simp [v_node, c19, hc25]; rfl)) | exact an_no (k := (fo (rg wt (nI 0) (nI 9)) (ns μ i))) (by first | rfl | (simp [fo, rg, ns, nB, ps, gst, ofS, offB, c19, hc25]; done) | (simp [fo, rg, ns, nB, ps, gst, ofS, offB, c19, hc25]; omega)) (by first | decide | omega | assumption | exact nb1 (by assumption)) | fail)) (by exact ⟨(by first | exact tk_eq (k := (fo (rg wt (nI 0) (nI 9)) (ns μ i))) (by first | rfl | (simp [fo, rg, ns, nB, ps, gst, ofS, offB, c19, hc25]; done) | (simp [fo, rg, ns, nB, ps, gst, ofS, offB, c19, hc25]; omega)) ht14000_σ_1 | exact tk_eq (k := (fo (rg wt (nI 0) (nI 9)) (ns μ i))) (by exact hS0) ht14000_σ_1 | fail), (by exact hcFR_σ_1)⟩)
    ·
      refine g_tsw (off := 134) (tgt := 159) h dX11_node_25 (nI 7) (by rw [hc25]) (by decide) (by decide) (by decide +kernel) (by decide) ?_
      refine g_aload_n h dX11_node_159 0 rfl ?_
      refine g_getr h dX11_node_160 gX11_23 sc_12 rfl ?_
      refine g_getr h dX11_node_163 gX11_181 (sM_0 (m := 0) (by decide)) rfl ?_
      refine g_getr h dX11_node_166 gX11_200 (sM_4 (m := 0) (by decide)) rfl ?_
      refine g_iload_n h dX11_node_169 1 rfl ?_
      refine g_iald h dX11_node_170 (sM_9 (m := 0) (by decide)) (by omega) ?_
      refine g_top (y := μ (72 + (toN i))) (vw_pic (b := (vb 0)) (k := 72 + (toN i)) (by first | exact hvσ_1 | assumption) (by omega)) ?_
      exact g_iret h hQ dX11_node_171 (congrArg (fun z => some (Value.int z)) (show (an (fo (rg wt (nI 0) (nI 9)) (ns μ i)) (v_node μ (toN i) (toN wt))) = (μ (72 + (toN i))) by first | exact an_yes (by exact hS0) (by first | rfl | (simp [v_node, c19, hc25]; done) | (simp [v_node, c19, hc25]; rfl)) | exact an_no (k := (fo (rg wt (nI 0) (nI 9)) (ns μ i))) (by first | rfl | (simp [fo, rg, ns, nB, ps, gst, ofS, offB, c19, hc25]; done) | (simp [fo, rg, ns, nB, ps, gst, ofS, offB, c19, hc25]; omega)) (by first | decide | omega | assumption | exact nb1 (by assumption)) | fail)) (by exact ⟨(by first | exact tk_eq (k := (fo (rg wt (nI 0) (nI 9)) (ns μ i))) (by first | rfl | (simp [fo, rg, ns, nB, ps, gst, ofS, offB, c19, hc25]; done) | (simp [fo, rg, ns, nB, ps, gst, ofS, offB, c19, hc25]; omega)) ht14000_σ_1 | exact tk_eq (k := (fo (rg wt (nI 0) (nI 9)) (ns μ i))) (by exact hS0) ht14000_σ_1 | fail), (by exact hcFR_σ_1)⟩)
    ·
      refine g_tsw (off := 147) (tgt := 172) h dX11_node_25 (nI 8) (by rw [hc25]) (by decide) (by decide) (by decide +kernel) (by decide) ?_
      refine g_aload_n h dX11_node_172 0 rfl ?_
      refine g_getr h dX11_node_173 gX11_23 sc_12 rfl ?_
      refine g_getr h dX11_node_176 gX11_135 (sM_0 (m := 0) (by decide)) rfl ?_
      refine g_getr h dX11_node_179 gX11_203 (sM_11 (m := 0) (by decide)) rfl ?_
      refine g_iload_n h dX11_node_182 1 rfl ?_
      refine g_iald h dX11_node_183 (sM_16 (m := 0) (by decide)) (by omega) ?_
      refine g_top (y := μ (40 + (toN i))) (vw_pic (b := (vb 0)) (k := 40 + (toN i)) (by first | exact hvσ_1 | assumption) (by omega)) ?_
      exact g_iret h hQ dX11_node_184 (congrArg (fun z => some (Value.int z)) (show (an (fo (rg wt (nI 0) (nI 9)) (ns μ i)) (v_node μ (toN i) (toN wt))) = (μ (40 + (toN i))) by first | exact an_yes (by exact hS0) (by first | rfl | (simp [v_node, c19, hc25]; done) | (simp [v_node, c19, hc25]; rfl)) | exact an_no (k := (fo (rg wt (nI 0) (nI 9)) (ns μ i))) (by first | rfl | (simp [fo, rg, ns, nB, ps, gst, ofS, offB, c19, hc25]; done) | (simp [fo, rg, ns, nB, ps, gst, ofS, offB, c19, hc25]; omega)) (by first | decide | omega | assumption | exact nb1 (by assumption)) | fail)) (by exact ⟨(by first | exact tk_eq (k := (fo (rg wt (nI 0) (nI 9)) (ns μ i))) (by first | rfl | (simp [fo, rg, ns, nB, ps, gst, ofS, offB, c19, hc25]; done) | (simp [fo, rg, ns, nB, ps, gst, ofS, offB, c19, hc25]; omega)) ht14000_σ_1 | exact tk_eq (k := (fo (rg wt (nI 0) (nI 9)) (ns μ i))) (by exact hS0) ht14000_σ_1 | fail), (by exact hcFR_σ_1)⟩)
    ·
      refine g_tswOut (tgt := 185) h dX11_node_25 (by rw [hc25]; decide) (by decide) ?_
      refine g_aload_n h dX11_node_185 0 rfl ?_
      refine g_getr h dX11_node_186 gX11_23 sc_12 rfl ?_
      refine g_getr h dX11_node_189 gX11_206 (sM_0 (m := 0) (by decide)) rfl ?_
      refine g_iload_n h dX11_node_192 1 rfl ?_
      refine g_iald h dX11_node_193 (sM_2 (m := 0) (by decide)) (by omega) ?_
      refine g_top (y := μ (24 + (toN i))) (vw_pic (b := (vb 0)) (k := 24 + (toN i)) (by first | exact hvσ_1 | assumption) (by omega)) ?_
      exact g_iret h hQ dX11_node_194 (congrArg (fun z => some (Value.int z)) (show (an (fo (rg wt (nI 0) (nI 9)) (ns μ i)) (v_node μ (toN i) (toN wt))) = (μ (24 + (toN i))) by first | exact an_yes (by exact hS0) (by first | rfl | (simp [v_node, c19, hc25]; done) | (simp [v_node, c19, hc25]; rfl)) | exact an_no (k := (fo (rg wt (nI 0) (nI 9)) (ns μ i))) (by first | rfl | (simp [fo, rg, ns, nB, ps, gst, ofS, offB, c19, hc25]; done) | (simp [fo, rg, ns, nB, ps, gst, ofS, offB, c19, hc25]; omega)) (by first | decide | omega | assumption | exact nb1 (by assumption)) | fail)) (by exact ⟨(by first | exact tk_eq (k := (fo (rg wt (nI 0) (nI 9)) (ns μ i))) (by first | rfl | (simp [fo, rg, ns, nB, ps, gst, ofS, offB, c19, hc25]; done) | (simp [fo, rg, ns, nB, ps, gst, ofS, offB, c19, hc25]; omega)) ht14000_σ_1 | exact tk_eq (k := (fo (rg wt (nI 0) (nI 9)) (ns μ i))) (by exact hS0) ht14000_σ_1 | fail), (by exact hcFR_σ_1)⟩)
  ·
    refine g_iconstv h dX11_node_22 (v := (-1)) (by decide) ?_
    exact g_iret h hQ dX11_node_23 (congrArg (fun z => some (Value.int z)) (show (an (fo (rg wt (nI 0) (nI 9)) (ns μ i)) (v_node μ (toN i) (toN wt))) = (-1) by first | exact an_yes (by exact hS0) (by first | rfl | (simp [v_node, c19]; done) | (simp [v_node, c19]; rfl)) | exact an_no (k := (fo (rg wt (nI 0) (nI 9)) (ns μ i))) (by first | rfl | (simp [fo, rg, ns, nB, ps, gst, ofS, offB, c19]; done) | (simp [fo, rg, ns, nB, ps, gst, ofS, offB, c19]; omega)) (by first | decide | omega | assumption | exact nb1 (by assumption)) | fail)) (by exact ⟨(by first | exact tk_eq (k := (fo (rg wt (nI 0) (nI 9)) (ns μ i))) (by first | rfl | (simp [fo, rg, ns, nB, ps, gst, ofS, offB, c19]; done) | (simp [fo, rg, ns, nB, ps, gst, ofS, offB, c19]; omega)) ht14000_σ_1 | exact tk_eq (k := (fo (rg wt (nI 0) (nI 9)) (ns μ i))) (by exact hS0) ht14000_σ_1 | fail), (by exact hcFR_σ_1)⟩)
