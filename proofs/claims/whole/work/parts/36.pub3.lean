def v_many (μ : Nat → Int32) (mk wt : Nat) : Int32 := if wt = 0 then μ 0 else if wt = 1 then μ 1 else if wt = 2 then μ 2 else if wt = 3 then μ 3 else if wt = 4 then μ 4 else if wt = 5 then μ 7 else if wt = 6 then μ 8 else if wt = 7 then μ 9 else if wt = 8 then nI mk else if wt = 9 then μ 5 else μ 6

set_option maxRecDepth 100000 in
set_option maxHeartbeats 4000000 in
theorem q_many {l : Launch} {w : Wd} (hW : Wi w) {σ : Mem} (wt : Int32) (mk : Nat) (μ : Nat → Int32) (hv : vw 0 σ = μ) (hI : MI μ) (ht4001_σ : σ 4001 = (nI mk)) : MC l w qX12_many 1 [.ref (w.1 0), .int wt] σ (some (.int (an (rg wt (nI 0) (nI 10)) (v_many μ mk (toN wt))))) (fun σ' => (σ' 4000 = (nI (rg wt (nI 0) (nI 10)))) ∧ (∀ a, ((a < 4900 ∨ 6000 ≤ a) ∧ a ≠ 4000) → σ' a = σ a)) := by
  refine MC.of hW (by decide +kernel) (Nat.le_of_ble_eq_true rfl) (fun X h hQ hnm => ?_)
  have h : Fx X w cX12_many 2 RX12 1 := h
  have hQ : Qx X w (some .int) (some (.int (an (rg wt (nI 0) (nI 10)) (v_many μ mk (toN wt))))) (fun σ' => (σ' 4000 = (nI (rg wt (nI 0) (nI 10)))) ∧ (∀ a, ((a < 4900 ∨ 6000 ≤ a) ∧ a ≠ 4000) → σ' a = σ a)) := hQ
  have hN8 := mi_8 hI
  have hcFR_σ : ∀ a, ((a < 4900 ∨ 6000 ≤ a) ∧ a ≠ 4000) → σ a = σ a := fun _ _ => rfl
  show G X w 2 0 [(0, .ref (w.1 0)), (1, .int wt)] [] σ
  rcases rg_or (n := 10) wt (by decide) with ⟨hr, ew, hw9⟩ | ⟨hr, hout⟩
  ·
    rw [ew]
    show G X w 2 0 [(0, .ref (w.1 0)), (1, .int (nI (toN wt)))] [] σ
    refine g_iload_n h dX12_many_0 1 rfl ?_
    rcases (show toN wt = 0 ∨ toN wt = 1 ∨ toN wt = 2 ∨ toN wt = 3 ∨ toN wt = 4 ∨ toN wt = 5 ∨ toN wt = 6 ∨ toN wt = 7 ∨ toN wt = 8 ∨ toN wt = 9 ∨ toN wt = 10 by omega) with hc1 | hc1 | hc1 | hc1 | hc1 | hc1 | hc1 | hc1 | hc1 | hc1 | hc1
    ·
      refine g_tsw (off := 59) (tgt := 60) h dX12_many_1 (nI 0) (by rw [hc1]) (by decide) (by decide) (by decide +kernel) (by decide) ?_
      refine g_aload_n h dX12_many_60 0 rfl ?_
      refine g_aload_n h dX12_many_61 0 rfl ?_
      refine g_iconst h dX12_many_62 (by decide) ?_
      refine g_cvpi (rest := [.ref (w.1 0)]) h (r_of hW 0 μ (by assumption) (by omega)) lX12_of mX12_61 (Nat.lt_of_lt_of_le (by decide) (Nat.le_refl _)) (by decide) sc_0 rfl rfl rfl rfl dX12_many_63 ?_
      refine g_cvi (rest := []) h (r_gives hW (μ 0) ) lX12_gives mX12_281 (Nat.lt_of_lt_of_le (by decide) (Nat.le_refl _)) (by decide) sc_0 rfl rfl rfl rfl dX12_many_66 (fun σ_1 eσ_1 => ?_)
      have eσ_1_a : σ_1 = upd σ 4000 (nI 0) := eσ_1
      have ht4001_σ_1 : σ_1 4001 = (nI mk) := by rw [eσ_1_a, upd_ne (by first | omega | (simp only [vb] at *; omega))]; first | exact ht4001_σ | assumption
      have ht4000_σ_1 : σ_1 4000 = (nI 0) := by rw [eσ_1_a]; exact upd_eq
      have hcFR_σ_1 : ∀ a, ((a < 4900 ∨ 6000 ≤ a) ∧ a ≠ 4000) → σ_1 a = σ a := by intro a ha; exact Eq.trans (b := σ a) (by rw [eσ_1_a, upd_ne (by first | omega | (simp only [vb] at *; omega))]) (hcFR_σ a ha)
      have hvσ_1 : vw 0 σ_1 = μ := by rw [eσ_1_a, vw_out (by omega)]; first | exact hv | assumption
      exact g_iret h hQ dX12_many_69 (congrArg (fun z => some (Value.int z)) (show (an (rg wt (nI 0) (nI 10)) (v_many μ mk (toN wt))) = (μ 0) by first | exact an_yes (by first | exact hr | rfl | (simp [fo, rg, ns, nB, ps, gst, ofS, offB, hc1]; done) | (simp [fo, rg, ns, nB, ps, gst, ofS, offB, hc1]; omega)) (by first | rfl | (simp [v_many, hc1]; done) | (simp [v_many, hc1]; rfl)) | exact an_no (k := 0) (by first | exact hr | rfl | (simp [fo, rg, ns, nB, ps, gst, ofS, offB, hc1]; done) | (simp [fo, rg, ns, nB, ps, gst, ofS, offB, hc1]; omega)) (by first | decide | omega | assumption | exact nb1 (by assumption)) | fail)) (by exact ⟨(by first | exact tk_eq (k := 0) (by first | exact hr | rfl | (simp [fo, rg, ns, nB, ps, gst, ofS, offB, hc1]; done) | (simp [fo, rg, ns, nB, ps, gst, ofS, offB, hc1]; omega)) ht4000_σ_1 | exact tk_eq (k := 0) (by first | exact hr | rfl | (simp [fo, rg, ns, nB, ps, gst, ofS, offB, hc1]; done) | (simp [fo, rg, ns, nB, ps, gst, ofS, offB, hc1]; omega)) ht4000_σ_1 | fail), (by exact hcFR_σ_1)⟩)
    ·
      refine g_tsw (off := 69) (tgt := 70) h dX12_many_1 (nI 1) (by rw [hc1]) (by decide) (by decide) (by decide +kernel) (by decide) ?_
      refine g_aload_n h dX12_many_70 0 rfl ?_
      refine g_aload_n h dX12_many_71 0 rfl ?_
      refine g_iconst h dX12_many_72 (by decide) ?_
      refine g_cvpi (rest := [.ref (w.1 0)]) h (r_of hW 1 μ (by assumption) (by omega)) lX12_of mX12_61 (Nat.lt_of_lt_of_le (by decide) (Nat.le_refl _)) (by decide) sc_0 rfl rfl rfl rfl dX12_many_73 ?_
      refine g_cvi (rest := []) h (r_gives hW (μ 1) ) lX12_gives mX12_281 (Nat.lt_of_lt_of_le (by decide) (Nat.le_refl _)) (by decide) sc_0 rfl rfl rfl rfl dX12_many_76 (fun σ_2 eσ_2 => ?_)
      have eσ_2_a : σ_2 = upd σ 4000 (nI 0) := eσ_2
      have ht4001_σ_2 : σ_2 4001 = (nI mk) := by rw [eσ_2_a, upd_ne (by first | omega | (simp only [vb] at *; omega))]; first | exact ht4001_σ | assumption
      have ht4000_σ_2 : σ_2 4000 = (nI 0) := by rw [eσ_2_a]; exact upd_eq
      have hcFR_σ_2 : ∀ a, ((a < 4900 ∨ 6000 ≤ a) ∧ a ≠ 4000) → σ_2 a = σ a := by intro a ha; exact Eq.trans (b := σ a) (by rw [eσ_2_a, upd_ne (by first | omega | (simp only [vb] at *; omega))]) (hcFR_σ a ha)
      have hvσ_2 : vw 0 σ_2 = μ := by rw [eσ_2_a, vw_out (by omega)]; first | exact hv | assumption
      exact g_iret h hQ dX12_many_79 (congrArg (fun z => some (Value.int z)) (show (an (rg wt (nI 0) (nI 10)) (v_many μ mk (toN wt))) = (μ 1) by first | exact an_yes (by first | exact hr | rfl | (simp [fo, rg, ns, nB, ps, gst, ofS, offB, hc1]; done) | (simp [fo, rg, ns, nB, ps, gst, ofS, offB, hc1]; omega)) (by first | rfl | (simp [v_many, hc1]; done) | (simp [v_many, hc1]; rfl)) | exact an_no (k := 0) (by first | exact hr | rfl | (simp [fo, rg, ns, nB, ps, gst, ofS, offB, hc1]; done) | (simp [fo, rg, ns, nB, ps, gst, ofS, offB, hc1]; omega)) (by first | decide | omega | assumption | exact nb1 (by assumption)) | fail)) (by exact ⟨(by first | exact tk_eq (k := 0) (by first | exact hr | rfl | (simp [fo, rg, ns, nB, ps, gst, ofS, offB, hc1]; done) | (simp [fo, rg, ns, nB, ps, gst, ofS, offB, hc1]; omega)) ht4000_σ_2 | exact tk_eq (k := 0) (by first | exact hr | rfl | (simp [fo, rg, ns, nB, ps, gst, ofS, offB, hc1]; done) | (simp [fo, rg, ns, nB, ps, gst, ofS, offB, hc1]; omega)) ht4000_σ_2 | fail), (by exact hcFR_σ_2)⟩)
    ·
      refine g_tsw (off := 79) (tgt := 80) h dX12_many_1 (nI 2) (by rw [hc1]) (by decide) (by decide) (by decide +kernel) (by decide) ?_
      refine g_aload_n h dX12_many_80 0 rfl ?_
      refine g_aload_n h dX12_many_81 0 rfl ?_
      refine g_iconst h dX12_many_82 (by decide) ?_
      refine g_cvpi (rest := [.ref (w.1 0)]) h (r_of hW 2 μ (by assumption) (by omega)) lX12_of mX12_61 (Nat.lt_of_lt_of_le (by decide) (Nat.le_refl _)) (by decide) sc_0 rfl rfl rfl rfl dX12_many_83 ?_
      refine g_cvi (rest := []) h (r_gives hW (μ 2) ) lX12_gives mX12_281 (Nat.lt_of_lt_of_le (by decide) (Nat.le_refl _)) (by decide) sc_0 rfl rfl rfl rfl dX12_many_86 (fun σ_3 eσ_3 => ?_)
      have eσ_3_a : σ_3 = upd σ 4000 (nI 0) := eσ_3
      have ht4001_σ_3 : σ_3 4001 = (nI mk) := by rw [eσ_3_a, upd_ne (by first | omega | (simp only [vb] at *; omega))]; first | exact ht4001_σ | assumption
      have ht4000_σ_3 : σ_3 4000 = (nI 0) := by rw [eσ_3_a]; exact upd_eq
      have hcFR_σ_3 : ∀ a, ((a < 4900 ∨ 6000 ≤ a) ∧ a ≠ 4000) → σ_3 a = σ a := by intro a ha; exact Eq.trans (b := σ a) (by rw [eσ_3_a, upd_ne (by first | omega | (simp only [vb] at *; omega))]) (hcFR_σ a ha)
      have hvσ_3 : vw 0 σ_3 = μ := by rw [eσ_3_a, vw_out (by omega)]; first | exact hv | assumption
      exact g_iret h hQ dX12_many_89 (congrArg (fun z => some (Value.int z)) (show (an (rg wt (nI 0) (nI 10)) (v_many μ mk (toN wt))) = (μ 2) by first | exact an_yes (by first | exact hr | rfl | (simp [fo, rg, ns, nB, ps, gst, ofS, offB, hc1]; done) | (simp [fo, rg, ns, nB, ps, gst, ofS, offB, hc1]; omega)) (by first | rfl | (simp [v_many, hc1]; done) | (simp [v_many, hc1]; rfl)) | exact an_no (k := 0) (by first | exact hr | rfl | (simp [fo, rg, ns, nB, ps, gst, ofS, offB, hc1]; done) | (simp [fo, rg, ns, nB, ps, gst, ofS, offB, hc1]; omega)) (by first | decide | omega | assumption | exact nb1 (by assumption)) | fail)) (by exact ⟨(by first | exact tk_eq (k := 0) (by first | exact hr | rfl | (simp [fo, rg, ns, nB, ps, gst, ofS, offB, hc1]; done) | (simp [fo, rg, ns, nB, ps, gst, ofS, offB, hc1]; omega)) ht4000_σ_3 | exact tk_eq (k := 0) (by first | exact hr | rfl | (simp [fo, rg, ns, nB, ps, gst, ofS, offB, hc1]; done) | (simp [fo, rg, ns, nB, ps, gst, ofS, offB, hc1]; omega)) ht4000_σ_3 | fail), (by exact hcFR_σ_3)⟩)
    ·
      refine g_tsw (off := 89) (tgt := 90) h dX12_many_1 (nI 3) (by rw [hc1]) (by decide) (by decide) (by decide +kernel) (by decide) ?_
      refine g_aload_n h dX12_many_90 0 rfl ?_
      refine g_aload_n h dX12_many_91 0 rfl ?_
      refine g_iconst h dX12_many_92 (by decide) ?_
      refine g_cvpi (rest := [.ref (w.1 0)]) h (r_of hW 3 μ (by assumption) (by omega)) lX12_of mX12_61 (Nat.lt_of_lt_of_le (by decide) (Nat.le_refl _)) (by decide) sc_0 rfl rfl rfl rfl dX12_many_93 ?_
      refine g_cvi (rest := []) h (r_gives hW (μ 3) ) lX12_gives mX12_281 (Nat.lt_of_lt_of_le (by decide) (Nat.le_refl _)) (by decide) sc_0 rfl rfl rfl rfl dX12_many_96 (fun σ_4 eσ_4 => ?_)
      have eσ_4_a : σ_4 = upd σ 4000 (nI 0) := eσ_4
      have ht4001_σ_4 : σ_4 4001 = (nI mk) := by rw [eσ_4_a, upd_ne (by first | omega | (simp only [vb] at *; omega))]; first | exact ht4001_σ | assumption
      have ht4000_σ_4 : σ_4 4000 = (nI 0) := by rw [eσ_4_a]; exact upd_eq
      have hcFR_σ_4 : ∀ a, ((a < 4900 ∨ 6000 ≤ a) ∧ a ≠ 4000) → σ_4 a = σ a := by intro a ha; exact Eq.trans (b := σ a) (by rw [eσ_4_a, upd_ne (by first | omega | (simp only [vb] at *; omega))]) (hcFR_σ a ha)
      have hvσ_4 : vw 0 σ_4 = μ := by rw [eσ_4_a, vw_out (by omega)]; first | exact hv | assumption
      exact g_iret h hQ dX12_many_99 (congrArg (fun z => some (Value.int z)) (show (an (rg wt (nI 0) (nI 10)) (v_many μ mk (toN wt))) = (μ 3) by first | exact an_yes (by first | exact hr | rfl | (simp [fo, rg, ns, nB, ps, gst, ofS, offB, hc1]; done) | (simp [fo, rg, ns, nB, ps, gst, ofS, offB, hc1]; omega)) (by first | rfl | (simp [v_many, hc1]; done) | (simp [v_many, hc1]; rfl)) | exact an_no (k := 0) (by first | exact hr | rfl | (simp [fo, rg, ns, nB, ps, gst, ofS, offB, hc1]; done) | (simp [fo, rg, ns, nB, ps, gst, ofS, offB, hc1]; omega)) (by first | decide | omega | assumption | exact nb1 (by assumption)) | fail)) (by exact ⟨(by first | exact tk_eq (k := 0) (by first | exact hr | rfl | (simp [fo, rg, ns, nB, ps, gst, ofS, offB, hc1]; done) | (simp [fo, rg, ns, nB, ps, gst, ofS, offB, hc1]; omega)) ht4000_σ_4 | exact tk_eq (k := 0) (by first | exact hr | rfl | (simp [fo, rg, ns, nB, ps, gst, ofS, offB, hc1]; done) | (simp [fo, rg, ns, nB, ps, gst, ofS, offB, hc1]; omega)) ht4000_σ_4 | fail), (by exact hcFR_σ_4)⟩)
    ·
      refine g_tsw (off := 99) (tgt := 100) h dX12_many_1 (nI 4) (by rw [hc1]) (by decide) (by decide) (by decide +kernel) (by decide) ?_
      refine g_aload_n h dX12_many_100 0 rfl ?_
      refine g_aload_n h dX12_many_101 0 rfl ?_
      refine g_iconst h dX12_many_102 (by decide) ?_
      refine g_cvpi (rest := [.ref (w.1 0)]) h (r_of hW 4 μ (by assumption) (by omega)) lX12_of mX12_61 (Nat.lt_of_lt_of_le (by decide) (Nat.le_refl _)) (by decide) sc_0 rfl rfl rfl rfl dX12_many_103 ?_
      refine g_cvi (rest := []) h (r_gives hW (μ 4) ) lX12_gives mX12_281 (Nat.lt_of_lt_of_le (by decide) (Nat.le_refl _)) (by decide) sc_0 rfl rfl rfl rfl dX12_many_106 (fun σ_5 eσ_5 => ?_)
      have eσ_5_a : σ_5 = upd σ 4000 (nI 0) := eσ_5
      have ht4001_σ_5 : σ_5 4001 = (nI mk) := by rw [eσ_5_a, upd_ne (by first | omega | (simp only [vb] at *; omega))]; first | exact ht4001_σ | assumption
      have ht4000_σ_5 : σ_5 4000 = (nI 0) := by rw [eσ_5_a]; exact upd_eq
      have hcFR_σ_5 : ∀ a, ((a < 4900 ∨ 6000 ≤ a) ∧ a ≠ 4000) → σ_5 a = σ a := by intro a ha; exact Eq.trans (b := σ a) (by rw [eσ_5_a, upd_ne (by first | omega | (simp only [vb] at *; omega))]) (hcFR_σ a ha)
      have hvσ_5 : vw 0 σ_5 = μ := by rw [eσ_5_a, vw_out (by omega)]; first | exact hv | assumption
      exact g_iret h hQ dX12_many_109 (congrArg (fun z => some (Value.int z)) (show (an (rg wt (nI 0) (nI 10)) (v_many μ mk (toN wt))) = (μ 4) by first | exact an_yes (by first | exact hr | rfl | (simp [fo, rg, ns, nB, ps, gst, ofS, offB, hc1]; done) | (simp [fo, rg, ns, nB, ps, gst, ofS, offB, hc1]; omega)) (by first | rfl | (simp [v_many, hc1]; done) | (simp [v_many, hc1]; rfl)) | exact an_no (k := 0) (by first | exact hr | rfl | (simp [fo, rg, ns, nB, ps, gst, ofS, offB, hc1]; done) | (simp [fo, rg, ns, nB, ps, gst, ofS, offB, hc1]; omega)) (by first | decide | omega | assumption | exact nb1 (by assumption)) | fail)) (by exact ⟨(by first | exact tk_eq (k := 0) (by first | exact hr | rfl | (simp [fo, rg, ns, nB, ps, gst, ofS, offB, hc1]; done) | (simp [fo, rg, ns, nB, ps, gst, ofS, offB, hc1]; omega)) ht4000_σ_5 | exact tk_eq (k := 0) (by first | exact hr | rfl | (simp [fo, rg, ns, nB, ps, gst, ofS, offB, hc1]; done) | (simp [fo, rg, ns, nB, ps, gst, ofS, offB, hc1]; omega)) ht4000_σ_5 | fail), (by exact hcFR_σ_5)⟩)
    ·
      refine g_tsw (off := 109) (tgt := 110) h dX12_many_1 (nI 5) (by rw [hc1]) (by decide) (by decide) (by decide +kernel) (by decide) ?_
      refine g_aload_n h dX12_many_110 0 rfl ?_
      refine g_aload_n h dX12_many_111 0 rfl ?_
      refine g_bipush h dX12_many_112 (by decide) ?_
      refine g_cvpi (rest := [.ref (w.1 0)]) h (r_of hW 7 μ (by assumption) (by omega)) lX12_of mX12_61 (Nat.lt_of_lt_of_le (by decide) (Nat.le_refl _)) (by decide) sc_0 rfl rfl rfl rfl dX12_many_114 ?_
      refine g_cvi (rest := []) h (r_gives hW (μ 7) ) lX12_gives mX12_281 (Nat.lt_of_lt_of_le (by decide) (Nat.le_refl _)) (by decide) sc_0 rfl rfl rfl rfl dX12_many_117 (fun σ_6 eσ_6 => ?_)
      have eσ_6_a : σ_6 = upd σ 4000 (nI 0) := eσ_6
      have ht4001_σ_6 : σ_6 4001 = (nI mk) := by rw [eσ_6_a, upd_ne (by first | omega | (simp only [vb] at *; omega))]; first | exact ht4001_σ | assumption
      have ht4000_σ_6 : σ_6 4000 = (nI 0) := by rw [eσ_6_a]; exact upd_eq
      have hcFR_σ_6 : ∀ a, ((a < 4900 ∨ 6000 ≤ a) ∧ a ≠ 4000) → σ_6 a = σ a := by intro a ha; exact Eq.trans (b := σ a) (by rw [eσ_6_a, upd_ne (by first | omega | (simp only [vb] at *; omega))]) (hcFR_σ a ha)
      have hvσ_6 : vw 0 σ_6 = μ := by rw [eσ_6_a, vw_out (by omega)]; first | exact hv | assumption
      exact g_iret h hQ dX12_many_120 (congrArg (fun z => some (Value.int z)) (show (an (rg wt (nI 0) (nI 10)) (v_many μ mk (toN wt))) = (μ 7) by first | exact an_yes (by first | exact hr | rfl | (simp [fo, rg, ns, nB, ps, gst, ofS, offB, hc1]; done) | (simp [fo, rg, ns, nB, ps, gst, ofS, offB, hc1]; omega)) (by first | rfl | (simp [v_many, hc1]; done) | (simp [v_many, hc1]; rfl)) | exact an_no (k := 0) (by first | exact hr | rfl | (simp [fo, rg, ns, nB, ps, gst, ofS, offB, hc1]; done) | (simp [fo, rg, ns, nB, ps, gst, ofS, offB, hc1]; omega)) (by first | decide | omega | assumption | exact nb1 (by assumption)) | fail)) (by exact ⟨(by first | exact tk_eq (k := 0) (by first | exact hr | rfl | (simp [fo, rg, ns, nB, ps, gst, ofS, offB, hc1]; done) | (simp [fo, rg, ns, nB, ps, gst, ofS, offB, hc1]; omega)) ht4000_σ_6 | exact tk_eq (k := 0) (by first | exact hr | rfl | (simp [fo, rg, ns, nB, ps, gst, ofS, offB, hc1]; done) | (simp [fo, rg, ns, nB, ps, gst, ofS, offB, hc1]; omega)) ht4000_σ_6 | fail), (by exact hcFR_σ_6)⟩)
    ·
      refine g_tsw (off := 120) (tgt := 121) h dX12_many_1 (nI 6) (by rw [hc1]) (by decide) (by decide) (by decide +kernel) (by decide) ?_
      refine g_aload_n h dX12_many_121 0 rfl ?_
      refine g_aload_n h dX12_many_122 0 rfl ?_
      refine g_bipush h dX12_many_123 (by decide) ?_
      refine g_cvpi (rest := [.ref (w.1 0)]) h (r_of hW 8 μ (by assumption) (by omega)) lX12_of mX12_61 (Nat.lt_of_lt_of_le (by decide) (Nat.le_refl _)) (by decide) sc_0 rfl rfl rfl rfl dX12_many_125 ?_
      refine g_cvi (rest := []) h (r_gives hW (μ 8) ) lX12_gives mX12_281 (Nat.lt_of_lt_of_le (by decide) (Nat.le_refl _)) (by decide) sc_0 rfl rfl rfl rfl dX12_many_128 (fun σ_7 eσ_7 => ?_)
      have eσ_7_a : σ_7 = upd σ 4000 (nI 0) := eσ_7
      have ht4001_σ_7 : σ_7 4001 = (nI mk) := by rw [eσ_7_a, upd_ne (by first | omega | (simp only [vb] at *; omega))]; first | exact ht4001_σ | assumption
      have ht4000_σ_7 : σ_7 4000 = (nI 0) := by rw [eσ_7_a]; exact upd_eq
      have hcFR_σ_7 : ∀ a, ((a < 4900 ∨ 6000 ≤ a) ∧ a ≠ 4000) → σ_7 a = σ a := by intro a ha; exact Eq.trans (b := σ a) (by rw [eσ_7_a, upd_ne (by first | omega | (simp only [vb] at *; omega))]) (hcFR_σ a ha)
      have hvσ_7 : vw 0 σ_7 = μ := by rw [eσ_7_a, vw_out (by omega)]; first | exact hv | assumption
      exact g_iret h hQ dX12_many_131 (congrArg (fun z => some (Value.int z)) (show (an (rg wt (nI 0) (nI 10)) (v_many μ mk (toN wt))) = (μ 8) by first | exact an_yes (by first | exact hr | rfl | (simp [fo, rg, ns, nB, ps, gst, ofS, offB, hc1]; done) | (simp [fo, rg, ns, nB, ps, gst, ofS, offB, hc1]; omega)) (by first | rfl | (simp [v_many, hc1]; done) | (simp [v_many, hc1]; rfl)) | exact an_no (k := 0) (by first | exact hr | rfl | (simp [fo, rg, ns, nB, ps, gst, ofS, offB, hc1]; done) | (simp [fo, rg, ns, nB, ps, gst, ofS, offB, hc1]; omega)) (by first | decide | omega | assumption | exact nb1 (by assumption)) | fail)) (by exact ⟨(by first | exact tk_eq (k := 0) (by first | exact hr | rfl | (simp [fo, rg, ns, nB, ps, gst, ofS, offB, hc1]; done) | (simp [fo, rg, ns, nB, ps, gst, ofS, offB, hc1]; omega)) ht4000_σ_7 | exact tk_eq (k := 0) (by first | exact hr | rfl | (simp [fo, rg, ns, nB, ps, gst, ofS, offB, hc1]; done) | (simp [fo, rg, ns, nB, ps, gst, ofS, offB, hc1]; omega)) ht4000_σ_7 | fail), (by exact hcFR_σ_7)⟩)
    ·
      refine g_tsw (off := 131) (tgt := 132) h dX12_many_1 (nI 7) (by rw [hc1]) (by decide) (by decide) (by decide +kernel) (by decide) ?_
      refine g_aload_n h dX12_many_132 0 rfl ?_
      refine g_aload_n h dX12_many_133 0 rfl ?_
      refine g_bipush h dX12_many_134 (by decide) ?_
      refine g_cvpi (rest := [.ref (w.1 0)]) h (r_of hW 9 μ (by assumption) (by omega)) lX12_of mX12_61 (Nat.lt_of_lt_of_le (by decide) (Nat.le_refl _)) (by decide) sc_0 rfl rfl rfl rfl dX12_many_136 ?_
      refine g_cvi (rest := []) h (r_gives hW (μ 9) ) lX12_gives mX12_281 (Nat.lt_of_lt_of_le (by decide) (Nat.le_refl _)) (by decide) sc_0 rfl rfl rfl rfl dX12_many_139 (fun σ_8 eσ_8 => ?_)
      have eσ_8_a : σ_8 = upd σ 4000 (nI 0) := eσ_8
      have ht4001_σ_8 : σ_8 4001 = (nI mk) := by rw [eσ_8_a, upd_ne (by first | omega | (simp only [vb] at *; omega))]; first | exact ht4001_σ | assumption
      have ht4000_σ_8 : σ_8 4000 = (nI 0) := by rw [eσ_8_a]; exact upd_eq
      have hcFR_σ_8 : ∀ a, ((a < 4900 ∨ 6000 ≤ a) ∧ a ≠ 4000) → σ_8 a = σ a := by intro a ha; exact Eq.trans (b := σ a) (by rw [eσ_8_a, upd_ne (by first | omega | (simp only [vb] at *; omega))]) (hcFR_σ a ha)
      have hvσ_8 : vw 0 σ_8 = μ := by rw [eσ_8_a, vw_out (by omega)]; first | exact hv | assumption
      exact g_iret h hQ dX12_many_142 (congrArg (fun z => some (Value.int z)) (show (an (rg wt (nI 0) (nI 10)) (v_many μ mk (toN wt))) = (μ 9) by first | exact an_yes (by first | exact hr | rfl | (simp [fo, rg, ns, nB, ps, gst, ofS, offB, hc1]; done) | (simp [fo, rg, ns, nB, ps, gst, ofS, offB, hc1]; omega)) (by first | rfl | (simp [v_many, hc1]; done) | (simp [v_many, hc1]; rfl)) | exact an_no (k := 0) (by first | exact hr | rfl | (simp [fo, rg, ns, nB, ps, gst, ofS, offB, hc1]; done) | (simp [fo, rg, ns, nB, ps, gst, ofS, offB, hc1]; omega)) (by first | decide | omega | assumption | exact nb1 (by assumption)) | fail)) (by exact ⟨(by first | exact tk_eq (k := 0) (by first | exact hr | rfl | (simp [fo, rg, ns, nB, ps, gst, ofS, offB, hc1]; done) | (simp [fo, rg, ns, nB, ps, gst, ofS, offB, hc1]; omega)) ht4000_σ_8 | exact tk_eq (k := 0) (by first | exact hr | rfl | (simp [fo, rg, ns, nB, ps, gst, ofS, offB, hc1]; done) | (simp [fo, rg, ns, nB, ps, gst, ofS, offB, hc1]; omega)) ht4000_σ_8 | fail), (by exact hcFR_σ_8)⟩)
    ·
      refine g_tsw (off := 142) (tgt := 143) h dX12_many_1 (nI 8) (by rw [hc1]) (by decide) (by decide) (by decide +kernel) (by decide) ?_
      refine g_aload_n h dX12_many_143 0 rfl ?_
      refine g_aload_n h dX12_many_144 0 rfl ?_
      refine g_geti h dX12_many_145 gX12_284 sc_0 rfl ?_
      refine g_top (y := (nI mk)) (by first | exact ht4001_σ | assumption) ?_
      refine g_cvi (rest := []) h (r_gives hW (nI mk) ) lX12_gives mX12_281 (Nat.lt_of_lt_of_le (by decide) (Nat.le_refl _)) (by decide) sc_0 rfl rfl rfl rfl dX12_many_148 (fun σ_9 eσ_9 => ?_)
      have eσ_9_a : σ_9 = upd σ 4000 (nI 0) := eσ_9
      have ht4001_σ_9 : σ_9 4001 = (nI mk) := by rw [eσ_9_a, upd_ne (by first | omega | (simp only [vb] at *; omega))]; first | exact ht4001_σ | assumption
      have ht4000_σ_9 : σ_9 4000 = (nI 0) := by rw [eσ_9_a]; exact upd_eq
      have hcFR_σ_9 : ∀ a, ((a < 4900 ∨ 6000 ≤ a) ∧ a ≠ 4000) → σ_9 a = σ a := by intro a ha; exact Eq.trans (b := σ a) (by rw [eσ_9_a, upd_ne (by first | omega | (simp only [vb] at *; omega))]) (hcFR_σ a ha)
      have hvσ_9 : vw 0 σ_9 = μ := by rw [eσ_9_a, vw_out (by omega)]; first | exact hv | assumption
      exact g_iret h hQ dX12_many_151 (congrArg (fun z => some (Value.int z)) (show (an (rg wt (nI 0) (nI 10)) (v_many μ mk (toN wt))) = (nI mk) by first | exact an_yes (by first | exact hr | rfl | (simp [fo, rg, ns, nB, ps, gst, ofS, offB, hc1]; done) | (simp [fo, rg, ns, nB, ps, gst, ofS, offB, hc1]; omega)) (by first | rfl | (simp [v_many, hc1]; done) | (simp [v_many, hc1]; rfl)) | exact an_no (k := 0) (by first | exact hr | rfl | (simp [fo, rg, ns, nB, ps, gst, ofS, offB, hc1]; done) | (simp [fo, rg, ns, nB, ps, gst, ofS, offB, hc1]; omega)) (by first | decide | omega | assumption | exact nb1 (by assumption)) | fail)) (by exact ⟨(by first | exact tk_eq (k := 0) (by first | exact hr | rfl | (simp [fo, rg, ns, nB, ps, gst, ofS, offB, hc1]; done) | (simp [fo, rg, ns, nB, ps, gst, ofS, offB, hc1]; omega)) ht4000_σ_9 | exact tk_eq (k := 0) (by first | exact hr | rfl | (simp [fo, rg, ns, nB, ps, gst, ofS, offB, hc1]; done) | (simp [fo, rg, ns, nB, ps, gst, ofS, offB, hc1]; omega)) ht4000_σ_9 | fail), (by exact hcFR_σ_9)⟩)
    ·
      refine g_tsw (off := 151) (tgt := 152) h dX12_many_1 (nI 9) (by rw [hc1]) (by decide) (by decide) (by decide +kernel) (by decide) ?_
      refine g_aload_n h dX12_many_152 0 rfl ?_
      refine g_aload_n h dX12_many_153 0 rfl ?_
      refine g_iconst h dX12_many_154 (by decide) ?_
      refine g_cvpi (rest := [.ref (w.1 0)]) h (r_of hW 5 μ (by assumption) (by omega)) lX12_of mX12_61 (Nat.lt_of_lt_of_le (by decide) (Nat.le_refl _)) (by decide) sc_0 rfl rfl rfl rfl dX12_many_155 ?_
      refine g_cvi (rest := []) h (r_gives hW (μ 5) ) lX12_gives mX12_281 (Nat.lt_of_lt_of_le (by decide) (Nat.le_refl _)) (by decide) sc_0 rfl rfl rfl rfl dX12_many_158 (fun σ_10 eσ_10 => ?_)
      have eσ_10_a : σ_10 = upd σ 4000 (nI 0) := eσ_10
      have ht4001_σ_10 : σ_10 4001 = (nI mk) := by rw [eσ_10_a, upd_ne (by first | omega | (simp only [vb] at *; omega))]; first | exact ht4001_σ | assumption
      have ht4000_σ_10 : σ_10 4000 = (nI 0) := by rw [eσ_10_a]; exact upd_eq
      have hcFR_σ_10 : ∀ a, ((a < 4900 ∨ 6000 ≤ a) ∧ a ≠ 4000) → σ_10 a = σ a := by intro a ha; exact Eq.trans (b := σ a) (by rw [eσ_10_a, upd_ne (by first | omega | (simp only [vb] at *; omega))]) (hcFR_σ a ha)
      have hvσ_10 : vw 0 σ_10 = μ := by rw [eσ_10_a, vw_out (by omega)]; first | exact hv | assumption
      exact g_iret h hQ dX12_many_161 (congrArg (fun z => some (Value.int z)) (show (an (rg wt (nI 0) (nI 10)) (v_many μ mk (toN wt))) = (μ 5) by first | exact an_yes (by first | exact hr | rfl | (simp [fo, rg, ns, nB, ps, gst, ofS, offB, hc1]; done) | (simp [fo, rg, ns, nB, ps, gst, ofS, offB, hc1]; omega)) (by first | rfl | (simp [v_many, hc1]; done) | (simp [v_many, hc1]; rfl)) | exact an_no (k := 0) (by first | exact hr | rfl | (simp [fo, rg, ns, nB, ps, gst, ofS, offB, hc1]; done) | (simp [fo, rg, ns, nB, ps, gst, ofS, offB, hc1]; omega)) (by first | decide | omega | assumption | exact nb1 (by assumption)) | fail)) (by exact ⟨(by first | exact tk_eq (k := 0) (by first | exact hr | rfl | (simp [fo, rg, ns, nB, ps, gst, ofS, offB, hc1]; done) | (simp [fo, rg, ns, nB, ps, gst, ofS, offB, hc1]; omega)) ht4000_σ_10 | exact tk_eq (k := 0) (by first | exact hr | rfl | (simp [fo, rg, ns, nB, ps, gst, ofS, offB, hc1]; done) | (simp [fo, rg, ns, nB, ps, gst, ofS, offB, hc1]; omega)) ht4000_σ_10 | fail), (by exact hcFR_σ_10)⟩)
    ·
      refine g_tsw (off := 161) (tgt := 162) h dX12_many_1 (nI 10) (by rw [hc1]) (by decide) (by decide) (by decide +kernel) (by decide) ?_
      refine g_aload_n h dX12_many_162 0 rfl ?_
      refine g_aload_n h dX12_many_163 0 rfl ?_
      refine g_bipush h dX12_many_164 (by decide) ?_
      refine g_cvpi (rest := [.ref (w.1 0)]) h (r_of hW 6 μ (by assumption) (by omega)) lX12_of mX12_61 (Nat.lt_of_lt_of_le (by decide) (Nat.le_refl _)) (by decide) sc_0 rfl rfl rfl rfl dX12_many_166 ?_
      refine g_cvi (rest := []) h (r_gives hW (μ 6) ) lX12_gives mX12_281 (Nat.lt_of_lt_of_le (by decide) (Nat.le_refl _)) (by decide) sc_0 rfl rfl rfl rfl dX12_many_169 (fun σ_11 eσ_11 => ?_)
      have eσ_11_a : σ_11 = upd σ 4000 (nI 0) := eσ_11
      have ht4001_σ_11 : σ_11 4001 = (nI mk) := by rw [eσ_11_a, upd_ne (by first | omega | (simp only [vb] at *; omega))]; first | exact ht4001_σ | assumption
      have ht4000_σ_11 : σ_11 4000 = (nI 0) := by rw [eσ_11_a]; exact upd_eq
      have hcFR_σ_11 : ∀ a, ((a < 4900 ∨ 6000 ≤ a) ∧ a ≠ 4000) → σ_11 a = σ a := by intro a ha; exact Eq.trans (b := σ a) (by rw [eσ_11_a, upd_ne (by first | omega | (simp only [vb] at *; omega))]) (hcFR_σ a ha)
      have hvσ_11 : vw 0 σ_11 = μ := by rw [eσ_11_a, vw_out (by omega)]; first | exact hv | assumption
      exact g_iret h hQ dX12_many_172 (congrArg (fun z => some (Value.int z)) (show (an (rg wt (nI 0) (nI 10)) (v_many μ mk (toN wt))) = (μ 6) by first | exact an_yes (by first | exact hr | rfl | (simp [fo, rg, ns, nB, ps, gst, ofS, offB, hc1]; done) | (simp [fo, rg, ns, nB, ps, gst, ofS, offB, hc1]; omega)) (by first | rfl | (simp [v_many, hc1]; done) | (simp [v_many, hc1]; rfl)) | exact an_no (k := 0) (by first | exact hr | rfl | (simp [fo, rg, ns, nB, ps, gst, ofS, offB, hc1]; done) | (simp [fo, rg, ns, nB, ps, gst, ofS, offB, hc1]; omega)) (by first | decide | omega | assumption | exact nb1 (by assumption)) | fail)) (by exact ⟨(by first | exact tk_eq (k := 0) (by first | exact hr | rfl | (simp [fo, rg, ns, nB, ps, gst, ofS, offB, hc1]; done) | (simp [fo, rg, ns, nB, ps, gst, ofS, offB, hc1]; omega)) ht4000_σ_11 | exact tk_eq (k := 0) (by first | exact hr | rfl | (simp [fo, rg, ns, nB, ps, gst, ofS, offB, hc1]; done) | (simp [fo, rg, ns, nB, ps, gst, ofS, offB, hc1]; omega)) ht4000_σ_11 | fail), (by exact hcFR_σ_11)⟩)
  ·
    show G X w 2 0 [(0, .ref (w.1 0)), (1, .int wt)] [] σ
    refine g_iload_n h dX12_many_0 1 rfl ?_
    refine g_tswOut (tgt := 173) h dX12_many_1 (by omega) (by decide) ?_
    refine g_aload_n h dX12_many_173 0 rfl ?_
    refine g_iconst h dX12_many_174 (by decide) ?_
    refine g_cvi (rest := []) h (r_refuse hW (nI 1) ) lX12_refuse mX12_272 (Nat.lt_of_lt_of_le (by decide) (Nat.le_refl _)) (by decide) sc_0 rfl rfl rfl rfl dX12_many_175 (fun σ_12 eσ_12 => ?_)
    have eσ_12_a : σ_12 = upd σ 4000 (nI 1) := eσ_12
    have ht4001_σ_12 : σ_12 4001 = (nI mk) := by rw [eσ_12_a, upd_ne (by first | omega | (simp only [vb] at *; omega))]; first | exact ht4001_σ | assumption
    have ht4000_σ_12 : σ_12 4000 = (nI 1) := by rw [eσ_12_a]; exact upd_eq
    have hcFR_σ_12 : ∀ a, ((a < 4900 ∨ 6000 ≤ a) ∧ a ≠ 4000) → σ_12 a = σ a := by intro a ha; exact Eq.trans (b := σ a) (by rw [eσ_12_a, upd_ne (by first | omega | (simp only [vb] at *; omega))]) (hcFR_σ a ha)
    have hvσ_12 : vw 0 σ_12 = μ := by rw [eσ_12_a, vw_out (by omega)]; first | exact hv | assumption
    exact g_iret h hQ dX12_many_178 (congrArg (fun z => some (Value.int z)) (show (an (rg wt (nI 0) (nI 10)) (v_many μ mk (toN wt))) = (-1) by first | exact an_yes (by first | exact hr | rfl | (simp [fo, rg, ns, nB, ps, gst, ofS, offB, Nat.add_zero]; done) | (simp [fo, rg, ns, nB, ps, gst, ofS, offB, Nat.add_zero]; omega)) (by first | rfl | (simp [v_many, Nat.add_zero]; done) | (simp [v_many, Nat.add_zero]; rfl)) | exact an_no (k := 1) (by first | exact hr | rfl | (simp [fo, rg, ns, nB, ps, gst, ofS, offB, Nat.add_zero]; done) | (simp [fo, rg, ns, nB, ps, gst, ofS, offB, Nat.add_zero]; omega)) (by first | decide | omega | assumption | exact nb1 (by assumption)) | fail)) (by exact ⟨(by first | exact tk_eq (k := 1) (by first | exact hr | rfl | (simp [fo, rg, ns, nB, ps, gst, ofS, offB, Nat.add_zero]; done) | (simp [fo, rg, ns, nB, ps, gst, ofS, offB, Nat.add_zero]; omega)) ht4000_σ_12 | exact tk_eq (k := 1) (by first | exact hr | rfl | (simp [fo, rg, ns, nB, ps, gst, ofS, offB, Nat.add_zero]; done) | (simp [fo, rg, ns, nB, ps, gst, ofS, offB, Nat.add_zero]; omega)) ht4000_σ_12 | fail), (by exact hcFR_σ_12)⟩)

set_option maxRecDepth 100000 in
set_option maxHeartbeats 4000000 in
theorem p_many {l : Launch} {w : Wd} (hW : Wi w) {σ : Mem} (wt : Int32) (mk : Nat) (μ : Nat → Int32) (hv : vw (vb 0) σ = μ) (hI : MI μ) (ht14001_σ : σ 14001 = (nI mk)) : MC l w qX11_many 1 [.ref (w.1 12), .int wt] σ (some (.int (an (rg wt (nI 0) (nI 10)) (v_many μ mk (toN wt))))) (fun σ' => (σ' 14000 = (nI (rg wt (nI 0) (nI 10)))) ∧ (∀ a, (a < 14900 ∧ a ≠ 14000) → σ' a = σ a)) := by
  refine MC.of hW (by decide +kernel) (Nat.le_of_ble_eq_true rfl) (fun X h hQ hnm => ?_)
  have h : Fx X w cX11_many 2 RX11 1 := h
  have hQ : Qx X w (some .int) (some (.int (an (rg wt (nI 0) (nI 10)) (v_many μ mk (toN wt))))) (fun σ' => (σ' 14000 = (nI (rg wt (nI 0) (nI 10)))) ∧ (∀ a, (a < 14900 ∧ a ≠ 14000) → σ' a = σ a)) := hQ
  have hN8 := mi_8 hI
  have hcFR_σ : ∀ a, (a < 14900 ∧ a ≠ 14000) → σ a = σ a := fun _ _ => rfl
  show G X w 2 0 [(0, .ref (w.1 12)), (1, .int wt)] [] σ
  refine g_aload_n h dX11_many_0 0 rfl ?_
  refine g_iload_n h dX11_many_1 1 rfl ?_
  refine g_iconst h dX11_many_2 (by decide) ?_
  refine g_bipush h dX11_many_3 (by decide) ?_
  refine g_cspi (rest := [.ref (w.1 12)]) h (c_rg hW wt (nI 0) (nI 10) ) lX11_rangeStatus mX11_102 (Nat.lt_of_lt_of_le (by decide) (Nat.le_refl _)) (by decide) rfl rfl rfl dX11_many_5 ?_
  refine g_cvi (rest := []) h (c_fails hW (rg wt (nI 0) (nI 10)) (by repeat (first | omega | exact rg_lt | exact ns_lt | exact ps_lt | exact gst_lt | exact ofS_lt | exact if_lt (by decide) (by decide) | apply fo_lt))) lX11_fails mX11_106 (Nat.lt_of_lt_of_le (by decide) (Nat.le_refl _)) (by decide) sc_12 rfl rfl rfl rfl dX11_many_8 (fun σ_1 eσ_1 => ?_)
  obtain ⟨eσ_1_a, eσ_1_b⟩ := eσ_1
  have eσ_1_a : σ_1 14000 = (nI (rg wt (nI 0) (nI 10))) := eσ_1_a
  have eσ_1_b : ∀ a, (a ≠ 14000) → σ_1 a = σ a := eσ_1_b
  have ht14001_σ_1 : σ_1 14001 = (nI mk) := by rw [eσ_1_b _ (by first | omega | (simp only [vb] at *; omega))]; first | exact ht14001_σ | assumption
  have ht14000_σ_1 : σ_1 14000 = (nI (rg wt (nI 0) (nI 10))) := eσ_1_a
  have hcFR_σ_1 : ∀ a, (a < 14900 ∧ a ≠ 14000) → σ_1 a = σ a := by intro a ha; exact Eq.trans (b := σ a) (eσ_1_b a (by first | omega | (simp only [vb] at *; omega))) (hcFR_σ a ha)
  have hvσ_1 : vw (vb 0) σ_1 = μ := by rw [vw_fr (σ := σ) (fun j _ _ => eσ_1_b _ (by first | omega | (simp only [vb] at *; omega)))]; first | exact hv | assumption
  refine g_ifB_eq h dX11_many_11 (fun c11 => ?_) (fun c11 => ?_)
  ·
    have hS0 := nb0 c11
    obtain ⟨ew, hw9⟩ := rg_N (by decide) hS0
    rw [ew]
    show G X w 2 16 [(0, .ref (w.1 12)), (1, .int (nI (toN wt)))] [] σ_1
    refine g_iload_n h dX11_many_16 1 rfl ?_
    rcases (show toN wt = 0 ∨ toN wt = 1 ∨ toN wt = 2 ∨ toN wt = 3 ∨ toN wt = 4 ∨ toN wt = 5 ∨ toN wt = 6 ∨ toN wt = 7 ∨ toN wt = 8 ∨ toN wt = 9 ∨ toN wt = 10 by omega) with hc17 | hc17 | hc17 | hc17 | hc17 | hc17 | hc17 | hc17 | hc17 | hc17 | hc17
    ·
      refine g_tsw (off := 55) (tgt := 72) h dX11_many_17 (nI 0) (by rw [hc17]) (by decide) (by decide) (by decide +kernel) (by decide) ?_
      refine g_aload_n h dX11_many_72 0 rfl ?_
      refine g_getr h dX11_many_73 gX11_23 sc_12 rfl ?_
      refine g_geti h dX11_many_76 gX11_120 (sM_0 (m := 0) (by decide)) rfl ?_
      refine g_top (y := μ 0) (vw_pic (b := (vb 0)) (k := 0) (by first | exact hvσ_1 | assumption) (by omega)) ?_
      exact g_iret h hQ dX11_many_79 (congrArg (fun z => some (Value.int z)) (show (an (rg wt (nI 0) (nI 10)) (v_many μ mk (toN wt))) = (μ 0) by first | exact an_yes (by exact hS0) (by first | rfl | (simp [v_many, c11, hc17]; done) | (simp [v_many, c11, hc17]; rfl)) | exact an_no (k := (rg wt (nI 0) (nI 10))) (by first | rfl | (simp [fo, rg, ns, nB, ps, gst, ofS, offB, c11, hc17]; done) | (simp [fo, rg, ns, nB, ps, gst, ofS, offB, c11, hc17]; omega)) (by first | decide | omega | assumption | exact nb1 (by assumption)) | fail)) (by exact ⟨(by first | exact tk_eq (k := (rg wt (nI 0) (nI 10))) (by first | rfl | (simp [fo, rg, ns, nB, ps, gst, ofS, offB, c11, hc17]; done) | (simp [fo, rg, ns, nB, ps, gst, ofS, offB, c11, hc17]; omega)) ht14000_σ_1 | exact tk_eq (k := (rg wt (nI 0) (nI 10))) (by exact hS0) ht14000_σ_1 | fail), (by exact hcFR_σ_1)⟩)
    ·
      refine g_tsw (off := 63) (tgt := 80) h dX11_many_17 (nI 1) (by rw [hc17]) (by decide) (by decide) (by decide +kernel) (by decide) ?_
      refine g_aload_n h dX11_many_80 0 rfl ?_
      refine g_getr h dX11_many_81 gX11_23 sc_12 rfl ?_
      refine g_geti h dX11_many_84 gX11_123 (sM_0 (m := 0) (by decide)) rfl ?_
      refine g_top (y := μ 1) (vw_pic (b := (vb 0)) (k := 1) (by first | exact hvσ_1 | assumption) (by omega)) ?_
      exact g_iret h hQ dX11_many_87 (congrArg (fun z => some (Value.int z)) (show (an (rg wt (nI 0) (nI 10)) (v_many μ mk (toN wt))) = (μ 1) by first | exact an_yes (by exact hS0) (by first | rfl | (simp [v_many, c11, hc17]; done) | (simp [v_many, c11, hc17]; rfl)) | exact an_no (k := (rg wt (nI 0) (nI 10))) (by first | rfl | (simp [fo, rg, ns, nB, ps, gst, ofS, offB, c11, hc17]; done) | (simp [fo, rg, ns, nB, ps, gst, ofS, offB, c11, hc17]; omega)) (by first | decide | omega | assumption | exact nb1 (by assumption)) | fail)) (by exact ⟨(by first | exact tk_eq (k := (rg wt (nI 0) (nI 10))) (by first | rfl | (simp [fo, rg, ns, nB, ps, gst, ofS, offB, c11, hc17]; done) | (simp [fo, rg, ns, nB, ps, gst, ofS, offB, c11, hc17]; omega)) ht14000_σ_1 | exact tk_eq (k := (rg wt (nI 0) (nI 10))) (by exact hS0) ht14000_σ_1 | fail), (by exact hcFR_σ_1)⟩)
    ·
      refine g_tsw (off := 71) (tgt := 88) h dX11_many_17 (nI 2) (by rw [hc17]) (by decide) (by decide) (by decide +kernel) (by decide) ?_
      refine g_aload_n h dX11_many_88 0 rfl ?_
      refine g_getr h dX11_many_89 gX11_23 sc_12 rfl ?_
      refine g_geti h dX11_many_92 gX11_126 (sM_0 (m := 0) (by decide)) rfl ?_
      refine g_top (y := μ 2) (vw_pic (b := (vb 0)) (k := 2) (by first | exact hvσ_1 | assumption) (by omega)) ?_
      exact g_iret h hQ dX11_many_95 (congrArg (fun z => some (Value.int z)) (show (an (rg wt (nI 0) (nI 10)) (v_many μ mk (toN wt))) = (μ 2) by first | exact an_yes (by exact hS0) (by first | rfl | (simp [v_many, c11, hc17]; done) | (simp [v_many, c11, hc17]; rfl)) | exact an_no (k := (rg wt (nI 0) (nI 10))) (by first | rfl | (simp [fo, rg, ns, nB, ps, gst, ofS, offB, c11, hc17]; done) | (simp [fo, rg, ns, nB, ps, gst, ofS, offB, c11, hc17]; omega)) (by first | decide | omega | assumption | exact nb1 (by assumption)) | fail)) (by exact ⟨(by first | exact tk_eq (k := (rg wt (nI 0) (nI 10))) (by first | rfl | (simp [fo, rg, ns, nB, ps, gst, ofS, offB, c11, hc17]; done) | (simp [fo, rg, ns, nB, ps, gst, ofS, offB, c11, hc17]; omega)) ht14000_σ_1 | exact tk_eq (k := (rg wt (nI 0) (nI 10))) (by exact hS0) ht14000_σ_1 | fail), (by exact hcFR_σ_1)⟩)
    ·
      refine g_tsw (off := 79) (tgt := 96) h dX11_many_17 (nI 3) (by rw [hc17]) (by decide) (by decide) (by decide +kernel) (by decide) ?_
      refine g_aload_n h dX11_many_96 0 rfl ?_
      refine g_getr h dX11_many_97 gX11_23 sc_12 rfl ?_
      refine g_geti h dX11_many_100 gX11_129 (sM_0 (m := 0) (by decide)) rfl ?_
      refine g_top (y := μ 3) (vw_pic (b := (vb 0)) (k := 3) (by first | exact hvσ_1 | assumption) (by omega)) ?_
      exact g_iret h hQ dX11_many_103 (congrArg (fun z => some (Value.int z)) (show (an (rg wt (nI 0) (nI 10)) (v_many μ mk (toN wt))) = (μ 3) by first | exact an_yes (by exact hS0) (by first | rfl | (simp [v_many, c11, hc17]; done) | (simp [v_many, c11, hc17]; rfl)) | exact an_no (k := (rg wt (nI 0) (nI 10))) (by first | rfl | (simp [fo, rg, ns, nB, ps, gst, ofS, offB, c11, hc17]; done) | (simp [fo, rg, ns, nB, ps, gst, ofS, offB, c11, hc17]; omega)) (by first | decide | omega | assumption | exact nb1 (by assumption)) | fail)) (by exact ⟨(by first | exact tk_eq (k := (rg wt (nI 0) (nI 10))) (by first | rfl | (simp [fo, rg, ns, nB, ps, gst, ofS, offB, c11, hc17]; done) | (simp [fo, rg, ns, nB, ps, gst, ofS, offB, c11, hc17]; omega)) ht14000_σ_1 | exact tk_eq (k := (rg wt (nI 0) (nI 10))) (by exact hS0) ht14000_σ_1 | fail), (by exact hcFR_σ_1)⟩)
    ·
      refine g_tsw (off := 87) (tgt := 104) h dX11_many_17 (nI 4) (by rw [hc17]) (by decide) (by decide) (by decide +kernel) (by decide) ?_
      refine g_aload_n h dX11_many_104 0 rfl ?_
      refine g_getr h dX11_many_105 gX11_23 sc_12 rfl ?_
      refine g_geti h dX11_many_108 gX11_132 (sM_0 (m := 0) (by decide)) rfl ?_
      refine g_top (y := μ 4) (vw_pic (b := (vb 0)) (k := 4) (by first | exact hvσ_1 | assumption) (by omega)) ?_
      exact g_iret h hQ dX11_many_111 (congrArg (fun z => some (Value.int z)) (show (an (rg wt (nI 0) (nI 10)) (v_many μ mk (toN wt))) = (μ 4) by first | exact an_yes (by exact hS0) (by first | rfl | (simp [v_many, c11, hc17]; done) | (simp [v_many, c11, hc17]; rfl)) | exact an_no (k := (rg wt (nI 0) (nI 10))) (by first | rfl | (simp [fo, rg, ns, nB, ps, gst, ofS, offB, c11, hc17]; done) | (simp [fo, rg, ns, nB, ps, gst, ofS, offB, c11, hc17]; omega)) (by first | decide | omega | assumption | exact nb1 (by assumption)) | fail)) (by exact ⟨(by first | exact tk_eq (k := (rg wt (nI 0) (nI 10))) (by first | rfl | (simp [fo, rg, ns, nB, ps, gst, ofS, offB, c11, hc17]; done) | (simp [fo, rg, ns, nB, ps, gst, ofS, offB, c11, hc17]; omega)) ht14000_σ_1 | exact tk_eq (k := (rg wt (nI 0) (nI 10))) (by exact hS0) ht14000_σ_1 | fail), (by exact hcFR_σ_1)⟩)
    ·
      refine g_tsw (off := 95) (tgt := 112) h dX11_many_17 (nI 5) (by rw [hc17]) (by decide) (by decide) (by decide +kernel) (by decide) ?_
      refine g_aload_n h dX11_many_112 0 rfl ?_
      refine g_getr h dX11_many_113 gX11_23 sc_12 rfl ?_
      refine g_getr h dX11_many_116 gX11_135 (sM_0 (m := 0) (by decide)) rfl ?_
      refine g_geti h dX11_many_119 gX11_139 (sM_11 (m := 0) (by decide)) rfl ?_
      refine g_top (y := μ 7) (vw_pic (b := (vb 0)) (k := 7) (by first | exact hvσ_1 | assumption) (by omega)) ?_
      exact g_iret h hQ dX11_many_122 (congrArg (fun z => some (Value.int z)) (show (an (rg wt (nI 0) (nI 10)) (v_many μ mk (toN wt))) = (μ 7) by first | exact an_yes (by exact hS0) (by first | rfl | (simp [v_many, c11, hc17]; done) | (simp [v_many, c11, hc17]; rfl)) | exact an_no (k := (rg wt (nI 0) (nI 10))) (by first | rfl | (simp [fo, rg, ns, nB, ps, gst, ofS, offB, c11, hc17]; done) | (simp [fo, rg, ns, nB, ps, gst, ofS, offB, c11, hc17]; omega)) (by first | decide | omega | assumption | exact nb1 (by assumption)) | fail)) (by exact ⟨(by first | exact tk_eq (k := (rg wt (nI 0) (nI 10))) (by first | rfl | (simp [fo, rg, ns, nB, ps, gst, ofS, offB, c11, hc17]; done) | (simp [fo, rg, ns, nB, ps, gst, ofS, offB, c11, hc17]; omega)) ht14000_σ_1 | exact tk_eq (k := (rg wt (nI 0) (nI 10))) (by exact hS0) ht14000_σ_1 | fail), (by exact hcFR_σ_1)⟩)
    ·
      refine g_tsw (off := 106) (tgt := 123) h dX11_many_17 (nI 6) (by rw [hc17]) (by decide) (by decide) (by decide +kernel) (by decide) ?_
      refine g_aload_n h dX11_many_123 0 rfl ?_
      refine g_getr h dX11_many_124 gX11_23 sc_12 rfl ?_
      refine g_getr h dX11_many_127 gX11_135 (sM_0 (m := 0) (by decide)) rfl ?_
      refine g_geti h dX11_many_130 gX11_144 (sM_11 (m := 0) (by decide)) rfl ?_
      refine g_top (y := μ 8) (vw_pic (b := (vb 0)) (k := 8) (by first | exact hvσ_1 | assumption) (by omega)) ?_
      exact g_iret h hQ dX11_many_133 (congrArg (fun z => some (Value.int z)) (show (an (rg wt (nI 0) (nI 10)) (v_many μ mk (toN wt))) = (μ 8) by first | exact an_yes (by exact hS0) (by first | rfl | (simp [v_many, c11, hc17]; done) | (simp [v_many, c11, hc17]; rfl)) | exact an_no (k := (rg wt (nI 0) (nI 10))) (by first | rfl | (simp [fo, rg, ns, nB, ps, gst, ofS, offB, c11, hc17]; done) | (simp [fo, rg, ns, nB, ps, gst, ofS, offB, c11, hc17]; omega)) (by first | decide | omega | assumption | exact nb1 (by assumption)) | fail)) (by exact ⟨(by first | exact tk_eq (k := (rg wt (nI 0) (nI 10))) (by first | rfl | (simp [fo, rg, ns, nB, ps, gst, ofS, offB, c11, hc17]; done) | (simp [fo, rg, ns, nB, ps, gst, ofS, offB, c11, hc17]; omega)) ht14000_σ_1 | exact tk_eq (k := (rg wt (nI 0) (nI 10))) (by exact hS0) ht14000_σ_1 | fail), (by exact hcFR_σ_1)⟩)
    ·
      refine g_tsw (off := 117) (tgt := 134) h dX11_many_17 (nI 7) (by rw [hc17]) (by decide) (by decide) (by decide +kernel) (by decide) ?_
      refine g_aload_n h dX11_many_134 0 rfl ?_
      refine g_getr h dX11_many_135 gX11_23 sc_12 rfl ?_
      refine g_getr h dX11_many_138 gX11_135 (sM_0 (m := 0) (by decide)) rfl ?_
      refine g_geti h dX11_many_141 gX11_147 (sM_11 (m := 0) (by decide)) rfl ?_
      refine g_top (y := μ 9) (vw_pic (b := (vb 0)) (k := 9) (by first | exact hvσ_1 | assumption) (by omega)) ?_
      exact g_iret h hQ dX11_many_144 (congrArg (fun z => some (Value.int z)) (show (an (rg wt (nI 0) (nI 10)) (v_many μ mk (toN wt))) = (μ 9) by first | exact an_yes (by exact hS0) (by first | rfl | (simp [v_many, c11, hc17]; done) | (simp [v_many, c11, hc17]; rfl)) | exact an_no (k := (rg wt (nI 0) (nI 10))) (by first | rfl | (simp [fo, rg, ns, nB, ps, gst, ofS, offB, c11, hc17]; done) | (simp [fo, rg, ns, nB, ps, gst, ofS, offB, c11, hc17]; omega)) (by first | decide | omega | assumption | exact nb1 (by assumption)) | fail)) (by exact ⟨(by first | exact tk_eq (k := (rg wt (nI 0) (nI 10))) (by first | rfl | (simp [fo, rg, ns, nB, ps, gst, ofS, offB, c11, hc17]; done) | (simp [fo, rg, ns, nB, ps, gst, ofS, offB, c11, hc17]; omega)) ht14000_σ_1 | exact tk_eq (k := (rg wt (nI 0) (nI 10))) (by exact hS0) ht14000_σ_1 | fail), (by exact hcFR_σ_1)⟩)
    ·
      refine g_tsw (off := 128) (tgt := 145) h dX11_many_17 (nI 8) (by rw [hc17]) (by decide) (by decide) (by decide +kernel) (by decide) ?_
      refine g_aload_n h dX11_many_145 0 rfl ?_
      refine g_geti h dX11_many_146 gX11_150 sc_12 rfl ?_
      refine g_top (y := (nI mk)) (by first | exact ht14001_σ_1 | assumption) ?_
      exact g_iret h hQ dX11_many_149 (congrArg (fun z => some (Value.int z)) (show (an (rg wt (nI 0) (nI 10)) (v_many μ mk (toN wt))) = (nI mk) by first | exact an_yes (by exact hS0) (by first | rfl | (simp [v_many, c11, hc17]; done) | (simp [v_many, c11, hc17]; rfl)) | exact an_no (k := (rg wt (nI 0) (nI 10))) (by first | rfl | (simp [fo, rg, ns, nB, ps, gst, ofS, offB, c11, hc17]; done) | (simp [fo, rg, ns, nB, ps, gst, ofS, offB, c11, hc17]; omega)) (by first | decide | omega | assumption | exact nb1 (by assumption)) | fail)) (by exact ⟨(by first | exact tk_eq (k := (rg wt (nI 0) (nI 10))) (by first | rfl | (simp [fo, rg, ns, nB, ps, gst, ofS, offB, c11, hc17]; done) | (simp [fo, rg, ns, nB, ps, gst, ofS, offB, c11, hc17]; omega)) ht14000_σ_1 | exact tk_eq (k := (rg wt (nI 0) (nI 10))) (by exact hS0) ht14000_σ_1 | fail), (by exact hcFR_σ_1)⟩)
    ·
      refine g_tsw (off := 133) (tgt := 150) h dX11_many_17 (nI 9) (by rw [hc17]) (by decide) (by decide) (by decide +kernel) (by decide) ?_
      refine g_aload_n h dX11_many_150 0 rfl ?_
      refine g_getr h dX11_many_151 gX11_23 sc_12 rfl ?_
      refine g_geti h dX11_many_154 gX11_153 (sM_0 (m := 0) (by decide)) rfl ?_
      refine g_top (y := μ 5) (vw_pic (b := (vb 0)) (k := 5) (by first | exact hvσ_1 | assumption) (by omega)) ?_
      exact g_iret h hQ dX11_many_157 (congrArg (fun z => some (Value.int z)) (show (an (rg wt (nI 0) (nI 10)) (v_many μ mk (toN wt))) = (μ 5) by first | exact an_yes (by exact hS0) (by first | rfl | (simp [v_many, c11, hc17]; done) | (simp [v_many, c11, hc17]; rfl)) | exact an_no (k := (rg wt (nI 0) (nI 10))) (by first | rfl | (simp [fo, rg, ns, nB, ps, gst, ofS, offB, c11, hc17]; done) | (simp [fo, rg, ns, nB, ps, gst, ofS, offB, c11, hc17]; omega)) (by first | decide | omega | assumption | exact nb1 (by assumption)) | fail)) (by exact ⟨(by first | exact tk_eq (k := (rg wt (nI 0) (nI 10))) (by first | rfl | (simp [fo, rg, ns, nB, ps, gst, ofS, offB, c11, hc17]; done) | (simp [fo, rg, ns, nB, ps, gst, ofS, offB, c11, hc17]; omega)) ht14000_σ_1 | exact tk_eq (k := (rg wt (nI 0) (nI 10))) (by exact hS0) ht14000_σ_1 | fail), (by exact hcFR_σ_1)⟩)
    ·
      refine g_tswOut (tgt := 158) h dX11_many_17 (by rw [hc17]; decide) (by decide) ?_
      refine g_aload_n h dX11_many_158 0 rfl ?_
      refine g_getr h dX11_many_159 gX11_23 sc_12 rfl ?_
      refine g_geti h dX11_many_162 gX11_156 (sM_0 (m := 0) (by decide)) rfl ?_
      refine g_top (y := μ 6) (vw_pic (b := (vb 0)) (k := 6) (by first | exact hvσ_1 | assumption) (by omega)) ?_
      exact g_iret h hQ dX11_many_165 (congrArg (fun z => some (Value.int z)) (show (an (rg wt (nI 0) (nI 10)) (v_many μ mk (toN wt))) = (μ 6) by first | exact an_yes (by exact hS0) (by first | rfl | (simp [v_many, c11, hc17]; done) | (simp [v_many, c11, hc17]; rfl)) | exact an_no (k := (rg wt (nI 0) (nI 10))) (by first | rfl | (simp [fo, rg, ns, nB, ps, gst, ofS, offB, c11, hc17]; done) | (simp [fo, rg, ns, nB, ps, gst, ofS, offB, c11, hc17]; omega)) (by first | decide | omega | assumption | exact nb1 (by assumption)) | fail)) (by exact ⟨(by first | exact tk_eq (k := (rg wt (nI 0) (nI 10))) (by first | rfl | (simp [fo, rg, ns, nB, ps, gst, ofS, offB, c11, hc17]; done) | (simp [fo, rg, ns, nB, ps, gst, ofS, offB, c11, hc17]; omega)) ht14000_σ_1 | exact tk_eq (k := (rg wt (nI 0) (nI 10))) (by exact hS0) ht14000_σ_1 | fail), (by exact hcFR_σ_1)⟩)
  ·
    refine g_iconstv h dX11_many_14 (v := (-1)) (by decide) ?_
    exact g_iret h hQ dX11_many_15 (congrArg (fun z => some (Value.int z)) (show (an (rg wt (nI 0) (nI 10)) (v_many μ mk (toN wt))) = (-1) by first | exact an_yes (by exact hS0) (by first | rfl | (simp [v_many, c11]; done) | (simp [v_many, c11]; rfl)) | exact an_no (k := (rg wt (nI 0) (nI 10))) (by first | rfl | (simp [fo, rg, ns, nB, ps, gst, ofS, offB, c11]; done) | (simp [fo, rg, ns, nB, ps, gst, ofS, offB, c11]; omega)) (by first | decide | omega | assumption | exact nb1 (by assumption)) | fail)) (by exact ⟨(by first | exact tk_eq (k := (rg wt (nI 0) (nI 10))) (by first | rfl | (simp [fo, rg, ns, nB, ps, gst, ofS, offB, c11]; done) | (simp [fo, rg, ns, nB, ps, gst, ofS, offB, c11]; omega)) ht14000_σ_1 | exact tk_eq (k := (rg wt (nI 0) (nI 10))) (by exact hS0) ht14000_σ_1 | fail), (by exact hcFR_σ_1)⟩)

set_option maxRecDepth 100000 in
set_option maxHeartbeats 4000000 in
theorem q_link {l : Launch} {w : Wd} (hW : Wi w) {σ : Mem} (i : Int32) (j : Int32) (wt : Int32)  (μ : Nat → Int32) (hv : vw 0 σ = μ) (hI : MI μ) : MC l w qX12_link 3 [.ref (w.1 0), .int i, .int j, .int wt] σ (some (.int (an (fo (rg wt (nI 0) (nI 5)) (ps μ i j)) (v_link μ (toN i) (toN j) (toN wt))))) (fun σ' => (σ' 4000 = (nI (fo (rg wt (nI 0) (nI 5)) (ps μ i j)))) ∧ (∀ a, ((a < 4900 ∨ 6000 ≤ a) ∧ a ≠ 4000) → σ' a = σ a)) := by
  refine MC.of hW (by decide +kernel) (Nat.le_of_ble_eq_true rfl) (fun X h hQ hnm => ?_)
  have h : Fx X w cX12_link 5 RX12 3 := h
  have hQ : Qx X w (some .int) (some (.int (an (fo (rg wt (nI 0) (nI 5)) (ps μ i j)) (v_link μ (toN i) (toN j) (toN wt))))) (fun σ' => (σ' 4000 = (nI (fo (rg wt (nI 0) (nI 5)) (ps μ i j)))) ∧ (∀ a, ((a < 4900 ∨ 6000 ≤ a) ∧ a ≠ 4000) → σ' a = σ a)) := hQ
  have hN8 := mi_8 hI
  have hps := ps_lt (μ := μ) (a := i) (b := j)
  have hcFR_σ : ∀ a, ((a < 4900 ∨ 6000 ≤ a) ∧ a ≠ 4000) → σ a = σ a := fun _ _ => rfl
  show G X w 5 0 [(0, .ref (w.1 0)), (1, .int i), (2, .int j), (3, .int wt)] [] σ
  refine g_iload_n h dX12_link_0 3 rfl ?_
  refine g_iconst h dX12_link_1 (by decide) ?_
  refine g_iconst h dX12_link_2 (by decide) ?_
  refine g_cspi (rest := []) h (r_isFrom hW wt (nI 0) (nI 5) ) lX12_isFrom mX12_134 (Nat.lt_of_lt_of_le (by decide) (Nat.le_refl _)) (by decide) rfl rfl rfl dX12_link_3 ?_
  refine g_ifB_ne h dX12_link_6 (fun c6 => ?_) (fun c6 => ?_)
  ·
    refine g_aload_n h dX12_link_13 0 rfl ?_
    refine g_iload_n h dX12_link_14 1 rfl ?_
    refine g_iload_n h dX12_link_15 2 rfl ?_
    refine g_cvpi (rest := []) h (r_ps hW i j μ (by first | exact hv | assumption | fail)) lX12_wrongTwo mX12_290 (Nat.lt_of_lt_of_le (by decide) (Nat.le_refl _)) (by decide) sc_0 rfl rfl rfl rfl dX12_link_16 ?_
    refine g_istore (L' := [(0, .ref (w.1 0)), (1, .int i), (2, .int j), (3, .int wt), (4, .int (nI (ps μ i j)))]) h dX12_link_19 rfl (by decide) rfl ?_
    refine g_iload h dX12_link_21 4 rfl ?_
    refine g_ifN_le h dX12_link_23 (by omega) (fun c23 => ?_) (fun c23 => ?_)
    ·
      obtain ⟨ew, hw9⟩ := fr_N (by decide) c6
      have hp0 : ps μ i j = 0 := by omega
      have h0 := ps_0 hp0
      obtain ⟨ei, hi9⟩ := nB_N hI h0.1
      obtain ⟨ej, hj9⟩ := nB_N hI h0.2.1
      rw [hp0]
      rw [ei, ej, ew]
      show G X w 5 33 [(0, .ref (w.1 0)), (1, .int (nI (toN i))), (2, .int (nI (toN j))), (3, .int (nI (toN wt))), (4, .int (nI 0))] [] σ
      refine g_iload_n h dX12_link_33 3 rfl ?_
      rcases (show toN wt = 0 ∨ toN wt = 1 ∨ toN wt = 2 ∨ toN wt = 3 ∨ toN wt = 4 ∨ toN wt = 5 by omega) with hc34 | hc34 | hc34 | hc34 | hc34 | hc34
      ·
        refine g_tsw (off := 34) (tgt := 68) h dX12_link_34 (nI 0) (by rw [hc34]) (by decide) (by decide) (by decide +kernel) (by decide) ?_
        refine g_aload_n h dX12_link_68 0 rfl ?_
        refine g_aload_n h dX12_link_69 0 rfl ?_
        refine g_bipush h dX12_link_70 (by decide) ?_
        refine g_iload_n h dX12_link_72 1 rfl ?_
        refine g_iload_n h dX12_link_73 2 rfl ?_
        refine g_cspi (rest := [.ref (w.1 0), .ref (w.1 0)]) h (r_two hW 80 (toN i) (toN j) ) lX12_two mX12_69 (Nat.lt_of_lt_of_le (by decide) (Nat.le_refl _)) (by decide) rfl rfl rfl dX12_link_74 ?_
        refine g_cvpi (rest := [.ref (w.1 0)]) h (r_of hW (80 + (8 * (toN i) + (toN j))) μ (by assumption) (by omega)) lX12_of mX12_61 (Nat.lt_of_lt_of_le (by decide) (Nat.le_refl _)) (by decide) sc_0 rfl rfl rfl rfl dX12_link_77 ?_
        refine g_cvi (rest := []) h (r_gives hW (μ (80 + (8 * (toN i) + (toN j)))) ) lX12_gives mX12_281 (Nat.lt_of_lt_of_le (by decide) (Nat.le_refl _)) (by decide) sc_0 rfl rfl rfl rfl dX12_link_80 (fun σ_1 eσ_1 => ?_)
        have eσ_1_a : σ_1 = upd σ 4000 (nI 0) := eσ_1
        have ht4000_σ_1 : σ_1 4000 = (nI 0) := by rw [eσ_1_a]; exact upd_eq
        have hcFR_σ_1 : ∀ a, ((a < 4900 ∨ 6000 ≤ a) ∧ a ≠ 4000) → σ_1 a = σ a := by intro a ha; exact Eq.trans (b := σ a) (by rw [eσ_1_a, upd_ne (by first | omega | (simp only [vb] at *; omega))]) (hcFR_σ a ha)
        have hvσ_1 : vw 0 σ_1 = μ := by rw [eσ_1_a, vw_out (by omega)]; first | exact hv | assumption
        exact g_iret h hQ dX12_link_83 (congrArg (fun z => some (Value.int z)) (show (an (fo (rg wt (nI 0) (nI 5)) (ps μ i j)) (v_link μ (toN i) (toN j) (toN wt))) = (μ (80 + (8 * (toN i) + (toN j)))) by first | exact an_yes (by first | (simp [fo, rg, c6, hp0]; done) | (first | rfl | (simp [fo, rg, ns, nB, ps, gst, ofS, offB, c6, c23, hc34]; done) | (simp [fo, rg, ns, nB, ps, gst, ofS, offB, c6, c23, hc34]; omega))) (by first | rfl | (simp [v_link, c6, c23, hc34]; done) | (simp [v_link, c6, c23, hc34]; rfl)) | exact an_no (k := 0) (by first | rfl | (simp [fo, rg, ns, nB, ps, gst, ofS, offB, c6, c23, hc34]; done) | (simp [fo, rg, ns, nB, ps, gst, ofS, offB, c6, c23, hc34]; omega)) (by first | decide | omega | assumption | exact nb1 (by assumption)) | fail)) (by exact ⟨(by first | exact tk_eq (k := 0) (by first | rfl | (simp [fo, rg, ns, nB, ps, gst, ofS, offB, c6, c23, hc34]; done) | (simp [fo, rg, ns, nB, ps, gst, ofS, offB, c6, c23, hc34]; omega)) ht4000_σ_1 | exact tk_eq (k := 0) (by first | (simp [fo, rg, c6, hp0]; done) | (first | rfl | (simp [fo, rg, ns, nB, ps, gst, ofS, offB, c6, c23, hc34]; done) | (simp [fo, rg, ns, nB, ps, gst, ofS, offB, c6, c23, hc34]; omega))) ht4000_σ_1 | fail), (by exact hcFR_σ_1)⟩)
      ·
        refine g_tsw (off := 50) (tgt := 84) h dX12_link_34 (nI 1) (by rw [hc34]) (by decide) (by decide) (by decide +kernel) (by decide) ?_
        refine g_aload_n h dX12_link_84 0 rfl ?_
        refine g_aload_n h dX12_link_85 0 rfl ?_
        refine g_bipush h dX12_link_86 (by decide) ?_
        refine g_iload_n h dX12_link_88 1 rfl ?_
        refine g_iaddN h dX12_link_89  ?_
        refine g_cvpi (rest := [.ref (w.1 0)]) h (r_of hW (56 + toN i) μ (by assumption) (by omega)) lX12_of mX12_61 (Nat.lt_of_lt_of_le (by decide) (Nat.le_refl _)) (by decide) sc_0 rfl rfl rfl rfl dX12_link_90 ?_
        refine g_iload_n h dX12_link_93 2 rfl ?_
        refine g_ishr h dX12_link_94  ?_
        refine g_iconst h dX12_link_95 (by decide) ?_
        refine g_iand h dX12_link_96  ?_
        refine g_top (y := (b2i (tb (μ (56 + toN i)) (toN j)))) (has_eq (by omega)) ?_
        refine g_cvi (rest := []) h (r_gives hW (b2i (tb (μ (56 + toN i)) (toN j))) ) lX12_gives mX12_281 (Nat.lt_of_lt_of_le (by decide) (Nat.le_refl _)) (by decide) sc_0 rfl rfl rfl rfl dX12_link_97 (fun σ_2 eσ_2 => ?_)
        have eσ_2_a : σ_2 = upd σ 4000 (nI 0) := eσ_2
        have ht4000_σ_2 : σ_2 4000 = (nI 0) := by rw [eσ_2_a]; exact upd_eq
        have hcFR_σ_2 : ∀ a, ((a < 4900 ∨ 6000 ≤ a) ∧ a ≠ 4000) → σ_2 a = σ a := by intro a ha; exact Eq.trans (b := σ a) (by rw [eσ_2_a, upd_ne (by first | omega | (simp only [vb] at *; omega))]) (hcFR_σ a ha)
        have hvσ_2 : vw 0 σ_2 = μ := by rw [eσ_2_a, vw_out (by omega)]; first | exact hv | assumption
        exact g_iret h hQ dX12_link_100 (congrArg (fun z => some (Value.int z)) (show (an (fo (rg wt (nI 0) (nI 5)) (ps μ i j)) (v_link μ (toN i) (toN j) (toN wt))) = (b2i (tb (μ (56 + toN i)) (toN j))) by first | exact an_yes (by first | (simp [fo, rg, c6, hp0]; done) | (first | rfl | (simp [fo, rg, ns, nB, ps, gst, ofS, offB, c6, c23, hc34]; done) | (simp [fo, rg, ns, nB, ps, gst, ofS, offB, c6, c23, hc34]; omega))) (by first | rfl | (simp [v_link, c6, c23, hc34]; done) | (simp [v_link, c6, c23, hc34]; rfl)) | exact an_no (k := 0) (by first | rfl | (simp [fo, rg, ns, nB, ps, gst, ofS, offB, c6, c23, hc34]; done) | (simp [fo, rg, ns, nB, ps, gst, ofS, offB, c6, c23, hc34]; omega)) (by first | decide | omega | assumption | exact nb1 (by assumption)) | fail)) (by exact ⟨(by first | exact tk_eq (k := 0) (by first | rfl | (simp [fo, rg, ns, nB, ps, gst, ofS, offB, c6, c23, hc34]; done) | (simp [fo, rg, ns, nB, ps, gst, ofS, offB, c6, c23, hc34]; omega)) ht4000_σ_2 | exact tk_eq (k := 0) (by first | (simp [fo, rg, c6, hp0]; done) | (first | rfl | (simp [fo, rg, ns, nB, ps, gst, ofS, offB, c6, c23, hc34]; done) | (simp [fo, rg, ns, nB, ps, gst, ofS, offB, c6, c23, hc34]; omega))) ht4000_σ_2 | fail), (by exact hcFR_σ_2)⟩)
      ·
        refine g_tsw (off := 67) (tgt := 101) h dX12_link_34 (nI 2) (by rw [hc34]) (by decide) (by decide) (by decide +kernel) (by decide) ?_
        refine g_aload_n h dX12_link_101 0 rfl ?_
        refine g_aload_n h dX12_link_102 0 rfl ?_
        refine g_bipush h dX12_link_103 (by decide) ?_
        refine g_iload_n h dX12_link_105 1 rfl ?_
        refine g_iaddN h dX12_link_106  ?_
        refine g_cvpi (rest := [.ref (w.1 0)]) h (r_of hW (64 + toN i) μ (by assumption) (by omega)) lX12_of mX12_61 (Nat.lt_of_lt_of_le (by decide) (Nat.le_refl _)) (by decide) sc_0 rfl rfl rfl rfl dX12_link_107 ?_
        refine g_iload_n h dX12_link_110 2 rfl ?_
        refine g_ishr h dX12_link_111  ?_
        refine g_iconst h dX12_link_112 (by decide) ?_
        refine g_iand h dX12_link_113  ?_
        refine g_top (y := (b2i (tb (μ (64 + toN i)) (toN j)))) (has_eq (by omega)) ?_
        refine g_cvi (rest := []) h (r_gives hW (b2i (tb (μ (64 + toN i)) (toN j))) ) lX12_gives mX12_281 (Nat.lt_of_lt_of_le (by decide) (Nat.le_refl _)) (by decide) sc_0 rfl rfl rfl rfl dX12_link_114 (fun σ_3 eσ_3 => ?_)
        have eσ_3_a : σ_3 = upd σ 4000 (nI 0) := eσ_3
        have ht4000_σ_3 : σ_3 4000 = (nI 0) := by rw [eσ_3_a]; exact upd_eq
        have hcFR_σ_3 : ∀ a, ((a < 4900 ∨ 6000 ≤ a) ∧ a ≠ 4000) → σ_3 a = σ a := by intro a ha; exact Eq.trans (b := σ a) (by rw [eσ_3_a, upd_ne (by first | omega | (simp only [vb] at *; omega))]) (hcFR_σ a ha)
        have hvσ_3 : vw 0 σ_3 = μ := by rw [eσ_3_a, vw_out (by omega)]; first | exact hv | assumption
        exact g_iret h hQ dX12_link_117 (congrArg (fun z => some (Value.int z)) (show (an (fo (rg wt (nI 0) (nI 5)) (ps μ i j)) (v_link μ (toN i) (toN j) (toN wt))) = (b2i (tb (μ (64 + toN i)) (toN j))) by first | exact an_yes (by first | (simp [fo, rg, c6, hp0]; done) | (first | rfl | (simp [fo, rg, ns, nB, ps, gst, ofS, offB, c6, c23, hc34]; done) | (simp [fo, rg, ns, nB, ps, gst, ofS, offB, c6, c23, hc34]; omega))) (by first | rfl | (simp [v_link, c6, c23, hc34]; done) | (simp [v_link, c6, c23, hc34]; rfl)) | exact an_no (k := 0) (by first | rfl | (simp [fo, rg, ns, nB, ps, gst, ofS, offB, c6, c23, hc34]; done) | (simp [fo, rg, ns, nB, ps, gst, ofS, offB, c6, c23, hc34]; omega)) (by first | decide | omega | assumption | exact nb1 (by assumption)) | fail)) (by exact ⟨(by first | exact tk_eq (k := 0) (by first | rfl | (simp [fo, rg, ns, nB, ps, gst, ofS, offB, c6, c23, hc34]; done) | (simp [fo, rg, ns, nB, ps, gst, ofS, offB, c6, c23, hc34]; omega)) ht4000_σ_3 | exact tk_eq (k := 0) (by first | (simp [fo, rg, c6, hp0]; done) | (first | rfl | (simp [fo, rg, ns, nB, ps, gst, ofS, offB, c6, c23, hc34]; done) | (simp [fo, rg, ns, nB, ps, gst, ofS, offB, c6, c23, hc34]; omega))) ht4000_σ_3 | fail), (by exact hcFR_σ_3)⟩)
      ·
        refine g_tsw (off := 84) (tgt := 118) h dX12_link_34 (nI 3) (by rw [hc34]) (by decide) (by decide) (by decide +kernel) (by decide) ?_
        refine g_aload_n h dX12_link_118 0 rfl ?_
        refine g_aload_n h dX12_link_119 0 rfl ?_
        refine g_sipush h dX12_link_120 (by decide) ?_
        refine g_iload_n h dX12_link_123 1 rfl ?_
        refine g_iload_n h dX12_link_124 2 rfl ?_
        refine g_cspi (rest := [.ref (w.1 0), .ref (w.1 0)]) h (r_two hW 144 (toN i) (toN j) ) lX12_two mX12_69 (Nat.lt_of_lt_of_le (by decide) (Nat.le_refl _)) (by decide) rfl rfl rfl dX12_link_125 ?_
        refine g_cvpi (rest := [.ref (w.1 0)]) h (r_of hW (144 + (8 * (toN i) + (toN j))) μ (by assumption) (by omega)) lX12_of mX12_61 (Nat.lt_of_lt_of_le (by decide) (Nat.le_refl _)) (by decide) sc_0 rfl rfl rfl rfl dX12_link_128 ?_
        refine g_cvi (rest := []) h (r_gives hW (μ (144 + (8 * (toN i) + (toN j)))) ) lX12_gives mX12_281 (Nat.lt_of_lt_of_le (by decide) (Nat.le_refl _)) (by decide) sc_0 rfl rfl rfl rfl dX12_link_131 (fun σ_4 eσ_4 => ?_)
        have eσ_4_a : σ_4 = upd σ 4000 (nI 0) := eσ_4
        have ht4000_σ_4 : σ_4 4000 = (nI 0) := by rw [eσ_4_a]; exact upd_eq
        have hcFR_σ_4 : ∀ a, ((a < 4900 ∨ 6000 ≤ a) ∧ a ≠ 4000) → σ_4 a = σ a := by intro a ha; exact Eq.trans (b := σ a) (by rw [eσ_4_a, upd_ne (by first | omega | (simp only [vb] at *; omega))]) (hcFR_σ a ha)
        have hvσ_4 : vw 0 σ_4 = μ := by rw [eσ_4_a, vw_out (by omega)]; first | exact hv | assumption
        exact g_iret h hQ dX12_link_134 (congrArg (fun z => some (Value.int z)) (show (an (fo (rg wt (nI 0) (nI 5)) (ps μ i j)) (v_link μ (toN i) (toN j) (toN wt))) = (μ (144 + (8 * (toN i) + (toN j)))) by first | exact an_yes (by first | (simp [fo, rg, c6, hp0]; done) | (first | rfl | (simp [fo, rg, ns, nB, ps, gst, ofS, offB, c6, c23, hc34]; done) | (simp [fo, rg, ns, nB, ps, gst, ofS, offB, c6, c23, hc34]; omega))) (by first | rfl | (simp [v_link, c6, c23, hc34]; done) | (simp [v_link, c6, c23, hc34]; rfl)) | exact an_no (k := 0) (by first | rfl | (simp [fo, rg, ns, nB, ps, gst, ofS, offB, c6, c23, hc34]; done) | (simp [fo, rg, ns, nB, ps, gst, ofS, offB, c6, c23, hc34]; omega)) (by first | decide | omega | assumption | exact nb1 (by assumption)) | fail)) (by exact ⟨(by first | exact tk_eq (k := 0) (by first | rfl | (simp [fo, rg, ns, nB, ps, gst, ofS, offB, c6, c23, hc34]; done) | (simp [fo, rg, ns, nB, ps, gst, ofS, offB, c6, c23, hc34]; omega)) ht4000_σ_4 | exact tk_eq (k := 0) (by first | (simp [fo, rg, c6, hp0]; done) | (first | rfl | (simp [fo, rg, ns, nB, ps, gst, ofS, offB, c6, c23, hc34]; done) | (simp [fo, rg, ns, nB, ps, gst, ofS, offB, c6, c23, hc34]; omega))) ht4000_σ_4 | fail), (by exact hcFR_σ_4)⟩)
      ·
        refine g_tsw (off := 101) (tgt := 135) h dX12_link_34 (nI 4) (by rw [hc34]) (by decide) (by decide) (by decide +kernel) (by decide) ?_
        refine g_aload_n h dX12_link_135 0 rfl ?_
        refine g_aload_n h dX12_link_136 0 rfl ?_
        refine g_bipush h dX12_link_137 (by decide) ?_
        refine g_iload_n h dX12_link_139 1 rfl ?_
        refine g_iaddN h dX12_link_140  ?_
        refine g_cvpi (rest := [.ref (w.1 0)]) h (r_of hW (72 + toN i) μ (by assumption) (by omega)) lX12_of mX12_61 (Nat.lt_of_lt_of_le (by decide) (Nat.le_refl _)) (by decide) sc_0 rfl rfl rfl rfl dX12_link_141 ?_
        refine g_iload_n h dX12_link_144 2 rfl ?_
        refine g_ishr h dX12_link_145  ?_
        refine g_iconst h dX12_link_146 (by decide) ?_
        refine g_iand h dX12_link_147  ?_
        refine g_top (y := (b2i (tb (μ (72 + toN i)) (toN j)))) (has_eq (by omega)) ?_
        refine g_cvi (rest := []) h (r_gives hW (b2i (tb (μ (72 + toN i)) (toN j))) ) lX12_gives mX12_281 (Nat.lt_of_lt_of_le (by decide) (Nat.le_refl _)) (by decide) sc_0 rfl rfl rfl rfl dX12_link_148 (fun σ_5 eσ_5 => ?_)
        have eσ_5_a : σ_5 = upd σ 4000 (nI 0) := eσ_5
        have ht4000_σ_5 : σ_5 4000 = (nI 0) := by rw [eσ_5_a]; exact upd_eq
        have hcFR_σ_5 : ∀ a, ((a < 4900 ∨ 6000 ≤ a) ∧ a ≠ 4000) → σ_5 a = σ a := by intro a ha; exact Eq.trans (b := σ a) (by rw [eσ_5_a, upd_ne (by first | omega | (simp only [vb] at *; omega))]) (hcFR_σ a ha)
        have hvσ_5 : vw 0 σ_5 = μ := by rw [eσ_5_a, vw_out (by omega)]; first | exact hv | assumption
        exact g_iret h hQ dX12_link_151 (congrArg (fun z => some (Value.int z)) (show (an (fo (rg wt (nI 0) (nI 5)) (ps μ i j)) (v_link μ (toN i) (toN j) (toN wt))) = (b2i (tb (μ (72 + toN i)) (toN j))) by first | exact an_yes (by first | (simp [fo, rg, c6, hp0]; done) | (first | rfl | (simp [fo, rg, ns, nB, ps, gst, ofS, offB, c6, c23, hc34]; done) | (simp [fo, rg, ns, nB, ps, gst, ofS, offB, c6, c23, hc34]; omega))) (by first | rfl | (simp [v_link, c6, c23, hc34]; done) | (simp [v_link, c6, c23, hc34]; rfl)) | exact an_no (k := 0) (by first | rfl | (simp [fo, rg, ns, nB, ps, gst, ofS, offB, c6, c23, hc34]; done) | (simp [fo, rg, ns, nB, ps, gst, ofS, offB, c6, c23, hc34]; omega)) (by first | decide | omega | assumption | exact nb1 (by assumption)) | fail)) (by exact ⟨(by first | exact tk_eq (k := 0) (by first | rfl | (simp [fo, rg, ns, nB, ps, gst, ofS, offB, c6, c23, hc34]; done) | (simp [fo, rg, ns, nB, ps, gst, ofS, offB, c6, c23, hc34]; omega)) ht4000_σ_5 | exact tk_eq (k := 0) (by first | (simp [fo, rg, c6, hp0]; done) | (first | rfl | (simp [fo, rg, ns, nB, ps, gst, ofS, offB, c6, c23, hc34]; done) | (simp [fo, rg, ns, nB, ps, gst, ofS, offB, c6, c23, hc34]; omega))) ht4000_σ_5 | fail), (by exact hcFR_σ_5)⟩)
      ·
        refine g_tswOut (tgt := 152) h dX12_link_34 (by rw [hc34]; decide) (by decide) ?_
        refine g_aload_n h dX12_link_152 0 rfl ?_
        refine g_aload_n h dX12_link_153 0 rfl ?_
        refine g_sipush h dX12_link_154 (by decide) ?_
        refine g_iload_n h dX12_link_157 2 rfl ?_
        refine g_iload_n h dX12_link_158 1 rfl ?_
        refine g_cspi (rest := [.ref (w.1 0), .ref (w.1 0)]) h (r_two hW 208 (toN j) (toN i) ) lX12_two mX12_69 (Nat.lt_of_lt_of_le (by decide) (Nat.le_refl _)) (by decide) rfl rfl rfl dX12_link_159 ?_
        refine g_cvpi (rest := [.ref (w.1 0)]) h (r_of hW (208 + (8 * (toN j) + (toN i))) μ (by assumption) (by omega)) lX12_of mX12_61 (Nat.lt_of_lt_of_le (by decide) (Nat.le_refl _)) (by decide) sc_0 rfl rfl rfl rfl dX12_link_162 ?_
        refine g_cvi (rest := []) h (r_gives hW (μ (208 + (8 * (toN j) + (toN i)))) ) lX12_gives mX12_281 (Nat.lt_of_lt_of_le (by decide) (Nat.le_refl _)) (by decide) sc_0 rfl rfl rfl rfl dX12_link_165 (fun σ_6 eσ_6 => ?_)
        have eσ_6_a : σ_6 = upd σ 4000 (nI 0) := eσ_6
        have ht4000_σ_6 : σ_6 4000 = (nI 0) := by rw [eσ_6_a]; exact upd_eq
        have hcFR_σ_6 : ∀ a, ((a < 4900 ∨ 6000 ≤ a) ∧ a ≠ 4000) → σ_6 a = σ a := by intro a ha; exact Eq.trans (b := σ a) (by rw [eσ_6_a, upd_ne (by first | omega | (simp only [vb] at *; omega))]) (hcFR_σ a ha)
        have hvσ_6 : vw 0 σ_6 = μ := by rw [eσ_6_a, vw_out (by omega)]; first | exact hv | assumption
        exact g_iret h hQ dX12_link_168 (congrArg (fun z => some (Value.int z)) (show (an (fo (rg wt (nI 0) (nI 5)) (ps μ i j)) (v_link μ (toN i) (toN j) (toN wt))) = (μ (208 + (8 * (toN j) + (toN i)))) by first | exact an_yes (by first | (simp [fo, rg, c6, hp0]; done) | (first | rfl | (simp [fo, rg, ns, nB, ps, gst, ofS, offB, c6, c23, hc34]; done) | (simp [fo, rg, ns, nB, ps, gst, ofS, offB, c6, c23, hc34]; omega))) (by first | rfl | (simp [v_link, c6, c23, hc34]; done) | (simp [v_link, c6, c23, hc34]; rfl)) | exact an_no (k := 0) (by first | rfl | (simp [fo, rg, ns, nB, ps, gst, ofS, offB, c6, c23, hc34]; done) | (simp [fo, rg, ns, nB, ps, gst, ofS, offB, c6, c23, hc34]; omega)) (by first | decide | omega | assumption | exact nb1 (by assumption)) | fail)) (by exact ⟨(by first | exact tk_eq (k := 0) (by first | rfl | (simp [fo, rg, ns, nB, ps, gst, ofS, offB, c6, c23, hc34]; done) | (simp [fo, rg, ns, nB, ps, gst, ofS, offB, c6, c23, hc34]; omega)) ht4000_σ_6 | exact tk_eq (k := 0) (by first | (simp [fo, rg, c6, hp0]; done) | (first | rfl | (simp [fo, rg, ns, nB, ps, gst, ofS, offB, c6, c23, hc34]; done) | (simp [fo, rg, ns, nB, ps, gst, ofS, offB, c6, c23, hc34]; omega))) ht4000_σ_6 | fail), (by exact hcFR_σ_6)⟩)
    ·
      refine g_aload_n h dX12_link_26 0 rfl ?_
      refine g_iload h dX12_link_27 4 rfl ?_
      refine g_cvi (rest := []) h (r_refuse hW (nI (ps μ i j)) ) lX12_refuse mX12_272 (Nat.lt_of_lt_of_le (by decide) (Nat.le_refl _)) (by decide) sc_0 rfl rfl rfl rfl dX12_link_29 (fun σ_7 eσ_7 => ?_)
      have eσ_7_a : σ_7 = upd σ 4000 (nI (ps μ i j)) := eσ_7
      have ht4000_σ_7 : σ_7 4000 = (nI (ps μ i j)) := by rw [eσ_7_a]; exact upd_eq
      have hcFR_σ_7 : ∀ a, ((a < 4900 ∨ 6000 ≤ a) ∧ a ≠ 4000) → σ_7 a = σ a := by intro a ha; exact Eq.trans (b := σ a) (by rw [eσ_7_a, upd_ne (by first | omega | (simp only [vb] at *; omega))]) (hcFR_σ a ha)
      have hvσ_7 : vw 0 σ_7 = μ := by rw [eσ_7_a, vw_out (by omega)]; first | exact hv | assumption
      exact g_iret h hQ dX12_link_32 (congrArg (fun z => some (Value.int z)) (show (an (fo (rg wt (nI 0) (nI 5)) (ps μ i j)) (v_link μ (toN i) (toN j) (toN wt))) = (-1) by first | exact an_yes (by first | (simp [fo, rg, c6, hp0]; done) | (first | rfl | (simp [fo, rg, ns, nB, ps, gst, ofS, offB, c6, c23]; done) | (simp [fo, rg, ns, nB, ps, gst, ofS, offB, c6, c23]; omega))) (by first | rfl | (simp [v_link, c6, c23]; done) | (simp [v_link, c6, c23]; rfl)) | exact an_no (k := (ps μ i j)) (by first | rfl | (simp [fo, rg, ns, nB, ps, gst, ofS, offB, c6, c23]; done) | (simp [fo, rg, ns, nB, ps, gst, ofS, offB, c6, c23]; omega)) (by first | decide | omega | assumption | exact nb1 (by assumption)) | fail)) (by exact ⟨(by first | exact tk_eq (k := (ps μ i j)) (by first | rfl | (simp [fo, rg, ns, nB, ps, gst, ofS, offB, c6, c23]; done) | (simp [fo, rg, ns, nB, ps, gst, ofS, offB, c6, c23]; omega)) ht4000_σ_7 | exact tk_eq (k := (ps μ i j)) (by first | (simp [fo, rg, c6, hp0]; done) | (first | rfl | (simp [fo, rg, ns, nB, ps, gst, ofS, offB, c6, c23]; done) | (simp [fo, rg, ns, nB, ps, gst, ofS, offB, c6, c23]; omega))) ht4000_σ_7 | fail), (by exact hcFR_σ_7)⟩)
  ·
    refine g_iconst h dX12_link_9 (by decide) ?_
    refine g_goto h dX12_link_10 ?_
    refine g_istore (L' := [(0, .ref (w.1 0)), (1, .int i), (2, .int j), (3, .int wt), (4, .int (nI 1))]) h dX12_link_19 rfl (by decide) rfl ?_
    refine g_iload h dX12_link_21 4 rfl ?_
    refine g_ifN_le h dX12_link_23 (by decide) (fun c23 => absurd c23 (by decide)) (fun c23 => ?_)
    refine g_aload_n h dX12_link_26 0 rfl ?_
    refine g_iload h dX12_link_27 4 rfl ?_
    refine g_cvi (rest := []) h (r_refuse hW (nI 1) ) lX12_refuse mX12_272 (Nat.lt_of_lt_of_le (by decide) (Nat.le_refl _)) (by decide) sc_0 rfl rfl rfl rfl dX12_link_29 (fun σ_8 eσ_8 => ?_)
    have eσ_8_a : σ_8 = upd σ 4000 (nI 1) := eσ_8
    have ht4000_σ_8 : σ_8 4000 = (nI 1) := by rw [eσ_8_a]; exact upd_eq
    have hcFR_σ_8 : ∀ a, ((a < 4900 ∨ 6000 ≤ a) ∧ a ≠ 4000) → σ_8 a = σ a := by intro a ha; exact Eq.trans (b := σ a) (by rw [eσ_8_a, upd_ne (by first | omega | (simp only [vb] at *; omega))]) (hcFR_σ a ha)
    have hvσ_8 : vw 0 σ_8 = μ := by rw [eσ_8_a, vw_out (by omega)]; first | exact hv | assumption
    exact g_iret h hQ dX12_link_32 (congrArg (fun z => some (Value.int z)) (show (an (fo (rg wt (nI 0) (nI 5)) (ps μ i j)) (v_link μ (toN i) (toN j) (toN wt))) = (-1) by first | exact an_yes (by first | (simp [fo, rg, c6, hp0]; done) | (first | rfl | (simp [fo, rg, ns, nB, ps, gst, ofS, offB, c6]; done) | (simp [fo, rg, ns, nB, ps, gst, ofS, offB, c6]; omega))) (by first | rfl | (simp [v_link, c6]; done) | (simp [v_link, c6]; rfl)) | exact an_no (k := 1) (by first | rfl | (simp [fo, rg, ns, nB, ps, gst, ofS, offB, c6]; done) | (simp [fo, rg, ns, nB, ps, gst, ofS, offB, c6]; omega)) (by first | decide | omega | assumption | exact nb1 (by assumption)) | fail)) (by exact ⟨(by first | exact tk_eq (k := 1) (by first | rfl | (simp [fo, rg, ns, nB, ps, gst, ofS, offB, c6]; done) | (simp [fo, rg, ns, nB, ps, gst, ofS, offB, c6]; omega)) ht4000_σ_8 | exact tk_eq (k := 1) (by first | (simp [fo, rg, c6, hp0]; done) | (first | rfl | (simp [fo, rg, ns, nB, ps, gst, ofS, offB, c6]; done) | (simp [fo, rg, ns, nB, ps, gst, ofS, offB, c6]; omega))) ht4000_σ_8 | fail), (by exact hcFR_σ_8)⟩)

set_option maxRecDepth 100000 in
set_option maxHeartbeats 4000000 in
theorem p_link {l : Launch} {w : Wd} (hW : Wi w) {σ : Mem} (i : Int32) (j : Int32) (wt : Int32)  (μ : Nat → Int32) (hv : vw (vb 0) σ = μ) (hI : MI μ) : MC l w qX11_link 2 [.ref (w.1 12), .int i, .int j, .int wt] σ (some (.int (an (fo (rg wt (nI 0) (nI 5)) (ps μ i j)) (v_link μ (toN i) (toN j) (toN wt))))) (fun σ' => (σ' 14000 = (nI (fo (rg wt (nI 0) (nI 5)) (ps μ i j)))) ∧ (∀ a, (a < 14900 ∧ a ≠ 14000) → σ' a = σ a)) := by
  refine MC.of hW (by decide +kernel) (Nat.le_of_ble_eq_true rfl) (fun X h hQ hnm => ?_)
  have h : Fx X w cX11_link 4 RX11 2 := h
  have hQ : Qx X w (some .int) (some (.int (an (fo (rg wt (nI 0) (nI 5)) (ps μ i j)) (v_link μ (toN i) (toN j) (toN wt))))) (fun σ' => (σ' 14000 = (nI (fo (rg wt (nI 0) (nI 5)) (ps μ i j)))) ∧ (∀ a, (a < 14900 ∧ a ≠ 14000) → σ' a = σ a)) := hQ
  have hN8 := mi_8 hI
  have hcFR_σ : ∀ a, (a < 14900 ∧ a ≠ 14000) → σ a = σ a := fun _ _ => rfl
  show G X w 4 0 [(0, .ref (w.1 12)), (1, .int i), (2, .int j), (3, .int wt)] [] σ
  refine g_aload_n h dX11_link_0 0 rfl ?_
  refine g_iload_n h dX11_link_1 3 rfl ?_
  refine g_iconst h dX11_link_2 (by decide) ?_
  refine g_iconst h dX11_link_3 (by decide) ?_
  refine g_cspi (rest := [.ref (w.1 12)]) h (c_rg hW wt (nI 0) (nI 5) ) lX11_rangeStatus mX11_102 (Nat.lt_of_lt_of_le (by decide) (Nat.le_refl _)) (by decide) rfl rfl rfl dX11_link_4 ?_
  refine g_aload_n h dX11_link_7 0 rfl ?_
  refine g_iload_n h dX11_link_8 1 rfl ?_
  refine g_iload_n h dX11_link_9 2 rfl ?_
  refine g_cvpi (rest := [.int (nI (rg wt (nI 0) (nI 5))), .ref (w.1 12)]) h (c_ps hW i j μ (by first | exact hv | assumption | fail)) lX11_pairStatus mX11_209 (Nat.lt_of_lt_of_le (by decide) (Nat.le_refl _)) (by decide) sc_12 rfl rfl rfl rfl dX11_link_10 ?_
  refine g_cspi (rest := [.ref (w.1 12)]) h (c_fo hW (rg wt (nI 0) (nI 5)) (ps μ i j) (by repeat (first | omega | exact rg_lt | exact ns_lt | exact ps_lt | exact gst_lt | exact ofS_lt | exact if_lt (by decide) (by decide) | apply fo_lt)) (by repeat (first | omega | exact rg_lt | exact ns_lt | exact ps_lt | exact gst_lt | exact ofS_lt | exact if_lt (by decide) (by decide) | apply fo_lt))) lX11_firstOf mX11_163 (Nat.lt_of_lt_of_le (by decide) (Nat.le_refl _)) (by decide) rfl rfl rfl dX11_link_13 ?_
  refine g_cvi (rest := []) h (c_fails hW (fo (rg wt (nI 0) (nI 5)) (ps μ i j)) (by repeat (first | omega | exact rg_lt | exact ns_lt | exact ps_lt | exact gst_lt | exact ofS_lt | exact if_lt (by decide) (by decide) | apply fo_lt))) lX11_fails mX11_106 (Nat.lt_of_lt_of_le (by decide) (Nat.le_refl _)) (by decide) sc_12 rfl rfl rfl rfl dX11_link_16 (fun σ_1 eσ_1 => ?_)
  obtain ⟨eσ_1_a, eσ_1_b⟩ := eσ_1
  have eσ_1_a : σ_1 14000 = (nI (fo (rg wt (nI 0) (nI 5)) (ps μ i j))) := eσ_1_a
  have eσ_1_b : ∀ a, (a ≠ 14000) → σ_1 a = σ a := eσ_1_b
  have ht14000_σ_1 : σ_1 14000 = (nI (fo (rg wt (nI 0) (nI 5)) (ps μ i j))) := eσ_1_a
  have hcFR_σ_1 : ∀ a, (a < 14900 ∧ a ≠ 14000) → σ_1 a = σ a := by intro a ha; exact Eq.trans (b := σ a) (eσ_1_b a (by first | omega | (simp only [vb] at *; omega))) (hcFR_σ a ha)
  have hvσ_1 : vw (vb 0) σ_1 = μ := by rw [vw_fr (σ := σ) (fun j _ _ => eσ_1_b _ (by first | omega | (simp only [vb] at *; omega)))]; first | exact hv | assumption
  refine g_ifB_eq h dX11_link_19 (fun c19 => ?_) (fun c19 => ?_)
  ·
    have hS0 := nb0 c19
    obtain ⟨hs1, hs2⟩ := fo_0 hS0
    obtain ⟨ew, hw9⟩ := rg_N (by decide) hs1
    have h0 := ps_0 hs2
    obtain ⟨ei, hi9⟩ := nB_N hI h0.1
    obtain ⟨ej, hj9⟩ := nB_N hI h0.2.1
    rw [ei, ej, ew]
    show G X w 4 24 [(0, .ref (w.1 12)), (1, .int (nI (toN i))), (2, .int (nI (toN j))), (3, .int (nI (toN wt)))] [] σ_1
    refine g_iload_n h dX11_link_24 3 rfl ?_
    rcases (show toN wt = 0 ∨ toN wt = 1 ∨ toN wt = 2 ∨ toN wt = 3 ∨ toN wt = 4 ∨ toN wt = 5 by omega) with hc25 | hc25 | hc25 | hc25 | hc25 | hc25
    ·
      refine g_tsw (off := 35) (tgt := 60) h dX11_link_25 (nI 0) (by rw [hc25]) (by decide) (by decide) (by decide +kernel) (by decide) ?_
      refine g_aload_n h dX11_link_60 0 rfl ?_
      refine g_getr h dX11_link_61 gX11_23 sc_12 rfl ?_
      refine g_getr h dX11_link_64 gX11_181 (sM_0 (m := 0) (by decide)) rfl ?_
      refine g_getr h dX11_link_67 gX11_212 (sM_4 (m := 0) (by decide)) rfl ?_
      refine g_iload_n h dX11_link_70 1 rfl ?_
      refine g_iload_n h dX11_link_71 2 rfl ?_
      refine g_cspi (rest := [.ref (w.1 (mc 0 5))]) h (c_at hW (toN i) (toN j) ) lX5_at mX11_215 (Nat.lt_of_lt_of_le (by decide) (Nat.le_refl _)) (by decide) rfl rfl rfl dX11_link_72 ?_
      refine g_iald h dX11_link_75 (sM_5 (m := 0) (by decide)) (by omega) ?_
      refine g_top (y := μ (80 + (8 * (toN i) + (toN j)))) (vw_pic (b := (vb 0)) (k := 80 + (8 * (toN i) + (toN j))) (by first | exact hvσ_1 | assumption) (by omega)) ?_
      exact g_iret h hQ dX11_link_76 (congrArg (fun z => some (Value.int z)) (show (an (fo (rg wt (nI 0) (nI 5)) (ps μ i j)) (v_link μ (toN i) (toN j) (toN wt))) = (μ (80 + (8 * (toN i) + (toN j)))) by first | exact an_yes (by exact hS0) (by first | rfl | (simp [v_link, c19, hc25]; done) | (simp [v_link, c19, hc25]; rfl)) | exact an_no (k := (fo (rg wt (nI 0) (nI 5)) (ps μ i j))) (by first | rfl | (simp [fo, rg, ns, nB, ps, gst, ofS, offB, c19, hc25]; done) | (simp [fo, rg, ns, nB, ps, gst, ofS, offB, c19, hc25]; omega)) (by first | decide | omega | assumption | exact nb1 (by assumption)) | fail)) (by exact ⟨(by first | exact tk_eq (k := (fo (rg wt (nI 0) (nI 5)) (ps μ i j))) (by first | rfl | (simp [fo, rg, ns, nB, ps, gst, ofS, offB, c19, hc25]; done) | (simp [fo, rg, ns, nB, ps, gst, ofS, offB, c19, hc25]; omega)) ht14000_σ_1 | exact tk_eq (k := (fo (rg wt (nI 0) (nI 5)) (ps μ i j))) (by exact hS0) ht14000_σ_1 | fail), (by exact hcFR_σ_1)⟩)
    ·
      refine g_tsw (off := 52) (tgt := 77) h dX11_link_25 (nI 1) (by rw [hc25]) (by decide) (by decide) (by decide +kernel) (by decide) ?_
      refine g_aload_n h dX11_link_77 0 rfl ?_
      refine g_getr h dX11_link_78 gX11_23 sc_12 rfl ?_
      refine g_getr h dX11_link_81 gX11_181 (sM_0 (m := 0) (by decide)) rfl ?_
      refine g_getr h dX11_link_84 gX11_185 (sM_4 (m := 0) (by decide)) rfl ?_
      refine g_iload_n h dX11_link_87 1 rfl ?_
      refine g_iald h dX11_link_88 (sM_7 (m := 0) (by decide)) (by omega) ?_
      refine g_top (y := μ (56 + (toN i))) (vw_pic (b := (vb 0)) (k := 56 + (toN i)) (by first | exact hvσ_1 | assumption) (by omega)) ?_
      refine g_iload_n h dX11_link_89 2 rfl ?_
      refine g_cspi (rest := []) h (c_has hW (μ (56 + (toN i))) (toN j) (by omega)) lX5_has mX11_218 (Nat.lt_of_lt_of_le (by decide) (Nat.le_refl _)) (by decide) rfl rfl rfl dX11_link_90 ?_
      refine g_cspi (rest := []) h (c_asN hW (tb (μ (56 + (toN i))) (toN j)) ) lX11_asNumber mX11_170 (Nat.lt_of_lt_of_le (by decide) (Nat.le_refl _)) (by decide) rfl rfl rfl dX11_link_93 ?_
      exact g_iret h hQ dX11_link_96 (congrArg (fun z => some (Value.int z)) (show (an (fo (rg wt (nI 0) (nI 5)) (ps μ i j)) (v_link μ (toN i) (toN j) (toN wt))) = (b2i (tb (μ (56 + (toN i))) (toN j))) by first | exact an_yes (by exact hS0) (by first | rfl | (simp [v_link, c19, hc25]; done) | (simp [v_link, c19, hc25]; rfl)) | exact an_no (k := (fo (rg wt (nI 0) (nI 5)) (ps μ i j))) (by first | rfl | (simp [fo, rg, ns, nB, ps, gst, ofS, offB, c19, hc25]; done) | (simp [fo, rg, ns, nB, ps, gst, ofS, offB, c19, hc25]; omega)) (by first | decide | omega | assumption | exact nb1 (by assumption)) | fail)) (by exact ⟨(by first | exact tk_eq (k := (fo (rg wt (nI 0) (nI 5)) (ps μ i j))) (by first | rfl | (simp [fo, rg, ns, nB, ps, gst, ofS, offB, c19, hc25]; done) | (simp [fo, rg, ns, nB, ps, gst, ofS, offB, c19, hc25]; omega)) ht14000_σ_1 | exact tk_eq (k := (fo (rg wt (nI 0) (nI 5)) (ps μ i j))) (by exact hS0) ht14000_σ_1 | fail), (by exact hcFR_σ_1)⟩)
    ·
      refine g_tsw (off := 72) (tgt := 97) h dX11_link_25 (nI 2) (by rw [hc25]) (by decide) (by decide) (by decide +kernel) (by decide) ?_
      refine g_aload_n h dX11_link_97 0 rfl ?_
      refine g_getr h dX11_link_98 gX11_23 sc_12 rfl ?_
      refine g_getr h dX11_link_101 gX11_181 (sM_0 (m := 0) (by decide)) rfl ?_
      refine g_getr h dX11_link_104 gX11_190 (sM_4 (m := 0) (by decide)) rfl ?_
      refine g_iload_n h dX11_link_107 1 rfl ?_
      refine g_iald h dX11_link_108 (sM_8 (m := 0) (by decide)) (by omega) ?_
      refine g_top (y := μ (64 + (toN i))) (vw_pic (b := (vb 0)) (k := 64 + (toN i)) (by first | exact hvσ_1 | assumption) (by omega)) ?_
      refine g_iload_n h dX11_link_109 2 rfl ?_
      refine g_cspi (rest := []) h (c_has hW (μ (64 + (toN i))) (toN j) (by omega)) lX5_has mX11_218 (Nat.lt_of_lt_of_le (by decide) (Nat.le_refl _)) (by decide) rfl rfl rfl dX11_link_110 ?_
      refine g_cspi (rest := []) h (c_asN hW (tb (μ (64 + (toN i))) (toN j)) ) lX11_asNumber mX11_170 (Nat.lt_of_lt_of_le (by decide) (Nat.le_refl _)) (by decide) rfl rfl rfl dX11_link_113 ?_
      exact g_iret h hQ dX11_link_116 (congrArg (fun z => some (Value.int z)) (show (an (fo (rg wt (nI 0) (nI 5)) (ps μ i j)) (v_link μ (toN i) (toN j) (toN wt))) = (b2i (tb (μ (64 + (toN i))) (toN j))) by first | exact an_yes (by exact hS0) (by first | rfl | (simp [v_link, c19, hc25]; done) | (simp [v_link, c19, hc25]; rfl)) | exact an_no (k := (fo (rg wt (nI 0) (nI 5)) (ps μ i j))) (by first | rfl | (simp [fo, rg, ns, nB, ps, gst, ofS, offB, c19, hc25]; done) | (simp [fo, rg, ns, nB, ps, gst, ofS, offB, c19, hc25]; omega)) (by first | decide | omega | assumption | exact nb1 (by assumption)) | fail)) (by exact ⟨(by first | exact tk_eq (k := (fo (rg wt (nI 0) (nI 5)) (ps μ i j))) (by first | rfl | (simp [fo, rg, ns, nB, ps, gst, ofS, offB, c19, hc25]; done) | (simp [fo, rg, ns, nB, ps, gst, ofS, offB, c19, hc25]; omega)) ht14000_σ_1 | exact tk_eq (k := (fo (rg wt (nI 0) (nI 5)) (ps μ i j))) (by exact hS0) ht14000_σ_1 | fail), (by exact hcFR_σ_1)⟩)
    ·
      refine g_tsw (off := 92) (tgt := 117) h dX11_link_25 (nI 3) (by rw [hc25]) (by decide) (by decide) (by decide +kernel) (by decide) ?_
      refine g_aload_n h dX11_link_117 0 rfl ?_
      refine g_getr h dX11_link_118 gX11_23 sc_12 rfl ?_
      refine g_getr h dX11_link_121 gX11_181 (sM_0 (m := 0) (by decide)) rfl ?_
      refine g_getr h dX11_link_124 gX11_222 (sM_4 (m := 0) (by decide)) rfl ?_
      refine g_iload_n h dX11_link_127 1 rfl ?_
      refine g_iload_n h dX11_link_128 2 rfl ?_
      refine g_cspi (rest := [.ref (w.1 (mc 0 6))]) h (c_at hW (toN i) (toN j) ) lX5_at mX11_215 (Nat.lt_of_lt_of_le (by decide) (Nat.le_refl _)) (by decide) rfl rfl rfl dX11_link_129 ?_
      refine g_iald h dX11_link_132 (sM_6 (m := 0) (by decide)) (by omega) ?_
      refine g_top (y := μ (144 + (8 * (toN i) + (toN j)))) (vw_pic (b := (vb 0)) (k := 144 + (8 * (toN i) + (toN j))) (by first | exact hvσ_1 | assumption) (by omega)) ?_
      exact g_iret h hQ dX11_link_133 (congrArg (fun z => some (Value.int z)) (show (an (fo (rg wt (nI 0) (nI 5)) (ps μ i j)) (v_link μ (toN i) (toN j) (toN wt))) = (μ (144 + (8 * (toN i) + (toN j)))) by first | exact an_yes (by exact hS0) (by first | rfl | (simp [v_link, c19, hc25]; done) | (simp [v_link, c19, hc25]; rfl)) | exact an_no (k := (fo (rg wt (nI 0) (nI 5)) (ps μ i j))) (by first | rfl | (simp [fo, rg, ns, nB, ps, gst, ofS, offB, c19, hc25]; done) | (simp [fo, rg, ns, nB, ps, gst, ofS, offB, c19, hc25]; omega)) (by first | decide | omega | assumption | exact nb1 (by assumption)) | fail)) (by exact ⟨(by first | exact tk_eq (k := (fo (rg wt (nI 0) (nI 5)) (ps μ i j))) (by first | rfl | (simp [fo, rg, ns, nB, ps, gst, ofS, offB, c19, hc25]; done) | (simp [fo, rg, ns, nB, ps, gst, ofS, offB, c19, hc25]; omega)) ht14000_σ_1 | exact tk_eq (k := (fo (rg wt (nI 0) (nI 5)) (ps μ i j))) (by exact hS0) ht14000_σ_1 | fail), (by exact hcFR_σ_1)⟩)
    ·
      refine g_tsw (off := 109) (tgt := 134) h dX11_link_25 (nI 4) (by rw [hc25]) (by decide) (by decide) (by decide +kernel) (by decide) ?_
      refine g_aload_n h dX11_link_134 0 rfl ?_
      refine g_getr h dX11_link_135 gX11_23 sc_12 rfl ?_
      refine g_getr h dX11_link_138 gX11_181 (sM_0 (m := 0) (by decide)) rfl ?_
      refine g_getr h dX11_link_141 gX11_200 (sM_4 (m := 0) (by decide)) rfl ?_
      refine g_iload_n h dX11_link_144 1 rfl ?_
      refine g_iald h dX11_link_145 (sM_9 (m := 0) (by decide)) (by omega) ?_
      refine g_top (y := μ (72 + (toN i))) (vw_pic (b := (vb 0)) (k := 72 + (toN i)) (by first | exact hvσ_1 | assumption) (by omega)) ?_
      refine g_iload_n h dX11_link_146 2 rfl ?_
      refine g_cspi (rest := []) h (c_has hW (μ (72 + (toN i))) (toN j) (by omega)) lX5_has mX11_218 (Nat.lt_of_lt_of_le (by decide) (Nat.le_refl _)) (by decide) rfl rfl rfl dX11_link_147 ?_
      refine g_cspi (rest := []) h (c_asN hW (tb (μ (72 + (toN i))) (toN j)) ) lX11_asNumber mX11_170 (Nat.lt_of_lt_of_le (by decide) (Nat.le_refl _)) (by decide) rfl rfl rfl dX11_link_150 ?_
      exact g_iret h hQ dX11_link_153 (congrArg (fun z => some (Value.int z)) (show (an (fo (rg wt (nI 0) (nI 5)) (ps μ i j)) (v_link μ (toN i) (toN j) (toN wt))) = (b2i (tb (μ (72 + (toN i))) (toN j))) by first | exact an_yes (by exact hS0) (by first | rfl | (simp [v_link, c19, hc25]; done) | (simp [v_link, c19, hc25]; rfl)) | exact an_no (k := (fo (rg wt (nI 0) (nI 5)) (ps μ i j))) (by first | rfl | (simp [fo, rg, ns, nB, ps, gst, ofS, offB, c19, hc25]; done) | (simp [fo, rg, ns, nB, ps, gst, ofS, offB, c19, hc25]; omega)) (by first | decide | omega | assumption | exact nb1 (by assumption)) | fail)) (by exact ⟨(by first | exact tk_eq (k := (fo (rg wt (nI 0) (nI 5)) (ps μ i j))) (by first | rfl | (simp [fo, rg, ns, nB, ps, gst, ofS, offB, c19, hc25]; done) | (simp [fo, rg, ns, nB, ps, gst, ofS, offB, c19, hc25]; omega)) ht14000_σ_1 | exact tk_eq (k := (fo (rg wt (nI 0) (nI 5)) (ps μ i j))) (by exact hS0) ht14000_σ_1 | fail), (by exact hcFR_σ_1)⟩)
    ·
      refine g_tswOut (tgt := 154) h dX11_link_25 (by rw [hc25]; decide) (by decide) ?_
      refine g_aload_n h dX11_link_154 0 rfl ?_
      refine g_getr h dX11_link_155 gX11_23 sc_12 rfl ?_
      refine g_getr h dX11_link_158 gX11_225 (sM_0 (m := 0) (by decide)) rfl ?_
      refine g_iload_n h dX11_link_161 1 rfl ?_
      refine g_iload_n h dX11_link_162 2 rfl ?_
      refine g_cspi (rest := [.ref (w.1 (mc 0 3))]) h (c_at hW (toN i) (toN j) ) lX5_at mX11_215 (Nat.lt_of_lt_of_le (by decide) (Nat.le_refl _)) (by decide) rfl rfl rfl dX11_link_163 ?_
      refine g_iald h dX11_link_166 (sM_3 (m := 0) (by decide)) (by omega) ?_
      refine g_top (y := μ (208 + tr (8 * (toN i) + (toN j)))) (vw_pic (b := (vb 0)) (k := 208 + tr (8 * (toN i) + (toN j))) (by first | exact hvσ_1 | assumption) (by rw [tr_at (by omega) (by omega)]; omega)) ?_
      refine g_top (y := (μ (208 + (8 * toN j + toN i)))) (by rw [tr_at (by omega) (by omega)]) ?_
      exact g_iret h hQ dX11_link_167 (congrArg (fun z => some (Value.int z)) (show (an (fo (rg wt (nI 0) (nI 5)) (ps μ i j)) (v_link μ (toN i) (toN j) (toN wt))) = (μ (208 + (8 * toN j + toN i))) by first | exact an_yes (by exact hS0) (by first | rfl | (simp [v_link, c19, hc25]; done) | (simp [v_link, c19, hc25]; rfl)) | exact an_no (k := (fo (rg wt (nI 0) (nI 5)) (ps μ i j))) (by first | rfl | (simp [fo, rg, ns, nB, ps, gst, ofS, offB, c19, hc25]; done) | (simp [fo, rg, ns, nB, ps, gst, ofS, offB, c19, hc25]; omega)) (by first | decide | omega | assumption | exact nb1 (by assumption)) | fail)) (by exact ⟨(by first | exact tk_eq (k := (fo (rg wt (nI 0) (nI 5)) (ps μ i j))) (by first | rfl | (simp [fo, rg, ns, nB, ps, gst, ofS, offB, c19, hc25]; done) | (simp [fo, rg, ns, nB, ps, gst, ofS, offB, c19, hc25]; omega)) ht14000_σ_1 | exact tk_eq (k := (fo (rg wt (nI 0) (nI 5)) (ps μ i j))) (by exact hS0) ht14000_σ_1 | fail), (by exact hcFR_σ_1)⟩)
  ·
    refine g_iconstv h dX11_link_22 (v := (-1)) (by decide) ?_
    exact g_iret h hQ dX11_link_23 (congrArg (fun z => some (Value.int z)) (show (an (fo (rg wt (nI 0) (nI 5)) (ps μ i j)) (v_link μ (toN i) (toN j) (toN wt))) = (-1) by first | exact an_yes (by exact hS0) (by first | rfl | (simp [v_link, c19]; done) | (simp [v_link, c19]; rfl)) | exact an_no (k := (fo (rg wt (nI 0) (nI 5)) (ps μ i j))) (by first | rfl | (simp [fo, rg, ns, nB, ps, gst, ofS, offB, c19]; done) | (simp [fo, rg, ns, nB, ps, gst, ofS, offB, c19]; omega)) (by first | decide | omega | assumption | exact nb1 (by assumption)) | fail)) (by exact ⟨(by first | exact tk_eq (k := (fo (rg wt (nI 0) (nI 5)) (ps μ i j))) (by first | rfl | (simp [fo, rg, ns, nB, ps, gst, ofS, offB, c19]; done) | (simp [fo, rg, ns, nB, ps, gst, ofS, offB, c19]; omega)) ht14000_σ_1 | exact tk_eq (k := (fo (rg wt (nI 0) (nI 5)) (ps μ i j))) (by exact hS0) ht14000_σ_1 | fail), (by exact hcFR_σ_1)⟩)

set_option maxRecDepth 100000 in
set_option maxHeartbeats 4000000 in
theorem q_topology {l : Launch} {w : Wd} (hW : Wi w) {σ : Mem} (i : Int32) (j : Int32) (wt : Int32)  (μ : Nat → Int32) (hv : vw 0 σ = μ) (hI : MI μ) : MC l w qX12_topology 3 [.ref (w.1 0), .int i, .int j, .int wt] σ (some (.int (an (fo (fo (rg wt (nI 0) (nI 2)) (ps μ i j)) (if μ (400 + (8 * toN i + toN j)) = 0 then 7 else 0)) (if toN wt = 0 then μ (272 + (8 * toN i + toN j)) else if toN wt = 1 then μ (336 + (8 * toN i + toN j)) else μ (400 + (8 * toN i + toN j)))))) (fun σ' => (σ' 4000 = (nI (fo (fo (rg wt (nI 0) (nI 2)) (ps μ i j)) (if μ (400 + (8 * toN i + toN j)) = 0 then 7 else 0)))) ∧ (∀ a, ((a < 4900 ∨ 6000 ≤ a) ∧ a ≠ 4000) → σ' a = σ a)) := by
  refine MC.of hW (by decide +kernel) (Nat.le_of_ble_eq_true rfl) (fun X h hQ hnm => ?_)
  have h : Fx X w cX12_topology 5 RX12 3 := h
  have hQ : Qx X w (some .int) (some (.int (an (fo (fo (rg wt (nI 0) (nI 2)) (ps μ i j)) (if μ (400 + (8 * toN i + toN j)) = 0 then 7 else 0)) (if toN wt = 0 then μ (272 + (8 * toN i + toN j)) else if toN wt = 1 then μ (336 + (8 * toN i + toN j)) else μ (400 + (8 * toN i + toN j)))))) (fun σ' => (σ' 4000 = (nI (fo (fo (rg wt (nI 0) (nI 2)) (ps μ i j)) (if μ (400 + (8 * toN i + toN j)) = 0 then 7 else 0)))) ∧ (∀ a, ((a < 4900 ∨ 6000 ≤ a) ∧ a ≠ 4000) → σ' a = σ a)) := hQ
  have hN8 := mi_8 hI
  have hps := ps_lt (μ := μ) (a := i) (b := j)
  have hcFR_σ : ∀ a, ((a < 4900 ∨ 6000 ≤ a) ∧ a ≠ 4000) → σ a = σ a := fun _ _ => rfl
  show G X w 5 0 [(0, .ref (w.1 0)), (1, .int i), (2, .int j), (3, .int wt)] [] σ
  refine g_iload_n h dX12_topology_0 3 rfl ?_
  refine g_iconst h dX12_topology_1 (by decide) ?_
  refine g_iconst h dX12_topology_2 (by decide) ?_
  refine g_cspi (rest := []) h (r_isFrom hW wt (nI 0) (nI 2) ) lX12_isFrom mX12_134 (Nat.lt_of_lt_of_le (by decide) (Nat.le_refl _)) (by decide) rfl rfl rfl dX12_topology_3 ?_
  refine g_ifB_ne h dX12_topology_6 (fun c6 => ?_) (fun c6 => ?_)
  ·
    refine g_aload_n h dX12_topology_13 0 rfl ?_
    refine g_iload_n h dX12_topology_14 1 rfl ?_
    refine g_iload_n h dX12_topology_15 2 rfl ?_
    refine g_cvpi (rest := []) h (r_ps hW i j μ (by first | exact hv | assumption | fail)) lX12_wrongTwo mX12_290 (Nat.lt_of_lt_of_le (by decide) (Nat.le_refl _)) (by decide) sc_0 rfl rfl rfl rfl dX12_topology_16 ?_
    refine g_istore (L' := [(0, .ref (w.1 0)), (1, .int i), (2, .int j), (3, .int wt), (4, .int (nI (ps μ i j)))]) h dX12_topology_19 rfl (by decide) rfl ?_
    refine g_iload h dX12_topology_21 4 rfl ?_
    refine g_ifN_ne h dX12_topology_23 (by omega) (fun c23 => ?_) (fun c23 => ?_)
    ·
      refine g_iload h dX12_topology_45 4 rfl ?_
      refine g_ifN_le h dX12_topology_47 (by omega) (fun c47 => ?_) (fun c47 => ?_)
      ·
        exfalso; omega
      ·
        refine g_aload_n h dX12_topology_50 0 rfl ?_
        refine g_iload h dX12_topology_51 4 rfl ?_
        refine g_cvi (rest := []) h (r_refuse hW (nI (ps μ i j)) ) lX12_refuse mX12_272 (Nat.lt_of_lt_of_le (by decide) (Nat.le_refl _)) (by decide) sc_0 rfl rfl rfl rfl dX12_topology_53 (fun σ_1 eσ_1 => ?_)
        have eσ_1_a : σ_1 = upd σ 4000 (nI (ps μ i j)) := eσ_1
        have ht4000_σ_1 : σ_1 4000 = (nI (ps μ i j)) := by rw [eσ_1_a]; exact upd_eq
        have hcFR_σ_1 : ∀ a, ((a < 4900 ∨ 6000 ≤ a) ∧ a ≠ 4000) → σ_1 a = σ a := by intro a ha; exact Eq.trans (b := σ a) (by rw [eσ_1_a, upd_ne (by first | omega | (simp only [vb] at *; omega))]) (hcFR_σ a ha)
        have hvσ_1 : vw 0 σ_1 = μ := by rw [eσ_1_a, vw_out (by omega)]; first | exact hv | assumption
        refine g_goto h dX12_topology_56 ?_
        exact g_iret h hQ dX12_topology_96 (congrArg (fun z => some (Value.int z)) (show (an (fo (fo (rg wt (nI 0) (nI 2)) (ps μ i j)) (if μ (400 + (8 * toN i + toN j)) = 0 then 7 else 0)) (if toN wt = 0 then μ (272 + (8 * toN i + toN j)) else if toN wt = 1 then μ (336 + (8 * toN i + toN j)) else μ (400 + (8 * toN i + toN j)))) = (-1) by first | exact an_yes (by first | exact (fo_r hA).trans (if_pos (by assumption)) | exact (fo_r hA).trans (if_neg (by assumption)) | (rw [fo_l (by simp [fo, rg, c6]; omega)]; simp [fo, rg, c6]; done) | rfl | (simp [fo, rg, ns, nB, ps, gst, ofS, offB, c6, c23, c47]; done) | (simp [fo, rg, ns, nB, ps, gst, ofS, offB, c6, c23, c47]; omega)) (by first | rfl | (simp [an, c6, c23, c47]; done) | (simp [an, c6, c23, c47]; rfl)) | exact an_no (k := (ps μ i j)) (by first | exact (fo_r hA).trans (if_pos (by assumption)) | exact (fo_r hA).trans (if_neg (by assumption)) | (rw [fo_l (by simp [fo, rg, c6]; omega)]; simp [fo, rg, c6]; done) | rfl | (simp [fo, rg, ns, nB, ps, gst, ofS, offB, c6, c23, c47]; done) | (simp [fo, rg, ns, nB, ps, gst, ofS, offB, c6, c23, c47]; omega)) (by first | decide | omega | assumption | exact nb1 (by assumption)) | fail)) (by exact ⟨(by first | exact tk_eq (k := (ps μ i j)) (by first | exact (fo_r hA).trans (if_pos (by assumption)) | exact (fo_r hA).trans (if_neg (by assumption)) | (rw [fo_l (by simp [fo, rg, c6]; omega)]; simp [fo, rg, c6]; done) | rfl | (simp [fo, rg, ns, nB, ps, gst, ofS, offB, c6, c23, c47]; done) | (simp [fo, rg, ns, nB, ps, gst, ofS, offB, c6, c23, c47]; omega)) ht4000_σ_1 | exact tk_eq (k := (ps μ i j)) (by first | exact (fo_r hA).trans (if_pos (by assumption)) | exact (fo_r hA).trans (if_neg (by assumption)) | (rw [fo_l (by simp [fo, rg, c6]; omega)]; simp [fo, rg, c6]; done) | rfl | (simp [fo, rg, ns, nB, ps, gst, ofS, offB, c6, c23, c47]; done) | (simp [fo, rg, ns, nB, ps, gst, ofS, offB, c6, c23, c47]; omega)) ht4000_σ_1 | fail), (by exact hcFR_σ_1)⟩)
    ·
      obtain ⟨ew, hw9⟩ := fr_N (by decide) c6
      have hp0 : ps μ i j = 0 := by omega
      have h0 := ps_0 hp0
      have hA : fo (rg wt (nI 0) (nI 2)) (ps μ i j) = 0 := by simp [fo, rg, c6, hp0]
      rw [hp0]
      obtain ⟨ei, hi9⟩ := nB_N hI h0.1
      obtain ⟨ej, hj9⟩ := nB_N hI h0.2.1
      rw [ei, ej, ew]
      show G X w 5 26 [(0, .ref (w.1 0)), (1, .int (nI (toN i))), (2, .int (nI (toN j))), (3, .int (nI (toN wt))), (4, .int (nI 0))] [] σ
      refine g_aload_n h dX12_topology_26 0 rfl ?_
      refine g_sipush h dX12_topology_27 (by decide) ?_
      refine g_iload_n h dX12_topology_30 1 rfl ?_
      refine g_iload_n h dX12_topology_31 2 rfl ?_
      refine g_cspi (rest := [.ref (w.1 0)]) h (r_two hW 400 (toN i) (toN j) ) lX12_two mX12_69 (Nat.lt_of_lt_of_le (by decide) (Nat.le_refl _)) (by decide) rfl rfl rfl dX12_topology_32 ?_
      refine g_cvpi (rest := []) h (r_of hW (400 + (8 * (toN i) + (toN j))) μ (by assumption) (by omega)) lX12_of mX12_61 (Nat.lt_of_lt_of_le (by decide) (Nat.le_refl _)) (by decide) sc_0 rfl rfl rfl rfl dX12_topology_35 ?_
      refine g_if_ne h dX12_topology_38 (fun c38 => ?_) (fun c38 => ?_)
      ·
        refine g_iload h dX12_topology_45 4 rfl ?_
        refine g_ifN_le h dX12_topology_47 (by decide) (fun c47 => ?_) (fun c47 => absurd c47 (by decide))
        refine g_aload_n h dX12_topology_59 0 rfl ?_
        refine g_aload_n h dX12_topology_60 0 rfl ?_
        refine g_iload_n h dX12_topology_61 3 rfl ?_
        refine g_ifN_ne h dX12_topology_62 (by omega) (fun c62 => ?_) (fun c62 => ?_)
        ·
          refine g_iload_n h dX12_topology_71 3 rfl ?_
          refine g_iconst h dX12_topology_72 (by decide) ?_
          refine g_icmpN_ne h dX12_topology_73 (by omega) (by omega) (fun c73 => ?_) (fun c73 => ?_)
          ·
            refine g_sipush h dX12_topology_82 (by decide) ?_
            refine g_iload_n h dX12_topology_85 1 rfl ?_
            refine g_iload_n h dX12_topology_86 2 rfl ?_
            refine g_cspi (rest := [.ref (w.1 0), .ref (w.1 0)]) h (r_two hW 400 (toN i) (toN j) ) lX12_two mX12_69 (Nat.lt_of_lt_of_le (by decide) (Nat.le_refl _)) (by decide) rfl rfl rfl dX12_topology_87 ?_
            refine g_cvpi (rest := [.ref (w.1 0)]) h (r_of hW (400 + (8 * (toN i) + (toN j))) μ (by assumption) (by omega)) lX12_of mX12_61 (Nat.lt_of_lt_of_le (by decide) (Nat.le_refl _)) (by decide) sc_0 rfl rfl rfl rfl dX12_topology_90 ?_
            refine g_cvi (rest := []) h (r_gives hW (μ (400 + (8 * (toN i) + (toN j)))) ) lX12_gives mX12_281 (Nat.lt_of_lt_of_le (by decide) (Nat.le_refl _)) (by decide) sc_0 rfl rfl rfl rfl dX12_topology_93 (fun σ_2 eσ_2 => ?_)
            have eσ_2_a : σ_2 = upd σ 4000 (nI 0) := eσ_2
            have ht4000_σ_2 : σ_2 4000 = (nI 0) := by rw [eσ_2_a]; exact upd_eq
            have hcFR_σ_2 : ∀ a, ((a < 4900 ∨ 6000 ≤ a) ∧ a ≠ 4000) → σ_2 a = σ a := by intro a ha; exact Eq.trans (b := σ a) (by rw [eσ_2_a, upd_ne (by first | omega | (simp only [vb] at *; omega))]) (hcFR_σ a ha)
            have hvσ_2 : vw 0 σ_2 = μ := by rw [eσ_2_a, vw_out (by omega)]; first | exact hv | assumption
            exact g_iret h hQ dX12_topology_96 (congrArg (fun z => some (Value.int z)) (show (an (fo (fo (rg wt (nI 0) (nI 2)) (ps μ i j)) (if μ (400 + (8 * toN i + toN j)) = 0 then 7 else 0)) (if toN wt = 0 then μ (272 + (8 * toN i + toN j)) else if toN wt = 1 then μ (336 + (8 * toN i + toN j)) else μ (400 + (8 * toN i + toN j)))) = (μ (400 + (8 * (toN i) + (toN j)))) by first | exact an_yes (by first | exact (fo_r hA).trans (if_pos (by assumption)) | exact (fo_r hA).trans (if_neg (by assumption)) | (rw [fo_l (by simp [fo, rg, c6]; omega)]; simp [fo, rg, c6]; done) | rfl | (simp [fo, rg, ns, nB, ps, gst, ofS, offB, c6, c23, c38, c62, c73]; done) | (simp [fo, rg, ns, nB, ps, gst, ofS, offB, c6, c23, c38, c62, c73]; omega)) (by first | rfl | (simp [an, c6, c23, c38, c62, c73]; done) | (simp [an, c6, c23, c38, c62, c73]; rfl)) | exact an_no (k := 0) (by first | exact (fo_r hA).trans (if_pos (by assumption)) | exact (fo_r hA).trans (if_neg (by assumption)) | (rw [fo_l (by simp [fo, rg, c6]; omega)]; simp [fo, rg, c6]; done) | rfl | (simp [fo, rg, ns, nB, ps, gst, ofS, offB, c6, c23, c38, c62, c73]; done) | (simp [fo, rg, ns, nB, ps, gst, ofS, offB, c6, c23, c38, c62, c73]; omega)) (by first | decide | omega | assumption | exact nb1 (by assumption)) | fail)) (by exact ⟨(by first | exact tk_eq (k := 0) (by first | exact (fo_r hA).trans (if_pos (by assumption)) | exact (fo_r hA).trans (if_neg (by assumption)) | (rw [fo_l (by simp [fo, rg, c6]; omega)]; simp [fo, rg, c6]; done) | rfl | (simp [fo, rg, ns, nB, ps, gst, ofS, offB, c6, c23, c38, c62, c73]; done) | (simp [fo, rg, ns, nB, ps, gst, ofS, offB, c6, c23, c38, c62, c73]; omega)) ht4000_σ_2 | exact tk_eq (k := 0) (by first | exact (fo_r hA).trans (if_pos (by assumption)) | exact (fo_r hA).trans (if_neg (by assumption)) | (rw [fo_l (by simp [fo, rg, c6]; omega)]; simp [fo, rg, c6]; done) | rfl | (simp [fo, rg, ns, nB, ps, gst, ofS, offB, c6, c23, c38, c62, c73]; done) | (simp [fo, rg, ns, nB, ps, gst, ofS, offB, c6, c23, c38, c62, c73]; omega)) ht4000_σ_2 | fail), (by exact hcFR_σ_2)⟩)
          ·
            refine g_sipush h dX12_topology_76 (by decide) ?_
            refine g_goto h dX12_topology_79 ?_
            refine g_iload_n h dX12_topology_85 1 rfl ?_
            refine g_iload_n h dX12_topology_86 2 rfl ?_
            refine g_cspi (rest := [.ref (w.1 0), .ref (w.1 0)]) h (r_two hW 336 (toN i) (toN j) ) lX12_two mX12_69 (Nat.lt_of_lt_of_le (by decide) (Nat.le_refl _)) (by decide) rfl rfl rfl dX12_topology_87 ?_
            refine g_cvpi (rest := [.ref (w.1 0)]) h (r_of hW (336 + (8 * (toN i) + (toN j))) μ (by assumption) (by omega)) lX12_of mX12_61 (Nat.lt_of_lt_of_le (by decide) (Nat.le_refl _)) (by decide) sc_0 rfl rfl rfl rfl dX12_topology_90 ?_
            refine g_cvi (rest := []) h (r_gives hW (μ (336 + (8 * (toN i) + (toN j)))) ) lX12_gives mX12_281 (Nat.lt_of_lt_of_le (by decide) (Nat.le_refl _)) (by decide) sc_0 rfl rfl rfl rfl dX12_topology_93 (fun σ_3 eσ_3 => ?_)
            have eσ_3_a : σ_3 = upd σ 4000 (nI 0) := eσ_3
            have ht4000_σ_3 : σ_3 4000 = (nI 0) := by rw [eσ_3_a]; exact upd_eq
            have hcFR_σ_3 : ∀ a, ((a < 4900 ∨ 6000 ≤ a) ∧ a ≠ 4000) → σ_3 a = σ a := by intro a ha; exact Eq.trans (b := σ a) (by rw [eσ_3_a, upd_ne (by first | omega | (simp only [vb] at *; omega))]) (hcFR_σ a ha)
            have hvσ_3 : vw 0 σ_3 = μ := by rw [eσ_3_a, vw_out (by omega)]; first | exact hv | assumption
            exact g_iret h hQ dX12_topology_96 (congrArg (fun z => some (Value.int z)) (show (an (fo (fo (rg wt (nI 0) (nI 2)) (ps μ i j)) (if μ (400 + (8 * toN i + toN j)) = 0 then 7 else 0)) (if toN wt = 0 then μ (272 + (8 * toN i + toN j)) else if toN wt = 1 then μ (336 + (8 * toN i + toN j)) else μ (400 + (8 * toN i + toN j)))) = (μ (336 + (8 * (toN i) + (toN j)))) by first | exact an_yes (by first | exact (fo_r hA).trans (if_pos (by assumption)) | exact (fo_r hA).trans (if_neg (by assumption)) | (rw [fo_l (by simp [fo, rg, c6]; omega)]; simp [fo, rg, c6]; done) | rfl | (simp [fo, rg, ns, nB, ps, gst, ofS, offB, c6, c23, c38, c62, c73]; done) | (simp [fo, rg, ns, nB, ps, gst, ofS, offB, c6, c23, c38, c62, c73]; omega)) (by first | rfl | (simp [an, c6, c23, c38, c62, c73]; done) | (simp [an, c6, c23, c38, c62, c73]; rfl)) | exact an_no (k := 0) (by first | exact (fo_r hA).trans (if_pos (by assumption)) | exact (fo_r hA).trans (if_neg (by assumption)) | (rw [fo_l (by simp [fo, rg, c6]; omega)]; simp [fo, rg, c6]; done) | rfl | (simp [fo, rg, ns, nB, ps, gst, ofS, offB, c6, c23, c38, c62, c73]; done) | (simp [fo, rg, ns, nB, ps, gst, ofS, offB, c6, c23, c38, c62, c73]; omega)) (by first | decide | omega | assumption | exact nb1 (by assumption)) | fail)) (by exact ⟨(by first | exact tk_eq (k := 0) (by first | exact (fo_r hA).trans (if_pos (by assumption)) | exact (fo_r hA).trans (if_neg (by assumption)) | (rw [fo_l (by simp [fo, rg, c6]; omega)]; simp [fo, rg, c6]; done) | rfl | (simp [fo, rg, ns, nB, ps, gst, ofS, offB, c6, c23, c38, c62, c73]; done) | (simp [fo, rg, ns, nB, ps, gst, ofS, offB, c6, c23, c38, c62, c73]; omega)) ht4000_σ_3 | exact tk_eq (k := 0) (by first | exact (fo_r hA).trans (if_pos (by assumption)) | exact (fo_r hA).trans (if_neg (by assumption)) | (rw [fo_l (by simp [fo, rg, c6]; omega)]; simp [fo, rg, c6]; done) | rfl | (simp [fo, rg, ns, nB, ps, gst, ofS, offB, c6, c23, c38, c62, c73]; done) | (simp [fo, rg, ns, nB, ps, gst, ofS, offB, c6, c23, c38, c62, c73]; omega)) ht4000_σ_3 | fail), (by exact hcFR_σ_3)⟩)
        ·
          refine g_sipush h dX12_topology_65 (by decide) ?_
          refine g_goto h dX12_topology_68 ?_
          refine g_iload_n h dX12_topology_85 1 rfl ?_
          refine g_iload_n h dX12_topology_86 2 rfl ?_
          refine g_cspi (rest := [.ref (w.1 0), .ref (w.1 0)]) h (r_two hW 272 (toN i) (toN j) ) lX12_two mX12_69 (Nat.lt_of_lt_of_le (by decide) (Nat.le_refl _)) (by decide) rfl rfl rfl dX12_topology_87 ?_
          refine g_cvpi (rest := [.ref (w.1 0)]) h (r_of hW (272 + (8 * (toN i) + (toN j))) μ (by assumption) (by omega)) lX12_of mX12_61 (Nat.lt_of_lt_of_le (by decide) (Nat.le_refl _)) (by decide) sc_0 rfl rfl rfl rfl dX12_topology_90 ?_
          refine g_cvi (rest := []) h (r_gives hW (μ (272 + (8 * (toN i) + (toN j)))) ) lX12_gives mX12_281 (Nat.lt_of_lt_of_le (by decide) (Nat.le_refl _)) (by decide) sc_0 rfl rfl rfl rfl dX12_topology_93 (fun σ_4 eσ_4 => ?_)
          have eσ_4_a : σ_4 = upd σ 4000 (nI 0) := eσ_4
          have ht4000_σ_4 : σ_4 4000 = (nI 0) := by rw [eσ_4_a]; exact upd_eq
          have hcFR_σ_4 : ∀ a, ((a < 4900 ∨ 6000 ≤ a) ∧ a ≠ 4000) → σ_4 a = σ a := by intro a ha; exact Eq.trans (b := σ a) (by rw [eσ_4_a, upd_ne (by first | omega | (simp only [vb] at *; omega))]) (hcFR_σ a ha)
          have hvσ_4 : vw 0 σ_4 = μ := by rw [eσ_4_a, vw_out (by omega)]; first | exact hv | assumption
          exact g_iret h hQ dX12_topology_96 (congrArg (fun z => some (Value.int z)) (show (an (fo (fo (rg wt (nI 0) (nI 2)) (ps μ i j)) (if μ (400 + (8 * toN i + toN j)) = 0 then 7 else 0)) (if toN wt = 0 then μ (272 + (8 * toN i + toN j)) else if toN wt = 1 then μ (336 + (8 * toN i + toN j)) else μ (400 + (8 * toN i + toN j)))) = (μ (272 + (8 * (toN i) + (toN j)))) by first | exact an_yes (by first | exact (fo_r hA).trans (if_pos (by assumption)) | exact (fo_r hA).trans (if_neg (by assumption)) | (rw [fo_l (by simp [fo, rg, c6]; omega)]; simp [fo, rg, c6]; done) | rfl | (simp [fo, rg, ns, nB, ps, gst, ofS, offB, c6, c23, c38, c62]; done) | (simp [fo, rg, ns, nB, ps, gst, ofS, offB, c6, c23, c38, c62]; omega)) (by first | rfl | (simp [an, c6, c23, c38, c62]; done) | (simp [an, c6, c23, c38, c62]; rfl)) | exact an_no (k := 0) (by first | exact (fo_r hA).trans (if_pos (by assumption)) | exact (fo_r hA).trans (if_neg (by assumption)) | (rw [fo_l (by simp [fo, rg, c6]; omega)]; simp [fo, rg, c6]; done) | rfl | (simp [fo, rg, ns, nB, ps, gst, ofS, offB, c6, c23, c38, c62]; done) | (simp [fo, rg, ns, nB, ps, gst, ofS, offB, c6, c23, c38, c62]; omega)) (by first | decide | omega | assumption | exact nb1 (by assumption)) | fail)) (by exact ⟨(by first | exact tk_eq (k := 0) (by first | exact (fo_r hA).trans (if_pos (by assumption)) | exact (fo_r hA).trans (if_neg (by assumption)) | (rw [fo_l (by simp [fo, rg, c6]; omega)]; simp [fo, rg, c6]; done) | rfl | (simp [fo, rg, ns, nB, ps, gst, ofS, offB, c6, c23, c38, c62]; done) | (simp [fo, rg, ns, nB, ps, gst, ofS, offB, c6, c23, c38, c62]; omega)) ht4000_σ_4 | exact tk_eq (k := 0) (by first | exact (fo_r hA).trans (if_pos (by assumption)) | exact (fo_r hA).trans (if_neg (by assumption)) | (rw [fo_l (by simp [fo, rg, c6]; omega)]; simp [fo, rg, c6]; done) | rfl | (simp [fo, rg, ns, nB, ps, gst, ofS, offB, c6, c23, c38, c62]; done) | (simp [fo, rg, ns, nB, ps, gst, ofS, offB, c6, c23, c38, c62]; omega)) ht4000_σ_4 | fail), (by exact hcFR_σ_4)⟩)
      ·
        refine g_bipush h dX12_topology_41 (by decide) ?_
        refine g_istore (L' := [(0, .ref (w.1 0)), (1, .int (nI (toN i))), (2, .int (nI (toN j))), (3, .int (nI (toN wt))), (4, .int (nI 7))]) h dX12_topology_43 rfl (by decide) rfl ?_
        refine g_iload h dX12_topology_45 4 rfl ?_
        refine g_ifN_le h dX12_topology_47 (by decide) (fun c47 => absurd c47 (by decide)) (fun c47 => ?_)
        refine g_aload_n h dX12_topology_50 0 rfl ?_
        refine g_iload h dX12_topology_51 4 rfl ?_
        refine g_cvi (rest := []) h (r_refuse hW (nI 7) ) lX12_refuse mX12_272 (Nat.lt_of_lt_of_le (by decide) (Nat.le_refl _)) (by decide) sc_0 rfl rfl rfl rfl dX12_topology_53 (fun σ_5 eσ_5 => ?_)
        have eσ_5_a : σ_5 = upd σ 4000 (nI 7) := eσ_5
        have ht4000_σ_5 : σ_5 4000 = (nI 7) := by rw [eσ_5_a]; exact upd_eq
        have hcFR_σ_5 : ∀ a, ((a < 4900 ∨ 6000 ≤ a) ∧ a ≠ 4000) → σ_5 a = σ a := by intro a ha; exact Eq.trans (b := σ a) (by rw [eσ_5_a, upd_ne (by first | omega | (simp only [vb] at *; omega))]) (hcFR_σ a ha)
        have hvσ_5 : vw 0 σ_5 = μ := by rw [eσ_5_a, vw_out (by omega)]; first | exact hv | assumption
        refine g_goto h dX12_topology_56 ?_
        exact g_iret h hQ dX12_topology_96 (congrArg (fun z => some (Value.int z)) (show (an (fo (fo (rg wt (nI 0) (nI 2)) (ps μ i j)) (if μ (400 + (8 * toN i + toN j)) = 0 then 7 else 0)) (if toN wt = 0 then μ (272 + (8 * toN i + toN j)) else if toN wt = 1 then μ (336 + (8 * toN i + toN j)) else μ (400 + (8 * toN i + toN j)))) = (-1) by first | exact an_yes (by first | exact (fo_r hA).trans (if_pos (by assumption)) | exact (fo_r hA).trans (if_neg (by assumption)) | (rw [fo_l (by simp [fo, rg, c6]; omega)]; simp [fo, rg, c6]; done) | rfl | (simp [fo, rg, ns, nB, ps, gst, ofS, offB, c6, c23, c38]; done) | (simp [fo, rg, ns, nB, ps, gst, ofS, offB, c6, c23, c38]; omega)) (by first | rfl | (simp [an, c6, c23, c38]; done) | (simp [an, c6, c23, c38]; rfl)) | exact an_no (k := 7) (by first | exact (fo_r hA).trans (if_pos (by assumption)) | exact (fo_r hA).trans (if_neg (by assumption)) | (rw [fo_l (by simp [fo, rg, c6]; omega)]; simp [fo, rg, c6]; done) | rfl | (simp [fo, rg, ns, nB, ps, gst, ofS, offB, c6, c23, c38]; done) | (simp [fo, rg, ns, nB, ps, gst, ofS, offB, c6, c23, c38]; omega)) (by first | decide | omega | assumption | exact nb1 (by assumption)) | fail)) (by exact ⟨(by first | exact tk_eq (k := 7) (by first | exact (fo_r hA).trans (if_pos (by assumption)) | exact (fo_r hA).trans (if_neg (by assumption)) | (rw [fo_l (by simp [fo, rg, c6]; omega)]; simp [fo, rg, c6]; done) | rfl | (simp [fo, rg, ns, nB, ps, gst, ofS, offB, c6, c23, c38]; done) | (simp [fo, rg, ns, nB, ps, gst, ofS, offB, c6, c23, c38]; omega)) ht4000_σ_5 | exact tk_eq (k := 7) (by first | exact (fo_r hA).trans (if_pos (by assumption)) | exact (fo_r hA).trans (if_neg (by assumption)) | (rw [fo_l (by simp [fo, rg, c6]; omega)]; simp [fo, rg, c6]; done) | rfl | (simp [fo, rg, ns, nB, ps, gst, ofS, offB, c6, c23, c38]; done) | (simp [fo, rg, ns, nB, ps, gst, ofS, offB, c6, c23, c38]; omega)) ht4000_σ_5 | fail), (by exact hcFR_σ_5)⟩)
  ·
    refine g_iconst h dX12_topology_9 (by decide) ?_
    refine g_goto h dX12_topology_10 ?_
    refine g_istore (L' := [(0, .ref (w.1 0)), (1, .int i), (2, .int j), (3, .int wt), (4, .int (nI 1))]) h dX12_topology_19 rfl (by decide) rfl ?_
    refine g_iload h dX12_topology_21 4 rfl ?_
    refine g_ifN_ne h dX12_topology_23 (by decide) (fun c23 => ?_) (fun c23 => absurd c23 (by decide))
    refine g_iload h dX12_topology_45 4 rfl ?_
    refine g_ifN_le h dX12_topology_47 (by decide) (fun c47 => absurd c47 (by decide)) (fun c47 => ?_)
    refine g_aload_n h dX12_topology_50 0 rfl ?_
    refine g_iload h dX12_topology_51 4 rfl ?_
    refine g_cvi (rest := []) h (r_refuse hW (nI 1) ) lX12_refuse mX12_272 (Nat.lt_of_lt_of_le (by decide) (Nat.le_refl _)) (by decide) sc_0 rfl rfl rfl rfl dX12_topology_53 (fun σ_6 eσ_6 => ?_)
    have eσ_6_a : σ_6 = upd σ 4000 (nI 1) := eσ_6
    have ht4000_σ_6 : σ_6 4000 = (nI 1) := by rw [eσ_6_a]; exact upd_eq
    have hcFR_σ_6 : ∀ a, ((a < 4900 ∨ 6000 ≤ a) ∧ a ≠ 4000) → σ_6 a = σ a := by intro a ha; exact Eq.trans (b := σ a) (by rw [eσ_6_a, upd_ne (by first | omega | (simp only [vb] at *; omega))]) (hcFR_σ a ha)
    have hvσ_6 : vw 0 σ_6 = μ := by rw [eσ_6_a, vw_out (by omega)]; first | exact hv | assumption
    refine g_goto h dX12_topology_56 ?_
    exact g_iret h hQ dX12_topology_96 (congrArg (fun z => some (Value.int z)) (show (an (fo (fo (rg wt (nI 0) (nI 2)) (ps μ i j)) (if μ (400 + (8 * toN i + toN j)) = 0 then 7 else 0)) (if toN wt = 0 then μ (272 + (8 * toN i + toN j)) else if toN wt = 1 then μ (336 + (8 * toN i + toN j)) else μ (400 + (8 * toN i + toN j)))) = (-1) by first | exact an_yes (by first | exact (fo_r hA).trans (if_pos (by assumption)) | exact (fo_r hA).trans (if_neg (by assumption)) | (rw [fo_l (by simp [fo, rg, c6]; omega)]; simp [fo, rg, c6]; done) | rfl | (simp [fo, rg, ns, nB, ps, gst, ofS, offB, c6]; done) | (simp [fo, rg, ns, nB, ps, gst, ofS, offB, c6]; omega)) (by first | rfl | (simp [an, c6]; done) | (simp [an, c6]; rfl)) | exact an_no (k := 1) (by first | exact (fo_r hA).trans (if_pos (by assumption)) | exact (fo_r hA).trans (if_neg (by assumption)) | (rw [fo_l (by simp [fo, rg, c6]; omega)]; simp [fo, rg, c6]; done) | rfl | (simp [fo, rg, ns, nB, ps, gst, ofS, offB, c6]; done) | (simp [fo, rg, ns, nB, ps, gst, ofS, offB, c6]; omega)) (by first | decide | omega | assumption | exact nb1 (by assumption)) | fail)) (by exact ⟨(by first | exact tk_eq (k := 1) (by first | exact (fo_r hA).trans (if_pos (by assumption)) | exact (fo_r hA).trans (if_neg (by assumption)) | (rw [fo_l (by simp [fo, rg, c6]; omega)]; simp [fo, rg, c6]; done) | rfl | (simp [fo, rg, ns, nB, ps, gst, ofS, offB, c6]; done) | (simp [fo, rg, ns, nB, ps, gst, ofS, offB, c6]; omega)) ht4000_σ_6 | exact tk_eq (k := 1) (by first | exact (fo_r hA).trans (if_pos (by assumption)) | exact (fo_r hA).trans (if_neg (by assumption)) | (rw [fo_l (by simp [fo, rg, c6]; omega)]; simp [fo, rg, c6]; done) | rfl | (simp [fo, rg, ns, nB, ps, gst, ofS, offB, c6]; done) | (simp [fo, rg, ns, nB, ps, gst, ofS, offB, c6]; omega)) ht4000_σ_6 | fail), (by exact hcFR_σ_6)⟩)

set_option maxRecDepth 100000 in
set_option maxHeartbeats 4000000 in
theorem p_topology {l : Launch} {w : Wd} (hW : Wi w) {σ : Mem} (i : Int32) (j : Int32) (wt : Int32)  (μ : Nat → Int32) (hv : vw (vb 0) σ = μ) (hI : MI μ) : MC l w qX11_topology 2 [.ref (w.1 12), .int i, .int j, .int wt] σ (some (.int (an (fo (fo (rg wt (nI 0) (nI 2)) (ps μ i j)) (if μ (400 + (8 * toN i + toN j)) = 0 then 7 else 0)) (if toN wt = 0 then μ (272 + (8 * toN i + toN j)) else if toN wt = 1 then μ (336 + (8 * toN i + toN j)) else μ (400 + (8 * toN i + toN j)))))) (fun σ' => (σ' 14000 = (nI (fo (fo (rg wt (nI 0) (nI 2)) (ps μ i j)) (if μ (400 + (8 * toN i + toN j)) = 0 then 7 else 0)))) ∧ (∀ a, (a < 14900 ∧ a ≠ 14000) → σ' a = σ a)) := by
  refine MC.of hW (by decide +kernel) (Nat.le_of_ble_eq_true rfl) (fun X h hQ hnm => ?_)
  have h : Fx X w cX11_topology 5 RX11 2 := h
  have hQ : Qx X w (some .int) (some (.int (an (fo (fo (rg wt (nI 0) (nI 2)) (ps μ i j)) (if μ (400 + (8 * toN i + toN j)) = 0 then 7 else 0)) (if toN wt = 0 then μ (272 + (8 * toN i + toN j)) else if toN wt = 1 then μ (336 + (8 * toN i + toN j)) else μ (400 + (8 * toN i + toN j)))))) (fun σ' => (σ' 14000 = (nI (fo (fo (rg wt (nI 0) (nI 2)) (ps μ i j)) (if μ (400 + (8 * toN i + toN j)) = 0 then 7 else 0)))) ∧ (∀ a, (a < 14900 ∧ a ≠ 14000) → σ' a = σ a)) := hQ
  have hN8 := mi_8 hI
  have hcFR_σ : ∀ a, (a < 14900 ∧ a ≠ 14000) → σ a = σ a := fun _ _ => rfl
  show G X w 5 0 [(0, .ref (w.1 12)), (1, .int i), (2, .int j), (3, .int wt)] [] σ
  refine g_aload_n h dX11_topology_0 0 rfl ?_
  refine g_iload_n h dX11_topology_1 3 rfl ?_
  refine g_iconst h dX11_topology_2 (by decide) ?_
  refine g_iconst h dX11_topology_3 (by decide) ?_
  refine g_cspi (rest := [.ref (w.1 12)]) h (c_rg hW wt (nI 0) (nI 2) ) lX11_rangeStatus mX11_102 (Nat.lt_of_lt_of_le (by decide) (Nat.le_refl _)) (by decide) rfl rfl rfl dX11_topology_4 ?_
  refine g_aload_n h dX11_topology_7 0 rfl ?_
  refine g_iload_n h dX11_topology_8 1 rfl ?_
  refine g_iload_n h dX11_topology_9 2 rfl ?_
  refine g_cvpi (rest := [.int (nI (rg wt (nI 0) (nI 2))), .ref (w.1 12)]) h (c_ps hW i j μ (by first | exact hv | assumption | fail)) lX11_pairStatus mX11_209 (Nat.lt_of_lt_of_le (by decide) (Nat.le_refl _)) (by decide) sc_12 rfl rfl rfl rfl dX11_topology_10 ?_
  refine g_cspi (rest := [.ref (w.1 12)]) h (c_fo hW (rg wt (nI 0) (nI 2)) (ps μ i j) (by repeat (first | omega | exact rg_lt | exact ns_lt | exact ps_lt | exact gst_lt | exact ofS_lt | exact if_lt (by decide) (by decide) | apply fo_lt)) (by repeat (first | omega | exact rg_lt | exact ns_lt | exact ps_lt | exact gst_lt | exact ofS_lt | exact if_lt (by decide) (by decide) | apply fo_lt))) lX11_firstOf mX11_163 (Nat.lt_of_lt_of_le (by decide) (Nat.le_refl _)) (by decide) rfl rfl rfl dX11_topology_13 ?_
  refine g_cvi (rest := []) h (c_fails hW (fo (rg wt (nI 0) (nI 2)) (ps μ i j)) (by repeat (first | omega | exact rg_lt | exact ns_lt | exact ps_lt | exact gst_lt | exact ofS_lt | exact if_lt (by decide) (by decide) | apply fo_lt))) lX11_fails mX11_106 (Nat.lt_of_lt_of_le (by decide) (Nat.le_refl _)) (by decide) sc_12 rfl rfl rfl rfl dX11_topology_16 (fun σ_1 eσ_1 => ?_)
  obtain ⟨eσ_1_a, eσ_1_b⟩ := eσ_1
  have eσ_1_a : σ_1 14000 = (nI (fo (rg wt (nI 0) (nI 2)) (ps μ i j))) := eσ_1_a
  have eσ_1_b : ∀ a, (a ≠ 14000) → σ_1 a = σ a := eσ_1_b
  have ht14000_σ_1 : σ_1 14000 = (nI (fo (rg wt (nI 0) (nI 2)) (ps μ i j))) := eσ_1_a
  have hcFR_σ_1 : ∀ a, (a < 14900 ∧ a ≠ 14000) → σ_1 a = σ a := by intro a ha; exact Eq.trans (b := σ a) (eσ_1_b a (by first | omega | (simp only [vb] at *; omega))) (hcFR_σ a ha)
  have hvσ_1 : vw (vb 0) σ_1 = μ := by rw [vw_fr (σ := σ) (fun j _ _ => eσ_1_b _ (by first | omega | (simp only [vb] at *; omega)))]; first | exact hv | assumption
  refine g_ifB_eq h dX11_topology_19 (fun c19 => ?_) (fun c19 => ?_)
  ·
    have hA := nb0 c19
    obtain ⟨hs1, hs2⟩ := fo_0 hA
    obtain ⟨ew, hw9⟩ := rg_N (by decide) hs1
    have h0 := ps_0 hs2
    obtain ⟨ei, hi9⟩ := nB_N hI h0.1
    obtain ⟨ej, hj9⟩ := nB_N hI h0.2.1
    rw [ei, ej, ew]
    show G X w 5 24 [(0, .ref (w.1 12)), (1, .int (nI (toN i))), (2, .int (nI (toN j))), (3, .int (nI (toN wt)))] [] σ_1
    refine g_iload_n h dX11_topology_24 1 rfl ?_
    refine g_iload_n h dX11_topology_25 2 rfl ?_
    refine g_cspi (rest := []) h (c_at hW (toN i) (toN j) ) lX5_at mX11_215 (Nat.lt_of_lt_of_le (by decide) (Nat.le_refl _)) (by decide) rfl rfl rfl dX11_topology_26 ?_
    refine g_istore (L' := [(0, .ref (w.1 12)), (1, .int (nI (toN i))), (2, .int (nI (toN j))), (3, .int (nI (toN wt))), (4, .int (nI (8 * (toN i) + (toN j))))]) h dX11_topology_29 rfl (by decide) rfl ?_
    refine g_aload_n h dX11_topology_31 0 rfl ?_
    refine g_aload_n h dX11_topology_32 0 rfl ?_
    refine g_getr h dX11_topology_33 gX11_23 sc_12 rfl ?_
    refine g_getr h dX11_topology_36 gX11_135 (sM_0 (m := 0) (by decide)) rfl ?_
    refine g_getr h dX11_topology_39 gX11_228 (sM_11 (m := 0) (by decide)) rfl ?_
    refine g_iload h dX11_topology_42 4 rfl ?_
    refine g_iald h dX11_topology_44 (sM_14 (m := 0) (by decide)) (by omega) ?_
    refine g_top (y := μ (400 + (8 * (toN i) + (toN j)))) (vw_pic (b := (vb 0)) (k := 400 + (8 * (toN i) + (toN j))) (by first | exact hvσ_1 | assumption) (by omega)) ?_
    refine g_if_ne h dX11_topology_45 (fun c45 => ?_) (fun c45 => ?_)
    ·
      refine g_iconst h dX11_topology_53 (by decide) ?_
      refine g_cvi (rest := []) h (c_fails hW 0 (by repeat (first | omega | exact rg_lt | exact ns_lt | exact ps_lt | exact gst_lt | exact ofS_lt | exact if_lt (by decide) (by decide) | apply fo_lt))) lX11_fails mX11_106 (Nat.lt_of_lt_of_le (by decide) (Nat.le_refl _)) (by decide) sc_12 rfl rfl rfl rfl dX11_topology_54 (fun σ_2 eσ_2 => ?_)
      obtain ⟨eσ_2_a, eσ_2_b⟩ := eσ_2
      have eσ_2_a : σ_2 14000 = (nI 0) := eσ_2_a
      have eσ_2_b : ∀ a, (a ≠ 14000) → σ_2 a = σ_1 a := eσ_2_b
      have ht14000_σ_2 : σ_2 14000 = (nI 0) := eσ_2_a
      have hcFR_σ_2 : ∀ a, (a < 14900 ∧ a ≠ 14000) → σ_2 a = σ a := by intro a ha; exact Eq.trans (b := σ_1 a) (eσ_2_b a (by first | omega | (simp only [vb] at *; omega))) (hcFR_σ_1 a ha)
      have hvσ_2 : vw (vb 0) σ_2 = μ := by rw [vw_fr (σ := σ_1) (fun j _ _ => eσ_2_b _ (by first | omega | (simp only [vb] at *; omega)))]; first | exact hvσ_1 | assumption
      refine g_top (y := nI 0) rfl ?_
      refine g_ifN_eq h dX11_topology_57 (by decide) (fun c57 => ?_) (fun c57 => absurd c57 (by decide))
      refine g_iload_n h dX11_topology_62 3 rfl ?_
      rcases (show toN wt = 0 ∨ toN wt = 1 ∨ toN wt = 2 by omega) with hc63 | hc63 | hc63
      ·
        refine g_lsw (off := 25) (tgt := 88) h dX11_topology_63 (by decide) (by rw [hc63]; decide) (by decide) ?_
        refine g_aload_n h dX11_topology_88 0 rfl ?_
        refine g_getr h dX11_topology_89 gX11_23 sc_12 rfl ?_
        refine g_getr h dX11_topology_92 gX11_135 (sM_0 (m := 0) (by decide)) rfl ?_
        refine g_getr h dX11_topology_95 gX11_231 (sM_11 (m := 0) (by decide)) rfl ?_
        refine g_iload h dX11_topology_98 4 rfl ?_
        refine g_iald h dX11_topology_100 (sM_12 (m := 0) (by decide)) (by omega) ?_
        refine g_top (y := μ (272 + (8 * (toN i) + (toN j)))) (vw_pic (b := (vb 0)) (k := 272 + (8 * (toN i) + (toN j))) (by first | exact hvσ_2 | assumption) (by omega)) ?_
        exact g_iret h hQ dX11_topology_101 (congrArg (fun z => some (Value.int z)) (show (an (fo (fo (rg wt (nI 0) (nI 2)) (ps μ i j)) (if μ (400 + (8 * toN i + toN j)) = 0 then 7 else 0)) (if toN wt = 0 then μ (272 + (8 * toN i + toN j)) else if toN wt = 1 then μ (336 + (8 * toN i + toN j)) else μ (400 + (8 * toN i + toN j)))) = (μ (272 + (8 * (toN i) + (toN j)))) by first | exact an_yes (by first | exact (fo_r hA).trans (if_pos (by assumption)) | exact (fo_r hA).trans (if_neg (by assumption)) | exact fo_l (nb1 (by assumption)) | rfl | (simp [fo, rg, ns, nB, ps, gst, ofS, offB, c19, c45, hc63]; done) | (simp [fo, rg, ns, nB, ps, gst, ofS, offB, c19, c45, hc63]; omega)) (by first | rfl | (simp [an, c19, c45, hc63]; done) | (simp [an, c19, c45, hc63]; rfl)) | exact an_no (k := 0) (by first | exact (fo_r hA).trans (if_pos (by assumption)) | exact (fo_r hA).trans (if_neg (by assumption)) | exact fo_l (nb1 (by assumption)) | rfl | (simp [fo, rg, ns, nB, ps, gst, ofS, offB, c19, c45, hc63]; done) | (simp [fo, rg, ns, nB, ps, gst, ofS, offB, c19, c45, hc63]; omega)) (by first | decide | omega | assumption | exact nb1 (by assumption)) | fail)) (by exact ⟨(by first | exact tk_eq (k := 0) (by first | exact (fo_r hA).trans (if_pos (by assumption)) | exact (fo_r hA).trans (if_neg (by assumption)) | exact fo_l (nb1 (by assumption)) | rfl | (simp [fo, rg, ns, nB, ps, gst, ofS, offB, c19, c45, hc63]; done) | (simp [fo, rg, ns, nB, ps, gst, ofS, offB, c19, c45, hc63]; omega)) ht14000_σ_2 | exact tk_eq (k := 0) (by first | exact (fo_r hA).trans (if_pos (by assumption)) | exact (fo_r hA).trans (if_neg (by assumption)) | exact fo_l (nb1 (by assumption)) | rfl | (simp [fo, rg, ns, nB, ps, gst, ofS, offB, c19, c45, hc63]; done) | (simp [fo, rg, ns, nB, ps, gst, ofS, offB, c19, c45, hc63]; omega)) ht14000_σ_2 | fail), (by exact hcFR_σ_2)⟩)
      ·
        refine g_lsw (off := 39) (tgt := 102) h dX11_topology_63 (by decide) (by rw [hc63]; decide) (by decide) ?_
        refine g_aload_n h dX11_topology_102 0 rfl ?_
        refine g_getr h dX11_topology_103 gX11_23 sc_12 rfl ?_
        refine g_getr h dX11_topology_106 gX11_135 (sM_0 (m := 0) (by decide)) rfl ?_
        refine g_getr h dX11_topology_109 gX11_234 (sM_11 (m := 0) (by decide)) rfl ?_
        refine g_iload h dX11_topology_112 4 rfl ?_
        refine g_iald h dX11_topology_114 (sM_13 (m := 0) (by decide)) (by omega) ?_
        refine g_top (y := μ (336 + (8 * (toN i) + (toN j)))) (vw_pic (b := (vb 0)) (k := 336 + (8 * (toN i) + (toN j))) (by first | exact hvσ_2 | assumption) (by omega)) ?_
        exact g_iret h hQ dX11_topology_115 (congrArg (fun z => some (Value.int z)) (show (an (fo (fo (rg wt (nI 0) (nI 2)) (ps μ i j)) (if μ (400 + (8 * toN i + toN j)) = 0 then 7 else 0)) (if toN wt = 0 then μ (272 + (8 * toN i + toN j)) else if toN wt = 1 then μ (336 + (8 * toN i + toN j)) else μ (400 + (8 * toN i + toN j)))) = (μ (336 + (8 * (toN i) + (toN j)))) by first | exact an_yes (by first | exact (fo_r hA).trans (if_pos (by assumption)) | exact (fo_r hA).trans (if_neg (by assumption)) | exact fo_l (nb1 (by assumption)) | rfl | (simp [fo, rg, ns, nB, ps, gst, ofS, offB, c19, c45, hc63]; done) | (simp [fo, rg, ns, nB, ps, gst, ofS, offB, c19, c45, hc63]; omega)) (by first | rfl | (simp [an, c19, c45, hc63]; done) | (simp [an, c19, c45, hc63]; rfl)) | exact an_no (k := 0) (by first | exact (fo_r hA).trans (if_pos (by assumption)) | exact (fo_r hA).trans (if_neg (by assumption)) | exact fo_l (nb1 (by assumption)) | rfl | (simp [fo, rg, ns, nB, ps, gst, ofS, offB, c19, c45, hc63]; done) | (simp [fo, rg, ns, nB, ps, gst, ofS, offB, c19, c45, hc63]; omega)) (by first | decide | omega | assumption | exact nb1 (by assumption)) | fail)) (by exact ⟨(by first | exact tk_eq (k := 0) (by first | exact (fo_r hA).trans (if_pos (by assumption)) | exact (fo_r hA).trans (if_neg (by assumption)) | exact fo_l (nb1 (by assumption)) | rfl | (simp [fo, rg, ns, nB, ps, gst, ofS, offB, c19, c45, hc63]; done) | (simp [fo, rg, ns, nB, ps, gst, ofS, offB, c19, c45, hc63]; omega)) ht14000_σ_2 | exact tk_eq (k := 0) (by first | exact (fo_r hA).trans (if_pos (by assumption)) | exact (fo_r hA).trans (if_neg (by assumption)) | exact fo_l (nb1 (by assumption)) | rfl | (simp [fo, rg, ns, nB, ps, gst, ofS, offB, c19, c45, hc63]; done) | (simp [fo, rg, ns, nB, ps, gst, ofS, offB, c19, c45, hc63]; omega)) ht14000_σ_2 | fail), (by exact hcFR_σ_2)⟩)
      ·
        refine g_lsw (off := 53) (tgt := 116) h dX11_topology_63 (by decide) (by rw [hc63]; decide) (by decide) ?_
        refine g_aload_n h dX11_topology_116 0 rfl ?_
        refine g_getr h dX11_topology_117 gX11_23 sc_12 rfl ?_
        refine g_getr h dX11_topology_120 gX11_135 (sM_0 (m := 0) (by decide)) rfl ?_
        refine g_getr h dX11_topology_123 gX11_228 (sM_11 (m := 0) (by decide)) rfl ?_
        refine g_iload h dX11_topology_126 4 rfl ?_
        refine g_iald h dX11_topology_128 (sM_14 (m := 0) (by decide)) (by omega) ?_
        refine g_top (y := μ (400 + (8 * (toN i) + (toN j)))) (vw_pic (b := (vb 0)) (k := 400 + (8 * (toN i) + (toN j))) (by first | exact hvσ_2 | assumption) (by omega)) ?_
        exact g_iret h hQ dX11_topology_129 (congrArg (fun z => some (Value.int z)) (show (an (fo (fo (rg wt (nI 0) (nI 2)) (ps μ i j)) (if μ (400 + (8 * toN i + toN j)) = 0 then 7 else 0)) (if toN wt = 0 then μ (272 + (8 * toN i + toN j)) else if toN wt = 1 then μ (336 + (8 * toN i + toN j)) else μ (400 + (8 * toN i + toN j)))) = (μ (400 + (8 * (toN i) + (toN j)))) by first | exact an_yes (by first | exact (fo_r hA).trans (if_pos (by assumption)) | exact (fo_r hA).trans (if_neg (by assumption)) | exact fo_l (nb1 (by assumption)) | rfl | (simp [fo, rg, ns, nB, ps, gst, ofS, offB, c19, c45, hc63]; done) | (simp [fo, rg, ns, nB, ps, gst, ofS, offB, c19, c45, hc63]; omega)) (by first | rfl | (simp [an, c19, c45, hc63]; done) | (simp [an, c19, c45, hc63]; rfl)) | exact an_no (k := 0) (by first | exact (fo_r hA).trans (if_pos (by assumption)) | exact (fo_r hA).trans (if_neg (by assumption)) | exact fo_l (nb1 (by assumption)) | rfl | (simp [fo, rg, ns, nB, ps, gst, ofS, offB, c19, c45, hc63]; done) | (simp [fo, rg, ns, nB, ps, gst, ofS, offB, c19, c45, hc63]; omega)) (by first | decide | omega | assumption | exact nb1 (by assumption)) | fail)) (by exact ⟨(by first | exact tk_eq (k := 0) (by first | exact (fo_r hA).trans (if_pos (by assumption)) | exact (fo_r hA).trans (if_neg (by assumption)) | exact fo_l (nb1 (by assumption)) | rfl | (simp [fo, rg, ns, nB, ps, gst, ofS, offB, c19, c45, hc63]; done) | (simp [fo, rg, ns, nB, ps, gst, ofS, offB, c19, c45, hc63]; omega)) ht14000_σ_2 | exact tk_eq (k := 0) (by first | exact (fo_r hA).trans (if_pos (by assumption)) | exact (fo_r hA).trans (if_neg (by assumption)) | exact fo_l (nb1 (by assumption)) | rfl | (simp [fo, rg, ns, nB, ps, gst, ofS, offB, c19, c45, hc63]; done) | (simp [fo, rg, ns, nB, ps, gst, ofS, offB, c19, c45, hc63]; omega)) ht14000_σ_2 | fail), (by exact hcFR_σ_2)⟩)
    ·
      refine g_bipush h dX11_topology_48 (by decide) ?_
      refine g_goto h dX11_topology_50 ?_
      refine g_cvi (rest := []) h (c_fails hW 7 (by repeat (first | omega | exact rg_lt | exact ns_lt | exact ps_lt | exact gst_lt | exact ofS_lt | exact if_lt (by decide) (by decide) | apply fo_lt))) lX11_fails mX11_106 (Nat.lt_of_lt_of_le (by decide) (Nat.le_refl _)) (by decide) sc_12 rfl rfl rfl rfl dX11_topology_54 (fun σ_3 eσ_3 => ?_)
      obtain ⟨eσ_3_a, eσ_3_b⟩ := eσ_3
      have eσ_3_a : σ_3 14000 = (nI 7) := eσ_3_a
      have eσ_3_b : ∀ a, (a ≠ 14000) → σ_3 a = σ_1 a := eσ_3_b
      have ht14000_σ_3 : σ_3 14000 = (nI 7) := eσ_3_a
      have hcFR_σ_3 : ∀ a, (a < 14900 ∧ a ≠ 14000) → σ_3 a = σ a := by intro a ha; exact Eq.trans (b := σ_1 a) (eσ_3_b a (by first | omega | (simp only [vb] at *; omega))) (hcFR_σ_1 a ha)
      have hvσ_3 : vw (vb 0) σ_3 = μ := by rw [vw_fr (σ := σ_1) (fun j _ _ => eσ_3_b _ (by first | omega | (simp only [vb] at *; omega)))]; first | exact hvσ_1 | assumption
      refine g_top (y := nI 1) rfl ?_
      refine g_ifN_eq h dX11_topology_57 (by decide) (fun c57 => absurd c57 (by decide)) (fun c57 => ?_)
      refine g_iconstv h dX11_topology_60 (v := (-1)) (by decide) ?_
      exact g_iret h hQ dX11_topology_61 (congrArg (fun z => some (Value.int z)) (show (an (fo (fo (rg wt (nI 0) (nI 2)) (ps μ i j)) (if μ (400 + (8 * toN i + toN j)) = 0 then 7 else 0)) (if toN wt = 0 then μ (272 + (8 * toN i + toN j)) else if toN wt = 1 then μ (336 + (8 * toN i + toN j)) else μ (400 + (8 * toN i + toN j)))) = (-1) by first | exact an_yes (by first | exact (fo_r hA).trans (if_pos (by assumption)) | exact (fo_r hA).trans (if_neg (by assumption)) | exact fo_l (nb1 (by assumption)) | rfl | (simp [fo, rg, ns, nB, ps, gst, ofS, offB, c19, c45]; done) | (simp [fo, rg, ns, nB, ps, gst, ofS, offB, c19, c45]; omega)) (by first | rfl | (simp [an, c19, c45]; done) | (simp [an, c19, c45]; rfl)) | exact an_no (k := 7) (by first | exact (fo_r hA).trans (if_pos (by assumption)) | exact (fo_r hA).trans (if_neg (by assumption)) | exact fo_l (nb1 (by assumption)) | rfl | (simp [fo, rg, ns, nB, ps, gst, ofS, offB, c19, c45]; done) | (simp [fo, rg, ns, nB, ps, gst, ofS, offB, c19, c45]; omega)) (by first | decide | omega | assumption | exact nb1 (by assumption)) | fail)) (by exact ⟨(by first | exact tk_eq (k := 7) (by first | exact (fo_r hA).trans (if_pos (by assumption)) | exact (fo_r hA).trans (if_neg (by assumption)) | exact fo_l (nb1 (by assumption)) | rfl | (simp [fo, rg, ns, nB, ps, gst, ofS, offB, c19, c45]; done) | (simp [fo, rg, ns, nB, ps, gst, ofS, offB, c19, c45]; omega)) ht14000_σ_3 | exact tk_eq (k := 7) (by first | exact (fo_r hA).trans (if_pos (by assumption)) | exact (fo_r hA).trans (if_neg (by assumption)) | exact fo_l (nb1 (by assumption)) | rfl | (simp [fo, rg, ns, nB, ps, gst, ofS, offB, c19, c45]; done) | (simp [fo, rg, ns, nB, ps, gst, ofS, offB, c19, c45]; omega)) ht14000_σ_3 | fail), (by exact hcFR_σ_3)⟩)
  ·
    refine g_iconstv h dX11_topology_22 (v := (-1)) (by decide) ?_
    exact g_iret h hQ dX11_topology_23 (congrArg (fun z => some (Value.int z)) (show (an (fo (fo (rg wt (nI 0) (nI 2)) (ps μ i j)) (if μ (400 + (8 * toN i + toN j)) = 0 then 7 else 0)) (if toN wt = 0 then μ (272 + (8 * toN i + toN j)) else if toN wt = 1 then μ (336 + (8 * toN i + toN j)) else μ (400 + (8 * toN i + toN j)))) = (-1) by first | exact an_yes (by first | exact (fo_r hA).trans (if_pos (by assumption)) | exact (fo_r hA).trans (if_neg (by assumption)) | exact fo_l (nb1 (by assumption)) | rfl | (simp [fo, rg, ns, nB, ps, gst, ofS, offB, c19]; done) | (simp [fo, rg, ns, nB, ps, gst, ofS, offB, c19]; omega)) (by first | rfl | (simp [an, c19]; done) | (simp [an, c19]; rfl)) | exact an_no (k := (fo (rg wt (nI 0) (nI 2)) (ps μ i j))) (by first | exact (fo_r hA).trans (if_pos (by assumption)) | exact (fo_r hA).trans (if_neg (by assumption)) | exact fo_l (nb1 (by assumption)) | rfl | (simp [fo, rg, ns, nB, ps, gst, ofS, offB, c19]; done) | (simp [fo, rg, ns, nB, ps, gst, ofS, offB, c19]; omega)) (by first | decide | omega | assumption | exact nb1 (by assumption)) | fail)) (by exact ⟨(by first | exact tk_eq (k := (fo (rg wt (nI 0) (nI 2)) (ps μ i j))) (by first | exact (fo_r hA).trans (if_pos (by assumption)) | exact (fo_r hA).trans (if_neg (by assumption)) | exact fo_l (nb1 (by assumption)) | rfl | (simp [fo, rg, ns, nB, ps, gst, ofS, offB, c19]; done) | (simp [fo, rg, ns, nB, ps, gst, ofS, offB, c19]; omega)) ht14000_σ_1 | exact tk_eq (k := (fo (rg wt (nI 0) (nI 2)) (ps μ i j))) (by first | exact (fo_r hA).trans (if_pos (by assumption)) | exact (fo_r hA).trans (if_neg (by assumption)) | exact fo_l (nb1 (by assumption)) | rfl | (simp [fo, rg, ns, nB, ps, gst, ofS, offB, c19]; done) | (simp [fo, rg, ns, nB, ps, gst, ofS, offB, c19]; omega)) ht14000_σ_1 | fail), (by exact hcFR_σ_1)⟩)

set_option maxRecDepth 100000 in
set_option maxHeartbeats 4000000 in
theorem q_would {l : Launch} {w : Wd} (hW : Wi w) {σ : Mem} (i : Int32)  (μ : Nat → Int32) (hv : vw 0 σ = μ) (hI : MI μ) : MC l w qX12_would 5 [.ref (w.1 0), .int i] σ (some (.int (an (ns μ i) (chos μ (toN i))))) (fun σ' => (σ' 4000 = (nI (ns μ i))) ∧ (∀ a, ((a < 4900 ∨ 6000 ≤ a) ∧ a ≠ 4000) → σ' a = σ a)) := by
  refine MC.of hW (by decide +kernel) (Nat.le_of_ble_eq_true rfl) (fun X h hQ hnm => ?_)
  have h : Fx X w cX12_would 2 RX12 5 := h
  have hQ : Qx X w (some .int) (some (.int (an (ns μ i) (chos μ (toN i))))) (fun σ' => (σ' 4000 = (nI (ns μ i))) ∧ (∀ a, ((a < 4900 ∨ 6000 ≤ a) ∧ a ≠ 4000) → σ' a = σ a)) := hQ
  have hN8 := mi_8 hI
  have hcFR_σ : ∀ a, ((a < 4900 ∨ 6000 ≤ a) ∧ a ≠ 4000) → σ a = σ a := fun _ _ => rfl
  show G X w 2 0 [(0, .ref (w.1 0)), (1, .int i)] [] σ
  refine g_aload_n h dX12_would_0 0 rfl ?_
  refine g_iload_n h dX12_would_1 1 rfl ?_
  refine g_cvpi (rest := []) h (r_isNode hW i μ (by first | exact hv | assumption | fail)) lX12_isNode mX12_287 (Nat.lt_of_lt_of_le (by decide) (Nat.le_refl _)) (by decide) sc_0 rfl rfl rfl rfl dX12_would_2 ?_
  refine g_ifB_eq h dX12_would_5 (fun c5 => ?_) (fun c5 => ?_)
  ·
    refine g_aload_n h dX12_would_20 0 rfl ?_
    refine g_iconst h dX12_would_21 (by decide) ?_
    refine g_cvi (rest := []) h (r_refuse hW (nI 2) ) lX12_refuse mX12_272 (Nat.lt_of_lt_of_le (by decide) (Nat.le_refl _)) (by decide) sc_0 rfl rfl rfl rfl dX12_would_22 (fun σ_1 eσ_1 => ?_)
    have eσ_1_a : σ_1 = upd σ 4000 (nI 2) := eσ_1
    have ht4000_σ_1 : σ_1 4000 = (nI 2) := by rw [eσ_1_a]; exact upd_eq
    have hcFR_σ_1 : ∀ a, ((a < 4900 ∨ 6000 ≤ a) ∧ a ≠ 4000) → σ_1 a = σ a := by intro a ha; exact Eq.trans (b := σ a) (by rw [eσ_1_a, upd_ne (by first | omega | (simp only [vb] at *; omega))]) (hcFR_σ a ha)
    have hvσ_1 : vw 0 σ_1 = μ := by rw [eσ_1_a, vw_out (by omega)]; first | exact hv | assumption
    exact g_iret h hQ dX12_would_25 (congrArg (fun z => some (Value.int z)) (show (an (ns μ i) (chos μ (toN i))) = (-1) by first | exact an_yes (by first | rfl | (simp [fo, rg, ns, nB, ps, gst, ofS, offB, c5]; done) | (simp [fo, rg, ns, nB, ps, gst, ofS, offB, c5]; omega)) (by first | rfl | (simp [an, c5]; done) | (simp [an, c5]; rfl)) | exact an_no (k := 2) (by first | rfl | (simp [fo, rg, ns, nB, ps, gst, ofS, offB, c5]; done) | (simp [fo, rg, ns, nB, ps, gst, ofS, offB, c5]; omega)) (by first | decide | omega | assumption | exact nb1 (by assumption)) | fail)) (by exact ⟨(by first | exact tk_eq (k := 2) (by first | rfl | (simp [fo, rg, ns, nB, ps, gst, ofS, offB, c5]; done) | (simp [fo, rg, ns, nB, ps, gst, ofS, offB, c5]; omega)) ht4000_σ_1 | exact tk_eq (k := 2) (by first | rfl | (simp [fo, rg, ns, nB, ps, gst, ofS, offB, c5]; done) | (simp [fo, rg, ns, nB, ps, gst, ofS, offB, c5]; omega)) ht4000_σ_1 | fail), (by exact hcFR_σ_1)⟩)
  ·
    obtain ⟨ei, hi9⟩ := nB_N hI (show nB μ i = true from c5)
    rw [ei]
    show G X w 2 8 [(0, .ref (w.1 0)), (1, .int (nI (toN i)))] [] σ
    refine g_aload_n h dX12_would_8 0 rfl ?_
    refine g_aload_n h dX12_would_9 0 rfl ?_
    refine g_iload_n h dX12_would_10 1 rfl ?_
    refine g_cvi (rest := [.ref (w.1 0)]) h (r_chosen hW (toN i) μ (by first | exact hv | assumption | fail) (by assumption) (by omega)) lX12_chosen mX12_166 (Nat.lt_of_lt_of_le (by decide) (Nat.le_refl _)) (by decide) sc_0 rfl rfl rfl rfl dX12_would_11 (fun σ_2 eσ_2 => ?_)
    obtain ⟨eσ_2_a, eσ_2_b⟩ := eσ_2
    have eσ_2_a : PK μ (toN i) σ_2 5012 5100 := eσ_2_a
    have eσ_2_b : ∀ a, (a ≠ 5012 ∧ (a < 5100 ∨ 5108 ≤ a)) → σ_2 a = σ a := eσ_2_b
    have hcFR_σ_2 : ∀ a, ((a < 4900 ∨ 6000 ≤ a) ∧ a ≠ 4000) → σ_2 a = σ a := by intro a ha; exact Eq.trans (b := σ a) (eσ_2_b a (by first | omega | (simp only [vb] at *; omega))) (hcFR_σ a ha)
    have hvσ_2 : vw 0 σ_2 = μ := by rw [vw_fr (σ := σ) (fun j _ _ => eσ_2_b _ (by first | omega | (simp only [vb] at *; omega)))]; first | exact hv | assumption
    refine g_cvi (rest := []) h (r_gives hW (chos μ (toN i)) ) lX12_gives mX12_281 (Nat.lt_of_lt_of_le (by decide) (Nat.le_refl _)) (by decide) sc_0 rfl rfl rfl rfl dX12_would_14 (fun σ_3 eσ_3 => ?_)
    have eσ_3_a : σ_3 = upd σ_2 4000 (nI 0) := eσ_3
    have ht4000_σ_3 : σ_3 4000 = (nI 0) := by rw [eσ_3_a]; exact upd_eq
    have hcFR_σ_3 : ∀ a, ((a < 4900 ∨ 6000 ≤ a) ∧ a ≠ 4000) → σ_3 a = σ a := by intro a ha; exact Eq.trans (b := σ_2 a) (by rw [eσ_3_a, upd_ne (by first | omega | (simp only [vb] at *; omega))]) (hcFR_σ_2 a ha)
    have hvσ_3 : vw 0 σ_3 = μ := by rw [eσ_3_a, vw_out (by omega)]; first | exact hvσ_2 | assumption
    refine g_goto h dX12_would_17 ?_
    exact g_iret h hQ dX12_would_25 (congrArg (fun z => some (Value.int z)) (show (an (ns μ i) (chos μ (toN i))) = (chos μ (toN i)) by first | exact an_yes (by first | rfl | (simp [fo, rg, ns, nB, ps, gst, ofS, offB, c5]; done) | (simp [fo, rg, ns, nB, ps, gst, ofS, offB, c5]; omega)) (by first | rfl | (simp [an, c5]; done) | (simp [an, c5]; rfl)) | exact an_no (k := 0) (by first | rfl | (simp [fo, rg, ns, nB, ps, gst, ofS, offB, c5]; done) | (simp [fo, rg, ns, nB, ps, gst, ofS, offB, c5]; omega)) (by first | decide | omega | assumption | exact nb1 (by assumption)) | fail)) (by exact ⟨(by first | exact tk_eq (k := 0) (by first | rfl | (simp [fo, rg, ns, nB, ps, gst, ofS, offB, c5]; done) | (simp [fo, rg, ns, nB, ps, gst, ofS, offB, c5]; omega)) ht4000_σ_3 | exact tk_eq (k := 0) (by first | rfl | (simp [fo, rg, ns, nB, ps, gst, ofS, offB, c5]; done) | (simp [fo, rg, ns, nB, ps, gst, ofS, offB, c5]; omega)) ht4000_σ_3 | fail), (by exact hcFR_σ_3)⟩)

set_option maxRecDepth 100000 in
set_option maxHeartbeats 4000000 in
theorem p_would {l : Launch} {w : Wd} (hW : Wi w) {σ : Mem} (i : Int32)  (μ : Nat → Int32) (hv : vw (vb 0) σ = μ) (hI : MI μ) : MC l w qX11_would 4 [.ref (w.1 12), .int i] σ (some (.int (an (ns μ i) (chos μ (toN i))))) (fun σ' => (σ' 14000 = (nI (ns μ i))) ∧ (∀ a, (a < 14900 ∧ a ≠ 14000) → σ' a = σ a)) := by
  refine MC.of hW (by decide +kernel) (Nat.le_of_ble_eq_true rfl) (fun X h hQ hnm => ?_)
  have h : Fx X w cX11_would 2 RX11 4 := h
  have hQ : Qx X w (some .int) (some (.int (an (ns μ i) (chos μ (toN i))))) (fun σ' => (σ' 14000 = (nI (ns μ i))) ∧ (∀ a, (a < 14900 ∧ a ≠ 14000) → σ' a = σ a)) := hQ
  have hN8 := mi_8 hI
  have hcFR_σ : ∀ a, (a < 14900 ∧ a ≠ 14000) → σ a = σ a := fun _ _ => rfl
  show G X w 2 0 [(0, .ref (w.1 12)), (1, .int i)] [] σ
  refine g_aload_n h dX11_would_0 0 rfl ?_
  refine g_aload_n h dX11_would_1 0 rfl ?_
  refine g_iload_n h dX11_would_2 1 rfl ?_
  refine g_cvpi (rest := [.ref (w.1 12)]) h (c_ns hW i μ (by first | exact hv | assumption | fail)) lX11_nodeStatus mX11_159 (Nat.lt_of_lt_of_le (by decide) (Nat.le_refl _)) (by decide) sc_12 rfl rfl rfl rfl dX11_would_3 ?_
  refine g_cvi (rest := []) h (c_fails hW (ns μ i) (by repeat (first | omega | exact rg_lt | exact ns_lt | exact ps_lt | exact gst_lt | exact ofS_lt | exact if_lt (by decide) (by decide) | apply fo_lt))) lX11_fails mX11_106 (Nat.lt_of_lt_of_le (by decide) (Nat.le_refl _)) (by decide) sc_12 rfl rfl rfl rfl dX11_would_6 (fun σ_1 eσ_1 => ?_)
  obtain ⟨eσ_1_a, eσ_1_b⟩ := eσ_1
  have eσ_1_a : σ_1 14000 = (nI (ns μ i)) := eσ_1_a
  have eσ_1_b : ∀ a, (a ≠ 14000) → σ_1 a = σ a := eσ_1_b
  have ht14000_σ_1 : σ_1 14000 = (nI (ns μ i)) := eσ_1_a
  have hcFR_σ_1 : ∀ a, (a < 14900 ∧ a ≠ 14000) → σ_1 a = σ a := by intro a ha; exact Eq.trans (b := σ a) (eσ_1_b a (by first | omega | (simp only [vb] at *; omega))) (hcFR_σ a ha)
  have hvσ_1 : vw (vb 0) σ_1 = μ := by rw [vw_fr (σ := σ) (fun j _ _ => eσ_1_b _ (by first | omega | (simp only [vb] at *; omega)))]; first | exact hv | assumption
  refine g_ifB_eq h dX11_would_9 (fun c9 => ?_) (fun c9 => ?_)
  ·
    have hS0 := nb0 c9
    obtain ⟨ei, hi9⟩ := nB_N hI (ns_0 hS0)
    rw [ei]
    show G X w 2 16 [(0, .ref (w.1 12)), (1, .int (nI (toN i)))] [] σ_1
    refine g_aload_n h dX11_would_16 0 rfl ?_
    refine g_getr h dX11_would_17 gX11_44 sc_12 rfl ?_
    refine g_aload_n h dX11_would_20 0 rfl ?_
    refine g_getr h dX11_would_21 gX11_23 sc_12 rfl ?_
    refine g_iload_n h dX11_would_24 1 rfl ?_
    refine g_cvi (rest := []) h (c_chosen hW (toN i) 0 μ (by first | omega | decide | fail) (by first | exact hvσ_1 | assumption | fail) (by assumption) (by omega)) lX0_chosen mX11_237 (Nat.lt_of_lt_of_le (by decide) (Nat.le_refl _)) (by decide) sc_18 rfl rfl rfl rfl dX11_would_25 (fun σ_2 eσ_2 => ?_)
    obtain ⟨eσ_2_a, eσ_2_b⟩ := eσ_2
    have eσ_2_a : PK μ (toN i) σ_2 15013 15100 := eσ_2_a
    have eσ_2_b : ∀ a, (a ≠ 15013 ∧ (a < 15100 ∨ 15108 ≤ a)) → σ_2 a = σ_1 a := eσ_2_b
    have ht14000_σ_2 : σ_2 14000 = (nI (ns μ i)) := by rw [eσ_2_b _ (by first | omega | (simp only [vb] at *; omega))]; first | exact ht14000_σ_1 | assumption
    have hcFR_σ_2 : ∀ a, (a < 14900 ∧ a ≠ 14000) → σ_2 a = σ a := by intro a ha; exact Eq.trans (b := σ_1 a) (eσ_2_b a (by first | omega | (simp only [vb] at *; omega))) (hcFR_σ_1 a ha)
    have hvσ_2 : vw (vb 0) σ_2 = μ := by rw [vw_fr (σ := σ_1) (fun j _ _ => eσ_2_b _ (by first | omega | (simp only [vb] at *; omega)))]; first | exact hvσ_1 | assumption
    exact g_iret h hQ dX11_would_28 (congrArg (fun z => some (Value.int z)) (show (an (ns μ i) (chos μ (toN i))) = (chos μ (toN i)) by first | exact an_yes (by exact hS0) (by first | rfl | (simp [an, c9]; done) | (simp [an, c9]; rfl)) | exact an_no (k := (ns μ i)) (by first | rfl | (simp [fo, rg, ns, nB, ps, gst, ofS, offB, c9]; done) | (simp [fo, rg, ns, nB, ps, gst, ofS, offB, c9]; omega)) (by first | decide | omega | assumption | exact nb1 (by assumption)) | fail)) (by exact ⟨(by first | exact tk_eq (k := (ns μ i)) (by first | rfl | (simp [fo, rg, ns, nB, ps, gst, ofS, offB, c9]; done) | (simp [fo, rg, ns, nB, ps, gst, ofS, offB, c9]; omega)) ht14000_σ_2 | exact tk_eq (k := (ns μ i)) (by exact hS0) ht14000_σ_2 | fail), (by exact hcFR_σ_2)⟩)
  ·
    refine g_iconstv h dX11_would_12 (v := (-1)) (by decide) ?_
    refine g_goto h dX11_would_13 ?_
    exact g_iret h hQ dX11_would_28 (congrArg (fun z => some (Value.int z)) (show (an (ns μ i) (chos μ (toN i))) = (-1) by first | exact an_yes (by exact hS0) (by first | rfl | (simp [an, c9]; done) | (simp [an, c9]; rfl)) | exact an_no (k := (ns μ i)) (by first | rfl | (simp [fo, rg, ns, nB, ps, gst, ofS, offB, c9]; done) | (simp [fo, rg, ns, nB, ps, gst, ofS, offB, c9]; omega)) (by first | decide | omega | assumption | exact nb1 (by assumption)) | fail)) (by exact ⟨(by first | exact tk_eq (k := (ns μ i)) (by first | rfl | (simp [fo, rg, ns, nB, ps, gst, ofS, offB, c9]; done) | (simp [fo, rg, ns, nB, ps, gst, ofS, offB, c9]; omega)) ht14000_σ_1 | exact tk_eq (k := (ns μ i)) (by exact hS0) ht14000_σ_1 | fail), (by exact hcFR_σ_1)⟩)

set_option maxRecDepth 100000 in
set_option maxHeartbeats 4000000 in
theorem q_least {l : Launch} {w : Wd} (hW : Wi w) {σ : Mem} (i : Int32)  (μ : Nat → Int32) (hv : vw 0 σ = μ) (hI : MI μ) : MC l w qX12_least 4 [.ref (w.1 0), .int i] σ (some (.int (an (ns μ i) (lst μ (toN i))))) (fun σ' => (σ' 4000 = (nI (ns μ i))) ∧ (∀ a, ((a < 4900 ∨ 6000 ≤ a) ∧ a ≠ 4000) → σ' a = σ a)) := by
  refine MC.of hW (by decide +kernel) (Nat.le_of_ble_eq_true rfl) (fun X h hQ hnm => ?_)
  have h : Fx X w cX12_least 2 RX12 4 := h
  have hQ : Qx X w (some .int) (some (.int (an (ns μ i) (lst μ (toN i))))) (fun σ' => (σ' 4000 = (nI (ns μ i))) ∧ (∀ a, ((a < 4900 ∨ 6000 ≤ a) ∧ a ≠ 4000) → σ' a = σ a)) := hQ
  have hN8 := mi_8 hI
  have hcFR_σ : ∀ a, ((a < 4900 ∨ 6000 ≤ a) ∧ a ≠ 4000) → σ a = σ a := fun _ _ => rfl
  show G X w 2 0 [(0, .ref (w.1 0)), (1, .int i)] [] σ
  refine g_aload_n h dX12_least_0 0 rfl ?_
  refine g_iload_n h dX12_least_1 1 rfl ?_
  refine g_cvpi (rest := []) h (r_isNode hW i μ (by first | exact hv | assumption | fail)) lX12_isNode mX12_287 (Nat.lt_of_lt_of_le (by decide) (Nat.le_refl _)) (by decide) sc_0 rfl rfl rfl rfl dX12_least_2 ?_
  refine g_ifB_eq h dX12_least_5 (fun c5 => ?_) (fun c5 => ?_)
  ·
    refine g_aload_n h dX12_least_20 0 rfl ?_
    refine g_iconst h dX12_least_21 (by decide) ?_
    refine g_cvi (rest := []) h (r_refuse hW (nI 2) ) lX12_refuse mX12_272 (Nat.lt_of_lt_of_le (by decide) (Nat.le_refl _)) (by decide) sc_0 rfl rfl rfl rfl dX12_least_22 (fun σ_1 eσ_1 => ?_)
    have eσ_1_a : σ_1 = upd σ 4000 (nI 2) := eσ_1
    have ht4000_σ_1 : σ_1 4000 = (nI 2) := by rw [eσ_1_a]; exact upd_eq
    have hcFR_σ_1 : ∀ a, ((a < 4900 ∨ 6000 ≤ a) ∧ a ≠ 4000) → σ_1 a = σ a := by intro a ha; exact Eq.trans (b := σ a) (by rw [eσ_1_a, upd_ne (by first | omega | (simp only [vb] at *; omega))]) (hcFR_σ a ha)
    have hvσ_1 : vw 0 σ_1 = μ := by rw [eσ_1_a, vw_out (by omega)]; first | exact hv | assumption
    exact g_iret h hQ dX12_least_25 (congrArg (fun z => some (Value.int z)) (show (an (ns μ i) (lst μ (toN i))) = (-1) by first | exact an_yes (by first | rfl | (simp [fo, rg, ns, nB, ps, gst, ofS, offB, c5]; done) | (simp [fo, rg, ns, nB, ps, gst, ofS, offB, c5]; omega)) (by first | rfl | (simp [an, c5]; done) | (simp [an, c5]; rfl)) | exact an_no (k := 2) (by first | rfl | (simp [fo, rg, ns, nB, ps, gst, ofS, offB, c5]; done) | (simp [fo, rg, ns, nB, ps, gst, ofS, offB, c5]; omega)) (by first | decide | omega | assumption | exact nb1 (by assumption)) | fail)) (by exact ⟨(by first | exact tk_eq (k := 2) (by first | rfl | (simp [fo, rg, ns, nB, ps, gst, ofS, offB, c5]; done) | (simp [fo, rg, ns, nB, ps, gst, ofS, offB, c5]; omega)) ht4000_σ_1 | exact tk_eq (k := 2) (by first | rfl | (simp [fo, rg, ns, nB, ps, gst, ofS, offB, c5]; done) | (simp [fo, rg, ns, nB, ps, gst, ofS, offB, c5]; omega)) ht4000_σ_1 | fail), (by exact hcFR_σ_1)⟩)
  ·
    obtain ⟨ei, hi9⟩ := nB_N hI (show nB μ i = true from c5)
    rw [ei]
    show G X w 2 8 [(0, .ref (w.1 0)), (1, .int (nI (toN i)))] [] σ
    refine g_aload_n h dX12_least_8 0 rfl ?_
    refine g_aload_n h dX12_least_9 0 rfl ?_
    refine g_iload_n h dX12_least_10 1 rfl ?_
    refine g_cvpi (rest := [.ref (w.1 0)]) h (r_leastOf hW (toN i) μ (by first | exact hv | assumption | fail) (by assumption) (by omega)) lX12_leastOf mX12_293 (Nat.lt_of_lt_of_le (by decide) (Nat.le_refl _)) (by decide) sc_0 rfl rfl rfl rfl dX12_least_11 ?_
    refine g_cvi (rest := []) h (r_gives hW (lst μ (toN i)) ) lX12_gives mX12_281 (Nat.lt_of_lt_of_le (by decide) (Nat.le_refl _)) (by decide) sc_0 rfl rfl rfl rfl dX12_least_14 (fun σ_2 eσ_2 => ?_)
    have eσ_2_a : σ_2 = upd σ 4000 (nI 0) := eσ_2
    have ht4000_σ_2 : σ_2 4000 = (nI 0) := by rw [eσ_2_a]; exact upd_eq
    have hcFR_σ_2 : ∀ a, ((a < 4900 ∨ 6000 ≤ a) ∧ a ≠ 4000) → σ_2 a = σ a := by intro a ha; exact Eq.trans (b := σ a) (by rw [eσ_2_a, upd_ne (by first | omega | (simp only [vb] at *; omega))]) (hcFR_σ a ha)
    have hvσ_2 : vw 0 σ_2 = μ := by rw [eσ_2_a, vw_out (by omega)]; first | exact hv | assumption
    refine g_goto h dX12_least_17 ?_
    exact g_iret h hQ dX12_least_25 (congrArg (fun z => some (Value.int z)) (show (an (ns μ i) (lst μ (toN i))) = (lst μ (toN i)) by first | exact an_yes (by first | rfl | (simp [fo, rg, ns, nB, ps, gst, ofS, offB, c5]; done) | (simp [fo, rg, ns, nB, ps, gst, ofS, offB, c5]; omega)) (by first | rfl | (simp [an, c5]; done) | (simp [an, c5]; rfl)) | exact an_no (k := 0) (by first | rfl | (simp [fo, rg, ns, nB, ps, gst, ofS, offB, c5]; done) | (simp [fo, rg, ns, nB, ps, gst, ofS, offB, c5]; omega)) (by first | decide | omega | assumption | exact nb1 (by assumption)) | fail)) (by exact ⟨(by first | exact tk_eq (k := 0) (by first | rfl | (simp [fo, rg, ns, nB, ps, gst, ofS, offB, c5]; done) | (simp [fo, rg, ns, nB, ps, gst, ofS, offB, c5]; omega)) ht4000_σ_2 | exact tk_eq (k := 0) (by first | rfl | (simp [fo, rg, ns, nB, ps, gst, ofS, offB, c5]; done) | (simp [fo, rg, ns, nB, ps, gst, ofS, offB, c5]; omega)) ht4000_σ_2 | fail), (by exact hcFR_σ_2)⟩)

set_option maxRecDepth 100000 in
set_option maxHeartbeats 4000000 in
theorem p_least {l : Launch} {w : Wd} (hW : Wi w) {σ : Mem} (i : Int32)  (μ : Nat → Int32) (hv : vw (vb 0) σ = μ) (hI : MI μ) : MC l w qX11_least 4 [.ref (w.1 12), .int i] σ (some (.int (an (ns μ i) (lst μ (toN i))))) (fun σ' => (σ' 14000 = (nI (ns μ i))) ∧ (∀ a, (a < 14900 ∧ a ≠ 14000) → σ' a = σ a)) := by
  refine MC.of hW (by decide +kernel) (Nat.le_of_ble_eq_true rfl) (fun X h hQ hnm => ?_)
  have h : Fx X w cX11_least 2 RX11 4 := h
  have hQ : Qx X w (some .int) (some (.int (an (ns μ i) (lst μ (toN i))))) (fun σ' => (σ' 14000 = (nI (ns μ i))) ∧ (∀ a, (a < 14900 ∧ a ≠ 14000) → σ' a = σ a)) := hQ
  have hN8 := mi_8 hI
  have hcFR_σ : ∀ a, (a < 14900 ∧ a ≠ 14000) → σ a = σ a := fun _ _ => rfl
  show G X w 2 0 [(0, .ref (w.1 12)), (1, .int i)] [] σ
  refine g_aload_n h dX11_least_0 0 rfl ?_
  refine g_aload_n h dX11_least_1 0 rfl ?_
  refine g_iload_n h dX11_least_2 1 rfl ?_
  refine g_cvpi (rest := [.ref (w.1 12)]) h (c_ns hW i μ (by first | exact hv | assumption | fail)) lX11_nodeStatus mX11_159 (Nat.lt_of_lt_of_le (by decide) (Nat.le_refl _)) (by decide) sc_12 rfl rfl rfl rfl dX11_least_3 ?_
  refine g_cvi (rest := []) h (c_fails hW (ns μ i) (by repeat (first | omega | exact rg_lt | exact ns_lt | exact ps_lt | exact gst_lt | exact ofS_lt | exact if_lt (by decide) (by decide) | apply fo_lt))) lX11_fails mX11_106 (Nat.lt_of_lt_of_le (by decide) (Nat.le_refl _)) (by decide) sc_12 rfl rfl rfl rfl dX11_least_6 (fun σ_1 eσ_1 => ?_)
  obtain ⟨eσ_1_a, eσ_1_b⟩ := eσ_1
  have eσ_1_a : σ_1 14000 = (nI (ns μ i)) := eσ_1_a
  have eσ_1_b : ∀ a, (a ≠ 14000) → σ_1 a = σ a := eσ_1_b
  have ht14000_σ_1 : σ_1 14000 = (nI (ns μ i)) := eσ_1_a
  have hcFR_σ_1 : ∀ a, (a < 14900 ∧ a ≠ 14000) → σ_1 a = σ a := by intro a ha; exact Eq.trans (b := σ a) (eσ_1_b a (by first | omega | (simp only [vb] at *; omega))) (hcFR_σ a ha)
  have hvσ_1 : vw (vb 0) σ_1 = μ := by rw [vw_fr (σ := σ) (fun j _ _ => eσ_1_b _ (by first | omega | (simp only [vb] at *; omega)))]; first | exact hv | assumption
  refine g_ifB_eq h dX11_least_9 (fun c9 => ?_) (fun c9 => ?_)
  ·
    have hS0 := nb0 c9
    obtain ⟨ei, hi9⟩ := nB_N hI (ns_0 hS0)
    rw [ei]
    show G X w 2 16 [(0, .ref (w.1 12)), (1, .int (nI (toN i)))] [] σ_1
    refine g_aload_n h dX11_least_16 0 rfl ?_
    refine g_getr h dX11_least_17 gX11_23 sc_12 rfl ?_
    refine g_iload_n h dX11_least_20 1 rfl ?_
    refine g_cspi (rest := []) h (c_fewest hW (toN i) 0 μ (by first | omega | decide | fail) (by first | exact hvσ_1 | assumption | fail) (by assumption) (by omega)) lX0_fewest mX11_250 (Nat.lt_of_lt_of_le (by decide) (Nat.le_refl _)) (by decide) rfl rfl rfl dX11_least_21 ?_
    exact g_iret h hQ dX11_least_24 (congrArg (fun z => some (Value.int z)) (show (an (ns μ i) (lst μ (toN i))) = (lst μ (toN i)) by first | exact an_yes (by exact hS0) (by first | rfl | (simp [an, c9]; done) | (simp [an, c9]; rfl)) | exact an_no (k := (ns μ i)) (by first | rfl | (simp [fo, rg, ns, nB, ps, gst, ofS, offB, c9]; done) | (simp [fo, rg, ns, nB, ps, gst, ofS, offB, c9]; omega)) (by first | decide | omega | assumption | exact nb1 (by assumption)) | fail)) (by exact ⟨(by first | exact tk_eq (k := (ns μ i)) (by first | rfl | (simp [fo, rg, ns, nB, ps, gst, ofS, offB, c9]; done) | (simp [fo, rg, ns, nB, ps, gst, ofS, offB, c9]; omega)) ht14000_σ_1 | exact tk_eq (k := (ns μ i)) (by exact hS0) ht14000_σ_1 | fail), (by exact hcFR_σ_1)⟩)
  ·
    refine g_iconstv h dX11_least_12 (v := (-1)) (by decide) ?_
    refine g_goto h dX11_least_13 ?_
    exact g_iret h hQ dX11_least_24 (congrArg (fun z => some (Value.int z)) (show (an (ns μ i) (lst μ (toN i))) = (-1) by first | exact an_yes (by exact hS0) (by first | rfl | (simp [an, c9]; done) | (simp [an, c9]; rfl)) | exact an_no (k := (ns μ i)) (by first | rfl | (simp [fo, rg, ns, nB, ps, gst, ofS, offB, c9]; done) | (simp [fo, rg, ns, nB, ps, gst, ofS, offB, c9]; omega)) (by first | decide | omega | assumption | exact nb1 (by assumption)) | fail)) (by exact ⟨(by first | exact tk_eq (k := (ns μ i)) (by first | rfl | (simp [fo, rg, ns, nB, ps, gst, ofS, offB, c9]; done) | (simp [fo, rg, ns, nB, ps, gst, ofS, offB, c9]; omega)) ht14000_σ_1 | exact tk_eq (k := (ns μ i)) (by exact hS0) ht14000_σ_1 | fail), (by exact hcFR_σ_1)⟩)

set_option maxRecDepth 100000 in
set_option maxHeartbeats 4000000 in
theorem q_needed {l : Launch} {w : Wd} (hW : Wi w) {σ : Mem} (i : Int32)  (μ : Nat → Int32) (hv : vw 0 σ = μ) (hI : MI μ) : MC l w qX12_needed 4 [.ref (w.1 0), .int i] σ (some (.int (an (ns μ i) (alo μ (toN i) (μ (48 + toN i)) (bhd μ (toN i)))))) (fun σ' => (σ' 4000 = (nI (ns μ i))) ∧ (∀ a, ((a < 4900 ∨ 6000 ≤ a) ∧ a ≠ 4000) → σ' a = σ a)) := by
  refine MC.of hW (by decide +kernel) (Nat.le_of_ble_eq_true rfl) (fun X h hQ hnm => ?_)
  have h : Fx X w cX12_needed 2 RX12 4 := h
  have hQ : Qx X w (some .int) (some (.int (an (ns μ i) (alo μ (toN i) (μ (48 + toN i)) (bhd μ (toN i)))))) (fun σ' => (σ' 4000 = (nI (ns μ i))) ∧ (∀ a, ((a < 4900 ∨ 6000 ≤ a) ∧ a ≠ 4000) → σ' a = σ a)) := hQ
  have hN8 := mi_8 hI
  have hcFR_σ : ∀ a, ((a < 4900 ∨ 6000 ≤ a) ∧ a ≠ 4000) → σ a = σ a := fun _ _ => rfl
  show G X w 2 0 [(0, .ref (w.1 0)), (1, .int i)] [] σ
  refine g_aload_n h dX12_needed_0 0 rfl ?_
  refine g_iload_n h dX12_needed_1 1 rfl ?_
  refine g_cvpi (rest := []) h (r_isNode hW i μ (by first | exact hv | assumption | fail)) lX12_isNode mX12_287 (Nat.lt_of_lt_of_le (by decide) (Nat.le_refl _)) (by decide) sc_0 rfl rfl rfl rfl dX12_needed_2 ?_
  refine g_ifB_eq h dX12_needed_5 (fun c5 => ?_) (fun c5 => ?_)
  ·
    refine g_aload_n h dX12_needed_28 0 rfl ?_
    refine g_iconst h dX12_needed_29 (by decide) ?_
    refine g_cvi (rest := []) h (r_refuse hW (nI 2) ) lX12_refuse mX12_272 (Nat.lt_of_lt_of_le (by decide) (Nat.le_refl _)) (by decide) sc_0 rfl rfl rfl rfl dX12_needed_30 (fun σ_1 eσ_1 => ?_)
    have eσ_1_a : σ_1 = upd σ 4000 (nI 2) := eσ_1
    have ht4000_σ_1 : σ_1 4000 = (nI 2) := by rw [eσ_1_a]; exact upd_eq
    have hcFR_σ_1 : ∀ a, ((a < 4900 ∨ 6000 ≤ a) ∧ a ≠ 4000) → σ_1 a = σ a := by intro a ha; exact Eq.trans (b := σ a) (by rw [eσ_1_a, upd_ne (by first | omega | (simp only [vb] at *; omega))]) (hcFR_σ a ha)
    have hvσ_1 : vw 0 σ_1 = μ := by rw [eσ_1_a, vw_out (by omega)]; first | exact hv | assumption
    exact g_iret h hQ dX12_needed_33 (congrArg (fun z => some (Value.int z)) (show (an (ns μ i) (alo μ (toN i) (μ (48 + toN i)) (bhd μ (toN i)))) = (-1) by first | exact an_yes (by first | rfl | (simp [fo, rg, ns, nB, ps, gst, ofS, offB, c5]; done) | (simp [fo, rg, ns, nB, ps, gst, ofS, offB, c5]; omega)) (by first | rfl | (simp [an, c5]; done) | (simp [an, c5]; rfl)) | exact an_no (k := 2) (by first | rfl | (simp [fo, rg, ns, nB, ps, gst, ofS, offB, c5]; done) | (simp [fo, rg, ns, nB, ps, gst, ofS, offB, c5]; omega)) (by first | decide | omega | assumption | exact nb1 (by assumption)) | fail)) (by exact ⟨(by first | exact tk_eq (k := 2) (by first | rfl | (simp [fo, rg, ns, nB, ps, gst, ofS, offB, c5]; done) | (simp [fo, rg, ns, nB, ps, gst, ofS, offB, c5]; omega)) ht4000_σ_1 | exact tk_eq (k := 2) (by first | rfl | (simp [fo, rg, ns, nB, ps, gst, ofS, offB, c5]; done) | (simp [fo, rg, ns, nB, ps, gst, ofS, offB, c5]; omega)) ht4000_σ_1 | fail), (by exact hcFR_σ_1)⟩)
  ·
    obtain ⟨ei, hi9⟩ := nB_N hI (show nB μ i = true from c5)
    rw [ei]
    show G X w 2 8 [(0, .ref (w.1 0)), (1, .int (nI (toN i)))] [] σ
    refine g_aload_n h dX12_needed_8 0 rfl ?_
    refine g_aload_n h dX12_needed_9 0 rfl ?_
    refine g_iload_n h dX12_needed_10 1 rfl ?_
    refine g_aload_n h dX12_needed_11 0 rfl ?_
    refine g_bipush h dX12_needed_12 (by decide) ?_
    refine g_iload_n h dX12_needed_14 1 rfl ?_
    refine g_iaddN h dX12_needed_15  ?_
    refine g_cvpi (rest := [.int (nI (toN i)), .ref (w.1 0), .ref (w.1 0)]) h (r_of hW (48 + toN i) μ (by assumption) (by omega)) lX12_of mX12_61 (Nat.lt_of_lt_of_le (by decide) (Nat.le_refl _)) (by decide) sc_0 rfl rfl rfl rfl dX12_needed_16 ?_
    refine g_cvpi (rest := [.ref (w.1 0)]) h (r_aloneOf hW (toN i) (μ (48 + toN i)) μ (by first | exact hv | assumption | fail) (by assumption) (by omega)) lX12_aloneOf mX12_86 (Nat.lt_of_lt_of_le (by decide) (Nat.le_refl _)) (by decide) sc_0 rfl rfl rfl rfl dX12_needed_19 ?_
    refine g_cvi (rest := []) h (r_gives hW (alo μ (toN i) (μ (48 + toN i)) (bhd μ (toN i))) ) lX12_gives mX12_281 (Nat.lt_of_lt_of_le (by decide) (Nat.le_refl _)) (by decide) sc_0 rfl rfl rfl rfl dX12_needed_22 (fun σ_2 eσ_2 => ?_)
    have eσ_2_a : σ_2 = upd σ 4000 (nI 0) := eσ_2
    have ht4000_σ_2 : σ_2 4000 = (nI 0) := by rw [eσ_2_a]; exact upd_eq
    have hcFR_σ_2 : ∀ a, ((a < 4900 ∨ 6000 ≤ a) ∧ a ≠ 4000) → σ_2 a = σ a := by intro a ha; exact Eq.trans (b := σ a) (by rw [eσ_2_a, upd_ne (by first | omega | (simp only [vb] at *; omega))]) (hcFR_σ a ha)
    have hvσ_2 : vw 0 σ_2 = μ := by rw [eσ_2_a, vw_out (by omega)]; first | exact hv | assumption
    refine g_goto h dX12_needed_25 ?_
    exact g_iret h hQ dX12_needed_33 (congrArg (fun z => some (Value.int z)) (show (an (ns μ i) (alo μ (toN i) (μ (48 + toN i)) (bhd μ (toN i)))) = (alo μ (toN i) (μ (48 + toN i)) (bhd μ (toN i))) by first | exact an_yes (by first | rfl | (simp [fo, rg, ns, nB, ps, gst, ofS, offB, c5]; done) | (simp [fo, rg, ns, nB, ps, gst, ofS, offB, c5]; omega)) (by first | rfl | (simp [an, c5]; done) | (simp [an, c5]; rfl)) | exact an_no (k := 0) (by first | rfl | (simp [fo, rg, ns, nB, ps, gst, ofS, offB, c5]; done) | (simp [fo, rg, ns, nB, ps, gst, ofS, offB, c5]; omega)) (by first | decide | omega | assumption | exact nb1 (by assumption)) | fail)) (by exact ⟨(by first | exact tk_eq (k := 0) (by first | rfl | (simp [fo, rg, ns, nB, ps, gst, ofS, offB, c5]; done) | (simp [fo, rg, ns, nB, ps, gst, ofS, offB, c5]; omega)) ht4000_σ_2 | exact tk_eq (k := 0) (by first | rfl | (simp [fo, rg, ns, nB, ps, gst, ofS, offB, c5]; done) | (simp [fo, rg, ns, nB, ps, gst, ofS, offB, c5]; omega)) ht4000_σ_2 | fail), (by exact hcFR_σ_2)⟩)

set_option maxRecDepth 100000 in
set_option maxHeartbeats 4000000 in
theorem p_needed {l : Launch} {w : Wd} (hW : Wi w) {σ : Mem} (i : Int32)  (μ : Nat → Int32) (hv : vw (vb 0) σ = μ) (hI : MI μ) : MC l w qX11_needed 3 [.ref (w.1 12), .int i] σ (some (.int (an (ns μ i) (alo μ (toN i) (μ (48 + toN i)) (bhd μ (toN i)))))) (fun σ' => (σ' 14000 = (nI (ns μ i))) ∧ (∀ a, (a < 14900 ∧ a ≠ 14000) → σ' a = σ a)) := by
  refine MC.of hW (by decide +kernel) (Nat.le_of_ble_eq_true rfl) (fun X h hQ hnm => ?_)
  have h : Fx X w cX11_needed 2 RX11 3 := h
  have hQ : Qx X w (some .int) (some (.int (an (ns μ i) (alo μ (toN i) (μ (48 + toN i)) (bhd μ (toN i)))))) (fun σ' => (σ' 14000 = (nI (ns μ i))) ∧ (∀ a, (a < 14900 ∧ a ≠ 14000) → σ' a = σ a)) := hQ
  have hN8 := mi_8 hI
  have hcFR_σ : ∀ a, (a < 14900 ∧ a ≠ 14000) → σ a = σ a := fun _ _ => rfl
  show G X w 2 0 [(0, .ref (w.1 12)), (1, .int i)] [] σ
  refine g_aload_n h dX11_needed_0 0 rfl ?_
  refine g_aload_n h dX11_needed_1 0 rfl ?_
  refine g_iload_n h dX11_needed_2 1 rfl ?_
  refine g_cvpi (rest := [.ref (w.1 12)]) h (c_ns hW i μ (by first | exact hv | assumption | fail)) lX11_nodeStatus mX11_159 (Nat.lt_of_lt_of_le (by decide) (Nat.le_refl _)) (by decide) sc_12 rfl rfl rfl rfl dX11_needed_3 ?_
  refine g_cvi (rest := []) h (c_fails hW (ns μ i) (by repeat (first | omega | exact rg_lt | exact ns_lt | exact ps_lt | exact gst_lt | exact ofS_lt | exact if_lt (by decide) (by decide) | apply fo_lt))) lX11_fails mX11_106 (Nat.lt_of_lt_of_le (by decide) (Nat.le_refl _)) (by decide) sc_12 rfl rfl rfl rfl dX11_needed_6 (fun σ_1 eσ_1 => ?_)
  obtain ⟨eσ_1_a, eσ_1_b⟩ := eσ_1
  have eσ_1_a : σ_1 14000 = (nI (ns μ i)) := eσ_1_a
  have eσ_1_b : ∀ a, (a ≠ 14000) → σ_1 a = σ a := eσ_1_b
  have ht14000_σ_1 : σ_1 14000 = (nI (ns μ i)) := eσ_1_a
  have hcFR_σ_1 : ∀ a, (a < 14900 ∧ a ≠ 14000) → σ_1 a = σ a := by intro a ha; exact Eq.trans (b := σ a) (eσ_1_b a (by first | omega | (simp only [vb] at *; omega))) (hcFR_σ a ha)
  have hvσ_1 : vw (vb 0) σ_1 = μ := by rw [vw_fr (σ := σ) (fun j _ _ => eσ_1_b _ (by first | omega | (simp only [vb] at *; omega)))]; first | exact hv | assumption
  refine g_ifB_eq h dX11_needed_9 (fun c9 => ?_) (fun c9 => ?_)
  ·
    have hS0 := nb0 c9
    obtain ⟨ei, hi9⟩ := nB_N hI (ns_0 hS0)
    rw [ei]
    show G X w 2 14 [(0, .ref (w.1 12)), (1, .int (nI (toN i)))] [] σ_1
    refine g_aload_n h dX11_needed_14 0 rfl ?_
    refine g_getr h dX11_needed_15 gX11_23 sc_12 rfl ?_
    refine g_iload_n h dX11_needed_18 1 rfl ?_
    refine g_aload_n h dX11_needed_19 0 rfl ?_
    refine g_getr h dX11_needed_20 gX11_23 sc_12 rfl ?_
    refine g_getr h dX11_needed_23 gX11_181 (sM_0 (m := 0) (by decide)) rfl ?_
    refine g_getr h dX11_needed_26 gX11_197 (sM_4 (m := 0) (by decide)) rfl ?_
    refine g_iload_n h dX11_needed_29 1 rfl ?_
    refine g_iald h dX11_needed_30 (sM_10 (m := 0) (by decide)) (by omega) ?_
    refine g_top (y := μ (48 + (toN i))) (vw_pic (b := (vb 0)) (k := 48 + (toN i)) (by first | exact hvσ_1 | assumption) (by omega)) ?_
    refine g_aload_n h dX11_needed_31 0 rfl ?_
    refine g_getr h dX11_needed_32 gX11_23 sc_12 rfl ?_
    refine g_iload_n h dX11_needed_35 1 rfl ?_
    refine g_cspi (rest := [.int (μ (48 + (toN i))), .int (nI (toN i)), .ref (w.1 (mc 0 0))]) h (c_behind hW (toN i) 0 μ (by first | omega | decide | fail) (by first | exact hvσ_1 | assumption | fail) (by assumption) (by omega)) lX0_behind mX11_193 (Nat.lt_of_lt_of_le (by decide) (Nat.le_refl _)) (by decide) rfl rfl rfl dX11_needed_36 ?_
    refine g_cspi (rest := []) h (c_onlyWays hW (toN i) (μ (48 + (toN i))) (bhd μ (toN i)) 0 μ (by first | omega | decide | fail) (by first | exact hvσ_1 | assumption | fail) (by assumption) (by omega)) lX0_onlyWays mX11_260 (Nat.lt_of_lt_of_le (by decide) (Nat.le_refl _)) (by decide) rfl rfl rfl dX11_needed_39 ?_
    exact g_iret h hQ dX11_needed_42 (congrArg (fun z => some (Value.int z)) (show (an (ns μ i) (alo μ (toN i) (μ (48 + toN i)) (bhd μ (toN i)))) = (alo μ (toN i) (μ (48 + (toN i))) (bhd μ (toN i))) by first | exact an_yes (by exact hS0) (by first | rfl | (simp [an, c9]; done) | (simp [an, c9]; rfl)) | exact an_no (k := (ns μ i)) (by first | rfl | (simp [fo, rg, ns, nB, ps, gst, ofS, offB, c9]; done) | (simp [fo, rg, ns, nB, ps, gst, ofS, offB, c9]; omega)) (by first | decide | omega | assumption | exact nb1 (by assumption)) | fail)) (by exact ⟨(by first | exact tk_eq (k := (ns μ i)) (by first | rfl | (simp [fo, rg, ns, nB, ps, gst, ofS, offB, c9]; done) | (simp [fo, rg, ns, nB, ps, gst, ofS, offB, c9]; omega)) ht14000_σ_1 | exact tk_eq (k := (ns μ i)) (by exact hS0) ht14000_σ_1 | fail), (by exact hcFR_σ_1)⟩)
  ·
    refine g_iconstv h dX11_needed_12 (v := (-1)) (by decide) ?_
    exact g_iret h hQ dX11_needed_13 (congrArg (fun z => some (Value.int z)) (show (an (ns μ i) (alo μ (toN i) (μ (48 + toN i)) (bhd μ (toN i)))) = (-1) by first | exact an_yes (by exact hS0) (by first | rfl | (simp [an, c9]; done) | (simp [an, c9]; rfl)) | exact an_no (k := (ns μ i)) (by first | rfl | (simp [fo, rg, ns, nB, ps, gst, ofS, offB, c9]; done) | (simp [fo, rg, ns, nB, ps, gst, ofS, offB, c9]; omega)) (by first | decide | omega | assumption | exact nb1 (by assumption)) | fail)) (by exact ⟨(by first | exact tk_eq (k := (ns μ i)) (by first | rfl | (simp [fo, rg, ns, nB, ps, gst, ofS, offB, c9]; done) | (simp [fo, rg, ns, nB, ps, gst, ofS, offB, c9]; omega)) ht14000_σ_1 | exact tk_eq (k := (ns μ i)) (by exact hS0) ht14000_σ_1 | fail), (by exact hcFR_σ_1)⟩)
