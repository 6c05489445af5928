def v_goes (μ : Nat → Int32) (i j wt : Nat) : Int32 := if wt = 0 then nI (gnw μ i j).1 else if wt = 1 then nI ((gnw μ i j).2.1 - 1) else nI ((gnw μ i j).2.2.1 ((gnw μ i j).2.1 - 1))
theorem gnw_1 {μ : Nat → Int32} {fr to : Nat} : 1 ≤ (gnw μ fr to).2.1 := by
  have go : ∀ f km gn been, 1 ≤ km → 1 ≤ (goR μ to f km gn been).2.1 := by
    intro f
    induction f with
    | zero => intro km gn been h; exact h
    | succ f ih =>
      intro km gn been h
      rw [goR]
      cases stp μ to (gn (km - 1)) with
      | none => exact h
      | some n =>
        dsimp only
        split
        · exact (show 1 ≤ km + 1 by omega)
        · split
          · exact (show 1 ≤ km + 1 by omega)
          · exact ih _ _ _ (by omega)
  exact go 8 1 _ _ (Nat.le_refl 1)
theorem gnw_how {μ : Nat → Int32} {fr to : Nat} : (gnw μ fr to).1 ≤ 2 := by
  have go : ∀ f km gn been, (goR μ to f km gn been).1 ≤ 2 := by
    intro f
    induction f with
    | zero => intro km gn been; exact (show 1 ≤ 2 by decide)
    | succ f ih =>
      intro km gn been
      rw [goR]
      cases stp μ to (gn (km - 1)) with
      | none => exact (show 1 ≤ 2 by decide)
      | some n =>
        dsimp only
        split
        · exact (show 0 ≤ 2 by decide)
        · split
          · exact (show 2 ≤ 2 by decide)
          · exact ih _ _ _
  exact go 8 1 _ _

set_option maxRecDepth 100000 in
set_option maxHeartbeats 4000000 in
theorem q_route {l : Launch} {w : Wd} (hW : Wi w) {σ : Mem} (i : Int32) (j : Int32) (wt : Int32)  (μ : Nat → Int32) (hv : vw 0 σ = μ) (hI : MI μ) : MC l w qX12_route 5 [.ref (w.1 0), .int i, .int j, .int wt] σ (some (.int (an (fo (fo (rg wt (nI 0) (nI 1)) (ps μ i j)) (if rs (rts μ (toN i) 6) (toN j) = 0 then 7 else 0)) (if toN wt = 0 then nI (rs (rts μ (toN i) 6) (toN j)) else nI (rx (rts μ (toN i) 6) (toN j)))))) (fun σ' => (σ' 4000 = (nI (fo (fo (rg wt (nI 0) (nI 1)) (ps μ i j)) (if rs (rts μ (toN i) 6) (toN j) = 0 then 7 else 0)))) ∧ (∀ a, ((a < 4900 ∨ 6000 ≤ a) ∧ a ≠ 4000) → σ' a = σ a)) := by
  refine MC.of hW (by decide +kernel) (Nat.le_of_ble_eq_true rfl) (fun X h hQ hnm => ?_)
  have h : Fx X w cX12_route 5 RX12 5 := h
  have hQ : Qx X w (some .int) (some (.int (an (fo (fo (rg wt (nI 0) (nI 1)) (ps μ i j)) (if rs (rts μ (toN i) 6) (toN j) = 0 then 7 else 0)) (if toN wt = 0 then nI (rs (rts μ (toN i) 6) (toN j)) else nI (rx (rts μ (toN i) 6) (toN j)))))) (fun σ' => (σ' 4000 = (nI (fo (fo (rg wt (nI 0) (nI 1)) (ps μ i j)) (if rs (rts μ (toN i) 6) (toN j) = 0 then 7 else 0)))) ∧ (∀ a, ((a < 4900 ∨ 6000 ≤ a) ∧ a ≠ 4000) → σ' a = σ a)) := hQ
  have hN8 := mi_8 hI
  have hps := ps_lt (μ := μ) (a := i) (b := j)
  have hcFR_σ : ∀ a, ((a < 4900 ∨ 6000 ≤ a) ∧ a ≠ 4000) → σ a = σ a := fun _ _ => rfl
  show G X w 5 0 [(0, .ref (w.1 0)), (1, .int i), (2, .int j), (3, .int wt)] [] σ
  refine g_iload_n h dX12_route_0 3 rfl ?_
  refine g_iconst h dX12_route_1 (by decide) ?_
  refine g_iconst h dX12_route_2 (by decide) ?_
  refine g_cspi (rest := []) h (r_isFrom hW wt (nI 0) (nI 1) ) lX12_isFrom mX12_134 (Nat.lt_of_lt_of_le (by decide) (Nat.le_refl _)) (by decide) rfl rfl rfl dX12_route_3 ?_
  refine g_ifB_ne h dX12_route_6 (fun c6 => ?_) (fun c6 => ?_)
  ·
    refine g_aload_n h dX12_route_13 0 rfl ?_
    refine g_iload_n h dX12_route_14 1 rfl ?_
    refine g_iload_n h dX12_route_15 2 rfl ?_
    refine g_cvpi (rest := []) h (r_ps hW i j μ (by first | exact hv | assumption | fail)) lX12_wrongTwo mX12_290 (Nat.lt_of_lt_of_le (by decide) (Nat.le_refl _)) (by decide) sc_0 rfl rfl rfl rfl dX12_route_16 ?_
    refine g_istore (L' := [(0, .ref (w.1 0)), (1, .int i), (2, .int j), (3, .int wt), (4, .int (nI (ps μ i j)))]) h dX12_route_19 rfl (by decide) rfl ?_
    refine g_iload h dX12_route_21 4 rfl ?_
    refine g_ifN_le h dX12_route_23 (by omega) (fun c23 => ?_) (fun c23 => ?_)
    ·
      obtain ⟨ew, hw9⟩ := fr_N (by decide) c6
      have hp0 : ps μ i j = 0 := by omega
      have h0 := ps_0 hp0
      have hA : fo (rg wt (nI 0) (nI 1)) (ps μ i j) = 0 := by simp [fo, rg, c6, hp0]
      rw [hp0]
      obtain ⟨ei, hi9⟩ := nB_N hI h0.1
      obtain ⟨ej, hj9⟩ := nB_N hI h0.2.1
      rw [ei, ej, ew]
      have hb9 := rts_rb hI (show toN i < 8 by omega) 6 (by omega) (toN j)
      show G X w 5 33 [(0, .ref (w.1 0)), (1, .int (nI (toN i))), (2, .int (nI (toN j))), (3, .int (nI (toN wt))), (4, .int (nI 0))] [] σ
      refine g_aload_n h dX12_route_33 0 rfl ?_
      refine g_iload_n h dX12_route_34 1 rfl ?_
      refine g_cvv (rest := []) h (r_laysRoutes hW (toN i) μ (by first | exact hv | assumption | fail) (by assumption) (by omega)) lX12_laysRoutes mX12_306 (Nat.lt_of_lt_of_le (by decide) (Nat.le_refl _)) (by decide) sc_0 rfl rfl rfl rfl dX12_route_35 (fun σ_1 eσ_1 => ?_)
      obtain ⟨eσ_1_a, eσ_1_b⟩ := eσ_1
      have eσ_1_a : RR σ_1 (rts μ (toN i) 6) := eσ_1_a
      have eσ_1_b : ∀ a, (a < 5150 ∨ 5168 ≤ a) → σ_1 a = σ a := eσ_1_b
      have hcFR_σ_1 : ∀ a, ((a < 4900 ∨ 6000 ≤ a) ∧ a ≠ 4000) → σ_1 a = σ a := by intro a ha; exact Eq.trans (b := σ a) (eσ_1_b a (by first | omega | (simp only [vb] at *; omega))) (hcFR_σ a ha)
      have hcRR_σ_1 : RR σ_1 (rts μ (toN i) 6) := eσ_1_a
      have hvσ_1 : vw 0 σ_1 = μ := by rw [vw_fr (σ := σ) (fun j _ _ => eσ_1_b _ (by first | omega | (simp only [vb] at *; omega)))]; first | exact hv | assumption
      refine g_aload_n h dX12_route_38 0 rfl ?_
      refine g_getr h dX12_route_39 gX12_42 sc_0 rfl ?_
      refine g_iload_n h dX12_route_42 2 rfl ?_
      refine g_iald h dX12_route_43 sc_9 (by omega) ?_
      refine g_top (y := (nI (rs (rts μ (toN i) 6) (toN j)))) ((hcRR_σ_1 (toN j) (by omega)).1) ?_
      refine g_ifN_ne h dX12_route_44 (by omega) (fun c44 => ?_) (fun c44 => ?_)
      ·
        refine g_aload_n h dX12_route_56 0 rfl ?_
        refine g_iload_n h dX12_route_57 3 rfl ?_
        refine g_ifN_ne h dX12_route_58 (by omega) (fun c58 => ?_) (fun c58 => ?_)
        ·
          refine g_aload_n h dX12_route_70 0 rfl ?_
          refine g_getr h dX12_route_71 gX12_45 sc_0 rfl ?_
          refine g_iload_n h dX12_route_74 2 rfl ?_
          refine g_iald h dX12_route_75 sc_10 (by omega) ?_
          refine g_top (y := (nI (rx (rts μ (toN i) 6) (toN j)))) (by rw [(hcRR_σ_1 (toN j) (by omega)).2]; exact rn_rx (by omega)) ?_
          refine g_cvi (rest := []) h (r_gives hW (nI (rx (rts μ (toN i) 6) (toN j))) ) lX12_gives mX12_281 (Nat.lt_of_lt_of_le (by decide) (Nat.le_refl _)) (by decide) sc_0 rfl rfl rfl rfl dX12_route_76 (fun σ_2 eσ_2 => ?_)
          have eσ_2_a : σ_2 = upd σ_1 4000 (nI 0) := eσ_2
          have ht4000_σ_2 : σ_2 4000 = (nI 0) := by rw [eσ_2_a]; exact upd_eq
          have hcFR_σ_2 : ∀ a, ((a < 4900 ∨ 6000 ≤ a) ∧ a ≠ 4000) → σ_2 a = σ a := by intro a ha; exact Eq.trans (b := σ_1 a) (by rw [eσ_2_a, upd_ne (by first | omega | (simp only [vb] at *; omega))]) (hcFR_σ_1 a ha)
          have hcRR_σ_2 : RR σ_2 (rts μ (toN i) 6) := by rw [eσ_2_a]; exact RR.fr hcRR_σ_1 (fun a ha hb => upd_ne (by omega))
          have hvσ_2 : vw 0 σ_2 = μ := by rw [eσ_2_a, vw_out (by omega)]; first | exact hvσ_1 | assumption
          exact g_iret h hQ dX12_route_79 (congrArg (fun z => some (Value.int z)) (show (an (fo (fo (rg wt (nI 0) (nI 1)) (ps μ i j)) (if rs (rts μ (toN i) 6) (toN j) = 0 then 7 else 0)) (if toN wt = 0 then nI (rs (rts μ (toN i) 6) (toN j)) else nI (rx (rts μ (toN i) 6) (toN j)))) = (nI (rx (rts μ (toN i) 6) (toN j))) by first | exact an_yes (by first | exact (fo_r hA).trans (if_pos (by assumption)) | exact (fo_r hA).trans (if_neg (by assumption)) | (rw [fo_l (by simp [fo, rg, c6]; omega)]; simp [fo, rg, c6]; done) | rfl | (simp [fo, rg, ns, nB, ps, gst, ofS, offB, c6, c23, c44, c58]; done) | (simp [fo, rg, ns, nB, ps, gst, ofS, offB, c6, c23, c44, c58]; omega)) (by first | (rw [if_pos (by omega)]; done) | (rw [if_neg (by omega)]; done)) | exact an_no (k := 0) (by first | exact (fo_r hA).trans (if_pos (by assumption)) | exact (fo_r hA).trans (if_neg (by assumption)) | (rw [fo_l (by simp [fo, rg, c6]; omega)]; simp [fo, rg, c6]; done) | rfl | (simp [fo, rg, ns, nB, ps, gst, ofS, offB, c6, c23, c44, c58]; done) | (simp [fo, rg, ns, nB, ps, gst, ofS, offB, c6, c23, c44, c58]; omega)) (by first | decide | omega | assumption | exact nb1 (by assumption)) | fail)) (by exact ⟨(by first | exact tk_eq (k := 0) (by first | exact (fo_r hA).trans (if_pos (by assumption)) | exact (fo_r hA).trans (if_neg (by assumption)) | (rw [fo_l (by simp [fo, rg, c6]; omega)]; simp [fo, rg, c6]; done) | rfl | (simp [fo, rg, ns, nB, ps, gst, ofS, offB, c6, c23, c44, c58]; done) | (simp [fo, rg, ns, nB, ps, gst, ofS, offB, c6, c23, c44, c58]; omega)) ht4000_σ_2 | exact tk_eq (k := 0) (by first | exact (fo_r hA).trans (if_pos (by assumption)) | exact (fo_r hA).trans (if_neg (by assumption)) | (rw [fo_l (by simp [fo, rg, c6]; omega)]; simp [fo, rg, c6]; done) | rfl | (simp [fo, rg, ns, nB, ps, gst, ofS, offB, c6, c23, c44, c58]; done) | (simp [fo, rg, ns, nB, ps, gst, ofS, offB, c6, c23, c44, c58]; omega)) ht4000_σ_2 | fail), (by exact hcFR_σ_2)⟩)
        ·
          refine g_aload_n h dX12_route_61 0 rfl ?_
          refine g_getr h dX12_route_62 gX12_42 sc_0 rfl ?_
          refine g_iload_n h dX12_route_65 2 rfl ?_
          refine g_iald h dX12_route_66 sc_9 (by omega) ?_
          refine g_top (y := (nI (rs (rts μ (toN i) 6) (toN j)))) ((hcRR_σ_1 (toN j) (by omega)).1) ?_
          refine g_goto h dX12_route_67 ?_
          refine g_cvi (rest := []) h (r_gives hW (nI (rs (rts μ (toN i) 6) (toN j))) ) lX12_gives mX12_281 (Nat.lt_of_lt_of_le (by decide) (Nat.le_refl _)) (by decide) sc_0 rfl rfl rfl rfl dX12_route_76 (fun σ_3 eσ_3 => ?_)
          have eσ_3_a : σ_3 = upd σ_1 4000 (nI 0) := eσ_3
          have ht4000_σ_3 : σ_3 4000 = (nI 0) := by rw [eσ_3_a]; exact upd_eq
          have hcFR_σ_3 : ∀ a, ((a < 4900 ∨ 6000 ≤ a) ∧ a ≠ 4000) → σ_3 a = σ a := by intro a ha; exact Eq.trans (b := σ_1 a) (by rw [eσ_3_a, upd_ne (by first | omega | (simp only [vb] at *; omega))]) (hcFR_σ_1 a ha)
          have hcRR_σ_3 : RR σ_3 (rts μ (toN i) 6) := by rw [eσ_3_a]; exact RR.fr hcRR_σ_1 (fun a ha hb => upd_ne (by omega))
          have hvσ_3 : vw 0 σ_3 = μ := by rw [eσ_3_a, vw_out (by omega)]; first | exact hvσ_1 | assumption
          exact g_iret h hQ dX12_route_79 (congrArg (fun z => some (Value.int z)) (show (an (fo (fo (rg wt (nI 0) (nI 1)) (ps μ i j)) (if rs (rts μ (toN i) 6) (toN j) = 0 then 7 else 0)) (if toN wt = 0 then nI (rs (rts μ (toN i) 6) (toN j)) else nI (rx (rts μ (toN i) 6) (toN j)))) = (nI (rs (rts μ (toN i) 6) (toN j))) by first | exact an_yes (by first | exact (fo_r hA).trans (if_pos (by assumption)) | exact (fo_r hA).trans (if_neg (by assumption)) | (rw [fo_l (by simp [fo, rg, c6]; omega)]; simp [fo, rg, c6]; done) | rfl | (simp [fo, rg, ns, nB, ps, gst, ofS, offB, c6, c23, c44, c58]; done) | (simp [fo, rg, ns, nB, ps, gst, ofS, offB, c6, c23, c44, c58]; omega)) (by first | (rw [if_pos (by omega)]; done) | (rw [if_neg (by omega)]; done)) | exact an_no (k := 0) (by first | exact (fo_r hA).trans (if_pos (by assumption)) | exact (fo_r hA).trans (if_neg (by assumption)) | (rw [fo_l (by simp [fo, rg, c6]; omega)]; simp [fo, rg, c6]; done) | rfl | (simp [fo, rg, ns, nB, ps, gst, ofS, offB, c6, c23, c44, c58]; done) | (simp [fo, rg, ns, nB, ps, gst, ofS, offB, c6, c23, c44, c58]; omega)) (by first | decide | omega | assumption | exact nb1 (by assumption)) | fail)) (by exact ⟨(by first | exact tk_eq (k := 0) (by first | exact (fo_r hA).trans (if_pos (by assumption)) | exact (fo_r hA).trans (if_neg (by assumption)) | (rw [fo_l (by simp [fo, rg, c6]; omega)]; simp [fo, rg, c6]; done) | rfl | (simp [fo, rg, ns, nB, ps, gst, ofS, offB, c6, c23, c44, c58]; done) | (simp [fo, rg, ns, nB, ps, gst, ofS, offB, c6, c23, c44, c58]; omega)) ht4000_σ_3 | exact tk_eq (k := 0) (by first | exact (fo_r hA).trans (if_pos (by assumption)) | exact (fo_r hA).trans (if_neg (by assumption)) | (rw [fo_l (by simp [fo, rg, c6]; omega)]; simp [fo, rg, c6]; done) | rfl | (simp [fo, rg, ns, nB, ps, gst, ofS, offB, c6, c23, c44, c58]; done) | (simp [fo, rg, ns, nB, ps, gst, ofS, offB, c6, c23, c44, c58]; omega)) ht4000_σ_3 | fail), (by exact hcFR_σ_3)⟩)
      ·
        refine g_aload_n h dX12_route_47 0 rfl ?_
        refine g_bipush h dX12_route_48 (by decide) ?_
        refine g_cvi (rest := []) h (r_refuse hW (nI 7) ) lX12_refuse mX12_272 (Nat.lt_of_lt_of_le (by decide) (Nat.le_refl _)) (by decide) sc_0 rfl rfl rfl rfl dX12_route_50 (fun σ_4 eσ_4 => ?_)
        have eσ_4_a : σ_4 = upd σ_1 4000 (nI 7) := eσ_4
        have ht4000_σ_4 : σ_4 4000 = (nI 7) := by rw [eσ_4_a]; exact upd_eq
        have hcFR_σ_4 : ∀ a, ((a < 4900 ∨ 6000 ≤ a) ∧ a ≠ 4000) → σ_4 a = σ a := by intro a ha; exact Eq.trans (b := σ_1 a) (by rw [eσ_4_a, upd_ne (by first | omega | (simp only [vb] at *; omega))]) (hcFR_σ_1 a ha)
        have hcRR_σ_4 : RR σ_4 (rts μ (toN i) 6) := by rw [eσ_4_a]; exact RR.fr hcRR_σ_1 (fun a ha hb => upd_ne (by omega))
        have hvσ_4 : vw 0 σ_4 = μ := by rw [eσ_4_a, vw_out (by omega)]; first | exact hvσ_1 | assumption
        refine g_goto h dX12_route_53 ?_
        exact g_iret h hQ dX12_route_79 (congrArg (fun z => some (Value.int z)) (show (an (fo (fo (rg wt (nI 0) (nI 1)) (ps μ i j)) (if rs (rts μ (toN i) 6) (toN j) = 0 then 7 else 0)) (if toN wt = 0 then nI (rs (rts μ (toN i) 6) (toN j)) else nI (rx (rts μ (toN i) 6) (toN j)))) = (-1) by first | exact an_yes (by first | exact (fo_r hA).trans (if_pos (by assumption)) | exact (fo_r hA).trans (if_neg (by assumption)) | (rw [fo_l (by simp [fo, rg, c6]; omega)]; simp [fo, rg, c6]; done) | rfl | (simp [fo, rg, ns, nB, ps, gst, ofS, offB, c6, c23, c44]; done) | (simp [fo, rg, ns, nB, ps, gst, ofS, offB, c6, c23, c44]; omega)) (by first | (rw [if_pos (by omega)]; done) | (rw [if_neg (by omega)]; done)) | exact an_no (k := 7) (by first | exact (fo_r hA).trans (if_pos (by assumption)) | exact (fo_r hA).trans (if_neg (by assumption)) | (rw [fo_l (by simp [fo, rg, c6]; omega)]; simp [fo, rg, c6]; done) | rfl | (simp [fo, rg, ns, nB, ps, gst, ofS, offB, c6, c23, c44]; done) | (simp [fo, rg, ns, nB, ps, gst, ofS, offB, c6, c23, c44]; omega)) (by first | decide | omega | assumption | exact nb1 (by assumption)) | fail)) (by exact ⟨(by first | exact tk_eq (k := 7) (by first | exact (fo_r hA).trans (if_pos (by assumption)) | exact (fo_r hA).trans (if_neg (by assumption)) | (rw [fo_l (by simp [fo, rg, c6]; omega)]; simp [fo, rg, c6]; done) | rfl | (simp [fo, rg, ns, nB, ps, gst, ofS, offB, c6, c23, c44]; done) | (simp [fo, rg, ns, nB, ps, gst, ofS, offB, c6, c23, c44]; omega)) ht4000_σ_4 | exact tk_eq (k := 7) (by first | exact (fo_r hA).trans (if_pos (by assumption)) | exact (fo_r hA).trans (if_neg (by assumption)) | (rw [fo_l (by simp [fo, rg, c6]; omega)]; simp [fo, rg, c6]; done) | rfl | (simp [fo, rg, ns, nB, ps, gst, ofS, offB, c6, c23, c44]; done) | (simp [fo, rg, ns, nB, ps, gst, ofS, offB, c6, c23, c44]; omega)) ht4000_σ_4 | fail), (by exact hcFR_σ_4)⟩)
    ·
      refine g_aload_n h dX12_route_26 0 rfl ?_
      refine g_iload h dX12_route_27 4 rfl ?_
      refine g_cvi (rest := []) h (r_refuse hW (nI (ps μ i j)) ) lX12_refuse mX12_272 (Nat.lt_of_lt_of_le (by decide) (Nat.le_refl _)) (by decide) sc_0 rfl rfl rfl rfl dX12_route_29 (fun σ_5 eσ_5 => ?_)
      have eσ_5_a : σ_5 = upd σ 4000 (nI (ps μ i j)) := eσ_5
      have ht4000_σ_5 : σ_5 4000 = (nI (ps μ i j)) := by rw [eσ_5_a]; exact upd_eq
      have hcFR_σ_5 : ∀ a, ((a < 4900 ∨ 6000 ≤ a) ∧ a ≠ 4000) → σ_5 a = σ a := by intro a ha; exact Eq.trans (b := σ a) (by rw [eσ_5_a, upd_ne (by first | omega | (simp only [vb] at *; omega))]) (hcFR_σ a ha)
      have hvσ_5 : vw 0 σ_5 = μ := by rw [eσ_5_a, vw_out (by omega)]; first | exact hv | assumption
      exact g_iret h hQ dX12_route_32 (congrArg (fun z => some (Value.int z)) (show (an (fo (fo (rg wt (nI 0) (nI 1)) (ps μ i j)) (if rs (rts μ (toN i) 6) (toN j) = 0 then 7 else 0)) (if toN wt = 0 then nI (rs (rts μ (toN i) 6) (toN j)) else nI (rx (rts μ (toN i) 6) (toN j)))) = (-1) by first | exact an_yes (by first | exact (fo_r hA).trans (if_pos (by assumption)) | exact (fo_r hA).trans (if_neg (by assumption)) | (rw [fo_l (by simp [fo, rg, c6]; omega)]; simp [fo, rg, c6]; done) | rfl | (simp [fo, rg, ns, nB, ps, gst, ofS, offB, c6, c23]; done) | (simp [fo, rg, ns, nB, ps, gst, ofS, offB, c6, c23]; omega)) (by first | (rw [if_pos (by omega)]; done) | (rw [if_neg (by omega)]; done)) | exact an_no (k := (ps μ i j)) (by first | exact (fo_r hA).trans (if_pos (by assumption)) | exact (fo_r hA).trans (if_neg (by assumption)) | (rw [fo_l (by simp [fo, rg, c6]; omega)]; simp [fo, rg, c6]; done) | rfl | (simp [fo, rg, ns, nB, ps, gst, ofS, offB, c6, c23]; done) | (simp [fo, rg, ns, nB, ps, gst, ofS, offB, c6, c23]; omega)) (by first | decide | omega | assumption | exact nb1 (by assumption)) | fail)) (by exact ⟨(by first | exact tk_eq (k := (ps μ i j)) (by first | exact (fo_r hA).trans (if_pos (by assumption)) | exact (fo_r hA).trans (if_neg (by assumption)) | (rw [fo_l (by simp [fo, rg, c6]; omega)]; simp [fo, rg, c6]; done) | rfl | (simp [fo, rg, ns, nB, ps, gst, ofS, offB, c6, c23]; done) | (simp [fo, rg, ns, nB, ps, gst, ofS, offB, c6, c23]; omega)) ht4000_σ_5 | exact tk_eq (k := (ps μ i j)) (by first | exact (fo_r hA).trans (if_pos (by assumption)) | exact (fo_r hA).trans (if_neg (by assumption)) | (rw [fo_l (by simp [fo, rg, c6]; omega)]; simp [fo, rg, c6]; done) | rfl | (simp [fo, rg, ns, nB, ps, gst, ofS, offB, c6, c23]; done) | (simp [fo, rg, ns, nB, ps, gst, ofS, offB, c6, c23]; omega)) ht4000_σ_5 | fail), (by exact hcFR_σ_5)⟩)
  ·
    refine g_iconst h dX12_route_9 (by decide) ?_
    refine g_goto h dX12_route_10 ?_
    refine g_istore (L' := [(0, .ref (w.1 0)), (1, .int i), (2, .int j), (3, .int wt), (4, .int (nI 1))]) h dX12_route_19 rfl (by decide) rfl ?_
    refine g_iload h dX12_route_21 4 rfl ?_
    refine g_ifN_le h dX12_route_23 (by decide) (fun c23 => absurd c23 (by decide)) (fun c23 => ?_)
    refine g_aload_n h dX12_route_26 0 rfl ?_
    refine g_iload h dX12_route_27 4 rfl ?_
    refine g_cvi (rest := []) h (r_refuse hW (nI 1) ) lX12_refuse mX12_272 (Nat.lt_of_lt_of_le (by decide) (Nat.le_refl _)) (by decide) sc_0 rfl rfl rfl rfl dX12_route_29 (fun σ_6 eσ_6 => ?_)
    have eσ_6_a : σ_6 = upd σ 4000 (nI 1) := eσ_6
    have ht4000_σ_6 : σ_6 4000 = (nI 1) := by rw [eσ_6_a]; exact upd_eq
    have hcFR_σ_6 : ∀ a, ((a < 4900 ∨ 6000 ≤ a) ∧ a ≠ 4000) → σ_6 a = σ a := by intro a ha; exact Eq.trans (b := σ a) (by rw [eσ_6_a, upd_ne (by first | omega | (simp only [vb] at *; omega))]) (hcFR_σ a ha)
    have hvσ_6 : vw 0 σ_6 = μ := by rw [eσ_6_a, vw_out (by omega)]; first | exact hv | assumption
    exact g_iret h hQ dX12_route_32 (congrArg (fun z => some (Value.int z)) (show (an (fo (fo (rg wt (nI 0) (nI 1)) (ps μ i j)) (if rs (rts μ (toN i) 6) (toN j) = 0 then 7 else 0)) (if toN wt = 0 then nI (rs (rts μ (toN i) 6) (toN j)) else nI (rx (rts μ (toN i) 6) (toN j)))) = (-1) by first | exact an_yes (by first | exact (fo_r hA).trans (if_pos (by assumption)) | exact (fo_r hA).trans (if_neg (by assumption)) | (rw [fo_l (by simp [fo, rg, c6]; omega)]; simp [fo, rg, c6]; done) | rfl | (simp [fo, rg, ns, nB, ps, gst, ofS, offB, c6]; done) | (simp [fo, rg, ns, nB, ps, gst, ofS, offB, c6]; omega)) (by first | (rw [if_pos (by omega)]; done) | (rw [if_neg (by omega)]; done)) | exact an_no (k := 1) (by first | exact (fo_r hA).trans (if_pos (by assumption)) | exact (fo_r hA).trans (if_neg (by assumption)) | (rw [fo_l (by simp [fo, rg, c6]; omega)]; simp [fo, rg, c6]; done) | rfl | (simp [fo, rg, ns, nB, ps, gst, ofS, offB, c6]; done) | (simp [fo, rg, ns, nB, ps, gst, ofS, offB, c6]; omega)) (by first | decide | omega | assumption | exact nb1 (by assumption)) | fail)) (by exact ⟨(by first | exact tk_eq (k := 1) (by first | exact (fo_r hA).trans (if_pos (by assumption)) | exact (fo_r hA).trans (if_neg (by assumption)) | (rw [fo_l (by simp [fo, rg, c6]; omega)]; simp [fo, rg, c6]; done) | rfl | (simp [fo, rg, ns, nB, ps, gst, ofS, offB, c6]; done) | (simp [fo, rg, ns, nB, ps, gst, ofS, offB, c6]; omega)) ht4000_σ_6 | exact tk_eq (k := 1) (by first | exact (fo_r hA).trans (if_pos (by assumption)) | exact (fo_r hA).trans (if_neg (by assumption)) | (rw [fo_l (by simp [fo, rg, c6]; omega)]; simp [fo, rg, c6]; done) | rfl | (simp [fo, rg, ns, nB, ps, gst, ofS, offB, c6]; done) | (simp [fo, rg, ns, nB, ps, gst, ofS, offB, c6]; omega)) ht4000_σ_6 | fail), (by exact hcFR_σ_6)⟩)

set_option maxRecDepth 100000 in
set_option maxHeartbeats 4000000 in
theorem p_route {l : Launch} {w : Wd} (hW : Wi w) {σ : Mem} (i : Int32) (j : Int32) (wt : Int32)  (μ : Nat → Int32) (hv : vw (vb 0) σ = μ) (hI : MI μ) : MC l w qX11_route 3 [.ref (w.1 12), .int i, .int j, .int wt] σ (some (.int (an (fo (fo (rg wt (nI 0) (nI 1)) (ps μ i j)) (if rs (rts μ (toN i) 6) (toN j) = 0 then 7 else 0)) (if toN wt = 0 then nI (rs (rts μ (toN i) 6) (toN j)) else nI (rx (rts μ (toN i) 6) (toN j)))))) (fun σ' => (σ' 14000 = (nI (fo (fo (rg wt (nI 0) (nI 1)) (ps μ i j)) (if rs (rts μ (toN i) 6) (toN j) = 0 then 7 else 0)))) ∧ (∀ a, (a < 14900 ∧ a ≠ 14000) → σ' a = σ a)) := by
  refine MC.of hW (by decide +kernel) (Nat.le_of_ble_eq_true rfl) (fun X h hQ hnm => ?_)
  have h : Fx X w cX11_route 5 RX11 3 := h
  have hQ : Qx X w (some .int) (some (.int (an (fo (fo (rg wt (nI 0) (nI 1)) (ps μ i j)) (if rs (rts μ (toN i) 6) (toN j) = 0 then 7 else 0)) (if toN wt = 0 then nI (rs (rts μ (toN i) 6) (toN j)) else nI (rx (rts μ (toN i) 6) (toN j)))))) (fun σ' => (σ' 14000 = (nI (fo (fo (rg wt (nI 0) (nI 1)) (ps μ i j)) (if rs (rts μ (toN i) 6) (toN j) = 0 then 7 else 0)))) ∧ (∀ a, (a < 14900 ∧ a ≠ 14000) → σ' a = σ a)) := hQ
  have hN8 := mi_8 hI
  have hcFR_σ : ∀ a, (a < 14900 ∧ a ≠ 14000) → σ a = σ a := fun _ _ => rfl
  show G X w 5 0 [(0, .ref (w.1 12)), (1, .int i), (2, .int j), (3, .int wt)] [] σ
  refine g_aload_n h dX11_route_0 0 rfl ?_
  refine g_iload_n h dX11_route_1 3 rfl ?_
  refine g_iconst h dX11_route_2 (by decide) ?_
  refine g_iconst h dX11_route_3 (by decide) ?_
  refine g_cspi (rest := [.ref (w.1 12)]) h (c_rg hW wt (nI 0) (nI 1) ) lX11_rangeStatus mX11_102 (Nat.lt_of_lt_of_le (by decide) (Nat.le_refl _)) (by decide) rfl rfl rfl dX11_route_4 ?_
  refine g_aload_n h dX11_route_7 0 rfl ?_
  refine g_iload_n h dX11_route_8 1 rfl ?_
  refine g_iload_n h dX11_route_9 2 rfl ?_
  refine g_cvpi (rest := [.int (nI (rg wt (nI 0) (nI 1))), .ref (w.1 12)]) h (c_ps hW i j μ (by first | exact hv | assumption | fail)) lX11_pairStatus mX11_209 (Nat.lt_of_lt_of_le (by decide) (Nat.le_refl _)) (by decide) sc_12 rfl rfl rfl rfl dX11_route_10 ?_
  refine g_cspi (rest := [.ref (w.1 12)]) h (c_fo hW (rg wt (nI 0) (nI 1)) (ps μ i j) (by repeat (first | omega | exact rg_lt | exact ns_lt | exact ps_lt | exact gst_lt | exact ofS_lt | exact if_lt (by decide) (by decide) | apply fo_lt)) (by repeat (first | omega | exact rg_lt | exact ns_lt | exact ps_lt | exact gst_lt | exact ofS_lt | exact if_lt (by decide) (by decide) | apply fo_lt))) lX11_firstOf mX11_163 (Nat.lt_of_lt_of_le (by decide) (Nat.le_refl _)) (by decide) rfl rfl rfl dX11_route_13 ?_
  refine g_cvi (rest := []) h (c_fails hW (fo (rg wt (nI 0) (nI 1)) (ps μ i j)) (by repeat (first | omega | exact rg_lt | exact ns_lt | exact ps_lt | exact gst_lt | exact ofS_lt | exact if_lt (by decide) (by decide) | apply fo_lt))) lX11_fails mX11_106 (Nat.lt_of_lt_of_le (by decide) (Nat.le_refl _)) (by decide) sc_12 rfl rfl rfl rfl dX11_route_16 (fun σ_1 eσ_1 => ?_)
  obtain ⟨eσ_1_a, eσ_1_b⟩ := eσ_1
  have eσ_1_a : σ_1 14000 = (nI (fo (rg wt (nI 0) (nI 1)) (ps μ i j))) := eσ_1_a
  have eσ_1_b : ∀ a, (a ≠ 14000) → σ_1 a = σ a := eσ_1_b
  have ht14000_σ_1 : σ_1 14000 = (nI (fo (rg wt (nI 0) (nI 1)) (ps μ i j))) := eσ_1_a
  have hcFR_σ_1 : ∀ a, (a < 14900 ∧ a ≠ 14000) → σ_1 a = σ a := by intro a ha; exact Eq.trans (b := σ a) (eσ_1_b a (by first | omega | (simp only [vb] at *; omega))) (hcFR_σ a ha)
  have hvσ_1 : vw (vb 0) σ_1 = μ := by rw [vw_fr (σ := σ) (fun j _ _ => eσ_1_b _ (by first | omega | (simp only [vb] at *; omega)))]; first | exact hv | assumption
  refine g_ifB_eq h dX11_route_19 (fun c19 => ?_) (fun c19 => ?_)
  ·
    have hA := nb0 c19
    obtain ⟨hs1, hs2⟩ := fo_0 hA
    obtain ⟨ew, hw9⟩ := rg_N (by decide) hs1
    have h0 := ps_0 hs2
    obtain ⟨ei, hi9⟩ := nB_N hI h0.1
    obtain ⟨ej, hj9⟩ := nB_N hI h0.2.1
    rw [ei, ej, ew]
    have hb9 := rts_rb hI (show toN i < 8 by omega) 6 (by omega) (toN j)
    show G X w 5 24 [(0, .ref (w.1 12)), (1, .int (nI (toN i))), (2, .int (nI (toN j))), (3, .int (nI (toN wt)))] [] σ_1
    refine g_aload_n h dX11_route_24 0 rfl ?_
    refine g_getr h dX11_route_25 gX11_51 sc_12 rfl ?_
    refine g_aload_n h dX11_route_28 0 rfl ?_
    refine g_getr h dX11_route_29 gX11_23 sc_12 rfl ?_
    refine g_iload_n h dX11_route_32 1 rfl ?_
    refine g_cvv (rest := []) h (c_find hW (toN i) 0 μ (by first | omega | decide | fail) (by first | exact hvσ_1 | assumption | fail) (by assumption) (by omega)) lX8_find mX11_269 (Nat.lt_of_lt_of_le (by decide) (Nat.le_refl _)) (by decide) sc_20 rfl rfl rfl rfl dX11_route_33 (fun σ_2 eσ_2 => ?_)
    obtain ⟨eσ_2_a, eσ_2_b⟩ := eσ_2
    have eσ_2_a : CR σ_2 (toN i) (rts μ (toN i) 6) (nN μ) := eσ_2_a
    have eσ_2_b : ∀ a, ((a < 15200 + 8 * (toN i) ∨ 15208 + 8 * (toN i) ≤ a) ∧ (a < 15264 + 8 * (toN i) ∨ 15272 + 8 * (toN i) ≤ a)) → σ_2 a = σ_1 a := eσ_2_b
    have ht14000_σ_2 : σ_2 14000 = (nI (fo (rg wt (nI 0) (nI 1)) (ps μ i j))) := by rw [eσ_2_b _ (by first | omega | (simp only [vb] at *; omega))]; first | exact ht14000_σ_1 | assumption
    have hcFR_σ_2 : ∀ a, (a < 14900 ∧ a ≠ 14000) → σ_2 a = σ a := by intro a ha; exact Eq.trans (b := σ_1 a) (eσ_2_b a (by first | omega | (simp only [vb] at *; omega))) (hcFR_σ_1 a ha)
    have hcCR_σ_2 : CR σ_2 (toN i) (rts μ (toN i) 6) (nN μ) := eσ_2_a
    have hvσ_2 : vw (vb 0) σ_2 = μ := by rw [vw_fr (σ := σ_1) (fun j _ _ => eσ_2_b _ (by first | omega | (simp only [vb] at *; omega)))]; first | exact hvσ_1 | assumption
    refine g_aload_n h dX11_route_36 0 rfl ?_
    refine g_getr h dX11_route_37 gX11_51 sc_12 rfl ?_
    refine g_getr h dX11_route_40 gX11_273 sc_20 rfl ?_
    refine g_iload_n h dX11_route_43 1 rfl ?_
    refine g_iload_n h dX11_route_44 2 rfl ?_
    refine g_cspi (rest := [.ref (w.1 21)]) h (c_at hW (toN i) (toN j) ) lX5_at mX11_215 (Nat.lt_of_lt_of_le (by decide) (Nat.le_refl _)) (by decide) rfl rfl rfl dX11_route_45 ?_
    refine g_iald h dX11_route_48 sc_21 (by omega) ?_
    refine g_top (y := (nI (rs (rts μ (toN i) 6) (toN j)))) ((hcCR_σ_2 (toN j) (by omega)).1) ?_
    refine g_istore (L' := [(0, .ref (w.1 12)), (1, .int (nI (toN i))), (2, .int (nI (toN j))), (3, .int (nI (toN wt))), (4, .int (nI (rs (rts μ (toN i) 6) (toN j))))]) h dX11_route_49 rfl (by decide) rfl ?_
    refine g_aload_n h dX11_route_51 0 rfl ?_
    refine g_iload h dX11_route_52 4 rfl ?_
    refine g_ifN_ne h dX11_route_54 (by omega) (fun c54 => ?_) (fun c54 => ?_)
    ·
      refine g_iconst h dX11_route_62 (by decide) ?_
      refine g_cvi (rest := []) h (c_fails hW 0 (by repeat (first | omega | exact rg_lt | exact ns_lt | exact ps_lt | exact gst_lt | exact ofS_lt | exact if_lt (by decide) (by decide) | apply fo_lt))) lX11_fails mX11_106 (Nat.lt_of_lt_of_le (by decide) (Nat.le_refl _)) (by decide) sc_12 rfl rfl rfl rfl dX11_route_63 (fun σ_3 eσ_3 => ?_)
      obtain ⟨eσ_3_a, eσ_3_b⟩ := eσ_3
      have eσ_3_a : σ_3 14000 = (nI 0) := eσ_3_a
      have eσ_3_b : ∀ a, (a ≠ 14000) → σ_3 a = σ_2 a := eσ_3_b
      have ht14000_σ_3 : σ_3 14000 = (nI 0) := eσ_3_a
      have hcFR_σ_3 : ∀ a, (a < 14900 ∧ a ≠ 14000) → σ_3 a = σ a := by intro a ha; exact Eq.trans (b := σ_2 a) (eσ_3_b a (by first | omega | (simp only [vb] at *; omega))) (hcFR_σ_2 a ha)
      have hcCR_σ_3 : CR σ_3 (toN i) (rts μ (toN i) 6) (nN μ) := by exact CR.fr hcCR_σ_2 (fun a ha hb => eσ_3_b a (by first | omega | (simp only [vb] at *; omega)))
      have hvσ_3 : vw (vb 0) σ_3 = μ := by rw [vw_fr (σ := σ_2) (fun j _ _ => eσ_3_b _ (by first | omega | (simp only [vb] at *; omega)))]; first | exact hvσ_2 | assumption
      refine g_top (y := nI 0) rfl ?_
      refine g_ifN_eq h dX11_route_66 (by decide) (fun c66 => ?_) (fun c66 => absurd c66 (by decide))
      refine g_iload_n h dX11_route_71 3 rfl ?_
      refine g_ifN_ne h dX11_route_72 (by omega) (fun c72 => ?_) (fun c72 => ?_)
      ·
        refine g_aload_n h dX11_route_80 0 rfl ?_
        refine g_getr h dX11_route_81 gX11_51 sc_12 rfl ?_
        refine g_getr h dX11_route_84 gX11_276 sc_20 rfl ?_
        refine g_iload_n h dX11_route_87 1 rfl ?_
        refine g_iload_n h dX11_route_88 2 rfl ?_
        refine g_cspi (rest := [.ref (w.1 22)]) h (c_at hW (toN i) (toN j) ) lX5_at mX11_215 (Nat.lt_of_lt_of_le (by decide) (Nat.le_refl _)) (by decide) rfl rfl rfl dX11_route_89 ?_
        refine g_iald h dX11_route_92 sc_22 (by omega) ?_
        refine g_top (y := (nI (rx (rts μ (toN i) 6) (toN j)))) (by rw [(hcCR_σ_3 (toN j) (by omega)).2]; exact rn_rx (by omega)) ?_
        exact g_iret h hQ dX11_route_93 (congrArg (fun z => some (Value.int z)) (show (an (fo (fo (rg wt (nI 0) (nI 1)) (ps μ i j)) (if rs (rts μ (toN i) 6) (toN j) = 0 then 7 else 0)) (if toN wt = 0 then nI (rs (rts μ (toN i) 6) (toN j)) else nI (rx (rts μ (toN i) 6) (toN j)))) = (nI (rx (rts μ (toN i) 6) (toN j))) by first | exact an_yes (by first | exact (fo_r hA).trans (if_pos (by assumption)) | exact (fo_r hA).trans (if_neg (by assumption)) | exact fo_l (nb1 (by assumption)) | rfl | (simp [fo, rg, ns, nB, ps, gst, ofS, offB, c19, c54, c72]; done) | (simp [fo, rg, ns, nB, ps, gst, ofS, offB, c19, c54, c72]; omega)) (by first | (rw [if_pos (by omega)]; done) | (rw [if_neg (by omega)]; done)) | exact an_no (k := 0) (by first | exact (fo_r hA).trans (if_pos (by assumption)) | exact (fo_r hA).trans (if_neg (by assumption)) | exact fo_l (nb1 (by assumption)) | rfl | (simp [fo, rg, ns, nB, ps, gst, ofS, offB, c19, c54, c72]; done) | (simp [fo, rg, ns, nB, ps, gst, ofS, offB, c19, c54, c72]; omega)) (by first | decide | omega | assumption | exact nb1 (by assumption)) | fail)) (by exact ⟨(by first | exact tk_eq (k := 0) (by first | exact (fo_r hA).trans (if_pos (by assumption)) | exact (fo_r hA).trans (if_neg (by assumption)) | exact fo_l (nb1 (by assumption)) | rfl | (simp [fo, rg, ns, nB, ps, gst, ofS, offB, c19, c54, c72]; done) | (simp [fo, rg, ns, nB, ps, gst, ofS, offB, c19, c54, c72]; omega)) ht14000_σ_3 | exact tk_eq (k := 0) (by first | exact (fo_r hA).trans (if_pos (by assumption)) | exact (fo_r hA).trans (if_neg (by assumption)) | exact fo_l (nb1 (by assumption)) | rfl | (simp [fo, rg, ns, nB, ps, gst, ofS, offB, c19, c54, c72]; done) | (simp [fo, rg, ns, nB, ps, gst, ofS, offB, c19, c54, c72]; omega)) ht14000_σ_3 | fail), (by exact hcFR_σ_3)⟩)
      ·
        refine g_iload h dX11_route_75 4 rfl ?_
        refine g_goto h dX11_route_77 ?_
        exact g_iret h hQ dX11_route_93 (congrArg (fun z => some (Value.int z)) (show (an (fo (fo (rg wt (nI 0) (nI 1)) (ps μ i j)) (if rs (rts μ (toN i) 6) (toN j) = 0 then 7 else 0)) (if toN wt = 0 then nI (rs (rts μ (toN i) 6) (toN j)) else nI (rx (rts μ (toN i) 6) (toN j)))) = (nI (rs (rts μ (toN i) 6) (toN j))) by first | exact an_yes (by first | exact (fo_r hA).trans (if_pos (by assumption)) | exact (fo_r hA).trans (if_neg (by assumption)) | exact fo_l (nb1 (by assumption)) | rfl | (simp [fo, rg, ns, nB, ps, gst, ofS, offB, c19, c54, c72]; done) | (simp [fo, rg, ns, nB, ps, gst, ofS, offB, c19, c54, c72]; omega)) (by first | (rw [if_pos (by omega)]; done) | (rw [if_neg (by omega)]; done)) | exact an_no (k := 0) (by first | exact (fo_r hA).trans (if_pos (by assumption)) | exact (fo_r hA).trans (if_neg (by assumption)) | exact fo_l (nb1 (by assumption)) | rfl | (simp [fo, rg, ns, nB, ps, gst, ofS, offB, c19, c54, c72]; done) | (simp [fo, rg, ns, nB, ps, gst, ofS, offB, c19, c54, c72]; omega)) (by first | decide | omega | assumption | exact nb1 (by assumption)) | fail)) (by exact ⟨(by first | exact tk_eq (k := 0) (by first | exact (fo_r hA).trans (if_pos (by assumption)) | exact (fo_r hA).trans (if_neg (by assumption)) | exact fo_l (nb1 (by assumption)) | rfl | (simp [fo, rg, ns, nB, ps, gst, ofS, offB, c19, c54, c72]; done) | (simp [fo, rg, ns, nB, ps, gst, ofS, offB, c19, c54, c72]; omega)) ht14000_σ_3 | exact tk_eq (k := 0) (by first | exact (fo_r hA).trans (if_pos (by assumption)) | exact (fo_r hA).trans (if_neg (by assumption)) | exact fo_l (nb1 (by assumption)) | rfl | (simp [fo, rg, ns, nB, ps, gst, ofS, offB, c19, c54, c72]; done) | (simp [fo, rg, ns, nB, ps, gst, ofS, offB, c19, c54, c72]; omega)) ht14000_σ_3 | fail), (by exact hcFR_σ_3)⟩)
    ·
      refine g_bipush h dX11_route_57 (by decide) ?_
      refine g_goto h dX11_route_59 ?_
      refine g_cvi (rest := []) h (c_fails hW 7 (by repeat (first | omega | exact rg_lt | exact ns_lt | exact ps_lt | exact gst_lt | exact ofS_lt | exact if_lt (by decide) (by decide) | apply fo_lt))) lX11_fails mX11_106 (Nat.lt_of_lt_of_le (by decide) (Nat.le_refl _)) (by decide) sc_12 rfl rfl rfl rfl dX11_route_63 (fun σ_4 eσ_4 => ?_)
      obtain ⟨eσ_4_a, eσ_4_b⟩ := eσ_4
      have eσ_4_a : σ_4 14000 = (nI 7) := eσ_4_a
      have eσ_4_b : ∀ a, (a ≠ 14000) → σ_4 a = σ_2 a := eσ_4_b
      have ht14000_σ_4 : σ_4 14000 = (nI 7) := eσ_4_a
      have hcFR_σ_4 : ∀ a, (a < 14900 ∧ a ≠ 14000) → σ_4 a = σ a := by intro a ha; exact Eq.trans (b := σ_2 a) (eσ_4_b a (by first | omega | (simp only [vb] at *; omega))) (hcFR_σ_2 a ha)
      have hcCR_σ_4 : CR σ_4 (toN i) (rts μ (toN i) 6) (nN μ) := by exact CR.fr hcCR_σ_2 (fun a ha hb => eσ_4_b a (by first | omega | (simp only [vb] at *; omega)))
      have hvσ_4 : vw (vb 0) σ_4 = μ := by rw [vw_fr (σ := σ_2) (fun j _ _ => eσ_4_b _ (by first | omega | (simp only [vb] at *; omega)))]; first | exact hvσ_2 | assumption
      refine g_top (y := nI 1) rfl ?_
      refine g_ifN_eq h dX11_route_66 (by decide) (fun c66 => absurd c66 (by decide)) (fun c66 => ?_)
      refine g_iconstv h dX11_route_69 (v := (-1)) (by decide) ?_
      exact g_iret h hQ dX11_route_70 (congrArg (fun z => some (Value.int z)) (show (an (fo (fo (rg wt (nI 0) (nI 1)) (ps μ i j)) (if rs (rts μ (toN i) 6) (toN j) = 0 then 7 else 0)) (if toN wt = 0 then nI (rs (rts μ (toN i) 6) (toN j)) else nI (rx (rts μ (toN i) 6) (toN j)))) = (-1) by first | exact an_yes (by first | exact (fo_r hA).trans (if_pos (by assumption)) | exact (fo_r hA).trans (if_neg (by assumption)) | exact fo_l (nb1 (by assumption)) | rfl | (simp [fo, rg, ns, nB, ps, gst, ofS, offB, c19, c54]; done) | (simp [fo, rg, ns, nB, ps, gst, ofS, offB, c19, c54]; omega)) (by first | (rw [if_pos (by omega)]; done) | (rw [if_neg (by omega)]; done)) | exact an_no (k := 7) (by first | exact (fo_r hA).trans (if_pos (by assumption)) | exact (fo_r hA).trans (if_neg (by assumption)) | exact fo_l (nb1 (by assumption)) | rfl | (simp [fo, rg, ns, nB, ps, gst, ofS, offB, c19, c54]; done) | (simp [fo, rg, ns, nB, ps, gst, ofS, offB, c19, c54]; omega)) (by first | decide | omega | assumption | exact nb1 (by assumption)) | fail)) (by exact ⟨(by first | exact tk_eq (k := 7) (by first | exact (fo_r hA).trans (if_pos (by assumption)) | exact (fo_r hA).trans (if_neg (by assumption)) | exact fo_l (nb1 (by assumption)) | rfl | (simp [fo, rg, ns, nB, ps, gst, ofS, offB, c19, c54]; done) | (simp [fo, rg, ns, nB, ps, gst, ofS, offB, c19, c54]; omega)) ht14000_σ_4 | exact tk_eq (k := 7) (by first | exact (fo_r hA).trans (if_pos (by assumption)) | exact (fo_r hA).trans (if_neg (by assumption)) | exact fo_l (nb1 (by assumption)) | rfl | (simp [fo, rg, ns, nB, ps, gst, ofS, offB, c19, c54]; done) | (simp [fo, rg, ns, nB, ps, gst, ofS, offB, c19, c54]; omega)) ht14000_σ_4 | fail), (by exact hcFR_σ_4)⟩)
  ·
    refine g_iconstv h dX11_route_22 (v := (-1)) (by decide) ?_
    exact g_iret h hQ dX11_route_23 (congrArg (fun z => some (Value.int z)) (show (an (fo (fo (rg wt (nI 0) (nI 1)) (ps μ i j)) (if rs (rts μ (toN i) 6) (toN j) = 0 then 7 else 0)) (if toN wt = 0 then nI (rs (rts μ (toN i) 6) (toN j)) else nI (rx (rts μ (toN i) 6) (toN j)))) = (-1) by first | exact an_yes (by first | exact (fo_r hA).trans (if_pos (by assumption)) | exact (fo_r hA).trans (if_neg (by assumption)) | exact fo_l (nb1 (by assumption)) | rfl | (simp [fo, rg, ns, nB, ps, gst, ofS, offB, c19]; done) | (simp [fo, rg, ns, nB, ps, gst, ofS, offB, c19]; omega)) (by first | (rw [if_pos (by omega)]; done) | (rw [if_neg (by omega)]; done)) | exact an_no (k := (fo (rg wt (nI 0) (nI 1)) (ps μ i j))) (by first | exact (fo_r hA).trans (if_pos (by assumption)) | exact (fo_r hA).trans (if_neg (by assumption)) | exact fo_l (nb1 (by assumption)) | rfl | (simp [fo, rg, ns, nB, ps, gst, ofS, offB, c19]; done) | (simp [fo, rg, ns, nB, ps, gst, ofS, offB, c19]; omega)) (by first | decide | omega | assumption | exact nb1 (by assumption)) | fail)) (by exact ⟨(by first | exact tk_eq (k := (fo (rg wt (nI 0) (nI 1)) (ps μ i j))) (by first | exact (fo_r hA).trans (if_pos (by assumption)) | exact (fo_r hA).trans (if_neg (by assumption)) | exact fo_l (nb1 (by assumption)) | rfl | (simp [fo, rg, ns, nB, ps, gst, ofS, offB, c19]; done) | (simp [fo, rg, ns, nB, ps, gst, ofS, offB, c19]; omega)) ht14000_σ_1 | exact tk_eq (k := (fo (rg wt (nI 0) (nI 1)) (ps μ i j))) (by first | exact (fo_r hA).trans (if_pos (by assumption)) | exact (fo_r hA).trans (if_neg (by assumption)) | exact fo_l (nb1 (by assumption)) | rfl | (simp [fo, rg, ns, nB, ps, gst, ofS, offB, c19]; done) | (simp [fo, rg, ns, nB, ps, gst, ofS, offB, c19]; omega)) ht14000_σ_1 | fail), (by exact hcFR_σ_1)⟩)

set_option maxRecDepth 100000 in
set_option maxHeartbeats 4000000 in
theorem q_table {l : Launch} {w : Wd} (hW : Wi w) {σ : Mem} (i : Int32)  (μ : Nat → Int32) (hv : vw 0 σ = μ) (hI : MI μ) : MC l w qX12_table 6 [.ref (w.1 0), .int i] σ (some (.int (an (ns μ i) (mkS (fun j => decide (0 < rs (rts μ (toN i) 6) j)) (nN μ))))) (fun σ' => (σ' 4000 = (nI (ns μ i))) ∧ (∀ a, ((a < 4900 ∨ 6000 ≤ a) ∧ a ≠ 4000) → σ' a = σ a)) := by
  refine MC.of hW (by decide +kernel) (Nat.le_of_ble_eq_true rfl) (fun X h hQ hnm => ?_)
  have h : Fx X w cX12_table 2 RX12 6 := h
  have hQ : Qx X w (some .int) (some (.int (an (ns μ i) (mkS (fun j => decide (0 < rs (rts μ (toN i) 6) j)) (nN μ))))) (fun σ' => (σ' 4000 = (nI (ns μ i))) ∧ (∀ a, ((a < 4900 ∨ 6000 ≤ a) ∧ a ≠ 4000) → σ' a = σ a)) := hQ
  have hN8 := mi_8 hI
  have hcFR_σ : ∀ a, ((a < 4900 ∨ 6000 ≤ a) ∧ a ≠ 4000) → σ a = σ a := fun _ _ => rfl
  show G X w 2 0 [(0, .ref (w.1 0)), (1, .int i)] [] σ
  refine g_aload_n h dX12_table_0 0 rfl ?_
  refine g_iload_n h dX12_table_1 1 rfl ?_
  refine g_cvpi (rest := []) h (r_isNode hW i μ (by first | exact hv | assumption | fail)) lX12_isNode mX12_287 (Nat.lt_of_lt_of_le (by decide) (Nat.le_refl _)) (by decide) sc_0 rfl rfl rfl rfl dX12_table_2 ?_
  refine g_ifB_eq h dX12_table_5 (fun c5 => ?_) (fun c5 => ?_)
  ·
    refine g_aload_n h dX12_table_20 0 rfl ?_
    refine g_iconst h dX12_table_21 (by decide) ?_
    refine g_cvi (rest := []) h (r_refuse hW (nI 2) ) lX12_refuse mX12_272 (Nat.lt_of_lt_of_le (by decide) (Nat.le_refl _)) (by decide) sc_0 rfl rfl rfl rfl dX12_table_22 (fun σ_1 eσ_1 => ?_)
    have eσ_1_a : σ_1 = upd σ 4000 (nI 2) := eσ_1
    have ht4000_σ_1 : σ_1 4000 = (nI 2) := by rw [eσ_1_a]; exact upd_eq
    have hcFR_σ_1 : ∀ a, ((a < 4900 ∨ 6000 ≤ a) ∧ a ≠ 4000) → σ_1 a = σ a := by intro a ha; exact Eq.trans (b := σ a) (by rw [eσ_1_a, upd_ne (by first | omega | (simp only [vb] at *; omega))]) (hcFR_σ a ha)
    have hvσ_1 : vw 0 σ_1 = μ := by rw [eσ_1_a, vw_out (by omega)]; first | exact hv | assumption
    exact g_iret h hQ dX12_table_25 (congrArg (fun z => some (Value.int z)) (show (an (ns μ i) (mkS (fun j => decide (0 < rs (rts μ (toN i) 6) j)) (nN μ))) = (-1) by first | exact an_yes (by first | rfl | (simp [fo, rg, ns, nB, ps, gst, ofS, offB, c5]; done) | (simp [fo, rg, ns, nB, ps, gst, ofS, offB, c5]; omega)) (by first | rfl | (simp [an, c5]; done) | (simp [an, c5]; rfl)) | exact an_no (k := 2) (by first | rfl | (simp [fo, rg, ns, nB, ps, gst, ofS, offB, c5]; done) | (simp [fo, rg, ns, nB, ps, gst, ofS, offB, c5]; omega)) (by first | decide | omega | assumption | exact nb1 (by assumption)) | fail)) (by exact ⟨(by first | exact tk_eq (k := 2) (by first | rfl | (simp [fo, rg, ns, nB, ps, gst, ofS, offB, c5]; done) | (simp [fo, rg, ns, nB, ps, gst, ofS, offB, c5]; omega)) ht4000_σ_1 | exact tk_eq (k := 2) (by first | rfl | (simp [fo, rg, ns, nB, ps, gst, ofS, offB, c5]; done) | (simp [fo, rg, ns, nB, ps, gst, ofS, offB, c5]; omega)) ht4000_σ_1 | fail), (by exact hcFR_σ_1)⟩)
  ·
    obtain ⟨ei, hi9⟩ := nB_N hI (show nB μ i = true from c5)
    rw [ei]
    show G X w 2 8 [(0, .ref (w.1 0)), (1, .int (nI (toN i)))] [] σ
    refine g_aload_n h dX12_table_8 0 rfl ?_
    refine g_aload_n h dX12_table_9 0 rfl ?_
    refine g_iload_n h dX12_table_10 1 rfl ?_
    refine g_cvi (rest := [.ref (w.1 0)]) h (r_tableOf hW (toN i) μ (by first | exact hv | assumption | fail) (by assumption) (by omega)) lX12_tableOf mX12_309 (Nat.lt_of_lt_of_le (by decide) (Nat.le_refl _)) (by decide) sc_0 rfl rfl rfl rfl dX12_table_11 (fun σ_2 eσ_2 => ?_)
    have eσ_2_a : ∀ a, (a < 5150 ∨ 5168 ≤ a) → σ_2 a = σ a := eσ_2
    have hcFR_σ_2 : ∀ a, ((a < 4900 ∨ 6000 ≤ a) ∧ a ≠ 4000) → σ_2 a = σ a := by intro a ha; exact Eq.trans (b := σ a) (eσ_2_a a (by first | omega | (simp only [vb] at *; omega))) (hcFR_σ a ha)
    have hvσ_2 : vw 0 σ_2 = μ := by rw [vw_fr (σ := σ) (fun j _ _ => eσ_2_a _ (by first | omega | (simp only [vb] at *; omega)))]; first | exact hv | assumption
    refine g_cvi (rest := []) h (r_gives hW (mkS (fun j => decide (0 < rs (rts μ (toN i) 6) j)) (nN μ)) ) lX12_gives mX12_281 (Nat.lt_of_lt_of_le (by decide) (Nat.le_refl _)) (by decide) sc_0 rfl rfl rfl rfl dX12_table_14 (fun σ_3 eσ_3 => ?_)
    have eσ_3_a : σ_3 = upd σ_2 4000 (nI 0) := eσ_3
    have ht4000_σ_3 : σ_3 4000 = (nI 0) := by rw [eσ_3_a]; exact upd_eq
    have hcFR_σ_3 : ∀ a, ((a < 4900 ∨ 6000 ≤ a) ∧ a ≠ 4000) → σ_3 a = σ a := by intro a ha; exact Eq.trans (b := σ_2 a) (by rw [eσ_3_a, upd_ne (by first | omega | (simp only [vb] at *; omega))]) (hcFR_σ_2 a ha)
    have hvσ_3 : vw 0 σ_3 = μ := by rw [eσ_3_a, vw_out (by omega)]; first | exact hvσ_2 | assumption
    refine g_goto h dX12_table_17 ?_
    exact g_iret h hQ dX12_table_25 (congrArg (fun z => some (Value.int z)) (show (an (ns μ i) (mkS (fun j => decide (0 < rs (rts μ (toN i) 6) j)) (nN μ))) = (mkS (fun j => decide (0 < rs (rts μ (toN i) 6) j)) (nN μ)) by first | exact an_yes (by first | rfl | (simp [fo, rg, ns, nB, ps, gst, ofS, offB, c5]; done) | (simp [fo, rg, ns, nB, ps, gst, ofS, offB, c5]; omega)) (by first | rfl | (simp [an, c5]; done) | (simp [an, c5]; rfl)) | exact an_no (k := 0) (by first | rfl | (simp [fo, rg, ns, nB, ps, gst, ofS, offB, c5]; done) | (simp [fo, rg, ns, nB, ps, gst, ofS, offB, c5]; omega)) (by first | decide | omega | assumption | exact nb1 (by assumption)) | fail)) (by exact ⟨(by first | exact tk_eq (k := 0) (by first | rfl | (simp [fo, rg, ns, nB, ps, gst, ofS, offB, c5]; done) | (simp [fo, rg, ns, nB, ps, gst, ofS, offB, c5]; omega)) ht4000_σ_3 | exact tk_eq (k := 0) (by first | rfl | (simp [fo, rg, ns, nB, ps, gst, ofS, offB, c5]; done) | (simp [fo, rg, ns, nB, ps, gst, ofS, offB, c5]; omega)) ht4000_σ_3 | fail), (by exact hcFR_σ_3)⟩)

set_option maxRecDepth 100000 in
set_option maxHeartbeats 4000000 in
theorem p_table {l : Launch} {w : Wd} (hW : Wi w) {σ : Mem} (i : Int32)  (μ : Nat → Int32) (hv : vw (vb 0) σ = μ) (hI : MI μ) : MC l w qX11_table 3 [.ref (w.1 12), .int i] σ (some (.int (an (ns μ i) (mkS (fun j => decide (0 < rs (rts μ (toN i) 6) j)) (nN μ))))) (fun σ' => (σ' 14000 = (nI (ns μ i))) ∧ (∀ a, (a < 14900 ∧ a ≠ 14000) → σ' a = σ a)) := by
  refine MC.of hW (by decide +kernel) (Nat.le_of_ble_eq_true rfl) (fun X h hQ hnm => ?_)
  have h : Fx X w cX11_table 4 RX11 3 := h
  have hQ : Qx X w (some .int) (some (.int (an (ns μ i) (mkS (fun j => decide (0 < rs (rts μ (toN i) 6) j)) (nN μ))))) (fun σ' => (σ' 14000 = (nI (ns μ i))) ∧ (∀ a, (a < 14900 ∧ a ≠ 14000) → σ' a = σ a)) := hQ
  have hN8 := mi_8 hI
  have hcFR_σ : ∀ a, (a < 14900 ∧ a ≠ 14000) → σ a = σ a := fun _ _ => rfl
  show G X w 4 0 [(0, .ref (w.1 12)), (1, .int i)] [] σ
  refine g_aload_n h dX11_table_0 0 rfl ?_
  refine g_aload_n h dX11_table_1 0 rfl ?_
  refine g_iload_n h dX11_table_2 1 rfl ?_
  refine g_cvpi (rest := [.ref (w.1 12)]) h (c_ns hW i μ (by first | exact hv | assumption | fail)) lX11_nodeStatus mX11_159 (Nat.lt_of_lt_of_le (by decide) (Nat.le_refl _)) (by decide) sc_12 rfl rfl rfl rfl dX11_table_3 ?_
  refine g_cvi (rest := []) h (c_fails hW (ns μ i) (by repeat (first | omega | exact rg_lt | exact ns_lt | exact ps_lt | exact gst_lt | exact ofS_lt | exact if_lt (by decide) (by decide) | apply fo_lt))) lX11_fails mX11_106 (Nat.lt_of_lt_of_le (by decide) (Nat.le_refl _)) (by decide) sc_12 rfl rfl rfl rfl dX11_table_6 (fun σ_1 eσ_1 => ?_)
  obtain ⟨eσ_1_a, eσ_1_b⟩ := eσ_1
  have eσ_1_a : σ_1 14000 = (nI (ns μ i)) := eσ_1_a
  have eσ_1_b : ∀ a, (a ≠ 14000) → σ_1 a = σ a := eσ_1_b
  have ht14000_σ_1 : σ_1 14000 = (nI (ns μ i)) := eσ_1_a
  have hcFR_σ_1 : ∀ a, (a < 14900 ∧ a ≠ 14000) → σ_1 a = σ a := by intro a ha; exact Eq.trans (b := σ a) (eσ_1_b a (by first | omega | (simp only [vb] at *; omega))) (hcFR_σ a ha)
  have hvσ_1 : vw (vb 0) σ_1 = μ := by rw [vw_fr (σ := σ) (fun j _ _ => eσ_1_b _ (by first | omega | (simp only [vb] at *; omega)))]; first | exact hv | assumption
  refine g_ifB_eq h dX11_table_9 (fun c9 => ?_) (fun c9 => ?_)
  ·
    have hS0 := nb0 c9
    obtain ⟨ei, hi9⟩ := nB_N hI (ns_0 hS0)
    rw [ei]
    show G X w 4 14 [(0, .ref (w.1 12)), (1, .int (nI (toN i)))] [] σ_1
    refine g_aload_n h dX11_table_14 0 rfl ?_
    refine g_getr h dX11_table_15 gX11_51 sc_12 rfl ?_
    refine g_aload_n h dX11_table_18 0 rfl ?_
    refine g_getr h dX11_table_19 gX11_23 sc_12 rfl ?_
    refine g_iload_n h dX11_table_22 1 rfl ?_
    refine g_cvv (rest := []) h (c_find hW (toN i) 0 μ (by first | omega | decide | fail) (by first | exact hvσ_1 | assumption | fail) (by assumption) (by omega)) lX8_find mX11_269 (Nat.lt_of_lt_of_le (by decide) (Nat.le_refl _)) (by decide) sc_20 rfl rfl rfl rfl dX11_table_23 (fun σ_2 eσ_2 => ?_)
    obtain ⟨eσ_2_a, eσ_2_b⟩ := eσ_2
    have eσ_2_a : CR σ_2 (toN i) (rts μ (toN i) 6) (nN μ) := eσ_2_a
    have eσ_2_b : ∀ a, ((a < 15200 + 8 * (toN i) ∨ 15208 + 8 * (toN i) ≤ a) ∧ (a < 15264 + 8 * (toN i) ∨ 15272 + 8 * (toN i) ≤ a)) → σ_2 a = σ_1 a := eσ_2_b
    have ht14000_σ_2 : σ_2 14000 = (nI (ns μ i)) := by rw [eσ_2_b _ (by first | omega | (simp only [vb] at *; omega))]; first | exact ht14000_σ_1 | assumption
    have hcFR_σ_2 : ∀ a, (a < 14900 ∧ a ≠ 14000) → σ_2 a = σ a := by intro a ha; exact Eq.trans (b := σ_1 a) (eσ_2_b a (by first | omega | (simp only [vb] at *; omega))) (hcFR_σ_1 a ha)
    have hcCR_σ_2 : CR σ_2 (toN i) (rts μ (toN i) 6) (nN μ) := eσ_2_a
    have hvσ_2 : vw (vb 0) σ_2 = μ := by rw [vw_fr (σ := σ_1) (fun j _ _ => eσ_2_b _ (by first | omega | (simp only [vb] at *; omega)))]; first | exact hvσ_1 | assumption
    refine g_iconst h dX11_table_26 (by decide) ?_
    refine g_istore_n (L' := [(0, .ref (w.1 12)), (1, .int (nI (toN i))), (2, .int (nI 0))]) h dX11_table_27 rfl (by decide) rfl ?_
    refine g_iconst h dX11_table_28 (by decide) ?_
    refine g_istore_n (L' := [(0, .ref (w.1 12)), (1, .int (nI (toN i))), (2, .int (nI 0)), (3, .int (nI 0))]) h dX11_table_29 rfl (by decide) rfl ?_
    have lp30 : ∀ (k9 : Nat) (s : Int32) (k : Nat), (s = mkS (fun j => decide (0 < rs (rts μ (toN i) 6) j)) k) → (k ≤ nN μ) → nN μ - k < k9 → G X w 4 30 [(0, .ref (w.1 12)), (1, .int (nI (toN i))), (2, .int s), (3, .int (nI k))] [] σ_2 := by
      intro k9
      induction k9 with
      | zero => intro s k hs hk hm9; exact absurd hm9 (Nat.not_lt_zero _)
      | succ k9 ih30 =>
        intro s k hs hk hm30
        have hb9 := rts_rb hI (show toN i < 8 by omega) 6 (by omega) k
        refine g_iload_n h dX11_table_30 3 rfl ?_
        refine g_aload_n h dX11_table_31 0 rfl ?_
        refine g_getr h dX11_table_32 gX11_23 sc_12 rfl ?_
        refine g_geti h dX11_table_35 gX11_120 (sM_0 (m := 0) (by decide)) rfl ?_
        refine g_top (y := μ 0) (vw_pic (b := (vb 0)) (k := 0) (by first | exact hvσ_2 | assumption) (by omega)) ?_
        refine g_top (y := nI (nN μ)) (mi_0 (by assumption)) ?_
        refine g_icmpN_ge h dX11_table_38 (by omega) (by omega) (fun c38 => ?_) (fun c38 => ?_)
        ·
          refine g_iload_n h dX11_table_74 2 rfl ?_
          exact g_iret h hQ dX11_table_75 (congrArg (fun z => some (Value.int z)) (show (an (ns μ i) (mkS (fun j => decide (0 < rs (rts μ (toN i) 6) j)) (nN μ))) = s by first | exact an_yes (by exact hS0) (by rw [hs, show k = nN μ from by omega]) | exact an_no (k := (ns μ i)) (by first | rfl | (simp [fo, rg, ns, nB, ps, gst, ofS, offB, c9, c38]; done) | (simp [fo, rg, ns, nB, ps, gst, ofS, offB, c9, c38]; omega)) (by first | decide | omega | assumption | exact nb1 (by assumption)) | fail)) (by exact ⟨(by first | exact tk_eq (k := (ns μ i)) (by first | rfl | (simp [fo, rg, ns, nB, ps, gst, ofS, offB, c9, c38]; done) | (simp [fo, rg, ns, nB, ps, gst, ofS, offB, c9, c38]; omega)) ht14000_σ_2 | exact tk_eq (k := (ns μ i)) (by exact hS0) ht14000_σ_2 | fail), (by exact hcFR_σ_2)⟩)
        ·
          refine g_iload_n h dX11_table_41 2 rfl ?_
          refine g_iload_n h dX11_table_42 3 rfl ?_
          refine g_aload_n h dX11_table_43 0 rfl ?_
          refine g_getr h dX11_table_44 gX11_51 sc_12 rfl ?_
          refine g_getr h dX11_table_47 gX11_273 sc_20 rfl ?_
          refine g_iload_n h dX11_table_50 1 rfl ?_
          refine g_iload_n h dX11_table_51 3 rfl ?_
          refine g_cspi (rest := [.ref (w.1 21), .int (nI k), .int s]) h (c_at hW (toN i) k ) lX5_at mX11_215 (Nat.lt_of_lt_of_le (by decide) (Nat.le_refl _)) (by decide) rfl rfl rfl dX11_table_52 ?_
          refine g_iald h dX11_table_55 sc_21 (by omega) ?_
          refine g_top (y := (nI (rs (rts μ (toN i) 6) k))) ((hcCR_σ_2 k (by omega)).1) ?_
          refine g_ifN_le h dX11_table_56 (by omega) (fun c56 => ?_) (fun c56 => ?_)
          ·
            refine g_iconst h dX11_table_63 (by decide) ?_
            refine g_cspi (rest := []) h (c_with hW s k false ) lX5_with mX11_279 (Nat.lt_of_lt_of_le (by decide) (Nat.le_refl _)) (by decide) rfl rfl rfl dX11_table_64 ?_
            refine g_istore_n (L' := [(0, .ref (w.1 12)), (1, .int (nI (toN i))), (2, .int (wth s k false)), (3, .int (nI k))]) h dX11_table_67 rfl (by decide) rfl ?_
            refine g_iincN (b := 1) (L' := [(0, .ref (w.1 12)), (1, .int (nI (toN i))), (2, .int (wth s k false)), (3, .int (nI (k + 1)))]) h dX11_table_68 3 rfl rfl (by decide) (by decide) rfl ?_
            refine g_goto h dX11_table_71 ?_
            exact ih30 (wth s k false) (k + 1) (by rw [hs]; exact mkS_w (by omega) (by simp [c9, c38, c56]; try omega)) (by omega) (by omega)
          ·
            refine g_iconst h dX11_table_59 (by decide) ?_
            refine g_goto h dX11_table_60 ?_
            refine g_cspi (rest := []) h (c_with hW s k true ) lX5_with mX11_279 (Nat.lt_of_lt_of_le (by decide) (Nat.le_refl _)) (by decide) rfl rfl rfl dX11_table_64 ?_
            refine g_istore_n (L' := [(0, .ref (w.1 12)), (1, .int (nI (toN i))), (2, .int (wth s k true)), (3, .int (nI k))]) h dX11_table_67 rfl (by decide) rfl ?_
            refine g_iincN (b := 1) (L' := [(0, .ref (w.1 12)), (1, .int (nI (toN i))), (2, .int (wth s k true)), (3, .int (nI (k + 1)))]) h dX11_table_68 3 rfl rfl (by decide) (by decide) rfl ?_
            refine g_goto h dX11_table_71 ?_
            exact ih30 (wth s k true) (k + 1) (by rw [hs]; exact mkS_w (by omega) (by simp [c9, c38, c56]; try omega)) (by omega) (by omega)
    exact lp30 (_) (nI 0) 0 (by rfl) (by omega) (Nat.lt_succ_self _)
  ·
    refine g_iconstv h dX11_table_12 (v := (-1)) (by decide) ?_
    exact g_iret h hQ dX11_table_13 (congrArg (fun z => some (Value.int z)) (show (an (ns μ i) (mkS (fun j => decide (0 < rs (rts μ (toN i) 6) j)) (nN μ))) = (-1) by first | exact an_yes (by exact hS0) (by rw [hs, show k = nN μ from by omega]) | exact an_no (k := (ns μ i)) (by first | rfl | (simp [fo, rg, ns, nB, ps, gst, ofS, offB, c9]; done) | (simp [fo, rg, ns, nB, ps, gst, ofS, offB, c9]; omega)) (by first | decide | omega | assumption | exact nb1 (by assumption)) | fail)) (by exact ⟨(by first | exact tk_eq (k := (ns μ i)) (by first | rfl | (simp [fo, rg, ns, nB, ps, gst, ofS, offB, c9]; done) | (simp [fo, rg, ns, nB, ps, gst, ofS, offB, c9]; omega)) ht14000_σ_1 | exact tk_eq (k := (ns μ i)) (by exact hS0) ht14000_σ_1 | fail), (by exact hcFR_σ_1)⟩)

set_option maxRecDepth 100000 in
set_option maxHeartbeats 4000000 in
theorem q_goes {l : Launch} {w : Wd} (hW : Wi w) {σ : Mem} (i : Int32) (j : Int32) (wt : Int32)  (μ : Nat → Int32) (hv : vw 0 σ = μ) (hI : MI μ) : MC l w qX12_goes 6 [.ref (w.1 0), .int i, .int j, .int wt] σ (some (.int (an (fo (rg wt (nI 0) (nI 2)) (gst μ i j)) (v_goes μ (toN i) (toN j) (toN wt))))) (fun σ' => (σ' 4000 = (nI (fo (rg wt (nI 0) (nI 2)) (gst μ i j)))) ∧ (∀ a, ((a < 4900 ∨ 6000 ≤ a) ∧ a ≠ 4000) → σ' a = σ a)) := by
  refine MC.of hW (by decide +kernel) (Nat.le_of_ble_eq_true rfl) (fun X h hQ hnm => ?_)
  have h : Fx X w cX12_goes 6 RX12 6 := h
  have hQ : Qx X w (some .int) (some (.int (an (fo (rg wt (nI 0) (nI 2)) (gst μ i j)) (v_goes μ (toN i) (toN j) (toN wt))))) (fun σ' => (σ' 4000 = (nI (fo (rg wt (nI 0) (nI 2)) (gst μ i j)))) ∧ (∀ a, ((a < 4900 ∨ 6000 ≤ a) ∧ a ≠ 4000) → σ' a = σ a)) := hQ
  have hN8 := mi_8 hI
  have hgs := gst_lt (μ := μ) (a := i) (b := j)
  have hcFR_σ : ∀ a, ((a < 4900 ∨ 6000 ≤ a) ∧ a ≠ 4000) → σ a = σ a := fun _ _ => rfl
  show G X w 6 0 [(0, .ref (w.1 0)), (1, .int i), (2, .int j), (3, .int wt)] [] σ
  refine g_iload_n h dX12_goes_0 3 rfl ?_
  refine g_iconst h dX12_goes_1 (by decide) ?_
  refine g_iconst h dX12_goes_2 (by decide) ?_
  refine g_cspi (rest := []) h (r_isFrom hW wt (nI 0) (nI 2) ) lX12_isFrom mX12_134 (Nat.lt_of_lt_of_le (by decide) (Nat.le_refl _)) (by decide) rfl rfl rfl dX12_goes_3 ?_
  refine g_ifB_ne h dX12_goes_6 (fun c6 => ?_) (fun c6 => ?_)
  ·
    refine g_aload_n h dX12_goes_13 0 rfl ?_
    refine g_iload_n h dX12_goes_14 1 rfl ?_
    refine g_iload_n h dX12_goes_15 2 rfl ?_
    refine g_cvpi (rest := []) h (r_gst hW i j μ (by first | exact hv | assumption | fail) (by assumption)) lX12_wrongGoing mX12_315 (Nat.lt_of_lt_of_le (by decide) (Nat.le_refl _)) (by decide) sc_0 rfl rfl rfl rfl dX12_goes_16 ?_
    refine g_istore (L' := [(0, .ref (w.1 0)), (1, .int i), (2, .int j), (3, .int wt), (4, .int (nI (gst μ i j)))]) h dX12_goes_19 rfl (by decide) rfl ?_
    refine g_iload h dX12_goes_21 4 rfl ?_
    refine g_ifN_le h dX12_goes_23 (by omega) (fun c23 => ?_) (fun c23 => ?_)
    ·
      obtain ⟨ew, hw9⟩ := fr_N (by decide) c6
      have hp0 : gst μ i j = 0 := by omega
      have h0 := gst_0 hp0
      obtain ⟨ei, hi9⟩ := nB_N hI h0.1
      obtain ⟨ej, hj9⟩ := nB_N hI h0.2.1
      have hne := eN_ne ei ej h0.2.2.1
      have hg1 := gnw_1 (μ := μ) (fr := toN i) (to := toN j)
      have hg9 := gnw_le (μ := μ) (fr := toN i) (to := toN j)
      have hgh := gnw_how (μ := μ) (fr := toN i) (to := toN j)
      rw [hp0]
      rw [ei, ej, ew]
      show G X w 6 33 [(0, .ref (w.1 0)), (1, .int (nI (toN i))), (2, .int (nI (toN j))), (3, .int (nI (toN wt))), (4, .int (nI 0))] [] σ
      refine g_aload_n h dX12_goes_33 0 rfl ?_
      refine g_iload_n h dX12_goes_34 1 rfl ?_
      refine g_iload_n h dX12_goes_35 2 rfl ?_
      refine g_cvi (rest := []) h (r_going hW (toN i) (toN j) μ (by first | exact hv | assumption | fail) (by assumption) (by omega) (by omega) (by omega)) lX12_going mX12_318 (Nat.lt_of_lt_of_le (by decide) (Nat.le_refl _)) (by decide) sc_0 rfl rfl rfl rfl dX12_goes_36 (fun σ_1 eσ_1 => ?_)
      obtain ⟨eσ_1_a, eσ_1_b, eσ_1_c⟩ := eσ_1
      have eσ_1_a : σ_1 5011 = (nI ((gnw μ (toN i) (toN j)).2.1)) := eσ_1_a
      have eσ_1_b : GN 5170 σ_1 (gnw μ (toN i) (toN j)).2.1 (gnw μ (toN i) (toN j)).2.2.1 := eσ_1_b
      have eσ_1_c : ∀ a, ((a < 5150 ∨ 5180 ≤ a) ∧ a ≠ 5011) → σ_1 a = σ a := eσ_1_c
      have ht5011_σ_1 : σ_1 5011 = (nI ((gnw μ (toN i) (toN j)).2.1)) := eσ_1_a
      have hcFR_σ_1 : ∀ a, ((a < 4900 ∨ 6000 ≤ a) ∧ a ≠ 4000) → σ_1 a = σ a := by intro a ha; exact Eq.trans (b := σ a) (eσ_1_c a (by first | omega | (simp only [vb] at *; omega))) (hcFR_σ a ha)
      have hcGN_σ_1 : GN 5170 σ_1 (gnw μ (toN i) (toN j)).2.1 (gnw μ (toN i) (toN j)).2.2.1 := eσ_1_b
      have hvσ_1 : vw 0 σ_1 = μ := by rw [vw_fr (σ := σ) (fun j _ _ => eσ_1_c _ (by first | omega | (simp only [vb] at *; omega)))]; first | exact hv | assumption
      refine g_istore (L' := [(0, .ref (w.1 0)), (1, .int (nI (toN i))), (2, .int (nI (toN j))), (3, .int (nI (toN wt))), (4, .int (nI 0)), (5, .int (nI ((gnw μ (toN i) (toN j)).1)))]) h dX12_goes_39 rfl (by decide) rfl ?_
      refine g_aload_n h dX12_goes_41 0 rfl ?_
      refine g_iload_n h dX12_goes_42 3 rfl ?_
      refine g_ifN_ne h dX12_goes_43 (by omega) (fun c43 => ?_) (fun c43 => ?_)
      ·
        refine g_iload_n h dX12_goes_51 3 rfl ?_
        refine g_iconst h dX12_goes_52 (by decide) ?_
        refine g_icmpN_ne h dX12_goes_53 (by omega) (by omega) (fun c53 => ?_) (fun c53 => ?_)
        ·
          refine g_aload_n h dX12_goes_65 0 rfl ?_
          refine g_getr h dX12_goes_66 gX12_48 sc_0 rfl ?_
          refine g_aload_n h dX12_goes_69 0 rfl ?_
          refine g_geti h dX12_goes_70 gX12_312 sc_0 rfl ?_
          refine g_top (y := (nI ((gnw μ (toN i) (toN j)).2.1))) (by first | exact ht5011_σ_1 | assumption) ?_
          refine g_iconst h dX12_goes_73 (by decide) ?_
          refine g_isubN h dX12_goes_74 (by omega) ?_
          refine g_iald h dX12_goes_75 sc_11 (by omega) ?_
          refine g_top (y := (nI ((gnw μ (toN i) (toN j)).2.2.1 ((gnw μ (toN i) (toN j)).2.1 - 1)))) (hcGN_σ_1 ((gnw μ (toN i) (toN j)).2.1 - 1) (by omega)) ?_
          refine g_cvi (rest := []) h (r_gives hW (nI ((gnw μ (toN i) (toN j)).2.2.1 ((gnw μ (toN i) (toN j)).2.1 - 1))) ) lX12_gives mX12_281 (Nat.lt_of_lt_of_le (by decide) (Nat.le_refl _)) (by decide) sc_0 rfl rfl rfl rfl dX12_goes_76 (fun σ_2 eσ_2 => ?_)
          have eσ_2_a : σ_2 = upd σ_1 4000 (nI 0) := eσ_2
          have ht5011_σ_2 : σ_2 5011 = (nI ((gnw μ (toN i) (toN j)).2.1)) := by rw [eσ_2_a, upd_ne (by first | omega | (simp only [vb] at *; omega))]; first | exact ht5011_σ_1 | assumption
          have ht4000_σ_2 : σ_2 4000 = (nI 0) := by rw [eσ_2_a]; exact upd_eq
          have hcFR_σ_2 : ∀ a, ((a < 4900 ∨ 6000 ≤ a) ∧ a ≠ 4000) → σ_2 a = σ a := by intro a ha; exact Eq.trans (b := σ_1 a) (by rw [eσ_2_a, upd_ne (by first | omega | (simp only [vb] at *; omega))]) (hcFR_σ_1 a ha)
          have hcGN_σ_2 : GN 5170 σ_2 (gnw μ (toN i) (toN j)).2.1 (gnw μ (toN i) (toN j)).2.2.1 := by rw [eσ_2_a]; exact GN.fr hcGN_σ_1 (fun a ha hb => upd_ne (by omega))
          have hvσ_2 : vw 0 σ_2 = μ := by rw [eσ_2_a, vw_out (by omega)]; first | exact hvσ_1 | assumption
          exact g_iret h hQ dX12_goes_79 (congrArg (fun z => some (Value.int z)) (show (an (fo (rg wt (nI 0) (nI 2)) (gst μ i j)) (v_goes μ (toN i) (toN j) (toN wt))) = (nI ((gnw μ (toN i) (toN j)).2.2.1 ((gnw μ (toN i) (toN j)).2.1 - 1))) by first | exact an_yes (by first | (simp [fo, rg, c6, hp0]; done) | (first | rfl | (simp [fo, rg, ns, nB, ps, gst, ofS, offB, c6, c23, c43, c53]; done) | (simp [fo, rg, ns, nB, ps, gst, ofS, offB, c6, c23, c43, c53]; omega))) (by first | (unfold v_goes; rw [if_pos (by omega)]; done) | (unfold v_goes; rw [if_neg (by omega), if_pos (by omega)]; done) | (unfold v_goes; rw [if_neg (by omega), if_neg (by omega)]; done)) | exact an_no (k := 0) (by first | rfl | (simp [fo, rg, ns, nB, ps, gst, ofS, offB, c6, c23, c43, c53]; done) | (simp [fo, rg, ns, nB, ps, gst, ofS, offB, c6, c23, c43, c53]; omega)) (by first | decide | omega | assumption | exact nb1 (by assumption)) | fail)) (by exact ⟨(by first | exact tk_eq (k := 0) (by first | rfl | (simp [fo, rg, ns, nB, ps, gst, ofS, offB, c6, c23, c43, c53]; done) | (simp [fo, rg, ns, nB, ps, gst, ofS, offB, c6, c23, c43, c53]; omega)) ht4000_σ_2 | exact tk_eq (k := 0) (by first | (simp [fo, rg, c6, hp0]; done) | (first | rfl | (simp [fo, rg, ns, nB, ps, gst, ofS, offB, c6, c23, c43, c53]; done) | (simp [fo, rg, ns, nB, ps, gst, ofS, offB, c6, c23, c43, c53]; omega))) ht4000_σ_2 | fail), (by exact hcFR_σ_2)⟩)
        ·
          refine g_aload_n h dX12_goes_56 0 rfl ?_
          refine g_geti h dX12_goes_57 gX12_312 sc_0 rfl ?_
          refine g_top (y := (nI ((gnw μ (toN i) (toN j)).2.1))) (by first | exact ht5011_σ_1 | assumption) ?_
          refine g_iconst h dX12_goes_60 (by decide) ?_
          refine g_isubN h dX12_goes_61 (by omega) ?_
          refine g_goto h dX12_goes_62 ?_
          refine g_cvi (rest := []) h (r_gives hW (nI (((gnw μ (toN i) (toN j)).2.1) - 1)) ) lX12_gives mX12_281 (Nat.lt_of_lt_of_le (by decide) (Nat.le_refl _)) (by decide) sc_0 rfl rfl rfl rfl dX12_goes_76 (fun σ_3 eσ_3 => ?_)
          have eσ_3_a : σ_3 = upd σ_1 4000 (nI 0) := eσ_3
          have ht5011_σ_3 : σ_3 5011 = (nI ((gnw μ (toN i) (toN j)).2.1)) := by rw [eσ_3_a, upd_ne (by first | omega | (simp only [vb] at *; omega))]; first | exact ht5011_σ_1 | assumption
          have ht4000_σ_3 : σ_3 4000 = (nI 0) := by rw [eσ_3_a]; exact upd_eq
          have hcFR_σ_3 : ∀ a, ((a < 4900 ∨ 6000 ≤ a) ∧ a ≠ 4000) → σ_3 a = σ a := by intro a ha; exact Eq.trans (b := σ_1 a) (by rw [eσ_3_a, upd_ne (by first | omega | (simp only [vb] at *; omega))]) (hcFR_σ_1 a ha)
          have hcGN_σ_3 : GN 5170 σ_3 (gnw μ (toN i) (toN j)).2.1 (gnw μ (toN i) (toN j)).2.2.1 := by rw [eσ_3_a]; exact GN.fr hcGN_σ_1 (fun a ha hb => upd_ne (by omega))
          have hvσ_3 : vw 0 σ_3 = μ := by rw [eσ_3_a, vw_out (by omega)]; first | exact hvσ_1 | assumption
          exact g_iret h hQ dX12_goes_79 (congrArg (fun z => some (Value.int z)) (show (an (fo (rg wt (nI 0) (nI 2)) (gst μ i j)) (v_goes μ (toN i) (toN j) (toN wt))) = (nI (((gnw μ (toN i) (toN j)).2.1) - 1)) by first | exact an_yes (by first | (simp [fo, rg, c6, hp0]; done) | (first | rfl | (simp [fo, rg, ns, nB, ps, gst, ofS, offB, c6, c23, c43, c53]; done) | (simp [fo, rg, ns, nB, ps, gst, ofS, offB, c6, c23, c43, c53]; omega))) (by first | (unfold v_goes; rw [if_pos (by omega)]; done) | (unfold v_goes; rw [if_neg (by omega), if_pos (by omega)]; done) | (unfold v_goes; rw [if_neg (by omega), if_neg (by omega)]; done)) | exact an_no (k := 0) (by first | rfl | (simp [fo, rg, ns, nB, ps, gst, ofS, offB, c6, c23, c43, c53]; done) | (simp [fo, rg, ns, nB, ps, gst, ofS, offB, c6, c23, c43, c53]; omega)) (by first | decide | omega | assumption | exact nb1 (by assumption)) | fail)) (by exact ⟨(by first | exact tk_eq (k := 0) (by first | rfl | (simp [fo, rg, ns, nB, ps, gst, ofS, offB, c6, c23, c43, c53]; done) | (simp [fo, rg, ns, nB, ps, gst, ofS, offB, c6, c23, c43, c53]; omega)) ht4000_σ_3 | exact tk_eq (k := 0) (by first | (simp [fo, rg, c6, hp0]; done) | (first | rfl | (simp [fo, rg, ns, nB, ps, gst, ofS, offB, c6, c23, c43, c53]; done) | (simp [fo, rg, ns, nB, ps, gst, ofS, offB, c6, c23, c43, c53]; omega))) ht4000_σ_3 | fail), (by exact hcFR_σ_3)⟩)
      ·
        refine g_iload h dX12_goes_46 5 rfl ?_
        refine g_goto h dX12_goes_48 ?_
        refine g_cvi (rest := []) h (r_gives hW (nI ((gnw μ (toN i) (toN j)).1)) ) lX12_gives mX12_281 (Nat.lt_of_lt_of_le (by decide) (Nat.le_refl _)) (by decide) sc_0 rfl rfl rfl rfl dX12_goes_76 (fun σ_4 eσ_4 => ?_)
        have eσ_4_a : σ_4 = upd σ_1 4000 (nI 0) := eσ_4
        have ht5011_σ_4 : σ_4 5011 = (nI ((gnw μ (toN i) (toN j)).2.1)) := by rw [eσ_4_a, upd_ne (by first | omega | (simp only [vb] at *; omega))]; first | exact ht5011_σ_1 | assumption
        have ht4000_σ_4 : σ_4 4000 = (nI 0) := by rw [eσ_4_a]; exact upd_eq
        have hcFR_σ_4 : ∀ a, ((a < 4900 ∨ 6000 ≤ a) ∧ a ≠ 4000) → σ_4 a = σ a := by intro a ha; exact Eq.trans (b := σ_1 a) (by rw [eσ_4_a, upd_ne (by first | omega | (simp only [vb] at *; omega))]) (hcFR_σ_1 a ha)
        have hcGN_σ_4 : GN 5170 σ_4 (gnw μ (toN i) (toN j)).2.1 (gnw μ (toN i) (toN j)).2.2.1 := by rw [eσ_4_a]; exact GN.fr hcGN_σ_1 (fun a ha hb => upd_ne (by omega))
        have hvσ_4 : vw 0 σ_4 = μ := by rw [eσ_4_a, vw_out (by omega)]; first | exact hvσ_1 | assumption
        exact g_iret h hQ dX12_goes_79 (congrArg (fun z => some (Value.int z)) (show (an (fo (rg wt (nI 0) (nI 2)) (gst μ i j)) (v_goes μ (toN i) (toN j) (toN wt))) = (nI ((gnw μ (toN i) (toN j)).1)) by first | exact an_yes (by first | (simp [fo, rg, c6, hp0]; done) | (first | rfl | (simp [fo, rg, ns, nB, ps, gst, ofS, offB, c6, c23, c43]; done) | (simp [fo, rg, ns, nB, ps, gst, ofS, offB, c6, c23, c43]; omega))) (by first | (unfold v_goes; rw [if_pos (by omega)]; done) | (unfold v_goes; rw [if_neg (by omega), if_pos (by omega)]; done) | (unfold v_goes; rw [if_neg (by omega), if_neg (by omega)]; done)) | exact an_no (k := 0) (by first | rfl | (simp [fo, rg, ns, nB, ps, gst, ofS, offB, c6, c23, c43]; done) | (simp [fo, rg, ns, nB, ps, gst, ofS, offB, c6, c23, c43]; omega)) (by first | decide | omega | assumption | exact nb1 (by assumption)) | fail)) (by exact ⟨(by first | exact tk_eq (k := 0) (by first | rfl | (simp [fo, rg, ns, nB, ps, gst, ofS, offB, c6, c23, c43]; done) | (simp [fo, rg, ns, nB, ps, gst, ofS, offB, c6, c23, c43]; omega)) ht4000_σ_4 | exact tk_eq (k := 0) (by first | (simp [fo, rg, c6, hp0]; done) | (first | rfl | (simp [fo, rg, ns, nB, ps, gst, ofS, offB, c6, c23, c43]; done) | (simp [fo, rg, ns, nB, ps, gst, ofS, offB, c6, c23, c43]; omega))) ht4000_σ_4 | fail), (by exact hcFR_σ_4)⟩)
    ·
      refine g_aload_n h dX12_goes_26 0 rfl ?_
      refine g_iload h dX12_goes_27 4 rfl ?_
      refine g_cvi (rest := []) h (r_refuse hW (nI (gst μ i j)) ) lX12_refuse mX12_272 (Nat.lt_of_lt_of_le (by decide) (Nat.le_refl _)) (by decide) sc_0 rfl rfl rfl rfl dX12_goes_29 (fun σ_5 eσ_5 => ?_)
      have eσ_5_a : σ_5 = upd σ 4000 (nI (gst μ i j)) := eσ_5
      have ht4000_σ_5 : σ_5 4000 = (nI (gst μ i j)) := by rw [eσ_5_a]; exact upd_eq
      have hcFR_σ_5 : ∀ a, ((a < 4900 ∨ 6000 ≤ a) ∧ a ≠ 4000) → σ_5 a = σ a := by intro a ha; exact Eq.trans (b := σ a) (by rw [eσ_5_a, upd_ne (by first | omega | (simp only [vb] at *; omega))]) (hcFR_σ a ha)
      have hvσ_5 : vw 0 σ_5 = μ := by rw [eσ_5_a, vw_out (by omega)]; first | exact hv | assumption
      exact g_iret h hQ dX12_goes_32 (congrArg (fun z => some (Value.int z)) (show (an (fo (rg wt (nI 0) (nI 2)) (gst μ i j)) (v_goes μ (toN i) (toN j) (toN wt))) = (-1) by first | exact an_yes (by first | (simp [fo, rg, c6, hp0]; done) | (first | rfl | (simp [fo, rg, ns, nB, ps, gst, ofS, offB, c6, c23]; done) | (simp [fo, rg, ns, nB, ps, gst, ofS, offB, c6, c23]; omega))) (by first | (unfold v_goes; rw [if_pos (by omega)]; done) | (unfold v_goes; rw [if_neg (by omega), if_pos (by omega)]; done) | (unfold v_goes; rw [if_neg (by omega), if_neg (by omega)]; done)) | exact an_no (k := (gst μ i j)) (by first | rfl | (simp [fo, rg, ns, nB, ps, gst, ofS, offB, c6, c23]; done) | (simp [fo, rg, ns, nB, ps, gst, ofS, offB, c6, c23]; omega)) (by first | decide | omega | assumption | exact nb1 (by assumption)) | fail)) (by exact ⟨(by first | exact tk_eq (k := (gst μ i j)) (by first | rfl | (simp [fo, rg, ns, nB, ps, gst, ofS, offB, c6, c23]; done) | (simp [fo, rg, ns, nB, ps, gst, ofS, offB, c6, c23]; omega)) ht4000_σ_5 | exact tk_eq (k := (gst μ i j)) (by first | (simp [fo, rg, c6, hp0]; done) | (first | rfl | (simp [fo, rg, ns, nB, ps, gst, ofS, offB, c6, c23]; done) | (simp [fo, rg, ns, nB, ps, gst, ofS, offB, c6, c23]; omega))) ht4000_σ_5 | fail), (by exact hcFR_σ_5)⟩)
  ·
    refine g_iconst h dX12_goes_9 (by decide) ?_
    refine g_goto h dX12_goes_10 ?_
    refine g_istore (L' := [(0, .ref (w.1 0)), (1, .int i), (2, .int j), (3, .int wt), (4, .int (nI 1))]) h dX12_goes_19 rfl (by decide) rfl ?_
    refine g_iload h dX12_goes_21 4 rfl ?_
    refine g_ifN_le h dX12_goes_23 (by decide) (fun c23 => absurd c23 (by decide)) (fun c23 => ?_)
    refine g_aload_n h dX12_goes_26 0 rfl ?_
    refine g_iload h dX12_goes_27 4 rfl ?_
    refine g_cvi (rest := []) h (r_refuse hW (nI 1) ) lX12_refuse mX12_272 (Nat.lt_of_lt_of_le (by decide) (Nat.le_refl _)) (by decide) sc_0 rfl rfl rfl rfl dX12_goes_29 (fun σ_6 eσ_6 => ?_)
    have eσ_6_a : σ_6 = upd σ 4000 (nI 1) := eσ_6
    have ht4000_σ_6 : σ_6 4000 = (nI 1) := by rw [eσ_6_a]; exact upd_eq
    have hcFR_σ_6 : ∀ a, ((a < 4900 ∨ 6000 ≤ a) ∧ a ≠ 4000) → σ_6 a = σ a := by intro a ha; exact Eq.trans (b := σ a) (by rw [eσ_6_a, upd_ne (by first | omega | (simp only [vb] at *; omega))]) (hcFR_σ a ha)
    have hvσ_6 : vw 0 σ_6 = μ := by rw [eσ_6_a, vw_out (by omega)]; first | exact hv | assumption
    exact g_iret h hQ dX12_goes_32 (congrArg (fun z => some (Value.int z)) (show (an (fo (rg wt (nI 0) (nI 2)) (gst μ i j)) (v_goes μ (toN i) (toN j) (toN wt))) = (-1) by first | exact an_yes (by first | (simp [fo, rg, c6, hp0]; done) | (first | rfl | (simp [fo, rg, ns, nB, ps, gst, ofS, offB, c6]; done) | (simp [fo, rg, ns, nB, ps, gst, ofS, offB, c6]; omega))) (by first | (unfold v_goes; rw [if_pos (by omega)]; done) | (unfold v_goes; rw [if_neg (by omega), if_pos (by omega)]; done) | (unfold v_goes; rw [if_neg (by omega), if_neg (by omega)]; done)) | exact an_no (k := 1) (by first | rfl | (simp [fo, rg, ns, nB, ps, gst, ofS, offB, c6]; done) | (simp [fo, rg, ns, nB, ps, gst, ofS, offB, c6]; omega)) (by first | decide | omega | assumption | exact nb1 (by assumption)) | fail)) (by exact ⟨(by first | exact tk_eq (k := 1) (by first | rfl | (simp [fo, rg, ns, nB, ps, gst, ofS, offB, c6]; done) | (simp [fo, rg, ns, nB, ps, gst, ofS, offB, c6]; omega)) ht4000_σ_6 | exact tk_eq (k := 1) (by first | (simp [fo, rg, c6, hp0]; done) | (first | rfl | (simp [fo, rg, ns, nB, ps, gst, ofS, offB, c6]; done) | (simp [fo, rg, ns, nB, ps, gst, ofS, offB, c6]; omega))) ht4000_σ_6 | fail), (by exact hcFR_σ_6)⟩)

set_option maxRecDepth 100000 in
set_option maxHeartbeats 4000000 in
theorem p_goes {l : Launch} {w : Wd} (hW : Wi w) {σ : Mem} (i : Int32) (j : Int32) (wt : Int32)  (μ : Nat → Int32) (hv : vw (vb 0) σ = μ) (hI : MI μ) : MC l w qX11_goes 4 [.ref (w.1 12), .int i, .int j, .int wt] σ (some (.int (an (fo (rg wt (nI 0) (nI 2)) (gst μ i j)) (v_goes μ (toN i) (toN j) (toN wt))))) (fun σ' => (σ' 14000 = (nI (fo (rg wt (nI 0) (nI 2)) (gst μ i j)))) ∧ (∀ a, (a < 14900 ∧ a ≠ 14000) → σ' a = σ a)) := by
  refine MC.of hW (by decide +kernel) (Nat.le_of_ble_eq_true rfl) (fun X h hQ hnm => ?_)
  have h : Fx X w cX11_goes 4 RX11 4 := h
  have hQ : Qx X w (some .int) (some (.int (an (fo (rg wt (nI 0) (nI 2)) (gst μ i j)) (v_goes μ (toN i) (toN j) (toN wt))))) (fun σ' => (σ' 14000 = (nI (fo (rg wt (nI 0) (nI 2)) (gst μ i j)))) ∧ (∀ a, (a < 14900 ∧ a ≠ 14000) → σ' a = σ a)) := hQ
  have hN8 := mi_8 hI
  have hcFR_σ : ∀ a, (a < 14900 ∧ a ≠ 14000) → σ a = σ a := fun _ _ => rfl
  show G X w 4 0 [(0, .ref (w.1 12)), (1, .int i), (2, .int j), (3, .int wt)] [] σ
  refine g_aload_n h dX11_goes_0 0 rfl ?_
  refine g_iload_n h dX11_goes_1 3 rfl ?_
  refine g_iconst h dX11_goes_2 (by decide) ?_
  refine g_iconst h dX11_goes_3 (by decide) ?_
  refine g_cspi (rest := [.ref (w.1 12)]) h (c_rg hW wt (nI 0) (nI 2) ) lX11_rangeStatus mX11_102 (Nat.lt_of_lt_of_le (by decide) (Nat.le_refl _)) (by decide) rfl rfl rfl dX11_goes_4 ?_
  refine g_aload_n h dX11_goes_7 0 rfl ?_
  refine g_iload_n h dX11_goes_8 1 rfl ?_
  refine g_iload_n h dX11_goes_9 2 rfl ?_
  refine g_cvpi (rest := [.int (nI (rg wt (nI 0) (nI 2))), .ref (w.1 12)]) h (c_gst hW i j μ (by first | exact hv | assumption | fail) (by assumption)) lX11_goingStatus mX11_283 (Nat.lt_of_lt_of_le (by decide) (Nat.le_refl _)) (by decide) sc_12 rfl rfl rfl rfl dX11_goes_10 ?_
  refine g_cspi (rest := [.ref (w.1 12)]) h (c_fo hW (rg wt (nI 0) (nI 2)) (gst μ i j) (by repeat (first | omega | exact rg_lt | exact ns_lt | exact ps_lt | exact gst_lt | exact ofS_lt | exact if_lt (by decide) (by decide) | apply fo_lt)) (by repeat (first | omega | exact rg_lt | exact ns_lt | exact ps_lt | exact gst_lt | exact ofS_lt | exact if_lt (by decide) (by decide) | apply fo_lt))) lX11_firstOf mX11_163 (Nat.lt_of_lt_of_le (by decide) (Nat.le_refl _)) (by decide) rfl rfl rfl dX11_goes_13 ?_
  refine g_cvi (rest := []) h (c_fails hW (fo (rg wt (nI 0) (nI 2)) (gst μ i j)) (by repeat (first | omega | exact rg_lt | exact ns_lt | exact ps_lt | exact gst_lt | exact ofS_lt | exact if_lt (by decide) (by decide) | apply fo_lt))) lX11_fails mX11_106 (Nat.lt_of_lt_of_le (by decide) (Nat.le_refl _)) (by decide) sc_12 rfl rfl rfl rfl dX11_goes_16 (fun σ_1 eσ_1 => ?_)
  obtain ⟨eσ_1_a, eσ_1_b⟩ := eσ_1
  have eσ_1_a : σ_1 14000 = (nI (fo (rg wt (nI 0) (nI 2)) (gst μ i j))) := eσ_1_a
  have eσ_1_b : ∀ a, (a ≠ 14000) → σ_1 a = σ a := eσ_1_b
  have ht14000_σ_1 : σ_1 14000 = (nI (fo (rg wt (nI 0) (nI 2)) (gst μ i j))) := eσ_1_a
  have hcFR_σ_1 : ∀ a, (a < 14900 ∧ a ≠ 14000) → σ_1 a = σ a := by intro a ha; exact Eq.trans (b := σ a) (eσ_1_b a (by first | omega | (simp only [vb] at *; omega))) (hcFR_σ a ha)
  have hvσ_1 : vw (vb 0) σ_1 = μ := by rw [vw_fr (σ := σ) (fun j _ _ => eσ_1_b _ (by first | omega | (simp only [vb] at *; omega)))]; first | exact hv | assumption
  refine g_ifB_eq h dX11_goes_19 (fun c19 => ?_) (fun c19 => ?_)
  ·
    have hS0 := nb0 c19
    obtain ⟨hs1, hs2⟩ := fo_0 hS0
    obtain ⟨ew, hw9⟩ := rg_N (by decide) hs1
    have h0 := gst_0 hs2
    obtain ⟨ei, hi9⟩ := nB_N hI h0.1
    obtain ⟨ej, hj9⟩ := nB_N hI h0.2.1
    have hne := eN_ne ei ej h0.2.2.1
    have hg1 := gnw_1 (μ := μ) (fr := toN i) (to := toN j)
    have hg9 := gnw_le (μ := μ) (fr := toN i) (to := toN j)
    have hgh := gnw_how (μ := μ) (fr := toN i) (to := toN j)
    rw [ei, ej, ew]
    show G X w 4 24 [(0, .ref (w.1 12)), (1, .int (nI (toN i))), (2, .int (nI (toN j))), (3, .int (nI (toN wt)))] [] σ_1
    refine g_aload_n h dX11_goes_24 0 rfl ?_
    refine g_getr h dX11_goes_25 gX11_51 sc_12 rfl ?_
    refine g_aload_n h dX11_goes_28 0 rfl ?_
    refine g_getr h dX11_goes_29 gX11_23 sc_12 rfl ?_
    refine g_cvv (rest := []) h (c_findAll hW 0 μ (by first | omega | decide | fail) (by first | exact hvσ_1 | assumption | fail) (by assumption)) lX8_findAll mX11_286 (Nat.lt_of_lt_of_le (by decide) (Nat.le_refl _)) (by decide) sc_20 rfl rfl rfl rfl dX11_goes_32 (fun σ_2 eσ_2 => ?_)
    obtain ⟨eσ_2_a, eσ_2_b⟩ := eσ_2
    have eσ_2_a : CA σ_2 μ := eσ_2_a
    have eσ_2_b : ∀ a, (a < 15200 ∨ 15328 ≤ a) → σ_2 a = σ_1 a := eσ_2_b
    have ht14000_σ_2 : σ_2 14000 = (nI (fo (rg wt (nI 0) (nI 2)) (gst μ i j))) := by rw [eσ_2_b _ (by first | omega | (simp only [vb] at *; omega))]; first | exact ht14000_σ_1 | assumption
    have hcFR_σ_2 : ∀ a, (a < 14900 ∧ a ≠ 14000) → σ_2 a = σ a := by intro a ha; exact Eq.trans (b := σ_1 a) (eσ_2_b a (by first | omega | (simp only [vb] at *; omega))) (hcFR_σ_1 a ha)
    have hcCA_σ_2 : CA σ_2 μ := eσ_2_a
    have hvσ_2 : vw (vb 0) σ_2 = μ := by rw [vw_fr (σ := σ_1) (fun j _ _ => eσ_2_b _ (by first | omega | (simp only [vb] at *; omega)))]; first | exact hvσ_1 | assumption
    refine g_aload_n h dX11_goes_35 0 rfl ?_
    refine g_getr h dX11_goes_36 gX11_58 sc_12 rfl ?_
    refine g_aload_n h dX11_goes_39 0 rfl ?_
    refine g_getr h dX11_goes_40 gX11_23 sc_12 rfl ?_
    refine g_aload_n h dX11_goes_43 0 rfl ?_
    refine g_getr h dX11_goes_44 gX11_51 sc_12 rfl ?_
    refine g_iload_n h dX11_goes_47 1 rfl ?_
    refine g_iload_n h dX11_goes_48 2 rfl ?_
    refine g_cvv (rest := []) h (c_follow hW (toN i) (toN j) 0 μ (by first | omega | decide | fail) (by first | exact hvσ_2 | assumption | fail) (by assumption) (by omega) (by omega) (by first | exact hcCA_σ_2 | assumption | fail)) lX2_follow mX11_289 (Nat.lt_of_lt_of_le (by decide) (Nat.le_refl _)) (by decide) sc_23 rfl rfl rfl rfl dX11_goes_49 (fun σ_3 eσ_3 => ?_)
    obtain ⟨eσ_3_a, eσ_3_b, eσ_3_c, eσ_3_d, eσ_3_e, eσ_3_f⟩ := eσ_3
    have eσ_3_a : σ_3 15020 = (nI ((gnw μ (toN i) (toN j)).2.1 - 1)) := eσ_3_a
    have eσ_3_b : σ_3 15021 = (nI ((gnw μ (toN i) (toN j)).1)) := eσ_3_b
    have eσ_3_c : σ_3 15022 = ((gnw μ (toN i) (toN j)).2.2.2) := eσ_3_c
    have eσ_3_d : CA σ_3 μ := eσ_3_d
    have eσ_3_e : GN 15170 σ_3 (gnw μ (toN i) (toN j)).2.1 (gnw μ (toN i) (toN j)).2.2.1 := eσ_3_e
    have eσ_3_f : ∀ a, ((a < 15020 ∨ 15023 ≤ a) ∧ (a < 15170 ∨ 15179 ≤ a)) → σ_3 a = σ_2 a := eσ_3_f
    have ht14000_σ_3 : σ_3 14000 = (nI (fo (rg wt (nI 0) (nI 2)) (gst μ i j))) := by rw [eσ_3_f _ (by first | omega | (simp only [vb] at *; omega))]; first | exact ht14000_σ_2 | assumption
    have ht15020_σ_3 : σ_3 15020 = (nI ((gnw μ (toN i) (toN j)).2.1 - 1)) := eσ_3_a
    have ht15021_σ_3 : σ_3 15021 = (nI ((gnw μ (toN i) (toN j)).1)) := eσ_3_b
    have ht15022_σ_3 : σ_3 15022 = ((gnw μ (toN i) (toN j)).2.2.2) := eσ_3_c
    have hcFR_σ_3 : ∀ a, (a < 14900 ∧ a ≠ 14000) → σ_3 a = σ a := by intro a ha; exact Eq.trans (b := σ_2 a) (eσ_3_f a (by first | omega | (simp only [vb] at *; omega))) (hcFR_σ_2 a ha)
    have hcCA_σ_3 : CA σ_3 μ := eσ_3_d
    have hcGN_σ_3 : GN 15170 σ_3 (gnw μ (toN i) (toN j)).2.1 (gnw μ (toN i) (toN j)).2.2.1 := eσ_3_e
    have hvσ_3 : vw (vb 0) σ_3 = μ := by rw [vw_fr (σ := σ_2) (fun j _ _ => eσ_3_f _ (by first | omega | (simp only [vb] at *; omega)))]; first | exact hvσ_2 | assumption
    refine g_iload_n h dX11_goes_52 3 rfl ?_
    rcases (show toN wt = 0 ∨ toN wt = 1 ∨ toN wt = 2 by omega) with hc53 | hc53 | hc53
    ·
      refine g_lsw (off := 27) (tgt := 80) h dX11_goes_53 (by decide) (by rw [hc53]; decide) (by decide) ?_
      refine g_aload_n h dX11_goes_80 0 rfl ?_
      refine g_getr h dX11_goes_81 gX11_58 sc_12 rfl ?_
      refine g_geti h dX11_goes_84 gX11_293 sc_23 rfl ?_
      refine g_top (y := (nI ((gnw μ (toN i) (toN j)).1))) (by first | exact ht15021_σ_3 | assumption) ?_
      exact g_iret h hQ dX11_goes_87 (congrArg (fun z => some (Value.int z)) (show (an (fo (rg wt (nI 0) (nI 2)) (gst μ i j)) (v_goes μ (toN i) (toN j) (toN wt))) = (nI ((gnw μ (toN i) (toN j)).1)) by first | exact an_yes (by exact hS0) (by first | (unfold v_goes; rw [if_pos (by omega)]; done) | (unfold v_goes; rw [if_neg (by omega), if_pos (by omega)]; done) | (unfold v_goes; rw [if_neg (by omega), if_neg (by omega)]; done)) | exact an_no (k := (fo (rg wt (nI 0) (nI 2)) (gst μ i j))) (by first | rfl | (simp [fo, rg, ns, nB, ps, gst, ofS, offB, c19, hc53]; done) | (simp [fo, rg, ns, nB, ps, gst, ofS, offB, c19, hc53]; omega)) (by first | decide | omega | assumption | exact nb1 (by assumption)) | fail)) (by exact ⟨(by first | exact tk_eq (k := (fo (rg wt (nI 0) (nI 2)) (gst μ i j))) (by first | rfl | (simp [fo, rg, ns, nB, ps, gst, ofS, offB, c19, hc53]; done) | (simp [fo, rg, ns, nB, ps, gst, ofS, offB, c19, hc53]; omega)) ht14000_σ_3 | exact tk_eq (k := (fo (rg wt (nI 0) (nI 2)) (gst μ i j))) (by exact hS0) ht14000_σ_3 | fail), (by exact hcFR_σ_3)⟩)
    ·
      refine g_lsw (off := 35) (tgt := 88) h dX11_goes_53 (by decide) (by rw [hc53]; decide) (by decide) ?_
      refine g_aload_n h dX11_goes_88 0 rfl ?_
      refine g_getr h dX11_goes_89 gX11_58 sc_12 rfl ?_
      refine g_geti h dX11_goes_92 gX11_296 sc_23 rfl ?_
      refine g_top (y := (nI ((gnw μ (toN i) (toN j)).2.1 - 1))) (by first | exact ht15020_σ_3 | assumption) ?_
      exact g_iret h hQ dX11_goes_95 (congrArg (fun z => some (Value.int z)) (show (an (fo (rg wt (nI 0) (nI 2)) (gst μ i j)) (v_goes μ (toN i) (toN j) (toN wt))) = (nI ((gnw μ (toN i) (toN j)).2.1 - 1)) by first | exact an_yes (by exact hS0) (by first | (unfold v_goes; rw [if_pos (by omega)]; done) | (unfold v_goes; rw [if_neg (by omega), if_pos (by omega)]; done) | (unfold v_goes; rw [if_neg (by omega), if_neg (by omega)]; done)) | exact an_no (k := (fo (rg wt (nI 0) (nI 2)) (gst μ i j))) (by first | rfl | (simp [fo, rg, ns, nB, ps, gst, ofS, offB, c19, hc53]; done) | (simp [fo, rg, ns, nB, ps, gst, ofS, offB, c19, hc53]; omega)) (by first | decide | omega | assumption | exact nb1 (by assumption)) | fail)) (by exact ⟨(by first | exact tk_eq (k := (fo (rg wt (nI 0) (nI 2)) (gst μ i j))) (by first | rfl | (simp [fo, rg, ns, nB, ps, gst, ofS, offB, c19, hc53]; done) | (simp [fo, rg, ns, nB, ps, gst, ofS, offB, c19, hc53]; omega)) ht14000_σ_3 | exact tk_eq (k := (fo (rg wt (nI 0) (nI 2)) (gst μ i j))) (by exact hS0) ht14000_σ_3 | fail), (by exact hcFR_σ_3)⟩)
    ·
      refine g_lsw (off := 43) (tgt := 96) h dX11_goes_53 (by decide) (by rw [hc53]; decide) (by decide) ?_
      refine g_aload_n h dX11_goes_96 0 rfl ?_
      refine g_getr h dX11_goes_97 gX11_58 sc_12 rfl ?_
      refine g_cvpi (rest := []) h (c_end hW ((gnw μ (toN i) (toN j)).2.1) ((gnw μ (toN i) (toN j)).2.2.1) (by omega) (by first | exact ht15020_σ_3 | assumption | fail) (by first | exact hcGN_σ_3 | assumption | fail)) lX2_end mX11_298 (Nat.lt_of_lt_of_le (by decide) (Nat.le_refl _)) (by decide) sc_23 rfl rfl rfl rfl dX11_goes_100 ?_
      exact g_iret h hQ dX11_goes_103 (congrArg (fun z => some (Value.int z)) (show (an (fo (rg wt (nI 0) (nI 2)) (gst μ i j)) (v_goes μ (toN i) (toN j) (toN wt))) = (nI (((gnw μ (toN i) (toN j)).2.2.1) (((gnw μ (toN i) (toN j)).2.1) - 1))) by first | exact an_yes (by exact hS0) (by first | (unfold v_goes; rw [if_pos (by omega)]; done) | (unfold v_goes; rw [if_neg (by omega), if_pos (by omega)]; done) | (unfold v_goes; rw [if_neg (by omega), if_neg (by omega)]; done)) | exact an_no (k := (fo (rg wt (nI 0) (nI 2)) (gst μ i j))) (by first | rfl | (simp [fo, rg, ns, nB, ps, gst, ofS, offB, c19, hc53]; done) | (simp [fo, rg, ns, nB, ps, gst, ofS, offB, c19, hc53]; omega)) (by first | decide | omega | assumption | exact nb1 (by assumption)) | fail)) (by exact ⟨(by first | exact tk_eq (k := (fo (rg wt (nI 0) (nI 2)) (gst μ i j))) (by first | rfl | (simp [fo, rg, ns, nB, ps, gst, ofS, offB, c19, hc53]; done) | (simp [fo, rg, ns, nB, ps, gst, ofS, offB, c19, hc53]; omega)) ht14000_σ_3 | exact tk_eq (k := (fo (rg wt (nI 0) (nI 2)) (gst μ i j))) (by exact hS0) ht14000_σ_3 | fail), (by exact hcFR_σ_3)⟩)
  ·
    refine g_iconstv h dX11_goes_22 (v := (-1)) (by decide) ?_
    exact g_iret h hQ dX11_goes_23 (congrArg (fun z => some (Value.int z)) (show (an (fo (rg wt (nI 0) (nI 2)) (gst μ i j)) (v_goes μ (toN i) (toN j) (toN wt))) = (-1) by first | exact an_yes (by exact hS0) (by first | (unfold v_goes; rw [if_pos (by omega)]; done) | (unfold v_goes; rw [if_neg (by omega), if_pos (by omega)]; done) | (unfold v_goes; rw [if_neg (by omega), if_neg (by omega)]; done)) | exact an_no (k := (fo (rg wt (nI 0) (nI 2)) (gst μ i j))) (by first | rfl | (simp [fo, rg, ns, nB, ps, gst, ofS, offB, c19]; done) | (simp [fo, rg, ns, nB, ps, gst, ofS, offB, c19]; omega)) (by first | decide | omega | assumption | exact nb1 (by assumption)) | fail)) (by exact ⟨(by first | exact tk_eq (k := (fo (rg wt (nI 0) (nI 2)) (gst μ i j))) (by first | rfl | (simp [fo, rg, ns, nB, ps, gst, ofS, offB, c19]; done) | (simp [fo, rg, ns, nB, ps, gst, ofS, offB, c19]; omega)) ht14000_σ_1 | exact tk_eq (k := (fo (rg wt (nI 0) (nI 2)) (gst μ i j))) (by exact hS0) ht14000_σ_1 | fail), (by exact hcFR_σ_1)⟩)
