theorem fl_mesh {node : Nat} {bl : Bool} {ls f i : Nat} {s : FT} : (fl1 node bl false ls f i s).2.2.2.2.1 = s.2.2.2.2.1 := by
  unfold fl1
  split
  · split
    · rfl
    · simp
  · rfl
theorem flI_mesh {node : Nat} {bl : Bool} {ls f : Nat} {s : FT} : ∀ n, (flI node bl false ls f n s).2.2.2.2.1 = s.2.2.2.2.1
  | 0 => rfl
  | n + 1 => by rw [flI, fl_mesh, flI_mesh n]
theorem flW_mesh {node : Nat} {bl : Bool} {ls N : Nat} {s : FT} : ∀ n, (flW node bl false ls N s n).2.2.2.2.1 = s.2.2.2.2.1
  | 0 => rfl
  | n + 1 => by
    simp only [flW]
    split
    · rw [flI_mesh, flW_mesh n]
    · exact flW_mesh n
theorem flS_mesh {node : Nat} {bl : Bool} {ls d : Nat} {lo : Int32} {μ : Nat → Int32} : (flS node bl false ls μ d lo).2.2.2.2.1 = μ := by
  unfold flS
  rw [flW_mesh]
theorem r_floodQ {l : Launch} {w : Wd} (hW : Wi w) {σ : Mem} (node : Nat) (bl : Bool) (μ : Nat → Int32) (hv : vw 0 σ = μ) (hI : MI μ) (hn : node < nN μ) (hon : tb (μ 1) node = true) (hR : RLs σ 0 0 (nI 0)) : MC l w qX12_floods 3 [.ref (w.1 0), .int (nI node), .int (b2i bl), .int (b2i false)] σ none (fun σ' => (σ' 5002 = ((flS node bl false 0 μ 0 (nI 0)).2.2.2.1)) ∧ (σ' 5003 = (nI ((flS node bl false 0 μ 0 (nI 0)).2.1))) ∧ (∀ a, ((a < 4900 ∨ 4903 ≤ a) ∧ (a < 5001 ∨ 5004 ≤ a) ∧ (a < 5140 ∨ 5148 ≤ a)) → σ' a = σ a)) := by
  refine MC.imp (r_floods hW node bl false μ 0 0 (nI 0) hv hI hn hon hR) ?_
  rintro σ' ⟨h1, h2, h3, h4, h5⟩
  refine ⟨h2, h3, fun a ha => ?_⟩
  by_cases c : 464 ≤ a ∨ a = 10
  · exact h5 a (by omega)
  · rw [flS_mesh] at h1
    have e1 := vw_pic (k := a) h1 (by omega)
    have e2 := vw_pic (k := a) hv (by omega)
    rw [Nat.zero_add] at e1 e2
    rw [e1, e2]
theorem c_floodQ {l : Launch} {w : Wd} (hW : Wi w) {σ : Mem} (node kd : Nat) (μ : Nat → Int32) (hv : vw (vb 0) σ = μ) (hI : MI μ) (hn : node < nN μ) (hon : tb (μ 1) node = true) (hkd : kd = 1 ∨ kd = 2) (hR : CL σ 0 0 (nI 0)) : MC l w qX1_send 3 [.ref (w.1 28), .ref (w.1 (mc 0 0)), .int (nI node), .int (nI kd), .ref (w.1 30)] σ none (fun σ' => (σ' 15040 = ((flS node (decide (kd = 2)) false 0 μ 0 (nI 0)).2.2.2.1)) ∧ (σ' 15041 = (nI ((flS node (decide (kd = 2)) false 0 μ 0 (nI 0)).2.1))) ∧ (∀ a, (a ≠ 10010 ∧ (a < 14900 ∨ 14903 ≤ a) ∧ (a < 15040 ∨ 15044 ≤ a) ∧ (a < 15140 ∨ 15148 ≤ a)) → σ' a = σ a)) := by
  refine MC.imp (c_send hW node kd 0 0 (nI 0) 0 μ (by decide) hv hI hn hon (by omega) hR) ?_
  have e0 : decide (kd = 0) = false := decide_eq_false (by omega)
  rw [e0]
  rintro σ' ⟨h1, h2, h3, h4, h5⟩
  refine ⟨h2, h3, fun a ha => ?_⟩
  by_cases c : a < 10000 ∨ 10464 ≤ a
  · exact h5 a (by simp only [vb]; omega)
  · rw [flS_mesh] at h1
    have e1 := vw_pic (k := a - 10000) h1 (by omega)
    have e2 := vw_pic (k := a - 10000) hv (by omega)
    rw [show vb 0 + (a - 10000) = a from by simp only [vb]; omega] at e1 e2
    rw [e1, e2]

set_option maxRecDepth 100000 in
set_option maxHeartbeats 4000000 in
theorem q_flood {l : Launch} {w : Wd} (hW : Wi w) {σ : Mem} (i : Int32) (wt : Int32)  (μ : Nat → Int32) (hv : vw 0 σ = μ) (hI : MI μ) : MC l w qX12_flood 4 [.ref (w.1 0), .int i, .int wt] σ (some (.int (an (fo (fo (rg wt (nI 0) (nI 3)) (ns μ i)) (ofS μ i)) (v_flood μ (toN i) (toN wt))))) (fun σ' => (σ' 4000 = (nI (fo (fo (rg wt (nI 0) (nI 3)) (ns μ i)) (ofS μ i)))) ∧ (∀ a, ((a < 4900 ∨ 6000 ≤ a) ∧ a ≠ 4000) → σ' a = σ a)) := by
  refine MC.of hW (by decide +kernel) (Nat.le_of_ble_eq_true rfl) (fun X h hQ hnm => ?_)
  have h : Fx X w cX12_flood 3 RX12 4 := h
  have hQ : Qx X w (some .int) (some (.int (an (fo (fo (rg wt (nI 0) (nI 3)) (ns μ i)) (ofS μ i)) (v_flood μ (toN i) (toN wt))))) (fun σ' => (σ' 4000 = (nI (fo (fo (rg wt (nI 0) (nI 3)) (ns μ i)) (ofS μ i)))) ∧ (∀ a, ((a < 4900 ∨ 6000 ≤ a) ∧ a ≠ 4000) → σ' a = σ a)) := hQ
  have hN8 := mi_8 hI
  have hcFR_σ : ∀ a, ((a < 4900 ∨ 6000 ≤ a) ∧ a ≠ 4000) → σ a = σ a := fun _ _ => rfl
  show G X w 3 0 [(0, .ref (w.1 0)), (1, .int i), (2, .int wt)] [] σ
  refine g_iload_n h dX12_flood_0 2 rfl ?_
  refine g_iconst h dX12_flood_1 (by decide) ?_
  refine g_iconst h dX12_flood_2 (by decide) ?_
  refine g_cspi (rest := []) h (r_isFrom hW wt (nI 0) (nI 3) ) lX12_isFrom mX12_134 (Nat.lt_of_lt_of_le (by decide) (Nat.le_refl _)) (by decide) rfl rfl rfl dX12_flood_3 ?_
  refine g_ifB_ne h dX12_flood_6 (fun c6 => ?_) (fun c6 => ?_)
  ·
    refine g_aload_n h dX12_flood_15 0 rfl ?_
    refine g_iload_n h dX12_flood_16 1 rfl ?_
    refine g_cvpi (rest := []) h (r_isNode hW i μ (by first | exact hv | assumption | fail)) lX12_isNode mX12_287 (Nat.lt_of_lt_of_le (by decide) (Nat.le_refl _)) (by decide) sc_0 rfl rfl rfl rfl dX12_flood_17 ?_
    refine g_ifB_ne h dX12_flood_20 (fun c20 => ?_) (fun c20 => ?_)
    ·
      obtain ⟨ew, hw9⟩ := fr_N (by decide) c6
      have hn9 : nB μ i = true := c20
      obtain ⟨ei, hi9⟩ := nB_N hI hn9
      have o1 := off_in hn9
      rw [ei, ew]
      show G X w 3 29 [(0, .ref (w.1 0)), (1, .int (nI (toN i))), (2, .int (nI (toN wt)))] [] σ
      refine g_aload_n h dX12_flood_29 0 rfl ?_
      refine g_iload_n h dX12_flood_30 1 rfl ?_
      refine g_cvpi (rest := []) h (r_isOn hW (toN i) μ (by assumption) (by omega)) lX12_isOn mX12_114 (Nat.lt_of_lt_of_le (by decide) (Nat.le_refl _)) (by decide) sc_0 rfl rfl rfl rfl dX12_flood_31 ?_
      refine g_ifB_ne h dX12_flood_34 (fun c34 => ?_) (fun c34 => ?_)
      ·
        refine g_aload_n h dX12_flood_43 0 rfl ?_
        refine g_iconstv h dX12_flood_44 (v := (-1)) (by decide) ?_
        refine g_puti h dX12_flood_45 pX12_105 sc_0 rfl ?_
        refine g_nm (fun σL eσL => ?_)
        have eσL : σL = upd σ 4901 (-1) := eσL
        have hcFR_σL : ∀ a, ((a < 4900 ∨ 6000 ≤ a) ∧ a ≠ 4000) → σL a = σ a := by intro a ha; exact Eq.trans (b := σ a) (by rw [eσL, upd_ne (by first | omega | (simp only [vb] at *; omega))]) (hcFR_σ a ha)
        have hvσL : vw 0 σL = μ := by rw [eσL, vw_out (by omega)]; first | exact hv | assumption
        have hcRLs_σL : RLs σL 0 0 (nI 0) := Or.inl ⟨by rw [eσL]; exact upd_eq, rfl⟩
        refine g_aload_n h dX12_flood_48 0 rfl ?_
        refine g_iload_n h dX12_flood_49 1 rfl ?_
        refine g_iload_n h dX12_flood_50 2 rfl ?_
        refine g_iconst h dX12_flood_51 (by decide) ?_
        refine g_icmpN_le h dX12_flood_52 (by omega) (by omega) (fun c52 => ?_) (fun c52 => ?_)
        ·
          have hbl : decide (1 < toN wt) = false := decide_eq_false (by omega)
          refine g_iconst h dX12_flood_59 (by decide) ?_
          refine g_iconst h dX12_flood_60 (by decide) ?_
          refine g_cvv (rest := []) h (r_floodQ hW (toN i) false μ (by first | exact hvσL | assumption | fail) (by assumption) (by omega) (by exact c34) (by exact hcRLs_σL)) lX12_floods mX12_159 (Nat.lt_of_lt_of_le (by decide) (Nat.le_refl _)) (by decide) sc_0 rfl rfl rfl rfl dX12_flood_61 (fun σ_1 eσ_1 => ?_)
          obtain ⟨eσ_1_a, eσ_1_b, eσ_1_c⟩ := eσ_1
          have eσ_1_a : σ_1 5002 = ((flS (toN i) false false 0 μ 0 (nI 0)).2.2.2.1) := eσ_1_a
          have eσ_1_b : σ_1 5003 = (nI ((flS (toN i) false false 0 μ 0 (nI 0)).2.1)) := eσ_1_b
          have eσ_1_c : ∀ a, ((a < 4900 ∨ 4903 ≤ a) ∧ (a < 5001 ∨ 5004 ≤ a) ∧ (a < 5140 ∨ 5148 ≤ a)) → σ_1 a = σL a := eσ_1_c
          have ht5002_σ_1 : σ_1 5002 = ((flS (toN i) false false 0 μ 0 (nI 0)).2.2.2.1) := eσ_1_a
          have ht5003_σ_1 : σ_1 5003 = (nI ((flS (toN i) false false 0 μ 0 (nI 0)).2.1)) := eσ_1_b
          have hcFR_σ_1 : ∀ a, ((a < 4900 ∨ 6000 ≤ a) ∧ a ≠ 4000) → σ_1 a = σ a := by intro a ha; exact Eq.trans (b := σL a) (eσ_1_c a (by first | omega | (simp only [vb] at *; omega))) (hcFR_σL a ha)
          have hvσ_1 : vw 0 σ_1 = μ := by rw [vw_fr (σ := σL) (fun j _ _ => eσ_1_c _ (by first | omega | (simp only [vb] at *; omega)))]; first | exact hvσL | assumption
          refine g_aload_n h dX12_flood_64 0 rfl ?_
          refine g_iload_n h dX12_flood_65 2 rfl ?_
          refine g_iconst h dX12_flood_66 (by decide) ?_
          refine g_iremN h dX12_flood_67 (by omega) (by omega) (by omega) ?_
          refine g_ifN_ne h dX12_flood_68 (by omega) (fun c68 => ?_) (fun c68 => ?_)
          ·
            refine g_aload_n h dX12_flood_78 0 rfl ?_
            refine g_geti h dX12_flood_79 gX12_150 sc_0 rfl ?_
            refine g_top (y := (nI ((flS (toN i) false false 0 μ 0 (nI 0)).2.1))) (by first | exact ht5003_σ_1 | assumption) ?_
            refine g_cvi (rest := []) h (r_gives hW (nI ((flS (toN i) false false 0 μ 0 (nI 0)).2.1)) ) lX12_gives mX12_281 (Nat.lt_of_lt_of_le (by decide) (Nat.le_refl _)) (by decide) sc_0 rfl rfl rfl rfl dX12_flood_82 (fun σ_2 eσ_2 => ?_)
            have eσ_2_a : σ_2 = upd σ_1 4000 (nI 0) := eσ_2
            have ht5002_σ_2 : σ_2 5002 = ((flS (toN i) false false 0 μ 0 (nI 0)).2.2.2.1) := by rw [eσ_2_a, upd_ne (by first | omega | (simp only [vb] at *; omega))]; first | exact ht5002_σ_1 | assumption
            have ht5003_σ_2 : σ_2 5003 = (nI ((flS (toN i) false false 0 μ 0 (nI 0)).2.1)) := by rw [eσ_2_a, upd_ne (by first | omega | (simp only [vb] at *; omega))]; first | exact ht5003_σ_1 | assumption
            have ht4000_σ_2 : σ_2 4000 = (nI 0) := by rw [eσ_2_a]; exact upd_eq
            have hcFR_σ_2 : ∀ a, ((a < 4900 ∨ 6000 ≤ a) ∧ a ≠ 4000) → σ_2 a = σ a := by intro a ha; exact Eq.trans (b := σ_1 a) (by rw [eσ_2_a, upd_ne (by first | omega | (simp only [vb] at *; omega))]) (hcFR_σ_1 a ha)
            have hvσ_2 : vw 0 σ_2 = μ := by rw [eσ_2_a, vw_out (by omega)]; first | exact hvσ_1 | assumption
            exact g_iret h hQ dX12_flood_85 (congrArg (fun z => some (Value.int z)) (show (an (fo (fo (rg wt (nI 0) (nI 3)) (ns μ i)) (ofS μ i)) (v_flood μ (toN i) (toN wt))) = (nI ((flS (toN i) false false 0 μ 0 (nI 0)).2.1)) by first | exact an_yes (by simp [fo, rg, ns, c6, hn9, ofS, o1, c34]; done) (by first | (unfold v_flood; rw [if_pos c68, hbl]; done) | (unfold v_flood; rw [if_neg c68, hbl]; done) | (unfold v_flood; rw [if_pos c79, hbl]; done) | (unfold v_flood; rw [if_neg c79, hbl]; done)) | exact an_no (k := 0) (by first | (simp [fo, rg, ns, c6, hn9, ofS, o1, c6, c20, c34, c52, c68]; done) | (first | rfl | (simp [fo, rg, ns, nB, ps, gst, ofS, offB, c6, c20, c34, c52, c68]; done) | (simp [fo, rg, ns, nB, ps, gst, ofS, offB, c6, c20, c34, c52, c68]; omega))) (by first | decide | omega | assumption | exact nb1 (by assumption)) | fail)) (by exact ⟨(by first | exact tk_eq (k := 0) (by first | (simp [fo, rg, ns, c6, hn9, ofS, o1, c6, c20, c34, c52, c68]; done) | (first | rfl | (simp [fo, rg, ns, nB, ps, gst, ofS, offB, c6, c20, c34, c52, c68]; done) | (simp [fo, rg, ns, nB, ps, gst, ofS, offB, c6, c20, c34, c52, c68]; omega))) ht4000_σ_2 | exact tk_eq (k := 0) (by simp [fo, rg, ns, c6, hn9, ofS, o1, c34]; done) ht4000_σ_2 | fail), (by exact hcFR_σ_2)⟩)
          ·
            refine g_aload_n h dX12_flood_71 0 rfl ?_
            refine g_geti h dX12_flood_72 gX12_147 sc_0 rfl ?_
            refine g_top (y := ((flS (toN i) false false 0 μ 0 (nI 0)).2.2.2.1)) (by first | exact ht5002_σ_1 | assumption) ?_
            refine g_goto h dX12_flood_75 ?_
            refine g_cvi (rest := []) h (r_gives hW ((flS (toN i) false false 0 μ 0 (nI 0)).2.2.2.1) ) lX12_gives mX12_281 (Nat.lt_of_lt_of_le (by decide) (Nat.le_refl _)) (by decide) sc_0 rfl rfl rfl rfl dX12_flood_82 (fun σ_3 eσ_3 => ?_)
            have eσ_3_a : σ_3 = upd σ_1 4000 (nI 0) := eσ_3
            have ht5002_σ_3 : σ_3 5002 = ((flS (toN i) false false 0 μ 0 (nI 0)).2.2.2.1) := by rw [eσ_3_a, upd_ne (by first | omega | (simp only [vb] at *; omega))]; first | exact ht5002_σ_1 | assumption
            have ht5003_σ_3 : σ_3 5003 = (nI ((flS (toN i) false false 0 μ 0 (nI 0)).2.1)) := by rw [eσ_3_a, upd_ne (by first | omega | (simp only [vb] at *; omega))]; first | exact ht5003_σ_1 | assumption
            have ht4000_σ_3 : σ_3 4000 = (nI 0) := by rw [eσ_3_a]; exact upd_eq
            have hcFR_σ_3 : ∀ a, ((a < 4900 ∨ 6000 ≤ a) ∧ a ≠ 4000) → σ_3 a = σ a := by intro a ha; exact Eq.trans (b := σ_1 a) (by rw [eσ_3_a, upd_ne (by first | omega | (simp only [vb] at *; omega))]) (hcFR_σ_1 a ha)
            have hvσ_3 : vw 0 σ_3 = μ := by rw [eσ_3_a, vw_out (by omega)]; first | exact hvσ_1 | assumption
            exact g_iret h hQ dX12_flood_85 (congrArg (fun z => some (Value.int z)) (show (an (fo (fo (rg wt (nI 0) (nI 3)) (ns μ i)) (ofS μ i)) (v_flood μ (toN i) (toN wt))) = ((flS (toN i) false false 0 μ 0 (nI 0)).2.2.2.1) by first | exact an_yes (by simp [fo, rg, ns, c6, hn9, ofS, o1, c34]; done) (by first | (unfold v_flood; rw [if_pos c68, hbl]; done) | (unfold v_flood; rw [if_neg c68, hbl]; done) | (unfold v_flood; rw [if_pos c79, hbl]; done) | (unfold v_flood; rw [if_neg c79, hbl]; done)) | exact an_no (k := 0) (by first | (simp [fo, rg, ns, c6, hn9, ofS, o1, c6, c20, c34, c52, c68]; done) | (first | rfl | (simp [fo, rg, ns, nB, ps, gst, ofS, offB, c6, c20, c34, c52, c68]; done) | (simp [fo, rg, ns, nB, ps, gst, ofS, offB, c6, c20, c34, c52, c68]; omega))) (by first | decide | omega | assumption | exact nb1 (by assumption)) | fail)) (by exact ⟨(by first | exact tk_eq (k := 0) (by first | (simp [fo, rg, ns, c6, hn9, ofS, o1, c6, c20, c34, c52, c68]; done) | (first | rfl | (simp [fo, rg, ns, nB, ps, gst, ofS, offB, c6, c20, c34, c52, c68]; done) | (simp [fo, rg, ns, nB, ps, gst, ofS, offB, c6, c20, c34, c52, c68]; omega))) ht4000_σ_3 | exact tk_eq (k := 0) (by simp [fo, rg, ns, c6, hn9, ofS, o1, c34]; done) ht4000_σ_3 | fail), (by exact hcFR_σ_3)⟩)
        ·
          have hbl : decide (1 < toN wt) = true := decide_eq_true (by omega)
          refine g_iconst h dX12_flood_55 (by decide) ?_
          refine g_goto h dX12_flood_56 ?_
          refine g_iconst h dX12_flood_60 (by decide) ?_
          refine g_cvv (rest := []) h (r_floodQ hW (toN i) true μ (by first | exact hvσL | assumption | fail) (by assumption) (by omega) (by exact c34) (by exact hcRLs_σL)) lX12_floods mX12_159 (Nat.lt_of_lt_of_le (by decide) (Nat.le_refl _)) (by decide) sc_0 rfl rfl rfl rfl dX12_flood_61 (fun σ_4 eσ_4 => ?_)
          obtain ⟨eσ_4_a, eσ_4_b, eσ_4_c⟩ := eσ_4
          have eσ_4_a : σ_4 5002 = ((flS (toN i) true false 0 μ 0 (nI 0)).2.2.2.1) := eσ_4_a
          have eσ_4_b : σ_4 5003 = (nI ((flS (toN i) true false 0 μ 0 (nI 0)).2.1)) := eσ_4_b
          have eσ_4_c : ∀ a, ((a < 4900 ∨ 4903 ≤ a) ∧ (a < 5001 ∨ 5004 ≤ a) ∧ (a < 5140 ∨ 5148 ≤ a)) → σ_4 a = σL a := eσ_4_c
          have ht5002_σ_4 : σ_4 5002 = ((flS (toN i) true false 0 μ 0 (nI 0)).2.2.2.1) := eσ_4_a
          have ht5003_σ_4 : σ_4 5003 = (nI ((flS (toN i) true false 0 μ 0 (nI 0)).2.1)) := eσ_4_b
          have hcFR_σ_4 : ∀ a, ((a < 4900 ∨ 6000 ≤ a) ∧ a ≠ 4000) → σ_4 a = σ a := by intro a ha; exact Eq.trans (b := σL a) (eσ_4_c a (by first | omega | (simp only [vb] at *; omega))) (hcFR_σL a ha)
          have hvσ_4 : vw 0 σ_4 = μ := by rw [vw_fr (σ := σL) (fun j _ _ => eσ_4_c _ (by first | omega | (simp only [vb] at *; omega)))]; first | exact hvσL | assumption
          refine g_aload_n h dX12_flood_64 0 rfl ?_
          refine g_iload_n h dX12_flood_65 2 rfl ?_
          refine g_iconst h dX12_flood_66 (by decide) ?_
          refine g_iremN h dX12_flood_67 (by omega) (by omega) (by omega) ?_
          refine g_ifN_ne h dX12_flood_68 (by omega) (fun c68 => ?_) (fun c68 => ?_)
          ·
            refine g_aload_n h dX12_flood_78 0 rfl ?_
            refine g_geti h dX12_flood_79 gX12_150 sc_0 rfl ?_
            refine g_top (y := (nI ((flS (toN i) true false 0 μ 0 (nI 0)).2.1))) (by first | exact ht5003_σ_4 | assumption) ?_
            refine g_cvi (rest := []) h (r_gives hW (nI ((flS (toN i) true false 0 μ 0 (nI 0)).2.1)) ) lX12_gives mX12_281 (Nat.lt_of_lt_of_le (by decide) (Nat.le_refl _)) (by decide) sc_0 rfl rfl rfl rfl dX12_flood_82 (fun σ_5 eσ_5 => ?_)
            have eσ_5_a : σ_5 = upd σ_4 4000 (nI 0) := eσ_5
            have ht5002_σ_5 : σ_5 5002 = ((flS (toN i) true false 0 μ 0 (nI 0)).2.2.2.1) := by rw [eσ_5_a, upd_ne (by first | omega | (simp only [vb] at *; omega))]; first | exact ht5002_σ_4 | assumption
            have ht5003_σ_5 : σ_5 5003 = (nI ((flS (toN i) true false 0 μ 0 (nI 0)).2.1)) := by rw [eσ_5_a, upd_ne (by first | omega | (simp only [vb] at *; omega))]; first | exact ht5003_σ_4 | assumption
            have ht4000_σ_5 : σ_5 4000 = (nI 0) := by rw [eσ_5_a]; exact upd_eq
            have hcFR_σ_5 : ∀ a, ((a < 4900 ∨ 6000 ≤ a) ∧ a ≠ 4000) → σ_5 a = σ a := by intro a ha; exact Eq.trans (b := σ_4 a) (by rw [eσ_5_a, upd_ne (by first | omega | (simp only [vb] at *; omega))]) (hcFR_σ_4 a ha)
            have hvσ_5 : vw 0 σ_5 = μ := by rw [eσ_5_a, vw_out (by omega)]; first | exact hvσ_4 | assumption
            exact g_iret h hQ dX12_flood_85 (congrArg (fun z => some (Value.int z)) (show (an (fo (fo (rg wt (nI 0) (nI 3)) (ns μ i)) (ofS μ i)) (v_flood μ (toN i) (toN wt))) = (nI ((flS (toN i) true false 0 μ 0 (nI 0)).2.1)) by first | exact an_yes (by simp [fo, rg, ns, c6, hn9, ofS, o1, c34]; done) (by first | (unfold v_flood; rw [if_pos c68, hbl]; done) | (unfold v_flood; rw [if_neg c68, hbl]; done) | (unfold v_flood; rw [if_pos c79, hbl]; done) | (unfold v_flood; rw [if_neg c79, hbl]; done)) | exact an_no (k := 0) (by first | (simp [fo, rg, ns, c6, hn9, ofS, o1, c6, c20, c34, c52, c68]; done) | (first | rfl | (simp [fo, rg, ns, nB, ps, gst, ofS, offB, c6, c20, c34, c52, c68]; done) | (simp [fo, rg, ns, nB, ps, gst, ofS, offB, c6, c20, c34, c52, c68]; omega))) (by first | decide | omega | assumption | exact nb1 (by assumption)) | fail)) (by exact ⟨(by first | exact tk_eq (k := 0) (by first | (simp [fo, rg, ns, c6, hn9, ofS, o1, c6, c20, c34, c52, c68]; done) | (first | rfl | (simp [fo, rg, ns, nB, ps, gst, ofS, offB, c6, c20, c34, c52, c68]; done) | (simp [fo, rg, ns, nB, ps, gst, ofS, offB, c6, c20, c34, c52, c68]; omega))) ht4000_σ_5 | exact tk_eq (k := 0) (by simp [fo, rg, ns, c6, hn9, ofS, o1, c34]; done) ht4000_σ_5 | fail), (by exact hcFR_σ_5)⟩)
          ·
            refine g_aload_n h dX12_flood_71 0 rfl ?_
            refine g_geti h dX12_flood_72 gX12_147 sc_0 rfl ?_
            refine g_top (y := ((flS (toN i) true false 0 μ 0 (nI 0)).2.2.2.1)) (by first | exact ht5002_σ_4 | assumption) ?_
            refine g_goto h dX12_flood_75 ?_
            refine g_cvi (rest := []) h (r_gives hW ((flS (toN i) true false 0 μ 0 (nI 0)).2.2.2.1) ) lX12_gives mX12_281 (Nat.lt_of_lt_of_le (by decide) (Nat.le_refl _)) (by decide) sc_0 rfl rfl rfl rfl dX12_flood_82 (fun σ_6 eσ_6 => ?_)
            have eσ_6_a : σ_6 = upd σ_4 4000 (nI 0) := eσ_6
            have ht5002_σ_6 : σ_6 5002 = ((flS (toN i) true false 0 μ 0 (nI 0)).2.2.2.1) := by rw [eσ_6_a, upd_ne (by first | omega | (simp only [vb] at *; omega))]; first | exact ht5002_σ_4 | assumption
            have ht5003_σ_6 : σ_6 5003 = (nI ((flS (toN i) true false 0 μ 0 (nI 0)).2.1)) := by rw [eσ_6_a, upd_ne (by first | omega | (simp only [vb] at *; omega))]; first | exact ht5003_σ_4 | assumption
            have ht4000_σ_6 : σ_6 4000 = (nI 0) := by rw [eσ_6_a]; exact upd_eq
            have hcFR_σ_6 : ∀ a, ((a < 4900 ∨ 6000 ≤ a) ∧ a ≠ 4000) → σ_6 a = σ a := by intro a ha; exact Eq.trans (b := σ_4 a) (by rw [eσ_6_a, upd_ne (by first | omega | (simp only [vb] at *; omega))]) (hcFR_σ_4 a ha)
            have hvσ_6 : vw 0 σ_6 = μ := by rw [eσ_6_a, vw_out (by omega)]; first | exact hvσ_4 | assumption
            exact g_iret h hQ dX12_flood_85 (congrArg (fun z => some (Value.int z)) (show (an (fo (fo (rg wt (nI 0) (nI 3)) (ns μ i)) (ofS μ i)) (v_flood μ (toN i) (toN wt))) = ((flS (toN i) true false 0 μ 0 (nI 0)).2.2.2.1) by first | exact an_yes (by simp [fo, rg, ns, c6, hn9, ofS, o1, c34]; done) (by first | (unfold v_flood; rw [if_pos c68, hbl]; done) | (unfold v_flood; rw [if_neg c68, hbl]; done) | (unfold v_flood; rw [if_pos c79, hbl]; done) | (unfold v_flood; rw [if_neg c79, hbl]; done)) | exact an_no (k := 0) (by first | (simp [fo, rg, ns, c6, hn9, ofS, o1, c6, c20, c34, c52, c68]; done) | (first | rfl | (simp [fo, rg, ns, nB, ps, gst, ofS, offB, c6, c20, c34, c52, c68]; done) | (simp [fo, rg, ns, nB, ps, gst, ofS, offB, c6, c20, c34, c52, c68]; omega))) (by first | decide | omega | assumption | exact nb1 (by assumption)) | fail)) (by exact ⟨(by first | exact tk_eq (k := 0) (by first | (simp [fo, rg, ns, c6, hn9, ofS, o1, c6, c20, c34, c52, c68]; done) | (first | rfl | (simp [fo, rg, ns, nB, ps, gst, ofS, offB, c6, c20, c34, c52, c68]; done) | (simp [fo, rg, ns, nB, ps, gst, ofS, offB, c6, c20, c34, c52, c68]; omega))) ht4000_σ_6 | exact tk_eq (k := 0) (by simp [fo, rg, ns, c6, hn9, ofS, o1, c34]; done) ht4000_σ_6 | fail), (by exact hcFR_σ_6)⟩)
      ·
        refine g_aload_n h dX12_flood_37 0 rfl ?_
        refine g_iconst h dX12_flood_38 (by decide) ?_
        refine g_cvi (rest := []) h (r_refuse hW (nI 4) ) lX12_refuse mX12_272 (Nat.lt_of_lt_of_le (by decide) (Nat.le_refl _)) (by decide) sc_0 rfl rfl rfl rfl dX12_flood_39 (fun σ_7 eσ_7 => ?_)
        have eσ_7_a : σ_7 = upd σ 4000 (nI 4) := eσ_7
        have ht4000_σ_7 : σ_7 4000 = (nI 4) := by rw [eσ_7_a]; exact upd_eq
        have hcFR_σ_7 : ∀ a, ((a < 4900 ∨ 6000 ≤ a) ∧ a ≠ 4000) → σ_7 a = σ a := by intro a ha; exact Eq.trans (b := σ a) (by rw [eσ_7_a, upd_ne (by first | omega | (simp only [vb] at *; omega))]) (hcFR_σ a ha)
        have hvσ_7 : vw 0 σ_7 = μ := by rw [eσ_7_a, vw_out (by omega)]; first | exact hv | assumption
        exact g_iret h hQ dX12_flood_42 (congrArg (fun z => some (Value.int z)) (show (an (fo (fo (rg wt (nI 0) (nI 3)) (ns μ i)) (ofS μ i)) (v_flood μ (toN i) (toN wt))) = (-1) by first | exact an_yes (by simp [fo, rg, ns, c6, hn9, ofS, o1, c34]; done) (by first | (unfold v_flood; rw [if_pos c68, hbl]; done) | (unfold v_flood; rw [if_neg c68, hbl]; done) | (unfold v_flood; rw [if_pos c79, hbl]; done) | (unfold v_flood; rw [if_neg c79, hbl]; done)) | exact an_no (k := 4) (by first | (simp [fo, rg, ns, c6, hn9, ofS, o1, c6, c20, c34]; done) | (first | rfl | (simp [fo, rg, ns, nB, ps, gst, ofS, offB, c6, c20, c34]; done) | (simp [fo, rg, ns, nB, ps, gst, ofS, offB, c6, c20, c34]; omega))) (by first | decide | omega | assumption | exact nb1 (by assumption)) | fail)) (by exact ⟨(by first | exact tk_eq (k := 4) (by first | (simp [fo, rg, ns, c6, hn9, ofS, o1, c6, c20, c34]; done) | (first | rfl | (simp [fo, rg, ns, nB, ps, gst, ofS, offB, c6, c20, c34]; done) | (simp [fo, rg, ns, nB, ps, gst, ofS, offB, c6, c20, c34]; omega))) ht4000_σ_7 | exact tk_eq (k := 4) (by simp [fo, rg, ns, c6, hn9, ofS, o1, c34]; done) ht4000_σ_7 | fail), (by exact hcFR_σ_7)⟩)
    ·
      refine g_aload_n h dX12_flood_23 0 rfl ?_
      refine g_iconst h dX12_flood_24 (by decide) ?_
      refine g_cvi (rest := []) h (r_refuse hW (nI 2) ) lX12_refuse mX12_272 (Nat.lt_of_lt_of_le (by decide) (Nat.le_refl _)) (by decide) sc_0 rfl rfl rfl rfl dX12_flood_25 (fun σ_8 eσ_8 => ?_)
      have eσ_8_a : σ_8 = upd σ 4000 (nI 2) := eσ_8
      have ht4000_σ_8 : σ_8 4000 = (nI 2) := by rw [eσ_8_a]; exact upd_eq
      have hcFR_σ_8 : ∀ a, ((a < 4900 ∨ 6000 ≤ a) ∧ a ≠ 4000) → σ_8 a = σ a := by intro a ha; exact Eq.trans (b := σ a) (by rw [eσ_8_a, upd_ne (by first | omega | (simp only [vb] at *; omega))]) (hcFR_σ a ha)
      have hvσ_8 : vw 0 σ_8 = μ := by rw [eσ_8_a, vw_out (by omega)]; first | exact hv | assumption
      exact g_iret h hQ dX12_flood_28 (congrArg (fun z => some (Value.int z)) (show (an (fo (fo (rg wt (nI 0) (nI 3)) (ns μ i)) (ofS μ i)) (v_flood μ (toN i) (toN wt))) = (-1) by first | exact an_yes (by simp [fo, rg, ns, c6, hn9, ofS, o1, c34]; done) (by first | (unfold v_flood; rw [if_pos c68, hbl]; done) | (unfold v_flood; rw [if_neg c68, hbl]; done) | (unfold v_flood; rw [if_pos c79, hbl]; done) | (unfold v_flood; rw [if_neg c79, hbl]; done)) | exact an_no (k := 2) (by first | (simp [fo, rg, ns, c6, hn9, ofS, o1, c6, c20]; done) | (first | rfl | (simp [fo, rg, ns, nB, ps, gst, ofS, offB, c6, c20]; done) | (simp [fo, rg, ns, nB, ps, gst, ofS, offB, c6, c20]; omega))) (by first | decide | omega | assumption | exact nb1 (by assumption)) | fail)) (by exact ⟨(by first | exact tk_eq (k := 2) (by first | (simp [fo, rg, ns, c6, hn9, ofS, o1, c6, c20]; done) | (first | rfl | (simp [fo, rg, ns, nB, ps, gst, ofS, offB, c6, c20]; done) | (simp [fo, rg, ns, nB, ps, gst, ofS, offB, c6, c20]; omega))) ht4000_σ_8 | exact tk_eq (k := 2) (by simp [fo, rg, ns, c6, hn9, ofS, o1, c34]; done) ht4000_σ_8 | fail), (by exact hcFR_σ_8)⟩)
  ·
    refine g_aload_n h dX12_flood_9 0 rfl ?_
    refine g_iconst h dX12_flood_10 (by decide) ?_
    refine g_cvi (rest := []) h (r_refuse hW (nI 1) ) lX12_refuse mX12_272 (Nat.lt_of_lt_of_le (by decide) (Nat.le_refl _)) (by decide) sc_0 rfl rfl rfl rfl dX12_flood_11 (fun σ_9 eσ_9 => ?_)
    have eσ_9_a : σ_9 = upd σ 4000 (nI 1) := eσ_9
    have ht4000_σ_9 : σ_9 4000 = (nI 1) := by rw [eσ_9_a]; exact upd_eq
    have hcFR_σ_9 : ∀ a, ((a < 4900 ∨ 6000 ≤ a) ∧ a ≠ 4000) → σ_9 a = σ a := by intro a ha; exact Eq.trans (b := σ a) (by rw [eσ_9_a, upd_ne (by first | omega | (simp only [vb] at *; omega))]) (hcFR_σ a ha)
    have hvσ_9 : vw 0 σ_9 = μ := by rw [eσ_9_a, vw_out (by omega)]; first | exact hv | assumption
    exact g_iret h hQ dX12_flood_14 (congrArg (fun z => some (Value.int z)) (show (an (fo (fo (rg wt (nI 0) (nI 3)) (ns μ i)) (ofS μ i)) (v_flood μ (toN i) (toN wt))) = (-1) by first | exact an_yes (by simp [fo, rg, ns, c6, hn9, ofS, o1, c34]; done) (by first | (unfold v_flood; rw [if_pos c68, hbl]; done) | (unfold v_flood; rw [if_neg c68, hbl]; done) | (unfold v_flood; rw [if_pos c79, hbl]; done) | (unfold v_flood; rw [if_neg c79, hbl]; done)) | exact an_no (k := 1) (by first | (simp [fo, rg, ns, c6, hn9, ofS, o1, c6]; done) | (first | rfl | (simp [fo, rg, ns, nB, ps, gst, ofS, offB, c6]; done) | (simp [fo, rg, ns, nB, ps, gst, ofS, offB, c6]; omega))) (by first | decide | omega | assumption | exact nb1 (by assumption)) | fail)) (by exact ⟨(by first | exact tk_eq (k := 1) (by first | (simp [fo, rg, ns, c6, hn9, ofS, o1, c6]; done) | (first | rfl | (simp [fo, rg, ns, nB, ps, gst, ofS, offB, c6]; done) | (simp [fo, rg, ns, nB, ps, gst, ofS, offB, c6]; omega))) ht4000_σ_9 | exact tk_eq (k := 1) (by simp [fo, rg, ns, c6, hn9, ofS, o1, c34]; done) ht4000_σ_9 | fail), (by exact hcFR_σ_9)⟩)

set_option maxRecDepth 100000 in
set_option maxHeartbeats 4000000 in
theorem p_flood {l : Launch} {w : Wd} (hW : Wi w) {σ : Mem} (i : Int32) (wt : Int32)  (μ : Nat → Int32) (hv : vw (vb 0) σ = μ) (hI : MI μ) : MC l w qX11_flood 4 [.ref (w.1 12), .int i, .int wt] σ (some (.int (an (fo (fo (rg wt (nI 0) (nI 3)) (ns μ i)) (ofS μ i)) (v_flood μ (toN i) (toN wt))))) (fun σ' => (σ' 14000 = (nI (fo (fo (rg wt (nI 0) (nI 3)) (ns μ i)) (ofS μ i)))) ∧ (∀ a, (a < 14900 ∧ a ≠ 14000 ∧ a ≠ 10010) → σ' a = σ a)) := by
  refine MC.of hW (by decide +kernel) (Nat.le_of_ble_eq_true rfl) (fun X h hQ hnm => ?_)
  have h : Fx X w cX11_flood 4 RX11 4 := h
  have hQ : Qx X w (some .int) (some (.int (an (fo (fo (rg wt (nI 0) (nI 3)) (ns μ i)) (ofS μ i)) (v_flood μ (toN i) (toN wt))))) (fun σ' => (σ' 14000 = (nI (fo (fo (rg wt (nI 0) (nI 3)) (ns μ i)) (ofS μ i)))) ∧ (∀ a, (a < 14900 ∧ a ≠ 14000 ∧ a ≠ 10010) → σ' a = σ a)) := hQ
  have hN8 := mi_8 hI
  have hcFR_σ : ∀ a, (a < 14900 ∧ a ≠ 14000 ∧ a ≠ 10010) → σ a = σ a := fun _ _ => rfl
  show G X w 4 0 [(0, .ref (w.1 12)), (1, .int i), (2, .int wt)] [] σ
  refine g_aload_n h dX11_flood_0 0 rfl ?_
  refine g_iload_n h dX11_flood_1 1 rfl ?_
  refine g_cvpi (rest := []) h (c_isOff hW i μ (by first | exact hv | assumption | fail) (by assumption)) lX11_isOff mX11_302 (Nat.lt_of_lt_of_le (by decide) (Nat.le_refl _)) (by decide) sc_12 rfl rfl rfl rfl dX11_flood_2 ?_
  refine g_ifB_eq h dX11_flood_5 (fun c5 => ?_) (fun c5 => ?_)
  ·
    refine g_iconst h dX11_flood_12 (by decide) ?_
    refine g_istore_n (L' := [(0, .ref (w.1 12)), (1, .int i), (2, .int wt), (3, .int (nI 0))]) h dX11_flood_13 rfl (by decide) rfl ?_
    refine g_aload_n h dX11_flood_14 0 rfl ?_
    refine g_iload_n h dX11_flood_15 2 rfl ?_
    refine g_iconst h dX11_flood_16 (by decide) ?_
    refine g_iconst h dX11_flood_17 (by decide) ?_
    refine g_cspi (rest := [.ref (w.1 12)]) h (c_rg hW wt (nI 0) (nI 3) ) lX11_rangeStatus mX11_102 (Nat.lt_of_lt_of_le (by decide) (Nat.le_refl _)) (by decide) rfl rfl rfl dX11_flood_18 ?_
    refine g_aload_n h dX11_flood_21 0 rfl ?_
    refine g_iload_n h dX11_flood_22 1 rfl ?_
    refine g_cvpi (rest := [.int (nI (rg wt (nI 0) (nI 3))), .ref (w.1 12)]) h (c_ns hW i μ (by first | exact hv | assumption | fail)) lX11_nodeStatus mX11_159 (Nat.lt_of_lt_of_le (by decide) (Nat.le_refl _)) (by decide) sc_12 rfl rfl rfl rfl dX11_flood_23 ?_
    refine g_cspi (rest := [.ref (w.1 12)]) h (c_fo hW (rg wt (nI 0) (nI 3)) (ns μ i) (by repeat (first | omega | exact rg_lt | exact ns_lt | exact ps_lt | exact gst_lt | exact ofS_lt | exact if_lt (by decide) (by decide) | apply fo_lt)) (by repeat (first | omega | exact rg_lt | exact ns_lt | exact ps_lt | exact gst_lt | exact ofS_lt | exact if_lt (by decide) (by decide) | apply fo_lt))) lX11_firstOf mX11_163 (Nat.lt_of_lt_of_le (by decide) (Nat.le_refl _)) (by decide) rfl rfl rfl dX11_flood_26 ?_
    refine g_iload_n h dX11_flood_29 3 rfl ?_
    refine g_cspi (rest := [.ref (w.1 12)]) h (c_fo hW (fo (rg wt (nI 0) (nI 3)) (ns μ i)) 0 (by repeat (first | omega | exact rg_lt | exact ns_lt | exact ps_lt | exact gst_lt | exact ofS_lt | exact if_lt (by decide) (by decide) | apply fo_lt)) (by repeat (first | omega | exact rg_lt | exact ns_lt | exact ps_lt | exact gst_lt | exact ofS_lt | exact if_lt (by decide) (by decide) | apply fo_lt))) lX11_firstOf mX11_163 (Nat.lt_of_lt_of_le (by decide) (Nat.le_refl _)) (by decide) rfl rfl rfl dX11_flood_30 ?_
    refine g_cvi (rest := []) h (c_fails hW (fo (fo (rg wt (nI 0) (nI 3)) (ns μ i)) 0) (by repeat (first | omega | exact rg_lt | exact ns_lt | exact ps_lt | exact gst_lt | exact ofS_lt | exact if_lt (by decide) (by decide) | apply fo_lt))) lX11_fails mX11_106 (Nat.lt_of_lt_of_le (by decide) (Nat.le_refl _)) (by decide) sc_12 rfl rfl rfl rfl dX11_flood_33 (fun σ_1 eσ_1 => ?_)
    obtain ⟨eσ_1_a, eσ_1_b⟩ := eσ_1
    have eσ_1_a : σ_1 14000 = (nI (fo (fo (rg wt (nI 0) (nI 3)) (ns μ i)) 0)) := eσ_1_a
    have eσ_1_b : ∀ a, (a ≠ 14000) → σ_1 a = σ a := eσ_1_b
    have ht14000_σ_1 : σ_1 14000 = (nI (fo (fo (rg wt (nI 0) (nI 3)) (ns μ i)) 0)) := eσ_1_a
    have hcFR_σ_1 : ∀ a, (a < 14900 ∧ a ≠ 14000 ∧ a ≠ 10010) → σ_1 a = σ a := by intro a ha; exact Eq.trans (b := σ a) (eσ_1_b a (by first | omega | (simp only [vb] at *; omega))) (hcFR_σ a ha)
    have hvσ_1 : vw (vb 0) σ_1 = μ := by rw [vw_fr (σ := σ) (fun j _ _ => eσ_1_b _ (by first | omega | (simp only [vb] at *; omega)))]; first | exact hv | assumption
    refine g_ifB_eq h dX11_flood_36 (fun c36 => ?_) (fun c36 => ?_)
    ·
      have hS0 : fo (fo (rg wt (nI 0) (nI 3)) (ns μ i)) (ofS μ i) = 0 := by first | (have q := nb0 c36; unfold ofS; simpa [c5, c36] using q) | exact nb0 c36
      obtain ⟨hs3, hs4⟩ := fo_0 hS0
      obtain ⟨hs1, hs2⟩ := fo_0 hs3
      obtain ⟨ew, hw9⟩ := rg_N (by decide) hs1
      obtain ⟨ei, hi9⟩ := nB_N hI (ns_0 hs2)
      have hon9 : tb (μ 1) (toN i) = true := by have q := off_in (ns_0 hs2); unfold ofS at hs4; rw [q] at hs4; cases e9 : tb (μ 1) (toN i) with | true => rfl | false => (rw [e9] at hs4; cases hs4)
      rw [ei, ew]
      show G X w 4 41 [(0, .ref (w.1 12)), (1, .int (nI (toN i))), (2, .int (nI (toN wt))), (3, .int (nI 0))] [] σ_1
      refine g_aload_n h dX11_flood_41 0 rfl ?_
      refine g_getr h dX11_flood_42 gX11_79 sc_12 rfl ?_
      refine g_iconst h dX11_flood_45 (by decide) ?_
      refine g_iconst h dX11_flood_46 (by decide) ?_
      refine g_cvv (rest := []) h (c_begin hW 0 0 (by omega) (by omega)) lX4_begin mX11_349 (Nat.lt_of_lt_of_le (by decide) (Nat.le_refl _)) (by decide) sc_30 rfl rfl rfl rfl dX11_flood_47 (fun σ_2 eσ_2 => ?_)
      obtain ⟨eσ_2_a, eσ_2_b⟩ := eσ_2
      have eσ_2_a : CL σ_2 0 0 (nI 0) := eσ_2_a
      have eσ_2_b : ∀ a, (a < 14900 ∨ 14903 ≤ a) → σ_2 a = σ_1 a := eσ_2_b
      have ht14000_σ_2 : σ_2 14000 = (nI (fo (fo (rg wt (nI 0) (nI 3)) (ns μ i)) 0)) := by rw [eσ_2_b _ (by first | omega | (simp only [vb] at *; omega))]; first | exact ht14000_σ_1 | assumption
      have hcFR_σ_2 : ∀ a, (a < 14900 ∧ a ≠ 14000 ∧ a ≠ 10010) → σ_2 a = σ a := by intro a ha; exact Eq.trans (b := σ_1 a) (eσ_2_b a (by first | omega | (simp only [vb] at *; omega))) (hcFR_σ_1 a ha)
      have hcCL_σ_2 : CL σ_2 0 0 (nI 0) := eσ_2_a
      have hvσ_2 : vw (vb 0) σ_2 = μ := by rw [vw_fr (σ := σ_1) (fun j _ _ => eσ_2_b _ (by first | omega | (simp only [vb] at *; omega)))]; first | exact hvσ_1 | assumption
      refine g_aload_n h dX11_flood_50 0 rfl ?_
      refine g_getr h dX11_flood_51 gX11_72 sc_12 rfl ?_
      refine g_aload_n h dX11_flood_54 0 rfl ?_
      refine g_getr h dX11_flood_55 gX11_23 sc_12 rfl ?_
      refine g_iload_n h dX11_flood_58 1 rfl ?_
      refine g_iload_n h dX11_flood_59 2 rfl ?_
      refine g_iconst h dX11_flood_60 (by decide) ?_
      refine g_icmpN_ge h dX11_flood_61 (by omega) (by omega) (fun c61 => ?_) (fun c61 => ?_)
      ·
        have hbl : decide (1 < toN wt) = decide (2 = 2) := by rw [decide_eq_true (show 1 < toN wt by omega)]; rfl
        refine g_iconst h dX11_flood_68 (by decide) ?_
        refine g_aload_n h dX11_flood_69 0 rfl ?_
        refine g_getr h dX11_flood_70 gX11_79 sc_12 rfl ?_
        refine g_cvv (rest := []) h (c_floodQ hW (toN i) 2 μ (by first | exact hvσ_2 | assumption | fail) (by assumption) (by omega) (by exact hon9) (by omega) (by exact hcCL_σ_2)) lX1_send mX11_353 (Nat.lt_of_lt_of_le (by decide) (Nat.le_refl _)) (by decide) sc_28 rfl rfl rfl rfl dX11_flood_73 (fun σ_3 eσ_3 => ?_)
        obtain ⟨eσ_3_a, eσ_3_b, eσ_3_c⟩ := eσ_3
        have eσ_3_a : σ_3 15040 = ((flS (toN i) (decide (2 = 2)) false 0 μ 0 (nI 0)).2.2.2.1) := eσ_3_a
        have eσ_3_b : σ_3 15041 = (nI ((flS (toN i) (decide (2 = 2)) false 0 μ 0 (nI 0)).2.1)) := eσ_3_b
        have eσ_3_c : ∀ a, (a ≠ 10010 ∧ (a < 14900 ∨ 14903 ≤ a) ∧ (a < 15040 ∨ 15044 ≤ a) ∧ (a < 15140 ∨ 15148 ≤ a)) → σ_3 a = σ_2 a := eσ_3_c
        have ht14000_σ_3 : σ_3 14000 = (nI (fo (fo (rg wt (nI 0) (nI 3)) (ns μ i)) 0)) := by rw [eσ_3_c _ (by first | omega | (simp only [vb] at *; omega))]; first | exact ht14000_σ_2 | assumption
        have ht15040_σ_3 : σ_3 15040 = ((flS (toN i) (decide (2 = 2)) false 0 μ 0 (nI 0)).2.2.2.1) := eσ_3_a
        have ht15041_σ_3 : σ_3 15041 = (nI ((flS (toN i) (decide (2 = 2)) false 0 μ 0 (nI 0)).2.1)) := eσ_3_b
        have hcFR_σ_3 : ∀ a, (a < 14900 ∧ a ≠ 14000 ∧ a ≠ 10010) → σ_3 a = σ a := by intro a ha; exact Eq.trans (b := σ_2 a) (eσ_3_c a (by first | omega | (simp only [vb] at *; omega))) (hcFR_σ_2 a ha)
        have hvσ_3 : vw (vb 0) σ_3 = μ := by rw [vw_fr (σ := σ_2) (fun j _ _ => eσ_3_c _ (by first | omega | (simp only [vb] at *; omega)))]; first | exact hvσ_2 | assumption
        refine g_iload_n h dX11_flood_76 2 rfl ?_
        refine g_iconst h dX11_flood_77 (by decide) ?_
        refine g_iremN h dX11_flood_78 (by omega) (by omega) (by omega) ?_
        refine g_ifN_ne h dX11_flood_79 (by omega) (fun c79 => ?_) (fun c79 => ?_)
        ·
          refine g_aload_n h dX11_flood_92 0 rfl ?_
          refine g_getr h dX11_flood_93 gX11_72 sc_12 rfl ?_
          refine g_geti h dX11_flood_96 gX11_360 sc_28 rfl ?_
          refine g_top (y := (nI ((flS (toN i) (decide (2 = 2)) false 0 μ 0 (nI 0)).2.1))) (by first | exact ht15041_σ_3 | assumption) ?_
          exact g_iret h hQ dX11_flood_99 (congrArg (fun z => some (Value.int z)) (show (an (fo (fo (rg wt (nI 0) (nI 3)) (ns μ i)) (ofS μ i)) (v_flood μ (toN i) (toN wt))) = (nI ((flS (toN i) (decide (2 = 2)) false 0 μ 0 (nI 0)).2.1)) by first | exact an_yes (by exact hS0) (by first | (unfold v_flood; rw [if_pos c68, hbl]; done) | (unfold v_flood; rw [if_neg c68, hbl]; done) | (unfold v_flood; rw [if_pos c79, hbl]; done) | (unfold v_flood; rw [if_neg c79, hbl]; done)) | exact an_no (k := (fo (fo (rg wt (nI 0) (nI 3)) (ns μ i)) 0)) (by first | exact hS0 | (simp [ofS, c5, c36, c61, c79]; done)) (by first | decide | omega | assumption | exact nb1 (by assumption)) | fail)) (by exact ⟨(by first | exact tk_eq (k := (fo (fo (rg wt (nI 0) (nI 3)) (ns μ i)) 0)) (by first | exact hS0 | (simp [ofS, c5, c36, c61, c79]; done)) ht14000_σ_3 | exact tk_eq (k := (fo (fo (rg wt (nI 0) (nI 3)) (ns μ i)) 0)) (by exact hS0) ht14000_σ_3 | fail), (by exact hcFR_σ_3)⟩)
        ·
          refine g_aload_n h dX11_flood_82 0 rfl ?_
          refine g_getr h dX11_flood_83 gX11_72 sc_12 rfl ?_
          refine g_geti h dX11_flood_86 gX11_357 sc_28 rfl ?_
          refine g_top (y := ((flS (toN i) (decide (2 = 2)) false 0 μ 0 (nI 0)).2.2.2.1)) (by first | exact ht15040_σ_3 | assumption) ?_
          refine g_goto h dX11_flood_89 ?_
          exact g_iret h hQ dX11_flood_99 (congrArg (fun z => some (Value.int z)) (show (an (fo (fo (rg wt (nI 0) (nI 3)) (ns μ i)) (ofS μ i)) (v_flood μ (toN i) (toN wt))) = ((flS (toN i) (decide (2 = 2)) false 0 μ 0 (nI 0)).2.2.2.1) by first | exact an_yes (by exact hS0) (by first | (unfold v_flood; rw [if_pos c68, hbl]; done) | (unfold v_flood; rw [if_neg c68, hbl]; done) | (unfold v_flood; rw [if_pos c79, hbl]; done) | (unfold v_flood; rw [if_neg c79, hbl]; done)) | exact an_no (k := (fo (fo (rg wt (nI 0) (nI 3)) (ns μ i)) 0)) (by first | exact hS0 | (simp [ofS, c5, c36, c61, c79]; done)) (by first | decide | omega | assumption | exact nb1 (by assumption)) | fail)) (by exact ⟨(by first | exact tk_eq (k := (fo (fo (rg wt (nI 0) (nI 3)) (ns μ i)) 0)) (by first | exact hS0 | (simp [ofS, c5, c36, c61, c79]; done)) ht14000_σ_3 | exact tk_eq (k := (fo (fo (rg wt (nI 0) (nI 3)) (ns μ i)) 0)) (by exact hS0) ht14000_σ_3 | fail), (by exact hcFR_σ_3)⟩)
      ·
        have hbl : decide (1 < toN wt) = decide (1 = 2) := by rw [decide_eq_false (show ¬ 1 < toN wt by omega)]; rfl
        refine g_iconst h dX11_flood_64 (by decide) ?_
        refine g_goto h dX11_flood_65 ?_
        refine g_aload_n h dX11_flood_69 0 rfl ?_
        refine g_getr h dX11_flood_70 gX11_79 sc_12 rfl ?_
        refine g_cvv (rest := []) h (c_floodQ hW (toN i) 1 μ (by first | exact hvσ_2 | assumption | fail) (by assumption) (by omega) (by exact hon9) (by omega) (by exact hcCL_σ_2)) lX1_send mX11_353 (Nat.lt_of_lt_of_le (by decide) (Nat.le_refl _)) (by decide) sc_28 rfl rfl rfl rfl dX11_flood_73 (fun σ_4 eσ_4 => ?_)
        obtain ⟨eσ_4_a, eσ_4_b, eσ_4_c⟩ := eσ_4
        have eσ_4_a : σ_4 15040 = ((flS (toN i) (decide (1 = 2)) false 0 μ 0 (nI 0)).2.2.2.1) := eσ_4_a
        have eσ_4_b : σ_4 15041 = (nI ((flS (toN i) (decide (1 = 2)) false 0 μ 0 (nI 0)).2.1)) := eσ_4_b
        have eσ_4_c : ∀ a, (a ≠ 10010 ∧ (a < 14900 ∨ 14903 ≤ a) ∧ (a < 15040 ∨ 15044 ≤ a) ∧ (a < 15140 ∨ 15148 ≤ a)) → σ_4 a = σ_2 a := eσ_4_c
        have ht14000_σ_4 : σ_4 14000 = (nI (fo (fo (rg wt (nI 0) (nI 3)) (ns μ i)) 0)) := by rw [eσ_4_c _ (by first | omega | (simp only [vb] at *; omega))]; first | exact ht14000_σ_2 | assumption
        have ht15040_σ_4 : σ_4 15040 = ((flS (toN i) (decide (1 = 2)) false 0 μ 0 (nI 0)).2.2.2.1) := eσ_4_a
        have ht15041_σ_4 : σ_4 15041 = (nI ((flS (toN i) (decide (1 = 2)) false 0 μ 0 (nI 0)).2.1)) := eσ_4_b
        have hcFR_σ_4 : ∀ a, (a < 14900 ∧ a ≠ 14000 ∧ a ≠ 10010) → σ_4 a = σ a := by intro a ha; exact Eq.trans (b := σ_2 a) (eσ_4_c a (by first | omega | (simp only [vb] at *; omega))) (hcFR_σ_2 a ha)
        have hvσ_4 : vw (vb 0) σ_4 = μ := by rw [vw_fr (σ := σ_2) (fun j _ _ => eσ_4_c _ (by first | omega | (simp only [vb] at *; omega)))]; first | exact hvσ_2 | assumption
        refine g_iload_n h dX11_flood_76 2 rfl ?_
        refine g_iconst h dX11_flood_77 (by decide) ?_
        refine g_iremN h dX11_flood_78 (by omega) (by omega) (by omega) ?_
        refine g_ifN_ne h dX11_flood_79 (by omega) (fun c79 => ?_) (fun c79 => ?_)
        ·
          refine g_aload_n h dX11_flood_92 0 rfl ?_
          refine g_getr h dX11_flood_93 gX11_72 sc_12 rfl ?_
          refine g_geti h dX11_flood_96 gX11_360 sc_28 rfl ?_
          refine g_top (y := (nI ((flS (toN i) (decide (1 = 2)) false 0 μ 0 (nI 0)).2.1))) (by first | exact ht15041_σ_4 | assumption) ?_
          exact g_iret h hQ dX11_flood_99 (congrArg (fun z => some (Value.int z)) (show (an (fo (fo (rg wt (nI 0) (nI 3)) (ns μ i)) (ofS μ i)) (v_flood μ (toN i) (toN wt))) = (nI ((flS (toN i) (decide (1 = 2)) false 0 μ 0 (nI 0)).2.1)) by first | exact an_yes (by exact hS0) (by first | (unfold v_flood; rw [if_pos c68, hbl]; done) | (unfold v_flood; rw [if_neg c68, hbl]; done) | (unfold v_flood; rw [if_pos c79, hbl]; done) | (unfold v_flood; rw [if_neg c79, hbl]; done)) | exact an_no (k := (fo (fo (rg wt (nI 0) (nI 3)) (ns μ i)) 0)) (by first | exact hS0 | (simp [ofS, c5, c36, c61, c79]; done)) (by first | decide | omega | assumption | exact nb1 (by assumption)) | fail)) (by exact ⟨(by first | exact tk_eq (k := (fo (fo (rg wt (nI 0) (nI 3)) (ns μ i)) 0)) (by first | exact hS0 | (simp [ofS, c5, c36, c61, c79]; done)) ht14000_σ_4 | exact tk_eq (k := (fo (fo (rg wt (nI 0) (nI 3)) (ns μ i)) 0)) (by exact hS0) ht14000_σ_4 | fail), (by exact hcFR_σ_4)⟩)
        ·
          refine g_aload_n h dX11_flood_82 0 rfl ?_
          refine g_getr h dX11_flood_83 gX11_72 sc_12 rfl ?_
          refine g_geti h dX11_flood_86 gX11_357 sc_28 rfl ?_
          refine g_top (y := ((flS (toN i) (decide (1 = 2)) false 0 μ 0 (nI 0)).2.2.2.1)) (by first | exact ht15040_σ_4 | assumption) ?_
          refine g_goto h dX11_flood_89 ?_
          exact g_iret h hQ dX11_flood_99 (congrArg (fun z => some (Value.int z)) (show (an (fo (fo (rg wt (nI 0) (nI 3)) (ns μ i)) (ofS μ i)) (v_flood μ (toN i) (toN wt))) = ((flS (toN i) (decide (1 = 2)) false 0 μ 0 (nI 0)).2.2.2.1) by first | exact an_yes (by exact hS0) (by first | (unfold v_flood; rw [if_pos c68, hbl]; done) | (unfold v_flood; rw [if_neg c68, hbl]; done) | (unfold v_flood; rw [if_pos c79, hbl]; done) | (unfold v_flood; rw [if_neg c79, hbl]; done)) | exact an_no (k := (fo (fo (rg wt (nI 0) (nI 3)) (ns μ i)) 0)) (by first | exact hS0 | (simp [ofS, c5, c36, c61, c79]; done)) (by first | decide | omega | assumption | exact nb1 (by assumption)) | fail)) (by exact ⟨(by first | exact tk_eq (k := (fo (fo (rg wt (nI 0) (nI 3)) (ns μ i)) 0)) (by first | exact hS0 | (simp [ofS, c5, c36, c61, c79]; done)) ht14000_σ_4 | exact tk_eq (k := (fo (fo (rg wt (nI 0) (nI 3)) (ns μ i)) 0)) (by exact hS0) ht14000_σ_4 | fail), (by exact hcFR_σ_4)⟩)
    ·
      refine g_iconstv h dX11_flood_39 (v := (-1)) (by decide) ?_
      exact g_iret h hQ dX11_flood_40 (congrArg (fun z => some (Value.int z)) (show (an (fo (fo (rg wt (nI 0) (nI 3)) (ns μ i)) (ofS μ i)) (v_flood μ (toN i) (toN wt))) = (-1) by first | exact an_yes (by exact hS0) (by first | (unfold v_flood; rw [if_pos c68, hbl]; done) | (unfold v_flood; rw [if_neg c68, hbl]; done) | (unfold v_flood; rw [if_pos c79, hbl]; done) | (unfold v_flood; rw [if_neg c79, hbl]; done)) | exact an_no (k := (fo (fo (rg wt (nI 0) (nI 3)) (ns μ i)) 0)) (by first | exact hS0 | (simp [ofS, c5, c36]; done)) (by first | decide | omega | assumption | exact nb1 (by assumption)) | fail)) (by exact ⟨(by first | exact tk_eq (k := (fo (fo (rg wt (nI 0) (nI 3)) (ns μ i)) 0)) (by first | exact hS0 | (simp [ofS, c5, c36]; done)) ht14000_σ_1 | exact tk_eq (k := (fo (fo (rg wt (nI 0) (nI 3)) (ns μ i)) 0)) (by exact hS0) ht14000_σ_1 | fail), (by exact hcFR_σ_1)⟩)
  ·
    refine g_iconst h dX11_flood_8 (by decide) ?_
    refine g_goto h dX11_flood_9 ?_
    refine g_istore_n (L' := [(0, .ref (w.1 12)), (1, .int i), (2, .int wt), (3, .int (nI 4))]) h dX11_flood_13 rfl (by decide) rfl ?_
    refine g_aload_n h dX11_flood_14 0 rfl ?_
    refine g_iload_n h dX11_flood_15 2 rfl ?_
    refine g_iconst h dX11_flood_16 (by decide) ?_
    refine g_iconst h dX11_flood_17 (by decide) ?_
    refine g_cspi (rest := [.ref (w.1 12)]) h (c_rg hW wt (nI 0) (nI 3) ) lX11_rangeStatus mX11_102 (Nat.lt_of_lt_of_le (by decide) (Nat.le_refl _)) (by decide) rfl rfl rfl dX11_flood_18 ?_
    refine g_aload_n h dX11_flood_21 0 rfl ?_
    refine g_iload_n h dX11_flood_22 1 rfl ?_
    refine g_cvpi (rest := [.int (nI (rg wt (nI 0) (nI 3))), .ref (w.1 12)]) h (c_ns hW i μ (by first | exact hv | assumption | fail)) lX11_nodeStatus mX11_159 (Nat.lt_of_lt_of_le (by decide) (Nat.le_refl _)) (by decide) sc_12 rfl rfl rfl rfl dX11_flood_23 ?_
    refine g_cspi (rest := [.ref (w.1 12)]) h (c_fo hW (rg wt (nI 0) (nI 3)) (ns μ i) (by repeat (first | omega | exact rg_lt | exact ns_lt | exact ps_lt | exact gst_lt | exact ofS_lt | exact if_lt (by decide) (by decide) | apply fo_lt)) (by repeat (first | omega | exact rg_lt | exact ns_lt | exact ps_lt | exact gst_lt | exact ofS_lt | exact if_lt (by decide) (by decide) | apply fo_lt))) lX11_firstOf mX11_163 (Nat.lt_of_lt_of_le (by decide) (Nat.le_refl _)) (by decide) rfl rfl rfl dX11_flood_26 ?_
    refine g_iload_n h dX11_flood_29 3 rfl ?_
    refine g_cspi (rest := [.ref (w.1 12)]) h (c_fo hW (fo (rg wt (nI 0) (nI 3)) (ns μ i)) 4 (by repeat (first | omega | exact rg_lt | exact ns_lt | exact ps_lt | exact gst_lt | exact ofS_lt | exact if_lt (by decide) (by decide) | apply fo_lt)) (by repeat (first | omega | exact rg_lt | exact ns_lt | exact ps_lt | exact gst_lt | exact ofS_lt | exact if_lt (by decide) (by decide) | apply fo_lt))) lX11_firstOf mX11_163 (Nat.lt_of_lt_of_le (by decide) (Nat.le_refl _)) (by decide) rfl rfl rfl dX11_flood_30 ?_
    refine g_cvi (rest := []) h (c_fails hW (fo (fo (rg wt (nI 0) (nI 3)) (ns μ i)) 4) (by repeat (first | omega | exact rg_lt | exact ns_lt | exact ps_lt | exact gst_lt | exact ofS_lt | exact if_lt (by decide) (by decide) | apply fo_lt))) lX11_fails mX11_106 (Nat.lt_of_lt_of_le (by decide) (Nat.le_refl _)) (by decide) sc_12 rfl rfl rfl rfl dX11_flood_33 (fun σ_5 eσ_5 => ?_)
    obtain ⟨eσ_5_a, eσ_5_b⟩ := eσ_5
    have eσ_5_a : σ_5 14000 = (nI (fo (fo (rg wt (nI 0) (nI 3)) (ns μ i)) 4)) := eσ_5_a
    have eσ_5_b : ∀ a, (a ≠ 14000) → σ_5 a = σ a := eσ_5_b
    have ht14000_σ_5 : σ_5 14000 = (nI (fo (fo (rg wt (nI 0) (nI 3)) (ns μ i)) 4)) := eσ_5_a
    have hcFR_σ_5 : ∀ a, (a < 14900 ∧ a ≠ 14000 ∧ a ≠ 10010) → σ_5 a = σ a := by intro a ha; exact Eq.trans (b := σ a) (eσ_5_b a (by first | omega | (simp only [vb] at *; omega))) (hcFR_σ a ha)
    have hvσ_5 : vw (vb 0) σ_5 = μ := by rw [vw_fr (σ := σ) (fun j _ _ => eσ_5_b _ (by first | omega | (simp only [vb] at *; omega)))]; first | exact hv | assumption
    refine g_ifB_eq h dX11_flood_36 (fun c36 => ?_) (fun c36 => ?_)
    ·
      have hS0 : fo (fo (rg wt (nI 0) (nI 3)) (ns μ i)) (ofS μ i) = 0 := by first | (have q := nb0 c36; unfold ofS; simpa [c5, c36] using q) | exact nb0 c36
      obtain ⟨hs3, hs4⟩ := fo_0 hS0
      obtain ⟨hs1, hs2⟩ := fo_0 hs3
      obtain ⟨ew, hw9⟩ := rg_N (by decide) hs1
      obtain ⟨ei, hi9⟩ := nB_N hI (ns_0 hs2)
      have hon9 : tb (μ 1) (toN i) = true := by have q := off_in (ns_0 hs2); unfold ofS at hs4; rw [q] at hs4; cases e9 : tb (μ 1) (toN i) with | true => rfl | false => (rw [e9] at hs4; cases hs4)
      rw [ei, ew]
      show G X w 4 41 [(0, .ref (w.1 12)), (1, .int (nI (toN i))), (2, .int (nI (toN wt))), (3, .int (nI 4))] [] σ_5
      refine g_aload_n h dX11_flood_41 0 rfl ?_
      refine g_getr h dX11_flood_42 gX11_79 sc_12 rfl ?_
      refine g_iconst h dX11_flood_45 (by decide) ?_
      refine g_iconst h dX11_flood_46 (by decide) ?_
      refine g_cvv (rest := []) h (c_begin hW 0 0 (by omega) (by omega)) lX4_begin mX11_349 (Nat.lt_of_lt_of_le (by decide) (Nat.le_refl _)) (by decide) sc_30 rfl rfl rfl rfl dX11_flood_47 (fun σ_6 eσ_6 => ?_)
      obtain ⟨eσ_6_a, eσ_6_b⟩ := eσ_6
      have eσ_6_a : CL σ_6 0 0 (nI 0) := eσ_6_a
      have eσ_6_b : ∀ a, (a < 14900 ∨ 14903 ≤ a) → σ_6 a = σ_5 a := eσ_6_b
      have ht14000_σ_6 : σ_6 14000 = (nI (fo (fo (rg wt (nI 0) (nI 3)) (ns μ i)) 4)) := by rw [eσ_6_b _ (by first | omega | (simp only [vb] at *; omega))]; first | exact ht14000_σ_5 | assumption
      have hcFR_σ_6 : ∀ a, (a < 14900 ∧ a ≠ 14000 ∧ a ≠ 10010) → σ_6 a = σ a := by intro a ha; exact Eq.trans (b := σ_5 a) (eσ_6_b a (by first | omega | (simp only [vb] at *; omega))) (hcFR_σ_5 a ha)
      have hcCL_σ_6 : CL σ_6 0 0 (nI 0) := eσ_6_a
      have hvσ_6 : vw (vb 0) σ_6 = μ := by rw [vw_fr (σ := σ_5) (fun j _ _ => eσ_6_b _ (by first | omega | (simp only [vb] at *; omega)))]; first | exact hvσ_5 | assumption
      refine g_aload_n h dX11_flood_50 0 rfl ?_
      refine g_getr h dX11_flood_51 gX11_72 sc_12 rfl ?_
      refine g_aload_n h dX11_flood_54 0 rfl ?_
      refine g_getr h dX11_flood_55 gX11_23 sc_12 rfl ?_
      refine g_iload_n h dX11_flood_58 1 rfl ?_
      refine g_iload_n h dX11_flood_59 2 rfl ?_
      refine g_iconst h dX11_flood_60 (by decide) ?_
      refine g_icmpN_ge h dX11_flood_61 (by omega) (by omega) (fun c61 => ?_) (fun c61 => ?_)
      ·
        have hbl : decide (1 < toN wt) = decide (2 = 2) := by rw [decide_eq_true (show 1 < toN wt by omega)]; rfl
        refine g_iconst h dX11_flood_68 (by decide) ?_
        refine g_aload_n h dX11_flood_69 0 rfl ?_
        refine g_getr h dX11_flood_70 gX11_79 sc_12 rfl ?_
        refine g_cvv (rest := []) h (c_floodQ hW (toN i) 2 μ (by first | exact hvσ_6 | assumption | fail) (by assumption) (by omega) (by exact hon9) (by omega) (by exact hcCL_σ_6)) lX1_send mX11_353 (Nat.lt_of_lt_of_le (by decide) (Nat.le_refl _)) (by decide) sc_28 rfl rfl rfl rfl dX11_flood_73 (fun σ_7 eσ_7 => ?_)
        obtain ⟨eσ_7_a, eσ_7_b, eσ_7_c⟩ := eσ_7
        have eσ_7_a : σ_7 15040 = ((flS (toN i) (decide (2 = 2)) false 0 μ 0 (nI 0)).2.2.2.1) := eσ_7_a
        have eσ_7_b : σ_7 15041 = (nI ((flS (toN i) (decide (2 = 2)) false 0 μ 0 (nI 0)).2.1)) := eσ_7_b
        have eσ_7_c : ∀ a, (a ≠ 10010 ∧ (a < 14900 ∨ 14903 ≤ a) ∧ (a < 15040 ∨ 15044 ≤ a) ∧ (a < 15140 ∨ 15148 ≤ a)) → σ_7 a = σ_6 a := eσ_7_c
        have ht14000_σ_7 : σ_7 14000 = (nI (fo (fo (rg wt (nI 0) (nI 3)) (ns μ i)) 4)) := by rw [eσ_7_c _ (by first | omega | (simp only [vb] at *; omega))]; first | exact ht14000_σ_6 | assumption
        have ht15040_σ_7 : σ_7 15040 = ((flS (toN i) (decide (2 = 2)) false 0 μ 0 (nI 0)).2.2.2.1) := eσ_7_a
        have ht15041_σ_7 : σ_7 15041 = (nI ((flS (toN i) (decide (2 = 2)) false 0 μ 0 (nI 0)).2.1)) := eσ_7_b
        have hcFR_σ_7 : ∀ a, (a < 14900 ∧ a ≠ 14000 ∧ a ≠ 10010) → σ_7 a = σ a := by intro a ha; exact Eq.trans (b := σ_6 a) (eσ_7_c a (by first | omega | (simp only [vb] at *; omega))) (hcFR_σ_6 a ha)
        have hvσ_7 : vw (vb 0) σ_7 = μ := by rw [vw_fr (σ := σ_6) (fun j _ _ => eσ_7_c _ (by first | omega | (simp only [vb] at *; omega)))]; first | exact hvσ_6 | assumption
        refine g_iload_n h dX11_flood_76 2 rfl ?_
        refine g_iconst h dX11_flood_77 (by decide) ?_
        refine g_iremN h dX11_flood_78 (by omega) (by omega) (by omega) ?_
        refine g_ifN_ne h dX11_flood_79 (by omega) (fun c79 => ?_) (fun c79 => ?_)
        ·
          refine g_aload_n h dX11_flood_92 0 rfl ?_
          refine g_getr h dX11_flood_93 gX11_72 sc_12 rfl ?_
          refine g_geti h dX11_flood_96 gX11_360 sc_28 rfl ?_
          refine g_top (y := (nI ((flS (toN i) (decide (2 = 2)) false 0 μ 0 (nI 0)).2.1))) (by first | exact ht15041_σ_7 | assumption) ?_
          exact g_iret h hQ dX11_flood_99 (congrArg (fun z => some (Value.int z)) (show (an (fo (fo (rg wt (nI 0) (nI 3)) (ns μ i)) (ofS μ i)) (v_flood μ (toN i) (toN wt))) = (nI ((flS (toN i) (decide (2 = 2)) false 0 μ 0 (nI 0)).2.1)) by first | exact an_yes (by exact hS0) (by first | (unfold v_flood; rw [if_pos c68, hbl]; done) | (unfold v_flood; rw [if_neg c68, hbl]; done) | (unfold v_flood; rw [if_pos c79, hbl]; done) | (unfold v_flood; rw [if_neg c79, hbl]; done)) | exact an_no (k := (fo (fo (rg wt (nI 0) (nI 3)) (ns μ i)) 4)) (by first | exact hS0 | (simp [ofS, c5, c36, c61, c79]; done)) (by first | decide | omega | assumption | exact nb1 (by assumption)) | fail)) (by exact ⟨(by first | exact tk_eq (k := (fo (fo (rg wt (nI 0) (nI 3)) (ns μ i)) 4)) (by first | exact hS0 | (simp [ofS, c5, c36, c61, c79]; done)) ht14000_σ_7 | exact tk_eq (k := (fo (fo (rg wt (nI 0) (nI 3)) (ns μ i)) 4)) (by exact hS0) ht14000_σ_7 | fail), (by exact hcFR_σ_7)⟩)
        ·
          refine g_aload_n h dX11_flood_82 0 rfl ?_
          refine g_getr h dX11_flood_83 gX11_72 sc_12 rfl ?_
          refine g_geti h dX11_flood_86 gX11_357 sc_28 rfl ?_
          refine g_top (y := ((flS (toN i) (decide (2 = 2)) false 0 μ 0 (nI 0)).2.2.2.1)) (by first | exact ht15040_σ_7 | assumption) ?_
          refine g_goto h dX11_flood_89 ?_
          exact g_iret h hQ dX11_flood_99 (congrArg (fun z => some (Value.int z)) (show (an (fo (fo (rg wt (nI 0) (nI 3)) (ns μ i)) (ofS μ i)) (v_flood μ (toN i) (toN wt))) = ((flS (toN i) (decide (2 = 2)) false 0 μ 0 (nI 0)).2.2.2.1) by first | exact an_yes (by exact hS0) (by first | (unfold v_flood; rw [if_pos c68, hbl]; done) | (unfold v_flood; rw [if_neg c68, hbl]; done) | (unfold v_flood; rw [if_pos c79, hbl]; done) | (unfold v_flood; rw [if_neg c79, hbl]; done)) | exact an_no (k := (fo (fo (rg wt (nI 0) (nI 3)) (ns μ i)) 4)) (by first | exact hS0 | (simp [ofS, c5, c36, c61, c79]; done)) (by first | decide | omega | assumption | exact nb1 (by assumption)) | fail)) (by exact ⟨(by first | exact tk_eq (k := (fo (fo (rg wt (nI 0) (nI 3)) (ns μ i)) 4)) (by first | exact hS0 | (simp [ofS, c5, c36, c61, c79]; done)) ht14000_σ_7 | exact tk_eq (k := (fo (fo (rg wt (nI 0) (nI 3)) (ns μ i)) 4)) (by exact hS0) ht14000_σ_7 | fail), (by exact hcFR_σ_7)⟩)
      ·
        have hbl : decide (1 < toN wt) = decide (1 = 2) := by rw [decide_eq_false (show ¬ 1 < toN wt by omega)]; rfl
        refine g_iconst h dX11_flood_64 (by decide) ?_
        refine g_goto h dX11_flood_65 ?_
        refine g_aload_n h dX11_flood_69 0 rfl ?_
        refine g_getr h dX11_flood_70 gX11_79 sc_12 rfl ?_
        refine g_cvv (rest := []) h (c_floodQ hW (toN i) 1 μ (by first | exact hvσ_6 | assumption | fail) (by assumption) (by omega) (by exact hon9) (by omega) (by exact hcCL_σ_6)) lX1_send mX11_353 (Nat.lt_of_lt_of_le (by decide) (Nat.le_refl _)) (by decide) sc_28 rfl rfl rfl rfl dX11_flood_73 (fun σ_8 eσ_8 => ?_)
        obtain ⟨eσ_8_a, eσ_8_b, eσ_8_c⟩ := eσ_8
        have eσ_8_a : σ_8 15040 = ((flS (toN i) (decide (1 = 2)) false 0 μ 0 (nI 0)).2.2.2.1) := eσ_8_a
        have eσ_8_b : σ_8 15041 = (nI ((flS (toN i) (decide (1 = 2)) false 0 μ 0 (nI 0)).2.1)) := eσ_8_b
        have eσ_8_c : ∀ a, (a ≠ 10010 ∧ (a < 14900 ∨ 14903 ≤ a) ∧ (a < 15040 ∨ 15044 ≤ a) ∧ (a < 15140 ∨ 15148 ≤ a)) → σ_8 a = σ_6 a := eσ_8_c
        have ht14000_σ_8 : σ_8 14000 = (nI (fo (fo (rg wt (nI 0) (nI 3)) (ns μ i)) 4)) := by rw [eσ_8_c _ (by first | omega | (simp only [vb] at *; omega))]; first | exact ht14000_σ_6 | assumption
        have ht15040_σ_8 : σ_8 15040 = ((flS (toN i) (decide (1 = 2)) false 0 μ 0 (nI 0)).2.2.2.1) := eσ_8_a
        have ht15041_σ_8 : σ_8 15041 = (nI ((flS (toN i) (decide (1 = 2)) false 0 μ 0 (nI 0)).2.1)) := eσ_8_b
        have hcFR_σ_8 : ∀ a, (a < 14900 ∧ a ≠ 14000 ∧ a ≠ 10010) → σ_8 a = σ a := by intro a ha; exact Eq.trans (b := σ_6 a) (eσ_8_c a (by first | omega | (simp only [vb] at *; omega))) (hcFR_σ_6 a ha)
        have hvσ_8 : vw (vb 0) σ_8 = μ := by rw [vw_fr (σ := σ_6) (fun j _ _ => eσ_8_c _ (by first | omega | (simp only [vb] at *; omega)))]; first | exact hvσ_6 | assumption
        refine g_iload_n h dX11_flood_76 2 rfl ?_
        refine g_iconst h dX11_flood_77 (by decide) ?_
        refine g_iremN h dX11_flood_78 (by omega) (by omega) (by omega) ?_
        refine g_ifN_ne h dX11_flood_79 (by omega) (fun c79 => ?_) (fun c79 => ?_)
        ·
          refine g_aload_n h dX11_flood_92 0 rfl ?_
          refine g_getr h dX11_flood_93 gX11_72 sc_12 rfl ?_
          refine g_geti h dX11_flood_96 gX11_360 sc_28 rfl ?_
          refine g_top (y := (nI ((flS (toN i) (decide (1 = 2)) false 0 μ 0 (nI 0)).2.1))) (by first | exact ht15041_σ_8 | assumption) ?_
          exact g_iret h hQ dX11_flood_99 (congrArg (fun z => some (Value.int z)) (show (an (fo (fo (rg wt (nI 0) (nI 3)) (ns μ i)) (ofS μ i)) (v_flood μ (toN i) (toN wt))) = (nI ((flS (toN i) (decide (1 = 2)) false 0 μ 0 (nI 0)).2.1)) by first | exact an_yes (by exact hS0) (by first | (unfold v_flood; rw [if_pos c68, hbl]; done) | (unfold v_flood; rw [if_neg c68, hbl]; done) | (unfold v_flood; rw [if_pos c79, hbl]; done) | (unfold v_flood; rw [if_neg c79, hbl]; done)) | exact an_no (k := (fo (fo (rg wt (nI 0) (nI 3)) (ns μ i)) 4)) (by first | exact hS0 | (simp [ofS, c5, c36, c61, c79]; done)) (by first | decide | omega | assumption | exact nb1 (by assumption)) | fail)) (by exact ⟨(by first | exact tk_eq (k := (fo (fo (rg wt (nI 0) (nI 3)) (ns μ i)) 4)) (by first | exact hS0 | (simp [ofS, c5, c36, c61, c79]; done)) ht14000_σ_8 | exact tk_eq (k := (fo (fo (rg wt (nI 0) (nI 3)) (ns μ i)) 4)) (by exact hS0) ht14000_σ_8 | fail), (by exact hcFR_σ_8)⟩)
        ·
          refine g_aload_n h dX11_flood_82 0 rfl ?_
          refine g_getr h dX11_flood_83 gX11_72 sc_12 rfl ?_
          refine g_geti h dX11_flood_86 gX11_357 sc_28 rfl ?_
          refine g_top (y := ((flS (toN i) (decide (1 = 2)) false 0 μ 0 (nI 0)).2.2.2.1)) (by first | exact ht15040_σ_8 | assumption) ?_
          refine g_goto h dX11_flood_89 ?_
          exact g_iret h hQ dX11_flood_99 (congrArg (fun z => some (Value.int z)) (show (an (fo (fo (rg wt (nI 0) (nI 3)) (ns μ i)) (ofS μ i)) (v_flood μ (toN i) (toN wt))) = ((flS (toN i) (decide (1 = 2)) false 0 μ 0 (nI 0)).2.2.2.1) by first | exact an_yes (by exact hS0) (by first | (unfold v_flood; rw [if_pos c68, hbl]; done) | (unfold v_flood; rw [if_neg c68, hbl]; done) | (unfold v_flood; rw [if_pos c79, hbl]; done) | (unfold v_flood; rw [if_neg c79, hbl]; done)) | exact an_no (k := (fo (fo (rg wt (nI 0) (nI 3)) (ns μ i)) 4)) (by first | exact hS0 | (simp [ofS, c5, c36, c61, c79]; done)) (by first | decide | omega | assumption | exact nb1 (by assumption)) | fail)) (by exact ⟨(by first | exact tk_eq (k := (fo (fo (rg wt (nI 0) (nI 3)) (ns μ i)) 4)) (by first | exact hS0 | (simp [ofS, c5, c36, c61, c79]; done)) ht14000_σ_8 | exact tk_eq (k := (fo (fo (rg wt (nI 0) (nI 3)) (ns μ i)) 4)) (by exact hS0) ht14000_σ_8 | fail), (by exact hcFR_σ_8)⟩)
    ·
      refine g_iconstv h dX11_flood_39 (v := (-1)) (by decide) ?_
      exact g_iret h hQ dX11_flood_40 (congrArg (fun z => some (Value.int z)) (show (an (fo (fo (rg wt (nI 0) (nI 3)) (ns μ i)) (ofS μ i)) (v_flood μ (toN i) (toN wt))) = (-1) by first | exact an_yes (by exact hS0) (by first | (unfold v_flood; rw [if_pos c68, hbl]; done) | (unfold v_flood; rw [if_neg c68, hbl]; done) | (unfold v_flood; rw [if_pos c79, hbl]; done) | (unfold v_flood; rw [if_neg c79, hbl]; done)) | exact an_no (k := (fo (fo (rg wt (nI 0) (nI 3)) (ns μ i)) 4)) (by first | exact hS0 | (simp [ofS, c5, c36]; done)) (by first | decide | omega | assumption | exact nb1 (by assumption)) | fail)) (by exact ⟨(by first | exact tk_eq (k := (fo (fo (rg wt (nI 0) (nI 3)) (ns μ i)) 4)) (by first | exact hS0 | (simp [ofS, c5, c36]; done)) ht14000_σ_5 | exact tk_eq (k := (fo (fo (rg wt (nI 0) (nI 3)) (ns μ i)) 4)) (by exact hS0) ht14000_σ_5 | fail), (by exact hcFR_σ_5)⟩)
