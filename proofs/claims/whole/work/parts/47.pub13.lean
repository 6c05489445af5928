/-! echoes, notices, how sure -/
theorem sB_lt {μ : Nat → Int32} {z : Int32} : sB μ z < 100 := rg_lt
def v_su (μ : Nat → Int32) (gn : Nat → Nat) : Nat → Nat
  | 0 => 1000000
  | k + 1 => v_su μ gn k * nA μ (80 + (8 * gn (k + 1) + gn k)) / 999
theorem v_su_le {μ : Nat → Int32} {gn : Nat → Nat} (hI : MI μ) : ∀ n, (∀ k, k ≤ n → gn k < 8) → v_su μ gn n ≤ 1000000
  | 0, _ => Nat.le_refl _
  | n + 1, h => by
    have ih := v_su_le (gn := gn) hI n (fun k hk => h k (by omega))
    have h1 := h n (by omega)
    have h2 := h (n + 1) (by omega)
    have hq := mb_80 hI (j := 8 * gn (n + 1) + gn n) (by omega)
    simp only [v_su]
    generalize nA μ (80 + (8 * gn (n + 1) + gn n)) = q at hq
    generalize v_su μ gn n = v at ih
    have : v * q ≤ 1000000 * 999 := Nat.mul_le_mul ih (by omega)
    omega
theorem gnw_lt {μ : Nat → Int32} {fr to : Nat} (hI : MI μ) (hf : fr < nN μ) : ∀ q, q < (gnw μ fr to).2.1 → (gnw μ fr to).2.2.1 q < nN μ := by
  have h8 := mi_8 hI
  have go : ∀ f km gn been, 1 ≤ km → (∀ q, q < km → gn q < nN μ) → ∀ q, q < (goR μ to f km gn been).2.1 → (goR μ to f km gn been).2.2.1 q < nN μ := by
    intro f
    induction f with
    | zero => intro km gn been _ h; exact h
    | succ f ih =>
      intro km gn been h1 h
      rw [goR]
      cases e : stp μ to (gn (km - 1)) with
      | none => exact h
      | some n =>
        have hg := h (km - 1) (by omega)
        have hn : n < nN μ := by
          unfold stp at e
          split at e
          · rename_i c
            cases e
            simp only [Bool.and_eq_true, Bool.not_eq_true', decide_eq_false_iff_not] at c
            exact rts_rx hI (by omega) c.1.1
          · cases e
        have hr : ∀ q, q < km + 1 → ru gn km n q < nN μ := fun q hq => by
          by_cases e9 : q = km
          · rw [e9, ru_eq]
            exact hn
          · rw [ru_ne e9]
            exact h q (by omega)
        dsimp only
        split
        · exact hr
        · split
          · exact hr
          · exact ih (km + 1) (ru gn km n) _ (by omega) hr
  exact go 8 1 _ _ (Nat.le_refl 1) (fun _ _ => hf)
theorem su_l {v q : Nat} (hv : v ≤ 1000000) (hq : q < 1000) : ((nI v).toInt64 * (nI q).toInt64 / lN 999).toInt32 = nI (v * q / 999) := by
  rw [nI_lg (by omega), nI_lg (by omega), lN_mul]
  have hb : v * q ≤ 1000000 * 999 := Nat.mul_le_mul hv (by omega)
  rw [lN_div (by omega) (by decide) (by decide), lN_i]

set_option maxRecDepth 100000 in
set_option maxHeartbeats 4000000 in
theorem q_echo {l : Launch} {w : Wd} (hW : Wi w) {σ : Mem} (i : Int32) (j : Int32) (nm : Int32) (z : Int32)  (μ : Nat → Int32) (hv : vw 0 σ = μ) (hI : MI μ) : MC l w qX12_echo 3 [.ref (w.1 0), .int i, .int j, .int nm, .int z] σ (some (.int (an (fo (fo (fo (rg nm (nI 0) (nI 15)) (sB μ z)) (ps μ i j)) (ofS μ i)) (b2i (tkB μ (8 * toN i + toN j) (toN nm)))))) (fun σ' => (vw 0 σ' = pk0 (fo (fo (fo (rg nm (nI 0) (nI 15)) (sB μ z)) (ps μ i j)) (ofS μ i)) (tkS μ (8 * toN i + toN j) (toN nm) z) μ) ∧ (σ' 4000 = (nI (fo (fo (fo (rg nm (nI 0) (nI 15)) (sB μ z)) (ps μ i j)) (ofS μ i)))) ∧ (∀ a, (464 ≤ a ∧ a ≠ 4000 ∨ a = 10) → σ' a = σ a)) := by
  refine MC.of hW (by decide +kernel) (Nat.le_of_ble_eq_true rfl) (fun X h hQ hnm => ?_)
  have h : Fx X w cX12_echo 6 RX12 3 := h
  have hQ : Qx X w (some .int) (some (.int (an (fo (fo (fo (rg nm (nI 0) (nI 15)) (sB μ z)) (ps μ i j)) (ofS μ i)) (b2i (tkB μ (8 * toN i + toN j) (toN nm)))))) (fun σ' => (vw 0 σ' = pk0 (fo (fo (fo (rg nm (nI 0) (nI 15)) (sB μ z)) (ps μ i j)) (ofS μ i)) (tkS μ (8 * toN i + toN j) (toN nm) z) μ) ∧ (σ' 4000 = (nI (fo (fo (fo (rg nm (nI 0) (nI 15)) (sB μ z)) (ps μ i j)) (ofS μ i)))) ∧ (∀ a, (464 ≤ a ∧ a ≠ 4000 ∨ a = 10) → σ' a = σ a)) := hQ
  have hN8 := mi_8 hI
  have hps := ps_lt (μ := μ) (a := i) (b := j)
  have hcFR_σ : ∀ a, (464 ≤ a ∧ a ≠ 4000 ∨ a = 10) → σ a = σ a := fun _ _ => rfl
  show G X w 6 0 [(0, .ref (w.1 0)), (1, .int i), (2, .int j), (3, .int nm), (4, .int z)] [] σ
  refine g_iload_n h dX12_echo_0 3 rfl ?_
  refine g_iconst h dX12_echo_1 (by decide) ?_
  refine g_bipush h dX12_echo_2 (by decide) ?_
  refine g_cspi (rest := []) h (r_isFrom hW nm (nI 0) (nI 15) ) lX12_isFrom mX12_134 (Nat.lt_of_lt_of_le (by decide) (Nat.le_refl _)) (by decide) rfl rfl rfl dX12_echo_4 ?_
  refine g_ifB_eq h dX12_echo_7 (fun c7 => ?_) (fun c7 => ?_)
  ·
    refine g_iconst h dX12_echo_19 (by decide) ?_
    refine g_goto h dX12_echo_20 ?_
    refine g_istore (L' := [(0, .ref (w.1 0)), (1, .int i), (2, .int j), (3, .int nm), (4, .int z), (5, .int (nI 1))]) h dX12_echo_29 rfl (by decide) rfl ?_
    refine g_iload h dX12_echo_31 5 rfl ?_
    refine g_ifN_ne h dX12_echo_33 (by decide) (fun c33 => ?_) (fun c33 => absurd c33 (by decide))
    refine g_iload h dX12_echo_47 5 rfl ?_
    refine g_ifN_le h dX12_echo_49 (by decide) (fun c49 => absurd c49 (by decide)) (fun c49 => ?_)
    refine g_aload_n h dX12_echo_52 0 rfl ?_
    refine g_iload h dX12_echo_53 5 rfl ?_
    refine g_cvi (rest := []) h (r_refuse hW (nI 1) ) lX12_refuse mX12_272 (Nat.lt_of_lt_of_le (by decide) (Nat.le_refl _)) (by decide) sc_0 rfl rfl rfl rfl dX12_echo_55 (fun σ_1 eσ_1 => ?_)
    have eσ_1_a : σ_1 = upd σ 4000 (nI 1) := eσ_1
    have ht4000_σ_1 : σ_1 4000 = (nI 1) := by rw [eσ_1_a]; exact upd_eq
    have hcFR_σ_1 : ∀ a, (464 ≤ a ∧ a ≠ 4000 ∨ a = 10) → σ_1 a = σ a := by intro a ha; exact Eq.trans (b := σ a) (by rw [eσ_1_a, upd_ne (by first | omega | (simp only [vb] at *; omega))]) (hcFR_σ a ha)
    have hvσ_1 : vw 0 σ_1 = μ := by rw [eσ_1_a, vw_out (by omega)]; first | exact hv | assumption
    refine g_goto h dX12_echo_58 ?_
    exact g_iret h hQ dX12_echo_82 (congrArg (fun z => some (Value.int z)) (show (an (fo (fo (fo (rg nm (nI 0) (nI 15)) (sB μ z)) (ps μ i j)) (ofS μ i)) (b2i (tkB μ (8 * toN i + toN j) (toN nm)))) = (-1) by first | exact an_yes (by first | (simp [fo, rg, c7, hz0, hp0, ofS, o1, c7]; done) | fail) (by first | rfl | (rw [c71]; rfl)) | exact an_no (k := 1) (by first | (simp [fo, rg, c7, hz0, hp0, ofS, o1, c7]; done) | (have q9 : ¬ sB μ z = 0 := of_decide_eq_false c16; rw [fo_l (by rw [fo_l (by rw [fo_r (by simp [rg, c7])]; exact q9)]; rw [fo_r (by simp [rg, c7])]; exact q9), fo_l (by rw [fo_r (by simp [rg, c7])]; exact q9), fo_r (by simp [rg, c7])]; unfold sB rg at q9 ⊢; split <;> simp_all; done) | (have q9 : sB μ z = 0 := of_decide_eq_true c16; rw [fo_l (by rw [fo_r (by simp [fo, rg, c7, q9])]; omega), fo_r (by simp [fo, rg, c7, q9])]; done) | (simp [fo, rg, c7]; done) | fail) (by first | decide | omega | assumption | exact nb1 (by assumption)) | fail)) (by exact ⟨(by first | exact pk_yes (by first | (simp [fo, rg, c7, hz0, hp0, ofS, o1, c7]; done) | fail) (by rw [hvσ_1, Nat.add_zero]) | exact pk_no (k := 1) (by first | (simp [fo, rg, c7, hz0, hp0, ofS, o1, c7]; done) | (have q9 : ¬ sB μ z = 0 := of_decide_eq_false c16; rw [fo_l (by rw [fo_l (by rw [fo_r (by simp [rg, c7])]; exact q9)]; rw [fo_r (by simp [rg, c7])]; exact q9), fo_l (by rw [fo_r (by simp [rg, c7])]; exact q9), fo_r (by simp [rg, c7])]; unfold sB rg at q9 ⊢; split <;> simp_all; done) | (have q9 : sB μ z = 0 := of_decide_eq_true c16; rw [fo_l (by rw [fo_r (by simp [fo, rg, c7, q9])]; omega), fo_r (by simp [fo, rg, c7, q9])]; done) | (simp [fo, rg, c7]; done) | fail) (by first | decide | omega | assumption | exact nb1 (by assumption)) hvσ_1 | fail), (by first | exact tk_eq (k := 1) (by first | (simp [fo, rg, c7, hz0, hp0, ofS, o1, c7]; done) | (have q9 : ¬ sB μ z = 0 := of_decide_eq_false c16; rw [fo_l (by rw [fo_l (by rw [fo_r (by simp [rg, c7])]; exact q9)]; rw [fo_r (by simp [rg, c7])]; exact q9), fo_l (by rw [fo_r (by simp [rg, c7])]; exact q9), fo_r (by simp [rg, c7])]; unfold sB rg at q9 ⊢; split <;> simp_all; done) | (have q9 : sB μ z = 0 := of_decide_eq_true c16; rw [fo_l (by rw [fo_r (by simp [fo, rg, c7, q9])]; omega), fo_r (by simp [fo, rg, c7, q9])]; done) | (simp [fo, rg, c7]; done) | fail) ht4000_σ_1 | exact tk_eq (k := 1) (by first | (simp [fo, rg, c7, hz0, hp0, ofS, o1, c7]; done) | fail) ht4000_σ_1 | fail), (by exact hcFR_σ_1)⟩)
  ·
    refine g_aload_n h dX12_echo_10 0 rfl ?_
    refine g_iload h dX12_echo_11 4 rfl ?_
    refine g_cvpi (rest := []) h (r_isSet hW z μ (by first | exact hv | assumption | fail) (by assumption)) lX12_isSet mX12_296 (Nat.lt_of_lt_of_le (by decide) (Nat.le_refl _)) (by decide) sc_0 rfl rfl rfl rfl dX12_echo_13 ?_
    refine g_ifB_ne h dX12_echo_16 (fun c16 => ?_) (fun c16 => ?_)
    ·
      refine g_aload_n h dX12_echo_23 0 rfl ?_
      refine g_iload_n h dX12_echo_24 1 rfl ?_
      refine g_iload_n h dX12_echo_25 2 rfl ?_
      refine g_cvpi (rest := []) h (r_ps hW i j μ (by first | exact hv | assumption | fail)) lX12_wrongTwo mX12_290 (Nat.lt_of_lt_of_le (by decide) (Nat.le_refl _)) (by decide) sc_0 rfl rfl rfl rfl dX12_echo_26 ?_
      refine g_istore (L' := [(0, .ref (w.1 0)), (1, .int i), (2, .int j), (3, .int nm), (4, .int z), (5, .int (nI (ps μ i j)))]) h dX12_echo_29 rfl (by decide) rfl ?_
      refine g_iload h dX12_echo_31 5 rfl ?_
      refine g_ifN_ne h dX12_echo_33 (by omega) (fun c33 => ?_) (fun c33 => ?_)
      ·
        refine g_iload h dX12_echo_47 5 rfl ?_
        refine g_ifN_le h dX12_echo_49 (by omega) (fun c49 => ?_) (fun c49 => ?_)
        ·
          exfalso; omega
        ·
          refine g_aload_n h dX12_echo_52 0 rfl ?_
          refine g_iload h dX12_echo_53 5 rfl ?_
          refine g_cvi (rest := []) h (r_refuse hW (nI (ps μ i j)) ) lX12_refuse mX12_272 (Nat.lt_of_lt_of_le (by decide) (Nat.le_refl _)) (by decide) sc_0 rfl rfl rfl rfl dX12_echo_55 (fun σ_2 eσ_2 => ?_)
          have eσ_2_a : σ_2 = upd σ 4000 (nI (ps μ i j)) := eσ_2
          have ht4000_σ_2 : σ_2 4000 = (nI (ps μ i j)) := by rw [eσ_2_a]; exact upd_eq
          have hcFR_σ_2 : ∀ a, (464 ≤ a ∧ a ≠ 4000 ∨ a = 10) → σ_2 a = σ a := by intro a ha; exact Eq.trans (b := σ a) (by rw [eσ_2_a, upd_ne (by first | omega | (simp only [vb] at *; omega))]) (hcFR_σ a ha)
          have hvσ_2 : vw 0 σ_2 = μ := by rw [eσ_2_a, vw_out (by omega)]; first | exact hv | assumption
          refine g_goto h dX12_echo_58 ?_
          exact g_iret h hQ dX12_echo_82 (congrArg (fun z => some (Value.int z)) (show (an (fo (fo (fo (rg nm (nI 0) (nI 15)) (sB μ z)) (ps μ i j)) (ofS μ i)) (b2i (tkB μ (8 * toN i + toN j) (toN nm)))) = (-1) by first | exact an_yes (by first | (simp [fo, rg, c7, hz0, hp0, ofS, o1, c7, c16, c33, c49]; done) | fail) (by first | rfl | (rw [c71]; rfl)) | exact an_no (k := (ps μ i j)) (by first | (simp [fo, rg, c7, hz0, hp0, ofS, o1, c7, c16, c33, c49]; done) | (have q9 : ¬ sB μ z = 0 := of_decide_eq_false c16; rw [fo_l (by rw [fo_l (by rw [fo_r (by simp [rg, c7])]; exact q9)]; rw [fo_r (by simp [rg, c7])]; exact q9), fo_l (by rw [fo_r (by simp [rg, c7])]; exact q9), fo_r (by simp [rg, c7])]; unfold sB rg at q9 ⊢; split <;> simp_all; done) | (have q9 : sB μ z = 0 := of_decide_eq_true c16; rw [fo_l (by rw [fo_r (by simp [fo, rg, c7, q9])]; omega), fo_r (by simp [fo, rg, c7, q9])]; done) | (simp [fo, rg, c7]; done) | fail) (by first | decide | omega | assumption | exact nb1 (by assumption)) | fail)) (by exact ⟨(by first | exact pk_yes (by first | (simp [fo, rg, c7, hz0, hp0, ofS, o1, c7, c16, c33, c49]; done) | fail) (by rw [hvσ_2, Nat.add_zero]) | exact pk_no (k := (ps μ i j)) (by first | (simp [fo, rg, c7, hz0, hp0, ofS, o1, c7, c16, c33, c49]; done) | (have q9 : ¬ sB μ z = 0 := of_decide_eq_false c16; rw [fo_l (by rw [fo_l (by rw [fo_r (by simp [rg, c7])]; exact q9)]; rw [fo_r (by simp [rg, c7])]; exact q9), fo_l (by rw [fo_r (by simp [rg, c7])]; exact q9), fo_r (by simp [rg, c7])]; unfold sB rg at q9 ⊢; split <;> simp_all; done) | (have q9 : sB μ z = 0 := of_decide_eq_true c16; rw [fo_l (by rw [fo_r (by simp [fo, rg, c7, q9])]; omega), fo_r (by simp [fo, rg, c7, q9])]; done) | (simp [fo, rg, c7]; done) | fail) (by first | decide | omega | assumption | exact nb1 (by assumption)) hvσ_2 | fail), (by first | exact tk_eq (k := (ps μ i j)) (by first | (simp [fo, rg, c7, hz0, hp0, ofS, o1, c7, c16, c33, c49]; done) | (have q9 : ¬ sB μ z = 0 := of_decide_eq_false c16; rw [fo_l (by rw [fo_l (by rw [fo_r (by simp [rg, c7])]; exact q9)]; rw [fo_r (by simp [rg, c7])]; exact q9), fo_l (by rw [fo_r (by simp [rg, c7])]; exact q9), fo_r (by simp [rg, c7])]; unfold sB rg at q9 ⊢; split <;> simp_all; done) | (have q9 : sB μ z = 0 := of_decide_eq_true c16; rw [fo_l (by rw [fo_r (by simp [fo, rg, c7, q9])]; omega), fo_r (by simp [fo, rg, c7, q9])]; done) | (simp [fo, rg, c7]; done) | fail) ht4000_σ_2 | exact tk_eq (k := (ps μ i j)) (by first | (simp [fo, rg, c7, hz0, hp0, ofS, o1, c7, c16, c33, c49]; done) | fail) ht4000_σ_2 | fail), (by exact hcFR_σ_2)⟩)
      ·
        obtain ⟨em, hm9⟩ := fr_N (by decide) c7
        have hz0 : sB μ z = 0 := of_decide_eq_true c16
        have hp0 : ps μ i j = 0 := by omega
        have h0 := ps_0 hp0
        have o1 := off_in h0.1
        obtain ⟨ei, hi9⟩ := nB_N hI h0.1
        obtain ⟨ej, hj9⟩ := nB_N hI h0.2.1
        rw [hp0]
        rw [ei, ej, em]
        show G X w 6 36 [(0, .ref (w.1 0)), (1, .int (nI (toN i))), (2, .int (nI (toN j))), (3, .int (nI (toN nm))), (4, .int z), (5, .int (nI 0))] [] σ
        refine g_aload_n h dX12_echo_36 0 rfl ?_
        refine g_iload_n h dX12_echo_37 1 rfl ?_
        refine g_cvpi (rest := []) h (r_isOn hW (toN i) μ (by assumption) (by omega)) lX12_isOn mX12_114 (Nat.lt_of_lt_of_le (by decide) (Nat.le_refl _)) (by decide) sc_0 rfl rfl rfl rfl dX12_echo_38 ?_
        refine g_ifB_ne h dX12_echo_41 (fun c41 => ?_) (fun c41 => ?_)
        ·
          refine g_iload h dX12_echo_47 5 rfl ?_
          refine g_ifN_le h dX12_echo_49 (by decide) (fun c49 => ?_) (fun c49 => absurd c49 (by decide))
          refine g_aload_n h dX12_echo_61 0 rfl ?_
          refine g_aload_n h dX12_echo_62 0 rfl ?_
          refine g_iload_n h dX12_echo_63 1 rfl ?_
          refine g_iload_n h dX12_echo_64 2 rfl ?_
          refine g_iload_n h dX12_echo_65 3 rfl ?_
          refine g_iload h dX12_echo_66 4 rfl ?_
          refine g_cvi (rest := [.ref (w.1 0)]) h (r_takesIn hW (toN i) (toN j) (toN nm) z μ (by first | exact hv | assumption | fail) (by assumption) (by omega) (by omega) (by omega)) lX12_takesIn mX12_156 (Nat.lt_of_lt_of_le (by decide) (Nat.le_refl _)) (by decide) sc_0 rfl rfl rfl rfl dX12_echo_68 (fun σ_3 eσ_3 => ?_)
          obtain ⟨eσ_3_a, eσ_3_b⟩ := eσ_3
          have eσ_3_a : vw 0 σ_3 = tkS μ (8 * (toN i) + (toN j)) (toN nm) z := eσ_3_a
          have eσ_3_b : ∀ a, (464 ≤ a ∨ a = 10) → σ_3 a = σ a := eσ_3_b
          have hcFR_σ_3 : ∀ a, (464 ≤ a ∧ a ≠ 4000 ∨ a = 10) → σ_3 a = σ a := by intro a ha; exact Eq.trans (b := σ a) (eσ_3_b a (by first | omega | (simp only [vb] at *; omega))) (hcFR_σ a ha)
          obtain ⟨μ_4, eμ_4⟩ : ∃ μ_4 : Nat → Int32, μ_4 = tkS μ (8 * (toN i) + (toN j)) (toN nm) z := ⟨_, rfl⟩
          have hvσ_3 : vw 0 σ_3 = μ_4 := by rw [eμ_4]; exact eσ_3_a
          refine g_ifB_eq h dX12_echo_71 (fun c71 => ?_) (fun c71 => ?_)
          ·
            refine g_iconst h dX12_echo_78 (by decide) ?_
            refine g_cvi (rest := []) h (r_gives hW (nI 0) ) lX12_gives mX12_281 (Nat.lt_of_lt_of_le (by decide) (Nat.le_refl _)) (by decide) sc_0 rfl rfl rfl rfl dX12_echo_79 (fun σ_5 eσ_5 => ?_)
            have eσ_5_a : σ_5 = upd σ_3 4000 (nI 0) := eσ_5
            have ht4000_σ_5 : σ_5 4000 = (nI 0) := by rw [eσ_5_a]; exact upd_eq
            have hcFR_σ_5 : ∀ a, (464 ≤ a ∧ a ≠ 4000 ∨ a = 10) → σ_5 a = σ a := by intro a ha; exact Eq.trans (b := σ_3 a) (by rw [eσ_5_a, upd_ne (by first | omega | (simp only [vb] at *; omega))]) (hcFR_σ_3 a ha)
            have hvσ_5 : vw 0 σ_5 = μ_4 := by rw [eσ_5_a, vw_out (by omega)]; first | exact hvσ_3 | assumption
            exact g_iret h hQ dX12_echo_82 (congrArg (fun z => some (Value.int z)) (show (an (fo (fo (fo (rg nm (nI 0) (nI 15)) (sB μ z)) (ps μ i j)) (ofS μ i)) (b2i (tkB μ (8 * toN i + toN j) (toN nm)))) = (nI 0) by first | exact an_yes (by first | (simp [fo, rg, c7, hz0, hp0, ofS, o1, c7, c16, c33, c41, c71]; done) | fail) (by first | rfl | (rw [c71]; rfl)) | exact an_no (k := 0) (by first | (simp [fo, rg, c7, hz0, hp0, ofS, o1, c7, c16, c33, c41, c71]; done) | (have q9 : ¬ sB μ z = 0 := of_decide_eq_false c16; rw [fo_l (by rw [fo_l (by rw [fo_r (by simp [rg, c7])]; exact q9)]; rw [fo_r (by simp [rg, c7])]; exact q9), fo_l (by rw [fo_r (by simp [rg, c7])]; exact q9), fo_r (by simp [rg, c7])]; unfold sB rg at q9 ⊢; split <;> simp_all; done) | (have q9 : sB μ z = 0 := of_decide_eq_true c16; rw [fo_l (by rw [fo_r (by simp [fo, rg, c7, q9])]; omega), fo_r (by simp [fo, rg, c7, q9])]; done) | (simp [fo, rg, c7]; done) | fail) (by first | decide | omega | assumption | exact nb1 (by assumption)) | fail)) (by exact ⟨(by first | exact pk_yes (by first | (simp [fo, rg, c7, hz0, hp0, ofS, o1, c7, c16, c33, c41, c71]; done) | fail) (by rw [hvσ_5, eμ_4]) | exact pk_no (k := 0) (by first | (simp [fo, rg, c7, hz0, hp0, ofS, o1, c7, c16, c33, c41, c71]; done) | (have q9 : ¬ sB μ z = 0 := of_decide_eq_false c16; rw [fo_l (by rw [fo_l (by rw [fo_r (by simp [rg, c7])]; exact q9)]; rw [fo_r (by simp [rg, c7])]; exact q9), fo_l (by rw [fo_r (by simp [rg, c7])]; exact q9), fo_r (by simp [rg, c7])]; unfold sB rg at q9 ⊢; split <;> simp_all; done) | (have q9 : sB μ z = 0 := of_decide_eq_true c16; rw [fo_l (by rw [fo_r (by simp [fo, rg, c7, q9])]; omega), fo_r (by simp [fo, rg, c7, q9])]; done) | (simp [fo, rg, c7]; done) | fail) (by first | decide | omega | assumption | exact nb1 (by assumption)) hvσ_5 | fail), (by first | exact tk_eq (k := 0) (by first | (simp [fo, rg, c7, hz0, hp0, ofS, o1, c7, c16, c33, c41, c71]; done) | (have q9 : ¬ sB μ z = 0 := of_decide_eq_false c16; rw [fo_l (by rw [fo_l (by rw [fo_r (by simp [rg, c7])]; exact q9)]; rw [fo_r (by simp [rg, c7])]; exact q9), fo_l (by rw [fo_r (by simp [rg, c7])]; exact q9), fo_r (by simp [rg, c7])]; unfold sB rg at q9 ⊢; split <;> simp_all; done) | (have q9 : sB μ z = 0 := of_decide_eq_true c16; rw [fo_l (by rw [fo_r (by simp [fo, rg, c7, q9])]; omega), fo_r (by simp [fo, rg, c7, q9])]; done) | (simp [fo, rg, c7]; done) | fail) ht4000_σ_5 | exact tk_eq (k := 0) (by first | (simp [fo, rg, c7, hz0, hp0, ofS, o1, c7, c16, c33, c41, c71]; done) | fail) ht4000_σ_5 | fail), (by exact hcFR_σ_5)⟩)
          ·
            refine g_iconst h dX12_echo_74 (by decide) ?_
            refine g_goto h dX12_echo_75 ?_
            refine g_cvi (rest := []) h (r_gives hW (nI 1) ) lX12_gives mX12_281 (Nat.lt_of_lt_of_le (by decide) (Nat.le_refl _)) (by decide) sc_0 rfl rfl rfl rfl dX12_echo_79 (fun σ_6 eσ_6 => ?_)
            have eσ_6_a : σ_6 = upd σ_3 4000 (nI 0) := eσ_6
            have ht4000_σ_6 : σ_6 4000 = (nI 0) := by rw [eσ_6_a]; exact upd_eq
            have hcFR_σ_6 : ∀ a, (464 ≤ a ∧ a ≠ 4000 ∨ a = 10) → σ_6 a = σ a := by intro a ha; exact Eq.trans (b := σ_3 a) (by rw [eσ_6_a, upd_ne (by first | omega | (simp only [vb] at *; omega))]) (hcFR_σ_3 a ha)
            have hvσ_6 : vw 0 σ_6 = μ_4 := by rw [eσ_6_a, vw_out (by omega)]; first | exact hvσ_3 | assumption
            exact g_iret h hQ dX12_echo_82 (congrArg (fun z => some (Value.int z)) (show (an (fo (fo (fo (rg nm (nI 0) (nI 15)) (sB μ z)) (ps μ i j)) (ofS μ i)) (b2i (tkB μ (8 * toN i + toN j) (toN nm)))) = (nI 1) by first | exact an_yes (by first | (simp [fo, rg, c7, hz0, hp0, ofS, o1, c7, c16, c33, c41, c71]; done) | fail) (by first | rfl | (rw [c71]; rfl)) | exact an_no (k := 0) (by first | (simp [fo, rg, c7, hz0, hp0, ofS, o1, c7, c16, c33, c41, c71]; done) | (have q9 : ¬ sB μ z = 0 := of_decide_eq_false c16; rw [fo_l (by rw [fo_l (by rw [fo_r (by simp [rg, c7])]; exact q9)]; rw [fo_r (by simp [rg, c7])]; exact q9), fo_l (by rw [fo_r (by simp [rg, c7])]; exact q9), fo_r (by simp [rg, c7])]; unfold sB rg at q9 ⊢; split <;> simp_all; done) | (have q9 : sB μ z = 0 := of_decide_eq_true c16; rw [fo_l (by rw [fo_r (by simp [fo, rg, c7, q9])]; omega), fo_r (by simp [fo, rg, c7, q9])]; done) | (simp [fo, rg, c7]; done) | fail) (by first | decide | omega | assumption | exact nb1 (by assumption)) | fail)) (by exact ⟨(by first | exact pk_yes (by first | (simp [fo, rg, c7, hz0, hp0, ofS, o1, c7, c16, c33, c41, c71]; done) | fail) (by rw [hvσ_6, eμ_4]) | exact pk_no (k := 0) (by first | (simp [fo, rg, c7, hz0, hp0, ofS, o1, c7, c16, c33, c41, c71]; done) | (have q9 : ¬ sB μ z = 0 := of_decide_eq_false c16; rw [fo_l (by rw [fo_l (by rw [fo_r (by simp [rg, c7])]; exact q9)]; rw [fo_r (by simp [rg, c7])]; exact q9), fo_l (by rw [fo_r (by simp [rg, c7])]; exact q9), fo_r (by simp [rg, c7])]; unfold sB rg at q9 ⊢; split <;> simp_all; done) | (have q9 : sB μ z = 0 := of_decide_eq_true c16; rw [fo_l (by rw [fo_r (by simp [fo, rg, c7, q9])]; omega), fo_r (by simp [fo, rg, c7, q9])]; done) | (simp [fo, rg, c7]; done) | fail) (by first | decide | omega | assumption | exact nb1 (by assumption)) hvσ_6 | fail), (by first | exact tk_eq (k := 0) (by first | (simp [fo, rg, c7, hz0, hp0, ofS, o1, c7, c16, c33, c41, c71]; done) | (have q9 : ¬ sB μ z = 0 := of_decide_eq_false c16; rw [fo_l (by rw [fo_l (by rw [fo_r (by simp [rg, c7])]; exact q9)]; rw [fo_r (by simp [rg, c7])]; exact q9), fo_l (by rw [fo_r (by simp [rg, c7])]; exact q9), fo_r (by simp [rg, c7])]; unfold sB rg at q9 ⊢; split <;> simp_all; done) | (have q9 : sB μ z = 0 := of_decide_eq_true c16; rw [fo_l (by rw [fo_r (by simp [fo, rg, c7, q9])]; omega), fo_r (by simp [fo, rg, c7, q9])]; done) | (simp [fo, rg, c7]; done) | fail) ht4000_σ_6 | exact tk_eq (k := 0) (by first | (simp [fo, rg, c7, hz0, hp0, ofS, o1, c7, c16, c33, c41, c71]; done) | fail) ht4000_σ_6 | fail), (by exact hcFR_σ_6)⟩)
        ·
          refine g_iconst h dX12_echo_44 (by decide) ?_
          refine g_istore (L' := [(0, .ref (w.1 0)), (1, .int (nI (toN i))), (2, .int (nI (toN j))), (3, .int (nI (toN nm))), (4, .int z), (5, .int (nI 4))]) h dX12_echo_45 rfl (by decide) rfl ?_
          refine g_iload h dX12_echo_47 5 rfl ?_
          refine g_ifN_le h dX12_echo_49 (by decide) (fun c49 => absurd c49 (by decide)) (fun c49 => ?_)
          refine g_aload_n h dX12_echo_52 0 rfl ?_
          refine g_iload h dX12_echo_53 5 rfl ?_
          refine g_cvi (rest := []) h (r_refuse hW (nI 4) ) lX12_refuse mX12_272 (Nat.lt_of_lt_of_le (by decide) (Nat.le_refl _)) (by decide) sc_0 rfl rfl rfl rfl dX12_echo_55 (fun σ_7 eσ_7 => ?_)
          have eσ_7_a : σ_7 = upd σ 4000 (nI 4) := eσ_7
          have ht4000_σ_7 : σ_7 4000 = (nI 4) := by rw [eσ_7_a]; exact upd_eq
          have hcFR_σ_7 : ∀ a, (464 ≤ a ∧ a ≠ 4000 ∨ a = 10) → σ_7 a = σ a := by intro a ha; exact Eq.trans (b := σ a) (by rw [eσ_7_a, upd_ne (by first | omega | (simp only [vb] at *; omega))]) (hcFR_σ a ha)
          have hvσ_7 : vw 0 σ_7 = μ := by rw [eσ_7_a, vw_out (by omega)]; first | exact hv | assumption
          refine g_goto h dX12_echo_58 ?_
          exact g_iret h hQ dX12_echo_82 (congrArg (fun z => some (Value.int z)) (show (an (fo (fo (fo (rg nm (nI 0) (nI 15)) (sB μ z)) (ps μ i j)) (ofS μ i)) (b2i (tkB μ (8 * toN i + toN j) (toN nm)))) = (-1) by first | exact an_yes (by first | (simp [fo, rg, c7, hz0, hp0, ofS, o1, c7, c16, c33, c41]; done) | fail) (by first | rfl | (rw [c71]; rfl)) | exact an_no (k := 4) (by first | (simp [fo, rg, c7, hz0, hp0, ofS, o1, c7, c16, c33, c41]; done) | (have q9 : ¬ sB μ z = 0 := of_decide_eq_false c16; rw [fo_l (by rw [fo_l (by rw [fo_r (by simp [rg, c7])]; exact q9)]; rw [fo_r (by simp [rg, c7])]; exact q9), fo_l (by rw [fo_r (by simp [rg, c7])]; exact q9), fo_r (by simp [rg, c7])]; unfold sB rg at q9 ⊢; split <;> simp_all; done) | (have q9 : sB μ z = 0 := of_decide_eq_true c16; rw [fo_l (by rw [fo_r (by simp [fo, rg, c7, q9])]; omega), fo_r (by simp [fo, rg, c7, q9])]; done) | (simp [fo, rg, c7]; done) | fail) (by first | decide | omega | assumption | exact nb1 (by assumption)) | fail)) (by exact ⟨(by first | exact pk_yes (by first | (simp [fo, rg, c7, hz0, hp0, ofS, o1, c7, c16, c33, c41]; done) | fail) (by rw [hvσ_7, Nat.add_zero]) | exact pk_no (k := 4) (by first | (simp [fo, rg, c7, hz0, hp0, ofS, o1, c7, c16, c33, c41]; done) | (have q9 : ¬ sB μ z = 0 := of_decide_eq_false c16; rw [fo_l (by rw [fo_l (by rw [fo_r (by simp [rg, c7])]; exact q9)]; rw [fo_r (by simp [rg, c7])]; exact q9), fo_l (by rw [fo_r (by simp [rg, c7])]; exact q9), fo_r (by simp [rg, c7])]; unfold sB rg at q9 ⊢; split <;> simp_all; done) | (have q9 : sB μ z = 0 := of_decide_eq_true c16; rw [fo_l (by rw [fo_r (by simp [fo, rg, c7, q9])]; omega), fo_r (by simp [fo, rg, c7, q9])]; done) | (simp [fo, rg, c7]; done) | fail) (by first | decide | omega | assumption | exact nb1 (by assumption)) hvσ_7 | fail), (by first | exact tk_eq (k := 4) (by first | (simp [fo, rg, c7, hz0, hp0, ofS, o1, c7, c16, c33, c41]; done) | (have q9 : ¬ sB μ z = 0 := of_decide_eq_false c16; rw [fo_l (by rw [fo_l (by rw [fo_r (by simp [rg, c7])]; exact q9)]; rw [fo_r (by simp [rg, c7])]; exact q9), fo_l (by rw [fo_r (by simp [rg, c7])]; exact q9), fo_r (by simp [rg, c7])]; unfold sB rg at q9 ⊢; split <;> simp_all; done) | (have q9 : sB μ z = 0 := of_decide_eq_true c16; rw [fo_l (by rw [fo_r (by simp [fo, rg, c7, q9])]; omega), fo_r (by simp [fo, rg, c7, q9])]; done) | (simp [fo, rg, c7]; done) | fail) ht4000_σ_7 | exact tk_eq (k := 4) (by first | (simp [fo, rg, c7, hz0, hp0, ofS, o1, c7, c16, c33, c41]; done) | fail) ht4000_σ_7 | fail), (by exact hcFR_σ_7)⟩)
    ·
      refine g_iconst h dX12_echo_19 (by decide) ?_
      refine g_goto h dX12_echo_20 ?_
      refine g_istore (L' := [(0, .ref (w.1 0)), (1, .int i), (2, .int j), (3, .int nm), (4, .int z), (5, .int (nI 1))]) h dX12_echo_29 rfl (by decide) rfl ?_
      refine g_iload h dX12_echo_31 5 rfl ?_
      refine g_ifN_ne h dX12_echo_33 (by decide) (fun c33 => ?_) (fun c33 => absurd c33 (by decide))
      refine g_iload h dX12_echo_47 5 rfl ?_
      refine g_ifN_le h dX12_echo_49 (by decide) (fun c49 => absurd c49 (by decide)) (fun c49 => ?_)
      refine g_aload_n h dX12_echo_52 0 rfl ?_
      refine g_iload h dX12_echo_53 5 rfl ?_
      refine g_cvi (rest := []) h (r_refuse hW (nI 1) ) lX12_refuse mX12_272 (Nat.lt_of_lt_of_le (by decide) (Nat.le_refl _)) (by decide) sc_0 rfl rfl rfl rfl dX12_echo_55 (fun σ_8 eσ_8 => ?_)
      have eσ_8_a : σ_8 = upd σ 4000 (nI 1) := eσ_8
      have ht4000_σ_8 : σ_8 4000 = (nI 1) := by rw [eσ_8_a]; exact upd_eq
      have hcFR_σ_8 : ∀ a, (464 ≤ a ∧ a ≠ 4000 ∨ a = 10) → σ_8 a = σ a := by intro a ha; exact Eq.trans (b := σ a) (by rw [eσ_8_a, upd_ne (by first | omega | (simp only [vb] at *; omega))]) (hcFR_σ a ha)
      have hvσ_8 : vw 0 σ_8 = μ := by rw [eσ_8_a, vw_out (by omega)]; first | exact hv | assumption
      refine g_goto h dX12_echo_58 ?_
      exact g_iret h hQ dX12_echo_82 (congrArg (fun z => some (Value.int z)) (show (an (fo (fo (fo (rg nm (nI 0) (nI 15)) (sB μ z)) (ps μ i j)) (ofS μ i)) (b2i (tkB μ (8 * toN i + toN j) (toN nm)))) = (-1) by first | exact an_yes (by first | (simp [fo, rg, c7, hz0, hp0, ofS, o1, c7, c16]; done) | fail) (by first | rfl | (rw [c71]; rfl)) | exact an_no (k := 1) (by first | (simp [fo, rg, c7, hz0, hp0, ofS, o1, c7, c16]; done) | (have q9 : ¬ sB μ z = 0 := of_decide_eq_false c16; rw [fo_l (by rw [fo_l (by rw [fo_r (by simp [rg, c7])]; exact q9)]; rw [fo_r (by simp [rg, c7])]; exact q9), fo_l (by rw [fo_r (by simp [rg, c7])]; exact q9), fo_r (by simp [rg, c7])]; unfold sB rg at q9 ⊢; split <;> simp_all; done) | (have q9 : sB μ z = 0 := of_decide_eq_true c16; rw [fo_l (by rw [fo_r (by simp [fo, rg, c7, q9])]; omega), fo_r (by simp [fo, rg, c7, q9])]; done) | (simp [fo, rg, c7]; done) | fail) (by first | decide | omega | assumption | exact nb1 (by assumption)) | fail)) (by exact ⟨(by first | exact pk_yes (by first | (simp [fo, rg, c7, hz0, hp0, ofS, o1, c7, c16]; done) | fail) (by rw [hvσ_8, Nat.add_zero]) | exact pk_no (k := 1) (by first | (simp [fo, rg, c7, hz0, hp0, ofS, o1, c7, c16]; done) | (have q9 : ¬ sB μ z = 0 := of_decide_eq_false c16; rw [fo_l (by rw [fo_l (by rw [fo_r (by simp [rg, c7])]; exact q9)]; rw [fo_r (by simp [rg, c7])]; exact q9), fo_l (by rw [fo_r (by simp [rg, c7])]; exact q9), fo_r (by simp [rg, c7])]; unfold sB rg at q9 ⊢; split <;> simp_all; done) | (have q9 : sB μ z = 0 := of_decide_eq_true c16; rw [fo_l (by rw [fo_r (by simp [fo, rg, c7, q9])]; omega), fo_r (by simp [fo, rg, c7, q9])]; done) | (simp [fo, rg, c7]; done) | fail) (by first | decide | omega | assumption | exact nb1 (by assumption)) hvσ_8 | fail), (by first | exact tk_eq (k := 1) (by first | (simp [fo, rg, c7, hz0, hp0, ofS, o1, c7, c16]; done) | (have q9 : ¬ sB μ z = 0 := of_decide_eq_false c16; rw [fo_l (by rw [fo_l (by rw [fo_r (by simp [rg, c7])]; exact q9)]; rw [fo_r (by simp [rg, c7])]; exact q9), fo_l (by rw [fo_r (by simp [rg, c7])]; exact q9), fo_r (by simp [rg, c7])]; unfold sB rg at q9 ⊢; split <;> simp_all; done) | (have q9 : sB μ z = 0 := of_decide_eq_true c16; rw [fo_l (by rw [fo_r (by simp [fo, rg, c7, q9])]; omega), fo_r (by simp [fo, rg, c7, q9])]; done) | (simp [fo, rg, c7]; done) | fail) ht4000_σ_8 | exact tk_eq (k := 1) (by first | (simp [fo, rg, c7, hz0, hp0, ofS, o1, c7, c16]; done) | fail) ht4000_σ_8 | fail), (by exact hcFR_σ_8)⟩)

set_option maxRecDepth 100000 in
set_option maxHeartbeats 4000000 in
theorem p_echo {l : Launch} {w : Wd} (hW : Wi w) {σ : Mem} (i : Int32) (j : Int32) (nm : Int32) (z : Int32)  (μ : Nat → Int32) (hv : vw (vb 0) σ = μ) (hI : MI μ) : MC l w qX11_echo 3 [.ref (w.1 12), .int i, .int j, .int nm, .int z] σ (some (.int (an (fo (fo (fo (rg nm (nI 0) (nI 15)) (sB μ z)) (ps μ i j)) (ofS μ i)) (b2i (tkB μ (8 * toN i + toN j) (toN nm)))))) (fun σ' => (vw (vb 0) σ' = pk0 (fo (fo (fo (rg nm (nI 0) (nI 15)) (sB μ z)) (ps μ i j)) (ofS μ i)) (tkS μ (8 * toN i + toN j) (toN nm) z) μ) ∧ (σ' 14000 = (nI (fo (fo (fo (rg nm (nI 0) (nI 15)) (sB μ z)) (ps μ i j)) (ofS μ i)))) ∧ (∀ a, ((a < 10000 ∨ 10464 ≤ a) ∧ a ≠ 14000) → σ' a = σ a)) := by
  refine MC.of hW (by decide +kernel) (Nat.le_of_ble_eq_true rfl) (fun X h hQ hnm => ?_)
  have h : Fx X w cX11_echo 7 RX11 3 := h
  have hQ : Qx X w (some .int) (some (.int (an (fo (fo (fo (rg nm (nI 0) (nI 15)) (sB μ z)) (ps μ i j)) (ofS μ i)) (b2i (tkB μ (8 * toN i + toN j) (toN nm)))))) (fun σ' => (vw (vb 0) σ' = pk0 (fo (fo (fo (rg nm (nI 0) (nI 15)) (sB μ z)) (ps μ i j)) (ofS μ i)) (tkS μ (8 * toN i + toN j) (toN nm) z) μ) ∧ (σ' 14000 = (nI (fo (fo (fo (rg nm (nI 0) (nI 15)) (sB μ z)) (ps μ i j)) (ofS μ i)))) ∧ (∀ a, ((a < 10000 ∨ 10464 ≤ a) ∧ a ≠ 14000) → σ' a = σ a)) := hQ
  have hN8 := mi_8 hI
  have hvb0 : vb 0 = 10000 := rfl
  have hcFR_σ : ∀ a, ((a < 10000 ∨ 10464 ≤ a) ∧ a ≠ 14000) → σ a = σ a := fun _ _ => rfl
  show G X w 7 0 [(0, .ref (w.1 12)), (1, .int i), (2, .int j), (3, .int nm), (4, .int z)] [] σ
  refine g_iload_n h dX11_echo_0 3 rfl ?_
  refine g_iconst h dX11_echo_1 (by decide) ?_
  refine g_bipush h dX11_echo_2 (by decide) ?_
  refine g_cspi (rest := []) h (c_rg hW nm (nI 0) (nI 15) ) lX11_rangeStatus mX11_102 (Nat.lt_of_lt_of_le (by decide) (Nat.le_refl _)) (by decide) rfl rfl rfl dX11_echo_4 ?_
  refine g_aload_n h dX11_echo_7 0 rfl ?_
  refine g_iload h dX11_echo_8 4 rfl ?_
  refine g_cvpi (rest := [.int (nI (rg nm (nI 0) (nI 15)))]) h (c_sB hW z μ (by first | exact hv | assumption | fail) (by assumption)) lX11_setStatus mX11_253 (Nat.lt_of_lt_of_le (by decide) (Nat.le_refl _)) (by decide) sc_12 rfl rfl rfl rfl dX11_echo_10 ?_
  refine g_cspi (rest := []) h (c_fo hW (rg nm (nI 0) (nI 15)) (sB μ z) (by repeat (first | omega | exact rg_lt | exact ns_lt | exact ps_lt | exact gst_lt | exact ofS_lt | exact if_lt (by decide) (by decide) | apply fo_lt)) (by repeat (first | omega | exact rg_lt | exact ns_lt | exact ps_lt | exact gst_lt | exact ofS_lt | exact if_lt (by decide) (by decide) | apply fo_lt))) lX11_firstOf mX11_163 (Nat.lt_of_lt_of_le (by decide) (Nat.le_refl _)) (by decide) rfl rfl rfl dX11_echo_13 ?_
  refine g_istore (L' := [(0, .ref (w.1 12)), (1, .int i), (2, .int j), (3, .int nm), (4, .int z), (5, .int (nI (fo (rg nm (nI 0) (nI 15)) (sB μ z))))]) h dX11_echo_16 rfl (by decide) rfl ?_
  refine g_aload_n h dX11_echo_18 0 rfl ?_
  refine g_iload_n h dX11_echo_19 1 rfl ?_
  refine g_cvpi (rest := []) h (c_isOff hW i μ (by first | exact hv | assumption | fail) (by assumption)) lX11_isOff mX11_302 (Nat.lt_of_lt_of_le (by decide) (Nat.le_refl _)) (by decide) sc_12 rfl rfl rfl rfl dX11_echo_20 ?_
  refine g_ifB_eq h dX11_echo_23 (fun c23 => ?_) (fun c23 => ?_)
  ·
    refine g_iconst h dX11_echo_30 (by decide) ?_
    refine g_istore (L' := [(0, .ref (w.1 12)), (1, .int i), (2, .int j), (3, .int nm), (4, .int z), (5, .int (nI (fo (rg nm (nI 0) (nI 15)) (sB μ z)))), (6, .int (nI 0))]) h dX11_echo_31 rfl (by decide) rfl ?_
    refine g_aload_n h dX11_echo_33 0 rfl ?_
    refine g_iload h dX11_echo_34 5 rfl ?_
    refine g_aload_n h dX11_echo_36 0 rfl ?_
    refine g_iload_n h dX11_echo_37 1 rfl ?_
    refine g_iload_n h dX11_echo_38 2 rfl ?_
    refine g_cvpi (rest := [.int (nI (fo (rg nm (nI 0) (nI 15)) (sB μ z))), .ref (w.1 12)]) h (c_ps hW i j μ (by first | exact hv | assumption | fail)) lX11_pairStatus mX11_209 (Nat.lt_of_lt_of_le (by decide) (Nat.le_refl _)) (by decide) sc_12 rfl rfl rfl rfl dX11_echo_39 ?_
    refine g_cspi (rest := [.ref (w.1 12)]) h (c_fo hW (fo (rg nm (nI 0) (nI 15)) (sB μ z)) (ps μ i j) (by repeat (first | omega | exact rg_lt | exact ns_lt | exact ps_lt | exact gst_lt | exact ofS_lt | exact if_lt (by decide) (by decide) | apply fo_lt)) (by repeat (first | omega | exact rg_lt | exact ns_lt | exact ps_lt | exact gst_lt | exact ofS_lt | exact if_lt (by decide) (by decide) | apply fo_lt))) lX11_firstOf mX11_163 (Nat.lt_of_lt_of_le (by decide) (Nat.le_refl _)) (by decide) rfl rfl rfl dX11_echo_42 ?_
    refine g_iload h dX11_echo_45 6 rfl ?_
    refine g_cspi (rest := [.ref (w.1 12)]) h (c_fo hW (fo (fo (rg nm (nI 0) (nI 15)) (sB μ z)) (ps μ i j)) 0 (by repeat (first | omega | exact rg_lt | exact ns_lt | exact ps_lt | exact gst_lt | exact ofS_lt | exact if_lt (by decide) (by decide) | apply fo_lt)) (by repeat (first | omega | exact rg_lt | exact ns_lt | exact ps_lt | exact gst_lt | exact ofS_lt | exact if_lt (by decide) (by decide) | apply fo_lt))) lX11_firstOf mX11_163 (Nat.lt_of_lt_of_le (by decide) (Nat.le_refl _)) (by decide) rfl rfl rfl dX11_echo_47 ?_
    refine g_cvi (rest := []) h (c_fails hW (fo (fo (fo (rg nm (nI 0) (nI 15)) (sB μ z)) (ps μ i j)) 0) (by repeat (first | omega | exact rg_lt | exact ns_lt | exact ps_lt | exact gst_lt | exact ofS_lt | exact if_lt (by decide) (by decide) | apply fo_lt))) lX11_fails mX11_106 (Nat.lt_of_lt_of_le (by decide) (Nat.le_refl _)) (by decide) sc_12 rfl rfl rfl rfl dX11_echo_50 (fun σ_1 eσ_1 => ?_)
    obtain ⟨eσ_1_a, eσ_1_b⟩ := eσ_1
    have eσ_1_a : σ_1 14000 = (nI (fo (fo (fo (rg nm (nI 0) (nI 15)) (sB μ z)) (ps μ i j)) 0)) := eσ_1_a
    have eσ_1_b : ∀ a, (a ≠ 14000) → σ_1 a = σ a := eσ_1_b
    have ht14000_σ_1 : σ_1 14000 = (nI (fo (fo (fo (rg nm (nI 0) (nI 15)) (sB μ z)) (ps μ i j)) 0)) := eσ_1_a
    have hcFR_σ_1 : ∀ a, ((a < 10000 ∨ 10464 ≤ a) ∧ a ≠ 14000) → σ_1 a = σ a := by intro a ha; exact Eq.trans (b := σ a) (eσ_1_b a (by first | omega | (simp only [vb] at *; omega))) (hcFR_σ a ha)
    have hvσ_1 : vw (vb 0) σ_1 = μ := by rw [vw_fr (σ := σ) (fun j _ _ => eσ_1_b _ (by first | omega | (simp only [vb] at *; omega)))]; first | exact hv | assumption
    refine g_ifB_eq h dX11_echo_53 (fun c53 => ?_) (fun c53 => ?_)
    ·
      have hS0 : fo (fo (fo (rg nm (nI 0) (nI 15)) (sB μ z)) (ps μ i j)) (ofS μ i) = 0 := by first | (have q := nb0 c53; unfold ofS; simpa [c23, c53] using q) | exact nb0 c53
      obtain ⟨hs5, hs4⟩ := fo_0 hS0
      obtain ⟨hs3, hs2⟩ := fo_0 hs5
      obtain ⟨hs0, hs1⟩ := fo_0 hs3
      obtain ⟨em, hm9⟩ := rg_N (by decide) hs0
      have h0 := ps_0 hs2
      obtain ⟨ei, hi9⟩ := nB_N hI h0.1
      obtain ⟨ej, hj9⟩ := nB_N hI h0.2.1
      rw [hs3]
      rw [ei, ej, em]
      show G X w 7 58 [(0, .ref (w.1 12)), (1, .int (nI (toN i))), (2, .int (nI (toN j))), (3, .int (nI (toN nm))), (4, .int z), (5, .int (nI 0)), (6, .int (nI 0))] [] σ_1
      refine g_aload_n h dX11_echo_58 0 rfl ?_
      refine g_getr h dX11_echo_59 gX11_23 sc_12 rfl ?_
      refine g_getr h dX11_echo_62 gX11_135 (sM_0 (m := 0) (by decide)) rfl ?_
      refine g_iload_n h dX11_echo_65 1 rfl ?_
      refine g_iload_n h dX11_echo_66 2 rfl ?_
      refine g_cspi (rest := [.ref (w.1 (mc 0 11))]) h (c_at hW (toN i) (toN j) ) lX5_at mX11_215 (Nat.lt_of_lt_of_le (by decide) (Nat.le_refl _)) (by decide) rfl rfl rfl dX11_echo_67 ?_
      refine g_iload_n h dX11_echo_70 3 rfl ?_
      refine g_iload h dX11_echo_71 4 rfl ?_
      refine g_aload_n h dX11_echo_73 0 rfl ?_
      refine g_getr h dX11_echo_74 gX11_23 sc_12 rfl ?_
      refine g_geti h dX11_echo_77 gX11_132 (sM_0 (m := 0) (by decide)) rfl ?_
      refine g_top (y := μ 4) (vw_pic (b := (vb 0)) (k := 4) (by first | exact hvσ_1 | assumption) (by omega)) ?_
      refine g_top (y := nI (nA μ 4)) (mi_4 (by assumption)) ?_
      have b9_77 : nA μ 4 < 100 := mb_4 (by assumption)
      refine g_cvi (rest := []) h (c_takeIn hW (8 * (toN i) + (toN j)) (toN nm) z 0 μ (by first | omega | decide | fail) (by first | exact hvσ_1 | assumption | fail) (by assumption) (by omega) (by omega)) lX6_takeIn mX11_369 (Nat.lt_of_lt_of_le (by decide) (Nat.le_refl _)) (by decide) (sM_11 (m := 0) (by decide)) rfl rfl rfl rfl dX11_echo_80 (fun σ_2 eσ_2 => ?_)
      obtain ⟨eσ_2_a, eσ_2_b⟩ := eσ_2
      have eσ_2_a : vw (vb 0) σ_2 = tkS μ (8 * (toN i) + (toN j)) (toN nm) z := eσ_2_a
      have eσ_2_b : ∀ a, (a < vb 0 ∨ vb 0 + 464 ≤ a) → σ_2 a = σ_1 a := eσ_2_b
      have ht14000_σ_2 : σ_2 14000 = (nI (fo (fo (fo (rg nm (nI 0) (nI 15)) (sB μ z)) (ps μ i j)) 0)) := by rw [eσ_2_b _ (by first | omega | (simp only [vb] at *; omega))]; first | exact ht14000_σ_1 | assumption
      have hcFR_σ_2 : ∀ a, ((a < 10000 ∨ 10464 ≤ a) ∧ a ≠ 14000) → σ_2 a = σ a := by intro a ha; exact Eq.trans (b := σ_1 a) (eσ_2_b a (by first | omega | (simp only [vb] at *; omega))) (hcFR_σ_1 a ha)
      obtain ⟨μ_3, eμ_3⟩ : ∃ μ_3 : Nat → Int32, μ_3 = tkS μ (8 * (toN i) + (toN j)) (toN nm) z := ⟨_, rfl⟩
      have hvσ_2 : vw (vb 0) σ_2 = μ_3 := by rw [eμ_3]; exact eσ_2_a
      refine g_cspi (rest := []) h (c_asN hW (tkB μ (8 * (toN i) + (toN j)) (toN nm)) ) lX11_asNumber mX11_170 (Nat.lt_of_lt_of_le (by decide) (Nat.le_refl _)) (by decide) rfl rfl rfl dX11_echo_83 ?_
      exact g_iret h hQ dX11_echo_86 (congrArg (fun z => some (Value.int z)) (show (an (fo (fo (fo (rg nm (nI 0) (nI 15)) (sB μ z)) (ps μ i j)) (ofS μ i)) (b2i (tkB μ (8 * toN i + toN j) (toN nm)))) = (b2i (tkB μ (8 * (toN i) + (toN j)) (toN nm))) by first | exact an_yes (by exact hS0) (by rfl) | exact an_no (k := (fo (fo (fo (rg nm (nI 0) (nI 15)) (sB μ z)) (ps μ i j)) 0)) (by first | exact hS0 | (simp only [ofS]; first | (rw [if_pos c23]; done) | (rw [if_neg (by rw [c23]; decide)]; done)) | fail) (by first | decide | omega | assumption | exact nb1 (by assumption)) | fail)) (by exact ⟨(by first | exact pk_yes (by exact hS0) (by rw [hvσ_2, eμ_3]) | exact pk_no (k := (fo (fo (fo (rg nm (nI 0) (nI 15)) (sB μ z)) (ps μ i j)) 0)) (by first | exact hS0 | (simp only [ofS]; first | (rw [if_pos c23]; done) | (rw [if_neg (by rw [c23]; decide)]; done)) | fail) (by first | decide | omega | assumption | exact nb1 (by assumption)) hvσ_2 | fail), (by first | exact tk_eq (k := (fo (fo (fo (rg nm (nI 0) (nI 15)) (sB μ z)) (ps μ i j)) 0)) (by first | exact hS0 | (simp only [ofS]; first | (rw [if_pos c23]; done) | (rw [if_neg (by rw [c23]; decide)]; done)) | fail) ht14000_σ_2 | exact tk_eq (k := (fo (fo (fo (rg nm (nI 0) (nI 15)) (sB μ z)) (ps μ i j)) 0)) (by exact hS0) ht14000_σ_2 | fail), (by exact hcFR_σ_2)⟩)
    ·
      refine g_iconstv h dX11_echo_56 (v := (-1)) (by decide) ?_
      exact g_iret h hQ dX11_echo_57 (congrArg (fun z => some (Value.int z)) (show (an (fo (fo (fo (rg nm (nI 0) (nI 15)) (sB μ z)) (ps μ i j)) (ofS μ i)) (b2i (tkB μ (8 * toN i + toN j) (toN nm)))) = (-1) by first | exact an_yes (by exact hS0) (by rfl) | exact an_no (k := (fo (fo (fo (rg nm (nI 0) (nI 15)) (sB μ z)) (ps μ i j)) 0)) (by first | exact hS0 | (simp only [ofS]; first | (rw [if_pos c23]; done) | (rw [if_neg (by rw [c23]; decide)]; done)) | fail) (by first | decide | omega | assumption | exact nb1 (by assumption)) | fail)) (by exact ⟨(by first | exact pk_yes (by exact hS0) (by rw [hvσ_1, Nat.add_zero]) | exact pk_no (k := (fo (fo (fo (rg nm (nI 0) (nI 15)) (sB μ z)) (ps μ i j)) 0)) (by first | exact hS0 | (simp only [ofS]; first | (rw [if_pos c23]; done) | (rw [if_neg (by rw [c23]; decide)]; done)) | fail) (by first | decide | omega | assumption | exact nb1 (by assumption)) hvσ_1 | fail), (by first | exact tk_eq (k := (fo (fo (fo (rg nm (nI 0) (nI 15)) (sB μ z)) (ps μ i j)) 0)) (by first | exact hS0 | (simp only [ofS]; first | (rw [if_pos c23]; done) | (rw [if_neg (by rw [c23]; decide)]; done)) | fail) ht14000_σ_1 | exact tk_eq (k := (fo (fo (fo (rg nm (nI 0) (nI 15)) (sB μ z)) (ps μ i j)) 0)) (by exact hS0) ht14000_σ_1 | fail), (by exact hcFR_σ_1)⟩)
  ·
    refine g_iconst h dX11_echo_26 (by decide) ?_
    refine g_goto h dX11_echo_27 ?_
    refine g_istore (L' := [(0, .ref (w.1 12)), (1, .int i), (2, .int j), (3, .int nm), (4, .int z), (5, .int (nI (fo (rg nm (nI 0) (nI 15)) (sB μ z)))), (6, .int (nI 4))]) h dX11_echo_31 rfl (by decide) rfl ?_
    refine g_aload_n h dX11_echo_33 0 rfl ?_
    refine g_iload h dX11_echo_34 5 rfl ?_
    refine g_aload_n h dX11_echo_36 0 rfl ?_
    refine g_iload_n h dX11_echo_37 1 rfl ?_
    refine g_iload_n h dX11_echo_38 2 rfl ?_
    refine g_cvpi (rest := [.int (nI (fo (rg nm (nI 0) (nI 15)) (sB μ z))), .ref (w.1 12)]) h (c_ps hW i j μ (by first | exact hv | assumption | fail)) lX11_pairStatus mX11_209 (Nat.lt_of_lt_of_le (by decide) (Nat.le_refl _)) (by decide) sc_12 rfl rfl rfl rfl dX11_echo_39 ?_
    refine g_cspi (rest := [.ref (w.1 12)]) h (c_fo hW (fo (rg nm (nI 0) (nI 15)) (sB μ z)) (ps μ i j) (by repeat (first | omega | exact rg_lt | exact ns_lt | exact ps_lt | exact gst_lt | exact ofS_lt | exact if_lt (by decide) (by decide) | apply fo_lt)) (by repeat (first | omega | exact rg_lt | exact ns_lt | exact ps_lt | exact gst_lt | exact ofS_lt | exact if_lt (by decide) (by decide) | apply fo_lt))) lX11_firstOf mX11_163 (Nat.lt_of_lt_of_le (by decide) (Nat.le_refl _)) (by decide) rfl rfl rfl dX11_echo_42 ?_
    refine g_iload h dX11_echo_45 6 rfl ?_
    refine g_cspi (rest := [.ref (w.1 12)]) h (c_fo hW (fo (fo (rg nm (nI 0) (nI 15)) (sB μ z)) (ps μ i j)) 4 (by repeat (first | omega | exact rg_lt | exact ns_lt | exact ps_lt | exact gst_lt | exact ofS_lt | exact if_lt (by decide) (by decide) | apply fo_lt)) (by repeat (first | omega | exact rg_lt | exact ns_lt | exact ps_lt | exact gst_lt | exact ofS_lt | exact if_lt (by decide) (by decide) | apply fo_lt))) lX11_firstOf mX11_163 (Nat.lt_of_lt_of_le (by decide) (Nat.le_refl _)) (by decide) rfl rfl rfl dX11_echo_47 ?_
    refine g_cvi (rest := []) h (c_fails hW (fo (fo (fo (rg nm (nI 0) (nI 15)) (sB μ z)) (ps μ i j)) 4) (by repeat (first | omega | exact rg_lt | exact ns_lt | exact ps_lt | exact gst_lt | exact ofS_lt | exact if_lt (by decide) (by decide) | apply fo_lt))) lX11_fails mX11_106 (Nat.lt_of_lt_of_le (by decide) (Nat.le_refl _)) (by decide) sc_12 rfl rfl rfl rfl dX11_echo_50 (fun σ_4 eσ_4 => ?_)
    obtain ⟨eσ_4_a, eσ_4_b⟩ := eσ_4
    have eσ_4_a : σ_4 14000 = (nI (fo (fo (fo (rg nm (nI 0) (nI 15)) (sB μ z)) (ps μ i j)) 4)) := eσ_4_a
    have eσ_4_b : ∀ a, (a ≠ 14000) → σ_4 a = σ a := eσ_4_b
    have ht14000_σ_4 : σ_4 14000 = (nI (fo (fo (fo (rg nm (nI 0) (nI 15)) (sB μ z)) (ps μ i j)) 4)) := eσ_4_a
    have hcFR_σ_4 : ∀ a, ((a < 10000 ∨ 10464 ≤ a) ∧ a ≠ 14000) → σ_4 a = σ a := by intro a ha; exact Eq.trans (b := σ a) (eσ_4_b a (by first | omega | (simp only [vb] at *; omega))) (hcFR_σ a ha)
    have hvσ_4 : vw (vb 0) σ_4 = μ := by rw [vw_fr (σ := σ) (fun j _ _ => eσ_4_b _ (by first | omega | (simp only [vb] at *; omega)))]; first | exact hv | assumption
    refine g_ifB_eq h dX11_echo_53 (fun c53 => ?_) (fun c53 => ?_)
    ·
      have hS0 : fo (fo (fo (rg nm (nI 0) (nI 15)) (sB μ z)) (ps μ i j)) (ofS μ i) = 0 := by first | (have q := nb0 c53; unfold ofS; simpa [c23, c53] using q) | exact nb0 c53
      obtain ⟨hs5, hs4⟩ := fo_0 hS0
      obtain ⟨hs3, hs2⟩ := fo_0 hs5
      obtain ⟨hs0, hs1⟩ := fo_0 hs3
      obtain ⟨em, hm9⟩ := rg_N (by decide) hs0
      have h0 := ps_0 hs2
      obtain ⟨ei, hi9⟩ := nB_N hI h0.1
      obtain ⟨ej, hj9⟩ := nB_N hI h0.2.1
      rw [hs3]
      rw [ei, ej, em]
      show G X w 7 58 [(0, .ref (w.1 12)), (1, .int (nI (toN i))), (2, .int (nI (toN j))), (3, .int (nI (toN nm))), (4, .int z), (5, .int (nI 0)), (6, .int (nI 4))] [] σ_4
      refine g_aload_n h dX11_echo_58 0 rfl ?_
      refine g_getr h dX11_echo_59 gX11_23 sc_12 rfl ?_
      refine g_getr h dX11_echo_62 gX11_135 (sM_0 (m := 0) (by decide)) rfl ?_
      refine g_iload_n h dX11_echo_65 1 rfl ?_
      refine g_iload_n h dX11_echo_66 2 rfl ?_
      refine g_cspi (rest := [.ref (w.1 (mc 0 11))]) h (c_at hW (toN i) (toN j) ) lX5_at mX11_215 (Nat.lt_of_lt_of_le (by decide) (Nat.le_refl _)) (by decide) rfl rfl rfl dX11_echo_67 ?_
      refine g_iload_n h dX11_echo_70 3 rfl ?_
      refine g_iload h dX11_echo_71 4 rfl ?_
      refine g_aload_n h dX11_echo_73 0 rfl ?_
      refine g_getr h dX11_echo_74 gX11_23 sc_12 rfl ?_
      refine g_geti h dX11_echo_77 gX11_132 (sM_0 (m := 0) (by decide)) rfl ?_
      refine g_top (y := μ 4) (vw_pic (b := (vb 0)) (k := 4) (by first | exact hvσ_4 | assumption) (by omega)) ?_
      refine g_top (y := nI (nA μ 4)) (mi_4 (by assumption)) ?_
      have b9_77 : nA μ 4 < 100 := mb_4 (by assumption)
      refine g_cvi (rest := []) h (c_takeIn hW (8 * (toN i) + (toN j)) (toN nm) z 0 μ (by first | omega | decide | fail) (by first | exact hvσ_4 | assumption | fail) (by assumption) (by omega) (by omega)) lX6_takeIn mX11_369 (Nat.lt_of_lt_of_le (by decide) (Nat.le_refl _)) (by decide) (sM_11 (m := 0) (by decide)) rfl rfl rfl rfl dX11_echo_80 (fun σ_5 eσ_5 => ?_)
      obtain ⟨eσ_5_a, eσ_5_b⟩ := eσ_5
      have eσ_5_a : vw (vb 0) σ_5 = tkS μ (8 * (toN i) + (toN j)) (toN nm) z := eσ_5_a
      have eσ_5_b : ∀ a, (a < vb 0 ∨ vb 0 + 464 ≤ a) → σ_5 a = σ_4 a := eσ_5_b
      have ht14000_σ_5 : σ_5 14000 = (nI (fo (fo (fo (rg nm (nI 0) (nI 15)) (sB μ z)) (ps μ i j)) 4)) := by rw [eσ_5_b _ (by first | omega | (simp only [vb] at *; omega))]; first | exact ht14000_σ_4 | assumption
      have hcFR_σ_5 : ∀ a, ((a < 10000 ∨ 10464 ≤ a) ∧ a ≠ 14000) → σ_5 a = σ a := by intro a ha; exact Eq.trans (b := σ_4 a) (eσ_5_b a (by first | omega | (simp only [vb] at *; omega))) (hcFR_σ_4 a ha)
      obtain ⟨μ_6, eμ_6⟩ : ∃ μ_6 : Nat → Int32, μ_6 = tkS μ (8 * (toN i) + (toN j)) (toN nm) z := ⟨_, rfl⟩
      have hvσ_5 : vw (vb 0) σ_5 = μ_6 := by rw [eμ_6]; exact eσ_5_a
      refine g_cspi (rest := []) h (c_asN hW (tkB μ (8 * (toN i) + (toN j)) (toN nm)) ) lX11_asNumber mX11_170 (Nat.lt_of_lt_of_le (by decide) (Nat.le_refl _)) (by decide) rfl rfl rfl dX11_echo_83 ?_
      exact g_iret h hQ dX11_echo_86 (congrArg (fun z => some (Value.int z)) (show (an (fo (fo (fo (rg nm (nI 0) (nI 15)) (sB μ z)) (ps μ i j)) (ofS μ i)) (b2i (tkB μ (8 * toN i + toN j) (toN nm)))) = (b2i (tkB μ (8 * (toN i) + (toN j)) (toN nm))) by first | exact an_yes (by exact hS0) (by rfl) | exact an_no (k := (fo (fo (fo (rg nm (nI 0) (nI 15)) (sB μ z)) (ps μ i j)) 4)) (by first | exact hS0 | (simp only [ofS]; first | (rw [if_pos c23]; done) | (rw [if_neg (by rw [c23]; decide)]; done)) | fail) (by first | decide | omega | assumption | exact nb1 (by assumption)) | fail)) (by exact ⟨(by first | exact pk_yes (by exact hS0) (by rw [hvσ_5, eμ_6]) | exact pk_no (k := (fo (fo (fo (rg nm (nI 0) (nI 15)) (sB μ z)) (ps μ i j)) 4)) (by first | exact hS0 | (simp only [ofS]; first | (rw [if_pos c23]; done) | (rw [if_neg (by rw [c23]; decide)]; done)) | fail) (by first | decide | omega | assumption | exact nb1 (by assumption)) hvσ_5 | fail), (by first | exact tk_eq (k := (fo (fo (fo (rg nm (nI 0) (nI 15)) (sB μ z)) (ps μ i j)) 4)) (by first | exact hS0 | (simp only [ofS]; first | (rw [if_pos c23]; done) | (rw [if_neg (by rw [c23]; decide)]; done)) | fail) ht14000_σ_5 | exact tk_eq (k := (fo (fo (fo (rg nm (nI 0) (nI 15)) (sB μ z)) (ps μ i j)) 4)) (by exact hS0) ht14000_σ_5 | fail), (by exact hcFR_σ_5)⟩)
    ·
      refine g_iconstv h dX11_echo_56 (v := (-1)) (by decide) ?_
      exact g_iret h hQ dX11_echo_57 (congrArg (fun z => some (Value.int z)) (show (an (fo (fo (fo (rg nm (nI 0) (nI 15)) (sB μ z)) (ps μ i j)) (ofS μ i)) (b2i (tkB μ (8 * toN i + toN j) (toN nm)))) = (-1) by first | exact an_yes (by exact hS0) (by rfl) | exact an_no (k := (fo (fo (fo (rg nm (nI 0) (nI 15)) (sB μ z)) (ps μ i j)) 4)) (by first | exact hS0 | (simp only [ofS]; first | (rw [if_pos c23]; done) | (rw [if_neg (by rw [c23]; decide)]; done)) | fail) (by first | decide | omega | assumption | exact nb1 (by assumption)) | fail)) (by exact ⟨(by first | exact pk_yes (by exact hS0) (by rw [hvσ_4, Nat.add_zero]) | exact pk_no (k := (fo (fo (fo (rg nm (nI 0) (nI 15)) (sB μ z)) (ps μ i j)) 4)) (by first | exact hS0 | (simp only [ofS]; first | (rw [if_pos c23]; done) | (rw [if_neg (by rw [c23]; decide)]; done)) | fail) (by first | decide | omega | assumption | exact nb1 (by assumption)) hvσ_4 | fail), (by first | exact tk_eq (k := (fo (fo (fo (rg nm (nI 0) (nI 15)) (sB μ z)) (ps μ i j)) 4)) (by first | exact hS0 | (simp only [ofS]; first | (rw [if_pos c23]; done) | (rw [if_neg (by rw [c23]; decide)]; done)) | fail) ht14000_σ_4 | exact tk_eq (k := (fo (fo (fo (rg nm (nI 0) (nI 15)) (sB μ z)) (ps μ i j)) 4)) (by exact hS0) ht14000_σ_4 | fail), (by exact hcFR_σ_4)⟩)

set_option maxRecDepth 100000 in
set_option maxHeartbeats 4000000 in
theorem q_sure {l : Launch} {w : Wd} (hW : Wi w) {σ : Mem} (i : Int32) (j : Int32)  (μ : Nat → Int32) (hv : vw 0 σ = μ) (hI : MI μ) : MC l w qX12_sure 6 [.ref (w.1 0), .int i, .int j] σ (some (.int (an (fo (gst μ i j) (if (gnw μ (toN i) (toN j)).1 = 0 then 0 else 8)) (nI (v_su μ (gnw μ (toN i) (toN j)).2.2.1 ((gnw μ (toN i) (toN j)).2.1 - 1)))))) (fun σ' => (σ' 4000 = (nI (fo (gst μ i j) (if (gnw μ (toN i) (toN j)).1 = 0 then 0 else 8)))) ∧ (∀ a, ((a < 4900 ∨ 6000 ≤ a) ∧ a ≠ 4000) → σ' a = σ a)) := by
  refine MC.of hW (by decide +kernel) (Nat.le_of_ble_eq_true rfl) (fun X h hQ hnm => ?_)
  have h : Fx X w cX12_sure 6 RX12 6 := h
  have hQ : Qx X w (some .int) (some (.int (an (fo (gst μ i j) (if (gnw μ (toN i) (toN j)).1 = 0 then 0 else 8)) (nI (v_su μ (gnw μ (toN i) (toN j)).2.2.1 ((gnw μ (toN i) (toN j)).2.1 - 1)))))) (fun σ' => (σ' 4000 = (nI (fo (gst μ i j) (if (gnw μ (toN i) (toN j)).1 = 0 then 0 else 8)))) ∧ (∀ a, ((a < 4900 ∨ 6000 ≤ a) ∧ a ≠ 4000) → σ' a = σ a)) := hQ
  have hN8 := mi_8 hI
  have hgs := gst_lt (μ := μ) (a := i) (b := j)
  have hcFR_σ : ∀ a, ((a < 4900 ∨ 6000 ≤ a) ∧ a ≠ 4000) → σ a = σ a := fun _ _ => rfl
  show G X w 6 0 [(0, .ref (w.1 0)), (1, .int i), (2, .int j)] [] σ
  refine g_aload_n h dX12_sure_0 0 rfl ?_
  refine g_iload_n h dX12_sure_1 1 rfl ?_
  refine g_iload_n h dX12_sure_2 2 rfl ?_
  refine g_cvpi (rest := []) h (r_gst hW i j μ (by first | exact hv | assumption | fail) (by assumption)) lX12_wrongGoing mX12_315 (Nat.lt_of_lt_of_le (by decide) (Nat.le_refl _)) (by decide) sc_0 rfl rfl rfl rfl dX12_sure_3 ?_
  refine g_istore_n (L' := [(0, .ref (w.1 0)), (1, .int i), (2, .int j), (3, .int (nI (gst μ i j)))]) h dX12_sure_6 rfl (by decide) rfl ?_
  refine g_iload_n h dX12_sure_7 3 rfl ?_
  refine g_ifN_ne h dX12_sure_8 (by omega) (fun c8 => ?_) (fun c8 => ?_)
  ·
    refine g_iload_n h dX12_sure_23 3 rfl ?_
    refine g_ifN_le h dX12_sure_24 (by omega) (fun c24 => ?_) (fun c24 => ?_)
    ·
      exfalso; omega
    ·
      refine g_aload_n h dX12_sure_27 0 rfl ?_
      refine g_iload_n h dX12_sure_28 3 rfl ?_
      refine g_cvi (rest := []) h (r_refuse hW (nI (gst μ i j)) ) lX12_refuse mX12_272 (Nat.lt_of_lt_of_le (by decide) (Nat.le_refl _)) (by decide) sc_0 rfl rfl rfl rfl dX12_sure_29 (fun σ_1 eσ_1 => ?_)
      have eσ_1_a : σ_1 = upd σ 4000 (nI (gst μ i j)) := eσ_1
      have ht4000_σ_1 : σ_1 4000 = (nI (gst μ i j)) := by rw [eσ_1_a]; exact upd_eq
      have hcFR_σ_1 : ∀ a, ((a < 4900 ∨ 6000 ≤ a) ∧ a ≠ 4000) → σ_1 a = σ a := by intro a ha; exact Eq.trans (b := σ a) (by rw [eσ_1_a, upd_ne (by first | omega | (simp only [vb] at *; omega))]) (hcFR_σ a ha)
      have hvσ_1 : vw 0 σ_1 = μ := by rw [eσ_1_a, vw_out (by omega)]; first | exact hv | assumption
      exact g_iret h hQ dX12_sure_32 (congrArg (fun z => some (Value.int z)) (show (an (fo (gst μ i j) (if (gnw μ (toN i) (toN j)).1 = 0 then 0 else 8)) (nI (v_su μ (gnw μ (toN i) (toN j)).2.2.1 ((gnw μ (toN i) (toN j)).2.1 - 1)))) = (-1) by first | exact an_yes (by first | exact (fo_r hp0).trans (if_pos (by omega)) | exact (fo_r hp0).trans (if_neg (by omega)) | (rw [fo_l (by omega)]; done) | fail) (by rw [hv3, show (gnw μ (toN i) (toN j)).2.1 - 1 = k from by omega]) | exact an_no (k := (gst μ i j)) (by first | exact (fo_r hp0).trans (if_pos (by omega)) | exact (fo_r hp0).trans (if_neg (by omega)) | (rw [fo_l (by omega)]; done) | fail) (by first | decide | omega | assumption | exact nb1 (by assumption)) | fail)) (by exact ⟨(by first | exact tk_eq (k := (gst μ i j)) (by first | exact (fo_r hp0).trans (if_pos (by omega)) | exact (fo_r hp0).trans (if_neg (by omega)) | (rw [fo_l (by omega)]; done) | fail) ht4000_σ_1 | exact tk_eq (k := (gst μ i j)) (by first | exact (fo_r hp0).trans (if_pos (by omega)) | exact (fo_r hp0).trans (if_neg (by omega)) | (rw [fo_l (by omega)]; done) | fail) ht4000_σ_1 | fail), (by exact hcFR_σ_1)⟩)
  ·
    have hp0 : gst μ i j = 0 := by omega
    have h0 := gst_0 hp0
    obtain ⟨ei, hi9⟩ := nB_N hI h0.1
    obtain ⟨ej, hj9⟩ := nB_N hI h0.2.1
    have hne := eN_ne ei ej h0.2.2.1
    have hg1 := gnw_1 (μ := μ) (fr := toN i) (to := toN j)
    have hg9 := gnw_le (μ := μ) (fr := toN i) (to := toN j)
    have hgh := gnw_how (μ := μ) (fr := toN i) (to := toN j)
    rw [hp0]
    rw [ei, ej]
    have hgl := gnw_lt (μ := μ) (fr := toN i) (to := toN j) hI hi9
    show G X w 6 11 [(0, .ref (w.1 0)), (1, .int (nI (toN i))), (2, .int (nI (toN j))), (3, .int (nI 0))] [] σ
    refine g_aload_n h dX12_sure_11 0 rfl ?_
    refine g_iload_n h dX12_sure_12 1 rfl ?_
    refine g_iload_n h dX12_sure_13 2 rfl ?_
    refine g_cvi (rest := []) h (r_going hW (toN i) (toN j) μ (by first | exact hv | assumption | fail) (by assumption) (by omega) (by omega) (by omega)) lX12_going mX12_318 (Nat.lt_of_lt_of_le (by decide) (Nat.le_refl _)) (by decide) sc_0 rfl rfl rfl rfl dX12_sure_14 (fun σ_2 eσ_2 => ?_)
    obtain ⟨eσ_2_a, eσ_2_b, eσ_2_c⟩ := eσ_2
    have eσ_2_a : σ_2 5011 = (nI ((gnw μ (toN i) (toN j)).2.1)) := eσ_2_a
    have eσ_2_b : GN 5170 σ_2 (gnw μ (toN i) (toN j)).2.1 (gnw μ (toN i) (toN j)).2.2.1 := eσ_2_b
    have eσ_2_c : ∀ a, ((a < 5150 ∨ 5180 ≤ a) ∧ a ≠ 5011) → σ_2 a = σ a := eσ_2_c
    have ht5011_σ_2 : σ_2 5011 = (nI ((gnw μ (toN i) (toN j)).2.1)) := eσ_2_a
    have hcFR_σ_2 : ∀ a, ((a < 4900 ∨ 6000 ≤ a) ∧ a ≠ 4000) → σ_2 a = σ a := by intro a ha; exact Eq.trans (b := σ a) (eσ_2_c a (by first | omega | (simp only [vb] at *; omega))) (hcFR_σ a ha)
    have hcGN_σ_2 : GN 5170 σ_2 (gnw μ (toN i) (toN j)).2.1 (gnw μ (toN i) (toN j)).2.2.1 := eσ_2_b
    have hvσ_2 : vw 0 σ_2 = μ := by rw [vw_fr (σ := σ) (fun j _ _ => eσ_2_c _ (by first | omega | (simp only [vb] at *; omega)))]; first | exact hv | assumption
    refine g_ifN_eq h dX12_sure_17 (by omega) (fun c17 => ?_) (fun c17 => ?_)
    ·
      refine g_iload_n h dX12_sure_23 3 rfl ?_
      refine g_ifN_le h dX12_sure_24 (by decide) (fun c24 => ?_) (fun c24 => absurd c24 (by decide))
      refine g_ldcw h dX12_sure_33 kX12_342 ?_
      refine g_istore (L' := [(0, .ref (w.1 0)), (1, .int (nI (toN i))), (2, .int (nI (toN j))), (3, .int (nI 0)), (4, .int (nI 1000000))]) h dX12_sure_36 rfl (by decide) rfl ?_
      refine g_iconst h dX12_sure_38 (by decide) ?_
      refine g_istore (L' := [(0, .ref (w.1 0)), (1, .int (nI (toN i))), (2, .int (nI (toN j))), (3, .int (nI 0)), (4, .int (nI 1000000)), (5, .int (nI 1))]) h dX12_sure_39 rfl (by decide) rfl ?_
      have lp41 : ∀ (k9 : Nat) (v : Nat) (k : Nat), (v = v_su μ (gnw μ (toN i) (toN j)).2.2.1 k) → (k + 1 ≤ (gnw μ (toN i) (toN j)).2.1) → (gnw μ (toN i) (toN j)).2.1 - 1 - k < k9 → G X w 6 41 [(0, .ref (w.1 0)), (1, .int (nI (toN i))), (2, .int (nI (toN j))), (3, .int (nI 0)), (4, .int (nI v)), (5, .int (nI (k + 1)))] [] σ_2 := by
        intro k9
        induction k9 with
        | zero => intro v k hv3 hk hm9; exact absurd hm9 (Nat.not_lt_zero _)
        | succ k9 ih41 =>
          intro v k hv3 hk hm41
          refine g_iload h dX12_sure_41 5 rfl ?_
          refine g_aload_n h dX12_sure_43 0 rfl ?_
          refine g_geti h dX12_sure_44 gX12_312 sc_0 rfl ?_
          refine g_top (y := (nI ((gnw μ (toN i) (toN j)).2.1))) (by first | exact ht5011_σ_2 | assumption) ?_
          refine g_icmpN_ge h dX12_sure_47 (by omega) (by omega) (fun c47 => ?_) (fun c47 => ?_)
          ·
            refine g_aload_n h dX12_sure_93 0 rfl ?_
            refine g_iload h dX12_sure_94 4 rfl ?_
            refine g_cvi (rest := []) h (r_gives hW (nI v) ) lX12_gives mX12_281 (Nat.lt_of_lt_of_le (by decide) (Nat.le_refl _)) (by decide) sc_0 rfl rfl rfl rfl dX12_sure_96 (fun σ_3 eσ_3 => ?_)
            have eσ_3_a : σ_3 = upd σ_2 4000 (nI 0) := eσ_3
            have ht5011_σ_3 : σ_3 5011 = (nI ((gnw μ (toN i) (toN j)).2.1)) := by rw [eσ_3_a, upd_ne (by first | omega | (simp only [vb] at *; omega))]; first | exact ht5011_σ_2 | assumption
            have ht4000_σ_3 : σ_3 4000 = (nI 0) := by rw [eσ_3_a]; exact upd_eq
            have hcFR_σ_3 : ∀ a, ((a < 4900 ∨ 6000 ≤ a) ∧ a ≠ 4000) → σ_3 a = σ a := by intro a ha; exact Eq.trans (b := σ_2 a) (by rw [eσ_3_a, upd_ne (by first | omega | (simp only [vb] at *; omega))]) (hcFR_σ_2 a ha)
            have hcGN_σ_3 : GN 5170 σ_3 (gnw μ (toN i) (toN j)).2.1 (gnw μ (toN i) (toN j)).2.2.1 := by rw [eσ_3_a]; exact GN.fr hcGN_σ_2 (fun a ha hb => upd_ne (by omega))
            have hvσ_3 : vw 0 σ_3 = μ := by rw [eσ_3_a, vw_out (by omega)]; first | exact hvσ_2 | assumption
            exact g_iret h hQ dX12_sure_99 (congrArg (fun z => some (Value.int z)) (show (an (fo (gst μ i j) (if (gnw μ (toN i) (toN j)).1 = 0 then 0 else 8)) (nI (v_su μ (gnw μ (toN i) (toN j)).2.2.1 ((gnw μ (toN i) (toN j)).2.1 - 1)))) = (nI v) by first | exact an_yes (by first | exact (fo_r hp0).trans (if_pos (by omega)) | exact (fo_r hp0).trans (if_neg (by omega)) | (rw [fo_l (by omega)]; done) | fail) (by rw [hv3, show (gnw μ (toN i) (toN j)).2.1 - 1 = k from by omega]) | exact an_no (k := 0) (by first | exact (fo_r hp0).trans (if_pos (by omega)) | exact (fo_r hp0).trans (if_neg (by omega)) | (rw [fo_l (by omega)]; done) | fail) (by first | decide | omega | assumption | exact nb1 (by assumption)) | fail)) (by exact ⟨(by first | exact tk_eq (k := 0) (by first | exact (fo_r hp0).trans (if_pos (by omega)) | exact (fo_r hp0).trans (if_neg (by omega)) | (rw [fo_l (by omega)]; done) | fail) ht4000_σ_3 | exact tk_eq (k := 0) (by first | exact (fo_r hp0).trans (if_pos (by omega)) | exact (fo_r hp0).trans (if_neg (by omega)) | (rw [fo_l (by omega)]; done) | fail) ht4000_σ_3 | fail), (by exact hcFR_σ_3)⟩)
          ·
            have hsu := v_su_le (μ := μ) (gn := (gnw μ (toN i) (toN j)).2.2.1) hI k (fun q hq => by have := hgl q (by omega); omega)
            have hga := hgl k (by omega)
            have hgb := hgl (k + 1) (by omega)
            refine g_iload h dX12_sure_50 4 rfl ?_
            refine g_i2l h dX12_sure_52  ?_
            refine g_aload_n h dX12_sure_53 0 rfl ?_
            refine g_bipush h dX12_sure_54 (by decide) ?_
            refine g_aload_n h dX12_sure_56 0 rfl ?_
            refine g_getr h dX12_sure_57 gX12_48 sc_0 rfl ?_
            refine g_iload h dX12_sure_60 5 rfl ?_
            refine g_iald h dX12_sure_62 sc_11 (by omega) ?_
            refine g_top (y := (nI ((gnw μ (toN i) (toN j)).2.2.1 (k + 1)))) (hcGN_σ_2 (k + 1) (by omega)) ?_
            refine g_aload_n h dX12_sure_63 0 rfl ?_
            refine g_getr h dX12_sure_64 gX12_48 sc_0 rfl ?_
            refine g_iload h dX12_sure_67 5 rfl ?_
            refine g_iconst h dX12_sure_69 (by decide) ?_
            refine g_isubN h dX12_sure_70 (by omega) ?_
            refine g_iald h dX12_sure_71 sc_11 (by omega) ?_
            refine g_top (y := (nI ((gnw μ (toN i) (toN j)).2.2.1 k))) (by have q9 := hcGN_σ_2 k (by omega); exact q9) ?_
            refine g_cspi (rest := [.ref (w.1 0), .long ((nI v).toInt64)]) h (r_two hW 80 ((gnw μ (toN i) (toN j)).2.2.1 (k + 1)) ((gnw μ (toN i) (toN j)).2.2.1 k) ) lX12_two mX12_69 (Nat.lt_of_lt_of_le (by decide) (Nat.le_refl _)) (by decide) rfl rfl rfl dX12_sure_72 ?_
            refine g_cvpi (rest := [.long ((nI v).toInt64)]) h (r_of hW (80 + (8 * ((gnw μ (toN i) (toN j)).2.2.1 (k + 1)) + ((gnw μ (toN i) (toN j)).2.2.1 k))) μ (by assumption) (by omega)) lX12_of mX12_61 (Nat.lt_of_lt_of_le (by decide) (Nat.le_refl _)) (by decide) sc_0 rfl rfl rfl rfl dX12_sure_75 ?_
            refine g_top (y := nI (nA μ (80 + (8 * ((gnw μ (toN i) (toN j)).2.2.1 (k + 1)) + ((gnw μ (toN i) (toN j)).2.2.1 k))))) (mi_80 (by assumption) (by omega)) ?_
            have b9_75 : nA μ (80 + (8 * ((gnw μ (toN i) (toN j)).2.2.1 (k + 1)) + ((gnw μ (toN i) (toN j)).2.2.1 k))) < 1000 := mb_80 (by assumption) (by omega)
            refine g_i2l h dX12_sure_78  ?_
            refine g_lmul h dX12_sure_79  ?_
            refine g_ldc2 h dX12_sure_80 kX12_343 ?_
            refine g_ldiv h dX12_sure_83 (by decide) ?_
            refine g_l2i h dX12_sure_84  ?_
            refine g_top (y := (nI (v * nA μ (80 + (8 * (gnw μ (toN i) (toN j)).2.2.1 (k + 1) + (gnw μ (toN i) (toN j)).2.2.1 k)) / 999))) (su_l (by rw [hv3]; exact hsu) (by omega)) ?_
            refine g_istore (L' := [(0, .ref (w.1 0)), (1, .int (nI (toN i))), (2, .int (nI (toN j))), (3, .int (nI 0)), (4, .int (nI (v * nA μ (80 + (8 * (gnw μ (toN i) (toN j)).2.2.1 (k + 1) + (gnw μ (toN i) (toN j)).2.2.1 k)) / 999))), (5, .int (nI (k + 1)))]) h dX12_sure_85 rfl (by decide) rfl ?_
            refine g_iincN (b := 1) (L' := [(0, .ref (w.1 0)), (1, .int (nI (toN i))), (2, .int (nI (toN j))), (3, .int (nI 0)), (4, .int (nI (v * nA μ (80 + (8 * (gnw μ (toN i) (toN j)).2.2.1 (k + 1) + (gnw μ (toN i) (toN j)).2.2.1 k)) / 999))), (5, .int (nI (k + 1 + 1)))]) h dX12_sure_87 5 rfl rfl (by decide) (by decide) rfl ?_
            refine g_goto h dX12_sure_90 ?_
            exact ih41 (v * nA μ (80 + (8 * (gnw μ (toN i) (toN j)).2.2.1 (k + 1) + (gnw μ (toN i) (toN j)).2.2.1 k)) / 999) (k + 1) (by rw [hv3]; rfl) (by omega) (by omega)
      exact lp41 (_) 1000000 0 (by rfl) (by omega) (Nat.lt_succ_self _)
    ·
      refine g_bipush h dX12_sure_20 (by decide) ?_
      refine g_istore_n (L' := [(0, .ref (w.1 0)), (1, .int (nI (toN i))), (2, .int (nI (toN j))), (3, .int (nI 8))]) h dX12_sure_22 rfl (by decide) rfl ?_
      refine g_iload_n h dX12_sure_23 3 rfl ?_
      refine g_ifN_le h dX12_sure_24 (by decide) (fun c24 => absurd c24 (by decide)) (fun c24 => ?_)
      refine g_aload_n h dX12_sure_27 0 rfl ?_
      refine g_iload_n h dX12_sure_28 3 rfl ?_
      refine g_cvi (rest := []) h (r_refuse hW (nI 8) ) lX12_refuse mX12_272 (Nat.lt_of_lt_of_le (by decide) (Nat.le_refl _)) (by decide) sc_0 rfl rfl rfl rfl dX12_sure_29 (fun σ_4 eσ_4 => ?_)
      have eσ_4_a : σ_4 = upd σ_2 4000 (nI 8) := eσ_4
      have ht5011_σ_4 : σ_4 5011 = (nI ((gnw μ (toN i) (toN j)).2.1)) := by rw [eσ_4_a, upd_ne (by first | omega | (simp only [vb] at *; omega))]; first | exact ht5011_σ_2 | assumption
      have ht4000_σ_4 : σ_4 4000 = (nI 8) := by rw [eσ_4_a]; exact upd_eq
      have hcFR_σ_4 : ∀ a, ((a < 4900 ∨ 6000 ≤ a) ∧ a ≠ 4000) → σ_4 a = σ a := by intro a ha; exact Eq.trans (b := σ_2 a) (by rw [eσ_4_a, upd_ne (by first | omega | (simp only [vb] at *; omega))]) (hcFR_σ_2 a ha)
      have hcGN_σ_4 : GN 5170 σ_4 (gnw μ (toN i) (toN j)).2.1 (gnw μ (toN i) (toN j)).2.2.1 := by rw [eσ_4_a]; exact GN.fr hcGN_σ_2 (fun a ha hb => upd_ne (by omega))
      have hvσ_4 : vw 0 σ_4 = μ := by rw [eσ_4_a, vw_out (by omega)]; first | exact hvσ_2 | assumption
      exact g_iret h hQ dX12_sure_32 (congrArg (fun z => some (Value.int z)) (show (an (fo (gst μ i j) (if (gnw μ (toN i) (toN j)).1 = 0 then 0 else 8)) (nI (v_su μ (gnw μ (toN i) (toN j)).2.2.1 ((gnw μ (toN i) (toN j)).2.1 - 1)))) = (-1) by first | exact an_yes (by first | exact (fo_r hp0).trans (if_pos (by omega)) | exact (fo_r hp0).trans (if_neg (by omega)) | (rw [fo_l (by omega)]; done) | fail) (by rw [hv3, show (gnw μ (toN i) (toN j)).2.1 - 1 = k from by omega]) | exact an_no (k := 8) (by first | exact (fo_r hp0).trans (if_pos (by omega)) | exact (fo_r hp0).trans (if_neg (by omega)) | (rw [fo_l (by omega)]; done) | fail) (by first | decide | omega | assumption | exact nb1 (by assumption)) | fail)) (by exact ⟨(by first | exact tk_eq (k := 8) (by first | exact (fo_r hp0).trans (if_pos (by omega)) | exact (fo_r hp0).trans (if_neg (by omega)) | (rw [fo_l (by omega)]; done) | fail) ht4000_σ_4 | exact tk_eq (k := 8) (by first | exact (fo_r hp0).trans (if_pos (by omega)) | exact (fo_r hp0).trans (if_neg (by omega)) | (rw [fo_l (by omega)]; done) | fail) ht4000_σ_4 | fail), (by exact hcFR_σ_4)⟩)

set_option maxRecDepth 100000 in
set_option maxHeartbeats 4000000 in
theorem p_sure {l : Launch} {w : Wd} (hW : Wi w) {σ : Mem} (i : Int32) (j : Int32)  (μ : Nat → Int32) (hv : vw (vb 0) σ = μ) (hI : MI μ) : MC l w qX11_sure 4 [.ref (w.1 12), .int i, .int j] σ (some (.int (an (fo (gst μ i j) (if (gnw μ (toN i) (toN j)).1 = 0 then 0 else 8)) (nI (v_su μ (gnw μ (toN i) (toN j)).2.2.1 ((gnw μ (toN i) (toN j)).2.1 - 1)))))) (fun σ' => (σ' 14000 = (nI (fo (gst μ i j) (if (gnw μ (toN i) (toN j)).1 = 0 then 0 else 8)))) ∧ (∀ a, (a < 14900 ∧ a ≠ 14000) → σ' a = σ a)) := by
  refine MC.of hW (by decide +kernel) (Nat.le_of_ble_eq_true rfl) (fun X h hQ hnm => ?_)
  have h : Fx X w cX11_sure 6 RX11 4 := h
  have hQ : Qx X w (some .int) (some (.int (an (fo (gst μ i j) (if (gnw μ (toN i) (toN j)).1 = 0 then 0 else 8)) (nI (v_su μ (gnw μ (toN i) (toN j)).2.2.1 ((gnw μ (toN i) (toN j)).2.1 - 1)))))) (fun σ' => (σ' 14000 = (nI (fo (gst μ i j) (if (gnw μ (toN i) (toN j)).1 = 0 then 0 else 8)))) ∧ (∀ a, (a < 14900 ∧ a ≠ 14000) → σ' a = σ a)) := hQ
  have hN8 := mi_8 hI
  have hcFR_σ : ∀ a, (a < 14900 ∧ a ≠ 14000) → σ a = σ a := fun _ _ => rfl
  show G X w 6 0 [(0, .ref (w.1 12)), (1, .int i), (2, .int j)] [] σ
  refine g_aload_n h dX11_sure_0 0 rfl ?_
  refine g_aload_n h dX11_sure_1 0 rfl ?_
  refine g_iload_n h dX11_sure_2 1 rfl ?_
  refine g_iload_n h dX11_sure_3 2 rfl ?_
  refine g_cvpi (rest := [.ref (w.1 12)]) h (c_gst hW i j μ (by first | exact hv | assumption | fail) (by assumption)) lX11_goingStatus mX11_283 (Nat.lt_of_lt_of_le (by decide) (Nat.le_refl _)) (by decide) sc_12 rfl rfl rfl rfl dX11_sure_4 ?_
  refine g_cvi (rest := []) h (c_fails hW (gst μ i j) (by repeat (first | omega | exact rg_lt | exact ns_lt | exact ps_lt | exact gst_lt | exact ofS_lt | exact if_lt (by decide) (by decide) | apply fo_lt))) lX11_fails mX11_106 (Nat.lt_of_lt_of_le (by decide) (Nat.le_refl _)) (by decide) sc_12 rfl rfl rfl rfl dX11_sure_7 (fun σ_1 eσ_1 => ?_)
  obtain ⟨eσ_1_a, eσ_1_b⟩ := eσ_1
  have eσ_1_a : σ_1 14000 = (nI (gst μ i j)) := eσ_1_a
  have eσ_1_b : ∀ a, (a ≠ 14000) → σ_1 a = σ a := eσ_1_b
  have ht14000_σ_1 : σ_1 14000 = (nI (gst μ i j)) := eσ_1_a
  have hcFR_σ_1 : ∀ a, (a < 14900 ∧ a ≠ 14000) → σ_1 a = σ a := by intro a ha; exact Eq.trans (b := σ a) (eσ_1_b a (by first | omega | (simp only [vb] at *; omega))) (hcFR_σ a ha)
  have hvσ_1 : vw (vb 0) σ_1 = μ := by rw [vw_fr (σ := σ) (fun j _ _ => eσ_1_b _ (by first | omega | (simp only [vb] at *; omega)))]; first | exact hv | assumption
  refine g_ifB_eq h dX11_sure_10 (fun c10 => ?_) (fun c10 => ?_)
  ·
    have hs2 := nb0 c10
    have h0 := gst_0 hs2
    obtain ⟨ei, hi9⟩ := nB_N hI h0.1
    obtain ⟨ej, hj9⟩ := nB_N hI h0.2.1
    have hne := eN_ne ei ej h0.2.2.1
    have hg1 := gnw_1 (μ := μ) (fr := toN i) (to := toN j)
    have hg9 := gnw_le (μ := μ) (fr := toN i) (to := toN j)
    have hgh := gnw_how (μ := μ) (fr := toN i) (to := toN j)
    rw [ei, ej]
    have hgl := gnw_lt (μ := μ) (fr := toN i) (to := toN j) hI hi9
    show G X w 6 15 [(0, .ref (w.1 12)), (1, .int (nI (toN i))), (2, .int (nI (toN j)))] [] σ_1
    refine g_aload_n h dX11_sure_15 0 rfl ?_
    refine g_getr h dX11_sure_16 gX11_51 sc_12 rfl ?_
    refine g_aload_n h dX11_sure_19 0 rfl ?_
    refine g_getr h dX11_sure_20 gX11_23 sc_12 rfl ?_
    refine g_cvv (rest := []) h (c_findAll hW 0 μ (by first | omega | decide | fail) (by first | exact hvσ_1 | assumption | fail) (by assumption)) lX8_findAll mX11_286 (Nat.lt_of_lt_of_le (by decide) (Nat.le_refl _)) (by decide) sc_20 rfl rfl rfl rfl dX11_sure_23 (fun σ_2 eσ_2 => ?_)
    obtain ⟨eσ_2_a, eσ_2_b⟩ := eσ_2
    have eσ_2_a : CA σ_2 μ := eσ_2_a
    have eσ_2_b : ∀ a, (a < 15200 ∨ 15328 ≤ a) → σ_2 a = σ_1 a := eσ_2_b
    have ht14000_σ_2 : σ_2 14000 = (nI (gst μ i j)) := by rw [eσ_2_b _ (by first | omega | (simp only [vb] at *; omega))]; first | exact ht14000_σ_1 | assumption
    have hcFR_σ_2 : ∀ a, (a < 14900 ∧ a ≠ 14000) → σ_2 a = σ a := by intro a ha; exact Eq.trans (b := σ_1 a) (eσ_2_b a (by first | omega | (simp only [vb] at *; omega))) (hcFR_σ_1 a ha)
    have hcCA_σ_2 : CA σ_2 μ := eσ_2_a
    have hvσ_2 : vw (vb 0) σ_2 = μ := by rw [vw_fr (σ := σ_1) (fun j _ _ => eσ_2_b _ (by first | omega | (simp only [vb] at *; omega)))]; first | exact hvσ_1 | assumption
    refine g_aload_n h dX11_sure_26 0 rfl ?_
    refine g_getr h dX11_sure_27 gX11_58 sc_12 rfl ?_
    refine g_aload_n h dX11_sure_30 0 rfl ?_
    refine g_getr h dX11_sure_31 gX11_23 sc_12 rfl ?_
    refine g_aload_n h dX11_sure_34 0 rfl ?_
    refine g_getr h dX11_sure_35 gX11_51 sc_12 rfl ?_
    refine g_iload_n h dX11_sure_38 1 rfl ?_
    refine g_iload_n h dX11_sure_39 2 rfl ?_
    refine g_cvv (rest := []) h (c_follow hW (toN i) (toN j) 0 μ (by first | omega | decide | fail) (by first | exact hvσ_2 | assumption | fail) (by assumption) (by omega) (by omega) (by first | exact hcCA_σ_2 | assumption | fail)) lX2_follow mX11_289 (Nat.lt_of_lt_of_le (by decide) (Nat.le_refl _)) (by decide) sc_23 rfl rfl rfl rfl dX11_sure_40 (fun σ_3 eσ_3 => ?_)
    obtain ⟨eσ_3_a, eσ_3_b, eσ_3_c, eσ_3_d, eσ_3_e, eσ_3_f⟩ := eσ_3
    have eσ_3_a : σ_3 15020 = (nI ((gnw μ (toN i) (toN j)).2.1 - 1)) := eσ_3_a
    have eσ_3_b : σ_3 15021 = (nI ((gnw μ (toN i) (toN j)).1)) := eσ_3_b
    have eσ_3_c : σ_3 15022 = ((gnw μ (toN i) (toN j)).2.2.2) := eσ_3_c
    have eσ_3_d : CA σ_3 μ := eσ_3_d
    have eσ_3_e : GN 15170 σ_3 (gnw μ (toN i) (toN j)).2.1 (gnw μ (toN i) (toN j)).2.2.1 := eσ_3_e
    have eσ_3_f : ∀ a, ((a < 15020 ∨ 15023 ≤ a) ∧ (a < 15170 ∨ 15179 ≤ a)) → σ_3 a = σ_2 a := eσ_3_f
    have ht14000_σ_3 : σ_3 14000 = (nI (gst μ i j)) := by rw [eσ_3_f _ (by first | omega | (simp only [vb] at *; omega))]; first | exact ht14000_σ_2 | assumption
    have ht15020_σ_3 : σ_3 15020 = (nI ((gnw μ (toN i) (toN j)).2.1 - 1)) := eσ_3_a
    have ht15021_σ_3 : σ_3 15021 = (nI ((gnw μ (toN i) (toN j)).1)) := eσ_3_b
    have ht15022_σ_3 : σ_3 15022 = ((gnw μ (toN i) (toN j)).2.2.2) := eσ_3_c
    have hcFR_σ_3 : ∀ a, (a < 14900 ∧ a ≠ 14000) → σ_3 a = σ a := by intro a ha; exact Eq.trans (b := σ_2 a) (eσ_3_f a (by first | omega | (simp only [vb] at *; omega))) (hcFR_σ_2 a ha)
    have hcCA_σ_3 : CA σ_3 μ := eσ_3_d
    have hcGN_σ_3 : GN 15170 σ_3 (gnw μ (toN i) (toN j)).2.1 (gnw μ (toN i) (toN j)).2.2.1 := eσ_3_e
    have hvσ_3 : vw (vb 0) σ_3 = μ := by rw [vw_fr (σ := σ_2) (fun j _ _ => eσ_3_f _ (by first | omega | (simp only [vb] at *; omega)))]; first | exact hvσ_2 | assumption
    refine g_aload_n h dX11_sure_43 0 rfl ?_
    refine g_aload_n h dX11_sure_44 0 rfl ?_
    refine g_getr h dX11_sure_45 gX11_58 sc_12 rfl ?_
    refine g_geti h dX11_sure_48 gX11_293 sc_23 rfl ?_
    refine g_top (y := (nI ((gnw μ (toN i) (toN j)).1))) (by first | exact ht15021_σ_3 | assumption) ?_
    refine g_ifN_eq h dX11_sure_51 (by omega) (fun c51 => ?_) (fun c51 => ?_)
    ·
      refine g_iconst h dX11_sure_59 (by decide) ?_
      refine g_cvi (rest := []) h (c_fails hW 0 (by repeat (first | omega | exact rg_lt | exact ns_lt | exact ps_lt | exact gst_lt | exact ofS_lt | exact if_lt (by decide) (by decide) | apply fo_lt))) lX11_fails mX11_106 (Nat.lt_of_lt_of_le (by decide) (Nat.le_refl _)) (by decide) sc_12 rfl rfl rfl rfl dX11_sure_60 (fun σ_4 eσ_4 => ?_)
      obtain ⟨eσ_4_a, eσ_4_b⟩ := eσ_4
      have eσ_4_a : σ_4 14000 = (nI 0) := eσ_4_a
      have eσ_4_b : ∀ a, (a ≠ 14000) → σ_4 a = σ_3 a := eσ_4_b
      have ht15020_σ_4 : σ_4 15020 = (nI ((gnw μ (toN i) (toN j)).2.1 - 1)) := by rw [eσ_4_b _ (by first | omega | (simp only [vb] at *; omega))]; first | exact ht15020_σ_3 | assumption
      have ht15021_σ_4 : σ_4 15021 = (nI ((gnw μ (toN i) (toN j)).1)) := by rw [eσ_4_b _ (by first | omega | (simp only [vb] at *; omega))]; first | exact ht15021_σ_3 | assumption
      have ht15022_σ_4 : σ_4 15022 = ((gnw μ (toN i) (toN j)).2.2.2) := by rw [eσ_4_b _ (by first | omega | (simp only [vb] at *; omega))]; first | exact ht15022_σ_3 | assumption
      have ht14000_σ_4 : σ_4 14000 = (nI 0) := eσ_4_a
      have hcFR_σ_4 : ∀ a, (a < 14900 ∧ a ≠ 14000) → σ_4 a = σ a := by intro a ha; exact Eq.trans (b := σ_3 a) (eσ_4_b a (by first | omega | (simp only [vb] at *; omega))) (hcFR_σ_3 a ha)
      have hcCA_σ_4 : CA σ_4 μ := by exact CA.fr hcCA_σ_3 hI (fun a ha hb => eσ_4_b a (by first | omega | (simp only [vb] at *; omega)))
      have hcGN_σ_4 : GN 15170 σ_4 (gnw μ (toN i) (toN j)).2.1 (gnw μ (toN i) (toN j)).2.2.1 := by exact GN.fr hcGN_σ_3 (fun a ha hb => eσ_4_b a (by omega))
      have hvσ_4 : vw (vb 0) σ_4 = μ := by rw [vw_fr (σ := σ_3) (fun j _ _ => eσ_4_b _ (by first | omega | (simp only [vb] at *; omega)))]; first | exact hvσ_3 | assumption
      refine g_top (y := nI 0) rfl ?_
      refine g_ifN_eq h dX11_sure_63 (by decide) (fun c63 => ?_) (fun c63 => absurd c63 (by decide))
      refine g_ldcw h dX11_sure_68 kX11_325 ?_
      refine g_istore_n (L' := [(0, .ref (w.1 12)), (1, .int (nI (toN i))), (2, .int (nI (toN j))), (3, .int (nI 1000000))]) h dX11_sure_71 rfl (by decide) rfl ?_
      refine g_iconst h dX11_sure_72 (by decide) ?_
      refine g_istore (L' := [(0, .ref (w.1 12)), (1, .int (nI (toN i))), (2, .int (nI (toN j))), (3, .int (nI 1000000)), (4, .int (nI 0))]) h dX11_sure_73 rfl (by decide) rfl ?_
      have lp75 : ∀ (k9 : Nat) (v : Nat) (k : Nat), (v = v_su μ (gnw μ (toN i) (toN j)).2.2.1 k) → (k + 1 ≤ (gnw μ (toN i) (toN j)).2.1) → (gnw μ (toN i) (toN j)).2.1 - 1 - k < k9 → G X w 6 75 [(0, .ref (w.1 12)), (1, .int (nI (toN i))), (2, .int (nI (toN j))), (3, .int (nI v)), (4, .int (nI k))] [] σ_4 := by
        intro k9
        induction k9 with
        | zero => intro v k hv3 hk hm9; exact absurd hm9 (Nat.not_lt_zero _)
        | succ k9 ih75 =>
          intro v k hv3 hk hm75
          refine g_iload h dX11_sure_75 4 rfl ?_
          refine g_aload_n h dX11_sure_77 0 rfl ?_
          refine g_getr h dX11_sure_78 gX11_58 sc_12 rfl ?_
          refine g_geti h dX11_sure_81 gX11_296 sc_23 rfl ?_
          refine g_top (y := (nI ((gnw μ (toN i) (toN j)).2.1 - 1))) (by first | exact ht15020_σ_4 | assumption) ?_
          refine g_icmpN_ge h dX11_sure_84 (by omega) (by omega) (fun c84 => ?_) (fun c84 => ?_)
          ·
            refine g_iload_n h dX11_sure_147 3 rfl ?_
            exact g_iret h hQ dX11_sure_148 (congrArg (fun z => some (Value.int z)) (show (an (fo (gst μ i j) (if (gnw μ (toN i) (toN j)).1 = 0 then 0 else 8)) (nI (v_su μ (gnw μ (toN i) (toN j)).2.2.1 ((gnw μ (toN i) (toN j)).2.1 - 1)))) = (nI v) by first | exact an_yes (by first | exact (fo_r hs2).trans (if_pos (by omega)) | exact (fo_r hs2).trans (if_neg (by omega)) | exact fo_l (nb1 c10) | fail) (by rw [hv3, show (gnw μ (toN i) (toN j)).2.1 - 1 = k from by omega]) | exact an_no (k := 0) (by first | exact (fo_r hs2).trans (if_pos (by omega)) | exact (fo_r hs2).trans (if_neg (by omega)) | exact fo_l (nb1 c10) | fail) (by first | decide | omega | assumption | exact nb1 (by assumption)) | fail)) (by exact ⟨(by first | exact tk_eq (k := 0) (by first | exact (fo_r hs2).trans (if_pos (by omega)) | exact (fo_r hs2).trans (if_neg (by omega)) | exact fo_l (nb1 c10) | fail) ht14000_σ_4 | exact tk_eq (k := 0) (by first | exact (fo_r hs2).trans (if_pos (by omega)) | exact (fo_r hs2).trans (if_neg (by omega)) | exact fo_l (nb1 c10) | fail) ht14000_σ_4 | fail), (by exact hcFR_σ_4)⟩)
          ·
            refine g_iload h dX11_sure_87 4 rfl ?_
            refine g_bipush h dX11_sure_89 (by decide) ?_
            refine g_icmpN_ge h dX11_sure_91 (by omega) (by omega) (fun c91 => ?_) (fun c91 => ?_)
            ·
              refine g_iload_n h dX11_sure_147 3 rfl ?_
              exact g_iret h hQ dX11_sure_148 (congrArg (fun z => some (Value.int z)) (show (an (fo (gst μ i j) (if (gnw μ (toN i) (toN j)).1 = 0 then 0 else 8)) (nI (v_su μ (gnw μ (toN i) (toN j)).2.2.1 ((gnw μ (toN i) (toN j)).2.1 - 1)))) = (nI v) by first | exact an_yes (by first | exact (fo_r hs2).trans (if_pos (by omega)) | exact (fo_r hs2).trans (if_neg (by omega)) | exact fo_l (nb1 c10) | fail) (by rw [hv3, show (gnw μ (toN i) (toN j)).2.1 - 1 = k from by omega]) | exact an_no (k := 0) (by first | exact (fo_r hs2).trans (if_pos (by omega)) | exact (fo_r hs2).trans (if_neg (by omega)) | exact fo_l (nb1 c10) | fail) (by first | decide | omega | assumption | exact nb1 (by assumption)) | fail)) (by exact ⟨(by first | exact tk_eq (k := 0) (by first | exact (fo_r hs2).trans (if_pos (by omega)) | exact (fo_r hs2).trans (if_neg (by omega)) | exact fo_l (nb1 c10) | fail) ht14000_σ_4 | exact tk_eq (k := 0) (by first | exact (fo_r hs2).trans (if_pos (by omega)) | exact (fo_r hs2).trans (if_neg (by omega)) | exact fo_l (nb1 c10) | fail) ht14000_σ_4 | fail), (by exact hcFR_σ_4)⟩)
            ·
              have hsu := v_su_le (μ := μ) (gn := (gnw μ (toN i) (toN j)).2.2.1) hI k (fun q hq => by have := hgl q (by omega); omega)
              have hga := hgl k (by omega)
              have hgb := hgl (k + 1) (by omega)
              have hsv : v ≤ 1000000 := by rw [hv3]; exact hsu
              refine g_aload_n h dX11_sure_94 0 rfl ?_
              refine g_getr h dX11_sure_95 gX11_23 sc_12 rfl ?_
              refine g_getr h dX11_sure_98 gX11_181 (sM_0 (m := 0) (by decide)) rfl ?_
              refine g_getr h dX11_sure_101 gX11_212 (sM_4 (m := 0) (by decide)) rfl ?_
              refine g_aload_n h dX11_sure_104 0 rfl ?_
              refine g_getr h dX11_sure_105 gX11_58 sc_12 rfl ?_
              refine g_getr h dX11_sure_108 gX11_319 sc_23 rfl ?_
              refine g_iload h dX11_sure_111 4 rfl ?_
              refine g_iconst h dX11_sure_113 (by decide) ?_
              refine g_iaddN h dX11_sure_114  ?_
              refine g_iald h dX11_sure_115 sc_24 (by omega) ?_
              refine g_top (y := (nI ((gnw μ (toN i) (toN j)).2.2.1 (k + 1)))) (hcGN_σ_4 (k + 1) (by omega)) ?_
              refine g_aload_n h dX11_sure_116 0 rfl ?_
              refine g_getr h dX11_sure_117 gX11_58 sc_12 rfl ?_
              refine g_getr h dX11_sure_120 gX11_319 sc_23 rfl ?_
              refine g_iload h dX11_sure_123 4 rfl ?_
              refine g_iald h dX11_sure_125 sc_24 (by omega) ?_
              refine g_top (y := (nI ((gnw μ (toN i) (toN j)).2.2.1 k))) (hcGN_σ_4 k (by omega)) ?_
              refine g_cspi (rest := [.ref (w.1 (mc 0 5))]) h (c_at hW ((gnw μ (toN i) (toN j)).2.2.1 (k + 1)) ((gnw μ (toN i) (toN j)).2.2.1 k) ) lX5_at mX11_215 (Nat.lt_of_lt_of_le (by decide) (Nat.le_refl _)) (by decide) rfl rfl rfl dX11_sure_126 ?_
              refine g_iald h dX11_sure_129 (sM_5 (m := 0) (by decide)) (by omega) ?_
              refine g_top (y := μ (80 + (8 * ((gnw μ (toN i) (toN j)).2.2.1 (k + 1)) + ((gnw μ (toN i) (toN j)).2.2.1 k)))) (vw_pic (b := (vb 0)) (k := 80 + (8 * ((gnw μ (toN i) (toN j)).2.2.1 (k + 1)) + ((gnw μ (toN i) (toN j)).2.2.1 k))) (by first | exact hvσ_4 | assumption) (by omega)) ?_
              refine g_top (y := nI (nA μ (80 + (8 * ((gnw μ (toN i) (toN j)).2.2.1 (k + 1)) + ((gnw μ (toN i) (toN j)).2.2.1 k))))) (mi_80 (by assumption) (by omega)) ?_
              have b9_129 : nA μ (80 + (8 * ((gnw μ (toN i) (toN j)).2.2.1 (k + 1)) + ((gnw μ (toN i) (toN j)).2.2.1 k))) < 1000 := mb_80 (by assumption) (by omega)
              refine g_istore (L' := [(0, .ref (w.1 12)), (1, .int (nI (toN i))), (2, .int (nI (toN j))), (3, .int (nI v)), (4, .int (nI k)), (5, .int (nI (nA μ (80 + (8 * ((gnw μ (toN i) (toN j)).2.2.1 (k + 1)) + ((gnw μ (toN i) (toN j)).2.2.1 k))))))]) h dX11_sure_130 rfl (by decide) rfl ?_
              have hmul : v * nA μ (80 + (8 * (gnw μ (toN i) (toN j)).2.2.1 (k + 1) + (gnw μ (toN i) (toN j)).2.2.1 k)) ≤ 1000000 * 999 := Nat.mul_le_mul hsv (by omega)
              refine g_iload_n h dX11_sure_132 3 rfl ?_
              refine g_iload h dX11_sure_133 5 rfl ?_
              refine g_imulN h dX11_sure_135  ?_
              refine g_sipush h dX11_sure_136 (by decide) ?_
              refine g_idivN h dX11_sure_139 (by omega) (by omega) (by omega) ?_
              refine g_istore_n (L' := [(0, .ref (w.1 12)), (1, .int (nI (toN i))), (2, .int (nI (toN j))), (3, .int (nI ((v * (nA μ (80 + (8 * ((gnw μ (toN i) (toN j)).2.2.1 (k + 1)) + ((gnw μ (toN i) (toN j)).2.2.1 k))))) / 999))), (4, .int (nI k)), (5, .int (nI (nA μ (80 + (8 * ((gnw μ (toN i) (toN j)).2.2.1 (k + 1)) + ((gnw μ (toN i) (toN j)).2.2.1 k))))))]) h dX11_sure_140 rfl (by decide) rfl ?_
              refine g_iincN (b := 1) (L' := [(0, .ref (w.1 12)), (1, .int (nI (toN i))), (2, .int (nI (toN j))), (3, .int (nI ((v * (nA μ (80 + (8 * ((gnw μ (toN i) (toN j)).2.2.1 (k + 1)) + ((gnw μ (toN i) (toN j)).2.2.1 k))))) / 999))), (4, .int (nI (k + 1))), (5, .int (nI (nA μ (80 + (8 * ((gnw μ (toN i) (toN j)).2.2.1 (k + 1)) + ((gnw μ (toN i) (toN j)).2.2.1 k))))))]) h dX11_sure_141 4 rfl rfl (by decide) (by decide) rfl ?_
              refine g_goto h dX11_sure_144 ?_
              exact g_sub [0, 1, 2, 3, 4] rfl (ih75 ((v * (nA μ (80 + (8 * ((gnw μ (toN i) (toN j)).2.2.1 (k + 1)) + ((gnw μ (toN i) (toN j)).2.2.1 k))))) / 999) (k + 1) (by rw [hv3]; rfl) (by omega) (by omega))
      exact lp75 (_) 1000000 0 (by rfl) (by omega) (Nat.lt_succ_self _)
    ·
      refine g_bipush h dX11_sure_54 (by decide) ?_
      refine g_goto h dX11_sure_56 ?_
      refine g_cvi (rest := []) h (c_fails hW 8 (by repeat (first | omega | exact rg_lt | exact ns_lt | exact ps_lt | exact gst_lt | exact ofS_lt | exact if_lt (by decide) (by decide) | apply fo_lt))) lX11_fails mX11_106 (Nat.lt_of_lt_of_le (by decide) (Nat.le_refl _)) (by decide) sc_12 rfl rfl rfl rfl dX11_sure_60 (fun σ_5 eσ_5 => ?_)
      obtain ⟨eσ_5_a, eσ_5_b⟩ := eσ_5
      have eσ_5_a : σ_5 14000 = (nI 8) := eσ_5_a
      have eσ_5_b : ∀ a, (a ≠ 14000) → σ_5 a = σ_3 a := eσ_5_b
      have ht15020_σ_5 : σ_5 15020 = (nI ((gnw μ (toN i) (toN j)).2.1 - 1)) := by rw [eσ_5_b _ (by first | omega | (simp only [vb] at *; omega))]; first | exact ht15020_σ_3 | assumption
      have ht15021_σ_5 : σ_5 15021 = (nI ((gnw μ (toN i) (toN j)).1)) := by rw [eσ_5_b _ (by first | omega | (simp only [vb] at *; omega))]; first | exact ht15021_σ_3 | assumption
      have ht15022_σ_5 : σ_5 15022 = ((gnw μ (toN i) (toN j)).2.2.2) := by rw [eσ_5_b _ (by first | omega | (simp only [vb] at *; omega))]; first | exact ht15022_σ_3 | assumption
      have ht14000_σ_5 : σ_5 14000 = (nI 8) := eσ_5_a
      have hcFR_σ_5 : ∀ a, (a < 14900 ∧ a ≠ 14000) → σ_5 a = σ a := by intro a ha; exact Eq.trans (b := σ_3 a) (eσ_5_b a (by first | omega | (simp only [vb] at *; omega))) (hcFR_σ_3 a ha)
      have hcCA_σ_5 : CA σ_5 μ := by exact CA.fr hcCA_σ_3 hI (fun a ha hb => eσ_5_b a (by first | omega | (simp only [vb] at *; omega)))
      have hcGN_σ_5 : GN 15170 σ_5 (gnw μ (toN i) (toN j)).2.1 (gnw μ (toN i) (toN j)).2.2.1 := by exact GN.fr hcGN_σ_3 (fun a ha hb => eσ_5_b a (by omega))
      have hvσ_5 : vw (vb 0) σ_5 = μ := by rw [vw_fr (σ := σ_3) (fun j _ _ => eσ_5_b _ (by first | omega | (simp only [vb] at *; omega)))]; first | exact hvσ_3 | assumption
      refine g_top (y := nI 1) rfl ?_
      refine g_ifN_eq h dX11_sure_63 (by decide) (fun c63 => absurd c63 (by decide)) (fun c63 => ?_)
      refine g_iconstv h dX11_sure_66 (v := (-1)) (by decide) ?_
      exact g_iret h hQ dX11_sure_67 (congrArg (fun z => some (Value.int z)) (show (an (fo (gst μ i j) (if (gnw μ (toN i) (toN j)).1 = 0 then 0 else 8)) (nI (v_su μ (gnw μ (toN i) (toN j)).2.2.1 ((gnw μ (toN i) (toN j)).2.1 - 1)))) = (-1) by first | exact an_yes (by first | exact (fo_r hs2).trans (if_pos (by omega)) | exact (fo_r hs2).trans (if_neg (by omega)) | exact fo_l (nb1 c10) | fail) (by rw [hv3, show (gnw μ (toN i) (toN j)).2.1 - 1 = k from by omega]) | exact an_no (k := 8) (by first | exact (fo_r hs2).trans (if_pos (by omega)) | exact (fo_r hs2).trans (if_neg (by omega)) | exact fo_l (nb1 c10) | fail) (by first | decide | omega | assumption | exact nb1 (by assumption)) | fail)) (by exact ⟨(by first | exact tk_eq (k := 8) (by first | exact (fo_r hs2).trans (if_pos (by omega)) | exact (fo_r hs2).trans (if_neg (by omega)) | exact fo_l (nb1 c10) | fail) ht14000_σ_5 | exact tk_eq (k := 8) (by first | exact (fo_r hs2).trans (if_pos (by omega)) | exact (fo_r hs2).trans (if_neg (by omega)) | exact fo_l (nb1 c10) | fail) ht14000_σ_5 | fail), (by exact hcFR_σ_5)⟩)
  ·
    refine g_iconstv h dX11_sure_13 (v := (-1)) (by decide) ?_
    exact g_iret h hQ dX11_sure_14 (congrArg (fun z => some (Value.int z)) (show (an (fo (gst μ i j) (if (gnw μ (toN i) (toN j)).1 = 0 then 0 else 8)) (nI (v_su μ (gnw μ (toN i) (toN j)).2.2.1 ((gnw μ (toN i) (toN j)).2.1 - 1)))) = (-1) by first | exact an_yes (by first | exact (fo_r hs2).trans (if_pos (by omega)) | exact (fo_r hs2).trans (if_neg (by omega)) | exact fo_l (nb1 c10) | fail) (by rw [hv3, show (gnw μ (toN i) (toN j)).2.1 - 1 = k from by omega]) | exact an_no (k := (gst μ i j)) (by first | exact (fo_r hs2).trans (if_pos (by omega)) | exact (fo_r hs2).trans (if_neg (by omega)) | exact fo_l (nb1 c10) | fail) (by first | decide | omega | assumption | exact nb1 (by assumption)) | fail)) (by exact ⟨(by first | exact tk_eq (k := (gst μ i j)) (by first | exact (fo_r hs2).trans (if_pos (by omega)) | exact (fo_r hs2).trans (if_neg (by omega)) | exact fo_l (nb1 c10) | fail) ht14000_σ_1 | exact tk_eq (k := (gst μ i j)) (by first | exact (fo_r hs2).trans (if_pos (by omega)) | exact (fo_r hs2).trans (if_neg (by omega)) | exact fo_l (nb1 c10) | fail) ht14000_σ_1 | fail), (by exact hcFR_σ_1)⟩)
