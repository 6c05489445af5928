theorem off_in {μ : Nat → Int32} {k : Int32} (h : nB μ k = true) : offB μ k = !tb (μ 1) (toN k) := by
  unfold offB
  rw [h]
  rfl
def v_prv (μ : Nat → Int32) (q : Nat) (up : Bool) (hd : Int32) : Nat → Nat × Bool × Nat
  | 0 => (q, up, 0)
  | k + 1 => (prv (v_prv μ q up hd k).1 (tb hd k), isU μ (prv (v_prv μ q up hd k).1 (tb hd k)) (v_prv μ q up hd k).2.1,
     (v_prv μ q up hd k).2.2 + if isU μ (prv (v_prv μ q up hd k).1 (tb hd k)) (v_prv μ q up hd k).2.1 = (v_prv μ q up hd k).2.1 then 0 else 1)
theorem v_prv_lt {μ : Nat → Int32} {q : Nat} {up : Bool} {hd : Int32} (hq : q < 1000) : ∀ k, (v_prv μ q up hd k).1 < 1000 ∧ (v_prv μ q up hd k).2.2 ≤ k
  | 0 => ⟨hq, Nat.le_refl _⟩
  | k + 1 => by
    obtain ⟨h1, h2⟩ := v_prv_lt (μ := μ) (up := up) (hd := hd) hq k
    refine ⟨prv_lt h1, ?_⟩
    simp only [v_prv]
    split <;> omega
def v_proves (r : Nat × Bool × Nat) (wt : Nat) : Int32 := if wt = 0 then nI r.1 else if wt = 1 then b2i r.2.1 else nI r.2.2
theorem fr_N1 {x : Int32} {n : Nat} (hn : n < 2 ^ 31) (h : (decide (nI 1 ≤ x) && decide (x ≤ nI n)) = true) : x = nI (toN x) ∧ toN x ≤ n := by
  refine fr_N hn ?_
  simp only [Bool.and_eq_true, decide_eq_true_eq] at h ⊢
  refine ⟨Int32.le_trans ?_ h.1, h.2⟩
  decide
theorem rg_N1 {x : Int32} {n : Nat} (hn : n < 2 ^ 31) (h : rg x (nI 1) (nI n) = 0) : x = nI (toN x) ∧ toN x ≤ n := by
  unfold rg at h
  split at h
  · rename_i c; exact fr_N1 hn c
  · cases h

set_option maxRecDepth 100000 in
set_option maxHeartbeats 4000000 in
theorem q_far {l : Launch} {w : Wd} (hW : Wi w) {σ : Mem} (i : Int32) (j : Int32)  (μ : Nat → Int32) (hv : vw 0 σ = μ) (hI : MI μ) : MC l w qX12_far 5 [.ref (w.1 0), .int i, .int j] σ (some (.int (an (fo (fo (ps μ i j) (if (offB μ i || offB μ j) = true then 4 else 0)) (if far μ (toN i) (toN j) = 0 then 7 else 0)) (nI (far μ (toN i) (toN j)))))) (fun σ' => (σ' 4000 = (nI (fo (fo (ps μ i j) (if (offB μ i || offB μ j) = true then 4 else 0)) (if far μ (toN i) (toN j) = 0 then 7 else 0)))) ∧ (∀ a, ((a < 4900 ∨ 6000 ≤ a) ∧ a ≠ 4000) → σ' a = σ a)) := by
  refine MC.of hW (by decide +kernel) (Nat.le_of_ble_eq_true rfl) (fun X h hQ hnm => ?_)
  have h : Fx X w cX12_far 4 RX12 5 := h
  have hQ : Qx X w (some .int) (some (.int (an (fo (fo (ps μ i j) (if (offB μ i || offB μ j) = true then 4 else 0)) (if far μ (toN i) (toN j) = 0 then 7 else 0)) (nI (far μ (toN i) (toN j)))))) (fun σ' => (σ' 4000 = (nI (fo (fo (ps μ i j) (if (offB μ i || offB μ j) = true then 4 else 0)) (if far μ (toN i) (toN j) = 0 then 7 else 0)))) ∧ (∀ a, ((a < 4900 ∨ 6000 ≤ a) ∧ a ≠ 4000) → σ' a = σ a)) := hQ
  have hN8 := mi_8 hI
  have hps := ps_lt (μ := μ) (a := i) (b := j)
  have hcFR_σ : ∀ a, ((a < 4900 ∨ 6000 ≤ a) ∧ a ≠ 4000) → σ a = σ a := fun _ _ => rfl
  show G X w 4 0 [(0, .ref (w.1 0)), (1, .int i), (2, .int j)] [] σ
  refine g_aload_n h dX12_far_0 0 rfl ?_
  refine g_iload_n h dX12_far_1 1 rfl ?_
  refine g_iload_n h dX12_far_2 2 rfl ?_
  refine g_cvpi (rest := []) h (r_ps hW i j μ (by first | exact hv | assumption | fail)) lX12_wrongTwo mX12_290 (Nat.lt_of_lt_of_le (by decide) (Nat.le_refl _)) (by decide) sc_0 rfl rfl rfl rfl dX12_far_3 ?_
  refine g_istore_n (L' := [(0, .ref (w.1 0)), (1, .int i), (2, .int j), (3, .int (nI (ps μ i j)))]) h dX12_far_6 rfl (by decide) rfl ?_
  refine g_iload_n h dX12_far_7 3 rfl ?_
  refine g_ifN_ne h dX12_far_8 (by omega) (fun c8 => ?_) (fun c8 => ?_)
  ·
    refine g_iload_n h dX12_far_29 3 rfl ?_
    refine g_ifN_ne h dX12_far_30 (by omega) (fun c30 => ?_) (fun c30 => ?_)
    ·
      refine g_iload_n h dX12_far_45 3 rfl ?_
      refine g_ifN_le h dX12_far_46 (by omega) (fun c46 => ?_) (fun c46 => ?_)
      ·
        exfalso; omega
      ·
        refine g_aload_n h dX12_far_49 0 rfl ?_
        refine g_iload_n h dX12_far_50 3 rfl ?_
        refine g_cvi (rest := []) h (r_refuse hW (nI (ps μ i j)) ) lX12_refuse mX12_272 (Nat.lt_of_lt_of_le (by decide) (Nat.le_refl _)) (by decide) sc_0 rfl rfl rfl rfl dX12_far_51 (fun σ_1 eσ_1 => ?_)
        have eσ_1_a : σ_1 = upd σ 4000 (nI (ps μ i j)) := eσ_1
        have ht4000_σ_1 : σ_1 4000 = (nI (ps μ i j)) := by rw [eσ_1_a]; exact upd_eq
        have hcFR_σ_1 : ∀ a, ((a < 4900 ∨ 6000 ≤ a) ∧ a ≠ 4000) → σ_1 a = σ a := by intro a ha; exact Eq.trans (b := σ a) (by rw [eσ_1_a, upd_ne (by first | omega | (simp only [vb] at *; omega))]) (hcFR_σ a ha)
        have hvσ_1 : vw 0 σ_1 = μ := by rw [eσ_1_a, vw_out (by omega)]; first | exact hv | assumption
        refine g_goto h dX12_far_54 ?_
        exact g_iret h hQ dX12_far_67 (congrArg (fun z => some (Value.int z)) (show (an (fo (fo (ps μ i j) (if (offB μ i || offB μ j) = true then 4 else 0)) (if far μ (toN i) (toN j) = 0 then 7 else 0)) (nI (far μ (toN i) (toN j)))) = (-1) by first | exact an_yes (by first | (simp [fo, hp0, o1, o2, c8, c30, c46]; done) | (simp [fo, hp0, o1, o2, c8, c30, c46]; omega) | (rw [fo_l (show fo (ps μ i j) _ ≠ 0 by rw [fo_l (by omega)]; omega), fo_l (by omega)]; done)) (by rfl) | exact an_no (k := (ps μ i j)) (by first | (simp [fo, hp0, o1, o2, c8, c30, c46]; done) | (simp [fo, hp0, o1, o2, c8, c30, c46]; omega) | (rw [fo_l (show fo (ps μ i j) _ ≠ 0 by rw [fo_l (by omega)]; omega), fo_l (by omega)]; done)) (by first | decide | omega | assumption | exact nb1 (by assumption)) | fail)) (by exact ⟨(by first | exact tk_eq (k := (ps μ i j)) (by first | (simp [fo, hp0, o1, o2, c8, c30, c46]; done) | (simp [fo, hp0, o1, o2, c8, c30, c46]; omega) | (rw [fo_l (show fo (ps μ i j) _ ≠ 0 by rw [fo_l (by omega)]; omega), fo_l (by omega)]; done)) ht4000_σ_1 | exact tk_eq (k := (ps μ i j)) (by first | (simp [fo, hp0, o1, o2, c8, c30, c46]; done) | (simp [fo, hp0, o1, o2, c8, c30, c46]; omega) | (rw [fo_l (show fo (ps μ i j) _ ≠ 0 by rw [fo_l (by omega)]; omega), fo_l (by omega)]; done)) ht4000_σ_1 | fail), (by exact hcFR_σ_1)⟩)
    ·
      exfalso; omega
  ·
    have hp0 : ps μ i j = 0 := by omega
    have h0 := ps_0 hp0
    have o1 := off_in h0.1
    have o2 := off_in h0.2.1
    obtain ⟨ei, hi9⟩ := nB_N hI h0.1
    obtain ⟨ej, hj9⟩ := nB_N hI h0.2.1
    rw [hp0]
    rw [ei, ej]
    have hfl := far_lt (μ := μ) (f := toN i) (t := toN j)
    show G X w 4 11 [(0, .ref (w.1 0)), (1, .int (nI (toN i))), (2, .int (nI (toN j))), (3, .int (nI 0))] [] σ
    refine g_aload_n h dX12_far_11 0 rfl ?_
    refine g_iload_n h dX12_far_12 1 rfl ?_
    refine g_cvpi (rest := []) h (r_isOn hW (toN i) μ (by assumption) (by omega)) lX12_isOn mX12_114 (Nat.lt_of_lt_of_le (by decide) (Nat.le_refl _)) (by decide) sc_0 rfl rfl rfl rfl dX12_far_13 ?_
    refine g_ifB_eq h dX12_far_16 (fun c16 => ?_) (fun c16 => ?_)
    ·
      refine g_iconst h dX12_far_27 (by decide) ?_
      refine g_istore_n (L' := [(0, .ref (w.1 0)), (1, .int (nI (toN i))), (2, .int (nI (toN j))), (3, .int (nI 4))]) h dX12_far_28 rfl (by decide) rfl ?_
      refine g_iload_n h dX12_far_29 3 rfl ?_
      refine g_ifN_ne h dX12_far_30 (by decide) (fun c30 => ?_) (fun c30 => absurd c30 (by decide))
      refine g_iload_n h dX12_far_45 3 rfl ?_
      refine g_ifN_le h dX12_far_46 (by decide) (fun c46 => absurd c46 (by decide)) (fun c46 => ?_)
      refine g_aload_n h dX12_far_49 0 rfl ?_
      refine g_iload_n h dX12_far_50 3 rfl ?_
      refine g_cvi (rest := []) h (r_refuse hW (nI 4) ) lX12_refuse mX12_272 (Nat.lt_of_lt_of_le (by decide) (Nat.le_refl _)) (by decide) sc_0 rfl rfl rfl rfl dX12_far_51 (fun σ_2 eσ_2 => ?_)
      have eσ_2_a : σ_2 = upd σ 4000 (nI 4) := eσ_2
      have ht4000_σ_2 : σ_2 4000 = (nI 4) := by rw [eσ_2_a]; exact upd_eq
      have hcFR_σ_2 : ∀ a, ((a < 4900 ∨ 6000 ≤ a) ∧ a ≠ 4000) → σ_2 a = σ a := by intro a ha; exact Eq.trans (b := σ a) (by rw [eσ_2_a, upd_ne (by first | omega | (simp only [vb] at *; omega))]) (hcFR_σ a ha)
      have hvσ_2 : vw 0 σ_2 = μ := by rw [eσ_2_a, vw_out (by omega)]; first | exact hv | assumption
      refine g_goto h dX12_far_54 ?_
      exact g_iret h hQ dX12_far_67 (congrArg (fun z => some (Value.int z)) (show (an (fo (fo (ps μ i j) (if (offB μ i || offB μ j) = true then 4 else 0)) (if far μ (toN i) (toN j) = 0 then 7 else 0)) (nI (far μ (toN i) (toN j)))) = (-1) by first | exact an_yes (by first | (simp [fo, hp0, o1, o2, c8, c16]; done) | (simp [fo, hp0, o1, o2, c8, c16]; omega) | (rw [fo_l (show fo (ps μ i j) _ ≠ 0 by rw [fo_l (by omega)]; omega), fo_l (by omega)]; done)) (by rfl) | exact an_no (k := 4) (by first | (simp [fo, hp0, o1, o2, c8, c16]; done) | (simp [fo, hp0, o1, o2, c8, c16]; omega) | (rw [fo_l (show fo (ps μ i j) _ ≠ 0 by rw [fo_l (by omega)]; omega), fo_l (by omega)]; done)) (by first | decide | omega | assumption | exact nb1 (by assumption)) | fail)) (by exact ⟨(by first | exact tk_eq (k := 4) (by first | (simp [fo, hp0, o1, o2, c8, c16]; done) | (simp [fo, hp0, o1, o2, c8, c16]; omega) | (rw [fo_l (show fo (ps μ i j) _ ≠ 0 by rw [fo_l (by omega)]; omega), fo_l (by omega)]; done)) ht4000_σ_2 | exact tk_eq (k := 4) (by first | (simp [fo, hp0, o1, o2, c8, c16]; done) | (simp [fo, hp0, o1, o2, c8, c16]; omega) | (rw [fo_l (show fo (ps μ i j) _ ≠ 0 by rw [fo_l (by omega)]; omega), fo_l (by omega)]; done)) ht4000_σ_2 | fail), (by exact hcFR_σ_2)⟩)
    ·
      refine g_aload_n h dX12_far_19 0 rfl ?_
      refine g_iload_n h dX12_far_20 2 rfl ?_
      refine g_cvpi (rest := []) h (r_isOn hW (toN j) μ (by assumption) (by omega)) lX12_isOn mX12_114 (Nat.lt_of_lt_of_le (by decide) (Nat.le_refl _)) (by decide) sc_0 rfl rfl rfl rfl dX12_far_21 ?_
      refine g_ifB_ne h dX12_far_24 (fun c24 => ?_) (fun c24 => ?_)
      ·
        refine g_iload_n h dX12_far_29 3 rfl ?_
        refine g_ifN_ne h dX12_far_30 (by decide) (fun c30 => absurd c30 (by decide)) (fun c30 => ?_)
        refine g_aload_n h dX12_far_33 0 rfl ?_
        refine g_iload_n h dX12_far_34 1 rfl ?_
        refine g_iload_n h dX12_far_35 2 rfl ?_
        refine g_cvpi (rest := []) h (r_farOf hW (toN i) (toN j) μ (by first | exact hv | assumption | fail) (by assumption) (by omega) (by omega)) lX12_farOf mX12_327 (Nat.lt_of_lt_of_le (by decide) (Nat.le_refl _)) (by decide) sc_0 rfl rfl rfl rfl dX12_far_36 ?_
        refine g_ifN_ne h dX12_far_39 (by omega) (fun c39 => ?_) (fun c39 => ?_)
        ·
          refine g_iload_n h dX12_far_45 3 rfl ?_
          refine g_ifN_le h dX12_far_46 (by decide) (fun c46 => ?_) (fun c46 => absurd c46 (by decide))
          refine g_aload_n h dX12_far_57 0 rfl ?_
          refine g_aload_n h dX12_far_58 0 rfl ?_
          refine g_iload_n h dX12_far_59 1 rfl ?_
          refine g_iload_n h dX12_far_60 2 rfl ?_
          refine g_cvpi (rest := [.ref (w.1 0)]) h (r_farOf hW (toN i) (toN j) μ (by first | exact hv | assumption | fail) (by assumption) (by omega) (by omega)) lX12_farOf mX12_327 (Nat.lt_of_lt_of_le (by decide) (Nat.le_refl _)) (by decide) sc_0 rfl rfl rfl rfl dX12_far_61 ?_
          refine g_cvi (rest := []) h (r_gives hW (nI (far μ (toN i) (toN j))) ) lX12_gives mX12_281 (Nat.lt_of_lt_of_le (by decide) (Nat.le_refl _)) (by decide) sc_0 rfl rfl rfl rfl dX12_far_64 (fun σ_3 eσ_3 => ?_)
          have eσ_3_a : σ_3 = upd σ 4000 (nI 0) := eσ_3
          have ht4000_σ_3 : σ_3 4000 = (nI 0) := by rw [eσ_3_a]; exact upd_eq
          have hcFR_σ_3 : ∀ a, ((a < 4900 ∨ 6000 ≤ a) ∧ a ≠ 4000) → σ_3 a = σ a := by intro a ha; exact Eq.trans (b := σ a) (by rw [eσ_3_a, upd_ne (by first | omega | (simp only [vb] at *; omega))]) (hcFR_σ a ha)
          have hvσ_3 : vw 0 σ_3 = μ := by rw [eσ_3_a, vw_out (by omega)]; first | exact hv | assumption
          exact g_iret h hQ dX12_far_67 (congrArg (fun z => some (Value.int z)) (show (an (fo (fo (ps μ i j) (if (offB μ i || offB μ j) = true then 4 else 0)) (if far μ (toN i) (toN j) = 0 then 7 else 0)) (nI (far μ (toN i) (toN j)))) = (nI (far μ (toN i) (toN j))) by first | exact an_yes (by first | (simp [fo, hp0, o1, o2, c8, c16, c24, c39]; done) | (simp [fo, hp0, o1, o2, c8, c16, c24, c39]; omega) | (rw [fo_l (show fo (ps μ i j) _ ≠ 0 by rw [fo_l (by omega)]; omega), fo_l (by omega)]; done)) (by rfl) | exact an_no (k := 0) (by first | (simp [fo, hp0, o1, o2, c8, c16, c24, c39]; done) | (simp [fo, hp0, o1, o2, c8, c16, c24, c39]; omega) | (rw [fo_l (show fo (ps μ i j) _ ≠ 0 by rw [fo_l (by omega)]; omega), fo_l (by omega)]; done)) (by first | decide | omega | assumption | exact nb1 (by assumption)) | fail)) (by exact ⟨(by first | exact tk_eq (k := 0) (by first | (simp [fo, hp0, o1, o2, c8, c16, c24, c39]; done) | (simp [fo, hp0, o1, o2, c8, c16, c24, c39]; omega) | (rw [fo_l (show fo (ps μ i j) _ ≠ 0 by rw [fo_l (by omega)]; omega), fo_l (by omega)]; done)) ht4000_σ_3 | exact tk_eq (k := 0) (by first | (simp [fo, hp0, o1, o2, c8, c16, c24, c39]; done) | (simp [fo, hp0, o1, o2, c8, c16, c24, c39]; omega) | (rw [fo_l (show fo (ps μ i j) _ ≠ 0 by rw [fo_l (by omega)]; omega), fo_l (by omega)]; done)) ht4000_σ_3 | fail), (by exact hcFR_σ_3)⟩)
        ·
          refine g_bipush h dX12_far_42 (by decide) ?_
          refine g_istore_n (L' := [(0, .ref (w.1 0)), (1, .int (nI (toN i))), (2, .int (nI (toN j))), (3, .int (nI 7))]) h dX12_far_44 rfl (by decide) rfl ?_
          refine g_iload_n h dX12_far_45 3 rfl ?_
          refine g_ifN_le h dX12_far_46 (by decide) (fun c46 => absurd c46 (by decide)) (fun c46 => ?_)
          refine g_aload_n h dX12_far_49 0 rfl ?_
          refine g_iload_n h dX12_far_50 3 rfl ?_
          refine g_cvi (rest := []) h (r_refuse hW (nI 7) ) lX12_refuse mX12_272 (Nat.lt_of_lt_of_le (by decide) (Nat.le_refl _)) (by decide) sc_0 rfl rfl rfl rfl dX12_far_51 (fun σ_4 eσ_4 => ?_)
          have eσ_4_a : σ_4 = upd σ 4000 (nI 7) := eσ_4
          have ht4000_σ_4 : σ_4 4000 = (nI 7) := by rw [eσ_4_a]; exact upd_eq
          have hcFR_σ_4 : ∀ a, ((a < 4900 ∨ 6000 ≤ a) ∧ a ≠ 4000) → σ_4 a = σ a := by intro a ha; exact Eq.trans (b := σ a) (by rw [eσ_4_a, upd_ne (by first | omega | (simp only [vb] at *; omega))]) (hcFR_σ a ha)
          have hvσ_4 : vw 0 σ_4 = μ := by rw [eσ_4_a, vw_out (by omega)]; first | exact hv | assumption
          refine g_goto h dX12_far_54 ?_
          exact g_iret h hQ dX12_far_67 (congrArg (fun z => some (Value.int z)) (show (an (fo (fo (ps μ i j) (if (offB μ i || offB μ j) = true then 4 else 0)) (if far μ (toN i) (toN j) = 0 then 7 else 0)) (nI (far μ (toN i) (toN j)))) = (-1) by first | exact an_yes (by first | (simp [fo, hp0, o1, o2, c8, c16, c24, c39]; done) | (simp [fo, hp0, o1, o2, c8, c16, c24, c39]; omega) | (rw [fo_l (show fo (ps μ i j) _ ≠ 0 by rw [fo_l (by omega)]; omega), fo_l (by omega)]; done)) (by rfl) | exact an_no (k := 7) (by first | (simp [fo, hp0, o1, o2, c8, c16, c24, c39]; done) | (simp [fo, hp0, o1, o2, c8, c16, c24, c39]; omega) | (rw [fo_l (show fo (ps μ i j) _ ≠ 0 by rw [fo_l (by omega)]; omega), fo_l (by omega)]; done)) (by first | decide | omega | assumption | exact nb1 (by assumption)) | fail)) (by exact ⟨(by first | exact tk_eq (k := 7) (by first | (simp [fo, hp0, o1, o2, c8, c16, c24, c39]; done) | (simp [fo, hp0, o1, o2, c8, c16, c24, c39]; omega) | (rw [fo_l (show fo (ps μ i j) _ ≠ 0 by rw [fo_l (by omega)]; omega), fo_l (by omega)]; done)) ht4000_σ_4 | exact tk_eq (k := 7) (by first | (simp [fo, hp0, o1, o2, c8, c16, c24, c39]; done) | (simp [fo, hp0, o1, o2, c8, c16, c24, c39]; omega) | (rw [fo_l (show fo (ps μ i j) _ ≠ 0 by rw [fo_l (by omega)]; omega), fo_l (by omega)]; done)) ht4000_σ_4 | fail), (by exact hcFR_σ_4)⟩)
      ·
        refine g_iconst h dX12_far_27 (by decide) ?_
        refine g_istore_n (L' := [(0, .ref (w.1 0)), (1, .int (nI (toN i))), (2, .int (nI (toN j))), (3, .int (nI 4))]) h dX12_far_28 rfl (by decide) rfl ?_
        refine g_iload_n h dX12_far_29 3 rfl ?_
        refine g_ifN_ne h dX12_far_30 (by decide) (fun c30 => ?_) (fun c30 => absurd c30 (by decide))
        refine g_iload_n h dX12_far_45 3 rfl ?_
        refine g_ifN_le h dX12_far_46 (by decide) (fun c46 => absurd c46 (by decide)) (fun c46 => ?_)
        refine g_aload_n h dX12_far_49 0 rfl ?_
        refine g_iload_n h dX12_far_50 3 rfl ?_
        refine g_cvi (rest := []) h (r_refuse hW (nI 4) ) lX12_refuse mX12_272 (Nat.lt_of_lt_of_le (by decide) (Nat.le_refl _)) (by decide) sc_0 rfl rfl rfl rfl dX12_far_51 (fun σ_5 eσ_5 => ?_)
        have eσ_5_a : σ_5 = upd σ 4000 (nI 4) := eσ_5
        have ht4000_σ_5 : σ_5 4000 = (nI 4) := by rw [eσ_5_a]; exact upd_eq
        have hcFR_σ_5 : ∀ a, ((a < 4900 ∨ 6000 ≤ a) ∧ a ≠ 4000) → σ_5 a = σ a := by intro a ha; exact Eq.trans (b := σ a) (by rw [eσ_5_a, upd_ne (by first | omega | (simp only [vb] at *; omega))]) (hcFR_σ a ha)
        have hvσ_5 : vw 0 σ_5 = μ := by rw [eσ_5_a, vw_out (by omega)]; first | exact hv | assumption
        refine g_goto h dX12_far_54 ?_
        exact g_iret h hQ dX12_far_67 (congrArg (fun z => some (Value.int z)) (show (an (fo (fo (ps μ i j) (if (offB μ i || offB μ j) = true then 4 else 0)) (if far μ (toN i) (toN j) = 0 then 7 else 0)) (nI (far μ (toN i) (toN j)))) = (-1) by first | exact an_yes (by first | (simp [fo, hp0, o1, o2, c8, c16, c24]; done) | (simp [fo, hp0, o1, o2, c8, c16, c24]; omega) | (rw [fo_l (show fo (ps μ i j) _ ≠ 0 by rw [fo_l (by omega)]; omega), fo_l (by omega)]; done)) (by rfl) | exact an_no (k := 4) (by first | (simp [fo, hp0, o1, o2, c8, c16, c24]; done) | (simp [fo, hp0, o1, o2, c8, c16, c24]; omega) | (rw [fo_l (show fo (ps μ i j) _ ≠ 0 by rw [fo_l (by omega)]; omega), fo_l (by omega)]; done)) (by first | decide | omega | assumption | exact nb1 (by assumption)) | fail)) (by exact ⟨(by first | exact tk_eq (k := 4) (by first | (simp [fo, hp0, o1, o2, c8, c16, c24]; done) | (simp [fo, hp0, o1, o2, c8, c16, c24]; omega) | (rw [fo_l (show fo (ps μ i j) _ ≠ 0 by rw [fo_l (by omega)]; omega), fo_l (by omega)]; done)) ht4000_σ_5 | exact tk_eq (k := 4) (by first | (simp [fo, hp0, o1, o2, c8, c16, c24]; done) | (simp [fo, hp0, o1, o2, c8, c16, c24]; omega) | (rw [fo_l (show fo (ps μ i j) _ ≠ 0 by rw [fo_l (by omega)]; omega), fo_l (by omega)]; done)) ht4000_σ_5 | fail), (by exact hcFR_σ_5)⟩)

set_option maxRecDepth 100000 in
set_option maxHeartbeats 4000000 in
theorem p_far {l : Launch} {w : Wd} (hW : Wi w) {σ : Mem} (i : Int32) (j : Int32)  (μ : Nat → Int32) (hv : vw (vb 0) σ = μ) (hI : MI μ) : MC l w qX11_far 4 [.ref (w.1 12), .int i, .int j] σ (some (.int (an (fo (fo (ps μ i j) (if (offB μ i || offB μ j) = true then 4 else 0)) (if far μ (toN i) (toN j) = 0 then 7 else 0)) (nI (far μ (toN i) (toN j)))))) (fun σ' => (σ' 14000 = (nI (fo (fo (ps μ i j) (if (offB μ i || offB μ j) = true then 4 else 0)) (if far μ (toN i) (toN j) = 0 then 7 else 0)))) ∧ (∀ a, (a < 14900 ∧ a ≠ 14000) → σ' a = σ a)) := by
  refine MC.of hW (by decide +kernel) (Nat.le_of_ble_eq_true rfl) (fun X h hQ hnm => ?_)
  have h : Fx X w cX11_far 5 RX11 4 := h
  have hQ : Qx X w (some .int) (some (.int (an (fo (fo (ps μ i j) (if (offB μ i || offB μ j) = true then 4 else 0)) (if far μ (toN i) (toN j) = 0 then 7 else 0)) (nI (far μ (toN i) (toN j)))))) (fun σ' => (σ' 14000 = (nI (fo (fo (ps μ i j) (if (offB μ i || offB μ j) = true then 4 else 0)) (if far μ (toN i) (toN j) = 0 then 7 else 0)))) ∧ (∀ a, (a < 14900 ∧ a ≠ 14000) → σ' a = σ a)) := hQ
  have hN8 := mi_8 hI
  have hcFR_σ : ∀ a, (a < 14900 ∧ a ≠ 14000) → σ a = σ a := fun _ _ => rfl
  show G X w 5 0 [(0, .ref (w.1 12)), (1, .int i), (2, .int j)] [] σ
  refine g_aload_n h dX11_far_0 0 rfl ?_
  refine g_iload_n h dX11_far_1 1 rfl ?_
  refine g_cvpi (rest := []) h (c_isOff hW i μ (by first | exact hv | assumption | fail) (by assumption)) lX11_isOff mX11_302 (Nat.lt_of_lt_of_le (by decide) (Nat.le_refl _)) (by decide) sc_12 rfl rfl rfl rfl dX11_far_2 ?_
  refine g_ifB_ne h dX11_far_5 (fun c5 => ?_) (fun c5 => ?_)
  ·
    refine g_iconst h dX11_far_16 (by decide) ?_
    refine g_goto h dX11_far_17 ?_
    refine g_istore_n (L' := [(0, .ref (w.1 12)), (1, .int i), (2, .int j), (3, .int (nI 4))]) h dX11_far_21 rfl (by decide) rfl ?_
    refine g_aload_n h dX11_far_22 0 rfl ?_
    refine g_aload_n h dX11_far_23 0 rfl ?_
    refine g_iload_n h dX11_far_24 1 rfl ?_
    refine g_iload_n h dX11_far_25 2 rfl ?_
    refine g_cvpi (rest := [.ref (w.1 12)]) h (c_ps hW i j μ (by first | exact hv | assumption | fail)) lX11_pairStatus mX11_209 (Nat.lt_of_lt_of_le (by decide) (Nat.le_refl _)) (by decide) sc_12 rfl rfl rfl rfl dX11_far_26 ?_
    refine g_iload_n h dX11_far_29 3 rfl ?_
    refine g_cspi (rest := [.ref (w.1 12)]) h (c_fo hW (ps μ i j) 4 (by repeat (first | omega | exact rg_lt | exact ns_lt | exact ps_lt | exact gst_lt | exact ofS_lt | exact if_lt (by decide) (by decide) | apply fo_lt)) (by repeat (first | omega | exact rg_lt | exact ns_lt | exact ps_lt | exact gst_lt | exact ofS_lt | exact if_lt (by decide) (by decide) | apply fo_lt))) lX11_firstOf mX11_163 (Nat.lt_of_lt_of_le (by decide) (Nat.le_refl _)) (by decide) rfl rfl rfl dX11_far_30 ?_
    refine g_cvi (rest := []) h (c_fails hW (fo (ps μ i j) 4) (by repeat (first | omega | exact rg_lt | exact ns_lt | exact ps_lt | exact gst_lt | exact ofS_lt | exact if_lt (by decide) (by decide) | apply fo_lt))) lX11_fails mX11_106 (Nat.lt_of_lt_of_le (by decide) (Nat.le_refl _)) (by decide) sc_12 rfl rfl rfl rfl dX11_far_33 (fun σ_1 eσ_1 => ?_)
    obtain ⟨eσ_1_a, eσ_1_b⟩ := eσ_1
    have eσ_1_a : σ_1 14000 = (nI (fo (ps μ i j) 4)) := eσ_1_a
    have eσ_1_b : ∀ a, (a ≠ 14000) → σ_1 a = σ a := eσ_1_b
    have ht14000_σ_1 : σ_1 14000 = (nI (fo (ps μ i j) 4)) := eσ_1_a
    have hcFR_σ_1 : ∀ a, (a < 14900 ∧ a ≠ 14000) → σ_1 a = σ a := by intro a ha; exact Eq.trans (b := σ a) (eσ_1_b a (by first | omega | (simp only [vb] at *; omega))) (hcFR_σ a ha)
    have hvσ_1 : vw (vb 0) σ_1 = μ := by rw [vw_fr (σ := σ) (fun j _ _ => eσ_1_b _ (by first | omega | (simp only [vb] at *; omega)))]; first | exact hv | assumption
    refine g_ifB_eq h dX11_far_36 (fun c36 => ?_) (fun c36 => ?_)
    ·
      have hA : fo (ps μ i j) (if (offB μ i || offB μ j) = true then 4 else 0) = 0 := by first | (have q := nb0 c36; simpa [c5, c36] using q) | exact nb0 c36
      obtain ⟨hs1, hs2⟩ := fo_0 hA
      have h0 := ps_0 hs1
      obtain ⟨ei, hi9⟩ := nB_N hI h0.1
      obtain ⟨ej, hj9⟩ := nB_N hI h0.2.1
      rw [ei, ej]
      have hfl := far_lt (μ := μ) (f := toN i) (t := toN j)
      show G X w 5 41 [(0, .ref (w.1 12)), (1, .int (nI (toN i))), (2, .int (nI (toN j))), (3, .int (nI 4))] [] σ_1
      refine g_aload_n h dX11_far_41 0 rfl ?_
      refine g_getr h dX11_far_42 gX11_65 sc_12 rfl ?_
      refine g_aload_n h dX11_far_45 0 rfl ?_
      refine g_getr h dX11_far_46 gX11_23 sc_12 rfl ?_
      refine g_cvv (rest := []) h (c_see hW 0 μ (by first | omega | decide | fail) (by first | exact hvσ_1 | assumption | fail) (by assumption)) lX10_see mX11_305 (Nat.lt_of_lt_of_le (by decide) (Nat.le_refl _)) (by decide) sc_25 rfl rfl rfl rfl dX11_far_49 (fun σ_2 eσ_2 => ?_)
      obtain ⟨eσ_2_a, eσ_2_b⟩ := eσ_2
      have eσ_2_a : TR σ_2 μ := eσ_2_a
      have eσ_2_b : ∀ a, (a ≠ 15030 ∧ (a < 15180 ∨ 15188 ≤ a) ∧ (a < 15330 ∨ 15394 ≤ a)) → σ_2 a = σ_1 a := eσ_2_b
      have ht14000_σ_2 : σ_2 14000 = (nI (fo (ps μ i j) 4)) := by rw [eσ_2_b _ (by first | omega | (simp only [vb] at *; omega))]; first | exact ht14000_σ_1 | assumption
      have hcFR_σ_2 : ∀ a, (a < 14900 ∧ a ≠ 14000) → σ_2 a = σ a := by intro a ha; exact Eq.trans (b := σ_1 a) (eσ_2_b a (by first | omega | (simp only [vb] at *; omega))) (hcFR_σ_1 a ha)
      have hcTR_σ_2 : TR σ_2 μ := eσ_2_a
      have hvσ_2 : vw (vb 0) σ_2 = μ := by rw [vw_fr (σ := σ_1) (fun j _ _ => eσ_2_b _ (by first | omega | (simp only [vb] at *; omega)))]; first | exact hvσ_1 | assumption
      refine g_aload_n h dX11_far_52 0 rfl ?_
      refine g_getr h dX11_far_53 gX11_65 sc_12 rfl ?_
      refine g_getr h dX11_far_56 gX11_308 sc_25 rfl ?_
      refine g_iload_n h dX11_far_59 1 rfl ?_
      refine g_iload_n h dX11_far_60 2 rfl ?_
      refine g_cspi (rest := [.ref (w.1 27)]) h (c_at hW (toN i) (toN j) ) lX5_at mX11_215 (Nat.lt_of_lt_of_le (by decide) (Nat.le_refl _)) (by decide) rfl rfl rfl dX11_far_61 ?_
      refine g_iald h dX11_far_64 sc_27 (by omega) ?_
      refine g_top (y := (nI (far μ (toN i) (toN j)))) (hcTR_σ_2.2.2 (toN i) (by omega) (toN j) (by omega)) ?_
      refine g_istore (L' := [(0, .ref (w.1 12)), (1, .int (nI (toN i))), (2, .int (nI (toN j))), (3, .int (nI 4)), (4, .int (nI (far μ (toN i) (toN j))))]) h dX11_far_65 rfl (by decide) rfl ?_
      refine g_aload_n h dX11_far_67 0 rfl ?_
      refine g_iload h dX11_far_68 4 rfl ?_
      refine g_ifN_ne h dX11_far_70 (by omega) (fun c70 => ?_) (fun c70 => ?_)
      ·
        refine g_iconst h dX11_far_78 (by decide) ?_
        refine g_cvi (rest := []) h (c_fails hW 0 (by repeat (first | omega | exact rg_lt | exact ns_lt | exact ps_lt | exact gst_lt | exact ofS_lt | exact if_lt (by decide) (by decide) | apply fo_lt))) lX11_fails mX11_106 (Nat.lt_of_lt_of_le (by decide) (Nat.le_refl _)) (by decide) sc_12 rfl rfl rfl rfl dX11_far_79 (fun σ_3 eσ_3 => ?_)
        obtain ⟨eσ_3_a, eσ_3_b⟩ := eσ_3
        have eσ_3_a : σ_3 14000 = (nI 0) := eσ_3_a
        have eσ_3_b : ∀ a, (a ≠ 14000) → σ_3 a = σ_2 a := eσ_3_b
        have ht14000_σ_3 : σ_3 14000 = (nI 0) := eσ_3_a
        have hcFR_σ_3 : ∀ a, (a < 14900 ∧ a ≠ 14000) → σ_3 a = σ a := by intro a ha; exact Eq.trans (b := σ_2 a) (eσ_3_b a (by first | omega | (simp only [vb] at *; omega))) (hcFR_σ_2 a ha)
        have hcTR_σ_3 : TR σ_3 μ := by exact TR.fr hcTR_σ_2 (fun a ha hb => eσ_3_b a (by first | omega | (simp only [vb] at *; omega)))
        have hvσ_3 : vw (vb 0) σ_3 = μ := by rw [vw_fr (σ := σ_2) (fun j _ _ => eσ_3_b _ (by first | omega | (simp only [vb] at *; omega)))]; first | exact hvσ_2 | assumption
        refine g_top (y := nI 0) rfl ?_
        refine g_ifN_eq h dX11_far_82 (by decide) (fun c82 => ?_) (fun c82 => absurd c82 (by decide))
        refine g_iload h dX11_far_89 4 rfl ?_
        exact g_iret h hQ dX11_far_91 (congrArg (fun z => some (Value.int z)) (show (an (fo (fo (ps μ i j) (if (offB μ i || offB μ j) = true then 4 else 0)) (if far μ (toN i) (toN j) = 0 then 7 else 0)) (nI (far μ (toN i) (toN j)))) = (nI (far μ (toN i) (toN j))) by first | exact an_yes (by first | exact (fo_r hA).trans (if_pos (by assumption)) | exact (fo_r hA).trans (if_neg (by assumption)) | (have q := nb1 c36; simp only [c5, c36, c70] ; simp [c5, c36, c70] at q ⊢; rw [fo_l q]; done) | (simp [c5, c36, c70, fo]; done)) (by rfl) | exact an_no (k := 0) (by first | exact (fo_r hA).trans (if_pos (by assumption)) | exact (fo_r hA).trans (if_neg (by assumption)) | (have q := nb1 c36; simp only [c5, c36, c70] ; simp [c5, c36, c70] at q ⊢; rw [fo_l q]; done) | (simp [c5, c36, c70, fo]; done)) (by first | decide | omega | assumption | exact nb1 (by assumption)) | fail)) (by exact ⟨(by first | exact tk_eq (k := 0) (by first | exact (fo_r hA).trans (if_pos (by assumption)) | exact (fo_r hA).trans (if_neg (by assumption)) | (have q := nb1 c36; simp only [c5, c36, c70] ; simp [c5, c36, c70] at q ⊢; rw [fo_l q]; done) | (simp [c5, c36, c70, fo]; done)) ht14000_σ_3 | exact tk_eq (k := 0) (by first | exact (fo_r hA).trans (if_pos (by assumption)) | exact (fo_r hA).trans (if_neg (by assumption)) | (have q := nb1 c36; simp only [c5, c36, c70] ; simp [c5, c36, c70] at q ⊢; rw [fo_l q]; done) | (simp [c5, c36, c70, fo]; done)) ht14000_σ_3 | fail), (by exact hcFR_σ_3)⟩)
      ·
        refine g_bipush h dX11_far_73 (by decide) ?_
        refine g_goto h dX11_far_75 ?_
        refine g_cvi (rest := []) h (c_fails hW 7 (by repeat (first | omega | exact rg_lt | exact ns_lt | exact ps_lt | exact gst_lt | exact ofS_lt | exact if_lt (by decide) (by decide) | apply fo_lt))) lX11_fails mX11_106 (Nat.lt_of_lt_of_le (by decide) (Nat.le_refl _)) (by decide) sc_12 rfl rfl rfl rfl dX11_far_79 (fun σ_4 eσ_4 => ?_)
        obtain ⟨eσ_4_a, eσ_4_b⟩ := eσ_4
        have eσ_4_a : σ_4 14000 = (nI 7) := eσ_4_a
        have eσ_4_b : ∀ a, (a ≠ 14000) → σ_4 a = σ_2 a := eσ_4_b
        have ht14000_σ_4 : σ_4 14000 = (nI 7) := eσ_4_a
        have hcFR_σ_4 : ∀ a, (a < 14900 ∧ a ≠ 14000) → σ_4 a = σ a := by intro a ha; exact Eq.trans (b := σ_2 a) (eσ_4_b a (by first | omega | (simp only [vb] at *; omega))) (hcFR_σ_2 a ha)
        have hcTR_σ_4 : TR σ_4 μ := by exact TR.fr hcTR_σ_2 (fun a ha hb => eσ_4_b a (by first | omega | (simp only [vb] at *; omega)))
        have hvσ_4 : vw (vb 0) σ_4 = μ := by rw [vw_fr (σ := σ_2) (fun j _ _ => eσ_4_b _ (by first | omega | (simp only [vb] at *; omega)))]; first | exact hvσ_2 | assumption
        refine g_top (y := nI 1) rfl ?_
        refine g_ifN_eq h dX11_far_82 (by decide) (fun c82 => absurd c82 (by decide)) (fun c82 => ?_)
        refine g_iconstv h dX11_far_85 (v := (-1)) (by decide) ?_
        refine g_goto h dX11_far_86 ?_
        exact g_iret h hQ dX11_far_91 (congrArg (fun z => some (Value.int z)) (show (an (fo (fo (ps μ i j) (if (offB μ i || offB μ j) = true then 4 else 0)) (if far μ (toN i) (toN j) = 0 then 7 else 0)) (nI (far μ (toN i) (toN j)))) = (-1) by first | exact an_yes (by first | exact (fo_r hA).trans (if_pos (by assumption)) | exact (fo_r hA).trans (if_neg (by assumption)) | (have q := nb1 c36; simp only [c5, c36, c70] ; simp [c5, c36, c70] at q ⊢; rw [fo_l q]; done) | (simp [c5, c36, c70, fo]; done)) (by rfl) | exact an_no (k := 7) (by first | exact (fo_r hA).trans (if_pos (by assumption)) | exact (fo_r hA).trans (if_neg (by assumption)) | (have q := nb1 c36; simp only [c5, c36, c70] ; simp [c5, c36, c70] at q ⊢; rw [fo_l q]; done) | (simp [c5, c36, c70, fo]; done)) (by first | decide | omega | assumption | exact nb1 (by assumption)) | fail)) (by exact ⟨(by first | exact tk_eq (k := 7) (by first | exact (fo_r hA).trans (if_pos (by assumption)) | exact (fo_r hA).trans (if_neg (by assumption)) | (have q := nb1 c36; simp only [c5, c36, c70] ; simp [c5, c36, c70] at q ⊢; rw [fo_l q]; done) | (simp [c5, c36, c70, fo]; done)) ht14000_σ_4 | exact tk_eq (k := 7) (by first | exact (fo_r hA).trans (if_pos (by assumption)) | exact (fo_r hA).trans (if_neg (by assumption)) | (have q := nb1 c36; simp only [c5, c36, c70] ; simp [c5, c36, c70] at q ⊢; rw [fo_l q]; done) | (simp [c5, c36, c70, fo]; done)) ht14000_σ_4 | fail), (by exact hcFR_σ_4)⟩)
    ·
      refine g_iconstv h dX11_far_39 (v := (-1)) (by decide) ?_
      exact g_iret h hQ dX11_far_40 (congrArg (fun z => some (Value.int z)) (show (an (fo (fo (ps μ i j) (if (offB μ i || offB μ j) = true then 4 else 0)) (if far μ (toN i) (toN j) = 0 then 7 else 0)) (nI (far μ (toN i) (toN j)))) = (-1) by first | exact an_yes (by first | exact (fo_r hA).trans (if_pos (by assumption)) | exact (fo_r hA).trans (if_neg (by assumption)) | (have q := nb1 c36; simp only [c5, c36] ; simp [c5, c36] at q ⊢; rw [fo_l q]; done) | (simp [c5, c36, fo]; done)) (by rfl) | exact an_no (k := (fo (ps μ i j) 4)) (by first | exact (fo_r hA).trans (if_pos (by assumption)) | exact (fo_r hA).trans (if_neg (by assumption)) | (have q := nb1 c36; simp only [c5, c36] ; simp [c5, c36] at q ⊢; rw [fo_l q]; done) | (simp [c5, c36, fo]; done)) (by first | decide | omega | assumption | exact nb1 (by assumption)) | fail)) (by exact ⟨(by first | exact tk_eq (k := (fo (ps μ i j) 4)) (by first | exact (fo_r hA).trans (if_pos (by assumption)) | exact (fo_r hA).trans (if_neg (by assumption)) | (have q := nb1 c36; simp only [c5, c36] ; simp [c5, c36] at q ⊢; rw [fo_l q]; done) | (simp [c5, c36, fo]; done)) ht14000_σ_1 | exact tk_eq (k := (fo (ps μ i j) 4)) (by first | exact (fo_r hA).trans (if_pos (by assumption)) | exact (fo_r hA).trans (if_neg (by assumption)) | (have q := nb1 c36; simp only [c5, c36] ; simp [c5, c36] at q ⊢; rw [fo_l q]; done) | (simp [c5, c36, fo]; done)) ht14000_σ_1 | fail), (by exact hcFR_σ_1)⟩)
  ·
    refine g_aload_n h dX11_far_8 0 rfl ?_
    refine g_iload_n h dX11_far_9 2 rfl ?_
    refine g_cvpi (rest := []) h (c_isOff hW j μ (by first | exact hv | assumption | fail) (by assumption)) lX11_isOff mX11_302 (Nat.lt_of_lt_of_le (by decide) (Nat.le_refl _)) (by decide) sc_12 rfl rfl rfl rfl dX11_far_10 ?_
    refine g_ifB_eq h dX11_far_13 (fun c13 => ?_) (fun c13 => ?_)
    ·
      refine g_iconst h dX11_far_20 (by decide) ?_
      refine g_istore_n (L' := [(0, .ref (w.1 12)), (1, .int i), (2, .int j), (3, .int (nI 0))]) h dX11_far_21 rfl (by decide) rfl ?_
      refine g_aload_n h dX11_far_22 0 rfl ?_
      refine g_aload_n h dX11_far_23 0 rfl ?_
      refine g_iload_n h dX11_far_24 1 rfl ?_
      refine g_iload_n h dX11_far_25 2 rfl ?_
      refine g_cvpi (rest := [.ref (w.1 12)]) h (c_ps hW i j μ (by first | exact hv | assumption | fail)) lX11_pairStatus mX11_209 (Nat.lt_of_lt_of_le (by decide) (Nat.le_refl _)) (by decide) sc_12 rfl rfl rfl rfl dX11_far_26 ?_
      refine g_iload_n h dX11_far_29 3 rfl ?_
      refine g_cspi (rest := [.ref (w.1 12)]) h (c_fo hW (ps μ i j) 0 (by repeat (first | omega | exact rg_lt | exact ns_lt | exact ps_lt | exact gst_lt | exact ofS_lt | exact if_lt (by decide) (by decide) | apply fo_lt)) (by repeat (first | omega | exact rg_lt | exact ns_lt | exact ps_lt | exact gst_lt | exact ofS_lt | exact if_lt (by decide) (by decide) | apply fo_lt))) lX11_firstOf mX11_163 (Nat.lt_of_lt_of_le (by decide) (Nat.le_refl _)) (by decide) rfl rfl rfl dX11_far_30 ?_
      refine g_cvi (rest := []) h (c_fails hW (fo (ps μ i j) 0) (by repeat (first | omega | exact rg_lt | exact ns_lt | exact ps_lt | exact gst_lt | exact ofS_lt | exact if_lt (by decide) (by decide) | apply fo_lt))) lX11_fails mX11_106 (Nat.lt_of_lt_of_le (by decide) (Nat.le_refl _)) (by decide) sc_12 rfl rfl rfl rfl dX11_far_33 (fun σ_5 eσ_5 => ?_)
      obtain ⟨eσ_5_a, eσ_5_b⟩ := eσ_5
      have eσ_5_a : σ_5 14000 = (nI (fo (ps μ i j) 0)) := eσ_5_a
      have eσ_5_b : ∀ a, (a ≠ 14000) → σ_5 a = σ a := eσ_5_b
      have ht14000_σ_5 : σ_5 14000 = (nI (fo (ps μ i j) 0)) := eσ_5_a
      have hcFR_σ_5 : ∀ a, (a < 14900 ∧ a ≠ 14000) → σ_5 a = σ a := by intro a ha; exact Eq.trans (b := σ a) (eσ_5_b a (by first | omega | (simp only [vb] at *; omega))) (hcFR_σ a ha)
      have hvσ_5 : vw (vb 0) σ_5 = μ := by rw [vw_fr (σ := σ) (fun j _ _ => eσ_5_b _ (by first | omega | (simp only [vb] at *; omega)))]; first | exact hv | assumption
      refine g_ifB_eq h dX11_far_36 (fun c36 => ?_) (fun c36 => ?_)
      ·
        have hA : fo (ps μ i j) (if (offB μ i || offB μ j) = true then 4 else 0) = 0 := by first | (have q := nb0 c36; simpa [c5, c13, c36] using q) | exact nb0 c36
        obtain ⟨hs1, hs2⟩ := fo_0 hA
        have h0 := ps_0 hs1
        obtain ⟨ei, hi9⟩ := nB_N hI h0.1
        obtain ⟨ej, hj9⟩ := nB_N hI h0.2.1
        rw [ei, ej]
        have hfl := far_lt (μ := μ) (f := toN i) (t := toN j)
        show G X w 5 41 [(0, .ref (w.1 12)), (1, .int (nI (toN i))), (2, .int (nI (toN j))), (3, .int (nI 0))] [] σ_5
        refine g_aload_n h dX11_far_41 0 rfl ?_
        refine g_getr h dX11_far_42 gX11_65 sc_12 rfl ?_
        refine g_aload_n h dX11_far_45 0 rfl ?_
        refine g_getr h dX11_far_46 gX11_23 sc_12 rfl ?_
        refine g_cvv (rest := []) h (c_see hW 0 μ (by first | omega | decide | fail) (by first | exact hvσ_5 | assumption | fail) (by assumption)) lX10_see mX11_305 (Nat.lt_of_lt_of_le (by decide) (Nat.le_refl _)) (by decide) sc_25 rfl rfl rfl rfl dX11_far_49 (fun σ_6 eσ_6 => ?_)
        obtain ⟨eσ_6_a, eσ_6_b⟩ := eσ_6
        have eσ_6_a : TR σ_6 μ := eσ_6_a
        have eσ_6_b : ∀ a, (a ≠ 15030 ∧ (a < 15180 ∨ 15188 ≤ a) ∧ (a < 15330 ∨ 15394 ≤ a)) → σ_6 a = σ_5 a := eσ_6_b
        have ht14000_σ_6 : σ_6 14000 = (nI (fo (ps μ i j) 0)) := by rw [eσ_6_b _ (by first | omega | (simp only [vb] at *; omega))]; first | exact ht14000_σ_5 | assumption
        have hcFR_σ_6 : ∀ a, (a < 14900 ∧ a ≠ 14000) → σ_6 a = σ a := by intro a ha; exact Eq.trans (b := σ_5 a) (eσ_6_b a (by first | omega | (simp only [vb] at *; omega))) (hcFR_σ_5 a ha)
        have hcTR_σ_6 : TR σ_6 μ := eσ_6_a
        have hvσ_6 : vw (vb 0) σ_6 = μ := by rw [vw_fr (σ := σ_5) (fun j _ _ => eσ_6_b _ (by first | omega | (simp only [vb] at *; omega)))]; first | exact hvσ_5 | assumption
        refine g_aload_n h dX11_far_52 0 rfl ?_
        refine g_getr h dX11_far_53 gX11_65 sc_12 rfl ?_
        refine g_getr h dX11_far_56 gX11_308 sc_25 rfl ?_
        refine g_iload_n h dX11_far_59 1 rfl ?_
        refine g_iload_n h dX11_far_60 2 rfl ?_
        refine g_cspi (rest := [.ref (w.1 27)]) h (c_at hW (toN i) (toN j) ) lX5_at mX11_215 (Nat.lt_of_lt_of_le (by decide) (Nat.le_refl _)) (by decide) rfl rfl rfl dX11_far_61 ?_
        refine g_iald h dX11_far_64 sc_27 (by omega) ?_
        refine g_top (y := (nI (far μ (toN i) (toN j)))) (hcTR_σ_6.2.2 (toN i) (by omega) (toN j) (by omega)) ?_
        refine g_istore (L' := [(0, .ref (w.1 12)), (1, .int (nI (toN i))), (2, .int (nI (toN j))), (3, .int (nI 0)), (4, .int (nI (far μ (toN i) (toN j))))]) h dX11_far_65 rfl (by decide) rfl ?_
        refine g_aload_n h dX11_far_67 0 rfl ?_
        refine g_iload h dX11_far_68 4 rfl ?_
        refine g_ifN_ne h dX11_far_70 (by omega) (fun c70 => ?_) (fun c70 => ?_)
        ·
          refine g_iconst h dX11_far_78 (by decide) ?_
          refine g_cvi (rest := []) h (c_fails hW 0 (by repeat (first | omega | exact rg_lt | exact ns_lt | exact ps_lt | exact gst_lt | exact ofS_lt | exact if_lt (by decide) (by decide) | apply fo_lt))) lX11_fails mX11_106 (Nat.lt_of_lt_of_le (by decide) (Nat.le_refl _)) (by decide) sc_12 rfl rfl rfl rfl dX11_far_79 (fun σ_7 eσ_7 => ?_)
          obtain ⟨eσ_7_a, eσ_7_b⟩ := eσ_7
          have eσ_7_a : σ_7 14000 = (nI 0) := eσ_7_a
          have eσ_7_b : ∀ a, (a ≠ 14000) → σ_7 a = σ_6 a := eσ_7_b
          have ht14000_σ_7 : σ_7 14000 = (nI 0) := eσ_7_a
          have hcFR_σ_7 : ∀ a, (a < 14900 ∧ a ≠ 14000) → σ_7 a = σ a := by intro a ha; exact Eq.trans (b := σ_6 a) (eσ_7_b a (by first | omega | (simp only [vb] at *; omega))) (hcFR_σ_6 a ha)
          have hcTR_σ_7 : TR σ_7 μ := by exact TR.fr hcTR_σ_6 (fun a ha hb => eσ_7_b a (by first | omega | (simp only [vb] at *; omega)))
          have hvσ_7 : vw (vb 0) σ_7 = μ := by rw [vw_fr (σ := σ_6) (fun j _ _ => eσ_7_b _ (by first | omega | (simp only [vb] at *; omega)))]; first | exact hvσ_6 | assumption
          refine g_top (y := nI 0) rfl ?_
          refine g_ifN_eq h dX11_far_82 (by decide) (fun c82 => ?_) (fun c82 => absurd c82 (by decide))
          refine g_iload h dX11_far_89 4 rfl ?_
          exact g_iret h hQ dX11_far_91 (congrArg (fun z => some (Value.int z)) (show (an (fo (fo (ps μ i j) (if (offB μ i || offB μ j) = true then 4 else 0)) (if far μ (toN i) (toN j) = 0 then 7 else 0)) (nI (far μ (toN i) (toN j)))) = (nI (far μ (toN i) (toN j))) by first | exact an_yes (by first | exact (fo_r hA).trans (if_pos (by assumption)) | exact (fo_r hA).trans (if_neg (by assumption)) | (have q := nb1 c36; simp only [c5, c13, c36, c70] ; simp [c5, c13, c36, c70] at q ⊢; rw [fo_l q]; done) | (simp [c5, c13, c36, c70, fo]; done)) (by rfl) | exact an_no (k := 0) (by first | exact (fo_r hA).trans (if_pos (by assumption)) | exact (fo_r hA).trans (if_neg (by assumption)) | (have q := nb1 c36; simp only [c5, c13, c36, c70] ; simp [c5, c13, c36, c70] at q ⊢; rw [fo_l q]; done) | (simp [c5, c13, c36, c70, fo]; done)) (by first | decide | omega | assumption | exact nb1 (by assumption)) | fail)) (by exact ⟨(by first | exact tk_eq (k := 0) (by first | exact (fo_r hA).trans (if_pos (by assumption)) | exact (fo_r hA).trans (if_neg (by assumption)) | (have q := nb1 c36; simp only [c5, c13, c36, c70] ; simp [c5, c13, c36, c70] at q ⊢; rw [fo_l q]; done) | (simp [c5, c13, c36, c70, fo]; done)) ht14000_σ_7 | exact tk_eq (k := 0) (by first | exact (fo_r hA).trans (if_pos (by assumption)) | exact (fo_r hA).trans (if_neg (by assumption)) | (have q := nb1 c36; simp only [c5, c13, c36, c70] ; simp [c5, c13, c36, c70] at q ⊢; rw [fo_l q]; done) | (simp [c5, c13, c36, c70, fo]; done)) ht14000_σ_7 | fail), (by exact hcFR_σ_7)⟩)
        ·
          refine g_bipush h dX11_far_73 (by decide) ?_
          refine g_goto h dX11_far_75 ?_
          refine g_cvi (rest := []) h (c_fails hW 7 (by repeat (first | omega | exact rg_lt | exact ns_lt | exact ps_lt | exact gst_lt | exact ofS_lt | exact if_lt (by decide) (by decide) | apply fo_lt))) lX11_fails mX11_106 (Nat.lt_of_lt_of_le (by decide) (Nat.le_refl _)) (by decide) sc_12 rfl rfl rfl rfl dX11_far_79 (fun σ_8 eσ_8 => ?_)
          obtain ⟨eσ_8_a, eσ_8_b⟩ := eσ_8
          have eσ_8_a : σ_8 14000 = (nI 7) := eσ_8_a
          have eσ_8_b : ∀ a, (a ≠ 14000) → σ_8 a = σ_6 a := eσ_8_b
          have ht14000_σ_8 : σ_8 14000 = (nI 7) := eσ_8_a
          have hcFR_σ_8 : ∀ a, (a < 14900 ∧ a ≠ 14000) → σ_8 a = σ a := by intro a ha; exact Eq.trans (b := σ_6 a) (eσ_8_b a (by first | omega | (simp only [vb] at *; omega))) (hcFR_σ_6 a ha)
          have hcTR_σ_8 : TR σ_8 μ := by exact TR.fr hcTR_σ_6 (fun a ha hb => eσ_8_b a (by first | omega | (simp only [vb] at *; omega)))
          have hvσ_8 : vw (vb 0) σ_8 = μ := by rw [vw_fr (σ := σ_6) (fun j _ _ => eσ_8_b _ (by first | omega | (simp only [vb] at *; omega)))]; first | exact hvσ_6 | assumption
          refine g_top (y := nI 1) rfl ?_
          refine g_ifN_eq h dX11_far_82 (by decide) (fun c82 => absurd c82 (by decide)) (fun c82 => ?_)
          refine g_iconstv h dX11_far_85 (v := (-1)) (by decide) ?_
          refine g_goto h dX11_far_86 ?_
          exact g_iret h hQ dX11_far_91 (congrArg (fun z => some (Value.int z)) (show (an (fo (fo (ps μ i j) (if (offB μ i || offB μ j) = true then 4 else 0)) (if far μ (toN i) (toN j) = 0 then 7 else 0)) (nI (far μ (toN i) (toN j)))) = (-1) by first | exact an_yes (by first | exact (fo_r hA).trans (if_pos (by assumption)) | exact (fo_r hA).trans (if_neg (by assumption)) | (have q := nb1 c36; simp only [c5, c13, c36, c70] ; simp [c5, c13, c36, c70] at q ⊢; rw [fo_l q]; done) | (simp [c5, c13, c36, c70, fo]; done)) (by rfl) | exact an_no (k := 7) (by first | exact (fo_r hA).trans (if_pos (by assumption)) | exact (fo_r hA).trans (if_neg (by assumption)) | (have q := nb1 c36; simp only [c5, c13, c36, c70] ; simp [c5, c13, c36, c70] at q ⊢; rw [fo_l q]; done) | (simp [c5, c13, c36, c70, fo]; done)) (by first | decide | omega | assumption | exact nb1 (by assumption)) | fail)) (by exact ⟨(by first | exact tk_eq (k := 7) (by first | exact (fo_r hA).trans (if_pos (by assumption)) | exact (fo_r hA).trans (if_neg (by assumption)) | (have q := nb1 c36; simp only [c5, c13, c36, c70] ; simp [c5, c13, c36, c70] at q ⊢; rw [fo_l q]; done) | (simp [c5, c13, c36, c70, fo]; done)) ht14000_σ_8 | exact tk_eq (k := 7) (by first | exact (fo_r hA).trans (if_pos (by assumption)) | exact (fo_r hA).trans (if_neg (by assumption)) | (have q := nb1 c36; simp only [c5, c13, c36, c70] ; simp [c5, c13, c36, c70] at q ⊢; rw [fo_l q]; done) | (simp [c5, c13, c36, c70, fo]; done)) ht14000_σ_8 | fail), (by exact hcFR_σ_8)⟩)
      ·
        refine g_iconstv h dX11_far_39 (v := (-1)) (by decide) ?_
        exact g_iret h hQ dX11_far_40 (congrArg (fun z => some (Value.int z)) (show (an (fo (fo (ps μ i j) (if (offB μ i || offB μ j) = true then 4 else 0)) (if far μ (toN i) (toN j) = 0 then 7 else 0)) (nI (far μ (toN i) (toN j)))) = (-1) by first | exact an_yes (by first | exact (fo_r hA).trans (if_pos (by assumption)) | exact (fo_r hA).trans (if_neg (by assumption)) | (have q := nb1 c36; simp only [c5, c13, c36] ; simp [c5, c13, c36] at q ⊢; rw [fo_l q]; done) | (simp [c5, c13, c36, fo]; done)) (by rfl) | exact an_no (k := (fo (ps μ i j) 0)) (by first | exact (fo_r hA).trans (if_pos (by assumption)) | exact (fo_r hA).trans (if_neg (by assumption)) | (have q := nb1 c36; simp only [c5, c13, c36] ; simp [c5, c13, c36] at q ⊢; rw [fo_l q]; done) | (simp [c5, c13, c36, fo]; done)) (by first | decide | omega | assumption | exact nb1 (by assumption)) | fail)) (by exact ⟨(by first | exact tk_eq (k := (fo (ps μ i j) 0)) (by first | exact (fo_r hA).trans (if_pos (by assumption)) | exact (fo_r hA).trans (if_neg (by assumption)) | (have q := nb1 c36; simp only [c5, c13, c36] ; simp [c5, c13, c36] at q ⊢; rw [fo_l q]; done) | (simp [c5, c13, c36, fo]; done)) ht14000_σ_5 | exact tk_eq (k := (fo (ps μ i j) 0)) (by first | exact (fo_r hA).trans (if_pos (by assumption)) | exact (fo_r hA).trans (if_neg (by assumption)) | (have q := nb1 c36; simp only [c5, c13, c36] ; simp [c5, c13, c36] at q ⊢; rw [fo_l q]; done) | (simp [c5, c13, c36, fo]; done)) ht14000_σ_5 | fail), (by exact hcFR_σ_5)⟩)
    ·
      refine g_iconst h dX11_far_16 (by decide) ?_
      refine g_goto h dX11_far_17 ?_
      refine g_istore_n (L' := [(0, .ref (w.1 12)), (1, .int i), (2, .int j), (3, .int (nI 4))]) h dX11_far_21 rfl (by decide) rfl ?_
      refine g_aload_n h dX11_far_22 0 rfl ?_
      refine g_aload_n h dX11_far_23 0 rfl ?_
      refine g_iload_n h dX11_far_24 1 rfl ?_
      refine g_iload_n h dX11_far_25 2 rfl ?_
      refine g_cvpi (rest := [.ref (w.1 12)]) h (c_ps hW i j μ (by first | exact hv | assumption | fail)) lX11_pairStatus mX11_209 (Nat.lt_of_lt_of_le (by decide) (Nat.le_refl _)) (by decide) sc_12 rfl rfl rfl rfl dX11_far_26 ?_
      refine g_iload_n h dX11_far_29 3 rfl ?_
      refine g_cspi (rest := [.ref (w.1 12)]) h (c_fo hW (ps μ i j) 4 (by repeat (first | omega | exact rg_lt | exact ns_lt | exact ps_lt | exact gst_lt | exact ofS_lt | exact if_lt (by decide) (by decide) | apply fo_lt)) (by repeat (first | omega | exact rg_lt | exact ns_lt | exact ps_lt | exact gst_lt | exact ofS_lt | exact if_lt (by decide) (by decide) | apply fo_lt))) lX11_firstOf mX11_163 (Nat.lt_of_lt_of_le (by decide) (Nat.le_refl _)) (by decide) rfl rfl rfl dX11_far_30 ?_
      refine g_cvi (rest := []) h (c_fails hW (fo (ps μ i j) 4) (by repeat (first | omega | exact rg_lt | exact ns_lt | exact ps_lt | exact gst_lt | exact ofS_lt | exact if_lt (by decide) (by decide) | apply fo_lt))) lX11_fails mX11_106 (Nat.lt_of_lt_of_le (by decide) (Nat.le_refl _)) (by decide) sc_12 rfl rfl rfl rfl dX11_far_33 (fun σ_9 eσ_9 => ?_)
      obtain ⟨eσ_9_a, eσ_9_b⟩ := eσ_9
      have eσ_9_a : σ_9 14000 = (nI (fo (ps μ i j) 4)) := eσ_9_a
      have eσ_9_b : ∀ a, (a ≠ 14000) → σ_9 a = σ a := eσ_9_b
      have ht14000_σ_9 : σ_9 14000 = (nI (fo (ps μ i j) 4)) := eσ_9_a
      have hcFR_σ_9 : ∀ a, (a < 14900 ∧ a ≠ 14000) → σ_9 a = σ a := by intro a ha; exact Eq.trans (b := σ a) (eσ_9_b a (by first | omega | (simp only [vb] at *; omega))) (hcFR_σ a ha)
      have hvσ_9 : vw (vb 0) σ_9 = μ := by rw [vw_fr (σ := σ) (fun j _ _ => eσ_9_b _ (by first | omega | (simp only [vb] at *; omega)))]; first | exact hv | assumption
      refine g_ifB_eq h dX11_far_36 (fun c36 => ?_) (fun c36 => ?_)
      ·
        have hA : fo (ps μ i j) (if (offB μ i || offB μ j) = true then 4 else 0) = 0 := by first | (have q := nb0 c36; simpa [c5, c13, c36] using q) | exact nb0 c36
        obtain ⟨hs1, hs2⟩ := fo_0 hA
        have h0 := ps_0 hs1
        obtain ⟨ei, hi9⟩ := nB_N hI h0.1
        obtain ⟨ej, hj9⟩ := nB_N hI h0.2.1
        rw [ei, ej]
        have hfl := far_lt (μ := μ) (f := toN i) (t := toN j)
        show G X w 5 41 [(0, .ref (w.1 12)), (1, .int (nI (toN i))), (2, .int (nI (toN j))), (3, .int (nI 4))] [] σ_9
        refine g_aload_n h dX11_far_41 0 rfl ?_
        refine g_getr h dX11_far_42 gX11_65 sc_12 rfl ?_
        refine g_aload_n h dX11_far_45 0 rfl ?_
        refine g_getr h dX11_far_46 gX11_23 sc_12 rfl ?_
        refine g_cvv (rest := []) h (c_see hW 0 μ (by first | omega | decide | fail) (by first | exact hvσ_9 | assumption | fail) (by assumption)) lX10_see mX11_305 (Nat.lt_of_lt_of_le (by decide) (Nat.le_refl _)) (by decide) sc_25 rfl rfl rfl rfl dX11_far_49 (fun σ_10 eσ_10 => ?_)
        obtain ⟨eσ_10_a, eσ_10_b⟩ := eσ_10
        have eσ_10_a : TR σ_10 μ := eσ_10_a
        have eσ_10_b : ∀ a, (a ≠ 15030 ∧ (a < 15180 ∨ 15188 ≤ a) ∧ (a < 15330 ∨ 15394 ≤ a)) → σ_10 a = σ_9 a := eσ_10_b
        have ht14000_σ_10 : σ_10 14000 = (nI (fo (ps μ i j) 4)) := by rw [eσ_10_b _ (by first | omega | (simp only [vb] at *; omega))]; first | exact ht14000_σ_9 | assumption
        have hcFR_σ_10 : ∀ a, (a < 14900 ∧ a ≠ 14000) → σ_10 a = σ a := by intro a ha; exact Eq.trans (b := σ_9 a) (eσ_10_b a (by first | omega | (simp only [vb] at *; omega))) (hcFR_σ_9 a ha)
        have hcTR_σ_10 : TR σ_10 μ := eσ_10_a
        have hvσ_10 : vw (vb 0) σ_10 = μ := by rw [vw_fr (σ := σ_9) (fun j _ _ => eσ_10_b _ (by first | omega | (simp only [vb] at *; omega)))]; first | exact hvσ_9 | assumption
        refine g_aload_n h dX11_far_52 0 rfl ?_
        refine g_getr h dX11_far_53 gX11_65 sc_12 rfl ?_
        refine g_getr h dX11_far_56 gX11_308 sc_25 rfl ?_
        refine g_iload_n h dX11_far_59 1 rfl ?_
        refine g_iload_n h dX11_far_60 2 rfl ?_
        refine g_cspi (rest := [.ref (w.1 27)]) h (c_at hW (toN i) (toN j) ) lX5_at mX11_215 (Nat.lt_of_lt_of_le (by decide) (Nat.le_refl _)) (by decide) rfl rfl rfl dX11_far_61 ?_
        refine g_iald h dX11_far_64 sc_27 (by omega) ?_
        refine g_top (y := (nI (far μ (toN i) (toN j)))) (hcTR_σ_10.2.2 (toN i) (by omega) (toN j) (by omega)) ?_
        refine g_istore (L' := [(0, .ref (w.1 12)), (1, .int (nI (toN i))), (2, .int (nI (toN j))), (3, .int (nI 4)), (4, .int (nI (far μ (toN i) (toN j))))]) h dX11_far_65 rfl (by decide) rfl ?_
        refine g_aload_n h dX11_far_67 0 rfl ?_
        refine g_iload h dX11_far_68 4 rfl ?_
        refine g_ifN_ne h dX11_far_70 (by omega) (fun c70 => ?_) (fun c70 => ?_)
        ·
          refine g_iconst h dX11_far_78 (by decide) ?_
          refine g_cvi (rest := []) h (c_fails hW 0 (by repeat (first | omega | exact rg_lt | exact ns_lt | exact ps_lt | exact gst_lt | exact ofS_lt | exact if_lt (by decide) (by decide) | apply fo_lt))) lX11_fails mX11_106 (Nat.lt_of_lt_of_le (by decide) (Nat.le_refl _)) (by decide) sc_12 rfl rfl rfl rfl dX11_far_79 (fun σ_11 eσ_11 => ?_)
          obtain ⟨eσ_11_a, eσ_11_b⟩ := eσ_11
          have eσ_11_a : σ_11 14000 = (nI 0) := eσ_11_a
          have eσ_11_b : ∀ a, (a ≠ 14000) → σ_11 a = σ_10 a := eσ_11_b
          have ht14000_σ_11 : σ_11 14000 = (nI 0) := eσ_11_a
          have hcFR_σ_11 : ∀ a, (a < 14900 ∧ a ≠ 14000) → σ_11 a = σ a := by intro a ha; exact Eq.trans (b := σ_10 a) (eσ_11_b a (by first | omega | (simp only [vb] at *; omega))) (hcFR_σ_10 a ha)
          have hcTR_σ_11 : TR σ_11 μ := by exact TR.fr hcTR_σ_10 (fun a ha hb => eσ_11_b a (by first | omega | (simp only [vb] at *; omega)))
          have hvσ_11 : vw (vb 0) σ_11 = μ := by rw [vw_fr (σ := σ_10) (fun j _ _ => eσ_11_b _ (by first | omega | (simp only [vb] at *; omega)))]; first | exact hvσ_10 | assumption
          refine g_top (y := nI 0) rfl ?_
          refine g_ifN_eq h dX11_far_82 (by decide) (fun c82 => ?_) (fun c82 => absurd c82 (by decide))
          refine g_iload h dX11_far_89 4 rfl ?_
          exact g_iret h hQ dX11_far_91 (congrArg (fun z => some (Value.int z)) (show (an (fo (fo (ps μ i j) (if (offB μ i || offB μ j) = true then 4 else 0)) (if far μ (toN i) (toN j) = 0 then 7 else 0)) (nI (far μ (toN i) (toN j)))) = (nI (far μ (toN i) (toN j))) by first | exact an_yes (by first | exact (fo_r hA).trans (if_pos (by assumption)) | exact (fo_r hA).trans (if_neg (by assumption)) | (have q := nb1 c36; simp only [c5, c13, c36, c70] ; simp [c5, c13, c36, c70] at q ⊢; rw [fo_l q]; done) | (simp [c5, c13, c36, c70, fo]; done)) (by rfl) | exact an_no (k := 0) (by first | exact (fo_r hA).trans (if_pos (by assumption)) | exact (fo_r hA).trans (if_neg (by assumption)) | (have q := nb1 c36; simp only [c5, c13, c36, c70] ; simp [c5, c13, c36, c70] at q ⊢; rw [fo_l q]; done) | (simp [c5, c13, c36, c70, fo]; done)) (by first | decide | omega | assumption | exact nb1 (by assumption)) | fail)) (by exact ⟨(by first | exact tk_eq (k := 0) (by first | exact (fo_r hA).trans (if_pos (by assumption)) | exact (fo_r hA).trans (if_neg (by assumption)) | (have q := nb1 c36; simp only [c5, c13, c36, c70] ; simp [c5, c13, c36, c70] at q ⊢; rw [fo_l q]; done) | (simp [c5, c13, c36, c70, fo]; done)) ht14000_σ_11 | exact tk_eq (k := 0) (by first | exact (fo_r hA).trans (if_pos (by assumption)) | exact (fo_r hA).trans (if_neg (by assumption)) | (have q := nb1 c36; simp only [c5, c13, c36, c70] ; simp [c5, c13, c36, c70] at q ⊢; rw [fo_l q]; done) | (simp [c5, c13, c36, c70, fo]; done)) ht14000_σ_11 | fail), (by exact hcFR_σ_11)⟩)
        ·
          refine g_bipush h dX11_far_73 (by decide) ?_
          refine g_goto h dX11_far_75 ?_
          refine g_cvi (rest := []) h (c_fails hW 7 (by repeat (first | omega | exact rg_lt | exact ns_lt | exact ps_lt | exact gst_lt | exact ofS_lt | exact if_lt (by decide) (by decide) | apply fo_lt))) lX11_fails mX11_106 (Nat.lt_of_lt_of_le (by decide) (Nat.le_refl _)) (by decide) sc_12 rfl rfl rfl rfl dX11_far_79 (fun σ_12 eσ_12 => ?_)
          obtain ⟨eσ_12_a, eσ_12_b⟩ := eσ_12
          have eσ_12_a : σ_12 14000 = (nI 7) := eσ_12_a
          have eσ_12_b : ∀ a, (a ≠ 14000) → σ_12 a = σ_10 a := eσ_12_b
          have ht14000_σ_12 : σ_12 14000 = (nI 7) := eσ_12_a
          have hcFR_σ_12 : ∀ a, (a < 14900 ∧ a ≠ 14000) → σ_12 a = σ a := by intro a ha; exact Eq.trans (b := σ_10 a) (eσ_12_b a (by first | omega | (simp only [vb] at *; omega))) (hcFR_σ_10 a ha)
          have hcTR_σ_12 : TR σ_12 μ := by exact TR.fr hcTR_σ_10 (fun a ha hb => eσ_12_b a (by first | omega | (simp only [vb] at *; omega)))
          have hvσ_12 : vw (vb 0) σ_12 = μ := by rw [vw_fr (σ := σ_10) (fun j _ _ => eσ_12_b _ (by first | omega | (simp only [vb] at *; omega)))]; first | exact hvσ_10 | assumption
          refine g_top (y := nI 1) rfl ?_
          refine g_ifN_eq h dX11_far_82 (by decide) (fun c82 => absurd c82 (by decide)) (fun c82 => ?_)
          refine g_iconstv h dX11_far_85 (v := (-1)) (by decide) ?_
          refine g_goto h dX11_far_86 ?_
          exact g_iret h hQ dX11_far_91 (congrArg (fun z => some (Value.int z)) (show (an (fo (fo (ps μ i j) (if (offB μ i || offB μ j) = true then 4 else 0)) (if far μ (toN i) (toN j) = 0 then 7 else 0)) (nI (far μ (toN i) (toN j)))) = (-1) by first | exact an_yes (by first | exact (fo_r hA).trans (if_pos (by assumption)) | exact (fo_r hA).trans (if_neg (by assumption)) | (have q := nb1 c36; simp only [c5, c13, c36, c70] ; simp [c5, c13, c36, c70] at q ⊢; rw [fo_l q]; done) | (simp [c5, c13, c36, c70, fo]; done)) (by rfl) | exact an_no (k := 7) (by first | exact (fo_r hA).trans (if_pos (by assumption)) | exact (fo_r hA).trans (if_neg (by assumption)) | (have q := nb1 c36; simp only [c5, c13, c36, c70] ; simp [c5, c13, c36, c70] at q ⊢; rw [fo_l q]; done) | (simp [c5, c13, c36, c70, fo]; done)) (by first | decide | omega | assumption | exact nb1 (by assumption)) | fail)) (by exact ⟨(by first | exact tk_eq (k := 7) (by first | exact (fo_r hA).trans (if_pos (by assumption)) | exact (fo_r hA).trans (if_neg (by assumption)) | (have q := nb1 c36; simp only [c5, c13, c36, c70] ; simp [c5, c13, c36, c70] at q ⊢; rw [fo_l q]; done) | (simp [c5, c13, c36, c70, fo]; done)) ht14000_σ_12 | exact tk_eq (k := 7) (by first | exact (fo_r hA).trans (if_pos (by assumption)) | exact (fo_r hA).trans (if_neg (by assumption)) | (have q := nb1 c36; simp only [c5, c13, c36, c70] ; simp [c5, c13, c36, c70] at q ⊢; rw [fo_l q]; done) | (simp [c5, c13, c36, c70, fo]; done)) ht14000_σ_12 | fail), (by exact hcFR_σ_12)⟩)
      ·
        refine g_iconstv h dX11_far_39 (v := (-1)) (by decide) ?_
        exact g_iret h hQ dX11_far_40 (congrArg (fun z => some (Value.int z)) (show (an (fo (fo (ps μ i j) (if (offB μ i || offB μ j) = true then 4 else 0)) (if far μ (toN i) (toN j) = 0 then 7 else 0)) (nI (far μ (toN i) (toN j)))) = (-1) by first | exact an_yes (by first | exact (fo_r hA).trans (if_pos (by assumption)) | exact (fo_r hA).trans (if_neg (by assumption)) | (have q := nb1 c36; simp only [c5, c13, c36] ; simp [c5, c13, c36] at q ⊢; rw [fo_l q]; done) | (simp [c5, c13, c36, fo]; done)) (by rfl) | exact an_no (k := (fo (ps μ i j) 4)) (by first | exact (fo_r hA).trans (if_pos (by assumption)) | exact (fo_r hA).trans (if_neg (by assumption)) | (have q := nb1 c36; simp only [c5, c13, c36] ; simp [c5, c13, c36] at q ⊢; rw [fo_l q]; done) | (simp [c5, c13, c36, fo]; done)) (by first | decide | omega | assumption | exact nb1 (by assumption)) | fail)) (by exact ⟨(by first | exact tk_eq (k := (fo (ps μ i j) 4)) (by first | exact (fo_r hA).trans (if_pos (by assumption)) | exact (fo_r hA).trans (if_neg (by assumption)) | (have q := nb1 c36; simp only [c5, c13, c36] ; simp [c5, c13, c36] at q ⊢; rw [fo_l q]; done) | (simp [c5, c13, c36, fo]; done)) ht14000_σ_9 | exact tk_eq (k := (fo (ps μ i j) 4)) (by first | exact (fo_r hA).trans (if_pos (by assumption)) | exact (fo_r hA).trans (if_neg (by assumption)) | (have q := nb1 c36; simp only [c5, c13, c36] ; simp [c5, c13, c36] at q ⊢; rw [fo_l q]; done) | (simp [c5, c13, c36, fo]; done)) ht14000_σ_9 | fail), (by exact hcFR_σ_9)⟩)

set_option maxRecDepth 100000 in
set_option maxHeartbeats 4000000 in
theorem q_wrong {l : Launch} {w : Wd} (hW : Wi w) {σ : Mem} (i : Int32) (wt : Int32)  (μ : Nat → Int32) (hv : vw 0 σ = μ) (hI : MI μ) : MC l w qX12_wrong 6 [.ref (w.1 0), .int i, .int wt] σ (some (.int (an (fo (fo (rg wt (nI 0) (nI 2)) (ns μ i)) (ofS μ i)) (wrS μ (toN i) (toN wt))))) (fun σ' => (σ' 4000 = (nI (fo (fo (rg wt (nI 0) (nI 2)) (ns μ i)) (ofS μ i)))) ∧ (∀ a, ((a < 4900 ∨ 6000 ≤ a) ∧ a ≠ 4000) → σ' a = σ a)) := by
  refine MC.of hW (by decide +kernel) (Nat.le_of_ble_eq_true rfl) (fun X h hQ hnm => ?_)
  have h : Fx X w cX12_wrong 3 RX12 6 := h
  have hQ : Qx X w (some .int) (some (.int (an (fo (fo (rg wt (nI 0) (nI 2)) (ns μ i)) (ofS μ i)) (wrS μ (toN i) (toN wt))))) (fun σ' => (σ' 4000 = (nI (fo (fo (rg wt (nI 0) (nI 2)) (ns μ i)) (ofS μ i)))) ∧ (∀ a, ((a < 4900 ∨ 6000 ≤ a) ∧ a ≠ 4000) → σ' a = σ a)) := hQ
  have hN8 := mi_8 hI
  have hcFR_σ : ∀ a, ((a < 4900 ∨ 6000 ≤ a) ∧ a ≠ 4000) → σ a = σ a := fun _ _ => rfl
  show G X w 3 0 [(0, .ref (w.1 0)), (1, .int i), (2, .int wt)] [] σ
  refine g_iload_n h dX12_wrong_0 2 rfl ?_
  refine g_iconst h dX12_wrong_1 (by decide) ?_
  refine g_iconst h dX12_wrong_2 (by decide) ?_
  refine g_cspi (rest := []) h (r_isFrom hW wt (nI 0) (nI 2) ) lX12_isFrom mX12_134 (Nat.lt_of_lt_of_le (by decide) (Nat.le_refl _)) (by decide) rfl rfl rfl dX12_wrong_3 ?_
  refine g_ifB_ne h dX12_wrong_6 (fun c6 => ?_) (fun c6 => ?_)
  ·
    refine g_aload_n h dX12_wrong_15 0 rfl ?_
    refine g_iload_n h dX12_wrong_16 1 rfl ?_
    refine g_cvpi (rest := []) h (r_isNode hW i μ (by first | exact hv | assumption | fail)) lX12_isNode mX12_287 (Nat.lt_of_lt_of_le (by decide) (Nat.le_refl _)) (by decide) sc_0 rfl rfl rfl rfl dX12_wrong_17 ?_
    refine g_ifB_ne h dX12_wrong_20 (fun c20 => ?_) (fun c20 => ?_)
    ·
      obtain ⟨ew, hw9⟩ := fr_N (by decide) c6
      have hn9 : nB μ i = true := c20
      obtain ⟨ei, hi9⟩ := nB_N hI hn9
      have o1 := off_in hn9
      rw [ei, ew]
      show G X w 3 29 [(0, .ref (w.1 0)), (1, .int (nI (toN i))), (2, .int (nI (toN wt)))] [] σ
      refine g_aload_n h dX12_wrong_29 0 rfl ?_
      refine g_iload_n h dX12_wrong_30 1 rfl ?_
      refine g_cvpi (rest := []) h (r_isOn hW (toN i) μ (by assumption) (by omega)) lX12_isOn mX12_114 (Nat.lt_of_lt_of_le (by decide) (Nat.le_refl _)) (by decide) sc_0 rfl rfl rfl rfl dX12_wrong_31 ?_
      refine g_ifB_eq h dX12_wrong_34 (fun c34 => ?_) (fun c34 => ?_)
      ·
        refine g_aload_n h dX12_wrong_50 0 rfl ?_
        refine g_iconst h dX12_wrong_51 (by decide) ?_
        refine g_cvi (rest := []) h (r_refuse hW (nI 4) ) lX12_refuse mX12_272 (Nat.lt_of_lt_of_le (by decide) (Nat.le_refl _)) (by decide) sc_0 rfl rfl rfl rfl dX12_wrong_52 (fun σ_1 eσ_1 => ?_)
        have eσ_1_a : σ_1 = upd σ 4000 (nI 4) := eσ_1
        have ht4000_σ_1 : σ_1 4000 = (nI 4) := by rw [eσ_1_a]; exact upd_eq
        have hcFR_σ_1 : ∀ a, ((a < 4900 ∨ 6000 ≤ a) ∧ a ≠ 4000) → σ_1 a = σ a := by intro a ha; exact Eq.trans (b := σ a) (by rw [eσ_1_a, upd_ne (by first | omega | (simp only [vb] at *; omega))]) (hcFR_σ a ha)
        have hvσ_1 : vw 0 σ_1 = μ := by rw [eσ_1_a, vw_out (by omega)]; first | exact hv | assumption
        exact g_iret h hQ dX12_wrong_55 (congrArg (fun z => some (Value.int z)) (show (an (fo (fo (rg wt (nI 0) (nI 2)) (ns μ i)) (ofS μ i)) (wrS μ (toN i) (toN wt))) = (-1) by first | exact an_yes (by first | (simp [fo, rg, ns, c6, hn9, ofS, o1, c6, c20, c34]; done) | (first | rfl | (simp [fo, rg, ns, nB, ps, gst, ofS, offB, c6, c20, c34]; done) | (simp [fo, rg, ns, nB, ps, gst, ofS, offB, c6, c20, c34]; omega))) (by rfl) | exact an_no (k := 4) (by first | (simp [fo, rg, ns, c6, hn9, ofS, o1, c6, c20, c34]; done) | (first | rfl | (simp [fo, rg, ns, nB, ps, gst, ofS, offB, c6, c20, c34]; done) | (simp [fo, rg, ns, nB, ps, gst, ofS, offB, c6, c20, c34]; omega))) (by first | decide | omega | assumption | exact nb1 (by assumption)) | fail)) (by exact ⟨(by first | exact tk_eq (k := 4) (by first | (simp [fo, rg, ns, c6, hn9, ofS, o1, c6, c20, c34]; done) | (first | rfl | (simp [fo, rg, ns, nB, ps, gst, ofS, offB, c6, c20, c34]; done) | (simp [fo, rg, ns, nB, ps, gst, ofS, offB, c6, c20, c34]; omega))) ht4000_σ_1 | exact tk_eq (k := 4) (by first | (simp [fo, rg, ns, c6, hn9, ofS, o1, c6, c20, c34]; done) | (first | rfl | (simp [fo, rg, ns, nB, ps, gst, ofS, offB, c6, c20, c34]; done) | (simp [fo, rg, ns, nB, ps, gst, ofS, offB, c6, c20, c34]; omega))) ht4000_σ_1 | fail), (by exact hcFR_σ_1)⟩)
      ·
        refine g_aload_n h dX12_wrong_37 0 rfl ?_
        refine g_aload_n h dX12_wrong_38 0 rfl ?_
        refine g_iload_n h dX12_wrong_39 1 rfl ?_
        refine g_iload_n h dX12_wrong_40 2 rfl ?_
        refine g_cvi (rest := [.ref (w.1 0)]) h (r_wrongOf hW (toN i) (toN wt) μ (by first | exact hv | assumption | fail) (by assumption) (by omega) (by omega)) lX12_wrongOf mX12_330 (Nat.lt_of_lt_of_le (by decide) (Nat.le_refl _)) (by decide) sc_0 rfl rfl rfl rfl dX12_wrong_41 (fun σ_2 eσ_2 => ?_)
        have eσ_2_a : ∀ a, (a < 5150 ∨ 5168 ≤ a) → σ_2 a = σ a := eσ_2
        have hcFR_σ_2 : ∀ a, ((a < 4900 ∨ 6000 ≤ a) ∧ a ≠ 4000) → σ_2 a = σ a := by intro a ha; exact Eq.trans (b := σ a) (eσ_2_a a (by first | omega | (simp only [vb] at *; omega))) (hcFR_σ a ha)
        have hvσ_2 : vw 0 σ_2 = μ := by rw [vw_fr (σ := σ) (fun j _ _ => eσ_2_a _ (by first | omega | (simp only [vb] at *; omega)))]; first | exact hv | assumption
        refine g_cvi (rest := []) h (r_gives hW (wrS μ (toN i) (toN wt)) ) lX12_gives mX12_281 (Nat.lt_of_lt_of_le (by decide) (Nat.le_refl _)) (by decide) sc_0 rfl rfl rfl rfl dX12_wrong_44 (fun σ_3 eσ_3 => ?_)
        have eσ_3_a : σ_3 = upd σ_2 4000 (nI 0) := eσ_3
        have ht4000_σ_3 : σ_3 4000 = (nI 0) := by rw [eσ_3_a]; exact upd_eq
        have hcFR_σ_3 : ∀ a, ((a < 4900 ∨ 6000 ≤ a) ∧ a ≠ 4000) → σ_3 a = σ a := by intro a ha; exact Eq.trans (b := σ_2 a) (by rw [eσ_3_a, upd_ne (by first | omega | (simp only [vb] at *; omega))]) (hcFR_σ_2 a ha)
        have hvσ_3 : vw 0 σ_3 = μ := by rw [eσ_3_a, vw_out (by omega)]; first | exact hvσ_2 | assumption
        refine g_goto h dX12_wrong_47 ?_
        exact g_iret h hQ dX12_wrong_55 (congrArg (fun z => some (Value.int z)) (show (an (fo (fo (rg wt (nI 0) (nI 2)) (ns μ i)) (ofS μ i)) (wrS μ (toN i) (toN wt))) = (wrS μ (toN i) (toN wt)) by first | exact an_yes (by first | (simp [fo, rg, ns, c6, hn9, ofS, o1, c6, c20, c34]; done) | (first | rfl | (simp [fo, rg, ns, nB, ps, gst, ofS, offB, c6, c20, c34]; done) | (simp [fo, rg, ns, nB, ps, gst, ofS, offB, c6, c20, c34]; omega))) (by rfl) | exact an_no (k := 0) (by first | (simp [fo, rg, ns, c6, hn9, ofS, o1, c6, c20, c34]; done) | (first | rfl | (simp [fo, rg, ns, nB, ps, gst, ofS, offB, c6, c20, c34]; done) | (simp [fo, rg, ns, nB, ps, gst, ofS, offB, c6, c20, c34]; omega))) (by first | decide | omega | assumption | exact nb1 (by assumption)) | fail)) (by exact ⟨(by first | exact tk_eq (k := 0) (by first | (simp [fo, rg, ns, c6, hn9, ofS, o1, c6, c20, c34]; done) | (first | rfl | (simp [fo, rg, ns, nB, ps, gst, ofS, offB, c6, c20, c34]; done) | (simp [fo, rg, ns, nB, ps, gst, ofS, offB, c6, c20, c34]; omega))) ht4000_σ_3 | exact tk_eq (k := 0) (by first | (simp [fo, rg, ns, c6, hn9, ofS, o1, c6, c20, c34]; done) | (first | rfl | (simp [fo, rg, ns, nB, ps, gst, ofS, offB, c6, c20, c34]; done) | (simp [fo, rg, ns, nB, ps, gst, ofS, offB, c6, c20, c34]; omega))) ht4000_σ_3 | fail), (by exact hcFR_σ_3)⟩)
    ·
      refine g_aload_n h dX12_wrong_23 0 rfl ?_
      refine g_iconst h dX12_wrong_24 (by decide) ?_
      refine g_cvi (rest := []) h (r_refuse hW (nI 2) ) lX12_refuse mX12_272 (Nat.lt_of_lt_of_le (by decide) (Nat.le_refl _)) (by decide) sc_0 rfl rfl rfl rfl dX12_wrong_25 (fun σ_4 eσ_4 => ?_)
      have eσ_4_a : σ_4 = upd σ 4000 (nI 2) := eσ_4
      have ht4000_σ_4 : σ_4 4000 = (nI 2) := by rw [eσ_4_a]; exact upd_eq
      have hcFR_σ_4 : ∀ a, ((a < 4900 ∨ 6000 ≤ a) ∧ a ≠ 4000) → σ_4 a = σ a := by intro a ha; exact Eq.trans (b := σ a) (by rw [eσ_4_a, upd_ne (by first | omega | (simp only [vb] at *; omega))]) (hcFR_σ a ha)
      have hvσ_4 : vw 0 σ_4 = μ := by rw [eσ_4_a, vw_out (by omega)]; first | exact hv | assumption
      exact g_iret h hQ dX12_wrong_28 (congrArg (fun z => some (Value.int z)) (show (an (fo (fo (rg wt (nI 0) (nI 2)) (ns μ i)) (ofS μ i)) (wrS μ (toN i) (toN wt))) = (-1) by first | exact an_yes (by first | (simp [fo, rg, ns, c6, hn9, ofS, o1, c6, c20]; done) | (first | rfl | (simp [fo, rg, ns, nB, ps, gst, ofS, offB, c6, c20]; done) | (simp [fo, rg, ns, nB, ps, gst, ofS, offB, c6, c20]; omega))) (by rfl) | exact an_no (k := 2) (by first | (simp [fo, rg, ns, c6, hn9, ofS, o1, c6, c20]; done) | (first | rfl | (simp [fo, rg, ns, nB, ps, gst, ofS, offB, c6, c20]; done) | (simp [fo, rg, ns, nB, ps, gst, ofS, offB, c6, c20]; omega))) (by first | decide | omega | assumption | exact nb1 (by assumption)) | fail)) (by exact ⟨(by first | exact tk_eq (k := 2) (by first | (simp [fo, rg, ns, c6, hn9, ofS, o1, c6, c20]; done) | (first | rfl | (simp [fo, rg, ns, nB, ps, gst, ofS, offB, c6, c20]; done) | (simp [fo, rg, ns, nB, ps, gst, ofS, offB, c6, c20]; omega))) ht4000_σ_4 | exact tk_eq (k := 2) (by first | (simp [fo, rg, ns, c6, hn9, ofS, o1, c6, c20]; done) | (first | rfl | (simp [fo, rg, ns, nB, ps, gst, ofS, offB, c6, c20]; done) | (simp [fo, rg, ns, nB, ps, gst, ofS, offB, c6, c20]; omega))) ht4000_σ_4 | fail), (by exact hcFR_σ_4)⟩)
  ·
    refine g_aload_n h dX12_wrong_9 0 rfl ?_
    refine g_iconst h dX12_wrong_10 (by decide) ?_
    refine g_cvi (rest := []) h (r_refuse hW (nI 1) ) lX12_refuse mX12_272 (Nat.lt_of_lt_of_le (by decide) (Nat.le_refl _)) (by decide) sc_0 rfl rfl rfl rfl dX12_wrong_11 (fun σ_5 eσ_5 => ?_)
    have eσ_5_a : σ_5 = upd σ 4000 (nI 1) := eσ_5
    have ht4000_σ_5 : σ_5 4000 = (nI 1) := by rw [eσ_5_a]; exact upd_eq
    have hcFR_σ_5 : ∀ a, ((a < 4900 ∨ 6000 ≤ a) ∧ a ≠ 4000) → σ_5 a = σ a := by intro a ha; exact Eq.trans (b := σ a) (by rw [eσ_5_a, upd_ne (by first | omega | (simp only [vb] at *; omega))]) (hcFR_σ a ha)
    have hvσ_5 : vw 0 σ_5 = μ := by rw [eσ_5_a, vw_out (by omega)]; first | exact hv | assumption
    exact g_iret h hQ dX12_wrong_14 (congrArg (fun z => some (Value.int z)) (show (an (fo (fo (rg wt (nI 0) (nI 2)) (ns μ i)) (ofS μ i)) (wrS μ (toN i) (toN wt))) = (-1) by first | exact an_yes (by first | (simp [fo, rg, ns, c6, hn9, ofS, o1, c6]; done) | (first | rfl | (simp [fo, rg, ns, nB, ps, gst, ofS, offB, c6]; done) | (simp [fo, rg, ns, nB, ps, gst, ofS, offB, c6]; omega))) (by rfl) | exact an_no (k := 1) (by first | (simp [fo, rg, ns, c6, hn9, ofS, o1, c6]; done) | (first | rfl | (simp [fo, rg, ns, nB, ps, gst, ofS, offB, c6]; done) | (simp [fo, rg, ns, nB, ps, gst, ofS, offB, c6]; omega))) (by first | decide | omega | assumption | exact nb1 (by assumption)) | fail)) (by exact ⟨(by first | exact tk_eq (k := 1) (by first | (simp [fo, rg, ns, c6, hn9, ofS, o1, c6]; done) | (first | rfl | (simp [fo, rg, ns, nB, ps, gst, ofS, offB, c6]; done) | (simp [fo, rg, ns, nB, ps, gst, ofS, offB, c6]; omega))) ht4000_σ_5 | exact tk_eq (k := 1) (by first | (simp [fo, rg, ns, c6, hn9, ofS, o1, c6]; done) | (first | rfl | (simp [fo, rg, ns, nB, ps, gst, ofS, offB, c6]; done) | (simp [fo, rg, ns, nB, ps, gst, ofS, offB, c6]; omega))) ht4000_σ_5 | fail), (by exact hcFR_σ_5)⟩)

set_option maxRecDepth 100000 in
set_option maxHeartbeats 4000000 in
theorem c_isWrong {l : Launch} {w : Wd} (hW : Wi w) {σ : Mem} (i j wt : Nat) (μ : Nat → Int32) (hi : i < 8) (hj : j < nN μ) (hN : nN μ ≤ 8) (hwt : wt ≤ 2) (hI : MI μ) (hcCR_σ : CR σ i (rts μ i 6) (nN μ)) (hcTR_σ : TR σ μ) : MC l w qX11_isWrong 0 [.ref (w.1 12), .int (nI (8 * i + j)), .int (nI wt)] σ (some (.int (b2i (wrB μ i wt j)))) (fun σ' => σ' = σ) := by
  refine MC.of hW (by decide +kernel) (Nat.le_of_ble_eq_true rfl) (fun X h hQ hnm => ?_)
  have h : Fx X w cX11_isWrong 5 RX11 0 := h
  have hQ : Qx X w (some .boolean) (some (.int (b2i (wrB μ i wt j)))) (fun σ' => σ' = σ) := hQ
  have hb9 := rts_rb hI hi 6 (by omega) j
  have hf9 := far_lt (μ := μ) (f := i) (t := j)
  show G X w 5 0 [(0, .ref (w.1 12)), (1, .int (nI (8 * i + j))), (2, .int (nI wt))] [] σ
  refine g_aload_n h dX11_isWrong_0 0 rfl ?_
  refine g_getr h dX11_isWrong_1 gX11_51 sc_12 rfl ?_
  refine g_getr h dX11_isWrong_4 gX11_273 sc_20 rfl ?_
  refine g_iload_n h dX11_isWrong_7 1 rfl ?_
  refine g_iald h dX11_isWrong_8 sc_21 (by omega) ?_
  refine g_top (y := (nI (rs (rts μ i 6) j))) ((hcCR_σ j hj).1) ?_
  refine g_istore_n (L' := [(0, .ref (w.1 12)), (1, .int (nI (8 * i + j))), (2, .int (nI wt)), (3, .int (nI (rs (rts μ i 6) j)))]) h dX11_isWrong_9 rfl (by decide) rfl ?_
  refine g_aload_n h dX11_isWrong_10 0 rfl ?_
  refine g_getr h dX11_isWrong_11 gX11_65 sc_12 rfl ?_
  refine g_getr h dX11_isWrong_14 gX11_308 sc_25 rfl ?_
  refine g_iload_n h dX11_isWrong_17 1 rfl ?_
  refine g_iald h dX11_isWrong_18 sc_27 (by omega) ?_
  refine g_top (y := (nI (far μ i j))) (hcTR_σ.2.2 i hi j (by omega)) ?_
  refine g_istore (L' := [(0, .ref (w.1 12)), (1, .int (nI (8 * i + j))), (2, .int (nI wt)), (3, .int (nI (rs (rts μ i 6) j))), (4, .int (nI (far μ i j)))]) h dX11_isWrong_19 rfl (by decide) rfl ?_
  refine g_iload_n h dX11_isWrong_21 2 rfl ?_
  rcases (show wt = 0 ∨ wt = 1 ∨ wt = 2 by omega) with hc22 | hc22 | hc22
  ·
    refine g_lsw (off := 26) (tgt := 48) h dX11_isWrong_22 (by decide) (by rw [hc22]; decide) (by decide) ?_
    refine g_iload_n h dX11_isWrong_48 3 rfl ?_
    refine g_ifN_ne h dX11_isWrong_49 (by omega) (fun c49 => ?_) (fun c49 => ?_)
    ·
      refine g_iconst h dX11_isWrong_61 (by decide) ?_
      exact g_zret h hQ dX11_isWrong_62 (show narrow .boolean (.int (b2i false)) = .int (b2i false) from narrow_b2i _) (congrArg (fun z => some (Value.int (b2i z))) (show (wrB μ i wt j) = false by first | (simp [wrB, hc22, c49]; done) | (simp [wrB, hc22, c49]; omega) | fail)) rfl
    ·
      refine g_iload h dX11_isWrong_52 4 rfl ?_
      refine g_ifN_le h dX11_isWrong_54 (by omega) (fun c54 => ?_) (fun c54 => ?_)
      ·
        refine g_iconst h dX11_isWrong_61 (by decide) ?_
        exact g_zret h hQ dX11_isWrong_62 (show narrow .boolean (.int (b2i false)) = .int (b2i false) from narrow_b2i _) (congrArg (fun z => some (Value.int (b2i z))) (show (wrB μ i wt j) = false by first | (simp [wrB, hc22, c49, c54]; done) | (simp [wrB, hc22, c49, c54]; omega) | fail)) rfl
      ·
        refine g_iconst h dX11_isWrong_57 (by decide) ?_
        refine g_goto h dX11_isWrong_58 ?_
        exact g_zret h hQ dX11_isWrong_62 (show narrow .boolean (.int (b2i true)) = .int (b2i true) from narrow_b2i _) (congrArg (fun z => some (Value.int (b2i z))) (show (wrB μ i wt j) = true by first | (simp [wrB, hc22, c49, c54]; done) | (simp [wrB, hc22, c49, c54]; omega) | fail)) rfl
  ·
    refine g_lsw (off := 41) (tgt := 63) h dX11_isWrong_22 (by decide) (by rw [hc22]; decide) (by decide) ?_
    refine g_iload h dX11_isWrong_63 4 rfl ?_
    refine g_ifN_le h dX11_isWrong_65 (by omega) (fun c65 => ?_) (fun c65 => ?_)
    ·
      refine g_iconst h dX11_isWrong_78 (by decide) ?_
      exact g_zret h hQ dX11_isWrong_79 (show narrow .boolean (.int (b2i false)) = .int (b2i false) from narrow_b2i _) (congrArg (fun z => some (Value.int (b2i z))) (show (wrB μ i wt j) = false by first | (simp [wrB, hc22, c65]; done) | (simp [wrB, hc22, c65]; omega) | fail)) rfl
    ·
      refine g_iload_n h dX11_isWrong_68 3 rfl ?_
      refine g_iload h dX11_isWrong_69 4 rfl ?_
      refine g_icmpN_le h dX11_isWrong_71 (by omega) (by omega) (fun c71 => ?_) (fun c71 => ?_)
      ·
        refine g_iconst h dX11_isWrong_78 (by decide) ?_
        exact g_zret h hQ dX11_isWrong_79 (show narrow .boolean (.int (b2i false)) = .int (b2i false) from narrow_b2i _) (congrArg (fun z => some (Value.int (b2i z))) (show (wrB μ i wt j) = false by first | (simp [wrB, hc22, c65, c71]; done) | (simp [wrB, hc22, c65, c71]; omega) | fail)) rfl
      ·
        refine g_iconst h dX11_isWrong_74 (by decide) ?_
        refine g_goto h dX11_isWrong_75 ?_
        exact g_zret h hQ dX11_isWrong_79 (show narrow .boolean (.int (b2i true)) = .int (b2i true) from narrow_b2i _) (congrArg (fun z => some (Value.int (b2i z))) (show (wrB μ i wt j) = true by first | (simp [wrB, hc22, c65, c71]; done) | (simp [wrB, hc22, c65, c71]; omega) | fail)) rfl
  ·
    refine g_lsw (off := 58) (tgt := 80) h dX11_isWrong_22 (by decide) (by rw [hc22]; decide) (by decide) ?_
    refine g_iload_n h dX11_isWrong_80 3 rfl ?_
    refine g_ifN_le h dX11_isWrong_81 (by omega) (fun c81 => ?_) (fun c81 => ?_)
    ·
      refine g_iconst h dX11_isWrong_99 (by decide) ?_
      exact g_zret h hQ dX11_isWrong_100 (show narrow .boolean (.int (b2i false)) = .int (b2i false) from narrow_b2i _) (congrArg (fun z => some (Value.int (b2i z))) (show (wrB μ i wt j) = false by first | (simp [wrB, hc22, c81]; done) | (simp [wrB, hc22, c81]; omega) | fail)) rfl
    ·
      refine g_iload h dX11_isWrong_84 4 rfl ?_
      refine g_ifN_eq h dX11_isWrong_86 (by omega) (fun c86 => ?_) (fun c86 => ?_)
      ·
        refine g_iconst h dX11_isWrong_95 (by decide) ?_
        refine g_goto h dX11_isWrong_96 ?_
        exact g_zret h hQ dX11_isWrong_100 (show narrow .boolean (.int (b2i true)) = .int (b2i true) from narrow_b2i _) (congrArg (fun z => some (Value.int (b2i z))) (show (wrB μ i wt j) = true by first | (simp [wrB, hc22, c81, c86]; done) | (simp [wrB, hc22, c81, c86]; omega) | fail)) rfl
      ·
        refine g_iload_n h dX11_isWrong_89 3 rfl ?_
        refine g_iload h dX11_isWrong_90 4 rfl ?_
        refine g_icmpN_ge h dX11_isWrong_92 (by omega) (by omega) (fun c92 => ?_) (fun c92 => ?_)
        ·
          refine g_iconst h dX11_isWrong_99 (by decide) ?_
          exact g_zret h hQ dX11_isWrong_100 (show narrow .boolean (.int (b2i false)) = .int (b2i false) from narrow_b2i _) (congrArg (fun z => some (Value.int (b2i z))) (show (wrB μ i wt j) = false by first | (simp [wrB, hc22, c81, c86, c92]; done) | (simp [wrB, hc22, c81, c86, c92]; omega) | fail)) rfl
        ·
          refine g_iconst h dX11_isWrong_95 (by decide) ?_
          refine g_goto h dX11_isWrong_96 ?_
          exact g_zret h hQ dX11_isWrong_100 (show narrow .boolean (.int (b2i true)) = .int (b2i true) from narrow_b2i _) (congrArg (fun z => some (Value.int (b2i z))) (show (wrB μ i wt j) = true by first | (simp [wrB, hc22, c81, c86, c92]; done) | (simp [wrB, hc22, c81, c86, c92]; omega) | fail)) rfl

set_option maxRecDepth 100000 in
set_option maxHeartbeats 4000000 in
theorem p_wrong {l : Launch} {w : Wd} (hW : Wi w) {σ : Mem} (i : Int32) (wt : Int32)  (μ : Nat → Int32) (hv : vw (vb 0) σ = μ) (hI : MI μ) : MC l w qX11_wrong 4 [.ref (w.1 12), .int i, .int wt] σ (some (.int (an (fo (fo (rg wt (nI 0) (nI 2)) (ns μ i)) (ofS μ i)) (wrS μ (toN i) (toN wt))))) (fun σ' => (σ' 14000 = (nI (fo (fo (rg wt (nI 0) (nI 2)) (ns μ i)) (ofS μ i)))) ∧ (∀ a, (a < 14900 ∧ a ≠ 14000) → σ' a = σ a)) := by
  refine MC.of hW (by decide +kernel) (Nat.le_of_ble_eq_true rfl) (fun X h hQ hnm => ?_)
  have h : Fx X w cX11_wrong 6 RX11 4 := h
  have hQ : Qx X w (some .int) (some (.int (an (fo (fo (rg wt (nI 0) (nI 2)) (ns μ i)) (ofS μ i)) (wrS μ (toN i) (toN wt))))) (fun σ' => (σ' 14000 = (nI (fo (fo (rg wt (nI 0) (nI 2)) (ns μ i)) (ofS μ i)))) ∧ (∀ a, (a < 14900 ∧ a ≠ 14000) → σ' a = σ a)) := hQ
  have hN8 := mi_8 hI
  have hcFR_σ : ∀ a, (a < 14900 ∧ a ≠ 14000) → σ a = σ a := fun _ _ => rfl
  show G X w 6 0 [(0, .ref (w.1 12)), (1, .int i), (2, .int wt)] [] σ
  refine g_aload_n h dX11_wrong_0 0 rfl ?_
  refine g_iload_n h dX11_wrong_1 1 rfl ?_
  refine g_cvpi (rest := []) h (c_isOff hW i μ (by first | exact hv | assumption | fail) (by assumption)) lX11_isOff mX11_302 (Nat.lt_of_lt_of_le (by decide) (Nat.le_refl _)) (by decide) sc_12 rfl rfl rfl rfl dX11_wrong_2 ?_
  refine g_ifB_eq h dX11_wrong_5 (fun c5 => ?_) (fun c5 => ?_)
  ·
    refine g_iconst h dX11_wrong_12 (by decide) ?_
    refine g_istore_n (L' := [(0, .ref (w.1 12)), (1, .int i), (2, .int wt), (3, .int (nI 0))]) h dX11_wrong_13 rfl (by decide) rfl ?_
    refine g_aload_n h dX11_wrong_14 0 rfl ?_
    refine g_iload_n h dX11_wrong_15 2 rfl ?_
    refine g_iconst h dX11_wrong_16 (by decide) ?_
    refine g_iconst h dX11_wrong_17 (by decide) ?_
    refine g_cspi (rest := [.ref (w.1 12)]) h (c_rg hW wt (nI 0) (nI 2) ) lX11_rangeStatus mX11_102 (Nat.lt_of_lt_of_le (by decide) (Nat.le_refl _)) (by decide) rfl rfl rfl dX11_wrong_18 ?_
    refine g_aload_n h dX11_wrong_21 0 rfl ?_
    refine g_iload_n h dX11_wrong_22 1 rfl ?_
    refine g_cvpi (rest := [.int (nI (rg wt (nI 0) (nI 2))), .ref (w.1 12)]) h (c_ns hW i μ (by first | exact hv | assumption | fail)) lX11_nodeStatus mX11_159 (Nat.lt_of_lt_of_le (by decide) (Nat.le_refl _)) (by decide) sc_12 rfl rfl rfl rfl dX11_wrong_23 ?_
    refine g_cspi (rest := [.ref (w.1 12)]) h (c_fo hW (rg wt (nI 0) (nI 2)) (ns μ i) (by repeat (first | omega | exact rg_lt | exact ns_lt | exact ps_lt | exact gst_lt | exact ofS_lt | exact if_lt (by decide) (by decide) | apply fo_lt)) (by repeat (first | omega | exact rg_lt | exact ns_lt | exact ps_lt | exact gst_lt | exact ofS_lt | exact if_lt (by decide) (by decide) | apply fo_lt))) lX11_firstOf mX11_163 (Nat.lt_of_lt_of_le (by decide) (Nat.le_refl _)) (by decide) rfl rfl rfl dX11_wrong_26 ?_
    refine g_iload_n h dX11_wrong_29 3 rfl ?_
    refine g_cspi (rest := [.ref (w.1 12)]) h (c_fo hW (fo (rg wt (nI 0) (nI 2)) (ns μ i)) 0 (by repeat (first | omega | exact rg_lt | exact ns_lt | exact ps_lt | exact gst_lt | exact ofS_lt | exact if_lt (by decide) (by decide) | apply fo_lt)) (by repeat (first | omega | exact rg_lt | exact ns_lt | exact ps_lt | exact gst_lt | exact ofS_lt | exact if_lt (by decide) (by decide) | apply fo_lt))) lX11_firstOf mX11_163 (Nat.lt_of_lt_of_le (by decide) (Nat.le_refl _)) (by decide) rfl rfl rfl dX11_wrong_30 ?_
    refine g_cvi (rest := []) h (c_fails hW (fo (fo (rg wt (nI 0) (nI 2)) (ns μ i)) 0) (by repeat (first | omega | exact rg_lt | exact ns_lt | exact ps_lt | exact gst_lt | exact ofS_lt | exact if_lt (by decide) (by decide) | apply fo_lt))) lX11_fails mX11_106 (Nat.lt_of_lt_of_le (by decide) (Nat.le_refl _)) (by decide) sc_12 rfl rfl rfl rfl dX11_wrong_33 (fun σ_1 eσ_1 => ?_)
    obtain ⟨eσ_1_a, eσ_1_b⟩ := eσ_1
    have eσ_1_a : σ_1 14000 = (nI (fo (fo (rg wt (nI 0) (nI 2)) (ns μ i)) 0)) := eσ_1_a
    have eσ_1_b : ∀ a, (a ≠ 14000) → σ_1 a = σ a := eσ_1_b
    have ht14000_σ_1 : σ_1 14000 = (nI (fo (fo (rg wt (nI 0) (nI 2)) (ns μ i)) 0)) := eσ_1_a
    have hcFR_σ_1 : ∀ a, (a < 14900 ∧ a ≠ 14000) → σ_1 a = σ a := by intro a ha; exact Eq.trans (b := σ a) (eσ_1_b a (by first | omega | (simp only [vb] at *; omega))) (hcFR_σ a ha)
    have hvσ_1 : vw (vb 0) σ_1 = μ := by rw [vw_fr (σ := σ) (fun j _ _ => eσ_1_b _ (by first | omega | (simp only [vb] at *; omega)))]; first | exact hv | assumption
    refine g_ifB_eq h dX11_wrong_36 (fun c36 => ?_) (fun c36 => ?_)
    ·
      have hS0 : fo (fo (rg wt (nI 0) (nI 2)) (ns μ i)) (ofS μ i) = 0 := by first | (have q := nb0 c36; unfold ofS; simpa [c5, c36] using q) | exact nb0 c36
      obtain ⟨hs3, hs4⟩ := fo_0 hS0
      obtain ⟨hs1, hs2⟩ := fo_0 hs3
      obtain ⟨ew, hw9⟩ := rg_N (by decide) hs1
      obtain ⟨ei, hi9⟩ := nB_N hI (ns_0 hs2)
      rw [ei, ew]
      show G X w 6 41 [(0, .ref (w.1 12)), (1, .int (nI (toN i))), (2, .int (nI (toN wt))), (3, .int (nI 0))] [] σ_1
      refine g_aload_n h dX11_wrong_41 0 rfl ?_
      refine g_getr h dX11_wrong_42 gX11_65 sc_12 rfl ?_
      refine g_aload_n h dX11_wrong_45 0 rfl ?_
      refine g_getr h dX11_wrong_46 gX11_23 sc_12 rfl ?_
      refine g_cvv (rest := []) h (c_see hW 0 μ (by first | omega | decide | fail) (by first | exact hvσ_1 | assumption | fail) (by assumption)) lX10_see mX11_305 (Nat.lt_of_lt_of_le (by decide) (Nat.le_refl _)) (by decide) sc_25 rfl rfl rfl rfl dX11_wrong_49 (fun σ_2 eσ_2 => ?_)
      obtain ⟨eσ_2_a, eσ_2_b⟩ := eσ_2
      have eσ_2_a : TR σ_2 μ := eσ_2_a
      have eσ_2_b : ∀ a, (a ≠ 15030 ∧ (a < 15180 ∨ 15188 ≤ a) ∧ (a < 15330 ∨ 15394 ≤ a)) → σ_2 a = σ_1 a := eσ_2_b
      have ht14000_σ_2 : σ_2 14000 = (nI (fo (fo (rg wt (nI 0) (nI 2)) (ns μ i)) 0)) := by rw [eσ_2_b _ (by first | omega | (simp only [vb] at *; omega))]; first | exact ht14000_σ_1 | assumption
      have hcFR_σ_2 : ∀ a, (a < 14900 ∧ a ≠ 14000) → σ_2 a = σ a := by intro a ha; exact Eq.trans (b := σ_1 a) (eσ_2_b a (by first | omega | (simp only [vb] at *; omega))) (hcFR_σ_1 a ha)
      have hcTR_σ_2 : TR σ_2 μ := eσ_2_a
      have hvσ_2 : vw (vb 0) σ_2 = μ := by rw [vw_fr (σ := σ_1) (fun j _ _ => eσ_2_b _ (by first | omega | (simp only [vb] at *; omega)))]; first | exact hvσ_1 | assumption
      refine g_aload_n h dX11_wrong_52 0 rfl ?_
      refine g_getr h dX11_wrong_53 gX11_51 sc_12 rfl ?_
      refine g_aload_n h dX11_wrong_56 0 rfl ?_
      refine g_getr h dX11_wrong_57 gX11_23 sc_12 rfl ?_
      refine g_iload_n h dX11_wrong_60 1 rfl ?_
      refine g_cvv (rest := []) h (c_find hW (toN i) 0 μ (by first | omega | decide | fail) (by first | exact hvσ_2 | assumption | fail) (by assumption) (by omega)) lX8_find mX11_269 (Nat.lt_of_lt_of_le (by decide) (Nat.le_refl _)) (by decide) sc_20 rfl rfl rfl rfl dX11_wrong_61 (fun σ_3 eσ_3 => ?_)
      obtain ⟨eσ_3_a, eσ_3_b⟩ := eσ_3
      have eσ_3_a : CR σ_3 (toN i) (rts μ (toN i) 6) (nN μ) := eσ_3_a
      have eσ_3_b : ∀ a, ((a < 15200 + 8 * (toN i) ∨ 15208 + 8 * (toN i) ≤ a) ∧ (a < 15264 + 8 * (toN i) ∨ 15272 + 8 * (toN i) ≤ a)) → σ_3 a = σ_2 a := eσ_3_b
      have ht14000_σ_3 : σ_3 14000 = (nI (fo (fo (rg wt (nI 0) (nI 2)) (ns μ i)) 0)) := by rw [eσ_3_b _ (by first | omega | (simp only [vb] at *; omega))]; first | exact ht14000_σ_2 | assumption
      have hcFR_σ_3 : ∀ a, (a < 14900 ∧ a ≠ 14000) → σ_3 a = σ a := by intro a ha; exact Eq.trans (b := σ_2 a) (eσ_3_b a (by first | omega | (simp only [vb] at *; omega))) (hcFR_σ_2 a ha)
      have hcTR_σ_3 : TR σ_3 μ := by exact TR.fr hcTR_σ_2 (fun a ha hb => eσ_3_b a (by first | omega | (simp only [vb] at *; omega)))
      have hcCR_σ_3 : CR σ_3 (toN i) (rts μ (toN i) 6) (nN μ) := eσ_3_a
      have hvσ_3 : vw (vb 0) σ_3 = μ := by rw [vw_fr (σ := σ_2) (fun j _ _ => eσ_3_b _ (by first | omega | (simp only [vb] at *; omega)))]; first | exact hvσ_2 | assumption
      refine g_iconst h dX11_wrong_64 (by decide) ?_
      refine g_istore (L' := [(0, .ref (w.1 12)), (1, .int (nI (toN i))), (2, .int (nI (toN wt))), (3, .int (nI 0)), (4, .int (nI 0))]) h dX11_wrong_65 rfl (by decide) rfl ?_
      refine g_iconst h dX11_wrong_67 (by decide) ?_
      refine g_istore (L' := [(0, .ref (w.1 12)), (1, .int (nI (toN i))), (2, .int (nI (toN wt))), (3, .int (nI 0)), (4, .int (nI 0)), (5, .int (nI 0))]) h dX11_wrong_68 rfl (by decide) rfl ?_
      have lp70 : ∀ (k9 : Nat) (s : Int32) (k : Nat), (s = mkS (wrB μ (toN i) (toN wt)) k) → (k ≤ nN μ) → nN μ - k < k9 → G X w 6 70 [(0, .ref (w.1 12)), (1, .int (nI (toN i))), (2, .int (nI (toN wt))), (3, .int (nI 0)), (4, .int s), (5, .int (nI k))] [] σ_3 := by
        intro k9
        induction k9 with
        | zero => intro s k hs hk hm9; exact absurd hm9 (Nat.not_lt_zero _)
        | succ k9 ih70 =>
          intro s k hs hk hm70
          refine g_iload h dX11_wrong_70 5 rfl ?_
          refine g_aload_n h dX11_wrong_72 0 rfl ?_
          refine g_getr h dX11_wrong_73 gX11_23 sc_12 rfl ?_
          refine g_geti h dX11_wrong_76 gX11_120 (sM_0 (m := 0) (by decide)) rfl ?_
          refine g_top (y := μ 0) (vw_pic (b := (vb 0)) (k := 0) (by first | exact hvσ_3 | assumption) (by omega)) ?_
          refine g_top (y := nI (nN μ)) (mi_0 (by assumption)) ?_
          refine g_icmpN_ge h dX11_wrong_79 (by omega) (by omega) (fun c79 => ?_) (fun c79 => ?_)
          ·
            refine g_iload h dX11_wrong_108 4 rfl ?_
            exact g_iret h hQ dX11_wrong_110 (congrArg (fun z => some (Value.int z)) (show (an (fo (fo (rg wt (nI 0) (nI 2)) (ns μ i)) (ofS μ i)) (wrS μ (toN i) (toN wt))) = s by first | exact an_yes (by first | exact hS0 | (simp [ofS, c5, c36, c79]; done) | (unfold ofS; rw [if_pos (by assumption)]; done) | (unfold ofS; rw [if_neg (by rw [‹offB μ i = false›]; decide)]; done)) (by unfold wrS; rw [hs, show k = nN μ from by omega]) | exact an_no (k := (fo (fo (rg wt (nI 0) (nI 2)) (ns μ i)) 0)) (by first | exact hS0 | (simp [ofS, c5, c36, c79]; done) | (unfold ofS; rw [if_pos (by assumption)]; done) | (unfold ofS; rw [if_neg (by rw [‹offB μ i = false›]; decide)]; done)) (by first | decide | omega | assumption | exact nb1 (by assumption)) | fail)) (by exact ⟨(by first | exact tk_eq (k := (fo (fo (rg wt (nI 0) (nI 2)) (ns μ i)) 0)) (by first | exact hS0 | (simp [ofS, c5, c36, c79]; done) | (unfold ofS; rw [if_pos (by assumption)]; done) | (unfold ofS; rw [if_neg (by rw [‹offB μ i = false›]; decide)]; done)) ht14000_σ_3 | exact tk_eq (k := (fo (fo (rg wt (nI 0) (nI 2)) (ns μ i)) 0)) (by first | exact hS0 | (simp [ofS, c5, c36, c79]; done) | (unfold ofS; rw [if_pos (by assumption)]; done) | (unfold ofS; rw [if_neg (by rw [‹offB μ i = false›]; decide)]; done)) ht14000_σ_3 | fail), (by exact hcFR_σ_3)⟩)
          ·
            refine g_iload h dX11_wrong_82 4 rfl ?_
            refine g_iload h dX11_wrong_84 5 rfl ?_
            refine g_aload_n h dX11_wrong_86 0 rfl ?_
            refine g_iload_n h dX11_wrong_87 1 rfl ?_
            refine g_iload h dX11_wrong_88 5 rfl ?_
            refine g_cspi (rest := [.ref (w.1 12), .int (nI k), .int s]) h (c_at hW (toN i) k ) lX5_at mX11_215 (Nat.lt_of_lt_of_le (by decide) (Nat.le_refl _)) (by decide) rfl rfl rfl dX11_wrong_90 ?_
            refine g_iload_n h dX11_wrong_93 2 rfl ?_
            refine g_cvpi (rest := [.int (nI k), .int s]) h (c_isWrong hW (toN i) k (toN wt) μ (by omega) (by omega) (by first | exact hN8 | omega | fail) (by omega) (by assumption) (by first | exact hcCR_σ_3 | assumption | fail) (by first | exact hcTR_σ_3 | assumption | fail)) lX11_isWrong mX11_309 (Nat.lt_of_lt_of_le (by decide) (Nat.le_refl _)) (by decide) sc_12 rfl rfl rfl rfl dX11_wrong_94 ?_
            refine g_cspi (rest := []) h (c_with hW s k (wrB μ (toN i) (toN wt) k) ) lX5_with mX11_279 (Nat.lt_of_lt_of_le (by decide) (Nat.le_refl _)) (by decide) rfl rfl rfl dX11_wrong_97 ?_
            refine g_istore (L' := [(0, .ref (w.1 12)), (1, .int (nI (toN i))), (2, .int (nI (toN wt))), (3, .int (nI 0)), (4, .int (wth s k (wrB μ (toN i) (toN wt) k))), (5, .int (nI k))]) h dX11_wrong_100 rfl (by decide) rfl ?_
            refine g_iincN (b := 1) (L' := [(0, .ref (w.1 12)), (1, .int (nI (toN i))), (2, .int (nI (toN wt))), (3, .int (nI 0)), (4, .int (wth s k (wrB μ (toN i) (toN wt) k))), (5, .int (nI (k + 1)))]) h dX11_wrong_102 5 rfl rfl (by decide) (by decide) rfl ?_
            refine g_goto h dX11_wrong_105 ?_
            exact ih70 (wth s k (wrB μ (toN i) (toN wt) k)) (k + 1) (by rw [hs]; exact mkS_w (by omega) rfl) (by omega) (by omega)
      exact lp70 (_) (nI 0) 0 (by rfl) (by omega) (Nat.lt_succ_self _)
    ·
      refine g_iconstv h dX11_wrong_39 (v := (-1)) (by decide) ?_
      exact g_iret h hQ dX11_wrong_40 (congrArg (fun z => some (Value.int z)) (show (an (fo (fo (rg wt (nI 0) (nI 2)) (ns μ i)) (ofS μ i)) (wrS μ (toN i) (toN wt))) = (-1) by first | exact an_yes (by first | exact hS0 | (simp [ofS, c5, c36]; done) | (unfold ofS; rw [if_pos (by assumption)]; done) | (unfold ofS; rw [if_neg (by rw [‹offB μ i = false›]; decide)]; done)) (by unfold wrS; rw [hs, show k = nN μ from by omega]) | exact an_no (k := (fo (fo (rg wt (nI 0) (nI 2)) (ns μ i)) 0)) (by first | exact hS0 | (simp [ofS, c5, c36]; done) | (unfold ofS; rw [if_pos (by assumption)]; done) | (unfold ofS; rw [if_neg (by rw [‹offB μ i = false›]; decide)]; done)) (by first | decide | omega | assumption | exact nb1 (by assumption)) | fail)) (by exact ⟨(by first | exact tk_eq (k := (fo (fo (rg wt (nI 0) (nI 2)) (ns μ i)) 0)) (by first | exact hS0 | (simp [ofS, c5, c36]; done) | (unfold ofS; rw [if_pos (by assumption)]; done) | (unfold ofS; rw [if_neg (by rw [‹offB μ i = false›]; decide)]; done)) ht14000_σ_1 | exact tk_eq (k := (fo (fo (rg wt (nI 0) (nI 2)) (ns μ i)) 0)) (by first | exact hS0 | (simp [ofS, c5, c36]; done) | (unfold ofS; rw [if_pos (by assumption)]; done) | (unfold ofS; rw [if_neg (by rw [‹offB μ i = false›]; decide)]; done)) ht14000_σ_1 | fail), (by exact hcFR_σ_1)⟩)
  ·
    refine g_iconst h dX11_wrong_8 (by decide) ?_
    refine g_goto h dX11_wrong_9 ?_
    refine g_istore_n (L' := [(0, .ref (w.1 12)), (1, .int i), (2, .int wt), (3, .int (nI 4))]) h dX11_wrong_13 rfl (by decide) rfl ?_
    refine g_aload_n h dX11_wrong_14 0 rfl ?_
    refine g_iload_n h dX11_wrong_15 2 rfl ?_
    refine g_iconst h dX11_wrong_16 (by decide) ?_
    refine g_iconst h dX11_wrong_17 (by decide) ?_
    refine g_cspi (rest := [.ref (w.1 12)]) h (c_rg hW wt (nI 0) (nI 2) ) lX11_rangeStatus mX11_102 (Nat.lt_of_lt_of_le (by decide) (Nat.le_refl _)) (by decide) rfl rfl rfl dX11_wrong_18 ?_
    refine g_aload_n h dX11_wrong_21 0 rfl ?_
    refine g_iload_n h dX11_wrong_22 1 rfl ?_
    refine g_cvpi (rest := [.int (nI (rg wt (nI 0) (nI 2))), .ref (w.1 12)]) h (c_ns hW i μ (by first | exact hv | assumption | fail)) lX11_nodeStatus mX11_159 (Nat.lt_of_lt_of_le (by decide) (Nat.le_refl _)) (by decide) sc_12 rfl rfl rfl rfl dX11_wrong_23 ?_
    refine g_cspi (rest := [.ref (w.1 12)]) h (c_fo hW (rg wt (nI 0) (nI 2)) (ns μ i) (by repeat (first | omega | exact rg_lt | exact ns_lt | exact ps_lt | exact gst_lt | exact ofS_lt | exact if_lt (by decide) (by decide) | apply fo_lt)) (by repeat (first | omega | exact rg_lt | exact ns_lt | exact ps_lt | exact gst_lt | exact ofS_lt | exact if_lt (by decide) (by decide) | apply fo_lt))) lX11_firstOf mX11_163 (Nat.lt_of_lt_of_le (by decide) (Nat.le_refl _)) (by decide) rfl rfl rfl dX11_wrong_26 ?_
    refine g_iload_n h dX11_wrong_29 3 rfl ?_
    refine g_cspi (rest := [.ref (w.1 12)]) h (c_fo hW (fo (rg wt (nI 0) (nI 2)) (ns μ i)) 4 (by repeat (first | omega | exact rg_lt | exact ns_lt | exact ps_lt | exact gst_lt | exact ofS_lt | exact if_lt (by decide) (by decide) | apply fo_lt)) (by repeat (first | omega | exact rg_lt | exact ns_lt | exact ps_lt | exact gst_lt | exact ofS_lt | exact if_lt (by decide) (by decide) | apply fo_lt))) lX11_firstOf mX11_163 (Nat.lt_of_lt_of_le (by decide) (Nat.le_refl _)) (by decide) rfl rfl rfl dX11_wrong_30 ?_
    refine g_cvi (rest := []) h (c_fails hW (fo (fo (rg wt (nI 0) (nI 2)) (ns μ i)) 4) (by repeat (first | omega | exact rg_lt | exact ns_lt | exact ps_lt | exact gst_lt | exact ofS_lt | exact if_lt (by decide) (by decide) | apply fo_lt))) lX11_fails mX11_106 (Nat.lt_of_lt_of_le (by decide) (Nat.le_refl _)) (by decide) sc_12 rfl rfl rfl rfl dX11_wrong_33 (fun σ_4 eσ_4 => ?_)
    obtain ⟨eσ_4_a, eσ_4_b⟩ := eσ_4
    have eσ_4_a : σ_4 14000 = (nI (fo (fo (rg wt (nI 0) (nI 2)) (ns μ i)) 4)) := eσ_4_a
    have eσ_4_b : ∀ a, (a ≠ 14000) → σ_4 a = σ a := eσ_4_b
    have ht14000_σ_4 : σ_4 14000 = (nI (fo (fo (rg wt (nI 0) (nI 2)) (ns μ i)) 4)) := eσ_4_a
    have hcFR_σ_4 : ∀ a, (a < 14900 ∧ a ≠ 14000) → σ_4 a = σ a := by intro a ha; exact Eq.trans (b := σ a) (eσ_4_b a (by first | omega | (simp only [vb] at *; omega))) (hcFR_σ a ha)
    have hvσ_4 : vw (vb 0) σ_4 = μ := by rw [vw_fr (σ := σ) (fun j _ _ => eσ_4_b _ (by first | omega | (simp only [vb] at *; omega)))]; first | exact hv | assumption
    refine g_ifB_eq h dX11_wrong_36 (fun c36 => ?_) (fun c36 => ?_)
    ·
      have hS0 : fo (fo (rg wt (nI 0) (nI 2)) (ns μ i)) (ofS μ i) = 0 := by first | (have q := nb0 c36; unfold ofS; simpa [c5, c36] using q) | exact nb0 c36
      obtain ⟨hs3, hs4⟩ := fo_0 hS0
      obtain ⟨hs1, hs2⟩ := fo_0 hs3
      obtain ⟨ew, hw9⟩ := rg_N (by decide) hs1
      obtain ⟨ei, hi9⟩ := nB_N hI (ns_0 hs2)
      rw [ei, ew]
      show G X w 6 41 [(0, .ref (w.1 12)), (1, .int (nI (toN i))), (2, .int (nI (toN wt))), (3, .int (nI 4))] [] σ_4
      refine g_aload_n h dX11_wrong_41 0 rfl ?_
      refine g_getr h dX11_wrong_42 gX11_65 sc_12 rfl ?_
      refine g_aload_n h dX11_wrong_45 0 rfl ?_
      refine g_getr h dX11_wrong_46 gX11_23 sc_12 rfl ?_
      refine g_cvv (rest := []) h (c_see hW 0 μ (by first | omega | decide | fail) (by first | exact hvσ_4 | assumption | fail) (by assumption)) lX10_see mX11_305 (Nat.lt_of_lt_of_le (by decide) (Nat.le_refl _)) (by decide) sc_25 rfl rfl rfl rfl dX11_wrong_49 (fun σ_5 eσ_5 => ?_)
      obtain ⟨eσ_5_a, eσ_5_b⟩ := eσ_5
      have eσ_5_a : TR σ_5 μ := eσ_5_a
      have eσ_5_b : ∀ a, (a ≠ 15030 ∧ (a < 15180 ∨ 15188 ≤ a) ∧ (a < 15330 ∨ 15394 ≤ a)) → σ_5 a = σ_4 a := eσ_5_b
      have ht14000_σ_5 : σ_5 14000 = (nI (fo (fo (rg wt (nI 0) (nI 2)) (ns μ i)) 4)) := by rw [eσ_5_b _ (by first | omega | (simp only [vb] at *; omega))]; first | exact ht14000_σ_4 | assumption
      have hcFR_σ_5 : ∀ a, (a < 14900 ∧ a ≠ 14000) → σ_5 a = σ a := by intro a ha; exact Eq.trans (b := σ_4 a) (eσ_5_b a (by first | omega | (simp only [vb] at *; omega))) (hcFR_σ_4 a ha)
      have hcTR_σ_5 : TR σ_5 μ := eσ_5_a
      have hvσ_5 : vw (vb 0) σ_5 = μ := by rw [vw_fr (σ := σ_4) (fun j _ _ => eσ_5_b _ (by first | omega | (simp only [vb] at *; omega)))]; first | exact hvσ_4 | assumption
      refine g_aload_n h dX11_wrong_52 0 rfl ?_
      refine g_getr h dX11_wrong_53 gX11_51 sc_12 rfl ?_
      refine g_aload_n h dX11_wrong_56 0 rfl ?_
      refine g_getr h dX11_wrong_57 gX11_23 sc_12 rfl ?_
      refine g_iload_n h dX11_wrong_60 1 rfl ?_
      refine g_cvv (rest := []) h (c_find hW (toN i) 0 μ (by first | omega | decide | fail) (by first | exact hvσ_5 | assumption | fail) (by assumption) (by omega)) lX8_find mX11_269 (Nat.lt_of_lt_of_le (by decide) (Nat.le_refl _)) (by decide) sc_20 rfl rfl rfl rfl dX11_wrong_61 (fun σ_6 eσ_6 => ?_)
      obtain ⟨eσ_6_a, eσ_6_b⟩ := eσ_6
      have eσ_6_a : CR σ_6 (toN i) (rts μ (toN i) 6) (nN μ) := eσ_6_a
      have eσ_6_b : ∀ a, ((a < 15200 + 8 * (toN i) ∨ 15208 + 8 * (toN i) ≤ a) ∧ (a < 15264 + 8 * (toN i) ∨ 15272 + 8 * (toN i) ≤ a)) → σ_6 a = σ_5 a := eσ_6_b
      have ht14000_σ_6 : σ_6 14000 = (nI (fo (fo (rg wt (nI 0) (nI 2)) (ns μ i)) 4)) := by rw [eσ_6_b _ (by first | omega | (simp only [vb] at *; omega))]; first | exact ht14000_σ_5 | assumption
      have hcFR_σ_6 : ∀ a, (a < 14900 ∧ a ≠ 14000) → σ_6 a = σ a := by intro a ha; exact Eq.trans (b := σ_5 a) (eσ_6_b a (by first | omega | (simp only [vb] at *; omega))) (hcFR_σ_5 a ha)
      have hcTR_σ_6 : TR σ_6 μ := by exact TR.fr hcTR_σ_5 (fun a ha hb => eσ_6_b a (by first | omega | (simp only [vb] at *; omega)))
      have hcCR_σ_6 : CR σ_6 (toN i) (rts μ (toN i) 6) (nN μ) := eσ_6_a
      have hvσ_6 : vw (vb 0) σ_6 = μ := by rw [vw_fr (σ := σ_5) (fun j _ _ => eσ_6_b _ (by first | omega | (simp only [vb] at *; omega)))]; first | exact hvσ_5 | assumption
      refine g_iconst h dX11_wrong_64 (by decide) ?_
      refine g_istore (L' := [(0, .ref (w.1 12)), (1, .int (nI (toN i))), (2, .int (nI (toN wt))), (3, .int (nI 4)), (4, .int (nI 0))]) h dX11_wrong_65 rfl (by decide) rfl ?_
      refine g_iconst h dX11_wrong_67 (by decide) ?_
      refine g_istore (L' := [(0, .ref (w.1 12)), (1, .int (nI (toN i))), (2, .int (nI (toN wt))), (3, .int (nI 4)), (4, .int (nI 0)), (5, .int (nI 0))]) h dX11_wrong_68 rfl (by decide) rfl ?_
      have lp70 : ∀ (k9 : Nat) (s : Int32) (k : Nat), (s = mkS (wrB μ (toN i) (toN wt)) k) → (k ≤ nN μ) → nN μ - k < k9 → G X w 6 70 [(0, .ref (w.1 12)), (1, .int (nI (toN i))), (2, .int (nI (toN wt))), (3, .int (nI 4)), (4, .int s), (5, .int (nI k))] [] σ_6 := by
        intro k9
        induction k9 with
        | zero => intro s k hs hk hm9; exact absurd hm9 (Nat.not_lt_zero _)
        | succ k9 ih70 =>
          intro s k hs hk hm70
          refine g_iload h dX11_wrong_70 5 rfl ?_
          refine g_aload_n h dX11_wrong_72 0 rfl ?_
          refine g_getr h dX11_wrong_73 gX11_23 sc_12 rfl ?_
          refine g_geti h dX11_wrong_76 gX11_120 (sM_0 (m := 0) (by decide)) rfl ?_
          refine g_top (y := μ 0) (vw_pic (b := (vb 0)) (k := 0) (by first | exact hvσ_6 | assumption) (by omega)) ?_
          refine g_top (y := nI (nN μ)) (mi_0 (by assumption)) ?_
          refine g_icmpN_ge h dX11_wrong_79 (by omega) (by omega) (fun c79 => ?_) (fun c79 => ?_)
          ·
            refine g_iload h dX11_wrong_108 4 rfl ?_
            exact g_iret h hQ dX11_wrong_110 (congrArg (fun z => some (Value.int z)) (show (an (fo (fo (rg wt (nI 0) (nI 2)) (ns μ i)) (ofS μ i)) (wrS μ (toN i) (toN wt))) = s by first | exact an_yes (by first | exact hS0 | (simp [ofS, c5, c36, c79]; done) | (unfold ofS; rw [if_pos (by assumption)]; done) | (unfold ofS; rw [if_neg (by rw [‹offB μ i = false›]; decide)]; done)) (by unfold wrS; rw [hs, show k = nN μ from by omega]) | exact an_no (k := (fo (fo (rg wt (nI 0) (nI 2)) (ns μ i)) 4)) (by first | exact hS0 | (simp [ofS, c5, c36, c79]; done) | (unfold ofS; rw [if_pos (by assumption)]; done) | (unfold ofS; rw [if_neg (by rw [‹offB μ i = false›]; decide)]; done)) (by first | decide | omega | assumption | exact nb1 (by assumption)) | fail)) (by exact ⟨(by first | exact tk_eq (k := (fo (fo (rg wt (nI 0) (nI 2)) (ns μ i)) 4)) (by first | exact hS0 | (simp [ofS, c5, c36, c79]; done) | (unfold ofS; rw [if_pos (by assumption)]; done) | (unfold ofS; rw [if_neg (by rw [‹offB μ i = false›]; decide)]; done)) ht14000_σ_6 | exact tk_eq (k := (fo (fo (rg wt (nI 0) (nI 2)) (ns μ i)) 4)) (by first | exact hS0 | (simp [ofS, c5, c36, c79]; done) | (unfold ofS; rw [if_pos (by assumption)]; done) | (unfold ofS; rw [if_neg (by rw [‹offB μ i = false›]; decide)]; done)) ht14000_σ_6 | fail), (by exact hcFR_σ_6)⟩)
          ·
            refine g_iload h dX11_wrong_82 4 rfl ?_
            refine g_iload h dX11_wrong_84 5 rfl ?_
            refine g_aload_n h dX11_wrong_86 0 rfl ?_
            refine g_iload_n h dX11_wrong_87 1 rfl ?_
            refine g_iload h dX11_wrong_88 5 rfl ?_
            refine g_cspi (rest := [.ref (w.1 12), .int (nI k), .int s]) h (c_at hW (toN i) k ) lX5_at mX11_215 (Nat.lt_of_lt_of_le (by decide) (Nat.le_refl _)) (by decide) rfl rfl rfl dX11_wrong_90 ?_
            refine g_iload_n h dX11_wrong_93 2 rfl ?_
            refine g_cvpi (rest := [.int (nI k), .int s]) h (c_isWrong hW (toN i) k (toN wt) μ (by omega) (by omega) (by first | exact hN8 | omega | fail) (by omega) (by assumption) (by first | exact hcCR_σ_6 | assumption | fail) (by first | exact hcTR_σ_6 | assumption | fail)) lX11_isWrong mX11_309 (Nat.lt_of_lt_of_le (by decide) (Nat.le_refl _)) (by decide) sc_12 rfl rfl rfl rfl dX11_wrong_94 ?_
            refine g_cspi (rest := []) h (c_with hW s k (wrB μ (toN i) (toN wt) k) ) lX5_with mX11_279 (Nat.lt_of_lt_of_le (by decide) (Nat.le_refl _)) (by decide) rfl rfl rfl dX11_wrong_97 ?_
            refine g_istore (L' := [(0, .ref (w.1 12)), (1, .int (nI (toN i))), (2, .int (nI (toN wt))), (3, .int (nI 4)), (4, .int (wth s k (wrB μ (toN i) (toN wt) k))), (5, .int (nI k))]) h dX11_wrong_100 rfl (by decide) rfl ?_
            refine g_iincN (b := 1) (L' := [(0, .ref (w.1 12)), (1, .int (nI (toN i))), (2, .int (nI (toN wt))), (3, .int (nI 4)), (4, .int (wth s k (wrB μ (toN i) (toN wt) k))), (5, .int (nI (k + 1)))]) h dX11_wrong_102 5 rfl rfl (by decide) (by decide) rfl ?_
            refine g_goto h dX11_wrong_105 ?_
            exact ih70 (wth s k (wrB μ (toN i) (toN wt) k)) (k + 1) (by rw [hs]; exact mkS_w (by omega) rfl) (by omega) (by omega)
      exact lp70 (_) (nI 0) 0 (by rfl) (by omega) (Nat.lt_succ_self _)
    ·
      refine g_iconstv h dX11_wrong_39 (v := (-1)) (by decide) ?_
      exact g_iret h hQ dX11_wrong_40 (congrArg (fun z => some (Value.int z)) (show (an (fo (fo (rg wt (nI 0) (nI 2)) (ns μ i)) (ofS μ i)) (wrS μ (toN i) (toN wt))) = (-1) by first | exact an_yes (by first | exact hS0 | (simp [ofS, c5, c36]; done) | (unfold ofS; rw [if_pos (by assumption)]; done) | (unfold ofS; rw [if_neg (by rw [‹offB μ i = false›]; decide)]; done)) (by unfold wrS; rw [hs, show k = nN μ from by omega]) | exact an_no (k := (fo (fo (rg wt (nI 0) (nI 2)) (ns μ i)) 4)) (by first | exact hS0 | (simp [ofS, c5, c36]; done) | (unfold ofS; rw [if_pos (by assumption)]; done) | (unfold ofS; rw [if_neg (by rw [‹offB μ i = false›]; decide)]; done)) (by first | decide | omega | assumption | exact nb1 (by assumption)) | fail)) (by exact ⟨(by first | exact tk_eq (k := (fo (fo (rg wt (nI 0) (nI 2)) (ns μ i)) 4)) (by first | exact hS0 | (simp [ofS, c5, c36]; done) | (unfold ofS; rw [if_pos (by assumption)]; done) | (unfold ofS; rw [if_neg (by rw [‹offB μ i = false›]; decide)]; done)) ht14000_σ_4 | exact tk_eq (k := (fo (fo (rg wt (nI 0) (nI 2)) (ns μ i)) 4)) (by first | exact hS0 | (simp [ofS, c5, c36]; done) | (unfold ofS; rw [if_pos (by assumption)]; done) | (unfold ofS; rw [if_neg (by rw [‹offB μ i = false›]; decide)]; done)) ht14000_σ_4 | fail), (by exact hcFR_σ_4)⟩)

set_option maxRecDepth 100000 in
set_option maxHeartbeats 4000000 in
theorem q_told {l : Launch} {w : Wd} (hW : Wi w) {σ : Mem} (μ : Nat → Int32) (hv : vw 0 σ = μ) (hI : MI μ) : MC l w qX12_told 7 [.ref (w.1 0)] σ (some (.int (an (0) (b2i (tld μ))))) (fun σ' => (σ' 4000 = (nI 0)) ∧ (∀ a, ((a < 4900 ∨ 6000 ≤ a) ∧ a ≠ 4000) → σ' a = σ a)) := by
  refine MC.of hW (by decide +kernel) (Nat.le_of_ble_eq_true rfl) (fun X h hQ hnm => ?_)
  have h : Fx X w cX12_told 1 RX12 7 := h
  have hQ : Qx X w (some .int) (some (.int (an (0) (b2i (tld μ))))) (fun σ' => (σ' 4000 = (nI 0)) ∧ (∀ a, ((a < 4900 ∨ 6000 ≤ a) ∧ a ≠ 4000) → σ' a = σ a)) := hQ
  have hN8 := mi_8 hI
  have hcFR_σ : ∀ a, ((a < 4900 ∨ 6000 ≤ a) ∧ a ≠ 4000) → σ a = σ a := fun _ _ => rfl
  show G X w 1 0 [(0, .ref (w.1 0))] [] σ
  refine g_aload_n h dX12_told_0 0 rfl ?_
  refine g_aload_n h dX12_told_1 0 rfl ?_
  refine g_cvi (rest := [.ref (w.1 0)]) h (r_isTold hW μ (by first | exact hv | assumption | fail) (by assumption)) lX12_isTold mX12_333 (Nat.lt_of_lt_of_le (by decide) (Nat.le_refl _)) (by decide) sc_0 rfl rfl rfl rfl dX12_told_2 (fun σ_1 eσ_1 => ?_)
  have eσ_1_a : ∀ a, (a < 5150 ∨ 5168 ≤ a) → σ_1 a = σ a := eσ_1
  have hcFR_σ_1 : ∀ a, ((a < 4900 ∨ 6000 ≤ a) ∧ a ≠ 4000) → σ_1 a = σ a := by intro a ha; exact Eq.trans (b := σ a) (eσ_1_a a (by first | omega | (simp only [vb] at *; omega))) (hcFR_σ a ha)
  have hvσ_1 : vw 0 σ_1 = μ := by rw [vw_fr (σ := σ) (fun j _ _ => eσ_1_a _ (by first | omega | (simp only [vb] at *; omega)))]; first | exact hv | assumption
  refine g_ifB_eq h dX12_told_5 (fun c5 => ?_) (fun c5 => ?_)
  ·
    refine g_iconst h dX12_told_12 (by decide) ?_
    refine g_cvi (rest := []) h (r_gives hW (nI 0) ) lX12_gives mX12_281 (Nat.lt_of_lt_of_le (by decide) (Nat.le_refl _)) (by decide) sc_0 rfl rfl rfl rfl dX12_told_13 (fun σ_2 eσ_2 => ?_)
    have eσ_2_a : σ_2 = upd σ_1 4000 (nI 0) := eσ_2
    have ht4000_σ_2 : σ_2 4000 = (nI 0) := by rw [eσ_2_a]; exact upd_eq
    have hcFR_σ_2 : ∀ a, ((a < 4900 ∨ 6000 ≤ a) ∧ a ≠ 4000) → σ_2 a = σ a := by intro a ha; exact Eq.trans (b := σ_1 a) (by rw [eσ_2_a, upd_ne (by first | omega | (simp only [vb] at *; omega))]) (hcFR_σ_1 a ha)
    have hvσ_2 : vw 0 σ_2 = μ := by rw [eσ_2_a, vw_out (by omega)]; first | exact hvσ_1 | assumption
    exact g_iret h hQ dX12_told_16 (congrArg (fun z => some (Value.int z)) (show (an (0) (b2i (tld μ))) = (nI 0) by first | exact an_yes (by first | rfl | (simp [fo, rg, ns, nB, ps, gst, ofS, offB, c5]; done) | (simp [fo, rg, ns, nB, ps, gst, ofS, offB, c5]; omega)) (by rw [c5]; rfl) | exact an_no (k := 0) (by first | rfl | (simp [fo, rg, ns, nB, ps, gst, ofS, offB, c5]; done) | (simp [fo, rg, ns, nB, ps, gst, ofS, offB, c5]; omega)) (by first | decide | omega | assumption | exact nb1 (by assumption)) | fail)) (by exact ⟨(by first | exact tk_eq (k := 0) (by first | rfl | (simp [fo, rg, ns, nB, ps, gst, ofS, offB, c5]; done) | (simp [fo, rg, ns, nB, ps, gst, ofS, offB, c5]; omega)) ht4000_σ_2 | exact tk_eq (k := 0) (by first | rfl | (simp [fo, rg, ns, nB, ps, gst, ofS, offB, c5]; done) | (simp [fo, rg, ns, nB, ps, gst, ofS, offB, c5]; omega)) ht4000_σ_2 | fail), (by exact hcFR_σ_2)⟩)
  ·
    refine g_iconst h dX12_told_8 (by decide) ?_
    refine g_goto h dX12_told_9 ?_
    refine g_cvi (rest := []) h (r_gives hW (nI 1) ) lX12_gives mX12_281 (Nat.lt_of_lt_of_le (by decide) (Nat.le_refl _)) (by decide) sc_0 rfl rfl rfl rfl dX12_told_13 (fun σ_3 eσ_3 => ?_)
    have eσ_3_a : σ_3 = upd σ_1 4000 (nI 0) := eσ_3
    have ht4000_σ_3 : σ_3 4000 = (nI 0) := by rw [eσ_3_a]; exact upd_eq
    have hcFR_σ_3 : ∀ a, ((a < 4900 ∨ 6000 ≤ a) ∧ a ≠ 4000) → σ_3 a = σ a := by intro a ha; exact Eq.trans (b := σ_1 a) (by rw [eσ_3_a, upd_ne (by first | omega | (simp only [vb] at *; omega))]) (hcFR_σ_1 a ha)
    have hvσ_3 : vw 0 σ_3 = μ := by rw [eσ_3_a, vw_out (by omega)]; first | exact hvσ_1 | assumption
    exact g_iret h hQ dX12_told_16 (congrArg (fun z => some (Value.int z)) (show (an (0) (b2i (tld μ))) = (nI 1) by first | exact an_yes (by first | rfl | (simp [fo, rg, ns, nB, ps, gst, ofS, offB, c5]; done) | (simp [fo, rg, ns, nB, ps, gst, ofS, offB, c5]; omega)) (by rw [c5]; rfl) | exact an_no (k := 0) (by first | rfl | (simp [fo, rg, ns, nB, ps, gst, ofS, offB, c5]; done) | (simp [fo, rg, ns, nB, ps, gst, ofS, offB, c5]; omega)) (by first | decide | omega | assumption | exact nb1 (by assumption)) | fail)) (by exact ⟨(by first | exact tk_eq (k := 0) (by first | rfl | (simp [fo, rg, ns, nB, ps, gst, ofS, offB, c5]; done) | (simp [fo, rg, ns, nB, ps, gst, ofS, offB, c5]; omega)) ht4000_σ_3 | exact tk_eq (k := 0) (by first | rfl | (simp [fo, rg, ns, nB, ps, gst, ofS, offB, c5]; done) | (simp [fo, rg, ns, nB, ps, gst, ofS, offB, c5]; omega)) ht4000_σ_3 | fail), (by exact hcFR_σ_3)⟩)

set_option maxRecDepth 100000 in
set_option maxHeartbeats 4000000 in
theorem p_told {l : Launch} {w : Wd} (hW : Wi w) {σ : Mem} (μ : Nat → Int32) (hv : vw (vb 0) σ = μ) (hI : MI μ) : MC l w qX11_told 5 [.ref (w.1 12)] σ (some (.int (an (0) (b2i (tld μ))))) (fun σ' => (σ' 14000 = (nI 0)) ∧ (∀ a, (a < 14900 ∧ a ≠ 14000) → σ' a = σ a)) := by
  refine MC.of hW (by decide +kernel) (Nat.le_of_ble_eq_true rfl) (fun X h hQ hnm => ?_)
  have h : Fx X w cX11_told 1 RX11 5 := h
  have hQ : Qx X w (some .int) (some (.int (an (0) (b2i (tld μ))))) (fun σ' => (σ' 14000 = (nI 0)) ∧ (∀ a, (a < 14900 ∧ a ≠ 14000) → σ' a = σ a)) := hQ
  have hN8 := mi_8 hI
  have hcFR_σ : ∀ a, (a < 14900 ∧ a ≠ 14000) → σ a = σ a := fun _ _ => rfl
  show G X w 1 0 [(0, .ref (w.1 12))] [] σ
  refine g_aload_n h dX11_told_0 0 rfl ?_
  refine g_iconst h dX11_told_1 (by decide) ?_
  refine g_puti h dX11_told_2 pX11_92 sc_12 rfl ?_
  refine g_nm (fun σ_1 eσ_1 => ?_)
  have eσ_1 : σ_1 = upd σ 14000 (nI 0) := eσ_1
  have ht14000_σ_1 : σ_1 14000 = (nI 0) := by rw [eσ_1]; exact upd_eq
  have hcFR_σ_1 : ∀ a, (a < 14900 ∧ a ≠ 14000) → σ_1 a = σ a := by intro a ha; exact Eq.trans (b := σ a) (by rw [eσ_1, upd_ne (by first | omega | (simp only [vb] at *; omega))]) (hcFR_σ a ha)
  have hvσ_1 : vw (vb 0) σ_1 = μ := by rw [eσ_1, vw_out (by first | omega | (simp only [vb] at *; omega))]; first | exact hv | assumption
  refine g_aload_n h dX11_told_5 0 rfl ?_
  refine g_aload_n h dX11_told_6 0 rfl ?_
  refine g_getr h dX11_told_7 gX11_23 sc_12 rfl ?_
  refine g_cvi (rest := []) h (c_allIsTold hW 0 μ (by first | omega | decide | fail) (by first | exact hvσ_1 | assumption | fail) (by assumption)) lX11_allIsTold mX11_312 (Nat.lt_of_lt_of_le (by decide) (Nat.le_refl _)) (by decide) sc_12 rfl rfl rfl rfl dX11_told_10 (fun σ_2 eσ_2 => ?_)
  have eσ_2_a : ∀ a, (a ≠ 15030 ∧ (a < 15180 ∨ 15394 ≤ a)) → σ_2 a = σ_1 a := eσ_2
  have ht14000_σ_2 : σ_2 14000 = (nI 0) := by rw [eσ_2_a _ (by first | omega | (simp only [vb] at *; omega))]; first | exact ht14000_σ_1 | assumption
  have hcFR_σ_2 : ∀ a, (a < 14900 ∧ a ≠ 14000) → σ_2 a = σ a := by intro a ha; exact Eq.trans (b := σ_1 a) (eσ_2_a a (by first | omega | (simp only [vb] at *; omega))) (hcFR_σ_1 a ha)
  have hvσ_2 : vw (vb 0) σ_2 = μ := by rw [vw_fr (σ := σ_1) (fun j _ _ => eσ_2_a _ (by first | omega | (simp only [vb] at *; omega)))]; first | exact hvσ_1 | assumption
  refine g_cspi (rest := []) h (c_asN hW (tld μ) ) lX11_asNumber mX11_170 (Nat.lt_of_lt_of_le (by decide) (Nat.le_refl _)) (by decide) rfl rfl rfl dX11_told_13 ?_
  exact g_iret h hQ dX11_told_16 (congrArg (fun z => some (Value.int z)) (show (an (0) (b2i (tld μ))) = (b2i (tld μ)) by first | exact an_yes (by first | rfl | (simp [fo, rg, ns, nB, ps, gst, ofS, offB, Nat.add_zero]; done) | (simp [fo, rg, ns, nB, ps, gst, ofS, offB, Nat.add_zero]; omega)) (by rfl) | exact an_no (k := 0) (by first | rfl | (simp [fo, rg, ns, nB, ps, gst, ofS, offB, Nat.add_zero]; done) | (simp [fo, rg, ns, nB, ps, gst, ofS, offB, Nat.add_zero]; omega)) (by first | decide | omega | assumption | exact nb1 (by assumption)) | fail)) (by exact ⟨(by first | exact tk_eq (k := 0) (by first | rfl | (simp [fo, rg, ns, nB, ps, gst, ofS, offB, Nat.add_zero]; done) | (simp [fo, rg, ns, nB, ps, gst, ofS, offB, Nat.add_zero]; omega)) ht14000_σ_2 | exact tk_eq (k := 0) (by first | rfl | (simp [fo, rg, ns, nB, ps, gst, ofS, offB, Nat.add_zero]; done) | (simp [fo, rg, ns, nB, ps, gst, ofS, offB, Nat.add_zero]; omega)) ht14000_σ_2 | fail), (by exact hcFR_σ_2)⟩)
