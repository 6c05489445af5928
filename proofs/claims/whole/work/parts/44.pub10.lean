/-! what changes a mesh -/
def pk0 (s : Nat) (a b : Nat → Int32) : Nat → Int32 := if s = 0 then a else b
theorem pk_yes {s : Nat} {a b x : Nat → Int32} (h : s = 0) (hx : x = a) : x = pk0 s a b := by
  unfold pk0
  rw [if_pos h, hx]
theorem pk_no {s k : Nat} {a b x : Nat → Int32} (h : s = k) (hk : k ≠ 0) (hx : x = b) : x = pk0 s a b := by
  unfold pk0
  rw [if_neg (by omega), hx]
theorem bo_yes {s : Nat} {c : Bool} (h : s = 0) (hc : c = true) : decide (s = 0) = c := by rw [hc, decide_eq_true h]
theorem bo_no {s k : Nat} {c : Bool} (h : s = k) (hk : k ≠ 0) (hc : c = false) : decide (s = 0) = c := by rw [hc, decide_eq_false (by omega)]
theorem so_no {x : Nat} (h : x ≠ 0) (hx : x < 100) : decide (nI x = 0) = false := by
  apply decide_eq_false
  intro e
  exact h (nI_inj (by omega) (by decide) e)
theorem if8 {n : Nat} (h : (if n = 8 then 5 else 0) = 0) (hn : n ≤ 8) : n < 8 := by
  by_cases e : n = 8
  · rw [if_pos e] at h
    cases h
  · omega
theorem nb_eq {p q : Bool} (h : ¬ p = q) : (!p) = q := by
  cases p <;> cases q <;> first | rfl | exact absurd rfl h
def tkL (ls : Nat) (s : TT) : Nat → TT
  | 0 => s
  | n + 1 => tkF ls (tkL ls s n)
theorem tkL_all {ls : Nat} {s : TT} (h : MI s.1) : ∀ n, MI (tkL ls s n).1 ∧ nN (tkL ls s n).1 = nN s.1
  | 0 => ⟨h, rfl⟩
  | n + 1 => by
    obtain ⟨h1, h2⟩ := tkL_all h n
    obtain ⟨q1, q2⟩ := tkF_all (ls := ls) h1
    exact ⟨q1, q2.trans h2⟩

set_option maxRecDepth 100000 in
set_option maxHeartbeats 4000000 in
theorem q_will {l : Launch} {w : Wd} (hW : Wi w) {σ : Mem} (i : Int32) (wl : Int32)  (μ : Nat → Int32) (hv : vw 0 σ = μ) (hI : MI μ) : MC l w qX12_will 2 [.ref (w.1 0), .int i, .int wl] σ (some (.int (an (fo (rg wl (nI 0) (nI 7)) (ns μ i)) (μ (16 + toN i))))) (fun σ' => (vw 0 σ' = pk0 (fo (rg wl (nI 0) (nI 7)) (ns μ i)) (upd μ (16 + toN i) (nI (toN wl))) μ) ∧ (σ' 4000 = (nI (fo (rg wl (nI 0) (nI 7)) (ns μ i)))) ∧ (∀ a, (464 ≤ a ∧ a ≠ 4000 ∨ a = 10) → σ' a = σ a)) := by
  refine MC.of hW (by decide +kernel) (Nat.le_of_ble_eq_true rfl) (fun X h hQ hnm => ?_)
  have h : Fx X w cX12_will 4 RX12 2 := h
  have hQ : Qx X w (some .int) (some (.int (an (fo (rg wl (nI 0) (nI 7)) (ns μ i)) (μ (16 + toN i))))) (fun σ' => (vw 0 σ' = pk0 (fo (rg wl (nI 0) (nI 7)) (ns μ i)) (upd μ (16 + toN i) (nI (toN wl))) μ) ∧ (σ' 4000 = (nI (fo (rg wl (nI 0) (nI 7)) (ns μ i)))) ∧ (∀ a, (464 ≤ a ∧ a ≠ 4000 ∨ a = 10) → σ' a = σ a)) := hQ
  have hN8 := mi_8 hI
  have hcFR_σ : ∀ a, (464 ≤ a ∧ a ≠ 4000 ∨ a = 10) → σ a = σ a := fun _ _ => rfl
  show G X w 4 0 [(0, .ref (w.1 0)), (1, .int i), (2, .int wl)] [] σ
  refine g_iload_n h dX12_will_0 2 rfl ?_
  refine g_iconst h dX12_will_1 (by decide) ?_
  refine g_bipush h dX12_will_2 (by decide) ?_
  refine g_cspi (rest := []) h (r_isFrom hW wl (nI 0) (nI 7) ) lX12_isFrom mX12_134 (Nat.lt_of_lt_of_le (by decide) (Nat.le_refl _)) (by decide) rfl rfl rfl dX12_will_4 ?_
  refine g_ifB_ne h dX12_will_7 (fun c7 => ?_) (fun c7 => ?_)
  ·
    refine g_aload_n h dX12_will_16 0 rfl ?_
    refine g_iload_n h dX12_will_17 1 rfl ?_
    refine g_cvpi (rest := []) h (r_isNode hW i μ (by first | exact hv | assumption | fail)) lX12_isNode mX12_287 (Nat.lt_of_lt_of_le (by decide) (Nat.le_refl _)) (by decide) sc_0 rfl rfl rfl rfl dX12_will_18 ?_
    refine g_ifB_ne h dX12_will_21 (fun c21 => ?_) (fun c21 => ?_)
    ·
      obtain ⟨ew, hw9⟩ := fr_N (by decide) c7
      obtain ⟨ei, hi9⟩ := nB_N hI (show nB μ i = true from c21)
      rw [ei, ew]
      show G X w 4 30 [(0, .ref (w.1 0)), (1, .int (nI (toN i))), (2, .int (nI (toN wl)))] [] σ
      refine g_aload_n h dX12_will_30 0 rfl ?_
      refine g_bipush h dX12_will_31 (by decide) ?_
      refine g_iload_n h dX12_will_33 1 rfl ?_
      refine g_iaddN h dX12_will_34  ?_
      refine g_cvpi (rest := []) h (r_of hW (16 + toN i) μ (by assumption) (by omega)) lX12_of mX12_61 (Nat.lt_of_lt_of_le (by decide) (Nat.le_refl _)) (by decide) sc_0 rfl rfl rfl rfl dX12_will_35 ?_
      refine g_istore_n (L' := [(0, .ref (w.1 0)), (1, .int (nI (toN i))), (2, .int (nI (toN wl))), (3, .int (μ (16 + toN i)))]) h dX12_will_38 rfl (by decide) rfl ?_
      refine g_aload_n h dX12_will_39 0 rfl ?_
      refine g_bipush h dX12_will_40 (by decide) ?_
      refine g_iload_n h dX12_will_42 1 rfl ?_
      refine g_iaddN h dX12_will_43  ?_
      refine g_iload_n h dX12_will_44 2 rfl ?_
      refine g_cvv (rest := []) h (r_puts hW (16 + toN i) (nI (toN wl)) (by omega)) lX12_puts mX12_57 (Nat.lt_of_lt_of_le (by decide) (Nat.le_refl _)) (by decide) sc_0 rfl rfl rfl rfl dX12_will_45 (fun σ_1 eσ_1 => ?_)
      have eσ_1_a : σ_1 = upd σ (0 + (16 + toN i)) (nI (toN wl)) := eσ_1
      have hcFR_σ_1 : ∀ a, (464 ≤ a ∧ a ≠ 4000 ∨ a = 10) → σ_1 a = σ a := by intro a ha; exact Eq.trans (b := σ a) (by rw [eσ_1_a, upd_ne (by first | omega | (simp only [vb] at *; omega))]) (hcFR_σ a ha)
      obtain ⟨μ_2, eμ_2⟩ : ∃ μ_2 : Nat → Int32, μ_2 = upd μ (16 + toN i) (nI (toN wl)) := ⟨_, rfl⟩
      have hvσ_1 : vw 0 σ_1 = μ_2 := by rw [eσ_1_a, eμ_2, vw_in (by omega)]; congr 1
      refine g_aload_n h dX12_will_48 0 rfl ?_
      refine g_iload_n h dX12_will_49 3 rfl ?_
      refine g_cvi (rest := []) h (r_gives hW (μ (16 + toN i)) ) lX12_gives mX12_281 (Nat.lt_of_lt_of_le (by decide) (Nat.le_refl _)) (by decide) sc_0 rfl rfl rfl rfl dX12_will_50 (fun σ_3 eσ_3 => ?_)
      have eσ_3_a : σ_3 = upd σ_1 4000 (nI 0) := eσ_3
      have ht4000_σ_3 : σ_3 4000 = (nI 0) := by rw [eσ_3_a]; exact upd_eq
      have hcFR_σ_3 : ∀ a, (464 ≤ a ∧ a ≠ 4000 ∨ a = 10) → σ_3 a = σ a := by intro a ha; exact Eq.trans (b := σ_1 a) (by rw [eσ_3_a, upd_ne (by first | omega | (simp only [vb] at *; omega))]) (hcFR_σ_1 a ha)
      have hvσ_3 : vw 0 σ_3 = μ_2 := by rw [eσ_3_a, vw_out (by omega)]; first | exact hvσ_1 | assumption
      exact g_iret h hQ dX12_will_53 (congrArg (fun z => some (Value.int z)) (show (an (fo (rg wl (nI 0) (nI 7)) (ns μ i)) (μ (16 + toN i))) = (μ (16 + toN i)) by first | exact an_yes (by first | rfl | (simp [fo, rg, ns, nB, ps, gst, ofS, offB, c7, c21]; done) | (simp [fo, rg, ns, nB, ps, gst, ofS, offB, c7, c21]; omega) | fail) (by rfl) | exact an_no (k := 0) (by first | rfl | (simp [fo, rg, ns, nB, ps, gst, ofS, offB, c7, c21]; done) | (simp [fo, rg, ns, nB, ps, gst, ofS, offB, c7, c21]; omega) | fail) (by first | decide | omega | assumption | exact nb1 (by assumption)) | fail)) (by exact ⟨(by first | exact pk_yes (by first | rfl | (simp [fo, rg, ns, nB, ps, gst, ofS, offB, c7, c21]; done) | (simp [fo, rg, ns, nB, ps, gst, ofS, offB, c7, c21]; omega) | fail) (by rw [hvσ_3, eμ_2]) | exact pk_no (k := 0) (by first | rfl | (simp [fo, rg, ns, nB, ps, gst, ofS, offB, c7, c21]; done) | (simp [fo, rg, ns, nB, ps, gst, ofS, offB, c7, c21]; omega) | fail) (by first | decide | omega | assumption | exact nb1 (by assumption)) hvσ_3 | fail), (by first | exact tk_eq (k := 0) (by first | rfl | (simp [fo, rg, ns, nB, ps, gst, ofS, offB, c7, c21]; done) | (simp [fo, rg, ns, nB, ps, gst, ofS, offB, c7, c21]; omega) | fail) ht4000_σ_3 | exact tk_eq (k := 0) (by first | rfl | (simp [fo, rg, ns, nB, ps, gst, ofS, offB, c7, c21]; done) | (simp [fo, rg, ns, nB, ps, gst, ofS, offB, c7, c21]; omega) | fail) ht4000_σ_3 | fail), (by exact hcFR_σ_3)⟩)
    ·
      refine g_aload_n h dX12_will_24 0 rfl ?_
      refine g_iconst h dX12_will_25 (by decide) ?_
      refine g_cvi (rest := []) h (r_refuse hW (nI 2) ) lX12_refuse mX12_272 (Nat.lt_of_lt_of_le (by decide) (Nat.le_refl _)) (by decide) sc_0 rfl rfl rfl rfl dX12_will_26 (fun σ_4 eσ_4 => ?_)
      have eσ_4_a : σ_4 = upd σ 4000 (nI 2) := eσ_4
      have ht4000_σ_4 : σ_4 4000 = (nI 2) := by rw [eσ_4_a]; exact upd_eq
      have hcFR_σ_4 : ∀ a, (464 ≤ a ∧ a ≠ 4000 ∨ a = 10) → σ_4 a = σ a := by intro a ha; exact Eq.trans (b := σ a) (by rw [eσ_4_a, upd_ne (by first | omega | (simp only [vb] at *; omega))]) (hcFR_σ a ha)
      have hvσ_4 : vw 0 σ_4 = μ := by rw [eσ_4_a, vw_out (by omega)]; first | exact hv | assumption
      exact g_iret h hQ dX12_will_29 (congrArg (fun z => some (Value.int z)) (show (an (fo (rg wl (nI 0) (nI 7)) (ns μ i)) (μ (16 + toN i))) = (-1) by first | exact an_yes (by first | rfl | (simp [fo, rg, ns, nB, ps, gst, ofS, offB, c7, c21]; done) | (simp [fo, rg, ns, nB, ps, gst, ofS, offB, c7, c21]; omega) | fail) (by rfl) | exact an_no (k := 2) (by first | rfl | (simp [fo, rg, ns, nB, ps, gst, ofS, offB, c7, c21]; done) | (simp [fo, rg, ns, nB, ps, gst, ofS, offB, c7, c21]; omega) | fail) (by first | decide | omega | assumption | exact nb1 (by assumption)) | fail)) (by exact ⟨(by first | exact pk_yes (by first | rfl | (simp [fo, rg, ns, nB, ps, gst, ofS, offB, c7, c21]; done) | (simp [fo, rg, ns, nB, ps, gst, ofS, offB, c7, c21]; omega) | fail) (by rw [hvσ_4, Nat.add_zero]) | exact pk_no (k := 2) (by first | rfl | (simp [fo, rg, ns, nB, ps, gst, ofS, offB, c7, c21]; done) | (simp [fo, rg, ns, nB, ps, gst, ofS, offB, c7, c21]; omega) | fail) (by first | decide | omega | assumption | exact nb1 (by assumption)) hvσ_4 | fail), (by first | exact tk_eq (k := 2) (by first | rfl | (simp [fo, rg, ns, nB, ps, gst, ofS, offB, c7, c21]; done) | (simp [fo, rg, ns, nB, ps, gst, ofS, offB, c7, c21]; omega) | fail) ht4000_σ_4 | exact tk_eq (k := 2) (by first | rfl | (simp [fo, rg, ns, nB, ps, gst, ofS, offB, c7, c21]; done) | (simp [fo, rg, ns, nB, ps, gst, ofS, offB, c7, c21]; omega) | fail) ht4000_σ_4 | fail), (by exact hcFR_σ_4)⟩)
  ·
    refine g_aload_n h dX12_will_10 0 rfl ?_
    refine g_iconst h dX12_will_11 (by decide) ?_
    refine g_cvi (rest := []) h (r_refuse hW (nI 1) ) lX12_refuse mX12_272 (Nat.lt_of_lt_of_le (by decide) (Nat.le_refl _)) (by decide) sc_0 rfl rfl rfl rfl dX12_will_12 (fun σ_5 eσ_5 => ?_)
    have eσ_5_a : σ_5 = upd σ 4000 (nI 1) := eσ_5
    have ht4000_σ_5 : σ_5 4000 = (nI 1) := by rw [eσ_5_a]; exact upd_eq
    have hcFR_σ_5 : ∀ a, (464 ≤ a ∧ a ≠ 4000 ∨ a = 10) → σ_5 a = σ a := by intro a ha; exact Eq.trans (b := σ a) (by rw [eσ_5_a, upd_ne (by first | omega | (simp only [vb] at *; omega))]) (hcFR_σ a ha)
    have hvσ_5 : vw 0 σ_5 = μ := by rw [eσ_5_a, vw_out (by omega)]; first | exact hv | assumption
    exact g_iret h hQ dX12_will_15 (congrArg (fun z => some (Value.int z)) (show (an (fo (rg wl (nI 0) (nI 7)) (ns μ i)) (μ (16 + toN i))) = (-1) by first | exact an_yes (by first | rfl | (simp [fo, rg, ns, nB, ps, gst, ofS, offB, c7]; done) | (simp [fo, rg, ns, nB, ps, gst, ofS, offB, c7]; omega) | fail) (by rfl) | exact an_no (k := 1) (by first | rfl | (simp [fo, rg, ns, nB, ps, gst, ofS, offB, c7]; done) | (simp [fo, rg, ns, nB, ps, gst, ofS, offB, c7]; omega) | fail) (by first | decide | omega | assumption | exact nb1 (by assumption)) | fail)) (by exact ⟨(by first | exact pk_yes (by first | rfl | (simp [fo, rg, ns, nB, ps, gst, ofS, offB, c7]; done) | (simp [fo, rg, ns, nB, ps, gst, ofS, offB, c7]; omega) | fail) (by rw [hvσ_5, Nat.add_zero]) | exact pk_no (k := 1) (by first | rfl | (simp [fo, rg, ns, nB, ps, gst, ofS, offB, c7]; done) | (simp [fo, rg, ns, nB, ps, gst, ofS, offB, c7]; omega) | fail) (by first | decide | omega | assumption | exact nb1 (by assumption)) hvσ_5 | fail), (by first | exact tk_eq (k := 1) (by first | rfl | (simp [fo, rg, ns, nB, ps, gst, ofS, offB, c7]; done) | (simp [fo, rg, ns, nB, ps, gst, ofS, offB, c7]; omega) | fail) ht4000_σ_5 | exact tk_eq (k := 1) (by first | rfl | (simp [fo, rg, ns, nB, ps, gst, ofS, offB, c7]; done) | (simp [fo, rg, ns, nB, ps, gst, ofS, offB, c7]; omega) | fail) ht4000_σ_5 | fail), (by exact hcFR_σ_5)⟩)

set_option maxRecDepth 100000 in
set_option maxHeartbeats 4000000 in
theorem p_will {l : Launch} {w : Wd} (hW : Wi w) {σ : Mem} (i : Int32) (wl : Int32)  (μ : Nat → Int32) (hv : vw (vb 0) σ = μ) (hI : MI μ) : MC l w qX11_will 2 [.ref (w.1 12), .int i, .int wl] σ (some (.int (an (fo (rg wl (nI 0) (nI 7)) (ns μ i)) (μ (16 + toN i))))) (fun σ' => (vw (vb 0) σ' = pk0 (fo (rg wl (nI 0) (nI 7)) (ns μ i)) (upd μ (16 + toN i) (nI (toN wl))) μ) ∧ (σ' 14000 = (nI (fo (rg wl (nI 0) (nI 7)) (ns μ i)))) ∧ (∀ a, ((a < 10000 ∨ 10464 ≤ a) ∧ a ≠ 14000) → σ' a = σ a)) := by
  refine MC.of hW (by decide +kernel) (Nat.le_of_ble_eq_true rfl) (fun X h hQ hnm => ?_)
  have h : Fx X w cX11_will 4 RX11 2 := h
  have hQ : Qx X w (some .int) (some (.int (an (fo (rg wl (nI 0) (nI 7)) (ns μ i)) (μ (16 + toN i))))) (fun σ' => (vw (vb 0) σ' = pk0 (fo (rg wl (nI 0) (nI 7)) (ns μ i)) (upd μ (16 + toN i) (nI (toN wl))) μ) ∧ (σ' 14000 = (nI (fo (rg wl (nI 0) (nI 7)) (ns μ i)))) ∧ (∀ a, ((a < 10000 ∨ 10464 ≤ a) ∧ a ≠ 14000) → σ' a = σ a)) := hQ
  have hN8 := mi_8 hI
  have hvb0 : vb 0 = 10000 := rfl
  have hcFR_σ : ∀ a, ((a < 10000 ∨ 10464 ≤ a) ∧ a ≠ 14000) → σ a = σ a := fun _ _ => rfl
  show G X w 4 0 [(0, .ref (w.1 12)), (1, .int i), (2, .int wl)] [] σ
  refine g_aload_n h dX11_will_0 0 rfl ?_
  refine g_iload_n h dX11_will_1 2 rfl ?_
  refine g_iconst h dX11_will_2 (by decide) ?_
  refine g_bipush h dX11_will_3 (by decide) ?_
  refine g_cspi (rest := [.ref (w.1 12)]) h (c_rg hW wl (nI 0) (nI 7) ) lX11_rangeStatus mX11_102 (Nat.lt_of_lt_of_le (by decide) (Nat.le_refl _)) (by decide) rfl rfl rfl dX11_will_5 ?_
  refine g_aload_n h dX11_will_8 0 rfl ?_
  refine g_iload_n h dX11_will_9 1 rfl ?_
  refine g_cvpi (rest := [.int (nI (rg wl (nI 0) (nI 7))), .ref (w.1 12)]) h (c_ns hW i μ (by first | exact hv | assumption | fail)) lX11_nodeStatus mX11_159 (Nat.lt_of_lt_of_le (by decide) (Nat.le_refl _)) (by decide) sc_12 rfl rfl rfl rfl dX11_will_10 ?_
  refine g_cspi (rest := [.ref (w.1 12)]) h (c_fo hW (rg wl (nI 0) (nI 7)) (ns μ i) (by repeat (first | omega | exact rg_lt | exact ns_lt | exact ps_lt | exact gst_lt | exact ofS_lt | exact if_lt (by decide) (by decide) | apply fo_lt)) (by repeat (first | omega | exact rg_lt | exact ns_lt | exact ps_lt | exact gst_lt | exact ofS_lt | exact if_lt (by decide) (by decide) | apply fo_lt))) lX11_firstOf mX11_163 (Nat.lt_of_lt_of_le (by decide) (Nat.le_refl _)) (by decide) rfl rfl rfl dX11_will_13 ?_
  refine g_cvi (rest := []) h (c_fails hW (fo (rg wl (nI 0) (nI 7)) (ns μ i)) (by repeat (first | omega | exact rg_lt | exact ns_lt | exact ps_lt | exact gst_lt | exact ofS_lt | exact if_lt (by decide) (by decide) | apply fo_lt))) lX11_fails mX11_106 (Nat.lt_of_lt_of_le (by decide) (Nat.le_refl _)) (by decide) sc_12 rfl rfl rfl rfl dX11_will_16 (fun σ_1 eσ_1 => ?_)
  obtain ⟨eσ_1_a, eσ_1_b⟩ := eσ_1
  have eσ_1_a : σ_1 14000 = (nI (fo (rg wl (nI 0) (nI 7)) (ns μ i))) := eσ_1_a
  have eσ_1_b : ∀ a, (a ≠ 14000) → σ_1 a = σ a := eσ_1_b
  have ht14000_σ_1 : σ_1 14000 = (nI (fo (rg wl (nI 0) (nI 7)) (ns μ i))) := eσ_1_a
  have hcFR_σ_1 : ∀ a, ((a < 10000 ∨ 10464 ≤ a) ∧ a ≠ 14000) → σ_1 a = σ a := by intro a ha; exact Eq.trans (b := σ a) (eσ_1_b a (by first | omega | (simp only [vb] at *; omega))) (hcFR_σ a ha)
  have hvσ_1 : vw (vb 0) σ_1 = μ := by rw [vw_fr (σ := σ) (fun j _ _ => eσ_1_b _ (by first | omega | (simp only [vb] at *; omega)))]; first | exact hv | assumption
  refine g_ifB_eq h dX11_will_19 (fun c19 => ?_) (fun c19 => ?_)
  ·
    have hS0 := nb0 c19
    obtain ⟨hs1, hs2⟩ := fo_0 hS0
    obtain ⟨ew, hw9⟩ := rg_N (by decide) hs1
    obtain ⟨ei, hi9⟩ := nB_N hI (ns_0 hs2)
    rw [ei, ew]
    show G X w 4 24 [(0, .ref (w.1 12)), (1, .int (nI (toN i))), (2, .int (nI (toN wl)))] [] σ_1
    refine g_aload_n h dX11_will_24 0 rfl ?_
    refine g_getr h dX11_will_25 gX11_23 sc_12 rfl ?_
    refine g_getr h dX11_will_28 gX11_174 (sM_0 (m := 0) (by decide)) rfl ?_
    refine g_iload_n h dX11_will_31 1 rfl ?_
    refine g_iald h dX11_will_32 (sM_1 (m := 0) (by decide)) (by omega) ?_
    refine g_top (y := μ (16 + (toN i))) (vw_pic (b := (vb 0)) (k := 16 + (toN i)) (by first | exact hvσ_1 | assumption) (by omega)) ?_
    refine g_istore_n (L' := [(0, .ref (w.1 12)), (1, .int (nI (toN i))), (2, .int (nI (toN wl))), (3, .int (μ (16 + (toN i))))]) h dX11_will_33 rfl (by decide) rfl ?_
    refine g_aload_n h dX11_will_34 0 rfl ?_
    refine g_getr h dX11_will_35 gX11_23 sc_12 rfl ?_
    refine g_getr h dX11_will_38 gX11_174 (sM_0 (m := 0) (by decide)) rfl ?_
    refine g_iload_n h dX11_will_41 1 rfl ?_
    refine g_iload_n h dX11_will_42 2 rfl ?_
    refine g_iast h dX11_will_43 (sM_1 (m := 0) (by decide)) (by omega) ?_
    refine g_nm (fun σ_2 eσ_2 => ?_)
    have eσ_2 : σ_2 = upd σ_1 ((vb 0) + (16 + (toN i))) (nI (toN wl)) := eσ_2
    have ht14000_σ_2 : σ_2 14000 = (nI (fo (rg wl (nI 0) (nI 7)) (ns μ i))) := by rw [eσ_2, upd_ne (by first | omega | (simp only [vb] at *; omega))]; first | exact ht14000_σ_1 | assumption
    have hcFR_σ_2 : ∀ a, ((a < 10000 ∨ 10464 ≤ a) ∧ a ≠ 14000) → σ_2 a = σ a := by intro a ha; exact Eq.trans (b := σ_1 a) (by rw [eσ_2, upd_ne (by first | omega | (simp only [vb] at *; omega))]) (hcFR_σ_1 a ha)
    obtain ⟨μ_3, eμ_3⟩ : ∃ μ_3 : Nat → Int32, μ_3 = upd μ (16 + (toN i)) (nI (toN wl)) := ⟨_, rfl⟩
    have hvσ_2 : vw (vb 0) σ_2 = μ_3 := by rw [eσ_2, eμ_3, vw_in (by omega)]; congr 1
    refine g_iload_n h dX11_will_44 3 rfl ?_
    exact g_iret h hQ dX11_will_45 (congrArg (fun z => some (Value.int z)) (show (an (fo (rg wl (nI 0) (nI 7)) (ns μ i)) (μ (16 + toN i))) = (μ (16 + (toN i))) by first | exact an_yes (by exact hS0) (by rfl) | exact an_no (k := (fo (rg wl (nI 0) (nI 7)) (ns μ i))) (by rfl) (by first | decide | omega | assumption | exact nb1 (by assumption)) | fail)) (by exact ⟨(by first | exact pk_yes (by exact hS0) (by rw [hvσ_2, eμ_3]) | exact pk_no (k := (fo (rg wl (nI 0) (nI 7)) (ns μ i))) (by rfl) (by first | decide | omega | assumption | exact nb1 (by assumption)) hvσ_2 | fail), (by first | exact tk_eq (k := (fo (rg wl (nI 0) (nI 7)) (ns μ i))) (by rfl) ht14000_σ_2 | exact tk_eq (k := (fo (rg wl (nI 0) (nI 7)) (ns μ i))) (by exact hS0) ht14000_σ_2 | fail), (by exact hcFR_σ_2)⟩)
  ·
    refine g_iconstv h dX11_will_22 (v := (-1)) (by decide) ?_
    exact g_iret h hQ dX11_will_23 (congrArg (fun z => some (Value.int z)) (show (an (fo (rg wl (nI 0) (nI 7)) (ns μ i)) (μ (16 + toN i))) = (-1) by first | exact an_yes (by exact hS0) (by rfl) | exact an_no (k := (fo (rg wl (nI 0) (nI 7)) (ns μ i))) (by rfl) (by first | decide | omega | assumption | exact nb1 (by assumption)) | fail)) (by exact ⟨(by first | exact pk_yes (by exact hS0) (by rw [hvσ_1, Nat.add_zero]) | exact pk_no (k := (fo (rg wl (nI 0) (nI 7)) (ns μ i))) (by rfl) (by first | decide | omega | assumption | exact nb1 (by assumption)) hvσ_1 | fail), (by first | exact tk_eq (k := (fo (rg wl (nI 0) (nI 7)) (ns μ i))) (by rfl) ht14000_σ_1 | exact tk_eq (k := (fo (rg wl (nI 0) (nI 7)) (ns μ i))) (by exact hS0) ht14000_σ_1 | fail), (by exact hcFR_σ_1)⟩)

set_option maxRecDepth 100000 in
set_option maxHeartbeats 4000000 in
theorem q_jam {l : Launch} {w : Wd} (hW : Wi w) {σ : Mem} (i : Int32) (j : Int32) (t : Int32)  (μ : Nat → Int32) (hv : vw 0 σ = μ) (hI : MI μ) : MC l w qX12_jam 3 [.ref (w.1 0), .int i, .int j, .int t] σ (some (.int (an (fo (rg t (nI 0) (nI 99)) (ps μ i j)) (μ (208 + (8 * toN i + toN j)))))) (fun σ' => (vw 0 σ' = pk0 (fo (rg t (nI 0) (nI 99)) (ps μ i j)) (upd μ (208 + (8 * toN i + toN j)) (nI (toN t))) μ) ∧ (σ' 4000 = (nI (fo (rg t (nI 0) (nI 99)) (ps μ i j)))) ∧ (∀ a, (464 ≤ a ∧ a ≠ 4000 ∨ a = 10) → σ' a = σ a)) := by
  refine MC.of hW (by decide +kernel) (Nat.le_of_ble_eq_true rfl) (fun X h hQ hnm => ?_)
  have h : Fx X w cX12_jam 6 RX12 3 := h
  have hQ : Qx X w (some .int) (some (.int (an (fo (rg t (nI 0) (nI 99)) (ps μ i j)) (μ (208 + (8 * toN i + toN j)))))) (fun σ' => (vw 0 σ' = pk0 (fo (rg t (nI 0) (nI 99)) (ps μ i j)) (upd μ (208 + (8 * toN i + toN j)) (nI (toN t))) μ) ∧ (σ' 4000 = (nI (fo (rg t (nI 0) (nI 99)) (ps μ i j)))) ∧ (∀ a, (464 ≤ a ∧ a ≠ 4000 ∨ a = 10) → σ' a = σ a)) := hQ
  have hN8 := mi_8 hI
  have hps := ps_lt (μ := μ) (a := i) (b := j)
  have hcFR_σ : ∀ a, (464 ≤ a ∧ a ≠ 4000 ∨ a = 10) → σ a = σ a := fun _ _ => rfl
  show G X w 6 0 [(0, .ref (w.1 0)), (1, .int i), (2, .int j), (3, .int t)] [] σ
  refine g_iload_n h dX12_jam_0 3 rfl ?_
  refine g_iconst h dX12_jam_1 (by decide) ?_
  refine g_bipush h dX12_jam_2 (by decide) ?_
  refine g_cspi (rest := []) h (r_isFrom hW t (nI 0) (nI 99) ) lX12_isFrom mX12_134 (Nat.lt_of_lt_of_le (by decide) (Nat.le_refl _)) (by decide) rfl rfl rfl dX12_jam_4 ?_
  refine g_ifB_ne h dX12_jam_7 (fun c7 => ?_) (fun c7 => ?_)
  ·
    refine g_aload_n h dX12_jam_14 0 rfl ?_
    refine g_iload_n h dX12_jam_15 1 rfl ?_
    refine g_iload_n h dX12_jam_16 2 rfl ?_
    refine g_cvpi (rest := []) h (r_ps hW i j μ (by first | exact hv | assumption | fail)) lX12_wrongTwo mX12_290 (Nat.lt_of_lt_of_le (by decide) (Nat.le_refl _)) (by decide) sc_0 rfl rfl rfl rfl dX12_jam_17 ?_
    refine g_istore (L' := [(0, .ref (w.1 0)), (1, .int i), (2, .int j), (3, .int t), (4, .int (nI (ps μ i j)))]) h dX12_jam_20 rfl (by decide) rfl ?_
    refine g_iload h dX12_jam_22 4 rfl ?_
    refine g_ifN_le h dX12_jam_24 (by omega) (fun c24 => ?_) (fun c24 => ?_)
    ·
      obtain ⟨ew, hw9⟩ := fr_N (by decide) c7
      have hp0 : ps μ i j = 0 := by omega
      have h0 := ps_0 hp0
      obtain ⟨ei, hi9⟩ := nB_N hI h0.1
      obtain ⟨ej, hj9⟩ := nB_N hI h0.2.1
      rw [hp0]
      rw [ei, ej, ew]
      show G X w 6 34 [(0, .ref (w.1 0)), (1, .int (nI (toN i))), (2, .int (nI (toN j))), (3, .int (nI (toN t))), (4, .int (nI 0))] [] σ
      refine g_aload_n h dX12_jam_34 0 rfl ?_
      refine g_sipush h dX12_jam_35 (by decide) ?_
      refine g_iload_n h dX12_jam_38 1 rfl ?_
      refine g_iload_n h dX12_jam_39 2 rfl ?_
      refine g_cspi (rest := [.ref (w.1 0)]) h (r_two hW 208 (toN i) (toN j) ) lX12_two mX12_69 (Nat.lt_of_lt_of_le (by decide) (Nat.le_refl _)) (by decide) rfl rfl rfl dX12_jam_40 ?_
      refine g_cvpi (rest := []) h (r_of hW (208 + (8 * (toN i) + (toN j))) μ (by assumption) (by omega)) lX12_of mX12_61 (Nat.lt_of_lt_of_le (by decide) (Nat.le_refl _)) (by decide) sc_0 rfl rfl rfl rfl dX12_jam_43 ?_
      refine g_istore (L' := [(0, .ref (w.1 0)), (1, .int (nI (toN i))), (2, .int (nI (toN j))), (3, .int (nI (toN t))), (4, .int (nI 0)), (5, .int (μ (208 + (8 * (toN i) + (toN j)))))]) h dX12_jam_46 rfl (by decide) rfl ?_
      refine g_aload_n h dX12_jam_48 0 rfl ?_
      refine g_sipush h dX12_jam_49 (by decide) ?_
      refine g_iload_n h dX12_jam_52 1 rfl ?_
      refine g_iload_n h dX12_jam_53 2 rfl ?_
      refine g_cspi (rest := [.ref (w.1 0)]) h (r_two hW 208 (toN i) (toN j) ) lX12_two mX12_69 (Nat.lt_of_lt_of_le (by decide) (Nat.le_refl _)) (by decide) rfl rfl rfl dX12_jam_54 ?_
      refine g_iload_n h dX12_jam_57 3 rfl ?_
      refine g_cvv (rest := []) h (r_puts hW (208 + (8 * (toN i) + (toN j))) (nI (toN t)) (by omega)) lX12_puts mX12_57 (Nat.lt_of_lt_of_le (by decide) (Nat.le_refl _)) (by decide) sc_0 rfl rfl rfl rfl dX12_jam_58 (fun σ_1 eσ_1 => ?_)
      have eσ_1_a : σ_1 = upd σ (0 + (208 + (8 * (toN i) + (toN j)))) (nI (toN t)) := eσ_1
      have hcFR_σ_1 : ∀ a, (464 ≤ a ∧ a ≠ 4000 ∨ a = 10) → σ_1 a = σ a := by intro a ha; exact Eq.trans (b := σ a) (by rw [eσ_1_a, upd_ne (by first | omega | (simp only [vb] at *; omega))]) (hcFR_σ a ha)
      obtain ⟨μ_2, eμ_2⟩ : ∃ μ_2 : Nat → Int32, μ_2 = upd μ (208 + (8 * (toN i) + (toN j))) (nI (toN t)) := ⟨_, rfl⟩
      have hvσ_1 : vw 0 σ_1 = μ_2 := by rw [eσ_1_a, eμ_2, vw_in (by omega)]; congr 1
      refine g_aload_n h dX12_jam_61 0 rfl ?_
      refine g_iload h dX12_jam_62 5 rfl ?_
      refine g_cvi (rest := []) h (r_gives hW (μ (208 + (8 * (toN i) + (toN j)))) ) lX12_gives mX12_281 (Nat.lt_of_lt_of_le (by decide) (Nat.le_refl _)) (by decide) sc_0 rfl rfl rfl rfl dX12_jam_64 (fun σ_3 eσ_3 => ?_)
      have eσ_3_a : σ_3 = upd σ_1 4000 (nI 0) := eσ_3
      have ht4000_σ_3 : σ_3 4000 = (nI 0) := by rw [eσ_3_a]; exact upd_eq
      have hcFR_σ_3 : ∀ a, (464 ≤ a ∧ a ≠ 4000 ∨ a = 10) → σ_3 a = σ a := by intro a ha; exact Eq.trans (b := σ_1 a) (by rw [eσ_3_a, upd_ne (by first | omega | (simp only [vb] at *; omega))]) (hcFR_σ_1 a ha)
      have hvσ_3 : vw 0 σ_3 = μ_2 := by rw [eσ_3_a, vw_out (by omega)]; first | exact hvσ_1 | assumption
      exact g_iret h hQ dX12_jam_67 (congrArg (fun z => some (Value.int z)) (show (an (fo (rg t (nI 0) (nI 99)) (ps μ i j)) (μ (208 + (8 * toN i + toN j)))) = (μ (208 + (8 * (toN i) + (toN j)))) by first | exact an_yes (by first | (simp [fo, rg, c7, hp0]; done) | fail) (by rfl) | exact an_no (k := 0) (by first | rfl | (simp [fo, rg, ns, nB, ps, gst, ofS, offB, c7, c24]; done) | (simp [fo, rg, ns, nB, ps, gst, ofS, offB, c7, c24]; omega) | fail) (by first | decide | omega | assumption | exact nb1 (by assumption)) | fail)) (by exact ⟨(by first | exact pk_yes (by first | (simp [fo, rg, c7, hp0]; done) | fail) (by rw [hvσ_3, eμ_2]) | exact pk_no (k := 0) (by first | rfl | (simp [fo, rg, ns, nB, ps, gst, ofS, offB, c7, c24]; done) | (simp [fo, rg, ns, nB, ps, gst, ofS, offB, c7, c24]; omega) | fail) (by first | decide | omega | assumption | exact nb1 (by assumption)) hvσ_3 | fail), (by first | exact tk_eq (k := 0) (by first | rfl | (simp [fo, rg, ns, nB, ps, gst, ofS, offB, c7, c24]; done) | (simp [fo, rg, ns, nB, ps, gst, ofS, offB, c7, c24]; omega) | fail) ht4000_σ_3 | exact tk_eq (k := 0) (by first | (simp [fo, rg, c7, hp0]; done) | fail) ht4000_σ_3 | fail), (by exact hcFR_σ_3)⟩)
    ·
      refine g_aload_n h dX12_jam_27 0 rfl ?_
      refine g_iload h dX12_jam_28 4 rfl ?_
      refine g_cvi (rest := []) h (r_refuse hW (nI (ps μ i j)) ) lX12_refuse mX12_272 (Nat.lt_of_lt_of_le (by decide) (Nat.le_refl _)) (by decide) sc_0 rfl rfl rfl rfl dX12_jam_30 (fun σ_4 eσ_4 => ?_)
      have eσ_4_a : σ_4 = upd σ 4000 (nI (ps μ i j)) := eσ_4
      have ht4000_σ_4 : σ_4 4000 = (nI (ps μ i j)) := by rw [eσ_4_a]; exact upd_eq
      have hcFR_σ_4 : ∀ a, (464 ≤ a ∧ a ≠ 4000 ∨ a = 10) → σ_4 a = σ a := by intro a ha; exact Eq.trans (b := σ a) (by rw [eσ_4_a, upd_ne (by first | omega | (simp only [vb] at *; omega))]) (hcFR_σ a ha)
      have hvσ_4 : vw 0 σ_4 = μ := by rw [eσ_4_a, vw_out (by omega)]; first | exact hv | assumption
      exact g_iret h hQ dX12_jam_33 (congrArg (fun z => some (Value.int z)) (show (an (fo (rg t (nI 0) (nI 99)) (ps μ i j)) (μ (208 + (8 * toN i + toN j)))) = (-1) by first | exact an_yes (by first | (simp [fo, rg, c7, hp0]; done) | fail) (by rfl) | exact an_no (k := (ps μ i j)) (by first | rfl | (simp [fo, rg, ns, nB, ps, gst, ofS, offB, c7, c24]; done) | (simp [fo, rg, ns, nB, ps, gst, ofS, offB, c7, c24]; omega) | fail) (by first | decide | omega | assumption | exact nb1 (by assumption)) | fail)) (by exact ⟨(by first | exact pk_yes (by first | (simp [fo, rg, c7, hp0]; done) | fail) (by rw [hvσ_4, Nat.add_zero]) | exact pk_no (k := (ps μ i j)) (by first | rfl | (simp [fo, rg, ns, nB, ps, gst, ofS, offB, c7, c24]; done) | (simp [fo, rg, ns, nB, ps, gst, ofS, offB, c7, c24]; omega) | fail) (by first | decide | omega | assumption | exact nb1 (by assumption)) hvσ_4 | fail), (by first | exact tk_eq (k := (ps μ i j)) (by first | rfl | (simp [fo, rg, ns, nB, ps, gst, ofS, offB, c7, c24]; done) | (simp [fo, rg, ns, nB, ps, gst, ofS, offB, c7, c24]; omega) | fail) ht4000_σ_4 | exact tk_eq (k := (ps μ i j)) (by first | (simp [fo, rg, c7, hp0]; done) | fail) ht4000_σ_4 | fail), (by exact hcFR_σ_4)⟩)
  ·
    refine g_iconst h dX12_jam_10 (by decide) ?_
    refine g_goto h dX12_jam_11 ?_
    refine g_istore (L' := [(0, .ref (w.1 0)), (1, .int i), (2, .int j), (3, .int t), (4, .int (nI 1))]) h dX12_jam_20 rfl (by decide) rfl ?_
    refine g_iload h dX12_jam_22 4 rfl ?_
    refine g_ifN_le h dX12_jam_24 (by decide) (fun c24 => absurd c24 (by decide)) (fun c24 => ?_)
    refine g_aload_n h dX12_jam_27 0 rfl ?_
    refine g_iload h dX12_jam_28 4 rfl ?_
    refine g_cvi (rest := []) h (r_refuse hW (nI 1) ) lX12_refuse mX12_272 (Nat.lt_of_lt_of_le (by decide) (Nat.le_refl _)) (by decide) sc_0 rfl rfl rfl rfl dX12_jam_30 (fun σ_5 eσ_5 => ?_)
    have eσ_5_a : σ_5 = upd σ 4000 (nI 1) := eσ_5
    have ht4000_σ_5 : σ_5 4000 = (nI 1) := by rw [eσ_5_a]; exact upd_eq
    have hcFR_σ_5 : ∀ a, (464 ≤ a ∧ a ≠ 4000 ∨ a = 10) → σ_5 a = σ a := by intro a ha; exact Eq.trans (b := σ a) (by rw [eσ_5_a, upd_ne (by first | omega | (simp only [vb] at *; omega))]) (hcFR_σ a ha)
    have hvσ_5 : vw 0 σ_5 = μ := by rw [eσ_5_a, vw_out (by omega)]; first | exact hv | assumption
    exact g_iret h hQ dX12_jam_33 (congrArg (fun z => some (Value.int z)) (show (an (fo (rg t (nI 0) (nI 99)) (ps μ i j)) (μ (208 + (8 * toN i + toN j)))) = (-1) by first | exact an_yes (by first | (simp [fo, rg, c7, hp0]; done) | fail) (by rfl) | exact an_no (k := 1) (by first | rfl | (simp [fo, rg, ns, nB, ps, gst, ofS, offB, c7]; done) | (simp [fo, rg, ns, nB, ps, gst, ofS, offB, c7]; omega) | fail) (by first | decide | omega | assumption | exact nb1 (by assumption)) | fail)) (by exact ⟨(by first | exact pk_yes (by first | (simp [fo, rg, c7, hp0]; done) | fail) (by rw [hvσ_5, Nat.add_zero]) | exact pk_no (k := 1) (by first | rfl | (simp [fo, rg, ns, nB, ps, gst, ofS, offB, c7]; done) | (simp [fo, rg, ns, nB, ps, gst, ofS, offB, c7]; omega) | fail) (by first | decide | omega | assumption | exact nb1 (by assumption)) hvσ_5 | fail), (by first | exact tk_eq (k := 1) (by first | rfl | (simp [fo, rg, ns, nB, ps, gst, ofS, offB, c7]; done) | (simp [fo, rg, ns, nB, ps, gst, ofS, offB, c7]; omega) | fail) ht4000_σ_5 | exact tk_eq (k := 1) (by first | (simp [fo, rg, c7, hp0]; done) | fail) ht4000_σ_5 | fail), (by exact hcFR_σ_5)⟩)

set_option maxRecDepth 100000 in
set_option maxHeartbeats 4000000 in
theorem p_jam {l : Launch} {w : Wd} (hW : Wi w) {σ : Mem} (i : Int32) (j : Int32) (t : Int32)  (μ : Nat → Int32) (hv : vw (vb 0) σ = μ) (hI : MI μ) : MC l w qX11_jam 2 [.ref (w.1 12), .int i, .int j, .int t] σ (some (.int (an (fo (rg t (nI 0) (nI 99)) (ps μ i j)) (μ (208 + (8 * toN i + toN j)))))) (fun σ' => (vw (vb 0) σ' = pk0 (fo (rg t (nI 0) (nI 99)) (ps μ i j)) (upd μ (208 + (8 * toN i + toN j)) (nI (toN t))) μ) ∧ (σ' 14000 = (nI (fo (rg t (nI 0) (nI 99)) (ps μ i j)))) ∧ (∀ a, ((a < 10000 ∨ 10464 ≤ a) ∧ a ≠ 14000) → σ' a = σ a)) := by
  refine MC.of hW (by decide +kernel) (Nat.le_of_ble_eq_true rfl) (fun X h hQ hnm => ?_)
  have h : Fx X w cX11_jam 6 RX11 2 := h
  have hQ : Qx X w (some .int) (some (.int (an (fo (rg t (nI 0) (nI 99)) (ps μ i j)) (μ (208 + (8 * toN i + toN j)))))) (fun σ' => (vw (vb 0) σ' = pk0 (fo (rg t (nI 0) (nI 99)) (ps μ i j)) (upd μ (208 + (8 * toN i + toN j)) (nI (toN t))) μ) ∧ (σ' 14000 = (nI (fo (rg t (nI 0) (nI 99)) (ps μ i j)))) ∧ (∀ a, ((a < 10000 ∨ 10464 ≤ a) ∧ a ≠ 14000) → σ' a = σ a)) := hQ
  have hN8 := mi_8 hI
  have hvb0 : vb 0 = 10000 := rfl
  have hcFR_σ : ∀ a, ((a < 10000 ∨ 10464 ≤ a) ∧ a ≠ 14000) → σ a = σ a := fun _ _ => rfl
  show G X w 6 0 [(0, .ref (w.1 12)), (1, .int i), (2, .int j), (3, .int t)] [] σ
  refine g_aload_n h dX11_jam_0 0 rfl ?_
  refine g_iload_n h dX11_jam_1 3 rfl ?_
  refine g_iconst h dX11_jam_2 (by decide) ?_
  refine g_bipush h dX11_jam_3 (by decide) ?_
  refine g_cspi (rest := [.ref (w.1 12)]) h (c_rg hW t (nI 0) (nI 99) ) lX11_rangeStatus mX11_102 (Nat.lt_of_lt_of_le (by decide) (Nat.le_refl _)) (by decide) rfl rfl rfl dX11_jam_5 ?_
  refine g_aload_n h dX11_jam_8 0 rfl ?_
  refine g_iload_n h dX11_jam_9 1 rfl ?_
  refine g_iload_n h dX11_jam_10 2 rfl ?_
  refine g_cvpi (rest := [.int (nI (rg t (nI 0) (nI 99))), .ref (w.1 12)]) h (c_ps hW i j μ (by first | exact hv | assumption | fail)) lX11_pairStatus mX11_209 (Nat.lt_of_lt_of_le (by decide) (Nat.le_refl _)) (by decide) sc_12 rfl rfl rfl rfl dX11_jam_11 ?_
  refine g_cspi (rest := [.ref (w.1 12)]) h (c_fo hW (rg t (nI 0) (nI 99)) (ps μ i j) (by repeat (first | omega | exact rg_lt | exact ns_lt | exact ps_lt | exact gst_lt | exact ofS_lt | exact if_lt (by decide) (by decide) | apply fo_lt)) (by repeat (first | omega | exact rg_lt | exact ns_lt | exact ps_lt | exact gst_lt | exact ofS_lt | exact if_lt (by decide) (by decide) | apply fo_lt))) lX11_firstOf mX11_163 (Nat.lt_of_lt_of_le (by decide) (Nat.le_refl _)) (by decide) rfl rfl rfl dX11_jam_14 ?_
  refine g_cvi (rest := []) h (c_fails hW (fo (rg t (nI 0) (nI 99)) (ps μ i j)) (by repeat (first | omega | exact rg_lt | exact ns_lt | exact ps_lt | exact gst_lt | exact ofS_lt | exact if_lt (by decide) (by decide) | apply fo_lt))) lX11_fails mX11_106 (Nat.lt_of_lt_of_le (by decide) (Nat.le_refl _)) (by decide) sc_12 rfl rfl rfl rfl dX11_jam_17 (fun σ_1 eσ_1 => ?_)
  obtain ⟨eσ_1_a, eσ_1_b⟩ := eσ_1
  have eσ_1_a : σ_1 14000 = (nI (fo (rg t (nI 0) (nI 99)) (ps μ i j))) := eσ_1_a
  have eσ_1_b : ∀ a, (a ≠ 14000) → σ_1 a = σ a := eσ_1_b
  have ht14000_σ_1 : σ_1 14000 = (nI (fo (rg t (nI 0) (nI 99)) (ps μ i j))) := eσ_1_a
  have hcFR_σ_1 : ∀ a, ((a < 10000 ∨ 10464 ≤ a) ∧ a ≠ 14000) → σ_1 a = σ a := by intro a ha; exact Eq.trans (b := σ a) (eσ_1_b a (by first | omega | (simp only [vb] at *; omega))) (hcFR_σ a ha)
  have hvσ_1 : vw (vb 0) σ_1 = μ := by rw [vw_fr (σ := σ) (fun j _ _ => eσ_1_b _ (by first | omega | (simp only [vb] at *; omega)))]; first | exact hv | assumption
  refine g_ifB_eq h dX11_jam_20 (fun c20 => ?_) (fun c20 => ?_)
  ·
    have hS0 := nb0 c20
    obtain ⟨hs1, hs2⟩ := fo_0 hS0
    obtain ⟨ew, hw9⟩ := rg_N (by decide) hs1
    have h0 := ps_0 hs2
    obtain ⟨ei, hi9⟩ := nB_N hI h0.1
    obtain ⟨ej, hj9⟩ := nB_N hI h0.2.1
    rw [ei, ej, ew]
    have htr := tr_at (a := toN j) (b := toN i) (by omega) (by omega)
    show G X w 6 25 [(0, .ref (w.1 12)), (1, .int (nI (toN i))), (2, .int (nI (toN j))), (3, .int (nI (toN t)))] [] σ_1
    refine g_iload_n h dX11_jam_25 2 rfl ?_
    refine g_iload_n h dX11_jam_26 1 rfl ?_
    refine g_cspi (rest := []) h (c_at hW (toN j) (toN i) ) lX5_at mX11_215 (Nat.lt_of_lt_of_le (by decide) (Nat.le_refl _)) (by decide) rfl rfl rfl dX11_jam_27 ?_
    refine g_istore (L' := [(0, .ref (w.1 12)), (1, .int (nI (toN i))), (2, .int (nI (toN j))), (3, .int (nI (toN t))), (4, .int (nI (8 * (toN j) + (toN i))))]) h dX11_jam_30 rfl (by decide) rfl ?_
    refine g_aload_n h dX11_jam_32 0 rfl ?_
    refine g_getr h dX11_jam_33 gX11_23 sc_12 rfl ?_
    refine g_getr h dX11_jam_36 gX11_225 (sM_0 (m := 0) (by decide)) rfl ?_
    refine g_iload h dX11_jam_39 4 rfl ?_
    refine g_iald h dX11_jam_41 (sM_3 (m := 0) (by decide)) (by omega) ?_
    refine g_top (y := μ (208 + tr (8 * (toN j) + (toN i)))) (vw_pic (b := (vb 0)) (k := 208 + tr (8 * (toN j) + (toN i))) (by first | exact hvσ_1 | assumption) (by rw [htr]; omega)) ?_
    refine g_top (y := (μ (208 + (8 * toN i + toN j)))) (by rw [htr]) ?_
    refine g_istore (L' := [(0, .ref (w.1 12)), (1, .int (nI (toN i))), (2, .int (nI (toN j))), (3, .int (nI (toN t))), (4, .int (nI (8 * (toN j) + (toN i)))), (5, .int (μ (208 + (8 * toN i + toN j))))]) h dX11_jam_42 rfl (by decide) rfl ?_
    refine g_aload_n h dX11_jam_44 0 rfl ?_
    refine g_getr h dX11_jam_45 gX11_23 sc_12 rfl ?_
    refine g_getr h dX11_jam_48 gX11_225 (sM_0 (m := 0) (by decide)) rfl ?_
    refine g_iload h dX11_jam_51 4 rfl ?_
    refine g_iload_n h dX11_jam_53 3 rfl ?_
    refine g_iast h dX11_jam_54 (sM_3 (m := 0) (by decide)) (by omega) ?_
    refine g_nm (fun σ_2 eσ_2 => ?_)
    have eσ_2 : σ_2 = upd σ_1 ((vb 0) + (208 + tr (8 * (toN j) + (toN i)))) (nI (toN t)) := eσ_2
    have ht14000_σ_2 : σ_2 14000 = (nI (fo (rg t (nI 0) (nI 99)) (ps μ i j))) := by rw [eσ_2, upd_ne (by first | omega | (simp only [vb] at *; omega))]; first | exact ht14000_σ_1 | assumption
    have hcFR_σ_2 : ∀ a, ((a < 10000 ∨ 10464 ≤ a) ∧ a ≠ 14000) → σ_2 a = σ a := by intro a ha; exact Eq.trans (b := σ_1 a) (by rw [eσ_2, upd_ne (by first | omega | (simp only [vb] at *; omega))]) (hcFR_σ_1 a ha)
    obtain ⟨μ_3, eμ_3⟩ : ∃ μ_3 : Nat → Int32, μ_3 = upd μ (208 + tr (8 * (toN j) + (toN i))) (nI (toN t)) := ⟨_, rfl⟩
    have hvσ_2 : vw (vb 0) σ_2 = μ_3 := by rw [eσ_2, eμ_3, vw_in (by rw [htr]; omega)]; congr 1
    refine g_iload h dX11_jam_55 5 rfl ?_
    exact g_iret h hQ dX11_jam_57 (congrArg (fun z => some (Value.int z)) (show (an (fo (rg t (nI 0) (nI 99)) (ps μ i j)) (μ (208 + (8 * toN i + toN j)))) = (μ (208 + (8 * toN i + toN j))) by first | exact an_yes (by exact hS0) (by rfl) | exact an_no (k := (fo (rg t (nI 0) (nI 99)) (ps μ i j))) (by rfl) (by first | decide | omega | assumption | exact nb1 (by assumption)) | fail)) (by exact ⟨(by first | exact pk_yes (by exact hS0) (by rw [hvσ_2, eμ_3, htr]) | exact pk_no (k := (fo (rg t (nI 0) (nI 99)) (ps μ i j))) (by rfl) (by first | decide | omega | assumption | exact nb1 (by assumption)) hvσ_2 | fail), (by first | exact tk_eq (k := (fo (rg t (nI 0) (nI 99)) (ps μ i j))) (by rfl) ht14000_σ_2 | exact tk_eq (k := (fo (rg t (nI 0) (nI 99)) (ps μ i j))) (by exact hS0) ht14000_σ_2 | fail), (by exact hcFR_σ_2)⟩)
  ·
    refine g_iconstv h dX11_jam_23 (v := (-1)) (by decide) ?_
    exact g_iret h hQ dX11_jam_24 (congrArg (fun z => some (Value.int z)) (show (an (fo (rg t (nI 0) (nI 99)) (ps μ i j)) (μ (208 + (8 * toN i + toN j)))) = (-1) by first | exact an_yes (by exact hS0) (by rfl) | exact an_no (k := (fo (rg t (nI 0) (nI 99)) (ps μ i j))) (by rfl) (by first | decide | omega | assumption | exact nb1 (by assumption)) | fail)) (by exact ⟨(by first | exact pk_yes (by exact hS0) (by rw [hvσ_1, Nat.add_zero, htr]) | exact pk_no (k := (fo (rg t (nI 0) (nI 99)) (ps μ i j))) (by rfl) (by first | decide | omega | assumption | exact nb1 (by assumption)) hvσ_1 | fail), (by first | exact tk_eq (k := (fo (rg t (nI 0) (nI 99)) (ps μ i j))) (by rfl) ht14000_σ_1 | exact tk_eq (k := (fo (rg t (nI 0) (nI 99)) (ps μ i j))) (by exact hS0) ht14000_σ_1 | fail), (by exact hcFR_σ_1)⟩)

set_option maxRecDepth 100000 in
set_option maxHeartbeats 4000000 in
theorem q_ear {l : Launch} {w : Wd} (hW : Wi w) {σ : Mem} (i : Int32) (j : Int32) (on : Bool)  (μ : Nat → Int32) (hv : vw 0 σ = μ) (hI : MI μ) : MC l w qX12_ear 3 [.ref (w.1 0), .int i, .int j, .int (b2i on)] σ (some (.int (b2i (decide (fo (ps μ i j) (if tb (μ (24 + toN j)) (toN i) = on then 6 else 0) = 0))))) (fun σ' => (vw 0 σ' = pk0 (fo (ps μ i j) (if tb (μ (24 + toN j)) (toN i) = on then 6 else 0)) (upd μ (24 + toN j) (wth (μ (24 + toN j)) (toN i) on)) μ) ∧ (σ' 4000 = (nI (fo (ps μ i j) (if tb (μ (24 + toN j)) (toN i) = on then 6 else 0)))) ∧ (∀ a, (464 ≤ a ∧ a ≠ 4000 ∨ a = 10) → σ' a = σ a)) := by
  refine MC.of hW (by decide +kernel) (Nat.le_of_ble_eq_true rfl) (fun X h hQ hnm => ?_)
  have h : Fx X w cX12_ear 5 RX12 3 := h
  have hQ : Qx X w (some .boolean) (some (.int (b2i (decide (fo (ps μ i j) (if tb (μ (24 + toN j)) (toN i) = on then 6 else 0) = 0))))) (fun σ' => (vw 0 σ' = pk0 (fo (ps μ i j) (if tb (μ (24 + toN j)) (toN i) = on then 6 else 0)) (upd μ (24 + toN j) (wth (μ (24 + toN j)) (toN i) on)) μ) ∧ (σ' 4000 = (nI (fo (ps μ i j) (if tb (μ (24 + toN j)) (toN i) = on then 6 else 0)))) ∧ (∀ a, (464 ≤ a ∧ a ≠ 4000 ∨ a = 10) → σ' a = σ a)) := hQ
  have hN8 := mi_8 hI
  have hps := ps_lt (μ := μ) (a := i) (b := j)
  have hcFR_σ : ∀ a, (464 ≤ a ∧ a ≠ 4000 ∨ a = 10) → σ a = σ a := fun _ _ => rfl
  show G X w 5 0 [(0, .ref (w.1 0)), (1, .int i), (2, .int j), (3, .int (b2i on))] [] σ
  refine g_aload_n h dX12_ear_0 0 rfl ?_
  refine g_iload_n h dX12_ear_1 1 rfl ?_
  refine g_iload_n h dX12_ear_2 2 rfl ?_
  refine g_cvpi (rest := []) h (r_ps hW i j μ (by first | exact hv | assumption | fail)) lX12_wrongTwo mX12_290 (Nat.lt_of_lt_of_le (by decide) (Nat.le_refl _)) (by decide) sc_0 rfl rfl rfl rfl dX12_ear_3 ?_
  refine g_istore (L' := [(0, .ref (w.1 0)), (1, .int i), (2, .int j), (3, .int (b2i on)), (4, .int (nI (ps μ i j)))]) h dX12_ear_6 rfl (by decide) rfl ?_
  refine g_iload h dX12_ear_8 4 rfl ?_
  refine g_ifN_ne h dX12_ear_10 (by omega) (fun c10 => ?_) (fun c10 => ?_)
  ·
    refine g_iload h dX12_ear_33 4 rfl ?_
    refine g_ifN_le h dX12_ear_35 (by omega) (fun c35 => ?_) (fun c35 => ?_)
    ·
      exfalso; omega
    ·
      refine g_aload_n h dX12_ear_38 0 rfl ?_
      refine g_iload h dX12_ear_39 4 rfl ?_
      refine g_cvi (rest := []) h (r_isSo hW (nI (ps μ i j)) ) lX12_isSo mX12_351 (Nat.lt_of_lt_of_le (by decide) (Nat.le_refl _)) (by decide) sc_0 rfl rfl rfl rfl dX12_ear_41 (fun σ_1 eσ_1 => ?_)
      have eσ_1_a : σ_1 = upd σ 4000 (nI (ps μ i j)) := eσ_1
      have ht4000_σ_1 : σ_1 4000 = (nI (ps μ i j)) := by rw [eσ_1_a]; exact upd_eq
      have hcFR_σ_1 : ∀ a, (464 ≤ a ∧ a ≠ 4000 ∨ a = 10) → σ_1 a = σ a := by intro a ha; exact Eq.trans (b := σ a) (by rw [eσ_1_a, upd_ne (by first | omega | (simp only [vb] at *; omega))]) (hcFR_σ a ha)
      have hvσ_1 : vw 0 σ_1 = μ := by rw [eσ_1_a, vw_out (by omega)]; first | exact hv | assumption
      exact g_zret h hQ dX12_ear_44 (show narrow .boolean (.int (b2i (decide ((nI (ps μ i j)) = 0)))) = .int (b2i (decide ((nI (ps μ i j)) = 0))) from narrow_b2i _) (congrArg (fun z => some (Value.int (b2i z))) (show (decide (fo (ps μ i j) (if tb (μ (24 + toN j)) (toN i) = on then 6 else 0) = 0)) = (decide ((nI (ps μ i j)) = 0)) by first | exact bo_yes (by first | exact (fo_r hp0).trans (if_neg (ne_of_bb c26)) | fail) (by first | rfl | decide | exact so_no (by omega) (by omega) | fail) | exact bo_no (k := (ps μ i j)) (by first | exact (fo_r hp0).trans (if_pos c26) | exact (fo_r hp0).trans (if_neg (ne_of_bb c26)) | exact fo_l (by omega) | fail) (by first | decide | omega | assumption | exact nb1 (by assumption)) (by first | rfl | decide | exact so_no (by omega) (by omega) | fail) | fail)) (by exact ⟨(by first | exact pk_yes (by first | exact (fo_r hp0).trans (if_neg (ne_of_bb c26)) | fail) (by rw [hvσ_1, Nat.add_zero, nb_eq (ne_of_bb c26)]) | exact pk_no (k := (ps μ i j)) (by first | exact (fo_r hp0).trans (if_pos c26) | exact (fo_r hp0).trans (if_neg (ne_of_bb c26)) | exact fo_l (by omega) | fail) (by first | decide | omega | assumption | exact nb1 (by assumption)) hvσ_1 | fail), (by first | exact tk_eq (k := (ps μ i j)) (by first | exact (fo_r hp0).trans (if_pos c26) | exact (fo_r hp0).trans (if_neg (ne_of_bb c26)) | exact fo_l (by omega) | fail) ht4000_σ_1 | exact tk_eq (k := (ps μ i j)) (by first | exact (fo_r hp0).trans (if_neg (ne_of_bb c26)) | fail) ht4000_σ_1 | fail), (by exact hcFR_σ_1)⟩)
  ·
    have hp0 : ps μ i j = 0 := by omega
    have h0 := ps_0 hp0
    obtain ⟨ei, hi9⟩ := nB_N hI h0.1
    obtain ⟨ej, hj9⟩ := nB_N hI h0.2.1
    rw [hp0]
    rw [ei, ej]
    show G X w 5 13 [(0, .ref (w.1 0)), (1, .int (nI (toN i))), (2, .int (nI (toN j))), (3, .int (b2i on)), (4, .int (nI 0))] [] σ
    refine g_aload_n h dX12_ear_13 0 rfl ?_
    refine g_bipush h dX12_ear_14 (by decide) ?_
    refine g_iload_n h dX12_ear_16 2 rfl ?_
    refine g_iaddN h dX12_ear_17  ?_
    refine g_cvpi (rest := []) h (r_of hW (24 + toN j) μ (by assumption) (by omega)) lX12_of mX12_61 (Nat.lt_of_lt_of_le (by decide) (Nat.le_refl _)) (by decide) sc_0 rfl rfl rfl rfl dX12_ear_18 ?_
    refine g_iload_n h dX12_ear_21 1 rfl ?_
    refine g_cspi (rest := []) h (r_has hW (μ (24 + toN j)) (toN i) (by omega)) lX12_has mX12_65 (Nat.lt_of_lt_of_le (by decide) (Nat.le_refl _)) (by decide) rfl rfl rfl dX12_ear_22 ?_
    refine g_iload_n h dX12_ear_25 3 rfl ?_
    refine g_icmpB_ne (p := (tb (μ (24 + toN j)) (toN i))) (q := on) h dX12_ear_26 (fun c26 => ?_) (fun c26 => ?_)
    ·
      refine g_iload h dX12_ear_33 4 rfl ?_
      refine g_ifN_le h dX12_ear_35 (by decide) (fun c35 => ?_) (fun c35 => absurd c35 (by decide))
      refine g_aload_n h dX12_ear_45 0 rfl ?_
      refine g_bipush h dX12_ear_46 (by decide) ?_
      refine g_iload_n h dX12_ear_48 2 rfl ?_
      refine g_iaddN h dX12_ear_49  ?_
      refine g_aload_n h dX12_ear_50 0 rfl ?_
      refine g_bipush h dX12_ear_51 (by decide) ?_
      refine g_iload_n h dX12_ear_53 2 rfl ?_
      refine g_iaddN h dX12_ear_54  ?_
      refine g_cvpi (rest := [.int (nI (24 + toN j)), .ref (w.1 0)]) h (r_of hW (24 + toN j) μ (by assumption) (by omega)) lX12_of mX12_61 (Nat.lt_of_lt_of_le (by decide) (Nat.le_refl _)) (by decide) sc_0 rfl rfl rfl rfl dX12_ear_55 ?_
      refine g_iconst h dX12_ear_58 (by decide) ?_
      refine g_iload_n h dX12_ear_59 1 rfl ?_
      refine g_ishl h dX12_ear_60  ?_
      refine g_top (y := bt1 (toN i)) rfl ?_
      refine g_ixor h dX12_ear_61  ?_
      refine g_top (y := (wth (μ (24 + toN j)) (toN i) (!tb (μ (24 + toN j)) (toN i)))) (xor_bt (by omega)) ?_
      refine g_cvv (rest := []) h (r_puts hW (24 + toN j) (wth (μ (24 + toN j)) (toN i) (!tb (μ (24 + toN j)) (toN i))) (by omega)) lX12_puts mX12_57 (Nat.lt_of_lt_of_le (by decide) (Nat.le_refl _)) (by decide) sc_0 rfl rfl rfl rfl dX12_ear_62 (fun σ_2 eσ_2 => ?_)
      have eσ_2_a : σ_2 = upd σ (0 + (24 + toN j)) (wth (μ (24 + toN j)) (toN i) (!tb (μ (24 + toN j)) (toN i))) := eσ_2
      have hcFR_σ_2 : ∀ a, (464 ≤ a ∧ a ≠ 4000 ∨ a = 10) → σ_2 a = σ a := by intro a ha; exact Eq.trans (b := σ a) (by rw [eσ_2_a, upd_ne (by first | omega | (simp only [vb] at *; omega))]) (hcFR_σ a ha)
      obtain ⟨μ_3, eμ_3⟩ : ∃ μ_3 : Nat → Int32, μ_3 = upd μ (24 + toN j) (wth (μ (24 + toN j)) (toN i) (!tb (μ (24 + toN j)) (toN i))) := ⟨_, rfl⟩
      have hvσ_2 : vw 0 σ_2 = μ_3 := by rw [eσ_2_a, eμ_3, vw_in (by omega)]; congr 1
      refine g_aload_n h dX12_ear_65 0 rfl ?_
      refine g_iconst h dX12_ear_66 (by decide) ?_
      refine g_cvi (rest := []) h (r_isSo hW (nI 0) ) lX12_isSo mX12_351 (Nat.lt_of_lt_of_le (by decide) (Nat.le_refl _)) (by decide) sc_0 rfl rfl rfl rfl dX12_ear_67 (fun σ_4 eσ_4 => ?_)
      have eσ_4_a : σ_4 = upd σ_2 4000 (nI 0) := eσ_4
      have ht4000_σ_4 : σ_4 4000 = (nI 0) := by rw [eσ_4_a]; exact upd_eq
      have hcFR_σ_4 : ∀ a, (464 ≤ a ∧ a ≠ 4000 ∨ a = 10) → σ_4 a = σ a := by intro a ha; exact Eq.trans (b := σ_2 a) (by rw [eσ_4_a, upd_ne (by first | omega | (simp only [vb] at *; omega))]) (hcFR_σ_2 a ha)
      have hvσ_4 : vw 0 σ_4 = μ_3 := by rw [eσ_4_a, vw_out (by omega)]; first | exact hvσ_2 | assumption
      exact g_zret h hQ dX12_ear_70 (show narrow .boolean (.int (b2i (decide ((nI 0) = 0)))) = .int (b2i (decide ((nI 0) = 0))) from narrow_b2i _) (congrArg (fun z => some (Value.int (b2i z))) (show (decide (fo (ps μ i j) (if tb (μ (24 + toN j)) (toN i) = on then 6 else 0) = 0)) = (decide ((nI 0) = 0)) by first | exact bo_yes (by first | exact (fo_r hp0).trans (if_neg (ne_of_bb c26)) | fail) (by first | rfl | decide | exact so_no (by omega) (by omega) | fail) | exact bo_no (k := 0) (by first | exact (fo_r hp0).trans (if_pos c26) | exact (fo_r hp0).trans (if_neg (ne_of_bb c26)) | exact fo_l (by omega) | fail) (by first | decide | omega | assumption | exact nb1 (by assumption)) (by first | rfl | decide | exact so_no (by omega) (by omega) | fail) | fail)) (by exact ⟨(by first | exact pk_yes (by first | exact (fo_r hp0).trans (if_neg (ne_of_bb c26)) | fail) (by rw [hvσ_4, eμ_3, nb_eq (ne_of_bb c26)]) | exact pk_no (k := 0) (by first | exact (fo_r hp0).trans (if_pos c26) | exact (fo_r hp0).trans (if_neg (ne_of_bb c26)) | exact fo_l (by omega) | fail) (by first | decide | omega | assumption | exact nb1 (by assumption)) hvσ_4 | fail), (by first | exact tk_eq (k := 0) (by first | exact (fo_r hp0).trans (if_pos c26) | exact (fo_r hp0).trans (if_neg (ne_of_bb c26)) | exact fo_l (by omega) | fail) ht4000_σ_4 | exact tk_eq (k := 0) (by first | exact (fo_r hp0).trans (if_neg (ne_of_bb c26)) | fail) ht4000_σ_4 | fail), (by exact hcFR_σ_4)⟩)
    ·
      refine g_bipush h dX12_ear_29 (by decide) ?_
      refine g_istore (L' := [(0, .ref (w.1 0)), (1, .int (nI (toN i))), (2, .int (nI (toN j))), (3, .int (b2i on)), (4, .int (nI 6))]) h dX12_ear_31 rfl (by decide) rfl ?_
      refine g_iload h dX12_ear_33 4 rfl ?_
      refine g_ifN_le h dX12_ear_35 (by decide) (fun c35 => absurd c35 (by decide)) (fun c35 => ?_)
      refine g_aload_n h dX12_ear_38 0 rfl ?_
      refine g_iload h dX12_ear_39 4 rfl ?_
      refine g_cvi (rest := []) h (r_isSo hW (nI 6) ) lX12_isSo mX12_351 (Nat.lt_of_lt_of_le (by decide) (Nat.le_refl _)) (by decide) sc_0 rfl rfl rfl rfl dX12_ear_41 (fun σ_5 eσ_5 => ?_)
      have eσ_5_a : σ_5 = upd σ 4000 (nI 6) := eσ_5
      have ht4000_σ_5 : σ_5 4000 = (nI 6) := by rw [eσ_5_a]; exact upd_eq
      have hcFR_σ_5 : ∀ a, (464 ≤ a ∧ a ≠ 4000 ∨ a = 10) → σ_5 a = σ a := by intro a ha; exact Eq.trans (b := σ a) (by rw [eσ_5_a, upd_ne (by first | omega | (simp only [vb] at *; omega))]) (hcFR_σ a ha)
      have hvσ_5 : vw 0 σ_5 = μ := by rw [eσ_5_a, vw_out (by omega)]; first | exact hv | assumption
      exact g_zret h hQ dX12_ear_44 (show narrow .boolean (.int (b2i (decide ((nI 6) = 0)))) = .int (b2i (decide ((nI 6) = 0))) from narrow_b2i _) (congrArg (fun z => some (Value.int (b2i z))) (show (decide (fo (ps μ i j) (if tb (μ (24 + toN j)) (toN i) = on then 6 else 0) = 0)) = (decide ((nI 6) = 0)) by first | exact bo_yes (by first | exact (fo_r hp0).trans (if_neg (ne_of_bb c26)) | fail) (by first | rfl | decide | exact so_no (by omega) (by omega) | fail) | exact bo_no (k := 6) (by first | exact (fo_r hp0).trans (if_pos c26) | exact (fo_r hp0).trans (if_neg (ne_of_bb c26)) | exact fo_l (by omega) | fail) (by first | decide | omega | assumption | exact nb1 (by assumption)) (by first | rfl | decide | exact so_no (by omega) (by omega) | fail) | fail)) (by exact ⟨(by first | exact pk_yes (by first | exact (fo_r hp0).trans (if_neg (ne_of_bb c26)) | fail) (by rw [hvσ_5, Nat.add_zero, nb_eq (ne_of_bb c26)]) | exact pk_no (k := 6) (by first | exact (fo_r hp0).trans (if_pos c26) | exact (fo_r hp0).trans (if_neg (ne_of_bb c26)) | exact fo_l (by omega) | fail) (by first | decide | omega | assumption | exact nb1 (by assumption)) hvσ_5 | fail), (by first | exact tk_eq (k := 6) (by first | exact (fo_r hp0).trans (if_pos c26) | exact (fo_r hp0).trans (if_neg (ne_of_bb c26)) | exact fo_l (by omega) | fail) ht4000_σ_5 | exact tk_eq (k := 6) (by first | exact (fo_r hp0).trans (if_neg (ne_of_bb c26)) | fail) ht4000_σ_5 | fail), (by exact hcFR_σ_5)⟩)

set_option maxRecDepth 100000 in
set_option maxHeartbeats 4000000 in
theorem p_ear {l : Launch} {w : Wd} (hW : Wi w) {σ : Mem} (i : Int32) (j : Int32) (on : Bool)  (μ : Nat → Int32) (hv : vw (vb 0) σ = μ) (hI : MI μ) : MC l w qX11_ear 2 [.ref (w.1 12), .int i, .int j, .int (b2i on)] σ (some (.int (b2i (decide (fo (ps μ i j) (if tb (μ (24 + toN j)) (toN i) = on then 6 else 0) = 0))))) (fun σ' => (vw (vb 0) σ' = pk0 (fo (ps μ i j) (if tb (μ (24 + toN j)) (toN i) = on then 6 else 0)) (upd μ (24 + toN j) (wth (μ (24 + toN j)) (toN i) on)) μ) ∧ (σ' 14000 = (nI (fo (ps μ i j) (if tb (μ (24 + toN j)) (toN i) = on then 6 else 0)))) ∧ (∀ a, ((a < 10000 ∨ 10464 ≤ a) ∧ a ≠ 14000) → σ' a = σ a)) := by
  refine MC.of hW (by decide +kernel) (Nat.le_of_ble_eq_true rfl) (fun X h hQ hnm => ?_)
  have h : Fx X w cX11_ear 4 RX11 2 := h
  have hQ : Qx X w (some .boolean) (some (.int (b2i (decide (fo (ps μ i j) (if tb (μ (24 + toN j)) (toN i) = on then 6 else 0) = 0))))) (fun σ' => (vw (vb 0) σ' = pk0 (fo (ps μ i j) (if tb (μ (24 + toN j)) (toN i) = on then 6 else 0)) (upd μ (24 + toN j) (wth (μ (24 + toN j)) (toN i) on)) μ) ∧ (σ' 14000 = (nI (fo (ps μ i j) (if tb (μ (24 + toN j)) (toN i) = on then 6 else 0)))) ∧ (∀ a, ((a < 10000 ∨ 10464 ≤ a) ∧ a ≠ 14000) → σ' a = σ a)) := hQ
  have hN8 := mi_8 hI
  have hvb0 : vb 0 = 10000 := rfl
  have hcFR_σ : ∀ a, ((a < 10000 ∨ 10464 ≤ a) ∧ a ≠ 14000) → σ a = σ a := fun _ _ => rfl
  show G X w 4 0 [(0, .ref (w.1 12)), (1, .int i), (2, .int j), (3, .int (b2i on))] [] σ
  refine g_aload_n h dX11_ear_0 0 rfl ?_
  refine g_aload_n h dX11_ear_1 0 rfl ?_
  refine g_iload_n h dX11_ear_2 1 rfl ?_
  refine g_iload_n h dX11_ear_3 2 rfl ?_
  refine g_cvpi (rest := [.ref (w.1 12)]) h (c_ps hW i j μ (by first | exact hv | assumption | fail)) lX11_pairStatus mX11_209 (Nat.lt_of_lt_of_le (by decide) (Nat.le_refl _)) (by decide) sc_12 rfl rfl rfl rfl dX11_ear_4 ?_
  refine g_cvi (rest := []) h (c_fails hW (ps μ i j) (by repeat (first | omega | exact rg_lt | exact ns_lt | exact ps_lt | exact gst_lt | exact ofS_lt | exact if_lt (by decide) (by decide) | apply fo_lt))) lX11_fails mX11_106 (Nat.lt_of_lt_of_le (by decide) (Nat.le_refl _)) (by decide) sc_12 rfl rfl rfl rfl dX11_ear_7 (fun σ_1 eσ_1 => ?_)
  obtain ⟨eσ_1_a, eσ_1_b⟩ := eσ_1
  have eσ_1_a : σ_1 14000 = (nI (ps μ i j)) := eσ_1_a
  have eσ_1_b : ∀ a, (a ≠ 14000) → σ_1 a = σ a := eσ_1_b
  have ht14000_σ_1 : σ_1 14000 = (nI (ps μ i j)) := eσ_1_a
  have hcFR_σ_1 : ∀ a, ((a < 10000 ∨ 10464 ≤ a) ∧ a ≠ 14000) → σ_1 a = σ a := by intro a ha; exact Eq.trans (b := σ a) (eσ_1_b a (by first | omega | (simp only [vb] at *; omega))) (hcFR_σ a ha)
  have hvσ_1 : vw (vb 0) σ_1 = μ := by rw [vw_fr (σ := σ) (fun j _ _ => eσ_1_b _ (by first | omega | (simp only [vb] at *; omega)))]; first | exact hv | assumption
  refine g_ifB_eq h dX11_ear_10 (fun c10 => ?_) (fun c10 => ?_)
  ·
    have hA := nb0 c10
    have h0 := ps_0 hA
    obtain ⟨ei, hi9⟩ := nB_N hI h0.1
    obtain ⟨ej, hj9⟩ := nB_N hI h0.2.1
    rw [ei, ej]
    show G X w 4 15 [(0, .ref (w.1 12)), (1, .int (nI (toN i))), (2, .int (nI (toN j))), (3, .int (b2i on))] [] σ_1
    refine g_aload_n h dX11_ear_15 0 rfl ?_
    refine g_aload_n h dX11_ear_16 0 rfl ?_
    refine g_getr h dX11_ear_17 gX11_23 sc_12 rfl ?_
    refine g_getr h dX11_ear_20 gX11_206 (sM_0 (m := 0) (by decide)) rfl ?_
    refine g_iload_n h dX11_ear_23 2 rfl ?_
    refine g_iald h dX11_ear_24 (sM_2 (m := 0) (by decide)) (by omega) ?_
    refine g_top (y := μ (24 + (toN j))) (vw_pic (b := (vb 0)) (k := 24 + (toN j)) (by first | exact hvσ_1 | assumption) (by omega)) ?_
    refine g_iload_n h dX11_ear_25 1 rfl ?_
    refine g_cspi (rest := [.ref (w.1 12)]) h (c_has hW (μ (24 + (toN j))) (toN i) (by omega)) lX5_has mX11_218 (Nat.lt_of_lt_of_le (by decide) (Nat.le_refl _)) (by decide) rfl rfl rfl dX11_ear_26 ?_
    refine g_iload_n h dX11_ear_29 3 rfl ?_
    refine g_icmpB_ne (p := (tb (μ (24 + (toN j))) (toN i))) (q := on) h dX11_ear_30 (fun c30 => ?_) (fun c30 => ?_)
    ·
      refine g_iconst h dX11_ear_38 (by decide) ?_
      refine g_cvi (rest := []) h (c_fails hW 0 (by repeat (first | omega | exact rg_lt | exact ns_lt | exact ps_lt | exact gst_lt | exact ofS_lt | exact if_lt (by decide) (by decide) | apply fo_lt))) lX11_fails mX11_106 (Nat.lt_of_lt_of_le (by decide) (Nat.le_refl _)) (by decide) sc_12 rfl rfl rfl rfl dX11_ear_39 (fun σ_2 eσ_2 => ?_)
      obtain ⟨eσ_2_a, eσ_2_b⟩ := eσ_2
      have eσ_2_a : σ_2 14000 = (nI 0) := eσ_2_a
      have eσ_2_b : ∀ a, (a ≠ 14000) → σ_2 a = σ_1 a := eσ_2_b
      have ht14000_σ_2 : σ_2 14000 = (nI 0) := eσ_2_a
      have hcFR_σ_2 : ∀ a, ((a < 10000 ∨ 10464 ≤ a) ∧ a ≠ 14000) → σ_2 a = σ a := by intro a ha; exact Eq.trans (b := σ_1 a) (eσ_2_b a (by first | omega | (simp only [vb] at *; omega))) (hcFR_σ_1 a ha)
      have hvσ_2 : vw (vb 0) σ_2 = μ := by rw [vw_fr (σ := σ_1) (fun j _ _ => eσ_2_b _ (by first | omega | (simp only [vb] at *; omega)))]; first | exact hvσ_1 | assumption
      refine g_top (y := nI 0) rfl ?_
      refine g_ifN_eq h dX11_ear_42 (by decide) (fun c42 => ?_) (fun c42 => absurd c42 (by decide))
      refine g_aload_n h dX11_ear_47 0 rfl ?_
      refine g_getr h dX11_ear_48 gX11_23 sc_12 rfl ?_
      refine g_getr h dX11_ear_51 gX11_206 (sM_0 (m := 0) (by decide)) rfl ?_
      refine g_iload_n h dX11_ear_54 2 rfl ?_
      refine g_aload_n h dX11_ear_55 0 rfl ?_
      refine g_getr h dX11_ear_56 gX11_23 sc_12 rfl ?_
      refine g_getr h dX11_ear_59 gX11_206 (sM_0 (m := 0) (by decide)) rfl ?_
      refine g_iload_n h dX11_ear_62 2 rfl ?_
      refine g_iald h dX11_ear_63 (sM_2 (m := 0) (by decide)) (by omega) ?_
      refine g_top (y := μ (24 + (toN j))) (vw_pic (b := (vb 0)) (k := 24 + (toN j)) (by first | exact hvσ_2 | assumption) (by omega)) ?_
      refine g_iload_n h dX11_ear_64 1 rfl ?_
      refine g_iload_n h dX11_ear_65 3 rfl ?_
      refine g_cspi (rest := [.int (nI (toN j)), .ref (w.1 (mc 0 2))]) h (c_with hW (μ (24 + (toN j))) (toN i) on ) lX5_with mX11_279 (Nat.lt_of_lt_of_le (by decide) (Nat.le_refl _)) (by decide) rfl rfl rfl dX11_ear_66 ?_
      refine g_iast h dX11_ear_69 (sM_2 (m := 0) (by decide)) (by omega) ?_
      refine g_nm (fun σ_3 eσ_3 => ?_)
      have eσ_3 : σ_3 = upd σ_2 ((vb 0) + (24 + (toN j))) (wth (μ (24 + (toN j))) (toN i) on) := eσ_3
      have ht14000_σ_3 : σ_3 14000 = (nI 0) := by rw [eσ_3, upd_ne (by first | omega | (simp only [vb] at *; omega))]; first | exact ht14000_σ_2 | assumption
      have hcFR_σ_3 : ∀ a, ((a < 10000 ∨ 10464 ≤ a) ∧ a ≠ 14000) → σ_3 a = σ a := by intro a ha; exact Eq.trans (b := σ_2 a) (by rw [eσ_3, upd_ne (by first | omega | (simp only [vb] at *; omega))]) (hcFR_σ_2 a ha)
      obtain ⟨μ_4, eμ_4⟩ : ∃ μ_4 : Nat → Int32, μ_4 = upd μ (24 + (toN j)) (wth (μ (24 + (toN j))) (toN i) on) := ⟨_, rfl⟩
      have hvσ_3 : vw (vb 0) σ_3 = μ_4 := by rw [eσ_3, eμ_4, vw_in (by omega)]; congr 1
      refine g_iconst h dX11_ear_70 (by decide) ?_
      exact g_zret h hQ dX11_ear_71 (show narrow .boolean (.int (b2i true)) = .int (b2i true) from narrow_b2i _) (congrArg (fun z => some (Value.int (b2i z))) (show (decide (fo (ps μ i j) (if tb (μ (24 + toN j)) (toN i) = on then 6 else 0) = 0)) = true by first | exact bo_yes (by first | exact (fo_r hA).trans (if_neg (ne_of_bb c30)) | fail) (by rfl) | exact bo_no (k := 0) (by first | exact (fo_r hA).trans (if_pos c30) | exact (fo_r hA).trans (if_neg (ne_of_bb c30)) | exact fo_l (nb1 c10) | fail) (by first | decide | omega | assumption | exact nb1 (by assumption)) (by rfl) | fail)) (by exact ⟨(by first | exact pk_yes (by first | exact (fo_r hA).trans (if_neg (ne_of_bb c30)) | fail) (by rw [hvσ_3, eμ_4]) | exact pk_no (k := 0) (by first | exact (fo_r hA).trans (if_pos c30) | exact (fo_r hA).trans (if_neg (ne_of_bb c30)) | exact fo_l (nb1 c10) | fail) (by first | decide | omega | assumption | exact nb1 (by assumption)) hvσ_3 | fail), (by first | exact tk_eq (k := 0) (by first | exact (fo_r hA).trans (if_pos c30) | exact (fo_r hA).trans (if_neg (ne_of_bb c30)) | exact fo_l (nb1 c10) | fail) ht14000_σ_3 | exact tk_eq (k := 0) (by first | exact (fo_r hA).trans (if_neg (ne_of_bb c30)) | fail) ht14000_σ_3 | fail), (by exact hcFR_σ_3)⟩)
    ·
      refine g_bipush h dX11_ear_33 (by decide) ?_
      refine g_goto h dX11_ear_35 ?_
      refine g_cvi (rest := []) h (c_fails hW 6 (by repeat (first | omega | exact rg_lt | exact ns_lt | exact ps_lt | exact gst_lt | exact ofS_lt | exact if_lt (by decide) (by decide) | apply fo_lt))) lX11_fails mX11_106 (Nat.lt_of_lt_of_le (by decide) (Nat.le_refl _)) (by decide) sc_12 rfl rfl rfl rfl dX11_ear_39 (fun σ_5 eσ_5 => ?_)
      obtain ⟨eσ_5_a, eσ_5_b⟩ := eσ_5
      have eσ_5_a : σ_5 14000 = (nI 6) := eσ_5_a
      have eσ_5_b : ∀ a, (a ≠ 14000) → σ_5 a = σ_1 a := eσ_5_b
      have ht14000_σ_5 : σ_5 14000 = (nI 6) := eσ_5_a
      have hcFR_σ_5 : ∀ a, ((a < 10000 ∨ 10464 ≤ a) ∧ a ≠ 14000) → σ_5 a = σ a := by intro a ha; exact Eq.trans (b := σ_1 a) (eσ_5_b a (by first | omega | (simp only [vb] at *; omega))) (hcFR_σ_1 a ha)
      have hvσ_5 : vw (vb 0) σ_5 = μ := by rw [vw_fr (σ := σ_1) (fun j _ _ => eσ_5_b _ (by first | omega | (simp only [vb] at *; omega)))]; first | exact hvσ_1 | assumption
      refine g_top (y := nI 1) rfl ?_
      refine g_ifN_eq h dX11_ear_42 (by decide) (fun c42 => absurd c42 (by decide)) (fun c42 => ?_)
      refine g_iconst h dX11_ear_45 (by decide) ?_
      exact g_zret h hQ dX11_ear_46 (show narrow .boolean (.int (b2i false)) = .int (b2i false) from narrow_b2i _) (congrArg (fun z => some (Value.int (b2i z))) (show (decide (fo (ps μ i j) (if tb (μ (24 + toN j)) (toN i) = on then 6 else 0) = 0)) = false by first | exact bo_yes (by first | exact (fo_r hA).trans (if_neg (ne_of_bb c30)) | fail) (by rfl) | exact bo_no (k := 6) (by first | exact (fo_r hA).trans (if_pos c30) | exact (fo_r hA).trans (if_neg (ne_of_bb c30)) | exact fo_l (nb1 c10) | fail) (by first | decide | omega | assumption | exact nb1 (by assumption)) (by rfl) | fail)) (by exact ⟨(by first | exact pk_yes (by first | exact (fo_r hA).trans (if_neg (ne_of_bb c30)) | fail) (by rw [hvσ_5, Nat.add_zero]) | exact pk_no (k := 6) (by first | exact (fo_r hA).trans (if_pos c30) | exact (fo_r hA).trans (if_neg (ne_of_bb c30)) | exact fo_l (nb1 c10) | fail) (by first | decide | omega | assumption | exact nb1 (by assumption)) hvσ_5 | fail), (by first | exact tk_eq (k := 6) (by first | exact (fo_r hA).trans (if_pos c30) | exact (fo_r hA).trans (if_neg (ne_of_bb c30)) | exact fo_l (nb1 c10) | fail) ht14000_σ_5 | exact tk_eq (k := 6) (by first | exact (fo_r hA).trans (if_neg (ne_of_bb c30)) | fail) ht14000_σ_5 | fail), (by exact hcFR_σ_5)⟩)
  ·
    refine g_iconst h dX11_ear_13 (by decide) ?_
    exact g_zret h hQ dX11_ear_14 (show narrow .boolean (.int (b2i false)) = .int (b2i false) from narrow_b2i _) (congrArg (fun z => some (Value.int (b2i z))) (show (decide (fo (ps μ i j) (if tb (μ (24 + toN j)) (toN i) = on then 6 else 0) = 0)) = false by first | exact bo_yes (by first | exact (fo_r hA).trans (if_neg (ne_of_bb c30)) | fail) (by rfl) | exact bo_no (k := (ps μ i j)) (by first | exact (fo_r hA).trans (if_pos c30) | exact (fo_r hA).trans (if_neg (ne_of_bb c30)) | exact fo_l (nb1 c10) | fail) (by first | decide | omega | assumption | exact nb1 (by assumption)) (by rfl) | fail)) (by exact ⟨(by first | exact pk_yes (by first | exact (fo_r hA).trans (if_neg (ne_of_bb c30)) | fail) (by rw [hvσ_1, Nat.add_zero]) | exact pk_no (k := (ps μ i j)) (by first | exact (fo_r hA).trans (if_pos c30) | exact (fo_r hA).trans (if_neg (ne_of_bb c30)) | exact fo_l (nb1 c10) | fail) (by first | decide | omega | assumption | exact nb1 (by assumption)) hvσ_1 | fail), (by first | exact tk_eq (k := (ps μ i j)) (by first | exact (fo_r hA).trans (if_pos c30) | exact (fo_r hA).trans (if_neg (ne_of_bb c30)) | exact fo_l (nb1 c10) | fail) ht14000_σ_1 | exact tk_eq (k := (ps μ i j)) (by first | exact (fo_r hA).trans (if_neg (ne_of_bb c30)) | fail) ht14000_σ_1 | fail), (by exact hcFR_σ_1)⟩)

set_option maxRecDepth 100000 in
set_option maxHeartbeats 4000000 in
theorem c_isOnI {l : Launch} {w : Wd} (hW : Wi w) {σ : Mem} (k : Int32) (m : Nat) (μ : Nat → Int32) (hm : m < 6) (hv : vw (vb m) σ = μ) (hI : MI μ) : MC l w qX5_isOn 1 [.ref (w.1 (mc m 0)), .int k] σ (some (.int (b2i (nB μ k && tb (μ 1) (toN k))))) (fun σ' => σ' = σ) := by
  refine MC.of hW (by decide +kernel) (Nat.le_of_ble_eq_true rfl) (fun X h hQ hnm => ?_)
  have h : Fx X w cX5_isOn 2 RX5 1 := h
  have hQ : Qx X w (some .boolean) (some (.int (b2i (nB μ k && tb (μ 1) (toN k))))) (fun σ' => σ' = σ) := hQ
  have hN8 := mi_8 hI
  show G X w 2 0 [(0, .ref (w.1 (mc m 0))), (1, .int k)] [] σ
  refine g_aload_n h dX5_isOn_0 0 rfl ?_
  refine g_iload_n h dX5_isOn_1 1 rfl ?_
  refine g_cvpi (rest := []) h (c_isNode hW k m μ (by first | omega | decide | fail) (by first | exact hv | assumption | fail)) lX5_isNode mX5_81 (Nat.lt_of_lt_of_le (by decide) (Nat.le_refl _)) (by decide) (sM_0 (m := m) (by omega)) rfl rfl rfl rfl dX5_isOn_2 ?_
  refine g_ifB_eq h dX5_isOn_5 (fun c5 => ?_) (fun c5 => ?_)
  ·
    refine g_iconst h dX5_isOn_23 (by decide) ?_
    exact g_zret h hQ dX5_isOn_24 (show narrow .boolean (.int (b2i false)) = .int (b2i false) from narrow_b2i _) (congrArg (fun z => some (Value.int (b2i z))) (show (nB μ k && tb (μ 1) (toN k)) = false by first | (simp [nB, c5]; done) | fail | fail)) rfl
  ·
    obtain ⟨ek, hk9⟩ := nB_N hI (show nB μ k = true from c5)
    rw [ek]
    show G X w 2 8 [(0, .ref (w.1 (mc m 0))), (1, .int (nI (toN k)))] [] σ
    refine g_aload_n h dX5_isOn_8 0 rfl ?_
    refine g_geti h dX5_isOn_9 gX5_42 (sM_0 (m := m) (by omega)) rfl ?_
    refine g_top (y := μ 1) (vw_pic (b := (vb m)) (k := 1) (by first | exact hv | assumption) (by omega)) ?_
    refine g_iload_n h dX5_isOn_12 1 rfl ?_
    refine g_cspi (rest := []) h (c_has hW (μ 1) (toN k) (by omega)) lX5_has mX5_85 (Nat.lt_of_lt_of_le (by decide) (Nat.le_refl _)) (by decide) rfl rfl rfl dX5_isOn_13 ?_
    refine g_ifB_eq h dX5_isOn_16 (fun c16 => ?_) (fun c16 => ?_)
    ·
      refine g_iconst h dX5_isOn_23 (by decide) ?_
      exact g_zret h hQ dX5_isOn_24 (show narrow .boolean (.int (b2i false)) = .int (b2i false) from narrow_b2i _) (congrArg (fun z => some (Value.int (b2i z))) (show (nB μ k && tb (μ 1) (toN k)) = false by first | (simp [nB, c5, c16]; done) | fail | fail)) rfl
    ·
      refine g_iconst h dX5_isOn_19 (by decide) ?_
      refine g_goto h dX5_isOn_20 ?_
      exact g_zret h hQ dX5_isOn_24 (show narrow .boolean (.int (b2i true)) = .int (b2i true) from narrow_b2i _) (congrArg (fun z => some (Value.int (b2i z))) (show (nB μ k && tb (μ 1) (toN k)) = true by first | (simp [nB, c5, c16]; done) | fail | fail)) rfl

set_option maxRecDepth 100000 in
set_option maxHeartbeats 4000000 in
theorem q_turn {l : Launch} {w : Wd} (hW : Wi w) {σ : Mem} (i : Int32) (on : Bool)  (μ : Nat → Int32) (hv : vw 0 σ = μ) (hI : MI μ) : MC l w qX12_turn 2 [.ref (w.1 0), .int i, .int (b2i on)] σ (some (.int (b2i (decide (fo (ns μ i) (if (nB μ i && tb (μ 1) (toN i)) = on then 6 else 0) = 0))))) (fun σ' => (vw 0 σ' = pk0 (fo (ns μ i) (if (nB μ i && tb (μ 1) (toN i)) = on then 6 else 0)) (upd μ 1 (wth (μ 1) (toN i) on)) μ) ∧ (σ' 4000 = (nI (fo (ns μ i) (if (nB μ i && tb (μ 1) (toN i)) = on then 6 else 0)))) ∧ (∀ a, (464 ≤ a ∧ a ≠ 4000 ∨ a = 10) → σ' a = σ a)) := by
  refine MC.of hW (by decide +kernel) (Nat.le_of_ble_eq_true rfl) (fun X h hQ hnm => ?_)
  have h : Fx X w cX12_turn 3 RX12 2 := h
  have hQ : Qx X w (some .boolean) (some (.int (b2i (decide (fo (ns μ i) (if (nB μ i && tb (μ 1) (toN i)) = on then 6 else 0) = 0))))) (fun σ' => (vw 0 σ' = pk0 (fo (ns μ i) (if (nB μ i && tb (μ 1) (toN i)) = on then 6 else 0)) (upd μ 1 (wth (μ 1) (toN i) on)) μ) ∧ (σ' 4000 = (nI (fo (ns μ i) (if (nB μ i && tb (μ 1) (toN i)) = on then 6 else 0)))) ∧ (∀ a, (464 ≤ a ∧ a ≠ 4000 ∨ a = 10) → σ' a = σ a)) := hQ
  have hN8 := mi_8 hI
  have hcFR_σ : ∀ a, (464 ≤ a ∧ a ≠ 4000 ∨ a = 10) → σ a = σ a := fun _ _ => rfl
  show G X w 3 0 [(0, .ref (w.1 0)), (1, .int i), (2, .int (b2i on))] [] σ
  refine g_aload_n h dX12_turn_0 0 rfl ?_
  refine g_iload_n h dX12_turn_1 1 rfl ?_
  refine g_cvpi (rest := []) h (r_isNode hW i μ (by first | exact hv | assumption | fail)) lX12_isNode mX12_287 (Nat.lt_of_lt_of_le (by decide) (Nat.le_refl _)) (by decide) sc_0 rfl rfl rfl rfl dX12_turn_2 ?_
  refine g_ifB_ne h dX12_turn_5 (fun c5 => ?_) (fun c5 => ?_)
  ·
    have hnB : nB μ i = true := c5
    have hns : ns μ i = 0 := by unfold ns; rw [if_pos hnB]
    have hnb : (nB μ i && tb (μ 1) (toN i)) = tb (μ 1) (toN i) := by rw [hnB]; rfl
    obtain ⟨ei, hi9⟩ := nB_N hI hnB
    rw [ei]
    show G X w 3 14 [(0, .ref (w.1 0)), (1, .int (nI (toN i))), (2, .int (b2i on))] [] σ
    refine g_aload_n h dX12_turn_14 0 rfl ?_
    refine g_iload_n h dX12_turn_15 1 rfl ?_
    refine g_cvpi (rest := []) h (r_isOn hW (toN i) μ (by assumption) (by omega)) lX12_isOn mX12_114 (Nat.lt_of_lt_of_le (by decide) (Nat.le_refl _)) (by decide) sc_0 rfl rfl rfl rfl dX12_turn_16 ?_
    refine g_iload_n h dX12_turn_19 2 rfl ?_
    refine g_icmpB_ne (p := (tb (μ 1) (toN i))) (q := on) h dX12_turn_20 (fun c20 => ?_) (fun c20 => ?_)
    ·
      refine g_aload_n h dX12_turn_30 0 rfl ?_
      refine g_iconst h dX12_turn_31 (by decide) ?_
      refine g_aload_n h dX12_turn_32 0 rfl ?_
      refine g_iconst h dX12_turn_33 (by decide) ?_
      refine g_cvpi (rest := [.int (nI 1), .ref (w.1 0)]) h (r_of hW 1 μ (by assumption) (by omega)) lX12_of mX12_61 (Nat.lt_of_lt_of_le (by decide) (Nat.le_refl _)) (by decide) sc_0 rfl rfl rfl rfl dX12_turn_34 ?_
      refine g_iconst h dX12_turn_37 (by decide) ?_
      refine g_iload_n h dX12_turn_38 1 rfl ?_
      refine g_ishl h dX12_turn_39  ?_
      refine g_top (y := bt1 (toN i)) rfl ?_
      refine g_ixor h dX12_turn_40  ?_
      refine g_top (y := (wth (μ 1) (toN i) (!tb (μ 1) (toN i)))) (xor_bt (by omega)) ?_
      refine g_cvv (rest := []) h (r_puts hW 1 (wth (μ 1) (toN i) (!tb (μ 1) (toN i))) (by omega)) lX12_puts mX12_57 (Nat.lt_of_lt_of_le (by decide) (Nat.le_refl _)) (by decide) sc_0 rfl rfl rfl rfl dX12_turn_41 (fun σ_1 eσ_1 => ?_)
      have eσ_1_a : σ_1 = upd σ (0 + 1) (wth (μ 1) (toN i) (!tb (μ 1) (toN i))) := eσ_1
      have hcFR_σ_1 : ∀ a, (464 ≤ a ∧ a ≠ 4000 ∨ a = 10) → σ_1 a = σ a := by intro a ha; exact Eq.trans (b := σ a) (by rw [eσ_1_a, upd_ne (by first | omega | (simp only [vb] at *; omega))]) (hcFR_σ a ha)
      obtain ⟨μ_2, eμ_2⟩ : ∃ μ_2 : Nat → Int32, μ_2 = upd μ 1 (wth (μ 1) (toN i) (!tb (μ 1) (toN i))) := ⟨_, rfl⟩
      have hvσ_1 : vw 0 σ_1 = μ_2 := by rw [eσ_1_a, eμ_2, vw_in (by omega)]; congr 1
      refine g_aload_n h dX12_turn_44 0 rfl ?_
      refine g_iconst h dX12_turn_45 (by decide) ?_
      refine g_cvi (rest := []) h (r_isSo hW (nI 0) ) lX12_isSo mX12_351 (Nat.lt_of_lt_of_le (by decide) (Nat.le_refl _)) (by decide) sc_0 rfl rfl rfl rfl dX12_turn_46 (fun σ_3 eσ_3 => ?_)
      have eσ_3_a : σ_3 = upd σ_1 4000 (nI 0) := eσ_3
      have ht4000_σ_3 : σ_3 4000 = (nI 0) := by rw [eσ_3_a]; exact upd_eq
      have hcFR_σ_3 : ∀ a, (464 ≤ a ∧ a ≠ 4000 ∨ a = 10) → σ_3 a = σ a := by intro a ha; exact Eq.trans (b := σ_1 a) (by rw [eσ_3_a, upd_ne (by first | omega | (simp only [vb] at *; omega))]) (hcFR_σ_1 a ha)
      have hvσ_3 : vw 0 σ_3 = μ_2 := by rw [eσ_3_a, vw_out (by omega)]; first | exact hvσ_1 | assumption
      exact g_zret h hQ dX12_turn_49 (show narrow .boolean (.int (b2i (decide ((nI 0) = 0)))) = .int (b2i (decide ((nI 0) = 0))) from narrow_b2i _) (congrArg (fun z => some (Value.int (b2i z))) (show (decide (fo (ns μ i) (if (nB μ i && tb (μ 1) (toN i)) = on then 6 else 0) = 0)) = (decide ((nI 0) = 0)) by first | exact bo_yes (by first | exact (fo_r hns).trans (if_neg (by rw [hnb]; exact ne_of_bb c20)) | fail) (by first | rfl | decide | fail) | exact bo_no (k := 0) (by first | exact (fo_r hns).trans (if_pos (by rw [hnb]; exact c20)) | exact (fo_r hns).trans (if_neg (by rw [hnb]; exact ne_of_bb c20)) | exact fo_l (by rw [hn2]; decide) | (rw [fo_l (by rw [hn2]; decide), hn2]; done) | fail) (by first | decide | omega | assumption | exact nb1 (by assumption)) (by first | rfl | decide | fail) | fail)) (by exact ⟨(by first | exact pk_yes (by first | exact (fo_r hns).trans (if_neg (by rw [hnb]; exact ne_of_bb c20)) | fail) (by rw [hvσ_3, eμ_2, nb_eq (ne_of_bb c20)]) | exact pk_no (k := 0) (by first | exact (fo_r hns).trans (if_pos (by rw [hnb]; exact c20)) | exact (fo_r hns).trans (if_neg (by rw [hnb]; exact ne_of_bb c20)) | exact fo_l (by rw [hn2]; decide) | (rw [fo_l (by rw [hn2]; decide), hn2]; done) | fail) (by first | decide | omega | assumption | exact nb1 (by assumption)) hvσ_3 | fail), (by first | exact tk_eq (k := 0) (by first | exact (fo_r hns).trans (if_pos (by rw [hnb]; exact c20)) | exact (fo_r hns).trans (if_neg (by rw [hnb]; exact ne_of_bb c20)) | exact fo_l (by rw [hn2]; decide) | (rw [fo_l (by rw [hn2]; decide), hn2]; done) | fail) ht4000_σ_3 | exact tk_eq (k := 0) (by first | exact (fo_r hns).trans (if_neg (by rw [hnb]; exact ne_of_bb c20)) | fail) ht4000_σ_3 | fail), (by exact hcFR_σ_3)⟩)
    ·
      refine g_aload_n h dX12_turn_23 0 rfl ?_
      refine g_bipush h dX12_turn_24 (by decide) ?_
      refine g_cvi (rest := []) h (r_isSo hW (nI 6) ) lX12_isSo mX12_351 (Nat.lt_of_lt_of_le (by decide) (Nat.le_refl _)) (by decide) sc_0 rfl rfl rfl rfl dX12_turn_26 (fun σ_4 eσ_4 => ?_)
      have eσ_4_a : σ_4 = upd σ 4000 (nI 6) := eσ_4
      have ht4000_σ_4 : σ_4 4000 = (nI 6) := by rw [eσ_4_a]; exact upd_eq
      have hcFR_σ_4 : ∀ a, (464 ≤ a ∧ a ≠ 4000 ∨ a = 10) → σ_4 a = σ a := by intro a ha; exact Eq.trans (b := σ a) (by rw [eσ_4_a, upd_ne (by first | omega | (simp only [vb] at *; omega))]) (hcFR_σ a ha)
      have hvσ_4 : vw 0 σ_4 = μ := by rw [eσ_4_a, vw_out (by omega)]; first | exact hv | assumption
      exact g_zret h hQ dX12_turn_29 (show narrow .boolean (.int (b2i (decide ((nI 6) = 0)))) = .int (b2i (decide ((nI 6) = 0))) from narrow_b2i _) (congrArg (fun z => some (Value.int (b2i z))) (show (decide (fo (ns μ i) (if (nB μ i && tb (μ 1) (toN i)) = on then 6 else 0) = 0)) = (decide ((nI 6) = 0)) by first | exact bo_yes (by first | exact (fo_r hns).trans (if_neg (by rw [hnb]; exact ne_of_bb c20)) | fail) (by first | rfl | decide | fail) | exact bo_no (k := 6) (by first | exact (fo_r hns).trans (if_pos (by rw [hnb]; exact c20)) | exact (fo_r hns).trans (if_neg (by rw [hnb]; exact ne_of_bb c20)) | exact fo_l (by rw [hn2]; decide) | (rw [fo_l (by rw [hn2]; decide), hn2]; done) | fail) (by first | decide | omega | assumption | exact nb1 (by assumption)) (by first | rfl | decide | fail) | fail)) (by exact ⟨(by first | exact pk_yes (by first | exact (fo_r hns).trans (if_neg (by rw [hnb]; exact ne_of_bb c20)) | fail) (by rw [hvσ_4, Nat.add_zero, nb_eq (ne_of_bb c20)]) | exact pk_no (k := 6) (by first | exact (fo_r hns).trans (if_pos (by rw [hnb]; exact c20)) | exact (fo_r hns).trans (if_neg (by rw [hnb]; exact ne_of_bb c20)) | exact fo_l (by rw [hn2]; decide) | (rw [fo_l (by rw [hn2]; decide), hn2]; done) | fail) (by first | decide | omega | assumption | exact nb1 (by assumption)) hvσ_4 | fail), (by first | exact tk_eq (k := 6) (by first | exact (fo_r hns).trans (if_pos (by rw [hnb]; exact c20)) | exact (fo_r hns).trans (if_neg (by rw [hnb]; exact ne_of_bb c20)) | exact fo_l (by rw [hn2]; decide) | (rw [fo_l (by rw [hn2]; decide), hn2]; done) | fail) ht4000_σ_4 | exact tk_eq (k := 6) (by first | exact (fo_r hns).trans (if_neg (by rw [hnb]; exact ne_of_bb c20)) | fail) ht4000_σ_4 | fail), (by exact hcFR_σ_4)⟩)
  ·
    have hn2 : ns μ i = 2 := by unfold ns; rw [if_neg (by intro q9; rw [show nB μ i = false from c5] at q9; cases q9)]
    refine g_aload_n h dX12_turn_8 0 rfl ?_
    refine g_iconst h dX12_turn_9 (by decide) ?_
    refine g_cvi (rest := []) h (r_isSo hW (nI 2) ) lX12_isSo mX12_351 (Nat.lt_of_lt_of_le (by decide) (Nat.le_refl _)) (by decide) sc_0 rfl rfl rfl rfl dX12_turn_10 (fun σ_5 eσ_5 => ?_)
    have eσ_5_a : σ_5 = upd σ 4000 (nI 2) := eσ_5
    have ht4000_σ_5 : σ_5 4000 = (nI 2) := by rw [eσ_5_a]; exact upd_eq
    have hcFR_σ_5 : ∀ a, (464 ≤ a ∧ a ≠ 4000 ∨ a = 10) → σ_5 a = σ a := by intro a ha; exact Eq.trans (b := σ a) (by rw [eσ_5_a, upd_ne (by first | omega | (simp only [vb] at *; omega))]) (hcFR_σ a ha)
    have hvσ_5 : vw 0 σ_5 = μ := by rw [eσ_5_a, vw_out (by omega)]; first | exact hv | assumption
    exact g_zret h hQ dX12_turn_13 (show narrow .boolean (.int (b2i (decide ((nI 2) = 0)))) = .int (b2i (decide ((nI 2) = 0))) from narrow_b2i _) (congrArg (fun z => some (Value.int (b2i z))) (show (decide (fo (ns μ i) (if (nB μ i && tb (μ 1) (toN i)) = on then 6 else 0) = 0)) = (decide ((nI 2) = 0)) by first | exact bo_yes (by first | exact (fo_r hns).trans (if_neg (by rw [hnb]; exact ne_of_bb c20)) | fail) (by first | rfl | decide | fail) | exact bo_no (k := 2) (by first | exact (fo_r hns).trans (if_pos (by rw [hnb]; exact c20)) | exact (fo_r hns).trans (if_neg (by rw [hnb]; exact ne_of_bb c20)) | exact fo_l (by rw [hn2]; decide) | (rw [fo_l (by rw [hn2]; decide), hn2]; done) | fail) (by first | decide | omega | assumption | exact nb1 (by assumption)) (by first | rfl | decide | fail) | fail)) (by exact ⟨(by first | exact pk_yes (by first | exact (fo_r hns).trans (if_neg (by rw [hnb]; exact ne_of_bb c20)) | fail) (by rw [hvσ_5, Nat.add_zero, nb_eq (ne_of_bb c20)]) | exact pk_no (k := 2) (by first | exact (fo_r hns).trans (if_pos (by rw [hnb]; exact c20)) | exact (fo_r hns).trans (if_neg (by rw [hnb]; exact ne_of_bb c20)) | exact fo_l (by rw [hn2]; decide) | (rw [fo_l (by rw [hn2]; decide), hn2]; done) | fail) (by first | decide | omega | assumption | exact nb1 (by assumption)) hvσ_5 | fail), (by first | exact tk_eq (k := 2) (by first | exact (fo_r hns).trans (if_pos (by rw [hnb]; exact c20)) | exact (fo_r hns).trans (if_neg (by rw [hnb]; exact ne_of_bb c20)) | exact fo_l (by rw [hn2]; decide) | (rw [fo_l (by rw [hn2]; decide), hn2]; done) | fail) ht4000_σ_5 | exact tk_eq (k := 2) (by first | exact (fo_r hns).trans (if_neg (by rw [hnb]; exact ne_of_bb c20)) | fail) ht4000_σ_5 | fail), (by exact hcFR_σ_5)⟩)

set_option maxRecDepth 100000 in
set_option maxHeartbeats 4000000 in
theorem p_turn {l : Launch} {w : Wd} (hW : Wi w) {σ : Mem} (i : Int32) (on : Bool)  (μ : Nat → Int32) (hv : vw (vb 0) σ = μ) (hI : MI μ) : MC l w qX11_turn 2 [.ref (w.1 12), .int i, .int (b2i on)] σ (some (.int (b2i (decide (fo (ns μ i) (if (nB μ i && tb (μ 1) (toN i)) = on then 6 else 0) = 0))))) (fun σ' => (vw (vb 0) σ' = pk0 (fo (ns μ i) (if (nB μ i && tb (μ 1) (toN i)) = on then 6 else 0)) (upd μ 1 (wth (μ 1) (toN i) on)) μ) ∧ (σ' 14000 = (nI (fo (ns μ i) (if (nB μ i && tb (μ 1) (toN i)) = on then 6 else 0)))) ∧ (∀ a, ((a < 10000 ∨ 10464 ≤ a) ∧ a ≠ 14000) → σ' a = σ a)) := by
  refine MC.of hW (by decide +kernel) (Nat.le_of_ble_eq_true rfl) (fun X h hQ hnm => ?_)
  have h : Fx X w cX11_turn 4 RX11 2 := h
  have hQ : Qx X w (some .boolean) (some (.int (b2i (decide (fo (ns μ i) (if (nB μ i && tb (μ 1) (toN i)) = on then 6 else 0) = 0))))) (fun σ' => (vw (vb 0) σ' = pk0 (fo (ns μ i) (if (nB μ i && tb (μ 1) (toN i)) = on then 6 else 0)) (upd μ 1 (wth (μ 1) (toN i) on)) μ) ∧ (σ' 14000 = (nI (fo (ns μ i) (if (nB μ i && tb (μ 1) (toN i)) = on then 6 else 0)))) ∧ (∀ a, ((a < 10000 ∨ 10464 ≤ a) ∧ a ≠ 14000) → σ' a = σ a)) := hQ
  have hN8 := mi_8 hI
  have hvb0 : vb 0 = 10000 := rfl
  have hcFR_σ : ∀ a, ((a < 10000 ∨ 10464 ≤ a) ∧ a ≠ 14000) → σ a = σ a := fun _ _ => rfl
  show G X w 4 0 [(0, .ref (w.1 12)), (1, .int i), (2, .int (b2i on))] [] σ
  refine g_aload_n h dX11_turn_0 0 rfl ?_
  refine g_getr h dX11_turn_1 gX11_23 sc_12 rfl ?_
  refine g_iload_n h dX11_turn_4 1 rfl ?_
  refine g_cvpi (rest := []) h (c_isOnI hW i 0 μ (by first | omega | decide | fail) (by first | exact hv | assumption | fail) (by assumption)) lX5_isOn mX11_167 (Nat.lt_of_lt_of_le (by decide) (Nat.le_refl _)) (by decide) (sM_0 (m := 0) (by decide)) rfl rfl rfl rfl dX11_turn_5 ?_
  refine g_iload_n h dX11_turn_8 2 rfl ?_
  refine g_icmpB_ne (p := (nB μ i && tb (μ 1) (toN i))) (q := on) h dX11_turn_9 (fun c9 => ?_) (fun c9 => ?_)
  ·
    refine g_iconst h dX11_turn_17 (by decide) ?_
    refine g_istore_n (L' := [(0, .ref (w.1 12)), (1, .int i), (2, .int (b2i on)), (3, .int (nI 0))]) h dX11_turn_18 rfl (by decide) rfl ?_
    refine g_aload_n h dX11_turn_19 0 rfl ?_
    refine g_aload_n h dX11_turn_20 0 rfl ?_
    refine g_iload_n h dX11_turn_21 1 rfl ?_
    refine g_cvpi (rest := [.ref (w.1 12)]) h (c_ns hW i μ (by first | exact hv | assumption | fail)) lX11_nodeStatus mX11_159 (Nat.lt_of_lt_of_le (by decide) (Nat.le_refl _)) (by decide) sc_12 rfl rfl rfl rfl dX11_turn_22 ?_
    refine g_iload_n h dX11_turn_25 3 rfl ?_
    refine g_cspi (rest := [.ref (w.1 12)]) h (c_fo hW (ns μ i) 0 (by repeat (first | omega | exact rg_lt | exact ns_lt | exact ps_lt | exact gst_lt | exact ofS_lt | exact if_lt (by decide) (by decide) | apply fo_lt)) (by repeat (first | omega | exact rg_lt | exact ns_lt | exact ps_lt | exact gst_lt | exact ofS_lt | exact if_lt (by decide) (by decide) | apply fo_lt))) lX11_firstOf mX11_163 (Nat.lt_of_lt_of_le (by decide) (Nat.le_refl _)) (by decide) rfl rfl rfl dX11_turn_26 ?_
    refine g_cvi (rest := []) h (c_fails hW (fo (ns μ i) 0) (by repeat (first | omega | exact rg_lt | exact ns_lt | exact ps_lt | exact gst_lt | exact ofS_lt | exact if_lt (by decide) (by decide) | apply fo_lt))) lX11_fails mX11_106 (Nat.lt_of_lt_of_le (by decide) (Nat.le_refl _)) (by decide) sc_12 rfl rfl rfl rfl dX11_turn_29 (fun σ_1 eσ_1 => ?_)
    obtain ⟨eσ_1_a, eσ_1_b⟩ := eσ_1
    have eσ_1_a : σ_1 14000 = (nI (fo (ns μ i) 0)) := eσ_1_a
    have eσ_1_b : ∀ a, (a ≠ 14000) → σ_1 a = σ a := eσ_1_b
    have ht14000_σ_1 : σ_1 14000 = (nI (fo (ns μ i) 0)) := eσ_1_a
    have hcFR_σ_1 : ∀ a, ((a < 10000 ∨ 10464 ≤ a) ∧ a ≠ 14000) → σ_1 a = σ a := by intro a ha; exact Eq.trans (b := σ a) (eσ_1_b a (by first | omega | (simp only [vb] at *; omega))) (hcFR_σ a ha)
    have hvσ_1 : vw (vb 0) σ_1 = μ := by rw [vw_fr (σ := σ) (fun j _ _ => eσ_1_b _ (by first | omega | (simp only [vb] at *; omega)))]; first | exact hv | assumption
    refine g_ifB_eq h dX11_turn_32 (fun c32 => ?_) (fun c32 => ?_)
    ·
      have hS0 : fo (ns μ i) (if (nB μ i && tb (μ 1) (toN i)) = on then 6 else 0) = 0 := by first | (rw [if_pos c9]; exact nb0 c32) | (rw [if_neg (ne_of_bb c9)]; exact nb0 c32)
      obtain ⟨hs1, hs2⟩ := fo_0 hS0
      obtain ⟨ei, hi9⟩ := nB_N hI (ns_0 hs1)
      rw [ei]
      show G X w 4 37 [(0, .ref (w.1 12)), (1, .int (nI (toN i))), (2, .int (b2i on)), (3, .int (nI 0))] [] σ_1
      refine g_aload_n h dX11_turn_37 0 rfl ?_
      refine g_getr h dX11_turn_38 gX11_23 sc_12 rfl ?_
      refine g_aload_n h dX11_turn_41 0 rfl ?_
      refine g_getr h dX11_turn_42 gX11_23 sc_12 rfl ?_
      refine g_geti h dX11_turn_45 gX11_123 (sM_0 (m := 0) (by decide)) rfl ?_
      refine g_top (y := μ 1) (vw_pic (b := (vb 0)) (k := 1) (by first | exact hvσ_1 | assumption) (by omega)) ?_
      refine g_iload_n h dX11_turn_48 1 rfl ?_
      refine g_iload_n h dX11_turn_49 2 rfl ?_
      refine g_cspi (rest := [.ref (w.1 (mc 0 0))]) h (c_with hW (μ 1) (toN i) on ) lX5_with mX11_279 (Nat.lt_of_lt_of_le (by decide) (Nat.le_refl _)) (by decide) rfl rfl rfl dX11_turn_50 ?_
      refine g_puti h dX11_turn_53 pX11_123 (sM_0 (m := 0) (by decide)) rfl ?_
      refine g_nm (fun σ_2 eσ_2 => ?_)
      have eσ_2 : σ_2 = upd σ_1 ((vb 0) + 1) (wth (μ 1) (toN i) on) := eσ_2
      have ht14000_σ_2 : σ_2 14000 = (nI (fo (ns μ i) 0)) := by rw [eσ_2, upd_ne (by first | omega | (simp only [vb] at *; omega))]; first | exact ht14000_σ_1 | assumption
      have hcFR_σ_2 : ∀ a, ((a < 10000 ∨ 10464 ≤ a) ∧ a ≠ 14000) → σ_2 a = σ a := by intro a ha; exact Eq.trans (b := σ_1 a) (by rw [eσ_2, upd_ne (by first | omega | (simp only [vb] at *; omega))]) (hcFR_σ_1 a ha)
      obtain ⟨μ_3, eμ_3⟩ : ∃ μ_3 : Nat → Int32, μ_3 = upd μ 1 (wth (μ 1) (toN i) on) := ⟨_, rfl⟩
      have hvσ_2 : vw (vb 0) σ_2 = μ_3 := by rw [eσ_2, eμ_3, vw_in (by omega)]; congr 1
      refine g_iconst h dX11_turn_56 (by decide) ?_
      exact g_zret h hQ dX11_turn_57 (show narrow .boolean (.int (b2i true)) = .int (b2i true) from narrow_b2i _) (congrArg (fun z => some (Value.int (b2i z))) (show (decide (fo (ns μ i) (if (nB μ i && tb (μ 1) (toN i)) = on then 6 else 0) = 0)) = true by first | exact bo_yes (by first | exact hS0 | fail) (by rfl) | exact bo_no (k := (fo (ns μ i) 0)) (by first | rfl | (rw [if_pos c9]; done) | (rw [if_neg (ne_of_bb c9)]; done) | fail) (by first | decide | omega | assumption | exact nb1 (by assumption)) (by rfl) | fail)) (by exact ⟨(by first | exact pk_yes (by first | exact hS0 | fail) (by rw [hvσ_2, eμ_3]) | exact pk_no (k := (fo (ns μ i) 0)) (by first | rfl | (rw [if_pos c9]; done) | (rw [if_neg (ne_of_bb c9)]; done) | fail) (by first | decide | omega | assumption | exact nb1 (by assumption)) hvσ_2 | fail), (by first | exact tk_eq (k := (fo (ns μ i) 0)) (by first | rfl | (rw [if_pos c9]; done) | (rw [if_neg (ne_of_bb c9)]; done) | fail) ht14000_σ_2 | exact tk_eq (k := (fo (ns μ i) 0)) (by first | exact hS0 | fail) ht14000_σ_2 | fail), (by exact hcFR_σ_2)⟩)
    ·
      refine g_iconst h dX11_turn_35 (by decide) ?_
      exact g_zret h hQ dX11_turn_36 (show narrow .boolean (.int (b2i false)) = .int (b2i false) from narrow_b2i _) (congrArg (fun z => some (Value.int (b2i z))) (show (decide (fo (ns μ i) (if (nB μ i && tb (μ 1) (toN i)) = on then 6 else 0) = 0)) = false by first | exact bo_yes (by first | exact hS0 | fail) (by rfl) | exact bo_no (k := (fo (ns μ i) 0)) (by first | rfl | (rw [if_pos c9]; done) | (rw [if_neg (ne_of_bb c9)]; done) | fail) (by first | decide | omega | assumption | exact nb1 (by assumption)) (by rfl) | fail)) (by exact ⟨(by first | exact pk_yes (by first | exact hS0 | fail) (by rw [hvσ_1, Nat.add_zero]) | exact pk_no (k := (fo (ns μ i) 0)) (by first | rfl | (rw [if_pos c9]; done) | (rw [if_neg (ne_of_bb c9)]; done) | fail) (by first | decide | omega | assumption | exact nb1 (by assumption)) hvσ_1 | fail), (by first | exact tk_eq (k := (fo (ns μ i) 0)) (by first | rfl | (rw [if_pos c9]; done) | (rw [if_neg (ne_of_bb c9)]; done) | fail) ht14000_σ_1 | exact tk_eq (k := (fo (ns μ i) 0)) (by first | exact hS0 | fail) ht14000_σ_1 | fail), (by exact hcFR_σ_1)⟩)
  ·
    refine g_bipush h dX11_turn_12 (by decide) ?_
    refine g_goto h dX11_turn_14 ?_
    refine g_istore_n (L' := [(0, .ref (w.1 12)), (1, .int i), (2, .int (b2i on)), (3, .int (nI 6))]) h dX11_turn_18 rfl (by decide) rfl ?_
    refine g_aload_n h dX11_turn_19 0 rfl ?_
    refine g_aload_n h dX11_turn_20 0 rfl ?_
    refine g_iload_n h dX11_turn_21 1 rfl ?_
    refine g_cvpi (rest := [.ref (w.1 12)]) h (c_ns hW i μ (by first | exact hv | assumption | fail)) lX11_nodeStatus mX11_159 (Nat.lt_of_lt_of_le (by decide) (Nat.le_refl _)) (by decide) sc_12 rfl rfl rfl rfl dX11_turn_22 ?_
    refine g_iload_n h dX11_turn_25 3 rfl ?_
    refine g_cspi (rest := [.ref (w.1 12)]) h (c_fo hW (ns μ i) 6 (by repeat (first | omega | exact rg_lt | exact ns_lt | exact ps_lt | exact gst_lt | exact ofS_lt | exact if_lt (by decide) (by decide) | apply fo_lt)) (by repeat (first | omega | exact rg_lt | exact ns_lt | exact ps_lt | exact gst_lt | exact ofS_lt | exact if_lt (by decide) (by decide) | apply fo_lt))) lX11_firstOf mX11_163 (Nat.lt_of_lt_of_le (by decide) (Nat.le_refl _)) (by decide) rfl rfl rfl dX11_turn_26 ?_
    refine g_cvi (rest := []) h (c_fails hW (fo (ns μ i) 6) (by repeat (first | omega | exact rg_lt | exact ns_lt | exact ps_lt | exact gst_lt | exact ofS_lt | exact if_lt (by decide) (by decide) | apply fo_lt))) lX11_fails mX11_106 (Nat.lt_of_lt_of_le (by decide) (Nat.le_refl _)) (by decide) sc_12 rfl rfl rfl rfl dX11_turn_29 (fun σ_4 eσ_4 => ?_)
    obtain ⟨eσ_4_a, eσ_4_b⟩ := eσ_4
    have eσ_4_a : σ_4 14000 = (nI (fo (ns μ i) 6)) := eσ_4_a
    have eσ_4_b : ∀ a, (a ≠ 14000) → σ_4 a = σ a := eσ_4_b
    have ht14000_σ_4 : σ_4 14000 = (nI (fo (ns μ i) 6)) := eσ_4_a
    have hcFR_σ_4 : ∀ a, ((a < 10000 ∨ 10464 ≤ a) ∧ a ≠ 14000) → σ_4 a = σ a := by intro a ha; exact Eq.trans (b := σ a) (eσ_4_b a (by first | omega | (simp only [vb] at *; omega))) (hcFR_σ a ha)
    have hvσ_4 : vw (vb 0) σ_4 = μ := by rw [vw_fr (σ := σ) (fun j _ _ => eσ_4_b _ (by first | omega | (simp only [vb] at *; omega)))]; first | exact hv | assumption
    refine g_ifB_eq h dX11_turn_32 (fun c32 => ?_) (fun c32 => ?_)
    ·
      have hS0 : fo (ns μ i) (if (nB μ i && tb (μ 1) (toN i)) = on then 6 else 0) = 0 := by first | (rw [if_pos c9]; exact nb0 c32) | (rw [if_neg (ne_of_bb c9)]; exact nb0 c32)
      obtain ⟨hs1, hs2⟩ := fo_0 hS0
      obtain ⟨ei, hi9⟩ := nB_N hI (ns_0 hs1)
      rw [ei]
      show G X w 4 37 [(0, .ref (w.1 12)), (1, .int (nI (toN i))), (2, .int (b2i on)), (3, .int (nI 6))] [] σ_4
      refine g_aload_n h dX11_turn_37 0 rfl ?_
      refine g_getr h dX11_turn_38 gX11_23 sc_12 rfl ?_
      refine g_aload_n h dX11_turn_41 0 rfl ?_
      refine g_getr h dX11_turn_42 gX11_23 sc_12 rfl ?_
      refine g_geti h dX11_turn_45 gX11_123 (sM_0 (m := 0) (by decide)) rfl ?_
      refine g_top (y := μ 1) (vw_pic (b := (vb 0)) (k := 1) (by first | exact hvσ_4 | assumption) (by omega)) ?_
      refine g_iload_n h dX11_turn_48 1 rfl ?_
      refine g_iload_n h dX11_turn_49 2 rfl ?_
      refine g_cspi (rest := [.ref (w.1 (mc 0 0))]) h (c_with hW (μ 1) (toN i) on ) lX5_with mX11_279 (Nat.lt_of_lt_of_le (by decide) (Nat.le_refl _)) (by decide) rfl rfl rfl dX11_turn_50 ?_
      refine g_puti h dX11_turn_53 pX11_123 (sM_0 (m := 0) (by decide)) rfl ?_
      refine g_nm (fun σ_5 eσ_5 => ?_)
      have eσ_5 : σ_5 = upd σ_4 ((vb 0) + 1) (wth (μ 1) (toN i) on) := eσ_5
      have ht14000_σ_5 : σ_5 14000 = (nI (fo (ns μ i) 6)) := by rw [eσ_5, upd_ne (by first | omega | (simp only [vb] at *; omega))]; first | exact ht14000_σ_4 | assumption
      have hcFR_σ_5 : ∀ a, ((a < 10000 ∨ 10464 ≤ a) ∧ a ≠ 14000) → σ_5 a = σ a := by intro a ha; exact Eq.trans (b := σ_4 a) (by rw [eσ_5, upd_ne (by first | omega | (simp only [vb] at *; omega))]) (hcFR_σ_4 a ha)
      obtain ⟨μ_6, eμ_6⟩ : ∃ μ_6 : Nat → Int32, μ_6 = upd μ 1 (wth (μ 1) (toN i) on) := ⟨_, rfl⟩
      have hvσ_5 : vw (vb 0) σ_5 = μ_6 := by rw [eσ_5, eμ_6, vw_in (by omega)]; congr 1
      refine g_iconst h dX11_turn_56 (by decide) ?_
      exact g_zret h hQ dX11_turn_57 (show narrow .boolean (.int (b2i true)) = .int (b2i true) from narrow_b2i _) (congrArg (fun z => some (Value.int (b2i z))) (show (decide (fo (ns μ i) (if (nB μ i && tb (μ 1) (toN i)) = on then 6 else 0) = 0)) = true by first | exact bo_yes (by first | exact hS0 | fail) (by rfl) | exact bo_no (k := (fo (ns μ i) 6)) (by first | rfl | (rw [if_pos c9]; done) | (rw [if_neg (ne_of_bb c9)]; done) | fail) (by first | decide | omega | assumption | exact nb1 (by assumption)) (by rfl) | fail)) (by exact ⟨(by first | exact pk_yes (by first | exact hS0 | fail) (by rw [hvσ_5, eμ_6]) | exact pk_no (k := (fo (ns μ i) 6)) (by first | rfl | (rw [if_pos c9]; done) | (rw [if_neg (ne_of_bb c9)]; done) | fail) (by first | decide | omega | assumption | exact nb1 (by assumption)) hvσ_5 | fail), (by first | exact tk_eq (k := (fo (ns μ i) 6)) (by first | rfl | (rw [if_pos c9]; done) | (rw [if_neg (ne_of_bb c9)]; done) | fail) ht14000_σ_5 | exact tk_eq (k := (fo (ns μ i) 6)) (by first | exact hS0 | fail) ht14000_σ_5 | fail), (by exact hcFR_σ_5)⟩)
    ·
      refine g_iconst h dX11_turn_35 (by decide) ?_
      exact g_zret h hQ dX11_turn_36 (show narrow .boolean (.int (b2i false)) = .int (b2i false) from narrow_b2i _) (congrArg (fun z => some (Value.int (b2i z))) (show (decide (fo (ns μ i) (if (nB μ i && tb (μ 1) (toN i)) = on then 6 else 0) = 0)) = false by first | exact bo_yes (by first | exact hS0 | fail) (by rfl) | exact bo_no (k := (fo (ns μ i) 6)) (by first | rfl | (rw [if_pos c9]; done) | (rw [if_neg (ne_of_bb c9)]; done) | fail) (by first | decide | omega | assumption | exact nb1 (by assumption)) (by rfl) | fail)) (by exact ⟨(by first | exact pk_yes (by first | exact hS0 | fail) (by rw [hvσ_4, Nat.add_zero]) | exact pk_no (k := (fo (ns μ i) 6)) (by first | rfl | (rw [if_pos c9]; done) | (rw [if_neg (ne_of_bb c9)]; done) | fail) (by first | decide | omega | assumption | exact nb1 (by assumption)) hvσ_4 | fail), (by first | exact tk_eq (k := (fo (ns μ i) 6)) (by first | rfl | (rw [if_pos c9]; done) | (rw [if_neg (ne_of_bb c9)]; done) | fail) ht14000_σ_4 | exact tk_eq (k := (fo (ns μ i) 6)) (by first | exact hS0 | fail) ht14000_σ_4 | fail), (by exact hcFR_σ_4)⟩)

set_option maxRecDepth 100000 in
set_option maxHeartbeats 4000000 in
theorem r_comes {l : Launch} {w : Wd} (hW : Wi w) {σ : Mem} (wl : Nat) (μ : Nat → Int32) (hv : vw 0 σ = μ) (hI : MI μ) (h8 : nN μ < 8) : MC l w qX12_comes 1 [.ref (w.1 0), .int (nI wl)] σ (some (.int (nI (nN μ)))) (fun σ' => (vw 0 σ' = upd (upd (upd μ (16 + nN μ) (nI wl)) 1 (μ 1 ||| bt1 (nN μ))) 0 (nI (nN μ + 1))) ∧ (∀ a, (464 ≤ a ∨ a = 10) → σ' a = σ a)) := by
  refine MC.of hW (by decide +kernel) (Nat.le_of_ble_eq_true rfl) (fun X h hQ hnm => ?_)
  have h : Fx X w cX12_comes 3 RX12 1 := h
  have hQ : Qx X w (some .int) (some (.int (nI (nN μ)))) (fun σ' => (vw 0 σ' = upd (upd (upd μ (16 + nN μ) (nI wl)) 1 (μ 1 ||| bt1 (nN μ))) 0 (nI (nN μ + 1))) ∧ (∀ a, (464 ≤ a ∨ a = 10) → σ' a = σ a)) := hQ
  have hN8 := mi_8 hI
  have hcFR_σ : ∀ a, (464 ≤ a ∨ a = 10) → σ a = σ a := fun _ _ => rfl
  show G X w 3 0 [(0, .ref (w.1 0)), (1, .int (nI wl))] [] σ
  refine g_aload_n h dX12_comes_0 0 rfl ?_
  refine g_iconst h dX12_comes_1 (by decide) ?_
  refine g_cvpi (rest := []) h (r_of hW 0 μ (by assumption) (by omega)) lX12_of mX12_61 (Nat.lt_of_lt_of_le (by decide) (Nat.le_refl _)) (by decide) sc_0 rfl rfl rfl rfl dX12_comes_2 ?_
  refine g_top (y := nI (nN μ)) (mi_0 (by assumption)) ?_
  refine g_istore_n (L' := [(0, .ref (w.1 0)), (1, .int (nI wl)), (2, .int (nI (nN μ)))]) h dX12_comes_5 rfl (by decide) rfl ?_
  refine g_aload_n h dX12_comes_6 0 rfl ?_
  refine g_bipush h dX12_comes_7 (by decide) ?_
  refine g_iload_n h dX12_comes_9 2 rfl ?_
  refine g_iaddN h dX12_comes_10  ?_
  refine g_iload_n h dX12_comes_11 1 rfl ?_
  refine g_cvv (rest := []) h (r_puts hW (16 + nN μ) (nI wl) (by omega)) lX12_puts mX12_57 (Nat.lt_of_lt_of_le (by decide) (Nat.le_refl _)) (by decide) sc_0 rfl rfl rfl rfl dX12_comes_12 (fun σ_1 eσ_1 => ?_)
  have eσ_1_a : σ_1 = upd σ (0 + (16 + nN μ)) (nI wl) := eσ_1
  have hcFR_σ_1 : ∀ a, (464 ≤ a ∨ a = 10) → σ_1 a = σ a := by intro a ha; exact Eq.trans (b := σ a) (by rw [eσ_1_a, upd_ne (by first | omega | (simp only [vb] at *; omega))]) (hcFR_σ a ha)
  obtain ⟨μa, eμa⟩ : ∃ μa : Nat → Int32, μa = upd μ (16 + nN μ) (nI wl) := ⟨_, rfl⟩
  have hvσ_1 : vw 0 σ_1 = μa := by rw [eσ_1_a, eμa, vw_in (by omega)]; congr 1
  refine g_aload_n h dX12_comes_15 0 rfl ?_
  refine g_iconst h dX12_comes_16 (by decide) ?_
  refine g_aload_n h dX12_comes_17 0 rfl ?_
  refine g_iconst h dX12_comes_18 (by decide) ?_
  refine g_cvpi (rest := [.int (nI 1), .ref (w.1 0)]) h (r_of hW 1 μa (by assumption) (by omega)) lX12_of mX12_61 (Nat.lt_of_lt_of_le (by decide) (Nat.le_refl _)) (by decide) sc_0 rfl rfl rfl rfl dX12_comes_19 ?_
  refine g_top (y := μ 1) (by rw [eμa, upd_ne (by first | omega | (simp only [vb] at *; omega))]) ?_
  refine g_iconst h dX12_comes_22 (by decide) ?_
  refine g_iload_n h dX12_comes_23 2 rfl ?_
  refine g_ishl h dX12_comes_24  ?_
  refine g_top (y := bt1 (nN μ)) rfl ?_
  refine g_ior h dX12_comes_25  ?_
  refine g_cvv (rest := []) h (r_puts hW 1 ((μ 1) ||| (bt1 (nN μ))) (by omega)) lX12_puts mX12_57 (Nat.lt_of_lt_of_le (by decide) (Nat.le_refl _)) (by decide) sc_0 rfl rfl rfl rfl dX12_comes_26 (fun σ_2 eσ_2 => ?_)
  have eσ_2_a : σ_2 = upd σ_1 (0 + 1) ((μ 1) ||| (bt1 (nN μ))) := eσ_2
  have hcFR_σ_2 : ∀ a, (464 ≤ a ∨ a = 10) → σ_2 a = σ a := by intro a ha; exact Eq.trans (b := σ_1 a) (by rw [eσ_2_a, upd_ne (by first | omega | (simp only [vb] at *; omega))]) (hcFR_σ_1 a ha)
  obtain ⟨μb, eμb⟩ : ∃ μb : Nat → Int32, μb = upd μa 1 ((μ 1) ||| (bt1 (nN μ))) := ⟨_, rfl⟩
  have hvσ_2 : vw 0 σ_2 = μb := by rw [eσ_2_a, eμb, vw_in (by omega)]; congr 1
  refine g_aload_n h dX12_comes_29 0 rfl ?_
  refine g_iconst h dX12_comes_30 (by decide) ?_
  refine g_iconst h dX12_comes_31 (by decide) ?_
  refine g_cvv (rest := []) h (r_addsP hW 0 (nI 1) μb (by first | exact hvσ_2 | assumption | fail) (by omega)) lX12_adds mX12_141 (Nat.lt_of_lt_of_le (by decide) (Nat.le_refl _)) (by decide) sc_0 rfl rfl rfl rfl dX12_comes_32 (fun σ_3 eσ_3 => ?_)
  have eσ_3_a : σ_3 = upd σ_2 (0 + 0) (μb 0 + (nI 1)) := eσ_3
  have hcFR_σ_3 : ∀ a, (464 ≤ a ∨ a = 10) → σ_3 a = σ a := by intro a ha; exact Eq.trans (b := σ_2 a) (by rw [eσ_3_a, upd_ne (by first | omega | (simp only [vb] at *; omega))]) (hcFR_σ_2 a ha)
  obtain ⟨μc, eμc⟩ : ∃ μc : Nat → Int32, μc = upd μb 0 (μb 0 + (nI 1)) := ⟨_, rfl⟩
  have hvσ_3 : vw 0 σ_3 = μc := by rw [eσ_3_a, eμc, vw_in (by omega)]; congr 1
  refine g_iload_n h dX12_comes_35 2 rfl ?_
  exact g_iret h hQ dX12_comes_36 rfl (by exact ⟨(by rw [hvσ_3, eμc, nI_p1 (a := nN μ), show μb 0 = nI (nN μ) from by rw [eμb, upd_ne (by decide), eμa, upd_ne (by omega)]; exact mi_0 hI, eμb, eμa]), (by exact hcFR_σ_3)⟩)

set_option maxRecDepth 100000 in
set_option maxHeartbeats 4000000 in
theorem q_add {l : Launch} {w : Wd} (hW : Wi w) {σ : Mem} (wl : Int32)  (μ : Nat → Int32) (hv : vw 0 σ = μ) (hI : MI μ) : MC l w qX12_add 2 [.ref (w.1 0), .int wl] σ (some (.int (an (fo (rg wl (nI 0) (nI 7)) (if nN μ = 8 then 5 else 0)) (nI (nN μ))))) (fun σ' => (vw 0 σ' = pk0 (fo (rg wl (nI 0) (nI 7)) (if nN μ = 8 then 5 else 0)) (upd (upd (upd μ (16 + nN μ) (nI (toN wl))) 1 (μ 1 ||| bt1 (nN μ))) 0 (nI (nN μ + 1))) μ) ∧ (σ' 4000 = (nI (fo (rg wl (nI 0) (nI 7)) (if nN μ = 8 then 5 else 0)))) ∧ (∀ a, (464 ≤ a ∧ a ≠ 4000 ∨ a = 10) → σ' a = σ a)) := by
  refine MC.of hW (by decide +kernel) (Nat.le_of_ble_eq_true rfl) (fun X h hQ hnm => ?_)
  have h : Fx X w cX12_add 2 RX12 2 := h
  have hQ : Qx X w (some .int) (some (.int (an (fo (rg wl (nI 0) (nI 7)) (if nN μ = 8 then 5 else 0)) (nI (nN μ))))) (fun σ' => (vw 0 σ' = pk0 (fo (rg wl (nI 0) (nI 7)) (if nN μ = 8 then 5 else 0)) (upd (upd (upd μ (16 + nN μ) (nI (toN wl))) 1 (μ 1 ||| bt1 (nN μ))) 0 (nI (nN μ + 1))) μ) ∧ (σ' 4000 = (nI (fo (rg wl (nI 0) (nI 7)) (if nN μ = 8 then 5 else 0)))) ∧ (∀ a, (464 ≤ a ∧ a ≠ 4000 ∨ a = 10) → σ' a = σ a)) := hQ
  have hN8 := mi_8 hI
  have hcFR_σ : ∀ a, (464 ≤ a ∧ a ≠ 4000 ∨ a = 10) → σ a = σ a := fun _ _ => rfl
  show G X w 2 0 [(0, .ref (w.1 0)), (1, .int wl)] [] σ
  refine g_iload_n h dX12_add_0 1 rfl ?_
  refine g_iconst h dX12_add_1 (by decide) ?_
  refine g_bipush h dX12_add_2 (by decide) ?_
  refine g_cspi (rest := []) h (r_isFrom hW wl (nI 0) (nI 7) ) lX12_isFrom mX12_134 (Nat.lt_of_lt_of_le (by decide) (Nat.le_refl _)) (by decide) rfl rfl rfl dX12_add_4 ?_
  refine g_ifB_ne h dX12_add_7 (fun c7 => ?_) (fun c7 => ?_)
  ·
    obtain ⟨ew, hw9⟩ := fr_N (by decide) c7
    rw [ew]
    show G X w 2 16 [(0, .ref (w.1 0)), (1, .int (nI (toN wl)))] [] σ
    refine g_aload_n h dX12_add_16 0 rfl ?_
    refine g_iconst h dX12_add_17 (by decide) ?_
    refine g_cvpi (rest := []) h (r_of hW 0 μ (by assumption) (by omega)) lX12_of mX12_61 (Nat.lt_of_lt_of_le (by decide) (Nat.le_refl _)) (by decide) sc_0 rfl rfl rfl rfl dX12_add_18 ?_
    refine g_top (y := nI (nN μ)) (mi_0 (by assumption)) ?_
    refine g_bipush h dX12_add_21 (by decide) ?_
    refine g_icmpN_ne h dX12_add_23 (by omega) (by omega) (fun c23 => ?_) (fun c23 => ?_)
    ·
      refine g_aload_n h dX12_add_34 0 rfl ?_
      refine g_aload_n h dX12_add_35 0 rfl ?_
      refine g_iload_n h dX12_add_36 1 rfl ?_
      refine g_cvi (rest := [.ref (w.1 0)]) h (r_comes hW (toN wl) μ (by first | exact hv | assumption | fail) (by assumption) (by omega)) lX12_comes mX12_238 (Nat.lt_of_lt_of_le (by decide) (Nat.le_refl _)) (by decide) sc_0 rfl rfl rfl rfl dX12_add_37 (fun σ_1 eσ_1 => ?_)
      obtain ⟨eσ_1_a, eσ_1_b⟩ := eσ_1
      have eσ_1_a : vw 0 σ_1 = upd (upd (upd μ (16 + nN μ) (nI (toN wl))) 1 (μ 1 ||| bt1 (nN μ))) 0 (nI (nN μ + 1)) := eσ_1_a
      have eσ_1_b : ∀ a, (464 ≤ a ∨ a = 10) → σ_1 a = σ a := eσ_1_b
      have hcFR_σ_1 : ∀ a, (464 ≤ a ∧ a ≠ 4000 ∨ a = 10) → σ_1 a = σ a := by intro a ha; exact Eq.trans (b := σ a) (eσ_1_b a (by first | omega | (simp only [vb] at *; omega))) (hcFR_σ a ha)
      obtain ⟨μ_2, eμ_2⟩ : ∃ μ_2 : Nat → Int32, μ_2 = upd (upd (upd μ (16 + nN μ) (nI (toN wl))) 1 (μ 1 ||| bt1 (nN μ))) 0 (nI (nN μ + 1)) := ⟨_, rfl⟩
      have hvσ_1 : vw 0 σ_1 = μ_2 := by rw [eμ_2]; exact eσ_1_a
      refine g_cvi (rest := []) h (r_gives hW (nI (nN μ)) ) lX12_gives mX12_281 (Nat.lt_of_lt_of_le (by decide) (Nat.le_refl _)) (by decide) sc_0 rfl rfl rfl rfl dX12_add_40 (fun σ_3 eσ_3 => ?_)
      have eσ_3_a : σ_3 = upd σ_1 4000 (nI 0) := eσ_3
      have ht4000_σ_3 : σ_3 4000 = (nI 0) := by rw [eσ_3_a]; exact upd_eq
      have hcFR_σ_3 : ∀ a, (464 ≤ a ∧ a ≠ 4000 ∨ a = 10) → σ_3 a = σ a := by intro a ha; exact Eq.trans (b := σ_1 a) (by rw [eσ_3_a, upd_ne (by first | omega | (simp only [vb] at *; omega))]) (hcFR_σ_1 a ha)
      have hvσ_3 : vw 0 σ_3 = μ_2 := by rw [eσ_3_a, vw_out (by omega)]; first | exact hvσ_1 | assumption
      exact g_iret h hQ dX12_add_43 (congrArg (fun z => some (Value.int z)) (show (an (fo (rg wl (nI 0) (nI 7)) (if nN μ = 8 then 5 else 0)) (nI (nN μ))) = (nI (nN μ)) by first | exact an_yes (by first | rfl | (simp [fo, rg, ns, nB, ps, gst, ofS, offB, c7, c23]; done) | (simp [fo, rg, ns, nB, ps, gst, ofS, offB, c7, c23]; omega) | fail) (by rfl) | exact an_no (k := 0) (by first | rfl | (simp [fo, rg, ns, nB, ps, gst, ofS, offB, c7, c23]; done) | (simp [fo, rg, ns, nB, ps, gst, ofS, offB, c7, c23]; omega) | fail) (by first | decide | omega | assumption | exact nb1 (by assumption)) | fail)) (by exact ⟨(by first | exact pk_yes (by first | rfl | (simp [fo, rg, ns, nB, ps, gst, ofS, offB, c7, c23]; done) | (simp [fo, rg, ns, nB, ps, gst, ofS, offB, c7, c23]; omega) | fail) (by rw [hvσ_3, eμ_2]) | exact pk_no (k := 0) (by first | rfl | (simp [fo, rg, ns, nB, ps, gst, ofS, offB, c7, c23]; done) | (simp [fo, rg, ns, nB, ps, gst, ofS, offB, c7, c23]; omega) | fail) (by first | decide | omega | assumption | exact nb1 (by assumption)) hvσ_3 | fail), (by first | exact tk_eq (k := 0) (by first | rfl | (simp [fo, rg, ns, nB, ps, gst, ofS, offB, c7, c23]; done) | (simp [fo, rg, ns, nB, ps, gst, ofS, offB, c7, c23]; omega) | fail) ht4000_σ_3 | exact tk_eq (k := 0) (by first | rfl | (simp [fo, rg, ns, nB, ps, gst, ofS, offB, c7, c23]; done) | (simp [fo, rg, ns, nB, ps, gst, ofS, offB, c7, c23]; omega) | fail) ht4000_σ_3 | fail), (by exact hcFR_σ_3)⟩)
    ·
      refine g_aload_n h dX12_add_26 0 rfl ?_
      refine g_iconst h dX12_add_27 (by decide) ?_
      refine g_cvi (rest := []) h (r_refuse hW (nI 5) ) lX12_refuse mX12_272 (Nat.lt_of_lt_of_le (by decide) (Nat.le_refl _)) (by decide) sc_0 rfl rfl rfl rfl dX12_add_28 (fun σ_4 eσ_4 => ?_)
      have eσ_4_a : σ_4 = upd σ 4000 (nI 5) := eσ_4
      have ht4000_σ_4 : σ_4 4000 = (nI 5) := by rw [eσ_4_a]; exact upd_eq
      have hcFR_σ_4 : ∀ a, (464 ≤ a ∧ a ≠ 4000 ∨ a = 10) → σ_4 a = σ a := by intro a ha; exact Eq.trans (b := σ a) (by rw [eσ_4_a, upd_ne (by first | omega | (simp only [vb] at *; omega))]) (hcFR_σ a ha)
      have hvσ_4 : vw 0 σ_4 = μ := by rw [eσ_4_a, vw_out (by omega)]; first | exact hv | assumption
      refine g_goto h dX12_add_31 ?_
      exact g_iret h hQ dX12_add_43 (congrArg (fun z => some (Value.int z)) (show (an (fo (rg wl (nI 0) (nI 7)) (if nN μ = 8 then 5 else 0)) (nI (nN μ))) = (-1) by first | exact an_yes (by first | rfl | (simp [fo, rg, ns, nB, ps, gst, ofS, offB, c7, c23]; done) | (simp [fo, rg, ns, nB, ps, gst, ofS, offB, c7, c23]; omega) | fail) (by rfl) | exact an_no (k := 5) (by first | rfl | (simp [fo, rg, ns, nB, ps, gst, ofS, offB, c7, c23]; done) | (simp [fo, rg, ns, nB, ps, gst, ofS, offB, c7, c23]; omega) | fail) (by first | decide | omega | assumption | exact nb1 (by assumption)) | fail)) (by exact ⟨(by first | exact pk_yes (by first | rfl | (simp [fo, rg, ns, nB, ps, gst, ofS, offB, c7, c23]; done) | (simp [fo, rg, ns, nB, ps, gst, ofS, offB, c7, c23]; omega) | fail) (by rw [hvσ_4, Nat.add_zero]) | exact pk_no (k := 5) (by first | rfl | (simp [fo, rg, ns, nB, ps, gst, ofS, offB, c7, c23]; done) | (simp [fo, rg, ns, nB, ps, gst, ofS, offB, c7, c23]; omega) | fail) (by first | decide | omega | assumption | exact nb1 (by assumption)) hvσ_4 | fail), (by first | exact tk_eq (k := 5) (by first | rfl | (simp [fo, rg, ns, nB, ps, gst, ofS, offB, c7, c23]; done) | (simp [fo, rg, ns, nB, ps, gst, ofS, offB, c7, c23]; omega) | fail) ht4000_σ_4 | exact tk_eq (k := 5) (by first | rfl | (simp [fo, rg, ns, nB, ps, gst, ofS, offB, c7, c23]; done) | (simp [fo, rg, ns, nB, ps, gst, ofS, offB, c7, c23]; omega) | fail) ht4000_σ_4 | fail), (by exact hcFR_σ_4)⟩)
  ·
    refine g_aload_n h dX12_add_10 0 rfl ?_
    refine g_iconst h dX12_add_11 (by decide) ?_
    refine g_cvi (rest := []) h (r_refuse hW (nI 1) ) lX12_refuse mX12_272 (Nat.lt_of_lt_of_le (by decide) (Nat.le_refl _)) (by decide) sc_0 rfl rfl rfl rfl dX12_add_12 (fun σ_5 eσ_5 => ?_)
    have eσ_5_a : σ_5 = upd σ 4000 (nI 1) := eσ_5
    have ht4000_σ_5 : σ_5 4000 = (nI 1) := by rw [eσ_5_a]; exact upd_eq
    have hcFR_σ_5 : ∀ a, (464 ≤ a ∧ a ≠ 4000 ∨ a = 10) → σ_5 a = σ a := by intro a ha; exact Eq.trans (b := σ a) (by rw [eσ_5_a, upd_ne (by first | omega | (simp only [vb] at *; omega))]) (hcFR_σ a ha)
    have hvσ_5 : vw 0 σ_5 = μ := by rw [eσ_5_a, vw_out (by omega)]; first | exact hv | assumption
    exact g_iret h hQ dX12_add_15 (congrArg (fun z => some (Value.int z)) (show (an (fo (rg wl (nI 0) (nI 7)) (if nN μ = 8 then 5 else 0)) (nI (nN μ))) = (-1) by first | exact an_yes (by first | rfl | (simp [fo, rg, ns, nB, ps, gst, ofS, offB, c7]; done) | (simp [fo, rg, ns, nB, ps, gst, ofS, offB, c7]; omega) | fail) (by rfl) | exact an_no (k := 1) (by first | rfl | (simp [fo, rg, ns, nB, ps, gst, ofS, offB, c7]; done) | (simp [fo, rg, ns, nB, ps, gst, ofS, offB, c7]; omega) | fail) (by first | decide | omega | assumption | exact nb1 (by assumption)) | fail)) (by exact ⟨(by first | exact pk_yes (by first | rfl | (simp [fo, rg, ns, nB, ps, gst, ofS, offB, c7]; done) | (simp [fo, rg, ns, nB, ps, gst, ofS, offB, c7]; omega) | fail) (by rw [hvσ_5, Nat.add_zero]) | exact pk_no (k := 1) (by first | rfl | (simp [fo, rg, ns, nB, ps, gst, ofS, offB, c7]; done) | (simp [fo, rg, ns, nB, ps, gst, ofS, offB, c7]; omega) | fail) (by first | decide | omega | assumption | exact nb1 (by assumption)) hvσ_5 | fail), (by first | exact tk_eq (k := 1) (by first | rfl | (simp [fo, rg, ns, nB, ps, gst, ofS, offB, c7]; done) | (simp [fo, rg, ns, nB, ps, gst, ofS, offB, c7]; omega) | fail) ht4000_σ_5 | exact tk_eq (k := 1) (by first | rfl | (simp [fo, rg, ns, nB, ps, gst, ofS, offB, c7]; done) | (simp [fo, rg, ns, nB, ps, gst, ofS, offB, c7]; omega) | fail) ht4000_σ_5 | fail), (by exact hcFR_σ_5)⟩)

set_option maxRecDepth 100000 in
set_option maxHeartbeats 4000000 in
theorem c_addNode {l : Launch} {w : Wd} (hW : Wi w) {σ : Mem} (wl : Nat) (m : Nat) (μ : Nat → Int32) (hm : m < 6) (hv : vw (vb m) σ = μ) (hI : MI μ) (h8 : nN μ < 8) : MC l w qX5_addNode 1 [.ref (w.1 (mc m 0)), .int (nI wl)] σ none (fun σ' => (vw (vb m) σ' = upd (upd (upd μ (16 + nN μ) (nI wl)) 1 (μ 1 ||| bt1 (nN μ))) 0 (nI (nN μ + 1))) ∧ (∀ a, (a < vb m ∨ vb m + 464 ≤ a) → σ' a = σ a)) := by
  refine MC.of hW (by decide +kernel) (Nat.le_of_ble_eq_true rfl) (fun X h hQ hnm => ?_)
  have h : Fx X w cX5_addNode 2 RX5 1 := h
  have hQ : Qx X w none none (fun σ' => (vw (vb m) σ' = upd (upd (upd μ (16 + nN μ) (nI wl)) 1 (μ 1 ||| bt1 (nN μ))) 0 (nI (nN μ + 1))) ∧ (∀ a, (a < vb m ∨ vb m + 464 ≤ a) → σ' a = σ a)) := hQ
  have hN8 := mi_8 hI
  have hvb1 : vb m = 10000 + 528 * m := rfl
  have hcFR_σ : ∀ a, (a < vb m ∨ vb m + 464 ≤ a) → σ a = σ a := fun _ _ => rfl
  show G X w 2 0 [(0, .ref (w.1 (mc m 0))), (1, .int (nI wl))] [] σ
  refine g_aload_n h dX5_addNode_0 0 rfl ?_
  refine g_geti h dX5_addNode_1 gX5_38 (sM_0 (m := m) (by omega)) rfl ?_
  refine g_top (y := μ 0) (vw_pic (b := (vb m)) (k := 0) (by first | exact hv | assumption) (by omega)) ?_
  refine g_top (y := nI (nN μ)) (mi_0 (by assumption)) ?_
  refine g_bipush h dX5_addNode_4 (by decide) ?_
  refine g_icmpN_ge h dX5_addNode_6 (by omega) (by omega) (fun c6 => ?_) (fun c6 => ?_)
  ·
    exfalso; omega
  ·
    refine g_aload_n h dX5_addNode_9 0 rfl ?_
    refine g_getr h dX5_addNode_10 gX5_9 (sM_0 (m := m) (by omega)) rfl ?_
    refine g_aload_n h dX5_addNode_13 0 rfl ?_
    refine g_geti h dX5_addNode_14 gX5_38 (sM_0 (m := m) (by omega)) rfl ?_
    refine g_top (y := μ 0) (vw_pic (b := (vb m)) (k := 0) (by first | exact hv | assumption) (by omega)) ?_
    refine g_top (y := nI (nN μ)) (mi_0 (by assumption)) ?_
    refine g_iload_n h dX5_addNode_17 1 rfl ?_
    refine g_iast h dX5_addNode_18 (sM_1 (m := m) (by omega)) (by omega) ?_
    refine g_nm (fun σ_1 eσ_1 => ?_)
    have eσ_1 : σ_1 = upd σ ((vb m) + (16 + (nN μ))) (nI wl) := eσ_1
    have hcFR_σ_1 : ∀ a, (a < vb m ∨ vb m + 464 ≤ a) → σ_1 a = σ a := by intro a ha; exact Eq.trans (b := σ a) (by rw [eσ_1, upd_ne (by first | omega | (simp only [vb] at *; omega))]) (hcFR_σ a ha)
    obtain ⟨μa, eμa⟩ : ∃ μa : Nat → Int32, μa = upd μ (16 + (nN μ)) (nI wl) := ⟨_, rfl⟩
    have hvσ_1 : vw (vb m) σ_1 = μa := by rw [eσ_1, eμa, vw_in (by omega)]; congr 1
    refine g_aload_n h dX5_addNode_19 0 rfl ?_
    refine g_dup h dX5_addNode_20 rfl ?_
    refine g_geti h dX5_addNode_21 gX5_42 (sM_0 (m := m) (by omega)) rfl ?_
    refine g_top (y := μa 1) (vw_pic (b := (vb m)) (k := 1) (by first | exact hvσ_1 | assumption) (by omega)) ?_
    refine g_top (y := μ 1) (by rw [eμa, upd_ne (by first | omega | (simp only [vb] at *; omega))]) ?_
    refine g_aload_n h dX5_addNode_24 0 rfl ?_
    refine g_geti h dX5_addNode_25 gX5_38 (sM_0 (m := m) (by omega)) rfl ?_
    refine g_top (y := μa 0) (vw_pic (b := (vb m)) (k := 0) (by first | exact hvσ_1 | assumption) (by omega)) ?_
    refine g_top (y := μ 0) (by rw [eμa, upd_ne (by first | omega | (simp only [vb] at *; omega))]) ?_
    refine g_top (y := nI (nN μ)) (mi_0 (by assumption)) ?_
    refine g_cspi (rest := [.int (μ 1), .ref (w.1 (mc m 0))]) h (c_bit hW (nN μ) ) lX5_bit mX5_89 (Nat.lt_of_lt_of_le (by decide) (Nat.le_refl _)) (by decide) rfl rfl rfl dX5_addNode_28 ?_
    refine g_ior h dX5_addNode_31  ?_
    refine g_puti h dX5_addNode_32 pX5_42 (sM_0 (m := m) (by omega)) rfl ?_
    refine g_nm (fun σ_2 eσ_2 => ?_)
    have eσ_2 : σ_2 = upd σ_1 ((vb m) + 1) ((μ 1) ||| (bt1 (nN μ))) := eσ_2
    have hcFR_σ_2 : ∀ a, (a < vb m ∨ vb m + 464 ≤ a) → σ_2 a = σ a := by intro a ha; exact Eq.trans (b := σ_1 a) (by rw [eσ_2, upd_ne (by first | omega | (simp only [vb] at *; omega))]) (hcFR_σ_1 a ha)
    obtain ⟨μb, eμb⟩ : ∃ μb : Nat → Int32, μb = upd μa 1 ((μ 1) ||| (bt1 (nN μ))) := ⟨_, rfl⟩
    have hvσ_2 : vw (vb m) σ_2 = μb := by rw [eσ_2, eμb, vw_in (by omega)]; congr 1
    refine g_aload_n h dX5_addNode_35 0 rfl ?_
    refine g_dup h dX5_addNode_36 rfl ?_
    refine g_geti h dX5_addNode_37 gX5_38 (sM_0 (m := m) (by omega)) rfl ?_
    refine g_top (y := μb 0) (vw_pic (b := (vb m)) (k := 0) (by first | exact hvσ_2 | assumption) (by omega)) ?_
    refine g_top (y := μa 0) (by rw [eμb, upd_ne (by first | omega | (simp only [vb] at *; omega))]) ?_
    refine g_top (y := μ 0) (by rw [eμa, upd_ne (by first | omega | (simp only [vb] at *; omega))]) ?_
    refine g_top (y := nI (nN μ)) (mi_0 (by assumption)) ?_
    refine g_iconst h dX5_addNode_40 (by decide) ?_
    refine g_iaddN h dX5_addNode_41  ?_
    refine g_puti h dX5_addNode_42 pX5_38 (sM_0 (m := m) (by omega)) rfl ?_
    refine g_nm (fun σ_3 eσ_3 => ?_)
    have eσ_3 : σ_3 = upd σ_2 ((vb m) + 0) (nI (nN μ + 1)) := eσ_3
    have hcFR_σ_3 : ∀ a, (a < vb m ∨ vb m + 464 ≤ a) → σ_3 a = σ a := by intro a ha; exact Eq.trans (b := σ_2 a) (by rw [eσ_3, upd_ne (by first | omega | (simp only [vb] at *; omega))]) (hcFR_σ_2 a ha)
    obtain ⟨μc, eμc⟩ : ∃ μc : Nat → Int32, μc = upd μb 0 (nI (nN μ + 1)) := ⟨_, rfl⟩
    have hvσ_3 : vw (vb m) σ_3 = μc := by rw [eσ_3, eμc, vw_in (by omega)]; congr 1
    exact g_vret h hQ dX5_addNode_45 rfl (by exact ⟨(by rw [hvσ_3, eμc, eμb, eμa]), (by exact hcFR_σ_3)⟩)

set_option maxRecDepth 100000 in
set_option maxHeartbeats 4000000 in
theorem p_add {l : Launch} {w : Wd} (hW : Wi w) {σ : Mem} (wl : Int32)  (μ : Nat → Int32) (hv : vw (vb 0) σ = μ) (hI : MI μ) : MC l w qX11_add 2 [.ref (w.1 12), .int wl] σ (some (.int (an (fo (rg wl (nI 0) (nI 7)) (if nN μ = 8 then 5 else 0)) (nI (nN μ))))) (fun σ' => (vw (vb 0) σ' = pk0 (fo (rg wl (nI 0) (nI 7)) (if nN μ = 8 then 5 else 0)) (upd (upd (upd μ (16 + nN μ) (nI (toN wl))) 1 (μ 1 ||| bt1 (nN μ))) 0 (nI (nN μ + 1))) μ) ∧ (σ' 14000 = (nI (fo (rg wl (nI 0) (nI 7)) (if nN μ = 8 then 5 else 0)))) ∧ (∀ a, ((a < 10000 ∨ 10464 ≤ a) ∧ a ≠ 14000) → σ' a = σ a)) := by
  refine MC.of hW (by decide +kernel) (Nat.le_of_ble_eq_true rfl) (fun X h hQ hnm => ?_)
  have h : Fx X w cX11_add 3 RX11 2 := h
  have hQ : Qx X w (some .int) (some (.int (an (fo (rg wl (nI 0) (nI 7)) (if nN μ = 8 then 5 else 0)) (nI (nN μ))))) (fun σ' => (vw (vb 0) σ' = pk0 (fo (rg wl (nI 0) (nI 7)) (if nN μ = 8 then 5 else 0)) (upd (upd (upd μ (16 + nN μ) (nI (toN wl))) 1 (μ 1 ||| bt1 (nN μ))) 0 (nI (nN μ + 1))) μ) ∧ (σ' 14000 = (nI (fo (rg wl (nI 0) (nI 7)) (if nN μ = 8 then 5 else 0)))) ∧ (∀ a, ((a < 10000 ∨ 10464 ≤ a) ∧ a ≠ 14000) → σ' a = σ a)) := hQ
  have hN8 := mi_8 hI
  have hvb0 : vb 0 = 10000 := rfl
  have hcFR_σ : ∀ a, ((a < 10000 ∨ 10464 ≤ a) ∧ a ≠ 14000) → σ a = σ a := fun _ _ => rfl
  show G X w 3 0 [(0, .ref (w.1 12)), (1, .int wl)] [] σ
  refine g_aload_n h dX11_add_0 0 rfl ?_
  refine g_getr h dX11_add_1 gX11_23 sc_12 rfl ?_
  refine g_geti h dX11_add_4 gX11_120 (sM_0 (m := 0) (by decide)) rfl ?_
  refine g_top (y := μ 0) (vw_pic (b := (vb 0)) (k := 0) (by first | exact hv | assumption) (by omega)) ?_
  refine g_top (y := nI (nN μ)) (mi_0 (by assumption)) ?_
  refine g_bipush h dX11_add_7 (by decide) ?_
  refine g_icmpN_lt h dX11_add_9 (by omega) (by omega) (fun c9 => ?_) (fun c9 => ?_)
  ·
    refine g_iconst h dX11_add_16 (by decide) ?_
    refine g_istore_n (L' := [(0, .ref (w.1 12)), (1, .int wl), (2, .int (nI 0))]) h dX11_add_17 rfl (by decide) rfl ?_
    refine g_aload_n h dX11_add_18 0 rfl ?_
    refine g_iload_n h dX11_add_19 1 rfl ?_
    refine g_iconst h dX11_add_20 (by decide) ?_
    refine g_bipush h dX11_add_21 (by decide) ?_
    refine g_cspi (rest := [.ref (w.1 12)]) h (c_rg hW wl (nI 0) (nI 7) ) lX11_rangeStatus mX11_102 (Nat.lt_of_lt_of_le (by decide) (Nat.le_refl _)) (by decide) rfl rfl rfl dX11_add_23 ?_
    refine g_iload_n h dX11_add_26 2 rfl ?_
    refine g_cspi (rest := [.ref (w.1 12)]) h (c_fo hW (rg wl (nI 0) (nI 7)) 0 (by repeat (first | omega | exact rg_lt | exact ns_lt | exact ps_lt | exact gst_lt | exact ofS_lt | exact if_lt (by decide) (by decide) | apply fo_lt)) (by repeat (first | omega | exact rg_lt | exact ns_lt | exact ps_lt | exact gst_lt | exact ofS_lt | exact if_lt (by decide) (by decide) | apply fo_lt))) lX11_firstOf mX11_163 (Nat.lt_of_lt_of_le (by decide) (Nat.le_refl _)) (by decide) rfl rfl rfl dX11_add_27 ?_
    refine g_cvi (rest := []) h (c_fails hW (fo (rg wl (nI 0) (nI 7)) 0) (by repeat (first | omega | exact rg_lt | exact ns_lt | exact ps_lt | exact gst_lt | exact ofS_lt | exact if_lt (by decide) (by decide) | apply fo_lt))) lX11_fails mX11_106 (Nat.lt_of_lt_of_le (by decide) (Nat.le_refl _)) (by decide) sc_12 rfl rfl rfl rfl dX11_add_30 (fun σ_1 eσ_1 => ?_)
    obtain ⟨eσ_1_a, eσ_1_b⟩ := eσ_1
    have eσ_1_a : σ_1 14000 = (nI (fo (rg wl (nI 0) (nI 7)) 0)) := eσ_1_a
    have eσ_1_b : ∀ a, (a ≠ 14000) → σ_1 a = σ a := eσ_1_b
    have ht14000_σ_1 : σ_1 14000 = (nI (fo (rg wl (nI 0) (nI 7)) 0)) := eσ_1_a
    have hcFR_σ_1 : ∀ a, ((a < 10000 ∨ 10464 ≤ a) ∧ a ≠ 14000) → σ_1 a = σ a := by intro a ha; exact Eq.trans (b := σ a) (eσ_1_b a (by first | omega | (simp only [vb] at *; omega))) (hcFR_σ a ha)
    have hvσ_1 : vw (vb 0) σ_1 = μ := by rw [vw_fr (σ := σ) (fun j _ _ => eσ_1_b _ (by first | omega | (simp only [vb] at *; omega)))]; first | exact hv | assumption
    refine g_ifB_eq h dX11_add_33 (fun c33 => ?_) (fun c33 => ?_)
    ·
      have hS0 : fo (rg wl (nI 0) (nI 7)) (if nN μ = 8 then 5 else 0) = 0 := by first | (have e8 : nN μ = 8 := (by omega); rw [if_pos e8]; exact nb0 c33) | (have e8 : ¬ nN μ = 8 := (by omega); rw [if_neg e8]; exact nb0 c33)
      obtain ⟨hs1, hs2⟩ := fo_0 hS0
      obtain ⟨ew, hw9⟩ := rg_N (by decide) hs1
      have h8n : nN μ < 8 := if8 hs2 hN8
      rw [ew]
      show G X w 3 38 [(0, .ref (w.1 12)), (1, .int (nI (toN wl))), (2, .int (nI 0))] [] σ_1
      refine g_aload_n h dX11_add_38 0 rfl ?_
      refine g_getr h dX11_add_39 gX11_23 sc_12 rfl ?_
      refine g_iload_n h dX11_add_42 1 rfl ?_
      refine g_cvv (rest := []) h (c_addNode hW (toN wl) 0 μ (by first | omega | decide | fail) (by first | exact hvσ_1 | assumption | fail) (by assumption) (by omega)) lX5_addNode mX11_373 (Nat.lt_of_lt_of_le (by decide) (Nat.le_refl _)) (by decide) (sM_0 (m := 0) (by decide)) rfl rfl rfl rfl dX11_add_43 (fun σ_2 eσ_2 => ?_)
      obtain ⟨eσ_2_a, eσ_2_b⟩ := eσ_2
      have eσ_2_a : vw (vb 0) σ_2 = upd (upd (upd μ (16 + nN μ) (nI (toN wl))) 1 (μ 1 ||| bt1 (nN μ))) 0 (nI (nN μ + 1)) := eσ_2_a
      have eσ_2_b : ∀ a, (a < vb 0 ∨ vb 0 + 464 ≤ a) → σ_2 a = σ_1 a := eσ_2_b
      have ht14000_σ_2 : σ_2 14000 = (nI (fo (rg wl (nI 0) (nI 7)) 0)) := by rw [eσ_2_b _ (by first | omega | (simp only [vb] at *; omega))]; first | exact ht14000_σ_1 | assumption
      have hcFR_σ_2 : ∀ a, ((a < 10000 ∨ 10464 ≤ a) ∧ a ≠ 14000) → σ_2 a = σ a := by intro a ha; exact Eq.trans (b := σ_1 a) (eσ_2_b a (by first | omega | (simp only [vb] at *; omega))) (hcFR_σ_1 a ha)
      obtain ⟨μk, eμk⟩ : ∃ μk : Nat → Int32, μk = upd (upd (upd μ (16 + nN μ) (nI (toN wl))) 1 (μ 1 ||| bt1 (nN μ))) 0 (nI (nN μ + 1)) := ⟨_, rfl⟩
      have hvσ_2 : vw (vb 0) σ_2 = μk := by rw [eμk]; exact eσ_2_a
      refine g_aload_n h dX11_add_46 0 rfl ?_
      refine g_getr h dX11_add_47 gX11_23 sc_12 rfl ?_
      refine g_geti h dX11_add_50 gX11_120 (sM_0 (m := 0) (by decide)) rfl ?_
      refine g_top (y := μk 0) (vw_pic (b := (vb 0)) (k := 0) (by first | exact hvσ_2 | assumption) (by omega)) ?_
      refine g_top (y := (nI (nN μ + 1))) (by rw [eμk]; exact upd_eq) ?_
      refine g_iconst h dX11_add_53 (by decide) ?_
      refine g_isubN h dX11_add_54 (by omega) ?_
      exact g_iret h hQ dX11_add_55 (congrArg (fun z => some (Value.int z)) (show (an (fo (rg wl (nI 0) (nI 7)) (if nN μ = 8 then 5 else 0)) (nI (nN μ))) = (nI ((nN μ + 1) - 1)) by first | exact an_yes (by first | exact hS0 | fail) (by rfl) | exact an_no (k := (fo (rg wl (nI 0) (nI 7)) 0)) (by first | rfl | (simp [c9, c33]; done) | (unfold fo; simp [c9, c33]; done) | (rw [if_pos (by omega)]; done) | (rw [if_neg (by omega)]; done) | fail) (by first | decide | omega | assumption | exact nb1 (by assumption)) | fail)) (by exact ⟨(by first | exact pk_yes (by first | exact hS0 | fail) (by rw [hvσ_2, eμk]) | exact pk_no (k := (fo (rg wl (nI 0) (nI 7)) 0)) (by first | rfl | (simp [c9, c33]; done) | (unfold fo; simp [c9, c33]; done) | (rw [if_pos (by omega)]; done) | (rw [if_neg (by omega)]; done) | fail) (by first | decide | omega | assumption | exact nb1 (by assumption)) hvσ_2 | fail), (by first | exact tk_eq (k := (fo (rg wl (nI 0) (nI 7)) 0)) (by first | rfl | (simp [c9, c33]; done) | (unfold fo; simp [c9, c33]; done) | (rw [if_pos (by omega)]; done) | (rw [if_neg (by omega)]; done) | fail) ht14000_σ_2 | exact tk_eq (k := (fo (rg wl (nI 0) (nI 7)) 0)) (by first | exact hS0 | fail) ht14000_σ_2 | fail), (by exact hcFR_σ_2)⟩)
    ·
      refine g_iconstv h dX11_add_36 (v := (-1)) (by decide) ?_
      exact g_iret h hQ dX11_add_37 (congrArg (fun z => some (Value.int z)) (show (an (fo (rg wl (nI 0) (nI 7)) (if nN μ = 8 then 5 else 0)) (nI (nN μ))) = (-1) by first | exact an_yes (by first | exact hS0 | fail) (by rfl) | exact an_no (k := (fo (rg wl (nI 0) (nI 7)) 0)) (by first | rfl | (simp [c9, c33]; done) | (unfold fo; simp [c9, c33]; done) | (rw [if_pos (by omega)]; done) | (rw [if_neg (by omega)]; done) | fail) (by first | decide | omega | assumption | exact nb1 (by assumption)) | fail)) (by exact ⟨(by first | exact pk_yes (by first | exact hS0 | fail) (by rw [hvσ_1, Nat.add_zero]) | exact pk_no (k := (fo (rg wl (nI 0) (nI 7)) 0)) (by first | rfl | (simp [c9, c33]; done) | (unfold fo; simp [c9, c33]; done) | (rw [if_pos (by omega)]; done) | (rw [if_neg (by omega)]; done) | fail) (by first | decide | omega | assumption | exact nb1 (by assumption)) hvσ_1 | fail), (by first | exact tk_eq (k := (fo (rg wl (nI 0) (nI 7)) 0)) (by first | rfl | (simp [c9, c33]; done) | (unfold fo; simp [c9, c33]; done) | (rw [if_pos (by omega)]; done) | (rw [if_neg (by omega)]; done) | fail) ht14000_σ_1 | exact tk_eq (k := (fo (rg wl (nI 0) (nI 7)) 0)) (by first | exact hS0 | fail) ht14000_σ_1 | fail), (by exact hcFR_σ_1)⟩)
  ·
    refine g_iconst h dX11_add_12 (by decide) ?_
    refine g_goto h dX11_add_13 ?_
    refine g_istore_n (L' := [(0, .ref (w.1 12)), (1, .int wl), (2, .int (nI 5))]) h dX11_add_17 rfl (by decide) rfl ?_
    refine g_aload_n h dX11_add_18 0 rfl ?_
    refine g_iload_n h dX11_add_19 1 rfl ?_
    refine g_iconst h dX11_add_20 (by decide) ?_
    refine g_bipush h dX11_add_21 (by decide) ?_
    refine g_cspi (rest := [.ref (w.1 12)]) h (c_rg hW wl (nI 0) (nI 7) ) lX11_rangeStatus mX11_102 (Nat.lt_of_lt_of_le (by decide) (Nat.le_refl _)) (by decide) rfl rfl rfl dX11_add_23 ?_
    refine g_iload_n h dX11_add_26 2 rfl ?_
    refine g_cspi (rest := [.ref (w.1 12)]) h (c_fo hW (rg wl (nI 0) (nI 7)) 5 (by repeat (first | omega | exact rg_lt | exact ns_lt | exact ps_lt | exact gst_lt | exact ofS_lt | exact if_lt (by decide) (by decide) | apply fo_lt)) (by repeat (first | omega | exact rg_lt | exact ns_lt | exact ps_lt | exact gst_lt | exact ofS_lt | exact if_lt (by decide) (by decide) | apply fo_lt))) lX11_firstOf mX11_163 (Nat.lt_of_lt_of_le (by decide) (Nat.le_refl _)) (by decide) rfl rfl rfl dX11_add_27 ?_
    refine g_cvi (rest := []) h (c_fails hW (fo (rg wl (nI 0) (nI 7)) 5) (by repeat (first | omega | exact rg_lt | exact ns_lt | exact ps_lt | exact gst_lt | exact ofS_lt | exact if_lt (by decide) (by decide) | apply fo_lt))) lX11_fails mX11_106 (Nat.lt_of_lt_of_le (by decide) (Nat.le_refl _)) (by decide) sc_12 rfl rfl rfl rfl dX11_add_30 (fun σ_3 eσ_3 => ?_)
    obtain ⟨eσ_3_a, eσ_3_b⟩ := eσ_3
    have eσ_3_a : σ_3 14000 = (nI (fo (rg wl (nI 0) (nI 7)) 5)) := eσ_3_a
    have eσ_3_b : ∀ a, (a ≠ 14000) → σ_3 a = σ a := eσ_3_b
    have ht14000_σ_3 : σ_3 14000 = (nI (fo (rg wl (nI 0) (nI 7)) 5)) := eσ_3_a
    have hcFR_σ_3 : ∀ a, ((a < 10000 ∨ 10464 ≤ a) ∧ a ≠ 14000) → σ_3 a = σ a := by intro a ha; exact Eq.trans (b := σ a) (eσ_3_b a (by first | omega | (simp only [vb] at *; omega))) (hcFR_σ a ha)
    have hvσ_3 : vw (vb 0) σ_3 = μ := by rw [vw_fr (σ := σ) (fun j _ _ => eσ_3_b _ (by first | omega | (simp only [vb] at *; omega)))]; first | exact hv | assumption
    refine g_ifB_eq h dX11_add_33 (fun c33 => ?_) (fun c33 => ?_)
    ·
      have hS0 : fo (rg wl (nI 0) (nI 7)) (if nN μ = 8 then 5 else 0) = 0 := by first | (have e8 : nN μ = 8 := (by omega); rw [if_pos e8]; exact nb0 c33) | (have e8 : ¬ nN μ = 8 := (by omega); rw [if_neg e8]; exact nb0 c33)
      obtain ⟨hs1, hs2⟩ := fo_0 hS0
      obtain ⟨ew, hw9⟩ := rg_N (by decide) hs1
      have h8n : nN μ < 8 := if8 hs2 hN8
      rw [ew]
      show G X w 3 38 [(0, .ref (w.1 12)), (1, .int (nI (toN wl))), (2, .int (nI 5))] [] σ_3
      refine g_aload_n h dX11_add_38 0 rfl ?_
      refine g_getr h dX11_add_39 gX11_23 sc_12 rfl ?_
      refine g_iload_n h dX11_add_42 1 rfl ?_
      refine g_cvv (rest := []) h (c_addNode hW (toN wl) 0 μ (by first | omega | decide | fail) (by first | exact hvσ_3 | assumption | fail) (by assumption) (by omega)) lX5_addNode mX11_373 (Nat.lt_of_lt_of_le (by decide) (Nat.le_refl _)) (by decide) (sM_0 (m := 0) (by decide)) rfl rfl rfl rfl dX11_add_43 (fun σ_4 eσ_4 => ?_)
      obtain ⟨eσ_4_a, eσ_4_b⟩ := eσ_4
      have eσ_4_a : vw (vb 0) σ_4 = upd (upd (upd μ (16 + nN μ) (nI (toN wl))) 1 (μ 1 ||| bt1 (nN μ))) 0 (nI (nN μ + 1)) := eσ_4_a
      have eσ_4_b : ∀ a, (a < vb 0 ∨ vb 0 + 464 ≤ a) → σ_4 a = σ_3 a := eσ_4_b
      have ht14000_σ_4 : σ_4 14000 = (nI (fo (rg wl (nI 0) (nI 7)) 5)) := by rw [eσ_4_b _ (by first | omega | (simp only [vb] at *; omega))]; first | exact ht14000_σ_3 | assumption
      have hcFR_σ_4 : ∀ a, ((a < 10000 ∨ 10464 ≤ a) ∧ a ≠ 14000) → σ_4 a = σ a := by intro a ha; exact Eq.trans (b := σ_3 a) (eσ_4_b a (by first | omega | (simp only [vb] at *; omega))) (hcFR_σ_3 a ha)
      obtain ⟨μk, eμk⟩ : ∃ μk : Nat → Int32, μk = upd (upd (upd μ (16 + nN μ) (nI (toN wl))) 1 (μ 1 ||| bt1 (nN μ))) 0 (nI (nN μ + 1)) := ⟨_, rfl⟩
      have hvσ_4 : vw (vb 0) σ_4 = μk := by rw [eμk]; exact eσ_4_a
      refine g_aload_n h dX11_add_46 0 rfl ?_
      refine g_getr h dX11_add_47 gX11_23 sc_12 rfl ?_
      refine g_geti h dX11_add_50 gX11_120 (sM_0 (m := 0) (by decide)) rfl ?_
      refine g_top (y := μk 0) (vw_pic (b := (vb 0)) (k := 0) (by first | exact hvσ_4 | assumption) (by omega)) ?_
      refine g_top (y := (nI (nN μ + 1))) (by rw [eμk]; exact upd_eq) ?_
      refine g_iconst h dX11_add_53 (by decide) ?_
      refine g_isubN h dX11_add_54 (by omega) ?_
      exact g_iret h hQ dX11_add_55 (congrArg (fun z => some (Value.int z)) (show (an (fo (rg wl (nI 0) (nI 7)) (if nN μ = 8 then 5 else 0)) (nI (nN μ))) = (nI ((nN μ + 1) - 1)) by first | exact an_yes (by first | exact hS0 | fail) (by rfl) | exact an_no (k := (fo (rg wl (nI 0) (nI 7)) 5)) (by first | rfl | (simp [c9, c33]; done) | (unfold fo; simp [c9, c33]; done) | (rw [if_pos (by omega)]; done) | (rw [if_neg (by omega)]; done) | fail) (by first | decide | omega | assumption | exact nb1 (by assumption)) | fail)) (by exact ⟨(by first | exact pk_yes (by first | exact hS0 | fail) (by rw [hvσ_4, eμk]) | exact pk_no (k := (fo (rg wl (nI 0) (nI 7)) 5)) (by first | rfl | (simp [c9, c33]; done) | (unfold fo; simp [c9, c33]; done) | (rw [if_pos (by omega)]; done) | (rw [if_neg (by omega)]; done) | fail) (by first | decide | omega | assumption | exact nb1 (by assumption)) hvσ_4 | fail), (by first | exact tk_eq (k := (fo (rg wl (nI 0) (nI 7)) 5)) (by first | rfl | (simp [c9, c33]; done) | (unfold fo; simp [c9, c33]; done) | (rw [if_pos (by omega)]; done) | (rw [if_neg (by omega)]; done) | fail) ht14000_σ_4 | exact tk_eq (k := (fo (rg wl (nI 0) (nI 7)) 5)) (by first | exact hS0 | fail) ht14000_σ_4 | fail), (by exact hcFR_σ_4)⟩)
    ·
      refine g_iconstv h dX11_add_36 (v := (-1)) (by decide) ?_
      exact g_iret h hQ dX11_add_37 (congrArg (fun z => some (Value.int z)) (show (an (fo (rg wl (nI 0) (nI 7)) (if nN μ = 8 then 5 else 0)) (nI (nN μ))) = (-1) by first | exact an_yes (by first | exact hS0 | fail) (by rfl) | exact an_no (k := (fo (rg wl (nI 0) (nI 7)) 5)) (by first | rfl | (simp [c9, c33]; done) | (unfold fo; simp [c9, c33]; done) | (rw [if_pos (by omega)]; done) | (rw [if_neg (by omega)]; done) | fail) (by first | decide | omega | assumption | exact nb1 (by assumption)) | fail)) (by exact ⟨(by first | exact pk_yes (by first | exact hS0 | fail) (by rw [hvσ_3, Nat.add_zero]) | exact pk_no (k := (fo (rg wl (nI 0) (nI 7)) 5)) (by first | rfl | (simp [c9, c33]; done) | (unfold fo; simp [c9, c33]; done) | (rw [if_pos (by omega)]; done) | (rw [if_neg (by omega)]; done) | fail) (by first | decide | omega | assumption | exact nb1 (by assumption)) hvσ_3 | fail), (by first | exact tk_eq (k := (fo (rg wl (nI 0) (nI 7)) 5)) (by first | rfl | (simp [c9, c33]; done) | (unfold fo; simp [c9, c33]; done) | (rw [if_pos (by omega)]; done) | (rw [if_neg (by omega)]; done) | fail) ht14000_σ_3 | exact tk_eq (k := (fo (rg wl (nI 0) (nI 7)) 5)) (by first | exact hS0 | fail) ht14000_σ_3 | fail), (by exact hcFR_σ_3)⟩)

set_option maxRecDepth 100000 in
set_option maxHeartbeats 4000000 in
theorem r_tickBy {l : Launch} {w : Wd} (hW : Wi w) {σ : Mem} (n d ls nt : Nat) (lo : Int32) (g : Nat → Nat → Int32) (μ : Nat → Int32) (hv : vw 0 σ = μ) (hI : MI μ) (h7 : μ 7 = nI nt) (hnt : nt + 2000 < 2 ^ 30) (hn : n ≤ 200) (hcRLs_σ : RLs σ d ls lo) (hcLR_σ : LR 0 σ nt g) : MC l w qX12_tickBy 6 [.ref (w.1 0), .int (nI n)] σ none (fun σ' => (vw 0 σ' = (tkL ls (μ, d, lo, g) n).1) ∧ (RLs σ' (tkL ls (μ, d, lo, g) n).2.1 ls (tkL ls (μ, d, lo, g) n).2.2.1) ∧ (LR 0 σ' (nA (tkL ls (μ, d, lo, g) n).1 7) (tkL ls (μ, d, lo, g) n).2.2.2) ∧ (∀ a, (528 ≤ a ∧ (a < 4900 ∨ a = 4901 ∨ 6000 ≤ a)) → σ' a = σ a)) := by
  refine MC.of hW (by decide +kernel) (Nat.le_of_ble_eq_true rfl) (fun X h hQ hnm => ?_)
  have h : Fx X w cX12_tickBy 3 RX12 6 := h
  have hQ : Qx X w none none (fun σ' => (vw 0 σ' = (tkL ls (μ, d, lo, g) n).1) ∧ (RLs σ' (tkL ls (μ, d, lo, g) n).2.1 ls (tkL ls (μ, d, lo, g) n).2.2.1) ∧ (LR 0 σ' (nA (tkL ls (μ, d, lo, g) n).1 7) (tkL ls (μ, d, lo, g) n).2.2.2) ∧ (∀ a, (528 ≤ a ∧ (a < 4900 ∨ a = 4901 ∨ 6000 ≤ a)) → σ' a = σ a)) := hQ
  have hN8 := mi_8 hI
  have hcFR_σ : ∀ a, (528 ≤ a ∧ (a < 4900 ∨ a = 4901 ∨ 6000 ≤ a)) → σ a = σ a := fun _ _ => rfl
  show G X w 3 0 [(0, .ref (w.1 0)), (1, .int (nI n))] [] σ
  refine g_iconst h dX12_tickBy_0 (by decide) ?_
  refine g_istore_n (L' := [(0, .ref (w.1 0)), (1, .int (nI n)), (2, .int (nI 0))]) h dX12_tickBy_1 rfl (by decide) rfl ?_
  have lp2 : ∀ (k9 : Nat) (k : Nat) (μ1 : Nat → Int32) (d1 : Nat) (lo1 : Int32) (n1 : Nat) (g1 : Nat → Nat → Int32) (τ : Mem), (tkL ls (μ, d, lo, g) k = (μ1, d1, lo1, g1)) → (k ≤ n) → (μ1 7 = nI n1) → (n1 ≤ nt + 8 * k) → (vw 0 τ = μ1) → (RLs τ d1 ls lo1) → (LR 0 τ n1 g1) → (∀ a, (528 ≤ a ∧ (a < 4900 ∨ a = 4901 ∨ 6000 ≤ a)) → τ a = σ a) → n - k < k9 → G X w 3 2 [(0, .ref (w.1 0)), (1, .int (nI n)), (2, .int (nI k))] [] (τ) := by
    intro k9
    induction k9 with
    | zero => intro k μ1 d1 lo1 n1 g1 τ hT hk h71 hn1 hvτ hcRLs_τ hcLR_τ hcFR_τ hm9; exact absurd hm9 (Nat.not_lt_zero _)
    | succ k9 ih2 =>
      intro k μ1 d1 lo1 n1 g1 τ hT hk h71 hn1 hvτ hcRLs_τ hcLR_τ hcFR_τ hm2
      have hA := tkL_all (ls := ls) (s := (μ, d, lo, g)) hI k
      rw [hT] at hA
      have hI1 : MI μ1 := hA.1
      refine g_iload_n h dX12_tickBy_2 2 rfl ?_
      refine g_iload_n h dX12_tickBy_3 1 rfl ?_
      refine g_icmpN_ge h dX12_tickBy_4 (by omega) (by omega) (fun c4 => ?_) (fun c4 => ?_)
      ·
        have hE : tkL ls (μ, d, lo, g) n = (μ1, d1, lo1, g1) := by rw [← hT, show k = n from by omega]
        exact g_vret h hQ dX12_tickBy_17 rfl (by exact ⟨(by rw [hE]; exact hvτ), (by rw [hE]; exact hcRLs_τ), (by rw [hE]; dsimp only; rw [nA_nI (by omega) h71]; exact hcLR_τ), (by exact hcFR_τ)⟩)
      ·
        refine g_aload_n h dX12_tickBy_7 0 rfl ?_
        refine g_cvv (rest := []) h (r_ticks hW μ1 d1 ls n1 lo1 g1 (by first | exact hvτ | assumption | fail) (by exact hI1) (by exact h71) (by omega) (by first | exact hcRLs_τ | assumption | fail) (by first | exact hcLR_τ | assumption | fail)) lX12_ticks mX12_336 (Nat.lt_of_lt_of_le (by decide) (Nat.le_refl _)) (by decide) sc_0 rfl rfl rfl rfl dX12_tickBy_8 (fun σ_1 eσ_1 => ?_)
        obtain ⟨eσ_1_a, eσ_1_b, eσ_1_c, eσ_1_d⟩ := eσ_1
        have eσ_1_a : vw 0 σ_1 = (tkF ls (μ1, d1, lo1, g1)).1 := eσ_1_a
        have eσ_1_b : RLs σ_1 (tkF ls (μ1, d1, lo1, g1)).2.1 ls (tkF ls (μ1, d1, lo1, g1)).2.2.1 := eσ_1_b
        have eσ_1_c : LR 0 σ_1 (nA (tkF ls (μ1, d1, lo1, g1)).1 7) (tkF ls (μ1, d1, lo1, g1)).2.2.2 := eσ_1_c
        have eσ_1_d : ∀ a, (528 ≤ a ∧ (a < 4900 ∨ a = 4901 ∨ 6000 ≤ a)) → σ_1 a = (τ) a := eσ_1_d
        have hcRLs_σ_1 : RLs σ_1 (tkF ls (μ1, d1, lo1, g1)).2.1 ls (tkF ls (μ1, d1, lo1, g1)).2.2.1 := eσ_1_b
        have hcLR_σ_1 : LR 0 σ_1 (nA (tkF ls (μ1, d1, lo1, g1)).1 7) (tkF ls (μ1, d1, lo1, g1)).2.2.2 := eσ_1_c
        have hcFR_σ_1 : ∀ a, (528 ≤ a ∧ (a < 4900 ∨ a = 4901 ∨ 6000 ≤ a)) → σ_1 a = σ a := by intro a ha; exact Eq.trans (b := (τ) a) (eσ_1_d a (by first | omega | (simp only [vb] at *; omega))) (hcFR_τ a ha)
        obtain ⟨μ_2, eμ_2⟩ : ∃ μ_2 : Nat → Int32, μ_2 = (tkF ls (μ1, d1, lo1, g1)).1 := ⟨_, rfl⟩
        have hvσ_1 : vw 0 σ_1 = μ_2 := by rw [eμ_2]; exact eσ_1_a
        obtain ⟨n7, hn7, e7⟩ := tkF_7 (ls := ls) (s := (μ1, d1, lo1, g1)) hI1 h71
        have e7n : n7 = nA (tkF ls (μ1, d1, lo1, g1)).1 7 := (nA_nI (by omega) e7).symm
        have h7n : (tkF ls (μ1, d1, lo1, g1)).1 7 = nI (nA (tkF ls (μ1, d1, lo1, g1)).1 7) := by rw [← e7n]; exact e7
        refine g_iincN (b := 1) (L' := [(0, .ref (w.1 0)), (1, .int (nI n)), (2, .int (nI (k + 1)))]) h dX12_tickBy_11 2 rfl rfl (by decide) (by decide) rfl ?_
        refine g_goto h dX12_tickBy_14 ?_
        exact ih2 (k + 1) μ_2 ((tkF ls (μ1, d1, lo1, g1)).2.1) ((tkF ls (μ1, d1, lo1, g1)).2.2.1) (nA (tkF ls (μ1, d1, lo1, g1)).1 7) ((tkF ls (μ1, d1, lo1, g1)).2.2.2) σ_1 (by rw [tkL, hT, eμ_2]) (by omega) (by rw [eμ_2]; exact h7n) (by rw [← e7n]; omega) (by first | exact hvσ_1 | assumption | fail | fail) (by first | exact hcRLs_σ_1 | assumption | fail | fail) (by first | exact hcLR_σ_1 | assumption | fail | fail) (by first | exact hcFR_σ_1 | assumption | fail | fail) (by omega)
  exact lp2 (_) 0 μ d lo nt g σ (by rfl) (by omega) (by exact h7) (by omega) (by first | exact hv | assumption | fail | fail) (by first | exact hcRLs_σ | assumption | fail | fail) (by first | exact hcLR_σ | assumption | fail | fail) (by first | exact hcFR_σ | assumption | fail | fail) (Nat.lt_succ_self _)

theorem lr_y {s n n1 : Nat} {g g1 : Nat → Nat → Int32} {σ : Mem} (h : s = 0) (hL : LR 0 σ n1 g1) : LR 0 σ (if s = 0 then n1 else n) (if s = 0 then g1 else g) := by
  rw [if_pos h, if_pos h]
  exact hL
theorem lr_n {s k n n1 : Nat} {g g1 : Nat → Nat → Int32} {σ : Mem} (h : s = k) (hk : k ≠ 0) (hL : LR 0 σ n g) : LR 0 σ (if s = 0 then n1 else n) (if s = 0 then g1 else g) := by
  rw [if_neg (by omega), if_neg (by omega)]
  exact hL
theorem lc_y {b s n n1 : Nat} {g g1 : Nat → Nat → Int32} {σ : Mem} (h : s = 0) (hL : LC b σ n1 g1) : LC b σ (if s = 0 then n1 else n) (if s = 0 then g1 else g) := by
  rw [if_pos h, if_pos h]
  exact hL
theorem lc_n {b s k n n1 : Nat} {g g1 : Nat → Nat → Int32} {σ : Mem} (h : s = k) (hk : k ≠ 0) (hL : LC b σ n g) : LC b σ (if s = 0 then n1 else n) (if s = 0 then g1 else g) := by
  rw [if_neg (by omega), if_neg (by omega)]
  exact hL

set_option maxRecDepth 100000 in
set_option maxHeartbeats 4000000 in
theorem q_tick {l : Launch} {w : Wd} (hW : Wi w) {σ : Mem} (n : Int32) (nt : Nat) (g : Nat → Nat → Int32) (μ : Nat → Int32) (hv : vw 0 σ = μ) (hI : MI μ) (h7 : μ 7 = nI nt) (hnt : nt + 2000 < 2 ^ 30) (hcLR_σ : LR 0 σ nt g) : MC l w qX12_tick 7 [.ref (w.1 0), .int n] σ (some (.int (an (rg n (nI 1) (nI 200)) ((tkL 0 (μ, 0, nI 0, g) (toN n)).1 2)))) (fun σ' => (vw 0 σ' = pk0 (rg n (nI 1) (nI 200)) ((tkL 0 (μ, 0, nI 0, g) (toN n)).1) μ) ∧ (σ' 4000 = (nI (rg n (nI 1) (nI 200)))) ∧ (LR 0 σ' (if rg n (nI 1) (nI 200) = 0 then nA (tkL 0 (μ, 0, nI 0, g) (toN n)).1 7 else nt) (if rg n (nI 1) (nI 200) = 0 then (tkL 0 (μ, 0, nI 0, g) (toN n)).2.2.2 else g)) ∧ (∀ a, (528 ≤ a ∧ (a < 4900 ∨ 6000 ≤ a) ∧ a ≠ 4000) → σ' a = σ a)) := by
  refine MC.of hW (by decide +kernel) (Nat.le_of_ble_eq_true rfl) (fun X h hQ hnm => ?_)
  have h : Fx X w cX12_tick 2 RX12 7 := h
  have hQ : Qx X w (some .int) (some (.int (an (rg n (nI 1) (nI 200)) ((tkL 0 (μ, 0, nI 0, g) (toN n)).1 2)))) (fun σ' => (vw 0 σ' = pk0 (rg n (nI 1) (nI 200)) ((tkL 0 (μ, 0, nI 0, g) (toN n)).1) μ) ∧ (σ' 4000 = (nI (rg n (nI 1) (nI 200)))) ∧ (LR 0 σ' (if rg n (nI 1) (nI 200) = 0 then nA (tkL 0 (μ, 0, nI 0, g) (toN n)).1 7 else nt) (if rg n (nI 1) (nI 200) = 0 then (tkL 0 (μ, 0, nI 0, g) (toN n)).2.2.2 else g)) ∧ (∀ a, (528 ≤ a ∧ (a < 4900 ∨ 6000 ≤ a) ∧ a ≠ 4000) → σ' a = σ a)) := hQ
  have hN8 := mi_8 hI
  have hcFR_σ : ∀ a, (528 ≤ a ∧ (a < 4900 ∨ 6000 ≤ a) ∧ a ≠ 4000) → σ a = σ a := fun _ _ => rfl
  show G X w 2 0 [(0, .ref (w.1 0)), (1, .int n)] [] σ
  refine g_iload_n h dX12_tick_0 1 rfl ?_
  refine g_iconst h dX12_tick_1 (by decide) ?_
  refine g_sipush h dX12_tick_2 (by decide) ?_
  refine g_cspi (rest := []) h (r_isFrom hW n (nI 1) (nI 200) ) lX12_isFrom mX12_134 (Nat.lt_of_lt_of_le (by decide) (Nat.le_refl _)) (by decide) rfl rfl rfl dX12_tick_5 ?_
  refine g_ifB_ne h dX12_tick_8 (fun c8 => ?_) (fun c8 => ?_)
  ·
    obtain ⟨en, hn9⟩ := fr_N1 (by decide) c8
    rw [en]
    show G X w 2 17 [(0, .ref (w.1 0)), (1, .int (nI (toN n)))] [] σ
    refine g_aload_n h dX12_tick_17 0 rfl ?_
    refine g_iconstv h dX12_tick_18 (v := (-1)) (by decide) ?_
    refine g_puti h dX12_tick_19 pX12_105 sc_0 rfl ?_
    refine g_nm (fun σL eσL => ?_)
    have eσL : σL = upd σ 4901 (-1) := eσL
    have hcLR_σL : LR 0 σL nt g := by rw [eσL]; exact LR.fr hcLR_σ (fun a ha => upd_ne (by first | omega | (simp only [vb] at *; omega)))
    have hcFR_σL : ∀ a, (528 ≤ a ∧ (a < 4900 ∨ 6000 ≤ a) ∧ a ≠ 4000) → σL a = σ a := by intro a ha; exact Eq.trans (b := σ a) (by rw [eσL, upd_ne (by first | omega | (simp only [vb] at *; omega))]) (hcFR_σ a ha)
    have hvσL : vw 0 σL = μ := by rw [eσL, vw_out (by omega)]; first | exact hv | assumption
    have hcRLs_σL : RLs σL 0 0 (nI 0) := Or.inl ⟨by rw [eσL]; exact upd_eq, rfl⟩
    refine g_aload_n h dX12_tick_22 0 rfl ?_
    refine g_iload_n h dX12_tick_23 1 rfl ?_
    refine g_cvv (rest := []) h (r_tickBy hW (toN n) 0 0 nt (nI 0) g μ (by first | exact hvσL | assumption | fail) (by assumption) (by omega) (by omega) (by omega) (by first | exact hcRLs_σL | assumption | fail) (by first | exact hcLR_σL | assumption | fail)) lX12_tickBy mX12_354 (Nat.lt_of_lt_of_le (by decide) (Nat.le_refl _)) (by decide) sc_0 rfl rfl rfl rfl dX12_tick_24 (fun σ_1 eσ_1 => ?_)
    obtain ⟨eσ_1_a, eσ_1_b, eσ_1_c, eσ_1_d⟩ := eσ_1
    have eσ_1_a : vw 0 σ_1 = (tkL 0 (μ, 0, (nI 0), g) (toN n)).1 := eσ_1_a
    have eσ_1_b : RLs σ_1 (tkL 0 (μ, 0, (nI 0), g) (toN n)).2.1 0 (tkL 0 (μ, 0, (nI 0), g) (toN n)).2.2.1 := eσ_1_b
    have eσ_1_c : LR 0 σ_1 (nA (tkL 0 (μ, 0, (nI 0), g) (toN n)).1 7) (tkL 0 (μ, 0, (nI 0), g) (toN n)).2.2.2 := eσ_1_c
    have eσ_1_d : ∀ a, (528 ≤ a ∧ (a < 4900 ∨ a = 4901 ∨ 6000 ≤ a)) → σ_1 a = σL a := eσ_1_d
    have hcLR_σ_1 : LR 0 σ_1 (nA (tkL 0 (μ, 0, (nI 0), g) (toN n)).1 7) (tkL 0 (μ, 0, (nI 0), g) (toN n)).2.2.2 := eσ_1_c
    have hcFR_σ_1 : ∀ a, (528 ≤ a ∧ (a < 4900 ∨ 6000 ≤ a) ∧ a ≠ 4000) → σ_1 a = σ a := by intro a ha; exact Eq.trans (b := σL a) (eσ_1_d a (by first | omega | (simp only [vb] at *; omega))) (hcFR_σL a ha)
    have hcRLs_σ_1 : RLs σ_1 (tkL 0 (μ, 0, (nI 0), g) (toN n)).2.1 0 (tkL 0 (μ, 0, (nI 0), g) (toN n)).2.2.1 := eσ_1_b
    obtain ⟨μk, eμk⟩ : ∃ μk : Nat → Int32, μk = (tkL 0 (μ, 0, (nI 0), g) (toN n)).1 := ⟨_, rfl⟩
    have hvσ_1 : vw 0 σ_1 = μk := by rw [eμk]; exact eσ_1_a
    refine g_aload_n h dX12_tick_27 0 rfl ?_
    refine g_aload_n h dX12_tick_28 0 rfl ?_
    refine g_iconst h dX12_tick_29 (by decide) ?_
    refine g_cvpi (rest := [.ref (w.1 0)]) h (r_of hW 2 μk (by assumption) (by omega)) lX12_of mX12_61 (Nat.lt_of_lt_of_le (by decide) (Nat.le_refl _)) (by decide) sc_0 rfl rfl rfl rfl dX12_tick_30 ?_
    refine g_top (y := ((tkL 0 (μ, 0, nI 0, g) (toN n)).1 2)) (by rw [eμk]) ?_
    refine g_cvi (rest := []) h (r_gives hW ((tkL 0 (μ, 0, nI 0, g) (toN n)).1 2) ) lX12_gives mX12_281 (Nat.lt_of_lt_of_le (by decide) (Nat.le_refl _)) (by decide) sc_0 rfl rfl rfl rfl dX12_tick_33 (fun σ_2 eσ_2 => ?_)
    have eσ_2_a : σ_2 = upd σ_1 4000 (nI 0) := eσ_2
    have ht4000_σ_2 : σ_2 4000 = (nI 0) := by rw [eσ_2_a]; exact upd_eq
    have hcLR_σ_2 : LR 0 σ_2 (nA (tkL 0 (μ, 0, (nI 0), g) (toN n)).1 7) (tkL 0 (μ, 0, (nI 0), g) (toN n)).2.2.2 := by rw [eσ_2_a]; exact LR.fr hcLR_σ_1 (fun a ha => upd_ne (by first | omega | (simp only [vb] at *; omega)))
    have hcFR_σ_2 : ∀ a, (528 ≤ a ∧ (a < 4900 ∨ 6000 ≤ a) ∧ a ≠ 4000) → σ_2 a = σ a := by intro a ha; exact Eq.trans (b := σ_1 a) (by rw [eσ_2_a, upd_ne (by first | omega | (simp only [vb] at *; omega))]) (hcFR_σ_1 a ha)
    have hcRLs_σ_2 : RLs σ_2 (tkL 0 (μ, 0, (nI 0), g) (toN n)).2.1 0 (tkL 0 (μ, 0, (nI 0), g) (toN n)).2.2.1 := by rw [eσ_2_a]; exact RLs.fr hcRLs_σ_1 (upd_ne (by omega)) (upd_ne (by omega)) (upd_ne (by omega))
    have hvσ_2 : vw 0 σ_2 = μk := by rw [eσ_2_a, vw_out (by omega)]; first | exact hvσ_1 | assumption
    exact g_iret h hQ dX12_tick_36 (congrArg (fun z => some (Value.int z)) (show (an (rg n (nI 1) (nI 200)) ((tkL 0 (μ, 0, nI 0, g) (toN n)).1 2)) = ((tkL 0 (μ, 0, nI 0, g) (toN n)).1 2) by first | exact an_yes (by first | rfl | (simp [fo, rg, ns, nB, ps, gst, ofS, offB, c8]; done) | (simp [fo, rg, ns, nB, ps, gst, ofS, offB, c8]; omega) | fail) (by rfl) | exact an_no (k := 0) (by first | rfl | (simp [fo, rg, ns, nB, ps, gst, ofS, offB, c8]; done) | (simp [fo, rg, ns, nB, ps, gst, ofS, offB, c8]; omega) | fail) (by first | decide | omega | assumption | exact nb1 (by assumption)) | fail)) (by exact ⟨(by first | exact pk_yes (by first | rfl | (simp [fo, rg, ns, nB, ps, gst, ofS, offB, c8]; done) | (simp [fo, rg, ns, nB, ps, gst, ofS, offB, c8]; omega) | fail) (by rw [hvσ_2, eμk]) | exact pk_no (k := 0) (by first | rfl | (simp [fo, rg, ns, nB, ps, gst, ofS, offB, c8]; done) | (simp [fo, rg, ns, nB, ps, gst, ofS, offB, c8]; omega) | fail) (by first | decide | omega | assumption | exact nb1 (by assumption)) hvσ_2 | fail), (by first | exact tk_eq (k := 0) (by first | rfl | (simp [fo, rg, ns, nB, ps, gst, ofS, offB, c8]; done) | (simp [fo, rg, ns, nB, ps, gst, ofS, offB, c8]; omega) | fail) ht4000_σ_2 | exact tk_eq (k := 0) (by first | rfl | (simp [fo, rg, ns, nB, ps, gst, ofS, offB, c8]; done) | (simp [fo, rg, ns, nB, ps, gst, ofS, offB, c8]; omega) | fail) ht4000_σ_2 | fail), (by first | exact lr_y (by first | rfl | (simp [fo, rg, ns, nB, ps, gst, ofS, offB, c8]; done) | (simp [fo, rg, ns, nB, ps, gst, ofS, offB, c8]; omega) | fail) hcLR_σ_2 | exact lr_n (k := 0) (by first | rfl | (simp [fo, rg, ns, nB, ps, gst, ofS, offB, c8]; done) | (simp [fo, rg, ns, nB, ps, gst, ofS, offB, c8]; omega) | fail) (by first | decide | omega | assumption | exact nb1 (by assumption)) hcLR_σ_2 | fail), (by exact hcFR_σ_2)⟩)
  ·
    refine g_aload_n h dX12_tick_11 0 rfl ?_
    refine g_iconst h dX12_tick_12 (by decide) ?_
    refine g_cvi (rest := []) h (r_refuse hW (nI 1) ) lX12_refuse mX12_272 (Nat.lt_of_lt_of_le (by decide) (Nat.le_refl _)) (by decide) sc_0 rfl rfl rfl rfl dX12_tick_13 (fun σ_3 eσ_3 => ?_)
    have eσ_3_a : σ_3 = upd σ 4000 (nI 1) := eσ_3
    have ht4000_σ_3 : σ_3 4000 = (nI 1) := by rw [eσ_3_a]; exact upd_eq
    have hcLR_σ_3 : LR 0 σ_3 nt g := by rw [eσ_3_a]; exact LR.fr hcLR_σ (fun a ha => upd_ne (by first | omega | (simp only [vb] at *; omega)))
    have hcFR_σ_3 : ∀ a, (528 ≤ a ∧ (a < 4900 ∨ 6000 ≤ a) ∧ a ≠ 4000) → σ_3 a = σ a := by intro a ha; exact Eq.trans (b := σ a) (by rw [eσ_3_a, upd_ne (by first | omega | (simp only [vb] at *; omega))]) (hcFR_σ a ha)
    have hvσ_3 : vw 0 σ_3 = μ := by rw [eσ_3_a, vw_out (by omega)]; first | exact hv | assumption
    exact g_iret h hQ dX12_tick_16 (congrArg (fun z => some (Value.int z)) (show (an (rg n (nI 1) (nI 200)) ((tkL 0 (μ, 0, nI 0, g) (toN n)).1 2)) = (-1) by first | exact an_yes (by first | rfl | (simp [fo, rg, ns, nB, ps, gst, ofS, offB, c8]; done) | (simp [fo, rg, ns, nB, ps, gst, ofS, offB, c8]; omega) | fail) (by rfl) | exact an_no (k := 1) (by first | rfl | (simp [fo, rg, ns, nB, ps, gst, ofS, offB, c8]; done) | (simp [fo, rg, ns, nB, ps, gst, ofS, offB, c8]; omega) | fail) (by first | decide | omega | assumption | exact nb1 (by assumption)) | fail)) (by exact ⟨(by first | exact pk_yes (by first | rfl | (simp [fo, rg, ns, nB, ps, gst, ofS, offB, c8]; done) | (simp [fo, rg, ns, nB, ps, gst, ofS, offB, c8]; omega) | fail) (by rw [hvσ_3, eμk]) | exact pk_no (k := 1) (by first | rfl | (simp [fo, rg, ns, nB, ps, gst, ofS, offB, c8]; done) | (simp [fo, rg, ns, nB, ps, gst, ofS, offB, c8]; omega) | fail) (by first | decide | omega | assumption | exact nb1 (by assumption)) hvσ_3 | fail), (by first | exact tk_eq (k := 1) (by first | rfl | (simp [fo, rg, ns, nB, ps, gst, ofS, offB, c8]; done) | (simp [fo, rg, ns, nB, ps, gst, ofS, offB, c8]; omega) | fail) ht4000_σ_3 | exact tk_eq (k := 1) (by first | rfl | (simp [fo, rg, ns, nB, ps, gst, ofS, offB, c8]; done) | (simp [fo, rg, ns, nB, ps, gst, ofS, offB, c8]; omega) | fail) ht4000_σ_3 | fail), (by first | exact lr_y (by first | rfl | (simp [fo, rg, ns, nB, ps, gst, ofS, offB, c8]; done) | (simp [fo, rg, ns, nB, ps, gst, ofS, offB, c8]; omega) | fail) hcLR_σ_3 | exact lr_n (k := 1) (by first | rfl | (simp [fo, rg, ns, nB, ps, gst, ofS, offB, c8]; done) | (simp [fo, rg, ns, nB, ps, gst, ofS, offB, c8]; omega) | fail) (by first | decide | omega | assumption | exact nb1 (by assumption)) hcLR_σ_3 | fail), (by exact hcFR_σ_3)⟩)

set_option maxRecDepth 100000 in
set_option maxHeartbeats 8000000 in
theorem p_tick {l : Launch} {w : Wd} (hW : Wi w) {σ : Mem} (n : Int32) (nt : Nat) (g : Nat → Nat → Int32) (μ : Nat → Int32) (hv : vw (vb 0) σ = μ) (hI : MI μ) (h7 : μ 7 = nI nt) (hnt : nt + 2000 < 2 ^ 30) (hcLC_σ : LC (vb 0) σ nt g) : MC l w qX11_tick 6 [.ref (w.1 12), .int n] σ (some (.int (an (rg n (nI 1) (nI 200)) ((tkL 0 (μ, 0, nI 0, g) (toN n)).1 2)))) (fun σ' => (vw (vb 0) σ' = pk0 (rg n (nI 1) (nI 200)) ((tkL 0 (μ, 0, nI 0, g) (toN n)).1) μ) ∧ (σ' 14000 = (nI (rg n (nI 1) (nI 200)))) ∧ (LC (vb 0) σ' (if rg n (nI 1) (nI 200) = 0 then nA (tkL 0 (μ, 0, nI 0, g) (toN n)).1 7 else nt) (if rg n (nI 1) (nI 200) = 0 then (tkL 0 (μ, 0, nI 0, g) (toN n)).2.2.2 else g)) ∧ (∀ a, ((a < 10000 ∨ 10528 ≤ a) ∧ a < 14900 ∧ a ≠ 14000) → σ' a = σ a)) := by
  refine MC.of hW (by decide +kernel) (Nat.le_of_ble_eq_true rfl) (fun X h hQ hnm => ?_)
  have h : Fx X w cX11_tick 3 RX11 6 := h
  have hQ : Qx X w (some .int) (some (.int (an (rg n (nI 1) (nI 200)) ((tkL 0 (μ, 0, nI 0, g) (toN n)).1 2)))) (fun σ' => (vw (vb 0) σ' = pk0 (rg n (nI 1) (nI 200)) ((tkL 0 (μ, 0, nI 0, g) (toN n)).1) μ) ∧ (σ' 14000 = (nI (rg n (nI 1) (nI 200)))) ∧ (LC (vb 0) σ' (if rg n (nI 1) (nI 200) = 0 then nA (tkL 0 (μ, 0, nI 0, g) (toN n)).1 7 else nt) (if rg n (nI 1) (nI 200) = 0 then (tkL 0 (μ, 0, nI 0, g) (toN n)).2.2.2 else g)) ∧ (∀ a, ((a < 10000 ∨ 10528 ≤ a) ∧ a < 14900 ∧ a ≠ 14000) → σ' a = σ a)) := hQ
  have hN8 := mi_8 hI
  have hvb0 : vb 0 = 10000 := rfl
  have hcFR_σ : ∀ a, ((a < 10000 ∨ 10528 ≤ a) ∧ a < 14900 ∧ a ≠ 14000) → σ a = σ a := fun _ _ => rfl
  show G X w 3 0 [(0, .ref (w.1 12)), (1, .int n)] [] σ
  refine g_aload_n h dX11_tick_0 0 rfl ?_
  refine g_iload_n h dX11_tick_1 1 rfl ?_
  refine g_iconst h dX11_tick_2 (by decide) ?_
  refine g_sipush h dX11_tick_3 (by decide) ?_
  refine g_cspi (rest := [.ref (w.1 12)]) h (c_rg hW n (nI 1) (nI 200) ) lX11_rangeStatus mX11_102 (Nat.lt_of_lt_of_le (by decide) (Nat.le_refl _)) (by decide) rfl rfl rfl dX11_tick_6 ?_
  refine g_cvi (rest := []) h (c_fails hW (rg n (nI 1) (nI 200)) (by repeat (first | omega | exact rg_lt | exact ns_lt | exact ps_lt | exact gst_lt | exact ofS_lt | exact if_lt (by decide) (by decide) | apply fo_lt))) lX11_fails mX11_106 (Nat.lt_of_lt_of_le (by decide) (Nat.le_refl _)) (by decide) sc_12 rfl rfl rfl rfl dX11_tick_9 (fun σ_1 eσ_1 => ?_)
  obtain ⟨eσ_1_a, eσ_1_b⟩ := eσ_1
  have eσ_1_a : σ_1 14000 = (nI (rg n (nI 1) (nI 200))) := eσ_1_a
  have eσ_1_b : ∀ a, (a ≠ 14000) → σ_1 a = σ a := eσ_1_b
  have ht14000_σ_1 : σ_1 14000 = (nI (rg n (nI 1) (nI 200))) := eσ_1_a
  have hcLC_σ_1 : LC (vb 0) σ_1 nt g := by exact LC.fr hcLC_σ (fun a ha hb => eσ_1_b a (by first | omega | (simp only [vb] at *; omega)))
  have hcFR_σ_1 : ∀ a, ((a < 10000 ∨ 10528 ≤ a) ∧ a < 14900 ∧ a ≠ 14000) → σ_1 a = σ a := by intro a ha; exact Eq.trans (b := σ a) (eσ_1_b a (by first | omega | (simp only [vb] at *; omega))) (hcFR_σ a ha)
  have hvσ_1 : vw (vb 0) σ_1 = μ := by rw [vw_fr (σ := σ) (fun j _ _ => eσ_1_b _ (by first | omega | (simp only [vb] at *; omega)))]; first | exact hv | assumption
  refine g_ifB_eq h dX11_tick_12 (fun c12 => ?_) (fun c12 => ?_)
  ·
    have hS0 := nb0 c12
    obtain ⟨en, hn9⟩ := rg_N1 (by decide) hS0
    rw [en]
    show G X w 3 17 [(0, .ref (w.1 12)), (1, .int (nI (toN n)))] [] σ_1
    refine g_aload_n h dX11_tick_17 0 rfl ?_
    refine g_getr h dX11_tick_18 gX11_79 sc_12 rfl ?_
    refine g_iconst h dX11_tick_21 (by decide) ?_
    refine g_iconst h dX11_tick_22 (by decide) ?_
    refine g_cvv (rest := []) h (c_begin hW 0 0 (by omega) (by omega)) lX4_begin mX11_349 (Nat.lt_of_lt_of_le (by decide) (Nat.le_refl _)) (by decide) sc_30 rfl rfl rfl rfl dX11_tick_23 (fun σ_2 eσ_2 => ?_)
    obtain ⟨eσ_2_a, eσ_2_b⟩ := eσ_2
    have eσ_2_a : CL σ_2 0 0 (nI 0) := eσ_2_a
    have eσ_2_b : ∀ a, (a < 14900 ∨ 14903 ≤ a) → σ_2 a = σ_1 a := eσ_2_b
    have ht14000_σ_2 : σ_2 14000 = (nI (rg n (nI 1) (nI 200))) := by rw [eσ_2_b _ (by first | omega | (simp only [vb] at *; omega))]; first | exact ht14000_σ_1 | assumption
    have hcLC_σ_2 : LC (vb 0) σ_2 nt g := by exact LC.fr hcLC_σ_1 (fun a ha hb => eσ_2_b a (by first | omega | (simp only [vb] at *; omega)))
    have hcFR_σ_2 : ∀ a, ((a < 10000 ∨ 10528 ≤ a) ∧ a < 14900 ∧ a ≠ 14000) → σ_2 a = σ a := by intro a ha; exact Eq.trans (b := σ_1 a) (eσ_2_b a (by first | omega | (simp only [vb] at *; omega))) (hcFR_σ_1 a ha)
    have hcCL_σ_2 : CL σ_2 0 0 (nI 0) := eσ_2_a
    have hvσ_2 : vw (vb 0) σ_2 = μ := by rw [vw_fr (σ := σ_1) (fun j _ _ => eσ_2_b _ (by first | omega | (simp only [vb] at *; omega)))]; first | exact hvσ_1 | assumption
    refine g_iconst h dX11_tick_26 (by decide) ?_
    refine g_istore_n (L' := [(0, .ref (w.1 12)), (1, .int (nI (toN n))), (2, .int (nI 0))]) h dX11_tick_27 rfl (by decide) rfl ?_
    have lp28 : ∀ (k9 : Nat) (k : Nat) (μ1 : Nat → Int32) (d1 : Nat) (lo1 : Int32) (n1 : Nat) (g1 : Nat → Nat → Int32) (τ : Mem), (tkL 0 (μ, 0, nI 0, g) k = (μ1, d1, lo1, g1)) → (k ≤ toN n) → (μ1 7 = nI n1) → (n1 ≤ nt + 8 * k) → (vw (vb 0) τ = μ1) → (τ 14000 = (nI (rg n (nI 1) (nI 200)))) → (LC (vb 0) τ n1 g1) → (∀ a, ((a < 10000 ∨ 10528 ≤ a) ∧ a < 14900 ∧ a ≠ 14000) → τ a = σ a) → (CL τ d1 0 lo1) → toN n - k < k9 → G X w 3 28 [(0, .ref (w.1 12)), (1, .int (nI (toN n))), (2, .int (nI k))] [] (τ) := by
      intro k9
      induction k9 with
      | zero => intro k μ1 d1 lo1 n1 g1 τ hT hk h71 hn1 hvτ ht14000_τ hcLC_τ hcFR_τ hcCL_τ hm9; exact absurd hm9 (Nat.not_lt_zero _)
      | succ k9 ih28 =>
        intro k μ1 d1 lo1 n1 g1 τ hT hk h71 hn1 hvτ ht14000_τ hcLC_τ hcFR_τ hcCL_τ hm28
        have hA := tkL_all (ls := 0) (s := (μ, 0, nI 0, g)) hI k
        rw [hT] at hA
        have hI1 : MI μ1 := hA.1
        refine g_iload_n h dX11_tick_28 2 rfl ?_
        refine g_iload_n h dX11_tick_29 1 rfl ?_
        refine g_icmpN_ge h dX11_tick_30 (by omega) (by omega) (fun c30 => ?_) (fun c30 => ?_)
        ·
          have hE : (tkL 0 (μ, 0, nI 0, g) (toN n)) = (μ1, d1, lo1, g1) := by rw [← hT, show k = toN n from by omega]
          refine g_aload_n h dX11_tick_54 0 rfl ?_
          refine g_getr h dX11_tick_55 gX11_23 sc_12 rfl ?_
          refine g_geti h dX11_tick_58 gX11_126 (sM_0 (m := 0) (by decide)) rfl ?_
          refine g_top (y := μ1 2) (vw_pic (b := (vb 0)) (k := 2) (by first | exact hvτ | assumption) (by omega)) ?_
          exact g_iret h hQ dX11_tick_61 (congrArg (fun z => some (Value.int z)) (show (an (rg n (nI 1) (nI 200)) ((tkL 0 (μ, 0, nI 0, g) (toN n)).1 2)) = (μ1 2) by first | exact an_yes (by exact hS0) (by rw [hE]) | exact an_no (k := (rg n (nI 1) (nI 200))) (by rfl) (by first | decide | omega | assumption | exact nb1 (by assumption)) | fail)) (by exact ⟨(by first | exact pk_yes (by exact hS0) (by rw [hE]; exact hvτ) | exact pk_no (k := (rg n (nI 1) (nI 200))) (by rfl) (by first | decide | omega | assumption | exact nb1 (by assumption)) hvτ | fail), (by first | exact tk_eq (k := (rg n (nI 1) (nI 200))) (by rfl) ht14000_τ | exact tk_eq (k := (rg n (nI 1) (nI 200))) (by exact hS0) ht14000_τ | fail), (by first | (refine lc_y (by exact hS0) ?_; rw [hE]; dsimp only; rw [nA_nI (by omega) h71]; exact hcLC_τ) | exact lc_n (k := (rg n (nI 1) (nI 200))) rfl (by first | decide | omega | assumption | exact nb1 (by assumption)) hcLC_τ | fail), (by exact hcFR_τ)⟩)
        ·
          refine g_aload_n h dX11_tick_33 0 rfl ?_
          refine g_getr h dX11_tick_34 gX11_88 sc_12 rfl ?_
          refine g_aload_n h dX11_tick_37 0 rfl ?_
          refine g_getr h dX11_tick_38 gX11_23 sc_12 rfl ?_
          refine g_aload_n h dX11_tick_41 0 rfl ?_
          refine g_getr h dX11_tick_42 gX11_79 sc_12 rfl ?_
          refine g_cvv (rest := []) h (c_step hW d1 0 n1 lo1 g1 0 μ1 (by first | omega | decide | fail) (by first | exact hvτ | assumption | fail) (by exact hI1) (by exact h71) (by omega) (by first | exact hcCL_τ | assumption | fail) (by first | exact hcLC_τ | assumption | fail)) lX9_step mX11_379 (Nat.lt_of_lt_of_le (by decide) (Nat.le_refl _)) (by decide) sc_31 rfl rfl rfl rfl dX11_tick_45 (fun σ_3 eσ_3 => ?_)
          obtain ⟨eσ_3_a, eσ_3_b, eσ_3_c, eσ_3_d⟩ := eσ_3
          have eσ_3_a : vw (vb 0) σ_3 = (tkF 0 (μ1, d1, lo1, g1)).1 := eσ_3_a
          have eσ_3_b : CL σ_3 (tkF 0 (μ1, d1, lo1, g1)).2.1 0 (tkF 0 (μ1, d1, lo1, g1)).2.2.1 := eσ_3_b
          have eσ_3_c : LC (vb 0) σ_3 (nA (tkF 0 (μ1, d1, lo1, g1)).1 7) (tkF 0 (μ1, d1, lo1, g1)).2.2.2 := eσ_3_c
          have eσ_3_d : ∀ a, ((a < vb 0 ∨ vb 0 + 528 ≤ a) ∧ a < 14900) → σ_3 a = (τ) a := eσ_3_d
          have ht14000_σ_3 : σ_3 14000 = (nI (rg n (nI 1) (nI 200))) := by rw [eσ_3_d _ (by first | omega | (simp only [vb] at *; omega))]; first | exact ht14000_τ | assumption
          have hcLC_σ_3 : LC (vb 0) σ_3 (nA (tkF 0 (μ1, d1, lo1, g1)).1 7) (tkF 0 (μ1, d1, lo1, g1)).2.2.2 := eσ_3_c
          have hcFR_σ_3 : ∀ a, ((a < 10000 ∨ 10528 ≤ a) ∧ a < 14900 ∧ a ≠ 14000) → σ_3 a = σ a := by intro a ha; exact Eq.trans (b := (τ) a) (eσ_3_d a (by first | omega | (simp only [vb] at *; omega))) (hcFR_τ a ha)
          have hcCL_σ_3 : CL σ_3 (tkF 0 (μ1, d1, lo1, g1)).2.1 0 (tkF 0 (μ1, d1, lo1, g1)).2.2.1 := eσ_3_b
          obtain ⟨μ_4, eμ_4⟩ : ∃ μ_4 : Nat → Int32, μ_4 = (tkF 0 (μ1, d1, lo1, g1)).1 := ⟨_, rfl⟩
          have hvσ_3 : vw (vb 0) σ_3 = μ_4 := by rw [eμ_4]; exact eσ_3_a
          obtain ⟨n7, hn7, e7⟩ := tkF_7 (ls := 0) (s := (μ1, d1, lo1, g1)) hI1 h71
          have e7n : n7 = nA (tkF 0 (μ1, d1, lo1, g1)).1 7 := (nA_nI (by omega) e7).symm
          have h7n : (tkF 0 (μ1, d1, lo1, g1)).1 7 = nI (nA (tkF 0 (μ1, d1, lo1, g1)).1 7) := by rw [← e7n]; exact e7
          refine g_iincN (b := 1) (L' := [(0, .ref (w.1 12)), (1, .int (nI (toN n))), (2, .int (nI (k + 1)))]) h dX11_tick_48 2 rfl rfl (by decide) (by decide) rfl ?_
          refine g_goto h dX11_tick_51 ?_
          exact ih28 (k + 1) μ_4 ((tkF 0 (μ1, d1, lo1, g1)).2.1) ((tkF 0 (μ1, d1, lo1, g1)).2.2.1) (nA (tkF 0 (μ1, d1, lo1, g1)).1 7) ((tkF 0 (μ1, d1, lo1, g1)).2.2.2) σ_3 (by rw [tkL, hT, eμ_4]) (by omega) (by rw [eμ_4]; exact h7n) (by rw [← e7n]; omega) (by first | exact hvσ_3 | assumption | fail | fail) (by first | exact ht14000_σ_3 | assumption | fail | fail) (by first | exact hcLC_σ_3 | assumption | fail | fail) (by first | exact hcFR_σ_3 | assumption | fail | fail) (by first | exact hcCL_σ_3 | assumption | fail | fail) (by omega)
    exact lp28 (_) 0 μ 0 (nI 0) nt g σ_2 (by rfl) (by omega) (by exact h7) (by omega) (by first | exact hvσ_2 | assumption | fail | fail) (by first | exact ht14000_σ_2 | assumption | fail | fail) (by first | exact hcLC_σ_2 | assumption | fail | fail) (by first | exact hcFR_σ_2 | assumption | fail | fail) (by first | exact hcCL_σ_2 | assumption | fail | fail) (Nat.lt_succ_self _)
  ·
    refine g_iconstv h dX11_tick_15 (v := (-1)) (by decide) ?_
    exact g_iret h hQ dX11_tick_16 (congrArg (fun z => some (Value.int z)) (show (an (rg n (nI 1) (nI 200)) ((tkL 0 (μ, 0, nI 0, g) (toN n)).1 2)) = (-1) by first | exact an_yes (by exact hS0) (by rw [hE]) | exact an_no (k := (rg n (nI 1) (nI 200))) (by rfl) (by first | decide | omega | assumption | exact nb1 (by assumption)) | fail)) (by exact ⟨(by first | exact pk_yes (by exact hS0) (by rw [hE]; exact hvσ_1) | exact pk_no (k := (rg n (nI 1) (nI 200))) (by rfl) (by first | decide | omega | assumption | exact nb1 (by assumption)) hvσ_1 | fail), (by first | exact tk_eq (k := (rg n (nI 1) (nI 200))) (by rfl) ht14000_σ_1 | exact tk_eq (k := (rg n (nI 1) (nI 200))) (by exact hS0) ht14000_σ_1 | fail), (by first | (refine lc_y (by exact hS0) ?_; rw [hE]; dsimp only; rw [nA_nI (by omega) h71]; exact hcLC_σ_1) | exact lc_n (k := (rg n (nI 1) (nI 200))) rfl (by first | decide | omega | assumption | exact nb1 (by assumption)) hcLC_σ_1 | fail), (by exact hcFR_σ_1)⟩)

theorem rls_lost {σ : Mem} {d ls k : Nat} {lo : Int32} (h : RLs σ d ls lo) (e : σ 4901 = nI k) (hk : k < 100) : σ 4902 = lo := by
  rcases h with ⟨h1, _⟩ | ⟨_, _, h3, _⟩
  · rw [h1] at e
    exact absurd e.symm (nI_ne_m1 (by omega))
  · exact h3

set_option maxRecDepth 100000 in
set_option maxHeartbeats 4000000 in
theorem q_run {l : Launch} {w : Wd} (hW : Wi w) {σ : Mem} (n : Int32) (sd : Int32) (ls : Int32) (nt : Nat) (g : Nat → Nat → Int32) (μ : Nat → Int32) (hv : vw 0 σ = μ) (hI : MI μ) (h7 : μ 7 = nI nt) (hnt : nt + 2000 < 2 ^ 30) (hcLR_σ : LR 0 σ nt g) : MC l w qX12_run 7 [.ref (w.1 0), .int n, .int sd, .int ls] σ (some (.int (an (fo (fo (rg n (nI 1) (nI 200)) (rg sd (nI 0) (nI 9999))) (rg ls (nI 0) (nI 16))) ((tkL (toN ls) (μ, toN sd, nI 0, g) (toN n)).2.2.1)))) (fun σ' => (vw 0 σ' = pk0 (fo (fo (rg n (nI 1) (nI 200)) (rg sd (nI 0) (nI 9999))) (rg ls (nI 0) (nI 16))) ((tkL (toN ls) (μ, toN sd, nI 0, g) (toN n)).1) μ) ∧ (σ' 4000 = (nI (fo (fo (rg n (nI 1) (nI 200)) (rg sd (nI 0) (nI 9999))) (rg ls (nI 0) (nI 16))))) ∧ (LR 0 σ' (if fo (fo (rg n (nI 1) (nI 200)) (rg sd (nI 0) (nI 9999))) (rg ls (nI 0) (nI 16)) = 0 then nA (tkL (toN ls) (μ, toN sd, nI 0, g) (toN n)).1 7 else nt) (if fo (fo (rg n (nI 1) (nI 200)) (rg sd (nI 0) (nI 9999))) (rg ls (nI 0) (nI 16)) = 0 then (tkL (toN ls) (μ, toN sd, nI 0, g) (toN n)).2.2.2 else g)) ∧ (∀ a, (528 ≤ a ∧ (a < 4900 ∨ 6000 ≤ a) ∧ a ≠ 4000) → σ' a = σ a)) := by
  refine MC.of hW (by decide +kernel) (Nat.le_of_ble_eq_true rfl) (fun X h hQ hnm => ?_)
  have h : Fx X w cX12_run 4 RX12 7 := h
  have hQ : Qx X w (some .int) (some (.int (an (fo (fo (rg n (nI 1) (nI 200)) (rg sd (nI 0) (nI 9999))) (rg ls (nI 0) (nI 16))) ((tkL (toN ls) (μ, toN sd, nI 0, g) (toN n)).2.2.1)))) (fun σ' => (vw 0 σ' = pk0 (fo (fo (rg n (nI 1) (nI 200)) (rg sd (nI 0) (nI 9999))) (rg ls (nI 0) (nI 16))) ((tkL (toN ls) (μ, toN sd, nI 0, g) (toN n)).1) μ) ∧ (σ' 4000 = (nI (fo (fo (rg n (nI 1) (nI 200)) (rg sd (nI 0) (nI 9999))) (rg ls (nI 0) (nI 16))))) ∧ (LR 0 σ' (if fo (fo (rg n (nI 1) (nI 200)) (rg sd (nI 0) (nI 9999))) (rg ls (nI 0) (nI 16)) = 0 then nA (tkL (toN ls) (μ, toN sd, nI 0, g) (toN n)).1 7 else nt) (if fo (fo (rg n (nI 1) (nI 200)) (rg sd (nI 0) (nI 9999))) (rg ls (nI 0) (nI 16)) = 0 then (tkL (toN ls) (μ, toN sd, nI 0, g) (toN n)).2.2.2 else g)) ∧ (∀ a, (528 ≤ a ∧ (a < 4900 ∨ 6000 ≤ a) ∧ a ≠ 4000) → σ' a = σ a)) := hQ
  have hN8 := mi_8 hI
  have hcFR_σ : ∀ a, (528 ≤ a ∧ (a < 4900 ∨ 6000 ≤ a) ∧ a ≠ 4000) → σ a = σ a := fun _ _ => rfl
  show G X w 4 0 [(0, .ref (w.1 0)), (1, .int n), (2, .int sd), (3, .int ls)] [] σ
  refine g_iload_n h dX12_run_0 1 rfl ?_
  refine g_iconst h dX12_run_1 (by decide) ?_
  refine g_sipush h dX12_run_2 (by decide) ?_
  refine g_cspi (rest := []) h (r_isFrom hW n (nI 1) (nI 200) ) lX12_isFrom mX12_134 (Nat.lt_of_lt_of_le (by decide) (Nat.le_refl _)) (by decide) rfl rfl rfl dX12_run_5 ?_
  refine g_ifB_eq h dX12_run_8 (fun c8 => ?_) (fun c8 => ?_)
  ·
    refine g_aload_n h dX12_run_32 0 rfl ?_
    refine g_iconst h dX12_run_33 (by decide) ?_
    refine g_cvi (rest := []) h (r_refuse hW (nI 1) ) lX12_refuse mX12_272 (Nat.lt_of_lt_of_le (by decide) (Nat.le_refl _)) (by decide) sc_0 rfl rfl rfl rfl dX12_run_34 (fun σ_1 eσ_1 => ?_)
    have eσ_1_a : σ_1 = upd σ 4000 (nI 1) := eσ_1
    have ht4000_σ_1 : σ_1 4000 = (nI 1) := by rw [eσ_1_a]; exact upd_eq
    have hcLR_σ_1 : LR 0 σ_1 nt g := by rw [eσ_1_a]; exact LR.fr hcLR_σ (fun a ha => upd_ne (by first | omega | (simp only [vb] at *; omega)))
    have hcFR_σ_1 : ∀ a, (528 ≤ a ∧ (a < 4900 ∨ 6000 ≤ a) ∧ a ≠ 4000) → σ_1 a = σ a := by intro a ha; exact Eq.trans (b := σ a) (by rw [eσ_1_a, upd_ne (by first | omega | (simp only [vb] at *; omega))]) (hcFR_σ a ha)
    have hvσ_1 : vw 0 σ_1 = μ := by rw [eσ_1_a, vw_out (by omega)]; first | exact hv | assumption
    exact g_iret h hQ dX12_run_37 (congrArg (fun z => some (Value.int z)) (show (an (fo (fo (rg n (nI 1) (nI 200)) (rg sd (nI 0) (nI 9999))) (rg ls (nI 0) (nI 16))) ((tkL (toN ls) (μ, toN sd, nI 0, g) (toN n)).2.2.1)) = (-1) by first | exact an_yes (by first | rfl | (simp [fo, rg, ns, nB, ps, gst, ofS, offB, c8]; done) | (simp [fo, rg, ns, nB, ps, gst, ofS, offB, c8]; omega) | fail) (by rfl) | exact an_no (k := 1) (by first | rfl | (simp [fo, rg, ns, nB, ps, gst, ofS, offB, c8]; done) | (simp [fo, rg, ns, nB, ps, gst, ofS, offB, c8]; omega) | fail) (by first | decide | omega | assumption | exact nb1 (by assumption)) | fail)) (by exact ⟨(by first | exact pk_yes (by first | rfl | (simp [fo, rg, ns, nB, ps, gst, ofS, offB, c8]; done) | (simp [fo, rg, ns, nB, ps, gst, ofS, offB, c8]; omega) | fail) (by rw [hvσ_1, eμk]) | exact pk_no (k := 1) (by first | rfl | (simp [fo, rg, ns, nB, ps, gst, ofS, offB, c8]; done) | (simp [fo, rg, ns, nB, ps, gst, ofS, offB, c8]; omega) | fail) (by first | decide | omega | assumption | exact nb1 (by assumption)) hvσ_1 | fail), (by first | exact tk_eq (k := 1) (by first | rfl | (simp [fo, rg, ns, nB, ps, gst, ofS, offB, c8]; done) | (simp [fo, rg, ns, nB, ps, gst, ofS, offB, c8]; omega) | fail) ht4000_σ_1 | exact tk_eq (k := 1) (by first | rfl | (simp [fo, rg, ns, nB, ps, gst, ofS, offB, c8]; done) | (simp [fo, rg, ns, nB, ps, gst, ofS, offB, c8]; omega) | fail) ht4000_σ_1 | fail), (by first | exact lr_y (by first | rfl | (simp [fo, rg, ns, nB, ps, gst, ofS, offB, c8]; done) | (simp [fo, rg, ns, nB, ps, gst, ofS, offB, c8]; omega) | fail) hcLR_σ_1 | exact lr_n (k := 1) (by first | rfl | (simp [fo, rg, ns, nB, ps, gst, ofS, offB, c8]; done) | (simp [fo, rg, ns, nB, ps, gst, ofS, offB, c8]; omega) | fail) (by first | decide | omega | assumption | exact nb1 (by assumption)) hcLR_σ_1 | fail), (by exact hcFR_σ_1)⟩)
  ·
    refine g_iload_n h dX12_run_11 2 rfl ?_
    refine g_iconst h dX12_run_12 (by decide) ?_
    refine g_sipush h dX12_run_13 (by decide) ?_
    refine g_cspi (rest := []) h (r_isFrom hW sd (nI 0) (nI 9999) ) lX12_isFrom mX12_134 (Nat.lt_of_lt_of_le (by decide) (Nat.le_refl _)) (by decide) rfl rfl rfl dX12_run_16 ?_
    refine g_ifB_eq h dX12_run_19 (fun c19 => ?_) (fun c19 => ?_)
    ·
      refine g_aload_n h dX12_run_32 0 rfl ?_
      refine g_iconst h dX12_run_33 (by decide) ?_
      refine g_cvi (rest := []) h (r_refuse hW (nI 1) ) lX12_refuse mX12_272 (Nat.lt_of_lt_of_le (by decide) (Nat.le_refl _)) (by decide) sc_0 rfl rfl rfl rfl dX12_run_34 (fun σ_2 eσ_2 => ?_)
      have eσ_2_a : σ_2 = upd σ 4000 (nI 1) := eσ_2
      have ht4000_σ_2 : σ_2 4000 = (nI 1) := by rw [eσ_2_a]; exact upd_eq
      have hcLR_σ_2 : LR 0 σ_2 nt g := by rw [eσ_2_a]; exact LR.fr hcLR_σ (fun a ha => upd_ne (by first | omega | (simp only [vb] at *; omega)))
      have hcFR_σ_2 : ∀ a, (528 ≤ a ∧ (a < 4900 ∨ 6000 ≤ a) ∧ a ≠ 4000) → σ_2 a = σ a := by intro a ha; exact Eq.trans (b := σ a) (by rw [eσ_2_a, upd_ne (by first | omega | (simp only [vb] at *; omega))]) (hcFR_σ a ha)
      have hvσ_2 : vw 0 σ_2 = μ := by rw [eσ_2_a, vw_out (by omega)]; first | exact hv | assumption
      exact g_iret h hQ dX12_run_37 (congrArg (fun z => some (Value.int z)) (show (an (fo (fo (rg n (nI 1) (nI 200)) (rg sd (nI 0) (nI 9999))) (rg ls (nI 0) (nI 16))) ((tkL (toN ls) (μ, toN sd, nI 0, g) (toN n)).2.2.1)) = (-1) by first | exact an_yes (by first | rfl | (simp [fo, rg, ns, nB, ps, gst, ofS, offB, c8, c19]; done) | (simp [fo, rg, ns, nB, ps, gst, ofS, offB, c8, c19]; omega) | fail) (by rfl) | exact an_no (k := 1) (by first | rfl | (simp [fo, rg, ns, nB, ps, gst, ofS, offB, c8, c19]; done) | (simp [fo, rg, ns, nB, ps, gst, ofS, offB, c8, c19]; omega) | fail) (by first | decide | omega | assumption | exact nb1 (by assumption)) | fail)) (by exact ⟨(by first | exact pk_yes (by first | rfl | (simp [fo, rg, ns, nB, ps, gst, ofS, offB, c8, c19]; done) | (simp [fo, rg, ns, nB, ps, gst, ofS, offB, c8, c19]; omega) | fail) (by rw [hvσ_2, eμk]) | exact pk_no (k := 1) (by first | rfl | (simp [fo, rg, ns, nB, ps, gst, ofS, offB, c8, c19]; done) | (simp [fo, rg, ns, nB, ps, gst, ofS, offB, c8, c19]; omega) | fail) (by first | decide | omega | assumption | exact nb1 (by assumption)) hvσ_2 | fail), (by first | exact tk_eq (k := 1) (by first | rfl | (simp [fo, rg, ns, nB, ps, gst, ofS, offB, c8, c19]; done) | (simp [fo, rg, ns, nB, ps, gst, ofS, offB, c8, c19]; omega) | fail) ht4000_σ_2 | exact tk_eq (k := 1) (by first | rfl | (simp [fo, rg, ns, nB, ps, gst, ofS, offB, c8, c19]; done) | (simp [fo, rg, ns, nB, ps, gst, ofS, offB, c8, c19]; omega) | fail) ht4000_σ_2 | fail), (by first | exact lr_y (by first | rfl | (simp [fo, rg, ns, nB, ps, gst, ofS, offB, c8, c19]; done) | (simp [fo, rg, ns, nB, ps, gst, ofS, offB, c8, c19]; omega) | fail) hcLR_σ_2 | exact lr_n (k := 1) (by first | rfl | (simp [fo, rg, ns, nB, ps, gst, ofS, offB, c8, c19]; done) | (simp [fo, rg, ns, nB, ps, gst, ofS, offB, c8, c19]; omega) | fail) (by first | decide | omega | assumption | exact nb1 (by assumption)) hcLR_σ_2 | fail), (by exact hcFR_σ_2)⟩)
    ·
      refine g_iload_n h dX12_run_22 3 rfl ?_
      refine g_iconst h dX12_run_23 (by decide) ?_
      refine g_bipush h dX12_run_24 (by decide) ?_
      refine g_cspi (rest := []) h (r_isFrom hW ls (nI 0) (nI 16) ) lX12_isFrom mX12_134 (Nat.lt_of_lt_of_le (by decide) (Nat.le_refl _)) (by decide) rfl rfl rfl dX12_run_26 ?_
      refine g_ifB_ne h dX12_run_29 (fun c29 => ?_) (fun c29 => ?_)
      ·
        obtain ⟨en, hn9⟩ := fr_N1 (by decide) c8
        obtain ⟨es, hs9⟩ := fr_N (by decide) c19
        obtain ⟨el, hl9⟩ := fr_N (by decide) c29
        rw [en, es, el]
        show G X w 4 38 [(0, .ref (w.1 0)), (1, .int (nI (toN n))), (2, .int (nI (toN sd))), (3, .int (nI (toN ls)))] [] σ
        refine g_aload_n h dX12_run_38 0 rfl ?_
        refine g_iload_n h dX12_run_39 2 rfl ?_
        refine g_puti h dX12_run_40 pX12_96 sc_0 rfl ?_
        refine g_nm (fun σd eσd => ?_)
        have eσd : σd = upd σ 4900 (nI (toN sd)) := eσd
        have hcLR_σd : LR 0 σd nt g := by rw [eσd]; exact LR.fr hcLR_σ (fun a ha => upd_ne (by first | omega | (simp only [vb] at *; omega)))
        have hcFR_σd : ∀ a, (528 ≤ a ∧ (a < 4900 ∨ 6000 ≤ a) ∧ a ≠ 4000) → σd a = σ a := by intro a ha; exact Eq.trans (b := σ a) (by rw [eσd, upd_ne (by first | omega | (simp only [vb] at *; omega))]) (hcFR_σ a ha)
        have hvσd : vw 0 σd = μ := by rw [eσd, vw_out (by omega)]; first | exact hv | assumption
        refine g_aload_n h dX12_run_43 0 rfl ?_
        refine g_iconst h dX12_run_44 (by decide) ?_
        refine g_puti h dX12_run_45 pX12_111 sc_0 rfl ?_
        refine g_nm (fun σe eσe => ?_)
        have eσe : σe = upd σd 4902 (nI 0) := eσe
        have hcLR_σe : LR 0 σe nt g := by rw [eσe]; exact LR.fr hcLR_σd (fun a ha => upd_ne (by first | omega | (simp only [vb] at *; omega)))
        have hcFR_σe : ∀ a, (528 ≤ a ∧ (a < 4900 ∨ 6000 ≤ a) ∧ a ≠ 4000) → σe a = σ a := by intro a ha; exact Eq.trans (b := σd a) (by rw [eσe, upd_ne (by first | omega | (simp only [vb] at *; omega))]) (hcFR_σd a ha)
        have hvσe : vw 0 σe = μ := by rw [eσe, vw_out (by omega)]; first | exact hvσd | assumption
        refine g_aload_n h dX12_run_48 0 rfl ?_
        refine g_iload_n h dX12_run_49 3 rfl ?_
        refine g_puti h dX12_run_50 pX12_105 sc_0 rfl ?_
        refine g_nm (fun σf eσf => ?_)
        have eσf : σf = upd σe 4901 (nI (toN ls)) := eσf
        have hcLR_σf : LR 0 σf nt g := by rw [eσf]; exact LR.fr hcLR_σe (fun a ha => upd_ne (by first | omega | (simp only [vb] at *; omega)))
        have hcFR_σf : ∀ a, (528 ≤ a ∧ (a < 4900 ∨ 6000 ≤ a) ∧ a ≠ 4000) → σf a = σ a := by intro a ha; exact Eq.trans (b := σe a) (by rw [eσf, upd_ne (by first | omega | (simp only [vb] at *; omega))]) (hcFR_σe a ha)
        have hvσf : vw 0 σf = μ := by rw [eσf, vw_out (by omega)]; first | exact hvσe | assumption
        have hl1 : σf 4901 = nI (toN ls) := by rw [eσf]; exact upd_eq
        have hcRLs_σf : RLs σf (toN sd) (toN ls) (nI 0) := Or.inr ⟨by rw [eσf, upd_ne (by decide), eσe, upd_ne (by decide), eσd]; exact upd_eq, by rw [eσf]; exact upd_eq, by rw [eσf, upd_ne (by decide), eσe]; exact upd_eq, by omega, hl9⟩
        refine g_aload_n h dX12_run_53 0 rfl ?_
        refine g_iload_n h dX12_run_54 1 rfl ?_
        refine g_cvv (rest := []) h (r_tickBy hW (toN n) (toN sd) (toN ls) nt (nI 0) g μ (by first | exact hvσf | assumption | fail) (by assumption) (by omega) (by omega) (by omega) (by first | exact hcRLs_σf | assumption | fail) (by first | exact hcLR_σf | assumption | fail)) lX12_tickBy mX12_354 (Nat.lt_of_lt_of_le (by decide) (Nat.le_refl _)) (by decide) sc_0 rfl rfl rfl rfl dX12_run_55 (fun σt eσt => ?_)
        obtain ⟨eσt_a, eσt_b, eσt_c, eσt_d⟩ := eσt
        have eσt_a : vw 0 σt = (tkL (toN ls) (μ, (toN sd), (nI 0), g) (toN n)).1 := eσt_a
        have eσt_b : RLs σt (tkL (toN ls) (μ, (toN sd), (nI 0), g) (toN n)).2.1 (toN ls) (tkL (toN ls) (μ, (toN sd), (nI 0), g) (toN n)).2.2.1 := eσt_b
        have eσt_c : LR 0 σt (nA (tkL (toN ls) (μ, (toN sd), (nI 0), g) (toN n)).1 7) (tkL (toN ls) (μ, (toN sd), (nI 0), g) (toN n)).2.2.2 := eσt_c
        have eσt_d : ∀ a, (528 ≤ a ∧ (a < 4900 ∨ a = 4901 ∨ 6000 ≤ a)) → σt a = σf a := eσt_d
        have hcLR_σt : LR 0 σt (nA (tkL (toN ls) (μ, (toN sd), (nI 0), g) (toN n)).1 7) (tkL (toN ls) (μ, (toN sd), (nI 0), g) (toN n)).2.2.2 := eσt_c
        have hcFR_σt : ∀ a, (528 ≤ a ∧ (a < 4900 ∨ 6000 ≤ a) ∧ a ≠ 4000) → σt a = σ a := by intro a ha; exact Eq.trans (b := σf a) (eσt_d a (by first | omega | (simp only [vb] at *; omega))) (hcFR_σf a ha)
        have hcRLs_σt : RLs σt (tkL (toN ls) (μ, (toN sd), (nI 0), g) (toN n)).2.1 (toN ls) (tkL (toN ls) (μ, (toN sd), (nI 0), g) (toN n)).2.2.1 := eσt_b
        obtain ⟨μk, eμk⟩ : ∃ μk : Nat → Int32, μk = (tkL (toN ls) (μ, (toN sd), (nI 0), g) (toN n)).1 := ⟨_, rfl⟩
        have hvσt : vw 0 σt = μk := by rw [eμk]; exact eσt_a
        refine g_aload_n h dX12_run_58 0 rfl ?_
        refine g_aload_n h dX12_run_59 0 rfl ?_
        refine g_geti h dX12_run_60 gX12_111 sc_0 rfl ?_
        refine g_top (y := ((tkL (toN ls) (μ, toN sd, nI 0, g) (toN n)).2.2.1)) (rls_lost hcRLs_σt (show σt 4901 = nI (toN ls) by rw [eσt_d 4901 (by omega)]; exact hl1) (by omega)) ?_
        refine g_cvi (rest := []) h (r_gives hW ((tkL (toN ls) (μ, toN sd, nI 0, g) (toN n)).2.2.1) ) lX12_gives mX12_281 (Nat.lt_of_lt_of_le (by decide) (Nat.le_refl _)) (by decide) sc_0 rfl rfl rfl rfl dX12_run_63 (fun σ_3 eσ_3 => ?_)
        have eσ_3_a : σ_3 = upd σt 4000 (nI 0) := eσ_3
        have ht4000_σ_3 : σ_3 4000 = (nI 0) := by rw [eσ_3_a]; exact upd_eq
        have hcLR_σ_3 : LR 0 σ_3 (nA (tkL (toN ls) (μ, (toN sd), (nI 0), g) (toN n)).1 7) (tkL (toN ls) (μ, (toN sd), (nI 0), g) (toN n)).2.2.2 := by rw [eσ_3_a]; exact LR.fr hcLR_σt (fun a ha => upd_ne (by first | omega | (simp only [vb] at *; omega)))
        have hcFR_σ_3 : ∀ a, (528 ≤ a ∧ (a < 4900 ∨ 6000 ≤ a) ∧ a ≠ 4000) → σ_3 a = σ a := by intro a ha; exact Eq.trans (b := σt a) (by rw [eσ_3_a, upd_ne (by first | omega | (simp only [vb] at *; omega))]) (hcFR_σt a ha)
        have hcRLs_σ_3 : RLs σ_3 (tkL (toN ls) (μ, (toN sd), (nI 0), g) (toN n)).2.1 (toN ls) (tkL (toN ls) (μ, (toN sd), (nI 0), g) (toN n)).2.2.1 := by rw [eσ_3_a]; exact RLs.fr hcRLs_σt (upd_ne (by omega)) (upd_ne (by omega)) (upd_ne (by omega))
        have hvσ_3 : vw 0 σ_3 = μk := by rw [eσ_3_a, vw_out (by omega)]; first | exact hvσt | assumption
        exact g_iret h hQ dX12_run_66 (congrArg (fun z => some (Value.int z)) (show (an (fo (fo (rg n (nI 1) (nI 200)) (rg sd (nI 0) (nI 9999))) (rg ls (nI 0) (nI 16))) ((tkL (toN ls) (μ, toN sd, nI 0, g) (toN n)).2.2.1)) = ((tkL (toN ls) (μ, toN sd, nI 0, g) (toN n)).2.2.1) by first | exact an_yes (by first | rfl | (simp [fo, rg, ns, nB, ps, gst, ofS, offB, c8, c19, c29]; done) | (simp [fo, rg, ns, nB, ps, gst, ofS, offB, c8, c19, c29]; omega) | fail) (by rfl) | exact an_no (k := 0) (by first | rfl | (simp [fo, rg, ns, nB, ps, gst, ofS, offB, c8, c19, c29]; done) | (simp [fo, rg, ns, nB, ps, gst, ofS, offB, c8, c19, c29]; omega) | fail) (by first | decide | omega | assumption | exact nb1 (by assumption)) | fail)) (by exact ⟨(by first | exact pk_yes (by first | rfl | (simp [fo, rg, ns, nB, ps, gst, ofS, offB, c8, c19, c29]; done) | (simp [fo, rg, ns, nB, ps, gst, ofS, offB, c8, c19, c29]; omega) | fail) (by rw [hvσ_3, eμk]) | exact pk_no (k := 0) (by first | rfl | (simp [fo, rg, ns, nB, ps, gst, ofS, offB, c8, c19, c29]; done) | (simp [fo, rg, ns, nB, ps, gst, ofS, offB, c8, c19, c29]; omega) | fail) (by first | decide | omega | assumption | exact nb1 (by assumption)) hvσ_3 | fail), (by first | exact tk_eq (k := 0) (by first | rfl | (simp [fo, rg, ns, nB, ps, gst, ofS, offB, c8, c19, c29]; done) | (simp [fo, rg, ns, nB, ps, gst, ofS, offB, c8, c19, c29]; omega) | fail) ht4000_σ_3 | exact tk_eq (k := 0) (by first | rfl | (simp [fo, rg, ns, nB, ps, gst, ofS, offB, c8, c19, c29]; done) | (simp [fo, rg, ns, nB, ps, gst, ofS, offB, c8, c19, c29]; omega) | fail) ht4000_σ_3 | fail), (by first | exact lr_y (by first | rfl | (simp [fo, rg, ns, nB, ps, gst, ofS, offB, c8, c19, c29]; done) | (simp [fo, rg, ns, nB, ps, gst, ofS, offB, c8, c19, c29]; omega) | fail) hcLR_σ_3 | exact lr_n (k := 0) (by first | rfl | (simp [fo, rg, ns, nB, ps, gst, ofS, offB, c8, c19, c29]; done) | (simp [fo, rg, ns, nB, ps, gst, ofS, offB, c8, c19, c29]; omega) | fail) (by first | decide | omega | assumption | exact nb1 (by assumption)) hcLR_σ_3 | fail), (by exact hcFR_σ_3)⟩)
      ·
        refine g_aload_n h dX12_run_32 0 rfl ?_
        refine g_iconst h dX12_run_33 (by decide) ?_
        refine g_cvi (rest := []) h (r_refuse hW (nI 1) ) lX12_refuse mX12_272 (Nat.lt_of_lt_of_le (by decide) (Nat.le_refl _)) (by decide) sc_0 rfl rfl rfl rfl dX12_run_34 (fun σ_4 eσ_4 => ?_)
        have eσ_4_a : σ_4 = upd σ 4000 (nI 1) := eσ_4
        have ht4000_σ_4 : σ_4 4000 = (nI 1) := by rw [eσ_4_a]; exact upd_eq
        have hcLR_σ_4 : LR 0 σ_4 nt g := by rw [eσ_4_a]; exact LR.fr hcLR_σ (fun a ha => upd_ne (by first | omega | (simp only [vb] at *; omega)))
        have hcFR_σ_4 : ∀ a, (528 ≤ a ∧ (a < 4900 ∨ 6000 ≤ a) ∧ a ≠ 4000) → σ_4 a = σ a := by intro a ha; exact Eq.trans (b := σ a) (by rw [eσ_4_a, upd_ne (by first | omega | (simp only [vb] at *; omega))]) (hcFR_σ a ha)
        have hvσ_4 : vw 0 σ_4 = μ := by rw [eσ_4_a, vw_out (by omega)]; first | exact hv | assumption
        exact g_iret h hQ dX12_run_37 (congrArg (fun z => some (Value.int z)) (show (an (fo (fo (rg n (nI 1) (nI 200)) (rg sd (nI 0) (nI 9999))) (rg ls (nI 0) (nI 16))) ((tkL (toN ls) (μ, toN sd, nI 0, g) (toN n)).2.2.1)) = (-1) by first | exact an_yes (by first | rfl | (simp [fo, rg, ns, nB, ps, gst, ofS, offB, c8, c19, c29]; done) | (simp [fo, rg, ns, nB, ps, gst, ofS, offB, c8, c19, c29]; omega) | fail) (by rfl) | exact an_no (k := 1) (by first | rfl | (simp [fo, rg, ns, nB, ps, gst, ofS, offB, c8, c19, c29]; done) | (simp [fo, rg, ns, nB, ps, gst, ofS, offB, c8, c19, c29]; omega) | fail) (by first | decide | omega | assumption | exact nb1 (by assumption)) | fail)) (by exact ⟨(by first | exact pk_yes (by first | rfl | (simp [fo, rg, ns, nB, ps, gst, ofS, offB, c8, c19, c29]; done) | (simp [fo, rg, ns, nB, ps, gst, ofS, offB, c8, c19, c29]; omega) | fail) (by rw [hvσ_4, eμk]) | exact pk_no (k := 1) (by first | rfl | (simp [fo, rg, ns, nB, ps, gst, ofS, offB, c8, c19, c29]; done) | (simp [fo, rg, ns, nB, ps, gst, ofS, offB, c8, c19, c29]; omega) | fail) (by first | decide | omega | assumption | exact nb1 (by assumption)) hvσ_4 | fail), (by first | exact tk_eq (k := 1) (by first | rfl | (simp [fo, rg, ns, nB, ps, gst, ofS, offB, c8, c19, c29]; done) | (simp [fo, rg, ns, nB, ps, gst, ofS, offB, c8, c19, c29]; omega) | fail) ht4000_σ_4 | exact tk_eq (k := 1) (by first | rfl | (simp [fo, rg, ns, nB, ps, gst, ofS, offB, c8, c19, c29]; done) | (simp [fo, rg, ns, nB, ps, gst, ofS, offB, c8, c19, c29]; omega) | fail) ht4000_σ_4 | fail), (by first | exact lr_y (by first | rfl | (simp [fo, rg, ns, nB, ps, gst, ofS, offB, c8, c19, c29]; done) | (simp [fo, rg, ns, nB, ps, gst, ofS, offB, c8, c19, c29]; omega) | fail) hcLR_σ_4 | exact lr_n (k := 1) (by first | rfl | (simp [fo, rg, ns, nB, ps, gst, ofS, offB, c8, c19, c29]; done) | (simp [fo, rg, ns, nB, ps, gst, ofS, offB, c8, c19, c29]; omega) | fail) (by first | decide | omega | assumption | exact nb1 (by assumption)) hcLR_σ_4 | fail), (by exact hcFR_σ_4)⟩)

set_option maxRecDepth 100000 in
set_option maxHeartbeats 8000000 in
theorem p_run {l : Launch} {w : Wd} (hW : Wi w) {σ : Mem} (n : Int32) (sd : Int32) (ls : Int32) (nt : Nat) (g : Nat → Nat → Int32) (μ : Nat → Int32) (hv : vw (vb 0) σ = μ) (hI : MI μ) (h7 : μ 7 = nI nt) (hnt : nt + 2000 < 2 ^ 30) (hcLC_σ : LC (vb 0) σ nt g) : MC l w qX11_run 6 [.ref (w.1 12), .int n, .int sd, .int ls] σ (some (.int (an (fo (fo (rg n (nI 1) (nI 200)) (rg sd (nI 0) (nI 9999))) (rg ls (nI 0) (nI 16))) ((tkL (toN ls) (μ, toN sd, nI 0, g) (toN n)).2.2.1)))) (fun σ' => (vw (vb 0) σ' = pk0 (fo (fo (rg n (nI 1) (nI 200)) (rg sd (nI 0) (nI 9999))) (rg ls (nI 0) (nI 16))) ((tkL (toN ls) (μ, toN sd, nI 0, g) (toN n)).1) μ) ∧ (σ' 14000 = (nI (fo (fo (rg n (nI 1) (nI 200)) (rg sd (nI 0) (nI 9999))) (rg ls (nI 0) (nI 16))))) ∧ (LC (vb 0) σ' (if fo (fo (rg n (nI 1) (nI 200)) (rg sd (nI 0) (nI 9999))) (rg ls (nI 0) (nI 16)) = 0 then nA (tkL (toN ls) (μ, toN sd, nI 0, g) (toN n)).1 7 else nt) (if fo (fo (rg n (nI 1) (nI 200)) (rg sd (nI 0) (nI 9999))) (rg ls (nI 0) (nI 16)) = 0 then (tkL (toN ls) (μ, toN sd, nI 0, g) (toN n)).2.2.2 else g)) ∧ (∀ a, ((a < 10000 ∨ 10528 ≤ a) ∧ a < 14900 ∧ a ≠ 14000) → σ' a = σ a)) := by
  refine MC.of hW (by decide +kernel) (Nat.le_of_ble_eq_true rfl) (fun X h hQ hnm => ?_)
  have h : Fx X w cX11_run 6 RX11 6 := h
  have hQ : Qx X w (some .int) (some (.int (an (fo (fo (rg n (nI 1) (nI 200)) (rg sd (nI 0) (nI 9999))) (rg ls (nI 0) (nI 16))) ((tkL (toN ls) (μ, toN sd, nI 0, g) (toN n)).2.2.1)))) (fun σ' => (vw (vb 0) σ' = pk0 (fo (fo (rg n (nI 1) (nI 200)) (rg sd (nI 0) (nI 9999))) (rg ls (nI 0) (nI 16))) ((tkL (toN ls) (μ, toN sd, nI 0, g) (toN n)).1) μ) ∧ (σ' 14000 = (nI (fo (fo (rg n (nI 1) (nI 200)) (rg sd (nI 0) (nI 9999))) (rg ls (nI 0) (nI 16))))) ∧ (LC (vb 0) σ' (if fo (fo (rg n (nI 1) (nI 200)) (rg sd (nI 0) (nI 9999))) (rg ls (nI 0) (nI 16)) = 0 then nA (tkL (toN ls) (μ, toN sd, nI 0, g) (toN n)).1 7 else nt) (if fo (fo (rg n (nI 1) (nI 200)) (rg sd (nI 0) (nI 9999))) (rg ls (nI 0) (nI 16)) = 0 then (tkL (toN ls) (μ, toN sd, nI 0, g) (toN n)).2.2.2 else g)) ∧ (∀ a, ((a < 10000 ∨ 10528 ≤ a) ∧ a < 14900 ∧ a ≠ 14000) → σ' a = σ a)) := hQ
  have hN8 := mi_8 hI
  have hvb0 : vb 0 = 10000 := rfl
  have hcFR_σ : ∀ a, ((a < 10000 ∨ 10528 ≤ a) ∧ a < 14900 ∧ a ≠ 14000) → σ a = σ a := fun _ _ => rfl
  show G X w 6 0 [(0, .ref (w.1 12)), (1, .int n), (2, .int sd), (3, .int ls)] [] σ
  refine g_iload_n h dX11_run_0 1 rfl ?_
  refine g_iconst h dX11_run_1 (by decide) ?_
  refine g_sipush h dX11_run_2 (by decide) ?_
  refine g_cspi (rest := []) h (c_rg hW n (nI 1) (nI 200) ) lX11_rangeStatus mX11_102 (Nat.lt_of_lt_of_le (by decide) (Nat.le_refl _)) (by decide) rfl rfl rfl dX11_run_5 ?_
  refine g_iload_n h dX11_run_8 2 rfl ?_
  refine g_iconst h dX11_run_9 (by decide) ?_
  refine g_sipush h dX11_run_10 (by decide) ?_
  refine g_cspi (rest := [.int (nI (rg n (nI 1) (nI 200)))]) h (c_rg hW sd (nI 0) (nI 9999) ) lX11_rangeStatus mX11_102 (Nat.lt_of_lt_of_le (by decide) (Nat.le_refl _)) (by decide) rfl rfl rfl dX11_run_13 ?_
  refine g_cspi (rest := []) h (c_fo hW (rg n (nI 1) (nI 200)) (rg sd (nI 0) (nI 9999)) (by repeat (first | omega | exact rg_lt | exact ns_lt | exact ps_lt | exact gst_lt | exact ofS_lt | exact if_lt (by decide) (by decide) | apply fo_lt)) (by repeat (first | omega | exact rg_lt | exact ns_lt | exact ps_lt | exact gst_lt | exact ofS_lt | exact if_lt (by decide) (by decide) | apply fo_lt))) lX11_firstOf mX11_163 (Nat.lt_of_lt_of_le (by decide) (Nat.le_refl _)) (by decide) rfl rfl rfl dX11_run_16 ?_
  refine g_istore (L' := [(0, .ref (w.1 12)), (1, .int n), (2, .int sd), (3, .int ls), (4, .int (nI (fo (rg n (nI 1) (nI 200)) (rg sd (nI 0) (nI 9999)))))]) h dX11_run_19 rfl (by decide) rfl ?_
  refine g_aload_n h dX11_run_21 0 rfl ?_
  refine g_iload h dX11_run_22 4 rfl ?_
  refine g_iload_n h dX11_run_24 3 rfl ?_
  refine g_iconst h dX11_run_25 (by decide) ?_
  refine g_bipush h dX11_run_26 (by decide) ?_
  refine g_cspi (rest := [.int (nI (fo (rg n (nI 1) (nI 200)) (rg sd (nI 0) (nI 9999)))), .ref (w.1 12)]) h (c_rg hW ls (nI 0) (nI 16) ) lX11_rangeStatus mX11_102 (Nat.lt_of_lt_of_le (by decide) (Nat.le_refl _)) (by decide) rfl rfl rfl dX11_run_28 ?_
  refine g_cspi (rest := [.ref (w.1 12)]) h (c_fo hW (fo (rg n (nI 1) (nI 200)) (rg sd (nI 0) (nI 9999))) (rg ls (nI 0) (nI 16)) (by repeat (first | omega | exact rg_lt | exact ns_lt | exact ps_lt | exact gst_lt | exact ofS_lt | exact if_lt (by decide) (by decide) | apply fo_lt)) (by repeat (first | omega | exact rg_lt | exact ns_lt | exact ps_lt | exact gst_lt | exact ofS_lt | exact if_lt (by decide) (by decide) | apply fo_lt))) lX11_firstOf mX11_163 (Nat.lt_of_lt_of_le (by decide) (Nat.le_refl _)) (by decide) rfl rfl rfl dX11_run_31 ?_
  refine g_cvi (rest := []) h (c_fails hW (fo (fo (rg n (nI 1) (nI 200)) (rg sd (nI 0) (nI 9999))) (rg ls (nI 0) (nI 16))) (by repeat (first | omega | exact rg_lt | exact ns_lt | exact ps_lt | exact gst_lt | exact ofS_lt | exact if_lt (by decide) (by decide) | apply fo_lt))) lX11_fails mX11_106 (Nat.lt_of_lt_of_le (by decide) (Nat.le_refl _)) (by decide) sc_12 rfl rfl rfl rfl dX11_run_34 (fun σ_1 eσ_1 => ?_)
  obtain ⟨eσ_1_a, eσ_1_b⟩ := eσ_1
  have eσ_1_a : σ_1 14000 = (nI (fo (fo (rg n (nI 1) (nI 200)) (rg sd (nI 0) (nI 9999))) (rg ls (nI 0) (nI 16)))) := eσ_1_a
  have eσ_1_b : ∀ a, (a ≠ 14000) → σ_1 a = σ a := eσ_1_b
  have ht14000_σ_1 : σ_1 14000 = (nI (fo (fo (rg n (nI 1) (nI 200)) (rg sd (nI 0) (nI 9999))) (rg ls (nI 0) (nI 16)))) := eσ_1_a
  have hcLC_σ_1 : LC (vb 0) σ_1 nt g := by exact LC.fr hcLC_σ (fun a ha hb => eσ_1_b a (by first | omega | (simp only [vb] at *; omega)))
  have hcFR_σ_1 : ∀ a, ((a < 10000 ∨ 10528 ≤ a) ∧ a < 14900 ∧ a ≠ 14000) → σ_1 a = σ a := by intro a ha; exact Eq.trans (b := σ a) (eσ_1_b a (by first | omega | (simp only [vb] at *; omega))) (hcFR_σ a ha)
  have hvσ_1 : vw (vb 0) σ_1 = μ := by rw [vw_fr (σ := σ) (fun j _ _ => eσ_1_b _ (by first | omega | (simp only [vb] at *; omega)))]; first | exact hv | assumption
  refine g_ifB_eq h dX11_run_37 (fun c37 => ?_) (fun c37 => ?_)
  ·
    have hS0 := nb0 c37
    obtain ⟨hs3, hs2⟩ := fo_0 hS0
    obtain ⟨hs0, hs1⟩ := fo_0 hs3
    obtain ⟨en, hn9⟩ := rg_N1 (by decide) hs0
    obtain ⟨es, hs9⟩ := rg_N (by decide) hs1
    obtain ⟨el, hl9⟩ := rg_N (by decide) hs2
    rw [hs3]
    rw [en, es, el]
    show G X w 6 42 [(0, .ref (w.1 12)), (1, .int (nI (toN n))), (2, .int (nI (toN sd))), (3, .int (nI (toN ls))), (4, .int (nI 0))] [] σ_1
    refine g_aload_n h dX11_run_42 0 rfl ?_
    refine g_getr h dX11_run_43 gX11_79 sc_12 rfl ?_
    refine g_iload_n h dX11_run_46 2 rfl ?_
    refine g_iload_n h dX11_run_47 3 rfl ?_
    refine g_cvv (rest := []) h (c_begin hW (toN sd) (toN ls) (by omega) (by omega)) lX4_begin mX11_349 (Nat.lt_of_lt_of_le (by decide) (Nat.le_refl _)) (by decide) sc_30 rfl rfl rfl rfl dX11_run_48 (fun σ_2 eσ_2 => ?_)
    obtain ⟨eσ_2_a, eσ_2_b⟩ := eσ_2
    have eσ_2_a : CL σ_2 (toN sd) (toN ls) (nI 0) := eσ_2_a
    have eσ_2_b : ∀ a, (a < 14900 ∨ 14903 ≤ a) → σ_2 a = σ_1 a := eσ_2_b
    have ht14000_σ_2 : σ_2 14000 = (nI (fo (fo (rg n (nI 1) (nI 200)) (rg sd (nI 0) (nI 9999))) (rg ls (nI 0) (nI 16)))) := by rw [eσ_2_b _ (by first | omega | (simp only [vb] at *; omega))]; first | exact ht14000_σ_1 | assumption
    have hcLC_σ_2 : LC (vb 0) σ_2 nt g := by exact LC.fr hcLC_σ_1 (fun a ha hb => eσ_2_b a (by first | omega | (simp only [vb] at *; omega)))
    have hcFR_σ_2 : ∀ a, ((a < 10000 ∨ 10528 ≤ a) ∧ a < 14900 ∧ a ≠ 14000) → σ_2 a = σ a := by intro a ha; exact Eq.trans (b := σ_1 a) (eσ_2_b a (by first | omega | (simp only [vb] at *; omega))) (hcFR_σ_1 a ha)
    have hcCL_σ_2 : CL σ_2 (toN sd) (toN ls) (nI 0) := eσ_2_a
    have hvσ_2 : vw (vb 0) σ_2 = μ := by rw [vw_fr (σ := σ_1) (fun j _ _ => eσ_2_b _ (by first | omega | (simp only [vb] at *; omega)))]; first | exact hvσ_1 | assumption
    refine g_iconst h dX11_run_51 (by decide) ?_
    refine g_istore (L' := [(0, .ref (w.1 12)), (1, .int (nI (toN n))), (2, .int (nI (toN sd))), (3, .int (nI (toN ls))), (4, .int (nI 0)), (5, .int (nI 0))]) h dX11_run_52 rfl (by decide) rfl ?_
    have lp54 : ∀ (k9 : Nat) (k : Nat) (μ1 : Nat → Int32) (d1 : Nat) (lo1 : Int32) (n1 : Nat) (g1 : Nat → Nat → Int32) (τ : Mem), (tkL (toN ls) (μ, toN sd, nI 0, g) k = (μ1, d1, lo1, g1)) → (k ≤ toN n) → (μ1 7 = nI n1) → (n1 ≤ nt + 8 * k) → (vw (vb 0) τ = μ1) → (τ 14000 = (nI (fo (fo (rg n (nI 1) (nI 200)) (rg sd (nI 0) (nI 9999))) (rg ls (nI 0) (nI 16))))) → (LC (vb 0) τ n1 g1) → (∀ a, ((a < 10000 ∨ 10528 ≤ a) ∧ a < 14900 ∧ a ≠ 14000) → τ a = σ a) → (CL τ d1 (toN ls) lo1) → toN n - k < k9 → G X w 6 54 [(0, .ref (w.1 12)), (1, .int (nI (toN n))), (2, .int (nI (toN sd))), (3, .int (nI (toN ls))), (4, .int (nI 0)), (5, .int (nI k))] [] (τ) := by
      intro k9
      induction k9 with
      | zero => intro k μ1 d1 lo1 n1 g1 τ hT hk h71 hn1 hvτ ht14000_τ hcLC_τ hcFR_τ hcCL_τ hm9; exact absurd hm9 (Nat.not_lt_zero _)
      | succ k9 ih54 =>
        intro k μ1 d1 lo1 n1 g1 τ hT hk h71 hn1 hvτ ht14000_τ hcLC_τ hcFR_τ hcCL_τ hm54
        have hA := tkL_all (ls := (toN ls)) (s := (μ, toN sd, nI 0, g)) hI k
        rw [hT] at hA
        have hI1 : MI μ1 := hA.1
        refine g_iload h dX11_run_54 5 rfl ?_
        refine g_iload_n h dX11_run_56 1 rfl ?_
        refine g_icmpN_ge h dX11_run_57 (by omega) (by omega) (fun c57 => ?_) (fun c57 => ?_)
        ·
          have hE : (tkL (toN ls) (μ, toN sd, nI 0, g) (toN n)) = (μ1, d1, lo1, g1) := by rw [← hT, show k = toN n from by omega]
          refine g_aload_n h dX11_run_81 0 rfl ?_
          refine g_getr h dX11_run_82 gX11_79 sc_12 rfl ?_
          refine g_geti h dX11_run_85 gX11_383 sc_30 rfl ?_
          refine g_top (y := lo1) (hcCL_τ.2.2.1) ?_
          exact g_iret h hQ dX11_run_88 (congrArg (fun z => some (Value.int z)) (show (an (fo (fo (rg n (nI 1) (nI 200)) (rg sd (nI 0) (nI 9999))) (rg ls (nI 0) (nI 16))) ((tkL (toN ls) (μ, toN sd, nI 0, g) (toN n)).2.2.1)) = lo1 by first | exact an_yes (by exact hS0) (by rw [hE]) | exact an_no (k := (fo (fo (rg n (nI 1) (nI 200)) (rg sd (nI 0) (nI 9999))) (rg ls (nI 0) (nI 16)))) (by rfl) (by first | decide | omega | assumption | exact nb1 (by assumption)) | fail)) (by exact ⟨(by first | exact pk_yes (by exact hS0) (by rw [hE]; exact hvτ) | exact pk_no (k := (fo (fo (rg n (nI 1) (nI 200)) (rg sd (nI 0) (nI 9999))) (rg ls (nI 0) (nI 16)))) (by rfl) (by first | decide | omega | assumption | exact nb1 (by assumption)) hvτ | fail), (by first | exact tk_eq (k := (fo (fo (rg n (nI 1) (nI 200)) (rg sd (nI 0) (nI 9999))) (rg ls (nI 0) (nI 16)))) (by rfl) ht14000_τ | exact tk_eq (k := (fo (fo (rg n (nI 1) (nI 200)) (rg sd (nI 0) (nI 9999))) (rg ls (nI 0) (nI 16)))) (by exact hS0) ht14000_τ | fail), (by first | (refine lc_y (by exact hS0) ?_; rw [hE]; dsimp only; rw [nA_nI (by omega) h71]; exact hcLC_τ) | exact lc_n (k := (fo (fo (rg n (nI 1) (nI 200)) (rg sd (nI 0) (nI 9999))) (rg ls (nI 0) (nI 16)))) rfl (by first | decide | omega | assumption | exact nb1 (by assumption)) hcLC_τ | fail), (by exact hcFR_τ)⟩)
        ·
          refine g_aload_n h dX11_run_60 0 rfl ?_
          refine g_getr h dX11_run_61 gX11_88 sc_12 rfl ?_
          refine g_aload_n h dX11_run_64 0 rfl ?_
          refine g_getr h dX11_run_65 gX11_23 sc_12 rfl ?_
          refine g_aload_n h dX11_run_68 0 rfl ?_
          refine g_getr h dX11_run_69 gX11_79 sc_12 rfl ?_
          refine g_cvv (rest := []) h (c_step hW d1 (toN ls) n1 lo1 g1 0 μ1 (by first | omega | decide | fail) (by first | exact hvτ | assumption | fail) (by exact hI1) (by exact h71) (by omega) (by first | exact hcCL_τ | assumption | fail) (by first | exact hcLC_τ | assumption | fail)) lX9_step mX11_379 (Nat.lt_of_lt_of_le (by decide) (Nat.le_refl _)) (by decide) sc_31 rfl rfl rfl rfl dX11_run_72 (fun σ_3 eσ_3 => ?_)
          obtain ⟨eσ_3_a, eσ_3_b, eσ_3_c, eσ_3_d⟩ := eσ_3
          have eσ_3_a : vw (vb 0) σ_3 = (tkF (toN ls) (μ1, d1, lo1, g1)).1 := eσ_3_a
          have eσ_3_b : CL σ_3 (tkF (toN ls) (μ1, d1, lo1, g1)).2.1 (toN ls) (tkF (toN ls) (μ1, d1, lo1, g1)).2.2.1 := eσ_3_b
          have eσ_3_c : LC (vb 0) σ_3 (nA (tkF (toN ls) (μ1, d1, lo1, g1)).1 7) (tkF (toN ls) (μ1, d1, lo1, g1)).2.2.2 := eσ_3_c
          have eσ_3_d : ∀ a, ((a < vb 0 ∨ vb 0 + 528 ≤ a) ∧ a < 14900) → σ_3 a = (τ) a := eσ_3_d
          have ht14000_σ_3 : σ_3 14000 = (nI (fo (fo (rg n (nI 1) (nI 200)) (rg sd (nI 0) (nI 9999))) (rg ls (nI 0) (nI 16)))) := by rw [eσ_3_d _ (by first | omega | (simp only [vb] at *; omega))]; first | exact ht14000_τ | assumption
          have hcLC_σ_3 : LC (vb 0) σ_3 (nA (tkF (toN ls) (μ1, d1, lo1, g1)).1 7) (tkF (toN ls) (μ1, d1, lo1, g1)).2.2.2 := eσ_3_c
          have hcFR_σ_3 : ∀ a, ((a < 10000 ∨ 10528 ≤ a) ∧ a < 14900 ∧ a ≠ 14000) → σ_3 a = σ a := by intro a ha; exact Eq.trans (b := (τ) a) (eσ_3_d a (by first | omega | (simp only [vb] at *; omega))) (hcFR_τ a ha)
          have hcCL_σ_3 : CL σ_3 (tkF (toN ls) (μ1, d1, lo1, g1)).2.1 (toN ls) (tkF (toN ls) (μ1, d1, lo1, g1)).2.2.1 := eσ_3_b
          obtain ⟨μ_4, eμ_4⟩ : ∃ μ_4 : Nat → Int32, μ_4 = (tkF (toN ls) (μ1, d1, lo1, g1)).1 := ⟨_, rfl⟩
          have hvσ_3 : vw (vb 0) σ_3 = μ_4 := by rw [eμ_4]; exact eσ_3_a
          obtain ⟨n7, hn7, e7⟩ := tkF_7 (ls := (toN ls)) (s := (μ1, d1, lo1, g1)) hI1 h71
          have e7n : n7 = nA (tkF (toN ls) (μ1, d1, lo1, g1)).1 7 := (nA_nI (by omega) e7).symm
          have h7n : (tkF (toN ls) (μ1, d1, lo1, g1)).1 7 = nI (nA (tkF (toN ls) (μ1, d1, lo1, g1)).1 7) := by rw [← e7n]; exact e7
          refine g_iincN (b := 1) (L' := [(0, .ref (w.1 12)), (1, .int (nI (toN n))), (2, .int (nI (toN sd))), (3, .int (nI (toN ls))), (4, .int (nI 0)), (5, .int (nI (k + 1)))]) h dX11_run_75 5 rfl rfl (by decide) (by decide) rfl ?_
          refine g_goto h dX11_run_78 ?_
          exact ih54 (k + 1) μ_4 ((tkF (toN ls) (μ1, d1, lo1, g1)).2.1) ((tkF (toN ls) (μ1, d1, lo1, g1)).2.2.1) (nA (tkF (toN ls) (μ1, d1, lo1, g1)).1 7) ((tkF (toN ls) (μ1, d1, lo1, g1)).2.2.2) σ_3 (by rw [tkL, hT, eμ_4]) (by omega) (by rw [eμ_4]; exact h7n) (by rw [← e7n]; omega) (by first | exact hvσ_3 | assumption | fail | fail) (by first | exact ht14000_σ_3 | assumption | fail | fail) (by first | exact hcLC_σ_3 | assumption | fail | fail) (by first | exact hcFR_σ_3 | assumption | fail | fail) (by first | exact hcCL_σ_3 | assumption | fail | fail) (by omega)
    exact lp54 (_) 0 μ (toN sd) (nI 0) nt g σ_2 (by rfl) (by omega) (by exact h7) (by omega) (by first | exact hvσ_2 | assumption | fail | fail) (by first | exact ht14000_σ_2 | assumption | fail | fail) (by first | exact hcLC_σ_2 | assumption | fail | fail) (by first | exact hcFR_σ_2 | assumption | fail | fail) (by first | exact hcCL_σ_2 | assumption | fail | fail) (Nat.lt_succ_self _)
  ·
    refine g_iconstv h dX11_run_40 (v := (-1)) (by decide) ?_
    exact g_iret h hQ dX11_run_41 (congrArg (fun z => some (Value.int z)) (show (an (fo (fo (rg n (nI 1) (nI 200)) (rg sd (nI 0) (nI 9999))) (rg ls (nI 0) (nI 16))) ((tkL (toN ls) (μ, toN sd, nI 0, g) (toN n)).2.2.1)) = (-1) by first | exact an_yes (by exact hS0) (by rw [hE]) | exact an_no (k := (fo (fo (rg n (nI 1) (nI 200)) (rg sd (nI 0) (nI 9999))) (rg ls (nI 0) (nI 16)))) (by rfl) (by first | decide | omega | assumption | exact nb1 (by assumption)) | fail)) (by exact ⟨(by first | exact pk_yes (by exact hS0) (by rw [hE]; exact hvσ_1) | exact pk_no (k := (fo (fo (rg n (nI 1) (nI 200)) (rg sd (nI 0) (nI 9999))) (rg ls (nI 0) (nI 16)))) (by rfl) (by first | decide | omega | assumption | exact nb1 (by assumption)) hvσ_1 | fail), (by first | exact tk_eq (k := (fo (fo (rg n (nI 1) (nI 200)) (rg sd (nI 0) (nI 9999))) (rg ls (nI 0) (nI 16)))) (by rfl) ht14000_σ_1 | exact tk_eq (k := (fo (fo (rg n (nI 1) (nI 200)) (rg sd (nI 0) (nI 9999))) (rg ls (nI 0) (nI 16)))) (by exact hS0) ht14000_σ_1 | fail), (by first | (refine lc_y (by exact hS0) ?_; rw [hE]; dsimp only; rw [nA_nI (by omega) h71]; exact hcLC_σ_1) | exact lc_n (k := (fo (fo (rg n (nI 1) (nI 200)) (rg sd (nI 0) (nI 9999))) (rg ls (nI 0) (nI 16)))) rfl (by first | decide | omega | assumption | exact nb1 (by assumption)) hcLC_σ_1 | fail), (by exact hcFR_σ_1)⟩)
