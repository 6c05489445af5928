/-! what changes a mesh -/
def pk0 (s : Nat) (a b : Nat → Int32) : Nat → Int32 := if s = 0 then a else b
theorem pk_yes {s : Nat} {a b x : Nat → Int32} (h : s = 0) (hx : x = a) : x = pk0 s a b := by
  unfold pk0
  rw [if_pos h, hx]
theorem pk_no {s k : Nat} {a b x : Nat → Int32} (h : s = k) (hk : k ≠ 0) (hx : x = b) : x = pk0 s a b := by
  unfold pk0
  rw [if_neg (by omega), hx]
theorem bo_yes {s : Nat} {c : Bool} (h : s = 0) (hc : c = true) : decide (s = 0) = c := by rw [hc, decide_eq_true h]
theorem bo_no {s k : Nat} {c : Bool} (h : s = k) (hk : k ≠ 0) (hc : c = false) : decide (s = 0) = c := by rw [hc, decide_eq_false (by omega)]
theorem if8 {n : Nat} (h : (if n = 8 then 5 else 0) = 0) (hn : n ≤ 8) : n < 8 := by
  by_cases e : n = 8
  · rw [if_pos e] at h
    cases h
  · omega
def tkL (ls : Nat) (s : TT) : Nat → TT
  | 0 => s
  | n + 1 => tkF ls (tkL ls s n)
theorem tkL_all {ls : Nat} {s : TT} (h : MI s.1) : ∀ n, MI (tkL ls s n).1 ∧ nN (tkL ls s n).1 = nN s.1
  | 0 => ⟨h, rfl⟩
  | n + 1 => by
    obtain ⟨h1, h2⟩ := tkL_all h n
    obtain ⟨q1, q2⟩ := tkF_all (ls := ls) h1
    exact ⟨q1, q2.trans h2⟩

set_option maxRecDepth 100000 in
set_option maxHeartbeats 4000000 in
theorem p_will {l : Launch} {w : Wd} (hW : Wi w) {σ : Mem} (i : Int32) (wl : Int32)  (μ : Nat → Int32) (hv : vw (vb 0) σ = μ) (hI : MI μ) : MC l w qX11_will 2 [.ref (w.1 0), .int i, .int wl] σ (some (.int (an (fo (rg wl (nI 0) (nI 7)) (ns μ i)) (μ (16 + toN i))))) (fun σ' => (vw (vb 0) σ' = pk0 (fo (rg wl (nI 0) (nI 7)) (ns μ i)) (upd μ (16 + toN i) (nI (toN wl))) μ) ∧ (σ' 14000 = (nI (fo (rg wl (nI 0) (nI 7)) (ns μ i)))) ∧ (∀ a, ((a < 10000 ∨ 10464 ≤ a) ∧ a ≠ 14000) → σ' a = σ a)) := by
  refine MC.of hW (by decide +kernel) (Nat.le_of_ble_eq_true rfl) (fun X h hQ hnm => ?_)
  have h : Fx X w cX11_will 4 RX11 2 := h
  have hQ : Qx X w (some .int) (some (.int (an (fo (rg wl (nI 0) (nI 7)) (ns μ i)) (μ (16 + toN i))))) (fun σ' => (vw (vb 0) σ' = pk0 (fo (rg wl (nI 0) (nI 7)) (ns μ i)) (upd μ (16 + toN i) (nI (toN wl))) μ) ∧ (σ' 14000 = (nI (fo (rg wl (nI 0) (nI 7)) (ns μ i)))) ∧ (∀ a, ((a < 10000 ∨ 10464 ≤ a) ∧ a ≠ 14000) → σ' a = σ a)) := hQ
  have hN8 := mi_8 hI
  have hvb0 : vb 0 = 10000 := rfl
  have hcFR_σ : ∀ a, ((a < 10000 ∨ 10464 ≤ a) ∧ a ≠ 14000) → σ a = σ a := fun _ _ => rfl
  show G X w 4 0 [(0, .ref (w.1 0)), (1, .int i), (2, .int wl)] [] σ
  refine g_aload_n h dX11_will_0 0 rfl ?_
  refine g_iload_n h dX11_will_1 2 rfl ?_
  refine g_iconst h dX11_will_2 (by decide) ?_
  refine g_bipush h dX11_will_3 (by decide) ?_
  refine g_cspi (rest := [.ref (w.1 0)]) h (c_rg hW wl (nI 0) (nI 7) ) lX11_rangeStatus mX11_102 (Nat.lt_of_lt_of_le (by decide) (Nat.le_refl _)) (by decide) rfl rfl rfl dX11_will_5 ?_
  refine g_aload_n h dX11_will_8 0 rfl ?_
  refine g_iload_n h dX11_will_9 1 rfl ?_
  refine g_cvpi (rest := [.int (nI (rg wl (nI 0) (nI 7))), .ref (w.1 0)]) h (c_ns hW i μ (by first | exact hv | assumption | fail)) lX11_nodeStatus mX11_159 (Nat.lt_of_lt_of_le (by decide) (Nat.le_refl _)) (by decide) sc_0 rfl rfl rfl rfl dX11_will_10 ?_
  refine g_cspi (rest := [.ref (w.1 0)]) h (c_fo hW (rg wl (nI 0) (nI 7)) (ns μ i) (by repeat (first | omega | exact rg_lt | exact ns_lt | exact ps_lt | exact gst_lt | exact ofS_lt | exact if_lt (by decide) (by decide) | apply fo_lt)) (by repeat (first | omega | exact rg_lt | exact ns_lt | exact ps_lt | exact gst_lt | exact ofS_lt | exact if_lt (by decide) (by decide) | apply fo_lt))) lX11_firstOf mX11_163 (Nat.lt_of_lt_of_le (by decide) (Nat.le_refl _)) (by decide) rfl rfl rfl dX11_will_13 ?_
  refine g_cvi (rest := []) h (c_fails hW (fo (rg wl (nI 0) (nI 7)) (ns μ i)) (by repeat (first | omega | exact rg_lt | exact ns_lt | exact ps_lt | exact gst_lt | exact ofS_lt | exact if_lt (by decide) (by decide) | apply fo_lt))) lX11_fails mX11_106 (Nat.lt_of_lt_of_le (by decide) (Nat.le_refl _)) (by decide) sc_0 rfl rfl rfl rfl dX11_will_16 (fun σ_1 eσ_1 => ?_)
  obtain ⟨eσ_1_a, eσ_1_b⟩ := eσ_1
  have eσ_1_a : σ_1 14000 = (nI (fo (rg wl (nI 0) (nI 7)) (ns μ i))) := eσ_1_a
  have eσ_1_b : ∀ a, (a ≠ 14000) → σ_1 a = σ a := eσ_1_b
  have ht14000_σ_1 : σ_1 14000 = (nI (fo (rg wl (nI 0) (nI 7)) (ns μ i))) := eσ_1_a
  have hcFR_σ_1 : ∀ a, ((a < 10000 ∨ 10464 ≤ a) ∧ a ≠ 14000) → σ_1 a = σ a := by intro a ha; exact Eq.trans (b := σ a) (eσ_1_b a (by first | omega | (simp only [vb] at *; omega))) (hcFR_σ a ha)
  have hvσ_1 : vw (vb 0) σ_1 = μ := by rw [vw_fr (σ := σ) (fun j _ _ => eσ_1_b _ (by first | omega | (simp only [vb] at *; omega)))]; first | exact hv | assumption
  refine g_ifB_eq h dX11_will_19 (fun c19 => ?_) (fun c19 => ?_)
  ·
    have hS0 := nb0 c19
    obtain ⟨hs1, hs2⟩ := fo_0 hS0
    obtain ⟨ew, hw9⟩ := rg_N (by decide) hs1
    obtain ⟨ei, hi9⟩ := nB_N hI (ns_0 hs2)
    rw [ei, ew]
    show G X w 4 24 [(0, .ref (w.1 0)), (1, .int (nI (toN i))), (2, .int (nI (toN wl)))] [] σ_1
    refine g_aload_n h dX11_will_24 0 rfl ?_
    refine g_getr h dX11_will_25 gX11_23 sc_0 rfl ?_
    refine g_getr h dX11_will_28 gX11_174 (sM_0 (m := 0) (by decide)) rfl ?_
    refine g_iload_n h dX11_will_31 1 rfl ?_
    refine g_iald h dX11_will_32 (sM_1 (m := 0) (by decide)) (by omega) ?_
    refine g_top (y := μ (16 + (toN i))) (vw_pic (b := (vb 0)) (k := 16 + (toN i)) (by first | exact hvσ_1 | assumption) (by omega)) ?_
    refine g_istore_n (L' := [(0, .ref (w.1 0)), (1, .int (nI (toN i))), (2, .int (nI (toN wl))), (3, .int (μ (16 + (toN i))))]) h dX11_will_33 rfl (by decide) rfl ?_
    refine g_aload_n h dX11_will_34 0 rfl ?_
    refine g_getr h dX11_will_35 gX11_23 sc_0 rfl ?_
    refine g_getr h dX11_will_38 gX11_174 (sM_0 (m := 0) (by decide)) rfl ?_
    refine g_iload_n h dX11_will_41 1 rfl ?_
    refine g_iload_n h dX11_will_42 2 rfl ?_
    refine g_iast h dX11_will_43 (sM_1 (m := 0) (by decide)) (by omega) ?_
    refine g_nm (fun σ_2 eσ_2 => ?_)
    have eσ_2 : σ_2 = upd σ_1 ((vb 0) + (16 + (toN i))) (nI (toN wl)) := eσ_2
    have ht14000_σ_2 : σ_2 14000 = (nI (fo (rg wl (nI 0) (nI 7)) (ns μ i))) := by rw [eσ_2, upd_ne (by first | omega | (simp only [vb] at *; omega))]; first | exact ht14000_σ_1 | assumption
    have hcFR_σ_2 : ∀ a, ((a < 10000 ∨ 10464 ≤ a) ∧ a ≠ 14000) → σ_2 a = σ a := by intro a ha; exact Eq.trans (b := σ_1 a) (by rw [eσ_2, upd_ne (by first | omega | (simp only [vb] at *; omega))]) (hcFR_σ_1 a ha)
    obtain ⟨μ_3, eμ_3⟩ : ∃ μ_3 : Nat → Int32, μ_3 = upd μ (16 + (toN i)) (nI (toN wl)) := ⟨_, rfl⟩
    have hvσ_2 : vw (vb 0) σ_2 = μ_3 := by rw [eσ_2, eμ_3, vw_in (by omega)]; congr 1
    refine g_iload_n h dX11_will_44 3 rfl ?_
    exact g_iret h hQ dX11_will_45 (congrArg (fun z => some (Value.int z)) (show (an (fo (rg wl (nI 0) (nI 7)) (ns μ i)) (μ (16 + toN i))) = (μ (16 + (toN i))) by first | exact an_yes (by exact hS0) (by rfl) | exact an_no (k := (fo (rg wl (nI 0) (nI 7)) (ns μ i))) (by rfl) (by first | decide | omega | assumption | exact nb1 (by assumption)) | fail)) (by exact ⟨(by first | exact pk_yes (by exact hS0) (by rw [hvσ_2, eμ_3]) | exact pk_no (k := (fo (rg wl (nI 0) (nI 7)) (ns μ i))) (by rfl) (by first | decide | omega | assumption | exact nb1 (by assumption)) hvσ_2 | fail), (by first | exact tk_eq (k := (fo (rg wl (nI 0) (nI 7)) (ns μ i))) (by rfl) ht14000_σ_2 | exact tk_eq (k := (fo (rg wl (nI 0) (nI 7)) (ns μ i))) (by exact hS0) ht14000_σ_2 | fail), (by exact hcFR_σ_2)⟩)
  ·
    refine g_iconstv h dX11_will_22 (v := (-1)) (by decide) ?_
    exact g_iret h hQ dX11_will_23 (congrArg (fun z => some (Value.int z)) (show (an (fo (rg wl (nI 0) (nI 7)) (ns μ i)) (μ (16 + toN i))) = (-1) by first | exact an_yes (by exact hS0) (by rfl) | exact an_no (k := (fo (rg wl (nI 0) (nI 7)) (ns μ i))) (by rfl) (by first | decide | omega | assumption | exact nb1 (by assumption)) | fail)) (by exact ⟨(by first | exact pk_yes (by exact hS0) (by rw [hvσ_1, Nat.add_zero]) | exact pk_no (k := (fo (rg wl (nI 0) (nI 7)) (ns μ i))) (by rfl) (by first | decide | omega | assumption | exact nb1 (by assumption)) hvσ_1 | fail), (by first | exact tk_eq (k := (fo (rg wl (nI 0) (nI 7)) (ns μ i))) (by rfl) ht14000_σ_1 | exact tk_eq (k := (fo (rg wl (nI 0) (nI 7)) (ns μ i))) (by exact hS0) ht14000_σ_1 | fail), (by exact hcFR_σ_1)⟩)

set_option maxRecDepth 100000 in
set_option maxHeartbeats 4000000 in
theorem p_ear {l : Launch} {w : Wd} (hW : Wi w) {σ : Mem} (i : Int32) (j : Int32) (on : Bool)  (μ : Nat → Int32) (hv : vw (vb 0) σ = μ) (hI : MI μ) : MC l w qX11_ear 2 [.ref (w.1 0), .int i, .int j, .int (b2i on)] σ (some (.int (b2i (decide (fo (ps μ i j) (if tb (μ (24 + toN j)) (toN i) = on then 6 else 0) = 0))))) (fun σ' => (vw (vb 0) σ' = pk0 (fo (ps μ i j) (if tb (μ (24 + toN j)) (toN i) = on then 6 else 0)) (upd μ (24 + toN j) (wth (μ (24 + toN j)) (toN i) on)) μ) ∧ (σ' 14000 = (nI (fo (ps μ i j) (if tb (μ (24 + toN j)) (toN i) = on then 6 else 0)))) ∧ (∀ a, ((a < 10000 ∨ 10464 ≤ a) ∧ a ≠ 14000) → σ' a = σ a)) := by
  refine MC.of hW (by decide +kernel) (Nat.le_of_ble_eq_true rfl) (fun X h hQ hnm => ?_)
  have h : Fx X w cX11_ear 4 RX11 2 := h
  have hQ : Qx X w (some .boolean) (some (.int (b2i (decide (fo (ps μ i j) (if tb (μ (24 + toN j)) (toN i) = on then 6 else 0) = 0))))) (fun σ' => (vw (vb 0) σ' = pk0 (fo (ps μ i j) (if tb (μ (24 + toN j)) (toN i) = on then 6 else 0)) (upd μ (24 + toN j) (wth (μ (24 + toN j)) (toN i) on)) μ) ∧ (σ' 14000 = (nI (fo (ps μ i j) (if tb (μ (24 + toN j)) (toN i) = on then 6 else 0)))) ∧ (∀ a, ((a < 10000 ∨ 10464 ≤ a) ∧ a ≠ 14000) → σ' a = σ a)) := hQ
  have hN8 := mi_8 hI
  have hvb0 : vb 0 = 10000 := rfl
  have hcFR_σ : ∀ a, ((a < 10000 ∨ 10464 ≤ a) ∧ a ≠ 14000) → σ a = σ a := fun _ _ => rfl
  show G X w 4 0 [(0, .ref (w.1 0)), (1, .int i), (2, .int j), (3, .int (b2i on))] [] σ
  refine g_aload_n h dX11_ear_0 0 rfl ?_
  refine g_aload_n h dX11_ear_1 0 rfl ?_
  refine g_iload_n h dX11_ear_2 1 rfl ?_
  refine g_iload_n h dX11_ear_3 2 rfl ?_
  refine g_cvpi (rest := [.ref (w.1 0)]) h (c_ps hW i j μ (by first | exact hv | assumption | fail)) lX11_pairStatus mX11_209 (Nat.lt_of_lt_of_le (by decide) (Nat.le_refl _)) (by decide) sc_0 rfl rfl rfl rfl dX11_ear_4 ?_
  refine g_cvi (rest := []) h (c_fails hW (ps μ i j) (by repeat (first | omega | exact rg_lt | exact ns_lt | exact ps_lt | exact gst_lt | exact ofS_lt | exact if_lt (by decide) (by decide) | apply fo_lt))) lX11_fails mX11_106 (Nat.lt_of_lt_of_le (by decide) (Nat.le_refl _)) (by decide) sc_0 rfl rfl rfl rfl dX11_ear_7 (fun σ_1 eσ_1 => ?_)
  obtain ⟨eσ_1_a, eσ_1_b⟩ := eσ_1
  have eσ_1_a : σ_1 14000 = (nI (ps μ i j)) := eσ_1_a
  have eσ_1_b : ∀ a, (a ≠ 14000) → σ_1 a = σ a := eσ_1_b
  have ht14000_σ_1 : σ_1 14000 = (nI (ps μ i j)) := eσ_1_a
  have hcFR_σ_1 : ∀ a, ((a < 10000 ∨ 10464 ≤ a) ∧ a ≠ 14000) → σ_1 a = σ a := by intro a ha; exact Eq.trans (b := σ a) (eσ_1_b a (by first | omega | (simp only [vb] at *; omega))) (hcFR_σ a ha)
  have hvσ_1 : vw (vb 0) σ_1 = μ := by rw [vw_fr (σ := σ) (fun j _ _ => eσ_1_b _ (by first | omega | (simp only [vb] at *; omega)))]; first | exact hv | assumption
  refine g_ifB_eq h dX11_ear_10 (fun c10 => ?_) (fun c10 => ?_)
  ·
    have hA := nb0 c10
    have h0 := ps_0 hA
    obtain ⟨ei, hi9⟩ := nB_N hI h0.1
    obtain ⟨ej, hj9⟩ := nB_N hI h0.2.1
    rw [ei, ej]
    show G X w 4 15 [(0, .ref (w.1 0)), (1, .int (nI (toN i))), (2, .int (nI (toN j))), (3, .int (b2i on))] [] σ_1
    refine g_aload_n h dX11_ear_15 0 rfl ?_
    refine g_aload_n h dX11_ear_16 0 rfl ?_
    refine g_getr h dX11_ear_17 gX11_23 sc_0 rfl ?_
    refine g_getr h dX11_ear_20 gX11_206 (sM_0 (m := 0) (by decide)) rfl ?_
    refine g_iload_n h dX11_ear_23 2 rfl ?_
    refine g_iald h dX11_ear_24 (sM_2 (m := 0) (by decide)) (by omega) ?_
    refine g_top (y := μ (24 + (toN j))) (vw_pic (b := (vb 0)) (k := 24 + (toN j)) (by first | exact hvσ_1 | assumption) (by omega)) ?_
    refine g_iload_n h dX11_ear_25 1 rfl ?_
    refine g_cspi (rest := [.ref (w.1 0)]) h (c_has hW (μ (24 + (toN j))) (toN i) (by omega)) lX5_has mX11_218 (Nat.lt_of_lt_of_le (by decide) (Nat.le_refl _)) (by decide) rfl rfl rfl dX11_ear_26 ?_
    refine g_iload_n h dX11_ear_29 3 rfl ?_
    refine g_icmpB_ne (p := (tb (μ (24 + (toN j))) (toN i))) (q := on) h dX11_ear_30 (fun c30 => ?_) (fun c30 => ?_)
    ·
      refine g_iconst h dX11_ear_38 (by decide) ?_
      refine g_cvi (rest := []) h (c_fails hW 0 (by repeat (first | omega | exact rg_lt | exact ns_lt | exact ps_lt | exact gst_lt | exact ofS_lt | exact if_lt (by decide) (by decide) | apply fo_lt))) lX11_fails mX11_106 (Nat.lt_of_lt_of_le (by decide) (Nat.le_refl _)) (by decide) sc_0 rfl rfl rfl rfl dX11_ear_39 (fun σ_2 eσ_2 => ?_)
      obtain ⟨eσ_2_a, eσ_2_b⟩ := eσ_2
      have eσ_2_a : σ_2 14000 = (nI 0) := eσ_2_a
      have eσ_2_b : ∀ a, (a ≠ 14000) → σ_2 a = σ_1 a := eσ_2_b
      have ht14000_σ_2 : σ_2 14000 = (nI 0) := eσ_2_a
      have hcFR_σ_2 : ∀ a, ((a < 10000 ∨ 10464 ≤ a) ∧ a ≠ 14000) → σ_2 a = σ a := by intro a ha; exact Eq.trans (b := σ_1 a) (eσ_2_b a (by first | omega | (simp only [vb] at *; omega))) (hcFR_σ_1 a ha)
      have hvσ_2 : vw (vb 0) σ_2 = μ := by rw [vw_fr (σ := σ_1) (fun j _ _ => eσ_2_b _ (by first | omega | (simp only [vb] at *; omega)))]; first | exact hvσ_1 | assumption
      refine g_top (y := nI 0) rfl ?_
      refine g_ifN_eq h dX11_ear_42 (by decide) (fun c42 => ?_) (fun c42 => absurd c42 (by decide))
      refine g_aload_n h dX11_ear_47 0 rfl ?_
      refine g_getr h dX11_ear_48 gX11_23 sc_0 rfl ?_
      refine g_getr h dX11_ear_51 gX11_206 (sM_0 (m := 0) (by decide)) rfl ?_
      refine g_iload_n h dX11_ear_54 2 rfl ?_
      refine g_aload_n h dX11_ear_55 0 rfl ?_
      refine g_getr h dX11_ear_56 gX11_23 sc_0 rfl ?_
      refine g_getr h dX11_ear_59 gX11_206 (sM_0 (m := 0) (by decide)) rfl ?_
      refine g_iload_n h dX11_ear_62 2 rfl ?_
      refine g_iald h dX11_ear_63 (sM_2 (m := 0) (by decide)) (by omega) ?_
      refine g_top (y := μ (24 + (toN j))) (vw_pic (b := (vb 0)) (k := 24 + (toN j)) (by first | exact hvσ_2 | assumption) (by omega)) ?_
      refine g_iload_n h dX11_ear_64 1 rfl ?_
      refine g_iload_n h dX11_ear_65 3 rfl ?_
      refine g_cspi (rest := [.int (nI (toN j)), .ref (w.1 (mc 0 2))]) h (c_with hW (μ (24 + (toN j))) (toN i) on ) lX5_with mX11_279 (Nat.lt_of_lt_of_le (by decide) (Nat.le_refl _)) (by decide) rfl rfl rfl dX11_ear_66 ?_
      refine g_iast h dX11_ear_69 (sM_2 (m := 0) (by decide)) (by omega) ?_
      refine g_nm (fun σ_3 eσ_3 => ?_)
      have eσ_3 : σ_3 = upd σ_2 ((vb 0) + (24 + (toN j))) (wth (μ (24 + (toN j))) (toN i) on) := eσ_3
      have ht14000_σ_3 : σ_3 14000 = (nI 0) := by rw [eσ_3, upd_ne (by first | omega | (simp only [vb] at *; omega))]; first | exact ht14000_σ_2 | assumption
      have hcFR_σ_3 : ∀ a, ((a < 10000 ∨ 10464 ≤ a) ∧ a ≠ 14000) → σ_3 a = σ a := by intro a ha; exact Eq.trans (b := σ_2 a) (by rw [eσ_3, upd_ne (by first | omega | (simp only [vb] at *; omega))]) (hcFR_σ_2 a ha)
      obtain ⟨μ_4, eμ_4⟩ : ∃ μ_4 : Nat → Int32, μ_4 = upd μ (24 + (toN j)) (wth (μ (24 + (toN j))) (toN i) on) := ⟨_, rfl⟩
      have hvσ_3 : vw (vb 0) σ_3 = μ_4 := by rw [eσ_3, eμ_4, vw_in (by omega)]; congr 1
      refine g_iconst h dX11_ear_70 (by decide) ?_
      exact g_zret h hQ dX11_ear_71 (show narrow .boolean (.int (b2i true)) = .int (b2i true) from narrow_b2i _) (congrArg (fun z => some (Value.int (b2i z))) (show (decide (fo (ps μ i j) (if tb (μ (24 + toN j)) (toN i) = on then 6 else 0) = 0)) = true by first | exact bo_yes (by first | exact (fo_r hA).trans (if_neg (ne_of_bb c30)) | fail) (by rfl) | exact bo_no (k := 0) (by first | exact (fo_r hA).trans (if_pos c30) | exact (fo_r hA).trans (if_neg (ne_of_bb c30)) | exact fo_l (nb1 c10) | fail) (by first | decide | omega | assumption | exact nb1 (by assumption)) (by rfl) | fail)) (by exact ⟨(by first | exact pk_yes (by first | exact (fo_r hA).trans (if_neg (ne_of_bb c30)) | fail) (by rw [hvσ_3, eμ_4]) | exact pk_no (k := 0) (by first | exact (fo_r hA).trans (if_pos c30) | exact (fo_r hA).trans (if_neg (ne_of_bb c30)) | exact fo_l (nb1 c10) | fail) (by first | decide | omega | assumption | exact nb1 (by assumption)) hvσ_3 | fail), (by first | exact tk_eq (k := 0) (by first | exact (fo_r hA).trans (if_pos c30) | exact (fo_r hA).trans (if_neg (ne_of_bb c30)) | exact fo_l (nb1 c10) | fail) ht14000_σ_3 | exact tk_eq (k := 0) (by first | exact (fo_r hA).trans (if_neg (ne_of_bb c30)) | fail) ht14000_σ_3 | fail), (by exact hcFR_σ_3)⟩)
    ·
      refine g_bipush h dX11_ear_33 (by decide) ?_
      refine g_goto h dX11_ear_35 ?_
      refine g_cvi (rest := []) h (c_fails hW 6 (by repeat (first | omega | exact rg_lt | exact ns_lt | exact ps_lt | exact gst_lt | exact ofS_lt | exact if_lt (by decide) (by decide) | apply fo_lt))) lX11_fails mX11_106 (Nat.lt_of_lt_of_le (by decide) (Nat.le_refl _)) (by decide) sc_0 rfl rfl rfl rfl dX11_ear_39 (fun σ_5 eσ_5 => ?_)
      obtain ⟨eσ_5_a, eσ_5_b⟩ := eσ_5
      have eσ_5_a : σ_5 14000 = (nI 6) := eσ_5_a
      have eσ_5_b : ∀ a, (a ≠ 14000) → σ_5 a = σ_1 a := eσ_5_b
      have ht14000_σ_5 : σ_5 14000 = (nI 6) := eσ_5_a
      have hcFR_σ_5 : ∀ a, ((a < 10000 ∨ 10464 ≤ a) ∧ a ≠ 14000) → σ_5 a = σ a := by intro a ha; exact Eq.trans (b := σ_1 a) (eσ_5_b a (by first | omega | (simp only [vb] at *; omega))) (hcFR_σ_1 a ha)
      have hvσ_5 : vw (vb 0) σ_5 = μ := by rw [vw_fr (σ := σ_1) (fun j _ _ => eσ_5_b _ (by first | omega | (simp only [vb] at *; omega)))]; first | exact hvσ_1 | assumption
      refine g_top (y := nI 1) rfl ?_
      refine g_ifN_eq h dX11_ear_42 (by decide) (fun c42 => absurd c42 (by decide)) (fun c42 => ?_)
      refine g_iconst h dX11_ear_45 (by decide) ?_
      exact g_zret h hQ dX11_ear_46 (show narrow .boolean (.int (b2i false)) = .int (b2i false) from narrow_b2i _) (congrArg (fun z => some (Value.int (b2i z))) (show (decide (fo (ps μ i j) (if tb (μ (24 + toN j)) (toN i) = on then 6 else 0) = 0)) = false by first | exact bo_yes (by first | exact (fo_r hA).trans (if_neg (ne_of_bb c30)) | fail) (by rfl) | exact bo_no (k := 6) (by first | exact (fo_r hA).trans (if_pos c30) | exact (fo_r hA).trans (if_neg (ne_of_bb c30)) | exact fo_l (nb1 c10) | fail) (by first | decide | omega | assumption | exact nb1 (by assumption)) (by rfl) | fail)) (by exact ⟨(by first | exact pk_yes (by first | exact (fo_r hA).trans (if_neg (ne_of_bb c30)) | fail) (by rw [hvσ_5, Nat.add_zero]) | exact pk_no (k := 6) (by first | exact (fo_r hA).trans (if_pos c30) | exact (fo_r hA).trans (if_neg (ne_of_bb c30)) | exact fo_l (nb1 c10) | fail) (by first | decide | omega | assumption | exact nb1 (by assumption)) hvσ_5 | fail), (by first | exact tk_eq (k := 6) (by first | exact (fo_r hA).trans (if_pos c30) | exact (fo_r hA).trans (if_neg (ne_of_bb c30)) | exact fo_l (nb1 c10) | fail) ht14000_σ_5 | exact tk_eq (k := 6) (by first | exact (fo_r hA).trans (if_neg (ne_of_bb c30)) | fail) ht14000_σ_5 | fail), (by exact hcFR_σ_5)⟩)
  ·
    refine g_iconst h dX11_ear_13 (by decide) ?_
    exact g_zret h hQ dX11_ear_14 (show narrow .boolean (.int (b2i false)) = .int (b2i false) from narrow_b2i _) (congrArg (fun z => some (Value.int (b2i z))) (show (decide (fo (ps μ i j) (if tb (μ (24 + toN j)) (toN i) = on then 6 else 0) = 0)) = false by first | exact bo_yes (by first | exact (fo_r hA).trans (if_neg (ne_of_bb c30)) | fail) (by rfl) | exact bo_no (k := (ps μ i j)) (by first | exact (fo_r hA).trans (if_pos c30) | exact (fo_r hA).trans (if_neg (ne_of_bb c30)) | exact fo_l (nb1 c10) | fail) (by first | decide | omega | assumption | exact nb1 (by assumption)) (by rfl) | fail)) (by exact ⟨(by first | exact pk_yes (by first | exact (fo_r hA).trans (if_neg (ne_of_bb c30)) | fail) (by rw [hvσ_1, Nat.add_zero]) | exact pk_no (k := (ps μ i j)) (by first | exact (fo_r hA).trans (if_pos c30) | exact (fo_r hA).trans (if_neg (ne_of_bb c30)) | exact fo_l (nb1 c10) | fail) (by first | decide | omega | assumption | exact nb1 (by assumption)) hvσ_1 | fail), (by first | exact tk_eq (k := (ps μ i j)) (by first | exact (fo_r hA).trans (if_pos c30) | exact (fo_r hA).trans (if_neg (ne_of_bb c30)) | exact fo_l (nb1 c10) | fail) ht14000_σ_1 | exact tk_eq (k := (ps μ i j)) (by first | exact (fo_r hA).trans (if_neg (ne_of_bb c30)) | fail) ht14000_σ_1 | fail), (by exact hcFR_σ_1)⟩)

set_option maxRecDepth 100000 in
set_option maxHeartbeats 4000000 in
theorem c_isOnI {l : Launch} {w : Wd} (hW : Wi w) {σ : Mem} (k : Int32) (m : Nat) (μ : Nat → Int32) (hm : m < 6) (hv : vw (vb m) σ = μ) (hI : MI μ) : MC l w qX5_isOn 1 [.ref (w.1 (mc m 0)), .int k] σ (some (.int (b2i (nB μ k && tb (μ 1) (toN k))))) (fun σ' => σ' = σ) := by
  refine MC.of hW (by decide +kernel) (Nat.le_of_ble_eq_true rfl) (fun X h hQ hnm => ?_)
  have h : Fx X w cX5_isOn 2 RX5 1 := h
  have hQ : Qx X w (some .boolean) (some (.int (b2i (nB μ k && tb (μ 1) (toN k))))) (fun σ' => σ' = σ) := hQ
  have hN8 := mi_8 hI
  show G X w 2 0 [(0, .ref (w.1 (mc m 0))), (1, .int k)] [] σ
  refine g_aload_n h dX5_isOn_0 0 rfl ?_
  refine g_iload_n h dX5_isOn_1 1 rfl ?_
  refine g_cvpi (rest := []) h (c_isNode hW k m μ (by first | omega | decide | fail) (by first | exact hv | assumption | fail)) lX5_isNode mX5_81 (Nat.lt_of_lt_of_le (by decide) (Nat.le_refl _)) (by decide) (sM_0 (m := m) (by omega)) rfl rfl rfl rfl dX5_isOn_2 ?_
  refine g_ifB_eq h dX5_isOn_5 (fun c5 => ?_) (fun c5 => ?_)
  ·
    refine g_iconst h dX5_isOn_23 (by decide) ?_
    exact g_zret h hQ dX5_isOn_24 (show narrow .boolean (.int (b2i false)) = .int (b2i false) from narrow_b2i _) (congrArg (fun z => some (Value.int (b2i z))) (show (nB μ k && tb (μ 1) (toN k)) = false by first | (simp [nB, c5]; done) | fail | fail)) rfl
  ·
    obtain ⟨ek, hk9⟩ := nB_N hI (show nB μ k = true from c5)
    rw [ek]
    show G X w 2 8 [(0, .ref (w.1 (mc m 0))), (1, .int (nI (toN k)))] [] σ
    refine g_aload_n h dX5_isOn_8 0 rfl ?_
    refine g_geti h dX5_isOn_9 gX5_42 (sM_0 (m := m) (by omega)) rfl ?_
    refine g_top (y := μ 1) (vw_pic (b := (vb m)) (k := 1) (by first | exact hv | assumption) (by omega)) ?_
    refine g_iload_n h dX5_isOn_12 1 rfl ?_
    refine g_cspi (rest := []) h (c_has hW (μ 1) (toN k) (by omega)) lX5_has mX5_85 (Nat.lt_of_lt_of_le (by decide) (Nat.le_refl _)) (by decide) rfl rfl rfl dX5_isOn_13 ?_
    refine g_ifB_eq h dX5_isOn_16 (fun c16 => ?_) (fun c16 => ?_)
    ·
      refine g_iconst h dX5_isOn_23 (by decide) ?_
      exact g_zret h hQ dX5_isOn_24 (show narrow .boolean (.int (b2i false)) = .int (b2i false) from narrow_b2i _) (congrArg (fun z => some (Value.int (b2i z))) (show (nB μ k && tb (μ 1) (toN k)) = false by first | (simp [nB, c5, c16]; done) | fail | fail)) rfl
    ·
      refine g_iconst h dX5_isOn_19 (by decide) ?_
      refine g_goto h dX5_isOn_20 ?_
      exact g_zret h hQ dX5_isOn_24 (show narrow .boolean (.int (b2i true)) = .int (b2i true) from narrow_b2i _) (congrArg (fun z => some (Value.int (b2i z))) (show (nB μ k && tb (μ 1) (toN k)) = true by first | (simp [nB, c5, c16]; done) | fail | fail)) rfl

set_option maxRecDepth 100000 in
set_option maxHeartbeats 4000000 in
theorem p_turn {l : Launch} {w : Wd} (hW : Wi w) {σ : Mem} (i : Int32) (on : Bool)  (μ : Nat → Int32) (hv : vw (vb 0) σ = μ) (hI : MI μ) : MC l w qX11_turn 2 [.ref (w.1 0), .int i, .int (b2i on)] σ (some (.int (b2i (decide (fo (ns μ i) (if (nB μ i && tb (μ 1) (toN i)) = on then 6 else 0) = 0))))) (fun σ' => (vw (vb 0) σ' = pk0 (fo (ns μ i) (if (nB μ i && tb (μ 1) (toN i)) = on then 6 else 0)) (upd μ 1 (wth (μ 1) (toN i) on)) μ) ∧ (σ' 14000 = (nI (fo (ns μ i) (if (nB μ i && tb (μ 1) (toN i)) = on then 6 else 0)))) ∧ (∀ a, ((a < 10000 ∨ 10464 ≤ a) ∧ a ≠ 14000) → σ' a = σ a)) := by
  refine MC.of hW (by decide +kernel) (Nat.le_of_ble_eq_true rfl) (fun X h hQ hnm => ?_)
  have h : Fx X w cX11_turn 4 RX11 2 := h
  have hQ : Qx X w (some .boolean) (some (.int (b2i (decide (fo (ns μ i) (if (nB μ i && tb (μ 1) (toN i)) = on then 6 else 0) = 0))))) (fun σ' => (vw (vb 0) σ' = pk0 (fo (ns μ i) (if (nB μ i && tb (μ 1) (toN i)) = on then 6 else 0)) (upd μ 1 (wth (μ 1) (toN i) on)) μ) ∧ (σ' 14000 = (nI (fo (ns μ i) (if (nB μ i && tb (μ 1) (toN i)) = on then 6 else 0)))) ∧ (∀ a, ((a < 10000 ∨ 10464 ≤ a) ∧ a ≠ 14000) → σ' a = σ a)) := hQ
  have hN8 := mi_8 hI
  have hvb0 : vb 0 = 10000 := rfl
  have hcFR_σ : ∀ a, ((a < 10000 ∨ 10464 ≤ a) ∧ a ≠ 14000) → σ a = σ a := fun _ _ => rfl
  show G X w 4 0 [(0, .ref (w.1 0)), (1, .int i), (2, .int (b2i on))] [] σ
  refine g_aload_n h dX11_turn_0 0 rfl ?_
  refine g_getr h dX11_turn_1 gX11_23 sc_0 rfl ?_
  refine g_iload_n h dX11_turn_4 1 rfl ?_
  refine g_cvpi (rest := []) h (c_isOnI hW i 0 μ (by first | omega | decide | fail) (by first | exact hv | assumption | fail) (by assumption)) lX5_isOn mX11_167 (Nat.lt_of_lt_of_le (by decide) (Nat.le_refl _)) (by decide) (sM_0 (m := 0) (by decide)) rfl rfl rfl rfl dX11_turn_5 ?_
  refine g_iload_n h dX11_turn_8 2 rfl ?_
  refine g_icmpB_ne (p := (nB μ i && tb (μ 1) (toN i))) (q := on) h dX11_turn_9 (fun c9 => ?_) (fun c9 => ?_)
  ·
    refine g_iconst h dX11_turn_17 (by decide) ?_
    refine g_istore_n (L' := [(0, .ref (w.1 0)), (1, .int i), (2, .int (b2i on)), (3, .int (nI 0))]) h dX11_turn_18 rfl (by decide) rfl ?_
    refine g_aload_n h dX11_turn_19 0 rfl ?_
    refine g_aload_n h dX11_turn_20 0 rfl ?_
    refine g_iload_n h dX11_turn_21 1 rfl ?_
    refine g_cvpi (rest := [.ref (w.1 0)]) h (c_ns hW i μ (by first | exact hv | assumption | fail)) lX11_nodeStatus mX11_159 (Nat.lt_of_lt_of_le (by decide) (Nat.le_refl _)) (by decide) sc_0 rfl rfl rfl rfl dX11_turn_22 ?_
    refine g_iload_n h dX11_turn_25 3 rfl ?_
    refine g_cspi (rest := [.ref (w.1 0)]) h (c_fo hW (ns μ i) 0 (by repeat (first | omega | exact rg_lt | exact ns_lt | exact ps_lt | exact gst_lt | exact ofS_lt | exact if_lt (by decide) (by decide) | apply fo_lt)) (by repeat (first | omega | exact rg_lt | exact ns_lt | exact ps_lt | exact gst_lt | exact ofS_lt | exact if_lt (by decide) (by decide) | apply fo_lt))) lX11_firstOf mX11_163 (Nat.lt_of_lt_of_le (by decide) (Nat.le_refl _)) (by decide) rfl rfl rfl dX11_turn_26 ?_
    refine g_cvi (rest := []) h (c_fails hW (fo (ns μ i) 0) (by repeat (first | omega | exact rg_lt | exact ns_lt | exact ps_lt | exact gst_lt | exact ofS_lt | exact if_lt (by decide) (by decide) | apply fo_lt))) lX11_fails mX11_106 (Nat.lt_of_lt_of_le (by decide) (Nat.le_refl _)) (by decide) sc_0 rfl rfl rfl rfl dX11_turn_29 (fun σ_1 eσ_1 => ?_)
    obtain ⟨eσ_1_a, eσ_1_b⟩ := eσ_1
    have eσ_1_a : σ_1 14000 = (nI (fo (ns μ i) 0)) := eσ_1_a
    have eσ_1_b : ∀ a, (a ≠ 14000) → σ_1 a = σ a := eσ_1_b
    have ht14000_σ_1 : σ_1 14000 = (nI (fo (ns μ i) 0)) := eσ_1_a
    have hcFR_σ_1 : ∀ a, ((a < 10000 ∨ 10464 ≤ a) ∧ a ≠ 14000) → σ_1 a = σ a := by intro a ha; exact Eq.trans (b := σ a) (eσ_1_b a (by first | omega | (simp only [vb] at *; omega))) (hcFR_σ a ha)
    have hvσ_1 : vw (vb 0) σ_1 = μ := by rw [vw_fr (σ := σ) (fun j _ _ => eσ_1_b _ (by first | omega | (simp only [vb] at *; omega)))]; first | exact hv | assumption
    refine g_ifB_eq h dX11_turn_32 (fun c32 => ?_) (fun c32 => ?_)
    ·
      have hS0 : fo (ns μ i) (if (nB μ i && tb (μ 1) (toN i)) = on then 6 else 0) = 0 := by first | (rw [if_pos c9]; exact nb0 c32) | (rw [if_neg (ne_of_bb c9)]; exact nb0 c32)
      obtain ⟨hs1, hs2⟩ := fo_0 hS0
      obtain ⟨ei, hi9⟩ := nB_N hI (ns_0 hs1)
      rw [ei]
      show G X w 4 37 [(0, .ref (w.1 0)), (1, .int (nI (toN i))), (2, .int (b2i on)), (3, .int (nI 0))] [] σ_1
      refine g_aload_n h dX11_turn_37 0 rfl ?_
      refine g_getr h dX11_turn_38 gX11_23 sc_0 rfl ?_
      refine g_aload_n h dX11_turn_41 0 rfl ?_
      refine g_getr h dX11_turn_42 gX11_23 sc_0 rfl ?_
      refine g_geti h dX11_turn_45 gX11_123 (sM_0 (m := 0) (by decide)) rfl ?_
      refine g_top (y := μ 1) (vw_pic (b := (vb 0)) (k := 1) (by first | exact hvσ_1 | assumption) (by omega)) ?_
      refine g_iload_n h dX11_turn_48 1 rfl ?_
      refine g_iload_n h dX11_turn_49 2 rfl ?_
      refine g_cspi (rest := [.ref (w.1 (mc 0 0))]) h (c_with hW (μ 1) (toN i) on ) lX5_with mX11_279 (Nat.lt_of_lt_of_le (by decide) (Nat.le_refl _)) (by decide) rfl rfl rfl dX11_turn_50 ?_
      refine g_puti h dX11_turn_53 pX11_123 (sM_0 (m := 0) (by decide)) rfl ?_
      refine g_nm (fun σ_2 eσ_2 => ?_)
      have eσ_2 : σ_2 = upd σ_1 ((vb 0) + 1) (wth (μ 1) (toN i) on) := eσ_2
      have ht14000_σ_2 : σ_2 14000 = (nI (fo (ns μ i) 0)) := by rw [eσ_2, upd_ne (by first | omega | (simp only [vb] at *; omega))]; first | exact ht14000_σ_1 | assumption
      have hcFR_σ_2 : ∀ a, ((a < 10000 ∨ 10464 ≤ a) ∧ a ≠ 14000) → σ_2 a = σ a := by intro a ha; exact Eq.trans (b := σ_1 a) (by rw [eσ_2, upd_ne (by first | omega | (simp only [vb] at *; omega))]) (hcFR_σ_1 a ha)
      obtain ⟨μ_3, eμ_3⟩ : ∃ μ_3 : Nat → Int32, μ_3 = upd μ 1 (wth (μ 1) (toN i) on) := ⟨_, rfl⟩
      have hvσ_2 : vw (vb 0) σ_2 = μ_3 := by rw [eσ_2, eμ_3, vw_in (by omega)]; congr 1
      refine g_iconst h dX11_turn_56 (by decide) ?_
      exact g_zret h hQ dX11_turn_57 (show narrow .boolean (.int (b2i true)) = .int (b2i true) from narrow_b2i _) (congrArg (fun z => some (Value.int (b2i z))) (show (decide (fo (ns μ i) (if (nB μ i && tb (μ 1) (toN i)) = on then 6 else 0) = 0)) = true by first | exact bo_yes (by first | exact hS0 | fail) (by rfl) | exact bo_no (k := (fo (ns μ i) 0)) (by first | rfl | (rw [if_pos c9]; done) | (rw [if_neg (ne_of_bb c9)]; done) | fail) (by first | decide | omega | assumption | exact nb1 (by assumption)) (by rfl) | fail)) (by exact ⟨(by first | exact pk_yes (by first | exact hS0 | fail) (by rw [hvσ_2, eμ_3]) | exact pk_no (k := (fo (ns μ i) 0)) (by first | rfl | (rw [if_pos c9]; done) | (rw [if_neg (ne_of_bb c9)]; done) | fail) (by first | decide | omega | assumption | exact nb1 (by assumption)) hvσ_2 | fail), (by first | exact tk_eq (k := (fo (ns μ i) 0)) (by first | rfl | (rw [if_pos c9]; done) | (rw [if_neg (ne_of_bb c9)]; done) | fail) ht14000_σ_2 | exact tk_eq (k := (fo (ns μ i) 0)) (by first | exact hS0 | fail) ht14000_σ_2 | fail), (by exact hcFR_σ_2)⟩)
    ·
      refine g_iconst h dX11_turn_35 (by decide) ?_
      exact g_zret h hQ dX11_turn_36 (show narrow .boolean (.int (b2i false)) = .int (b2i false) from narrow_b2i _) (congrArg (fun z => some (Value.int (b2i z))) (show (decide (fo (ns μ i) (if (nB μ i && tb (μ 1) (toN i)) = on then 6 else 0) = 0)) = false by first | exact bo_yes (by first | exact hS0 | fail) (by rfl) | exact bo_no (k := (fo (ns μ i) 0)) (by first | rfl | (rw [if_pos c9]; done) | (rw [if_neg (ne_of_bb c9)]; done) | fail) (by first | decide | omega | assumption | exact nb1 (by assumption)) (by rfl) | fail)) (by exact ⟨(by first | exact pk_yes (by first | exact hS0 | fail) (by rw [hvσ_1, Nat.add_zero]) | exact pk_no (k := (fo (ns μ i) 0)) (by first | rfl | (rw [if_pos c9]; done) | (rw [if_neg (ne_of_bb c9)]; done) | fail) (by first | decide | omega | assumption | exact nb1 (by assumption)) hvσ_1 | fail), (by first | exact tk_eq (k := (fo (ns μ i) 0)) (by first | rfl | (rw [if_pos c9]; done) | (rw [if_neg (ne_of_bb c9)]; done) | fail) ht14000_σ_1 | exact tk_eq (k := (fo (ns μ i) 0)) (by first | exact hS0 | fail) ht14000_σ_1 | fail), (by exact hcFR_σ_1)⟩)
  ·
    refine g_bipush h dX11_turn_12 (by decide) ?_
    refine g_goto h dX11_turn_14 ?_
    refine g_istore_n (L' := [(0, .ref (w.1 0)), (1, .int i), (2, .int (b2i on)), (3, .int (nI 6))]) h dX11_turn_18 rfl (by decide) rfl ?_
    refine g_aload_n h dX11_turn_19 0 rfl ?_
    refine g_aload_n h dX11_turn_20 0 rfl ?_
    refine g_iload_n h dX11_turn_21 1 rfl ?_
    refine g_cvpi (rest := [.ref (w.1 0)]) h (c_ns hW i μ (by first | exact hv | assumption | fail)) lX11_nodeStatus mX11_159 (Nat.lt_of_lt_of_le (by decide) (Nat.le_refl _)) (by decide) sc_0 rfl rfl rfl rfl dX11_turn_22 ?_
    refine g_iload_n h dX11_turn_25 3 rfl ?_
    refine g_cspi (rest := [.ref (w.1 0)]) h (c_fo hW (ns μ i) 6 (by repeat (first | omega | exact rg_lt | exact ns_lt | exact ps_lt | exact gst_lt | exact ofS_lt | exact if_lt (by decide) (by decide) | apply fo_lt)) (by repeat (first | omega | exact rg_lt | exact ns_lt | exact ps_lt | exact gst_lt | exact ofS_lt | exact if_lt (by decide) (by decide) | apply fo_lt))) lX11_firstOf mX11_163 (Nat.lt_of_lt_of_le (by decide) (Nat.le_refl _)) (by decide) rfl rfl rfl dX11_turn_26 ?_
    refine g_cvi (rest := []) h (c_fails hW (fo (ns μ i) 6) (by repeat (first | omega | exact rg_lt | exact ns_lt | exact ps_lt | exact gst_lt | exact ofS_lt | exact if_lt (by decide) (by decide) | apply fo_lt))) lX11_fails mX11_106 (Nat.lt_of_lt_of_le (by decide) (Nat.le_refl _)) (by decide) sc_0 rfl rfl rfl rfl dX11_turn_29 (fun σ_4 eσ_4 => ?_)
    obtain ⟨eσ_4_a, eσ_4_b⟩ := eσ_4
    have eσ_4_a : σ_4 14000 = (nI (fo (ns μ i) 6)) := eσ_4_a
    have eσ_4_b : ∀ a, (a ≠ 14000) → σ_4 a = σ a := eσ_4_b
    have ht14000_σ_4 : σ_4 14000 = (nI (fo (ns μ i) 6)) := eσ_4_a
    have hcFR_σ_4 : ∀ a, ((a < 10000 ∨ 10464 ≤ a) ∧ a ≠ 14000) → σ_4 a = σ a := by intro a ha; exact Eq.trans (b := σ a) (eσ_4_b a (by first | omega | (simp only [vb] at *; omega))) (hcFR_σ a ha)
    have hvσ_4 : vw (vb 0) σ_4 = μ := by rw [vw_fr (σ := σ) (fun j _ _ => eσ_4_b _ (by first | omega | (simp only [vb] at *; omega)))]; first | exact hv | assumption
    refine g_ifB_eq h dX11_turn_32 (fun c32 => ?_) (fun c32 => ?_)
    ·
      have hS0 : fo (ns μ i) (if (nB μ i && tb (μ 1) (toN i)) = on then 6 else 0) = 0 := by first | (rw [if_pos c9]; exact nb0 c32) | (rw [if_neg (ne_of_bb c9)]; exact nb0 c32)
      obtain ⟨hs1, hs2⟩ := fo_0 hS0
      obtain ⟨ei, hi9⟩ := nB_N hI (ns_0 hs1)
      rw [ei]
      show G X w 4 37 [(0, .ref (w.1 0)), (1, .int (nI (toN i))), (2, .int (b2i on)), (3, .int (nI 6))] [] σ_4
      refine g_aload_n h dX11_turn_37 0 rfl ?_
      refine g_getr h dX11_turn_38 gX11_23 sc_0 rfl ?_
      refine g_aload_n h dX11_turn_41 0 rfl ?_
      refine g_getr h dX11_turn_42 gX11_23 sc_0 rfl ?_
      refine g_geti h dX11_turn_45 gX11_123 (sM_0 (m := 0) (by decide)) rfl ?_
      refine g_top (y := μ 1) (vw_pic (b := (vb 0)) (k := 1) (by first | exact hvσ_4 | assumption) (by omega)) ?_
      refine g_iload_n h dX11_turn_48 1 rfl ?_
      refine g_iload_n h dX11_turn_49 2 rfl ?_
      refine g_cspi (rest := [.ref (w.1 (mc 0 0))]) h (c_with hW (μ 1) (toN i) on ) lX5_with mX11_279 (Nat.lt_of_lt_of_le (by decide) (Nat.le_refl _)) (by decide) rfl rfl rfl dX11_turn_50 ?_
      refine g_puti h dX11_turn_53 pX11_123 (sM_0 (m := 0) (by decide)) rfl ?_
      refine g_nm (fun σ_5 eσ_5 => ?_)
      have eσ_5 : σ_5 = upd σ_4 ((vb 0) + 1) (wth (μ 1) (toN i) on) := eσ_5
      have ht14000_σ_5 : σ_5 14000 = (nI (fo (ns μ i) 6)) := by rw [eσ_5, upd_ne (by first | omega | (simp only [vb] at *; omega))]; first | exact ht14000_σ_4 | assumption
      have hcFR_σ_5 : ∀ a, ((a < 10000 ∨ 10464 ≤ a) ∧ a ≠ 14000) → σ_5 a = σ a := by intro a ha; exact Eq.trans (b := σ_4 a) (by rw [eσ_5, upd_ne (by first | omega | (simp only [vb] at *; omega))]) (hcFR_σ_4 a ha)
      obtain ⟨μ_6, eμ_6⟩ : ∃ μ_6 : Nat → Int32, μ_6 = upd μ 1 (wth (μ 1) (toN i) on) := ⟨_, rfl⟩
      have hvσ_5 : vw (vb 0) σ_5 = μ_6 := by rw [eσ_5, eμ_6, vw_in (by omega)]; congr 1
      refine g_iconst h dX11_turn_56 (by decide) ?_
      exact g_zret h hQ dX11_turn_57 (show narrow .boolean (.int (b2i true)) = .int (b2i true) from narrow_b2i _) (congrArg (fun z => some (Value.int (b2i z))) (show (decide (fo (ns μ i) (if (nB μ i && tb (μ 1) (toN i)) = on then 6 else 0) = 0)) = true by first | exact bo_yes (by first | exact hS0 | fail) (by rfl) | exact bo_no (k := (fo (ns μ i) 6)) (by first | rfl | (rw [if_pos c9]; done) | (rw [if_neg (ne_of_bb c9)]; done) | fail) (by first | decide | omega | assumption | exact nb1 (by assumption)) (by rfl) | fail)) (by exact ⟨(by first | exact pk_yes (by first | exact hS0 | fail) (by rw [hvσ_5, eμ_6]) | exact pk_no (k := (fo (ns μ i) 6)) (by first | rfl | (rw [if_pos c9]; done) | (rw [if_neg (ne_of_bb c9)]; done) | fail) (by first | decide | omega | assumption | exact nb1 (by assumption)) hvσ_5 | fail), (by first | exact tk_eq (k := (fo (ns μ i) 6)) (by first | rfl | (rw [if_pos c9]; done) | (rw [if_neg (ne_of_bb c9)]; done) | fail) ht14000_σ_5 | exact tk_eq (k := (fo (ns μ i) 6)) (by first | exact hS0 | fail) ht14000_σ_5 | fail), (by exact hcFR_σ_5)⟩)
    ·
      refine g_iconst h dX11_turn_35 (by decide) ?_
      exact g_zret h hQ dX11_turn_36 (show narrow .boolean (.int (b2i false)) = .int (b2i false) from narrow_b2i _) (congrArg (fun z => some (Value.int (b2i z))) (show (decide (fo (ns μ i) (if (nB μ i && tb (μ 1) (toN i)) = on then 6 else 0) = 0)) = false by first | exact bo_yes (by first | exact hS0 | fail) (by rfl) | exact bo_no (k := (fo (ns μ i) 6)) (by first | rfl | (rw [if_pos c9]; done) | (rw [if_neg (ne_of_bb c9)]; done) | fail) (by first | decide | omega | assumption | exact nb1 (by assumption)) (by rfl) | fail)) (by exact ⟨(by first | exact pk_yes (by first | exact hS0 | fail) (by rw [hvσ_4, Nat.add_zero]) | exact pk_no (k := (fo (ns μ i) 6)) (by first | rfl | (rw [if_pos c9]; done) | (rw [if_neg (ne_of_bb c9)]; done) | fail) (by first | decide | omega | assumption | exact nb1 (by assumption)) hvσ_4 | fail), (by first | exact tk_eq (k := (fo (ns μ i) 6)) (by first | rfl | (rw [if_pos c9]; done) | (rw [if_neg (ne_of_bb c9)]; done) | fail) ht14000_σ_4 | exact tk_eq (k := (fo (ns μ i) 6)) (by first | exact hS0 | fail) ht14000_σ_4 | fail), (by exact hcFR_σ_4)⟩)

set_option maxRecDepth 100000 in
set_option maxHeartbeats 4000000 in
theorem c_addNode {l : Launch} {w : Wd} (hW : Wi w) {σ : Mem} (wl : Nat) (m : Nat) (μ : Nat → Int32) (hm : m < 6) (hv : vw (vb m) σ = μ) (hI : MI μ) (h8 : nN μ < 8) : MC l w qX5_addNode 1 [.ref (w.1 (mc m 0)), .int (nI wl)] σ none (fun σ' => (vw (vb m) σ' = upd (upd (upd μ (16 + nN μ) (nI wl)) 1 (μ 1 ||| bt1 (nN μ))) 0 (nI (nN μ + 1))) ∧ (∀ a, (a < vb m ∨ vb m + 464 ≤ a) → σ' a = σ a)) := by
  refine MC.of hW (by decide +kernel) (Nat.le_of_ble_eq_true rfl) (fun X h hQ hnm => ?_)
  have h : Fx X w cX5_addNode 2 RX5 1 := h
  have hQ : Qx X w none none (fun σ' => (vw (vb m) σ' = upd (upd (upd μ (16 + nN μ) (nI wl)) 1 (μ 1 ||| bt1 (nN μ))) 0 (nI (nN μ + 1))) ∧ (∀ a, (a < vb m ∨ vb m + 464 ≤ a) → σ' a = σ a)) := hQ
  have hN8 := mi_8 hI
  have hvb1 : vb m = 10000 + 528 * m := rfl
  have hcFR_σ : ∀ a, (a < vb m ∨ vb m + 464 ≤ a) → σ a = σ a := fun _ _ => rfl
  show G X w 2 0 [(0, .ref (w.1 (mc m 0))), (1, .int (nI wl))] [] σ
  refine g_aload_n h dX5_addNode_0 0 rfl ?_
  refine g_geti h dX5_addNode_1 gX5_38 (sM_0 (m := m) (by omega)) rfl ?_
  refine g_top (y := μ 0) (vw_pic (b := (vb m)) (k := 0) (by first | exact hv | assumption) (by omega)) ?_
  refine g_top (y := nI (nN μ)) (mi_0 (by assumption)) ?_
  refine g_bipush h dX5_addNode_4 (by decide) ?_
  refine g_icmpN_ge h dX5_addNode_6 (by omega) (by omega) (fun c6 => ?_) (fun c6 => ?_)
  ·
    exfalso; omega
  ·
    refine g_aload_n h dX5_addNode_9 0 rfl ?_
    refine g_getr h dX5_addNode_10 gX5_9 (sM_0 (m := m) (by omega)) rfl ?_
    refine g_aload_n h dX5_addNode_13 0 rfl ?_
    refine g_geti h dX5_addNode_14 gX5_38 (sM_0 (m := m) (by omega)) rfl ?_
    refine g_top (y := μ 0) (vw_pic (b := (vb m)) (k := 0) (by first | exact hv | assumption) (by omega)) ?_
    refine g_top (y := nI (nN μ)) (mi_0 (by assumption)) ?_
    refine g_iload_n h dX5_addNode_17 1 rfl ?_
    refine g_iast h dX5_addNode_18 (sM_1 (m := m) (by omega)) (by omega) ?_
    refine g_nm (fun σ_1 eσ_1 => ?_)
    have eσ_1 : σ_1 = upd σ ((vb m) + (16 + (nN μ))) (nI wl) := eσ_1
    have hcFR_σ_1 : ∀ a, (a < vb m ∨ vb m + 464 ≤ a) → σ_1 a = σ a := by intro a ha; exact Eq.trans (b := σ a) (by rw [eσ_1, upd_ne (by first | omega | (simp only [vb] at *; omega))]) (hcFR_σ a ha)
    obtain ⟨μa, eμa⟩ : ∃ μa : Nat → Int32, μa = upd μ (16 + (nN μ)) (nI wl) := ⟨_, rfl⟩
    have hvσ_1 : vw (vb m) σ_1 = μa := by rw [eσ_1, eμa, vw_in (by omega)]; congr 1
    refine g_aload_n h dX5_addNode_19 0 rfl ?_
    refine g_dup h dX5_addNode_20 rfl ?_
    refine g_geti h dX5_addNode_21 gX5_42 (sM_0 (m := m) (by omega)) rfl ?_
    refine g_top (y := μa 1) (vw_pic (b := (vb m)) (k := 1) (by first | exact hvσ_1 | assumption) (by omega)) ?_
    refine g_top (y := μ 1) (by rw [eμa, upd_ne (by first | omega | (simp only [vb] at *; omega))]) ?_
    refine g_aload_n h dX5_addNode_24 0 rfl ?_
    refine g_geti h dX5_addNode_25 gX5_38 (sM_0 (m := m) (by omega)) rfl ?_
    refine g_top (y := μa 0) (vw_pic (b := (vb m)) (k := 0) (by first | exact hvσ_1 | assumption) (by omega)) ?_
    refine g_top (y := μ 0) (by rw [eμa, upd_ne (by first | omega | (simp only [vb] at *; omega))]) ?_
    refine g_top (y := nI (nN μ)) (mi_0 (by assumption)) ?_
    refine g_cspi (rest := [.int (μ 1), .ref (w.1 (mc m 0))]) h (c_bit hW (nN μ) ) lX5_bit mX5_89 (Nat.lt_of_lt_of_le (by decide) (Nat.le_refl _)) (by decide) rfl rfl rfl dX5_addNode_28 ?_
    refine g_ior h dX5_addNode_31  ?_
    refine g_puti h dX5_addNode_32 pX5_42 (sM_0 (m := m) (by omega)) rfl ?_
    refine g_nm (fun σ_2 eσ_2 => ?_)
    have eσ_2 : σ_2 = upd σ_1 ((vb m) + 1) ((μ 1) ||| (bt1 (nN μ))) := eσ_2
    have hcFR_σ_2 : ∀ a, (a < vb m ∨ vb m + 464 ≤ a) → σ_2 a = σ a := by intro a ha; exact Eq.trans (b := σ_1 a) (by rw [eσ_2, upd_ne (by first | omega | (simp only [vb] at *; omega))]) (hcFR_σ_1 a ha)
    obtain ⟨μb, eμb⟩ : ∃ μb : Nat → Int32, μb = upd μa 1 ((μ 1) ||| (bt1 (nN μ))) := ⟨_, rfl⟩
    have hvσ_2 : vw (vb m) σ_2 = μb := by rw [eσ_2, eμb, vw_in (by omega)]; congr 1
    refine g_aload_n h dX5_addNode_35 0 rfl ?_
    refine g_dup h dX5_addNode_36 rfl ?_
    refine g_geti h dX5_addNode_37 gX5_38 (sM_0 (m := m) (by omega)) rfl ?_
    refine g_top (y := μb 0) (vw_pic (b := (vb m)) (k := 0) (by first | exact hvσ_2 | assumption) (by omega)) ?_
    refine g_top (y := μa 0) (by rw [eμb, upd_ne (by first | omega | (simp only [vb] at *; omega))]) ?_
    refine g_top (y := μ 0) (by rw [eμa, upd_ne (by first | omega | (simp only [vb] at *; omega))]) ?_
    refine g_top (y := nI (nN μ)) (mi_0 (by assumption)) ?_
    refine g_iconst h dX5_addNode_40 (by decide) ?_
    refine g_iaddN h dX5_addNode_41  ?_
    refine g_puti h dX5_addNode_42 pX5_38 (sM_0 (m := m) (by omega)) rfl ?_
    refine g_nm (fun σ_3 eσ_3 => ?_)
    have eσ_3 : σ_3 = upd σ_2 ((vb m) + 0) (nI (nN μ + 1)) := eσ_3
    have hcFR_σ_3 : ∀ a, (a < vb m ∨ vb m + 464 ≤ a) → σ_3 a = σ a := by intro a ha; exact Eq.trans (b := σ_2 a) (by rw [eσ_3, upd_ne (by first | omega | (simp only [vb] at *; omega))]) (hcFR_σ_2 a ha)
    obtain ⟨μc, eμc⟩ : ∃ μc : Nat → Int32, μc = upd μb 0 (nI (nN μ + 1)) := ⟨_, rfl⟩
    have hvσ_3 : vw (vb m) σ_3 = μc := by rw [eσ_3, eμc, vw_in (by omega)]; congr 1
    exact g_vret h hQ dX5_addNode_45 rfl (by exact ⟨(by rw [hvσ_3, eμc, eμb, eμa]), (by exact hcFR_σ_3)⟩)

set_option maxRecDepth 100000 in
set_option maxHeartbeats 4000000 in
theorem p_add {l : Launch} {w : Wd} (hW : Wi w) {σ : Mem} (wl : Int32)  (μ : Nat → Int32) (hv : vw (vb 0) σ = μ) (hI : MI μ) : MC l w qX11_add 2 [.ref (w.1 0), .int wl] σ (some (.int (an (fo (rg wl (nI 0) (nI 7)) (if nN μ = 8 then 5 else 0)) (nI (nN μ))))) (fun σ' => (vw (vb 0) σ' = pk0 (fo (rg wl (nI 0) (nI 7)) (if nN μ = 8 then 5 else 0)) (upd (upd (upd μ (16 + nN μ) (nI (toN wl))) 1 (μ 1 ||| bt1 (nN μ))) 0 (nI (nN μ + 1))) μ) ∧ (σ' 14000 = (nI (fo (rg wl (nI 0) (nI 7)) (if nN μ = 8 then 5 else 0)))) ∧ (∀ a, ((a < 10000 ∨ 10464 ≤ a) ∧ a ≠ 14000) → σ' a = σ a)) := by
  refine MC.of hW (by decide +kernel) (Nat.le_of_ble_eq_true rfl) (fun X h hQ hnm => ?_)
  have h : Fx X w cX11_add 3 RX11 2 := h
  have hQ : Qx X w (some .int) (some (.int (an (fo (rg wl (nI 0) (nI 7)) (if nN μ = 8 then 5 else 0)) (nI (nN μ))))) (fun σ' => (vw (vb 0) σ' = pk0 (fo (rg wl (nI 0) (nI 7)) (if nN μ = 8 then 5 else 0)) (upd (upd (upd μ (16 + nN μ) (nI (toN wl))) 1 (μ 1 ||| bt1 (nN μ))) 0 (nI (nN μ + 1))) μ) ∧ (σ' 14000 = (nI (fo (rg wl (nI 0) (nI 7)) (if nN μ = 8 then 5 else 0)))) ∧ (∀ a, ((a < 10000 ∨ 10464 ≤ a) ∧ a ≠ 14000) → σ' a = σ a)) := hQ
  have hN8 := mi_8 hI
  have hvb0 : vb 0 = 10000 := rfl
  have hcFR_σ : ∀ a, ((a < 10000 ∨ 10464 ≤ a) ∧ a ≠ 14000) → σ a = σ a := fun _ _ => rfl
  show G X w 3 0 [(0, .ref (w.1 0)), (1, .int wl)] [] σ
  refine g_aload_n h dX11_add_0 0 rfl ?_
  refine g_getr h dX11_add_1 gX11_23 sc_0 rfl ?_
  refine g_geti h dX11_add_4 gX11_120 (sM_0 (m := 0) (by decide)) rfl ?_
  refine g_top (y := μ 0) (vw_pic (b := (vb 0)) (k := 0) (by first | exact hv | assumption) (by omega)) ?_
  refine g_top (y := nI (nN μ)) (mi_0 (by assumption)) ?_
  refine g_bipush h dX11_add_7 (by decide) ?_
  refine g_icmpN_lt h dX11_add_9 (by omega) (by omega) (fun c9 => ?_) (fun c9 => ?_)
  ·
    refine g_iconst h dX11_add_16 (by decide) ?_
    refine g_istore_n (L' := [(0, .ref (w.1 0)), (1, .int wl), (2, .int (nI 0))]) h dX11_add_17 rfl (by decide) rfl ?_
    refine g_aload_n h dX11_add_18 0 rfl ?_
    refine g_iload_n h dX11_add_19 1 rfl ?_
    refine g_iconst h dX11_add_20 (by decide) ?_
    refine g_bipush h dX11_add_21 (by decide) ?_
    refine g_cspi (rest := [.ref (w.1 0)]) h (c_rg hW wl (nI 0) (nI 7) ) lX11_rangeStatus mX11_102 (Nat.lt_of_lt_of_le (by decide) (Nat.le_refl _)) (by decide) rfl rfl rfl dX11_add_23 ?_
    refine g_iload_n h dX11_add_26 2 rfl ?_
    refine g_cspi (rest := [.ref (w.1 0)]) h (c_fo hW (rg wl (nI 0) (nI 7)) 0 (by repeat (first | omega | exact rg_lt | exact ns_lt | exact ps_lt | exact gst_lt | exact ofS_lt | exact if_lt (by decide) (by decide) | apply fo_lt)) (by repeat (first | omega | exact rg_lt | exact ns_lt | exact ps_lt | exact gst_lt | exact ofS_lt | exact if_lt (by decide) (by decide) | apply fo_lt))) lX11_firstOf mX11_163 (Nat.lt_of_lt_of_le (by decide) (Nat.le_refl _)) (by decide) rfl rfl rfl dX11_add_27 ?_
    refine g_cvi (rest := []) h (c_fails hW (fo (rg wl (nI 0) (nI 7)) 0) (by repeat (first | omega | exact rg_lt | exact ns_lt | exact ps_lt | exact gst_lt | exact ofS_lt | exact if_lt (by decide) (by decide) | apply fo_lt))) lX11_fails mX11_106 (Nat.lt_of_lt_of_le (by decide) (Nat.le_refl _)) (by decide) sc_0 rfl rfl rfl rfl dX11_add_30 (fun σ_1 eσ_1 => ?_)
    obtain ⟨eσ_1_a, eσ_1_b⟩ := eσ_1
    have eσ_1_a : σ_1 14000 = (nI (fo (rg wl (nI 0) (nI 7)) 0)) := eσ_1_a
    have eσ_1_b : ∀ a, (a ≠ 14000) → σ_1 a = σ a := eσ_1_b
    have ht14000_σ_1 : σ_1 14000 = (nI (fo (rg wl (nI 0) (nI 7)) 0)) := eσ_1_a
    have hcFR_σ_1 : ∀ a, ((a < 10000 ∨ 10464 ≤ a) ∧ a ≠ 14000) → σ_1 a = σ a := by intro a ha; exact Eq.trans (b := σ a) (eσ_1_b a (by first | omega | (simp only [vb] at *; omega))) (hcFR_σ a ha)
    have hvσ_1 : vw (vb 0) σ_1 = μ := by rw [vw_fr (σ := σ) (fun j _ _ => eσ_1_b _ (by first | omega | (simp only [vb] at *; omega)))]; first | exact hv | assumption
    refine g_ifB_eq h dX11_add_33 (fun c33 => ?_) (fun c33 => ?_)
    ·
      have hS0 : fo (rg wl (nI 0) (nI 7)) (if nN μ = 8 then 5 else 0) = 0 := by first | (have e8 : nN μ = 8 := (by omega); rw [if_pos e8]; exact nb0 c33) | (have e8 : ¬ nN μ = 8 := (by omega); rw [if_neg e8]; exact nb0 c33)
      obtain ⟨hs1, hs2⟩ := fo_0 hS0
      obtain ⟨ew, hw9⟩ := rg_N (by decide) hs1
      have h8n : nN μ < 8 := if8 hs2 hN8
      rw [ew]
      show G X w 3 38 [(0, .ref (w.1 0)), (1, .int (nI (toN wl))), (2, .int (nI 0))] [] σ_1
      refine g_aload_n h dX11_add_38 0 rfl ?_
      refine g_getr h dX11_add_39 gX11_23 sc_0 rfl ?_
      refine g_iload_n h dX11_add_42 1 rfl ?_
      refine g_cvv (rest := []) h (c_addNode hW (toN wl) 0 μ (by first | omega | decide | fail) (by first | exact hvσ_1 | assumption | fail) (by assumption) (by omega)) lX5_addNode mX11_373 (Nat.lt_of_lt_of_le (by decide) (Nat.le_refl _)) (by decide) (sM_0 (m := 0) (by decide)) rfl rfl rfl rfl dX11_add_43 (fun σ_2 eσ_2 => ?_)
      obtain ⟨eσ_2_a, eσ_2_b⟩ := eσ_2
      have eσ_2_a : vw (vb 0) σ_2 = upd (upd (upd μ (16 + nN μ) (nI (toN wl))) 1 (μ 1 ||| bt1 (nN μ))) 0 (nI (nN μ + 1)) := eσ_2_a
      have eσ_2_b : ∀ a, (a < vb 0 ∨ vb 0 + 464 ≤ a) → σ_2 a = σ_1 a := eσ_2_b
      have ht14000_σ_2 : σ_2 14000 = (nI (fo (rg wl (nI 0) (nI 7)) 0)) := by rw [eσ_2_b _ (by first | omega | (simp only [vb] at *; omega))]; first | exact ht14000_σ_1 | assumption
      have hcFR_σ_2 : ∀ a, ((a < 10000 ∨ 10464 ≤ a) ∧ a ≠ 14000) → σ_2 a = σ a := by intro a ha; exact Eq.trans (b := σ_1 a) (eσ_2_b a (by first | omega | (simp only [vb] at *; omega))) (hcFR_σ_1 a ha)
      obtain ⟨μk, eμk⟩ : ∃ μk : Nat → Int32, μk = upd (upd (upd μ (16 + nN μ) (nI (toN wl))) 1 (μ 1 ||| bt1 (nN μ))) 0 (nI (nN μ + 1)) := ⟨_, rfl⟩
      have hvσ_2 : vw (vb 0) σ_2 = μk := by rw [eμk]; exact eσ_2_a
      refine g_aload_n h dX11_add_46 0 rfl ?_
      refine g_getr h dX11_add_47 gX11_23 sc_0 rfl ?_
      refine g_geti h dX11_add_50 gX11_120 (sM_0 (m := 0) (by decide)) rfl ?_
      refine g_top (y := μk 0) (vw_pic (b := (vb 0)) (k := 0) (by first | exact hvσ_2 | assumption) (by omega)) ?_
      refine g_top (y := (nI (nN μ + 1))) (by rw [eμk]; exact upd_eq) ?_
      refine g_iconst h dX11_add_53 (by decide) ?_
      refine g_isubN h dX11_add_54 (by omega) ?_
      exact g_iret h hQ dX11_add_55 (congrArg (fun z => some (Value.int z)) (show (an (fo (rg wl (nI 0) (nI 7)) (if nN μ = 8 then 5 else 0)) (nI (nN μ))) = (nI ((nN μ + 1) - 1)) by first | exact an_yes (by first | exact hS0 | fail) (by rfl) | exact an_no (k := (fo (rg wl (nI 0) (nI 7)) 0)) (by first | rfl | (simp [c9, c33]; done) | (unfold fo; simp [c9, c33]; done) | (rw [if_pos (by omega)]; done) | (rw [if_neg (by omega)]; done) | fail) (by first | decide | omega | assumption | exact nb1 (by assumption)) | fail)) (by exact ⟨(by first | exact pk_yes (by first | exact hS0 | fail) (by rw [hvσ_2, eμk]) | exact pk_no (k := (fo (rg wl (nI 0) (nI 7)) 0)) (by first | rfl | (simp [c9, c33]; done) | (unfold fo; simp [c9, c33]; done) | (rw [if_pos (by omega)]; done) | (rw [if_neg (by omega)]; done) | fail) (by first | decide | omega | assumption | exact nb1 (by assumption)) hvσ_2 | fail), (by first | exact tk_eq (k := (fo (rg wl (nI 0) (nI 7)) 0)) (by first | rfl | (simp [c9, c33]; done) | (unfold fo; simp [c9, c33]; done) | (rw [if_pos (by omega)]; done) | (rw [if_neg (by omega)]; done) | fail) ht14000_σ_2 | exact tk_eq (k := (fo (rg wl (nI 0) (nI 7)) 0)) (by first | exact hS0 | fail) ht14000_σ_2 | fail), (by exact hcFR_σ_2)⟩)
    ·
      refine g_iconstv h dX11_add_36 (v := (-1)) (by decide) ?_
      exact g_iret h hQ dX11_add_37 (congrArg (fun z => some (Value.int z)) (show (an (fo (rg wl (nI 0) (nI 7)) (if nN μ = 8 then 5 else 0)) (nI (nN μ))) = (-1) by first | exact an_yes (by first | exact hS0 | fail) (by rfl) | exact an_no (k := (fo (rg wl (nI 0) (nI 7)) 0)) (by first | rfl | (simp [c9, c33]; done) | (unfold fo; simp [c9, c33]; done) | (rw [if_pos (by omega)]; done) | (rw [if_neg (by omega)]; done) | fail) (by first | decide | omega | assumption | exact nb1 (by assumption)) | fail)) (by exact ⟨(by first | exact pk_yes (by first | exact hS0 | fail) (by rw [hvσ_1, Nat.add_zero]) | exact pk_no (k := (fo (rg wl (nI 0) (nI 7)) 0)) (by first | rfl | (simp [c9, c33]; done) | (unfold fo; simp [c9, c33]; done) | (rw [if_pos (by omega)]; done) | (rw [if_neg (by omega)]; done) | fail) (by first | decide | omega | assumption | exact nb1 (by assumption)) hvσ_1 | fail), (by first | exact tk_eq (k := (fo (rg wl (nI 0) (nI 7)) 0)) (by first | rfl | (simp [c9, c33]; done) | (unfold fo; simp [c9, c33]; done) | (rw [if_pos (by omega)]; done) | (rw [if_neg (by omega)]; done) | fail) ht14000_σ_1 | exact tk_eq (k := (fo (rg wl (nI 0) (nI 7)) 0)) (by first | exact hS0 | fail) ht14000_σ_1 | fail), (by exact hcFR_σ_1)⟩)
  ·
    refine g_iconst h dX11_add_12 (by decide) ?_
    refine g_goto h dX11_add_13 ?_
    refine g_istore_n (L' := [(0, .ref (w.1 0)), (1, .int wl), (2, .int (nI 5))]) h dX11_add_17 rfl (by decide) rfl ?_
    refine g_aload_n h dX11_add_18 0 rfl ?_
    refine g_iload_n h dX11_add_19 1 rfl ?_
    refine g_iconst h dX11_add_20 (by decide) ?_
    refine g_bipush h dX11_add_21 (by decide) ?_
    refine g_cspi (rest := [.ref (w.1 0)]) h (c_rg hW wl (nI 0) (nI 7) ) lX11_rangeStatus mX11_102 (Nat.lt_of_lt_of_le (by decide) (Nat.le_refl _)) (by decide) rfl rfl rfl dX11_add_23 ?_
    refine g_iload_n h dX11_add_26 2 rfl ?_
    refine g_cspi (rest := [.ref (w.1 0)]) h (c_fo hW (rg wl (nI 0) (nI 7)) 5 (by repeat (first | omega | exact rg_lt | exact ns_lt | exact ps_lt | exact gst_lt | exact ofS_lt | exact if_lt (by decide) (by decide) | apply fo_lt)) (by repeat (first | omega | exact rg_lt | exact ns_lt | exact ps_lt | exact gst_lt | exact ofS_lt | exact if_lt (by decide) (by decide) | apply fo_lt))) lX11_firstOf mX11_163 (Nat.lt_of_lt_of_le (by decide) (Nat.le_refl _)) (by decide) rfl rfl rfl dX11_add_27 ?_
    refine g_cvi (rest := []) h (c_fails hW (fo (rg wl (nI 0) (nI 7)) 5) (by repeat (first | omega | exact rg_lt | exact ns_lt | exact ps_lt | exact gst_lt | exact ofS_lt | exact if_lt (by decide) (by decide) | apply fo_lt))) lX11_fails mX11_106 (Nat.lt_of_lt_of_le (by decide) (Nat.le_refl _)) (by decide) sc_0 rfl rfl rfl rfl dX11_add_30 (fun σ_3 eσ_3 => ?_)
    obtain ⟨eσ_3_a, eσ_3_b⟩ := eσ_3
    have eσ_3_a : σ_3 14000 = (nI (fo (rg wl (nI 0) (nI 7)) 5)) := eσ_3_a
    have eσ_3_b : ∀ a, (a ≠ 14000) → σ_3 a = σ a := eσ_3_b
    have ht14000_σ_3 : σ_3 14000 = (nI (fo (rg wl (nI 0) (nI 7)) 5)) := eσ_3_a
    have hcFR_σ_3 : ∀ a, ((a < 10000 ∨ 10464 ≤ a) ∧ a ≠ 14000) → σ_3 a = σ a := by intro a ha; exact Eq.trans (b := σ a) (eσ_3_b a (by first | omega | (simp only [vb] at *; omega))) (hcFR_σ a ha)
    have hvσ_3 : vw (vb 0) σ_3 = μ := by rw [vw_fr (σ := σ) (fun j _ _ => eσ_3_b _ (by first | omega | (simp only [vb] at *; omega)))]; first | exact hv | assumption
    refine g_ifB_eq h dX11_add_33 (fun c33 => ?_) (fun c33 => ?_)
    ·
      have hS0 : fo (rg wl (nI 0) (nI 7)) (if nN μ = 8 then 5 else 0) = 0 := by first | (have e8 : nN μ = 8 := (by omega); rw [if_pos e8]; exact nb0 c33) | (have e8 : ¬ nN μ = 8 := (by omega); rw [if_neg e8]; exact nb0 c33)
      obtain ⟨hs1, hs2⟩ := fo_0 hS0
      obtain ⟨ew, hw9⟩ := rg_N (by decide) hs1
      have h8n : nN μ < 8 := if8 hs2 hN8
      rw [ew]
      show G X w 3 38 [(0, .ref (w.1 0)), (1, .int (nI (toN wl))), (2, .int (nI 5))] [] σ_3
      refine g_aload_n h dX11_add_38 0 rfl ?_
      refine g_getr h dX11_add_39 gX11_23 sc_0 rfl ?_
      refine g_iload_n h dX11_add_42 1 rfl ?_
      refine g_cvv (rest := []) h (c_addNode hW (toN wl) 0 μ (by first | omega | decide | fail) (by first | exact hvσ_3 | assumption | fail) (by assumption) (by omega)) lX5_addNode mX11_373 (Nat.lt_of_lt_of_le (by decide) (Nat.le_refl _)) (by decide) (sM_0 (m := 0) (by decide)) rfl rfl rfl rfl dX11_add_43 (fun σ_4 eσ_4 => ?_)
      obtain ⟨eσ_4_a, eσ_4_b⟩ := eσ_4
      have eσ_4_a : vw (vb 0) σ_4 = upd (upd (upd μ (16 + nN μ) (nI (toN wl))) 1 (μ 1 ||| bt1 (nN μ))) 0 (nI (nN μ + 1)) := eσ_4_a
      have eσ_4_b : ∀ a, (a < vb 0 ∨ vb 0 + 464 ≤ a) → σ_4 a = σ_3 a := eσ_4_b
      have ht14000_σ_4 : σ_4 14000 = (nI (fo (rg wl (nI 0) (nI 7)) 5)) := by rw [eσ_4_b _ (by first | omega | (simp only [vb] at *; omega))]; first | exact ht14000_σ_3 | assumption
      have hcFR_σ_4 : ∀ a, ((a < 10000 ∨ 10464 ≤ a) ∧ a ≠ 14000) → σ_4 a = σ a := by intro a ha; exact Eq.trans (b := σ_3 a) (eσ_4_b a (by first | omega | (simp only [vb] at *; omega))) (hcFR_σ_3 a ha)
      obtain ⟨μk, eμk⟩ : ∃ μk : Nat → Int32, μk = upd (upd (upd μ (16 + nN μ) (nI (toN wl))) 1 (μ 1 ||| bt1 (nN μ))) 0 (nI (nN μ + 1)) := ⟨_, rfl⟩
      have hvσ_4 : vw (vb 0) σ_4 = μk := by rw [eμk]; exact eσ_4_a
      refine g_aload_n h dX11_add_46 0 rfl ?_
      refine g_getr h dX11_add_47 gX11_23 sc_0 rfl ?_
      refine g_geti h dX11_add_50 gX11_120 (sM_0 (m := 0) (by decide)) rfl ?_
      refine g_top (y := μk 0) (vw_pic (b := (vb 0)) (k := 0) (by first | exact hvσ_4 | assumption) (by omega)) ?_
      refine g_top (y := (nI (nN μ + 1))) (by rw [eμk]; exact upd_eq) ?_
      refine g_iconst h dX11_add_53 (by decide) ?_
      refine g_isubN h dX11_add_54 (by omega) ?_
      exact g_iret h hQ dX11_add_55 (congrArg (fun z => some (Value.int z)) (show (an (fo (rg wl (nI 0) (nI 7)) (if nN μ = 8 then 5 else 0)) (nI (nN μ))) = (nI ((nN μ + 1) - 1)) by first | exact an_yes (by first | exact hS0 | fail) (by rfl) | exact an_no (k := (fo (rg wl (nI 0) (nI 7)) 5)) (by first | rfl | (simp [c9, c33]; done) | (unfold fo; simp [c9, c33]; done) | (rw [if_pos (by omega)]; done) | (rw [if_neg (by omega)]; done) | fail) (by first | decide | omega | assumption | exact nb1 (by assumption)) | fail)) (by exact ⟨(by first | exact pk_yes (by first | exact hS0 | fail) (by rw [hvσ_4, eμk]) | exact pk_no (k := (fo (rg wl (nI 0) (nI 7)) 5)) (by first | rfl | (simp [c9, c33]; done) | (unfold fo; simp [c9, c33]; done) | (rw [if_pos (by omega)]; done) | (rw [if_neg (by omega)]; done) | fail) (by first | decide | omega | assumption | exact nb1 (by assumption)) hvσ_4 | fail), (by first | exact tk_eq (k := (fo (rg wl (nI 0) (nI 7)) 5)) (by first | rfl | (simp [c9, c33]; done) | (unfold fo; simp [c9, c33]; done) | (rw [if_pos (by omega)]; done) | (rw [if_neg (by omega)]; done) | fail) ht14000_σ_4 | exact tk_eq (k := (fo (rg wl (nI 0) (nI 7)) 5)) (by first | exact hS0 | fail) ht14000_σ_4 | fail), (by exact hcFR_σ_4)⟩)
    ·
      refine g_iconstv h dX11_add_36 (v := (-1)) (by decide) ?_
      exact g_iret h hQ dX11_add_37 (congrArg (fun z => some (Value.int z)) (show (an (fo (rg wl (nI 0) (nI 7)) (if nN μ = 8 then 5 else 0)) (nI (nN μ))) = (-1) by first | exact an_yes (by first | exact hS0 | fail) (by rfl) | exact an_no (k := (fo (rg wl (nI 0) (nI 7)) 5)) (by first | rfl | (simp [c9, c33]; done) | (unfold fo; simp [c9, c33]; done) | (rw [if_pos (by omega)]; done) | (rw [if_neg (by omega)]; done) | fail) (by first | decide | omega | assumption | exact nb1 (by assumption)) | fail)) (by exact ⟨(by first | exact pk_yes (by first | exact hS0 | fail) (by rw [hvσ_3, Nat.add_zero]) | exact pk_no (k := (fo (rg wl (nI 0) (nI 7)) 5)) (by first | rfl | (simp [c9, c33]; done) | (unfold fo; simp [c9, c33]; done) | (rw [if_pos (by omega)]; done) | (rw [if_neg (by omega)]; done) | fail) (by first | decide | omega | assumption | exact nb1 (by assumption)) hvσ_3 | fail), (by first | exact tk_eq (k := (fo (rg wl (nI 0) (nI 7)) 5)) (by first | rfl | (simp [c9, c33]; done) | (unfold fo; simp [c9, c33]; done) | (rw [if_pos (by omega)]; done) | (rw [if_neg (by omega)]; done) | fail) ht14000_σ_3 | exact tk_eq (k := (fo (rg wl (nI 0) (nI 7)) 5)) (by first | exact hS0 | fail) ht14000_σ_3 | fail), (by exact hcFR_σ_3)⟩)

theorem lc_y {b s n n1 : Nat} {g g1 : Nat → Nat → Int32} {σ : Mem} (h : s = 0) (hL : LC b σ n1 g1) : LC b σ (if s = 0 then n1 else n) (if s = 0 then g1 else g) := by
  rw [if_pos h, if_pos h]
  exact hL
theorem lc_n {b s k n n1 : Nat} {g g1 : Nat → Nat → Int32} {σ : Mem} (h : s = k) (hk : k ≠ 0) (hL : LC b σ n g) : LC b σ (if s = 0 then n1 else n) (if s = 0 then g1 else g) := by
  rw [if_neg (by omega), if_neg (by omega)]
  exact hL

set_option maxRecDepth 100000 in
set_option maxHeartbeats 8000000 in
theorem p_tick {l : Launch} {w : Wd} (hW : Wi w) {σ : Mem} (n : Int32) (nt : Nat) (g : Nat → Nat → Int32) (μ : Nat → Int32) (hv : vw (vb 0) σ = μ) (hI : MI μ) (h7 : μ 7 = nI nt) (hnt : nt + 2000 < 2 ^ 30) (hcLC_σ : LC (vb 0) σ nt g) : MC l w qX11_tick 6 [.ref (w.1 0), .int n] σ (some (.int (an (rg n (nI 1) (nI 200)) ((tkL 0 (μ, 0, nI 0, g) (toN n)).1 2)))) (fun σ' => (vw (vb 0) σ' = pk0 (rg n (nI 1) (nI 200)) ((tkL 0 (μ, 0, nI 0, g) (toN n)).1) μ) ∧ (σ' 14000 = (nI (rg n (nI 1) (nI 200)))) ∧ (LC (vb 0) σ' (if rg n (nI 1) (nI 200) = 0 then nA (tkL 0 (μ, 0, nI 0, g) (toN n)).1 7 else nt) (if rg n (nI 1) (nI 200) = 0 then (tkL 0 (μ, 0, nI 0, g) (toN n)).2.2.2 else g)) ∧ (∀ a, ((a < 10000 ∨ 10528 ≤ a) ∧ a < 14900 ∧ a ≠ 14000) → σ' a = σ a)) := by
  refine MC.of hW (by decide +kernel) (Nat.le_of_ble_eq_true rfl) (fun X h hQ hnm => ?_)
  have h : Fx X w cX11_tick 3 RX11 6 := h
  have hQ : Qx X w (some .int) (some (.int (an (rg n (nI 1) (nI 200)) ((tkL 0 (μ, 0, nI 0, g) (toN n)).1 2)))) (fun σ' => (vw (vb 0) σ' = pk0 (rg n (nI 1) (nI 200)) ((tkL 0 (μ, 0, nI 0, g) (toN n)).1) μ) ∧ (σ' 14000 = (nI (rg n (nI 1) (nI 200)))) ∧ (LC (vb 0) σ' (if rg n (nI 1) (nI 200) = 0 then nA (tkL 0 (μ, 0, nI 0, g) (toN n)).1 7 else nt) (if rg n (nI 1) (nI 200) = 0 then (tkL 0 (μ, 0, nI 0, g) (toN n)).2.2.2 else g)) ∧ (∀ a, ((a < 10000 ∨ 10528 ≤ a) ∧ a < 14900 ∧ a ≠ 14000) → σ' a = σ a)) := hQ
  have hN8 := mi_8 hI
  have hvb0 : vb 0 = 10000 := rfl
  have hcFR_σ : ∀ a, ((a < 10000 ∨ 10528 ≤ a) ∧ a < 14900 ∧ a ≠ 14000) → σ a = σ a := fun _ _ => rfl
  show G X w 3 0 [(0, .ref (w.1 0)), (1, .int n)] [] σ
  refine g_aload_n h dX11_tick_0 0 rfl ?_
  refine g_iload_n h dX11_tick_1 1 rfl ?_
  refine g_iconst h dX11_tick_2 (by decide) ?_
  refine g_sipush h dX11_tick_3 (by decide) ?_
  refine g_cspi (rest := [.ref (w.1 0)]) h (c_rg hW n (nI 1) (nI 200) ) lX11_rangeStatus mX11_102 (Nat.lt_of_lt_of_le (by decide) (Nat.le_refl _)) (by decide) rfl rfl rfl dX11_tick_6 ?_
  refine g_cvi (rest := []) h (c_fails hW (rg n (nI 1) (nI 200)) (by repeat (first | omega | exact rg_lt | exact ns_lt | exact ps_lt | exact gst_lt | exact ofS_lt | exact if_lt (by decide) (by decide) | apply fo_lt))) lX11_fails mX11_106 (Nat.lt_of_lt_of_le (by decide) (Nat.le_refl _)) (by decide) sc_0 rfl rfl rfl rfl dX11_tick_9 (fun σ_1 eσ_1 => ?_)
  obtain ⟨eσ_1_a, eσ_1_b⟩ := eσ_1
  have eσ_1_a : σ_1 14000 = (nI (rg n (nI 1) (nI 200))) := eσ_1_a
  have eσ_1_b : ∀ a, (a ≠ 14000) → σ_1 a = σ a := eσ_1_b
  have ht14000_σ_1 : σ_1 14000 = (nI (rg n (nI 1) (nI 200))) := eσ_1_a
  have hcLC_σ_1 : LC (vb 0) σ_1 nt g := by exact LC.fr hcLC_σ (fun a ha hb => eσ_1_b a (by first | omega | (simp only [vb] at *; omega)))
  have hcFR_σ_1 : ∀ a, ((a < 10000 ∨ 10528 ≤ a) ∧ a < 14900 ∧ a ≠ 14000) → σ_1 a = σ a := by intro a ha; exact Eq.trans (b := σ a) (eσ_1_b a (by first | omega | (simp only [vb] at *; omega))) (hcFR_σ a ha)
  have hvσ_1 : vw (vb 0) σ_1 = μ := by rw [vw_fr (σ := σ) (fun j _ _ => eσ_1_b _ (by first | omega | (simp only [vb] at *; omega)))]; first | exact hv | assumption
  refine g_ifB_eq h dX11_tick_12 (fun c12 => ?_) (fun c12 => ?_)
  ·
    have hS0 := nb0 c12
    obtain ⟨en, hn9⟩ := rg_N1 (by decide) hS0
    rw [en]
    show G X w 3 17 [(0, .ref (w.1 0)), (1, .int (nI (toN n)))] [] σ_1
    refine g_aload_n h dX11_tick_17 0 rfl ?_
    refine g_getr h dX11_tick_18 gX11_79 sc_0 rfl ?_
    refine g_iconst h dX11_tick_21 (by decide) ?_
    refine g_iconst h dX11_tick_22 (by decide) ?_
    refine g_cvv (rest := []) h (c_begin hW 0 0 (by omega) (by omega)) lX4_begin mX11_349 (Nat.lt_of_lt_of_le (by decide) (Nat.le_refl _)) (by decide) sc_18 rfl rfl rfl rfl dX11_tick_23 (fun σ_2 eσ_2 => ?_)
    obtain ⟨eσ_2_a, eσ_2_b⟩ := eσ_2
    have eσ_2_a : CL σ_2 0 0 (nI 0) := eσ_2_a
    have eσ_2_b : ∀ a, (a < 14900 ∨ 14903 ≤ a) → σ_2 a = σ_1 a := eσ_2_b
    have ht14000_σ_2 : σ_2 14000 = (nI (rg n (nI 1) (nI 200))) := by rw [eσ_2_b _ (by first | omega | (simp only [vb] at *; omega))]; first | exact ht14000_σ_1 | assumption
    have hcLC_σ_2 : LC (vb 0) σ_2 nt g := by exact LC.fr hcLC_σ_1 (fun a ha hb => eσ_2_b a (by first | omega | (simp only [vb] at *; omega)))
    have hcFR_σ_2 : ∀ a, ((a < 10000 ∨ 10528 ≤ a) ∧ a < 14900 ∧ a ≠ 14000) → σ_2 a = σ a := by intro a ha; exact Eq.trans (b := σ_1 a) (eσ_2_b a (by first | omega | (simp only [vb] at *; omega))) (hcFR_σ_1 a ha)
    have hcCL_σ_2 : CL σ_2 0 0 (nI 0) := eσ_2_a
    have hvσ_2 : vw (vb 0) σ_2 = μ := by rw [vw_fr (σ := σ_1) (fun j _ _ => eσ_2_b _ (by first | omega | (simp only [vb] at *; omega)))]; first | exact hvσ_1 | assumption
    refine g_iconst h dX11_tick_26 (by decide) ?_
    refine g_istore_n (L' := [(0, .ref (w.1 0)), (1, .int (nI (toN n))), (2, .int (nI 0))]) h dX11_tick_27 rfl (by decide) rfl ?_
    have lp28 : ∀ (k9 : Nat) (k : Nat) (μ1 : Nat → Int32) (d1 : Nat) (lo1 : Int32) (n1 : Nat) (g1 : Nat → Nat → Int32) (τ : Mem), (tkL 0 (μ, 0, nI 0, g) k = (μ1, d1, lo1, g1)) → (k ≤ toN n) → (μ1 7 = nI n1) → (n1 ≤ nt + 8 * k) → (vw (vb 0) τ = μ1) → (τ 14000 = (nI (rg n (nI 1) (nI 200)))) → (LC (vb 0) τ n1 g1) → (∀ a, ((a < 10000 ∨ 10528 ≤ a) ∧ a < 14900 ∧ a ≠ 14000) → τ a = σ a) → (CL τ d1 0 lo1) → toN n - k < k9 → G X w 3 28 [(0, .ref (w.1 0)), (1, .int (nI (toN n))), (2, .int (nI k))] [] (τ) := by
      intro k9
      induction k9 with
      | zero => intro k μ1 d1 lo1 n1 g1 τ hT hk h71 hn1 hvτ ht14000_τ hcLC_τ hcFR_τ hcCL_τ hm9; exact absurd hm9 (Nat.not_lt_zero _)
      | succ k9 ih28 =>
        intro k μ1 d1 lo1 n1 g1 τ hT hk h71 hn1 hvτ ht14000_τ hcLC_τ hcFR_τ hcCL_τ hm28
        have hA := tkL_all (ls := 0) (s := (μ, 0, nI 0, g)) hI k
        rw [hT] at hA
        have hI1 : MI μ1 := hA.1
        refine g_iload_n h dX11_tick_28 2 rfl ?_
        refine g_iload_n h dX11_tick_29 1 rfl ?_
        refine g_icmpN_ge h dX11_tick_30 (by omega) (by omega) (fun c30 => ?_) (fun c30 => ?_)
        ·
          have hE : (tkL 0 (μ, 0, nI 0, g) (toN n)) = (μ1, d1, lo1, g1) := by rw [← hT, show k = toN n from by omega]
          refine g_aload_n h dX11_tick_54 0 rfl ?_
          refine g_getr h dX11_tick_55 gX11_23 sc_0 rfl ?_
          refine g_geti h dX11_tick_58 gX11_126 (sM_0 (m := 0) (by decide)) rfl ?_
          refine g_top (y := μ1 2) (vw_pic (b := (vb 0)) (k := 2) (by first | exact hvτ | assumption) (by omega)) ?_
          exact g_iret h hQ dX11_tick_61 (congrArg (fun z => some (Value.int z)) (show (an (rg n (nI 1) (nI 200)) ((tkL 0 (μ, 0, nI 0, g) (toN n)).1 2)) = (μ1 2) by first | exact an_yes (by exact hS0) (by rw [hE]) | exact an_no (k := (rg n (nI 1) (nI 200))) (by rfl) (by first | decide | omega | assumption | exact nb1 (by assumption)) | fail)) (by exact ⟨(by first | exact pk_yes (by exact hS0) (by rw [hE]; exact hvτ) | exact pk_no (k := (rg n (nI 1) (nI 200))) (by rfl) (by first | decide | omega | assumption | exact nb1 (by assumption)) hvτ | fail), (by first | exact tk_eq (k := (rg n (nI 1) (nI 200))) (by rfl) ht14000_τ | exact tk_eq (k := (rg n (nI 1) (nI 200))) (by exact hS0) ht14000_τ | fail), (by first | (refine lc_y (by exact hS0) ?_; rw [hE]; dsimp only; rw [nA_nI (by omega) h71]; exact hcLC_τ) | exact lc_n (k := (rg n (nI 1) (nI 200))) rfl (by first | decide | omega | assumption | exact nb1 (by assumption)) hcLC_τ | fail), (by exact hcFR_τ)⟩)
        ·
          refine g_aload_n h dX11_tick_33 0 rfl ?_
          refine g_getr h dX11_tick_34 gX11_88 sc_0 rfl ?_
          refine g_aload_n h dX11_tick_37 0 rfl ?_
          refine g_getr h dX11_tick_38 gX11_23 sc_0 rfl ?_
          refine g_aload_n h dX11_tick_41 0 rfl ?_
          refine g_getr h dX11_tick_42 gX11_79 sc_0 rfl ?_
          refine g_cvv (rest := []) h (c_step hW d1 0 n1 lo1 g1 0 μ1 (by first | omega | decide | fail) (by first | exact hvτ | assumption | fail) (by exact hI1) (by exact h71) (by omega) (by first | exact hcCL_τ | assumption | fail) (by first | exact hcLC_τ | assumption | fail)) lX9_step mX11_379 (Nat.lt_of_lt_of_le (by decide) (Nat.le_refl _)) (by decide) sc_19 rfl rfl rfl rfl dX11_tick_45 (fun σ_3 eσ_3 => ?_)
          obtain ⟨eσ_3_a, eσ_3_b, eσ_3_c, eσ_3_d⟩ := eσ_3
          have eσ_3_a : vw (vb 0) σ_3 = (tkF 0 (μ1, d1, lo1, g1)).1 := eσ_3_a
          have eσ_3_b : CL σ_3 (tkF 0 (μ1, d1, lo1, g1)).2.1 0 (tkF 0 (μ1, d1, lo1, g1)).2.2.1 := eσ_3_b
          have eσ_3_c : LC (vb 0) σ_3 (nA (tkF 0 (μ1, d1, lo1, g1)).1 7) (tkF 0 (μ1, d1, lo1, g1)).2.2.2 := eσ_3_c
          have eσ_3_d : ∀ a, ((a < vb 0 ∨ vb 0 + 528 ≤ a) ∧ a < 14900) → σ_3 a = (τ) a := eσ_3_d
          have ht14000_σ_3 : σ_3 14000 = (nI (rg n (nI 1) (nI 200))) := by rw [eσ_3_d _ (by first | omega | (simp only [vb] at *; omega))]; first | exact ht14000_τ | assumption
          have hcLC_σ_3 : LC (vb 0) σ_3 (nA (tkF 0 (μ1, d1, lo1, g1)).1 7) (tkF 0 (μ1, d1, lo1, g1)).2.2.2 := eσ_3_c
          have hcFR_σ_3 : ∀ a, ((a < 10000 ∨ 10528 ≤ a) ∧ a < 14900 ∧ a ≠ 14000) → σ_3 a = σ a := by intro a ha; exact Eq.trans (b := (τ) a) (eσ_3_d a (by first | omega | (simp only [vb] at *; omega))) (hcFR_τ a ha)
          have hcCL_σ_3 : CL σ_3 (tkF 0 (μ1, d1, lo1, g1)).2.1 0 (tkF 0 (μ1, d1, lo1, g1)).2.2.1 := eσ_3_b
          obtain ⟨μ_4, eμ_4⟩ : ∃ μ_4 : Nat → Int32, μ_4 = (tkF 0 (μ1, d1, lo1, g1)).1 := ⟨_, rfl⟩
          have hvσ_3 : vw (vb 0) σ_3 = μ_4 := by rw [eμ_4]; exact eσ_3_a
          obtain ⟨n7, hn7, e7⟩ := tkF_7 (ls := 0) (s := (μ1, d1, lo1, g1)) hI1 h71
          have e7n : n7 = nA (tkF 0 (μ1, d1, lo1, g1)).1 7 := (nA_nI (by omega) e7).symm
          have h7n : (tkF 0 (μ1, d1, lo1, g1)).1 7 = nI (nA (tkF 0 (μ1, d1, lo1, g1)).1 7) := by rw [← e7n]; exact e7
          refine g_iincN (b := 1) (L' := [(0, .ref (w.1 0)), (1, .int (nI (toN n))), (2, .int (nI (k + 1)))]) h dX11_tick_48 2 rfl rfl (by decide) (by decide) rfl ?_
          refine g_goto h dX11_tick_51 ?_
          exact ih28 (k + 1) μ_4 ((tkF 0 (μ1, d1, lo1, g1)).2.1) ((tkF 0 (μ1, d1, lo1, g1)).2.2.1) (nA (tkF 0 (μ1, d1, lo1, g1)).1 7) ((tkF 0 (μ1, d1, lo1, g1)).2.2.2) σ_3 (by rw [tkL, hT, eμ_4]) (by omega) (by rw [eμ_4]; exact h7n) (by rw [← e7n]; omega) (by first | exact hvσ_3 | assumption | fail | fail) (by first | exact ht14000_σ_3 | assumption | fail | fail) (by first | exact hcLC_σ_3 | assumption | fail | fail) (by first | exact hcFR_σ_3 | assumption | fail | fail) (by first | exact hcCL_σ_3 | assumption | fail | fail) (by omega)
    exact lp28 (_) 0 μ 0 (nI 0) nt g σ_2 (by rfl) (by omega) (by exact h7) (by omega) (by first | exact hvσ_2 | assumption | fail | fail) (by first | exact ht14000_σ_2 | assumption | fail | fail) (by first | exact hcLC_σ_2 | assumption | fail | fail) (by first | exact hcFR_σ_2 | assumption | fail | fail) (by first | exact hcCL_σ_2 | assumption | fail | fail) (Nat.lt_succ_self _)
  ·
    refine g_iconstv h dX11_tick_15 (v := (-1)) (by decide) ?_
    exact g_iret h hQ dX11_tick_16 (congrArg (fun z => some (Value.int z)) (show (an (rg n (nI 1) (nI 200)) ((tkL 0 (μ, 0, nI 0, g) (toN n)).1 2)) = (-1) by first | exact an_yes (by exact hS0) (by rw [hE]) | exact an_no (k := (rg n (nI 1) (nI 200))) (by rfl) (by first | decide | omega | assumption | exact nb1 (by assumption)) | fail)) (by exact ⟨(by first | exact pk_yes (by exact hS0) (by rw [hE]; exact hvσ_1) | exact pk_no (k := (rg n (nI 1) (nI 200))) (by rfl) (by first | decide | omega | assumption | exact nb1 (by assumption)) hvσ_1 | fail), (by first | exact tk_eq (k := (rg n (nI 1) (nI 200))) (by rfl) ht14000_σ_1 | exact tk_eq (k := (rg n (nI 1) (nI 200))) (by exact hS0) ht14000_σ_1 | fail), (by first | (refine lc_y (by exact hS0) ?_; rw [hE]; dsimp only; rw [nA_nI (by omega) h71]; exact hcLC_σ_1) | exact lc_n (k := (rg n (nI 1) (nI 200))) rfl (by first | decide | omega | assumption | exact nb1 (by assumption)) hcLC_σ_1 | fail), (by exact hcFR_σ_1)⟩)
/-! paths, notices, sets -/
def ng (z : Int32) : Nat := if z < 0 then 1 else 0
theorem ng_0 {z : Int32} (h : ¬ z < 0) : ng z = 0 := if_neg h
theorem ng_1 {z : Int32} (h : z < 0) : ng z = 1 := if_pos h
theorem ng_lt {z : Int32} : ng z < 100 := by
  unfold ng
  split <;> decide
theorem toN_lt (z : Int32) : toN z < 2 ^ 31 := by
  show z.toInt.toNat < 2 ^ 31
  have := Int32.toInt_lt z
  omega
theorem tb_nI {k q : Nat} (hq : q < 32) : tb (nI k) q = k.testBit q := by
  show (BitVec.ofNat 32 k).getLsbD q = k.testBit q
  rw [BitVec.getLsbD_ofNat]
  simp [hq]
theorem set_N {z : Int32} {n : Nat} (hn : n ≤ 8) (h0 : 0 ≤ z) : z >>> (nI n &&& 31) = 0 ↔ z ≤ bt1 n - nI 1 := by
  have e := i32_N h0
  have hl := toN_lt z
  have hp : 2 ^ n ≤ 256 := Nat.pow_le_pow_right (n := 2) (by decide) hn
  have hp1 : 1 ≤ 2 ^ n := Nat.one_le_two_pow
  have eb : bt1 n - nI 1 = nI (2 ^ n - 1) := by
    rw [bt1_pow hn]
    obtain ⟨m, hm⟩ : ∃ m, 2 ^ n = m + 1 := ⟨2 ^ n - 1, by omega⟩
    rw [hm]
    exact nI_suc1
  rw [eb]
  have hle : z ≤ nI (2 ^ n - 1) ↔ toN z ≤ 2 ^ n - 1 := by
    conv => lhs; rw [e]
    exact nI_leq hl (by omega)
  rw [hle]
  constructor
  · intro h
    have hlt : toN z < 2 ^ n := by
      apply Nat.lt_pow_two_of_testBit
      intro q hq
      by_cases c : q < 32
      · rw [← tb_nI c, ← e]
        have h2 : tb (z >>> (nI n &&& 31)) (q - n) = false := by rw [h, tb_0]
        rw [tb_shr n (by omega) z (by omega), if_pos (by omega), show n + (q - n) = q from by omega] at h2
        exact h2
      · exact Nat.testBit_lt_two_pow (Nat.lt_of_lt_of_le hl (Nat.pow_le_pow_right (by decide) (by omega)))
    omega
  · intro h
    have hno : ∀ q, n ≤ q → q < 32 → tb z q = false := fun q h1 h2 => by
      rw [e, tb_nI h2]
      exact Nat.testBit_lt_two_pow (Nat.lt_of_lt_of_le (show toN z < 2 ^ n by omega) (Nat.pow_le_pow_right (by decide) h1))
    apply s_ext
    intro q hq
    rw [tb_shr n (by omega) z hq, tb_0]
    split
    · exact hno (n + q) (by omega) (by omega)
    · exact hno 31 (by omega) (by omega)
set_option maxRecDepth 100000 in
set_option maxHeartbeats 4000000 in
theorem c_sB {l : Launch} {w : Wd} (hW : Wi w) {σ : Mem} (z : Int32) (μ : Nat → Int32) (hv : vw (vb 0) σ = μ) (hI : MI μ) : MC l w qX11_setStatus 1 [.ref (w.1 0), .int z] σ (some (.int (nI (sB μ z)))) (fun σ' => σ' = σ) := by
  refine MC.of hW (by decide +kernel) (Nat.le_of_ble_eq_true rfl) (fun X h hQ hnm => ?_)
  have h : Fx X w cX11_setStatus 2 RX11 1 := h
  have hQ : Qx X w (some .int) (some (.int (nI (sB μ z)))) (fun σ' => σ' = σ) := hQ
  have hN8 := mi_8 hI
  show G X w 2 0 [(0, .ref (w.1 0)), (1, .int z)] [] σ
  refine g_iload_n h dX11_setStatus_0 1 rfl ?_
  refine g_iconst h dX11_setStatus_1 (by decide) ?_
  refine g_iconst h dX11_setStatus_2 (by decide) ?_
  refine g_aload_n h dX11_setStatus_3 0 rfl ?_
  refine g_getr h dX11_setStatus_4 gX11_23 sc_0 rfl ?_
  refine g_geti h dX11_setStatus_7 gX11_120 (sM_0 (m := 0) (by decide)) rfl ?_
  refine g_top (y := μ 0) (vw_pic (b := (vb 0)) (k := 0) (by first | exact hv | assumption) (by omega)) ?_
  refine g_top (y := nI (nN μ)) (mi_0 (by assumption)) ?_
  refine g_ishl h dX11_setStatus_10  ?_
  refine g_top (y := bt1 (nN μ)) rfl ?_
  refine g_iconst h dX11_setStatus_11 (by decide) ?_
  refine g_isub h dX11_setStatus_12  ?_
  refine g_cspi (rest := []) h (c_rg hW z (nI 0) ((bt1 (nN μ)) - (nI 1)) ) lX11_rangeStatus mX11_102 (Nat.lt_of_lt_of_le (by decide) (Nat.le_refl _)) (by decide) rfl rfl rfl dX11_setStatus_13 ?_
  exact g_iret h hQ dX11_setStatus_16 (congrArg (fun z => some (Value.int z)) (show (nI (sB μ z)) = (nI (rg z (nI 0) ((bt1 (nN μ)) - (nI 1)))) by rfl)) rfl

set_option maxRecDepth 100000 in
set_option maxHeartbeats 4000000 in
theorem p_covers {l : Launch} {w : Wd} (hW : Wi w) {σ : Mem} (i : Int32) (z : Int32)  (μ : Nat → Int32) (hv : vw (vb 0) σ = μ) (hI : MI μ) : MC l w qX11_covers 3 [.ref (w.1 0), .int i, .int z] σ (some (.int (an (fo (sB μ z) (ns μ i)) (bhd μ (toN i) &&& kno μ (toN i) (z &&& μ (64 + toN i)))))) (fun σ' => (σ' 14000 = (nI (fo (sB μ z) (ns μ i)))) ∧ (∀ a, (a < 14900 ∧ a ≠ 14000) → σ' a = σ a)) := by
  refine MC.of hW (by decide +kernel) (Nat.le_of_ble_eq_true rfl) (fun X h hQ hnm => ?_)
  have h : Fx X w cX11_covers 4 RX11 3 := h
  have hQ : Qx X w (some .int) (some (.int (an (fo (sB μ z) (ns μ i)) (bhd μ (toN i) &&& kno μ (toN i) (z &&& μ (64 + toN i)))))) (fun σ' => (σ' 14000 = (nI (fo (sB μ z) (ns μ i)))) ∧ (∀ a, (a < 14900 ∧ a ≠ 14000) → σ' a = σ a)) := hQ
  have hN8 := mi_8 hI
  have hcFR_σ : ∀ a, (a < 14900 ∧ a ≠ 14000) → σ a = σ a := fun _ _ => rfl
  show G X w 4 0 [(0, .ref (w.1 0)), (1, .int i), (2, .int z)] [] σ
  refine g_aload_n h dX11_covers_0 0 rfl ?_
  refine g_aload_n h dX11_covers_1 0 rfl ?_
  refine g_iload_n h dX11_covers_2 2 rfl ?_
  refine g_cvpi (rest := [.ref (w.1 0)]) h (c_sB hW z μ (by first | exact hv | assumption | fail) (by assumption)) lX11_setStatus mX11_253 (Nat.lt_of_lt_of_le (by decide) (Nat.le_refl _)) (by decide) sc_0 rfl rfl rfl rfl dX11_covers_3 ?_
  refine g_aload_n h dX11_covers_6 0 rfl ?_
  refine g_iload_n h dX11_covers_7 1 rfl ?_
  refine g_cvpi (rest := [.int (nI (sB μ z)), .ref (w.1 0)]) h (c_ns hW i μ (by first | exact hv | assumption | fail)) lX11_nodeStatus mX11_159 (Nat.lt_of_lt_of_le (by decide) (Nat.le_refl _)) (by decide) sc_0 rfl rfl rfl rfl dX11_covers_8 ?_
  refine g_cspi (rest := [.ref (w.1 0)]) h (c_fo hW (sB μ z) (ns μ i) (by repeat (first | omega | exact rg_lt | exact ns_lt | exact ps_lt | exact gst_lt | exact ofS_lt | exact if_lt (by decide) (by decide) | apply fo_lt)) (by repeat (first | omega | exact rg_lt | exact ns_lt | exact ps_lt | exact gst_lt | exact ofS_lt | exact if_lt (by decide) (by decide) | apply fo_lt))) lX11_firstOf mX11_163 (Nat.lt_of_lt_of_le (by decide) (Nat.le_refl _)) (by decide) rfl rfl rfl dX11_covers_11 ?_
  refine g_cvi (rest := []) h (c_fails hW (fo (sB μ z) (ns μ i)) (by repeat (first | omega | exact rg_lt | exact ns_lt | exact ps_lt | exact gst_lt | exact ofS_lt | exact if_lt (by decide) (by decide) | apply fo_lt))) lX11_fails mX11_106 (Nat.lt_of_lt_of_le (by decide) (Nat.le_refl _)) (by decide) sc_0 rfl rfl rfl rfl dX11_covers_14 (fun σ_1 eσ_1 => ?_)
  obtain ⟨eσ_1_a, eσ_1_b⟩ := eσ_1
  have eσ_1_a : σ_1 14000 = (nI (fo (sB μ z) (ns μ i))) := eσ_1_a
  have eσ_1_b : ∀ a, (a ≠ 14000) → σ_1 a = σ a := eσ_1_b
  have ht14000_σ_1 : σ_1 14000 = (nI (fo (sB μ z) (ns μ i))) := eσ_1_a
  have hcFR_σ_1 : ∀ a, (a < 14900 ∧ a ≠ 14000) → σ_1 a = σ a := by intro a ha; exact Eq.trans (b := σ a) (eσ_1_b a (by first | omega | (simp only [vb] at *; omega))) (hcFR_σ a ha)
  have hvσ_1 : vw (vb 0) σ_1 = μ := by rw [vw_fr (σ := σ) (fun j _ _ => eσ_1_b _ (by first | omega | (simp only [vb] at *; omega)))]; first | exact hv | assumption
  refine g_ifB_eq h dX11_covers_17 (fun c17 => ?_) (fun c17 => ?_)
  ·
    have hS0 := nb0 c17
    obtain ⟨hs1, hs2⟩ := fo_0 hS0
    obtain ⟨ei, hi9⟩ := nB_N hI (ns_0 hs2)
    rw [ei]
    show G X w 4 22 [(0, .ref (w.1 0)), (1, .int (nI (toN i))), (2, .int z)] [] σ_1
    refine g_iload_n h dX11_covers_22 2 rfl ?_
    refine g_aload_n h dX11_covers_23 0 rfl ?_
    refine g_getr h dX11_covers_24 gX11_23 sc_0 rfl ?_
    refine g_getr h dX11_covers_27 gX11_181 (sM_0 (m := 0) (by decide)) rfl ?_
    refine g_getr h dX11_covers_30 gX11_190 (sM_4 (m := 0) (by decide)) rfl ?_
    refine g_iload_n h dX11_covers_33 1 rfl ?_
    refine g_iald h dX11_covers_34 (sM_8 (m := 0) (by decide)) (by omega) ?_
    refine g_top (y := μ (64 + (toN i))) (vw_pic (b := (vb 0)) (k := 64 + (toN i)) (by first | exact hvσ_1 | assumption) (by omega)) ?_
    refine g_iand h dX11_covers_35  ?_
    refine g_istore_n (L' := [(0, .ref (w.1 0)), (1, .int (nI (toN i))), (2, .int z), (3, .int (z &&& (μ (64 + (toN i)))))]) h dX11_covers_36 rfl (by decide) rfl ?_
    refine g_aload_n h dX11_covers_37 0 rfl ?_
    refine g_getr h dX11_covers_38 gX11_23 sc_0 rfl ?_
    refine g_iload_n h dX11_covers_41 1 rfl ?_
    refine g_cspi (rest := []) h (c_behind hW (toN i) 0 μ (by first | omega | decide | fail) (by first | exact hvσ_1 | assumption | fail) (by assumption) (by omega)) lX0_behind mX11_193 (Nat.lt_of_lt_of_le (by decide) (Nat.le_refl _)) (by decide) rfl rfl rfl dX11_covers_42 ?_
    refine g_aload_n h dX11_covers_45 0 rfl ?_
    refine g_getr h dX11_covers_46 gX11_23 sc_0 rfl ?_
    refine g_iload_n h dX11_covers_49 1 rfl ?_
    refine g_iload_n h dX11_covers_50 3 rfl ?_
    refine g_cspi (rest := [.int (bhd μ (toN i))]) h (c_knownOf hW (toN i) (z &&& (μ (64 + (toN i)))) 0 μ (by first | omega | decide | fail) (by first | exact hvσ_1 | assumption | fail) (by assumption) (by omega)) lX0_knownOf mX11_256 (Nat.lt_of_lt_of_le (by decide) (Nat.le_refl _)) (by decide) rfl rfl rfl dX11_covers_51 ?_
    refine g_iand h dX11_covers_54  ?_
    exact g_iret h hQ dX11_covers_55 (congrArg (fun z => some (Value.int z)) (show (an (fo (sB μ z) (ns μ i)) (bhd μ (toN i) &&& kno μ (toN i) (z &&& μ (64 + toN i)))) = ((bhd μ (toN i)) &&& (kno μ (toN i) (z &&& (μ (64 + (toN i)))))) by first | exact an_yes (by exact hS0) (by first | rfl | (simp [an, c17]; done) | (simp [an, c17]; rfl)) | exact an_no (k := (fo (sB μ z) (ns μ i))) (by first | rfl | (simp [fo, rg, ns, nB, ps, gst, ofS, offB, c17]; done) | (simp [fo, rg, ns, nB, ps, gst, ofS, offB, c17]; omega)) (by first | decide | omega | assumption | exact nb1 (by assumption)) | fail)) (by exact ⟨(by first | exact tk_eq (k := (fo (sB μ z) (ns μ i))) (by first | rfl | (simp [fo, rg, ns, nB, ps, gst, ofS, offB, c17]; done) | (simp [fo, rg, ns, nB, ps, gst, ofS, offB, c17]; omega)) ht14000_σ_1 | exact tk_eq (k := (fo (sB μ z) (ns μ i))) (by exact hS0) ht14000_σ_1 | fail), (by exact hcFR_σ_1)⟩)
  ·
    refine g_iconstv h dX11_covers_20 (v := (-1)) (by decide) ?_
    exact g_iret h hQ dX11_covers_21 (congrArg (fun z => some (Value.int z)) (show (an (fo (sB μ z) (ns μ i)) (bhd μ (toN i) &&& kno μ (toN i) (z &&& μ (64 + toN i)))) = (-1) by first | exact an_yes (by exact hS0) (by first | rfl | (simp [an, c17]; done) | (simp [an, c17]; rfl)) | exact an_no (k := (fo (sB μ z) (ns μ i))) (by first | rfl | (simp [fo, rg, ns, nB, ps, gst, ofS, offB, c17]; done) | (simp [fo, rg, ns, nB, ps, gst, ofS, offB, c17]; omega)) (by first | decide | omega | assumption | exact nb1 (by assumption)) | fail)) (by exact ⟨(by first | exact tk_eq (k := (fo (sB μ z) (ns μ i))) (by first | rfl | (simp [fo, rg, ns, nB, ps, gst, ofS, offB, c17]; done) | (simp [fo, rg, ns, nB, ps, gst, ofS, offB, c17]; omega)) ht14000_σ_1 | exact tk_eq (k := (fo (sB μ z) (ns μ i))) (by exact hS0) ht14000_σ_1 | fail), (by exact hcFR_σ_1)⟩)
