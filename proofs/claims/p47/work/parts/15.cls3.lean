set_option maxRecDepth 100000 in
set_option maxHeartbeats 4000000 in
theorem c_stand {l : Launch} {w : Wd} (hW : Wi w) {σ : Mem} (i mn : Nat) (sd : Int32) (rr : Nat → Nat) (hi : i < 8) (hmn : mn = pc sd) (ht15042_σ : σ 15042 = (nI mn)) (ht15043_σ : σ 15043 = sd) (hcRC_σ : RC σ mn rr) : MC l w qX1_stand 1 [.ref (w.1 16), .int (nI i)] σ none (fun σ' => (σ' 15042 = (nI (if (!tb sd i) = true then mn + 1 else mn))) ∧ (σ' 15043 = (if (!tb sd i) = true then sd ||| bt1 i else sd)) ∧ (RC σ' (if (!tb sd i) = true then mn + 1 else mn) (if (!tb sd i) = true then ru rr mn i else rr)) ∧ (∀ a, ((a < 15042 ∨ 15044 ≤ a) ∧ (a < 15140 ∨ 15148 ≤ a)) → σ' a = σ a)) := by
  refine MC.of hW (by decide +kernel) (Nat.le_of_ble_eq_true rfl) (fun X h hQ hnm => ?_)
  have h : Fx X w cX1_stand 2 RX1 1 := h
  have hQ : Qx X w none none (fun σ' => (σ' 15042 = (nI (if (!tb sd i) = true then mn + 1 else mn))) ∧ (σ' 15043 = (if (!tb sd i) = true then sd ||| bt1 i else sd)) ∧ (RC σ' (if (!tb sd i) = true then mn + 1 else mn) (if (!tb sd i) = true then ru rr mn i else rr)) ∧ (∀ a, ((a < 15042 ∨ 15044 ≤ a) ∧ (a < 15140 ∨ 15148 ≤ a)) → σ' a = σ a)) := hQ
  have hp9 := pc_le sd
  have hcFR_σ : ∀ a, ((a < 15042 ∨ 15044 ≤ a) ∧ (a < 15140 ∨ 15148 ≤ a)) → σ a = σ a := fun _ _ => rfl
  show G X w 2 0 [(0, .ref (w.1 16)), (1, .int (nI i))] [] σ
  refine g_aload_n h dX1_stand_0 0 rfl ?_
  refine g_geti h dX1_stand_1 gX1_19 sc_16 rfl ?_
  refine g_top (y := sd) (by first | exact ht15043_σ | assumption) ?_
  refine g_iload_n h dX1_stand_4 1 rfl ?_
  refine g_cspi (rest := []) h (c_has hW sd i (by omega)) lX5_has mX1_46 (Nat.lt_of_lt_of_le (by decide) (Nat.le_refl _)) (by decide) rfl rfl rfl dX1_stand_5 ?_
  refine g_ifB_ne h dX1_stand_8 (fun c8 => ?_) (fun c8 => ?_)
  ·
    exact g_vret h hQ dX1_stand_53 rfl (by exact ⟨(by first | (rw [if_pos (by simp [c8])]; exact ht15042_σ) | (rw [if_neg (by simp [c8])]; exact ht15042_σ) | fail), (by first | (rw [if_pos (by simp [c8])]; exact ht15043_σ) | (rw [if_neg (by simp [c8])]; exact ht15043_σ) | fail), (by first | (rw [if_neg (by simp [c8]), if_neg (by simp [c8])]; exact hcRC_σ) | (rw [if_pos (by simp [c8]), if_pos (by simp [c8])]; exact ((hcRC_σ.fr (fun a _ _ => by rw [eσa, upd_ne (by omega)])).more eσb).fr (fun a _ _ => by rw [eσc, upd_ne (by omega)])) | fail), (by exact hcFR_σ)⟩)
  ·
    refine g_aload_n h dX1_stand_11 0 rfl ?_
    refine g_geti h dX1_stand_12 gX1_22 sc_16 rfl ?_
    refine g_top (y := (nI mn)) (by first | exact ht15042_σ | assumption) ?_
    refine g_bipush h dX1_stand_15 (by decide) ?_
    refine g_icmpN_ge h dX1_stand_17 (by omega) (by omega) (fun c17 => ?_) (fun c17 => ?_)
    ·
      exfalso; have h1 := pc_bt1 (s := sd) (k := i) hi (by assumption); have h2 := pc_le (sd ||| bt1 i); omega
    ·
      refine g_aload_n h dX1_stand_20 0 rfl ?_
      refine g_aload_n h dX1_stand_21 0 rfl ?_
      refine g_geti h dX1_stand_22 gX1_19 sc_16 rfl ?_
      refine g_top (y := sd) (by first | exact ht15043_σ | assumption) ?_
      refine g_iload_n h dX1_stand_25 1 rfl ?_
      refine g_iconst h dX1_stand_26 (by decide) ?_
      refine g_cspi (rest := [.ref (w.1 16)]) h (c_with hW sd i true ) lX5_with mX1_66 (Nat.lt_of_lt_of_le (by decide) (Nat.le_refl _)) (by decide) rfl rfl rfl dX1_stand_27 ?_
      refine g_top (y := (sd ||| bt1 i)) rfl ?_
      refine g_puti h dX1_stand_30 pX1_19 sc_16 rfl ?_
      refine g_nm (fun σa eσa => ?_)
      have eσa : σa = upd σ 15043 (sd ||| bt1 i) := eσa
      have ht15042_σa : σa 15042 = (nI mn) := by rw [eσa, upd_ne (by first | omega | (simp only [vb] at *; omega))]; first | exact ht15042_σ | assumption
      have ht15043_σa : σa 15043 = (sd ||| bt1 i) := by rw [eσa]; exact upd_eq
      have hcFR_σa : ∀ a, ((a < 15042 ∨ 15044 ≤ a) ∧ (a < 15140 ∨ 15148 ≤ a)) → σa a = σ a := by intro a ha; exact Eq.trans (b := σ a) (by rw [eσa, upd_ne (by first | omega | (simp only [vb] at *; omega))]) (hcFR_σ a ha)
      refine g_aload_n h dX1_stand_33 0 rfl ?_
      refine g_getr h dX1_stand_34 gX1_9 sc_16 rfl ?_
      refine g_aload_n h dX1_stand_37 0 rfl ?_
      refine g_geti h dX1_stand_38 gX1_22 sc_16 rfl ?_
      refine g_top (y := (nI mn)) (by first | exact ht15042_σa | assumption) ?_
      refine g_iload_n h dX1_stand_41 1 rfl ?_
      refine g_iast h dX1_stand_42 sc_17 (by omega) ?_
      refine g_nm (fun σb eσb => ?_)
      have eσb : σb = upd σa (15140 + mn) (nI i) := eσb
      have ht15042_σb : σb 15042 = (nI mn) := by rw [eσb, upd_ne (by first | omega | (simp only [vb] at *; omega))]; first | exact ht15042_σa | assumption
      have ht15043_σb : σb 15043 = (sd ||| bt1 i) := by rw [eσb, upd_ne (by first | omega | (simp only [vb] at *; omega))]; first | exact ht15043_σa | assumption
      have hcFR_σb : ∀ a, ((a < 15042 ∨ 15044 ≤ a) ∧ (a < 15140 ∨ 15148 ≤ a)) → σb a = σ a := by intro a ha; exact Eq.trans (b := σa a) (by rw [eσb, upd_ne (by first | omega | (simp only [vb] at *; omega))]) (hcFR_σa a ha)
      refine g_aload_n h dX1_stand_43 0 rfl ?_
      refine g_dup h dX1_stand_44 rfl ?_
      refine g_geti h dX1_stand_45 gX1_22 sc_16 rfl ?_
      refine g_top (y := (nI mn)) (by first | exact ht15042_σb | assumption) ?_
      refine g_iconst h dX1_stand_48 (by decide) ?_
      refine g_iaddN h dX1_stand_49  ?_
      refine g_puti h dX1_stand_50 pX1_22 sc_16 rfl ?_
      refine g_nm (fun σc eσc => ?_)
      have eσc : σc = upd σb 15042 (nI (mn + 1)) := eσc
      have ht15042_σc : σc 15042 = (nI (mn + 1)) := by rw [eσc]; exact upd_eq
      have ht15043_σc : σc 15043 = (sd ||| bt1 i) := by rw [eσc, upd_ne (by first | omega | (simp only [vb] at *; omega))]; first | exact ht15043_σb | assumption
      have hcFR_σc : ∀ a, ((a < 15042 ∨ 15044 ≤ a) ∧ (a < 15140 ∨ 15148 ≤ a)) → σc a = σ a := by intro a ha; exact Eq.trans (b := σb a) (by rw [eσc, upd_ne (by first | omega | (simp only [vb] at *; omega))]) (hcFR_σb a ha)
      exact g_vret h hQ dX1_stand_53 rfl (by exact ⟨(by first | (rw [if_pos (by simp [c8, c17])]; exact ht15042_σc) | (rw [if_neg (by simp [c8, c17])]; exact ht15042_σc) | fail), (by first | (rw [if_pos (by simp [c8, c17])]; exact ht15043_σc) | (rw [if_neg (by simp [c8, c17])]; exact ht15043_σc) | fail), (by first | (rw [if_neg (by simp [c8, c17]), if_neg (by simp [c8, c17])]; exact hcRC_σ) | (rw [if_pos (by simp [c8, c17]), if_pos (by simp [c8, c17])]; exact ((hcRC_σ.fr (fun a _ _ => by rw [eσa, upd_ne (by omega)])).more eσb).fr (fun a _ _ => by rw [eσc, upd_ne (by omega)])) | fail), (by exact hcFR_σc)⟩)

set_option maxRecDepth 100000 in
set_option maxHeartbeats 4000000 in
theorem c_hand {l : Launch} {w : Wd} (hW : Wi w) {σ : Mem} (i node kd : Nat) (g : Int32) (m : Nat) (μ : Nat → Int32) (hm : m < 6) (hv : vw (vb m) σ = μ) (hI : MI μ) (hi : i < 8) (hnd : node < 8) (hkd : kd ≤ 2) (ht15040_σ : σ 15040 = g) : MC l w qX1_hand 2 [.ref (w.1 16), .ref (w.1 (mc m 0)), .int (nI i), .int (nI node), .int (nI kd)] σ none (fun σ' => (vw (vb m) σ' = if (decide (kd = 0) && (!decide (i = node) && !tb g i)) = true then tkS μ (8 * i + node) (nA μ (32 + node)) (μ (40 + node)) else μ) ∧ (σ' 15040 = (if (!decide (i = node) && !tb g i) = true then g ||| bt1 i else g)) ∧ (∀ a, (a ≠ 15040 ∧ (a < vb m ∨ vb m + 464 ≤ a)) → σ' a = σ a)) := by
  refine MC.of hW (by decide +kernel) (Nat.le_of_ble_eq_true rfl) (fun X h hQ hnm => ?_)
  have h : Fx X w cX1_hand 6 RX1 2 := h
  have hQ : Qx X w none none (fun σ' => (vw (vb m) σ' = if (decide (kd = 0) && (!decide (i = node) && !tb g i)) = true then tkS μ (8 * i + node) (nA μ (32 + node)) (μ (40 + node)) else μ) ∧ (σ' 15040 = (if (!decide (i = node) && !tb g i) = true then g ||| bt1 i else g)) ∧ (∀ a, (a ≠ 15040 ∧ (a < vb m ∨ vb m + 464 ≤ a)) → σ' a = σ a)) := hQ
  have hcFR_σ : ∀ a, (a ≠ 15040 ∧ (a < vb m ∨ vb m + 464 ≤ a)) → σ a = σ a := fun _ _ => rfl
  show G X w 6 0 [(0, .ref (w.1 16)), (1, .ref (w.1 (mc m 0))), (2, .int (nI i)), (3, .int (nI node)), (4, .int (nI kd))] [] σ
  refine g_iload_n h dX1_hand_0 2 rfl ?_
  refine g_iload_n h dX1_hand_1 3 rfl ?_
  refine g_icmpN_eq h dX1_hand_2 (by omega) (by omega) (fun c2 => ?_) (fun c2 => ?_)
  ·
    exact g_vret h hQ dX1_hand_16 rfl (by exact ⟨(by rw [hv]; simp [c2, Nat.add_zero]), (by first | (rw [if_pos (by simp [c2])]; exact ht15040_σ) | (rw [if_neg (by simp [c2])]; exact ht15040_σ) | fail), (by exact hcFR_σ)⟩)
  ·
    refine g_aload_n h dX1_hand_5 0 rfl ?_
    refine g_geti h dX1_hand_6 gX1_15 sc_16 rfl ?_
    refine g_top (y := g) (by first | exact ht15040_σ | assumption) ?_
    refine g_iload_n h dX1_hand_9 2 rfl ?_
    refine g_cspi (rest := []) h (c_has hW g i (by omega)) lX5_has mX1_46 (Nat.lt_of_lt_of_le (by decide) (Nat.le_refl _)) (by decide) rfl rfl rfl dX1_hand_10 ?_
    refine g_ifB_eq h dX1_hand_13 (fun c13 => ?_) (fun c13 => ?_)
    ·
      refine g_aload_n h dX1_hand_17 0 rfl ?_
      refine g_aload_n h dX1_hand_18 0 rfl ?_
      refine g_geti h dX1_hand_19 gX1_15 sc_16 rfl ?_
      refine g_top (y := g) (by first | exact ht15040_σ | assumption) ?_
      refine g_iload_n h dX1_hand_22 2 rfl ?_
      refine g_iconst h dX1_hand_23 (by decide) ?_
      refine g_cspi (rest := [.ref (w.1 16)]) h (c_with hW g i true ) lX5_with mX1_66 (Nat.lt_of_lt_of_le (by decide) (Nat.le_refl _)) (by decide) rfl rfl rfl dX1_hand_24 ?_
      refine g_top (y := (g ||| bt1 i)) rfl ?_
      refine g_puti h dX1_hand_27 pX1_15 sc_16 rfl ?_
      refine g_nm (fun σ_1 eσ_1 => ?_)
      have eσ_1 : σ_1 = upd σ 15040 (g ||| bt1 i) := eσ_1
      have ht15040_σ_1 : σ_1 15040 = (g ||| bt1 i) := by rw [eσ_1]; exact upd_eq
      have hcFR_σ_1 : ∀ a, (a ≠ 15040 ∧ (a < vb m ∨ vb m + 464 ≤ a)) → σ_1 a = σ a := by intro a ha; exact Eq.trans (b := σ a) (by rw [eσ_1, upd_ne (by first | omega | (simp only [vb] at *; omega))]) (hcFR_σ a ha)
      have hvσ_1 : vw (vb m) σ_1 = μ := by rw [eσ_1, vw_out (by first | omega | (simp only [vb] at *; omega))]; first | exact hv | assumption
      refine g_iload h dX1_hand_30 4 rfl ?_
      refine g_ifN_ne h dX1_hand_32 (by omega) (fun c32 => ?_) (fun c32 => ?_)
      ·
        exact g_vret h hQ dX1_hand_70 rfl (by exact ⟨(by rw [hvσ_1]; simp [c2, c13, c32, Nat.add_zero]), (by first | (rw [if_pos (by simp [c2, c13, c32])]; exact ht15040_σ_1) | (rw [if_neg (by simp [c2, c13, c32])]; exact ht15040_σ_1) | fail), (by exact hcFR_σ_1)⟩)
      ·
        refine g_aload_n h dX1_hand_35 1 rfl ?_
        refine g_getr h dX1_hand_36 gX1_70 (sM_0 (m := m) (by omega)) rfl ?_
        refine g_astore (L' := [(0, .ref (w.1 16)), (1, .ref (w.1 (mc m 0))), (2, .int (nI i)), (3, .int (nI node)), (4, .int (nI kd)), (5, .ref (w.1 (mc m 11)))]) h dX1_hand_39 rfl (by decide) rfl ?_
        refine g_aload h dX1_hand_41 5 rfl ?_
        refine g_iload_n h dX1_hand_43 2 rfl ?_
        refine g_iload_n h dX1_hand_44 3 rfl ?_
        refine g_cspi (rest := [.ref (w.1 (mc m 11))]) h (c_at hW i node ) lX5_at mX1_74 (Nat.lt_of_lt_of_le (by decide) (Nat.le_refl _)) (by decide) rfl rfl rfl dX1_hand_45 ?_
        refine g_aload h dX1_hand_48 5 rfl ?_
        refine g_getr h dX1_hand_50 gX1_78 (sM_11 (m := m) (by omega)) rfl ?_
        refine g_iload_n h dX1_hand_53 3 rfl ?_
        refine g_iald h dX1_hand_54 (sM_15 (m := m) (by omega)) (by omega) ?_
        refine g_top (y := μ (32 + node)) (vw_pic (b := (vb m)) (k := 32 + node) (by first | exact hvσ_1 | assumption) (by omega)) ?_
        refine g_top (y := nI (nA μ (32 + node))) (mi_32 (by assumption) (by omega)) ?_
        have b9_54 : nA μ (32 + node) < 16 := mb_32 (by assumption) (by omega)
        refine g_aload h dX1_hand_55 5 rfl ?_
        refine g_getr h dX1_hand_57 gX1_83 (sM_11 (m := m) (by omega)) rfl ?_
        refine g_iload_n h dX1_hand_60 3 rfl ?_
        refine g_iald h dX1_hand_61 (sM_16 (m := m) (by omega)) (by omega) ?_
        refine g_top (y := μ (40 + node)) (vw_pic (b := (vb m)) (k := 40 + node) (by first | exact hvσ_1 | assumption) (by omega)) ?_
        refine g_aload_n h dX1_hand_62 1 rfl ?_
        refine g_geti h dX1_hand_63 gX1_86 (sM_0 (m := m) (by omega)) rfl ?_
        refine g_top (y := μ 4) (vw_pic (b := (vb m)) (k := 4) (by first | exact hvσ_1 | assumption) (by omega)) ?_
        refine g_top (y := nI (nA μ 4)) (mi_4 (by assumption)) ?_
        have b9_63 : nA μ 4 < 100 := mb_4 (by assumption)
        refine g_cvi (rest := []) h (c_takeIn hW (8 * i + node) (nA μ (32 + node)) (μ (40 + node)) m μ (by first | omega | decide | fail) (by first | exact hvσ_1 | assumption | fail) (by assumption) (by omega) (by omega)) lX6_takeIn mX1_89 (Nat.lt_of_lt_of_le (by decide) (Nat.le_refl _)) (by decide) (sM_11 (m := m) (by omega)) rfl rfl rfl rfl dX1_hand_66 (fun σ_2 eσ_2 => ?_)
        obtain ⟨eσ_2_a, eσ_2_b⟩ := eσ_2
        have eσ_2_a : vw (vb m) σ_2 = tkS μ (8 * i + node) (nA μ (32 + node)) (μ (40 + node)) := eσ_2_a
        have eσ_2_b : ∀ a, (a < vb m ∨ vb m + 464 ≤ a) → σ_2 a = σ_1 a := eσ_2_b
        have ht15040_σ_2 : σ_2 15040 = (g ||| bt1 i) := by rw [eσ_2_b _ (by first | omega | (simp only [vb] at *; omega))]; first | exact ht15040_σ_1 | assumption
        have hcFR_σ_2 : ∀ a, (a ≠ 15040 ∧ (a < vb m ∨ vb m + 464 ≤ a)) → σ_2 a = σ a := by intro a ha; exact Eq.trans (b := σ_1 a) (eσ_2_b a (by first | omega | (simp only [vb] at *; omega))) (hcFR_σ_1 a ha)
        obtain ⟨μ_3, eμ_3⟩ : ∃ μ_3 : Nat → Int32, μ_3 = tkS μ (8 * i + node) (nA μ (32 + node)) (μ (40 + node)) := ⟨_, rfl⟩
        have hvσ_2 : vw (vb m) σ_2 = μ_3 := by rw [eμ_3]; exact eσ_2_a
        refine g_pop h dX1_hand_69 rfl ?_
        exact g_vret h hQ dX1_hand_70 rfl (by exact ⟨(by rw [hvσ_2]; simp [c2, c13, c32, eμ_3]), (by first | (rw [if_pos (by simp [c2, c13, c32])]; exact ht15040_σ_2) | (rw [if_neg (by simp [c2, c13, c32])]; exact ht15040_σ_2) | fail), (by exact hcFR_σ_2)⟩)
    ·
      exact g_vret h hQ dX1_hand_16 rfl (by exact ⟨(by rw [hv]; simp [c2, c13, Nat.add_zero]), (by first | (rw [if_pos (by simp [c2, c13])]; exact ht15040_σ) | (rw [if_neg (by simp [c2, c13])]; exact ht15040_σ) | fail), (by exact hcFR_σ)⟩)

set_option maxRecDepth 100000 in
set_option maxHeartbeats 40000000 in
theorem c_send {l : Launch} {w : Wd} (hW : Wi w) {σ : Mem} (node kd : Nat) (d ls : Nat) (lo : Int32) (m : Nat) (μ : Nat → Int32) (hm : m < 6) (hv : vw (vb m) σ = μ) (hI : MI μ) (hn : node < nN μ) (hon : tb (μ 1) node = true) (hkd : kd ≤ 2) (hcCL_σ : CL σ d ls lo) : MC l w qX1_send 3 [.ref (w.1 16), .ref (w.1 (mc m 0)), .int (nI node), .int (nI kd), .ref (w.1 18)] σ none (fun σ' => (vw (vb m) σ' = (flS node (decide (kd = 2)) (decide (kd = 0)) ls μ d lo).2.2.2.2.1) ∧ (σ' 15040 = ((flS node (decide (kd = 2)) (decide (kd = 0)) ls μ d lo).2.2.2.1)) ∧ (σ' 15041 = (nI ((flS node (decide (kd = 2)) (decide (kd = 0)) ls μ d lo).2.1))) ∧ (CL σ' (flS node (decide (kd = 2)) (decide (kd = 0)) ls μ d lo).2.2.2.2.2.1 ls (flS node (decide (kd = 2)) (decide (kd = 0)) ls μ d lo).2.2.2.2.2.2) ∧ (∀ a, ((a < vb m ∨ vb m + 464 ≤ a) ∧ (a < 14900 ∨ 14903 ≤ a) ∧ (a < 15040 ∨ 15044 ≤ a) ∧ (a < 15140 ∨ 15148 ≤ a)) → σ' a = σ a)) := by
  refine MC.of hW (by decide +kernel) (Nat.le_of_ble_eq_true rfl) (fun X h hQ hnm => ?_)
  have h : Fx X w cX1_send 8 RX1 3 := h
  have hQ : Qx X w none none (fun σ' => (vw (vb m) σ' = (flS node (decide (kd = 2)) (decide (kd = 0)) ls μ d lo).2.2.2.2.1) ∧ (σ' 15040 = ((flS node (decide (kd = 2)) (decide (kd = 0)) ls μ d lo).2.2.2.1)) ∧ (σ' 15041 = (nI ((flS node (decide (kd = 2)) (decide (kd = 0)) ls μ d lo).2.1))) ∧ (CL σ' (flS node (decide (kd = 2)) (decide (kd = 0)) ls μ d lo).2.2.2.2.2.1 ls (flS node (decide (kd = 2)) (decide (kd = 0)) ls μ d lo).2.2.2.2.2.2) ∧ (∀ a, ((a < vb m ∨ vb m + 464 ≤ a) ∧ (a < 14900 ∨ 14903 ≤ a) ∧ (a < 15040 ∨ 15044 ≤ a) ∧ (a < 15140 ∨ 15148 ≤ a)) → σ' a = σ a)) := hQ
  have hN8 := mi_8 hI
  have hn8 : node < 8 := by omega
  have hcFR_σ : ∀ a, ((a < vb m ∨ vb m + 464 ≤ a) ∧ (a < 14900 ∨ 14903 ≤ a) ∧ (a < 15040 ∨ 15044 ≤ a) ∧ (a < 15140 ∨ 15148 ≤ a)) → σ a = σ a := fun _ _ => rfl
  have hcRC_σ : RC σ 0 (fun _ => node) := fun k hk => absurd hk (Nat.not_lt_zero _)
  show G X w 8 0 [(0, .ref (w.1 16)), (1, .ref (w.1 (mc m 0))), (2, .int (nI node)), (3, .int (nI kd)), (4, .ref (w.1 18))] [] σ
  refine g_aload_n h dX1_send_0 0 rfl ?_
  refine g_iconst h dX1_send_1 (by decide) ?_
  refine g_puti h dX1_send_2 pX1_15 sc_16 rfl ?_
  refine g_nm (fun σ_1 eσ_1 => ?_)
  have eσ_1 : σ_1 = upd σ 15040 (nI 0) := eσ_1
  have ht15040_σ_1 : σ_1 15040 = (nI 0) := by rw [eσ_1]; exact upd_eq
  have hcCL_σ_1 : CL σ_1 d ls lo := by rw [eσ_1]; exact CL.fr hcCL_σ (upd_ne (by first | omega | (simp only [vb] at *; omega))) (upd_ne (by first | omega | (simp only [vb] at *; omega))) (upd_ne (by first | omega | (simp only [vb] at *; omega)))
  have hcFR_σ_1 : ∀ a, ((a < vb m ∨ vb m + 464 ≤ a) ∧ (a < 14900 ∨ 14903 ≤ a) ∧ (a < 15040 ∨ 15044 ≤ a) ∧ (a < 15140 ∨ 15148 ≤ a)) → σ_1 a = σ a := by intro a ha; exact Eq.trans (b := σ a) (by rw [eσ_1, upd_ne (by first | omega | (simp only [vb] at *; omega))]) (hcFR_σ a ha)
  have hcRC_σ_1 : RC σ_1 0 (fun _ => node) := by rw [eσ_1]; exact RC.fr hcRC_σ (fun a ha hb => upd_ne (by first | omega | (simp only [vb] at *; omega)))
  have hvσ_1 : vw (vb m) σ_1 = μ := by rw [eσ_1, vw_out (by first | omega | (simp only [vb] at *; omega))]; first | exact hv | assumption
  refine g_aload_n h dX1_send_5 0 rfl ?_
  refine g_iconst h dX1_send_6 (by decide) ?_
  refine g_puti h dX1_send_7 pX1_19 sc_16 rfl ?_
  refine g_nm (fun σ_2 eσ_2 => ?_)
  have eσ_2 : σ_2 = upd σ_1 15043 (nI 0) := eσ_2
  have ht15040_σ_2 : σ_2 15040 = (nI 0) := by rw [eσ_2, upd_ne (by first | omega | (simp only [vb] at *; omega))]; first | exact ht15040_σ_1 | assumption
  have ht15043_σ_2 : σ_2 15043 = (nI 0) := by rw [eσ_2]; exact upd_eq
  have hcCL_σ_2 : CL σ_2 d ls lo := by rw [eσ_2]; exact CL.fr hcCL_σ_1 (upd_ne (by first | omega | (simp only [vb] at *; omega))) (upd_ne (by first | omega | (simp only [vb] at *; omega))) (upd_ne (by first | omega | (simp only [vb] at *; omega)))
  have hcFR_σ_2 : ∀ a, ((a < vb m ∨ vb m + 464 ≤ a) ∧ (a < 14900 ∨ 14903 ≤ a) ∧ (a < 15040 ∨ 15044 ≤ a) ∧ (a < 15140 ∨ 15148 ≤ a)) → σ_2 a = σ a := by intro a ha; exact Eq.trans (b := σ_1 a) (by rw [eσ_2, upd_ne (by first | omega | (simp only [vb] at *; omega))]) (hcFR_σ_1 a ha)
  have hcRC_σ_2 : RC σ_2 0 (fun _ => node) := by rw [eσ_2]; exact RC.fr hcRC_σ_1 (fun a ha hb => upd_ne (by first | omega | (simp only [vb] at *; omega)))
  have hvσ_2 : vw (vb m) σ_2 = μ := by rw [eσ_2, vw_out (by first | omega | (simp only [vb] at *; omega))]; first | exact hvσ_1 | assumption
  refine g_aload_n h dX1_send_10 0 rfl ?_
  refine g_iconst h dX1_send_11 (by decide) ?_
  refine g_puti h dX1_send_12 pX1_22 sc_16 rfl ?_
  refine g_nm (fun σ_3 eσ_3 => ?_)
  have eσ_3 : σ_3 = upd σ_2 15042 (nI 0) := eσ_3
  have ht15040_σ_3 : σ_3 15040 = (nI 0) := by rw [eσ_3, upd_ne (by first | omega | (simp only [vb] at *; omega))]; first | exact ht15040_σ_2 | assumption
  have ht15043_σ_3 : σ_3 15043 = (nI 0) := by rw [eσ_3, upd_ne (by first | omega | (simp only [vb] at *; omega))]; first | exact ht15043_σ_2 | assumption
  have ht15042_σ_3 : σ_3 15042 = (nI 0) := by rw [eσ_3]; exact upd_eq
  have hcCL_σ_3 : CL σ_3 d ls lo := by rw [eσ_3]; exact CL.fr hcCL_σ_2 (upd_ne (by first | omega | (simp only [vb] at *; omega))) (upd_ne (by first | omega | (simp only [vb] at *; omega))) (upd_ne (by first | omega | (simp only [vb] at *; omega)))
  have hcFR_σ_3 : ∀ a, ((a < vb m ∨ vb m + 464 ≤ a) ∧ (a < 14900 ∨ 14903 ≤ a) ∧ (a < 15040 ∨ 15044 ≤ a) ∧ (a < 15140 ∨ 15148 ≤ a)) → σ_3 a = σ a := by intro a ha; exact Eq.trans (b := σ_2 a) (by rw [eσ_3, upd_ne (by first | omega | (simp only [vb] at *; omega))]) (hcFR_σ_2 a ha)
  have hcRC_σ_3 : RC σ_3 0 (fun _ => node) := by rw [eσ_3]; exact RC.fr hcRC_σ_2 (fun a ha hb => upd_ne (by first | omega | (simp only [vb] at *; omega)))
  have hvσ_3 : vw (vb m) σ_3 = μ := by rw [eσ_3, vw_out (by first | omega | (simp only [vb] at *; omega))]; first | exact hvσ_2 | assumption
  refine g_aload_n h dX1_send_15 0 rfl ?_
  refine g_iload_n h dX1_send_16 2 rfl ?_
  refine g_cvv (rest := []) h (c_stand hW node 0 (nI 0) (fun _ => node) (by omega) (by first | assumption | rw [pc_0] | fail) (by first | exact ht15042_σ_3 | assumption | fail) (by first | exact ht15043_σ_3 | assumption | fail) (by first | exact hcRC_σ_3 | assumption | fail)) lX1_stand mX1_25 (Nat.lt_of_lt_of_le (by decide) (Nat.le_refl _)) (by decide) sc_16 rfl rfl rfl rfl dX1_send_17 (fun σ_4 eσ_4 => ?_)
  obtain ⟨eσ_4_a, eσ_4_b, eσ_4_c, eσ_4_d⟩ := eσ_4
  have eσ_4_a : σ_4 15042 = (nI (if (!tb (nI 0) node) = true then 0 + 1 else 0)) := eσ_4_a
  have eσ_4_b : σ_4 15043 = (if (!tb (nI 0) node) = true then (nI 0) ||| bt1 node else (nI 0)) := eσ_4_b
  have eσ_4_c : RC σ_4 (if (!tb (nI 0) node) = true then 0 + 1 else 0) (if (!tb (nI 0) node) = true then ru (fun _ => node) 0 node else (fun _ => node)) := eσ_4_c
  have eσ_4_d : ∀ a, ((a < 15042 ∨ 15044 ≤ a) ∧ (a < 15140 ∨ 15148 ≤ a)) → σ_4 a = σ_3 a := eσ_4_d
  have ht15040_σ_4 : σ_4 15040 = (nI 0) := by rw [eσ_4_d _ (by first | omega | (simp only [vb] at *; omega))]; first | exact ht15040_σ_3 | assumption
  have ht15042_σ_4 : σ_4 15042 = (nI (if (!tb (nI 0) node) = true then 0 + 1 else 0)) := eσ_4_a
  have ht15043_σ_4 : σ_4 15043 = (if (!tb (nI 0) node) = true then (nI 0) ||| bt1 node else (nI 0)) := eσ_4_b
  have hcCL_σ_4 : CL σ_4 d ls lo := by exact CL.fr hcCL_σ_3 (eσ_4_d _ (by first | omega | (simp only [vb] at *; omega))) (eσ_4_d _ (by first | omega | (simp only [vb] at *; omega))) (eσ_4_d _ (by first | omega | (simp only [vb] at *; omega)))
  have hcFR_σ_4 : ∀ a, ((a < vb m ∨ vb m + 464 ≤ a) ∧ (a < 14900 ∨ 14903 ≤ a) ∧ (a < 15040 ∨ 15044 ≤ a) ∧ (a < 15140 ∨ 15148 ≤ a)) → σ_4 a = σ a := by intro a ha; exact Eq.trans (b := σ_3 a) (eσ_4_d a (by first | omega | (simp only [vb] at *; omega))) (hcFR_σ_3 a ha)
  have hcRC_σ_4 : RC σ_4 (if (!tb (nI 0) node) = true then 0 + 1 else 0) (if (!tb (nI 0) node) = true then ru (fun _ => node) 0 node else (fun _ => node)) := eσ_4_c
  have hvσ_4 : vw (vb m) σ_4 = μ := by rw [vw_fr (σ := σ_3) (fun j _ _ => eσ_4_d _ (by first | omega | (simp only [vb] at *; omega)))]; first | exact hvσ_3 | assumption
  refine g_aload_n h dX1_send_20 0 rfl ?_
  refine g_iconst h dX1_send_21 (by decide) ?_
  refine g_puti h dX1_send_22 pX1_29 sc_16 rfl ?_
  refine g_nm (fun σ_5 eσ_5 => ?_)
  have eσ_5 : σ_5 = upd σ_4 15041 (nI 0) := eσ_5
  have ht15040_σ_5 : σ_5 15040 = (nI 0) := by rw [eσ_5, upd_ne (by first | omega | (simp only [vb] at *; omega))]; first | exact ht15040_σ_4 | assumption
  have ht15042_σ_5 : σ_5 15042 = (nI (if (!tb (nI 0) node) = true then 0 + 1 else 0)) := by rw [eσ_5, upd_ne (by first | omega | (simp only [vb] at *; omega))]; first | exact ht15042_σ_4 | assumption
  have ht15043_σ_5 : σ_5 15043 = (if (!tb (nI 0) node) = true then (nI 0) ||| bt1 node else (nI 0)) := by rw [eσ_5, upd_ne (by first | omega | (simp only [vb] at *; omega))]; first | exact ht15043_σ_4 | assumption
  have ht15041_σ_5 : σ_5 15041 = (nI 0) := by rw [eσ_5]; exact upd_eq
  have hcCL_σ_5 : CL σ_5 d ls lo := by rw [eσ_5]; exact CL.fr hcCL_σ_4 (upd_ne (by first | omega | (simp only [vb] at *; omega))) (upd_ne (by first | omega | (simp only [vb] at *; omega))) (upd_ne (by first | omega | (simp only [vb] at *; omega)))
  have hcFR_σ_5 : ∀ a, ((a < vb m ∨ vb m + 464 ≤ a) ∧ (a < 14900 ∨ 14903 ≤ a) ∧ (a < 15040 ∨ 15044 ≤ a) ∧ (a < 15140 ∨ 15148 ≤ a)) → σ_5 a = σ a := by intro a ha; exact Eq.trans (b := σ_4 a) (by rw [eσ_5, upd_ne (by first | omega | (simp only [vb] at *; omega))]) (hcFR_σ_4 a ha)
  have hcRC_σ_5 : RC σ_5 (if (!tb (nI 0) node) = true then 0 + 1 else 0) (if (!tb (nI 0) node) = true then ru (fun _ => node) 0 node else (fun _ => node)) := by rw [eσ_5]; exact RC.fr hcRC_σ_4 (fun a ha hb => upd_ne (by first | omega | (simp only [vb] at *; omega)))
  have hvσ_5 : vw (vb m) σ_5 = μ := by rw [eσ_5, vw_out (by first | omega | (simp only [vb] at *; omega))]; first | exact hvσ_4 | assumption
  have lp25 : ∀ (k9 : Nat) (g1 : Int32) (n : Nat) (many1 : Nat) (sd1 : Int32) (μ1 : Nat → Int32) (d1 : Nat) (lo1 : Int32) (rr1 : Nat → Nat) (τ : Mem), (flW node (decide (kd = 2)) (decide (kd = 0)) ls (nN μ) (fun _ => node, 1, bt1 node, nI 0, μ, d, lo) n = (rr1, many1, sd1, g1, μ1, d1, lo1)) → (n ≤ many1) → (vw (vb m) τ = μ1) → (τ 15040 = g1) → (τ 15042 = (nI many1)) → (τ 15043 = sd1) → (τ 15041 = (nI n)) → (CL τ d1 ls lo1) → (∀ a, ((a < vb m ∨ vb m + 464 ≤ a) ∧ (a < 14900 ∨ 14903 ≤ a) ∧ (a < 15040 ∨ 15044 ≤ a) ∧ (a < 15140 ∨ 15148 ≤ a)) → τ a = σ a) → (RC τ many1 rr1) → 8 - n < k9 → G X w 8 25 [(0, .ref (w.1 16)), (1, .ref (w.1 (mc m 0))), (2, .int (nI node)), (3, .int (nI kd)), (4, .ref (w.1 18))] [] (τ) := by
    intro k9
    induction k9 with
    | zero => intro g1 n many1 sd1 μ1 d1 lo1 rr1 τ hT1 hnm hvτ ht15040_τ ht15042_τ ht15043_τ ht15041_τ hcCL_τ hcFR_τ hcRC_τ hm9; exact absurd hm9 (Nat.not_lt_zero _)
    | succ k9 ih25 =>
      intro g1 n many1 sd1 μ1 d1 lo1 rr1 τ hT1 hnm hvτ ht15040_τ ht15042_τ ht15043_τ ht15041_τ hcCL_τ hcFR_τ hcRC_τ hm25
      have hW1 : FW μ node (rr1, many1, sd1, g1, μ1, d1, lo1) := by rw [← hT1]; exact (FW.ini hI hn hon).sent hI hn n
      have hI1 : MI μ1 := hW1.1
      have hF1 : ∀ a, a < 272 → a ≠ 9 → μ1 a = μ a := hW1.2.1
      have hM1 : many1 = pc sd1 := hW1.2.2.1
      have hP1 := pc_le sd1
      have hR1 : ∀ k, k < many1 → rr1 k < nN μ ∧ tb (μ 1) (rr1 k) = true := hW1.2.2.2.2.1
      have hN1 : nN μ1 = nN μ := by unfold nN; rw [hF1 0 (by omega) (by omega)]
      refine g_aload_n h dX1_send_25 0 rfl ?_
      refine g_geti h dX1_send_26 gX1_29 sc_16 rfl ?_
      refine g_top (y := (nI n)) (by first | exact ht15041_τ | assumption) ?_
      refine g_aload_n h dX1_send_29 0 rfl ?_
      refine g_geti h dX1_send_30 gX1_22 sc_16 rfl ?_
      refine g_top (y := (nI many1)) (by first | exact ht15042_τ | assumption) ?_
      refine g_icmpN_ge h dX1_send_33 (by omega) (by omega) (fun c33 => ?_) (fun c33 => ?_)
      ·
        have hE : flS node (decide (kd = 2)) (decide (kd = 0)) ls μ d lo = (rr1, many1, sd1, g1, μ1, d1, lo1) := by rw [← flW_8 (n := n) (by omega) (by rw [hT1]; dsimp only; omega), hT1]
        exact g_vret h hQ dX1_send_166 rfl (by exact ⟨(by simp only [hE]; exact hvτ), (by simp only [hE]; exact ht15040_τ), (by simp only [hE]; rw [show many1 = n from by omega]; exact ht15041_τ), (by simp only [hE]; exact hcCL_τ), (by exact hcFR_τ)⟩)
      ·
        refine g_aload_n h dX1_send_36 0 rfl ?_
        refine g_geti h dX1_send_37 gX1_29 sc_16 rfl ?_
        refine g_top (y := (nI n)) (by first | exact ht15041_τ | assumption) ?_
        refine g_bipush h dX1_send_40 (by decide) ?_
        refine g_icmpN_ge h dX1_send_42 (by omega) (by omega) (fun c42 => ?_) (fun c42 => ?_)
        ·
          have hE : flS node (decide (kd = 2)) (decide (kd = 0)) ls μ d lo = (rr1, many1, sd1, g1, μ1, d1, lo1) := by rw [← flW_8 (n := n) (by omega) (by rw [hT1]; dsimp only; omega), hT1]
          exact g_vret h hQ dX1_send_166 rfl (by exact ⟨(by simp only [hE]; exact hvτ), (by simp only [hE]; exact ht15040_τ), (by simp only [hE]; rw [show many1 = n from by omega]; exact ht15041_τ), (by simp only [hE]; exact hcCL_τ), (by exact hcFR_τ)⟩)
        ·
          refine g_aload_n h dX1_send_45 0 rfl ?_
          refine g_getr h dX1_send_46 gX1_9 sc_16 rfl ?_
          refine g_aload_n h dX1_send_49 0 rfl ?_
          refine g_geti h dX1_send_50 gX1_29 sc_16 rfl ?_
          refine g_top (y := (nI n)) (by first | exact ht15041_τ | assumption) ?_
          refine g_iald h dX1_send_53 sc_17 (by omega) ?_
          refine g_top (y := (nI (rr1 n))) (hcRC_τ n (by omega)) ?_
          refine g_istore (L' := [(0, .ref (w.1 16)), (1, .ref (w.1 (mc m 0))), (2, .int (nI node)), (3, .int (nI kd)), (4, .ref (w.1 18)), (5, .int (nI (rr1 n)))]) h dX1_send_54 rfl (by decide) rfl ?_
          refine g_iconst h dX1_send_56 (by decide) ?_
          refine g_istore (L' := [(0, .ref (w.1 16)), (1, .ref (w.1 (mc m 0))), (2, .int (nI node)), (3, .int (nI kd)), (4, .ref (w.1 18)), (5, .int (nI (rr1 n))), (6, .int (nI 0))]) h dX1_send_57 rfl (by decide) rfl ?_
          have lp59 : ∀ (k9 : Nat) (i : Nat) (g2 : Int32) (many2 : Nat) (sd2 : Int32) (μ2 : Nat → Int32) (d2 : Nat) (lo2 : Int32) (rr2 : Nat → Nat) (τ2 : Mem), (flI node (decide (kd = 2)) (decide (kd = 0)) ls (rr1 n) i (rr1, many1, sd1, g1, μ1, d1, lo1) = (rr2, many2, sd2, g2, μ2, d2, lo2)) → (i ≤ nN μ) → (many1 ≤ many2) → (vw (vb m) τ2 = μ2) → (τ2 15040 = g2) → (τ2 15042 = (nI many2)) → (τ2 15043 = sd2) → (τ2 15041 = (nI n)) → (CL τ2 d2 ls lo2) → (∀ a, ((a < vb m ∨ vb m + 464 ≤ a) ∧ (a < 14900 ∨ 14903 ≤ a) ∧ (a < 15040 ∨ 15044 ≤ a) ∧ (a < 15140 ∨ 15148 ≤ a)) → τ2 a = σ a) → (RC τ2 many2 rr2) → nN μ - i < k9 → G X w 8 59 [(0, .ref (w.1 16)), (1, .ref (w.1 (mc m 0))), (2, .int (nI node)), (3, .int (nI kd)), (4, .ref (w.1 18)), (5, .int (nI (rr1 n))), (6, .int (nI i))] [] (τ2) := by
            intro k9
            induction k9 with
            | zero => intro i g2 many2 sd2 μ2 d2 lo2 rr2 τ2 hT2 hi hmm hvτ2 ht15040_τ2 ht15042_τ2 ht15043_τ2 ht15041_τ2 hcCL_τ2 hcFR_τ2 hcRC_τ2 hm9; exact absurd hm9 (Nat.not_lt_zero _)
            | succ k9 ih59 =>
              intro i g2 many2 sd2 μ2 d2 lo2 rr2 τ2 hT2 hi hmm hvτ2 ht15040_τ2 ht15042_τ2 ht15043_τ2 ht15041_τ2 hcCL_τ2 hcFR_τ2 hcRC_τ2 hm59
              have hW2 : FW μ node (rr2, many2, sd2, g2, μ2, d2, lo2) := by rw [← hT2]; exact hW1.row hI hn (hR1 n (by omega)).1 i hi
              have hI2 : MI μ2 := hW2.1
              have hF2 : ∀ a, a < 272 → a ≠ 9 → μ2 a = μ a := hW2.2.1
              have hM2 : many2 = pc sd2 := hW2.2.2.1
              have hP2 := pc_le sd2
              have hR2 : ∀ k, k < many2 → rr2 k < nN μ ∧ tb (μ 1) (rr2 k) = true := hW2.2.2.2.2.1
              have hN2 : nN μ2 = nN μ := by unfold nN; rw [hF2 0 (by omega) (by omega)]
              have hof : tb (μ2 1) (rr1 n) = true := by rw [hF2 1 (by omega) (by omega)]; exact (hR1 n (by omega)).2
              have hf8 := (hR1 n (by omega)).1
              refine g_iload h dX1_send_59 6 rfl ?_
              refine g_aload_n h dX1_send_61 1 rfl ?_
              refine g_geti h dX1_send_62 gX1_32 (sM_0 (m := m) (by omega)) rfl ?_
              refine g_top (y := μ2 0) (vw_pic (b := (vb m)) (k := 0) (by first | exact hvτ2 | assumption) (by omega)) ?_
              refine g_top (y := nI (nN μ2)) (mi_0 (by assumption)) ?_
              refine g_icmpN_ge h dX1_send_65 (by omega) (by omega) (fun c65 => ?_) (fun c65 => ?_)
              ·
                refine g_aload_n h dX1_send_153 0 rfl ?_
                refine g_dup h dX1_send_154 rfl ?_
                refine g_geti h dX1_send_155 gX1_29 sc_16 rfl ?_
                refine g_top (y := (nI n)) (by first | exact ht15041_τ2 | assumption) ?_
                refine g_iconst h dX1_send_158 (by decide) ?_
                refine g_iaddN h dX1_send_159  ?_
                refine g_puti h dX1_send_160 pX1_29 sc_16 rfl ?_
                refine g_nm (fun σ_6 eσ_6 => ?_)
                have eσ_6 : σ_6 = upd (τ2) 15041 (nI (n + 1)) := eσ_6
                have ht15040_σ_6 : σ_6 15040 = g2 := by rw [eσ_6, upd_ne (by first | omega | (simp only [vb] at *; omega))]; first | exact ht15040_τ2 | assumption
                have ht15042_σ_6 : σ_6 15042 = (nI many2) := by rw [eσ_6, upd_ne (by first | omega | (simp only [vb] at *; omega))]; first | exact ht15042_τ2 | assumption
                have ht15043_σ_6 : σ_6 15043 = sd2 := by rw [eσ_6, upd_ne (by first | omega | (simp only [vb] at *; omega))]; first | exact ht15043_τ2 | assumption
                have ht15041_σ_6 : σ_6 15041 = (nI (n + 1)) := by rw [eσ_6]; exact upd_eq
                have hcCL_σ_6 : CL σ_6 d2 ls lo2 := by rw [eσ_6]; exact CL.fr hcCL_τ2 (upd_ne (by first | omega | (simp only [vb] at *; omega))) (upd_ne (by first | omega | (simp only [vb] at *; omega))) (upd_ne (by first | omega | (simp only [vb] at *; omega)))
                have hcFR_σ_6 : ∀ a, ((a < vb m ∨ vb m + 464 ≤ a) ∧ (a < 14900 ∨ 14903 ≤ a) ∧ (a < 15040 ∨ 15044 ≤ a) ∧ (a < 15140 ∨ 15148 ≤ a)) → σ_6 a = σ a := by intro a ha; exact Eq.trans (b := (τ2) a) (by rw [eσ_6, upd_ne (by first | omega | (simp only [vb] at *; omega))]) (hcFR_τ2 a ha)
                have hcRC_σ_6 : RC σ_6 many2 rr2 := by rw [eσ_6]; exact RC.fr hcRC_τ2 (fun a ha hb => upd_ne (by first | omega | (simp only [vb] at *; omega)))
                have hvσ_6 : vw (vb m) σ_6 = μ2 := by rw [eσ_6, vw_out (by first | omega | (simp only [vb] at *; omega))]; first | exact hvτ2 | assumption
                refine g_goto h dX1_send_163 ?_
                exact g_sub [0, 1, 2, 3, 4] rfl (ih25 g2 (n + 1) many2 sd2 μ2 d2 lo2 rr2 σ_6 (by simp only [flW, hT1]; rw [if_pos (by omega), ← hT2, show i = nN μ from by omega]) (by omega) (by first | exact hvσ_6 | assumption | fail | fail) (by first | exact ht15040_σ_6 | assumption | fail | fail) (by first | exact ht15042_σ_6 | assumption | fail | fail) (by first | exact ht15043_σ_6 | assumption | fail | fail) (by first | exact ht15041_σ_6 | assumption | fail | fail) (by first | exact hcCL_σ_6 | assumption | fail | fail) (by first | exact hcFR_σ_6 | assumption | fail | fail) (by first | exact hcRC_σ_6 | assumption | fail | fail) (by omega))
              ·
                refine g_aload_n h dX1_send_68 1 rfl ?_
                refine g_getr h dX1_send_69 gX1_37 (sM_0 (m := m) (by omega)) rfl ?_
                refine g_getr h dX1_send_72 gX1_41 (sM_4 (m := m) (by omega)) rfl ?_
                refine g_iload h dX1_send_75 6 rfl ?_
                refine g_iald h dX1_send_77 (sM_8 (m := m) (by omega)) (by omega) ?_
                refine g_top (y := μ2 (64 + i)) (vw_pic (b := (vb m)) (k := 64 + i) (by first | exact hvτ2 | assumption) (by omega)) ?_
                refine g_iload h dX1_send_78 5 rfl ?_
                refine g_cspi (rest := []) h (c_has hW (μ2 (64 + i)) (rr1 n) (by omega)) lX5_has mX1_46 (Nat.lt_of_lt_of_le (by decide) (Nat.le_refl _)) (by decide) rfl rfl rfl dX1_send_80 ?_
                refine g_istore (L' := [(0, .ref (w.1 16)), (1, .ref (w.1 (mc m 0))), (2, .int (nI node)), (3, .int (nI kd)), (4, .ref (w.1 18)), (5, .int (nI (rr1 n))), (6, .int (nI i)), (7, .int (b2i (tb (μ2 (64 + i)) (rr1 n))))]) h dX1_send_83 rfl (by decide) rfl ?_
                refine g_iload h dX1_send_85 7 rfl ?_
                refine g_ifB_eq h dX1_send_87 (fun c87 => ?_) (fun c87 => ?_)
                ·
                  refine g_iincN (b := 1) (L' := [(0, .ref (w.1 16)), (1, .ref (w.1 (mc m 0))), (2, .int (nI node)), (3, .int (nI kd)), (4, .ref (w.1 18)), (5, .int (nI (rr1 n))), (6, .int (nI (i + 1))), (7, .int (b2i (tb (μ2 (64 + i)) (rr1 n))))]) h dX1_send_147 6 rfl rfl (by decide) (by decide) rfl ?_
                  refine g_goto h dX1_send_150 ?_
                  exact g_sub [0, 1, 2, 3, 4, 5, 6] rfl (ih59 (i + 1) g2 many2 sd2 μ2 d2 lo2 rr2 (τ2) (by rw [flI, hT2]; simp [fl1, may, c33, c42, c65, c87, Nat.add_zero]) (by omega) (by first | omega | (split <;> omega) | fail | fail) (by first | exact hvτ2 | assumption | fail | fail) (by first | exact ht15040_τ2 | assumption | fail | fail) (by first | exact ht15042_τ2 | assumption | fail | fail) (by first | exact ht15043_τ2 | assumption | fail | fail) (by first | exact ht15041_τ2 | assumption | fail | fail) (by first | exact hcCL_τ2 | assumption | fail | fail) (by first | exact hcFR_τ2 | assumption | fail | fail) (by first | exact hcRC_τ2 | assumption | fail | fail) (by omega))
                ·
                  refine g_aload_n h dX1_send_90 1 rfl ?_
                  refine g_iload h dX1_send_91 6 rfl ?_
                  refine g_iload h dX1_send_93 5 rfl ?_
                  refine g_cvpi (rest := []) h (c_comesTo hW i (rr1 n) m μ2 (by first | omega | decide | fail) (by first | exact hvτ2 | assumption | fail) (by assumption) (by omega) (by omega)) lX5_comesTo mX1_50 (Nat.lt_of_lt_of_le (by decide) (Nat.le_refl _)) (by decide) (sM_0 (m := m) (by omega)) rfl rfl rfl rfl dX1_send_95 ?_
                  refine g_ifB_eq h dX1_send_98 (fun c98 => ?_) (fun c98 => ?_)
                  ·
                    refine g_iincN (b := 1) (L' := [(0, .ref (w.1 16)), (1, .ref (w.1 (mc m 0))), (2, .int (nI node)), (3, .int (nI kd)), (4, .ref (w.1 18)), (5, .int (nI (rr1 n))), (6, .int (nI (i + 1))), (7, .int (b2i (tb (μ2 (64 + i)) (rr1 n))))]) h dX1_send_147 6 rfl rfl (by decide) (by decide) rfl ?_
                    refine g_goto h dX1_send_150 ?_
                    exact g_sub [0, 1, 2, 3, 4, 5, 6] rfl (ih59 (i + 1) g2 many2 sd2 μ2 d2 lo2 rr2 (τ2) (by rw [flI, hT2]; simp [fl1, may, c33, c42, c65, c87, c98, Nat.add_zero]) (by omega) (by first | omega | (split <;> omega) | fail | fail) (by first | exact hvτ2 | assumption | fail | fail) (by first | exact ht15040_τ2 | assumption | fail | fail) (by first | exact ht15042_τ2 | assumption | fail | fail) (by first | exact ht15043_τ2 | assumption | fail | fail) (by first | exact ht15041_τ2 | assumption | fail | fail) (by first | exact hcCL_τ2 | assumption | fail | fail) (by first | exact hcFR_τ2 | assumption | fail | fail) (by first | exact hcRC_τ2 | assumption | fail | fail) (by omega))
                  ·
                    refine g_aload h dX1_send_101 4 rfl ?_
                    refine g_cvi (rest := []) h (c_loses hW d2 ls lo2 (by first | exact hcCL_τ2 | assumption | fail)) lX4_loses mX1_53 (Nat.lt_of_lt_of_le (by decide) (Nat.le_refl _)) (by decide) sc_18 rfl rfl rfl rfl dX1_send_103 (fun σ_7 eσ_7 => ?_)
                    obtain ⟨eσ_7_a, eσ_7_b⟩ := eσ_7
                    have eσ_7_a : CL σ_7 (drw d2) ls (lsN d2 ls lo2) := eσ_7_a
                    have eσ_7_b : ∀ a, (a < 14900 ∨ 14903 ≤ a) → σ_7 a = (τ2) a := eσ_7_b
                    have ht15040_σ_7 : σ_7 15040 = g2 := by rw [eσ_7_b _ (by first | omega | (simp only [vb] at *; omega))]; first | exact ht15040_τ2 | assumption
                    have ht15042_σ_7 : σ_7 15042 = (nI many2) := by rw [eσ_7_b _ (by first | omega | (simp only [vb] at *; omega))]; first | exact ht15042_τ2 | assumption
                    have ht15043_σ_7 : σ_7 15043 = sd2 := by rw [eσ_7_b _ (by first | omega | (simp only [vb] at *; omega))]; first | exact ht15043_τ2 | assumption
                    have ht15041_σ_7 : σ_7 15041 = (nI n) := by rw [eσ_7_b _ (by first | omega | (simp only [vb] at *; omega))]; first | exact ht15041_τ2 | assumption
                    have hcCL_σ_7 : CL σ_7 (drw d2) ls (lsN d2 ls lo2) := eσ_7_a
                    have hcFR_σ_7 : ∀ a, ((a < vb m ∨ vb m + 464 ≤ a) ∧ (a < 14900 ∨ 14903 ≤ a) ∧ (a < 15040 ∨ 15044 ≤ a) ∧ (a < 15140 ∨ 15148 ≤ a)) → σ_7 a = σ a := by intro a ha; exact Eq.trans (b := (τ2) a) (eσ_7_b a (by first | omega | (simp only [vb] at *; omega))) (hcFR_τ2 a ha)
                    have hcRC_σ_7 : RC σ_7 many2 rr2 := by exact RC.fr hcRC_τ2 (fun a ha hb => eσ_7_b a (by first | omega | (simp only [vb] at *; omega)))
                    have hvσ_7 : vw (vb m) σ_7 = μ2 := by rw [vw_fr (σ := (τ2)) (fun j _ _ => eσ_7_b _ (by first | omega | (simp only [vb] at *; omega)))]; first | exact hvτ2 | assumption
                    refine g_ifB_ne h dX1_send_106 (fun c106 => ?_) (fun c106 => ?_)
                    ·
                      refine g_iincN (b := 1) (L' := [(0, .ref (w.1 16)), (1, .ref (w.1 (mc m 0))), (2, .int (nI node)), (3, .int (nI kd)), (4, .ref (w.1 18)), (5, .int (nI (rr1 n))), (6, .int (nI (i + 1))), (7, .int (b2i (tb (μ2 (64 + i)) (rr1 n))))]) h dX1_send_147 6 rfl rfl (by decide) (by decide) rfl ?_
                      refine g_goto h dX1_send_150 ?_
                      exact g_sub [0, 1, 2, 3, 4, 5, 6] rfl (ih59 (i + 1) g2 many2 sd2 μ2 (drw d2) (lsN d2 ls lo2) rr2 σ_7 (by rw [flI, hT2]; simp [fl1, may, c33, c42, c65, c87, c98, c106, Nat.add_zero]) (by omega) (by first | omega | (split <;> omega) | fail | fail) (by first | exact hvσ_7 | assumption | fail | fail) (by first | exact ht15040_σ_7 | assumption | fail | fail) (by first | exact ht15042_σ_7 | assumption | fail | fail) (by first | exact ht15043_σ_7 | assumption | fail | fail) (by first | exact ht15041_σ_7 | assumption | fail | fail) (by first | exact hcCL_σ_7 | assumption | fail | fail) (by first | exact hcFR_σ_7 | assumption | fail | fail) (by first | exact hcRC_σ_7 | assumption | fail | fail) (by omega))
                    ·
                      refine g_aload_n h dX1_send_109 0 rfl ?_
                      refine g_aload_n h dX1_send_110 1 rfl ?_
                      refine g_iload h dX1_send_111 6 rfl ?_
                      refine g_iload_n h dX1_send_113 2 rfl ?_
                      refine g_iload_n h dX1_send_114 3 rfl ?_
                      refine g_cvv (rest := []) h (c_hand hW i node kd g2 m μ2 (by first | omega | decide | fail) (by first | exact hvσ_7 | assumption | fail) (by assumption) (by omega) (by omega) (by omega) (by first | exact ht15040_σ_7 | assumption | fail)) lX1_hand mX1_59 (Nat.lt_of_lt_of_le (by decide) (Nat.le_refl _)) (by decide) sc_16 rfl rfl rfl rfl dX1_send_115 (fun σ_8 eσ_8 => ?_)
                      obtain ⟨eσ_8_a, eσ_8_b, eσ_8_c⟩ := eσ_8
                      have eσ_8_a : vw (vb m) σ_8 = if (decide (kd = 0) && (!decide (i = node) && !tb g2 i)) = true then tkS μ2 (8 * i + node) (nA μ2 (32 + node)) (μ2 (40 + node)) else μ2 := eσ_8_a
                      have eσ_8_b : σ_8 15040 = (if (!decide (i = node) && !tb g2 i) = true then g2 ||| bt1 i else g2) := eσ_8_b
                      have eσ_8_c : ∀ a, (a ≠ 15040 ∧ (a < vb m ∨ vb m + 464 ≤ a)) → σ_8 a = σ_7 a := eσ_8_c
                      have ht15042_σ_8 : σ_8 15042 = (nI many2) := by rw [eσ_8_c _ (by first | omega | (simp only [vb] at *; omega))]; first | exact ht15042_σ_7 | assumption
                      have ht15043_σ_8 : σ_8 15043 = sd2 := by rw [eσ_8_c _ (by first | omega | (simp only [vb] at *; omega))]; first | exact ht15043_σ_7 | assumption
                      have ht15041_σ_8 : σ_8 15041 = (nI n) := by rw [eσ_8_c _ (by first | omega | (simp only [vb] at *; omega))]; first | exact ht15041_σ_7 | assumption
                      have ht15040_σ_8 : σ_8 15040 = (if (!decide (i = node) && !tb g2 i) = true then g2 ||| bt1 i else g2) := eσ_8_b
                      have hcCL_σ_8 : CL σ_8 (drw d2) ls (lsN d2 ls lo2) := by exact CL.fr hcCL_σ_7 (eσ_8_c _ (by first | omega | (simp only [vb] at *; omega))) (eσ_8_c _ (by first | omega | (simp only [vb] at *; omega))) (eσ_8_c _ (by first | omega | (simp only [vb] at *; omega)))
                      have hcFR_σ_8 : ∀ a, ((a < vb m ∨ vb m + 464 ≤ a) ∧ (a < 14900 ∨ 14903 ≤ a) ∧ (a < 15040 ∨ 15044 ≤ a) ∧ (a < 15140 ∨ 15148 ≤ a)) → σ_8 a = σ a := by intro a ha; exact Eq.trans (b := σ_7 a) (eσ_8_c a (by first | omega | (simp only [vb] at *; omega))) (hcFR_σ_7 a ha)
                      have hcRC_σ_8 : RC σ_8 many2 rr2 := by exact RC.fr hcRC_σ_7 (fun a ha hb => eσ_8_c a (by first | omega | (simp only [vb] at *; omega)))
                      obtain ⟨μ_9, eμ_9⟩ : ∃ μ_9 : Nat → Int32, μ_9 = if (decide (kd = 0) && (!decide (i = node) && !tb g2 i)) = true then tkS μ2 (8 * i + node) (nA μ2 (32 + node)) (μ2 (40 + node)) else μ2 := ⟨_, rfl⟩
                      have hvσ_8 : vw (vb m) σ_8 = μ_9 := by rw [eμ_9]; exact eσ_8_a
                      refine g_iload_n h dX1_send_118 3 rfl ?_
                      refine g_iconst h dX1_send_119 (by decide) ?_
                      refine g_icmpN_eq h dX1_send_120 (by omega) (by omega) (fun c120 => ?_) (fun c120 => ?_)
                      ·
                        refine g_aload_n h dX1_send_141 0 rfl ?_
                        refine g_iload h dX1_send_142 6 rfl ?_
                        refine g_cvv (rest := []) h (c_stand hW i many2 sd2 rr2 (by omega) (by first | assumption | rw [pc_0] | fail) (by first | exact ht15042_σ_8 | assumption | fail) (by first | exact ht15043_σ_8 | assumption | fail) (by first | exact hcRC_σ_8 | assumption | fail)) lX1_stand mX1_25 (Nat.lt_of_lt_of_le (by decide) (Nat.le_refl _)) (by decide) sc_16 rfl rfl rfl rfl dX1_send_144 (fun σ_10 eσ_10 => ?_)
                        obtain ⟨eσ_10_a, eσ_10_b, eσ_10_c, eσ_10_d⟩ := eσ_10
                        have eσ_10_a : σ_10 15042 = (nI (if (!tb sd2 i) = true then many2 + 1 else many2)) := eσ_10_a
                        have eσ_10_b : σ_10 15043 = (if (!tb sd2 i) = true then sd2 ||| bt1 i else sd2) := eσ_10_b
                        have eσ_10_c : RC σ_10 (if (!tb sd2 i) = true then many2 + 1 else many2) (if (!tb sd2 i) = true then ru rr2 many2 i else rr2) := eσ_10_c
                        have eσ_10_d : ∀ a, ((a < 15042 ∨ 15044 ≤ a) ∧ (a < 15140 ∨ 15148 ≤ a)) → σ_10 a = σ_8 a := eσ_10_d
                        have ht15041_σ_10 : σ_10 15041 = (nI n) := by rw [eσ_10_d _ (by first | omega | (simp only [vb] at *; omega))]; first | exact ht15041_σ_8 | assumption
                        have ht15040_σ_10 : σ_10 15040 = (if (!decide (i = node) && !tb g2 i) = true then g2 ||| bt1 i else g2) := by rw [eσ_10_d _ (by first | omega | (simp only [vb] at *; omega))]; first | exact ht15040_σ_8 | assumption
                        have ht15042_σ_10 : σ_10 15042 = (nI (if (!tb sd2 i) = true then many2 + 1 else many2)) := eσ_10_a
                        have ht15043_σ_10 : σ_10 15043 = (if (!tb sd2 i) = true then sd2 ||| bt1 i else sd2) := eσ_10_b
                        have hcCL_σ_10 : CL σ_10 (drw d2) ls (lsN d2 ls lo2) := by exact CL.fr hcCL_σ_8 (eσ_10_d _ (by first | omega | (simp only [vb] at *; omega))) (eσ_10_d _ (by first | omega | (simp only [vb] at *; omega))) (eσ_10_d _ (by first | omega | (simp only [vb] at *; omega)))
                        have hcFR_σ_10 : ∀ a, ((a < vb m ∨ vb m + 464 ≤ a) ∧ (a < 14900 ∨ 14903 ≤ a) ∧ (a < 15040 ∨ 15044 ≤ a) ∧ (a < 15140 ∨ 15148 ≤ a)) → σ_10 a = σ a := by intro a ha; exact Eq.trans (b := σ_8 a) (eσ_10_d a (by first | omega | (simp only [vb] at *; omega))) (hcFR_σ_8 a ha)
                        have hcRC_σ_10 : RC σ_10 (if (!tb sd2 i) = true then many2 + 1 else many2) (if (!tb sd2 i) = true then ru rr2 many2 i else rr2) := eσ_10_c
                        have hvσ_10 : vw (vb m) σ_10 = μ_9 := by rw [vw_fr (σ := σ_8) (fun j _ _ => eσ_10_d _ (by first | omega | (simp only [vb] at *; omega)))]; first | exact hvσ_8 | assumption
                        refine g_iincN (b := 1) (L' := [(0, .ref (w.1 16)), (1, .ref (w.1 (mc m 0))), (2, .int (nI node)), (3, .int (nI kd)), (4, .ref (w.1 18)), (5, .int (nI (rr1 n))), (6, .int (nI (i + 1))), (7, .int (b2i (tb (μ2 (64 + i)) (rr1 n))))]) h dX1_send_147 6 rfl rfl (by decide) (by decide) rfl ?_
                        refine g_goto h dX1_send_150 ?_
                        exact g_sub [0, 1, 2, 3, 4, 5, 6] rfl (ih59 (i + 1) (if (!decide (i = node) && !tb g2 i) = true then g2 ||| bt1 i else g2) (if (!tb sd2 i) = true then many2 + 1 else many2) (if (!tb sd2 i) = true then sd2 ||| bt1 i else sd2) μ_9 (drw d2) (lsN d2 ls lo2) (if (!tb sd2 i) = true then ru rr2 many2 i else rr2) σ_10 (by rw [flI, hT2]; simp [fl1, may, c33, c42, c65, c87, c98, c106, c120, eμ_9]) (by omega) (by first | omega | (split <;> omega) | fail | fail) (by first | exact hvσ_10 | assumption | fail | fail) (by first | exact ht15040_σ_10 | assumption | fail | fail) (by first | exact ht15042_σ_10 | assumption | fail | fail) (by first | exact ht15043_σ_10 | assumption | fail | fail) (by first | exact ht15041_σ_10 | assumption | fail | fail) (by first | exact hcCL_σ_10 | assumption | fail | fail) (by first | exact hcFR_σ_10 | assumption | fail | fail) (by first | exact hcRC_σ_10 | assumption | fail | fail) (by omega))
                      ·
                        refine g_aload_n h dX1_send_123 1 rfl ?_
                        refine g_getr h dX1_send_124 gX1_37 (sM_0 (m := m) (by omega)) rfl ?_
                        refine g_getr h dX1_send_127 gX1_63 (sM_4 (m := m) (by omega)) rfl ?_
                        refine g_iload h dX1_send_130 6 rfl ?_
                        refine g_iald h dX1_send_132 (sM_9 (m := m) (by omega)) (by omega) ?_
                        refine g_top (y := μ_9 (72 + i)) (vw_pic (b := (vb m)) (k := 72 + i) (by first | exact hvσ_8 | assumption) (by omega)) ?_
                        refine g_top (y := μ2 (72 + i)) (by rw [eμ_9]; split <;> first | exact tk_fix (by omega) (by omega) | rfl) ?_
                        refine g_iload h dX1_send_133 5 rfl ?_
                        refine g_cspi (rest := []) h (c_has hW (μ2 (72 + i)) (rr1 n) (by omega)) lX5_has mX1_46 (Nat.lt_of_lt_of_le (by decide) (Nat.le_refl _)) (by decide) rfl rfl rfl dX1_send_135 ?_
                        refine g_ifB_eq h dX1_send_138 (fun c138 => ?_) (fun c138 => ?_)
                        ·
                          refine g_iincN (b := 1) (L' := [(0, .ref (w.1 16)), (1, .ref (w.1 (mc m 0))), (2, .int (nI node)), (3, .int (nI kd)), (4, .ref (w.1 18)), (5, .int (nI (rr1 n))), (6, .int (nI (i + 1))), (7, .int (b2i (tb (μ2 (64 + i)) (rr1 n))))]) h dX1_send_147 6 rfl rfl (by decide) (by decide) rfl ?_
                          refine g_goto h dX1_send_150 ?_
                          exact g_sub [0, 1, 2, 3, 4, 5, 6] rfl (ih59 (i + 1) (if (!decide (i = node) && !tb g2 i) = true then g2 ||| bt1 i else g2) many2 sd2 μ_9 (drw d2) (lsN d2 ls lo2) rr2 σ_8 (by rw [flI, hT2]; simp [fl1, may, c33, c42, c65, c87, c98, c106, c120, c138, eμ_9]) (by omega) (by first | omega | (split <;> omega) | fail | fail) (by first | exact hvσ_8 | assumption | fail | fail) (by first | exact ht15040_σ_8 | assumption | fail | fail) (by first | exact ht15042_σ_8 | assumption | fail | fail) (by first | exact ht15043_σ_8 | assumption | fail | fail) (by first | exact ht15041_σ_8 | assumption | fail | fail) (by first | exact hcCL_σ_8 | assumption | fail | fail) (by first | exact hcFR_σ_8 | assumption | fail | fail) (by first | exact hcRC_σ_8 | assumption | fail | fail) (by omega))
                        ·
                          refine g_aload_n h dX1_send_141 0 rfl ?_
                          refine g_iload h dX1_send_142 6 rfl ?_
                          refine g_cvv (rest := []) h (c_stand hW i many2 sd2 rr2 (by omega) (by first | assumption | rw [pc_0] | fail) (by first | exact ht15042_σ_8 | assumption | fail) (by first | exact ht15043_σ_8 | assumption | fail) (by first | exact hcRC_σ_8 | assumption | fail)) lX1_stand mX1_25 (Nat.lt_of_lt_of_le (by decide) (Nat.le_refl _)) (by decide) sc_16 rfl rfl rfl rfl dX1_send_144 (fun σ_11 eσ_11 => ?_)
                          obtain ⟨eσ_11_a, eσ_11_b, eσ_11_c, eσ_11_d⟩ := eσ_11
                          have eσ_11_a : σ_11 15042 = (nI (if (!tb sd2 i) = true then many2 + 1 else many2)) := eσ_11_a
                          have eσ_11_b : σ_11 15043 = (if (!tb sd2 i) = true then sd2 ||| bt1 i else sd2) := eσ_11_b
                          have eσ_11_c : RC σ_11 (if (!tb sd2 i) = true then many2 + 1 else many2) (if (!tb sd2 i) = true then ru rr2 many2 i else rr2) := eσ_11_c
                          have eσ_11_d : ∀ a, ((a < 15042 ∨ 15044 ≤ a) ∧ (a < 15140 ∨ 15148 ≤ a)) → σ_11 a = σ_8 a := eσ_11_d
                          have ht15041_σ_11 : σ_11 15041 = (nI n) := by rw [eσ_11_d _ (by first | omega | (simp only [vb] at *; omega))]; first | exact ht15041_σ_8 | assumption
                          have ht15040_σ_11 : σ_11 15040 = (if (!decide (i = node) && !tb g2 i) = true then g2 ||| bt1 i else g2) := by rw [eσ_11_d _ (by first | omega | (simp only [vb] at *; omega))]; first | exact ht15040_σ_8 | assumption
                          have ht15042_σ_11 : σ_11 15042 = (nI (if (!tb sd2 i) = true then many2 + 1 else many2)) := eσ_11_a
                          have ht15043_σ_11 : σ_11 15043 = (if (!tb sd2 i) = true then sd2 ||| bt1 i else sd2) := eσ_11_b
                          have hcCL_σ_11 : CL σ_11 (drw d2) ls (lsN d2 ls lo2) := by exact CL.fr hcCL_σ_8 (eσ_11_d _ (by first | omega | (simp only [vb] at *; omega))) (eσ_11_d _ (by first | omega | (simp only [vb] at *; omega))) (eσ_11_d _ (by first | omega | (simp only [vb] at *; omega)))
                          have hcFR_σ_11 : ∀ a, ((a < vb m ∨ vb m + 464 ≤ a) ∧ (a < 14900 ∨ 14903 ≤ a) ∧ (a < 15040 ∨ 15044 ≤ a) ∧ (a < 15140 ∨ 15148 ≤ a)) → σ_11 a = σ a := by intro a ha; exact Eq.trans (b := σ_8 a) (eσ_11_d a (by first | omega | (simp only [vb] at *; omega))) (hcFR_σ_8 a ha)
                          have hcRC_σ_11 : RC σ_11 (if (!tb sd2 i) = true then many2 + 1 else many2) (if (!tb sd2 i) = true then ru rr2 many2 i else rr2) := eσ_11_c
                          have hvσ_11 : vw (vb m) σ_11 = μ_9 := by rw [vw_fr (σ := σ_8) (fun j _ _ => eσ_11_d _ (by first | omega | (simp only [vb] at *; omega)))]; first | exact hvσ_8 | assumption
                          refine g_iincN (b := 1) (L' := [(0, .ref (w.1 16)), (1, .ref (w.1 (mc m 0))), (2, .int (nI node)), (3, .int (nI kd)), (4, .ref (w.1 18)), (5, .int (nI (rr1 n))), (6, .int (nI (i + 1))), (7, .int (b2i (tb (μ2 (64 + i)) (rr1 n))))]) h dX1_send_147 6 rfl rfl (by decide) (by decide) rfl ?_
                          refine g_goto h dX1_send_150 ?_
                          exact g_sub [0, 1, 2, 3, 4, 5, 6] rfl (ih59 (i + 1) (if (!decide (i = node) && !tb g2 i) = true then g2 ||| bt1 i else g2) (if (!tb sd2 i) = true then many2 + 1 else many2) (if (!tb sd2 i) = true then sd2 ||| bt1 i else sd2) μ_9 (drw d2) (lsN d2 ls lo2) (if (!tb sd2 i) = true then ru rr2 many2 i else rr2) σ_11 (by rw [flI, hT2]; simp [fl1, may, c33, c42, c65, c87, c98, c106, c120, c138, eμ_9]) (by omega) (by first | omega | (split <;> omega) | fail | fail) (by first | exact hvσ_11 | assumption | fail | fail) (by first | exact ht15040_σ_11 | assumption | fail | fail) (by first | exact ht15042_σ_11 | assumption | fail | fail) (by first | exact ht15043_σ_11 | assumption | fail | fail) (by first | exact ht15041_σ_11 | assumption | fail | fail) (by first | exact hcCL_σ_11 | assumption | fail | fail) (by first | exact hcFR_σ_11 | assumption | fail | fail) (by first | exact hcRC_σ_11 | assumption | fail | fail) (by omega))
          exact lp59 (_) 0 g1 many1 sd1 μ1 d1 lo1 rr1 (τ) (by rfl) (by omega) (by omega) (by first | exact hvτ | assumption | fail | fail) (by first | exact ht15040_τ | assumption | fail | fail) (by first | exact ht15042_τ | assumption | fail | fail) (by first | exact ht15043_τ | assumption | fail | fail) (by first | exact ht15041_τ | assumption | fail | fail) (by first | exact hcCL_τ | assumption | fail | fail) (by first | exact hcFR_τ | assumption | fail | fail) (by first | exact hcRC_τ | assumption | fail | fail) (Nat.lt_succ_self _)
  exact lp25 (_) (nI 0) 0 (if (!tb (nI 0) node) = true then 0 + 1 else 0) (if (!tb (nI 0) node) = true then (nI 0) ||| bt1 node else (nI 0)) μ d lo (if (!tb (nI 0) node) = true then ru (fun _ => node) 0 node else (fun _ => node)) σ_5 (by simp [flW, tb_n0, zero_or]; funext q9; simp [ru]) (by exact Nat.zero_le _) (by first | exact hvσ_5 | assumption | fail | fail) (by first | exact ht15040_σ_5 | assumption | fail | fail) (by first | exact ht15042_σ_5 | assumption | fail | fail) (by first | exact ht15043_σ_5 | assumption | fail | fail) (by first | exact ht15041_σ_5 | assumption | fail | fail) (by first | exact hcCL_σ_5 | assumption | fail | fail) (by first | exact hcFR_σ_5 | assumption | fail | fail) (by first | exact hcRC_σ_5 | assumption | fail | fail) (Nat.lt_succ_self _)
