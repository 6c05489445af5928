/-! marks -/
theorem r_saveM {l : Launch} {w : Wd} (hW : Wi w) {σ : Mem} (mk nt : Nat) (g : Nat → Nat → Int32) (μ : Nat → Int32) (hm : mk < 4) (hv : vw 0 σ = μ) (hL : LR 0 σ nt g) : MC l w qX12_copies 0 [.ref (w.1 0), .int (nI 0), .int (nI (1056 + 528 * mk))] σ none (fun σ' => (vw (1056 + 528 * mk) σ' = μ) ∧ (LR (1056 + 528 * mk) σ' nt g) ∧ (∀ a, (a < 1056 + 528 * mk ∨ 1584 + 528 * mk ≤ a) → σ' a = σ a)) := by
  refine MC.imp (r_copies hW 0 (1056 + 528 * mk) (by decide) (by omega) (by omega)) ?_
  intro σ' e
  exact ⟨vw_cp0 hv e, lr_cp0 hL e, fun a ha => by rw [e]; exact cp_out (by omega)⟩
theorem r_restM {l : Launch} {w : Wd} (hW : Wi w) {σ : Mem} (kk nt : Nat) (g : Nat → Nat → Int32) (μ : Nat → Int32) (hm : kk < 4) (hv : vw (1056 + 528 * kk) σ = μ) (hL : LR (1056 + 528 * kk) σ nt g) : MC l w qX12_copies 0 [.ref (w.1 0), .int (nI (1056 + 528 * kk)), .int (nI 0)] σ none (fun σ' => (vw 0 σ' = μ) ∧ (LR 0 σ' nt g) ∧ (∀ a, (528 ≤ a) → σ' a = σ a)) := by
  refine MC.imp (r_copies hW (1056 + 528 * kk) 0 (by omega) (by decide) (by omega)) ?_
  intro σ' e
  exact ⟨vw_cp0 hv e, lr_cp0 hL e, fun a ha => by rw [e]; exact cp_out (by omega)⟩

theorem mk_y {x : Int32} {mk : Nat} (h : mk ≠ 4) (hx : x = nI (mk + 1)) : x = nI (if (if mk = 4 then 5 else 0) = 0 then mk + 1 else mk) := by
  rw [if_neg h, if_pos rfl]
  exact hx
theorem mk_n {x : Int32} {mk : Nat} (h : mk = 4) (hx : x = nI mk) : x = nI (if (if mk = 4 then 5 else 0) = 0 then mk + 1 else mk) := by
  rw [if_pos h, if_neg (by decide)]
  exact hx

set_option maxRecDepth 100000 in
set_option maxHeartbeats 4000000 in
theorem q_mark {l : Launch} {w : Wd} (hW : Wi w) {σ : Mem} (mk nt : Nat) (g : Nat → Nat → Int32) (μ : Nat → Int32) (hv : vw 0 σ = μ) (hI : MI μ) (hmk : mk ≤ 4) (ht4001_σ : σ 4001 = (nI mk)) (hcLR_σ : LR 0 σ nt g) : MC l w qX12_mark 1 [.ref (w.1 0)] σ (some (.int (an (if mk = 4 then 5 else 0) (nI (mk + 1))))) (fun σ' => (σ' 4000 = (nI (if mk = 4 then 5 else 0))) ∧ (σ' 4001 = (nI (if (if mk = 4 then 5 else 0) = 0 then mk + 1 else mk))) ∧ ((if mk = 4 then 5 else 0) = 0 → vw (1056 + 528 * mk) σ' = μ ∧ LR (1056 + 528 * mk) σ' nt g) ∧ (∀ a, ((a < 1056 + 528 * mk ∨ 1584 + 528 * mk ≤ a) ∧ a ≠ 4000 ∧ a ≠ 4001) → σ' a = σ a)) := by
  refine MC.of hW (by decide +kernel) (Nat.le_of_ble_eq_true rfl) (fun X h hQ hnm => ?_)
  have h : Fx X w cX12_mark 1 RX12 1 := h
  have hQ : Qx X w (some .int) (some (.int (an (if mk = 4 then 5 else 0) (nI (mk + 1))))) (fun σ' => (σ' 4000 = (nI (if mk = 4 then 5 else 0))) ∧ (σ' 4001 = (nI (if (if mk = 4 then 5 else 0) = 0 then mk + 1 else mk))) ∧ ((if mk = 4 then 5 else 0) = 0 → vw (1056 + 528 * mk) σ' = μ ∧ LR (1056 + 528 * mk) σ' nt g) ∧ (∀ a, ((a < 1056 + 528 * mk ∨ 1584 + 528 * mk ≤ a) ∧ a ≠ 4000 ∧ a ≠ 4001) → σ' a = σ a)) := hQ
  have hN8 := mi_8 hI
  have hcFR_σ : ∀ a, ((a < 1056 + 528 * mk ∨ 1584 + 528 * mk ≤ a) ∧ a ≠ 4000 ∧ a ≠ 4001) → σ a = σ a := fun _ _ => rfl
  show G X w 1 0 [(0, .ref (w.1 0))] [] σ
  refine g_aload_n h dX12_mark_0 0 rfl ?_
  refine g_geti h dX12_mark_1 gX12_284 sc_0 rfl ?_
  refine g_top (y := (nI mk)) (by first | exact ht4001_σ | assumption) ?_
  refine g_iconst h dX12_mark_4 (by decide) ?_
  refine g_icmpN_ne h dX12_mark_5 (by omega) (by omega) (fun c5 => ?_) (fun c5 => ?_)
  ·
    refine g_aload_n h dX12_mark_14 0 rfl ?_
    refine g_iconst h dX12_mark_15 (by decide) ?_
    refine g_sipush h dX12_mark_16 (by decide) ?_
    refine g_sipush h dX12_mark_19 (by decide) ?_
    refine g_aload_n h dX12_mark_22 0 rfl ?_
    refine g_geti h dX12_mark_23 gX12_284 sc_0 rfl ?_
    refine g_top (y := (nI mk)) (by first | exact ht4001_σ | assumption) ?_
    refine g_imulN h dX12_mark_26  ?_
    refine g_iaddN h dX12_mark_27  ?_
    refine g_cvv (rest := []) h (r_saveM hW mk nt g μ (by omega) (by first | exact hv | assumption | fail) (by exact hcLR_σ)) lX12_copies mX12_275 (Nat.lt_of_lt_of_le (by decide) (Nat.le_refl _)) (by decide) sc_0 rfl rfl rfl rfl dX12_mark_28 (fun σ_1 eσ_1 => ?_)
    obtain ⟨eσ_1_a, eσ_1_b, eσ_1_c⟩ := eσ_1
    have eσ_1_a : vw (1056 + 528 * mk) σ_1 = μ := eσ_1_a
    have eσ_1_b : LR (1056 + 528 * mk) σ_1 nt g := eσ_1_b
    have eσ_1_c : ∀ a, (a < 1056 + 528 * mk ∨ 1584 + 528 * mk ≤ a) → σ_1 a = σ a := eσ_1_c
    have ht4001_σ_1 : σ_1 4001 = (nI mk) := by rw [eσ_1_c _ (by first | omega | (simp only [vb] at *; omega))]; first | exact ht4001_σ | assumption
    have hcLR_σ_1 : LR 0 σ_1 nt g := by exact LR.fr hcLR_σ (fun a ha => eσ_1_c a (by first | omega | (simp only [vb] at *; omega)))
    have hcFR_σ_1 : ∀ a, ((a < 1056 + 528 * mk ∨ 1584 + 528 * mk ≤ a) ∧ a ≠ 4000 ∧ a ≠ 4001) → σ_1 a = σ a := by intro a ha; exact Eq.trans (b := σ a) (eσ_1_c a (by first | omega | (simp only [vb] at *; omega))) (hcFR_σ a ha)
    have hcVM_σ_1 : vw (1056 + 528 * mk) σ_1 = μ := eσ_1_a
    have hcLM_σ_1 : LR (1056 + 528 * mk) σ_1 nt g := eσ_1_b
    have hvσ_1 : vw 0 σ_1 = μ := by rw [vw_fr (σ := σ) (fun j _ _ => eσ_1_c _ (by first | omega | (simp only [vb] at *; omega)))]; first | exact hv | assumption
    refine g_aload_n h dX12_mark_31 0 rfl ?_
    refine g_dup h dX12_mark_32 rfl ?_
    refine g_geti h dX12_mark_33 gX12_284 sc_0 rfl ?_
    refine g_top (y := (nI mk)) (by first | exact ht4001_σ_1 | assumption) ?_
    refine g_iconst h dX12_mark_36 (by decide) ?_
    refine g_iaddN h dX12_mark_37  ?_
    refine g_puti h dX12_mark_38 pX12_284 sc_0 rfl ?_
    refine g_nm (fun σ_2 eσ_2 => ?_)
    have eσ_2 : σ_2 = upd σ_1 4001 (nI (mk + 1)) := eσ_2
    have ht4001_σ_2 : σ_2 4001 = (nI (mk + 1)) := by rw [eσ_2]; exact upd_eq
    have hcLR_σ_2 : LR 0 σ_2 nt g := by rw [eσ_2]; exact LR.fr hcLR_σ_1 (fun a ha => upd_ne (by first | omega | (simp only [vb] at *; omega)))
    have hcFR_σ_2 : ∀ a, ((a < 1056 + 528 * mk ∨ 1584 + 528 * mk ≤ a) ∧ a ≠ 4000 ∧ a ≠ 4001) → σ_2 a = σ a := by intro a ha; exact Eq.trans (b := σ_1 a) (by rw [eσ_2, upd_ne (by first | omega | (simp only [vb] at *; omega))]) (hcFR_σ_1 a ha)
    have hcVM_σ_2 : vw (1056 + 528 * mk) σ_2 = μ := by rw [eσ_2, vw_out (by omega)]; exact hcVM_σ_1
    have hcLM_σ_2 : LR (1056 + 528 * mk) σ_2 nt g := by rw [eσ_2]; exact LR.fr hcLM_σ_1 (fun a ha => upd_ne (by first | omega | (simp only [vb] at *; omega)))
    have hvσ_2 : vw 0 σ_2 = μ := by rw [eσ_2, vw_out (by omega)]; first | exact hvσ_1 | assumption
    refine g_aload_n h dX12_mark_41 0 rfl ?_
    refine g_aload_n h dX12_mark_42 0 rfl ?_
    refine g_geti h dX12_mark_43 gX12_284 sc_0 rfl ?_
    refine g_top (y := (nI (mk + 1))) (by first | exact ht4001_σ_2 | assumption) ?_
    refine g_cvi (rest := []) h (r_gives hW (nI (mk + 1)) ) lX12_gives mX12_281 (Nat.lt_of_lt_of_le (by decide) (Nat.le_refl _)) (by decide) sc_0 rfl rfl rfl rfl dX12_mark_46 (fun σ_3 eσ_3 => ?_)
    have eσ_3_a : σ_3 = upd σ_2 4000 (nI 0) := eσ_3
    have ht4001_σ_3 : σ_3 4001 = (nI (mk + 1)) := by rw [eσ_3_a, upd_ne (by first | omega | (simp only [vb] at *; omega))]; first | exact ht4001_σ_2 | assumption
    have ht4000_σ_3 : σ_3 4000 = (nI 0) := by rw [eσ_3_a]; exact upd_eq
    have hcLR_σ_3 : LR 0 σ_3 nt g := by rw [eσ_3_a]; exact LR.fr hcLR_σ_2 (fun a ha => upd_ne (by first | omega | (simp only [vb] at *; omega)))
    have hcFR_σ_3 : ∀ a, ((a < 1056 + 528 * mk ∨ 1584 + 528 * mk ≤ a) ∧ a ≠ 4000 ∧ a ≠ 4001) → σ_3 a = σ a := by intro a ha; exact Eq.trans (b := σ_2 a) (by rw [eσ_3_a, upd_ne (by first | omega | (simp only [vb] at *; omega))]) (hcFR_σ_2 a ha)
    have hcVM_σ_3 : vw (1056 + 528 * mk) σ_3 = μ := by rw [eσ_3_a, vw_out (by omega)]; exact hcVM_σ_2
    have hcLM_σ_3 : LR (1056 + 528 * mk) σ_3 nt g := by rw [eσ_3_a]; exact LR.fr hcLM_σ_2 (fun a ha => upd_ne (by first | omega | (simp only [vb] at *; omega)))
    have hvσ_3 : vw 0 σ_3 = μ := by rw [eσ_3_a, vw_out (by omega)]; first | exact hvσ_2 | assumption
    exact g_iret h hQ dX12_mark_49 (congrArg (fun z => some (Value.int z)) (show (an (if mk = 4 then 5 else 0) (nI (mk + 1))) = (nI (mk + 1)) by first | exact an_yes (by first | exact if_pos (by omega) | exact if_neg (by omega) | fail) rfl | exact an_no (k := 5) (by first | exact if_pos (by omega) | exact if_neg (by omega) | fail) (by decide) | fail)) (by exact ⟨(by exact tk_eq (k := 0) (by first | exact if_pos (by omega) | exact if_neg (by omega) | fail) ht4000_σ_3), (by first | exact mk_y (by omega) ht4001_σ_3 | exact mk_n (by omega) ht4001_σ_3 | fail | fail), (by first | exact fun _ => ⟨hcVM_σ_3, hcLM_σ_3⟩ | (intro q9; rw [if_pos (by omega)] at q9; cases q9) | fail | fail), (by exact hcFR_σ_3)⟩)
  ·
    refine g_aload_n h dX12_mark_8 0 rfl ?_
    refine g_iconst h dX12_mark_9 (by decide) ?_
    refine g_cvi (rest := []) h (r_refuse hW (nI 5) ) lX12_refuse mX12_272 (Nat.lt_of_lt_of_le (by decide) (Nat.le_refl _)) (by decide) sc_0 rfl rfl rfl rfl dX12_mark_10 (fun σ_4 eσ_4 => ?_)
    have eσ_4_a : σ_4 = upd σ 4000 (nI 5) := eσ_4
    have ht4001_σ_4 : σ_4 4001 = (nI mk) := by rw [eσ_4_a, upd_ne (by first | omega | (simp only [vb] at *; omega))]; first | exact ht4001_σ | assumption
    have ht4000_σ_4 : σ_4 4000 = (nI 5) := by rw [eσ_4_a]; exact upd_eq
    have hcLR_σ_4 : LR 0 σ_4 nt g := by rw [eσ_4_a]; exact LR.fr hcLR_σ (fun a ha => upd_ne (by first | omega | (simp only [vb] at *; omega)))
    have hcFR_σ_4 : ∀ a, ((a < 1056 + 528 * mk ∨ 1584 + 528 * mk ≤ a) ∧ a ≠ 4000 ∧ a ≠ 4001) → σ_4 a = σ a := by intro a ha; exact Eq.trans (b := σ a) (by rw [eσ_4_a, upd_ne (by first | omega | (simp only [vb] at *; omega))]) (hcFR_σ a ha)
    have hvσ_4 : vw 0 σ_4 = μ := by rw [eσ_4_a, vw_out (by omega)]; first | exact hv | assumption
    exact g_iret h hQ dX12_mark_13 (congrArg (fun z => some (Value.int z)) (show (an (if mk = 4 then 5 else 0) (nI (mk + 1))) = (-1) by first | exact an_yes (by first | exact if_pos (by omega) | exact if_neg (by omega) | fail) rfl | exact an_no (k := 5) (by first | exact if_pos (by omega) | exact if_neg (by omega) | fail) (by decide) | fail)) (by exact ⟨(by exact tk_eq (k := 5) (by first | exact if_pos (by omega) | exact if_neg (by omega) | fail) ht4000_σ_4), (by first | exact mk_y (by omega) ht4001_σ_4 | exact mk_n (by omega) ht4001_σ_4 | fail | fail), (by first | exact fun _ => ⟨hcVM_σ_4, hcLM_σ_4⟩ | (intro q9; rw [if_pos (by omega)] at q9; cases q9) | fail | fail), (by exact hcFR_σ_4)⟩)

set_option maxRecDepth 100000 in
set_option maxHeartbeats 4000000 in
theorem p_mark {l : Launch} {w : Wd} (hW : Wi w) {σ : Mem} (mq mk nt : Nat) (g : Nat → Nat → Int32) (μ μ1 : Nat → Int32) (hv : vw (vb 0) σ = μ) (hI : MI μ) (hw : vw (vb mq) σ = μ1) (hq : mq = 2 + mk) (hmk : mk ≤ 4) (hjz : jz μ) (hjz1 : mk < 4 → jz μ1) (ht14001_σ : σ 14001 = (nI mk)) (hcLD_σ : LC (vb 0) σ nt g) : MC l w qX11_mark 3 [.ref (w.1 12)] σ (some (.int (an (if mk = 4 then 5 else 0) (nI (mk + 1))))) (fun σ' => (σ' 14000 = (nI (if mk = 4 then 5 else 0))) ∧ (σ' 14001 = (nI (if (if mk = 4 then 5 else 0) = 0 then mk + 1 else mk))) ∧ ((if mk = 4 then 5 else 0) = 0 → vw (vb mq) σ' = μ ∧ LC (vb mq) σ' nt g) ∧ (∀ a, ((a < vb mq ∨ vb mq + 528 ≤ a) ∧ a ≠ 14000 ∧ a ≠ 14001) → σ' a = σ a)) := by
  refine MC.of hW (by decide +kernel) (Nat.le_of_ble_eq_true rfl) (fun X h hQ hnm => ?_)
  have h : Fx X w cX11_mark 1 RX11 3 := h
  have hQ : Qx X w (some .int) (some (.int (an (if mk = 4 then 5 else 0) (nI (mk + 1))))) (fun σ' => (σ' 14000 = (nI (if mk = 4 then 5 else 0))) ∧ (σ' 14001 = (nI (if (if mk = 4 then 5 else 0) = 0 then mk + 1 else mk))) ∧ ((if mk = 4 then 5 else 0) = 0 → vw (vb mq) σ' = μ ∧ LC (vb mq) σ' nt g) ∧ (∀ a, ((a < vb mq ∨ vb mq + 528 ≤ a) ∧ a ≠ 14000 ∧ a ≠ 14001) → σ' a = σ a)) := hQ
  have hN8 := mi_8 hI
  have hvb0 : vb 0 = 10000 := rfl
  have hvbq : vb mq = 10000 + 528 * mq := rfl
  have hcFR_σ : ∀ a, ((a < vb mq ∨ vb mq + 528 ≤ a) ∧ a ≠ 14000 ∧ a ≠ 14001) → σ a = σ a := fun _ _ => rfl
  show G X w 1 0 [(0, .ref (w.1 12))] [] σ
  refine g_aload_n h dX11_mark_0 0 rfl ?_
  refine g_aload_n h dX11_mark_1 0 rfl ?_
  refine g_geti h dX11_mark_2 gX11_150 sc_12 rfl ?_
  refine g_top (y := (nI mk)) (by first | exact ht14001_σ | assumption) ?_
  refine g_iconst h dX11_mark_5 (by decide) ?_
  refine g_icmpN_lt h dX11_mark_6 (by omega) (by omega) (fun c6 => ?_) (fun c6 => ?_)
  ·
    refine g_iconst h dX11_mark_13 (by decide) ?_
    refine g_cvi (rest := []) h (c_fails hW 0 (by repeat (first | omega | exact rg_lt | exact ns_lt | exact ps_lt | exact gst_lt | exact ofS_lt | exact if_lt (by decide) (by decide) | apply fo_lt))) lX11_fails mX11_106 (Nat.lt_of_lt_of_le (by decide) (Nat.le_refl _)) (by decide) sc_12 rfl rfl rfl rfl dX11_mark_14 (fun σ_1 eσ_1 => ?_)
    obtain ⟨eσ_1_a, eσ_1_b⟩ := eσ_1
    have eσ_1_a : σ_1 14000 = (nI 0) := eσ_1_a
    have eσ_1_b : ∀ a, (a ≠ 14000) → σ_1 a = σ a := eσ_1_b
    have ht14001_σ_1 : σ_1 14001 = (nI mk) := by rw [eσ_1_b _ (by first | omega | (simp only [vb] at *; omega))]; first | exact ht14001_σ | assumption
    have ht14000_σ_1 : σ_1 14000 = (nI 0) := eσ_1_a
    have hcLD_σ_1 : LC (vb 0) σ_1 nt g := by exact LC.fr hcLD_σ (fun a ha hb => eσ_1_b a (by first | omega | (simp only [vb] at *; omega)))
    have hcFR_σ_1 : ∀ a, ((a < vb mq ∨ vb mq + 528 ≤ a) ∧ a ≠ 14000 ∧ a ≠ 14001) → σ_1 a = σ a := by intro a ha; exact Eq.trans (b := σ a) (eσ_1_b a (by first | omega | (simp only [vb] at *; omega))) (hcFR_σ a ha)
    have hvσ_1 : vw (vb 0) σ_1 = μ := by rw [vw_fr (σ := σ) (fun j _ _ => eσ_1_b _ (by first | omega | (simp only [vb] at *; omega)))]; first | exact hv | assumption
    have hwσ_1 : vw (vb mq) σ_1 = μ1 := by rw [vw_fr (σ := σ) (fun j _ _ => eσ_1_b _ (by first | omega | (simp only [vb] at *; omega)))]; first | exact hw | assumption
    refine g_top (y := nI 0) rfl ?_
    refine g_ifN_eq h dX11_mark_17 (by decide) (fun c17 => ?_) (fun c17 => absurd c17 (by decide))
    refine g_aload_n h dX11_mark_22 0 rfl ?_
    refine g_getr h dX11_mark_23 gX11_30 sc_12 rfl ?_
    refine g_aload_n h dX11_mark_26 0 rfl ?_
    refine g_geti h dX11_mark_27 gX11_150 sc_12 rfl ?_
    refine g_top (y := (nI mk)) (by first | exact ht14001_σ_1 | assumption) ?_
    refine g_aald h dX11_mark_30 sc_14 (by omega) ?_
    show G X w 1 31 [(0, .ref (w.1 12))] [.ref (w.1 (mc (2 + mk) 0))] σ_1
    rw [← hq]
    refine g_aload_n h dX11_mark_31 0 rfl ?_
    refine g_getr h dX11_mark_32 gX11_23 sc_12 rfl ?_
    refine g_cvv (rest := []) h (c_become hW nt g mq 0 μ1 μ (by first | omega | decide | fail) (by first | omega | decide | fail) (by first | omega | decide | fail) (by assumption) (by assumption) (by intro a h1 h2; rw [hjz a h1 h2]; exact hjz1 (by omega) a h1 h2) (by first | exact hcLD_σ_1 | assumption | fail)) lX5_become mX11_116 (Nat.lt_of_lt_of_le (by decide) (Nat.le_refl _)) (by decide) (sM_0 (m := mq) (by omega)) rfl rfl rfl rfl dX11_mark_35 (fun σ_2 eσ_2 => ?_)
    obtain ⟨eσ_2_a, eσ_2_b, eσ_2_c, eσ_2_d⟩ := eσ_2
    have eσ_2_a : vw (vb mq) σ_2 = μ := eσ_2_a
    have eσ_2_b : LC (vb 0) σ_2 nt g := eσ_2_b
    have eσ_2_c : LC (vb mq) σ_2 nt g := eσ_2_c
    have eσ_2_d : ∀ a, (a < vb mq ∨ vb mq + 528 ≤ a) → σ_2 a = σ_1 a := eσ_2_d
    have ht14001_σ_2 : σ_2 14001 = (nI mk) := by rw [eσ_2_d _ (by first | omega | (simp only [vb] at *; omega))]; first | exact ht14001_σ_1 | assumption
    have ht14000_σ_2 : σ_2 14000 = (nI 0) := by rw [eσ_2_d _ (by first | omega | (simp only [vb] at *; omega))]; first | exact ht14000_σ_1 | assumption
    have hcLD_σ_2 : LC (vb 0) σ_2 nt g := eσ_2_b
    have hcFR_σ_2 : ∀ a, ((a < vb mq ∨ vb mq + 528 ≤ a) ∧ a ≠ 14000 ∧ a ≠ 14001) → σ_2 a = σ a := by intro a ha; exact Eq.trans (b := σ_1 a) (eσ_2_d a (by first | omega | (simp only [vb] at *; omega))) (hcFR_σ_1 a ha)
    have hcLC_σ_2 : LC (vb mq) σ_2 nt g := eσ_2_c
    have hvσ_2 : vw (vb 0) σ_2 = μ := by rw [vw_fr (σ := σ_1) (fun j _ _ => eσ_2_d _ (by first | omega | (simp only [vb] at *; omega)))]; first | exact hvσ_1 | assumption
    obtain ⟨μk, eμk⟩ : ∃ μk : Nat → Int32, μk = μ := ⟨_, rfl⟩
    have hwσ_2 : vw (vb mq) σ_2 = μk := by rw [eμk]; exact eσ_2_a
    refine g_aload_n h dX11_mark_38 0 rfl ?_
    refine g_dup h dX11_mark_39 rfl ?_
    refine g_geti h dX11_mark_40 gX11_150 sc_12 rfl ?_
    refine g_top (y := (nI mk)) (by first | exact ht14001_σ_2 | assumption) ?_
    refine g_iconst h dX11_mark_43 (by decide) ?_
    refine g_iaddN h dX11_mark_44  ?_
    refine g_puti h dX11_mark_45 pX11_150 sc_12 rfl ?_
    refine g_nm (fun σ_3 eσ_3 => ?_)
    have eσ_3 : σ_3 = upd σ_2 14001 (nI (mk + 1)) := eσ_3
    have ht14001_σ_3 : σ_3 14001 = (nI (mk + 1)) := by rw [eσ_3]; exact upd_eq
    have ht14000_σ_3 : σ_3 14000 = (nI 0) := by rw [eσ_3, upd_ne (by first | omega | (simp only [vb] at *; omega))]; first | exact ht14000_σ_2 | assumption
    have hcLD_σ_3 : LC (vb 0) σ_3 nt g := by rw [eσ_3]; exact LC.fr hcLD_σ_2 (fun a ha hb => upd_ne (by first | omega | (simp only [vb] at *; omega)))
    have hcFR_σ_3 : ∀ a, ((a < vb mq ∨ vb mq + 528 ≤ a) ∧ a ≠ 14000 ∧ a ≠ 14001) → σ_3 a = σ a := by intro a ha; exact Eq.trans (b := σ_2 a) (by rw [eσ_3, upd_ne (by first | omega | (simp only [vb] at *; omega))]) (hcFR_σ_2 a ha)
    have hcLC_σ_3 : LC (vb mq) σ_3 nt g := by rw [eσ_3]; exact LC.fr hcLC_σ_2 (fun a ha hb => upd_ne (by first | omega | (simp only [vb] at *; omega)))
    have hvσ_3 : vw (vb 0) σ_3 = μ := by rw [eσ_3, vw_out (by first | omega | (simp only [vb] at *; omega))]; first | exact hvσ_2 | assumption
    have hwσ_3 : vw (vb mq) σ_3 = μk := by rw [eσ_3, vw_out (by first | omega | (simp only [vb] at *; omega))]; first | exact hwσ_2 | assumption
    refine g_aload_n h dX11_mark_48 0 rfl ?_
    refine g_geti h dX11_mark_49 gX11_150 sc_12 rfl ?_
    refine g_top (y := (nI (mk + 1))) (by first | exact ht14001_σ_3 | assumption) ?_
    exact g_iret h hQ dX11_mark_52 (congrArg (fun z => some (Value.int z)) (show (an (if mk = 4 then 5 else 0) (nI (mk + 1))) = (nI (mk + 1)) by first | exact an_yes (by first | exact if_pos (by omega) | exact if_neg (by omega) | fail) rfl | exact an_no (k := 5) (by first | exact if_pos (by omega) | exact if_neg (by omega) | fail) (by decide) | fail)) (by exact ⟨(by first | exact tk_eq (k := 0) (by first | exact if_pos (by omega) | exact if_neg (by omega) | fail) ht14000_σ_3 | fail), (by first | exact mk_y (by omega) ht14001_σ_3 | exact mk_n (by omega) ht14001_σ_3 | fail | fail), (by first | exact fun _ => ⟨by rw [hwσ_3, eμk], hcLC_σ_3⟩ | (intro q9; rw [if_pos (by omega)] at q9; cases q9) | fail | fail), (by exact hcFR_σ_3)⟩)
  ·
    refine g_iconst h dX11_mark_9 (by decide) ?_
    refine g_goto h dX11_mark_10 ?_
    refine g_cvi (rest := []) h (c_fails hW 5 (by repeat (first | omega | exact rg_lt | exact ns_lt | exact ps_lt | exact gst_lt | exact ofS_lt | exact if_lt (by decide) (by decide) | apply fo_lt))) lX11_fails mX11_106 (Nat.lt_of_lt_of_le (by decide) (Nat.le_refl _)) (by decide) sc_12 rfl rfl rfl rfl dX11_mark_14 (fun σ_4 eσ_4 => ?_)
    obtain ⟨eσ_4_a, eσ_4_b⟩ := eσ_4
    have eσ_4_a : σ_4 14000 = (nI 5) := eσ_4_a
    have eσ_4_b : ∀ a, (a ≠ 14000) → σ_4 a = σ a := eσ_4_b
    have ht14001_σ_4 : σ_4 14001 = (nI mk) := by rw [eσ_4_b _ (by first | omega | (simp only [vb] at *; omega))]; first | exact ht14001_σ | assumption
    have ht14000_σ_4 : σ_4 14000 = (nI 5) := eσ_4_a
    have hcLD_σ_4 : LC (vb 0) σ_4 nt g := by exact LC.fr hcLD_σ (fun a ha hb => eσ_4_b a (by first | omega | (simp only [vb] at *; omega)))
    have hcFR_σ_4 : ∀ a, ((a < vb mq ∨ vb mq + 528 ≤ a) ∧ a ≠ 14000 ∧ a ≠ 14001) → σ_4 a = σ a := by intro a ha; exact Eq.trans (b := σ a) (eσ_4_b a (by first | omega | (simp only [vb] at *; omega))) (hcFR_σ a ha)
    have hvσ_4 : vw (vb 0) σ_4 = μ := by rw [vw_fr (σ := σ) (fun j _ _ => eσ_4_b _ (by first | omega | (simp only [vb] at *; omega)))]; first | exact hv | assumption
    have hwσ_4 : vw (vb mq) σ_4 = μ1 := by rw [vw_fr (σ := σ) (fun j _ _ => eσ_4_b _ (by first | omega | (simp only [vb] at *; omega)))]; first | exact hw | assumption
    refine g_top (y := nI 1) rfl ?_
    refine g_ifN_eq h dX11_mark_17 (by decide) (fun c17 => absurd c17 (by decide)) (fun c17 => ?_)
    refine g_iconstv h dX11_mark_20 (v := (-1)) (by decide) ?_
    exact g_iret h hQ dX11_mark_21 (congrArg (fun z => some (Value.int z)) (show (an (if mk = 4 then 5 else 0) (nI (mk + 1))) = (-1) by first | exact an_yes (by first | exact if_pos (by omega) | exact if_neg (by omega) | fail) rfl | exact an_no (k := 5) (by first | exact if_pos (by omega) | exact if_neg (by omega) | fail) (by decide) | fail)) (by exact ⟨(by first | exact tk_eq (k := 5) (by first | exact if_pos (by omega) | exact if_neg (by omega) | fail) ht14000_σ_4 | fail), (by first | exact mk_y (by omega) ht14001_σ_4 | exact mk_n (by omega) ht14001_σ_4 | fail | fail), (by first | exact fun _ => ⟨by rw [hwσ_4, eμk], hcLC_σ_4⟩ | (intro q9; rw [if_pos (by omega)] at q9; cases q9) | fail | fail), (by exact hcFR_σ_4)⟩)

theorem lr_y2 {b mk nt nt1 : Nat} {g g1 : Nat → Nat → Int32} {σ : Mem} (h : mk ≠ 0) (hL : LR b σ nt1 g1) : LR b σ (if (if mk = 0 then 7 else 0) = 0 then nt1 else nt) (if (if mk = 0 then 7 else 0) = 0 then g1 else g) := by
  rw [if_neg h, if_pos rfl, if_pos rfl]
  exact hL
theorem lr_n2 {b mk nt nt1 : Nat} {g g1 : Nat → Nat → Int32} {σ : Mem} (h : mk = 0) (hL : LR b σ nt g) : LR b σ (if (if mk = 0 then 7 else 0) = 0 then nt1 else nt) (if (if mk = 0 then 7 else 0) = 0 then g1 else g) := by
  rw [if_pos h, if_neg (by decide), if_neg (by decide)]
  exact hL
theorem lc_y2 {b mk nt nt1 : Nat} {g g1 : Nat → Nat → Int32} {σ : Mem} (h : mk ≠ 0) (hL : LC b σ nt1 g1) : LC b σ (if (if mk = 0 then 7 else 0) = 0 then nt1 else nt) (if (if mk = 0 then 7 else 0) = 0 then g1 else g) := by
  rw [if_neg h, if_pos rfl, if_pos rfl]
  exact hL
theorem lc_n2 {b mk nt nt1 : Nat} {g g1 : Nat → Nat → Int32} {σ : Mem} (h : mk = 0) (hL : LC b σ nt g) : LC b σ (if (if mk = 0 then 7 else 0) = 0 then nt1 else nt) (if (if mk = 0 then 7 else 0) = 0 then g1 else g) := by
  rw [if_pos h, if_neg (by decide), if_neg (by decide)]
  exact hL
theorem m7_y {mk : Nat} (h : mk ≠ 0) : (if mk = 0 then 7 else 0) = 0 := if_neg h
theorem m7_n {mk : Nat} (h : mk = 0) : (if mk = 0 then 7 else 0) = 7 := if_pos h

set_option maxRecDepth 100000 in
set_option maxHeartbeats 4000000 in
theorem q_back {l : Launch} {w : Wd} (hW : Wi w) {σ : Mem} (mk nt nt1 : Nat) (g g1 : Nat → Nat → Int32) (μ μ1 : Nat → Int32) (hv : vw 0 σ = μ) (hI : MI μ) (hmk : mk ≤ 4) (ht4001_σ : σ 4001 = (nI mk)) (hcLR_σ : LR 0 σ nt g) (hcVM_σ : vw (1056 + 528 * (mk - 1)) σ = μ1) (hcLM_σ : LR (1056 + 528 * (mk - 1)) σ nt1 g1) : MC l w qX12_back 1 [.ref (w.1 0)] σ (some (.int (an (if mk = 0 then 7 else 0) (nI (mk - 1))))) (fun σ' => (vw 0 σ' = pk0 (if mk = 0 then 7 else 0) μ1 μ) ∧ (σ' 4000 = (nI (if mk = 0 then 7 else 0))) ∧ (σ' 4001 = (nI (mk - 1))) ∧ (LR 0 σ' (if (if mk = 0 then 7 else 0) = 0 then nt1 else nt) (if (if mk = 0 then 7 else 0) = 0 then g1 else g)) ∧ (∀ a, (528 ≤ a ∧ a ≠ 4000 ∧ a ≠ 4001) → σ' a = σ a)) := by
  refine MC.of hW (by decide +kernel) (Nat.le_of_ble_eq_true rfl) (fun X h hQ hnm => ?_)
  have h : Fx X w cX12_back 1 RX12 1 := h
  have hQ : Qx X w (some .int) (some (.int (an (if mk = 0 then 7 else 0) (nI (mk - 1))))) (fun σ' => (vw 0 σ' = pk0 (if mk = 0 then 7 else 0) μ1 μ) ∧ (σ' 4000 = (nI (if mk = 0 then 7 else 0))) ∧ (σ' 4001 = (nI (mk - 1))) ∧ (LR 0 σ' (if (if mk = 0 then 7 else 0) = 0 then nt1 else nt) (if (if mk = 0 then 7 else 0) = 0 then g1 else g)) ∧ (∀ a, (528 ≤ a ∧ a ≠ 4000 ∧ a ≠ 4001) → σ' a = σ a)) := hQ
  have hN8 := mi_8 hI
  have hcFR_σ : ∀ a, (528 ≤ a ∧ a ≠ 4000 ∧ a ≠ 4001) → σ a = σ a := fun _ _ => rfl
  show G X w 1 0 [(0, .ref (w.1 0))] [] σ
  refine g_aload_n h dX12_back_0 0 rfl ?_
  refine g_geti h dX12_back_1 gX12_284 sc_0 rfl ?_
  refine g_top (y := (nI mk)) (by first | exact ht4001_σ | assumption) ?_
  refine g_ifN_ne h dX12_back_4 (by omega) (fun c4 => ?_) (fun c4 => ?_)
  ·
    refine g_aload_n h dX12_back_14 0 rfl ?_
    refine g_dup h dX12_back_15 rfl ?_
    refine g_geti h dX12_back_16 gX12_284 sc_0 rfl ?_
    refine g_top (y := (nI mk)) (by first | exact ht4001_σ | assumption) ?_
    refine g_iconst h dX12_back_19 (by decide) ?_
    refine g_isubN h dX12_back_20 (by omega) ?_
    refine g_puti h dX12_back_21 pX12_284 sc_0 rfl ?_
    refine g_nm (fun σ_1 eσ_1 => ?_)
    have eσ_1 : σ_1 = upd σ 4001 (nI (mk - 1)) := eσ_1
    have ht4001_σ_1 : σ_1 4001 = (nI (mk - 1)) := by rw [eσ_1]; exact upd_eq
    have hcLR_σ_1 : LR 0 σ_1 nt g := by rw [eσ_1]; exact LR.fr hcLR_σ (fun a ha => upd_ne (by first | omega | (simp only [vb] at *; omega)))
    have hcVM_σ_1 : vw (1056 + 528 * (mk - 1)) σ_1 = μ1 := by rw [eσ_1, vw_out (by omega)]; exact hcVM_σ
    have hcLM_σ_1 : LR (1056 + 528 * (mk - 1)) σ_1 nt1 g1 := by rw [eσ_1]; exact LR.fr hcLM_σ (fun a ha => upd_ne (by first | omega | (simp only [vb] at *; omega)))
    have hcFR_σ_1 : ∀ a, (528 ≤ a ∧ a ≠ 4000 ∧ a ≠ 4001) → σ_1 a = σ a := by intro a ha; exact Eq.trans (b := σ a) (by rw [eσ_1, upd_ne (by first | omega | (simp only [vb] at *; omega))]) (hcFR_σ a ha)
    have hvσ_1 : vw 0 σ_1 = μ := by rw [eσ_1, vw_out (by omega)]; first | exact hv | assumption
    refine g_aload_n h dX12_back_24 0 rfl ?_
    refine g_sipush h dX12_back_25 (by decide) ?_
    refine g_sipush h dX12_back_28 (by decide) ?_
    refine g_aload_n h dX12_back_31 0 rfl ?_
    refine g_geti h dX12_back_32 gX12_284 sc_0 rfl ?_
    refine g_top (y := (nI (mk - 1))) (by first | exact ht4001_σ_1 | assumption) ?_
    refine g_imulN h dX12_back_35  ?_
    refine g_iaddN h dX12_back_36  ?_
    refine g_iconst h dX12_back_37 (by decide) ?_
    refine g_cvv (rest := []) h (r_restM hW (mk - 1) nt1 g1 μ1 (by omega) (by exact hcVM_σ_1) (by exact hcLM_σ_1)) lX12_copies mX12_275 (Nat.lt_of_lt_of_le (by decide) (Nat.le_refl _)) (by decide) sc_0 rfl rfl rfl rfl dX12_back_38 (fun σ_2 eσ_2 => ?_)
    obtain ⟨eσ_2_a, eσ_2_b, eσ_2_c⟩ := eσ_2
    have eσ_2_a : vw 0 σ_2 = μ1 := eσ_2_a
    have eσ_2_b : LR 0 σ_2 nt1 g1 := eσ_2_b
    have eσ_2_c : ∀ a, (528 ≤ a) → σ_2 a = σ_1 a := eσ_2_c
    have ht4001_σ_2 : σ_2 4001 = (nI (mk - 1)) := by rw [eσ_2_c _ (by first | omega | (simp only [vb] at *; omega))]; first | exact ht4001_σ_1 | assumption
    have hcVM_σ_2 : vw (1056 + 528 * (mk - 1)) σ_2 = μ1 := by rw [vw_fr (fun j _ _ => eσ_2_c _ (by omega))]; exact hcVM_σ_1
    have hcLM_σ_2 : LR (1056 + 528 * (mk - 1)) σ_2 nt1 g1 := by exact LR.fr hcLM_σ_1 (fun a ha => eσ_2_c a (by first | omega | (simp only [vb] at *; omega)))
    have hcFR_σ_2 : ∀ a, (528 ≤ a ∧ a ≠ 4000 ∧ a ≠ 4001) → σ_2 a = σ a := by intro a ha; exact Eq.trans (b := σ_1 a) (eσ_2_c a (by first | omega | (simp only [vb] at *; omega))) (hcFR_σ_1 a ha)
    have hcLR_σ_2 : LR 0 σ_2 nt1 g1 := eσ_2_b
    obtain ⟨μk, eμk⟩ : ∃ μk : Nat → Int32, μk = μ1 := ⟨_, rfl⟩
    have hvσ_2 : vw 0 σ_2 = μk := by rw [eμk]; exact eσ_2_a
    refine g_aload_n h dX12_back_41 0 rfl ?_
    refine g_aload_n h dX12_back_42 0 rfl ?_
    refine g_geti h dX12_back_43 gX12_284 sc_0 rfl ?_
    refine g_top (y := (nI (mk - 1))) (by first | exact ht4001_σ_2 | assumption) ?_
    refine g_cvi (rest := []) h (r_gives hW (nI (mk - 1)) ) lX12_gives mX12_281 (Nat.lt_of_lt_of_le (by decide) (Nat.le_refl _)) (by decide) sc_0 rfl rfl rfl rfl dX12_back_46 (fun σ_3 eσ_3 => ?_)
    have eσ_3_a : σ_3 = upd σ_2 4000 (nI 0) := eσ_3
    have ht4001_σ_3 : σ_3 4001 = (nI (mk - 1)) := by rw [eσ_3_a, upd_ne (by first | omega | (simp only [vb] at *; omega))]; first | exact ht4001_σ_2 | assumption
    have ht4000_σ_3 : σ_3 4000 = (nI 0) := by rw [eσ_3_a]; exact upd_eq
    have hcVM_σ_3 : vw (1056 + 528 * (mk - 1)) σ_3 = μ1 := by rw [eσ_3_a, vw_out (by omega)]; exact hcVM_σ_2
    have hcLM_σ_3 : LR (1056 + 528 * (mk - 1)) σ_3 nt1 g1 := by rw [eσ_3_a]; exact LR.fr hcLM_σ_2 (fun a ha => upd_ne (by first | omega | (simp only [vb] at *; omega)))
    have hcFR_σ_3 : ∀ a, (528 ≤ a ∧ a ≠ 4000 ∧ a ≠ 4001) → σ_3 a = σ a := by intro a ha; exact Eq.trans (b := σ_2 a) (by rw [eσ_3_a, upd_ne (by first | omega | (simp only [vb] at *; omega))]) (hcFR_σ_2 a ha)
    have hcLR_σ_3 : LR 0 σ_3 nt1 g1 := by rw [eσ_3_a]; exact LR.fr hcLR_σ_2 (fun a ha => upd_ne (by first | omega | (simp only [vb] at *; omega)))
    have hvσ_3 : vw 0 σ_3 = μk := by rw [eσ_3_a, vw_out (by omega)]; first | exact hvσ_2 | assumption
    exact g_iret h hQ dX12_back_49 (congrArg (fun z => some (Value.int z)) (show (an (if mk = 0 then 7 else 0) (nI (mk - 1))) = (nI (mk - 1)) by first | exact an_yes (by first | exact m7_y (by omega) | exact m7_n (by omega) | fail) rfl | exact an_no (k := 7) (by first | exact m7_y (by omega) | exact m7_n (by omega) | fail) (by decide) | fail)) (by exact ⟨(by first | exact pk_yes (m7_y (by omega)) (by rw [hvσ_3, eμk]) | exact pk_no (m7_n (by omega)) (by decide) hvσ_3 | fail | fail), (by exact tk_eq (k := 0) (by first | exact m7_y (by omega) | exact m7_n (by omega) | fail) ht4000_σ_3), (by first | exact ht4001_σ_3 | (rw [show mk - 1 = mk from by omega]; exact ht4001_σ_3) | fail | fail), (by first | exact lr_y2 (by omega) hcLR_σ_3 | exact lr_n2 (by omega) hcLR_σ_3 | fail | fail), (by exact hcFR_σ_3)⟩)
  ·
    refine g_aload_n h dX12_back_7 0 rfl ?_
    refine g_bipush h dX12_back_8 (by decide) ?_
    refine g_cvi (rest := []) h (r_refuse hW (nI 7) ) lX12_refuse mX12_272 (Nat.lt_of_lt_of_le (by decide) (Nat.le_refl _)) (by decide) sc_0 rfl rfl rfl rfl dX12_back_10 (fun σ_4 eσ_4 => ?_)
    have eσ_4_a : σ_4 = upd σ 4000 (nI 7) := eσ_4
    have ht4001_σ_4 : σ_4 4001 = (nI mk) := by rw [eσ_4_a, upd_ne (by first | omega | (simp only [vb] at *; omega))]; first | exact ht4001_σ | assumption
    have ht4000_σ_4 : σ_4 4000 = (nI 7) := by rw [eσ_4_a]; exact upd_eq
    have hcLR_σ_4 : LR 0 σ_4 nt g := by rw [eσ_4_a]; exact LR.fr hcLR_σ (fun a ha => upd_ne (by first | omega | (simp only [vb] at *; omega)))
    have hcVM_σ_4 : vw (1056 + 528 * (mk - 1)) σ_4 = μ1 := by rw [eσ_4_a, vw_out (by omega)]; exact hcVM_σ
    have hcLM_σ_4 : LR (1056 + 528 * (mk - 1)) σ_4 nt1 g1 := by rw [eσ_4_a]; exact LR.fr hcLM_σ (fun a ha => upd_ne (by first | omega | (simp only [vb] at *; omega)))
    have hcFR_σ_4 : ∀ a, (528 ≤ a ∧ a ≠ 4000 ∧ a ≠ 4001) → σ_4 a = σ a := by intro a ha; exact Eq.trans (b := σ a) (by rw [eσ_4_a, upd_ne (by first | omega | (simp only [vb] at *; omega))]) (hcFR_σ a ha)
    have hvσ_4 : vw 0 σ_4 = μ := by rw [eσ_4_a, vw_out (by omega)]; first | exact hv | assumption
    exact g_iret h hQ dX12_back_13 (congrArg (fun z => some (Value.int z)) (show (an (if mk = 0 then 7 else 0) (nI (mk - 1))) = (-1) by first | exact an_yes (by first | exact m7_y (by omega) | exact m7_n (by omega) | fail) rfl | exact an_no (k := 7) (by first | exact m7_y (by omega) | exact m7_n (by omega) | fail) (by decide) | fail)) (by exact ⟨(by first | exact pk_yes (m7_y (by omega)) (by rw [hvσ_4, eμk]) | exact pk_no (m7_n (by omega)) (by decide) hvσ_4 | fail | fail), (by exact tk_eq (k := 7) (by first | exact m7_y (by omega) | exact m7_n (by omega) | fail) ht4000_σ_4), (by first | exact ht4001_σ_4 | (rw [show mk - 1 = mk from by omega]; exact ht4001_σ_4) | fail | fail), (by first | exact lr_y2 (by omega) hcLR_σ_4 | exact lr_n2 (by omega) hcLR_σ_4 | fail | fail), (by exact hcFR_σ_4)⟩)

set_option maxRecDepth 100000 in
set_option maxHeartbeats 4000000 in
theorem p_back {l : Launch} {w : Wd} (hW : Wi w) {σ : Mem} (mq mk nt nt1 : Nat) (g g1 : Nat → Nat → Int32) (μ μ1 : Nat → Int32) (hv : vw (vb 0) σ = μ) (hI : MI μ) (hw : vw (vb mq) σ = μ1) (hq : mq = 2 + (mk - 1)) (hmk : mk ≤ 4) (hjz : jz μ) (hjz1 : jz μ1) (ht14001_σ : σ 14001 = (nI mk)) (hcLQ_σ : LC (vb 0) σ nt g) (hcLD_σ : LC (vb mq) σ nt1 g1) : MC l w qX11_back 3 [.ref (w.1 12)] σ (some (.int (an (if mk = 0 then 7 else 0) (nI (mk - 1))))) (fun σ' => (vw (vb 0) σ' = pk0 (if mk = 0 then 7 else 0) μ1 μ) ∧ (σ' 14000 = (nI (if mk = 0 then 7 else 0))) ∧ (σ' 14001 = (nI (mk - 1))) ∧ (LC (vb 0) σ' (if (if mk = 0 then 7 else 0) = 0 then nt1 else nt) (if (if mk = 0 then 7 else 0) = 0 then g1 else g)) ∧ (∀ a, ((a < 10000 ∨ 10528 ≤ a) ∧ a ≠ 14000 ∧ a ≠ 14001) → σ' a = σ a)) := by
  refine MC.of hW (by decide +kernel) (Nat.le_of_ble_eq_true rfl) (fun X h hQ hnm => ?_)
  have h : Fx X w cX11_back 1 RX11 3 := h
  have hQ : Qx X w (some .int) (some (.int (an (if mk = 0 then 7 else 0) (nI (mk - 1))))) (fun σ' => (vw (vb 0) σ' = pk0 (if mk = 0 then 7 else 0) μ1 μ) ∧ (σ' 14000 = (nI (if mk = 0 then 7 else 0))) ∧ (σ' 14001 = (nI (mk - 1))) ∧ (LC (vb 0) σ' (if (if mk = 0 then 7 else 0) = 0 then nt1 else nt) (if (if mk = 0 then 7 else 0) = 0 then g1 else g)) ∧ (∀ a, ((a < 10000 ∨ 10528 ≤ a) ∧ a ≠ 14000 ∧ a ≠ 14001) → σ' a = σ a)) := hQ
  have hN8 := mi_8 hI
  have hvb0 : vb 0 = 10000 := rfl
  have hvbq : vb mq = 10000 + 528 * mq := rfl
  have hcFR_σ : ∀ a, ((a < 10000 ∨ 10528 ≤ a) ∧ a ≠ 14000 ∧ a ≠ 14001) → σ a = σ a := fun _ _ => rfl
  show G X w 1 0 [(0, .ref (w.1 12))] [] σ
  refine g_aload_n h dX11_back_0 0 rfl ?_
  refine g_aload_n h dX11_back_1 0 rfl ?_
  refine g_geti h dX11_back_2 gX11_150 sc_12 rfl ?_
  refine g_top (y := (nI mk)) (by first | exact ht14001_σ | assumption) ?_
  refine g_ifN_gt h dX11_back_5 (by omega) (fun c5 => ?_) (fun c5 => ?_)
  ·
    refine g_iconst h dX11_back_13 (by decide) ?_
    refine g_cvi (rest := []) h (c_fails hW 0 (by repeat (first | omega | exact rg_lt | exact ns_lt | exact ps_lt | exact gst_lt | exact ofS_lt | exact if_lt (by decide) (by decide) | apply fo_lt))) lX11_fails mX11_106 (Nat.lt_of_lt_of_le (by decide) (Nat.le_refl _)) (by decide) sc_12 rfl rfl rfl rfl dX11_back_14 (fun σ_1 eσ_1 => ?_)
    obtain ⟨eσ_1_a, eσ_1_b⟩ := eσ_1
    have eσ_1_a : σ_1 14000 = (nI 0) := eσ_1_a
    have eσ_1_b : ∀ a, (a ≠ 14000) → σ_1 a = σ a := eσ_1_b
    have ht14001_σ_1 : σ_1 14001 = (nI mk) := by rw [eσ_1_b _ (by first | omega | (simp only [vb] at *; omega))]; first | exact ht14001_σ | assumption
    have ht14000_σ_1 : σ_1 14000 = (nI 0) := eσ_1_a
    have hcLQ_σ_1 : LC (vb 0) σ_1 nt g := by exact LC.fr hcLQ_σ (fun a ha hb => eσ_1_b a (by first | omega | (simp only [vb] at *; omega)))
    have hcLD_σ_1 : LC (vb mq) σ_1 nt1 g1 := by exact LC.fr hcLD_σ (fun a ha hb => eσ_1_b a (by first | omega | (simp only [vb] at *; omega)))
    have hcFR_σ_1 : ∀ a, ((a < 10000 ∨ 10528 ≤ a) ∧ a ≠ 14000 ∧ a ≠ 14001) → σ_1 a = σ a := by intro a ha; exact Eq.trans (b := σ a) (eσ_1_b a (by first | omega | (simp only [vb] at *; omega))) (hcFR_σ a ha)
    have hvσ_1 : vw (vb 0) σ_1 = μ := by rw [vw_fr (σ := σ) (fun j _ _ => eσ_1_b _ (by first | omega | (simp only [vb] at *; omega)))]; first | exact hv | assumption
    have hwσ_1 : vw (vb mq) σ_1 = μ1 := by rw [vw_fr (σ := σ) (fun j _ _ => eσ_1_b _ (by first | omega | (simp only [vb] at *; omega)))]; first | exact hw | assumption
    refine g_top (y := nI 0) rfl ?_
    refine g_ifN_eq h dX11_back_17 (by decide) (fun c17 => ?_) (fun c17 => absurd c17 (by decide))
    refine g_aload_n h dX11_back_22 0 rfl ?_
    refine g_dup h dX11_back_23 rfl ?_
    refine g_geti h dX11_back_24 gX11_150 sc_12 rfl ?_
    refine g_top (y := (nI mk)) (by first | exact ht14001_σ_1 | assumption) ?_
    refine g_iconst h dX11_back_27 (by decide) ?_
    refine g_isubN h dX11_back_28 (by omega) ?_
    refine g_puti h dX11_back_29 pX11_150 sc_12 rfl ?_
    refine g_nm (fun σ_2 eσ_2 => ?_)
    have eσ_2 : σ_2 = upd σ_1 14001 (nI (mk - 1)) := eσ_2
    have ht14001_σ_2 : σ_2 14001 = (nI (mk - 1)) := by rw [eσ_2]; exact upd_eq
    have ht14000_σ_2 : σ_2 14000 = (nI 0) := by rw [eσ_2, upd_ne (by first | omega | (simp only [vb] at *; omega))]; first | exact ht14000_σ_1 | assumption
    have hcLQ_σ_2 : LC (vb 0) σ_2 nt g := by rw [eσ_2]; exact LC.fr hcLQ_σ_1 (fun a ha hb => upd_ne (by first | omega | (simp only [vb] at *; omega)))
    have hcLD_σ_2 : LC (vb mq) σ_2 nt1 g1 := by rw [eσ_2]; exact LC.fr hcLD_σ_1 (fun a ha hb => upd_ne (by first | omega | (simp only [vb] at *; omega)))
    have hcFR_σ_2 : ∀ a, ((a < 10000 ∨ 10528 ≤ a) ∧ a ≠ 14000 ∧ a ≠ 14001) → σ_2 a = σ a := by intro a ha; exact Eq.trans (b := σ_1 a) (by rw [eσ_2, upd_ne (by first | omega | (simp only [vb] at *; omega))]) (hcFR_σ_1 a ha)
    have hvσ_2 : vw (vb 0) σ_2 = μ := by rw [eσ_2, vw_out (by first | omega | (simp only [vb] at *; omega))]; first | exact hvσ_1 | assumption
    have hwσ_2 : vw (vb mq) σ_2 = μ1 := by rw [eσ_2, vw_out (by first | omega | (simp only [vb] at *; omega))]; first | exact hwσ_1 | assumption
    refine g_aload_n h dX11_back_32 0 rfl ?_
    refine g_getr h dX11_back_33 gX11_23 sc_12 rfl ?_
    refine g_aload_n h dX11_back_36 0 rfl ?_
    refine g_getr h dX11_back_37 gX11_30 sc_12 rfl ?_
    refine g_aload_n h dX11_back_40 0 rfl ?_
    refine g_geti h dX11_back_41 gX11_150 sc_12 rfl ?_
    refine g_top (y := (nI (mk - 1))) (by first | exact ht14001_σ_2 | assumption) ?_
    refine g_aald h dX11_back_44 sc_14 (by omega) ?_
    show G X w 1 45 [(0, .ref (w.1 12))] [.ref (w.1 (mc (2 + (mk - 1)) 0)), .ref (w.1 (mc 0 0))] σ_2
    rw [← hq]
    refine g_cvv (rest := []) h (c_become hW nt1 g1 0 mq μ μ1 (by first | omega | decide | fail) (by first | omega | decide | fail) (by first | omega | decide | fail) (by assumption) (by assumption) (by intro a h1 h2; rw [hjz a h1 h2]; exact (hjz1 a h1 h2).symm) (by first | exact hcLD_σ_2 | assumption | fail)) lX5_become mX11_116 (Nat.lt_of_lt_of_le (by decide) (Nat.le_refl _)) (by decide) (sM_0 (m := 0) (by decide)) rfl rfl rfl rfl dX11_back_45 (fun σ_3 eσ_3 => ?_)
    obtain ⟨eσ_3_a, eσ_3_b, eσ_3_c, eσ_3_d⟩ := eσ_3
    have eσ_3_a : vw (vb 0) σ_3 = μ1 := eσ_3_a
    have eσ_3_b : LC (vb mq) σ_3 nt1 g1 := eσ_3_b
    have eσ_3_c : LC (vb 0) σ_3 nt1 g1 := eσ_3_c
    have eσ_3_d : ∀ a, (a < vb 0 ∨ vb 0 + 528 ≤ a) → σ_3 a = σ_2 a := eσ_3_d
    have ht14001_σ_3 : σ_3 14001 = (nI (mk - 1)) := by rw [eσ_3_d _ (by first | omega | (simp only [vb] at *; omega))]; first | exact ht14001_σ_2 | assumption
    have ht14000_σ_3 : σ_3 14000 = (nI 0) := by rw [eσ_3_d _ (by first | omega | (simp only [vb] at *; omega))]; first | exact ht14000_σ_2 | assumption
    have hcLD_σ_3 : LC (vb mq) σ_3 nt1 g1 := eσ_3_b
    have hcFR_σ_3 : ∀ a, ((a < 10000 ∨ 10528 ≤ a) ∧ a ≠ 14000 ∧ a ≠ 14001) → σ_3 a = σ a := by intro a ha; exact Eq.trans (b := σ_2 a) (eσ_3_d a (by first | omega | (simp only [vb] at *; omega))) (hcFR_σ_2 a ha)
    have hcLC_σ_3 : LC (vb 0) σ_3 nt1 g1 := eσ_3_c
    obtain ⟨μk, eμk⟩ : ∃ μk : Nat → Int32, μk = μ1 := ⟨_, rfl⟩
    have hvσ_3 : vw (vb 0) σ_3 = μk := by rw [eμk]; exact eσ_3_a
    have hwσ_3 : vw (vb mq) σ_3 = μ1 := by rw [vw_fr (σ := σ_2) (fun j _ _ => eσ_3_d _ (by first | omega | (simp only [vb] at *; omega)))]; first | exact hwσ_2 | assumption
    refine g_aload_n h dX11_back_48 0 rfl ?_
    refine g_geti h dX11_back_49 gX11_150 sc_12 rfl ?_
    refine g_top (y := (nI (mk - 1))) (by first | exact ht14001_σ_3 | assumption) ?_
    exact g_iret h hQ dX11_back_52 (congrArg (fun z => some (Value.int z)) (show (an (if mk = 0 then 7 else 0) (nI (mk - 1))) = (nI (mk - 1)) by first | exact an_yes (by first | exact m7_y (by omega) | exact m7_n (by omega) | fail) rfl | exact an_no (k := 7) (by first | exact m7_y (by omega) | exact m7_n (by omega) | fail) (by decide) | fail)) (by exact ⟨(by first | exact pk_yes (m7_y (by omega)) (by rw [hvσ_3, eμk]) | exact pk_no (m7_n (by omega)) (by decide) hvσ_3 | fail | fail), (by exact tk_eq (k := 0) (by first | exact m7_y (by omega) | exact m7_n (by omega) | fail) ht14000_σ_3), (by first | exact ht14001_σ_3 | (rw [show mk - 1 = mk from by omega]; exact ht14001_σ_3) | fail | fail), (by first | exact lc_y2 (by omega) hcLC_σ_3 | exact lc_n2 (by omega) hcLQ_σ_3 | fail | fail), (by exact hcFR_σ_3)⟩)
  ·
    refine g_bipush h dX11_back_8 (by decide) ?_
    refine g_goto h dX11_back_10 ?_
    refine g_cvi (rest := []) h (c_fails hW 7 (by repeat (first | omega | exact rg_lt | exact ns_lt | exact ps_lt | exact gst_lt | exact ofS_lt | exact if_lt (by decide) (by decide) | apply fo_lt))) lX11_fails mX11_106 (Nat.lt_of_lt_of_le (by decide) (Nat.le_refl _)) (by decide) sc_12 rfl rfl rfl rfl dX11_back_14 (fun σ_4 eσ_4 => ?_)
    obtain ⟨eσ_4_a, eσ_4_b⟩ := eσ_4
    have eσ_4_a : σ_4 14000 = (nI 7) := eσ_4_a
    have eσ_4_b : ∀ a, (a ≠ 14000) → σ_4 a = σ a := eσ_4_b
    have ht14001_σ_4 : σ_4 14001 = (nI mk) := by rw [eσ_4_b _ (by first | omega | (simp only [vb] at *; omega))]; first | exact ht14001_σ | assumption
    have ht14000_σ_4 : σ_4 14000 = (nI 7) := eσ_4_a
    have hcLQ_σ_4 : LC (vb 0) σ_4 nt g := by exact LC.fr hcLQ_σ (fun a ha hb => eσ_4_b a (by first | omega | (simp only [vb] at *; omega)))
    have hcLD_σ_4 : LC (vb mq) σ_4 nt1 g1 := by exact LC.fr hcLD_σ (fun a ha hb => eσ_4_b a (by first | omega | (simp only [vb] at *; omega)))
    have hcFR_σ_4 : ∀ a, ((a < 10000 ∨ 10528 ≤ a) ∧ a ≠ 14000 ∧ a ≠ 14001) → σ_4 a = σ a := by intro a ha; exact Eq.trans (b := σ a) (eσ_4_b a (by first | omega | (simp only [vb] at *; omega))) (hcFR_σ a ha)
    have hvσ_4 : vw (vb 0) σ_4 = μ := by rw [vw_fr (σ := σ) (fun j _ _ => eσ_4_b _ (by first | omega | (simp only [vb] at *; omega)))]; first | exact hv | assumption
    have hwσ_4 : vw (vb mq) σ_4 = μ1 := by rw [vw_fr (σ := σ) (fun j _ _ => eσ_4_b _ (by first | omega | (simp only [vb] at *; omega)))]; first | exact hw | assumption
    refine g_top (y := nI 1) rfl ?_
    refine g_ifN_eq h dX11_back_17 (by decide) (fun c17 => absurd c17 (by decide)) (fun c17 => ?_)
    refine g_iconstv h dX11_back_20 (v := (-1)) (by decide) ?_
    exact g_iret h hQ dX11_back_21 (congrArg (fun z => some (Value.int z)) (show (an (if mk = 0 then 7 else 0) (nI (mk - 1))) = (-1) by first | exact an_yes (by first | exact m7_y (by omega) | exact m7_n (by omega) | fail) rfl | exact an_no (k := 7) (by first | exact m7_y (by omega) | exact m7_n (by omega) | fail) (by decide) | fail)) (by exact ⟨(by first | exact pk_yes (m7_y (by omega)) (by rw [hvσ_4, eμk]) | exact pk_no (m7_n (by omega)) (by decide) hvσ_4 | fail | fail), (by exact tk_eq (k := 7) (by first | exact m7_y (by omega) | exact m7_n (by omega) | fail) ht14000_σ_4), (by first | exact ht14001_σ_4 | (rw [show mk - 1 = mk from by omega]; exact ht14001_σ_4) | fail | fail), (by first | exact lc_y2 (by omega) hcLC_σ_4 | exact lc_n2 (by omega) hcLQ_σ_4 | fail | fail), (by exact hcFR_σ_4)⟩)
