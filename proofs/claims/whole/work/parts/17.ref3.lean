set_option maxRecDepth 100000 in
set_option maxHeartbeats 4000000 in
theorem r_proved {l : Launch} {w : Wd} (hW : Wi w) {σ : Mem} (q : Nat) (hd : Bool) (hq : q < 1000) : MC l w qX12_proved 0 [.int (nI q), .int (b2i hd)] σ (some (.int (nI (prv q hd)))) (fun σ' => σ' = σ) := by
  refine MC.of hW (by decide +kernel) (Nat.le_of_ble_eq_true rfl) (fun X h hQ hnm => ?_)
  have h : Fx X w cX12_proved 2 RX12 0 := h
  have hQ : Qx X w (some .int) (some (.int (nI (prv q hd)))) (fun σ' => σ' = σ) := hQ
  show G X w 2 0 [(0, .int (nI q)), (1, .int (b2i hd))] [] σ
  refine g_iload_n h dX12_proved_0 1 rfl ?_
  refine g_ifB_eq h dX12_proved_1 (fun c1 => ?_) (fun c1 => ?_)
  ·
    refine g_iload_n h dX12_proved_18 0 rfl ?_
    refine g_iconst h dX12_proved_19 (by decide) ?_
    refine g_idivN h dX12_proved_20 (by omega) (by omega) (by omega) ?_
    exact g_iret h hQ dX12_proved_21 (congrArg (fun z => some (Value.int z)) (show (nI (prv q hd)) = (nI (q / 2)) by simp [prv, c1])) rfl
  ·
    refine g_iload_n h dX12_proved_4 0 rfl ?_
    refine g_sipush h dX12_proved_5 (by decide) ?_
    refine g_iload_n h dX12_proved_8 0 rfl ?_
    refine g_isubN h dX12_proved_9 (by omega) ?_
    refine g_iconst h dX12_proved_10 (by decide) ?_
    refine g_iaddN h dX12_proved_11  ?_
    refine g_iconst h dX12_proved_12 (by decide) ?_
    refine g_idivN h dX12_proved_13 (by omega) (by omega) (by omega) ?_
    refine g_iaddN h dX12_proved_14  ?_
    refine g_goto h dX12_proved_15 ?_
    exact g_iret h hQ dX12_proved_21 (congrArg (fun z => some (Value.int z)) (show (nI (prv q hd)) = (nI (q + ((999 - q + 1) / 2))) by simp [prv, c1])) rfl

set_option maxRecDepth 100000 in
set_option maxHeartbeats 4000000 in
theorem r_isUp {l : Launch} {w : Wd} (hW : Wi w) {σ : Mem} (q : Nat) (was : Bool) (μ : Nat → Int32) (hv : vw 0 σ = μ) (hI : MI μ) (hq : q < 1000) : MC l w qX12_isUp 1 [.ref (w.1 0), .int (nI q), .int (b2i was)] σ (some (.int (b2i (isU μ q was)))) (fun σ' => σ' = σ) := by
  refine MC.of hW (by decide +kernel) (Nat.le_of_ble_eq_true rfl) (fun X h hQ hnm => ?_)
  have h : Fx X w cX12_isUp 3 RX12 1 := h
  have hQ : Qx X w (some .boolean) (some (.int (b2i (isU μ q was)))) (fun σ' => σ' = σ) := hQ
  show G X w 3 0 [(0, .ref (w.1 0)), (1, .int (nI q)), (2, .int (b2i was))] [] σ
  refine g_iload_n h dX12_isUp_0 1 rfl ?_
  refine g_aload_n h dX12_isUp_1 0 rfl ?_
  refine g_iconst h dX12_isUp_2 (by decide) ?_
  refine g_cvpi (rest := [.int (nI q)]) h (r_of hW 5 μ (by assumption) (by omega)) lX12_of mX12_61 (Nat.lt_of_lt_of_le (by decide) (Nat.le_refl _)) (by decide) sc_0 rfl rfl rfl rfl dX12_isUp_3 ?_
  refine g_top (y := nI (nA μ 5)) (mi_5 (by assumption)) ?_
  have b9_3 : nA μ 5 < 1000 := mb_5 (by assumption)
  refine g_icmpN_ge h dX12_isUp_6 (by omega) (by omega) (fun c6 => ?_) (fun c6 => ?_)
  ·
    refine g_iconst h dX12_isUp_23 (by decide) ?_
    refine g_goto h dX12_isUp_24 ?_
    exact g_zret h hQ dX12_isUp_28 (show narrow .boolean (.int (b2i true)) = .int (b2i true) from narrow_b2i _) (congrArg (fun z => some (Value.int (b2i z))) (show (isU μ q was) = true by first | (simp [isU, c6]; done) | (simp [isU, c6]; omega) | fail)) rfl
  ·
    refine g_iload_n h dX12_isUp_9 1 rfl ?_
    refine g_aload_n h dX12_isUp_10 0 rfl ?_
    refine g_bipush h dX12_isUp_11 (by decide) ?_
    refine g_cvpi (rest := [.int (nI q)]) h (r_of hW 6 μ (by assumption) (by omega)) lX12_of mX12_61 (Nat.lt_of_lt_of_le (by decide) (Nat.le_refl _)) (by decide) sc_0 rfl rfl rfl rfl dX12_isUp_13 ?_
    refine g_top (y := nI (nA μ 6)) (mi_6 (by assumption)) ?_
    have b9_13 : nA μ 6 < 1000 := mb_6 (by assumption)
    refine g_icmpN_lt h dX12_isUp_16 (by omega) (by omega) (fun c16 => ?_) (fun c16 => ?_)
    ·
      refine g_iconst h dX12_isUp_27 (by decide) ?_
      exact g_zret h hQ dX12_isUp_28 (show narrow .boolean (.int (b2i false)) = .int (b2i false) from narrow_b2i _) (congrArg (fun z => some (Value.int (b2i z))) (show (isU μ q was) = false by first | (simp [isU, c6, c16]; done) | (simp [isU, c6, c16]; omega) | fail)) rfl
    ·
      refine g_iload_n h dX12_isUp_19 2 rfl ?_
      refine g_ifB_eq h dX12_isUp_20 (fun c20 => ?_) (fun c20 => ?_)
      ·
        refine g_iconst h dX12_isUp_27 (by decide) ?_
        exact g_zret h hQ dX12_isUp_28 (show narrow .boolean (.int (b2i false)) = .int (b2i false) from narrow_b2i _) (congrArg (fun z => some (Value.int (b2i z))) (show (isU μ q was) = false by first | (simp [isU, c6, c16, c20]; done) | (simp [isU, c6, c16, c20]; omega) | fail)) rfl
      ·
        refine g_iconst h dX12_isUp_23 (by decide) ?_
        refine g_goto h dX12_isUp_24 ?_
        exact g_zret h hQ dX12_isUp_28 (show narrow .boolean (.int (b2i true)) = .int (b2i true) from narrow_b2i _) (congrArg (fun z => some (Value.int (b2i z))) (show (isU μ q was) = true by first | (simp [isU, c6, c16, c20]; done) | (simp [isU, c6, c16, c20]; omega) | fail)) rfl

set_option maxRecDepth 100000 in
set_option maxHeartbeats 4000000 in
theorem r_isOlder {l : Launch} {w : Wd} (hW : Wi w) {σ : Mem} (a b : Nat) (ha : a < 16) (hb : b < 16) : MC l w qX12_isOlder 1 [.ref (w.1 0), .int (nI a), .int (nI b)] σ (some (.int (b2i (oldB a b)))) (fun σ' => σ' = σ) := by
  refine MC.of hW (by decide +kernel) (Nat.le_of_ble_eq_true rfl) (fun X h hQ hnm => ?_)
  have h : Fx X w cX12_isOlder 3 RX12 1 := h
  have hQ : Qx X w (some .boolean) (some (.int (b2i (oldB a b)))) (fun σ' => σ' = σ) := hQ
  show G X w 3 0 [(0, .ref (w.1 0)), (1, .int (nI a)), (2, .int (nI b))] [] σ
  refine g_iload_n h dX12_isOlder_0 2 rfl ?_
  refine g_iload_n h dX12_isOlder_1 1 rfl ?_
  refine g_isub h dX12_isOlder_2  ?_
  refine g_bipush h dX12_isOlder_3 (by decide) ?_
  refine g_iand h dX12_isOlder_5  ?_
  refine g_top (y := (nI ((b + 16 - a) % 16))) (old_r a ha b hb) ?_
  refine g_iconst h dX12_isOlder_6 (by decide) ?_
  refine g_bipush h dX12_isOlder_7 (by decide) ?_
  refine g_cspi (rest := []) h (r_isFrom hW (nI ((b + 16 - a) % 16)) (nI 1) (nI 7) ) lX12_isFrom mX12_134 (Nat.lt_of_lt_of_le (by decide) (Nat.le_refl _)) (by decide) rfl rfl rfl dX12_isOlder_9 ?_
  refine g_top (y := (b2i (oldB a b))) (by simp only [nI_leq (show 1 < 2 ^ 31 by decide) (show (b + 16 - a) % 16 < 2 ^ 31 by omega), nI_leq (show (b + 16 - a) % 16 < 2 ^ 31 by omega) (show 7 < 2 ^ 31 by decide), oldB]) ?_
  exact g_zret h hQ dX12_isOlder_12 (show narrow .boolean (.int (b2i (oldB a b))) = .int (b2i (oldB a b)) from narrow_b2i _) rfl rfl

set_option maxRecDepth 100000 in
set_option maxHeartbeats 4000000 in
theorem r_addsP {l : Launch} {w : Wd} (hW : Wi w) {σ : Mem} (k : Nat) (v : Int32) (μ : Nat → Int32) (hv : vw 0 σ = μ) (hk : k < 464 ∧ k ≠ 10) : MC l w qX12_adds 0 [.ref (w.1 0), .int (nI k), .int v] σ none (fun σ' => (σ' = upd σ (0 + k) (μ k + v))) := by
  refine MC.of hW (by decide +kernel) (Nat.le_of_ble_eq_true rfl) (fun X h hQ hnm => ?_)
  have h : Fx X w cX12_adds 3 RX12 0 := h
  have hQ : Qx X w none none (fun σ' => (σ' = upd σ (0 + k) (μ k + v))) := hQ
  show G X w 3 0 [(0, .ref (w.1 0)), (1, .int (nI k)), (2, .int v)] [] σ
  refine g_aload_n h dX12_adds_0 0 rfl ?_
  refine g_getr h dX12_adds_1 gX12_7 sc_0 rfl ?_
  refine g_iload_n h dX12_adds_4 1 rfl ?_
  refine g_dup2 h dX12_adds_5 rfl rfl ?_
  refine g_iald h dX12_adds_6 sc_1 (by omega) ?_
  refine g_top (y := (μ k)) (by rw [← hv]; exact vw_at hk) ?_
  refine g_iload_n h dX12_adds_7 2 rfl ?_
  refine g_iadd h dX12_adds_8  ?_
  refine g_iast h dX12_adds_9 sc_1 (by omega) ?_
  refine g_nm (fun σ_1 eσ_1 => ?_)
  have eσ_1 : σ_1 = upd σ (0 + k) ((μ k) + v) := eσ_1
  obtain ⟨μ_2, eμ_2⟩ : ∃ μ_2 : Nat → Int32, μ_2 = upd μ k ((μ k) + v) := ⟨_, rfl⟩
  have hvσ_1 : vw 0 σ_1 = μ_2 := by rw [eσ_1, eμ_2, vw_in (by omega)]; congr 1
  exact g_vret h hQ dX12_adds_10 rfl (by assumption)

set_option maxRecDepth 100000 in
set_option maxHeartbeats 4000000 in
theorem r_drawBy {l : Launch} {w : Wd} (hW : Wi w) {σ : Mem} (m d : Nat) (hm : m = 16) (hd : d < 243000) (ht4900_σ : σ 4900 = (nI d)) : MC l w qX12_drawBy 0 [.ref (w.1 0), .int (nI m)] σ (some (.int (nI (drw d * 16 / 243000)))) (fun σ' => (σ' = upd σ 4900 (nI (drw d)))) := by
  refine MC.of hW (by decide +kernel) (Nat.le_of_ble_eq_true rfl) (fun X h hQ hnm => ?_)
  have h : Fx X w cX12_drawBy 2 RX12 0 := h
  have hQ : Qx X w (some .int) (some (.int (nI (drw d * 16 / 243000)))) (fun σ' => (σ' = upd σ 4900 (nI (drw d)))) := hQ
  show G X w 2 0 [(0, .ref (w.1 0)), (1, .int (nI m))] [] σ
  refine g_aload_n h dX12_drawBy_0 0 rfl ?_
  refine g_aload_n h dX12_drawBy_1 0 rfl ?_
  refine g_geti h dX12_drawBy_2 gX12_96 sc_0 rfl ?_
  refine g_top (y := (nI d)) (by first | exact ht4900_σ | assumption) ?_
  refine g_i2l h dX12_drawBy_5  ?_
  refine g_ldc2 h dX12_drawBy_6 kX12_99 ?_
  refine g_lmul h dX12_drawBy_9  ?_
  refine g_ldc2 h dX12_drawBy_10 kX12_101 ?_
  refine g_ladd h dX12_drawBy_13  ?_
  refine g_ldc2 h dX12_drawBy_14 kX12_103 ?_
  refine g_lrem h dX12_drawBy_17 (by decide) ?_
  refine g_l2i h dX12_drawBy_18  ?_
  refine g_top (y := (nI (drw d))) (draw_l hd) ?_
  refine g_puti h dX12_drawBy_19 pX12_96 sc_0 rfl ?_
  refine g_nm (fun σ_1 eσ_1 => ?_)
  have eσ_1 : σ_1 = upd σ 4900 (nI (drw d)) := eσ_1
  have ht4900_σ_1 : σ_1 4900 = (nI (drw d)) := by rw [eσ_1]; exact upd_eq
  refine g_aload_n h dX12_drawBy_22 0 rfl ?_
  refine g_geti h dX12_drawBy_23 gX12_96 sc_0 rfl ?_
  refine g_top (y := (nI (drw d))) (by first | exact ht4900_σ_1 | assumption) ?_
  refine g_i2l h dX12_drawBy_26  ?_
  refine g_iload_n h dX12_drawBy_27 1 rfl ?_
  refine g_i2l h dX12_drawBy_28  ?_
  refine g_lmul h dX12_drawBy_29  ?_
  refine g_ldc2 h dX12_drawBy_30 kX12_103 ?_
  refine g_ldiv h dX12_drawBy_33 (by decide) ?_
  refine g_l2i h dX12_drawBy_34  ?_
  refine g_top (y := (nI (drw d * 16 / 243000))) (by subst hm; exact draw_m (drw_lt d)) ?_
  exact g_iret h hQ dX12_drawBy_35 rfl (by assumption)

set_option maxRecDepth 100000 in
set_option maxHeartbeats 4000000 in
theorem r_isLost {l : Launch} {w : Wd} (hW : Wi w) {σ : Mem} (d ls : Nat) (lo : Int32) (hcRLs_σ : RLs σ d ls lo) : MC l w qX12_isLost 1 [.ref (w.1 0)] σ (some (.int (b2i (lsB d ls)))) (fun σ' => (RLs σ' (drw d) ls (lsN d ls lo)) ∧ (∀ a, (a < 4900 ∨ a = 4901 ∨ 4903 ≤ a) → σ' a = σ a)) := by
  refine MC.of hW (by decide +kernel) (Nat.le_of_ble_eq_true rfl) (fun X h hQ hnm => ?_)
  have h : Fx X w cX12_isLost 1 RX12 1 := h
  have hQ : Qx X w (some .boolean) (some (.int (b2i (lsB d ls)))) (fun σ' => (RLs σ' (drw d) ls (lsN d ls lo)) ∧ (∀ a, (a < 4900 ∨ a = 4901 ∨ 4903 ≤ a) → σ' a = σ a)) := hQ
  have hcFR_σ : ∀ a, (a < 4900 ∨ a = 4901 ∨ 4903 ≤ a) → σ a = σ a := fun _ _ => rfl
  show G X w 1 0 [(0, .ref (w.1 0))] [] σ
  rcases (show (σ 4901 = -1 ∧ ls = 0) ∨ (σ 4900 = nI d ∧ σ 4901 = nI ls ∧ σ 4902 = lo ∧ d < 243000 ∧ ls ≤ 16) from hcRLs_σ) with ⟨hl, h0⟩ | ⟨hd, hl, hlo, hdd, hls⟩
  ·
    show G X w 1 0 [(0, .ref (w.1 0))] [] σ
    refine g_aload_n h dX12_isLost_0 0 rfl ?_
    refine g_geti h dX12_isLost_1 gX12_105 sc_0 rfl ?_
    refine g_top (y := (-1)) (by first | exact ht4901_σ | assumption) ?_
    refine g_iconstv h dX12_isLost_4 (v := (-1)) (by decide) ?_
    refine g_icmp_eq h dX12_isLost_5 (fun c5 => ?_) (fun c5 => (by exfalso; first | exact c5 rfl | exact nI_ne_m1 (by omega) c5 | exact c5 (nI_ne_m1 (by omega)) | exact nI_le_m1 (by omega) c5 | exact c5 (m1_lt (by omega)) | exact absurd c5 (by decide)))
    refine g_iconst h dX12_isLost_21 (by decide) ?_
    exact g_zret h hQ dX12_isLost_22 (show narrow .boolean (.int (b2i false)) = .int (b2i false) from narrow_b2i _) (congrArg (fun z => some (Value.int (b2i z))) (show (lsB d ls) = false by first | (simp [lsB, h0]; done) | (simp [lsB, Nat.add_zero]; done) | fail)) (by exact ⟨(by first | exact Or.inl ⟨hl, h0⟩ | (refine Or.inr ⟨by assumption, by assumption, ?_, drw_lt d, hls⟩; unfold lsN lsB; first | (simp [Nat.add_zero]; assumption) | (rw [if_neg (by simp; omega)]; assumption)) | fail), (by exact hcFR_σ)⟩)
  ·
    show G X w 1 0 [(0, .ref (w.1 0))] [] σ
    refine g_aload_n h dX12_isLost_0 0 rfl ?_
    refine g_geti h dX12_isLost_1 gX12_105 sc_0 rfl ?_
    refine g_top (y := (nI ls)) (by first | exact ht4901_σ | assumption) ?_
    refine g_iconstv h dX12_isLost_4 (v := (-1)) (by decide) ?_
    refine g_icmp_eq h dX12_isLost_5 (fun c5 => (by exfalso; first | exact c5 rfl | exact nI_ne_m1 (by omega) c5 | exact c5 (nI_ne_m1 (by omega)) | exact nI_le_m1 (by omega) c5 | exact c5 (m1_lt (by omega)) | exact absurd c5 (by decide))) (fun c5 => ?_)
    refine g_aload_n h dX12_isLost_8 0 rfl ?_
    refine g_bipush h dX12_isLost_9 (by decide) ?_
    refine g_cvi (rest := []) h (r_drawBy hW 16 d (by omega) (by omega) (by first | exact ht4900_σ | assumption | fail)) lX12_drawBy mX12_108 (Nat.lt_of_lt_of_le (by decide) (Nat.le_refl _)) (by decide) sc_0 rfl rfl rfl rfl dX12_isLost_11 (fun σ_1 eσ_1 => ?_)
    have eσ_1_a : σ_1 = upd σ 4900 (nI (drw d)) := eσ_1
    have ht4900_σ_1 : σ_1 4900 = (nI (drw d)) := by rw [eσ_1_a]; exact upd_eq
    have ht4901_σ_1 : σ_1 4901 = (nI ls) := by rw [eσ_1_a, upd_ne (by first | omega | (simp only [vb] at *; omega))]; first | exact ht4901_σ | assumption
    have ht4902_σ_1 : σ_1 4902 = lo := by rw [eσ_1_a, upd_ne (by first | omega | (simp only [vb] at *; omega))]; first | exact ht4902_σ | assumption
    have hcFR_σ_1 : ∀ a, (a < 4900 ∨ a = 4901 ∨ 4903 ≤ a) → σ_1 a = σ a := by intro a ha; exact Eq.trans (b := σ a) (by rw [eσ_1_a, upd_ne (by first | omega | (simp only [vb] at *; omega))]) (hcFR_σ a ha)
    have hdl := drw_lt d
    refine g_aload_n h dX12_isLost_14 0 rfl ?_
    refine g_geti h dX12_isLost_15 gX12_105 sc_0 rfl ?_
    refine g_top (y := (nI ls)) (by first | exact ht4901_σ_1 | assumption) ?_
    refine g_icmpN_lt h dX12_isLost_18 (by omega) (by omega) (fun c18 => ?_) (fun c18 => ?_)
    ·
      refine g_aload_n h dX12_isLost_23 0 rfl ?_
      refine g_dup h dX12_isLost_24 rfl ?_
      refine g_geti h dX12_isLost_25 gX12_111 sc_0 rfl ?_
      refine g_top (y := lo) (by first | exact ht4902_σ_1 | assumption) ?_
      refine g_iconst h dX12_isLost_28 (by decide) ?_
      refine g_iadd h dX12_isLost_29  ?_
      refine g_puti h dX12_isLost_30 pX12_111 sc_0 rfl ?_
      refine g_nm (fun σ_2 eσ_2 => ?_)
      have eσ_2 : σ_2 = upd σ_1 4902 (lo + (nI 1)) := eσ_2
      have ht4900_σ_2 : σ_2 4900 = (nI (drw d)) := by rw [eσ_2, upd_ne (by first | omega | (simp only [vb] at *; omega))]; first | exact ht4900_σ_1 | assumption
      have ht4901_σ_2 : σ_2 4901 = (nI ls) := by rw [eσ_2, upd_ne (by first | omega | (simp only [vb] at *; omega))]; first | exact ht4901_σ_1 | assumption
      have ht4902_σ_2 : σ_2 4902 = (lo + (nI 1)) := by rw [eσ_2]; exact upd_eq
      have hcFR_σ_2 : ∀ a, (a < 4900 ∨ a = 4901 ∨ 4903 ≤ a) → σ_2 a = σ a := by intro a ha; exact Eq.trans (b := σ_1 a) (by rw [eσ_2, upd_ne (by first | omega | (simp only [vb] at *; omega))]) (hcFR_σ_1 a ha)
      refine g_iconst h dX12_isLost_33 (by decide) ?_
      exact g_zret h hQ dX12_isLost_34 (show narrow .boolean (.int (b2i true)) = .int (b2i true) from narrow_b2i _) (congrArg (fun z => some (Value.int (b2i z))) (show (lsB d ls) = true by first | (simp [lsB, h0]; done) | (simp [lsB, c18]; done) | fail)) (by exact ⟨(by first | exact Or.inl ⟨hl, h0⟩ | (refine Or.inr ⟨by assumption, by assumption, ?_, drw_lt d, hls⟩; unfold lsN lsB; first | (simp [c18]; assumption) | (rw [if_neg (by simp; omega)]; assumption)) | fail), (by exact hcFR_σ_2)⟩)
    ·
      refine g_iconst h dX12_isLost_21 (by decide) ?_
      exact g_zret h hQ dX12_isLost_22 (show narrow .boolean (.int (b2i false)) = .int (b2i false) from narrow_b2i _) (congrArg (fun z => some (Value.int (b2i z))) (show (lsB d ls) = false by first | (simp [lsB, h0]; done) | (simp [lsB, c18]; done) | fail)) (by exact ⟨(by first | exact Or.inl ⟨hl, h0⟩ | (refine Or.inr ⟨by assumption, by assumption, ?_, drw_lt d, hls⟩; unfold lsN lsB; first | (simp [c18]; assumption) | (rw [if_neg (by simp; omega)]; assumption)) | fail), (by exact hcFR_σ_1)⟩)

set_option maxRecDepth 100000 in
set_option maxHeartbeats 4000000 in
theorem r_hears {l : Launch} {w : Wd} (hW : Wi w) {σ : Mem} (i j : Nat) (μ μh : Nat → Int32) (d ls : Nat) (lo : Int32) (hv : vw 0 σ = μ) (hI : MI μ) (hi : i < 8) (hj : j < 8) (hon : tb (μ 1) i = true) (hcRLs_σ : RLs σ d ls lo) (hcHT_σ : HT 5110 μh σ) : MC l w qX12_hears 2 [.ref (w.1 0), .int (nI i), .int (nI j)] σ none (fun σ' => (vw 0 σ' = hrS μh μ i j (hrH μ i j d ls)) ∧ (RLs σ' (hrD μ i j d) ls (hrL μ i j d ls lo)) ∧ (HT 5110 μh σ') ∧ (∀ a, (464 ≤ a ∧ (a < 4900 ∨ a = 4901 ∨ 4903 ≤ a) ∨ a = 10) → σ' a = σ a)) := by
  refine MC.of hW (by decide +kernel) (Nat.le_of_ble_eq_true rfl) (fun X h hQ hnm => ?_)
  have h : Fx X w cX12_hears 7 RX12 2 := h
  have hQ : Qx X w none none (fun σ' => (vw 0 σ' = hrS μh μ i j (hrH μ i j d ls)) ∧ (RLs σ' (hrD μ i j d) ls (hrL μ i j d ls lo)) ∧ (HT 5110 μh σ') ∧ (∀ a, (464 ≤ a ∧ (a < 4900 ∨ a = 4901 ∨ 4903 ≤ a) ∨ a = 10) → σ' a = σ a)) := hQ
  have hcFR_σ : ∀ a, (464 ≤ a ∧ (a < 4900 ∨ a = 4901 ∨ 4903 ≤ a) ∨ a = 10) → σ a = σ a := fun _ _ => rfl
  show G X w 7 0 [(0, .ref (w.1 0)), (1, .int (nI i)), (2, .int (nI j))] [] σ
  have J50 : ∀ (hd : Bool) (τ : Mem), (hd = hrH μ i j d ls) → (vw 0 τ = μ) → (RLs τ (hrD μ i j d) ls (hrL μ i j d ls lo)) → (HT 5110 μh τ) → (∀ a, (464 ≤ a ∧ (a < 4900 ∨ a = 4901 ∨ 4903 ≤ a) ∨ a = 10) → τ a = σ a) → G X w 7 50 [(0, .ref (w.1 0)), (1, .int (nI i)), (2, .int (nI j))] [.int (b2i hd)] (τ) := by
    intro hd τ hhd hvτ hcRLs_τ hcHT_τ hcFR_τ
    have hq := prv_lt (h := hd) (mb_80 hI (j := 8 * i + j) (by omega))
    refine g_istore_n (L' := [(0, .ref (w.1 0)), (1, .int (nI i)), (2, .int (nI j)), (3, .int (b2i hd))]) h dX12_hears_50 rfl (by decide) rfl ?_
    refine g_aload_n h dX12_hears_51 0 rfl ?_
    refine g_bipush h dX12_hears_52 (by decide) ?_
    refine g_iload_n h dX12_hears_54 1 rfl ?_
    refine g_iload_n h dX12_hears_55 2 rfl ?_
    refine g_cspi (rest := [.ref (w.1 0)]) h (r_two hW 80 i j ) lX12_two mX12_69 (Nat.lt_of_lt_of_le (by decide) (Nat.le_refl _)) (by decide) rfl rfl rfl dX12_hears_56 ?_
    refine g_cvpi (rest := []) h (r_of hW (80 + (8 * i + j)) μ (by assumption) (by omega)) lX12_of mX12_61 (Nat.lt_of_lt_of_le (by decide) (Nat.le_refl _)) (by decide) sc_0 rfl rfl rfl rfl dX12_hears_59 ?_
    refine g_top (y := nI (nA μ (80 + (8 * i + j)))) (mi_80 (by assumption) (by omega)) ?_
    have b9_59 : nA μ (80 + (8 * i + j)) < 1000 := mb_80 (by assumption) (by omega)
    refine g_iload_n h dX12_hears_62 3 rfl ?_
    refine g_cspi (rest := []) h (r_proved hW (nA μ (80 + (8 * i + j))) hd (by omega)) lX12_proved mX12_122 (Nat.lt_of_lt_of_le (by decide) (Nat.le_refl _)) (by decide) rfl rfl rfl dX12_hears_63 ?_
    refine g_istore (L' := [(0, .ref (w.1 0)), (1, .int (nI i)), (2, .int (nI j)), (3, .int (b2i hd)), (4, .int (nI (prv (nA μ (80 + (8 * i + j))) hd)))]) h dX12_hears_66 rfl (by decide) rfl ?_
    refine g_aload_n h dX12_hears_68 0 rfl ?_
    refine g_iload h dX12_hears_69 4 rfl ?_
    refine g_aload_n h dX12_hears_71 0 rfl ?_
    refine g_bipush h dX12_hears_72 (by decide) ?_
    refine g_iload_n h dX12_hears_74 1 rfl ?_
    refine g_iaddN h dX12_hears_75  ?_
    refine g_cvpi (rest := [.int (nI (prv (nA μ (80 + (8 * i + j))) hd)), .ref (w.1 0)]) h (r_of hW (56 + i) μ (by assumption) (by omega)) lX12_of mX12_61 (Nat.lt_of_lt_of_le (by decide) (Nat.le_refl _)) (by decide) sc_0 rfl rfl rfl rfl dX12_hears_76 ?_
    refine g_iload_n h dX12_hears_79 2 rfl ?_
    refine g_cspi (rest := [.int (nI (prv (nA μ (80 + (8 * i + j))) hd)), .ref (w.1 0)]) h (r_has hW (μ (56 + i)) j (by omega)) lX12_has mX12_65 (Nat.lt_of_lt_of_le (by decide) (Nat.le_refl _)) (by decide) rfl rfl rfl dX12_hears_80 ?_
    refine g_cvpi (rest := []) h (r_isUp hW (prv (nA μ (80 + (8 * i + j))) hd) (tb (μ (56 + i)) j) μ (by first | exact hvτ | assumption | fail) (by assumption) (by omega)) lX12_isUp mX12_126 (Nat.lt_of_lt_of_le (by decide) (Nat.le_refl _)) (by decide) sc_0 rfl rfl rfl rfl dX12_hears_83 ?_
    refine g_istore (L' := [(0, .ref (w.1 0)), (1, .int (nI i)), (2, .int (nI j)), (3, .int (b2i hd)), (4, .int (nI (prv (nA μ (80 + (8 * i + j))) hd))), (5, .int (b2i (isU μ (prv (nA μ (80 + (8 * i + j))) hd) (tb (μ (56 + i)) j))))]) h dX12_hears_86 rfl (by decide) rfl ?_
    have J143 : ∀ (nr : Bool), (nr = hrN μh μ i j hd) → G X w 7 143 [(0, .ref (w.1 0)), (1, .int (nI i)), (2, .int (nI j)), (3, .int (b2i hd)), (4, .int (nI (prv (nA μ (80 + (8 * i + j))) hd))), (5, .int (b2i (isU μ (prv (nA μ (80 + (8 * i + j))) hd) (tb (μ (56 + i)) j))))] [.int (b2i nr)] (τ) := by
      intro nr hnr
      refine g_istore (L' := [(0, .ref (w.1 0)), (1, .int (nI i)), (2, .int (nI j)), (3, .int (b2i hd)), (4, .int (nI (prv (nA μ (80 + (8 * i + j))) hd))), (5, .int (b2i (isU μ (prv (nA μ (80 + (8 * i + j))) hd) (tb (μ (56 + i)) j)))), (6, .int (b2i nr))]) h dX12_hears_143 rfl (by decide) rfl ?_
      refine g_aload_n h dX12_hears_145 0 rfl ?_
      refine g_bipush h dX12_hears_146 (by decide) ?_
      refine g_iload_n h dX12_hears_148 1 rfl ?_
      refine g_iload_n h dX12_hears_149 2 rfl ?_
      refine g_cspi (rest := [.ref (w.1 0)]) h (r_two hW 80 i j ) lX12_two mX12_69 (Nat.lt_of_lt_of_le (by decide) (Nat.le_refl _)) (by decide) rfl rfl rfl dX12_hears_150 ?_
      refine g_iload h dX12_hears_153 4 rfl ?_
      refine g_cvv (rest := []) h (r_puts hW (80 + (8 * i + j)) (nI (prv (nA μ (80 + (8 * i + j))) hd)) (by omega)) lX12_puts mX12_57 (Nat.lt_of_lt_of_le (by decide) (Nat.le_refl _)) (by decide) sc_0 rfl rfl rfl rfl dX12_hears_155 (fun σ_1 eσ_1 => ?_)
      have eσ_1_a : σ_1 = upd (τ) (0 + (80 + (8 * i + j))) (nI (prv (nA μ (80 + (8 * i + j))) hd)) := eσ_1
      have hcRLs_σ_1 : RLs σ_1 (hrD μ i j d) ls (hrL μ i j d ls lo) := by rw [eσ_1_a]; exact RLs.fr hcRLs_τ (upd_ne (by omega)) (upd_ne (by omega)) (upd_ne (by omega))
      have hcHT_σ_1 : HT 5110 μh σ_1 := by rw [eσ_1_a]; exact HT.fr hcHT_τ (fun a ha hb => upd_ne (by first | omega | (simp only [vb] at *; omega)))
      have hcFR_σ_1 : ∀ a, (464 ≤ a ∧ (a < 4900 ∨ a = 4901 ∨ 4903 ≤ a) ∨ a = 10) → σ_1 a = σ a := by intro a ha; exact Eq.trans (b := (τ) a) (by rw [eσ_1_a, upd_ne (by first | omega | (simp only [vb] at *; omega))]) (hcFR_τ a ha)
      obtain ⟨μ_2, eμ_2⟩ : ∃ μ_2 : Nat → Int32, μ_2 = upd μ (80 + (8 * i + j)) (nI (prv (nA μ (80 + (8 * i + j))) hd)) := ⟨_, rfl⟩
      have hvσ_1 : vw 0 σ_1 = μ_2 := by rw [eσ_1_a, eμ_2, vw_in (by omega)]; congr 1
      refine g_aload_n h dX12_hears_158 0 rfl ?_
      refine g_bipush h dX12_hears_159 (by decide) ?_
      refine g_iload_n h dX12_hears_161 1 rfl ?_
      refine g_iaddN h dX12_hears_162  ?_
      refine g_aload_n h dX12_hears_163 0 rfl ?_
      refine g_bipush h dX12_hears_164 (by decide) ?_
      refine g_iload_n h dX12_hears_166 1 rfl ?_
      refine g_iaddN h dX12_hears_167  ?_
      refine g_cvpi (rest := [.int (nI (56 + i)), .ref (w.1 0)]) h (r_of hW (56 + i) μ_2 (by assumption) (by omega)) lX12_of mX12_61 (Nat.lt_of_lt_of_le (by decide) (Nat.le_refl _)) (by decide) sc_0 rfl rfl rfl rfl dX12_hears_168 ?_
      refine g_top (y := μ (56 + i)) (by rw [eμ_2, upd_ne (by first | omega | (simp only [vb] at *; omega))]) ?_
      refine g_iload_n h dX12_hears_171 2 rfl ?_
      refine g_iload h dX12_hears_172 5 rfl ?_
      refine g_cspi (rest := [.int (nI (56 + i)), .ref (w.1 0)]) h (r_with hW (μ (56 + i)) j (isU μ (prv (nA μ (80 + (8 * i + j))) hd) (tb (μ (56 + i)) j)) ) lX12_with mX12_130 (Nat.lt_of_lt_of_le (by decide) (Nat.le_refl _)) (by decide) rfl rfl rfl dX12_hears_174 ?_
      refine g_cvv (rest := []) h (r_puts hW (56 + i) (wth (μ (56 + i)) j (isU μ (prv (nA μ (80 + (8 * i + j))) hd) (tb (μ (56 + i)) j))) (by omega)) lX12_puts mX12_57 (Nat.lt_of_lt_of_le (by decide) (Nat.le_refl _)) (by decide) sc_0 rfl rfl rfl rfl dX12_hears_177 (fun σ_3 eσ_3 => ?_)
      have eσ_3_a : σ_3 = upd σ_1 (0 + (56 + i)) (wth (μ (56 + i)) j (isU μ (prv (nA μ (80 + (8 * i + j))) hd) (tb (μ (56 + i)) j))) := eσ_3
      have hcRLs_σ_3 : RLs σ_3 (hrD μ i j d) ls (hrL μ i j d ls lo) := by rw [eσ_3_a]; exact RLs.fr hcRLs_σ_1 (upd_ne (by omega)) (upd_ne (by omega)) (upd_ne (by omega))
      have hcHT_σ_3 : HT 5110 μh σ_3 := by rw [eσ_3_a]; exact HT.fr hcHT_σ_1 (fun a ha hb => upd_ne (by first | omega | (simp only [vb] at *; omega)))
      have hcFR_σ_3 : ∀ a, (464 ≤ a ∧ (a < 4900 ∨ a = 4901 ∨ 4903 ≤ a) ∨ a = 10) → σ_3 a = σ a := by intro a ha; exact Eq.trans (b := σ_1 a) (by rw [eσ_3_a, upd_ne (by first | omega | (simp only [vb] at *; omega))]) (hcFR_σ_1 a ha)
      obtain ⟨μ_4, eμ_4⟩ : ∃ μ_4 : Nat → Int32, μ_4 = upd μ_2 (56 + i) (wth (μ (56 + i)) j (isU μ (prv (nA μ (80 + (8 * i + j))) hd) (tb (μ (56 + i)) j))) := ⟨_, rfl⟩
      have hvσ_3 : vw 0 σ_3 = μ_4 := by rw [eσ_3_a, eμ_4, vw_in (by omega)]; congr 1
      refine g_aload_n h dX12_hears_180 0 rfl ?_
      refine g_bipush h dX12_hears_181 (by decide) ?_
      refine g_iload_n h dX12_hears_183 1 rfl ?_
      refine g_iaddN h dX12_hears_184  ?_
      refine g_aload_n h dX12_hears_185 0 rfl ?_
      refine g_bipush h dX12_hears_186 (by decide) ?_
      refine g_iload_n h dX12_hears_188 1 rfl ?_
      refine g_iaddN h dX12_hears_189  ?_
      refine g_cvpi (rest := [.int (nI (64 + i)), .ref (w.1 0)]) h (r_of hW (64 + i) μ_4 (by assumption) (by omega)) lX12_of mX12_61 (Nat.lt_of_lt_of_le (by decide) (Nat.le_refl _)) (by decide) sc_0 rfl rfl rfl rfl dX12_hears_190 ?_
      refine g_top (y := μ_2 (64 + i)) (by rw [eμ_4, upd_ne (by first | omega | (simp only [vb] at *; omega))]) ?_
      refine g_top (y := μ (64 + i)) (by rw [eμ_2, upd_ne (by first | omega | (simp only [vb] at *; omega))]) ?_
      refine g_iload_n h dX12_hears_193 2 rfl ?_
      refine g_iload h dX12_hears_194 6 rfl ?_
      refine g_cspi (rest := [.int (nI (64 + i)), .ref (w.1 0)]) h (r_with hW (μ (64 + i)) j nr ) lX12_with mX12_130 (Nat.lt_of_lt_of_le (by decide) (Nat.le_refl _)) (by decide) rfl rfl rfl dX12_hears_196 ?_
      refine g_cvv (rest := []) h (r_puts hW (64 + i) (wth (μ (64 + i)) j nr) (by omega)) lX12_puts mX12_57 (Nat.lt_of_lt_of_le (by decide) (Nat.le_refl _)) (by decide) sc_0 rfl rfl rfl rfl dX12_hears_199 (fun σ_5 eσ_5 => ?_)
      have eσ_5_a : σ_5 = upd σ_3 (0 + (64 + i)) (wth (μ (64 + i)) j nr) := eσ_5
      have hcRLs_σ_5 : RLs σ_5 (hrD μ i j d) ls (hrL μ i j d ls lo) := by rw [eσ_5_a]; exact RLs.fr hcRLs_σ_3 (upd_ne (by omega)) (upd_ne (by omega)) (upd_ne (by omega))
      have hcHT_σ_5 : HT 5110 μh σ_5 := by rw [eσ_5_a]; exact HT.fr hcHT_σ_3 (fun a ha hb => upd_ne (by first | omega | (simp only [vb] at *; omega)))
      have hcFR_σ_5 : ∀ a, (464 ≤ a ∧ (a < 4900 ∨ a = 4901 ∨ 4903 ≤ a) ∨ a = 10) → σ_5 a = σ a := by intro a ha; exact Eq.trans (b := σ_3 a) (by rw [eσ_5_a, upd_ne (by first | omega | (simp only [vb] at *; omega))]) (hcFR_σ_3 a ha)
      obtain ⟨μ_6, eμ_6⟩ : ∃ μ_6 : Nat → Int32, μ_6 = upd μ_4 (64 + i) (wth (μ (64 + i)) j nr) := ⟨_, rfl⟩
      have hvσ_5 : vw 0 σ_5 = μ_6 := by rw [eσ_5_a, eμ_6, vw_in (by omega)]; congr 1
      refine g_iload_n h dX12_hears_202 3 rfl ?_
      refine g_ifB_ne h dX12_hears_203 (fun c203 => ?_) (fun c203 => ?_)
      ·
        refine g_aload_n h dX12_hears_211 0 rfl ?_
        refine g_sipush h dX12_hears_212 (by decide) ?_
        refine g_iload_n h dX12_hears_215 1 rfl ?_
        refine g_iload_n h dX12_hears_216 2 rfl ?_
        refine g_cspi (rest := [.ref (w.1 0)]) h (r_two hW 144 i j ) lX12_two mX12_69 (Nat.lt_of_lt_of_le (by decide) (Nat.le_refl _)) (by decide) rfl rfl rfl dX12_hears_217 ?_
        refine g_iload h dX12_hears_220 6 rfl ?_
        refine g_ifB_eq h dX12_hears_222 (fun c222 => ?_) (fun c222 => ?_)
        ·
          refine g_iconst h dX12_hears_234 (by decide) ?_
          refine g_cvv (rest := []) h (r_puts hW (144 + (8 * i + j)) (nI 0) (by omega)) lX12_puts mX12_57 (Nat.lt_of_lt_of_le (by decide) (Nat.le_refl _)) (by decide) sc_0 rfl rfl rfl rfl dX12_hears_235 (fun σ_7 eσ_7 => ?_)
          have eσ_7_a : σ_7 = upd σ_5 (0 + (144 + (8 * i + j))) (nI 0) := eσ_7
          have hcRLs_σ_7 : RLs σ_7 (hrD μ i j d) ls (hrL μ i j d ls lo) := by rw [eσ_7_a]; exact RLs.fr hcRLs_σ_5 (upd_ne (by omega)) (upd_ne (by omega)) (upd_ne (by omega))
          have hcHT_σ_7 : HT 5110 μh σ_7 := by rw [eσ_7_a]; exact HT.fr hcHT_σ_5 (fun a ha hb => upd_ne (by first | omega | (simp only [vb] at *; omega)))
          have hcFR_σ_7 : ∀ a, (464 ≤ a ∧ (a < 4900 ∨ a = 4901 ∨ 4903 ≤ a) ∨ a = 10) → σ_7 a = σ a := by intro a ha; exact Eq.trans (b := σ_5 a) (by rw [eσ_7_a, upd_ne (by first | omega | (simp only [vb] at *; omega))]) (hcFR_σ_5 a ha)
          obtain ⟨μ_8, eμ_8⟩ : ∃ μ_8 : Nat → Int32, μ_8 = upd μ_6 (144 + (8 * i + j)) (nI 0) := ⟨_, rfl⟩
          have hvσ_7 : vw 0 σ_7 = μ_8 := by rw [eσ_7_a, eμ_8, vw_in (by omega)]; congr 1
          refine g_aload_n h dX12_hears_238 0 rfl ?_
          refine g_bipush h dX12_hears_239 (by decide) ?_
          refine g_iload_n h dX12_hears_241 1 rfl ?_
          refine g_iaddN h dX12_hears_242  ?_
          refine g_aload_n h dX12_hears_243 0 rfl ?_
          refine g_bipush h dX12_hears_244 (by decide) ?_
          refine g_iload_n h dX12_hears_246 1 rfl ?_
          refine g_iaddN h dX12_hears_247  ?_
          refine g_cvpi (rest := [.int (nI (72 + i)), .ref (w.1 0)]) h (r_of hW (72 + i) μ_8 (by assumption) (by omega)) lX12_of mX12_61 (Nat.lt_of_lt_of_le (by decide) (Nat.le_refl _)) (by decide) sc_0 rfl rfl rfl rfl dX12_hears_248 ?_
          refine g_top (y := μ_6 (72 + i)) (by rw [eμ_8, upd_ne (by first | omega | (simp only [vb] at *; omega))]) ?_
          refine g_top (y := μ_4 (72 + i)) (by rw [eμ_6, upd_ne (by first | omega | (simp only [vb] at *; omega))]) ?_
          refine g_top (y := μ_2 (72 + i)) (by rw [eμ_4, upd_ne (by first | omega | (simp only [vb] at *; omega))]) ?_
          refine g_top (y := μ (72 + i)) (by rw [eμ_2, upd_ne (by first | omega | (simp only [vb] at *; omega))]) ?_
          refine g_iload_n h dX12_hears_251 2 rfl ?_
          refine g_iload h dX12_hears_252 6 rfl ?_
          refine g_ifB_eq h dX12_hears_254 (fun c254 => ?_) (fun c254 => absurd (c222.symm.trans c254) (by decide))
          refine g_iconst h dX12_hears_274 (by decide) ?_
          refine g_cspi (rest := [.int (nI (72 + i)), .ref (w.1 0)]) h (r_with hW (μ (72 + i)) j false ) lX12_with mX12_130 (Nat.lt_of_lt_of_le (by decide) (Nat.le_refl _)) (by decide) rfl rfl rfl dX12_hears_275 ?_
          refine g_cvv (rest := []) h (r_puts hW (72 + i) (wth (μ (72 + i)) j false) (by omega)) lX12_puts mX12_57 (Nat.lt_of_lt_of_le (by decide) (Nat.le_refl _)) (by decide) sc_0 rfl rfl rfl rfl dX12_hears_278 (fun σ_9 eσ_9 => ?_)
          have eσ_9_a : σ_9 = upd σ_7 (0 + (72 + i)) (wth (μ (72 + i)) j false) := eσ_9
          have hcRLs_σ_9 : RLs σ_9 (hrD μ i j d) ls (hrL μ i j d ls lo) := by rw [eσ_9_a]; exact RLs.fr hcRLs_σ_7 (upd_ne (by omega)) (upd_ne (by omega)) (upd_ne (by omega))
          have hcHT_σ_9 : HT 5110 μh σ_9 := by rw [eσ_9_a]; exact HT.fr hcHT_σ_7 (fun a ha hb => upd_ne (by first | omega | (simp only [vb] at *; omega)))
          have hcFR_σ_9 : ∀ a, (464 ≤ a ∧ (a < 4900 ∨ a = 4901 ∨ 4903 ≤ a) ∨ a = 10) → σ_9 a = σ a := by intro a ha; exact Eq.trans (b := σ_7 a) (by rw [eσ_9_a, upd_ne (by first | omega | (simp only [vb] at *; omega))]) (hcFR_σ_7 a ha)
          obtain ⟨μ_10, eμ_10⟩ : ∃ μ_10 : Nat → Int32, μ_10 = upd μ_8 (72 + i) (wth (μ (72 + i)) j false) := ⟨_, rfl⟩
          have hvσ_9 : vw 0 σ_9 = μ_10 := by rw [eσ_9_a, eμ_10, vw_in (by omega)]; congr 1
          exact g_vret h hQ dX12_hears_281 rfl (by exact ⟨(by rw [hvσ_9, ← hhd]; funext a; simp only [eμ_10, eμ_8, eμ_6, eμ_4, eμ_2, upd, hrS, ← hnr]; simp [hrU, c203, c222]; (repeat' split); all_goals (first | rfl | omega | (exfalso; omega))), (by first | exact hcRLs_σ_9 | assumption | fail), (by first | exact hcHT_σ_9 | assumption | fail), (by exact hcFR_σ_9)⟩)
        ·
          refine g_aload_n h dX12_hears_225 0 rfl ?_
          refine g_getr h dX12_hears_226 gX12_19 sc_0 rfl ?_
          refine g_iload_n h dX12_hears_229 2 rfl ?_
          refine g_iald h dX12_hears_230 sc_4 (by omega) ?_
          refine g_top (y := (μh (64 + j))) (by have := hcHT_σ_5; rw [show 5120 + j = 5110 + 10 + j from rfl]; exact (this j hj).2.1) ?_
          refine g_goto h dX12_hears_231 ?_
          refine g_cvv (rest := []) h (r_puts hW (144 + (8 * i + j)) (μh (64 + j)) (by omega)) lX12_puts mX12_57 (Nat.lt_of_lt_of_le (by decide) (Nat.le_refl _)) (by decide) sc_0 rfl rfl rfl rfl dX12_hears_235 (fun σ_11 eσ_11 => ?_)
          have eσ_11_a : σ_11 = upd σ_5 (0 + (144 + (8 * i + j))) (μh (64 + j)) := eσ_11
          have hcRLs_σ_11 : RLs σ_11 (hrD μ i j d) ls (hrL μ i j d ls lo) := by rw [eσ_11_a]; exact RLs.fr hcRLs_σ_5 (upd_ne (by omega)) (upd_ne (by omega)) (upd_ne (by omega))
          have hcHT_σ_11 : HT 5110 μh σ_11 := by rw [eσ_11_a]; exact HT.fr hcHT_σ_5 (fun a ha hb => upd_ne (by first | omega | (simp only [vb] at *; omega)))
          have hcFR_σ_11 : ∀ a, (464 ≤ a ∧ (a < 4900 ∨ a = 4901 ∨ 4903 ≤ a) ∨ a = 10) → σ_11 a = σ a := by intro a ha; exact Eq.trans (b := σ_5 a) (by rw [eσ_11_a, upd_ne (by first | omega | (simp only [vb] at *; omega))]) (hcFR_σ_5 a ha)
          obtain ⟨μ_12, eμ_12⟩ : ∃ μ_12 : Nat → Int32, μ_12 = upd μ_6 (144 + (8 * i + j)) (μh (64 + j)) := ⟨_, rfl⟩
          have hvσ_11 : vw 0 σ_11 = μ_12 := by rw [eσ_11_a, eμ_12, vw_in (by omega)]; congr 1
          refine g_aload_n h dX12_hears_238 0 rfl ?_
          refine g_bipush h dX12_hears_239 (by decide) ?_
          refine g_iload_n h dX12_hears_241 1 rfl ?_
          refine g_iaddN h dX12_hears_242  ?_
          refine g_aload_n h dX12_hears_243 0 rfl ?_
          refine g_bipush h dX12_hears_244 (by decide) ?_
          refine g_iload_n h dX12_hears_246 1 rfl ?_
          refine g_iaddN h dX12_hears_247  ?_
          refine g_cvpi (rest := [.int (nI (72 + i)), .ref (w.1 0)]) h (r_of hW (72 + i) μ_12 (by assumption) (by omega)) lX12_of mX12_61 (Nat.lt_of_lt_of_le (by decide) (Nat.le_refl _)) (by decide) sc_0 rfl rfl rfl rfl dX12_hears_248 ?_
          refine g_top (y := μ_6 (72 + i)) (by rw [eμ_12, upd_ne (by first | omega | (simp only [vb] at *; omega))]) ?_
          refine g_top (y := μ_4 (72 + i)) (by rw [eμ_6, upd_ne (by first | omega | (simp only [vb] at *; omega))]) ?_
          refine g_top (y := μ_2 (72 + i)) (by rw [eμ_4, upd_ne (by first | omega | (simp only [vb] at *; omega))]) ?_
          refine g_top (y := μ (72 + i)) (by rw [eμ_2, upd_ne (by first | omega | (simp only [vb] at *; omega))]) ?_
          refine g_iload_n h dX12_hears_251 2 rfl ?_
          refine g_iload h dX12_hears_252 6 rfl ?_
          refine g_ifB_eq h dX12_hears_254 (fun c254 => absurd (c222.symm.trans c254) (by decide)) (fun c254 => ?_)
          refine g_aload_n h dX12_hears_257 0 rfl ?_
          refine g_getr h dX12_hears_258 gX12_22 sc_0 rfl ?_
          refine g_iload_n h dX12_hears_261 2 rfl ?_
          refine g_iald h dX12_hears_262 sc_5 (by omega) ?_
          refine g_top (y := (μh (48 + j))) (by have := hcHT_σ_11; exact (this j hj).2.2) ?_
          refine g_iload_n h dX12_hears_263 1 rfl ?_
          refine g_cspi (rest := [.int (nI j), .int (μ (72 + i)), .int (nI (72 + i)), .ref (w.1 0)]) h (r_has hW (μh (48 + j)) i (by omega)) lX12_has mX12_65 (Nat.lt_of_lt_of_le (by decide) (Nat.le_refl _)) (by decide) rfl rfl rfl dX12_hears_264 ?_
          refine g_ifB_eq h dX12_hears_267 (fun c267 => ?_) (fun c267 => ?_)
          ·
            refine g_iconst h dX12_hears_274 (by decide) ?_
            refine g_cspi (rest := [.int (nI (72 + i)), .ref (w.1 0)]) h (r_with hW (μ (72 + i)) j false ) lX12_with mX12_130 (Nat.lt_of_lt_of_le (by decide) (Nat.le_refl _)) (by decide) rfl rfl rfl dX12_hears_275 ?_
            refine g_cvv (rest := []) h (r_puts hW (72 + i) (wth (μ (72 + i)) j false) (by omega)) lX12_puts mX12_57 (Nat.lt_of_lt_of_le (by decide) (Nat.le_refl _)) (by decide) sc_0 rfl rfl rfl rfl dX12_hears_278 (fun σ_13 eσ_13 => ?_)
            have eσ_13_a : σ_13 = upd σ_11 (0 + (72 + i)) (wth (μ (72 + i)) j false) := eσ_13
            have hcRLs_σ_13 : RLs σ_13 (hrD μ i j d) ls (hrL μ i j d ls lo) := by rw [eσ_13_a]; exact RLs.fr hcRLs_σ_11 (upd_ne (by omega)) (upd_ne (by omega)) (upd_ne (by omega))
            have hcHT_σ_13 : HT 5110 μh σ_13 := by rw [eσ_13_a]; exact HT.fr hcHT_σ_11 (fun a ha hb => upd_ne (by first | omega | (simp only [vb] at *; omega)))
            have hcFR_σ_13 : ∀ a, (464 ≤ a ∧ (a < 4900 ∨ a = 4901 ∨ 4903 ≤ a) ∨ a = 10) → σ_13 a = σ a := by intro a ha; exact Eq.trans (b := σ_11 a) (by rw [eσ_13_a, upd_ne (by first | omega | (simp only [vb] at *; omega))]) (hcFR_σ_11 a ha)
            obtain ⟨μ_14, eμ_14⟩ : ∃ μ_14 : Nat → Int32, μ_14 = upd μ_12 (72 + i) (wth (μ (72 + i)) j false) := ⟨_, rfl⟩
            have hvσ_13 : vw 0 σ_13 = μ_14 := by rw [eσ_13_a, eμ_14, vw_in (by omega)]; congr 1
            exact g_vret h hQ dX12_hears_281 rfl (by exact ⟨(by rw [hvσ_13, ← hhd]; funext a; simp only [eμ_14, eμ_12, eμ_6, eμ_4, eμ_2, upd, hrS, ← hnr]; simp [hrU, c203, c222, c267]; (repeat' split); all_goals (first | rfl | omega | (exfalso; omega))), (by first | exact hcRLs_σ_13 | assumption | fail), (by first | exact hcHT_σ_13 | assumption | fail), (by exact hcFR_σ_13)⟩)
          ·
            refine g_iconst h dX12_hears_270 (by decide) ?_
            refine g_goto h dX12_hears_271 ?_
            refine g_cspi (rest := [.int (nI (72 + i)), .ref (w.1 0)]) h (r_with hW (μ (72 + i)) j true ) lX12_with mX12_130 (Nat.lt_of_lt_of_le (by decide) (Nat.le_refl _)) (by decide) rfl rfl rfl dX12_hears_275 ?_
            refine g_cvv (rest := []) h (r_puts hW (72 + i) (wth (μ (72 + i)) j true) (by omega)) lX12_puts mX12_57 (Nat.lt_of_lt_of_le (by decide) (Nat.le_refl _)) (by decide) sc_0 rfl rfl rfl rfl dX12_hears_278 (fun σ_15 eσ_15 => ?_)
            have eσ_15_a : σ_15 = upd σ_11 (0 + (72 + i)) (wth (μ (72 + i)) j true) := eσ_15
            have hcRLs_σ_15 : RLs σ_15 (hrD μ i j d) ls (hrL μ i j d ls lo) := by rw [eσ_15_a]; exact RLs.fr hcRLs_σ_11 (upd_ne (by omega)) (upd_ne (by omega)) (upd_ne (by omega))
            have hcHT_σ_15 : HT 5110 μh σ_15 := by rw [eσ_15_a]; exact HT.fr hcHT_σ_11 (fun a ha hb => upd_ne (by first | omega | (simp only [vb] at *; omega)))
            have hcFR_σ_15 : ∀ a, (464 ≤ a ∧ (a < 4900 ∨ a = 4901 ∨ 4903 ≤ a) ∨ a = 10) → σ_15 a = σ a := by intro a ha; exact Eq.trans (b := σ_11 a) (by rw [eσ_15_a, upd_ne (by first | omega | (simp only [vb] at *; omega))]) (hcFR_σ_11 a ha)
            obtain ⟨μ_16, eμ_16⟩ : ∃ μ_16 : Nat → Int32, μ_16 = upd μ_12 (72 + i) (wth (μ (72 + i)) j true) := ⟨_, rfl⟩
            have hvσ_15 : vw 0 σ_15 = μ_16 := by rw [eσ_15_a, eμ_16, vw_in (by omega)]; congr 1
            exact g_vret h hQ dX12_hears_281 rfl (by exact ⟨(by rw [hvσ_15, ← hhd]; funext a; simp only [eμ_16, eμ_12, eμ_6, eμ_4, eμ_2, upd, hrS, ← hnr]; simp [hrU, c203, c222, c267]; (repeat' split); all_goals (first | rfl | omega | (exfalso; omega))), (by first | exact hcRLs_σ_15 | assumption | fail), (by first | exact hcHT_σ_15 | assumption | fail), (by exact hcFR_σ_15)⟩)
      ·
        refine g_iload h dX12_hears_206 6 rfl ?_
        refine g_ifB_ne h dX12_hears_208 (fun c208 => ?_) (fun c208 => ?_)
        ·
          exact g_vret h hQ dX12_hears_281 rfl (by exact ⟨(by rw [hvσ_5, ← hhd]; funext a; simp only [eμ_6, eμ_4, eμ_2, upd, hrS, ← hnr]; simp [hrU, c203, c208]; (repeat' split); all_goals (first | rfl | omega | (exfalso; omega))), (by first | exact hcRLs_σ_5 | assumption | fail), (by first | exact hcHT_σ_5 | assumption | fail), (by exact hcFR_σ_5)⟩)
        ·
          refine g_aload_n h dX12_hears_211 0 rfl ?_
          refine g_sipush h dX12_hears_212 (by decide) ?_
          refine g_iload_n h dX12_hears_215 1 rfl ?_
          refine g_iload_n h dX12_hears_216 2 rfl ?_
          refine g_cspi (rest := [.ref (w.1 0)]) h (r_two hW 144 i j ) lX12_two mX12_69 (Nat.lt_of_lt_of_le (by decide) (Nat.le_refl _)) (by decide) rfl rfl rfl dX12_hears_217 ?_
          refine g_iload h dX12_hears_220 6 rfl ?_
          refine g_ifB_eq h dX12_hears_222 (fun c222 => ?_) (fun c222 => absurd (c208.symm.trans c222) (by decide))
          refine g_iconst h dX12_hears_234 (by decide) ?_
          refine g_cvv (rest := []) h (r_puts hW (144 + (8 * i + j)) (nI 0) (by omega)) lX12_puts mX12_57 (Nat.lt_of_lt_of_le (by decide) (Nat.le_refl _)) (by decide) sc_0 rfl rfl rfl rfl dX12_hears_235 (fun σ_17 eσ_17 => ?_)
          have eσ_17_a : σ_17 = upd σ_5 (0 + (144 + (8 * i + j))) (nI 0) := eσ_17
          have hcRLs_σ_17 : RLs σ_17 (hrD μ i j d) ls (hrL μ i j d ls lo) := by rw [eσ_17_a]; exact RLs.fr hcRLs_σ_5 (upd_ne (by omega)) (upd_ne (by omega)) (upd_ne (by omega))
          have hcHT_σ_17 : HT 5110 μh σ_17 := by rw [eσ_17_a]; exact HT.fr hcHT_σ_5 (fun a ha hb => upd_ne (by first | omega | (simp only [vb] at *; omega)))
          have hcFR_σ_17 : ∀ a, (464 ≤ a ∧ (a < 4900 ∨ a = 4901 ∨ 4903 ≤ a) ∨ a = 10) → σ_17 a = σ a := by intro a ha; exact Eq.trans (b := σ_5 a) (by rw [eσ_17_a, upd_ne (by first | omega | (simp only [vb] at *; omega))]) (hcFR_σ_5 a ha)
          obtain ⟨μ_18, eμ_18⟩ : ∃ μ_18 : Nat → Int32, μ_18 = upd μ_6 (144 + (8 * i + j)) (nI 0) := ⟨_, rfl⟩
          have hvσ_17 : vw 0 σ_17 = μ_18 := by rw [eσ_17_a, eμ_18, vw_in (by omega)]; congr 1
          refine g_aload_n h dX12_hears_238 0 rfl ?_
          refine g_bipush h dX12_hears_239 (by decide) ?_
          refine g_iload_n h dX12_hears_241 1 rfl ?_
          refine g_iaddN h dX12_hears_242  ?_
          refine g_aload_n h dX12_hears_243 0 rfl ?_
          refine g_bipush h dX12_hears_244 (by decide) ?_
          refine g_iload_n h dX12_hears_246 1 rfl ?_
          refine g_iaddN h dX12_hears_247  ?_
          refine g_cvpi (rest := [.int (nI (72 + i)), .ref (w.1 0)]) h (r_of hW (72 + i) μ_18 (by assumption) (by omega)) lX12_of mX12_61 (Nat.lt_of_lt_of_le (by decide) (Nat.le_refl _)) (by decide) sc_0 rfl rfl rfl rfl dX12_hears_248 ?_
          refine g_top (y := μ_6 (72 + i)) (by rw [eμ_18, upd_ne (by first | omega | (simp only [vb] at *; omega))]) ?_
          refine g_top (y := μ_4 (72 + i)) (by rw [eμ_6, upd_ne (by first | omega | (simp only [vb] at *; omega))]) ?_
          refine g_top (y := μ_2 (72 + i)) (by rw [eμ_4, upd_ne (by first | omega | (simp only [vb] at *; omega))]) ?_
          refine g_top (y := μ (72 + i)) (by rw [eμ_2, upd_ne (by first | omega | (simp only [vb] at *; omega))]) ?_
          refine g_iload_n h dX12_hears_251 2 rfl ?_
          refine g_iload h dX12_hears_252 6 rfl ?_
          refine g_ifB_eq h dX12_hears_254 (fun c254 => ?_) (fun c254 => absurd (c208.symm.trans c254) (by decide))
          refine g_iconst h dX12_hears_274 (by decide) ?_
          refine g_cspi (rest := [.int (nI (72 + i)), .ref (w.1 0)]) h (r_with hW (μ (72 + i)) j false ) lX12_with mX12_130 (Nat.lt_of_lt_of_le (by decide) (Nat.le_refl _)) (by decide) rfl rfl rfl dX12_hears_275 ?_
          refine g_cvv (rest := []) h (r_puts hW (72 + i) (wth (μ (72 + i)) j false) (by omega)) lX12_puts mX12_57 (Nat.lt_of_lt_of_le (by decide) (Nat.le_refl _)) (by decide) sc_0 rfl rfl rfl rfl dX12_hears_278 (fun σ_19 eσ_19 => ?_)
          have eσ_19_a : σ_19 = upd σ_17 (0 + (72 + i)) (wth (μ (72 + i)) j false) := eσ_19
          have hcRLs_σ_19 : RLs σ_19 (hrD μ i j d) ls (hrL μ i j d ls lo) := by rw [eσ_19_a]; exact RLs.fr hcRLs_σ_17 (upd_ne (by omega)) (upd_ne (by omega)) (upd_ne (by omega))
          have hcHT_σ_19 : HT 5110 μh σ_19 := by rw [eσ_19_a]; exact HT.fr hcHT_σ_17 (fun a ha hb => upd_ne (by first | omega | (simp only [vb] at *; omega)))
          have hcFR_σ_19 : ∀ a, (464 ≤ a ∧ (a < 4900 ∨ a = 4901 ∨ 4903 ≤ a) ∨ a = 10) → σ_19 a = σ a := by intro a ha; exact Eq.trans (b := σ_17 a) (by rw [eσ_19_a, upd_ne (by first | omega | (simp only [vb] at *; omega))]) (hcFR_σ_17 a ha)
          obtain ⟨μ_20, eμ_20⟩ : ∃ μ_20 : Nat → Int32, μ_20 = upd μ_18 (72 + i) (wth (μ (72 + i)) j false) := ⟨_, rfl⟩
          have hvσ_19 : vw 0 σ_19 = μ_20 := by rw [eσ_19_a, eμ_20, vw_in (by omega)]; congr 1
          exact g_vret h hQ dX12_hears_281 rfl (by exact ⟨(by rw [hvσ_19, ← hhd]; funext a; simp only [eμ_20, eμ_18, eμ_6, eμ_4, eμ_2, upd, hrS, ← hnr]; simp [hrU, c203, c208]; (repeat' split); all_goals (first | rfl | omega | (exfalso; omega))), (by first | exact hcRLs_σ_19 | assumption | fail), (by first | exact hcHT_σ_19 | assumption | fail), (by exact hcFR_σ_19)⟩)
    refine g_iload_n h dX12_hears_88 3 rfl ?_
    refine g_ifB_eq h dX12_hears_89 (fun c89 => ?_) (fun c89 => ?_)
    ·
      refine g_iload h dX12_hears_118 5 rfl ?_
      refine g_ifB_eq h dX12_hears_120 (fun c120 => ?_) (fun c120 => ?_)
      ·
        refine g_iconst h dX12_hears_142 (by decide) ?_
        exact J143 false (by (try simp only [hrN, hrU, c120]); (try simp [c89, c120]))
      ·
        refine g_aload_n h dX12_hears_123 0 rfl ?_
        refine g_bipush h dX12_hears_124 (by decide) ?_
        refine g_iload_n h dX12_hears_126 1 rfl ?_
        refine g_iaddN h dX12_hears_127  ?_
        refine g_cvpi (rest := []) h (r_of hW (64 + i) μ (by assumption) (by omega)) lX12_of mX12_61 (Nat.lt_of_lt_of_le (by decide) (Nat.le_refl _)) (by decide) sc_0 rfl rfl rfl rfl dX12_hears_128 ?_
        refine g_iload_n h dX12_hears_131 2 rfl ?_
        refine g_cspi (rest := []) h (r_has hW (μ (64 + i)) j (by omega)) lX12_has mX12_65 (Nat.lt_of_lt_of_le (by decide) (Nat.le_refl _)) (by decide) rfl rfl rfl dX12_hears_132 ?_
        refine g_ifB_eq h dX12_hears_135 (fun c135 => ?_) (fun c135 => ?_)
        ·
          refine g_iconst h dX12_hears_142 (by decide) ?_
          exact J143 false (by (try simp only [hrN, hrU, c120, c135]); (try simp [c89, c120, c135]))
        ·
          refine g_iconst h dX12_hears_138 (by decide) ?_
          refine g_goto h dX12_hears_139 ?_
          exact J143 true (by (try simp only [hrN, hrU, c120, c135]); (try simp [c89, c120, c135]))
    ·
      refine g_iload h dX12_hears_92 5 rfl ?_
      refine g_ifB_eq h dX12_hears_94 (fun c94 => ?_) (fun c94 => ?_)
      ·
        refine g_iconst h dX12_hears_114 (by decide) ?_
        refine g_goto h dX12_hears_115 ?_
        exact J143 false (by (try simp only [hrN, hrU, c94]); (try simp [c89, c94]))
      ·
        refine g_aload_n h dX12_hears_97 0 rfl ?_
        refine g_getr h dX12_hears_98 gX12_16 sc_0 rfl ?_
        refine g_iload_n h dX12_hears_101 2 rfl ?_
        refine g_iald h dX12_hears_102 sc_3 (by omega) ?_
        refine g_top (y := (μh (56 + j))) ((hcHT_τ j hj).1) ?_
        refine g_iload_n h dX12_hears_103 1 rfl ?_
        refine g_cspi (rest := []) h (r_has hW (μh (56 + j)) i (by omega)) lX12_has mX12_65 (Nat.lt_of_lt_of_le (by decide) (Nat.le_refl _)) (by decide) rfl rfl rfl dX12_hears_104 ?_
        refine g_ifB_eq h dX12_hears_107 (fun c107 => ?_) (fun c107 => ?_)
        ·
          refine g_iconst h dX12_hears_114 (by decide) ?_
          refine g_goto h dX12_hears_115 ?_
          exact J143 false (by (try simp only [hrN, hrU, c94, c107]); (try simp [c89, c94, c107]))
        ·
          refine g_iconst h dX12_hears_110 (by decide) ?_
          refine g_goto h dX12_hears_111 ?_
          exact J143 true (by (try simp only [hrN, hrU, c94, c107]); (try simp [c89, c94, c107]))
  refine g_aload_n h dX12_hears_0 0 rfl ?_
  refine g_iload_n h dX12_hears_1 2 rfl ?_
  refine g_cvpi (rest := []) h (r_isOn hW j μ (by assumption) (by omega)) lX12_isOn mX12_114 (Nat.lt_of_lt_of_le (by decide) (Nat.le_refl _)) (by decide) sc_0 rfl rfl rfl rfl dX12_hears_2 ?_
  refine g_ifB_eq h dX12_hears_5 (fun c5 => ?_) (fun c5 => ?_)
  ·
    refine g_iconst h dX12_hears_49 (by decide) ?_
    exact J50 false σ (by simp [hrH, cms, hon, c5]) (by first | exact hv | assumption | fail | fail) (by simp [hrD, hrL, cms, hon, c5]; assumption) (by first | exact hcHT_σ | assumption | fail | fail) (by first | exact hcFR_σ | assumption | fail | fail)
  ·
    refine g_aload_n h dX12_hears_8 0 rfl ?_
    refine g_bipush h dX12_hears_9 (by decide) ?_
    refine g_iload_n h dX12_hears_11 1 rfl ?_
    refine g_iaddN h dX12_hears_12  ?_
    refine g_cvpi (rest := []) h (r_of hW (24 + i) μ (by assumption) (by omega)) lX12_of mX12_61 (Nat.lt_of_lt_of_le (by decide) (Nat.le_refl _)) (by decide) sc_0 rfl rfl rfl rfl dX12_hears_13 ?_
    refine g_iload_n h dX12_hears_16 2 rfl ?_
    refine g_cspi (rest := []) h (r_has hW (μ (24 + i)) j (by omega)) lX12_has mX12_65 (Nat.lt_of_lt_of_le (by decide) (Nat.le_refl _)) (by decide) rfl rfl rfl dX12_hears_17 ?_
    refine g_ifB_eq h dX12_hears_20 (fun c20 => ?_) (fun c20 => ?_)
    ·
      refine g_iconst h dX12_hears_49 (by decide) ?_
      exact J50 false σ (by simp [hrH, cms, hon, c5, c20]) (by first | exact hv | assumption | fail | fail) (by simp [hrD, hrL, cms, hon, c5, c20]; assumption) (by first | exact hcHT_σ | assumption | fail | fail) (by first | exact hcFR_σ | assumption | fail | fail)
    ·
      refine g_aload_n h dX12_hears_23 0 rfl ?_
      refine g_sipush h dX12_hears_24 (by decide) ?_
      refine g_iload_n h dX12_hears_27 2 rfl ?_
      refine g_iload_n h dX12_hears_28 1 rfl ?_
      refine g_cspi (rest := [.ref (w.1 0)]) h (r_two hW 208 j i ) lX12_two mX12_69 (Nat.lt_of_lt_of_le (by decide) (Nat.le_refl _)) (by decide) rfl rfl rfl dX12_hears_29 ?_
      refine g_cvpi (rest := []) h (r_of hW (208 + (8 * j + i)) μ (by assumption) (by omega)) lX12_of mX12_61 (Nat.lt_of_lt_of_le (by decide) (Nat.le_refl _)) (by decide) sc_0 rfl rfl rfl rfl dX12_hears_32 ?_
      refine g_top (y := nI (nA μ (208 + (8 * j + i)))) (mi_208 (by assumption) (by omega)) ?_
      have b9_32 : nA μ (208 + (8 * j + i)) < 100 := mb_208 (by assumption) (by omega)
      refine g_ifN_ne h dX12_hears_35 (by omega) (fun c35 => ?_) (fun c35 => ?_)
      ·
        refine g_iconst h dX12_hears_49 (by decide) ?_
        exact J50 false σ (by simp [hrH, cms, hon, c5, c20, c35]) (by first | exact hv | assumption | fail | fail) (by simp [hrD, hrL, cms, hon, c5, c20, c35]; assumption) (by first | exact hcHT_σ | assumption | fail | fail) (by first | exact hcFR_σ | assumption | fail | fail)
      ·
        refine g_aload_n h dX12_hears_38 0 rfl ?_
        refine g_cvi (rest := []) h (r_isLost hW d ls lo (by first | exact hcRLs_σ | assumption | fail)) lX12_isLost mX12_118 (Nat.lt_of_lt_of_le (by decide) (Nat.le_refl _)) (by decide) sc_0 rfl rfl rfl rfl dX12_hears_39 (fun σ_21 eσ_21 => ?_)
        obtain ⟨eσ_21_a, eσ_21_b⟩ := eσ_21
        have eσ_21_a : RLs σ_21 (drw d) ls (lsN d ls lo) := eσ_21_a
        have eσ_21_b : ∀ a, (a < 4900 ∨ a = 4901 ∨ 4903 ≤ a) → σ_21 a = σ a := eσ_21_b
        have hcRLs_σ_21 : RLs σ_21 (drw d) ls (lsN d ls lo) := eσ_21_a
        have hcHT_σ_21 : HT 5110 μh σ_21 := by exact HT.fr hcHT_σ (fun a ha hb => eσ_21_b a (by first | omega | (simp only [vb] at *; omega)))
        have hcFR_σ_21 : ∀ a, (464 ≤ a ∧ (a < 4900 ∨ a = 4901 ∨ 4903 ≤ a) ∨ a = 10) → σ_21 a = σ a := by intro a ha; exact Eq.trans (b := σ a) (eσ_21_b a (by first | omega | (simp only [vb] at *; omega))) (hcFR_σ a ha)
        have hvσ_21 : vw 0 σ_21 = μ := by rw [vw_fr (σ := σ) (fun j _ _ => eσ_21_b _ (by first | omega | (simp only [vb] at *; omega)))]; first | exact hv | assumption
        refine g_ifB_ne h dX12_hears_42 (fun c42 => ?_) (fun c42 => ?_)
        ·
          refine g_iconst h dX12_hears_49 (by decide) ?_
          exact J50 false σ_21 (by simp [hrH, cms, hon, c5, c20, c35, c42]) (by first | exact hvσ_21 | assumption | fail | fail) (by simp [hrD, hrL, cms, hon, c5, c20, c35, c42]; assumption) (by first | exact hcHT_σ_21 | assumption | fail | fail) (by first | exact hcFR_σ_21 | assumption | fail | fail)
        ·
          refine g_iconst h dX12_hears_45 (by decide) ?_
          refine g_goto h dX12_hears_46 ?_
          exact J50 true σ_21 (by simp [hrH, cms, hon, c5, c20, c35, c42]) (by first | exact hvσ_21 | assumption | fail | fail) (by simp [hrD, hrL, cms, hon, c5, c20, c35, c42]; assumption) (by first | exact hcHT_σ_21 | assumption | fail | fail) (by first | exact hcFR_σ_21 | assumption | fail | fail)

set_option maxRecDepth 100000 in
set_option maxHeartbeats 4000000 in
theorem r_takesIn {l : Launch} {w : Wd} (hW : Wi w) {σ : Mem} (i j n : Nat) (s : Int32) (μ : Nat → Int32) (hv : vw 0 σ = μ) (hI : MI μ) (hi : i < 8) (hj : j < 8) (hn : n < 16) : MC l w qX12_takesIn 2 [.ref (w.1 0), .int (nI i), .int (nI j), .int (nI n), .int s] σ (some (.int (b2i (tkB μ (8 * i + j) n)))) (fun σ' => (vw 0 σ' = tkS μ (8 * i + j) n s) ∧ (∀ a, (464 ≤ a ∨ a = 10) → σ' a = σ a)) := by
  refine MC.of hW (by decide +kernel) (Nat.le_of_ble_eq_true rfl) (fun X h hQ hnm => ?_)
  have h : Fx X w cX12_takesIn 6 RX12 2 := h
  have hQ : Qx X w (some .boolean) (some (.int (b2i (tkB μ (8 * i + j) n)))) (fun σ' => (vw 0 σ' = tkS μ (8 * i + j) n s) ∧ (∀ a, (464 ≤ a ∨ a = 10) → σ' a = σ a)) := hQ
  have hcFR_σ : ∀ a, (464 ≤ a ∨ a = 10) → σ a = σ a := fun _ _ => rfl
  show G X w 6 0 [(0, .ref (w.1 0)), (1, .int (nI i)), (2, .int (nI j)), (3, .int (nI n)), (4, .int s)] [] σ
  refine g_iconst h dX12_takesIn_0 (by decide) ?_
  refine g_iload_n h dX12_takesIn_1 1 rfl ?_
  refine g_iload_n h dX12_takesIn_2 2 rfl ?_
  refine g_cspi (rest := []) h (r_two hW 0 i j ) lX12_two mX12_69 (Nat.lt_of_lt_of_le (by decide) (Nat.le_refl _)) (by decide) rfl rfl rfl dX12_takesIn_3 ?_
  refine g_top (y := (nI (8 * i + j))) (by rw [Nat.zero_add]) ?_
  refine g_istore (L' := [(0, .ref (w.1 0)), (1, .int (nI i)), (2, .int (nI j)), (3, .int (nI n)), (4, .int s), (5, .int (nI (8 * i + j)))]) h dX12_takesIn_6 rfl (by decide) rfl ?_
  refine g_aload_n h dX12_takesIn_8 0 rfl ?_
  refine g_sipush h dX12_takesIn_9 (by decide) ?_
  refine g_iload h dX12_takesIn_12 5 rfl ?_
  refine g_iaddN h dX12_takesIn_14  ?_
  refine g_cvpi (rest := []) h (r_of hW (400 + (8 * i + j)) μ (by assumption) (by omega)) lX12_of mX12_61 (Nat.lt_of_lt_of_le (by decide) (Nat.le_refl _)) (by decide) sc_0 rfl rfl rfl rfl dX12_takesIn_15 ?_
  refine g_top (y := nI (nA μ (400 + (8 * i + j)))) (mi_400 (by assumption) (by omega)) ?_
  have b9_15 : nA μ (400 + (8 * i + j)) < 100 := mb_400 (by assumption) (by omega)
  refine g_ifN_le h dX12_takesIn_18 (by omega) (fun c18 => ?_) (fun c18 => ?_)
  ·
    refine g_aload_n h dX12_takesIn_48 0 rfl ?_
    refine g_sipush h dX12_takesIn_49 (by decide) ?_
    refine g_iload h dX12_takesIn_52 5 rfl ?_
    refine g_iaddN h dX12_takesIn_54  ?_
    refine g_iload h dX12_takesIn_55 4 rfl ?_
    refine g_cvv (rest := []) h (r_puts hW (272 + (8 * i + j)) s (by omega)) lX12_puts mX12_57 (Nat.lt_of_lt_of_le (by decide) (Nat.le_refl _)) (by decide) sc_0 rfl rfl rfl rfl dX12_takesIn_57 (fun σ_1 eσ_1 => ?_)
    have eσ_1_a : σ_1 = upd σ (0 + (272 + (8 * i + j))) s := eσ_1
    have hcFR_σ_1 : ∀ a, (464 ≤ a ∨ a = 10) → σ_1 a = σ a := by intro a ha; exact Eq.trans (b := σ a) (by rw [eσ_1_a, upd_ne (by first | omega | (simp only [vb] at *; omega))]) (hcFR_σ a ha)
    obtain ⟨μ_2, eμ_2⟩ : ∃ μ_2 : Nat → Int32, μ_2 = upd μ (272 + (8 * i + j)) s := ⟨_, rfl⟩
    have hvσ_1 : vw 0 σ_1 = μ_2 := by rw [eσ_1_a, eμ_2, vw_in (by omega)]; congr 1
    refine g_aload_n h dX12_takesIn_60 0 rfl ?_
    refine g_sipush h dX12_takesIn_61 (by decide) ?_
    refine g_iload h dX12_takesIn_64 5 rfl ?_
    refine g_iaddN h dX12_takesIn_66  ?_
    refine g_iload_n h dX12_takesIn_67 3 rfl ?_
    refine g_cvv (rest := []) h (r_puts hW (336 + (8 * i + j)) (nI n) (by omega)) lX12_puts mX12_57 (Nat.lt_of_lt_of_le (by decide) (Nat.le_refl _)) (by decide) sc_0 rfl rfl rfl rfl dX12_takesIn_68 (fun σ_3 eσ_3 => ?_)
    have eσ_3_a : σ_3 = upd σ_1 (0 + (336 + (8 * i + j))) (nI n) := eσ_3
    have hcFR_σ_3 : ∀ a, (464 ≤ a ∨ a = 10) → σ_3 a = σ a := by intro a ha; exact Eq.trans (b := σ_1 a) (by rw [eσ_3_a, upd_ne (by first | omega | (simp only [vb] at *; omega))]) (hcFR_σ_1 a ha)
    obtain ⟨μ_4, eμ_4⟩ : ∃ μ_4 : Nat → Int32, μ_4 = upd μ_2 (336 + (8 * i + j)) (nI n) := ⟨_, rfl⟩
    have hvσ_3 : vw 0 σ_3 = μ_4 := by rw [eσ_3_a, eμ_4, vw_in (by omega)]; congr 1
    refine g_aload_n h dX12_takesIn_71 0 rfl ?_
    refine g_sipush h dX12_takesIn_72 (by decide) ?_
    refine g_iload h dX12_takesIn_75 5 rfl ?_
    refine g_iaddN h dX12_takesIn_77  ?_
    refine g_aload_n h dX12_takesIn_78 0 rfl ?_
    refine g_iconst h dX12_takesIn_79 (by decide) ?_
    refine g_cvpi (rest := [.int (nI (400 + (8 * i + j))), .ref (w.1 0)]) h (r_of hW 4 μ_4 (by assumption) (by omega)) lX12_of mX12_61 (Nat.lt_of_lt_of_le (by decide) (Nat.le_refl _)) (by decide) sc_0 rfl rfl rfl rfl dX12_takesIn_80 ?_
    refine g_top (y := μ_2 4) (by rw [eμ_4, upd_ne (by first | omega | (simp only [vb] at *; omega))]) ?_
    refine g_top (y := μ 4) (by rw [eμ_2, upd_ne (by first | omega | (simp only [vb] at *; omega))]) ?_
    refine g_top (y := nI (nA μ 4)) (mi_4 (by assumption)) ?_
    have b9_80 : nA μ 4 < 100 := mb_4 (by assumption)
    refine g_cvv (rest := []) h (r_puts hW (400 + (8 * i + j)) (nI (nA μ 4)) (by omega)) lX12_puts mX12_57 (Nat.lt_of_lt_of_le (by decide) (Nat.le_refl _)) (by decide) sc_0 rfl rfl rfl rfl dX12_takesIn_83 (fun σ_5 eσ_5 => ?_)
    have eσ_5_a : σ_5 = upd σ_3 (0 + (400 + (8 * i + j))) (nI (nA μ 4)) := eσ_5
    have hcFR_σ_5 : ∀ a, (464 ≤ a ∨ a = 10) → σ_5 a = σ a := by intro a ha; exact Eq.trans (b := σ_3 a) (by rw [eσ_5_a, upd_ne (by first | omega | (simp only [vb] at *; omega))]) (hcFR_σ_3 a ha)
    obtain ⟨μ_6, eμ_6⟩ : ∃ μ_6 : Nat → Int32, μ_6 = upd μ_4 (400 + (8 * i + j)) (nI (nA μ 4)) := ⟨_, rfl⟩
    have hvσ_5 : vw 0 σ_5 = μ_6 := by rw [eσ_5_a, eμ_6, vw_in (by omega)]; congr 1
    refine g_iconst h dX12_takesIn_86 (by decide) ?_
    exact g_zret h hQ dX12_takesIn_87 (show narrow .boolean (.int (b2i true)) = .int (b2i true) from narrow_b2i _) (congrArg (fun z => some (Value.int (b2i z))) (show (tkB μ (8 * i + j) n) = true by first | (simp [tkB, c18]; done) | (simp [tkB, c18]; omega) | fail)) (by exact ⟨(by rw [hvσ_5]; simp [tkS, tkB, c18, eμ_6, eμ_4, eμ_2, Nat.pos_iff_ne_zero, ← mi_4 hI]; try omega), (by exact hcFR_σ_5)⟩)
  ·
    refine g_aload_n h dX12_takesIn_21 0 rfl ?_
    refine g_iload_n h dX12_takesIn_22 3 rfl ?_
    refine g_aload_n h dX12_takesIn_23 0 rfl ?_
    refine g_sipush h dX12_takesIn_24 (by decide) ?_
    refine g_iload h dX12_takesIn_27 5 rfl ?_
    refine g_iaddN h dX12_takesIn_29  ?_
    refine g_cvpi (rest := [.int (nI n), .ref (w.1 0)]) h (r_of hW (336 + (8 * i + j)) μ (by assumption) (by omega)) lX12_of mX12_61 (Nat.lt_of_lt_of_le (by decide) (Nat.le_refl _)) (by decide) sc_0 rfl rfl rfl rfl dX12_takesIn_30 ?_
    refine g_top (y := nI (nA μ (336 + (8 * i + j)))) (mi_336 (by assumption) (by omega)) ?_
    have b9_30 : nA μ (336 + (8 * i + j)) < 16 := mb_336 (by assumption) (by omega)
    refine g_cvpi (rest := []) h (r_isOlder hW n (nA μ (336 + (8 * i + j))) (by omega) (by omega)) lX12_isOlder mX12_138 (Nat.lt_of_lt_of_le (by decide) (Nat.le_refl _)) (by decide) sc_0 rfl rfl rfl rfl dX12_takesIn_33 ?_
    refine g_ifB_eq h dX12_takesIn_36 (fun c36 => ?_) (fun c36 => ?_)
    ·
      refine g_aload_n h dX12_takesIn_48 0 rfl ?_
      refine g_sipush h dX12_takesIn_49 (by decide) ?_
      refine g_iload h dX12_takesIn_52 5 rfl ?_
      refine g_iaddN h dX12_takesIn_54  ?_
      refine g_iload h dX12_takesIn_55 4 rfl ?_
      refine g_cvv (rest := []) h (r_puts hW (272 + (8 * i + j)) s (by omega)) lX12_puts mX12_57 (Nat.lt_of_lt_of_le (by decide) (Nat.le_refl _)) (by decide) sc_0 rfl rfl rfl rfl dX12_takesIn_57 (fun σ_7 eσ_7 => ?_)
      have eσ_7_a : σ_7 = upd σ (0 + (272 + (8 * i + j))) s := eσ_7
      have hcFR_σ_7 : ∀ a, (464 ≤ a ∨ a = 10) → σ_7 a = σ a := by intro a ha; exact Eq.trans (b := σ a) (by rw [eσ_7_a, upd_ne (by first | omega | (simp only [vb] at *; omega))]) (hcFR_σ a ha)
      obtain ⟨μ_8, eμ_8⟩ : ∃ μ_8 : Nat → Int32, μ_8 = upd μ (272 + (8 * i + j)) s := ⟨_, rfl⟩
      have hvσ_7 : vw 0 σ_7 = μ_8 := by rw [eσ_7_a, eμ_8, vw_in (by omega)]; congr 1
      refine g_aload_n h dX12_takesIn_60 0 rfl ?_
      refine g_sipush h dX12_takesIn_61 (by decide) ?_
      refine g_iload h dX12_takesIn_64 5 rfl ?_
      refine g_iaddN h dX12_takesIn_66  ?_
      refine g_iload_n h dX12_takesIn_67 3 rfl ?_
      refine g_cvv (rest := []) h (r_puts hW (336 + (8 * i + j)) (nI n) (by omega)) lX12_puts mX12_57 (Nat.lt_of_lt_of_le (by decide) (Nat.le_refl _)) (by decide) sc_0 rfl rfl rfl rfl dX12_takesIn_68 (fun σ_9 eσ_9 => ?_)
      have eσ_9_a : σ_9 = upd σ_7 (0 + (336 + (8 * i + j))) (nI n) := eσ_9
      have hcFR_σ_9 : ∀ a, (464 ≤ a ∨ a = 10) → σ_9 a = σ a := by intro a ha; exact Eq.trans (b := σ_7 a) (by rw [eσ_9_a, upd_ne (by first | omega | (simp only [vb] at *; omega))]) (hcFR_σ_7 a ha)
      obtain ⟨μ_10, eμ_10⟩ : ∃ μ_10 : Nat → Int32, μ_10 = upd μ_8 (336 + (8 * i + j)) (nI n) := ⟨_, rfl⟩
      have hvσ_9 : vw 0 σ_9 = μ_10 := by rw [eσ_9_a, eμ_10, vw_in (by omega)]; congr 1
      refine g_aload_n h dX12_takesIn_71 0 rfl ?_
      refine g_sipush h dX12_takesIn_72 (by decide) ?_
      refine g_iload h dX12_takesIn_75 5 rfl ?_
      refine g_iaddN h dX12_takesIn_77  ?_
      refine g_aload_n h dX12_takesIn_78 0 rfl ?_
      refine g_iconst h dX12_takesIn_79 (by decide) ?_
      refine g_cvpi (rest := [.int (nI (400 + (8 * i + j))), .ref (w.1 0)]) h (r_of hW 4 μ_10 (by assumption) (by omega)) lX12_of mX12_61 (Nat.lt_of_lt_of_le (by decide) (Nat.le_refl _)) (by decide) sc_0 rfl rfl rfl rfl dX12_takesIn_80 ?_
      refine g_top (y := μ_8 4) (by rw [eμ_10, upd_ne (by first | omega | (simp only [vb] at *; omega))]) ?_
      refine g_top (y := μ 4) (by rw [eμ_8, upd_ne (by first | omega | (simp only [vb] at *; omega))]) ?_
      refine g_top (y := nI (nA μ 4)) (mi_4 (by assumption)) ?_
      have b9_80 : nA μ 4 < 100 := mb_4 (by assumption)
      refine g_cvv (rest := []) h (r_puts hW (400 + (8 * i + j)) (nI (nA μ 4)) (by omega)) lX12_puts mX12_57 (Nat.lt_of_lt_of_le (by decide) (Nat.le_refl _)) (by decide) sc_0 rfl rfl rfl rfl dX12_takesIn_83 (fun σ_11 eσ_11 => ?_)
      have eσ_11_a : σ_11 = upd σ_9 (0 + (400 + (8 * i + j))) (nI (nA μ 4)) := eσ_11
      have hcFR_σ_11 : ∀ a, (464 ≤ a ∨ a = 10) → σ_11 a = σ a := by intro a ha; exact Eq.trans (b := σ_9 a) (by rw [eσ_11_a, upd_ne (by first | omega | (simp only [vb] at *; omega))]) (hcFR_σ_9 a ha)
      obtain ⟨μ_12, eμ_12⟩ : ∃ μ_12 : Nat → Int32, μ_12 = upd μ_10 (400 + (8 * i + j)) (nI (nA μ 4)) := ⟨_, rfl⟩
      have hvσ_11 : vw 0 σ_11 = μ_12 := by rw [eσ_11_a, eμ_12, vw_in (by omega)]; congr 1
      refine g_iconst h dX12_takesIn_86 (by decide) ?_
      exact g_zret h hQ dX12_takesIn_87 (show narrow .boolean (.int (b2i true)) = .int (b2i true) from narrow_b2i _) (congrArg (fun z => some (Value.int (b2i z))) (show (tkB μ (8 * i + j) n) = true by first | (simp [tkB, c18, c36]; done) | (simp [tkB, c18, c36]; omega) | fail)) (by exact ⟨(by rw [hvσ_11]; simp [tkS, tkB, c18, c36, eμ_12, eμ_10, eμ_8, Nat.pos_iff_ne_zero, ← mi_4 hI]; try omega), (by exact hcFR_σ_11)⟩)
    ·
      refine g_aload_n h dX12_takesIn_39 0 rfl ?_
      refine g_bipush h dX12_takesIn_40 (by decide) ?_
      refine g_iconst h dX12_takesIn_42 (by decide) ?_
      refine g_cvv (rest := []) h (r_addsP hW 9 (nI 1) μ (by first | exact hv | assumption | fail) (by omega)) lX12_adds mX12_141 (Nat.lt_of_lt_of_le (by decide) (Nat.le_refl _)) (by decide) sc_0 rfl rfl rfl rfl dX12_takesIn_43 (fun σ_13 eσ_13 => ?_)
      have eσ_13_a : σ_13 = upd σ (0 + 9) (μ 9 + (nI 1)) := eσ_13
      have hcFR_σ_13 : ∀ a, (464 ≤ a ∨ a = 10) → σ_13 a = σ a := by intro a ha; exact Eq.trans (b := σ a) (by rw [eσ_13_a, upd_ne (by first | omega | (simp only [vb] at *; omega))]) (hcFR_σ a ha)
      obtain ⟨μ_14, eμ_14⟩ : ∃ μ_14 : Nat → Int32, μ_14 = upd μ 9 (μ 9 + (nI 1)) := ⟨_, rfl⟩
      have hvσ_13 : vw 0 σ_13 = μ_14 := by rw [eσ_13_a, eμ_14, vw_in (by omega)]; congr 1
      refine g_iconst h dX12_takesIn_46 (by decide) ?_
      exact g_zret h hQ dX12_takesIn_47 (show narrow .boolean (.int (b2i false)) = .int (b2i false) from narrow_b2i _) (congrArg (fun z => some (Value.int (b2i z))) (show (tkB μ (8 * i + j) n) = false by first | (simp [tkB, c18, c36]; done) | (simp [tkB, c18, c36]; omega) | fail)) (by exact ⟨(by rw [hvσ_13]; simp [tkS, tkB, c18, c36, eμ_14, Nat.pos_iff_ne_zero, ← mi_4 hI]; try omega), (by exact hcFR_σ_13)⟩)

set_option maxRecDepth 100000 in
set_option maxHeartbeats 4000000 in
theorem r_mayGet {l : Launch} {w : Wd} (hW : Wi w) {σ : Mem} (i f : Nat) (μ : Nat → Int32) (hv : vw 0 σ = μ) (hI : MI μ) (hi : i < 8) (hf : f < 8) (hof : tb (μ 1) f = true) : MC l w qX12_mayGet 2 [.ref (w.1 0), .int (nI i), .int (nI f)] σ (some (.int (b2i (may μ i f)))) (fun σ' => σ' = σ) := by
  refine MC.of hW (by decide +kernel) (Nat.le_of_ble_eq_true rfl) (fun X h hQ hnm => ?_)
  have h : Fx X w cX12_mayGet 3 RX12 2 := h
  have hQ : Qx X w (some .boolean) (some (.int (b2i (may μ i f)))) (fun σ' => σ' = σ) := hQ
  show G X w 3 0 [(0, .ref (w.1 0)), (1, .int (nI i)), (2, .int (nI f))] [] σ
  refine g_iload_n h dX12_mayGet_0 1 rfl ?_
  refine g_iload_n h dX12_mayGet_1 2 rfl ?_
  refine g_icmpN_eq h dX12_mayGet_2 (by omega) (by omega) (fun c2 => ?_) (fun c2 => ?_)
  ·
    refine g_iconst h dX12_mayGet_62 (by decide) ?_
    exact g_zret h hQ dX12_mayGet_63 (show narrow .boolean (.int (b2i false)) = .int (b2i false) from narrow_b2i _) (congrArg (fun z => some (Value.int (b2i z))) (show (may μ i f) = false by first | (subst c2; simp [may, (mi_self hI hi).2]; done) | (simp [may, cms, hof, c2]; done) | fail)) rfl
  ·
    refine g_aload_n h dX12_mayGet_5 0 rfl ?_
    refine g_iload_n h dX12_mayGet_6 1 rfl ?_
    refine g_cvpi (rest := []) h (r_isOn hW i μ (by assumption) (by omega)) lX12_isOn mX12_114 (Nat.lt_of_lt_of_le (by decide) (Nat.le_refl _)) (by decide) sc_0 rfl rfl rfl rfl dX12_mayGet_7 ?_
    refine g_ifB_eq h dX12_mayGet_10 (fun c10 => ?_) (fun c10 => ?_)
    ·
      refine g_iconst h dX12_mayGet_62 (by decide) ?_
      exact g_zret h hQ dX12_mayGet_63 (show narrow .boolean (.int (b2i false)) = .int (b2i false) from narrow_b2i _) (congrArg (fun z => some (Value.int (b2i z))) (show (may μ i f) = false by first | (subst c2; simp [may, (mi_self hI hi).2]; done) | (simp [may, cms, hof, c2, c10]; done) | fail)) rfl
    ·
      refine g_aload_n h dX12_mayGet_13 0 rfl ?_
      refine g_bipush h dX12_mayGet_14 (by decide) ?_
      refine g_iload_n h dX12_mayGet_16 1 rfl ?_
      refine g_iaddN h dX12_mayGet_17  ?_
      refine g_cvpi (rest := []) h (r_of hW (24 + i) μ (by assumption) (by omega)) lX12_of mX12_61 (Nat.lt_of_lt_of_le (by decide) (Nat.le_refl _)) (by decide) sc_0 rfl rfl rfl rfl dX12_mayGet_18 ?_
      refine g_iload_n h dX12_mayGet_21 2 rfl ?_
      refine g_cspi (rest := []) h (r_has hW (μ (24 + i)) f (by omega)) lX12_has mX12_65 (Nat.lt_of_lt_of_le (by decide) (Nat.le_refl _)) (by decide) rfl rfl rfl dX12_mayGet_22 ?_
      refine g_ifB_eq h dX12_mayGet_25 (fun c25 => ?_) (fun c25 => ?_)
      ·
        refine g_iconst h dX12_mayGet_62 (by decide) ?_
        exact g_zret h hQ dX12_mayGet_63 (show narrow .boolean (.int (b2i false)) = .int (b2i false) from narrow_b2i _) (congrArg (fun z => some (Value.int (b2i z))) (show (may μ i f) = false by first | (subst c2; simp [may, (mi_self hI hi).2]; done) | (simp [may, cms, hof, c2, c10, c25]; done) | fail)) rfl
      ·
        refine g_aload_n h dX12_mayGet_28 0 rfl ?_
        refine g_bipush h dX12_mayGet_29 (by decide) ?_
        refine g_iload_n h dX12_mayGet_31 1 rfl ?_
        refine g_iaddN h dX12_mayGet_32  ?_
        refine g_cvpi (rest := []) h (r_of hW (64 + i) μ (by assumption) (by omega)) lX12_of mX12_61 (Nat.lt_of_lt_of_le (by decide) (Nat.le_refl _)) (by decide) sc_0 rfl rfl rfl rfl dX12_mayGet_33 ?_
        refine g_iload_n h dX12_mayGet_36 2 rfl ?_
        refine g_cspi (rest := []) h (r_has hW (μ (64 + i)) f (by omega)) lX12_has mX12_65 (Nat.lt_of_lt_of_le (by decide) (Nat.le_refl _)) (by decide) rfl rfl rfl dX12_mayGet_37 ?_
        refine g_ifB_eq h dX12_mayGet_40 (fun c40 => ?_) (fun c40 => ?_)
        ·
          refine g_iconst h dX12_mayGet_62 (by decide) ?_
          exact g_zret h hQ dX12_mayGet_63 (show narrow .boolean (.int (b2i false)) = .int (b2i false) from narrow_b2i _) (congrArg (fun z => some (Value.int (b2i z))) (show (may μ i f) = false by first | (subst c2; simp [may, (mi_self hI hi).2]; done) | (simp [may, cms, hof, c2, c10, c25, c40]; done) | fail)) rfl
        ·
          refine g_aload_n h dX12_mayGet_43 0 rfl ?_
          refine g_sipush h dX12_mayGet_44 (by decide) ?_
          refine g_iload_n h dX12_mayGet_47 2 rfl ?_
          refine g_iload_n h dX12_mayGet_48 1 rfl ?_
          refine g_cspi (rest := [.ref (w.1 0)]) h (r_two hW 208 f i ) lX12_two mX12_69 (Nat.lt_of_lt_of_le (by decide) (Nat.le_refl _)) (by decide) rfl rfl rfl dX12_mayGet_49 ?_
          refine g_cvpi (rest := []) h (r_of hW (208 + (8 * f + i)) μ (by assumption) (by omega)) lX12_of mX12_61 (Nat.lt_of_lt_of_le (by decide) (Nat.le_refl _)) (by decide) sc_0 rfl rfl rfl rfl dX12_mayGet_52 ?_
          refine g_top (y := nI (nA μ (208 + (8 * f + i)))) (mi_208 (by assumption) (by omega)) ?_
          have b9_52 : nA μ (208 + (8 * f + i)) < 100 := mb_208 (by assumption) (by omega)
          refine g_ifN_ne h dX12_mayGet_55 (by omega) (fun c55 => ?_) (fun c55 => ?_)
          ·
            refine g_iconst h dX12_mayGet_62 (by decide) ?_
            exact g_zret h hQ dX12_mayGet_63 (show narrow .boolean (.int (b2i false)) = .int (b2i false) from narrow_b2i _) (congrArg (fun z => some (Value.int (b2i z))) (show (may μ i f) = false by first | (subst c2; simp [may, (mi_self hI hi).2]; done) | (simp [may, cms, hof, c2, c10, c25, c40, c55]; done) | fail)) rfl
          ·
            refine g_iconst h dX12_mayGet_58 (by decide) ?_
            refine g_goto h dX12_mayGet_59 ?_
            exact g_zret h hQ dX12_mayGet_63 (show narrow .boolean (.int (b2i true)) = .int (b2i true) from narrow_b2i _) (congrArg (fun z => some (Value.int (b2i z))) (show (may μ i f) = true by first | (subst c2; simp [may, (mi_self hI hi).2]; done) | (simp [may, cms, hof, c2, c10, c25, c40, c55]; done) | fail)) rfl
